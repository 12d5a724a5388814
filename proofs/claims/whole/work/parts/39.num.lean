theorem zTask_in {F : Nat} (hF : F ≤ 3) (y : Int32) : zTask (nI F) y = zIn y 0 (1 + nI F) := by
  have e1 : (1 : Int32) + nI F = nI (1 + F) := nI_add 1 F
  rw [e1]
  unfold zTask zIn
  by_cases h0 : y < 0
  · rw [if_pos h0, if_neg (by rintro rfl; exact absurd h0 (by decide)), if_neg (by rintro rfl; exact absurd h0 (by decide))]
    rw [if_neg]
    intro g
    obtain ⟨j, hj, ej⟩ := zHas_n (by omega) g
    have e2 : y = nI (j + 2) := by
      rw [← nI_add, ← ej]
      show y = y - 2 + 2
      rw [Int32.sub_add_cancel]
    rw [e2] at h0
    exact nI_pos (by omega) h0
  · rw [if_neg h0]
    obtain ⟨t, ht, rfl⟩ := nI_of h0
    by_cases h2 : t < 2
    · rw [if_neg (nI_nlt (by omega) (by omega))]
      rcases (show t = 0 ∨ t = 1 by omega) with rfl | rfl
      · rw [if_pos (by decide)]
      · rw [if_neg (by decide), if_pos (by decide)]
    · have n0 : ¬ nI t = 0 := nI_ne0 (by omega) ht
      have n1 : ¬ nI t = 1 := fun q => by
        have := (nI_eq (a := t) (b := 1) ht (by decide)).mp q
        omega
      rw [if_neg n0, if_neg n1, show nI t - 2 = nI (t - 2) from pk_sub (b := 2) (by omega)]
      by_cases h3 : t - 2 < F
      · rw [zHas_1 h3 (by omega), if_pos (by decide), if_neg (nI_nlt (by omega) (by omega))]
      · rw [if_pos (nI_lt (show 1 + F < t by omega) ht), if_neg]
        intro g
        obtain ⟨j, hj, ej⟩ := zHas_n (by omega) g
        have := (nI_eq (show t - 2 < 2 ^ 31 by omega) (by omega)).mp ej
        omega
theorem zTask_n {F t : Nat} (hF : F ≤ 3) (ht : t < 1000) : (zTask (nI F) (nI t) = 0) ↔ 2 + F ≤ t := by
  rw [zTask_in hF, show (1 : Int32) + nI F = nI (1 + F) from nI_add 1 F, zIn, if_neg (nI_pos (by omega))]
  by_cases h : 1 + F < t
  · rw [if_pos (nI_lt h (by omega))]
    exact ⟨fun _ => by omega, fun _ => rfl⟩
  · rw [if_neg (nI_nlt (by omega) (by omega))]
    exact ⟨fun q => absurd q (by decide), fun q => by omega⟩
/-- the next plan has the next row's figures -/
theorem zSt_d {F H n : Nat} (hF : F ≤ 3) (hN : n + 1 < (2 + F) ^ H) : ∀ k pt, k ≤ H → (n + 1) % (2 + F) ^ (H - k) = 0 → (∀ h, h < k → pt h = zDt (2 + F) H n h) → (∀ h, k ≤ h → h < H → pt h = zDt (2 + F) H (n + 1) h) → ∀ h, h < H → zSt (nI F) k pt h = zDt (2 + F) H (n + 1) h
  | 0, pt, _, hm, _, _ => by
    rw [Nat.sub_zero, Nat.mod_eq_of_lt hN] at hm
    omega
  | k + 1, pt, hk, hm, h1, h2 => by
    have hb : 0 < 2 + F := by omega
    generalize hB : (2 + F) ^ (H - (k + 1)) = B at hm
    have hB0 : 0 < B := by rw [← hB]; exact Nat.pow_pos hb
    obtain ⟨c, hc⟩ : ∃ c, n + 1 = B * c := ⟨(n + 1) / B, (Nat.mul_div_cancel' (Nat.dvd_of_mod_eq_zero hm)).symm⟩
    have hc0 : 0 < c := by
      rcases Nat.eq_zero_or_pos c with q | q
      · rw [q] at hc; omega
      · exact q
    have d1 : (n + 1) / B = c := by rw [hc, Nat.mul_div_cancel_left _ hB0]
    have d0 : n / B = c - 1 := by
      have e : n = (B - 1) + B * (c - 1) := by
        have : B * c = B * (c - 1) + B := by
          conv => lhs; rw [show c = (c - 1) + 1 by omega, Nat.mul_add, Nat.mul_one]
        omega
      rw [e, Nat.add_mul_div_left _ _ hB0, Nat.div_eq_of_lt (by omega), Nat.zero_add]
    have g0 : zDg (2 + F) H n k = (c - 1) % (2 + F) := by
      rw [zDg, show H - 1 - k = H - (k + 1) by omega, hB, d0]
    have g1 : zDg (2 + F) H (n + 1) k = c % (2 + F) := by
      rw [zDg, show H - 1 - k = H - (k + 1) by omega, hB, d1]
    have p0 : pt k = nI ((c - 1) % (2 + F)) := by
      rw [h1 k (by omega), zDt, g0]
    have hmod : (c - 1) % (2 + F) < 2 + F := Nat.mod_lt _ hb
    have hsplit := Nat.div_add_mod (c - 1) (2 + F)
    rw [zSt, p0, nI_1]
    by_cases t : zTask (nI F) (nI ((c - 1) % (2 + F) + 1)) = 0
    · rw [if_pos t]
      have t2 := (zTask_n hF (by omega)).mp t
      have e3 : c = (2 + F) * ((c - 1) / (2 + F) + 1) := by rw [Nat.mul_add, Nat.mul_one]; omega
      have e4 : c % (2 + F) = 0 := by rw [e3, Nat.mul_mod_right]
      refine zSt_d hF hN k _ (by omega) ?_ (fun h hh => ?_) (fun h hh hh2 => ?_)
      · rw [show H - k = (H - (k + 1)) + 1 by omega, Nat.pow_succ, hB, hc, e3, ← Nat.mul_assoc, Nat.mul_mod_right]
      · rw [pk_un (by omega), pk_un (by omega)]
        exact h1 h (by omega)
      · by_cases e : h = k
        · subst e
          rw [pk_us, zDt, g1, e4]
          rfl
        · rw [pk_un e, pk_un e]
          exact h2 h (by omega) hh2
    · rw [if_neg t]
      have t2 : ¬ 2 + F ≤ (c - 1) % (2 + F) + 1 := fun q => t ((zTask_n hF (by omega)).mpr q)
      have e3 : c = ((c - 1) % (2 + F) + 1) + (2 + F) * ((c - 1) / (2 + F)) := by omega
      have e4 : c % (2 + F) = (c - 1) % (2 + F) + 1 := by
        conv => lhs; rw [e3, Nat.add_mul_mod_self_left]
        exact Nat.mod_eq_of_lt (by omega)
      have e5 : c / (2 + F) = (c - 1) / (2 + F) := by
        conv => lhs; rw [e3, Nat.add_mul_div_left _ _ hb]
        rw [Nat.div_eq_of_lt (by omega), Nat.zero_add]
      intro h hh
      by_cases e : h = k
      · subst e
        rw [pk_us, zDt, g1, e4]
      · rw [pk_un e]
        rcases Nat.lt_or_ge h k with q | q
        · rw [h1 h (by omega)]
          have e6 : (2 + F) ^ (H - 1 - h) = B * ((2 + F) * (2 + F) ^ (k - h - 1)) := by
            rw [← hB, ← Nat.pow_succ', ← Nat.pow_add]
            congr 1
            omega
          rw [zDt, zDt, zDg, zDg, e6, ← Nat.div_div_eq_div_mul, ← Nat.div_div_eq_div_mul, ← Nat.div_div_eq_div_mul, ← Nat.div_div_eq_div_mul, d0, d1, e5]
        · exact h2 h (by omega) hh
theorem zBu_c {p q : Nat → Int32} : ∀ H, (∀ h, h < H → p h = q h) → zBu p H = zBu q H
  | 0, _ => rfl
  | H + 1, e => by rw [zBu, zBu, e H (by omega), zBu_c H (fun h hh => e h (by omega))]
theorem zFg_c {p q : Nat → Int32} : ∀ H, (∀ h, h < H → p h = q h) → zFg p H = zFg q H
  | 0, _ => rfl
  | H + 1, e => by rw [zFg, zFg, e H (by omega), zFg_c H (fun h hh => e h (by omega))]
/-- two weighings: all alike but bestBusy, while nothing is found -/
def zWr (b c : Int32 × Int32 × Int32 × Int32 × Int32) : Prop := b.1 = c.1 ∧ b.2.1 = c.2.1 ∧ (b.2.1 = -9 ∨ b.2.2.1 = c.2.2.1) ∧ b.2.2.2 = c.2.2.2
theorem zWr_s {gc m fg : Int32} {N z : Nat} {b c : Int32 × Int32 × Int32 × Int32 × Int32} (hN : N < 1000) (h : zWr b c) : zWr (zWg gc m (nI N) (nI z) fg b) (zWg gc m (nI N) (nI z) fg c) := by
  obtain ⟨b1, b2, b3, b45⟩ := b
  obtain ⟨c1, c2, c3, c45⟩ := c
  obtain ⟨h1, h2, h3, h4⟩ := h
  simp only at h1 h2 h3 h4
  subst h1 h2 h4
  rcases h3 with h3 | h3
  · subst h3
    have hlt : (-9 : Int32) < nI N := by
      rw [Int32.lt_iff_toInt_lt, nI_toInt (by omega)]
      have : (-9 : Int32).toInt = -9 := by decide
      omega
    unfold zWr zWg zTk
    simp only [hlt, reduceIte, z10]
    by_cases g : gc ≤ m
    · simp only [g, reduceIte]
      exact ⟨trivial, trivial, Or.inr trivial, trivial⟩
    · simp only [g, reduceIte]
      exact ⟨trivial, trivial, Or.inl trivial, trivial⟩
  · subst h3
    exact ⟨rfl, rfl, Or.inr rfl, rfl⟩
theorem zWa_F {gs gk gf ns pg mq : Nat → Int32} {H F : Nat} {gc n2 : Int32} {mw : Int32 × Int32} {s : zStt} {pl0 : Nat → Int32} {wk : zWkT} (hg : zGd gs gk gf H F) (hH : H ≤ 5) (hF : F ≤ 3) (h : zSr H F pg s) (hns : ns = s.2.1) (hn2 : n2 = s.2.2.1) :
    ∀ n, n < (2 + F) ^ H → (∀ j, j < H → (zWa gs gk gf F H gc ns n2 ((zFil pl0 0 5, -9, -9, -9, -9, 0), wk) n).1.1 j = zDt (2 + F) H n j) ∧ zWr (zWa gs gk gf F H gc ns n2 ((zFil pl0 0 5, -9, -9, -9, -9, 0), wk) n).1.2 (zFp gs gk gf F H gc pg mq mw n).2.1 ∧ zWr (zWa gs gk gf F H gc ns n2 ((zFil pl0 0 5, -9, -9, -9, -9, 0), wk) (n + 1)).1.2 (zFp gs gk gf F H gc pg mq mw (n + 1)).2.1 := by
  intro n
  have key : ∀ n, n < (2 + F) ^ H → (∀ j, j < H → (zWa gs gk gf F H gc ns n2 ((zFil pl0 0 5, -9, -9, -9, -9, 0), wk) n).1.1 j = zDt (2 + F) H n j) → zWr (zWa gs gk gf F H gc ns n2 ((zFil pl0 0 5, -9, -9, -9, -9, 0), wk) n).1.2 (zFp gs gk gf F H gc pg mq mw n).2.1 → zWr (zWa gs gk gf F H gc ns n2 ((zFil pl0 0 5, -9, -9, -9, -9, 0), wk) (n + 1)).1.2 (zFp gs gk gf F H gc pg mq mw (n + 1)).2.1 := by
    intro n hn h1 h2
    obtain ⟨q1, q2, q3, ⟨x, u, q4, q5, q6⟩, ⟨q7, -⟩, -⟩ := h
    simp only [zWa, zWs, zFp, zFs]
    generalize zWa gs gk gf F H gc ns n2 ((zFil pl0 0 5, -9, -9, -9, -9, 0), wk) n = S at h1 h2 ⊢
    generalize zFp gs gk gf F H gc pg mq mw n = M at h2 ⊢
    have e5 : ∀ f, f < F → (zC16 (zDt (2 + F) H n) (zC16 pg M.1 16) H) (5 + f) = pg (5 + f) := fun f hf => by
      unfold zC16
      rw [if_neg (by omega), if_pos (by omega)]
    have e8 : (zC16 (zDt (2 + F) H n) (zC16 pg M.1 16) H) 8 = pg 8 := by
      unfold zC16
      rw [if_neg (by omega), if_pos (by omega)]
    have eD : (zMd gs gk gf F H (zC16 (zDt (2 + F) H n) (zC16 pg M.1 16) H)).2 = (zDay gs gk gf (nI F) H S.1.1 (va_cpy ns S.2.1 0 0 3) n2).2 := by
      rw [zMd, e8, hn2, ← q7]
      refine (zDay_c hF (fun j hj => ?_) (fun f hf => ?_)).1
      · rw [h1 j hj, zC16, if_pos hj]
      · rw [zcp5 (by omega), hns, ← q3 f hf]
        exact e5 f hf
    obtain ⟨y, v, M1, N, -, -, -, bN, -, b6, b7⟩ := zDay_b (tk := zC16 (zDt (2 + F) H n) (zC16 pg M.1 16) H) (s := fun j => (zC16 (zDt (2 + F) H n) (zC16 pg M.1 16) H) (5 + j)) hg hF hH (fun f hf => by rw [e5 f hf]; exact q4 f hf) (show (zC16 (zDt (2 + F) H n) (zC16 pg M.1 16) H) 8 = nI u by rw [e8]; exact q5) q6
    have bN2 : (zMd gs gk gf F H (zC16 (zDt (2 + F) H n) (zC16 pg M.1 16) H)).2.2.2 = nI N := bN
    rw [← eD, zBu_c H h1, zFg_c H h1, bN2]
    exact zWr_s (by omega) h2
  induction n with
  | zero =>
    intro hn
    have a1 : ∀ j, j < H → (zWa gs gk gf F H gc ns n2 ((zFil pl0 0 5, -9, -9, -9, -9, 0), wk) 0).1.1 j = zDt (2 + F) H 0 j := fun j hj => by
      show zFil pl0 0 5 j = nI (0 / (2 + F) ^ (H - 1 - j) % (2 + F))
      rw [zFil, if_pos (by omega), Nat.zero_div, Nat.zero_mod]
      rfl
    have a2 : zWr (zWa gs gk gf F H gc ns n2 ((zFil pl0 0 5, -9, -9, -9, -9, 0), wk) 0).1.2 (zFp gs gk gf F H gc pg mq mw 0).2.1 := ⟨rfl, rfl, Or.inl rfl, rfl⟩
    exact ⟨a1, a2, key 0 hn a1 a2⟩
  | succ n ih =>
    intro hn
    obtain ⟨a1, a2, a3⟩ := ih (by omega)
    have a4 : ∀ j, j < H → (zWa gs gk gf F H gc ns n2 ((zFil pl0 0 5, -9, -9, -9, -9, 0), wk) (n + 1)).1.1 j = zDt (2 + F) H (n + 1) j := fun j hj => by
      show zSt (nI F) H (zWa gs gk gf F H gc ns n2 ((zFil pl0 0 5, -9, -9, -9, -9, 0), wk) n).1.1 j = _
      exact zSt_d hF hn H _ (Nat.le_refl _) (by rw [Nat.sub_self, Nat.pow_zero, Nat.mod_one]) a1 (fun h q1 q2 => by omega) j hj
    exact ⟨a4, a3, key (n + 1) hn a4 a3⟩
theorem zWa_e {gs gk gf ns pg mq : Nat → Int32} {H F : Nat} {gc n2 : Int32} {mw : Int32 × Int32} {s : zStt} {pl0 : Nat → Int32} {wk : zWkT} (hg : zGd gs gk gf H F) (hH : H ≤ 5) (hF : F ≤ 3) (h : zSr H F pg s) (hns : ns = s.2.1) (hn2 : n2 = s.2.2.1) :
    zWr (zWa gs gk gf F H gc ns n2 ((zFil pl0 0 5, -9, -9, -9, -9, 0), wk) ((2 + F) ^ H)).1.2 (zFp gs gk gf F H gc pg mq mw ((2 + F) ^ H)).2.1 := by
  have hp : 0 < (2 + F) ^ H := Nat.pow_pos (by omega)
  have := (zWa_F (gc := gc) (mq := mq) (mw := mw) (pl0 := pl0) (wk := wk) hg hH hF h hns hn2 ((2 + F) ^ H - 1) (by omega)).2.2
  rw [show (2 + F) ^ H - 1 + 1 = (2 + F) ^ H by omega] at this
  exact this
