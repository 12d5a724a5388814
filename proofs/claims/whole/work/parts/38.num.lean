/-! ===== the class's words and the reference's ===== -/
theorem zRk_c {gs gk gf tk tk2 s s2 : Nat → Int32} {F : Nat} {u : Int32} (hF : F ≤ 3) : ∀ i, (∀ h, h < i → tk h = tk2 h) → (∀ f, f < F → s f = s2 f) → (zRk gs gk gf (nI F) tk s u i).2 = (zRk gs gk gf (nI F) tk2 s2 u i).2 ∧ ∀ f, f < F → (zRk gs gk gf (nI F) tk s u i).1 f = (zRk gs gk gf (nI F) tk2 s2 u i).1 f
  | 0, _, hs => ⟨rfl, hs⟩
  | i + 1, ht, hs => by
    obtain ⟨h1, h2⟩ := zRk_c (gs := gs) (gk := gk) (gf := gf) (u := u) hF i (fun h hh => ht h (by omega)) hs
    have e := ht i (by omega)
    simp only [zRk, ← e]
    generalize zRk gs gk gf (nI F) tk s u i = A at h1 h2 ⊢
    generalize zRk gs gk gf (nI F) tk2 s2 u i = B at h1 h2 ⊢
    obtain ⟨a1, a2, a3⟩ := A
    obtain ⟨b1, b2, b3⟩ := B
    simp only [Prod.mk.injEq] at h1 h2 ⊢
    obtain ⟨rfl, rfl⟩ := h1
    by_cases g : tk i = 1
    · simp only [g, reduceIte]
      exact ⟨trivial, h2⟩
    · simp only [g, reduceIte, zGt]
      by_cases g2 : zHas (nI F) (tk i - 2) = 0
      · simp only [g2, reduceIte]
        exact ⟨trivial, h2⟩
      · obtain ⟨j, hj, ej⟩ := zHas_n (by omega) g2
        simp only [g2, reduceIte]
        simp only [ej, nI_clamp (show j < 2 ^ 31 by omega), h2 j hj]
        refine ⟨by first | trivial | rfl, fun f hf => ?_⟩
        show upd a1 j _ f = upd b1 j _ f
        unfold upd
        split
        · rfl
        · exact h2 f hf
theorem zDay_c {gs gk gf tk tk2 s s2 : Nat → Int32} {F H : Nat} {u : Int32} (hF : F ≤ 3) (ht : ∀ h, h < H → tk h = tk2 h) (hs : ∀ f, f < F → s f = s2 f) : (zDay gs gk gf (nI F) H tk s u).2 = (zDay gs gk gf (nI F) H tk2 s2 u).2 ∧ ∀ f, f < F → (zDay gs gk gf (nI F) H tk s u).1 f = (zDay gs gk gf (nI F) H tk2 s2 u).1 f := by
  obtain ⟨h1, h2⟩ := zRk_c (gs := gs) (gk := gk) (gf := gf) (u := u) hF H ht hs
  refine ⟨?_, h2⟩
  simp only [zDay, zDs, zDm]
  rw [h1]
def zSm (x : Nat → Nat) : Nat → Nat
  | 0 => 0
  | f + 1 => zSm x f + x f
theorem zSm_c {x y : Nat → Nat} : ∀ F, (∀ f, f < F → x f = y f) → zSm x F = zSm y F
  | 0, _ => rfl
  | F + 1, h => by rw [zSm, zSm, zSm_c F (fun f hf => h f (by omega)), h F (by omega)]
theorem zSm_le {x : Nat → Nat} : ∀ {F f : Nat}, f < F → x f ≤ zSm x F
  | 0, f, h => by omega
  | F + 1, f, h => by
    rw [zSm]
    rcases Nat.lt_or_ge f F with g | g
    · have := zSm_le (x := x) g
      omega
    · rw [show f = F by omega]; omega
theorem zSm_u {x : Nat → Nat} {j b : Nat} (hb : b ≤ x j) : ∀ F, j < F → zSm (fun f => if f = j then x j - b else x f) F + b = zSm x F
  | 0, h => by omega
  | F + 1, h => by
    rw [zSm, zSm]
    rcases Nat.lt_or_ge j F with g | g
    · have := zSm_u hb F g
      rw [if_neg (show ¬ F = j by omega)]
      omega
    · obtain rfl : j = F := by omega
      rw [if_pos rfl, zSm_c (y := x) j (fun f hf => if_neg (by omega))]
      omega
def zGd (gs gk gf : Nat → Int32) (H F : Nat) : Prop := (∀ h, h < H → (∃ a : Nat, 1 ≤ a ∧ a ≤ 4 ∧ gs h = nI a) ∧ ∃ k : Nat, k ≤ 3 ∧ gk h = nI k) ∧ ∀ f, f < F → ∃ q : Nat, q ≤ 3 ∧ gf f = nI q
set_option maxRecDepth 100000 in
theorem zMo_b : ∀ a, a ≤ 4 → 1 ≤ a → ∀ k, k ≤ 3 → zMo (nI k) (nI a) = nI (zMo (nI k) (nI a)).toNatClampNeg ∧ (zMo (nI k) (nI a)).toNatClampNeg ≤ 6 := by decide +kernel
set_option maxRecDepth 100000 in
theorem zGa_b : ∀ a, a ≤ 4 → ∀ k, k ≤ 3 → ∀ q, q ≤ 3 → zGa (nI a) (nI k) (nI q) = nI (zGa (nI a) (nI k) (nI q)).toNatClampNeg ∧ (zGa (nI a) (nI k) (nI q)).toNatClampNeg ≤ 4 := by decide +kernel
theorem zMn_n {a b : Nat} (ha : a < 2 ^ 31) (hb : b < 2 ^ 31) : zMn (nI a) (nI b) = nI (min a b) := by
  unfold zMn
  by_cases h : b < a
  · rw [if_pos (nI_lt h ha), Nat.min_eq_right (by omega)]
  · rw [if_neg (nI_nlt (by omega) hb), Nat.min_eq_left (by omega)]
theorem zRk_b {gs gk gf tk s : Nat → Int32} {F H : Nat} {U : Int32} {x : Nat → Nat} {u : Nat} (hg : zGd gs gk gf H F) (hF : F ≤ 3) (hH : H ≤ 5) (hs : ∀ f, f < F → s f = nI (x f)) (hu : U = nI u) (hb : u + zSm x F ≤ 27) : ∀ i, i ≤ H → ∃ (y : Nat → Nat) (v m : Nat), (∀ f, f < F → (zRk gs gk gf (nI F) tk s U i).1 f = nI (y f)) ∧ (zRk gs gk gf (nI F) tk s U i).2.1 = nI v ∧ (zRk gs gk gf (nI F) tk s U i).2.2 = nI m ∧ v + zSm y F ≤ 27 ∧ m ≤ 6 * i
  | 0, _ => ⟨x, u, 0, hs, hu, rfl, hb, Nat.le_refl _⟩
  | i + 1, hi => by
    obtain ⟨y, v, m, h1, h2, h3, h4, h5⟩ := zRk_b (tk := tk) hg hF hH hs hu hb i (by omega)
    obtain ⟨⟨a, ha1, ha4, ea⟩, k, hk, ek⟩ := hg.1 i (by omega)
    simp only [zRk]
    generalize zRk gs gk gf (nI F) tk s U i = A at h1 h2 h3 ⊢
    obtain ⟨a1, a2, a3⟩ := A
    simp only at h1 h2 h3 ⊢
    subst h2 h3
    by_cases g : tk i = 1
    · simp only [g, reduceIte]
      obtain ⟨e1, e2⟩ := zMo_b a ha4 ha1 k hk
      refine ⟨y, v, m + (zMo (nI k) (nI a)).toNatClampNeg, h1, rfl, ?_, h4, by omega⟩
      rw [ea, ek, e1, nI_add]
      rw [← e1]
    · simp only [g, reduceIte, zGt]
      by_cases g2 : zHas (nI F) (tk i - 2) = 0
      · simp only [g2, reduceIte]
        exact ⟨y, v, m, h1, rfl, rfl, h4, by omega⟩
      · obtain ⟨j, hj, ej⟩ := zHas_n (by omega) g2
        obtain ⟨q, hq, eq⟩ := hg.2 j hj
        obtain ⟨e1, e2⟩ := zGa_b a ha4 k hk q hq
        have hy := zSm_le (x := y) hj
        simp only [g2, reduceIte]
        simp only [ej, nI_clamp (show j < 2 ^ 31 by omega), h1 j hj, ea, ek, eq]
        rw [e1, zMn_n (by omega) (by omega)]
        generalize (zGa (nI a) (nI k) (nI q)).toNatClampNeg = G at e2 ⊢
        have hm : min G (y j) ≤ y j := Nat.min_le_right _ _
        refine ⟨fun f => if f = j then y j - min G (y j) else y f, v + min G (y j), m, fun f hf => ?_, nI_add _ _, rfl, ?_, by omega⟩
        · show upd a1 j _ f = nI (if f = j then y j - min G (y j) else y f)
          unfold upd
          by_cases c : f = j
          · rw [if_pos c, if_pos c, pk_sub hm]
          · rw [if_neg c, if_neg c]; exact h1 f hf
        · have := zSm_u hm F hj
          omega
theorem zDay_b {gs gk gf tk s : Nat → Int32} {F H : Nat} {U : Int32} {x : Nat → Nat} {u : Nat} (hg : zGd gs gk gf H F) (hF : F ≤ 3) (hH : H ≤ 5) (hs : ∀ f, f < F → s f = nI (x f)) (hu : U = nI u) (hb : u + zSm x F ≤ 27) : ∃ (y : Nat → Nat) (v M N : Nat), (∀ f, f < F → (zDay gs gk gf (nI F) H tk s U).1 f = nI (y f)) ∧ (zDay gs gk gf (nI F) H tk s U).2.1 = nI v ∧ (zDay gs gk gf (nI F) H tk s U).2.2.1 = nI M ∧ (zDay gs gk gf (nI F) H tk s U).2.2.2 = nI N ∧ v + zSm y F ≤ 27 ∧ N ≤ M ∧ M ≤ 9 := by
  obtain ⟨y, v, m, h1, h2, h3, h4, h5⟩ := zRk_b (tk := tk) hg hF hH hs hu hb H (Nat.le_refl _)
  have e1 : zDm gs gk gf (nI F) H tk s U = nI (min m 9) := by
    rw [zDm, h3, show (9 : Int32) = nI 9 from rfl, zMn_n (by omega) (by decide)]
  have e2 : zDs gs gk gf (nI F) H tk s U = nI (min (min m 9) v) := by
    rw [zDs, e1, h2, zMn_n (by omega) (by omega)]
  refine ⟨y, v - min (min m 9) v, min m 9, min (min m 9) v, h1, ?_, e1, e2, by omega, by omega, by omega⟩
  show (zRk gs gk gf (nI F) tk s U H).2.1 - zDs gs gk gf (nI F) H tk s U = _
  rw [h2, e2, pk_sub (by omega)]
/-- a page and a state say the same -/
def zSr (H F : Nat) (p : Nat → Int32) (s : zStt) : Prop :=
  (∀ h, h < 5 → p h = s.1 h) ∧ (∀ h, h < H → ∃ t : Nat, t < 2 + F ∧ p h = nI t) ∧ (∀ f, f < F → p (5 + f) = s.2.1 f) ∧
  (∃ (x : Nat → Nat) (u : Nat), (∀ f, f < F → p (5 + f) = nI (x f)) ∧ p 8 = nI u ∧ u + zSm x F ≤ 27) ∧
  (p 8 = s.2.2.1 ∧ p 9 = s.2.2.2.1 ∧ p 10 = s.2.2.2.2.1 ∧ p 11 = s.2.2.2.2.2.1) ∧
  (∃ k m : Nat, k ≤ 8 ∧ m < 2 ^ k ∧ p 12 = nI k ∧ p 13 = nI m ∧ s.2.2.2.2.2.2.1 = zWof (nI k) (nI m)) ∧ p 14 = s.2.2.2.2.2.2.2.1 ∧ p 15 = s.2.2.2.2.2.2.2.2
theorem zSr_p {H F : Nat} {p q : Nat → Int32} {s : zStt} (hH : H ≤ 5) (hF : F ≤ 3) (h : zSr H F p s) (e : ∀ j, j < 16 → q j = p j) : zSr H F q s := by
  obtain ⟨h1, h2, h3, ⟨x, u, h4, h5, h6⟩, ⟨h7, h8, h9, h10⟩, ⟨k, m, g1, g2, g3, g4, g5⟩, h11, h12⟩ := h
  refine ⟨fun j hj => by rw [e j (by omega)]; exact h1 j hj, fun j hj => by rw [e j (by omega)]; exact h2 j hj, fun f hf => by rw [e (5 + f) (by omega)]; exact h3 f hf, ⟨x, u, fun f hf => by rw [e (5 + f) (by omega)]; exact h4 f hf, by rw [e 8 (by decide)]; exact h5, h6⟩, ⟨by rw [e 8 (by decide)]; exact h7, by rw [e 9 (by decide)]; exact h8, by rw [e 10 (by decide)]; exact h9, by rw [e 11 (by decide)]; exact h10⟩, ⟨k, m, g1, g2, by rw [e 12 (by decide)]; exact g3, by rw [e 13 (by decide)]; exact g4, g5⟩, by rw [e 14 (by decide)]; exact h11, by rw [e 15 (by decide)]; exact h12⟩
theorem zcp5 {f g : Nat → Int32} {n j : Nat} (h : j < n) : va_cpy f g 0 0 n j = f j := by
  unfold va_cpy
  rw [if_pos (by omega), Nat.zero_add, Nat.sub_zero]
theorem zSr_s {H F : Nat} {p : Nat → Int32} {s t : zStt} (hF : F ≤ 3) (h : zSr H F p s) : zSr H F p (zcpS s t) := by
  obtain ⟨h1, h2, h3, h4, h5, h6, h7⟩ := h
  exact ⟨fun j hj => by rw [h1 j hj]; exact (zcp5 hj).symm, h2, fun f hf => by rw [h3 f hf]; exact (zcp5 (by omega)).symm, h4, h5, h6, h7⟩
/-- a day's work told twice -/
theorem zSr_w {gs gk gf ws : Nat → Int32} {H F : Nat} {p : Nat → Int32} {s : zStt} (hH : H ≤ 5) (hF : F ≤ 3) (h : zSr H F p s) :
    (zMd gs gk gf F H p).2 = (zDay gs gk gf (nI F) H s.1 (va_cpy s.2.1 ws 0 0 3) s.2.2.1).2 ∧ ∀ f, f < F → (zMd gs gk gf F H p).1 f = (zDay gs gk gf (nI F) H s.1 (va_cpy s.2.1 ws 0 0 3) s.2.2.1).1 f := by
  obtain ⟨h1, h2, h3, h4, ⟨h5, -⟩, -⟩ := h
  rw [zMd, h5]
  exact zDay_c hF (fun j hj => h1 j (by omega)) (fun f hf => by rw [zcp5 (by omega)]; exact h3 f hf)
theorem zSr_b {gs gk gf : Nat → Int32} {H F : Nat} {p : Nat → Int32} {s : zStt} (hg : zGd gs gk gf H F) (hH : H ≤ 5) (hF : F ≤ 3) (h : zSr H F p s) :
    ∃ (y : Nat → Nat) (v M N : Nat), (∀ f, f < F → (zMd gs gk gf F H p).1 f = nI (y f)) ∧ (zMd gs gk gf F H p).2.1 = nI v ∧ (zMd gs gk gf F H p).2.2.1 = nI M ∧ (zMd gs gk gf F H p).2.2.2 = nI N ∧ v + zSm y F ≤ 27 ∧ N ≤ M ∧ M ≤ 9 := by
  obtain ⟨h1, h2, h3, ⟨x, u, h4, h5, h6⟩, -⟩ := h
  exact zDay_b hg hF hH h4 h5 h6
theorem zSr_d {gs gk gf ws : Nat → Int32} {H F : Nat} {mo : Int32} {p : Nat → Int32} {s : zStt} (hg : zGd gs gk gf H F) (hH : H ≤ 5) (hF : F ≤ 3) (h : zSr H F p s) :
    zSr H F (zPd mo p (zMd gs gk gf F H p)) (zend mo (zDay gs gk gf (nI F) H s.1 (va_cpy s.2.1 ws 0 0 3) s.2.2.1) s) := by
  obtain ⟨y, v, M, N, b1, b2, b3, b4, b5, b6, b7⟩ := zSr_b hg hH hF h
  obtain ⟨w1, w2⟩ := zSr_w (gs := gs) (gk := gk) (gf := gf) (ws := ws) hH hF h
  obtain ⟨h1, h2, h3, h4, ⟨h5, h8, h9, h10⟩, ⟨k, m, g1, g2, g3, g4, g5⟩, h11, h12⟩ := h
  generalize zMd gs gk gf F H p = D at *
  generalize zDay gs gk gf (nI F) H s.1 (va_cpy s.2.1 ws 0 0 3) s.2.2.1 = W at *
  obtain ⟨d1, d2, d3, d4⟩ := D
  obtain ⟨e1, e2, e3, e4⟩ := W
  simp only [Prod.mk.injEq] at w1 w2 b1 b2 b3 b4
  obtain ⟨rfl, rfl, rfl⟩ := w1
  have c5 : ∀ f, f < F → zPd mo p (d1, d2, d3, d4) (5 + f) = d1 f := fun f hf => by
    unfold zPd zPf zPk
    simp only
    rw [if_neg (by omega), if_neg (by omega), if_neg (by omega), if_neg (by omega), if_neg (by omega), if_neg (by omega), if_pos (by omega), Nat.add_sub_cancel_left]
  refine ⟨fun j hj => by rw [zPd_h hj]; exact h1 j hj, fun j hj => by rw [zPd_h (by omega)]; exact h2 j hj, fun f hf => ?_, ⟨y, v, fun f hf => by rw [c5 f hf]; exact b1 f hf, ?_, b5⟩, ⟨rfl, ?_, ?_, rfl⟩, ⟨k, m, g1, g2, g3, g4, g5⟩, ?_, ?_⟩
  · rw [c5 f hf, w2 f hf]
    exact (zcp5 (by omega)).symm
  · exact b2
  · show p 9 + d4 = s.2.2.2.1 + d4
    rw [h8]
  · show p 10 + (d3 - d4) = s.2.2.2.2.1 + (d3 - d4)
    rw [h9]
  · show p 14 + zMx 0 (mo - d3 - p 11) = s.2.2.2.2.2.2.2.1 + zMx 0 (mo - d3 - s.2.2.2.2.2.1)
    rw [h11, h10]
  · show p 15 + 1 = s.2.2.2.2.2.2.2.2 + 1
    rw [h12]
/-- the book and the ring of acts -/
def zBr (H F : Nat) (bb : Nat → Int32) (ab : Nat → zStt) (n z : Nat) : Prop := ∀ j, j < z → zSr H F (fun i => bb (16 * j + i)) (ab ((n + 14 - z + j) % 14))
theorem zBr_n {H F : Nat} {bb : Nat → Int32} {ab : Nat → zStt} {n z : Nat} {p : Nat → Int32} {s t : zStt} (hH : H ≤ 5) (hF : F ≤ 3) (hn : n < 14) (hz : z ≤ 14) (h : zBr H F bb ab n z) (hs : zSr H F p s) : zBr H F (zNb bb z p) (va_up ab n (zcpS s t)) ((n + 1) % 14) (min (z + 1) 14) := by
  intro j hj
  rcases Nat.lt_or_ge z 14 with q | q
  · rw [Nat.min_eq_left (by omega)] at hj ⊢
    rw [zNb, if_neg (by omega)]
    by_cases e : j = z
    · subst e
      rw [show ((n + 1) % 14 + 14 - (j + 1) + j) % 14 = n by omega]
      have e2 : va_up ab n (zcpS s t) n = zcpS s t := by unfold va_up; rw [if_pos rfl]
      rw [e2]
      refine zSr_p hH hF (zSr_s hF hs) (fun i hi => ?_)
      unfold zPut
      rw [if_pos (by omega), Nat.add_sub_cancel_left]
    · have e1 : ((n + 1) % 14 + 14 - (z + 1) + j) % 14 = (n + 14 - z + j) % 14 := by omega
      have e3 : (n + 14 - z + j) % 14 ≠ n := by omega
      rw [e1]
      have e2 : va_up ab n (zcpS s t) ((n + 14 - z + j) % 14) = ab ((n + 14 - z + j) % 14) := by unfold va_up; rw [if_neg e3]
      rw [e2]
      refine zSr_p hH hF (h j (by omega)) (fun i hi => ?_)
      unfold zPut
      rw [if_neg (by omega)]
  · obtain rfl : z = 14 := by omega
    rw [show min (14 + 1) 14 = 14 from rfl] at hj ⊢
    rw [zNb, if_pos rfl]
    by_cases e : j = 13
    · subst e
      rw [show ((n + 1) % 14 + 14 - 14 + 13) % 14 = n by omega]
      have e2 : va_up ab n (zcpS s t) n = zcpS s t := by unfold va_up; rw [if_pos rfl]
      rw [e2]
      refine zSr_p hH hF (zSr_s hF hs) (fun i hi => ?_)
      unfold zPut
      rw [if_pos (by omega), Nat.add_sub_cancel_left]
    · have e1 : ((n + 1) % 14 + 14 - 14 + j) % 14 = (n + 14 - 14 + (j + 1)) % 14 := by omega
      have e3 : (n + 14 - 14 + (j + 1)) % 14 ≠ n := by omega
      rw [e1]
      have e2 : va_up ab n (zcpS s t) ((n + 14 - 14 + (j + 1)) % 14) = ab ((n + 14 - 14 + (j + 1)) % 14) := by unfold va_up; rw [if_neg e3]
      rw [e2]
      refine zSr_p hH hF (h (j + 1) (by omega)) (fun i hi => ?_)
      unfold zPut
      rw [if_neg (by omega)]
      unfold zSf
      rw [if_pos (by omega), show 16 * j + i + 16 = 16 * (j + 1) + i by omega]
set_option maxRecDepth 100000 in
theorem zW_hs : ∀ k, k ≤ 8 → ∀ m, m < 2 ^ k → zHt (zWof (nI k) (nI m)) = nI k ∧ zSo (zWof (nI k) (nI m)) = nI m := by decide +kernel
/-- rain on a wall of numbers -/
def zRk' (k m : Nat) : Nat × Nat := ((zRa (k, nI m)).1, (zRa (k, nI m)).2.toNatClampNeg)
set_option maxRecDepth 100000 in
theorem zW_rn : ∀ k, k ≤ 8 → ∀ m, m < 2 ^ k → zRn (zWof (nI k) (nI m)) = zWof (nI (zRk' k m).1) (nI (zRk' k m).2) ∧ (zRa (k, nI m)).2 = nI (zRk' k m).2 ∧ (zRk' k m).1 ≤ 8 ∧ (zRk' k m).2 < 2 ^ (zRk' k m).1 := by decide +kernel
set_option maxRecDepth 100000 in
theorem zW_wc : ∀ k, k < 8 → ∀ m, m < 2 ^ k → ∀ s, s < 2 → zWc (zWof (nI k) (nI m)) (nI s) = zWof (nI (k + 1)) (nI (m + s * 2 ^ k)) ∧ (nI m ||| (nI s <<< (nI k &&& 31))) = nI (m + s * 2 ^ k) ∧ m + s * 2 ^ k < 2 ^ (k + 1) := by decide +kernel
