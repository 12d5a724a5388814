/-! years -/
theorem zSr_t {H F h t : Nat} {p : Nat → Int32} {s : zStt} (hH : H ≤ 5) (hh : h < H) (ht : t < 2 + F) (hs : zSr H F p s) : zSr H F (upd p h (nI t)) (upd s.1 h (nI t), s.2) := by
  obtain ⟨h1, h2, h3, ⟨x, u, h4, h5, h6⟩, h7, ⟨k, m, g1, g2, g3, g4, g5⟩, h11, h12⟩ := hs
  have e : ∀ j, 5 ≤ j → upd p h (nI t) j = p j := fun j hj => pk_un (by omega)
  refine ⟨fun j hj => ?_, fun j hj => ?_, fun f hf => by rw [e _ (by omega)]; exact h3 f hf, ⟨x, u, fun f hf => by rw [e _ (by omega)]; exact h4 f hf, by rw [e 8 (by decide)]; exact h5, h6⟩, ?_, ⟨k, m, g1, g2, by rw [e 12 (by decide)]; exact g3, by rw [e 13 (by decide)]; exact g4, g5⟩, by rw [e 14 (by decide)]; exact h11, by rw [e 15 (by decide)]; exact h12⟩
  · show upd p h (nI t) j = upd s.1 h (nI t) j
    unfold upd
    split
    · rfl
    · exact h1 j hj
  · by_cases c : j = h
    · subst c; rw [pk_us]; exact ⟨t, ht, rfl⟩
    · rw [pk_un c]; exact h2 j hj
  · rw [e 8 (by decide), e 9 (by decide), e 10 (by decide), e 11 (by decide)]; exact h7
theorem zYt_e {H F k : Nat} {p : Nat → Int32} {s : zStt} (hH : H ≤ 5) (hF : F ≤ 3) (hk : k < 30) (hs : zSr H F p s) : zSr H F (zYm1 F H k p) (zYtr F H k s) := by
  unfold zYm1 zYtr
  by_cases g : zHas (nI H) (nI (k / 6)) = 0
  · rw [if_pos g, if_pos g]; exact hs
  · rw [if_neg g, if_neg g]
    obtain ⟨j, hj, ej⟩ := zHas_n (by omega) g
    have ej2 := (nI_eq (show k / 6 < 2 ^ 31 by omega) (by omega)).mp ej
    by_cases g2 : zTask (nI F) (nI (k % 6)) = 0
    · have g3 := (zTask_n hF (by omega)).mp g2
      rw [if_pos g2, if_neg]
      · exact hs
      · rw [show (1 : Int32) + nI F = nI (1 + F) from nI_add 1 F, nI_leI (by omega) (by omega)]
        omega
    · have g3 : ¬ 2 + F ≤ k % 6 := fun q => g2 ((zTask_n hF (by omega)).mpr q)
      rw [if_neg g2, if_pos]
      · exact zSr_t hH (by omega) (by omega) hs
      · rw [show (1 : Int32) + nI F = nI (1 + F) from nI_add 1 F, nI_leI (by omega) (by omega)]
        omega
theorem zYtr_b {H F k : Nat} {s : zStt} : (zYtr F H k s).2 = s.2 := by
  unfold zYtr
  split
  · rfl
  · split <;> rfl
theorem zYr_e {gs gk gf : Nat → Int32} {H F : Nat} {gc : Int32} {s0 : Int64} {t0 : zStt} {w0 : zWkT} {p0 : Nat → Int32} {mw : Int32 × Int32} (hg : zGd gs gk gf H F) (hH : H ≤ 5) (hF : F ≤ 3) (hs : zSr H F p0 t0) :
    ∀ i, (zYr gs gk gf F H gc s0 t0 w0 i).1 = (zYm gs gk gf F H gc s0 p0 mw i).1 ∧ zSr H F (zYm gs gk gf F H gc s0 p0 mw i).2.1 (zYr gs gk gf F H gc s0 t0 w0 i).2.1 ∧ (zYr gs gk gf F H gc s0 t0 w0 i).2.1.2.2.2.2.2.2.2.1 = t0.2.2.2.2.2.2.2.1 + (zYm gs gk gf F H gc s0 p0 mw i).2.2.2
  | 0 => ⟨rfl, hs, by show t0.2.2.2.2.2.2.2.1 = t0.2.2.2.2.2.2.2.1 + 0; rw [Int32.add_zero]⟩
  | i + 1 => by
    obtain ⟨e1, e2, e3⟩ := zYr_e (gc := gc) (s0 := s0) (w0 := w0) (mw := mw) hg hH hF hs i
    simp only [zYr, zYm]
    generalize zYr gs gk gf F H gc s0 t0 w0 i = Y at e1 e2 e3 ⊢
    generalize zYm gs gk gf F H gc s0 p0 mw i = Z at e1 e2 e3 ⊢
    rw [e1]
    generalize zSd Z.1 = sd
    have hk := zYk_lt sd
    have q1 := zYt_e hH hF hk e2
    have q2 := zSr_d (ws := Y.2.2.1) (mo := gc) hg hH hF q1
    have q3 := (zSr_w (gs := gs) (gk := gk) (gf := gf) (ws := Y.2.2.1) hH hF q1).1
    have qb := zYtr_b (F := F) (H := H) (k := zYk sd) (s := Y.2.1)
    refine ⟨rfl, q2, ?_⟩
    obtain ⟨-, -, -, -, ⟨-, -, -, q11⟩, -⟩ := q1
    show (zYtr F H (zYk sd) Y.2.1).2.2.2.2.2.2.2.1 + zMx 0 (gc - (zDay gs gk gf (nI F) H (zYtr F H (zYk sd) Y.2.1).1 (va_cpy (zYtr F H (zYk sd) Y.2.1).2.1 Y.2.2.1 0 0 3) (zYtr F H (zYk sd) Y.2.1).2.2.1).2.2.1 - (zYtr F H (zYk sd) Y.2.1).2.2.2.2.2.1) = _
    rw [← q3, ← q11, qb, e3, Int32.add_assoc]
theorem zaddsub (a b : Int32) : a + b - a = b := by rw [Int32.add_comm, Int32.add_sub_cancel]
/-! the pit's letters -/
theorem zFF_all {tb : Nat → Int32} {T : Nat} (hT : T < 1000) : ∀ n, n ≤ T → zFF tb T n = -9 → ∀ k, T - n ≤ k → k < T → ¬ zFt tb k = 0
  | 0, _, _, k, h1, h2 => by omega
  | n + 1, hn, h, k, h1, h2 => by
    rw [zFF_s] at h
    by_cases g : zFt tb (T - (n + 1)) = 0
    · rw [if_pos g] at h
      exact absurd h (nI_ne9 (by omega))
    · rw [if_neg g] at h
      by_cases e : k = T - (n + 1)
      · rw [e]; exact g
      · exact zFF_all hT n (by omega) h k (by omega) h2
theorem zIn_x {x : Int32} {a b : Nat} (ha : a < 1000) (hb : b < 1000) (h : ¬ zIn x (nI a) (nI b) = 0) : ∃ t : Nat, a ≤ t ∧ t ≤ b ∧ x = nI t := by
  obtain ⟨h1, h2⟩ := zIn_ok h
  have h3 : ¬ x < 0 := fun q => h1 (Int32.lt_of_lt_of_le q (nI_pos' (by omega)))
  obtain ⟨t, ht, rfl⟩ := nI_of h3
  rw [nI_leI ht (by omega)] at h2
  refine ⟨t, ?_, h2, rfl⟩
  rcases Nat.lt_or_ge t a with q | q
  · exact absurd (nI_lt q (by omega)) h1
  · exact q
/-- what a good part says -/
def zPt (tb : Nat → Int32) (q : Nat) : Prop :=
  (tb (2 + 3 * q) = 72 ∧ (∃ a : Nat, 1 ≤ a ∧ a ≤ 4 ∧ tb (3 + 3 * q) - 48 = nI a) ∧ ∃ k : Nat, k ≤ 3 ∧ tb (4 + 3 * q) - 48 = nI k) ∨
  (¬ tb (2 + 3 * q) = 72 ∧ tb (2 + 3 * q) = 70 ∧ (∃ a : Nat, a ≤ 3 ∧ tb (3 + 3 * q) - 48 = nI a) ∧ ∃ k : Nat, k ≤ 9 ∧ tb (4 + 3 * q) - 48 = nI k)
theorem zPt_of {tb : Nat → Int32} {Z q : Nat} (hZ : 2 + 3 * Z ≤ 40) (hf : zFF tb (2 + 3 * Z) (2 + 3 * Z) = -9) (hq : q < Z) : zPt tb q := by
  have hall := zFF_all (tb := tb) (T := 2 + 3 * Z) (by omega) (2 + 3 * Z) (Nat.le_refl _) hf
  have h1 := hall (2 + 3 * q) (by omega) (by omega)
  have h2 := hall (3 + 3 * q) (by omega) (by omega)
  have h3 := hall (4 + 3 * q) (by omega) (by omega)
  rw [zFt_b] at h1
  rw [zFt_c] at h2
  rw [zFt_d] at h3
  by_cases e : tb (2 + 3 * q) = 72
  · rw [if_pos e] at h2 h3
    obtain ⟨a, a1, a2, a3⟩ := zIn_x (a := 1) (b := 4) (by decide) (by decide) h2
    obtain ⟨k, k1, k2, k3⟩ := zIn_x (a := 0) (b := 3) (by decide) (by decide) h3
    exact Or.inl ⟨e, ⟨a, a1, a2, a3⟩, k, k2, k3⟩
  · rw [if_neg e] at h2 h3
    obtain ⟨a, a1, a2, a3⟩ := zIn_x (a := 0) (b := 3) (by decide) (by decide) h2
    obtain ⟨k, k1, k2, k3⟩ := zIn_x (a := 0) (b := 9) (by decide) (by decide) h3
    refine Or.inr ⟨e, ?_, ⟨a, a2, a3⟩, k, k2, k3⟩
    rw [zBp, if_neg e] at h1
    by_cases e2 : tb (2 + 3 * q) = 70
    · exact e2
    · rw [if_neg e2] at h1; exact absurd rfl h1
theorem zGq_e {tb : Nat → Int32} {gs gk gf ga rg rd : Nat → Int32} {Z : Nat} (hp : ∀ q, q < Z → zPt tb q) : ∀ q, q ≤ Z → zCk tb q = zCn tb 70 q ∧
    (∀ h, h < zCn tb 72 q → (zGq tb (gs, gk, gf, ga) q).1 h = zGh tb 72 rg q (2 * h) ∧ (zGq tb (gs, gk, gf, ga) q).2.1 h = zGh tb 72 rg q (2 * h + 1) ∧ (∃ a : Nat, 1 ≤ a ∧ a ≤ 4 ∧ (zGq tb (gs, gk, gf, ga) q).1 h = nI a) ∧ ∃ k : Nat, k ≤ 3 ∧ (zGq tb (gs, gk, gf, ga) q).2.1 h = nI k) ∧
    (∀ h, zCn tb 72 q ≤ h → (zGq tb (gs, gk, gf, ga) q).1 h = gs h ∧ (zGq tb (gs, gk, gf, ga) q).2.1 h = gk h) ∧
    (∀ h, h < zCn tb 70 q → (zGq tb (gs, gk, gf, ga) q).2.2.1 h = zGh tb 70 rd q (2 * h) ∧ (zGq tb (gs, gk, gf, ga) q).2.2.2 h = zGh tb 70 rd q (2 * h + 1) ∧ (∃ a : Nat, a ≤ 3 ∧ (zGq tb (gs, gk, gf, ga) q).2.2.1 h = nI a) ∧ ∃ k : Nat, k ≤ 9 ∧ (zGq tb (gs, gk, gf, ga) q).2.2.2 h = nI k) ∧
    (∀ h, zCn tb 70 q ≤ h → (zGq tb (gs, gk, gf, ga) q).2.2.1 h = gf h)
  | 0, _ => ⟨rfl, fun h hh => absurd hh (Nat.not_lt_zero _), fun _ _ => ⟨rfl, rfl⟩, fun h hh => absurd hh (Nat.not_lt_zero _), fun _ _ => rfl⟩
  | q + 1, hq => by
    obtain ⟨i1, i2, i3, i4, i5⟩ := zGq_e (gs := gs) (gk := gk) (gf := gf) (ga := ga) (rg := rg) (rd := rd) hp q (by omega)
    have n72 : ¬ (72 : Int32) = 70 := by decide
    have n70 : ¬ (70 : Int32) = 72 := by decide
    rcases hp q (by omega) with ⟨e, ⟨a, a1, a2, a3⟩, k, k2, k3⟩ | ⟨e, e2, ⟨a, a2, a3⟩, k, k2, k3⟩
    · have e70 : ¬ tb (2 + 3 * q) = 70 := by rw [e]; exact n72
      simp only [zGq, zGh, zCk, zCn, if_pos e, if_neg e70]
      refine ⟨i1, fun h hh => ?_, fun h hh => ?_, i4, i5⟩
      · by_cases c : h = zCn tb 72 q
        · subst c
          rw [pk_us, pk_us, pk_un (show 2 * zCn tb 72 q ≠ 2 * zCn tb 72 q + 1 by omega), pk_us, pk_us]
          exact ⟨rfl, rfl, ⟨a, a1, a2, a3⟩, k, k2, k3⟩
        · rw [pk_un c, pk_un c, pk_un (show 2 * h ≠ 2 * zCn tb 72 q + 1 by omega), pk_un (show 2 * h ≠ 2 * zCn tb 72 q by omega), pk_un (show 2 * h + 1 ≠ 2 * zCn tb 72 q + 1 by omega), pk_un (show 2 * h + 1 ≠ 2 * zCn tb 72 q by omega)]
          exact i2 h (by omega)
      · rw [pk_un (show h ≠ zCn tb 72 q by omega), pk_un (show h ≠ zCn tb 72 q by omega)]
        exact i3 h (by omega)
    · simp only [zGq, zGh, zCk, zCn, if_neg e, if_pos e2]
      rw [i1]
      refine ⟨rfl, i2, i3, fun h hh => ?_, fun h hh => ?_⟩
      · by_cases c : h = zCn tb 70 q
        · subst c
          rw [pk_us, pk_us, pk_un (show 2 * zCn tb 70 q ≠ 2 * zCn tb 70 q + 1 by omega), pk_us, pk_us]
          exact ⟨rfl, rfl, ⟨a, a2, a3⟩, k, k2, k3⟩
        · rw [pk_un c, pk_un c, pk_un (show 2 * h ≠ 2 * zCn tb 70 q + 1 by omega), pk_un (show 2 * h ≠ 2 * zCn tb 70 q by omega), pk_un (show 2 * h + 1 ≠ 2 * zCn tb 70 q + 1 by omega), pk_un (show 2 * h + 1 ≠ 2 * zCn tb 70 q by omega)]
          exact i4 h (by omega)
      · rw [pk_un (show h ≠ zCn tb 70 q by omega)]
        exact i5 h (by omega)
theorem zSm_9 {x : Nat → Nat} : ∀ F, (∀ f, f < F → x f ≤ 9) → zSm x F ≤ 9 * F
  | 0, _ => Nat.le_refl _
  | F + 1, h => by
    have := zSm_9 F (fun f hf => h f (by omega))
    have := h F (by omega)
    rw [zSm]; omega
/-- the pit: both sides afterwards -/
theorem zPit {tb : Nat → Int32} {gs gk gf ga rg rd pg nt ns : Nat → Int32} {Z : Nat} (hZ : 2 + 3 * Z ≤ 40) (hf : zFF tb (2 + 3 * Z) (2 + 3 * Z) = -9) (h3 : zCn tb 70 Z ≤ 3) (h5 : zCn tb 72 Z ≤ 5) :
    zCk tb Z = zCn tb 70 Z ∧ zC16 (fun h => zGh tb 72 rg Z (2 * h)) gs (zCn tb 72 Z) = (zGq tb (gs, gk, gf, ga) Z).1 ∧ zC16 (fun h => zGh tb 72 rg Z (2 * h + 1)) gk (zCn tb 72 Z) = (zGq tb (gs, gk, gf, ga) Z).2.1 ∧ zC16 (fun h => zGh tb 70 rd Z (2 * h)) gf (zCn tb 70 Z) = (zGq tb (gs, gk, gf, ga) Z).2.2.1 ∧
    zGd (zGq tb (gs, gk, gf, ga) Z).1 (zGq tb (gs, gk, gf, ga) Z).2.1 (zGq tb (gs, gk, gf, ga) Z).2.2.1 (zCn tb 72 Z) (zCn tb 70 Z) ∧
    zSr (zCn tb 72 Z) (zCn tb 70 Z) (zPut (zFil pg 0 16) (fun h => zGh tb 70 rd Z (2 * h + 1)) 5 (zCn tb 70 Z)) (zFil nt 0 5, va_cpy (zGq tb (gs, gk, gf, ga) Z).2.2.2 ns 0 0 3, 0, 0, 0, 0, 1, 0, 0) := by
  obtain ⟨i1, i2, i3, i4, i5⟩ := zGq_e (gs := gs) (gk := gk) (gf := gf) (ga := ga) (rg := rg) (rd := rd) (fun q hq => zPt_of hZ hf hq) Z (Nat.le_refl _)
  have p0 : ∀ j, j < 5 ∨ (8 ≤ j ∧ j < 16) → zPut (zFil pg 0 16) (fun h => zGh tb 70 rd Z (2 * h + 1)) 5 (zCn tb 70 Z) j = 0 := fun j hj => by
    unfold zPut zFil
    rw [if_neg (by omega), if_pos (by omega)]
  have p5 : ∀ f, f < zCn tb 70 Z → zPut (zFil pg 0 16) (fun h => zGh tb 70 rd Z (2 * h + 1)) 5 (zCn tb 70 Z) (5 + f) = (zGq tb (gs, gk, gf, ga) Z).2.2.2 f := fun f hf => by
    unfold zPut
    rw [if_pos (by omega), Nat.add_sub_cancel_left]
    exact (i4 f hf).2.1.symm
  refine ⟨i1, ?_, ?_, ?_, ⟨fun h hh => ⟨(i2 h hh).2.2.1, (i2 h hh).2.2.2⟩, fun f hf => (i4 f hf).2.2.1⟩, ?_⟩
  · funext h
    unfold zC16
    by_cases c : h < zCn tb 72 Z
    · rw [if_pos c]; exact (i2 h c).1.symm
    · rw [if_neg c]; exact (i3 h (by omega)).1.symm
  · funext h
    unfold zC16
    by_cases c : h < zCn tb 72 Z
    · rw [if_pos c]; exact (i2 h c).2.1.symm
    · rw [if_neg c]; exact (i3 h (by omega)).2.symm
  · funext h
    unfold zC16
    by_cases c : h < zCn tb 70 Z
    · rw [if_pos c]; exact (i4 h c).1.symm
    · rw [if_neg c]; exact (i5 h (by omega)).symm
  · refine ⟨fun h hh => ?_, fun h hh => ⟨0, by omega, p0 h (by omega)⟩, fun f hf => ?_, ⟨fun f => ((zGq tb (gs, gk, gf, ga) Z).2.2.2 f).toNatClampNeg, 0, fun f hf => ?_, p0 8 (by omega), ?_⟩, ⟨p0 8 (by omega), p0 9 (by omega), p0 10 (by omega), p0 11 (by omega)⟩, ⟨0, 0, by decide, by decide, p0 12 (by omega), p0 13 (by omega), show (1 : Int32) = zWof (nI 0) (nI 0) by decide⟩, p0 14 (by omega), p0 15 (by omega)⟩
    · rw [p0 h (by omega)]
      show 0 = zFil nt 0 5 h
      unfold zFil
      rw [if_pos hh]
    · rw [p5 f hf]
      exact (zcp5 (by omega)).symm
    · rw [p5 f hf]
      obtain ⟨k, k1, k2⟩ := (i4 f hf).2.2.2
      show _ = nI ((zGq tb (gs, gk, gf, ga) Z).2.2.2 f).toNatClampNeg
      rw [k2, nI_clamp (by omega)]
    · have := zSm_9 (x := fun f => ((zGq tb (gs, gk, gf, ga) Z).2.2.2 f).toNatClampNeg) (zCn tb 70 Z) (fun f hf => by
        obtain ⟨k, k1, k2⟩ := (i4 f hf).2.2.2
        show ((zGq tb (gs, gk, gf, ga) Z).2.2.2 f).toNatClampNeg ≤ 9
        rw [k2, nI_clamp (by omega)]; exact k1)
      omega
