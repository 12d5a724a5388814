/-! a plan's figures -/
theorem zRf_y {F : Nat} (hF : F ≤ 3) : ∀ k pt R, (¬ (zRf (nI F) k pt R).2 = 0 ↔ R < 10 ^ k ∧ ∀ h, h < k → R / 10 ^ (k - 1 - h) % 10 < 2 + F) ∧ (¬ (zRf (nI F) k pt R).2 = 0 → ∀ h, (zRf (nI F) k pt R).1 h = if h < k then nI (R / 10 ^ (k - 1 - h) % 10) else pt h)
  | 0, pt, R => by
    refine ⟨?_, fun _ h => by rw [if_neg (by omega)]; rfl⟩
    simp only [zRf]
    by_cases e : R = 0
    · rw [if_pos e]
      exact ⟨fun _ => ⟨by omega, fun h hh => by omega⟩, fun _ => by decide⟩
    · rw [if_neg e]
      exact ⟨fun q => absurd rfl q, fun q => by have := q.1; omega⟩
  | k + 1, pt, R => by
    obtain ⟨i1, i2⟩ := zRf_y hF k (upd pt k (nI (R % 10))) (R / 10)
    have hd : ∀ h, h < k → R / 10 / 10 ^ (k - 1 - h) % 10 = R / 10 ^ (k + 1 - 1 - h) % 10 := fun h hh => by
      rw [Nat.div_div_eq_div_mul, ← Nat.pow_succ', show (k - 1 - h).succ = k + 1 - 1 - h by omega]
    have h10 : R % 10 < 10 := Nat.mod_lt _ (by decide)
    have hk : R / 10 ^ (k + 1 - 1 - k) % 10 = R % 10 := by rw [show k + 1 - 1 - k = 0 by omega, Nat.pow_zero, Nat.div_one]
    have hlt : R < 10 ^ (k + 1) ↔ R / 10 < 10 ^ k := by
      rw [Nat.div_lt_iff_lt_mul (by decide), Nat.pow_succ]
    rw [zRf]
    by_cases t : zTask (nI F) (nI (R % 10)) = 0
    · rw [if_pos t]
      refine ⟨⟨fun q => absurd rfl q, fun q => ?_⟩, fun q => absurd rfl q⟩
      have t2 := (zTask_n hF (by omega)).mp t
      have t3 := q.2 k (by omega)
      rw [hk] at t3
      omega
    · rw [if_neg t]
      have t2 : ¬ 2 + F ≤ R % 10 := fun q => t ((zTask_n hF (by omega)).mpr q)
      refine ⟨?_, fun q h => ?_⟩
      · rw [i1, hlt]
        refine ⟨fun q => ⟨q.1, fun h hh => ?_⟩, fun q => ⟨q.1, fun h hh => ?_⟩⟩
        · by_cases e : h = k
          · subst e; rw [hk]; omega
          · rw [← hd h (by omega)]; exact q.2 h (by omega)
        · rw [hd h hh]; exact q.2 h (by omega)
      · rw [i2 q h]
        by_cases e : h < k
        · rw [if_pos e, if_pos (by omega), hd h e]
        · rw [if_neg e]
          by_cases e2 : h = k
          · subst e2; rw [pk_us, if_pos (by omega), hk]
          · rw [pk_un e2, if_neg (by omega)]
theorem zLp_y {F H R : Nat} (hF : F ≤ 3) : ∀ n t, n ≤ H → (¬ (zLp F H R n t).2 = 0 ↔ ∀ h, H - n ≤ h → h < H → zDg 10 H R h < 2 + F) ∧ (¬ (zLp F H R n t).2 = 0 → ∀ h, (zLp F H R n t).1 h = if H - n ≤ h ∧ h < H then nI (zDg 10 H R h) else t h)
  | 0, t, _ => by
    refine ⟨?_, fun _ h => by rw [if_neg (by omega)]; rfl⟩
    simp only [zLp]
    exact ⟨fun _ h h1 h2 => by omega, fun _ => by decide⟩
  | n + 1, t, hn => by
    obtain ⟨i1, i2⟩ := zLp_y (H := H) (R := R) hF n (upd t (H - (n + 1)) (nI (zDg 10 H R (H - (n + 1))))) (by omega)
    have hd : zDg 10 H R (H - (n + 1)) < 10 := zDg_lt (by decide)
    rw [zLp]
    have e0 : (nI (zDg 10 H R (H - (n + 1))) ≤ 1 + nI F) ↔ zDg 10 H R (H - (n + 1)) < 2 + F := by
      rw [show (1 : Int32) + nI F = nI (1 + F) from nI_add 1 F, nI_leI (by omega) (by omega)]
      omega
    by_cases g : nI (zDg 10 H R (H - (n + 1))) ≤ 1 + nI F
    · rw [if_pos g]
      have g2 := e0.mp g
      refine ⟨?_, fun q h => ?_⟩
      · rw [i1]
        refine ⟨fun q h h1 h2 => ?_, fun q h h1 h2 => q h (by omega) h2⟩
        by_cases e : h = H - (n + 1)
        · rw [e]; exact g2
        · exact q h (by omega) h2
      · rw [i2 q h]
        by_cases e : H - n ≤ h ∧ h < H
        · rw [if_pos e, if_pos (by omega)]
        · rw [if_neg e]
          by_cases e2 : h = H - (n + 1)
          · rw [e2, pk_us, if_pos (by omega)]
          · rw [pk_un e2, if_neg (by omega)]
    · rw [if_neg g]
      have g2 : ¬ zDg 10 H R (H - (n + 1)) < 2 + F := fun q => g (e0.mpr q)
      exact ⟨⟨fun q => absurd rfl q, fun q => absurd (q (H - (n + 1)) (Nat.le_refl _) (by omega)) g2⟩, fun q => absurd rfl q⟩
theorem zRf_L {F H R : Nat} {pt t : Nat → Int32} (hF : F ≤ 3) (hR : R < 10 ^ H) : ((zRf (nI F) H pt R).2 = 0 ↔ (zLp F H R H t).2 = 0) ∧ (¬ (zRf (nI F) H pt R).2 = 0 → ∀ h, h < H → (zRf (nI F) H pt R).1 h = (zLp F H R H t).1 h) := by
  obtain ⟨a1, a2⟩ := zRf_y hF H pt R
  obtain ⟨b1, b2⟩ := zLp_y (H := H) (R := R) hF H t (Nat.le_refl _)
  have e : ¬ (zRf (nI F) H pt R).2 = 0 ↔ ¬ (zLp F H R H t).2 = 0 := by
    rw [a1, b1]
    exact ⟨fun q h h1 h2 => q.2 h h2, fun q => ⟨hR, fun h hh => q h (by omega) hh⟩⟩
  refine ⟨⟨fun q => Classical.byContradiction fun c => e.mpr c q, fun q => Classical.byContradiction fun c => e.mp c q⟩, fun q h hh => ?_⟩
  rw [a2 q h, b2 (e.mp q) h, if_pos hh, if_pos (by omega)]
  rfl
theorem zRf_big {F H R : Nat} {pt : Nat → Int32} (hF : F ≤ 3) (hR : ¬ R < 10 ^ H) : (zRf (nI F) H pt R).2 = 0 :=
  Classical.byContradiction fun c => hR ((zRf_y hF H pt R).1.mp c).1
theorem zLp_o {F H R : Nat} {t : Nat → Int32} (hF : F ≤ 3) (h0 : ¬ (zLp F H R H t).2 = 0) {j : Nat} (hj : H ≤ j) : (zLp F H R H t).1 j = t j := by
  rw [(zLp_y hF H t (Nat.le_refl _)).2 h0 j, if_neg (by omega)]
/-- the day of a plan -/
theorem zMk_e {gs gk gf ws pg t : Nat → Int32} {H F R : Nat} {pt : Nat → Int32} {s : zStt} (hH : H ≤ 5) (hF : F ≤ 3) (h : zSr H F pg s) (hR : R < 10 ^ H) (h0 : ¬ (zRf (nI F) H pt R).2 = 0) : (zMd gs gk gf F H (zLp F H R H (zC16 pg t 16)).1).2 = (zDay gs gk gf (nI F) H (zRf (nI F) H pt R).1 (va_cpy s.2.1 ws 0 0 3) s.2.2.1).2 := by
  obtain ⟨e1, e2⟩ := zRf_L (pt := pt) (t := zC16 pg t 16) hF hR
  have h1 : ¬ (zLp F H R H (zC16 pg t 16)).2 = 0 := fun q => h0 (e1.mpr q)
  obtain ⟨-, -, q3, -, ⟨q7, -⟩, -⟩ := h
  rw [zMd, zLp_o hF h1 (show H ≤ 8 by omega), zC16, if_pos (by decide), q7]
  refine (zDay_c hF (fun j hj => (e2 h0 j hj).symm) (fun f hf => ?_)).1
  rw [zLp_o hF h1 (show H ≤ 5 + f by omega), zC16, if_pos (by omega), zcp5 (by omega)]
  exact q3 f hf
/-! how long it lasts -/
theorem zLa_e {gs gk gf : Nat → Int32} {H F : Nat} {gc : Int32} (hH : H ≤ 5) (hF : F ≤ 3) : ∀ k (p : Nat → Int32) (mw : Int32 × Int32) (s : zStt) (w : zWkT), (∀ h, h < 5 → p h = s.1 h) → (∀ f, f < F → p (5 + f) = s.2.1 f) → p 8 = s.2.2.1 → (zLaR gs gk gf F H gc k s w).1 = (zLm gs gk gf F H gc k p mw).1
  | 0, _, _, _, _, _, _, _ => rfl
  | k + 1, p, mw, s, w, h1, h2, h3 => by
    have e : (zMd gs gk gf F H p).2 = (zDy gs gk gf F H s w).2 ∧ ∀ f, f < F → (zMd gs gk gf F H p).1 f = (zDy gs gk gf F H s w).1 f := by
      rw [zMd, zDy, h3]
      exact zDay_c hF (fun j hj => h1 j (by omega)) (fun f hf => by rw [zcp5 (by omega)]; exact h2 f hf)
    rw [zLaR, zLm]
    generalize zMd gs gk gf F H p = D at e ⊢
    generalize zDy gs gk gf F H s w = V at e ⊢
    obtain ⟨d1, d2, d3, d4⟩ := D
    obtain ⟨v1, v2, v3, v4⟩ := V
    obtain ⟨e1, e2⟩ := e
    simp only [Prod.mk.injEq] at e1 e2 ⊢
    obtain ⟨rfl, rfl, rfl⟩ := e1
    split
    · refine zLa_e hH hF k _ _ _ _ (fun h hh => ?_) (fun f hf => ?_) ?_
      · rw [zPf_h hh]; exact h1 h hh
      · show zPf p (d1, d2, d3, d4) (5 + f) = va_cpy v1 s.2.1 0 0 3 f
        rw [zcp5 (by omega), ← e2 f hf]
        unfold zPf zPk
        simp only
        rw [if_neg (by omega), if_neg (by omega), if_neg (by omega), if_pos (by omega), Nat.add_sub_cancel_left]
      · rfl
    · rfl
/-! walls -/
/-- a wall of numbers after r rains -/
def zWn (k m : Nat) : Nat → Nat × Nat
  | 0 => (k, m)
  | r + 1 => zRk' (zWn k m r).1 (zWn k m r).2
theorem zWn_e {k m : Nat} (hk : k ≤ 8) (hm : m < 2 ^ k) : ∀ r, zRns (zWof (nI k) (nI m)) r = zWof (nI (zWn k m r).1) (nI (zWn k m r).2) ∧ zRas (k, nI m) r = ((zWn k m r).1, nI (zWn k m r).2) ∧ (zWn k m r).1 ≤ 8 ∧ (zWn k m r).2 < 2 ^ (zWn k m r).1
  | 0 => ⟨rfl, rfl, hk, hm⟩
  | r + 1 => by
    obtain ⟨e1, e2, e3, e4⟩ := zWn_e hk hm r
    obtain ⟨f1, f2, f3, f4⟩ := zW_rn _ e3 _ e4
    refine ⟨?_, ?_, f3, f4⟩
    · rw [zRns, e1, f1]; rfl
    · rw [zRas, e2]
      exact Prod.ext rfl f2
theorem zand_iff (x l : Int32) : (x &&& l) = l ↔ (l &&& (x ^^^ (-1))) = 0 := by
  have e : (-1 : Int32).toBitVec = BitVec.allOnes 32 := by decide
  rw [← Int32.toBitVec_inj, ← Int32.toBitVec_inj, Int32.toBitVec_and, Int32.toBitVec_and, Int32.toBitVec_xor, e, BitVec.xor_allOnes]
  generalize x.toBitVec = a
  generalize l.toBitVec = b
  rw [show (0 : Int32).toBitVec = 0#32 from rfl]
  constructor
  · intro h
    apply BitVec.eq_of_getLsbD_eq
    intro i hi
    have := congrArg (fun z => z.getLsbD i) h
    simp only [BitVec.getLsbD_and] at this
    simp only [BitVec.getLsbD_and, BitVec.getLsbD_not, hi, decide_true, Bool.true_and, BitVec.getLsbD_zero]
    revert this
    cases a.getLsbD i <;> cases b.getLsbD i <;> simp
  · intro h
    apply BitVec.eq_of_getLsbD_eq
    intro i hi
    have := congrArg (fun z => z.getLsbD i) h
    simp only [BitVec.getLsbD_and, BitVec.getLsbD_not, hi, decide_true, Bool.true_and, BitVec.getLsbD_zero] at this
    simp only [BitVec.getLsbD_and]
    revert this
    cases a.getLsbD i <;> cases b.getLsbD i <;> simp
set_option maxRecDepth 100000 in
theorem zMask : ∀ k, k ≤ 8 → ∀ m, m < 2 ^ k → (nI m &&& ((1 : Int32) <<< (nI k &&& 31) - 1)) = nI m := by decide +kernel
set_option maxRecDepth 100000 in
theorem zBcI : ∀ i, i < 256 → zBc (nI i) = zMy (nI i) 8 := by decide +kernel
theorem zSp_e {N R : Nat} {lk : Int32} (hN : N ≤ 8) : ∀ i, i ≤ 2 ^ N → zSpR N R lk i = zSmR N R lk i
  | 0, _ => rfl
  | i + 1, hi => by
    have h256 := zp256 hN (show i < 2 ^ N by omega)
    obtain ⟨e1, e2, e3, e4⟩ := zWn_e hN (show i < 2 ^ N by omega) R
    rw [zSpR, zSmR, zSp_e hN i (by omega), zSp1, zSm1, e1, e2, (zW_hs _ e3 _ e4).2]
    simp only
    rw [zMask _ e3 _ e4, zBcI i h256]
    by_cases g : (nI (zWn N i R).2 &&& lk) = lk
    · rw [if_pos g, if_pos ((zand_iff _ _).mp g)]
    · rw [if_neg g, if_neg (fun q => g ((zand_iff _ _).mpr q))]
set_option maxRecDepth 100000 in
theorem zCa_e : ∀ k, k ≤ 8 → ∀ m, m < 2 ^ k → ∀ c, c < 8 → zCa (zWof (nI k) (nI m)) (nI c) = zHw (k, nI m) (nI c) := by decide +kernel
theorem zAg_e {sr so sh : Nat → Int32} {S N i : Nat} (hN : N ≤ 8) (hi : i < 2 ^ N) (hso : ∀ j, j < S → ∃ c : Nat, c < 8 ∧ so j = nI c) : ∀ n wl, n ≤ S → zAg sr so sh S (zWof (nI N) (nI i)) n = (zIs sr so sh S N (nI i) n wl).1
  | 0, _, _ => rfl
  | n + 1, wl, hn => by
    obtain ⟨c, hc, ec⟩ := hso (S - (n + 1)) (by omega)
    obtain ⟨e1, e2, e3, e4⟩ := zWn_e hN hi (sr (S - (n + 1))).toNatClampNeg
    rw [zAg, zIs, e1, e2, ec, zCa_e _ e3 _ e4 c hc]
    split
    · exact zAg_e hN hi hso n _ (by omega)
    · rfl
theorem zCo_e {sr so sh : Nat → Int32} {S N : Nat} {e : Int32} {wl : Int32 × Int32} (hN : N ≤ 8) (hso : ∀ j, j < S → ∃ c : Nat, c < 8 ∧ so j = nI c) : ∀ i, i ≤ 2 ^ N → zCoR sr so sh S N e i = (zCmR sr so sh S N e wl i).1
  | 0, _ => rfl
  | i + 1, hi => by
    rw [zCoR, zCmR, zCo1, zCm1, zCo_e (wl := wl) hN hso i (by omega), zAg_e hN (by omega) hso S (zCmR sr so sh S N e wl i).2 (Nat.le_refl _)]
set_option maxRecDepth 1000000 in
theorem zRe_e : ∀ M, M ≤ 9 → zReO M 10 = zRmO M 10 := by decide +kernel
