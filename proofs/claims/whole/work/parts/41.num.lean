/-! chance -/
def zPn (i : Nat) : Nat := i % 2 + i / 2 % 2 + i / 4 % 2 + i / 8 % 2 + i / 16 % 2 + i / 32 % 2
set_option maxRecDepth 100000 in
theorem zPn_e : ∀ i, i < 64 → zPop i = zPn i := by decide +kernel
def zQ (N τ x r : Nat) : Nat := if r < τ then x ^ r * (10 - x) ^ (N - r) else 0
def zQm (N τ x : Nat) : Nat → Nat
  | 0 => 0
  | i + 1 => zQm N τ x i + zQ N τ x (zPn i)
def zcc (N : Nat) : Nat → Nat
  | 0 => 1
  | r + 1 => zcc N r * (N - r) / (r + 1)
def zQb (N τ x : Nat) : Nat → Nat
  | 0 => 0
  | r + 1 => zQb N τ x r + zcc N r * zQ N τ x r
set_option maxRecDepth 1000000 in
theorem zQ_e : ∀ N, N ≤ 6 → ∀ x, x ≤ 10 → ∀ τ, τ ≤ 7 → zQm N τ x (2 ^ N) = zQb N τ x (N + 1) ∧ zQm N τ x (2 ^ N) < 2 ^ 31 := by decide +kernel
theorem zcc_b : ∀ N, N ≤ 6 → ∀ r, r ≤ 6 → zcc N r ≤ 20 := by decide
/-- from how many rains on the wall is too low -/
def zTau (k o h : Nat) : Nat := if k < h then 0 else if h ≤ k - o then 7 else k - h + 1
theorem zTau_l {k o h r : Nat} (ho : o ≤ k) (hk : k ≤ 8) (hr : r ≤ 6) : (k - min r o < h) ↔ ¬ r < zTau k o h := by
  unfold zTau
  split
  · omega
  · split <;> omega
theorem zTau_7 {k o h : Nat} (ho : o ≤ k) (hk : k ≤ 8) : zTau k o h ≤ 7 ∨ 7 < zTau k o h ∧ k - h + 1 = zTau k o h := by
  unfold zTau
  split
  · omega
  · split <;> omega
def zTu (k o h : Nat) : Nat := min (zTau k o h) 7
theorem zTu_l {k o h r : Nat} (ho : o ≤ k) (hk : k ≤ 8) (hr : r ≤ 6) : (k - min r o < h) ↔ ¬ r < zTu k o h := by
  rw [zTau_l ho hk hr, zTu]
  omega
theorem zCh_e {N k o h x : Nat} (hN : N ≤ 6) (ho : o ≤ k) (hk : k ≤ 8) (hx : x ≤ 10) (hh : h ≤ 8) : ∀ r, r ≤ N + 1 → zChR N (nI k) (nI o) (nI h) (nI x) r = (nI (zQb N (zTu k o h) x r), nI (zcc N r))
  | 0, _ => rfl
  | r + 1, hr => by
    have hb := zcc_b N hN r (by omega)
    rw [zChR, zCh_e hN ho hk hx hh r (by omega), zCh1]
    refine Prod.ext ?_ ?_
    · show (if nI k - zMn (nI r) (nI o) < nI h then nI (zQb N (zTu k o h) x r) else nI (zQb N (zTu k o h) x r) + nI (zcc N r) * zPw (nI x) r * zPw (10 - nI x) (N - r)) = nI (zQb N (zTu k o h) x (r + 1))
      rw [zMn_n (by omega) (by omega), pk_sub (by omega), zQb, zQ]
      have eL : nI (k - min r o) < nI h ↔ k - min r o < h := nI_ltI (by omega) (by omega)
      by_cases g : k - min r o < h
      · rw [if_pos (eL.mpr g), if_neg ((zTu_l ho hk (by omega)).mp g), Nat.mul_zero, Nat.add_zero]
      · have g2 : r < zTu k o h := Classical.byContradiction fun q => g ((zTu_l ho hk (by omega)).mpr q)
        rw [if_neg (fun q => g (eL.mp q)), if_pos g2, show (10 : Int32) - nI x = nI (10 - x) from pk_sub (a := 10) hx, zPw_n, zPw_n, pk_mul, pk_mul, nI_add, Nat.mul_assoc]
    · show nI (zcc N r) * (nI N - nI r) / (nI r + 1) = nI (zcc N (r + 1))
      have hs : N - r ≤ 6 := by omega
      have hm : zcc N r * (N - r) ≤ 20 * 6 := Nat.mul_le_mul hb hs
      rw [zcc, pk_sub (by omega), pk_mul, nI_1, pk_div (by omega) (by omega) (by omega)]
set_option maxRecDepth 100000 in
theorem zWn_h : ∀ k, k ≤ 8 → ∀ m, m < 2 ^ k → zPop m ≤ k ∧ zHt (zWof (nI k) (nI m)) - zBc (zSo (zWof (nI k) (nI m))) = nI (k - zPop m) := by decide +kernel
set_option maxRecDepth 100000 in
theorem zRk'_h : ∀ k, k ≤ 8 → ∀ m, m < 2 ^ k → (zRk' k m).1 = k - min 1 (k - zPop m) ∧ (zRk' k m).1 - zPop (zRk' k m).2 = (k - zPop m) - 1 := by decide +kernel
theorem zWn_r {k m : Nat} (hk : k ≤ 8) (hm : m < 2 ^ k) : ∀ r, (zWn k m r).1 = k - min r (k - zPop m) ∧ (zWn k m r).1 - zPop (zWn k m r).2 = (k - zPop m) - r
  | 0 => ⟨by rw [Nat.zero_min]; rfl, rfl⟩
  | r + 1 => by
    obtain ⟨e1, e2⟩ := zWn_r hk hm r
    obtain ⟨-, -, b3, b4⟩ := zWn_e hk hm r
    obtain ⟨c1, c2⟩ := zRk'_h _ b3 _ b4
    refine ⟨?_, ?_⟩
    · rw [zWn, c1, e2, e1]
      omega
    · rw [zWn, c2, e2]
      omega
theorem zCx_e {N k m h x : Nat} {wl : Int32 × Int32} (hN : N ≤ 6) (hk : k ≤ 8) (hm : m < 2 ^ k) (hx : x ≤ 10) (hh : h ≤ 8) : ∀ i, i ≤ 2 ^ N → (zCx N (nI h) (nI x) k (nI m) wl i).1 = nI (zQm N (zTu k (k - zPop m) h) x i)
  | 0, _ => rfl
  | i + 1, hi => by
    have hp := zPcN N hN i (by omega)
    have h64 : i < 64 := Nat.lt_of_lt_of_le (show i < 2 ^ N by omega) (Nat.le_trans (Nat.pow_le_pow_right (by decide) hN) (by decide))
    obtain ⟨-, e2, -, -⟩ := zWn_e hk hm (zPop i)
    obtain ⟨e3, -⟩ := zWn_r hk hm (zPop i)
    have hle : (zWn k m (zPop i)).1 < 2 ^ 31 := by omega
    rw [zCx]
    simp only
    rw [e2, zCx_e (wl := wl) hN hk hm hx hh i (by omega)]
    simp only
    rw [zQm, zQ, ← zPn_e i h64]
    have eL : nI (zWn k m (zPop i)).1 < nI h ↔ k - min (zPop i) (k - zPop m) < h := by rw [nI_ltI hle (by omega), e3]
    by_cases g : k - min (zPop i) (k - zPop m) < h
    · rw [if_pos (eL.mpr g), if_neg ((zTu_l (by omega) hk (by omega)).mp g), Nat.add_zero, Int32.add_zero]
    · have g2 : zPop i < zTu k (k - zPop m) h := Classical.byContradiction fun q => g ((zTu_l (by omega) hk (by omega)).mpr q)
      rw [if_neg (fun q => g (eL.mp q)), if_pos g2, show (10 : Int32) - nI x = nI (10 - x) from pk_sub (a := 10) hx, zPw_n, zPw_n, pk_mul, nI_add]
/-- both sums, and their size -/
theorem zChance {N k m h x : Nat} {wl : Int32 × Int32} (hN : N ≤ 6) (hk : k ≤ 8) (hm : m < 2 ^ k) (hx : x ≤ 10) (hh : h ≤ 8) : ∃ a : Nat, a < 2 ^ 31 ∧ (zCx N (nI h) (nI x) k (nI m) wl (2 ^ N)).1 = nI a ∧ (zChR N (nI k) (nI (k - zPop m)) (nI h) (nI x) (N + 1)).1 = nI a := by
  have e := zQ_e N hN x hx (zTu k (k - zPop m) h) (Nat.min_le_right _ _)
  refine ⟨zQm N (zTu k (k - zPop m) h) x (2 ^ N), e.2, zCx_e hN hk hm hx hh _ (Nat.le_refl _), ?_⟩
  rw [zCh_e hN (by omega) hk hx hh _ (Nat.le_refl _), e.1]
/-! shares -/
theorem zDv {gs gk gf ws pg t nt2 : Nat → Int32} {H F i : Nat} {s : zStt} (hH : H ≤ 5) (hF : F ≤ 3) (h : zSr H F pg s) : (zMd gs gk gf F H (zSa (nI i) (zC16 pg t 16) H)).2 = (zDay gs gk gf (nI F) H (zSc (nI i) s.1 nt2 5) (va_cpy s.2.1 ws 0 0 3) s.2.2.1).2 := by
  obtain ⟨q1, -, q3, -, ⟨q7, -⟩, -⟩ := h
  have e8 : zSa (nI i) (zC16 pg t 16) H 8 = pg 8 := by
    unfold zSa zC16
    rw [if_neg (by omega), if_pos (by omega)]
  rw [zMd, e8, q7]
  refine (zDay_c hF (fun j hj => ?_) (fun f hf => ?_)).1
  · unfold zSa zSc zC16 zHs
    simp only [hj, show j < 16 by omega, show j < 5 by omega, reduceIte, q1 j (by omega)]
    by_cases g : nI i >>> (nI j &&& 31) &&& 1 = 1
    · rw [if_pos g, if_pos g, if_neg (by decide)]
    · rw [if_neg g, if_neg g, if_pos rfl]
  · unfold zSa zC16
    rw [if_neg (by omega), if_pos (by omega), zcp5 (by omega)]
    exact q3 f hf
def zDvN (gs gk gf : Nat → Int32) (F H : Nat) (s : zStt) (i : Nat) : Int32 := (zDay gs gk gf (nI F) H (zSc (nI i) s.1 s.1 5) (va_cpy s.2.1 s.2.1 0 0 3) s.2.2.1).2.2.2
theorem zDvN_e {gs gk gf ws pg nt2 : Nat → Int32} {H F i : Nat} {s : zStt} (hH : H ≤ 5) (hF : F ≤ 3) (h : zSr H F pg s) : (zDay gs gk gf (nI F) H (zSc (nI i) s.1 nt2 5) (va_cpy s.2.1 ws 0 0 3) s.2.2.1).2.2.2 = zDvN gs gk gf F H s i := by
  rw [zDvN, ← zDv (t := pg) (ws := ws) (nt2 := nt2) hH hF h, ← zDv (t := pg) (ws := s.2.1) (nt2 := s.1) hH hF h]
theorem zDvN_b {gs gk gf pg : Nat → Int32} {H F i : Nat} {s : zStt} (hg : zGd gs gk gf H F) (hH : H ≤ 5) (hF : F ≤ 3) (h : zSr H F pg s) : ∃ N : Nat, N ≤ 9 ∧ zDvN gs gk gf F H s i = nI N := by
  obtain ⟨-, -, q3, ⟨x, u, q4, q5, q6⟩, ⟨q7, -⟩, -⟩ := h
  obtain ⟨y, v, M, N, -, -, -, b4, -, b6, b7⟩ := zDay_b (tk := zSc (nI i) s.1 s.1 5) (s := va_cpy s.2.1 s.2.1 0 0 3) hg hF hH (fun f hf => by rw [zcp5 (by omega), ← q3 f hf]; exact q4 f hf) (show s.2.2.1 = nI u by rw [← q7]; exact q5) q6
  exact ⟨N, by omega, b4⟩
theorem zVs_e {gs gk gf pg mq vl : Nat → Int32} {H F : Nat} {mw : Int32 × Int32} {s : zStt} (hH : H ≤ 5) (hF : F ≤ 3) (h : zSr H F pg s) : ∀ n c, c < n → (zVs gs gk gf F H pg mq mw vl n).2.2 c = zDvN gs gk gf F H s c
  | 0, c, hc => by omega
  | n + 1, c, hc => by
    simp only [zVs]
    by_cases e : c = n
    · subst e
      rw [pk_us, zDv (ws := s.2.1) (nt2 := s.1) hH hF h]
      rfl
    · rw [pk_un e]
      exact zVs_e hH hF h n c (by omega)
set_option maxRecDepth 100000 in
theorem zOrH1 : ∀ H, H ≤ 5 → ∀ h, h < H → ∀ i, i < 2 ^ H → zHs (nI i) (nI h) = 0 → zOr i h < 2 ^ H := by decide +kernel
set_option maxRecDepth 100000 in
theorem zOrH2 : ∀ h, h < 5 → ∀ i, i < 32 → zHs (nI i) (nI h) = 0 → ((nI i >>> (nI h &&& 31)) &&& 1) = 0 := by decide +kernel
set_option maxRecDepth 100000 in
theorem zOrH3 : ∀ i, i < 32 → zFc (zBc (nI i)) = zWz (zPop i - 1) := by decide +kernel
set_option maxRecDepth 100000 in
theorem zOrH4 : ∀ H, H ≤ 5 → ∀ h, h < H → ∀ i, i < 2 ^ H → zHs (nI i) (nI h) = 0 → zFc (nI H - 1 - zBc (nI i)) = zWz (H - 1 - zPop i - 1) := by decide +kernel
set_option maxRecDepth 100000 in
theorem zOrH5 : ∀ p, p ≤ 4 → ∀ q, p + q ≤ 4 → zWz (p - 1) * zWz (q - 1) = nI (zWz (p - 1) * zWz (q - 1)).toNatClampNeg ∧ (zWz (p - 1) * zWz (q - 1)).toNatClampNeg ≤ 24 := by
  intro p hp q hq
  have : ∀ p, p < 5 → ∀ q, q < 5 → p + q ≤ 4 → zWz (p - 1) * zWz (q - 1) = nI (zWz (p - 1) * zWz (q - 1)).toNatClampNeg ∧ (zWz (p - 1) * zWz (q - 1)).toNatClampNeg ≤ 24 := by decide +kernel
  exact this p (by omega) q (by omega) hq
theorem zOrH {H h i : Nat} (hH : H ≤ 5) (hh : h < H) (hi : i < 2 ^ H) (g : zHs (nI i) (nI h) = 0) : zOr i h < 2 ^ H ∧ ((nI i >>> (nI h &&& 31)) &&& 1) = 0 ∧ zFc (zBc (nI i)) = zWz (zPop i - 1) ∧ zFc (nI H - 1 - zBc (nI i)) = zWz (H - 1 - zPop i - 1) ∧ zWz (zPop i - 1) * zWz (H - 1 - zPop i - 1) = nI (zWz (zPop i - 1) * zWz (H - 1 - zPop i - 1)).toNatClampNeg ∧ (zWz (zPop i - 1) * zWz (H - 1 - zPop i - 1)).toNatClampNeg ≤ 24 := by
  have h32 := zp32 hH hi
  have hp := zPcH H hH h hh i hi g
  exact ⟨zOrH1 H hH h hh i hi g, zOrH2 h (by omega) i h32 g, zOrH3 i h32, zOrH4 H hH h hh i hi g, zOrH5 (zPop i) (by omega) (H - 1 - zPop i) (by omega)⟩
set_option maxRecDepth 100000 in
theorem zHs1 : ∀ h, h < 5 → ∀ i, i < 32 → ¬ zHs (nI i) (nI h) = 0 → ¬ ((nI i >>> (nI h &&& 31)) &&& 1) = 0 := by decide +kernel
theorem zoi {k : Nat} : nI k = Int32.ofInt k := rfl
theorem zSh_e {gs gk gf pg pt vl : Nat → Int32} {H F hd : Nat} {s : zStt} {wk : zWkT} (hg : zGd gs gk gf H F) (hH : H ≤ 5) (hF : F ≤ 3) (hh : hd < H) (h : zSr H F pg s) (hv : ∀ c, c < 2 ^ H → vl c = zDvN gs gk gf F H s c) : ∀ i, i ≤ 2 ^ H → (zShR gs gk gf F H hd s.1 s.2.1 s.2.2.1 pt wk i).1 = zUp H hd vl i ∧ ∃ z : Int, zUp H hd vl i = Int32.ofInt z ∧ -((216 * i : Nat) : Int) ≤ z ∧ z ≤ ((216 * i : Nat) : Int)
  | 0, _ => ⟨rfl, 0, rfl, by omega, by omega⟩
  | i + 1, hi => by
    obtain ⟨e1, z, e2, e3, e4⟩ := zSh_e (pt := pt) (wk := wk) hg hH hF hh h hv i (by omega)
    rw [zShR, zUp, zSh1]
    by_cases g : zHs (nI i) (nI hd) = 0
    · obtain ⟨o1, o2, o3, o4, o5, o6⟩ := zOrH hH hh (show i < 2 ^ H by omega) g
      rw [if_pos o2, if_pos g]
      simp only
      rw [e1, (zOrI hd (by omega) i (zp32 hH (by omega))).1, zDvN_e hH hF h, zDvN_e hH hF h, hv _ o1, hv i (by omega), o3, o4]
      obtain ⟨A, hA, eA⟩ := zDvN_b (i := zOr i hd) hg hH hF h
      obtain ⟨B, hB, eB⟩ := zDvN_b (i := i) hg hH hF h
      refine ⟨by rw [Int32.mul_comm], ?_⟩
      rw [eA, eB, e2, o5]
      generalize (zWz (zPop i - 1) * zWz (H - 1 - zPop i - 1)).toNatClampNeg = w at o6 ⊢
      refine ⟨z + (w : Int) * ((A : Int) - (B : Int)), ?_, ?_, ?_⟩
      · rw [Int32.ofInt_add, Int32.ofInt_mul, Int32.ofInt_sub]
        rfl
      · have q : -((24 * 9 : Nat) : Int) ≤ (w : Int) * ((A : Int) - (B : Int)) := by
          have h1 : (w : Int) * (B : Int) ≤ ((24 * 9 : Nat) : Int) := by
            have := Nat.mul_le_mul o6 hB
            exact_mod_cast this
          have h2 : (0 : Int) ≤ (w : Int) * (A : Int) := Int.mul_nonneg (Int.natCast_nonneg _) (Int.natCast_nonneg _)
          rw [Int.mul_sub]
          omega
        omega
      · have q : (w : Int) * ((A : Int) - (B : Int)) ≤ ((24 * 9 : Nat) : Int) := by
          have h1 : (w : Int) * (A : Int) ≤ ((24 * 9 : Nat) : Int) := by
            have := Nat.mul_le_mul o6 hA
            exact_mod_cast this
          have h2 : (0 : Int) ≤ (w : Int) * (B : Int) := Int.mul_nonneg (Int.natCast_nonneg _) (Int.natCast_nonneg _)
          rw [Int.mul_sub]
          omega
        omega
    · rw [if_neg (zHs1 hd (by omega) i (zp32 hH (by omega)) g), if_neg g]
      exact ⟨e1, z, e2, by omega, by omega⟩
theorem zAbs {x : Int32} {z : Int} (e : x = Int32.ofInt z) (h1 : -100000 ≤ z) (h2 : z ≤ 100000) : ∃ a : Nat, a < 2 ^ 31 ∧ (if 0 ≤ x then x else 0 - x) = nI a := by
  rcases (show z < 0 ∨ 0 ≤ z by omega) with q | q
  · refine ⟨z.natAbs, by omega, ?_⟩
    have e2 : x.toInt = z := by rw [e, Int32.toInt_ofInt_of_le (by omega) (by omega)]
    rw [if_neg (by rw [Int32.le_iff_toInt_le, e2]; show ¬ (0 : Int32).toInt ≤ z; have : (0 : Int32).toInt = 0 := by decide
                   omega), e]
    show (0 : Int32) - Int32.ofInt z = Int32.ofInt (z.natAbs : Int)
    rw [show ((z.natAbs : Nat) : Int) = 0 - z by omega, Int32.ofInt_sub]
    rfl
  · refine ⟨z.toNat, by omega, ?_⟩
    have e2 : x.toInt = z := by rw [e, Int32.toInt_ofInt_of_le (by omega) (by omega)]
    rw [if_pos (by rw [Int32.le_iff_toInt_le, e2]; show (0 : Int32).toInt ≤ z; have : (0 : Int32).toInt = 0 := by decide
                   omega), e]
    show Int32.ofInt z = Int32.ofInt (z.toNat : Int)
    rw [show ((z.toNat : Nat) : Int) = z by omega]
