theorem zFt_c2 (tb : Nat → Int32) (q : Nat) : zFt tb (2 + 3 * q + 1) = if tb (2 + 3 * q) = 72 then zIn (tb (2 + 3 * q + 1) - 48) 1 4 else zIn (tb (2 + 3 * q + 1) - 48) 0 3 := by
  rw [show 2 + 3 * q + 1 = 3 + 3 * q by omega]; exact zFt_c tb q
theorem zFt_d2 (tb : Nat → Int32) (q : Nat) : zFt tb (2 + 3 * q + 1 + 1) = if tb (2 + 3 * q) = 72 then zIn (tb (2 + 3 * q + 1 + 1) - 48) 0 3 else zIn (tb (2 + 3 * q + 1 + 1) - 48) 0 9 := by
  rw [show 2 + 3 * q + 1 + 1 = 4 + 3 * q by omega]; exact zFt_d tb q
theorem zff_a {tb : Nat → Int32} {T q : Nat} {lo hi : Int32} (hq : 2 + 3 * q < T) (hb : ¬ zBp tb q = 0) (ht : zFt tb (2 + 3 * q + 1) = zIn (tb (2 + 3 * q + 1) - 48) lo hi) (o1 : zOk tb T (2 + 3 * q + 1) lo hi = 0) : zFF tb T (T - (2 + 3 * q)) = nI (2 + 3 * q + 1) := by
  rw [zFF_y hq (by rw [zFt_b]; exact hb)]
  exact zFF_k (by omega) ht (by omega) o1
theorem zff_b {tb : Nat → Int32} {T q : Nat} {lo hi l2 h2 : Int32} (hq : 2 + 3 * q < T) (hb : ¬ zBp tb q = 0) (ht : zFt tb (2 + 3 * q + 1) = zIn (tb (2 + 3 * q + 1) - 48) lo hi) (o1 : ¬ zOk tb T (2 + 3 * q + 1) lo hi = 0) (ht2 : zFt tb (2 + 3 * q + 1 + 1) = zIn (tb (2 + 3 * q + 1 + 1) - 48) l2 h2) (o2 : zOk tb T (2 + 3 * q + 1 + 1) l2 h2 = 0) : zFF tb T (T - (2 + 3 * q)) = nI (2 + 3 * q + 1 + 1) := by
  have := (zOk_y o1).1
  rw [zFF_y hq (by rw [zFt_b]; exact hb), zFF_p (by omega) ht o1]
  exact zFF_k (by omega) ht2 (by omega) o2
theorem zff_c {tb : Nat → Int32} {T q : Nat} {lo hi l2 h2 : Int32} (hq : 2 + 3 * q < T) (hb : ¬ zBp tb q = 0) (ht : zFt tb (2 + 3 * q + 1) = zIn (tb (2 + 3 * q + 1) - 48) lo hi) (o1 : ¬ zOk tb T (2 + 3 * q + 1) lo hi = 0) (ht2 : zFt tb (2 + 3 * q + 1 + 1) = zIn (tb (2 + 3 * q + 1 + 1) - 48) l2 h2) (o2 : ¬ zOk tb T (2 + 3 * q + 1 + 1) l2 h2 = 0) : zFF tb T (T - (2 + 3 * q)) = zFF tb T (T - (2 + 3 * (q + 1))) ∧ 2 + 3 * (q + 1) ≤ T := by
  have h1 := (zOk_y o1).1
  have h3 := (zOk_y o2).1
  refine ⟨?_, by omega⟩
  rw [zFF_y hq (by rw [zFt_b]; exact hb), zFF_p (by omega) ht o1, zFF_p (by omega) ht2 o2, show 2 + 3 * q + 1 + 1 + 1 = 2 + 3 * (q + 1) by omega]
theorem zff_o {tb : Nat → Int32} {T q : Nat} (hq : 2 + 3 * q < T) (hb : zBp tb q = 0) : zFF tb T (T - (2 + 3 * q)) = nI (2 + 3 * q) :=
  zFF_n hq (by rw [zFt_b]; exact hb)
theorem zBp_H {tb : Nat → Int32} {q : Nat} (hl : tb (2 + 3 * q) = 72) (hc : zCn tb 72 q < 5) : ¬ zBp tb q = 0 := by
  rw [zBp, if_pos hl, if_neg (show ¬ (5 : Int32) ≤ nI (zCn tb 72 q) from nI_ge (b := 5) hc (by decide))]; decide
theorem zBp_F {tb : Nat → Int32} {q : Nat} (hl : tb (2 + 3 * q) = 70) (hc : zCn tb 70 q < 3) : ¬ zBp tb q = 0 := by
  rw [zBp, if_neg (by rw [hl]; decide), if_pos hl, if_neg (show ¬ (3 : Int32) ≤ nI (zCn tb 70 q) from nI_ge (b := 3) hc (by decide))]; decide
theorem zBp_o {tb : Nat → Int32} {q : Nat} (h1 : tb (2 + 3 * q) = 72 → (5 : Int32) ≤ nI (zCn tb 72 q)) (h2 : tb (2 + 3 * q) = 70 → (3 : Int32) ≤ nI (zCn tb 70 q)) : zBp tb q = 0 := by
  unfold zBp
  split
  · rename_i h; rw [if_pos (h1 h)]
  · split
    · rename_i h; rw [if_pos (h2 h)]
    · rfl
/-- how many are in a set below 256 -/
def zPop (i : Nat) : Nat := (zMy (nI i) 8).toNatClampNeg
def zOr (i h : Nat) : Nat := (nI i ||| ((1 : Int32) <<< (nI h &&& 31))).toNatClampNeg
/-- how long the straw lasts: n, trial, made -/
def zLm (mg mk md : Nat → Int32) (F H : Nat) (mo : Int32) : Nat → (Nat → Int32) → Int32 × Int32 → Int32 × (Nat → Int32) × (Int32 × Int32)
  | 0, t, w => (9, t, w)
  | k + 1, t, _ => if mo ≤ (zMd mg mk md F H t).2.2.2 then zLm mg mk md F H mo k (zPf t (zMd mg mk md F H t)) ((zMd mg mk md F H t).2.2.1, (zMd mg mk md F H t).2.2.2) else (nI (9 - (k + 1)), zPf t (zMd mg mk md F H t), ((zMd mg mk md F H t).2.2.1, (zMd mg mk md F H t).2.2.2))
theorem zPf_h {p : Nat → Int32} {w : zWkT} {h : Nat} (hh : h < 5) : zPf p w h = p h := by
  unfold zPf
  rw [if_neg (by omega), if_neg (by omega), zPk_h hh]
theorem zPd_h {mo : Int32} {p : Nat → Int32} {w : zWkT} {h : Nat} (hh : h < 5) : zPd mo p w h = p h := by
  unfold zPd
  rw [if_neg (by omega), if_neg (by omega), if_neg (by omega), zPf_h hh]
/-- the tasks of those that have come -/
def zSa (cm : Int32) (t : Nat → Int32) (i : Nat) : Nat → Int32 := fun j => if j < i then (if zHs cm (nI j) = 0 then 0 else t j) else t j
theorem zSa_0 (cm : Int32) (t : Nat → Int32) : zSa cm t 0 = t := by funext j; simp [zSa]
theorem zSa_s {cm : Int32} {t : Nat → Int32} {i : Nat} {v : Int32} (hv : v = if zHs cm (nI i) = 0 then 0 else t i) : upd (zSa cm t i) i v = zSa cm t (i + 1) := by
  funext j
  unfold upd zSa
  by_cases h : j = i
  · subst h; simp [hv]
  · simp only [h, if_false]
    by_cases h2 : j < i
    · rw [if_pos h2, if_pos (show j < i + 1 by omega)]
    · rw [if_neg h2, if_neg (show ¬ j < i + 1 by omega)]
theorem zSa_i {cm : Int32} {t : Nat → Int32} {i : Nat} : zSa cm t i i = t i := by unfold zSa; rw [if_neg (by omega)]
def zVs (mg mk md : Nat → Int32) (F H : Nat) (pg mq : Nat → Int32) (mw : Int32 × Int32) (vl : Nat → Int32) : Nat → (Nat → Int32) × (Int32 × Int32) × (Nat → Int32)
  | 0 => (mq, mw, vl)
  | i + 1 => (zPf (zSa (nI i) (zC16 pg (zVs mg mk md F H pg mq mw vl i).1 16) H) (zMd mg mk md F H (zSa (nI i) (zC16 pg (zVs mg mk md F H pg mq mw vl i).1 16) H)),
      ((zMd mg mk md F H (zSa (nI i) (zC16 pg (zVs mg mk md F H pg mq mw vl i).1 16) H)).2.2.1, (zMd mg mk md F H (zSa (nI i) (zC16 pg (zVs mg mk md F H pg mq mw vl i).1 16) H)).2.2.2),
      upd (zVs mg mk md F H pg mq mw vl i).2.2 i (zMd mg mk md F H (zSa (nI i) (zC16 pg (zVs mg mk md F H pg mq mw vl i).1 16) H)).2.2.2)
def zUp (H hd : Nat) (vl : Nat → Int32) : Nat → Int32
  | 0 => 0
  | i + 1 => if zHs (nI i) (nI hd) = 0 then zUp H hd vl i + zWz (zPop i - 1) * zWz (H - 1 - zPop i - 1) * (vl (zOr i hd) - vl i) else zUp H hd vl i
def zCx (N : Nat) (h x : Int32) (k : Nat) (u : Int32) (wl : Int32 × Int32) : Nat → Int32 × (Int32 × Int32)
  | 0 => (0, wl)
  | i + 1 => (if nI (zRas (k, u) (zPop i)).1 < h then (zCx N h x k u wl i).1 + 0 else (zCx N h x k u wl i).1 + zPw x (zPop i) * zPw (10 - x) (N - zPop i), (nI (zRas (k, u) (zPop i)).1, (zRas (k, u) (zPop i)).2))
/-- a year's message on a page -/
def zYm1 (F H : Nat) (k : Nat) (t : Nat → Int32) : Nat → Int32 := if zHas (nI H) (nI (k / 6)) = 0 then t else if nI (k % 6) ≤ 1 + nI F then upd t (k / 6) (nI (k % 6)) else t
/-- years: seed, trial, made, sum -/
def zYm (mg mk md : Nat → Int32) (F H : Nat) (mo : Int32) (s0 : Int64) (t0 : Nat → Int32) (w0 : Int32 × Int32) : Nat → Int64 × (Nat → Int32) × (Int32 × Int32) × Int32
  | 0 => (s0, t0, w0, 0)
  | k + 1 => (zSd (zYm mg mk md F H mo s0 t0 w0 k).1,
      zPd mo (zYm1 F H (zYk (zSd (zYm mg mk md F H mo s0 t0 w0 k).1)) (zYm mg mk md F H mo s0 t0 w0 k).2.1) (zMd mg mk md F H (zYm1 F H (zYk (zSd (zYm mg mk md F H mo s0 t0 w0 k).1)) (zYm mg mk md F H mo s0 t0 w0 k).2.1)),
      ((zMd mg mk md F H (zYm1 F H (zYk (zSd (zYm mg mk md F H mo s0 t0 w0 k).1)) (zYm mg mk md F H mo s0 t0 w0 k).2.1)).2.2.1, (zMd mg mk md F H (zYm1 F H (zYk (zSd (zYm mg mk md F H mo s0 t0 w0 k).1)) (zYm mg mk md F H mo s0 t0 w0 k).2.1)).2.2.2),
      (zYm mg mk md F H mo s0 t0 w0 k).2.2.2 + zMx 0 (mo - (zMd mg mk md F H (zYm1 F H (zYk (zSd (zYm mg mk md F H mo s0 t0 w0 k).1)) (zYm mg mk md F H mo s0 t0 w0 k).2.1)).2.2.1 - (zYm1 F H (zYk (zSd (zYm mg mk md F H mo s0 t0 w0 k).1)) (zYm mg mk md F H mo s0 t0 w0 k).2.1) 11))
set_option maxRecDepth 100000 in
theorem zPcI : ∀ i, i < 256 → zMy (nI i) 8 = nI (zPop i) := by decide +kernel
set_option maxRecDepth 100000 in
theorem zPcN : ∀ N, N ≤ 6 → ∀ i, i < 2 ^ N → zPop i ≤ N := by decide +kernel
set_option maxRecDepth 100000 in
theorem zPcH : ∀ H, H ≤ 5 → ∀ h, h < H → ∀ i, i < 2 ^ H → zHs (nI i) (nI h) = 0 → zPop i ≤ H - 1 := by decide +kernel
set_option maxRecDepth 100000 in
theorem zOrI : ∀ h, h < 5 → ∀ i, i < 32 → nI i ||| ((1 : Int32) <<< (nI h &&& 31)) = nI (zOr i h) ∧ zOr i h < 32 := by decide +kernel
theorem zix_o {i h : Nat} (hh : h < 5) (hi : i < 32) : zix (nI i ||| ((1 : Int32) <<< (nI h &&& 31))) 32 (zOr i h) := by
  rw [(zOrI h hh i hi).1]; exact zix_n (zOrI h hh i hi).2
theorem zp32 {H i : Nat} (hH : H ≤ 5) (hi : i < 2 ^ H) : i < 32 := Nat.lt_of_lt_of_le hi (Nat.pow_le_pow_right (by decide) hH)
theorem zp256 {H i : Nat} (hH : H ≤ 8) (hi : i < 2 ^ H) : i < 256 := Nat.lt_of_lt_of_le hi (Nat.pow_le_pow_right (by decide) hH)
theorem zp31 {H : Nat} (hH : H ≤ 8) : 2 ^ H < 2 ^ 31 := Nat.pow_lt_pow_right (by decide) (by omega)
theorem zIn_bad {x lo hi : Int32} (h : zIn x lo hi = 0) : x < lo ∨ ¬ x ≤ hi := by
  unfold zIn at h
  by_cases h1 : x < lo
  · exact Or.inl h1
  · rw [if_neg h1] at h
    by_cases h2 : hi < x
    · exact Or.inr (Int32.not_le.mpr h2)
    · rw [if_neg h2] at h; exact absurd h (by decide)
theorem zIn_ok {x lo hi : Int32} (h : ¬ zIn x lo hi = 0) : ¬ x < lo ∧ x ≤ hi := by
  unfold zIn at h
  by_cases h1 : x < lo
  · rw [if_pos h1] at h; exact absurd rfl h
  · rw [if_neg h1] at h
    by_cases h2 : hi < x
    · rw [if_pos h2] at h; exact absurd rfl h
    · exact ⟨h1, Int32.not_lt.mp h2⟩
theorem zYm1v {F H k : Nat} {t : Nat → Int32} (hF : F ≤ 3) (hH : H ≤ 5) (hk : k < 30) (hv : ∀ h, h < H → ∃ u : Nat, u < 2 + F ∧ t h = nI u) : ∀ h, h < H → ∃ u : Nat, u < 2 + F ∧ zYm1 F H k t h = nI u := by
  intro h hh
  unfold zYm1
  split
  · exact hv h hh
  · split
    · rename_i h1 h2
      by_cases e : h = k / 6
      · subst e
        rw [pk_us]
        rw [show (1 : Int32) = nI 1 from rfl, nI_add, nI_leI (by omega) (by omega)] at h2
        exact ⟨k % 6, by omega, rfl⟩
      · rw [pk_un e]; exact hv h hh
    · exact hv h hh
theorem zSav {F H : Nat} {cm : Int32} {t : Nat → Int32} (hv : ∀ h, h < H → ∃ u : Nat, u < 2 + F ∧ t h = nI u) : ∀ h, h < H → ∃ u : Nat, u < 2 + F ∧ zSa cm t H h = nI u := by
  intro h hh
  unfold zSa
  rw [if_pos hh]
  split
  · exact ⟨0, by omega, rfl⟩
  · exact hv h hh
theorem zC16v {F H : Nat} {pg t : Nat → Int32} (hH : H ≤ 5) (hv : ∀ h, h < H → ∃ u : Nat, u < 2 + F ∧ pg h = nI u) : ∀ h, h < H → ∃ u : Nat, u < 2 + F ∧ zC16 pg t 16 h = nI u := by
  intro h hh
  rw [zC16, if_pos (by omega)]
  exact hv h hh
theorem zLpv {F H R : Nat} (hH : H ≤ 5) (hF : F ≤ 3) : ∀ n t, n ≤ H → ¬ (zLp F H R n t).2 = 0 → (∀ h, h < H - n → ∃ u : Nat, u < 2 + F ∧ t h = nI u) → ∀ h, h < H → ∃ u : Nat, u < 2 + F ∧ (zLp F H R n t).1 h = nI u
  | 0, t, _, _, hv => by
    intro h hh
    exact hv h (by omega)
  | n + 1, t, hn, h0, hv => by
    rw [zLp] at h0 ⊢
    by_cases h1 : nI (zDg 10 H R (H - (n + 1))) ≤ 1 + nI F
    · rw [if_pos h1] at h0 ⊢
      refine zLpv hH hF n _ (by omega) h0 (fun h hh => ?_)
      by_cases e : h = H - (n + 1)
      · subst e
        rw [pk_us]
        have h2 : zDg 10 H R (H - (n + 1)) < 10 := zDg_lt (by decide)
        rw [show (1 : Int32) = nI 1 from rfl, nI_add, nI_leI (by omega) (by omega)] at h1
        exact ⟨_, by omega, rfl⟩
      · rw [pk_un e]
        exact hv h (by omega)
    · rw [if_neg h1] at h0
      exact absurd rfl h0
