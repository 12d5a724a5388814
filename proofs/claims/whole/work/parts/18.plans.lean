theorem lp_power {d n0 E : Nat} {b : Int32} {sg : List zCel} (hE : E < 1000) : ∀ k i : Nat, i + k = E → zX RX9 cX9_power 4 (some .int) "power" none d n0 0 0 0 0 (fun r s => r = some (.int (zPw b E)) ∧ s = sg) 4 [some (.int b), some (.int (nI E)), some (.int (zPw b i)), some (.int (nI i))] [] sg := by
  intro k
  induction k with
  | zero =>
    intro i hi
    obtain rfl : i = E := by omega
    refine zx_iload_n (pc := 4) dX9_power_4 rfl rfl ?_
    refine zx_iload_n (pc := 5) dX9_power_5 rfl rfl ?_
    refine zx_icmp_ge (pc := 6) (tgt := 19) dX9_power_6 (by decide) (fun h6 => ?_) (fun h6 => by first | exact absurd h6 (show nI i ≤ nI i from Int32.le_refl _) | exact absurd (show nI i ≤ nI i from Int32.le_refl _) h6)
    refine zx_iload_n (pc := 19) dX9_power_19 rfl rfl ?_
    exact zx_fi (pc := 20) dX9_power_20 rfl rfl (Nat.le_refl _) (Nat.le_refl _) rfl rfl
  | succ k ih =>
    intro i hi
    refine zx_iload_n (pc := 4) dX9_power_4 rfl rfl ?_
    refine zx_iload_n (pc := 5) dX9_power_5 rfl rfl ?_
    refine zx_icmp_ge (pc := 6) (tgt := 19) dX9_power_6 (by decide) (fun h6 => by first | exact absurd h6 (nI_ge (show i < E by omega) (by omega)) | exact absurd (nI_ge (show i < E by omega) (by omega)) h6) (fun h6 => ?_)
    refine zx_iload_n (pc := 9) dX9_power_9 rfl rfl ?_
    refine zx_iload_n (pc := 10) dX9_power_10 rfl rfl ?_
    refine zx_imul (pc := 11) dX9_power_11 ?_
    refine st_2_4 (pc := 12) dX9_power_12 rfl ?_
    refine ic_3_4_1 (pc := 13) dX9_power_13 rfl ?_
    refine zx_goto (pc := 16) (tgt := 4) dX9_power_16 (by decide) ?_
    rw [nI_1]
    exact ih (i + 1) (by omega)
set_option maxHeartbeats 4000000 in
theorem k_power {d : Nat} {E : Nat} {b : Int32} {sg : List zCel} (hE : E < 1000) : zCf yX9_power cX9_power 4 (some .int) d [.int b, .int (nI E)] (sg) (some (.int (zPw b E))) (sg) := by
  refine zC.intro (by decide) (Nat.le_of_ble_eq_true rfl) rfl ?_
  refine zx_iconst (pc := 0) (v := 1) dX9_power_0 (by decide) ?_
  refine st_2_4 (pc := 1) dX9_power_1 rfl ?_
  refine zx_iconst (pc := 2) (v := 0) dX9_power_2 (by decide) ?_
  refine st_3_4 (pc := 3) dX9_power_3 rfl ?_
  exact lp_power hE E 0 (by omega)
set_option maxHeartbeats 4000000 in
theorem k_isWallHeight {d : Nat} {x : Int32} {sg : List zCel}  : zCf yX9_isWallHeight cX9_isWallHeight 1 (some .boolean) d [.int x] (sg) (some (.int (zWH x))) (sg) := by
  refine zC.intro (by decide) (Nat.le_of_ble_eq_true rfl) rfl ?_
  refine zx_iload_n (pc := 0) dX9_isWallHeight_0 rfl rfl ?_
  refine zx_iconst (pc := 1) (v := 1) dX9_isWallHeight_1 (by decide) ?_
  refine zx_icmp_lt (pc := 2) (tgt := 15) dX9_isWallHeight_2 (by decide) (fun h2 => ?_) (fun h2 => ?_)
  · refine zx_iconst (pc := 15) (v := 0) dX9_isWallHeight_15 (by decide) ?_
    exact zx_fi (pc := 16) dX9_isWallHeight_16 rfl (by decide) (Nat.le_refl _) (Nat.le_refl _) (by first | (simp only [zWH, h2, reduceIte, not_true_eq_false, not_false_eq_true]; done) | (simp [zWH, h2]; done)) rfl
  · refine zx_iload_n (pc := 5) dX9_isWallHeight_5 rfl rfl ?_
    refine zx_bipush (pc := 6) (v := 8) dX9_isWallHeight_6 (by decide) ?_
    refine zx_icmp_gt (pc := 8) (tgt := 15) dX9_isWallHeight_8 (by decide) (fun h8 => ?_) (fun h8 => ?_)
    · refine zx_iconst (pc := 15) (v := 0) dX9_isWallHeight_15 (by decide) ?_
      exact zx_fi (pc := 16) dX9_isWallHeight_16 rfl (by decide) (Nat.le_refl _) (Nat.le_refl _) (by first | (simp only [zWH, h2, h8, reduceIte, not_true_eq_false, not_false_eq_true]; done) | (simp [zWH, h2, h8]; done)) rfl
    · refine zx_iconst (pc := 11) (v := 1) dX9_isWallHeight_11 (by decide) ?_
      refine zx_goto (pc := 12) (tgt := 16) dX9_isWallHeight_12 (by decide) ?_
      exact zx_fi (pc := 16) dX9_isWallHeight_16 rfl (by decide) (Nat.le_refl _) (Nat.le_refl _) (by first | (simp only [zWH, h2, h8, reduceIte, not_true_eq_false, not_false_eq_true]; done) | (simp [zWH, h2, h8]; done)) rfl
set_option maxHeartbeats 4000000 in
theorem k_isRains {d : Nat} {x : Int32} {sg : List zCel}  : zCf yX9_isRains cX9_isRains 1 (some .boolean) d [.int x] (sg) (some (.int (zIR x))) (sg) := by
  refine zC.intro (by decide) (Nat.le_of_ble_eq_true rfl) rfl ?_
  refine zx_iload_n (pc := 0) dX9_isRains_0 rfl rfl ?_
  refine zx_if_lt (pc := 1) (tgt := 13) dX9_isRains_1 (by decide) (fun h1 => ?_) (fun h1 => ?_)
  · refine zx_iconst (pc := 13) (v := 0) dX9_isRains_13 (by decide) ?_
    exact zx_fi (pc := 14) dX9_isRains_14 rfl (by decide) (Nat.le_refl _) (Nat.le_refl _) (by first | (simp only [zIR, h1, reduceIte, not_true_eq_false, not_false_eq_true]; done) | (simp [zIR, h1]; done)) rfl
  · refine zx_iload_n (pc := 4) dX9_isRains_4 rfl rfl ?_
    refine zx_iconst (pc := 5) (v := 3) dX9_isRains_5 (by decide) ?_
    refine zx_icmp_gt (pc := 6) (tgt := 13) dX9_isRains_6 (by decide) (fun h6 => ?_) (fun h6 => ?_)
    · refine zx_iconst (pc := 13) (v := 0) dX9_isRains_13 (by decide) ?_
      exact zx_fi (pc := 14) dX9_isRains_14 rfl (by decide) (Nat.le_refl _) (Nat.le_refl _) (by first | (simp only [zIR, h1, h6, reduceIte, not_true_eq_false, not_false_eq_true]; done) | (simp [zIR, h1, h6]; done)) rfl
    · refine zx_iconst (pc := 9) (v := 1) dX9_isRains_9 (by decide) ?_
      refine zx_goto (pc := 10) (tgt := 14) dX9_isRains_10 (by decide) ?_
      exact zx_fi (pc := 14) dX9_isRains_14 rfl (by decide) (Nat.le_refl _) (Nat.le_refl _) (by first | (simp only [zIR, h1, h6, reduceIte, not_true_eq_false, not_false_eq_true]; done) | (simp [zIR, h1, h6]; done)) rfl
set_option maxHeartbeats 4000000 in
theorem k_overseerHas {d : Nat} {x y : Int32} {sg : List zCel}  : zCf yX9_overseerHas cX9_overseerHas 2 (some .int) (d + 1) [.int x, .int y] (sg) (some (.int (zOh x y))) (sg) := by
  refine zC.intro (by decide) (Nat.le_of_ble_eq_true rfl) rfl ?_
  refine zx_iload_n (pc := 0) dX9_overseerHas_0 rfl rfl ?_
  refine zx_iload_n (pc := 1) dX9_overseerHas_1 rfl rfl ?_
  refine zx_iadd (pc := 2) dX9_overseerHas_2 ?_
  refine zx_iconst (pc := 3) (v := 3) dX9_overseerHas_3 (by decide) ?_
  refine zx_iconst (pc := 4) (v := 0) dX9_overseerHas_4 (by decide) ?_
  refine zx_iload_n (pc := 5) dX9_overseerHas_5 rfl rfl ?_
  refine zx_iload_n (pc := 6) dX9_overseerHas_6 rfl rfl ?_
  refine zx_isub (pc := 7) dX9_overseerHas_7 ?_
  refine zx_mmax (pc := 8) (Nat.le_of_ble_eq_true rfl) (by omega) (Nat.le_refl _) (Nat.le_refl _) ml_X9_303 dX9_overseerHas_8 ?_
  refine zx_imul (pc := 11) dX9_overseerHas_11 ?_
  refine zx_isub (pc := 12) dX9_overseerHas_12 ?_
  exact zx_fi (pc := 13) dX9_overseerHas_13 rfl rfl (Nat.le_refl _) (Nat.le_refl _) rfl rfl
set_option maxHeartbeats 4000000 in
theorem k_foremanHas {d : Nat} {x y : Int32} {sg : List zCel}  : zCf yX9_foremanHas cX9_foremanHas 2 (some .int) (d + 1) [.int x, .int y] (sg) (some (.int (zFh x y))) (sg) := by
  refine zC.intro (by decide) (Nat.le_of_ble_eq_true rfl) rfl ?_
  refine zx_bipush (pc := 0) (v := 9) dX9_foremanHas_0 (by decide) ?_
  refine zx_iload_n (pc := 2) dX9_foremanHas_2 rfl rfl ?_
  refine zx_isub (pc := 3) dX9_foremanHas_3 ?_
  refine zx_iconst (pc := 4) (v := 2) dX9_foremanHas_4 (by decide) ?_
  refine zx_iconst (pc := 5) (v := 0) dX9_foremanHas_5 (by decide) ?_
  refine zx_iload_n (pc := 6) dX9_foremanHas_6 rfl rfl ?_
  refine zx_iload_n (pc := 7) dX9_foremanHas_7 rfl rfl ?_
  refine zx_isub (pc := 8) dX9_foremanHas_8 ?_
  refine zx_mmax (pc := 9) (Nat.le_of_ble_eq_true rfl) (by omega) (Nat.le_refl _) (Nat.le_refl _) ml_X9_303 dX9_foremanHas_9 ?_
  refine zx_imul (pc := 12) dX9_foremanHas_12 ?_
  refine zx_isub (pc := 13) dX9_foremanHas_13 ?_
  exact zx_fi (pc := 14) dX9_foremanHas_14 rfl rfl (Nat.le_refl _) (Nat.le_refl _) rfl rfl
set_option maxHeartbeats 4000000 in
theorem k_factorial {d : Nat} {x : Int32} {sg : List zCel}  : zCf yX9_factorial cX9_factorial 1 (some .int) d [.int x] (sg) (some (.int (zFc x))) (sg) := by
  refine zC.intro (by decide) (Nat.le_of_ble_eq_true rfl) rfl ?_
  refine zx_iload_n (pc := 0) dX9_factorial_0 rfl rfl ?_
  refine zx_if_lt (pc := 1) (tgt := 20) dX9_factorial_1 (by decide) (fun h1 => ?_) (fun h1 => ?_)
  · refine zx_iconst (pc := 20) (v := 0) dX9_factorial_20 (by decide) ?_
    exact zx_fi (pc := 21) dX9_factorial_21 rfl rfl (Nat.le_refl _) (Nat.le_refl _) (by first | (rw [zFc, if_pos h1]; done) | (rw [zFc, if_neg h1, if_pos h9]; done) | (rw [zFc, if_neg h1, if_neg h9, nI_clamp (show j < 2 ^ 31 by omega)]; done)) rfl
  · refine zx_iload_n (pc := 4) dX9_factorial_4 rfl rfl ?_
    refine zx_gets (pc := 5) fl_X9_294 dX9_factorial_5 ?_
    refine zx_flen (pc := 8) dX9_factorial_8 ?_
    refine zx_icmp_ge (pc := 9) (tgt := 20) dX9_factorial_9 (by decide) (fun h9 => ?_) (fun h9 => ?_)
    · refine zx_iconst (pc := 20) (v := 0) dX9_factorial_20 (by decide) ?_
      exact zx_fi (pc := 21) dX9_factorial_21 rfl rfl (Nat.le_refl _) (Nat.le_refl _) (by first | (rw [zFc, if_pos h1]; done) | (rw [zFc, if_neg h1, if_pos h9]; done) | (rw [zFc, if_neg h1, if_neg h9, nI_clamp (show j < 2 ^ 31 by omega)]; done)) rfl
    · obtain ⟨j, hj, rfl⟩ : ∃ j : Nat, j < 6 ∧ x = nI j := zof (T := 6) h1 h9 (by decide)
      refine zx_gets (pc := 12) fl_X9_294 dX9_factorial_12 ?_
      refine zx_iload_n (pc := 15) dX9_factorial_15 rfl rfl ?_
      refine zx_fald (pc := 16) (zix_n hj) (zfac_eq j) dX9_factorial_16 ?_
      refine zx_goto (pc := 17) (tgt := 21) dX9_factorial_17 (by decide) ?_
      exact zx_fi (pc := 21) dX9_factorial_21 rfl rfl (Nat.le_refl _) (Nat.le_refl _) (by first | (rw [zFc, if_pos h1]; done) | (rw [zFc, if_neg h1, if_pos h9]; done) | (rw [zFc, if_neg h1, if_neg h9, nI_clamp (show j < 2 ^ 31 by omega)]; done)) rfl
set_option maxHeartbeats 4000000 in
theorem k_ordersBehind {d : Nat} {x : Int32} {tx : (Nat → Int32) × Int32} {gs : (Nat → Int32)} {gk : (Nat → Int32)} {gf : (Nat → Int32)} {ga : (Nat → Int32)} {gh : Int32} {gd : Int32} {gc : Int32} {nw : (Nat → Int32) × (Nat → Int32) × Int32 × Int32 × Int32 × Int32 × Int32 × Int32 × Int32} {tr : (Nat → Int32) × (Nat → Int32) × Int32 × Int32 × Int32 × Int32 × Int32 × Int32 × Int32} {wk : (Nat → Int32) × Int32 × Int32 × Int32} {pl : (Nat → Int32) × Int32 × Int32 × Int32 × Int32 × Int32} {ac : (Nat → zStt) × Int32 × Int32} {sl : (Nat → zStt) × (Nat → Int32)} {si : (Nat → Int32) × (Nat → Int32) × (Nat → Int32) × Int32} {sd : Int64} {tau : List zCel}  : zCf yX9_ordersBehind cX9_ordersBehind 2 (some .int) (d + 1) [.ref 0, .int x] (encC tx (gs, gk, gf, ga, gh, gd, gc) nw tr wk pl ac sl si sd ++ tau) (some (.int (zFc x * zFc (gh - 1 - x)))) (encC tx (gs, gk, gf, ga, gh, gd, gc) nw tr wk pl ac sl si sd ++ tau) := by
  refine zC.intro (by decide) (Nat.le_of_ble_eq_true rfl) rfl ?_
  refine zx_iload_n (pc := 0) dX9_ordersBehind_0 rfl rfl ?_
  refine zx_fS1 (pc := 1) (k_factorial (d := d) ) cl_X9_241 dX9_ordersBehind_1 rfl rfl (by omega) (Nat.le_of_ble_eq_true rfl) (Nat.le_refl _) (Nat.le_refl _) ?_
  refine zx_aload_n (pc := 4) dX9_ordersBehind_4 rfl rfl ?_
  refine g0_1 (pc := 5) fl_X9_19 dX9_ordersBehind_5 ?_
  refine g3_4 (pc := 8) fl_X9_92 dX9_ordersBehind_8 ?_
  refine zx_iconst (pc := 11) (v := 1) dX9_ordersBehind_11 (by decide) ?_
  refine zx_isub (pc := 12) dX9_ordersBehind_12 ?_
  refine zx_iload_n (pc := 13) dX9_ordersBehind_13 rfl rfl ?_
  refine zx_isub (pc := 14) dX9_ordersBehind_14 ?_
  refine zx_fS1 (pc := 15) (k_factorial (d := d) ) cl_X9_241 dX9_ordersBehind_15 rfl rfl (by omega) (Nat.le_of_ble_eq_true rfl) (Nat.le_refl _) (Nat.le_refl _) ?_
  refine zx_imul (pc := 18) dX9_ordersBehind_18 ?_
  exact zx_fi (pc := 19) dX9_ordersBehind_19 rfl rfl (Nat.le_refl _) (Nat.le_refl _) rfl rfl
theorem lp_overseer {d n0 : Nat} {c m v : Int32} {sg : List zCel} : ∀ k i : Nat, i + k = 10 → v = zOv c m k → zX RX9 cX9_overseerRests 3 (some .boolean) "overseerRests" none (d + 2) n0 0 0 0 0 (fun r s => r = some (.int v) ∧ s = sg) 2 [some (.int c), some (.int m), some (.int (nI i))] [] sg := by
  intro k
  induction k with
  | zero =>
    intro i hi hv
    obtain rfl : i = 10 := by omega
    refine zx_iload_n (pc := 2) dX9_overseerRests_2 rfl rfl ?_
    refine zx_bipush (pc := 3) (v := 9) dX9_overseerRests_3 (by decide) ?_
    refine zx_icmp_gt (pc := 5) (tgt := 29) dX9_overseerRests_5 (by decide) (fun h5 => ?_) (fun h5 => by first | exact absurd h5 (show (9 : Int32) < nI 10 by decide) | exact absurd (show (9 : Int32) < nI 10 by decide) h5)
    refine zx_iconst (pc := 29) (v := 1) dX9_overseerRests_29 (by decide) ?_
    exact zx_fi (pc := 30) dX9_overseerRests_30 rfl (by decide) (Nat.le_refl _) (Nat.le_refl _) (by rw [hv]; rfl) rfl
  | succ k ih =>
    intro i hi hv
    have e0 : 10 - (k + 1) = i := by omega
    refine zx_iload_n (pc := 2) dX9_overseerRests_2 rfl rfl ?_
    refine zx_bipush (pc := 3) (v := 9) dX9_overseerRests_3 (by decide) ?_
    refine zx_icmp_gt (pc := 5) (tgt := 29) dX9_overseerRests_5 (by decide) (fun h5 => by first | exact absurd h5 (show ¬ (9 : Int32) < nI i from nI_nlt (a := 9) (b := i) (by omega) (by decide)) | exact absurd (show ¬ (9 : Int32) < nI i from nI_nlt (a := 9) (b := i) (by omega) (by decide)) h5) (fun h5 => ?_)
    refine zx_iload_n (pc := 8) dX9_overseerRests_8 rfl rfl ?_
    refine zx_iload_n (pc := 9) dX9_overseerRests_9 rfl rfl ?_
    refine zx_fS1 (pc := 10) (k_overseerHas (d := d) ) cl_X9_297 dX9_overseerRests_10 rfl rfl (by omega) (Nat.le_of_ble_eq_true rfl) (Nat.le_refl _) (Nat.le_refl _) ?_
    refine zx_iload_n (pc := 13) dX9_overseerRests_13 rfl rfl ?_
    refine zx_iload_n (pc := 14) dX9_overseerRests_14 rfl rfl ?_
    refine zx_fS1 (pc := 15) (k_overseerHas (d := d) ) cl_X9_297 dX9_overseerRests_15 rfl rfl (by omega) (Nat.le_of_ble_eq_true rfl) (Nat.le_refl _) (Nat.le_refl _) ?_
    refine zx_icmp_le (pc := 18) (tgt := 23) dX9_overseerRests_18 (by decide) (fun h18 => ?_) (fun h18 => ?_)
    · refine ic_2_3_1 (pc := 23) dX9_overseerRests_23 rfl ?_
      refine zx_goto (pc := 26) (tgt := 2) dX9_overseerRests_26 (by decide) ?_
      rw [nI_1]
      exact ih (i + 1) (by omega) (by rw [hv, zOv, e0, if_pos h18])
    · refine zx_iconst (pc := 21) (v := 0) dX9_overseerRests_21 (by decide) ?_
      exact zx_fi (pc := 22) dX9_overseerRests_22 rfl (by decide) (Nat.le_refl _) (Nat.le_refl _) (by rw [hv, zOv, e0, if_neg h18]) rfl
set_option maxHeartbeats 4000000 in
theorem k_overseerRests {d : Nat} {c m : Int32} {sg : List zCel}  : zCf yX9_overseerRests cX9_overseerRests 3 (some .boolean) (d + 2) [.int c, .int m] (sg) (some (.int (zOv c m 10))) (sg) := by
  refine zC.intro (by decide) (Nat.le_of_ble_eq_true rfl) rfl ?_
  refine zx_iconst (pc := 0) (v := 0) dX9_overseerRests_0 (by decide) ?_
  refine st_2_3 (pc := 1) dX9_overseerRests_1 rfl ?_
  exact lp_overseer 10 0 (by omega) rfl
theorem lp_foreman {d n0 M : Nat} {c m v : Int32} {sg : List zCel} (hM : M ≤ 9) : ∀ k i : Nat, i + k = M + 1 → v = zFo c m M k → zX RX9 cX9_foremanRests 4 (some .boolean) "foremanRests" none (d + 2) n0 0 0 0 0 (fun r s => r = some (.int v) ∧ s = sg) 2 [some (.int c), some (.int m), some (.int (nI M)), some (.int (nI i))] [] sg := by
  intro k
  induction k with
  | zero =>
    intro i hi hv
    obtain rfl : i = M + 1 := by omega
    refine zx_iload_n (pc := 2) dX9_foremanRests_2 rfl rfl ?_
    refine zx_iload_n (pc := 3) dX9_foremanRests_3 rfl rfl ?_
    refine zx_icmp_gt (pc := 4) (tgt := 28) dX9_foremanRests_4 (by decide) (fun h4 => ?_) (fun h4 => by first | exact absurd h4 (show nI M < nI (M + 1) from nI_lt (by omega) (by omega)) | exact absurd (show nI M < nI (M + 1) from nI_lt (by omega) (by omega)) h4)
    refine zx_iconst (pc := 28) (v := 1) dX9_foremanRests_28 (by decide) ?_
    exact zx_fi (pc := 29) dX9_foremanRests_29 rfl (by decide) (Nat.le_refl _) (Nat.le_refl _) (by rw [hv]; rfl) rfl
  | succ k ih =>
    intro i hi hv
    have e0 : M + 1 - (k + 1) = i := by omega
    refine zx_iload_n (pc := 2) dX9_foremanRests_2 rfl rfl ?_
    refine zx_iload_n (pc := 3) dX9_foremanRests_3 rfl rfl ?_
    refine zx_icmp_gt (pc := 4) (tgt := 28) dX9_foremanRests_4 (by decide) (fun h4 => by first | exact absurd h4 (show ¬ nI M < nI i from nI_nlt (by omega) (by omega)) | exact absurd (show ¬ nI M < nI i from nI_nlt (by omega) (by omega)) h4) (fun h4 => ?_)
    refine zx_iload_n (pc := 7) dX9_foremanRests_7 rfl rfl ?_
    refine zx_iload_n (pc := 8) dX9_foremanRests_8 rfl rfl ?_
    refine zx_fS1 (pc := 9) (k_foremanHas (d := d) ) cl_X9_300 dX9_foremanRests_9 rfl rfl (by omega) (Nat.le_of_ble_eq_true rfl) (Nat.le_refl _) (Nat.le_refl _) ?_
    refine zx_iload_n (pc := 12) dX9_foremanRests_12 rfl rfl ?_
    refine zx_iload_n (pc := 13) dX9_foremanRests_13 rfl rfl ?_
    refine zx_fS1 (pc := 14) (k_foremanHas (d := d) ) cl_X9_300 dX9_foremanRests_14 rfl rfl (by omega) (Nat.le_of_ble_eq_true rfl) (Nat.le_refl _) (Nat.le_refl _) ?_
    refine zx_icmp_le (pc := 17) (tgt := 22) dX9_foremanRests_17 (by decide) (fun h17 => ?_) (fun h17 => ?_)
    · refine ic_3_4_1 (pc := 22) dX9_foremanRests_22 rfl ?_
      refine zx_goto (pc := 25) (tgt := 2) dX9_foremanRests_25 (by decide) ?_
      rw [nI_1]
      exact ih (i + 1) (by omega) (by rw [hv, zFo, e0, if_pos h17])
    · refine zx_iconst (pc := 20) (v := 0) dX9_foremanRests_20 (by decide) ?_
      exact zx_fi (pc := 21) dX9_foremanRests_21 rfl (by decide) (Nat.le_refl _) (Nat.le_refl _) (by rw [hv, zFo, e0, if_neg h17]) rfl
set_option maxHeartbeats 4000000 in
theorem k_foremanRests {d : Nat} {M : Nat} {c m : Int32} {sg : List zCel} (hM : M ≤ 9) : zCf yX9_foremanRests cX9_foremanRests 4 (some .boolean) (d + 2) [.int c, .int m, .int (nI M)] (sg) (some (.int (zFo c m M (M + 1)))) (sg) := by
  refine zC.intro (by decide) (Nat.le_of_ble_eq_true rfl) rfl ?_
  refine zx_iconst (pc := 0) (v := 0) dX9_foremanRests_0 (by decide) ?_
  refine st_3_4 (pc := 1) dX9_foremanRests_1 rfl ?_
  exact lp_foreman hM (M + 1) 0 (by omega) rfl
theorem lp_gcd {d n0 : Nat} {p q v : Int32} {sg : List zCel} : ∀ k i a b : Nat, i + k = 64 → a < 2 ^ 31 → b < 2 ^ 31 → v = nI (zGc k a b) → ∀ o5 : Option Value, zX RX9 cX9_commonDivisor 6 (some .int) "commonDivisor" none d n0 0 0 0 0 (fun r s => r = some (.int v) ∧ s = sg) 7 [some (.int p), some (.int q), some (.int (nI a)), some (.int (nI b)), some (.int (nI i)), o5] [] sg := by
  intro k
  induction k with
  | zero =>
    intro i a b hi ha hb hv o5
    obtain rfl : i = 64 := by omega
    refine zx_iload (pc := 7) dX9_commonDivisor_7 rfl ?_
    refine zx_bipush (pc := 9) (v := 64) dX9_commonDivisor_9 (by decide) ?_
    refine zx_icmp_ge (pc := 11) (tgt := 34) dX9_commonDivisor_11 (by decide) (fun h11 => ?_) (fun h11 => by first | exact absurd h11 (show (64 : Int32) ≤ nI 64 by decide) | exact absurd (show (64 : Int32) ≤ nI 64 by decide) h11)
    refine zx_iload_n (pc := 34) dX9_commonDivisor_34 rfl rfl ?_
    exact zx_fi (pc := 35) dX9_commonDivisor_35 rfl rfl (Nat.le_refl _) (Nat.le_refl _) (by rw [hv]; rfl) rfl
  | succ k ih =>
    intro i a b hi ha hb hv o5
    refine zx_iload (pc := 7) dX9_commonDivisor_7 rfl ?_
    refine zx_bipush (pc := 9) (v := 64) dX9_commonDivisor_9 (by decide) ?_
    refine zx_icmp_ge (pc := 11) (tgt := 34) dX9_commonDivisor_11 (by decide) (fun h11 => by first | exact absurd h11 (show ¬ (64 : Int32) ≤ nI i from nI_ge (a := i) (b := 64) (by omega) (by decide)) | exact absurd (show ¬ (64 : Int32) ≤ nI i from nI_ge (a := i) (b := 64) (by omega) (by decide)) h11) (fun h11 => ?_)
    refine zx_iload_n (pc := 14) dX9_commonDivisor_14 rfl rfl ?_
    refine zx_if_eq (pc := 15) (tgt := 34) dX9_commonDivisor_15 (by decide) (fun h15 => ?_) (fun h15 => ?_)
    · refine zx_iload_n (pc := 34) dX9_commonDivisor_34 rfl rfl ?_
      exact zx_fi (pc := 35) dX9_commonDivisor_35 rfl rfl (Nat.le_refl _) (Nat.le_refl _) (by rw [hv, zGc, if_pos ((nI_eq hb (by decide)).mp (h15 : nI b = nI 0))]) rfl
    · have hb0 : b ≠ 0 := fun e => h15 (by rw [e]; rfl)
      refine zx_iload_n (pc := 18) dX9_commonDivisor_18 rfl rfl ?_
      refine zx_iload_n (pc := 19) dX9_commonDivisor_19 rfl rfl ?_
      refine zx_irem (pc := 20) dX9_commonDivisor_20 h15 ?_
      rw [pk_rem ha (by omega) hb]
      refine st_5_6 (pc := 21) dX9_commonDivisor_21 rfl ?_
      refine zx_iload_n (pc := 23) dX9_commonDivisor_23 rfl rfl ?_
      refine st_2_6 (pc := 24) dX9_commonDivisor_24 rfl ?_
      refine zx_iload (pc := 25) dX9_commonDivisor_25 rfl ?_
      refine st_3_6 (pc := 27) dX9_commonDivisor_27 rfl ?_
      refine ic_4_6_1 (pc := 28) dX9_commonDivisor_28 rfl ?_
      refine zx_goto (pc := 31) (tgt := 7) dX9_commonDivisor_31 (by decide) ?_
      rw [nI_1]
      exact ih (i + 1) b (a % b) (by omega) hb (Nat.lt_trans (Nat.mod_lt _ (by omega)) hb) (by rw [hv, zGc, if_neg hb0]) _
set_option maxHeartbeats 4000000 in
theorem k_gcd {d : Nat} {a b : Nat} {sg : List zCel} (ha : a < 2 ^ 31) (hb : b < 2 ^ 31) : zCf yX9_commonDivisor cX9_commonDivisor 6 (some .int) d [.int (nI a), .int (nI b)] (sg) (some (.int (nI (Nat.gcd a b)))) (sg) := by
  refine zC.intro (by decide) (Nat.le_of_ble_eq_true rfl) rfl ?_
  refine zx_iload_n (pc := 0) dX9_commonDivisor_0 rfl rfl ?_
  refine st_2_6 (pc := 1) dX9_commonDivisor_1 rfl ?_
  refine zx_iload_n (pc := 2) dX9_commonDivisor_2 rfl rfl ?_
  refine st_3_6 (pc := 3) dX9_commonDivisor_3 rfl ?_
  refine zx_iconst (pc := 4) (v := 0) dX9_commonDivisor_4 (by decide) ?_
  refine st_4_6 (pc := 5) dX9_commonDivisor_5 rfl ?_
  exact lp_gcd 64 0 a b (by omega) ha hb (by rw [zGc_gcd 31 a b 64 hb (by omega)]) _
set_option maxHeartbeats 4000000 in
theorem k_fraction {d : Nat} {a b : Nat} {x z : Int32} {sg : List zCel} (hx : (if 0 ≤ x then x else 0 - x) = nI a) (ha : a < 2 ^ 31) (hb : b < 2 ^ 31) (h0 : 0 < b) : zCf yX9_fraction cX9_fraction 5 (some .int) (d + 1) [.int x, .int (nI b), .int z] (sg) (some (.int ((if z = 0 then nI b else x) / nI (Nat.gcd a b)))) (sg) := by
  have hg : ¬ nI (Nat.gcd a b) = 0 := nI_ne0 (Nat.gcd_pos_of_pos_right a h0) (Nat.lt_of_le_of_lt (Nat.gcd_le_right a h0) hb)
  refine zC.intro (by decide) (Nat.le_of_ble_eq_true rfl) rfl ?_
  refine zx_iload_n (pc := 0) dX9_fraction_0 rfl rfl ?_
  refine zx_if_eq (pc := 1) (tgt := 8) dX9_fraction_1 (by decide) (fun h1 => ?_) (fun h1 => ?_)
  · refine zx_iload_n (pc := 8) dX9_fraction_8 rfl rfl ?_
    refine st_3_5 (pc := 9) dX9_fraction_9 rfl ?_
    refine zx_iload_n (pc := 10) dX9_fraction_10 rfl rfl ?_
    refine zx_mabs (pc := 11) (Nat.le_of_ble_eq_true rfl) (by omega) (Nat.le_refl _) (Nat.le_refl _) ml_X9_306 dX9_fraction_11 ?_
    refine zx_iload_n (pc := 14) dX9_fraction_14 rfl rfl ?_
    rw [hx]
    refine zx_fS1 (pc := 15) (k_gcd (d := d) ha hb) cl_X9_309 dX9_fraction_15 rfl rfl (by omega) (Nat.le_of_ble_eq_true rfl) (Nat.le_refl _) (Nat.le_refl _) ?_
    refine st_4_5 (pc := 18) dX9_fraction_18 rfl ?_
    refine zx_iload (pc := 20) dX9_fraction_20 rfl ?_
    refine zx_if_ne (pc := 22) (tgt := 29) dX9_fraction_22 (by decide) (fun h22 => ?_) (fun h22 => by first | exact absurd h22 hg | exact absurd hg h22)
    refine zx_iload_n (pc := 29) dX9_fraction_29 rfl rfl ?_
    refine zx_iload (pc := 30) dX9_fraction_30 rfl ?_
    refine zx_idiv (pc := 32) dX9_fraction_32 hg ?_
    exact zx_fi (pc := 33) dX9_fraction_33 rfl rfl (Nat.le_refl _) (Nat.le_refl _) (by first | (simp only [h1, h22, reduceIte, not_true_eq_false, not_false_eq_true]; done) | (simp [h1, h22]; done)) rfl
  · refine zx_iload_n (pc := 4) dX9_fraction_4 rfl rfl ?_
    refine zx_goto (pc := 5) (tgt := 9) dX9_fraction_5 (by decide) ?_
    refine st_3_5 (pc := 9) dX9_fraction_9 rfl ?_
    refine zx_iload_n (pc := 10) dX9_fraction_10 rfl rfl ?_
    refine zx_mabs (pc := 11) (Nat.le_of_ble_eq_true rfl) (by omega) (Nat.le_refl _) (Nat.le_refl _) ml_X9_306 dX9_fraction_11 ?_
    refine zx_iload_n (pc := 14) dX9_fraction_14 rfl rfl ?_
    rw [hx]
    refine zx_fS1 (pc := 15) (k_gcd (d := d) ha hb) cl_X9_309 dX9_fraction_15 rfl rfl (by omega) (Nat.le_of_ble_eq_true rfl) (Nat.le_refl _) (Nat.le_refl _) ?_
    refine st_4_5 (pc := 18) dX9_fraction_18 rfl ?_
    refine zx_iload (pc := 20) dX9_fraction_20 rfl ?_
    refine zx_if_ne (pc := 22) (tgt := 29) dX9_fraction_22 (by decide) (fun h22 => ?_) (fun h22 => by first | exact absurd h22 hg | exact absurd hg h22)
    refine zx_iload_n (pc := 29) dX9_fraction_29 rfl rfl ?_
    refine zx_iload (pc := 30) dX9_fraction_30 rfl ?_
    refine zx_idiv (pc := 32) dX9_fraction_32 hg ?_
    exact zx_fi (pc := 33) dX9_fraction_33 rfl rfl (Nat.le_refl _) (Nat.le_refl _) (by first | (simp only [h1, h22, reduceIte, not_true_eq_false, not_false_eq_true]; done) | (simp [h1, h22]; done)) rfl
set_option maxHeartbeats 4000000 in
theorem lp_comers {d n0 H F : Nat} {cm : Int32} {tx : (Nat → Int32) × Int32} {gs : (Nat → Int32)} {gk : (Nat → Int32)} {gf : (Nat → Int32)} {ga : (Nat → Int32)} {gc : Int32} {nt : (Nat → Int32)} {ns : (Nat → Int32)} {n2 : Int32} {n3 : Int32} {n4 : Int32} {n5 : Int32} {n6 : Int32} {n7 : Int32} {n8 : Int32} {tr : (Nat → Int32) × (Nat → Int32) × Int32 × Int32 × Int32 × Int32 × Int32 × Int32 × Int32} {ws : (Nat → Int32)} {w1 : Int32} {w2 : Int32} {w3 : Int32} {pt : (Nat → Int32)} {b1 : Int32} {b2 : Int32} {b3 : Int32} {b4 : Int32} {b5 : Int32} {ac : (Nat → zStt) × Int32 × Int32} {sl : (Nat → zStt) × (Nat → Int32)} {si : (Nat → Int32) × (Nat → Int32) × (Nat → Int32) × Int32} {sd : Int64} {tau : List zCel} (hH : H ≤ 5) (hF : F ≤ 3) : ∀ k i : Nat, i + k = 5 → zX RX9 cX9_soundOfComers 3 (some .int) "soundOfComers" none (d + 4) n0 0 0 0 0 (fun r s => r = some (.int (zDay gs gk gf (nI F) H (zSc cm nt pt 5) (va_cpy ns ws 0 0 3) n2).2.2.2) ∧ s = encC tx (gs, gk, gf, ga, (nI H), (nI F), gc) (nt, ns, n2, n3, n4, n5, n6, n7, n8) tr (zDay gs gk gf (nI F) H (zSc cm nt pt 5) (va_cpy ns ws 0 0 3) n2) ((zSc cm nt pt 5), b1, b2, b3, b4, b5) ac sl si sd ++ tau) 2 [some (.ref 0), some (.int cm), some (.int (nI i))] [] (encC tx (gs, gk, gf, ga, (nI H), (nI F), gc) (nt, ns, n2, n3, n4, n5, n6, n7, n8) tr (ws, w1, w2, w3) ((zSc cm nt pt i), b1, b2, b3, b4, b5) ac sl si sd ++ tau) := by
  intro k
  induction k with
  | zero =>
    intro i hi
    obtain rfl : i = 5 := by omega
    refine zx_iload_n (pc := 2) dX9_soundOfComers_2 rfl rfl ?_
    refine zx_iconst (pc := 3) (v := 5) dX9_soundOfComers_3 (by decide) ?_
    refine zx_icmp_ge (pc := 4) (tgt := 44) dX9_soundOfComers_4 (by decide) (fun h4 => ?_) (fun h4 => by first | exact absurd h4 (show (5 : Int32) ≤ nI 5 by decide) | exact absurd (show (5 : Int32) ≤ nI 5 by decide) h4)
    refine zx_aload_n (pc := 44) dX9_soundOfComers_44 rfl rfl ?_
    refine g0_4 (pc := 45) fl_X9_36 dX9_soundOfComers_45 ?_
    refine zx_aload_n (pc := 48) dX9_soundOfComers_48 rfl rfl ?_
    refine g0_1 (pc := 49) fl_X9_19 dX9_soundOfComers_49 ?_
    refine zx_aload_n (pc := 52) dX9_soundOfComers_52 rfl rfl ?_
    refine g0_2 (pc := 53) fl_X9_26 dX9_soundOfComers_53 ?_
    refine zx_aload_n (pc := 56) dX9_soundOfComers_56 rfl rfl ?_
    refine g0_5 (pc := 57) fl_X9_43 dX9_soundOfComers_57 ?_
    refine g16_0 (pc := 60) fl_X9_195 dX9_soundOfComers_60 ?_
    refine zx_fV0 (pc := 63) (k_reckon_p (d := d) hH hF) cl_X9_164 p14 rfl dX9_soundOfComers_63 rfl rfl (by omega) (Nat.le_of_ble_eq_true rfl) (Nat.le_refl _) (Nat.le_refl _) ?_
    refine zx_aload_n (pc := 66) dX9_soundOfComers_66 rfl rfl ?_
    refine g0_4 (pc := 67) fl_X9_36 dX9_soundOfComers_67 ?_
    refine g14_3 (pc := 70) fl_X9_196 dX9_soundOfComers_70 ?_
    exact zx_fi (pc := 73) dX9_soundOfComers_73 rfl rfl (Nat.le_refl _) (Nat.le_refl _) rfl rfl
  | succ k ih =>
    intro i hi
    refine zx_iload_n (pc := 2) dX9_soundOfComers_2 rfl rfl ?_
    refine zx_iconst (pc := 3) (v := 5) dX9_soundOfComers_3 (by decide) ?_
    refine zx_icmp_ge (pc := 4) (tgt := 44) dX9_soundOfComers_4 (by decide) (fun h4 => by first | exact absurd h4 (zle5 (show i < 5 by omega)) | exact absurd (zle5 (show i < 5 by omega)) h4) (fun h4 => ?_)
    refine zx_aload_n (pc := 7) dX9_soundOfComers_7 rfl rfl ?_
    refine g0_5 (pc := 8) fl_X9_43 dX9_soundOfComers_8 ?_
    refine g16_0 (pc := 11) fl_X9_195 dX9_soundOfComers_11 ?_
    refine zx_iload_n (pc := 14) dX9_soundOfComers_14 rfl rfl ?_
    refine zx_iload_n (pc := 15) dX9_soundOfComers_15 rfl rfl ?_
    refine zx_iload_n (pc := 16) dX9_soundOfComers_16 rfl rfl ?_
    refine zx_ishr (pc := 17) dX9_soundOfComers_17 ?_
    refine zx_iconst (pc := 18) (v := 1) dX9_soundOfComers_18 (by decide) ?_
    refine zx_iand (pc := 19) dX9_soundOfComers_19 ?_
    refine zx_iconst (pc := 20) (v := 1) dX9_soundOfComers_20 (by decide) ?_
    refine zx_icmp_ne (pc := 21) (tgt := 36) dX9_soundOfComers_21 (by decide) (fun h21 => ?_) (fun h21 => ?_)
    · refine zx_iconst (pc := 36) (v := 0) dX9_soundOfComers_36 (by decide) ?_
      refine s17 (pc := 37) (zix_n (by omega)) dX9_soundOfComers_37 ?_
      refine ic_2_3_1 (pc := 38) dX9_soundOfComers_38 rfl ?_
      refine zx_goto (pc := 41) (tgt := 2) dX9_soundOfComers_41 (by decide) ?_
      rw [nI_1, zSc_s (by simp [h21])]
      exact ih (i + 1) (by omega)
    · refine zx_aload_n (pc := 24) dX9_soundOfComers_24 rfl rfl ?_
      refine g0_2 (pc := 25) fl_X9_26 dX9_soundOfComers_25 ?_
      refine g8_0 (pc := 28) fl_X9_145 dX9_soundOfComers_28 ?_
      refine zx_iload_n (pc := 31) dX9_soundOfComers_31 rfl rfl ?_
      refine a9 (pc := 32) (zix_n (by omega)) dX9_soundOfComers_32 ?_
      refine zx_goto (pc := 33) (tgt := 37) dX9_soundOfComers_33 (by decide) ?_
      refine s17 (pc := 37) (zix_n (by omega)) dX9_soundOfComers_37 ?_
      refine ic_2_3_1 (pc := 38) dX9_soundOfComers_38 rfl ?_
      refine zx_goto (pc := 41) (tgt := 2) dX9_soundOfComers_41 (by decide) ?_
      rw [nI_1, zSc_s (by simp [h21])]
      exact ih (i + 1) (by omega)
set_option maxHeartbeats 4000000 in
theorem k_comers {d : Nat} {H F : Nat} {cm : Int32} {tx : (Nat → Int32) × Int32} {gs : (Nat → Int32)} {gk : (Nat → Int32)} {gf : (Nat → Int32)} {ga : (Nat → Int32)} {gc : Int32} {nt : (Nat → Int32)} {ns : (Nat → Int32)} {n2 : Int32} {n3 : Int32} {n4 : Int32} {n5 : Int32} {n6 : Int32} {n7 : Int32} {n8 : Int32} {tr : (Nat → Int32) × (Nat → Int32) × Int32 × Int32 × Int32 × Int32 × Int32 × Int32 × Int32} {ws : (Nat → Int32)} {w1 : Int32} {w2 : Int32} {w3 : Int32} {pt : (Nat → Int32)} {b1 : Int32} {b2 : Int32} {b3 : Int32} {b4 : Int32} {b5 : Int32} {ac : (Nat → zStt) × Int32 × Int32} {sl : (Nat → zStt) × (Nat → Int32)} {si : (Nat → Int32) × (Nat → Int32) × (Nat → Int32) × Int32} {sd : Int64} {tau : List zCel} (hH : H ≤ 5) (hF : F ≤ 3) : zCf yX9_soundOfComers cX9_soundOfComers 3 (some .int) (d + 4) [.ref 0, .int cm] (encC tx (gs, gk, gf, ga, (nI H), (nI F), gc) (nt, ns, n2, n3, n4, n5, n6, n7, n8) tr (ws, w1, w2, w3) (pt, b1, b2, b3, b4, b5) ac sl si sd ++ tau) (some (.int ((zDay gs gk gf (nI F) H (zSc cm nt pt 5) (va_cpy ns ws 0 0 3) n2).2.2.2))) (encC tx (gs, gk, gf, ga, (nI H), (nI F), gc) (nt, ns, n2, n3, n4, n5, n6, n7, n8) tr (zDay gs gk gf (nI F) H (zSc cm nt pt 5) (va_cpy ns ws 0 0 3) n2) ((zSc cm nt pt 5), b1, b2, b3, b4, b5) ac sl si sd ++ tau) := by
  refine zC.intro (by decide) (Nat.le_of_ble_eq_true rfl) rfl ?_
  refine zx_iconst (pc := 0) (v := 0) dX9_soundOfComers_0 (by decide) ?_
  refine st_2_3 (pc := 1) dX9_soundOfComers_1 rfl ?_
  exact zx_sg (sg' := encC tx (gs, gk, gf, ga, (nI H), (nI F), gc) (nt, ns, n2, n3, n4, n5, n6, n7, n8) tr (ws, w1, w2, w3) ((zSc cm nt pt 0), b1, b2, b3, b4, b5) ac sl si sd ++ tau) (by rw [zSc_0]) (lp_comers hH hF 5 0 (by omega))
set_option maxHeartbeats 4000000 in
theorem lp_busy {d n0 H F : Nat} {tx : (Nat → Int32) × Int32} {gs : (Nat → Int32)} {gk : (Nat → Int32)} {gf : (Nat → Int32)} {ga : (Nat → Int32)} {gc : Int32} {nw : (Nat → Int32) × (Nat → Int32) × Int32 × Int32 × Int32 × Int32 × Int32 × Int32 × Int32} {tr : (Nat → Int32) × (Nat → Int32) × Int32 × Int32 × Int32 × Int32 × Int32 × Int32 × Int32} {wk : (Nat → Int32) × Int32 × Int32 × Int32} {pt : (Nat → Int32)} {b1 : Int32} {b2 : Int32} {b3 : Int32} {b4 : Int32} {b5 : Int32} {ac : (Nat → zStt) × Int32 × Int32} {sl : (Nat → zStt) × (Nat → Int32)} {si : (Nat → Int32) × (Nat → Int32) × (Nat → Int32) × Int32} {sd : Int64} {tau : List zCel} (hH : H ≤ 5) : ∀ k i : Nat, i + k = H → zX RX2 cX2_busyHands 4 (some .int) "busyHands" none d n0 0 0 0 0 (fun r s => r = some (.int (nI (zBu pt H))) ∧ s = encC tx (gs, gk, gf, ga, (nI H), (nI F), gc) nw tr wk (pt, b1, b2, b3, b4, b5) ac sl si sd ++ tau) 4 [some (.ref 16), some (.ref 3), some (.int (nI (zBu pt i))), some (.int (nI i))] [] (encC tx (gs, gk, gf, ga, (nI H), (nI F), gc) nw tr wk (pt, b1, b2, b3, b4, b5) ac sl si sd ++ tau) := by
  intro k
  induction k with
  | zero =>
    intro i hi
    obtain rfl : i = H := by omega
    refine zx_iload_n (pc := 4) dX2_busyHands_4 rfl rfl ?_
    refine zx_aload_n (pc := 5) dX2_busyHands_5 rfl rfl ?_
    refine g3_4 (pc := 6) fl_X2_15 dX2_busyHands_6 ?_
    refine zx_icmp_ge (pc := 9) (tgt := 30) dX2_busyHands_9 (by decide) (fun h9 => ?_) (fun h9 => by first | exact absurd h9 (show nI i ≤ nI i from Int32.le_refl _) | exact absurd (show nI i ≤ nI i from Int32.le_refl _) h9)
    refine zx_iload_n (pc := 30) dX2_busyHands_30 rfl rfl ?_
    exact zx_fi (pc := 31) dX2_busyHands_31 rfl rfl (Nat.le_refl _) (Nat.le_refl _) rfl rfl
  | succ k ih =>
    intro i hi
    refine zx_iload_n (pc := 4) dX2_busyHands_4 rfl rfl ?_
    refine zx_aload_n (pc := 5) dX2_busyHands_5 rfl rfl ?_
    refine g3_4 (pc := 6) fl_X2_15 dX2_busyHands_6 ?_
    refine zx_icmp_ge (pc := 9) (tgt := 30) dX2_busyHands_9 (by decide) (fun h9 => by first | exact absurd h9 (nI_ge (show i < H by omega) (by omega)) | exact absurd (nI_ge (show i < H by omega) (by omega)) h9) (fun h9 => ?_)
    refine zx_aload_n (pc := 12) dX2_busyHands_12 rfl rfl ?_
    refine g16_0 (pc := 13) fl_X2_9 dX2_busyHands_13 ?_
    refine zx_iload_n (pc := 16) dX2_busyHands_16 rfl rfl ?_
    refine a17 (pc := 17) (zix_n (by omega)) dX2_busyHands_17 ?_
    refine zx_if_eq (pc := 18) (tgt := 24) dX2_busyHands_18 (by decide) (fun h18 => ?_) (fun h18 => ?_)
    · refine ic_3_4_1 (pc := 24) dX2_busyHands_24 rfl ?_
      refine zx_goto (pc := 27) (tgt := 4) dX2_busyHands_27 (by decide) ?_
      have hs := ih (i + 1) (by omega)
      simp only [zBu, h18, reduceIte, ← nI_1] at hs
      exact hs
    · refine ic_2_4_1 (pc := 21) dX2_busyHands_21 rfl ?_
      refine ic_3_4_1 (pc := 24) dX2_busyHands_24 rfl ?_
      refine zx_goto (pc := 27) (tgt := 4) dX2_busyHands_27 (by decide) ?_
      have hs := ih (i + 1) (by omega)
      simp only [zBu, h18, reduceIte, ← nI_1] at hs
      exact hs
set_option maxHeartbeats 4000000 in
theorem k_busy {d : Nat} {H F : Nat} {tx : (Nat → Int32) × Int32} {gs : (Nat → Int32)} {gk : (Nat → Int32)} {gf : (Nat → Int32)} {ga : (Nat → Int32)} {gc : Int32} {nw : (Nat → Int32) × (Nat → Int32) × Int32 × Int32 × Int32 × Int32 × Int32 × Int32 × Int32} {tr : (Nat → Int32) × (Nat → Int32) × Int32 × Int32 × Int32 × Int32 × Int32 × Int32 × Int32} {wk : (Nat → Int32) × Int32 × Int32 × Int32} {pt : (Nat → Int32)} {b1 : Int32} {b2 : Int32} {b3 : Int32} {b4 : Int32} {b5 : Int32} {ac : (Nat → zStt) × Int32 × Int32} {sl : (Nat → zStt) × (Nat → Int32)} {si : (Nat → Int32) × (Nat → Int32) × (Nat → Int32) × Int32} {sd : Int64} {tau : List zCel} (hH : H ≤ 5) : zCf yX2_busyHands cX2_busyHands 4 (some .int) d [.ref 16, .ref 3] (encC tx (gs, gk, gf, ga, (nI H), (nI F), gc) nw tr wk (pt, b1, b2, b3, b4, b5) ac sl si sd ++ tau) (some (.int (nI (zBu pt H)))) (encC tx (gs, gk, gf, ga, (nI H), (nI F), gc) nw tr wk (pt, b1, b2, b3, b4, b5) ac sl si sd ++ tau) := by
  refine zC.intro (by decide) (Nat.le_of_ble_eq_true rfl) rfl ?_
  refine zx_iconst (pc := 0) (v := 0) dX2_busyHands_0 (by decide) ?_
  refine st_2_4 (pc := 1) dX2_busyHands_1 rfl ?_
  refine zx_iconst (pc := 2) (v := 0) dX2_busyHands_2 (by decide) ?_
  refine st_3_4 (pc := 3) dX2_busyHands_3 rfl ?_
  exact lp_busy hH H 0 (by omega)
set_option maxHeartbeats 4000000 in
theorem lp_fig {d n0 H F : Nat} {tx : (Nat → Int32) × Int32} {gs : (Nat → Int32)} {gk : (Nat → Int32)} {gf : (Nat → Int32)} {ga : (Nat → Int32)} {gc : Int32} {nw : (Nat → Int32) × (Nat → Int32) × Int32 × Int32 × Int32 × Int32 × Int32 × Int32 × Int32} {tr : (Nat → Int32) × (Nat → Int32) × Int32 × Int32 × Int32 × Int32 × Int32 × Int32 × Int32} {wk : (Nat → Int32) × Int32 × Int32 × Int32} {pt : (Nat → Int32)} {b1 : Int32} {b2 : Int32} {b3 : Int32} {b4 : Int32} {b5 : Int32} {ac : (Nat → zStt) × Int32 × Int32} {sl : (Nat → zStt) × (Nat → Int32)} {si : (Nat → Int32) × (Nat → Int32) × (Nat → Int32) × Int32} {sd : Int64} {tau : List zCel} (hH : H ≤ 5) : ∀ k i : Nat, i + k = H → zX RX2 cX2_figures 4 (some .int) "figures" none d n0 0 0 0 0 (fun r s => r = some (.int (zFg pt H)) ∧ s = encC tx (gs, gk, gf, ga, (nI H), (nI F), gc) nw tr wk (pt, b1, b2, b3, b4, b5) ac sl si sd ++ tau) 4 [some (.ref 16), some (.ref 3), some (.int (zFg pt i)), some (.int (nI i))] [] (encC tx (gs, gk, gf, ga, (nI H), (nI F), gc) nw tr wk (pt, b1, b2, b3, b4, b5) ac sl si sd ++ tau) := by
  intro k
  induction k with
  | zero =>
    intro i hi
    obtain rfl : i = H := by omega
    refine zx_iload_n (pc := 4) dX2_figures_4 rfl rfl ?_
    refine zx_aload_n (pc := 5) dX2_figures_5 rfl rfl ?_
    refine g3_4 (pc := 6) fl_X2_15 dX2_figures_6 ?_
    refine zx_icmp_ge (pc := 9) (tgt := 30) dX2_figures_9 (by decide) (fun h9 => ?_) (fun h9 => by first | exact absurd h9 (show nI i ≤ nI i from Int32.le_refl _) | exact absurd (show nI i ≤ nI i from Int32.le_refl _) h9)
    refine zx_iload_n (pc := 30) dX2_figures_30 rfl rfl ?_
    exact zx_fi (pc := 31) dX2_figures_31 rfl rfl (Nat.le_refl _) (Nat.le_refl _) rfl rfl
  | succ k ih =>
    intro i hi
    refine zx_iload_n (pc := 4) dX2_figures_4 rfl rfl ?_
    refine zx_aload_n (pc := 5) dX2_figures_5 rfl rfl ?_
    refine g3_4 (pc := 6) fl_X2_15 dX2_figures_6 ?_
    refine zx_icmp_ge (pc := 9) (tgt := 30) dX2_figures_9 (by decide) (fun h9 => by first | exact absurd h9 (nI_ge (show i < H by omega) (by omega)) | exact absurd (nI_ge (show i < H by omega) (by omega)) h9) (fun h9 => ?_)
    refine zx_bipush (pc := 12) (v := 10) dX2_figures_12 (by decide) ?_
    refine zx_iload_n (pc := 14) dX2_figures_14 rfl rfl ?_
    refine zx_imul (pc := 15) dX2_figures_15 ?_
    refine zx_aload_n (pc := 16) dX2_figures_16 rfl rfl ?_
    refine g16_0 (pc := 17) fl_X2_9 dX2_figures_17 ?_
    refine zx_iload_n (pc := 20) dX2_figures_20 rfl rfl ?_
    refine a17 (pc := 21) (zix_n (by omega)) dX2_figures_21 ?_
    refine zx_iadd (pc := 22) dX2_figures_22 ?_
    refine st_2_4 (pc := 23) dX2_figures_23 rfl ?_
    refine ic_3_4_1 (pc := 24) dX2_figures_24 rfl ?_
    refine zx_goto (pc := 27) (tgt := 4) dX2_figures_27 (by decide) ?_
    have hs := ih (i + 1) (by omega)
    rw [zFg, ← nI_1] at hs
    exact hs
set_option maxHeartbeats 4000000 in
theorem k_fig {d : Nat} {H F : Nat} {tx : (Nat → Int32) × Int32} {gs : (Nat → Int32)} {gk : (Nat → Int32)} {gf : (Nat → Int32)} {ga : (Nat → Int32)} {gc : Int32} {nw : (Nat → Int32) × (Nat → Int32) × Int32 × Int32 × Int32 × Int32 × Int32 × Int32 × Int32} {tr : (Nat → Int32) × (Nat → Int32) × Int32 × Int32 × Int32 × Int32 × Int32 × Int32 × Int32} {wk : (Nat → Int32) × Int32 × Int32 × Int32} {pt : (Nat → Int32)} {b1 : Int32} {b2 : Int32} {b3 : Int32} {b4 : Int32} {b5 : Int32} {ac : (Nat → zStt) × Int32 × Int32} {sl : (Nat → zStt) × (Nat → Int32)} {si : (Nat → Int32) × (Nat → Int32) × (Nat → Int32) × Int32} {sd : Int64} {tau : List zCel} (hH : H ≤ 5) : zCf yX2_figures cX2_figures 4 (some .int) d [.ref 16, .ref 3] (encC tx (gs, gk, gf, ga, (nI H), (nI F), gc) nw tr wk (pt, b1, b2, b3, b4, b5) ac sl si sd ++ tau) (some (.int (zFg pt H))) (encC tx (gs, gk, gf, ga, (nI H), (nI F), gc) nw tr wk (pt, b1, b2, b3, b4, b5) ac sl si sd ++ tau) := by
  refine zC.intro (by decide) (Nat.le_of_ble_eq_true rfl) rfl ?_
  refine zx_iconst (pc := 0) (v := 0) dX2_figures_0 (by decide) ?_
  refine st_2_4 (pc := 1) dX2_figures_1 rfl ?_
  refine zx_iconst (pc := 2) (v := 0) dX2_figures_2 (by decide) ?_
  refine st_3_4 (pc := 3) dX2_figures_3 rfl ?_
  exact lp_fig hH H 0 (by omega)
set_option maxHeartbeats 4000000 in
theorem lp_step {d n0 H F : Nat} {fp : Nat → Int32} {tx : (Nat → Int32) × Int32} {gs : (Nat → Int32)} {gk : (Nat → Int32)} {gf : (Nat → Int32)} {ga : (Nat → Int32)} {gc : Int32} {nw : (Nat → Int32) × (Nat → Int32) × Int32 × Int32 × Int32 × Int32 × Int32 × Int32 × Int32} {tr : (Nat → Int32) × (Nat → Int32) × Int32 × Int32 × Int32 × Int32 × Int32 × Int32 × Int32} {wk : (Nat → Int32) × Int32 × Int32 × Int32} {b1 : Int32} {b2 : Int32} {b3 : Int32} {b4 : Int32} {b5 : Int32} {ac : (Nat → zStt) × Int32 × Int32} {sl : (Nat → zStt) × (Nat → Int32)} {si : (Nat → Int32) × (Nat → Int32) × (Nat → Int32) × Int32} {sd : Int64} {tau : List zCel} : ∀ (k : Nat) (pt : Nat → Int32), k ≤ 5 → fp = zSt (nI F) k pt → zX RX2 cX2_stepToNext 3 none "stepToNext" none (d + 2) n0 0 0 0 0 (fun r s => r = none ∧ s = encC tx (gs, gk, gf, ga, (nI H), (nI F), gc) nw tr wk (fp, b1, b2, b3, b4, b5) ac sl si sd ++ tau) 7 [some (.ref 16), some (.ref 3), some (.int (nI k - 1))] [] (encC tx (gs, gk, gf, ga, (nI H), (nI F), gc) nw tr wk (pt, b1, b2, b3, b4, b5) ac sl si sd ++ tau) := by
  intro k
  induction k with
  | zero =>
    intro pt hk hv
    refine zx_iload_n (pc := 7) dX2_stepToNext_7 rfl rfl ?_
    refine zx_if_lt (pc := 8) (tgt := 48) dX2_stepToNext_8 (by decide) (fun h8 => ?_) (fun h8 => by first | exact absurd h8 (show nI 0 - 1 < 0 by decide) | exact absurd (show nI 0 - 1 < 0 by decide) h8)
    exact zx_fv (pc := 48) dX2_stepToNext_48 rfl (Nat.le_refl _) (Nat.le_refl _) (by rw [hv]; rfl)
  | succ k ih =>
    intro pt hk hv
    rw [nI_pred]
    refine zx_iload_n (pc := 7) dX2_stepToNext_7 rfl rfl ?_
    refine zx_if_lt (pc := 8) (tgt := 48) dX2_stepToNext_8 (by decide) (fun h8 => by first | exact absurd h8 (nI_pos (show k < 2 ^ 31 by omega)) | exact absurd (nI_pos (show k < 2 ^ 31 by omega)) h8) (fun h8 => ?_)
    refine zx_aload_n (pc := 11) dX2_stepToNext_11 rfl rfl ?_
    refine g16_0 (pc := 12) fl_X2_9 dX2_stepToNext_12 ?_
    refine zx_iload_n (pc := 15) dX2_stepToNext_15 rfl rfl ?_
    refine zx_dup2 (pc := 16) dX2_stepToNext_16 rfl rfl ?_
    refine a17 (pc := 17) (zix_n (by omega)) dX2_stepToNext_17 ?_
    refine zx_iconst (pc := 18) (v := 1) dX2_stepToNext_18 (by decide) ?_
    refine zx_iadd (pc := 19) dX2_stepToNext_19 ?_
    refine s17 (pc := 20) (zix_n (by omega)) dX2_stepToNext_20 ?_
    refine zx_aload_n (pc := 21) dX2_stepToNext_21 rfl rfl ?_
    refine zx_aload_n (pc := 22) dX2_stepToNext_22 rfl rfl ?_
    refine g16_0 (pc := 23) fl_X2_9 dX2_stepToNext_23 ?_
    refine zx_iload_n (pc := 26) dX2_stepToNext_26 rfl rfl ?_
    refine a17 (pc := 27) (zix_n (by omega)) dX2_stepToNext_27 ?_
    rw [pk_us]
    refine zx_fV1 (pc := 28) (k_hasTask (d := d) ) cl_X2_21 p3 rfl dX2_stepToNext_28 rfl rfl (by omega) (Nat.le_of_ble_eq_true rfl) (Nat.le_refl _) (Nat.le_refl _) ?_
    refine zx_if_eq (pc := 31) (tgt := 35) dX2_stepToNext_31 (by decide) (fun h31 => ?_) (fun h31 => ?_)
    · refine zx_aload_n (pc := 35) dX2_stepToNext_35 rfl rfl ?_
      refine g16_0 (pc := 36) fl_X2_9 dX2_stepToNext_36 ?_
      refine zx_iload_n (pc := 39) dX2_stepToNext_39 rfl rfl ?_
      refine zx_iconst (pc := 40) (v := 0) dX2_stepToNext_40 (by decide) ?_
      refine s17 (pc := 41) (zix_n (by omega)) dX2_stepToNext_41 ?_
      refine ic_2_3_m1 (pc := 42) dX2_stepToNext_42 rfl ?_
      refine zx_goto (pc := 45) (tgt := 7) dX2_stepToNext_45 (by decide) ?_
      exact ih _ (by omega) (by rw [hv, zSt, if_pos h31])
    · exact zx_fv (pc := 34) dX2_stepToNext_34 rfl (Nat.le_refl _) (Nat.le_refl _) (by rw [hv, zSt, if_neg h31])
set_option maxHeartbeats 4000000 in
theorem k_step {d : Nat} {H F : Nat} {tx : (Nat → Int32) × Int32} {gs : (Nat → Int32)} {gk : (Nat → Int32)} {gf : (Nat → Int32)} {ga : (Nat → Int32)} {gc : Int32} {nw : (Nat → Int32) × (Nat → Int32) × Int32 × Int32 × Int32 × Int32 × Int32 × Int32 × Int32} {tr : (Nat → Int32) × (Nat → Int32) × Int32 × Int32 × Int32 × Int32 × Int32 × Int32 × Int32} {wk : (Nat → Int32) × Int32 × Int32 × Int32} {pt : (Nat → Int32)} {b1 : Int32} {b2 : Int32} {b3 : Int32} {b4 : Int32} {b5 : Int32} {ac : (Nat → zStt) × Int32 × Int32} {sl : (Nat → zStt) × (Nat → Int32)} {si : (Nat → Int32) × (Nat → Int32) × (Nat → Int32) × Int32} {sd : Int64} {tau : List zCel} (hH : H ≤ 5) : zCf yX2_stepToNext cX2_stepToNext 3 none (d + 2) [.ref 16, .ref 3] (encC tx (gs, gk, gf, ga, (nI H), (nI F), gc) nw tr wk (pt, b1, b2, b3, b4, b5) ac sl si sd ++ tau) none (encC tx (gs, gk, gf, ga, (nI H), (nI F), gc) nw tr wk ((zSt (nI F) H pt), b1, b2, b3, b4, b5) ac sl si sd ++ tau) := by
  refine zC.intro (by decide) (Nat.le_of_ble_eq_true rfl) rfl ?_
  refine zx_aload_n (pc := 0) dX2_stepToNext_0 rfl rfl ?_
  refine g3_4 (pc := 1) fl_X2_15 dX2_stepToNext_1 ?_
  refine zx_iconst (pc := 4) (v := 1) dX2_stepToNext_4 (by decide) ?_
  refine zx_isub (pc := 5) dX2_stepToNext_5 ?_
  refine st_2_3 (pc := 6) dX2_stepToNext_6 rfl ?_
  exact lp_step H pt hH rfl
set_option maxHeartbeats 4000000 in
theorem lp_figs {d n0 H F : Nat} {v p0 : Int32} {fp : Nat → Int32} {tx : (Nat → Int32) × Int32} {gs : (Nat → Int32)} {gk : (Nat → Int32)} {gf : (Nat → Int32)} {ga : (Nat → Int32)} {gc : Int32} {nw : (Nat → Int32) × (Nat → Int32) × Int32 × Int32 × Int32 × Int32 × Int32 × Int32 × Int32} {tr : (Nat → Int32) × (Nat → Int32) × Int32 × Int32 × Int32 × Int32 × Int32 × Int32 × Int32} {wk : (Nat → Int32) × Int32 × Int32 × Int32} {b1 : Int32} {b2 : Int32} {b3 : Int32} {b4 : Int32} {b5 : Int32} {ac : (Nat → zStt) × Int32 × Int32} {sl : (Nat → zStt) × (Nat → Int32)} {si : (Nat → Int32) × (Nat → Int32) × (Nat → Int32) × Int32} {sd : Int64} {tau : List zCel} : ∀ (k : Nat) (pt : Nat → Int32) (R : Nat), k ≤ 5 → R < 2 ^ 31 → fp = (zRf (nI F) k pt R).1 → v = (zRf (nI F) k pt R).2 → zX RX2 cX2_readFigures 5 (some .boolean) "readFigures" none (d + 2) n0 0 0 0 0 (fun r s => r = some (.int v) ∧ s = encC tx (gs, gk, gf, ga, (nI H), (nI F), gc) nw tr wk (fp, b1, b2, b3, b4, b5) ac sl si sd ++ tau) 16 [some (.ref 16), some (.ref 3), some (.int p0), some (.int (nI R)), some (.int (nI k - 1))] [] (encC tx (gs, gk, gf, ga, (nI H), (nI F), gc) nw tr wk (pt, b1, b2, b3, b4, b5) ac sl si sd ++ tau) := by
  intro k
  induction k with
  | zero =>
    intro pt R hk hR hv hw
    refine zx_iload (pc := 16) dX2_readFigures_16 rfl ?_
    refine zx_if_lt (pc := 18) (tgt := 59) dX2_readFigures_18 (by decide) (fun h18 => ?_) (fun h18 => by first | exact absurd h18 (show nI 0 - 1 < 0 by decide) | exact absurd (show nI 0 - 1 < 0 by decide) h18)
    refine zx_iload_n (pc := 59) dX2_readFigures_59 rfl rfl ?_
    refine zx_if_ne (pc := 60) (tgt := 67) dX2_readFigures_60 (by decide) (fun h60 => ?_) (fun h60 => ?_)
    · refine zx_iconst (pc := 67) (v := 0) dX2_readFigures_67 (by decide) ?_
      exact zx_fi (pc := 68) dX2_readFigures_68 rfl (by decide) (Nat.le_refl _) (Nat.le_refl _) (by rw [hw, zRf]; first | rw [if_pos ((nI_eq hR (by decide)).mp (h60 : nI R = nI 0))] | rw [if_neg (fun e => h60 (by rw [e]; rfl))]) (by rw [hv]; rfl)
    · refine zx_iconst (pc := 63) (v := 1) dX2_readFigures_63 (by decide) ?_
      refine zx_goto (pc := 64) (tgt := 68) dX2_readFigures_64 (by decide) ?_
      exact zx_fi (pc := 68) dX2_readFigures_68 rfl (by decide) (Nat.le_refl _) (Nat.le_refl _) (by rw [hw, zRf]; first | rw [if_pos ((nI_eq hR (by decide)).mp (h60 : nI R = nI 0))] | rw [if_neg (fun e => h60 (by rw [e]; rfl))]) (by rw [hv]; rfl)
  | succ k ih =>
    intro pt R hk hR hv hw
    rw [nI_pred]
    refine zx_iload (pc := 16) dX2_readFigures_16 rfl ?_
    refine zx_if_lt (pc := 18) (tgt := 59) dX2_readFigures_18 (by decide) (fun h18 => by first | exact absurd h18 (nI_pos (show k < 2 ^ 31 by omega)) | exact absurd (nI_pos (show k < 2 ^ 31 by omega)) h18) (fun h18 => ?_)
    refine zx_aload_n (pc := 21) dX2_readFigures_21 rfl rfl ?_
    refine g16_0 (pc := 22) fl_X2_9 dX2_readFigures_22 ?_
    refine zx_iload (pc := 25) dX2_readFigures_25 rfl ?_
    refine zx_iload_n (pc := 27) dX2_readFigures_27 rfl rfl ?_
    refine zx_bipush (pc := 28) (v := 10) dX2_readFigures_28 (by decide) ?_
    refine zx_irem (pc := 30) dX2_readFigures_30 (by decide) ?_
    rw [zrem (D := 10) (d := 10) (a := R) rfl hR (by decide) (by decide)]
    refine s17 (pc := 31) (zix_n (by omega)) dX2_readFigures_31 ?_
    refine zx_aload_n (pc := 32) dX2_readFigures_32 rfl rfl ?_
    refine zx_aload_n (pc := 33) dX2_readFigures_33 rfl rfl ?_
    refine g16_0 (pc := 34) fl_X2_9 dX2_readFigures_34 ?_
    refine zx_iload (pc := 37) dX2_readFigures_37 rfl ?_
    refine a17 (pc := 39) (zix_n (by omega)) dX2_readFigures_39 ?_
    rw [pk_us]
    refine zx_fV1 (pc := 40) (k_hasTask (d := d) ) cl_X2_21 p3 rfl dX2_readFigures_40 rfl rfl (by omega) (Nat.le_of_ble_eq_true rfl) (Nat.le_refl _) (Nat.le_refl _) ?_
    refine zx_if_ne (pc := 43) (tgt := 48) dX2_readFigures_43 (by decide) (fun h43 => ?_) (fun h43 => ?_)
    · refine zx_iload_n (pc := 48) dX2_readFigures_48 rfl rfl ?_
      refine zx_bipush (pc := 49) (v := 10) dX2_readFigures_49 (by decide) ?_
      refine zx_idiv (pc := 51) dX2_readFigures_51 (by decide) ?_
      rw [show nI R / 10 = nI (R / 10) from pk_div hR (by decide) (by decide)]
      refine st_3_5 (pc := 52) dX2_readFigures_52 rfl ?_
      refine ic_4_5_m1 (pc := 53) dX2_readFigures_53 rfl ?_
      refine zx_goto (pc := 56) (tgt := 16) dX2_readFigures_56 (by decide) ?_
      exact ih _ _ (by omega) (by omega) (by rw [hv, zRf, if_neg h43]) (by rw [hw, zRf, if_neg h43])
    · refine zx_iconst (pc := 46) (v := 0) dX2_readFigures_46 (by decide) ?_
      exact zx_fi (pc := 47) dX2_readFigures_47 rfl (by decide) (Nat.le_refl _) (Nat.le_refl _) (by rw [hw, zRf, if_pos h43]) (by rw [hv, zRf, if_pos h43])
set_option maxHeartbeats 4000000 in
theorem k_figs {d : Nat} {H F R : Nat} {tx : (Nat → Int32) × Int32} {gs : (Nat → Int32)} {gk : (Nat → Int32)} {gf : (Nat → Int32)} {ga : (Nat → Int32)} {gc : Int32} {nw : (Nat → Int32) × (Nat → Int32) × Int32 × Int32 × Int32 × Int32 × Int32 × Int32 × Int32} {tr : (Nat → Int32) × (Nat → Int32) × Int32 × Int32 × Int32 × Int32 × Int32 × Int32 × Int32} {wk : (Nat → Int32) × Int32 × Int32 × Int32} {pt : (Nat → Int32)} {b1 : Int32} {b2 : Int32} {b3 : Int32} {b4 : Int32} {b5 : Int32} {ac : (Nat → zStt) × Int32 × Int32} {sl : (Nat → zStt) × (Nat → Int32)} {si : (Nat → Int32) × (Nat → Int32) × (Nat → Int32) × Int32} {sd : Int64} {tau : List zCel} (hH : H ≤ 5) (hR : R < 2 ^ 31) : zCf yX2_readFigures cX2_readFigures 5 (some .boolean) (d + 2) [.ref 16, .ref 3, .int (nI R)] (encC tx (gs, gk, gf, ga, (nI H), (nI F), gc) nw tr wk (pt, b1, b2, b3, b4, b5) ac sl si sd ++ tau) (some (.int ((zRf (nI F) H pt R).2))) (encC tx (gs, gk, gf, ga, (nI H), (nI F), gc) nw tr wk ((zRf (nI F) H pt R).1, b1, b2, b3, b4, b5) ac sl si sd ++ tau) := by
  refine zC.intro (by decide) (Nat.le_of_ble_eq_true rfl) rfl ?_
  refine zx_iload_n (pc := 0) dX2_readFigures_0 rfl rfl ?_
  refine zx_if_ge (pc := 1) (tgt := 6) dX2_readFigures_1 (by decide) (fun h1 => ?_) (fun h1 => by first | exact absurd h1 (show 0 ≤ nI R from nI_pos' hR) | exact absurd (show 0 ≤ nI R from nI_pos' hR) h1)
  refine zx_iload_n (pc := 6) dX2_readFigures_6 rfl rfl ?_
  refine st_3_5 (pc := 7) dX2_readFigures_7 rfl ?_
  refine zx_aload_n (pc := 8) dX2_readFigures_8 rfl rfl ?_
  refine g3_4 (pc := 9) fl_X2_15 dX2_readFigures_9 ?_
  refine zx_iconst (pc := 12) (v := 1) dX2_readFigures_12 (by decide) ?_
  refine zx_isub (pc := 13) dX2_readFigures_13 ?_
  refine st_4_5 (pc := 14) dX2_readFigures_14 rfl ?_
  exact lp_figs H pt R hH hR rfl rfl
set_option maxHeartbeats 4000000 in
theorem k_figs_n {d : Nat} {H F : Nat} {x : Int32} {tx : (Nat → Int32) × Int32} {gs : (Nat → Int32)} {gk : (Nat → Int32)} {gf : (Nat → Int32)} {ga : (Nat → Int32)} {gc : Int32} {nw : (Nat → Int32) × (Nat → Int32) × Int32 × Int32 × Int32 × Int32 × Int32 × Int32 × Int32} {tr : (Nat → Int32) × (Nat → Int32) × Int32 × Int32 × Int32 × Int32 × Int32 × Int32 × Int32} {wk : (Nat → Int32) × Int32 × Int32 × Int32} {pt : (Nat → Int32)} {b1 : Int32} {b2 : Int32} {b3 : Int32} {b4 : Int32} {b5 : Int32} {ac : (Nat → zStt) × Int32 × Int32} {sl : (Nat → zStt) × (Nat → Int32)} {si : (Nat → Int32) × (Nat → Int32) × (Nat → Int32) × Int32} {sd : Int64} {tau : List zCel} (hx : x < 0) : zCf yX2_readFigures cX2_readFigures 5 (some .boolean) (d + 2) [.ref 16, .ref 3, .int x] (encC tx (gs, gk, gf, ga, (nI H), (nI F), gc) nw tr wk (pt, b1, b2, b3, b4, b5) ac sl si sd ++ tau) (some (.int (0))) (encC tx (gs, gk, gf, ga, (nI H), (nI F), gc) nw tr wk (pt, b1, b2, b3, b4, b5) ac sl si sd ++ tau) := by
  refine zC.intro (by decide) (Nat.le_of_ble_eq_true rfl) rfl ?_
  refine zx_iload_n (pc := 0) dX2_readFigures_0 rfl rfl ?_
  refine zx_if_ge (pc := 1) (tgt := 6) dX2_readFigures_1 (by decide) (fun h1 => by first | exact absurd h1 (Int32.not_le.mpr hx) | exact absurd (Int32.not_le.mpr hx) h1) (fun h1 => ?_)
  refine zx_iconst (pc := 4) (v := 0) dX2_readFigures_4 (by decide) ?_
  exact zx_fi (pc := 5) dX2_readFigures_5 rfl (by decide) (Nat.le_refl _) (Nat.le_refl _) rfl rfl
set_option maxHeartbeats 4000000 in
theorem k_weigh {d : Nat} {H F : Nat} {tx : (Nat → Int32) × Int32} {gs : (Nat → Int32)} {gk : (Nat → Int32)} {gf : (Nat → Int32)} {ga : (Nat → Int32)} {gc : Int32} {nw : (Nat → Int32) × (Nat → Int32) × Int32 × Int32 × Int32 × Int32 × Int32 × Int32 × Int32} {tr : (Nat → Int32) × (Nat → Int32) × Int32 × Int32 × Int32 × Int32 × Int32 × Int32 × Int32} {ws : (Nat → Int32)} {w1 : Int32} {w2 : Int32} {w3 : Int32} {pt : (Nat → Int32)} {b1 : Int32} {b2 : Int32} {b3 : Int32} {b4 : Int32} {b5 : Int32} {ac : (Nat → zStt) × Int32 × Int32} {sl : (Nat → zStt) × (Nat → Int32)} {si : (Nat → Int32) × (Nat → Int32) × (Nat → Int32) × Int32} {sd : Int64} {tau : List zCel} (hH : H ≤ 5) : zCf yX2_weigh cX2_weigh 4 none (d + 1) [.ref 16, .ref 3, .ref 14] (encC tx (gs, gk, gf, ga, (nI H), (nI F), gc) nw tr (ws, w1, w2, w3) (pt, b1, b2, b3, b4, b5) ac sl si sd ++ tau) none (encC tx (gs, gk, gf, ga, (nI H), (nI F), gc) nw tr (ws, w1, w2, w3) (pt, zWg gc w2 w3 (nI (zBu pt H)) (zFg pt H) (b1, b2, b3, b4, b5)) ac sl si sd ++ tau) := by
  refine zC.intro (by decide) (Nat.le_of_ble_eq_true rfl) rfl ?_
  refine zx_aload_n (pc := 0) dX2_weigh_0 rfl rfl ?_
  refine g14_3 (pc := 1) fl_X2_67 dX2_weigh_1 ?_
  refine zx_aload_n (pc := 4) dX2_weigh_4 rfl rfl ?_
  refine g14_2 (pc := 5) fl_X2_70 dX2_weigh_5 ?_
  refine zx_icmp_ne (pc := 8) (tgt := 26) dX2_weigh_8 (by decide) (fun h8 => ?_) (fun h8 => ?_)
  · refine zx_aload_n (pc := 26) dX2_weigh_26 rfl rfl ?_
    refine g14_2 (pc := 27) fl_X2_70 dX2_weigh_27 ?_
    refine zx_aload_n (pc := 30) dX2_weigh_30 rfl rfl ?_
    refine g3_6 (pc := 31) fl_X2_78 dX2_weigh_31 ?_
    refine zx_icmp_ge (pc := 34) (tgt := 38) dX2_weigh_34 (by decide) (fun h34 => ?_) (fun h34 => ?_)
    · refine zx_aload_n (pc := 38) dX2_weigh_38 rfl rfl ?_
      refine zx_aload_n (pc := 39) dX2_weigh_39 rfl rfl ?_
      refine zx_fV1 (pc := 40) (k_busy (d := d) hH) cl_X2_81 p16 rfl dX2_weigh_40 rfl rfl (by omega) (Nat.le_of_ble_eq_true rfl) (Nat.le_refl _) (Nat.le_refl _) ?_
      refine st_3_4 (pc := 43) dX2_weigh_43 rfl ?_
      refine zx_aload_n (pc := 44) dX2_weigh_44 rfl rfl ?_
      refine g16_4 (pc := 45) fl_X2_34 dX2_weigh_45 ?_
      refine zx_bipush (pc := 48) (v := -9) dX2_weigh_48 (by decide) ?_
      refine zx_icmp_eq (pc := 50) (tgt := 61) dX2_weigh_50 (by decide) (fun h50 => ?_) (fun h50 => ?_)
      · refine zx_aload_n (pc := 61) dX2_weigh_61 rfl rfl ?_
        refine zx_iload_n (pc := 62) dX2_weigh_62 rfl rfl ?_
        refine u16_4 (pc := 63) fl_X2_34 dX2_weigh_63 ?_
        refine zx_aload_n (pc := 66) dX2_weigh_66 rfl rfl ?_
        refine g14_3 (pc := 67) fl_X2_67 dX2_weigh_67 ?_
        refine zx_aload_n (pc := 70) dX2_weigh_70 rfl rfl ?_
        refine g16_2 (pc := 71) fl_X2_28 dX2_weigh_71 ?_
        refine zx_icmp_gt (pc := 74) (tgt := 96) dX2_weigh_74 (by decide) (fun h74 => ?_) (fun h74 => ?_)
        · refine zx_aload_n (pc := 96) dX2_weigh_96 rfl rfl ?_
          refine zx_aload_n (pc := 97) dX2_weigh_97 rfl rfl ?_
          refine g14_3 (pc := 98) fl_X2_67 dX2_weigh_98 ?_
          refine u16_2 (pc := 101) fl_X2_28 dX2_weigh_101 ?_
          refine zx_aload_n (pc := 104) dX2_weigh_104 rfl rfl ?_
          refine zx_iload_n (pc := 105) dX2_weigh_105 rfl rfl ?_
          refine u16_3 (pc := 106) fl_X2_31 dX2_weigh_106 ?_
          refine zx_aload_n (pc := 109) dX2_weigh_109 rfl rfl ?_
          refine zx_aload_n (pc := 110) dX2_weigh_110 rfl rfl ?_
          refine zx_aload_n (pc := 111) dX2_weigh_111 rfl rfl ?_
          refine zx_fV1 (pc := 112) (k_fig (d := d) hH) cl_X2_85 p16 rfl dX2_weigh_112 rfl rfl (by omega) (Nat.le_of_ble_eq_true rfl) (Nat.le_refl _) (Nat.le_refl _) ?_
          refine u16_1 (pc := 115) fl_X2_25 dX2_weigh_115 ?_
          exact zx_fv (pc := 118) dX2_weigh_118 rfl (Nat.le_refl _) (Nat.le_refl _) (by first | (simp [zWg, zTk, zMx, h8, h34, h50, h74]; done) | (simp only [zWg, zTk, zMx]; (repeat' split) <;> first | rfl | contradiction))
        · refine zx_aload_n (pc := 77) dX2_weigh_77 rfl rfl ?_
          refine g14_3 (pc := 78) fl_X2_67 dX2_weigh_78 ?_
          refine zx_aload_n (pc := 81) dX2_weigh_81 rfl rfl ?_
          refine g16_2 (pc := 82) fl_X2_28 dX2_weigh_82 ?_
          refine zx_icmp_ne (pc := 85) (tgt := 118) dX2_weigh_85 (by decide) (fun h85 => ?_) (fun h85 => ?_)
          · exact zx_fv (pc := 118) dX2_weigh_118 rfl (Nat.le_refl _) (Nat.le_refl _) (by first | (simp [zWg, zTk, zMx, h8, h34, h50, h74, h85]; done) | (simp only [zWg, zTk, zMx]; (repeat' split) <;> first | rfl | contradiction))
          · refine zx_iload_n (pc := 88) dX2_weigh_88 rfl rfl ?_
            refine zx_aload_n (pc := 89) dX2_weigh_89 rfl rfl ?_
            refine g16_3 (pc := 90) fl_X2_31 dX2_weigh_90 ?_
            refine zx_icmp_ge (pc := 93) (tgt := 118) dX2_weigh_93 (by decide) (fun h93 => ?_) (fun h93 => ?_)
            · exact zx_fv (pc := 118) dX2_weigh_118 rfl (Nat.le_refl _) (Nat.le_refl _) (by first | (simp [zWg, zTk, zMx, h8, h34, h50, h74, h85, h93]; done) | (simp only [zWg, zTk, zMx]; (repeat' split) <;> first | rfl | contradiction))
            · refine zx_aload_n (pc := 96) dX2_weigh_96 rfl rfl ?_
              refine zx_aload_n (pc := 97) dX2_weigh_97 rfl rfl ?_
              refine g14_3 (pc := 98) fl_X2_67 dX2_weigh_98 ?_
              refine u16_2 (pc := 101) fl_X2_28 dX2_weigh_101 ?_
              refine zx_aload_n (pc := 104) dX2_weigh_104 rfl rfl ?_
              refine zx_iload_n (pc := 105) dX2_weigh_105 rfl rfl ?_
              refine u16_3 (pc := 106) fl_X2_31 dX2_weigh_106 ?_
              refine zx_aload_n (pc := 109) dX2_weigh_109 rfl rfl ?_
              refine zx_aload_n (pc := 110) dX2_weigh_110 rfl rfl ?_
              refine zx_aload_n (pc := 111) dX2_weigh_111 rfl rfl ?_
              refine zx_fV1 (pc := 112) (k_fig (d := d) hH) cl_X2_85 p16 rfl dX2_weigh_112 rfl rfl (by omega) (Nat.le_of_ble_eq_true rfl) (Nat.le_refl _) (Nat.le_refl _) ?_
              refine u16_1 (pc := 115) fl_X2_25 dX2_weigh_115 ?_
              exact zx_fv (pc := 118) dX2_weigh_118 rfl (Nat.le_refl _) (Nat.le_refl _) (by first | (simp [zWg, zTk, zMx, h8, h34, h50, h74, h85, h93]; done) | (simp only [zWg, zTk, zMx]; (repeat' split) <;> first | rfl | contradiction))
      · refine zx_iload_n (pc := 53) dX2_weigh_53 rfl rfl ?_
        refine zx_aload_n (pc := 54) dX2_weigh_54 rfl rfl ?_
        refine g16_4 (pc := 55) fl_X2_34 dX2_weigh_55 ?_
        refine zx_icmp_ge (pc := 58) (tgt := 66) dX2_weigh_58 (by decide) (fun h58 => ?_) (fun h58 => ?_)
        · refine zx_aload_n (pc := 66) dX2_weigh_66 rfl rfl ?_
          refine g14_3 (pc := 67) fl_X2_67 dX2_weigh_67 ?_
          refine zx_aload_n (pc := 70) dX2_weigh_70 rfl rfl ?_
          refine g16_2 (pc := 71) fl_X2_28 dX2_weigh_71 ?_
          refine zx_icmp_gt (pc := 74) (tgt := 96) dX2_weigh_74 (by decide) (fun h74 => ?_) (fun h74 => ?_)
          · refine zx_aload_n (pc := 96) dX2_weigh_96 rfl rfl ?_
            refine zx_aload_n (pc := 97) dX2_weigh_97 rfl rfl ?_
            refine g14_3 (pc := 98) fl_X2_67 dX2_weigh_98 ?_
            refine u16_2 (pc := 101) fl_X2_28 dX2_weigh_101 ?_
            refine zx_aload_n (pc := 104) dX2_weigh_104 rfl rfl ?_
            refine zx_iload_n (pc := 105) dX2_weigh_105 rfl rfl ?_
            refine u16_3 (pc := 106) fl_X2_31 dX2_weigh_106 ?_
            refine zx_aload_n (pc := 109) dX2_weigh_109 rfl rfl ?_
            refine zx_aload_n (pc := 110) dX2_weigh_110 rfl rfl ?_
            refine zx_aload_n (pc := 111) dX2_weigh_111 rfl rfl ?_
            refine zx_fV1 (pc := 112) (k_fig (d := d) hH) cl_X2_85 p16 rfl dX2_weigh_112 rfl rfl (by omega) (Nat.le_of_ble_eq_true rfl) (Nat.le_refl _) (Nat.le_refl _) ?_
            refine u16_1 (pc := 115) fl_X2_25 dX2_weigh_115 ?_
            exact zx_fv (pc := 118) dX2_weigh_118 rfl (Nat.le_refl _) (Nat.le_refl _) (by first | (simp [zWg, zTk, zMx, h8, h34, h50, h58, h74]; done) | (simp only [zWg, zTk, zMx]; (repeat' split) <;> first | rfl | contradiction))
          · refine zx_aload_n (pc := 77) dX2_weigh_77 rfl rfl ?_
            refine g14_3 (pc := 78) fl_X2_67 dX2_weigh_78 ?_
            refine zx_aload_n (pc := 81) dX2_weigh_81 rfl rfl ?_
            refine g16_2 (pc := 82) fl_X2_28 dX2_weigh_82 ?_
            refine zx_icmp_ne (pc := 85) (tgt := 118) dX2_weigh_85 (by decide) (fun h85 => ?_) (fun h85 => ?_)
            · exact zx_fv (pc := 118) dX2_weigh_118 rfl (Nat.le_refl _) (Nat.le_refl _) (by first | (simp [zWg, zTk, zMx, h8, h34, h50, h58, h74, h85]; done) | (simp only [zWg, zTk, zMx]; (repeat' split) <;> first | rfl | contradiction))
            · refine zx_iload_n (pc := 88) dX2_weigh_88 rfl rfl ?_
              refine zx_aload_n (pc := 89) dX2_weigh_89 rfl rfl ?_
              refine g16_3 (pc := 90) fl_X2_31 dX2_weigh_90 ?_
              refine zx_icmp_ge (pc := 93) (tgt := 118) dX2_weigh_93 (by decide) (fun h93 => ?_) (fun h93 => ?_)
              · exact zx_fv (pc := 118) dX2_weigh_118 rfl (Nat.le_refl _) (Nat.le_refl _) (by first | (simp [zWg, zTk, zMx, h8, h34, h50, h58, h74, h85, h93]; done) | (simp only [zWg, zTk, zMx]; (repeat' split) <;> first | rfl | contradiction))
              · refine zx_aload_n (pc := 96) dX2_weigh_96 rfl rfl ?_
                refine zx_aload_n (pc := 97) dX2_weigh_97 rfl rfl ?_
                refine g14_3 (pc := 98) fl_X2_67 dX2_weigh_98 ?_
                refine u16_2 (pc := 101) fl_X2_28 dX2_weigh_101 ?_
                refine zx_aload_n (pc := 104) dX2_weigh_104 rfl rfl ?_
                refine zx_iload_n (pc := 105) dX2_weigh_105 rfl rfl ?_
                refine u16_3 (pc := 106) fl_X2_31 dX2_weigh_106 ?_
                refine zx_aload_n (pc := 109) dX2_weigh_109 rfl rfl ?_
                refine zx_aload_n (pc := 110) dX2_weigh_110 rfl rfl ?_
                refine zx_aload_n (pc := 111) dX2_weigh_111 rfl rfl ?_
                refine zx_fV1 (pc := 112) (k_fig (d := d) hH) cl_X2_85 p16 rfl dX2_weigh_112 rfl rfl (by omega) (Nat.le_of_ble_eq_true rfl) (Nat.le_refl _) (Nat.le_refl _) ?_
                refine u16_1 (pc := 115) fl_X2_25 dX2_weigh_115 ?_
                exact zx_fv (pc := 118) dX2_weigh_118 rfl (Nat.le_refl _) (Nat.le_refl _) (by first | (simp [zWg, zTk, zMx, h8, h34, h50, h58, h74, h85, h93]; done) | (simp only [zWg, zTk, zMx]; (repeat' split) <;> first | rfl | contradiction))
        · refine zx_aload_n (pc := 61) dX2_weigh_61 rfl rfl ?_
          refine zx_iload_n (pc := 62) dX2_weigh_62 rfl rfl ?_
          refine u16_4 (pc := 63) fl_X2_34 dX2_weigh_63 ?_
          refine zx_aload_n (pc := 66) dX2_weigh_66 rfl rfl ?_
          refine g14_3 (pc := 67) fl_X2_67 dX2_weigh_67 ?_
          refine zx_aload_n (pc := 70) dX2_weigh_70 rfl rfl ?_
          refine g16_2 (pc := 71) fl_X2_28 dX2_weigh_71 ?_
          refine zx_icmp_gt (pc := 74) (tgt := 96) dX2_weigh_74 (by decide) (fun h74 => ?_) (fun h74 => ?_)
          · refine zx_aload_n (pc := 96) dX2_weigh_96 rfl rfl ?_
            refine zx_aload_n (pc := 97) dX2_weigh_97 rfl rfl ?_
            refine g14_3 (pc := 98) fl_X2_67 dX2_weigh_98 ?_
            refine u16_2 (pc := 101) fl_X2_28 dX2_weigh_101 ?_
            refine zx_aload_n (pc := 104) dX2_weigh_104 rfl rfl ?_
            refine zx_iload_n (pc := 105) dX2_weigh_105 rfl rfl ?_
            refine u16_3 (pc := 106) fl_X2_31 dX2_weigh_106 ?_
            refine zx_aload_n (pc := 109) dX2_weigh_109 rfl rfl ?_
            refine zx_aload_n (pc := 110) dX2_weigh_110 rfl rfl ?_
            refine zx_aload_n (pc := 111) dX2_weigh_111 rfl rfl ?_
            refine zx_fV1 (pc := 112) (k_fig (d := d) hH) cl_X2_85 p16 rfl dX2_weigh_112 rfl rfl (by omega) (Nat.le_of_ble_eq_true rfl) (Nat.le_refl _) (Nat.le_refl _) ?_
            refine u16_1 (pc := 115) fl_X2_25 dX2_weigh_115 ?_
            exact zx_fv (pc := 118) dX2_weigh_118 rfl (Nat.le_refl _) (Nat.le_refl _) (by first | (simp [zWg, zTk, zMx, h8, h34, h50, h58, h74]; done) | (simp only [zWg, zTk, zMx]; (repeat' split) <;> first | rfl | contradiction))
          · refine zx_aload_n (pc := 77) dX2_weigh_77 rfl rfl ?_
            refine g14_3 (pc := 78) fl_X2_67 dX2_weigh_78 ?_
            refine zx_aload_n (pc := 81) dX2_weigh_81 rfl rfl ?_
            refine g16_2 (pc := 82) fl_X2_28 dX2_weigh_82 ?_
            refine zx_icmp_ne (pc := 85) (tgt := 118) dX2_weigh_85 (by decide) (fun h85 => ?_) (fun h85 => ?_)
            · exact zx_fv (pc := 118) dX2_weigh_118 rfl (Nat.le_refl _) (Nat.le_refl _) (by first | (simp [zWg, zTk, zMx, h8, h34, h50, h58, h74, h85]; done) | (simp only [zWg, zTk, zMx]; (repeat' split) <;> first | rfl | contradiction))
            · refine zx_iload_n (pc := 88) dX2_weigh_88 rfl rfl ?_
              refine zx_aload_n (pc := 89) dX2_weigh_89 rfl rfl ?_
              refine g16_3 (pc := 90) fl_X2_31 dX2_weigh_90 ?_
              refine zx_icmp_ge (pc := 93) (tgt := 118) dX2_weigh_93 (by decide) (fun h93 => ?_) (fun h93 => ?_)
              · exact zx_fv (pc := 118) dX2_weigh_118 rfl (Nat.le_refl _) (Nat.le_refl _) (by first | (simp [zWg, zTk, zMx, h8, h34, h50, h58, h74, h85, h93]; done) | (simp only [zWg, zTk, zMx]; (repeat' split) <;> first | rfl | contradiction))
              · refine zx_aload_n (pc := 96) dX2_weigh_96 rfl rfl ?_
                refine zx_aload_n (pc := 97) dX2_weigh_97 rfl rfl ?_
                refine g14_3 (pc := 98) fl_X2_67 dX2_weigh_98 ?_
                refine u16_2 (pc := 101) fl_X2_28 dX2_weigh_101 ?_
                refine zx_aload_n (pc := 104) dX2_weigh_104 rfl rfl ?_
                refine zx_iload_n (pc := 105) dX2_weigh_105 rfl rfl ?_
                refine u16_3 (pc := 106) fl_X2_31 dX2_weigh_106 ?_
                refine zx_aload_n (pc := 109) dX2_weigh_109 rfl rfl ?_
                refine zx_aload_n (pc := 110) dX2_weigh_110 rfl rfl ?_
                refine zx_aload_n (pc := 111) dX2_weigh_111 rfl rfl ?_
                refine zx_fV1 (pc := 112) (k_fig (d := d) hH) cl_X2_85 p16 rfl dX2_weigh_112 rfl rfl (by omega) (Nat.le_of_ble_eq_true rfl) (Nat.le_refl _) (Nat.le_refl _) ?_
                refine u16_1 (pc := 115) fl_X2_25 dX2_weigh_115 ?_
                exact zx_fv (pc := 118) dX2_weigh_118 rfl (Nat.le_refl _) (Nat.le_refl _) (by first | (simp [zWg, zTk, zMx, h8, h34, h50, h58, h74, h85, h93]; done) | (simp only [zWg, zTk, zMx]; (repeat' split) <;> first | rfl | contradiction))
    · exact zx_fv (pc := 37) dX2_weigh_37 rfl (Nat.le_refl _) (Nat.le_refl _) (by first | (simp [zWg, zTk, zMx, h8, h34]; done) | (simp only [zWg, zTk, zMx]; (repeat' split) <;> first | rfl | contradiction))
  · refine zx_aload_n (pc := 11) dX2_weigh_11 rfl rfl ?_
    refine zx_aload_n (pc := 12) dX2_weigh_12 rfl rfl ?_
    refine g16_5 (pc := 13) fl_X2_37 dX2_weigh_13 ?_
    refine zx_aload_n (pc := 16) dX2_weigh_16 rfl rfl ?_
    refine g14_2 (pc := 17) fl_X2_70 dX2_weigh_17 ?_
    refine zx_mmax (pc := 20) (Nat.le_of_ble_eq_true rfl) (by omega) (Nat.le_refl _) (Nat.le_refl _) ml_X2_73 dX2_weigh_20 ?_
    refine u16_5 (pc := 23) fl_X2_37 dX2_weigh_23 ?_
    refine zx_aload_n (pc := 26) dX2_weigh_26 rfl rfl ?_
    refine g14_2 (pc := 27) fl_X2_70 dX2_weigh_27 ?_
    refine zx_aload_n (pc := 30) dX2_weigh_30 rfl rfl ?_
    refine g3_6 (pc := 31) fl_X2_78 dX2_weigh_31 ?_
    refine zx_icmp_ge (pc := 34) (tgt := 38) dX2_weigh_34 (by decide) (fun h34 => ?_) (fun h34 => ?_)
    · refine zx_aload_n (pc := 38) dX2_weigh_38 rfl rfl ?_
      refine zx_aload_n (pc := 39) dX2_weigh_39 rfl rfl ?_
      refine zx_fV1 (pc := 40) (k_busy (d := d) hH) cl_X2_81 p16 rfl dX2_weigh_40 rfl rfl (by omega) (Nat.le_of_ble_eq_true rfl) (Nat.le_refl _) (Nat.le_refl _) ?_
      refine st_3_4 (pc := 43) dX2_weigh_43 rfl ?_
      refine zx_aload_n (pc := 44) dX2_weigh_44 rfl rfl ?_
      refine g16_4 (pc := 45) fl_X2_34 dX2_weigh_45 ?_
      refine zx_bipush (pc := 48) (v := -9) dX2_weigh_48 (by decide) ?_
      refine zx_icmp_eq (pc := 50) (tgt := 61) dX2_weigh_50 (by decide) (fun h50 => ?_) (fun h50 => ?_)
      · refine zx_aload_n (pc := 61) dX2_weigh_61 rfl rfl ?_
        refine zx_iload_n (pc := 62) dX2_weigh_62 rfl rfl ?_
        refine u16_4 (pc := 63) fl_X2_34 dX2_weigh_63 ?_
        refine zx_aload_n (pc := 66) dX2_weigh_66 rfl rfl ?_
        refine g14_3 (pc := 67) fl_X2_67 dX2_weigh_67 ?_
        refine zx_aload_n (pc := 70) dX2_weigh_70 rfl rfl ?_
        refine g16_2 (pc := 71) fl_X2_28 dX2_weigh_71 ?_
        refine zx_icmp_gt (pc := 74) (tgt := 96) dX2_weigh_74 (by decide) (fun h74 => ?_) (fun h74 => ?_)
        · refine zx_aload_n (pc := 96) dX2_weigh_96 rfl rfl ?_
          refine zx_aload_n (pc := 97) dX2_weigh_97 rfl rfl ?_
          refine g14_3 (pc := 98) fl_X2_67 dX2_weigh_98 ?_
          refine u16_2 (pc := 101) fl_X2_28 dX2_weigh_101 ?_
          refine zx_aload_n (pc := 104) dX2_weigh_104 rfl rfl ?_
          refine zx_iload_n (pc := 105) dX2_weigh_105 rfl rfl ?_
          refine u16_3 (pc := 106) fl_X2_31 dX2_weigh_106 ?_
          refine zx_aload_n (pc := 109) dX2_weigh_109 rfl rfl ?_
          refine zx_aload_n (pc := 110) dX2_weigh_110 rfl rfl ?_
          refine zx_aload_n (pc := 111) dX2_weigh_111 rfl rfl ?_
          refine zx_fV1 (pc := 112) (k_fig (d := d) hH) cl_X2_85 p16 rfl dX2_weigh_112 rfl rfl (by omega) (Nat.le_of_ble_eq_true rfl) (Nat.le_refl _) (Nat.le_refl _) ?_
          refine u16_1 (pc := 115) fl_X2_25 dX2_weigh_115 ?_
          exact zx_fv (pc := 118) dX2_weigh_118 rfl (Nat.le_refl _) (Nat.le_refl _) (by first | (simp [zWg, zTk, zMx, h8, h34, h50, h74]; done) | (simp only [zWg, zTk, zMx]; (repeat' split) <;> first | rfl | contradiction))
        · refine zx_aload_n (pc := 77) dX2_weigh_77 rfl rfl ?_
          refine g14_3 (pc := 78) fl_X2_67 dX2_weigh_78 ?_
          refine zx_aload_n (pc := 81) dX2_weigh_81 rfl rfl ?_
          refine g16_2 (pc := 82) fl_X2_28 dX2_weigh_82 ?_
          refine zx_icmp_ne (pc := 85) (tgt := 118) dX2_weigh_85 (by decide) (fun h85 => ?_) (fun h85 => ?_)
          · exact zx_fv (pc := 118) dX2_weigh_118 rfl (Nat.le_refl _) (Nat.le_refl _) (by first | (simp [zWg, zTk, zMx, h8, h34, h50, h74, h85]; done) | (simp only [zWg, zTk, zMx]; (repeat' split) <;> first | rfl | contradiction))
          · refine zx_iload_n (pc := 88) dX2_weigh_88 rfl rfl ?_
            refine zx_aload_n (pc := 89) dX2_weigh_89 rfl rfl ?_
            refine g16_3 (pc := 90) fl_X2_31 dX2_weigh_90 ?_
            refine zx_icmp_ge (pc := 93) (tgt := 118) dX2_weigh_93 (by decide) (fun h93 => ?_) (fun h93 => ?_)
            · exact zx_fv (pc := 118) dX2_weigh_118 rfl (Nat.le_refl _) (Nat.le_refl _) (by first | (simp [zWg, zTk, zMx, h8, h34, h50, h74, h85, h93]; done) | (simp only [zWg, zTk, zMx]; (repeat' split) <;> first | rfl | contradiction))
            · refine zx_aload_n (pc := 96) dX2_weigh_96 rfl rfl ?_
              refine zx_aload_n (pc := 97) dX2_weigh_97 rfl rfl ?_
              refine g14_3 (pc := 98) fl_X2_67 dX2_weigh_98 ?_
              refine u16_2 (pc := 101) fl_X2_28 dX2_weigh_101 ?_
              refine zx_aload_n (pc := 104) dX2_weigh_104 rfl rfl ?_
              refine zx_iload_n (pc := 105) dX2_weigh_105 rfl rfl ?_
              refine u16_3 (pc := 106) fl_X2_31 dX2_weigh_106 ?_
              refine zx_aload_n (pc := 109) dX2_weigh_109 rfl rfl ?_
              refine zx_aload_n (pc := 110) dX2_weigh_110 rfl rfl ?_
              refine zx_aload_n (pc := 111) dX2_weigh_111 rfl rfl ?_
              refine zx_fV1 (pc := 112) (k_fig (d := d) hH) cl_X2_85 p16 rfl dX2_weigh_112 rfl rfl (by omega) (Nat.le_of_ble_eq_true rfl) (Nat.le_refl _) (Nat.le_refl _) ?_
              refine u16_1 (pc := 115) fl_X2_25 dX2_weigh_115 ?_
              exact zx_fv (pc := 118) dX2_weigh_118 rfl (Nat.le_refl _) (Nat.le_refl _) (by first | (simp [zWg, zTk, zMx, h8, h34, h50, h74, h85, h93]; done) | (simp only [zWg, zTk, zMx]; (repeat' split) <;> first | rfl | contradiction))
      · refine zx_iload_n (pc := 53) dX2_weigh_53 rfl rfl ?_
        refine zx_aload_n (pc := 54) dX2_weigh_54 rfl rfl ?_
        refine g16_4 (pc := 55) fl_X2_34 dX2_weigh_55 ?_
        refine zx_icmp_ge (pc := 58) (tgt := 66) dX2_weigh_58 (by decide) (fun h58 => ?_) (fun h58 => ?_)
        · refine zx_aload_n (pc := 66) dX2_weigh_66 rfl rfl ?_
          refine g14_3 (pc := 67) fl_X2_67 dX2_weigh_67 ?_
          refine zx_aload_n (pc := 70) dX2_weigh_70 rfl rfl ?_
          refine g16_2 (pc := 71) fl_X2_28 dX2_weigh_71 ?_
          refine zx_icmp_gt (pc := 74) (tgt := 96) dX2_weigh_74 (by decide) (fun h74 => ?_) (fun h74 => ?_)
          · refine zx_aload_n (pc := 96) dX2_weigh_96 rfl rfl ?_
            refine zx_aload_n (pc := 97) dX2_weigh_97 rfl rfl ?_
            refine g14_3 (pc := 98) fl_X2_67 dX2_weigh_98 ?_
            refine u16_2 (pc := 101) fl_X2_28 dX2_weigh_101 ?_
            refine zx_aload_n (pc := 104) dX2_weigh_104 rfl rfl ?_
            refine zx_iload_n (pc := 105) dX2_weigh_105 rfl rfl ?_
            refine u16_3 (pc := 106) fl_X2_31 dX2_weigh_106 ?_
            refine zx_aload_n (pc := 109) dX2_weigh_109 rfl rfl ?_
            refine zx_aload_n (pc := 110) dX2_weigh_110 rfl rfl ?_
            refine zx_aload_n (pc := 111) dX2_weigh_111 rfl rfl ?_
            refine zx_fV1 (pc := 112) (k_fig (d := d) hH) cl_X2_85 p16 rfl dX2_weigh_112 rfl rfl (by omega) (Nat.le_of_ble_eq_true rfl) (Nat.le_refl _) (Nat.le_refl _) ?_
            refine u16_1 (pc := 115) fl_X2_25 dX2_weigh_115 ?_
            exact zx_fv (pc := 118) dX2_weigh_118 rfl (Nat.le_refl _) (Nat.le_refl _) (by first | (simp [zWg, zTk, zMx, h8, h34, h50, h58, h74]; done) | (simp only [zWg, zTk, zMx]; (repeat' split) <;> first | rfl | contradiction))
          · refine zx_aload_n (pc := 77) dX2_weigh_77 rfl rfl ?_
            refine g14_3 (pc := 78) fl_X2_67 dX2_weigh_78 ?_
            refine zx_aload_n (pc := 81) dX2_weigh_81 rfl rfl ?_
            refine g16_2 (pc := 82) fl_X2_28 dX2_weigh_82 ?_
            refine zx_icmp_ne (pc := 85) (tgt := 118) dX2_weigh_85 (by decide) (fun h85 => ?_) (fun h85 => ?_)
            · exact zx_fv (pc := 118) dX2_weigh_118 rfl (Nat.le_refl _) (Nat.le_refl _) (by first | (simp [zWg, zTk, zMx, h8, h34, h50, h58, h74, h85]; done) | (simp only [zWg, zTk, zMx]; (repeat' split) <;> first | rfl | contradiction))
            · refine zx_iload_n (pc := 88) dX2_weigh_88 rfl rfl ?_
              refine zx_aload_n (pc := 89) dX2_weigh_89 rfl rfl ?_
              refine g16_3 (pc := 90) fl_X2_31 dX2_weigh_90 ?_
              refine zx_icmp_ge (pc := 93) (tgt := 118) dX2_weigh_93 (by decide) (fun h93 => ?_) (fun h93 => ?_)
              · exact zx_fv (pc := 118) dX2_weigh_118 rfl (Nat.le_refl _) (Nat.le_refl _) (by first | (simp [zWg, zTk, zMx, h8, h34, h50, h58, h74, h85, h93]; done) | (simp only [zWg, zTk, zMx]; (repeat' split) <;> first | rfl | contradiction))
              · refine zx_aload_n (pc := 96) dX2_weigh_96 rfl rfl ?_
                refine zx_aload_n (pc := 97) dX2_weigh_97 rfl rfl ?_
                refine g14_3 (pc := 98) fl_X2_67 dX2_weigh_98 ?_
                refine u16_2 (pc := 101) fl_X2_28 dX2_weigh_101 ?_
                refine zx_aload_n (pc := 104) dX2_weigh_104 rfl rfl ?_
                refine zx_iload_n (pc := 105) dX2_weigh_105 rfl rfl ?_
                refine u16_3 (pc := 106) fl_X2_31 dX2_weigh_106 ?_
                refine zx_aload_n (pc := 109) dX2_weigh_109 rfl rfl ?_
                refine zx_aload_n (pc := 110) dX2_weigh_110 rfl rfl ?_
                refine zx_aload_n (pc := 111) dX2_weigh_111 rfl rfl ?_
                refine zx_fV1 (pc := 112) (k_fig (d := d) hH) cl_X2_85 p16 rfl dX2_weigh_112 rfl rfl (by omega) (Nat.le_of_ble_eq_true rfl) (Nat.le_refl _) (Nat.le_refl _) ?_
                refine u16_1 (pc := 115) fl_X2_25 dX2_weigh_115 ?_
                exact zx_fv (pc := 118) dX2_weigh_118 rfl (Nat.le_refl _) (Nat.le_refl _) (by first | (simp [zWg, zTk, zMx, h8, h34, h50, h58, h74, h85, h93]; done) | (simp only [zWg, zTk, zMx]; (repeat' split) <;> first | rfl | contradiction))
        · refine zx_aload_n (pc := 61) dX2_weigh_61 rfl rfl ?_
          refine zx_iload_n (pc := 62) dX2_weigh_62 rfl rfl ?_
          refine u16_4 (pc := 63) fl_X2_34 dX2_weigh_63 ?_
          refine zx_aload_n (pc := 66) dX2_weigh_66 rfl rfl ?_
          refine g14_3 (pc := 67) fl_X2_67 dX2_weigh_67 ?_
          refine zx_aload_n (pc := 70) dX2_weigh_70 rfl rfl ?_
          refine g16_2 (pc := 71) fl_X2_28 dX2_weigh_71 ?_
          refine zx_icmp_gt (pc := 74) (tgt := 96) dX2_weigh_74 (by decide) (fun h74 => ?_) (fun h74 => ?_)
          · refine zx_aload_n (pc := 96) dX2_weigh_96 rfl rfl ?_
            refine zx_aload_n (pc := 97) dX2_weigh_97 rfl rfl ?_
            refine g14_3 (pc := 98) fl_X2_67 dX2_weigh_98 ?_
            refine u16_2 (pc := 101) fl_X2_28 dX2_weigh_101 ?_
            refine zx_aload_n (pc := 104) dX2_weigh_104 rfl rfl ?_
            refine zx_iload_n (pc := 105) dX2_weigh_105 rfl rfl ?_
            refine u16_3 (pc := 106) fl_X2_31 dX2_weigh_106 ?_
            refine zx_aload_n (pc := 109) dX2_weigh_109 rfl rfl ?_
            refine zx_aload_n (pc := 110) dX2_weigh_110 rfl rfl ?_
            refine zx_aload_n (pc := 111) dX2_weigh_111 rfl rfl ?_
            refine zx_fV1 (pc := 112) (k_fig (d := d) hH) cl_X2_85 p16 rfl dX2_weigh_112 rfl rfl (by omega) (Nat.le_of_ble_eq_true rfl) (Nat.le_refl _) (Nat.le_refl _) ?_
            refine u16_1 (pc := 115) fl_X2_25 dX2_weigh_115 ?_
            exact zx_fv (pc := 118) dX2_weigh_118 rfl (Nat.le_refl _) (Nat.le_refl _) (by first | (simp [zWg, zTk, zMx, h8, h34, h50, h58, h74]; done) | (simp only [zWg, zTk, zMx]; (repeat' split) <;> first | rfl | contradiction))
          · refine zx_aload_n (pc := 77) dX2_weigh_77 rfl rfl ?_
            refine g14_3 (pc := 78) fl_X2_67 dX2_weigh_78 ?_
            refine zx_aload_n (pc := 81) dX2_weigh_81 rfl rfl ?_
            refine g16_2 (pc := 82) fl_X2_28 dX2_weigh_82 ?_
            refine zx_icmp_ne (pc := 85) (tgt := 118) dX2_weigh_85 (by decide) (fun h85 => ?_) (fun h85 => ?_)
            · exact zx_fv (pc := 118) dX2_weigh_118 rfl (Nat.le_refl _) (Nat.le_refl _) (by first | (simp [zWg, zTk, zMx, h8, h34, h50, h58, h74, h85]; done) | (simp only [zWg, zTk, zMx]; (repeat' split) <;> first | rfl | contradiction))
            · refine zx_iload_n (pc := 88) dX2_weigh_88 rfl rfl ?_
              refine zx_aload_n (pc := 89) dX2_weigh_89 rfl rfl ?_
              refine g16_3 (pc := 90) fl_X2_31 dX2_weigh_90 ?_
              refine zx_icmp_ge (pc := 93) (tgt := 118) dX2_weigh_93 (by decide) (fun h93 => ?_) (fun h93 => ?_)
              · exact zx_fv (pc := 118) dX2_weigh_118 rfl (Nat.le_refl _) (Nat.le_refl _) (by first | (simp [zWg, zTk, zMx, h8, h34, h50, h58, h74, h85, h93]; done) | (simp only [zWg, zTk, zMx]; (repeat' split) <;> first | rfl | contradiction))
              · refine zx_aload_n (pc := 96) dX2_weigh_96 rfl rfl ?_
                refine zx_aload_n (pc := 97) dX2_weigh_97 rfl rfl ?_
                refine g14_3 (pc := 98) fl_X2_67 dX2_weigh_98 ?_
                refine u16_2 (pc := 101) fl_X2_28 dX2_weigh_101 ?_
                refine zx_aload_n (pc := 104) dX2_weigh_104 rfl rfl ?_
                refine zx_iload_n (pc := 105) dX2_weigh_105 rfl rfl ?_
                refine u16_3 (pc := 106) fl_X2_31 dX2_weigh_106 ?_
                refine zx_aload_n (pc := 109) dX2_weigh_109 rfl rfl ?_
                refine zx_aload_n (pc := 110) dX2_weigh_110 rfl rfl ?_
                refine zx_aload_n (pc := 111) dX2_weigh_111 rfl rfl ?_
                refine zx_fV1 (pc := 112) (k_fig (d := d) hH) cl_X2_85 p16 rfl dX2_weigh_112 rfl rfl (by omega) (Nat.le_of_ble_eq_true rfl) (Nat.le_refl _) (Nat.le_refl _) ?_
                refine u16_1 (pc := 115) fl_X2_25 dX2_weigh_115 ?_
                exact zx_fv (pc := 118) dX2_weigh_118 rfl (Nat.le_refl _) (Nat.le_refl _) (by first | (simp [zWg, zTk, zMx, h8, h34, h50, h58, h74, h85, h93]; done) | (simp only [zWg, zTk, zMx]; (repeat' split) <;> first | rfl | contradiction))
    · exact zx_fv (pc := 37) dX2_weigh_37 rfl (Nat.le_refl _) (Nat.le_refl _) (by first | (simp [zWg, zTk, zMx, h8, h34]; done) | (simp only [zWg, zTk, zMx]; (repeat' split) <;> first | rfl | contradiction))
set_option maxHeartbeats 4000000 in
theorem lp_weighAll {d n0 H F M : Nat} {S0 : ((Nat → Int32) × Int32 × Int32 × Int32 × Int32 × Int32) × ((Nat → Int32) × Int32 × Int32 × Int32)} {tx : (Nat → Int32) × Int32} {gs : (Nat → Int32)} {gk : (Nat → Int32)} {gf : (Nat → Int32)} {ga : (Nat → Int32)} {gc : Int32} {nt : (Nat → Int32)} {ns : (Nat → Int32)} {n2 : Int32} {n3 : Int32} {n4 : Int32} {n5 : Int32} {n6 : Int32} {n7 : Int32} {n8 : Int32} {tr : (Nat → Int32) × (Nat → Int32) × Int32 × Int32 × Int32 × Int32 × Int32 × Int32 × Int32} {ac : (Nat → zStt) × Int32 × Int32} {sl : (Nat → zStt) × (Nat → Int32)} {si : (Nat → Int32) × (Nat → Int32) × (Nat → Int32) × Int32} {sd : Int64} {tau : List zCel} (hH : H ≤ 5) (hF : F ≤ 3) (hM : M < 10000) : ∀ k i : Nat, i + k = M → zX RX2 cX2_weighAll 6 none "weighAll" none (d + 4) n0 0 0 0 0 (fun r s => r = none ∧ s = encC tx (gs, gk, gf, ga, (nI H), (nI F), gc) (nt, ns, n2, n3, n4, n5, n6, n7, n8) tr (zWa gs gk gf F H gc ns n2 S0 M).2 (zWa gs gk gf F H gc ns n2 S0 M).1 ac sl si sd ++ tau) 55 [some (.ref 16), some (.ref 3), some (.ref 8), some (.ref 14), some (.int (nI M)), some (.int (nI i))] [] (encC tx (gs, gk, gf, ga, (nI H), (nI F), gc) (nt, ns, n2, n3, n4, n5, n6, n7, n8) tr (zWa gs gk gf F H gc ns n2 S0 i).2 (zWa gs gk gf F H gc ns n2 S0 i).1 ac sl si sd ++ tau) := by
  intro k
  induction k with
  | zero =>
    intro i hi
    obtain rfl : i = M := by omega
    refine zx_iload (pc := 55) dX2_weighAll_55 rfl ?_
    refine zx_iload (pc := 57) dX2_weighAll_57 rfl ?_
    refine zx_icmp_ge (pc := 59) (tgt := 89) dX2_weighAll_59 (by decide) (fun h59 => ?_) (fun h59 => by first | exact absurd h59 (show nI i ≤ nI i from Int32.le_refl _) | exact absurd (show nI i ≤ nI i from Int32.le_refl _) h59)
    exact zx_fv (pc := 89) dX2_weighAll_89 rfl (Nat.le_refl _) (Nat.le_refl _) rfl
  | succ k ih =>
    intro i hi
    refine zx_iload (pc := 55) dX2_weighAll_55 rfl ?_
    refine zx_iload (pc := 57) dX2_weighAll_57 rfl ?_
    refine zx_icmp_ge (pc := 59) (tgt := 89) dX2_weighAll_59 (by decide) (fun h59 => by first | exact absurd h59 (nI_ge (show i < M by omega) (by omega)) | exact absurd (nI_ge (show i < M by omega) (by omega)) h59) (fun h59 => ?_)
    refine zx_aload_n (pc := 62) dX2_weighAll_62 rfl rfl ?_
    refine zx_aload_n (pc := 63) dX2_weighAll_63 rfl rfl ?_
    refine zx_aload_n (pc := 64) dX2_weighAll_64 rfl rfl ?_
    refine zx_aload_n (pc := 65) dX2_weighAll_65 rfl rfl ?_
    refine g16_0 (pc := 66) fl_X2_9 dX2_weighAll_66 ?_
    refine zx_fV0 (pc := 69) (k_reckon_p (d := d) hH hF) cl_X2_53 p14 rfl dX2_weighAll_69 rfl rfl (by omega) (Nat.le_of_ble_eq_true rfl) (Nat.le_refl _) (Nat.le_refl _) ?_
    refine zx_aload_n (pc := 72) dX2_weighAll_72 rfl rfl ?_
    refine zx_aload_n (pc := 73) dX2_weighAll_73 rfl rfl ?_
    refine zx_aload_n (pc := 74) dX2_weighAll_74 rfl rfl ?_
    refine zx_fV0 (pc := 75) (k_weigh (d := d + 2) hH) cl_X2_59 p16 rfl dX2_weighAll_75 rfl rfl (by omega) (Nat.le_of_ble_eq_true rfl) (Nat.le_refl _) (Nat.le_refl _) ?_
    refine zx_aload_n (pc := 78) dX2_weighAll_78 rfl rfl ?_
    refine zx_aload_n (pc := 79) dX2_weighAll_79 rfl rfl ?_
    refine zx_fV0 (pc := 80) (k_step (d := d + 1) hH) cl_X2_63 p16 rfl dX2_weighAll_80 rfl rfl (by omega) (Nat.le_of_ble_eq_true rfl) (Nat.le_refl _) (Nat.le_refl _) ?_
    refine ic_5_6_1 (pc := 83) dX2_weighAll_83 rfl ?_
    refine zx_goto (pc := 86) (tgt := 55) dX2_weighAll_86 (by decide) ?_
    rw [nI_1]
    exact ih (i + 1) (by omega)
set_option maxHeartbeats 4000000 in
theorem k_weighAll {d : Nat} {H F : Nat} {tx : (Nat → Int32) × Int32} {gs : (Nat → Int32)} {gk : (Nat → Int32)} {gf : (Nat → Int32)} {ga : (Nat → Int32)} {gc : Int32} {nt : (Nat → Int32)} {ns : (Nat → Int32)} {n2 : Int32} {n3 : Int32} {n4 : Int32} {n5 : Int32} {n6 : Int32} {n7 : Int32} {n8 : Int32} {tr : (Nat → Int32) × (Nat → Int32) × Int32 × Int32 × Int32 × Int32 × Int32 × Int32 × Int32} {wk : (Nat → Int32) × Int32 × Int32 × Int32} {pl : (Nat → Int32) × Int32 × Int32 × Int32 × Int32 × Int32} {ac : (Nat → zStt) × Int32 × Int32} {sl : (Nat → zStt) × (Nat → Int32)} {si : (Nat → Int32) × (Nat → Int32) × (Nat → Int32) × Int32} {sd : Int64} {tau : List zCel} (hH : H ≤ 5) (hF : F ≤ 3) : zCf yX2_weighAll cX2_weighAll 6 none (d + 4) [.ref 16, .ref 3, .ref 8, .ref 14] (encC tx (gs, gk, gf, ga, (nI H), (nI F), gc) (nt, ns, n2, n3, n4, n5, n6, n7, n8) tr wk pl ac sl si sd ++ tau) none (encC tx (gs, gk, gf, ga, (nI H), (nI F), gc) (nt, ns, n2, n3, n4, n5, n6, n7, n8) tr (zWa gs gk gf F H gc ns n2 ((zFil pl.1 0 5, -9, -9, -9, -9, 0), wk) ((2 + F) ^ H)).2 (zWa gs gk gf F H gc ns n2 ((zFil pl.1 0 5, -9, -9, -9, -9, 0), wk) ((2 + F) ^ H)).1 ac sl si sd ++ tau) := by
  have hM : (2 + F) ^ H < 10000 := Nat.lt_of_le_of_lt (Nat.le_trans (Nat.pow_le_pow_left (show 2 + F ≤ 5 by omega) H) (Nat.pow_le_pow_right (by decide) hH)) (by decide)
  refine zC.intro (by decide) (Nat.le_of_ble_eq_true rfl) rfl ?_
  refine zx_aload_n (pc := 0) dX2_weighAll_0 rfl rfl ?_
  refine zx_bipush (pc := 1) (v := -9) dX2_weighAll_1 (by decide) ?_
  refine u16_1 (pc := 3) fl_X2_25 dX2_weighAll_3 ?_
  refine zx_aload_n (pc := 6) dX2_weighAll_6 rfl rfl ?_
  refine zx_bipush (pc := 7) (v := -9) dX2_weighAll_7 (by decide) ?_
  refine u16_2 (pc := 9) fl_X2_28 dX2_weighAll_9 ?_
  refine zx_aload_n (pc := 12) dX2_weighAll_12 rfl rfl ?_
  refine zx_bipush (pc := 13) (v := -9) dX2_weighAll_13 (by decide) ?_
  refine u16_3 (pc := 15) fl_X2_31 dX2_weighAll_15 ?_
  refine zx_aload_n (pc := 18) dX2_weighAll_18 rfl rfl ?_
  refine zx_bipush (pc := 19) (v := -9) dX2_weighAll_19 (by decide) ?_
  refine u16_4 (pc := 21) fl_X2_34 dX2_weighAll_21 ?_
  refine zx_aload_n (pc := 24) dX2_weighAll_24 rfl rfl ?_
  refine zx_iconst (pc := 25) (v := 0) dX2_weighAll_25 (by decide) ?_
  refine u16_5 (pc := 26) fl_X2_37 dX2_weighAll_26 ?_
  refine zx_aload_n (pc := 29) dX2_weighAll_29 rfl rfl ?_
  refine g16_0 (pc := 30) fl_X2_9 dX2_weighAll_30 ?_
  refine zx_iconst (pc := 33) (v := 0) dX2_weighAll_33 (by decide) ?_
  refine zx_fS0 (pc := 34) (k_fill_p (d := d + 3) ) cl_X2_40 dX2_weighAll_34 rfl rfl (by omega) (Nat.le_of_ble_eq_true rfl) (Nat.le_refl _) (Nat.le_refl _) ?_
  refine zx_iconst (pc := 37) (v := 2) dX2_weighAll_37 (by decide) ?_
  refine zx_aload_n (pc := 38) dX2_weighAll_38 rfl rfl ?_
  refine g3_5 (pc := 39) fl_X2_46 dX2_weighAll_39 ?_
  refine zx_iadd (pc := 42) dX2_weighAll_42 ?_
  refine zx_aload_n (pc := 43) dX2_weighAll_43 rfl rfl ?_
  refine g3_4 (pc := 44) fl_X2_15 dX2_weighAll_44 ?_
  rw [show (2 : Int32) + nI F = nI (2 + F) from nI_add 2 F]
  refine zx_fSN1 (pc := 47) (k_power (d := d + 3) (b := nI (2 + F)) (E := H) (by omega)) cl_X2_49 dX2_weighAll_47 rfl rfl (by omega) (Nat.le_of_ble_eq_true rfl) (Nat.le_refl _) (Nat.le_refl _) ?_
  rw [zPw_n]
  refine st_4_6 (pc := 50) dX2_weighAll_50 rfl ?_
  refine zx_iconst (pc := 52) (v := 0) dX2_weighAll_52 (by decide) ?_
  refine st_5_6 (pc := 53) dX2_weighAll_53 rfl ?_
  exact lp_weighAll (S0 := ((zFil pl.1 0 5, -9, -9, -9, -9, 0), wk)) hH hF hM ((2 + F) ^ H) 0 (by omega)
