set_option maxHeartbeats 4000000 in
theorem k_of {d : Nat} {x y : Int32} {sg : List zCel}  : zCf yX7_of cX7_of 2 (some .int) d [.int x, .int y] (sg) (some (.int (zWof x y))) (sg) := by
  refine zC.intro (by decide) (Nat.le_of_ble_eq_true rfl) rfl ?_
  refine zx_iconst (pc := 0) (v := 1) dX7_of_0 (by decide) ?_
  refine zx_iload_n (pc := 1) dX7_of_1 rfl rfl ?_
  refine zx_ishl (pc := 2) dX7_of_2 ?_
  refine zx_iload_n (pc := 3) dX7_of_3 rfl rfl ?_
  refine zx_ior (pc := 4) dX7_of_4 ?_
  exact zx_fi (pc := 5) dX7_of_5 rfl rfl (Nat.le_refl _) (Nat.le_refl _) rfl rfl
set_option maxHeartbeats 4000000 in
theorem lp_heightOf {d n0 : Nat} {w v : Int32} {sg : List zCel} : ∀ k : Nat, k ≤ 8 → v = zHtR k w → zX RX7 cX7_heightOf 2 (some .int) "heightOf" none d n0 0 0 0 0 (fun r s => r = some (.int v) ∧ s = sg) 3 [some (.int w), some (.int (nI k))] [] sg := by
  intro k
  induction k with
  | zero =>
    intro hk hv
    refine zx_iload_n (pc := 3) dX7_heightOf_3 rfl rfl ?_
    refine zx_if_le (pc := 4) (tgt := 19) dX7_heightOf_4 (by decide) (fun h4 => ?_) (fun h4 => by first | exact absurd h4 (show nI 0 ≤ 0 by decide) | exact absurd (show nI 0 ≤ 0 by decide) h4)
    refine zx_iload_n (pc := 19) dX7_heightOf_19 rfl rfl ?_
    exact zx_fi (pc := 20) dX7_heightOf_20 rfl rfl (Nat.le_refl _) (Nat.le_refl _) (by rw [hv]; rfl) rfl
  | succ k ih =>
    intro hk hv
    refine zx_iload_n (pc := 3) dX7_heightOf_3 rfl rfl ?_
    refine zx_if_le (pc := 4) (tgt := 19) dX7_heightOf_4 (by decide) (fun h4 => by first | exact absurd h4 (show ¬ nI (k + 1) ≤ 0 from nI_nle (by omega) (by omega)) | exact absurd (show ¬ nI (k + 1) ≤ 0 from nI_nle (by omega) (by omega)) h4) (fun h4 => ?_)
    refine zx_iload_n (pc := 7) dX7_heightOf_7 rfl rfl ?_
    refine zx_iload_n (pc := 8) dX7_heightOf_8 rfl rfl ?_
    refine zx_ishr (pc := 9) dX7_heightOf_9 ?_
    refine zx_if_ne (pc := 10) (tgt := 19) dX7_heightOf_10 (by decide) (fun h10 => ?_) (fun h10 => ?_)
    · refine zx_iload_n (pc := 19) dX7_heightOf_19 rfl rfl ?_
      exact zx_fi (pc := 20) dX7_heightOf_20 rfl rfl (Nat.le_refl _) (Nat.le_refl _) (by rw [hv, zHtR, if_neg h10]) rfl
    · refine ic_1_2_m1 (pc := 13) dX7_heightOf_13 rfl ?_
      refine zx_goto (pc := 16) (tgt := 3) dX7_heightOf_16 (by decide) ?_
      have hs := ih (by omega) (by rw [hv, zHtR, if_pos h10])
      rw [← nI_pred] at hs
      exact hs
set_option maxHeartbeats 4000000 in
theorem k_heightOf {d : Nat} {w : Int32} {sg : List zCel}  : zCf yX7_heightOf cX7_heightOf 2 (some .int) d [.int w] (sg) (some (.int (zHt w))) (sg) := by
  refine zC.intro (by decide) (Nat.le_of_ble_eq_true rfl) rfl ?_
  refine zx_bipush (pc := 0) (v := 8) dX7_heightOf_0 (by decide) ?_
  refine st_1_2 (pc := 2) dX7_heightOf_2 rfl ?_
  exact lp_heightOf 8 (by omega) rfl
set_option maxHeartbeats 4000000 in
theorem k_soundOf {d : Nat} {w : Int32} {sg : List zCel}  : zCf yX7_soundOf cX7_soundOf 1 (some .int) (d + 1) [.int w] (sg) (some (.int (zSo w))) (sg) := by
  refine zC.intro (by decide) (Nat.le_of_ble_eq_true rfl) rfl ?_
  refine zx_iload_n (pc := 0) dX7_soundOf_0 rfl rfl ?_
  refine zx_iconst (pc := 1) (v := 1) dX7_soundOf_1 (by decide) ?_
  refine zx_iload_n (pc := 2) dX7_soundOf_2 rfl rfl ?_
  refine zx_fS1 (pc := 3) (k_heightOf (d := d) ) cl_X7_9 dX7_soundOf_3 rfl rfl (by omega) (Nat.le_of_ble_eq_true rfl) (Nat.le_refl _) (Nat.le_refl _) ?_
  refine zx_ishl (pc := 6) dX7_soundOf_6 ?_
  refine zx_isub (pc := 7) dX7_soundOf_7 ?_
  exact zx_fi (pc := 8) dX7_soundOf_8 rfl rfl (Nat.le_refl _) (Nat.le_refl _) rfl rfl
set_option maxHeartbeats 4000000 in
theorem k_withCourse {d : Nat} {w x : Int32} {sg : List zCel}  : zCf yX7_withCourse cX7_withCourse 3 (some .int) (d + 2) [.int w, .int x] (sg) (some (.int (zWc w x))) (sg) := by
  refine zC.intro (by decide) (Nat.le_of_ble_eq_true rfl) rfl ?_
  refine zx_iload_n (pc := 0) dX7_withCourse_0 rfl rfl ?_
  refine zx_fS1 (pc := 1) (k_heightOf (d := d + 1) ) cl_X7_9 dX7_withCourse_1 rfl rfl (by omega) (Nat.le_of_ble_eq_true rfl) (Nat.le_refl _) (Nat.le_refl _) ?_
  refine st_2_3 (pc := 4) dX7_withCourse_4 rfl ?_
  refine zx_iload_n (pc := 5) dX7_withCourse_5 rfl rfl ?_
  refine zx_iconst (pc := 6) (v := 1) dX7_withCourse_6 (by decide) ?_
  refine zx_iadd (pc := 7) dX7_withCourse_7 ?_
  refine zx_iload_n (pc := 8) dX7_withCourse_8 rfl rfl ?_
  refine zx_fS1 (pc := 9) (k_soundOf (d := d) ) cl_X7_15 dX7_withCourse_9 rfl rfl (by omega) (Nat.le_of_ble_eq_true rfl) (Nat.le_refl _) (Nat.le_refl _) ?_
  refine zx_iload_n (pc := 12) dX7_withCourse_12 rfl rfl ?_
  refine zx_iload_n (pc := 13) dX7_withCourse_13 rfl rfl ?_
  refine zx_ishl (pc := 14) dX7_withCourse_14 ?_
  refine zx_ior (pc := 15) dX7_withCourse_15 ?_
  refine zx_fS1 (pc := 16) (k_of (d := d + 1) ) cl_X7_18 dX7_withCourse_16 rfl rfl (by omega) (Nat.le_of_ble_eq_true rfl) (Nat.le_refl _) (Nat.le_refl _) ?_
  exact zx_fi (pc := 19) dX7_withCourse_19 rfl rfl (Nat.le_refl _) (Nat.le_refl _) rfl rfl
set_option maxHeartbeats 4000000 in
theorem k_behindRain {d : Nat} {w : Int32} {sg : List zCel}  : zCf yX7_behindRain cX7_behindRain 4 (some .int) d [.int w] (sg) (some (.int (zRn w))) (sg) := by
  refine zC.intro (by decide) (Nat.le_of_ble_eq_true rfl) rfl ?_
  refine zx_iload_n (pc := 0) dX7_behindRain_0 rfl rfl ?_
  refine zx_iconst (pc := 1) (v := -1) dX7_behindRain_1 (by decide) ?_
  refine zx_ixor (pc := 2) dX7_behindRain_2 ?_
  refine zx_iload_n (pc := 3) dX7_behindRain_3 rfl rfl ?_
  refine zx_iconst (pc := 4) (v := 1) dX7_behindRain_4 (by decide) ?_
  refine zx_iadd (pc := 5) dX7_behindRain_5 ?_
  refine zx_iand (pc := 6) dX7_behindRain_6 ?_
  refine st_1_4 (pc := 7) dX7_behindRain_7 rfl ?_
  refine zx_iload_n (pc := 8) dX7_behindRain_8 rfl rfl ?_
  refine zx_iload_n (pc := 9) dX7_behindRain_9 rfl rfl ?_
  refine zx_icmp_le (pc := 10) (tgt := 15) dX7_behindRain_10 (by decide) (fun h10 => ?_) (fun h10 => ?_)
  · refine zx_iload_n (pc := 15) dX7_behindRain_15 rfl rfl ?_
    refine zx_iload_n (pc := 16) dX7_behindRain_16 rfl rfl ?_
    refine zx_iconst (pc := 17) (v := 1) dX7_behindRain_17 (by decide) ?_
    refine zx_isub (pc := 18) dX7_behindRain_18 ?_
    refine zx_iand (pc := 19) dX7_behindRain_19 ?_
    refine st_2_4 (pc := 20) dX7_behindRain_20 rfl ?_
    refine zx_iload_n (pc := 21) dX7_behindRain_21 rfl rfl ?_
    refine zx_iload_n (pc := 22) dX7_behindRain_22 rfl rfl ?_
    refine zx_ineg (pc := 23) dX7_behindRain_23 ?_
    refine zx_iand (pc := 24) dX7_behindRain_24 ?_
    refine st_3_4 (pc := 25) dX7_behindRain_25 rfl ?_
    refine zx_iload_n (pc := 26) dX7_behindRain_26 rfl rfl ?_
    refine zx_iconst (pc := 27) (v := 1) dX7_behindRain_27 (by decide) ?_
    refine zx_ishr (pc := 28) dX7_behindRain_28 ?_
    refine zx_iload_n (pc := 29) dX7_behindRain_29 rfl rfl ?_
    refine zx_ior (pc := 30) dX7_behindRain_30 ?_
    exact zx_fi (pc := 31) dX7_behindRain_31 rfl rfl (Nat.le_refl _) (Nat.le_refl _) (by unfold zRn zLh; rw [if_neg (Int32.not_lt.mpr h10)]) rfl
  · refine zx_iload_n (pc := 13) dX7_behindRain_13 rfl rfl ?_
    exact zx_fi (pc := 14) dX7_behindRain_14 rfl rfl (Nat.le_refl _) (Nat.le_refl _) (by unfold zRn zLh; rw [if_pos (Int32.not_le.mp h10)]) rfl
set_option maxHeartbeats 4000000 in
theorem lp_behindRains {d n0 R : Nat} {w : Int32} {sg : List zCel} (hR : R < 1000) : ∀ k i : Nat, i + k = R → zX RX7 cX7_behindRains 4 (some .int) "behindRains" none (d + 1) n0 0 0 0 0 (fun r s => r = some (.int (zRns w R)) ∧ s = sg) 4 [some (.int w), some (.int (nI R)), some (.int (zRns w i)), some (.int (nI i))] [] sg := by
  intro k
  induction k with
  | zero =>
    intro i hi
    obtain rfl : i = R := by omega
    refine zx_iload_n (pc := 4) dX7_behindRains_4 rfl rfl ?_
    refine zx_iload_n (pc := 5) dX7_behindRains_5 rfl rfl ?_
    refine zx_icmp_ge (pc := 6) (tgt := 20) dX7_behindRains_6 (by decide) (fun h6 => ?_) (fun h6 => by first | exact absurd h6 (show nI i ≤ nI i from Int32.le_refl _) | exact absurd (show nI i ≤ nI i from Int32.le_refl _) h6)
    refine zx_iload_n (pc := 20) dX7_behindRains_20 rfl rfl ?_
    exact zx_fi (pc := 21) dX7_behindRains_21 rfl rfl (Nat.le_refl _) (Nat.le_refl _) rfl rfl
  | succ k ih =>
    intro i hi
    refine zx_iload_n (pc := 4) dX7_behindRains_4 rfl rfl ?_
    refine zx_iload_n (pc := 5) dX7_behindRains_5 rfl rfl ?_
    refine zx_icmp_ge (pc := 6) (tgt := 20) dX7_behindRains_6 (by decide) (fun h6 => by first | exact absurd h6 (nI_ge (show i < R by omega) (by omega)) | exact absurd (nI_ge (show i < R by omega) (by omega)) h6) (fun h6 => ?_)
    refine zx_iload_n (pc := 9) dX7_behindRains_9 rfl rfl ?_
    refine zx_fS1 (pc := 10) (k_behindRain (d := d) ) cl_X7_22 dX7_behindRains_10 rfl rfl (by omega) (Nat.le_of_ble_eq_true rfl) (Nat.le_refl _) (Nat.le_refl _) ?_
    refine st_2_4 (pc := 13) dX7_behindRains_13 rfl ?_
    refine ic_3_4_1 (pc := 14) dX7_behindRains_14 rfl ?_
    refine zx_goto (pc := 17) (tgt := 4) dX7_behindRains_17 (by decide) ?_
    have hs := ih (i + 1) (by omega)
    rw [← nI_1] at hs
    exact hs
set_option maxHeartbeats 4000000 in
theorem k_behindRains {d : Nat} {R : Nat} {w : Int32} {sg : List zCel} (hR : R < 1000) : zCf yX7_behindRains cX7_behindRains 4 (some .int) (d + 1) [.int w, .int (nI R)] (sg) (some (.int (zRns w R))) (sg) := by
  refine zC.intro (by decide) (Nat.le_of_ble_eq_true rfl) rfl ?_
  refine zx_iload_n (pc := 0) dX7_behindRains_0 rfl rfl ?_
  refine st_2_4 (pc := 1) dX7_behindRains_1 rfl ?_
  refine zx_iconst (pc := 2) (v := 0) dX7_behindRains_2 (by decide) ?_
  refine st_3_4 (pc := 3) dX7_behindRains_3 rfl ?_
  exact lp_behindRains hR R 0 (by omega)
set_option maxHeartbeats 4000000 in
theorem k_courseAt {d : Nat} {w x : Int32} {sg : List zCel}  : zCf yX7_courseAt cX7_courseAt 2 (some .int) (d + 1) [.int w, .int x] (sg) (some (.int (zCa w x))) (sg) := by
  refine zC.intro (by decide) (Nat.le_of_ble_eq_true rfl) rfl ?_
  refine zx_iload_n (pc := 0) dX7_courseAt_0 rfl rfl ?_
  refine zx_iload_n (pc := 1) dX7_courseAt_1 rfl rfl ?_
  refine zx_fS1 (pc := 2) (k_heightOf (d := d) ) cl_X7_9 dX7_courseAt_2 rfl rfl (by omega) (Nat.le_of_ble_eq_true rfl) (Nat.le_refl _) (Nat.le_refl _) ?_
  refine zx_icmp_lt (pc := 5) (tgt := 12) dX7_courseAt_5 (by decide) (fun h5 => ?_) (fun h5 => ?_)
  · refine zx_iload_n (pc := 12) dX7_courseAt_12 rfl rfl ?_
    refine zx_iload_n (pc := 13) dX7_courseAt_13 rfl rfl ?_
    refine zx_ishr (pc := 14) dX7_courseAt_14 ?_
    refine zx_iconst (pc := 15) (v := 1) dX7_courseAt_15 (by decide) ?_
    refine zx_iand (pc := 16) dX7_courseAt_16 ?_
    exact zx_fi (pc := 17) dX7_courseAt_17 rfl rfl (Nat.le_refl _) (Nat.le_refl _) (by first | (simp only [zCa, h5, reduceIte, not_true_eq_false, not_false_eq_true]; done) | (simp [zCa, h5]; done)) rfl
  · refine zx_iconst (pc := 8) (v := 2) dX7_courseAt_8 (by decide) ?_
    refine zx_goto (pc := 9) (tgt := 17) dX7_courseAt_9 (by decide) ?_
    exact zx_fi (pc := 17) dX7_courseAt_17 rfl rfl (Nat.le_refl _) (Nat.le_refl _) (by first | (simp only [zCa, h5, reduceIte, not_true_eq_false, not_false_eq_true]; done) | (simp [zCa, h5]; done)) rfl
set_option maxHeartbeats 4000000 in
theorem k_bitCount {d : Nat} {x : Int32} {sg : List zCel}  : zCf yJ6_bitCount_0f7a4 cJ6_bitCount_0f7a4 1 (some .int) d [.int x] (sg) (some (.int (zBc x))) (sg) := by
  refine zC.intro (by decide) (Nat.le_of_ble_eq_true rfl) rfl ?_
  refine zx_iload_n (pc := 0) dJ6_bitCount_0f7a4_0 rfl rfl ?_
  refine zx_iload_n (pc := 1) dJ6_bitCount_0f7a4_1 rfl rfl ?_
  refine zx_iconst (pc := 2) (v := 1) dJ6_bitCount_0f7a4_2 (by decide) ?_
  refine zx_iushr (pc := 3) dJ6_bitCount_0f7a4_3 rfl ?_
  refine zx_ldcw (pc := 4) kl_J6_265 dJ6_bitCount_0f7a4_4 ?_
  refine zx_iand (pc := 7) dJ6_bitCount_0f7a4_7 ?_
  refine zx_isub (pc := 8) dJ6_bitCount_0f7a4_8 ?_
  refine st_0_1 (pc := 9) dJ6_bitCount_0f7a4_9 rfl ?_
  refine zx_iload_n (pc := 10) dJ6_bitCount_0f7a4_10 rfl rfl ?_
  refine zx_ldcw (pc := 11) kl_J6_266 dJ6_bitCount_0f7a4_11 ?_
  refine zx_iand (pc := 14) dJ6_bitCount_0f7a4_14 ?_
  refine zx_iload_n (pc := 15) dJ6_bitCount_0f7a4_15 rfl rfl ?_
  refine zx_iconst (pc := 16) (v := 2) dJ6_bitCount_0f7a4_16 (by decide) ?_
  refine zx_iushr (pc := 17) dJ6_bitCount_0f7a4_17 rfl ?_
  refine zx_ldcw (pc := 18) kl_J6_266 dJ6_bitCount_0f7a4_18 ?_
  refine zx_iand (pc := 21) dJ6_bitCount_0f7a4_21 ?_
  refine zx_iadd (pc := 22) dJ6_bitCount_0f7a4_22 ?_
  refine st_0_1 (pc := 23) dJ6_bitCount_0f7a4_23 rfl ?_
  refine zx_iload_n (pc := 24) dJ6_bitCount_0f7a4_24 rfl rfl ?_
  refine zx_iload_n (pc := 25) dJ6_bitCount_0f7a4_25 rfl rfl ?_
  refine zx_iconst (pc := 26) (v := 4) dJ6_bitCount_0f7a4_26 (by decide) ?_
  refine zx_iushr (pc := 27) dJ6_bitCount_0f7a4_27 rfl ?_
  refine zx_iadd (pc := 28) dJ6_bitCount_0f7a4_28 ?_
  refine zx_ldcw (pc := 29) kl_J6_267 dJ6_bitCount_0f7a4_29 ?_
  refine zx_iand (pc := 32) dJ6_bitCount_0f7a4_32 ?_
  refine st_0_1 (pc := 33) dJ6_bitCount_0f7a4_33 rfl ?_
  refine zx_iload_n (pc := 34) dJ6_bitCount_0f7a4_34 rfl rfl ?_
  refine zx_iload_n (pc := 35) dJ6_bitCount_0f7a4_35 rfl rfl ?_
  refine zx_bipush (pc := 36) (v := 8) dJ6_bitCount_0f7a4_36 (by decide) ?_
  refine zx_iushr (pc := 38) dJ6_bitCount_0f7a4_38 rfl ?_
  refine zx_iadd (pc := 39) dJ6_bitCount_0f7a4_39 ?_
  refine st_0_1 (pc := 40) dJ6_bitCount_0f7a4_40 rfl ?_
  refine zx_iload_n (pc := 41) dJ6_bitCount_0f7a4_41 rfl rfl ?_
  refine zx_iload_n (pc := 42) dJ6_bitCount_0f7a4_42 rfl rfl ?_
  refine zx_bipush (pc := 43) (v := 16) dJ6_bitCount_0f7a4_43 (by decide) ?_
  refine zx_iushr (pc := 45) dJ6_bitCount_0f7a4_45 rfl ?_
  refine zx_iadd (pc := 46) dJ6_bitCount_0f7a4_46 ?_
  refine st_0_1 (pc := 47) dJ6_bitCount_0f7a4_47 rfl ?_
  refine zx_iload_n (pc := 48) dJ6_bitCount_0f7a4_48 rfl rfl ?_
  refine zx_bipush (pc := 49) (v := 63) dJ6_bitCount_0f7a4_49 (by decide) ?_
  refine zx_iand (pc := 51) dJ6_bitCount_0f7a4_51 ?_
  exact zx_fi (pc := 52) dJ6_bitCount_0f7a4_52 rfl rfl (Nat.le_refl _) (Nat.le_refl _) rfl rfl
set_option maxHeartbeats 4000000 in
theorem k_letter {d : Nat} {k T : Nat} {tb : (Nat → Int32)} {gg : (Nat → Int32) × (Nat → Int32) × (Nat → Int32) × (Nat → Int32) × Int32 × Int32 × Int32} {nw : (Nat → Int32) × (Nat → Int32) × Int32 × Int32 × Int32 × Int32 × Int32 × Int32 × Int32} {tr : (Nat → Int32) × (Nat → Int32) × Int32 × Int32 × Int32 × Int32 × Int32 × Int32 × Int32} {wk : (Nat → Int32) × Int32 × Int32 × Int32} {pl : (Nat → Int32) × Int32 × Int32 × Int32 × Int32 × Int32} {ac : (Nat → zStt) × Int32 × Int32} {sl : (Nat → zStt) × (Nat → Int32)} {si : (Nat → Int32) × (Nat → Int32) × (Nat → Int32) × Int32} {sd : Int64} {tau : List zCel} (hT : T ≤ 40) (hk : k < 1000) : zCf yX6_letter cX6_letter 2 (some .int) d [.ref 1, .int (nI k)] (encC (tb, (nI T)) gg nw tr wk pl ac sl si sd ++ tau) (some (.int (zLt tb T k))) (encC (tb, (nI T)) gg nw tr wk pl ac sl si sd ++ tau) := by
  refine zC.intro (by decide) (Nat.le_of_ble_eq_true rfl) rfl ?_
  refine zx_iload_n (pc := 0) dX6_letter_0 rfl rfl ?_
  refine zx_if_lt (pc := 1) (tgt := 21) dX6_letter_1 (by decide) (fun h1 => by first | exact absurd h1 (show ¬ nI k < 0 from nI_pos (by omega)) | exact absurd (show ¬ nI k < 0 from nI_pos (by omega)) h1) (fun h1 => ?_)
  refine zx_iload_n (pc := 4) dX6_letter_4 rfl rfl ?_
  refine zx_aload_n (pc := 5) dX6_letter_5 rfl rfl ?_
  refine g1_1 (pc := 6) fl_X6_15 dX6_letter_6 ?_
  refine zx_icmp_ge (pc := 9) (tgt := 21) dX6_letter_9 (by decide) (fun h9 => ?_) (fun h9 => ?_)
  · refine zx_iconst (pc := 21) (v := 0) dX6_letter_21 (by decide) ?_
    exact zx_fi (pc := 22) dX6_letter_22 rfl rfl (Nat.le_refl _) (Nat.le_refl _) (by first | rw [zLt, if_pos h8] | rw [zLt, if_neg (Nat.not_lt.mpr (zge h9 (by omega)))]) rfl
  · have h8 : k < T := znge h9 (by omega)
    refine zx_aload_n (pc := 12) dX6_letter_12 rfl rfl ?_
    refine g1_0 (pc := 13) fl_X6_9 dX6_letter_13 ?_
    refine zx_iload_n (pc := 16) dX6_letter_16 rfl rfl ?_
    refine a2 (pc := 17) (zix_n (by omega)) dX6_letter_17 ?_
    refine zx_goto (pc := 18) (tgt := 22) dX6_letter_18 (by decide) ?_
    exact zx_fi (pc := 22) dX6_letter_22 rfl rfl (Nat.le_refl _) (Nat.le_refl _) (by first | rw [zLt, if_pos h8] | rw [zLt, if_neg (Nat.not_lt.mpr (zge h9 (by omega)))]) rfl
set_option maxHeartbeats 4000000 in
theorem k_figure {d : Nat} {k T : Nat} {tb : (Nat → Int32)} {gg : (Nat → Int32) × (Nat → Int32) × (Nat → Int32) × (Nat → Int32) × Int32 × Int32 × Int32} {nw : (Nat → Int32) × (Nat → Int32) × Int32 × Int32 × Int32 × Int32 × Int32 × Int32 × Int32} {tr : (Nat → Int32) × (Nat → Int32) × Int32 × Int32 × Int32 × Int32 × Int32 × Int32 × Int32} {wk : (Nat → Int32) × Int32 × Int32 × Int32} {pl : (Nat → Int32) × Int32 × Int32 × Int32 × Int32 × Int32} {ac : (Nat → zStt) × Int32 × Int32} {sl : (Nat → zStt) × (Nat → Int32)} {si : (Nat → Int32) × (Nat → Int32) × (Nat → Int32) × Int32} {sd : Int64} {tau : List zCel} (hT : T ≤ 40) (hk : k < 1000) : zCf yX6_figure cX6_figure 2 (some .int) (d + 1) [.ref 1, .int (nI k)] (encC (tb, (nI T)) gg nw tr wk pl ac sl si sd ++ tau) (some (.int (zLt tb T k - 48))) (encC (tb, (nI T)) gg nw tr wk pl ac sl si sd ++ tau) := by
  refine zC.intro (by decide) (Nat.le_of_ble_eq_true rfl) rfl ?_
  refine zx_aload_n (pc := 0) dX6_figure_0 rfl rfl ?_
  refine zx_iload_n (pc := 1) dX6_figure_1 rfl rfl ?_
  refine zx_fV1 (pc := 2) (k_letter (d := d) hT hk) cl_X6_23 p1 rfl dX6_figure_2 rfl rfl (by omega) (Nat.le_of_ble_eq_true rfl) (Nat.le_refl _) (Nat.le_refl _) ?_
  refine zx_bipush (pc := 5) (v := 48) dX6_figure_5 (by decide) ?_
  refine zx_isub (pc := 7) dX6_figure_7 ?_
  exact zx_fi (pc := 8) dX6_figure_8 rfl rfl (Nat.le_refl _) (Nat.le_refl _) rfl rfl
set_option maxHeartbeats 4000000 in
theorem k_isFigure {d : Nat} {k T : Nat} {lo hi : Int32} {tb : (Nat → Int32)} {gg : (Nat → Int32) × (Nat → Int32) × (Nat → Int32) × (Nat → Int32) × Int32 × Int32 × Int32} {nw : (Nat → Int32) × (Nat → Int32) × Int32 × Int32 × Int32 × Int32 × Int32 × Int32 × Int32} {tr : (Nat → Int32) × (Nat → Int32) × Int32 × Int32 × Int32 × Int32 × Int32 × Int32 × Int32} {wk : (Nat → Int32) × Int32 × Int32 × Int32} {pl : (Nat → Int32) × Int32 × Int32 × Int32 × Int32 × Int32} {ac : (Nat → zStt) × Int32 × Int32} {sl : (Nat → zStt) × (Nat → Int32)} {si : (Nat → Int32) × (Nat → Int32) × (Nat → Int32) × Int32} {sd : Int64} {tau : List zCel} (hT : T ≤ 40) (hk : k < 1000) : zCf yX6_isFigure cX6_isFigure 4 (some .boolean) (d + 2) [.ref 1, .int (nI k), .int lo, .int hi] (encC (tb, (nI T)) gg nw tr wk pl ac sl si sd ++ tau) (some (.int (zIn (zLt tb T k - 48) lo hi))) (encC (tb, (nI T)) gg nw tr wk pl ac sl si sd ++ tau) := by
  refine zC.intro (by decide) (Nat.le_of_ble_eq_true rfl) rfl ?_
  refine zx_aload_n (pc := 0) dX6_isFigure_0 rfl rfl ?_
  refine zx_iload_n (pc := 1) dX6_isFigure_1 rfl rfl ?_
  refine zx_fV1 (pc := 2) (k_figure (d := d) hT hk) cl_X6_38 p1 rfl dX6_isFigure_2 rfl rfl (by omega) (Nat.le_of_ble_eq_true rfl) (Nat.le_refl _) (Nat.le_refl _) ?_
  refine zx_iload_n (pc := 5) dX6_isFigure_5 rfl rfl ?_
  refine zx_icmp_lt (pc := 6) (tgt := 22) dX6_isFigure_6 (by decide) (fun h6 => ?_) (fun h6 => ?_)
  · refine zx_iconst (pc := 22) (v := 0) dX6_isFigure_22 (by decide) ?_
    exact zx_fi (pc := 23) dX6_isFigure_23 rfl (by decide) (Nat.le_refl _) (Nat.le_refl _) (by first | (simp only [zIn, h6, reduceIte, not_true_eq_false, not_false_eq_true]; done) | (simp [zIn, h6]; done)) rfl
  · refine zx_aload_n (pc := 9) dX6_isFigure_9 rfl rfl ?_
    refine zx_iload_n (pc := 10) dX6_isFigure_10 rfl rfl ?_
    refine zx_fV1 (pc := 11) (k_figure (d := d) hT hk) cl_X6_38 p1 rfl dX6_isFigure_11 rfl rfl (by omega) (Nat.le_of_ble_eq_true rfl) (Nat.le_refl _) (Nat.le_refl _) ?_
    refine zx_iload_n (pc := 14) dX6_isFigure_14 rfl rfl ?_
    refine zx_icmp_gt (pc := 15) (tgt := 22) dX6_isFigure_15 (by decide) (fun h15 => ?_) (fun h15 => ?_)
    · refine zx_iconst (pc := 22) (v := 0) dX6_isFigure_22 (by decide) ?_
      exact zx_fi (pc := 23) dX6_isFigure_23 rfl (by decide) (Nat.le_refl _) (Nat.le_refl _) (by first | (simp only [zIn, h6, h15, reduceIte, not_true_eq_false, not_false_eq_true]; done) | (simp [zIn, h6, h15]; done)) rfl
    · refine zx_iconst (pc := 18) (v := 1) dX6_isFigure_18 (by decide) ?_
      refine zx_goto (pc := 19) (tgt := 23) dX6_isFigure_19 (by decide) ?_
      exact zx_fi (pc := 23) dX6_isFigure_23 rfl (by decide) (Nat.le_refl _) (Nat.le_refl _) (by first | (simp only [zIn, h6, h15, reduceIte, not_true_eq_false, not_false_eq_true]; done) | (simp [zIn, h6, h15]; done)) rfl
set_option maxHeartbeats 4000000 in
theorem lp_partsBefore {d n0 q T : Nat} {c : Int32} {tb : (Nat → Int32)} {gg : (Nat → Int32) × (Nat → Int32) × (Nat → Int32) × (Nat → Int32) × Int32 × Int32 × Int32} {nw : (Nat → Int32) × (Nat → Int32) × Int32 × Int32 × Int32 × Int32 × Int32 × Int32 × Int32} {tr : (Nat → Int32) × (Nat → Int32) × Int32 × Int32 × Int32 × Int32 × Int32 × Int32 × Int32} {wk : (Nat → Int32) × Int32 × Int32 × Int32} {pl : (Nat → Int32) × Int32 × Int32 × Int32 × Int32 × Int32} {ac : (Nat → zStt) × Int32 × Int32} {sl : (Nat → zStt) × (Nat → Int32)} {si : (Nat → Int32) × (Nat → Int32) × (Nat → Int32) × Int32} {sd : Int64} {tau : List zCel} (hT : T ≤ 40) (hq : 2 + 3 * q ≤ T) : ∀ k i : Nat, i + k = q → zX RX6 cX6_partsBefore 5 (some .int) "partsBefore" none (d + 1) n0 0 0 0 0 (fun r s => r = some (.int (nI (zCn tb c q))) ∧ s = encC (tb, (nI T)) gg nw tr wk pl ac sl si sd ++ tau) 5 [some (.ref 1), some (.int (nI (2 + 3 * q))), some (.int c), some (.int (nI (zCn tb c i))), some (.int (nI (2 + 3 * i)))] [] (encC (tb, (nI T)) gg nw tr wk pl ac sl si sd ++ tau) := by
  intro k
  induction k with
  | zero =>
    intro i hi
    obtain rfl : i = q := by omega
    refine zx_iload (pc := 5) dX6_partsBefore_5 rfl ?_
    refine zx_iload_n (pc := 7) dX6_partsBefore_7 rfl rfl ?_
    refine zx_icmp_ge (pc := 8) (tgt := 30) dX6_partsBefore_8 (by decide) (fun h8 => ?_) (fun h8 => by first | exact absurd h8 (show nI (2 + 3 * i) ≤ nI (2 + 3 * i) from Int32.le_refl _) | exact absurd (show nI (2 + 3 * i) ≤ nI (2 + 3 * i) from Int32.le_refl _) h8)
    refine zx_iload_n (pc := 30) dX6_partsBefore_30 rfl rfl ?_
    exact zx_fi (pc := 31) dX6_partsBefore_31 rfl rfl (Nat.le_refl _) (Nat.le_refl _) rfl rfl
  | succ k ih =>
    intro i hi
    have e0 : zLt tb T (2 + 3 * i) = tb (2 + 3 * i) := if_pos (by omega)
    have e1 : nI (2 + 3 * i) + 3 = nI (2 + 3 * (i + 1)) := nI_add (2 + 3 * i) 3
    refine zx_iload (pc := 5) dX6_partsBefore_5 rfl ?_
    refine zx_iload_n (pc := 7) dX6_partsBefore_7 rfl rfl ?_
    refine zx_icmp_ge (pc := 8) (tgt := 30) dX6_partsBefore_8 (by decide) (fun h8 => by first | exact absurd h8 (nI_ge (show 2 + 3 * i < 2 + 3 * q by omega) (by omega)) | exact absurd (nI_ge (show 2 + 3 * i < 2 + 3 * q by omega) (by omega)) h8) (fun h8 => ?_)
    refine zx_aload_n (pc := 11) dX6_partsBefore_11 rfl rfl ?_
    refine zx_iload (pc := 12) dX6_partsBefore_12 rfl ?_
    refine zx_fV1 (pc := 14) (k_letter (d := d) hT (by omega)) cl_X6_23 p1 rfl dX6_partsBefore_14 rfl rfl (by omega) (Nat.le_of_ble_eq_true rfl) (Nat.le_refl _) (Nat.le_refl _) ?_
    refine zx_iload_n (pc := 17) dX6_partsBefore_17 rfl rfl ?_
    refine zx_icmp_ne (pc := 18) (tgt := 24) dX6_partsBefore_18 (by decide) (fun h18 => ?_) (fun h18 => ?_)
    · refine ic_4_5_3 (pc := 24) dX6_partsBefore_24 rfl ?_
      refine zx_goto (pc := 27) (tgt := 5) dX6_partsBefore_27 (by decide) ?_
      have hs := ih (i + 1) (by omega)
      rw [e0] at h18
      first | simp only [zCn, h18, reduceIte, ← nI_1] at hs | simp only [zCn, h18, reduceIte] at hs
      rw [← e1] at hs
      exact hs
    · refine ic_3_5_1 (pc := 21) dX6_partsBefore_21 rfl ?_
      refine ic_4_5_3 (pc := 24) dX6_partsBefore_24 rfl ?_
      refine zx_goto (pc := 27) (tgt := 5) dX6_partsBefore_27 (by decide) ?_
      have hs := ih (i + 1) (by omega)
      rw [e0] at h18
      first | simp only [zCn, h18, reduceIte, ← nI_1] at hs | simp only [zCn, h18, reduceIte] at hs
      rw [← e1] at hs
      exact hs
set_option maxHeartbeats 4000000 in
theorem k_partsBefore {d : Nat} {q T : Nat} {c : Int32} {tb : (Nat → Int32)} {gg : (Nat → Int32) × (Nat → Int32) × (Nat → Int32) × (Nat → Int32) × Int32 × Int32 × Int32} {nw : (Nat → Int32) × (Nat → Int32) × Int32 × Int32 × Int32 × Int32 × Int32 × Int32 × Int32} {tr : (Nat → Int32) × (Nat → Int32) × Int32 × Int32 × Int32 × Int32 × Int32 × Int32 × Int32} {wk : (Nat → Int32) × Int32 × Int32 × Int32} {pl : (Nat → Int32) × Int32 × Int32 × Int32 × Int32 × Int32} {ac : (Nat → zStt) × Int32 × Int32} {sl : (Nat → zStt) × (Nat → Int32)} {si : (Nat → Int32) × (Nat → Int32) × (Nat → Int32) × Int32} {sd : Int64} {tau : List zCel} (hT : T ≤ 40) (hq : 2 + 3 * q ≤ T) : zCf yX6_partsBefore cX6_partsBefore 5 (some .int) (d + 1) [.ref 1, .int (nI (2 + 3 * q)), .int c] (encC (tb, (nI T)) gg nw tr wk pl ac sl si sd ++ tau) (some (.int (nI (zCn tb c q)))) (encC (tb, (nI T)) gg nw tr wk pl ac sl si sd ++ tau) := by
  refine zC.intro (by decide) (Nat.le_of_ble_eq_true rfl) rfl ?_
  refine zx_iconst (pc := 0) (v := 0) dX6_partsBefore_0 (by decide) ?_
  refine st_3_5 (pc := 1) dX6_partsBefore_1 rfl ?_
  refine zx_iconst (pc := 2) (v := 2) dX6_partsBefore_2 (by decide) ?_
  refine st_4_5 (pc := 3) dX6_partsBefore_3 rfl ?_
  exact lp_partsBefore hT hq q 0 (by omega)
set_option maxHeartbeats 4000000 in
theorem k_beginsPart {d : Nat} {q T : Nat} {tb : (Nat → Int32)} {gg : (Nat → Int32) × (Nat → Int32) × (Nat → Int32) × (Nat → Int32) × Int32 × Int32 × Int32} {nw : (Nat → Int32) × (Nat → Int32) × Int32 × Int32 × Int32 × Int32 × Int32 × Int32 × Int32} {tr : (Nat → Int32) × (Nat → Int32) × Int32 × Int32 × Int32 × Int32 × Int32 × Int32 × Int32} {wk : (Nat → Int32) × Int32 × Int32 × Int32} {pl : (Nat → Int32) × Int32 × Int32 × Int32 × Int32 × Int32} {ac : (Nat → zStt) × Int32 × Int32} {sl : (Nat → zStt) × (Nat → Int32)} {si : (Nat → Int32) × (Nat → Int32) × (Nat → Int32) × Int32} {sd : Int64} {tau : List zCel} (hT : T ≤ 40) (hq : 2 + 3 * q < T) : zCf yX6_beginsPart cX6_beginsPart 2 (some .boolean) (d + 2) [.ref 1, .int (nI (2 + 3 * q))] (encC (tb, (nI T)) gg nw tr wk pl ac sl si sd ++ tau) (some (.int (zBp tb q))) (encC (tb, (nI T)) gg nw tr wk pl ac sl si sd ++ tau) := by
  have e0 : zLt tb T (2 + 3 * q) = tb (2 + 3 * q) := if_pos hq
  refine zC.intro (by decide) (Nat.le_of_ble_eq_true rfl) rfl ?_
  refine zx_aload_n (pc := 0) dX6_beginsPart_0 rfl rfl ?_
  refine zx_iload_n (pc := 1) dX6_beginsPart_1 rfl rfl ?_
  refine zx_fV1 (pc := 2) (k_letter (d := d + 1) hT (by omega)) cl_X6_23 p1 rfl dX6_beginsPart_2 rfl rfl (by omega) (Nat.le_of_ble_eq_true rfl) (Nat.le_refl _) (Nat.le_refl _) ?_
  refine zx_bipush (pc := 5) (v := 72) dX6_beginsPart_5 (by decide) ?_
  refine zx_icmp_ne (pc := 7) (tgt := 27) dX6_beginsPart_7 (by decide) (fun h7 => ?_) (fun h7 => ?_)
  · refine zx_aload_n (pc := 27) dX6_beginsPart_27 rfl rfl ?_
    refine zx_iload_n (pc := 28) dX6_beginsPart_28 rfl rfl ?_
    refine zx_fV1 (pc := 29) (k_letter (d := d + 1) hT (by omega)) cl_X6_23 p1 rfl dX6_beginsPart_29 rfl rfl (by omega) (Nat.le_of_ble_eq_true rfl) (Nat.le_refl _) (Nat.le_refl _) ?_
    refine zx_bipush (pc := 32) (v := 70) dX6_beginsPart_32 (by decide) ?_
    refine zx_icmp_ne (pc := 34) (tgt := 52) dX6_beginsPart_34 (by decide) (fun h34 => ?_) (fun h34 => ?_)
    · refine zx_iconst (pc := 52) (v := 0) dX6_beginsPart_52 (by decide) ?_
      exact zx_fi (pc := 53) dX6_beginsPart_53 rfl (by decide) (Nat.le_refl _) (Nat.le_refl _) (by first | (simp only [zBp, ← e0, h7, h34, reduceIte, not_true_eq_false, not_false_eq_true]; done) | (simp [zBp, ← e0, h7, h34]; done)) rfl
    · refine zx_aload_n (pc := 37) dX6_beginsPart_37 rfl rfl ?_
      refine zx_iload_n (pc := 38) dX6_beginsPart_38 rfl rfl ?_
      refine zx_bipush (pc := 39) (v := 70) dX6_beginsPart_39 (by decide) ?_
      refine zx_fV1 (pc := 41) (k_partsBefore (d := d) hT (by omega)) cl_X6_34 p1 rfl dX6_beginsPart_41 rfl rfl (by omega) (Nat.le_of_ble_eq_true rfl) (Nat.le_refl _) (Nat.le_refl _) ?_
      refine zx_iconst (pc := 44) (v := 3) dX6_beginsPart_44 (by decide) ?_
      refine zx_icmp_ge (pc := 45) (tgt := 52) dX6_beginsPart_45 (by decide) (fun h45 => ?_) (fun h45 => ?_)
      · refine zx_iconst (pc := 52) (v := 0) dX6_beginsPart_52 (by decide) ?_
        exact zx_fi (pc := 53) dX6_beginsPart_53 rfl (by decide) (Nat.le_refl _) (Nat.le_refl _) (by first | (simp only [zBp, ← e0, h7, h34, h45, reduceIte, not_true_eq_false, not_false_eq_true]; done) | (simp [zBp, ← e0, h7, h34, h45]; done)) rfl
      · refine zx_iconst (pc := 48) (v := 1) dX6_beginsPart_48 (by decide) ?_
        refine zx_goto (pc := 49) (tgt := 53) dX6_beginsPart_49 (by decide) ?_
        exact zx_fi (pc := 53) dX6_beginsPart_53 rfl (by decide) (Nat.le_refl _) (Nat.le_refl _) (by first | (simp only [zBp, ← e0, h7, h34, h45, reduceIte, not_true_eq_false, not_false_eq_true]; done) | (simp [zBp, ← e0, h7, h34, h45]; done)) rfl
  · refine zx_aload_n (pc := 10) dX6_beginsPart_10 rfl rfl ?_
    refine zx_iload_n (pc := 11) dX6_beginsPart_11 rfl rfl ?_
    refine zx_bipush (pc := 12) (v := 72) dX6_beginsPart_12 (by decide) ?_
    refine zx_fV1 (pc := 14) (k_partsBefore (d := d) hT (by omega)) cl_X6_34 p1 rfl dX6_beginsPart_14 rfl rfl (by omega) (Nat.le_of_ble_eq_true rfl) (Nat.le_refl _) (Nat.le_refl _) ?_
    refine zx_iconst (pc := 17) (v := 5) dX6_beginsPart_17 (by decide) ?_
    refine zx_icmp_ge (pc := 18) (tgt := 25) dX6_beginsPart_18 (by decide) (fun h18 => ?_) (fun h18 => ?_)
    · refine zx_iconst (pc := 25) (v := 0) dX6_beginsPart_25 (by decide) ?_
      exact zx_fi (pc := 26) dX6_beginsPart_26 rfl (by decide) (Nat.le_refl _) (Nat.le_refl _) (by first | (simp only [zBp, ← e0, h7, h18, reduceIte, not_true_eq_false, not_false_eq_true]; done) | (simp [zBp, ← e0, h7, h18]; done)) rfl
    · refine zx_iconst (pc := 21) (v := 1) dX6_beginsPart_21 (by decide) ?_
      refine zx_goto (pc := 22) (tgt := 26) dX6_beginsPart_22 (by decide) ?_
      exact zx_fi (pc := 26) dX6_beginsPart_26 rfl (by decide) (Nat.le_refl _) (Nat.le_refl _) (by first | (simp only [zBp, ← e0, h7, h18, reduceIte, not_true_eq_false, not_false_eq_true]; done) | (simp [zBp, ← e0, h7, h18]; done)) rfl
theorem sw_X6_fits_39 {scr : Option (Nat × (Nat → Int32))} {d n0 mc ms kc ks : Nat} {Q : Option Value → List zCel → Prop} {L : List (Option Value)} {st : List Value} {sg : List zCel} {x : Int32} (k0 : x = 0 → zX RX6 cX6_fits 2 (some .boolean) "fits" scr d n0 mc ms kc ks Q 64 L st sg) (k1 : x = 1 → zX RX6 cX6_fits 2 (some .boolean) "fits" scr d n0 mc ms kc ks Q 70 L st sg) (kd : ¬ x = 0 → ¬ x = 1 → zX RX6 cX6_fits 2 (some .boolean) "fits" scr d n0 mc ms kc ks Q 100 L st sg) : zX RX6 cX6_fits 2 (some .boolean) "fits" scr d n0 mc ms kc ks Q 39 L (.int x :: st) sg := by
  by_cases c0 : x = 0
  · exact zx_lookup (off := 25) (tgt := 64) dX6_fits_39 (by decide) (by rw [c0]; decide) (by decide) (k0 c0)
  by_cases c1 : x = 1
  · exact zx_lookup (off := 31) (tgt := 70) dX6_fits_39 (by decide) (by rw [c1]; decide) (by decide) (k1 c1)
  exact zx_lookup (off := 61) (tgt := 100) dX6_fits_39 (by decide) (by rw [lv_osw c0 (by decide), lv_osw c1 (by decide)]; rfl) (by decide) (kd c0 c1)
set_option maxHeartbeats 4000000 in
theorem k_fits {d : Nat} {k T : Nat} {tb : (Nat → Int32)} {gg : (Nat → Int32) × (Nat → Int32) × (Nat → Int32) × (Nat → Int32) × Int32 × Int32 × Int32} {nw : (Nat → Int32) × (Nat → Int32) × Int32 × Int32 × Int32 × Int32 × Int32 × Int32 × Int32} {tr : (Nat → Int32) × (Nat → Int32) × Int32 × Int32 × Int32 × Int32 × Int32 × Int32 × Int32} {wk : (Nat → Int32) × Int32 × Int32 × Int32} {pl : (Nat → Int32) × Int32 × Int32 × Int32 × Int32 × Int32} {ac : (Nat → zStt) × Int32 × Int32} {sl : (Nat → zStt) × (Nat → Int32)} {si : (Nat → Int32) × (Nat → Int32) × (Nat → Int32) × Int32} {sd : Int64} {tau : List zCel} (hT : T ≤ 40) (hk : k < T) : zCf yX6_fits cX6_fits 2 (some .boolean) (d + 3) [.ref 1, .int (nI k)] (encC (tb, (nI T)) gg nw tr wk pl ac sl si sd ++ tau) (some (.int (zFt tb k))) (encC (tb, (nI T)) gg nw tr wk pl ac sl si sd ++ tau) := by
  refine zC.intro (by decide) (Nat.le_of_ble_eq_true rfl) rfl ?_
  refine zx_iload_n (pc := 0) dX6_fits_0 rfl rfl ?_
  refine zx_if_ne (pc := 1) (tgt := 20) dX6_fits_1 (by decide) (fun h1 => ?_) (fun h1 => ?_)
  · refine zx_iload_n (pc := 20) dX6_fits_20 rfl rfl ?_
    refine zx_iconst (pc := 21) (v := 1) dX6_fits_21 (by decide) ?_
    refine zx_icmp_ne (pc := 22) (tgt := 34) dX6_fits_22 (by decide) (fun h22 => ?_) (fun h22 => ?_)
    · have h2k : 2 ≤ k := by
        have g0 : k ≠ 0 := fun e => h1 (by rw [e]; rfl)
        have g1 : k ≠ 1 := fun e => h22 (by rw [e]; rfl)
        omega
      refine zx_iload_n (pc := 34) dX6_fits_34 rfl rfl ?_
      refine zx_iconst (pc := 35) (v := 2) dX6_fits_35 (by decide) ?_
      refine zx_isub (pc := 36) dX6_fits_36 ?_
      refine zx_iconst (pc := 37) (v := 3) dX6_fits_37 (by decide) ?_
      refine zx_irem (pc := 38) dX6_fits_38 (by decide) ?_
      refine sw_X6_fits_39 (fun h39_0 => ?_) (fun h39_1 => ?_) (fun h39_0 h39_1 => ?_)
      · have g3 := zm3e (m := 0) h2k (by omega) (by omega) h39_0
        obtain ⟨q, rfl⟩ : ∃ q, k = 2 + 3 * q := ⟨(k - 2) / 3, by omega⟩
        refine zx_aload_n (pc := 64) dX6_fits_64 rfl rfl ?_
        refine zx_iload_n (pc := 65) dX6_fits_65 rfl rfl ?_
        refine zx_fV1 (pc := 66) (k_beginsPart (d := d) (q := q) hT (by omega)) cl_X6_31 p1 rfl dX6_fits_66 rfl rfl (by omega) (Nat.le_of_ble_eq_true rfl) (Nat.le_refl _) (Nat.le_refl _) ?_
        exact zx_fi (pc := 69) dX6_fits_69 rfl (znar (zBp_01 _ _)) (Nat.le_refl _) (Nat.le_refl _) (by rw [zFt_b]) rfl
      · have g3 := zm3e (m := 1) h2k (by omega) (by omega) h39_1
        obtain ⟨q, rfl⟩ : ∃ q, k = 3 + 3 * q := ⟨(k - 2) / 3, by omega⟩
        have e0 : zLt tb T (2 + 3 * q) = tb (2 + 3 * q) := if_pos (by omega)
        have e1 : zLt tb T (3 + 3 * q) = tb (3 + 3 * q) := if_pos (by omega)
        refine zx_aload_n (pc := 70) dX6_fits_70 rfl rfl ?_
        refine zx_iload_n (pc := 71) dX6_fits_71 rfl rfl ?_
        refine zx_iconst (pc := 72) (v := 1) dX6_fits_72 (by decide) ?_
        refine zx_isub (pc := 73) dX6_fits_73 ?_
        refine zx_st (st' := [.int (nI (2 + 3 * q)), .ref 1]) (by rw [show (1 : Int32) = nI 1 from rfl, pk_sub (by omega), show 3 + 3 * q - 1 = 2 + 3 * q by omega]) ?_
        refine zx_fV1 (pc := 74) (k_letter (d := d + 2) (k := 2 + 3 * q) hT (by omega)) cl_X6_23 p1 rfl dX6_fits_74 rfl rfl (by omega) (Nat.le_of_ble_eq_true rfl) (Nat.le_refl _) (Nat.le_refl _) ?_
        refine zx_bipush (pc := 77) (v := 72) dX6_fits_77 (by decide) ?_
        refine zx_icmp_ne (pc := 79) (tgt := 92) dX6_fits_79 (by decide) (fun h79 => ?_) (fun h79 => ?_)
        · refine zx_aload_n (pc := 92) dX6_fits_92 rfl rfl ?_
          refine zx_iload_n (pc := 93) dX6_fits_93 rfl rfl ?_
          refine zx_iconst (pc := 94) (v := 0) dX6_fits_94 (by decide) ?_
          refine zx_iconst (pc := 95) (v := 3) dX6_fits_95 (by decide) ?_
          refine zx_fV1 (pc := 96) (k_isFigure (d := d) hT (by omega)) cl_X6_27 p1 rfl dX6_fits_96 rfl rfl (by omega) (Nat.le_of_ble_eq_true rfl) (Nat.le_refl _) (Nat.le_refl _) ?_
          exact zx_fi (pc := 99) dX6_fits_99 rfl (znar (zIn_01 _ _ _)) (Nat.le_refl _) (Nat.le_refl _) (by rw [zFt_c, e1]; rw [e0] at h79; simp [h79]) rfl
        · refine zx_aload_n (pc := 82) dX6_fits_82 rfl rfl ?_
          refine zx_iload_n (pc := 83) dX6_fits_83 rfl rfl ?_
          refine zx_iconst (pc := 84) (v := 1) dX6_fits_84 (by decide) ?_
          refine zx_iconst (pc := 85) (v := 4) dX6_fits_85 (by decide) ?_
          refine zx_fV1 (pc := 86) (k_isFigure (d := d) hT (by omega)) cl_X6_27 p1 rfl dX6_fits_86 rfl rfl (by omega) (Nat.le_of_ble_eq_true rfl) (Nat.le_refl _) (Nat.le_refl _) ?_
          refine zx_goto (pc := 89) (tgt := 99) dX6_fits_89 (by decide) ?_
          exact zx_fi (pc := 99) dX6_fits_99 rfl (znar (zIn_01 _ _ _)) (Nat.le_refl _) (Nat.le_refl _) (by rw [zFt_c, e1]; rw [e0] at h79; simp [h79]) rfl
      · have g3 := zm3n (m := 0) h2k (by omega) h39_0
        have g4 := zm3n (m := 1) h2k (by omega) h39_1
        obtain ⟨q, rfl⟩ : ∃ q, k = 4 + 3 * q := ⟨(k - 2) / 3, by omega⟩
        have e0 : zLt tb T (2 + 3 * q) = tb (2 + 3 * q) := if_pos (by omega)
        have e1 : zLt tb T (4 + 3 * q) = tb (4 + 3 * q) := if_pos (by omega)
        refine zx_aload_n (pc := 100) dX6_fits_100 rfl rfl ?_
        refine zx_iload_n (pc := 101) dX6_fits_101 rfl rfl ?_
        refine zx_iconst (pc := 102) (v := 2) dX6_fits_102 (by decide) ?_
        refine zx_isub (pc := 103) dX6_fits_103 ?_
        refine zx_st (st' := [.int (nI (2 + 3 * q)), .ref 1]) (by rw [show (2 : Int32) = nI 2 from rfl, pk_sub (by omega), show 4 + 3 * q - 2 = 2 + 3 * q by omega]) ?_
        refine zx_fV1 (pc := 104) (k_letter (d := d + 2) (k := 2 + 3 * q) hT (by omega)) cl_X6_23 p1 rfl dX6_fits_104 rfl rfl (by omega) (Nat.le_of_ble_eq_true rfl) (Nat.le_refl _) (Nat.le_refl _) ?_
        refine zx_bipush (pc := 107) (v := 72) dX6_fits_107 (by decide) ?_
        refine zx_icmp_ne (pc := 109) (tgt := 122) dX6_fits_109 (by decide) (fun h109 => ?_) (fun h109 => ?_)
        · refine zx_aload_n (pc := 122) dX6_fits_122 rfl rfl ?_
          refine zx_iload_n (pc := 123) dX6_fits_123 rfl rfl ?_
          refine zx_iconst (pc := 124) (v := 0) dX6_fits_124 (by decide) ?_
          refine zx_bipush (pc := 125) (v := 9) dX6_fits_125 (by decide) ?_
          refine zx_fV1 (pc := 127) (k_isFigure (d := d) hT (by omega)) cl_X6_27 p1 rfl dX6_fits_127 rfl rfl (by omega) (Nat.le_of_ble_eq_true rfl) (Nat.le_refl _) (Nat.le_refl _) ?_
          exact zx_fi (pc := 130) dX6_fits_130 rfl (znar (zIn_01 _ _ _)) (Nat.le_refl _) (Nat.le_refl _) (by rw [zFt_d, e1]; rw [e0] at h109; simp [h109]) rfl
        · refine zx_aload_n (pc := 112) dX6_fits_112 rfl rfl ?_
          refine zx_iload_n (pc := 113) dX6_fits_113 rfl rfl ?_
          refine zx_iconst (pc := 114) (v := 0) dX6_fits_114 (by decide) ?_
          refine zx_iconst (pc := 115) (v := 3) dX6_fits_115 (by decide) ?_
          refine zx_fV1 (pc := 116) (k_isFigure (d := d) hT (by omega)) cl_X6_27 p1 rfl dX6_fits_116 rfl rfl (by omega) (Nat.le_of_ble_eq_true rfl) (Nat.le_refl _) (Nat.le_refl _) ?_
          refine zx_goto (pc := 119) (tgt := 130) dX6_fits_119 (by decide) ?_
          exact zx_fi (pc := 130) dX6_fits_130 rfl (znar (zIn_01 _ _ _)) (Nat.le_refl _) (Nat.le_refl _) (by rw [zFt_d, e1]; rw [e0] at h109; simp [h109]) rfl
    · obtain rfl : k = 1 := (nI_eq (by omega) (by omega)).mp h22
      refine zx_aload_n (pc := 25) dX6_fits_25 rfl rfl ?_
      refine zx_iload_n (pc := 26) dX6_fits_26 rfl rfl ?_
      refine zx_iconst (pc := 27) (v := 0) dX6_fits_27 (by decide) ?_
      refine zx_bipush (pc := 28) (v := 9) dX6_fits_28 (by decide) ?_
      refine zx_fV1 (pc := 30) (k_isFigure (d := d) hT (by omega)) cl_X6_27 p1 rfl dX6_fits_30 rfl rfl (by omega) (Nat.le_of_ble_eq_true rfl) (Nat.le_refl _) (Nat.le_refl _) ?_
      exact zx_fi (pc := 33) dX6_fits_33 rfl (znar (zIn_01 _ _ _)) (Nat.le_refl _) (Nat.le_refl _) (by rw [zFt_1, show zLt tb T 1 = tb 1 from if_pos hk]) rfl
  · obtain rfl : k = 0 := (nI_eq (by omega) (by omega)).mp h1
    refine zx_aload_n (pc := 4) dX6_fits_4 rfl rfl ?_
    refine zx_iload_n (pc := 5) dX6_fits_5 rfl rfl ?_
    refine zx_fV1 (pc := 6) (k_letter (d := d + 2) hT (by omega)) cl_X6_23 p1 rfl dX6_fits_6 rfl rfl (by omega) (Nat.le_of_ble_eq_true rfl) (Nat.le_refl _) (Nat.le_refl _) ?_
    refine zx_bipush (pc := 9) (v := 66) dX6_fits_9 (by decide) ?_
    refine zx_icmp_ne (pc := 11) (tgt := 18) dX6_fits_11 (by decide) (fun h11 => ?_) (fun h11 => ?_)
    · refine zx_iconst (pc := 18) (v := 0) dX6_fits_18 (by decide) ?_
      exact zx_fi (pc := 19) dX6_fits_19 rfl (by decide) (Nat.le_refl _) (Nat.le_refl _) (by first | (simp only [zFt_0, show zLt tb T 0 = tb 0 from if_pos hk] at h11 ⊢; simp [h11]; done) | (rw [zFt_0]; rw [show zLt tb T 0 = tb 0 from if_pos hk] at h11; simp [h11])) rfl
    · refine zx_iconst (pc := 14) (v := 1) dX6_fits_14 (by decide) ?_
      refine zx_goto (pc := 15) (tgt := 19) dX6_fits_15 (by decide) ?_
      exact zx_fi (pc := 19) dX6_fits_19 rfl (by decide) (Nat.le_refl _) (Nat.le_refl _) (by first | (simp only [zFt_0, show zLt tb T 0 = tb 0 from if_pos hk] at h11 ⊢; simp [h11]; done) | (rw [zFt_0]; rw [show zLt tb T 0 = tb 0 from if_pos hk] at h11; simp [h11])) rfl
set_option maxHeartbeats 4000000 in
theorem lp_firstFault {d n0 T : Nat} {tb : (Nat → Int32)} {gg : (Nat → Int32) × (Nat → Int32) × (Nat → Int32) × (Nat → Int32) × Int32 × Int32 × Int32} {nw : (Nat → Int32) × (Nat → Int32) × Int32 × Int32 × Int32 × Int32 × Int32 × Int32 × Int32} {tr : (Nat → Int32) × (Nat → Int32) × Int32 × Int32 × Int32 × Int32 × Int32 × Int32 × Int32} {wk : (Nat → Int32) × Int32 × Int32 × Int32} {pl : (Nat → Int32) × Int32 × Int32 × Int32 × Int32 × Int32} {ac : (Nat → zStt) × Int32 × Int32} {sl : (Nat → zStt) × (Nat → Int32)} {si : (Nat → Int32) × (Nat → Int32) × (Nat → Int32) × Int32} {sd : Int64} {tau : List zCel} (hT : T ≤ 40) : ∀ k i : Nat, i + k = T → zFF tb T T = zFF tb T k → zX RX6 cX6_firstFault 2 (some .int) "firstFault" none (d + 4) n0 0 0 0 0 (fun r s => r = some (.int (zFF tb T T)) ∧ s = encC (tb, (nI T)) gg nw tr wk pl ac sl si sd ++ tau) 2 [some (.ref 1), some (.int (nI i))] [] (encC (tb, (nI T)) gg nw tr wk pl ac sl si sd ++ tau) := by
  intro k
  induction k with
  | zero =>
    intro i hi hv
    obtain rfl : i = T := by omega
    refine zx_iload_n (pc := 2) dX6_firstFault_2 rfl rfl ?_
    refine zx_aload_n (pc := 3) dX6_firstFault_3 rfl rfl ?_
    refine g1_1 (pc := 4) fl_X6_15 dX6_firstFault_4 ?_
    refine zx_icmp_ge (pc := 7) (tgt := 26) dX6_firstFault_7 (by decide) (fun h7 => ?_) (fun h7 => by first | exact absurd h7 (show nI i ≤ nI i from Int32.le_refl _) | exact absurd (show nI i ≤ nI i from Int32.le_refl _) h7)
    refine zx_aload_n (pc := 26) dX6_firstFault_26 rfl rfl ?_
    refine g1_1 (pc := 27) fl_X6_15 dX6_firstFault_27 ?_
    refine zx_iconst (pc := 30) (v := 2) dX6_firstFault_30 (by decide) ?_
    refine zx_icmp_lt (pc := 31) (tgt := 49) dX6_firstFault_31 (by decide) (fun h31 => ?_) (fun h31 => ?_)
    · refine zx_iconst (pc := 49) (v := 0) dX6_firstFault_49 (by decide) ?_
      refine st_1_2 (pc := 50) dX6_firstFault_50 rfl ?_
      refine zx_iload_n (pc := 51) dX6_firstFault_51 rfl rfl ?_
      refine zx_if_eq (pc := 52) (tgt := 60) dX6_firstFault_52 (by decide) (fun h52 => ?_) (fun h52 => by first | exact absurd h52 (show (0 : Int32) = 0 from rfl) | exact absurd (show (0 : Int32) = 0 from rfl) h52)
      refine zx_aload_n (pc := 60) dX6_firstFault_60 rfl rfl ?_
      refine g1_1 (pc := 61) fl_X6_15 dX6_firstFault_61 ?_
      exact zx_fi (pc := 64) dX6_firstFault_64 rfl rfl (Nat.le_refl _) (Nat.le_refl _) (by rw [hv, zFF, zWh, if_pos (show i < 2 from Nat.not_le.mp (fun q => absurd h31 (nI_nlt (a := i) (b := 2) q (by omega))))]) rfl
    · have g2 : 2 ≤ i := Nat.not_lt.mp (fun q => h31 (nI_lt (a := i) (b := 2) q (by decide)))
      refine zx_aload_n (pc := 34) dX6_firstFault_34 rfl rfl ?_
      refine g1_1 (pc := 35) fl_X6_15 dX6_firstFault_35 ?_
      refine zx_iconst (pc := 38) (v := 2) dX6_firstFault_38 (by decide) ?_
      refine zx_isub (pc := 39) dX6_firstFault_39 ?_
      refine zx_iconst (pc := 40) (v := 3) dX6_firstFault_40 (by decide) ?_
      refine zx_irem (pc := 41) dX6_firstFault_41 (by decide) ?_
      refine zx_if_ne (pc := 42) (tgt := 49) dX6_firstFault_42 (by decide) (fun h42 => ?_) (fun h42 => ?_)
      · refine zx_iconst (pc := 49) (v := 0) dX6_firstFault_49 (by decide) ?_
        refine st_1_2 (pc := 50) dX6_firstFault_50 rfl ?_
        refine zx_iload_n (pc := 51) dX6_firstFault_51 rfl rfl ?_
        refine zx_if_eq (pc := 52) (tgt := 60) dX6_firstFault_52 (by decide) (fun h52 => ?_) (fun h52 => by first | exact absurd h52 (show (0 : Int32) = 0 from rfl) | exact absurd (show (0 : Int32) = 0 from rfl) h52)
        refine zx_aload_n (pc := 60) dX6_firstFault_60 rfl rfl ?_
        refine g1_1 (pc := 61) fl_X6_15 dX6_firstFault_61 ?_
        exact zx_fi (pc := 64) dX6_firstFault_64 rfl rfl (Nat.le_refl _) (Nat.le_refl _) (by rw [hv, zFF, zWh, if_neg (by omega)]; first | rw [if_pos (zm3e (m := 0) g2 (by omega) (by omega) h42)] | rw [if_neg (zm3n (m := 0) g2 (by omega) h42)]) rfl
      · refine zx_iconst (pc := 45) (v := 1) dX6_firstFault_45 (by decide) ?_
        refine zx_goto (pc := 46) (tgt := 50) dX6_firstFault_46 (by decide) ?_
        refine st_1_2 (pc := 50) dX6_firstFault_50 rfl ?_
        refine zx_iload_n (pc := 51) dX6_firstFault_51 rfl rfl ?_
        refine zx_if_eq (pc := 52) (tgt := 60) dX6_firstFault_52 (by decide) (fun h52 => by first | exact absurd h52 (show ¬ (1 : Int32) = 0 by decide) | exact absurd (show ¬ (1 : Int32) = 0 by decide) h52) (fun h52 => ?_)
        refine zx_bipush (pc := 55) (v := -9) dX6_firstFault_55 (by decide) ?_
        refine zx_goto (pc := 57) (tgt := 64) dX6_firstFault_57 (by decide) ?_
        exact zx_fi (pc := 64) dX6_firstFault_64 rfl rfl (Nat.le_refl _) (Nat.le_refl _) (by rw [hv, zFF, zWh, if_neg (by omega)]; first | rw [if_pos (zm3e (m := 0) g2 (by omega) (by omega) h42)] | rw [if_neg (zm3n (m := 0) g2 (by omega) h42)]) rfl
  | succ k ih =>
    intro i hi hv
    have e0 : T - (k + 1) = i := by omega
    refine zx_iload_n (pc := 2) dX6_firstFault_2 rfl rfl ?_
    refine zx_aload_n (pc := 3) dX6_firstFault_3 rfl rfl ?_
    refine g1_1 (pc := 4) fl_X6_15 dX6_firstFault_4 ?_
    refine zx_icmp_ge (pc := 7) (tgt := 26) dX6_firstFault_7 (by decide) (fun h7 => by first | exact absurd h7 (nI_ge (show i < T by omega) (by omega)) | exact absurd (nI_ge (show i < T by omega) (by omega)) h7) (fun h7 => ?_)
    refine zx_aload_n (pc := 10) dX6_firstFault_10 rfl rfl ?_
    refine zx_iload_n (pc := 11) dX6_firstFault_11 rfl rfl ?_
    refine zx_fV1 (pc := 12) (k_fits (d := d) hT (by omega)) cl_X6_19 p1 rfl dX6_firstFault_12 rfl rfl (by omega) (Nat.le_of_ble_eq_true rfl) (Nat.le_refl _) (Nat.le_refl _) ?_
    refine zx_if_ne (pc := 15) (tgt := 20) dX6_firstFault_15 (by decide) (fun h15 => ?_) (fun h15 => ?_)
    · refine ic_1_2_1 (pc := 20) dX6_firstFault_20 rfl ?_
      refine zx_goto (pc := 23) (tgt := 2) dX6_firstFault_23 (by decide) ?_
      have hs := ih (i + 1) (by omega) (by rw [hv, zFF, e0, if_neg h15])
      rw [← nI_1] at hs
      exact hs
    · refine zx_iload_n (pc := 18) dX6_firstFault_18 rfl rfl ?_
      exact zx_fi (pc := 19) dX6_firstFault_19 rfl rfl (Nat.le_refl _) (Nat.le_refl _) (by rw [hv, zFF, e0, if_pos h15]) rfl
set_option maxHeartbeats 4000000 in
theorem k_firstFault {d : Nat} {T : Nat} {tb : (Nat → Int32)} {gg : (Nat → Int32) × (Nat → Int32) × (Nat → Int32) × (Nat → Int32) × Int32 × Int32 × Int32} {nw : (Nat → Int32) × (Nat → Int32) × Int32 × Int32 × Int32 × Int32 × Int32 × Int32 × Int32} {tr : (Nat → Int32) × (Nat → Int32) × Int32 × Int32 × Int32 × Int32 × Int32 × Int32 × Int32} {wk : (Nat → Int32) × Int32 × Int32 × Int32} {pl : (Nat → Int32) × Int32 × Int32 × Int32 × Int32 × Int32} {ac : (Nat → zStt) × Int32 × Int32} {sl : (Nat → zStt) × (Nat → Int32)} {si : (Nat → Int32) × (Nat → Int32) × (Nat → Int32) × Int32} {sd : Int64} {tau : List zCel} (hT : T ≤ 40) : zCf yX6_firstFault cX6_firstFault 2 (some .int) (d + 4) [.ref 1] (encC (tb, (nI T)) gg nw tr wk pl ac sl si sd ++ tau) (some (.int (zFF tb T T))) (encC (tb, (nI T)) gg nw tr wk pl ac sl si sd ++ tau) := by
  refine zC.intro (by decide) (Nat.le_of_ble_eq_true rfl) rfl ?_
  refine zx_iconst (pc := 0) (v := 0) dX6_firstFault_0 (by decide) ?_
  refine st_1_2 (pc := 1) dX6_firstFault_1 rfl ?_
  exact lp_firstFault hT T 0 (by omega) rfl
set_option maxHeartbeats 4000000 in
theorem k_append_y {d : Nat} {T : Nat} {x : Int32} {tb : (Nat → Int32)} {gg : (Nat → Int32) × (Nat → Int32) × (Nat → Int32) × (Nat → Int32) × Int32 × Int32 × Int32} {nw : (Nat → Int32) × (Nat → Int32) × Int32 × Int32 × Int32 × Int32 × Int32 × Int32 × Int32} {tr : (Nat → Int32) × (Nat → Int32) × Int32 × Int32 × Int32 × Int32 × Int32 × Int32 × Int32} {wk : (Nat → Int32) × Int32 × Int32 × Int32} {pl : (Nat → Int32) × Int32 × Int32 × Int32 × Int32 × Int32} {ac : (Nat → zStt) × Int32 × Int32} {sl : (Nat → zStt) × (Nat → Int32)} {si : (Nat → Int32) × (Nat → Int32) × (Nat → Int32) × Int32} {sd : Int64} {tau : List zCel} (hT : T < 40) : zCf yX6_append cX6_append 2 (some .boolean) d [.ref 1, .int x] (encC (tb, (nI T)) gg nw tr wk pl ac sl si sd ++ tau) (some (.int (1))) (encC ((upd tb T x), (nI (T + 1))) gg nw tr wk pl ac sl si sd ++ tau) := by
  refine zC.intro (by decide) (Nat.le_of_ble_eq_true rfl) rfl ?_
  refine zx_aload_n (pc := 0) dX6_append_0 rfl rfl ?_
  refine g1_1 (pc := 1) fl_X6_15 dX6_append_1 ?_
  refine zx_bipush (pc := 4) (v := 40) dX6_append_4 (by decide) ?_
  refine zx_icmp_lt (pc := 6) (tgt := 11) dX6_append_6 (by decide) (fun h6 => ?_) (fun h6 => by first | exact absurd h6 (show nI T < 40 from nI_lt (a := T) (b := 40) hT (by decide)) | exact absurd (show nI T < 40 from nI_lt (a := T) (b := 40) hT (by decide)) h6)
  refine zx_aload_n (pc := 11) dX6_append_11 rfl rfl ?_
  refine g1_0 (pc := 12) fl_X6_9 dX6_append_12 ?_
  refine zx_aload_n (pc := 15) dX6_append_15 rfl rfl ?_
  refine g1_1 (pc := 16) fl_X6_15 dX6_append_16 ?_
  refine zx_iload_n (pc := 19) dX6_append_19 rfl rfl ?_
  refine s2 (pc := 20) (zix_n (by omega)) dX6_append_20 ?_
  refine zx_aload_n (pc := 21) dX6_append_21 rfl rfl ?_
  refine zx_dup (pc := 22) dX6_append_22 rfl ?_
  refine g1_1 (pc := 23) fl_X6_15 dX6_append_23 ?_
  refine zx_iconst (pc := 26) (v := 1) dX6_append_26 (by decide) ?_
  refine zx_iadd (pc := 27) dX6_append_27 ?_
  refine u1_1 (pc := 28) fl_X6_15 dX6_append_28 ?_
  refine zx_iconst (pc := 31) (v := 1) dX6_append_31 (by decide) ?_
  exact zx_fi (pc := 32) dX6_append_32 rfl (by decide) (Nat.le_refl _) (Nat.le_refl _) rfl (by rw [nI_1])
set_option maxHeartbeats 4000000 in
theorem k_append_n {d : Nat} {x : Int32} {tb : (Nat → Int32)} {gg : (Nat → Int32) × (Nat → Int32) × (Nat → Int32) × (Nat → Int32) × Int32 × Int32 × Int32} {nw : (Nat → Int32) × (Nat → Int32) × Int32 × Int32 × Int32 × Int32 × Int32 × Int32 × Int32} {tr : (Nat → Int32) × (Nat → Int32) × Int32 × Int32 × Int32 × Int32 × Int32 × Int32 × Int32} {wk : (Nat → Int32) × Int32 × Int32 × Int32} {pl : (Nat → Int32) × Int32 × Int32 × Int32 × Int32 × Int32} {ac : (Nat → zStt) × Int32 × Int32} {sl : (Nat → zStt) × (Nat → Int32)} {si : (Nat → Int32) × (Nat → Int32) × (Nat → Int32) × Int32} {sd : Int64} {tau : List zCel}  : zCf yX6_append cX6_append 2 (some .boolean) d [.ref 1, .int x] (encC (tb, (nI 40)) gg nw tr wk pl ac sl si sd ++ tau) (some (.int (0))) (encC (tb, (nI 40)) gg nw tr wk pl ac sl si sd ++ tau) := by
  refine zC.intro (by decide) (Nat.le_of_ble_eq_true rfl) rfl ?_
  refine zx_aload_n (pc := 0) dX6_append_0 rfl rfl ?_
  refine g1_1 (pc := 1) fl_X6_15 dX6_append_1 ?_
  refine zx_bipush (pc := 4) (v := 40) dX6_append_4 (by decide) ?_
  refine zx_icmp_lt (pc := 6) (tgt := 11) dX6_append_6 (by decide) (fun h6 => by first | exact absurd h6 (show ¬ nI 40 < 40 by decide) | exact absurd (show ¬ nI 40 < 40 by decide) h6) (fun h6 => ?_)
  refine zx_iconst (pc := 9) (v := 0) dX6_append_9 (by decide) ?_
  exact zx_fi (pc := 10) dX6_append_10 rfl (by decide) (Nat.le_refl _) (Nat.le_refl _) rfl rfl
