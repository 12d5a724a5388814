set_option maxHeartbeats 4000000 in
theorem q_see_bad {d : Nat} {x y z : Int32} {tx : (Nat → Int32) × Int32} {gg : (Nat → Int32) × (Nat → Int32) × (Nat → Int32) × (Nat → Int32) × Int32 × Int32 × Int32} {nw : (Nat → Int32) × (Nat → Int32) × Int32 × Int32 × Int32 × Int32 × Int32 × Int32 × Int32} {tr : (Nat → Int32) × (Nat → Int32) × Int32 × Int32 × Int32 × Int32 × Int32 × Int32 × Int32} {wk : (Nat → Int32) × Int32 × Int32 × Int32} {pl : (Nat → Int32) × Int32 × Int32 × Int32 × Int32 × Int32} {ac : (Nat → zStt) × Int32 × Int32} {sl : (Nat → zStt) × (Nat → Int32)} {si : (Nat → Int32) × (Nat → Int32) × (Nat → Int32) × Int32} {sd : Int64} {tau : List zCel} (hb : ¬ (¬ zIR x = 0 ∧ ¬ y < 0 ∧ ¬ 8 ≤ y ∧ ¬ z < 0 ∧ z ≤ 2)) : zCf yX9_see cX9_see 4 (some .int) (d + 1) [.ref 0, .int x, .int y, .int z] (encC tx gg nw tr wk pl ac sl si sd ++ tau) (some (.int (-2))) (encC tx gg nw tr wk pl ac sl si sd ++ tau) := by
  refine zC.intro (by decide) (Nat.le_of_ble_eq_true rfl) rfl ?_
  refine zx_iload_n (pc := 0) dX9_see_0 rfl rfl ?_
  refine zx_fS1 (pc := 1) (k_isRains (d := d) ) cl_X9_220 dX9_see_1 rfl rfl (by omega) (Nat.le_of_ble_eq_true rfl) (Nat.le_refl _) (Nat.le_refl _) ?_
  refine zx_if_eq (pc := 4) (tgt := 26) dX9_see_4 (by decide) (fun h4 => ?_) (fun h4 => ?_)
  · refine zx_bipush (pc := 26) (v := -2) dX9_see_26 (by decide) ?_
    exact zx_fi (pc := 28) dX9_see_28 rfl rfl (Nat.le_refl _) (Nat.le_refl _) rfl rfl
  · refine zx_iload_n (pc := 7) dX9_see_7 rfl rfl ?_
    refine zx_if_lt (pc := 8) (tgt := 26) dX9_see_8 (by decide) (fun h8 => ?_) (fun h8 => ?_)
    · refine zx_bipush (pc := 26) (v := -2) dX9_see_26 (by decide) ?_
      exact zx_fi (pc := 28) dX9_see_28 rfl rfl (Nat.le_refl _) (Nat.le_refl _) rfl rfl
    · refine zx_iload_n (pc := 11) dX9_see_11 rfl rfl ?_
      refine zx_bipush (pc := 12) (v := 8) dX9_see_12 (by decide) ?_
      refine zx_icmp_ge (pc := 14) (tgt := 26) dX9_see_14 (by decide) (fun h14 => ?_) (fun h14 => ?_)
      · refine zx_bipush (pc := 26) (v := -2) dX9_see_26 (by decide) ?_
        exact zx_fi (pc := 28) dX9_see_28 rfl rfl (Nat.le_refl _) (Nat.le_refl _) rfl rfl
      · refine zx_iload_n (pc := 17) dX9_see_17 rfl rfl ?_
        refine zx_if_lt (pc := 18) (tgt := 26) dX9_see_18 (by decide) (fun h18 => ?_) (fun h18 => ?_)
        · refine zx_bipush (pc := 26) (v := -2) dX9_see_26 (by decide) ?_
          exact zx_fi (pc := 28) dX9_see_28 rfl rfl (Nat.le_refl _) (Nat.le_refl _) rfl rfl
        · refine zx_iload_n (pc := 21) dX9_see_21 rfl rfl ?_
          refine zx_iconst (pc := 22) (v := 2) dX9_see_22 (by decide) ?_
          refine zx_icmp_le (pc := 23) (tgt := 29) dX9_see_23 (by decide) (fun h23 => ?_) (fun h23 => ?_)
          · exact absurd (And.intro h4 (And.intro h8 (And.intro h14 (And.intro h18 h23)))) hb
          · refine zx_bipush (pc := 26) (v := -2) dX9_see_26 (by decide) ?_
            exact zx_fi (pc := 28) dX9_see_28 rfl rfl (Nat.le_refl _) (Nat.le_refl _) rfl rfl
set_option maxHeartbeats 4000000 in
theorem q_see_full {d : Nat} {x y z : Int32} {tx : (Nat → Int32) × Int32} {gg : (Nat → Int32) × (Nat → Int32) × (Nat → Int32) × (Nat → Int32) × Int32 × Int32 × Int32} {nw : (Nat → Int32) × (Nat → Int32) × Int32 × Int32 × Int32 × Int32 × Int32 × Int32 × Int32} {tr : (Nat → Int32) × (Nat → Int32) × Int32 × Int32 × Int32 × Int32 × Int32 × Int32 × Int32} {wk : (Nat → Int32) × Int32 × Int32 × Int32} {pl : (Nat → Int32) × Int32 × Int32 × Int32 × Int32 × Int32} {ac : (Nat → zStt) × Int32 × Int32} {sl : (Nat → zStt) × (Nat → Int32)} {sr : (Nat → Int32)} {so : (Nat → Int32)} {sh : (Nat → Int32)} {sd : Int64} {tau : List zCel} (ga : ¬ zIR x = 0) (gb : ¬ y < 0) (gc0 : ¬ 8 ≤ y) (gd0 : ¬ z < 0) (ge : z ≤ 2) : zCf yX9_see cX9_see 4 (some .int) (d + 1) [.ref 0, .int x, .int y, .int z] (encC tx gg nw tr wk pl ac sl (sr, so, sh, (nI 6)) sd ++ tau) (some (.int (-4))) (encC tx gg nw tr wk pl ac sl (sr, so, sh, (nI 6)) sd ++ tau) := by
  refine zC.intro (by decide) (Nat.le_of_ble_eq_true rfl) rfl ?_
  refine zx_iload_n (pc := 0) dX9_see_0 rfl rfl ?_
  refine zx_fS1 (pc := 1) (k_isRains (d := d) ) cl_X9_220 dX9_see_1 rfl rfl (by omega) (Nat.le_of_ble_eq_true rfl) (Nat.le_refl _) (Nat.le_refl _) ?_
  refine zx_if_eq (pc := 4) (tgt := 26) dX9_see_4 (by decide) (fun h4 => by first | exact absurd h4 ga | exact absurd ga h4) (fun h4 => ?_)
  refine zx_iload_n (pc := 7) dX9_see_7 rfl rfl ?_
  refine zx_if_lt (pc := 8) (tgt := 26) dX9_see_8 (by decide) (fun h8 => by first | exact absurd h8 gb | exact absurd gb h8) (fun h8 => ?_)
  refine zx_iload_n (pc := 11) dX9_see_11 rfl rfl ?_
  refine zx_bipush (pc := 12) (v := 8) dX9_see_12 (by decide) ?_
  refine zx_icmp_ge (pc := 14) (tgt := 26) dX9_see_14 (by decide) (fun h14 => by first | exact absurd h14 gc0 | exact absurd gc0 h14) (fun h14 => ?_)
  refine zx_iload_n (pc := 17) dX9_see_17 rfl rfl ?_
  refine zx_if_lt (pc := 18) (tgt := 26) dX9_see_18 (by decide) (fun h18 => by first | exact absurd h18 gd0 | exact absurd gd0 h18) (fun h18 => ?_)
  refine zx_iload_n (pc := 21) dX9_see_21 rfl rfl ?_
  refine zx_iconst (pc := 22) (v := 2) dX9_see_22 (by decide) ?_
  refine zx_icmp_le (pc := 23) (tgt := 29) dX9_see_23 (by decide) (fun h23 => ?_) (fun h23 => by first | exact absurd h23 ge | exact absurd ge h23)
  refine zx_aload_n (pc := 29) dX9_see_29 rfl rfl ?_
  refine g0_8 (pc := 30) fl_X9_64 dX9_see_30 ?_
  refine zx_iload_n (pc := 33) dX9_see_33 rfl rfl ?_
  refine zx_iload_n (pc := 34) dX9_see_34 rfl rfl ?_
  refine zx_iload_n (pc := 35) dX9_see_35 rfl rfl ?_
  refine zx_fV1 (pc := 36) (k_add_n (d := d) ) cl_X9_248 p71 rfl dX9_see_36 rfl rfl (by omega) (Nat.le_of_ble_eq_true rfl) (Nat.le_refl _) (Nat.le_refl _) ?_
  refine zx_if_eq (pc := 39) (tgt := 52) dX9_see_39 (by decide) (fun h39 => ?_) (fun h39 => by first | exact absurd h39 (show (0 : Int32) = 0 from rfl) | exact absurd (show (0 : Int32) = 0 from rfl) h39)
  refine zx_bipush (pc := 52) (v := -4) dX9_see_52 (by decide) ?_
  exact zx_fi (pc := 54) dX9_see_54 rfl rfl (Nat.le_refl _) (Nat.le_refl _) rfl rfl
set_option maxHeartbeats 4000000 in
theorem q_see_ok {d : Nat} {S : Nat} {x y z : Int32} {tx : (Nat → Int32) × Int32} {gg : (Nat → Int32) × (Nat → Int32) × (Nat → Int32) × (Nat → Int32) × Int32 × Int32 × Int32} {nw : (Nat → Int32) × (Nat → Int32) × Int32 × Int32 × Int32 × Int32 × Int32 × Int32 × Int32} {tr : (Nat → Int32) × (Nat → Int32) × Int32 × Int32 × Int32 × Int32 × Int32 × Int32 × Int32} {wk : (Nat → Int32) × Int32 × Int32 × Int32} {pl : (Nat → Int32) × Int32 × Int32 × Int32 × Int32 × Int32} {ac : (Nat → zStt) × Int32 × Int32} {sl : (Nat → zStt) × (Nat → Int32)} {sr : (Nat → Int32)} {so : (Nat → Int32)} {sh : (Nat → Int32)} {sd : Int64} {tau : List zCel} (ga : ¬ zIR x = 0) (gb : ¬ y < 0) (gc0 : ¬ 8 ≤ y) (gd0 : ¬ z < 0) (ge : z ≤ 2) (hS : S < 6) : zCf yX9_see cX9_see 4 (some .int) (d + 1) [.ref 0, .int x, .int y, .int z] (encC tx gg nw tr wk pl ac sl (sr, so, sh, (nI S)) sd ++ tau) (some (.int (nI (S + 1)))) (encC tx gg nw tr wk pl ac sl ((upd sr S x), (upd so S y), (upd sh S z), (nI (S + 1))) sd ++ tau) := by
  refine zC.intro (by decide) (Nat.le_of_ble_eq_true rfl) rfl ?_
  refine zx_iload_n (pc := 0) dX9_see_0 rfl rfl ?_
  refine zx_fS1 (pc := 1) (k_isRains (d := d) ) cl_X9_220 dX9_see_1 rfl rfl (by omega) (Nat.le_of_ble_eq_true rfl) (Nat.le_refl _) (Nat.le_refl _) ?_
  refine zx_if_eq (pc := 4) (tgt := 26) dX9_see_4 (by decide) (fun h4 => by first | exact absurd h4 ga | exact absurd ga h4) (fun h4 => ?_)
  refine zx_iload_n (pc := 7) dX9_see_7 rfl rfl ?_
  refine zx_if_lt (pc := 8) (tgt := 26) dX9_see_8 (by decide) (fun h8 => by first | exact absurd h8 gb | exact absurd gb h8) (fun h8 => ?_)
  refine zx_iload_n (pc := 11) dX9_see_11 rfl rfl ?_
  refine zx_bipush (pc := 12) (v := 8) dX9_see_12 (by decide) ?_
  refine zx_icmp_ge (pc := 14) (tgt := 26) dX9_see_14 (by decide) (fun h14 => by first | exact absurd h14 gc0 | exact absurd gc0 h14) (fun h14 => ?_)
  refine zx_iload_n (pc := 17) dX9_see_17 rfl rfl ?_
  refine zx_if_lt (pc := 18) (tgt := 26) dX9_see_18 (by decide) (fun h18 => by first | exact absurd h18 gd0 | exact absurd gd0 h18) (fun h18 => ?_)
  refine zx_iload_n (pc := 21) dX9_see_21 rfl rfl ?_
  refine zx_iconst (pc := 22) (v := 2) dX9_see_22 (by decide) ?_
  refine zx_icmp_le (pc := 23) (tgt := 29) dX9_see_23 (by decide) (fun h23 => ?_) (fun h23 => by first | exact absurd h23 ge | exact absurd ge h23)
  refine zx_aload_n (pc := 29) dX9_see_29 rfl rfl ?_
  refine g0_8 (pc := 30) fl_X9_64 dX9_see_30 ?_
  refine zx_iload_n (pc := 33) dX9_see_33 rfl rfl ?_
  refine zx_iload_n (pc := 34) dX9_see_34 rfl rfl ?_
  refine zx_iload_n (pc := 35) dX9_see_35 rfl rfl ?_
  refine zx_fV1 (pc := 36) (k_add_y (d := d) hS) cl_X9_248 p71 rfl dX9_see_36 rfl rfl (by omega) (Nat.le_of_ble_eq_true rfl) (Nat.le_refl _) (Nat.le_refl _) ?_
  refine zx_if_eq (pc := 39) (tgt := 52) dX9_see_39 (by decide) (fun h39 => by first | exact absurd h39 (show ¬ (1 : Int32) = 0 by decide) | exact absurd (show ¬ (1 : Int32) = 0 by decide) h39) (fun h39 => ?_)
  refine zx_aload_n (pc := 42) dX9_see_42 rfl rfl ?_
  refine g0_8 (pc := 43) fl_X9_64 dX9_see_43 ?_
  refine g71_3 (pc := 46) fl_X9_134 dX9_see_46 ?_
  refine zx_goto (pc := 49) (tgt := 54) dX9_see_49 (by decide) ?_
  exact zx_fi (pc := 54) dX9_see_54 rfl rfl (Nat.le_refl _) (Nat.le_refl _) rfl rfl
set_option maxHeartbeats 4000000 in
theorem q_unsee {d : Nat}  {tx : (Nat → Int32) × Int32} {gg : (Nat → Int32) × (Nat → Int32) × (Nat → Int32) × (Nat → Int32) × Int32 × Int32 × Int32} {nw : (Nat → Int32) × (Nat → Int32) × Int32 × Int32 × Int32 × Int32 × Int32 × Int32 × Int32} {tr : (Nat → Int32) × (Nat → Int32) × Int32 × Int32 × Int32 × Int32 × Int32 × Int32 × Int32} {wk : (Nat → Int32) × Int32 × Int32 × Int32} {pl : (Nat → Int32) × Int32 × Int32 × Int32 × Int32 × Int32} {ac : (Nat → zStt) × Int32 × Int32} {sl : (Nat → zStt) × (Nat → Int32)} {sr : (Nat → Int32)} {so : (Nat → Int32)} {sh : (Nat → Int32)} {sz : Int32} {sd : Int64} {tau : List zCel}  : zCf yX9_unsee cX9_unsee 2 (some .int) d [.ref 0] (encC tx gg nw tr wk pl ac sl (sr, so, sh, sz) sd ++ tau) (some (.int (sz))) (encC tx gg nw tr wk pl ac sl (sr, so, sh, 0) sd ++ tau) := by
  refine zC.intro (by decide) (Nat.le_of_ble_eq_true rfl) rfl ?_
  refine zx_aload_n (pc := 0) dX9_unsee_0 rfl rfl ?_
  refine g0_8 (pc := 1) fl_X9_64 dX9_unsee_1 ?_
  refine g71_3 (pc := 4) fl_X9_134 dX9_unsee_4 ?_
  refine st_1_2 (pc := 7) dX9_unsee_7 rfl ?_
  refine zx_aload_n (pc := 8) dX9_unsee_8 rfl rfl ?_
  refine g0_8 (pc := 9) fl_X9_64 dX9_unsee_9 ?_
  refine zx_iconst (pc := 12) (v := 0) dX9_unsee_12 (by decide) ?_
  refine u71_3 (pc := 13) fl_X9_134 dX9_unsee_13 ?_
  refine zx_iload_n (pc := 16) dX9_unsee_16 rfl rfl ?_
  exact zx_fi (pc := 17) dX9_unsee_17 rfl rfl (Nat.le_refl _) (Nat.le_refl _) rfl rfl
set_option maxHeartbeats 4000000 in
theorem lp_courses {d n0 N S : Nat} {y : Int32} {tx : (Nat → Int32) × Int32} {gg : (Nat → Int32) × (Nat → Int32) × (Nat → Int32) × (Nat → Int32) × Int32 × Int32 × Int32} {nw : (Nat → Int32) × (Nat → Int32) × Int32 × Int32 × Int32 × Int32 × Int32 × Int32 × Int32} {tr : (Nat → Int32) × (Nat → Int32) × Int32 × Int32 × Int32 × Int32 × Int32 × Int32 × Int32} {wk : (Nat → Int32) × Int32 × Int32 × Int32} {pl : (Nat → Int32) × Int32 × Int32 × Int32 × Int32 × Int32} {ac : (Nat → zStt) × Int32 × Int32} {sl : (Nat → zStt) × (Nat → Int32)} {sr : (Nat → Int32)} {so : (Nat → Int32)} {sh : (Nat → Int32)} {sd : Int64} {tau : List zCel} (hN : N ≤ 8) (hS : S ≤ 6) (hsr : ∀ i, i < S → ∃ R : Nat, R ≤ 3 ∧ sr i = nI R) : ∀ k i : Nat, i + k = 2 ^ N → zX RX9 cX9_courses 8 (some .int) "courses" none (d + 3) n0 0 0 0 0 (fun r s => r = some (.int (if y = 0 then (zCoR sr so sh S N (nI (2 ^ N - 1)) (2 ^ N)).1 else if (zCoR sr so sh S N (nI (2 ^ N - 1)) (2 ^ N)).1 = 0 then -9 else if y = 1 then (zCoR sr so sh S N (nI (2 ^ N - 1)) (2 ^ N)).2.1 else (zCoR sr so sh S N (nI (2 ^ N - 1)) (2 ^ N)).2.2)) ∧ s = encC tx gg nw tr wk pl ac sl (sr, so, sh, (nI S)) sd ++ tau) 37 [some (.ref 0), some (.int (nI N)), some (.int y), some (.int (nI (2 ^ N - 1))), some (.int (zCoR sr so sh S N (nI (2 ^ N - 1)) i).1), some (.int (zCoR sr so sh S N (nI (2 ^ N - 1)) i).2.1), some (.int (zCoR sr so sh S N (nI (2 ^ N - 1)) i).2.2), some (.int (nI i))] [] (encC tx gg nw tr wk pl ac sl (sr, so, sh, (nI S)) sd ++ tau) := by
  have hp : 2 ^ N ≤ 256 := Nat.le_trans (Nat.pow_le_pow_right (by decide) hN) (by decide)
  have hp0 : 1 ≤ 2 ^ N := Nat.one_le_two_pow
  intro k
  induction k with
  | zero =>
    intro i hi
    obtain rfl : i = 2 ^ N := by omega
    refine zx_iload (pc := 37) dX9_courses_37 rfl ?_
    refine zx_iload_n (pc := 39) dX9_courses_39 rfl rfl ?_
    refine zx_icmp_gt (pc := 40) (tgt := 84) dX9_courses_40 (by decide) (fun h40 => ?_) (fun h40 => by first | exact absurd h40 (show nI (2 ^ N - 1) < nI (2 ^ N) from nI_lt (by omega) (by omega)) | exact absurd (show nI (2 ^ N - 1) < nI (2 ^ N) from nI_lt (by omega) (by omega)) h40)
    refine zx_iload_n (pc := 84) dX9_courses_84 rfl rfl ?_
    refine zx_if_ne (pc := 85) (tgt := 91) dX9_courses_85 (by decide) (fun h85 => ?_) (fun h85 => ?_)
    · refine zx_iload (pc := 91) dX9_courses_91 rfl ?_
      refine zx_if_ne (pc := 93) (tgt := 99) dX9_courses_93 (by decide) (fun h93 => ?_) (fun h93 => ?_)
      · refine zx_iload_n (pc := 99) dX9_courses_99 rfl rfl ?_
        refine zx_iconst (pc := 100) (v := 1) dX9_courses_100 (by decide) ?_
        refine zx_icmp_ne (pc := 101) (tgt := 109) dX9_courses_101 (by decide) (fun h101 => ?_) (fun h101 => ?_)
        · refine zx_iload (pc := 109) dX9_courses_109 rfl ?_
          exact zx_fi (pc := 111) dX9_courses_111 rfl rfl (Nat.le_refl _) (Nat.le_refl _) (by simp [h85, h93, h101]) rfl
        · refine zx_iload (pc := 104) dX9_courses_104 rfl ?_
          refine zx_goto (pc := 106) (tgt := 111) dX9_courses_106 (by decide) ?_
          exact zx_fi (pc := 111) dX9_courses_111 rfl rfl (Nat.le_refl _) (Nat.le_refl _) (by simp [h85, h93, h101]) rfl
      · refine zx_bipush (pc := 96) (v := -9) dX9_courses_96 (by decide) ?_
        exact zx_fi (pc := 98) dX9_courses_98 rfl rfl (Nat.le_refl _) (Nat.le_refl _) (by simp [h85, h93]) rfl
    · refine zx_iload (pc := 88) dX9_courses_88 rfl ?_
      exact zx_fi (pc := 90) dX9_courses_90 rfl rfl (Nat.le_refl _) (Nat.le_refl _) (by simp [h85]) rfl
  | succ k ih =>
    intro i hi
    refine zx_iload (pc := 37) dX9_courses_37 rfl ?_
    refine zx_iload_n (pc := 39) dX9_courses_39 rfl rfl ?_
    refine zx_icmp_gt (pc := 40) (tgt := 84) dX9_courses_40 (by decide) (fun h40 => by first | exact absurd h40 (nI_nlt (show i ≤ 2 ^ N - 1 by omega) (by omega)) | exact absurd (nI_nlt (show i ≤ 2 ^ N - 1 by omega) (by omega)) h40) (fun h40 => ?_)
    refine zx_aload_n (pc := 43) dX9_courses_43 rfl rfl ?_
    refine g0_8 (pc := 44) fl_X9_64 dX9_courses_44 ?_
    refine zx_iload_n (pc := 47) dX9_courses_47 rfl rfl ?_
    refine zx_iload (pc := 48) dX9_courses_48 rfl ?_
    refine zx_fS1 (pc := 50) (k_of (d := d + 2) ) cl_X9_223 dX9_courses_50 rfl rfl (by omega) (Nat.le_of_ble_eq_true rfl) (Nat.le_refl _) (Nat.le_refl _) ?_
    refine zx_fV1 (pc := 53) (k_agree (d := d) hS hsr) cl_X9_252 p71 rfl dX9_courses_53 rfl rfl (by omega) (Nat.le_of_ble_eq_true rfl) (Nat.le_refl _) (Nat.le_refl _) ?_
    refine zx_if_eq (pc := 56) (tgt := 78) dX9_courses_56 (by decide) (fun h56 => ?_) (fun h56 => ?_)
    · refine ic_7_8_1 (pc := 78) dX9_courses_78 rfl ?_
      refine zx_goto (pc := 81) (tgt := 37) dX9_courses_81 (by decide) ?_
      have hs := ih (i + 1) (by omega)
      simp only [zCoR, zCo1, h56, reduceIte, ← nI_1] at hs
      exact hs
    · refine ic_4_8_1 (pc := 59) dX9_courses_59 rfl ?_
      refine zx_iload (pc := 62) dX9_courses_62 rfl ?_
      refine zx_iload (pc := 64) dX9_courses_64 rfl ?_
      refine zx_iand (pc := 66) dX9_courses_66 ?_
      refine st_5_8 (pc := 67) dX9_courses_67 rfl ?_
      refine zx_iload (pc := 69) dX9_courses_69 rfl ?_
      refine zx_iload (pc := 71) dX9_courses_71 rfl ?_
      refine zx_iconst (pc := 73) (v := -1) dX9_courses_73 (by decide) ?_
      refine zx_ixor (pc := 74) dX9_courses_74 ?_
      refine zx_iand (pc := 75) dX9_courses_75 ?_
      refine st_6_8 (pc := 76) dX9_courses_76 rfl ?_
      refine ic_7_8_1 (pc := 78) dX9_courses_78 rfl ?_
      refine zx_goto (pc := 81) (tgt := 37) dX9_courses_81 (by decide) ?_
      have hs := ih (i + 1) (by omega)
      simp only [zCoR, zCo1, h56, reduceIte, ← nI_1] at hs
      exact hs
set_option maxHeartbeats 4000000 in
theorem q_courses {d : Nat} {N S : Nat} {y : Int32} {tx : (Nat → Int32) × Int32} {gg : (Nat → Int32) × (Nat → Int32) × (Nat → Int32) × (Nat → Int32) × Int32 × Int32 × Int32} {nw : (Nat → Int32) × (Nat → Int32) × Int32 × Int32 × Int32 × Int32 × Int32 × Int32 × Int32} {tr : (Nat → Int32) × (Nat → Int32) × Int32 × Int32 × Int32 × Int32 × Int32 × Int32 × Int32} {wk : (Nat → Int32) × Int32 × Int32 × Int32} {pl : (Nat → Int32) × Int32 × Int32 × Int32 × Int32 × Int32} {ac : (Nat → zStt) × Int32 × Int32} {sl : (Nat → zStt) × (Nat → Int32)} {sr : (Nat → Int32)} {so : (Nat → Int32)} {sh : (Nat → Int32)} {sd : Int64} {tau : List zCel} (hN1 : 1 ≤ N) (hN : N ≤ 8) (hS : S ≤ 6) (hsr : ∀ i, i < S → ∃ R : Nat, R ≤ 3 ∧ sr i = nI R) (g0 : ¬ y < 0) (g1 : y ≤ 2) : zCf yX9_courses cX9_courses 8 (some .int) (d + 3) [.ref 0, .int (nI N), .int y] (encC tx gg nw tr wk pl ac sl (sr, so, sh, (nI S)) sd ++ tau) (some (.int (if y = 0 then (zCoR sr so sh S N (nI (2 ^ N - 1)) (2 ^ N)).1 else if (zCoR sr so sh S N (nI (2 ^ N - 1)) (2 ^ N)).1 = 0 then -9 else if y = 1 then (zCoR sr so sh S N (nI (2 ^ N - 1)) (2 ^ N)).2.1 else (zCoR sr so sh S N (nI (2 ^ N - 1)) (2 ^ N)).2.2))) (encC tx gg nw tr wk pl ac sl (sr, so, sh, (nI S)) sd ++ tau) := by
  refine zC.intro (by decide) (Nat.le_of_ble_eq_true rfl) rfl ?_
  refine zx_iload_n (pc := 0) dX9_courses_0 rfl rfl ?_
  refine zx_fS1 (pc := 1) (k_isWallHeight (d := d + 2) ) cl_X9_217 dX9_courses_1 rfl rfl (by omega) (Nat.le_of_ble_eq_true rfl) (Nat.le_refl _) (Nat.le_refl _) ?_
  refine zx_if_eq (pc := 4) (tgt := 16) dX9_courses_4 (by decide) (fun h4 => by first | exact absurd h4 (show ¬ zWH (nI N) = 0 from zWH_1 hN1 hN) | exact absurd (show ¬ zWH (nI N) = 0 from zWH_1 hN1 hN) h4) (fun h4 => ?_)
  refine zx_iload_n (pc := 7) dX9_courses_7 rfl rfl ?_
  refine zx_if_lt (pc := 8) (tgt := 16) dX9_courses_8 (by decide) (fun h8 => by first | exact absurd h8 g0 | exact absurd g0 h8) (fun h8 => ?_)
  refine zx_iload_n (pc := 11) dX9_courses_11 rfl rfl ?_
  refine zx_iconst (pc := 12) (v := 2) dX9_courses_12 (by decide) ?_
  refine zx_icmp_le (pc := 13) (tgt := 19) dX9_courses_13 (by decide) (fun h13 => ?_) (fun h13 => by first | exact absurd h13 g1 | exact absurd g1 h13)
  refine zx_iconst (pc := 19) (v := 1) dX9_courses_19 (by decide) ?_
  refine zx_iload_n (pc := 20) dX9_courses_20 rfl rfl ?_
  refine zx_ishl (pc := 21) dX9_courses_21 ?_
  refine zx_iconst (pc := 22) (v := 1) dX9_courses_22 (by decide) ?_
  refine zx_isub (pc := 23) dX9_courses_23 ?_
  rw [show (1 : Int32) <<< (nI N &&& 31) - 1 = nI (2 ^ N - 1) from by rw [zsh1 N hN, show (1 : Int32) = nI 1 from rfl, pk_sub Nat.one_le_two_pow]]
  refine st_3_8 (pc := 24) dX9_courses_24 rfl ?_
  refine zx_iconst (pc := 25) (v := 0) dX9_courses_25 (by decide) ?_
  refine st_4_8 (pc := 26) dX9_courses_26 rfl ?_
  refine zx_iload_n (pc := 28) dX9_courses_28 rfl rfl ?_
  refine st_5_8 (pc := 29) dX9_courses_29 rfl ?_
  refine zx_iload_n (pc := 31) dX9_courses_31 rfl rfl ?_
  refine st_6_8 (pc := 32) dX9_courses_32 rfl ?_
  refine zx_iconst (pc := 34) (v := 0) dX9_courses_34 (by decide) ?_
  refine st_7_8 (pc := 35) dX9_courses_35 rfl ?_
  exact lp_courses hN hS hsr (2 ^ N) 0 (by omega)
set_option maxHeartbeats 4000000 in
theorem q_courses_bad {d : Nat} {x y : Int32} {tx : (Nat → Int32) × Int32} {gg : (Nat → Int32) × (Nat → Int32) × (Nat → Int32) × (Nat → Int32) × Int32 × Int32 × Int32} {nw : (Nat → Int32) × (Nat → Int32) × Int32 × Int32 × Int32 × Int32 × Int32 × Int32 × Int32} {tr : (Nat → Int32) × (Nat → Int32) × Int32 × Int32 × Int32 × Int32 × Int32 × Int32 × Int32} {wk : (Nat → Int32) × Int32 × Int32 × Int32} {pl : (Nat → Int32) × Int32 × Int32 × Int32 × Int32 × Int32} {ac : (Nat → zStt) × Int32 × Int32} {sl : (Nat → zStt) × (Nat → Int32)} {si : (Nat → Int32) × (Nat → Int32) × (Nat → Int32) × Int32} {sd : Int64} {tau : List zCel} (hb : ¬ (¬ zWH x = 0 ∧ ¬ y < 0 ∧ y ≤ 2)) : zCf yX9_courses cX9_courses 8 (some .int) (d + 3) [.ref 0, .int x, .int y] (encC tx gg nw tr wk pl ac sl si sd ++ tau) (some (.int (-2))) (encC tx gg nw tr wk pl ac sl si sd ++ tau) := by
  refine zC.intro (by decide) (Nat.le_of_ble_eq_true rfl) rfl ?_
  refine zx_iload_n (pc := 0) dX9_courses_0 rfl rfl ?_
  refine zx_fS1 (pc := 1) (k_isWallHeight (d := d + 2) ) cl_X9_217 dX9_courses_1 rfl rfl (by omega) (Nat.le_of_ble_eq_true rfl) (Nat.le_refl _) (Nat.le_refl _) ?_
  refine zx_if_eq (pc := 4) (tgt := 16) dX9_courses_4 (by decide) (fun h4 => ?_) (fun h4 => ?_)
  · refine zx_bipush (pc := 16) (v := -2) dX9_courses_16 (by decide) ?_
    exact zx_fi (pc := 18) dX9_courses_18 rfl rfl (Nat.le_refl _) (Nat.le_refl _) rfl rfl
  · refine zx_iload_n (pc := 7) dX9_courses_7 rfl rfl ?_
    refine zx_if_lt (pc := 8) (tgt := 16) dX9_courses_8 (by decide) (fun h8 => ?_) (fun h8 => ?_)
    · refine zx_bipush (pc := 16) (v := -2) dX9_courses_16 (by decide) ?_
      exact zx_fi (pc := 18) dX9_courses_18 rfl rfl (Nat.le_refl _) (Nat.le_refl _) rfl rfl
    · refine zx_iload_n (pc := 11) dX9_courses_11 rfl rfl ?_
      refine zx_iconst (pc := 12) (v := 2) dX9_courses_12 (by decide) ?_
      refine zx_icmp_le (pc := 13) (tgt := 19) dX9_courses_13 (by decide) (fun h13 => ?_) (fun h13 => ?_)
      · exact absurd (And.intro h4 (And.intro h8 h13)) hb
      · refine zx_bipush (pc := 16) (v := -2) dX9_courses_16 (by decide) ?_
        exact zx_fi (pc := 18) dX9_courses_18 rfl rfl (Nat.le_refl _) (Nat.le_refl _) rfl rfl
set_option maxHeartbeats 4000000 in
theorem lp_restsI {d n0 M i : Nat} {y : Int32} {sg : List zCel} (hM : M ≤ 9) (hi : i < 10) (hx : ∀ j6 : Option Value, zX RX9 cX9_rests 7 (some .int) "rests" none (d + 4) n0 0 0 0 0 (fun r s => r = some (.int (if y = 0 then (zReO M 10).1 else (zReO M 10).2)) ∧ s = sg) 56 [some (.ref 0), some (.int y), some (.int (nI M)), some (.int (zReO M (i + 1)).1), some (.int (zReO M (i + 1)).2), some (.int (nI (i + 1))), j6] [] sg) : ∀ k j : Nat, j + k = M + 1 → zX RX9 cX9_rests 7 (some .int) "rests" none (d + 4) n0 0 0 0 0 (fun r s => r = some (.int (if y = 0 then (zReO M 10).1 else (zReO M 10).2)) ∧ s = sg) 66 [some (.ref 0), some (.int y), some (.int (nI M)), some (.int (zReI M i (zReO M i) j).1), some (.int (zReI M i (zReO M i) j).2), some (.int (nI i)), some (.int (nI j))] [] sg := by
  intro k
  induction k with
  | zero =>
    intro j hj
    obtain rfl : j = M + 1 := by omega
    refine zx_iload (pc := 66) dX9_rests_66 rfl ?_
    refine zx_iload_n (pc := 68) dX9_rests_68 rfl rfl ?_
    refine zx_icmp_gt (pc := 69) (tgt := 124) dX9_rests_69 (by decide) (fun h69 => ?_) (fun h69 => by first | exact absurd h69 (show nI M < nI (M + 1) from nI_lt (by omega) (by omega)) | exact absurd (show nI M < nI (M + 1) from nI_lt (by omega) (by omega)) h69)
    refine ic_5_7_1 (pc := 124) dX9_rests_124 rfl ?_
    refine zx_goto (pc := 127) (tgt := 56) dX9_rests_127 (by decide) ?_
    rw [nI_1]
    exact hx _
  | succ k ih =>
    intro j hj
    refine zx_iload (pc := 66) dX9_rests_66 rfl ?_
    refine zx_iload_n (pc := 68) dX9_rests_68 rfl rfl ?_
    refine zx_icmp_gt (pc := 69) (tgt := 124) dX9_rests_69 (by decide) (fun h69 => by first | exact absurd h69 (nI_nlt (show j ≤ M by omega) (by omega)) | exact absurd (nI_nlt (show j ≤ M by omega) (by omega)) h69) (fun h69 => ?_)
    refine zx_iload (pc := 72) dX9_rests_72 rfl ?_
    refine zx_iload (pc := 74) dX9_rests_74 rfl ?_
    refine zx_fS1 (pc := 76) (k_overseerRests (d := d + 1) ) cl_X9_260 dX9_rests_76 rfl rfl (by omega) (Nat.le_of_ble_eq_true rfl) (Nat.le_refl _) (Nat.le_refl _) ?_
    refine zx_if_eq (pc := 79) (tgt := 118) dX9_rests_79 (by decide) (fun h79 => ?_) (fun h79 => ?_)
    · refine ic_6_7_1 (pc := 118) dX9_rests_118 rfl ?_
      refine zx_goto (pc := 121) (tgt := 66) dX9_rests_121 (by decide) ?_
      have hs := ih (j + 1) (by omega)
      simp only [zReI, zRe1, h79, reduceIte, ← nI_1] at hs
      exact hs
    · refine zx_iload (pc := 82) dX9_rests_82 rfl ?_
      refine zx_iload (pc := 84) dX9_rests_84 rfl ?_
      refine zx_iload_n (pc := 86) dX9_rests_86 rfl rfl ?_
      refine zx_fS1 (pc := 87) (k_foremanRests (d := d + 1) hM) cl_X9_264 dX9_rests_87 rfl rfl (by omega) (Nat.le_of_ble_eq_true rfl) (Nat.le_refl _) (Nat.le_refl _) ?_
      refine zx_if_eq (pc := 90) (tgt := 118) dX9_rests_90 (by decide) (fun h90 => ?_) (fun h90 => ?_)
      · refine ic_6_7_1 (pc := 118) dX9_rests_118 rfl ?_
        refine zx_goto (pc := 121) (tgt := 66) dX9_rests_121 (by decide) ?_
        have hs := ih (j + 1) (by omega)
        simp only [zReI, zRe1, h79, h90, reduceIte, ← nI_1] at hs
        exact hs
      · refine ic_3_7_1 (pc := 93) dX9_rests_93 rfl ?_
        refine zx_iload (pc := 96) dX9_rests_96 rfl ?_
        refine zx_bipush (pc := 98) (v := -9) dX9_rests_98 (by decide) ?_
        refine zx_icmp_ne (pc := 100) (tgt := 114) dX9_rests_100 (by decide) (fun h100 => ?_) (fun h100 => ?_)
        · refine zx_iload (pc := 114) dX9_rests_114 rfl ?_
          refine st_4_7 (pc := 116) dX9_rests_116 rfl ?_
          refine ic_6_7_1 (pc := 118) dX9_rests_118 rfl ?_
          refine zx_goto (pc := 121) (tgt := 66) dX9_rests_121 (by decide) ?_
          have hs := ih (j + 1) (by omega)
          simp only [zReI, zRe1, h79, h90, h100, reduceIte, ← nI_1] at hs
          exact hs
        · refine zx_bipush (pc := 103) (v := 10) dX9_rests_103 (by decide) ?_
          refine zx_iload (pc := 105) dX9_rests_105 rfl ?_
          refine zx_imul (pc := 107) dX9_rests_107 ?_
          refine zx_iload (pc := 108) dX9_rests_108 rfl ?_
          refine zx_iadd (pc := 110) dX9_rests_110 ?_
          refine zx_goto (pc := 111) (tgt := 116) dX9_rests_111 (by decide) ?_
          refine st_4_7 (pc := 116) dX9_rests_116 rfl ?_
          refine ic_6_7_1 (pc := 118) dX9_rests_118 rfl ?_
          refine zx_goto (pc := 121) (tgt := 66) dX9_rests_121 (by decide) ?_
          have hs := ih (j + 1) (by omega)
          simp only [zReI, zRe1, h79, h90, h100, reduceIte, ← nI_1] at hs
          exact hs
set_option maxHeartbeats 4000000 in
theorem lp_restsO {d n0 M : Nat} {y : Int32} {sg : List zCel} (hM : M ≤ 9) : ∀ k i : Nat, i + k = 10 → ∀ j6 : Option Value, zX RX9 cX9_rests 7 (some .int) "rests" none (d + 4) n0 0 0 0 0 (fun r s => r = some (.int (if y = 0 then (zReO M 10).1 else (zReO M 10).2)) ∧ s = sg) 56 [some (.ref 0), some (.int y), some (.int (nI M)), some (.int (zReO M i).1), some (.int (zReO M i).2), some (.int (nI i)), j6] [] sg := by
  intro k
  induction k with
  | zero =>
    intro i hi j6
    obtain rfl : i = 10 := by omega
    refine zx_iload (pc := 56) dX9_rests_56 rfl ?_
    refine zx_bipush (pc := 58) (v := 9) dX9_rests_58 (by decide) ?_
    refine zx_icmp_gt (pc := 60) (tgt := 130) dX9_rests_60 (by decide) (fun h60 => ?_) (fun h60 => by first | exact absurd h60 (show (9 : Int32) < nI 10 by decide) | exact absurd (show (9 : Int32) < nI 10 by decide) h60)
    refine zx_iload_n (pc := 130) dX9_rests_130 rfl rfl ?_
    refine zx_if_ne (pc := 131) (tgt := 138) dX9_rests_131 (by decide) (fun h131 => ?_) (fun h131 => ?_)
    · refine zx_iload (pc := 138) dX9_rests_138 rfl ?_
      exact zx_fi (pc := 140) dX9_rests_140 rfl rfl (Nat.le_refl _) (Nat.le_refl _) (by simp [h131]) rfl
    · refine zx_iload_n (pc := 134) dX9_rests_134 rfl rfl ?_
      refine zx_goto (pc := 135) (tgt := 140) dX9_rests_135 (by decide) ?_
      exact zx_fi (pc := 140) dX9_rests_140 rfl rfl (Nat.le_refl _) (Nat.le_refl _) (by simp [h131]) rfl
  | succ k ih =>
    intro i hi j6
    refine zx_iload (pc := 56) dX9_rests_56 rfl ?_
    refine zx_bipush (pc := 58) (v := 9) dX9_rests_58 (by decide) ?_
    refine zx_icmp_gt (pc := 60) (tgt := 130) dX9_rests_60 (by decide) (fun h60 => by first | exact absurd h60 (show ¬ (9 : Int32) < nI i from nI_nlt (a := 9) (b := i) (by omega) (by decide)) | exact absurd (show ¬ (9 : Int32) < nI i from nI_nlt (a := 9) (b := i) (by omega) (by decide)) h60) (fun h60 => ?_)
    refine zx_iconst (pc := 63) (v := 0) dX9_rests_63 (by decide) ?_
    refine st_6_7 (pc := 64) dX9_rests_64 rfl ?_
    exact lp_restsI hM (by omega) (fun j6 => ih (i + 1) (by omega) j6) (M + 1) 0 (by omega)
set_option maxHeartbeats 4000000 in
theorem q_rests {d : Nat} {H F M : Nat} {y : Int32} {tx : (Nat → Int32) × Int32} {gs : (Nat → Int32)} {gk : (Nat → Int32)} {gf : (Nat → Int32)} {ga : (Nat → Int32)} {gc : Int32} {nt : (Nat → Int32)} {ns : (Nat → Int32)} {n2 : Int32} {n3 : Int32} {n4 : Int32} {n5 : Int32} {n6 : Int32} {n7 : Int32} {n8 : Int32} {tr : (Nat → Int32) × (Nat → Int32) × Int32 × Int32 × Int32 × Int32 × Int32 × Int32 × Int32} {ws : (Nat → Int32)} {w1 : Int32} {w2 : Int32} {w3 : Int32} {pl : (Nat → Int32) × Int32 × Int32 × Int32 × Int32 × Int32} {ac : (Nat → zStt) × Int32 × Int32} {sl : (Nat → zStt) × (Nat → Int32)} {si : (Nat → Int32) × (Nat → Int32) × (Nat → Int32) × Int32} {sd : Int64} {tau : List zCel} (hH : H ≤ 5) (hF : F ≤ 3) (g0 : ¬ y < 0) (g1 : y ≤ 1) (hM : M ≤ 9) (hm : (if (9 : Int32) < (zDay gs gk gf (nI F) H nt (va_cpy ns ws 0 0 3) n2).2.2.1 then (9 : Int32) else (zDay gs gk gf (nI F) H nt (va_cpy ns ws 0 0 3) n2).2.2.1) = nI M) : zCf yX9_rests cX9_rests 7 (some .int) (d + 4) [.ref 0, .int y] (encC tx (gs, gk, gf, ga, (nI H), (nI F), gc) (nt, ns, n2, n3, n4, n5, n6, n7, n8) tr (ws, w1, w2, w3) pl ac sl si sd ++ tau) (some (.int (if y = 0 then (zReO M 10).1 else (zReO M 10).2))) (encC tx (gs, gk, gf, ga, (nI H), (nI F), gc) (nt, ns, n2, n3, n4, n5, n6, n7, n8) tr (zDay gs gk gf (nI F) H nt (va_cpy ns ws 0 0 3) n2) pl ac sl si sd ++ tau) := by
  refine zC.intro (by decide) (Nat.le_of_ble_eq_true rfl) rfl ?_
  refine zx_iload_n (pc := 0) dX9_rests_0 rfl rfl ?_
  refine zx_if_lt (pc := 1) (tgt := 9) dX9_rests_1 (by decide) (fun h1 => by first | exact absurd h1 g0 | exact absurd g0 h1) (fun h1 => ?_)
  refine zx_iload_n (pc := 4) dX9_rests_4 rfl rfl ?_
  refine zx_iconst (pc := 5) (v := 1) dX9_rests_5 (by decide) ?_
  refine zx_icmp_le (pc := 6) (tgt := 12) dX9_rests_6 (by decide) (fun h6 => ?_) (fun h6 => by first | exact absurd h6 g1 | exact absurd g1 h6)
  refine zx_aload_n (pc := 12) dX9_rests_12 rfl rfl ?_
  refine g0_4 (pc := 13) fl_X9_36 dX9_rests_13 ?_
  refine zx_aload_n (pc := 16) dX9_rests_16 rfl rfl ?_
  refine g0_1 (pc := 17) fl_X9_19 dX9_rests_17 ?_
  refine zx_aload_n (pc := 20) dX9_rests_20 rfl rfl ?_
  refine g0_2 (pc := 21) fl_X9_26 dX9_rests_21 ?_
  refine zx_aload_n (pc := 24) dX9_rests_24 rfl rfl ?_
  refine g0_2 (pc := 25) fl_X9_26 dX9_rests_25 ?_
  refine g8_0 (pc := 28) fl_X9_145 dX9_rests_28 ?_
  refine zx_fV0 (pc := 31) (k_reckon_n (d := d) hH hF) cl_X9_164 p14 rfl dX9_rests_31 rfl rfl (by omega) (Nat.le_of_ble_eq_true rfl) (Nat.le_refl _) (Nat.le_refl _) ?_
  refine zx_aload_n (pc := 34) dX9_rests_34 rfl rfl ?_
  refine g0_4 (pc := 35) fl_X9_36 dX9_rests_35 ?_
  refine g14_2 (pc := 38) fl_X9_172 dX9_rests_38 ?_
  refine zx_bipush (pc := 41) (v := 9) dX9_rests_41 (by decide) ?_
  refine zx_mmin (pc := 43) (Nat.le_of_ble_eq_true rfl) (by omega) (Nat.le_refl _) (Nat.le_refl _) ml_X9_255 dX9_rests_43 ?_
  refine zx_st (st' := [.int (nI M)]) (congrArg (fun z => [Value.int z]) hm) ?_
  refine st_2_7 (pc := 46) dX9_rests_46 rfl ?_
  refine zx_iconst (pc := 47) (v := 0) dX9_rests_47 (by decide) ?_
  refine st_3_7 (pc := 48) dX9_rests_48 rfl ?_
  refine zx_bipush (pc := 49) (v := -9) dX9_rests_49 (by decide) ?_
  refine st_4_7 (pc := 51) dX9_rests_51 rfl ?_
  refine zx_iconst (pc := 53) (v := 0) dX9_rests_53 (by decide) ?_
  refine st_5_7 (pc := 54) dX9_rests_54 rfl ?_
  exact lp_restsO hM 10 0 (by omega) _
set_option maxHeartbeats 4000000 in
theorem q_rests_bad {d : Nat} {x : Int32} {tx : (Nat → Int32) × Int32} {gg : (Nat → Int32) × (Nat → Int32) × (Nat → Int32) × (Nat → Int32) × Int32 × Int32 × Int32} {nw : (Nat → Int32) × (Nat → Int32) × Int32 × Int32 × Int32 × Int32 × Int32 × Int32 × Int32} {tr : (Nat → Int32) × (Nat → Int32) × Int32 × Int32 × Int32 × Int32 × Int32 × Int32 × Int32} {wk : (Nat → Int32) × Int32 × Int32 × Int32} {pl : (Nat → Int32) × Int32 × Int32 × Int32 × Int32 × Int32} {ac : (Nat → zStt) × Int32 × Int32} {sl : (Nat → zStt) × (Nat → Int32)} {si : (Nat → Int32) × (Nat → Int32) × (Nat → Int32) × Int32} {sd : Int64} {tau : List zCel} (hb : x < 0 ∨ ¬ x ≤ 1) : zCf yX9_rests cX9_rests 7 (some .int) (d + 4) [.ref 0, .int x] (encC tx gg nw tr wk pl ac sl si sd ++ tau) (some (.int (-2))) (encC tx gg nw tr wk pl ac sl si sd ++ tau) := by
  refine zC.intro (by decide) (Nat.le_of_ble_eq_true rfl) rfl ?_
  refine zx_iload_n (pc := 0) dX9_rests_0 rfl rfl ?_
  refine zx_if_lt (pc := 1) (tgt := 9) dX9_rests_1 (by decide) (fun h1 => ?_) (fun h1 => ?_)
  · refine zx_bipush (pc := 9) (v := -2) dX9_rests_9 (by decide) ?_
    exact zx_fi (pc := 11) dX9_rests_11 rfl rfl (Nat.le_refl _) (Nat.le_refl _) rfl rfl
  · refine zx_iload_n (pc := 4) dX9_rests_4 rfl rfl ?_
    refine zx_iconst (pc := 5) (v := 1) dX9_rests_5 (by decide) ?_
    refine zx_icmp_le (pc := 6) (tgt := 12) dX9_rests_6 (by decide) (fun h6 => by first | exact absurd h6 (show ¬ x ≤ 1 by rcases hb with q | q; exact absurd q h1; exact q) | exact absurd (show ¬ x ≤ 1 by rcases hb with q | q; exact absurd q h1; exact q) h6) (fun h6 => ?_)
    refine zx_bipush (pc := 9) (v := -2) dX9_rests_9 (by decide) ?_
    exact zx_fi (pc := 11) dX9_rests_11 rfl rfl (Nat.le_refl _) (Nat.le_refl _) rfl rfl
set_option maxHeartbeats 4000000 in
theorem lp_chance {d n0 N a : Nat} {ht hl h x b : Int32} {sg : List zCel} (hN : N ≤ 6) (ha : (if 0 ≤ (zChR N ht hl h x (N + 1)).1 then (zChR N ht hl h x (N + 1)).1 else 0 - (zChR N ht hl h x (N + 1)).1) = nI a) (ha2 : a < 2 ^ 31) : ∀ k i : Nat, i + k = N + 1 → zX RX9 cX9_chance 10 (some .int) "chance" none (d + 2) n0 0 0 0 0 (fun r s => r = some (.int ((if b = 0 then nI (10 ^ N) else (zChR N ht hl h x (N + 1)).1) / nI (Nat.gcd a (10 ^ N)))) ∧ s = sg) 73 [some (.ref 0), some (.int (nI N)), some (.int h), some (.int x), some (.int b), some (.int ht), some (.int hl), some (.int (zChR N ht hl h x i).1), some (.int (zChR N ht hl h x i).2), some (.int (nI i))] [] sg := by
  have hp : 10 ^ N ≤ 10 ^ 6 := Nat.pow_le_pow_right (by decide) hN
  have hp1 : 0 < 10 ^ N := Nat.pow_pos (by decide)
  intro k
  induction k with
  | zero =>
    intro i hi
    obtain rfl : i = N + 1 := by omega
    refine zx_iload (pc := 73) dX9_chance_73 rfl ?_
    refine zx_iload_n (pc := 75) dX9_chance_75 rfl rfl ?_
    refine zx_icmp_gt (pc := 76) (tgt := 139) dX9_chance_76 (by decide) (fun h76 => ?_) (fun h76 => by first | exact absurd h76 (show nI N < nI (N + 1) from nI_lt (by omega) (by omega)) | exact absurd (show nI N < nI (N + 1) from nI_lt (by omega) (by omega)) h76)
    refine zx_iload (pc := 139) dX9_chance_139 rfl ?_
    refine zx_bipush (pc := 141) (v := 10) dX9_chance_141 (by decide) ?_
    refine zx_iload_n (pc := 143) dX9_chance_143 rfl rfl ?_
    refine zx_fS1 (pc := 144) (k_power (d := d + 1) (b := 10) (E := N) (by omega)) cl_X9_267 dX9_chance_144 rfl rfl (by omega) (Nat.le_of_ble_eq_true rfl) (Nat.le_refl _) (Nat.le_refl _) ?_
    rw [show (10 : Int32) = nI 10 from rfl, zPw_n]
    refine zx_iload (pc := 147) dX9_chance_147 rfl ?_
    refine zx_fS1 (pc := 149) (k_fraction (d := d) (a := a) (b := 10 ^ N) ha ha2 (by omega) hp1) cl_X9_244 dX9_chance_149 rfl rfl (by omega) (Nat.le_of_ble_eq_true rfl) (Nat.le_refl _) (Nat.le_refl _) ?_
    exact zx_fi (pc := 152) dX9_chance_152 rfl rfl (Nat.le_refl _) (Nat.le_refl _) rfl rfl
  | succ k ih =>
    intro i hi
    have e1 : nI N - nI i = nI (N - i) := pk_sub (by omega)
    refine zx_iload (pc := 73) dX9_chance_73 rfl ?_
    refine zx_iload_n (pc := 75) dX9_chance_75 rfl rfl ?_
    refine zx_icmp_gt (pc := 76) (tgt := 139) dX9_chance_76 (by decide) (fun h76 => by first | exact absurd h76 (nI_nlt (show i ≤ N by omega) (by omega)) | exact absurd (nI_nlt (show i ≤ N by omega) (by omega)) h76) (fun h76 => ?_)
    refine zx_iload (pc := 79) dX9_chance_79 rfl ?_
    refine zx_iload (pc := 81) dX9_chance_81 rfl ?_
    refine zx_iload (pc := 83) dX9_chance_83 rfl ?_
    refine zx_mmin (pc := 85) (Nat.le_of_ble_eq_true rfl) (by omega) (Nat.le_refl _) (Nat.le_refl _) ml_X9_255 dX9_chance_85 ?_
    refine zx_isub (pc := 88) dX9_chance_88 ?_
    refine zx_iload_n (pc := 89) dX9_chance_89 rfl rfl ?_
    refine zx_icmp_lt (pc := 90) (tgt := 119) dX9_chance_90 (by decide) (fun h90 => ?_) (fun h90 => ?_)
    · refine zx_iload (pc := 119) dX9_chance_119 rfl ?_
      refine zx_iload_n (pc := 121) dX9_chance_121 rfl rfl ?_
      refine zx_iload (pc := 122) dX9_chance_122 rfl ?_
      refine zx_isub (pc := 124) dX9_chance_124 ?_
      refine zx_imul (pc := 125) dX9_chance_125 ?_
      refine zx_iload (pc := 126) dX9_chance_126 rfl ?_
      refine zx_iconst (pc := 128) (v := 1) dX9_chance_128 (by decide) ?_
      refine zx_iadd (pc := 129) dX9_chance_129 ?_
      refine zx_idiv (pc := 130) dX9_chance_130 (show ¬ nI i + 1 = 0 by rw [nI_1]; exact nI_ne0 (by omega) (by omega)) ?_
      refine st_8_10 (pc := 131) dX9_chance_131 rfl ?_
      refine ic_9_10_1 (pc := 133) dX9_chance_133 rfl ?_
      refine zx_goto (pc := 136) (tgt := 73) dX9_chance_136 (by decide) ?_
      have hs := ih (i + 1) (by omega)
      simp only [zChR, zCh1, zMn, h90, reduceIte, ← nI_1] at hs
      exact hs
    · refine zx_iload (pc := 93) dX9_chance_93 rfl ?_
      refine zx_iload (pc := 95) dX9_chance_95 rfl ?_
      refine zx_iload_n (pc := 97) dX9_chance_97 rfl rfl ?_
      refine zx_iload (pc := 98) dX9_chance_98 rfl ?_
      refine zx_fS1 (pc := 100) (k_power (d := d + 1) (E := i) (by omega)) cl_X9_267 dX9_chance_100 rfl rfl (by omega) (Nat.le_of_ble_eq_true rfl) (Nat.le_refl _) (Nat.le_refl _) ?_
      refine zx_imul (pc := 103) dX9_chance_103 ?_
      refine zx_bipush (pc := 104) (v := 10) dX9_chance_104 (by decide) ?_
      refine zx_iload_n (pc := 106) dX9_chance_106 rfl rfl ?_
      refine zx_isub (pc := 107) dX9_chance_107 ?_
      refine zx_iload_n (pc := 108) dX9_chance_108 rfl rfl ?_
      refine zx_iload (pc := 109) dX9_chance_109 rfl ?_
      refine zx_isub (pc := 111) dX9_chance_111 ?_
      rw [e1]
      refine zx_fS1 (pc := 112) (k_power (d := d + 1) (E := N - i) (by omega)) cl_X9_267 dX9_chance_112 rfl rfl (by omega) (Nat.le_of_ble_eq_true rfl) (Nat.le_refl _) (Nat.le_refl _) ?_
      refine zx_imul (pc := 115) dX9_chance_115 ?_
      refine zx_iadd (pc := 116) dX9_chance_116 ?_
      refine st_7_10 (pc := 117) dX9_chance_117 rfl ?_
      refine zx_iload (pc := 119) dX9_chance_119 rfl ?_
      refine zx_iload_n (pc := 121) dX9_chance_121 rfl rfl ?_
      refine zx_iload (pc := 122) dX9_chance_122 rfl ?_
      refine zx_isub (pc := 124) dX9_chance_124 ?_
      refine zx_imul (pc := 125) dX9_chance_125 ?_
      refine zx_iload (pc := 126) dX9_chance_126 rfl ?_
      refine zx_iconst (pc := 128) (v := 1) dX9_chance_128 (by decide) ?_
      refine zx_iadd (pc := 129) dX9_chance_129 ?_
      refine zx_idiv (pc := 130) dX9_chance_130 (show ¬ nI i + 1 = 0 by rw [nI_1]; exact nI_ne0 (by omega) (by omega)) ?_
      refine st_8_10 (pc := 131) dX9_chance_131 rfl ?_
      refine ic_9_10_1 (pc := 133) dX9_chance_133 rfl ?_
      refine zx_goto (pc := 136) (tgt := 73) dX9_chance_136 (by decide) ?_
      have hs := ih (i + 1) (by omega)
      simp only [zChR, zCh1, zMn, h90, reduceIte, ← nI_1] at hs
      exact hs
set_option maxHeartbeats 4000000 in
theorem q_chance_bad {d : Nat} {x y z b : Int32} {tx : (Nat → Int32) × Int32} {gg : (Nat → Int32) × (Nat → Int32) × (Nat → Int32) × (Nat → Int32) × Int32 × Int32 × Int32} {nw : (Nat → Int32) × (Nat → Int32) × Int32 × Int32 × Int32 × Int32 × Int32 × Int32 × Int32} {tr : (Nat → Int32) × (Nat → Int32) × Int32 × Int32 × Int32 × Int32 × Int32 × Int32 × Int32} {wk : (Nat → Int32) × Int32 × Int32 × Int32} {pl : (Nat → Int32) × Int32 × Int32 × Int32 × Int32 × Int32} {ac : (Nat → zStt) × Int32 × Int32} {sl : (Nat → zStt) × (Nat → Int32)} {si : (Nat → Int32) × (Nat → Int32) × (Nat → Int32) × Int32} {sd : Int64} {tau : List zCel} (hb : ¬ (¬ x < 1 ∧ ¬ 6 < x ∧ ¬ y < 0 ∧ ¬ 8 < y ∧ ¬ z < 0 ∧ z ≤ 10)) : zCf yX9_chance cX9_chance 10 (some .int) (d + 2) [.ref 0, .int x, .int y, .int z, .int b] (encC tx gg nw tr wk pl ac sl si sd ++ tau) (some (.int (-2))) (encC tx gg nw tr wk pl ac sl si sd ++ tau) := by
  refine zC.intro (by decide) (Nat.le_of_ble_eq_true rfl) rfl ?_
  refine zx_iload_n (pc := 0) dX9_chance_0 rfl rfl ?_
  refine zx_iconst (pc := 1) (v := 1) dX9_chance_1 (by decide) ?_
  refine zx_icmp_lt (pc := 2) (tgt := 31) dX9_chance_2 (by decide) (fun h2 => ?_) (fun h2 => ?_)
  · refine zx_bipush (pc := 31) (v := -2) dX9_chance_31 (by decide) ?_
    exact zx_fi (pc := 33) dX9_chance_33 rfl rfl (Nat.le_refl _) (Nat.le_refl _) rfl rfl
  · refine zx_iload_n (pc := 5) dX9_chance_5 rfl rfl ?_
    refine zx_bipush (pc := 6) (v := 6) dX9_chance_6 (by decide) ?_
    refine zx_icmp_gt (pc := 8) (tgt := 31) dX9_chance_8 (by decide) (fun h8 => ?_) (fun h8 => ?_)
    · refine zx_bipush (pc := 31) (v := -2) dX9_chance_31 (by decide) ?_
      exact zx_fi (pc := 33) dX9_chance_33 rfl rfl (Nat.le_refl _) (Nat.le_refl _) rfl rfl
    · refine zx_iload_n (pc := 11) dX9_chance_11 rfl rfl ?_
      refine zx_if_lt (pc := 12) (tgt := 31) dX9_chance_12 (by decide) (fun h12 => ?_) (fun h12 => ?_)
      · refine zx_bipush (pc := 31) (v := -2) dX9_chance_31 (by decide) ?_
        exact zx_fi (pc := 33) dX9_chance_33 rfl rfl (Nat.le_refl _) (Nat.le_refl _) rfl rfl
      · refine zx_iload_n (pc := 15) dX9_chance_15 rfl rfl ?_
        refine zx_bipush (pc := 16) (v := 8) dX9_chance_16 (by decide) ?_
        refine zx_icmp_gt (pc := 18) (tgt := 31) dX9_chance_18 (by decide) (fun h18 => ?_) (fun h18 => ?_)
        · refine zx_bipush (pc := 31) (v := -2) dX9_chance_31 (by decide) ?_
          exact zx_fi (pc := 33) dX9_chance_33 rfl rfl (Nat.le_refl _) (Nat.le_refl _) rfl rfl
        · refine zx_iload_n (pc := 21) dX9_chance_21 rfl rfl ?_
          refine zx_if_lt (pc := 22) (tgt := 31) dX9_chance_22 (by decide) (fun h22 => ?_) (fun h22 => ?_)
          · refine zx_bipush (pc := 31) (v := -2) dX9_chance_31 (by decide) ?_
            exact zx_fi (pc := 33) dX9_chance_33 rfl rfl (Nat.le_refl _) (Nat.le_refl _) rfl rfl
          · refine zx_iload_n (pc := 25) dX9_chance_25 rfl rfl ?_
            refine zx_bipush (pc := 26) (v := 10) dX9_chance_26 (by decide) ?_
            refine zx_icmp_le (pc := 28) (tgt := 34) dX9_chance_28 (by decide) (fun h28 => ?_) (fun h28 => ?_)
            · exact absurd (And.intro h2 (And.intro h8 (And.intro h12 (And.intro h18 (And.intro h22 h28))))) hb
            · refine zx_bipush (pc := 31) (v := -2) dX9_chance_31 (by decide) ?_
              exact zx_fi (pc := 33) dX9_chance_33 rfl rfl (Nat.le_refl _) (Nat.le_refl _) rfl rfl
set_option maxHeartbeats 4000000 in
theorem q_chance {d : Nat} {N a : Nat} {h x b : Int32} {tx : (Nat → Int32) × Int32} {gg : (Nat → Int32) × (Nat → Int32) × (Nat → Int32) × (Nat → Int32) × Int32 × Int32 × Int32} {nt : (Nat → Int32)} {ns : (Nat → Int32)} {n2 : Int32} {n3 : Int32} {n4 : Int32} {n5 : Int32} {n6 : Int32} {n7 : Int32} {n8 : Int32} {tr : (Nat → Int32) × (Nat → Int32) × Int32 × Int32 × Int32 × Int32 × Int32 × Int32 × Int32} {wk : (Nat → Int32) × Int32 × Int32 × Int32} {pl : (Nat → Int32) × Int32 × Int32 × Int32 × Int32 × Int32} {ac : (Nat → zStt) × Int32 × Int32} {sl : (Nat → zStt) × (Nat → Int32)} {si : (Nat → Int32) × (Nat → Int32) × (Nat → Int32) × Int32} {sd : Int64} {tau : List zCel} (hN1 : 1 ≤ N) (hN : N ≤ 6) (ga : ¬ h < 0) (gb : ¬ 8 < h) (gc0 : ¬ x < 0) (gd0 : x ≤ 10) (ha : (if 0 ≤ (zChR N (zHt n6) (zHt n6 - zBc (zSo n6)) h x (N + 1)).1 then (zChR N (zHt n6) (zHt n6 - zBc (zSo n6)) h x (N + 1)).1 else 0 - (zChR N (zHt n6) (zHt n6 - zBc (zSo n6)) h x (N + 1)).1) = nI a) (ha2 : a < 2 ^ 31) : zCf yX9_chance cX9_chance 10 (some .int) (d + 2) [.ref 0, .int (nI N), .int h, .int x, .int b] (encC tx gg (nt, ns, n2, n3, n4, n5, n6, n7, n8) tr wk pl ac sl si sd ++ tau) (some (.int ((if b = 0 then nI (10 ^ N) else (zChR N (zHt n6) (zHt n6 - zBc (zSo n6)) h x (N + 1)).1) / nI (Nat.gcd a (10 ^ N))))) (encC tx gg (nt, ns, n2, n3, n4, n5, n6, n7, n8) tr wk pl ac sl si sd ++ tau) := by
  refine zC.intro (by decide) (Nat.le_of_ble_eq_true rfl) rfl ?_
  refine zx_iload_n (pc := 0) dX9_chance_0 rfl rfl ?_
  refine zx_iconst (pc := 1) (v := 1) dX9_chance_1 (by decide) ?_
  refine zx_icmp_lt (pc := 2) (tgt := 31) dX9_chance_2 (by decide) (fun h2 => by first | exact absurd h2 (show ¬ nI N < 1 from nI_nlt (a := N) (b := 1) hN1 (by omega)) | exact absurd (show ¬ nI N < 1 from nI_nlt (a := N) (b := 1) hN1 (by omega)) h2) (fun h2 => ?_)
  refine zx_iload_n (pc := 5) dX9_chance_5 rfl rfl ?_
  refine zx_bipush (pc := 6) (v := 6) dX9_chance_6 (by decide) ?_
  refine zx_icmp_gt (pc := 8) (tgt := 31) dX9_chance_8 (by decide) (fun h8 => by first | exact absurd h8 (show ¬ (6 : Int32) < nI N from nI_nlt (a := 6) (b := N) hN (by decide)) | exact absurd (show ¬ (6 : Int32) < nI N from nI_nlt (a := 6) (b := N) hN (by decide)) h8) (fun h8 => ?_)
  refine zx_iload_n (pc := 11) dX9_chance_11 rfl rfl ?_
  refine zx_if_lt (pc := 12) (tgt := 31) dX9_chance_12 (by decide) (fun h12 => by first | exact absurd h12 ga | exact absurd ga h12) (fun h12 => ?_)
  refine zx_iload_n (pc := 15) dX9_chance_15 rfl rfl ?_
  refine zx_bipush (pc := 16) (v := 8) dX9_chance_16 (by decide) ?_
  refine zx_icmp_gt (pc := 18) (tgt := 31) dX9_chance_18 (by decide) (fun h18 => by first | exact absurd h18 gb | exact absurd gb h18) (fun h18 => ?_)
  refine zx_iload_n (pc := 21) dX9_chance_21 rfl rfl ?_
  refine zx_if_lt (pc := 22) (tgt := 31) dX9_chance_22 (by decide) (fun h22 => by first | exact absurd h22 gc0 | exact absurd gc0 h22) (fun h22 => ?_)
  refine zx_iload_n (pc := 25) dX9_chance_25 rfl rfl ?_
  refine zx_bipush (pc := 26) (v := 10) dX9_chance_26 (by decide) ?_
  refine zx_icmp_le (pc := 28) (tgt := 34) dX9_chance_28 (by decide) (fun h28 => ?_) (fun h28 => by first | exact absurd h28 gd0 | exact absurd gd0 h28)
  refine zx_aload_n (pc := 34) dX9_chance_34 rfl rfl ?_
  refine g0_2 (pc := 35) fl_X9_26 dX9_chance_35 ?_
  refine g8_6 (pc := 38) fl_X9_113 dX9_chance_38 ?_
  refine zx_fS1 (pc := 41) (k_heightOf (d := d + 1) ) cl_X9_116 dX9_chance_41 rfl rfl (by omega) (Nat.le_of_ble_eq_true rfl) (Nat.le_refl _) (Nat.le_refl _) ?_
  refine st_5_10 (pc := 44) dX9_chance_44 rfl ?_
  refine zx_iload (pc := 46) dX9_chance_46 rfl ?_
  refine zx_aload_n (pc := 48) dX9_chance_48 rfl rfl ?_
  refine g0_2 (pc := 49) fl_X9_26 dX9_chance_49 ?_
  refine g8_6 (pc := 52) fl_X9_113 dX9_chance_52 ?_
  refine zx_fS1 (pc := 55) (k_soundOf (d := d) ) cl_X9_122 dX9_chance_55 rfl rfl (by omega) (Nat.le_of_ble_eq_true rfl) (Nat.le_refl _) (Nat.le_refl _) ?_
  refine zx_fS1 (pc := 58) (k_bitCount (d := d + 1) ) cl_X9_230 dX9_chance_58 rfl rfl (by omega) (Nat.le_of_ble_eq_true rfl) (Nat.le_refl _) (Nat.le_refl _) ?_
  refine zx_isub (pc := 61) dX9_chance_61 ?_
  refine st_6_10 (pc := 62) dX9_chance_62 rfl ?_
  refine zx_iconst (pc := 64) (v := 0) dX9_chance_64 (by decide) ?_
  refine st_7_10 (pc := 65) dX9_chance_65 rfl ?_
  refine zx_iconst (pc := 67) (v := 1) dX9_chance_67 (by decide) ?_
  refine st_8_10 (pc := 68) dX9_chance_68 rfl ?_
  refine zx_iconst (pc := 70) (v := 0) dX9_chance_70 (by decide) ?_
  refine st_9_10 (pc := 71) dX9_chance_71 rfl ?_
  exact lp_chance hN ha ha2 (N + 1) 0 (by omega)
set_option maxHeartbeats 4000000 in
theorem q_seed {d : Nat} {x : Int64} {tx : (Nat → Int32) × Int32} {gg : (Nat → Int32) × (Nat → Int32) × (Nat → Int32) × (Nat → Int32) × Int32 × Int32 × Int32} {nw : (Nat → Int32) × (Nat → Int32) × Int32 × Int32 × Int32 × Int32 × Int32 × Int32 × Int32} {tr : (Nat → Int32) × (Nat → Int32) × Int32 × Int32 × Int32 × Int32 × Int32 × Int32 × Int32} {wk : (Nat → Int32) × Int32 × Int32 × Int32} {pl : (Nat → Int32) × Int32 × Int32 × Int32 × Int32 × Int32} {ac : (Nat → zStt) × Int32 × Int32} {sl : (Nat → zStt) × (Nat → Int32)} {si : (Nat → Int32) × (Nat → Int32) × (Nat → Int32) × Int32} {sd : Int64} {tau : List zCel}  : zCf yX9_seed cX9_seed 5 (some .long) d [.ref 0, .long x] (encC tx gg nw tr wk pl ac sl si sd ++ tau) (some (.long (sd))) (encC tx gg nw tr wk pl ac sl si x ++ tau) := by
  refine zC.intro (by decide) (Nat.le_of_ble_eq_true rfl) rfl ?_
  refine zx_aload_n (pc := 0) dX9_seed_0 rfl rfl ?_
  refine g0_9 (pc := 1) fl_X9_270 dX9_seed_1 ?_
  refine zx_lstore_n (pc := 4) dX9_seed_4 rfl (by decide) rfl rfl ?_
  refine zx_aload_n (pc := 5) dX9_seed_5 rfl rfl ?_
  refine zx_lload_n (pc := 6) dX9_seed_6 rfl rfl ?_
  refine u0_9 (pc := 7) fl_X9_270 dX9_seed_7 ?_
  refine zx_lload_n (pc := 10) dX9_seed_10 rfl rfl ?_
  exact zx_fl (pc := 11) dX9_seed_11 rfl (Nat.le_refl _) (Nat.le_refl _) rfl rfl
set_option maxHeartbeats 8000000 in
theorem lp_years {d n0 H F M : Nat} {s0 : Int64} {t0 : zStt} {w0 : zWkT} {tx : (Nat → Int32) × Int32} {gs : (Nat → Int32)} {gk : (Nat → Int32)} {gf : (Nat → Int32)} {ga : (Nat → Int32)} {gc : Int32} {nt : (Nat → Int32)} {ns : (Nat → Int32)} {n2 : Int32} {n3 : Int32} {n4 : Int32} {n5 : Int32} {n6 : Int32} {n7 : Int32} {n8 : Int32} {pl : (Nat → Int32) × Int32 × Int32 × Int32 × Int32 × Int32} {ac : (Nat → zStt) × Int32 × Int32} {sl : (Nat → zStt) × (Nat → Int32)} {si : (Nat → Int32) × (Nat → Int32) × (Nat → Int32) × Int32} {tau : List zCel} (hH : H ≤ 5) (hF : F ≤ 3) (hM : M ≤ 20) : ∀ k i : Nat, i + k = M → ∀ o3 o4 o5 : Option Value, zX RX9 cX9_years 6 (some .int) "years" none (d + 4) n0 0 0 0 0 (fun r s => r = some (.int ((zYr gs gk gf F H gc s0 t0 w0 M).2.1.2.2.2.2.2.2.2.1 - n7)) ∧ s = encC tx (gs, gk, gf, ga, (nI H), (nI F), gc) (nt, ns, n2, n3, n4, n5, n6, n7, n8) (zYr gs gk gf F H gc s0 t0 w0 M).2.1 (zYr gs gk gf F H gc s0 t0 w0 M).2.2 pl ac sl si (zYr gs gk gf F H gc s0 t0 w0 M).1 ++ tau) 27 [some (.ref 0), some (.int (nI M)), some (.int (nI i)), o3, o4, o5] [] (encC tx (gs, gk, gf, ga, (nI H), (nI F), gc) (nt, ns, n2, n3, n4, n5, n6, n7, n8) (zYr gs gk gf F H gc s0 t0 w0 i).2.1 (zYr gs gk gf F H gc s0 t0 w0 i).2.2 pl ac sl si (zYr gs gk gf F H gc s0 t0 w0 i).1 ++ tau) := by
  intro k
  induction k with
  | zero =>
    intro i hi o3 o4 o5
    obtain rfl : i = M := by omega
    refine zx_iload_n (pc := 27) dX9_years_27 rfl rfl ?_
    refine zx_iload_n (pc := 28) dX9_years_28 rfl rfl ?_
    refine zx_icmp_ge (pc := 29) (tgt := 152) dX9_years_29 (by decide) (fun h29 => ?_) (fun h29 => by first | exact absurd h29 (show nI i ≤ nI i from Int32.le_refl _) | exact absurd (show nI i ≤ nI i from Int32.le_refl _) h29)
    refine zx_aload_n (pc := 152) dX9_years_152 rfl rfl ?_
    refine g0_3 (pc := 153) fl_X9_30 dX9_years_153 ?_
    refine g11_7 (pc := 156) fl_X9_125 dX9_years_156 ?_
    refine zx_aload_n (pc := 159) dX9_years_159 rfl rfl ?_
    refine g0_2 (pc := 160) fl_X9_26 dX9_years_160 ?_
    refine g8_7 (pc := 163) fl_X9_125 dX9_years_163 ?_
    refine zx_isub (pc := 166) dX9_years_166 ?_
    exact zx_fi (pc := 167) dX9_years_167 rfl rfl (Nat.le_refl _) (Nat.le_refl _) rfl rfl
  | succ k ih =>
    intro i hi o3 o4 o5
    generalize hS : zYr gs gk gf F H gc s0 t0 w0 i = S
    have hk := zYk_lt (zSd S.1)
    have hst : zYr gs gk gf F H gc s0 t0 w0 (i + 1) = (zSd S.1, zend gc (zDy gs gk gf F H (zYtr F H (zYk (zSd S.1)) S.2.1) S.2.2) (zYtr F H (zYk (zSd S.1)) S.2.1), zDy gs gk gf F H (zYtr F H (zYk (zSd S.1)) S.2.1) S.2.2) := by rw [zYr, hS]
    generalize hK : zYk (zSd S.1) = K at hk hst
    have e1 : nI K / 6 = nI (K / 6) := pk_div (by omega) (by decide) (by decide)
    have e2 : nI K - nI K / 6 * 6 = nI (K % 6) := pk_rem (d := 6) (by omega) (by decide) (by decide)
    refine zx_iload_n (pc := 27) dX9_years_27 rfl rfl ?_
    refine zx_iload_n (pc := 28) dX9_years_28 rfl rfl ?_
    refine zx_icmp_ge (pc := 29) (tgt := 152) dX9_years_29 (by decide) (fun h29 => by first | exact absurd h29 (nI_ge (show i < M by omega) (by omega)) | exact absurd (nI_ge (show i < M by omega) (by omega)) h29) (fun h29 => ?_)
    refine zx_aload_n (pc := 32) dX9_years_32 rfl rfl ?_
    refine zx_aload_n (pc := 33) dX9_years_33 rfl rfl ?_
    refine g0_9 (pc := 34) fl_X9_270 dX9_years_34 ?_
    refine zx_ldc2 (pc := 37) kl_X9_274 dX9_years_37 ?_
    refine zx_lmul (pc := 40) dX9_years_40 ?_
    refine zx_ldc2 (pc := 41) kl_X9_276 dX9_years_41 ?_
    refine zx_ladd (pc := 44) dX9_years_44 ?_
    refine u0_9 (pc := 45) fl_X9_270 dX9_years_45 ?_
    refine zx_aload_n (pc := 48) dX9_years_48 rfl rfl ?_
    refine g0_9 (pc := 49) fl_X9_270 dX9_years_49 ?_
    refine zx_bipush (pc := 52) (v := 33) dX9_years_52 (by decide) ?_
    refine zx_lushr (pc := 54) dX9_years_54 rfl ?_
    refine zx_ldc2 (pc := 55) kl_X9_278 dX9_years_55 ?_
    refine zx_lrem (pc := 58) dX9_years_58 (by decide) ?_
    refine zx_l2i (pc := 59) dX9_years_59 rfl ?_
    refine zx_st (st' := [.int (nI K)]) (by rw [← hK]; exact congrArg (fun z => [Value.int z]) (zpr_eq (zSd S.1))) ?_
    refine st_3_6 (pc := 60) dX9_years_60 rfl ?_
    refine zx_iload_n (pc := 61) dX9_years_61 rfl rfl ?_
    refine zx_bipush (pc := 62) (v := 6) dX9_years_62 (by decide) ?_
    refine zx_idiv (pc := 64) dX9_years_64 (by decide) ?_
    rw [e1]
    refine st_4_6 (pc := 65) dX9_years_65 rfl ?_
    refine zx_iload_n (pc := 67) dX9_years_67 rfl rfl ?_
    refine zx_bipush (pc := 68) (v := 6) dX9_years_68 (by decide) ?_
    refine zx_irem (pc := 70) dX9_years_70 (by decide) ?_
    rw [e2]
    refine st_5_6 (pc := 71) dX9_years_71 rfl ?_
    refine zx_aload_n (pc := 73) dX9_years_73 rfl rfl ?_
    refine g0_1 (pc := 74) fl_X9_19 dX9_years_74 ?_
    refine zx_iload (pc := 77) dX9_years_77 rfl ?_
    refine zx_fV1 (pc := 79) (k_hasHand (d := d + 3) ) cl_X9_135 p3 rfl dX9_years_79 rfl rfl (by omega) (Nat.le_of_ble_eq_true rfl) (Nat.le_refl _) (Nat.le_refl _) ?_
    refine zx_if_eq (pc := 82) (tgt := 109) dX9_years_82 (by decide) (fun h82 => ?_) (fun h82 => ?_)
    · refine zx_aload_n (pc := 109) dX9_years_109 rfl rfl ?_
      refine g0_4 (pc := 110) fl_X9_36 dX9_years_110 ?_
      refine zx_aload_n (pc := 113) dX9_years_113 rfl rfl ?_
      refine g0_1 (pc := 114) fl_X9_19 dX9_years_114 ?_
      refine zx_aload_n (pc := 117) dX9_years_117 rfl rfl ?_
      refine g0_3 (pc := 118) fl_X9_30 dX9_years_118 ?_
      refine zx_aload_n (pc := 121) dX9_years_121 rfl rfl ?_
      refine g0_3 (pc := 122) fl_X9_30 dX9_years_122 ?_
      refine g11_0 (pc := 125) fl_X9_145 dX9_years_125 ?_
      refine zx_fV0 (pc := 128) (k_reckon_t (d := d) hH hF) cl_X9_164 p14 rfl dX9_years_128 rfl rfl (by omega) (Nat.le_of_ble_eq_true rfl) (Nat.le_refl _) (Nat.le_refl _) ?_
      refine zx_aload_n (pc := 131) dX9_years_131 rfl rfl ?_
      refine g0_3 (pc := 132) fl_X9_30 dX9_years_132 ?_
      refine zx_aload_n (pc := 135) dX9_years_135 rfl rfl ?_
      refine g0_1 (pc := 136) fl_X9_19 dX9_years_136 ?_
      refine zx_aload_n (pc := 139) dX9_years_139 rfl rfl ?_
      refine g0_4 (pc := 140) fl_X9_36 dX9_years_140 ?_
      refine zx_fV0 (pc := 143) (k_endDay_t (d := d + 2) ) cl_X9_168 p11 rfl dX9_years_143 rfl rfl (by omega) (Nat.le_of_ble_eq_true rfl) (Nat.le_refl _) (Nat.le_refl _) ?_
      refine ic_2_6_1 (pc := 146) dX9_years_146 rfl ?_
      refine zx_goto (pc := 149) (tgt := 27) dX9_years_149 (by decide) ?_
      rw [nI_1]
      have hs := ih (i + 1) (by omega)
      simp only [hst, zYtr, h82, reduceIte] at hs
      exact hs _ _ _
    · refine zx_aload_n (pc := 85) dX9_years_85 rfl rfl ?_
      refine g0_1 (pc := 86) fl_X9_19 dX9_years_86 ?_
      refine zx_iload (pc := 89) dX9_years_89 rfl ?_
      refine zx_fV1 (pc := 91) (k_hasTask (d := d + 2) ) cl_X9_175 p3 rfl dX9_years_91 rfl rfl (by omega) (Nat.le_of_ble_eq_true rfl) (Nat.le_refl _) (Nat.le_refl _) ?_
      refine zx_if_eq (pc := 94) (tgt := 109) dX9_years_94 (by decide) (fun h94 => ?_) (fun h94 => ?_)
      · refine zx_aload_n (pc := 109) dX9_years_109 rfl rfl ?_
        refine g0_4 (pc := 110) fl_X9_36 dX9_years_110 ?_
        refine zx_aload_n (pc := 113) dX9_years_113 rfl rfl ?_
        refine g0_1 (pc := 114) fl_X9_19 dX9_years_114 ?_
        refine zx_aload_n (pc := 117) dX9_years_117 rfl rfl ?_
        refine g0_3 (pc := 118) fl_X9_30 dX9_years_118 ?_
        refine zx_aload_n (pc := 121) dX9_years_121 rfl rfl ?_
        refine g0_3 (pc := 122) fl_X9_30 dX9_years_122 ?_
        refine g11_0 (pc := 125) fl_X9_145 dX9_years_125 ?_
        refine zx_fV0 (pc := 128) (k_reckon_t (d := d) hH hF) cl_X9_164 p14 rfl dX9_years_128 rfl rfl (by omega) (Nat.le_of_ble_eq_true rfl) (Nat.le_refl _) (Nat.le_refl _) ?_
        refine zx_aload_n (pc := 131) dX9_years_131 rfl rfl ?_
        refine g0_3 (pc := 132) fl_X9_30 dX9_years_132 ?_
        refine zx_aload_n (pc := 135) dX9_years_135 rfl rfl ?_
        refine g0_1 (pc := 136) fl_X9_19 dX9_years_136 ?_
        refine zx_aload_n (pc := 139) dX9_years_139 rfl rfl ?_
        refine g0_4 (pc := 140) fl_X9_36 dX9_years_140 ?_
        refine zx_fV0 (pc := 143) (k_endDay_t (d := d + 2) ) cl_X9_168 p11 rfl dX9_years_143 rfl rfl (by omega) (Nat.le_of_ble_eq_true rfl) (Nat.le_refl _) (Nat.le_refl _) ?_
        refine ic_2_6_1 (pc := 146) dX9_years_146 rfl ?_
        refine zx_goto (pc := 149) (tgt := 27) dX9_years_149 (by decide) ?_
        rw [nI_1]
        have hs := ih (i + 1) (by omega)
        simp only [hst, zYtr, h82, h94, reduceIte] at hs
        exact hs _ _ _
      · have h6 : K / 6 < H := by
          obtain ⟨j, hj, ej⟩ := zHas_n (by omega) h82
          rw [(nI_eq (by omega) (by omega)).mp ej]; exact hj
        refine zx_aload_n (pc := 97) dX9_years_97 rfl rfl ?_
        refine g0_3 (pc := 98) fl_X9_30 dX9_years_98 ?_
        refine g11_0 (pc := 101) fl_X9_145 dX9_years_101 ?_
        refine zx_iload (pc := 104) dX9_years_104 rfl ?_
        refine zx_iload (pc := 106) dX9_years_106 rfl ?_
        refine s12 (pc := 108) (zix_n (by omega)) dX9_years_108 ?_
        refine zx_aload_n (pc := 109) dX9_years_109 rfl rfl ?_
        refine g0_4 (pc := 110) fl_X9_36 dX9_years_110 ?_
        refine zx_aload_n (pc := 113) dX9_years_113 rfl rfl ?_
        refine g0_1 (pc := 114) fl_X9_19 dX9_years_114 ?_
        refine zx_aload_n (pc := 117) dX9_years_117 rfl rfl ?_
        refine g0_3 (pc := 118) fl_X9_30 dX9_years_118 ?_
        refine zx_aload_n (pc := 121) dX9_years_121 rfl rfl ?_
        refine g0_3 (pc := 122) fl_X9_30 dX9_years_122 ?_
        refine g11_0 (pc := 125) fl_X9_145 dX9_years_125 ?_
        refine zx_fV0 (pc := 128) (k_reckon_t (d := d) hH hF) cl_X9_164 p14 rfl dX9_years_128 rfl rfl (by omega) (Nat.le_of_ble_eq_true rfl) (Nat.le_refl _) (Nat.le_refl _) ?_
        refine zx_aload_n (pc := 131) dX9_years_131 rfl rfl ?_
        refine g0_3 (pc := 132) fl_X9_30 dX9_years_132 ?_
        refine zx_aload_n (pc := 135) dX9_years_135 rfl rfl ?_
        refine g0_1 (pc := 136) fl_X9_19 dX9_years_136 ?_
        refine zx_aload_n (pc := 139) dX9_years_139 rfl rfl ?_
        refine g0_4 (pc := 140) fl_X9_36 dX9_years_140 ?_
        refine zx_fV0 (pc := 143) (k_endDay_t (d := d + 2) ) cl_X9_168 p11 rfl dX9_years_143 rfl rfl (by omega) (Nat.le_of_ble_eq_true rfl) (Nat.le_refl _) (Nat.le_refl _) ?_
        refine ic_2_6_1 (pc := 146) dX9_years_146 rfl ?_
        refine zx_goto (pc := 149) (tgt := 27) dX9_years_149 (by decide) ?_
        rw [nI_1]
        have hs := ih (i + 1) (by omega)
        simp only [hst, zYtr, h82, h94, reduceIte] at hs
        exact hs _ _ _
set_option maxHeartbeats 4000000 in
theorem q_years {d : Nat} {H F M : Nat} {tx : (Nat → Int32) × Int32} {gs : (Nat → Int32)} {gk : (Nat → Int32)} {gf : (Nat → Int32)} {ga : (Nat → Int32)} {gc : Int32} {nt : (Nat → Int32)} {ns : (Nat → Int32)} {n2 : Int32} {n3 : Int32} {n4 : Int32} {n5 : Int32} {n6 : Int32} {n7 : Int32} {n8 : Int32} {tr : (Nat → Int32) × (Nat → Int32) × Int32 × Int32 × Int32 × Int32 × Int32 × Int32 × Int32} {wk : (Nat → Int32) × Int32 × Int32 × Int32} {pl : (Nat → Int32) × Int32 × Int32 × Int32 × Int32 × Int32} {ac : (Nat → zStt) × Int32 × Int32} {sl : (Nat → zStt) × (Nat → Int32)} {si : (Nat → Int32) × (Nat → Int32) × (Nat → Int32) × Int32} {sd : Int64} {tau : List zCel} (hH : H ≤ 5) (hF : F ≤ 3) (hM1 : 1 ≤ M) (hM : M ≤ 20) : zCf yX9_years cX9_years 6 (some .int) (d + 4) [.ref 0, .int (nI M)] (encC tx (gs, gk, gf, ga, (nI H), (nI F), gc) (nt, ns, n2, n3, n4, n5, n6, n7, n8) tr wk pl ac sl si sd ++ tau) (some (.int ((zYr gs gk gf F H gc sd (zcpS (nt, ns, n2, n3, n4, n5, n6, n7, n8) tr) wk M).2.1.2.2.2.2.2.2.2.1 - n7))) (encC tx (gs, gk, gf, ga, (nI H), (nI F), gc) (nt, ns, n2, n3, n4, n5, n6, n7, n8) (zYr gs gk gf F H gc sd (zcpS (nt, ns, n2, n3, n4, n5, n6, n7, n8) tr) wk M).2.1 (zYr gs gk gf F H gc sd (zcpS (nt, ns, n2, n3, n4, n5, n6, n7, n8) tr) wk M).2.2 pl ac sl si (zYr gs gk gf F H gc sd (zcpS (nt, ns, n2, n3, n4, n5, n6, n7, n8) tr) wk M).1 ++ tau) := by
  refine zC.intro (by decide) (Nat.le_of_ble_eq_true rfl) rfl ?_
  refine zx_iload_n (pc := 0) dX9_years_0 rfl rfl ?_
  refine zx_iconst (pc := 1) (v := 1) dX9_years_1 (by decide) ?_
  refine zx_icmp_lt (pc := 2) (tgt := 11) dX9_years_2 (by decide) (fun h2 => by first | exact absurd h2 (show ¬ nI M < 1 from nI_nlt (a := M) (b := 1) hM1 (by omega)) | exact absurd (show ¬ nI M < 1 from nI_nlt (a := M) (b := 1) hM1 (by omega)) h2) (fun h2 => ?_)
  refine zx_iload_n (pc := 5) dX9_years_5 rfl rfl ?_
  refine zx_bipush (pc := 6) (v := 20) dX9_years_6 (by decide) ?_
  refine zx_icmp_le (pc := 8) (tgt := 14) dX9_years_8 (by decide) (fun h8 => ?_) (fun h8 => by first | exact absurd h8 (show nI M ≤ 20 from nI_le (a := M) (b := 20) hM (by decide)) | exact absurd (show nI M ≤ 20 from nI_le (a := M) (b := 20) hM (by decide)) h8)
  refine zx_aload_n (pc := 14) dX9_years_14 rfl rfl ?_
  refine g0_2 (pc := 15) fl_X9_26 dX9_years_15 ?_
  refine zx_aload_n (pc := 18) dX9_years_18 rfl rfl ?_
  refine g0_3 (pc := 19) fl_X9_30 dX9_years_19 ?_
  refine zx_fS0 (pc := 22) (k_copy_nt (d := d + 2) ) cl_X9_213 dX9_years_22 rfl rfl (by omega) (Nat.le_of_ble_eq_true rfl) (Nat.le_refl _) (Nat.le_refl _) ?_
  refine zx_iconst (pc := 25) (v := 0) dX9_years_25 (by decide) ?_
  refine st_2_6 (pc := 26) dX9_years_26 rfl ?_
  exact lp_years hH hF hM M 0 (by omega) _ _ _
set_option maxHeartbeats 4000000 in
theorem q_years_bad {d : Nat} {x : Int32} {tx : (Nat → Int32) × Int32} {gg : (Nat → Int32) × (Nat → Int32) × (Nat → Int32) × (Nat → Int32) × Int32 × Int32 × Int32} {nw : (Nat → Int32) × (Nat → Int32) × Int32 × Int32 × Int32 × Int32 × Int32 × Int32 × Int32} {tr : (Nat → Int32) × (Nat → Int32) × Int32 × Int32 × Int32 × Int32 × Int32 × Int32 × Int32} {wk : (Nat → Int32) × Int32 × Int32 × Int32} {pl : (Nat → Int32) × Int32 × Int32 × Int32 × Int32 × Int32} {ac : (Nat → zStt) × Int32 × Int32} {sl : (Nat → zStt) × (Nat → Int32)} {si : (Nat → Int32) × (Nat → Int32) × (Nat → Int32) × Int32} {sd : Int64} {tau : List zCel} (hb : x < 1 ∨ ¬ x ≤ 20) : zCf yX9_years cX9_years 6 (some .int) (d + 4) [.ref 0, .int x] (encC tx gg nw tr wk pl ac sl si sd ++ tau) (some (.int (-2))) (encC tx gg nw tr wk pl ac sl si sd ++ tau) := by
  refine zC.intro (by decide) (Nat.le_of_ble_eq_true rfl) rfl ?_
  refine zx_iload_n (pc := 0) dX9_years_0 rfl rfl ?_
  refine zx_iconst (pc := 1) (v := 1) dX9_years_1 (by decide) ?_
  refine zx_icmp_lt (pc := 2) (tgt := 11) dX9_years_2 (by decide) (fun h2 => ?_) (fun h2 => ?_)
  · refine zx_bipush (pc := 11) (v := -2) dX9_years_11 (by decide) ?_
    exact zx_fi (pc := 13) dX9_years_13 rfl rfl (Nat.le_refl _) (Nat.le_refl _) rfl rfl
  · refine zx_iload_n (pc := 5) dX9_years_5 rfl rfl ?_
    refine zx_bipush (pc := 6) (v := 20) dX9_years_6 (by decide) ?_
    refine zx_icmp_le (pc := 8) (tgt := 14) dX9_years_8 (by decide) (fun h8 => by first | exact absurd h8 (show ¬ x ≤ 20 by rcases hb with q | q; exact absurd q h2; exact q) | exact absurd (show ¬ x ≤ 20 by rcases hb with q | q; exact absurd q h2; exact q) h8) (fun h8 => ?_)
    refine zx_bipush (pc := 11) (v := -2) dX9_years_11 (by decide) ?_
    exact zx_fi (pc := 13) dX9_years_13 rfl rfl (Nat.le_refl _) (Nat.le_refl _) rfl rfl
set_option maxHeartbeats 4000000 in
theorem q_keep_un {d : Nat} {x : Int32} {tx : (Nat → Int32) × Int32} {gg : (Nat → Int32) × (Nat → Int32) × (Nat → Int32) × (Nat → Int32) × Int32 × Int32 × Int32} {nw : (Nat → Int32) × (Nat → Int32) × Int32 × Int32 × Int32 × Int32 × Int32 × Int32 × Int32} {tr : (Nat → Int32) × (Nat → Int32) × Int32 × Int32 × Int32 × Int32 × Int32 × Int32 × Int32} {wk : (Nat → Int32) × Int32 × Int32 × Int32} {pl : (Nat → Int32) × Int32 × Int32 × Int32 × Int32 × Int32} {ac : (Nat → zStt) × Int32 × Int32} {sl : (Nat → zStt) × (Nat → Int32)} {si : (Nat → Int32) × (Nat → Int32) × (Nat → Int32) × Int32} {sd : Int64} {tau : List zCel} (hu : zHas 2 x = 0) : zCf yX9_keep cX9_keep 2 (some .int) (d + 3) [.ref 0, .int x] (encC tx gg nw tr wk pl ac sl si sd ++ tau) (some (.int (-1))) (encC tx gg nw tr wk pl ac sl si sd ++ tau) := by
  refine zC.intro (by decide) (Nat.le_of_ble_eq_true rfl) rfl ?_
  refine zx_aload_n (pc := 0) dX9_keep_0 rfl rfl ?_
  refine g0_7 (pc := 1) fl_X9_57 dX9_keep_1 ?_
  refine zx_iload_n (pc := 4) dX9_keep_4 rfl rfl ?_
  refine zx_fV1 (pc := 5) (k_slotsHas (d := d + 2) ) cl_X9_280 p62 rfl dX9_keep_5 rfl rfl (by omega) (Nat.le_of_ble_eq_true rfl) (Nat.le_refl _) (Nat.le_refl _) ?_
  refine zx_if_ne (pc := 8) (tgt := 13) dX9_keep_8 (by decide) (fun h8 => by first | exact absurd h8 (show ¬ ¬ zHas 2 x = 0 from fun q => q hu) | exact absurd (show ¬ ¬ zHas 2 x = 0 from fun q => q hu) h8) (fun h8 => ?_)
  refine zx_iconst (pc := 11) (v := -1) dX9_keep_11 (by decide) ?_
  exact zx_fi (pc := 12) dX9_keep_12 rfl rfl (Nat.le_refl _) (Nat.le_refl _) rfl rfl
set_option maxHeartbeats 4000000 in
theorem q_keep {d : Nat} {k : Nat} {tx : (Nat → Int32) × Int32} {gg : (Nat → Int32) × (Nat → Int32) × (Nat → Int32) × (Nat → Int32) × Int32 × Int32 × Int32} {nt : (Nat → Int32)} {ns : (Nat → Int32)} {n2 : Int32} {n3 : Int32} {n4 : Int32} {n5 : Int32} {n6 : Int32} {n7 : Int32} {n8 : Int32} {tr : (Nat → Int32) × (Nat → Int32) × Int32 × Int32 × Int32 × Int32 × Int32 × Int32 × Int32} {wk : (Nat → Int32) × Int32 × Int32 × Int32} {pl : (Nat → Int32) × Int32 × Int32 × Int32 × Int32 × Int32} {ac : (Nat → zStt) × Int32 × Int32} {sk : (Nat → zStt)} {su : (Nat → Int32)} {si : (Nat → Int32) × (Nat → Int32) × (Nat → Int32) × Int32} {sd : Int64} {tau : List zCel} (hk : k < 2) : zCf yX9_keep cX9_keep 2 (some .int) (d + 3) [.ref 0, .int (nI k)] (encC tx gg (nt, ns, n2, n3, n4, n5, n6, n7, n8) tr wk pl ac (sk, su) si sd ++ tau) (some (.int (n8))) (encC tx gg (nt, ns, n2, n3, n4, n5, n6, n7, n8) tr wk pl ac ((va_up sk k (zcpS (nt, ns, n2, n3, n4, n5, n6, n7, n8) (sk k))), (upd su k 1)) si sd ++ tau) := by
  refine zC.intro (by decide) (Nat.le_of_ble_eq_true rfl) rfl ?_
  refine zx_aload_n (pc := 0) dX9_keep_0 rfl rfl ?_
  refine g0_7 (pc := 1) fl_X9_57 dX9_keep_1 ?_
  refine zx_iload_n (pc := 4) dX9_keep_4 rfl rfl ?_
  refine zx_fV1 (pc := 5) (k_slotsHas (d := d + 2) ) cl_X9_280 p62 rfl dX9_keep_5 rfl rfl (by omega) (Nat.le_of_ble_eq_true rfl) (Nat.le_refl _) (Nat.le_refl _) ?_
  refine zx_if_ne (pc := 8) (tgt := 13) dX9_keep_8 (by decide) (fun h8 => ?_) (fun h8 => by first | exact absurd h8 (show ¬ zHas (nI 2) (nI k) = 0 by rw [zHas_1 hk (by decide)]; decide) | exact absurd (show ¬ zHas (nI 2) (nI k) = 0 by rw [zHas_1 hk (by decide)]; decide) h8)
  refine zx_aload_n (pc := 13) dX9_keep_13 rfl rfl ?_
  refine g0_7 (pc := 14) fl_X9_57 dX9_keep_14 ?_
  refine zx_iload_n (pc := 17) dX9_keep_17 rfl rfl ?_
  refine zx_aload_n (pc := 18) dX9_keep_18 rfl rfl ?_
  refine g0_2 (pc := 19) fl_X9_26 dX9_keep_19 ?_
  refine zx_fV0 (pc := 22) (k_store (d := d) hk) cl_X9_283 p62 rfl dX9_keep_22 rfl rfl (by omega) (Nat.le_of_ble_eq_true rfl) (Nat.le_refl _) (Nat.le_refl _) ?_
  refine zx_aload_n (pc := 25) dX9_keep_25 rfl rfl ?_
  refine g0_2 (pc := 26) fl_X9_26 dX9_keep_26 ?_
  refine g8_8 (pc := 29) fl_X9_128 dX9_keep_29 ?_
  exact zx_fi (pc := 32) dX9_keep_32 rfl rfl (Nat.le_refl _) (Nat.le_refl _) rfl rfl
set_option maxHeartbeats 4000000 in
theorem q_again_un {d : Nat} {x : Int32} {tx : (Nat → Int32) × Int32} {gg : (Nat → Int32) × (Nat → Int32) × (Nat → Int32) × (Nat → Int32) × Int32 × Int32 × Int32} {nw : (Nat → Int32) × (Nat → Int32) × Int32 × Int32 × Int32 × Int32 × Int32 × Int32 × Int32} {tr : (Nat → Int32) × (Nat → Int32) × Int32 × Int32 × Int32 × Int32 × Int32 × Int32 × Int32} {wk : (Nat → Int32) × Int32 × Int32 × Int32} {pl : (Nat → Int32) × Int32 × Int32 × Int32 × Int32 × Int32} {ac : (Nat → zStt) × Int32 × Int32} {sl : (Nat → zStt) × (Nat → Int32)} {si : (Nat → Int32) × (Nat → Int32) × (Nat → Int32) × Int32} {sd : Int64} {tau : List zCel} (hu : zHas 2 x = 0) : zCf yX9_again cX9_again 2 (some .int) (d + 3) [.ref 0, .int x] (encC tx gg nw tr wk pl ac sl si sd ++ tau) (some (.int (-1))) (encC tx gg nw tr wk pl ac sl si sd ++ tau) := by
  refine zC.intro (by decide) (Nat.le_of_ble_eq_true rfl) rfl ?_
  refine zx_aload_n (pc := 0) dX9_again_0 rfl rfl ?_
  refine g0_7 (pc := 1) fl_X9_57 dX9_again_1 ?_
  refine zx_iload_n (pc := 4) dX9_again_4 rfl rfl ?_
  refine zx_fV1 (pc := 5) (k_slotsHas (d := d + 2) ) cl_X9_280 p62 rfl dX9_again_5 rfl rfl (by omega) (Nat.le_of_ble_eq_true rfl) (Nat.le_refl _) (Nat.le_refl _) ?_
  refine zx_if_ne (pc := 8) (tgt := 13) dX9_again_8 (by decide) (fun h8 => by first | exact absurd h8 (show ¬ ¬ zHas 2 x = 0 from fun q => q hu) | exact absurd (show ¬ ¬ zHas 2 x = 0 from fun q => q hu) h8) (fun h8 => ?_)
  refine zx_iconst (pc := 11) (v := -1) dX9_again_11 (by decide) ?_
  exact zx_fi (pc := 12) dX9_again_12 rfl rfl (Nat.le_refl _) (Nat.le_refl _) rfl rfl
set_option maxHeartbeats 4000000 in
theorem q_again_late {d : Nat} {k : Nat} {tx : (Nat → Int32) × Int32} {gg : (Nat → Int32) × (Nat → Int32) × (Nat → Int32) × (Nat → Int32) × Int32 × Int32 × Int32} {nw : (Nat → Int32) × (Nat → Int32) × Int32 × Int32 × Int32 × Int32 × Int32 × Int32 × Int32} {tr : (Nat → Int32) × (Nat → Int32) × Int32 × Int32 × Int32 × Int32 × Int32 × Int32 × Int32} {wk : (Nat → Int32) × Int32 × Int32 × Int32} {pl : (Nat → Int32) × Int32 × Int32 × Int32 × Int32 × Int32} {ac : (Nat → zStt) × Int32 × Int32} {sk : (Nat → zStt)} {su : (Nat → Int32)} {si : (Nat → Int32) × (Nat → Int32) × (Nat → Int32) × Int32} {sd : Int64} {tau : List zCel} (hk : k < 2) (hl : su k = 0) : zCf yX9_again cX9_again 2 (some .int) (d + 3) [.ref 0, .int (nI k)] (encC tx gg nw tr wk pl ac (sk, su) si sd ++ tau) (some (.int (-3))) (encC tx gg nw tr wk pl ac (sk, su) si sd ++ tau) := by
  refine zC.intro (by decide) (Nat.le_of_ble_eq_true rfl) rfl ?_
  refine zx_aload_n (pc := 0) dX9_again_0 rfl rfl ?_
  refine g0_7 (pc := 1) fl_X9_57 dX9_again_1 ?_
  refine zx_iload_n (pc := 4) dX9_again_4 rfl rfl ?_
  refine zx_fV1 (pc := 5) (k_slotsHas (d := d + 2) ) cl_X9_280 p62 rfl dX9_again_5 rfl rfl (by omega) (Nat.le_of_ble_eq_true rfl) (Nat.le_refl _) (Nat.le_refl _) ?_
  refine zx_if_ne (pc := 8) (tgt := 13) dX9_again_8 (by decide) (fun h8 => ?_) (fun h8 => by first | exact absurd h8 (show ¬ zHas (nI 2) (nI k) = 0 by rw [zHas_1 hk (by decide)]; decide) | exact absurd (show ¬ zHas (nI 2) (nI k) = 0 by rw [zHas_1 hk (by decide)]; decide) h8)
  refine zx_aload_n (pc := 13) dX9_again_13 rfl rfl ?_
  refine g0_7 (pc := 14) fl_X9_57 dX9_again_14 ?_
  refine g62_1 (pc := 17) fl_X9_287 dX9_again_17 ?_
  refine zx_iload_n (pc := 20) dX9_again_20 rfl rfl ?_
  refine a64 (pc := 21) (zix_n hk) dX9_again_21 ?_
  refine zx_if_ne (pc := 22) (tgt := 28) dX9_again_22 (by decide) (fun h22 => by first | exact absurd h22 (show ¬ ¬ su k = 0 from fun q => q hl) | exact absurd (show ¬ ¬ su k = 0 from fun q => q hl) h22) (fun h22 => ?_)
  refine zx_bipush (pc := 25) (v := -3) dX9_again_25 (by decide) ?_
  exact zx_fi (pc := 27) dX9_again_27 rfl rfl (Nat.le_refl _) (Nat.le_refl _) rfl rfl
set_option maxHeartbeats 4000000 in
theorem q_again_ok {d : Nat} {k : Nat} {tx : (Nat → Int32) × Int32} {gg : (Nat → Int32) × (Nat → Int32) × (Nat → Int32) × (Nat → Int32) × Int32 × Int32 × Int32} {nw : (Nat → Int32) × (Nat → Int32) × Int32 × Int32 × Int32 × Int32 × Int32 × Int32 × Int32} {tr : (Nat → Int32) × (Nat → Int32) × Int32 × Int32 × Int32 × Int32 × Int32 × Int32 × Int32} {wk : (Nat → Int32) × Int32 × Int32 × Int32} {pl : (Nat → Int32) × Int32 × Int32 × Int32 × Int32 × Int32} {ab : (Nat → zStt)} {an : Int32} {az : Int32} {sk : (Nat → zStt)} {su : (Nat → Int32)} {si : (Nat → Int32) × (Nat → Int32) × (Nat → Int32) × Int32} {sd : Int64} {tau : List zCel} (hk : k < 2) (hl : ¬ su k = 0) : zCf yX9_again cX9_again 2 (some .int) (d + 3) [.ref 0, .int (nI k)] (encC tx gg nw tr wk pl (ab, an, az) (sk, su) si sd ++ tau) (some (.int ((sk k).2.2.2.2.2.2.2.2))) (encC tx gg (zcpS (sk k) nw) tr wk pl (ab, an, 0) (sk, su) si sd ++ tau) := by
  refine zC.intro (by decide) (Nat.le_of_ble_eq_true rfl) rfl ?_
  refine zx_aload_n (pc := 0) dX9_again_0 rfl rfl ?_
  refine g0_7 (pc := 1) fl_X9_57 dX9_again_1 ?_
  refine zx_iload_n (pc := 4) dX9_again_4 rfl rfl ?_
  refine zx_fV1 (pc := 5) (k_slotsHas (d := d + 2) ) cl_X9_280 p62 rfl dX9_again_5 rfl rfl (by omega) (Nat.le_of_ble_eq_true rfl) (Nat.le_refl _) (Nat.le_refl _) ?_
  refine zx_if_ne (pc := 8) (tgt := 13) dX9_again_8 (by decide) (fun h8 => ?_) (fun h8 => by first | exact absurd h8 (show ¬ zHas (nI 2) (nI k) = 0 by rw [zHas_1 hk (by decide)]; decide) | exact absurd (show ¬ zHas (nI 2) (nI k) = 0 by rw [zHas_1 hk (by decide)]; decide) h8)
  refine zx_aload_n (pc := 13) dX9_again_13 rfl rfl ?_
  refine g0_7 (pc := 14) fl_X9_57 dX9_again_14 ?_
  refine g62_1 (pc := 17) fl_X9_287 dX9_again_17 ?_
  refine zx_iload_n (pc := 20) dX9_again_20 rfl rfl ?_
  refine a64 (pc := 21) (zix_n hk) dX9_again_21 ?_
  refine zx_if_ne (pc := 22) (tgt := 28) dX9_again_22 (by decide) (fun h22 => ?_) (fun h22 => by first | exact absurd h22 hl | exact absurd hl h22)
  refine zx_aload_n (pc := 28) dX9_again_28 rfl rfl ?_
  refine g0_7 (pc := 29) fl_X9_57 dX9_again_29 ?_
  refine zx_iload_n (pc := 32) dX9_again_32 rfl rfl ?_
  refine zx_aload_n (pc := 33) dX9_again_33 rfl rfl ?_
  refine g0_2 (pc := 34) fl_X9_26 dX9_again_34 ?_
  refine zx_fV0 (pc := 37) (k_bringBack (d := d) hk hl) cl_X9_291 p62 rfl dX9_again_37 rfl rfl (by omega) (Nat.le_of_ble_eq_true rfl) (Nat.le_refl _) (Nat.le_refl _) ?_
  refine zx_aload_n (pc := 40) dX9_again_40 rfl rfl ?_
  refine g0_6 (pc := 41) fl_X9_50 dX9_again_41 ?_
  refine zx_fV0 (pc := 44) (k_actsForget (d := d + 2) ) cl_X9_88 p18 rfl dX9_again_44 rfl rfl (by omega) (Nat.le_of_ble_eq_true rfl) (Nat.le_refl _) (Nat.le_refl _) ?_
  refine zx_aload_n (pc := 47) dX9_again_47 rfl rfl ?_
  refine g0_2 (pc := 48) fl_X9_26 dX9_again_48 ?_
  refine g8_8 (pc := 51) fl_X9_128 dX9_again_51 ?_
  exact zx_fi (pc := 54) dX9_again_54 rfl rfl (Nat.le_refl _) (Nat.le_refl _) rfl rfl
set_option maxHeartbeats 8000000 in
theorem lp_share {d n0 H F hd a : Nat} {b : Int32} {pp : Nat → Int32} {w0 : zWkT} {tx : (Nat → Int32) × Int32} {gs : (Nat → Int32)} {gk : (Nat → Int32)} {gf : (Nat → Int32)} {ga : (Nat → Int32)} {gc : Int32} {nt : (Nat → Int32)} {ns : (Nat → Int32)} {n2 : Int32} {n3 : Int32} {n4 : Int32} {n5 : Int32} {n6 : Int32} {n7 : Int32} {n8 : Int32} {tr : (Nat → Int32) × (Nat → Int32) × Int32 × Int32 × Int32 × Int32 × Int32 × Int32 × Int32} {b1 : Int32} {b2 : Int32} {b3 : Int32} {b4 : Int32} {b5 : Int32} {ac : (Nat → zStt) × Int32 × Int32} {sl : (Nat → zStt) × (Nat → Int32)} {si : (Nat → Int32) × (Nat → Int32) × (Nat → Int32) × Int32} {sd : Int64} {tau : List zCel} (hH : H ≤ 5) (hF : F ≤ 3) (ha : (if 0 ≤ (zShR gs gk gf F H hd nt ns n2 pp w0 (2 ^ H)).1 then (zShR gs gk gf F H hd nt ns n2 pp w0 (2 ^ H)).1 else 0 - (zShR gs gk gf F H hd nt ns n2 pp w0 (2 ^ H)).1) = nI a) (ha2 : a < 2 ^ 31) : ∀ k i : Nat, i + k = 2 ^ H → ∀ o5 : Option Value, zX RX9 cX9_share 6 (some .int) "share" none (d + 5) n0 0 0 0 0 (fun r s => r = some (.int ((if b = 0 then nI (zfn H) else (zShR gs gk gf F H hd nt ns n2 pp w0 (2 ^ H)).1) / nI (Nat.gcd a (zfn H)))) ∧ s = encC tx (gs, gk, gf, ga, (nI H), (nI F), gc) (nt, ns, n2, n3, n4, n5, n6, n7, n8) tr (zShR gs gk gf F H hd nt ns n2 pp w0 (2 ^ H)).2.2 ((zShR gs gk gf F H hd nt ns n2 pp w0 (2 ^ H)).2.1, b1, b2, b3, b4, b5) ac sl si sd ++ tau) 18 [some (.ref 0), some (.int (nI hd)), some (.int b), some (.int (zShR gs gk gf F H hd nt ns n2 pp w0 i).1), some (.int (nI i)), o5] [] (encC tx (gs, gk, gf, ga, (nI H), (nI F), gc) (nt, ns, n2, n3, n4, n5, n6, n7, n8) tr (zShR gs gk gf F H hd nt ns n2 pp w0 i).2.2 ((zShR gs gk gf F H hd nt ns n2 pp w0 i).2.1, b1, b2, b3, b4, b5) ac sl si sd ++ tau) := by
  have hp : 2 ^ H ≤ 32 := Nat.le_trans (Nat.pow_le_pow_right (by decide) hH) (by decide)
  have hfn : 0 < zfn H ∧ zfn H ≤ 120 := by
    have : ∀ H, H ≤ 5 → 0 < zfn H ∧ zfn H ≤ 120 := by decide
    exact this H hH
  intro k
  induction k with
  | zero =>
    intro i hi o5
    obtain rfl : i = 2 ^ H := by omega
    refine zx_iload (pc := 18) dX9_share_18 rfl ?_
    refine zx_iconst (pc := 20) (v := 1) dX9_share_20 (by decide) ?_
    refine zx_aload_n (pc := 21) dX9_share_21 rfl rfl ?_
    refine g0_1 (pc := 22) fl_X9_19 dX9_share_22 ?_
    refine g3_4 (pc := 25) fl_X9_92 dX9_share_25 ?_
    refine zx_ishl (pc := 28) dX9_share_28 ?_
    rw [zsh1 H (by omega)]
    refine zx_icmp_ge (pc := 29) (tgt := 81) dX9_share_29 (by decide) (fun h29 => ?_) (fun h29 => by first | exact absurd h29 (show nI (2 ^ H) ≤ nI (2 ^ H) from Int32.le_refl _) | exact absurd (show nI (2 ^ H) ≤ nI (2 ^ H) from Int32.le_refl _) h29)
    refine zx_iload_n (pc := 81) dX9_share_81 rfl rfl ?_
    refine zx_aload_n (pc := 82) dX9_share_82 rfl rfl ?_
    refine g0_1 (pc := 83) fl_X9_19 dX9_share_83 ?_
    refine g3_4 (pc := 86) fl_X9_92 dX9_share_86 ?_
    refine zx_fS1 (pc := 89) (k_factorial (d := d + 4) ) cl_X9_241 dX9_share_89 rfl rfl (by omega) (Nat.le_of_ble_eq_true rfl) (Nat.le_refl _) (Nat.le_refl _) ?_
    rw [zFcN H hH]
    refine zx_iload_n (pc := 92) dX9_share_92 rfl rfl ?_
    refine zx_fS1 (pc := 93) (k_fraction (d := d + 3) (a := a) (b := zfn H) ha ha2 (by omega) hfn.1) cl_X9_244 dX9_share_93 rfl rfl (by omega) (Nat.le_of_ble_eq_true rfl) (Nat.le_refl _) (Nat.le_refl _) ?_
    exact zx_fi (pc := 96) dX9_share_96 rfl rfl (Nat.le_refl _) (Nat.le_refl _) rfl rfl
  | succ k ih =>
    intro i hi o5
    generalize hS : zShR gs gk gf F H hd nt ns n2 pp w0 i = S
    have hst : zShR gs gk gf F H hd nt ns n2 pp w0 (i + 1) = zSh1 gs gk gf F H hd nt ns n2 i S := by rw [zShR, hS]
    refine zx_iload (pc := 18) dX9_share_18 rfl ?_
    refine zx_iconst (pc := 20) (v := 1) dX9_share_20 (by decide) ?_
    refine zx_aload_n (pc := 21) dX9_share_21 rfl rfl ?_
    refine g0_1 (pc := 22) fl_X9_19 dX9_share_22 ?_
    refine g3_4 (pc := 25) fl_X9_92 dX9_share_25 ?_
    refine zx_ishl (pc := 28) dX9_share_28 ?_
    rw [zsh1 H (by omega)]
    refine zx_icmp_ge (pc := 29) (tgt := 81) dX9_share_29 (by decide) (fun h29 => by first | exact absurd h29 (nI_ge (show i < 2 ^ H by omega) (by omega)) | exact absurd (nI_ge (show i < 2 ^ H by omega) (by omega)) h29) (fun h29 => ?_)
    refine zx_iload (pc := 32) dX9_share_32 rfl ?_
    refine zx_iload_n (pc := 34) dX9_share_34 rfl rfl ?_
    refine zx_ishr (pc := 35) dX9_share_35 ?_
    refine zx_iconst (pc := 36) (v := 1) dX9_share_36 (by decide) ?_
    refine zx_iand (pc := 37) dX9_share_37 ?_
    refine zx_if_ne (pc := 38) (tgt := 75) dX9_share_38 (by decide) (fun h38 => ?_) (fun h38 => ?_)
    · refine ic_4_6_1 (pc := 75) dX9_share_75 rfl ?_
      refine zx_goto (pc := 78) (tgt := 18) dX9_share_78 (by decide) ?_
      rw [nI_1]
      have hs := ih (i + 1) (by omega)
      simp only [hst, zSh1, h38, reduceIte] at hs
      exact hs _
    · refine zx_aload_n (pc := 41) dX9_share_41 rfl rfl ?_
      refine zx_iload (pc := 42) dX9_share_42 rfl ?_
      refine zx_iconst (pc := 44) (v := 1) dX9_share_44 (by decide) ?_
      refine zx_iload_n (pc := 45) dX9_share_45 rfl rfl ?_
      refine zx_ishl (pc := 46) dX9_share_46 ?_
      refine zx_ior (pc := 47) dX9_share_47 ?_
      refine zx_fV1 (pc := 48) (k_comers (d := d) hH hF) cl_X9_235 p0 rfl dX9_share_48 rfl rfl (by omega) (Nat.le_of_ble_eq_true rfl) (Nat.le_refl _) (Nat.le_refl _) ?_
      refine zx_aload_n (pc := 51) dX9_share_51 rfl rfl ?_
      refine zx_iload (pc := 52) dX9_share_52 rfl ?_
      refine zx_fV1 (pc := 54) (k_comers (d := d) hH hF) cl_X9_235 p0 rfl dX9_share_54 rfl rfl (by omega) (Nat.le_of_ble_eq_true rfl) (Nat.le_refl _) (Nat.le_refl _) ?_
      refine zx_isub (pc := 57) dX9_share_57 ?_
      refine st_5_6 (pc := 58) dX9_share_58 rfl ?_
      refine zx_iload_n (pc := 60) dX9_share_60 rfl rfl ?_
      refine zx_iload (pc := 61) dX9_share_61 rfl ?_
      refine zx_aload_n (pc := 63) dX9_share_63 rfl rfl ?_
      refine zx_iload (pc := 64) dX9_share_64 rfl ?_
      refine zx_fS1 (pc := 66) (k_bitCount (d := d + 4) ) cl_X9_230 dX9_share_66 rfl rfl (by omega) (Nat.le_of_ble_eq_true rfl) (Nat.le_refl _) (Nat.le_refl _) ?_
      refine zx_fV1 (pc := 69) (k_ordersBehind (d := d + 3) ) cl_X9_238 p0 rfl dX9_share_69 rfl rfl (by omega) (Nat.le_of_ble_eq_true rfl) (Nat.le_refl _) (Nat.le_refl _) ?_
      refine zx_imul (pc := 72) dX9_share_72 ?_
      refine zx_iadd (pc := 73) dX9_share_73 ?_
      refine st_3_6 (pc := 74) dX9_share_74 rfl ?_
      refine ic_4_6_1 (pc := 75) dX9_share_75 rfl ?_
      refine zx_goto (pc := 78) (tgt := 18) dX9_share_78 (by decide) ?_
      rw [nI_1]
      have hs := ih (i + 1) (by omega)
      simp only [hst, zSh1, h38, reduceIte] at hs
      exact hs _
set_option maxHeartbeats 4000000 in
theorem q_share_un {d : Nat} {H F : Nat} {x y : Int32} {tx : (Nat → Int32) × Int32} {gs : (Nat → Int32)} {gk : (Nat → Int32)} {gf : (Nat → Int32)} {ga : (Nat → Int32)} {gc : Int32} {nw : (Nat → Int32) × (Nat → Int32) × Int32 × Int32 × Int32 × Int32 × Int32 × Int32 × Int32} {tr : (Nat → Int32) × (Nat → Int32) × Int32 × Int32 × Int32 × Int32 × Int32 × Int32 × Int32} {wk : (Nat → Int32) × Int32 × Int32 × Int32} {pl : (Nat → Int32) × Int32 × Int32 × Int32 × Int32 × Int32} {ac : (Nat → zStt) × Int32 × Int32} {sl : (Nat → zStt) × (Nat → Int32)} {si : (Nat → Int32) × (Nat → Int32) × (Nat → Int32) × Int32} {sd : Int64} {tau : List zCel} (hu : zHas (nI H) x = 0) : zCf yX9_share cX9_share 6 (some .int) (d + 5) [.ref 0, .int x, .int y] (encC tx (gs, gk, gf, ga, (nI H), (nI F), gc) nw tr wk pl ac sl si sd ++ tau) (some (.int (-1))) (encC tx (gs, gk, gf, ga, (nI H), (nI F), gc) nw tr wk pl ac sl si sd ++ tau) := by
  refine zC.intro (by decide) (Nat.le_of_ble_eq_true rfl) rfl ?_
  refine zx_aload_n (pc := 0) dX9_share_0 rfl rfl ?_
  refine g0_1 (pc := 1) fl_X9_19 dX9_share_1 ?_
  refine zx_iload_n (pc := 4) dX9_share_4 rfl rfl ?_
  refine zx_fV1 (pc := 5) (k_hasHand (d := d + 4) ) cl_X9_135 p3 rfl dX9_share_5 rfl rfl (by omega) (Nat.le_of_ble_eq_true rfl) (Nat.le_refl _) (Nat.le_refl _) ?_
  refine zx_if_ne (pc := 8) (tgt := 13) dX9_share_8 (by decide) (fun h8 => by first | exact absurd h8 (show ¬ ¬ zHas (nI H) x = 0 from fun q => q hu) | exact absurd (show ¬ ¬ zHas (nI H) x = 0 from fun q => q hu) h8) (fun h8 => ?_)
  refine zx_iconst (pc := 11) (v := -1) dX9_share_11 (by decide) ?_
  exact zx_fi (pc := 12) dX9_share_12 rfl rfl (Nat.le_refl _) (Nat.le_refl _) rfl rfl
set_option maxHeartbeats 4000000 in
theorem q_share {d : Nat} {H F hd a : Nat} {b : Int32} {tx : (Nat → Int32) × Int32} {gs : (Nat → Int32)} {gk : (Nat → Int32)} {gf : (Nat → Int32)} {ga : (Nat → Int32)} {gc : Int32} {nt : (Nat → Int32)} {ns : (Nat → Int32)} {n2 : Int32} {n3 : Int32} {n4 : Int32} {n5 : Int32} {n6 : Int32} {n7 : Int32} {n8 : Int32} {tr : (Nat → Int32) × (Nat → Int32) × Int32 × Int32 × Int32 × Int32 × Int32 × Int32 × Int32} {wk : (Nat → Int32) × Int32 × Int32 × Int32} {pt : (Nat → Int32)} {b1 : Int32} {b2 : Int32} {b3 : Int32} {b4 : Int32} {b5 : Int32} {ac : (Nat → zStt) × Int32 × Int32} {sl : (Nat → zStt) × (Nat → Int32)} {si : (Nat → Int32) × (Nat → Int32) × (Nat → Int32) × Int32} {sd : Int64} {tau : List zCel} (hh : hd < H) (hH : H ≤ 5) (hF : F ≤ 3) (ha : (if 0 ≤ (zShR gs gk gf F H hd nt ns n2 pt wk (2 ^ H)).1 then (zShR gs gk gf F H hd nt ns n2 pt wk (2 ^ H)).1 else 0 - (zShR gs gk gf F H hd nt ns n2 pt wk (2 ^ H)).1) = nI a) (ha2 : a < 2 ^ 31) : zCf yX9_share cX9_share 6 (some .int) (d + 5) [.ref 0, .int (nI hd), .int b] (encC tx (gs, gk, gf, ga, (nI H), (nI F), gc) (nt, ns, n2, n3, n4, n5, n6, n7, n8) tr wk (pt, b1, b2, b3, b4, b5) ac sl si sd ++ tau) (some (.int ((if b = 0 then nI (zfn H) else (zShR gs gk gf F H hd nt ns n2 pt wk (2 ^ H)).1) / nI (Nat.gcd a (zfn H))))) (encC tx (gs, gk, gf, ga, (nI H), (nI F), gc) (nt, ns, n2, n3, n4, n5, n6, n7, n8) tr (zShR gs gk gf F H hd nt ns n2 pt wk (2 ^ H)).2.2 ((zShR gs gk gf F H hd nt ns n2 pt wk (2 ^ H)).2.1, b1, b2, b3, b4, b5) ac sl si sd ++ tau) := by
  refine zC.intro (by decide) (Nat.le_of_ble_eq_true rfl) rfl ?_
  refine zx_aload_n (pc := 0) dX9_share_0 rfl rfl ?_
  refine g0_1 (pc := 1) fl_X9_19 dX9_share_1 ?_
  refine zx_iload_n (pc := 4) dX9_share_4 rfl rfl ?_
  refine zx_fV1 (pc := 5) (k_hasHand (d := d + 4) ) cl_X9_135 p3 rfl dX9_share_5 rfl rfl (by omega) (Nat.le_of_ble_eq_true rfl) (Nat.le_refl _) (Nat.le_refl _) ?_
  refine zx_if_ne (pc := 8) (tgt := 13) dX9_share_8 (by decide) (fun h8 => ?_) (fun h8 => by first | exact absurd h8 (show ¬ zHas (nI H) (nI hd) = 0 by rw [zHas_1 hh (by omega)]; decide) | exact absurd (show ¬ zHas (nI H) (nI hd) = 0 by rw [zHas_1 hh (by omega)]; decide) h8)
  refine zx_iconst (pc := 13) (v := 0) dX9_share_13 (by decide) ?_
  refine st_3_6 (pc := 14) dX9_share_14 rfl ?_
  refine zx_iconst (pc := 15) (v := 0) dX9_share_15 (by decide) ?_
  refine st_4_6 (pc := 16) dX9_share_16 rfl ?_
  exact lp_share hH hF ha ha2 (2 ^ H) 0 (by omega) _
