set_option maxHeartbeats 4000000 in
theorem k_hasHand {d : Nat} {x : Int32} {tx : (Nat → Int32) × Int32} {gs : (Nat → Int32)} {gk : (Nat → Int32)} {gf : (Nat → Int32)} {ga : (Nat → Int32)} {gh : Int32} {gd : Int32} {gc : Int32} {nw : (Nat → Int32) × (Nat → Int32) × Int32 × Int32 × Int32 × Int32 × Int32 × Int32 × Int32} {tr : (Nat → Int32) × (Nat → Int32) × Int32 × Int32 × Int32 × Int32 × Int32 × Int32 × Int32} {wk : (Nat → Int32) × Int32 × Int32 × Int32} {pl : (Nat → Int32) × Int32 × Int32 × Int32 × Int32 × Int32} {ac : (Nat → zStt) × Int32 × Int32} {sl : (Nat → zStt) × (Nat → Int32)} {si : (Nat → Int32) × (Nat → Int32) × (Nat → Int32) × Int32} {sd : Int64} {tau : List zCel}  : zCf yX1_hasHand cX1_hasHand 2 (some .boolean) d [.ref 3, .int x] (encC tx (gs, gk, gf, ga, gh, gd, gc) nw tr wk pl ac sl si sd ++ tau) (some (.int (zHas gh x))) (encC tx (gs, gk, gf, ga, gh, gd, gc) nw tr wk pl ac sl si sd ++ tau) := by
  refine zC.intro (by decide) (Nat.le_of_ble_eq_true rfl) rfl ?_
  refine zx_iload_n (pc := 0) dX1_hasHand_0 rfl rfl ?_
  refine zx_if_lt (pc := 1) (tgt := 16) dX1_hasHand_1 (by decide) (fun h1 => ?_) (fun h1 => ?_)
  · refine zx_iconst (pc := 16) (v := 0) dX1_hasHand_16 (by decide) ?_
    exact zx_fi (pc := 17) dX1_hasHand_17 rfl (by decide) (Nat.le_refl _) (Nat.le_refl _) (by first | (simp only [zHas, h1, reduceIte, not_true_eq_false, not_false_eq_true]; done) | (simp [zHas, h1]; done)) rfl
  · refine zx_iload_n (pc := 4) dX1_hasHand_4 rfl rfl ?_
    refine zx_aload_n (pc := 5) dX1_hasHand_5 rfl rfl ?_
    refine g3_4 (pc := 6) fl_X1_24 dX1_hasHand_6 ?_
    refine zx_icmp_ge (pc := 9) (tgt := 16) dX1_hasHand_9 (by decide) (fun h9 => ?_) (fun h9 => ?_)
    · refine zx_iconst (pc := 16) (v := 0) dX1_hasHand_16 (by decide) ?_
      exact zx_fi (pc := 17) dX1_hasHand_17 rfl (by decide) (Nat.le_refl _) (Nat.le_refl _) (by first | (simp only [zHas, h1, h9, reduceIte, not_true_eq_false, not_false_eq_true]; done) | (simp [zHas, h1, h9]; done)) rfl
    · refine zx_iconst (pc := 12) (v := 1) dX1_hasHand_12 (by decide) ?_
      refine zx_goto (pc := 13) (tgt := 17) dX1_hasHand_13 (by decide) ?_
      exact zx_fi (pc := 17) dX1_hasHand_17 rfl (by decide) (Nat.le_refl _) (Nat.le_refl _) (by first | (simp only [zHas, h1, h9, reduceIte, not_true_eq_false, not_false_eq_true]; done) | (simp [zHas, h1, h9]; done)) rfl
set_option maxHeartbeats 4000000 in
theorem k_hasField {d : Nat} {x : Int32} {tx : (Nat → Int32) × Int32} {gs : (Nat → Int32)} {gk : (Nat → Int32)} {gf : (Nat → Int32)} {ga : (Nat → Int32)} {gh : Int32} {gd : Int32} {gc : Int32} {nw : (Nat → Int32) × (Nat → Int32) × Int32 × Int32 × Int32 × Int32 × Int32 × Int32 × Int32} {tr : (Nat → Int32) × (Nat → Int32) × Int32 × Int32 × Int32 × Int32 × Int32 × Int32 × Int32} {wk : (Nat → Int32) × Int32 × Int32 × Int32} {pl : (Nat → Int32) × Int32 × Int32 × Int32 × Int32 × Int32} {ac : (Nat → zStt) × Int32 × Int32} {sl : (Nat → zStt) × (Nat → Int32)} {si : (Nat → Int32) × (Nat → Int32) × (Nat → Int32) × Int32} {sd : Int64} {tau : List zCel}  : zCf yX1_hasField cX1_hasField 2 (some .boolean) d [.ref 3, .int x] (encC tx (gs, gk, gf, ga, gh, gd, gc) nw tr wk pl ac sl si sd ++ tau) (some (.int (zHas gd x))) (encC tx (gs, gk, gf, ga, gh, gd, gc) nw tr wk pl ac sl si sd ++ tau) := by
  refine zC.intro (by decide) (Nat.le_of_ble_eq_true rfl) rfl ?_
  refine zx_iload_n (pc := 0) dX1_hasField_0 rfl rfl ?_
  refine zx_if_lt (pc := 1) (tgt := 16) dX1_hasField_1 (by decide) (fun h1 => ?_) (fun h1 => ?_)
  · refine zx_iconst (pc := 16) (v := 0) dX1_hasField_16 (by decide) ?_
    exact zx_fi (pc := 17) dX1_hasField_17 rfl (by decide) (Nat.le_refl _) (Nat.le_refl _) (by first | (simp only [zHas, h1, reduceIte, not_true_eq_false, not_false_eq_true]; done) | (simp [zHas, h1]; done)) rfl
  · refine zx_iload_n (pc := 4) dX1_hasField_4 rfl rfl ?_
    refine zx_aload_n (pc := 5) dX1_hasField_5 rfl rfl ?_
    refine g3_5 (pc := 6) fl_X1_28 dX1_hasField_6 ?_
    refine zx_icmp_ge (pc := 9) (tgt := 16) dX1_hasField_9 (by decide) (fun h9 => ?_) (fun h9 => ?_)
    · refine zx_iconst (pc := 16) (v := 0) dX1_hasField_16 (by decide) ?_
      exact zx_fi (pc := 17) dX1_hasField_17 rfl (by decide) (Nat.le_refl _) (Nat.le_refl _) (by first | (simp only [zHas, h1, h9, reduceIte, not_true_eq_false, not_false_eq_true]; done) | (simp [zHas, h1, h9]; done)) rfl
    · refine zx_iconst (pc := 12) (v := 1) dX1_hasField_12 (by decide) ?_
      refine zx_goto (pc := 13) (tgt := 17) dX1_hasField_13 (by decide) ?_
      exact zx_fi (pc := 17) dX1_hasField_17 rfl (by decide) (Nat.le_refl _) (Nat.le_refl _) (by first | (simp only [zHas, h1, h9, reduceIte, not_true_eq_false, not_false_eq_true]; done) | (simp [zHas, h1, h9]; done)) rfl
set_option maxHeartbeats 4000000 in
theorem k_hasTask {d : Nat} {x : Int32} {tx : (Nat → Int32) × Int32} {gs : (Nat → Int32)} {gk : (Nat → Int32)} {gf : (Nat → Int32)} {ga : (Nat → Int32)} {gh : Int32} {gd : Int32} {gc : Int32} {nw : (Nat → Int32) × (Nat → Int32) × Int32 × Int32 × Int32 × Int32 × Int32 × Int32 × Int32} {tr : (Nat → Int32) × (Nat → Int32) × Int32 × Int32 × Int32 × Int32 × Int32 × Int32 × Int32} {wk : (Nat → Int32) × Int32 × Int32 × Int32} {pl : (Nat → Int32) × Int32 × Int32 × Int32 × Int32 × Int32} {ac : (Nat → zStt) × Int32 × Int32} {sl : (Nat → zStt) × (Nat → Int32)} {si : (Nat → Int32) × (Nat → Int32) × (Nat → Int32) × Int32} {sd : Int64} {tau : List zCel}  : zCf yX1_hasTask cX1_hasTask 2 (some .boolean) (d + 1) [.ref 3, .int x] (encC tx (gs, gk, gf, ga, gh, gd, gc) nw tr wk pl ac sl si sd ++ tau) (some (.int (zTask gd x))) (encC tx (gs, gk, gf, ga, gh, gd, gc) nw tr wk pl ac sl si sd ++ tau) := by
  refine zC.intro (by decide) (Nat.le_of_ble_eq_true rfl) rfl ?_
  refine zx_iload_n (pc := 0) dX1_hasTask_0 rfl rfl ?_
  refine zx_if_eq (pc := 1) (tgt := 19) dX1_hasTask_1 (by decide) (fun h1 => ?_) (fun h1 => ?_)
  · refine zx_iconst (pc := 19) (v := 1) dX1_hasTask_19 (by decide) ?_
    refine zx_goto (pc := 20) (tgt := 24) dX1_hasTask_20 (by decide) ?_
    exact zx_fi (pc := 24) dX1_hasTask_24 rfl (by decide) (Nat.le_refl _) (Nat.le_refl _) (by first | (simp only [zTask, h1, reduceIte, not_true_eq_false, not_false_eq_true]; done) | (simp [zTask, h1]; done)) rfl
  · refine zx_iload_n (pc := 4) dX1_hasTask_4 rfl rfl ?_
    refine zx_iconst (pc := 5) (v := 1) dX1_hasTask_5 (by decide) ?_
    refine zx_icmp_eq (pc := 6) (tgt := 19) dX1_hasTask_6 (by decide) (fun h6 => ?_) (fun h6 => ?_)
    · refine zx_iconst (pc := 19) (v := 1) dX1_hasTask_19 (by decide) ?_
      refine zx_goto (pc := 20) (tgt := 24) dX1_hasTask_20 (by decide) ?_
      exact zx_fi (pc := 24) dX1_hasTask_24 rfl (by decide) (Nat.le_refl _) (Nat.le_refl _) (by first | (simp only [zTask, h1, h6, reduceIte, not_true_eq_false, not_false_eq_true]; done) | (simp [zTask, h1, h6]; done)) rfl
    · refine zx_aload_n (pc := 9) dX1_hasTask_9 rfl rfl ?_
      refine zx_iload_n (pc := 10) dX1_hasTask_10 rfl rfl ?_
      refine zx_iconst (pc := 11) (v := 2) dX1_hasTask_11 (by decide) ?_
      refine zx_isub (pc := 12) dX1_hasTask_12 ?_
      refine zx_fV1 (pc := 13) (k_hasField (d := d) ) cl_X1_53 p3 rfl dX1_hasTask_13 rfl rfl (by omega) (Nat.le_of_ble_eq_true rfl) (Nat.le_refl _) (Nat.le_refl _) ?_
      refine zx_if_eq (pc := 16) (tgt := 23) dX1_hasTask_16 (by decide) (fun h16 => ?_) (fun h16 => ?_)
      · refine zx_iconst (pc := 23) (v := 0) dX1_hasTask_23 (by decide) ?_
        exact zx_fi (pc := 24) dX1_hasTask_24 rfl (by decide) (Nat.le_refl _) (Nat.le_refl _) (by first | (simp only [zTask, h1, h6, h16, reduceIte, not_true_eq_false, not_false_eq_true]; done) | (simp [zTask, h1, h6, h16]; done)) rfl
      · refine zx_iconst (pc := 19) (v := 1) dX1_hasTask_19 (by decide) ?_
        refine zx_goto (pc := 20) (tgt := 24) dX1_hasTask_20 (by decide) ?_
        exact zx_fi (pc := 24) dX1_hasTask_24 rfl (by decide) (Nat.le_refl _) (Nat.le_refl _) (by first | (simp only [zTask, h1, h6, h16, reduceIte, not_true_eq_false, not_false_eq_true]; done) | (simp [zTask, h1, h6, h16]; done)) rfl
theorem sw_X1_moulds_16 {scr : Option (Nat × (Nat → Int32))} {d n0 mc ms kc ks : Nat} {Q : Option Value → List zCel → Prop} {L : List (Option Value)} {st : List Value} {sg : List zCel} {x : Int32} (k0 : x = 1 → zX RX1 cX1_moulds 2 (some .int) "moulds" scr d n0 mc ms kc ks Q 44 L st sg) (k1 : x = 2 → zX RX1 cX1_moulds 2 (some .int) "moulds" scr d n0 mc ms kc ks Q 53 L st sg) (k2 : x = 3 → zX RX1 cX1_moulds 2 (some .int) "moulds" scr d n0 mc ms kc ks Q 62 L st sg) (kd : ¬ x = 1 → ¬ x = 2 → ¬ x = 3 → zX RX1 cX1_moulds 2 (some .int) "moulds" scr d n0 mc ms kc ks Q 64 L st sg) : zX RX1 cX1_moulds 2 (some .int) "moulds" scr d n0 mc ms kc ks Q 16 L (.int x :: st) sg := by
  by_cases c0 : x = 1
  · exact zx_tab (k := 1) (off := 28) (tgt := 44) dX1_moulds_16 (zeq c0 (by decide)) (by decide) (by decide) (by decide) (k0 c0)
  by_cases c1 : x = 2
  · exact zx_tab (k := 2) (off := 37) (tgt := 53) dX1_moulds_16 (zeq c1 (by decide)) (by decide) (by decide) (by decide) (k1 c1)
  by_cases c2 : x = 3
  · exact zx_tab (k := 3) (off := 46) (tgt := 62) dX1_moulds_16 (zeq c2 (by decide)) (by decide) (by decide) (by decide) (k2 c2)
  have e9 : x.toInt < 1 ∨ 3 < x.toInt := by
    have e0 := zne (k := 1) c0 (by decide)
    have e1 := zne (k := 2) c1 (by decide)
    have e2 := zne (k := 3) c2 (by decide)
    omega
  exact zx_tableOut (tgt := 64) dX1_moulds_16 e9 (by decide) (kd c0 c1 c2)
set_option maxHeartbeats 4000000 in
theorem k_moulds {d : Nat} {h H F : Nat} {tx : (Nat → Int32) × Int32} {gs : (Nat → Int32)} {gk : (Nat → Int32)} {gf : (Nat → Int32)} {ga : (Nat → Int32)} {gc : Int32} {nw : (Nat → Int32) × (Nat → Int32) × Int32 × Int32 × Int32 × Int32 × Int32 × Int32 × Int32} {tr : (Nat → Int32) × (Nat → Int32) × Int32 × Int32 × Int32 × Int32 × Int32 × Int32 × Int32} {wk : (Nat → Int32) × Int32 × Int32 × Int32} {pl : (Nat → Int32) × Int32 × Int32 × Int32 × Int32 × Int32} {ac : (Nat → zStt) × Int32 × Int32} {sl : (Nat → zStt) × (Nat → Int32)} {si : (Nat → Int32) × (Nat → Int32) × (Nat → Int32) × Int32} {sd : Int64} {tau : List zCel} (hh : h < H) (hH : H ≤ 5) : zCf yX1_moulds cX1_moulds 2 (some .int) (d + 1) [.ref 3, .int (nI h)] (encC tx (gs, gk, gf, ga, (nI H), (nI F), gc) nw tr wk pl ac sl si sd ++ tau) (some (.int (zMo (gk h) (gs h)))) (encC tx (gs, gk, gf, ga, (nI H), (nI F), gc) nw tr wk pl ac sl si sd ++ tau) := by
  refine zC.intro (by decide) (Nat.le_of_ble_eq_true rfl) rfl ?_
  refine zx_aload_n (pc := 0) dX1_moulds_0 rfl rfl ?_
  refine zx_iload_n (pc := 1) dX1_moulds_1 rfl rfl ?_
  refine zx_fV1 (pc := 2) (k_hasHand (d := d) ) cl_X1_57 p3 rfl dX1_moulds_2 rfl rfl (by omega) (Nat.le_of_ble_eq_true rfl) (Nat.le_refl _) (Nat.le_refl _) ?_
  refine zx_if_ne (pc := 5) (tgt := 10) dX1_moulds_5 (by decide) (fun h5 => ?_) (fun h5 => by first | exact absurd h5 (show ¬ zHas (nI H) (nI h) = 0 by rw [zHas_1 hh (by omega)]; decide) | exact absurd (show ¬ zHas (nI H) (nI h) = 0 by rw [zHas_1 hh (by omega)]; decide) h5)
  refine zx_aload_n (pc := 10) dX1_moulds_10 rfl rfl ?_
  refine g3_1 (pc := 11) fl_X1_15 dX1_moulds_11 ?_
  refine zx_iload_n (pc := 14) dX1_moulds_14 rfl rfl ?_
  refine a5 (pc := 15) (zix_n (by omega)) dX1_moulds_15 ?_
  refine sw_X1_moulds_16 (fun h16_0 => ?_) (fun h16_1 => ?_) (fun h16_2 => ?_) (fun h16_0 h16_1 h16_2 => ?_)
  · refine zx_aload_n (pc := 44) dX1_moulds_44 rfl rfl ?_
    refine g3_0 (pc := 45) fl_X1_9 dX1_moulds_45 ?_
    refine zx_iload_n (pc := 48) dX1_moulds_48 rfl rfl ?_
    refine a4 (pc := 49) (zix_n (by omega)) dX1_moulds_49 ?_
    refine zx_iconst (pc := 50) (v := 2) dX1_moulds_50 (by decide) ?_
    refine zx_iadd (pc := 51) dX1_moulds_51 ?_
    exact zx_fi (pc := 52) dX1_moulds_52 rfl rfl (Nat.le_refl _) (Nat.le_refl _) (by first | (simp only [zMo, h5, h16_0, reduceIte, not_true_eq_false, not_false_eq_true]; done) | (simp [zMo, h5, h16_0]; done)) rfl
  · refine zx_aload_n (pc := 53) dX1_moulds_53 rfl rfl ?_
    refine g3_0 (pc := 54) fl_X1_9 dX1_moulds_54 ?_
    refine zx_iload_n (pc := 57) dX1_moulds_57 rfl rfl ?_
    refine a4 (pc := 58) (zix_n (by omega)) dX1_moulds_58 ?_
    refine zx_iconst (pc := 59) (v := 1) dX1_moulds_59 (by decide) ?_
    refine zx_isub (pc := 60) dX1_moulds_60 ?_
    exact zx_fi (pc := 61) dX1_moulds_61 rfl rfl (Nat.le_refl _) (Nat.le_refl _) (by first | (simp only [zMo, h5, h16_1, reduceIte, not_true_eq_false, not_false_eq_true]; done) | (simp [zMo, h5, h16_1]; done)) rfl
  · refine zx_iconst (pc := 62) (v := 0) dX1_moulds_62 (by decide) ?_
    exact zx_fi (pc := 63) dX1_moulds_63 rfl rfl (Nat.le_refl _) (Nat.le_refl _) (by first | (simp only [zMo, h5, h16_2, reduceIte, not_true_eq_false, not_false_eq_true]; done) | (simp [zMo, h5, h16_2]; done)) rfl
  · refine zx_aload_n (pc := 64) dX1_moulds_64 rfl rfl ?_
    refine g3_0 (pc := 65) fl_X1_9 dX1_moulds_65 ?_
    refine zx_iload_n (pc := 68) dX1_moulds_68 rfl rfl ?_
    refine a4 (pc := 69) (zix_n (by omega)) dX1_moulds_69 ?_
    exact zx_fi (pc := 70) dX1_moulds_70 rfl rfl (Nat.le_refl _) (Nat.le_refl _) (by first | (simp only [zMo, h5, h16_0, h16_1, h16_2, reduceIte, not_true_eq_false, not_false_eq_true]; done) | (simp [zMo, h5, h16_0, h16_1, h16_2]; done)) rfl
set_option maxHeartbeats 4000000 in
theorem k_gathers {d : Nat} {h f H F : Nat} {tx : (Nat → Int32) × Int32} {gs : (Nat → Int32)} {gk : (Nat → Int32)} {gf : (Nat → Int32)} {ga : (Nat → Int32)} {gc : Int32} {nw : (Nat → Int32) × (Nat → Int32) × Int32 × Int32 × Int32 × Int32 × Int32 × Int32 × Int32} {tr : (Nat → Int32) × (Nat → Int32) × Int32 × Int32 × Int32 × Int32 × Int32 × Int32 × Int32} {wk : (Nat → Int32) × Int32 × Int32 × Int32} {pl : (Nat → Int32) × Int32 × Int32 × Int32 × Int32 × Int32} {ac : (Nat → zStt) × Int32 × Int32} {sl : (Nat → zStt) × (Nat → Int32)} {si : (Nat → Int32) × (Nat → Int32) × (Nat → Int32) × Int32} {sd : Int64} {tau : List zCel} (hh : h < H) (hH : H ≤ 5) (hf : f < F) (hF : F ≤ 3) : zCf yX1_gathers cX1_gathers 4 (some .int) (d + 1) [.ref 3, .int (nI h), .int (nI f)] (encC tx (gs, gk, gf, ga, (nI H), (nI F), gc) nw tr wk pl ac sl si sd ++ tau) (some (.int (zGa (gs h) (gk h) (gf f)))) (encC tx (gs, gk, gf, ga, (nI H), (nI F), gc) nw tr wk pl ac sl si sd ++ tau) := by
  refine zC.intro (by decide) (Nat.le_of_ble_eq_true rfl) rfl ?_
  refine zx_aload_n (pc := 0) dX1_gathers_0 rfl rfl ?_
  refine zx_iload_n (pc := 1) dX1_gathers_1 rfl rfl ?_
  refine zx_fV1 (pc := 2) (k_hasHand (d := d) ) cl_X1_57 p3 rfl dX1_gathers_2 rfl rfl (by omega) (Nat.le_of_ble_eq_true rfl) (Nat.le_refl _) (Nat.le_refl _) ?_
  refine zx_if_eq (pc := 5) (tgt := 16) dX1_gathers_5 (by decide) (fun h5 => by first | exact absurd h5 (show ¬ zHas (nI H) (nI h) = 0 by rw [zHas_1 hh (by omega)]; decide) | exact absurd (show ¬ zHas (nI H) (nI h) = 0 by rw [zHas_1 hh (by omega)]; decide) h5) (fun h5 => ?_)
  refine zx_aload_n (pc := 8) dX1_gathers_8 rfl rfl ?_
  refine zx_iload_n (pc := 9) dX1_gathers_9 rfl rfl ?_
  refine zx_fV1 (pc := 10) (k_hasField (d := d) ) cl_X1_53 p3 rfl dX1_gathers_10 rfl rfl (by omega) (Nat.le_of_ble_eq_true rfl) (Nat.le_refl _) (Nat.le_refl _) ?_
  refine zx_if_ne (pc := 13) (tgt := 18) dX1_gathers_13 (by decide) (fun h13 => ?_) (fun h13 => by first | exact absurd h13 (show ¬ zHas (nI F) (nI f) = 0 by rw [zHas_1 hf (by omega)]; decide) | exact absurd (show ¬ zHas (nI F) (nI f) = 0 by rw [zHas_1 hf (by omega)]; decide) h13)
  refine zx_aload_n (pc := 18) dX1_gathers_18 rfl rfl ?_
  refine g3_1 (pc := 19) fl_X1_15 dX1_gathers_19 ?_
  refine zx_iload_n (pc := 22) dX1_gathers_22 rfl rfl ?_
  refine a5 (pc := 23) (zix_n (by omega)) dX1_gathers_23 ?_
  refine zx_iconst (pc := 24) (v := 2) dX1_gathers_24 (by decide) ?_
  refine zx_icmp_ne (pc := 25) (tgt := 32) dX1_gathers_25 (by decide) (fun h25 => ?_) (fun h25 => ?_)
  · refine zx_iconst (pc := 32) (v := 0) dX1_gathers_32 (by decide) ?_
    refine st_3_4 (pc := 33) dX1_gathers_33 rfl ?_
    refine zx_iconst (pc := 34) (v := 0) dX1_gathers_34 (by decide) ?_
    refine zx_aload_n (pc := 35) dX1_gathers_35 rfl rfl ?_
    refine g3_0 (pc := 36) fl_X1_9 dX1_gathers_36 ?_
    refine zx_iload_n (pc := 39) dX1_gathers_39 rfl rfl ?_
    refine a4 (pc := 40) (zix_n (by omega)) dX1_gathers_40 ?_
    refine zx_aload_n (pc := 41) dX1_gathers_41 rfl rfl ?_
    refine g3_2 (pc := 42) fl_X1_18 dX1_gathers_42 ?_
    refine zx_iload_n (pc := 45) dX1_gathers_45 rfl rfl ?_
    refine a6 (pc := 46) (zix_n (by omega)) dX1_gathers_46 ?_
    refine zx_isub (pc := 47) dX1_gathers_47 ?_
    refine zx_iload_n (pc := 48) dX1_gathers_48 rfl rfl ?_
    refine zx_isub (pc := 49) dX1_gathers_49 ?_
    refine zx_mmax (pc := 50) (Nat.le_of_ble_eq_true rfl) (by omega) (Nat.le_refl _) (Nat.le_refl _) ml_X1_60 dX1_gathers_50 ?_
    exact zx_fi (pc := 53) dX1_gathers_53 rfl rfl (Nat.le_refl _) (Nat.le_refl _) (by first | (simp only [zGa, zMx, h5, h13, h25, reduceIte, not_true_eq_false, not_false_eq_true]; done) | (simp [zGa, zMx, h5, h13, h25]; done)) rfl
  · refine zx_iconst (pc := 28) (v := 1) dX1_gathers_28 (by decide) ?_
    refine zx_goto (pc := 29) (tgt := 33) dX1_gathers_29 (by decide) ?_
    refine st_3_4 (pc := 33) dX1_gathers_33 rfl ?_
    refine zx_iconst (pc := 34) (v := 0) dX1_gathers_34 (by decide) ?_
    refine zx_aload_n (pc := 35) dX1_gathers_35 rfl rfl ?_
    refine g3_0 (pc := 36) fl_X1_9 dX1_gathers_36 ?_
    refine zx_iload_n (pc := 39) dX1_gathers_39 rfl rfl ?_
    refine a4 (pc := 40) (zix_n (by omega)) dX1_gathers_40 ?_
    refine zx_aload_n (pc := 41) dX1_gathers_41 rfl rfl ?_
    refine g3_2 (pc := 42) fl_X1_18 dX1_gathers_42 ?_
    refine zx_iload_n (pc := 45) dX1_gathers_45 rfl rfl ?_
    refine a6 (pc := 46) (zix_n (by omega)) dX1_gathers_46 ?_
    refine zx_isub (pc := 47) dX1_gathers_47 ?_
    refine zx_iload_n (pc := 48) dX1_gathers_48 rfl rfl ?_
    refine zx_isub (pc := 49) dX1_gathers_49 ?_
    refine zx_mmax (pc := 50) (Nat.le_of_ble_eq_true rfl) (by omega) (Nat.le_refl _) (Nat.le_refl _) ml_X1_60 dX1_gathers_50 ?_
    exact zx_fi (pc := 53) dX1_gathers_53 rfl rfl (Nat.le_refl _) (Nat.le_refl _) (by first | (simp only [zGa, zMx, h5, h13, h25, reduceIte, not_true_eq_false, not_false_eq_true]; done) | (simp [zGa, zMx, h5, h13, h25]; done)) rfl
set_option maxHeartbeats 4000000 in
theorem k_gather {d : Nat} {h H F : Nat} {x : Int32} {tx : (Nat → Int32) × Int32} {gs : (Nat → Int32)} {gk : (Nat → Int32)} {gf : (Nat → Int32)} {ga : (Nat → Int32)} {gc : Int32} {nw : (Nat → Int32) × (Nat → Int32) × Int32 × Int32 × Int32 × Int32 × Int32 × Int32 × Int32} {tr : (Nat → Int32) × (Nat → Int32) × Int32 × Int32 × Int32 × Int32 × Int32 × Int32 × Int32} {ws : (Nat → Int32)} {w1 : Int32} {w2 : Int32} {w3 : Int32} {pl : (Nat → Int32) × Int32 × Int32 × Int32 × Int32 × Int32} {ac : (Nat → zStt) × Int32 × Int32} {sl : (Nat → zStt) × (Nat → Int32)} {si : (Nat → Int32) × (Nat → Int32) × (Nat → Int32) × Int32} {sd : Int64} {tau : List zCel} (hh : h < H) (hH : H ≤ 5) (hF : F ≤ 3) : zCf yX8_gather cX8_gather 5 none (d + 2) [.ref 14, .ref 3, .int (nI h), .int x] (encC tx (gs, gk, gf, ga, (nI H), (nI F), gc) nw tr (ws, w1, w2, w3) pl ac sl si sd ++ tau) none (encC tx (gs, gk, gf, ga, (nI H), (nI F), gc) nw tr ((zGt gs gk gf (nI F) h x ws w1).1, (zGt gs gk gf (nI F) h x ws w1).2, w2, w3) pl ac sl si sd ++ tau) := by
  refine zC.intro (by decide) (Nat.le_of_ble_eq_true rfl) rfl ?_
  refine zx_aload_n (pc := 0) dX8_gather_0 rfl rfl ?_
  refine zx_iload_n (pc := 1) dX8_gather_1 rfl rfl ?_
  refine zx_fV1 (pc := 2) (k_hasField (d := d + 1) ) cl_X8_54 p3 rfl dX8_gather_2 rfl rfl (by omega) (Nat.le_of_ble_eq_true rfl) (Nat.le_refl _) (Nat.le_refl _) ?_
  refine zx_if_eq (pc := 5) (tgt := 47) dX8_gather_5 (by decide) (fun h5 => ?_) (fun h5 => ?_)
  · exact zx_fv (pc := 47) dX8_gather_47 rfl (Nat.le_refl _) (Nat.le_refl _) (by first | (simp only [zGt, h5, reduceIte]; done) | (simp only [zGt, h5, reduceIte, nI_clamp (show f < 2 ^ 31 by omega), zMn]; done))
  · obtain ⟨f, hf, rfl⟩ := zHas_n (by omega) h5
    refine zx_aload_n (pc := 8) dX8_gather_8 rfl rfl ?_
    refine zx_iload_n (pc := 9) dX8_gather_9 rfl rfl ?_
    refine zx_iload_n (pc := 10) dX8_gather_10 rfl rfl ?_
    refine zx_fV1 (pc := 11) (k_gathers (d := d) hh hH hf hF) cl_X8_58 p3 rfl dX8_gather_11 rfl rfl (by omega) (Nat.le_of_ble_eq_true rfl) (Nat.le_refl _) (Nat.le_refl _) ?_
    refine zx_aload_n (pc := 14) dX8_gather_14 rfl rfl ?_
    refine g14_0 (pc := 15) fl_X8_9 dX8_gather_15 ?_
    refine zx_iload_n (pc := 18) dX8_gather_18 rfl rfl ?_
    refine a15 (pc := 19) (zix_n (by omega)) dX8_gather_19 ?_
    refine zx_mmin (pc := 20) (Nat.le_of_ble_eq_true rfl) (by omega) (Nat.le_refl _) (Nat.le_refl _) ml_X8_45 dX8_gather_20 ?_
    refine st_4_5 (pc := 23) dX8_gather_23 rfl ?_
    refine zx_aload_n (pc := 25) dX8_gather_25 rfl rfl ?_
    refine g14_0 (pc := 26) fl_X8_9 dX8_gather_26 ?_
    refine zx_iload_n (pc := 29) dX8_gather_29 rfl rfl ?_
    refine zx_dup2 (pc := 30) dX8_gather_30 rfl rfl ?_
    refine a15 (pc := 31) (zix_n (by omega)) dX8_gather_31 ?_
    refine zx_iload (pc := 32) dX8_gather_32 rfl ?_
    refine zx_isub (pc := 34) dX8_gather_34 ?_
    refine s15 (pc := 35) (zix_n (by omega)) dX8_gather_35 ?_
    refine zx_aload_n (pc := 36) dX8_gather_36 rfl rfl ?_
    refine zx_dup (pc := 37) dX8_gather_37 rfl ?_
    refine g14_1 (pc := 38) fl_X8_28 dX8_gather_38 ?_
    refine zx_iload (pc := 41) dX8_gather_41 rfl ?_
    refine zx_iadd (pc := 43) dX8_gather_43 ?_
    refine u14_1 (pc := 44) fl_X8_28 dX8_gather_44 ?_
    exact zx_fv (pc := 47) dX8_gather_47 rfl (Nat.le_refl _) (Nat.le_refl _) (by first | (simp only [zGt, h5, reduceIte]; done) | (simp only [zGt, h5, reduceIte, nI_clamp (show f < 2 ^ 31 by omega), zMn]; done))
set_option maxHeartbeats 4000000 in
theorem lp_reckon_n {d n0 H F : Nat} {s0 : Nat → Int32} {tx : (Nat → Int32) × Int32} {gs : (Nat → Int32)} {gk : (Nat → Int32)} {gf : (Nat → Int32)} {ga : (Nat → Int32)} {gc : Int32} {nt : (Nat → Int32)} {ns : (Nat → Int32)} {n2 : Int32} {n3 : Int32} {n4 : Int32} {n5 : Int32} {n6 : Int32} {n7 : Int32} {n8 : Int32} {tr : (Nat → Int32) × (Nat → Int32) × Int32 × Int32 × Int32 × Int32 × Int32 × Int32 × Int32} {w3 : Int32} {pl : (Nat → Int32) × Int32 × Int32 × Int32 × Int32 × Int32} {ac : (Nat → zStt) × Int32 × Int32} {sl : (Nat → zStt) × (Nat → Int32)} {si : (Nat → Int32) × (Nat → Int32) × (Nat → Int32) × Int32} {sd : Int64} {tau : List zCel} (hH : H ≤ 5) (hF : F ≤ 3) : ∀ (k i : Nat), i + k = H → zX RX8 cX8_reckon 5 none "reckon" none (d + 3) n0 0 0 0 0 (fun r s => r = none ∧ s = encC tx (gs, gk, gf, ga, (nI H), (nI F), gc) (nt, ns, n2, n3, n4, n5, n6, n7, n8) tr (zDay gs gk gf (nI F) H nt s0 n2) pl ac sl si sd ++ tau) 30 [some (.ref 14), some (.ref 3), some (.ref 8), some (.ref 9), some (.int (nI i))] [] (encC tx (gs, gk, gf, ga, (nI H), (nI F), gc) (nt, ns, n2, n3, n4, n5, n6, n7, n8) tr ((zRk gs gk gf (nI F) nt s0 n2 i).1, (zRk gs gk gf (nI F) nt s0 n2 i).2.1, (zRk gs gk gf (nI F) nt s0 n2 i).2.2, w3) pl ac sl si sd ++ tau) := by
  intro k
  induction k with
  | zero =>
    intro i hi
    obtain rfl : i = H := by omega
    refine zx_iload (pc := 30) dX8_reckon_30 rfl ?_
    refine zx_aload_n (pc := 32) dX8_reckon_32 rfl rfl ?_
    refine g3_4 (pc := 33) fl_X8_32 dX8_reckon_33 ?_
    refine zx_icmp_ge (pc := 36) (tgt := 91) dX8_reckon_36 (by decide) (fun h36 => ?_) (fun h36 => by first | exact absurd h36 (show nI i ≤ nI i from Int32.le_refl _) | exact absurd (show nI i ≤ nI i from Int32.le_refl _) h36)
    refine zx_aload_n (pc := 91) dX8_reckon_91 rfl rfl ?_
    refine zx_aload_n (pc := 92) dX8_reckon_92 rfl rfl ?_
    refine g14_2 (pc := 93) fl_X8_29 dX8_reckon_93 ?_
    refine zx_bipush (pc := 96) (v := 9) dX8_reckon_96 (by decide) ?_
    refine zx_mmin (pc := 98) (Nat.le_of_ble_eq_true rfl) (by omega) (Nat.le_refl _) (Nat.le_refl _) ml_X8_45 dX8_reckon_98 ?_
    refine u14_2 (pc := 101) fl_X8_29 dX8_reckon_101 ?_
    refine zx_aload_n (pc := 104) dX8_reckon_104 rfl rfl ?_
    refine zx_aload_n (pc := 105) dX8_reckon_105 rfl rfl ?_
    refine g14_2 (pc := 106) fl_X8_29 dX8_reckon_106 ?_
    refine zx_aload_n (pc := 109) dX8_reckon_109 rfl rfl ?_
    refine g14_1 (pc := 110) fl_X8_28 dX8_reckon_110 ?_
    refine zx_mmin (pc := 113) (Nat.le_of_ble_eq_true rfl) (by omega) (Nat.le_refl _) (Nat.le_refl _) ml_X8_45 dX8_reckon_113 ?_
    refine u14_3 (pc := 116) fl_X8_51 dX8_reckon_116 ?_
    refine zx_aload_n (pc := 119) dX8_reckon_119 rfl rfl ?_
    refine zx_dup (pc := 120) dX8_reckon_120 rfl ?_
    refine g14_1 (pc := 121) fl_X8_28 dX8_reckon_121 ?_
    refine zx_aload_n (pc := 124) dX8_reckon_124 rfl rfl ?_
    refine g14_3 (pc := 125) fl_X8_51 dX8_reckon_125 ?_
    refine zx_isub (pc := 128) dX8_reckon_128 ?_
    refine u14_1 (pc := 129) fl_X8_28 dX8_reckon_129 ?_
    exact zx_fv (pc := 132) dX8_reckon_132 rfl (Nat.le_refl _) (Nat.le_refl _) rfl
  | succ k ih =>
    intro i hi
    refine zx_iload (pc := 30) dX8_reckon_30 rfl ?_
    refine zx_aload_n (pc := 32) dX8_reckon_32 rfl rfl ?_
    refine g3_4 (pc := 33) fl_X8_32 dX8_reckon_33 ?_
    refine zx_icmp_ge (pc := 36) (tgt := 91) dX8_reckon_36 (by decide) (fun h36 => by first | exact absurd h36 (nI_ge (show i < H by omega) (by omega)) | exact absurd (nI_ge (show i < H by omega) (by omega)) h36) (fun h36 => ?_)
    refine zx_iload (pc := 39) dX8_reckon_39 rfl ?_
    refine zx_aload_n (pc := 41) dX8_reckon_41 rfl rfl ?_
    refine zx_alen (pc := 42) (v := 5) p9 (by decide) dX8_reckon_42 ?_
    refine zx_icmp_ge (pc := 43) (tgt := 91) dX8_reckon_43 (by decide) (fun h43 => by first | exact absurd h43 (zle5 (show i < 5 by omega)) | exact absurd (zle5 (show i < 5 by omega)) h43) (fun h43 => ?_)
    refine zx_aload_n (pc := 46) dX8_reckon_46 rfl rfl ?_
    refine zx_iload (pc := 47) dX8_reckon_47 rfl ?_
    refine a9 (pc := 49) (zix_n (by omega)) dX8_reckon_49 ?_
    refine zx_iconst (pc := 50) (v := 1) dX8_reckon_50 (by decide) ?_
    refine zx_icmp_ne (pc := 51) (tgt := 72) dX8_reckon_51 (by decide) (fun h51 => ?_) (fun h51 => ?_)
    · refine zx_aload_n (pc := 72) dX8_reckon_72 rfl rfl ?_
      refine zx_aload_n (pc := 73) dX8_reckon_73 rfl rfl ?_
      refine zx_iload (pc := 74) dX8_reckon_74 rfl ?_
      refine zx_aload_n (pc := 76) dX8_reckon_76 rfl rfl ?_
      refine zx_iload (pc := 77) dX8_reckon_77 rfl ?_
      refine a9 (pc := 79) (zix_n (by omega)) dX8_reckon_79 ?_
      refine zx_iconst (pc := 80) (v := 2) dX8_reckon_80 (by decide) ?_
      refine zx_isub (pc := 81) dX8_reckon_81 ?_
      refine zx_fV0 (pc := 82) (k_gather (d := d) (show i < H by omega) hH hF) cl_X8_41 p14 rfl dX8_reckon_82 rfl rfl (by omega) (Nat.le_of_ble_eq_true rfl) (Nat.le_refl _) (Nat.le_refl _) ?_
      refine ic_4_5_1 (pc := 85) dX8_reckon_85 rfl ?_
      refine zx_goto (pc := 88) (tgt := 30) dX8_reckon_88 (by decide) ?_
      have hs := ih (i + 1) (by omega)
      simp only [zRk, h51, reduceIte, ← nI_1] at hs
      exact hs
    · refine zx_aload_n (pc := 54) dX8_reckon_54 rfl rfl ?_
      refine zx_dup (pc := 55) dX8_reckon_55 rfl ?_
      refine g14_2 (pc := 56) fl_X8_29 dX8_reckon_56 ?_
      refine zx_aload_n (pc := 59) dX8_reckon_59 rfl rfl ?_
      refine zx_iload (pc := 60) dX8_reckon_60 rfl ?_
      refine zx_fV1 (pc := 62) (k_moulds (d := d + 1) (show i < H by omega) hH) cl_X8_37 p3 rfl dX8_reckon_62 rfl rfl (by omega) (Nat.le_of_ble_eq_true rfl) (Nat.le_refl _) (Nat.le_refl _) ?_
      refine zx_iadd (pc := 65) dX8_reckon_65 ?_
      refine u14_2 (pc := 66) fl_X8_29 dX8_reckon_66 ?_
      refine zx_goto (pc := 69) (tgt := 85) dX8_reckon_69 (by decide) ?_
      refine ic_4_5_1 (pc := 85) dX8_reckon_85 rfl ?_
      refine zx_goto (pc := 88) (tgt := 30) dX8_reckon_88 (by decide) ?_
      have hs := ih (i + 1) (by omega)
      simp only [zRk, h51, reduceIte, ← nI_1] at hs
      exact hs
set_option maxHeartbeats 4000000 in
theorem k_reckon_n {d : Nat} {H F : Nat} {tx : (Nat → Int32) × Int32} {gs : (Nat → Int32)} {gk : (Nat → Int32)} {gf : (Nat → Int32)} {ga : (Nat → Int32)} {gc : Int32} {nt : (Nat → Int32)} {ns : (Nat → Int32)} {n2 : Int32} {n3 : Int32} {n4 : Int32} {n5 : Int32} {n6 : Int32} {n7 : Int32} {n8 : Int32} {tr : (Nat → Int32) × (Nat → Int32) × Int32 × Int32 × Int32 × Int32 × Int32 × Int32 × Int32} {ws : (Nat → Int32)} {w1 : Int32} {w2 : Int32} {w3 : Int32} {pl : (Nat → Int32) × Int32 × Int32 × Int32 × Int32 × Int32} {ac : (Nat → zStt) × Int32 × Int32} {sl : (Nat → zStt) × (Nat → Int32)} {si : (Nat → Int32) × (Nat → Int32) × (Nat → Int32) × Int32} {sd : Int64} {tau : List zCel} (hH : H ≤ 5) (hF : F ≤ 3) : zCf yX8_reckon cX8_reckon 5 none (d + 3) [.ref 14, .ref 3, .ref 8, .ref 9] (encC tx (gs, gk, gf, ga, (nI H), (nI F), gc) (nt, ns, n2, n3, n4, n5, n6, n7, n8) tr (ws, w1, w2, w3) pl ac sl si sd ++ tau) none (encC tx (gs, gk, gf, ga, (nI H), (nI F), gc) (nt, ns, n2, n3, n4, n5, n6, n7, n8) tr (zDay gs gk gf (nI F) H nt (va_cpy ns ws 0 0 3) n2) pl ac sl si sd ++ tau) := by
  refine zC.intro (by decide) (Nat.le_of_ble_eq_true rfl) rfl ?_
  refine zx_aload_n (pc := 0) dX8_reckon_0 rfl rfl ?_
  refine g8_1 (pc := 1) fl_X8_15 dX8_reckon_1 ?_
  refine zx_iconst (pc := 4) (v := 0) dX8_reckon_4 (by decide) ?_
  refine zx_aload_n (pc := 5) dX8_reckon_5 rfl rfl ?_
  refine g14_0 (pc := 6) fl_X8_9 dX8_reckon_6 ?_
  refine zx_iconst (pc := 9) (v := 0) dX8_reckon_9 (by decide) ?_
  refine zx_iconst (pc := 10) (v := 3) dX8_reckon_10 (by decide) ?_
  refine zx_copy (pc := 11) (sp' := 0) (dp' := 0) (n' := 3) p10 p15 (by decide) (by decide) (by decide) (Nat.le_of_ble_eq_true rfl) (by omega) ml_X8_18 dX8_reckon_11 ?_
  refine zx_sg (e15) ?_
  refine zx_aload_n (pc := 14) dX8_reckon_14 rfl rfl ?_
  refine zx_aload_n (pc := 15) dX8_reckon_15 rfl rfl ?_
  refine g8_2 (pc := 16) fl_X8_24 dX8_reckon_16 ?_
  refine u14_1 (pc := 19) fl_X8_28 dX8_reckon_19 ?_
  refine zx_aload_n (pc := 22) dX8_reckon_22 rfl rfl ?_
  refine zx_iconst (pc := 23) (v := 0) dX8_reckon_23 (by decide) ?_
  refine u14_2 (pc := 24) fl_X8_29 dX8_reckon_24 ?_
  refine zx_iconst (pc := 27) (v := 0) dX8_reckon_27 (by decide) ?_
  refine st_4_5 (pc := 28) dX8_reckon_28 rfl ?_
  exact lp_reckon_n hH hF H 0 (by omega)
set_option maxHeartbeats 4000000 in
theorem lp_reckon_p {d n0 H F : Nat} {s0 : Nat → Int32} {tx : (Nat → Int32) × Int32} {gs : (Nat → Int32)} {gk : (Nat → Int32)} {gf : (Nat → Int32)} {ga : (Nat → Int32)} {gc : Int32} {nt : (Nat → Int32)} {ns : (Nat → Int32)} {n2 : Int32} {n3 : Int32} {n4 : Int32} {n5 : Int32} {n6 : Int32} {n7 : Int32} {n8 : Int32} {tr : (Nat → Int32) × (Nat → Int32) × Int32 × Int32 × Int32 × Int32 × Int32 × Int32 × Int32} {w3 : Int32} {pt : (Nat → Int32)} {b1 : Int32} {b2 : Int32} {b3 : Int32} {b4 : Int32} {b5 : Int32} {ac : (Nat → zStt) × Int32 × Int32} {sl : (Nat → zStt) × (Nat → Int32)} {si : (Nat → Int32) × (Nat → Int32) × (Nat → Int32) × Int32} {sd : Int64} {tau : List zCel} (hH : H ≤ 5) (hF : F ≤ 3) : ∀ (k i : Nat), i + k = H → zX RX8 cX8_reckon 5 none "reckon" none (d + 3) n0 0 0 0 0 (fun r s => r = none ∧ s = encC tx (gs, gk, gf, ga, (nI H), (nI F), gc) (nt, ns, n2, n3, n4, n5, n6, n7, n8) tr (zDay gs gk gf (nI F) H pt s0 n2) (pt, b1, b2, b3, b4, b5) ac sl si sd ++ tau) 30 [some (.ref 14), some (.ref 3), some (.ref 8), some (.ref 17), some (.int (nI i))] [] (encC tx (gs, gk, gf, ga, (nI H), (nI F), gc) (nt, ns, n2, n3, n4, n5, n6, n7, n8) tr ((zRk gs gk gf (nI F) pt s0 n2 i).1, (zRk gs gk gf (nI F) pt s0 n2 i).2.1, (zRk gs gk gf (nI F) pt s0 n2 i).2.2, w3) (pt, b1, b2, b3, b4, b5) ac sl si sd ++ tau) := by
  intro k
  induction k with
  | zero =>
    intro i hi
    obtain rfl : i = H := by omega
    refine zx_iload (pc := 30) dX8_reckon_30 rfl ?_
    refine zx_aload_n (pc := 32) dX8_reckon_32 rfl rfl ?_
    refine g3_4 (pc := 33) fl_X8_32 dX8_reckon_33 ?_
    refine zx_icmp_ge (pc := 36) (tgt := 91) dX8_reckon_36 (by decide) (fun h36 => ?_) (fun h36 => by first | exact absurd h36 (show nI i ≤ nI i from Int32.le_refl _) | exact absurd (show nI i ≤ nI i from Int32.le_refl _) h36)
    refine zx_aload_n (pc := 91) dX8_reckon_91 rfl rfl ?_
    refine zx_aload_n (pc := 92) dX8_reckon_92 rfl rfl ?_
    refine g14_2 (pc := 93) fl_X8_29 dX8_reckon_93 ?_
    refine zx_bipush (pc := 96) (v := 9) dX8_reckon_96 (by decide) ?_
    refine zx_mmin (pc := 98) (Nat.le_of_ble_eq_true rfl) (by omega) (Nat.le_refl _) (Nat.le_refl _) ml_X8_45 dX8_reckon_98 ?_
    refine u14_2 (pc := 101) fl_X8_29 dX8_reckon_101 ?_
    refine zx_aload_n (pc := 104) dX8_reckon_104 rfl rfl ?_
    refine zx_aload_n (pc := 105) dX8_reckon_105 rfl rfl ?_
    refine g14_2 (pc := 106) fl_X8_29 dX8_reckon_106 ?_
    refine zx_aload_n (pc := 109) dX8_reckon_109 rfl rfl ?_
    refine g14_1 (pc := 110) fl_X8_28 dX8_reckon_110 ?_
    refine zx_mmin (pc := 113) (Nat.le_of_ble_eq_true rfl) (by omega) (Nat.le_refl _) (Nat.le_refl _) ml_X8_45 dX8_reckon_113 ?_
    refine u14_3 (pc := 116) fl_X8_51 dX8_reckon_116 ?_
    refine zx_aload_n (pc := 119) dX8_reckon_119 rfl rfl ?_
    refine zx_dup (pc := 120) dX8_reckon_120 rfl ?_
    refine g14_1 (pc := 121) fl_X8_28 dX8_reckon_121 ?_
    refine zx_aload_n (pc := 124) dX8_reckon_124 rfl rfl ?_
    refine g14_3 (pc := 125) fl_X8_51 dX8_reckon_125 ?_
    refine zx_isub (pc := 128) dX8_reckon_128 ?_
    refine u14_1 (pc := 129) fl_X8_28 dX8_reckon_129 ?_
    exact zx_fv (pc := 132) dX8_reckon_132 rfl (Nat.le_refl _) (Nat.le_refl _) rfl
  | succ k ih =>
    intro i hi
    refine zx_iload (pc := 30) dX8_reckon_30 rfl ?_
    refine zx_aload_n (pc := 32) dX8_reckon_32 rfl rfl ?_
    refine g3_4 (pc := 33) fl_X8_32 dX8_reckon_33 ?_
    refine zx_icmp_ge (pc := 36) (tgt := 91) dX8_reckon_36 (by decide) (fun h36 => by first | exact absurd h36 (nI_ge (show i < H by omega) (by omega)) | exact absurd (nI_ge (show i < H by omega) (by omega)) h36) (fun h36 => ?_)
    refine zx_iload (pc := 39) dX8_reckon_39 rfl ?_
    refine zx_aload_n (pc := 41) dX8_reckon_41 rfl rfl ?_
    refine zx_alen (pc := 42) (v := 5) p17 (by decide) dX8_reckon_42 ?_
    refine zx_icmp_ge (pc := 43) (tgt := 91) dX8_reckon_43 (by decide) (fun h43 => by first | exact absurd h43 (zle5 (show i < 5 by omega)) | exact absurd (zle5 (show i < 5 by omega)) h43) (fun h43 => ?_)
    refine zx_aload_n (pc := 46) dX8_reckon_46 rfl rfl ?_
    refine zx_iload (pc := 47) dX8_reckon_47 rfl ?_
    refine a17 (pc := 49) (zix_n (by omega)) dX8_reckon_49 ?_
    refine zx_iconst (pc := 50) (v := 1) dX8_reckon_50 (by decide) ?_
    refine zx_icmp_ne (pc := 51) (tgt := 72) dX8_reckon_51 (by decide) (fun h51 => ?_) (fun h51 => ?_)
    · refine zx_aload_n (pc := 72) dX8_reckon_72 rfl rfl ?_
      refine zx_aload_n (pc := 73) dX8_reckon_73 rfl rfl ?_
      refine zx_iload (pc := 74) dX8_reckon_74 rfl ?_
      refine zx_aload_n (pc := 76) dX8_reckon_76 rfl rfl ?_
      refine zx_iload (pc := 77) dX8_reckon_77 rfl ?_
      refine a17 (pc := 79) (zix_n (by omega)) dX8_reckon_79 ?_
      refine zx_iconst (pc := 80) (v := 2) dX8_reckon_80 (by decide) ?_
      refine zx_isub (pc := 81) dX8_reckon_81 ?_
      refine zx_fV0 (pc := 82) (k_gather (d := d) (show i < H by omega) hH hF) cl_X8_41 p14 rfl dX8_reckon_82 rfl rfl (by omega) (Nat.le_of_ble_eq_true rfl) (Nat.le_refl _) (Nat.le_refl _) ?_
      refine ic_4_5_1 (pc := 85) dX8_reckon_85 rfl ?_
      refine zx_goto (pc := 88) (tgt := 30) dX8_reckon_88 (by decide) ?_
      have hs := ih (i + 1) (by omega)
      simp only [zRk, h51, reduceIte, ← nI_1] at hs
      exact hs
    · refine zx_aload_n (pc := 54) dX8_reckon_54 rfl rfl ?_
      refine zx_dup (pc := 55) dX8_reckon_55 rfl ?_
      refine g14_2 (pc := 56) fl_X8_29 dX8_reckon_56 ?_
      refine zx_aload_n (pc := 59) dX8_reckon_59 rfl rfl ?_
      refine zx_iload (pc := 60) dX8_reckon_60 rfl ?_
      refine zx_fV1 (pc := 62) (k_moulds (d := d + 1) (show i < H by omega) hH) cl_X8_37 p3 rfl dX8_reckon_62 rfl rfl (by omega) (Nat.le_of_ble_eq_true rfl) (Nat.le_refl _) (Nat.le_refl _) ?_
      refine zx_iadd (pc := 65) dX8_reckon_65 ?_
      refine u14_2 (pc := 66) fl_X8_29 dX8_reckon_66 ?_
      refine zx_goto (pc := 69) (tgt := 85) dX8_reckon_69 (by decide) ?_
      refine ic_4_5_1 (pc := 85) dX8_reckon_85 rfl ?_
      refine zx_goto (pc := 88) (tgt := 30) dX8_reckon_88 (by decide) ?_
      have hs := ih (i + 1) (by omega)
      simp only [zRk, h51, reduceIte, ← nI_1] at hs
      exact hs
set_option maxHeartbeats 4000000 in
theorem k_reckon_p {d : Nat} {H F : Nat} {tx : (Nat → Int32) × Int32} {gs : (Nat → Int32)} {gk : (Nat → Int32)} {gf : (Nat → Int32)} {ga : (Nat → Int32)} {gc : Int32} {nt : (Nat → Int32)} {ns : (Nat → Int32)} {n2 : Int32} {n3 : Int32} {n4 : Int32} {n5 : Int32} {n6 : Int32} {n7 : Int32} {n8 : Int32} {tr : (Nat → Int32) × (Nat → Int32) × Int32 × Int32 × Int32 × Int32 × Int32 × Int32 × Int32} {ws : (Nat → Int32)} {w1 : Int32} {w2 : Int32} {w3 : Int32} {pt : (Nat → Int32)} {b1 : Int32} {b2 : Int32} {b3 : Int32} {b4 : Int32} {b5 : Int32} {ac : (Nat → zStt) × Int32 × Int32} {sl : (Nat → zStt) × (Nat → Int32)} {si : (Nat → Int32) × (Nat → Int32) × (Nat → Int32) × Int32} {sd : Int64} {tau : List zCel} (hH : H ≤ 5) (hF : F ≤ 3) : zCf yX8_reckon cX8_reckon 5 none (d + 3) [.ref 14, .ref 3, .ref 8, .ref 17] (encC tx (gs, gk, gf, ga, (nI H), (nI F), gc) (nt, ns, n2, n3, n4, n5, n6, n7, n8) tr (ws, w1, w2, w3) (pt, b1, b2, b3, b4, b5) ac sl si sd ++ tau) none (encC tx (gs, gk, gf, ga, (nI H), (nI F), gc) (nt, ns, n2, n3, n4, n5, n6, n7, n8) tr (zDay gs gk gf (nI F) H pt (va_cpy ns ws 0 0 3) n2) (pt, b1, b2, b3, b4, b5) ac sl si sd ++ tau) := by
  refine zC.intro (by decide) (Nat.le_of_ble_eq_true rfl) rfl ?_
  refine zx_aload_n (pc := 0) dX8_reckon_0 rfl rfl ?_
  refine g8_1 (pc := 1) fl_X8_15 dX8_reckon_1 ?_
  refine zx_iconst (pc := 4) (v := 0) dX8_reckon_4 (by decide) ?_
  refine zx_aload_n (pc := 5) dX8_reckon_5 rfl rfl ?_
  refine g14_0 (pc := 6) fl_X8_9 dX8_reckon_6 ?_
  refine zx_iconst (pc := 9) (v := 0) dX8_reckon_9 (by decide) ?_
  refine zx_iconst (pc := 10) (v := 3) dX8_reckon_10 (by decide) ?_
  refine zx_copy (pc := 11) (sp' := 0) (dp' := 0) (n' := 3) p10 p15 (by decide) (by decide) (by decide) (Nat.le_of_ble_eq_true rfl) (by omega) ml_X8_18 dX8_reckon_11 ?_
  refine zx_sg (e15) ?_
  refine zx_aload_n (pc := 14) dX8_reckon_14 rfl rfl ?_
  refine zx_aload_n (pc := 15) dX8_reckon_15 rfl rfl ?_
  refine g8_2 (pc := 16) fl_X8_24 dX8_reckon_16 ?_
  refine u14_1 (pc := 19) fl_X8_28 dX8_reckon_19 ?_
  refine zx_aload_n (pc := 22) dX8_reckon_22 rfl rfl ?_
  refine zx_iconst (pc := 23) (v := 0) dX8_reckon_23 (by decide) ?_
  refine u14_2 (pc := 24) fl_X8_29 dX8_reckon_24 ?_
  refine zx_iconst (pc := 27) (v := 0) dX8_reckon_27 (by decide) ?_
  refine st_4_5 (pc := 28) dX8_reckon_28 rfl ?_
  exact lp_reckon_p hH hF H 0 (by omega)
set_option maxHeartbeats 4000000 in
theorem lp_reckon_t {d n0 H F : Nat} {s0 : Nat → Int32} {tx : (Nat → Int32) × Int32} {gs : (Nat → Int32)} {gk : (Nat → Int32)} {gf : (Nat → Int32)} {ga : (Nat → Int32)} {gc : Int32} {nw : (Nat → Int32) × (Nat → Int32) × Int32 × Int32 × Int32 × Int32 × Int32 × Int32 × Int32} {tt : (Nat → Int32)} {ts : (Nat → Int32)} {t2 : Int32} {t3 : Int32} {t4 : Int32} {t5 : Int32} {t6 : Int32} {t7 : Int32} {t8 : Int32} {w3 : Int32} {pl : (Nat → Int32) × Int32 × Int32 × Int32 × Int32 × Int32} {ac : (Nat → zStt) × Int32 × Int32} {sl : (Nat → zStt) × (Nat → Int32)} {si : (Nat → Int32) × (Nat → Int32) × (Nat → Int32) × Int32} {sd : Int64} {tau : List zCel} (hH : H ≤ 5) (hF : F ≤ 3) : ∀ (k i : Nat), i + k = H → zX RX8 cX8_reckon 5 none "reckon" none (d + 3) n0 0 0 0 0 (fun r s => r = none ∧ s = encC tx (gs, gk, gf, ga, (nI H), (nI F), gc) nw (tt, ts, t2, t3, t4, t5, t6, t7, t8) (zDay gs gk gf (nI F) H tt s0 t2) pl ac sl si sd ++ tau) 30 [some (.ref 14), some (.ref 3), some (.ref 11), some (.ref 12), some (.int (nI i))] [] (encC tx (gs, gk, gf, ga, (nI H), (nI F), gc) nw (tt, ts, t2, t3, t4, t5, t6, t7, t8) ((zRk gs gk gf (nI F) tt s0 t2 i).1, (zRk gs gk gf (nI F) tt s0 t2 i).2.1, (zRk gs gk gf (nI F) tt s0 t2 i).2.2, w3) pl ac sl si sd ++ tau) := by
  intro k
  induction k with
  | zero =>
    intro i hi
    obtain rfl : i = H := by omega
    refine zx_iload (pc := 30) dX8_reckon_30 rfl ?_
    refine zx_aload_n (pc := 32) dX8_reckon_32 rfl rfl ?_
    refine g3_4 (pc := 33) fl_X8_32 dX8_reckon_33 ?_
    refine zx_icmp_ge (pc := 36) (tgt := 91) dX8_reckon_36 (by decide) (fun h36 => ?_) (fun h36 => by first | exact absurd h36 (show nI i ≤ nI i from Int32.le_refl _) | exact absurd (show nI i ≤ nI i from Int32.le_refl _) h36)
    refine zx_aload_n (pc := 91) dX8_reckon_91 rfl rfl ?_
    refine zx_aload_n (pc := 92) dX8_reckon_92 rfl rfl ?_
    refine g14_2 (pc := 93) fl_X8_29 dX8_reckon_93 ?_
    refine zx_bipush (pc := 96) (v := 9) dX8_reckon_96 (by decide) ?_
    refine zx_mmin (pc := 98) (Nat.le_of_ble_eq_true rfl) (by omega) (Nat.le_refl _) (Nat.le_refl _) ml_X8_45 dX8_reckon_98 ?_
    refine u14_2 (pc := 101) fl_X8_29 dX8_reckon_101 ?_
    refine zx_aload_n (pc := 104) dX8_reckon_104 rfl rfl ?_
    refine zx_aload_n (pc := 105) dX8_reckon_105 rfl rfl ?_
    refine g14_2 (pc := 106) fl_X8_29 dX8_reckon_106 ?_
    refine zx_aload_n (pc := 109) dX8_reckon_109 rfl rfl ?_
    refine g14_1 (pc := 110) fl_X8_28 dX8_reckon_110 ?_
    refine zx_mmin (pc := 113) (Nat.le_of_ble_eq_true rfl) (by omega) (Nat.le_refl _) (Nat.le_refl _) ml_X8_45 dX8_reckon_113 ?_
    refine u14_3 (pc := 116) fl_X8_51 dX8_reckon_116 ?_
    refine zx_aload_n (pc := 119) dX8_reckon_119 rfl rfl ?_
    refine zx_dup (pc := 120) dX8_reckon_120 rfl ?_
    refine g14_1 (pc := 121) fl_X8_28 dX8_reckon_121 ?_
    refine zx_aload_n (pc := 124) dX8_reckon_124 rfl rfl ?_
    refine g14_3 (pc := 125) fl_X8_51 dX8_reckon_125 ?_
    refine zx_isub (pc := 128) dX8_reckon_128 ?_
    refine u14_1 (pc := 129) fl_X8_28 dX8_reckon_129 ?_
    exact zx_fv (pc := 132) dX8_reckon_132 rfl (Nat.le_refl _) (Nat.le_refl _) rfl
  | succ k ih =>
    intro i hi
    refine zx_iload (pc := 30) dX8_reckon_30 rfl ?_
    refine zx_aload_n (pc := 32) dX8_reckon_32 rfl rfl ?_
    refine g3_4 (pc := 33) fl_X8_32 dX8_reckon_33 ?_
    refine zx_icmp_ge (pc := 36) (tgt := 91) dX8_reckon_36 (by decide) (fun h36 => by first | exact absurd h36 (nI_ge (show i < H by omega) (by omega)) | exact absurd (nI_ge (show i < H by omega) (by omega)) h36) (fun h36 => ?_)
    refine zx_iload (pc := 39) dX8_reckon_39 rfl ?_
    refine zx_aload_n (pc := 41) dX8_reckon_41 rfl rfl ?_
    refine zx_alen (pc := 42) (v := 5) p12 (by decide) dX8_reckon_42 ?_
    refine zx_icmp_ge (pc := 43) (tgt := 91) dX8_reckon_43 (by decide) (fun h43 => by first | exact absurd h43 (zle5 (show i < 5 by omega)) | exact absurd (zle5 (show i < 5 by omega)) h43) (fun h43 => ?_)
    refine zx_aload_n (pc := 46) dX8_reckon_46 rfl rfl ?_
    refine zx_iload (pc := 47) dX8_reckon_47 rfl ?_
    refine a12 (pc := 49) (zix_n (by omega)) dX8_reckon_49 ?_
    refine zx_iconst (pc := 50) (v := 1) dX8_reckon_50 (by decide) ?_
    refine zx_icmp_ne (pc := 51) (tgt := 72) dX8_reckon_51 (by decide) (fun h51 => ?_) (fun h51 => ?_)
    · refine zx_aload_n (pc := 72) dX8_reckon_72 rfl rfl ?_
      refine zx_aload_n (pc := 73) dX8_reckon_73 rfl rfl ?_
      refine zx_iload (pc := 74) dX8_reckon_74 rfl ?_
      refine zx_aload_n (pc := 76) dX8_reckon_76 rfl rfl ?_
      refine zx_iload (pc := 77) dX8_reckon_77 rfl ?_
      refine a12 (pc := 79) (zix_n (by omega)) dX8_reckon_79 ?_
      refine zx_iconst (pc := 80) (v := 2) dX8_reckon_80 (by decide) ?_
      refine zx_isub (pc := 81) dX8_reckon_81 ?_
      refine zx_fV0 (pc := 82) (k_gather (d := d) (show i < H by omega) hH hF) cl_X8_41 p14 rfl dX8_reckon_82 rfl rfl (by omega) (Nat.le_of_ble_eq_true rfl) (Nat.le_refl _) (Nat.le_refl _) ?_
      refine ic_4_5_1 (pc := 85) dX8_reckon_85 rfl ?_
      refine zx_goto (pc := 88) (tgt := 30) dX8_reckon_88 (by decide) ?_
      have hs := ih (i + 1) (by omega)
      simp only [zRk, h51, reduceIte, ← nI_1] at hs
      exact hs
    · refine zx_aload_n (pc := 54) dX8_reckon_54 rfl rfl ?_
      refine zx_dup (pc := 55) dX8_reckon_55 rfl ?_
      refine g14_2 (pc := 56) fl_X8_29 dX8_reckon_56 ?_
      refine zx_aload_n (pc := 59) dX8_reckon_59 rfl rfl ?_
      refine zx_iload (pc := 60) dX8_reckon_60 rfl ?_
      refine zx_fV1 (pc := 62) (k_moulds (d := d + 1) (show i < H by omega) hH) cl_X8_37 p3 rfl dX8_reckon_62 rfl rfl (by omega) (Nat.le_of_ble_eq_true rfl) (Nat.le_refl _) (Nat.le_refl _) ?_
      refine zx_iadd (pc := 65) dX8_reckon_65 ?_
      refine u14_2 (pc := 66) fl_X8_29 dX8_reckon_66 ?_
      refine zx_goto (pc := 69) (tgt := 85) dX8_reckon_69 (by decide) ?_
      refine ic_4_5_1 (pc := 85) dX8_reckon_85 rfl ?_
      refine zx_goto (pc := 88) (tgt := 30) dX8_reckon_88 (by decide) ?_
      have hs := ih (i + 1) (by omega)
      simp only [zRk, h51, reduceIte, ← nI_1] at hs
      exact hs
set_option maxHeartbeats 4000000 in
theorem k_reckon_t {d : Nat} {H F : Nat} {tx : (Nat → Int32) × Int32} {gs : (Nat → Int32)} {gk : (Nat → Int32)} {gf : (Nat → Int32)} {ga : (Nat → Int32)} {gc : Int32} {nw : (Nat → Int32) × (Nat → Int32) × Int32 × Int32 × Int32 × Int32 × Int32 × Int32 × Int32} {tt : (Nat → Int32)} {ts : (Nat → Int32)} {t2 : Int32} {t3 : Int32} {t4 : Int32} {t5 : Int32} {t6 : Int32} {t7 : Int32} {t8 : Int32} {ws : (Nat → Int32)} {w1 : Int32} {w2 : Int32} {w3 : Int32} {pl : (Nat → Int32) × Int32 × Int32 × Int32 × Int32 × Int32} {ac : (Nat → zStt) × Int32 × Int32} {sl : (Nat → zStt) × (Nat → Int32)} {si : (Nat → Int32) × (Nat → Int32) × (Nat → Int32) × Int32} {sd : Int64} {tau : List zCel} (hH : H ≤ 5) (hF : F ≤ 3) : zCf yX8_reckon cX8_reckon 5 none (d + 3) [.ref 14, .ref 3, .ref 11, .ref 12] (encC tx (gs, gk, gf, ga, (nI H), (nI F), gc) nw (tt, ts, t2, t3, t4, t5, t6, t7, t8) (ws, w1, w2, w3) pl ac sl si sd ++ tau) none (encC tx (gs, gk, gf, ga, (nI H), (nI F), gc) nw (tt, ts, t2, t3, t4, t5, t6, t7, t8) (zDay gs gk gf (nI F) H tt (va_cpy ts ws 0 0 3) t2) pl ac sl si sd ++ tau) := by
  refine zC.intro (by decide) (Nat.le_of_ble_eq_true rfl) rfl ?_
  refine zx_aload_n (pc := 0) dX8_reckon_0 rfl rfl ?_
  refine g11_1 (pc := 1) fl_X8_15 dX8_reckon_1 ?_
  refine zx_iconst (pc := 4) (v := 0) dX8_reckon_4 (by decide) ?_
  refine zx_aload_n (pc := 5) dX8_reckon_5 rfl rfl ?_
  refine g14_0 (pc := 6) fl_X8_9 dX8_reckon_6 ?_
  refine zx_iconst (pc := 9) (v := 0) dX8_reckon_9 (by decide) ?_
  refine zx_iconst (pc := 10) (v := 3) dX8_reckon_10 (by decide) ?_
  refine zx_copy (pc := 11) (sp' := 0) (dp' := 0) (n' := 3) p13 p15 (by decide) (by decide) (by decide) (Nat.le_of_ble_eq_true rfl) (by omega) ml_X8_18 dX8_reckon_11 ?_
  refine zx_sg (e15) ?_
  refine zx_aload_n (pc := 14) dX8_reckon_14 rfl rfl ?_
  refine zx_aload_n (pc := 15) dX8_reckon_15 rfl rfl ?_
  refine g11_2 (pc := 16) fl_X8_24 dX8_reckon_16 ?_
  refine u14_1 (pc := 19) fl_X8_28 dX8_reckon_19 ?_
  refine zx_aload_n (pc := 22) dX8_reckon_22 rfl rfl ?_
  refine zx_iconst (pc := 23) (v := 0) dX8_reckon_23 (by decide) ?_
  refine u14_2 (pc := 24) fl_X8_29 dX8_reckon_24 ?_
  refine zx_iconst (pc := 27) (v := 0) dX8_reckon_27 (by decide) ?_
  refine st_4_5 (pc := 28) dX8_reckon_28 rfl ?_
  exact lp_reckon_t hH hF H 0 (by omega)
