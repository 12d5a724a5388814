set_option maxHeartbeats 4000000 in
theorem r_in {d : Nat} {x lo hi : Int32} {v a b : Int64} {sg : List zCel} (hv : x.toInt64 = v) (ha : lo.toInt64 = a) (hb : hi.toInt64 = b) : zCf yX10_in cX10_in 6 (some .boolean) d [.long v, .long a, .long b] (sg) (some (.int (zIn x lo hi))) (sg) := by
  refine zC.intro (by decide) (Nat.le_of_ble_eq_true rfl) rfl ?_
  refine zx_lload_n (pc := 0) dX10_in_0 rfl rfl ?_
  refine zx_lload_n (pc := 1) dX10_in_1 rfl rfl ?_
  refine zx_lcmp (pc := 2) dX10_in_2 ?_
  refine zx_if_lt (pc := 3) (tgt := 17) dX10_in_3 (by decide) (fun h3 => ?_) (fun h3 => ?_)
  · refine zx_iconst (pc := 17) (v := 0) dX10_in_17 (by decide) ?_
    exact zx_fi (pc := 18) dX10_in_18 rfl (by decide) (Nat.le_refl _) (Nat.le_refl _) (by rw [← zInL_i, hv, ha, hb]; simp only [zInL, h3, reduceIte]) rfl
  · refine zx_lload_n (pc := 6) dX10_in_6 rfl rfl ?_
    refine zx_lload (pc := 7) dX10_in_7 rfl ?_
    refine zx_lcmp (pc := 9) dX10_in_9 ?_
    refine zx_if_gt (pc := 10) (tgt := 17) dX10_in_10 (by decide) (fun h10 => ?_) (fun h10 => ?_)
    · refine zx_iconst (pc := 17) (v := 0) dX10_in_17 (by decide) ?_
      exact zx_fi (pc := 18) dX10_in_18 rfl (by decide) (Nat.le_refl _) (Nat.le_refl _) (by rw [← zInL_i, hv, ha, hb]; simp only [zInL, h3, h10, reduceIte]) rfl
    · refine zx_iconst (pc := 13) (v := 1) dX10_in_13 (by decide) ?_
      refine zx_goto (pc := 14) (tgt := 18) dX10_in_14 (by decide) ?_
      exact zx_fi (pc := 18) dX10_in_18 rfl (by decide) (Nat.le_refl _) (Nat.le_refl _) (by rw [← zInL_i, hv, ha, hb]; simp only [zInL, h3, h10, reduceIte]) rfl
set_option maxHeartbeats 4000000 in
theorem r_has {d : Nat} {u k : Int32} {sg : List zCel}  : zCf yX10_has cX10_has 2 (some .boolean) d [.int u, .int k] (sg) (some (.int (zHs u k))) (sg) := by
  refine zC.intro (by decide) (Nat.le_of_ble_eq_true rfl) rfl ?_
  refine zx_iload_n (pc := 0) dX10_has_0 rfl rfl ?_
  refine zx_iload_n (pc := 1) dX10_has_1 rfl rfl ?_
  refine zx_ishr (pc := 2) dX10_has_2 ?_
  refine zx_iconst (pc := 3) (v := 1) dX10_has_3 (by decide) ?_
  refine zx_iand (pc := 4) dX10_has_4 ?_
  refine zx_iconst (pc := 5) (v := 1) dX10_has_5 (by decide) ?_
  refine zx_icmp_ne (pc := 6) (tgt := 13) dX10_has_6 (by decide) (fun h6 => ?_) (fun h6 => ?_)
  · refine zx_iconst (pc := 13) (v := 0) dX10_has_13 (by decide) ?_
    exact zx_fi (pc := 14) dX10_has_14 rfl (by decide) (Nat.le_refl _) (Nat.le_refl _) (by first | (simp only [zHs, h6, reduceIte, not_true_eq_false, not_false_eq_true]; done) | (simp [zHs, h6]; done)) rfl
  · refine zx_iconst (pc := 9) (v := 1) dX10_has_9 (by decide) ?_
    refine zx_goto (pc := 10) (tgt := 14) dX10_has_10 (by decide) ?_
    exact zx_fi (pc := 14) dX10_has_14 rfl (by decide) (Nat.le_refl _) (Nat.le_refl _) (by first | (simp only [zHs, h6, reduceIte, not_true_eq_false, not_false_eq_true]; done) | (simp [zHs, h6]; done)) rfl
theorem lr_many {d n0 : Nat} {u : Int32} {sg : List zCel} : ∀ k i : Nat, i + k = 8 → zX RX10 cX10_many 3 (some .int) "many" none d n0 0 0 0 0 (fun r s => r = some (.int (zMy u 8)) ∧ s = sg) 4 [some (.int u), some (.int (zMy u i)), some (.int (nI i))] [] sg := by
  intro k
  induction k with
  | zero =>
    intro i hi
    obtain rfl : i = 8 := by omega
    refine zx_iload_n (pc := 4) dX10_many_4 rfl rfl ?_
    refine zx_bipush (pc := 5) (v := 8) dX10_many_5 (by decide) ?_
    refine zx_icmp_ge (pc := 7) (tgt := 24) dX10_many_7 (by decide) (fun h7 => ?_) (fun h7 => by first | exact absurd h7 (show (8 : Int32) ≤ nI 8 by decide) | exact absurd (show (8 : Int32) ≤ nI 8 by decide) h7)
    refine zx_iload_n (pc := 24) dX10_many_24 rfl rfl ?_
    exact zx_fi (pc := 25) dX10_many_25 rfl rfl (Nat.le_refl _) (Nat.le_refl _) rfl rfl
  | succ k ih =>
    intro i hi
    refine zx_iload_n (pc := 4) dX10_many_4 rfl rfl ?_
    refine zx_bipush (pc := 5) (v := 8) dX10_many_5 (by decide) ?_
    refine zx_icmp_ge (pc := 7) (tgt := 24) dX10_many_7 (by decide) (fun h7 => by first | exact absurd h7 (show ¬ (8 : Int32) ≤ nI i from nI_ge (a := i) (b := 8) (by omega) (by decide)) | exact absurd (show ¬ (8 : Int32) ≤ nI i from nI_ge (a := i) (b := 8) (by omega) (by decide)) h7) (fun h7 => ?_)
    refine zx_iload_n (pc := 10) dX10_many_10 rfl rfl ?_
    refine zx_iload_n (pc := 11) dX10_many_11 rfl rfl ?_
    refine zx_iload_n (pc := 12) dX10_many_12 rfl rfl ?_
    refine zx_ishr (pc := 13) dX10_many_13 ?_
    refine zx_iconst (pc := 14) (v := 1) dX10_many_14 (by decide) ?_
    refine zx_iand (pc := 15) dX10_many_15 ?_
    refine zx_iadd (pc := 16) dX10_many_16 ?_
    refine st_1_3 (pc := 17) dX10_many_17 rfl ?_
    refine ic_2_3_1 (pc := 18) dX10_many_18 rfl ?_
    refine zx_goto (pc := 21) (tgt := 4) dX10_many_21 (by decide) ?_
    rw [nI_1]
    exact ih (i + 1) (by omega)
set_option maxHeartbeats 4000000 in
theorem r_many {d : Nat} {u : Int32} {sg : List zCel}  : zCf yX10_many cX10_many 3 (some .int) d [.int u] (sg) (some (.int (zMy u 8))) (sg) := by
  refine zC.intro (by decide) (Nat.le_of_ble_eq_true rfl) rfl ?_
  refine zx_iconst (pc := 0) (v := 0) dX10_many_0 (by decide) ?_
  refine st_1_3 (pc := 1) dX10_many_1 rfl ?_
  refine zx_iconst (pc := 2) (v := 0) dX10_many_2 (by decide) ?_
  refine st_2_3 (pc := 3) dX10_many_3 rfl ?_
  exact lr_many 8 0 (by omega)
set_option maxHeartbeats 4000000 in
theorem r_noHand {d : Nat} {H F : Nat} {x : Int32} {th : Int32} {mA : (Nat → Int32) × Int32 × Int32} {mo : Int32} {mg : (Nat → Int32)} {mk : (Nat → Int32)} {md : (Nat → Int32)} {mR : Int32 × Int32 × (Nat → Int32) × Int32 × (Nat → Int32)} {pg : (Nat → Int32)} {mq : (Nat → Int32)} {bk : (Nat → Int32) × Int32} {kp : (Nat → Int32) × (Nat → Int32)} {sn : Int32 × (Nat → Int32) × (Nat → Int32) × (Nat → Int32)} {ml : Int64} {mw : Int32 × Int32} {pn : Int32 × Int32 × Int32 × Int32} {wl : Int32 × Int32} {sp : Int32 × Int32} {rs : Int32 × Int32} {vl : (Nat → Int32)} {rho : List zCel} (hr : rho.length = 75) (hH : H < 1000) : zCf yX10_noHand cX10_noHand 2 (some .boolean) (d + 1) [.ref 75, .int x] (rho ++ encM th mA (mo, (nI H), mg, mk, (nI F), md) mR pg mq bk kp sn ml mw pn wl sp rs vl) (some (.int (if zHas (nI H) x = 0 then 1 else 0))) (rho ++ encM th mA (mo, (nI H), mg, mk, (nI F), md) mR pg mq bk kp sn ml mw pn wl sp rs vl) := by
  refine zC.intro (by decide) (Nat.le_of_ble_eq_true rfl) rfl ?_
  refine zx_iload_n (pc := 0) dX10_noHand_0 rfl rfl ?_
  refine zx_i2l (pc := 1) dX10_noHand_1 rfl ?_
  refine zx_lconst (pc := 2) (v := 0) dX10_noHand_2 (by decide) ?_
  refine zx_aload_n (pc := 3) dX10_noHand_3 rfl rfl ?_
  refine g75_5 (pc := 4) hr fl_X10_60 dX10_noHand_4 ?_
  refine zx_iconst (pc := 7) (v := 1) dX10_noHand_7 (by decide) ?_
  refine zx_isub (pc := 8) dX10_noHand_8 ?_
  refine zx_i2l (pc := 9) dX10_noHand_9 rfl ?_
  refine zx_fS1 (pc := 10) (r_in (d := d) (lo := 0) rfl rfl rfl) cl_X10_63 dX10_noHand_10 rfl rfl (by omega) (Nat.le_of_ble_eq_true rfl) (Nat.le_refl _) (Nat.le_refl _) ?_
  rw [zIn_has hH]
  refine zx_if_ne (pc := 13) (tgt := 20) dX10_noHand_13 (by decide) (fun h13 => ?_) (fun h13 => ?_)
  · refine zx_iconst (pc := 20) (v := 0) dX10_noHand_20 (by decide) ?_
    exact zx_fi (pc := 21) dX10_noHand_21 rfl (by decide) (Nat.le_refl _) (Nat.le_refl _) (by first | (simp only [h13, reduceIte, not_true_eq_false, not_false_eq_true]; done) | (simp [h13]; done)) rfl
  · refine zx_iconst (pc := 16) (v := 1) dX10_noHand_16 (by decide) ?_
    refine zx_goto (pc := 17) (tgt := 21) dX10_noHand_17 (by decide) ?_
    exact zx_fi (pc := 21) dX10_noHand_21 rfl (by decide) (Nat.le_refl _) (Nat.le_refl _) (by first | (simp only [h13, reduceIte, not_true_eq_false, not_false_eq_true]; done) | (simp [h13]; done)) rfl
theorem sw_X10_moulds_6 {scr : Option (Nat × (Nat → Int32))} {d n0 mc ms kc ks : Nat} {Q : Option Value → List zCel → Prop} {L : List (Option Value)} {st : List Value} {sg : List zCel} {x : Int32} (k0 : x = 1 → zX RX10 cX10_moulds 2 (some .int) "moulds" scr d n0 mc ms kc ks Q 32 L st sg) (k1 : x = 2 → zX RX10 cX10_moulds 2 (some .int) "moulds" scr d n0 mc ms kc ks Q 41 L st sg) (k2 : x = 3 → zX RX10 cX10_moulds 2 (some .int) "moulds" scr d n0 mc ms kc ks Q 50 L st sg) (kd : ¬ x = 1 → ¬ x = 2 → ¬ x = 3 → zX RX10 cX10_moulds 2 (some .int) "moulds" scr d n0 mc ms kc ks Q 52 L st sg) : zX RX10 cX10_moulds 2 (some .int) "moulds" scr d n0 mc ms kc ks Q 6 L (.int x :: st) sg := by
  by_cases c0 : x = 1
  · exact zx_tab (k := 1) (off := 26) (tgt := 32) dX10_moulds_6 (zeq c0 (by decide)) (by decide) (by decide) (by decide) (k0 c0)
  by_cases c1 : x = 2
  · exact zx_tab (k := 2) (off := 35) (tgt := 41) dX10_moulds_6 (zeq c1 (by decide)) (by decide) (by decide) (by decide) (k1 c1)
  by_cases c2 : x = 3
  · exact zx_tab (k := 3) (off := 44) (tgt := 50) dX10_moulds_6 (zeq c2 (by decide)) (by decide) (by decide) (by decide) (k2 c2)
  have e9 : x.toInt < 1 ∨ 3 < x.toInt := by
    have e0 := zne (k := 1) c0 (by decide)
    have e1 := zne (k := 2) c1 (by decide)
    have e2 := zne (k := 3) c2 (by decide)
    omega
  exact zx_tableOut (tgt := 52) dX10_moulds_6 e9 (by decide) (kd c0 c1 c2)
set_option maxHeartbeats 4000000 in
theorem r_moulds {d : Nat} {h H F : Nat} {th : Int32} {mA : (Nat → Int32) × Int32 × Int32} {mo : Int32} {mg : (Nat → Int32)} {mk : (Nat → Int32)} {md : (Nat → Int32)} {mR : Int32 × Int32 × (Nat → Int32) × Int32 × (Nat → Int32)} {pg : (Nat → Int32)} {mq : (Nat → Int32)} {bk : (Nat → Int32) × Int32} {kp : (Nat → Int32) × (Nat → Int32)} {sn : Int32 × (Nat → Int32) × (Nat → Int32) × (Nat → Int32)} {ml : Int64} {mw : Int32 × Int32} {pn : Int32 × Int32 × Int32 × Int32} {wl : Int32 × Int32} {sp : Int32 × Int32} {rs : Int32 × Int32} {vl : (Nat → Int32)} {rho : List zCel} (hr : rho.length = 75) (hh : h < 5) : zCf yX10_moulds cX10_moulds 2 (some .int) d [.ref 75, .int (nI h)] (rho ++ encM th mA (mo, (nI H), mg, mk, (nI F), md) mR pg mq bk kp sn ml mw pn wl sp rs vl) (some (.int (zMo (mk h) (mg h)))) (rho ++ encM th mA (mo, (nI H), mg, mk, (nI F), md) mR pg mq bk kp sn ml mw pn wl sp rs vl) := by
  refine zC.intro (by decide) (Nat.le_of_ble_eq_true rfl) rfl ?_
  refine zx_aload_n (pc := 0) dX10_moulds_0 rfl rfl ?_
  refine g75_7 (pc := 1) hr fl_X10_16 dX10_moulds_1 ?_
  refine zx_iload_n (pc := 4) dX10_moulds_4 rfl rfl ?_
  refine a78 (pc := 5) hr (zix_n (by omega)) dX10_moulds_5 ?_
  refine sw_X10_moulds_6 (fun h6_0 => ?_) (fun h6_1 => ?_) (fun h6_2 => ?_) (fun h6_0 h6_1 h6_2 => ?_)
  · refine zx_aload_n (pc := 32) dX10_moulds_32 rfl rfl ?_
    refine g75_6 (pc := 33) hr fl_X10_13 dX10_moulds_33 ?_
    refine zx_iload_n (pc := 36) dX10_moulds_36 rfl rfl ?_
    refine a77 (pc := 37) hr (zix_n (by omega)) dX10_moulds_37 ?_
    refine zx_iconst (pc := 38) (v := 2) dX10_moulds_38 (by decide) ?_
    refine zx_iadd (pc := 39) dX10_moulds_39 ?_
    exact zx_fi (pc := 40) dX10_moulds_40 rfl rfl (Nat.le_refl _) (Nat.le_refl _) (by first | (simp only [zMo, h6_0, reduceIte, not_true_eq_false, not_false_eq_true]; done) | (simp [zMo, h6_0]; done)) rfl
  · refine zx_aload_n (pc := 41) dX10_moulds_41 rfl rfl ?_
    refine g75_6 (pc := 42) hr fl_X10_13 dX10_moulds_42 ?_
    refine zx_iload_n (pc := 45) dX10_moulds_45 rfl rfl ?_
    refine a77 (pc := 46) hr (zix_n (by omega)) dX10_moulds_46 ?_
    refine zx_iconst (pc := 47) (v := 1) dX10_moulds_47 (by decide) ?_
    refine zx_isub (pc := 48) dX10_moulds_48 ?_
    exact zx_fi (pc := 49) dX10_moulds_49 rfl rfl (Nat.le_refl _) (Nat.le_refl _) (by first | (simp only [zMo, h6_1, reduceIte, not_true_eq_false, not_false_eq_true]; done) | (simp [zMo, h6_1]; done)) rfl
  · refine zx_iconst (pc := 50) (v := 0) dX10_moulds_50 (by decide) ?_
    exact zx_fi (pc := 51) dX10_moulds_51 rfl rfl (Nat.le_refl _) (Nat.le_refl _) (by first | (simp only [zMo, h6_2, reduceIte, not_true_eq_false, not_false_eq_true]; done) | (simp [zMo, h6_2]; done)) rfl
  · refine zx_aload_n (pc := 52) dX10_moulds_52 rfl rfl ?_
    refine g75_6 (pc := 53) hr fl_X10_13 dX10_moulds_53 ?_
    refine zx_iload_n (pc := 56) dX10_moulds_56 rfl rfl ?_
    refine a77 (pc := 57) hr (zix_n (by omega)) dX10_moulds_57 ?_
    exact zx_fi (pc := 58) dX10_moulds_58 rfl rfl (Nat.le_refl _) (Nat.le_refl _) (by first | (simp only [zMo, h6_0, h6_1, h6_2, reduceIte, not_true_eq_false, not_false_eq_true]; done) | (simp [zMo, h6_0, h6_1, h6_2]; done)) rfl
set_option maxHeartbeats 4000000 in
theorem r_gathers {d : Nat} {h f H F : Nat} {th : Int32} {mA : (Nat → Int32) × Int32 × Int32} {mo : Int32} {mg : (Nat → Int32)} {mk : (Nat → Int32)} {md : (Nat → Int32)} {mR : Int32 × Int32 × (Nat → Int32) × Int32 × (Nat → Int32)} {pg : (Nat → Int32)} {mq : (Nat → Int32)} {bk : (Nat → Int32) × Int32} {kp : (Nat → Int32) × (Nat → Int32)} {sn : Int32 × (Nat → Int32) × (Nat → Int32) × (Nat → Int32)} {ml : Int64} {mw : Int32 × Int32} {pn : Int32 × Int32 × Int32 × Int32} {wl : Int32 × Int32} {sp : Int32 × Int32} {rs : Int32 × Int32} {vl : (Nat → Int32)} {rho : List zCel} (hr : rho.length = 75) (hh : h < 5) (hf : f < 3) : zCf yX10_gathers cX10_gathers 4 (some .int) d [.ref 75, .int (nI h), .int (nI f)] (rho ++ encM th mA (mo, (nI H), mg, mk, (nI F), md) mR pg mq bk kp sn ml mw pn wl sp rs vl) (some (.int (zGa (mg h) (mk h) (md f)))) (rho ++ encM th mA (mo, (nI H), mg, mk, (nI F), md) mR pg mq bk kp sn ml mw pn wl sp rs vl) := by
  refine zC.intro (by decide) (Nat.le_of_ble_eq_true rfl) rfl ?_
  refine zx_aload_n (pc := 0) dX10_gathers_0 rfl rfl ?_
  refine g75_6 (pc := 1) hr fl_X10_13 dX10_gathers_1 ?_
  refine zx_iload_n (pc := 4) dX10_gathers_4 rfl rfl ?_
  refine a77 (pc := 5) hr (zix_n (by omega)) dX10_gathers_5 ?_
  refine zx_aload_n (pc := 6) dX10_gathers_6 rfl rfl ?_
  refine g75_9 (pc := 7) hr fl_X10_19 dX10_gathers_7 ?_
  refine zx_iload_n (pc := 10) dX10_gathers_10 rfl rfl ?_
  refine a79 (pc := 11) hr (zix_n (by omega)) dX10_gathers_11 ?_
  refine zx_isub (pc := 12) dX10_gathers_12 ?_
  refine zx_aload_n (pc := 13) dX10_gathers_13 rfl rfl ?_
  refine g75_7 (pc := 14) hr fl_X10_16 dX10_gathers_14 ?_
  refine zx_iload_n (pc := 17) dX10_gathers_17 rfl rfl ?_
  refine a78 (pc := 18) hr (zix_n (by omega)) dX10_gathers_18 ?_
  refine zx_iconst (pc := 19) (v := 2) dX10_gathers_19 (by decide) ?_
  refine zx_icmp_ne (pc := 20) (tgt := 27) dX10_gathers_20 (by decide) (fun h20 => ?_) (fun h20 => ?_)
  · refine zx_iconst (pc := 27) (v := 0) dX10_gathers_27 (by decide) ?_
    refine zx_isub (pc := 28) dX10_gathers_28 ?_
    refine st_3_4 (pc := 29) dX10_gathers_29 rfl ?_
    refine zx_iload_n (pc := 30) dX10_gathers_30 rfl rfl ?_
    refine zx_if_ge (pc := 31) (tgt := 38) dX10_gathers_31 (by decide) (fun h31 => ?_) (fun h31 => ?_)
    · refine zx_iload_n (pc := 38) dX10_gathers_38 rfl rfl ?_
      exact zx_fi (pc := 39) dX10_gathers_39 rfl rfl (Nat.le_refl _) (Nat.le_refl _) (by rw [zGa, ← zGa_le]; first | (simp only [h20, h31, reduceIte]; done) | (simp only [h20, reduceIte] at h31 ⊢; simp only [h31, reduceIte]; done)) rfl
    · refine zx_iconst (pc := 34) (v := 0) dX10_gathers_34 (by decide) ?_
      refine zx_goto (pc := 35) (tgt := 39) dX10_gathers_35 (by decide) ?_
      exact zx_fi (pc := 39) dX10_gathers_39 rfl rfl (Nat.le_refl _) (Nat.le_refl _) (by rw [zGa, ← zGa_le]; first | (simp only [h20, h31, reduceIte]; done) | (simp only [h20, reduceIte] at h31 ⊢; simp only [h31, reduceIte]; done)) rfl
  · refine zx_iconst (pc := 23) (v := 1) dX10_gathers_23 (by decide) ?_
    refine zx_goto (pc := 24) (tgt := 28) dX10_gathers_24 (by decide) ?_
    refine zx_isub (pc := 28) dX10_gathers_28 ?_
    refine st_3_4 (pc := 29) dX10_gathers_29 rfl ?_
    refine zx_iload_n (pc := 30) dX10_gathers_30 rfl rfl ?_
    refine zx_if_ge (pc := 31) (tgt := 38) dX10_gathers_31 (by decide) (fun h31 => ?_) (fun h31 => ?_)
    · refine zx_iload_n (pc := 38) dX10_gathers_38 rfl rfl ?_
      exact zx_fi (pc := 39) dX10_gathers_39 rfl rfl (Nat.le_refl _) (Nat.le_refl _) (by rw [zGa, ← zGa_le]; first | (simp only [h20, h31, reduceIte]; done) | (simp only [h20, reduceIte] at h31 ⊢; simp only [h31, reduceIte]; done)) rfl
    · refine zx_iconst (pc := 34) (v := 0) dX10_gathers_34 (by decide) ?_
      refine zx_goto (pc := 35) (tgt := 39) dX10_gathers_35 (by decide) ?_
      exact zx_fi (pc := 39) dX10_gathers_39 rfl rfl (Nat.le_refl _) (Nat.le_refl _) (by rw [zGa, ← zGa_le]; first | (simp only [h20, h31, reduceIte]; done) | (simp only [h20, reduceIte] at h31 ⊢; simp only [h31, reduceIte]; done)) rfl
set_option maxHeartbeats 8000000 in
theorem lr_goWork_p {d n0 H F : Nat} {p : Nat → Int32} {th : Int32} {mA : (Nat → Int32) × Int32 × Int32} {mo : Int32} {mg : (Nat → Int32)} {mk : (Nat → Int32)} {md : (Nat → Int32)} {mR : Int32 × Int32 × (Nat → Int32) × Int32 × (Nat → Int32)} {mq : (Nat → Int32)} {bk : (Nat → Int32) × Int32} {kp : (Nat → Int32) × (Nat → Int32)} {sn : Int32 × (Nat → Int32) × (Nat → Int32) × (Nat → Int32)} {ml : Int64} {mw : Int32 × Int32} {pn : Int32 × Int32 × Int32 × Int32} {wl : Int32 × Int32} {sp : Int32 × Int32} {rs : Int32 × Int32} {vl : (Nat → Int32)} {rho : List zCel} (hr : rho.length = 75) (hH : H ≤ 5) (hF : F ≤ 3) (hv : ∀ h, h < H → ∃ t : Nat, t < 2 + F ∧ p h = nI t) : ∀ k i : Nat, i + k = H → ∀ o4 o5 : Option Value, zX RX10 cX10_goWork 6 none "goWork" none (d + 1) n0 0 0 0 0 (fun r s => r = none ∧ s = rho ++ encM th mA (mo, (nI H), mg, mk, (nI F), md) mR (zPf p (zMd mg mk md F H p)) mq bk kp sn ml ((zMd mg mk md F H p).2.2.1, (zMd mg mk md F H p).2.2.2) pn wl sp rs vl) 4 [some (.ref 75), some (.ref 82), some (.int (zRk mg mk md (nI F) p (fun j => p (5 + j)) (p 8) i).2.2), some (.int (nI i)), o4, o5] [] (rho ++ encM th mA (mo, (nI H), mg, mk, (nI F), md) mR (zPk p (zRk mg mk md (nI F) p (fun j => p (5 + j)) (p 8) i).1 (zRk mg mk md (nI F) p (fun j => p (5 + j)) (p 8) i).2.1) mq bk kp sn ml mw pn wl sp rs vl) := by
  intro k
  induction k with
  | zero =>
    intro i hi o4 o5
    obtain rfl : i = H := by omega
    refine zx_iload_n (pc := 4) dX10_goWork_4 rfl rfl ?_
    refine zx_aload_n (pc := 5) dX10_goWork_5 rfl rfl ?_
    refine g75_5 (pc := 6) hr fl_X10_60 dX10_goWork_6 ?_
    refine zx_icmp_ge (pc := 9) (tgt := 107) dX10_goWork_9 (by decide) (fun h9 => ?_) (fun h9 => by first | exact absurd h9 (show nI i ≤ nI i from Int32.le_refl _) | exact absurd (show nI i ≤ nI i from Int32.le_refl _) h9)
    refine zx_aload_n (pc := 107) dX10_goWork_107 rfl rfl ?_
    refine zx_cut 120 (fun v => v = zDm mg mk md (nI F) i p (fun j => p (5 + j)) (p 8)) (fun v ev => ?_) (fun key => ?_)
    · subst ev
      refine u75_26 (pc := 120) hr fl_X10_116 dX10_goWork_120 ?_
      refine zx_aload_n (pc := 123) dX10_goWork_123 rfl rfl ?_
      refine zx_cut 146 (fun v => v = zDs mg mk md (nI F) i p (fun j => p (5 + j)) (p 8)) (fun v ev => ?_) (fun key => ?_)
      · subst ev
        refine u75_27 (pc := 146) hr fl_X10_119 dX10_goWork_146 ?_
        refine zx_aload_n (pc := 149) dX10_goWork_149 rfl rfl ?_
        refine zx_bipush (pc := 150) (v := 8) dX10_goWork_150 (by decide) ?_
        refine zx_dup2 (pc := 152) dX10_goWork_152 rfl rfl ?_
        refine a82 (pc := 153) hr (zix_k (j := 8) (by decide) (by decide)) dX10_goWork_153 ?_
        refine zx_aload_n (pc := 154) dX10_goWork_154 rfl rfl ?_
        refine g75_27 (pc := 155) hr fl_X10_119 dX10_goWork_155 ?_
        refine zx_isub (pc := 158) dX10_goWork_158 ?_
        refine s82 (pc := 159) hr (zix_k (j := 8) (by decide) (by decide)) dX10_goWork_159 ?_
        refine zx_aload_n (pc := 160) dX10_goWork_160 rfl rfl ?_
        refine zx_bipush (pc := 161) (v := 9) dX10_goWork_161 (by decide) ?_
        refine zx_dup2 (pc := 163) dX10_goWork_163 rfl rfl ?_
        refine a82 (pc := 164) hr (zix_k (j := 9) (by decide) (by decide)) dX10_goWork_164 ?_
        refine zx_aload_n (pc := 165) dX10_goWork_165 rfl rfl ?_
        refine g75_27 (pc := 166) hr fl_X10_119 dX10_goWork_166 ?_
        refine zx_iadd (pc := 169) dX10_goWork_169 ?_
        refine s82 (pc := 170) hr (zix_k (j := 9) (by decide) (by decide)) dX10_goWork_170 ?_
        refine zx_aload_n (pc := 171) dX10_goWork_171 rfl rfl ?_
        refine zx_bipush (pc := 172) (v := 10) dX10_goWork_172 (by decide) ?_
        refine zx_dup2 (pc := 174) dX10_goWork_174 rfl rfl ?_
        refine a82 (pc := 175) hr (zix_k (j := 10) (by decide) (by decide)) dX10_goWork_175 ?_
        refine zx_aload_n (pc := 176) dX10_goWork_176 rfl rfl ?_
        refine g75_26 (pc := 177) hr fl_X10_116 dX10_goWork_177 ?_
        refine zx_aload_n (pc := 180) dX10_goWork_180 rfl rfl ?_
        refine g75_27 (pc := 181) hr fl_X10_119 dX10_goWork_181 ?_
        refine zx_isub (pc := 184) dX10_goWork_184 ?_
        refine zx_iadd (pc := 185) dX10_goWork_185 ?_
        refine s82 (pc := 186) hr (zix_k (j := 10) (by decide) (by decide)) dX10_goWork_186 ?_
        exact zx_fv (pc := 187) dX10_goWork_187 rfl (Nat.le_refl _) (Nat.le_refl _) (by rw [zPk_8, pk_un (by decide), zPk_o (by decide), pk_un (by decide), pk_un (by decide), zPk_o (by decide), zPf_eq]; rfl)
      · refine zx_aload_n (pc := 124) dX10_goWork_124 rfl rfl ?_
        refine g75_26 (pc := 125) hr fl_X10_116 dX10_goWork_125 ?_
        refine zx_aload_n (pc := 128) dX10_goWork_128 rfl rfl ?_
        refine zx_bipush (pc := 129) (v := 8) dX10_goWork_129 (by decide) ?_
        refine a82 (pc := 131) hr (zix_k (j := 8) (by decide) (by decide)) dX10_goWork_131 ?_
        refine zx_icmp_ge (pc := 132) (tgt := 142) dX10_goWork_132 (by decide) (fun h132 => ?_) (fun h132 => ?_)
        · refine zx_aload_n (pc := 142) dX10_goWork_142 rfl rfl ?_
          refine zx_bipush (pc := 143) (v := 8) dX10_goWork_143 (by decide) ?_
          refine a82 (pc := 145) hr (zix_k (j := 8) (by decide) (by decide)) dX10_goWork_145 ?_
          exact key _ (by rw [zDs, ← zMn_le]; rw [zPk_8] at h132; first | (rw [if_pos h132, zPk_8]; done) | (rw [if_neg h132]; done))
        · refine zx_aload_n (pc := 135) dX10_goWork_135 rfl rfl ?_
          refine g75_26 (pc := 136) hr fl_X10_116 dX10_goWork_136 ?_
          refine zx_goto (pc := 139) (tgt := 146) dX10_goWork_139 (by decide) ?_
          exact key _ (by rw [zDs, ← zMn_le]; rw [zPk_8] at h132; first | (rw [if_pos h132, zPk_8]; done) | (rw [if_neg h132]; done))
    · refine zx_iload_n (pc := 108) dX10_goWork_108 rfl rfl ?_
      refine zx_bipush (pc := 109) (v := 9) dX10_goWork_109 (by decide) ?_
      refine zx_icmp_le (pc := 111) (tgt := 119) dX10_goWork_111 (by decide) (fun h111 => ?_) (fun h111 => ?_)
      · refine zx_iload_n (pc := 119) dX10_goWork_119 rfl rfl ?_
        exact key _ (by rw [zDm, zMn]; first | rw [if_neg (Int32.not_lt.mpr h111)] | rw [if_pos (Int32.not_le.mp h111)])
      · refine zx_bipush (pc := 114) (v := 9) dX10_goWork_114 (by decide) ?_
        refine zx_goto (pc := 116) (tgt := 120) dX10_goWork_116 (by decide) ?_
        exact key _ (by rw [zDm, zMn]; first | rw [if_neg (Int32.not_lt.mpr h111)] | rw [if_pos (Int32.not_le.mp h111)])
  | succ k ih =>
    intro i hi o4 o5
    obtain ⟨t, ht, et⟩ := hv i (by omega)
    generalize hS : zRk mg mk md (nI F) p (fun j => p (5 + j)) (p 8) i = S
    by_cases h2 : t < 2
    · have hneg : p i - 2 < 0 := by
        rw [et]; rcases (show t = 0 ∨ t = 1 by omega) with rfl | rfl <;> decide
      have hgt : zGt mg mk md (nI F) i (p i - 2) S.1 S.2.1 = (S.1, S.2.1) := by rw [zGt, if_pos (by rw [zHas, if_pos hneg])]
      refine zx_iload_n (pc := 4) dX10_goWork_4 rfl rfl ?_
      refine zx_aload_n (pc := 5) dX10_goWork_5 rfl rfl ?_
      refine g75_5 (pc := 6) hr fl_X10_60 dX10_goWork_6 ?_
      refine zx_icmp_ge (pc := 9) (tgt := 107) dX10_goWork_9 (by decide) (fun h9 => by first | exact absurd h9 (nI_ge (show i < H by omega) (by omega)) | exact absurd (nI_ge (show i < H by omega) (by omega)) h9) (fun h9 => ?_)
      refine zx_aload_n (pc := 12) dX10_goWork_12 rfl rfl ?_
      refine zx_iconst (pc := 13) (v := 0) dX10_goWork_13 (by decide) ?_
      refine zx_iload_n (pc := 14) dX10_goWork_14 rfl rfl ?_
      refine zx_iadd (pc := 15) dX10_goWork_15 ?_
      refine a82 (pc := 16) hr (zix_0 (by omega)) dX10_goWork_16 ?_
      rw [zPk_h (show i < 5 by omega)]
      refine zx_iconst (pc := 17) (v := 2) dX10_goWork_17 (by decide) ?_
      refine zx_isub (pc := 18) dX10_goWork_18 ?_
      refine st_4_6 (pc := 19) dX10_goWork_19 rfl ?_
      refine zx_iload (pc := 21) dX10_goWork_21 rfl ?_
      refine zx_if_lt (pc := 23) (tgt := 80) dX10_goWork_23 (by decide) (fun h23 => ?_) (fun h23 => by first | exact absurd h23 hneg | exact absurd hneg h23)
      refine zx_iload_n (pc := 80) dX10_goWork_80 rfl rfl ?_
      refine zx_aload_n (pc := 81) dX10_goWork_81 rfl rfl ?_
      refine zx_iconst (pc := 82) (v := 0) dX10_goWork_82 (by decide) ?_
      refine zx_iload_n (pc := 83) dX10_goWork_83 rfl rfl ?_
      refine zx_iadd (pc := 84) dX10_goWork_84 ?_
      refine a82 (pc := 85) hr (zix_0 (by omega)) dX10_goWork_85 ?_
      rw [zPk_h (show i < 5 by omega)]
      refine zx_iconst (pc := 86) (v := 1) dX10_goWork_86 (by decide) ?_
      refine zx_icmp_ne (pc := 87) (tgt := 98) dX10_goWork_87 (by decide) (fun h87 => ?_) (fun h87 => ?_)
      · refine zx_iconst (pc := 98) (v := 0) dX10_goWork_98 (by decide) ?_
        refine zx_iadd (pc := 99) dX10_goWork_99 ?_
        try rw [Int32.add_zero]
        refine st_2_6 (pc := 100) dX10_goWork_100 rfl ?_
        refine ic_3_6_1 (pc := 101) dX10_goWork_101 rfl ?_
        refine zx_goto (pc := 104) (tgt := 4) dX10_goWork_104 (by decide) ?_
        have hs := ih (i + 1) (by omega)
        simp only [zRk, hS, hgt, h87, reduceIte, ← nI_1] at hs
        exact hs _ _
      · refine zx_aload_n (pc := 90) dX10_goWork_90 rfl rfl ?_
        refine zx_iload_n (pc := 91) dX10_goWork_91 rfl rfl ?_
        refine zx_fV1 (pc := 92) (r_moulds (d := d) hr (by omega)) cl_X10_112 (p75 hr) rfl dX10_goWork_92 rfl rfl (by omega) (Nat.le_of_ble_eq_true rfl) (Nat.le_refl _) (Nat.le_refl _) ?_
        refine zx_goto (pc := 95) (tgt := 99) dX10_goWork_95 (by decide) ?_
        refine zx_iadd (pc := 99) dX10_goWork_99 ?_
        try rw [Int32.add_zero]
        refine st_2_6 (pc := 100) dX10_goWork_100 rfl ?_
        refine ic_3_6_1 (pc := 101) dX10_goWork_101 rfl ?_
        refine zx_goto (pc := 104) (tgt := 4) dX10_goWork_104 (by decide) ?_
        have hs := ih (i + 1) (by omega)
        simp only [zRk, hS, hgt, h87, reduceIte, ← nI_1] at hs
        exact hs _ _
    · obtain ⟨f, rfl⟩ : ∃ f, t = f + 2 := ⟨t - 2, by omega⟩
      have hf : f < 3 := by omega
      have e1 : p i - 2 = nI f := by rw [et, show (2 : Int32) = nI 2 from rfl, pk_sub (by omega), Nat.add_sub_cancel]
      have e2 : ¬ p i = 1 := by rw [et]; intro q; have := (nI_eq (a := f + 2) (b := 1) (by omega) (by decide)).mp q; omega
      have hgt : zGt mg mk md (nI F) i (p i - 2) S.1 S.2.1 = (upd S.1 f (S.1 f - zMn (zGa (mg i) (mk i) (md f)) (S.1 f)), S.2.1 + zMn (zGa (mg i) (mk i) (md f)) (S.1 f)) := by
        rw [zGt, e1, if_neg (by rw [zHas_1 (show f < F by omega) (by omega)]; decide), nI_clamp (show f < 2 ^ 31 by omega)]
      refine zx_iload_n (pc := 4) dX10_goWork_4 rfl rfl ?_
      refine zx_aload_n (pc := 5) dX10_goWork_5 rfl rfl ?_
      refine g75_5 (pc := 6) hr fl_X10_60 dX10_goWork_6 ?_
      refine zx_icmp_ge (pc := 9) (tgt := 107) dX10_goWork_9 (by decide) (fun h9 => by first | exact absurd h9 (nI_ge (show i < H by omega) (by omega)) | exact absurd (nI_ge (show i < H by omega) (by omega)) h9) (fun h9 => ?_)
      refine zx_aload_n (pc := 12) dX10_goWork_12 rfl rfl ?_
      refine zx_iconst (pc := 13) (v := 0) dX10_goWork_13 (by decide) ?_
      refine zx_iload_n (pc := 14) dX10_goWork_14 rfl rfl ?_
      refine zx_iadd (pc := 15) dX10_goWork_15 ?_
      refine a82 (pc := 16) hr (zix_0 (by omega)) dX10_goWork_16 ?_
      rw [zPk_h (show i < 5 by omega)]
      refine zx_iconst (pc := 17) (v := 2) dX10_goWork_17 (by decide) ?_
      refine zx_isub (pc := 18) dX10_goWork_18 ?_
      rw [e1]
      refine st_4_6 (pc := 19) dX10_goWork_19 rfl ?_
      refine zx_iload (pc := 21) dX10_goWork_21 rfl ?_
      refine zx_if_lt (pc := 23) (tgt := 80) dX10_goWork_23 (by decide) (fun h23 => by first | exact absurd h23 (nI_pos (show f < 2 ^ 31 by omega)) | exact absurd (nI_pos (show f < 2 ^ 31 by omega)) h23) (fun h23 => ?_)
      refine zx_cut 58 (fun v => v = zMn (zGa (mg i) (mk i) (md f)) (S.1 f)) (fun v ev => ?_) (fun key => ?_)
      · subst ev
        refine st_5_6 (pc := 58) dX10_goWork_58 rfl ?_
        refine zx_aload_n (pc := 60) dX10_goWork_60 rfl rfl ?_
        refine zx_iconst (pc := 61) (v := 5) dX10_goWork_61 (by decide) ?_
        refine zx_iload (pc := 62) dX10_goWork_62 rfl ?_
        refine zx_iadd (pc := 64) dX10_goWork_64 ?_
        refine zx_dup2 (pc := 65) dX10_goWork_65 rfl rfl ?_
        refine a82 (pc := 66) hr (zix_5 (by omega)) dX10_goWork_66 ?_
        refine zx_iload (pc := 67) dX10_goWork_67 rfl ?_
        refine zx_isub (pc := 69) dX10_goWork_69 ?_
        refine s82 (pc := 70) hr (zix_5 (by omega)) dX10_goWork_70 ?_
        refine zx_aload_n (pc := 71) dX10_goWork_71 rfl rfl ?_
        refine zx_bipush (pc := 72) (v := 8) dX10_goWork_72 (by decide) ?_
        refine zx_dup2 (pc := 74) dX10_goWork_74 rfl rfl ?_
        refine a82 (pc := 75) hr (zix_k (j := 8) (by decide) (by decide)) dX10_goWork_75 ?_
        refine zx_iload (pc := 76) dX10_goWork_76 rfl ?_
        refine zx_iadd (pc := 78) dX10_goWork_78 ?_
        refine s82 (pc := 79) hr (zix_k (j := 8) (by decide) (by decide)) dX10_goWork_79 ?_
        rw [zPk_s hf, pk_un (show (8 : Nat) ≠ 5 + f by omega), zPk_8, zPk_g hf]
        refine zx_iload_n (pc := 80) dX10_goWork_80 rfl rfl ?_
        refine zx_aload_n (pc := 81) dX10_goWork_81 rfl rfl ?_
        refine zx_iconst (pc := 82) (v := 0) dX10_goWork_82 (by decide) ?_
        refine zx_iload_n (pc := 83) dX10_goWork_83 rfl rfl ?_
        refine zx_iadd (pc := 84) dX10_goWork_84 ?_
        refine a82 (pc := 85) hr (zix_0 (by omega)) dX10_goWork_85 ?_
        rw [zPk_h (show i < 5 by omega)]
        refine zx_iconst (pc := 86) (v := 1) dX10_goWork_86 (by decide) ?_
        refine zx_icmp_ne (pc := 87) (tgt := 98) dX10_goWork_87 (by decide) (fun h87 => ?_) (fun h87 => by first | exact absurd h87 e2 | exact absurd e2 h87)
        refine zx_iconst (pc := 98) (v := 0) dX10_goWork_98 (by decide) ?_
        refine zx_iadd (pc := 99) dX10_goWork_99 ?_
        rw [Int32.add_zero]
        refine st_2_6 (pc := 100) dX10_goWork_100 rfl ?_
        refine ic_3_6_1 (pc := 101) dX10_goWork_101 rfl ?_
        refine zx_goto (pc := 104) (tgt := 4) dX10_goWork_104 (by decide) ?_
        have hs := ih (i + 1) (by omega)
        simp only [zRk, hS, hgt, e2, reduceIte, ← nI_1] at hs
        exact hs _ _
      · refine zx_aload_n (pc := 26) dX10_goWork_26 rfl rfl ?_
        refine zx_iload_n (pc := 27) dX10_goWork_27 rfl rfl ?_
        refine zx_iload (pc := 28) dX10_goWork_28 rfl ?_
        refine zx_fV1 (pc := 30) (r_gathers (d := d) hr (by omega) hf) cl_X10_109 (p75 hr) rfl dX10_goWork_30 rfl rfl (by omega) (Nat.le_of_ble_eq_true rfl) (Nat.le_refl _) (Nat.le_refl _) ?_
        refine zx_aload_n (pc := 33) dX10_goWork_33 rfl rfl ?_
        refine zx_iconst (pc := 34) (v := 5) dX10_goWork_34 (by decide) ?_
        refine zx_iload (pc := 35) dX10_goWork_35 rfl ?_
        refine zx_iadd (pc := 37) dX10_goWork_37 ?_
        refine a82 (pc := 38) hr (zix_5 (by omega)) dX10_goWork_38 ?_
        refine zx_icmp_ge (pc := 39) (tgt := 52) dX10_goWork_39 (by decide) (fun h39 => ?_) (fun h39 => ?_)
        · refine zx_aload_n (pc := 52) dX10_goWork_52 rfl rfl ?_
          refine zx_iconst (pc := 53) (v := 5) dX10_goWork_53 (by decide) ?_
          refine zx_iload (pc := 54) dX10_goWork_54 rfl ?_
          refine zx_iadd (pc := 56) dX10_goWork_56 ?_
          refine a82 (pc := 57) hr (zix_5 (by omega)) dX10_goWork_57 ?_
          exact key _ (by rw [zPk_s hf] at h39; rw [← zMn_le]; first | (rw [if_pos h39, zPk_s hf]; done) | (rw [if_neg h39]; done))
        · refine zx_aload_n (pc := 42) dX10_goWork_42 rfl rfl ?_
          refine zx_iload_n (pc := 43) dX10_goWork_43 rfl rfl ?_
          refine zx_iload (pc := 44) dX10_goWork_44 rfl ?_
          refine zx_fV1 (pc := 46) (r_gathers (d := d) hr (by omega) hf) cl_X10_109 (p75 hr) rfl dX10_goWork_46 rfl rfl (by omega) (Nat.le_of_ble_eq_true rfl) (Nat.le_refl _) (Nat.le_refl _) ?_
          refine zx_goto (pc := 49) (tgt := 58) dX10_goWork_49 (by decide) ?_
          exact key _ (by rw [zPk_s hf] at h39; rw [← zMn_le]; first | (rw [if_pos h39, zPk_s hf]; done) | (rw [if_neg h39]; done))
set_option maxHeartbeats 4000000 in
theorem r_goWork_p {d : Nat} {H F : Nat} {p : Nat → Int32} {th : Int32} {mA : (Nat → Int32) × Int32 × Int32} {mo : Int32} {mg : (Nat → Int32)} {mk : (Nat → Int32)} {md : (Nat → Int32)} {mR : Int32 × Int32 × (Nat → Int32) × Int32 × (Nat → Int32)} {mq : (Nat → Int32)} {bk : (Nat → Int32) × Int32} {kp : (Nat → Int32) × (Nat → Int32)} {sn : Int32 × (Nat → Int32) × (Nat → Int32) × (Nat → Int32)} {ml : Int64} {mw : Int32 × Int32} {pn : Int32 × Int32 × Int32 × Int32} {wl : Int32 × Int32} {sp : Int32 × Int32} {rs : Int32 × Int32} {vl : (Nat → Int32)} {rho : List zCel} (hr : rho.length = 75) (hH : H ≤ 5) (hF : F ≤ 3) (hv : ∀ h, h < H → ∃ t : Nat, t < 2 + F ∧ p h = nI t) : zCf yX10_goWork cX10_goWork 6 none (d + 1) [.ref 75, .ref 82] (rho ++ encM th mA (mo, (nI H), mg, mk, (nI F), md) mR p mq bk kp sn ml mw pn wl sp rs vl) none (rho ++ encM th mA (mo, (nI H), mg, mk, (nI F), md) mR (zPf p (zMd mg mk md F H p)) mq bk kp sn ml ((zMd mg mk md F H p).2.2.1, (zMd mg mk md F H p).2.2.2) pn wl sp rs vl) := by
  refine zC.intro (by decide) (Nat.le_of_ble_eq_true rfl) rfl ?_
  refine zx_iconst (pc := 0) (v := 0) dX10_goWork_0 (by decide) ?_
  refine st_2_6 (pc := 1) dX10_goWork_1 rfl ?_
  refine zx_iconst (pc := 2) (v := 0) dX10_goWork_2 (by decide) ?_
  refine st_3_6 (pc := 3) dX10_goWork_3 rfl ?_
  exact zx_sg (sg' := rho ++ encM th mA (mo, (nI H), mg, mk, (nI F), md) mR (zPk p (zRk mg mk md (nI F) p (fun j => p (5 + j)) (p 8) 0).1 (zRk mg mk md (nI F) p (fun j => p (5 + j)) (p 8) 0).2.1) mq bk kp sn ml mw pn wl sp rs vl) (by rw [show (zPk p (zRk mg mk md (nI F) p (fun j => p (5 + j)) (p 8) 0).1 (zRk mg mk md (nI F) p (fun j => p (5 + j)) (p 8) 0).2.1) = p from zPk_0 p]) (lr_goWork_p hr hH hF hv H 0 (by omega) _ _)
set_option maxHeartbeats 8000000 in
theorem lr_goWork_t {d n0 H F : Nat} {p : Nat → Int32} {th : Int32} {mA : (Nat → Int32) × Int32 × Int32} {mo : Int32} {mg : (Nat → Int32)} {mk : (Nat → Int32)} {md : (Nat → Int32)} {mR : Int32 × Int32 × (Nat → Int32) × Int32 × (Nat → Int32)} {pg : (Nat → Int32)} {bk : (Nat → Int32) × Int32} {kp : (Nat → Int32) × (Nat → Int32)} {sn : Int32 × (Nat → Int32) × (Nat → Int32) × (Nat → Int32)} {ml : Int64} {mw : Int32 × Int32} {pn : Int32 × Int32 × Int32 × Int32} {wl : Int32 × Int32} {sp : Int32 × Int32} {rs : Int32 × Int32} {vl : (Nat → Int32)} {rho : List zCel} (hr : rho.length = 75) (hH : H ≤ 5) (hF : F ≤ 3) (hv : ∀ h, h < H → ∃ t : Nat, t < 2 + F ∧ p h = nI t) : ∀ k i : Nat, i + k = H → ∀ o4 o5 : Option Value, zX RX10 cX10_goWork 6 none "goWork" none (d + 1) n0 0 0 0 0 (fun r s => r = none ∧ s = rho ++ encM th mA (mo, (nI H), mg, mk, (nI F), md) mR pg (zPf p (zMd mg mk md F H p)) bk kp sn ml ((zMd mg mk md F H p).2.2.1, (zMd mg mk md F H p).2.2.2) pn wl sp rs vl) 4 [some (.ref 75), some (.ref 83), some (.int (zRk mg mk md (nI F) p (fun j => p (5 + j)) (p 8) i).2.2), some (.int (nI i)), o4, o5] [] (rho ++ encM th mA (mo, (nI H), mg, mk, (nI F), md) mR pg (zPk p (zRk mg mk md (nI F) p (fun j => p (5 + j)) (p 8) i).1 (zRk mg mk md (nI F) p (fun j => p (5 + j)) (p 8) i).2.1) bk kp sn ml mw pn wl sp rs vl) := by
  intro k
  induction k with
  | zero =>
    intro i hi o4 o5
    obtain rfl : i = H := by omega
    refine zx_iload_n (pc := 4) dX10_goWork_4 rfl rfl ?_
    refine zx_aload_n (pc := 5) dX10_goWork_5 rfl rfl ?_
    refine g75_5 (pc := 6) hr fl_X10_60 dX10_goWork_6 ?_
    refine zx_icmp_ge (pc := 9) (tgt := 107) dX10_goWork_9 (by decide) (fun h9 => ?_) (fun h9 => by first | exact absurd h9 (show nI i ≤ nI i from Int32.le_refl _) | exact absurd (show nI i ≤ nI i from Int32.le_refl _) h9)
    refine zx_aload_n (pc := 107) dX10_goWork_107 rfl rfl ?_
    refine zx_cut 120 (fun v => v = zDm mg mk md (nI F) i p (fun j => p (5 + j)) (p 8)) (fun v ev => ?_) (fun key => ?_)
    · subst ev
      refine u75_26 (pc := 120) hr fl_X10_116 dX10_goWork_120 ?_
      refine zx_aload_n (pc := 123) dX10_goWork_123 rfl rfl ?_
      refine zx_cut 146 (fun v => v = zDs mg mk md (nI F) i p (fun j => p (5 + j)) (p 8)) (fun v ev => ?_) (fun key => ?_)
      · subst ev
        refine u75_27 (pc := 146) hr fl_X10_119 dX10_goWork_146 ?_
        refine zx_aload_n (pc := 149) dX10_goWork_149 rfl rfl ?_
        refine zx_bipush (pc := 150) (v := 8) dX10_goWork_150 (by decide) ?_
        refine zx_dup2 (pc := 152) dX10_goWork_152 rfl rfl ?_
        refine a83 (pc := 153) hr (zix_k (j := 8) (by decide) (by decide)) dX10_goWork_153 ?_
        refine zx_aload_n (pc := 154) dX10_goWork_154 rfl rfl ?_
        refine g75_27 (pc := 155) hr fl_X10_119 dX10_goWork_155 ?_
        refine zx_isub (pc := 158) dX10_goWork_158 ?_
        refine s83 (pc := 159) hr (zix_k (j := 8) (by decide) (by decide)) dX10_goWork_159 ?_
        refine zx_aload_n (pc := 160) dX10_goWork_160 rfl rfl ?_
        refine zx_bipush (pc := 161) (v := 9) dX10_goWork_161 (by decide) ?_
        refine zx_dup2 (pc := 163) dX10_goWork_163 rfl rfl ?_
        refine a83 (pc := 164) hr (zix_k (j := 9) (by decide) (by decide)) dX10_goWork_164 ?_
        refine zx_aload_n (pc := 165) dX10_goWork_165 rfl rfl ?_
        refine g75_27 (pc := 166) hr fl_X10_119 dX10_goWork_166 ?_
        refine zx_iadd (pc := 169) dX10_goWork_169 ?_
        refine s83 (pc := 170) hr (zix_k (j := 9) (by decide) (by decide)) dX10_goWork_170 ?_
        refine zx_aload_n (pc := 171) dX10_goWork_171 rfl rfl ?_
        refine zx_bipush (pc := 172) (v := 10) dX10_goWork_172 (by decide) ?_
        refine zx_dup2 (pc := 174) dX10_goWork_174 rfl rfl ?_
        refine a83 (pc := 175) hr (zix_k (j := 10) (by decide) (by decide)) dX10_goWork_175 ?_
        refine zx_aload_n (pc := 176) dX10_goWork_176 rfl rfl ?_
        refine g75_26 (pc := 177) hr fl_X10_116 dX10_goWork_177 ?_
        refine zx_aload_n (pc := 180) dX10_goWork_180 rfl rfl ?_
        refine g75_27 (pc := 181) hr fl_X10_119 dX10_goWork_181 ?_
        refine zx_isub (pc := 184) dX10_goWork_184 ?_
        refine zx_iadd (pc := 185) dX10_goWork_185 ?_
        refine s83 (pc := 186) hr (zix_k (j := 10) (by decide) (by decide)) dX10_goWork_186 ?_
        exact zx_fv (pc := 187) dX10_goWork_187 rfl (Nat.le_refl _) (Nat.le_refl _) (by rw [zPk_8, pk_un (by decide), zPk_o (by decide), pk_un (by decide), pk_un (by decide), zPk_o (by decide), zPf_eq]; rfl)
      · refine zx_aload_n (pc := 124) dX10_goWork_124 rfl rfl ?_
        refine g75_26 (pc := 125) hr fl_X10_116 dX10_goWork_125 ?_
        refine zx_aload_n (pc := 128) dX10_goWork_128 rfl rfl ?_
        refine zx_bipush (pc := 129) (v := 8) dX10_goWork_129 (by decide) ?_
        refine a83 (pc := 131) hr (zix_k (j := 8) (by decide) (by decide)) dX10_goWork_131 ?_
        refine zx_icmp_ge (pc := 132) (tgt := 142) dX10_goWork_132 (by decide) (fun h132 => ?_) (fun h132 => ?_)
        · refine zx_aload_n (pc := 142) dX10_goWork_142 rfl rfl ?_
          refine zx_bipush (pc := 143) (v := 8) dX10_goWork_143 (by decide) ?_
          refine a83 (pc := 145) hr (zix_k (j := 8) (by decide) (by decide)) dX10_goWork_145 ?_
          exact key _ (by rw [zDs, ← zMn_le]; rw [zPk_8] at h132; first | (rw [if_pos h132, zPk_8]; done) | (rw [if_neg h132]; done))
        · refine zx_aload_n (pc := 135) dX10_goWork_135 rfl rfl ?_
          refine g75_26 (pc := 136) hr fl_X10_116 dX10_goWork_136 ?_
          refine zx_goto (pc := 139) (tgt := 146) dX10_goWork_139 (by decide) ?_
          exact key _ (by rw [zDs, ← zMn_le]; rw [zPk_8] at h132; first | (rw [if_pos h132, zPk_8]; done) | (rw [if_neg h132]; done))
    · refine zx_iload_n (pc := 108) dX10_goWork_108 rfl rfl ?_
      refine zx_bipush (pc := 109) (v := 9) dX10_goWork_109 (by decide) ?_
      refine zx_icmp_le (pc := 111) (tgt := 119) dX10_goWork_111 (by decide) (fun h111 => ?_) (fun h111 => ?_)
      · refine zx_iload_n (pc := 119) dX10_goWork_119 rfl rfl ?_
        exact key _ (by rw [zDm, zMn]; first | rw [if_neg (Int32.not_lt.mpr h111)] | rw [if_pos (Int32.not_le.mp h111)])
      · refine zx_bipush (pc := 114) (v := 9) dX10_goWork_114 (by decide) ?_
        refine zx_goto (pc := 116) (tgt := 120) dX10_goWork_116 (by decide) ?_
        exact key _ (by rw [zDm, zMn]; first | rw [if_neg (Int32.not_lt.mpr h111)] | rw [if_pos (Int32.not_le.mp h111)])
  | succ k ih =>
    intro i hi o4 o5
    obtain ⟨t, ht, et⟩ := hv i (by omega)
    generalize hS : zRk mg mk md (nI F) p (fun j => p (5 + j)) (p 8) i = S
    by_cases h2 : t < 2
    · have hneg : p i - 2 < 0 := by
        rw [et]; rcases (show t = 0 ∨ t = 1 by omega) with rfl | rfl <;> decide
      have hgt : zGt mg mk md (nI F) i (p i - 2) S.1 S.2.1 = (S.1, S.2.1) := by rw [zGt, if_pos (by rw [zHas, if_pos hneg])]
      refine zx_iload_n (pc := 4) dX10_goWork_4 rfl rfl ?_
      refine zx_aload_n (pc := 5) dX10_goWork_5 rfl rfl ?_
      refine g75_5 (pc := 6) hr fl_X10_60 dX10_goWork_6 ?_
      refine zx_icmp_ge (pc := 9) (tgt := 107) dX10_goWork_9 (by decide) (fun h9 => by first | exact absurd h9 (nI_ge (show i < H by omega) (by omega)) | exact absurd (nI_ge (show i < H by omega) (by omega)) h9) (fun h9 => ?_)
      refine zx_aload_n (pc := 12) dX10_goWork_12 rfl rfl ?_
      refine zx_iconst (pc := 13) (v := 0) dX10_goWork_13 (by decide) ?_
      refine zx_iload_n (pc := 14) dX10_goWork_14 rfl rfl ?_
      refine zx_iadd (pc := 15) dX10_goWork_15 ?_
      refine a83 (pc := 16) hr (zix_0 (by omega)) dX10_goWork_16 ?_
      rw [zPk_h (show i < 5 by omega)]
      refine zx_iconst (pc := 17) (v := 2) dX10_goWork_17 (by decide) ?_
      refine zx_isub (pc := 18) dX10_goWork_18 ?_
      refine st_4_6 (pc := 19) dX10_goWork_19 rfl ?_
      refine zx_iload (pc := 21) dX10_goWork_21 rfl ?_
      refine zx_if_lt (pc := 23) (tgt := 80) dX10_goWork_23 (by decide) (fun h23 => ?_) (fun h23 => by first | exact absurd h23 hneg | exact absurd hneg h23)
      refine zx_iload_n (pc := 80) dX10_goWork_80 rfl rfl ?_
      refine zx_aload_n (pc := 81) dX10_goWork_81 rfl rfl ?_
      refine zx_iconst (pc := 82) (v := 0) dX10_goWork_82 (by decide) ?_
      refine zx_iload_n (pc := 83) dX10_goWork_83 rfl rfl ?_
      refine zx_iadd (pc := 84) dX10_goWork_84 ?_
      refine a83 (pc := 85) hr (zix_0 (by omega)) dX10_goWork_85 ?_
      rw [zPk_h (show i < 5 by omega)]
      refine zx_iconst (pc := 86) (v := 1) dX10_goWork_86 (by decide) ?_
      refine zx_icmp_ne (pc := 87) (tgt := 98) dX10_goWork_87 (by decide) (fun h87 => ?_) (fun h87 => ?_)
      · refine zx_iconst (pc := 98) (v := 0) dX10_goWork_98 (by decide) ?_
        refine zx_iadd (pc := 99) dX10_goWork_99 ?_
        try rw [Int32.add_zero]
        refine st_2_6 (pc := 100) dX10_goWork_100 rfl ?_
        refine ic_3_6_1 (pc := 101) dX10_goWork_101 rfl ?_
        refine zx_goto (pc := 104) (tgt := 4) dX10_goWork_104 (by decide) ?_
        have hs := ih (i + 1) (by omega)
        simp only [zRk, hS, hgt, h87, reduceIte, ← nI_1] at hs
        exact hs _ _
      · refine zx_aload_n (pc := 90) dX10_goWork_90 rfl rfl ?_
        refine zx_iload_n (pc := 91) dX10_goWork_91 rfl rfl ?_
        refine zx_fV1 (pc := 92) (r_moulds (d := d) hr (by omega)) cl_X10_112 (p75 hr) rfl dX10_goWork_92 rfl rfl (by omega) (Nat.le_of_ble_eq_true rfl) (Nat.le_refl _) (Nat.le_refl _) ?_
        refine zx_goto (pc := 95) (tgt := 99) dX10_goWork_95 (by decide) ?_
        refine zx_iadd (pc := 99) dX10_goWork_99 ?_
        try rw [Int32.add_zero]
        refine st_2_6 (pc := 100) dX10_goWork_100 rfl ?_
        refine ic_3_6_1 (pc := 101) dX10_goWork_101 rfl ?_
        refine zx_goto (pc := 104) (tgt := 4) dX10_goWork_104 (by decide) ?_
        have hs := ih (i + 1) (by omega)
        simp only [zRk, hS, hgt, h87, reduceIte, ← nI_1] at hs
        exact hs _ _
    · obtain ⟨f, rfl⟩ : ∃ f, t = f + 2 := ⟨t - 2, by omega⟩
      have hf : f < 3 := by omega
      have e1 : p i - 2 = nI f := by rw [et, show (2 : Int32) = nI 2 from rfl, pk_sub (by omega), Nat.add_sub_cancel]
      have e2 : ¬ p i = 1 := by rw [et]; intro q; have := (nI_eq (a := f + 2) (b := 1) (by omega) (by decide)).mp q; omega
      have hgt : zGt mg mk md (nI F) i (p i - 2) S.1 S.2.1 = (upd S.1 f (S.1 f - zMn (zGa (mg i) (mk i) (md f)) (S.1 f)), S.2.1 + zMn (zGa (mg i) (mk i) (md f)) (S.1 f)) := by
        rw [zGt, e1, if_neg (by rw [zHas_1 (show f < F by omega) (by omega)]; decide), nI_clamp (show f < 2 ^ 31 by omega)]
      refine zx_iload_n (pc := 4) dX10_goWork_4 rfl rfl ?_
      refine zx_aload_n (pc := 5) dX10_goWork_5 rfl rfl ?_
      refine g75_5 (pc := 6) hr fl_X10_60 dX10_goWork_6 ?_
      refine zx_icmp_ge (pc := 9) (tgt := 107) dX10_goWork_9 (by decide) (fun h9 => by first | exact absurd h9 (nI_ge (show i < H by omega) (by omega)) | exact absurd (nI_ge (show i < H by omega) (by omega)) h9) (fun h9 => ?_)
      refine zx_aload_n (pc := 12) dX10_goWork_12 rfl rfl ?_
      refine zx_iconst (pc := 13) (v := 0) dX10_goWork_13 (by decide) ?_
      refine zx_iload_n (pc := 14) dX10_goWork_14 rfl rfl ?_
      refine zx_iadd (pc := 15) dX10_goWork_15 ?_
      refine a83 (pc := 16) hr (zix_0 (by omega)) dX10_goWork_16 ?_
      rw [zPk_h (show i < 5 by omega)]
      refine zx_iconst (pc := 17) (v := 2) dX10_goWork_17 (by decide) ?_
      refine zx_isub (pc := 18) dX10_goWork_18 ?_
      rw [e1]
      refine st_4_6 (pc := 19) dX10_goWork_19 rfl ?_
      refine zx_iload (pc := 21) dX10_goWork_21 rfl ?_
      refine zx_if_lt (pc := 23) (tgt := 80) dX10_goWork_23 (by decide) (fun h23 => by first | exact absurd h23 (nI_pos (show f < 2 ^ 31 by omega)) | exact absurd (nI_pos (show f < 2 ^ 31 by omega)) h23) (fun h23 => ?_)
      refine zx_cut 58 (fun v => v = zMn (zGa (mg i) (mk i) (md f)) (S.1 f)) (fun v ev => ?_) (fun key => ?_)
      · subst ev
        refine st_5_6 (pc := 58) dX10_goWork_58 rfl ?_
        refine zx_aload_n (pc := 60) dX10_goWork_60 rfl rfl ?_
        refine zx_iconst (pc := 61) (v := 5) dX10_goWork_61 (by decide) ?_
        refine zx_iload (pc := 62) dX10_goWork_62 rfl ?_
        refine zx_iadd (pc := 64) dX10_goWork_64 ?_
        refine zx_dup2 (pc := 65) dX10_goWork_65 rfl rfl ?_
        refine a83 (pc := 66) hr (zix_5 (by omega)) dX10_goWork_66 ?_
        refine zx_iload (pc := 67) dX10_goWork_67 rfl ?_
        refine zx_isub (pc := 69) dX10_goWork_69 ?_
        refine s83 (pc := 70) hr (zix_5 (by omega)) dX10_goWork_70 ?_
        refine zx_aload_n (pc := 71) dX10_goWork_71 rfl rfl ?_
        refine zx_bipush (pc := 72) (v := 8) dX10_goWork_72 (by decide) ?_
        refine zx_dup2 (pc := 74) dX10_goWork_74 rfl rfl ?_
        refine a83 (pc := 75) hr (zix_k (j := 8) (by decide) (by decide)) dX10_goWork_75 ?_
        refine zx_iload (pc := 76) dX10_goWork_76 rfl ?_
        refine zx_iadd (pc := 78) dX10_goWork_78 ?_
        refine s83 (pc := 79) hr (zix_k (j := 8) (by decide) (by decide)) dX10_goWork_79 ?_
        rw [zPk_s hf, pk_un (show (8 : Nat) ≠ 5 + f by omega), zPk_8, zPk_g hf]
        refine zx_iload_n (pc := 80) dX10_goWork_80 rfl rfl ?_
        refine zx_aload_n (pc := 81) dX10_goWork_81 rfl rfl ?_
        refine zx_iconst (pc := 82) (v := 0) dX10_goWork_82 (by decide) ?_
        refine zx_iload_n (pc := 83) dX10_goWork_83 rfl rfl ?_
        refine zx_iadd (pc := 84) dX10_goWork_84 ?_
        refine a83 (pc := 85) hr (zix_0 (by omega)) dX10_goWork_85 ?_
        rw [zPk_h (show i < 5 by omega)]
        refine zx_iconst (pc := 86) (v := 1) dX10_goWork_86 (by decide) ?_
        refine zx_icmp_ne (pc := 87) (tgt := 98) dX10_goWork_87 (by decide) (fun h87 => ?_) (fun h87 => by first | exact absurd h87 e2 | exact absurd e2 h87)
        refine zx_iconst (pc := 98) (v := 0) dX10_goWork_98 (by decide) ?_
        refine zx_iadd (pc := 99) dX10_goWork_99 ?_
        rw [Int32.add_zero]
        refine st_2_6 (pc := 100) dX10_goWork_100 rfl ?_
        refine ic_3_6_1 (pc := 101) dX10_goWork_101 rfl ?_
        refine zx_goto (pc := 104) (tgt := 4) dX10_goWork_104 (by decide) ?_
        have hs := ih (i + 1) (by omega)
        simp only [zRk, hS, hgt, e2, reduceIte, ← nI_1] at hs
        exact hs _ _
      · refine zx_aload_n (pc := 26) dX10_goWork_26 rfl rfl ?_
        refine zx_iload_n (pc := 27) dX10_goWork_27 rfl rfl ?_
        refine zx_iload (pc := 28) dX10_goWork_28 rfl ?_
        refine zx_fV1 (pc := 30) (r_gathers (d := d) hr (by omega) hf) cl_X10_109 (p75 hr) rfl dX10_goWork_30 rfl rfl (by omega) (Nat.le_of_ble_eq_true rfl) (Nat.le_refl _) (Nat.le_refl _) ?_
        refine zx_aload_n (pc := 33) dX10_goWork_33 rfl rfl ?_
        refine zx_iconst (pc := 34) (v := 5) dX10_goWork_34 (by decide) ?_
        refine zx_iload (pc := 35) dX10_goWork_35 rfl ?_
        refine zx_iadd (pc := 37) dX10_goWork_37 ?_
        refine a83 (pc := 38) hr (zix_5 (by omega)) dX10_goWork_38 ?_
        refine zx_icmp_ge (pc := 39) (tgt := 52) dX10_goWork_39 (by decide) (fun h39 => ?_) (fun h39 => ?_)
        · refine zx_aload_n (pc := 52) dX10_goWork_52 rfl rfl ?_
          refine zx_iconst (pc := 53) (v := 5) dX10_goWork_53 (by decide) ?_
          refine zx_iload (pc := 54) dX10_goWork_54 rfl ?_
          refine zx_iadd (pc := 56) dX10_goWork_56 ?_
          refine a83 (pc := 57) hr (zix_5 (by omega)) dX10_goWork_57 ?_
          exact key _ (by rw [zPk_s hf] at h39; rw [← zMn_le]; first | (rw [if_pos h39, zPk_s hf]; done) | (rw [if_neg h39]; done))
        · refine zx_aload_n (pc := 42) dX10_goWork_42 rfl rfl ?_
          refine zx_iload_n (pc := 43) dX10_goWork_43 rfl rfl ?_
          refine zx_iload (pc := 44) dX10_goWork_44 rfl ?_
          refine zx_fV1 (pc := 46) (r_gathers (d := d) hr (by omega) hf) cl_X10_109 (p75 hr) rfl dX10_goWork_46 rfl rfl (by omega) (Nat.le_of_ble_eq_true rfl) (Nat.le_refl _) (Nat.le_refl _) ?_
          refine zx_goto (pc := 49) (tgt := 58) dX10_goWork_49 (by decide) ?_
          exact key _ (by rw [zPk_s hf] at h39; rw [← zMn_le]; first | (rw [if_pos h39, zPk_s hf]; done) | (rw [if_neg h39]; done))
set_option maxHeartbeats 4000000 in
theorem r_goWork_t {d : Nat} {H F : Nat} {p : Nat → Int32} {th : Int32} {mA : (Nat → Int32) × Int32 × Int32} {mo : Int32} {mg : (Nat → Int32)} {mk : (Nat → Int32)} {md : (Nat → Int32)} {mR : Int32 × Int32 × (Nat → Int32) × Int32 × (Nat → Int32)} {pg : (Nat → Int32)} {bk : (Nat → Int32) × Int32} {kp : (Nat → Int32) × (Nat → Int32)} {sn : Int32 × (Nat → Int32) × (Nat → Int32) × (Nat → Int32)} {ml : Int64} {mw : Int32 × Int32} {pn : Int32 × Int32 × Int32 × Int32} {wl : Int32 × Int32} {sp : Int32 × Int32} {rs : Int32 × Int32} {vl : (Nat → Int32)} {rho : List zCel} (hr : rho.length = 75) (hH : H ≤ 5) (hF : F ≤ 3) (hv : ∀ h, h < H → ∃ t : Nat, t < 2 + F ∧ p h = nI t) : zCf yX10_goWork cX10_goWork 6 none (d + 1) [.ref 75, .ref 83] (rho ++ encM th mA (mo, (nI H), mg, mk, (nI F), md) mR pg p bk kp sn ml mw pn wl sp rs vl) none (rho ++ encM th mA (mo, (nI H), mg, mk, (nI F), md) mR pg (zPf p (zMd mg mk md F H p)) bk kp sn ml ((zMd mg mk md F H p).2.2.1, (zMd mg mk md F H p).2.2.2) pn wl sp rs vl) := by
  refine zC.intro (by decide) (Nat.le_of_ble_eq_true rfl) rfl ?_
  refine zx_iconst (pc := 0) (v := 0) dX10_goWork_0 (by decide) ?_
  refine st_2_6 (pc := 1) dX10_goWork_1 rfl ?_
  refine zx_iconst (pc := 2) (v := 0) dX10_goWork_2 (by decide) ?_
  refine st_3_6 (pc := 3) dX10_goWork_3 rfl ?_
  exact zx_sg (sg' := rho ++ encM th mA (mo, (nI H), mg, mk, (nI F), md) mR pg (zPk p (zRk mg mk md (nI F) p (fun j => p (5 + j)) (p 8) 0).1 (zRk mg mk md (nI F) p (fun j => p (5 + j)) (p 8) 0).2.1) bk kp sn ml mw pn wl sp rs vl) (by rw [show (zPk p (zRk mg mk md (nI F) p (fun j => p (5 + j)) (p 8) 0).1 (zRk mg mk md (nI F) p (fun j => p (5 + j)) (p 8) 0).2.1) = p from zPk_0 p]) (lr_goWork_t hr hH hF hv H 0 (by omega) _ _)
