theorem z10 : ¬ (1 : Int32) = 0 := by decide
set_option maxHeartbeats 4000000 in
theorem r_layPlan_n {d : Nat} {H F : Nat} {x : Int32} {th : Int32} {mA : (Nat → Int32) × Int32 × Int32} {mo : Int32} {mg : (Nat → Int32)} {mk : (Nat → Int32)} {md : (Nat → Int32)} {mR : Int32 × Int32 × (Nat → Int32) × Int32 × (Nat → Int32)} {pg : (Nat → Int32)} {mq : (Nat → Int32)} {bk : (Nat → Int32) × Int32} {kp : (Nat → Int32) × (Nat → Int32)} {sn : Int32 × (Nat → Int32) × (Nat → Int32) × (Nat → Int32)} {ml : Int64} {mw : Int32 × Int32} {pn : Int32 × Int32 × Int32 × Int32} {wl : Int32 × Int32} {sp : Int32 × Int32} {rs : Int32 × Int32} {vl : (Nat → Int32)} {rho : List zCel} (hr : rho.length = 75) (hH : H ≤ 5) (h0 : zIn x 0 (zPw 10 H - 1) = 0) : zCf yX10_layPlan cX10_layPlan 4 (some .boolean) (d + 1) [.ref 75, .int x] (rho ++ encM th mA (mo, (nI H), mg, mk, (nI F), md) mR pg mq bk kp sn ml mw pn wl sp rs vl) (some (.int (0))) (rho ++ encM th mA (mo, (nI H), mg, mk, (nI F), md) mR pg (zC16 pg mq 16) bk kp sn ml mw pn wl sp rs vl) := by
  refine zC.intro (by decide) (Nat.le_of_ble_eq_true rfl) rfl ?_
  refine zx_aload_n (pc := 0) dX10_layPlan_0 rfl rfl ?_
  refine zx_fV0 (pc := 1) (r_begin (d := d) hr) cl_X10_155 (p75 hr) rfl dX10_layPlan_1 rfl rfl (by omega) (Nat.le_of_ble_eq_true rfl) (Nat.le_refl _) (Nat.le_refl _) ?_
  refine zx_iload_n (pc := 4) dX10_layPlan_4 rfl rfl ?_
  refine zx_i2l (pc := 5) dX10_layPlan_5 rfl ?_
  refine zx_lconst (pc := 6) (v := 0) dX10_layPlan_6 (by decide) ?_
  refine zx_bipush (pc := 7) (v := 10) dX10_layPlan_7 (by decide) ?_
  refine zx_aload_n (pc := 9) dX10_layPlan_9 rfl rfl ?_
  refine g75_5 (pc := 10) hr fl_X10_60 dX10_layPlan_10 ?_
  refine zx_fS1 (pc := 13) (r_power (d := d) (by omega)) cl_X10_158 dX10_layPlan_13 rfl rfl (by omega) (Nat.le_of_ble_eq_true rfl) (Nat.le_refl _) (Nat.le_refl _) ?_
  refine zx_iconst (pc := 16) (v := 1) dX10_layPlan_16 (by decide) ?_
  refine zx_isub (pc := 17) dX10_layPlan_17 ?_
  refine zx_i2l (pc := 18) dX10_layPlan_18 rfl ?_
  refine zx_fS1 (pc := 19) (r_in (d := d) (lo := 0) rfl rfl rfl) cl_X10_63 dX10_layPlan_19 rfl rfl (by omega) (Nat.le_of_ble_eq_true rfl) (Nat.le_refl _) (Nat.le_refl _) ?_
  refine st_2_4 (pc := 22) dX10_layPlan_22 rfl ?_
  refine zx_iconst (pc := 23) (v := 0) dX10_layPlan_23 (by decide) ?_
  refine st_3_4 (pc := 24) dX10_layPlan_24 rfl ?_
  refine zx_iload_n (pc := 25) dX10_layPlan_25 rfl rfl ?_
  refine zx_aload_n (pc := 26) dX10_layPlan_26 rfl rfl ?_
  refine g75_5 (pc := 27) hr fl_X10_60 dX10_layPlan_27 ?_
  refine zx_icmp_ge (pc := 30) (tgt := 92) dX10_layPlan_30 (by decide) (fun h30 => ?_) (fun h30 => ?_)
  · refine zx_iload_n (pc := 92) dX10_layPlan_92 rfl rfl ?_
    exact zx_fi (pc := 93) dX10_layPlan_93 rfl (znar (zIn_01 _ _ _)) (Nat.le_refl _) (Nat.le_refl _) h0 rfl
  · refine zx_iload_n (pc := 33) dX10_layPlan_33 rfl rfl ?_
    refine zx_if_eq (pc := 34) (tgt := 92) dX10_layPlan_34 (by decide) (fun h34 => ?_) (fun h34 => by first | exact absurd h34 h0 | exact absurd h0 h34)
    refine zx_iload_n (pc := 92) dX10_layPlan_92 rfl rfl ?_
    exact zx_fi (pc := 93) dX10_layPlan_93 rfl (znar (zIn_01 _ _ _)) (Nat.le_refl _) (Nat.le_refl _) h0 rfl
set_option maxHeartbeats 4000000 in
theorem lr_layPlan0 {d n0 H F : Nat} {x y : Int32} {T : Nat → Int32} {th : Int32} {mA : (Nat → Int32) × Int32 × Int32} {mo : Int32} {mg : (Nat → Int32)} {mk : (Nat → Int32)} {md : (Nat → Int32)} {mR : Int32 × Int32 × (Nat → Int32) × Int32 × (Nat → Int32)} {pg : (Nat → Int32)} {bk : (Nat → Int32) × Int32} {kp : (Nat → Int32) × (Nat → Int32)} {sn : Int32 × (Nat → Int32) × (Nat → Int32) × (Nat → Int32)} {ml : Int64} {mw : Int32 × Int32} {pn : Int32 × Int32 × Int32 × Int32} {wl : Int32 × Int32} {sp : Int32 × Int32} {rs : Int32 × Int32} {vl : (Nat → Int32)} {rho : List zCel} (hr : rho.length = 75) : zX RX10 cX10_layPlan 4 (some .boolean) "layPlan" none (d + 1) n0 0 0 0 0 (fun r s => r = some (.int 0) ∧ s = rho ++ encM th mA (mo, (nI H), mg, mk, (nI F), md) mR pg T bk kp sn ml mw pn wl sp rs vl) 25 [some (.ref 75), some (.int x), some (.int 0), some (.int y)] [] (rho ++ encM th mA (mo, (nI H), mg, mk, (nI F), md) mR pg T bk kp sn ml mw pn wl sp rs vl) := by
  refine zx_iload_n (pc := 25) dX10_layPlan_25 rfl rfl ?_
  refine zx_aload_n (pc := 26) dX10_layPlan_26 rfl rfl ?_
  refine g75_5 (pc := 27) hr fl_X10_60 dX10_layPlan_27 ?_
  refine zx_icmp_ge (pc := 30) (tgt := 92) dX10_layPlan_30 (by decide) (fun h30 => ?_) (fun h30 => ?_)
  · refine zx_iload_n (pc := 92) dX10_layPlan_92 rfl rfl ?_
    exact zx_fi (pc := 93) dX10_layPlan_93 rfl (by decide) (Nat.le_refl _) (Nat.le_refl _) rfl rfl
  · refine zx_iload_n (pc := 33) dX10_layPlan_33 rfl rfl ?_
    refine zx_if_eq (pc := 34) (tgt := 92) dX10_layPlan_34 (by decide) (fun _ => ?_) (fun h34 => absurd h34 (by decide))
    refine zx_iload_n (pc := 92) dX10_layPlan_92 rfl rfl ?_
    exact zx_fi (pc := 93) dX10_layPlan_93 rfl (by decide) (Nat.le_refl _) (Nat.le_refl _) rfl rfl
set_option maxHeartbeats 4000000 in
theorem lr_layPlan {d n0 H F R : Nat} {Z : (Nat → Int32) × Int32} {th : Int32} {mA : (Nat → Int32) × Int32 × Int32} {mo : Int32} {mg : (Nat → Int32)} {mk : (Nat → Int32)} {md : (Nat → Int32)} {mR : Int32 × Int32 × (Nat → Int32) × Int32 × (Nat → Int32)} {pg : (Nat → Int32)} {bk : (Nat → Int32) × Int32} {kp : (Nat → Int32) × (Nat → Int32)} {sn : Int32 × (Nat → Int32) × (Nat → Int32) × (Nat → Int32)} {ml : Int64} {mw : Int32 × Int32} {pn : Int32 × Int32 × Int32 × Int32} {wl : Int32 × Int32} {sp : Int32 × Int32} {rs : Int32 × Int32} {vl : (Nat → Int32)} {rho : List zCel} (hr : rho.length = 75) (hH : H ≤ 5) (hF : F ≤ 3) (hR : R < 10 ^ H) : ∀ k i : Nat, i + k = H → ∀ T, zLp F H R k T = Z → zX RX10 cX10_layPlan 4 (some .boolean) "layPlan" none (d + 1) n0 0 0 0 0 (fun r s => r = some (.int Z.2) ∧ s = rho ++ encM th mA (mo, (nI H), mg, mk, (nI F), md) mR pg Z.1 bk kp sn ml mw pn wl sp rs vl) 25 [some (.ref 75), some (.int (nI R)), some (.int 1), some (.int (nI i))] [] (rho ++ encM th mA (mo, (nI H), mg, mk, (nI F), md) mR pg T bk kp sn ml mw pn wl sp rs vl) := by
  have hR2 : R < 2 ^ 31 := Nat.lt_trans hR (zpwb (by decide) (by omega))
  intro k
  induction k with
  | zero =>
    intro i hi T hZ
    obtain rfl : i = H := by omega
    subst hZ
    refine zx_iload_n (pc := 25) dX10_layPlan_25 rfl rfl ?_
    refine zx_aload_n (pc := 26) dX10_layPlan_26 rfl rfl ?_
    refine g75_5 (pc := 27) hr fl_X10_60 dX10_layPlan_27 ?_
    refine zx_icmp_ge (pc := 30) (tgt := 92) dX10_layPlan_30 (by decide) (fun h30 => ?_) (fun h30 => by first | exact absurd h30 (show nI i ≤ nI i from Int32.le_refl _) | exact absurd (show nI i ≤ nI i from Int32.le_refl _) h30)
    refine zx_iload_n (pc := 92) dX10_layPlan_92 rfl rfl ?_
    exact zx_fi (pc := 93) dX10_layPlan_93 rfl (by decide) (Nat.le_refl _) (Nat.le_refl _) rfl rfl
  | succ k ih =>
    intro i hi T hZ
    have e0 : H - (k + 1) = i := by omega
    rw [zLp, e0] at hZ
    refine zx_iload_n (pc := 25) dX10_layPlan_25 rfl rfl ?_
    refine zx_aload_n (pc := 26) dX10_layPlan_26 rfl rfl ?_
    refine g75_5 (pc := 27) hr fl_X10_60 dX10_layPlan_27 ?_
    refine zx_icmp_ge (pc := 30) (tgt := 92) dX10_layPlan_30 (by decide) (fun h30 => by first | exact absurd h30 (nI_ge (show i < H by omega) (by omega)) | exact absurd (nI_ge (show i < H by omega) (by omega)) h30) (fun h30 => ?_)
    refine zx_iload_n (pc := 33) dX10_layPlan_33 rfl rfl ?_
    refine zx_if_eq (pc := 34) (tgt := 92) dX10_layPlan_34 (by decide) (fun h34 => absurd h34 (by decide)) (fun _ => ?_)
    refine zx_aload_n (pc := 37) dX10_layPlan_37 rfl rfl ?_
    refine g75_16 (pc := 38) hr fl_X10_31 dX10_layPlan_38 ?_
    refine zx_iconst (pc := 41) (v := 0) dX10_layPlan_41 (by decide) ?_
    refine zx_iload_n (pc := 42) dX10_layPlan_42 rfl rfl ?_
    refine zx_iadd (pc := 43) dX10_layPlan_43 ?_
    refine zx_iload_n (pc := 44) dX10_layPlan_44 rfl rfl ?_
    refine zx_bipush (pc := 45) (v := 10) dX10_layPlan_45 (by decide) ?_
    refine zx_aload_n (pc := 47) dX10_layPlan_47 rfl rfl ?_
    refine g75_5 (pc := 48) hr fl_X10_60 dX10_layPlan_48 ?_
    refine zx_iconst (pc := 51) (v := 1) dX10_layPlan_51 (by decide) ?_
    refine zx_isub (pc := 52) dX10_layPlan_52 ?_
    refine zx_iload_n (pc := 53) dX10_layPlan_53 rfl rfl ?_
    refine zx_isub (pc := 54) dX10_layPlan_54 ?_
    rw [zh1i (show i < H by omega)]
    refine zx_fS1 (pc := 55) (r_power (d := d) (by omega)) cl_X10_158 dX10_layPlan_55 rfl rfl (by omega) (Nat.le_of_ble_eq_true rfl) (Nat.le_refl _) (Nat.le_refl _) ?_
    rw [show zPw 10 (H - 1 - i) = nI (10 ^ (H - 1 - i)) from zPw_n 10 _]
    refine zx_idiv (pc := 58) dX10_layPlan_58 (nI_ne0 (zpwp (by decide)) (zpwb (by decide) (by omega))) ?_
    refine zx_bipush (pc := 59) (v := 10) dX10_layPlan_59 (by decide) ?_
    refine zx_irem (pc := 61) dX10_layPlan_61 (by decide) ?_
    rw [show nI R / nI (10 ^ (H - 1 - i)) - nI R / nI (10 ^ (H - 1 - i)) / 10 * 10 = nI (zDg 10 H R i) from zdgq (b := 10) rfl hR2 (by decide) (by decide) (by omega)]
    refine s83 (pc := 62) hr (zix_0 (by omega)) dX10_layPlan_62 ?_
    refine zx_aload_n (pc := 63) dX10_layPlan_63 rfl rfl ?_
    refine g75_16 (pc := 64) hr fl_X10_31 dX10_layPlan_64 ?_
    refine zx_iconst (pc := 67) (v := 0) dX10_layPlan_67 (by decide) ?_
    refine zx_iload_n (pc := 68) dX10_layPlan_68 rfl rfl ?_
    refine zx_iadd (pc := 69) dX10_layPlan_69 ?_
    refine a83 (pc := 70) hr (zix_0 (by omega)) dX10_layPlan_70 ?_
    rw [pk_us]
    refine zx_iconst (pc := 71) (v := 1) dX10_layPlan_71 (by decide) ?_
    refine zx_aload_n (pc := 72) dX10_layPlan_72 rfl rfl ?_
    refine g75_8 (pc := 73) hr fl_X10_103 dX10_layPlan_73 ?_
    refine zx_iadd (pc := 76) dX10_layPlan_76 ?_
    refine zx_icmp_gt (pc := 77) (tgt := 84) dX10_layPlan_77 (by decide) (fun h77 => ?_) (fun h77 => ?_)
    · refine zx_iconst (pc := 84) (v := 0) dX10_layPlan_84 (by decide) ?_
      refine st_2_4 (pc := 85) dX10_layPlan_85 rfl ?_
      refine ic_3_4_1 (pc := 86) dX10_layPlan_86 rfl ?_
      refine zx_goto (pc := 89) (tgt := 25) dX10_layPlan_89 (by decide) ?_
      rw [if_neg (Int32.not_le.mpr h77)] at hZ
      subst hZ
      exact lr_layPlan0 hr
    · refine zx_iconst (pc := 80) (v := 1) dX10_layPlan_80 (by decide) ?_
      refine zx_goto (pc := 81) (tgt := 85) dX10_layPlan_81 (by decide) ?_
      refine st_2_4 (pc := 85) dX10_layPlan_85 rfl ?_
      refine ic_3_4_1 (pc := 86) dX10_layPlan_86 rfl ?_
      refine zx_goto (pc := 89) (tgt := 25) dX10_layPlan_89 (by decide) ?_
      rw [if_pos (Int32.not_lt.mp h77)] at hZ
      rw [nI_1]
      exact ih (i + 1) (by omega) _ hZ
set_option maxHeartbeats 4000000 in
theorem r_layPlan {d : Nat} {H F R : Nat} {th : Int32} {mA : (Nat → Int32) × Int32 × Int32} {mo : Int32} {mg : (Nat → Int32)} {mk : (Nat → Int32)} {md : (Nat → Int32)} {mR : Int32 × Int32 × (Nat → Int32) × Int32 × (Nat → Int32)} {pg : (Nat → Int32)} {mq : (Nat → Int32)} {bk : (Nat → Int32) × Int32} {kp : (Nat → Int32) × (Nat → Int32)} {sn : Int32 × (Nat → Int32) × (Nat → Int32) × (Nat → Int32)} {ml : Int64} {mw : Int32 × Int32} {pn : Int32 × Int32 × Int32 × Int32} {wl : Int32 × Int32} {sp : Int32 × Int32} {rs : Int32 × Int32} {vl : (Nat → Int32)} {rho : List zCel} (hr : rho.length = 75) (hH : H ≤ 5) (hF : F ≤ 3) (hR : R < 10 ^ H) : zCf yX10_layPlan cX10_layPlan 4 (some .boolean) (d + 1) [.ref 75, .int (nI R)] (rho ++ encM th mA (mo, (nI H), mg, mk, (nI F), md) mR pg mq bk kp sn ml mw pn wl sp rs vl) (some (.int ((zLp F H R H (zC16 pg mq 16)).2))) (rho ++ encM th mA (mo, (nI H), mg, mk, (nI F), md) mR pg (zLp F H R H (zC16 pg mq 16)).1 bk kp sn ml mw pn wl sp rs vl) := by
  refine zC.intro (by decide) (Nat.le_of_ble_eq_true rfl) rfl ?_
  refine zx_aload_n (pc := 0) dX10_layPlan_0 rfl rfl ?_
  refine zx_fV0 (pc := 1) (r_begin (d := d) hr) cl_X10_155 (p75 hr) rfl dX10_layPlan_1 rfl rfl (by omega) (Nat.le_of_ble_eq_true rfl) (Nat.le_refl _) (Nat.le_refl _) ?_
  refine zx_iload_n (pc := 4) dX10_layPlan_4 rfl rfl ?_
  refine zx_i2l (pc := 5) dX10_layPlan_5 rfl ?_
  refine zx_lconst (pc := 6) (v := 0) dX10_layPlan_6 (by decide) ?_
  refine zx_bipush (pc := 7) (v := 10) dX10_layPlan_7 (by decide) ?_
  refine zx_aload_n (pc := 9) dX10_layPlan_9 rfl rfl ?_
  refine g75_5 (pc := 10) hr fl_X10_60 dX10_layPlan_10 ?_
  refine zx_fS1 (pc := 13) (r_power (d := d) (by omega)) cl_X10_158 dX10_layPlan_13 rfl rfl (by omega) (Nat.le_of_ble_eq_true rfl) (Nat.le_refl _) (Nat.le_refl _) ?_
  refine zx_iconst (pc := 16) (v := 1) dX10_layPlan_16 (by decide) ?_
  refine zx_isub (pc := 17) dX10_layPlan_17 ?_
  refine zx_i2l (pc := 18) dX10_layPlan_18 rfl ?_
  rw [show zPw 10 H = nI (10 ^ H) from zPw_n 10 _]
  refine zx_fS1 (pc := 19) (r_in (d := d) (lo := 0) rfl rfl rfl) cl_X10_63 dX10_layPlan_19 rfl rfl (by omega) (Nat.le_of_ble_eq_true rfl) (Nat.le_refl _) (Nat.le_refl _) ?_
  rw [zIn_1 hR (zpwb (by decide) (by omega))]
  refine st_2_4 (pc := 22) dX10_layPlan_22 rfl ?_
  refine zx_iconst (pc := 23) (v := 0) dX10_layPlan_23 (by decide) ?_
  refine st_3_4 (pc := 24) dX10_layPlan_24 rfl ?_
  exact lr_layPlan hr hH hF hR H 0 (by omega) _ rfl
set_option maxHeartbeats 4000000 in
theorem lr_fp1 {d n0 H F row : Nat} {a : Int32} {t0 : Nat → Int32} {b : Int32 × Int32 × Int32 × Int32 × Int32} {mw : Int32 × Int32} {Q : Option Value → List zCel → Prop} {th : Int32} {mA : (Nat → Int32) × Int32 × Int32} {mo : Int32} {mg : (Nat → Int32)} {mk : (Nat → Int32)} {md : (Nat → Int32)} {mR : Int32 × Int32 × (Nat → Int32) × Int32 × (Nat → Int32)} {pg : (Nat → Int32)} {bk : (Nat → Int32) × Int32} {kp : (Nat → Int32) × (Nat → Int32)} {sn : Int32 × (Nat → Int32) × (Nat → Int32) × (Nat → Int32)} {ml : Int64} {wl : Int32 × Int32} {sp : Int32 × Int32} {rs : Int32 × Int32} {vl : (Nat → Int32)} {rho : List zCel} (hr : rho.length = 75) (hH : H ≤ 5) (hF : F ≤ 3) (hrow : row < 2 ^ 31) (key : ∀ o6 o7, zX RX10 cX10_findPlans 8 none "findPlans" none (d + 2) n0 0 0 0 0 Q 129 [some (.ref 75), some (.int a), some (.int (nI (2 + F))), some (.int (nI row)), some (.int (zFg (zDt (2 + F) H row) H)), some (.int (nI (zBu (zDt (2 + F) H row) H))), o6, o7] [] (rho ++ encM th mA (mo, (nI H), mg, mk, (nI F), md) mR pg (zC16 (zDt (2 + F) H row) (zC16 pg t0 16) H) bk kp sn ml mw (b.1, b.2.1, b.2.2.2.1, b.2.2.2.2) wl sp rs vl)) : ∀ k i : Nat, i + k = H → ∀ o7, zX RX10 cX10_findPlans 8 none "findPlans" none (d + 2) n0 0 0 0 0 Q 59 [some (.ref 75), some (.int a), some (.int (nI (2 + F))), some (.int (nI row)), some (.int (zFg (zDt (2 + F) H row) i)), some (.int (nI (zBu (zDt (2 + F) H row) i))), some (.int (nI i)), o7] [] (rho ++ encM th mA (mo, (nI H), mg, mk, (nI F), md) mR pg (zC16 (zDt (2 + F) H row) (zC16 pg t0 16) i) bk kp sn ml mw (b.1, b.2.1, b.2.2.2.1, b.2.2.2.2) wl sp rs vl) := by
  intro k
  induction k with
  | zero =>
    intro i hi o7
    obtain rfl : i = H := by omega
    refine zx_iload (pc := 59) dX10_findPlans_59 rfl ?_
    refine zx_aload_n (pc := 61) dX10_findPlans_61 rfl rfl ?_
    refine g75_5 (pc := 62) hr fl_X10_60 dX10_findPlans_62 ?_
    refine zx_icmp_ge (pc := 65) (tgt := 129) dX10_findPlans_65 (by decide) (fun h65 => ?_) (fun h65 => by first | exact absurd h65 (show nI i ≤ nI i from Int32.le_refl _) | exact absurd (show nI i ≤ nI i from Int32.le_refl _) h65)
    exact key _ _
  | succ k ih =>
    intro i hi o7
    refine zx_iload (pc := 59) dX10_findPlans_59 rfl ?_
    refine zx_aload_n (pc := 61) dX10_findPlans_61 rfl rfl ?_
    refine g75_5 (pc := 62) hr fl_X10_60 dX10_findPlans_62 ?_
    refine zx_icmp_ge (pc := 65) (tgt := 129) dX10_findPlans_65 (by decide) (fun h65 => by first | exact absurd h65 (nI_ge (show i < H by omega) (by omega)) | exact absurd (nI_ge (show i < H by omega) (by omega)) h65) (fun h65 => ?_)
    refine zx_iload_n (pc := 68) dX10_findPlans_68 rfl rfl ?_
    refine zx_iload_n (pc := 69) dX10_findPlans_69 rfl rfl ?_
    refine zx_aload_n (pc := 70) dX10_findPlans_70 rfl rfl ?_
    refine g75_5 (pc := 71) hr fl_X10_60 dX10_findPlans_71 ?_
    refine zx_iconst (pc := 74) (v := 1) dX10_findPlans_74 (by decide) ?_
    refine zx_isub (pc := 75) dX10_findPlans_75 ?_
    refine zx_iload (pc := 76) dX10_findPlans_76 rfl ?_
    refine zx_isub (pc := 78) dX10_findPlans_78 ?_
    rw [zh1i (show i < H by omega)]
    refine zx_fS1 (pc := 79) (r_power (d := d + 1) (by omega)) cl_X10_158 dX10_findPlans_79 rfl rfl (by omega) (Nat.le_of_ble_eq_true rfl) (Nat.le_refl _) (Nat.le_refl _) ?_
    rw [zPw_n]
    refine zx_idiv (pc := 82) dX10_findPlans_82 (nI_ne0 (zpwp (by omega)) (zpwb (by omega) (by omega))) ?_
    refine zx_iload_n (pc := 83) dX10_findPlans_83 rfl rfl ?_
    refine zx_irem (pc := 84) dX10_findPlans_84 (nI_ne0 (by omega) (by omega)) ?_
    rw [zdgq (h := i) rfl hrow (by omega) (by omega) (by omega)]
    refine st_7_8 (pc := 85) dX10_findPlans_85 rfl ?_
    refine zx_aload_n (pc := 87) dX10_findPlans_87 rfl rfl ?_
    refine g75_16 (pc := 88) hr fl_X10_31 dX10_findPlans_88 ?_
    refine zx_iconst (pc := 91) (v := 0) dX10_findPlans_91 (by decide) ?_
    refine zx_iload (pc := 92) dX10_findPlans_92 rfl ?_
    refine zx_iadd (pc := 94) dX10_findPlans_94 ?_
    refine zx_iload (pc := 95) dX10_findPlans_95 rfl ?_
    refine s83 (pc := 97) hr (zix_0 (by omega)) dX10_findPlans_97 ?_
    refine zx_bipush (pc := 98) (v := 10) dX10_findPlans_98 (by decide) ?_
    refine zx_iload (pc := 100) dX10_findPlans_100 rfl ?_
    refine zx_imul (pc := 102) dX10_findPlans_102 ?_
    refine zx_iload (pc := 103) dX10_findPlans_103 rfl ?_
    refine zx_iadd (pc := 105) dX10_findPlans_105 ?_
    refine st_4_8 (pc := 106) dX10_findPlans_106 rfl ?_
    refine zx_iload (pc := 108) dX10_findPlans_108 rfl ?_
    refine zx_iload (pc := 110) dX10_findPlans_110 rfl ?_
    refine zx_if_ne (pc := 112) (tgt := 119) dX10_findPlans_112 (by decide) (fun h112 => ?_) (fun h112 => ?_)
    · refine zx_iconst (pc := 119) (v := 1) dX10_findPlans_119 (by decide) ?_
      refine zx_iadd (pc := 120) dX10_findPlans_120 ?_
      refine st_5_8 (pc := 121) dX10_findPlans_121 rfl ?_
      refine ic_6_8_1 (pc := 123) dX10_findPlans_123 rfl ?_
      refine zx_goto (pc := 126) (tgt := 59) dX10_findPlans_126 (by decide) ?_
      have hs := ih (i + 1) (by omega) (some (.int (nI (zDg (2 + F) H row i))))
      rw [← zC16_s] at hs
      simp only [zFg, zBu, show zDt (2 + F) H row i = nI (zDg (2 + F) H row i) from rfl, h112, reduceIte, ← nI_1] at hs
      first | exact hs | (simp only [h112, Int32.add_zero] at hs ⊢; exact hs)
    · refine zx_iconst (pc := 115) (v := 0) dX10_findPlans_115 (by decide) ?_
      refine zx_goto (pc := 116) (tgt := 120) dX10_findPlans_116 (by decide) ?_
      refine zx_iadd (pc := 120) dX10_findPlans_120 ?_
      refine st_5_8 (pc := 121) dX10_findPlans_121 rfl ?_
      refine ic_6_8_1 (pc := 123) dX10_findPlans_123 rfl ?_
      refine zx_goto (pc := 126) (tgt := 59) dX10_findPlans_126 (by decide) ?_
      have hs := ih (i + 1) (by omega) (some (.int (nI (zDg (2 + F) H row i))))
      rw [← zC16_s] at hs
      simp only [zFg, zBu, show zDt (2 + F) H row i = nI (zDg (2 + F) H row i) from rfl, h112, reduceIte, ← nI_1] at hs
      first | exact hs | (simp only [h112, Int32.add_zero] at hs ⊢; exact hs)
theorem zDtw {F H row : Nat} {pg t0 : Nat → Int32} : ∀ h, h < H → ∃ t : Nat, t < 2 + F ∧ (zC16 (zDt (2 + F) H row) (zC16 pg t0 16) H) h = nI t := by
  intro h hh
  rw [zC16, if_pos hh]
  exact zDtv (by omega) h
set_option maxHeartbeats 8000000 in
theorem lr_fp {d n0 H F : Nat} {th : Int32} {mA : (Nat → Int32) × Int32 × Int32} {mo : Int32} {mg : (Nat → Int32)} {mk : (Nat → Int32)} {md : (Nat → Int32)} {mR : Int32 × Int32 × (Nat → Int32) × Int32 × (Nat → Int32)} {pg : (Nat → Int32)} {mq : (Nat → Int32)} {bk : (Nat → Int32) × Int32} {kp : (Nat → Int32) × (Nat → Int32)} {sn : Int32 × (Nat → Int32) × (Nat → Int32) × (Nat → Int32)} {ml : Int64} {mw : Int32 × Int32} {wl : Int32 × Int32} {sp : Int32 × Int32} {rs : Int32 × Int32} {vl : (Nat → Int32)} {rho : List zCel} (hr : rho.length = 75) (hH : H ≤ 5) (hF : F ≤ 3) : ∀ k i : Nat, i + k = (2 + F) ^ H → ∀ o4 o5 o6 o7, zX RX10 cX10_findPlans 8 none "findPlans" none (d + 2) n0 0 0 0 0 (fun r s => r = none ∧ s = rho ++ encM th mA (mo, (nI H), mg, mk, (nI F), md) mR pg (zFp mg mk md F H mo pg mq mw ((2 + F) ^ H)).1 bk kp sn ml (zFp mg mk md F H mo pg mq mw ((2 + F) ^ H)).2.2 ((zFp mg mk md F H mo pg mq mw ((2 + F) ^ H)).2.1.1, (zFp mg mk md F H mo pg mq mw ((2 + F) ^ H)).2.1.2.1, (zFp mg mk md F H mo pg mq mw ((2 + F) ^ H)).2.1.2.2.2.1, (zFp mg mk md F H mo pg mq mw ((2 + F) ^ H)).2.1.2.2.2.2) wl sp rs vl) 34 [some (.ref 75), some (.int (zFp mg mk md F H mo pg mq mw i).2.1.2.2.1), some (.int (nI (2 + F))), some (.int (nI i)), o4, o5, o6, o7] [] (rho ++ encM th mA (mo, (nI H), mg, mk, (nI F), md) mR pg (zFp mg mk md F H mo pg mq mw i).1 bk kp sn ml (zFp mg mk md F H mo pg mq mw i).2.2 ((zFp mg mk md F H mo pg mq mw i).2.1.1, (zFp mg mk md F H mo pg mq mw i).2.1.2.1, (zFp mg mk md F H mo pg mq mw i).2.1.2.2.2.1, (zFp mg mk md F H mo pg mq mw i).2.1.2.2.2.2) wl sp rs vl) := by
  have hN : (2 + F) ^ H < 2 ^ 31 := zpwb (by omega) (by omega)
  intro k
  induction k with
  | zero =>
    intro i hi o4 o5 o6 o7
    obtain rfl : i = (2 + F) ^ H := by omega
    refine zx_iload_n (pc := 34) dX10_findPlans_34 rfl rfl ?_
    refine zx_iload_n (pc := 35) dX10_findPlans_35 rfl rfl ?_
    refine zx_aload_n (pc := 36) dX10_findPlans_36 rfl rfl ?_
    refine g75_5 (pc := 37) hr fl_X10_60 dX10_findPlans_37 ?_
    refine zx_fS1 (pc := 40) (r_power (d := d + 1) (by omega)) cl_X10_158 dX10_findPlans_40 rfl rfl (by omega) (Nat.le_of_ble_eq_true rfl) (Nat.le_refl _) (Nat.le_refl _) ?_
    rw [zPw_n]
    refine zx_icmp_ge (pc := 43) (tgt := 284) dX10_findPlans_43 (by decide) (fun h43 => ?_) (fun h43 => by first | exact absurd h43 (Int32.le_refl (nI ((2 + F) ^ H))) | exact absurd (Int32.le_refl (nI ((2 + F) ^ H))) h43)
    exact zx_fv (pc := 284) dX10_findPlans_284 rfl (Nat.le_refl _) (Nat.le_refl _) rfl
  | succ k ih =>
    intro i hi o4 o5 o6 o7
    have ih' := ih (i + 1) (by omega)
    rw [← nI_1] at ih'
    simp only [zFp, zFs] at ih'
    generalize (zFp mg mk md F H mo pg mq mw i) = S0 at ih' ⊢
    obtain ⟨t0, ⟨b1, b2, b3, b4, b5⟩, mw'⟩ := S0
    simp only at ih' ⊢
    refine zx_iload_n (pc := 34) dX10_findPlans_34 rfl rfl ?_
    refine zx_iload_n (pc := 35) dX10_findPlans_35 rfl rfl ?_
    refine zx_aload_n (pc := 36) dX10_findPlans_36 rfl rfl ?_
    refine g75_5 (pc := 37) hr fl_X10_60 dX10_findPlans_37 ?_
    refine zx_fS1 (pc := 40) (r_power (d := d + 1) (by omega)) cl_X10_158 dX10_findPlans_40 rfl rfl (by omega) (Nat.le_of_ble_eq_true rfl) (Nat.le_refl _) (Nat.le_refl _) ?_
    rw [zPw_n]
    refine zx_icmp_ge (pc := 43) (tgt := 284) dX10_findPlans_43 (by decide) (fun h43 => by first | exact absurd h43 (nI_ge (show i < (2 + F) ^ H by omega) hN) | exact absurd (nI_ge (show i < (2 + F) ^ H by omega) hN) h43) (fun h43 => ?_)
    refine zx_aload_n (pc := 46) dX10_findPlans_46 rfl rfl ?_
    refine zx_fV0 (pc := 47) (r_begin (d := d + 1) hr) cl_X10_155 (p75 hr) rfl dX10_findPlans_47 rfl rfl (by omega) (Nat.le_of_ble_eq_true rfl) (Nat.le_refl _) (Nat.le_refl _) ?_
    refine zx_iconst (pc := 50) (v := 0) dX10_findPlans_50 (by decide) ?_
    refine st_4_8 (pc := 51) dX10_findPlans_51 rfl ?_
    refine zx_iconst (pc := 53) (v := 0) dX10_findPlans_53 (by decide) ?_
    refine st_5_8 (pc := 54) dX10_findPlans_54 rfl ?_
    refine zx_iconst (pc := 56) (v := 0) dX10_findPlans_56 (by decide) ?_
    refine st_6_8 (pc := 57) dX10_findPlans_57 rfl ?_
    refine zx_sg (sg' := rho ++ encM th mA (mo, (nI H), mg, mk, (nI F), md) mR pg (zC16 (zDt (2 + F) H i) (zC16 pg t0 16) 0) bk kp sn ml mw' (b1, b2, b4, b5) wl sp rs vl) (by rw [zC16_0]) ?_
    refine lr_fp1 (row := i) (b := (b1, b2, b3, b4, b5)) hr hH hF (by omega) (fun q6 q7 => ?_) H 0 (by omega) _
    simp only
    refine zx_aload_n (pc := 129) dX10_findPlans_129 rfl rfl ?_
    refine zx_aload_n (pc := 130) dX10_findPlans_130 rfl rfl ?_
    refine g75_16 (pc := 131) hr fl_X10_31 dX10_findPlans_131 ?_
    refine zx_fV0 (pc := 134) (r_goWork_t (d := d) hr hH hF zDtw) cl_X10_122 (p75 hr) rfl dX10_findPlans_134 rfl rfl (by omega) (Nat.le_of_ble_eq_true rfl) (Nat.le_refl _) (Nat.le_refl _) ?_
    generalize hD : (zMd mg mk md F H (zC16 (zDt (2 + F) H i) (zC16 pg t0 16) H)) = D at ih' ⊢
    obtain ⟨ds, du, dm, dn⟩ := D
    generalize zPf _ _ = t1 at ih' ⊢
    generalize zFg (zDt (2 + F) H i) H = fg at ih' ⊢
    generalize nI (zBu (zDt (2 + F) H i) H) = bz at ih' ⊢
    simp only [zWg] at ih' ⊢
    generalize hl : (if mo ≤ dm then (if b4 = -9 then bz else if b4 ≤ bz then b4 else bz) else b4) = lh at ih'
    generalize ha : (if dn = dm then zMx b5 dm else b5) = am at ih'
    refine zx_aload_n (pc := 137) dX10_findPlans_137 rfl rfl ?_
    refine g75_26 (pc := 138) hr fl_X10_116 dX10_findPlans_138 ?_
    refine zx_aload_n (pc := 141) dX10_findPlans_141 rfl rfl ?_
    refine g75_4 (pc := 142) hr fl_X10_100 dX10_findPlans_142 ?_
    refine zx_icmp_lt (pc := 145) (tgt := 152) dX10_findPlans_145 (by decide) (fun h145 => ?_) (fun h145 => ?_)
    · have hM : ¬ mo ≤ dm := Int32.not_le.mpr h145
      refine zx_iconst (pc := 152) (v := 0) dX10_findPlans_152 (by decide) ?_
      refine st_6_8 (pc := 153) dX10_findPlans_153 rfl ?_
      refine zx_iload (pc := 155) dX10_findPlans_155 rfl ?_
      refine zx_if_eq (pc := 157) (tgt := 205) dX10_findPlans_157 (by decide) (fun _ => ?_) (fun h157 => absurd h157 (by decide))
      refine zx_aload_n (pc := 205) dX10_findPlans_205 rfl rfl ?_
      refine zx_cut 238 (fun v => v = lh) (fun v ev => ?_) (fun key => ?_)
      · subst ev
        refine u75_30 (pc := 238) hr fl_X10_170 dX10_findPlans_238 ?_
        refine zx_aload_n (pc := 241) dX10_findPlans_241 rfl rfl ?_
        refine zx_cut 275 (fun v => v = am) (fun v ev => ?_) (fun key => ?_)
        · subst ev
          refine u75_31 (pc := 275) hr fl_X10_173 dX10_findPlans_275 ?_
          refine ic_3_8_1 (pc := 278) dX10_findPlans_278 rfl ?_
          refine zx_goto (pc := 281) (tgt := 34) dX10_findPlans_281 (by decide) ?_
          simp only [hM, z10, reduceIte] at ih'
          exact ih' _ _ _ _
        · refine zx_aload_n (pc := 242) dX10_findPlans_242 rfl rfl ?_
          refine g75_26 (pc := 243) hr fl_X10_116 dX10_findPlans_243 ?_
          refine zx_aload_n (pc := 246) dX10_findPlans_246 rfl rfl ?_
          refine g75_27 (pc := 247) hr fl_X10_119 dX10_findPlans_247 ?_
          refine zx_icmp_ne (pc := 250) (tgt := 271) dX10_findPlans_250 (by decide) (fun h250 => ?_) (fun h250 => ?_)
          · refine zx_aload_n (pc := 271) dX10_findPlans_271 rfl rfl ?_
            refine g75_31 (pc := 272) hr fl_X10_173 dX10_findPlans_272 ?_
            exact key _ (by rw [← ha]; rw [if_neg (fun q => h250 q.symm)])
          · refine zx_aload_n (pc := 253) dX10_findPlans_253 rfl rfl ?_
            refine g75_26 (pc := 254) hr fl_X10_116 dX10_findPlans_254 ?_
            refine zx_aload_n (pc := 257) dX10_findPlans_257 rfl rfl ?_
            refine g75_31 (pc := 258) hr fl_X10_173 dX10_findPlans_258 ?_
            refine zx_icmp_le (pc := 261) (tgt := 271) dX10_findPlans_261 (by decide) (fun h261 => ?_) (fun h261 => ?_)
            · refine zx_aload_n (pc := 271) dX10_findPlans_271 rfl rfl ?_
              refine g75_31 (pc := 272) hr fl_X10_173 dX10_findPlans_272 ?_
              exact key _ (by rw [← ha]; rw [if_pos h250.symm, zMx]; first | rw [if_neg (Int32.not_lt.mpr h261)] | rw [if_pos (Int32.not_le.mp h261)])
            · refine zx_aload_n (pc := 264) dX10_findPlans_264 rfl rfl ?_
              refine g75_26 (pc := 265) hr fl_X10_116 dX10_findPlans_265 ?_
              refine zx_goto (pc := 268) (tgt := 275) dX10_findPlans_268 (by decide) ?_
              exact key _ (by rw [← ha]; rw [if_pos h250.symm, zMx]; first | rw [if_neg (Int32.not_lt.mpr h261)] | rw [if_pos (Int32.not_le.mp h261)])
      · refine zx_iload (pc := 206) dX10_findPlans_206 rfl ?_
        refine zx_if_eq (pc := 208) (tgt := 234) dX10_findPlans_208 (by decide) (fun _ => ?_) (fun h208 => absurd h208 (by decide))
        refine zx_aload_n (pc := 234) dX10_findPlans_234 rfl rfl ?_
        refine g75_30 (pc := 235) hr fl_X10_170 dX10_findPlans_235 ?_
        exact key _ (by rw [← hl]; simp only [hM, reduceIte])
    · have hM : mo ≤ dm := Int32.not_lt.mp h145
      refine zx_iconst (pc := 148) (v := 1) dX10_findPlans_148 (by decide) ?_
      refine zx_goto (pc := 149) (tgt := 153) dX10_findPlans_149 (by decide) ?_
      refine st_6_8 (pc := 153) dX10_findPlans_153 rfl ?_
      refine zx_iload (pc := 155) dX10_findPlans_155 rfl ?_
      refine zx_if_eq (pc := 157) (tgt := 205) dX10_findPlans_157 (by decide) (fun h157 => absurd h157 (by decide)) (fun _ => ?_)
      refine zx_aload_n (pc := 160) dX10_findPlans_160 rfl rfl ?_
      refine g75_27 (pc := 161) hr fl_X10_119 dX10_findPlans_161 ?_
      refine zx_aload_n (pc := 164) dX10_findPlans_164 rfl rfl ?_
      refine g75_29 (pc := 165) hr fl_X10_167 dX10_findPlans_165 ?_
      refine zx_icmp_gt (pc := 168) (tgt := 188) dX10_findPlans_168 (by decide) (fun h168 => ?_) (fun h168 => ?_)
      · refine zx_aload_n (pc := 188) dX10_findPlans_188 rfl rfl ?_
        refine zx_iload (pc := 189) dX10_findPlans_189 rfl ?_
        refine u75_28 (pc := 191) hr fl_X10_164 dX10_findPlans_191 ?_
        refine zx_aload_n (pc := 194) dX10_findPlans_194 rfl rfl ?_
        refine zx_aload_n (pc := 195) dX10_findPlans_195 rfl rfl ?_
        refine g75_27 (pc := 196) hr fl_X10_119 dX10_findPlans_196 ?_
        refine u75_29 (pc := 199) hr fl_X10_167 dX10_findPlans_199 ?_
        refine zx_iload (pc := 202) dX10_findPlans_202 rfl ?_
        refine st_1_8 (pc := 204) dX10_findPlans_204 rfl ?_
        refine zx_aload_n (pc := 205) dX10_findPlans_205 rfl rfl ?_
        refine zx_cut 238 (fun v => v = lh) (fun v ev => ?_) (fun key => ?_)
        · subst ev
          refine u75_30 (pc := 238) hr fl_X10_170 dX10_findPlans_238 ?_
          refine zx_aload_n (pc := 241) dX10_findPlans_241 rfl rfl ?_
          refine zx_cut 275 (fun v => v = am) (fun v ev => ?_) (fun key => ?_)
          · subst ev
            refine u75_31 (pc := 275) hr fl_X10_173 dX10_findPlans_275 ?_
            refine ic_3_8_1 (pc := 278) dX10_findPlans_278 rfl ?_
            refine zx_goto (pc := 281) (tgt := 34) dX10_findPlans_281 (by decide) ?_
            have hT : zTk dn bz b2 b3 = 1 := by rw [zTk, if_pos h168]
            simp only [hT, hM, z10, reduceIte] at ih'
            exact ih' _ _ _ _
          · refine zx_aload_n (pc := 242) dX10_findPlans_242 rfl rfl ?_
            refine g75_26 (pc := 243) hr fl_X10_116 dX10_findPlans_243 ?_
            refine zx_aload_n (pc := 246) dX10_findPlans_246 rfl rfl ?_
            refine g75_27 (pc := 247) hr fl_X10_119 dX10_findPlans_247 ?_
            refine zx_icmp_ne (pc := 250) (tgt := 271) dX10_findPlans_250 (by decide) (fun h250 => ?_) (fun h250 => ?_)
            · refine zx_aload_n (pc := 271) dX10_findPlans_271 rfl rfl ?_
              refine g75_31 (pc := 272) hr fl_X10_173 dX10_findPlans_272 ?_
              exact key _ (by rw [← ha]; rw [if_neg (fun q => h250 q.symm)])
            · refine zx_aload_n (pc := 253) dX10_findPlans_253 rfl rfl ?_
              refine g75_26 (pc := 254) hr fl_X10_116 dX10_findPlans_254 ?_
              refine zx_aload_n (pc := 257) dX10_findPlans_257 rfl rfl ?_
              refine g75_31 (pc := 258) hr fl_X10_173 dX10_findPlans_258 ?_
              refine zx_icmp_le (pc := 261) (tgt := 271) dX10_findPlans_261 (by decide) (fun h261 => ?_) (fun h261 => ?_)
              · refine zx_aload_n (pc := 271) dX10_findPlans_271 rfl rfl ?_
                refine g75_31 (pc := 272) hr fl_X10_173 dX10_findPlans_272 ?_
                exact key _ (by rw [← ha]; rw [if_pos h250.symm, zMx]; first | rw [if_neg (Int32.not_lt.mpr h261)] | rw [if_pos (Int32.not_le.mp h261)])
              · refine zx_aload_n (pc := 264) dX10_findPlans_264 rfl rfl ?_
                refine g75_26 (pc := 265) hr fl_X10_116 dX10_findPlans_265 ?_
                refine zx_goto (pc := 268) (tgt := 275) dX10_findPlans_268 (by decide) ?_
                exact key _ (by rw [← ha]; rw [if_pos h250.symm, zMx]; first | rw [if_neg (Int32.not_lt.mpr h261)] | rw [if_pos (Int32.not_le.mp h261)])
        · refine zx_iload (pc := 206) dX10_findPlans_206 rfl ?_
          refine zx_if_eq (pc := 208) (tgt := 234) dX10_findPlans_208 (by decide) (fun h208 => absurd h208 (by decide)) (fun _ => ?_)
          refine zx_aload_n (pc := 211) dX10_findPlans_211 rfl rfl ?_
          refine g75_30 (pc := 212) hr fl_X10_170 dX10_findPlans_212 ?_
          refine zx_bipush (pc := 215) (v := -9) dX10_findPlans_215 (by decide) ?_
          refine zx_icmp_eq (pc := 217) (tgt := 229) dX10_findPlans_217 (by decide) (fun h217 => ?_) (fun h217 => ?_)
          · refine zx_iload (pc := 229) dX10_findPlans_229 rfl ?_
            refine zx_goto (pc := 231) (tgt := 238) dX10_findPlans_231 (by decide) ?_
            exact key _ (by rw [← hl]; simp only [hM, h217, reduceIte])
          · refine zx_iload (pc := 220) dX10_findPlans_220 rfl ?_
            refine zx_aload_n (pc := 222) dX10_findPlans_222 rfl rfl ?_
            refine g75_30 (pc := 223) hr fl_X10_170 dX10_findPlans_223 ?_
            refine zx_icmp_ge (pc := 226) (tgt := 234) dX10_findPlans_226 (by decide) (fun h226 => ?_) (fun h226 => ?_)
            · refine zx_aload_n (pc := 234) dX10_findPlans_234 rfl rfl ?_
              refine g75_30 (pc := 235) hr fl_X10_170 dX10_findPlans_235 ?_
              exact key _ (by rw [← hl]; simp only [hM, h217, h226, reduceIte])
            · refine zx_iload (pc := 229) dX10_findPlans_229 rfl ?_
              refine zx_goto (pc := 231) (tgt := 238) dX10_findPlans_231 (by decide) ?_
              exact key _ (by rw [← hl]; simp only [hM, h217, h226, reduceIte])
      · refine zx_aload_n (pc := 171) dX10_findPlans_171 rfl rfl ?_
        refine g75_27 (pc := 172) hr fl_X10_119 dX10_findPlans_172 ?_
        refine zx_aload_n (pc := 175) dX10_findPlans_175 rfl rfl ?_
        refine g75_29 (pc := 176) hr fl_X10_167 dX10_findPlans_176 ?_
        refine zx_icmp_ne (pc := 179) (tgt := 205) dX10_findPlans_179 (by decide) (fun h179 => ?_) (fun h179 => ?_)
        · refine zx_aload_n (pc := 205) dX10_findPlans_205 rfl rfl ?_
          refine zx_cut 238 (fun v => v = lh) (fun v ev => ?_) (fun key => ?_)
          · subst ev
            refine u75_30 (pc := 238) hr fl_X10_170 dX10_findPlans_238 ?_
            refine zx_aload_n (pc := 241) dX10_findPlans_241 rfl rfl ?_
            refine zx_cut 275 (fun v => v = am) (fun v ev => ?_) (fun key => ?_)
            · subst ev
              refine u75_31 (pc := 275) hr fl_X10_173 dX10_findPlans_275 ?_
              refine ic_3_8_1 (pc := 278) dX10_findPlans_278 rfl ?_
              refine zx_goto (pc := 281) (tgt := 34) dX10_findPlans_281 (by decide) ?_
              have hT : zTk dn bz b2 b3 = 0 := by rw [zTk, if_neg h168, if_neg h179]
              simp only [hT, hM, z10, reduceIte] at ih'
              exact ih' _ _ _ _
            · refine zx_aload_n (pc := 242) dX10_findPlans_242 rfl rfl ?_
              refine g75_26 (pc := 243) hr fl_X10_116 dX10_findPlans_243 ?_
              refine zx_aload_n (pc := 246) dX10_findPlans_246 rfl rfl ?_
              refine g75_27 (pc := 247) hr fl_X10_119 dX10_findPlans_247 ?_
              refine zx_icmp_ne (pc := 250) (tgt := 271) dX10_findPlans_250 (by decide) (fun h250 => ?_) (fun h250 => ?_)
              · refine zx_aload_n (pc := 271) dX10_findPlans_271 rfl rfl ?_
                refine g75_31 (pc := 272) hr fl_X10_173 dX10_findPlans_272 ?_
                exact key _ (by rw [← ha]; rw [if_neg (fun q => h250 q.symm)])
              · refine zx_aload_n (pc := 253) dX10_findPlans_253 rfl rfl ?_
                refine g75_26 (pc := 254) hr fl_X10_116 dX10_findPlans_254 ?_
                refine zx_aload_n (pc := 257) dX10_findPlans_257 rfl rfl ?_
                refine g75_31 (pc := 258) hr fl_X10_173 dX10_findPlans_258 ?_
                refine zx_icmp_le (pc := 261) (tgt := 271) dX10_findPlans_261 (by decide) (fun h261 => ?_) (fun h261 => ?_)
                · refine zx_aload_n (pc := 271) dX10_findPlans_271 rfl rfl ?_
                  refine g75_31 (pc := 272) hr fl_X10_173 dX10_findPlans_272 ?_
                  exact key _ (by rw [← ha]; rw [if_pos h250.symm, zMx]; first | rw [if_neg (Int32.not_lt.mpr h261)] | rw [if_pos (Int32.not_le.mp h261)])
                · refine zx_aload_n (pc := 264) dX10_findPlans_264 rfl rfl ?_
                  refine g75_26 (pc := 265) hr fl_X10_116 dX10_findPlans_265 ?_
                  refine zx_goto (pc := 268) (tgt := 275) dX10_findPlans_268 (by decide) ?_
                  exact key _ (by rw [← ha]; rw [if_pos h250.symm, zMx]; first | rw [if_neg (Int32.not_lt.mpr h261)] | rw [if_pos (Int32.not_le.mp h261)])
          · refine zx_iload (pc := 206) dX10_findPlans_206 rfl ?_
            refine zx_if_eq (pc := 208) (tgt := 234) dX10_findPlans_208 (by decide) (fun h208 => absurd h208 (by decide)) (fun _ => ?_)
            refine zx_aload_n (pc := 211) dX10_findPlans_211 rfl rfl ?_
            refine g75_30 (pc := 212) hr fl_X10_170 dX10_findPlans_212 ?_
            refine zx_bipush (pc := 215) (v := -9) dX10_findPlans_215 (by decide) ?_
            refine zx_icmp_eq (pc := 217) (tgt := 229) dX10_findPlans_217 (by decide) (fun h217 => ?_) (fun h217 => ?_)
            · refine zx_iload (pc := 229) dX10_findPlans_229 rfl ?_
              refine zx_goto (pc := 231) (tgt := 238) dX10_findPlans_231 (by decide) ?_
              exact key _ (by rw [← hl]; simp only [hM, h217, reduceIte])
            · refine zx_iload (pc := 220) dX10_findPlans_220 rfl ?_
              refine zx_aload_n (pc := 222) dX10_findPlans_222 rfl rfl ?_
              refine g75_30 (pc := 223) hr fl_X10_170 dX10_findPlans_223 ?_
              refine zx_icmp_ge (pc := 226) (tgt := 234) dX10_findPlans_226 (by decide) (fun h226 => ?_) (fun h226 => ?_)
              · refine zx_aload_n (pc := 234) dX10_findPlans_234 rfl rfl ?_
                refine g75_30 (pc := 235) hr fl_X10_170 dX10_findPlans_235 ?_
                exact key _ (by rw [← hl]; simp only [hM, h217, h226, reduceIte])
              · refine zx_iload (pc := 229) dX10_findPlans_229 rfl ?_
                refine zx_goto (pc := 231) (tgt := 238) dX10_findPlans_231 (by decide) ?_
                exact key _ (by rw [← hl]; simp only [hM, h217, h226, reduceIte])
        · refine zx_iload (pc := 182) dX10_findPlans_182 rfl ?_
          refine zx_iload_n (pc := 184) dX10_findPlans_184 rfl rfl ?_
          refine zx_icmp_ge (pc := 185) (tgt := 205) dX10_findPlans_185 (by decide) (fun h185 => ?_) (fun h185 => ?_)
          · refine zx_aload_n (pc := 205) dX10_findPlans_205 rfl rfl ?_
            refine zx_cut 238 (fun v => v = lh) (fun v ev => ?_) (fun key => ?_)
            · subst ev
              refine u75_30 (pc := 238) hr fl_X10_170 dX10_findPlans_238 ?_
              refine zx_aload_n (pc := 241) dX10_findPlans_241 rfl rfl ?_
              refine zx_cut 275 (fun v => v = am) (fun v ev => ?_) (fun key => ?_)
              · subst ev
                refine u75_31 (pc := 275) hr fl_X10_173 dX10_findPlans_275 ?_
                refine ic_3_8_1 (pc := 278) dX10_findPlans_278 rfl ?_
                refine zx_goto (pc := 281) (tgt := 34) dX10_findPlans_281 (by decide) ?_
                have hT : zTk dn bz b2 b3 = (if b3 ≤ bz then 0 else 1) := by rw [zTk, if_neg h168, if_pos h179]
                simp only [h185, reduceIte] at hT
                simp only [hT, hM, z10, reduceIte] at ih'
                exact ih' _ _ _ _
              · refine zx_aload_n (pc := 242) dX10_findPlans_242 rfl rfl ?_
                refine g75_26 (pc := 243) hr fl_X10_116 dX10_findPlans_243 ?_
                refine zx_aload_n (pc := 246) dX10_findPlans_246 rfl rfl ?_
                refine g75_27 (pc := 247) hr fl_X10_119 dX10_findPlans_247 ?_
                refine zx_icmp_ne (pc := 250) (tgt := 271) dX10_findPlans_250 (by decide) (fun h250 => ?_) (fun h250 => ?_)
                · refine zx_aload_n (pc := 271) dX10_findPlans_271 rfl rfl ?_
                  refine g75_31 (pc := 272) hr fl_X10_173 dX10_findPlans_272 ?_
                  exact key _ (by rw [← ha]; rw [if_neg (fun q => h250 q.symm)])
                · refine zx_aload_n (pc := 253) dX10_findPlans_253 rfl rfl ?_
                  refine g75_26 (pc := 254) hr fl_X10_116 dX10_findPlans_254 ?_
                  refine zx_aload_n (pc := 257) dX10_findPlans_257 rfl rfl ?_
                  refine g75_31 (pc := 258) hr fl_X10_173 dX10_findPlans_258 ?_
                  refine zx_icmp_le (pc := 261) (tgt := 271) dX10_findPlans_261 (by decide) (fun h261 => ?_) (fun h261 => ?_)
                  · refine zx_aload_n (pc := 271) dX10_findPlans_271 rfl rfl ?_
                    refine g75_31 (pc := 272) hr fl_X10_173 dX10_findPlans_272 ?_
                    exact key _ (by rw [← ha]; rw [if_pos h250.symm, zMx]; first | rw [if_neg (Int32.not_lt.mpr h261)] | rw [if_pos (Int32.not_le.mp h261)])
                  · refine zx_aload_n (pc := 264) dX10_findPlans_264 rfl rfl ?_
                    refine g75_26 (pc := 265) hr fl_X10_116 dX10_findPlans_265 ?_
                    refine zx_goto (pc := 268) (tgt := 275) dX10_findPlans_268 (by decide) ?_
                    exact key _ (by rw [← ha]; rw [if_pos h250.symm, zMx]; first | rw [if_neg (Int32.not_lt.mpr h261)] | rw [if_pos (Int32.not_le.mp h261)])
            · refine zx_iload (pc := 206) dX10_findPlans_206 rfl ?_
              refine zx_if_eq (pc := 208) (tgt := 234) dX10_findPlans_208 (by decide) (fun h208 => absurd h208 (by decide)) (fun _ => ?_)
              refine zx_aload_n (pc := 211) dX10_findPlans_211 rfl rfl ?_
              refine g75_30 (pc := 212) hr fl_X10_170 dX10_findPlans_212 ?_
              refine zx_bipush (pc := 215) (v := -9) dX10_findPlans_215 (by decide) ?_
              refine zx_icmp_eq (pc := 217) (tgt := 229) dX10_findPlans_217 (by decide) (fun h217 => ?_) (fun h217 => ?_)
              · refine zx_iload (pc := 229) dX10_findPlans_229 rfl ?_
                refine zx_goto (pc := 231) (tgt := 238) dX10_findPlans_231 (by decide) ?_
                exact key _ (by rw [← hl]; simp only [hM, h217, reduceIte])
              · refine zx_iload (pc := 220) dX10_findPlans_220 rfl ?_
                refine zx_aload_n (pc := 222) dX10_findPlans_222 rfl rfl ?_
                refine g75_30 (pc := 223) hr fl_X10_170 dX10_findPlans_223 ?_
                refine zx_icmp_ge (pc := 226) (tgt := 234) dX10_findPlans_226 (by decide) (fun h226 => ?_) (fun h226 => ?_)
                · refine zx_aload_n (pc := 234) dX10_findPlans_234 rfl rfl ?_
                  refine g75_30 (pc := 235) hr fl_X10_170 dX10_findPlans_235 ?_
                  exact key _ (by rw [← hl]; simp only [hM, h217, h226, reduceIte])
                · refine zx_iload (pc := 229) dX10_findPlans_229 rfl ?_
                  refine zx_goto (pc := 231) (tgt := 238) dX10_findPlans_231 (by decide) ?_
                  exact key _ (by rw [← hl]; simp only [hM, h217, h226, reduceIte])
          · refine zx_aload_n (pc := 188) dX10_findPlans_188 rfl rfl ?_
            refine zx_iload (pc := 189) dX10_findPlans_189 rfl ?_
            refine u75_28 (pc := 191) hr fl_X10_164 dX10_findPlans_191 ?_
            refine zx_aload_n (pc := 194) dX10_findPlans_194 rfl rfl ?_
            refine zx_aload_n (pc := 195) dX10_findPlans_195 rfl rfl ?_
            refine g75_27 (pc := 196) hr fl_X10_119 dX10_findPlans_196 ?_
            refine u75_29 (pc := 199) hr fl_X10_167 dX10_findPlans_199 ?_
            refine zx_iload (pc := 202) dX10_findPlans_202 rfl ?_
            refine st_1_8 (pc := 204) dX10_findPlans_204 rfl ?_
            refine zx_aload_n (pc := 205) dX10_findPlans_205 rfl rfl ?_
            refine zx_cut 238 (fun v => v = lh) (fun v ev => ?_) (fun key => ?_)
            · subst ev
              refine u75_30 (pc := 238) hr fl_X10_170 dX10_findPlans_238 ?_
              refine zx_aload_n (pc := 241) dX10_findPlans_241 rfl rfl ?_
              refine zx_cut 275 (fun v => v = am) (fun v ev => ?_) (fun key => ?_)
              · subst ev
                refine u75_31 (pc := 275) hr fl_X10_173 dX10_findPlans_275 ?_
                refine ic_3_8_1 (pc := 278) dX10_findPlans_278 rfl ?_
                refine zx_goto (pc := 281) (tgt := 34) dX10_findPlans_281 (by decide) ?_
                have hT : zTk dn bz b2 b3 = (if b3 ≤ bz then 0 else 1) := by rw [zTk, if_neg h168, if_pos h179]
                simp only [h185, reduceIte] at hT
                simp only [hT, hM, z10, reduceIte] at ih'
                exact ih' _ _ _ _
              · refine zx_aload_n (pc := 242) dX10_findPlans_242 rfl rfl ?_
                refine g75_26 (pc := 243) hr fl_X10_116 dX10_findPlans_243 ?_
                refine zx_aload_n (pc := 246) dX10_findPlans_246 rfl rfl ?_
                refine g75_27 (pc := 247) hr fl_X10_119 dX10_findPlans_247 ?_
                refine zx_icmp_ne (pc := 250) (tgt := 271) dX10_findPlans_250 (by decide) (fun h250 => ?_) (fun h250 => ?_)
                · refine zx_aload_n (pc := 271) dX10_findPlans_271 rfl rfl ?_
                  refine g75_31 (pc := 272) hr fl_X10_173 dX10_findPlans_272 ?_
                  exact key _ (by rw [← ha]; rw [if_neg (fun q => h250 q.symm)])
                · refine zx_aload_n (pc := 253) dX10_findPlans_253 rfl rfl ?_
                  refine g75_26 (pc := 254) hr fl_X10_116 dX10_findPlans_254 ?_
                  refine zx_aload_n (pc := 257) dX10_findPlans_257 rfl rfl ?_
                  refine g75_31 (pc := 258) hr fl_X10_173 dX10_findPlans_258 ?_
                  refine zx_icmp_le (pc := 261) (tgt := 271) dX10_findPlans_261 (by decide) (fun h261 => ?_) (fun h261 => ?_)
                  · refine zx_aload_n (pc := 271) dX10_findPlans_271 rfl rfl ?_
                    refine g75_31 (pc := 272) hr fl_X10_173 dX10_findPlans_272 ?_
                    exact key _ (by rw [← ha]; rw [if_pos h250.symm, zMx]; first | rw [if_neg (Int32.not_lt.mpr h261)] | rw [if_pos (Int32.not_le.mp h261)])
                  · refine zx_aload_n (pc := 264) dX10_findPlans_264 rfl rfl ?_
                    refine g75_26 (pc := 265) hr fl_X10_116 dX10_findPlans_265 ?_
                    refine zx_goto (pc := 268) (tgt := 275) dX10_findPlans_268 (by decide) ?_
                    exact key _ (by rw [← ha]; rw [if_pos h250.symm, zMx]; first | rw [if_neg (Int32.not_lt.mpr h261)] | rw [if_pos (Int32.not_le.mp h261)])
            · refine zx_iload (pc := 206) dX10_findPlans_206 rfl ?_
              refine zx_if_eq (pc := 208) (tgt := 234) dX10_findPlans_208 (by decide) (fun h208 => absurd h208 (by decide)) (fun _ => ?_)
              refine zx_aload_n (pc := 211) dX10_findPlans_211 rfl rfl ?_
              refine g75_30 (pc := 212) hr fl_X10_170 dX10_findPlans_212 ?_
              refine zx_bipush (pc := 215) (v := -9) dX10_findPlans_215 (by decide) ?_
              refine zx_icmp_eq (pc := 217) (tgt := 229) dX10_findPlans_217 (by decide) (fun h217 => ?_) (fun h217 => ?_)
              · refine zx_iload (pc := 229) dX10_findPlans_229 rfl ?_
                refine zx_goto (pc := 231) (tgt := 238) dX10_findPlans_231 (by decide) ?_
                exact key _ (by rw [← hl]; simp only [hM, h217, reduceIte])
              · refine zx_iload (pc := 220) dX10_findPlans_220 rfl ?_
                refine zx_aload_n (pc := 222) dX10_findPlans_222 rfl rfl ?_
                refine g75_30 (pc := 223) hr fl_X10_170 dX10_findPlans_223 ?_
                refine zx_icmp_ge (pc := 226) (tgt := 234) dX10_findPlans_226 (by decide) (fun h226 => ?_) (fun h226 => ?_)
                · refine zx_aload_n (pc := 234) dX10_findPlans_234 rfl rfl ?_
                  refine g75_30 (pc := 235) hr fl_X10_170 dX10_findPlans_235 ?_
                  exact key _ (by rw [← hl]; simp only [hM, h217, h226, reduceIte])
                · refine zx_iload (pc := 229) dX10_findPlans_229 rfl ?_
                  refine zx_goto (pc := 231) (tgt := 238) dX10_findPlans_231 (by decide) ?_
                  exact key _ (by rw [← hl]; simp only [hM, h217, h226, reduceIte])
set_option maxHeartbeats 4000000 in
theorem r_findPlans {d : Nat} {H F : Nat} {th : Int32} {mA : (Nat → Int32) × Int32 × Int32} {mo : Int32} {mg : (Nat → Int32)} {mk : (Nat → Int32)} {md : (Nat → Int32)} {mR : Int32 × Int32 × (Nat → Int32) × Int32 × (Nat → Int32)} {pg : (Nat → Int32)} {mq : (Nat → Int32)} {bk : (Nat → Int32) × Int32} {kp : (Nat → Int32) × (Nat → Int32)} {sn : Int32 × (Nat → Int32) × (Nat → Int32) × (Nat → Int32)} {ml : Int64} {mw : Int32 × Int32} {q1 : Int32} {q2 : Int32} {q3 : Int32} {q4 : Int32} {wl : Int32 × Int32} {sp : Int32 × Int32} {rs : Int32 × Int32} {vl : (Nat → Int32)} {rho : List zCel} (hr : rho.length = 75) (hH : H ≤ 5) (hF : F ≤ 3) : zCf yX10_findPlans cX10_findPlans 8 none (d + 2) [.ref 75] (rho ++ encM th mA (mo, (nI H), mg, mk, (nI F), md) mR pg mq bk kp sn ml mw (q1, q2, q3, q4) wl sp rs vl) none (rho ++ encM th mA (mo, (nI H), mg, mk, (nI F), md) mR pg (zFp mg mk md F H mo pg mq mw ((2 + F) ^ H)).1 bk kp sn ml (zFp mg mk md F H mo pg mq mw ((2 + F) ^ H)).2.2 ((zFp mg mk md F H mo pg mq mw ((2 + F) ^ H)).2.1.1, (zFp mg mk md F H mo pg mq mw ((2 + F) ^ H)).2.1.2.1, (zFp mg mk md F H mo pg mq mw ((2 + F) ^ H)).2.1.2.2.2.1, (zFp mg mk md F H mo pg mq mw ((2 + F) ^ H)).2.1.2.2.2.2) wl sp rs vl) := by
  refine zC.intro (by decide) (Nat.le_of_ble_eq_true rfl) rfl ?_
  refine zx_aload_n (pc := 0) dX10_findPlans_0 rfl rfl ?_
  refine zx_bipush (pc := 1) (v := -9) dX10_findPlans_1 (by decide) ?_
  refine u75_28 (pc := 3) hr fl_X10_164 dX10_findPlans_3 ?_
  refine zx_aload_n (pc := 6) dX10_findPlans_6 rfl rfl ?_
  refine zx_bipush (pc := 7) (v := -9) dX10_findPlans_7 (by decide) ?_
  refine u75_29 (pc := 9) hr fl_X10_167 dX10_findPlans_9 ?_
  refine zx_aload_n (pc := 12) dX10_findPlans_12 rfl rfl ?_
  refine zx_bipush (pc := 13) (v := -9) dX10_findPlans_13 (by decide) ?_
  refine u75_30 (pc := 15) hr fl_X10_170 dX10_findPlans_15 ?_
  refine zx_aload_n (pc := 18) dX10_findPlans_18 rfl rfl ?_
  refine zx_iconst (pc := 19) (v := 0) dX10_findPlans_19 (by decide) ?_
  refine u75_31 (pc := 20) hr fl_X10_173 dX10_findPlans_20 ?_
  refine zx_iconst (pc := 23) (v := 0) dX10_findPlans_23 (by decide) ?_
  refine st_1_8 (pc := 24) dX10_findPlans_24 rfl ?_
  refine zx_iconst (pc := 25) (v := 2) dX10_findPlans_25 (by decide) ?_
  refine zx_aload_n (pc := 26) dX10_findPlans_26 rfl rfl ?_
  refine g75_8 (pc := 27) hr fl_X10_103 dX10_findPlans_27 ?_
  refine zx_iadd (pc := 30) dX10_findPlans_30 ?_
  rw [show (2 : Int32) + nI F = nI (2 + F) from nI_add 2 F]
  refine st_2_8 (pc := 31) dX10_findPlans_31 rfl ?_
  refine zx_iconst (pc := 32) (v := 0) dX10_findPlans_32 (by decide) ?_
  refine st_3_8 (pc := 33) dX10_findPlans_33 rfl ?_
  exact lr_fp hr hH hF ((2 + F) ^ H) 0 (by omega) _ _ _ _
