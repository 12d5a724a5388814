set_option maxHeartbeats 4000000 in
theorem r_goDay_p {d : Nat} {H F : Nat} {p : Nat → Int32} {th : Int32} {mA : (Nat → Int32) × Int32 × Int32} {mo : Int32} {mg : (Nat → Int32)} {mk : (Nat → Int32)} {md : (Nat → Int32)} {mR : Int32 × Int32 × (Nat → Int32) × Int32 × (Nat → Int32)} {mq : (Nat → Int32)} {bk : (Nat → Int32) × Int32} {kp : (Nat → Int32) × (Nat → Int32)} {sn : Int32 × (Nat → Int32) × (Nat → Int32) × (Nat → Int32)} {ml : Int64} {mw : Int32 × Int32} {pn : Int32 × Int32 × Int32 × Int32} {wl : Int32 × Int32} {sp : Int32 × Int32} {rs : Int32 × Int32} {vl : (Nat → Int32)} {rho : List zCel} (hr : rho.length = 75) (hH : H ≤ 5) (hF : F ≤ 3) (hv : ∀ h, h < H → ∃ t : Nat, t < 2 + F ∧ p h = nI t) : zCf yX10_goDay cX10_goDay 3 (some .int) (d + 2) [.ref 75, .ref 82] (rho ++ encM th mA (mo, (nI H), mg, mk, (nI F), md) mR p mq bk kp sn ml mw pn wl sp rs vl) (some (.int (zMx 0 (mo - (zMd mg mk md F H p).2.2.1 - p 11)))) (rho ++ encM th mA (mo, (nI H), mg, mk, (nI F), md) mR (zPd mo p (zMd mg mk md F H p)) mq bk kp sn ml ((zMd mg mk md F H p).2.2.1, (zMd mg mk md F H p).2.2.2) pn wl sp rs vl) := by
  refine zC.intro (by decide) (Nat.le_of_ble_eq_true rfl) rfl ?_
  refine zx_aload_n (pc := 0) dX10_goDay_0 rfl rfl ?_
  refine zx_aload_n (pc := 1) dX10_goDay_1 rfl rfl ?_
  refine zx_fV0 (pc := 2) (r_goWork_p (d := d) hr hH hF hv) cl_X10_122 (p75 hr) rfl dX10_goDay_2 rfl rfl (by omega) (Nat.le_of_ble_eq_true rfl) (Nat.le_refl _) (Nat.le_refl _) ?_
  refine zx_aload_n (pc := 5) dX10_goDay_5 rfl rfl ?_
  refine g75_4 (pc := 6) hr fl_X10_100 dX10_goDay_6 ?_
  refine zx_aload_n (pc := 9) dX10_goDay_9 rfl rfl ?_
  refine g75_26 (pc := 10) hr fl_X10_116 dX10_goDay_10 ?_
  refine zx_isub (pc := 13) dX10_goDay_13 ?_
  refine zx_aload_n (pc := 14) dX10_goDay_14 rfl rfl ?_
  refine zx_bipush (pc := 15) (v := 11) dX10_goDay_15 (by decide) ?_
  refine a82 (pc := 17) hr (zix_k (j := 11) (by decide) (by decide)) dX10_goDay_17 ?_
  rw [show zPf p (zMd mg mk md F H p) 11 = p 11 from rfl]
  refine zx_isub (pc := 18) dX10_goDay_18 ?_
  refine st_2_3 (pc := 19) dX10_goDay_19 rfl ?_
  refine zx_cut 29 (fun v => v = zMx 0 (mo - (zMd mg mk md F H p).2.2.1 - p 11)) (fun v ev => ?_) (fun key => ?_)
  · refine st_2_3 (pc := 29) dX10_goDay_29 rfl ?_
    refine zx_aload_n (pc := 30) dX10_goDay_30 rfl rfl ?_
    refine zx_bipush (pc := 31) (v := 14) dX10_goDay_31 (by decide) ?_
    refine zx_dup2 (pc := 33) dX10_goDay_33 rfl rfl ?_
    refine a82 (pc := 34) hr (zix_k (j := 14) (by decide) (by decide)) dX10_goDay_34 ?_
    refine zx_iload_n (pc := 35) dX10_goDay_35 rfl rfl ?_
    refine zx_iadd (pc := 36) dX10_goDay_36 ?_
    refine s82 (pc := 37) hr (zix_k (j := 14) (by decide) (by decide)) dX10_goDay_37 ?_
    refine zx_aload_n (pc := 38) dX10_goDay_38 rfl rfl ?_
    refine zx_bipush (pc := 39) (v := 11) dX10_goDay_39 (by decide) ?_
    refine zx_iconst (pc := 41) (v := 0) dX10_goDay_41 (by decide) ?_
    refine s82 (pc := 42) hr (zix_k (j := 11) (by decide) (by decide)) dX10_goDay_42 ?_
    refine zx_aload_n (pc := 43) dX10_goDay_43 rfl rfl ?_
    refine zx_bipush (pc := 44) (v := 15) dX10_goDay_44 (by decide) ?_
    refine zx_dup2 (pc := 46) dX10_goDay_46 rfl rfl ?_
    refine a82 (pc := 47) hr (zix_k (j := 15) (by decide) (by decide)) dX10_goDay_47 ?_
    refine zx_iconst (pc := 48) (v := 1) dX10_goDay_48 (by decide) ?_
    refine zx_iadd (pc := 49) dX10_goDay_49 ?_
    refine s82 (pc := 50) hr (zix_k (j := 15) (by decide) (by decide)) dX10_goDay_50 ?_
    refine zx_iload_n (pc := 51) dX10_goDay_51 rfl rfl ?_
    exact zx_fi (pc := 52) dX10_goDay_52 rfl rfl (Nat.le_refl _) (Nat.le_refl _) ev (by rw [show zPf p (zMd mg mk md F H p) 14 = p 14 from rfl, pk_un (by decide), pk_un (by decide), show zPf p (zMd mg mk md F H p) 15 = p 15 from rfl, zPd_eq ev])
  · refine zx_iload_n (pc := 20) dX10_goDay_20 rfl rfl ?_
    refine zx_if_ge (pc := 21) (tgt := 28) dX10_goDay_21 (by decide) (fun h21 => ?_) (fun h21 => ?_)
    · refine zx_iload_n (pc := 28) dX10_goDay_28 rfl rfl ?_
      exact key _ (by rw [← zGa_le]; first | rw [if_pos h21] | rw [if_neg h21])
    · refine zx_iconst (pc := 24) (v := 0) dX10_goDay_24 (by decide) ?_
      refine zx_goto (pc := 25) (tgt := 29) dX10_goDay_25 (by decide) ?_
      exact key _ (by rw [← zGa_le]; first | rw [if_pos h21] | rw [if_neg h21])
set_option maxHeartbeats 4000000 in
theorem r_goDay_t {d : Nat} {H F : Nat} {p : Nat → Int32} {th : Int32} {mA : (Nat → Int32) × Int32 × Int32} {mo : Int32} {mg : (Nat → Int32)} {mk : (Nat → Int32)} {md : (Nat → Int32)} {mR : Int32 × Int32 × (Nat → Int32) × Int32 × (Nat → Int32)} {pg : (Nat → Int32)} {bk : (Nat → Int32) × Int32} {kp : (Nat → Int32) × (Nat → Int32)} {sn : Int32 × (Nat → Int32) × (Nat → Int32) × (Nat → Int32)} {ml : Int64} {mw : Int32 × Int32} {pn : Int32 × Int32 × Int32 × Int32} {wl : Int32 × Int32} {sp : Int32 × Int32} {rs : Int32 × Int32} {vl : (Nat → Int32)} {rho : List zCel} (hr : rho.length = 75) (hH : H ≤ 5) (hF : F ≤ 3) (hv : ∀ h, h < H → ∃ t : Nat, t < 2 + F ∧ p h = nI t) : zCf yX10_goDay cX10_goDay 3 (some .int) (d + 2) [.ref 75, .ref 83] (rho ++ encM th mA (mo, (nI H), mg, mk, (nI F), md) mR pg p bk kp sn ml mw pn wl sp rs vl) (some (.int (zMx 0 (mo - (zMd mg mk md F H p).2.2.1 - p 11)))) (rho ++ encM th mA (mo, (nI H), mg, mk, (nI F), md) mR pg (zPd mo p (zMd mg mk md F H p)) bk kp sn ml ((zMd mg mk md F H p).2.2.1, (zMd mg mk md F H p).2.2.2) pn wl sp rs vl) := by
  refine zC.intro (by decide) (Nat.le_of_ble_eq_true rfl) rfl ?_
  refine zx_aload_n (pc := 0) dX10_goDay_0 rfl rfl ?_
  refine zx_aload_n (pc := 1) dX10_goDay_1 rfl rfl ?_
  refine zx_fV0 (pc := 2) (r_goWork_t (d := d) hr hH hF hv) cl_X10_122 (p75 hr) rfl dX10_goDay_2 rfl rfl (by omega) (Nat.le_of_ble_eq_true rfl) (Nat.le_refl _) (Nat.le_refl _) ?_
  refine zx_aload_n (pc := 5) dX10_goDay_5 rfl rfl ?_
  refine g75_4 (pc := 6) hr fl_X10_100 dX10_goDay_6 ?_
  refine zx_aload_n (pc := 9) dX10_goDay_9 rfl rfl ?_
  refine g75_26 (pc := 10) hr fl_X10_116 dX10_goDay_10 ?_
  refine zx_isub (pc := 13) dX10_goDay_13 ?_
  refine zx_aload_n (pc := 14) dX10_goDay_14 rfl rfl ?_
  refine zx_bipush (pc := 15) (v := 11) dX10_goDay_15 (by decide) ?_
  refine a83 (pc := 17) hr (zix_k (j := 11) (by decide) (by decide)) dX10_goDay_17 ?_
  rw [show zPf p (zMd mg mk md F H p) 11 = p 11 from rfl]
  refine zx_isub (pc := 18) dX10_goDay_18 ?_
  refine st_2_3 (pc := 19) dX10_goDay_19 rfl ?_
  refine zx_cut 29 (fun v => v = zMx 0 (mo - (zMd mg mk md F H p).2.2.1 - p 11)) (fun v ev => ?_) (fun key => ?_)
  · refine st_2_3 (pc := 29) dX10_goDay_29 rfl ?_
    refine zx_aload_n (pc := 30) dX10_goDay_30 rfl rfl ?_
    refine zx_bipush (pc := 31) (v := 14) dX10_goDay_31 (by decide) ?_
    refine zx_dup2 (pc := 33) dX10_goDay_33 rfl rfl ?_
    refine a83 (pc := 34) hr (zix_k (j := 14) (by decide) (by decide)) dX10_goDay_34 ?_
    refine zx_iload_n (pc := 35) dX10_goDay_35 rfl rfl ?_
    refine zx_iadd (pc := 36) dX10_goDay_36 ?_
    refine s83 (pc := 37) hr (zix_k (j := 14) (by decide) (by decide)) dX10_goDay_37 ?_
    refine zx_aload_n (pc := 38) dX10_goDay_38 rfl rfl ?_
    refine zx_bipush (pc := 39) (v := 11) dX10_goDay_39 (by decide) ?_
    refine zx_iconst (pc := 41) (v := 0) dX10_goDay_41 (by decide) ?_
    refine s83 (pc := 42) hr (zix_k (j := 11) (by decide) (by decide)) dX10_goDay_42 ?_
    refine zx_aload_n (pc := 43) dX10_goDay_43 rfl rfl ?_
    refine zx_bipush (pc := 44) (v := 15) dX10_goDay_44 (by decide) ?_
    refine zx_dup2 (pc := 46) dX10_goDay_46 rfl rfl ?_
    refine a83 (pc := 47) hr (zix_k (j := 15) (by decide) (by decide)) dX10_goDay_47 ?_
    refine zx_iconst (pc := 48) (v := 1) dX10_goDay_48 (by decide) ?_
    refine zx_iadd (pc := 49) dX10_goDay_49 ?_
    refine s83 (pc := 50) hr (zix_k (j := 15) (by decide) (by decide)) dX10_goDay_50 ?_
    refine zx_iload_n (pc := 51) dX10_goDay_51 rfl rfl ?_
    exact zx_fi (pc := 52) dX10_goDay_52 rfl rfl (Nat.le_refl _) (Nat.le_refl _) ev (by rw [show zPf p (zMd mg mk md F H p) 14 = p 14 from rfl, pk_un (by decide), pk_un (by decide), show zPf p (zMd mg mk md F H p) 15 = p 15 from rfl, zPd_eq ev])
  · refine zx_iload_n (pc := 20) dX10_goDay_20 rfl rfl ?_
    refine zx_if_ge (pc := 21) (tgt := 28) dX10_goDay_21 (by decide) (fun h21 => ?_) (fun h21 => ?_)
    · refine zx_iload_n (pc := 28) dX10_goDay_28 rfl rfl ?_
      exact key _ (by rw [← zGa_le]; first | rw [if_pos h21] | rw [if_neg h21])
    · refine zx_iconst (pc := 24) (v := 0) dX10_goDay_24 (by decide) ?_
      refine zx_goto (pc := 25) (tgt := 29) dX10_goDay_25 (by decide) ?_
      exact key _ (by rw [← zGa_le]; first | rw [if_pos h21] | rw [if_neg h21])
set_option maxHeartbeats 4000000 in
theorem lr_begin {d n0 : Nat} {th : Int32} {mA : (Nat → Int32) × Int32 × Int32} {mB : Int32 × Int32 × (Nat → Int32) × (Nat → Int32) × Int32 × (Nat → Int32)} {mR : Int32 × Int32 × (Nat → Int32) × Int32 × (Nat → Int32)} {pg : (Nat → Int32)} {mq : (Nat → Int32)} {bk : (Nat → Int32) × Int32} {kp : (Nat → Int32) × (Nat → Int32)} {sn : Int32 × (Nat → Int32) × (Nat → Int32) × (Nat → Int32)} {ml : Int64} {mw : Int32 × Int32} {pn : Int32 × Int32 × Int32 × Int32} {wl : Int32 × Int32} {sp : Int32 × Int32} {rs : Int32 × Int32} {vl : (Nat → Int32)} {rho : List zCel} (hr : rho.length = 75) : ∀ k i : Nat, i + k = 16 → zX RX10 cX10_begin 2 none "begin" none d n0 0 0 0 0 (fun r s => r = none ∧ s = rho ++ encM th mA mB mR pg (zC16 pg mq 16) bk kp sn ml mw pn wl sp rs vl) 2 [some (.ref 75), some (.int (nI i))] [] (rho ++ encM th mA mB mR pg (zC16 pg mq i) bk kp sn ml mw pn wl sp rs vl) := by
  intro k
  induction k with
  | zero =>
    intro i hi
    obtain rfl : i = 16 := by omega
    refine zx_iload_n (pc := 2) dX10_begin_2 rfl rfl ?_
    refine zx_bipush (pc := 3) (v := 16) dX10_begin_3 (by decide) ?_
    refine zx_icmp_ge (pc := 5) (tgt := 26) dX10_begin_5 (by decide) (fun h5 => ?_) (fun h5 => by first | exact absurd h5 (show (16 : Int32) ≤ nI 16 by decide) | exact absurd (show (16 : Int32) ≤ nI 16 by decide) h5)
    exact zx_fv (pc := 26) dX10_begin_26 rfl (Nat.le_refl _) (Nat.le_refl _) rfl
  | succ k ih =>
    intro i hi
    refine zx_iload_n (pc := 2) dX10_begin_2 rfl rfl ?_
    refine zx_bipush (pc := 3) (v := 16) dX10_begin_3 (by decide) ?_
    refine zx_icmp_ge (pc := 5) (tgt := 26) dX10_begin_5 (by decide) (fun h5 => by first | exact absurd h5 (show ¬ (16 : Int32) ≤ nI i from nI_ge (a := i) (b := 16) (by omega) (by decide)) | exact absurd (show ¬ (16 : Int32) ≤ nI i from nI_ge (a := i) (b := 16) (by omega) (by decide)) h5) (fun h5 => ?_)
    refine zx_aload_n (pc := 8) dX10_begin_8 rfl rfl ?_
    refine g75_16 (pc := 9) hr fl_X10_31 dX10_begin_9 ?_
    refine zx_iload_n (pc := 12) dX10_begin_12 rfl rfl ?_
    refine zx_aload_n (pc := 13) dX10_begin_13 rfl rfl ?_
    refine g75_15 (pc := 14) hr fl_X10_28 dX10_begin_14 ?_
    refine zx_iload_n (pc := 17) dX10_begin_17 rfl rfl ?_
    refine a82 (pc := 18) hr (zix_n (by omega)) dX10_begin_18 ?_
    refine s83 (pc := 19) hr (zix_n (by omega)) dX10_begin_19 ?_
    refine ic_1_2_1 (pc := 20) dX10_begin_20 rfl ?_
    refine zx_goto (pc := 23) (tgt := 2) dX10_begin_23 (by decide) ?_
    rw [nI_1, zC16_s]
    exact ih (i + 1) (by omega)
set_option maxHeartbeats 4000000 in
theorem r_begin {d : Nat}  {th : Int32} {mA : (Nat → Int32) × Int32 × Int32} {mB : Int32 × Int32 × (Nat → Int32) × (Nat → Int32) × Int32 × (Nat → Int32)} {mR : Int32 × Int32 × (Nat → Int32) × Int32 × (Nat → Int32)} {pg : (Nat → Int32)} {mq : (Nat → Int32)} {bk : (Nat → Int32) × Int32} {kp : (Nat → Int32) × (Nat → Int32)} {sn : Int32 × (Nat → Int32) × (Nat → Int32) × (Nat → Int32)} {ml : Int64} {mw : Int32 × Int32} {pn : Int32 × Int32 × Int32 × Int32} {wl : Int32 × Int32} {sp : Int32 × Int32} {rs : Int32 × Int32} {vl : (Nat → Int32)} {rho : List zCel} (hr : rho.length = 75)  : zCf yX10_begin cX10_begin 2 none d [.ref 75] (rho ++ encM th mA mB mR pg mq bk kp sn ml mw pn wl sp rs vl) none (rho ++ encM th mA mB mR pg (zC16 pg mq 16) bk kp sn ml mw pn wl sp rs vl) := by
  refine zC.intro (by decide) (Nat.le_of_ble_eq_true rfl) rfl ?_
  refine zx_iconst (pc := 0) (v := 0) dX10_begin_0 (by decide) ?_
  refine st_1_2 (pc := 1) dX10_begin_1 rfl ?_
  exact zx_sg (sg' := rho ++ encM th mA mB mR pg (zC16 pg mq 0) bk kp sn ml mw pn wl sp rs vl) (by rw [zC16_0]) (lr_begin hr 16 0 (by omega))
theorem lr_power {d n0 E : Nat} {b : Int32} {sg : List zCel} (hE : E < 1000) : ∀ k i : Nat, i + k = E → zX RX10 cX10_power 4 (some .int) "power" none d n0 0 0 0 0 (fun r s => r = some (.int (zPw b E)) ∧ s = sg) 4 [some (.int b), some (.int (nI E)), some (.int (zPw b i)), some (.int (nI i))] [] sg := by
  intro k
  induction k with
  | zero =>
    intro i hi
    obtain rfl : i = E := by omega
    refine zx_iload_n (pc := 4) dX10_power_4 rfl rfl ?_
    refine zx_iload_n (pc := 5) dX10_power_5 rfl rfl ?_
    refine zx_icmp_ge (pc := 6) (tgt := 19) dX10_power_6 (by decide) (fun h6 => ?_) (fun h6 => by first | exact absurd h6 (show nI i ≤ nI i from Int32.le_refl _) | exact absurd (show nI i ≤ nI i from Int32.le_refl _) h6)
    refine zx_iload_n (pc := 19) dX10_power_19 rfl rfl ?_
    exact zx_fi (pc := 20) dX10_power_20 rfl rfl (Nat.le_refl _) (Nat.le_refl _) rfl rfl
  | succ k ih =>
    intro i hi
    refine zx_iload_n (pc := 4) dX10_power_4 rfl rfl ?_
    refine zx_iload_n (pc := 5) dX10_power_5 rfl rfl ?_
    refine zx_icmp_ge (pc := 6) (tgt := 19) dX10_power_6 (by decide) (fun h6 => by first | exact absurd h6 (nI_ge (show i < E by omega) (by omega)) | exact absurd (nI_ge (show i < E by omega) (by omega)) h6) (fun h6 => ?_)
    refine zx_iload_n (pc := 9) dX10_power_9 rfl rfl ?_
    refine zx_iload_n (pc := 10) dX10_power_10 rfl rfl ?_
    refine zx_imul (pc := 11) dX10_power_11 ?_
    refine st_2_4 (pc := 12) dX10_power_12 rfl ?_
    refine ic_3_4_1 (pc := 13) dX10_power_13 rfl ?_
    refine zx_goto (pc := 16) (tgt := 4) dX10_power_16 (by decide) ?_
    rw [nI_1]
    exact ih (i + 1) (by omega)
set_option maxHeartbeats 4000000 in
theorem r_power {d : Nat} {E : Nat} {b : Int32} {sg : List zCel} (hE : E < 1000) : zCf yX10_power cX10_power 4 (some .int) d [.int b, .int (nI E)] (sg) (some (.int (zPw b E))) (sg) := by
  refine zC.intro (by decide) (Nat.le_of_ble_eq_true rfl) rfl ?_
  refine zx_iconst (pc := 0) (v := 1) dX10_power_0 (by decide) ?_
  refine st_2_4 (pc := 1) dX10_power_1 rfl ?_
  refine zx_iconst (pc := 2) (v := 0) dX10_power_2 (by decide) ?_
  refine st_3_4 (pc := 3) dX10_power_3 rfl ?_
  exact lr_power hE E 0 (by omega)
set_option maxHeartbeats 4000000 in
theorem lr_note2 {d n0 z : Nat} {th : Int32} {mA : (Nat → Int32) × Int32 × Int32} {mB : Int32 × Int32 × (Nat → Int32) × (Nat → Int32) × Int32 × (Nat → Int32)} {mR : Int32 × Int32 × (Nat → Int32) × Int32 × (Nat → Int32)} {pg : (Nat → Int32)} {mq : (Nat → Int32)} {bb : (Nat → Int32)} {kp : (Nat → Int32) × (Nat → Int32)} {sn : Int32 × (Nat → Int32) × (Nat → Int32) × (Nat → Int32)} {ml : Int64} {mw : Int32 × Int32} {pn : Int32 × Int32 × Int32 × Int32} {wl : Int32 × Int32} {sp : Int32 × Int32} {rs : Int32 × Int32} {vl : (Nat → Int32)} {rho : List zCel} (hr : rho.length = 75) (hz : z < 14) : ∀ k i : Nat, i + k = 16 → zX RX10 cX10_note 2 none "note" none d n0 0 0 0 0 (fun r s => r = none ∧ s = rho ++ encM th mA mB mR pg mq ((zPut bb pg (16 * z) 16), (nI (z + 1))) kp sn ml mw pn wl sp rs vl) 51 [some (.ref 75), some (.int (nI i))] [] (rho ++ encM th mA mB mR pg mq ((zPut bb pg (16 * z) i), (nI z)) kp sn ml mw pn wl sp rs vl) := by
  intro k
  induction k with
  | zero =>
    intro i hi
    obtain rfl : i = 16 := by omega
    refine zx_iload_n (pc := 51) dX10_note_51 rfl rfl ?_
    refine zx_bipush (pc := 52) (v := 16) dX10_note_52 (by decide) ?_
    refine zx_icmp_ge (pc := 54) (tgt := 83) dX10_note_54 (by decide) (fun h54 => ?_) (fun h54 => by first | exact absurd h54 (show (16 : Int32) ≤ nI 16 by decide) | exact absurd (show (16 : Int32) ≤ nI 16 by decide) h54)
    refine zx_aload_n (pc := 83) dX10_note_83 rfl rfl ?_
    refine zx_dup (pc := 84) dX10_note_84 rfl ?_
    refine g75_18 (pc := 85) hr fl_X10_106 dX10_note_85 ?_
    refine zx_iconst (pc := 88) (v := 1) dX10_note_88 (by decide) ?_
    refine zx_iadd (pc := 89) dX10_note_89 ?_
    refine u75_18 (pc := 90) hr fl_X10_106 dX10_note_90 ?_
    exact zx_fv (pc := 93) dX10_note_93 rfl (Nat.le_refl _) (Nat.le_refl _) (by rw [nI_1])
  | succ k ih =>
    intro i hi
    refine zx_iload_n (pc := 51) dX10_note_51 rfl rfl ?_
    refine zx_bipush (pc := 52) (v := 16) dX10_note_52 (by decide) ?_
    refine zx_icmp_ge (pc := 54) (tgt := 83) dX10_note_54 (by decide) (fun h54 => by first | exact absurd h54 (show ¬ (16 : Int32) ≤ nI i from nI_ge (a := i) (b := 16) (by omega) (by decide)) | exact absurd (show ¬ (16 : Int32) ≤ nI i from nI_ge (a := i) (b := 16) (by omega) (by decide)) h54) (fun h54 => ?_)
    refine zx_aload_n (pc := 57) dX10_note_57 rfl rfl ?_
    refine g75_17 (pc := 58) hr fl_X10_34 dX10_note_58 ?_
    refine zx_bipush (pc := 61) (v := 16) dX10_note_61 (by decide) ?_
    refine zx_aload_n (pc := 63) dX10_note_63 rfl rfl ?_
    refine g75_18 (pc := 64) hr fl_X10_106 dX10_note_64 ?_
    refine zx_imul (pc := 67) dX10_note_67 ?_
    refine zx_iload_n (pc := 68) dX10_note_68 rfl rfl ?_
    refine zx_iadd (pc := 69) dX10_note_69 ?_
    refine zx_aload_n (pc := 70) dX10_note_70 rfl rfl ?_
    refine g75_15 (pc := 71) hr fl_X10_28 dX10_note_71 ?_
    refine zx_iload_n (pc := 74) dX10_note_74 rfl rfl ?_
    refine a82 (pc := 75) hr (zix_n (by omega)) dX10_note_75 ?_
    refine s84 (pc := 76) hr (zix_m (a := z) (zm16 z) (by omega)) dX10_note_76 ?_
    refine ic_1_2_1 (pc := 77) dX10_note_77 rfl ?_
    refine zx_goto (pc := 80) (tgt := 51) dX10_note_80 (by decide) ?_
    rw [nI_1, zPut_s]
    exact ih (i + 1) (by omega)
set_option maxHeartbeats 4000000 in
theorem lr_note1 {d n0 : Nat} {th : Int32} {mA : (Nat → Int32) × Int32 × Int32} {mB : Int32 × Int32 × (Nat → Int32) × (Nat → Int32) × Int32 × (Nat → Int32)} {mR : Int32 × Int32 × (Nat → Int32) × Int32 × (Nat → Int32)} {pg : (Nat → Int32)} {mq : (Nat → Int32)} {bb : (Nat → Int32)} {kp : (Nat → Int32) × (Nat → Int32)} {sn : Int32 × (Nat → Int32) × (Nat → Int32) × (Nat → Int32)} {ml : Int64} {mw : Int32 × Int32} {pn : Int32 × Int32 × Int32 × Int32} {wl : Int32 × Int32} {sp : Int32 × Int32} {rs : Int32 × Int32} {vl : (Nat → Int32)} {rho : List zCel} (hr : rho.length = 75) : ∀ k i : Nat, i + k = 208 → zX RX10 cX10_note 2 none "note" none d n0 0 0 0 0 (fun r s => r = none ∧ s = rho ++ encM th mA mB mR pg mq ((zPut (zSf bb 208) pg 208 16), (nI 14)) kp sn ml mw pn wl sp rs vl) 11 [some (.ref 75), some (.int (nI i))] [] (rho ++ encM th mA mB mR pg mq ((zSf bb i), (nI 14)) kp sn ml mw pn wl sp rs vl) := by
  intro k
  induction k with
  | zero =>
    intro i hi
    obtain rfl : i = 208 := by omega
    refine zx_iload_n (pc := 11) dX10_note_11 rfl rfl ?_
    refine zx_sipush (pc := 12) (v := 208) dX10_note_12 (by decide) ?_
    refine zx_icmp_ge (pc := 15) (tgt := 39) dX10_note_15 (by decide) (fun h15 => ?_) (fun h15 => by first | exact absurd h15 (show (208 : Int32) ≤ nI 208 by decide) | exact absurd (show (208 : Int32) ≤ nI 208 by decide) h15)
    refine zx_aload_n (pc := 39) dX10_note_39 rfl rfl ?_
    refine zx_dup (pc := 40) dX10_note_40 rfl ?_
    refine g75_18 (pc := 41) hr fl_X10_106 dX10_note_41 ?_
    refine zx_iconst (pc := 44) (v := 1) dX10_note_44 (by decide) ?_
    refine zx_isub (pc := 45) dX10_note_45 ?_
    refine u75_18 (pc := 46) hr fl_X10_106 dX10_note_46 ?_
    refine zx_iconst (pc := 49) (v := 0) dX10_note_49 (by decide) ?_
    refine st_1_2 (pc := 50) dX10_note_50 rfl ?_
    exact zx_sg (sg' := rho ++ encM th mA mB mR pg mq ((zPut (zSf bb 208) pg (16 * 13) 0), (nI 13)) kp sn ml mw pn wl sp rs vl) (by rw [zPut_0]; rfl) (lr_note2 hr (by decide) 16 0 (by omega))
  | succ k ih =>
    intro i hi
    refine zx_iload_n (pc := 11) dX10_note_11 rfl rfl ?_
    refine zx_sipush (pc := 12) (v := 208) dX10_note_12 (by decide) ?_
    refine zx_icmp_ge (pc := 15) (tgt := 39) dX10_note_15 (by decide) (fun h15 => by first | exact absurd h15 (show ¬ (208 : Int32) ≤ nI i from nI_ge (a := i) (b := 208) (by omega) (by decide)) | exact absurd (show ¬ (208 : Int32) ≤ nI i from nI_ge (a := i) (b := 208) (by omega) (by decide)) h15) (fun h15 => ?_)
    refine zx_aload_n (pc := 18) dX10_note_18 rfl rfl ?_
    refine g75_17 (pc := 19) hr fl_X10_34 dX10_note_19 ?_
    refine zx_iload_n (pc := 22) dX10_note_22 rfl rfl ?_
    refine zx_aload_n (pc := 23) dX10_note_23 rfl rfl ?_
    refine g75_17 (pc := 24) hr fl_X10_34 dX10_note_24 ?_
    refine zx_iload_n (pc := 27) dX10_note_27 rfl rfl ?_
    refine zx_bipush (pc := 28) (v := 16) dX10_note_28 (by decide) ?_
    refine zx_iadd (pc := 30) dX10_note_30 ?_
    rw [show nI i + 16 = nI (i + 16) from nI_add i 16]
    refine a84 (pc := 31) hr (zix_n (by omega)) dX10_note_31 ?_
    refine s84 (pc := 32) hr (zix_n (by omega)) dX10_note_32 ?_
    refine ic_1_2_1 (pc := 33) dX10_note_33 rfl ?_
    refine zx_goto (pc := 36) (tgt := 11) dX10_note_36 (by decide) ?_
    rw [nI_1, zSf_s]
    exact ih (i + 1) (by omega)
set_option maxHeartbeats 4000000 in
theorem r_note_a {d : Nat} {z : Nat} {th : Int32} {mA : (Nat → Int32) × Int32 × Int32} {mB : Int32 × Int32 × (Nat → Int32) × (Nat → Int32) × Int32 × (Nat → Int32)} {mR : Int32 × Int32 × (Nat → Int32) × Int32 × (Nat → Int32)} {pg : (Nat → Int32)} {mq : (Nat → Int32)} {bb : (Nat → Int32)} {kp : (Nat → Int32) × (Nat → Int32)} {sn : Int32 × (Nat → Int32) × (Nat → Int32) × (Nat → Int32)} {ml : Int64} {mw : Int32 × Int32} {pn : Int32 × Int32 × Int32 × Int32} {wl : Int32 × Int32} {sp : Int32 × Int32} {rs : Int32 × Int32} {vl : (Nat → Int32)} {rho : List zCel} (hr : rho.length = 75) (hz : z < 14) : zCf yX10_note cX10_note 2 none d [.ref 75] (rho ++ encM th mA mB mR pg mq (bb, (nI z)) kp sn ml mw pn wl sp rs vl) none (rho ++ encM th mA mB mR pg mq ((zPut bb pg (16 * z) 16), (nI (z + 1))) kp sn ml mw pn wl sp rs vl) := by
  refine zC.intro (by decide) (Nat.le_of_ble_eq_true rfl) rfl ?_
  refine zx_aload_n (pc := 0) dX10_note_0 rfl rfl ?_
  refine g75_18 (pc := 1) hr fl_X10_106 dX10_note_1 ?_
  refine zx_bipush (pc := 4) (v := 14) dX10_note_4 (by decide) ?_
  refine zx_icmp_ne (pc := 6) (tgt := 49) dX10_note_6 (by decide) (fun h6 => ?_) (fun h6 => by first | exact absurd h6 (show ¬ nI z = 14 from fun q => by have := (nI_eq (a := z) (b := 14) (by omega) (by decide)).mp q; omega) | exact absurd (show ¬ nI z = 14 from fun q => by have := (nI_eq (a := z) (b := 14) (by omega) (by decide)).mp q; omega) h6)
  refine zx_iconst (pc := 49) (v := 0) dX10_note_49 (by decide) ?_
  refine st_1_2 (pc := 50) dX10_note_50 rfl ?_
  exact zx_sg (sg' := rho ++ encM th mA mB mR pg mq ((zPut bb pg (16 * z) 0), (nI z)) kp sn ml mw pn wl sp rs vl) (by rw [zPut_0]) (lr_note2 hr hz 16 0 (by omega))
set_option maxHeartbeats 4000000 in
theorem r_note_f {d : Nat}  {th : Int32} {mA : (Nat → Int32) × Int32 × Int32} {mB : Int32 × Int32 × (Nat → Int32) × (Nat → Int32) × Int32 × (Nat → Int32)} {mR : Int32 × Int32 × (Nat → Int32) × Int32 × (Nat → Int32)} {pg : (Nat → Int32)} {mq : (Nat → Int32)} {bb : (Nat → Int32)} {kp : (Nat → Int32) × (Nat → Int32)} {sn : Int32 × (Nat → Int32) × (Nat → Int32) × (Nat → Int32)} {ml : Int64} {mw : Int32 × Int32} {pn : Int32 × Int32 × Int32 × Int32} {wl : Int32 × Int32} {sp : Int32 × Int32} {rs : Int32 × Int32} {vl : (Nat → Int32)} {rho : List zCel} (hr : rho.length = 75)  : zCf yX10_note cX10_note 2 none d [.ref 75] (rho ++ encM th mA mB mR pg mq (bb, (nI 14)) kp sn ml mw pn wl sp rs vl) none (rho ++ encM th mA mB mR pg mq ((zPut (zSf bb 208) pg 208 16), (nI 14)) kp sn ml mw pn wl sp rs vl) := by
  refine zC.intro (by decide) (Nat.le_of_ble_eq_true rfl) rfl ?_
  refine zx_aload_n (pc := 0) dX10_note_0 rfl rfl ?_
  refine g75_18 (pc := 1) hr fl_X10_106 dX10_note_1 ?_
  refine zx_bipush (pc := 4) (v := 14) dX10_note_4 (by decide) ?_
  refine zx_icmp_ne (pc := 6) (tgt := 49) dX10_note_6 (by decide) (fun h6 => by first | exact absurd h6 (show ¬ ¬ nI 14 = 14 by decide) | exact absurd (show ¬ ¬ nI 14 = 14 by decide) h6) (fun h6 => ?_)
  refine zx_iconst (pc := 9) (v := 0) dX10_note_9 (by decide) ?_
  refine st_1_2 (pc := 10) dX10_note_10 rfl ?_
  exact zx_sg (sg' := rho ++ encM th mA mB mR pg mq ((zSf bb 0), (nI 14)) kp sn ml mw pn wl sp rs vl) (by rw [zSf_0]) (lr_note1 hr 208 0 (by omega))
theorem r_note {d z : Nat} {th : Int32} {mA : (Nat → Int32) × Int32 × Int32} {mB : Int32 × Int32 × (Nat → Int32) × (Nat → Int32) × Int32 × (Nat → Int32)} {mR : Int32 × Int32 × (Nat → Int32) × Int32 × (Nat → Int32)} {pg : (Nat → Int32)} {mq : (Nat → Int32)} {bb : (Nat → Int32)} {kp : (Nat → Int32) × (Nat → Int32)} {sn : Int32 × (Nat → Int32) × (Nat → Int32) × (Nat → Int32)} {ml : Int64} {mw : Int32 × Int32} {pn : Int32 × Int32 × Int32 × Int32} {wl : Int32 × Int32} {sp : Int32 × Int32} {rs : Int32 × Int32} {vl : (Nat → Int32)} {rho : List zCel} (hr : rho.length = 75) (hz : z ≤ 14) : zCf yX10_note cX10_note 2 none d [.ref 75] (rho ++ encM th mA mB mR pg mq (bb, (nI z)) kp sn ml mw pn wl sp rs vl) none (rho ++ encM th mA mB mR pg mq ((zNb bb z pg), (nI (min (z + 1) 14))) kp sn ml mw pn wl sp rs vl) := by
  rcases Nat.lt_or_ge z 14 with q | q
  · exact zcf_eq (by rw [zNb, if_neg (by omega), Nat.min_eq_left (by omega)]) (r_note_a hr q)
  · obtain rfl : z = 14 := by omega
    exact zcf_eq rfl (r_note_f hr)
set_option maxHeartbeats 4000000 in
theorem lr_goRain {d n0 h : Nat} {th : Int32} {mA : (Nat → Int32) × Int32 × Int32} {mB : Int32 × Int32 × (Nat → Int32) × (Nat → Int32) × Int32 × (Nat → Int32)} {mR : Int32 × Int32 × (Nat → Int32) × Int32 × (Nat → Int32)} {pg : (Nat → Int32)} {mq : (Nat → Int32)} {bk : (Nat → Int32) × Int32} {kp : (Nat → Int32) × (Nat → Int32)} {sn : Int32 × (Nat → Int32) × (Nat → Int32) × (Nat → Int32)} {ml : Int64} {mw : Int32 × Int32} {pn : Int32 × Int32 × Int32 × Int32} {wu : Int32} {sp : Int32 × Int32} {rs : Int32 × Int32} {vl : (Nat → Int32)} {rho : List zCel} (hr : rho.length = 75) (hh : h ≤ 8) : ∀ k i : Nat, i + k = h → zKk wu h h = zKk wu h k → ∀ o2 : Option Value, zX RX10 cX10_goRain 3 none "goRain" none (d + 1) n0 0 0 0 0 (fun r s => r = none ∧ s = rho ++ encM th mA mB mR pg mq bk kp sn ml mw pn (nI (zRa (h, wu)).1, (zRa (h, wu)).2) sp rs vl) 2 [some (.ref 75), some (.int (nI i)), o2] [] (rho ++ encM th mA mB mR pg mq bk kp sn ml mw pn (nI h, wu) sp rs vl) := by
  intro k
  induction k with
  | zero =>
    intro i hi hv o2
    obtain rfl : i = h := by omega
    refine zx_iload_n (pc := 2) dX10_goRain_2 rfl rfl ?_
    refine zx_aload_n (pc := 3) dX10_goRain_3 rfl rfl ?_
    refine g75_32 (pc := 4) hr fl_X10_142 dX10_goRain_4 ?_
    refine zx_icmp_ge (pc := 7) (tgt := 27) dX10_goRain_7 (by decide) (fun h7 => ?_) (fun h7 => by first | exact absurd h7 (show nI i ≤ nI i from Int32.le_refl _) | exact absurd (show nI i ≤ nI i from Int32.le_refl _) h7)
    refine zx_iload_n (pc := 27) dX10_goRain_27 rfl rfl ?_
    refine zx_aload_n (pc := 28) dX10_goRain_28 rfl rfl ?_
    refine g75_32 (pc := 29) hr fl_X10_142 dX10_goRain_29 ?_
    refine zx_icmp_ge (pc := 32) (tgt := 72) dX10_goRain_32 (by decide) (fun h32 => ?_) (fun h32 => by first | exact absurd h32 (show nI i ≤ nI i from Int32.le_refl _) | exact absurd (show nI i ≤ nI i from Int32.le_refl _) h32)
    exact zx_fv (pc := 72) dX10_goRain_72 rfl (Nat.le_refl _) (Nat.le_refl _) (by rw [zRa, if_neg (show ¬ zKk wu i i < i by rw [hv, zKk]; exact Nat.lt_irrefl _)])
  | succ k ih =>
    intro i hi hv o2
    have e0 : h - (k + 1) = i := by omega
    refine zx_iload_n (pc := 2) dX10_goRain_2 rfl rfl ?_
    refine zx_aload_n (pc := 3) dX10_goRain_3 rfl rfl ?_
    refine g75_32 (pc := 4) hr fl_X10_142 dX10_goRain_4 ?_
    refine zx_icmp_ge (pc := 7) (tgt := 27) dX10_goRain_7 (by decide) (fun h7 => by first | exact absurd h7 (nI_ge (show i < h by omega) (by omega)) | exact absurd (nI_ge (show i < h by omega) (by omega)) h7) (fun h7 => ?_)
    refine zx_aload_n (pc := 10) dX10_goRain_10 rfl rfl ?_
    refine g75_33 (pc := 11) hr fl_X10_145 dX10_goRain_11 ?_
    refine zx_iload_n (pc := 14) dX10_goRain_14 rfl rfl ?_
    refine zx_fS1 (pc := 15) (r_has (d := d) ) cl_X10_148 dX10_goRain_15 rfl rfl (by omega) (Nat.le_of_ble_eq_true rfl) (Nat.le_refl _) (Nat.le_refl _) ?_
    refine zx_if_eq (pc := 18) (tgt := 27) dX10_goRain_18 (by decide) (fun h18 => ?_) (fun h18 => ?_)
    · refine zx_iload_n (pc := 27) dX10_goRain_27 rfl rfl ?_
      refine zx_aload_n (pc := 28) dX10_goRain_28 rfl rfl ?_
      refine g75_32 (pc := 29) hr fl_X10_142 dX10_goRain_29 ?_
      refine zx_icmp_ge (pc := 32) (tgt := 72) dX10_goRain_32 (by decide) (fun h32 => by first | exact absurd h32 (nI_ge (show i < h by omega) (by omega)) | exact absurd (nI_ge (show i < h by omega) (by omega)) h32) (fun h32 => ?_)
      have hK : zKk wu h h = i := by rw [hv, zKk, e0, if_pos h18]
      refine zx_aload_n (pc := 35) dX10_goRain_35 rfl rfl ?_
      refine g75_33 (pc := 36) hr fl_X10_145 dX10_goRain_36 ?_
      refine zx_iconst (pc := 39) (v := 1) dX10_goRain_39 (by decide) ?_
      refine zx_iload_n (pc := 40) dX10_goRain_40 rfl rfl ?_
      refine zx_ishl (pc := 41) dX10_goRain_41 ?_
      refine zx_iconst (pc := 42) (v := 1) dX10_goRain_42 (by decide) ?_
      refine zx_isub (pc := 43) dX10_goRain_43 ?_
      refine zx_iand (pc := 44) dX10_goRain_44 ?_
      refine st_2_3 (pc := 45) dX10_goRain_45 rfl ?_
      refine zx_aload_n (pc := 46) dX10_goRain_46 rfl rfl ?_
      refine zx_iload_n (pc := 47) dX10_goRain_47 rfl rfl ?_
      refine zx_aload_n (pc := 48) dX10_goRain_48 rfl rfl ?_
      refine g75_33 (pc := 49) hr fl_X10_145 dX10_goRain_49 ?_
      refine zx_iload_n (pc := 52) dX10_goRain_52 rfl rfl ?_
      refine zx_iconst (pc := 53) (v := 1) dX10_goRain_53 (by decide) ?_
      refine zx_iadd (pc := 54) dX10_goRain_54 ?_
      refine zx_ishr (pc := 55) dX10_goRain_55 ?_
      refine zx_iload_n (pc := 56) dX10_goRain_56 rfl rfl ?_
      refine zx_ishl (pc := 57) dX10_goRain_57 ?_
      refine zx_ior (pc := 58) dX10_goRain_58 ?_
      refine u75_33 (pc := 59) hr fl_X10_145 dX10_goRain_59 ?_
      refine zx_aload_n (pc := 62) dX10_goRain_62 rfl rfl ?_
      refine zx_dup (pc := 63) dX10_goRain_63 rfl ?_
      refine g75_32 (pc := 64) hr fl_X10_142 dX10_goRain_64 ?_
      refine zx_iconst (pc := 67) (v := 1) dX10_goRain_67 (by decide) ?_
      refine zx_isub (pc := 68) dX10_goRain_68 ?_
      refine u75_32 (pc := 69) hr fl_X10_142 dX10_goRain_69 ?_
      exact zx_fv (pc := 72) dX10_goRain_72 rfl (Nat.le_refl _) (Nat.le_refl _) (by rw [zRa, if_pos (show zKk wu h h < h by omega), hK, show (1 : Int32) = nI 1 from rfl, pk_sub (show 1 ≤ h by omega)])
    · refine ic_1_3_1 (pc := 21) dX10_goRain_21 rfl ?_
      refine zx_goto (pc := 24) (tgt := 2) dX10_goRain_24 (by decide) ?_
      rw [nI_1]
      exact ih (i + 1) (by omega) (by rw [hv, zKk, e0, if_neg h18]) _
set_option maxHeartbeats 4000000 in
theorem r_goRain {d : Nat} {h : Nat} {th : Int32} {mA : (Nat → Int32) × Int32 × Int32} {mB : Int32 × Int32 × (Nat → Int32) × (Nat → Int32) × Int32 × (Nat → Int32)} {mR : Int32 × Int32 × (Nat → Int32) × Int32 × (Nat → Int32)} {pg : (Nat → Int32)} {mq : (Nat → Int32)} {bk : (Nat → Int32) × Int32} {kp : (Nat → Int32) × (Nat → Int32)} {sn : Int32 × (Nat → Int32) × (Nat → Int32) × (Nat → Int32)} {ml : Int64} {mw : Int32 × Int32} {pn : Int32 × Int32 × Int32 × Int32} {wu : Int32} {sp : Int32 × Int32} {rs : Int32 × Int32} {vl : (Nat → Int32)} {rho : List zCel} (hr : rho.length = 75) (hh : h ≤ 8) : zCf yX10_goRain cX10_goRain 3 none (d + 1) [.ref 75] (rho ++ encM th mA mB mR pg mq bk kp sn ml mw pn (nI h, wu) sp rs vl) none (rho ++ encM th mA mB mR pg mq bk kp sn ml mw pn (nI (zRa (h, wu)).1, (zRa (h, wu)).2) sp rs vl) := by
  refine zC.intro (by decide) (Nat.le_of_ble_eq_true rfl) rfl ?_
  refine zx_iconst (pc := 0) (v := 0) dX10_goRain_0 (by decide) ?_
  refine st_1_3 (pc := 1) dX10_goRain_1 rfl ?_
  exact lr_goRain hr hh h 0 (by omega) rfl _
set_option maxHeartbeats 4000000 in
theorem lr_layWall {d n0 n R : Nat} {u : Int32} {th : Int32} {mA : (Nat → Int32) × Int32 × Int32} {mB : Int32 × Int32 × (Nat → Int32) × (Nat → Int32) × Int32 × (Nat → Int32)} {mR : Int32 × Int32 × (Nat → Int32) × Int32 × (Nat → Int32)} {pg : (Nat → Int32)} {mq : (Nat → Int32)} {bk : (Nat → Int32) × Int32} {kp : (Nat → Int32) × (Nat → Int32)} {sn : Int32 × (Nat → Int32) × (Nat → Int32) × (Nat → Int32)} {ml : Int64} {mw : Int32 × Int32} {pn : Int32 × Int32 × Int32 × Int32} {sp : Int32 × Int32} {rs : Int32 × Int32} {vl : (Nat → Int32)} {rho : List zCel} (hr : rho.length = 75) (hn : n ≤ 8) (hR : R < 1000) : ∀ k i : Nat, i + k = R → zX RX10 cX10_layWall 5 none "layWall" none (d + 2) n0 0 0 0 0 (fun r s => r = none ∧ s = rho ++ encM th mA mB mR pg mq bk kp sn ml mw pn (nI (zRas (n, u) R).1, (zRas (n, u) R).2) sp rs vl) 13 [some (.ref 75), some (.int (nI n)), some (.int u), some (.int (nI R)), some (.int (nI i))] [] (rho ++ encM th mA mB mR pg mq bk kp sn ml mw pn (nI (zRas (n, u) i).1, (zRas (n, u) i).2) sp rs vl) := by
  intro k
  induction k with
  | zero =>
    intro i hi
    obtain rfl : i = R := by omega
    refine zx_iload (pc := 13) dX10_layWall_13 rfl ?_
    refine zx_iload_n (pc := 15) dX10_layWall_15 rfl rfl ?_
    refine zx_icmp_ge (pc := 16) (tgt := 29) dX10_layWall_16 (by decide) (fun h16 => ?_) (fun h16 => by first | exact absurd h16 (show nI i ≤ nI i from Int32.le_refl _) | exact absurd (show nI i ≤ nI i from Int32.le_refl _) h16)
    exact zx_fv (pc := 29) dX10_layWall_29 rfl (Nat.le_refl _) (Nat.le_refl _) rfl
  | succ k ih =>
    intro i hi
    refine zx_iload (pc := 13) dX10_layWall_13 rfl ?_
    refine zx_iload_n (pc := 15) dX10_layWall_15 rfl rfl ?_
    refine zx_icmp_ge (pc := 16) (tgt := 29) dX10_layWall_16 (by decide) (fun h16 => by first | exact absurd h16 (nI_ge (show i < R by omega) (by omega)) | exact absurd (nI_ge (show i < R by omega) (by omega)) h16) (fun h16 => ?_)
    refine zx_aload_n (pc := 19) dX10_layWall_19 rfl rfl ?_
    refine zx_fV0 (pc := 20) (r_goRain (d := d) hr (Nat.le_trans (zRas_le _ _) hn)) cl_X10_152 (p75 hr) rfl dX10_layWall_20 rfl rfl (by omega) (Nat.le_of_ble_eq_true rfl) (Nat.le_refl _) (Nat.le_refl _) ?_
    refine ic_4_5_1 (pc := 23) dX10_layWall_23 rfl ?_
    refine zx_goto (pc := 26) (tgt := 13) dX10_layWall_26 (by decide) ?_
    rw [nI_1]
    exact ih (i + 1) (by omega)
set_option maxHeartbeats 4000000 in
theorem r_layWall {d : Nat} {n R : Nat} {u : Int32} {th : Int32} {mA : (Nat → Int32) × Int32 × Int32} {mB : Int32 × Int32 × (Nat → Int32) × (Nat → Int32) × Int32 × (Nat → Int32)} {mR : Int32 × Int32 × (Nat → Int32) × Int32 × (Nat → Int32)} {pg : (Nat → Int32)} {mq : (Nat → Int32)} {bk : (Nat → Int32) × Int32} {kp : (Nat → Int32) × (Nat → Int32)} {sn : Int32 × (Nat → Int32) × (Nat → Int32) × (Nat → Int32)} {ml : Int64} {mw : Int32 × Int32} {pn : Int32 × Int32 × Int32 × Int32} {wl : Int32 × Int32} {sp : Int32 × Int32} {rs : Int32 × Int32} {vl : (Nat → Int32)} {rho : List zCel} (hr : rho.length = 75) (hn : n ≤ 8) (hR : R < 1000) : zCf yX10_layWall cX10_layWall 5 none (d + 2) [.ref 75, .int (nI n), .int u, .int (nI R)] (rho ++ encM th mA mB mR pg mq bk kp sn ml mw pn wl sp rs vl) none (rho ++ encM th mA mB mR pg mq bk kp sn ml mw pn (nI (zRas (n, u) R).1, (zRas (n, u) R).2) sp rs vl) := by
  refine zC.intro (by decide) (Nat.le_of_ble_eq_true rfl) rfl ?_
  refine zx_aload_n (pc := 0) dX10_layWall_0 rfl rfl ?_
  refine zx_iload_n (pc := 1) dX10_layWall_1 rfl rfl ?_
  refine u75_32 (pc := 2) hr fl_X10_142 dX10_layWall_2 ?_
  refine zx_aload_n (pc := 5) dX10_layWall_5 rfl rfl ?_
  refine zx_iload_n (pc := 6) dX10_layWall_6 rfl rfl ?_
  refine u75_33 (pc := 7) hr fl_X10_145 dX10_layWall_7 ?_
  refine zx_iconst (pc := 10) (v := 0) dX10_layWall_10 (by decide) ?_
  refine st_4_5 (pc := 11) dX10_layWall_11 rfl ?_
  exact lr_layWall hr hn hR R 0 (by omega)
theorem lr_ways {d n0 N : Nat} {sg : List zCel} (hN : N < 1000) : ∀ k i : Nat, i + k = N - 1 → zX RX10 cX10_ways 3 (some .int) "ways" none d n0 0 0 0 0 (fun r s => r = some (.int (zWz (N - 1))) ∧ s = sg) 4 [some (.int (nI N)), some (.int (zWz i)), some (.int (nI (i + 2)))] [] sg := by
  intro k
  induction k with
  | zero =>
    intro i hi
    obtain rfl : i = N - 1 := by omega
    refine zx_iload_n (pc := 4) dX10_ways_4 rfl rfl ?_
    refine zx_iload_n (pc := 5) dX10_ways_5 rfl rfl ?_
    refine zx_icmp_gt (pc := 6) (tgt := 19) dX10_ways_6 (by decide) (fun h6 => ?_) (fun h6 => by first | exact absurd h6 (show nI N < nI (N - 1 + 2) from nI_lt (by omega) (by omega)) | exact absurd (show nI N < nI (N - 1 + 2) from nI_lt (by omega) (by omega)) h6)
    refine zx_iload_n (pc := 19) dX10_ways_19 rfl rfl ?_
    exact zx_fi (pc := 20) dX10_ways_20 rfl rfl (Nat.le_refl _) (Nat.le_refl _) rfl rfl
  | succ k ih =>
    intro i hi
    refine zx_iload_n (pc := 4) dX10_ways_4 rfl rfl ?_
    refine zx_iload_n (pc := 5) dX10_ways_5 rfl rfl ?_
    refine zx_icmp_gt (pc := 6) (tgt := 19) dX10_ways_6 (by decide) (fun h6 => by first | exact absurd h6 (nI_nlt (show i + 2 ≤ N by omega) (by omega)) | exact absurd (nI_nlt (show i + 2 ≤ N by omega) (by omega)) h6) (fun h6 => ?_)
    refine zx_iload_n (pc := 9) dX10_ways_9 rfl rfl ?_
    refine zx_iload_n (pc := 10) dX10_ways_10 rfl rfl ?_
    refine zx_imul (pc := 11) dX10_ways_11 ?_
    refine st_1_3 (pc := 12) dX10_ways_12 rfl ?_
    refine ic_2_3_1 (pc := 13) dX10_ways_13 rfl ?_
    refine zx_goto (pc := 16) (tgt := 4) dX10_ways_16 (by decide) ?_
    rw [nI_1]
    exact ih (i + 1) (by omega)
set_option maxHeartbeats 4000000 in
theorem r_ways {d : Nat} {N : Nat} {sg : List zCel} (hN : N < 1000) : zCf yX10_ways cX10_ways 3 (some .int) d [.int (nI N)] (sg) (some (.int (zWz (N - 1)))) (sg) := by
  refine zC.intro (by decide) (Nat.le_of_ble_eq_true rfl) rfl ?_
  refine zx_iconst (pc := 0) (v := 1) dX10_ways_0 (by decide) ?_
  refine st_1_3 (pc := 1) dX10_ways_1 rfl ?_
  refine zx_iconst (pc := 2) (v := 2) dX10_ways_2 (by decide) ?_
  refine st_2_3 (pc := 3) dX10_ways_3 rfl ?_
  exact lr_ways hN (N - 1) 0 (by omega)
theorem lr_div {d n0 g : Nat} {p q : Int32} {sg : List zCel} : ∀ k a b : Nat, b < k → a < 2 ^ 31 → b < 2 ^ 31 → g = Nat.gcd a b → ∀ o4 : Option Value, zX RX10 cX10_divisor 5 (some .int) "divisor" none d n0 0 0 0 0 (fun r s => r = some (.int (nI g)) ∧ s = sg) 13 [some (.int p), some (.int q), some (.int (nI a)), some (.int (nI b)), o4] [] sg := by
  intro k
  induction k with
  | zero =>
    intro a b h
    exact absurd h (Nat.not_lt_zero _)
  | succ k ih =>
    intro a b hk ha hb hg o4
    refine zx_iload_n (pc := 13) dX10_divisor_13 rfl rfl ?_
    refine zx_if_eq (pc := 14) (tgt := 30) dX10_divisor_14 (by decide) (fun h14 => ?_) (fun h14 => ?_)
    · refine zx_iload_n (pc := 30) dX10_divisor_30 rfl rfl ?_
      exact zx_fi (pc := 31) dX10_divisor_31 rfl rfl (Nat.le_refl _) (Nat.le_refl _) (by rw [hg, (nI_eq hb (by decide)).mp (h14 : nI b = nI 0), Nat.gcd_zero_right]) rfl
    · have hb0 : b ≠ 0 := fun e => h14 (by rw [e]; rfl)
      refine zx_iload_n (pc := 17) dX10_divisor_17 rfl rfl ?_
      refine zx_iload_n (pc := 18) dX10_divisor_18 rfl rfl ?_
      refine zx_irem (pc := 19) dX10_divisor_19 h14 ?_
      rw [pk_rem ha (by omega) hb]
      refine st_4_5 (pc := 20) dX10_divisor_20 rfl ?_
      refine zx_iload_n (pc := 22) dX10_divisor_22 rfl rfl ?_
      refine st_2_5 (pc := 23) dX10_divisor_23 rfl ?_
      refine zx_iload (pc := 24) dX10_divisor_24 rfl ?_
      refine st_3_5 (pc := 26) dX10_divisor_26 rfl ?_
      refine zx_goto (pc := 27) (tgt := 13) dX10_divisor_27 (by decide) ?_
      have hm : a % b < b := Nat.mod_lt _ (by omega)
      exact ih b (a % b) (by omega) hb (by omega) (by rw [hg, Nat.gcd_comm a b, Nat.gcd_rec b a, Nat.gcd_comm]) _
set_option maxHeartbeats 4000000 in
theorem r_div {d : Nat} {a b : Nat} {x : Int32} {sg : List zCel} (hx : (if 0 ≤ x then x else 0 - x) = nI a) (ha : a < 2 ^ 31) (hb : b < 2 ^ 31) : zCf yX10_divisor cX10_divisor 5 (some .int) d [.int x, .int (nI b)] (sg) (some (.int (nI (Nat.gcd a b)))) (sg) := by
  refine zC.intro (by decide) (Nat.le_of_ble_eq_true rfl) rfl ?_
  refine zx_cut 10 (fun v => v = nI a) (fun v ev => ?_) (fun key => ?_)
  · subst ev
    refine st_2_5 (pc := 10) dX10_divisor_10 rfl ?_
    refine zx_iload_n (pc := 11) dX10_divisor_11 rfl rfl ?_
    refine st_3_5 (pc := 12) dX10_divisor_12 rfl ?_
    exact lr_div (b + 1) a b (by omega) ha hb rfl _
  · refine zx_iload_n (pc := 0) dX10_divisor_0 rfl rfl ?_
    refine zx_if_ge (pc := 1) (tgt := 9) dX10_divisor_1 (by decide) (fun h1 => ?_) (fun h1 => ?_)
    · refine zx_iload_n (pc := 9) dX10_divisor_9 rfl rfl ?_
      exact key _ (by rw [← hx]; first | rw [if_pos h1] | rw [if_neg h1, Int32.zero_sub])
    · refine zx_iload_n (pc := 4) dX10_divisor_4 rfl rfl ?_
      refine zx_ineg (pc := 5) dX10_divisor_5 ?_
      refine zx_goto (pc := 6) (tgt := 10) dX10_divisor_6 (by decide) ?_
      exact key _ (by rw [← hx]; first | rw [if_pos h1] | rw [if_neg h1, Int32.zero_sub])
set_option maxHeartbeats 4000000 in
theorem r_fraction {d : Nat} {a b : Nat} {x z : Int32} {sg : List zCel} (hx : (if 0 ≤ x then x else 0 - x) = nI a) (ha : a < 2 ^ 31) (hb : b < 2 ^ 31) (h0 : 0 < b) : zCf yX10_fraction cX10_fraction 4 (some .int) (d + 1) [.int x, .int (nI b), .int z] (sg) (some (.int ((if z = 0 then nI b else x) / nI (Nat.gcd a b)))) (sg) := by
  have hg : ¬ nI (Nat.gcd a b) = 0 := nI_ne0 (Nat.gcd_pos_of_pos_right a h0) (Nat.lt_of_le_of_lt (Nat.gcd_le_right a h0) hb)
  refine zC.intro (by decide) (Nat.le_of_ble_eq_true rfl) rfl ?_
  refine zx_iload_n (pc := 0) dX10_fraction_0 rfl rfl ?_
  refine zx_iload_n (pc := 1) dX10_fraction_1 rfl rfl ?_
  refine zx_fS1 (pc := 2) (r_div (d := d) hx ha hb) cl_X10_199 dX10_fraction_2 rfl rfl (by omega) (Nat.le_of_ble_eq_true rfl) (Nat.le_refl _) (Nat.le_refl _) ?_
  refine st_3_4 (pc := 5) dX10_fraction_5 rfl ?_
  refine zx_iload_n (pc := 6) dX10_fraction_6 rfl rfl ?_
  refine zx_if_eq (pc := 7) (tgt := 16) dX10_fraction_7 (by decide) (fun h7 => ?_) (fun h7 => ?_)
  · refine zx_iload_n (pc := 16) dX10_fraction_16 rfl rfl ?_
    refine zx_iload_n (pc := 17) dX10_fraction_17 rfl rfl ?_
    refine zx_idiv (pc := 18) dX10_fraction_18 hg ?_
    exact zx_fi (pc := 19) dX10_fraction_19 rfl rfl (Nat.le_refl _) (Nat.le_refl _) (by first | (simp only [h7, reduceIte, not_true_eq_false, not_false_eq_true]; done) | (simp [h7]; done)) rfl
  · refine zx_iload_n (pc := 10) dX10_fraction_10 rfl rfl ?_
    refine zx_iload_n (pc := 11) dX10_fraction_11 rfl rfl ?_
    refine zx_idiv (pc := 12) dX10_fraction_12 hg ?_
    refine zx_goto (pc := 13) (tgt := 19) dX10_fraction_13 (by decide) ?_
    exact zx_fi (pc := 19) dX10_fraction_19 rfl rfl (Nat.le_refl _) (Nat.le_refl _) (by first | (simp only [h7, reduceIte, not_true_eq_false, not_false_eq_true]; done) | (simp [h7]; done)) rfl
set_option maxHeartbeats 4000000 in
theorem r_missing {d : Nat} {x y : Int32} {sg : List zCel}  : zCf yX10_missing cX10_missing 2 (some .int) d [.int x, .int y] (sg) (some (.int (zMs x y))) (sg) := by
  refine zC.intro (by decide) (Nat.le_of_ble_eq_true rfl) rfl ?_
  refine zx_iload_n (pc := 0) dX10_missing_0 rfl rfl ?_
  refine zx_iload_n (pc := 1) dX10_missing_1 rfl rfl ?_
  refine zx_icmp_le (pc := 2) (tgt := 11) dX10_missing_2 (by decide) (fun h2 => ?_) (fun h2 => ?_)
  · refine zx_iconst (pc := 11) (v := 0) dX10_missing_11 (by decide) ?_
    exact zx_fi (pc := 12) dX10_missing_12 rfl rfl (Nat.le_refl _) (Nat.le_refl _) (by first | (simp only [zMs, h2, reduceIte, not_true_eq_false, not_false_eq_true]; done) | (simp [zMs, h2]; done)) rfl
  · refine zx_iload_n (pc := 5) dX10_missing_5 rfl rfl ?_
    refine zx_iload_n (pc := 6) dX10_missing_6 rfl rfl ?_
    refine zx_isub (pc := 7) dX10_missing_7 ?_
    refine zx_goto (pc := 8) (tgt := 12) dX10_missing_8 (by decide) ?_
    exact zx_fi (pc := 12) dX10_missing_12 rfl rfl (Nat.le_refl _) (Nat.le_refl _) (by first | (simp only [zMs, h2, reduceIte, not_true_eq_false, not_false_eq_true]; done) | (simp [zMs, h2]; done)) rfl
