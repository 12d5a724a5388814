set_option maxHeartbeats 4000000 in
theorem q_write_bad {d : Nat} {x : Int32} {tx : (Nat → Int32) × Int32} {gg : (Nat → Int32) × (Nat → Int32) × (Nat → Int32) × (Nat → Int32) × Int32 × Int32 × Int32} {nw : (Nat → Int32) × (Nat → Int32) × Int32 × Int32 × Int32 × Int32 × Int32 × Int32 × Int32} {tr : (Nat → Int32) × (Nat → Int32) × Int32 × Int32 × Int32 × Int32 × Int32 × Int32 × Int32} {wk : (Nat → Int32) × Int32 × Int32 × Int32} {pl : (Nat → Int32) × Int32 × Int32 × Int32 × Int32 × Int32} {ac : (Nat → zStt) × Int32 × Int32} {sl : (Nat → zStt) × (Nat → Int32)} {si : (Nat → Int32) × (Nat → Int32) × (Nat → Int32) × Int32} {sd : Int64} {tau : List zCel} (hb : x < 0 ∨ ¬ x ≤ 255) : zCf yX9_write cX9_write 2 (some .int) (d + 1) [.ref 0, .int x] (encC tx gg nw tr wk pl ac sl si sd ++ tau) (some (.int (-2))) (encC tx gg nw tr wk pl ac sl si sd ++ tau) := by
  refine zC.intro (by decide) (Nat.le_of_ble_eq_true rfl) rfl ?_
  refine zx_iload_n (pc := 0) dX9_write_0 rfl rfl ?_
  refine zx_if_lt (pc := 1) (tgt := 11) dX9_write_1 (by decide) (fun h1 => ?_) (fun h1 => ?_)
  · refine zx_bipush (pc := 11) (v := -2) dX9_write_11 (by decide) ?_
    exact zx_fi (pc := 13) dX9_write_13 rfl rfl (Nat.le_refl _) (Nat.le_refl _) rfl rfl
  · refine zx_iload_n (pc := 4) dX9_write_4 rfl rfl ?_
    refine zx_sipush (pc := 5) (v := 255) dX9_write_5 (by decide) ?_
    refine zx_icmp_le (pc := 8) (tgt := 14) dX9_write_8 (by decide) (fun h8 => by first | exact absurd h8 (show ¬ x ≤ 255 by rcases hb with q | q; exact absurd q h1; exact q) | exact absurd (show ¬ x ≤ 255 by rcases hb with q | q; exact absurd q h1; exact q) h8) (fun h8 => ?_)
    refine zx_bipush (pc := 11) (v := -2) dX9_write_11 (by decide) ?_
    exact zx_fi (pc := 13) dX9_write_13 rfl rfl (Nat.le_refl _) (Nat.le_refl _) rfl rfl
set_option maxHeartbeats 4000000 in
theorem q_write_ok {d : Nat} {T : Nat} {x : Int32} {tb : (Nat → Int32)} {gg : (Nat → Int32) × (Nat → Int32) × (Nat → Int32) × (Nat → Int32) × Int32 × Int32 × Int32} {nw : (Nat → Int32) × (Nat → Int32) × Int32 × Int32 × Int32 × Int32 × Int32 × Int32 × Int32} {tr : (Nat → Int32) × (Nat → Int32) × Int32 × Int32 × Int32 × Int32 × Int32 × Int32 × Int32} {wk : (Nat → Int32) × Int32 × Int32 × Int32} {pl : (Nat → Int32) × Int32 × Int32 × Int32 × Int32 × Int32} {ac : (Nat → zStt) × Int32 × Int32} {sl : (Nat → zStt) × (Nat → Int32)} {si : (Nat → Int32) × (Nat → Int32) × (Nat → Int32) × Int32} {sd : Int64} {tau : List zCel} (g0 : ¬ x < 0) (g1 : x ≤ 255) (hT : T < 40) : zCf yX9_write cX9_write 2 (some .int) (d + 1) [.ref 0, .int x] (encC (tb, (nI T)) gg nw tr wk pl ac sl si sd ++ tau) (some (.int (nI (T + 1)))) (encC ((upd tb T x), (nI (T + 1))) gg nw tr wk pl ac sl si sd ++ tau) := by
  refine zC.intro (by decide) (Nat.le_of_ble_eq_true rfl) rfl ?_
  refine zx_iload_n (pc := 0) dX9_write_0 rfl rfl ?_
  refine zx_if_lt (pc := 1) (tgt := 11) dX9_write_1 (by decide) (fun h1 => by first | exact absurd h1 g0 | exact absurd g0 h1) (fun h1 => ?_)
  refine zx_iload_n (pc := 4) dX9_write_4 rfl rfl ?_
  refine zx_sipush (pc := 5) (v := 255) dX9_write_5 (by decide) ?_
  refine zx_icmp_le (pc := 8) (tgt := 14) dX9_write_8 (by decide) (fun h8 => ?_) (fun h8 => by first | exact absurd h8 g1 | exact absurd g1 h8)
  refine zx_aload_n (pc := 14) dX9_write_14 rfl rfl ?_
  refine g0_0 (pc := 15) fl_X9_10 dX9_write_15 ?_
  refine zx_iload_n (pc := 18) dX9_write_18 rfl rfl ?_
  refine zx_fV1 (pc := 19) (k_append_y (d := d) hT) cl_X9_68 p1 rfl dX9_write_19 rfl rfl (by omega) (Nat.le_of_ble_eq_true rfl) (Nat.le_refl _) (Nat.le_refl _) ?_
  refine zx_if_eq (pc := 22) (tgt := 35) dX9_write_22 (by decide) (fun h22 => by first | exact absurd h22 (show ¬ (1 : Int32) = 0 by decide) | exact absurd (show ¬ (1 : Int32) = 0 by decide) h22) (fun h22 => ?_)
  refine zx_aload_n (pc := 25) dX9_write_25 rfl rfl ?_
  refine g0_0 (pc := 26) fl_X9_10 dX9_write_26 ?_
  refine g1_1 (pc := 29) fl_X9_72 dX9_write_29 ?_
  refine zx_goto (pc := 32) (tgt := 37) dX9_write_32 (by decide) ?_
  exact zx_fi (pc := 37) dX9_write_37 rfl rfl (Nat.le_refl _) (Nat.le_refl _) rfl rfl
set_option maxHeartbeats 4000000 in
theorem q_write_full {d : Nat} {x : Int32} {tb : (Nat → Int32)} {gg : (Nat → Int32) × (Nat → Int32) × (Nat → Int32) × (Nat → Int32) × Int32 × Int32 × Int32} {nw : (Nat → Int32) × (Nat → Int32) × Int32 × Int32 × Int32 × Int32 × Int32 × Int32 × Int32} {tr : (Nat → Int32) × (Nat → Int32) × Int32 × Int32 × Int32 × Int32 × Int32 × Int32 × Int32} {wk : (Nat → Int32) × Int32 × Int32 × Int32} {pl : (Nat → Int32) × Int32 × Int32 × Int32 × Int32 × Int32} {ac : (Nat → zStt) × Int32 × Int32} {sl : (Nat → zStt) × (Nat → Int32)} {si : (Nat → Int32) × (Nat → Int32) × (Nat → Int32) × Int32} {sd : Int64} {tau : List zCel} (g0 : ¬ x < 0) (g1 : x ≤ 255) : zCf yX9_write cX9_write 2 (some .int) (d + 1) [.ref 0, .int x] (encC (tb, (nI 40)) gg nw tr wk pl ac sl si sd ++ tau) (some (.int (-4))) (encC (tb, (nI 40)) gg nw tr wk pl ac sl si sd ++ tau) := by
  refine zC.intro (by decide) (Nat.le_of_ble_eq_true rfl) rfl ?_
  refine zx_iload_n (pc := 0) dX9_write_0 rfl rfl ?_
  refine zx_if_lt (pc := 1) (tgt := 11) dX9_write_1 (by decide) (fun h1 => by first | exact absurd h1 g0 | exact absurd g0 h1) (fun h1 => ?_)
  refine zx_iload_n (pc := 4) dX9_write_4 rfl rfl ?_
  refine zx_sipush (pc := 5) (v := 255) dX9_write_5 (by decide) ?_
  refine zx_icmp_le (pc := 8) (tgt := 14) dX9_write_8 (by decide) (fun h8 => ?_) (fun h8 => by first | exact absurd h8 g1 | exact absurd g1 h8)
  refine zx_aload_n (pc := 14) dX9_write_14 rfl rfl ?_
  refine g0_0 (pc := 15) fl_X9_10 dX9_write_15 ?_
  refine zx_iload_n (pc := 18) dX9_write_18 rfl rfl ?_
  refine zx_fV1 (pc := 19) (k_append_n (d := d) ) cl_X9_68 p1 rfl dX9_write_19 rfl rfl (by omega) (Nat.le_of_ble_eq_true rfl) (Nat.le_refl _) (Nat.le_refl _) ?_
  refine zx_if_eq (pc := 22) (tgt := 35) dX9_write_22 (by decide) (fun h22 => ?_) (fun h22 => by first | exact absurd h22 (show (0 : Int32) = 0 from rfl) | exact absurd (show (0 : Int32) = 0 from rfl) h22)
  refine zx_bipush (pc := 35) (v := -4) dX9_write_35 (by decide) ?_
  exact zx_fi (pc := 37) dX9_write_37 rfl rfl (Nat.le_refl _) (Nat.le_refl _) rfl rfl
set_option maxHeartbeats 4000000 in
theorem q_wipe {d : Nat}  {tb : (Nat → Int32)} {tl : Int32} {gg : (Nat → Int32) × (Nat → Int32) × (Nat → Int32) × (Nat → Int32) × Int32 × Int32 × Int32} {nw : (Nat → Int32) × (Nat → Int32) × Int32 × Int32 × Int32 × Int32 × Int32 × Int32 × Int32} {tr : (Nat → Int32) × (Nat → Int32) × Int32 × Int32 × Int32 × Int32 × Int32 × Int32 × Int32} {wk : (Nat → Int32) × Int32 × Int32 × Int32} {pl : (Nat → Int32) × Int32 × Int32 × Int32 × Int32 × Int32} {ac : (Nat → zStt) × Int32 × Int32} {sl : (Nat → zStt) × (Nat → Int32)} {si : (Nat → Int32) × (Nat → Int32) × (Nat → Int32) × Int32} {sd : Int64} {tau : List zCel}  : zCf yX9_wipe cX9_wipe 2 (some .int) d [.ref 0] (encC (tb, tl) gg nw tr wk pl ac sl si sd ++ tau) (some (.int (tl))) (encC (tb, 0) gg nw tr wk pl ac sl si sd ++ tau) := by
  refine zC.intro (by decide) (Nat.le_of_ble_eq_true rfl) rfl ?_
  refine zx_aload_n (pc := 0) dX9_wipe_0 rfl rfl ?_
  refine g0_0 (pc := 1) fl_X9_10 dX9_wipe_1 ?_
  refine g1_1 (pc := 4) fl_X9_72 dX9_wipe_4 ?_
  refine st_1_2 (pc := 7) dX9_wipe_7 rfl ?_
  refine zx_aload_n (pc := 8) dX9_wipe_8 rfl rfl ?_
  refine g0_0 (pc := 9) fl_X9_10 dX9_wipe_9 ?_
  refine zx_iconst (pc := 12) (v := 0) dX9_wipe_12 (by decide) ?_
  refine u1_1 (pc := 13) fl_X9_72 dX9_wipe_13 ?_
  refine zx_iload_n (pc := 16) dX9_wipe_16 rfl rfl ?_
  exact zx_fi (pc := 17) dX9_wipe_17 rfl rfl (Nat.le_refl _) (Nat.le_refl _) rfl rfl
set_option maxHeartbeats 4000000 in
theorem q_fault {d : Nat} {T : Nat} {tb : (Nat → Int32)} {gg : (Nat → Int32) × (Nat → Int32) × (Nat → Int32) × (Nat → Int32) × Int32 × Int32 × Int32} {nw : (Nat → Int32) × (Nat → Int32) × Int32 × Int32 × Int32 × Int32 × Int32 × Int32 × Int32} {tr : (Nat → Int32) × (Nat → Int32) × Int32 × Int32 × Int32 × Int32 × Int32 × Int32 × Int32} {wk : (Nat → Int32) × Int32 × Int32 × Int32} {pl : (Nat → Int32) × Int32 × Int32 × Int32 × Int32 × Int32} {ac : (Nat → zStt) × Int32 × Int32} {sl : (Nat → zStt) × (Nat → Int32)} {si : (Nat → Int32) × (Nat → Int32) × (Nat → Int32) × Int32} {sd : Int64} {tau : List zCel} (hT : T ≤ 40) : zCf yX9_fault cX9_fault 1 (some .int) (d + 5) [.ref 0] (encC (tb, (nI T)) gg nw tr wk pl ac sl si sd ++ tau) (some (.int (zFF tb T T))) (encC (tb, (nI T)) gg nw tr wk pl ac sl si sd ++ tau) := by
  refine zC.intro (by decide) (Nat.le_of_ble_eq_true rfl) rfl ?_
  refine zx_aload_n (pc := 0) dX9_fault_0 rfl rfl ?_
  refine g0_0 (pc := 1) fl_X9_10 dX9_fault_1 ?_
  refine zx_fV1 (pc := 4) (k_firstFault (d := d) hT) cl_X9_76 p1 rfl dX9_fault_4 rfl rfl (by omega) (Nat.le_of_ble_eq_true rfl) (Nat.le_refl _) (Nat.le_refl _) ?_
  exact zx_fi (pc := 7) dX9_fault_7 rfl rfl (Nat.le_refl _) (Nat.le_refl _) rfl rfl
set_option maxHeartbeats 4000000 in
theorem q_pit_late {d : Nat} {T : Nat} {tb : (Nat → Int32)} {gg : (Nat → Int32) × (Nat → Int32) × (Nat → Int32) × (Nat → Int32) × Int32 × Int32 × Int32} {nw : (Nat → Int32) × (Nat → Int32) × Int32 × Int32 × Int32 × Int32 × Int32 × Int32 × Int32} {tr : (Nat → Int32) × (Nat → Int32) × Int32 × Int32 × Int32 × Int32 × Int32 × Int32 × Int32} {wk : (Nat → Int32) × Int32 × Int32 × Int32} {pl : (Nat → Int32) × Int32 × Int32 × Int32 × Int32 × Int32} {ac : (Nat → zStt) × Int32 × Int32} {sl : (Nat → zStt) × (Nat → Int32)} {si : (Nat → Int32) × (Nat → Int32) × (Nat → Int32) × Int32} {sd : Int64} {tau : List zCel} (hT : T ≤ 40) (hf : ¬ zFF tb T T = -9) : zCf yX9_pit cX9_pit 1 (some .int) (d + 5) [.ref 0] (encC (tb, (nI T)) gg nw tr wk pl ac sl si sd ++ tau) (some (.int (-3))) (encC (tb, (nI T)) gg nw tr wk pl ac sl si sd ++ tau) := by
  refine zC.intro (by decide) (Nat.le_of_ble_eq_true rfl) rfl ?_
  refine zx_aload_n (pc := 0) dX9_pit_0 rfl rfl ?_
  refine g0_0 (pc := 1) fl_X9_10 dX9_pit_1 ?_
  refine zx_fV1 (pc := 4) (k_firstFault (d := d) hT) cl_X9_76 p1 rfl dX9_pit_4 rfl rfl (by omega) (Nat.le_of_ble_eq_true rfl) (Nat.le_refl _) (Nat.le_refl _) ?_
  refine zx_bipush (pc := 7) (v := -9) dX9_pit_7 (by decide) ?_
  refine zx_icmp_eq (pc := 9) (tgt := 15) dX9_pit_9 (by decide) (fun h9 => by first | exact absurd h9 hf | exact absurd hf h9) (fun h9 => ?_)
  refine zx_bipush (pc := 12) (v := -3) dX9_pit_12 (by decide) ?_
  exact zx_fi (pc := 14) dX9_pit_14 rfl rfl (Nat.le_refl _) (Nat.le_refl _) rfl rfl
set_option maxHeartbeats 4000000 in
theorem q_pit_ok {d : Nat} {Z : Nat} {tb : (Nat → Int32)} {gs : (Nat → Int32)} {gk : (Nat → Int32)} {gf : (Nat → Int32)} {ga : (Nat → Int32)} {gh : Int32} {gd : Int32} {gc : Int32} {nt : (Nat → Int32)} {ns : (Nat → Int32)} {n2 : Int32} {n3 : Int32} {n4 : Int32} {n5 : Int32} {n6 : Int32} {n7 : Int32} {n8 : Int32} {tr : (Nat → Int32) × (Nat → Int32) × Int32 × Int32 × Int32 × Int32 × Int32 × Int32 × Int32} {wk : (Nat → Int32) × Int32 × Int32 × Int32} {pl : (Nat → Int32) × Int32 × Int32 × Int32 × Int32 × Int32} {ab : (Nat → zStt)} {an : Int32} {az : Int32} {sk : (Nat → zStt)} {su : (Nat → Int32)} {si : (Nat → Int32) × (Nat → Int32) × (Nat → Int32) × Int32} {sd : Int64} {tau : List zCel} (hT : (2 + 3 * Z) ≤ 40) (hf : zFF tb (2 + 3 * Z) (2 + 3 * Z) = -9) (h5 : zCn tb 72 Z ≤ 5) (h3 : zCk tb Z ≤ 3) : zCf yX9_pit cX9_pit 1 (some .int) (d + 5) [.ref 0] (encC (tb, (nI (2 + 3 * Z))) (gs, gk, gf, ga, gh, gd, gc) (nt, ns, n2, n3, n4, n5, n6, n7, n8) tr wk pl (ab, an, az) (sk, su) si sd ++ tau) (some (.int (10 * nI (zCn tb 72 Z) + nI (zCk tb Z)))) (encC (tb, (nI (2 + 3 * Z))) ((zGq tb (gs, gk, gf, ga) Z).1, (zGq tb (gs, gk, gf, ga) Z).2.1, (zGq tb (gs, gk, gf, ga) Z).2.2.1, (zGq tb (gs, gk, gf, ga) Z).2.2.2, (nI (zCn tb 72 Z)), (nI (zCk tb Z)), (tb 1 - 48)) ((zFil nt 0 5), (va_cpy (zGq tb (gs, gk, gf, ga) Z).2.2.2 ns 0 0 3), 0, 0, 0, 0, 1, 0, 0) tr wk pl (ab, an, 0) (sk, (upd (upd su 0 0) 1 0)) si sd ++ tau) := by
  refine zC.intro (by decide) (Nat.le_of_ble_eq_true rfl) rfl ?_
  refine zx_aload_n (pc := 0) dX9_pit_0 rfl rfl ?_
  refine g0_0 (pc := 1) fl_X9_10 dX9_pit_1 ?_
  refine zx_fV1 (pc := 4) (k_firstFault (d := d) hT) cl_X9_76 p1 rfl dX9_pit_4 rfl rfl (by omega) (Nat.le_of_ble_eq_true rfl) (Nat.le_refl _) (Nat.le_refl _) ?_
  refine zx_bipush (pc := 7) (v := -9) dX9_pit_7 (by decide) ?_
  refine zx_icmp_eq (pc := 9) (tgt := 15) dX9_pit_9 (by decide) (fun h9 => ?_) (fun h9 => by first | exact absurd h9 hf | exact absurd hf h9)
  refine zx_aload_n (pc := 15) dX9_pit_15 rfl rfl ?_
  refine g0_1 (pc := 16) fl_X9_19 dX9_pit_16 ?_
  refine zx_aload_n (pc := 19) dX9_pit_19 rfl rfl ?_
  refine g0_0 (pc := 20) fl_X9_10 dX9_pit_20 ?_
  refine zx_fV0 (pc := 23) (k_readFrom (d := d + 1) hT h5 h3) cl_X9_80 p3 rfl dX9_pit_23 rfl rfl (by omega) (Nat.le_of_ble_eq_true rfl) (Nat.le_refl _) (Nat.le_refl _) ?_
  refine zx_aload_n (pc := 26) dX9_pit_26 rfl rfl ?_
  refine g0_2 (pc := 27) fl_X9_26 dX9_pit_27 ?_
  refine zx_aload_n (pc := 30) dX9_pit_30 rfl rfl ?_
  refine g0_1 (pc := 31) fl_X9_19 dX9_pit_31 ?_
  refine zx_fV0 (pc := 34) (k_beginAnew (d := d + 3) ) cl_X9_84 p8 rfl dX9_pit_34 rfl rfl (by omega) (Nat.le_of_ble_eq_true rfl) (Nat.le_refl _) (Nat.le_refl _) ?_
  refine zx_aload_n (pc := 37) dX9_pit_37 rfl rfl ?_
  refine g0_6 (pc := 38) fl_X9_50 dX9_pit_38 ?_
  refine zx_fV0 (pc := 41) (k_actsForget (d := d + 4) ) cl_X9_88 p18 rfl dX9_pit_41 rfl rfl (by omega) (Nat.le_of_ble_eq_true rfl) (Nat.le_refl _) (Nat.le_refl _) ?_
  refine zx_aload_n (pc := 44) dX9_pit_44 rfl rfl ?_
  refine g0_7 (pc := 45) fl_X9_57 dX9_pit_45 ?_
  refine zx_fV0 (pc := 48) (k_slotsForget (d := d + 4) ) cl_X9_91 p62 rfl dX9_pit_48 rfl rfl (by omega) (Nat.le_of_ble_eq_true rfl) (Nat.le_refl _) (Nat.le_refl _) ?_
  refine zx_bipush (pc := 51) (v := 10) dX9_pit_51 (by decide) ?_
  refine zx_aload_n (pc := 53) dX9_pit_53 rfl rfl ?_
  refine g0_1 (pc := 54) fl_X9_19 dX9_pit_54 ?_
  refine g3_4 (pc := 57) fl_X9_92 dX9_pit_57 ?_
  refine zx_imul (pc := 60) dX9_pit_60 ?_
  refine zx_aload_n (pc := 61) dX9_pit_61 rfl rfl ?_
  refine g0_1 (pc := 62) fl_X9_19 dX9_pit_62 ?_
  refine g3_5 (pc := 65) fl_X9_95 dX9_pit_65 ?_
  refine zx_iadd (pc := 68) dX9_pit_68 ?_
  exact zx_fi (pc := 69) dX9_pit_69 rfl rfl (Nat.le_refl _) (Nat.le_refl _) rfl rfl
theorem sw_X9_about_1 {scr : Option (Nat × (Nat → Int32))} {d n0 mc ms kc ks : Nat} {Q : Option Value → List zCel → Prop} {L : List (Option Value)} {st : List Value} {sg : List zCel} {x : Int32} (k0 : x = 0 → zX RX9 cX9_about 2 (some .int) "about" scr d n0 mc ms kc ks Q 72 L st sg) (k1 : x = 1 → zX RX9 cX9_about 2 (some .int) "about" scr d n0 mc ms kc ks Q 80 L st sg) (k2 : x = 2 → zX RX9 cX9_about 2 (some .int) "about" scr d n0 mc ms kc ks Q 88 L st sg) (k3 : x = 3 → zX RX9 cX9_about 2 (some .int) "about" scr d n0 mc ms kc ks Q 96 L st sg) (k4 : x = 4 → zX RX9 cX9_about 2 (some .int) "about" scr d n0 mc ms kc ks Q 104 L st sg) (k5 : x = 5 → zX RX9 cX9_about 2 (some .int) "about" scr d n0 mc ms kc ks Q 112 L st sg) (k6 : x = 6 → zX RX9 cX9_about 2 (some .int) "about" scr d n0 mc ms kc ks Q 120 L st sg) (k7 : x = 7 → zX RX9 cX9_about 2 (some .int) "about" scr d n0 mc ms kc ks Q 128 L st sg) (k8 : x = 8 → zX RX9 cX9_about 2 (some .int) "about" scr d n0 mc ms kc ks Q 139 L st sg) (k9 : x = 9 → zX RX9 cX9_about 2 (some .int) "about" scr d n0 mc ms kc ks Q 150 L st sg) (k10 : x = 10 → zX RX9 cX9_about 2 (some .int) "about" scr d n0 mc ms kc ks Q 158 L st sg) (k11 : x = 11 → zX RX9 cX9_about 2 (some .int) "about" scr d n0 mc ms kc ks Q 166 L st sg) (k12 : x = 12 → zX RX9 cX9_about 2 (some .int) "about" scr d n0 mc ms kc ks Q 174 L st sg) (k13 : x = 13 → zX RX9 cX9_about 2 (some .int) "about" scr d n0 mc ms kc ks Q 182 L st sg) (kd : ¬ x = 0 → ¬ x = 1 → ¬ x = 2 → ¬ x = 3 → ¬ x = 4 → ¬ x = 5 → ¬ x = 6 → ¬ x = 7 → ¬ x = 8 → ¬ x = 9 → ¬ x = 10 → ¬ x = 11 → ¬ x = 12 → ¬ x = 13 → zX RX9 cX9_about 2 (some .int) "about" scr d n0 mc ms kc ks Q 190 L st sg) : zX RX9 cX9_about 2 (some .int) "about" scr d n0 mc ms kc ks Q 1 L (.int x :: st) sg := by
  by_cases c0 : x = 0
  · exact zx_tab (k := 0) (off := 71) (tgt := 72) dX9_about_1 (zeq c0 (by decide)) (by decide) (by decide) (by decide) (k0 c0)
  by_cases c1 : x = 1
  · exact zx_tab (k := 1) (off := 79) (tgt := 80) dX9_about_1 (zeq c1 (by decide)) (by decide) (by decide) (by decide) (k1 c1)
  by_cases c2 : x = 2
  · exact zx_tab (k := 2) (off := 87) (tgt := 88) dX9_about_1 (zeq c2 (by decide)) (by decide) (by decide) (by decide) (k2 c2)
  by_cases c3 : x = 3
  · exact zx_tab (k := 3) (off := 95) (tgt := 96) dX9_about_1 (zeq c3 (by decide)) (by decide) (by decide) (by decide) (k3 c3)
  by_cases c4 : x = 4
  · exact zx_tab (k := 4) (off := 103) (tgt := 104) dX9_about_1 (zeq c4 (by decide)) (by decide) (by decide) (by decide) (k4 c4)
  by_cases c5 : x = 5
  · exact zx_tab (k := 5) (off := 111) (tgt := 112) dX9_about_1 (zeq c5 (by decide)) (by decide) (by decide) (by decide) (k5 c5)
  by_cases c6 : x = 6
  · exact zx_tab (k := 6) (off := 119) (tgt := 120) dX9_about_1 (zeq c6 (by decide)) (by decide) (by decide) (by decide) (k6 c6)
  by_cases c7 : x = 7
  · exact zx_tab (k := 7) (off := 127) (tgt := 128) dX9_about_1 (zeq c7 (by decide)) (by decide) (by decide) (by decide) (k7 c7)
  by_cases c8 : x = 8
  · exact zx_tab (k := 8) (off := 138) (tgt := 139) dX9_about_1 (zeq c8 (by decide)) (by decide) (by decide) (by decide) (k8 c8)
  by_cases c9 : x = 9
  · exact zx_tab (k := 9) (off := 149) (tgt := 150) dX9_about_1 (zeq c9 (by decide)) (by decide) (by decide) (by decide) (k9 c9)
  by_cases c10 : x = 10
  · exact zx_tab (k := 10) (off := 157) (tgt := 158) dX9_about_1 (zeq c10 (by decide)) (by decide) (by decide) (by decide) (k10 c10)
  by_cases c11 : x = 11
  · exact zx_tab (k := 11) (off := 165) (tgt := 166) dX9_about_1 (zeq c11 (by decide)) (by decide) (by decide) (by decide) (k11 c11)
  by_cases c12 : x = 12
  · exact zx_tab (k := 12) (off := 173) (tgt := 174) dX9_about_1 (zeq c12 (by decide)) (by decide) (by decide) (by decide) (k12 c12)
  by_cases c13 : x = 13
  · exact zx_tab (k := 13) (off := 181) (tgt := 182) dX9_about_1 (zeq c13 (by decide)) (by decide) (by decide) (by decide) (k13 c13)
  have e9 : x.toInt < 0 ∨ 13 < x.toInt := by
    have e0 := zne (k := 0) c0 (by decide)
    have e1 := zne (k := 1) c1 (by decide)
    have e2 := zne (k := 2) c2 (by decide)
    have e3 := zne (k := 3) c3 (by decide)
    have e4 := zne (k := 4) c4 (by decide)
    have e5 := zne (k := 5) c5 (by decide)
    have e6 := zne (k := 6) c6 (by decide)
    have e7 := zne (k := 7) c7 (by decide)
    have e8 := zne (k := 8) c8 (by decide)
    have e9 := zne (k := 9) c9 (by decide)
    have e10 := zne (k := 10) c10 (by decide)
    have e11 := zne (k := 11) c11 (by decide)
    have e12 := zne (k := 12) c12 (by decide)
    have e13 := zne (k := 13) c13 (by decide)
    omega
  exact zx_tableOut (tgt := 190) dX9_about_1 e9 (by decide) (kd c0 c1 c2 c3 c4 c5 c6 c7 c8 c9 c10 c11 c12 c13)
set_option maxHeartbeats 4000000 in
theorem q_about {d : Nat} {x : Int32} {tb : (Nat → Int32)} {tl : Int32} {gs : (Nat → Int32)} {gk : (Nat → Int32)} {gf : (Nat → Int32)} {ga : (Nat → Int32)} {gh : Int32} {gd : Int32} {gc : Int32} {nt : (Nat → Int32)} {ns : (Nat → Int32)} {n2 : Int32} {n3 : Int32} {n4 : Int32} {n5 : Int32} {n6 : Int32} {n7 : Int32} {n8 : Int32} {tr : (Nat → Int32) × (Nat → Int32) × Int32 × Int32 × Int32 × Int32 × Int32 × Int32 × Int32} {wk : (Nat → Int32) × Int32 × Int32 × Int32} {pl : (Nat → Int32) × Int32 × Int32 × Int32 × Int32 × Int32} {ab : (Nat → zStt)} {an : Int32} {az : Int32} {sl : (Nat → zStt) × (Nat → Int32)} {sr : (Nat → Int32)} {so : (Nat → Int32)} {sh : (Nat → Int32)} {sz : Int32} {sd : Int64} {tau : List zCel}  : zCf yX9_about cX9_about 2 (some .int) (d + 2) [.ref 0, .int x] (encC (tb, tl) (gs, gk, gf, ga, gh, gd, gc) (nt, ns, n2, n3, n4, n5, n6, n7, n8) tr wk pl (ab, an, az) sl (sr, so, sh, sz) sd ++ tau) (some (.int (zAb x gh gd gc n2 n3 n4 n5 (zHt n6) (zSo n6) n7 n8 az sz tl))) (encC (tb, tl) (gs, gk, gf, ga, gh, gd, gc) (nt, ns, n2, n3, n4, n5, n6, n7, n8) tr wk pl (ab, an, az) sl (sr, so, sh, sz) sd ++ tau) := by
  refine zC.intro (by decide) (Nat.le_of_ble_eq_true rfl) rfl ?_
  refine zx_iload_n (pc := 0) dX9_about_0 rfl rfl ?_
  refine sw_X9_about_1 (fun h1_0 => ?_) (fun h1_1 => ?_) (fun h1_2 => ?_) (fun h1_3 => ?_) (fun h1_4 => ?_) (fun h1_5 => ?_) (fun h1_6 => ?_) (fun h1_7 => ?_) (fun h1_8 => ?_) (fun h1_9 => ?_) (fun h1_10 => ?_) (fun h1_11 => ?_) (fun h1_12 => ?_) (fun h1_13 => ?_) (fun h1_0 h1_1 h1_2 h1_3 h1_4 h1_5 h1_6 h1_7 h1_8 h1_9 h1_10 h1_11 h1_12 h1_13 => ?_)
  · refine zx_aload_n (pc := 72) dX9_about_72 rfl rfl ?_
    refine g0_1 (pc := 73) fl_X9_19 dX9_about_73 ?_
    refine g3_4 (pc := 76) fl_X9_92 dX9_about_76 ?_
    exact zx_fi (pc := 79) dX9_about_79 rfl rfl (Nat.le_refl _) (Nat.le_refl _) (by simp [zAb, h1_0]) rfl
  · refine zx_aload_n (pc := 80) dX9_about_80 rfl rfl ?_
    refine g0_1 (pc := 81) fl_X9_19 dX9_about_81 ?_
    refine g3_5 (pc := 84) fl_X9_95 dX9_about_84 ?_
    exact zx_fi (pc := 87) dX9_about_87 rfl rfl (Nat.le_refl _) (Nat.le_refl _) (by simp [zAb, h1_1]) rfl
  · refine zx_aload_n (pc := 88) dX9_about_88 rfl rfl ?_
    refine g0_1 (pc := 89) fl_X9_19 dX9_about_89 ?_
    refine g3_6 (pc := 92) fl_X9_98 dX9_about_92 ?_
    exact zx_fi (pc := 95) dX9_about_95 rfl rfl (Nat.le_refl _) (Nat.le_refl _) (by simp [zAb, h1_2]) rfl
  · refine zx_aload_n (pc := 96) dX9_about_96 rfl rfl ?_
    refine g0_2 (pc := 97) fl_X9_26 dX9_about_97 ?_
    refine g8_2 (pc := 100) fl_X9_101 dX9_about_100 ?_
    exact zx_fi (pc := 103) dX9_about_103 rfl rfl (Nat.le_refl _) (Nat.le_refl _) (by simp [zAb, h1_3]) rfl
  · refine zx_aload_n (pc := 104) dX9_about_104 rfl rfl ?_
    refine g0_2 (pc := 105) fl_X9_26 dX9_about_105 ?_
    refine g8_3 (pc := 108) fl_X9_104 dX9_about_108 ?_
    exact zx_fi (pc := 111) dX9_about_111 rfl rfl (Nat.le_refl _) (Nat.le_refl _) (by simp [zAb, h1_4]) rfl
  · refine zx_aload_n (pc := 112) dX9_about_112 rfl rfl ?_
    refine g0_2 (pc := 113) fl_X9_26 dX9_about_113 ?_
    refine g8_4 (pc := 116) fl_X9_107 dX9_about_116 ?_
    exact zx_fi (pc := 119) dX9_about_119 rfl rfl (Nat.le_refl _) (Nat.le_refl _) (by simp [zAb, h1_5]) rfl
  · refine zx_aload_n (pc := 120) dX9_about_120 rfl rfl ?_
    refine g0_2 (pc := 121) fl_X9_26 dX9_about_121 ?_
    refine g8_5 (pc := 124) fl_X9_110 dX9_about_124 ?_
    exact zx_fi (pc := 127) dX9_about_127 rfl rfl (Nat.le_refl _) (Nat.le_refl _) (by simp [zAb, h1_6]) rfl
  · refine zx_aload_n (pc := 128) dX9_about_128 rfl rfl ?_
    refine g0_2 (pc := 129) fl_X9_26 dX9_about_129 ?_
    refine g8_6 (pc := 132) fl_X9_113 dX9_about_132 ?_
    refine zx_fS1 (pc := 135) (k_heightOf (d := d + 1) ) cl_X9_116 dX9_about_135 rfl rfl (by omega) (Nat.le_of_ble_eq_true rfl) (Nat.le_refl _) (Nat.le_refl _) ?_
    exact zx_fi (pc := 138) dX9_about_138 rfl rfl (Nat.le_refl _) (Nat.le_refl _) (by simp [zAb, h1_7]) rfl
  · refine zx_aload_n (pc := 139) dX9_about_139 rfl rfl ?_
    refine g0_2 (pc := 140) fl_X9_26 dX9_about_140 ?_
    refine g8_6 (pc := 143) fl_X9_113 dX9_about_143 ?_
    refine zx_fS1 (pc := 146) (k_soundOf (d := d) ) cl_X9_122 dX9_about_146 rfl rfl (by omega) (Nat.le_of_ble_eq_true rfl) (Nat.le_refl _) (Nat.le_refl _) ?_
    exact zx_fi (pc := 149) dX9_about_149 rfl rfl (Nat.le_refl _) (Nat.le_refl _) (by simp [zAb, h1_8]) rfl
  · refine zx_aload_n (pc := 150) dX9_about_150 rfl rfl ?_
    refine g0_2 (pc := 151) fl_X9_26 dX9_about_151 ?_
    refine g8_7 (pc := 154) fl_X9_125 dX9_about_154 ?_
    exact zx_fi (pc := 157) dX9_about_157 rfl rfl (Nat.le_refl _) (Nat.le_refl _) (by simp [zAb, h1_9]) rfl
  · refine zx_aload_n (pc := 158) dX9_about_158 rfl rfl ?_
    refine g0_2 (pc := 159) fl_X9_26 dX9_about_159 ?_
    refine g8_8 (pc := 162) fl_X9_128 dX9_about_162 ?_
    exact zx_fi (pc := 165) dX9_about_165 rfl rfl (Nat.le_refl _) (Nat.le_refl _) (by simp [zAb, h1_10]) rfl
  · refine zx_aload_n (pc := 166) dX9_about_166 rfl rfl ?_
    refine g0_6 (pc := 167) fl_X9_50 dX9_about_167 ?_
    refine g18_2 (pc := 170) fl_X9_131 dX9_about_170 ?_
    exact zx_fi (pc := 173) dX9_about_173 rfl rfl (Nat.le_refl _) (Nat.le_refl _) (by simp [zAb, h1_11]) rfl
  · refine zx_aload_n (pc := 174) dX9_about_174 rfl rfl ?_
    refine g0_8 (pc := 175) fl_X9_64 dX9_about_175 ?_
    refine g71_3 (pc := 178) fl_X9_134 dX9_about_178 ?_
    exact zx_fi (pc := 181) dX9_about_181 rfl rfl (Nat.le_refl _) (Nat.le_refl _) (by simp [zAb, h1_12]) rfl
  · refine zx_aload_n (pc := 182) dX9_about_182 rfl rfl ?_
    refine g0_0 (pc := 183) fl_X9_10 dX9_about_183 ?_
    refine g1_1 (pc := 186) fl_X9_72 dX9_about_186 ?_
    exact zx_fi (pc := 189) dX9_about_189 rfl rfl (Nat.le_refl _) (Nat.le_refl _) (by simp [zAb, h1_13]) rfl
  · refine zx_bipush (pc := 190) (v := -2) dX9_about_190 (by decide) ?_
    exact zx_fi (pc := 192) dX9_about_192 rfl rfl (Nat.le_refl _) (Nat.le_refl _) (by simp [zAb, h1_0, h1_1, h1_2, h1_3, h1_4, h1_5, h1_6, h1_7, h1_8, h1_9, h1_10, h1_11, h1_12, h1_13]) rfl
set_option maxHeartbeats 4000000 in
theorem q_hand_un {d : Nat} {H F : Nat} {x y : Int32} {tx : (Nat → Int32) × Int32} {gs : (Nat → Int32)} {gk : (Nat → Int32)} {gf : (Nat → Int32)} {ga : (Nat → Int32)} {gc : Int32} {nw : (Nat → Int32) × (Nat → Int32) × Int32 × Int32 × Int32 × Int32 × Int32 × Int32 × Int32} {tr : (Nat → Int32) × (Nat → Int32) × Int32 × Int32 × Int32 × Int32 × Int32 × Int32 × Int32} {wk : (Nat → Int32) × Int32 × Int32 × Int32} {pl : (Nat → Int32) × Int32 × Int32 × Int32 × Int32 × Int32} {ac : (Nat → zStt) × Int32 × Int32} {sl : (Nat → zStt) × (Nat → Int32)} {si : (Nat → Int32) × (Nat → Int32) × (Nat → Int32) × Int32} {sd : Int64} {tau : List zCel} (hu : zHas (nI H) x = 0) : zCf yX9_hand cX9_hand 3 (some .int) (d + 2) [.ref 0, .int x, .int y] (encC tx (gs, gk, gf, ga, (nI H), (nI F), gc) nw tr wk pl ac sl si sd ++ tau) (some (.int (-1))) (encC tx (gs, gk, gf, ga, (nI H), (nI F), gc) nw tr wk pl ac sl si sd ++ tau) := by
  refine zC.intro (by decide) (Nat.le_of_ble_eq_true rfl) rfl ?_
  refine zx_aload_n (pc := 0) dX9_hand_0 rfl rfl ?_
  refine g0_1 (pc := 1) fl_X9_19 dX9_hand_1 ?_
  refine zx_iload_n (pc := 4) dX9_hand_4 rfl rfl ?_
  refine zx_fV1 (pc := 5) (k_hasHand (d := d + 1) ) cl_X9_135 p3 rfl dX9_hand_5 rfl rfl (by omega) (Nat.le_of_ble_eq_true rfl) (Nat.le_refl _) (Nat.le_refl _) ?_
  refine zx_if_ne (pc := 8) (tgt := 13) dX9_hand_8 (by decide) (fun h8 => by first | exact absurd h8 (show ¬ ¬ zHas (nI H) x = 0 from fun q => q hu) | exact absurd (show ¬ ¬ zHas (nI H) x = 0 from fun q => q hu) h8) (fun h8 => ?_)
  refine zx_iconst (pc := 11) (v := -1) dX9_hand_11 (by decide) ?_
  exact zx_fi (pc := 12) dX9_hand_12 rfl rfl (Nat.le_refl _) (Nat.le_refl _) rfl rfl
theorem sw_X9_hand_14 {scr : Option (Nat × (Nat → Int32))} {d n0 mc ms kc ks : Nat} {Q : Option Value → List zCel → Prop} {L : List (Option Value)} {st : List Value} {sg : List zCel} {x : Int32} (k0 : x = 0 → zX RX9 cX9_hand 3 (some .int) "hand" scr d n0 mc ms kc ks Q 44 L st sg) (k1 : x = 1 → zX RX9 cX9_hand 3 (some .int) "hand" scr d n0 mc ms kc ks Q 54 L st sg) (k2 : x = 2 → zX RX9 cX9_hand 3 (some .int) "hand" scr d n0 mc ms kc ks Q 64 L st sg) (k3 : x = 3 → zX RX9 cX9_hand 3 (some .int) "hand" scr d n0 mc ms kc ks Q 74 L st sg) (kd : ¬ x = 0 → ¬ x = 1 → ¬ x = 2 → ¬ x = 3 → zX RX9 cX9_hand 3 (some .int) "hand" scr d n0 mc ms kc ks Q 83 L st sg) : zX RX9 cX9_hand 3 (some .int) "hand" scr d n0 mc ms kc ks Q 14 L (.int x :: st) sg := by
  by_cases c0 : x = 0
  · exact zx_tab (k := 0) (off := 30) (tgt := 44) dX9_hand_14 (zeq c0 (by decide)) (by decide) (by decide) (by decide) (k0 c0)
  by_cases c1 : x = 1
  · exact zx_tab (k := 1) (off := 40) (tgt := 54) dX9_hand_14 (zeq c1 (by decide)) (by decide) (by decide) (by decide) (k1 c1)
  by_cases c2 : x = 2
  · exact zx_tab (k := 2) (off := 50) (tgt := 64) dX9_hand_14 (zeq c2 (by decide)) (by decide) (by decide) (by decide) (k2 c2)
  by_cases c3 : x = 3
  · exact zx_tab (k := 3) (off := 60) (tgt := 74) dX9_hand_14 (zeq c3 (by decide)) (by decide) (by decide) (by decide) (k3 c3)
  have e9 : x.toInt < 0 ∨ 3 < x.toInt := by
    have e0 := zne (k := 0) c0 (by decide)
    have e1 := zne (k := 1) c1 (by decide)
    have e2 := zne (k := 2) c2 (by decide)
    have e3 := zne (k := 3) c3 (by decide)
    omega
  exact zx_tableOut (tgt := 83) dX9_hand_14 e9 (by decide) (kd c0 c1 c2 c3)
set_option maxHeartbeats 4000000 in
theorem q_hand {d : Nat} {h H F : Nat} {y : Int32} {tx : (Nat → Int32) × Int32} {gs : (Nat → Int32)} {gk : (Nat → Int32)} {gf : (Nat → Int32)} {ga : (Nat → Int32)} {gc : Int32} {nt : (Nat → Int32)} {ns : (Nat → Int32)} {n2 : Int32} {n3 : Int32} {n4 : Int32} {n5 : Int32} {n6 : Int32} {n7 : Int32} {n8 : Int32} {tr : (Nat → Int32) × (Nat → Int32) × Int32 × Int32 × Int32 × Int32 × Int32 × Int32 × Int32} {wk : (Nat → Int32) × Int32 × Int32 × Int32} {pl : (Nat → Int32) × Int32 × Int32 × Int32 × Int32 × Int32} {ac : (Nat → zStt) × Int32 × Int32} {sl : (Nat → zStt) × (Nat → Int32)} {si : (Nat → Int32) × (Nat → Int32) × (Nat → Int32) × Int32} {sd : Int64} {tau : List zCel} (hh : h < H) (hH : H ≤ 5) : zCf yX9_hand cX9_hand 3 (some .int) (d + 2) [.ref 0, .int (nI h), .int y] (encC tx (gs, gk, gf, ga, (nI H), (nI F), gc) (nt, ns, n2, n3, n4, n5, n6, n7, n8) tr wk pl ac sl si sd ++ tau) (some (.int (if y = 0 then gs h else if y = 1 then gk h else if y = 2 then nt h else if y = 3 then zMo (gk h) (gs h) else -2))) (encC tx (gs, gk, gf, ga, (nI H), (nI F), gc) (nt, ns, n2, n3, n4, n5, n6, n7, n8) tr wk pl ac sl si sd ++ tau) := by
  refine zC.intro (by decide) (Nat.le_of_ble_eq_true rfl) rfl ?_
  refine zx_aload_n (pc := 0) dX9_hand_0 rfl rfl ?_
  refine g0_1 (pc := 1) fl_X9_19 dX9_hand_1 ?_
  refine zx_iload_n (pc := 4) dX9_hand_4 rfl rfl ?_
  refine zx_fV1 (pc := 5) (k_hasHand (d := d + 1) ) cl_X9_135 p3 rfl dX9_hand_5 rfl rfl (by omega) (Nat.le_of_ble_eq_true rfl) (Nat.le_refl _) (Nat.le_refl _) ?_
  refine zx_if_ne (pc := 8) (tgt := 13) dX9_hand_8 (by decide) (fun h8 => ?_) (fun h8 => by first | exact absurd h8 (show ¬ zHas (nI H) (nI h) = 0 by rw [zHas_1 hh (by omega)]; decide) | exact absurd (show ¬ zHas (nI H) (nI h) = 0 by rw [zHas_1 hh (by omega)]; decide) h8)
  refine zx_iload_n (pc := 13) dX9_hand_13 rfl rfl ?_
  refine sw_X9_hand_14 (fun h14_0 => ?_) (fun h14_1 => ?_) (fun h14_2 => ?_) (fun h14_3 => ?_) (fun h14_0 h14_1 h14_2 h14_3 => ?_)
  · refine zx_aload_n (pc := 44) dX9_hand_44 rfl rfl ?_
    refine g0_1 (pc := 45) fl_X9_19 dX9_hand_45 ?_
    refine g3_0 (pc := 48) fl_X9_138 dX9_hand_48 ?_
    refine zx_iload_n (pc := 51) dX9_hand_51 rfl rfl ?_
    refine a4 (pc := 52) (zix_n (by omega)) dX9_hand_52 ?_
    exact zx_fi (pc := 53) dX9_hand_53 rfl rfl (Nat.le_refl _) (Nat.le_refl _) (by simp [h8, h14_0]) rfl
  · refine zx_aload_n (pc := 54) dX9_hand_54 rfl rfl ?_
    refine g0_1 (pc := 55) fl_X9_19 dX9_hand_55 ?_
    refine g3_1 (pc := 58) fl_X9_142 dX9_hand_58 ?_
    refine zx_iload_n (pc := 61) dX9_hand_61 rfl rfl ?_
    refine a5 (pc := 62) (zix_n (by omega)) dX9_hand_62 ?_
    exact zx_fi (pc := 63) dX9_hand_63 rfl rfl (Nat.le_refl _) (Nat.le_refl _) (by simp [h8, h14_1]) rfl
  · refine zx_aload_n (pc := 64) dX9_hand_64 rfl rfl ?_
    refine g0_2 (pc := 65) fl_X9_26 dX9_hand_65 ?_
    refine g8_0 (pc := 68) fl_X9_145 dX9_hand_68 ?_
    refine zx_iload_n (pc := 71) dX9_hand_71 rfl rfl ?_
    refine a9 (pc := 72) (zix_n (by omega)) dX9_hand_72 ?_
    exact zx_fi (pc := 73) dX9_hand_73 rfl rfl (Nat.le_refl _) (Nat.le_refl _) (by simp [h8, h14_2]) rfl
  · refine zx_aload_n (pc := 74) dX9_hand_74 rfl rfl ?_
    refine g0_1 (pc := 75) fl_X9_19 dX9_hand_75 ?_
    refine zx_iload_n (pc := 78) dX9_hand_78 rfl rfl ?_
    refine zx_fV1 (pc := 79) (k_moulds (d := d) hh hH) cl_X9_148 p3 rfl dX9_hand_79 rfl rfl (by omega) (Nat.le_of_ble_eq_true rfl) (Nat.le_refl _) (Nat.le_refl _) ?_
    exact zx_fi (pc := 82) dX9_hand_82 rfl rfl (Nat.le_refl _) (Nat.le_refl _) (by simp [h8, h14_3]) rfl
  · refine zx_bipush (pc := 83) (v := -2) dX9_hand_83 (by decide) ?_
    exact zx_fi (pc := 85) dX9_hand_85 rfl rfl (Nat.le_refl _) (Nat.le_refl _) (by simp [h8, h14_0, h14_1, h14_2, h14_3]) rfl
set_option maxHeartbeats 4000000 in
theorem q_field_un {d : Nat} {H F : Nat} {x y : Int32} {tx : (Nat → Int32) × Int32} {gs : (Nat → Int32)} {gk : (Nat → Int32)} {gf : (Nat → Int32)} {ga : (Nat → Int32)} {gc : Int32} {nw : (Nat → Int32) × (Nat → Int32) × Int32 × Int32 × Int32 × Int32 × Int32 × Int32 × Int32} {tr : (Nat → Int32) × (Nat → Int32) × Int32 × Int32 × Int32 × Int32 × Int32 × Int32 × Int32} {wk : (Nat → Int32) × Int32 × Int32 × Int32} {pl : (Nat → Int32) × Int32 × Int32 × Int32 × Int32 × Int32} {ac : (Nat → zStt) × Int32 × Int32} {sl : (Nat → zStt) × (Nat → Int32)} {si : (Nat → Int32) × (Nat → Int32) × (Nat → Int32) × Int32} {sd : Int64} {tau : List zCel} (hu : zHas (nI F) x = 0) : zCf yX9_field cX9_field 3 (some .int) (d + 1) [.ref 0, .int x, .int y] (encC tx (gs, gk, gf, ga, (nI H), (nI F), gc) nw tr wk pl ac sl si sd ++ tau) (some (.int (-1))) (encC tx (gs, gk, gf, ga, (nI H), (nI F), gc) nw tr wk pl ac sl si sd ++ tau) := by
  refine zC.intro (by decide) (Nat.le_of_ble_eq_true rfl) rfl ?_
  refine zx_aload_n (pc := 0) dX9_field_0 rfl rfl ?_
  refine g0_1 (pc := 1) fl_X9_19 dX9_field_1 ?_
  refine zx_iload_n (pc := 4) dX9_field_4 rfl rfl ?_
  refine zx_fV1 (pc := 5) (k_hasField (d := d) ) cl_X9_151 p3 rfl dX9_field_5 rfl rfl (by omega) (Nat.le_of_ble_eq_true rfl) (Nat.le_refl _) (Nat.le_refl _) ?_
  refine zx_if_ne (pc := 8) (tgt := 13) dX9_field_8 (by decide) (fun h8 => by first | exact absurd h8 (show ¬ ¬ zHas (nI F) x = 0 from fun q => q hu) | exact absurd (show ¬ ¬ zHas (nI F) x = 0 from fun q => q hu) h8) (fun h8 => ?_)
  refine zx_iconst (pc := 11) (v := -1) dX9_field_11 (by decide) ?_
  exact zx_fi (pc := 12) dX9_field_12 rfl rfl (Nat.le_refl _) (Nat.le_refl _) rfl rfl
theorem sw_X9_field_14 {scr : Option (Nat × (Nat → Int32))} {d n0 mc ms kc ks : Nat} {Q : Option Value → List zCel → Prop} {L : List (Option Value)} {st : List Value} {sg : List zCel} {x : Int32} (k0 : x = 0 → zX RX9 cX9_field 3 (some .int) "field" scr d n0 mc ms kc ks Q 40 L st sg) (k1 : x = 1 → zX RX9 cX9_field 3 (some .int) "field" scr d n0 mc ms kc ks Q 50 L st sg) (kd : ¬ x = 0 → ¬ x = 1 → zX RX9 cX9_field 3 (some .int) "field" scr d n0 mc ms kc ks Q 60 L st sg) : zX RX9 cX9_field 3 (some .int) "field" scr d n0 mc ms kc ks Q 14 L (.int x :: st) sg := by
  by_cases c0 : x = 0
  · exact zx_lookup (off := 26) (tgt := 40) dX9_field_14 (by decide) (by rw [c0]; decide) (by decide) (k0 c0)
  by_cases c1 : x = 1
  · exact zx_lookup (off := 36) (tgt := 50) dX9_field_14 (by decide) (by rw [c1]; decide) (by decide) (k1 c1)
  exact zx_lookup (off := 46) (tgt := 60) dX9_field_14 (by decide) (by rw [lv_osw c0 (by decide), lv_osw c1 (by decide)]; rfl) (by decide) (kd c0 c1)
set_option maxHeartbeats 4000000 in
theorem q_field {d : Nat} {f H F : Nat} {y : Int32} {tx : (Nat → Int32) × Int32} {gs : (Nat → Int32)} {gk : (Nat → Int32)} {gf : (Nat → Int32)} {ga : (Nat → Int32)} {gc : Int32} {nt : (Nat → Int32)} {ns : (Nat → Int32)} {n2 : Int32} {n3 : Int32} {n4 : Int32} {n5 : Int32} {n6 : Int32} {n7 : Int32} {n8 : Int32} {tr : (Nat → Int32) × (Nat → Int32) × Int32 × Int32 × Int32 × Int32 × Int32 × Int32 × Int32} {wk : (Nat → Int32) × Int32 × Int32 × Int32} {pl : (Nat → Int32) × Int32 × Int32 × Int32 × Int32 × Int32} {ac : (Nat → zStt) × Int32 × Int32} {sl : (Nat → zStt) × (Nat → Int32)} {si : (Nat → Int32) × (Nat → Int32) × (Nat → Int32) × Int32} {sd : Int64} {tau : List zCel} (hf : f < F) (hF : F ≤ 3) : zCf yX9_field cX9_field 3 (some .int) (d + 1) [.ref 0, .int (nI f), .int y] (encC tx (gs, gk, gf, ga, (nI H), (nI F), gc) (nt, ns, n2, n3, n4, n5, n6, n7, n8) tr wk pl ac sl si sd ++ tau) (some (.int (if y = 0 then gf f else if y = 1 then ns f else -2))) (encC tx (gs, gk, gf, ga, (nI H), (nI F), gc) (nt, ns, n2, n3, n4, n5, n6, n7, n8) tr wk pl ac sl si sd ++ tau) := by
  refine zC.intro (by decide) (Nat.le_of_ble_eq_true rfl) rfl ?_
  refine zx_aload_n (pc := 0) dX9_field_0 rfl rfl ?_
  refine g0_1 (pc := 1) fl_X9_19 dX9_field_1 ?_
  refine zx_iload_n (pc := 4) dX9_field_4 rfl rfl ?_
  refine zx_fV1 (pc := 5) (k_hasField (d := d) ) cl_X9_151 p3 rfl dX9_field_5 rfl rfl (by omega) (Nat.le_of_ble_eq_true rfl) (Nat.le_refl _) (Nat.le_refl _) ?_
  refine zx_if_ne (pc := 8) (tgt := 13) dX9_field_8 (by decide) (fun h8 => ?_) (fun h8 => by first | exact absurd h8 (show ¬ zHas (nI F) (nI f) = 0 by rw [zHas_1 hf (by omega)]; decide) | exact absurd (show ¬ zHas (nI F) (nI f) = 0 by rw [zHas_1 hf (by omega)]; decide) h8)
  refine zx_iload_n (pc := 13) dX9_field_13 rfl rfl ?_
  refine sw_X9_field_14 (fun h14_0 => ?_) (fun h14_1 => ?_) (fun h14_0 h14_1 => ?_)
  · refine zx_aload_n (pc := 40) dX9_field_40 rfl rfl ?_
    refine g0_1 (pc := 41) fl_X9_19 dX9_field_41 ?_
    refine g3_2 (pc := 44) fl_X9_154 dX9_field_44 ?_
    refine zx_iload_n (pc := 47) dX9_field_47 rfl rfl ?_
    refine a6 (pc := 48) (zix_n (by omega)) dX9_field_48 ?_
    exact zx_fi (pc := 49) dX9_field_49 rfl rfl (Nat.le_refl _) (Nat.le_refl _) (by simp [h8, h14_0]) rfl
  · refine zx_aload_n (pc := 50) dX9_field_50 rfl rfl ?_
    refine g0_2 (pc := 51) fl_X9_26 dX9_field_51 ?_
    refine g8_1 (pc := 54) fl_X9_157 dX9_field_54 ?_
    refine zx_iload_n (pc := 57) dX9_field_57 rfl rfl ?_
    refine a10 (pc := 58) (zix_n (by omega)) dX9_field_58 ?_
    exact zx_fi (pc := 59) dX9_field_59 rfl rfl (Nat.le_refl _) (Nat.le_refl _) (by simp [h8, h14_1]) rfl
  · refine zx_bipush (pc := 60) (v := -2) dX9_field_60 (by decide) ?_
    exact zx_fi (pc := 62) dX9_field_62 rfl rfl (Nat.le_refl _) (Nat.le_refl _) (by simp [h8, h14_0, h14_1]) rfl
set_option maxHeartbeats 4000000 in
theorem q_day {d : Nat} {H F n z : Nat} {tx : (Nat → Int32) × Int32} {gs : (Nat → Int32)} {gk : (Nat → Int32)} {gf : (Nat → Int32)} {ga : (Nat → Int32)} {gc : Int32} {nt : (Nat → Int32)} {ns : (Nat → Int32)} {n2 : Int32} {n3 : Int32} {n4 : Int32} {n5 : Int32} {n6 : Int32} {n7 : Int32} {n8 : Int32} {tr : (Nat → Int32) × (Nat → Int32) × Int32 × Int32 × Int32 × Int32 × Int32 × Int32 × Int32} {ws : (Nat → Int32)} {w1 : Int32} {w2 : Int32} {w3 : Int32} {pl : (Nat → Int32) × Int32 × Int32 × Int32 × Int32 × Int32} {ab : (Nat → zStt)} {sl : (Nat → zStt) × (Nat → Int32)} {si : (Nat → Int32) × (Nat → Int32) × (Nat → Int32) × Int32} {sd : Int64} {tau : List zCel} (hH : H ≤ 5) (hF : F ≤ 3) (hn : n < 14) (hz : z ≤ 14) : zCf yX9_day cX9_day 1 (some .int) (d + 4) [.ref 0] (encC tx (gs, gk, gf, ga, (nI H), (nI F), gc) (nt, ns, n2, n3, n4, n5, n6, n7, n8) tr (ws, w1, w2, w3) pl (ab, (nI n), (nI z)) sl si sd ++ tau) (some (.int ((zDay gs gk gf (nI F) H nt (va_cpy ns ws 0 0 3) n2).2.2.1))) (encC tx (gs, gk, gf, ga, (nI H), (nI F), gc) (zend gc (zDay gs gk gf (nI F) H nt (va_cpy ns ws 0 0 3) n2) (nt, ns, n2, n3, n4, n5, n6, n7, n8)) tr (zDay gs gk gf (nI F) H nt (va_cpy ns ws 0 0 3) n2) pl ((va_up ab n (zcpS (nt, ns, n2, n3, n4, n5, n6, n7, n8) (ab n))), (nI ((n + 1) % 14)), (nI (min (z + 1) 14))) sl si sd ++ tau) := by
  refine zC.intro (by decide) (Nat.le_of_ble_eq_true rfl) rfl ?_
  refine zx_aload_n (pc := 0) dX9_day_0 rfl rfl ?_
  refine g0_6 (pc := 1) fl_X9_50 dX9_day_1 ?_
  refine zx_aload_n (pc := 4) dX9_day_4 rfl rfl ?_
  refine g0_2 (pc := 5) fl_X9_26 dX9_day_5 ?_
  refine zx_fV0 (pc := 8) (k_remember (d := d + 1) hn hz) cl_X9_160 p18 rfl dX9_day_8 rfl rfl (by omega) (Nat.le_of_ble_eq_true rfl) (Nat.le_refl _) (Nat.le_refl _) ?_
  refine zx_aload_n (pc := 11) dX9_day_11 rfl rfl ?_
  refine g0_4 (pc := 12) fl_X9_36 dX9_day_12 ?_
  refine zx_aload_n (pc := 15) dX9_day_15 rfl rfl ?_
  refine g0_1 (pc := 16) fl_X9_19 dX9_day_16 ?_
  refine zx_aload_n (pc := 19) dX9_day_19 rfl rfl ?_
  refine g0_2 (pc := 20) fl_X9_26 dX9_day_20 ?_
  refine zx_aload_n (pc := 23) dX9_day_23 rfl rfl ?_
  refine g0_2 (pc := 24) fl_X9_26 dX9_day_24 ?_
  refine g8_0 (pc := 27) fl_X9_145 dX9_day_27 ?_
  refine zx_fV0 (pc := 30) (k_reckon_n (d := d) hH hF) cl_X9_164 p14 rfl dX9_day_30 rfl rfl (by omega) (Nat.le_of_ble_eq_true rfl) (Nat.le_refl _) (Nat.le_refl _) ?_
  refine zx_aload_n (pc := 33) dX9_day_33 rfl rfl ?_
  refine g0_2 (pc := 34) fl_X9_26 dX9_day_34 ?_
  refine zx_aload_n (pc := 37) dX9_day_37 rfl rfl ?_
  refine g0_1 (pc := 38) fl_X9_19 dX9_day_38 ?_
  refine zx_aload_n (pc := 41) dX9_day_41 rfl rfl ?_
  refine g0_4 (pc := 42) fl_X9_36 dX9_day_42 ?_
  refine zx_fV0 (pc := 45) (k_endDay_n (d := d + 2) ) cl_X9_168 p8 rfl dX9_day_45 rfl rfl (by omega) (Nat.le_of_ble_eq_true rfl) (Nat.le_refl _) (Nat.le_refl _) ?_
  refine zx_aload_n (pc := 48) dX9_day_48 rfl rfl ?_
  refine g0_4 (pc := 49) fl_X9_36 dX9_day_49 ?_
  refine g14_2 (pc := 52) fl_X9_172 dX9_day_52 ?_
  exact zx_fi (pc := 55) dX9_day_55 rfl rfl (Nat.le_refl _) (Nat.le_refl _) rfl rfl
set_option maxHeartbeats 4000000 in
theorem q_send_un {d : Nat} {H F : Nat} {x y : Int32} {tx : (Nat → Int32) × Int32} {gs : (Nat → Int32)} {gk : (Nat → Int32)} {gf : (Nat → Int32)} {ga : (Nat → Int32)} {gc : Int32} {nw : (Nat → Int32) × (Nat → Int32) × Int32 × Int32 × Int32 × Int32 × Int32 × Int32 × Int32} {tr : (Nat → Int32) × (Nat → Int32) × Int32 × Int32 × Int32 × Int32 × Int32 × Int32 × Int32} {wk : (Nat → Int32) × Int32 × Int32 × Int32} {pl : (Nat → Int32) × Int32 × Int32 × Int32 × Int32 × Int32} {ac : (Nat → zStt) × Int32 × Int32} {sl : (Nat → zStt) × (Nat → Int32)} {si : (Nat → Int32) × (Nat → Int32) × (Nat → Int32) × Int32} {sd : Int64} {tau : List zCel} (hu : zHas (nI H) x = 0) : zCf yX9_send cX9_send 4 (some .int) (d + 3) [.ref 0, .int x, .int y] (encC tx (gs, gk, gf, ga, (nI H), (nI F), gc) nw tr wk pl ac sl si sd ++ tau) (some (.int (-1))) (encC tx (gs, gk, gf, ga, (nI H), (nI F), gc) nw tr wk pl ac sl si sd ++ tau) := by
  refine zC.intro (by decide) (Nat.le_of_ble_eq_true rfl) rfl ?_
  refine zx_aload_n (pc := 0) dX9_send_0 rfl rfl ?_
  refine g0_1 (pc := 1) fl_X9_19 dX9_send_1 ?_
  refine zx_iload_n (pc := 4) dX9_send_4 rfl rfl ?_
  refine zx_fV1 (pc := 5) (k_hasHand (d := d + 2) ) cl_X9_135 p3 rfl dX9_send_5 rfl rfl (by omega) (Nat.le_of_ble_eq_true rfl) (Nat.le_refl _) (Nat.le_refl _) ?_
  refine zx_if_ne (pc := 8) (tgt := 13) dX9_send_8 (by decide) (fun h8 => by first | exact absurd h8 (show ¬ ¬ zHas (nI H) x = 0 from fun q => q hu) | exact absurd (show ¬ ¬ zHas (nI H) x = 0 from fun q => q hu) h8) (fun h8 => ?_)
  refine zx_iconst (pc := 11) (v := -1) dX9_send_11 (by decide) ?_
  exact zx_fi (pc := 12) dX9_send_12 rfl rfl (Nat.le_refl _) (Nat.le_refl _) rfl rfl
set_option maxHeartbeats 4000000 in
theorem q_send_bad {d : Nat} {h H F : Nat} {y : Int32} {tx : (Nat → Int32) × Int32} {gs : (Nat → Int32)} {gk : (Nat → Int32)} {gf : (Nat → Int32)} {ga : (Nat → Int32)} {gc : Int32} {nw : (Nat → Int32) × (Nat → Int32) × Int32 × Int32 × Int32 × Int32 × Int32 × Int32 × Int32} {tr : (Nat → Int32) × (Nat → Int32) × Int32 × Int32 × Int32 × Int32 × Int32 × Int32 × Int32} {wk : (Nat → Int32) × Int32 × Int32 × Int32} {pl : (Nat → Int32) × Int32 × Int32 × Int32 × Int32 × Int32} {ac : (Nat → zStt) × Int32 × Int32} {sl : (Nat → zStt) × (Nat → Int32)} {si : (Nat → Int32) × (Nat → Int32) × (Nat → Int32) × Int32} {sd : Int64} {tau : List zCel} (hh : h < H) (hH : H ≤ 5) (hu : zTask (nI F) y = 0) : zCf yX9_send cX9_send 4 (some .int) (d + 3) [.ref 0, .int (nI h), .int y] (encC tx (gs, gk, gf, ga, (nI H), (nI F), gc) nw tr wk pl ac sl si sd ++ tau) (some (.int (-2))) (encC tx (gs, gk, gf, ga, (nI H), (nI F), gc) nw tr wk pl ac sl si sd ++ tau) := by
  refine zC.intro (by decide) (Nat.le_of_ble_eq_true rfl) rfl ?_
  refine zx_aload_n (pc := 0) dX9_send_0 rfl rfl ?_
  refine g0_1 (pc := 1) fl_X9_19 dX9_send_1 ?_
  refine zx_iload_n (pc := 4) dX9_send_4 rfl rfl ?_
  refine zx_fV1 (pc := 5) (k_hasHand (d := d + 2) ) cl_X9_135 p3 rfl dX9_send_5 rfl rfl (by omega) (Nat.le_of_ble_eq_true rfl) (Nat.le_refl _) (Nat.le_refl _) ?_
  refine zx_if_ne (pc := 8) (tgt := 13) dX9_send_8 (by decide) (fun h8 => ?_) (fun h8 => by first | exact absurd h8 (show ¬ zHas (nI H) (nI h) = 0 by rw [zHas_1 hh (by omega)]; decide) | exact absurd (show ¬ zHas (nI H) (nI h) = 0 by rw [zHas_1 hh (by omega)]; decide) h8)
  refine zx_aload_n (pc := 13) dX9_send_13 rfl rfl ?_
  refine g0_1 (pc := 14) fl_X9_19 dX9_send_14 ?_
  refine zx_iload_n (pc := 17) dX9_send_17 rfl rfl ?_
  refine zx_fV1 (pc := 18) (k_hasTask (d := d + 1) ) cl_X9_175 p3 rfl dX9_send_18 rfl rfl (by omega) (Nat.le_of_ble_eq_true rfl) (Nat.le_refl _) (Nat.le_refl _) ?_
  refine zx_if_ne (pc := 21) (tgt := 27) dX9_send_21 (by decide) (fun h21 => by first | exact absurd h21 (show ¬ ¬ zTask (nI F) y = 0 from fun q => q hu) | exact absurd (show ¬ ¬ zTask (nI F) y = 0 from fun q => q hu) h21) (fun h21 => ?_)
  refine zx_bipush (pc := 24) (v := -2) dX9_send_24 (by decide) ?_
  exact zx_fi (pc := 26) dX9_send_26 rfl rfl (Nat.le_refl _) (Nat.le_refl _) rfl rfl
set_option maxHeartbeats 4000000 in
theorem q_send_late {d : Nat} {h H F : Nat} {y : Int32} {tx : (Nat → Int32) × Int32} {gs : (Nat → Int32)} {gk : (Nat → Int32)} {gf : (Nat → Int32)} {ga : (Nat → Int32)} {gc : Int32} {nt : (Nat → Int32)} {ns : (Nat → Int32)} {n2 : Int32} {n3 : Int32} {n4 : Int32} {n5 : Int32} {n6 : Int32} {n7 : Int32} {n8 : Int32} {tr : (Nat → Int32) × (Nat → Int32) × Int32 × Int32 × Int32 × Int32 × Int32 × Int32 × Int32} {wk : (Nat → Int32) × Int32 × Int32 × Int32} {pl : (Nat → Int32) × Int32 × Int32 × Int32 × Int32 × Int32} {ac : (Nat → zStt) × Int32 × Int32} {sl : (Nat → zStt) × (Nat → Int32)} {si : (Nat → Int32) × (Nat → Int32) × (Nat → Int32) × Int32} {sd : Int64} {tau : List zCel} (hh : h < H) (hH : H ≤ 5) (hu : ¬ zTask (nI F) y = 0) (hl : nt h = y) : zCf yX9_send cX9_send 4 (some .int) (d + 3) [.ref 0, .int (nI h), .int y] (encC tx (gs, gk, gf, ga, (nI H), (nI F), gc) (nt, ns, n2, n3, n4, n5, n6, n7, n8) tr wk pl ac sl si sd ++ tau) (some (.int (-3))) (encC tx (gs, gk, gf, ga, (nI H), (nI F), gc) (nt, ns, n2, n3, n4, n5, n6, n7, n8) tr wk pl ac sl si sd ++ tau) := by
  refine zC.intro (by decide) (Nat.le_of_ble_eq_true rfl) rfl ?_
  refine zx_aload_n (pc := 0) dX9_send_0 rfl rfl ?_
  refine g0_1 (pc := 1) fl_X9_19 dX9_send_1 ?_
  refine zx_iload_n (pc := 4) dX9_send_4 rfl rfl ?_
  refine zx_fV1 (pc := 5) (k_hasHand (d := d + 2) ) cl_X9_135 p3 rfl dX9_send_5 rfl rfl (by omega) (Nat.le_of_ble_eq_true rfl) (Nat.le_refl _) (Nat.le_refl _) ?_
  refine zx_if_ne (pc := 8) (tgt := 13) dX9_send_8 (by decide) (fun h8 => ?_) (fun h8 => by first | exact absurd h8 (show ¬ zHas (nI H) (nI h) = 0 by rw [zHas_1 hh (by omega)]; decide) | exact absurd (show ¬ zHas (nI H) (nI h) = 0 by rw [zHas_1 hh (by omega)]; decide) h8)
  refine zx_aload_n (pc := 13) dX9_send_13 rfl rfl ?_
  refine g0_1 (pc := 14) fl_X9_19 dX9_send_14 ?_
  refine zx_iload_n (pc := 17) dX9_send_17 rfl rfl ?_
  refine zx_fV1 (pc := 18) (k_hasTask (d := d + 1) ) cl_X9_175 p3 rfl dX9_send_18 rfl rfl (by omega) (Nat.le_of_ble_eq_true rfl) (Nat.le_refl _) (Nat.le_refl _) ?_
  refine zx_if_ne (pc := 21) (tgt := 27) dX9_send_21 (by decide) (fun h21 => ?_) (fun h21 => by first | exact absurd h21 hu | exact absurd hu h21)
  refine zx_aload_n (pc := 27) dX9_send_27 rfl rfl ?_
  refine g0_2 (pc := 28) fl_X9_26 dX9_send_28 ?_
  refine g8_0 (pc := 31) fl_X9_145 dX9_send_31 ?_
  refine zx_iload_n (pc := 34) dX9_send_34 rfl rfl ?_
  refine a9 (pc := 35) (zix_n (by omega)) dX9_send_35 ?_
  refine st_3_4 (pc := 36) dX9_send_36 rfl ?_
  refine zx_iload_n (pc := 37) dX9_send_37 rfl rfl ?_
  refine zx_iload_n (pc := 38) dX9_send_38 rfl rfl ?_
  refine zx_icmp_ne (pc := 39) (tgt := 45) dX9_send_39 (by decide) (fun h39 => by first | exact absurd h39 (show ¬ ¬ nt h = y from fun q => q hl) | exact absurd (show ¬ ¬ nt h = y from fun q => q hl) h39) (fun h39 => ?_)
  refine zx_bipush (pc := 42) (v := -3) dX9_send_42 (by decide) ?_
  exact zx_fi (pc := 44) dX9_send_44 rfl rfl (Nat.le_refl _) (Nat.le_refl _) rfl rfl
set_option maxHeartbeats 4000000 in
theorem q_send_ok {d : Nat} {h H F n z : Nat} {y : Int32} {tx : (Nat → Int32) × Int32} {gs : (Nat → Int32)} {gk : (Nat → Int32)} {gf : (Nat → Int32)} {ga : (Nat → Int32)} {gc : Int32} {nt : (Nat → Int32)} {ns : (Nat → Int32)} {n2 : Int32} {n3 : Int32} {n4 : Int32} {n5 : Int32} {n6 : Int32} {n7 : Int32} {n8 : Int32} {tr : (Nat → Int32) × (Nat → Int32) × Int32 × Int32 × Int32 × Int32 × Int32 × Int32 × Int32} {wk : (Nat → Int32) × Int32 × Int32 × Int32} {pl : (Nat → Int32) × Int32 × Int32 × Int32 × Int32 × Int32} {ab : (Nat → zStt)} {sl : (Nat → zStt) × (Nat → Int32)} {si : (Nat → Int32) × (Nat → Int32) × (Nat → Int32) × Int32} {sd : Int64} {tau : List zCel} (hh : h < H) (hH : H ≤ 5) (hu : ¬ zTask (nI F) y = 0) (hl : ¬ nt h = y) (hn : n < 14) (hz : z ≤ 14) : zCf yX9_send cX9_send 4 (some .int) (d + 3) [.ref 0, .int (nI h), .int y] (encC tx (gs, gk, gf, ga, (nI H), (nI F), gc) (nt, ns, n2, n3, n4, n5, n6, n7, n8) tr wk pl (ab, (nI n), (nI z)) sl si sd ++ tau) (some (.int (nt h))) (encC tx (gs, gk, gf, ga, (nI H), (nI F), gc) ((upd nt h y), ns, n2, n3, n4, n5, n6, n7, n8) tr wk pl ((va_up ab n (zcpS (nt, ns, n2, n3, n4, n5, n6, n7, n8) (ab n))), (nI ((n + 1) % 14)), (nI (min (z + 1) 14))) sl si sd ++ tau) := by
  refine zC.intro (by decide) (Nat.le_of_ble_eq_true rfl) rfl ?_
  refine zx_aload_n (pc := 0) dX9_send_0 rfl rfl ?_
  refine g0_1 (pc := 1) fl_X9_19 dX9_send_1 ?_
  refine zx_iload_n (pc := 4) dX9_send_4 rfl rfl ?_
  refine zx_fV1 (pc := 5) (k_hasHand (d := d + 2) ) cl_X9_135 p3 rfl dX9_send_5 rfl rfl (by omega) (Nat.le_of_ble_eq_true rfl) (Nat.le_refl _) (Nat.le_refl _) ?_
  refine zx_if_ne (pc := 8) (tgt := 13) dX9_send_8 (by decide) (fun h8 => ?_) (fun h8 => by first | exact absurd h8 (show ¬ zHas (nI H) (nI h) = 0 by rw [zHas_1 hh (by omega)]; decide) | exact absurd (show ¬ zHas (nI H) (nI h) = 0 by rw [zHas_1 hh (by omega)]; decide) h8)
  refine zx_aload_n (pc := 13) dX9_send_13 rfl rfl ?_
  refine g0_1 (pc := 14) fl_X9_19 dX9_send_14 ?_
  refine zx_iload_n (pc := 17) dX9_send_17 rfl rfl ?_
  refine zx_fV1 (pc := 18) (k_hasTask (d := d + 1) ) cl_X9_175 p3 rfl dX9_send_18 rfl rfl (by omega) (Nat.le_of_ble_eq_true rfl) (Nat.le_refl _) (Nat.le_refl _) ?_
  refine zx_if_ne (pc := 21) (tgt := 27) dX9_send_21 (by decide) (fun h21 => ?_) (fun h21 => by first | exact absurd h21 hu | exact absurd hu h21)
  refine zx_aload_n (pc := 27) dX9_send_27 rfl rfl ?_
  refine g0_2 (pc := 28) fl_X9_26 dX9_send_28 ?_
  refine g8_0 (pc := 31) fl_X9_145 dX9_send_31 ?_
  refine zx_iload_n (pc := 34) dX9_send_34 rfl rfl ?_
  refine a9 (pc := 35) (zix_n (by omega)) dX9_send_35 ?_
  refine st_3_4 (pc := 36) dX9_send_36 rfl ?_
  refine zx_iload_n (pc := 37) dX9_send_37 rfl rfl ?_
  refine zx_iload_n (pc := 38) dX9_send_38 rfl rfl ?_
  refine zx_icmp_ne (pc := 39) (tgt := 45) dX9_send_39 (by decide) (fun h39 => ?_) (fun h39 => by first | exact absurd h39 hl | exact absurd hl h39)
  refine zx_aload_n (pc := 45) dX9_send_45 rfl rfl ?_
  refine g0_6 (pc := 46) fl_X9_50 dX9_send_46 ?_
  refine zx_aload_n (pc := 49) dX9_send_49 rfl rfl ?_
  refine g0_2 (pc := 50) fl_X9_26 dX9_send_50 ?_
  refine zx_fV0 (pc := 53) (k_remember (d := d) hn hz) cl_X9_160 p18 rfl dX9_send_53 rfl rfl (by omega) (Nat.le_of_ble_eq_true rfl) (Nat.le_refl _) (Nat.le_refl _) ?_
  refine zx_aload_n (pc := 56) dX9_send_56 rfl rfl ?_
  refine g0_2 (pc := 57) fl_X9_26 dX9_send_57 ?_
  refine g8_0 (pc := 60) fl_X9_145 dX9_send_60 ?_
  refine zx_iload_n (pc := 63) dX9_send_63 rfl rfl ?_
  refine zx_iload_n (pc := 64) dX9_send_64 rfl rfl ?_
  refine s9 (pc := 65) (zix_n (by omega)) dX9_send_65 ?_
  refine zx_iload_n (pc := 66) dX9_send_66 rfl rfl ?_
  exact zx_fi (pc := 67) dX9_send_67 rfl rfl (Nat.le_refl _) (Nat.le_refl _) rfl rfl
set_option maxHeartbeats 4000000 in
theorem q_turn_bad {d : Nat} {x : Int32} {tx : (Nat → Int32) × Int32} {gg : (Nat → Int32) × (Nat → Int32) × (Nat → Int32) × (Nat → Int32) × Int32 × Int32 × Int32} {nw : (Nat → Int32) × (Nat → Int32) × Int32 × Int32 × Int32 × Int32 × Int32 × Int32 × Int32} {tr : (Nat → Int32) × (Nat → Int32) × Int32 × Int32 × Int32 × Int32 × Int32 × Int32 × Int32} {wk : (Nat → Int32) × Int32 × Int32 × Int32} {pl : (Nat → Int32) × Int32 × Int32 × Int32 × Int32 × Int32} {ac : (Nat → zStt) × Int32 × Int32} {sl : (Nat → zStt) × (Nat → Int32)} {si : (Nat → Int32) × (Nat → Int32) × (Nat → Int32) × Int32} {sd : Int64} {tau : List zCel} (hb : x < 1 ∨ ¬ x ≤ 9) : zCf yX9_turn cX9_turn 2 (some .int) (d + 3) [.ref 0, .int x] (encC tx gg nw tr wk pl ac sl si sd ++ tau) (some (.int (-2))) (encC tx gg nw tr wk pl ac sl si sd ++ tau) := by
  refine zC.intro (by decide) (Nat.le_of_ble_eq_true rfl) rfl ?_
  refine zx_iload_n (pc := 0) dX9_turn_0 rfl rfl ?_
  refine zx_iconst (pc := 1) (v := 1) dX9_turn_1 (by decide) ?_
  refine zx_icmp_lt (pc := 2) (tgt := 11) dX9_turn_2 (by decide) (fun h2 => ?_) (fun h2 => ?_)
  · refine zx_bipush (pc := 11) (v := -2) dX9_turn_11 (by decide) ?_
    exact zx_fi (pc := 13) dX9_turn_13 rfl rfl (Nat.le_refl _) (Nat.le_refl _) rfl rfl
  · refine zx_iload_n (pc := 5) dX9_turn_5 rfl rfl ?_
    refine zx_bipush (pc := 6) (v := 9) dX9_turn_6 (by decide) ?_
    refine zx_icmp_le (pc := 8) (tgt := 14) dX9_turn_8 (by decide) (fun h8 => by first | exact absurd h8 (show ¬ x ≤ 9 by rcases hb with q | q; exact absurd q h2; exact q) | exact absurd (show ¬ x ≤ 9 by rcases hb with q | q; exact absurd q h2; exact q) h8) (fun h8 => ?_)
    refine zx_bipush (pc := 11) (v := -2) dX9_turn_11 (by decide) ?_
    exact zx_fi (pc := 13) dX9_turn_13 rfl rfl (Nat.le_refl _) (Nat.le_refl _) rfl rfl
set_option maxHeartbeats 4000000 in
theorem q_turn_late {d : Nat} {x : Int32} {tx : (Nat → Int32) × Int32} {gg : (Nat → Int32) × (Nat → Int32) × (Nat → Int32) × (Nat → Int32) × Int32 × Int32 × Int32} {nt : (Nat → Int32)} {ns : (Nat → Int32)} {n2 : Int32} {n3 : Int32} {n4 : Int32} {n5 : Int32} {n6 : Int32} {n7 : Int32} {n8 : Int32} {tr : (Nat → Int32) × (Nat → Int32) × Int32 × Int32 × Int32 × Int32 × Int32 × Int32 × Int32} {wk : (Nat → Int32) × Int32 × Int32 × Int32} {pl : (Nat → Int32) × Int32 × Int32 × Int32 × Int32 × Int32} {ac : (Nat → zStt) × Int32 × Int32} {sl : (Nat → zStt) × (Nat → Int32)} {si : (Nat → Int32) × (Nat → Int32) × (Nat → Int32) × Int32} {sd : Int64} {tau : List zCel} (g0 : ¬ x < 1) (g1 : x ≤ 9) (hl : ¬ n5 + x ≤ n3 + n4) : zCf yX9_turn cX9_turn 2 (some .int) (d + 3) [.ref 0, .int x] (encC tx gg (nt, ns, n2, n3, n4, n5, n6, n7, n8) tr wk pl ac sl si sd ++ tau) (some (.int (-3))) (encC tx gg (nt, ns, n2, n3, n4, n5, n6, n7, n8) tr wk pl ac sl si sd ++ tau) := by
  refine zC.intro (by decide) (Nat.le_of_ble_eq_true rfl) rfl ?_
  refine zx_iload_n (pc := 0) dX9_turn_0 rfl rfl ?_
  refine zx_iconst (pc := 1) (v := 1) dX9_turn_1 (by decide) ?_
  refine zx_icmp_lt (pc := 2) (tgt := 11) dX9_turn_2 (by decide) (fun h2 => by first | exact absurd h2 g0 | exact absurd g0 h2) (fun h2 => ?_)
  refine zx_iload_n (pc := 5) dX9_turn_5 rfl rfl ?_
  refine zx_bipush (pc := 6) (v := 9) dX9_turn_6 (by decide) ?_
  refine zx_icmp_le (pc := 8) (tgt := 14) dX9_turn_8 (by decide) (fun h8 => ?_) (fun h8 => by first | exact absurd h8 g1 | exact absurd g1 h8)
  refine zx_aload_n (pc := 14) dX9_turn_14 rfl rfl ?_
  refine g0_2 (pc := 15) fl_X9_26 dX9_turn_15 ?_
  refine g8_5 (pc := 18) fl_X9_110 dX9_turn_18 ?_
  refine zx_iload_n (pc := 21) dX9_turn_21 rfl rfl ?_
  refine zx_iadd (pc := 22) dX9_turn_22 ?_
  refine zx_aload_n (pc := 23) dX9_turn_23 rfl rfl ?_
  refine g0_2 (pc := 24) fl_X9_26 dX9_turn_24 ?_
  refine g8_3 (pc := 27) fl_X9_104 dX9_turn_27 ?_
  refine zx_aload_n (pc := 30) dX9_turn_30 rfl rfl ?_
  refine g0_2 (pc := 31) fl_X9_26 dX9_turn_31 ?_
  refine g8_4 (pc := 34) fl_X9_107 dX9_turn_34 ?_
  refine zx_iadd (pc := 37) dX9_turn_37 ?_
  refine zx_icmp_le (pc := 38) (tgt := 44) dX9_turn_38 (by decide) (fun h38 => by first | exact absurd h38 hl | exact absurd hl h38) (fun h38 => ?_)
  refine zx_bipush (pc := 41) (v := -3) dX9_turn_41 (by decide) ?_
  exact zx_fi (pc := 43) dX9_turn_43 rfl rfl (Nat.le_refl _) (Nat.le_refl _) rfl rfl
set_option maxHeartbeats 4000000 in
theorem q_turn_ok {d : Nat} {n z : Nat} {x : Int32} {tx : (Nat → Int32) × Int32} {gg : (Nat → Int32) × (Nat → Int32) × (Nat → Int32) × (Nat → Int32) × Int32 × Int32 × Int32} {nt : (Nat → Int32)} {ns : (Nat → Int32)} {n2 : Int32} {n3 : Int32} {n4 : Int32} {n5 : Int32} {n6 : Int32} {n7 : Int32} {n8 : Int32} {tr : (Nat → Int32) × (Nat → Int32) × Int32 × Int32 × Int32 × Int32 × Int32 × Int32 × Int32} {wk : (Nat → Int32) × Int32 × Int32 × Int32} {pl : (Nat → Int32) × Int32 × Int32 × Int32 × Int32 × Int32} {ab : (Nat → zStt)} {sl : (Nat → zStt) × (Nat → Int32)} {si : (Nat → Int32) × (Nat → Int32) × (Nat → Int32) × Int32} {sd : Int64} {tau : List zCel} (g0 : ¬ x < 1) (g1 : x ≤ 9) (hl : n5 + x ≤ n3 + n4) (hn : n < 14) (hz : z ≤ 14) : zCf yX9_turn cX9_turn 2 (some .int) (d + 3) [.ref 0, .int x] (encC tx gg (nt, ns, n2, n3, n4, n5, n6, n7, n8) tr wk pl (ab, (nI n), (nI z)) sl si sd ++ tau) (some (.int (n5 + x))) (encC tx gg (nt, ns, n2, n3, n4, (n5 + x), n6, n7, n8) tr wk pl ((va_up ab n (zcpS (nt, ns, n2, n3, n4, n5, n6, n7, n8) (ab n))), (nI ((n + 1) % 14)), (nI (min (z + 1) 14))) sl si sd ++ tau) := by
  refine zC.intro (by decide) (Nat.le_of_ble_eq_true rfl) rfl ?_
  refine zx_iload_n (pc := 0) dX9_turn_0 rfl rfl ?_
  refine zx_iconst (pc := 1) (v := 1) dX9_turn_1 (by decide) ?_
  refine zx_icmp_lt (pc := 2) (tgt := 11) dX9_turn_2 (by decide) (fun h2 => by first | exact absurd h2 g0 | exact absurd g0 h2) (fun h2 => ?_)
  refine zx_iload_n (pc := 5) dX9_turn_5 rfl rfl ?_
  refine zx_bipush (pc := 6) (v := 9) dX9_turn_6 (by decide) ?_
  refine zx_icmp_le (pc := 8) (tgt := 14) dX9_turn_8 (by decide) (fun h8 => ?_) (fun h8 => by first | exact absurd h8 g1 | exact absurd g1 h8)
  refine zx_aload_n (pc := 14) dX9_turn_14 rfl rfl ?_
  refine g0_2 (pc := 15) fl_X9_26 dX9_turn_15 ?_
  refine g8_5 (pc := 18) fl_X9_110 dX9_turn_18 ?_
  refine zx_iload_n (pc := 21) dX9_turn_21 rfl rfl ?_
  refine zx_iadd (pc := 22) dX9_turn_22 ?_
  refine zx_aload_n (pc := 23) dX9_turn_23 rfl rfl ?_
  refine g0_2 (pc := 24) fl_X9_26 dX9_turn_24 ?_
  refine g8_3 (pc := 27) fl_X9_104 dX9_turn_27 ?_
  refine zx_aload_n (pc := 30) dX9_turn_30 rfl rfl ?_
  refine g0_2 (pc := 31) fl_X9_26 dX9_turn_31 ?_
  refine g8_4 (pc := 34) fl_X9_107 dX9_turn_34 ?_
  refine zx_iadd (pc := 37) dX9_turn_37 ?_
  refine zx_icmp_le (pc := 38) (tgt := 44) dX9_turn_38 (by decide) (fun h38 => ?_) (fun h38 => by first | exact absurd h38 hl | exact absurd hl h38)
  refine zx_aload_n (pc := 44) dX9_turn_44 rfl rfl ?_
  refine g0_6 (pc := 45) fl_X9_50 dX9_turn_45 ?_
  refine zx_aload_n (pc := 48) dX9_turn_48 rfl rfl ?_
  refine g0_2 (pc := 49) fl_X9_26 dX9_turn_49 ?_
  refine zx_fV0 (pc := 52) (k_remember (d := d) hn hz) cl_X9_160 p18 rfl dX9_turn_52 rfl rfl (by omega) (Nat.le_of_ble_eq_true rfl) (Nat.le_refl _) (Nat.le_refl _) ?_
  refine zx_aload_n (pc := 55) dX9_turn_55 rfl rfl ?_
  refine g0_2 (pc := 56) fl_X9_26 dX9_turn_56 ?_
  refine zx_dup (pc := 59) dX9_turn_59 rfl ?_
  refine g8_5 (pc := 60) fl_X9_110 dX9_turn_60 ?_
  refine zx_iload_n (pc := 63) dX9_turn_63 rfl rfl ?_
  refine zx_iadd (pc := 64) dX9_turn_64 ?_
  refine u8_5 (pc := 65) fl_X9_110 dX9_turn_65 ?_
  refine zx_aload_n (pc := 68) dX9_turn_68 rfl rfl ?_
  refine g0_2 (pc := 69) fl_X9_26 dX9_turn_69 ?_
  refine g8_5 (pc := 72) fl_X9_110 dX9_turn_72 ?_
  exact zx_fi (pc := 75) dX9_turn_75 rfl rfl (Nat.le_refl _) (Nat.le_refl _) rfl rfl
set_option maxHeartbeats 4000000 in
theorem q_lay_bad {d : Nat} {x : Int32} {tx : (Nat → Int32) × Int32} {gg : (Nat → Int32) × (Nat → Int32) × (Nat → Int32) × (Nat → Int32) × Int32 × Int32 × Int32} {nw : (Nat → Int32) × (Nat → Int32) × Int32 × Int32 × Int32 × Int32 × Int32 × Int32 × Int32} {tr : (Nat → Int32) × (Nat → Int32) × Int32 × Int32 × Int32 × Int32 × Int32 × Int32 × Int32} {wk : (Nat → Int32) × Int32 × Int32 × Int32} {pl : (Nat → Int32) × Int32 × Int32 × Int32 × Int32 × Int32} {ac : (Nat → zStt) × Int32 × Int32} {sl : (Nat → zStt) × (Nat → Int32)} {si : (Nat → Int32) × (Nat → Int32) × (Nat → Int32) × Int32} {sd : Int64} {tau : List zCel} (hb : ¬ x = 0) (hc : ¬ x = 1) : zCf yX9_lay cX9_lay 2 (some .int) (d + 4) [.ref 0, .int x] (encC tx gg nw tr wk pl ac sl si sd ++ tau) (some (.int (-2))) (encC tx gg nw tr wk pl ac sl si sd ++ tau) := by
  refine zC.intro (by decide) (Nat.le_of_ble_eq_true rfl) rfl ?_
  refine zx_iload_n (pc := 0) dX9_lay_0 rfl rfl ?_
  refine zx_if_eq (pc := 1) (tgt := 12) dX9_lay_1 (by decide) (fun h1 => by first | exact absurd h1 hb | exact absurd hb h1) (fun h1 => ?_)
  refine zx_iload_n (pc := 4) dX9_lay_4 rfl rfl ?_
  refine zx_iconst (pc := 5) (v := 1) dX9_lay_5 (by decide) ?_
  refine zx_icmp_eq (pc := 6) (tgt := 12) dX9_lay_6 (by decide) (fun h6 => by first | exact absurd h6 hc | exact absurd hc h6) (fun h6 => ?_)
  refine zx_bipush (pc := 9) (v := -2) dX9_lay_9 (by decide) ?_
  exact zx_fi (pc := 11) dX9_lay_11 rfl rfl (Nat.le_refl _) (Nat.le_refl _) rfl rfl
set_option maxHeartbeats 4000000 in
theorem q_lay_full0 {d : Nat}  {tx : (Nat → Int32) × Int32} {gg : (Nat → Int32) × (Nat → Int32) × (Nat → Int32) × (Nat → Int32) × Int32 × Int32 × Int32} {nt : (Nat → Int32)} {ns : (Nat → Int32)} {n2 : Int32} {n3 : Int32} {n4 : Int32} {n5 : Int32} {n6 : Int32} {n7 : Int32} {n8 : Int32} {tr : (Nat → Int32) × (Nat → Int32) × Int32 × Int32 × Int32 × Int32 × Int32 × Int32 × Int32} {wk : (Nat → Int32) × Int32 × Int32 × Int32} {pl : (Nat → Int32) × Int32 × Int32 × Int32 × Int32 × Int32} {ac : (Nat → zStt) × Int32 × Int32} {sl : (Nat → zStt) × (Nat → Int32)} {si : (Nat → Int32) × (Nat → Int32) × (Nat → Int32) × Int32} {sd : Int64} {tau : List zCel} (hf : ¬ zHt n6 < 8) : zCf yX9_lay cX9_lay 2 (some .int) (d + 4) [.ref 0, .int 0] (encC tx gg (nt, ns, n2, n3, n4, n5, n6, n7, n8) tr wk pl ac sl si sd ++ tau) (some (.int (-4))) (encC tx gg (nt, ns, n2, n3, n4, n5, n6, n7, n8) tr wk pl ac sl si sd ++ tau) := by
  refine zC.intro (by decide) (Nat.le_of_ble_eq_true rfl) rfl ?_
  refine zx_iload_n (pc := 0) dX9_lay_0 rfl rfl ?_
  refine zx_if_eq (pc := 1) (tgt := 12) dX9_lay_1 (by decide) (fun h1 => ?_) (fun h1 => by first | exact absurd h1 (show (0 : Int32) = 0 from rfl) | exact absurd (show (0 : Int32) = 0 from rfl) h1)
  refine zx_aload_n (pc := 12) dX9_lay_12 rfl rfl ?_
  refine g0_2 (pc := 13) fl_X9_26 dX9_lay_13 ?_
  refine g8_6 (pc := 16) fl_X9_113 dX9_lay_16 ?_
  refine zx_fS1 (pc := 19) (k_heightOf (d := d + 3) ) cl_X9_116 dX9_lay_19 rfl rfl (by omega) (Nat.le_of_ble_eq_true rfl) (Nat.le_refl _) (Nat.le_refl _) ?_
  refine zx_bipush (pc := 22) (v := 8) dX9_lay_22 (by decide) ?_
  refine zx_icmp_lt (pc := 24) (tgt := 30) dX9_lay_24 (by decide) (fun h24 => by first | exact absurd h24 hf | exact absurd hf h24) (fun h24 => ?_)
  refine zx_bipush (pc := 27) (v := -4) dX9_lay_27 (by decide) ?_
  exact zx_fi (pc := 29) dX9_lay_29 rfl rfl (Nat.le_refl _) (Nat.le_refl _) rfl rfl
set_option maxHeartbeats 4000000 in
theorem q_lay_full1 {d : Nat}  {tx : (Nat → Int32) × Int32} {gg : (Nat → Int32) × (Nat → Int32) × (Nat → Int32) × (Nat → Int32) × Int32 × Int32 × Int32} {nt : (Nat → Int32)} {ns : (Nat → Int32)} {n2 : Int32} {n3 : Int32} {n4 : Int32} {n5 : Int32} {n6 : Int32} {n7 : Int32} {n8 : Int32} {tr : (Nat → Int32) × (Nat → Int32) × Int32 × Int32 × Int32 × Int32 × Int32 × Int32 × Int32} {wk : (Nat → Int32) × Int32 × Int32 × Int32} {pl : (Nat → Int32) × Int32 × Int32 × Int32 × Int32 × Int32} {ac : (Nat → zStt) × Int32 × Int32} {sl : (Nat → zStt) × (Nat → Int32)} {si : (Nat → Int32) × (Nat → Int32) × (Nat → Int32) × Int32} {sd : Int64} {tau : List zCel} (hf : ¬ zHt n6 < 8) : zCf yX9_lay cX9_lay 2 (some .int) (d + 4) [.ref 0, .int 1] (encC tx gg (nt, ns, n2, n3, n4, n5, n6, n7, n8) tr wk pl ac sl si sd ++ tau) (some (.int (-4))) (encC tx gg (nt, ns, n2, n3, n4, n5, n6, n7, n8) tr wk pl ac sl si sd ++ tau) := by
  refine zC.intro (by decide) (Nat.le_of_ble_eq_true rfl) rfl ?_
  refine zx_iload_n (pc := 0) dX9_lay_0 rfl rfl ?_
  refine zx_if_eq (pc := 1) (tgt := 12) dX9_lay_1 (by decide) (fun h1 => by first | exact absurd h1 (show ¬ (1 : Int32) = 0 by decide) | exact absurd (show ¬ (1 : Int32) = 0 by decide) h1) (fun h1 => ?_)
  refine zx_iload_n (pc := 4) dX9_lay_4 rfl rfl ?_
  refine zx_iconst (pc := 5) (v := 1) dX9_lay_5 (by decide) ?_
  refine zx_icmp_eq (pc := 6) (tgt := 12) dX9_lay_6 (by decide) (fun h6 => ?_) (fun h6 => by first | exact absurd h6 (show (1 : Int32) = 1 from rfl) | exact absurd (show (1 : Int32) = 1 from rfl) h6)
  refine zx_aload_n (pc := 12) dX9_lay_12 rfl rfl ?_
  refine g0_2 (pc := 13) fl_X9_26 dX9_lay_13 ?_
  refine g8_6 (pc := 16) fl_X9_113 dX9_lay_16 ?_
  refine zx_fS1 (pc := 19) (k_heightOf (d := d + 3) ) cl_X9_116 dX9_lay_19 rfl rfl (by omega) (Nat.le_of_ble_eq_true rfl) (Nat.le_refl _) (Nat.le_refl _) ?_
  refine zx_bipush (pc := 22) (v := 8) dX9_lay_22 (by decide) ?_
  refine zx_icmp_lt (pc := 24) (tgt := 30) dX9_lay_24 (by decide) (fun h24 => by first | exact absurd h24 hf | exact absurd hf h24) (fun h24 => ?_)
  refine zx_bipush (pc := 27) (v := -4) dX9_lay_27 (by decide) ?_
  exact zx_fi (pc := 29) dX9_lay_29 rfl rfl (Nat.le_refl _) (Nat.le_refl _) rfl rfl
set_option maxHeartbeats 4000000 in
theorem q_lay_late0 {d : Nat}  {tx : (Nat → Int32) × Int32} {gg : (Nat → Int32) × (Nat → Int32) × (Nat → Int32) × (Nat → Int32) × Int32 × Int32 × Int32} {nt : (Nat → Int32)} {ns : (Nat → Int32)} {n2 : Int32} {n3 : Int32} {n4 : Int32} {n5 : Int32} {n6 : Int32} {n7 : Int32} {n8 : Int32} {tr : (Nat → Int32) × (Nat → Int32) × Int32 × Int32 × Int32 × Int32 × Int32 × Int32 × Int32} {wk : (Nat → Int32) × Int32 × Int32 × Int32} {pl : (Nat → Int32) × Int32 × Int32 × Int32 × Int32 × Int32} {ac : (Nat → zStt) × Int32 × Int32} {sl : (Nat → zStt) × (Nat → Int32)} {si : (Nat → Int32) × (Nat → Int32) × (Nat → Int32) × Int32} {sd : Int64} {tau : List zCel} (hf : zHt n6 < 8) (hl : ¬ 2 ≤ n4) : zCf yX9_lay cX9_lay 2 (some .int) (d + 4) [.ref 0, .int 0] (encC tx gg (nt, ns, n2, n3, n4, n5, n6, n7, n8) tr wk pl ac sl si sd ++ tau) (some (.int (-3))) (encC tx gg (nt, ns, n2, n3, n4, n5, n6, n7, n8) tr wk pl ac sl si sd ++ tau) := by
  refine zC.intro (by decide) (Nat.le_of_ble_eq_true rfl) rfl ?_
  refine zx_iload_n (pc := 0) dX9_lay_0 rfl rfl ?_
  refine zx_if_eq (pc := 1) (tgt := 12) dX9_lay_1 (by decide) (fun h1 => ?_) (fun h1 => by first | exact absurd h1 (show (0 : Int32) = 0 from rfl) | exact absurd (show (0 : Int32) = 0 from rfl) h1)
  refine zx_aload_n (pc := 12) dX9_lay_12 rfl rfl ?_
  refine g0_2 (pc := 13) fl_X9_26 dX9_lay_13 ?_
  refine g8_6 (pc := 16) fl_X9_113 dX9_lay_16 ?_
  refine zx_fS1 (pc := 19) (k_heightOf (d := d + 3) ) cl_X9_116 dX9_lay_19 rfl rfl (by omega) (Nat.le_of_ble_eq_true rfl) (Nat.le_refl _) (Nat.le_refl _) ?_
  refine zx_bipush (pc := 22) (v := 8) dX9_lay_22 (by decide) ?_
  refine zx_icmp_lt (pc := 24) (tgt := 30) dX9_lay_24 (by decide) (fun h24 => ?_) (fun h24 => by first | exact absurd h24 hf | exact absurd hf h24)
  refine zx_aload_n (pc := 30) dX9_lay_30 rfl rfl ?_
  refine g0_2 (pc := 31) fl_X9_26 dX9_lay_31 ?_
  refine zx_iload_n (pc := 34) dX9_lay_34 rfl rfl ?_
  refine zx_fV1 (pc := 35) (k_bricks (d := d + 3) ) cl_X9_178 p8 rfl dX9_lay_35 rfl rfl (by omega) (Nat.le_of_ble_eq_true rfl) (Nat.le_refl _) (Nat.le_refl _) ?_
  refine zx_iconst (pc := 38) (v := 2) dX9_lay_38 (by decide) ?_
  refine zx_icmp_ge (pc := 39) (tgt := 45) dX9_lay_39 (by decide) (fun h39 => by first | exact absurd h39 (by simpa using hl) | exact absurd (by simpa using hl) h39) (fun h39 => ?_)
  refine zx_bipush (pc := 42) (v := -3) dX9_lay_42 (by decide) ?_
  exact zx_fi (pc := 44) dX9_lay_44 rfl rfl (Nat.le_refl _) (Nat.le_refl _) rfl rfl
set_option maxHeartbeats 4000000 in
theorem q_lay_late1 {d : Nat}  {tx : (Nat → Int32) × Int32} {gg : (Nat → Int32) × (Nat → Int32) × (Nat → Int32) × (Nat → Int32) × Int32 × Int32 × Int32} {nt : (Nat → Int32)} {ns : (Nat → Int32)} {n2 : Int32} {n3 : Int32} {n4 : Int32} {n5 : Int32} {n6 : Int32} {n7 : Int32} {n8 : Int32} {tr : (Nat → Int32) × (Nat → Int32) × Int32 × Int32 × Int32 × Int32 × Int32 × Int32 × Int32} {wk : (Nat → Int32) × Int32 × Int32 × Int32} {pl : (Nat → Int32) × Int32 × Int32 × Int32 × Int32 × Int32} {ac : (Nat → zStt) × Int32 × Int32} {sl : (Nat → zStt) × (Nat → Int32)} {si : (Nat → Int32) × (Nat → Int32) × (Nat → Int32) × Int32} {sd : Int64} {tau : List zCel} (hf : zHt n6 < 8) (hl : ¬ 2 ≤ n3) : zCf yX9_lay cX9_lay 2 (some .int) (d + 4) [.ref 0, .int 1] (encC tx gg (nt, ns, n2, n3, n4, n5, n6, n7, n8) tr wk pl ac sl si sd ++ tau) (some (.int (-3))) (encC tx gg (nt, ns, n2, n3, n4, n5, n6, n7, n8) tr wk pl ac sl si sd ++ tau) := by
  refine zC.intro (by decide) (Nat.le_of_ble_eq_true rfl) rfl ?_
  refine zx_iload_n (pc := 0) dX9_lay_0 rfl rfl ?_
  refine zx_if_eq (pc := 1) (tgt := 12) dX9_lay_1 (by decide) (fun h1 => by first | exact absurd h1 (show ¬ (1 : Int32) = 0 by decide) | exact absurd (show ¬ (1 : Int32) = 0 by decide) h1) (fun h1 => ?_)
  refine zx_iload_n (pc := 4) dX9_lay_4 rfl rfl ?_
  refine zx_iconst (pc := 5) (v := 1) dX9_lay_5 (by decide) ?_
  refine zx_icmp_eq (pc := 6) (tgt := 12) dX9_lay_6 (by decide) (fun h6 => ?_) (fun h6 => by first | exact absurd h6 (show (1 : Int32) = 1 from rfl) | exact absurd (show (1 : Int32) = 1 from rfl) h6)
  refine zx_aload_n (pc := 12) dX9_lay_12 rfl rfl ?_
  refine g0_2 (pc := 13) fl_X9_26 dX9_lay_13 ?_
  refine g8_6 (pc := 16) fl_X9_113 dX9_lay_16 ?_
  refine zx_fS1 (pc := 19) (k_heightOf (d := d + 3) ) cl_X9_116 dX9_lay_19 rfl rfl (by omega) (Nat.le_of_ble_eq_true rfl) (Nat.le_refl _) (Nat.le_refl _) ?_
  refine zx_bipush (pc := 22) (v := 8) dX9_lay_22 (by decide) ?_
  refine zx_icmp_lt (pc := 24) (tgt := 30) dX9_lay_24 (by decide) (fun h24 => ?_) (fun h24 => by first | exact absurd h24 hf | exact absurd hf h24)
  refine zx_aload_n (pc := 30) dX9_lay_30 rfl rfl ?_
  refine g0_2 (pc := 31) fl_X9_26 dX9_lay_31 ?_
  refine zx_iload_n (pc := 34) dX9_lay_34 rfl rfl ?_
  refine zx_fV1 (pc := 35) (k_bricks (d := d + 3) ) cl_X9_178 p8 rfl dX9_lay_35 rfl rfl (by omega) (Nat.le_of_ble_eq_true rfl) (Nat.le_refl _) (Nat.le_refl _) ?_
  refine zx_iconst (pc := 38) (v := 2) dX9_lay_38 (by decide) ?_
  refine zx_icmp_ge (pc := 39) (tgt := 45) dX9_lay_39 (by decide) (fun h39 => by first | exact absurd h39 (by simpa using hl) | exact absurd (by simpa using hl) h39) (fun h39 => ?_)
  refine zx_bipush (pc := 42) (v := -3) dX9_lay_42 (by decide) ?_
  exact zx_fi (pc := 44) dX9_lay_44 rfl rfl (Nat.le_refl _) (Nat.le_refl _) rfl rfl
set_option maxHeartbeats 4000000 in
theorem q_lay_ok0 {d : Nat} {n z : Nat} {tx : (Nat → Int32) × Int32} {gg : (Nat → Int32) × (Nat → Int32) × (Nat → Int32) × (Nat → Int32) × Int32 × Int32 × Int32} {nt : (Nat → Int32)} {ns : (Nat → Int32)} {n2 : Int32} {n3 : Int32} {n4 : Int32} {n5 : Int32} {n6 : Int32} {n7 : Int32} {n8 : Int32} {tr : (Nat → Int32) × (Nat → Int32) × Int32 × Int32 × Int32 × Int32 × Int32 × Int32 × Int32} {wk : (Nat → Int32) × Int32 × Int32 × Int32} {pl : (Nat → Int32) × Int32 × Int32 × Int32 × Int32 × Int32} {ab : (Nat → zStt)} {sl : (Nat → zStt) × (Nat → Int32)} {si : (Nat → Int32) × (Nat → Int32) × (Nat → Int32) × Int32} {sd : Int64} {tau : List zCel} (hf : zHt n6 < 8) (hl : 2 ≤ n4) (hn : n < 14) (hz : z ≤ 14) : zCf yX9_lay cX9_lay 2 (some .int) (d + 4) [.ref 0, .int 0] (encC tx gg (nt, ns, n2, n3, n4, n5, n6, n7, n8) tr wk pl (ab, (nI n), (nI z)) sl si sd ++ tau) (some (.int (zHt (zWc n6 0)))) (encC tx gg (nt, ns, n2, n3, (n4 - 2), n5, (zWc n6 0), n7, n8) tr wk pl ((va_up ab n (zcpS (nt, ns, n2, n3, n4, n5, n6, n7, n8) (ab n))), (nI ((n + 1) % 14)), (nI (min (z + 1) 14))) sl si sd ++ tau) := by
  refine zC.intro (by decide) (Nat.le_of_ble_eq_true rfl) rfl ?_
  refine zx_iload_n (pc := 0) dX9_lay_0 rfl rfl ?_
  refine zx_if_eq (pc := 1) (tgt := 12) dX9_lay_1 (by decide) (fun h1 => ?_) (fun h1 => by first | exact absurd h1 (show (0 : Int32) = 0 from rfl) | exact absurd (show (0 : Int32) = 0 from rfl) h1)
  refine zx_aload_n (pc := 12) dX9_lay_12 rfl rfl ?_
  refine g0_2 (pc := 13) fl_X9_26 dX9_lay_13 ?_
  refine g8_6 (pc := 16) fl_X9_113 dX9_lay_16 ?_
  refine zx_fS1 (pc := 19) (k_heightOf (d := d + 3) ) cl_X9_116 dX9_lay_19 rfl rfl (by omega) (Nat.le_of_ble_eq_true rfl) (Nat.le_refl _) (Nat.le_refl _) ?_
  refine zx_bipush (pc := 22) (v := 8) dX9_lay_22 (by decide) ?_
  refine zx_icmp_lt (pc := 24) (tgt := 30) dX9_lay_24 (by decide) (fun h24 => ?_) (fun h24 => by first | exact absurd h24 hf | exact absurd hf h24)
  refine zx_aload_n (pc := 30) dX9_lay_30 rfl rfl ?_
  refine g0_2 (pc := 31) fl_X9_26 dX9_lay_31 ?_
  refine zx_iload_n (pc := 34) dX9_lay_34 rfl rfl ?_
  refine zx_fV1 (pc := 35) (k_bricks (d := d + 3) ) cl_X9_178 p8 rfl dX9_lay_35 rfl rfl (by omega) (Nat.le_of_ble_eq_true rfl) (Nat.le_refl _) (Nat.le_refl _) ?_
  refine zx_iconst (pc := 38) (v := 2) dX9_lay_38 (by decide) ?_
  refine zx_icmp_ge (pc := 39) (tgt := 45) dX9_lay_39 (by decide) (fun h39 => ?_) (fun h39 => by first | exact absurd h39 (by simpa using hl) | exact absurd (by simpa using hl) h39)
  refine zx_aload_n (pc := 45) dX9_lay_45 rfl rfl ?_
  refine g0_6 (pc := 46) fl_X9_50 dX9_lay_46 ?_
  refine zx_aload_n (pc := 49) dX9_lay_49 rfl rfl ?_
  refine g0_2 (pc := 50) fl_X9_26 dX9_lay_50 ?_
  refine zx_fV0 (pc := 53) (k_remember (d := d + 1) hn hz) cl_X9_160 p18 rfl dX9_lay_53 rfl rfl (by omega) (Nat.le_of_ble_eq_true rfl) (Nat.le_refl _) (Nat.le_refl _) ?_
  refine zx_aload_n (pc := 56) dX9_lay_56 rfl rfl ?_
  refine g0_2 (pc := 57) fl_X9_26 dX9_lay_57 ?_
  refine zx_iload_n (pc := 60) dX9_lay_60 rfl rfl ?_
  refine zx_fV0 (pc := 61) (k_layCourse (d := d) ) cl_X9_181 p8 rfl dX9_lay_61 rfl rfl (by omega) (Nat.le_of_ble_eq_true rfl) (Nat.le_refl _) (Nat.le_refl _) ?_
  refine zx_aload_n (pc := 64) dX9_lay_64 rfl rfl ?_
  refine g0_2 (pc := 65) fl_X9_26 dX9_lay_65 ?_
  refine g8_6 (pc := 68) fl_X9_113 dX9_lay_68 ?_
  refine zx_fS1 (pc := 71) (k_heightOf (d := d + 3) ) cl_X9_116 dX9_lay_71 rfl rfl (by omega) (Nat.le_of_ble_eq_true rfl) (Nat.le_refl _) (Nat.le_refl _) ?_
  exact zx_fi (pc := 74) dX9_lay_74 rfl rfl (Nat.le_refl _) (Nat.le_refl _) rfl rfl
set_option maxHeartbeats 4000000 in
theorem q_lay_ok1 {d : Nat} {n z : Nat} {tx : (Nat → Int32) × Int32} {gg : (Nat → Int32) × (Nat → Int32) × (Nat → Int32) × (Nat → Int32) × Int32 × Int32 × Int32} {nt : (Nat → Int32)} {ns : (Nat → Int32)} {n2 : Int32} {n3 : Int32} {n4 : Int32} {n5 : Int32} {n6 : Int32} {n7 : Int32} {n8 : Int32} {tr : (Nat → Int32) × (Nat → Int32) × Int32 × Int32 × Int32 × Int32 × Int32 × Int32 × Int32} {wk : (Nat → Int32) × Int32 × Int32 × Int32} {pl : (Nat → Int32) × Int32 × Int32 × Int32 × Int32 × Int32} {ab : (Nat → zStt)} {sl : (Nat → zStt) × (Nat → Int32)} {si : (Nat → Int32) × (Nat → Int32) × (Nat → Int32) × Int32} {sd : Int64} {tau : List zCel} (hf : zHt n6 < 8) (hl : 2 ≤ n3) (hn : n < 14) (hz : z ≤ 14) : zCf yX9_lay cX9_lay 2 (some .int) (d + 4) [.ref 0, .int 1] (encC tx gg (nt, ns, n2, n3, n4, n5, n6, n7, n8) tr wk pl (ab, (nI n), (nI z)) sl si sd ++ tau) (some (.int (zHt (zWc n6 1)))) (encC tx gg (nt, ns, n2, (n3 - 2), n4, n5, (zWc n6 1), n7, n8) tr wk pl ((va_up ab n (zcpS (nt, ns, n2, n3, n4, n5, n6, n7, n8) (ab n))), (nI ((n + 1) % 14)), (nI (min (z + 1) 14))) sl si sd ++ tau) := by
  refine zC.intro (by decide) (Nat.le_of_ble_eq_true rfl) rfl ?_
  refine zx_iload_n (pc := 0) dX9_lay_0 rfl rfl ?_
  refine zx_if_eq (pc := 1) (tgt := 12) dX9_lay_1 (by decide) (fun h1 => by first | exact absurd h1 (show ¬ (1 : Int32) = 0 by decide) | exact absurd (show ¬ (1 : Int32) = 0 by decide) h1) (fun h1 => ?_)
  refine zx_iload_n (pc := 4) dX9_lay_4 rfl rfl ?_
  refine zx_iconst (pc := 5) (v := 1) dX9_lay_5 (by decide) ?_
  refine zx_icmp_eq (pc := 6) (tgt := 12) dX9_lay_6 (by decide) (fun h6 => ?_) (fun h6 => by first | exact absurd h6 (show (1 : Int32) = 1 from rfl) | exact absurd (show (1 : Int32) = 1 from rfl) h6)
  refine zx_aload_n (pc := 12) dX9_lay_12 rfl rfl ?_
  refine g0_2 (pc := 13) fl_X9_26 dX9_lay_13 ?_
  refine g8_6 (pc := 16) fl_X9_113 dX9_lay_16 ?_
  refine zx_fS1 (pc := 19) (k_heightOf (d := d + 3) ) cl_X9_116 dX9_lay_19 rfl rfl (by omega) (Nat.le_of_ble_eq_true rfl) (Nat.le_refl _) (Nat.le_refl _) ?_
  refine zx_bipush (pc := 22) (v := 8) dX9_lay_22 (by decide) ?_
  refine zx_icmp_lt (pc := 24) (tgt := 30) dX9_lay_24 (by decide) (fun h24 => ?_) (fun h24 => by first | exact absurd h24 hf | exact absurd hf h24)
  refine zx_aload_n (pc := 30) dX9_lay_30 rfl rfl ?_
  refine g0_2 (pc := 31) fl_X9_26 dX9_lay_31 ?_
  refine zx_iload_n (pc := 34) dX9_lay_34 rfl rfl ?_
  refine zx_fV1 (pc := 35) (k_bricks (d := d + 3) ) cl_X9_178 p8 rfl dX9_lay_35 rfl rfl (by omega) (Nat.le_of_ble_eq_true rfl) (Nat.le_refl _) (Nat.le_refl _) ?_
  refine zx_iconst (pc := 38) (v := 2) dX9_lay_38 (by decide) ?_
  refine zx_icmp_ge (pc := 39) (tgt := 45) dX9_lay_39 (by decide) (fun h39 => ?_) (fun h39 => by first | exact absurd h39 (by simpa using hl) | exact absurd (by simpa using hl) h39)
  refine zx_aload_n (pc := 45) dX9_lay_45 rfl rfl ?_
  refine g0_6 (pc := 46) fl_X9_50 dX9_lay_46 ?_
  refine zx_aload_n (pc := 49) dX9_lay_49 rfl rfl ?_
  refine g0_2 (pc := 50) fl_X9_26 dX9_lay_50 ?_
  refine zx_fV0 (pc := 53) (k_remember (d := d + 1) hn hz) cl_X9_160 p18 rfl dX9_lay_53 rfl rfl (by omega) (Nat.le_of_ble_eq_true rfl) (Nat.le_refl _) (Nat.le_refl _) ?_
  refine zx_aload_n (pc := 56) dX9_lay_56 rfl rfl ?_
  refine g0_2 (pc := 57) fl_X9_26 dX9_lay_57 ?_
  refine zx_iload_n (pc := 60) dX9_lay_60 rfl rfl ?_
  refine zx_fV0 (pc := 61) (k_layCourse (d := d) ) cl_X9_181 p8 rfl dX9_lay_61 rfl rfl (by omega) (Nat.le_of_ble_eq_true rfl) (Nat.le_refl _) (Nat.le_refl _) ?_
  refine zx_aload_n (pc := 64) dX9_lay_64 rfl rfl ?_
  refine g0_2 (pc := 65) fl_X9_26 dX9_lay_65 ?_
  refine g8_6 (pc := 68) fl_X9_113 dX9_lay_68 ?_
  refine zx_fS1 (pc := 71) (k_heightOf (d := d + 3) ) cl_X9_116 dX9_lay_71 rfl rfl (by omega) (Nat.le_of_ble_eq_true rfl) (Nat.le_refl _) (Nat.le_refl _) ?_
  exact zx_fi (pc := 74) dX9_lay_74 rfl rfl (Nat.le_refl _) (Nat.le_refl _) rfl rfl
set_option maxHeartbeats 4000000 in
theorem q_rain {d : Nat} {n z : Nat} {tx : (Nat → Int32) × Int32} {gg : (Nat → Int32) × (Nat → Int32) × (Nat → Int32) × (Nat → Int32) × Int32 × Int32 × Int32} {nt : (Nat → Int32)} {ns : (Nat → Int32)} {n2 : Int32} {n3 : Int32} {n4 : Int32} {n5 : Int32} {n6 : Int32} {n7 : Int32} {n8 : Int32} {tr : (Nat → Int32) × (Nat → Int32) × Int32 × Int32 × Int32 × Int32 × Int32 × Int32 × Int32} {wk : (Nat → Int32) × Int32 × Int32 × Int32} {pl : (Nat → Int32) × Int32 × Int32 × Int32 × Int32 × Int32} {ab : (Nat → zStt)} {sl : (Nat → zStt) × (Nat → Int32)} {si : (Nat → Int32) × (Nat → Int32) × (Nat → Int32) × Int32} {sd : Int64} {tau : List zCel} (hn : n < 14) (hz : z ≤ 14) : zCf yX9_rain cX9_rain 1 (some .int) (d + 3) [.ref 0] (encC tx gg (nt, ns, n2, n3, n4, n5, n6, n7, n8) tr wk pl (ab, (nI n), (nI z)) sl si sd ++ tau) (some (.int (zHt (zRn n6)))) (encC tx gg (nt, ns, n2, n3, n4, n5, (zRn n6), n7, n8) tr wk pl ((va_up ab n (zcpS (nt, ns, n2, n3, n4, n5, n6, n7, n8) (ab n))), (nI ((n + 1) % 14)), (nI (min (z + 1) 14))) sl si sd ++ tau) := by
  refine zC.intro (by decide) (Nat.le_of_ble_eq_true rfl) rfl ?_
  refine zx_aload_n (pc := 0) dX9_rain_0 rfl rfl ?_
  refine g0_6 (pc := 1) fl_X9_50 dX9_rain_1 ?_
  refine zx_aload_n (pc := 4) dX9_rain_4 rfl rfl ?_
  refine g0_2 (pc := 5) fl_X9_26 dX9_rain_5 ?_
  refine zx_fV0 (pc := 8) (k_remember (d := d) hn hz) cl_X9_160 p18 rfl dX9_rain_8 rfl rfl (by omega) (Nat.le_of_ble_eq_true rfl) (Nat.le_refl _) (Nat.le_refl _) ?_
  refine zx_aload_n (pc := 11) dX9_rain_11 rfl rfl ?_
  refine g0_2 (pc := 12) fl_X9_26 dX9_rain_12 ?_
  refine zx_aload_n (pc := 15) dX9_rain_15 rfl rfl ?_
  refine g0_2 (pc := 16) fl_X9_26 dX9_rain_16 ?_
  refine g8_6 (pc := 19) fl_X9_113 dX9_rain_19 ?_
  refine zx_fS1 (pc := 22) (k_behindRain (d := d + 2) ) cl_X9_185 dX9_rain_22 rfl rfl (by omega) (Nat.le_of_ble_eq_true rfl) (Nat.le_refl _) (Nat.le_refl _) ?_
  refine u8_6 (pc := 25) fl_X9_113 dX9_rain_25 ?_
  refine zx_aload_n (pc := 28) dX9_rain_28 rfl rfl ?_
  refine g0_2 (pc := 29) fl_X9_26 dX9_rain_29 ?_
  refine g8_6 (pc := 32) fl_X9_113 dX9_rain_32 ?_
  refine zx_fS1 (pc := 35) (k_heightOf (d := d + 2) ) cl_X9_116 dX9_rain_35 rfl rfl (by omega) (Nat.le_of_ble_eq_true rfl) (Nat.le_refl _) (Nat.le_refl _) ?_
  exact zx_fi (pc := 38) dX9_rain_38 rfl rfl (Nat.le_refl _) (Nat.le_refl _) rfl rfl
set_option maxHeartbeats 4000000 in
theorem q_undo_late {d : Nat}  {tx : (Nat → Int32) × Int32} {gg : (Nat → Int32) × (Nat → Int32) × (Nat → Int32) × (Nat → Int32) × Int32 × Int32 × Int32} {nw : (Nat → Int32) × (Nat → Int32) × Int32 × Int32 × Int32 × Int32 × Int32 × Int32 × Int32} {tr : (Nat → Int32) × (Nat → Int32) × Int32 × Int32 × Int32 × Int32 × Int32 × Int32 × Int32} {wk : (Nat → Int32) × Int32 × Int32 × Int32} {pl : (Nat → Int32) × Int32 × Int32 × Int32 × Int32 × Int32} {ab : (Nat → zStt)} {an : Int32} {sl : (Nat → zStt) × (Nat → Int32)} {si : (Nat → Int32) × (Nat → Int32) × (Nat → Int32) × Int32} {sd : Int64} {tau : List zCel}  : zCf yX9_undo cX9_undo 1 (some .int) (d + 3) [.ref 0] (encC tx gg nw tr wk pl (ab, an, (nI 0)) sl si sd ++ tau) (some (.int (-3))) (encC tx gg nw tr wk pl (ab, an, (nI 0)) sl si sd ++ tau) := by
  refine zC.intro (by decide) (Nat.le_of_ble_eq_true rfl) rfl ?_
  refine zx_aload_n (pc := 0) dX9_undo_0 rfl rfl ?_
  refine g0_6 (pc := 1) fl_X9_50 dX9_undo_1 ?_
  refine g18_2 (pc := 4) fl_X9_131 dX9_undo_4 ?_
  refine zx_if_ne (pc := 7) (tgt := 13) dX9_undo_7 (by decide) (fun h7 => by first | exact absurd h7 (show ¬ ¬ nI 0 = 0 by decide) | exact absurd (show ¬ ¬ nI 0 = 0 by decide) h7) (fun h7 => ?_)
  refine zx_bipush (pc := 10) (v := -3) dX9_undo_10 (by decide) ?_
  exact zx_fi (pc := 12) dX9_undo_12 rfl rfl (Nat.le_refl _) (Nat.le_refl _) rfl rfl
set_option maxHeartbeats 4000000 in
theorem q_undo_ok {d : Nat} {n z : Nat} {tx : (Nat → Int32) × Int32} {gg : (Nat → Int32) × (Nat → Int32) × (Nat → Int32) × (Nat → Int32) × Int32 × Int32 × Int32} {nw : (Nat → Int32) × (Nat → Int32) × Int32 × Int32 × Int32 × Int32 × Int32 × Int32 × Int32} {tr : (Nat → Int32) × (Nat → Int32) × Int32 × Int32 × Int32 × Int32 × Int32 × Int32 × Int32} {wk : (Nat → Int32) × Int32 × Int32 × Int32} {pl : (Nat → Int32) × Int32 × Int32 × Int32 × Int32 × Int32} {ab : (Nat → zStt)} {sl : (Nat → zStt) × (Nat → Int32)} {si : (Nat → Int32) × (Nat → Int32) × (Nat → Int32) × Int32} {sd : Int64} {tau : List zCel} (hn : n < 14) (hz : z < 14) : zCf yX9_undo cX9_undo 1 (some .int) (d + 3) [.ref 0] (encC tx gg nw tr wk pl (ab, (nI n), (nI (z + 1))) sl si sd ++ tau) (some (.int (nI z))) (encC tx gg (zcpS (ab ((n + 13) % 14)) nw) tr wk pl (ab, (nI ((n + 13) % 14)), (nI z)) sl si sd ++ tau) := by
  refine zC.intro (by decide) (Nat.le_of_ble_eq_true rfl) rfl ?_
  refine zx_aload_n (pc := 0) dX9_undo_0 rfl rfl ?_
  refine g0_6 (pc := 1) fl_X9_50 dX9_undo_1 ?_
  refine g18_2 (pc := 4) fl_X9_131 dX9_undo_4 ?_
  refine zx_if_ne (pc := 7) (tgt := 13) dX9_undo_7 (by decide) (fun h7 => ?_) (fun h7 => by first | exact absurd h7 (show ¬ nI (z + 1) = 0 from nI_ne0 (by omega) (by omega)) | exact absurd (show ¬ nI (z + 1) = 0 from nI_ne0 (by omega) (by omega)) h7)
  refine zx_aload_n (pc := 13) dX9_undo_13 rfl rfl ?_
  refine g0_6 (pc := 14) fl_X9_50 dX9_undo_14 ?_
  refine zx_aload_n (pc := 17) dX9_undo_17 rfl rfl ?_
  refine g0_2 (pc := 18) fl_X9_26 dX9_undo_18 ?_
  refine zx_fV0 (pc := 21) (k_takeBack (d := d) hn hz) cl_X9_188 p18 rfl dX9_undo_21 rfl rfl (by omega) (Nat.le_of_ble_eq_true rfl) (Nat.le_refl _) (Nat.le_refl _) ?_
  refine zx_aload_n (pc := 24) dX9_undo_24 rfl rfl ?_
  refine g0_6 (pc := 25) fl_X9_50 dX9_undo_25 ?_
  refine g18_2 (pc := 28) fl_X9_131 dX9_undo_28 ?_
  exact zx_fi (pc := 31) dX9_undo_31 rfl rfl (Nat.le_refl _) (Nat.le_refl _) rfl rfl
set_option maxHeartbeats 4000000 in
theorem q_makes_neg {d : Nat} {H F : Nat} {x y : Int32} {tx : (Nat → Int32) × Int32} {gs : (Nat → Int32)} {gk : (Nat → Int32)} {gf : (Nat → Int32)} {ga : (Nat → Int32)} {gc : Int32} {nw : (Nat → Int32) × (Nat → Int32) × Int32 × Int32 × Int32 × Int32 × Int32 × Int32 × Int32} {tr : (Nat → Int32) × (Nat → Int32) × Int32 × Int32 × Int32 × Int32 × Int32 × Int32 × Int32} {wk : (Nat → Int32) × Int32 × Int32 × Int32} {pt : (Nat → Int32)} {b1 : Int32} {b2 : Int32} {b3 : Int32} {b4 : Int32} {b5 : Int32} {ac : (Nat → zStt) × Int32 × Int32} {sl : (Nat → zStt) × (Nat → Int32)} {si : (Nat → Int32) × (Nat → Int32) × (Nat → Int32) × Int32} {sd : Int64} {tau : List zCel} (hx : x < 0) : zCf yX9_makes cX9_makes 3 (some .int) (d + 4) [.ref 0, .int x, .int y] (encC tx (gs, gk, gf, ga, (nI H), (nI F), gc) nw tr wk (pt, b1, b2, b3, b4, b5) ac sl si sd ++ tau) (some (.int (-2))) (encC tx (gs, gk, gf, ga, (nI H), (nI F), gc) nw tr wk (pt, b1, b2, b3, b4, b5) ac sl si sd ++ tau) := by
  refine zC.intro (by decide) (Nat.le_of_ble_eq_true rfl) rfl ?_
  refine zx_aload_n (pc := 0) dX9_makes_0 rfl rfl ?_
  refine g0_5 (pc := 1) fl_X9_43 dX9_makes_1 ?_
  refine zx_aload_n (pc := 4) dX9_makes_4 rfl rfl ?_
  refine g0_1 (pc := 5) fl_X9_19 dX9_makes_5 ?_
  refine zx_iload_n (pc := 8) dX9_makes_8 rfl rfl ?_
  refine zx_fV1 (pc := 9) (k_figs_n (d := d + 1) hx) cl_X9_191 p16 rfl dX9_makes_9 rfl rfl (by omega) (Nat.le_of_ble_eq_true rfl) (Nat.le_refl _) (Nat.le_refl _) ?_
  refine zx_if_eq (pc := 12) (tgt := 24) dX9_makes_12 (by decide) (fun h12 => ?_) (fun h12 => by first | exact absurd h12 (show (0 : Int32) = 0 from rfl) | exact absurd (show (0 : Int32) = 0 from rfl) h12)
  refine zx_bipush (pc := 24) (v := -2) dX9_makes_24 (by decide) ?_
  exact zx_fi (pc := 26) dX9_makes_26 rfl rfl (Nat.le_refl _) (Nat.le_refl _) rfl rfl
set_option maxHeartbeats 4000000 in
theorem q_makes_fig {d : Nat} {H F R : Nat} {y : Int32} {tx : (Nat → Int32) × Int32} {gs : (Nat → Int32)} {gk : (Nat → Int32)} {gf : (Nat → Int32)} {ga : (Nat → Int32)} {gc : Int32} {nw : (Nat → Int32) × (Nat → Int32) × Int32 × Int32 × Int32 × Int32 × Int32 × Int32 × Int32} {tr : (Nat → Int32) × (Nat → Int32) × Int32 × Int32 × Int32 × Int32 × Int32 × Int32 × Int32} {wk : (Nat → Int32) × Int32 × Int32 × Int32} {pt : (Nat → Int32)} {b1 : Int32} {b2 : Int32} {b3 : Int32} {b4 : Int32} {b5 : Int32} {ac : (Nat → zStt) × Int32 × Int32} {sl : (Nat → zStt) × (Nat → Int32)} {si : (Nat → Int32) × (Nat → Int32) × (Nat → Int32) × Int32} {sd : Int64} {tau : List zCel} (hH : H ≤ 5) (hR : R < 2 ^ 31) (hf : (zRf (nI F) H pt R).2 = 0) : zCf yX9_makes cX9_makes 3 (some .int) (d + 4) [.ref 0, .int (nI R), .int y] (encC tx (gs, gk, gf, ga, (nI H), (nI F), gc) nw tr wk (pt, b1, b2, b3, b4, b5) ac sl si sd ++ tau) (some (.int (-2))) (encC tx (gs, gk, gf, ga, (nI H), (nI F), gc) nw tr wk ((zRf (nI F) H pt R).1, b1, b2, b3, b4, b5) ac sl si sd ++ tau) := by
  refine zC.intro (by decide) (Nat.le_of_ble_eq_true rfl) rfl ?_
  refine zx_aload_n (pc := 0) dX9_makes_0 rfl rfl ?_
  refine g0_5 (pc := 1) fl_X9_43 dX9_makes_1 ?_
  refine zx_aload_n (pc := 4) dX9_makes_4 rfl rfl ?_
  refine g0_1 (pc := 5) fl_X9_19 dX9_makes_5 ?_
  refine zx_iload_n (pc := 8) dX9_makes_8 rfl rfl ?_
  refine zx_fV1 (pc := 9) (k_figs (d := d + 1) hH hR) cl_X9_191 p16 rfl dX9_makes_9 rfl rfl (by omega) (Nat.le_of_ble_eq_true rfl) (Nat.le_refl _) (Nat.le_refl _) ?_
  refine zx_if_eq (pc := 12) (tgt := 24) dX9_makes_12 (by decide) (fun h12 => ?_) (fun h12 => by first | exact absurd h12 hf | exact absurd hf h12)
  refine zx_bipush (pc := 24) (v := -2) dX9_makes_24 (by decide) ?_
  exact zx_fi (pc := 26) dX9_makes_26 rfl rfl (Nat.le_refl _) (Nat.le_refl _) rfl rfl
set_option maxHeartbeats 4000000 in
theorem q_makes_bad {d : Nat} {H F R : Nat} {y : Int32} {tx : (Nat → Int32) × Int32} {gs : (Nat → Int32)} {gk : (Nat → Int32)} {gf : (Nat → Int32)} {ga : (Nat → Int32)} {gc : Int32} {nw : (Nat → Int32) × (Nat → Int32) × Int32 × Int32 × Int32 × Int32 × Int32 × Int32 × Int32} {tr : (Nat → Int32) × (Nat → Int32) × Int32 × Int32 × Int32 × Int32 × Int32 × Int32 × Int32} {wk : (Nat → Int32) × Int32 × Int32 × Int32} {pt : (Nat → Int32)} {b1 : Int32} {b2 : Int32} {b3 : Int32} {b4 : Int32} {b5 : Int32} {ac : (Nat → zStt) × Int32 × Int32} {sl : (Nat → zStt) × (Nat → Int32)} {si : (Nat → Int32) × (Nat → Int32) × (Nat → Int32) × Int32} {sd : Int64} {tau : List zCel} (hH : H ≤ 5) (hR : R < 2 ^ 31) (hf : ¬ (zRf (nI F) H pt R).2 = 0) (hb : y < 0 ∨ ¬ y ≤ 1) : zCf yX9_makes cX9_makes 3 (some .int) (d + 4) [.ref 0, .int (nI R), .int y] (encC tx (gs, gk, gf, ga, (nI H), (nI F), gc) nw tr wk (pt, b1, b2, b3, b4, b5) ac sl si sd ++ tau) (some (.int (-2))) (encC tx (gs, gk, gf, ga, (nI H), (nI F), gc) nw tr wk ((zRf (nI F) H pt R).1, b1, b2, b3, b4, b5) ac sl si sd ++ tau) := by
  refine zC.intro (by decide) (Nat.le_of_ble_eq_true rfl) rfl ?_
  refine zx_aload_n (pc := 0) dX9_makes_0 rfl rfl ?_
  refine g0_5 (pc := 1) fl_X9_43 dX9_makes_1 ?_
  refine zx_aload_n (pc := 4) dX9_makes_4 rfl rfl ?_
  refine g0_1 (pc := 5) fl_X9_19 dX9_makes_5 ?_
  refine zx_iload_n (pc := 8) dX9_makes_8 rfl rfl ?_
  refine zx_fV1 (pc := 9) (k_figs (d := d + 1) hH hR) cl_X9_191 p16 rfl dX9_makes_9 rfl rfl (by omega) (Nat.le_of_ble_eq_true rfl) (Nat.le_refl _) (Nat.le_refl _) ?_
  refine zx_if_eq (pc := 12) (tgt := 24) dX9_makes_12 (by decide) (fun h12 => by first | exact absurd h12 hf | exact absurd hf h12) (fun h12 => ?_)
  refine zx_iload_n (pc := 15) dX9_makes_15 rfl rfl ?_
  refine zx_if_lt (pc := 16) (tgt := 24) dX9_makes_16 (by decide) (fun h16 => ?_) (fun h16 => ?_)
  · refine zx_bipush (pc := 24) (v := -2) dX9_makes_24 (by decide) ?_
    exact zx_fi (pc := 26) dX9_makes_26 rfl rfl (Nat.le_refl _) (Nat.le_refl _) rfl rfl
  · refine zx_iload_n (pc := 19) dX9_makes_19 rfl rfl ?_
    refine zx_iconst (pc := 20) (v := 1) dX9_makes_20 (by decide) ?_
    refine zx_icmp_le (pc := 21) (tgt := 27) dX9_makes_21 (by decide) (fun h21 => by first | exact absurd h21 (show ¬ y ≤ 1 by rcases hb with q | q; exact absurd q h16; exact q) | exact absurd (show ¬ y ≤ 1 by rcases hb with q | q; exact absurd q h16; exact q) h21) (fun h21 => ?_)
    refine zx_bipush (pc := 24) (v := -2) dX9_makes_24 (by decide) ?_
    exact zx_fi (pc := 26) dX9_makes_26 rfl rfl (Nat.le_refl _) (Nat.le_refl _) rfl rfl
set_option maxHeartbeats 4000000 in
theorem q_makes_ok {d : Nat} {H F R : Nat} {y : Int32} {tx : (Nat → Int32) × Int32} {gs : (Nat → Int32)} {gk : (Nat → Int32)} {gf : (Nat → Int32)} {ga : (Nat → Int32)} {gc : Int32} {nt : (Nat → Int32)} {ns : (Nat → Int32)} {n2 : Int32} {n3 : Int32} {n4 : Int32} {n5 : Int32} {n6 : Int32} {n7 : Int32} {n8 : Int32} {tr : (Nat → Int32) × (Nat → Int32) × Int32 × Int32 × Int32 × Int32 × Int32 × Int32 × Int32} {ws : (Nat → Int32)} {w1 : Int32} {w2 : Int32} {w3 : Int32} {pt : (Nat → Int32)} {b1 : Int32} {b2 : Int32} {b3 : Int32} {b4 : Int32} {b5 : Int32} {ac : (Nat → zStt) × Int32 × Int32} {sl : (Nat → zStt) × (Nat → Int32)} {si : (Nat → Int32) × (Nat → Int32) × (Nat → Int32) × Int32} {sd : Int64} {tau : List zCel} (hH : H ≤ 5) (hF : F ≤ 3) (hR : R < 2 ^ 31) (hf : ¬ (zRf (nI F) H pt R).2 = 0) (g0 : ¬ y < 0) (g1 : y ≤ 1) : zCf yX9_makes cX9_makes 3 (some .int) (d + 4) [.ref 0, .int (nI R), .int y] (encC tx (gs, gk, gf, ga, (nI H), (nI F), gc) (nt, ns, n2, n3, n4, n5, n6, n7, n8) tr (ws, w1, w2, w3) (pt, b1, b2, b3, b4, b5) ac sl si sd ++ tau) (some (.int (if y = 0 then (zDay gs gk gf (nI F) H (zRf (nI F) H pt R).1 (va_cpy ns ws 0 0 3) n2).2.2.1 else (zDay gs gk gf (nI F) H (zRf (nI F) H pt R).1 (va_cpy ns ws 0 0 3) n2).2.2.2))) (encC tx (gs, gk, gf, ga, (nI H), (nI F), gc) (nt, ns, n2, n3, n4, n5, n6, n7, n8) tr (zDay gs gk gf (nI F) H (zRf (nI F) H pt R).1 (va_cpy ns ws 0 0 3) n2) ((zRf (nI F) H pt R).1, b1, b2, b3, b4, b5) ac sl si sd ++ tau) := by
  refine zC.intro (by decide) (Nat.le_of_ble_eq_true rfl) rfl ?_
  refine zx_aload_n (pc := 0) dX9_makes_0 rfl rfl ?_
  refine g0_5 (pc := 1) fl_X9_43 dX9_makes_1 ?_
  refine zx_aload_n (pc := 4) dX9_makes_4 rfl rfl ?_
  refine g0_1 (pc := 5) fl_X9_19 dX9_makes_5 ?_
  refine zx_iload_n (pc := 8) dX9_makes_8 rfl rfl ?_
  refine zx_fV1 (pc := 9) (k_figs (d := d + 1) hH hR) cl_X9_191 p16 rfl dX9_makes_9 rfl rfl (by omega) (Nat.le_of_ble_eq_true rfl) (Nat.le_refl _) (Nat.le_refl _) ?_
  refine zx_if_eq (pc := 12) (tgt := 24) dX9_makes_12 (by decide) (fun h12 => by first | exact absurd h12 hf | exact absurd hf h12) (fun h12 => ?_)
  refine zx_iload_n (pc := 15) dX9_makes_15 rfl rfl ?_
  refine zx_if_lt (pc := 16) (tgt := 24) dX9_makes_16 (by decide) (fun h16 => by first | exact absurd h16 g0 | exact absurd g0 h16) (fun h16 => ?_)
  refine zx_iload_n (pc := 19) dX9_makes_19 rfl rfl ?_
  refine zx_iconst (pc := 20) (v := 1) dX9_makes_20 (by decide) ?_
  refine zx_icmp_le (pc := 21) (tgt := 27) dX9_makes_21 (by decide) (fun h21 => ?_) (fun h21 => by first | exact absurd h21 g1 | exact absurd g1 h21)
  refine zx_aload_n (pc := 27) dX9_makes_27 rfl rfl ?_
  refine g0_4 (pc := 28) fl_X9_36 dX9_makes_28 ?_
  refine zx_aload_n (pc := 31) dX9_makes_31 rfl rfl ?_
  refine g0_1 (pc := 32) fl_X9_19 dX9_makes_32 ?_
  refine zx_aload_n (pc := 35) dX9_makes_35 rfl rfl ?_
  refine g0_2 (pc := 36) fl_X9_26 dX9_makes_36 ?_
  refine zx_aload_n (pc := 39) dX9_makes_39 rfl rfl ?_
  refine g0_5 (pc := 40) fl_X9_43 dX9_makes_40 ?_
  refine g16_0 (pc := 43) fl_X9_195 dX9_makes_43 ?_
  refine zx_fV0 (pc := 46) (k_reckon_p (d := d) hH hF) cl_X9_164 p14 rfl dX9_makes_46 rfl rfl (by omega) (Nat.le_of_ble_eq_true rfl) (Nat.le_refl _) (Nat.le_refl _) ?_
  refine zx_iload_n (pc := 49) dX9_makes_49 rfl rfl ?_
  refine zx_if_ne (pc := 50) (tgt := 63) dX9_makes_50 (by decide) (fun h50 => ?_) (fun h50 => ?_)
  · refine zx_aload_n (pc := 63) dX9_makes_63 rfl rfl ?_
    refine g0_4 (pc := 64) fl_X9_36 dX9_makes_64 ?_
    refine g14_3 (pc := 67) fl_X9_196 dX9_makes_67 ?_
    exact zx_fi (pc := 70) dX9_makes_70 rfl rfl (Nat.le_refl _) (Nat.le_refl _) (by first | exact (if_pos h50).symm | exact (if_neg h50).symm) rfl
  · refine zx_aload_n (pc := 53) dX9_makes_53 rfl rfl ?_
    refine g0_4 (pc := 54) fl_X9_36 dX9_makes_54 ?_
    refine g14_2 (pc := 57) fl_X9_172 dX9_makes_57 ?_
    refine zx_goto (pc := 60) (tgt := 70) dX9_makes_60 (by decide) ?_
    exact zx_fi (pc := 70) dX9_makes_70 rfl rfl (Nat.le_refl _) (Nat.le_refl _) (by first | exact (if_pos h50).symm | exact (if_neg h50).symm) rfl
set_option maxHeartbeats 4000000 in
theorem q_best_bad {d : Nat} {x : Int32} {tx : (Nat → Int32) × Int32} {gg : (Nat → Int32) × (Nat → Int32) × (Nat → Int32) × (Nat → Int32) × Int32 × Int32 × Int32} {nw : (Nat → Int32) × (Nat → Int32) × Int32 × Int32 × Int32 × Int32 × Int32 × Int32 × Int32} {tr : (Nat → Int32) × (Nat → Int32) × Int32 × Int32 × Int32 × Int32 × Int32 × Int32 × Int32} {wk : (Nat → Int32) × Int32 × Int32 × Int32} {pl : (Nat → Int32) × Int32 × Int32 × Int32 × Int32 × Int32} {ac : (Nat → zStt) × Int32 × Int32} {sl : (Nat → zStt) × (Nat → Int32)} {si : (Nat → Int32) × (Nat → Int32) × (Nat → Int32) × Int32} {sd : Int64} {tau : List zCel} (hb : x < 0 ∨ ¬ x ≤ 1) : zCf yX9_best cX9_best 2 (some .int) (d + 5) [.ref 0, .int x] (encC tx gg nw tr wk pl ac sl si sd ++ tau) (some (.int (-2))) (encC tx gg nw tr wk pl ac sl si sd ++ tau) := by
  refine zC.intro (by decide) (Nat.le_of_ble_eq_true rfl) rfl ?_
  refine zx_iload_n (pc := 0) dX9_best_0 rfl rfl ?_
  refine zx_if_lt (pc := 1) (tgt := 9) dX9_best_1 (by decide) (fun h1 => ?_) (fun h1 => ?_)
  · refine zx_bipush (pc := 9) (v := -2) dX9_best_9 (by decide) ?_
    exact zx_fi (pc := 11) dX9_best_11 rfl rfl (Nat.le_refl _) (Nat.le_refl _) rfl rfl
  · refine zx_iload_n (pc := 4) dX9_best_4 rfl rfl ?_
    refine zx_iconst (pc := 5) (v := 1) dX9_best_5 (by decide) ?_
    refine zx_icmp_le (pc := 6) (tgt := 12) dX9_best_6 (by decide) (fun h6 => by first | exact absurd h6 (show ¬ x ≤ 1 by rcases hb with q | q; exact absurd q h1; exact q) | exact absurd (show ¬ x ≤ 1 by rcases hb with q | q; exact absurd q h1; exact q) h6) (fun h6 => ?_)
    refine zx_bipush (pc := 9) (v := -2) dX9_best_9 (by decide) ?_
    exact zx_fi (pc := 11) dX9_best_11 rfl rfl (Nat.le_refl _) (Nat.le_refl _) rfl rfl
set_option maxHeartbeats 4000000 in
theorem q_best {d : Nat} {H F : Nat} {x : Int32} {tx : (Nat → Int32) × Int32} {gs : (Nat → Int32)} {gk : (Nat → Int32)} {gf : (Nat → Int32)} {ga : (Nat → Int32)} {gc : Int32} {nt : (Nat → Int32)} {ns : (Nat → Int32)} {n2 : Int32} {n3 : Int32} {n4 : Int32} {n5 : Int32} {n6 : Int32} {n7 : Int32} {n8 : Int32} {tr : (Nat → Int32) × (Nat → Int32) × Int32 × Int32 × Int32 × Int32 × Int32 × Int32 × Int32} {wk : (Nat → Int32) × Int32 × Int32 × Int32} {pl : (Nat → Int32) × Int32 × Int32 × Int32 × Int32 × Int32} {ac : (Nat → zStt) × Int32 × Int32} {sl : (Nat → zStt) × (Nat → Int32)} {si : (Nat → Int32) × (Nat → Int32) × (Nat → Int32) × Int32} {sd : Int64} {tau : List zCel} (hH : H ≤ 5) (hF : F ≤ 3) (g0 : ¬ x < 0) (g1 : x ≤ 1) : zCf yX9_best cX9_best 2 (some .int) (d + 5) [.ref 0, .int x] (encC tx (gs, gk, gf, ga, (nI H), (nI F), gc) (nt, ns, n2, n3, n4, n5, n6, n7, n8) tr wk pl ac sl si sd ++ tau) (some (.int (if x = 0 then (zWa gs gk gf F H gc ns n2 ((zFil pl.1 0 5, -9, -9, -9, -9, 0), wk) ((2 + F) ^ H)).1.2.1 else (zWa gs gk gf F H gc ns n2 ((zFil pl.1 0 5, -9, -9, -9, -9, 0), wk) ((2 + F) ^ H)).1.2.2.1))) (encC tx (gs, gk, gf, ga, (nI H), (nI F), gc) (nt, ns, n2, n3, n4, n5, n6, n7, n8) tr (zWa gs gk gf F H gc ns n2 ((zFil pl.1 0 5, -9, -9, -9, -9, 0), wk) ((2 + F) ^ H)).2 (zWa gs gk gf F H gc ns n2 ((zFil pl.1 0 5, -9, -9, -9, -9, 0), wk) ((2 + F) ^ H)).1 ac sl si sd ++ tau) := by
  refine zC.intro (by decide) (Nat.le_of_ble_eq_true rfl) rfl ?_
  refine zx_iload_n (pc := 0) dX9_best_0 rfl rfl ?_
  refine zx_if_lt (pc := 1) (tgt := 9) dX9_best_1 (by decide) (fun h1 => by first | exact absurd h1 g0 | exact absurd g0 h1) (fun h1 => ?_)
  refine zx_iload_n (pc := 4) dX9_best_4 rfl rfl ?_
  refine zx_iconst (pc := 5) (v := 1) dX9_best_5 (by decide) ?_
  refine zx_icmp_le (pc := 6) (tgt := 12) dX9_best_6 (by decide) (fun h6 => ?_) (fun h6 => by first | exact absurd h6 g1 | exact absurd g1 h6)
  refine zx_aload_n (pc := 12) dX9_best_12 rfl rfl ?_
  refine g0_5 (pc := 13) fl_X9_43 dX9_best_13 ?_
  refine zx_aload_n (pc := 16) dX9_best_16 rfl rfl ?_
  refine g0_1 (pc := 17) fl_X9_19 dX9_best_17 ?_
  refine zx_aload_n (pc := 20) dX9_best_20 rfl rfl ?_
  refine g0_2 (pc := 21) fl_X9_26 dX9_best_21 ?_
  refine zx_aload_n (pc := 24) dX9_best_24 rfl rfl ?_
  refine g0_4 (pc := 25) fl_X9_36 dX9_best_25 ?_
  refine zx_fV0 (pc := 28) (k_weighAll (d := d) hH hF) cl_X9_197 p16 rfl dX9_best_28 rfl rfl (by omega) (Nat.le_of_ble_eq_true rfl) (Nat.le_refl _) (Nat.le_refl _) ?_
  refine zx_iload_n (pc := 31) dX9_best_31 rfl rfl ?_
  refine zx_if_ne (pc := 32) (tgt := 45) dX9_best_32 (by decide) (fun h32 => ?_) (fun h32 => ?_)
  · refine zx_aload_n (pc := 45) dX9_best_45 rfl rfl ?_
    refine g0_5 (pc := 46) fl_X9_43 dX9_best_46 ?_
    refine g16_2 (pc := 49) fl_X9_204 dX9_best_49 ?_
    exact zx_fi (pc := 52) dX9_best_52 rfl rfl (Nat.le_refl _) (Nat.le_refl _) (by first | (simp only [h1, h6, h32, reduceIte, not_true_eq_false, not_false_eq_true]; done) | (simp [h1, h6, h32]; done)) rfl
  · refine zx_aload_n (pc := 35) dX9_best_35 rfl rfl ?_
    refine g0_5 (pc := 36) fl_X9_43 dX9_best_36 ?_
    refine g16_1 (pc := 39) fl_X9_201 dX9_best_39 ?_
    refine zx_goto (pc := 42) (tgt := 52) dX9_best_42 (by decide) ?_
    exact zx_fi (pc := 52) dX9_best_52 rfl rfl (Nat.le_refl _) (Nat.le_refl _) (by first | (simp only [h1, h6, h32, reduceIte, not_true_eq_false, not_false_eq_true]; done) | (simp [h1, h6, h32]; done)) rfl
set_option maxHeartbeats 4000000 in
theorem q_least {d : Nat} {H F : Nat} {tx : (Nat → Int32) × Int32} {gs : (Nat → Int32)} {gk : (Nat → Int32)} {gf : (Nat → Int32)} {ga : (Nat → Int32)} {gc : Int32} {nt : (Nat → Int32)} {ns : (Nat → Int32)} {n2 : Int32} {n3 : Int32} {n4 : Int32} {n5 : Int32} {n6 : Int32} {n7 : Int32} {n8 : Int32} {tr : (Nat → Int32) × (Nat → Int32) × Int32 × Int32 × Int32 × Int32 × Int32 × Int32 × Int32} {wk : (Nat → Int32) × Int32 × Int32 × Int32} {pl : (Nat → Int32) × Int32 × Int32 × Int32 × Int32 × Int32} {ac : (Nat → zStt) × Int32 × Int32} {sl : (Nat → zStt) × (Nat → Int32)} {si : (Nat → Int32) × (Nat → Int32) × (Nat → Int32) × Int32} {sd : Int64} {tau : List zCel} (hH : H ≤ 5) (hF : F ≤ 3) : zCf yX9_least cX9_least 1 (some .int) (d + 5) [.ref 0] (encC tx (gs, gk, gf, ga, (nI H), (nI F), gc) (nt, ns, n2, n3, n4, n5, n6, n7, n8) tr wk pl ac sl si sd ++ tau) (some (.int ((zWa gs gk gf F H gc ns n2 ((zFil pl.1 0 5, -9, -9, -9, -9, 0), wk) ((2 + F) ^ H)).1.2.2.2.2.1))) (encC tx (gs, gk, gf, ga, (nI H), (nI F), gc) (nt, ns, n2, n3, n4, n5, n6, n7, n8) tr (zWa gs gk gf F H gc ns n2 ((zFil pl.1 0 5, -9, -9, -9, -9, 0), wk) ((2 + F) ^ H)).2 (zWa gs gk gf F H gc ns n2 ((zFil pl.1 0 5, -9, -9, -9, -9, 0), wk) ((2 + F) ^ H)).1 ac sl si sd ++ tau) := by
  refine zC.intro (by decide) (Nat.le_of_ble_eq_true rfl) rfl ?_
  refine zx_aload_n (pc := 0) dX9_least_0 rfl rfl ?_
  refine g0_5 (pc := 1) fl_X9_43 dX9_least_1 ?_
  refine zx_aload_n (pc := 4) dX9_least_4 rfl rfl ?_
  refine g0_1 (pc := 5) fl_X9_19 dX9_least_5 ?_
  refine zx_aload_n (pc := 8) dX9_least_8 rfl rfl ?_
  refine g0_2 (pc := 9) fl_X9_26 dX9_least_9 ?_
  refine zx_aload_n (pc := 12) dX9_least_12 rfl rfl ?_
  refine g0_4 (pc := 13) fl_X9_36 dX9_least_13 ?_
  refine zx_fV0 (pc := 16) (k_weighAll (d := d) hH hF) cl_X9_197 p16 rfl dX9_least_16 rfl rfl (by omega) (Nat.le_of_ble_eq_true rfl) (Nat.le_refl _) (Nat.le_refl _) ?_
  refine zx_aload_n (pc := 19) dX9_least_19 rfl rfl ?_
  refine g0_5 (pc := 20) fl_X9_43 dX9_least_20 ?_
  refine g16_4 (pc := 23) fl_X9_207 dX9_least_23 ?_
  exact zx_fi (pc := 26) dX9_least_26 rfl rfl (Nat.le_refl _) (Nat.le_refl _) rfl rfl
set_option maxHeartbeats 4000000 in
theorem q_ask {d : Nat} {H F : Nat} {tx : (Nat → Int32) × Int32} {gs : (Nat → Int32)} {gk : (Nat → Int32)} {gf : (Nat → Int32)} {ga : (Nat → Int32)} {gc : Int32} {nt : (Nat → Int32)} {ns : (Nat → Int32)} {n2 : Int32} {n3 : Int32} {n4 : Int32} {n5 : Int32} {n6 : Int32} {n7 : Int32} {n8 : Int32} {tr : (Nat → Int32) × (Nat → Int32) × Int32 × Int32 × Int32 × Int32 × Int32 × Int32 × Int32} {wk : (Nat → Int32) × Int32 × Int32 × Int32} {pl : (Nat → Int32) × Int32 × Int32 × Int32 × Int32 × Int32} {ac : (Nat → zStt) × Int32 × Int32} {sl : (Nat → zStt) × (Nat → Int32)} {si : (Nat → Int32) × (Nat → Int32) × (Nat → Int32) × Int32} {sd : Int64} {tau : List zCel} (hH : H ≤ 5) (hF : F ≤ 3) : zCf yX9_ask cX9_ask 1 (some .int) (d + 5) [.ref 0] (encC tx (gs, gk, gf, ga, (nI H), (nI F), gc) (nt, ns, n2, n3, n4, n5, n6, n7, n8) tr wk pl ac sl si sd ++ tau) (some (.int ((zWa gs gk gf F H gc ns n2 ((zFil pl.1 0 5, -9, -9, -9, -9, 0), wk) ((2 + F) ^ H)).1.2.2.2.2.2))) (encC tx (gs, gk, gf, ga, (nI H), (nI F), gc) (nt, ns, n2, n3, n4, n5, n6, n7, n8) tr (zWa gs gk gf F H gc ns n2 ((zFil pl.1 0 5, -9, -9, -9, -9, 0), wk) ((2 + F) ^ H)).2 (zWa gs gk gf F H gc ns n2 ((zFil pl.1 0 5, -9, -9, -9, -9, 0), wk) ((2 + F) ^ H)).1 ac sl si sd ++ tau) := by
  refine zC.intro (by decide) (Nat.le_of_ble_eq_true rfl) rfl ?_
  refine zx_aload_n (pc := 0) dX9_ask_0 rfl rfl ?_
  refine g0_5 (pc := 1) fl_X9_43 dX9_ask_1 ?_
  refine zx_aload_n (pc := 4) dX9_ask_4 rfl rfl ?_
  refine g0_1 (pc := 5) fl_X9_19 dX9_ask_5 ?_
  refine zx_aload_n (pc := 8) dX9_ask_8 rfl rfl ?_
  refine g0_2 (pc := 9) fl_X9_26 dX9_ask_9 ?_
  refine zx_aload_n (pc := 12) dX9_ask_12 rfl rfl ?_
  refine g0_4 (pc := 13) fl_X9_36 dX9_ask_13 ?_
  refine zx_fV0 (pc := 16) (k_weighAll (d := d) hH hF) cl_X9_197 p16 rfl dX9_ask_16 rfl rfl (by omega) (Nat.le_of_ble_eq_true rfl) (Nat.le_refl _) (Nat.le_refl _) ?_
  refine zx_aload_n (pc := 19) dX9_ask_19 rfl rfl ?_
  refine g0_5 (pc := 20) fl_X9_43 dX9_ask_20 ?_
  refine g16_5 (pc := 23) fl_X9_210 dX9_ask_23 ?_
  exact zx_fi (pc := 26) dX9_ask_26 rfl rfl (Nat.le_refl _) (Nat.le_refl _) rfl rfl
set_option maxHeartbeats 4000000 in
theorem lp_lasts {d n0 H F : Nat} {v : Int32 × zStt × zWkT} {tx : (Nat → Int32) × Int32} {gs : (Nat → Int32)} {gk : (Nat → Int32)} {gf : (Nat → Int32)} {ga : (Nat → Int32)} {gc : Int32} {nw : (Nat → Int32) × (Nat → Int32) × Int32 × Int32 × Int32 × Int32 × Int32 × Int32 × Int32} {pl : (Nat → Int32) × Int32 × Int32 × Int32 × Int32 × Int32} {ac : (Nat → zStt) × Int32 × Int32} {sl : (Nat → zStt) × (Nat → Int32)} {si : (Nat → Int32) × (Nat → Int32) × (Nat → Int32) × Int32} {sd : Int64} {tau : List zCel} (hH : H ≤ 5) (hF : F ≤ 3) : ∀ (k i : Nat) (s : zStt) (w : zWkT), i + k = 9 → v = zLaR gs gk gf F H gc k s w → zX RX9 cX9_lasts 2 (some .int) "lasts" none (d + 4) n0 0 0 0 0 (fun r s => r = some (.int v.1) ∧ s = encC tx (gs, gk, gf, ga, (nI H), (nI F), gc) nw v.2.1 v.2.2 pl ac sl si sd ++ tau) 13 [some (.ref 0), some (.int (nI i))] [] (encC tx (gs, gk, gf, ga, (nI H), (nI F), gc) nw s w pl ac sl si sd ++ tau) := by
  intro k
  induction k with
  | zero =>
    intro i s w hi hv
    obtain rfl : i = 9 := by omega
    subst hv
    refine zx_iload_n (pc := 13) dX9_lasts_13 rfl rfl ?_
    refine zx_bipush (pc := 14) (v := 9) dX9_lasts_14 (by decide) ?_
    refine zx_icmp_ge (pc := 16) (tgt := 81) dX9_lasts_16 (by decide) (fun h16 => ?_) (fun h16 => by first | exact absurd h16 (show (9 : Int32) ≤ nI 9 by decide) | exact absurd (show (9 : Int32) ≤ nI 9 by decide) h16)
    refine zx_bipush (pc := 81) (v := 9) dX9_lasts_81 (by decide) ?_
    exact zx_fi (pc := 83) dX9_lasts_83 rfl rfl (Nat.le_refl _) (Nat.le_refl _) rfl rfl
  | succ k ih =>
    intro i s w hi hv
    have e0 : 9 - (k + 1) = i := by omega
    refine zx_iload_n (pc := 13) dX9_lasts_13 rfl rfl ?_
    refine zx_bipush (pc := 14) (v := 9) dX9_lasts_14 (by decide) ?_
    refine zx_icmp_ge (pc := 16) (tgt := 81) dX9_lasts_16 (by decide) (fun h16 => by first | exact absurd h16 (show ¬ (9 : Int32) ≤ nI i from nI_ge (a := i) (b := 9) (by omega) (by decide)) | exact absurd (show ¬ (9 : Int32) ≤ nI i from nI_ge (a := i) (b := 9) (by omega) (by decide)) h16) (fun h16 => ?_)
    refine zx_aload_n (pc := 19) dX9_lasts_19 rfl rfl ?_
    refine g0_4 (pc := 20) fl_X9_36 dX9_lasts_20 ?_
    refine zx_aload_n (pc := 23) dX9_lasts_23 rfl rfl ?_
    refine g0_1 (pc := 24) fl_X9_19 dX9_lasts_24 ?_
    refine zx_aload_n (pc := 27) dX9_lasts_27 rfl rfl ?_
    refine g0_3 (pc := 28) fl_X9_30 dX9_lasts_28 ?_
    refine zx_aload_n (pc := 31) dX9_lasts_31 rfl rfl ?_
    refine g0_3 (pc := 32) fl_X9_30 dX9_lasts_32 ?_
    refine g11_0 (pc := 35) fl_X9_145 dX9_lasts_35 ?_
    refine zx_fV0 (pc := 38) (k_reckon_t (d := d) hH hF) cl_X9_164 p14 rfl dX9_lasts_38 rfl rfl (by omega) (Nat.le_of_ble_eq_true rfl) (Nat.le_refl _) (Nat.le_refl _) ?_
    refine zx_aload_n (pc := 41) dX9_lasts_41 rfl rfl ?_
    refine g0_4 (pc := 42) fl_X9_36 dX9_lasts_42 ?_
    refine g14_3 (pc := 45) fl_X9_196 dX9_lasts_45 ?_
    refine zx_aload_n (pc := 48) dX9_lasts_48 rfl rfl ?_
    refine g0_1 (pc := 49) fl_X9_19 dX9_lasts_49 ?_
    refine g3_6 (pc := 52) fl_X9_98 dX9_lasts_52 ?_
    refine zx_icmp_ge (pc := 55) (tgt := 60) dX9_lasts_55 (by decide) (fun h55 => ?_) (fun h55 => ?_)
    · refine zx_aload_n (pc := 60) dX9_lasts_60 rfl rfl ?_
      refine g0_3 (pc := 61) fl_X9_30 dX9_lasts_61 ?_
      refine zx_aload_n (pc := 64) dX9_lasts_64 rfl rfl ?_
      refine g0_1 (pc := 65) fl_X9_19 dX9_lasts_65 ?_
      refine zx_aload_n (pc := 68) dX9_lasts_68 rfl rfl ?_
      refine g0_4 (pc := 69) fl_X9_36 dX9_lasts_69 ?_
      refine zx_fV0 (pc := 72) (k_endDay_t (d := d + 2) ) cl_X9_168 p11 rfl dX9_lasts_72 rfl rfl (by omega) (Nat.le_of_ble_eq_true rfl) (Nat.le_refl _) (Nat.le_refl _) ?_
      refine ic_1_2_1 (pc := 75) dX9_lasts_75 rfl ?_
      refine zx_goto (pc := 78) (tgt := 13) dX9_lasts_78 (by decide) ?_
      rw [nI_1]
      exact ih (i + 1) _ _ (by omega) (by rw [hv, zLaR, if_pos (show gc ≤ (zDy gs gk gf F H s w).2.2.2 from h55)]; rfl)
    · refine zx_iload_n (pc := 58) dX9_lasts_58 rfl rfl ?_
      exact zx_fi (pc := 59) dX9_lasts_59 rfl rfl (Nat.le_refl _) (Nat.le_refl _) (by rw [hv, zLaR, if_neg (show ¬ gc ≤ (zDy gs gk gf F H s w).2.2.2 from h55), e0]) (by rw [hv, zLaR, if_neg (show ¬ gc ≤ (zDy gs gk gf F H s w).2.2.2 from h55)]; rfl)
set_option maxHeartbeats 4000000 in
theorem q_lasts {d : Nat} {H F : Nat} {tx : (Nat → Int32) × Int32} {gs : (Nat → Int32)} {gk : (Nat → Int32)} {gf : (Nat → Int32)} {ga : (Nat → Int32)} {gc : Int32} {nw : (Nat → Int32) × (Nat → Int32) × Int32 × Int32 × Int32 × Int32 × Int32 × Int32 × Int32} {tr : (Nat → Int32) × (Nat → Int32) × Int32 × Int32 × Int32 × Int32 × Int32 × Int32 × Int32} {wk : (Nat → Int32) × Int32 × Int32 × Int32} {pl : (Nat → Int32) × Int32 × Int32 × Int32 × Int32 × Int32} {ac : (Nat → zStt) × Int32 × Int32} {sl : (Nat → zStt) × (Nat → Int32)} {si : (Nat → Int32) × (Nat → Int32) × (Nat → Int32) × Int32} {sd : Int64} {tau : List zCel} (hH : H ≤ 5) (hF : F ≤ 3) : zCf yX9_lasts cX9_lasts 2 (some .int) (d + 4) [.ref 0] (encC tx (gs, gk, gf, ga, (nI H), (nI F), gc) nw tr wk pl ac sl si sd ++ tau) (some (.int ((zLaR gs gk gf F H gc 9 (zcpS nw tr) wk).1))) (encC tx (gs, gk, gf, ga, (nI H), (nI F), gc) nw (zLaR gs gk gf F H gc 9 (zcpS nw tr) wk).2.1 (zLaR gs gk gf F H gc 9 (zcpS nw tr) wk).2.2 pl ac sl si sd ++ tau) := by
  refine zC.intro (by decide) (Nat.le_of_ble_eq_true rfl) rfl ?_
  refine zx_aload_n (pc := 0) dX9_lasts_0 rfl rfl ?_
  refine g0_2 (pc := 1) fl_X9_26 dX9_lasts_1 ?_
  refine zx_aload_n (pc := 4) dX9_lasts_4 rfl rfl ?_
  refine g0_3 (pc := 5) fl_X9_30 dX9_lasts_5 ?_
  refine zx_fS0 (pc := 8) (k_copy_nt (d := d + 2) ) cl_X9_213 dX9_lasts_8 rfl rfl (by omega) (Nat.le_of_ble_eq_true rfl) (Nat.le_refl _) (Nat.le_refl _) ?_
  refine zx_iconst (pc := 11) (v := 0) dX9_lasts_11 (by decide) ?_
  refine st_1_2 (pc := 12) dX9_lasts_12 rfl ?_
  exact lp_lasts hH hF 9 0 _ _ (by omega) rfl
set_option maxHeartbeats 4000000 in
theorem lp_spare {d n0 N R : Nat} {lk y v : Int32} {sg : List zCel} (hN : N ≤ 8) (hR : R ≤ 3) (hv : v = if y = 0 then (zSpR N R lk (2 ^ N)).1 else (zSpR N R lk (2 ^ N)).2) : ∀ k i : Nat, i + k = 2 ^ N → ∀ o8 o9 : Option Value, zX RX9 cX9_spare 10 (some .int) "spare" none (d + 2) n0 0 0 0 0 (fun r s => r = some (.int v) ∧ s = sg) 50 [some (.ref 0), some (.int (nI N)), some (.int (nI R)), some (.int lk), some (.int y), some (.int (zSpR N R lk i).1), some (.int (zSpR N R lk i).2), some (.int (nI i)), o8, o9] [] sg := by
  have hp : 2 ^ N ≤ 256 := Nat.le_trans (Nat.pow_le_pow_right (by decide) hN) (by decide)
  intro k
  induction k with
  | zero =>
    intro i hi o8 o9
    obtain rfl : i = 2 ^ N := by omega
    refine zx_iload (pc := 50) dX9_spare_50 rfl ?_
    refine zx_iconst (pc := 52) (v := 1) dX9_spare_52 (by decide) ?_
    refine zx_iload_n (pc := 53) dX9_spare_53 rfl rfl ?_
    refine zx_ishl (pc := 54) dX9_spare_54 ?_
    rw [zsh1 N hN]
    refine zx_icmp_ge (pc := 55) (tgt := 127) dX9_spare_55 (by decide) (fun h55 => ?_) (fun h55 => by first | exact absurd h55 (show nI (2 ^ N) ≤ nI (2 ^ N) from Int32.le_refl _) | exact absurd (show nI (2 ^ N) ≤ nI (2 ^ N) from Int32.le_refl _) h55)
    refine zx_iload (pc := 127) dX9_spare_127 rfl ?_
    refine zx_if_ne (pc := 129) (tgt := 137) dX9_spare_129 (by decide) (fun h129 => ?_) (fun h129 => ?_)
    · refine zx_iload (pc := 137) dX9_spare_137 rfl ?_
      exact zx_fi (pc := 139) dX9_spare_139 rfl rfl (Nat.le_refl _) (Nat.le_refl _) (by rw [hv]; simp [h129]) rfl
    · refine zx_iload (pc := 132) dX9_spare_132 rfl ?_
      refine zx_goto (pc := 134) (tgt := 139) dX9_spare_134 (by decide) ?_
      exact zx_fi (pc := 139) dX9_spare_139 rfl rfl (Nat.le_refl _) (Nat.le_refl _) (by rw [hv]; simp [h129]) rfl
  | succ k ih =>
    intro i hi o8 o9
    refine zx_iload (pc := 50) dX9_spare_50 rfl ?_
    refine zx_iconst (pc := 52) (v := 1) dX9_spare_52 (by decide) ?_
    refine zx_iload_n (pc := 53) dX9_spare_53 rfl rfl ?_
    refine zx_ishl (pc := 54) dX9_spare_54 ?_
    rw [zsh1 N hN]
    refine zx_icmp_ge (pc := 55) (tgt := 127) dX9_spare_55 (by decide) (fun h55 => by first | exact absurd h55 (nI_ge (show i < 2 ^ N by omega) (by omega)) | exact absurd (nI_ge (show i < 2 ^ N by omega) (by omega)) h55) (fun h55 => ?_)
    refine zx_iload_n (pc := 58) dX9_spare_58 rfl rfl ?_
    refine zx_iload (pc := 59) dX9_spare_59 rfl ?_
    refine zx_fS1 (pc := 61) (k_of (d := d + 1) ) cl_X9_223 dX9_spare_61 rfl rfl (by omega) (Nat.le_of_ble_eq_true rfl) (Nat.le_refl _) (Nat.le_refl _) ?_
    refine zx_iload_n (pc := 64) dX9_spare_64 rfl rfl ?_
    refine zx_fS1 (pc := 65) (k_behindRains (d := d) (by omega)) cl_X9_227 dX9_spare_65 rfl rfl (by omega) (Nat.le_of_ble_eq_true rfl) (Nat.le_refl _) (Nat.le_refl _) ?_
    refine st_8_10 (pc := 68) dX9_spare_68 rfl ?_
    refine zx_iload (pc := 70) dX9_spare_70 rfl ?_
    refine zx_fS1 (pc := 72) (k_soundOf (d := d) ) cl_X9_122 dX9_spare_72 rfl rfl (by omega) (Nat.le_of_ble_eq_true rfl) (Nat.le_refl _) (Nat.le_refl _) ?_
    refine zx_iload_n (pc := 75) dX9_spare_75 rfl rfl ?_
    refine zx_iand (pc := 76) dX9_spare_76 ?_
    refine zx_iload_n (pc := 77) dX9_spare_77 rfl rfl ?_
    refine zx_icmp_ne (pc := 78) (tgt := 85) dX9_spare_78 (by decide) (fun h78 => ?_) (fun h78 => ?_)
    · refine zx_iconst (pc := 85) (v := 0) dX9_spare_85 (by decide) ?_
      refine st_9_10 (pc := 86) dX9_spare_86 rfl ?_
      refine zx_iload (pc := 88) dX9_spare_88 rfl ?_
      refine zx_if_eq (pc := 90) (tgt := 121) dX9_spare_90 (by decide) (fun _ => ?_) (fun h90 => absurd h90 (by decide))
      refine ic_7_10_1 (pc := 121) dX9_spare_121 rfl ?_
      refine zx_goto (pc := 124) (tgt := 50) dX9_spare_124 (by decide) ?_
      have hs := ih (i + 1) (by omega)
      simp only [zSpR, zSp1, h78, reduceIte, ← nI_1] at hs
      exact hs _ _
    · refine zx_iconst (pc := 81) (v := 1) dX9_spare_81 (by decide) ?_
      refine zx_goto (pc := 82) (tgt := 86) dX9_spare_82 (by decide) ?_
      refine st_9_10 (pc := 86) dX9_spare_86 rfl ?_
      refine zx_iload (pc := 88) dX9_spare_88 rfl ?_
      refine zx_if_eq (pc := 90) (tgt := 121) dX9_spare_90 (by decide) (fun h90 => absurd h90 (by decide)) (fun _ => ?_)
      refine zx_iload (pc := 93) dX9_spare_93 rfl ?_
      refine zx_bipush (pc := 95) (v := -9) dX9_spare_95 (by decide) ?_
      refine zx_icmp_eq (pc := 97) (tgt := 110) dX9_spare_97 (by decide) (fun h97 => ?_) (fun h97 => ?_)
      · refine zx_iload (pc := 110) dX9_spare_110 rfl ?_
        refine zx_fS1 (pc := 112) (k_bitCount (d := d + 1) ) cl_X9_230 dX9_spare_112 rfl rfl (by omega) (Nat.le_of_ble_eq_true rfl) (Nat.le_refl _) (Nat.le_refl _) ?_
        refine st_5_10 (pc := 115) dX9_spare_115 rfl ?_
        refine zx_iload (pc := 117) dX9_spare_117 rfl ?_
        refine st_6_10 (pc := 119) dX9_spare_119 rfl ?_
        refine ic_7_10_1 (pc := 121) dX9_spare_121 rfl ?_
        refine zx_goto (pc := 124) (tgt := 50) dX9_spare_124 (by decide) ?_
        have hs := ih (i + 1) (by omega)
        simp only [zSpR, zSp1, h78, h97, reduceIte, ← nI_1] at hs
        exact hs _ _
      · refine zx_iload (pc := 100) dX9_spare_100 rfl ?_
        refine zx_fS1 (pc := 102) (k_bitCount (d := d + 1) ) cl_X9_230 dX9_spare_102 rfl rfl (by omega) (Nat.le_of_ble_eq_true rfl) (Nat.le_refl _) (Nat.le_refl _) ?_
        refine zx_iload (pc := 105) dX9_spare_105 rfl ?_
        refine zx_icmp_ge (pc := 107) (tgt := 121) dX9_spare_107 (by decide) (fun h107 => ?_) (fun h107 => ?_)
        · refine ic_7_10_1 (pc := 121) dX9_spare_121 rfl ?_
          refine zx_goto (pc := 124) (tgt := 50) dX9_spare_124 (by decide) ?_
          have hs := ih (i + 1) (by omega)
          simp only [zSpR, zSp1, h78, h97, h107, reduceIte, ← nI_1] at hs
          exact hs _ _
        · refine zx_iload (pc := 110) dX9_spare_110 rfl ?_
          refine zx_fS1 (pc := 112) (k_bitCount (d := d + 1) ) cl_X9_230 dX9_spare_112 rfl rfl (by omega) (Nat.le_of_ble_eq_true rfl) (Nat.le_refl _) (Nat.le_refl _) ?_
          refine st_5_10 (pc := 115) dX9_spare_115 rfl ?_
          refine zx_iload (pc := 117) dX9_spare_117 rfl ?_
          refine st_6_10 (pc := 119) dX9_spare_119 rfl ?_
          refine ic_7_10_1 (pc := 121) dX9_spare_121 rfl ?_
          refine zx_goto (pc := 124) (tgt := 50) dX9_spare_124 (by decide) ?_
          have hs := ih (i + 1) (by omega)
          simp only [zSpR, zSp1, h78, h97, h107, reduceIte, ← nI_1] at hs
          exact hs _ _
set_option maxHeartbeats 4000000 in
theorem q_spare {d : Nat} {N R : Nat} {lk y : Int32} {tx : (Nat → Int32) × Int32} {gg : (Nat → Int32) × (Nat → Int32) × (Nat → Int32) × (Nat → Int32) × Int32 × Int32 × Int32} {nw : (Nat → Int32) × (Nat → Int32) × Int32 × Int32 × Int32 × Int32 × Int32 × Int32 × Int32} {tr : (Nat → Int32) × (Nat → Int32) × Int32 × Int32 × Int32 × Int32 × Int32 × Int32 × Int32} {wk : (Nat → Int32) × Int32 × Int32 × Int32} {pl : (Nat → Int32) × Int32 × Int32 × Int32 × Int32 × Int32} {ac : (Nat → zStt) × Int32 × Int32} {sl : (Nat → zStt) × (Nat → Int32)} {si : (Nat → Int32) × (Nat → Int32) × (Nat → Int32) × Int32} {sd : Int64} {tau : List zCel} (hN1 : 1 ≤ N) (hN : N ≤ 8) (hR : R ≤ 3) (hl0 : ¬ lk < 0) (hl1 : ¬ nI (2 ^ N) ≤ lk) (g0 : ¬ y < 0) (g1 : y ≤ 1) : zCf yX9_spare cX9_spare 10 (some .int) (d + 2) [.ref 0, .int (nI N), .int (nI R), .int lk, .int y] (encC tx gg nw tr wk pl ac sl si sd ++ tau) (some (.int (if y = 0 then (zSpR N R lk (2 ^ N)).1 else (zSpR N R lk (2 ^ N)).2))) (encC tx gg nw tr wk pl ac sl si sd ++ tau) := by
  refine zC.intro (by decide) (Nat.le_of_ble_eq_true rfl) rfl ?_
  refine zx_iload_n (pc := 0) dX9_spare_0 rfl rfl ?_
  refine zx_fS1 (pc := 1) (k_isWallHeight (d := d + 1) ) cl_X9_217 dX9_spare_1 rfl rfl (by omega) (Nat.le_of_ble_eq_true rfl) (Nat.le_refl _) (Nat.le_refl _) ?_
  refine zx_if_eq (pc := 4) (tgt := 36) dX9_spare_4 (by decide) (fun h4 => by first | exact absurd h4 (show ¬ zWH (nI N) = 0 from zWH_1 hN1 hN) | exact absurd (show ¬ zWH (nI N) = 0 from zWH_1 hN1 hN) h4) (fun h4 => ?_)
  refine zx_iload_n (pc := 7) dX9_spare_7 rfl rfl ?_
  refine zx_fS1 (pc := 8) (k_isRains (d := d + 1) ) cl_X9_220 dX9_spare_8 rfl rfl (by omega) (Nat.le_of_ble_eq_true rfl) (Nat.le_refl _) (Nat.le_refl _) ?_
  refine zx_if_eq (pc := 11) (tgt := 36) dX9_spare_11 (by decide) (fun h11 => by first | exact absurd h11 (show ¬ zIR (nI R) = 0 from zIR_1 hR) | exact absurd (show ¬ zIR (nI R) = 0 from zIR_1 hR) h11) (fun h11 => ?_)
  refine zx_iload_n (pc := 14) dX9_spare_14 rfl rfl ?_
  refine zx_if_lt (pc := 15) (tgt := 36) dX9_spare_15 (by decide) (fun h15 => by first | exact absurd h15 hl0 | exact absurd hl0 h15) (fun h15 => ?_)
  refine zx_iload_n (pc := 18) dX9_spare_18 rfl rfl ?_
  refine zx_iconst (pc := 19) (v := 1) dX9_spare_19 (by decide) ?_
  refine zx_iload_n (pc := 20) dX9_spare_20 rfl rfl ?_
  refine zx_ishl (pc := 21) dX9_spare_21 ?_
  rw [zsh1 N hN]
  refine zx_icmp_ge (pc := 22) (tgt := 36) dX9_spare_22 (by decide) (fun h22 => by first | exact absurd h22 hl1 | exact absurd hl1 h22) (fun h22 => ?_)
  refine zx_iload (pc := 25) dX9_spare_25 rfl ?_
  refine zx_if_lt (pc := 27) (tgt := 36) dX9_spare_27 (by decide) (fun h27 => by first | exact absurd h27 g0 | exact absurd g0 h27) (fun h27 => ?_)
  refine zx_iload (pc := 30) dX9_spare_30 rfl ?_
  refine zx_iconst (pc := 32) (v := 1) dX9_spare_32 (by decide) ?_
  refine zx_icmp_le (pc := 33) (tgt := 39) dX9_spare_33 (by decide) (fun h33 => ?_) (fun h33 => by first | exact absurd h33 g1 | exact absurd g1 h33)
  refine zx_bipush (pc := 39) (v := -9) dX9_spare_39 (by decide) ?_
  refine st_5_10 (pc := 41) dX9_spare_41 rfl ?_
  refine zx_bipush (pc := 43) (v := -9) dX9_spare_43 (by decide) ?_
  refine st_6_10 (pc := 45) dX9_spare_45 rfl ?_
  refine zx_iconst (pc := 47) (v := 0) dX9_spare_47 (by decide) ?_
  refine st_7_10 (pc := 48) dX9_spare_48 rfl ?_
  exact lp_spare hN hR rfl (2 ^ N) 0 (by omega) _ _
set_option maxHeartbeats 4000000 in
theorem q_spare_b1 {d : Nat} {x y u w : Int32} {tx : (Nat → Int32) × Int32} {gg : (Nat → Int32) × (Nat → Int32) × (Nat → Int32) × (Nat → Int32) × Int32 × Int32 × Int32} {nw : (Nat → Int32) × (Nat → Int32) × Int32 × Int32 × Int32 × Int32 × Int32 × Int32 × Int32} {tr : (Nat → Int32) × (Nat → Int32) × Int32 × Int32 × Int32 × Int32 × Int32 × Int32 × Int32} {wk : (Nat → Int32) × Int32 × Int32 × Int32} {pl : (Nat → Int32) × Int32 × Int32 × Int32 × Int32 × Int32} {ac : (Nat → zStt) × Int32 × Int32} {sl : (Nat → zStt) × (Nat → Int32)} {si : (Nat → Int32) × (Nat → Int32) × (Nat → Int32) × Int32} {sd : Int64} {tau : List zCel} (hb : zWH x = 0) : zCf yX9_spare cX9_spare 10 (some .int) (d + 2) [.ref 0, .int x, .int y, .int u, .int w] (encC tx gg nw tr wk pl ac sl si sd ++ tau) (some (.int (-2))) (encC tx gg nw tr wk pl ac sl si sd ++ tau) := by
  refine zC.intro (by decide) (Nat.le_of_ble_eq_true rfl) rfl ?_
  refine zx_iload_n (pc := 0) dX9_spare_0 rfl rfl ?_
  refine zx_fS1 (pc := 1) (k_isWallHeight (d := d + 1) ) cl_X9_217 dX9_spare_1 rfl rfl (by omega) (Nat.le_of_ble_eq_true rfl) (Nat.le_refl _) (Nat.le_refl _) ?_
  refine zx_if_eq (pc := 4) (tgt := 36) dX9_spare_4 (by decide) (fun h4 => ?_) (fun h4 => by first | exact absurd h4 hb | exact absurd hb h4)
  refine zx_bipush (pc := 36) (v := -2) dX9_spare_36 (by decide) ?_
  exact zx_fi (pc := 38) dX9_spare_38 rfl rfl (Nat.le_refl _) (Nat.le_refl _) rfl rfl
set_option maxHeartbeats 4000000 in
theorem q_spare_b2 {d : Nat} {x y u w : Int32} {tx : (Nat → Int32) × Int32} {gg : (Nat → Int32) × (Nat → Int32) × (Nat → Int32) × (Nat → Int32) × Int32 × Int32 × Int32} {nw : (Nat → Int32) × (Nat → Int32) × Int32 × Int32 × Int32 × Int32 × Int32 × Int32 × Int32} {tr : (Nat → Int32) × (Nat → Int32) × Int32 × Int32 × Int32 × Int32 × Int32 × Int32 × Int32} {wk : (Nat → Int32) × Int32 × Int32 × Int32} {pl : (Nat → Int32) × Int32 × Int32 × Int32 × Int32 × Int32} {ac : (Nat → zStt) × Int32 × Int32} {sl : (Nat → zStt) × (Nat → Int32)} {si : (Nat → Int32) × (Nat → Int32) × (Nat → Int32) × Int32} {sd : Int64} {tau : List zCel} (ha : ¬ zWH x = 0) (hb : zIR y = 0) : zCf yX9_spare cX9_spare 10 (some .int) (d + 2) [.ref 0, .int x, .int y, .int u, .int w] (encC tx gg nw tr wk pl ac sl si sd ++ tau) (some (.int (-2))) (encC tx gg nw tr wk pl ac sl si sd ++ tau) := by
  refine zC.intro (by decide) (Nat.le_of_ble_eq_true rfl) rfl ?_
  refine zx_iload_n (pc := 0) dX9_spare_0 rfl rfl ?_
  refine zx_fS1 (pc := 1) (k_isWallHeight (d := d + 1) ) cl_X9_217 dX9_spare_1 rfl rfl (by omega) (Nat.le_of_ble_eq_true rfl) (Nat.le_refl _) (Nat.le_refl _) ?_
  refine zx_if_eq (pc := 4) (tgt := 36) dX9_spare_4 (by decide) (fun h4 => by first | exact absurd h4 ha | exact absurd ha h4) (fun h4 => ?_)
  refine zx_iload_n (pc := 7) dX9_spare_7 rfl rfl ?_
  refine zx_fS1 (pc := 8) (k_isRains (d := d + 1) ) cl_X9_220 dX9_spare_8 rfl rfl (by omega) (Nat.le_of_ble_eq_true rfl) (Nat.le_refl _) (Nat.le_refl _) ?_
  refine zx_if_eq (pc := 11) (tgt := 36) dX9_spare_11 (by decide) (fun h11 => ?_) (fun h11 => by first | exact absurd h11 hb | exact absurd hb h11)
  refine zx_bipush (pc := 36) (v := -2) dX9_spare_36 (by decide) ?_
  exact zx_fi (pc := 38) dX9_spare_38 rfl rfl (Nat.le_refl _) (Nat.le_refl _) rfl rfl
set_option maxHeartbeats 4000000 in
theorem q_spare_b3 {d : Nat} {N : Nat} {y u w : Int32} {tx : (Nat → Int32) × Int32} {gg : (Nat → Int32) × (Nat → Int32) × (Nat → Int32) × (Nat → Int32) × Int32 × Int32 × Int32} {nw : (Nat → Int32) × (Nat → Int32) × Int32 × Int32 × Int32 × Int32 × Int32 × Int32 × Int32} {tr : (Nat → Int32) × (Nat → Int32) × Int32 × Int32 × Int32 × Int32 × Int32 × Int32 × Int32} {wk : (Nat → Int32) × Int32 × Int32 × Int32} {pl : (Nat → Int32) × Int32 × Int32 × Int32 × Int32 × Int32} {ac : (Nat → zStt) × Int32 × Int32} {sl : (Nat → zStt) × (Nat → Int32)} {si : (Nat → Int32) × (Nat → Int32) × (Nat → Int32) × Int32} {sd : Int64} {tau : List zCel} (hN1 : 1 ≤ N) (hN : N ≤ 8) (ha : ¬ zIR y = 0) (hb : u < 0 ∨ nI (2 ^ N) ≤ u) : zCf yX9_spare cX9_spare 10 (some .int) (d + 2) [.ref 0, .int (nI N), .int y, .int u, .int w] (encC tx gg nw tr wk pl ac sl si sd ++ tau) (some (.int (-2))) (encC tx gg nw tr wk pl ac sl si sd ++ tau) := by
  refine zC.intro (by decide) (Nat.le_of_ble_eq_true rfl) rfl ?_
  refine zx_iload_n (pc := 0) dX9_spare_0 rfl rfl ?_
  refine zx_fS1 (pc := 1) (k_isWallHeight (d := d + 1) ) cl_X9_217 dX9_spare_1 rfl rfl (by omega) (Nat.le_of_ble_eq_true rfl) (Nat.le_refl _) (Nat.le_refl _) ?_
  refine zx_if_eq (pc := 4) (tgt := 36) dX9_spare_4 (by decide) (fun h4 => by first | exact absurd h4 (show ¬ zWH (nI N) = 0 from zWH_1 hN1 hN) | exact absurd (show ¬ zWH (nI N) = 0 from zWH_1 hN1 hN) h4) (fun h4 => ?_)
  refine zx_iload_n (pc := 7) dX9_spare_7 rfl rfl ?_
  refine zx_fS1 (pc := 8) (k_isRains (d := d + 1) ) cl_X9_220 dX9_spare_8 rfl rfl (by omega) (Nat.le_of_ble_eq_true rfl) (Nat.le_refl _) (Nat.le_refl _) ?_
  refine zx_if_eq (pc := 11) (tgt := 36) dX9_spare_11 (by decide) (fun h11 => by first | exact absurd h11 ha | exact absurd ha h11) (fun h11 => ?_)
  refine zx_iload_n (pc := 14) dX9_spare_14 rfl rfl ?_
  refine zx_if_lt (pc := 15) (tgt := 36) dX9_spare_15 (by decide) (fun h15 => ?_) (fun h15 => ?_)
  · refine zx_bipush (pc := 36) (v := -2) dX9_spare_36 (by decide) ?_
    exact zx_fi (pc := 38) dX9_spare_38 rfl rfl (Nat.le_refl _) (Nat.le_refl _) rfl rfl
  · refine zx_iload_n (pc := 18) dX9_spare_18 rfl rfl ?_
    refine zx_iconst (pc := 19) (v := 1) dX9_spare_19 (by decide) ?_
    refine zx_iload_n (pc := 20) dX9_spare_20 rfl rfl ?_
    refine zx_ishl (pc := 21) dX9_spare_21 ?_
    rw [zsh1 N hN]
    refine zx_icmp_ge (pc := 22) (tgt := 36) dX9_spare_22 (by decide) (fun h22 => ?_) (fun h22 => by first | exact absurd h22 (show nI (2 ^ N) ≤ u by rcases hb with q | q; exact absurd q h15; exact q) | exact absurd (show nI (2 ^ N) ≤ u by rcases hb with q | q; exact absurd q h15; exact q) h22)
    refine zx_bipush (pc := 36) (v := -2) dX9_spare_36 (by decide) ?_
    exact zx_fi (pc := 38) dX9_spare_38 rfl rfl (Nat.le_refl _) (Nat.le_refl _) rfl rfl
set_option maxHeartbeats 4000000 in
theorem q_spare_b4 {d : Nat} {N : Nat} {y u w : Int32} {tx : (Nat → Int32) × Int32} {gg : (Nat → Int32) × (Nat → Int32) × (Nat → Int32) × (Nat → Int32) × Int32 × Int32 × Int32} {nw : (Nat → Int32) × (Nat → Int32) × Int32 × Int32 × Int32 × Int32 × Int32 × Int32 × Int32} {tr : (Nat → Int32) × (Nat → Int32) × Int32 × Int32 × Int32 × Int32 × Int32 × Int32 × Int32} {wk : (Nat → Int32) × Int32 × Int32 × Int32} {pl : (Nat → Int32) × Int32 × Int32 × Int32 × Int32 × Int32} {ac : (Nat → zStt) × Int32 × Int32} {sl : (Nat → zStt) × (Nat → Int32)} {si : (Nat → Int32) × (Nat → Int32) × (Nat → Int32) × Int32} {sd : Int64} {tau : List zCel} (hN1 : 1 ≤ N) (hN : N ≤ 8) (ha : ¬ zIR y = 0) (hl0 : ¬ u < 0) (hl1 : ¬ nI (2 ^ N) ≤ u) (hb : w < 0 ∨ ¬ w ≤ 1) : zCf yX9_spare cX9_spare 10 (some .int) (d + 2) [.ref 0, .int (nI N), .int y, .int u, .int w] (encC tx gg nw tr wk pl ac sl si sd ++ tau) (some (.int (-2))) (encC tx gg nw tr wk pl ac sl si sd ++ tau) := by
  refine zC.intro (by decide) (Nat.le_of_ble_eq_true rfl) rfl ?_
  refine zx_iload_n (pc := 0) dX9_spare_0 rfl rfl ?_
  refine zx_fS1 (pc := 1) (k_isWallHeight (d := d + 1) ) cl_X9_217 dX9_spare_1 rfl rfl (by omega) (Nat.le_of_ble_eq_true rfl) (Nat.le_refl _) (Nat.le_refl _) ?_
  refine zx_if_eq (pc := 4) (tgt := 36) dX9_spare_4 (by decide) (fun h4 => by first | exact absurd h4 (show ¬ zWH (nI N) = 0 from zWH_1 hN1 hN) | exact absurd (show ¬ zWH (nI N) = 0 from zWH_1 hN1 hN) h4) (fun h4 => ?_)
  refine zx_iload_n (pc := 7) dX9_spare_7 rfl rfl ?_
  refine zx_fS1 (pc := 8) (k_isRains (d := d + 1) ) cl_X9_220 dX9_spare_8 rfl rfl (by omega) (Nat.le_of_ble_eq_true rfl) (Nat.le_refl _) (Nat.le_refl _) ?_
  refine zx_if_eq (pc := 11) (tgt := 36) dX9_spare_11 (by decide) (fun h11 => by first | exact absurd h11 ha | exact absurd ha h11) (fun h11 => ?_)
  refine zx_iload_n (pc := 14) dX9_spare_14 rfl rfl ?_
  refine zx_if_lt (pc := 15) (tgt := 36) dX9_spare_15 (by decide) (fun h15 => by first | exact absurd h15 hl0 | exact absurd hl0 h15) (fun h15 => ?_)
  refine zx_iload_n (pc := 18) dX9_spare_18 rfl rfl ?_
  refine zx_iconst (pc := 19) (v := 1) dX9_spare_19 (by decide) ?_
  refine zx_iload_n (pc := 20) dX9_spare_20 rfl rfl ?_
  refine zx_ishl (pc := 21) dX9_spare_21 ?_
  rw [zsh1 N hN]
  refine zx_icmp_ge (pc := 22) (tgt := 36) dX9_spare_22 (by decide) (fun h22 => by first | exact absurd h22 hl1 | exact absurd hl1 h22) (fun h22 => ?_)
  refine zx_iload (pc := 25) dX9_spare_25 rfl ?_
  refine zx_if_lt (pc := 27) (tgt := 36) dX9_spare_27 (by decide) (fun h27 => ?_) (fun h27 => ?_)
  · refine zx_bipush (pc := 36) (v := -2) dX9_spare_36 (by decide) ?_
    exact zx_fi (pc := 38) dX9_spare_38 rfl rfl (Nat.le_refl _) (Nat.le_refl _) rfl rfl
  · refine zx_iload (pc := 30) dX9_spare_30 rfl ?_
    refine zx_iconst (pc := 32) (v := 1) dX9_spare_32 (by decide) ?_
    refine zx_icmp_le (pc := 33) (tgt := 39) dX9_spare_33 (by decide) (fun h33 => by first | exact absurd h33 (show ¬ w ≤ 1 by rcases hb with q | q; exact absurd q h27; exact q) | exact absurd (show ¬ w ≤ 1 by rcases hb with q | q; exact absurd q h27; exact q) h33) (fun h33 => ?_)
    refine zx_bipush (pc := 36) (v := -2) dX9_spare_36 (by decide) ?_
    exact zx_fi (pc := 38) dX9_spare_38 rfl rfl (Nat.le_refl _) (Nat.le_refl _) rfl rfl
