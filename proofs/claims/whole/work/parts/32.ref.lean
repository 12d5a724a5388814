theorem zX.weak {own : String} {cc : ByteArray} {nL : Nat} {ret : Option FieldType} {nm : String} {scr : Option (Nat × (Nat → Int32))} {d n0 mc ms kc ks : Nat} {Q Q' : Option Value → List zCel → Prop} {pc : Nat} {L : List (Option Value)} {st : List Value} {sg : List zCel} (hw : ∀ r s, Q r s → Q' r s) (h : zX own cc nL ret nm scr d n0 mc ms kc ks Q pc L st sg) : zX own cc nL ret nm scr d n0 mc ms kc ks Q' pc L st sg := by
  intro p l e R s m args below meth c dC dI cA A a0 Qf C K
  exact h p l e R s m args below meth c dC dI cA A a0 Qf C (fun al H locs ls pc sg r hq => K al H locs ls pc sg r (hw r sg hq))
set_option maxHeartbeats 4000000 in
theorem m_write_bad {d : Nat} {x : Int32} {th : Int32} {mA : (Nat → Int32) × Int32 × Int32} {mB : Int32 × Int32 × (Nat → Int32) × (Nat → Int32) × Int32 × (Nat → Int32)} {mR : Int32 × Int32 × (Nat → Int32) × Int32 × (Nat → Int32)} {pg : (Nat → Int32)} {mq : (Nat → Int32)} {bk : (Nat → Int32) × Int32} {kp : (Nat → Int32) × (Nat → Int32)} {sn : Int32 × (Nat → Int32) × (Nat → Int32) × (Nat → Int32)} {ml : Int64} {mw : Int32 × Int32} {pn : Int32 × Int32 × Int32 × Int32} {wl : Int32 × Int32} {sp : Int32 × Int32} {rs : Int32 × Int32} {vl : (Nat → Int32)} {rho : List zCel} (hr : rho.length = 75) (hb : zIn x 0 255 = 0) : zCf yX10_write cX10_write 2 (some .int) (d + 1) [.ref 75, .int x] (rho ++ encM th mA mB mR pg mq bk kp sn ml mw pn wl sp rs vl) (some (.int (-2))) (rho ++ encM 0 mA mB mR pg mq bk kp sn ml mw pn wl sp rs vl) := by
  refine zC.intro (by decide) (Nat.le_of_ble_eq_true rfl) rfl ?_
  refine zx_aload_n (pc := 0) dX10_write_0 rfl rfl ?_
  refine zx_iconst (pc := 1) (v := 0) dX10_write_1 (by decide) ?_
  refine u75_0 (pc := 2) hr fl_X10_56 dX10_write_2 ?_
  refine zx_iload_n (pc := 5) dX10_write_5 rfl rfl ?_
  refine zx_i2l (pc := 6) dX10_write_6 rfl ?_
  refine zx_lconst (pc := 7) (v := 0) dX10_write_7 (by decide) ?_
  refine zx_ldc2 (pc := 8) kl_X10_67 dX10_write_8 ?_
  refine zx_fS1 (pc := 11) (r_in (d := d) (lo := 0) (hi := 255) rfl rfl rfl) cl_X10_63 dX10_write_11 rfl rfl (by omega) (Nat.le_of_ble_eq_true rfl) (Nat.le_refl _) (Nat.le_refl _) ?_
  refine zx_if_ne (pc := 14) (tgt := 20) dX10_write_14 (by decide) (fun h14 => by first | exact absurd h14 hb | exact absurd hb h14) (fun h14 => ?_)
  refine zx_bipush (pc := 17) (v := -2) dX10_write_17 (by decide) ?_
  exact zx_fi (pc := 19) dX10_write_19 rfl rfl (Nat.le_refl _) (Nat.le_refl _) rfl rfl
set_option maxHeartbeats 4000000 in
theorem m_write_full {d : Nat} {x : Int32} {th : Int32} {mt : (Nat → Int32)} {mp : Int32} {mB : Int32 × Int32 × (Nat → Int32) × (Nat → Int32) × Int32 × (Nat → Int32)} {mR : Int32 × Int32 × (Nat → Int32) × Int32 × (Nat → Int32)} {pg : (Nat → Int32)} {mq : (Nat → Int32)} {bk : (Nat → Int32) × Int32} {kp : (Nat → Int32) × (Nat → Int32)} {sn : Int32 × (Nat → Int32) × (Nat → Int32) × (Nat → Int32)} {ml : Int64} {mw : Int32 × Int32} {pn : Int32 × Int32 × Int32 × Int32} {wl : Int32 × Int32} {sp : Int32 × Int32} {rs : Int32 × Int32} {vl : (Nat → Int32)} {rho : List zCel} (hr : rho.length = 75) (hb : ¬ zIn x 0 255 = 0) : zCf yX10_write cX10_write 2 (some .int) (d + 1) [.ref 75, .int x] (rho ++ encM th (mt, (nI 40), mp) mB mR pg mq bk kp sn ml mw pn wl sp rs vl) (some (.int (-4))) (rho ++ encM 0 (mt, (nI 40), mp) mB mR pg mq bk kp sn ml mw pn wl sp rs vl) := by
  refine zC.intro (by decide) (Nat.le_of_ble_eq_true rfl) rfl ?_
  refine zx_aload_n (pc := 0) dX10_write_0 rfl rfl ?_
  refine zx_iconst (pc := 1) (v := 0) dX10_write_1 (by decide) ?_
  refine u75_0 (pc := 2) hr fl_X10_56 dX10_write_2 ?_
  refine zx_iload_n (pc := 5) dX10_write_5 rfl rfl ?_
  refine zx_i2l (pc := 6) dX10_write_6 rfl ?_
  refine zx_lconst (pc := 7) (v := 0) dX10_write_7 (by decide) ?_
  refine zx_ldc2 (pc := 8) kl_X10_67 dX10_write_8 ?_
  refine zx_fS1 (pc := 11) (r_in (d := d) (lo := 0) (hi := 255) rfl rfl rfl) cl_X10_63 dX10_write_11 rfl rfl (by omega) (Nat.le_of_ble_eq_true rfl) (Nat.le_refl _) (Nat.le_refl _) ?_
  refine zx_if_ne (pc := 14) (tgt := 20) dX10_write_14 (by decide) (fun h14 => ?_) (fun h14 => by first | exact absurd h14 hb | exact absurd hb h14)
  refine zx_aload_n (pc := 20) dX10_write_20 rfl rfl ?_
  refine g75_2 (pc := 21) hr fl_X10_69 dX10_write_21 ?_
  refine zx_bipush (pc := 24) (v := 40) dX10_write_24 (by decide) ?_
  refine zx_icmp_ne (pc := 26) (tgt := 32) dX10_write_26 (by decide) (fun h26 => by first | exact absurd h26 (show nI 40 = 40 from rfl) | exact absurd (show nI 40 = 40 from rfl) h26) (fun h26 => ?_)
  refine zx_bipush (pc := 29) (v := -4) dX10_write_29 (by decide) ?_
  exact zx_fi (pc := 31) dX10_write_31 rfl rfl (Nat.le_refl _) (Nat.le_refl _) rfl rfl
set_option maxHeartbeats 4000000 in
theorem m_write_ok {d : Nat} {T : Nat} {x : Int32} {th : Int32} {mt : (Nat → Int32)} {mp : Int32} {mB : Int32 × Int32 × (Nat → Int32) × (Nat → Int32) × Int32 × (Nat → Int32)} {mR : Int32 × Int32 × (Nat → Int32) × Int32 × (Nat → Int32)} {pg : (Nat → Int32)} {mq : (Nat → Int32)} {bk : (Nat → Int32) × Int32} {kp : (Nat → Int32) × (Nat → Int32)} {sn : Int32 × (Nat → Int32) × (Nat → Int32) × (Nat → Int32)} {ml : Int64} {mw : Int32 × Int32} {pn : Int32 × Int32 × Int32 × Int32} {wl : Int32 × Int32} {sp : Int32 × Int32} {rs : Int32 × Int32} {vl : (Nat → Int32)} {rho : List zCel} (hr : rho.length = 75) (hb : ¬ zIn x 0 255 = 0) (hT : T < 40) : zCf yX10_write cX10_write 2 (some .int) (d + 1) [.ref 75, .int x] (rho ++ encM th (mt, (nI T), mp) mB mR pg mq bk kp sn ml mw pn wl sp rs vl) (some (.int (nI (T + 1)))) (rho ++ encM 0 ((upd mt T x), (nI (T + 1)), mp) mB mR pg mq bk kp sn ml mw pn wl sp rs vl) := by
  refine zC.intro (by decide) (Nat.le_of_ble_eq_true rfl) rfl ?_
  refine zx_aload_n (pc := 0) dX10_write_0 rfl rfl ?_
  refine zx_iconst (pc := 1) (v := 0) dX10_write_1 (by decide) ?_
  refine u75_0 (pc := 2) hr fl_X10_56 dX10_write_2 ?_
  refine zx_iload_n (pc := 5) dX10_write_5 rfl rfl ?_
  refine zx_i2l (pc := 6) dX10_write_6 rfl ?_
  refine zx_lconst (pc := 7) (v := 0) dX10_write_7 (by decide) ?_
  refine zx_ldc2 (pc := 8) kl_X10_67 dX10_write_8 ?_
  refine zx_fS1 (pc := 11) (r_in (d := d) (lo := 0) (hi := 255) rfl rfl rfl) cl_X10_63 dX10_write_11 rfl rfl (by omega) (Nat.le_of_ble_eq_true rfl) (Nat.le_refl _) (Nat.le_refl _) ?_
  refine zx_if_ne (pc := 14) (tgt := 20) dX10_write_14 (by decide) (fun h14 => ?_) (fun h14 => by first | exact absurd h14 hb | exact absurd hb h14)
  refine zx_aload_n (pc := 20) dX10_write_20 rfl rfl ?_
  refine g75_2 (pc := 21) hr fl_X10_69 dX10_write_21 ?_
  refine zx_bipush (pc := 24) (v := 40) dX10_write_24 (by decide) ?_
  refine zx_icmp_ne (pc := 26) (tgt := 32) dX10_write_26 (by decide) (fun h26 => ?_) (fun h26 => by first | exact absurd h26 (show ¬ nI T = 40 from fun q => by have := (nI_eq (a := T) (b := 40) (by omega) (by decide)).mp q; omega) | exact absurd (show ¬ nI T = 40 from fun q => by have := (nI_eq (a := T) (b := 40) (by omega) (by decide)).mp q; omega) h26)
  refine zx_aload_n (pc := 32) dX10_write_32 rfl rfl ?_
  refine g75_1 (pc := 33) hr fl_X10_7 dX10_write_33 ?_
  refine zx_aload_n (pc := 36) dX10_write_36 rfl rfl ?_
  refine g75_2 (pc := 37) hr fl_X10_69 dX10_write_37 ?_
  refine zx_iload_n (pc := 40) dX10_write_40 rfl rfl ?_
  refine s76 (pc := 41) hr (zix_n (by omega)) dX10_write_41 ?_
  refine zx_aload_n (pc := 42) dX10_write_42 rfl rfl ?_
  refine zx_dup (pc := 43) dX10_write_43 rfl ?_
  refine g75_2 (pc := 44) hr fl_X10_69 dX10_write_44 ?_
  refine zx_iconst (pc := 47) (v := 1) dX10_write_47 (by decide) ?_
  refine zx_iadd (pc := 48) dX10_write_48 ?_
  rw [nI_1]
  refine u75_2 (pc := 49) hr fl_X10_69 dX10_write_49 ?_
  refine zx_aload_n (pc := 52) dX10_write_52 rfl rfl ?_
  refine g75_2 (pc := 53) hr fl_X10_69 dX10_write_53 ?_
  exact zx_fi (pc := 56) dX10_write_56 rfl rfl (Nat.le_refl _) (Nat.le_refl _) rfl rfl
set_option maxHeartbeats 4000000 in
theorem m_wipe {d : Nat}  {th : Int32} {mt : (Nat → Int32)} {mz : Int32} {mp : Int32} {mB : Int32 × Int32 × (Nat → Int32) × (Nat → Int32) × Int32 × (Nat → Int32)} {mR : Int32 × Int32 × (Nat → Int32) × Int32 × (Nat → Int32)} {pg : (Nat → Int32)} {mq : (Nat → Int32)} {bk : (Nat → Int32) × Int32} {kp : (Nat → Int32) × (Nat → Int32)} {sn : Int32 × (Nat → Int32) × (Nat → Int32) × (Nat → Int32)} {ml : Int64} {mw : Int32 × Int32} {pn : Int32 × Int32 × Int32 × Int32} {wl : Int32 × Int32} {sp : Int32 × Int32} {rs : Int32 × Int32} {vl : (Nat → Int32)} {rho : List zCel} (hr : rho.length = 75)  : zCf yX10_wipe cX10_wipe 2 (some .int) d [.ref 75] (rho ++ encM th (mt, mz, mp) mB mR pg mq bk kp sn ml mw pn wl sp rs vl) (some (.int (mz))) (rho ++ encM 0 (mt, 0, mp) mB mR pg mq bk kp sn ml mw pn wl sp rs vl) := by
  refine zC.intro (by decide) (Nat.le_of_ble_eq_true rfl) rfl ?_
  refine zx_aload_n (pc := 0) dX10_wipe_0 rfl rfl ?_
  refine zx_iconst (pc := 1) (v := 0) dX10_wipe_1 (by decide) ?_
  refine u75_0 (pc := 2) hr fl_X10_56 dX10_wipe_2 ?_
  refine zx_aload_n (pc := 5) dX10_wipe_5 rfl rfl ?_
  refine g75_2 (pc := 6) hr fl_X10_69 dX10_wipe_6 ?_
  refine st_1_2 (pc := 9) dX10_wipe_9 rfl ?_
  refine zx_aload_n (pc := 10) dX10_wipe_10 rfl rfl ?_
  refine zx_iconst (pc := 11) (v := 0) dX10_wipe_11 (by decide) ?_
  refine u75_2 (pc := 12) hr fl_X10_69 dX10_wipe_12 ?_
  refine zx_iload_n (pc := 15) dX10_wipe_15 rfl rfl ?_
  exact zx_fi (pc := 16) dX10_wipe_16 rfl rfl (Nat.le_refl _) (Nat.le_refl _) rfl rfl
set_option maxHeartbeats 4000000 in
theorem m_fault {d T : Nat} {th : Int32} {mt : (Nat → Int32)} {mp : Int32} {mB : Int32 × Int32 × (Nat → Int32) × (Nat → Int32) × Int32 × (Nat → Int32)} {rc : Int32} {rh : Int32} {rg : (Nat → Int32)} {rf : Int32} {rd : (Nat → Int32)} {pg : (Nat → Int32)} {mq : (Nat → Int32)} {bk : (Nat → Int32) × Int32} {kp : (Nat → Int32) × (Nat → Int32)} {sn : Int32 × (Nat → Int32) × (Nat → Int32) × (Nat → Int32)} {ml : Int64} {mw : Int32 × Int32} {pn : Int32 × Int32 × Int32 × Int32} {wl : Int32 × Int32} {sp : Int32 × Int32} {rs : Int32 × Int32} {vl : (Nat → Int32)} {rho : List zCel} (hr : rho.length = 75) (hT : T ≤ 40) : zC yX10_fault cX10_fault 1 (some .int) (d + 5) 0 0 [.ref 75] (rho ++ encM th (mt, (nI T), mp) mB (rc, rh, rg, rf, rd) pg mq bk kp sn ml mw pn wl sp rs vl) (fun r s => ∃ (mp' rc' rh' rf' : Int32) (rg' rd' : Nat → Int32), r = some (.int (zFF mt T T)) ∧ s = rho ++ encM 0 (mt, (nI T), mp') mB (rc', rh', rg', rf', rd') pg mq bk kp sn ml mw pn wl sp rs vl ∧ (zFF mt T T = -9 → ∃ Z : Nat, T = 2 + 3 * Z ∧ zCn mt 72 Z ≤ 5 ∧ zCn mt 70 Z ≤ 3 ∧ rc' = mt 1 - 48 ∧ rh' = nI (zCn mt 72 Z) ∧ rf' = nI (zCn mt 70 Z) ∧ rg' = zGh mt 72 rg Z ∧ rd' = zGh mt 70 rd Z)) := by
  refine zC.intro (by decide) (Nat.le_of_ble_eq_true rfl) rfl ?_
  refine zx_aload_n (pc := 0) dX10_fault_0 rfl rfl ?_
  refine zx_iconst (pc := 1) (v := 0) dX10_fault_1 (by decide) ?_
  refine u75_0 (pc := 2) hr fl_X10_56 dX10_fault_2 ?_
  refine zx_aload_n (pc := 5) dX10_fault_5 rfl rfl ?_
  refine zx_callV0 (pc := 6) (r_readPit (d := d) hr hT) cl_X10_96 (p75 hr) rfl dX10_fault_6 rfl rfl (by omega) (Nat.le_of_ble_eq_true rfl) (Nat.le_refl _) (Nat.le_refl _) (fun r s hQ => ?_)
  obtain ⟨mp', rc', rh', rf', rg', rd', rfl, rfl, h9⟩ := hQ
  exact zx_iret (pc := 9) dX10_fault_9 rfl rfl (Nat.le_refl _) (Nat.le_refl _) ⟨mp', rc', rh', rf', rg', rd', rfl, rfl, h9⟩
set_option maxHeartbeats 4000000 in
theorem lm_pit3 {d n0 T Z : Nat} {mt : (Nat → Int32)} {mp : Int32} {mg : (Nat → Int32)} {mk : (Nat → Int32)} {md : (Nat → Int32)} {rg : (Nat → Int32)} {rd : (Nat → Int32)} {pg : (Nat → Int32)} {mq : (Nat → Int32)} {bb : (Nat → Int32)} {ba : Int32} {kk : (Nat → Int32)} {ki : (Nat → Int32)} {sn : Int32 × (Nat → Int32) × (Nat → Int32) × (Nat → Int32)} {ml : Int64} {mw : Int32 × Int32} {pn : Int32 × Int32 × Int32 × Int32} {wl : Int32 × Int32} {sp : Int32 × Int32} {rs : Int32 × Int32} {vl : (Nat → Int32)} {rho : List zCel} (hr : rho.length = 75) (h5 : zCn mt 72 Z ≤ 5) (h3 : zCn mt 70 Z ≤ 3) : ∀ k i : Nat, i + k = (zCn mt 70 Z) → zX RX10 cX10_pit 2 (some .int) "pit" none (d + 5) n0 0 0 0 0 (fun r s => r = some (.int (10 * nI (zCn mt 72 Z) + nI (zCn mt 70 Z))) ∧ s = rho ++ encM 0 (mt, (nI T), mp) ((mt 1 - 48), (nI (zCn mt 72 Z)), (zC16 (fun h => (zGh mt 72 rg Z) (2 * h)) mg (zCn mt 72 Z)), (zC16 (fun h => (zGh mt 72 rg Z) (2 * h + 1)) mk (zCn mt 72 Z)), (nI (zCn mt 70 Z)), (zC16 (fun h => (zGh mt 70 rd Z) (2 * h)) md (zCn mt 70 Z))) ((mt 1 - 48), (nI (zCn mt 72 Z)), (zGh mt 72 rg Z), (nI (zCn mt 70 Z)), (zGh mt 70 rd Z)) (zPut (zFil pg 0 16) (fun h => (zGh mt 70 rd Z) (2 * h + 1)) 5 (zCn mt 70 Z)) mq (bb, 0) (kk, (upd (upd ki 0 0) 1 0)) sn ml mw pn wl sp rs vl) 110 [some (.ref 75), some (.int (nI i))] [] (rho ++ encM 0 (mt, (nI T), mp) ((mt 1 - 48), (nI (zCn mt 72 Z)), (zC16 (fun h => (zGh mt 72 rg Z) (2 * h)) mg (zCn mt 72 Z)), (zC16 (fun h => (zGh mt 72 rg Z) (2 * h + 1)) mk (zCn mt 72 Z)), (nI (zCn mt 70 Z)), (zC16 (fun h => (zGh mt 70 rd Z) (2 * h)) md i)) ((mt 1 - 48), (nI (zCn mt 72 Z)), (zGh mt 72 rg Z), (nI (zCn mt 70 Z)), (zGh mt 70 rd Z)) (zPut (zFil pg 0 16) (fun h => (zGh mt 70 rd Z) (2 * h + 1)) 5 i) mq (bb, ba) (kk, ki) sn ml mw pn wl sp rs vl) := by
  intro k
  induction k with
  | zero =>
    intro i hi
    obtain rfl : i = (zCn mt 70 Z) := by omega
    refine zx_iload_n (pc := 110) dX10_pit_110 rfl rfl ?_
    refine zx_aload_n (pc := 111) dX10_pit_111 rfl rfl ?_
    refine g75_8 (pc := 112) hr fl_X10_103 dX10_pit_112 ?_
    refine zx_icmp_ge (pc := 115) (tgt := 156) dX10_pit_115 (by decide) (fun h115 => ?_) (fun h115 => by first | exact absurd h115 (Int32.le_refl (nI (zCn mt 70 Z))) | exact absurd (Int32.le_refl (nI (zCn mt 70 Z))) h115)
    refine zx_aload_n (pc := 156) dX10_pit_156 rfl rfl ?_
    refine zx_iconst (pc := 157) (v := 0) dX10_pit_157 (by decide) ?_
    refine u75_18 (pc := 158) hr fl_X10_106 dX10_pit_158 ?_
    refine zx_aload_n (pc := 161) dX10_pit_161 rfl rfl ?_
    refine g75_20 (pc := 162) hr fl_X10_40 dX10_pit_162 ?_
    refine zx_iconst (pc := 165) (v := 0) dX10_pit_165 (by decide) ?_
    refine zx_iconst (pc := 166) (v := 0) dX10_pit_166 (by decide) ?_
    refine s86 (pc := 167) (y := 0) hr (zix_k (j := 0) (by decide) (by decide)) (by decide) dX10_pit_167 ?_
    refine zx_aload_n (pc := 168) dX10_pit_168 rfl rfl ?_
    refine g75_20 (pc := 169) hr fl_X10_40 dX10_pit_169 ?_
    refine zx_iconst (pc := 172) (v := 1) dX10_pit_172 (by decide) ?_
    refine zx_iconst (pc := 173) (v := 0) dX10_pit_173 (by decide) ?_
    refine s86 (pc := 174) (y := 0) hr (zix_k (j := 1) (by decide) (by decide)) (by decide) dX10_pit_174 ?_
    refine zx_bipush (pc := 175) (v := 10) dX10_pit_175 (by decide) ?_
    refine zx_aload_n (pc := 177) dX10_pit_177 rfl rfl ?_
    refine g75_5 (pc := 178) hr fl_X10_60 dX10_pit_178 ?_
    refine zx_imul (pc := 181) dX10_pit_181 ?_
    refine zx_aload_n (pc := 182) dX10_pit_182 rfl rfl ?_
    refine g75_8 (pc := 183) hr fl_X10_103 dX10_pit_183 ?_
    refine zx_iadd (pc := 186) dX10_pit_186 ?_
    exact zx_fi (pc := 187) dX10_pit_187 rfl rfl (Nat.le_refl _) (Nat.le_refl _) rfl rfl
  | succ k ih =>
    intro i hi
    refine zx_iload_n (pc := 110) dX10_pit_110 rfl rfl ?_
    refine zx_aload_n (pc := 111) dX10_pit_111 rfl rfl ?_
    refine g75_8 (pc := 112) hr fl_X10_103 dX10_pit_112 ?_
    refine zx_icmp_ge (pc := 115) (tgt := 156) dX10_pit_115 (by decide) (fun h115 => by first | exact absurd h115 (nI_ge (show i < (zCn mt 70 Z) by omega) (by omega)) | exact absurd (nI_ge (show i < (zCn mt 70 Z) by omega) (by omega)) h115) (fun h115 => ?_)
    refine zx_aload_n (pc := 118) dX10_pit_118 rfl rfl ?_
    refine g75_9 (pc := 119) hr fl_X10_19 dX10_pit_119 ?_
    refine zx_iload_n (pc := 122) dX10_pit_122 rfl rfl ?_
    refine zx_aload_n (pc := 123) dX10_pit_123 rfl rfl ?_
    refine g75_14 (pc := 124) hr fl_X10_25 dX10_pit_124 ?_
    refine zx_iconst (pc := 127) (v := 2) dX10_pit_127 (by decide) ?_
    refine zx_iload_n (pc := 128) dX10_pit_128 rfl rfl ?_
    refine zx_imul (pc := 129) dX10_pit_129 ?_
    refine a81 (pc := 130) hr (zix_2 (by omega)) dX10_pit_130 ?_
    refine s79 (pc := 131) hr (zix_n (by omega)) dX10_pit_131 ?_
    refine zx_aload_n (pc := 132) dX10_pit_132 rfl rfl ?_
    refine g75_15 (pc := 133) hr fl_X10_28 dX10_pit_133 ?_
    refine zx_iconst (pc := 136) (v := 5) dX10_pit_136 (by decide) ?_
    refine zx_iload_n (pc := 137) dX10_pit_137 rfl rfl ?_
    refine zx_iadd (pc := 138) dX10_pit_138 ?_
    refine zx_aload_n (pc := 139) dX10_pit_139 rfl rfl ?_
    refine g75_14 (pc := 140) hr fl_X10_25 dX10_pit_140 ?_
    refine zx_iconst (pc := 143) (v := 2) dX10_pit_143 (by decide) ?_
    refine zx_iload_n (pc := 144) dX10_pit_144 rfl rfl ?_
    refine zx_imul (pc := 145) dX10_pit_145 ?_
    refine zx_iconst (pc := 146) (v := 1) dX10_pit_146 (by decide) ?_
    refine zx_iadd (pc := 147) dX10_pit_147 ?_
    refine a81 (pc := 148) hr (zix_21 (by omega)) dX10_pit_148 ?_
    refine s82 (pc := 149) hr (zix_5 (by omega)) dX10_pit_149 ?_
    refine ic_1_2_1 (pc := 150) dX10_pit_150 rfl ?_
    refine zx_goto (pc := 153) (tgt := 110) dX10_pit_153 (by decide) ?_
    rw [nI_1]
    exact zx_sg (sg' := rho ++ encM 0 (mt, (nI T), mp) ((mt 1 - 48), (nI (zCn mt 72 Z)), (zC16 (fun h => (zGh mt 72 rg Z) (2 * h)) mg (zCn mt 72 Z)), (zC16 (fun h => (zGh mt 72 rg Z) (2 * h + 1)) mk (zCn mt 72 Z)), (nI (zCn mt 70 Z)), (zC16 (fun h => (zGh mt 70 rd Z) (2 * h)) md (i + 1))) ((mt 1 - 48), (nI (zCn mt 72 Z)), (zGh mt 72 rg Z), (nI (zCn mt 70 Z)), (zGh mt 70 rd Z)) (zPut (zFil pg 0 16) (fun h => (zGh mt 70 rd Z) (2 * h + 1)) 5 (i + 1)) mq (bb, ba) (kk, ki) sn ml mw pn wl sp rs vl) (by rw [← zC16_s (f := fun h => (zGh mt 70 rd Z) (2 * h)), ← zPut_s (g := fun h => (zGh mt 70 rd Z) (2 * h + 1))]) (ih (i + 1) (by omega))
set_option maxHeartbeats 4000000 in
theorem lm_pit2 {d n0 T Z : Nat} {mt : (Nat → Int32)} {mp : Int32} {mg : (Nat → Int32)} {mk : (Nat → Int32)} {md : (Nat → Int32)} {rg : (Nat → Int32)} {rd : (Nat → Int32)} {pg : (Nat → Int32)} {mq : (Nat → Int32)} {bb : (Nat → Int32)} {ba : Int32} {kk : (Nat → Int32)} {ki : (Nat → Int32)} {sn : Int32 × (Nat → Int32) × (Nat → Int32) × (Nat → Int32)} {ml : Int64} {mw : Int32 × Int32} {pn : Int32 × Int32 × Int32 × Int32} {wl : Int32 × Int32} {sp : Int32 × Int32} {rs : Int32 × Int32} {vl : (Nat → Int32)} {rho : List zCel} (hr : rho.length = 75) (h5 : zCn mt 72 Z ≤ 5) (h3 : zCn mt 70 Z ≤ 3) : ∀ k i : Nat, i + k = (zCn mt 72 Z) → zX RX10 cX10_pit 2 (some .int) "pit" none (d + 5) n0 0 0 0 0 (fun r s => r = some (.int (10 * nI (zCn mt 72 Z) + nI (zCn mt 70 Z))) ∧ s = rho ++ encM 0 (mt, (nI T), mp) ((mt 1 - 48), (nI (zCn mt 72 Z)), (zC16 (fun h => (zGh mt 72 rg Z) (2 * h)) mg (zCn mt 72 Z)), (zC16 (fun h => (zGh mt 72 rg Z) (2 * h + 1)) mk (zCn mt 72 Z)), (nI (zCn mt 70 Z)), (zC16 (fun h => (zGh mt 70 rd Z) (2 * h)) md (zCn mt 70 Z))) ((mt 1 - 48), (nI (zCn mt 72 Z)), (zGh mt 72 rg Z), (nI (zCn mt 70 Z)), (zGh mt 70 rd Z)) (zPut (zFil pg 0 16) (fun h => (zGh mt 70 rd Z) (2 * h + 1)) 5 (zCn mt 70 Z)) mq (bb, 0) (kk, (upd (upd ki 0 0) 1 0)) sn ml mw pn wl sp rs vl) 64 [some (.ref 75), some (.int (nI i))] [] (rho ++ encM 0 (mt, (nI T), mp) ((mt 1 - 48), (nI (zCn mt 72 Z)), (zC16 (fun h => (zGh mt 72 rg Z) (2 * h)) mg i), (zC16 (fun h => (zGh mt 72 rg Z) (2 * h + 1)) mk i), (nI (zCn mt 70 Z)), (zC16 (fun h => (zGh mt 70 rd Z) (2 * h)) md 0)) ((mt 1 - 48), (nI (zCn mt 72 Z)), (zGh mt 72 rg Z), (nI (zCn mt 70 Z)), (zGh mt 70 rd Z)) (zPut (zFil pg 0 16) (fun h => (zGh mt 70 rd Z) (2 * h + 1)) 5 0) mq (bb, ba) (kk, ki) sn ml mw pn wl sp rs vl) := by
  intro k
  induction k with
  | zero =>
    intro i hi
    obtain rfl : i = (zCn mt 72 Z) := by omega
    refine zx_iload_n (pc := 64) dX10_pit_64 rfl rfl ?_
    refine zx_aload_n (pc := 65) dX10_pit_65 rfl rfl ?_
    refine g75_5 (pc := 66) hr fl_X10_60 dX10_pit_66 ?_
    refine zx_icmp_ge (pc := 69) (tgt := 108) dX10_pit_69 (by decide) (fun h69 => ?_) (fun h69 => by first | exact absurd h69 (Int32.le_refl (nI (zCn mt 72 Z))) | exact absurd (Int32.le_refl (nI (zCn mt 72 Z))) h69)
    refine zx_iconst (pc := 108) (v := 0) dX10_pit_108 (by decide) ?_
    refine st_1_2 (pc := 109) dX10_pit_109 rfl ?_
    exact lm_pit3 hr h5 h3 (zCn mt 70 Z) 0 (by omega)
  | succ k ih =>
    intro i hi
    refine zx_iload_n (pc := 64) dX10_pit_64 rfl rfl ?_
    refine zx_aload_n (pc := 65) dX10_pit_65 rfl rfl ?_
    refine g75_5 (pc := 66) hr fl_X10_60 dX10_pit_66 ?_
    refine zx_icmp_ge (pc := 69) (tgt := 108) dX10_pit_69 (by decide) (fun h69 => by first | exact absurd h69 (nI_ge (show i < (zCn mt 72 Z) by omega) (by omega)) | exact absurd (nI_ge (show i < (zCn mt 72 Z) by omega) (by omega)) h69) (fun h69 => ?_)
    refine zx_aload_n (pc := 72) dX10_pit_72 rfl rfl ?_
    refine g75_6 (pc := 73) hr fl_X10_13 dX10_pit_73 ?_
    refine zx_iload_n (pc := 76) dX10_pit_76 rfl rfl ?_
    refine zx_aload_n (pc := 77) dX10_pit_77 rfl rfl ?_
    refine g75_12 (pc := 78) hr fl_X10_22 dX10_pit_78 ?_
    refine zx_iconst (pc := 81) (v := 2) dX10_pit_81 (by decide) ?_
    refine zx_iload_n (pc := 82) dX10_pit_82 rfl rfl ?_
    refine zx_imul (pc := 83) dX10_pit_83 ?_
    refine a80 (pc := 84) hr (zix_2 (by omega)) dX10_pit_84 ?_
    refine s77 (pc := 85) hr (zix_n (by omega)) dX10_pit_85 ?_
    refine zx_aload_n (pc := 86) dX10_pit_86 rfl rfl ?_
    refine g75_7 (pc := 87) hr fl_X10_16 dX10_pit_87 ?_
    refine zx_iload_n (pc := 90) dX10_pit_90 rfl rfl ?_
    refine zx_aload_n (pc := 91) dX10_pit_91 rfl rfl ?_
    refine g75_12 (pc := 92) hr fl_X10_22 dX10_pit_92 ?_
    refine zx_iconst (pc := 95) (v := 2) dX10_pit_95 (by decide) ?_
    refine zx_iload_n (pc := 96) dX10_pit_96 rfl rfl ?_
    refine zx_imul (pc := 97) dX10_pit_97 ?_
    refine zx_iconst (pc := 98) (v := 1) dX10_pit_98 (by decide) ?_
    refine zx_iadd (pc := 99) dX10_pit_99 ?_
    refine a80 (pc := 100) hr (zix_21 (by omega)) dX10_pit_100 ?_
    refine s78 (pc := 101) hr (zix_n (by omega)) dX10_pit_101 ?_
    refine ic_1_2_1 (pc := 102) dX10_pit_102 rfl ?_
    refine zx_goto (pc := 105) (tgt := 64) dX10_pit_105 (by decide) ?_
    rw [nI_1]
    exact zx_sg (sg' := rho ++ encM 0 (mt, (nI T), mp) ((mt 1 - 48), (nI (zCn mt 72 Z)), (zC16 (fun h => (zGh mt 72 rg Z) (2 * h)) mg (i + 1)), (zC16 (fun h => (zGh mt 72 rg Z) (2 * h + 1)) mk (i + 1)), (nI (zCn mt 70 Z)), (zC16 (fun h => (zGh mt 70 rd Z) (2 * h)) md 0)) ((mt 1 - 48), (nI (zCn mt 72 Z)), (zGh mt 72 rg Z), (nI (zCn mt 70 Z)), (zGh mt 70 rd Z)) (zPut (zFil pg 0 16) (fun h => (zGh mt 70 rd Z) (2 * h + 1)) 5 0) mq (bb, ba) (kk, ki) sn ml mw pn wl sp rs vl) (by rw [← zC16_s (f := fun h => (zGh mt 72 rg Z) (2 * h)), ← zC16_s (f := fun h => (zGh mt 72 rg Z) (2 * h + 1))]) (ih (i + 1) (by omega))
set_option maxHeartbeats 4000000 in
theorem lm_pit1 {d n0 T Z : Nat} {mt : (Nat → Int32)} {mp : Int32} {mg : (Nat → Int32)} {mk : (Nat → Int32)} {md : (Nat → Int32)} {rg : (Nat → Int32)} {rd : (Nat → Int32)} {pg : (Nat → Int32)} {mq : (Nat → Int32)} {bb : (Nat → Int32)} {ba : Int32} {kk : (Nat → Int32)} {ki : (Nat → Int32)} {sn : Int32 × (Nat → Int32) × (Nat → Int32) × (Nat → Int32)} {ml : Int64} {mw : Int32 × Int32} {pn : Int32 × Int32 × Int32 × Int32} {wl : Int32 × Int32} {sp : Int32 × Int32} {rs : Int32 × Int32} {vl : (Nat → Int32)} {rho : List zCel} (hr : rho.length = 75) (h5 : zCn mt 72 Z ≤ 5) (h3 : zCn mt 70 Z ≤ 3) : ∀ k i : Nat, i + k = 16 → zX RX10 cX10_pit 2 (some .int) "pit" none (d + 5) n0 0 0 0 0 (fun r s => r = some (.int (10 * nI (zCn mt 72 Z) + nI (zCn mt 70 Z))) ∧ s = rho ++ encM 0 (mt, (nI T), mp) ((mt 1 - 48), (nI (zCn mt 72 Z)), (zC16 (fun h => (zGh mt 72 rg Z) (2 * h)) mg (zCn mt 72 Z)), (zC16 (fun h => (zGh mt 72 rg Z) (2 * h + 1)) mk (zCn mt 72 Z)), (nI (zCn mt 70 Z)), (zC16 (fun h => (zGh mt 70 rd Z) (2 * h)) md (zCn mt 70 Z))) ((mt 1 - 48), (nI (zCn mt 72 Z)), (zGh mt 72 rg Z), (nI (zCn mt 70 Z)), (zGh mt 70 rd Z)) (zPut (zFil pg 0 16) (fun h => (zGh mt 70 rd Z) (2 * h + 1)) 5 (zCn mt 70 Z)) mq (bb, 0) (kk, (upd (upd ki 0 0) 1 0)) sn ml mw pn wl sp rs vl) 43 [some (.ref 75), some (.int (nI i))] [] (rho ++ encM 0 (mt, (nI T), mp) ((mt 1 - 48), (nI (zCn mt 72 Z)), mg, mk, (nI (zCn mt 70 Z)), md) ((mt 1 - 48), (nI (zCn mt 72 Z)), (zGh mt 72 rg Z), (nI (zCn mt 70 Z)), (zGh mt 70 rd Z)) (zFil pg 0 i) mq (bb, ba) (kk, ki) sn ml mw pn wl sp rs vl) := by
  intro k
  induction k with
  | zero =>
    intro i hi
    obtain rfl : i = 16 := by omega
    refine zx_iload_n (pc := 43) dX10_pit_43 rfl rfl ?_
    refine zx_bipush (pc := 44) (v := 16) dX10_pit_44 (by decide) ?_
    refine zx_icmp_ge (pc := 46) (tgt := 62) dX10_pit_46 (by decide) (fun h46 => ?_) (fun h46 => by first | exact absurd h46 (show (16 : Int32) ≤ nI 16 by decide) | exact absurd (show (16 : Int32) ≤ nI 16 by decide) h46)
    refine zx_iconst (pc := 62) (v := 0) dX10_pit_62 (by decide) ?_
    refine st_1_2 (pc := 63) dX10_pit_63 rfl ?_
    exact zx_sg (sg' := rho ++ encM 0 (mt, (nI T), mp) ((mt 1 - 48), (nI (zCn mt 72 Z)), (zC16 (fun h => (zGh mt 72 rg Z) (2 * h)) mg 0), (zC16 (fun h => (zGh mt 72 rg Z) (2 * h + 1)) mk 0), (nI (zCn mt 70 Z)), (zC16 (fun h => (zGh mt 70 rd Z) (2 * h)) md 0)) ((mt 1 - 48), (nI (zCn mt 72 Z)), (zGh mt 72 rg Z), (nI (zCn mt 70 Z)), (zGh mt 70 rd Z)) (zPut (zFil pg 0 16) (fun h => (zGh mt 70 rd Z) (2 * h + 1)) 5 0) mq (bb, ba) (kk, ki) sn ml mw pn wl sp rs vl) (by rw [zC16_0, zC16_0, zC16_0, zPut_0]) (lm_pit2 hr h5 h3 (zCn mt 72 Z) 0 (by omega))
  | succ k ih =>
    intro i hi
    refine zx_iload_n (pc := 43) dX10_pit_43 rfl rfl ?_
    refine zx_bipush (pc := 44) (v := 16) dX10_pit_44 (by decide) ?_
    refine zx_icmp_ge (pc := 46) (tgt := 62) dX10_pit_46 (by decide) (fun h46 => by first | exact absurd h46 (show ¬ (16 : Int32) ≤ nI i from nI_ge (a := i) (b := 16) (by omega) (by decide)) | exact absurd (show ¬ (16 : Int32) ≤ nI i from nI_ge (a := i) (b := 16) (by omega) (by decide)) h46) (fun h46 => ?_)
    refine zx_aload_n (pc := 49) dX10_pit_49 rfl rfl ?_
    refine g75_15 (pc := 50) hr fl_X10_28 dX10_pit_50 ?_
    refine zx_iload_n (pc := 53) dX10_pit_53 rfl rfl ?_
    refine zx_iconst (pc := 54) (v := 0) dX10_pit_54 (by decide) ?_
    refine s82 (pc := 55) hr (zix_n (by omega)) dX10_pit_55 ?_
    refine ic_1_2_1 (pc := 56) dX10_pit_56 rfl ?_
    refine zx_goto (pc := 59) (tgt := 43) dX10_pit_59 (by decide) ?_
    rw [nI_1, zFil_s]
    exact ih (i + 1) (by omega)
set_option maxHeartbeats 4000000 in
theorem m_pit {d T : Nat} {th : Int32} {mt : (Nat → Int32)} {mp : Int32} {mo : Int32} {mh : Int32} {mg : (Nat → Int32)} {mk : (Nat → Int32)} {mf : Int32} {md : (Nat → Int32)} {rc : Int32} {rh : Int32} {rg : (Nat → Int32)} {rf : Int32} {rd : (Nat → Int32)} {pg : (Nat → Int32)} {mq : (Nat → Int32)} {bb : (Nat → Int32)} {ba : Int32} {kk : (Nat → Int32)} {ki : (Nat → Int32)} {sn : Int32 × (Nat → Int32) × (Nat → Int32) × (Nat → Int32)} {ml : Int64} {mw : Int32 × Int32} {pn : Int32 × Int32 × Int32 × Int32} {wl : Int32 × Int32} {sp : Int32 × Int32} {rs : Int32 × Int32} {vl : (Nat → Int32)} {rho : List zCel} (hr : rho.length = 75) (hT : T ≤ 40) : zC yX10_pit cX10_pit 2 (some .int) (d + 5) 0 0 [.ref 75] (rho ++ encM th (mt, (nI T), mp) (mo, mh, mg, mk, mf, md) (rc, rh, rg, rf, rd) pg mq (bb, ba) (kk, ki) sn ml mw pn wl sp rs vl) (fun r s => ∃ (mp' : Int32) (mR' : Int32 × Int32 × (Nat → Int32) × Int32 × (Nat → Int32)), (zFF mt T T = -9 ∧ ∃ Z : Nat, T = 2 + 3 * Z ∧ zCn mt 72 Z ≤ 5 ∧ zCn mt 70 Z ≤ 3 ∧ r = some (.int (10 * nI (zCn mt 72 Z) + nI (zCn mt 70 Z))) ∧ s = rho ++ encM 0 (mt, (nI T), mp') ((mt 1 - 48), (nI (zCn mt 72 Z)), (zC16 (fun h => (zGh mt 72 rg Z) (2 * h)) mg (zCn mt 72 Z)), (zC16 (fun h => (zGh mt 72 rg Z) (2 * h + 1)) mk (zCn mt 72 Z)), (nI (zCn mt 70 Z)), (zC16 (fun h => (zGh mt 70 rd Z) (2 * h)) md (zCn mt 70 Z))) mR' (zPut (zFil pg 0 16) (fun h => (zGh mt 70 rd Z) (2 * h + 1)) 5 (zCn mt 70 Z)) mq (bb, 0) (kk, (upd (upd ki 0 0) 1 0)) sn ml mw pn wl sp rs vl) ∨ (¬ zFF mt T T = -9 ∧ r = some (.int (-3)) ∧ s = rho ++ encM 0 (mt, (nI T), mp') (mo, mh, mg, mk, mf, md) mR' pg mq (bb, ba) (kk, ki) sn ml mw pn wl sp rs vl)) := by
  refine zC.intro (by decide) (Nat.le_of_ble_eq_true rfl) rfl ?_
  refine zx_aload_n (pc := 0) dX10_pit_0 rfl rfl ?_
  refine zx_iconst (pc := 1) (v := 0) dX10_pit_1 (by decide) ?_
  refine u75_0 (pc := 2) hr fl_X10_56 dX10_pit_2 ?_
  refine zx_aload_n (pc := 5) dX10_pit_5 rfl rfl ?_
  refine zx_callV0 (pc := 6) (r_readPit (d := d) hr hT) cl_X10_96 (p75 hr) rfl dX10_pit_6 rfl rfl (by omega) (Nat.le_of_ble_eq_true rfl) (Nat.le_refl _) (Nat.le_refl _) (fun r s hQ => ?_)
  obtain ⟨mp', rc', rh', rf', rg', rd', rfl, rfl, h9⟩ := hQ
  show zX _ _ _ _ _ _ _ _ _ _ _ _ _ _ _ [_] _
  by_cases hf : zFF mt T T = -9
  · obtain ⟨Z, hZ, h5, h3, rfl, rfl, rfl, rfl, rfl⟩ := h9 hf
    refine zX.weak (Q := (fun r s => r = some (.int (10 * nI (zCn mt 72 Z) + nI (zCn mt 70 Z))) ∧ s = rho ++ encM 0 (mt, (nI T), mp') ((mt 1 - 48), (nI (zCn mt 72 Z)), (zC16 (fun h => (zGh mt 72 rg Z) (2 * h)) mg (zCn mt 72 Z)), (zC16 (fun h => (zGh mt 72 rg Z) (2 * h + 1)) mk (zCn mt 72 Z)), (nI (zCn mt 70 Z)), (zC16 (fun h => (zGh mt 70 rd Z) (2 * h)) md (zCn mt 70 Z))) ((mt 1 - 48), (nI (zCn mt 72 Z)), (zGh mt 72 rg Z), (nI (zCn mt 70 Z)), (zGh mt 70 rd Z)) (zPut (zFil pg 0 16) (fun h => (zGh mt 70 rd Z) (2 * h + 1)) 5 (zCn mt 70 Z)) mq (bb, 0) (kk, (upd (upd ki 0 0) 1 0)) sn ml mw pn wl sp rs vl)) (fun r s hq => ⟨mp', _, Or.inl ⟨hf, Z, hZ, h5, h3, hq.1, hq.2⟩⟩) ?_
    refine zx_bipush (pc := 9) (v := -9) dX10_pit_9 (by decide) ?_
    refine zx_icmp_eq (pc := 11) (tgt := 17) dX10_pit_11 (by decide) (fun h11 => ?_) (fun h11 => by first | exact absurd h11 hf | exact absurd hf h11)
    refine zx_aload_n (pc := 17) dX10_pit_17 rfl rfl ?_
    refine zx_aload_n (pc := 18) dX10_pit_18 rfl rfl ?_
    refine g75_10 (pc := 19) hr fl_X10_90 dX10_pit_19 ?_
    refine u75_4 (pc := 22) hr fl_X10_100 dX10_pit_22 ?_
    refine zx_aload_n (pc := 25) dX10_pit_25 rfl rfl ?_
    refine zx_aload_n (pc := 26) dX10_pit_26 rfl rfl ?_
    refine g75_11 (pc := 27) hr fl_X10_79 dX10_pit_27 ?_
    refine u75_5 (pc := 30) hr fl_X10_60 dX10_pit_30 ?_
    refine zx_aload_n (pc := 33) dX10_pit_33 rfl rfl ?_
    refine zx_aload_n (pc := 34) dX10_pit_34 rfl rfl ?_
    refine g75_13 (pc := 35) hr fl_X10_82 dX10_pit_35 ?_
    refine u75_8 (pc := 38) hr fl_X10_103 dX10_pit_38 ?_
    refine zx_iconst (pc := 41) (v := 0) dX10_pit_41 (by decide) ?_
    refine st_1_2 (pc := 42) dX10_pit_42 rfl ?_
    exact zx_sg (sg' := rho ++ encM 0 (mt, (nI T), mp') ((mt 1 - 48), (nI (zCn mt 72 Z)), mg, mk, (nI (zCn mt 70 Z)), md) ((mt 1 - 48), (nI (zCn mt 72 Z)), (zGh mt 72 rg Z), (nI (zCn mt 70 Z)), (zGh mt 70 rd Z)) (zFil pg 0 0) mq (bb, ba) (kk, ki) sn ml mw pn wl sp rs vl) (by rw [zFil_0]) (lm_pit1 hr h5 h3 16 0 (by omega))
  · refine zx_bipush (pc := 9) (v := -9) dX10_pit_9 (by decide) ?_
    refine zx_icmp_eq (pc := 11) (tgt := 17) dX10_pit_11 (by decide) (fun h11 => by first | exact absurd h11 hf | exact absurd hf h11) (fun h11 => ?_)
    refine zx_bipush (pc := 14) (v := -3) dX10_pit_14 (by decide) ?_
    exact zx_iret (pc := 16) dX10_pit_16 rfl rfl (Nat.le_refl _) (Nat.le_refl _) ⟨mp', _, Or.inr ⟨hf, rfl, rfl⟩⟩
