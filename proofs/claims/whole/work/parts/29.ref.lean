set_option maxHeartbeats 4000000 in
theorem lr_findSpare {d n0 N R : Nat} {lk : Int32} {th : Int32} {mA : (Nat → Int32) × Int32 × Int32} {mB : Int32 × Int32 × (Nat → Int32) × (Nat → Int32) × Int32 × (Nat → Int32)} {mR : Int32 × Int32 × (Nat → Int32) × Int32 × (Nat → Int32)} {pg : (Nat → Int32)} {mq : (Nat → Int32)} {bk : (Nat → Int32) × Int32} {kp : (Nat → Int32) × (Nat → Int32)} {sn : Int32 × (Nat → Int32) × (Nat → Int32) × (Nat → Int32)} {ml : Int64} {mw : Int32 × Int32} {pn : Int32 × Int32 × Int32 × Int32} {wl : Int32 × Int32} {rs : Int32 × Int32} {vl : (Nat → Int32)} {rho : List zCel} (hr : rho.length = 75) (hN : N ≤ 8) (hR : R ≤ 3) : ∀ k i : Nat, i + k = 2 ^ N → ∀ o5, zX RX10 cX10_findSpare 6 none "findSpare" none (d + 3) n0 0 0 0 0 (fun r s => r = none ∧ s = rho ++ encM th mA mB mR pg mq bk kp sn ml mw pn ((zWlN N R wl (2 ^ N)).1, (zWlN N R wl (2 ^ N)).2) ((zSmR N R lk (2 ^ N)).1, (zSmR N R lk (2 ^ N)).2) rs vl) 15 [some (.ref 75), some (.int (nI N)), some (.int (nI R)), some (.int lk), some (.int (nI i)), o5] [] (rho ++ encM th mA mB mR pg mq bk kp sn ml mw pn ((zWlN N R wl i).1, (zWlN N R wl i).2) ((zSmR N R lk i).1, (zSmR N R lk i).2) rs vl) := by
  have hN2 : 2 ^ N < 2 ^ 31 := Nat.pow_lt_pow_right (by decide) (by omega)
  intro k
  induction k with
  | zero =>
    intro i hi o5
    obtain rfl : i = 2 ^ N := by omega
    refine zx_iload (pc := 15) dX10_findSpare_15 rfl ?_
    refine zx_iconst (pc := 17) (v := 1) dX10_findSpare_17 (by decide) ?_
    refine zx_iload_n (pc := 18) dX10_findSpare_18 rfl rfl ?_
    refine zx_ishl (pc := 19) dX10_findSpare_19 ?_
    rw [zsh1 N hN]
    refine zx_icmp_ge (pc := 20) (tgt := 105) dX10_findSpare_20 (by decide) (fun h20 => ?_) (fun h20 => by first | exact absurd h20 (Int32.le_refl (nI (2 ^ N))) | exact absurd (Int32.le_refl (nI (2 ^ N))) h20)
    exact zx_fv (pc := 105) dX10_findSpare_105 rfl (Nat.le_refl _) (Nat.le_refl _) rfl
  | succ k ih =>
    intro i hi o5
    have ih' := ih (i + 1) (by omega)
    rw [← nI_1] at ih'
    simp only [zWlN, zSmR] at ih'
    generalize zSmR N R lk i = f at ih' ⊢
    obtain ⟨f1, f2⟩ := f
    simp only [zSm1] at ih' ⊢
    generalize hX : zWlN N R wl i = wi
    obtain ⟨w1, w2⟩ := wi
    simp only
    refine zx_iload (pc := 15) dX10_findSpare_15 rfl ?_
    refine zx_iconst (pc := 17) (v := 1) dX10_findSpare_17 (by decide) ?_
    refine zx_iload_n (pc := 18) dX10_findSpare_18 rfl rfl ?_
    refine zx_ishl (pc := 19) dX10_findSpare_19 ?_
    rw [zsh1 N hN]
    refine zx_icmp_ge (pc := 20) (tgt := 105) dX10_findSpare_20 (by decide) (fun h20 => by first | exact absurd h20 (nI_ge (show i < 2 ^ N by omega) hN2) | exact absurd (nI_ge (show i < 2 ^ N by omega) hN2) h20) (fun h20 => ?_)
    refine zx_aload_n (pc := 23) dX10_findSpare_23 rfl rfl ?_
    refine zx_iload_n (pc := 24) dX10_findSpare_24 rfl rfl ?_
    refine zx_iload (pc := 25) dX10_findSpare_25 rfl ?_
    refine zx_iload_n (pc := 27) dX10_findSpare_27 rfl rfl ?_
    refine zx_fV0 (pc := 28) (r_layWall (d := d) hr hN (by omega)) cl_X10_185 (p75 hr) rfl dX10_findSpare_28 rfl rfl (by omega) (Nat.le_of_ble_eq_true rfl) (Nat.le_refl _) (Nat.le_refl _) ?_
    refine zx_iload_n (pc := 31) dX10_findSpare_31 rfl rfl ?_
    refine zx_aload_n (pc := 32) dX10_findSpare_32 rfl rfl ?_
    refine g75_33 (pc := 33) hr fl_X10_145 dX10_findSpare_33 ?_
    refine zx_iconst (pc := 36) (v := 1) dX10_findSpare_36 (by decide) ?_
    refine zx_aload_n (pc := 37) dX10_findSpare_37 rfl rfl ?_
    refine g75_32 (pc := 38) hr fl_X10_142 dX10_findSpare_38 ?_
    refine zx_ishl (pc := 41) dX10_findSpare_41 ?_
    refine zx_iconst (pc := 42) (v := 1) dX10_findSpare_42 (by decide) ?_
    refine zx_isub (pc := 43) dX10_findSpare_43 ?_
    refine zx_iand (pc := 44) dX10_findSpare_44 ?_
    refine zx_iconst (pc := 45) (v := -1) dX10_findSpare_45 (by decide) ?_
    refine zx_ixor (pc := 46) dX10_findSpare_46 ?_
    refine zx_iand (pc := 47) dX10_findSpare_47 ?_
    refine zx_if_ne (pc := 48) (tgt := 55) dX10_findSpare_48 (by decide) (fun h48 => ?_) (fun h48 => ?_)
    · refine zx_iconst (pc := 55) (v := 0) dX10_findSpare_55 (by decide) ?_
      refine st_5_6 (pc := 56) dX10_findSpare_56 rfl ?_
      refine zx_iload (pc := 58) dX10_findSpare_58 rfl ?_
      refine zx_if_eq (pc := 60) (tgt := 99) dX10_findSpare_60 (by decide) (fun _ => ?_) (fun h60 => absurd h60 (by decide))
      refine ic_4_6_1 (pc := 99) dX10_findSpare_99 rfl ?_
      refine zx_goto (pc := 102) (tgt := 15) dX10_findSpare_102 (by decide) ?_
      simp only [h48, reduceIte] at ih'
      exact ih' _
    · refine zx_iconst (pc := 51) (v := 1) dX10_findSpare_51 (by decide) ?_
      refine zx_goto (pc := 52) (tgt := 56) dX10_findSpare_52 (by decide) ?_
      refine st_5_6 (pc := 56) dX10_findSpare_56 rfl ?_
      refine zx_iload (pc := 58) dX10_findSpare_58 rfl ?_
      refine zx_if_eq (pc := 60) (tgt := 99) dX10_findSpare_60 (by decide) (fun h60 => absurd h60 (by decide)) (fun _ => ?_)
      refine zx_aload_n (pc := 63) dX10_findSpare_63 rfl rfl ?_
      refine g75_34 (pc := 64) hr fl_X10_179 dX10_findSpare_64 ?_
      refine zx_bipush (pc := 67) (v := -9) dX10_findSpare_67 (by decide) ?_
      refine zx_icmp_eq (pc := 69) (tgt := 84) dX10_findSpare_69 (by decide) (fun h69 => ?_) (fun h69 => ?_)
      · refine zx_aload_n (pc := 84) dX10_findSpare_84 rfl rfl ?_
        refine zx_iload (pc := 85) dX10_findSpare_85 rfl ?_
        refine zx_fS1 (pc := 87) (r_many (d := d + 2) ) cl_X10_189 dX10_findSpare_87 rfl rfl (by omega) (Nat.le_of_ble_eq_true rfl) (Nat.le_refl _) (Nat.le_refl _) ?_
        refine u75_34 (pc := 90) hr fl_X10_179 dX10_findSpare_90 ?_
        refine zx_aload_n (pc := 93) dX10_findSpare_93 rfl rfl ?_
        refine zx_iload (pc := 94) dX10_findSpare_94 rfl ?_
        refine u75_35 (pc := 96) hr fl_X10_182 dX10_findSpare_96 ?_
        refine ic_4_6_1 (pc := 99) dX10_findSpare_99 rfl ?_
        refine zx_goto (pc := 102) (tgt := 15) dX10_findSpare_102 (by decide) ?_
        simp only [h48, h69, reduceIte] at ih'
        exact ih' _
      · refine zx_iload (pc := 72) dX10_findSpare_72 rfl ?_
        refine zx_fS1 (pc := 74) (r_many (d := d + 2) ) cl_X10_189 dX10_findSpare_74 rfl rfl (by omega) (Nat.le_of_ble_eq_true rfl) (Nat.le_refl _) (Nat.le_refl _) ?_
        refine zx_aload_n (pc := 77) dX10_findSpare_77 rfl rfl ?_
        refine g75_34 (pc := 78) hr fl_X10_179 dX10_findSpare_78 ?_
        refine zx_icmp_ge (pc := 81) (tgt := 99) dX10_findSpare_81 (by decide) (fun h81 => ?_) (fun h81 => ?_)
        · refine ic_4_6_1 (pc := 99) dX10_findSpare_99 rfl ?_
          refine zx_goto (pc := 102) (tgt := 15) dX10_findSpare_102 (by decide) ?_
          simp only [h48, h69, h81, reduceIte] at ih'
          exact ih' _
        · refine zx_aload_n (pc := 84) dX10_findSpare_84 rfl rfl ?_
          refine zx_iload (pc := 85) dX10_findSpare_85 rfl ?_
          refine zx_fS1 (pc := 87) (r_many (d := d + 2) ) cl_X10_189 dX10_findSpare_87 rfl rfl (by omega) (Nat.le_of_ble_eq_true rfl) (Nat.le_refl _) (Nat.le_refl _) ?_
          refine u75_34 (pc := 90) hr fl_X10_179 dX10_findSpare_90 ?_
          refine zx_aload_n (pc := 93) dX10_findSpare_93 rfl rfl ?_
          refine zx_iload (pc := 94) dX10_findSpare_94 rfl ?_
          refine u75_35 (pc := 96) hr fl_X10_182 dX10_findSpare_96 ?_
          refine ic_4_6_1 (pc := 99) dX10_findSpare_99 rfl ?_
          refine zx_goto (pc := 102) (tgt := 15) dX10_findSpare_102 (by decide) ?_
          simp only [h48, h69, h81, reduceIte] at ih'
          exact ih' _
set_option maxHeartbeats 4000000 in
theorem r_findSpare {d : Nat} {N R : Nat} {lk : Int32} {th : Int32} {mA : (Nat → Int32) × Int32 × Int32} {mB : Int32 × Int32 × (Nat → Int32) × (Nat → Int32) × Int32 × (Nat → Int32)} {mR : Int32 × Int32 × (Nat → Int32) × Int32 × (Nat → Int32)} {pg : (Nat → Int32)} {mq : (Nat → Int32)} {bk : (Nat → Int32) × Int32} {kp : (Nat → Int32) × (Nat → Int32)} {sn : Int32 × (Nat → Int32) × (Nat → Int32) × (Nat → Int32)} {ml : Int64} {mw : Int32 × Int32} {pn : Int32 × Int32 × Int32 × Int32} {wl : Int32 × Int32} {i1 : Int32} {i2 : Int32} {rs : Int32 × Int32} {vl : (Nat → Int32)} {rho : List zCel} (hr : rho.length = 75) (hN : N ≤ 8) (hR : R ≤ 3) : zCf yX10_findSpare cX10_findSpare 6 none (d + 3) [.ref 75, .int (nI N), .int (nI R), .int lk] (rho ++ encM th mA mB mR pg mq bk kp sn ml mw pn wl (i1, i2) rs vl) none (rho ++ encM th mA mB mR pg mq bk kp sn ml mw pn ((zWlN N R wl (2 ^ N)).1, (zWlN N R wl (2 ^ N)).2) ((zSmR N R lk (2 ^ N)).1, (zSmR N R lk (2 ^ N)).2) rs vl) := by
  refine zC.intro (by decide) (Nat.le_of_ble_eq_true rfl) rfl ?_
  refine zx_aload_n (pc := 0) dX10_findSpare_0 rfl rfl ?_
  refine zx_bipush (pc := 1) (v := -9) dX10_findSpare_1 (by decide) ?_
  refine u75_34 (pc := 3) hr fl_X10_179 dX10_findSpare_3 ?_
  refine zx_aload_n (pc := 6) dX10_findSpare_6 rfl rfl ?_
  refine zx_bipush (pc := 7) (v := -9) dX10_findSpare_7 (by decide) ?_
  refine u75_35 (pc := 9) hr fl_X10_182 dX10_findSpare_9 ?_
  refine zx_iconst (pc := 12) (v := 0) dX10_findSpare_12 (by decide) ?_
  refine st_4_6 (pc := 13) dX10_findSpare_13 rfl ?_
  exact lr_findSpare hr hN hR (2 ^ N) 0 (by omega) _
set_option maxHeartbeats 4000000 in
theorem lr_isSeen0 {d n0 S : Nat} {x u y : Int32} {w : Int32 × Int32} {o5 : Option Value} {th : Int32} {mA : (Nat → Int32) × Int32 × Int32} {mB : Int32 × Int32 × (Nat → Int32) × (Nat → Int32) × Int32 × (Nat → Int32)} {mR : Int32 × Int32 × (Nat → Int32) × Int32 × (Nat → Int32)} {pg : (Nat → Int32)} {mq : (Nat → Int32)} {bk : (Nat → Int32) × Int32} {kp : (Nat → Int32) × (Nat → Int32)} {nr : (Nat → Int32)} {no : (Nat → Int32)} {nh : (Nat → Int32)} {ml : Int64} {mw : Int32 × Int32} {pn : Int32 × Int32 × Int32 × Int32} {sp : Int32 × Int32} {rs : Int32 × Int32} {vl : (Nat → Int32)} {rho : List zCel} (hr : rho.length = 75) : zX RX10 cX10_isSeen 6 (some .boolean) "isSeen" none (d + 3) n0 0 0 0 0 (fun r s => r = some (.int 0) ∧ s = rho ++ encM th mA mB mR pg mq bk kp ((nI S), nr, no, nh) ml mw pn (w.1, w.2) sp rs vl) 5 [some (.ref 75), some (.int x), some (.int u), some (.int 0), some (.int y), o5] [] (rho ++ encM th mA mB mR pg mq bk kp ((nI S), nr, no, nh) ml mw pn (w.1, w.2) sp rs vl) := by
  refine zx_iload (pc := 5) dX10_isSeen_5 rfl ?_
  refine zx_aload_n (pc := 7) dX10_isSeen_7 rfl rfl ?_
  refine g75_21 (pc := 8) hr fl_X10_126 dX10_isSeen_8 ?_
  refine zx_icmp_ge (pc := 11) (tgt := 89) dX10_isSeen_11 (by decide) (fun h11 => ?_) (fun h11 => ?_)
  · refine zx_iload_n (pc := 89) dX10_isSeen_89 rfl rfl ?_
    exact zx_fi (pc := 90) dX10_isSeen_90 rfl (by decide) (Nat.le_refl _) (Nat.le_refl _) rfl rfl
  · refine zx_iload_n (pc := 14) dX10_isSeen_14 rfl rfl ?_
    refine zx_if_eq (pc := 15) (tgt := 89) dX10_isSeen_15 (by decide) (fun _ => ?_) (fun h15 => absurd h15 (by decide))
    refine zx_iload_n (pc := 89) dX10_isSeen_89 rfl rfl ?_
    exact zx_fi (pc := 90) dX10_isSeen_90 rfl (by decide) (Nat.le_refl _) (Nat.le_refl _) rfl rfl
set_option maxHeartbeats 4000000 in
theorem lr_isSeen {d n0 S N : Nat} {u : Int32} {Z : Int32 × Int32 × Int32} {th : Int32} {mA : (Nat → Int32) × Int32 × Int32} {mB : Int32 × Int32 × (Nat → Int32) × (Nat → Int32) × Int32 × (Nat → Int32)} {mR : Int32 × Int32 × (Nat → Int32) × Int32 × (Nat → Int32)} {pg : (Nat → Int32)} {mq : (Nat → Int32)} {bk : (Nat → Int32) × Int32} {kp : (Nat → Int32) × (Nat → Int32)} {nr : (Nat → Int32)} {no : (Nat → Int32)} {nh : (Nat → Int32)} {ml : Int64} {mw : Int32 × Int32} {pn : Int32 × Int32 × Int32 × Int32} {sp : Int32 × Int32} {rs : Int32 × Int32} {vl : (Nat → Int32)} {rho : List zCel} (hr : rho.length = 75) (hN : N ≤ 8) (hS : S ≤ 6) (hs : ∀ k, k < S → ∃ R : Nat, R ≤ 3 ∧ nr k = nI R) : ∀ k i : Nat, i + k = S → ∀ (w : Int32 × Int32) o5, zIs nr no nh S N u k w = Z → zX RX10 cX10_isSeen 6 (some .boolean) "isSeen" none (d + 3) n0 0 0 0 0 (fun r s => r = some (.int Z.1) ∧ s = rho ++ encM th mA mB mR pg mq bk kp ((nI S), nr, no, nh) ml mw pn (Z.2.1, Z.2.2) sp rs vl) 5 [some (.ref 75), some (.int (nI N)), some (.int u), some (.int 1), some (.int (nI i)), o5] [] (rho ++ encM th mA mB mR pg mq bk kp ((nI S), nr, no, nh) ml mw pn (w.1, w.2) sp rs vl) := by
  intro k
  induction k with
  | zero =>
    intro i hi w o5 hZ
    obtain rfl : i = S := by omega
    subst hZ
    refine zx_iload (pc := 5) dX10_isSeen_5 rfl ?_
    refine zx_aload_n (pc := 7) dX10_isSeen_7 rfl rfl ?_
    refine g75_21 (pc := 8) hr fl_X10_126 dX10_isSeen_8 ?_
    refine zx_icmp_ge (pc := 11) (tgt := 89) dX10_isSeen_11 (by decide) (fun h11 => ?_) (fun h11 => by first | exact absurd h11 (show nI i ≤ nI i from Int32.le_refl _) | exact absurd (show nI i ≤ nI i from Int32.le_refl _) h11)
    refine zx_iload_n (pc := 89) dX10_isSeen_89 rfl rfl ?_
    exact zx_fi (pc := 90) dX10_isSeen_90 rfl (by decide) (Nat.le_refl _) (Nat.le_refl _) rfl rfl
  | succ k ih =>
    intro i hi w o5 hZ
    have e0 : S - (k + 1) = i := by omega
    obtain ⟨R, hR, eR⟩ := hs i (by omega)
    rw [zIs, e0, eR, nI_clamp (by omega)] at hZ
    obtain ⟨w1, w2⟩ := w
    simp only
    refine zx_iload (pc := 5) dX10_isSeen_5 rfl ?_
    refine zx_aload_n (pc := 7) dX10_isSeen_7 rfl rfl ?_
    refine g75_21 (pc := 8) hr fl_X10_126 dX10_isSeen_8 ?_
    refine zx_icmp_ge (pc := 11) (tgt := 89) dX10_isSeen_11 (by decide) (fun h11 => by first | exact absurd h11 (nI_ge (show i < S by omega) (by omega)) | exact absurd (nI_ge (show i < S by omega) (by omega)) h11) (fun h11 => ?_)
    refine zx_iload_n (pc := 14) dX10_isSeen_14 rfl rfl ?_
    refine zx_if_eq (pc := 15) (tgt := 89) dX10_isSeen_15 (by decide) (fun h15 => absurd h15 (by decide)) (fun _ => ?_)
    refine zx_aload_n (pc := 18) dX10_isSeen_18 rfl rfl ?_
    refine zx_iload_n (pc := 19) dX10_isSeen_19 rfl rfl ?_
    refine zx_iload_n (pc := 20) dX10_isSeen_20 rfl rfl ?_
    refine zx_aload_n (pc := 21) dX10_isSeen_21 rfl rfl ?_
    refine g75_22 (pc := 22) hr fl_X10_44 dX10_isSeen_22 ?_
    refine zx_iload (pc := 25) dX10_isSeen_25 rfl ?_
    refine a87 (pc := 27) hr (zix_n (by omega)) dX10_isSeen_27 ?_
    rw [eR]
    refine zx_fV0 (pc := 28) (r_layWall (d := d) hr hN (by omega)) cl_X10_185 (p75 hr) rfl dX10_isSeen_28 rfl rfl (by omega) (Nat.le_of_ble_eq_true rfl) (Nat.le_refl _) (Nat.le_refl _) ?_
    refine zx_cut 63 (fun v => v = zHw (zRas (N, u) R) (no i)) (fun v ev => ?_) (fun key => ?_)
    · subst ev
      refine st_5_6 (pc := 63) dX10_isSeen_63 rfl ?_
      refine zx_iload (pc := 65) dX10_isSeen_65 rfl ?_
      refine zx_aload_n (pc := 67) dX10_isSeen_67 rfl rfl ?_
      refine g75_24 (pc := 68) hr fl_X10_50 dX10_isSeen_68 ?_
      refine zx_iload (pc := 71) dX10_isSeen_71 rfl ?_
      refine a89 (pc := 73) hr (zix_n (by omega)) dX10_isSeen_73 ?_
      refine zx_icmp_ne (pc := 74) (tgt := 81) dX10_isSeen_74 (by decide) (fun h74 => ?_) (fun h74 => ?_)
      · refine zx_iconst (pc := 81) (v := 0) dX10_isSeen_81 (by decide) ?_
        refine st_3_6 (pc := 82) dX10_isSeen_82 rfl ?_
        refine ic_4_6_1 (pc := 83) dX10_isSeen_83 rfl ?_
        refine zx_goto (pc := 86) (tgt := 5) dX10_isSeen_86 (by decide) ?_
        rw [if_neg h74] at hZ
        subst hZ
        exact lr_isSeen0 hr
      · refine zx_iconst (pc := 77) (v := 1) dX10_isSeen_77 (by decide) ?_
        refine zx_goto (pc := 78) (tgt := 82) dX10_isSeen_78 (by decide) ?_
        refine st_3_6 (pc := 82) dX10_isSeen_82 rfl ?_
        refine ic_4_6_1 (pc := 83) dX10_isSeen_83 rfl ?_
        refine zx_goto (pc := 86) (tgt := 5) dX10_isSeen_86 (by decide) ?_
        rw [if_pos h74] at hZ
        rw [nI_1]
        exact ih (i + 1) (by omega) _ _ hZ
    · refine zx_aload_n (pc := 31) dX10_isSeen_31 rfl rfl ?_
      refine g75_23 (pc := 32) hr fl_X10_47 dX10_isSeen_32 ?_
      refine zx_iload (pc := 35) dX10_isSeen_35 rfl ?_
      refine a88 (pc := 37) hr (zix_n (by omega)) dX10_isSeen_37 ?_
      refine zx_aload_n (pc := 38) dX10_isSeen_38 rfl rfl ?_
      refine g75_32 (pc := 39) hr fl_X10_142 dX10_isSeen_39 ?_
      refine zx_icmp_lt (pc := 42) (tgt := 49) dX10_isSeen_42 (by decide) (fun h42 => ?_) (fun h42 => ?_)
      · refine zx_aload_n (pc := 49) dX10_isSeen_49 rfl rfl ?_
        refine g75_33 (pc := 50) hr fl_X10_145 dX10_isSeen_50 ?_
        refine zx_aload_n (pc := 53) dX10_isSeen_53 rfl rfl ?_
        refine g75_23 (pc := 54) hr fl_X10_47 dX10_isSeen_54 ?_
        refine zx_iload (pc := 57) dX10_isSeen_57 rfl ?_
        refine a88 (pc := 59) hr (zix_n (by omega)) dX10_isSeen_59 ?_
        refine zx_ishr (pc := 60) dX10_isSeen_60 ?_
        refine zx_iconst (pc := 61) (v := 1) dX10_isSeen_61 (by decide) ?_
        refine zx_iand (pc := 62) dX10_isSeen_62 ?_
        exact key _ (by rw [zHw]; first | rw [if_pos h42] | rw [if_neg h42])
      · refine zx_iconst (pc := 45) (v := 2) dX10_isSeen_45 (by decide) ?_
        refine zx_goto (pc := 46) (tgt := 63) dX10_isSeen_46 (by decide) ?_
        exact key _ (by rw [zHw]; first | rw [if_pos h42] | rw [if_neg h42])
set_option maxHeartbeats 4000000 in
theorem r_isSeen {d : Nat} {N S : Nat} {u : Int32} {th : Int32} {mA : (Nat → Int32) × Int32 × Int32} {mB : Int32 × Int32 × (Nat → Int32) × (Nat → Int32) × Int32 × (Nat → Int32)} {mR : Int32 × Int32 × (Nat → Int32) × Int32 × (Nat → Int32)} {pg : (Nat → Int32)} {mq : (Nat → Int32)} {bk : (Nat → Int32) × Int32} {kp : (Nat → Int32) × (Nat → Int32)} {nr : (Nat → Int32)} {no : (Nat → Int32)} {nh : (Nat → Int32)} {ml : Int64} {mw : Int32 × Int32} {pn : Int32 × Int32 × Int32 × Int32} {wh : Int32} {wu : Int32} {sp : Int32 × Int32} {rs : Int32 × Int32} {vl : (Nat → Int32)} {rho : List zCel} (hr : rho.length = 75) (hN : N ≤ 8) (hS : S ≤ 6) (hs : ∀ k, k < S → ∃ R : Nat, R ≤ 3 ∧ nr k = nI R) : zCf yX10_isSeen cX10_isSeen 6 (some .boolean) (d + 3) [.ref 75, .int (nI N), .int u] (rho ++ encM th mA mB mR pg mq bk kp ((nI S), nr, no, nh) ml mw pn (wh, wu) sp rs vl) (some (.int ((zIs nr no nh S N u S (wh, wu)).1))) (rho ++ encM th mA mB mR pg mq bk kp ((nI S), nr, no, nh) ml mw pn ((zIs nr no nh S N u S (wh, wu)).2.1, (zIs nr no nh S N u S (wh, wu)).2.2) sp rs vl) := by
  refine zC.intro (by decide) (Nat.le_of_ble_eq_true rfl) rfl ?_
  refine zx_iconst (pc := 0) (v := 1) dX10_isSeen_0 (by decide) ?_
  refine st_3_6 (pc := 1) dX10_isSeen_1 rfl ?_
  refine zx_iconst (pc := 2) (v := 0) dX10_isSeen_2 (by decide) ?_
  refine st_4_6 (pc := 3) dX10_isSeen_3 rfl ?_
  exact lr_isSeen hr hN hS hs S 0 (by omega) (wh, wu) _ rfl
set_option maxHeartbeats 4000000 in
theorem lr_fr1 {d n0 M : Nat} {c m : Int32} {rs : Int32 × Int32} {Q : Option Value → List zCel → Prop} {th : Int32} {mA : (Nat → Int32) × Int32 × Int32} {mB : Int32 × Int32 × (Nat → Int32) × (Nat → Int32) × Int32 × (Nat → Int32)} {mR : Int32 × Int32 × (Nat → Int32) × Int32 × (Nat → Int32)} {pg : (Nat → Int32)} {mq : (Nat → Int32)} {bk : (Nat → Int32) × Int32} {kp : (Nat → Int32) × (Nat → Int32)} {sn : Int32 × (Nat → Int32) × (Nat → Int32) × (Nat → Int32)} {ml : Int64} {mw : Int32 × Int32} {pn : Int32 × Int32 × Int32 × Int32} {wl : Int32 × Int32} {sp : Int32 × Int32} {vl : (Nat → Int32)} {rho : List zCel} (key : ∀ o5, zX RX10 cX10_findRests 6 none "findRests" none (d + 1) n0 0 0 0 0 Q 131 [some (.ref 75), some (.int (nI M)), some (.int c), some (.int m), some (.int (zRkR M c m 10)), o5] [] (rho ++ encM th mA mB mR pg mq bk kp sn ml mw pn wl sp rs vl)) : ∀ k i : Nat, i + k = 10 → zX RX10 cX10_findRests 6 none "findRests" none (d + 1) n0 0 0 0 0 Q 32 [some (.ref 75), some (.int (nI M)), some (.int c), some (.int m), some (.int (zRkR M c m i)), some (.int (nI i))] [] (rho ++ encM th mA mB mR pg mq bk kp sn ml mw pn wl sp rs vl) := by
  intro k
  induction k with
  | zero =>
    intro i hi
    obtain rfl : i = 10 := by omega
    refine zx_iload (pc := 32) dX10_findRests_32 rfl ?_
    refine zx_bipush (pc := 34) (v := 10) dX10_findRests_34 (by decide) ?_
    refine zx_icmp_ge (pc := 36) (tgt := 131) dX10_findRests_36 (by decide) (fun h36 => ?_) (fun h36 => by first | exact absurd h36 (show (10 : Int32) ≤ nI 10 by decide) | exact absurd (show (10 : Int32) ≤ nI 10 by decide) h36)
    exact key _
  | succ k ih =>
    intro i hi
    have ih' := ih (i + 1) (by omega)
    rw [← nI_1, zRkR] at ih'
    generalize zRkR M c m i = b at ih' ⊢
    refine zx_iload (pc := 32) dX10_findRests_32 rfl ?_
    refine zx_bipush (pc := 34) (v := 10) dX10_findRests_34 (by decide) ?_
    refine zx_icmp_ge (pc := 36) (tgt := 131) dX10_findRests_36 (by decide) (fun h36 => by first | exact absurd h36 (show ¬ (10 : Int32) ≤ nI i from nI_ge (a := i) (b := 10) (by omega) (by decide)) | exact absurd (show ¬ (10 : Int32) ≤ nI i from nI_ge (a := i) (b := 10) (by omega) (by decide)) h36) (fun h36 => ?_)
    refine zx_iload (pc := 39) dX10_findRests_39 rfl ?_
    refine zx_if_eq (pc := 41) (tgt := 75) dX10_findRests_41 (by decide) (fun h41 => ?_) (fun h41 => ?_)
    · refine zx_iconst (pc := 75) (v := 0) dX10_findRests_75 (by decide) ?_
      refine st_4_6 (pc := 76) dX10_findRests_76 rfl ?_
      refine zx_iload (pc := 78) dX10_findRests_78 rfl ?_
      refine zx_if_eq (pc := 80) (tgt := 122) dX10_findRests_80 (by decide) (fun _ => ?_) (fun h80 => absurd h80 (by decide))
      refine zx_iconst (pc := 122) (v := 0) dX10_findRests_122 (by decide) ?_
      refine st_4_6 (pc := 123) dX10_findRests_123 rfl ?_
      refine ic_5_6_1 (pc := 125) dX10_findRests_125 rfl ?_
      refine zx_goto (pc := 128) (tgt := 32) dX10_findRests_128 (by decide) ?_
      simp only [zRk1, ← Int32.not_lt, h41, not_true_eq_false, not_false_eq_true, reduceIte] at ih'
      exact ih'
    · refine zx_iload (pc := 44) dX10_findRests_44 rfl ?_
      refine zx_iload_n (pc := 46) dX10_findRests_46 rfl rfl ?_
      refine zx_iadd (pc := 47) dX10_findRests_47 ?_
      refine zx_iconst (pc := 48) (v := 3) dX10_findRests_48 (by decide) ?_
      refine zx_iload (pc := 49) dX10_findRests_49 rfl ?_
      refine zx_iload_n (pc := 51) dX10_findRests_51 rfl rfl ?_
      refine zx_fS1 (pc := 52) (r_missing (d := d) ) cl_X10_222 dX10_findRests_52 rfl rfl (by omega) (Nat.le_of_ble_eq_true rfl) (Nat.le_refl _) (Nat.le_refl _) ?_
      refine zx_imul (pc := 55) dX10_findRests_55 ?_
      refine zx_isub (pc := 56) dX10_findRests_56 ?_
      refine zx_iload_n (pc := 57) dX10_findRests_57 rfl rfl ?_
      refine zx_iload_n (pc := 58) dX10_findRests_58 rfl rfl ?_
      refine zx_iadd (pc := 59) dX10_findRests_59 ?_
      refine zx_iconst (pc := 60) (v := 3) dX10_findRests_60 (by decide) ?_
      refine zx_iload_n (pc := 61) dX10_findRests_61 rfl rfl ?_
      refine zx_iload_n (pc := 62) dX10_findRests_62 rfl rfl ?_
      refine zx_fS1 (pc := 63) (r_missing (d := d) ) cl_X10_222 dX10_findRests_63 rfl rfl (by omega) (Nat.le_of_ble_eq_true rfl) (Nat.le_refl _) (Nat.le_refl _) ?_
      refine zx_imul (pc := 66) dX10_findRests_66 ?_
      refine zx_isub (pc := 67) dX10_findRests_67 ?_
      refine zx_icmp_gt (pc := 68) (tgt := 75) dX10_findRests_68 (by decide) (fun h68 => ?_) (fun h68 => ?_)
      · refine zx_iconst (pc := 75) (v := 0) dX10_findRests_75 (by decide) ?_
        refine st_4_6 (pc := 76) dX10_findRests_76 rfl ?_
        refine zx_iload (pc := 78) dX10_findRests_78 rfl ?_
        refine zx_if_eq (pc := 80) (tgt := 122) dX10_findRests_80 (by decide) (fun _ => ?_) (fun h80 => absurd h80 (by decide))
        refine zx_iconst (pc := 122) (v := 0) dX10_findRests_122 (by decide) ?_
        refine st_4_6 (pc := 123) dX10_findRests_123 rfl ?_
        refine ic_5_6_1 (pc := 125) dX10_findRests_125 rfl ?_
        refine zx_goto (pc := 128) (tgt := 32) dX10_findRests_128 (by decide) ?_
        simp only [zRk1, ← Int32.not_lt, h41, h68, not_true_eq_false, not_false_eq_true, reduceIte] at ih'
        exact ih'
      · refine zx_iconst (pc := 71) (v := 1) dX10_findRests_71 (by decide) ?_
        refine zx_goto (pc := 72) (tgt := 76) dX10_findRests_72 (by decide) ?_
        refine st_4_6 (pc := 76) dX10_findRests_76 rfl ?_
        refine zx_iload (pc := 78) dX10_findRests_78 rfl ?_
        refine zx_if_eq (pc := 80) (tgt := 122) dX10_findRests_80 (by decide) (fun h80 => absurd h80 (by decide)) (fun _ => ?_)
        refine zx_iload (pc := 83) dX10_findRests_83 rfl ?_
        refine zx_iload_n (pc := 85) dX10_findRests_85 rfl rfl ?_
        refine zx_icmp_gt (pc := 86) (tgt := 118) dX10_findRests_86 (by decide) (fun h86 => ?_) (fun h86 => ?_)
        · refine zx_iconst (pc := 118) (v := 1) dX10_findRests_118 (by decide) ?_
          refine zx_goto (pc := 119) (tgt := 123) dX10_findRests_119 (by decide) ?_
          refine st_4_6 (pc := 123) dX10_findRests_123 rfl ?_
          refine ic_5_6_1 (pc := 125) dX10_findRests_125 rfl ?_
          refine zx_goto (pc := 128) (tgt := 32) dX10_findRests_128 (by decide) ?_
          simp only [zRk1, ← Int32.not_lt, h41, h68, h86, not_true_eq_false, not_false_eq_true, reduceIte] at ih'
          exact ih'
        · refine zx_bipush (pc := 89) (v := 9) dX10_findRests_89 (by decide) ?_
          refine zx_iload (pc := 91) dX10_findRests_91 rfl ?_
          refine zx_isub (pc := 93) dX10_findRests_93 ?_
          refine zx_iconst (pc := 94) (v := 2) dX10_findRests_94 (by decide) ?_
          refine zx_iload_n (pc := 95) dX10_findRests_95 rfl rfl ?_
          refine zx_iload (pc := 96) dX10_findRests_96 rfl ?_
          refine zx_fS1 (pc := 98) (r_missing (d := d) ) cl_X10_222 dX10_findRests_98 rfl rfl (by omega) (Nat.le_of_ble_eq_true rfl) (Nat.le_refl _) (Nat.le_refl _) ?_
          refine zx_imul (pc := 101) dX10_findRests_101 ?_
          refine zx_isub (pc := 102) dX10_findRests_102 ?_
          refine zx_bipush (pc := 103) (v := 9) dX10_findRests_103 (by decide) ?_
          refine zx_iload_n (pc := 105) dX10_findRests_105 rfl rfl ?_
          refine zx_isub (pc := 106) dX10_findRests_106 ?_
          refine zx_iconst (pc := 107) (v := 2) dX10_findRests_107 (by decide) ?_
          refine zx_iload_n (pc := 108) dX10_findRests_108 rfl rfl ?_
          refine zx_iload_n (pc := 109) dX10_findRests_109 rfl rfl ?_
          refine zx_fS1 (pc := 110) (r_missing (d := d) ) cl_X10_222 dX10_findRests_110 rfl rfl (by omega) (Nat.le_of_ble_eq_true rfl) (Nat.le_refl _) (Nat.le_refl _) ?_
          refine zx_imul (pc := 113) dX10_findRests_113 ?_
          refine zx_isub (pc := 114) dX10_findRests_114 ?_
          refine zx_icmp_gt (pc := 115) (tgt := 122) dX10_findRests_115 (by decide) (fun h115 => ?_) (fun h115 => ?_)
          · refine zx_iconst (pc := 122) (v := 0) dX10_findRests_122 (by decide) ?_
            refine st_4_6 (pc := 123) dX10_findRests_123 rfl ?_
            refine ic_5_6_1 (pc := 125) dX10_findRests_125 rfl ?_
            refine zx_goto (pc := 128) (tgt := 32) dX10_findRests_128 (by decide) ?_
            simp only [zRk1, ← Int32.not_lt, h41, h68, h86, h115, not_true_eq_false, not_false_eq_true, reduceIte] at ih'
            exact ih'
          · refine zx_iconst (pc := 118) (v := 1) dX10_findRests_118 (by decide) ?_
            refine zx_goto (pc := 119) (tgt := 123) dX10_findRests_119 (by decide) ?_
            refine st_4_6 (pc := 123) dX10_findRests_123 rfl ?_
            refine ic_5_6_1 (pc := 125) dX10_findRests_125 rfl ?_
            refine zx_goto (pc := 128) (tgt := 32) dX10_findRests_128 (by decide) ?_
            simp only [zRk1, ← Int32.not_lt, h41, h68, h86, h115, not_true_eq_false, not_false_eq_true, reduceIte] at ih'
            exact ih'
set_option maxHeartbeats 4000000 in
theorem lr_fr2 {d n0 M c : Nat} {f : Int32 × Int32} {Q : Option Value → List zCel → Prop} {th : Int32} {mA : (Nat → Int32) × Int32 × Int32} {mB : Int32 × Int32 × (Nat → Int32) × (Nat → Int32) × Int32 × (Nat → Int32)} {mR : Int32 × Int32 × (Nat → Int32) × Int32 × (Nat → Int32)} {pg : (Nat → Int32)} {mq : (Nat → Int32)} {bk : (Nat → Int32) × Int32} {kp : (Nat → Int32) × (Nat → Int32)} {sn : Int32 × (Nat → Int32) × (Nat → Int32) × (Nat → Int32)} {ml : Int64} {mw : Int32 × Int32} {pn : Int32 × Int32 × Int32 × Int32} {wl : Int32 × Int32} {sp : Int32 × Int32} {vl : (Nat → Int32)} {rho : List zCel} (hr : rho.length = 75) (hM : M < 1000) (key : ∀ o3 o4 o5, zX RX10 cX10_findRests 6 none "findRests" none (d + 1) n0 0 0 0 0 Q 185 [some (.ref 75), some (.int (nI M)), some (.int (nI c)), o3, o4, o5] [] (rho ++ encM th mA mB mR pg mq bk kp sn ml mw pn wl sp ((zRmI M c f (M + 1)).1, (zRmI M c f (M + 1)).2) vl)) : ∀ k i : Nat, i + k = M + 1 → ∀ o4 o5, zX RX10 cX10_findRests 6 none "findRests" none (d + 1) n0 0 0 0 0 Q 21 [some (.ref 75), some (.int (nI M)), some (.int (nI c)), some (.int (nI i)), o4, o5] [] (rho ++ encM th mA mB mR pg mq bk kp sn ml mw pn wl sp ((zRmI M c f i).1, (zRmI M c f i).2) vl) := by
  intro k
  induction k with
  | zero =>
    intro i hi o4 o5
    obtain rfl : i = M + 1 := by omega
    refine zx_iload_n (pc := 21) dX10_findRests_21 rfl rfl ?_
    refine zx_iload_n (pc := 22) dX10_findRests_22 rfl rfl ?_
    refine zx_icmp_gt (pc := 23) (tgt := 185) dX10_findRests_23 (by decide) (fun h23 => ?_) (fun h23 => by first | exact absurd h23 (show nI M < nI (M + 1) from nI_lt (by omega) (by omega)) | exact absurd (show nI M < nI (M + 1) from nI_lt (by omega) (by omega)) h23)
    exact key _ _ _
  | succ k ih =>
    intro i hi o4 o5
    have ih' := ih (i + 1) (by omega)
    rw [← nI_1, zRmI] at ih'
    generalize zRmI M c f i = g at ih' ⊢
    obtain ⟨g1, g2⟩ := g
    simp only [zRm1] at ih' ⊢
    refine zx_iload_n (pc := 21) dX10_findRests_21 rfl rfl ?_
    refine zx_iload_n (pc := 22) dX10_findRests_22 rfl rfl ?_
    refine zx_icmp_gt (pc := 23) (tgt := 185) dX10_findRests_23 (by decide) (fun h23 => by first | exact absurd h23 (nI_nlt (show i ≤ M by omega) (by omega)) | exact absurd (nI_nlt (show i ≤ M by omega) (by omega)) h23) (fun h23 => ?_)
    refine zx_iconst (pc := 26) (v := 1) dX10_findRests_26 (by decide) ?_
    refine st_4_6 (pc := 27) dX10_findRests_27 rfl ?_
    refine zx_iconst (pc := 29) (v := 0) dX10_findRests_29 (by decide) ?_
    refine st_5_6 (pc := 30) dX10_findRests_30 rfl ?_
    refine lr_fr1 (fun q5 => ?_) 10 0 (by omega)
    generalize zRkR M (nI c) (nI i) 10 = b at ih' ⊢
    by_cases hb : b = 0
    · simp only [hb, reduceIte] at ih' ⊢
      refine zx_aload_n (pc := 131) dX10_findRests_131 rfl rfl ?_
      refine zx_iload (pc := 132) dX10_findRests_132 rfl ?_
      refine zx_if_eq (pc := 134) (tgt := 153) dX10_findRests_134 (by decide) (fun h134 => ?_) (fun h134 => by first | exact absurd h134 (show (0 : Int32) = 0 from rfl) | exact absurd (show (0 : Int32) = 0 from rfl) h134)
      refine zx_aload_n (pc := 153) dX10_findRests_153 rfl rfl ?_
      refine g75_37 (pc := 154) hr fl_X10_219 dX10_findRests_154 ?_
      refine u75_37 (pc := 157) hr fl_X10_219 dX10_findRests_157 ?_
      refine zx_aload_n (pc := 160) dX10_findRests_160 rfl rfl ?_
      refine zx_dup (pc := 161) dX10_findRests_161 rfl ?_
      refine g75_36 (pc := 162) hr fl_X10_216 dX10_findRests_162 ?_
      refine zx_iload (pc := 165) dX10_findRests_165 rfl ?_
      refine zx_if_eq (pc := 167) (tgt := 174) dX10_findRests_167 (by decide) (fun h167 => ?_) (fun h167 => by first | exact absurd h167 (show (0 : Int32) = 0 from rfl) | exact absurd (show (0 : Int32) = 0 from rfl) h167)
      refine zx_iconst (pc := 174) (v := 0) dX10_findRests_174 (by decide) ?_
      refine zx_iadd (pc := 175) dX10_findRests_175 ?_
      refine u75_36 (pc := 176) hr fl_X10_216 dX10_findRests_176 ?_
      refine ic_3_6_1 (pc := 179) dX10_findRests_179 rfl ?_
      refine zx_goto (pc := 182) (tgt := 21) dX10_findRests_182 (by decide) ?_
      exact ih' _ _
    · simp only [hb, reduceIte] at ih'
      refine zx_aload_n (pc := 131) dX10_findRests_131 rfl rfl ?_
      refine zx_iload (pc := 132) dX10_findRests_132 rfl ?_
      refine zx_if_eq (pc := 134) (tgt := 153) dX10_findRests_134 (by decide) (fun h134 => by first | exact absurd h134 hb | exact absurd hb h134) (fun h134 => ?_)
      refine zx_aload_n (pc := 137) dX10_findRests_137 rfl rfl ?_
      refine g75_36 (pc := 138) hr fl_X10_216 dX10_findRests_138 ?_
      refine zx_if_ne (pc := 141) (tgt := 153) dX10_findRests_141 (by decide) (fun h141 => ?_) (fun h141 => ?_)
      · refine zx_aload_n (pc := 153) dX10_findRests_153 rfl rfl ?_
        refine g75_37 (pc := 154) hr fl_X10_219 dX10_findRests_154 ?_
        refine u75_37 (pc := 157) hr fl_X10_219 dX10_findRests_157 ?_
        refine zx_aload_n (pc := 160) dX10_findRests_160 rfl rfl ?_
        refine zx_dup (pc := 161) dX10_findRests_161 rfl ?_
        refine g75_36 (pc := 162) hr fl_X10_216 dX10_findRests_162 ?_
        refine zx_iload (pc := 165) dX10_findRests_165 rfl ?_
        refine zx_if_eq (pc := 167) (tgt := 174) dX10_findRests_167 (by decide) (fun h167 => by first | exact absurd h167 hb | exact absurd hb h167) (fun h167 => ?_)
        refine zx_iconst (pc := 170) (v := 1) dX10_findRests_170 (by decide) ?_
        refine zx_goto (pc := 171) (tgt := 175) dX10_findRests_171 (by decide) ?_
        refine zx_iadd (pc := 175) dX10_findRests_175 ?_
        refine u75_36 (pc := 176) hr fl_X10_216 dX10_findRests_176 ?_
        refine ic_3_6_1 (pc := 179) dX10_findRests_179 rfl ?_
        refine zx_goto (pc := 182) (tgt := 21) dX10_findRests_182 (by decide) ?_
        simp only [h141, reduceIte] at ih'
        first | exact ih' _ _ | (simp only [h141] at ih' ⊢; exact ih' _ _)
      · refine zx_bipush (pc := 144) (v := 10) dX10_findRests_144 (by decide) ?_
        refine zx_iload_n (pc := 146) dX10_findRests_146 rfl rfl ?_
        refine zx_imul (pc := 147) dX10_findRests_147 ?_
        refine zx_iload_n (pc := 148) dX10_findRests_148 rfl rfl ?_
        refine zx_iadd (pc := 149) dX10_findRests_149 ?_
        refine zx_goto (pc := 150) (tgt := 157) dX10_findRests_150 (by decide) ?_
        refine u75_37 (pc := 157) hr fl_X10_219 dX10_findRests_157 ?_
        refine zx_aload_n (pc := 160) dX10_findRests_160 rfl rfl ?_
        refine zx_dup (pc := 161) dX10_findRests_161 rfl ?_
        refine g75_36 (pc := 162) hr fl_X10_216 dX10_findRests_162 ?_
        refine zx_iload (pc := 165) dX10_findRests_165 rfl ?_
        refine zx_if_eq (pc := 167) (tgt := 174) dX10_findRests_167 (by decide) (fun h167 => by first | exact absurd h167 hb | exact absurd hb h167) (fun h167 => ?_)
        refine zx_iconst (pc := 170) (v := 1) dX10_findRests_170 (by decide) ?_
        refine zx_goto (pc := 171) (tgt := 175) dX10_findRests_171 (by decide) ?_
        refine zx_iadd (pc := 175) dX10_findRests_175 ?_
        refine u75_36 (pc := 176) hr fl_X10_216 dX10_findRests_176 ?_
        refine ic_3_6_1 (pc := 179) dX10_findRests_179 rfl ?_
        refine zx_goto (pc := 182) (tgt := 21) dX10_findRests_182 (by decide) ?_
        simp only [h141, reduceIte] at ih'
        first | exact ih' _ _ | (simp only [h141] at ih' ⊢; exact ih' _ _)
set_option maxHeartbeats 4000000 in
theorem lr_fr3 {d n0 M : Nat} {th : Int32} {mA : (Nat → Int32) × Int32 × Int32} {mB : Int32 × Int32 × (Nat → Int32) × (Nat → Int32) × Int32 × (Nat → Int32)} {mR : Int32 × Int32 × (Nat → Int32) × Int32 × (Nat → Int32)} {pg : (Nat → Int32)} {mq : (Nat → Int32)} {bk : (Nat → Int32) × Int32} {kp : (Nat → Int32) × (Nat → Int32)} {sn : Int32 × (Nat → Int32) × (Nat → Int32) × (Nat → Int32)} {ml : Int64} {mw : Int32 × Int32} {pn : Int32 × Int32 × Int32 × Int32} {wl : Int32 × Int32} {sp : Int32 × Int32} {vl : (Nat → Int32)} {rho : List zCel} (hr : rho.length = 75) (hM : M < 1000) : ∀ k i : Nat, i + k = 10 → ∀ o3 o4 o5, zX RX10 cX10_findRests 6 none "findRests" none (d + 1) n0 0 0 0 0 (fun r s => r = none ∧ s = rho ++ encM th mA mB mR pg mq bk kp sn ml mw pn wl sp ((zRmO M 10).1, (zRmO M 10).2) vl) 13 [some (.ref 75), some (.int (nI M)), some (.int (nI i)), o3, o4, o5] [] (rho ++ encM th mA mB mR pg mq bk kp sn ml mw pn wl sp ((zRmO M i).1, (zRmO M i).2) vl) := by
  intro k
  induction k with
  | zero =>
    intro i hi o3 o4 o5
    obtain rfl : i = 10 := by omega
    refine zx_iload_n (pc := 13) dX10_findRests_13 rfl rfl ?_
    refine zx_bipush (pc := 14) (v := 10) dX10_findRests_14 (by decide) ?_
    refine zx_icmp_ge (pc := 16) (tgt := 191) dX10_findRests_16 (by decide) (fun h16 => ?_) (fun h16 => by first | exact absurd h16 (show (10 : Int32) ≤ nI 10 by decide) | exact absurd (show (10 : Int32) ≤ nI 10 by decide) h16)
    exact zx_fv (pc := 191) dX10_findRests_191 rfl (Nat.le_refl _) (Nat.le_refl _) rfl
  | succ k ih =>
    intro i hi o3 o4 o5
    have ih' := ih (i + 1) (by omega)
    rw [← nI_1, zRmO] at ih'
    refine zx_iload_n (pc := 13) dX10_findRests_13 rfl rfl ?_
    refine zx_bipush (pc := 14) (v := 10) dX10_findRests_14 (by decide) ?_
    refine zx_icmp_ge (pc := 16) (tgt := 191) dX10_findRests_16 (by decide) (fun h16 => by first | exact absurd h16 (show ¬ (10 : Int32) ≤ nI i from nI_ge (a := i) (b := 10) (by omega) (by decide)) | exact absurd (show ¬ (10 : Int32) ≤ nI i from nI_ge (a := i) (b := 10) (by omega) (by decide)) h16) (fun h16 => ?_)
    refine zx_iconst (pc := 19) (v := 0) dX10_findRests_19 (by decide) ?_
    refine st_3_6 (pc := 20) dX10_findRests_20 rfl ?_
    refine lr_fr2 (f := zRmO M i) hr hM (fun q3 q4 q5 => ?_) (M + 1) 0 (by omega) _ _
    refine ic_2_6_1 (pc := 185) dX10_findRests_185 rfl ?_
    refine zx_goto (pc := 188) (tgt := 13) dX10_findRests_188 (by decide) ?_
    exact ih' _ _ _
set_option maxHeartbeats 4000000 in
theorem r_findRests {d : Nat} {M : Nat} {th : Int32} {mA : (Nat → Int32) × Int32 × Int32} {mB : Int32 × Int32 × (Nat → Int32) × (Nat → Int32) × Int32 × (Nat → Int32)} {mR : Int32 × Int32 × (Nat → Int32) × Int32 × (Nat → Int32)} {pg : (Nat → Int32)} {mq : (Nat → Int32)} {bk : (Nat → Int32) × Int32} {kp : (Nat → Int32) × (Nat → Int32)} {sn : Int32 × (Nat → Int32) × (Nat → Int32) × (Nat → Int32)} {ml : Int64} {mw : Int32 × Int32} {pn : Int32 × Int32 × Int32 × Int32} {wl : Int32 × Int32} {sp : Int32 × Int32} {f1 : Int32} {f2 : Int32} {vl : (Nat → Int32)} {rho : List zCel} (hr : rho.length = 75) (hM : M < 1000) : zCf yX10_findRests cX10_findRests 6 none (d + 1) [.ref 75, .int (nI M)] (rho ++ encM th mA mB mR pg mq bk kp sn ml mw pn wl sp (f1, f2) vl) none (rho ++ encM th mA mB mR pg mq bk kp sn ml mw pn wl sp ((zRmO M 10).1, (zRmO M 10).2) vl) := by
  refine zC.intro (by decide) (Nat.le_of_ble_eq_true rfl) rfl ?_
  refine zx_aload_n (pc := 0) dX10_findRests_0 rfl rfl ?_
  refine zx_iconst (pc := 1) (v := 0) dX10_findRests_1 (by decide) ?_
  refine u75_36 (pc := 2) hr fl_X10_216 dX10_findRests_2 ?_
  refine zx_aload_n (pc := 5) dX10_findRests_5 rfl rfl ?_
  refine zx_bipush (pc := 6) (v := -9) dX10_findRests_6 (by decide) ?_
  refine u75_37 (pc := 8) hr fl_X10_219 dX10_findRests_8 ?_
  refine zx_iconst (pc := 11) (v := 0) dX10_findRests_11 (by decide) ?_
  refine st_2_6 (pc := 12) dX10_findRests_12 rfl ?_
  exact lr_fr3 hr hM 10 0 (by omega) _ _ _
set_option maxHeartbeats 4000000 in
theorem r_fig_n {d : Nat} {T p : Nat} {lo hi : Int32} {th : Int32} {mt : (Nat → Int32)} {mB : Int32 × Int32 × (Nat → Int32) × (Nat → Int32) × Int32 × (Nat → Int32)} {mR : Int32 × Int32 × (Nat → Int32) × Int32 × (Nat → Int32)} {pg : (Nat → Int32)} {mq : (Nat → Int32)} {bk : (Nat → Int32) × Int32} {kp : (Nat → Int32) × (Nat → Int32)} {sn : Int32 × (Nat → Int32) × (Nat → Int32) × (Nat → Int32)} {ml : Int64} {mw : Int32 × Int32} {pn : Int32 × Int32 × Int32 × Int32} {wl : Int32 × Int32} {sp : Int32 × Int32} {rs : Int32 × Int32} {vl : (Nat → Int32)} {rho : List zCel} (hr : rho.length = 75) (hT : T ≤ 40) (hp : p ≤ T) (ho : zOk mt T p lo hi = 0) : zCf yX10_figure cX10_figure 3 (some .int) (d + 1) [.ref 75, .int lo, .int hi] (rho ++ encM th (mt, (nI T), (nI p)) mB mR pg mq bk kp sn ml mw pn wl sp rs vl) (some (.int (-9))) (rho ++ encM th (mt, (nI T), (nI p)) mB mR pg mq bk kp sn ml mw pn wl sp rs vl) := by
  refine zC.intro (by decide) (Nat.le_of_ble_eq_true rfl) rfl ?_
  refine zx_aload_n (pc := 0) dX10_figure_0 rfl rfl ?_
  refine g75_3 (pc := 1) hr fl_X10_72 dX10_figure_1 ?_
  refine zx_aload_n (pc := 4) dX10_figure_4 rfl rfl ?_
  refine g75_2 (pc := 5) hr fl_X10_69 dX10_figure_5 ?_
  refine zx_icmp_eq (pc := 8) (tgt := 34) dX10_figure_8 (by decide) (fun h8 => ?_) (fun h8 => ?_)
  · refine zx_bipush (pc := 34) (v := -9) dX10_figure_34 (by decide) ?_
    exact zx_fi (pc := 36) dX10_figure_36 rfl rfl (Nat.le_refl _) (Nat.le_refl _) rfl rfl
  · have hp2 : p ≠ T := fun e => h8 (by rw [e])
    refine zx_aload_n (pc := 11) dX10_figure_11 rfl rfl ?_
    refine g75_1 (pc := 12) hr fl_X10_7 dX10_figure_12 ?_
    refine zx_aload_n (pc := 15) dX10_figure_15 rfl rfl ?_
    refine g75_3 (pc := 16) hr fl_X10_72 dX10_figure_16 ?_
    refine a76 (pc := 19) hr (zix_n (by omega)) dX10_figure_19 ?_
    refine zx_bipush (pc := 20) (v := 48) dX10_figure_20 (by decide) ?_
    refine zx_isub (pc := 22) dX10_figure_22 ?_
    refine zx_i2l (pc := 23) dX10_figure_23 rfl ?_
    refine zx_iload_n (pc := 24) dX10_figure_24 rfl rfl ?_
    refine zx_i2l (pc := 25) dX10_figure_25 rfl ?_
    refine zx_iload_n (pc := 26) dX10_figure_26 rfl rfl ?_
    refine zx_i2l (pc := 27) dX10_figure_27 rfl ?_
    refine zx_fS1 (pc := 28) (r_in (d := d) rfl rfl rfl) cl_X10_63 dX10_figure_28 rfl rfl (by omega) (Nat.le_of_ble_eq_true rfl) (Nat.le_refl _) (Nat.le_refl _) ?_
    refine zx_if_ne (pc := 31) (tgt := 37) dX10_figure_31 (by decide) (fun h31 => by first | exact absurd h31 (zOk_n ho hp2) | exact absurd (zOk_n ho hp2) h31) (fun h31 => ?_)
    refine zx_bipush (pc := 34) (v := -9) dX10_figure_34 (by decide) ?_
    exact zx_fi (pc := 36) dX10_figure_36 rfl rfl (Nat.le_refl _) (Nat.le_refl _) rfl rfl
set_option maxHeartbeats 4000000 in
theorem r_fig_y {d : Nat} {T p : Nat} {lo hi : Int32} {th : Int32} {mt : (Nat → Int32)} {mB : Int32 × Int32 × (Nat → Int32) × (Nat → Int32) × Int32 × (Nat → Int32)} {mR : Int32 × Int32 × (Nat → Int32) × Int32 × (Nat → Int32)} {pg : (Nat → Int32)} {mq : (Nat → Int32)} {bk : (Nat → Int32) × Int32} {kp : (Nat → Int32) × (Nat → Int32)} {sn : Int32 × (Nat → Int32) × (Nat → Int32) × (Nat → Int32)} {ml : Int64} {mw : Int32 × Int32} {pn : Int32 × Int32 × Int32 × Int32} {wl : Int32 × Int32} {sp : Int32 × Int32} {rs : Int32 × Int32} {vl : (Nat → Int32)} {rho : List zCel} (hr : rho.length = 75) (hT : T ≤ 40) (hp : p ≤ T) (ho : ¬ zOk mt T p lo hi = 0) : zCf yX10_figure cX10_figure 3 (some .int) (d + 1) [.ref 75, .int lo, .int hi] (rho ++ encM th (mt, (nI T), (nI p)) mB mR pg mq bk kp sn ml mw pn wl sp rs vl) (some (.int (mt p - 48))) (rho ++ encM th (mt, (nI T), (nI (p + 1))) mB mR pg mq bk kp sn ml mw pn wl sp rs vl) := by
  refine zC.intro (by decide) (Nat.le_of_ble_eq_true rfl) rfl ?_
  obtain ⟨hp2, hp3⟩ := zOk_y ho
  have hp4 : ¬ nI p = nI T := fun e => hp2 ((nI_eq (by omega) (by omega)).mp e)
  refine zx_aload_n (pc := 0) dX10_figure_0 rfl rfl ?_
  refine g75_3 (pc := 1) hr fl_X10_72 dX10_figure_1 ?_
  refine zx_aload_n (pc := 4) dX10_figure_4 rfl rfl ?_
  refine g75_2 (pc := 5) hr fl_X10_69 dX10_figure_5 ?_
  refine zx_icmp_eq (pc := 8) (tgt := 34) dX10_figure_8 (by decide) (fun h8 => by first | exact absurd h8 hp4 | exact absurd hp4 h8) (fun h8 => ?_)
  refine zx_aload_n (pc := 11) dX10_figure_11 rfl rfl ?_
  refine g75_1 (pc := 12) hr fl_X10_7 dX10_figure_12 ?_
  refine zx_aload_n (pc := 15) dX10_figure_15 rfl rfl ?_
  refine g75_3 (pc := 16) hr fl_X10_72 dX10_figure_16 ?_
  refine a76 (pc := 19) hr (zix_n (by omega)) dX10_figure_19 ?_
  refine zx_bipush (pc := 20) (v := 48) dX10_figure_20 (by decide) ?_
  refine zx_isub (pc := 22) dX10_figure_22 ?_
  refine zx_i2l (pc := 23) dX10_figure_23 rfl ?_
  refine zx_iload_n (pc := 24) dX10_figure_24 rfl rfl ?_
  refine zx_i2l (pc := 25) dX10_figure_25 rfl ?_
  refine zx_iload_n (pc := 26) dX10_figure_26 rfl rfl ?_
  refine zx_i2l (pc := 27) dX10_figure_27 rfl ?_
  refine zx_fS1 (pc := 28) (r_in (d := d) rfl rfl rfl) cl_X10_63 dX10_figure_28 rfl rfl (by omega) (Nat.le_of_ble_eq_true rfl) (Nat.le_refl _) (Nat.le_refl _) ?_
  refine zx_if_ne (pc := 31) (tgt := 37) dX10_figure_31 (by decide) (fun h31 => ?_) (fun h31 => by first | exact absurd h31 hp3 | exact absurd hp3 h31)
  refine zx_aload_n (pc := 37) dX10_figure_37 rfl rfl ?_
  refine zx_dup (pc := 38) dX10_figure_38 rfl ?_
  refine g75_3 (pc := 39) hr fl_X10_72 dX10_figure_39 ?_
  refine zx_iconst (pc := 42) (v := 1) dX10_figure_42 (by decide) ?_
  refine zx_iadd (pc := 43) dX10_figure_43 ?_
  rw [nI_1]
  refine u75_3 (pc := 44) hr fl_X10_72 dX10_figure_44 ?_
  refine zx_aload_n (pc := 47) dX10_figure_47 rfl rfl ?_
  refine g75_1 (pc := 48) hr fl_X10_7 dX10_figure_48 ?_
  refine zx_aload_n (pc := 51) dX10_figure_51 rfl rfl ?_
  refine g75_3 (pc := 52) hr fl_X10_72 dX10_figure_52 ?_
  refine zx_iconst (pc := 55) (v := 1) dX10_figure_55 (by decide) ?_
  refine zx_isub (pc := 56) dX10_figure_56 ?_
  rw [nI_pred]
  refine a76 (pc := 57) hr (zix_n (by omega)) dX10_figure_57 ?_
  refine zx_bipush (pc := 58) (v := 48) dX10_figure_58 (by decide) ?_
  refine zx_isub (pc := 60) dX10_figure_60 ?_
  exact zx_fi (pc := 61) dX10_figure_61 rfl rfl (Nat.le_refl _) (Nat.le_refl _) rfl rfl
set_option maxHeartbeats 4000000 in
theorem r_readHand_a {d : Nat} {T p c e : Nat} {th : Int32} {mt : (Nat → Int32)} {mB : Int32 × Int32 × (Nat → Int32) × (Nat → Int32) × Int32 × (Nat → Int32)} {rc : Int32} {rg : (Nat → Int32)} {rd : (Nat → Int32)} {pg : (Nat → Int32)} {mq : (Nat → Int32)} {bk : (Nat → Int32) × Int32} {kp : (Nat → Int32) × (Nat → Int32)} {sn : Int32 × (Nat → Int32) × (Nat → Int32) × (Nat → Int32)} {ml : Int64} {mw : Int32 × Int32} {pn : Int32 × Int32 × Int32 × Int32} {wl : Int32 × Int32} {sp : Int32 × Int32} {rs : Int32 × Int32} {vl : (Nat → Int32)} {rho : List zCel} (hr : rho.length = 75) (hT : T ≤ 40) (hp : p ≤ T) (o1 : zOk mt T p 1 4 = 0) : zCf yX10_readHand cX10_readHand 3 (some .boolean) (d + 2) [.ref 75] (rho ++ encM th (mt, (nI T), (nI p)) mB (rc, (nI c), rg, (nI e), rd) pg mq bk kp sn ml mw pn wl sp rs vl) (some (.int (0))) (rho ++ encM th (mt, (nI T), (nI p)) mB (rc, (nI c), rg, (nI e), rd) pg mq bk kp sn ml mw pn wl sp rs vl) := by
  refine zC.intro (by decide) (Nat.le_of_ble_eq_true rfl) rfl ?_
  refine zx_aload_n (pc := 0) dX10_readHand_0 rfl rfl ?_
  refine zx_iconst (pc := 1) (v := 1) dX10_readHand_1 (by decide) ?_
  refine zx_iconst (pc := 2) (v := 4) dX10_readHand_2 (by decide) ?_
  refine zx_fV1 (pc := 3) (r_fig_n (d := d) hr hT hp o1) cl_X10_75 (p75 hr) rfl dX10_readHand_3 rfl rfl (by omega) (Nat.le_of_ble_eq_true rfl) (Nat.le_refl _) (Nat.le_refl _) ?_
  refine st_1_3 (pc := 6) dX10_readHand_6 rfl ?_
  refine zx_iload_n (pc := 7) dX10_readHand_7 rfl rfl ?_
  refine zx_bipush (pc := 8) (v := -9) dX10_readHand_8 (by decide) ?_
  refine zx_icmp_ne (pc := 10) (tgt := 18) dX10_readHand_10 (by decide) (fun h10 => by first | exact absurd h10 (show (-9 : Int32) = -9 from rfl) | exact absurd (show (-9 : Int32) = -9 from rfl) h10) (fun h10 => ?_)
  refine zx_bipush (pc := 13) (v := -9) dX10_readHand_13 (by decide) ?_
  refine zx_goto (pc := 15) (tgt := 24) dX10_readHand_15 (by decide) ?_
  refine st_2_3 (pc := 24) dX10_readHand_24 rfl ?_
  refine zx_iload_n (pc := 25) dX10_readHand_25 rfl rfl ?_
  refine zx_bipush (pc := 26) (v := -9) dX10_readHand_26 (by decide) ?_
  refine zx_icmp_ne (pc := 28) (tgt := 33) dX10_readHand_28 (by decide) (fun h28 => absurd h28 (by decide)) (fun _ => ?_)
  refine zx_iconst (pc := 31) (v := 0) dX10_readHand_31 (by decide) ?_
  exact zx_fi (pc := 32) dX10_readHand_32 rfl (by decide) (Nat.le_refl _) (Nat.le_refl _) rfl rfl
set_option maxHeartbeats 4000000 in
theorem r_readHand_b {d : Nat} {T p c e : Nat} {th : Int32} {mt : (Nat → Int32)} {mB : Int32 × Int32 × (Nat → Int32) × (Nat → Int32) × Int32 × (Nat → Int32)} {rc : Int32} {rg : (Nat → Int32)} {rd : (Nat → Int32)} {pg : (Nat → Int32)} {mq : (Nat → Int32)} {bk : (Nat → Int32) × Int32} {kp : (Nat → Int32) × (Nat → Int32)} {sn : Int32 × (Nat → Int32) × (Nat → Int32) × (Nat → Int32)} {ml : Int64} {mw : Int32 × Int32} {pn : Int32 × Int32 × Int32 × Int32} {wl : Int32 × Int32} {sp : Int32 × Int32} {rs : Int32 × Int32} {vl : (Nat → Int32)} {rho : List zCel} (hr : rho.length = 75) (hT : T ≤ 40) (hp : p ≤ T) (o1 : ¬ zOk mt T p 1 4 = 0) (o2 : zOk mt T (p + 1) 0 3 = 0) : zCf yX10_readHand cX10_readHand 3 (some .boolean) (d + 2) [.ref 75] (rho ++ encM th (mt, (nI T), (nI p)) mB (rc, (nI c), rg, (nI e), rd) pg mq bk kp sn ml mw pn wl sp rs vl) (some (.int (0))) (rho ++ encM th (mt, (nI T), (nI (p + 1))) mB (rc, (nI c), rg, (nI e), rd) pg mq bk kp sn ml mw pn wl sp rs vl) := by
  have hq : p + 1 ≤ T := by have := (zOk_y o1).1; omega
  refine zC.intro (by decide) (Nat.le_of_ble_eq_true rfl) rfl ?_
  refine zx_aload_n (pc := 0) dX10_readHand_0 rfl rfl ?_
  refine zx_iconst (pc := 1) (v := 1) dX10_readHand_1 (by decide) ?_
  refine zx_iconst (pc := 2) (v := 4) dX10_readHand_2 (by decide) ?_
  refine zx_fV1 (pc := 3) (r_fig_y (d := d) hr hT hp o1) cl_X10_75 (p75 hr) rfl dX10_readHand_3 rfl rfl (by omega) (Nat.le_of_ble_eq_true rfl) (Nat.le_refl _) (Nat.le_refl _) ?_
  refine st_1_3 (pc := 6) dX10_readHand_6 rfl ?_
  refine zx_iload_n (pc := 7) dX10_readHand_7 rfl rfl ?_
  refine zx_bipush (pc := 8) (v := -9) dX10_readHand_8 (by decide) ?_
  refine zx_icmp_ne (pc := 10) (tgt := 18) dX10_readHand_10 (by decide) (fun h10 => ?_) (fun h10 => by first | exact absurd h10 (zOk_9 o1 (by decide)) | exact absurd (zOk_9 o1 (by decide)) h10)
  refine zx_aload_n (pc := 18) dX10_readHand_18 rfl rfl ?_
  refine zx_iconst (pc := 19) (v := 0) dX10_readHand_19 (by decide) ?_
  refine zx_iconst (pc := 20) (v := 3) dX10_readHand_20 (by decide) ?_
  refine zx_fV1 (pc := 21) (r_fig_n (d := d) hr hT hq o2) cl_X10_75 (p75 hr) rfl dX10_readHand_21 rfl rfl (by omega) (Nat.le_of_ble_eq_true rfl) (Nat.le_refl _) (Nat.le_refl _) ?_
  refine st_2_3 (pc := 24) dX10_readHand_24 rfl ?_
  refine zx_iload_n (pc := 25) dX10_readHand_25 rfl rfl ?_
  refine zx_bipush (pc := 26) (v := -9) dX10_readHand_26 (by decide) ?_
  refine zx_icmp_ne (pc := 28) (tgt := 33) dX10_readHand_28 (by decide) (fun h28 => by first | exact absurd h28 (show (-9 : Int32) = -9 from rfl) | exact absurd (show (-9 : Int32) = -9 from rfl) h28) (fun h28 => ?_)
  refine zx_iconst (pc := 31) (v := 0) dX10_readHand_31 (by decide) ?_
  exact zx_fi (pc := 32) dX10_readHand_32 rfl (by decide) (Nat.le_refl _) (Nat.le_refl _) rfl rfl
set_option maxHeartbeats 4000000 in
theorem r_readHand_c {d : Nat} {T p c e : Nat} {th : Int32} {mt : (Nat → Int32)} {mB : Int32 × Int32 × (Nat → Int32) × (Nat → Int32) × Int32 × (Nat → Int32)} {rc : Int32} {rg : (Nat → Int32)} {rd : (Nat → Int32)} {pg : (Nat → Int32)} {mq : (Nat → Int32)} {bk : (Nat → Int32) × Int32} {kp : (Nat → Int32) × (Nat → Int32)} {sn : Int32 × (Nat → Int32) × (Nat → Int32) × (Nat → Int32)} {ml : Int64} {mw : Int32 × Int32} {pn : Int32 × Int32 × Int32 × Int32} {wl : Int32 × Int32} {sp : Int32 × Int32} {rs : Int32 × Int32} {vl : (Nat → Int32)} {rho : List zCel} (hr : rho.length = 75) (hT : T ≤ 40) (hp : p ≤ T) (o1 : ¬ zOk mt T p 1 4 = 0) (o2 : ¬ zOk mt T (p + 1) 0 3 = 0) (hc : c < 5) : zCf yX10_readHand cX10_readHand 3 (some .boolean) (d + 2) [.ref 75] (rho ++ encM th (mt, (nI T), (nI p)) mB (rc, (nI c), rg, (nI e), rd) pg mq bk kp sn ml mw pn wl sp rs vl) (some (.int (1))) (rho ++ encM th (mt, (nI T), (nI (p + 2))) mB (rc, (nI (c + 1)), (upd (upd rg (2 * c) (mt p - 48)) (2 * c + 1) (mt (p + 1) - 48)), (nI e), rd) pg mq bk kp sn ml mw pn wl sp rs vl) := by
  have hq : p + 1 ≤ T := by have := (zOk_y o1).1; omega
  refine zC.intro (by decide) (Nat.le_of_ble_eq_true rfl) rfl ?_
  refine zx_aload_n (pc := 0) dX10_readHand_0 rfl rfl ?_
  refine zx_iconst (pc := 1) (v := 1) dX10_readHand_1 (by decide) ?_
  refine zx_iconst (pc := 2) (v := 4) dX10_readHand_2 (by decide) ?_
  refine zx_fV1 (pc := 3) (r_fig_y (d := d) hr hT hp o1) cl_X10_75 (p75 hr) rfl dX10_readHand_3 rfl rfl (by omega) (Nat.le_of_ble_eq_true rfl) (Nat.le_refl _) (Nat.le_refl _) ?_
  refine st_1_3 (pc := 6) dX10_readHand_6 rfl ?_
  refine zx_iload_n (pc := 7) dX10_readHand_7 rfl rfl ?_
  refine zx_bipush (pc := 8) (v := -9) dX10_readHand_8 (by decide) ?_
  refine zx_icmp_ne (pc := 10) (tgt := 18) dX10_readHand_10 (by decide) (fun h10 => ?_) (fun h10 => by first | exact absurd h10 (zOk_9 o1 (by decide)) | exact absurd (zOk_9 o1 (by decide)) h10)
  refine zx_aload_n (pc := 18) dX10_readHand_18 rfl rfl ?_
  refine zx_iconst (pc := 19) (v := 0) dX10_readHand_19 (by decide) ?_
  refine zx_iconst (pc := 20) (v := 3) dX10_readHand_20 (by decide) ?_
  refine zx_fV1 (pc := 21) (r_fig_y (d := d) hr hT hq o2) cl_X10_75 (p75 hr) rfl dX10_readHand_21 rfl rfl (by omega) (Nat.le_of_ble_eq_true rfl) (Nat.le_refl _) (Nat.le_refl _) ?_
  refine st_2_3 (pc := 24) dX10_readHand_24 rfl ?_
  refine zx_iload_n (pc := 25) dX10_readHand_25 rfl rfl ?_
  refine zx_bipush (pc := 26) (v := -9) dX10_readHand_26 (by decide) ?_
  refine zx_icmp_ne (pc := 28) (tgt := 33) dX10_readHand_28 (by decide) (fun h28 => ?_) (fun h28 => by first | exact absurd h28 (zOk_9 o2 (by decide)) | exact absurd (zOk_9 o2 (by decide)) h28)
  refine zx_aload_n (pc := 33) dX10_readHand_33 rfl rfl ?_
  refine g75_12 (pc := 34) hr fl_X10_22 dX10_readHand_34 ?_
  refine zx_iconst (pc := 37) (v := 2) dX10_readHand_37 (by decide) ?_
  refine zx_aload_n (pc := 38) dX10_readHand_38 rfl rfl ?_
  refine g75_11 (pc := 39) hr fl_X10_79 dX10_readHand_39 ?_
  refine zx_imul (pc := 42) dX10_readHand_42 ?_
  refine zx_iload_n (pc := 43) dX10_readHand_43 rfl rfl ?_
  refine s80 (pc := 44) hr (zix_2 (by omega)) dX10_readHand_44 ?_
  refine zx_aload_n (pc := 45) dX10_readHand_45 rfl rfl ?_
  refine g75_12 (pc := 46) hr fl_X10_22 dX10_readHand_46 ?_
  refine zx_iconst (pc := 49) (v := 2) dX10_readHand_49 (by decide) ?_
  refine zx_aload_n (pc := 50) dX10_readHand_50 rfl rfl ?_
  refine g75_11 (pc := 51) hr fl_X10_79 dX10_readHand_51 ?_
  refine zx_imul (pc := 54) dX10_readHand_54 ?_
  refine zx_iconst (pc := 55) (v := 1) dX10_readHand_55 (by decide) ?_
  refine zx_iadd (pc := 56) dX10_readHand_56 ?_
  refine zx_iload_n (pc := 57) dX10_readHand_57 rfl rfl ?_
  refine s80 (pc := 58) hr (zix_21 (by omega)) dX10_readHand_58 ?_
  refine zx_aload_n (pc := 59) dX10_readHand_59 rfl rfl ?_
  refine zx_dup (pc := 60) dX10_readHand_60 rfl ?_
  refine g75_11 (pc := 61) hr fl_X10_79 dX10_readHand_61 ?_
  refine zx_iconst (pc := 64) (v := 1) dX10_readHand_64 (by decide) ?_
  refine zx_iadd (pc := 65) dX10_readHand_65 ?_
  refine u75_11 (pc := 66) hr fl_X10_79 dX10_readHand_66 ?_
  refine zx_iconst (pc := 69) (v := 1) dX10_readHand_69 (by decide) ?_
  exact zx_fi (pc := 70) dX10_readHand_70 rfl (by decide) (Nat.le_refl _) (Nat.le_refl _) rfl (by rw [nI_1])
set_option maxHeartbeats 4000000 in
theorem r_readField_a {d : Nat} {T p c e : Nat} {th : Int32} {mt : (Nat → Int32)} {mB : Int32 × Int32 × (Nat → Int32) × (Nat → Int32) × Int32 × (Nat → Int32)} {rc : Int32} {rg : (Nat → Int32)} {rd : (Nat → Int32)} {pg : (Nat → Int32)} {mq : (Nat → Int32)} {bk : (Nat → Int32) × Int32} {kp : (Nat → Int32) × (Nat → Int32)} {sn : Int32 × (Nat → Int32) × (Nat → Int32) × (Nat → Int32)} {ml : Int64} {mw : Int32 × Int32} {pn : Int32 × Int32 × Int32 × Int32} {wl : Int32 × Int32} {sp : Int32 × Int32} {rs : Int32 × Int32} {vl : (Nat → Int32)} {rho : List zCel} (hr : rho.length = 75) (hT : T ≤ 40) (hp : p ≤ T) (o1 : zOk mt T p 0 3 = 0) : zCf yX10_readField cX10_readField 3 (some .boolean) (d + 2) [.ref 75] (rho ++ encM th (mt, (nI T), (nI p)) mB (rc, (nI c), rg, (nI e), rd) pg mq bk kp sn ml mw pn wl sp rs vl) (some (.int (0))) (rho ++ encM th (mt, (nI T), (nI p)) mB (rc, (nI c), rg, (nI e), rd) pg mq bk kp sn ml mw pn wl sp rs vl) := by
  refine zC.intro (by decide) (Nat.le_of_ble_eq_true rfl) rfl ?_
  refine zx_aload_n (pc := 0) dX10_readField_0 rfl rfl ?_
  refine zx_iconst (pc := 1) (v := 0) dX10_readField_1 (by decide) ?_
  refine zx_iconst (pc := 2) (v := 3) dX10_readField_2 (by decide) ?_
  refine zx_fV1 (pc := 3) (r_fig_n (d := d) hr hT hp o1) cl_X10_75 (p75 hr) rfl dX10_readField_3 rfl rfl (by omega) (Nat.le_of_ble_eq_true rfl) (Nat.le_refl _) (Nat.le_refl _) ?_
  refine st_1_3 (pc := 6) dX10_readField_6 rfl ?_
  refine zx_iload_n (pc := 7) dX10_readField_7 rfl rfl ?_
  refine zx_bipush (pc := 8) (v := -9) dX10_readField_8 (by decide) ?_
  refine zx_icmp_ne (pc := 10) (tgt := 18) dX10_readField_10 (by decide) (fun h10 => by first | exact absurd h10 (show (-9 : Int32) = -9 from rfl) | exact absurd (show (-9 : Int32) = -9 from rfl) h10) (fun h10 => ?_)
  refine zx_bipush (pc := 13) (v := -9) dX10_readField_13 (by decide) ?_
  refine zx_goto (pc := 15) (tgt := 25) dX10_readField_15 (by decide) ?_
  refine st_2_3 (pc := 25) dX10_readField_25 rfl ?_
  refine zx_iload_n (pc := 26) dX10_readField_26 rfl rfl ?_
  refine zx_bipush (pc := 27) (v := -9) dX10_readField_27 (by decide) ?_
  refine zx_icmp_ne (pc := 29) (tgt := 34) dX10_readField_29 (by decide) (fun h29 => absurd h29 (by decide)) (fun _ => ?_)
  refine zx_iconst (pc := 32) (v := 0) dX10_readField_32 (by decide) ?_
  exact zx_fi (pc := 33) dX10_readField_33 rfl (by decide) (Nat.le_refl _) (Nat.le_refl _) rfl rfl
set_option maxHeartbeats 4000000 in
theorem r_readField_b {d : Nat} {T p c e : Nat} {th : Int32} {mt : (Nat → Int32)} {mB : Int32 × Int32 × (Nat → Int32) × (Nat → Int32) × Int32 × (Nat → Int32)} {rc : Int32} {rg : (Nat → Int32)} {rd : (Nat → Int32)} {pg : (Nat → Int32)} {mq : (Nat → Int32)} {bk : (Nat → Int32) × Int32} {kp : (Nat → Int32) × (Nat → Int32)} {sn : Int32 × (Nat → Int32) × (Nat → Int32) × (Nat → Int32)} {ml : Int64} {mw : Int32 × Int32} {pn : Int32 × Int32 × Int32 × Int32} {wl : Int32 × Int32} {sp : Int32 × Int32} {rs : Int32 × Int32} {vl : (Nat → Int32)} {rho : List zCel} (hr : rho.length = 75) (hT : T ≤ 40) (hp : p ≤ T) (o1 : ¬ zOk mt T p 0 3 = 0) (o2 : zOk mt T (p + 1) 0 9 = 0) : zCf yX10_readField cX10_readField 3 (some .boolean) (d + 2) [.ref 75] (rho ++ encM th (mt, (nI T), (nI p)) mB (rc, (nI c), rg, (nI e), rd) pg mq bk kp sn ml mw pn wl sp rs vl) (some (.int (0))) (rho ++ encM th (mt, (nI T), (nI (p + 1))) mB (rc, (nI c), rg, (nI e), rd) pg mq bk kp sn ml mw pn wl sp rs vl) := by
  have hq : p + 1 ≤ T := by have := (zOk_y o1).1; omega
  refine zC.intro (by decide) (Nat.le_of_ble_eq_true rfl) rfl ?_
  refine zx_aload_n (pc := 0) dX10_readField_0 rfl rfl ?_
  refine zx_iconst (pc := 1) (v := 0) dX10_readField_1 (by decide) ?_
  refine zx_iconst (pc := 2) (v := 3) dX10_readField_2 (by decide) ?_
  refine zx_fV1 (pc := 3) (r_fig_y (d := d) hr hT hp o1) cl_X10_75 (p75 hr) rfl dX10_readField_3 rfl rfl (by omega) (Nat.le_of_ble_eq_true rfl) (Nat.le_refl _) (Nat.le_refl _) ?_
  refine st_1_3 (pc := 6) dX10_readField_6 rfl ?_
  refine zx_iload_n (pc := 7) dX10_readField_7 rfl rfl ?_
  refine zx_bipush (pc := 8) (v := -9) dX10_readField_8 (by decide) ?_
  refine zx_icmp_ne (pc := 10) (tgt := 18) dX10_readField_10 (by decide) (fun h10 => ?_) (fun h10 => by first | exact absurd h10 (zOk_9 o1 (by decide)) | exact absurd (zOk_9 o1 (by decide)) h10)
  refine zx_aload_n (pc := 18) dX10_readField_18 rfl rfl ?_
  refine zx_iconst (pc := 19) (v := 0) dX10_readField_19 (by decide) ?_
  refine zx_bipush (pc := 20) (v := 9) dX10_readField_20 (by decide) ?_
  refine zx_fV1 (pc := 22) (r_fig_n (d := d) hr hT hq o2) cl_X10_75 (p75 hr) rfl dX10_readField_22 rfl rfl (by omega) (Nat.le_of_ble_eq_true rfl) (Nat.le_refl _) (Nat.le_refl _) ?_
  refine st_2_3 (pc := 25) dX10_readField_25 rfl ?_
  refine zx_iload_n (pc := 26) dX10_readField_26 rfl rfl ?_
  refine zx_bipush (pc := 27) (v := -9) dX10_readField_27 (by decide) ?_
  refine zx_icmp_ne (pc := 29) (tgt := 34) dX10_readField_29 (by decide) (fun h29 => by first | exact absurd h29 (show (-9 : Int32) = -9 from rfl) | exact absurd (show (-9 : Int32) = -9 from rfl) h29) (fun h29 => ?_)
  refine zx_iconst (pc := 32) (v := 0) dX10_readField_32 (by decide) ?_
  exact zx_fi (pc := 33) dX10_readField_33 rfl (by decide) (Nat.le_refl _) (Nat.le_refl _) rfl rfl
set_option maxHeartbeats 4000000 in
theorem r_readField_c {d : Nat} {T p c e : Nat} {th : Int32} {mt : (Nat → Int32)} {mB : Int32 × Int32 × (Nat → Int32) × (Nat → Int32) × Int32 × (Nat → Int32)} {rc : Int32} {rg : (Nat → Int32)} {rd : (Nat → Int32)} {pg : (Nat → Int32)} {mq : (Nat → Int32)} {bk : (Nat → Int32) × Int32} {kp : (Nat → Int32) × (Nat → Int32)} {sn : Int32 × (Nat → Int32) × (Nat → Int32) × (Nat → Int32)} {ml : Int64} {mw : Int32 × Int32} {pn : Int32 × Int32 × Int32 × Int32} {wl : Int32 × Int32} {sp : Int32 × Int32} {rs : Int32 × Int32} {vl : (Nat → Int32)} {rho : List zCel} (hr : rho.length = 75) (hT : T ≤ 40) (hp : p ≤ T) (o1 : ¬ zOk mt T p 0 3 = 0) (o2 : ¬ zOk mt T (p + 1) 0 9 = 0) (hc : e < 3) : zCf yX10_readField cX10_readField 3 (some .boolean) (d + 2) [.ref 75] (rho ++ encM th (mt, (nI T), (nI p)) mB (rc, (nI c), rg, (nI e), rd) pg mq bk kp sn ml mw pn wl sp rs vl) (some (.int (1))) (rho ++ encM th (mt, (nI T), (nI (p + 2))) mB (rc, (nI c), rg, (nI (e + 1)), (upd (upd rd (2 * e) (mt p - 48)) (2 * e + 1) (mt (p + 1) - 48))) pg mq bk kp sn ml mw pn wl sp rs vl) := by
  have hq : p + 1 ≤ T := by have := (zOk_y o1).1; omega
  refine zC.intro (by decide) (Nat.le_of_ble_eq_true rfl) rfl ?_
  refine zx_aload_n (pc := 0) dX10_readField_0 rfl rfl ?_
  refine zx_iconst (pc := 1) (v := 0) dX10_readField_1 (by decide) ?_
  refine zx_iconst (pc := 2) (v := 3) dX10_readField_2 (by decide) ?_
  refine zx_fV1 (pc := 3) (r_fig_y (d := d) hr hT hp o1) cl_X10_75 (p75 hr) rfl dX10_readField_3 rfl rfl (by omega) (Nat.le_of_ble_eq_true rfl) (Nat.le_refl _) (Nat.le_refl _) ?_
  refine st_1_3 (pc := 6) dX10_readField_6 rfl ?_
  refine zx_iload_n (pc := 7) dX10_readField_7 rfl rfl ?_
  refine zx_bipush (pc := 8) (v := -9) dX10_readField_8 (by decide) ?_
  refine zx_icmp_ne (pc := 10) (tgt := 18) dX10_readField_10 (by decide) (fun h10 => ?_) (fun h10 => by first | exact absurd h10 (zOk_9 o1 (by decide)) | exact absurd (zOk_9 o1 (by decide)) h10)
  refine zx_aload_n (pc := 18) dX10_readField_18 rfl rfl ?_
  refine zx_iconst (pc := 19) (v := 0) dX10_readField_19 (by decide) ?_
  refine zx_bipush (pc := 20) (v := 9) dX10_readField_20 (by decide) ?_
  refine zx_fV1 (pc := 22) (r_fig_y (d := d) hr hT hq o2) cl_X10_75 (p75 hr) rfl dX10_readField_22 rfl rfl (by omega) (Nat.le_of_ble_eq_true rfl) (Nat.le_refl _) (Nat.le_refl _) ?_
  refine st_2_3 (pc := 25) dX10_readField_25 rfl ?_
  refine zx_iload_n (pc := 26) dX10_readField_26 rfl rfl ?_
  refine zx_bipush (pc := 27) (v := -9) dX10_readField_27 (by decide) ?_
  refine zx_icmp_ne (pc := 29) (tgt := 34) dX10_readField_29 (by decide) (fun h29 => ?_) (fun h29 => by first | exact absurd h29 (zOk_9 o2 (by decide)) | exact absurd (zOk_9 o2 (by decide)) h29)
  refine zx_aload_n (pc := 34) dX10_readField_34 rfl rfl ?_
  refine g75_14 (pc := 35) hr fl_X10_25 dX10_readField_35 ?_
  refine zx_iconst (pc := 38) (v := 2) dX10_readField_38 (by decide) ?_
  refine zx_aload_n (pc := 39) dX10_readField_39 rfl rfl ?_
  refine g75_13 (pc := 40) hr fl_X10_82 dX10_readField_40 ?_
  refine zx_imul (pc := 43) dX10_readField_43 ?_
  refine zx_iload_n (pc := 44) dX10_readField_44 rfl rfl ?_
  refine s81 (pc := 45) hr (zix_2 (by omega)) dX10_readField_45 ?_
  refine zx_aload_n (pc := 46) dX10_readField_46 rfl rfl ?_
  refine g75_14 (pc := 47) hr fl_X10_25 dX10_readField_47 ?_
  refine zx_iconst (pc := 50) (v := 2) dX10_readField_50 (by decide) ?_
  refine zx_aload_n (pc := 51) dX10_readField_51 rfl rfl ?_
  refine g75_13 (pc := 52) hr fl_X10_82 dX10_readField_52 ?_
  refine zx_imul (pc := 55) dX10_readField_55 ?_
  refine zx_iconst (pc := 56) (v := 1) dX10_readField_56 (by decide) ?_
  refine zx_iadd (pc := 57) dX10_readField_57 ?_
  refine zx_iload_n (pc := 58) dX10_readField_58 rfl rfl ?_
  refine s81 (pc := 59) hr (zix_21 (by omega)) dX10_readField_59 ?_
  refine zx_aload_n (pc := 60) dX10_readField_60 rfl rfl ?_
  refine zx_dup (pc := 61) dX10_readField_61 rfl ?_
  refine g75_13 (pc := 62) hr fl_X10_82 dX10_readField_62 ?_
  refine zx_iconst (pc := 65) (v := 1) dX10_readField_65 (by decide) ?_
  refine zx_iadd (pc := 66) dX10_readField_66 ?_
  refine u75_13 (pc := 67) hr fl_X10_82 dX10_readField_67 ?_
  refine zx_iconst (pc := 70) (v := 1) dX10_readField_70 (by decide) ?_
  exact zx_fi (pc := 71) dX10_readField_71 rfl (by decide) (Nat.le_refl _) (Nat.le_refl _) rfl (by rw [nI_1])
set_option maxHeartbeats 4000000 in
theorem r_part_readHand_a {d : Nat} {T p c e : Nat} {th : Int32} {mt : (Nat → Int32)} {mB : Int32 × Int32 × (Nat → Int32) × (Nat → Int32) × Int32 × (Nat → Int32)} {rc : Int32} {rg : (Nat → Int32)} {rd : (Nat → Int32)} {pg : (Nat → Int32)} {mq : (Nat → Int32)} {bk : (Nat → Int32) × Int32} {kp : (Nat → Int32) × (Nat → Int32)} {sn : Int32 × (Nat → Int32) × (Nat → Int32) × (Nat → Int32)} {ml : Int64} {mw : Int32 × Int32} {pn : Int32 × Int32 × Int32 × Int32} {wl : Int32 × Int32} {sp : Int32 × Int32} {rs : Int32 × Int32} {vl : (Nat → Int32)} {rho : List zCel} (hr : rho.length = 75) (hT : T ≤ 40) (hp : p < T) (hl : mt p = 72) (hc : c < 5) (o1 : zOk mt T (p + 1) 1 4 = 0) : zCf yX10_readPart cX10_readPart 2 (some .boolean) (d + 3) [.ref 75] (rho ++ encM th (mt, (nI T), (nI p)) mB (rc, (nI c), rg, (nI e), rd) pg mq bk kp sn ml mw pn wl sp rs vl) (some (.int (0))) (rho ++ encM th (mt, (nI T), (nI (p + 1))) mB (rc, (nI c), rg, (nI e), rd) pg mq bk kp sn ml mw pn wl sp rs vl) := by
  refine zC.intro (by decide) (Nat.le_of_ble_eq_true rfl) rfl ?_
  refine zx_aload_n (pc := 0) dX10_readPart_0 rfl rfl ?_
  refine g75_1 (pc := 1) hr fl_X10_7 dX10_readPart_1 ?_
  refine zx_aload_n (pc := 4) dX10_readPart_4 rfl rfl ?_
  refine g75_3 (pc := 5) hr fl_X10_72 dX10_readPart_5 ?_
  refine a76 (pc := 8) hr (zix_n (by omega)) dX10_readPart_8 ?_
  refine st_1_2 (pc := 9) dX10_readPart_9 rfl ?_
  refine zx_aload_n (pc := 10) dX10_readPart_10 rfl rfl ?_
  refine zx_dup (pc := 11) dX10_readPart_11 rfl ?_
  refine g75_3 (pc := 12) hr fl_X10_72 dX10_readPart_12 ?_
  refine zx_iconst (pc := 15) (v := 1) dX10_readPart_15 (by decide) ?_
  refine zx_iadd (pc := 16) dX10_readPart_16 ?_
  rw [nI_1]
  refine u75_3 (pc := 17) hr fl_X10_72 dX10_readPart_17 ?_
  refine zx_iload_n (pc := 20) dX10_readPart_20 rfl rfl ?_
  refine zx_bipush (pc := 21) (v := 72) dX10_readPart_21 (by decide) ?_
  refine zx_icmp_ne (pc := 23) (tgt := 39) dX10_readPart_23 (by decide) (fun h23 => by first | exact absurd h23 hl | exact absurd hl h23) (fun h23 => ?_)
  refine zx_aload_n (pc := 26) dX10_readPart_26 rfl rfl ?_
  refine g75_11 (pc := 27) hr fl_X10_79 dX10_readPart_27 ?_
  refine zx_iconst (pc := 30) (v := 5) dX10_readPart_30 (by decide) ?_
  refine zx_icmp_ge (pc := 31) (tgt := 39) dX10_readPart_31 (by decide) (fun h31 => by first | exact absurd h31 (nI_ge (a := c) (b := 5) hc (by decide)) | exact absurd (nI_ge (a := c) (b := 5) hc (by decide)) h31) (fun h31 => ?_)
  refine zx_aload_n (pc := 34) dX10_readPart_34 rfl rfl ?_
  refine zx_fV1 (pc := 35) (r_readHand_a (d := d) hr hT (by omega) o1) cl_X10_85 (p75 hr) rfl dX10_readPart_35 rfl rfl (by omega) (Nat.le_of_ble_eq_true rfl) (Nat.le_refl _) (Nat.le_refl _) ?_
  exact zx_fi (pc := 38) dX10_readPart_38 rfl (by decide) (Nat.le_refl _) (Nat.le_refl _) rfl rfl
set_option maxHeartbeats 4000000 in
theorem r_part_readHand_b {d : Nat} {T p c e : Nat} {th : Int32} {mt : (Nat → Int32)} {mB : Int32 × Int32 × (Nat → Int32) × (Nat → Int32) × Int32 × (Nat → Int32)} {rc : Int32} {rg : (Nat → Int32)} {rd : (Nat → Int32)} {pg : (Nat → Int32)} {mq : (Nat → Int32)} {bk : (Nat → Int32) × Int32} {kp : (Nat → Int32) × (Nat → Int32)} {sn : Int32 × (Nat → Int32) × (Nat → Int32) × (Nat → Int32)} {ml : Int64} {mw : Int32 × Int32} {pn : Int32 × Int32 × Int32 × Int32} {wl : Int32 × Int32} {sp : Int32 × Int32} {rs : Int32 × Int32} {vl : (Nat → Int32)} {rho : List zCel} (hr : rho.length = 75) (hT : T ≤ 40) (hp : p < T) (hl : mt p = 72) (hc : c < 5) (o1 : ¬ zOk mt T (p + 1) 1 4 = 0) (o2 : zOk mt T (p + 1 + 1) 0 3 = 0) : zCf yX10_readPart cX10_readPart 2 (some .boolean) (d + 3) [.ref 75] (rho ++ encM th (mt, (nI T), (nI p)) mB (rc, (nI c), rg, (nI e), rd) pg mq bk kp sn ml mw pn wl sp rs vl) (some (.int (0))) (rho ++ encM th (mt, (nI T), (nI (p + 1 + 1))) mB (rc, (nI c), rg, (nI e), rd) pg mq bk kp sn ml mw pn wl sp rs vl) := by
  refine zC.intro (by decide) (Nat.le_of_ble_eq_true rfl) rfl ?_
  refine zx_aload_n (pc := 0) dX10_readPart_0 rfl rfl ?_
  refine g75_1 (pc := 1) hr fl_X10_7 dX10_readPart_1 ?_
  refine zx_aload_n (pc := 4) dX10_readPart_4 rfl rfl ?_
  refine g75_3 (pc := 5) hr fl_X10_72 dX10_readPart_5 ?_
  refine a76 (pc := 8) hr (zix_n (by omega)) dX10_readPart_8 ?_
  refine st_1_2 (pc := 9) dX10_readPart_9 rfl ?_
  refine zx_aload_n (pc := 10) dX10_readPart_10 rfl rfl ?_
  refine zx_dup (pc := 11) dX10_readPart_11 rfl ?_
  refine g75_3 (pc := 12) hr fl_X10_72 dX10_readPart_12 ?_
  refine zx_iconst (pc := 15) (v := 1) dX10_readPart_15 (by decide) ?_
  refine zx_iadd (pc := 16) dX10_readPart_16 ?_
  rw [nI_1]
  refine u75_3 (pc := 17) hr fl_X10_72 dX10_readPart_17 ?_
  refine zx_iload_n (pc := 20) dX10_readPart_20 rfl rfl ?_
  refine zx_bipush (pc := 21) (v := 72) dX10_readPart_21 (by decide) ?_
  refine zx_icmp_ne (pc := 23) (tgt := 39) dX10_readPart_23 (by decide) (fun h23 => by first | exact absurd h23 hl | exact absurd hl h23) (fun h23 => ?_)
  refine zx_aload_n (pc := 26) dX10_readPart_26 rfl rfl ?_
  refine g75_11 (pc := 27) hr fl_X10_79 dX10_readPart_27 ?_
  refine zx_iconst (pc := 30) (v := 5) dX10_readPart_30 (by decide) ?_
  refine zx_icmp_ge (pc := 31) (tgt := 39) dX10_readPart_31 (by decide) (fun h31 => by first | exact absurd h31 (nI_ge (a := c) (b := 5) hc (by decide)) | exact absurd (nI_ge (a := c) (b := 5) hc (by decide)) h31) (fun h31 => ?_)
  refine zx_aload_n (pc := 34) dX10_readPart_34 rfl rfl ?_
  refine zx_fV1 (pc := 35) (r_readHand_b (d := d) hr hT (by omega) o1 o2) cl_X10_85 (p75 hr) rfl dX10_readPart_35 rfl rfl (by omega) (Nat.le_of_ble_eq_true rfl) (Nat.le_refl _) (Nat.le_refl _) ?_
  exact zx_fi (pc := 38) dX10_readPart_38 rfl (by decide) (Nat.le_refl _) (Nat.le_refl _) rfl rfl
set_option maxHeartbeats 4000000 in
theorem r_part_readHand_c {d : Nat} {T p c e : Nat} {th : Int32} {mt : (Nat → Int32)} {mB : Int32 × Int32 × (Nat → Int32) × (Nat → Int32) × Int32 × (Nat → Int32)} {rc : Int32} {rg : (Nat → Int32)} {rd : (Nat → Int32)} {pg : (Nat → Int32)} {mq : (Nat → Int32)} {bk : (Nat → Int32) × Int32} {kp : (Nat → Int32) × (Nat → Int32)} {sn : Int32 × (Nat → Int32) × (Nat → Int32) × (Nat → Int32)} {ml : Int64} {mw : Int32 × Int32} {pn : Int32 × Int32 × Int32 × Int32} {wl : Int32 × Int32} {sp : Int32 × Int32} {rs : Int32 × Int32} {vl : (Nat → Int32)} {rho : List zCel} (hr : rho.length = 75) (hT : T ≤ 40) (hp : p < T) (hl : mt p = 72) (hc : c < 5) (o1 : ¬ zOk mt T (p + 1) 1 4 = 0) (o2 : ¬ zOk mt T (p + 1 + 1) 0 3 = 0) : zCf yX10_readPart cX10_readPart 2 (some .boolean) (d + 3) [.ref 75] (rho ++ encM th (mt, (nI T), (nI p)) mB (rc, (nI c), rg, (nI e), rd) pg mq bk kp sn ml mw pn wl sp rs vl) (some (.int (1))) (rho ++ encM th (mt, (nI T), (nI (p + 1 + 2))) mB (rc, (nI (c + 1)), (upd (upd rg (2 * c) (mt (p + 1) - 48)) (2 * c + 1) (mt (p + 1 + 1) - 48)), (nI e), rd) pg mq bk kp sn ml mw pn wl sp rs vl) := by
  refine zC.intro (by decide) (Nat.le_of_ble_eq_true rfl) rfl ?_
  refine zx_aload_n (pc := 0) dX10_readPart_0 rfl rfl ?_
  refine g75_1 (pc := 1) hr fl_X10_7 dX10_readPart_1 ?_
  refine zx_aload_n (pc := 4) dX10_readPart_4 rfl rfl ?_
  refine g75_3 (pc := 5) hr fl_X10_72 dX10_readPart_5 ?_
  refine a76 (pc := 8) hr (zix_n (by omega)) dX10_readPart_8 ?_
  refine st_1_2 (pc := 9) dX10_readPart_9 rfl ?_
  refine zx_aload_n (pc := 10) dX10_readPart_10 rfl rfl ?_
  refine zx_dup (pc := 11) dX10_readPart_11 rfl ?_
  refine g75_3 (pc := 12) hr fl_X10_72 dX10_readPart_12 ?_
  refine zx_iconst (pc := 15) (v := 1) dX10_readPart_15 (by decide) ?_
  refine zx_iadd (pc := 16) dX10_readPart_16 ?_
  rw [nI_1]
  refine u75_3 (pc := 17) hr fl_X10_72 dX10_readPart_17 ?_
  refine zx_iload_n (pc := 20) dX10_readPart_20 rfl rfl ?_
  refine zx_bipush (pc := 21) (v := 72) dX10_readPart_21 (by decide) ?_
  refine zx_icmp_ne (pc := 23) (tgt := 39) dX10_readPart_23 (by decide) (fun h23 => by first | exact absurd h23 hl | exact absurd hl h23) (fun h23 => ?_)
  refine zx_aload_n (pc := 26) dX10_readPart_26 rfl rfl ?_
  refine g75_11 (pc := 27) hr fl_X10_79 dX10_readPart_27 ?_
  refine zx_iconst (pc := 30) (v := 5) dX10_readPart_30 (by decide) ?_
  refine zx_icmp_ge (pc := 31) (tgt := 39) dX10_readPart_31 (by decide) (fun h31 => by first | exact absurd h31 (nI_ge (a := c) (b := 5) hc (by decide)) | exact absurd (nI_ge (a := c) (b := 5) hc (by decide)) h31) (fun h31 => ?_)
  refine zx_aload_n (pc := 34) dX10_readPart_34 rfl rfl ?_
  refine zx_fV1 (pc := 35) (r_readHand_c (d := d) hr hT (by omega) o1 o2 hc) cl_X10_85 (p75 hr) rfl dX10_readPart_35 rfl rfl (by omega) (Nat.le_of_ble_eq_true rfl) (Nat.le_refl _) (Nat.le_refl _) ?_
  exact zx_fi (pc := 38) dX10_readPart_38 rfl (by decide) (Nat.le_refl _) (Nat.le_refl _) rfl rfl
set_option maxHeartbeats 4000000 in
theorem r_part_readField_a {d : Nat} {T p c e : Nat} {th : Int32} {mt : (Nat → Int32)} {mB : Int32 × Int32 × (Nat → Int32) × (Nat → Int32) × Int32 × (Nat → Int32)} {rc : Int32} {rg : (Nat → Int32)} {rd : (Nat → Int32)} {pg : (Nat → Int32)} {mq : (Nat → Int32)} {bk : (Nat → Int32) × Int32} {kp : (Nat → Int32) × (Nat → Int32)} {sn : Int32 × (Nat → Int32) × (Nat → Int32) × (Nat → Int32)} {ml : Int64} {mw : Int32 × Int32} {pn : Int32 × Int32 × Int32 × Int32} {wl : Int32 × Int32} {sp : Int32 × Int32} {rs : Int32 × Int32} {vl : (Nat → Int32)} {rho : List zCel} (hr : rho.length = 75) (hT : T ≤ 40) (hp : p < T) (hl : mt p = 70) (hc : e < 3) (o1 : zOk mt T (p + 1) 0 3 = 0) : zCf yX10_readPart cX10_readPart 2 (some .boolean) (d + 3) [.ref 75] (rho ++ encM th (mt, (nI T), (nI p)) mB (rc, (nI c), rg, (nI e), rd) pg mq bk kp sn ml mw pn wl sp rs vl) (some (.int (0))) (rho ++ encM th (mt, (nI T), (nI (p + 1))) mB (rc, (nI c), rg, (nI e), rd) pg mq bk kp sn ml mw pn wl sp rs vl) := by
  refine zC.intro (by decide) (Nat.le_of_ble_eq_true rfl) rfl ?_
  refine zx_aload_n (pc := 0) dX10_readPart_0 rfl rfl ?_
  refine g75_1 (pc := 1) hr fl_X10_7 dX10_readPart_1 ?_
  refine zx_aload_n (pc := 4) dX10_readPart_4 rfl rfl ?_
  refine g75_3 (pc := 5) hr fl_X10_72 dX10_readPart_5 ?_
  refine a76 (pc := 8) hr (zix_n (by omega)) dX10_readPart_8 ?_
  refine st_1_2 (pc := 9) dX10_readPart_9 rfl ?_
  refine zx_aload_n (pc := 10) dX10_readPart_10 rfl rfl ?_
  refine zx_dup (pc := 11) dX10_readPart_11 rfl ?_
  refine g75_3 (pc := 12) hr fl_X10_72 dX10_readPart_12 ?_
  refine zx_iconst (pc := 15) (v := 1) dX10_readPart_15 (by decide) ?_
  refine zx_iadd (pc := 16) dX10_readPart_16 ?_
  rw [nI_1]
  refine u75_3 (pc := 17) hr fl_X10_72 dX10_readPart_17 ?_
  refine zx_iload_n (pc := 20) dX10_readPart_20 rfl rfl ?_
  refine zx_bipush (pc := 21) (v := 72) dX10_readPart_21 (by decide) ?_
  refine zx_icmp_ne (pc := 23) (tgt := 39) dX10_readPart_23 (by decide) (fun h23 => ?_) (fun h23 => by first | exact absurd h23 (show ¬ mt p = 72 by rw [hl]; decide) | exact absurd (show ¬ mt p = 72 by rw [hl]; decide) h23)
  refine zx_iload_n (pc := 39) dX10_readPart_39 rfl rfl ?_
  refine zx_bipush (pc := 40) (v := 70) dX10_readPart_40 (by decide) ?_
  refine zx_icmp_ne (pc := 42) (tgt := 58) dX10_readPart_42 (by decide) (fun h42 => by first | exact absurd h42 hl | exact absurd hl h42) (fun h42 => ?_)
  refine zx_aload_n (pc := 45) dX10_readPart_45 rfl rfl ?_
  refine g75_13 (pc := 46) hr fl_X10_82 dX10_readPart_46 ?_
  refine zx_iconst (pc := 49) (v := 3) dX10_readPart_49 (by decide) ?_
  refine zx_icmp_ge (pc := 50) (tgt := 58) dX10_readPart_50 (by decide) (fun h50 => by first | exact absurd h50 (nI_ge (a := e) (b := 3) hc (by decide)) | exact absurd (nI_ge (a := e) (b := 3) hc (by decide)) h50) (fun h50 => ?_)
  refine zx_aload_n (pc := 53) dX10_readPart_53 rfl rfl ?_
  refine zx_fV1 (pc := 54) (r_readField_a (d := d) hr hT (by omega) o1) cl_X10_88 (p75 hr) rfl dX10_readPart_54 rfl rfl (by omega) (Nat.le_of_ble_eq_true rfl) (Nat.le_refl _) (Nat.le_refl _) ?_
  exact zx_fi (pc := 57) dX10_readPart_57 rfl (by decide) (Nat.le_refl _) (Nat.le_refl _) rfl rfl
set_option maxHeartbeats 4000000 in
theorem r_part_readField_b {d : Nat} {T p c e : Nat} {th : Int32} {mt : (Nat → Int32)} {mB : Int32 × Int32 × (Nat → Int32) × (Nat → Int32) × Int32 × (Nat → Int32)} {rc : Int32} {rg : (Nat → Int32)} {rd : (Nat → Int32)} {pg : (Nat → Int32)} {mq : (Nat → Int32)} {bk : (Nat → Int32) × Int32} {kp : (Nat → Int32) × (Nat → Int32)} {sn : Int32 × (Nat → Int32) × (Nat → Int32) × (Nat → Int32)} {ml : Int64} {mw : Int32 × Int32} {pn : Int32 × Int32 × Int32 × Int32} {wl : Int32 × Int32} {sp : Int32 × Int32} {rs : Int32 × Int32} {vl : (Nat → Int32)} {rho : List zCel} (hr : rho.length = 75) (hT : T ≤ 40) (hp : p < T) (hl : mt p = 70) (hc : e < 3) (o1 : ¬ zOk mt T (p + 1) 0 3 = 0) (o2 : zOk mt T (p + 1 + 1) 0 9 = 0) : zCf yX10_readPart cX10_readPart 2 (some .boolean) (d + 3) [.ref 75] (rho ++ encM th (mt, (nI T), (nI p)) mB (rc, (nI c), rg, (nI e), rd) pg mq bk kp sn ml mw pn wl sp rs vl) (some (.int (0))) (rho ++ encM th (mt, (nI T), (nI (p + 1 + 1))) mB (rc, (nI c), rg, (nI e), rd) pg mq bk kp sn ml mw pn wl sp rs vl) := by
  refine zC.intro (by decide) (Nat.le_of_ble_eq_true rfl) rfl ?_
  refine zx_aload_n (pc := 0) dX10_readPart_0 rfl rfl ?_
  refine g75_1 (pc := 1) hr fl_X10_7 dX10_readPart_1 ?_
  refine zx_aload_n (pc := 4) dX10_readPart_4 rfl rfl ?_
  refine g75_3 (pc := 5) hr fl_X10_72 dX10_readPart_5 ?_
  refine a76 (pc := 8) hr (zix_n (by omega)) dX10_readPart_8 ?_
  refine st_1_2 (pc := 9) dX10_readPart_9 rfl ?_
  refine zx_aload_n (pc := 10) dX10_readPart_10 rfl rfl ?_
  refine zx_dup (pc := 11) dX10_readPart_11 rfl ?_
  refine g75_3 (pc := 12) hr fl_X10_72 dX10_readPart_12 ?_
  refine zx_iconst (pc := 15) (v := 1) dX10_readPart_15 (by decide) ?_
  refine zx_iadd (pc := 16) dX10_readPart_16 ?_
  rw [nI_1]
  refine u75_3 (pc := 17) hr fl_X10_72 dX10_readPart_17 ?_
  refine zx_iload_n (pc := 20) dX10_readPart_20 rfl rfl ?_
  refine zx_bipush (pc := 21) (v := 72) dX10_readPart_21 (by decide) ?_
  refine zx_icmp_ne (pc := 23) (tgt := 39) dX10_readPart_23 (by decide) (fun h23 => ?_) (fun h23 => by first | exact absurd h23 (show ¬ mt p = 72 by rw [hl]; decide) | exact absurd (show ¬ mt p = 72 by rw [hl]; decide) h23)
  refine zx_iload_n (pc := 39) dX10_readPart_39 rfl rfl ?_
  refine zx_bipush (pc := 40) (v := 70) dX10_readPart_40 (by decide) ?_
  refine zx_icmp_ne (pc := 42) (tgt := 58) dX10_readPart_42 (by decide) (fun h42 => by first | exact absurd h42 hl | exact absurd hl h42) (fun h42 => ?_)
  refine zx_aload_n (pc := 45) dX10_readPart_45 rfl rfl ?_
  refine g75_13 (pc := 46) hr fl_X10_82 dX10_readPart_46 ?_
  refine zx_iconst (pc := 49) (v := 3) dX10_readPart_49 (by decide) ?_
  refine zx_icmp_ge (pc := 50) (tgt := 58) dX10_readPart_50 (by decide) (fun h50 => by first | exact absurd h50 (nI_ge (a := e) (b := 3) hc (by decide)) | exact absurd (nI_ge (a := e) (b := 3) hc (by decide)) h50) (fun h50 => ?_)
  refine zx_aload_n (pc := 53) dX10_readPart_53 rfl rfl ?_
  refine zx_fV1 (pc := 54) (r_readField_b (d := d) hr hT (by omega) o1 o2) cl_X10_88 (p75 hr) rfl dX10_readPart_54 rfl rfl (by omega) (Nat.le_of_ble_eq_true rfl) (Nat.le_refl _) (Nat.le_refl _) ?_
  exact zx_fi (pc := 57) dX10_readPart_57 rfl (by decide) (Nat.le_refl _) (Nat.le_refl _) rfl rfl
set_option maxHeartbeats 4000000 in
theorem r_part_readField_c {d : Nat} {T p c e : Nat} {th : Int32} {mt : (Nat → Int32)} {mB : Int32 × Int32 × (Nat → Int32) × (Nat → Int32) × Int32 × (Nat → Int32)} {rc : Int32} {rg : (Nat → Int32)} {rd : (Nat → Int32)} {pg : (Nat → Int32)} {mq : (Nat → Int32)} {bk : (Nat → Int32) × Int32} {kp : (Nat → Int32) × (Nat → Int32)} {sn : Int32 × (Nat → Int32) × (Nat → Int32) × (Nat → Int32)} {ml : Int64} {mw : Int32 × Int32} {pn : Int32 × Int32 × Int32 × Int32} {wl : Int32 × Int32} {sp : Int32 × Int32} {rs : Int32 × Int32} {vl : (Nat → Int32)} {rho : List zCel} (hr : rho.length = 75) (hT : T ≤ 40) (hp : p < T) (hl : mt p = 70) (hc : e < 3) (o1 : ¬ zOk mt T (p + 1) 0 3 = 0) (o2 : ¬ zOk mt T (p + 1 + 1) 0 9 = 0) : zCf yX10_readPart cX10_readPart 2 (some .boolean) (d + 3) [.ref 75] (rho ++ encM th (mt, (nI T), (nI p)) mB (rc, (nI c), rg, (nI e), rd) pg mq bk kp sn ml mw pn wl sp rs vl) (some (.int (1))) (rho ++ encM th (mt, (nI T), (nI (p + 1 + 2))) mB (rc, (nI c), rg, (nI (e + 1)), (upd (upd rd (2 * e) (mt (p + 1) - 48)) (2 * e + 1) (mt (p + 1 + 1) - 48))) pg mq bk kp sn ml mw pn wl sp rs vl) := by
  refine zC.intro (by decide) (Nat.le_of_ble_eq_true rfl) rfl ?_
  refine zx_aload_n (pc := 0) dX10_readPart_0 rfl rfl ?_
  refine g75_1 (pc := 1) hr fl_X10_7 dX10_readPart_1 ?_
  refine zx_aload_n (pc := 4) dX10_readPart_4 rfl rfl ?_
  refine g75_3 (pc := 5) hr fl_X10_72 dX10_readPart_5 ?_
  refine a76 (pc := 8) hr (zix_n (by omega)) dX10_readPart_8 ?_
  refine st_1_2 (pc := 9) dX10_readPart_9 rfl ?_
  refine zx_aload_n (pc := 10) dX10_readPart_10 rfl rfl ?_
  refine zx_dup (pc := 11) dX10_readPart_11 rfl ?_
  refine g75_3 (pc := 12) hr fl_X10_72 dX10_readPart_12 ?_
  refine zx_iconst (pc := 15) (v := 1) dX10_readPart_15 (by decide) ?_
  refine zx_iadd (pc := 16) dX10_readPart_16 ?_
  rw [nI_1]
  refine u75_3 (pc := 17) hr fl_X10_72 dX10_readPart_17 ?_
  refine zx_iload_n (pc := 20) dX10_readPart_20 rfl rfl ?_
  refine zx_bipush (pc := 21) (v := 72) dX10_readPart_21 (by decide) ?_
  refine zx_icmp_ne (pc := 23) (tgt := 39) dX10_readPart_23 (by decide) (fun h23 => ?_) (fun h23 => by first | exact absurd h23 (show ¬ mt p = 72 by rw [hl]; decide) | exact absurd (show ¬ mt p = 72 by rw [hl]; decide) h23)
  refine zx_iload_n (pc := 39) dX10_readPart_39 rfl rfl ?_
  refine zx_bipush (pc := 40) (v := 70) dX10_readPart_40 (by decide) ?_
  refine zx_icmp_ne (pc := 42) (tgt := 58) dX10_readPart_42 (by decide) (fun h42 => by first | exact absurd h42 hl | exact absurd hl h42) (fun h42 => ?_)
  refine zx_aload_n (pc := 45) dX10_readPart_45 rfl rfl ?_
  refine g75_13 (pc := 46) hr fl_X10_82 dX10_readPart_46 ?_
  refine zx_iconst (pc := 49) (v := 3) dX10_readPart_49 (by decide) ?_
  refine zx_icmp_ge (pc := 50) (tgt := 58) dX10_readPart_50 (by decide) (fun h50 => by first | exact absurd h50 (nI_ge (a := e) (b := 3) hc (by decide)) | exact absurd (nI_ge (a := e) (b := 3) hc (by decide)) h50) (fun h50 => ?_)
  refine zx_aload_n (pc := 53) dX10_readPart_53 rfl rfl ?_
  refine zx_fV1 (pc := 54) (r_readField_c (d := d) hr hT (by omega) o1 o2 hc) cl_X10_88 (p75 hr) rfl dX10_readPart_54 rfl rfl (by omega) (Nat.le_of_ble_eq_true rfl) (Nat.le_refl _) (Nat.le_refl _) ?_
  exact zx_fi (pc := 57) dX10_readPart_57 rfl (by decide) (Nat.le_refl _) (Nat.le_refl _) rfl rfl
set_option maxHeartbeats 4000000 in
theorem r_part_o {d : Nat} {T p c e : Nat} {th : Int32} {mt : (Nat → Int32)} {mB : Int32 × Int32 × (Nat → Int32) × (Nat → Int32) × Int32 × (Nat → Int32)} {rc : Int32} {rg : (Nat → Int32)} {rd : (Nat → Int32)} {pg : (Nat → Int32)} {mq : (Nat → Int32)} {bk : (Nat → Int32) × Int32} {kp : (Nat → Int32) × (Nat → Int32)} {sn : Int32 × (Nat → Int32) × (Nat → Int32) × (Nat → Int32)} {ml : Int64} {mw : Int32 × Int32} {pn : Int32 × Int32 × Int32 × Int32} {wl : Int32 × Int32} {sp : Int32 × Int32} {rs : Int32 × Int32} {vl : (Nat → Int32)} {rho : List zCel} (hr : rho.length = 75) (hT : T ≤ 40) (hp : p < T) (h1 : mt p = 72 → (5 : Int32) ≤ nI c) (h2 : mt p = 70 → (3 : Int32) ≤ nI e) : zCf yX10_readPart cX10_readPart 2 (some .boolean) (d + 3) [.ref 75] (rho ++ encM th (mt, (nI T), (nI p)) mB (rc, (nI c), rg, (nI e), rd) pg mq bk kp sn ml mw pn wl sp rs vl) (some (.int (0))) (rho ++ encM th (mt, (nI T), (nI p)) mB (rc, (nI c), rg, (nI e), rd) pg mq bk kp sn ml mw pn wl sp rs vl) := by
  refine zC.intro (by decide) (Nat.le_of_ble_eq_true rfl) rfl ?_
  refine zx_aload_n (pc := 0) dX10_readPart_0 rfl rfl ?_
  refine g75_1 (pc := 1) hr fl_X10_7 dX10_readPart_1 ?_
  refine zx_aload_n (pc := 4) dX10_readPart_4 rfl rfl ?_
  refine g75_3 (pc := 5) hr fl_X10_72 dX10_readPart_5 ?_
  refine a76 (pc := 8) hr (zix_n (by omega)) dX10_readPart_8 ?_
  refine st_1_2 (pc := 9) dX10_readPart_9 rfl ?_
  refine zx_aload_n (pc := 10) dX10_readPart_10 rfl rfl ?_
  refine zx_dup (pc := 11) dX10_readPart_11 rfl ?_
  refine g75_3 (pc := 12) hr fl_X10_72 dX10_readPart_12 ?_
  refine zx_iconst (pc := 15) (v := 1) dX10_readPart_15 (by decide) ?_
  refine zx_iadd (pc := 16) dX10_readPart_16 ?_
  rw [nI_1]
  refine u75_3 (pc := 17) hr fl_X10_72 dX10_readPart_17 ?_
  refine zx_iload_n (pc := 20) dX10_readPart_20 rfl rfl ?_
  refine zx_bipush (pc := 21) (v := 72) dX10_readPart_21 (by decide) ?_
  refine zx_icmp_ne (pc := 23) (tgt := 39) dX10_readPart_23 (by decide) (fun h23 => ?_) (fun h23 => ?_)
  · refine zx_iload_n (pc := 39) dX10_readPart_39 rfl rfl ?_
    refine zx_bipush (pc := 40) (v := 70) dX10_readPart_40 (by decide) ?_
    refine zx_icmp_ne (pc := 42) (tgt := 58) dX10_readPart_42 (by decide) (fun h42 => ?_) (fun h42 => ?_)
    · refine zx_aload_n (pc := 58) dX10_readPart_58 rfl rfl ?_
      refine zx_dup (pc := 59) dX10_readPart_59 rfl ?_
      refine g75_3 (pc := 60) hr fl_X10_72 dX10_readPart_60 ?_
      refine zx_iconst (pc := 63) (v := 1) dX10_readPart_63 (by decide) ?_
      refine zx_isub (pc := 64) dX10_readPart_64 ?_
      rw [nI_pred]
      refine u75_3 (pc := 65) hr fl_X10_72 dX10_readPart_65 ?_
      refine zx_iconst (pc := 68) (v := 0) dX10_readPart_68 (by decide) ?_
      exact zx_fi (pc := 69) dX10_readPart_69 rfl (by decide) (Nat.le_refl _) (Nat.le_refl _) rfl rfl
    · refine zx_aload_n (pc := 45) dX10_readPart_45 rfl rfl ?_
      refine g75_13 (pc := 46) hr fl_X10_82 dX10_readPart_46 ?_
      refine zx_iconst (pc := 49) (v := 3) dX10_readPart_49 (by decide) ?_
      refine zx_icmp_ge (pc := 50) (tgt := 58) dX10_readPart_50 (by decide) (fun h50 => ?_) (fun h50 => ?_)
      · refine zx_aload_n (pc := 58) dX10_readPart_58 rfl rfl ?_
        refine zx_dup (pc := 59) dX10_readPart_59 rfl ?_
        refine g75_3 (pc := 60) hr fl_X10_72 dX10_readPart_60 ?_
        refine zx_iconst (pc := 63) (v := 1) dX10_readPart_63 (by decide) ?_
        refine zx_isub (pc := 64) dX10_readPart_64 ?_
        rw [nI_pred]
        refine u75_3 (pc := 65) hr fl_X10_72 dX10_readPart_65 ?_
        refine zx_iconst (pc := 68) (v := 0) dX10_readPart_68 (by decide) ?_
        exact zx_fi (pc := 69) dX10_readPart_69 rfl (by decide) (Nat.le_refl _) (Nat.le_refl _) rfl rfl
      · exact absurd (h2 h42) h50
  · refine zx_aload_n (pc := 26) dX10_readPart_26 rfl rfl ?_
    refine g75_11 (pc := 27) hr fl_X10_79 dX10_readPart_27 ?_
    refine zx_iconst (pc := 30) (v := 5) dX10_readPart_30 (by decide) ?_
    refine zx_icmp_ge (pc := 31) (tgt := 39) dX10_readPart_31 (by decide) (fun h31 => ?_) (fun h31 => ?_)
    · refine zx_iload_n (pc := 39) dX10_readPart_39 rfl rfl ?_
      refine zx_bipush (pc := 40) (v := 70) dX10_readPart_40 (by decide) ?_
      refine zx_icmp_ne (pc := 42) (tgt := 58) dX10_readPart_42 (by decide) (fun h42 => ?_) (fun h42 => ?_)
      · refine zx_aload_n (pc := 58) dX10_readPart_58 rfl rfl ?_
        refine zx_dup (pc := 59) dX10_readPart_59 rfl ?_
        refine g75_3 (pc := 60) hr fl_X10_72 dX10_readPart_60 ?_
        refine zx_iconst (pc := 63) (v := 1) dX10_readPart_63 (by decide) ?_
        refine zx_isub (pc := 64) dX10_readPart_64 ?_
        rw [nI_pred]
        refine u75_3 (pc := 65) hr fl_X10_72 dX10_readPart_65 ?_
        refine zx_iconst (pc := 68) (v := 0) dX10_readPart_68 (by decide) ?_
        exact zx_fi (pc := 69) dX10_readPart_69 rfl (by decide) (Nat.le_refl _) (Nat.le_refl _) rfl rfl
      · refine zx_aload_n (pc := 45) dX10_readPart_45 rfl rfl ?_
        refine g75_13 (pc := 46) hr fl_X10_82 dX10_readPart_46 ?_
        refine zx_iconst (pc := 49) (v := 3) dX10_readPart_49 (by decide) ?_
        refine zx_icmp_ge (pc := 50) (tgt := 58) dX10_readPart_50 (by decide) (fun h50 => ?_) (fun h50 => ?_)
        · refine zx_aload_n (pc := 58) dX10_readPart_58 rfl rfl ?_
          refine zx_dup (pc := 59) dX10_readPart_59 rfl ?_
          refine g75_3 (pc := 60) hr fl_X10_72 dX10_readPart_60 ?_
          refine zx_iconst (pc := 63) (v := 1) dX10_readPart_63 (by decide) ?_
          refine zx_isub (pc := 64) dX10_readPart_64 ?_
          rw [nI_pred]
          refine u75_3 (pc := 65) hr fl_X10_72 dX10_readPart_65 ?_
          refine zx_iconst (pc := 68) (v := 0) dX10_readPart_68 (by decide) ?_
          exact zx_fi (pc := 69) dX10_readPart_69 rfl (by decide) (Nat.le_refl _) (Nat.le_refl _) rfl rfl
        · exact absurd (h2 h42) h50
    · exact absurd (h1 h23) h31
