theorem sw_X10_about_6 {scr : Option (Nat × (Nat → Int32))} {d n0 mc ms kc ks : Nat} {Q : Option Value → List zCel → Prop} {L : List (Option Value)} {st : List Value} {sg : List zCel} {x : Int32} (k0 : x = 0 → zX RX10 cX10_about 2 (some .int) "about" scr d n0 mc ms kc ks Q 76 L st sg) (k1 : x = 1 → zX RX10 cX10_about 2 (some .int) "about" scr d n0 mc ms kc ks Q 81 L st sg) (k2 : x = 2 → zX RX10 cX10_about 2 (some .int) "about" scr d n0 mc ms kc ks Q 86 L st sg) (k3 : x = 3 → zX RX10 cX10_about 2 (some .int) "about" scr d n0 mc ms kc ks Q 91 L st sg) (k4 : x = 4 → zX RX10 cX10_about 2 (some .int) "about" scr d n0 mc ms kc ks Q 99 L st sg) (k5 : x = 5 → zX RX10 cX10_about 2 (some .int) "about" scr d n0 mc ms kc ks Q 107 L st sg) (k6 : x = 6 → zX RX10 cX10_about 2 (some .int) "about" scr d n0 mc ms kc ks Q 115 L st sg) (k7 : x = 7 → zX RX10 cX10_about 2 (some .int) "about" scr d n0 mc ms kc ks Q 123 L st sg) (k8 : x = 8 → zX RX10 cX10_about 2 (some .int) "about" scr d n0 mc ms kc ks Q 131 L st sg) (k9 : x = 9 → zX RX10 cX10_about 2 (some .int) "about" scr d n0 mc ms kc ks Q 139 L st sg) (k10 : x = 10 → zX RX10 cX10_about 2 (some .int) "about" scr d n0 mc ms kc ks Q 147 L st sg) (k11 : x = 11 → zX RX10 cX10_about 2 (some .int) "about" scr d n0 mc ms kc ks Q 155 L st sg) (k12 : x = 12 → zX RX10 cX10_about 2 (some .int) "about" scr d n0 mc ms kc ks Q 160 L st sg) (k13 : x = 13 → zX RX10 cX10_about 2 (some .int) "about" scr d n0 mc ms kc ks Q 165 L st sg) (kd : ¬ x = 0 → ¬ x = 1 → ¬ x = 2 → ¬ x = 3 → ¬ x = 4 → ¬ x = 5 → ¬ x = 6 → ¬ x = 7 → ¬ x = 8 → ¬ x = 9 → ¬ x = 10 → ¬ x = 11 → ¬ x = 12 → ¬ x = 13 → zX RX10 cX10_about 2 (some .int) "about" scr d n0 mc ms kc ks Q 170 L st sg) : zX RX10 cX10_about 2 (some .int) "about" scr d n0 mc ms kc ks Q 6 L (.int x :: st) sg := by
  by_cases c0 : x = 0
  · exact zx_tab (k := 0) (off := 70) (tgt := 76) dX10_about_6 (zeq c0 (by decide)) (by decide) (by decide) (by decide) (k0 c0)
  by_cases c1 : x = 1
  · exact zx_tab (k := 1) (off := 75) (tgt := 81) dX10_about_6 (zeq c1 (by decide)) (by decide) (by decide) (by decide) (k1 c1)
  by_cases c2 : x = 2
  · exact zx_tab (k := 2) (off := 80) (tgt := 86) dX10_about_6 (zeq c2 (by decide)) (by decide) (by decide) (by decide) (k2 c2)
  by_cases c3 : x = 3
  · exact zx_tab (k := 3) (off := 85) (tgt := 91) dX10_about_6 (zeq c3 (by decide)) (by decide) (by decide) (by decide) (k3 c3)
  by_cases c4 : x = 4
  · exact zx_tab (k := 4) (off := 93) (tgt := 99) dX10_about_6 (zeq c4 (by decide)) (by decide) (by decide) (by decide) (k4 c4)
  by_cases c5 : x = 5
  · exact zx_tab (k := 5) (off := 101) (tgt := 107) dX10_about_6 (zeq c5 (by decide)) (by decide) (by decide) (by decide) (k5 c5)
  by_cases c6 : x = 6
  · exact zx_tab (k := 6) (off := 109) (tgt := 115) dX10_about_6 (zeq c6 (by decide)) (by decide) (by decide) (by decide) (k6 c6)
  by_cases c7 : x = 7
  · exact zx_tab (k := 7) (off := 117) (tgt := 123) dX10_about_6 (zeq c7 (by decide)) (by decide) (by decide) (by decide) (k7 c7)
  by_cases c8 : x = 8
  · exact zx_tab (k := 8) (off := 125) (tgt := 131) dX10_about_6 (zeq c8 (by decide)) (by decide) (by decide) (by decide) (k8 c8)
  by_cases c9 : x = 9
  · exact zx_tab (k := 9) (off := 133) (tgt := 139) dX10_about_6 (zeq c9 (by decide)) (by decide) (by decide) (by decide) (k9 c9)
  by_cases c10 : x = 10
  · exact zx_tab (k := 10) (off := 141) (tgt := 147) dX10_about_6 (zeq c10 (by decide)) (by decide) (by decide) (by decide) (k10 c10)
  by_cases c11 : x = 11
  · exact zx_tab (k := 11) (off := 149) (tgt := 155) dX10_about_6 (zeq c11 (by decide)) (by decide) (by decide) (by decide) (k11 c11)
  by_cases c12 : x = 12
  · exact zx_tab (k := 12) (off := 154) (tgt := 160) dX10_about_6 (zeq c12 (by decide)) (by decide) (by decide) (by decide) (k12 c12)
  by_cases c13 : x = 13
  · exact zx_tab (k := 13) (off := 159) (tgt := 165) dX10_about_6 (zeq c13 (by decide)) (by decide) (by decide) (by decide) (k13 c13)
  have e9 : x.toInt < 0 ∨ 13 < x.toInt := by
    have e0 := zne (k := 0) c0 (by decide)
    have e1 := zne (k := 1) c1 (by decide)
    have e2 := zne (k := 2) c2 (by decide)
    have e3 := zne (k := 3) c3 (by decide)
    have e4 := zne (k := 4) c4 (by decide)
    have e5 := zne (k := 5) c5 (by decide)
    have e6 := zne (k := 6) c6 (by decide)
    have e7 := zne (k := 7) c7 (by decide)
    have e8 := zne (k := 8) c8 (by decide)
    have e9 := zne (k := 9) c9 (by decide)
    have e10 := zne (k := 10) c10 (by decide)
    have e11 := zne (k := 11) c11 (by decide)
    have e12 := zne (k := 12) c12 (by decide)
    have e13 := zne (k := 13) c13 (by decide)
    omega
  exact zx_tableOut (tgt := 170) dX10_about_6 e9 (by decide) (kd c0 c1 c2 c3 c4 c5 c6 c7 c8 c9 c10 c11 c12 c13)
set_option maxHeartbeats 4000000 in
theorem m_about {d : Nat} {x : Int32} {th : Int32} {mt : (Nat → Int32)} {mz : Int32} {mp : Int32} {mo : Int32} {mh : Int32} {mg : (Nat → Int32)} {mk : (Nat → Int32)} {mf : Int32} {md : (Nat → Int32)} {mR : Int32 × Int32 × (Nat → Int32) × Int32 × (Nat → Int32)} {pg : (Nat → Int32)} {mq : (Nat → Int32)} {bb : (Nat → Int32)} {ba : Int32} {kp : (Nat → Int32) × (Nat → Int32)} {nz : Int32} {nr : (Nat → Int32)} {no : (Nat → Int32)} {nh : (Nat → Int32)} {ml : Int64} {mw : Int32 × Int32} {pn : Int32 × Int32 × Int32 × Int32} {wl : Int32 × Int32} {sp : Int32 × Int32} {rs : Int32 × Int32} {vl : (Nat → Int32)} {rho : List zCel} (hr : rho.length = 75)  : zCf yX10_about cX10_about 2 (some .int) d [.ref 75, .int x] (rho ++ encM th (mt, mz, mp) (mo, mh, mg, mk, mf, md) mR pg mq (bb, ba) kp (nz, nr, no, nh) ml mw pn wl sp rs vl) (some (.int (zAb x mh mf mo (pg 8) (pg 9) (pg 10) (pg 11) (pg 12) (pg 13) (pg 14) (pg 15) ba nz mz))) (rho ++ encM 0 (mt, mz, mp) (mo, mh, mg, mk, mf, md) mR pg mq (bb, ba) kp (nz, nr, no, nh) ml mw pn wl sp rs vl) := by
  refine zC.intro (by decide) (Nat.le_of_ble_eq_true rfl) rfl ?_
  refine zx_aload_n (pc := 0) dX10_about_0 rfl rfl ?_
  refine zx_iconst (pc := 1) (v := 0) dX10_about_1 (by decide) ?_
  refine u75_0 (pc := 2) hr fl_X10_56 dX10_about_2 ?_
  refine zx_iload_n (pc := 5) dX10_about_5 rfl rfl ?_
  refine sw_X10_about_6 (fun h6_0 => ?_) (fun h6_1 => ?_) (fun h6_2 => ?_) (fun h6_3 => ?_) (fun h6_4 => ?_) (fun h6_5 => ?_) (fun h6_6 => ?_) (fun h6_7 => ?_) (fun h6_8 => ?_) (fun h6_9 => ?_) (fun h6_10 => ?_) (fun h6_11 => ?_) (fun h6_12 => ?_) (fun h6_13 => ?_) (fun h6_0 h6_1 h6_2 h6_3 h6_4 h6_5 h6_6 h6_7 h6_8 h6_9 h6_10 h6_11 h6_12 h6_13 => ?_)
  · refine zx_aload_n (pc := 76) dX10_about_76 rfl rfl ?_
    refine g75_5 (pc := 77) hr fl_X10_60 dX10_about_77 ?_
    exact zx_fi (pc := 80) dX10_about_80 rfl rfl (Nat.le_refl _) (Nat.le_refl _) (by first | (simp only [zAb, h6_0, reduceIte, not_true_eq_false, not_false_eq_true]; done) | (simp [zAb, h6_0]; done)) rfl
  · refine zx_aload_n (pc := 81) dX10_about_81 rfl rfl ?_
    refine g75_8 (pc := 82) hr fl_X10_103 dX10_about_82 ?_
    exact zx_fi (pc := 85) dX10_about_85 rfl rfl (Nat.le_refl _) (Nat.le_refl _) (by first | (simp only [zAb, h6_1, reduceIte, not_true_eq_false, not_false_eq_true]; done) | (simp [zAb, h6_1]; done)) rfl
  · refine zx_aload_n (pc := 86) dX10_about_86 rfl rfl ?_
    refine g75_4 (pc := 87) hr fl_X10_100 dX10_about_87 ?_
    exact zx_fi (pc := 90) dX10_about_90 rfl rfl (Nat.le_refl _) (Nat.le_refl _) (by first | (simp only [zAb, h6_2, reduceIte, not_true_eq_false, not_false_eq_true]; done) | (simp [zAb, h6_2]; done)) rfl
  · refine zx_aload_n (pc := 91) dX10_about_91 rfl rfl ?_
    refine g75_15 (pc := 92) hr fl_X10_28 dX10_about_92 ?_
    refine zx_bipush (pc := 95) (v := 8) dX10_about_95 (by decide) ?_
    refine a82 (pc := 97) hr (zix_k (j := 8) (by decide) (by decide)) dX10_about_97 ?_
    exact zx_fi (pc := 98) dX10_about_98 rfl rfl (Nat.le_refl _) (Nat.le_refl _) (by first | (simp only [zAb, h6_3, reduceIte, not_true_eq_false, not_false_eq_true]; done) | (simp [zAb, h6_3]; done)) rfl
  · refine zx_aload_n (pc := 99) dX10_about_99 rfl rfl ?_
    refine g75_15 (pc := 100) hr fl_X10_28 dX10_about_100 ?_
    refine zx_bipush (pc := 103) (v := 9) dX10_about_103 (by decide) ?_
    refine a82 (pc := 105) hr (zix_k (j := 9) (by decide) (by decide)) dX10_about_105 ?_
    exact zx_fi (pc := 106) dX10_about_106 rfl rfl (Nat.le_refl _) (Nat.le_refl _) (by first | (simp only [zAb, h6_4, reduceIte, not_true_eq_false, not_false_eq_true]; done) | (simp [zAb, h6_4]; done)) rfl
  · refine zx_aload_n (pc := 107) dX10_about_107 rfl rfl ?_
    refine g75_15 (pc := 108) hr fl_X10_28 dX10_about_108 ?_
    refine zx_bipush (pc := 111) (v := 10) dX10_about_111 (by decide) ?_
    refine a82 (pc := 113) hr (zix_k (j := 10) (by decide) (by decide)) dX10_about_113 ?_
    exact zx_fi (pc := 114) dX10_about_114 rfl rfl (Nat.le_refl _) (Nat.le_refl _) (by first | (simp only [zAb, h6_5, reduceIte, not_true_eq_false, not_false_eq_true]; done) | (simp [zAb, h6_5]; done)) rfl
  · refine zx_aload_n (pc := 115) dX10_about_115 rfl rfl ?_
    refine g75_15 (pc := 116) hr fl_X10_28 dX10_about_116 ?_
    refine zx_bipush (pc := 119) (v := 11) dX10_about_119 (by decide) ?_
    refine a82 (pc := 121) hr (zix_k (j := 11) (by decide) (by decide)) dX10_about_121 ?_
    exact zx_fi (pc := 122) dX10_about_122 rfl rfl (Nat.le_refl _) (Nat.le_refl _) (by first | (simp only [zAb, h6_6, reduceIte, not_true_eq_false, not_false_eq_true]; done) | (simp [zAb, h6_6]; done)) rfl
  · refine zx_aload_n (pc := 123) dX10_about_123 rfl rfl ?_
    refine g75_15 (pc := 124) hr fl_X10_28 dX10_about_124 ?_
    refine zx_bipush (pc := 127) (v := 12) dX10_about_127 (by decide) ?_
    refine a82 (pc := 129) hr (zix_k (j := 12) (by decide) (by decide)) dX10_about_129 ?_
    exact zx_fi (pc := 130) dX10_about_130 rfl rfl (Nat.le_refl _) (Nat.le_refl _) (by first | (simp only [zAb, h6_7, reduceIte, not_true_eq_false, not_false_eq_true]; done) | (simp [zAb, h6_7]; done)) rfl
  · refine zx_aload_n (pc := 131) dX10_about_131 rfl rfl ?_
    refine g75_15 (pc := 132) hr fl_X10_28 dX10_about_132 ?_
    refine zx_bipush (pc := 135) (v := 13) dX10_about_135 (by decide) ?_
    refine a82 (pc := 137) hr (zix_k (j := 13) (by decide) (by decide)) dX10_about_137 ?_
    exact zx_fi (pc := 138) dX10_about_138 rfl rfl (Nat.le_refl _) (Nat.le_refl _) (by first | (simp only [zAb, h6_8, reduceIte, not_true_eq_false, not_false_eq_true]; done) | (simp [zAb, h6_8]; done)) rfl
  · refine zx_aload_n (pc := 139) dX10_about_139 rfl rfl ?_
    refine g75_15 (pc := 140) hr fl_X10_28 dX10_about_140 ?_
    refine zx_bipush (pc := 143) (v := 14) dX10_about_143 (by decide) ?_
    refine a82 (pc := 145) hr (zix_k (j := 14) (by decide) (by decide)) dX10_about_145 ?_
    exact zx_fi (pc := 146) dX10_about_146 rfl rfl (Nat.le_refl _) (Nat.le_refl _) (by first | (simp only [zAb, h6_9, reduceIte, not_true_eq_false, not_false_eq_true]; done) | (simp [zAb, h6_9]; done)) rfl
  · refine zx_aload_n (pc := 147) dX10_about_147 rfl rfl ?_
    refine g75_15 (pc := 148) hr fl_X10_28 dX10_about_148 ?_
    refine zx_bipush (pc := 151) (v := 15) dX10_about_151 (by decide) ?_
    refine a82 (pc := 153) hr (zix_k (j := 15) (by decide) (by decide)) dX10_about_153 ?_
    exact zx_fi (pc := 154) dX10_about_154 rfl rfl (Nat.le_refl _) (Nat.le_refl _) (by first | (simp only [zAb, h6_10, reduceIte, not_true_eq_false, not_false_eq_true]; done) | (simp [zAb, h6_10]; done)) rfl
  · refine zx_aload_n (pc := 155) dX10_about_155 rfl rfl ?_
    refine g75_18 (pc := 156) hr fl_X10_106 dX10_about_156 ?_
    exact zx_fi (pc := 159) dX10_about_159 rfl rfl (Nat.le_refl _) (Nat.le_refl _) (by first | (simp only [zAb, h6_11, reduceIte, not_true_eq_false, not_false_eq_true]; done) | (simp [zAb, h6_11]; done)) rfl
  · refine zx_aload_n (pc := 160) dX10_about_160 rfl rfl ?_
    refine g75_21 (pc := 161) hr fl_X10_126 dX10_about_161 ?_
    exact zx_fi (pc := 164) dX10_about_164 rfl rfl (Nat.le_refl _) (Nat.le_refl _) (by first | (simp only [zAb, h6_12, reduceIte, not_true_eq_false, not_false_eq_true]; done) | (simp [zAb, h6_12]; done)) rfl
  · refine zx_aload_n (pc := 165) dX10_about_165 rfl rfl ?_
    refine g75_2 (pc := 166) hr fl_X10_69 dX10_about_166 ?_
    exact zx_fi (pc := 169) dX10_about_169 rfl rfl (Nat.le_refl _) (Nat.le_refl _) (by first | (simp only [zAb, h6_13, reduceIte, not_true_eq_false, not_false_eq_true]; done) | (simp [zAb, h6_13]; done)) rfl
  · refine zx_bipush (pc := 170) (v := -2) dX10_about_170 (by decide) ?_
    exact zx_fi (pc := 172) dX10_about_172 rfl rfl (Nat.le_refl _) (Nat.le_refl _) (by first | (simp only [zAb, h6_0, h6_1, h6_2, h6_3, h6_4, h6_5, h6_6, h6_7, h6_8, h6_9, h6_10, h6_11, h6_12, h6_13, reduceIte, not_true_eq_false, not_false_eq_true]; done) | (simp [zAb, h6_0, h6_1, h6_2, h6_3, h6_4, h6_5, h6_6, h6_7, h6_8, h6_9, h6_10, h6_11, h6_12, h6_13]; done)) rfl
set_option maxHeartbeats 4000000 in
theorem m_hand_un {d : Nat} {H F : Nat} {x y : Int32} {th : Int32} {mA : (Nat → Int32) × Int32 × Int32} {mo : Int32} {mg : (Nat → Int32)} {mk : (Nat → Int32)} {md : (Nat → Int32)} {mR : Int32 × Int32 × (Nat → Int32) × Int32 × (Nat → Int32)} {pg : (Nat → Int32)} {mq : (Nat → Int32)} {bk : (Nat → Int32) × Int32} {kp : (Nat → Int32) × (Nat → Int32)} {sn : Int32 × (Nat → Int32) × (Nat → Int32) × (Nat → Int32)} {ml : Int64} {mw : Int32 × Int32} {pn : Int32 × Int32 × Int32 × Int32} {wl : Int32 × Int32} {sp : Int32 × Int32} {rs : Int32 × Int32} {vl : (Nat → Int32)} {rho : List zCel} (hr : rho.length = 75) (hH : H ≤ 5) (hu : zHas (nI H) x = 0) : zCf yX10_hand cX10_hand 3 (some .int) (d + 2) [.ref 75, .int x, .int y] (rho ++ encM th mA (mo, (nI H), mg, mk, (nI F), md) mR pg mq bk kp sn ml mw pn wl sp rs vl) (some (.int (-1))) (rho ++ encM 0 mA (mo, (nI H), mg, mk, (nI F), md) mR pg mq bk kp sn ml mw pn wl sp rs vl) := by
  refine zC.intro (by decide) (Nat.le_of_ble_eq_true rfl) rfl ?_
  refine zx_aload_n (pc := 0) dX10_hand_0 rfl rfl ?_
  refine zx_iconst (pc := 1) (v := 0) dX10_hand_1 (by decide) ?_
  refine u75_0 (pc := 2) hr fl_X10_56 dX10_hand_2 ?_
  refine zx_aload_n (pc := 5) dX10_hand_5 rfl rfl ?_
  refine zx_iload_n (pc := 6) dX10_hand_6 rfl rfl ?_
  refine zx_fV1 (pc := 7) (r_noHand (d := d) hr (by omega)) cl_X10_129 (p75 hr) rfl dX10_hand_7 rfl rfl (by omega) (Nat.le_of_ble_eq_true rfl) (Nat.le_refl _) (Nat.le_refl _) ?_
  refine zx_if_eq (pc := 10) (tgt := 15) dX10_hand_10 (by decide) (fun h10 => by first | exact absurd h10 (show ¬ (if zHas (nI H) x = 0 then (1 : Int32) else 0) = 0 by rw [if_pos hu]; decide) | exact absurd (show ¬ (if zHas (nI H) x = 0 then (1 : Int32) else 0) = 0 by rw [if_pos hu]; decide) h10) (fun h10 => ?_)
  refine zx_iconst (pc := 13) (v := -1) dX10_hand_13 (by decide) ?_
  exact zx_fi (pc := 14) dX10_hand_14 rfl rfl (Nat.le_refl _) (Nat.le_refl _) rfl rfl
theorem sw_X10_hand_16 {scr : Option (Nat × (Nat → Int32))} {d n0 mc ms kc ks : Nat} {Q : Option Value → List zCel → Prop} {L : List (Option Value)} {st : List Value} {sg : List zCel} {x : Int32} (k0 : x = 0 → zX RX10 cX10_hand 3 (some .int) "hand" scr d n0 mc ms kc ks Q 48 L st sg) (k1 : x = 1 → zX RX10 cX10_hand 3 (some .int) "hand" scr d n0 mc ms kc ks Q 55 L st sg) (k2 : x = 2 → zX RX10 cX10_hand 3 (some .int) "hand" scr d n0 mc ms kc ks Q 62 L st sg) (k3 : x = 3 → zX RX10 cX10_hand 3 (some .int) "hand" scr d n0 mc ms kc ks Q 71 L st sg) (kd : ¬ x = 0 → ¬ x = 1 → ¬ x = 2 → ¬ x = 3 → zX RX10 cX10_hand 3 (some .int) "hand" scr d n0 mc ms kc ks Q 77 L st sg) : zX RX10 cX10_hand 3 (some .int) "hand" scr d n0 mc ms kc ks Q 16 L (.int x :: st) sg := by
  by_cases c0 : x = 0
  · exact zx_tab (k := 0) (off := 32) (tgt := 48) dX10_hand_16 (zeq c0 (by decide)) (by decide) (by decide) (by decide) (k0 c0)
  by_cases c1 : x = 1
  · exact zx_tab (k := 1) (off := 39) (tgt := 55) dX10_hand_16 (zeq c1 (by decide)) (by decide) (by decide) (by decide) (k1 c1)
  by_cases c2 : x = 2
  · exact zx_tab (k := 2) (off := 46) (tgt := 62) dX10_hand_16 (zeq c2 (by decide)) (by decide) (by decide) (by decide) (k2 c2)
  by_cases c3 : x = 3
  · exact zx_tab (k := 3) (off := 55) (tgt := 71) dX10_hand_16 (zeq c3 (by decide)) (by decide) (by decide) (by decide) (k3 c3)
  have e9 : x.toInt < 0 ∨ 3 < x.toInt := by
    have e0 := zne (k := 0) c0 (by decide)
    have e1 := zne (k := 1) c1 (by decide)
    have e2 := zne (k := 2) c2 (by decide)
    have e3 := zne (k := 3) c3 (by decide)
    omega
  exact zx_tableOut (tgt := 77) dX10_hand_16 e9 (by decide) (kd c0 c1 c2 c3)
set_option maxHeartbeats 4000000 in
theorem m_hand {d : Nat} {h H F : Nat} {y : Int32} {th : Int32} {mA : (Nat → Int32) × Int32 × Int32} {mo : Int32} {mg : (Nat → Int32)} {mk : (Nat → Int32)} {md : (Nat → Int32)} {mR : Int32 × Int32 × (Nat → Int32) × Int32 × (Nat → Int32)} {pg : (Nat → Int32)} {mq : (Nat → Int32)} {bk : (Nat → Int32) × Int32} {kp : (Nat → Int32) × (Nat → Int32)} {sn : Int32 × (Nat → Int32) × (Nat → Int32) × (Nat → Int32)} {ml : Int64} {mw : Int32 × Int32} {pn : Int32 × Int32 × Int32 × Int32} {wl : Int32 × Int32} {sp : Int32 × Int32} {rs : Int32 × Int32} {vl : (Nat → Int32)} {rho : List zCel} (hr : rho.length = 75) (hh : h < H) (hH : H ≤ 5) : zCf yX10_hand cX10_hand 3 (some .int) (d + 2) [.ref 75, .int (nI h), .int y] (rho ++ encM th mA (mo, (nI H), mg, mk, (nI F), md) mR pg mq bk kp sn ml mw pn wl sp rs vl) (some (.int (if y = 0 then mg h else if y = 1 then mk h else if y = 2 then pg h else if y = 3 then zMo (mk h) (mg h) else -2))) (rho ++ encM 0 mA (mo, (nI H), mg, mk, (nI F), md) mR pg mq bk kp sn ml mw pn wl sp rs vl) := by
  refine zC.intro (by decide) (Nat.le_of_ble_eq_true rfl) rfl ?_
  refine zx_aload_n (pc := 0) dX10_hand_0 rfl rfl ?_
  refine zx_iconst (pc := 1) (v := 0) dX10_hand_1 (by decide) ?_
  refine u75_0 (pc := 2) hr fl_X10_56 dX10_hand_2 ?_
  refine zx_aload_n (pc := 5) dX10_hand_5 rfl rfl ?_
  refine zx_iload_n (pc := 6) dX10_hand_6 rfl rfl ?_
  refine zx_fV1 (pc := 7) (r_noHand (d := d) hr (by omega)) cl_X10_129 (p75 hr) rfl dX10_hand_7 rfl rfl (by omega) (Nat.le_of_ble_eq_true rfl) (Nat.le_refl _) (Nat.le_refl _) ?_
  refine zx_if_eq (pc := 10) (tgt := 15) dX10_hand_10 (by decide) (fun h10 => ?_) (fun h10 => by first | exact absurd h10 (show (if zHas (nI H) (nI h) = 0 then (1 : Int32) else 0) = 0 by rw [zHas_1 hh (by omega)]; decide) | exact absurd (show (if zHas (nI H) (nI h) = 0 then (1 : Int32) else 0) = 0 by rw [zHas_1 hh (by omega)]; decide) h10)
  refine zx_iload_n (pc := 15) dX10_hand_15 rfl rfl ?_
  refine sw_X10_hand_16 (fun h16_0 => ?_) (fun h16_1 => ?_) (fun h16_2 => ?_) (fun h16_3 => ?_) (fun h16_0 h16_1 h16_2 h16_3 => ?_)
  · refine zx_aload_n (pc := 48) dX10_hand_48 rfl rfl ?_
    refine g75_6 (pc := 49) hr fl_X10_13 dX10_hand_49 ?_
    refine zx_iload_n (pc := 52) dX10_hand_52 rfl rfl ?_
    refine a77 (pc := 53) hr (zix_n (by omega)) dX10_hand_53 ?_
    exact zx_fi (pc := 54) dX10_hand_54 rfl rfl (Nat.le_refl _) (Nat.le_refl _) (by first | (simp only [h10, h16_0, reduceIte, not_true_eq_false, not_false_eq_true]; done) | (simp [h10, h16_0]; done)) rfl
  · refine zx_aload_n (pc := 55) dX10_hand_55 rfl rfl ?_
    refine g75_7 (pc := 56) hr fl_X10_16 dX10_hand_56 ?_
    refine zx_iload_n (pc := 59) dX10_hand_59 rfl rfl ?_
    refine a78 (pc := 60) hr (zix_n (by omega)) dX10_hand_60 ?_
    exact zx_fi (pc := 61) dX10_hand_61 rfl rfl (Nat.le_refl _) (Nat.le_refl _) (by first | (simp only [h10, h16_1, reduceIte, not_true_eq_false, not_false_eq_true]; done) | (simp [h10, h16_1]; done)) rfl
  · refine zx_aload_n (pc := 62) dX10_hand_62 rfl rfl ?_
    refine g75_15 (pc := 63) hr fl_X10_28 dX10_hand_63 ?_
    refine zx_iconst (pc := 66) (v := 0) dX10_hand_66 (by decide) ?_
    refine zx_iload_n (pc := 67) dX10_hand_67 rfl rfl ?_
    refine zx_iadd (pc := 68) dX10_hand_68 ?_
    refine a82 (pc := 69) hr (zix_0 (by omega)) dX10_hand_69 ?_
    exact zx_fi (pc := 70) dX10_hand_70 rfl rfl (Nat.le_refl _) (Nat.le_refl _) (by first | (simp only [h10, h16_2, reduceIte, not_true_eq_false, not_false_eq_true]; done) | (simp [h10, h16_2]; done)) rfl
  · refine zx_aload_n (pc := 71) dX10_hand_71 rfl rfl ?_
    refine zx_iload_n (pc := 72) dX10_hand_72 rfl rfl ?_
    refine zx_fV1 (pc := 73) (r_moulds (d := d + 1) hr (by omega)) cl_X10_112 (p75 hr) rfl dX10_hand_73 rfl rfl (by omega) (Nat.le_of_ble_eq_true rfl) (Nat.le_refl _) (Nat.le_refl _) ?_
    exact zx_fi (pc := 76) dX10_hand_76 rfl rfl (Nat.le_refl _) (Nat.le_refl _) (by first | (simp only [h10, h16_3, reduceIte, not_true_eq_false, not_false_eq_true]; done) | (simp [h10, h16_3]; done)) rfl
  · refine zx_bipush (pc := 77) (v := -2) dX10_hand_77 (by decide) ?_
    exact zx_fi (pc := 79) dX10_hand_79 rfl rfl (Nat.le_refl _) (Nat.le_refl _) (by first | (simp only [h10, h16_0, h16_1, h16_2, h16_3, reduceIte, not_true_eq_false, not_false_eq_true]; done) | (simp [h10, h16_0, h16_1, h16_2, h16_3]; done)) rfl
set_option maxHeartbeats 4000000 in
theorem m_field_un {d : Nat} {H F : Nat} {x y : Int32} {th : Int32} {mA : (Nat → Int32) × Int32 × Int32} {mo : Int32} {mg : (Nat → Int32)} {mk : (Nat → Int32)} {md : (Nat → Int32)} {mR : Int32 × Int32 × (Nat → Int32) × Int32 × (Nat → Int32)} {pg : (Nat → Int32)} {mq : (Nat → Int32)} {bk : (Nat → Int32) × Int32} {kp : (Nat → Int32) × (Nat → Int32)} {sn : Int32 × (Nat → Int32) × (Nat → Int32) × (Nat → Int32)} {ml : Int64} {mw : Int32 × Int32} {pn : Int32 × Int32 × Int32 × Int32} {wl : Int32 × Int32} {sp : Int32 × Int32} {rs : Int32 × Int32} {vl : (Nat → Int32)} {rho : List zCel} (hr : rho.length = 75) (hF : F ≤ 3) (hu : zHas (nI F) x = 0) : zCf yX10_field cX10_field 3 (some .int) (d + 1) [.ref 75, .int x, .int y] (rho ++ encM th mA (mo, (nI H), mg, mk, (nI F), md) mR pg mq bk kp sn ml mw pn wl sp rs vl) (some (.int (-1))) (rho ++ encM 0 mA (mo, (nI H), mg, mk, (nI F), md) mR pg mq bk kp sn ml mw pn wl sp rs vl) := by
  refine zC.intro (by decide) (Nat.le_of_ble_eq_true rfl) rfl ?_
  refine zx_aload_n (pc := 0) dX10_field_0 rfl rfl ?_
  refine zx_iconst (pc := 1) (v := 0) dX10_field_1 (by decide) ?_
  refine u75_0 (pc := 2) hr fl_X10_56 dX10_field_2 ?_
  refine zx_iload_n (pc := 5) dX10_field_5 rfl rfl ?_
  refine zx_i2l (pc := 6) dX10_field_6 rfl ?_
  refine zx_lconst (pc := 7) (v := 0) dX10_field_7 (by decide) ?_
  refine zx_aload_n (pc := 8) dX10_field_8 rfl rfl ?_
  refine g75_8 (pc := 9) hr fl_X10_103 dX10_field_9 ?_
  refine zx_iconst (pc := 12) (v := 1) dX10_field_12 (by decide) ?_
  refine zx_isub (pc := 13) dX10_field_13 ?_
  refine zx_i2l (pc := 14) dX10_field_14 rfl ?_
  refine zx_fS1 (pc := 15) (r_in (d := d) (lo := 0) rfl rfl rfl) cl_X10_63 dX10_field_15 rfl rfl (by omega) (Nat.le_of_ble_eq_true rfl) (Nat.le_refl _) (Nat.le_refl _) ?_
  refine zx_if_ne (pc := 18) (tgt := 23) dX10_field_18 (by decide) (fun h18 => by first | exact absurd h18 (show zIn x 0 (nI F - 1) = 0 by rw [zIn_has (by omega)]; exact hu) | exact absurd (show zIn x 0 (nI F - 1) = 0 by rw [zIn_has (by omega)]; exact hu) h18) (fun h18 => ?_)
  refine zx_iconst (pc := 21) (v := -1) dX10_field_21 (by decide) ?_
  exact zx_fi (pc := 22) dX10_field_22 rfl rfl (Nat.le_refl _) (Nat.le_refl _) rfl rfl
set_option maxHeartbeats 4000000 in
theorem m_field {d : Nat} {f H F : Nat} {y : Int32} {th : Int32} {mA : (Nat → Int32) × Int32 × Int32} {mo : Int32} {mg : (Nat → Int32)} {mk : (Nat → Int32)} {md : (Nat → Int32)} {mR : Int32 × Int32 × (Nat → Int32) × Int32 × (Nat → Int32)} {pg : (Nat → Int32)} {mq : (Nat → Int32)} {bk : (Nat → Int32) × Int32} {kp : (Nat → Int32) × (Nat → Int32)} {sn : Int32 × (Nat → Int32) × (Nat → Int32) × (Nat → Int32)} {ml : Int64} {mw : Int32 × Int32} {pn : Int32 × Int32 × Int32 × Int32} {wl : Int32 × Int32} {sp : Int32 × Int32} {rs : Int32 × Int32} {vl : (Nat → Int32)} {rho : List zCel} (hr : rho.length = 75) (hf : f < F) (hF : F ≤ 3) : zCf yX10_field cX10_field 3 (some .int) (d + 1) [.ref 75, .int (nI f), .int y] (rho ++ encM th mA (mo, (nI H), mg, mk, (nI F), md) mR pg mq bk kp sn ml mw pn wl sp rs vl) (some (.int (if y = 0 then md f else if y = 1 then pg (5 + f) else -2))) (rho ++ encM 0 mA (mo, (nI H), mg, mk, (nI F), md) mR pg mq bk kp sn ml mw pn wl sp rs vl) := by
  refine zC.intro (by decide) (Nat.le_of_ble_eq_true rfl) rfl ?_
  refine zx_aload_n (pc := 0) dX10_field_0 rfl rfl ?_
  refine zx_iconst (pc := 1) (v := 0) dX10_field_1 (by decide) ?_
  refine u75_0 (pc := 2) hr fl_X10_56 dX10_field_2 ?_
  refine zx_iload_n (pc := 5) dX10_field_5 rfl rfl ?_
  refine zx_i2l (pc := 6) dX10_field_6 rfl ?_
  refine zx_lconst (pc := 7) (v := 0) dX10_field_7 (by decide) ?_
  refine zx_aload_n (pc := 8) dX10_field_8 rfl rfl ?_
  refine g75_8 (pc := 9) hr fl_X10_103 dX10_field_9 ?_
  refine zx_iconst (pc := 12) (v := 1) dX10_field_12 (by decide) ?_
  refine zx_isub (pc := 13) dX10_field_13 ?_
  refine zx_i2l (pc := 14) dX10_field_14 rfl ?_
  refine zx_fS1 (pc := 15) (r_in (d := d) (lo := 0) rfl rfl rfl) cl_X10_63 dX10_field_15 rfl rfl (by omega) (Nat.le_of_ble_eq_true rfl) (Nat.le_refl _) (Nat.le_refl _) ?_
  refine zx_if_ne (pc := 18) (tgt := 23) dX10_field_18 (by decide) (fun h18 => ?_) (fun h18 => by first | exact absurd h18 (show ¬ zIn (nI f) 0 (nI F - 1) = 0 by rw [zIn_has (by omega), zHas_1 hf (by omega)]; decide) | exact absurd (show ¬ zIn (nI f) 0 (nI F - 1) = 0 by rw [zIn_has (by omega), zHas_1 hf (by omega)]; decide) h18)
  refine zx_iload_n (pc := 23) dX10_field_23 rfl rfl ?_
  refine zx_if_ne (pc := 24) (tgt := 36) dX10_field_24 (by decide) (fun h24 => ?_) (fun h24 => ?_)
  · refine zx_iload_n (pc := 36) dX10_field_36 rfl rfl ?_
    refine zx_iconst (pc := 37) (v := 1) dX10_field_37 (by decide) ?_
    refine zx_icmp_ne (pc := 38) (tgt := 52) dX10_field_38 (by decide) (fun h38 => ?_) (fun h38 => ?_)
    · refine zx_bipush (pc := 52) (v := -2) dX10_field_52 (by decide) ?_
      exact zx_fi (pc := 54) dX10_field_54 rfl rfl (Nat.le_refl _) (Nat.le_refl _) (by first | (simp only [h18, h24, h38, reduceIte, not_true_eq_false, not_false_eq_true]; done) | (simp [h18, h24, h38]; done)) rfl
    · refine zx_aload_n (pc := 41) dX10_field_41 rfl rfl ?_
      refine g75_15 (pc := 42) hr fl_X10_28 dX10_field_42 ?_
      refine zx_iconst (pc := 45) (v := 5) dX10_field_45 (by decide) ?_
      refine zx_iload_n (pc := 46) dX10_field_46 rfl rfl ?_
      refine zx_iadd (pc := 47) dX10_field_47 ?_
      refine a82 (pc := 48) hr (zix_5 (by omega)) dX10_field_48 ?_
      refine zx_goto (pc := 49) (tgt := 54) dX10_field_49 (by decide) ?_
      exact zx_fi (pc := 54) dX10_field_54 rfl rfl (Nat.le_refl _) (Nat.le_refl _) (by first | (simp only [h18, h24, h38, reduceIte, not_true_eq_false, not_false_eq_true]; done) | (simp [h18, h24, h38]; done)) rfl
  · refine zx_aload_n (pc := 27) dX10_field_27 rfl rfl ?_
    refine g75_9 (pc := 28) hr fl_X10_19 dX10_field_28 ?_
    refine zx_iload_n (pc := 31) dX10_field_31 rfl rfl ?_
    refine a79 (pc := 32) hr (zix_n (by omega)) dX10_field_32 ?_
    refine zx_goto (pc := 33) (tgt := 54) dX10_field_33 (by decide) ?_
    exact zx_fi (pc := 54) dX10_field_54 rfl rfl (Nat.le_refl _) (Nat.le_refl _) (by first | (simp only [h18, h24, reduceIte, not_true_eq_false, not_false_eq_true]; done) | (simp [h18, h24]; done)) rfl
set_option maxHeartbeats 4000000 in
theorem m_day {d : Nat} {H F z : Nat} {th : Int32} {mA : (Nat → Int32) × Int32 × Int32} {mo : Int32} {mg : (Nat → Int32)} {mk : (Nat → Int32)} {md : (Nat → Int32)} {mR : Int32 × Int32 × (Nat → Int32) × Int32 × (Nat → Int32)} {pg : (Nat → Int32)} {mq : (Nat → Int32)} {bb : (Nat → Int32)} {kp : (Nat → Int32) × (Nat → Int32)} {sn : Int32 × (Nat → Int32) × (Nat → Int32) × (Nat → Int32)} {ml : Int64} {mw : Int32 × Int32} {pn : Int32 × Int32 × Int32 × Int32} {wl : Int32 × Int32} {sp : Int32 × Int32} {rs : Int32 × Int32} {vl : (Nat → Int32)} {rho : List zCel} (hr : rho.length = 75) (hH : H ≤ 5) (hF : F ≤ 3) (hz : z ≤ 14) (hv : ∀ h, h < H → ∃ t : Nat, t < 2 + F ∧ pg h = nI t) : zCf yX10_day cX10_day 1 (some .int) (d + 3) [.ref 75] (rho ++ encM th mA (mo, (nI H), mg, mk, (nI F), md) mR pg mq (bb, (nI z)) kp sn ml mw pn wl sp rs vl) (some (.int ((zMd mg mk md F H pg).2.2.1))) (rho ++ encM 0 mA (mo, (nI H), mg, mk, (nI F), md) mR (zPd mo pg (zMd mg mk md F H pg)) mq ((zNb bb z pg), (nI (min (z + 1) 14))) kp sn ml ((zMd mg mk md F H pg).2.2.1, (zMd mg mk md F H pg).2.2.2) pn wl sp rs vl) := by
  refine zC.intro (by decide) (Nat.le_of_ble_eq_true rfl) rfl ?_
  refine zx_aload_n (pc := 0) dX10_day_0 rfl rfl ?_
  refine zx_iconst (pc := 1) (v := 0) dX10_day_1 (by decide) ?_
  refine u75_0 (pc := 2) hr fl_X10_56 dX10_day_2 ?_
  refine zx_aload_n (pc := 5) dX10_day_5 rfl rfl ?_
  refine zx_fV0 (pc := 6) (r_note (d := d + 2) hr hz) cl_X10_133 (p75 hr) rfl dX10_day_6 rfl rfl (by omega) (Nat.le_of_ble_eq_true rfl) (Nat.le_refl _) (Nat.le_refl _) ?_
  refine zx_aload_n (pc := 9) dX10_day_9 rfl rfl ?_
  refine zx_aload_n (pc := 10) dX10_day_10 rfl rfl ?_
  refine g75_15 (pc := 11) hr fl_X10_28 dX10_day_11 ?_
  refine zx_fV1 (pc := 14) (r_goDay_p (d := d) hr hH hF hv) cl_X10_136 (p75 hr) rfl dX10_day_14 rfl rfl (by omega) (Nat.le_of_ble_eq_true rfl) (Nat.le_refl _) (Nat.le_refl _) ?_
  refine zx_pop (pc := 17) dX10_day_17 rfl ?_
  refine zx_aload_n (pc := 18) dX10_day_18 rfl rfl ?_
  refine g75_26 (pc := 19) hr fl_X10_116 dX10_day_19 ?_
  exact zx_fi (pc := 22) dX10_day_22 rfl rfl (Nat.le_refl _) (Nat.le_refl _) rfl rfl
set_option maxHeartbeats 4000000 in
theorem m_send_un {d : Nat} {H F : Nat} {x y : Int32} {th : Int32} {mA : (Nat → Int32) × Int32 × Int32} {mo : Int32} {mg : (Nat → Int32)} {mk : (Nat → Int32)} {md : (Nat → Int32)} {mR : Int32 × Int32 × (Nat → Int32) × Int32 × (Nat → Int32)} {pg : (Nat → Int32)} {mq : (Nat → Int32)} {bk : (Nat → Int32) × Int32} {kp : (Nat → Int32) × (Nat → Int32)} {sn : Int32 × (Nat → Int32) × (Nat → Int32) × (Nat → Int32)} {ml : Int64} {mw : Int32 × Int32} {pn : Int32 × Int32 × Int32 × Int32} {wl : Int32 × Int32} {sp : Int32 × Int32} {rs : Int32 × Int32} {vl : (Nat → Int32)} {rho : List zCel} (hr : rho.length = 75) (hH : H ≤ 5) (hu : zHas (nI H) x = 0) : zCf yX10_send cX10_send 4 (some .int) (d + 2) [.ref 75, .int x, .int y] (rho ++ encM th mA (mo, (nI H), mg, mk, (nI F), md) mR pg mq bk kp sn ml mw pn wl sp rs vl) (some (.int (-1))) (rho ++ encM 0 mA (mo, (nI H), mg, mk, (nI F), md) mR pg mq bk kp sn ml mw pn wl sp rs vl) := by
  refine zC.intro (by decide) (Nat.le_of_ble_eq_true rfl) rfl ?_
  refine zx_aload_n (pc := 0) dX10_send_0 rfl rfl ?_
  refine zx_iconst (pc := 1) (v := 0) dX10_send_1 (by decide) ?_
  refine u75_0 (pc := 2) hr fl_X10_56 dX10_send_2 ?_
  refine zx_aload_n (pc := 5) dX10_send_5 rfl rfl ?_
  refine zx_iload_n (pc := 6) dX10_send_6 rfl rfl ?_
  refine zx_fV1 (pc := 7) (r_noHand (d := d) hr (by omega)) cl_X10_129 (p75 hr) rfl dX10_send_7 rfl rfl (by omega) (Nat.le_of_ble_eq_true rfl) (Nat.le_refl _) (Nat.le_refl _) ?_
  refine zx_if_eq (pc := 10) (tgt := 15) dX10_send_10 (by decide) (fun h10 => by first | exact absurd h10 (show ¬ (if zHas (nI H) x = 0 then (1 : Int32) else 0) = 0 by rw [if_pos hu]; decide) | exact absurd (show ¬ (if zHas (nI H) x = 0 then (1 : Int32) else 0) = 0 by rw [if_pos hu]; decide) h10) (fun h10 => ?_)
  refine zx_iconst (pc := 13) (v := -1) dX10_send_13 (by decide) ?_
  exact zx_fi (pc := 14) dX10_send_14 rfl rfl (Nat.le_refl _) (Nat.le_refl _) rfl rfl
set_option maxHeartbeats 4000000 in
theorem m_send_bad {d : Nat} {h H F : Nat} {y : Int32} {th : Int32} {mA : (Nat → Int32) × Int32 × Int32} {mo : Int32} {mg : (Nat → Int32)} {mk : (Nat → Int32)} {md : (Nat → Int32)} {mR : Int32 × Int32 × (Nat → Int32) × Int32 × (Nat → Int32)} {pg : (Nat → Int32)} {mq : (Nat → Int32)} {bk : (Nat → Int32) × Int32} {kp : (Nat → Int32) × (Nat → Int32)} {sn : Int32 × (Nat → Int32) × (Nat → Int32) × (Nat → Int32)} {ml : Int64} {mw : Int32 × Int32} {pn : Int32 × Int32 × Int32 × Int32} {wl : Int32 × Int32} {sp : Int32 × Int32} {rs : Int32 × Int32} {vl : (Nat → Int32)} {rho : List zCel} (hr : rho.length = 75) (hh : h < H) (hH : H ≤ 5) (hb : zIn y 0 (1 + nI F) = 0) : zCf yX10_send cX10_send 4 (some .int) (d + 2) [.ref 75, .int (nI h), .int y] (rho ++ encM th mA (mo, (nI H), mg, mk, (nI F), md) mR pg mq bk kp sn ml mw pn wl sp rs vl) (some (.int (-2))) (rho ++ encM 0 mA (mo, (nI H), mg, mk, (nI F), md) mR pg mq bk kp sn ml mw pn wl sp rs vl) := by
  refine zC.intro (by decide) (Nat.le_of_ble_eq_true rfl) rfl ?_
  refine zx_aload_n (pc := 0) dX10_send_0 rfl rfl ?_
  refine zx_iconst (pc := 1) (v := 0) dX10_send_1 (by decide) ?_
  refine u75_0 (pc := 2) hr fl_X10_56 dX10_send_2 ?_
  refine zx_aload_n (pc := 5) dX10_send_5 rfl rfl ?_
  refine zx_iload_n (pc := 6) dX10_send_6 rfl rfl ?_
  refine zx_fV1 (pc := 7) (r_noHand (d := d) hr (by omega)) cl_X10_129 (p75 hr) rfl dX10_send_7 rfl rfl (by omega) (Nat.le_of_ble_eq_true rfl) (Nat.le_refl _) (Nat.le_refl _) ?_
  refine zx_if_eq (pc := 10) (tgt := 15) dX10_send_10 (by decide) (fun h10 => ?_) (fun h10 => by first | exact absurd h10 (show (if zHas (nI H) (nI h) = 0 then (1 : Int32) else 0) = 0 by rw [zHas_1 hh (by omega)]; decide) | exact absurd (show (if zHas (nI H) (nI h) = 0 then (1 : Int32) else 0) = 0 by rw [zHas_1 hh (by omega)]; decide) h10)
  refine zx_iload_n (pc := 15) dX10_send_15 rfl rfl ?_
  refine zx_i2l (pc := 16) dX10_send_16 rfl ?_
  refine zx_lconst (pc := 17) (v := 0) dX10_send_17 (by decide) ?_
  refine zx_iconst (pc := 18) (v := 1) dX10_send_18 (by decide) ?_
  refine zx_aload_n (pc := 19) dX10_send_19 rfl rfl ?_
  refine g75_8 (pc := 20) hr fl_X10_103 dX10_send_20 ?_
  refine zx_iadd (pc := 23) dX10_send_23 ?_
  refine zx_i2l (pc := 24) dX10_send_24 rfl ?_
  refine zx_fS1 (pc := 25) (r_in (d := d + 1) (lo := 0) rfl rfl rfl) cl_X10_63 dX10_send_25 rfl rfl (by omega) (Nat.le_of_ble_eq_true rfl) (Nat.le_refl _) (Nat.le_refl _) ?_
  refine zx_if_ne (pc := 28) (tgt := 34) dX10_send_28 (by decide) (fun h28 => by first | exact absurd h28 hb | exact absurd hb h28) (fun h28 => ?_)
  refine zx_bipush (pc := 31) (v := -2) dX10_send_31 (by decide) ?_
  exact zx_fi (pc := 33) dX10_send_33 rfl rfl (Nat.le_refl _) (Nat.le_refl _) rfl rfl
set_option maxHeartbeats 4000000 in
theorem m_send_late {d : Nat} {h H F : Nat} {y : Int32} {th : Int32} {mA : (Nat → Int32) × Int32 × Int32} {mo : Int32} {mg : (Nat → Int32)} {mk : (Nat → Int32)} {md : (Nat → Int32)} {mR : Int32 × Int32 × (Nat → Int32) × Int32 × (Nat → Int32)} {pg : (Nat → Int32)} {mq : (Nat → Int32)} {bk : (Nat → Int32) × Int32} {kp : (Nat → Int32) × (Nat → Int32)} {sn : Int32 × (Nat → Int32) × (Nat → Int32) × (Nat → Int32)} {ml : Int64} {mw : Int32 × Int32} {pn : Int32 × Int32 × Int32 × Int32} {wl : Int32 × Int32} {sp : Int32 × Int32} {rs : Int32 × Int32} {vl : (Nat → Int32)} {rho : List zCel} (hr : rho.length = 75) (hh : h < H) (hH : H ≤ 5) (hb : ¬ zIn y 0 (1 + nI F) = 0) (hl : pg h = y) : zCf yX10_send cX10_send 4 (some .int) (d + 2) [.ref 75, .int (nI h), .int y] (rho ++ encM th mA (mo, (nI H), mg, mk, (nI F), md) mR pg mq bk kp sn ml mw pn wl sp rs vl) (some (.int (-3))) (rho ++ encM 0 mA (mo, (nI H), mg, mk, (nI F), md) mR pg mq bk kp sn ml mw pn wl sp rs vl) := by
  refine zC.intro (by decide) (Nat.le_of_ble_eq_true rfl) rfl ?_
  refine zx_aload_n (pc := 0) dX10_send_0 rfl rfl ?_
  refine zx_iconst (pc := 1) (v := 0) dX10_send_1 (by decide) ?_
  refine u75_0 (pc := 2) hr fl_X10_56 dX10_send_2 ?_
  refine zx_aload_n (pc := 5) dX10_send_5 rfl rfl ?_
  refine zx_iload_n (pc := 6) dX10_send_6 rfl rfl ?_
  refine zx_fV1 (pc := 7) (r_noHand (d := d) hr (by omega)) cl_X10_129 (p75 hr) rfl dX10_send_7 rfl rfl (by omega) (Nat.le_of_ble_eq_true rfl) (Nat.le_refl _) (Nat.le_refl _) ?_
  refine zx_if_eq (pc := 10) (tgt := 15) dX10_send_10 (by decide) (fun h10 => ?_) (fun h10 => by first | exact absurd h10 (show (if zHas (nI H) (nI h) = 0 then (1 : Int32) else 0) = 0 by rw [zHas_1 hh (by omega)]; decide) | exact absurd (show (if zHas (nI H) (nI h) = 0 then (1 : Int32) else 0) = 0 by rw [zHas_1 hh (by omega)]; decide) h10)
  refine zx_iload_n (pc := 15) dX10_send_15 rfl rfl ?_
  refine zx_i2l (pc := 16) dX10_send_16 rfl ?_
  refine zx_lconst (pc := 17) (v := 0) dX10_send_17 (by decide) ?_
  refine zx_iconst (pc := 18) (v := 1) dX10_send_18 (by decide) ?_
  refine zx_aload_n (pc := 19) dX10_send_19 rfl rfl ?_
  refine g75_8 (pc := 20) hr fl_X10_103 dX10_send_20 ?_
  refine zx_iadd (pc := 23) dX10_send_23 ?_
  refine zx_i2l (pc := 24) dX10_send_24 rfl ?_
  refine zx_fS1 (pc := 25) (r_in (d := d + 1) (lo := 0) rfl rfl rfl) cl_X10_63 dX10_send_25 rfl rfl (by omega) (Nat.le_of_ble_eq_true rfl) (Nat.le_refl _) (Nat.le_refl _) ?_
  refine zx_if_ne (pc := 28) (tgt := 34) dX10_send_28 (by decide) (fun h28 => ?_) (fun h28 => by first | exact absurd h28 hb | exact absurd hb h28)
  refine zx_aload_n (pc := 34) dX10_send_34 rfl rfl ?_
  refine g75_15 (pc := 35) hr fl_X10_28 dX10_send_35 ?_
  refine zx_iconst (pc := 38) (v := 0) dX10_send_38 (by decide) ?_
  refine zx_iload_n (pc := 39) dX10_send_39 rfl rfl ?_
  refine zx_iadd (pc := 40) dX10_send_40 ?_
  refine a82 (pc := 41) hr (zix_0 (by omega)) dX10_send_41 ?_
  refine st_3_4 (pc := 42) dX10_send_42 rfl ?_
  refine zx_iload_n (pc := 43) dX10_send_43 rfl rfl ?_
  refine zx_iload_n (pc := 44) dX10_send_44 rfl rfl ?_
  refine zx_icmp_ne (pc := 45) (tgt := 51) dX10_send_45 (by decide) (fun h45 => by first | exact absurd h45 hl | exact absurd hl h45) (fun h45 => ?_)
  refine zx_bipush (pc := 48) (v := -3) dX10_send_48 (by decide) ?_
  exact zx_fi (pc := 50) dX10_send_50 rfl rfl (Nat.le_refl _) (Nat.le_refl _) rfl rfl
set_option maxHeartbeats 4000000 in
theorem m_send_ok {d : Nat} {h H F z : Nat} {y : Int32} {th : Int32} {mA : (Nat → Int32) × Int32 × Int32} {mo : Int32} {mg : (Nat → Int32)} {mk : (Nat → Int32)} {md : (Nat → Int32)} {mR : Int32 × Int32 × (Nat → Int32) × Int32 × (Nat → Int32)} {pg : (Nat → Int32)} {mq : (Nat → Int32)} {bb : (Nat → Int32)} {kp : (Nat → Int32) × (Nat → Int32)} {sn : Int32 × (Nat → Int32) × (Nat → Int32) × (Nat → Int32)} {ml : Int64} {mw : Int32 × Int32} {pn : Int32 × Int32 × Int32 × Int32} {wl : Int32 × Int32} {sp : Int32 × Int32} {rs : Int32 × Int32} {vl : (Nat → Int32)} {rho : List zCel} (hr : rho.length = 75) (hh : h < H) (hH : H ≤ 5) (hz : z ≤ 14) (hb : ¬ zIn y 0 (1 + nI F) = 0) (hl : ¬ pg h = y) : zCf yX10_send cX10_send 4 (some .int) (d + 2) [.ref 75, .int (nI h), .int y] (rho ++ encM th mA (mo, (nI H), mg, mk, (nI F), md) mR pg mq (bb, (nI z)) kp sn ml mw pn wl sp rs vl) (some (.int (pg h))) (rho ++ encM 0 mA (mo, (nI H), mg, mk, (nI F), md) mR (upd pg h y) mq ((zNb bb z pg), (nI (min (z + 1) 14))) kp sn ml mw pn wl sp rs vl) := by
  refine zC.intro (by decide) (Nat.le_of_ble_eq_true rfl) rfl ?_
  refine zx_aload_n (pc := 0) dX10_send_0 rfl rfl ?_
  refine zx_iconst (pc := 1) (v := 0) dX10_send_1 (by decide) ?_
  refine u75_0 (pc := 2) hr fl_X10_56 dX10_send_2 ?_
  refine zx_aload_n (pc := 5) dX10_send_5 rfl rfl ?_
  refine zx_iload_n (pc := 6) dX10_send_6 rfl rfl ?_
  refine zx_fV1 (pc := 7) (r_noHand (d := d) hr (by omega)) cl_X10_129 (p75 hr) rfl dX10_send_7 rfl rfl (by omega) (Nat.le_of_ble_eq_true rfl) (Nat.le_refl _) (Nat.le_refl _) ?_
  refine zx_if_eq (pc := 10) (tgt := 15) dX10_send_10 (by decide) (fun h10 => ?_) (fun h10 => by first | exact absurd h10 (show (if zHas (nI H) (nI h) = 0 then (1 : Int32) else 0) = 0 by rw [zHas_1 hh (by omega)]; decide) | exact absurd (show (if zHas (nI H) (nI h) = 0 then (1 : Int32) else 0) = 0 by rw [zHas_1 hh (by omega)]; decide) h10)
  refine zx_iload_n (pc := 15) dX10_send_15 rfl rfl ?_
  refine zx_i2l (pc := 16) dX10_send_16 rfl ?_
  refine zx_lconst (pc := 17) (v := 0) dX10_send_17 (by decide) ?_
  refine zx_iconst (pc := 18) (v := 1) dX10_send_18 (by decide) ?_
  refine zx_aload_n (pc := 19) dX10_send_19 rfl rfl ?_
  refine g75_8 (pc := 20) hr fl_X10_103 dX10_send_20 ?_
  refine zx_iadd (pc := 23) dX10_send_23 ?_
  refine zx_i2l (pc := 24) dX10_send_24 rfl ?_
  refine zx_fS1 (pc := 25) (r_in (d := d + 1) (lo := 0) rfl rfl rfl) cl_X10_63 dX10_send_25 rfl rfl (by omega) (Nat.le_of_ble_eq_true rfl) (Nat.le_refl _) (Nat.le_refl _) ?_
  refine zx_if_ne (pc := 28) (tgt := 34) dX10_send_28 (by decide) (fun h28 => ?_) (fun h28 => by first | exact absurd h28 hb | exact absurd hb h28)
  refine zx_aload_n (pc := 34) dX10_send_34 rfl rfl ?_
  refine g75_15 (pc := 35) hr fl_X10_28 dX10_send_35 ?_
  refine zx_iconst (pc := 38) (v := 0) dX10_send_38 (by decide) ?_
  refine zx_iload_n (pc := 39) dX10_send_39 rfl rfl ?_
  refine zx_iadd (pc := 40) dX10_send_40 ?_
  refine a82 (pc := 41) hr (zix_0 (by omega)) dX10_send_41 ?_
  refine st_3_4 (pc := 42) dX10_send_42 rfl ?_
  refine zx_iload_n (pc := 43) dX10_send_43 rfl rfl ?_
  refine zx_iload_n (pc := 44) dX10_send_44 rfl rfl ?_
  refine zx_icmp_ne (pc := 45) (tgt := 51) dX10_send_45 (by decide) (fun h45 => ?_) (fun h45 => by first | exact absurd h45 hl | exact absurd hl h45)
  refine zx_aload_n (pc := 51) dX10_send_51 rfl rfl ?_
  refine zx_fV0 (pc := 52) (r_note (d := d + 1) hr hz) cl_X10_133 (p75 hr) rfl dX10_send_52 rfl rfl (by omega) (Nat.le_of_ble_eq_true rfl) (Nat.le_refl _) (Nat.le_refl _) ?_
  refine zx_aload_n (pc := 55) dX10_send_55 rfl rfl ?_
  refine g75_15 (pc := 56) hr fl_X10_28 dX10_send_56 ?_
  refine zx_iconst (pc := 59) (v := 0) dX10_send_59 (by decide) ?_
  refine zx_iload_n (pc := 60) dX10_send_60 rfl rfl ?_
  refine zx_iadd (pc := 61) dX10_send_61 ?_
  refine zx_iload_n (pc := 62) dX10_send_62 rfl rfl ?_
  refine s82 (pc := 63) hr (zix_0 (by omega)) dX10_send_63 ?_
  refine zx_iload_n (pc := 64) dX10_send_64 rfl rfl ?_
  exact zx_fi (pc := 65) dX10_send_65 rfl rfl (Nat.le_refl _) (Nat.le_refl _) rfl rfl
set_option maxHeartbeats 4000000 in
theorem m_turn_bad {d : Nat} {x : Int32} {th : Int32} {mA : (Nat → Int32) × Int32 × Int32} {mB : Int32 × Int32 × (Nat → Int32) × (Nat → Int32) × Int32 × (Nat → Int32)} {mR : Int32 × Int32 × (Nat → Int32) × Int32 × (Nat → Int32)} {pg : (Nat → Int32)} {mq : (Nat → Int32)} {bk : (Nat → Int32) × Int32} {kp : (Nat → Int32) × (Nat → Int32)} {sn : Int32 × (Nat → Int32) × (Nat → Int32) × (Nat → Int32)} {ml : Int64} {mw : Int32 × Int32} {pn : Int32 × Int32 × Int32 × Int32} {wl : Int32 × Int32} {sp : Int32 × Int32} {rs : Int32 × Int32} {vl : (Nat → Int32)} {rho : List zCel} (hr : rho.length = 75) (hb : zIn x 1 9 = 0) : zCf yX10_turn cX10_turn 2 (some .int) (d + 1) [.ref 75, .int x] (rho ++ encM th mA mB mR pg mq bk kp sn ml mw pn wl sp rs vl) (some (.int (-2))) (rho ++ encM 0 mA mB mR pg mq bk kp sn ml mw pn wl sp rs vl) := by
  refine zC.intro (by decide) (Nat.le_of_ble_eq_true rfl) rfl ?_
  refine zx_aload_n (pc := 0) dX10_turn_0 rfl rfl ?_
  refine zx_iconst (pc := 1) (v := 0) dX10_turn_1 (by decide) ?_
  refine u75_0 (pc := 2) hr fl_X10_56 dX10_turn_2 ?_
  refine zx_iload_n (pc := 5) dX10_turn_5 rfl rfl ?_
  refine zx_i2l (pc := 6) dX10_turn_6 rfl ?_
  refine zx_lconst (pc := 7) (v := 1) dX10_turn_7 (by decide) ?_
  refine zx_ldc2 (pc := 8) kl_X10_140 dX10_turn_8 ?_
  refine zx_fS1 (pc := 11) (r_in (d := d) (lo := 1) (hi := 9) rfl rfl rfl) cl_X10_63 dX10_turn_11 rfl rfl (by omega) (Nat.le_of_ble_eq_true rfl) (Nat.le_refl _) (Nat.le_refl _) ?_
  refine zx_if_ne (pc := 14) (tgt := 20) dX10_turn_14 (by decide) (fun h14 => by first | exact absurd h14 hb | exact absurd hb h14) (fun h14 => ?_)
  refine zx_bipush (pc := 17) (v := -2) dX10_turn_17 (by decide) ?_
  exact zx_fi (pc := 19) dX10_turn_19 rfl rfl (Nat.le_refl _) (Nat.le_refl _) rfl rfl
set_option maxHeartbeats 4000000 in
theorem m_turn_late {d : Nat} {x : Int32} {th : Int32} {mA : (Nat → Int32) × Int32 × Int32} {mB : Int32 × Int32 × (Nat → Int32) × (Nat → Int32) × Int32 × (Nat → Int32)} {mR : Int32 × Int32 × (Nat → Int32) × Int32 × (Nat → Int32)} {pg : (Nat → Int32)} {mq : (Nat → Int32)} {bk : (Nat → Int32) × Int32} {kp : (Nat → Int32) × (Nat → Int32)} {sn : Int32 × (Nat → Int32) × (Nat → Int32) × (Nat → Int32)} {ml : Int64} {mw : Int32 × Int32} {pn : Int32 × Int32 × Int32 × Int32} {wl : Int32 × Int32} {sp : Int32 × Int32} {rs : Int32 × Int32} {vl : (Nat → Int32)} {rho : List zCel} (hr : rho.length = 75) (hb : ¬ zIn x 1 9 = 0) (hl : ¬ pg 11 + x ≤ pg 9 + pg 10) : zCf yX10_turn cX10_turn 2 (some .int) (d + 1) [.ref 75, .int x] (rho ++ encM th mA mB mR pg mq bk kp sn ml mw pn wl sp rs vl) (some (.int (-3))) (rho ++ encM 0 mA mB mR pg mq bk kp sn ml mw pn wl sp rs vl) := by
  refine zC.intro (by decide) (Nat.le_of_ble_eq_true rfl) rfl ?_
  refine zx_aload_n (pc := 0) dX10_turn_0 rfl rfl ?_
  refine zx_iconst (pc := 1) (v := 0) dX10_turn_1 (by decide) ?_
  refine u75_0 (pc := 2) hr fl_X10_56 dX10_turn_2 ?_
  refine zx_iload_n (pc := 5) dX10_turn_5 rfl rfl ?_
  refine zx_i2l (pc := 6) dX10_turn_6 rfl ?_
  refine zx_lconst (pc := 7) (v := 1) dX10_turn_7 (by decide) ?_
  refine zx_ldc2 (pc := 8) kl_X10_140 dX10_turn_8 ?_
  refine zx_fS1 (pc := 11) (r_in (d := d) (lo := 1) (hi := 9) rfl rfl rfl) cl_X10_63 dX10_turn_11 rfl rfl (by omega) (Nat.le_of_ble_eq_true rfl) (Nat.le_refl _) (Nat.le_refl _) ?_
  refine zx_if_ne (pc := 14) (tgt := 20) dX10_turn_14 (by decide) (fun h14 => ?_) (fun h14 => by first | exact absurd h14 hb | exact absurd hb h14)
  refine zx_aload_n (pc := 20) dX10_turn_20 rfl rfl ?_
  refine g75_15 (pc := 21) hr fl_X10_28 dX10_turn_21 ?_
  refine zx_bipush (pc := 24) (v := 11) dX10_turn_24 (by decide) ?_
  refine a82 (pc := 26) hr (zix_k (j := 11) (by decide) (by decide)) dX10_turn_26 ?_
  refine zx_iload_n (pc := 27) dX10_turn_27 rfl rfl ?_
  refine zx_iadd (pc := 28) dX10_turn_28 ?_
  refine zx_aload_n (pc := 29) dX10_turn_29 rfl rfl ?_
  refine g75_15 (pc := 30) hr fl_X10_28 dX10_turn_30 ?_
  refine zx_bipush (pc := 33) (v := 9) dX10_turn_33 (by decide) ?_
  refine a82 (pc := 35) hr (zix_k (j := 9) (by decide) (by decide)) dX10_turn_35 ?_
  refine zx_aload_n (pc := 36) dX10_turn_36 rfl rfl ?_
  refine g75_15 (pc := 37) hr fl_X10_28 dX10_turn_37 ?_
  refine zx_bipush (pc := 40) (v := 10) dX10_turn_40 (by decide) ?_
  refine a82 (pc := 42) hr (zix_k (j := 10) (by decide) (by decide)) dX10_turn_42 ?_
  refine zx_iadd (pc := 43) dX10_turn_43 ?_
  refine zx_icmp_le (pc := 44) (tgt := 50) dX10_turn_44 (by decide) (fun h44 => by first | exact absurd h44 hl | exact absurd hl h44) (fun h44 => ?_)
  refine zx_bipush (pc := 47) (v := -3) dX10_turn_47 (by decide) ?_
  exact zx_fi (pc := 49) dX10_turn_49 rfl rfl (Nat.le_refl _) (Nat.le_refl _) rfl rfl
set_option maxHeartbeats 4000000 in
theorem m_turn_ok {d : Nat} {z : Nat} {x : Int32} {th : Int32} {mA : (Nat → Int32) × Int32 × Int32} {mB : Int32 × Int32 × (Nat → Int32) × (Nat → Int32) × Int32 × (Nat → Int32)} {mR : Int32 × Int32 × (Nat → Int32) × Int32 × (Nat → Int32)} {pg : (Nat → Int32)} {mq : (Nat → Int32)} {bb : (Nat → Int32)} {kp : (Nat → Int32) × (Nat → Int32)} {sn : Int32 × (Nat → Int32) × (Nat → Int32) × (Nat → Int32)} {ml : Int64} {mw : Int32 × Int32} {pn : Int32 × Int32 × Int32 × Int32} {wl : Int32 × Int32} {sp : Int32 × Int32} {rs : Int32 × Int32} {vl : (Nat → Int32)} {rho : List zCel} (hr : rho.length = 75) (hz : z ≤ 14) (hb : ¬ zIn x 1 9 = 0) (hl : pg 11 + x ≤ pg 9 + pg 10) : zCf yX10_turn cX10_turn 2 (some .int) (d + 1) [.ref 75, .int x] (rho ++ encM th mA mB mR pg mq (bb, (nI z)) kp sn ml mw pn wl sp rs vl) (some (.int (pg 11 + x))) (rho ++ encM 0 mA mB mR (upd pg 11 (pg 11 + x)) mq ((zNb bb z pg), (nI (min (z + 1) 14))) kp sn ml mw pn wl sp rs vl) := by
  refine zC.intro (by decide) (Nat.le_of_ble_eq_true rfl) rfl ?_
  refine zx_aload_n (pc := 0) dX10_turn_0 rfl rfl ?_
  refine zx_iconst (pc := 1) (v := 0) dX10_turn_1 (by decide) ?_
  refine u75_0 (pc := 2) hr fl_X10_56 dX10_turn_2 ?_
  refine zx_iload_n (pc := 5) dX10_turn_5 rfl rfl ?_
  refine zx_i2l (pc := 6) dX10_turn_6 rfl ?_
  refine zx_lconst (pc := 7) (v := 1) dX10_turn_7 (by decide) ?_
  refine zx_ldc2 (pc := 8) kl_X10_140 dX10_turn_8 ?_
  refine zx_fS1 (pc := 11) (r_in (d := d) (lo := 1) (hi := 9) rfl rfl rfl) cl_X10_63 dX10_turn_11 rfl rfl (by omega) (Nat.le_of_ble_eq_true rfl) (Nat.le_refl _) (Nat.le_refl _) ?_
  refine zx_if_ne (pc := 14) (tgt := 20) dX10_turn_14 (by decide) (fun h14 => ?_) (fun h14 => by first | exact absurd h14 hb | exact absurd hb h14)
  refine zx_aload_n (pc := 20) dX10_turn_20 rfl rfl ?_
  refine g75_15 (pc := 21) hr fl_X10_28 dX10_turn_21 ?_
  refine zx_bipush (pc := 24) (v := 11) dX10_turn_24 (by decide) ?_
  refine a82 (pc := 26) hr (zix_k (j := 11) (by decide) (by decide)) dX10_turn_26 ?_
  refine zx_iload_n (pc := 27) dX10_turn_27 rfl rfl ?_
  refine zx_iadd (pc := 28) dX10_turn_28 ?_
  refine zx_aload_n (pc := 29) dX10_turn_29 rfl rfl ?_
  refine g75_15 (pc := 30) hr fl_X10_28 dX10_turn_30 ?_
  refine zx_bipush (pc := 33) (v := 9) dX10_turn_33 (by decide) ?_
  refine a82 (pc := 35) hr (zix_k (j := 9) (by decide) (by decide)) dX10_turn_35 ?_
  refine zx_aload_n (pc := 36) dX10_turn_36 rfl rfl ?_
  refine g75_15 (pc := 37) hr fl_X10_28 dX10_turn_37 ?_
  refine zx_bipush (pc := 40) (v := 10) dX10_turn_40 (by decide) ?_
  refine a82 (pc := 42) hr (zix_k (j := 10) (by decide) (by decide)) dX10_turn_42 ?_
  refine zx_iadd (pc := 43) dX10_turn_43 ?_
  refine zx_icmp_le (pc := 44) (tgt := 50) dX10_turn_44 (by decide) (fun h44 => ?_) (fun h44 => by first | exact absurd h44 hl | exact absurd hl h44)
  refine zx_aload_n (pc := 50) dX10_turn_50 rfl rfl ?_
  refine zx_fV0 (pc := 51) (r_note (d := d) hr hz) cl_X10_133 (p75 hr) rfl dX10_turn_51 rfl rfl (by omega) (Nat.le_of_ble_eq_true rfl) (Nat.le_refl _) (Nat.le_refl _) ?_
  refine zx_aload_n (pc := 54) dX10_turn_54 rfl rfl ?_
  refine g75_15 (pc := 55) hr fl_X10_28 dX10_turn_55 ?_
  refine zx_bipush (pc := 58) (v := 11) dX10_turn_58 (by decide) ?_
  refine zx_dup2 (pc := 60) dX10_turn_60 rfl rfl ?_
  refine a82 (pc := 61) hr (zix_k (j := 11) (by decide) (by decide)) dX10_turn_61 ?_
  refine zx_iload_n (pc := 62) dX10_turn_62 rfl rfl ?_
  refine zx_iadd (pc := 63) dX10_turn_63 ?_
  refine s82 (pc := 64) hr (zix_k (j := 11) (by decide) (by decide)) dX10_turn_64 ?_
  refine zx_aload_n (pc := 65) dX10_turn_65 rfl rfl ?_
  refine g75_15 (pc := 66) hr fl_X10_28 dX10_turn_66 ?_
  refine zx_bipush (pc := 69) (v := 11) dX10_turn_69 (by decide) ?_
  refine a82 (pc := 71) hr (zix_k (j := 11) (by decide) (by decide)) dX10_turn_71 ?_
  exact zx_fi (pc := 72) dX10_turn_72 rfl rfl (Nat.le_refl _) (Nat.le_refl _) pk_us rfl
set_option maxHeartbeats 4000000 in
theorem m_lay_bad {d : Nat} {x : Int32} {th : Int32} {mA : (Nat → Int32) × Int32 × Int32} {mB : Int32 × Int32 × (Nat → Int32) × (Nat → Int32) × Int32 × (Nat → Int32)} {mR : Int32 × Int32 × (Nat → Int32) × Int32 × (Nat → Int32)} {pg : (Nat → Int32)} {mq : (Nat → Int32)} {bk : (Nat → Int32) × Int32} {kp : (Nat → Int32) × (Nat → Int32)} {sn : Int32 × (Nat → Int32) × (Nat → Int32) × (Nat → Int32)} {ml : Int64} {mw : Int32 × Int32} {pn : Int32 × Int32 × Int32 × Int32} {wl : Int32 × Int32} {sp : Int32 × Int32} {rs : Int32 × Int32} {vl : (Nat → Int32)} {rho : List zCel} (hr : rho.length = 75) (hb : zIn x 0 1 = 0) : zCf yX10_lay cX10_lay 3 (some .int) (d + 1) [.ref 75, .int x] (rho ++ encM th mA mB mR pg mq bk kp sn ml mw pn wl sp rs vl) (some (.int (-2))) (rho ++ encM 0 mA mB mR pg mq bk kp sn ml mw pn wl sp rs vl) := by
  refine zC.intro (by decide) (Nat.le_of_ble_eq_true rfl) rfl ?_
  refine zx_aload_n (pc := 0) dX10_lay_0 rfl rfl ?_
  refine zx_iconst (pc := 1) (v := 0) dX10_lay_1 (by decide) ?_
  refine u75_0 (pc := 2) hr fl_X10_56 dX10_lay_2 ?_
  refine zx_iload_n (pc := 5) dX10_lay_5 rfl rfl ?_
  refine zx_i2l (pc := 6) dX10_lay_6 rfl ?_
  refine zx_lconst (pc := 7) (v := 0) dX10_lay_7 (by decide) ?_
  refine zx_lconst (pc := 8) (v := 1) dX10_lay_8 (by decide) ?_
  refine zx_fS1 (pc := 9) (r_in (d := d) (lo := 0) (hi := 1) rfl rfl rfl) cl_X10_63 dX10_lay_9 rfl rfl (by omega) (Nat.le_of_ble_eq_true rfl) (Nat.le_refl _) (Nat.le_refl _) ?_
  refine zx_if_ne (pc := 12) (tgt := 18) dX10_lay_12 (by decide) (fun h12 => by first | exact absurd h12 hb | exact absurd hb h12) (fun h12 => ?_)
  refine zx_bipush (pc := 15) (v := -2) dX10_lay_15 (by decide) ?_
  exact zx_fi (pc := 17) dX10_lay_17 rfl rfl (Nat.le_refl _) (Nat.le_refl _) rfl rfl
set_option maxHeartbeats 4000000 in
theorem m_lay_full {d : Nat} {x : Int32} {th : Int32} {mA : (Nat → Int32) × Int32 × Int32} {mB : Int32 × Int32 × (Nat → Int32) × (Nat → Int32) × Int32 × (Nat → Int32)} {mR : Int32 × Int32 × (Nat → Int32) × Int32 × (Nat → Int32)} {pg : (Nat → Int32)} {mq : (Nat → Int32)} {bk : (Nat → Int32) × Int32} {kp : (Nat → Int32) × (Nat → Int32)} {sn : Int32 × (Nat → Int32) × (Nat → Int32) × (Nat → Int32)} {ml : Int64} {mw : Int32 × Int32} {pn : Int32 × Int32 × Int32 × Int32} {wl : Int32 × Int32} {sp : Int32 × Int32} {rs : Int32 × Int32} {vl : (Nat → Int32)} {rho : List zCel} (hr : rho.length = 75) (hb : ¬ zIn x 0 1 = 0) (hf : pg 12 = 8) : zCf yX10_lay cX10_lay 3 (some .int) (d + 1) [.ref 75, .int x] (rho ++ encM th mA mB mR pg mq bk kp sn ml mw pn wl sp rs vl) (some (.int (-4))) (rho ++ encM 0 mA mB mR pg mq bk kp sn ml mw pn wl sp rs vl) := by
  refine zC.intro (by decide) (Nat.le_of_ble_eq_true rfl) rfl ?_
  refine zx_aload_n (pc := 0) dX10_lay_0 rfl rfl ?_
  refine zx_iconst (pc := 1) (v := 0) dX10_lay_1 (by decide) ?_
  refine u75_0 (pc := 2) hr fl_X10_56 dX10_lay_2 ?_
  refine zx_iload_n (pc := 5) dX10_lay_5 rfl rfl ?_
  refine zx_i2l (pc := 6) dX10_lay_6 rfl ?_
  refine zx_lconst (pc := 7) (v := 0) dX10_lay_7 (by decide) ?_
  refine zx_lconst (pc := 8) (v := 1) dX10_lay_8 (by decide) ?_
  refine zx_fS1 (pc := 9) (r_in (d := d) (lo := 0) (hi := 1) rfl rfl rfl) cl_X10_63 dX10_lay_9 rfl rfl (by omega) (Nat.le_of_ble_eq_true rfl) (Nat.le_refl _) (Nat.le_refl _) ?_
  refine zx_if_ne (pc := 12) (tgt := 18) dX10_lay_12 (by decide) (fun h12 => ?_) (fun h12 => by first | exact absurd h12 hb | exact absurd hb h12)
  refine zx_aload_n (pc := 18) dX10_lay_18 rfl rfl ?_
  refine g75_15 (pc := 19) hr fl_X10_28 dX10_lay_19 ?_
  refine zx_bipush (pc := 22) (v := 12) dX10_lay_22 (by decide) ?_
  refine a82 (pc := 24) hr (zix_k (j := 12) (by decide) (by decide)) dX10_lay_24 ?_
  refine zx_bipush (pc := 25) (v := 8) dX10_lay_25 (by decide) ?_
  refine zx_icmp_ne (pc := 27) (tgt := 33) dX10_lay_27 (by decide) (fun h27 => by first | exact absurd h27 hf | exact absurd hf h27) (fun h27 => ?_)
  refine zx_bipush (pc := 30) (v := -4) dX10_lay_30 (by decide) ?_
  exact zx_fi (pc := 32) dX10_lay_32 rfl rfl (Nat.le_refl _) (Nat.le_refl _) rfl rfl
set_option maxHeartbeats 4000000 in
theorem m_lay_late0 {d : Nat}  {th : Int32} {mA : (Nat → Int32) × Int32 × Int32} {mB : Int32 × Int32 × (Nat → Int32) × (Nat → Int32) × Int32 × (Nat → Int32)} {mR : Int32 × Int32 × (Nat → Int32) × Int32 × (Nat → Int32)} {pg : (Nat → Int32)} {mq : (Nat → Int32)} {bk : (Nat → Int32) × Int32} {kp : (Nat → Int32) × (Nat → Int32)} {sn : Int32 × (Nat → Int32) × (Nat → Int32) × (Nat → Int32)} {ml : Int64} {mw : Int32 × Int32} {pn : Int32 × Int32 × Int32 × Int32} {wl : Int32 × Int32} {sp : Int32 × Int32} {rs : Int32 × Int32} {vl : (Nat → Int32)} {rho : List zCel} (hr : rho.length = 75) (hf : ¬ pg 12 = 8) (hl : ¬ 2 ≤ pg 10) : zCf yX10_lay cX10_lay 3 (some .int) (d + 1) [.ref 75, .int 0] (rho ++ encM th mA mB mR pg mq bk kp sn ml mw pn wl sp rs vl) (some (.int (-3))) (rho ++ encM 0 mA mB mR pg mq bk kp sn ml mw pn wl sp rs vl) := by
  refine zC.intro (by decide) (Nat.le_of_ble_eq_true rfl) rfl ?_
  refine zx_aload_n (pc := 0) dX10_lay_0 rfl rfl ?_
  refine zx_iconst (pc := 1) (v := 0) dX10_lay_1 (by decide) ?_
  refine u75_0 (pc := 2) hr fl_X10_56 dX10_lay_2 ?_
  refine zx_iload_n (pc := 5) dX10_lay_5 rfl rfl ?_
  refine zx_i2l (pc := 6) dX10_lay_6 rfl ?_
  refine zx_lconst (pc := 7) (v := 0) dX10_lay_7 (by decide) ?_
  refine zx_lconst (pc := 8) (v := 1) dX10_lay_8 (by decide) ?_
  refine zx_fS1 (pc := 9) (r_in (d := d) (lo := 0) (hi := 1) rfl rfl rfl) cl_X10_63 dX10_lay_9 rfl rfl (by omega) (Nat.le_of_ble_eq_true rfl) (Nat.le_refl _) (Nat.le_refl _) ?_
  refine zx_if_ne (pc := 12) (tgt := 18) dX10_lay_12 (by decide) (fun h12 => ?_) (fun h12 => by first | exact absurd h12 (show ¬ zIn 0 0 1 = 0 by decide) | exact absurd (show ¬ zIn 0 0 1 = 0 by decide) h12)
  refine zx_aload_n (pc := 18) dX10_lay_18 rfl rfl ?_
  refine g75_15 (pc := 19) hr fl_X10_28 dX10_lay_19 ?_
  refine zx_bipush (pc := 22) (v := 12) dX10_lay_22 (by decide) ?_
  refine a82 (pc := 24) hr (zix_k (j := 12) (by decide) (by decide)) dX10_lay_24 ?_
  refine zx_bipush (pc := 25) (v := 8) dX10_lay_25 (by decide) ?_
  refine zx_icmp_ne (pc := 27) (tgt := 33) dX10_lay_27 (by decide) (fun h27 => ?_) (fun h27 => by first | exact absurd h27 hf | exact absurd hf h27)
  refine zx_iload_n (pc := 33) dX10_lay_33 rfl rfl ?_
  refine zx_iconst (pc := 34) (v := 1) dX10_lay_34 (by decide) ?_
  refine zx_icmp_ne (pc := 35) (tgt := 43) dX10_lay_35 (by decide) (fun h35 => ?_) (fun h35 => by first | exact absurd h35 (show ¬ (0 : Int32) = 1 by decide) | exact absurd (show ¬ (0 : Int32) = 1 by decide) h35)
  refine zx_bipush (pc := 43) (v := 10) dX10_lay_43 (by decide) ?_
  refine st_2_3 (pc := 45) dX10_lay_45 rfl ?_
  refine zx_aload_n (pc := 46) dX10_lay_46 rfl rfl ?_
  refine g75_15 (pc := 47) hr fl_X10_28 dX10_lay_47 ?_
  refine zx_iload_n (pc := 50) dX10_lay_50 rfl rfl ?_
  refine a82 (pc := 51) hr (zix_k (j := 10) (by decide) (by decide)) dX10_lay_51 ?_
  refine zx_iconst (pc := 52) (v := 2) dX10_lay_52 (by decide) ?_
  refine zx_icmp_ge (pc := 53) (tgt := 59) dX10_lay_53 (by decide) (fun h53 => by first | exact absurd h53 hl | exact absurd hl h53) (fun h53 => ?_)
  refine zx_bipush (pc := 56) (v := -3) dX10_lay_56 (by decide) ?_
  exact zx_fi (pc := 58) dX10_lay_58 rfl rfl (Nat.le_refl _) (Nat.le_refl _) rfl rfl
set_option maxHeartbeats 4000000 in
theorem m_lay_ok0 {d : Nat} {z : Nat} {th : Int32} {mA : (Nat → Int32) × Int32 × Int32} {mB : Int32 × Int32 × (Nat → Int32) × (Nat → Int32) × Int32 × (Nat → Int32)} {mR : Int32 × Int32 × (Nat → Int32) × Int32 × (Nat → Int32)} {pg : (Nat → Int32)} {mq : (Nat → Int32)} {bb : (Nat → Int32)} {kp : (Nat → Int32) × (Nat → Int32)} {sn : Int32 × (Nat → Int32) × (Nat → Int32) × (Nat → Int32)} {ml : Int64} {mw : Int32 × Int32} {pn : Int32 × Int32 × Int32 × Int32} {wl : Int32 × Int32} {sp : Int32 × Int32} {rs : Int32 × Int32} {vl : (Nat → Int32)} {rho : List zCel} (hr : rho.length = 75) (hz : z ≤ 14) (hf : ¬ pg 12 = 8) (hl : 2 ≤ pg 10) : zCf yX10_lay cX10_lay 3 (some .int) (d + 1) [.ref 75, .int 0] (rho ++ encM th mA mB mR pg mq (bb, (nI z)) kp sn ml mw pn wl sp rs vl) (some (.int (pg 12 + 1))) (rho ++ encM 0 mA mB mR (upd (upd (upd pg 10 (pg 10 - 2)) 13 (pg 13 ||| (0 : Int32) <<< (pg 12 &&& 31))) 12 (pg 12 + 1)) mq ((zNb bb z pg), (nI (min (z + 1) 14))) kp sn ml mw pn wl sp rs vl) := by
  refine zC.intro (by decide) (Nat.le_of_ble_eq_true rfl) rfl ?_
  refine zx_aload_n (pc := 0) dX10_lay_0 rfl rfl ?_
  refine zx_iconst (pc := 1) (v := 0) dX10_lay_1 (by decide) ?_
  refine u75_0 (pc := 2) hr fl_X10_56 dX10_lay_2 ?_
  refine zx_iload_n (pc := 5) dX10_lay_5 rfl rfl ?_
  refine zx_i2l (pc := 6) dX10_lay_6 rfl ?_
  refine zx_lconst (pc := 7) (v := 0) dX10_lay_7 (by decide) ?_
  refine zx_lconst (pc := 8) (v := 1) dX10_lay_8 (by decide) ?_
  refine zx_fS1 (pc := 9) (r_in (d := d) (lo := 0) (hi := 1) rfl rfl rfl) cl_X10_63 dX10_lay_9 rfl rfl (by omega) (Nat.le_of_ble_eq_true rfl) (Nat.le_refl _) (Nat.le_refl _) ?_
  refine zx_if_ne (pc := 12) (tgt := 18) dX10_lay_12 (by decide) (fun h12 => ?_) (fun h12 => by first | exact absurd h12 (show ¬ zIn 0 0 1 = 0 by decide) | exact absurd (show ¬ zIn 0 0 1 = 0 by decide) h12)
  refine zx_aload_n (pc := 18) dX10_lay_18 rfl rfl ?_
  refine g75_15 (pc := 19) hr fl_X10_28 dX10_lay_19 ?_
  refine zx_bipush (pc := 22) (v := 12) dX10_lay_22 (by decide) ?_
  refine a82 (pc := 24) hr (zix_k (j := 12) (by decide) (by decide)) dX10_lay_24 ?_
  refine zx_bipush (pc := 25) (v := 8) dX10_lay_25 (by decide) ?_
  refine zx_icmp_ne (pc := 27) (tgt := 33) dX10_lay_27 (by decide) (fun h27 => ?_) (fun h27 => by first | exact absurd h27 hf | exact absurd hf h27)
  refine zx_iload_n (pc := 33) dX10_lay_33 rfl rfl ?_
  refine zx_iconst (pc := 34) (v := 1) dX10_lay_34 (by decide) ?_
  refine zx_icmp_ne (pc := 35) (tgt := 43) dX10_lay_35 (by decide) (fun h35 => ?_) (fun h35 => by first | exact absurd h35 (show ¬ (0 : Int32) = 1 by decide) | exact absurd (show ¬ (0 : Int32) = 1 by decide) h35)
  refine zx_bipush (pc := 43) (v := 10) dX10_lay_43 (by decide) ?_
  refine st_2_3 (pc := 45) dX10_lay_45 rfl ?_
  refine zx_aload_n (pc := 46) dX10_lay_46 rfl rfl ?_
  refine g75_15 (pc := 47) hr fl_X10_28 dX10_lay_47 ?_
  refine zx_iload_n (pc := 50) dX10_lay_50 rfl rfl ?_
  refine a82 (pc := 51) hr (zix_k (j := 10) (by decide) (by decide)) dX10_lay_51 ?_
  refine zx_iconst (pc := 52) (v := 2) dX10_lay_52 (by decide) ?_
  refine zx_icmp_ge (pc := 53) (tgt := 59) dX10_lay_53 (by decide) (fun h53 => ?_) (fun h53 => by first | exact absurd h53 hl | exact absurd hl h53)
  refine zx_aload_n (pc := 59) dX10_lay_59 rfl rfl ?_
  refine zx_fV0 (pc := 60) (r_note (d := d) hr hz) cl_X10_133 (p75 hr) rfl dX10_lay_60 rfl rfl (by omega) (Nat.le_of_ble_eq_true rfl) (Nat.le_refl _) (Nat.le_refl _) ?_
  refine zx_aload_n (pc := 63) dX10_lay_63 rfl rfl ?_
  refine g75_15 (pc := 64) hr fl_X10_28 dX10_lay_64 ?_
  refine zx_iload_n (pc := 67) dX10_lay_67 rfl rfl ?_
  refine zx_dup2 (pc := 68) dX10_lay_68 rfl rfl ?_
  refine a82 (pc := 69) hr (zix_k (j := 10) (by decide) (by decide)) dX10_lay_69 ?_
  refine zx_iconst (pc := 70) (v := 2) dX10_lay_70 (by decide) ?_
  refine zx_isub (pc := 71) dX10_lay_71 ?_
  refine s82 (pc := 72) hr (zix_k (j := 10) (by decide) (by decide)) dX10_lay_72 ?_
  refine zx_aload_n (pc := 73) dX10_lay_73 rfl rfl ?_
  refine g75_15 (pc := 74) hr fl_X10_28 dX10_lay_74 ?_
  refine zx_bipush (pc := 77) (v := 13) dX10_lay_77 (by decide) ?_
  refine zx_dup2 (pc := 79) dX10_lay_79 rfl rfl ?_
  refine a82 (pc := 80) hr (zix_k (j := 13) (by decide) (by decide)) dX10_lay_80 ?_
  rw [pk_un (show (13 : Nat) ≠ 10 by decide)]
  refine zx_iload_n (pc := 81) dX10_lay_81 rfl rfl ?_
  refine zx_aload_n (pc := 82) dX10_lay_82 rfl rfl ?_
  refine g75_15 (pc := 83) hr fl_X10_28 dX10_lay_83 ?_
  refine zx_bipush (pc := 86) (v := 12) dX10_lay_86 (by decide) ?_
  refine a82 (pc := 88) hr (zix_k (j := 12) (by decide) (by decide)) dX10_lay_88 ?_
  rw [pk_un (show (12 : Nat) ≠ 10 by decide)]
  refine zx_ishl (pc := 89) dX10_lay_89 ?_
  refine zx_ior (pc := 90) dX10_lay_90 ?_
  refine s82 (pc := 91) hr (zix_k (j := 13) (by decide) (by decide)) dX10_lay_91 ?_
  refine zx_aload_n (pc := 92) dX10_lay_92 rfl rfl ?_
  refine g75_15 (pc := 93) hr fl_X10_28 dX10_lay_93 ?_
  refine zx_bipush (pc := 96) (v := 12) dX10_lay_96 (by decide) ?_
  refine zx_dup2 (pc := 98) dX10_lay_98 rfl rfl ?_
  refine a82 (pc := 99) hr (zix_k (j := 12) (by decide) (by decide)) dX10_lay_99 ?_
  rw [pk_un (show (12 : Nat) ≠ 13 by decide), pk_un (show (12 : Nat) ≠ 10 by decide)]
  refine zx_iconst (pc := 100) (v := 1) dX10_lay_100 (by decide) ?_
  refine zx_iadd (pc := 101) dX10_lay_101 ?_
  refine s82 (pc := 102) hr (zix_k (j := 12) (by decide) (by decide)) dX10_lay_102 ?_
  refine zx_aload_n (pc := 103) dX10_lay_103 rfl rfl ?_
  refine g75_15 (pc := 104) hr fl_X10_28 dX10_lay_104 ?_
  refine zx_bipush (pc := 107) (v := 12) dX10_lay_107 (by decide) ?_
  refine a82 (pc := 109) hr (zix_k (j := 12) (by decide) (by decide)) dX10_lay_109 ?_
  exact zx_fi (pc := 110) dX10_lay_110 rfl rfl (Nat.le_refl _) (Nat.le_refl _) pk_us rfl
set_option maxHeartbeats 4000000 in
theorem m_lay_late1 {d : Nat}  {th : Int32} {mA : (Nat → Int32) × Int32 × Int32} {mB : Int32 × Int32 × (Nat → Int32) × (Nat → Int32) × Int32 × (Nat → Int32)} {mR : Int32 × Int32 × (Nat → Int32) × Int32 × (Nat → Int32)} {pg : (Nat → Int32)} {mq : (Nat → Int32)} {bk : (Nat → Int32) × Int32} {kp : (Nat → Int32) × (Nat → Int32)} {sn : Int32 × (Nat → Int32) × (Nat → Int32) × (Nat → Int32)} {ml : Int64} {mw : Int32 × Int32} {pn : Int32 × Int32 × Int32 × Int32} {wl : Int32 × Int32} {sp : Int32 × Int32} {rs : Int32 × Int32} {vl : (Nat → Int32)} {rho : List zCel} (hr : rho.length = 75) (hf : ¬ pg 12 = 8) (hl : ¬ 2 ≤ pg 9) : zCf yX10_lay cX10_lay 3 (some .int) (d + 1) [.ref 75, .int 1] (rho ++ encM th mA mB mR pg mq bk kp sn ml mw pn wl sp rs vl) (some (.int (-3))) (rho ++ encM 0 mA mB mR pg mq bk kp sn ml mw pn wl sp rs vl) := by
  refine zC.intro (by decide) (Nat.le_of_ble_eq_true rfl) rfl ?_
  refine zx_aload_n (pc := 0) dX10_lay_0 rfl rfl ?_
  refine zx_iconst (pc := 1) (v := 0) dX10_lay_1 (by decide) ?_
  refine u75_0 (pc := 2) hr fl_X10_56 dX10_lay_2 ?_
  refine zx_iload_n (pc := 5) dX10_lay_5 rfl rfl ?_
  refine zx_i2l (pc := 6) dX10_lay_6 rfl ?_
  refine zx_lconst (pc := 7) (v := 0) dX10_lay_7 (by decide) ?_
  refine zx_lconst (pc := 8) (v := 1) dX10_lay_8 (by decide) ?_
  refine zx_fS1 (pc := 9) (r_in (d := d) (lo := 0) (hi := 1) rfl rfl rfl) cl_X10_63 dX10_lay_9 rfl rfl (by omega) (Nat.le_of_ble_eq_true rfl) (Nat.le_refl _) (Nat.le_refl _) ?_
  refine zx_if_ne (pc := 12) (tgt := 18) dX10_lay_12 (by decide) (fun h12 => ?_) (fun h12 => by first | exact absurd h12 (show ¬ zIn 1 0 1 = 0 by decide) | exact absurd (show ¬ zIn 1 0 1 = 0 by decide) h12)
  refine zx_aload_n (pc := 18) dX10_lay_18 rfl rfl ?_
  refine g75_15 (pc := 19) hr fl_X10_28 dX10_lay_19 ?_
  refine zx_bipush (pc := 22) (v := 12) dX10_lay_22 (by decide) ?_
  refine a82 (pc := 24) hr (zix_k (j := 12) (by decide) (by decide)) dX10_lay_24 ?_
  refine zx_bipush (pc := 25) (v := 8) dX10_lay_25 (by decide) ?_
  refine zx_icmp_ne (pc := 27) (tgt := 33) dX10_lay_27 (by decide) (fun h27 => ?_) (fun h27 => by first | exact absurd h27 hf | exact absurd hf h27)
  refine zx_iload_n (pc := 33) dX10_lay_33 rfl rfl ?_
  refine zx_iconst (pc := 34) (v := 1) dX10_lay_34 (by decide) ?_
  refine zx_icmp_ne (pc := 35) (tgt := 43) dX10_lay_35 (by decide) (fun h35 => by first | exact absurd h35 (show (1 : Int32) = 1 from rfl) | exact absurd (show (1 : Int32) = 1 from rfl) h35) (fun h35 => ?_)
  refine zx_bipush (pc := 38) (v := 9) dX10_lay_38 (by decide) ?_
  refine zx_goto (pc := 40) (tgt := 45) dX10_lay_40 (by decide) ?_
  refine st_2_3 (pc := 45) dX10_lay_45 rfl ?_
  refine zx_aload_n (pc := 46) dX10_lay_46 rfl rfl ?_
  refine g75_15 (pc := 47) hr fl_X10_28 dX10_lay_47 ?_
  refine zx_iload_n (pc := 50) dX10_lay_50 rfl rfl ?_
  refine a82 (pc := 51) hr (zix_k (j := 9) (by decide) (by decide)) dX10_lay_51 ?_
  refine zx_iconst (pc := 52) (v := 2) dX10_lay_52 (by decide) ?_
  refine zx_icmp_ge (pc := 53) (tgt := 59) dX10_lay_53 (by decide) (fun h53 => by first | exact absurd h53 hl | exact absurd hl h53) (fun h53 => ?_)
  refine zx_bipush (pc := 56) (v := -3) dX10_lay_56 (by decide) ?_
  exact zx_fi (pc := 58) dX10_lay_58 rfl rfl (Nat.le_refl _) (Nat.le_refl _) rfl rfl
set_option maxHeartbeats 4000000 in
theorem m_lay_ok1 {d : Nat} {z : Nat} {th : Int32} {mA : (Nat → Int32) × Int32 × Int32} {mB : Int32 × Int32 × (Nat → Int32) × (Nat → Int32) × Int32 × (Nat → Int32)} {mR : Int32 × Int32 × (Nat → Int32) × Int32 × (Nat → Int32)} {pg : (Nat → Int32)} {mq : (Nat → Int32)} {bb : (Nat → Int32)} {kp : (Nat → Int32) × (Nat → Int32)} {sn : Int32 × (Nat → Int32) × (Nat → Int32) × (Nat → Int32)} {ml : Int64} {mw : Int32 × Int32} {pn : Int32 × Int32 × Int32 × Int32} {wl : Int32 × Int32} {sp : Int32 × Int32} {rs : Int32 × Int32} {vl : (Nat → Int32)} {rho : List zCel} (hr : rho.length = 75) (hz : z ≤ 14) (hf : ¬ pg 12 = 8) (hl : 2 ≤ pg 9) : zCf yX10_lay cX10_lay 3 (some .int) (d + 1) [.ref 75, .int 1] (rho ++ encM th mA mB mR pg mq (bb, (nI z)) kp sn ml mw pn wl sp rs vl) (some (.int (pg 12 + 1))) (rho ++ encM 0 mA mB mR (upd (upd (upd pg 9 (pg 9 - 2)) 13 (pg 13 ||| (1 : Int32) <<< (pg 12 &&& 31))) 12 (pg 12 + 1)) mq ((zNb bb z pg), (nI (min (z + 1) 14))) kp sn ml mw pn wl sp rs vl) := by
  refine zC.intro (by decide) (Nat.le_of_ble_eq_true rfl) rfl ?_
  refine zx_aload_n (pc := 0) dX10_lay_0 rfl rfl ?_
  refine zx_iconst (pc := 1) (v := 0) dX10_lay_1 (by decide) ?_
  refine u75_0 (pc := 2) hr fl_X10_56 dX10_lay_2 ?_
  refine zx_iload_n (pc := 5) dX10_lay_5 rfl rfl ?_
  refine zx_i2l (pc := 6) dX10_lay_6 rfl ?_
  refine zx_lconst (pc := 7) (v := 0) dX10_lay_7 (by decide) ?_
  refine zx_lconst (pc := 8) (v := 1) dX10_lay_8 (by decide) ?_
  refine zx_fS1 (pc := 9) (r_in (d := d) (lo := 0) (hi := 1) rfl rfl rfl) cl_X10_63 dX10_lay_9 rfl rfl (by omega) (Nat.le_of_ble_eq_true rfl) (Nat.le_refl _) (Nat.le_refl _) ?_
  refine zx_if_ne (pc := 12) (tgt := 18) dX10_lay_12 (by decide) (fun h12 => ?_) (fun h12 => by first | exact absurd h12 (show ¬ zIn 1 0 1 = 0 by decide) | exact absurd (show ¬ zIn 1 0 1 = 0 by decide) h12)
  refine zx_aload_n (pc := 18) dX10_lay_18 rfl rfl ?_
  refine g75_15 (pc := 19) hr fl_X10_28 dX10_lay_19 ?_
  refine zx_bipush (pc := 22) (v := 12) dX10_lay_22 (by decide) ?_
  refine a82 (pc := 24) hr (zix_k (j := 12) (by decide) (by decide)) dX10_lay_24 ?_
  refine zx_bipush (pc := 25) (v := 8) dX10_lay_25 (by decide) ?_
  refine zx_icmp_ne (pc := 27) (tgt := 33) dX10_lay_27 (by decide) (fun h27 => ?_) (fun h27 => by first | exact absurd h27 hf | exact absurd hf h27)
  refine zx_iload_n (pc := 33) dX10_lay_33 rfl rfl ?_
  refine zx_iconst (pc := 34) (v := 1) dX10_lay_34 (by decide) ?_
  refine zx_icmp_ne (pc := 35) (tgt := 43) dX10_lay_35 (by decide) (fun h35 => by first | exact absurd h35 (show (1 : Int32) = 1 from rfl) | exact absurd (show (1 : Int32) = 1 from rfl) h35) (fun h35 => ?_)
  refine zx_bipush (pc := 38) (v := 9) dX10_lay_38 (by decide) ?_
  refine zx_goto (pc := 40) (tgt := 45) dX10_lay_40 (by decide) ?_
  refine st_2_3 (pc := 45) dX10_lay_45 rfl ?_
  refine zx_aload_n (pc := 46) dX10_lay_46 rfl rfl ?_
  refine g75_15 (pc := 47) hr fl_X10_28 dX10_lay_47 ?_
  refine zx_iload_n (pc := 50) dX10_lay_50 rfl rfl ?_
  refine a82 (pc := 51) hr (zix_k (j := 9) (by decide) (by decide)) dX10_lay_51 ?_
  refine zx_iconst (pc := 52) (v := 2) dX10_lay_52 (by decide) ?_
  refine zx_icmp_ge (pc := 53) (tgt := 59) dX10_lay_53 (by decide) (fun h53 => ?_) (fun h53 => by first | exact absurd h53 hl | exact absurd hl h53)
  refine zx_aload_n (pc := 59) dX10_lay_59 rfl rfl ?_
  refine zx_fV0 (pc := 60) (r_note (d := d) hr hz) cl_X10_133 (p75 hr) rfl dX10_lay_60 rfl rfl (by omega) (Nat.le_of_ble_eq_true rfl) (Nat.le_refl _) (Nat.le_refl _) ?_
  refine zx_aload_n (pc := 63) dX10_lay_63 rfl rfl ?_
  refine g75_15 (pc := 64) hr fl_X10_28 dX10_lay_64 ?_
  refine zx_iload_n (pc := 67) dX10_lay_67 rfl rfl ?_
  refine zx_dup2 (pc := 68) dX10_lay_68 rfl rfl ?_
  refine a82 (pc := 69) hr (zix_k (j := 9) (by decide) (by decide)) dX10_lay_69 ?_
  refine zx_iconst (pc := 70) (v := 2) dX10_lay_70 (by decide) ?_
  refine zx_isub (pc := 71) dX10_lay_71 ?_
  refine s82 (pc := 72) hr (zix_k (j := 9) (by decide) (by decide)) dX10_lay_72 ?_
  refine zx_aload_n (pc := 73) dX10_lay_73 rfl rfl ?_
  refine g75_15 (pc := 74) hr fl_X10_28 dX10_lay_74 ?_
  refine zx_bipush (pc := 77) (v := 13) dX10_lay_77 (by decide) ?_
  refine zx_dup2 (pc := 79) dX10_lay_79 rfl rfl ?_
  refine a82 (pc := 80) hr (zix_k (j := 13) (by decide) (by decide)) dX10_lay_80 ?_
  rw [pk_un (show (13 : Nat) ≠ 9 by decide)]
  refine zx_iload_n (pc := 81) dX10_lay_81 rfl rfl ?_
  refine zx_aload_n (pc := 82) dX10_lay_82 rfl rfl ?_
  refine g75_15 (pc := 83) hr fl_X10_28 dX10_lay_83 ?_
  refine zx_bipush (pc := 86) (v := 12) dX10_lay_86 (by decide) ?_
  refine a82 (pc := 88) hr (zix_k (j := 12) (by decide) (by decide)) dX10_lay_88 ?_
  rw [pk_un (show (12 : Nat) ≠ 9 by decide)]
  refine zx_ishl (pc := 89) dX10_lay_89 ?_
  refine zx_ior (pc := 90) dX10_lay_90 ?_
  refine s82 (pc := 91) hr (zix_k (j := 13) (by decide) (by decide)) dX10_lay_91 ?_
  refine zx_aload_n (pc := 92) dX10_lay_92 rfl rfl ?_
  refine g75_15 (pc := 93) hr fl_X10_28 dX10_lay_93 ?_
  refine zx_bipush (pc := 96) (v := 12) dX10_lay_96 (by decide) ?_
  refine zx_dup2 (pc := 98) dX10_lay_98 rfl rfl ?_
  refine a82 (pc := 99) hr (zix_k (j := 12) (by decide) (by decide)) dX10_lay_99 ?_
  rw [pk_un (show (12 : Nat) ≠ 13 by decide), pk_un (show (12 : Nat) ≠ 9 by decide)]
  refine zx_iconst (pc := 100) (v := 1) dX10_lay_100 (by decide) ?_
  refine zx_iadd (pc := 101) dX10_lay_101 ?_
  refine s82 (pc := 102) hr (zix_k (j := 12) (by decide) (by decide)) dX10_lay_102 ?_
  refine zx_aload_n (pc := 103) dX10_lay_103 rfl rfl ?_
  refine g75_15 (pc := 104) hr fl_X10_28 dX10_lay_104 ?_
  refine zx_bipush (pc := 107) (v := 12) dX10_lay_107 (by decide) ?_
  refine a82 (pc := 109) hr (zix_k (j := 12) (by decide) (by decide)) dX10_lay_109 ?_
  exact zx_fi (pc := 110) dX10_lay_110 rfl rfl (Nat.le_refl _) (Nat.le_refl _) pk_us rfl
set_option maxHeartbeats 4000000 in
theorem m_rain {d : Nat} {z k : Nat} {th : Int32} {mA : (Nat → Int32) × Int32 × Int32} {mB : Int32 × Int32 × (Nat → Int32) × (Nat → Int32) × Int32 × (Nat → Int32)} {mR : Int32 × Int32 × (Nat → Int32) × Int32 × (Nat → Int32)} {pg : (Nat → Int32)} {mq : (Nat → Int32)} {bb : (Nat → Int32)} {kp : (Nat → Int32) × (Nat → Int32)} {sn : Int32 × (Nat → Int32) × (Nat → Int32) × (Nat → Int32)} {ml : Int64} {mw : Int32 × Int32} {pn : Int32 × Int32 × Int32 × Int32} {wl : Int32 × Int32} {sp : Int32 × Int32} {rs : Int32 × Int32} {vl : (Nat → Int32)} {rho : List zCel} (hr : rho.length = 75) (hz : z ≤ 14) (hk8 : k ≤ 8) (hk : pg 12 = nI k) : zCf yX10_rain cX10_rain 1 (some .int) (d + 2) [.ref 75] (rho ++ encM th mA mB mR pg mq (bb, (nI z)) kp sn ml mw pn wl sp rs vl) (some (.int (nI (zRa (k, pg 13)).1))) (rho ++ encM 0 mA mB mR (upd (upd pg 12 (nI (zRa (k, pg 13)).1)) 13 (zRa (k, pg 13)).2) mq ((zNb bb z pg), (nI (min (z + 1) 14))) kp sn ml mw pn (nI (zRa (k, pg 13)).1, (zRa (k, pg 13)).2) sp rs vl) := by
  refine zC.intro (by decide) (Nat.le_of_ble_eq_true rfl) rfl ?_
  refine zx_aload_n (pc := 0) dX10_rain_0 rfl rfl ?_
  refine zx_iconst (pc := 1) (v := 0) dX10_rain_1 (by decide) ?_
  refine u75_0 (pc := 2) hr fl_X10_56 dX10_rain_2 ?_
  refine zx_aload_n (pc := 5) dX10_rain_5 rfl rfl ?_
  refine zx_fV0 (pc := 6) (r_note (d := d + 1) hr hz) cl_X10_133 (p75 hr) rfl dX10_rain_6 rfl rfl (by omega) (Nat.le_of_ble_eq_true rfl) (Nat.le_refl _) (Nat.le_refl _) ?_
  refine zx_aload_n (pc := 9) dX10_rain_9 rfl rfl ?_
  refine zx_aload_n (pc := 10) dX10_rain_10 rfl rfl ?_
  refine g75_15 (pc := 11) hr fl_X10_28 dX10_rain_11 ?_
  refine zx_bipush (pc := 14) (v := 12) dX10_rain_14 (by decide) ?_
  refine a82 (pc := 16) hr (zix_k (j := 12) (by decide) (by decide)) dX10_rain_16 ?_
  rw [hk]
  refine u75_32 (pc := 17) hr fl_X10_142 dX10_rain_17 ?_
  refine zx_aload_n (pc := 20) dX10_rain_20 rfl rfl ?_
  refine zx_aload_n (pc := 21) dX10_rain_21 rfl rfl ?_
  refine g75_15 (pc := 22) hr fl_X10_28 dX10_rain_22 ?_
  refine zx_bipush (pc := 25) (v := 13) dX10_rain_25 (by decide) ?_
  refine a82 (pc := 27) hr (zix_k (j := 13) (by decide) (by decide)) dX10_rain_27 ?_
  refine u75_33 (pc := 28) hr fl_X10_145 dX10_rain_28 ?_
  refine zx_aload_n (pc := 31) dX10_rain_31 rfl rfl ?_
  refine zx_fV0 (pc := 32) (r_goRain (d := d) hr hk8) cl_X10_152 (p75 hr) rfl dX10_rain_32 rfl rfl (by omega) (Nat.le_of_ble_eq_true rfl) (Nat.le_refl _) (Nat.le_refl _) ?_
  refine zx_aload_n (pc := 35) dX10_rain_35 rfl rfl ?_
  refine g75_15 (pc := 36) hr fl_X10_28 dX10_rain_36 ?_
  refine zx_bipush (pc := 39) (v := 12) dX10_rain_39 (by decide) ?_
  refine zx_aload_n (pc := 41) dX10_rain_41 rfl rfl ?_
  refine g75_32 (pc := 42) hr fl_X10_142 dX10_rain_42 ?_
  refine s82 (pc := 45) hr (zix_k (j := 12) (by decide) (by decide)) dX10_rain_45 ?_
  refine zx_aload_n (pc := 46) dX10_rain_46 rfl rfl ?_
  refine g75_15 (pc := 47) hr fl_X10_28 dX10_rain_47 ?_
  refine zx_bipush (pc := 50) (v := 13) dX10_rain_50 (by decide) ?_
  refine zx_aload_n (pc := 52) dX10_rain_52 rfl rfl ?_
  refine g75_33 (pc := 53) hr fl_X10_145 dX10_rain_53 ?_
  refine s82 (pc := 56) hr (zix_k (j := 13) (by decide) (by decide)) dX10_rain_56 ?_
  refine zx_aload_n (pc := 57) dX10_rain_57 rfl rfl ?_
  refine g75_15 (pc := 58) hr fl_X10_28 dX10_rain_58 ?_
  refine zx_bipush (pc := 61) (v := 12) dX10_rain_61 (by decide) ?_
  refine a82 (pc := 63) hr (zix_k (j := 12) (by decide) (by decide)) dX10_rain_63 ?_
  exact zx_fi (pc := 64) dX10_rain_64 rfl rfl (Nat.le_refl _) (Nat.le_refl _) (by rw [pk_un (by decide), pk_us]) rfl
set_option maxHeartbeats 4000000 in
theorem lm_undo {d n0 z : Nat} {mA : (Nat → Int32) × Int32 × Int32} {mB : Int32 × Int32 × (Nat → Int32) × (Nat → Int32) × Int32 × (Nat → Int32)} {mR : Int32 × Int32 × (Nat → Int32) × Int32 × (Nat → Int32)} {pg : (Nat → Int32)} {mq : (Nat → Int32)} {bb : (Nat → Int32)} {kp : (Nat → Int32) × (Nat → Int32)} {sn : Int32 × (Nat → Int32) × (Nat → Int32) × (Nat → Int32)} {ml : Int64} {mw : Int32 × Int32} {pn : Int32 × Int32 × Int32 × Int32} {wl : Int32 × Int32} {sp : Int32 × Int32} {rs : Int32 × Int32} {vl : (Nat → Int32)} {rho : List zCel} (hr : rho.length = 75) (hz : z < 14) : ∀ k i : Nat, i + k = 16 → zX RX10 cX10_undo 2 (some .int) "undo" none d n0 0 0 0 0 (fun r s => r = some (.int (nI z)) ∧ s = rho ++ encM 0 mA mB mR (zC16 (fun j => bb (16 * z + j)) pg 16) mq (bb, (nI z)) kp sn ml mw pn wl sp rs vl) 27 [some (.ref 75), some (.int (nI i))] [] (rho ++ encM 0 mA mB mR (zC16 (fun j => bb (16 * z + j)) pg i) mq (bb, (nI z)) kp sn ml mw pn wl sp rs vl) := by
  intro k
  induction k with
  | zero =>
    intro i hi
    obtain rfl : i = 16 := by omega
    refine zx_iload_n (pc := 27) dX10_undo_27 rfl rfl ?_
    refine zx_bipush (pc := 28) (v := 16) dX10_undo_28 (by decide) ?_
    refine zx_icmp_ge (pc := 30) (tgt := 59) dX10_undo_30 (by decide) (fun h30 => ?_) (fun h30 => by first | exact absurd h30 (show (16 : Int32) ≤ nI 16 by decide) | exact absurd (show (16 : Int32) ≤ nI 16 by decide) h30)
    refine zx_aload_n (pc := 59) dX10_undo_59 rfl rfl ?_
    refine g75_18 (pc := 60) hr fl_X10_106 dX10_undo_60 ?_
    exact zx_fi (pc := 63) dX10_undo_63 rfl rfl (Nat.le_refl _) (Nat.le_refl _) rfl rfl
  | succ k ih =>
    intro i hi
    refine zx_iload_n (pc := 27) dX10_undo_27 rfl rfl ?_
    refine zx_bipush (pc := 28) (v := 16) dX10_undo_28 (by decide) ?_
    refine zx_icmp_ge (pc := 30) (tgt := 59) dX10_undo_30 (by decide) (fun h30 => by first | exact absurd h30 (show ¬ (16 : Int32) ≤ nI i from nI_ge (a := i) (b := 16) (by omega) (by decide)) | exact absurd (show ¬ (16 : Int32) ≤ nI i from nI_ge (a := i) (b := 16) (by omega) (by decide)) h30) (fun h30 => ?_)
    refine zx_aload_n (pc := 33) dX10_undo_33 rfl rfl ?_
    refine g75_15 (pc := 34) hr fl_X10_28 dX10_undo_34 ?_
    refine zx_iload_n (pc := 37) dX10_undo_37 rfl rfl ?_
    refine zx_aload_n (pc := 38) dX10_undo_38 rfl rfl ?_
    refine g75_17 (pc := 39) hr fl_X10_34 dX10_undo_39 ?_
    refine zx_bipush (pc := 42) (v := 16) dX10_undo_42 (by decide) ?_
    refine zx_aload_n (pc := 44) dX10_undo_44 rfl rfl ?_
    refine g75_18 (pc := 45) hr fl_X10_106 dX10_undo_45 ?_
    refine zx_imul (pc := 48) dX10_undo_48 ?_
    refine zx_iload_n (pc := 49) dX10_undo_49 rfl rfl ?_
    refine zx_iadd (pc := 50) dX10_undo_50 ?_
    refine a84 (pc := 51) hr (zix_m (a := z) (zm16 z) (by omega)) dX10_undo_51 ?_
    refine s82 (pc := 52) hr (zix_n (by omega)) dX10_undo_52 ?_
    refine ic_1_2_1 (pc := 53) dX10_undo_53 rfl ?_
    refine zx_goto (pc := 56) (tgt := 27) dX10_undo_56 (by decide) ?_
    rw [nI_1]
    exact zx_sg (sg' := rho ++ encM 0 mA mB mR (zC16 (fun j => bb (16 * z + j)) pg (i + 1)) mq (bb, (nI z)) kp sn ml mw pn wl sp rs vl) (by rw [← zC16_s (f := fun j => bb (16 * z + j))]) (ih (i + 1) (by omega))
set_option maxHeartbeats 4000000 in
theorem m_undo_late {d : Nat}  {th : Int32} {mA : (Nat → Int32) × Int32 × Int32} {mB : Int32 × Int32 × (Nat → Int32) × (Nat → Int32) × Int32 × (Nat → Int32)} {mR : Int32 × Int32 × (Nat → Int32) × Int32 × (Nat → Int32)} {pg : (Nat → Int32)} {mq : (Nat → Int32)} {bb : (Nat → Int32)} {kp : (Nat → Int32) × (Nat → Int32)} {sn : Int32 × (Nat → Int32) × (Nat → Int32) × (Nat → Int32)} {ml : Int64} {mw : Int32 × Int32} {pn : Int32 × Int32 × Int32 × Int32} {wl : Int32 × Int32} {sp : Int32 × Int32} {rs : Int32 × Int32} {vl : (Nat → Int32)} {rho : List zCel} (hr : rho.length = 75)  : zCf yX10_undo cX10_undo 2 (some .int) d [.ref 75] (rho ++ encM th mA mB mR pg mq (bb, (nI 0)) kp sn ml mw pn wl sp rs vl) (some (.int (-3))) (rho ++ encM 0 mA mB mR pg mq (bb, (nI 0)) kp sn ml mw pn wl sp rs vl) := by
  refine zC.intro (by decide) (Nat.le_of_ble_eq_true rfl) rfl ?_
  refine zx_aload_n (pc := 0) dX10_undo_0 rfl rfl ?_
  refine zx_iconst (pc := 1) (v := 0) dX10_undo_1 (by decide) ?_
  refine u75_0 (pc := 2) hr fl_X10_56 dX10_undo_2 ?_
  refine zx_aload_n (pc := 5) dX10_undo_5 rfl rfl ?_
  refine g75_18 (pc := 6) hr fl_X10_106 dX10_undo_6 ?_
  refine zx_if_ne (pc := 9) (tgt := 15) dX10_undo_9 (by decide) (fun h9 => by first | exact absurd h9 (show nI 0 = 0 from rfl) | exact absurd (show nI 0 = 0 from rfl) h9) (fun h9 => ?_)
  refine zx_bipush (pc := 12) (v := -3) dX10_undo_12 (by decide) ?_
  exact zx_fi (pc := 14) dX10_undo_14 rfl rfl (Nat.le_refl _) (Nat.le_refl _) rfl rfl
set_option maxHeartbeats 4000000 in
theorem m_undo_ok {d : Nat} {z : Nat} {th : Int32} {mA : (Nat → Int32) × Int32 × Int32} {mB : Int32 × Int32 × (Nat → Int32) × (Nat → Int32) × Int32 × (Nat → Int32)} {mR : Int32 × Int32 × (Nat → Int32) × Int32 × (Nat → Int32)} {pg : (Nat → Int32)} {mq : (Nat → Int32)} {bb : (Nat → Int32)} {kp : (Nat → Int32) × (Nat → Int32)} {sn : Int32 × (Nat → Int32) × (Nat → Int32) × (Nat → Int32)} {ml : Int64} {mw : Int32 × Int32} {pn : Int32 × Int32 × Int32 × Int32} {wl : Int32 × Int32} {sp : Int32 × Int32} {rs : Int32 × Int32} {vl : (Nat → Int32)} {rho : List zCel} (hr : rho.length = 75) (hz : z < 14) : zCf yX10_undo cX10_undo 2 (some .int) d [.ref 75] (rho ++ encM th mA mB mR pg mq (bb, (nI (z + 1))) kp sn ml mw pn wl sp rs vl) (some (.int (nI z))) (rho ++ encM 0 mA mB mR (zC16 (fun j => bb (16 * z + j)) pg 16) mq (bb, nI z) kp sn ml mw pn wl sp rs vl) := by
  refine zC.intro (by decide) (Nat.le_of_ble_eq_true rfl) rfl ?_
  refine zx_aload_n (pc := 0) dX10_undo_0 rfl rfl ?_
  refine zx_iconst (pc := 1) (v := 0) dX10_undo_1 (by decide) ?_
  refine u75_0 (pc := 2) hr fl_X10_56 dX10_undo_2 ?_
  refine zx_aload_n (pc := 5) dX10_undo_5 rfl rfl ?_
  refine g75_18 (pc := 6) hr fl_X10_106 dX10_undo_6 ?_
  refine zx_if_ne (pc := 9) (tgt := 15) dX10_undo_9 (by decide) (fun h9 => ?_) (fun h9 => by first | exact absurd h9 (nI_ne0 (show 0 < z + 1 by omega) (by omega)) | exact absurd (nI_ne0 (show 0 < z + 1 by omega) (by omega)) h9)
  refine zx_aload_n (pc := 15) dX10_undo_15 rfl rfl ?_
  refine zx_dup (pc := 16) dX10_undo_16 rfl ?_
  refine g75_18 (pc := 17) hr fl_X10_106 dX10_undo_17 ?_
  refine zx_iconst (pc := 20) (v := 1) dX10_undo_20 (by decide) ?_
  refine zx_isub (pc := 21) dX10_undo_21 ?_
  rw [nI_pred]
  refine u75_18 (pc := 22) hr fl_X10_106 dX10_undo_22 ?_
  refine zx_iconst (pc := 25) (v := 0) dX10_undo_25 (by decide) ?_
  refine st_1_2 (pc := 26) dX10_undo_26 rfl ?_
  exact zx_sg (sg' := rho ++ encM 0 mA mB mR (zC16 (fun j => bb (16 * z + j)) pg 0) mq (bb, (nI z)) kp sn ml mw pn wl sp rs vl) (by rw [zC16_0]) (lm_undo hr hz 16 0 (by omega))
set_option maxHeartbeats 4000000 in
theorem m_makes_n {d : Nat} {H F : Nat} {x y : Int32} {th : Int32} {mA : (Nat → Int32) × Int32 × Int32} {mo : Int32} {mg : (Nat → Int32)} {mk : (Nat → Int32)} {md : (Nat → Int32)} {mR : Int32 × Int32 × (Nat → Int32) × Int32 × (Nat → Int32)} {pg : (Nat → Int32)} {mq : (Nat → Int32)} {bk : (Nat → Int32) × Int32} {kp : (Nat → Int32) × (Nat → Int32)} {sn : Int32 × (Nat → Int32) × (Nat → Int32) × (Nat → Int32)} {ml : Int64} {mw : Int32 × Int32} {pn : Int32 × Int32 × Int32 × Int32} {wl : Int32 × Int32} {sp : Int32 × Int32} {rs : Int32 × Int32} {vl : (Nat → Int32)} {rho : List zCel} (hr : rho.length = 75) (hH : H ≤ 5) (h0 : zIn x 0 (zPw 10 H - 1) = 0) : zCf yX10_makes cX10_makes 3 (some .int) (d + 2) [.ref 75, .int x, .int y] (rho ++ encM th mA (mo, (nI H), mg, mk, (nI F), md) mR pg mq bk kp sn ml mw pn wl sp rs vl) (some (.int (-2))) (rho ++ encM 0 mA (mo, (nI H), mg, mk, (nI F), md) mR pg (zC16 pg mq 16) bk kp sn ml mw pn wl sp rs vl) := by
  refine zC.intro (by decide) (Nat.le_of_ble_eq_true rfl) rfl ?_
  refine zx_aload_n (pc := 0) dX10_makes_0 rfl rfl ?_
  refine zx_iconst (pc := 1) (v := 0) dX10_makes_1 (by decide) ?_
  refine u75_0 (pc := 2) hr fl_X10_56 dX10_makes_2 ?_
  refine zx_aload_n (pc := 5) dX10_makes_5 rfl rfl ?_
  refine zx_iload_n (pc := 6) dX10_makes_6 rfl rfl ?_
  refine zx_fV1 (pc := 7) (r_layPlan_n (d := d) hr hH h0) cl_X10_161 (p75 hr) rfl dX10_makes_7 rfl rfl (by omega) (Nat.le_of_ble_eq_true rfl) (Nat.le_refl _) (Nat.le_refl _) ?_
  refine zx_if_eq (pc := 10) (tgt := 23) dX10_makes_10 (by decide) (fun h10 => ?_) (fun h10 => by first | exact absurd h10 (show (0 : Int32) = 0 from rfl) | exact absurd (show (0 : Int32) = 0 from rfl) h10)
  refine zx_bipush (pc := 23) (v := -2) dX10_makes_23 (by decide) ?_
  exact zx_fi (pc := 25) dX10_makes_25 rfl rfl (Nat.le_refl _) (Nat.le_refl _) rfl rfl
set_option maxHeartbeats 4000000 in
theorem m_makes_f {d : Nat} {H F R : Nat} {y : Int32} {th : Int32} {mA : (Nat → Int32) × Int32 × Int32} {mo : Int32} {mg : (Nat → Int32)} {mk : (Nat → Int32)} {md : (Nat → Int32)} {mR : Int32 × Int32 × (Nat → Int32) × Int32 × (Nat → Int32)} {pg : (Nat → Int32)} {mq : (Nat → Int32)} {bk : (Nat → Int32) × Int32} {kp : (Nat → Int32) × (Nat → Int32)} {sn : Int32 × (Nat → Int32) × (Nat → Int32) × (Nat → Int32)} {ml : Int64} {mw : Int32 × Int32} {pn : Int32 × Int32 × Int32 × Int32} {wl : Int32 × Int32} {sp : Int32 × Int32} {rs : Int32 × Int32} {vl : (Nat → Int32)} {rho : List zCel} (hr : rho.length = 75) (hH : H ≤ 5) (hF : F ≤ 3) (hR : R < 10 ^ H) (h0 : (zLp F H R H (zC16 pg mq 16)).2 = 0) : zCf yX10_makes cX10_makes 3 (some .int) (d + 2) [.ref 75, .int (nI R), .int y] (rho ++ encM th mA (mo, (nI H), mg, mk, (nI F), md) mR pg mq bk kp sn ml mw pn wl sp rs vl) (some (.int (-2))) (rho ++ encM 0 mA (mo, (nI H), mg, mk, (nI F), md) mR pg (zLp F H R H (zC16 pg mq 16)).1 bk kp sn ml mw pn wl sp rs vl) := by
  refine zC.intro (by decide) (Nat.le_of_ble_eq_true rfl) rfl ?_
  refine zx_aload_n (pc := 0) dX10_makes_0 rfl rfl ?_
  refine zx_iconst (pc := 1) (v := 0) dX10_makes_1 (by decide) ?_
  refine u75_0 (pc := 2) hr fl_X10_56 dX10_makes_2 ?_
  refine zx_aload_n (pc := 5) dX10_makes_5 rfl rfl ?_
  refine zx_iload_n (pc := 6) dX10_makes_6 rfl rfl ?_
  refine zx_fV1 (pc := 7) (r_layPlan (d := d) hr hH hF hR) cl_X10_161 (p75 hr) rfl dX10_makes_7 rfl rfl (by omega) (Nat.le_of_ble_eq_true rfl) (Nat.le_refl _) (Nat.le_refl _) ?_
  refine zx_if_eq (pc := 10) (tgt := 23) dX10_makes_10 (by decide) (fun h10 => ?_) (fun h10 => by first | exact absurd h10 h0 | exact absurd h0 h10)
  refine zx_bipush (pc := 23) (v := -2) dX10_makes_23 (by decide) ?_
  exact zx_fi (pc := 25) dX10_makes_25 rfl rfl (Nat.le_refl _) (Nat.le_refl _) rfl rfl
set_option maxHeartbeats 4000000 in
theorem m_makes_bad {d : Nat} {H F R : Nat} {y : Int32} {th : Int32} {mA : (Nat → Int32) × Int32 × Int32} {mo : Int32} {mg : (Nat → Int32)} {mk : (Nat → Int32)} {md : (Nat → Int32)} {mR : Int32 × Int32 × (Nat → Int32) × Int32 × (Nat → Int32)} {pg : (Nat → Int32)} {mq : (Nat → Int32)} {bk : (Nat → Int32) × Int32} {kp : (Nat → Int32) × (Nat → Int32)} {sn : Int32 × (Nat → Int32) × (Nat → Int32) × (Nat → Int32)} {ml : Int64} {mw : Int32 × Int32} {pn : Int32 × Int32 × Int32 × Int32} {wl : Int32 × Int32} {sp : Int32 × Int32} {rs : Int32 × Int32} {vl : (Nat → Int32)} {rho : List zCel} (hr : rho.length = 75) (hH : H ≤ 5) (hF : F ≤ 3) (hR : R < 10 ^ H) (h0 : ¬ (zLp F H R H (zC16 pg mq 16)).2 = 0) (hb : zIn y 0 1 = 0) : zCf yX10_makes cX10_makes 3 (some .int) (d + 2) [.ref 75, .int (nI R), .int y] (rho ++ encM th mA (mo, (nI H), mg, mk, (nI F), md) mR pg mq bk kp sn ml mw pn wl sp rs vl) (some (.int (-2))) (rho ++ encM 0 mA (mo, (nI H), mg, mk, (nI F), md) mR pg (zLp F H R H (zC16 pg mq 16)).1 bk kp sn ml mw pn wl sp rs vl) := by
  refine zC.intro (by decide) (Nat.le_of_ble_eq_true rfl) rfl ?_
  refine zx_aload_n (pc := 0) dX10_makes_0 rfl rfl ?_
  refine zx_iconst (pc := 1) (v := 0) dX10_makes_1 (by decide) ?_
  refine u75_0 (pc := 2) hr fl_X10_56 dX10_makes_2 ?_
  refine zx_aload_n (pc := 5) dX10_makes_5 rfl rfl ?_
  refine zx_iload_n (pc := 6) dX10_makes_6 rfl rfl ?_
  refine zx_fV1 (pc := 7) (r_layPlan (d := d) hr hH hF hR) cl_X10_161 (p75 hr) rfl dX10_makes_7 rfl rfl (by omega) (Nat.le_of_ble_eq_true rfl) (Nat.le_refl _) (Nat.le_refl _) ?_
  refine zx_if_eq (pc := 10) (tgt := 23) dX10_makes_10 (by decide) (fun h10 => by first | exact absurd h10 h0 | exact absurd h0 h10) (fun h10 => ?_)
  refine zx_iload_n (pc := 13) dX10_makes_13 rfl rfl ?_
  refine zx_i2l (pc := 14) dX10_makes_14 rfl ?_
  refine zx_lconst (pc := 15) (v := 0) dX10_makes_15 (by decide) ?_
  refine zx_lconst (pc := 16) (v := 1) dX10_makes_16 (by decide) ?_
  refine zx_fS1 (pc := 17) (r_in (d := d + 1) (lo := 0) (hi := 1) rfl rfl rfl) cl_X10_63 dX10_makes_17 rfl rfl (by omega) (Nat.le_of_ble_eq_true rfl) (Nat.le_refl _) (Nat.le_refl _) ?_
  refine zx_if_ne (pc := 20) (tgt := 26) dX10_makes_20 (by decide) (fun h20 => by first | exact absurd h20 hb | exact absurd hb h20) (fun h20 => ?_)
  refine zx_bipush (pc := 23) (v := -2) dX10_makes_23 (by decide) ?_
  exact zx_fi (pc := 25) dX10_makes_25 rfl rfl (Nat.le_refl _) (Nat.le_refl _) rfl rfl
set_option maxHeartbeats 4000000 in
theorem m_makes_ok {d : Nat} {H F R : Nat} {y : Int32} {th : Int32} {mA : (Nat → Int32) × Int32 × Int32} {mo : Int32} {mg : (Nat → Int32)} {mk : (Nat → Int32)} {md : (Nat → Int32)} {mR : Int32 × Int32 × (Nat → Int32) × Int32 × (Nat → Int32)} {pg : (Nat → Int32)} {mq : (Nat → Int32)} {bk : (Nat → Int32) × Int32} {kp : (Nat → Int32) × (Nat → Int32)} {sn : Int32 × (Nat → Int32) × (Nat → Int32) × (Nat → Int32)} {ml : Int64} {mw : Int32 × Int32} {pn : Int32 × Int32 × Int32 × Int32} {wl : Int32 × Int32} {sp : Int32 × Int32} {rs : Int32 × Int32} {vl : (Nat → Int32)} {rho : List zCel} (hr : rho.length = 75) (hH : H ≤ 5) (hF : F ≤ 3) (hR : R < 10 ^ H) (h0 : ¬ (zLp F H R H (zC16 pg mq 16)).2 = 0) (hb : ¬ zIn y 0 1 = 0) : zCf yX10_makes cX10_makes 3 (some .int) (d + 2) [.ref 75, .int (nI R), .int y] (rho ++ encM th mA (mo, (nI H), mg, mk, (nI F), md) mR pg mq bk kp sn ml mw pn wl sp rs vl) (some (.int (if y = 0 then (zMd mg mk md F H (zLp F H R H (zC16 pg mq 16)).1).2.2.1 else (zMd mg mk md F H (zLp F H R H (zC16 pg mq 16)).1).2.2.2))) (rho ++ encM 0 mA (mo, (nI H), mg, mk, (nI F), md) mR pg (zPf (zLp F H R H (zC16 pg mq 16)).1 (zMd mg mk md F H (zLp F H R H (zC16 pg mq 16)).1)) bk kp sn ml ((zMd mg mk md F H (zLp F H R H (zC16 pg mq 16)).1).2.2.1, (zMd mg mk md F H (zLp F H R H (zC16 pg mq 16)).1).2.2.2) pn wl sp rs vl) := by
  refine zC.intro (by decide) (Nat.le_of_ble_eq_true rfl) rfl ?_
  refine zx_aload_n (pc := 0) dX10_makes_0 rfl rfl ?_
  refine zx_iconst (pc := 1) (v := 0) dX10_makes_1 (by decide) ?_
  refine u75_0 (pc := 2) hr fl_X10_56 dX10_makes_2 ?_
  refine zx_aload_n (pc := 5) dX10_makes_5 rfl rfl ?_
  refine zx_iload_n (pc := 6) dX10_makes_6 rfl rfl ?_
  refine zx_fV1 (pc := 7) (r_layPlan (d := d) hr hH hF hR) cl_X10_161 (p75 hr) rfl dX10_makes_7 rfl rfl (by omega) (Nat.le_of_ble_eq_true rfl) (Nat.le_refl _) (Nat.le_refl _) ?_
  refine zx_if_eq (pc := 10) (tgt := 23) dX10_makes_10 (by decide) (fun h10 => by first | exact absurd h10 h0 | exact absurd h0 h10) (fun h10 => ?_)
  refine zx_iload_n (pc := 13) dX10_makes_13 rfl rfl ?_
  refine zx_i2l (pc := 14) dX10_makes_14 rfl ?_
  refine zx_lconst (pc := 15) (v := 0) dX10_makes_15 (by decide) ?_
  refine zx_lconst (pc := 16) (v := 1) dX10_makes_16 (by decide) ?_
  refine zx_fS1 (pc := 17) (r_in (d := d + 1) (lo := 0) (hi := 1) rfl rfl rfl) cl_X10_63 dX10_makes_17 rfl rfl (by omega) (Nat.le_of_ble_eq_true rfl) (Nat.le_refl _) (Nat.le_refl _) ?_
  refine zx_if_ne (pc := 20) (tgt := 26) dX10_makes_20 (by decide) (fun h20 => ?_) (fun h20 => by first | exact absurd h20 hb | exact absurd hb h20)
  refine zx_aload_n (pc := 26) dX10_makes_26 rfl rfl ?_
  refine zx_aload_n (pc := 27) dX10_makes_27 rfl rfl ?_
  refine g75_16 (pc := 28) hr fl_X10_31 dX10_makes_28 ?_
  refine zx_fV0 (pc := 31) (r_goWork_t (d := d) hr hH hF (zLpv hH hF H _ (Nat.le_refl _) h0 (fun h q => absurd q (by omega)))) cl_X10_122 (p75 hr) rfl dX10_makes_31 rfl rfl (by omega) (Nat.le_of_ble_eq_true rfl) (Nat.le_refl _) (Nat.le_refl _) ?_
  refine zx_iload_n (pc := 34) dX10_makes_34 rfl rfl ?_
  refine zx_if_ne (pc := 35) (tgt := 45) dX10_makes_35 (by decide) (fun h35 => ?_) (fun h35 => ?_)
  · refine zx_aload_n (pc := 45) dX10_makes_45 rfl rfl ?_
    refine g75_27 (pc := 46) hr fl_X10_119 dX10_makes_46 ?_
    exact zx_fi (pc := 49) dX10_makes_49 rfl rfl (Nat.le_refl _) (Nat.le_refl _) (by first | (simp only [h10, h20, h35, reduceIte, not_true_eq_false, not_false_eq_true]; done) | (simp [h10, h20, h35]; done)) rfl
  · refine zx_aload_n (pc := 38) dX10_makes_38 rfl rfl ?_
    refine g75_26 (pc := 39) hr fl_X10_116 dX10_makes_39 ?_
    refine zx_goto (pc := 42) (tgt := 49) dX10_makes_42 (by decide) ?_
    exact zx_fi (pc := 49) dX10_makes_49 rfl rfl (Nat.le_refl _) (Nat.le_refl _) (by first | (simp only [h10, h20, h35, reduceIte, not_true_eq_false, not_false_eq_true]; done) | (simp [h10, h20, h35]; done)) rfl
set_option maxHeartbeats 4000000 in
theorem m_best_bad {d : Nat} {x : Int32} {th : Int32} {mA : (Nat → Int32) × Int32 × Int32} {mB : Int32 × Int32 × (Nat → Int32) × (Nat → Int32) × Int32 × (Nat → Int32)} {mR : Int32 × Int32 × (Nat → Int32) × Int32 × (Nat → Int32)} {pg : (Nat → Int32)} {mq : (Nat → Int32)} {bk : (Nat → Int32) × Int32} {kp : (Nat → Int32) × (Nat → Int32)} {sn : Int32 × (Nat → Int32) × (Nat → Int32) × (Nat → Int32)} {ml : Int64} {mw : Int32 × Int32} {pn : Int32 × Int32 × Int32 × Int32} {wl : Int32 × Int32} {sp : Int32 × Int32} {rs : Int32 × Int32} {vl : (Nat → Int32)} {rho : List zCel} (hr : rho.length = 75) (hb : zIn x 0 1 = 0) : zCf yX10_best cX10_best 2 (some .int) (d + 3) [.ref 75, .int x] (rho ++ encM th mA mB mR pg mq bk kp sn ml mw pn wl sp rs vl) (some (.int (-2))) (rho ++ encM 0 mA mB mR pg mq bk kp sn ml mw pn wl sp rs vl) := by
  refine zC.intro (by decide) (Nat.le_of_ble_eq_true rfl) rfl ?_
  refine zx_aload_n (pc := 0) dX10_best_0 rfl rfl ?_
  refine zx_iconst (pc := 1) (v := 0) dX10_best_1 (by decide) ?_
  refine u75_0 (pc := 2) hr fl_X10_56 dX10_best_2 ?_
  refine zx_iload_n (pc := 5) dX10_best_5 rfl rfl ?_
  refine zx_i2l (pc := 6) dX10_best_6 rfl ?_
  refine zx_lconst (pc := 7) (v := 0) dX10_best_7 (by decide) ?_
  refine zx_lconst (pc := 8) (v := 1) dX10_best_8 (by decide) ?_
  refine zx_fS1 (pc := 9) (r_in (d := d + 2) (lo := 0) (hi := 1) rfl rfl rfl) cl_X10_63 dX10_best_9 rfl rfl (by omega) (Nat.le_of_ble_eq_true rfl) (Nat.le_refl _) (Nat.le_refl _) ?_
  refine zx_if_ne (pc := 12) (tgt := 18) dX10_best_12 (by decide) (fun h12 => by first | exact absurd h12 hb | exact absurd hb h12) (fun h12 => ?_)
  refine zx_bipush (pc := 15) (v := -2) dX10_best_15 (by decide) ?_
  exact zx_fi (pc := 17) dX10_best_17 rfl rfl (Nat.le_refl _) (Nat.le_refl _) rfl rfl
set_option maxHeartbeats 4000000 in
theorem m_best {d : Nat} {H F : Nat} {x : Int32} {th : Int32} {mA : (Nat → Int32) × Int32 × Int32} {mo : Int32} {mg : (Nat → Int32)} {mk : (Nat → Int32)} {md : (Nat → Int32)} {mR : Int32 × Int32 × (Nat → Int32) × Int32 × (Nat → Int32)} {pg : (Nat → Int32)} {mq : (Nat → Int32)} {bk : (Nat → Int32) × Int32} {kp : (Nat → Int32) × (Nat → Int32)} {sn : Int32 × (Nat → Int32) × (Nat → Int32) × (Nat → Int32)} {ml : Int64} {mw : Int32 × Int32} {q1 : Int32} {q2 : Int32} {q3 : Int32} {q4 : Int32} {wl : Int32 × Int32} {sp : Int32 × Int32} {rs : Int32 × Int32} {vl : (Nat → Int32)} {rho : List zCel} (hr : rho.length = 75) (hH : H ≤ 5) (hF : F ≤ 3) (hb : ¬ zIn x 0 1 = 0) : zCf yX10_best cX10_best 2 (some .int) (d + 3) [.ref 75, .int x] (rho ++ encM th mA (mo, (nI H), mg, mk, (nI F), md) mR pg mq bk kp sn ml mw (q1, q2, q3, q4) wl sp rs vl) (some (.int (if x = 0 then (zFp mg mk md F H mo pg mq mw ((2 + F) ^ H)).2.1.1 else (zFp mg mk md F H mo pg mq mw ((2 + F) ^ H)).2.1.2.1))) (rho ++ encM 0 mA (mo, (nI H), mg, mk, (nI F), md) mR pg (zFp mg mk md F H mo pg mq mw ((2 + F) ^ H)).1 bk kp sn ml (zFp mg mk md F H mo pg mq mw ((2 + F) ^ H)).2.2 ((zFp mg mk md F H mo pg mq mw ((2 + F) ^ H)).2.1.1, (zFp mg mk md F H mo pg mq mw ((2 + F) ^ H)).2.1.2.1, (zFp mg mk md F H mo pg mq mw ((2 + F) ^ H)).2.1.2.2.2.1, (zFp mg mk md F H mo pg mq mw ((2 + F) ^ H)).2.1.2.2.2.2) wl sp rs vl) := by
  refine zC.intro (by decide) (Nat.le_of_ble_eq_true rfl) rfl ?_
  refine zx_aload_n (pc := 0) dX10_best_0 rfl rfl ?_
  refine zx_iconst (pc := 1) (v := 0) dX10_best_1 (by decide) ?_
  refine u75_0 (pc := 2) hr fl_X10_56 dX10_best_2 ?_
  refine zx_iload_n (pc := 5) dX10_best_5 rfl rfl ?_
  refine zx_i2l (pc := 6) dX10_best_6 rfl ?_
  refine zx_lconst (pc := 7) (v := 0) dX10_best_7 (by decide) ?_
  refine zx_lconst (pc := 8) (v := 1) dX10_best_8 (by decide) ?_
  refine zx_fS1 (pc := 9) (r_in (d := d + 2) (lo := 0) (hi := 1) rfl rfl rfl) cl_X10_63 dX10_best_9 rfl rfl (by omega) (Nat.le_of_ble_eq_true rfl) (Nat.le_refl _) (Nat.le_refl _) ?_
  refine zx_if_ne (pc := 12) (tgt := 18) dX10_best_12 (by decide) (fun h12 => ?_) (fun h12 => by first | exact absurd h12 hb | exact absurd hb h12)
  refine zx_aload_n (pc := 18) dX10_best_18 rfl rfl ?_
  refine zx_fV0 (pc := 19) (r_findPlans (d := d) hr hH hF) cl_X10_176 (p75 hr) rfl dX10_best_19 rfl rfl (by omega) (Nat.le_of_ble_eq_true rfl) (Nat.le_refl _) (Nat.le_refl _) ?_
  refine zx_iload_n (pc := 22) dX10_best_22 rfl rfl ?_
  refine zx_if_ne (pc := 23) (tgt := 33) dX10_best_23 (by decide) (fun h23 => ?_) (fun h23 => ?_)
  · refine zx_aload_n (pc := 33) dX10_best_33 rfl rfl ?_
    refine g75_29 (pc := 34) hr fl_X10_167 dX10_best_34 ?_
    exact zx_fi (pc := 37) dX10_best_37 rfl rfl (Nat.le_refl _) (Nat.le_refl _) (by first | (simp only [h12, h23, reduceIte, not_true_eq_false, not_false_eq_true]; done) | (simp [h12, h23]; done)) rfl
  · refine zx_aload_n (pc := 26) dX10_best_26 rfl rfl ?_
    refine g75_28 (pc := 27) hr fl_X10_164 dX10_best_27 ?_
    refine zx_goto (pc := 30) (tgt := 37) dX10_best_30 (by decide) ?_
    exact zx_fi (pc := 37) dX10_best_37 rfl rfl (Nat.le_refl _) (Nat.le_refl _) (by first | (simp only [h12, h23, reduceIte, not_true_eq_false, not_false_eq_true]; done) | (simp [h12, h23]; done)) rfl
set_option maxHeartbeats 4000000 in
theorem m_least {d : Nat} {H F : Nat} {th : Int32} {mA : (Nat → Int32) × Int32 × Int32} {mo : Int32} {mg : (Nat → Int32)} {mk : (Nat → Int32)} {md : (Nat → Int32)} {mR : Int32 × Int32 × (Nat → Int32) × Int32 × (Nat → Int32)} {pg : (Nat → Int32)} {mq : (Nat → Int32)} {bk : (Nat → Int32) × Int32} {kp : (Nat → Int32) × (Nat → Int32)} {sn : Int32 × (Nat → Int32) × (Nat → Int32) × (Nat → Int32)} {ml : Int64} {mw : Int32 × Int32} {q1 : Int32} {q2 : Int32} {q3 : Int32} {q4 : Int32} {wl : Int32 × Int32} {sp : Int32 × Int32} {rs : Int32 × Int32} {vl : (Nat → Int32)} {rho : List zCel} (hr : rho.length = 75) (hH : H ≤ 5) (hF : F ≤ 3)  : zCf yX10_least cX10_least 1 (some .int) (d + 3) [.ref 75] (rho ++ encM th mA (mo, (nI H), mg, mk, (nI F), md) mR pg mq bk kp sn ml mw (q1, q2, q3, q4) wl sp rs vl) (some (.int ((zFp mg mk md F H mo pg mq mw ((2 + F) ^ H)).2.1.2.2.2.1))) (rho ++ encM 0 mA (mo, (nI H), mg, mk, (nI F), md) mR pg (zFp mg mk md F H mo pg mq mw ((2 + F) ^ H)).1 bk kp sn ml (zFp mg mk md F H mo pg mq mw ((2 + F) ^ H)).2.2 ((zFp mg mk md F H mo pg mq mw ((2 + F) ^ H)).2.1.1, (zFp mg mk md F H mo pg mq mw ((2 + F) ^ H)).2.1.2.1, (zFp mg mk md F H mo pg mq mw ((2 + F) ^ H)).2.1.2.2.2.1, (zFp mg mk md F H mo pg mq mw ((2 + F) ^ H)).2.1.2.2.2.2) wl sp rs vl) := by
  refine zC.intro (by decide) (Nat.le_of_ble_eq_true rfl) rfl ?_
  refine zx_aload_n (pc := 0) dX10_least_0 rfl rfl ?_
  refine zx_iconst (pc := 1) (v := 0) dX10_least_1 (by decide) ?_
  refine u75_0 (pc := 2) hr fl_X10_56 dX10_least_2 ?_
  refine zx_aload_n (pc := 5) dX10_least_5 rfl rfl ?_
  refine zx_fV0 (pc := 6) (r_findPlans (d := d) hr hH hF) cl_X10_176 (p75 hr) rfl dX10_least_6 rfl rfl (by omega) (Nat.le_of_ble_eq_true rfl) (Nat.le_refl _) (Nat.le_refl _) ?_
  refine zx_aload_n (pc := 9) dX10_least_9 rfl rfl ?_
  refine g75_30 (pc := 10) hr fl_X10_170 dX10_least_10 ?_
  exact zx_fi (pc := 13) dX10_least_13 rfl rfl (Nat.le_refl _) (Nat.le_refl _) rfl rfl
set_option maxHeartbeats 4000000 in
theorem m_ask {d : Nat} {H F : Nat} {th : Int32} {mA : (Nat → Int32) × Int32 × Int32} {mo : Int32} {mg : (Nat → Int32)} {mk : (Nat → Int32)} {md : (Nat → Int32)} {mR : Int32 × Int32 × (Nat → Int32) × Int32 × (Nat → Int32)} {pg : (Nat → Int32)} {mq : (Nat → Int32)} {bk : (Nat → Int32) × Int32} {kp : (Nat → Int32) × (Nat → Int32)} {sn : Int32 × (Nat → Int32) × (Nat → Int32) × (Nat → Int32)} {ml : Int64} {mw : Int32 × Int32} {q1 : Int32} {q2 : Int32} {q3 : Int32} {q4 : Int32} {wl : Int32 × Int32} {sp : Int32 × Int32} {rs : Int32 × Int32} {vl : (Nat → Int32)} {rho : List zCel} (hr : rho.length = 75) (hH : H ≤ 5) (hF : F ≤ 3)  : zCf yX10_ask cX10_ask 1 (some .int) (d + 3) [.ref 75] (rho ++ encM th mA (mo, (nI H), mg, mk, (nI F), md) mR pg mq bk kp sn ml mw (q1, q2, q3, q4) wl sp rs vl) (some (.int ((zFp mg mk md F H mo pg mq mw ((2 + F) ^ H)).2.1.2.2.2.2))) (rho ++ encM 0 mA (mo, (nI H), mg, mk, (nI F), md) mR pg (zFp mg mk md F H mo pg mq mw ((2 + F) ^ H)).1 bk kp sn ml (zFp mg mk md F H mo pg mq mw ((2 + F) ^ H)).2.2 ((zFp mg mk md F H mo pg mq mw ((2 + F) ^ H)).2.1.1, (zFp mg mk md F H mo pg mq mw ((2 + F) ^ H)).2.1.2.1, (zFp mg mk md F H mo pg mq mw ((2 + F) ^ H)).2.1.2.2.2.1, (zFp mg mk md F H mo pg mq mw ((2 + F) ^ H)).2.1.2.2.2.2) wl sp rs vl) := by
  refine zC.intro (by decide) (Nat.le_of_ble_eq_true rfl) rfl ?_
  refine zx_aload_n (pc := 0) dX10_ask_0 rfl rfl ?_
  refine zx_iconst (pc := 1) (v := 0) dX10_ask_1 (by decide) ?_
  refine u75_0 (pc := 2) hr fl_X10_56 dX10_ask_2 ?_
  refine zx_aload_n (pc := 5) dX10_ask_5 rfl rfl ?_
  refine zx_fV0 (pc := 6) (r_findPlans (d := d) hr hH hF) cl_X10_176 (p75 hr) rfl dX10_ask_6 rfl rfl (by omega) (Nat.le_of_ble_eq_true rfl) (Nat.le_refl _) (Nat.le_refl _) ?_
  refine zx_aload_n (pc := 9) dX10_ask_9 rfl rfl ?_
  refine g75_31 (pc := 10) hr fl_X10_173 dX10_ask_10 ?_
  exact zx_fi (pc := 13) dX10_ask_13 rfl rfl (Nat.le_refl _) (Nat.le_refl _) rfl rfl
set_option maxHeartbeats 4000000 in
theorem m_spare_b1 {d : Nat} {x y u w : Int32} {th : Int32} {mA : (Nat → Int32) × Int32 × Int32} {mB : Int32 × Int32 × (Nat → Int32) × (Nat → Int32) × Int32 × (Nat → Int32)} {mR : Int32 × Int32 × (Nat → Int32) × Int32 × (Nat → Int32)} {pg : (Nat → Int32)} {mq : (Nat → Int32)} {bk : (Nat → Int32) × Int32} {kp : (Nat → Int32) × (Nat → Int32)} {sn : Int32 × (Nat → Int32) × (Nat → Int32) × (Nat → Int32)} {ml : Int64} {mw : Int32 × Int32} {pn : Int32 × Int32 × Int32 × Int32} {wl : Int32 × Int32} {sp : Int32 × Int32} {rs : Int32 × Int32} {vl : (Nat → Int32)} {rho : List zCel} (hr : rho.length = 75) (b1 : zIn x 1 8 = 0) : zCf yX10_spare cX10_spare 5 (some .int) (d + 4) [.ref 75, .int x, .int y, .int u, .int w] (rho ++ encM th mA mB mR pg mq bk kp sn ml mw pn wl sp rs vl) (some (.int (-2))) (rho ++ encM 0 mA mB mR pg mq bk kp sn ml mw pn wl sp rs vl) := by
  refine zC.intro (by decide) (Nat.le_of_ble_eq_true rfl) rfl ?_
  refine zx_aload_n (pc := 0) dX10_spare_0 rfl rfl ?_
  refine zx_iconst (pc := 1) (v := 0) dX10_spare_1 (by decide) ?_
  refine u75_0 (pc := 2) hr fl_X10_56 dX10_spare_2 ?_
  refine zx_iload_n (pc := 5) dX10_spare_5 rfl rfl ?_
  refine zx_i2l (pc := 6) dX10_spare_6 rfl ?_
  refine zx_lconst (pc := 7) (v := 1) dX10_spare_7 (by decide) ?_
  refine zx_ldc2 (pc := 8) kl_X10_192 dX10_spare_8 ?_
  refine zx_fS1 (pc := 11) (r_in (d := d + 3) (lo := 1) (hi := 8) rfl rfl rfl) cl_X10_63 dX10_spare_11 rfl rfl (by omega) (Nat.le_of_ble_eq_true rfl) (Nat.le_refl _) (Nat.le_refl _) ?_
  refine zx_if_eq (pc := 14) (tgt := 55) dX10_spare_14 (by decide) (fun h14 => ?_) (fun h14 => by first | exact absurd h14 b1 | exact absurd b1 h14)
  refine zx_bipush (pc := 55) (v := -2) dX10_spare_55 (by decide) ?_
  exact zx_fi (pc := 57) dX10_spare_57 rfl rfl (Nat.le_refl _) (Nat.le_refl _) rfl rfl
set_option maxHeartbeats 4000000 in
theorem m_spare_b2 {d : Nat} {x y u w : Int32} {th : Int32} {mA : (Nat → Int32) × Int32 × Int32} {mB : Int32 × Int32 × (Nat → Int32) × (Nat → Int32) × Int32 × (Nat → Int32)} {mR : Int32 × Int32 × (Nat → Int32) × Int32 × (Nat → Int32)} {pg : (Nat → Int32)} {mq : (Nat → Int32)} {bk : (Nat → Int32) × Int32} {kp : (Nat → Int32) × (Nat → Int32)} {sn : Int32 × (Nat → Int32) × (Nat → Int32) × (Nat → Int32)} {ml : Int64} {mw : Int32 × Int32} {pn : Int32 × Int32 × Int32 × Int32} {wl : Int32 × Int32} {sp : Int32 × Int32} {rs : Int32 × Int32} {vl : (Nat → Int32)} {rho : List zCel} (hr : rho.length = 75) (b1 : ¬ zIn x 1 8 = 0) (b2 : zIn y 0 3 = 0) : zCf yX10_spare cX10_spare 5 (some .int) (d + 4) [.ref 75, .int x, .int y, .int u, .int w] (rho ++ encM th mA mB mR pg mq bk kp sn ml mw pn wl sp rs vl) (some (.int (-2))) (rho ++ encM 0 mA mB mR pg mq bk kp sn ml mw pn wl sp rs vl) := by
  refine zC.intro (by decide) (Nat.le_of_ble_eq_true rfl) rfl ?_
  refine zx_aload_n (pc := 0) dX10_spare_0 rfl rfl ?_
  refine zx_iconst (pc := 1) (v := 0) dX10_spare_1 (by decide) ?_
  refine u75_0 (pc := 2) hr fl_X10_56 dX10_spare_2 ?_
  refine zx_iload_n (pc := 5) dX10_spare_5 rfl rfl ?_
  refine zx_i2l (pc := 6) dX10_spare_6 rfl ?_
  refine zx_lconst (pc := 7) (v := 1) dX10_spare_7 (by decide) ?_
  refine zx_ldc2 (pc := 8) kl_X10_192 dX10_spare_8 ?_
  refine zx_fS1 (pc := 11) (r_in (d := d + 3) (lo := 1) (hi := 8) rfl rfl rfl) cl_X10_63 dX10_spare_11 rfl rfl (by omega) (Nat.le_of_ble_eq_true rfl) (Nat.le_refl _) (Nat.le_refl _) ?_
  refine zx_if_eq (pc := 14) (tgt := 55) dX10_spare_14 (by decide) (fun h14 => by first | exact absurd h14 b1 | exact absurd b1 h14) (fun h14 => ?_)
  refine zx_iload_n (pc := 17) dX10_spare_17 rfl rfl ?_
  refine zx_i2l (pc := 18) dX10_spare_18 rfl ?_
  refine zx_lconst (pc := 19) (v := 0) dX10_spare_19 (by decide) ?_
  refine zx_ldc2 (pc := 20) kl_X10_194 dX10_spare_20 ?_
  refine zx_fS1 (pc := 23) (r_in (d := d + 3) (lo := 0) (hi := 3) rfl rfl rfl) cl_X10_63 dX10_spare_23 rfl rfl (by omega) (Nat.le_of_ble_eq_true rfl) (Nat.le_refl _) (Nat.le_refl _) ?_
  refine zx_if_eq (pc := 26) (tgt := 55) dX10_spare_26 (by decide) (fun h26 => ?_) (fun h26 => by first | exact absurd h26 b2 | exact absurd b2 h26)
  refine zx_bipush (pc := 55) (v := -2) dX10_spare_55 (by decide) ?_
  exact zx_fi (pc := 57) dX10_spare_57 rfl rfl (Nat.le_refl _) (Nat.le_refl _) rfl rfl
set_option maxHeartbeats 4000000 in
theorem m_spare_b3 {d : Nat} {x y u w : Int32} {th : Int32} {mA : (Nat → Int32) × Int32 × Int32} {mB : Int32 × Int32 × (Nat → Int32) × (Nat → Int32) × Int32 × (Nat → Int32)} {mR : Int32 × Int32 × (Nat → Int32) × Int32 × (Nat → Int32)} {pg : (Nat → Int32)} {mq : (Nat → Int32)} {bk : (Nat → Int32) × Int32} {kp : (Nat → Int32) × (Nat → Int32)} {sn : Int32 × (Nat → Int32) × (Nat → Int32) × (Nat → Int32)} {ml : Int64} {mw : Int32 × Int32} {pn : Int32 × Int32 × Int32 × Int32} {wl : Int32 × Int32} {sp : Int32 × Int32} {rs : Int32 × Int32} {vl : (Nat → Int32)} {rho : List zCel} (hr : rho.length = 75) (b1 : ¬ zIn x 1 8 = 0) (b2 : ¬ zIn y 0 3 = 0) (b3 : zIn u 0 ((1 : Int32) <<< (x &&& 31) - 1) = 0) : zCf yX10_spare cX10_spare 5 (some .int) (d + 4) [.ref 75, .int x, .int y, .int u, .int w] (rho ++ encM th mA mB mR pg mq bk kp sn ml mw pn wl sp rs vl) (some (.int (-2))) (rho ++ encM 0 mA mB mR pg mq bk kp sn ml mw pn wl sp rs vl) := by
  refine zC.intro (by decide) (Nat.le_of_ble_eq_true rfl) rfl ?_
  refine zx_aload_n (pc := 0) dX10_spare_0 rfl rfl ?_
  refine zx_iconst (pc := 1) (v := 0) dX10_spare_1 (by decide) ?_
  refine u75_0 (pc := 2) hr fl_X10_56 dX10_spare_2 ?_
  refine zx_iload_n (pc := 5) dX10_spare_5 rfl rfl ?_
  refine zx_i2l (pc := 6) dX10_spare_6 rfl ?_
  refine zx_lconst (pc := 7) (v := 1) dX10_spare_7 (by decide) ?_
  refine zx_ldc2 (pc := 8) kl_X10_192 dX10_spare_8 ?_
  refine zx_fS1 (pc := 11) (r_in (d := d + 3) (lo := 1) (hi := 8) rfl rfl rfl) cl_X10_63 dX10_spare_11 rfl rfl (by omega) (Nat.le_of_ble_eq_true rfl) (Nat.le_refl _) (Nat.le_refl _) ?_
  refine zx_if_eq (pc := 14) (tgt := 55) dX10_spare_14 (by decide) (fun h14 => by first | exact absurd h14 b1 | exact absurd b1 h14) (fun h14 => ?_)
  refine zx_iload_n (pc := 17) dX10_spare_17 rfl rfl ?_
  refine zx_i2l (pc := 18) dX10_spare_18 rfl ?_
  refine zx_lconst (pc := 19) (v := 0) dX10_spare_19 (by decide) ?_
  refine zx_ldc2 (pc := 20) kl_X10_194 dX10_spare_20 ?_
  refine zx_fS1 (pc := 23) (r_in (d := d + 3) (lo := 0) (hi := 3) rfl rfl rfl) cl_X10_63 dX10_spare_23 rfl rfl (by omega) (Nat.le_of_ble_eq_true rfl) (Nat.le_refl _) (Nat.le_refl _) ?_
  refine zx_if_eq (pc := 26) (tgt := 55) dX10_spare_26 (by decide) (fun h26 => by first | exact absurd h26 b2 | exact absurd b2 h26) (fun h26 => ?_)
  refine zx_iload_n (pc := 29) dX10_spare_29 rfl rfl ?_
  refine zx_i2l (pc := 30) dX10_spare_30 rfl ?_
  refine zx_lconst (pc := 31) (v := 0) dX10_spare_31 (by decide) ?_
  refine zx_iconst (pc := 32) (v := 1) dX10_spare_32 (by decide) ?_
  refine zx_iload_n (pc := 33) dX10_spare_33 rfl rfl ?_
  refine zx_ishl (pc := 34) dX10_spare_34 ?_
  refine zx_iconst (pc := 35) (v := 1) dX10_spare_35 (by decide) ?_
  refine zx_isub (pc := 36) dX10_spare_36 ?_
  refine zx_i2l (pc := 37) dX10_spare_37 rfl ?_
  refine zx_fS1 (pc := 38) (r_in (d := d + 3) (lo := 0) rfl rfl rfl) cl_X10_63 dX10_spare_38 rfl rfl (by omega) (Nat.le_of_ble_eq_true rfl) (Nat.le_refl _) (Nat.le_refl _) ?_
  refine zx_if_eq (pc := 41) (tgt := 55) dX10_spare_41 (by decide) (fun h41 => ?_) (fun h41 => by first | exact absurd h41 b3 | exact absurd b3 h41)
  refine zx_bipush (pc := 55) (v := -2) dX10_spare_55 (by decide) ?_
  exact zx_fi (pc := 57) dX10_spare_57 rfl rfl (Nat.le_refl _) (Nat.le_refl _) rfl rfl
set_option maxHeartbeats 4000000 in
theorem m_spare_b4 {d : Nat} {x y u w : Int32} {th : Int32} {mA : (Nat → Int32) × Int32 × Int32} {mB : Int32 × Int32 × (Nat → Int32) × (Nat → Int32) × Int32 × (Nat → Int32)} {mR : Int32 × Int32 × (Nat → Int32) × Int32 × (Nat → Int32)} {pg : (Nat → Int32)} {mq : (Nat → Int32)} {bk : (Nat → Int32) × Int32} {kp : (Nat → Int32) × (Nat → Int32)} {sn : Int32 × (Nat → Int32) × (Nat → Int32) × (Nat → Int32)} {ml : Int64} {mw : Int32 × Int32} {pn : Int32 × Int32 × Int32 × Int32} {wl : Int32 × Int32} {sp : Int32 × Int32} {rs : Int32 × Int32} {vl : (Nat → Int32)} {rho : List zCel} (hr : rho.length = 75) (b1 : ¬ zIn x 1 8 = 0) (b2 : ¬ zIn y 0 3 = 0) (b3 : ¬ zIn u 0 ((1 : Int32) <<< (x &&& 31) - 1) = 0) (b4 : zIn w 0 1 = 0) : zCf yX10_spare cX10_spare 5 (some .int) (d + 4) [.ref 75, .int x, .int y, .int u, .int w] (rho ++ encM th mA mB mR pg mq bk kp sn ml mw pn wl sp rs vl) (some (.int (-2))) (rho ++ encM 0 mA mB mR pg mq bk kp sn ml mw pn wl sp rs vl) := by
  refine zC.intro (by decide) (Nat.le_of_ble_eq_true rfl) rfl ?_
  refine zx_aload_n (pc := 0) dX10_spare_0 rfl rfl ?_
  refine zx_iconst (pc := 1) (v := 0) dX10_spare_1 (by decide) ?_
  refine u75_0 (pc := 2) hr fl_X10_56 dX10_spare_2 ?_
  refine zx_iload_n (pc := 5) dX10_spare_5 rfl rfl ?_
  refine zx_i2l (pc := 6) dX10_spare_6 rfl ?_
  refine zx_lconst (pc := 7) (v := 1) dX10_spare_7 (by decide) ?_
  refine zx_ldc2 (pc := 8) kl_X10_192 dX10_spare_8 ?_
  refine zx_fS1 (pc := 11) (r_in (d := d + 3) (lo := 1) (hi := 8) rfl rfl rfl) cl_X10_63 dX10_spare_11 rfl rfl (by omega) (Nat.le_of_ble_eq_true rfl) (Nat.le_refl _) (Nat.le_refl _) ?_
  refine zx_if_eq (pc := 14) (tgt := 55) dX10_spare_14 (by decide) (fun h14 => by first | exact absurd h14 b1 | exact absurd b1 h14) (fun h14 => ?_)
  refine zx_iload_n (pc := 17) dX10_spare_17 rfl rfl ?_
  refine zx_i2l (pc := 18) dX10_spare_18 rfl ?_
  refine zx_lconst (pc := 19) (v := 0) dX10_spare_19 (by decide) ?_
  refine zx_ldc2 (pc := 20) kl_X10_194 dX10_spare_20 ?_
  refine zx_fS1 (pc := 23) (r_in (d := d + 3) (lo := 0) (hi := 3) rfl rfl rfl) cl_X10_63 dX10_spare_23 rfl rfl (by omega) (Nat.le_of_ble_eq_true rfl) (Nat.le_refl _) (Nat.le_refl _) ?_
  refine zx_if_eq (pc := 26) (tgt := 55) dX10_spare_26 (by decide) (fun h26 => by first | exact absurd h26 b2 | exact absurd b2 h26) (fun h26 => ?_)
  refine zx_iload_n (pc := 29) dX10_spare_29 rfl rfl ?_
  refine zx_i2l (pc := 30) dX10_spare_30 rfl ?_
  refine zx_lconst (pc := 31) (v := 0) dX10_spare_31 (by decide) ?_
  refine zx_iconst (pc := 32) (v := 1) dX10_spare_32 (by decide) ?_
  refine zx_iload_n (pc := 33) dX10_spare_33 rfl rfl ?_
  refine zx_ishl (pc := 34) dX10_spare_34 ?_
  refine zx_iconst (pc := 35) (v := 1) dX10_spare_35 (by decide) ?_
  refine zx_isub (pc := 36) dX10_spare_36 ?_
  refine zx_i2l (pc := 37) dX10_spare_37 rfl ?_
  refine zx_fS1 (pc := 38) (r_in (d := d + 3) (lo := 0) rfl rfl rfl) cl_X10_63 dX10_spare_38 rfl rfl (by omega) (Nat.le_of_ble_eq_true rfl) (Nat.le_refl _) (Nat.le_refl _) ?_
  refine zx_if_eq (pc := 41) (tgt := 55) dX10_spare_41 (by decide) (fun h41 => by first | exact absurd h41 b3 | exact absurd b3 h41) (fun h41 => ?_)
  refine zx_iload (pc := 44) dX10_spare_44 rfl ?_
  refine zx_i2l (pc := 46) dX10_spare_46 rfl ?_
  refine zx_lconst (pc := 47) (v := 0) dX10_spare_47 (by decide) ?_
  refine zx_lconst (pc := 48) (v := 1) dX10_spare_48 (by decide) ?_
  refine zx_fS1 (pc := 49) (r_in (d := d + 3) (lo := 0) (hi := 1) rfl rfl rfl) cl_X10_63 dX10_spare_49 rfl rfl (by omega) (Nat.le_of_ble_eq_true rfl) (Nat.le_refl _) (Nat.le_refl _) ?_
  refine zx_if_ne (pc := 52) (tgt := 58) dX10_spare_52 (by decide) (fun h52 => by first | exact absurd h52 b4 | exact absurd b4 h52) (fun h52 => ?_)
  refine zx_bipush (pc := 55) (v := -2) dX10_spare_55 (by decide) ?_
  exact zx_fi (pc := 57) dX10_spare_57 rfl rfl (Nat.le_refl _) (Nat.le_refl _) rfl rfl
set_option maxHeartbeats 4000000 in
theorem m_spare {d : Nat} {N R : Nat} {u w : Int32} {th : Int32} {mA : (Nat → Int32) × Int32 × Int32} {mB : Int32 × Int32 × (Nat → Int32) × (Nat → Int32) × Int32 × (Nat → Int32)} {mR : Int32 × Int32 × (Nat → Int32) × Int32 × (Nat → Int32)} {pg : (Nat → Int32)} {mq : (Nat → Int32)} {bk : (Nat → Int32) × Int32} {kp : (Nat → Int32) × (Nat → Int32)} {sn : Int32 × (Nat → Int32) × (Nat → Int32) × (Nat → Int32)} {ml : Int64} {mw : Int32 × Int32} {pn : Int32 × Int32 × Int32 × Int32} {wl : Int32 × Int32} {i1 : Int32} {i2 : Int32} {rs : Int32 × Int32} {vl : (Nat → Int32)} {rho : List zCel} (hr : rho.length = 75) (hN : N ≤ 8) (hR : R ≤ 3) (b1 : ¬ zIn (nI N) 1 8 = 0) (b2 : ¬ zIn (nI R) 0 3 = 0) (b3 : ¬ zIn u 0 ((1 : Int32) <<< (nI N &&& 31) - 1) = 0) (b4 : ¬ zIn w 0 1 = 0) : zCf yX10_spare cX10_spare 5 (some .int) (d + 4) [.ref 75, .int (nI N), .int (nI R), .int u, .int w] (rho ++ encM th mA mB mR pg mq bk kp sn ml mw pn wl (i1, i2) rs vl) (some (.int (if w = 0 then (zSmR N R u (2 ^ N)).1 else (zSmR N R u (2 ^ N)).2))) (rho ++ encM 0 mA mB mR pg mq bk kp sn ml mw pn ((zWlN N R wl (2 ^ N)).1, (zWlN N R wl (2 ^ N)).2) ((zSmR N R u (2 ^ N)).1, (zSmR N R u (2 ^ N)).2) rs vl) := by
  refine zC.intro (by decide) (Nat.le_of_ble_eq_true rfl) rfl ?_
  refine zx_aload_n (pc := 0) dX10_spare_0 rfl rfl ?_
  refine zx_iconst (pc := 1) (v := 0) dX10_spare_1 (by decide) ?_
  refine u75_0 (pc := 2) hr fl_X10_56 dX10_spare_2 ?_
  refine zx_iload_n (pc := 5) dX10_spare_5 rfl rfl ?_
  refine zx_i2l (pc := 6) dX10_spare_6 rfl ?_
  refine zx_lconst (pc := 7) (v := 1) dX10_spare_7 (by decide) ?_
  refine zx_ldc2 (pc := 8) kl_X10_192 dX10_spare_8 ?_
  refine zx_fS1 (pc := 11) (r_in (d := d + 3) (lo := 1) (hi := 8) rfl rfl rfl) cl_X10_63 dX10_spare_11 rfl rfl (by omega) (Nat.le_of_ble_eq_true rfl) (Nat.le_refl _) (Nat.le_refl _) ?_
  refine zx_if_eq (pc := 14) (tgt := 55) dX10_spare_14 (by decide) (fun h14 => by first | exact absurd h14 b1 | exact absurd b1 h14) (fun h14 => ?_)
  refine zx_iload_n (pc := 17) dX10_spare_17 rfl rfl ?_
  refine zx_i2l (pc := 18) dX10_spare_18 rfl ?_
  refine zx_lconst (pc := 19) (v := 0) dX10_spare_19 (by decide) ?_
  refine zx_ldc2 (pc := 20) kl_X10_194 dX10_spare_20 ?_
  refine zx_fS1 (pc := 23) (r_in (d := d + 3) (lo := 0) (hi := 3) rfl rfl rfl) cl_X10_63 dX10_spare_23 rfl rfl (by omega) (Nat.le_of_ble_eq_true rfl) (Nat.le_refl _) (Nat.le_refl _) ?_
  refine zx_if_eq (pc := 26) (tgt := 55) dX10_spare_26 (by decide) (fun h26 => by first | exact absurd h26 b2 | exact absurd b2 h26) (fun h26 => ?_)
  refine zx_iload_n (pc := 29) dX10_spare_29 rfl rfl ?_
  refine zx_i2l (pc := 30) dX10_spare_30 rfl ?_
  refine zx_lconst (pc := 31) (v := 0) dX10_spare_31 (by decide) ?_
  refine zx_iconst (pc := 32) (v := 1) dX10_spare_32 (by decide) ?_
  refine zx_iload_n (pc := 33) dX10_spare_33 rfl rfl ?_
  refine zx_ishl (pc := 34) dX10_spare_34 ?_
  refine zx_iconst (pc := 35) (v := 1) dX10_spare_35 (by decide) ?_
  refine zx_isub (pc := 36) dX10_spare_36 ?_
  refine zx_i2l (pc := 37) dX10_spare_37 rfl ?_
  refine zx_fS1 (pc := 38) (r_in (d := d + 3) (lo := 0) rfl rfl rfl) cl_X10_63 dX10_spare_38 rfl rfl (by omega) (Nat.le_of_ble_eq_true rfl) (Nat.le_refl _) (Nat.le_refl _) ?_
  refine zx_if_eq (pc := 41) (tgt := 55) dX10_spare_41 (by decide) (fun h41 => by first | exact absurd h41 b3 | exact absurd b3 h41) (fun h41 => ?_)
  refine zx_iload (pc := 44) dX10_spare_44 rfl ?_
  refine zx_i2l (pc := 46) dX10_spare_46 rfl ?_
  refine zx_lconst (pc := 47) (v := 0) dX10_spare_47 (by decide) ?_
  refine zx_lconst (pc := 48) (v := 1) dX10_spare_48 (by decide) ?_
  refine zx_fS1 (pc := 49) (r_in (d := d + 3) (lo := 0) (hi := 1) rfl rfl rfl) cl_X10_63 dX10_spare_49 rfl rfl (by omega) (Nat.le_of_ble_eq_true rfl) (Nat.le_refl _) (Nat.le_refl _) ?_
  refine zx_if_ne (pc := 52) (tgt := 58) dX10_spare_52 (by decide) (fun h52 => ?_) (fun h52 => by first | exact absurd h52 b4 | exact absurd b4 h52)
  refine zx_aload_n (pc := 58) dX10_spare_58 rfl rfl ?_
  refine zx_iload_n (pc := 59) dX10_spare_59 rfl rfl ?_
  refine zx_iload_n (pc := 60) dX10_spare_60 rfl rfl ?_
  refine zx_iload_n (pc := 61) dX10_spare_61 rfl rfl ?_
  refine zx_fV0 (pc := 62) (r_findSpare (d := d) hr hN hR) cl_X10_196 (p75 hr) rfl dX10_spare_62 rfl rfl (by omega) (Nat.le_of_ble_eq_true rfl) (Nat.le_refl _) (Nat.le_refl _) ?_
  refine zx_iload (pc := 65) dX10_spare_65 rfl ?_
  refine zx_if_ne (pc := 67) (tgt := 77) dX10_spare_67 (by decide) (fun h67 => ?_) (fun h67 => ?_)
  · refine zx_aload_n (pc := 77) dX10_spare_77 rfl rfl ?_
    refine g75_35 (pc := 78) hr fl_X10_182 dX10_spare_78 ?_
    exact zx_fi (pc := 81) dX10_spare_81 rfl rfl (Nat.le_refl _) (Nat.le_refl _) (by first | (simp only [h14, h26, h41, h52, h67, reduceIte, not_true_eq_false, not_false_eq_true]; done) | (simp [h14, h26, h41, h52, h67]; done)) rfl
  · refine zx_aload_n (pc := 70) dX10_spare_70 rfl rfl ?_
    refine g75_34 (pc := 71) hr fl_X10_179 dX10_spare_71 ?_
    refine zx_goto (pc := 74) (tgt := 81) dX10_spare_74 (by decide) ?_
    exact zx_fi (pc := 81) dX10_spare_81 rfl rfl (Nat.le_refl _) (Nat.le_refl _) (by first | (simp only [h14, h26, h41, h52, h67, reduceIte, not_true_eq_false, not_false_eq_true]; done) | (simp [h14, h26, h41, h52, h67]; done)) rfl
set_option maxHeartbeats 4000000 in
theorem m_see_bad {d : Nat} {x y z : Int32} {th : Int32} {mA : (Nat → Int32) × Int32 × Int32} {mB : Int32 × Int32 × (Nat → Int32) × (Nat → Int32) × Int32 × (Nat → Int32)} {mR : Int32 × Int32 × (Nat → Int32) × Int32 × (Nat → Int32)} {pg : (Nat → Int32)} {mq : (Nat → Int32)} {bk : (Nat → Int32) × Int32} {kp : (Nat → Int32) × (Nat → Int32)} {sn : Int32 × (Nat → Int32) × (Nat → Int32) × (Nat → Int32)} {ml : Int64} {mw : Int32 × Int32} {pn : Int32 × Int32 × Int32 × Int32} {wl : Int32 × Int32} {sp : Int32 × Int32} {rs : Int32 × Int32} {vl : (Nat → Int32)} {rho : List zCel} (hr : rho.length = 75) (hb : ¬ (¬ zIn x 0 3 = 0 ∧ ¬ zIn y 0 7 = 0 ∧ ¬ zIn z 0 2 = 0)) : zCf yX10_see cX10_see 4 (some .int) (d + 1) [.ref 75, .int x, .int y, .int z] (rho ++ encM th mA mB mR pg mq bk kp sn ml mw pn wl sp rs vl) (some (.int (-2))) (rho ++ encM 0 mA mB mR pg mq bk kp sn ml mw pn wl sp rs vl) := by
  refine zC.intro (by decide) (Nat.le_of_ble_eq_true rfl) rfl ?_
  refine zx_aload_n (pc := 0) dX10_see_0 rfl rfl ?_
  refine zx_iconst (pc := 1) (v := 0) dX10_see_1 (by decide) ?_
  refine u75_0 (pc := 2) hr fl_X10_56 dX10_see_2 ?_
  refine zx_iload_n (pc := 5) dX10_see_5 rfl rfl ?_
  refine zx_i2l (pc := 6) dX10_see_6 rfl ?_
  refine zx_lconst (pc := 7) (v := 0) dX10_see_7 (by decide) ?_
  refine zx_ldc2 (pc := 8) kl_X10_194 dX10_see_8 ?_
  refine zx_fS1 (pc := 11) (r_in (d := d) (lo := 0) (hi := 3) rfl rfl rfl) cl_X10_63 dX10_see_11 rfl rfl (by omega) (Nat.le_of_ble_eq_true rfl) (Nat.le_refl _) (Nat.le_refl _) ?_
  refine zx_if_eq (pc := 14) (tgt := 41) dX10_see_14 (by decide) (fun h14 => ?_) (fun h14 => ?_)
  · refine zx_bipush (pc := 41) (v := -2) dX10_see_41 (by decide) ?_
    exact zx_fi (pc := 43) dX10_see_43 rfl rfl (Nat.le_refl _) (Nat.le_refl _) rfl rfl
  · refine zx_iload_n (pc := 17) dX10_see_17 rfl rfl ?_
    refine zx_i2l (pc := 18) dX10_see_18 rfl ?_
    refine zx_lconst (pc := 19) (v := 0) dX10_see_19 (by decide) ?_
    refine zx_ldc2 (pc := 20) kl_X10_209 dX10_see_20 ?_
    refine zx_fS1 (pc := 23) (r_in (d := d) (lo := 0) (hi := 7) rfl rfl rfl) cl_X10_63 dX10_see_23 rfl rfl (by omega) (Nat.le_of_ble_eq_true rfl) (Nat.le_refl _) (Nat.le_refl _) ?_
    refine zx_if_eq (pc := 26) (tgt := 41) dX10_see_26 (by decide) (fun h26 => ?_) (fun h26 => ?_)
    · refine zx_bipush (pc := 41) (v := -2) dX10_see_41 (by decide) ?_
      exact zx_fi (pc := 43) dX10_see_43 rfl rfl (Nat.le_refl _) (Nat.le_refl _) rfl rfl
    · refine zx_iload_n (pc := 29) dX10_see_29 rfl rfl ?_
      refine zx_i2l (pc := 30) dX10_see_30 rfl ?_
      refine zx_lconst (pc := 31) (v := 0) dX10_see_31 (by decide) ?_
      refine zx_ldc2 (pc := 32) kl_X10_211 dX10_see_32 ?_
      refine zx_fS1 (pc := 35) (r_in (d := d) (lo := 0) (hi := 2) rfl rfl rfl) cl_X10_63 dX10_see_35 rfl rfl (by omega) (Nat.le_of_ble_eq_true rfl) (Nat.le_refl _) (Nat.le_refl _) ?_
      refine zx_if_ne (pc := 38) (tgt := 44) dX10_see_38 (by decide) (fun h38 => ?_) (fun h38 => ?_)
      · exact absurd ⟨h14, h26, h38⟩ hb
      · refine zx_bipush (pc := 41) (v := -2) dX10_see_41 (by decide) ?_
        exact zx_fi (pc := 43) dX10_see_43 rfl rfl (Nat.le_refl _) (Nat.le_refl _) rfl rfl
set_option maxHeartbeats 4000000 in
theorem m_see_full {d : Nat} {x y z : Int32} {th : Int32} {mA : (Nat → Int32) × Int32 × Int32} {mB : Int32 × Int32 × (Nat → Int32) × (Nat → Int32) × Int32 × (Nat → Int32)} {mR : Int32 × Int32 × (Nat → Int32) × Int32 × (Nat → Int32)} {pg : (Nat → Int32)} {mq : (Nat → Int32)} {bk : (Nat → Int32) × Int32} {kp : (Nat → Int32) × (Nat → Int32)} {nr : (Nat → Int32)} {no : (Nat → Int32)} {nh : (Nat → Int32)} {ml : Int64} {mw : Int32 × Int32} {pn : Int32 × Int32 × Int32 × Int32} {wl : Int32 × Int32} {sp : Int32 × Int32} {rs : Int32 × Int32} {vl : (Nat → Int32)} {rho : List zCel} (hr : rho.length = 75) (b1 : ¬ zIn x 0 3 = 0) (b2 : ¬ zIn y 0 7 = 0) (b3 : ¬ zIn z 0 2 = 0) : zCf yX10_see cX10_see 4 (some .int) (d + 1) [.ref 75, .int x, .int y, .int z] (rho ++ encM th mA mB mR pg mq bk kp ((nI 6), nr, no, nh) ml mw pn wl sp rs vl) (some (.int (-4))) (rho ++ encM 0 mA mB mR pg mq bk kp ((nI 6), nr, no, nh) ml mw pn wl sp rs vl) := by
  refine zC.intro (by decide) (Nat.le_of_ble_eq_true rfl) rfl ?_
  refine zx_aload_n (pc := 0) dX10_see_0 rfl rfl ?_
  refine zx_iconst (pc := 1) (v := 0) dX10_see_1 (by decide) ?_
  refine u75_0 (pc := 2) hr fl_X10_56 dX10_see_2 ?_
  refine zx_iload_n (pc := 5) dX10_see_5 rfl rfl ?_
  refine zx_i2l (pc := 6) dX10_see_6 rfl ?_
  refine zx_lconst (pc := 7) (v := 0) dX10_see_7 (by decide) ?_
  refine zx_ldc2 (pc := 8) kl_X10_194 dX10_see_8 ?_
  refine zx_fS1 (pc := 11) (r_in (d := d) (lo := 0) (hi := 3) rfl rfl rfl) cl_X10_63 dX10_see_11 rfl rfl (by omega) (Nat.le_of_ble_eq_true rfl) (Nat.le_refl _) (Nat.le_refl _) ?_
  refine zx_if_eq (pc := 14) (tgt := 41) dX10_see_14 (by decide) (fun h14 => by first | exact absurd h14 b1 | exact absurd b1 h14) (fun h14 => ?_)
  refine zx_iload_n (pc := 17) dX10_see_17 rfl rfl ?_
  refine zx_i2l (pc := 18) dX10_see_18 rfl ?_
  refine zx_lconst (pc := 19) (v := 0) dX10_see_19 (by decide) ?_
  refine zx_ldc2 (pc := 20) kl_X10_209 dX10_see_20 ?_
  refine zx_fS1 (pc := 23) (r_in (d := d) (lo := 0) (hi := 7) rfl rfl rfl) cl_X10_63 dX10_see_23 rfl rfl (by omega) (Nat.le_of_ble_eq_true rfl) (Nat.le_refl _) (Nat.le_refl _) ?_
  refine zx_if_eq (pc := 26) (tgt := 41) dX10_see_26 (by decide) (fun h26 => by first | exact absurd h26 b2 | exact absurd b2 h26) (fun h26 => ?_)
  refine zx_iload_n (pc := 29) dX10_see_29 rfl rfl ?_
  refine zx_i2l (pc := 30) dX10_see_30 rfl ?_
  refine zx_lconst (pc := 31) (v := 0) dX10_see_31 (by decide) ?_
  refine zx_ldc2 (pc := 32) kl_X10_211 dX10_see_32 ?_
  refine zx_fS1 (pc := 35) (r_in (d := d) (lo := 0) (hi := 2) rfl rfl rfl) cl_X10_63 dX10_see_35 rfl rfl (by omega) (Nat.le_of_ble_eq_true rfl) (Nat.le_refl _) (Nat.le_refl _) ?_
  refine zx_if_ne (pc := 38) (tgt := 44) dX10_see_38 (by decide) (fun h38 => ?_) (fun h38 => by first | exact absurd h38 b3 | exact absurd b3 h38)
  refine zx_aload_n (pc := 44) dX10_see_44 rfl rfl ?_
  refine g75_21 (pc := 45) hr fl_X10_126 dX10_see_45 ?_
  refine zx_bipush (pc := 48) (v := 6) dX10_see_48 (by decide) ?_
  refine zx_icmp_ne (pc := 50) (tgt := 56) dX10_see_50 (by decide) (fun h50 => by first | exact absurd h50 (show nI 6 = 6 from rfl) | exact absurd (show nI 6 = 6 from rfl) h50) (fun h50 => ?_)
  refine zx_bipush (pc := 53) (v := -4) dX10_see_53 (by decide) ?_
  exact zx_fi (pc := 55) dX10_see_55 rfl rfl (Nat.le_refl _) (Nat.le_refl _) rfl rfl
set_option maxHeartbeats 4000000 in
theorem m_see_ok {d : Nat} {S : Nat} {x y z : Int32} {th : Int32} {mA : (Nat → Int32) × Int32 × Int32} {mB : Int32 × Int32 × (Nat → Int32) × (Nat → Int32) × Int32 × (Nat → Int32)} {mR : Int32 × Int32 × (Nat → Int32) × Int32 × (Nat → Int32)} {pg : (Nat → Int32)} {mq : (Nat → Int32)} {bk : (Nat → Int32) × Int32} {kp : (Nat → Int32) × (Nat → Int32)} {nr : (Nat → Int32)} {no : (Nat → Int32)} {nh : (Nat → Int32)} {ml : Int64} {mw : Int32 × Int32} {pn : Int32 × Int32 × Int32 × Int32} {wl : Int32 × Int32} {sp : Int32 × Int32} {rs : Int32 × Int32} {vl : (Nat → Int32)} {rho : List zCel} (hr : rho.length = 75) (b1 : ¬ zIn x 0 3 = 0) (b2 : ¬ zIn y 0 7 = 0) (b3 : ¬ zIn z 0 2 = 0) (hS : S < 6) : zCf yX10_see cX10_see 4 (some .int) (d + 1) [.ref 75, .int x, .int y, .int z] (rho ++ encM th mA mB mR pg mq bk kp ((nI S), nr, no, nh) ml mw pn wl sp rs vl) (some (.int (nI (S + 1)))) (rho ++ encM 0 mA mB mR pg mq bk kp ((nI (S + 1)), (upd nr S x), (upd no S y), (upd nh S z)) ml mw pn wl sp rs vl) := by
  refine zC.intro (by decide) (Nat.le_of_ble_eq_true rfl) rfl ?_
  refine zx_aload_n (pc := 0) dX10_see_0 rfl rfl ?_
  refine zx_iconst (pc := 1) (v := 0) dX10_see_1 (by decide) ?_
  refine u75_0 (pc := 2) hr fl_X10_56 dX10_see_2 ?_
  refine zx_iload_n (pc := 5) dX10_see_5 rfl rfl ?_
  refine zx_i2l (pc := 6) dX10_see_6 rfl ?_
  refine zx_lconst (pc := 7) (v := 0) dX10_see_7 (by decide) ?_
  refine zx_ldc2 (pc := 8) kl_X10_194 dX10_see_8 ?_
  refine zx_fS1 (pc := 11) (r_in (d := d) (lo := 0) (hi := 3) rfl rfl rfl) cl_X10_63 dX10_see_11 rfl rfl (by omega) (Nat.le_of_ble_eq_true rfl) (Nat.le_refl _) (Nat.le_refl _) ?_
  refine zx_if_eq (pc := 14) (tgt := 41) dX10_see_14 (by decide) (fun h14 => by first | exact absurd h14 b1 | exact absurd b1 h14) (fun h14 => ?_)
  refine zx_iload_n (pc := 17) dX10_see_17 rfl rfl ?_
  refine zx_i2l (pc := 18) dX10_see_18 rfl ?_
  refine zx_lconst (pc := 19) (v := 0) dX10_see_19 (by decide) ?_
  refine zx_ldc2 (pc := 20) kl_X10_209 dX10_see_20 ?_
  refine zx_fS1 (pc := 23) (r_in (d := d) (lo := 0) (hi := 7) rfl rfl rfl) cl_X10_63 dX10_see_23 rfl rfl (by omega) (Nat.le_of_ble_eq_true rfl) (Nat.le_refl _) (Nat.le_refl _) ?_
  refine zx_if_eq (pc := 26) (tgt := 41) dX10_see_26 (by decide) (fun h26 => by first | exact absurd h26 b2 | exact absurd b2 h26) (fun h26 => ?_)
  refine zx_iload_n (pc := 29) dX10_see_29 rfl rfl ?_
  refine zx_i2l (pc := 30) dX10_see_30 rfl ?_
  refine zx_lconst (pc := 31) (v := 0) dX10_see_31 (by decide) ?_
  refine zx_ldc2 (pc := 32) kl_X10_211 dX10_see_32 ?_
  refine zx_fS1 (pc := 35) (r_in (d := d) (lo := 0) (hi := 2) rfl rfl rfl) cl_X10_63 dX10_see_35 rfl rfl (by omega) (Nat.le_of_ble_eq_true rfl) (Nat.le_refl _) (Nat.le_refl _) ?_
  refine zx_if_ne (pc := 38) (tgt := 44) dX10_see_38 (by decide) (fun h38 => ?_) (fun h38 => by first | exact absurd h38 b3 | exact absurd b3 h38)
  refine zx_aload_n (pc := 44) dX10_see_44 rfl rfl ?_
  refine g75_21 (pc := 45) hr fl_X10_126 dX10_see_45 ?_
  refine zx_bipush (pc := 48) (v := 6) dX10_see_48 (by decide) ?_
  refine zx_icmp_ne (pc := 50) (tgt := 56) dX10_see_50 (by decide) (fun h50 => ?_) (fun h50 => by first | exact absurd h50 (show ¬ nI S = 6 from fun q => by have := (nI_eq (a := S) (b := 6) (by omega) (by decide)).mp q; omega) | exact absurd (show ¬ nI S = 6 from fun q => by have := (nI_eq (a := S) (b := 6) (by omega) (by decide)).mp q; omega) h50)
  refine zx_aload_n (pc := 56) dX10_see_56 rfl rfl ?_
  refine g75_22 (pc := 57) hr fl_X10_44 dX10_see_57 ?_
  refine zx_aload_n (pc := 60) dX10_see_60 rfl rfl ?_
  refine g75_21 (pc := 61) hr fl_X10_126 dX10_see_61 ?_
  refine zx_iload_n (pc := 64) dX10_see_64 rfl rfl ?_
  refine s87 (pc := 65) hr (zix_n (by omega)) dX10_see_65 ?_
  refine zx_aload_n (pc := 66) dX10_see_66 rfl rfl ?_
  refine g75_23 (pc := 67) hr fl_X10_47 dX10_see_67 ?_
  refine zx_aload_n (pc := 70) dX10_see_70 rfl rfl ?_
  refine g75_21 (pc := 71) hr fl_X10_126 dX10_see_71 ?_
  refine zx_iload_n (pc := 74) dX10_see_74 rfl rfl ?_
  refine s88 (pc := 75) hr (zix_n (by omega)) dX10_see_75 ?_
  refine zx_aload_n (pc := 76) dX10_see_76 rfl rfl ?_
  refine g75_24 (pc := 77) hr fl_X10_50 dX10_see_77 ?_
  refine zx_aload_n (pc := 80) dX10_see_80 rfl rfl ?_
  refine g75_21 (pc := 81) hr fl_X10_126 dX10_see_81 ?_
  refine zx_iload_n (pc := 84) dX10_see_84 rfl rfl ?_
  refine s89 (pc := 85) hr (zix_n (by omega)) dX10_see_85 ?_
  refine zx_aload_n (pc := 86) dX10_see_86 rfl rfl ?_
  refine zx_dup (pc := 87) dX10_see_87 rfl ?_
  refine g75_21 (pc := 88) hr fl_X10_126 dX10_see_88 ?_
  refine zx_iconst (pc := 91) (v := 1) dX10_see_91 (by decide) ?_
  refine zx_iadd (pc := 92) dX10_see_92 ?_
  rw [nI_1]
  refine u75_21 (pc := 93) hr fl_X10_126 dX10_see_93 ?_
  refine zx_aload_n (pc := 96) dX10_see_96 rfl rfl ?_
  refine g75_21 (pc := 97) hr fl_X10_126 dX10_see_97 ?_
  exact zx_fi (pc := 100) dX10_see_100 rfl rfl (Nat.le_refl _) (Nat.le_refl _) rfl rfl
set_option maxHeartbeats 4000000 in
theorem m_unsee {d : Nat}  {th : Int32} {mA : (Nat → Int32) × Int32 × Int32} {mB : Int32 × Int32 × (Nat → Int32) × (Nat → Int32) × Int32 × (Nat → Int32)} {mR : Int32 × Int32 × (Nat → Int32) × Int32 × (Nat → Int32)} {pg : (Nat → Int32)} {mq : (Nat → Int32)} {bk : (Nat → Int32) × Int32} {kp : (Nat → Int32) × (Nat → Int32)} {nz : Int32} {nr : (Nat → Int32)} {no : (Nat → Int32)} {nh : (Nat → Int32)} {ml : Int64} {mw : Int32 × Int32} {pn : Int32 × Int32 × Int32 × Int32} {wl : Int32 × Int32} {sp : Int32 × Int32} {rs : Int32 × Int32} {vl : (Nat → Int32)} {rho : List zCel} (hr : rho.length = 75)  : zCf yX10_unsee cX10_unsee 2 (some .int) d [.ref 75] (rho ++ encM th mA mB mR pg mq bk kp (nz, nr, no, nh) ml mw pn wl sp rs vl) (some (.int (nz))) (rho ++ encM 0 mA mB mR pg mq bk kp (0, nr, no, nh) ml mw pn wl sp rs vl) := by
  refine zC.intro (by decide) (Nat.le_of_ble_eq_true rfl) rfl ?_
  refine zx_aload_n (pc := 0) dX10_unsee_0 rfl rfl ?_
  refine zx_iconst (pc := 1) (v := 0) dX10_unsee_1 (by decide) ?_
  refine u75_0 (pc := 2) hr fl_X10_56 dX10_unsee_2 ?_
  refine zx_aload_n (pc := 5) dX10_unsee_5 rfl rfl ?_
  refine g75_21 (pc := 6) hr fl_X10_126 dX10_unsee_6 ?_
  refine st_1_2 (pc := 9) dX10_unsee_9 rfl ?_
  refine zx_aload_n (pc := 10) dX10_unsee_10 rfl rfl ?_
  refine zx_iconst (pc := 11) (v := 0) dX10_unsee_11 (by decide) ?_
  refine u75_21 (pc := 12) hr fl_X10_126 dX10_unsee_12 ?_
  refine zx_iload_n (pc := 15) dX10_unsee_15 rfl rfl ?_
  exact zx_fi (pc := 16) dX10_unsee_16 rfl rfl (Nat.le_refl _) (Nat.le_refl _) rfl rfl
set_option maxHeartbeats 4000000 in
theorem m_rests_bad {d : Nat} {x : Int32} {th : Int32} {mA : (Nat → Int32) × Int32 × Int32} {mB : Int32 × Int32 × (Nat → Int32) × (Nat → Int32) × Int32 × (Nat → Int32)} {mR : Int32 × Int32 × (Nat → Int32) × Int32 × (Nat → Int32)} {pg : (Nat → Int32)} {mq : (Nat → Int32)} {bk : (Nat → Int32) × Int32} {kp : (Nat → Int32) × (Nat → Int32)} {sn : Int32 × (Nat → Int32) × (Nat → Int32) × (Nat → Int32)} {ml : Int64} {mw : Int32 × Int32} {pn : Int32 × Int32 × Int32 × Int32} {wl : Int32 × Int32} {sp : Int32 × Int32} {rs : Int32 × Int32} {vl : (Nat → Int32)} {rho : List zCel} (hr : rho.length = 75) (hb : zIn x 0 1 = 0) : zCf yX10_rests cX10_rests 2 (some .int) (d + 2) [.ref 75, .int x] (rho ++ encM th mA mB mR pg mq bk kp sn ml mw pn wl sp rs vl) (some (.int (-2))) (rho ++ encM 0 mA mB mR pg mq bk kp sn ml mw pn wl sp rs vl) := by
  refine zC.intro (by decide) (Nat.le_of_ble_eq_true rfl) rfl ?_
  refine zx_aload_n (pc := 0) dX10_rests_0 rfl rfl ?_
  refine zx_iconst (pc := 1) (v := 0) dX10_rests_1 (by decide) ?_
  refine u75_0 (pc := 2) hr fl_X10_56 dX10_rests_2 ?_
  refine zx_iload_n (pc := 5) dX10_rests_5 rfl rfl ?_
  refine zx_i2l (pc := 6) dX10_rests_6 rfl ?_
  refine zx_lconst (pc := 7) (v := 0) dX10_rests_7 (by decide) ?_
  refine zx_lconst (pc := 8) (v := 1) dX10_rests_8 (by decide) ?_
  refine zx_fS1 (pc := 9) (r_in (d := d + 1) (lo := 0) (hi := 1) rfl rfl rfl) cl_X10_63 dX10_rests_9 rfl rfl (by omega) (Nat.le_of_ble_eq_true rfl) (Nat.le_refl _) (Nat.le_refl _) ?_
  refine zx_if_ne (pc := 12) (tgt := 18) dX10_rests_12 (by decide) (fun h12 => by first | exact absurd h12 hb | exact absurd hb h12) (fun h12 => ?_)
  refine zx_bipush (pc := 15) (v := -2) dX10_rests_15 (by decide) ?_
  exact zx_fi (pc := 17) dX10_rests_17 rfl rfl (Nat.le_refl _) (Nat.le_refl _) rfl rfl
set_option maxHeartbeats 4000000 in
theorem m_rests {d : Nat} {H F M : Nat} {x : Int32} {th : Int32} {mA : (Nat → Int32) × Int32 × Int32} {mo : Int32} {mg : (Nat → Int32)} {mk : (Nat → Int32)} {md : (Nat → Int32)} {mR : Int32 × Int32 × (Nat → Int32) × Int32 × (Nat → Int32)} {pg : (Nat → Int32)} {mq : (Nat → Int32)} {bk : (Nat → Int32) × Int32} {kp : (Nat → Int32) × (Nat → Int32)} {sn : Int32 × (Nat → Int32) × (Nat → Int32) × (Nat → Int32)} {ml : Int64} {mw : Int32 × Int32} {pn : Int32 × Int32 × Int32 × Int32} {wl : Int32 × Int32} {sp : Int32 × Int32} {f1 : Int32} {f2 : Int32} {vl : (Nat → Int32)} {rho : List zCel} (hr : rho.length = 75) (hH : H ≤ 5) (hF : F ≤ 3) (hv : ∀ h, h < H → ∃ t : Nat, t < 2 + F ∧ pg h = nI t) (hb : ¬ zIn x 0 1 = 0) (hM : M ≤ 9) (hm : (zMd mg mk md F H (zC16 pg mq 16)).2.2.1 = nI M) : zCf yX10_rests cX10_rests 2 (some .int) (d + 2) [.ref 75, .int x] (rho ++ encM th mA (mo, (nI H), mg, mk, (nI F), md) mR pg mq bk kp sn ml mw pn wl sp (f1, f2) vl) (some (.int (if x = 0 then (zRmO M 10).1 else (zRmO M 10).2))) (rho ++ encM 0 mA (mo, (nI H), mg, mk, (nI F), md) mR pg (zPf (zC16 pg mq 16) (zMd mg mk md F H (zC16 pg mq 16))) bk kp sn ml ((zMd mg mk md F H (zC16 pg mq 16)).2.2.1, (zMd mg mk md F H (zC16 pg mq 16)).2.2.2) pn wl sp ((zRmO M 10).1, (zRmO M 10).2) vl) := by
  refine zC.intro (by decide) (Nat.le_of_ble_eq_true rfl) rfl ?_
  refine zx_aload_n (pc := 0) dX10_rests_0 rfl rfl ?_
  refine zx_iconst (pc := 1) (v := 0) dX10_rests_1 (by decide) ?_
  refine u75_0 (pc := 2) hr fl_X10_56 dX10_rests_2 ?_
  refine zx_iload_n (pc := 5) dX10_rests_5 rfl rfl ?_
  refine zx_i2l (pc := 6) dX10_rests_6 rfl ?_
  refine zx_lconst (pc := 7) (v := 0) dX10_rests_7 (by decide) ?_
  refine zx_lconst (pc := 8) (v := 1) dX10_rests_8 (by decide) ?_
  refine zx_fS1 (pc := 9) (r_in (d := d + 1) (lo := 0) (hi := 1) rfl rfl rfl) cl_X10_63 dX10_rests_9 rfl rfl (by omega) (Nat.le_of_ble_eq_true rfl) (Nat.le_refl _) (Nat.le_refl _) ?_
  refine zx_if_ne (pc := 12) (tgt := 18) dX10_rests_12 (by decide) (fun h12 => ?_) (fun h12 => by first | exact absurd h12 hb | exact absurd hb h12)
  refine zx_aload_n (pc := 18) dX10_rests_18 rfl rfl ?_
  refine zx_fV0 (pc := 19) (r_begin (d := d + 1) hr) cl_X10_155 (p75 hr) rfl dX10_rests_19 rfl rfl (by omega) (Nat.le_of_ble_eq_true rfl) (Nat.le_refl _) (Nat.le_refl _) ?_
  refine zx_aload_n (pc := 22) dX10_rests_22 rfl rfl ?_
  refine zx_aload_n (pc := 23) dX10_rests_23 rfl rfl ?_
  refine g75_16 (pc := 24) hr fl_X10_31 dX10_rests_24 ?_
  refine zx_fV0 (pc := 27) (r_goWork_t (d := d) hr hH hF (zC16v hH hv)) cl_X10_122 (p75 hr) rfl dX10_rests_27 rfl rfl (by omega) (Nat.le_of_ble_eq_true rfl) (Nat.le_refl _) (Nat.le_refl _) ?_
  refine zx_aload_n (pc := 30) dX10_rests_30 rfl rfl ?_
  refine zx_aload_n (pc := 31) dX10_rests_31 rfl rfl ?_
  refine g75_26 (pc := 32) hr fl_X10_116 dX10_rests_32 ?_
  rw [hm]
  refine zx_fV0 (pc := 35) (r_findRests (d := d) (M := M) hr (by omega)) cl_X10_225 (p75 hr) rfl dX10_rests_35 rfl rfl (by omega) (Nat.le_of_ble_eq_true rfl) (Nat.le_refl _) (Nat.le_refl _) ?_
  refine zx_iload_n (pc := 38) dX10_rests_38 rfl rfl ?_
  refine zx_if_ne (pc := 39) (tgt := 49) dX10_rests_39 (by decide) (fun h39 => ?_) (fun h39 => ?_)
  · refine zx_aload_n (pc := 49) dX10_rests_49 rfl rfl ?_
    refine g75_37 (pc := 50) hr fl_X10_219 dX10_rests_50 ?_
    exact zx_fi (pc := 53) dX10_rests_53 rfl rfl (Nat.le_refl _) (Nat.le_refl _) (by first | (simp only [h12, h39, reduceIte, not_true_eq_false, not_false_eq_true]; done) | (simp [h12, h39]; done)) (by first | rfl | rw [hm])
  · refine zx_aload_n (pc := 42) dX10_rests_42 rfl rfl ?_
    refine g75_36 (pc := 43) hr fl_X10_216 dX10_rests_43 ?_
    refine zx_goto (pc := 46) (tgt := 53) dX10_rests_46 (by decide) ?_
    exact zx_fi (pc := 53) dX10_rests_53 rfl rfl (Nat.le_refl _) (Nat.le_refl _) (by first | (simp only [h12, h39, reduceIte, not_true_eq_false, not_false_eq_true]; done) | (simp [h12, h39]; done)) (by first | rfl | rw [hm])
set_option maxHeartbeats 4000000 in
theorem m_seed {d : Nat} {x : Int64} {th : Int32} {mA : (Nat → Int32) × Int32 × Int32} {mB : Int32 × Int32 × (Nat → Int32) × (Nat → Int32) × Int32 × (Nat → Int32)} {mR : Int32 × Int32 × (Nat → Int32) × Int32 × (Nat → Int32)} {pg : (Nat → Int32)} {mq : (Nat → Int32)} {bk : (Nat → Int32) × Int32} {kp : (Nat → Int32) × (Nat → Int32)} {sn : Int32 × (Nat → Int32) × (Nat → Int32) × (Nat → Int32)} {ml : Int64} {mw : Int32 × Int32} {pn : Int32 × Int32 × Int32 × Int32} {wl : Int32 × Int32} {sp : Int32 × Int32} {rs : Int32 × Int32} {vl : (Nat → Int32)} {rho : List zCel} (hr : rho.length = 75)  : zCf yX10_seed cX10_seed 5 (some .long) d [.ref 75, .long x] (rho ++ encM th mA mB mR pg mq bk kp sn ml mw pn wl sp rs vl) (some (.long (ml))) (rho ++ encM 0 mA mB mR pg mq bk kp sn x mw pn wl sp rs vl) := by
  refine zC.intro (by decide) (Nat.le_of_ble_eq_true rfl) rfl ?_
  refine zx_aload_n (pc := 0) dX10_seed_0 rfl rfl ?_
  refine zx_iconst (pc := 1) (v := 0) dX10_seed_1 (by decide) ?_
  refine u75_0 (pc := 2) hr fl_X10_56 dX10_seed_2 ?_
  refine zx_aload_n (pc := 5) dX10_seed_5 rfl rfl ?_
  refine g75_25 (pc := 6) hr fl_X10_233 dX10_seed_6 ?_
  refine zx_lstore_n (pc := 9) dX10_seed_9 rfl (by decide) rfl rfl ?_
  refine zx_aload_n (pc := 10) dX10_seed_10 rfl rfl ?_
  refine zx_lload_n (pc := 11) dX10_seed_11 rfl rfl ?_
  refine u75_25 (pc := 12) hr fl_X10_233 dX10_seed_12 ?_
  refine zx_lload_n (pc := 15) dX10_seed_15 rfl rfl ?_
  exact zx_fl (pc := 16) dX10_seed_16 rfl (Nat.le_refl _) (Nat.le_refl _) rfl rfl
