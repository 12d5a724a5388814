set_option maxHeartbeats 4000000 in
theorem lm_lasts0 {d n0 H F : Nat} {x : Int32} {t : Nat → Int32} {w : Int32 × Int32} {mA : (Nat → Int32) × Int32 × Int32} {mo : Int32} {mg : (Nat → Int32)} {mk : (Nat → Int32)} {md : (Nat → Int32)} {mR : Int32 × Int32 × (Nat → Int32) × Int32 × (Nat → Int32)} {pg : (Nat → Int32)} {bk : (Nat → Int32) × Int32} {kp : (Nat → Int32) × (Nat → Int32)} {sn : Int32 × (Nat → Int32) × (Nat → Int32) × (Nat → Int32)} {ml : Int64} {pn : Int32 × Int32 × Int32 × Int32} {wl : Int32 × Int32} {sp : Int32 × Int32} {rs : Int32 × Int32} {vl : (Nat → Int32)} {rho : List zCel} (hr : rho.length = 75) : zX RX10 cX10_lasts 3 (some .int) "lasts" none (d + 2) n0 0 0 0 0 (fun r s => r = some (.int x) ∧ s = rho ++ encM 0 mA (mo, (nI H), mg, mk, (nI F), md) mR pg t bk kp sn ml w pn wl sp rs vl) 13 [some (.ref 75), some (.int x), some (.int 0)] [] (rho ++ encM 0 mA (mo, (nI H), mg, mk, (nI F), md) mR pg t bk kp sn ml w pn wl sp rs vl) := by
  refine zx_iload_n (pc := 13) dX10_lasts_13 rfl rfl ?_
  refine zx_bipush (pc := 14) (v := 9) dX10_lasts_14 (by decide) ?_
  refine zx_icmp_ge (pc := 16) (tgt := 63) dX10_lasts_16 (by decide) (fun h16 => ?_) (fun h16 => ?_)
  · refine zx_iload_n (pc := 63) dX10_lasts_63 rfl rfl ?_
    exact zx_fi (pc := 64) dX10_lasts_64 rfl rfl (Nat.le_refl _) (Nat.le_refl _) rfl rfl
  · refine zx_iload_n (pc := 19) dX10_lasts_19 rfl rfl ?_
    refine zx_if_eq (pc := 20) (tgt := 63) dX10_lasts_20 (by decide) (fun _ => ?_) (fun h20 => absurd h20 (by decide))
    refine zx_iload_n (pc := 63) dX10_lasts_63 rfl rfl ?_
    exact zx_fi (pc := 64) dX10_lasts_64 rfl rfl (Nat.le_refl _) (Nat.le_refl _) rfl rfl
set_option maxHeartbeats 4000000 in
theorem lm_lasts {d n0 H F : Nat} {Z : Int32 × (Nat → Int32) × (Int32 × Int32)} {mA : (Nat → Int32) × Int32 × Int32} {mo : Int32} {mg : (Nat → Int32)} {mk : (Nat → Int32)} {md : (Nat → Int32)} {mR : Int32 × Int32 × (Nat → Int32) × Int32 × (Nat → Int32)} {pg : (Nat → Int32)} {bk : (Nat → Int32) × Int32} {kp : (Nat → Int32) × (Nat → Int32)} {sn : Int32 × (Nat → Int32) × (Nat → Int32) × (Nat → Int32)} {ml : Int64} {pn : Int32 × Int32 × Int32 × Int32} {wl : Int32 × Int32} {sp : Int32 × Int32} {rs : Int32 × Int32} {vl : (Nat → Int32)} {rho : List zCel} (hr : rho.length = 75) (hH : H ≤ 5) (hF : F ≤ 3) : ∀ k i : Nat, i + k = 9 → ∀ (t : Nat → Int32) (w : Int32 × Int32), (∀ h, h < H → ∃ u : Nat, u < 2 + F ∧ t h = nI u) → zLm mg mk md F H mo k t w = Z → zX RX10 cX10_lasts 3 (some .int) "lasts" none (d + 2) n0 0 0 0 0 (fun r s => r = some (.int Z.1) ∧ s = rho ++ encM 0 mA (mo, (nI H), mg, mk, (nI F), md) mR pg Z.2.1 bk kp sn ml Z.2.2 pn wl sp rs vl) 13 [some (.ref 75), some (.int (nI i)), some (.int 1)] [] (rho ++ encM 0 mA (mo, (nI H), mg, mk, (nI F), md) mR pg t bk kp sn ml w pn wl sp rs vl) := by
  intro k
  induction k with
  | zero =>
    intro i hi t w hv hZ
    obtain rfl : i = 9 := by omega
    subst hZ
    refine zx_iload_n (pc := 13) dX10_lasts_13 rfl rfl ?_
    refine zx_bipush (pc := 14) (v := 9) dX10_lasts_14 (by decide) ?_
    refine zx_icmp_ge (pc := 16) (tgt := 63) dX10_lasts_16 (by decide) (fun h16 => ?_) (fun h16 => by first | exact absurd h16 (show (9 : Int32) ≤ nI 9 by decide) | exact absurd (show (9 : Int32) ≤ nI 9 by decide) h16)
    refine zx_iload_n (pc := 63) dX10_lasts_63 rfl rfl ?_
    exact zx_fi (pc := 64) dX10_lasts_64 rfl rfl (Nat.le_refl _) (Nat.le_refl _) rfl rfl
  | succ k ih =>
    intro i hi t w hv hZ
    rw [zLm, show 9 - (k + 1) = i by omega] at hZ
    refine zx_iload_n (pc := 13) dX10_lasts_13 rfl rfl ?_
    refine zx_bipush (pc := 14) (v := 9) dX10_lasts_14 (by decide) ?_
    refine zx_icmp_ge (pc := 16) (tgt := 63) dX10_lasts_16 (by decide) (fun h16 => by first | exact absurd h16 (show ¬ (9 : Int32) ≤ nI i from nI_ge (a := i) (b := 9) (by omega) (by decide)) | exact absurd (show ¬ (9 : Int32) ≤ nI i from nI_ge (a := i) (b := 9) (by omega) (by decide)) h16) (fun h16 => ?_)
    refine zx_iload_n (pc := 19) dX10_lasts_19 rfl rfl ?_
    refine zx_if_eq (pc := 20) (tgt := 63) dX10_lasts_20 (by decide) (fun h20 => absurd h20 (by decide)) (fun _ => ?_)
    refine zx_aload_n (pc := 23) dX10_lasts_23 rfl rfl ?_
    refine zx_aload_n (pc := 24) dX10_lasts_24 rfl rfl ?_
    refine g75_16 (pc := 25) hr fl_X10_31 dX10_lasts_25 ?_
    refine zx_fV0 (pc := 28) (r_goWork_t (d := d) hr hH hF hv) cl_X10_122 (p75 hr) rfl dX10_lasts_28 rfl rfl (by omega) (Nat.le_of_ble_eq_true rfl) (Nat.le_refl _) (Nat.le_refl _) ?_
    refine zx_aload_n (pc := 31) dX10_lasts_31 rfl rfl ?_
    refine g75_27 (pc := 32) hr fl_X10_119 dX10_lasts_32 ?_
    refine zx_aload_n (pc := 35) dX10_lasts_35 rfl rfl ?_
    refine g75_4 (pc := 36) hr fl_X10_100 dX10_lasts_36 ?_
    refine zx_icmp_lt (pc := 39) (tgt := 46) dX10_lasts_39 (by decide) (fun h39 => ?_) (fun h39 => ?_)
    · refine zx_iconst (pc := 46) (v := 0) dX10_lasts_46 (by decide) ?_
      refine st_2_3 (pc := 47) dX10_lasts_47 rfl ?_
      refine zx_iload_n (pc := 48) dX10_lasts_48 rfl rfl ?_
      refine zx_iload_n (pc := 49) dX10_lasts_49 rfl rfl ?_
      refine zx_if_eq (pc := 50) (tgt := 57) dX10_lasts_50 (by decide) (fun _ => ?_) (fun h50 => absurd h50 (by decide))
      refine zx_iconst (pc := 57) (v := 0) dX10_lasts_57 (by decide) ?_
      refine zx_iadd (pc := 58) dX10_lasts_58 ?_
      refine st_1_3 (pc := 59) dX10_lasts_59 rfl ?_
      refine zx_goto (pc := 60) (tgt := 13) dX10_lasts_60 (by decide) ?_
      rw [if_neg (Int32.not_le.mpr h39)] at hZ
      rw [Int32.add_zero]
      subst hZ
      exact lm_lasts0 hr
    · refine zx_iconst (pc := 42) (v := 1) dX10_lasts_42 (by decide) ?_
      refine zx_goto (pc := 43) (tgt := 47) dX10_lasts_43 (by decide) ?_
      refine st_2_3 (pc := 47) dX10_lasts_47 rfl ?_
      refine zx_iload_n (pc := 48) dX10_lasts_48 rfl rfl ?_
      refine zx_iload_n (pc := 49) dX10_lasts_49 rfl rfl ?_
      refine zx_if_eq (pc := 50) (tgt := 57) dX10_lasts_50 (by decide) (fun h50 => absurd h50 (by decide)) (fun _ => ?_)
      refine zx_iconst (pc := 53) (v := 1) dX10_lasts_53 (by decide) ?_
      refine zx_goto (pc := 54) (tgt := 58) dX10_lasts_54 (by decide) ?_
      refine zx_iadd (pc := 58) dX10_lasts_58 ?_
      refine st_1_3 (pc := 59) dX10_lasts_59 rfl ?_
      refine zx_goto (pc := 60) (tgt := 13) dX10_lasts_60 (by decide) ?_
      rw [if_pos (Int32.not_lt.mp h39)] at hZ
      rw [nI_1]
      exact ih (i + 1) (by omega) _ _ (fun h hh => by rw [zPf_h (by omega)]; exact hv h hh) hZ
set_option maxHeartbeats 4000000 in
theorem m_lasts {d : Nat} {H F : Nat} {th : Int32} {mA : (Nat → Int32) × Int32 × Int32} {mo : Int32} {mg : (Nat → Int32)} {mk : (Nat → Int32)} {md : (Nat → Int32)} {mR : Int32 × Int32 × (Nat → Int32) × Int32 × (Nat → Int32)} {pg : (Nat → Int32)} {mq : (Nat → Int32)} {bk : (Nat → Int32) × Int32} {kp : (Nat → Int32) × (Nat → Int32)} {sn : Int32 × (Nat → Int32) × (Nat → Int32) × (Nat → Int32)} {ml : Int64} {mw : Int32 × Int32} {pn : Int32 × Int32 × Int32 × Int32} {wl : Int32 × Int32} {sp : Int32 × Int32} {rs : Int32 × Int32} {vl : (Nat → Int32)} {rho : List zCel} (hr : rho.length = 75) (hH : H ≤ 5) (hF : F ≤ 3) (hv : ∀ h, h < H → ∃ t : Nat, t < 2 + F ∧ pg h = nI t) : zCf yX10_lasts cX10_lasts 3 (some .int) (d + 2) [.ref 75] (rho ++ encM th mA (mo, (nI H), mg, mk, (nI F), md) mR pg mq bk kp sn ml mw pn wl sp rs vl) (some (.int ((zLm mg mk md F H mo 9 (zC16 pg mq 16) mw).1))) (rho ++ encM 0 mA (mo, (nI H), mg, mk, (nI F), md) mR pg (zLm mg mk md F H mo 9 (zC16 pg mq 16) mw).2.1 bk kp sn ml (zLm mg mk md F H mo 9 (zC16 pg mq 16) mw).2.2 pn wl sp rs vl) := by
  refine zC.intro (by decide) (Nat.le_of_ble_eq_true rfl) rfl ?_
  refine zx_aload_n (pc := 0) dX10_lasts_0 rfl rfl ?_
  refine zx_iconst (pc := 1) (v := 0) dX10_lasts_1 (by decide) ?_
  refine u75_0 (pc := 2) hr fl_X10_56 dX10_lasts_2 ?_
  refine zx_aload_n (pc := 5) dX10_lasts_5 rfl rfl ?_
  refine zx_fV0 (pc := 6) (r_begin (d := d + 1) hr) cl_X10_155 (p75 hr) rfl dX10_lasts_6 rfl rfl (by omega) (Nat.le_of_ble_eq_true rfl) (Nat.le_refl _) (Nat.le_refl _) ?_
  refine zx_iconst (pc := 9) (v := 0) dX10_lasts_9 (by decide) ?_
  refine st_1_3 (pc := 10) dX10_lasts_10 rfl ?_
  refine zx_iconst (pc := 11) (v := 1) dX10_lasts_11 (by decide) ?_
  refine st_2_3 (pc := 12) dX10_lasts_12 rfl ?_
  exact lm_lasts hr hH hF 9 0 (by omega) _ _ (zC16v hH hv) rfl
theorem zwz : ∀ H, H ≤ 5 → zWz (H - 1) = nI (zfn H) := by decide
theorem zfnp : ∀ H, H ≤ 5 → 0 < zfn H ∧ zfn H < 2 ^ 31 := by decide
set_option maxHeartbeats 4000000 in
theorem lm_share2 {d n0 h H F a : Nat} {y : Int32} {mA : (Nat → Int32) × Int32 × Int32} {mo : Int32} {mg : (Nat → Int32)} {mk : (Nat → Int32)} {md : (Nat → Int32)} {mR : Int32 × Int32 × (Nat → Int32) × Int32 × (Nat → Int32)} {pg : (Nat → Int32)} {mq : (Nat → Int32)} {bk : (Nat → Int32) × Int32} {kp : (Nat → Int32) × (Nat → Int32)} {sn : Int32 × (Nat → Int32) × (Nat → Int32) × (Nat → Int32)} {ml : Int64} {mw : Int32 × Int32} {pn : Int32 × Int32 × Int32 × Int32} {wl : Int32 × Int32} {sp : Int32 × Int32} {rs : Int32 × Int32} {vl : (Nat → Int32)} {rho : List zCel} (hr : rho.length = 75) (hh : h < H) (hH : H ≤ 5) (hF : F ≤ 3) (hv : ∀ h, h < H → ∃ t : Nat, t < 2 + F ∧ pg h = nI t) (ha : (if 0 ≤ zUp H h (zVs mg mk md F H pg mq mw vl (2 ^ H)).2.2 (2 ^ H) then zUp H h (zVs mg mk md F H pg mq mw vl (2 ^ H)).2.2 (2 ^ H) else 0 - zUp H h (zVs mg mk md F H pg mq mw vl (2 ^ H)).2.2 (2 ^ H)) = nI a) (ha2 : a < 2 ^ 31) : ∀ k i : Nat, i + k = 2 ^ H → ∀ o5, zX RX10 cX10_share 6 (some .int) "share" none (d + 2) n0 0 0 0 0 (fun r s => r = some (.int ((if y = 0 then nI (zfn H) else zUp H h (zVs mg mk md F H pg mq mw vl (2 ^ H)).2.2 (2 ^ H)) / nI (Nat.gcd a (zfn H)))) ∧ s = rho ++ encM 0 mA (mo, (nI H), mg, mk, (nI F), md) mR pg (zVs mg mk md F H pg mq mw vl (2 ^ H)).1 bk kp sn ml (zVs mg mk md F H pg mq mw vl (2 ^ H)).2.1 pn wl sp rs (zVs mg mk md F H pg mq mw vl (2 ^ H)).2.2) 109 [some (.ref 75), some (.int (nI h)), some (.int y), some (.int (zUp H h (zVs mg mk md F H pg mq mw vl (2 ^ H)).2.2 i)), some (.int (nI i)), o5] [] (rho ++ encM 0 mA (mo, (nI H), mg, mk, (nI F), md) mR pg (zVs mg mk md F H pg mq mw vl (2 ^ H)).1 bk kp sn ml (zVs mg mk md F H pg mq mw vl (2 ^ H)).2.1 pn wl sp rs (zVs mg mk md F H pg mq mw vl (2 ^ H)).2.2) := by
  have hN := zp31 (H := H) (by omega)
  intro k
  induction k with
  | zero =>
    intro i hi o5
    obtain rfl : i = 2 ^ H := by omega
    refine zx_iload (pc := 109) dX10_share_109 rfl ?_
    refine zx_iconst (pc := 111) (v := 1) dX10_share_111 (by decide) ?_
    refine zx_aload_n (pc := 112) dX10_share_112 rfl rfl ?_
    refine g75_5 (pc := 113) hr fl_X10_60 dX10_share_113 ?_
    refine zx_ishl (pc := 116) dX10_share_116 ?_
    rw [zsh1 H (by omega)]
    refine zx_icmp_ge (pc := 117) (tgt := 183) dX10_share_117 (by decide) (fun h117 => ?_) (fun h117 => by first | exact absurd h117 (Int32.le_refl (nI (2 ^ H))) | exact absurd (Int32.le_refl (nI (2 ^ H))) h117)
    refine zx_iload_n (pc := 183) dX10_share_183 rfl rfl ?_
    refine zx_aload_n (pc := 184) dX10_share_184 rfl rfl ?_
    refine g75_5 (pc := 185) hr fl_X10_60 dX10_share_185 ?_
    refine zx_fS1 (pc := 188) (r_ways (d := d + 1) (by omega)) cl_X10_202 dX10_share_188 rfl rfl (by omega) (Nat.le_of_ble_eq_true rfl) (Nat.le_refl _) (Nat.le_refl _) ?_
    refine zx_iload_n (pc := 191) dX10_share_191 rfl rfl ?_
    rw [zwz H hH]
    refine zx_fS1 (pc := 192) (r_fraction (d := d) ha ha2 (zfnp H hH).2 (zfnp H hH).1) cl_X10_205 dX10_share_192 rfl rfl (by omega) (Nat.le_of_ble_eq_true rfl) (Nat.le_refl _) (Nat.le_refl _) ?_
    exact zx_fi (pc := 195) dX10_share_195 rfl rfl (Nat.le_refl _) (Nat.le_refl _) rfl rfl
  | succ k ih =>
    intro i hi o5
    have ih' := ih (i + 1) (by omega)
    rw [← nI_1, zUp] at ih'
    have h32 := zp32 hH (show i < 2 ^ H by omega)
    refine zx_iload (pc := 109) dX10_share_109 rfl ?_
    refine zx_iconst (pc := 111) (v := 1) dX10_share_111 (by decide) ?_
    refine zx_aload_n (pc := 112) dX10_share_112 rfl rfl ?_
    refine g75_5 (pc := 113) hr fl_X10_60 dX10_share_113 ?_
    refine zx_ishl (pc := 116) dX10_share_116 ?_
    rw [zsh1 H (by omega)]
    refine zx_icmp_ge (pc := 117) (tgt := 183) dX10_share_117 (by decide) (fun h117 => by first | exact absurd h117 (nI_ge (show i < 2 ^ H by omega) hN) | exact absurd (nI_ge (show i < 2 ^ H by omega) hN) h117) (fun h117 => ?_)
    refine zx_iload (pc := 120) dX10_share_120 rfl ?_
    refine zx_iload_n (pc := 122) dX10_share_122 rfl rfl ?_
    refine zx_fS1 (pc := 123) (r_has (d := d + 1) ) cl_X10_148 dX10_share_123 rfl rfl (by omega) (Nat.le_of_ble_eq_true rfl) (Nat.le_refl _) (Nat.le_refl _) ?_
    refine zx_if_ne (pc := 126) (tgt := 177) dX10_share_126 (by decide) (fun h126 => ?_) (fun h126 => ?_)
    · refine ic_4_6_1 (pc := 177) dX10_share_177 rfl ?_
      refine zx_goto (pc := 180) (tgt := 109) dX10_share_180 (by decide) ?_
      first | (rw [if_pos h126] at ih'; exact ih' _) | (rw [if_neg h126] at ih'; exact ih' _)
    · have hc := zPcH H hH h hh i (by omega) h126
      refine zx_iload (pc := 129) dX10_share_129 rfl ?_
      refine zx_fS1 (pc := 131) (r_many (d := d + 1) ) cl_X10_189 dX10_share_131 rfl rfl (by omega) (Nat.le_of_ble_eq_true rfl) (Nat.le_refl _) (Nat.le_refl _) ?_
      rw [zPcI i (by omega)]
      refine st_5_6 (pc := 134) dX10_share_134 rfl ?_
      refine zx_iload_n (pc := 136) dX10_share_136 rfl rfl ?_
      refine zx_iload (pc := 137) dX10_share_137 rfl ?_
      refine zx_fS1 (pc := 139) (r_ways (d := d + 1) (by omega)) cl_X10_202 dX10_share_139 rfl rfl (by omega) (Nat.le_of_ble_eq_true rfl) (Nat.le_refl _) (Nat.le_refl _) ?_
      refine zx_aload_n (pc := 142) dX10_share_142 rfl rfl ?_
      refine g75_5 (pc := 143) hr fl_X10_60 dX10_share_143 ?_
      refine zx_iconst (pc := 146) (v := 1) dX10_share_146 (by decide) ?_
      refine zx_isub (pc := 147) dX10_share_147 ?_
      refine zx_iload (pc := 148) dX10_share_148 rfl ?_
      refine zx_isub (pc := 150) dX10_share_150 ?_
      rw [zh1i (show zPop i < H by omega)]
      refine zx_fS1 (pc := 151) (r_ways (d := d + 1) (by omega)) cl_X10_202 dX10_share_151 rfl rfl (by omega) (Nat.le_of_ble_eq_true rfl) (Nat.le_refl _) (Nat.le_refl _) ?_
      refine zx_imul (pc := 154) dX10_share_154 ?_
      refine zx_aload_n (pc := 155) dX10_share_155 rfl rfl ?_
      refine g75_38 (pc := 156) hr fl_X10_53 dX10_share_156 ?_
      refine zx_iload (pc := 159) dX10_share_159 rfl ?_
      refine zx_iconst (pc := 161) (v := 1) dX10_share_161 (by decide) ?_
      refine zx_iload_n (pc := 162) dX10_share_162 rfl rfl ?_
      refine zx_ishl (pc := 163) dX10_share_163 ?_
      refine zx_ior (pc := 164) dX10_share_164 ?_
      refine a90 (pc := 165) hr (zix_o (by omega) h32) dX10_share_165 ?_
      refine zx_aload_n (pc := 166) dX10_share_166 rfl rfl ?_
      refine g75_38 (pc := 167) hr fl_X10_53 dX10_share_167 ?_
      refine zx_iload (pc := 170) dX10_share_170 rfl ?_
      refine a90 (pc := 172) hr (zix_n h32) dX10_share_172 ?_
      refine zx_isub (pc := 173) dX10_share_173 ?_
      refine zx_imul (pc := 174) dX10_share_174 ?_
      refine zx_iadd (pc := 175) dX10_share_175 ?_
      refine st_3_6 (pc := 176) dX10_share_176 rfl ?_
      refine ic_4_6_1 (pc := 177) dX10_share_177 rfl ?_
      refine zx_goto (pc := 180) (tgt := 109) dX10_share_180 (by decide) ?_
      first | (rw [if_pos h126] at ih'; exact ih' _) | (rw [if_neg h126] at ih'; exact ih' _)
set_option maxHeartbeats 4000000 in
theorem lm_share0 {d n0 h H F m : Nat} {y : Int32} {t0 : Nat → Int32} {Q : Option Value → List zCel → Prop} {mA : (Nat → Int32) × Int32 × Int32} {mo : Int32} {mg : (Nat → Int32)} {mk : (Nat → Int32)} {md : (Nat → Int32)} {mR : Int32 × Int32 × (Nat → Int32) × Int32 × (Nat → Int32)} {pg : (Nat → Int32)} {bk : (Nat → Int32) × Int32} {kp : (Nat → Int32) × (Nat → Int32)} {sn : Int32 × (Nat → Int32) × (Nat → Int32) × (Nat → Int32)} {ml : Int64} {mw : Int32 × Int32} {pn : Int32 × Int32 × Int32 × Int32} {wl : Int32 × Int32} {sp : Int32 × Int32} {rs : Int32 × Int32} {vl : (Nat → Int32)} {rho : List zCel} (hr : rho.length = 75) (hH : H ≤ 5) (key : ∀ o4 o5, zX RX10 cX10_share 6 (some .int) "share" none (d + 2) n0 0 0 0 0 Q 80 [some (.ref 75), some (.int (nI h)), some (.int y), some (.int (nI m)), o4, o5] [] (rho ++ encM 0 mA (mo, (nI H), mg, mk, (nI F), md) mR pg (zSa (nI m) (zC16 pg t0 16) H) bk kp sn ml mw pn wl sp rs vl)) : ∀ k i : Nat, i + k = H → ∀ o5, zX RX10 cX10_share 6 (some .int) "share" none (d + 2) n0 0 0 0 0 Q 34 [some (.ref 75), some (.int (nI h)), some (.int y), some (.int (nI m)), some (.int (nI i)), o5] [] (rho ++ encM 0 mA (mo, (nI H), mg, mk, (nI F), md) mR pg (zSa (nI m) (zC16 pg t0 16) i) bk kp sn ml mw pn wl sp rs vl) := by
  intro k
  induction k with
  | zero =>
    intro i hi o5
    obtain rfl : i = H := by omega
    refine zx_iload (pc := 34) dX10_share_34 rfl ?_
    refine zx_aload_n (pc := 36) dX10_share_36 rfl rfl ?_
    refine g75_5 (pc := 37) hr fl_X10_60 dX10_share_37 ?_
    refine zx_icmp_ge (pc := 40) (tgt := 80) dX10_share_40 (by decide) (fun h40 => ?_) (fun h40 => by first | exact absurd h40 (show nI i ≤ nI i from Int32.le_refl _) | exact absurd (show nI i ≤ nI i from Int32.le_refl _) h40)
    exact key _ _
  | succ k ih =>
    intro i hi o5
    refine zx_iload (pc := 34) dX10_share_34 rfl ?_
    refine zx_aload_n (pc := 36) dX10_share_36 rfl rfl ?_
    refine g75_5 (pc := 37) hr fl_X10_60 dX10_share_37 ?_
    refine zx_icmp_ge (pc := 40) (tgt := 80) dX10_share_40 (by decide) (fun h40 => by first | exact absurd h40 (nI_ge (show i < H by omega) (by omega)) | exact absurd (nI_ge (show i < H by omega) (by omega)) h40) (fun h40 => ?_)
    refine zx_aload_n (pc := 43) dX10_share_43 rfl rfl ?_
    refine g75_16 (pc := 44) hr fl_X10_31 dX10_share_44 ?_
    refine zx_iconst (pc := 47) (v := 0) dX10_share_47 (by decide) ?_
    refine zx_iload (pc := 48) dX10_share_48 rfl ?_
    refine zx_iadd (pc := 50) dX10_share_50 ?_
    refine zx_iload_n (pc := 51) dX10_share_51 rfl rfl ?_
    refine zx_iload (pc := 52) dX10_share_52 rfl ?_
    refine zx_fS1 (pc := 54) (r_has (d := d + 1) ) cl_X10_148 dX10_share_54 rfl rfl (by omega) (Nat.le_of_ble_eq_true rfl) (Nat.le_refl _) (Nat.le_refl _) ?_
    refine zx_if_eq (pc := 57) (tgt := 72) dX10_share_57 (by decide) (fun h57 => ?_) (fun h57 => ?_)
    · refine zx_iconst (pc := 72) (v := 0) dX10_share_72 (by decide) ?_
      refine s83 (pc := 73) hr (zix_0 (by omega)) dX10_share_73 ?_
      refine ic_4_6_1 (pc := 74) dX10_share_74 rfl ?_
      refine zx_goto (pc := 77) (tgt := 34) dX10_share_77 (by decide) ?_
      rw [nI_1, zSa_s (by simp only [h57, reduceIte])]
      exact ih (i + 1) (by omega) _
    · refine zx_aload_n (pc := 60) dX10_share_60 rfl rfl ?_
      refine g75_16 (pc := 61) hr fl_X10_31 dX10_share_61 ?_
      refine zx_iconst (pc := 64) (v := 0) dX10_share_64 (by decide) ?_
      refine zx_iload (pc := 65) dX10_share_65 rfl ?_
      refine zx_iadd (pc := 67) dX10_share_67 ?_
      refine a83 (pc := 68) hr (zix_0 (by omega)) dX10_share_68 ?_
      rw [zSa_i]
      refine zx_goto (pc := 69) (tgt := 73) dX10_share_69 (by decide) ?_
      refine s83 (pc := 73) hr (zix_0 (by omega)) dX10_share_73 ?_
      refine ic_4_6_1 (pc := 74) dX10_share_74 rfl ?_
      refine zx_goto (pc := 77) (tgt := 34) dX10_share_77 (by decide) ?_
      rw [nI_1, zSa_s (by simp only [h57, reduceIte])]
      exact ih (i + 1) (by omega) _
set_option maxHeartbeats 4000000 in
theorem lm_share1 {d n0 h H F a : Nat} {y : Int32} {mA : (Nat → Int32) × Int32 × Int32} {mo : Int32} {mg : (Nat → Int32)} {mk : (Nat → Int32)} {md : (Nat → Int32)} {mR : Int32 × Int32 × (Nat → Int32) × Int32 × (Nat → Int32)} {pg : (Nat → Int32)} {mq : (Nat → Int32)} {bk : (Nat → Int32) × Int32} {kp : (Nat → Int32) × (Nat → Int32)} {sn : Int32 × (Nat → Int32) × (Nat → Int32) × (Nat → Int32)} {ml : Int64} {mw : Int32 × Int32} {pn : Int32 × Int32 × Int32 × Int32} {wl : Int32 × Int32} {sp : Int32 × Int32} {rs : Int32 × Int32} {vl : (Nat → Int32)} {rho : List zCel} (hr : rho.length = 75) (hh : h < H) (hH : H ≤ 5) (hF : F ≤ 3) (hv : ∀ h, h < H → ∃ t : Nat, t < 2 + F ∧ pg h = nI t) (ha : (if 0 ≤ zUp H h (zVs mg mk md F H pg mq mw vl (2 ^ H)).2.2 (2 ^ H) then zUp H h (zVs mg mk md F H pg mq mw vl (2 ^ H)).2.2 (2 ^ H) else 0 - zUp H h (zVs mg mk md F H pg mq mw vl (2 ^ H)).2.2 (2 ^ H)) = nI a) (ha2 : a < 2 ^ 31) : ∀ k i : Nat, i + k = 2 ^ H → ∀ o4 o5, zX RX10 cX10_share 6 (some .int) "share" none (d + 2) n0 0 0 0 0 (fun r s => r = some (.int ((if y = 0 then nI (zfn H) else zUp H h (zVs mg mk md F H pg mq mw vl (2 ^ H)).2.2 (2 ^ H)) / nI (Nat.gcd a (zfn H)))) ∧ s = rho ++ encM 0 mA (mo, (nI H), mg, mk, (nI F), md) mR pg (zVs mg mk md F H pg mq mw vl (2 ^ H)).1 bk kp sn ml (zVs mg mk md F H pg mq mw vl (2 ^ H)).2.1 pn wl sp rs (zVs mg mk md F H pg mq mw vl (2 ^ H)).2.2) 17 [some (.ref 75), some (.int (nI h)), some (.int y), some (.int (nI i)), o4, o5] [] (rho ++ encM 0 mA (mo, (nI H), mg, mk, (nI F), md) mR pg (zVs mg mk md F H pg mq mw vl i).1 bk kp sn ml (zVs mg mk md F H pg mq mw vl i).2.1 pn wl sp rs (zVs mg mk md F H pg mq mw vl i).2.2) := by
  have hN := zp31 (H := H) (by omega)
  intro k
  induction k with
  | zero =>
    intro i hi o4 o5
    obtain rfl : i = 2 ^ H := by omega
    refine zx_iload_n (pc := 17) dX10_share_17 rfl rfl ?_
    refine zx_iconst (pc := 18) (v := 1) dX10_share_18 (by decide) ?_
    refine zx_aload_n (pc := 19) dX10_share_19 rfl rfl ?_
    refine g75_5 (pc := 20) hr fl_X10_60 dX10_share_20 ?_
    refine zx_ishl (pc := 23) dX10_share_23 ?_
    rw [zsh1 H (by omega)]
    refine zx_icmp_ge (pc := 24) (tgt := 104) dX10_share_24 (by decide) (fun h24 => ?_) (fun h24 => by first | exact absurd h24 (Int32.le_refl (nI (2 ^ H))) | exact absurd (Int32.le_refl (nI (2 ^ H))) h24)
    refine zx_iconst (pc := 104) (v := 0) dX10_share_104 (by decide) ?_
    refine st_3_6 (pc := 105) dX10_share_105 rfl ?_
    refine zx_iconst (pc := 106) (v := 0) dX10_share_106 (by decide) ?_
    refine st_4_6 (pc := 107) dX10_share_107 rfl ?_
    exact lm_share2 hr hh hH hF hv ha ha2 (2 ^ H) 0 (by omega) _
  | succ k ih =>
    intro i hi o4 o5
    have ih' := ih (i + 1) (by omega)
    rw [← nI_1] at ih'
    simp only [zVs] at ih'
    clear ih ha
    have h32 := zp32 hH (show i < 2 ^ H by omega)
    generalize hS : (zVs mg mk md F H pg mq mw vl i) = S0 at ih' ⊢
    refine zx_iload_n (pc := 17) dX10_share_17 rfl rfl ?_
    refine zx_iconst (pc := 18) (v := 1) dX10_share_18 (by decide) ?_
    refine zx_aload_n (pc := 19) dX10_share_19 rfl rfl ?_
    refine g75_5 (pc := 20) hr fl_X10_60 dX10_share_20 ?_
    refine zx_ishl (pc := 23) dX10_share_23 ?_
    rw [zsh1 H (by omega)]
    refine zx_icmp_ge (pc := 24) (tgt := 104) dX10_share_24 (by decide) (fun h24 => by first | exact absurd h24 (nI_ge (show i < 2 ^ H by omega) hN) | exact absurd (nI_ge (show i < 2 ^ H by omega) hN) h24) (fun h24 => ?_)
    refine zx_aload_n (pc := 27) dX10_share_27 rfl rfl ?_
    refine zx_fV0 (pc := 28) (r_begin (d := d + 1) hr) cl_X10_155 (p75 hr) rfl dX10_share_28 rfl rfl (by omega) (Nat.le_of_ble_eq_true rfl) (Nat.le_refl _) (Nat.le_refl _) ?_
    refine zx_iconst (pc := 31) (v := 0) dX10_share_31 (by decide) ?_
    refine st_4_6 (pc := 32) dX10_share_32 rfl ?_
    refine zx_sg (sg' := rho ++ encM 0 mA (mo, (nI H), mg, mk, (nI F), md) mR pg (zSa (nI i) (zC16 pg S0.1 16) 0) bk kp sn ml S0.2.1 pn wl sp rs S0.2.2) (by rw [zSa_0]) ?_
    refine lm_share0 (m := i) hr hH (fun q4 q5 => ?_) H 0 (by omega) _
    refine zx_aload_n (pc := 80) dX10_share_80 rfl rfl ?_
    refine zx_aload_n (pc := 81) dX10_share_81 rfl rfl ?_
    refine g75_16 (pc := 82) hr fl_X10_31 dX10_share_82 ?_
    refine zx_fV0 (pc := 85) (r_goWork_t (d := d) hr hH hF (zSav (zC16v hH hv))) cl_X10_122 (p75 hr) rfl dX10_share_85 rfl rfl (by omega) (Nat.le_of_ble_eq_true rfl) (Nat.le_refl _) (Nat.le_refl _) ?_
    refine zx_aload_n (pc := 88) dX10_share_88 rfl rfl ?_
    refine g75_38 (pc := 89) hr fl_X10_53 dX10_share_89 ?_
    refine zx_iload_n (pc := 92) dX10_share_92 rfl rfl ?_
    refine zx_aload_n (pc := 93) dX10_share_93 rfl rfl ?_
    refine g75_27 (pc := 94) hr fl_X10_119 dX10_share_94 ?_
    refine s90 (pc := 97) hr (zix_n h32) dX10_share_97 ?_
    refine ic_3_6_1 (pc := 98) dX10_share_98 rfl ?_
    refine zx_goto (pc := 101) (tgt := 17) dX10_share_101 (by decide) ?_
    exact ih' _ _
set_option maxHeartbeats 4000000 in
theorem m_share_un {d : Nat} {H F : Nat} {x y : Int32} {th : Int32} {mA : (Nat → Int32) × Int32 × Int32} {mo : Int32} {mg : (Nat → Int32)} {mk : (Nat → Int32)} {md : (Nat → Int32)} {mR : Int32 × Int32 × (Nat → Int32) × Int32 × (Nat → Int32)} {pg : (Nat → Int32)} {mq : (Nat → Int32)} {bk : (Nat → Int32) × Int32} {kp : (Nat → Int32) × (Nat → Int32)} {sn : Int32 × (Nat → Int32) × (Nat → Int32) × (Nat → Int32)} {ml : Int64} {mw : Int32 × Int32} {pn : Int32 × Int32 × Int32 × Int32} {wl : Int32 × Int32} {sp : Int32 × Int32} {rs : Int32 × Int32} {vl : (Nat → Int32)} {rho : List zCel} (hr : rho.length = 75) (hH : H ≤ 5) (hu : zHas (nI H) x = 0) : zCf yX10_share cX10_share 6 (some .int) (d + 2) [.ref 75, .int x, .int y] (rho ++ encM th mA (mo, (nI H), mg, mk, (nI F), md) mR pg mq bk kp sn ml mw pn wl sp rs vl) (some (.int (-1))) (rho ++ encM 0 mA (mo, (nI H), mg, mk, (nI F), md) mR pg mq bk kp sn ml mw pn wl sp rs vl) := by
  refine zC.intro (by decide) (Nat.le_of_ble_eq_true rfl) rfl ?_
  refine zx_aload_n (pc := 0) dX10_share_0 rfl rfl ?_
  refine zx_iconst (pc := 1) (v := 0) dX10_share_1 (by decide) ?_
  refine u75_0 (pc := 2) hr fl_X10_56 dX10_share_2 ?_
  refine zx_aload_n (pc := 5) dX10_share_5 rfl rfl ?_
  refine zx_iload_n (pc := 6) dX10_share_6 rfl rfl ?_
  refine zx_fV1 (pc := 7) (r_noHand (d := d) hr (by omega)) cl_X10_129 (p75 hr) rfl dX10_share_7 rfl rfl (by omega) (Nat.le_of_ble_eq_true rfl) (Nat.le_refl _) (Nat.le_refl _) ?_
  refine zx_if_eq (pc := 10) (tgt := 15) dX10_share_10 (by decide) (fun h10 => by first | exact absurd h10 (show ¬ (if zHas (nI H) x = 0 then (1 : Int32) else 0) = 0 by rw [if_pos hu]; decide) | exact absurd (show ¬ (if zHas (nI H) x = 0 then (1 : Int32) else 0) = 0 by rw [if_pos hu]; decide) h10) (fun h10 => ?_)
  refine zx_iconst (pc := 13) (v := -1) dX10_share_13 (by decide) ?_
  exact zx_fi (pc := 14) dX10_share_14 rfl rfl (Nat.le_refl _) (Nat.le_refl _) rfl rfl
set_option maxHeartbeats 4000000 in
theorem m_share {d : Nat} {h H F a : Nat} {y : Int32} {th : Int32} {mA : (Nat → Int32) × Int32 × Int32} {mo : Int32} {mg : (Nat → Int32)} {mk : (Nat → Int32)} {md : (Nat → Int32)} {mR : Int32 × Int32 × (Nat → Int32) × Int32 × (Nat → Int32)} {pg : (Nat → Int32)} {mq : (Nat → Int32)} {bk : (Nat → Int32) × Int32} {kp : (Nat → Int32) × (Nat → Int32)} {sn : Int32 × (Nat → Int32) × (Nat → Int32) × (Nat → Int32)} {ml : Int64} {mw : Int32 × Int32} {pn : Int32 × Int32 × Int32 × Int32} {wl : Int32 × Int32} {sp : Int32 × Int32} {rs : Int32 × Int32} {vl : (Nat → Int32)} {rho : List zCel} (hr : rho.length = 75) (hh : h < H) (hH : H ≤ 5) (hF : F ≤ 3) (hv : ∀ h, h < H → ∃ t : Nat, t < 2 + F ∧ pg h = nI t) (ha : (if 0 ≤ zUp H h (zVs mg mk md F H pg mq mw vl (2 ^ H)).2.2 (2 ^ H) then zUp H h (zVs mg mk md F H pg mq mw vl (2 ^ H)).2.2 (2 ^ H) else 0 - zUp H h (zVs mg mk md F H pg mq mw vl (2 ^ H)).2.2 (2 ^ H)) = nI a) (ha2 : a < 2 ^ 31) : zCf yX10_share cX10_share 6 (some .int) (d + 2) [.ref 75, .int (nI h), .int y] (rho ++ encM th mA (mo, (nI H), mg, mk, (nI F), md) mR pg mq bk kp sn ml mw pn wl sp rs vl) (some (.int ((if y = 0 then nI (zfn H) else zUp H h (zVs mg mk md F H pg mq mw vl (2 ^ H)).2.2 (2 ^ H)) / nI (Nat.gcd a (zfn H))))) (rho ++ encM 0 mA (mo, (nI H), mg, mk, (nI F), md) mR pg (zVs mg mk md F H pg mq mw vl (2 ^ H)).1 bk kp sn ml (zVs mg mk md F H pg mq mw vl (2 ^ H)).2.1 pn wl sp rs (zVs mg mk md F H pg mq mw vl (2 ^ H)).2.2) := by
  refine zC.intro (by decide) (Nat.le_of_ble_eq_true rfl) rfl ?_
  refine zx_aload_n (pc := 0) dX10_share_0 rfl rfl ?_
  refine zx_iconst (pc := 1) (v := 0) dX10_share_1 (by decide) ?_
  refine u75_0 (pc := 2) hr fl_X10_56 dX10_share_2 ?_
  refine zx_aload_n (pc := 5) dX10_share_5 rfl rfl ?_
  refine zx_iload_n (pc := 6) dX10_share_6 rfl rfl ?_
  refine zx_fV1 (pc := 7) (r_noHand (d := d) hr (by omega)) cl_X10_129 (p75 hr) rfl dX10_share_7 rfl rfl (by omega) (Nat.le_of_ble_eq_true rfl) (Nat.le_refl _) (Nat.le_refl _) ?_
  refine zx_if_eq (pc := 10) (tgt := 15) dX10_share_10 (by decide) (fun h10 => ?_) (fun h10 => by first | exact absurd h10 (show (if zHas (nI H) (nI h) = 0 then (1 : Int32) else 0) = 0 by rw [zHas_1 hh (by omega)]; decide) | exact absurd (show (if zHas (nI H) (nI h) = 0 then (1 : Int32) else 0) = 0 by rw [zHas_1 hh (by omega)]; decide) h10)
  refine zx_iconst (pc := 15) (v := 0) dX10_share_15 (by decide) ?_
  refine st_3_6 (pc := 16) dX10_share_16 rfl ?_
  exact lm_share1 hr hh hH hF hv ha ha2 (2 ^ H) 0 (by omega) _ _
set_option maxHeartbeats 4000000 in
theorem lm_courses {d n0 S N : Nat} {y : Int32} {mA : (Nat → Int32) × Int32 × Int32} {mB : Int32 × Int32 × (Nat → Int32) × (Nat → Int32) × Int32 × (Nat → Int32)} {mR : Int32 × Int32 × (Nat → Int32) × Int32 × (Nat → Int32)} {pg : (Nat → Int32)} {mq : (Nat → Int32)} {bk : (Nat → Int32) × Int32} {kp : (Nat → Int32) × (Nat → Int32)} {nr : (Nat → Int32)} {no : (Nat → Int32)} {nh : (Nat → Int32)} {ml : Int64} {mw : Int32 × Int32} {pn : Int32 × Int32 × Int32 × Int32} {wl : Int32 × Int32} {sp : Int32 × Int32} {rs : Int32 × Int32} {vl : (Nat → Int32)} {rho : List zCel} (hr : rho.length = 75) (hN : N ≤ 8) (hS : S ≤ 6) (hs : ∀ k, k < S → ∃ R : Nat, R ≤ 3 ∧ nr k = nI R) : ∀ k i : Nat, i + k = 2 ^ N → zX RX10 cX10_courses 8 (some .int) "courses" none (d + 4) n0 0 0 0 0 (fun r s => r = some (.int (if y = 0 then (zCmR nr no nh S N (nI (2 ^ N - 1)) wl (2 ^ N)).1.1 else if (zCmR nr no nh S N (nI (2 ^ N - 1)) wl (2 ^ N)).1.1 = 0 then -9 else if y = 1 then (zCmR nr no nh S N (nI (2 ^ N - 1)) wl (2 ^ N)).1.2.1 else (zCmR nr no nh S N (nI (2 ^ N - 1)) wl (2 ^ N)).1.2.2)) ∧ s = rho ++ encM 0 mA mB mR pg mq bk kp ((nI S), nr, no, nh) ml mw pn ((zCmR nr no nh S N (nI (2 ^ N - 1)) wl (2 ^ N)).2.1, (zCmR nr no nh S N (nI (2 ^ N - 1)) wl (2 ^ N)).2.2) sp rs vl) 50 [some (.ref 75), some (.int (nI N)), some (.int y), some (.int (nI (2 ^ N - 1))), some (.int (zCmR nr no nh S N (nI (2 ^ N - 1)) wl i).1.2.1), some (.int (zCmR nr no nh S N (nI (2 ^ N - 1)) wl i).1.2.2), some (.int (zCmR nr no nh S N (nI (2 ^ N - 1)) wl i).1.1), some (.int (nI i))] [] (rho ++ encM 0 mA mB mR pg mq bk kp ((nI S), nr, no, nh) ml mw pn ((zCmR nr no nh S N (nI (2 ^ N - 1)) wl i).2.1, (zCmR nr no nh S N (nI (2 ^ N - 1)) wl i).2.2) sp rs vl) := by
  have hN2 := zp31 hN
  have hN3 : 0 < 2 ^ N := Nat.pow_pos (by decide)
  intro k
  induction k with
  | zero =>
    intro i hi
    obtain rfl : i = 2 ^ N := by omega
    refine zx_iload (pc := 50) dX10_courses_50 rfl ?_
    refine zx_iload_n (pc := 52) dX10_courses_52 rfl rfl ?_
    refine zx_icmp_gt (pc := 53) (tgt := 91) dX10_courses_53 (by decide) (fun h53 => ?_) (fun h53 => by first | exact absurd h53 (nI_lt (show 2 ^ N - 1 < 2 ^ N by omega) hN2) | exact absurd (nI_lt (show 2 ^ N - 1 < 2 ^ N by omega) hN2) h53)
    refine zx_iload_n (pc := 91) dX10_courses_91 rfl rfl ?_
    refine zx_if_ne (pc := 92) (tgt := 100) dX10_courses_92 (by decide) (fun h92 => ?_) (fun h92 => ?_)
    · refine zx_iload (pc := 100) dX10_courses_100 rfl ?_
      refine zx_if_ne (pc := 102) (tgt := 110) dX10_courses_102 (by decide) (fun h102 => ?_) (fun h102 => ?_)
      · refine zx_iload_n (pc := 110) dX10_courses_110 rfl rfl ?_
        refine zx_iconst (pc := 111) (v := 1) dX10_courses_111 (by decide) ?_
        refine zx_icmp_ne (pc := 112) (tgt := 120) dX10_courses_112 (by decide) (fun h112 => ?_) (fun h112 => ?_)
        · refine zx_iload (pc := 120) dX10_courses_120 rfl ?_
          exact zx_fi (pc := 122) dX10_courses_122 rfl rfl (Nat.le_refl _) (Nat.le_refl _) (by first | (simp only [h53, h92, h102, h112, reduceIte, not_true_eq_false, not_false_eq_true]; done) | (simp [h53, h92, h102, h112]; done)) rfl
        · refine zx_iload (pc := 115) dX10_courses_115 rfl ?_
          refine zx_goto (pc := 117) (tgt := 122) dX10_courses_117 (by decide) ?_
          exact zx_fi (pc := 122) dX10_courses_122 rfl rfl (Nat.le_refl _) (Nat.le_refl _) (by first | (simp only [h53, h92, h102, h112, reduceIte, not_true_eq_false, not_false_eq_true]; done) | (simp [h53, h92, h102, h112]; done)) rfl
      · refine zx_bipush (pc := 105) (v := -9) dX10_courses_105 (by decide) ?_
        refine zx_goto (pc := 107) (tgt := 122) dX10_courses_107 (by decide) ?_
        exact zx_fi (pc := 122) dX10_courses_122 rfl rfl (Nat.le_refl _) (Nat.le_refl _) (by first | (simp only [h53, h92, h102, reduceIte, not_true_eq_false, not_false_eq_true]; done) | (simp [h53, h92, h102]; done)) rfl
    · refine zx_iload (pc := 95) dX10_courses_95 rfl ?_
      refine zx_goto (pc := 97) (tgt := 122) dX10_courses_97 (by decide) ?_
      exact zx_fi (pc := 122) dX10_courses_122 rfl rfl (Nat.le_refl _) (Nat.le_refl _) (by first | (simp only [h53, h92, reduceIte, not_true_eq_false, not_false_eq_true]; done) | (simp [h53, h92]; done)) rfl
  | succ k ih =>
    intro i hi
    have ih' := ih (i + 1) (by omega)
    rw [← nI_1] at ih'
    simp only [zCmR, zCm1] at ih'
    generalize (zCmR nr no nh S N (nI (2 ^ N - 1)) wl i) = f at ih' ⊢
    obtain ⟨⟨f1, f2, f3⟩, w1, w2⟩ := f
    simp only at ih' ⊢
    refine zx_iload (pc := 50) dX10_courses_50 rfl ?_
    refine zx_iload_n (pc := 52) dX10_courses_52 rfl rfl ?_
    refine zx_icmp_gt (pc := 53) (tgt := 91) dX10_courses_53 (by decide) (fun h53 => by first | exact absurd h53 (nI_nlt (show i ≤ 2 ^ N - 1 by omega) (by omega)) | exact absurd (nI_nlt (show i ≤ 2 ^ N - 1 by omega) (by omega)) h53) (fun h53 => ?_)
    refine zx_aload_n (pc := 56) dX10_courses_56 rfl rfl ?_
    refine zx_iload_n (pc := 57) dX10_courses_57 rfl rfl ?_
    refine zx_iload (pc := 58) dX10_courses_58 rfl ?_
    refine zx_fV1 (pc := 60) (r_isSeen (d := d) hr hN hS hs) cl_X10_213 (p75 hr) rfl dX10_courses_60 rfl rfl (by omega) (Nat.le_of_ble_eq_true rfl) (Nat.le_refl _) (Nat.le_refl _) ?_
    refine zx_if_eq (pc := 63) (tgt := 85) dX10_courses_63 (by decide) (fun h63 => ?_) (fun h63 => ?_)
    · refine ic_7_8_1 (pc := 85) dX10_courses_85 rfl ?_
      refine zx_goto (pc := 88) (tgt := 50) dX10_courses_88 (by decide) ?_
      simp only [h63, reduceIte] at ih'
      exact ih'
    · refine ic_6_8_1 (pc := 66) dX10_courses_66 rfl ?_
      refine zx_iload (pc := 69) dX10_courses_69 rfl ?_
      refine zx_iload (pc := 71) dX10_courses_71 rfl ?_
      refine zx_iand (pc := 73) dX10_courses_73 ?_
      refine st_4_8 (pc := 74) dX10_courses_74 rfl ?_
      refine zx_iload (pc := 76) dX10_courses_76 rfl ?_
      refine zx_iload (pc := 78) dX10_courses_78 rfl ?_
      refine zx_iconst (pc := 80) (v := -1) dX10_courses_80 (by decide) ?_
      refine zx_ixor (pc := 81) dX10_courses_81 ?_
      refine zx_iand (pc := 82) dX10_courses_82 ?_
      refine st_5_8 (pc := 83) dX10_courses_83 rfl ?_
      refine ic_7_8_1 (pc := 85) dX10_courses_85 rfl ?_
      refine zx_goto (pc := 88) (tgt := 50) dX10_courses_88 (by decide) ?_
      simp only [h63, reduceIte] at ih'
      exact ih'
set_option maxHeartbeats 4000000 in
theorem m_courses_bad {d : Nat} {x y : Int32} {th : Int32} {mA : (Nat → Int32) × Int32 × Int32} {mB : Int32 × Int32 × (Nat → Int32) × (Nat → Int32) × Int32 × (Nat → Int32)} {mR : Int32 × Int32 × (Nat → Int32) × Int32 × (Nat → Int32)} {pg : (Nat → Int32)} {mq : (Nat → Int32)} {bk : (Nat → Int32) × Int32} {kp : (Nat → Int32) × (Nat → Int32)} {sn : Int32 × (Nat → Int32) × (Nat → Int32) × (Nat → Int32)} {ml : Int64} {mw : Int32 × Int32} {pn : Int32 × Int32 × Int32 × Int32} {wl : Int32 × Int32} {sp : Int32 × Int32} {rs : Int32 × Int32} {vl : (Nat → Int32)} {rho : List zCel} (hr : rho.length = 75) (hb : ¬ (¬ zIn x 1 8 = 0 ∧ ¬ zIn y 0 2 = 0)) : zCf yX10_courses cX10_courses 8 (some .int) (d + 4) [.ref 75, .int x, .int y] (rho ++ encM th mA mB mR pg mq bk kp sn ml mw pn wl sp rs vl) (some (.int (-2))) (rho ++ encM 0 mA mB mR pg mq bk kp sn ml mw pn wl sp rs vl) := by
  refine zC.intro (by decide) (Nat.le_of_ble_eq_true rfl) rfl ?_
  refine zx_aload_n (pc := 0) dX10_courses_0 rfl rfl ?_
  refine zx_iconst (pc := 1) (v := 0) dX10_courses_1 (by decide) ?_
  refine u75_0 (pc := 2) hr fl_X10_56 dX10_courses_2 ?_
  refine zx_iload_n (pc := 5) dX10_courses_5 rfl rfl ?_
  refine zx_i2l (pc := 6) dX10_courses_6 rfl ?_
  refine zx_lconst (pc := 7) (v := 1) dX10_courses_7 (by decide) ?_
  refine zx_ldc2 (pc := 8) kl_X10_192 dX10_courses_8 ?_
  refine zx_fS1 (pc := 11) (r_in (d := d + 3) (lo := 1) (hi := 8) rfl rfl rfl) cl_X10_63 dX10_courses_11 rfl rfl (by omega) (Nat.le_of_ble_eq_true rfl) (Nat.le_refl _) (Nat.le_refl _) ?_
  refine zx_if_eq (pc := 14) (tgt := 29) dX10_courses_14 (by decide) (fun h14 => ?_) (fun h14 => ?_)
  · refine zx_bipush (pc := 29) (v := -2) dX10_courses_29 (by decide) ?_
    exact zx_fi (pc := 31) dX10_courses_31 rfl rfl (Nat.le_refl _) (Nat.le_refl _) rfl rfl
  · refine zx_iload_n (pc := 17) dX10_courses_17 rfl rfl ?_
    refine zx_i2l (pc := 18) dX10_courses_18 rfl ?_
    refine zx_lconst (pc := 19) (v := 0) dX10_courses_19 (by decide) ?_
    refine zx_ldc2 (pc := 20) kl_X10_211 dX10_courses_20 ?_
    refine zx_fS1 (pc := 23) (r_in (d := d + 3) (lo := 0) (hi := 2) rfl rfl rfl) cl_X10_63 dX10_courses_23 rfl rfl (by omega) (Nat.le_of_ble_eq_true rfl) (Nat.le_refl _) (Nat.le_refl _) ?_
    refine zx_if_ne (pc := 26) (tgt := 32) dX10_courses_26 (by decide) (fun h26 => ?_) (fun h26 => ?_)
    · exact absurd ⟨h14, h26⟩ hb
    · refine zx_bipush (pc := 29) (v := -2) dX10_courses_29 (by decide) ?_
      exact zx_fi (pc := 31) dX10_courses_31 rfl rfl (Nat.le_refl _) (Nat.le_refl _) rfl rfl
set_option maxHeartbeats 4000000 in
theorem m_courses {d : Nat} {N S : Nat} {y : Int32} {th : Int32} {mA : (Nat → Int32) × Int32 × Int32} {mB : Int32 × Int32 × (Nat → Int32) × (Nat → Int32) × Int32 × (Nat → Int32)} {mR : Int32 × Int32 × (Nat → Int32) × Int32 × (Nat → Int32)} {pg : (Nat → Int32)} {mq : (Nat → Int32)} {bk : (Nat → Int32) × Int32} {kp : (Nat → Int32) × (Nat → Int32)} {nr : (Nat → Int32)} {no : (Nat → Int32)} {nh : (Nat → Int32)} {ml : Int64} {mw : Int32 × Int32} {pn : Int32 × Int32 × Int32 × Int32} {wh : Int32} {wu : Int32} {sp : Int32 × Int32} {rs : Int32 × Int32} {vl : (Nat → Int32)} {rho : List zCel} (hr : rho.length = 75) (hN : N ≤ 8) (hS : S ≤ 6) (hs : ∀ k, k < S → ∃ R : Nat, R ≤ 3 ∧ nr k = nI R) (b1 : ¬ zIn (nI N) 1 8 = 0) (b2 : ¬ zIn y 0 2 = 0) : zCf yX10_courses cX10_courses 8 (some .int) (d + 4) [.ref 75, .int (nI N), .int y] (rho ++ encM th mA mB mR pg mq bk kp ((nI S), nr, no, nh) ml mw pn (wh, wu) sp rs vl) (some (.int (if y = 0 then (zCmR nr no nh S N (nI (2 ^ N - 1)) (wh, wu) (2 ^ N)).1.1 else if (zCmR nr no nh S N (nI (2 ^ N - 1)) (wh, wu) (2 ^ N)).1.1 = 0 then -9 else if y = 1 then (zCmR nr no nh S N (nI (2 ^ N - 1)) (wh, wu) (2 ^ N)).1.2.1 else (zCmR nr no nh S N (nI (2 ^ N - 1)) (wh, wu) (2 ^ N)).1.2.2))) (rho ++ encM 0 mA mB mR pg mq bk kp ((nI S), nr, no, nh) ml mw pn ((zCmR nr no nh S N (nI (2 ^ N - 1)) (wh, wu) (2 ^ N)).2.1, (zCmR nr no nh S N (nI (2 ^ N - 1)) (wh, wu) (2 ^ N)).2.2) sp rs vl) := by
  refine zC.intro (by decide) (Nat.le_of_ble_eq_true rfl) rfl ?_
  refine zx_aload_n (pc := 0) dX10_courses_0 rfl rfl ?_
  refine zx_iconst (pc := 1) (v := 0) dX10_courses_1 (by decide) ?_
  refine u75_0 (pc := 2) hr fl_X10_56 dX10_courses_2 ?_
  refine zx_iload_n (pc := 5) dX10_courses_5 rfl rfl ?_
  refine zx_i2l (pc := 6) dX10_courses_6 rfl ?_
  refine zx_lconst (pc := 7) (v := 1) dX10_courses_7 (by decide) ?_
  refine zx_ldc2 (pc := 8) kl_X10_192 dX10_courses_8 ?_
  refine zx_fS1 (pc := 11) (r_in (d := d + 3) (lo := 1) (hi := 8) rfl rfl rfl) cl_X10_63 dX10_courses_11 rfl rfl (by omega) (Nat.le_of_ble_eq_true rfl) (Nat.le_refl _) (Nat.le_refl _) ?_
  refine zx_if_eq (pc := 14) (tgt := 29) dX10_courses_14 (by decide) (fun h14 => by first | exact absurd h14 b1 | exact absurd b1 h14) (fun h14 => ?_)
  refine zx_iload_n (pc := 17) dX10_courses_17 rfl rfl ?_
  refine zx_i2l (pc := 18) dX10_courses_18 rfl ?_
  refine zx_lconst (pc := 19) (v := 0) dX10_courses_19 (by decide) ?_
  refine zx_ldc2 (pc := 20) kl_X10_211 dX10_courses_20 ?_
  refine zx_fS1 (pc := 23) (r_in (d := d + 3) (lo := 0) (hi := 2) rfl rfl rfl) cl_X10_63 dX10_courses_23 rfl rfl (by omega) (Nat.le_of_ble_eq_true rfl) (Nat.le_refl _) (Nat.le_refl _) ?_
  refine zx_if_ne (pc := 26) (tgt := 32) dX10_courses_26 (by decide) (fun h26 => ?_) (fun h26 => by first | exact absurd h26 b2 | exact absurd b2 h26)
  refine zx_iconst (pc := 32) (v := 1) dX10_courses_32 (by decide) ?_
  refine zx_iload_n (pc := 33) dX10_courses_33 rfl rfl ?_
  refine zx_ishl (pc := 34) dX10_courses_34 ?_
  refine zx_iconst (pc := 35) (v := 1) dX10_courses_35 (by decide) ?_
  refine zx_isub (pc := 36) dX10_courses_36 ?_
  have hp0 : 0 < 2 ^ N := Nat.pow_pos (by decide)
  rw [zsh1 N hN, show nI (2 ^ N) - 1 = nI (2 ^ N - 1) from pk_sub (b := 1) (by omega)]
  refine st_3_8 (pc := 37) dX10_courses_37 rfl ?_
  refine zx_iload_n (pc := 38) dX10_courses_38 rfl rfl ?_
  refine st_4_8 (pc := 39) dX10_courses_39 rfl ?_
  refine zx_iload_n (pc := 41) dX10_courses_41 rfl rfl ?_
  refine st_5_8 (pc := 42) dX10_courses_42 rfl ?_
  refine zx_iconst (pc := 44) (v := 0) dX10_courses_44 (by decide) ?_
  refine st_6_8 (pc := 45) dX10_courses_45 rfl ?_
  refine zx_iconst (pc := 47) (v := 0) dX10_courses_47 (by decide) ?_
  refine st_7_8 (pc := 48) dX10_courses_48 rfl ?_
  exact lm_courses (wl := (wh, wu)) hr hN hS hs (2 ^ N) 0 (by omega)
set_option maxHeartbeats 4000000 in
theorem lm_chance {d n0 N k a : Nat} {y z u b : Int32} {mA : (Nat → Int32) × Int32 × Int32} {mB : Int32 × Int32 × (Nat → Int32) × (Nat → Int32) × Int32 × (Nat → Int32)} {mR : Int32 × Int32 × (Nat → Int32) × Int32 × (Nat → Int32)} {pg : (Nat → Int32)} {mq : (Nat → Int32)} {bk : (Nat → Int32) × Int32} {kp : (Nat → Int32) × (Nat → Int32)} {sn : Int32 × (Nat → Int32) × (Nat → Int32) × (Nat → Int32)} {ml : Int64} {mw : Int32 × Int32} {pn : Int32 × Int32 × Int32 × Int32} {wl : Int32 × Int32} {sp : Int32 × Int32} {rs : Int32 × Int32} {vl : (Nat → Int32)} {rho : List zCel} (hr : rho.length = 75) (hN : N ≤ 6) (hk8 : k ≤ 8) (hk : pg 12 = nI k) (hu : pg 13 = u) (ha : (if 0 ≤ (zCx N y z k u wl (2 ^ N)).1 then (zCx N y z k u wl (2 ^ N)).1 else 0 - (zCx N y z k u wl (2 ^ N)).1) = nI a) (ha2 : a < 2 ^ 31) : ∀ n i : Nat, i + n = 2 ^ N → ∀ o7, zX RX10 cX10_chance 8 (some .int) "chance" none (d + 3) n0 0 0 0 0 (fun r s => r = some (.int ((if b = 0 then nI (10 ^ N) else (zCx N y z k u wl (2 ^ N)).1) / nI (Nat.gcd a (10 ^ N)))) ∧ s = rho ++ encM 0 mA mB mR pg mq bk kp sn ml mw pn ((zCx N y z k u wl (2 ^ N)).2.1, (zCx N y z k u wl (2 ^ N)).2.2) sp rs vl) 50 [some (.ref 75), some (.int (nI N)), some (.int y), some (.int z), some (.int b), some (.int (zCx N y z k u wl i).1), some (.int (nI i)), o7] [] (rho ++ encM 0 mA mB mR pg mq bk kp sn ml mw pn ((zCx N y z k u wl i).2.1, (zCx N y z k u wl i).2.2) sp rs vl) := by
  have hN2 := zp31 (H := N) (by omega)
  intro n
  induction n with
  | zero =>
    intro i hi o7
    obtain rfl : i = 2 ^ N := by omega
    refine zx_iload (pc := 50) dX10_chance_50 rfl ?_
    refine zx_iconst (pc := 52) (v := 1) dX10_chance_52 (by decide) ?_
    refine zx_iload_n (pc := 53) dX10_chance_53 rfl rfl ?_
    refine zx_ishl (pc := 54) dX10_chance_54 ?_
    rw [zsh1 N (by omega)]
    refine zx_icmp_ge (pc := 55) (tgt := 126) dX10_chance_55 (by decide) (fun h55 => ?_) (fun h55 => by first | exact absurd h55 (Int32.le_refl (nI (2 ^ N))) | exact absurd (Int32.le_refl (nI (2 ^ N))) h55)
    refine zx_iload (pc := 126) dX10_chance_126 rfl ?_
    refine zx_bipush (pc := 128) (v := 10) dX10_chance_128 (by decide) ?_
    refine zx_iload_n (pc := 130) dX10_chance_130 rfl rfl ?_
    refine zx_fS1 (pc := 131) (r_power (d := d + 2) (by omega)) cl_X10_158 dX10_chance_131 rfl rfl (by omega) (Nat.le_of_ble_eq_true rfl) (Nat.le_refl _) (Nat.le_refl _) ?_
    rw [show zPw 10 N = nI (10 ^ N) from zPw_n 10 _]
    refine zx_iload (pc := 134) dX10_chance_134 rfl ?_
    refine zx_fS1 (pc := 136) (r_fraction (d := d + 1) ha ha2 (zpwb (by decide) hN) (zpwp (by decide))) cl_X10_205 dX10_chance_136 rfl rfl (by omega) (Nat.le_of_ble_eq_true rfl) (Nat.le_refl _) (Nat.le_refl _) ?_
    exact zx_fi (pc := 139) dX10_chance_139 rfl rfl (Nat.le_refl _) (Nat.le_refl _) rfl rfl
  | succ n ih =>
    intro i hi o7
    have ih' := ih (i + 1) (by omega)
    rw [← nI_1] at ih'
    simp only [zCx] at ih'
    clear ih ha
    generalize (zCx N y z k u wl i) = f at ih' ⊢
    obtain ⟨f1, w1, w2⟩ := f
    simp only at ih' ⊢
    have hc := zPcN N hN i (by omega)
    refine zx_iload (pc := 50) dX10_chance_50 rfl ?_
    refine zx_iconst (pc := 52) (v := 1) dX10_chance_52 (by decide) ?_
    refine zx_iload_n (pc := 53) dX10_chance_53 rfl rfl ?_
    refine zx_ishl (pc := 54) dX10_chance_54 ?_
    rw [zsh1 N (by omega)]
    refine zx_icmp_ge (pc := 55) (tgt := 126) dX10_chance_55 (by decide) (fun h55 => by first | exact absurd h55 (nI_ge (show i < 2 ^ N by omega) hN2) | exact absurd (nI_ge (show i < 2 ^ N by omega) hN2) h55) (fun h55 => ?_)
    refine zx_iload (pc := 58) dX10_chance_58 rfl ?_
    refine zx_fS1 (pc := 60) (r_many (d := d + 2) ) cl_X10_189 dX10_chance_60 rfl rfl (by omega) (Nat.le_of_ble_eq_true rfl) (Nat.le_refl _) (Nat.le_refl _) ?_
    rw [zPcI i (zp256 (H := N) (by omega) (by omega))]
    refine st_7_8 (pc := 63) dX10_chance_63 rfl ?_
    refine zx_aload_n (pc := 65) dX10_chance_65 rfl rfl ?_
    refine zx_aload_n (pc := 66) dX10_chance_66 rfl rfl ?_
    refine g75_15 (pc := 67) hr fl_X10_28 dX10_chance_67 ?_
    refine zx_bipush (pc := 70) (v := 12) dX10_chance_70 (by decide) ?_
    refine a82 (pc := 72) hr (zix_k (j := 12) (by decide) (by decide)) dX10_chance_72 ?_
    refine zx_aload_n (pc := 73) dX10_chance_73 rfl rfl ?_
    refine g75_15 (pc := 74) hr fl_X10_28 dX10_chance_74 ?_
    refine zx_bipush (pc := 77) (v := 13) dX10_chance_77 (by decide) ?_
    refine a82 (pc := 79) hr (zix_k (j := 13) (by decide) (by decide)) dX10_chance_79 ?_
    refine zx_iload (pc := 80) dX10_chance_80 rfl ?_
    rw [hk, hu]
    refine zx_fV0 (pc := 82) (r_layWall (d := d) hr hk8 (by omega)) cl_X10_185 (p75 hr) rfl dX10_chance_82 rfl rfl (by omega) (Nat.le_of_ble_eq_true rfl) (Nat.le_refl _) (Nat.le_refl _) ?_
    refine zx_iload (pc := 85) dX10_chance_85 rfl ?_
    refine zx_aload_n (pc := 87) dX10_chance_87 rfl rfl ?_
    refine g75_32 (pc := 88) hr fl_X10_142 dX10_chance_88 ?_
    refine zx_iload_n (pc := 91) dX10_chance_91 rfl rfl ?_
    refine zx_icmp_lt (pc := 92) (tgt := 116) dX10_chance_92 (by decide) (fun h92 => ?_) (fun h92 => ?_)
    · refine zx_iconst (pc := 116) (v := 0) dX10_chance_116 (by decide) ?_
      refine zx_iadd (pc := 117) dX10_chance_117 ?_
      refine st_5_8 (pc := 118) dX10_chance_118 rfl ?_
      refine ic_6_8_1 (pc := 120) dX10_chance_120 rfl ?_
      refine zx_goto (pc := 123) (tgt := 50) dX10_chance_123 (by decide) ?_
      simp only [h92, reduceIte] at ih'
      exact ih' _
    · refine zx_iload_n (pc := 95) dX10_chance_95 rfl rfl ?_
      refine zx_iload (pc := 96) dX10_chance_96 rfl ?_
      refine zx_fS1 (pc := 98) (r_power (d := d + 2) (by omega)) cl_X10_158 dX10_chance_98 rfl rfl (by omega) (Nat.le_of_ble_eq_true rfl) (Nat.le_refl _) (Nat.le_refl _) ?_
      refine zx_bipush (pc := 101) (v := 10) dX10_chance_101 (by decide) ?_
      refine zx_iload_n (pc := 103) dX10_chance_103 rfl rfl ?_
      refine zx_isub (pc := 104) dX10_chance_104 ?_
      refine zx_iload_n (pc := 105) dX10_chance_105 rfl rfl ?_
      refine zx_iload (pc := 106) dX10_chance_106 rfl ?_
      refine zx_isub (pc := 108) dX10_chance_108 ?_
      rw [pk_sub hc]
      refine zx_fS1 (pc := 109) (r_power (d := d + 2) (by omega)) cl_X10_158 dX10_chance_109 rfl rfl (by omega) (Nat.le_of_ble_eq_true rfl) (Nat.le_refl _) (Nat.le_refl _) ?_
      refine zx_imul (pc := 112) dX10_chance_112 ?_
      refine zx_goto (pc := 113) (tgt := 117) dX10_chance_113 (by decide) ?_
      refine zx_iadd (pc := 117) dX10_chance_117 ?_
      refine st_5_8 (pc := 118) dX10_chance_118 rfl ?_
      refine ic_6_8_1 (pc := 120) dX10_chance_120 rfl ?_
      refine zx_goto (pc := 123) (tgt := 50) dX10_chance_123 (by decide) ?_
      simp only [h92, reduceIte] at ih'
      exact ih' _
set_option maxHeartbeats 4000000 in
theorem m_chance_bad {d : Nat} {x y z b : Int32} {th : Int32} {mA : (Nat → Int32) × Int32 × Int32} {mB : Int32 × Int32 × (Nat → Int32) × (Nat → Int32) × Int32 × (Nat → Int32)} {mR : Int32 × Int32 × (Nat → Int32) × Int32 × (Nat → Int32)} {pg : (Nat → Int32)} {mq : (Nat → Int32)} {bk : (Nat → Int32) × Int32} {kp : (Nat → Int32) × (Nat → Int32)} {sn : Int32 × (Nat → Int32) × (Nat → Int32) × (Nat → Int32)} {ml : Int64} {mw : Int32 × Int32} {pn : Int32 × Int32 × Int32 × Int32} {wl : Int32 × Int32} {sp : Int32 × Int32} {rs : Int32 × Int32} {vl : (Nat → Int32)} {rho : List zCel} (hr : rho.length = 75) (hb : ¬ (¬ zIn x 1 6 = 0 ∧ ¬ zIn y 0 8 = 0 ∧ ¬ zIn z 0 10 = 0)) : zCf yX10_chance cX10_chance 8 (some .int) (d + 3) [.ref 75, .int x, .int y, .int z, .int b] (rho ++ encM th mA mB mR pg mq bk kp sn ml mw pn wl sp rs vl) (some (.int (-2))) (rho ++ encM 0 mA mB mR pg mq bk kp sn ml mw pn wl sp rs vl) := by
  refine zC.intro (by decide) (Nat.le_of_ble_eq_true rfl) rfl ?_
  refine zx_aload_n (pc := 0) dX10_chance_0 rfl rfl ?_
  refine zx_iconst (pc := 1) (v := 0) dX10_chance_1 (by decide) ?_
  refine u75_0 (pc := 2) hr fl_X10_56 dX10_chance_2 ?_
  refine zx_iload_n (pc := 5) dX10_chance_5 rfl rfl ?_
  refine zx_i2l (pc := 6) dX10_chance_6 rfl ?_
  refine zx_lconst (pc := 7) (v := 1) dX10_chance_7 (by decide) ?_
  refine zx_ldc2 (pc := 8) kl_X10_229 dX10_chance_8 ?_
  refine zx_fS1 (pc := 11) (r_in (d := d + 2) (lo := 1) (hi := 6) rfl rfl rfl) cl_X10_63 dX10_chance_11 rfl rfl (by omega) (Nat.le_of_ble_eq_true rfl) (Nat.le_refl _) (Nat.le_refl _) ?_
  refine zx_if_eq (pc := 14) (tgt := 41) dX10_chance_14 (by decide) (fun h14 => ?_) (fun h14 => ?_)
  · refine zx_bipush (pc := 41) (v := -2) dX10_chance_41 (by decide) ?_
    exact zx_fi (pc := 43) dX10_chance_43 rfl rfl (Nat.le_refl _) (Nat.le_refl _) rfl rfl
  · refine zx_iload_n (pc := 17) dX10_chance_17 rfl rfl ?_
    refine zx_i2l (pc := 18) dX10_chance_18 rfl ?_
    refine zx_lconst (pc := 19) (v := 0) dX10_chance_19 (by decide) ?_
    refine zx_ldc2 (pc := 20) kl_X10_192 dX10_chance_20 ?_
    refine zx_fS1 (pc := 23) (r_in (d := d + 2) (lo := 0) (hi := 8) rfl rfl rfl) cl_X10_63 dX10_chance_23 rfl rfl (by omega) (Nat.le_of_ble_eq_true rfl) (Nat.le_refl _) (Nat.le_refl _) ?_
    refine zx_if_eq (pc := 26) (tgt := 41) dX10_chance_26 (by decide) (fun h26 => ?_) (fun h26 => ?_)
    · refine zx_bipush (pc := 41) (v := -2) dX10_chance_41 (by decide) ?_
      exact zx_fi (pc := 43) dX10_chance_43 rfl rfl (Nat.le_refl _) (Nat.le_refl _) rfl rfl
    · refine zx_iload_n (pc := 29) dX10_chance_29 rfl rfl ?_
      refine zx_i2l (pc := 30) dX10_chance_30 rfl ?_
      refine zx_lconst (pc := 31) (v := 0) dX10_chance_31 (by decide) ?_
      refine zx_ldc2 (pc := 32) kl_X10_231 dX10_chance_32 ?_
      refine zx_fS1 (pc := 35) (r_in (d := d + 2) (lo := 0) (hi := 10) rfl rfl rfl) cl_X10_63 dX10_chance_35 rfl rfl (by omega) (Nat.le_of_ble_eq_true rfl) (Nat.le_refl _) (Nat.le_refl _) ?_
      refine zx_if_ne (pc := 38) (tgt := 44) dX10_chance_38 (by decide) (fun h38 => ?_) (fun h38 => ?_)
      · exact absurd ⟨h14, h26, h38⟩ hb
      · refine zx_bipush (pc := 41) (v := -2) dX10_chance_41 (by decide) ?_
        exact zx_fi (pc := 43) dX10_chance_43 rfl rfl (Nat.le_refl _) (Nat.le_refl _) rfl rfl
set_option maxHeartbeats 4000000 in
theorem m_chance {d : Nat} {N k a : Nat} {y z u b : Int32} {th : Int32} {mA : (Nat → Int32) × Int32 × Int32} {mB : Int32 × Int32 × (Nat → Int32) × (Nat → Int32) × Int32 × (Nat → Int32)} {mR : Int32 × Int32 × (Nat → Int32) × Int32 × (Nat → Int32)} {pg : (Nat → Int32)} {mq : (Nat → Int32)} {bk : (Nat → Int32) × Int32} {kp : (Nat → Int32) × (Nat → Int32)} {sn : Int32 × (Nat → Int32) × (Nat → Int32) × (Nat → Int32)} {ml : Int64} {mw : Int32 × Int32} {pn : Int32 × Int32 × Int32 × Int32} {wh : Int32} {wu : Int32} {sp : Int32 × Int32} {rs : Int32 × Int32} {vl : (Nat → Int32)} {rho : List zCel} (hr : rho.length = 75) (hN : N ≤ 6) (hk8 : k ≤ 8) (hk : pg 12 = nI k) (hu : pg 13 = u) (ha : (if 0 ≤ (zCx N y z k u (wh, wu) (2 ^ N)).1 then (zCx N y z k u (wh, wu) (2 ^ N)).1 else 0 - (zCx N y z k u (wh, wu) (2 ^ N)).1) = nI a) (ha2 : a < 2 ^ 31) (b1 : ¬ zIn (nI N) 1 6 = 0) (b2 : ¬ zIn y 0 8 = 0) (b3 : ¬ zIn z 0 10 = 0) : zCf yX10_chance cX10_chance 8 (some .int) (d + 3) [.ref 75, .int (nI N), .int y, .int z, .int b] (rho ++ encM th mA mB mR pg mq bk kp sn ml mw pn (wh, wu) sp rs vl) (some (.int ((if b = 0 then nI (10 ^ N) else (zCx N y z k u (wh, wu) (2 ^ N)).1) / nI (Nat.gcd a (10 ^ N))))) (rho ++ encM 0 mA mB mR pg mq bk kp sn ml mw pn ((zCx N y z k u (wh, wu) (2 ^ N)).2.1, (zCx N y z k u (wh, wu) (2 ^ N)).2.2) sp rs vl) := by
  refine zC.intro (by decide) (Nat.le_of_ble_eq_true rfl) rfl ?_
  refine zx_aload_n (pc := 0) dX10_chance_0 rfl rfl ?_
  refine zx_iconst (pc := 1) (v := 0) dX10_chance_1 (by decide) ?_
  refine u75_0 (pc := 2) hr fl_X10_56 dX10_chance_2 ?_
  refine zx_iload_n (pc := 5) dX10_chance_5 rfl rfl ?_
  refine zx_i2l (pc := 6) dX10_chance_6 rfl ?_
  refine zx_lconst (pc := 7) (v := 1) dX10_chance_7 (by decide) ?_
  refine zx_ldc2 (pc := 8) kl_X10_229 dX10_chance_8 ?_
  refine zx_fS1 (pc := 11) (r_in (d := d + 2) (lo := 1) (hi := 6) rfl rfl rfl) cl_X10_63 dX10_chance_11 rfl rfl (by omega) (Nat.le_of_ble_eq_true rfl) (Nat.le_refl _) (Nat.le_refl _) ?_
  refine zx_if_eq (pc := 14) (tgt := 41) dX10_chance_14 (by decide) (fun h14 => by first | exact absurd h14 b1 | exact absurd b1 h14) (fun h14 => ?_)
  refine zx_iload_n (pc := 17) dX10_chance_17 rfl rfl ?_
  refine zx_i2l (pc := 18) dX10_chance_18 rfl ?_
  refine zx_lconst (pc := 19) (v := 0) dX10_chance_19 (by decide) ?_
  refine zx_ldc2 (pc := 20) kl_X10_192 dX10_chance_20 ?_
  refine zx_fS1 (pc := 23) (r_in (d := d + 2) (lo := 0) (hi := 8) rfl rfl rfl) cl_X10_63 dX10_chance_23 rfl rfl (by omega) (Nat.le_of_ble_eq_true rfl) (Nat.le_refl _) (Nat.le_refl _) ?_
  refine zx_if_eq (pc := 26) (tgt := 41) dX10_chance_26 (by decide) (fun h26 => by first | exact absurd h26 b2 | exact absurd b2 h26) (fun h26 => ?_)
  refine zx_iload_n (pc := 29) dX10_chance_29 rfl rfl ?_
  refine zx_i2l (pc := 30) dX10_chance_30 rfl ?_
  refine zx_lconst (pc := 31) (v := 0) dX10_chance_31 (by decide) ?_
  refine zx_ldc2 (pc := 32) kl_X10_231 dX10_chance_32 ?_
  refine zx_fS1 (pc := 35) (r_in (d := d + 2) (lo := 0) (hi := 10) rfl rfl rfl) cl_X10_63 dX10_chance_35 rfl rfl (by omega) (Nat.le_of_ble_eq_true rfl) (Nat.le_refl _) (Nat.le_refl _) ?_
  refine zx_if_ne (pc := 38) (tgt := 44) dX10_chance_38 (by decide) (fun h38 => ?_) (fun h38 => by first | exact absurd h38 b3 | exact absurd b3 h38)
  refine zx_iconst (pc := 44) (v := 0) dX10_chance_44 (by decide) ?_
  refine st_5_8 (pc := 45) dX10_chance_45 rfl ?_
  refine zx_iconst (pc := 47) (v := 0) dX10_chance_47 (by decide) ?_
  refine st_6_8 (pc := 48) dX10_chance_48 rfl ?_
  exact lm_chance (wl := (wh, wu)) hr hN hk8 hk hu ha ha2 (2 ^ N) 0 (by omega) _
set_option maxHeartbeats 4000000 in
theorem lm_years {d n0 H F M : Nat} {mA : (Nat → Int32) × Int32 × Int32} {mo : Int32} {mg : (Nat → Int32)} {mk : (Nat → Int32)} {md : (Nat → Int32)} {mR : Int32 × Int32 × (Nat → Int32) × Int32 × (Nat → Int32)} {pg : (Nat → Int32)} {mq : (Nat → Int32)} {bk : (Nat → Int32) × Int32} {kp : (Nat → Int32) × (Nat → Int32)} {sn : Int32 × (Nat → Int32) × (Nat → Int32) × (Nat → Int32)} {ml : Int64} {mw : Int32 × Int32} {pn : Int32 × Int32 × Int32 × Int32} {wl : Int32 × Int32} {sp : Int32 × Int32} {rs : Int32 × Int32} {vl : (Nat → Int32)} {rho : List zCel} (hr : rho.length = 75) (hH : H ≤ 5) (hF : F ≤ 3) (hM : M ≤ 20) : ∀ k i : Nat, i + k = M → (∀ h, h < H → ∃ u : Nat, u < 2 + F ∧ (zYm mg mk md F H mo ml (zC16 pg mq 16) mw i).2.1 h = nI u) → ∀ o4, zX RX10 cX10_years 5 (some .int) "years" none (d + 3) n0 0 0 0 0 (fun r s => r = some (.int ((zYm mg mk md F H mo ml (zC16 pg mq 16) mw M).2.2.2)) ∧ s = rho ++ encM 0 mA (mo, (nI H), mg, mk, (nI F), md) mR pg (zYm mg mk md F H mo ml (zC16 pg mq 16) mw M).2.1 bk kp sn (zYm mg mk md F H mo ml (zC16 pg mq 16) mw M).1 (zYm mg mk md F H mo ml (zC16 pg mq 16) mw M).2.2.1 pn wl sp rs vl) 28 [some (.ref 75), some (.int (nI M)), some (.int (zYm mg mk md F H mo ml (zC16 pg mq 16) mw i).2.2.2), some (.int (nI i)), o4] [] (rho ++ encM 0 mA (mo, (nI H), mg, mk, (nI F), md) mR pg (zYm mg mk md F H mo ml (zC16 pg mq 16) mw i).2.1 bk kp sn (zYm mg mk md F H mo ml (zC16 pg mq 16) mw i).1 (zYm mg mk md F H mo ml (zC16 pg mq 16) mw i).2.2.1 pn wl sp rs vl) := by
  intro k
  induction k with
  | zero =>
    intro i hi hv o4
    obtain rfl : i = M := by omega
    refine zx_iload_n (pc := 28) dX10_years_28 rfl rfl ?_
    refine zx_iload_n (pc := 29) dX10_years_29 rfl rfl ?_
    refine zx_icmp_ge (pc := 30) (tgt := 123) dX10_years_30 (by decide) (fun h30 => ?_) (fun h30 => by first | exact absurd h30 (show nI i ≤ nI i from Int32.le_refl _) | exact absurd (show nI i ≤ nI i from Int32.le_refl _) h30)
    refine zx_iload_n (pc := 123) dX10_years_123 rfl rfl ?_
    exact zx_fi (pc := 124) dX10_years_124 rfl rfl (Nat.le_refl _) (Nat.le_refl _) rfl rfl
  | succ k ih =>
    intro i hi hv o4
    have ih' := ih (i + 1) (by omega)
    rw [← nI_1] at ih'
    simp only [zYm] at ih'
    clear ih
    generalize (zYm mg mk md F H mo ml (zC16 pg mq 16) mw i) = S0 at hv ih' ⊢
    obtain ⟨s, t, w, u⟩ := S0
    simp only at hv ih' ⊢
    have hk := zYk_lt (zSd s)
    have hv2 := zYm1v hF hH hk hv
    have ih2 := ih' (fun h hh => by rw [zPd_h (by omega)]; exact hv2 h hh)
    clear ih'
    refine zx_iload_n (pc := 28) dX10_years_28 rfl rfl ?_
    refine zx_iload_n (pc := 29) dX10_years_29 rfl rfl ?_
    refine zx_icmp_ge (pc := 30) (tgt := 123) dX10_years_30 (by decide) (fun h30 => by first | exact absurd h30 (nI_ge (show i < M by omega) (by omega)) | exact absurd (nI_ge (show i < M by omega) (by omega)) h30) (fun h30 => ?_)
    refine zx_aload_n (pc := 33) dX10_years_33 rfl rfl ?_
    refine zx_aload_n (pc := 34) dX10_years_34 rfl rfl ?_
    refine g75_25 (pc := 35) hr fl_X10_233 dX10_years_35 ?_
    refine zx_ldc2 (pc := 38) kl_X10_239 dX10_years_38 ?_
    refine zx_lmul (pc := 41) dX10_years_41 ?_
    refine zx_ldc2 (pc := 42) kl_X10_241 dX10_years_42 ?_
    refine zx_ladd (pc := 45) dX10_years_45 ?_
    refine u75_25 (pc := 46) hr fl_X10_233 dX10_years_46 ?_
    rw [show s * 6364136223846793005 + 1442695040888963407 = zSd s from rfl]
    refine zx_aload_n (pc := 49) dX10_years_49 rfl rfl ?_
    refine g75_25 (pc := 50) hr fl_X10_233 dX10_years_50 ?_
    refine zx_bipush (pc := 53) (v := 33) dX10_years_53 (by decide) ?_
    refine zx_lushr (pc := 55) dX10_years_55 rfl ?_
    refine zx_ldc2 (pc := 56) kl_X10_243 dX10_years_56 ?_
    refine zx_lrem (pc := 59) dX10_years_59 (by decide) ?_
    refine zx_l2i (pc := 60) dX10_years_60 rfl ?_
    refine zx_st (st' := [.int (zpr (zSd s))]) rfl ?_
    rw [zpr_eq]
    generalize zYk (zSd s) = q at hk hv2 ih2 ⊢
    refine st_4_5 (pc := 61) dX10_years_61 rfl ?_
    refine zx_aload_n (pc := 63) dX10_years_63 rfl rfl ?_
    refine zx_iload (pc := 64) dX10_years_64 rfl ?_
    refine zx_bipush (pc := 66) (v := 6) dX10_years_66 (by decide) ?_
    refine zx_idiv (pc := 68) dX10_years_68 (by decide) ?_
    rw [show nI q / 6 = nI (q / 6) from pk_div (by omega) (by decide) (by decide)]
    refine zx_fV1 (pc := 69) (r_noHand (d := d + 1) hr (by omega)) cl_X10_129 (p75 hr) rfl dX10_years_69 rfl rfl (by omega) (Nat.le_of_ble_eq_true rfl) (Nat.le_refl _) (Nat.le_refl _) ?_
    refine zx_if_ne (pc := 72) (tgt := 106) dX10_years_72 (by decide) (fun h72 => ?_) (fun h72 => ?_)
    · have hY : zYm1 F H q t = t := (Classical.em (zHas (nI H) (nI (q / 6)) = 0)).elim (fun g => by rw [zYm1, if_pos g]) (fun g => absurd (if_neg g) h72)
      rw [hY] at ih2 hv2
      refine zx_iload_n (pc := 106) dX10_years_106 rfl rfl ?_
      refine zx_aload_n (pc := 107) dX10_years_107 rfl rfl ?_
      refine zx_aload_n (pc := 108) dX10_years_108 rfl rfl ?_
      refine g75_16 (pc := 109) hr fl_X10_31 dX10_years_109 ?_
      refine zx_fV1 (pc := 112) (r_goDay_t (d := d) hr hH hF hv2) cl_X10_136 (p75 hr) rfl dX10_years_112 rfl rfl (by omega) (Nat.le_of_ble_eq_true rfl) (Nat.le_refl _) (Nat.le_refl _) ?_
      refine zx_iadd (pc := 115) dX10_years_115 ?_
      refine st_2_5 (pc := 116) dX10_years_116 rfl ?_
      refine ic_3_5_1 (pc := 117) dX10_years_117 rfl ?_
      refine zx_goto (pc := 120) (tgt := 28) dX10_years_120 (by decide) ?_
      exact ih2 _
    · refine zx_iload (pc := 75) dX10_years_75 rfl ?_
      refine zx_bipush (pc := 77) (v := 6) dX10_years_77 (by decide) ?_
      refine zx_irem (pc := 79) dX10_years_79 (by decide) ?_
      rw [show nI q - nI q / 6 * 6 = nI (q % 6) from pk_rem (by omega) (by decide) (by decide)]
      refine zx_iconst (pc := 80) (v := 1) dX10_years_80 (by decide) ?_
      refine zx_aload_n (pc := 81) dX10_years_81 rfl rfl ?_
      refine g75_8 (pc := 82) hr fl_X10_103 dX10_years_82 ?_
      refine zx_iadd (pc := 85) dX10_years_85 ?_
      refine zx_icmp_gt (pc := 86) (tgt := 106) dX10_years_86 (by decide) (fun h86 => ?_) (fun h86 => ?_)
      · by_cases hz : zHas (nI H) (nI (q / 6)) = 0
        · exact absurd h72 (by rw [if_pos hz]; decide)
        have hY : zYm1 F H q t = if nI (q % 6) ≤ 1 + nI F then upd t (q / 6) (nI (q % 6)) else t := by rw [zYm1, if_neg hz]
        rw [hY] at ih2 hv2
        first | rw [if_neg (Int32.not_le.mpr h86)] at ih2 hv2 | rw [if_pos (Int32.not_lt.mp h86)] at ih2 hv2
        refine zx_iload_n (pc := 106) dX10_years_106 rfl rfl ?_
        refine zx_aload_n (pc := 107) dX10_years_107 rfl rfl ?_
        refine zx_aload_n (pc := 108) dX10_years_108 rfl rfl ?_
        refine g75_16 (pc := 109) hr fl_X10_31 dX10_years_109 ?_
        refine zx_fV1 (pc := 112) (r_goDay_t (d := d) hr hH hF hv2) cl_X10_136 (p75 hr) rfl dX10_years_112 rfl rfl (by omega) (Nat.le_of_ble_eq_true rfl) (Nat.le_refl _) (Nat.le_refl _) ?_
        refine zx_iadd (pc := 115) dX10_years_115 ?_
        refine st_2_5 (pc := 116) dX10_years_116 rfl ?_
        refine ic_3_5_1 (pc := 117) dX10_years_117 rfl ?_
        refine zx_goto (pc := 120) (tgt := 28) dX10_years_120 (by decide) ?_
        exact ih2 _
      · refine zx_aload_n (pc := 89) dX10_years_89 rfl rfl ?_
        refine g75_16 (pc := 90) hr fl_X10_31 dX10_years_90 ?_
        refine zx_iconst (pc := 93) (v := 0) dX10_years_93 (by decide) ?_
        refine zx_iload (pc := 94) dX10_years_94 rfl ?_
        refine zx_bipush (pc := 96) (v := 6) dX10_years_96 (by decide) ?_
        refine zx_idiv (pc := 98) dX10_years_98 (by decide) ?_
        rw [show nI q / 6 = nI (q / 6) from pk_div (by omega) (by decide) (by decide)]
        refine zx_iadd (pc := 99) dX10_years_99 ?_
        refine zx_iload (pc := 100) dX10_years_100 rfl ?_
        refine zx_bipush (pc := 102) (v := 6) dX10_years_102 (by decide) ?_
        refine zx_irem (pc := 104) dX10_years_104 (by decide) ?_
        rw [show nI q - nI q / 6 * 6 = nI (q % 6) from pk_rem (by omega) (by decide) (by decide)]
        have hq5 : q / 6 < 5 := by omega
        refine s83 (pc := 105) hr (zix_0 (by omega)) dX10_years_105 ?_
        by_cases hz : zHas (nI H) (nI (q / 6)) = 0
        · exact absurd h72 (by rw [if_pos hz]; decide)
        have hY : zYm1 F H q t = if nI (q % 6) ≤ 1 + nI F then upd t (q / 6) (nI (q % 6)) else t := by rw [zYm1, if_neg hz]
        rw [hY] at ih2 hv2
        first | rw [if_neg (Int32.not_le.mpr h86)] at ih2 hv2 | rw [if_pos (Int32.not_lt.mp h86)] at ih2 hv2
        refine zx_iload_n (pc := 106) dX10_years_106 rfl rfl ?_
        refine zx_aload_n (pc := 107) dX10_years_107 rfl rfl ?_
        refine zx_aload_n (pc := 108) dX10_years_108 rfl rfl ?_
        refine g75_16 (pc := 109) hr fl_X10_31 dX10_years_109 ?_
        refine zx_fV1 (pc := 112) (r_goDay_t (d := d) hr hH hF hv2) cl_X10_136 (p75 hr) rfl dX10_years_112 rfl rfl (by omega) (Nat.le_of_ble_eq_true rfl) (Nat.le_refl _) (Nat.le_refl _) ?_
        refine zx_iadd (pc := 115) dX10_years_115 ?_
        refine st_2_5 (pc := 116) dX10_years_116 rfl ?_
        refine ic_3_5_1 (pc := 117) dX10_years_117 rfl ?_
        refine zx_goto (pc := 120) (tgt := 28) dX10_years_120 (by decide) ?_
        exact ih2 _
set_option maxHeartbeats 4000000 in
theorem m_years_bad {d : Nat} {x : Int32} {th : Int32} {mA : (Nat → Int32) × Int32 × Int32} {mB : Int32 × Int32 × (Nat → Int32) × (Nat → Int32) × Int32 × (Nat → Int32)} {mR : Int32 × Int32 × (Nat → Int32) × Int32 × (Nat → Int32)} {pg : (Nat → Int32)} {mq : (Nat → Int32)} {bk : (Nat → Int32) × Int32} {kp : (Nat → Int32) × (Nat → Int32)} {sn : Int32 × (Nat → Int32) × (Nat → Int32) × (Nat → Int32)} {ml : Int64} {mw : Int32 × Int32} {pn : Int32 × Int32 × Int32 × Int32} {wl : Int32 × Int32} {sp : Int32 × Int32} {rs : Int32 × Int32} {vl : (Nat → Int32)} {rho : List zCel} (hr : rho.length = 75) (hb : zIn x 1 20 = 0) : zCf yX10_years cX10_years 5 (some .int) (d + 3) [.ref 75, .int x] (rho ++ encM th mA mB mR pg mq bk kp sn ml mw pn wl sp rs vl) (some (.int (-2))) (rho ++ encM 0 mA mB mR pg mq bk kp sn ml mw pn wl sp rs vl) := by
  refine zC.intro (by decide) (Nat.le_of_ble_eq_true rfl) rfl ?_
  refine zx_aload_n (pc := 0) dX10_years_0 rfl rfl ?_
  refine zx_iconst (pc := 1) (v := 0) dX10_years_1 (by decide) ?_
  refine u75_0 (pc := 2) hr fl_X10_56 dX10_years_2 ?_
  refine zx_iload_n (pc := 5) dX10_years_5 rfl rfl ?_
  refine zx_i2l (pc := 6) dX10_years_6 rfl ?_
  refine zx_lconst (pc := 7) (v := 1) dX10_years_7 (by decide) ?_
  refine zx_ldc2 (pc := 8) kl_X10_237 dX10_years_8 ?_
  refine zx_fS1 (pc := 11) (r_in (d := d + 2) (lo := 1) (hi := 20) rfl rfl rfl) cl_X10_63 dX10_years_11 rfl rfl (by omega) (Nat.le_of_ble_eq_true rfl) (Nat.le_refl _) (Nat.le_refl _) ?_
  refine zx_if_ne (pc := 14) (tgt := 20) dX10_years_14 (by decide) (fun h14 => by first | exact absurd h14 hb | exact absurd hb h14) (fun h14 => ?_)
  refine zx_bipush (pc := 17) (v := -2) dX10_years_17 (by decide) ?_
  exact zx_fi (pc := 19) dX10_years_19 rfl rfl (Nat.le_refl _) (Nat.le_refl _) rfl rfl
set_option maxHeartbeats 4000000 in
theorem m_years {d : Nat} {H F M : Nat} {th : Int32} {mA : (Nat → Int32) × Int32 × Int32} {mo : Int32} {mg : (Nat → Int32)} {mk : (Nat → Int32)} {md : (Nat → Int32)} {mR : Int32 × Int32 × (Nat → Int32) × Int32 × (Nat → Int32)} {pg : (Nat → Int32)} {mq : (Nat → Int32)} {bk : (Nat → Int32) × Int32} {kp : (Nat → Int32) × (Nat → Int32)} {sn : Int32 × (Nat → Int32) × (Nat → Int32) × (Nat → Int32)} {ml : Int64} {mw : Int32 × Int32} {pn : Int32 × Int32 × Int32 × Int32} {wl : Int32 × Int32} {sp : Int32 × Int32} {rs : Int32 × Int32} {vl : (Nat → Int32)} {rho : List zCel} (hr : rho.length = 75) (hH : H ≤ 5) (hF : F ≤ 3) (hv : ∀ h, h < H → ∃ t : Nat, t < 2 + F ∧ pg h = nI t) (hM : M ≤ 20) (hb : ¬ zIn (nI M) 1 20 = 0) : zCf yX10_years cX10_years 5 (some .int) (d + 3) [.ref 75, .int (nI M)] (rho ++ encM th mA (mo, (nI H), mg, mk, (nI F), md) mR pg mq bk kp sn ml mw pn wl sp rs vl) (some (.int ((zYm mg mk md F H mo ml (zC16 pg mq 16) mw M).2.2.2))) (rho ++ encM 0 mA (mo, (nI H), mg, mk, (nI F), md) mR pg (zYm mg mk md F H mo ml (zC16 pg mq 16) mw M).2.1 bk kp sn (zYm mg mk md F H mo ml (zC16 pg mq 16) mw M).1 (zYm mg mk md F H mo ml (zC16 pg mq 16) mw M).2.2.1 pn wl sp rs vl) := by
  refine zC.intro (by decide) (Nat.le_of_ble_eq_true rfl) rfl ?_
  refine zx_aload_n (pc := 0) dX10_years_0 rfl rfl ?_
  refine zx_iconst (pc := 1) (v := 0) dX10_years_1 (by decide) ?_
  refine u75_0 (pc := 2) hr fl_X10_56 dX10_years_2 ?_
  refine zx_iload_n (pc := 5) dX10_years_5 rfl rfl ?_
  refine zx_i2l (pc := 6) dX10_years_6 rfl ?_
  refine zx_lconst (pc := 7) (v := 1) dX10_years_7 (by decide) ?_
  refine zx_ldc2 (pc := 8) kl_X10_237 dX10_years_8 ?_
  refine zx_fS1 (pc := 11) (r_in (d := d + 2) (lo := 1) (hi := 20) rfl rfl rfl) cl_X10_63 dX10_years_11 rfl rfl (by omega) (Nat.le_of_ble_eq_true rfl) (Nat.le_refl _) (Nat.le_refl _) ?_
  refine zx_if_ne (pc := 14) (tgt := 20) dX10_years_14 (by decide) (fun h14 => ?_) (fun h14 => by first | exact absurd h14 hb | exact absurd hb h14)
  refine zx_aload_n (pc := 20) dX10_years_20 rfl rfl ?_
  refine zx_fV0 (pc := 21) (r_begin (d := d + 2) hr) cl_X10_155 (p75 hr) rfl dX10_years_21 rfl rfl (by omega) (Nat.le_of_ble_eq_true rfl) (Nat.le_refl _) (Nat.le_refl _) ?_
  refine zx_iconst (pc := 24) (v := 0) dX10_years_24 (by decide) ?_
  refine st_2_5 (pc := 25) dX10_years_25 rfl ?_
  refine zx_iconst (pc := 26) (v := 0) dX10_years_26 (by decide) ?_
  refine st_3_5 (pc := 27) dX10_years_27 rfl ?_
  exact lm_years hr hH hF hM M 0 (by omega) (zC16v hH hv) _
set_option maxHeartbeats 4000000 in
theorem lm_keep {d n0 n : Nat} {mA : (Nat → Int32) × Int32 × Int32} {mB : Int32 × Int32 × (Nat → Int32) × (Nat → Int32) × Int32 × (Nat → Int32)} {mR : Int32 × Int32 × (Nat → Int32) × Int32 × (Nat → Int32)} {pg : (Nat → Int32)} {mq : (Nat → Int32)} {bk : (Nat → Int32) × Int32} {kk : (Nat → Int32)} {ki : (Nat → Int32)} {sn : Int32 × (Nat → Int32) × (Nat → Int32) × (Nat → Int32)} {ml : Int64} {mw : Int32 × Int32} {pn : Int32 × Int32 × Int32 × Int32} {wl : Int32 × Int32} {sp : Int32 × Int32} {rs : Int32 × Int32} {vl : (Nat → Int32)} {rho : List zCel} (hr : rho.length = 75) (hn : n < 2) : ∀ k i : Nat, i + k = 16 → zX RX10 cX10_keep 3 (some .int) "keep" none (d + 1) n0 0 0 0 0 (fun r s => r = some (.int (pg 15)) ∧ s = rho ++ encM 0 mA mB mR pg mq bk ((zPut kk pg (16 * n) 16), (upd ki n 1)) sn ml mw pn wl sp rs vl) 26 [some (.ref 75), some (.int (nI n)), some (.int (nI i))] [] (rho ++ encM 0 mA mB mR pg mq bk ((zPut kk pg (16 * n) i), (upd ki n 1)) sn ml mw pn wl sp rs vl) := by
  intro k
  induction k with
  | zero =>
    intro i hi
    obtain rfl : i = 16 := by omega
    refine zx_iload_n (pc := 26) dX10_keep_26 rfl rfl ?_
    refine zx_bipush (pc := 27) (v := 16) dX10_keep_27 (by decide) ?_
    refine zx_icmp_ge (pc := 29) (tgt := 55) dX10_keep_29 (by decide) (fun h29 => ?_) (fun h29 => by first | exact absurd h29 (show (16 : Int32) ≤ nI 16 by decide) | exact absurd (show (16 : Int32) ≤ nI 16 by decide) h29)
    refine zx_aload_n (pc := 55) dX10_keep_55 rfl rfl ?_
    refine g75_15 (pc := 56) hr fl_X10_28 dX10_keep_56 ?_
    refine zx_bipush (pc := 59) (v := 15) dX10_keep_59 (by decide) ?_
    refine a82 (pc := 61) hr (zix_k (j := 15) (by decide) (by decide)) dX10_keep_61 ?_
    exact zx_fi (pc := 62) dX10_keep_62 rfl rfl (Nat.le_refl _) (Nat.le_refl _) rfl rfl
  | succ k ih =>
    intro i hi
    refine zx_iload_n (pc := 26) dX10_keep_26 rfl rfl ?_
    refine zx_bipush (pc := 27) (v := 16) dX10_keep_27 (by decide) ?_
    refine zx_icmp_ge (pc := 29) (tgt := 55) dX10_keep_29 (by decide) (fun h29 => by first | exact absurd h29 (show ¬ (16 : Int32) ≤ nI i from nI_ge (a := i) (b := 16) (by omega) (by decide)) | exact absurd (show ¬ (16 : Int32) ≤ nI i from nI_ge (a := i) (b := 16) (by omega) (by decide)) h29) (fun h29 => ?_)
    refine zx_aload_n (pc := 32) dX10_keep_32 rfl rfl ?_
    refine g75_19 (pc := 33) hr fl_X10_37 dX10_keep_33 ?_
    refine zx_bipush (pc := 36) (v := 16) dX10_keep_36 (by decide) ?_
    refine zx_iload_n (pc := 38) dX10_keep_38 rfl rfl ?_
    refine zx_imul (pc := 39) dX10_keep_39 ?_
    refine zx_iload_n (pc := 40) dX10_keep_40 rfl rfl ?_
    refine zx_iadd (pc := 41) dX10_keep_41 ?_
    refine zx_aload_n (pc := 42) dX10_keep_42 rfl rfl ?_
    refine g75_15 (pc := 43) hr fl_X10_28 dX10_keep_43 ?_
    refine zx_iload_n (pc := 46) dX10_keep_46 rfl rfl ?_
    refine a82 (pc := 47) hr (zix_n (by omega)) dX10_keep_47 ?_
    refine s85 (pc := 48) hr (zix_m (a := n) (zm16 n) (by omega)) dX10_keep_48 ?_
    refine ic_2_3_1 (pc := 49) dX10_keep_49 rfl ?_
    refine zx_goto (pc := 52) (tgt := 26) dX10_keep_52 (by decide) ?_
    rw [nI_1, zPut_s]
    exact ih (i + 1) (by omega)
set_option maxHeartbeats 4000000 in
theorem m_keep_un {d : Nat} {x : Int32} {th : Int32} {mA : (Nat → Int32) × Int32 × Int32} {mB : Int32 × Int32 × (Nat → Int32) × (Nat → Int32) × Int32 × (Nat → Int32)} {mR : Int32 × Int32 × (Nat → Int32) × Int32 × (Nat → Int32)} {pg : (Nat → Int32)} {mq : (Nat → Int32)} {bk : (Nat → Int32) × Int32} {kp : (Nat → Int32) × (Nat → Int32)} {sn : Int32 × (Nat → Int32) × (Nat → Int32) × (Nat → Int32)} {ml : Int64} {mw : Int32 × Int32} {pn : Int32 × Int32 × Int32 × Int32} {wl : Int32 × Int32} {sp : Int32 × Int32} {rs : Int32 × Int32} {vl : (Nat → Int32)} {rho : List zCel} (hr : rho.length = 75) (hb : zIn x 0 1 = 0) : zCf yX10_keep cX10_keep 3 (some .int) (d + 1) [.ref 75, .int x] (rho ++ encM th mA mB mR pg mq bk kp sn ml mw pn wl sp rs vl) (some (.int (-1))) (rho ++ encM 0 mA mB mR pg mq bk kp sn ml mw pn wl sp rs vl) := by
  refine zC.intro (by decide) (Nat.le_of_ble_eq_true rfl) rfl ?_
  refine zx_aload_n (pc := 0) dX10_keep_0 rfl rfl ?_
  refine zx_iconst (pc := 1) (v := 0) dX10_keep_1 (by decide) ?_
  refine u75_0 (pc := 2) hr fl_X10_56 dX10_keep_2 ?_
  refine zx_iload_n (pc := 5) dX10_keep_5 rfl rfl ?_
  refine zx_i2l (pc := 6) dX10_keep_6 rfl ?_
  refine zx_lconst (pc := 7) (v := 0) dX10_keep_7 (by decide) ?_
  refine zx_lconst (pc := 8) (v := 1) dX10_keep_8 (by decide) ?_
  refine zx_fS1 (pc := 9) (r_in (d := d) (lo := 0) (hi := 1) rfl rfl rfl) cl_X10_63 dX10_keep_9 rfl rfl (by omega) (Nat.le_of_ble_eq_true rfl) (Nat.le_refl _) (Nat.le_refl _) ?_
  refine zx_if_ne (pc := 12) (tgt := 17) dX10_keep_12 (by decide) (fun h12 => by first | exact absurd h12 hb | exact absurd hb h12) (fun h12 => ?_)
  refine zx_iconst (pc := 15) (v := -1) dX10_keep_15 (by decide) ?_
  exact zx_fi (pc := 16) dX10_keep_16 rfl rfl (Nat.le_refl _) (Nat.le_refl _) rfl rfl
theorem zIn2 {n : Nat} (hn : n < 2) : ¬ zIn (nI n) 0 1 = 0 := by rcases (show n = 0 ∨ n = 1 by omega) with rfl | rfl <;> decide
set_option maxHeartbeats 4000000 in
theorem m_keep {d : Nat} {n : Nat} {th : Int32} {mA : (Nat → Int32) × Int32 × Int32} {mB : Int32 × Int32 × (Nat → Int32) × (Nat → Int32) × Int32 × (Nat → Int32)} {mR : Int32 × Int32 × (Nat → Int32) × Int32 × (Nat → Int32)} {pg : (Nat → Int32)} {mq : (Nat → Int32)} {bk : (Nat → Int32) × Int32} {kk : (Nat → Int32)} {ki : (Nat → Int32)} {sn : Int32 × (Nat → Int32) × (Nat → Int32) × (Nat → Int32)} {ml : Int64} {mw : Int32 × Int32} {pn : Int32 × Int32 × Int32 × Int32} {wl : Int32 × Int32} {sp : Int32 × Int32} {rs : Int32 × Int32} {vl : (Nat → Int32)} {rho : List zCel} (hr : rho.length = 75) (hn : n < 2) : zCf yX10_keep cX10_keep 3 (some .int) (d + 1) [.ref 75, .int (nI n)] (rho ++ encM th mA mB mR pg mq bk (kk, ki) sn ml mw pn wl sp rs vl) (some (.int (pg 15))) (rho ++ encM 0 mA mB mR pg mq bk ((zPut kk pg (16 * n) 16), (upd ki n 1)) sn ml mw pn wl sp rs vl) := by
  refine zC.intro (by decide) (Nat.le_of_ble_eq_true rfl) rfl ?_
  refine zx_aload_n (pc := 0) dX10_keep_0 rfl rfl ?_
  refine zx_iconst (pc := 1) (v := 0) dX10_keep_1 (by decide) ?_
  refine u75_0 (pc := 2) hr fl_X10_56 dX10_keep_2 ?_
  refine zx_iload_n (pc := 5) dX10_keep_5 rfl rfl ?_
  refine zx_i2l (pc := 6) dX10_keep_6 rfl ?_
  refine zx_lconst (pc := 7) (v := 0) dX10_keep_7 (by decide) ?_
  refine zx_lconst (pc := 8) (v := 1) dX10_keep_8 (by decide) ?_
  refine zx_fS1 (pc := 9) (r_in (d := d) (lo := 0) (hi := 1) rfl rfl rfl) cl_X10_63 dX10_keep_9 rfl rfl (by omega) (Nat.le_of_ble_eq_true rfl) (Nat.le_refl _) (Nat.le_refl _) ?_
  refine zx_if_ne (pc := 12) (tgt := 17) dX10_keep_12 (by decide) (fun h12 => ?_) (fun h12 => by first | exact absurd h12 (zIn2 hn) | exact absurd (zIn2 hn) h12)
  refine zx_aload_n (pc := 17) dX10_keep_17 rfl rfl ?_
  refine g75_20 (pc := 18) hr fl_X10_40 dX10_keep_18 ?_
  refine zx_iload_n (pc := 21) dX10_keep_21 rfl rfl ?_
  refine zx_iconst (pc := 22) (v := 1) dX10_keep_22 (by decide) ?_
  refine s86 (pc := 23) (y := 1) hr (zix_n hn) (by decide) dX10_keep_23 ?_
  refine zx_iconst (pc := 24) (v := 0) dX10_keep_24 (by decide) ?_
  refine st_2_3 (pc := 25) dX10_keep_25 rfl ?_
  exact zx_sg (sg' := rho ++ encM 0 mA mB mR pg mq bk ((zPut kk pg (16 * n) 0), (upd ki n 1)) sn ml mw pn wl sp rs vl) (by rw [zPut_0]) (lm_keep hr hn 16 0 (by omega))
set_option maxHeartbeats 4000000 in
theorem m_again_un {d : Nat} {x : Int32} {th : Int32} {mA : (Nat → Int32) × Int32 × Int32} {mB : Int32 × Int32 × (Nat → Int32) × (Nat → Int32) × Int32 × (Nat → Int32)} {mR : Int32 × Int32 × (Nat → Int32) × Int32 × (Nat → Int32)} {pg : (Nat → Int32)} {mq : (Nat → Int32)} {bk : (Nat → Int32) × Int32} {kp : (Nat → Int32) × (Nat → Int32)} {sn : Int32 × (Nat → Int32) × (Nat → Int32) × (Nat → Int32)} {ml : Int64} {mw : Int32 × Int32} {pn : Int32 × Int32 × Int32 × Int32} {wl : Int32 × Int32} {sp : Int32 × Int32} {rs : Int32 × Int32} {vl : (Nat → Int32)} {rho : List zCel} (hr : rho.length = 75) (hb : zIn x 0 1 = 0) : zCf yX10_again cX10_again 3 (some .int) (d + 1) [.ref 75, .int x] (rho ++ encM th mA mB mR pg mq bk kp sn ml mw pn wl sp rs vl) (some (.int (-1))) (rho ++ encM 0 mA mB mR pg mq bk kp sn ml mw pn wl sp rs vl) := by
  refine zC.intro (by decide) (Nat.le_of_ble_eq_true rfl) rfl ?_
  refine zx_aload_n (pc := 0) dX10_again_0 rfl rfl ?_
  refine zx_iconst (pc := 1) (v := 0) dX10_again_1 (by decide) ?_
  refine u75_0 (pc := 2) hr fl_X10_56 dX10_again_2 ?_
  refine zx_iload_n (pc := 5) dX10_again_5 rfl rfl ?_
  refine zx_i2l (pc := 6) dX10_again_6 rfl ?_
  refine zx_lconst (pc := 7) (v := 0) dX10_again_7 (by decide) ?_
  refine zx_lconst (pc := 8) (v := 1) dX10_again_8 (by decide) ?_
  refine zx_fS1 (pc := 9) (r_in (d := d) (lo := 0) (hi := 1) rfl rfl rfl) cl_X10_63 dX10_again_9 rfl rfl (by omega) (Nat.le_of_ble_eq_true rfl) (Nat.le_refl _) (Nat.le_refl _) ?_
  refine zx_if_ne (pc := 12) (tgt := 17) dX10_again_12 (by decide) (fun h12 => by first | exact absurd h12 hb | exact absurd hb h12) (fun h12 => ?_)
  refine zx_iconst (pc := 15) (v := -1) dX10_again_15 (by decide) ?_
  exact zx_fi (pc := 16) dX10_again_16 rfl rfl (Nat.le_refl _) (Nat.le_refl _) rfl rfl
set_option maxHeartbeats 4000000 in
theorem m_again_late {d : Nat} {n : Nat} {th : Int32} {mA : (Nat → Int32) × Int32 × Int32} {mB : Int32 × Int32 × (Nat → Int32) × (Nat → Int32) × Int32 × (Nat → Int32)} {mR : Int32 × Int32 × (Nat → Int32) × Int32 × (Nat → Int32)} {pg : (Nat → Int32)} {mq : (Nat → Int32)} {bk : (Nat → Int32) × Int32} {kk : (Nat → Int32)} {ki : (Nat → Int32)} {sn : Int32 × (Nat → Int32) × (Nat → Int32) × (Nat → Int32)} {ml : Int64} {mw : Int32 × Int32} {pn : Int32 × Int32 × Int32 × Int32} {wl : Int32 × Int32} {sp : Int32 × Int32} {rs : Int32 × Int32} {vl : (Nat → Int32)} {rho : List zCel} (hr : rho.length = 75) (hn : n < 2) (hl : ki n = 0) : zCf yX10_again cX10_again 3 (some .int) (d + 1) [.ref 75, .int (nI n)] (rho ++ encM th mA mB mR pg mq bk (kk, ki) sn ml mw pn wl sp rs vl) (some (.int (-3))) (rho ++ encM 0 mA mB mR pg mq bk (kk, ki) sn ml mw pn wl sp rs vl) := by
  refine zC.intro (by decide) (Nat.le_of_ble_eq_true rfl) rfl ?_
  refine zx_aload_n (pc := 0) dX10_again_0 rfl rfl ?_
  refine zx_iconst (pc := 1) (v := 0) dX10_again_1 (by decide) ?_
  refine u75_0 (pc := 2) hr fl_X10_56 dX10_again_2 ?_
  refine zx_iload_n (pc := 5) dX10_again_5 rfl rfl ?_
  refine zx_i2l (pc := 6) dX10_again_6 rfl ?_
  refine zx_lconst (pc := 7) (v := 0) dX10_again_7 (by decide) ?_
  refine zx_lconst (pc := 8) (v := 1) dX10_again_8 (by decide) ?_
  refine zx_fS1 (pc := 9) (r_in (d := d) (lo := 0) (hi := 1) rfl rfl rfl) cl_X10_63 dX10_again_9 rfl rfl (by omega) (Nat.le_of_ble_eq_true rfl) (Nat.le_refl _) (Nat.le_refl _) ?_
  refine zx_if_ne (pc := 12) (tgt := 17) dX10_again_12 (by decide) (fun h12 => ?_) (fun h12 => by first | exact absurd h12 (zIn2 hn) | exact absurd (zIn2 hn) h12)
  refine zx_aload_n (pc := 17) dX10_again_17 rfl rfl ?_
  refine g75_20 (pc := 18) hr fl_X10_40 dX10_again_18 ?_
  refine zx_iload_n (pc := 21) dX10_again_21 rfl rfl ?_
  refine a86 (pc := 22) hr (zix_n hn) dX10_again_22 ?_
  refine zx_if_ne (pc := 23) (tgt := 29) dX10_again_23 (by decide) (fun h23 => by first | exact absurd h23 hl | exact absurd hl h23) (fun h23 => ?_)
  refine zx_bipush (pc := 26) (v := -3) dX10_again_26 (by decide) ?_
  exact zx_fi (pc := 28) dX10_again_28 rfl rfl (Nat.le_refl _) (Nat.le_refl _) rfl rfl
set_option maxHeartbeats 4000000 in
theorem lm_again {d n0 n : Nat} {mA : (Nat → Int32) × Int32 × Int32} {mB : Int32 × Int32 × (Nat → Int32) × (Nat → Int32) × Int32 × (Nat → Int32)} {mR : Int32 × Int32 × (Nat → Int32) × Int32 × (Nat → Int32)} {pg : (Nat → Int32)} {mq : (Nat → Int32)} {bb : (Nat → Int32)} {ba : Int32} {kk : (Nat → Int32)} {ki : (Nat → Int32)} {sn : Int32 × (Nat → Int32) × (Nat → Int32) × (Nat → Int32)} {ml : Int64} {mw : Int32 × Int32} {pn : Int32 × Int32 × Int32 × Int32} {wl : Int32 × Int32} {sp : Int32 × Int32} {rs : Int32 × Int32} {vl : (Nat → Int32)} {rho : List zCel} (hr : rho.length = 75) (hn : n < 2) : ∀ k i : Nat, i + k = 16 → zX RX10 cX10_again 3 (some .int) "again" none (d + 1) n0 0 0 0 0 (fun r s => r = some (.int (kk (16 * n + 15))) ∧ s = rho ++ encM 0 mA mB mR (zC16 (fun j => kk (16 * n + j)) pg 16) mq (bb, 0) (kk, ki) sn ml mw pn wl sp rs vl) 31 [some (.ref 75), some (.int (nI n)), some (.int (nI i))] [] (rho ++ encM 0 mA mB mR (zC16 (fun j => kk (16 * n + j)) pg i) mq (bb, ba) (kk, ki) sn ml mw pn wl sp rs vl) := by
  intro k
  induction k with
  | zero =>
    intro i hi
    obtain rfl : i = 16 := by omega
    refine zx_iload_n (pc := 31) dX10_again_31 rfl rfl ?_
    refine zx_bipush (pc := 32) (v := 16) dX10_again_32 (by decide) ?_
    refine zx_icmp_ge (pc := 34) (tgt := 60) dX10_again_34 (by decide) (fun h34 => ?_) (fun h34 => by first | exact absurd h34 (show (16 : Int32) ≤ nI 16 by decide) | exact absurd (show (16 : Int32) ≤ nI 16 by decide) h34)
    refine zx_aload_n (pc := 60) dX10_again_60 rfl rfl ?_
    refine zx_iconst (pc := 61) (v := 0) dX10_again_61 (by decide) ?_
    refine u75_18 (pc := 62) hr fl_X10_106 dX10_again_62 ?_
    refine zx_aload_n (pc := 65) dX10_again_65 rfl rfl ?_
    refine g75_15 (pc := 66) hr fl_X10_28 dX10_again_66 ?_
    refine zx_bipush (pc := 69) (v := 15) dX10_again_69 (by decide) ?_
    refine a82 (pc := 71) hr (zix_k (j := 15) (by decide) (by decide)) dX10_again_71 ?_
    exact zx_fi (pc := 72) dX10_again_72 rfl rfl (Nat.le_refl _) (Nat.le_refl _) rfl rfl
  | succ k ih =>
    intro i hi
    refine zx_iload_n (pc := 31) dX10_again_31 rfl rfl ?_
    refine zx_bipush (pc := 32) (v := 16) dX10_again_32 (by decide) ?_
    refine zx_icmp_ge (pc := 34) (tgt := 60) dX10_again_34 (by decide) (fun h34 => by first | exact absurd h34 (show ¬ (16 : Int32) ≤ nI i from nI_ge (a := i) (b := 16) (by omega) (by decide)) | exact absurd (show ¬ (16 : Int32) ≤ nI i from nI_ge (a := i) (b := 16) (by omega) (by decide)) h34) (fun h34 => ?_)
    refine zx_aload_n (pc := 37) dX10_again_37 rfl rfl ?_
    refine g75_15 (pc := 38) hr fl_X10_28 dX10_again_38 ?_
    refine zx_iload_n (pc := 41) dX10_again_41 rfl rfl ?_
    refine zx_aload_n (pc := 42) dX10_again_42 rfl rfl ?_
    refine g75_19 (pc := 43) hr fl_X10_37 dX10_again_43 ?_
    refine zx_bipush (pc := 46) (v := 16) dX10_again_46 (by decide) ?_
    refine zx_iload_n (pc := 48) dX10_again_48 rfl rfl ?_
    refine zx_imul (pc := 49) dX10_again_49 ?_
    refine zx_iload_n (pc := 50) dX10_again_50 rfl rfl ?_
    refine zx_iadd (pc := 51) dX10_again_51 ?_
    refine a85 (pc := 52) hr (zix_m (a := n) (zm16 n) (by omega)) dX10_again_52 ?_
    refine s82 (pc := 53) hr (zix_n (by omega)) dX10_again_53 ?_
    refine ic_2_3_1 (pc := 54) dX10_again_54 rfl ?_
    refine zx_goto (pc := 57) (tgt := 31) dX10_again_57 (by decide) ?_
    rw [nI_1]
    exact zx_sg (sg' := rho ++ encM 0 mA mB mR (zC16 (fun j => kk (16 * n + j)) pg (i + 1)) mq (bb, ba) (kk, ki) sn ml mw pn wl sp rs vl) (by rw [← zC16_s (f := fun j => kk (16 * n + j))]) (ih (i + 1) (by omega))
set_option maxHeartbeats 4000000 in
theorem m_again_ok {d : Nat} {n : Nat} {th : Int32} {mA : (Nat → Int32) × Int32 × Int32} {mB : Int32 × Int32 × (Nat → Int32) × (Nat → Int32) × Int32 × (Nat → Int32)} {mR : Int32 × Int32 × (Nat → Int32) × Int32 × (Nat → Int32)} {pg : (Nat → Int32)} {mq : (Nat → Int32)} {bb : (Nat → Int32)} {ba : Int32} {kk : (Nat → Int32)} {ki : (Nat → Int32)} {sn : Int32 × (Nat → Int32) × (Nat → Int32) × (Nat → Int32)} {ml : Int64} {mw : Int32 × Int32} {pn : Int32 × Int32 × Int32 × Int32} {wl : Int32 × Int32} {sp : Int32 × Int32} {rs : Int32 × Int32} {vl : (Nat → Int32)} {rho : List zCel} (hr : rho.length = 75) (hn : n < 2) (hl : ¬ ki n = 0) : zCf yX10_again cX10_again 3 (some .int) (d + 1) [.ref 75, .int (nI n)] (rho ++ encM th mA mB mR pg mq (bb, ba) (kk, ki) sn ml mw pn wl sp rs vl) (some (.int (kk (16 * n + 15)))) (rho ++ encM 0 mA mB mR (zC16 (fun j => kk (16 * n + j)) pg 16) mq (bb, 0) (kk, ki) sn ml mw pn wl sp rs vl) := by
  refine zC.intro (by decide) (Nat.le_of_ble_eq_true rfl) rfl ?_
  refine zx_aload_n (pc := 0) dX10_again_0 rfl rfl ?_
  refine zx_iconst (pc := 1) (v := 0) dX10_again_1 (by decide) ?_
  refine u75_0 (pc := 2) hr fl_X10_56 dX10_again_2 ?_
  refine zx_iload_n (pc := 5) dX10_again_5 rfl rfl ?_
  refine zx_i2l (pc := 6) dX10_again_6 rfl ?_
  refine zx_lconst (pc := 7) (v := 0) dX10_again_7 (by decide) ?_
  refine zx_lconst (pc := 8) (v := 1) dX10_again_8 (by decide) ?_
  refine zx_fS1 (pc := 9) (r_in (d := d) (lo := 0) (hi := 1) rfl rfl rfl) cl_X10_63 dX10_again_9 rfl rfl (by omega) (Nat.le_of_ble_eq_true rfl) (Nat.le_refl _) (Nat.le_refl _) ?_
  refine zx_if_ne (pc := 12) (tgt := 17) dX10_again_12 (by decide) (fun h12 => ?_) (fun h12 => by first | exact absurd h12 (zIn2 hn) | exact absurd (zIn2 hn) h12)
  refine zx_aload_n (pc := 17) dX10_again_17 rfl rfl ?_
  refine g75_20 (pc := 18) hr fl_X10_40 dX10_again_18 ?_
  refine zx_iload_n (pc := 21) dX10_again_21 rfl rfl ?_
  refine a86 (pc := 22) hr (zix_n hn) dX10_again_22 ?_
  refine zx_if_ne (pc := 23) (tgt := 29) dX10_again_23 (by decide) (fun h23 => ?_) (fun h23 => by first | exact absurd h23 hl | exact absurd hl h23)
  refine zx_iconst (pc := 29) (v := 0) dX10_again_29 (by decide) ?_
  refine st_2_3 (pc := 30) dX10_again_30 rfl ?_
  exact zx_sg (sg' := rho ++ encM 0 mA mB mR (zC16 (fun j => kk (16 * n + j)) pg 0) mq (bb, ba) (kk, ki) sn ml mw pn wl sp rs vl) (by rw [zC16_0]) (lm_again hr hn 16 0 (by omega))
