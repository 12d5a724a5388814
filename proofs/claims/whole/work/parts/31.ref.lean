set_option maxHeartbeats 8000000 in
theorem lr_readPit {d n0 T : Nat} {th : Int32} {mt : (Nat → Int32)} {mB : Int32 × Int32 × (Nat → Int32) × (Nat → Int32) × Int32 × (Nat → Int32)} {rg : (Nat → Int32)} {rd : (Nat → Int32)} {pg : (Nat → Int32)} {mq : (Nat → Int32)} {bk : (Nat → Int32) × Int32} {kp : (Nat → Int32) × (Nat → Int32)} {sn : Int32 × (Nat → Int32) × (Nat → Int32) × (Nat → Int32)} {ml : Int64} {mw : Int32 × Int32} {pn : Int32 × Int32 × Int32 × Int32} {wl : Int32 × Int32} {sp : Int32 × Int32} {rs : Int32 × Int32} {vl : (Nat → Int32)} {rho : List zCel} (hr : rho.length = 75) (hT : T ≤ 40) : ∀ k q : Nat, T ≤ 2 + 3 * q + 3 * k → 2 + 3 * q ≤ T → zCn mt 72 q ≤ 5 → zCn mt 70 q ≤ 3 → zFF mt T T = zFF mt T (T - (2 + 3 * q)) → zX RX10 cX10_readPit 1 (some .int) "readPit" none (d + 4) n0 0 0 0 0 (fun r s => ∃ (mp' rc' rh' rf' : Int32) (rg' rd' : Nat → Int32), r = some (.int (zFF mt T T)) ∧ s = rho ++ encM th (mt, (nI T), mp') mB (rc', rh', rg', rf', rd') pg mq bk kp sn ml mw pn wl sp rs vl ∧ (zFF mt T T = -9 → ∃ Z : Nat, T = 2 + 3 * Z ∧ zCn mt 72 Z ≤ 5 ∧ zCn mt 70 Z ≤ 3 ∧ rc' = mt 1 - 48 ∧ rh' = nI (zCn mt 72 Z) ∧ rf' = nI (zCn mt 70 Z) ∧ rg' = zGh mt 72 rg Z ∧ rd' = zGh mt 70 rd Z)) 65 [some (.ref 75)] [] (rho ++ encM th (mt, (nI T), (nI (2 + 3 * q))) mB ((mt 1 - 48), (nI (zCn mt 72 q)), (zGh mt 72 rg q), (nI (zCn mt 70 q)), (zGh mt 70 rd q)) pg mq bk kp sn ml mw pn wl sp rs vl) := by
  have n72 : ¬ (72 : Int32) = 70 := by decide
  have n70 : ¬ (70 : Int32) = 72 := by decide
  intro k
  induction k with
  | zero =>
    intro q h1 h2 h5 h3 hf
    obtain rfl : T = 2 + 3 * q := by omega
    refine zx_aload_n (pc := 65) dX10_readPit_65 rfl rfl ?_
    refine g75_3 (pc := 66) hr fl_X10_72 dX10_readPit_66 ?_
    refine zx_aload_n (pc := 69) dX10_readPit_69 rfl rfl ?_
    refine g75_2 (pc := 70) hr fl_X10_69 dX10_readPit_70 ?_
    refine zx_icmp_ge (pc := 73) (tgt := 88) dX10_readPit_73 (by decide) (fun h73 => ?_) (fun h73 => by first | exact absurd h73 (Int32.le_refl (nI (2 + 3 * q))) | exact absurd (Int32.le_refl (nI (2 + 3 * q))) h73)
    refine zx_bipush (pc := 88) (v := -9) dX10_readPit_88 (by decide) ?_
    exact zx_iret (pc := 90) dX10_readPit_90 rfl rfl (Nat.le_refl _) (Nat.le_refl _) ⟨_, _, _, _, _, _, by rw [hf, zFF_0, zWh_9], rfl, fun _ => ⟨q, rfl, h5, h3, rfl, rfl, rfl, rfl, rfl⟩⟩
  | succ k ih =>
    intro q h1 h2 h5 h3 hf
    by_cases hq : 2 + 3 * q = T
    · subst hq
      refine zx_aload_n (pc := 65) dX10_readPit_65 rfl rfl ?_
      refine g75_3 (pc := 66) hr fl_X10_72 dX10_readPit_66 ?_
      refine zx_aload_n (pc := 69) dX10_readPit_69 rfl rfl ?_
      refine g75_2 (pc := 70) hr fl_X10_69 dX10_readPit_70 ?_
      refine zx_icmp_ge (pc := 73) (tgt := 88) dX10_readPit_73 (by decide) (fun h73 => ?_) (fun h73 => by first | exact absurd h73 (Int32.le_refl (nI (2 + 3 * q))) | exact absurd (Int32.le_refl (nI (2 + 3 * q))) h73)
      refine zx_bipush (pc := 88) (v := -9) dX10_readPit_88 (by decide) ?_
      exact zx_iret (pc := 90) dX10_readPit_90 rfl rfl (Nat.le_refl _) (Nat.le_refl _) ⟨_, _, _, _, _, _, by rw [hf, zFF_0, zWh_9], rfl, fun _ => ⟨q, rfl, h5, h3, rfl, rfl, rfl, rfl, rfl⟩⟩
    · have hq2 : 2 + 3 * q < T := by omega
      by_cases hl : mt (2 + 3 * q) = 72 ∧ zCn mt 72 q < 5
      · obtain ⟨hl, hc⟩ := hl
        have hb := zBp_H hl hc
        have t1 : zFt mt (2 + 3 * q + 1) = zIn (mt (2 + 3 * q + 1) - 48) 1 4 := by rw [zFt_c2]; rw [if_pos hl]
        have t2 : zFt mt (2 + 3 * q + 1 + 1) = zIn (mt (2 + 3 * q + 1 + 1) - 48) 0 3 := by rw [zFt_d2]; rw [if_pos hl]
        by_cases o1 : zOk mt T (2 + 3 * q + 1) 1 4 = 0
        · refine zx_aload_n (pc := 65) dX10_readPit_65 rfl rfl ?_
          refine g75_3 (pc := 66) hr fl_X10_72 dX10_readPit_66 ?_
          refine zx_aload_n (pc := 69) dX10_readPit_69 rfl rfl ?_
          refine g75_2 (pc := 70) hr fl_X10_69 dX10_readPit_70 ?_
          refine zx_icmp_ge (pc := 73) (tgt := 88) dX10_readPit_73 (by decide) (fun h73 => by first | exact absurd h73 (nI_ge hq2 (by omega)) | exact absurd (nI_ge hq2 (by omega)) h73) (fun h73 => ?_)
          refine zx_aload_n (pc := 76) dX10_readPit_76 rfl rfl ?_
          refine zx_fV1 (pc := 77) (r_part_readHand_a (d := d) hr hT hq2 hl hc o1) cl_X10_93 (p75 hr) rfl dX10_readPit_77 rfl rfl (by omega) (Nat.le_of_ble_eq_true rfl) (Nat.le_refl _) (Nat.le_refl _) ?_
          refine zx_if_ne (pc := 80) (tgt := 65) dX10_readPit_80 (by decide) (fun h80 => by first | exact absurd h80 (show (0 : Int32) = 0 from rfl) | exact absurd (show (0 : Int32) = 0 from rfl) h80) (fun h80 => ?_)
          refine zx_aload_n (pc := 83) dX10_readPit_83 rfl rfl ?_
          refine g75_3 (pc := 84) hr fl_X10_72 dX10_readPit_84 ?_
          exact zx_iret (pc := 87) dX10_readPit_87 rfl rfl (Nat.le_refl _) (Nat.le_refl _) ⟨_, _, _, _, _, _, by rw [hf, zff_a hq2 hb t1 o1], rfl, fun h9 => absurd (by rw [hf, zff_a hq2 hb t1 o1] at h9; exact h9) (nI_ne9 (by omega))⟩
        · by_cases o2 : zOk mt T (2 + 3 * q + 1 + 1) 0 3 = 0
          · refine zx_aload_n (pc := 65) dX10_readPit_65 rfl rfl ?_
            refine g75_3 (pc := 66) hr fl_X10_72 dX10_readPit_66 ?_
            refine zx_aload_n (pc := 69) dX10_readPit_69 rfl rfl ?_
            refine g75_2 (pc := 70) hr fl_X10_69 dX10_readPit_70 ?_
            refine zx_icmp_ge (pc := 73) (tgt := 88) dX10_readPit_73 (by decide) (fun h73 => by first | exact absurd h73 (nI_ge hq2 (by omega)) | exact absurd (nI_ge hq2 (by omega)) h73) (fun h73 => ?_)
            refine zx_aload_n (pc := 76) dX10_readPit_76 rfl rfl ?_
            refine zx_fV1 (pc := 77) (r_part_readHand_b (d := d) hr hT hq2 hl hc o1 o2) cl_X10_93 (p75 hr) rfl dX10_readPit_77 rfl rfl (by omega) (Nat.le_of_ble_eq_true rfl) (Nat.le_refl _) (Nat.le_refl _) ?_
            refine zx_if_ne (pc := 80) (tgt := 65) dX10_readPit_80 (by decide) (fun h80 => by first | exact absurd h80 (show (0 : Int32) = 0 from rfl) | exact absurd (show (0 : Int32) = 0 from rfl) h80) (fun h80 => ?_)
            refine zx_aload_n (pc := 83) dX10_readPit_83 rfl rfl ?_
            refine g75_3 (pc := 84) hr fl_X10_72 dX10_readPit_84 ?_
            exact zx_iret (pc := 87) dX10_readPit_87 rfl rfl (Nat.le_refl _) (Nat.le_refl _) ⟨_, _, _, _, _, _, by rw [hf, zff_b hq2 hb t1 o1 t2 o2], rfl, fun h9 => absurd (by rw [hf, zff_b hq2 hb t1 o1 t2 o2] at h9; exact h9) (nI_ne9 (by omega))⟩
          · refine zx_aload_n (pc := 65) dX10_readPit_65 rfl rfl ?_
            refine g75_3 (pc := 66) hr fl_X10_72 dX10_readPit_66 ?_
            refine zx_aload_n (pc := 69) dX10_readPit_69 rfl rfl ?_
            refine g75_2 (pc := 70) hr fl_X10_69 dX10_readPit_70 ?_
            refine zx_icmp_ge (pc := 73) (tgt := 88) dX10_readPit_73 (by decide) (fun h73 => by first | exact absurd h73 (nI_ge hq2 (by omega)) | exact absurd (nI_ge hq2 (by omega)) h73) (fun h73 => ?_)
            refine zx_aload_n (pc := 76) dX10_readPit_76 rfl rfl ?_
            refine zx_fV1 (pc := 77) (r_part_readHand_c (d := d) hr hT hq2 hl hc o1 o2) cl_X10_93 (p75 hr) rfl dX10_readPit_77 rfl rfl (by omega) (Nat.le_of_ble_eq_true rfl) (Nat.le_refl _) (Nat.le_refl _) ?_
            refine zx_if_ne (pc := 80) (tgt := 65) dX10_readPit_80 (by decide) (fun h80 => ?_) (fun h80 => by first | exact absurd h80 (show ¬ (1 : Int32) = 0 by decide) | exact absurd (show ¬ (1 : Int32) = 0 by decide) h80)
            obtain ⟨e1, e2⟩ := zff_c hq2 hb t1 o1 t2 o2
            refine zx_sg (sg' := rho ++ encM th (mt, (nI T), (nI (2 + 3 * (q + 1)))) mB ((mt 1 - 48), (nI (zCn mt 72 (q + 1))), (zGh mt 72 rg (q + 1)), (nI (zCn mt 70 (q + 1))), (zGh mt 70 rd (q + 1))) pg mq bk kp sn ml mw pn wl sp rs vl) ?_ (ih (q + 1) (by omega) e2 (by simp only [zCn, hl, n72, reduceIte]; omega) (by simp only [zCn, hl, n72, reduceIte]; omega) (by rw [hf, e1]))
            rw [show 2 + 3 * q + 1 + 2 = 2 + 3 * (q + 1) by omega, show 2 + 3 * q + 1 + 1 = 4 + 3 * q by omega, show 2 + 3 * q + 1 = 3 + 3 * q by omega]
            simp only [zGh, zCn, hl, n72, reduceIte]
      · have hl72 := hl
        by_cases hl : mt (2 + 3 * q) = 70 ∧ zCn mt 70 q < 3
        · obtain ⟨hl, hc⟩ := hl
          have hb := zBp_F hl hc
          have t1 : zFt mt (2 + 3 * q + 1) = zIn (mt (2 + 3 * q + 1) - 48) 0 3 := by rw [zFt_c2]; rw [if_neg (by rw [hl]; exact n70)]
          have t2 : zFt mt (2 + 3 * q + 1 + 1) = zIn (mt (2 + 3 * q + 1 + 1) - 48) 0 9 := by rw [zFt_d2]; rw [if_neg (by rw [hl]; exact n70)]
          by_cases o1 : zOk mt T (2 + 3 * q + 1) 0 3 = 0
          · refine zx_aload_n (pc := 65) dX10_readPit_65 rfl rfl ?_
            refine g75_3 (pc := 66) hr fl_X10_72 dX10_readPit_66 ?_
            refine zx_aload_n (pc := 69) dX10_readPit_69 rfl rfl ?_
            refine g75_2 (pc := 70) hr fl_X10_69 dX10_readPit_70 ?_
            refine zx_icmp_ge (pc := 73) (tgt := 88) dX10_readPit_73 (by decide) (fun h73 => by first | exact absurd h73 (nI_ge hq2 (by omega)) | exact absurd (nI_ge hq2 (by omega)) h73) (fun h73 => ?_)
            refine zx_aload_n (pc := 76) dX10_readPit_76 rfl rfl ?_
            refine zx_fV1 (pc := 77) (r_part_readField_a (d := d) hr hT hq2 hl hc o1) cl_X10_93 (p75 hr) rfl dX10_readPit_77 rfl rfl (by omega) (Nat.le_of_ble_eq_true rfl) (Nat.le_refl _) (Nat.le_refl _) ?_
            refine zx_if_ne (pc := 80) (tgt := 65) dX10_readPit_80 (by decide) (fun h80 => by first | exact absurd h80 (show (0 : Int32) = 0 from rfl) | exact absurd (show (0 : Int32) = 0 from rfl) h80) (fun h80 => ?_)
            refine zx_aload_n (pc := 83) dX10_readPit_83 rfl rfl ?_
            refine g75_3 (pc := 84) hr fl_X10_72 dX10_readPit_84 ?_
            exact zx_iret (pc := 87) dX10_readPit_87 rfl rfl (Nat.le_refl _) (Nat.le_refl _) ⟨_, _, _, _, _, _, by rw [hf, zff_a hq2 hb t1 o1], rfl, fun h9 => absurd (by rw [hf, zff_a hq2 hb t1 o1] at h9; exact h9) (nI_ne9 (by omega))⟩
          · by_cases o2 : zOk mt T (2 + 3 * q + 1 + 1) 0 9 = 0
            · refine zx_aload_n (pc := 65) dX10_readPit_65 rfl rfl ?_
              refine g75_3 (pc := 66) hr fl_X10_72 dX10_readPit_66 ?_
              refine zx_aload_n (pc := 69) dX10_readPit_69 rfl rfl ?_
              refine g75_2 (pc := 70) hr fl_X10_69 dX10_readPit_70 ?_
              refine zx_icmp_ge (pc := 73) (tgt := 88) dX10_readPit_73 (by decide) (fun h73 => by first | exact absurd h73 (nI_ge hq2 (by omega)) | exact absurd (nI_ge hq2 (by omega)) h73) (fun h73 => ?_)
              refine zx_aload_n (pc := 76) dX10_readPit_76 rfl rfl ?_
              refine zx_fV1 (pc := 77) (r_part_readField_b (d := d) hr hT hq2 hl hc o1 o2) cl_X10_93 (p75 hr) rfl dX10_readPit_77 rfl rfl (by omega) (Nat.le_of_ble_eq_true rfl) (Nat.le_refl _) (Nat.le_refl _) ?_
              refine zx_if_ne (pc := 80) (tgt := 65) dX10_readPit_80 (by decide) (fun h80 => by first | exact absurd h80 (show (0 : Int32) = 0 from rfl) | exact absurd (show (0 : Int32) = 0 from rfl) h80) (fun h80 => ?_)
              refine zx_aload_n (pc := 83) dX10_readPit_83 rfl rfl ?_
              refine g75_3 (pc := 84) hr fl_X10_72 dX10_readPit_84 ?_
              exact zx_iret (pc := 87) dX10_readPit_87 rfl rfl (Nat.le_refl _) (Nat.le_refl _) ⟨_, _, _, _, _, _, by rw [hf, zff_b hq2 hb t1 o1 t2 o2], rfl, fun h9 => absurd (by rw [hf, zff_b hq2 hb t1 o1 t2 o2] at h9; exact h9) (nI_ne9 (by omega))⟩
            · refine zx_aload_n (pc := 65) dX10_readPit_65 rfl rfl ?_
              refine g75_3 (pc := 66) hr fl_X10_72 dX10_readPit_66 ?_
              refine zx_aload_n (pc := 69) dX10_readPit_69 rfl rfl ?_
              refine g75_2 (pc := 70) hr fl_X10_69 dX10_readPit_70 ?_
              refine zx_icmp_ge (pc := 73) (tgt := 88) dX10_readPit_73 (by decide) (fun h73 => by first | exact absurd h73 (nI_ge hq2 (by omega)) | exact absurd (nI_ge hq2 (by omega)) h73) (fun h73 => ?_)
              refine zx_aload_n (pc := 76) dX10_readPit_76 rfl rfl ?_
              refine zx_fV1 (pc := 77) (r_part_readField_c (d := d) hr hT hq2 hl hc o1 o2) cl_X10_93 (p75 hr) rfl dX10_readPit_77 rfl rfl (by omega) (Nat.le_of_ble_eq_true rfl) (Nat.le_refl _) (Nat.le_refl _) ?_
              refine zx_if_ne (pc := 80) (tgt := 65) dX10_readPit_80 (by decide) (fun h80 => ?_) (fun h80 => by first | exact absurd h80 (show ¬ (1 : Int32) = 0 by decide) | exact absurd (show ¬ (1 : Int32) = 0 by decide) h80)
              obtain ⟨e1, e2⟩ := zff_c hq2 hb t1 o1 t2 o2
              refine zx_sg (sg' := rho ++ encM th (mt, (nI T), (nI (2 + 3 * (q + 1)))) mB ((mt 1 - 48), (nI (zCn mt 72 (q + 1))), (zGh mt 72 rg (q + 1)), (nI (zCn mt 70 (q + 1))), (zGh mt 70 rd (q + 1))) pg mq bk kp sn ml mw pn wl sp rs vl) ?_ (ih (q + 1) (by omega) e2 (by simp only [zCn, hl, n70, reduceIte]; omega) (by simp only [zCn, hl, n70, reduceIte]; omega) (by rw [hf, e1]))
              rw [show 2 + 3 * q + 1 + 2 = 2 + 3 * (q + 1) by omega, show 2 + 3 * q + 1 + 1 = 4 + 3 * q by omega, show 2 + 3 * q + 1 = 3 + 3 * q by omega]
              simp only [zGh, zCn, hl, n70, reduceIte]
        · have g1 : mt (2 + 3 * q) = 72 → (5 : Int32) ≤ nI (zCn mt 72 q) := fun e => by
            have : ¬ zCn mt 72 q < 5 := fun g => hl72 ⟨e, g⟩
            exact nI_le (a := 5) (by omega) (by omega)
          have g2 : mt (2 + 3 * q) = 70 → (3 : Int32) ≤ nI (zCn mt 70 q) := fun e => by
            have : ¬ zCn mt 70 q < 3 := fun g => hl ⟨e, g⟩
            exact nI_le (a := 3) (by omega) (by omega)
          refine zx_aload_n (pc := 65) dX10_readPit_65 rfl rfl ?_
          refine g75_3 (pc := 66) hr fl_X10_72 dX10_readPit_66 ?_
          refine zx_aload_n (pc := 69) dX10_readPit_69 rfl rfl ?_
          refine g75_2 (pc := 70) hr fl_X10_69 dX10_readPit_70 ?_
          refine zx_icmp_ge (pc := 73) (tgt := 88) dX10_readPit_73 (by decide) (fun h73 => by first | exact absurd h73 (nI_ge hq2 (by omega)) | exact absurd (nI_ge hq2 (by omega)) h73) (fun h73 => ?_)
          refine zx_aload_n (pc := 76) dX10_readPit_76 rfl rfl ?_
          refine zx_fV1 (pc := 77) (r_part_o (d := d) hr hT hq2 g1 g2) cl_X10_93 (p75 hr) rfl dX10_readPit_77 rfl rfl (by omega) (Nat.le_of_ble_eq_true rfl) (Nat.le_refl _) (Nat.le_refl _) ?_
          refine zx_if_ne (pc := 80) (tgt := 65) dX10_readPit_80 (by decide) (fun h80 => by first | exact absurd h80 (show (0 : Int32) = 0 from rfl) | exact absurd (show (0 : Int32) = 0 from rfl) h80) (fun h80 => ?_)
          refine zx_aload_n (pc := 83) dX10_readPit_83 rfl rfl ?_
          refine g75_3 (pc := 84) hr fl_X10_72 dX10_readPit_84 ?_
          exact zx_iret (pc := 87) dX10_readPit_87 rfl rfl (Nat.le_refl _) (Nat.le_refl _) ⟨_, _, _, _, _, _, by rw [hf, zff_o hq2 (zBp_o g1 g2)], rfl, fun h9 => absurd (by rw [hf, zff_o hq2 (zBp_o g1 g2)] at h9; exact h9) (nI_ne9 (by omega))⟩
set_option maxHeartbeats 8000000 in
theorem r_readPit {d T : Nat} {th : Int32} {mt : (Nat → Int32)} {mp : Int32} {mB : Int32 × Int32 × (Nat → Int32) × (Nat → Int32) × Int32 × (Nat → Int32)} {rc : Int32} {rh : Int32} {rg : (Nat → Int32)} {rf : Int32} {rd : (Nat → Int32)} {pg : (Nat → Int32)} {mq : (Nat → Int32)} {bk : (Nat → Int32) × Int32} {kp : (Nat → Int32) × (Nat → Int32)} {sn : Int32 × (Nat → Int32) × (Nat → Int32) × (Nat → Int32)} {ml : Int64} {mw : Int32 × Int32} {pn : Int32 × Int32 × Int32 × Int32} {wl : Int32 × Int32} {sp : Int32 × Int32} {rs : Int32 × Int32} {vl : (Nat → Int32)} {rho : List zCel} (hr : rho.length = 75) (hT : T ≤ 40) : zC yX10_readPit cX10_readPit 1 (some .int) (d + 4) 0 0 [.ref 75] (rho ++ encM th (mt, (nI T), mp) mB (rc, rh, rg, rf, rd) pg mq bk kp sn ml mw pn wl sp rs vl) (fun r s => ∃ (mp' rc' rh' rf' : Int32) (rg' rd' : Nat → Int32), r = some (.int (zFF mt T T)) ∧ s = rho ++ encM th (mt, (nI T), mp') mB (rc', rh', rg', rf', rd') pg mq bk kp sn ml mw pn wl sp rs vl ∧ (zFF mt T T = -9 → ∃ Z : Nat, T = 2 + 3 * Z ∧ zCn mt 72 Z ≤ 5 ∧ zCn mt 70 Z ≤ 3 ∧ rc' = mt 1 - 48 ∧ rh' = nI (zCn mt 72 Z) ∧ rf' = nI (zCn mt 70 Z) ∧ rg' = zGh mt 72 rg Z ∧ rd' = zGh mt 70 rd Z)) := by
  refine zC.intro (by decide) (Nat.le_of_ble_eq_true rfl) rfl ?_
  by_cases h0 : T = 0
  · subst h0
    refine zx_aload_n (pc := 0) dX10_readPit_0 rfl rfl ?_
    refine zx_iconst (pc := 1) (v := 0) dX10_readPit_1 (by decide) ?_
    refine u75_3 (pc := 2) hr fl_X10_72 dX10_readPit_2 ?_
    refine zx_aload_n (pc := 5) dX10_readPit_5 rfl rfl ?_
    refine zx_iconst (pc := 6) (v := 0) dX10_readPit_6 (by decide) ?_
    refine u75_11 (pc := 7) hr fl_X10_79 dX10_readPit_7 ?_
    refine zx_aload_n (pc := 10) dX10_readPit_10 rfl rfl ?_
    refine zx_iconst (pc := 11) (v := 0) dX10_readPit_11 (by decide) ?_
    refine u75_13 (pc := 12) hr fl_X10_82 dX10_readPit_12 ?_
    refine zx_aload_n (pc := 15) dX10_readPit_15 rfl rfl ?_
    refine g75_2 (pc := 16) hr fl_X10_69 dX10_readPit_16 ?_
    refine zx_if_eq (pc := 19) (tgt := 33) dX10_readPit_19 (by decide) (fun h19 => ?_) (fun h19 => by first | exact absurd h19 (show nI 0 = 0 from rfl) | exact absurd (show nI 0 = 0 from rfl) h19)
    refine zx_iconst (pc := 33) (v := 0) dX10_readPit_33 (by decide) ?_
    exact zx_iret (pc := 34) dX10_readPit_34 rfl rfl (Nat.le_refl _) (Nat.le_refl _) ⟨_, _, _, _, _, _, by rw [show zFF mt 0 0 = nI 0 from rfl]; rfl, rfl, fun h9 => absurd (by rw [show zFF mt 0 0 = nI 0 from rfl] at h9; exact h9) (nI_ne9 (k := 0) (by omega))⟩
  · by_cases h66 : mt 0 = 66
    · have e0 : zFF mt T T = zFF mt T (T - 1) := by
        have := zFF_y (tb := mt) (T := T) (k := 0) (by omega) (by rw [zFt_0, if_pos h66]; decide)
        rw [Nat.sub_zero] at this; exact this
      by_cases o1 : zOk mt T 1 0 9 = 0
      · refine zx_aload_n (pc := 0) dX10_readPit_0 rfl rfl ?_
        refine zx_iconst (pc := 1) (v := 0) dX10_readPit_1 (by decide) ?_
        refine u75_3 (pc := 2) hr fl_X10_72 dX10_readPit_2 ?_
        refine zx_aload_n (pc := 5) dX10_readPit_5 rfl rfl ?_
        refine zx_iconst (pc := 6) (v := 0) dX10_readPit_6 (by decide) ?_
        refine u75_11 (pc := 7) hr fl_X10_79 dX10_readPit_7 ?_
        refine zx_aload_n (pc := 10) dX10_readPit_10 rfl rfl ?_
        refine zx_iconst (pc := 11) (v := 0) dX10_readPit_11 (by decide) ?_
        refine u75_13 (pc := 12) hr fl_X10_82 dX10_readPit_12 ?_
        refine zx_aload_n (pc := 15) dX10_readPit_15 rfl rfl ?_
        refine g75_2 (pc := 16) hr fl_X10_69 dX10_readPit_16 ?_
        refine zx_if_eq (pc := 19) (tgt := 33) dX10_readPit_19 (by decide) (fun h19 => by first | exact absurd h19 (nI_ne0 (show 0 < T by omega) (by omega)) | exact absurd (nI_ne0 (show 0 < T by omega) (by omega)) h19) (fun h19 => ?_)
        refine zx_aload_n (pc := 22) dX10_readPit_22 rfl rfl ?_
        refine g75_1 (pc := 23) hr fl_X10_7 dX10_readPit_23 ?_
        refine zx_iconst (pc := 26) (v := 0) dX10_readPit_26 (by decide) ?_
        refine a76 (pc := 27) hr (zix_k (j := 0) (by decide) (by decide)) dX10_readPit_27 ?_
        refine zx_bipush (pc := 28) (v := 66) dX10_readPit_28 (by decide) ?_
        refine zx_icmp_eq (pc := 30) (tgt := 35) dX10_readPit_30 (by decide) (fun h30 => ?_) (fun h30 => by first | exact absurd h30 h66 | exact absurd h66 h30)
        refine zx_aload_n (pc := 35) dX10_readPit_35 rfl rfl ?_
        refine zx_iconst (pc := 36) (v := 1) dX10_readPit_36 (by decide) ?_
        refine u75_3 (pc := 37) hr fl_X10_72 dX10_readPit_37 ?_
        rw [show (1 : Int32) = nI 1 from rfl]
        refine zx_aload_n (pc := 40) dX10_readPit_40 rfl rfl ?_
        refine zx_aload_n (pc := 41) dX10_readPit_41 rfl rfl ?_
        refine zx_iconst (pc := 42) (v := 0) dX10_readPit_42 (by decide) ?_
        refine zx_bipush (pc := 43) (v := 9) dX10_readPit_43 (by decide) ?_
        refine zx_fV1 (pc := 45) (r_fig_n (d := d + 2) (p := 1) hr hT (by omega) o1) cl_X10_75 (p75 hr) rfl dX10_readPit_45 rfl rfl (by omega) (Nat.le_of_ble_eq_true rfl) (Nat.le_refl _) (Nat.le_refl _) ?_
        refine u75_10 (pc := 48) hr fl_X10_90 dX10_readPit_48 ?_
        refine zx_aload_n (pc := 51) dX10_readPit_51 rfl rfl ?_
        refine g75_10 (pc := 52) hr fl_X10_90 dX10_readPit_52 ?_
        refine zx_bipush (pc := 55) (v := -9) dX10_readPit_55 (by decide) ?_
        refine zx_icmp_ne (pc := 57) (tgt := 65) dX10_readPit_57 (by decide) (fun h57 => by first | exact absurd h57 (show (-9 : Int32) = -9 from rfl) | exact absurd (show (-9 : Int32) = -9 from rfl) h57) (fun h57 => ?_)
        refine zx_aload_n (pc := 60) dX10_readPit_60 rfl rfl ?_
        refine g75_3 (pc := 61) hr fl_X10_72 dX10_readPit_61 ?_
        exact zx_iret (pc := 64) dX10_readPit_64 rfl rfl (Nat.le_refl _) (Nat.le_refl _) ⟨_, _, _, _, _, _, by rw [e0, zFF_k (by omega) (zFt_1 mt) (by omega) o1], rfl, fun h9 => absurd (by rw [e0, zFF_k (by omega) (zFt_1 mt) (by omega) o1] at h9; exact h9) (nI_ne9 (by omega))⟩
      · have hT2 : 2 ≤ T := by have := (zOk_y o1).1; omega
        refine zx_aload_n (pc := 0) dX10_readPit_0 rfl rfl ?_
        refine zx_iconst (pc := 1) (v := 0) dX10_readPit_1 (by decide) ?_
        refine u75_3 (pc := 2) hr fl_X10_72 dX10_readPit_2 ?_
        refine zx_aload_n (pc := 5) dX10_readPit_5 rfl rfl ?_
        refine zx_iconst (pc := 6) (v := 0) dX10_readPit_6 (by decide) ?_
        refine u75_11 (pc := 7) hr fl_X10_79 dX10_readPit_7 ?_
        refine zx_aload_n (pc := 10) dX10_readPit_10 rfl rfl ?_
        refine zx_iconst (pc := 11) (v := 0) dX10_readPit_11 (by decide) ?_
        refine u75_13 (pc := 12) hr fl_X10_82 dX10_readPit_12 ?_
        refine zx_aload_n (pc := 15) dX10_readPit_15 rfl rfl ?_
        refine g75_2 (pc := 16) hr fl_X10_69 dX10_readPit_16 ?_
        refine zx_if_eq (pc := 19) (tgt := 33) dX10_readPit_19 (by decide) (fun h19 => by first | exact absurd h19 (nI_ne0 (show 0 < T by omega) (by omega)) | exact absurd (nI_ne0 (show 0 < T by omega) (by omega)) h19) (fun h19 => ?_)
        refine zx_aload_n (pc := 22) dX10_readPit_22 rfl rfl ?_
        refine g75_1 (pc := 23) hr fl_X10_7 dX10_readPit_23 ?_
        refine zx_iconst (pc := 26) (v := 0) dX10_readPit_26 (by decide) ?_
        refine a76 (pc := 27) hr (zix_k (j := 0) (by decide) (by decide)) dX10_readPit_27 ?_
        refine zx_bipush (pc := 28) (v := 66) dX10_readPit_28 (by decide) ?_
        refine zx_icmp_eq (pc := 30) (tgt := 35) dX10_readPit_30 (by decide) (fun h30 => ?_) (fun h30 => by first | exact absurd h30 h66 | exact absurd h66 h30)
        refine zx_aload_n (pc := 35) dX10_readPit_35 rfl rfl ?_
        refine zx_iconst (pc := 36) (v := 1) dX10_readPit_36 (by decide) ?_
        refine u75_3 (pc := 37) hr fl_X10_72 dX10_readPit_37 ?_
        rw [show (1 : Int32) = nI 1 from rfl]
        refine zx_aload_n (pc := 40) dX10_readPit_40 rfl rfl ?_
        refine zx_aload_n (pc := 41) dX10_readPit_41 rfl rfl ?_
        refine zx_iconst (pc := 42) (v := 0) dX10_readPit_42 (by decide) ?_
        refine zx_bipush (pc := 43) (v := 9) dX10_readPit_43 (by decide) ?_
        refine zx_fV1 (pc := 45) (r_fig_y (d := d + 2) (p := 1) hr hT (by omega) o1) cl_X10_75 (p75 hr) rfl dX10_readPit_45 rfl rfl (by omega) (Nat.le_of_ble_eq_true rfl) (Nat.le_refl _) (Nat.le_refl _) ?_
        refine u75_10 (pc := 48) hr fl_X10_90 dX10_readPit_48 ?_
        refine zx_aload_n (pc := 51) dX10_readPit_51 rfl rfl ?_
        refine g75_10 (pc := 52) hr fl_X10_90 dX10_readPit_52 ?_
        refine zx_bipush (pc := 55) (v := -9) dX10_readPit_55 (by decide) ?_
        refine zx_icmp_ne (pc := 57) (tgt := 65) dX10_readPit_57 (by decide) (fun h57 => ?_) (fun h57 => by first | exact absurd h57 (zOk_9 o1 (by decide)) | exact absurd (zOk_9 o1 (by decide)) h57)
        exact lr_readPit hr hT 14 0 (by omega) hT2 (Nat.zero_le _) (Nat.zero_le _) (by rw [e0, zFF_p (by omega) (zFt_1 mt) o1])
    · refine zx_aload_n (pc := 0) dX10_readPit_0 rfl rfl ?_
      refine zx_iconst (pc := 1) (v := 0) dX10_readPit_1 (by decide) ?_
      refine u75_3 (pc := 2) hr fl_X10_72 dX10_readPit_2 ?_
      refine zx_aload_n (pc := 5) dX10_readPit_5 rfl rfl ?_
      refine zx_iconst (pc := 6) (v := 0) dX10_readPit_6 (by decide) ?_
      refine u75_11 (pc := 7) hr fl_X10_79 dX10_readPit_7 ?_
      refine zx_aload_n (pc := 10) dX10_readPit_10 rfl rfl ?_
      refine zx_iconst (pc := 11) (v := 0) dX10_readPit_11 (by decide) ?_
      refine u75_13 (pc := 12) hr fl_X10_82 dX10_readPit_12 ?_
      refine zx_aload_n (pc := 15) dX10_readPit_15 rfl rfl ?_
      refine g75_2 (pc := 16) hr fl_X10_69 dX10_readPit_16 ?_
      refine zx_if_eq (pc := 19) (tgt := 33) dX10_readPit_19 (by decide) (fun h19 => by first | exact absurd h19 (nI_ne0 (show 0 < T by omega) (by omega)) | exact absurd (nI_ne0 (show 0 < T by omega) (by omega)) h19) (fun h19 => ?_)
      refine zx_aload_n (pc := 22) dX10_readPit_22 rfl rfl ?_
      refine g75_1 (pc := 23) hr fl_X10_7 dX10_readPit_23 ?_
      refine zx_iconst (pc := 26) (v := 0) dX10_readPit_26 (by decide) ?_
      refine a76 (pc := 27) hr (zix_k (j := 0) (by decide) (by decide)) dX10_readPit_27 ?_
      refine zx_bipush (pc := 28) (v := 66) dX10_readPit_28 (by decide) ?_
      refine zx_icmp_eq (pc := 30) (tgt := 35) dX10_readPit_30 (by decide) (fun h30 => by first | exact absurd h30 h66 | exact absurd h66 h30) (fun h30 => ?_)
      refine zx_iconst (pc := 33) (v := 0) dX10_readPit_33 (by decide) ?_
      exact zx_iret (pc := 34) dX10_readPit_34 rfl rfl (Nat.le_refl _) (Nat.le_refl _) ⟨_, _, _, _, _, _, by rw [show zFF mt T T = nI 0 by have := zFF_n (tb := mt) (T := T) (k := 0) (by omega) (by rw [zFt_0, if_neg h66]); rw [Nat.sub_zero] at this; exact this]; rfl, rfl, fun h9 => absurd (by rw [show zFF mt T T = nI 0 by have := zFF_n (tb := mt) (T := T) (k := 0) (by omega) (by rw [zFt_0, if_neg h66]); rw [Nat.sub_zero] at this; exact this] at h9; exact h9) (nI_ne9 (k := 0) (by omega))⟩
