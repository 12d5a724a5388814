set_option maxHeartbeats 8000000 in
theorem lw_lay {nm : String} {d N i mc ms kc ks : Nat} {xs : Nat → Int32} {tb : Nat → Int32} {T : Nat} {gs : Nat → Int32} {gk : Nat → Int32} {gf : Nat → Int32} {ga : Nat → Int32} {H : Nat} {F : Nat} {gc : Int32} {nt : Nat → Int32} {ns : Nat → Int32} {n2 : Int32} {n3 : Int32} {n4 : Int32} {n5 : Int32} {n6 : Int32} {n7 : Int32} {n8 : Int32} {tt : Nat → Int32} {ts : Nat → Int32} {t2 : Int32} {t3 : Int32} {t4 : Int32} {t5 : Int32} {t6 : Int32} {t7 : Int32} {t8 : Int32} {ws : Nat → Int32} {w1 : Int32} {w2 : Int32} {w3 : Int32} {pt : Nat → Int32} {b1 : Int32} {b2 : Int32} {b3 : Int32} {b4 : Int32} {b5 : Int32} {ab : Nat → zStt} {n : Nat} {z : Nat} {sk : Nat → zStt} {su : Nat → Int32} {sr : Nat → Int32} {so : Nat → Int32} {sh : Nat → Int32} {S : Nat} {sd : Int64} {th : Int32} {mp : Int32} {rc : Int32} {rh : Int32} {rg : Nat → Int32} {rf : Int32} {rd : Nat → Int32} {pg : Nat → Int32} {mq : Nat → Int32} {bb : Nat → Int32} {kk : Nat → Int32} {wm : Int32} {wo : Int32} {q1 : Int32} {q2 : Int32} {q3 : Int32} {q4 : Int32} {wh : Int32} {wu : Int32} {i1 : Int32} {i2 : Int32} {f1 : Int32} {f2 : Int32} {vl : Nat → Int32} (hN : N ≤ 320) (hi : i + 5 ≤ N) (hc : kc ≤ mc) (hs : ks ≤ ms) (ih : ∀ sg', zI sg' → zX RL cL_law 4 (some .boolean) nm (some (N, xs)) (d + 6) 0 mc ms kc ks (fun r _ => r = some (.int 1)) 934 [some (.ref 1001), some (.ref 0), some (.ref 75), some (.int (nI i))] [] sg') (hJ : zJ T gs gk gf H F (nt, ns, n2, n3, n4, n5, n6, n7, n8) ab n z sk su sr so S pg bb kk) : zX RL cL_law 4 (some .boolean) nm (some (N, xs)) (d + 6) 0 mc ms kc ks (fun r _ => r = some (.int 1)) 384 [some (.ref 1001), some (.ref 0), some (.ref 75), some (.int (nI i))] [] (encC (tb, (nI T)) (gs, gk, gf, ga, (nI H), (nI F), gc) (nt, ns, n2, n3, n4, n5, n6, n7, n8) (tt, ts, t2, t3, t4, t5, t6, t7, t8) (ws, w1, w2, w3) (pt, b1, b2, b3, b4, b5) (ab, (nI n), (nI z)) (sk, su) (sr, so, sh, (nI S)) sd ++ encM th (tb, (nI T), mp) (gc, (nI H), gs, gk, (nI F), gf) (rc, rh, rg, rf, rd) pg mq (bb, (nI z)) (kk, su) ((nI S), sr, so, sh) sd (wm, wo) (q1, q2, q3, q4) (wh, wu) (i1, i2) (f1, f2) vl) := by
  obtain ⟨⟨jT, jH, jF, jn, jz, jS⟩, jg, js, jb, jk, jr, jo⟩ := hJ
  have js' := js
  obtain ⟨e1, e2, e3, e4, ⟨e8, e9, e10, e11⟩, ⟨k, m, k1, k2, k3, k4, k5⟩, e14, e15⟩ := js'
  simp only at e8 e9 e10 e11 k5 e14 e15
  obtain ⟨v1, v2⟩ := zW_hs k k1 m k2
  by_cases ex : (xs (i + 1)) = 0
  · by_cases g8 : k = 8
    · subst g8
      have hfa : ¬ zHt n6 < 8 := by rw [k5, v1]; decide
      have hfb : pg 12 = 8 := k3
      refine zx_aload_n (pc := 384) dL_law_384 rfl rfl ?_
      refine zx_aload_n (pc := 385) dL_law_385 rfl rfl ?_
      refine zx_iload_n (pc := 386) dL_law_386 rfl rfl ?_
      refine zx_iconst (pc := 387) (v := 1) dL_law_387 (by decide) ?_
      refine zx_iadd (pc := 388) dL_law_388 ?_
      refine zx_sld (pc := 389) rfl (zs1 hi hN) dL_law_389 ?_
      rw [ex]
      refine zx_fV1 (pc := 390) (q_lay_full0 (d := d + 1) hfa) cl_L_56 p0 rfl dL_law_390 rfl rfl (by omega) (Nat.le_of_ble_eq_true rfl) (by assumption) (by assumption) ?_
      refine zx_aload_n (pc := 393) dL_law_393 rfl rfl ?_
      refine zx_aload_n (pc := 394) dL_law_394 rfl rfl ?_
      refine zx_iload_n (pc := 395) dL_law_395 rfl rfl ?_
      refine zx_iconst (pc := 396) (v := 1) dL_law_396 (by decide) ?_
      refine zx_iadd (pc := 397) dL_law_397 ?_
      refine zx_sld (pc := 398) rfl (zs1 hi hN) dL_law_398 ?_
      rw [ex]
      refine zx_fV1 (pc := 399) (m_lay_full (d := d + 4) zLen (by decide) hfb) cl_L_59 (p75 zLen) rfl dL_law_399 rfl rfl (by omega) (Nat.le_of_ble_eq_true rfl) (by assumption) (by assumption) ?_
      refine zx_icmp_eq (pc := 402) (tgt := 934) dL_law_402 (by decide) (fun h402 => ?_) (fun h402 => absurd rfl h402)
      exact ih _ ⟨tb, T, gs, gk, gf, ga, H, F, gc, nt, ns, n2, n3, n4, n5, n6, n7, n8, tt, ts, t2, t3, t4, t5, t6, t7, t8, ws, w1, w2, w3, pt, b1, b2, b3, b4, b5, ab, n, z, sk, su, sr, so, sh, S, sd, 0, mp, rc, rh, rg, rf, rd, pg, mq, bb, kk, wm, wo, q1, q2, q3, q4, wh, wu, i1, i2, f1, f2, vl, rfl, ⟨⟨jT, jH, jF, jn, jz, jS⟩, jg, js, jb, jk, jr, jo⟩⟩
    · have hfa : zHt n6 < 8 := by rw [k5, v1]; exact nI_lt (b := 8) (by omega) (by decide)
      have hfb : ¬ pg 12 = 8 := fun q => by rw [k3] at q; have := (nI_eq (a := k) (b := 8) (by omega) (by decide)).mp q; omega
      by_cases g2 : 2 ≤ n4
      · obtain ⟨jl, jh⟩ := zSr_l (S := 0) (P := 10) (s := 0) (m3 := n3) (m4 := n4 - 2) jH jF (by decide) (show k < 8 by omega) k2 k3 k4 k5 js rfl (by decide) rfl rfl
        refine zx_aload_n (pc := 384) dL_law_384 rfl rfl ?_
        refine zx_aload_n (pc := 385) dL_law_385 rfl rfl ?_
        refine zx_iload_n (pc := 386) dL_law_386 rfl rfl ?_
        refine zx_iconst (pc := 387) (v := 1) dL_law_387 (by decide) ?_
        refine zx_iadd (pc := 388) dL_law_388 ?_
        refine zx_sld (pc := 389) rfl (zs1 hi hN) dL_law_389 ?_
        rw [ex]
        refine zx_fV1 (pc := 390) (q_lay_ok0 (d := d + 1) hfa g2 jn jz) cl_L_56 p0 rfl dL_law_390 rfl rfl (by omega) (Nat.le_of_ble_eq_true rfl) (by assumption) (by assumption) ?_
        refine zx_aload_n (pc := 393) dL_law_393 rfl rfl ?_
        refine zx_aload_n (pc := 394) dL_law_394 rfl rfl ?_
        refine zx_iload_n (pc := 395) dL_law_395 rfl rfl ?_
        refine zx_iconst (pc := 396) (v := 1) dL_law_396 (by decide) ?_
        refine zx_iadd (pc := 397) dL_law_397 ?_
        refine zx_sld (pc := 398) rfl (zs1 hi hN) dL_law_398 ?_
        rw [ex]
        refine zx_fV1 (pc := 399) (m_lay_ok0 (d := d + 4) zLen jz hfb (by rw [e10]; exact g2)) cl_L_59 (p75 zLen) rfl dL_law_399 rfl rfl (by omega) (Nat.le_of_ble_eq_true rfl) (by assumption) (by assumption) ?_
        refine zx_icmp_eq (pc := 402) (tgt := 934) dL_law_402 (by decide) (fun h402 => ?_) (fun h402 => absurd jh h402)
        exact ih _ ⟨tb, T, gs, gk, gf, ga, H, F, gc, nt, ns, n2, n3, (n4 - 2), n5, (zWc n6 0), n7, n8, tt, ts, t2, t3, t4, t5, t6, t7, t8, ws, w1, w2, w3, pt, b1, b2, b3, b4, b5, (va_up ab n (zcpS (nt, ns, n2, n3, n4, n5, n6, n7, n8) (ab n))), ((n + 1) % 14), (min (z + 1) 14), sk, su, sr, so, sh, S, sd, 0, mp, rc, rh, rg, rf, rd, (upd (upd (upd pg 10 (pg 10 - 2)) 13 (pg 13 ||| (0 : Int32) <<< (pg 12 &&& 31))) 12 (pg 12 + 1)), mq, (zNb bb z pg), kk, wm, wo, q1, q2, q3, q4, wh, wu, i1, i2, f1, f2, vl, rfl, ⟨⟨jT, jH, jF, Nat.mod_lt _ (by decide), Nat.min_le_right _ _, jS⟩, jg, jl, zBr_n jH jF jn jz jb js, jk, jr, jo⟩⟩
      · refine zx_aload_n (pc := 384) dL_law_384 rfl rfl ?_
        refine zx_aload_n (pc := 385) dL_law_385 rfl rfl ?_
        refine zx_iload_n (pc := 386) dL_law_386 rfl rfl ?_
        refine zx_iconst (pc := 387) (v := 1) dL_law_387 (by decide) ?_
        refine zx_iadd (pc := 388) dL_law_388 ?_
        refine zx_sld (pc := 389) rfl (zs1 hi hN) dL_law_389 ?_
        rw [ex]
        refine zx_fV1 (pc := 390) (q_lay_late0 (d := d + 1) hfa g2) cl_L_56 p0 rfl dL_law_390 rfl rfl (by omega) (Nat.le_of_ble_eq_true rfl) (by assumption) (by assumption) ?_
        refine zx_aload_n (pc := 393) dL_law_393 rfl rfl ?_
        refine zx_aload_n (pc := 394) dL_law_394 rfl rfl ?_
        refine zx_iload_n (pc := 395) dL_law_395 rfl rfl ?_
        refine zx_iconst (pc := 396) (v := 1) dL_law_396 (by decide) ?_
        refine zx_iadd (pc := 397) dL_law_397 ?_
        refine zx_sld (pc := 398) rfl (zs1 hi hN) dL_law_398 ?_
        rw [ex]
        refine zx_fV1 (pc := 399) (m_lay_late0 (d := d + 4) zLen hfb (by rw [e10]; exact g2)) cl_L_59 (p75 zLen) rfl dL_law_399 rfl rfl (by omega) (Nat.le_of_ble_eq_true rfl) (by assumption) (by assumption) ?_
        refine zx_icmp_eq (pc := 402) (tgt := 934) dL_law_402 (by decide) (fun h402 => ?_) (fun h402 => absurd rfl h402)
        exact ih _ ⟨tb, T, gs, gk, gf, ga, H, F, gc, nt, ns, n2, n3, n4, n5, n6, n7, n8, tt, ts, t2, t3, t4, t5, t6, t7, t8, ws, w1, w2, w3, pt, b1, b2, b3, b4, b5, ab, n, z, sk, su, sr, so, sh, S, sd, 0, mp, rc, rh, rg, rf, rd, pg, mq, bb, kk, wm, wo, q1, q2, q3, q4, wh, wu, i1, i2, f1, f2, vl, rfl, ⟨⟨jT, jH, jF, jn, jz, jS⟩, jg, js, jb, jk, jr, jo⟩⟩
  · by_cases ex1 : (xs (i + 1)) = 1
    · have ex := ex1
      by_cases g8 : k = 8
      · subst g8
        have hfa : ¬ zHt n6 < 8 := by rw [k5, v1]; decide
        have hfb : pg 12 = 8 := k3
        refine zx_aload_n (pc := 384) dL_law_384 rfl rfl ?_
        refine zx_aload_n (pc := 385) dL_law_385 rfl rfl ?_
        refine zx_iload_n (pc := 386) dL_law_386 rfl rfl ?_
        refine zx_iconst (pc := 387) (v := 1) dL_law_387 (by decide) ?_
        refine zx_iadd (pc := 388) dL_law_388 ?_
        refine zx_sld (pc := 389) rfl (zs1 hi hN) dL_law_389 ?_
        rw [ex]
        refine zx_fV1 (pc := 390) (q_lay_full1 (d := d + 1) hfa) cl_L_56 p0 rfl dL_law_390 rfl rfl (by omega) (Nat.le_of_ble_eq_true rfl) (by assumption) (by assumption) ?_
        refine zx_aload_n (pc := 393) dL_law_393 rfl rfl ?_
        refine zx_aload_n (pc := 394) dL_law_394 rfl rfl ?_
        refine zx_iload_n (pc := 395) dL_law_395 rfl rfl ?_
        refine zx_iconst (pc := 396) (v := 1) dL_law_396 (by decide) ?_
        refine zx_iadd (pc := 397) dL_law_397 ?_
        refine zx_sld (pc := 398) rfl (zs1 hi hN) dL_law_398 ?_
        rw [ex]
        refine zx_fV1 (pc := 399) (m_lay_full (d := d + 4) zLen (by decide) hfb) cl_L_59 (p75 zLen) rfl dL_law_399 rfl rfl (by omega) (Nat.le_of_ble_eq_true rfl) (by assumption) (by assumption) ?_
        refine zx_icmp_eq (pc := 402) (tgt := 934) dL_law_402 (by decide) (fun h402 => ?_) (fun h402 => absurd rfl h402)
        exact ih _ ⟨tb, T, gs, gk, gf, ga, H, F, gc, nt, ns, n2, n3, n4, n5, n6, n7, n8, tt, ts, t2, t3, t4, t5, t6, t7, t8, ws, w1, w2, w3, pt, b1, b2, b3, b4, b5, ab, n, z, sk, su, sr, so, sh, S, sd, 0, mp, rc, rh, rg, rf, rd, pg, mq, bb, kk, wm, wo, q1, q2, q3, q4, wh, wu, i1, i2, f1, f2, vl, rfl, ⟨⟨jT, jH, jF, jn, jz, jS⟩, jg, js, jb, jk, jr, jo⟩⟩
      · have hfa : zHt n6 < 8 := by rw [k5, v1]; exact nI_lt (b := 8) (by omega) (by decide)
        have hfb : ¬ pg 12 = 8 := fun q => by rw [k3] at q; have := (nI_eq (a := k) (b := 8) (by omega) (by decide)).mp q; omega
        by_cases g2 : 2 ≤ n3
        · obtain ⟨jl, jh⟩ := zSr_l (S := 1) (P := 9) (s := 1) (m3 := n3 - 2) (m4 := n4) jH jF (by decide) (show k < 8 by omega) k2 k3 k4 k5 js rfl (by decide) rfl rfl
          refine zx_aload_n (pc := 384) dL_law_384 rfl rfl ?_
          refine zx_aload_n (pc := 385) dL_law_385 rfl rfl ?_
          refine zx_iload_n (pc := 386) dL_law_386 rfl rfl ?_
          refine zx_iconst (pc := 387) (v := 1) dL_law_387 (by decide) ?_
          refine zx_iadd (pc := 388) dL_law_388 ?_
          refine zx_sld (pc := 389) rfl (zs1 hi hN) dL_law_389 ?_
          rw [ex]
          refine zx_fV1 (pc := 390) (q_lay_ok1 (d := d + 1) hfa g2 jn jz) cl_L_56 p0 rfl dL_law_390 rfl rfl (by omega) (Nat.le_of_ble_eq_true rfl) (by assumption) (by assumption) ?_
          refine zx_aload_n (pc := 393) dL_law_393 rfl rfl ?_
          refine zx_aload_n (pc := 394) dL_law_394 rfl rfl ?_
          refine zx_iload_n (pc := 395) dL_law_395 rfl rfl ?_
          refine zx_iconst (pc := 396) (v := 1) dL_law_396 (by decide) ?_
          refine zx_iadd (pc := 397) dL_law_397 ?_
          refine zx_sld (pc := 398) rfl (zs1 hi hN) dL_law_398 ?_
          rw [ex]
          refine zx_fV1 (pc := 399) (m_lay_ok1 (d := d + 4) zLen jz hfb (by rw [e9]; exact g2)) cl_L_59 (p75 zLen) rfl dL_law_399 rfl rfl (by omega) (Nat.le_of_ble_eq_true rfl) (by assumption) (by assumption) ?_
          refine zx_icmp_eq (pc := 402) (tgt := 934) dL_law_402 (by decide) (fun h402 => ?_) (fun h402 => absurd jh h402)
          exact ih _ ⟨tb, T, gs, gk, gf, ga, H, F, gc, nt, ns, n2, (n3 - 2), n4, n5, (zWc n6 1), n7, n8, tt, ts, t2, t3, t4, t5, t6, t7, t8, ws, w1, w2, w3, pt, b1, b2, b3, b4, b5, (va_up ab n (zcpS (nt, ns, n2, n3, n4, n5, n6, n7, n8) (ab n))), ((n + 1) % 14), (min (z + 1) 14), sk, su, sr, so, sh, S, sd, 0, mp, rc, rh, rg, rf, rd, (upd (upd (upd pg 9 (pg 9 - 2)) 13 (pg 13 ||| (1 : Int32) <<< (pg 12 &&& 31))) 12 (pg 12 + 1)), mq, (zNb bb z pg), kk, wm, wo, q1, q2, q3, q4, wh, wu, i1, i2, f1, f2, vl, rfl, ⟨⟨jT, jH, jF, Nat.mod_lt _ (by decide), Nat.min_le_right _ _, jS⟩, jg, jl, zBr_n jH jF jn jz jb js, jk, jr, jo⟩⟩
        · refine zx_aload_n (pc := 384) dL_law_384 rfl rfl ?_
          refine zx_aload_n (pc := 385) dL_law_385 rfl rfl ?_
          refine zx_iload_n (pc := 386) dL_law_386 rfl rfl ?_
          refine zx_iconst (pc := 387) (v := 1) dL_law_387 (by decide) ?_
          refine zx_iadd (pc := 388) dL_law_388 ?_
          refine zx_sld (pc := 389) rfl (zs1 hi hN) dL_law_389 ?_
          rw [ex]
          refine zx_fV1 (pc := 390) (q_lay_late1 (d := d + 1) hfa g2) cl_L_56 p0 rfl dL_law_390 rfl rfl (by omega) (Nat.le_of_ble_eq_true rfl) (by assumption) (by assumption) ?_
          refine zx_aload_n (pc := 393) dL_law_393 rfl rfl ?_
          refine zx_aload_n (pc := 394) dL_law_394 rfl rfl ?_
          refine zx_iload_n (pc := 395) dL_law_395 rfl rfl ?_
          refine zx_iconst (pc := 396) (v := 1) dL_law_396 (by decide) ?_
          refine zx_iadd (pc := 397) dL_law_397 ?_
          refine zx_sld (pc := 398) rfl (zs1 hi hN) dL_law_398 ?_
          rw [ex]
          refine zx_fV1 (pc := 399) (m_lay_late1 (d := d + 4) zLen hfb (by rw [e9]; exact g2)) cl_L_59 (p75 zLen) rfl dL_law_399 rfl rfl (by omega) (Nat.le_of_ble_eq_true rfl) (by assumption) (by assumption) ?_
          refine zx_icmp_eq (pc := 402) (tgt := 934) dL_law_402 (by decide) (fun h402 => ?_) (fun h402 => absurd rfl h402)
          exact ih _ ⟨tb, T, gs, gk, gf, ga, H, F, gc, nt, ns, n2, n3, n4, n5, n6, n7, n8, tt, ts, t2, t3, t4, t5, t6, t7, t8, ws, w1, w2, w3, pt, b1, b2, b3, b4, b5, ab, n, z, sk, su, sr, so, sh, S, sd, 0, mp, rc, rh, rg, rf, rd, pg, mq, bb, kk, wm, wo, q1, q2, q3, q4, wh, wu, i1, i2, f1, f2, vl, rfl, ⟨⟨jT, jH, jF, jn, jz, jS⟩, jg, js, jb, jk, jr, jo⟩⟩
    · have g : zIn (xs (i + 1)) 0 1 = 0 := by
        rw [← zH2]
        exact Classical.byContradiction fun c => by
          obtain ⟨j, hj, ej⟩ := zHas_n (H := 2) (by decide) c
          rcases (show j = 0 ∨ j = 1 by omega) with rfl | rfl
          · exact ex ej
          · exact ex1 ej
      refine zx_aload_n (pc := 384) dL_law_384 rfl rfl ?_
      refine zx_aload_n (pc := 385) dL_law_385 rfl rfl ?_
      refine zx_iload_n (pc := 386) dL_law_386 rfl rfl ?_
      refine zx_iconst (pc := 387) (v := 1) dL_law_387 (by decide) ?_
      refine zx_iadd (pc := 388) dL_law_388 ?_
      refine zx_sld (pc := 389) rfl (zs1 hi hN) dL_law_389 ?_
      refine zx_fV1 (pc := 390) (q_lay_bad (d := d + 1) ex ex1) cl_L_56 p0 rfl dL_law_390 rfl rfl (by omega) (Nat.le_of_ble_eq_true rfl) (by assumption) (by assumption) ?_
      refine zx_aload_n (pc := 393) dL_law_393 rfl rfl ?_
      refine zx_aload_n (pc := 394) dL_law_394 rfl rfl ?_
      refine zx_iload_n (pc := 395) dL_law_395 rfl rfl ?_
      refine zx_iconst (pc := 396) (v := 1) dL_law_396 (by decide) ?_
      refine zx_iadd (pc := 397) dL_law_397 ?_
      refine zx_sld (pc := 398) rfl (zs1 hi hN) dL_law_398 ?_
      refine zx_fV1 (pc := 399) (m_lay_bad (d := d + 4) zLen g) cl_L_59 (p75 zLen) rfl dL_law_399 rfl rfl (by omega) (Nat.le_of_ble_eq_true rfl) (by assumption) (by assumption) ?_
      refine zx_icmp_eq (pc := 402) (tgt := 934) dL_law_402 (by decide) (fun h402 => ?_) (fun h402 => absurd rfl h402)
      exact ih _ ⟨tb, T, gs, gk, gf, ga, H, F, gc, nt, ns, n2, n3, n4, n5, n6, n7, n8, tt, ts, t2, t3, t4, t5, t6, t7, t8, ws, w1, w2, w3, pt, b1, b2, b3, b4, b5, ab, n, z, sk, su, sr, so, sh, S, sd, 0, mp, rc, rh, rg, rf, rd, pg, mq, bb, kk, wm, wo, q1, q2, q3, q4, wh, wu, i1, i2, f1, f2, vl, rfl, ⟨⟨jT, jH, jF, jn, jz, jS⟩, jg, js, jb, jk, jr, jo⟩⟩
set_option maxHeartbeats 8000000 in
theorem lw_rain {nm : String} {d N i mc ms kc ks : Nat} {xs : Nat → Int32} {tb : Nat → Int32} {T : Nat} {gs : Nat → Int32} {gk : Nat → Int32} {gf : Nat → Int32} {ga : Nat → Int32} {H : Nat} {F : Nat} {gc : Int32} {nt : Nat → Int32} {ns : Nat → Int32} {n2 : Int32} {n3 : Int32} {n4 : Int32} {n5 : Int32} {n6 : Int32} {n7 : Int32} {n8 : Int32} {tt : Nat → Int32} {ts : Nat → Int32} {t2 : Int32} {t3 : Int32} {t4 : Int32} {t5 : Int32} {t6 : Int32} {t7 : Int32} {t8 : Int32} {ws : Nat → Int32} {w1 : Int32} {w2 : Int32} {w3 : Int32} {pt : Nat → Int32} {b1 : Int32} {b2 : Int32} {b3 : Int32} {b4 : Int32} {b5 : Int32} {ab : Nat → zStt} {n : Nat} {z : Nat} {sk : Nat → zStt} {su : Nat → Int32} {sr : Nat → Int32} {so : Nat → Int32} {sh : Nat → Int32} {S : Nat} {sd : Int64} {th : Int32} {mp : Int32} {rc : Int32} {rh : Int32} {rg : Nat → Int32} {rf : Int32} {rd : Nat → Int32} {pg : Nat → Int32} {mq : Nat → Int32} {bb : Nat → Int32} {kk : Nat → Int32} {wm : Int32} {wo : Int32} {q1 : Int32} {q2 : Int32} {q3 : Int32} {q4 : Int32} {wh : Int32} {wu : Int32} {i1 : Int32} {i2 : Int32} {f1 : Int32} {f2 : Int32} {vl : Nat → Int32} (hN : N ≤ 320) (hi : i + 5 ≤ N) (hc : kc ≤ mc) (hs : ks ≤ ms) (ih : ∀ sg', zI sg' → zX RL cL_law 4 (some .boolean) nm (some (N, xs)) (d + 6) 0 mc ms kc ks (fun r _ => r = some (.int 1)) 934 [some (.ref 1001), some (.ref 0), some (.ref 75), some (.int (nI i))] [] sg') (hJ : zJ T gs gk gf H F (nt, ns, n2, n3, n4, n5, n6, n7, n8) ab n z sk su sr so S pg bb kk) : zX RL cL_law 4 (some .boolean) nm (some (N, xs)) (d + 6) 0 mc ms kc ks (fun r _ => r = some (.int 1)) 407 [some (.ref 1001), some (.ref 0), some (.ref 75), some (.int (nI i))] [] (encC (tb, (nI T)) (gs, gk, gf, ga, (nI H), (nI F), gc) (nt, ns, n2, n3, n4, n5, n6, n7, n8) (tt, ts, t2, t3, t4, t5, t6, t7, t8) (ws, w1, w2, w3) (pt, b1, b2, b3, b4, b5) (ab, (nI n), (nI z)) (sk, su) (sr, so, sh, (nI S)) sd ++ encM th (tb, (nI T), mp) (gc, (nI H), gs, gk, (nI F), gf) (rc, rh, rg, rf, rd) pg mq (bb, (nI z)) (kk, su) ((nI S), sr, so, sh) sd (wm, wo) (q1, q2, q3, q4) (wh, wu) (i1, i2) (f1, f2) vl) := by
  obtain ⟨⟨jT, jH, jF, jn, jz, jS⟩, jg, js, jb, jk, jr, jo⟩ := hJ
  have js' := js
  obtain ⟨e1, e2, e3, e4, ⟨e8, e9, e10, e11⟩, ⟨k, m, k1, k2, k3, k4, k5⟩, e14, e15⟩ := js'
  simp only at e8 e9 e10 e11 k5 e14 e15
  obtain ⟨v1, v2⟩ := zW_hs k k1 m k2
  obtain ⟨jl, jh⟩ := zSr_r jH jF k1 k2 k4 k5 js
  refine zx_aload_n (pc := 407) dL_law_407 rfl rfl ?_
  refine zx_fV1 (pc := 408) (q_rain (d := d + 2) jn jz) cl_L_60 p0 rfl dL_law_408 rfl rfl (by omega) (Nat.le_of_ble_eq_true rfl) (by assumption) (by assumption) ?_
  refine zx_aload_n (pc := 411) dL_law_411 rfl rfl ?_
  refine zx_fV1 (pc := 412) (m_rain (d := d + 3) zLen jz k1 k3) cl_L_63 (p75 zLen) rfl dL_law_412 rfl rfl (by omega) (Nat.le_of_ble_eq_true rfl) (by assumption) (by assumption) ?_
  refine zx_icmp_eq (pc := 415) (tgt := 934) dL_law_415 (by decide) (fun h415 => ?_) (fun h415 => absurd jh h415)
  exact ih _ ⟨tb, T, gs, gk, gf, ga, H, F, gc, nt, ns, n2, n3, n4, n5, (zRn n6), n7, n8, tt, ts, t2, t3, t4, t5, t6, t7, t8, ws, w1, w2, w3, pt, b1, b2, b3, b4, b5, (va_up ab n (zcpS (nt, ns, n2, n3, n4, n5, n6, n7, n8) (ab n))), ((n + 1) % 14), (min (z + 1) 14), sk, su, sr, so, sh, S, sd, 0, mp, rc, rh, rg, rf, rd, (upd (upd pg 12 (nI (zRa (k, pg 13)).1)) 13 (zRa (k, pg 13)).2), mq, (zNb bb z pg), kk, wm, wo, q1, q2, q3, q4, (nI (zRa (k, pg 13)).1), (zRa (k, pg 13)).2, i1, i2, f1, f2, vl, rfl, ⟨⟨jT, jH, jF, Nat.mod_lt _ (by decide), Nat.min_le_right _ _, jS⟩, jg, jl, zBr_n jH jF jn jz jb js, jk, jr, jo⟩⟩
set_option maxHeartbeats 8000000 in
theorem lw_undo {nm : String} {d N i mc ms kc ks : Nat} {xs : Nat → Int32} {tb : Nat → Int32} {T : Nat} {gs : Nat → Int32} {gk : Nat → Int32} {gf : Nat → Int32} {ga : Nat → Int32} {H : Nat} {F : Nat} {gc : Int32} {nt : Nat → Int32} {ns : Nat → Int32} {n2 : Int32} {n3 : Int32} {n4 : Int32} {n5 : Int32} {n6 : Int32} {n7 : Int32} {n8 : Int32} {tt : Nat → Int32} {ts : Nat → Int32} {t2 : Int32} {t3 : Int32} {t4 : Int32} {t5 : Int32} {t6 : Int32} {t7 : Int32} {t8 : Int32} {ws : Nat → Int32} {w1 : Int32} {w2 : Int32} {w3 : Int32} {pt : Nat → Int32} {b1 : Int32} {b2 : Int32} {b3 : Int32} {b4 : Int32} {b5 : Int32} {ab : Nat → zStt} {n : Nat} {z : Nat} {sk : Nat → zStt} {su : Nat → Int32} {sr : Nat → Int32} {so : Nat → Int32} {sh : Nat → Int32} {S : Nat} {sd : Int64} {th : Int32} {mp : Int32} {rc : Int32} {rh : Int32} {rg : Nat → Int32} {rf : Int32} {rd : Nat → Int32} {pg : Nat → Int32} {mq : Nat → Int32} {bb : Nat → Int32} {kk : Nat → Int32} {wm : Int32} {wo : Int32} {q1 : Int32} {q2 : Int32} {q3 : Int32} {q4 : Int32} {wh : Int32} {wu : Int32} {i1 : Int32} {i2 : Int32} {f1 : Int32} {f2 : Int32} {vl : Nat → Int32} (hN : N ≤ 320) (hi : i + 5 ≤ N) (hc : kc ≤ mc) (hs : ks ≤ ms) (ih : ∀ sg', zI sg' → zX RL cL_law 4 (some .boolean) nm (some (N, xs)) (d + 6) 0 mc ms kc ks (fun r _ => r = some (.int 1)) 934 [some (.ref 1001), some (.ref 0), some (.ref 75), some (.int (nI i))] [] sg') (hJ : zJ T gs gk gf H F (nt, ns, n2, n3, n4, n5, n6, n7, n8) ab n z sk su sr so S pg bb kk) : zX RL cL_law 4 (some .boolean) nm (some (N, xs)) (d + 6) 0 mc ms kc ks (fun r _ => r = some (.int 1)) 420 [some (.ref 1001), some (.ref 0), some (.ref 75), some (.int (nI i))] [] (encC (tb, (nI T)) (gs, gk, gf, ga, (nI H), (nI F), gc) (nt, ns, n2, n3, n4, n5, n6, n7, n8) (tt, ts, t2, t3, t4, t5, t6, t7, t8) (ws, w1, w2, w3) (pt, b1, b2, b3, b4, b5) (ab, (nI n), (nI z)) (sk, su) (sr, so, sh, (nI S)) sd ++ encM th (tb, (nI T), mp) (gc, (nI H), gs, gk, (nI F), gf) (rc, rh, rg, rf, rd) pg mq (bb, (nI z)) (kk, su) ((nI S), sr, so, sh) sd (wm, wo) (q1, q2, q3, q4) (wh, wu) (i1, i2) (f1, f2) vl) := by
  obtain ⟨⟨jT, jH, jF, jn, jz, jS⟩, jg, js, jb, jk, jr, jo⟩ := hJ
  by_cases g : z = 0
  · subst g
    refine zx_aload_n (pc := 420) dL_law_420 rfl rfl ?_
    refine zx_fV1 (pc := 421) (q_undo_late (d := d + 2) ) cl_L_64 p0 rfl dL_law_421 rfl rfl (by omega) (Nat.le_of_ble_eq_true rfl) (by assumption) (by assumption) ?_
    refine zx_aload_n (pc := 424) dL_law_424 rfl rfl ?_
    refine zx_fV1 (pc := 425) (m_undo_late (d := d + 5) zLen) cl_L_67 (p75 zLen) rfl dL_law_425 rfl rfl (by omega) (Nat.le_of_ble_eq_true rfl) (by assumption) (by assumption) ?_
    refine zx_icmp_eq (pc := 428) (tgt := 934) dL_law_428 (by decide) (fun h428 => ?_) (fun h428 => absurd rfl h428)
    exact ih _ ⟨tb, T, gs, gk, gf, ga, H, F, gc, nt, ns, n2, n3, n4, n5, n6, n7, n8, tt, ts, t2, t3, t4, t5, t6, t7, t8, ws, w1, w2, w3, pt, b1, b2, b3, b4, b5, ab, n, 0, sk, su, sr, so, sh, S, sd, 0, mp, rc, rh, rg, rf, rd, pg, mq, bb, kk, wm, wo, q1, q2, q3, q4, wh, wu, i1, i2, f1, f2, vl, rfl, ⟨⟨jT, jH, jF, jn, jz, jS⟩, jg, js, jb, jk, jr, jo⟩⟩
  · obtain ⟨y, rfl⟩ : ∃ y, z = y + 1 := ⟨z - 1, by omega⟩
    have ju := jb y (by omega)
    rw [show (n + 14 - (y + 1) + y) % 14 = (n + 13) % 14 by omega] at ju
    have ju2 : zSr H F (zC16 (fun j => bb (16 * y + j)) pg 16) (zcpS (ab ((n + 13) % 14)) (nt, ns, n2, n3, n4, n5, n6, n7, n8)) := zSr_p jH jF (zSr_s jF ju) zC16j
    have jb2 : zBr H F bb ab ((n + 13) % 14) y := fun j hj => by
      have := jb j (by omega)
      rw [show (n + 14 - (y + 1) + j) % 14 = ((n + 13) % 14 + 14 - y + j) % 14 by omega] at this
      exact this
    refine zx_aload_n (pc := 420) dL_law_420 rfl rfl ?_
    refine zx_fV1 (pc := 421) (q_undo_ok (d := d + 2) jn (by omega)) cl_L_64 p0 rfl dL_law_421 rfl rfl (by omega) (Nat.le_of_ble_eq_true rfl) (by assumption) (by assumption) ?_
    refine zx_aload_n (pc := 424) dL_law_424 rfl rfl ?_
    refine zx_fV1 (pc := 425) (m_undo_ok (d := d + 5) zLen (by omega)) cl_L_67 (p75 zLen) rfl dL_law_425 rfl rfl (by omega) (Nat.le_of_ble_eq_true rfl) (by assumption) (by assumption) ?_
    refine zx_icmp_eq (pc := 428) (tgt := 934) dL_law_428 (by decide) (fun h428 => ?_) (fun h428 => absurd rfl h428)
    exact ih _ ⟨tb, T, gs, gk, gf, ga, H, F, gc, (zcpS (ab ((n + 13) % 14)) (nt, ns, n2, n3, n4, n5, n6, n7, n8)).1, (zcpS (ab ((n + 13) % 14)) (nt, ns, n2, n3, n4, n5, n6, n7, n8)).2.1, (zcpS (ab ((n + 13) % 14)) (nt, ns, n2, n3, n4, n5, n6, n7, n8)).2.2.1, (zcpS (ab ((n + 13) % 14)) (nt, ns, n2, n3, n4, n5, n6, n7, n8)).2.2.2.1, (zcpS (ab ((n + 13) % 14)) (nt, ns, n2, n3, n4, n5, n6, n7, n8)).2.2.2.2.1, (zcpS (ab ((n + 13) % 14)) (nt, ns, n2, n3, n4, n5, n6, n7, n8)).2.2.2.2.2.1, (zcpS (ab ((n + 13) % 14)) (nt, ns, n2, n3, n4, n5, n6, n7, n8)).2.2.2.2.2.2.1, (zcpS (ab ((n + 13) % 14)) (nt, ns, n2, n3, n4, n5, n6, n7, n8)).2.2.2.2.2.2.2.1, (zcpS (ab ((n + 13) % 14)) (nt, ns, n2, n3, n4, n5, n6, n7, n8)).2.2.2.2.2.2.2.2, tt, ts, t2, t3, t4, t5, t6, t7, t8, ws, w1, w2, w3, pt, b1, b2, b3, b4, b5, ab, ((n + 13) % 14), y, sk, su, sr, so, sh, S, sd, 0, mp, rc, rh, rg, rf, rd, (zC16 (fun j => bb (16 * y + j)) pg 16), mq, bb, kk, wm, wo, q1, q2, q3, q4, wh, wu, i1, i2, f1, f2, vl, rfl, ⟨⟨jT, jH, jF, Nat.mod_lt _ (by decide), by omega, jS⟩, jg, ju2, jb2, jk, jr, jo⟩⟩
set_option maxHeartbeats 8000000 in
theorem lw_makes {nm : String} {d N i mc ms kc ks : Nat} {xs : Nat → Int32} {tb : Nat → Int32} {T : Nat} {gs : Nat → Int32} {gk : Nat → Int32} {gf : Nat → Int32} {ga : Nat → Int32} {H : Nat} {F : Nat} {gc : Int32} {nt : Nat → Int32} {ns : Nat → Int32} {n2 : Int32} {n3 : Int32} {n4 : Int32} {n5 : Int32} {n6 : Int32} {n7 : Int32} {n8 : Int32} {tt : Nat → Int32} {ts : Nat → Int32} {t2 : Int32} {t3 : Int32} {t4 : Int32} {t5 : Int32} {t6 : Int32} {t7 : Int32} {t8 : Int32} {ws : Nat → Int32} {w1 : Int32} {w2 : Int32} {w3 : Int32} {pt : Nat → Int32} {b1 : Int32} {b2 : Int32} {b3 : Int32} {b4 : Int32} {b5 : Int32} {ab : Nat → zStt} {n : Nat} {z : Nat} {sk : Nat → zStt} {su : Nat → Int32} {sr : Nat → Int32} {so : Nat → Int32} {sh : Nat → Int32} {S : Nat} {sd : Int64} {th : Int32} {mp : Int32} {rc : Int32} {rh : Int32} {rg : Nat → Int32} {rf : Int32} {rd : Nat → Int32} {pg : Nat → Int32} {mq : Nat → Int32} {bb : Nat → Int32} {kk : Nat → Int32} {wm : Int32} {wo : Int32} {q1 : Int32} {q2 : Int32} {q3 : Int32} {q4 : Int32} {wh : Int32} {wu : Int32} {i1 : Int32} {i2 : Int32} {f1 : Int32} {f2 : Int32} {vl : Nat → Int32} (hN : N ≤ 320) (hi : i + 5 ≤ N) (hc : kc ≤ mc) (hs : ks ≤ ms) (ih : ∀ sg', zI sg' → zX RL cL_law 4 (some .boolean) nm (some (N, xs)) (d + 6) 0 mc ms kc ks (fun r _ => r = some (.int 1)) 934 [some (.ref 1001), some (.ref 0), some (.ref 75), some (.int (nI i))] [] sg') (hJ : zJ T gs gk gf H F (nt, ns, n2, n3, n4, n5, n6, n7, n8) ab n z sk su sr so S pg bb kk) : zX RL cL_law 4 (some .boolean) nm (some (N, xs)) (d + 6) 0 mc ms kc ks (fun r _ => r = some (.int 1)) 433 [some (.ref 1001), some (.ref 0), some (.ref 75), some (.int (nI i))] [] (encC (tb, (nI T)) (gs, gk, gf, ga, (nI H), (nI F), gc) (nt, ns, n2, n3, n4, n5, n6, n7, n8) (tt, ts, t2, t3, t4, t5, t6, t7, t8) (ws, w1, w2, w3) (pt, b1, b2, b3, b4, b5) (ab, (nI n), (nI z)) (sk, su) (sr, so, sh, (nI S)) sd ++ encM th (tb, (nI T), mp) (gc, (nI H), gs, gk, (nI F), gf) (rc, rh, rg, rf, rd) pg mq (bb, (nI z)) (kk, su) ((nI S), sr, so, sh) sd (wm, wo) (q1, q2, q3, q4) (wh, wu) (i1, i2) (f1, f2) vl) := by
  obtain ⟨⟨jT, jH, jF, jn, jz, jS⟩, jg, js, jb, jk, jr, jo⟩ := hJ
  by_cases g : (xs (i + 1)) < 0
  · refine zx_aload_n (pc := 433) dL_law_433 rfl rfl ?_
    refine zx_aload_n (pc := 434) dL_law_434 rfl rfl ?_
    refine zx_iload_n (pc := 435) dL_law_435 rfl rfl ?_
    refine zx_iconst (pc := 436) (v := 1) dL_law_436 (by decide) ?_
    refine zx_iadd (pc := 437) dL_law_437 ?_
    refine zx_sld (pc := 438) rfl (zs1 hi hN) dL_law_438 ?_
    refine zx_aload_n (pc := 439) dL_law_439 rfl rfl ?_
    refine zx_iload_n (pc := 440) dL_law_440 rfl rfl ?_
    refine zx_iconst (pc := 441) (v := 2) dL_law_441 (by decide) ?_
    refine zx_iadd (pc := 442) dL_law_442 ?_
    refine zx_sld (pc := 443) rfl (zs2 hi hN) dL_law_443 ?_
    refine zx_fV1 (pc := 444) (q_makes_neg (d := d + 1) g) cl_L_68 p0 rfl dL_law_444 rfl rfl (by omega) (Nat.le_of_ble_eq_true rfl) (by assumption) (by assumption) ?_
    refine zx_aload_n (pc := 447) dL_law_447 rfl rfl ?_
    refine zx_aload_n (pc := 448) dL_law_448 rfl rfl ?_
    refine zx_iload_n (pc := 449) dL_law_449 rfl rfl ?_
    refine zx_iconst (pc := 450) (v := 1) dL_law_450 (by decide) ?_
    refine zx_iadd (pc := 451) dL_law_451 ?_
    refine zx_sld (pc := 452) rfl (zs1 hi hN) dL_law_452 ?_
    refine zx_aload_n (pc := 453) dL_law_453 rfl rfl ?_
    refine zx_iload_n (pc := 454) dL_law_454 rfl rfl ?_
    refine zx_iconst (pc := 455) (v := 2) dL_law_455 (by decide) ?_
    refine zx_iadd (pc := 456) dL_law_456 ?_
    refine zx_sld (pc := 457) rfl (zs2 hi hN) dL_law_457 ?_
    refine zx_fV1 (pc := 458) (m_makes_n (d := d + 3) zLen jH (zmkn g)) cl_L_71 (p75 zLen) rfl dL_law_458 rfl rfl (by omega) (Nat.le_of_ble_eq_true rfl) (by assumption) (by assumption) ?_
    refine zx_icmp_eq (pc := 461) (tgt := 934) dL_law_461 (by decide) (fun h461 => ?_) (fun h461 => absurd rfl h461)
    exact ih _ ⟨tb, T, gs, gk, gf, ga, H, F, gc, nt, ns, n2, n3, n4, n5, n6, n7, n8, tt, ts, t2, t3, t4, t5, t6, t7, t8, ws, w1, w2, w3, pt, b1, b2, b3, b4, b5, ab, n, z, sk, su, sr, so, sh, S, sd, 0, mp, rc, rh, rg, rf, rd, pg, (zC16 pg mq 16), bb, kk, wm, wo, q1, q2, q3, q4, wh, wu, i1, i2, f1, f2, vl, rfl, ⟨⟨jT, jH, jF, jn, jz, jS⟩, jg, js, jb, jk, jr, jo⟩⟩
  · obtain ⟨R, hR, eR⟩ := nI_of g
    by_cases gR : R < 10 ^ H
    · by_cases g0 : (zRf (nI F) H pt R).2 = 0
      · refine zx_aload_n (pc := 433) dL_law_433 rfl rfl ?_
        refine zx_aload_n (pc := 434) dL_law_434 rfl rfl ?_
        refine zx_iload_n (pc := 435) dL_law_435 rfl rfl ?_
        refine zx_iconst (pc := 436) (v := 1) dL_law_436 (by decide) ?_
        refine zx_iadd (pc := 437) dL_law_437 ?_
        refine zx_sld (pc := 438) rfl (zs1 hi hN) dL_law_438 ?_
        refine zx_aload_n (pc := 439) dL_law_439 rfl rfl ?_
        refine zx_iload_n (pc := 440) dL_law_440 rfl rfl ?_
        refine zx_iconst (pc := 441) (v := 2) dL_law_441 (by decide) ?_
        refine zx_iadd (pc := 442) dL_law_442 ?_
        refine zx_sld (pc := 443) rfl (zs2 hi hN) dL_law_443 ?_
        rw [eR]
        refine zx_fV1 (pc := 444) (q_makes_fig (d := d + 1) jH hR g0) cl_L_68 p0 rfl dL_law_444 rfl rfl (by omega) (Nat.le_of_ble_eq_true rfl) (by assumption) (by assumption) ?_
        refine zx_aload_n (pc := 447) dL_law_447 rfl rfl ?_
        refine zx_aload_n (pc := 448) dL_law_448 rfl rfl ?_
        refine zx_iload_n (pc := 449) dL_law_449 rfl rfl ?_
        refine zx_iconst (pc := 450) (v := 1) dL_law_450 (by decide) ?_
        refine zx_iadd (pc := 451) dL_law_451 ?_
        refine zx_sld (pc := 452) rfl (zs1 hi hN) dL_law_452 ?_
        refine zx_aload_n (pc := 453) dL_law_453 rfl rfl ?_
        refine zx_iload_n (pc := 454) dL_law_454 rfl rfl ?_
        refine zx_iconst (pc := 455) (v := 2) dL_law_455 (by decide) ?_
        refine zx_iadd (pc := 456) dL_law_456 ?_
        refine zx_sld (pc := 457) rfl (zs2 hi hN) dL_law_457 ?_
        rw [eR]
        refine zx_fV1 (pc := 458) (m_makes_f (d := d + 3) zLen jH jF gR ((zRf_L jF gR).1.mp g0)) cl_L_71 (p75 zLen) rfl dL_law_458 rfl rfl (by omega) (Nat.le_of_ble_eq_true rfl) (by assumption) (by assumption) ?_
        refine zx_icmp_eq (pc := 461) (tgt := 934) dL_law_461 (by decide) (fun h461 => ?_) (fun h461 => absurd rfl h461)
        exact ih _ ⟨tb, T, gs, gk, gf, ga, H, F, gc, nt, ns, n2, n3, n4, n5, n6, n7, n8, tt, ts, t2, t3, t4, t5, t6, t7, t8, ws, w1, w2, w3, (zRf (nI F) H pt R).1, b1, b2, b3, b4, b5, ab, n, z, sk, su, sr, so, sh, S, sd, 0, mp, rc, rh, rg, rf, rd, pg, (zLp F H R H (zC16 pg mq 16)).1, bb, kk, wm, wo, q1, q2, q3, q4, wh, wu, i1, i2, f1, f2, vl, rfl, ⟨⟨jT, jH, jF, jn, jz, jS⟩, jg, js, jb, jk, jr, jo⟩⟩
      · have g1 : ¬ (zLp F H R H (zC16 pg mq 16)).2 = 0 := fun q => g0 ((zRf_L jF gR).1.mpr q)
        by_cases g2 : zIn (xs (i + 2)) 0 1 = 0
        · refine zx_aload_n (pc := 433) dL_law_433 rfl rfl ?_
          refine zx_aload_n (pc := 434) dL_law_434 rfl rfl ?_
          refine zx_iload_n (pc := 435) dL_law_435 rfl rfl ?_
          refine zx_iconst (pc := 436) (v := 1) dL_law_436 (by decide) ?_
          refine zx_iadd (pc := 437) dL_law_437 ?_
          refine zx_sld (pc := 438) rfl (zs1 hi hN) dL_law_438 ?_
          refine zx_aload_n (pc := 439) dL_law_439 rfl rfl ?_
          refine zx_iload_n (pc := 440) dL_law_440 rfl rfl ?_
          refine zx_iconst (pc := 441) (v := 2) dL_law_441 (by decide) ?_
          refine zx_iadd (pc := 442) dL_law_442 ?_
          refine zx_sld (pc := 443) rfl (zs2 hi hN) dL_law_443 ?_
          rw [eR]
          refine zx_fV1 (pc := 444) (q_makes_bad (d := d + 1) jH hR g0 (zIn_bad g2)) cl_L_68 p0 rfl dL_law_444 rfl rfl (by omega) (Nat.le_of_ble_eq_true rfl) (by assumption) (by assumption) ?_
          refine zx_aload_n (pc := 447) dL_law_447 rfl rfl ?_
          refine zx_aload_n (pc := 448) dL_law_448 rfl rfl ?_
          refine zx_iload_n (pc := 449) dL_law_449 rfl rfl ?_
          refine zx_iconst (pc := 450) (v := 1) dL_law_450 (by decide) ?_
          refine zx_iadd (pc := 451) dL_law_451 ?_
          refine zx_sld (pc := 452) rfl (zs1 hi hN) dL_law_452 ?_
          refine zx_aload_n (pc := 453) dL_law_453 rfl rfl ?_
          refine zx_iload_n (pc := 454) dL_law_454 rfl rfl ?_
          refine zx_iconst (pc := 455) (v := 2) dL_law_455 (by decide) ?_
          refine zx_iadd (pc := 456) dL_law_456 ?_
          refine zx_sld (pc := 457) rfl (zs2 hi hN) dL_law_457 ?_
          rw [eR]
          refine zx_fV1 (pc := 458) (m_makes_bad (d := d + 3) zLen jH jF gR g1 g2) cl_L_71 (p75 zLen) rfl dL_law_458 rfl rfl (by omega) (Nat.le_of_ble_eq_true rfl) (by assumption) (by assumption) ?_
          refine zx_icmp_eq (pc := 461) (tgt := 934) dL_law_461 (by decide) (fun h461 => ?_) (fun h461 => absurd rfl h461)
          exact ih _ ⟨tb, T, gs, gk, gf, ga, H, F, gc, nt, ns, n2, n3, n4, n5, n6, n7, n8, tt, ts, t2, t3, t4, t5, t6, t7, t8, ws, w1, w2, w3, (zRf (nI F) H pt R).1, b1, b2, b3, b4, b5, ab, n, z, sk, su, sr, so, sh, S, sd, 0, mp, rc, rh, rg, rf, rd, pg, (zLp F H R H (zC16 pg mq 16)).1, bb, kk, wm, wo, q1, q2, q3, q4, wh, wu, i1, i2, f1, f2, vl, rfl, ⟨⟨jT, jH, jF, jn, jz, jS⟩, jg, js, jb, jk, jr, jo⟩⟩
        · have je : (zMd gs gk gf F H (zLp F H R H (zC16 pg mq 16)).1).2 = (zDay gs gk gf (nI F) H (zRf (nI F) H pt R).1 (va_cpy ns ws 0 0 3) n2).2 := zMk_e (s := (nt, ns, n2, n3, n4, n5, n6, n7, n8)) jH jF js gR g0
          refine zx_aload_n (pc := 433) dL_law_433 rfl rfl ?_
          refine zx_aload_n (pc := 434) dL_law_434 rfl rfl ?_
          refine zx_iload_n (pc := 435) dL_law_435 rfl rfl ?_
          refine zx_iconst (pc := 436) (v := 1) dL_law_436 (by decide) ?_
          refine zx_iadd (pc := 437) dL_law_437 ?_
          refine zx_sld (pc := 438) rfl (zs1 hi hN) dL_law_438 ?_
          refine zx_aload_n (pc := 439) dL_law_439 rfl rfl ?_
          refine zx_iload_n (pc := 440) dL_law_440 rfl rfl ?_
          refine zx_iconst (pc := 441) (v := 2) dL_law_441 (by decide) ?_
          refine zx_iadd (pc := 442) dL_law_442 ?_
          refine zx_sld (pc := 443) rfl (zs2 hi hN) dL_law_443 ?_
          rw [eR]
          refine zx_fV1 (pc := 444) (q_makes_ok (d := d + 1) jH jF hR g0 (zIn_ok g2).1 (zIn_ok g2).2) cl_L_68 p0 rfl dL_law_444 rfl rfl (by omega) (Nat.le_of_ble_eq_true rfl) (by assumption) (by assumption) ?_
          refine zx_aload_n (pc := 447) dL_law_447 rfl rfl ?_
          refine zx_aload_n (pc := 448) dL_law_448 rfl rfl ?_
          refine zx_iload_n (pc := 449) dL_law_449 rfl rfl ?_
          refine zx_iconst (pc := 450) (v := 1) dL_law_450 (by decide) ?_
          refine zx_iadd (pc := 451) dL_law_451 ?_
          refine zx_sld (pc := 452) rfl (zs1 hi hN) dL_law_452 ?_
          refine zx_aload_n (pc := 453) dL_law_453 rfl rfl ?_
          refine zx_iload_n (pc := 454) dL_law_454 rfl rfl ?_
          refine zx_iconst (pc := 455) (v := 2) dL_law_455 (by decide) ?_
          refine zx_iadd (pc := 456) dL_law_456 ?_
          refine zx_sld (pc := 457) rfl (zs2 hi hN) dL_law_457 ?_
          rw [eR]
          refine zx_fV1 (pc := 458) (m_makes_ok (d := d + 3) zLen jH jF gR g1 g2) cl_L_71 (p75 zLen) rfl dL_law_458 rfl rfl (by omega) (Nat.le_of_ble_eq_true rfl) (by assumption) (by assumption) ?_
          refine zx_icmp_eq (pc := 461) (tgt := 934) dL_law_461 (by decide) (fun h461 => ?_) (fun h461 => absurd (by rw [je]) h461)
          exact ih _ ⟨tb, T, gs, gk, gf, ga, H, F, gc, nt, ns, n2, n3, n4, n5, n6, n7, n8, tt, ts, t2, t3, t4, t5, t6, t7, t8, (zDay gs gk gf (nI F) H (zRf (nI F) H pt R).1 (va_cpy ns ws 0 0 3) n2).1, (zDay gs gk gf (nI F) H (zRf (nI F) H pt R).1 (va_cpy ns ws 0 0 3) n2).2.1, (zDay gs gk gf (nI F) H (zRf (nI F) H pt R).1 (va_cpy ns ws 0 0 3) n2).2.2.1, (zDay gs gk gf (nI F) H (zRf (nI F) H pt R).1 (va_cpy ns ws 0 0 3) n2).2.2.2, (zRf (nI F) H pt R).1, b1, b2, b3, b4, b5, ab, n, z, sk, su, sr, so, sh, S, sd, 0, mp, rc, rh, rg, rf, rd, pg, (zPf (zLp F H R H (zC16 pg mq 16)).1 (zMd gs gk gf F H (zLp F H R H (zC16 pg mq 16)).1)), bb, kk, (zMd gs gk gf F H (zLp F H R H (zC16 pg mq 16)).1).2.2.1, (zMd gs gk gf F H (zLp F H R H (zC16 pg mq 16)).1).2.2.2, q1, q2, q3, q4, wh, wu, i1, i2, f1, f2, vl, rfl, ⟨⟨jT, jH, jF, jn, jz, jS⟩, jg, js, jb, jk, jr, jo⟩⟩
    · refine zx_aload_n (pc := 433) dL_law_433 rfl rfl ?_
      refine zx_aload_n (pc := 434) dL_law_434 rfl rfl ?_
      refine zx_iload_n (pc := 435) dL_law_435 rfl rfl ?_
      refine zx_iconst (pc := 436) (v := 1) dL_law_436 (by decide) ?_
      refine zx_iadd (pc := 437) dL_law_437 ?_
      refine zx_sld (pc := 438) rfl (zs1 hi hN) dL_law_438 ?_
      refine zx_aload_n (pc := 439) dL_law_439 rfl rfl ?_
      refine zx_iload_n (pc := 440) dL_law_440 rfl rfl ?_
      refine zx_iconst (pc := 441) (v := 2) dL_law_441 (by decide) ?_
      refine zx_iadd (pc := 442) dL_law_442 ?_
      refine zx_sld (pc := 443) rfl (zs2 hi hN) dL_law_443 ?_
      rw [eR]
      refine zx_fV1 (pc := 444) (q_makes_fig (d := d + 1) jH hR (zRf_big jF gR)) cl_L_68 p0 rfl dL_law_444 rfl rfl (by omega) (Nat.le_of_ble_eq_true rfl) (by assumption) (by assumption) ?_
      refine zx_aload_n (pc := 447) dL_law_447 rfl rfl ?_
      refine zx_aload_n (pc := 448) dL_law_448 rfl rfl ?_
      refine zx_iload_n (pc := 449) dL_law_449 rfl rfl ?_
      refine zx_iconst (pc := 450) (v := 1) dL_law_450 (by decide) ?_
      refine zx_iadd (pc := 451) dL_law_451 ?_
      refine zx_sld (pc := 452) rfl (zs1 hi hN) dL_law_452 ?_
      refine zx_aload_n (pc := 453) dL_law_453 rfl rfl ?_
      refine zx_iload_n (pc := 454) dL_law_454 rfl rfl ?_
      refine zx_iconst (pc := 455) (v := 2) dL_law_455 (by decide) ?_
      refine zx_iadd (pc := 456) dL_law_456 ?_
      refine zx_sld (pc := 457) rfl (zs2 hi hN) dL_law_457 ?_
      rw [eR]
      refine zx_fV1 (pc := 458) (m_makes_n (d := d + 3) zLen jH (zmkb jH hR gR)) cl_L_71 (p75 zLen) rfl dL_law_458 rfl rfl (by omega) (Nat.le_of_ble_eq_true rfl) (by assumption) (by assumption) ?_
      refine zx_icmp_eq (pc := 461) (tgt := 934) dL_law_461 (by decide) (fun h461 => ?_) (fun h461 => absurd rfl h461)
      exact ih _ ⟨tb, T, gs, gk, gf, ga, H, F, gc, nt, ns, n2, n3, n4, n5, n6, n7, n8, tt, ts, t2, t3, t4, t5, t6, t7, t8, ws, w1, w2, w3, (zRf (nI F) H pt R).1, b1, b2, b3, b4, b5, ab, n, z, sk, su, sr, so, sh, S, sd, 0, mp, rc, rh, rg, rf, rd, pg, (zC16 pg mq 16), bb, kk, wm, wo, q1, q2, q3, q4, wh, wu, i1, i2, f1, f2, vl, rfl, ⟨⟨jT, jH, jF, jn, jz, jS⟩, jg, js, jb, jk, jr, jo⟩⟩
set_option maxHeartbeats 8000000 in
theorem lw_best {nm : String} {d N i mc ms kc ks : Nat} {xs : Nat → Int32} {tb : Nat → Int32} {T : Nat} {gs : Nat → Int32} {gk : Nat → Int32} {gf : Nat → Int32} {ga : Nat → Int32} {H : Nat} {F : Nat} {gc : Int32} {nt : Nat → Int32} {ns : Nat → Int32} {n2 : Int32} {n3 : Int32} {n4 : Int32} {n5 : Int32} {n6 : Int32} {n7 : Int32} {n8 : Int32} {tt : Nat → Int32} {ts : Nat → Int32} {t2 : Int32} {t3 : Int32} {t4 : Int32} {t5 : Int32} {t6 : Int32} {t7 : Int32} {t8 : Int32} {ws : Nat → Int32} {w1 : Int32} {w2 : Int32} {w3 : Int32} {pt : Nat → Int32} {b1 : Int32} {b2 : Int32} {b3 : Int32} {b4 : Int32} {b5 : Int32} {ab : Nat → zStt} {n : Nat} {z : Nat} {sk : Nat → zStt} {su : Nat → Int32} {sr : Nat → Int32} {so : Nat → Int32} {sh : Nat → Int32} {S : Nat} {sd : Int64} {th : Int32} {mp : Int32} {rc : Int32} {rh : Int32} {rg : Nat → Int32} {rf : Int32} {rd : Nat → Int32} {pg : Nat → Int32} {mq : Nat → Int32} {bb : Nat → Int32} {kk : Nat → Int32} {wm : Int32} {wo : Int32} {q1 : Int32} {q2 : Int32} {q3 : Int32} {q4 : Int32} {wh : Int32} {wu : Int32} {i1 : Int32} {i2 : Int32} {f1 : Int32} {f2 : Int32} {vl : Nat → Int32} (hN : N ≤ 320) (hi : i + 5 ≤ N) (hc : kc ≤ mc) (hs : ks ≤ ms) (ih : ∀ sg', zI sg' → zX RL cL_law 4 (some .boolean) nm (some (N, xs)) (d + 6) 0 mc ms kc ks (fun r _ => r = some (.int 1)) 934 [some (.ref 1001), some (.ref 0), some (.ref 75), some (.int (nI i))] [] sg') (hJ : zJ T gs gk gf H F (nt, ns, n2, n3, n4, n5, n6, n7, n8) ab n z sk su sr so S pg bb kk) : zX RL cL_law 4 (some .boolean) nm (some (N, xs)) (d + 6) 0 mc ms kc ks (fun r _ => r = some (.int 1)) 466 [some (.ref 1001), some (.ref 0), some (.ref 75), some (.int (nI i))] [] (encC (tb, (nI T)) (gs, gk, gf, ga, (nI H), (nI F), gc) (nt, ns, n2, n3, n4, n5, n6, n7, n8) (tt, ts, t2, t3, t4, t5, t6, t7, t8) (ws, w1, w2, w3) (pt, b1, b2, b3, b4, b5) (ab, (nI n), (nI z)) (sk, su) (sr, so, sh, (nI S)) sd ++ encM th (tb, (nI T), mp) (gc, (nI H), gs, gk, (nI F), gf) (rc, rh, rg, rf, rd) pg mq (bb, (nI z)) (kk, su) ((nI S), sr, so, sh) sd (wm, wo) (q1, q2, q3, q4) (wh, wu) (i1, i2) (f1, f2) vl) := by
  obtain ⟨⟨jT, jH, jF, jn, jz, jS⟩, jg, js, jb, jk, jr, jo⟩ := hJ
  by_cases g : zIn (xs (i + 1)) 0 1 = 0
  · refine zx_aload_n (pc := 466) dL_law_466 rfl rfl ?_
    refine zx_aload_n (pc := 467) dL_law_467 rfl rfl ?_
    refine zx_iload_n (pc := 468) dL_law_468 rfl rfl ?_
    refine zx_iconst (pc := 469) (v := 1) dL_law_469 (by decide) ?_
    refine zx_iadd (pc := 470) dL_law_470 ?_
    refine zx_sld (pc := 471) rfl (zs1 hi hN) dL_law_471 ?_
    refine zx_fV1 (pc := 472) (q_best_bad (d := d) (zIn_bad g)) cl_L_72 p0 rfl dL_law_472 rfl rfl (by omega) (Nat.le_of_ble_eq_true rfl) (by assumption) (by assumption) ?_
    refine zx_aload_n (pc := 475) dL_law_475 rfl rfl ?_
    refine zx_aload_n (pc := 476) dL_law_476 rfl rfl ?_
    refine zx_iload_n (pc := 477) dL_law_477 rfl rfl ?_
    refine zx_iconst (pc := 478) (v := 1) dL_law_478 (by decide) ?_
    refine zx_iadd (pc := 479) dL_law_479 ?_
    refine zx_sld (pc := 480) rfl (zs1 hi hN) dL_law_480 ?_
    refine zx_fV1 (pc := 481) (m_best_bad (d := d + 2) zLen g) cl_L_75 (p75 zLen) rfl dL_law_481 rfl rfl (by omega) (Nat.le_of_ble_eq_true rfl) (by assumption) (by assumption) ?_
    refine zx_icmp_eq (pc := 484) (tgt := 934) dL_law_484 (by decide) (fun h484 => ?_) (fun h484 => absurd rfl h484)
    exact ih _ ⟨tb, T, gs, gk, gf, ga, H, F, gc, nt, ns, n2, n3, n4, n5, n6, n7, n8, tt, ts, t2, t3, t4, t5, t6, t7, t8, ws, w1, w2, w3, pt, b1, b2, b3, b4, b5, ab, n, z, sk, su, sr, so, sh, S, sd, 0, mp, rc, rh, rg, rf, rd, pg, mq, bb, kk, wm, wo, q1, q2, q3, q4, wh, wu, i1, i2, f1, f2, vl, rfl, ⟨⟨jT, jH, jF, jn, jz, jS⟩, jg, js, jb, jk, jr, jo⟩⟩
  · have jW : zWr (zWa gs gk gf F H gc ns n2 ((zFil pt 0 5, -9, -9, -9, -9, 0), (ws, w1, w2, w3)) ((2 + F) ^ H)).1.2 (zFp gs gk gf F H gc pg mq (wm, wo) ((2 + F) ^ H)).2.1 := zWa_e (s := (nt, ns, n2, n3, n4, n5, n6, n7, n8)) jg jH jF js rfl rfl
    refine zx_aload_n (pc := 466) dL_law_466 rfl rfl ?_
    refine zx_aload_n (pc := 467) dL_law_467 rfl rfl ?_
    refine zx_iload_n (pc := 468) dL_law_468 rfl rfl ?_
    refine zx_iconst (pc := 469) (v := 1) dL_law_469 (by decide) ?_
    refine zx_iadd (pc := 470) dL_law_470 ?_
    refine zx_sld (pc := 471) rfl (zs1 hi hN) dL_law_471 ?_
    refine zx_fV1 (pc := 472) (q_best (d := d) jH jF (zIn_ok g).1 (zIn_ok g).2) cl_L_72 p0 rfl dL_law_472 rfl rfl (by omega) (Nat.le_of_ble_eq_true rfl) (by assumption) (by assumption) ?_
    refine zx_aload_n (pc := 475) dL_law_475 rfl rfl ?_
    refine zx_aload_n (pc := 476) dL_law_476 rfl rfl ?_
    refine zx_iload_n (pc := 477) dL_law_477 rfl rfl ?_
    refine zx_iconst (pc := 478) (v := 1) dL_law_478 (by decide) ?_
    refine zx_iadd (pc := 479) dL_law_479 ?_
    refine zx_sld (pc := 480) rfl (zs1 hi hN) dL_law_480 ?_
    refine zx_fV1 (pc := 481) (m_best (d := d + 2) zLen jH jF g) cl_L_75 (p75 zLen) rfl dL_law_481 rfl rfl (by omega) (Nat.le_of_ble_eq_true rfl) (by assumption) (by assumption) ?_
    refine zx_icmp_eq (pc := 484) (tgt := 934) dL_law_484 (by decide) (fun h484 => ?_) (fun h484 => absurd (zW1 jW) h484)
    exact ih _ ⟨tb, T, gs, gk, gf, ga, H, F, gc, nt, ns, n2, n3, n4, n5, n6, n7, n8, tt, ts, t2, t3, t4, t5, t6, t7, t8, (zWa gs gk gf F H gc ns n2 ((zFil pt 0 5, -9, -9, -9, -9, 0), (ws, w1, w2, w3)) ((2 + F) ^ H)).2.1, (zWa gs gk gf F H gc ns n2 ((zFil pt 0 5, -9, -9, -9, -9, 0), (ws, w1, w2, w3)) ((2 + F) ^ H)).2.2.1, (zWa gs gk gf F H gc ns n2 ((zFil pt 0 5, -9, -9, -9, -9, 0), (ws, w1, w2, w3)) ((2 + F) ^ H)).2.2.2.1, (zWa gs gk gf F H gc ns n2 ((zFil pt 0 5, -9, -9, -9, -9, 0), (ws, w1, w2, w3)) ((2 + F) ^ H)).2.2.2.2, (zWa gs gk gf F H gc ns n2 ((zFil pt 0 5, -9, -9, -9, -9, 0), (ws, w1, w2, w3)) ((2 + F) ^ H)).1.1, (zWa gs gk gf F H gc ns n2 ((zFil pt 0 5, -9, -9, -9, -9, 0), (ws, w1, w2, w3)) ((2 + F) ^ H)).1.2.1, (zWa gs gk gf F H gc ns n2 ((zFil pt 0 5, -9, -9, -9, -9, 0), (ws, w1, w2, w3)) ((2 + F) ^ H)).1.2.2.1, (zWa gs gk gf F H gc ns n2 ((zFil pt 0 5, -9, -9, -9, -9, 0), (ws, w1, w2, w3)) ((2 + F) ^ H)).1.2.2.2.1, (zWa gs gk gf F H gc ns n2 ((zFil pt 0 5, -9, -9, -9, -9, 0), (ws, w1, w2, w3)) ((2 + F) ^ H)).1.2.2.2.2.1, (zWa gs gk gf F H gc ns n2 ((zFil pt 0 5, -9, -9, -9, -9, 0), (ws, w1, w2, w3)) ((2 + F) ^ H)).1.2.2.2.2.2, ab, n, z, sk, su, sr, so, sh, S, sd, 0, mp, rc, rh, rg, rf, rd, pg, (zFp gs gk gf F H gc pg mq (wm, wo) ((2 + F) ^ H)).1, bb, kk, (zFp gs gk gf F H gc pg mq (wm, wo) ((2 + F) ^ H)).2.2.1, (zFp gs gk gf F H gc pg mq (wm, wo) ((2 + F) ^ H)).2.2.2, (zFp gs gk gf F H gc pg mq (wm, wo) ((2 + F) ^ H)).2.1.1, (zFp gs gk gf F H gc pg mq (wm, wo) ((2 + F) ^ H)).2.1.2.1, (zFp gs gk gf F H gc pg mq (wm, wo) ((2 + F) ^ H)).2.1.2.2.2.1, (zFp gs gk gf F H gc pg mq (wm, wo) ((2 + F) ^ H)).2.1.2.2.2.2, wh, wu, i1, i2, f1, f2, vl, rfl, ⟨⟨jT, jH, jF, jn, jz, jS⟩, jg, js, jb, jk, jr, jo⟩⟩
set_option maxHeartbeats 8000000 in
theorem lw_least {nm : String} {d N i mc ms kc ks : Nat} {xs : Nat → Int32} {tb : Nat → Int32} {T : Nat} {gs : Nat → Int32} {gk : Nat → Int32} {gf : Nat → Int32} {ga : Nat → Int32} {H : Nat} {F : Nat} {gc : Int32} {nt : Nat → Int32} {ns : Nat → Int32} {n2 : Int32} {n3 : Int32} {n4 : Int32} {n5 : Int32} {n6 : Int32} {n7 : Int32} {n8 : Int32} {tt : Nat → Int32} {ts : Nat → Int32} {t2 : Int32} {t3 : Int32} {t4 : Int32} {t5 : Int32} {t6 : Int32} {t7 : Int32} {t8 : Int32} {ws : Nat → Int32} {w1 : Int32} {w2 : Int32} {w3 : Int32} {pt : Nat → Int32} {b1 : Int32} {b2 : Int32} {b3 : Int32} {b4 : Int32} {b5 : Int32} {ab : Nat → zStt} {n : Nat} {z : Nat} {sk : Nat → zStt} {su : Nat → Int32} {sr : Nat → Int32} {so : Nat → Int32} {sh : Nat → Int32} {S : Nat} {sd : Int64} {th : Int32} {mp : Int32} {rc : Int32} {rh : Int32} {rg : Nat → Int32} {rf : Int32} {rd : Nat → Int32} {pg : Nat → Int32} {mq : Nat → Int32} {bb : Nat → Int32} {kk : Nat → Int32} {wm : Int32} {wo : Int32} {q1 : Int32} {q2 : Int32} {q3 : Int32} {q4 : Int32} {wh : Int32} {wu : Int32} {i1 : Int32} {i2 : Int32} {f1 : Int32} {f2 : Int32} {vl : Nat → Int32} (hN : N ≤ 320) (hi : i + 5 ≤ N) (hc : kc ≤ mc) (hs : ks ≤ ms) (ih : ∀ sg', zI sg' → zX RL cL_law 4 (some .boolean) nm (some (N, xs)) (d + 6) 0 mc ms kc ks (fun r _ => r = some (.int 1)) 934 [some (.ref 1001), some (.ref 0), some (.ref 75), some (.int (nI i))] [] sg') (hJ : zJ T gs gk gf H F (nt, ns, n2, n3, n4, n5, n6, n7, n8) ab n z sk su sr so S pg bb kk) : zX RL cL_law 4 (some .boolean) nm (some (N, xs)) (d + 6) 0 mc ms kc ks (fun r _ => r = some (.int 1)) 489 [some (.ref 1001), some (.ref 0), some (.ref 75), some (.int (nI i))] [] (encC (tb, (nI T)) (gs, gk, gf, ga, (nI H), (nI F), gc) (nt, ns, n2, n3, n4, n5, n6, n7, n8) (tt, ts, t2, t3, t4, t5, t6, t7, t8) (ws, w1, w2, w3) (pt, b1, b2, b3, b4, b5) (ab, (nI n), (nI z)) (sk, su) (sr, so, sh, (nI S)) sd ++ encM th (tb, (nI T), mp) (gc, (nI H), gs, gk, (nI F), gf) (rc, rh, rg, rf, rd) pg mq (bb, (nI z)) (kk, su) ((nI S), sr, so, sh) sd (wm, wo) (q1, q2, q3, q4) (wh, wu) (i1, i2) (f1, f2) vl) := by
  obtain ⟨⟨jT, jH, jF, jn, jz, jS⟩, jg, js, jb, jk, jr, jo⟩ := hJ
  have jW : zWr (zWa gs gk gf F H gc ns n2 ((zFil pt 0 5, -9, -9, -9, -9, 0), (ws, w1, w2, w3)) ((2 + F) ^ H)).1.2 (zFp gs gk gf F H gc pg mq (wm, wo) ((2 + F) ^ H)).2.1 := zWa_e (s := (nt, ns, n2, n3, n4, n5, n6, n7, n8)) jg jH jF js rfl rfl
  refine zx_aload_n (pc := 489) dL_law_489 rfl rfl ?_
  refine zx_fV1 (pc := 490) (q_least (d := d) jH jF) cl_L_76 p0 rfl dL_law_490 rfl rfl (by omega) (Nat.le_of_ble_eq_true rfl) (by assumption) (by assumption) ?_
  refine zx_aload_n (pc := 493) dL_law_493 rfl rfl ?_
  refine zx_fV1 (pc := 494) (m_least (d := d + 2) zLen jH jF) cl_L_79 (p75 zLen) rfl dL_law_494 rfl rfl (by omega) (Nat.le_of_ble_eq_true rfl) (by assumption) (by assumption) ?_
  refine zx_icmp_eq (pc := 497) (tgt := 934) dL_law_497 (by decide) (fun h497 => ?_) (fun h497 => absurd (zW2 jW) h497)
  exact ih _ ⟨tb, T, gs, gk, gf, ga, H, F, gc, nt, ns, n2, n3, n4, n5, n6, n7, n8, tt, ts, t2, t3, t4, t5, t6, t7, t8, (zWa gs gk gf F H gc ns n2 ((zFil pt 0 5, -9, -9, -9, -9, 0), (ws, w1, w2, w3)) ((2 + F) ^ H)).2.1, (zWa gs gk gf F H gc ns n2 ((zFil pt 0 5, -9, -9, -9, -9, 0), (ws, w1, w2, w3)) ((2 + F) ^ H)).2.2.1, (zWa gs gk gf F H gc ns n2 ((zFil pt 0 5, -9, -9, -9, -9, 0), (ws, w1, w2, w3)) ((2 + F) ^ H)).2.2.2.1, (zWa gs gk gf F H gc ns n2 ((zFil pt 0 5, -9, -9, -9, -9, 0), (ws, w1, w2, w3)) ((2 + F) ^ H)).2.2.2.2, (zWa gs gk gf F H gc ns n2 ((zFil pt 0 5, -9, -9, -9, -9, 0), (ws, w1, w2, w3)) ((2 + F) ^ H)).1.1, (zWa gs gk gf F H gc ns n2 ((zFil pt 0 5, -9, -9, -9, -9, 0), (ws, w1, w2, w3)) ((2 + F) ^ H)).1.2.1, (zWa gs gk gf F H gc ns n2 ((zFil pt 0 5, -9, -9, -9, -9, 0), (ws, w1, w2, w3)) ((2 + F) ^ H)).1.2.2.1, (zWa gs gk gf F H gc ns n2 ((zFil pt 0 5, -9, -9, -9, -9, 0), (ws, w1, w2, w3)) ((2 + F) ^ H)).1.2.2.2.1, (zWa gs gk gf F H gc ns n2 ((zFil pt 0 5, -9, -9, -9, -9, 0), (ws, w1, w2, w3)) ((2 + F) ^ H)).1.2.2.2.2.1, (zWa gs gk gf F H gc ns n2 ((zFil pt 0 5, -9, -9, -9, -9, 0), (ws, w1, w2, w3)) ((2 + F) ^ H)).1.2.2.2.2.2, ab, n, z, sk, su, sr, so, sh, S, sd, 0, mp, rc, rh, rg, rf, rd, pg, (zFp gs gk gf F H gc pg mq (wm, wo) ((2 + F) ^ H)).1, bb, kk, (zFp gs gk gf F H gc pg mq (wm, wo) ((2 + F) ^ H)).2.2.1, (zFp gs gk gf F H gc pg mq (wm, wo) ((2 + F) ^ H)).2.2.2, (zFp gs gk gf F H gc pg mq (wm, wo) ((2 + F) ^ H)).2.1.1, (zFp gs gk gf F H gc pg mq (wm, wo) ((2 + F) ^ H)).2.1.2.1, (zFp gs gk gf F H gc pg mq (wm, wo) ((2 + F) ^ H)).2.1.2.2.2.1, (zFp gs gk gf F H gc pg mq (wm, wo) ((2 + F) ^ H)).2.1.2.2.2.2, wh, wu, i1, i2, f1, f2, vl, rfl, ⟨⟨jT, jH, jF, jn, jz, jS⟩, jg, js, jb, jk, jr, jo⟩⟩
set_option maxHeartbeats 8000000 in
theorem lw_ask {nm : String} {d N i mc ms kc ks : Nat} {xs : Nat → Int32} {tb : Nat → Int32} {T : Nat} {gs : Nat → Int32} {gk : Nat → Int32} {gf : Nat → Int32} {ga : Nat → Int32} {H : Nat} {F : Nat} {gc : Int32} {nt : Nat → Int32} {ns : Nat → Int32} {n2 : Int32} {n3 : Int32} {n4 : Int32} {n5 : Int32} {n6 : Int32} {n7 : Int32} {n8 : Int32} {tt : Nat → Int32} {ts : Nat → Int32} {t2 : Int32} {t3 : Int32} {t4 : Int32} {t5 : Int32} {t6 : Int32} {t7 : Int32} {t8 : Int32} {ws : Nat → Int32} {w1 : Int32} {w2 : Int32} {w3 : Int32} {pt : Nat → Int32} {b1 : Int32} {b2 : Int32} {b3 : Int32} {b4 : Int32} {b5 : Int32} {ab : Nat → zStt} {n : Nat} {z : Nat} {sk : Nat → zStt} {su : Nat → Int32} {sr : Nat → Int32} {so : Nat → Int32} {sh : Nat → Int32} {S : Nat} {sd : Int64} {th : Int32} {mp : Int32} {rc : Int32} {rh : Int32} {rg : Nat → Int32} {rf : Int32} {rd : Nat → Int32} {pg : Nat → Int32} {mq : Nat → Int32} {bb : Nat → Int32} {kk : Nat → Int32} {wm : Int32} {wo : Int32} {q1 : Int32} {q2 : Int32} {q3 : Int32} {q4 : Int32} {wh : Int32} {wu : Int32} {i1 : Int32} {i2 : Int32} {f1 : Int32} {f2 : Int32} {vl : Nat → Int32} (hN : N ≤ 320) (hi : i + 5 ≤ N) (hc : kc ≤ mc) (hs : ks ≤ ms) (ih : ∀ sg', zI sg' → zX RL cL_law 4 (some .boolean) nm (some (N, xs)) (d + 6) 0 mc ms kc ks (fun r _ => r = some (.int 1)) 934 [some (.ref 1001), some (.ref 0), some (.ref 75), some (.int (nI i))] [] sg') (hJ : zJ T gs gk gf H F (nt, ns, n2, n3, n4, n5, n6, n7, n8) ab n z sk su sr so S pg bb kk) : zX RL cL_law 4 (some .boolean) nm (some (N, xs)) (d + 6) 0 mc ms kc ks (fun r _ => r = some (.int 1)) 502 [some (.ref 1001), some (.ref 0), some (.ref 75), some (.int (nI i))] [] (encC (tb, (nI T)) (gs, gk, gf, ga, (nI H), (nI F), gc) (nt, ns, n2, n3, n4, n5, n6, n7, n8) (tt, ts, t2, t3, t4, t5, t6, t7, t8) (ws, w1, w2, w3) (pt, b1, b2, b3, b4, b5) (ab, (nI n), (nI z)) (sk, su) (sr, so, sh, (nI S)) sd ++ encM th (tb, (nI T), mp) (gc, (nI H), gs, gk, (nI F), gf) (rc, rh, rg, rf, rd) pg mq (bb, (nI z)) (kk, su) ((nI S), sr, so, sh) sd (wm, wo) (q1, q2, q3, q4) (wh, wu) (i1, i2) (f1, f2) vl) := by
  obtain ⟨⟨jT, jH, jF, jn, jz, jS⟩, jg, js, jb, jk, jr, jo⟩ := hJ
  have jW : zWr (zWa gs gk gf F H gc ns n2 ((zFil pt 0 5, -9, -9, -9, -9, 0), (ws, w1, w2, w3)) ((2 + F) ^ H)).1.2 (zFp gs gk gf F H gc pg mq (wm, wo) ((2 + F) ^ H)).2.1 := zWa_e (s := (nt, ns, n2, n3, n4, n5, n6, n7, n8)) jg jH jF js rfl rfl
  refine zx_aload_n (pc := 502) dL_law_502 rfl rfl ?_
  refine zx_fV1 (pc := 503) (q_ask (d := d) jH jF) cl_L_80 p0 rfl dL_law_503 rfl rfl (by omega) (Nat.le_of_ble_eq_true rfl) (by assumption) (by assumption) ?_
  refine zx_aload_n (pc := 506) dL_law_506 rfl rfl ?_
  refine zx_fV1 (pc := 507) (m_ask (d := d + 2) zLen jH jF) cl_L_83 (p75 zLen) rfl dL_law_507 rfl rfl (by omega) (Nat.le_of_ble_eq_true rfl) (by assumption) (by assumption) ?_
  refine zx_icmp_eq (pc := 510) (tgt := 934) dL_law_510 (by decide) (fun h510 => ?_) (fun h510 => absurd (zW3 jW) h510)
  exact ih _ ⟨tb, T, gs, gk, gf, ga, H, F, gc, nt, ns, n2, n3, n4, n5, n6, n7, n8, tt, ts, t2, t3, t4, t5, t6, t7, t8, (zWa gs gk gf F H gc ns n2 ((zFil pt 0 5, -9, -9, -9, -9, 0), (ws, w1, w2, w3)) ((2 + F) ^ H)).2.1, (zWa gs gk gf F H gc ns n2 ((zFil pt 0 5, -9, -9, -9, -9, 0), (ws, w1, w2, w3)) ((2 + F) ^ H)).2.2.1, (zWa gs gk gf F H gc ns n2 ((zFil pt 0 5, -9, -9, -9, -9, 0), (ws, w1, w2, w3)) ((2 + F) ^ H)).2.2.2.1, (zWa gs gk gf F H gc ns n2 ((zFil pt 0 5, -9, -9, -9, -9, 0), (ws, w1, w2, w3)) ((2 + F) ^ H)).2.2.2.2, (zWa gs gk gf F H gc ns n2 ((zFil pt 0 5, -9, -9, -9, -9, 0), (ws, w1, w2, w3)) ((2 + F) ^ H)).1.1, (zWa gs gk gf F H gc ns n2 ((zFil pt 0 5, -9, -9, -9, -9, 0), (ws, w1, w2, w3)) ((2 + F) ^ H)).1.2.1, (zWa gs gk gf F H gc ns n2 ((zFil pt 0 5, -9, -9, -9, -9, 0), (ws, w1, w2, w3)) ((2 + F) ^ H)).1.2.2.1, (zWa gs gk gf F H gc ns n2 ((zFil pt 0 5, -9, -9, -9, -9, 0), (ws, w1, w2, w3)) ((2 + F) ^ H)).1.2.2.2.1, (zWa gs gk gf F H gc ns n2 ((zFil pt 0 5, -9, -9, -9, -9, 0), (ws, w1, w2, w3)) ((2 + F) ^ H)).1.2.2.2.2.1, (zWa gs gk gf F H gc ns n2 ((zFil pt 0 5, -9, -9, -9, -9, 0), (ws, w1, w2, w3)) ((2 + F) ^ H)).1.2.2.2.2.2, ab, n, z, sk, su, sr, so, sh, S, sd, 0, mp, rc, rh, rg, rf, rd, pg, (zFp gs gk gf F H gc pg mq (wm, wo) ((2 + F) ^ H)).1, bb, kk, (zFp gs gk gf F H gc pg mq (wm, wo) ((2 + F) ^ H)).2.2.1, (zFp gs gk gf F H gc pg mq (wm, wo) ((2 + F) ^ H)).2.2.2, (zFp gs gk gf F H gc pg mq (wm, wo) ((2 + F) ^ H)).2.1.1, (zFp gs gk gf F H gc pg mq (wm, wo) ((2 + F) ^ H)).2.1.2.1, (zFp gs gk gf F H gc pg mq (wm, wo) ((2 + F) ^ H)).2.1.2.2.2.1, (zFp gs gk gf F H gc pg mq (wm, wo) ((2 + F) ^ H)).2.1.2.2.2.2, wh, wu, i1, i2, f1, f2, vl, rfl, ⟨⟨jT, jH, jF, jn, jz, jS⟩, jg, js, jb, jk, jr, jo⟩⟩
set_option maxHeartbeats 8000000 in
theorem lw_lasts {nm : String} {d N i mc ms kc ks : Nat} {xs : Nat → Int32} {tb : Nat → Int32} {T : Nat} {gs : Nat → Int32} {gk : Nat → Int32} {gf : Nat → Int32} {ga : Nat → Int32} {H : Nat} {F : Nat} {gc : Int32} {nt : Nat → Int32} {ns : Nat → Int32} {n2 : Int32} {n3 : Int32} {n4 : Int32} {n5 : Int32} {n6 : Int32} {n7 : Int32} {n8 : Int32} {tt : Nat → Int32} {ts : Nat → Int32} {t2 : Int32} {t3 : Int32} {t4 : Int32} {t5 : Int32} {t6 : Int32} {t7 : Int32} {t8 : Int32} {ws : Nat → Int32} {w1 : Int32} {w2 : Int32} {w3 : Int32} {pt : Nat → Int32} {b1 : Int32} {b2 : Int32} {b3 : Int32} {b4 : Int32} {b5 : Int32} {ab : Nat → zStt} {n : Nat} {z : Nat} {sk : Nat → zStt} {su : Nat → Int32} {sr : Nat → Int32} {so : Nat → Int32} {sh : Nat → Int32} {S : Nat} {sd : Int64} {th : Int32} {mp : Int32} {rc : Int32} {rh : Int32} {rg : Nat → Int32} {rf : Int32} {rd : Nat → Int32} {pg : Nat → Int32} {mq : Nat → Int32} {bb : Nat → Int32} {kk : Nat → Int32} {wm : Int32} {wo : Int32} {q1 : Int32} {q2 : Int32} {q3 : Int32} {q4 : Int32} {wh : Int32} {wu : Int32} {i1 : Int32} {i2 : Int32} {f1 : Int32} {f2 : Int32} {vl : Nat → Int32} (hN : N ≤ 320) (hi : i + 5 ≤ N) (hc : kc ≤ mc) (hs : ks ≤ ms) (ih : ∀ sg', zI sg' → zX RL cL_law 4 (some .boolean) nm (some (N, xs)) (d + 6) 0 mc ms kc ks (fun r _ => r = some (.int 1)) 934 [some (.ref 1001), some (.ref 0), some (.ref 75), some (.int (nI i))] [] sg') (hJ : zJ T gs gk gf H F (nt, ns, n2, n3, n4, n5, n6, n7, n8) ab n z sk su sr so S pg bb kk) : zX RL cL_law 4 (some .boolean) nm (some (N, xs)) (d + 6) 0 mc ms kc ks (fun r _ => r = some (.int 1)) 515 [some (.ref 1001), some (.ref 0), some (.ref 75), some (.int (nI i))] [] (encC (tb, (nI T)) (gs, gk, gf, ga, (nI H), (nI F), gc) (nt, ns, n2, n3, n4, n5, n6, n7, n8) (tt, ts, t2, t3, t4, t5, t6, t7, t8) (ws, w1, w2, w3) (pt, b1, b2, b3, b4, b5) (ab, (nI n), (nI z)) (sk, su) (sr, so, sh, (nI S)) sd ++ encM th (tb, (nI T), mp) (gc, (nI H), gs, gk, (nI F), gf) (rc, rh, rg, rf, rd) pg mq (bb, (nI z)) (kk, su) ((nI S), sr, so, sh) sd (wm, wo) (q1, q2, q3, q4) (wh, wu) (i1, i2) (f1, f2) vl) := by
  obtain ⟨⟨jT, jH, jF, jn, jz, jS⟩, jg, js, jb, jk, jr, jo⟩ := hJ
  have jz2 : zSr H F (zC16 pg mq 16) (zcpS (nt, ns, n2, n3, n4, n5, n6, n7, n8) (tt, ts, t2, t3, t4, t5, t6, t7, t8)) := zSr_s jF (zSr_p jH jF js zC16j)
  refine zx_aload_n (pc := 515) dL_law_515 rfl rfl ?_
  refine zx_fV1 (pc := 516) (q_lasts (d := d + 1) jH jF) cl_L_84 p0 rfl dL_law_516 rfl rfl (by omega) (Nat.le_of_ble_eq_true rfl) (by assumption) (by assumption) ?_
  refine zx_aload_n (pc := 519) dL_law_519 rfl rfl ?_
  refine zx_fV1 (pc := 520) (m_lasts (d := d + 3) zLen jH jF js.2.1) cl_L_87 (p75 zLen) rfl dL_law_520 rfl rfl (by omega) (Nat.le_of_ble_eq_true rfl) (by assumption) (by assumption) ?_
  refine zx_icmp_eq (pc := 523) (tgt := 934) dL_law_523 (by decide) (fun h523 => ?_) (fun h523 => absurd (zLa_e jH jF 9 _ _ _ _ jz2.1 jz2.2.2.1 jz2.2.2.2.2.1.1) h523)
  exact ih _ ⟨tb, T, gs, gk, gf, ga, H, F, gc, nt, ns, n2, n3, n4, n5, n6, n7, n8, (zLaR gs gk gf F H gc 9 (zcpS (nt, ns, n2, n3, n4, n5, n6, n7, n8) (tt, ts, t2, t3, t4, t5, t6, t7, t8)) (ws, w1, w2, w3)).2.1.1, (zLaR gs gk gf F H gc 9 (zcpS (nt, ns, n2, n3, n4, n5, n6, n7, n8) (tt, ts, t2, t3, t4, t5, t6, t7, t8)) (ws, w1, w2, w3)).2.1.2.1, (zLaR gs gk gf F H gc 9 (zcpS (nt, ns, n2, n3, n4, n5, n6, n7, n8) (tt, ts, t2, t3, t4, t5, t6, t7, t8)) (ws, w1, w2, w3)).2.1.2.2.1, (zLaR gs gk gf F H gc 9 (zcpS (nt, ns, n2, n3, n4, n5, n6, n7, n8) (tt, ts, t2, t3, t4, t5, t6, t7, t8)) (ws, w1, w2, w3)).2.1.2.2.2.1, (zLaR gs gk gf F H gc 9 (zcpS (nt, ns, n2, n3, n4, n5, n6, n7, n8) (tt, ts, t2, t3, t4, t5, t6, t7, t8)) (ws, w1, w2, w3)).2.1.2.2.2.2.1, (zLaR gs gk gf F H gc 9 (zcpS (nt, ns, n2, n3, n4, n5, n6, n7, n8) (tt, ts, t2, t3, t4, t5, t6, t7, t8)) (ws, w1, w2, w3)).2.1.2.2.2.2.2.1, (zLaR gs gk gf F H gc 9 (zcpS (nt, ns, n2, n3, n4, n5, n6, n7, n8) (tt, ts, t2, t3, t4, t5, t6, t7, t8)) (ws, w1, w2, w3)).2.1.2.2.2.2.2.2.1, (zLaR gs gk gf F H gc 9 (zcpS (nt, ns, n2, n3, n4, n5, n6, n7, n8) (tt, ts, t2, t3, t4, t5, t6, t7, t8)) (ws, w1, w2, w3)).2.1.2.2.2.2.2.2.2.1, (zLaR gs gk gf F H gc 9 (zcpS (nt, ns, n2, n3, n4, n5, n6, n7, n8) (tt, ts, t2, t3, t4, t5, t6, t7, t8)) (ws, w1, w2, w3)).2.1.2.2.2.2.2.2.2.2, (zLaR gs gk gf F H gc 9 (zcpS (nt, ns, n2, n3, n4, n5, n6, n7, n8) (tt, ts, t2, t3, t4, t5, t6, t7, t8)) (ws, w1, w2, w3)).2.2.1, (zLaR gs gk gf F H gc 9 (zcpS (nt, ns, n2, n3, n4, n5, n6, n7, n8) (tt, ts, t2, t3, t4, t5, t6, t7, t8)) (ws, w1, w2, w3)).2.2.2.1, (zLaR gs gk gf F H gc 9 (zcpS (nt, ns, n2, n3, n4, n5, n6, n7, n8) (tt, ts, t2, t3, t4, t5, t6, t7, t8)) (ws, w1, w2, w3)).2.2.2.2.1, (zLaR gs gk gf F H gc 9 (zcpS (nt, ns, n2, n3, n4, n5, n6, n7, n8) (tt, ts, t2, t3, t4, t5, t6, t7, t8)) (ws, w1, w2, w3)).2.2.2.2.2, pt, b1, b2, b3, b4, b5, ab, n, z, sk, su, sr, so, sh, S, sd, 0, mp, rc, rh, rg, rf, rd, pg, (zLm gs gk gf F H gc 9 (zC16 pg mq 16) (wm, wo)).2.1, bb, kk, (zLm gs gk gf F H gc 9 (zC16 pg mq 16) (wm, wo)).2.2.1, (zLm gs gk gf F H gc 9 (zC16 pg mq 16) (wm, wo)).2.2.2, q1, q2, q3, q4, wh, wu, i1, i2, f1, f2, vl, rfl, ⟨⟨jT, jH, jF, jn, jz, jS⟩, jg, js, jb, jk, jr, jo⟩⟩
set_option maxHeartbeats 8000000 in
theorem lw_spare {nm : String} {d N i mc ms kc ks : Nat} {xs : Nat → Int32} {tb : Nat → Int32} {T : Nat} {gs : Nat → Int32} {gk : Nat → Int32} {gf : Nat → Int32} {ga : Nat → Int32} {H : Nat} {F : Nat} {gc : Int32} {nt : Nat → Int32} {ns : Nat → Int32} {n2 : Int32} {n3 : Int32} {n4 : Int32} {n5 : Int32} {n6 : Int32} {n7 : Int32} {n8 : Int32} {tt : Nat → Int32} {ts : Nat → Int32} {t2 : Int32} {t3 : Int32} {t4 : Int32} {t5 : Int32} {t6 : Int32} {t7 : Int32} {t8 : Int32} {ws : Nat → Int32} {w1 : Int32} {w2 : Int32} {w3 : Int32} {pt : Nat → Int32} {b1 : Int32} {b2 : Int32} {b3 : Int32} {b4 : Int32} {b5 : Int32} {ab : Nat → zStt} {n : Nat} {z : Nat} {sk : Nat → zStt} {su : Nat → Int32} {sr : Nat → Int32} {so : Nat → Int32} {sh : Nat → Int32} {S : Nat} {sd : Int64} {th : Int32} {mp : Int32} {rc : Int32} {rh : Int32} {rg : Nat → Int32} {rf : Int32} {rd : Nat → Int32} {pg : Nat → Int32} {mq : Nat → Int32} {bb : Nat → Int32} {kk : Nat → Int32} {wm : Int32} {wo : Int32} {q1 : Int32} {q2 : Int32} {q3 : Int32} {q4 : Int32} {wh : Int32} {wu : Int32} {i1 : Int32} {i2 : Int32} {f1 : Int32} {f2 : Int32} {vl : Nat → Int32} (hN : N ≤ 320) (hi : i + 5 ≤ N) (hc : kc ≤ mc) (hs : ks ≤ ms) (ih : ∀ sg', zI sg' → zX RL cL_law 4 (some .boolean) nm (some (N, xs)) (d + 6) 0 mc ms kc ks (fun r _ => r = some (.int 1)) 934 [some (.ref 1001), some (.ref 0), some (.ref 75), some (.int (nI i))] [] sg') (hJ : zJ T gs gk gf H F (nt, ns, n2, n3, n4, n5, n6, n7, n8) ab n z sk su sr so S pg bb kk) : zX RL cL_law 4 (some .boolean) nm (some (N, xs)) (d + 6) 0 mc ms kc ks (fun r _ => r = some (.int 1)) 528 [some (.ref 1001), some (.ref 0), some (.ref 75), some (.int (nI i))] [] (encC (tb, (nI T)) (gs, gk, gf, ga, (nI H), (nI F), gc) (nt, ns, n2, n3, n4, n5, n6, n7, n8) (tt, ts, t2, t3, t4, t5, t6, t7, t8) (ws, w1, w2, w3) (pt, b1, b2, b3, b4, b5) (ab, (nI n), (nI z)) (sk, su) (sr, so, sh, (nI S)) sd ++ encM th (tb, (nI T), mp) (gc, (nI H), gs, gk, (nI F), gf) (rc, rh, rg, rf, rd) pg mq (bb, (nI z)) (kk, su) ((nI S), sr, so, sh) sd (wm, wo) (q1, q2, q3, q4) (wh, wu) (i1, i2) (f1, f2) vl) := by
  obtain ⟨⟨jT, jH, jF, jn, jz, jS⟩, jg, js, jb, jk, jr, jo⟩ := hJ
  by_cases g1 : zWH (xs (i + 1)) = 0
  · refine zx_aload_n (pc := 528) dL_law_528 rfl rfl ?_
    refine zx_aload_n (pc := 529) dL_law_529 rfl rfl ?_
    refine zx_iload_n (pc := 530) dL_law_530 rfl rfl ?_
    refine zx_iconst (pc := 531) (v := 1) dL_law_531 (by decide) ?_
    refine zx_iadd (pc := 532) dL_law_532 ?_
    refine zx_sld (pc := 533) rfl (zs1 hi hN) dL_law_533 ?_
    refine zx_aload_n (pc := 534) dL_law_534 rfl rfl ?_
    refine zx_iload_n (pc := 535) dL_law_535 rfl rfl ?_
    refine zx_iconst (pc := 536) (v := 2) dL_law_536 (by decide) ?_
    refine zx_iadd (pc := 537) dL_law_537 ?_
    refine zx_sld (pc := 538) rfl (zs2 hi hN) dL_law_538 ?_
    refine zx_aload_n (pc := 539) dL_law_539 rfl rfl ?_
    refine zx_iload_n (pc := 540) dL_law_540 rfl rfl ?_
    refine zx_iconst (pc := 541) (v := 3) dL_law_541 (by decide) ?_
    refine zx_iadd (pc := 542) dL_law_542 ?_
    refine zx_sld (pc := 543) rfl (zs3 hi hN) dL_law_543 ?_
    refine zx_aload_n (pc := 544) dL_law_544 rfl rfl ?_
    refine zx_iload_n (pc := 545) dL_law_545 rfl rfl ?_
    refine zx_iconst (pc := 546) (v := 4) dL_law_546 (by decide) ?_
    refine zx_iadd (pc := 547) dL_law_547 ?_
    refine zx_sld (pc := 548) rfl (zs4 hi hN) dL_law_548 ?_
    refine zx_fV1 (pc := 549) (q_spare_b1 (d := d + 3) g1) cl_L_88 p0 rfl dL_law_549 rfl rfl (by omega) (Nat.le_of_ble_eq_true rfl) (by assumption) (by assumption) ?_
    refine zx_aload_n (pc := 552) dL_law_552 rfl rfl ?_
    refine zx_aload_n (pc := 553) dL_law_553 rfl rfl ?_
    refine zx_iload_n (pc := 554) dL_law_554 rfl rfl ?_
    refine zx_iconst (pc := 555) (v := 1) dL_law_555 (by decide) ?_
    refine zx_iadd (pc := 556) dL_law_556 ?_
    refine zx_sld (pc := 557) rfl (zs1 hi hN) dL_law_557 ?_
    refine zx_aload_n (pc := 558) dL_law_558 rfl rfl ?_
    refine zx_iload_n (pc := 559) dL_law_559 rfl rfl ?_
    refine zx_iconst (pc := 560) (v := 2) dL_law_560 (by decide) ?_
    refine zx_iadd (pc := 561) dL_law_561 ?_
    refine zx_sld (pc := 562) rfl (zs2 hi hN) dL_law_562 ?_
    refine zx_aload_n (pc := 563) dL_law_563 rfl rfl ?_
    refine zx_iload_n (pc := 564) dL_law_564 rfl rfl ?_
    refine zx_iconst (pc := 565) (v := 3) dL_law_565 (by decide) ?_
    refine zx_iadd (pc := 566) dL_law_566 ?_
    refine zx_sld (pc := 567) rfl (zs3 hi hN) dL_law_567 ?_
    refine zx_aload_n (pc := 568) dL_law_568 rfl rfl ?_
    refine zx_iload_n (pc := 569) dL_law_569 rfl rfl ?_
    refine zx_iconst (pc := 570) (v := 4) dL_law_570 (by decide) ?_
    refine zx_iadd (pc := 571) dL_law_571 ?_
    refine zx_sld (pc := 572) rfl (zs4 hi hN) dL_law_572 ?_
    refine zx_fV1 (pc := 573) (m_spare_b1 (d := d + 1) zLen g1) cl_L_92 (p75 zLen) rfl dL_law_573 rfl rfl (by omega) (Nat.le_of_ble_eq_true rfl) (by assumption) (by assumption) ?_
    refine zx_icmp_eq (pc := 576) (tgt := 934) dL_law_576 (by decide) (fun h576 => ?_) (fun h576 => absurd rfl h576)
    exact ih _ ⟨tb, T, gs, gk, gf, ga, H, F, gc, nt, ns, n2, n3, n4, n5, n6, n7, n8, tt, ts, t2, t3, t4, t5, t6, t7, t8, ws, w1, w2, w3, pt, b1, b2, b3, b4, b5, ab, n, z, sk, su, sr, so, sh, S, sd, 0, mp, rc, rh, rg, rf, rd, pg, mq, bb, kk, wm, wo, q1, q2, q3, q4, wh, wu, i1, i2, f1, f2, vl, rfl, ⟨⟨jT, jH, jF, jn, jz, jS⟩, jg, js, jb, jk, jr, jo⟩⟩
  · by_cases g2 : zIR (xs (i + 2)) = 0
    · refine zx_aload_n (pc := 528) dL_law_528 rfl rfl ?_
      refine zx_aload_n (pc := 529) dL_law_529 rfl rfl ?_
      refine zx_iload_n (pc := 530) dL_law_530 rfl rfl ?_
      refine zx_iconst (pc := 531) (v := 1) dL_law_531 (by decide) ?_
      refine zx_iadd (pc := 532) dL_law_532 ?_
      refine zx_sld (pc := 533) rfl (zs1 hi hN) dL_law_533 ?_
      refine zx_aload_n (pc := 534) dL_law_534 rfl rfl ?_
      refine zx_iload_n (pc := 535) dL_law_535 rfl rfl ?_
      refine zx_iconst (pc := 536) (v := 2) dL_law_536 (by decide) ?_
      refine zx_iadd (pc := 537) dL_law_537 ?_
      refine zx_sld (pc := 538) rfl (zs2 hi hN) dL_law_538 ?_
      refine zx_aload_n (pc := 539) dL_law_539 rfl rfl ?_
      refine zx_iload_n (pc := 540) dL_law_540 rfl rfl ?_
      refine zx_iconst (pc := 541) (v := 3) dL_law_541 (by decide) ?_
      refine zx_iadd (pc := 542) dL_law_542 ?_
      refine zx_sld (pc := 543) rfl (zs3 hi hN) dL_law_543 ?_
      refine zx_aload_n (pc := 544) dL_law_544 rfl rfl ?_
      refine zx_iload_n (pc := 545) dL_law_545 rfl rfl ?_
      refine zx_iconst (pc := 546) (v := 4) dL_law_546 (by decide) ?_
      refine zx_iadd (pc := 547) dL_law_547 ?_
      refine zx_sld (pc := 548) rfl (zs4 hi hN) dL_law_548 ?_
      refine zx_fV1 (pc := 549) (q_spare_b2 (d := d + 3) g1 g2) cl_L_88 p0 rfl dL_law_549 rfl rfl (by omega) (Nat.le_of_ble_eq_true rfl) (by assumption) (by assumption) ?_
      refine zx_aload_n (pc := 552) dL_law_552 rfl rfl ?_
      refine zx_aload_n (pc := 553) dL_law_553 rfl rfl ?_
      refine zx_iload_n (pc := 554) dL_law_554 rfl rfl ?_
      refine zx_iconst (pc := 555) (v := 1) dL_law_555 (by decide) ?_
      refine zx_iadd (pc := 556) dL_law_556 ?_
      refine zx_sld (pc := 557) rfl (zs1 hi hN) dL_law_557 ?_
      refine zx_aload_n (pc := 558) dL_law_558 rfl rfl ?_
      refine zx_iload_n (pc := 559) dL_law_559 rfl rfl ?_
      refine zx_iconst (pc := 560) (v := 2) dL_law_560 (by decide) ?_
      refine zx_iadd (pc := 561) dL_law_561 ?_
      refine zx_sld (pc := 562) rfl (zs2 hi hN) dL_law_562 ?_
      refine zx_aload_n (pc := 563) dL_law_563 rfl rfl ?_
      refine zx_iload_n (pc := 564) dL_law_564 rfl rfl ?_
      refine zx_iconst (pc := 565) (v := 3) dL_law_565 (by decide) ?_
      refine zx_iadd (pc := 566) dL_law_566 ?_
      refine zx_sld (pc := 567) rfl (zs3 hi hN) dL_law_567 ?_
      refine zx_aload_n (pc := 568) dL_law_568 rfl rfl ?_
      refine zx_iload_n (pc := 569) dL_law_569 rfl rfl ?_
      refine zx_iconst (pc := 570) (v := 4) dL_law_570 (by decide) ?_
      refine zx_iadd (pc := 571) dL_law_571 ?_
      refine zx_sld (pc := 572) rfl (zs4 hi hN) dL_law_572 ?_
      refine zx_fV1 (pc := 573) (m_spare_b2 (d := d + 1) zLen g1 g2) cl_L_92 (p75 zLen) rfl dL_law_573 rfl rfl (by omega) (Nat.le_of_ble_eq_true rfl) (by assumption) (by assumption) ?_
      refine zx_icmp_eq (pc := 576) (tgt := 934) dL_law_576 (by decide) (fun h576 => ?_) (fun h576 => absurd rfl h576)
      exact ih _ ⟨tb, T, gs, gk, gf, ga, H, F, gc, nt, ns, n2, n3, n4, n5, n6, n7, n8, tt, ts, t2, t3, t4, t5, t6, t7, t8, ws, w1, w2, w3, pt, b1, b2, b3, b4, b5, ab, n, z, sk, su, sr, so, sh, S, sd, 0, mp, rc, rh, rg, rf, rd, pg, mq, bb, kk, wm, wo, q1, q2, q3, q4, wh, wu, i1, i2, f1, f2, vl, rfl, ⟨⟨jT, jH, jF, jn, jz, jS⟩, jg, js, jb, jk, jr, jo⟩⟩
    · obtain ⟨M, hM1, hM, eM⟩ := zWH_of g1
      have g1' : ¬ zIn (nI M) 1 8 = 0 := by rw [← eM]; exact g1
      by_cases g3 : (xs (i + 3)) < 0 ∨ nI (2 ^ M) ≤ (xs (i + 3))
      · refine zx_aload_n (pc := 528) dL_law_528 rfl rfl ?_
        refine zx_aload_n (pc := 529) dL_law_529 rfl rfl ?_
        refine zx_iload_n (pc := 530) dL_law_530 rfl rfl ?_
        refine zx_iconst (pc := 531) (v := 1) dL_law_531 (by decide) ?_
        refine zx_iadd (pc := 532) dL_law_532 ?_
        refine zx_sld (pc := 533) rfl (zs1 hi hN) dL_law_533 ?_
        refine zx_aload_n (pc := 534) dL_law_534 rfl rfl ?_
        refine zx_iload_n (pc := 535) dL_law_535 rfl rfl ?_
        refine zx_iconst (pc := 536) (v := 2) dL_law_536 (by decide) ?_
        refine zx_iadd (pc := 537) dL_law_537 ?_
        refine zx_sld (pc := 538) rfl (zs2 hi hN) dL_law_538 ?_
        refine zx_aload_n (pc := 539) dL_law_539 rfl rfl ?_
        refine zx_iload_n (pc := 540) dL_law_540 rfl rfl ?_
        refine zx_iconst (pc := 541) (v := 3) dL_law_541 (by decide) ?_
        refine zx_iadd (pc := 542) dL_law_542 ?_
        refine zx_sld (pc := 543) rfl (zs3 hi hN) dL_law_543 ?_
        refine zx_aload_n (pc := 544) dL_law_544 rfl rfl ?_
        refine zx_iload_n (pc := 545) dL_law_545 rfl rfl ?_
        refine zx_iconst (pc := 546) (v := 4) dL_law_546 (by decide) ?_
        refine zx_iadd (pc := 547) dL_law_547 ?_
        refine zx_sld (pc := 548) rfl (zs4 hi hN) dL_law_548 ?_
        rw [eM]
        refine zx_fV1 (pc := 549) (q_spare_b3 (d := d + 3) hM1 hM g2 g3) cl_L_88 p0 rfl dL_law_549 rfl rfl (by omega) (Nat.le_of_ble_eq_true rfl) (by assumption) (by assumption) ?_
        refine zx_aload_n (pc := 552) dL_law_552 rfl rfl ?_
        refine zx_aload_n (pc := 553) dL_law_553 rfl rfl ?_
        refine zx_iload_n (pc := 554) dL_law_554 rfl rfl ?_
        refine zx_iconst (pc := 555) (v := 1) dL_law_555 (by decide) ?_
        refine zx_iadd (pc := 556) dL_law_556 ?_
        refine zx_sld (pc := 557) rfl (zs1 hi hN) dL_law_557 ?_
        refine zx_aload_n (pc := 558) dL_law_558 rfl rfl ?_
        refine zx_iload_n (pc := 559) dL_law_559 rfl rfl ?_
        refine zx_iconst (pc := 560) (v := 2) dL_law_560 (by decide) ?_
        refine zx_iadd (pc := 561) dL_law_561 ?_
        refine zx_sld (pc := 562) rfl (zs2 hi hN) dL_law_562 ?_
        refine zx_aload_n (pc := 563) dL_law_563 rfl rfl ?_
        refine zx_iload_n (pc := 564) dL_law_564 rfl rfl ?_
        refine zx_iconst (pc := 565) (v := 3) dL_law_565 (by decide) ?_
        refine zx_iadd (pc := 566) dL_law_566 ?_
        refine zx_sld (pc := 567) rfl (zs3 hi hN) dL_law_567 ?_
        refine zx_aload_n (pc := 568) dL_law_568 rfl rfl ?_
        refine zx_iload_n (pc := 569) dL_law_569 rfl rfl ?_
        refine zx_iconst (pc := 570) (v := 4) dL_law_570 (by decide) ?_
        refine zx_iadd (pc := 571) dL_law_571 ?_
        refine zx_sld (pc := 572) rfl (zs4 hi hN) dL_law_572 ?_
        rw [eM]
        refine zx_fV1 (pc := 573) (m_spare_b3 (d := d + 1) zLen g1' g2 ((zLk hM).mpr g3)) cl_L_92 (p75 zLen) rfl dL_law_573 rfl rfl (by omega) (Nat.le_of_ble_eq_true rfl) (by assumption) (by assumption) ?_
        refine zx_icmp_eq (pc := 576) (tgt := 934) dL_law_576 (by decide) (fun h576 => ?_) (fun h576 => absurd rfl h576)
        exact ih _ ⟨tb, T, gs, gk, gf, ga, H, F, gc, nt, ns, n2, n3, n4, n5, n6, n7, n8, tt, ts, t2, t3, t4, t5, t6, t7, t8, ws, w1, w2, w3, pt, b1, b2, b3, b4, b5, ab, n, z, sk, su, sr, so, sh, S, sd, 0, mp, rc, rh, rg, rf, rd, pg, mq, bb, kk, wm, wo, q1, q2, q3, q4, wh, wu, i1, i2, f1, f2, vl, rfl, ⟨⟨jT, jH, jF, jn, jz, jS⟩, jg, js, jb, jk, jr, jo⟩⟩
      · have g3' : ¬ zIn (xs (i + 3)) 0 ((1 : Int32) <<< (nI M &&& 31) - 1) = 0 := fun q => g3 ((zLk hM).mp q)
        have l0 : ¬ (xs (i + 3)) < 0 := fun q => g3 (Or.inl q)
        have l1 : ¬ nI (2 ^ M) ≤ (xs (i + 3)) := fun q => g3 (Or.inr q)
        by_cases g4 : zIn (xs (i + 4)) 0 1 = 0
        · refine zx_aload_n (pc := 528) dL_law_528 rfl rfl ?_
          refine zx_aload_n (pc := 529) dL_law_529 rfl rfl ?_
          refine zx_iload_n (pc := 530) dL_law_530 rfl rfl ?_
          refine zx_iconst (pc := 531) (v := 1) dL_law_531 (by decide) ?_
          refine zx_iadd (pc := 532) dL_law_532 ?_
          refine zx_sld (pc := 533) rfl (zs1 hi hN) dL_law_533 ?_
          refine zx_aload_n (pc := 534) dL_law_534 rfl rfl ?_
          refine zx_iload_n (pc := 535) dL_law_535 rfl rfl ?_
          refine zx_iconst (pc := 536) (v := 2) dL_law_536 (by decide) ?_
          refine zx_iadd (pc := 537) dL_law_537 ?_
          refine zx_sld (pc := 538) rfl (zs2 hi hN) dL_law_538 ?_
          refine zx_aload_n (pc := 539) dL_law_539 rfl rfl ?_
          refine zx_iload_n (pc := 540) dL_law_540 rfl rfl ?_
          refine zx_iconst (pc := 541) (v := 3) dL_law_541 (by decide) ?_
          refine zx_iadd (pc := 542) dL_law_542 ?_
          refine zx_sld (pc := 543) rfl (zs3 hi hN) dL_law_543 ?_
          refine zx_aload_n (pc := 544) dL_law_544 rfl rfl ?_
          refine zx_iload_n (pc := 545) dL_law_545 rfl rfl ?_
          refine zx_iconst (pc := 546) (v := 4) dL_law_546 (by decide) ?_
          refine zx_iadd (pc := 547) dL_law_547 ?_
          refine zx_sld (pc := 548) rfl (zs4 hi hN) dL_law_548 ?_
          rw [eM]
          refine zx_fV1 (pc := 549) (q_spare_b4 (d := d + 3) hM1 hM g2 l0 l1 (zIn_bad g4)) cl_L_88 p0 rfl dL_law_549 rfl rfl (by omega) (Nat.le_of_ble_eq_true rfl) (by assumption) (by assumption) ?_
          refine zx_aload_n (pc := 552) dL_law_552 rfl rfl ?_
          refine zx_aload_n (pc := 553) dL_law_553 rfl rfl ?_
          refine zx_iload_n (pc := 554) dL_law_554 rfl rfl ?_
          refine zx_iconst (pc := 555) (v := 1) dL_law_555 (by decide) ?_
          refine zx_iadd (pc := 556) dL_law_556 ?_
          refine zx_sld (pc := 557) rfl (zs1 hi hN) dL_law_557 ?_
          refine zx_aload_n (pc := 558) dL_law_558 rfl rfl ?_
          refine zx_iload_n (pc := 559) dL_law_559 rfl rfl ?_
          refine zx_iconst (pc := 560) (v := 2) dL_law_560 (by decide) ?_
          refine zx_iadd (pc := 561) dL_law_561 ?_
          refine zx_sld (pc := 562) rfl (zs2 hi hN) dL_law_562 ?_
          refine zx_aload_n (pc := 563) dL_law_563 rfl rfl ?_
          refine zx_iload_n (pc := 564) dL_law_564 rfl rfl ?_
          refine zx_iconst (pc := 565) (v := 3) dL_law_565 (by decide) ?_
          refine zx_iadd (pc := 566) dL_law_566 ?_
          refine zx_sld (pc := 567) rfl (zs3 hi hN) dL_law_567 ?_
          refine zx_aload_n (pc := 568) dL_law_568 rfl rfl ?_
          refine zx_iload_n (pc := 569) dL_law_569 rfl rfl ?_
          refine zx_iconst (pc := 570) (v := 4) dL_law_570 (by decide) ?_
          refine zx_iadd (pc := 571) dL_law_571 ?_
          refine zx_sld (pc := 572) rfl (zs4 hi hN) dL_law_572 ?_
          rw [eM]
          refine zx_fV1 (pc := 573) (m_spare_b4 (d := d + 1) zLen g1' g2 g3' g4) cl_L_92 (p75 zLen) rfl dL_law_573 rfl rfl (by omega) (Nat.le_of_ble_eq_true rfl) (by assumption) (by assumption) ?_
          refine zx_icmp_eq (pc := 576) (tgt := 934) dL_law_576 (by decide) (fun h576 => ?_) (fun h576 => absurd rfl h576)
          exact ih _ ⟨tb, T, gs, gk, gf, ga, H, F, gc, nt, ns, n2, n3, n4, n5, n6, n7, n8, tt, ts, t2, t3, t4, t5, t6, t7, t8, ws, w1, w2, w3, pt, b1, b2, b3, b4, b5, ab, n, z, sk, su, sr, so, sh, S, sd, 0, mp, rc, rh, rg, rf, rd, pg, mq, bb, kk, wm, wo, q1, q2, q3, q4, wh, wu, i1, i2, f1, f2, vl, rfl, ⟨⟨jT, jH, jF, jn, jz, jS⟩, jg, js, jb, jk, jr, jo⟩⟩
        · obtain ⟨R, hR, eR⟩ := zIR_of g2
          have g2' : ¬ zIn (nI R) 0 3 = 0 := by rw [← eR]; exact g2
          refine zx_aload_n (pc := 528) dL_law_528 rfl rfl ?_
          refine zx_aload_n (pc := 529) dL_law_529 rfl rfl ?_
          refine zx_iload_n (pc := 530) dL_law_530 rfl rfl ?_
          refine zx_iconst (pc := 531) (v := 1) dL_law_531 (by decide) ?_
          refine zx_iadd (pc := 532) dL_law_532 ?_
          refine zx_sld (pc := 533) rfl (zs1 hi hN) dL_law_533 ?_
          refine zx_aload_n (pc := 534) dL_law_534 rfl rfl ?_
          refine zx_iload_n (pc := 535) dL_law_535 rfl rfl ?_
          refine zx_iconst (pc := 536) (v := 2) dL_law_536 (by decide) ?_
          refine zx_iadd (pc := 537) dL_law_537 ?_
          refine zx_sld (pc := 538) rfl (zs2 hi hN) dL_law_538 ?_
          refine zx_aload_n (pc := 539) dL_law_539 rfl rfl ?_
          refine zx_iload_n (pc := 540) dL_law_540 rfl rfl ?_
          refine zx_iconst (pc := 541) (v := 3) dL_law_541 (by decide) ?_
          refine zx_iadd (pc := 542) dL_law_542 ?_
          refine zx_sld (pc := 543) rfl (zs3 hi hN) dL_law_543 ?_
          refine zx_aload_n (pc := 544) dL_law_544 rfl rfl ?_
          refine zx_iload_n (pc := 545) dL_law_545 rfl rfl ?_
          refine zx_iconst (pc := 546) (v := 4) dL_law_546 (by decide) ?_
          refine zx_iadd (pc := 547) dL_law_547 ?_
          refine zx_sld (pc := 548) rfl (zs4 hi hN) dL_law_548 ?_
          rw [eM, eR]
          refine zx_fV1 (pc := 549) (q_spare (d := d + 3) hM1 hM hR l0 l1 (zIn_ok g4).1 (zIn_ok g4).2) cl_L_88 p0 rfl dL_law_549 rfl rfl (by omega) (Nat.le_of_ble_eq_true rfl) (by assumption) (by assumption) ?_
          refine zx_aload_n (pc := 552) dL_law_552 rfl rfl ?_
          refine zx_aload_n (pc := 553) dL_law_553 rfl rfl ?_
          refine zx_iload_n (pc := 554) dL_law_554 rfl rfl ?_
          refine zx_iconst (pc := 555) (v := 1) dL_law_555 (by decide) ?_
          refine zx_iadd (pc := 556) dL_law_556 ?_
          refine zx_sld (pc := 557) rfl (zs1 hi hN) dL_law_557 ?_
          refine zx_aload_n (pc := 558) dL_law_558 rfl rfl ?_
          refine zx_iload_n (pc := 559) dL_law_559 rfl rfl ?_
          refine zx_iconst (pc := 560) (v := 2) dL_law_560 (by decide) ?_
          refine zx_iadd (pc := 561) dL_law_561 ?_
          refine zx_sld (pc := 562) rfl (zs2 hi hN) dL_law_562 ?_
          refine zx_aload_n (pc := 563) dL_law_563 rfl rfl ?_
          refine zx_iload_n (pc := 564) dL_law_564 rfl rfl ?_
          refine zx_iconst (pc := 565) (v := 3) dL_law_565 (by decide) ?_
          refine zx_iadd (pc := 566) dL_law_566 ?_
          refine zx_sld (pc := 567) rfl (zs3 hi hN) dL_law_567 ?_
          refine zx_aload_n (pc := 568) dL_law_568 rfl rfl ?_
          refine zx_iload_n (pc := 569) dL_law_569 rfl rfl ?_
          refine zx_iconst (pc := 570) (v := 4) dL_law_570 (by decide) ?_
          refine zx_iadd (pc := 571) dL_law_571 ?_
          refine zx_sld (pc := 572) rfl (zs4 hi hN) dL_law_572 ?_
          rw [eM, eR]
          refine zx_fV1 (pc := 573) (m_spare (d := d + 1) zLen hM hR g1' g2' g3' g4) cl_L_92 (p75 zLen) rfl dL_law_573 rfl rfl (by omega) (Nat.le_of_ble_eq_true rfl) (by assumption) (by assumption) ?_
          refine zx_icmp_eq (pc := 576) (tgt := 934) dL_law_576 (by decide) (fun h576 => ?_) (fun h576 => absurd (by rw [zSp_e hM _ (Nat.le_refl _)]) h576)
          exact ih _ ⟨tb, T, gs, gk, gf, ga, H, F, gc, nt, ns, n2, n3, n4, n5, n6, n7, n8, tt, ts, t2, t3, t4, t5, t6, t7, t8, ws, w1, w2, w3, pt, b1, b2, b3, b4, b5, ab, n, z, sk, su, sr, so, sh, S, sd, 0, mp, rc, rh, rg, rf, rd, pg, mq, bb, kk, wm, wo, q1, q2, q3, q4, (zWlN M R (wh, wu) (2 ^ M)).1, (zWlN M R (wh, wu) (2 ^ M)).2, (zSmR M R (xs (i + 3)) (2 ^ M)).1, (zSmR M R (xs (i + 3)) (2 ^ M)).2, f1, f2, vl, rfl, ⟨⟨jT, jH, jF, jn, jz, jS⟩, jg, js, jb, jk, jr, jo⟩⟩
set_option maxHeartbeats 8000000 in
theorem lw_see {nm : String} {d N i mc ms kc ks : Nat} {xs : Nat → Int32} {tb : Nat → Int32} {T : Nat} {gs : Nat → Int32} {gk : Nat → Int32} {gf : Nat → Int32} {ga : Nat → Int32} {H : Nat} {F : Nat} {gc : Int32} {nt : Nat → Int32} {ns : Nat → Int32} {n2 : Int32} {n3 : Int32} {n4 : Int32} {n5 : Int32} {n6 : Int32} {n7 : Int32} {n8 : Int32} {tt : Nat → Int32} {ts : Nat → Int32} {t2 : Int32} {t3 : Int32} {t4 : Int32} {t5 : Int32} {t6 : Int32} {t7 : Int32} {t8 : Int32} {ws : Nat → Int32} {w1 : Int32} {w2 : Int32} {w3 : Int32} {pt : Nat → Int32} {b1 : Int32} {b2 : Int32} {b3 : Int32} {b4 : Int32} {b5 : Int32} {ab : Nat → zStt} {n : Nat} {z : Nat} {sk : Nat → zStt} {su : Nat → Int32} {sr : Nat → Int32} {so : Nat → Int32} {sh : Nat → Int32} {S : Nat} {sd : Int64} {th : Int32} {mp : Int32} {rc : Int32} {rh : Int32} {rg : Nat → Int32} {rf : Int32} {rd : Nat → Int32} {pg : Nat → Int32} {mq : Nat → Int32} {bb : Nat → Int32} {kk : Nat → Int32} {wm : Int32} {wo : Int32} {q1 : Int32} {q2 : Int32} {q3 : Int32} {q4 : Int32} {wh : Int32} {wu : Int32} {i1 : Int32} {i2 : Int32} {f1 : Int32} {f2 : Int32} {vl : Nat → Int32} (hN : N ≤ 320) (hi : i + 5 ≤ N) (hc : kc ≤ mc) (hs : ks ≤ ms) (ih : ∀ sg', zI sg' → zX RL cL_law 4 (some .boolean) nm (some (N, xs)) (d + 6) 0 mc ms kc ks (fun r _ => r = some (.int 1)) 934 [some (.ref 1001), some (.ref 0), some (.ref 75), some (.int (nI i))] [] sg') (hJ : zJ T gs gk gf H F (nt, ns, n2, n3, n4, n5, n6, n7, n8) ab n z sk su sr so S pg bb kk) : zX RL cL_law 4 (some .boolean) nm (some (N, xs)) (d + 6) 0 mc ms kc ks (fun r _ => r = some (.int 1)) 630 [some (.ref 1001), some (.ref 0), some (.ref 75), some (.int (nI i))] [] (encC (tb, (nI T)) (gs, gk, gf, ga, (nI H), (nI F), gc) (nt, ns, n2, n3, n4, n5, n6, n7, n8) (tt, ts, t2, t3, t4, t5, t6, t7, t8) (ws, w1, w2, w3) (pt, b1, b2, b3, b4, b5) (ab, (nI n), (nI z)) (sk, su) (sr, so, sh, (nI S)) sd ++ encM th (tb, (nI T), mp) (gc, (nI H), gs, gk, (nI F), gf) (rc, rh, rg, rf, rd) pg mq (bb, (nI z)) (kk, su) ((nI S), sr, so, sh) sd (wm, wo) (q1, q2, q3, q4) (wh, wu) (i1, i2) (f1, f2) vl) := by
  obtain ⟨⟨jT, jH, jF, jn, jz, jS⟩, jg, js, jb, jk, jr, jo⟩ := hJ
  by_cases g : ¬ zIn (xs (i + 1)) 0 3 = 0 ∧ ¬ zIn (xs (i + 2)) 0 7 = 0 ∧ ¬ zIn (xs (i + 3)) 0 2 = 0
  · obtain ⟨g1, g2, g3⟩ := g
    by_cases gS : S = 6
    · subst gS
      refine zx_aload_n (pc := 630) dL_law_630 rfl rfl ?_
      refine zx_aload_n (pc := 631) dL_law_631 rfl rfl ?_
      refine zx_iload_n (pc := 632) dL_law_632 rfl rfl ?_
      refine zx_iconst (pc := 633) (v := 1) dL_law_633 (by decide) ?_
      refine zx_iadd (pc := 634) dL_law_634 ?_
      refine zx_sld (pc := 635) rfl (zs1 hi hN) dL_law_635 ?_
      refine zx_aload_n (pc := 636) dL_law_636 rfl rfl ?_
      refine zx_iload_n (pc := 637) dL_law_637 rfl rfl ?_
      refine zx_iconst (pc := 638) (v := 2) dL_law_638 (by decide) ?_
      refine zx_iadd (pc := 639) dL_law_639 ?_
      refine zx_sld (pc := 640) rfl (zs2 hi hN) dL_law_640 ?_
      refine zx_aload_n (pc := 641) dL_law_641 rfl rfl ?_
      refine zx_iload_n (pc := 642) dL_law_642 rfl rfl ?_
      refine zx_iconst (pc := 643) (v := 3) dL_law_643 (by decide) ?_
      refine zx_iadd (pc := 644) dL_law_644 ?_
      refine zx_sld (pc := 645) rfl (zs3 hi hN) dL_law_645 ?_
      refine zx_fV1 (pc := 646) (q_see_full (d := d + 4) g1 (zIn_ok g2).1 (fun q => (z78 _).mp q (zIn_ok g2).2) (zIn_ok g3).1 (zIn_ok g3).2) cl_L_98 p0 rfl dL_law_646 rfl rfl (by omega) (Nat.le_of_ble_eq_true rfl) (by assumption) (by assumption) ?_
      refine zx_aload_n (pc := 649) dL_law_649 rfl rfl ?_
      refine zx_aload_n (pc := 650) dL_law_650 rfl rfl ?_
      refine zx_iload_n (pc := 651) dL_law_651 rfl rfl ?_
      refine zx_iconst (pc := 652) (v := 1) dL_law_652 (by decide) ?_
      refine zx_iadd (pc := 653) dL_law_653 ?_
      refine zx_sld (pc := 654) rfl (zs1 hi hN) dL_law_654 ?_
      refine zx_aload_n (pc := 655) dL_law_655 rfl rfl ?_
      refine zx_iload_n (pc := 656) dL_law_656 rfl rfl ?_
      refine zx_iconst (pc := 657) (v := 2) dL_law_657 (by decide) ?_
      refine zx_iadd (pc := 658) dL_law_658 ?_
      refine zx_sld (pc := 659) rfl (zs2 hi hN) dL_law_659 ?_
      refine zx_aload_n (pc := 660) dL_law_660 rfl rfl ?_
      refine zx_iload_n (pc := 661) dL_law_661 rfl rfl ?_
      refine zx_iconst (pc := 662) (v := 3) dL_law_662 (by decide) ?_
      refine zx_iadd (pc := 663) dL_law_663 ?_
      refine zx_sld (pc := 664) rfl (zs3 hi hN) dL_law_664 ?_
      refine zx_fV1 (pc := 665) (m_see_full (d := d + 4) zLen g1 g2 g3) cl_L_102 (p75 zLen) rfl dL_law_665 rfl rfl (by omega) (Nat.le_of_ble_eq_true rfl) (by assumption) (by assumption) ?_
      refine zx_icmp_eq (pc := 668) (tgt := 934) dL_law_668 (by decide) (fun h668 => ?_) (fun h668 => absurd rfl h668)
      exact ih _ ⟨tb, T, gs, gk, gf, ga, H, F, gc, nt, ns, n2, n3, n4, n5, n6, n7, n8, tt, ts, t2, t3, t4, t5, t6, t7, t8, ws, w1, w2, w3, pt, b1, b2, b3, b4, b5, ab, n, z, sk, su, sr, so, sh, 6, sd, 0, mp, rc, rh, rg, rf, rd, pg, mq, bb, kk, wm, wo, q1, q2, q3, q4, wh, wu, i1, i2, f1, f2, vl, rfl, ⟨⟨jT, jH, jF, jn, jz, jS⟩, jg, js, jb, jk, jr, jo⟩⟩
    · obtain ⟨R, r1, r2, r3⟩ := zIn_x (a := 0) (b := 3) (by decide) (by decide) g1
      obtain ⟨c, c1, c2, c3⟩ := zIn_x (a := 0) (b := 7) (by decide) (by decide) g2
      have jr2 : ∀ j, j < S + 1 → ∃ R : Nat, R ≤ 3 ∧ upd sr S (xs (i + 1)) j = nI R := fun j hj => by
        by_cases e : j = S
        · subst e; rw [pk_us]; exact ⟨R, r2, r3⟩
        · rw [pk_un e]; exact jr j (by omega)
      have jo2 : ∀ j, j < S + 1 → ∃ c : Nat, c < 8 ∧ upd so S (xs (i + 2)) j = nI c := fun j hj => by
        by_cases e : j = S
        · subst e; rw [pk_us]; exact ⟨c, by omega, c3⟩
        · rw [pk_un e]; exact jo j (by omega)
      refine zx_aload_n (pc := 630) dL_law_630 rfl rfl ?_
      refine zx_aload_n (pc := 631) dL_law_631 rfl rfl ?_
      refine zx_iload_n (pc := 632) dL_law_632 rfl rfl ?_
      refine zx_iconst (pc := 633) (v := 1) dL_law_633 (by decide) ?_
      refine zx_iadd (pc := 634) dL_law_634 ?_
      refine zx_sld (pc := 635) rfl (zs1 hi hN) dL_law_635 ?_
      refine zx_aload_n (pc := 636) dL_law_636 rfl rfl ?_
      refine zx_iload_n (pc := 637) dL_law_637 rfl rfl ?_
      refine zx_iconst (pc := 638) (v := 2) dL_law_638 (by decide) ?_
      refine zx_iadd (pc := 639) dL_law_639 ?_
      refine zx_sld (pc := 640) rfl (zs2 hi hN) dL_law_640 ?_
      refine zx_aload_n (pc := 641) dL_law_641 rfl rfl ?_
      refine zx_iload_n (pc := 642) dL_law_642 rfl rfl ?_
      refine zx_iconst (pc := 643) (v := 3) dL_law_643 (by decide) ?_
      refine zx_iadd (pc := 644) dL_law_644 ?_
      refine zx_sld (pc := 645) rfl (zs3 hi hN) dL_law_645 ?_
      refine zx_fV1 (pc := 646) (q_see_ok (d := d + 4) g1 (zIn_ok g2).1 (fun q => (z78 _).mp q (zIn_ok g2).2) (zIn_ok g3).1 (zIn_ok g3).2 (by omega)) cl_L_98 p0 rfl dL_law_646 rfl rfl (by omega) (Nat.le_of_ble_eq_true rfl) (by assumption) (by assumption) ?_
      refine zx_aload_n (pc := 649) dL_law_649 rfl rfl ?_
      refine zx_aload_n (pc := 650) dL_law_650 rfl rfl ?_
      refine zx_iload_n (pc := 651) dL_law_651 rfl rfl ?_
      refine zx_iconst (pc := 652) (v := 1) dL_law_652 (by decide) ?_
      refine zx_iadd (pc := 653) dL_law_653 ?_
      refine zx_sld (pc := 654) rfl (zs1 hi hN) dL_law_654 ?_
      refine zx_aload_n (pc := 655) dL_law_655 rfl rfl ?_
      refine zx_iload_n (pc := 656) dL_law_656 rfl rfl ?_
      refine zx_iconst (pc := 657) (v := 2) dL_law_657 (by decide) ?_
      refine zx_iadd (pc := 658) dL_law_658 ?_
      refine zx_sld (pc := 659) rfl (zs2 hi hN) dL_law_659 ?_
      refine zx_aload_n (pc := 660) dL_law_660 rfl rfl ?_
      refine zx_iload_n (pc := 661) dL_law_661 rfl rfl ?_
      refine zx_iconst (pc := 662) (v := 3) dL_law_662 (by decide) ?_
      refine zx_iadd (pc := 663) dL_law_663 ?_
      refine zx_sld (pc := 664) rfl (zs3 hi hN) dL_law_664 ?_
      refine zx_fV1 (pc := 665) (m_see_ok (d := d + 4) zLen g1 g2 g3 (by omega)) cl_L_102 (p75 zLen) rfl dL_law_665 rfl rfl (by omega) (Nat.le_of_ble_eq_true rfl) (by assumption) (by assumption) ?_
      refine zx_icmp_eq (pc := 668) (tgt := 934) dL_law_668 (by decide) (fun h668 => ?_) (fun h668 => absurd rfl h668)
      exact ih _ ⟨tb, T, gs, gk, gf, ga, H, F, gc, nt, ns, n2, n3, n4, n5, n6, n7, n8, tt, ts, t2, t3, t4, t5, t6, t7, t8, ws, w1, w2, w3, pt, b1, b2, b3, b4, b5, ab, n, z, sk, su, (upd sr S (xs (i + 1))), (upd so S (xs (i + 2))), (upd sh S (xs (i + 3))), (S + 1), sd, 0, mp, rc, rh, rg, rf, rd, pg, mq, bb, kk, wm, wo, q1, q2, q3, q4, wh, wu, i1, i2, f1, f2, vl, rfl, ⟨⟨jT, jH, jF, jn, jz, by omega⟩, jg, js, jb, jk, jr2, jo2⟩⟩
  · have hb1 : ¬ (¬ zIR (xs (i + 1)) = 0 ∧ ¬ (xs (i + 2)) < 0 ∧ ¬ 8 ≤ (xs (i + 2)) ∧ ¬ (xs (i + 3)) < 0 ∧ (xs (i + 3)) ≤ 2) := fun ⟨q1, q2, q3, q4, q5⟩ => g ⟨q1, fun q => (zIn_bad q).elim q2 (fun c => q3 ((z78 _).mpr c)), fun q => (zIn_bad q).elim q4 (fun c => c q5)⟩
    refine zx_aload_n (pc := 630) dL_law_630 rfl rfl ?_
    refine zx_aload_n (pc := 631) dL_law_631 rfl rfl ?_
    refine zx_iload_n (pc := 632) dL_law_632 rfl rfl ?_
    refine zx_iconst (pc := 633) (v := 1) dL_law_633 (by decide) ?_
    refine zx_iadd (pc := 634) dL_law_634 ?_
    refine zx_sld (pc := 635) rfl (zs1 hi hN) dL_law_635 ?_
    refine zx_aload_n (pc := 636) dL_law_636 rfl rfl ?_
    refine zx_iload_n (pc := 637) dL_law_637 rfl rfl ?_
    refine zx_iconst (pc := 638) (v := 2) dL_law_638 (by decide) ?_
    refine zx_iadd (pc := 639) dL_law_639 ?_
    refine zx_sld (pc := 640) rfl (zs2 hi hN) dL_law_640 ?_
    refine zx_aload_n (pc := 641) dL_law_641 rfl rfl ?_
    refine zx_iload_n (pc := 642) dL_law_642 rfl rfl ?_
    refine zx_iconst (pc := 643) (v := 3) dL_law_643 (by decide) ?_
    refine zx_iadd (pc := 644) dL_law_644 ?_
    refine zx_sld (pc := 645) rfl (zs3 hi hN) dL_law_645 ?_
    refine zx_fV1 (pc := 646) (q_see_bad (d := d + 4) hb1) cl_L_98 p0 rfl dL_law_646 rfl rfl (by omega) (Nat.le_of_ble_eq_true rfl) (by assumption) (by assumption) ?_
    refine zx_aload_n (pc := 649) dL_law_649 rfl rfl ?_
    refine zx_aload_n (pc := 650) dL_law_650 rfl rfl ?_
    refine zx_iload_n (pc := 651) dL_law_651 rfl rfl ?_
    refine zx_iconst (pc := 652) (v := 1) dL_law_652 (by decide) ?_
    refine zx_iadd (pc := 653) dL_law_653 ?_
    refine zx_sld (pc := 654) rfl (zs1 hi hN) dL_law_654 ?_
    refine zx_aload_n (pc := 655) dL_law_655 rfl rfl ?_
    refine zx_iload_n (pc := 656) dL_law_656 rfl rfl ?_
    refine zx_iconst (pc := 657) (v := 2) dL_law_657 (by decide) ?_
    refine zx_iadd (pc := 658) dL_law_658 ?_
    refine zx_sld (pc := 659) rfl (zs2 hi hN) dL_law_659 ?_
    refine zx_aload_n (pc := 660) dL_law_660 rfl rfl ?_
    refine zx_iload_n (pc := 661) dL_law_661 rfl rfl ?_
    refine zx_iconst (pc := 662) (v := 3) dL_law_662 (by decide) ?_
    refine zx_iadd (pc := 663) dL_law_663 ?_
    refine zx_sld (pc := 664) rfl (zs3 hi hN) dL_law_664 ?_
    refine zx_fV1 (pc := 665) (m_see_bad (d := d + 4) zLen g) cl_L_102 (p75 zLen) rfl dL_law_665 rfl rfl (by omega) (Nat.le_of_ble_eq_true rfl) (by assumption) (by assumption) ?_
    refine zx_icmp_eq (pc := 668) (tgt := 934) dL_law_668 (by decide) (fun h668 => ?_) (fun h668 => absurd rfl h668)
    exact ih _ ⟨tb, T, gs, gk, gf, ga, H, F, gc, nt, ns, n2, n3, n4, n5, n6, n7, n8, tt, ts, t2, t3, t4, t5, t6, t7, t8, ws, w1, w2, w3, pt, b1, b2, b3, b4, b5, ab, n, z, sk, su, sr, so, sh, S, sd, 0, mp, rc, rh, rg, rf, rd, pg, mq, bb, kk, wm, wo, q1, q2, q3, q4, wh, wu, i1, i2, f1, f2, vl, rfl, ⟨⟨jT, jH, jF, jn, jz, jS⟩, jg, js, jb, jk, jr, jo⟩⟩
set_option maxHeartbeats 8000000 in
theorem lw_unsee {nm : String} {d N i mc ms kc ks : Nat} {xs : Nat → Int32} {tb : Nat → Int32} {T : Nat} {gs : Nat → Int32} {gk : Nat → Int32} {gf : Nat → Int32} {ga : Nat → Int32} {H : Nat} {F : Nat} {gc : Int32} {nt : Nat → Int32} {ns : Nat → Int32} {n2 : Int32} {n3 : Int32} {n4 : Int32} {n5 : Int32} {n6 : Int32} {n7 : Int32} {n8 : Int32} {tt : Nat → Int32} {ts : Nat → Int32} {t2 : Int32} {t3 : Int32} {t4 : Int32} {t5 : Int32} {t6 : Int32} {t7 : Int32} {t8 : Int32} {ws : Nat → Int32} {w1 : Int32} {w2 : Int32} {w3 : Int32} {pt : Nat → Int32} {b1 : Int32} {b2 : Int32} {b3 : Int32} {b4 : Int32} {b5 : Int32} {ab : Nat → zStt} {n : Nat} {z : Nat} {sk : Nat → zStt} {su : Nat → Int32} {sr : Nat → Int32} {so : Nat → Int32} {sh : Nat → Int32} {S : Nat} {sd : Int64} {th : Int32} {mp : Int32} {rc : Int32} {rh : Int32} {rg : Nat → Int32} {rf : Int32} {rd : Nat → Int32} {pg : Nat → Int32} {mq : Nat → Int32} {bb : Nat → Int32} {kk : Nat → Int32} {wm : Int32} {wo : Int32} {q1 : Int32} {q2 : Int32} {q3 : Int32} {q4 : Int32} {wh : Int32} {wu : Int32} {i1 : Int32} {i2 : Int32} {f1 : Int32} {f2 : Int32} {vl : Nat → Int32} (hN : N ≤ 320) (hi : i + 5 ≤ N) (hc : kc ≤ mc) (hs : ks ≤ ms) (ih : ∀ sg', zI sg' → zX RL cL_law 4 (some .boolean) nm (some (N, xs)) (d + 6) 0 mc ms kc ks (fun r _ => r = some (.int 1)) 934 [some (.ref 1001), some (.ref 0), some (.ref 75), some (.int (nI i))] [] sg') (hJ : zJ T gs gk gf H F (nt, ns, n2, n3, n4, n5, n6, n7, n8) ab n z sk su sr so S pg bb kk) : zX RL cL_law 4 (some .boolean) nm (some (N, xs)) (d + 6) 0 mc ms kc ks (fun r _ => r = some (.int 1)) 673 [some (.ref 1001), some (.ref 0), some (.ref 75), some (.int (nI i))] [] (encC (tb, (nI T)) (gs, gk, gf, ga, (nI H), (nI F), gc) (nt, ns, n2, n3, n4, n5, n6, n7, n8) (tt, ts, t2, t3, t4, t5, t6, t7, t8) (ws, w1, w2, w3) (pt, b1, b2, b3, b4, b5) (ab, (nI n), (nI z)) (sk, su) (sr, so, sh, (nI S)) sd ++ encM th (tb, (nI T), mp) (gc, (nI H), gs, gk, (nI F), gf) (rc, rh, rg, rf, rd) pg mq (bb, (nI z)) (kk, su) ((nI S), sr, so, sh) sd (wm, wo) (q1, q2, q3, q4) (wh, wu) (i1, i2) (f1, f2) vl) := by
  obtain ⟨⟨jT, jH, jF, jn, jz, jS⟩, jg, js, jb, jk, jr, jo⟩ := hJ
  refine zx_aload_n (pc := 673) dL_law_673 rfl rfl ?_
  refine zx_fV1 (pc := 674) (q_unsee (d := d + 5) ) cl_L_103 p0 rfl dL_law_674 rfl rfl (by omega) (Nat.le_of_ble_eq_true rfl) (by assumption) (by assumption) ?_
  refine zx_aload_n (pc := 677) dL_law_677 rfl rfl ?_
  refine zx_fV1 (pc := 678) (m_unsee (d := d + 5) zLen) cl_L_106 (p75 zLen) rfl dL_law_678 rfl rfl (by omega) (Nat.le_of_ble_eq_true rfl) (by assumption) (by assumption) ?_
  refine zx_icmp_eq (pc := 681) (tgt := 934) dL_law_681 (by decide) (fun h681 => ?_) (fun h681 => absurd rfl h681)
  exact ih _ ⟨tb, T, gs, gk, gf, ga, H, F, gc, nt, ns, n2, n3, n4, n5, n6, n7, n8, tt, ts, t2, t3, t4, t5, t6, t7, t8, ws, w1, w2, w3, pt, b1, b2, b3, b4, b5, ab, n, z, sk, su, sr, so, sh, 0, sd, 0, mp, rc, rh, rg, rf, rd, pg, mq, bb, kk, wm, wo, q1, q2, q3, q4, wh, wu, i1, i2, f1, f2, vl, rfl, ⟨⟨jT, jH, jF, jn, jz, by omega⟩, jg, js, jb, jk, fun j hj => absurd hj (Nat.not_lt_zero _), fun j hj => absurd hj (Nat.not_lt_zero _)⟩⟩
set_option maxHeartbeats 8000000 in
theorem lw_courses {nm : String} {d N i mc ms kc ks : Nat} {xs : Nat → Int32} {tb : Nat → Int32} {T : Nat} {gs : Nat → Int32} {gk : Nat → Int32} {gf : Nat → Int32} {ga : Nat → Int32} {H : Nat} {F : Nat} {gc : Int32} {nt : Nat → Int32} {ns : Nat → Int32} {n2 : Int32} {n3 : Int32} {n4 : Int32} {n5 : Int32} {n6 : Int32} {n7 : Int32} {n8 : Int32} {tt : Nat → Int32} {ts : Nat → Int32} {t2 : Int32} {t3 : Int32} {t4 : Int32} {t5 : Int32} {t6 : Int32} {t7 : Int32} {t8 : Int32} {ws : Nat → Int32} {w1 : Int32} {w2 : Int32} {w3 : Int32} {pt : Nat → Int32} {b1 : Int32} {b2 : Int32} {b3 : Int32} {b4 : Int32} {b5 : Int32} {ab : Nat → zStt} {n : Nat} {z : Nat} {sk : Nat → zStt} {su : Nat → Int32} {sr : Nat → Int32} {so : Nat → Int32} {sh : Nat → Int32} {S : Nat} {sd : Int64} {th : Int32} {mp : Int32} {rc : Int32} {rh : Int32} {rg : Nat → Int32} {rf : Int32} {rd : Nat → Int32} {pg : Nat → Int32} {mq : Nat → Int32} {bb : Nat → Int32} {kk : Nat → Int32} {wm : Int32} {wo : Int32} {q1 : Int32} {q2 : Int32} {q3 : Int32} {q4 : Int32} {wh : Int32} {wu : Int32} {i1 : Int32} {i2 : Int32} {f1 : Int32} {f2 : Int32} {vl : Nat → Int32} (hN : N ≤ 320) (hi : i + 5 ≤ N) (hc : kc ≤ mc) (hs : ks ≤ ms) (ih : ∀ sg', zI sg' → zX RL cL_law 4 (some .boolean) nm (some (N, xs)) (d + 6) 0 mc ms kc ks (fun r _ => r = some (.int 1)) 934 [some (.ref 1001), some (.ref 0), some (.ref 75), some (.int (nI i))] [] sg') (hJ : zJ T gs gk gf H F (nt, ns, n2, n3, n4, n5, n6, n7, n8) ab n z sk su sr so S pg bb kk) : zX RL cL_law 4 (some .boolean) nm (some (N, xs)) (d + 6) 0 mc ms kc ks (fun r _ => r = some (.int 1)) 686 [some (.ref 1001), some (.ref 0), some (.ref 75), some (.int (nI i))] [] (encC (tb, (nI T)) (gs, gk, gf, ga, (nI H), (nI F), gc) (nt, ns, n2, n3, n4, n5, n6, n7, n8) (tt, ts, t2, t3, t4, t5, t6, t7, t8) (ws, w1, w2, w3) (pt, b1, b2, b3, b4, b5) (ab, (nI n), (nI z)) (sk, su) (sr, so, sh, (nI S)) sd ++ encM th (tb, (nI T), mp) (gc, (nI H), gs, gk, (nI F), gf) (rc, rh, rg, rf, rd) pg mq (bb, (nI z)) (kk, su) ((nI S), sr, so, sh) sd (wm, wo) (q1, q2, q3, q4) (wh, wu) (i1, i2) (f1, f2) vl) := by
  obtain ⟨⟨jT, jH, jF, jn, jz, jS⟩, jg, js, jb, jk, jr, jo⟩ := hJ
  by_cases g : ¬ zIn (xs (i + 1)) 1 8 = 0 ∧ ¬ zIn (xs (i + 2)) 0 2 = 0
  · obtain ⟨g1, g2⟩ := g
    obtain ⟨M, hM1, hM, eM⟩ := zWH_of (x := (xs (i + 1))) g1
    have g1' : ¬ zIn (nI M) 1 8 = 0 := by rw [← eM]; exact g1
    have jc := zCo_e (sr := sr) (sh := sh) (e := nI (2 ^ M - 1)) (wl := (wh, wu)) hM jo (2 ^ M) (Nat.le_refl _)
    refine zx_aload_n (pc := 686) dL_law_686 rfl rfl ?_
    refine zx_aload_n (pc := 687) dL_law_687 rfl rfl ?_
    refine zx_iload_n (pc := 688) dL_law_688 rfl rfl ?_
    refine zx_iconst (pc := 689) (v := 1) dL_law_689 (by decide) ?_
    refine zx_iadd (pc := 690) dL_law_690 ?_
    refine zx_sld (pc := 691) rfl (zs1 hi hN) dL_law_691 ?_
    refine zx_aload_n (pc := 692) dL_law_692 rfl rfl ?_
    refine zx_iload_n (pc := 693) dL_law_693 rfl rfl ?_
    refine zx_iconst (pc := 694) (v := 2) dL_law_694 (by decide) ?_
    refine zx_iadd (pc := 695) dL_law_695 ?_
    refine zx_sld (pc := 696) rfl (zs2 hi hN) dL_law_696 ?_
    rw [eM]
    refine zx_fV1 (pc := 697) (q_courses (d := d + 2) hM1 hM jS jr (zIn_ok g2).1 (zIn_ok g2).2) cl_L_107 p0 rfl dL_law_697 rfl rfl (by omega) (Nat.le_of_ble_eq_true rfl) (by assumption) (by assumption) ?_
    refine zx_aload_n (pc := 700) dL_law_700 rfl rfl ?_
    refine zx_aload_n (pc := 701) dL_law_701 rfl rfl ?_
    refine zx_iload_n (pc := 702) dL_law_702 rfl rfl ?_
    refine zx_iconst (pc := 703) (v := 1) dL_law_703 (by decide) ?_
    refine zx_iadd (pc := 704) dL_law_704 ?_
    refine zx_sld (pc := 705) rfl (zs1 hi hN) dL_law_705 ?_
    refine zx_aload_n (pc := 706) dL_law_706 rfl rfl ?_
    refine zx_iload_n (pc := 707) dL_law_707 rfl rfl ?_
    refine zx_iconst (pc := 708) (v := 2) dL_law_708 (by decide) ?_
    refine zx_iadd (pc := 709) dL_law_709 ?_
    refine zx_sld (pc := 710) rfl (zs2 hi hN) dL_law_710 ?_
    rw [eM]
    refine zx_fV1 (pc := 711) (m_courses (d := d + 1) zLen hM jS jr g1' g2) cl_L_110 (p75 zLen) rfl dL_law_711 rfl rfl (by omega) (Nat.le_of_ble_eq_true rfl) (by assumption) (by assumption) ?_
    refine zx_icmp_eq (pc := 714) (tgt := 934) dL_law_714 (by decide) (fun h714 => ?_) (fun h714 => absurd (by rw [jc]) h714)
    exact ih _ ⟨tb, T, gs, gk, gf, ga, H, F, gc, nt, ns, n2, n3, n4, n5, n6, n7, n8, tt, ts, t2, t3, t4, t5, t6, t7, t8, ws, w1, w2, w3, pt, b1, b2, b3, b4, b5, ab, n, z, sk, su, sr, so, sh, S, sd, 0, mp, rc, rh, rg, rf, rd, pg, mq, bb, kk, wm, wo, q1, q2, q3, q4, (zCmR sr so sh S M (nI (2 ^ M - 1)) (wh, wu) (2 ^ M)).2.1, (zCmR sr so sh S M (nI (2 ^ M - 1)) (wh, wu) (2 ^ M)).2.2, i1, i2, f1, f2, vl, rfl, ⟨⟨jT, jH, jF, jn, jz, jS⟩, jg, js, jb, jk, jr, jo⟩⟩
  · refine zx_aload_n (pc := 686) dL_law_686 rfl rfl ?_
    refine zx_aload_n (pc := 687) dL_law_687 rfl rfl ?_
    refine zx_iload_n (pc := 688) dL_law_688 rfl rfl ?_
    refine zx_iconst (pc := 689) (v := 1) dL_law_689 (by decide) ?_
    refine zx_iadd (pc := 690) dL_law_690 ?_
    refine zx_sld (pc := 691) rfl (zs1 hi hN) dL_law_691 ?_
    refine zx_aload_n (pc := 692) dL_law_692 rfl rfl ?_
    refine zx_iload_n (pc := 693) dL_law_693 rfl rfl ?_
    refine zx_iconst (pc := 694) (v := 2) dL_law_694 (by decide) ?_
    refine zx_iadd (pc := 695) dL_law_695 ?_
    refine zx_sld (pc := 696) rfl (zs2 hi hN) dL_law_696 ?_
    refine zx_fV1 (pc := 697) (q_courses_bad (d := d + 2) (fun ⟨q1, q2, q3⟩ => g ⟨q1, fun q => (zIn_bad q).elim q2 (fun c => c q3)⟩)) cl_L_107 p0 rfl dL_law_697 rfl rfl (by omega) (Nat.le_of_ble_eq_true rfl) (by assumption) (by assumption) ?_
    refine zx_aload_n (pc := 700) dL_law_700 rfl rfl ?_
    refine zx_aload_n (pc := 701) dL_law_701 rfl rfl ?_
    refine zx_iload_n (pc := 702) dL_law_702 rfl rfl ?_
    refine zx_iconst (pc := 703) (v := 1) dL_law_703 (by decide) ?_
    refine zx_iadd (pc := 704) dL_law_704 ?_
    refine zx_sld (pc := 705) rfl (zs1 hi hN) dL_law_705 ?_
    refine zx_aload_n (pc := 706) dL_law_706 rfl rfl ?_
    refine zx_iload_n (pc := 707) dL_law_707 rfl rfl ?_
    refine zx_iconst (pc := 708) (v := 2) dL_law_708 (by decide) ?_
    refine zx_iadd (pc := 709) dL_law_709 ?_
    refine zx_sld (pc := 710) rfl (zs2 hi hN) dL_law_710 ?_
    refine zx_fV1 (pc := 711) (m_courses_bad (d := d + 1) zLen g) cl_L_110 (p75 zLen) rfl dL_law_711 rfl rfl (by omega) (Nat.le_of_ble_eq_true rfl) (by assumption) (by assumption) ?_
    refine zx_icmp_eq (pc := 714) (tgt := 934) dL_law_714 (by decide) (fun h714 => ?_) (fun h714 => absurd rfl h714)
    exact ih _ ⟨tb, T, gs, gk, gf, ga, H, F, gc, nt, ns, n2, n3, n4, n5, n6, n7, n8, tt, ts, t2, t3, t4, t5, t6, t7, t8, ws, w1, w2, w3, pt, b1, b2, b3, b4, b5, ab, n, z, sk, su, sr, so, sh, S, sd, 0, mp, rc, rh, rg, rf, rd, pg, mq, bb, kk, wm, wo, q1, q2, q3, q4, wh, wu, i1, i2, f1, f2, vl, rfl, ⟨⟨jT, jH, jF, jn, jz, jS⟩, jg, js, jb, jk, jr, jo⟩⟩
set_option maxHeartbeats 8000000 in
theorem lw_rests {nm : String} {d N i mc ms kc ks : Nat} {xs : Nat → Int32} {tb : Nat → Int32} {T : Nat} {gs : Nat → Int32} {gk : Nat → Int32} {gf : Nat → Int32} {ga : Nat → Int32} {H : Nat} {F : Nat} {gc : Int32} {nt : Nat → Int32} {ns : Nat → Int32} {n2 : Int32} {n3 : Int32} {n4 : Int32} {n5 : Int32} {n6 : Int32} {n7 : Int32} {n8 : Int32} {tt : Nat → Int32} {ts : Nat → Int32} {t2 : Int32} {t3 : Int32} {t4 : Int32} {t5 : Int32} {t6 : Int32} {t7 : Int32} {t8 : Int32} {ws : Nat → Int32} {w1 : Int32} {w2 : Int32} {w3 : Int32} {pt : Nat → Int32} {b1 : Int32} {b2 : Int32} {b3 : Int32} {b4 : Int32} {b5 : Int32} {ab : Nat → zStt} {n : Nat} {z : Nat} {sk : Nat → zStt} {su : Nat → Int32} {sr : Nat → Int32} {so : Nat → Int32} {sh : Nat → Int32} {S : Nat} {sd : Int64} {th : Int32} {mp : Int32} {rc : Int32} {rh : Int32} {rg : Nat → Int32} {rf : Int32} {rd : Nat → Int32} {pg : Nat → Int32} {mq : Nat → Int32} {bb : Nat → Int32} {kk : Nat → Int32} {wm : Int32} {wo : Int32} {q1 : Int32} {q2 : Int32} {q3 : Int32} {q4 : Int32} {wh : Int32} {wu : Int32} {i1 : Int32} {i2 : Int32} {f1 : Int32} {f2 : Int32} {vl : Nat → Int32} (hN : N ≤ 320) (hi : i + 5 ≤ N) (hc : kc ≤ mc) (hs : ks ≤ ms) (ih : ∀ sg', zI sg' → zX RL cL_law 4 (some .boolean) nm (some (N, xs)) (d + 6) 0 mc ms kc ks (fun r _ => r = some (.int 1)) 934 [some (.ref 1001), some (.ref 0), some (.ref 75), some (.int (nI i))] [] sg') (hJ : zJ T gs gk gf H F (nt, ns, n2, n3, n4, n5, n6, n7, n8) ab n z sk su sr so S pg bb kk) : zX RL cL_law 4 (some .boolean) nm (some (N, xs)) (d + 6) 0 mc ms kc ks (fun r _ => r = some (.int 1)) 719 [some (.ref 1001), some (.ref 0), some (.ref 75), some (.int (nI i))] [] (encC (tb, (nI T)) (gs, gk, gf, ga, (nI H), (nI F), gc) (nt, ns, n2, n3, n4, n5, n6, n7, n8) (tt, ts, t2, t3, t4, t5, t6, t7, t8) (ws, w1, w2, w3) (pt, b1, b2, b3, b4, b5) (ab, (nI n), (nI z)) (sk, su) (sr, so, sh, (nI S)) sd ++ encM th (tb, (nI T), mp) (gc, (nI H), gs, gk, (nI F), gf) (rc, rh, rg, rf, rd) pg mq (bb, (nI z)) (kk, su) ((nI S), sr, so, sh) sd (wm, wo) (q1, q2, q3, q4) (wh, wu) (i1, i2) (f1, f2) vl) := by
  obtain ⟨⟨jT, jH, jF, jn, jz, jS⟩, jg, js, jb, jk, jr, jo⟩ := hJ
  by_cases g : zIn (xs (i + 1)) 0 1 = 0
  · refine zx_aload_n (pc := 719) dL_law_719 rfl rfl ?_
    refine zx_aload_n (pc := 720) dL_law_720 rfl rfl ?_
    refine zx_iload_n (pc := 721) dL_law_721 rfl rfl ?_
    refine zx_iconst (pc := 722) (v := 1) dL_law_722 (by decide) ?_
    refine zx_iadd (pc := 723) dL_law_723 ?_
    refine zx_sld (pc := 724) rfl (zs1 hi hN) dL_law_724 ?_
    refine zx_fV1 (pc := 725) (q_rests_bad (d := d + 1) (zIn_bad g)) cl_L_111 p0 rfl dL_law_725 rfl rfl (by omega) (Nat.le_of_ble_eq_true rfl) (by assumption) (by assumption) ?_
    refine zx_aload_n (pc := 728) dL_law_728 rfl rfl ?_
    refine zx_aload_n (pc := 729) dL_law_729 rfl rfl ?_
    refine zx_iload_n (pc := 730) dL_law_730 rfl rfl ?_
    refine zx_iconst (pc := 731) (v := 1) dL_law_731 (by decide) ?_
    refine zx_iadd (pc := 732) dL_law_732 ?_
    refine zx_sld (pc := 733) rfl (zs1 hi hN) dL_law_733 ?_
    refine zx_fV1 (pc := 734) (m_rests_bad (d := d + 3) zLen g) cl_L_114 (p75 zLen) rfl dL_law_734 rfl rfl (by omega) (Nat.le_of_ble_eq_true rfl) (by assumption) (by assumption) ?_
    refine zx_icmp_eq (pc := 737) (tgt := 934) dL_law_737 (by decide) (fun h737 => ?_) (fun h737 => absurd rfl h737)
    exact ih _ ⟨tb, T, gs, gk, gf, ga, H, F, gc, nt, ns, n2, n3, n4, n5, n6, n7, n8, tt, ts, t2, t3, t4, t5, t6, t7, t8, ws, w1, w2, w3, pt, b1, b2, b3, b4, b5, ab, n, z, sk, su, sr, so, sh, S, sd, 0, mp, rc, rh, rg, rf, rd, pg, mq, bb, kk, wm, wo, q1, q2, q3, q4, wh, wu, i1, i2, f1, f2, vl, rfl, ⟨⟨jT, jH, jF, jn, jz, jS⟩, jg, js, jb, jk, jr, jo⟩⟩
  · have jq : zSr H F (zC16 pg mq 16) (nt, ns, n2, n3, n4, n5, n6, n7, n8) := zSr_p jH jF js zC16j
    obtain ⟨y, v, M, Nn, -, -, r3, -, -, -, r7⟩ := zSr_b jg jH jF jq
    have jw := (zSr_w (gs := gs) (gk := gk) (gf := gf) (ws := ws) jH jF jq).1
    have r4 : (zDay gs gk gf (nI F) H nt (va_cpy ns ws 0 0 3) n2).2.2.1 = nI M := by rw [← r3, jw]
    refine zx_aload_n (pc := 719) dL_law_719 rfl rfl ?_
    refine zx_aload_n (pc := 720) dL_law_720 rfl rfl ?_
    refine zx_iload_n (pc := 721) dL_law_721 rfl rfl ?_
    refine zx_iconst (pc := 722) (v := 1) dL_law_722 (by decide) ?_
    refine zx_iadd (pc := 723) dL_law_723 ?_
    refine zx_sld (pc := 724) rfl (zs1 hi hN) dL_law_724 ?_
    refine zx_fV1 (pc := 725) (q_rests (d := d + 1) (M := M) jH jF (zIn_ok g).1 (zIn_ok g).2 r7 (by rw [r4, z9n r7])) cl_L_111 p0 rfl dL_law_725 rfl rfl (by omega) (Nat.le_of_ble_eq_true rfl) (by assumption) (by assumption) ?_
    refine zx_aload_n (pc := 728) dL_law_728 rfl rfl ?_
    refine zx_aload_n (pc := 729) dL_law_729 rfl rfl ?_
    refine zx_iload_n (pc := 730) dL_law_730 rfl rfl ?_
    refine zx_iconst (pc := 731) (v := 1) dL_law_731 (by decide) ?_
    refine zx_iadd (pc := 732) dL_law_732 ?_
    refine zx_sld (pc := 733) rfl (zs1 hi hN) dL_law_733 ?_
    refine zx_fV1 (pc := 734) (m_rests (d := d + 3) (M := M) zLen jH jF js.2.1 g r7 r3) cl_L_114 (p75 zLen) rfl dL_law_734 rfl rfl (by omega) (Nat.le_of_ble_eq_true rfl) (by assumption) (by assumption) ?_
    refine zx_icmp_eq (pc := 737) (tgt := 934) dL_law_737 (by decide) (fun h737 => ?_) (fun h737 => absurd (by rw [zRe_e M r7]) h737)
    exact ih _ ⟨tb, T, gs, gk, gf, ga, H, F, gc, nt, ns, n2, n3, n4, n5, n6, n7, n8, tt, ts, t2, t3, t4, t5, t6, t7, t8, (zDay gs gk gf (nI F) H nt (va_cpy ns ws 0 0 3) n2).1, (zDay gs gk gf (nI F) H nt (va_cpy ns ws 0 0 3) n2).2.1, (zDay gs gk gf (nI F) H nt (va_cpy ns ws 0 0 3) n2).2.2.1, (zDay gs gk gf (nI F) H nt (va_cpy ns ws 0 0 3) n2).2.2.2, pt, b1, b2, b3, b4, b5, ab, n, z, sk, su, sr, so, sh, S, sd, 0, mp, rc, rh, rg, rf, rd, pg, (zPf (zC16 pg mq 16) (zMd gs gk gf F H (zC16 pg mq 16))), bb, kk, (zMd gs gk gf F H (zC16 pg mq 16)).2.2.1, (zMd gs gk gf F H (zC16 pg mq 16)).2.2.2, q1, q2, q3, q4, wh, wu, i1, i2, (zRmO M 10).1, (zRmO M 10).2, vl, rfl, ⟨⟨jT, jH, jF, jn, jz, jS⟩, jg, js, jb, jk, jr, jo⟩⟩
set_option maxHeartbeats 8000000 in
theorem lw_seed {nm : String} {d N i mc ms kc ks : Nat} {xs : Nat → Int32} {tb : Nat → Int32} {T : Nat} {gs : Nat → Int32} {gk : Nat → Int32} {gf : Nat → Int32} {ga : Nat → Int32} {H : Nat} {F : Nat} {gc : Int32} {nt : Nat → Int32} {ns : Nat → Int32} {n2 : Int32} {n3 : Int32} {n4 : Int32} {n5 : Int32} {n6 : Int32} {n7 : Int32} {n8 : Int32} {tt : Nat → Int32} {ts : Nat → Int32} {t2 : Int32} {t3 : Int32} {t4 : Int32} {t5 : Int32} {t6 : Int32} {t7 : Int32} {t8 : Int32} {ws : Nat → Int32} {w1 : Int32} {w2 : Int32} {w3 : Int32} {pt : Nat → Int32} {b1 : Int32} {b2 : Int32} {b3 : Int32} {b4 : Int32} {b5 : Int32} {ab : Nat → zStt} {n : Nat} {z : Nat} {sk : Nat → zStt} {su : Nat → Int32} {sr : Nat → Int32} {so : Nat → Int32} {sh : Nat → Int32} {S : Nat} {sd : Int64} {th : Int32} {mp : Int32} {rc : Int32} {rh : Int32} {rg : Nat → Int32} {rf : Int32} {rd : Nat → Int32} {pg : Nat → Int32} {mq : Nat → Int32} {bb : Nat → Int32} {kk : Nat → Int32} {wm : Int32} {wo : Int32} {q1 : Int32} {q2 : Int32} {q3 : Int32} {q4 : Int32} {wh : Int32} {wu : Int32} {i1 : Int32} {i2 : Int32} {f1 : Int32} {f2 : Int32} {vl : Nat → Int32} (hN : N ≤ 320) (hi : i + 5 ≤ N) (hc : kc ≤ mc) (hs : ks ≤ ms) (ih : ∀ sg', zI sg' → zX RL cL_law 4 (some .boolean) nm (some (N, xs)) (d + 6) 0 mc ms kc ks (fun r _ => r = some (.int 1)) 934 [some (.ref 1001), some (.ref 0), some (.ref 75), some (.int (nI i))] [] sg') (hJ : zJ T gs gk gf H F (nt, ns, n2, n3, n4, n5, n6, n7, n8) ab n z sk su sr so S pg bb kk) : zX RL cL_law 4 (some .boolean) nm (some (N, xs)) (d + 6) 0 mc ms kc ks (fun r _ => r = some (.int 1)) 811 [some (.ref 1001), some (.ref 0), some (.ref 75), some (.int (nI i))] [] (encC (tb, (nI T)) (gs, gk, gf, ga, (nI H), (nI F), gc) (nt, ns, n2, n3, n4, n5, n6, n7, n8) (tt, ts, t2, t3, t4, t5, t6, t7, t8) (ws, w1, w2, w3) (pt, b1, b2, b3, b4, b5) (ab, (nI n), (nI z)) (sk, su) (sr, so, sh, (nI S)) sd ++ encM th (tb, (nI T), mp) (gc, (nI H), gs, gk, (nI F), gf) (rc, rh, rg, rf, rd) pg mq (bb, (nI z)) (kk, su) ((nI S), sr, so, sh) sd (wm, wo) (q1, q2, q3, q4) (wh, wu) (i1, i2) (f1, f2) vl) := by
  obtain ⟨⟨jT, jH, jF, jn, jz, jS⟩, jg, js, jb, jk, jr, jo⟩ := hJ
  refine zx_aload_n (pc := 811) dL_law_811 rfl rfl ?_
  refine zx_aload_n (pc := 812) dL_law_812 rfl rfl ?_
  refine zx_iload_n (pc := 813) dL_law_813 rfl rfl ?_
  refine zx_iconst (pc := 814) (v := 1) dL_law_814 (by decide) ?_
  refine zx_iadd (pc := 815) dL_law_815 ?_
  refine zx_sld (pc := 816) rfl (zs1 hi hN) dL_law_816 ?_
  refine zx_i2l (pc := 817) dL_law_817 rfl ?_
  refine zx_bipush (pc := 818) (v := 32) dL_law_818 (by decide) ?_
  refine zx_lshl (pc := 820) dL_law_820 rfl ?_
  refine zx_aload_n (pc := 821) dL_law_821 rfl rfl ?_
  refine zx_iload_n (pc := 822) dL_law_822 rfl rfl ?_
  refine zx_iconst (pc := 823) (v := 2) dL_law_823 (by decide) ?_
  refine zx_iadd (pc := 824) dL_law_824 ?_
  refine zx_sld (pc := 825) rfl (zs2 hi hN) dL_law_825 ?_
  refine zx_i2l (pc := 826) dL_law_826 rfl ?_
  refine zx_ldc2 (pc := 827) kl_L_120 dL_law_827 ?_
  refine zx_land (pc := 830) dL_law_830 ?_
  refine zx_lor (pc := 831) dL_law_831 ?_
  refine zx_fV1 (pc := 832) (q_seed (d := d + 5) ) cl_L_122 p0 rfl dL_law_832 rfl rfl (by omega) (Nat.le_of_ble_eq_true rfl) (by assumption) (by assumption) ?_
  refine zx_aload_n (pc := 835) dL_law_835 rfl rfl ?_
  refine zx_aload_n (pc := 836) dL_law_836 rfl rfl ?_
  refine zx_iload_n (pc := 837) dL_law_837 rfl rfl ?_
  refine zx_iconst (pc := 838) (v := 1) dL_law_838 (by decide) ?_
  refine zx_iadd (pc := 839) dL_law_839 ?_
  refine zx_sld (pc := 840) rfl (zs1 hi hN) dL_law_840 ?_
  refine zx_i2l (pc := 841) dL_law_841 rfl ?_
  refine zx_bipush (pc := 842) (v := 32) dL_law_842 (by decide) ?_
  refine zx_lshl (pc := 844) dL_law_844 rfl ?_
  refine zx_aload_n (pc := 845) dL_law_845 rfl rfl ?_
  refine zx_iload_n (pc := 846) dL_law_846 rfl rfl ?_
  refine zx_iconst (pc := 847) (v := 2) dL_law_847 (by decide) ?_
  refine zx_iadd (pc := 848) dL_law_848 ?_
  refine zx_sld (pc := 849) rfl (zs2 hi hN) dL_law_849 ?_
  refine zx_i2l (pc := 850) dL_law_850 rfl ?_
  refine zx_ldc2 (pc := 851) kl_L_120 dL_law_851 ?_
  refine zx_land (pc := 854) dL_law_854 ?_
  refine zx_lor (pc := 855) dL_law_855 ?_
  refine zx_fV1 (pc := 856) (m_seed (d := d + 5) zLen) cl_L_126 (p75 zLen) rfl dL_law_856 rfl rfl (by omega) (Nat.le_of_ble_eq_true rfl) (by assumption) (by assumption) ?_
  refine zx_lcmp (pc := 859) dL_law_859 ?_
  refine zx_if_eq (pc := 860) (tgt := 934) dL_law_860 (by decide) (fun h860 => ?_) (fun h860 => absurd (zlc_0 _) h860)
  exact ih _ ⟨tb, T, gs, gk, gf, ga, H, F, gc, nt, ns, n2, n3, n4, n5, n6, n7, n8, tt, ts, t2, t3, t4, t5, t6, t7, t8, ws, w1, w2, w3, pt, b1, b2, b3, b4, b5, ab, n, z, sk, su, sr, so, sh, S, _, 0, mp, rc, rh, rg, rf, rd, pg, mq, bb, kk, wm, wo, q1, q2, q3, q4, wh, wu, i1, i2, f1, f2, vl, rfl, ⟨⟨jT, jH, jF, jn, jz, jS⟩, jg, js, jb, jk, jr, jo⟩⟩
set_option maxHeartbeats 8000000 in
theorem lw_years {nm : String} {d N i mc ms kc ks : Nat} {xs : Nat → Int32} {tb : Nat → Int32} {T : Nat} {gs : Nat → Int32} {gk : Nat → Int32} {gf : Nat → Int32} {ga : Nat → Int32} {H : Nat} {F : Nat} {gc : Int32} {nt : Nat → Int32} {ns : Nat → Int32} {n2 : Int32} {n3 : Int32} {n4 : Int32} {n5 : Int32} {n6 : Int32} {n7 : Int32} {n8 : Int32} {tt : Nat → Int32} {ts : Nat → Int32} {t2 : Int32} {t3 : Int32} {t4 : Int32} {t5 : Int32} {t6 : Int32} {t7 : Int32} {t8 : Int32} {ws : Nat → Int32} {w1 : Int32} {w2 : Int32} {w3 : Int32} {pt : Nat → Int32} {b1 : Int32} {b2 : Int32} {b3 : Int32} {b4 : Int32} {b5 : Int32} {ab : Nat → zStt} {n : Nat} {z : Nat} {sk : Nat → zStt} {su : Nat → Int32} {sr : Nat → Int32} {so : Nat → Int32} {sh : Nat → Int32} {S : Nat} {sd : Int64} {th : Int32} {mp : Int32} {rc : Int32} {rh : Int32} {rg : Nat → Int32} {rf : Int32} {rd : Nat → Int32} {pg : Nat → Int32} {mq : Nat → Int32} {bb : Nat → Int32} {kk : Nat → Int32} {wm : Int32} {wo : Int32} {q1 : Int32} {q2 : Int32} {q3 : Int32} {q4 : Int32} {wh : Int32} {wu : Int32} {i1 : Int32} {i2 : Int32} {f1 : Int32} {f2 : Int32} {vl : Nat → Int32} (hN : N ≤ 320) (hi : i + 5 ≤ N) (hc : kc ≤ mc) (hs : ks ≤ ms) (ih : ∀ sg', zI sg' → zX RL cL_law 4 (some .boolean) nm (some (N, xs)) (d + 6) 0 mc ms kc ks (fun r _ => r = some (.int 1)) 934 [some (.ref 1001), some (.ref 0), some (.ref 75), some (.int (nI i))] [] sg') (hJ : zJ T gs gk gf H F (nt, ns, n2, n3, n4, n5, n6, n7, n8) ab n z sk su sr so S pg bb kk) : zX RL cL_law 4 (some .boolean) nm (some (N, xs)) (d + 6) 0 mc ms kc ks (fun r _ => r = some (.int 1)) 865 [some (.ref 1001), some (.ref 0), some (.ref 75), some (.int (nI i))] [] (encC (tb, (nI T)) (gs, gk, gf, ga, (nI H), (nI F), gc) (nt, ns, n2, n3, n4, n5, n6, n7, n8) (tt, ts, t2, t3, t4, t5, t6, t7, t8) (ws, w1, w2, w3) (pt, b1, b2, b3, b4, b5) (ab, (nI n), (nI z)) (sk, su) (sr, so, sh, (nI S)) sd ++ encM th (tb, (nI T), mp) (gc, (nI H), gs, gk, (nI F), gf) (rc, rh, rg, rf, rd) pg mq (bb, (nI z)) (kk, su) ((nI S), sr, so, sh) sd (wm, wo) (q1, q2, q3, q4) (wh, wu) (i1, i2) (f1, f2) vl) := by
  obtain ⟨⟨jT, jH, jF, jn, jz, jS⟩, jg, js, jb, jk, jr, jo⟩ := hJ
  by_cases g : zIn (xs (i + 1)) 1 20 = 0
  · refine zx_aload_n (pc := 865) dL_law_865 rfl rfl ?_
    refine zx_aload_n (pc := 866) dL_law_866 rfl rfl ?_
    refine zx_iload_n (pc := 867) dL_law_867 rfl rfl ?_
    refine zx_iconst (pc := 868) (v := 1) dL_law_868 (by decide) ?_
    refine zx_iadd (pc := 869) dL_law_869 ?_
    refine zx_sld (pc := 870) rfl (zs1 hi hN) dL_law_870 ?_
    refine zx_fV1 (pc := 871) (q_years_bad (d := d + 1) (zIn_bad g)) cl_L_127 p0 rfl dL_law_871 rfl rfl (by omega) (Nat.le_of_ble_eq_true rfl) (by assumption) (by assumption) ?_
    refine zx_aload_n (pc := 874) dL_law_874 rfl rfl ?_
    refine zx_aload_n (pc := 875) dL_law_875 rfl rfl ?_
    refine zx_iload_n (pc := 876) dL_law_876 rfl rfl ?_
    refine zx_iconst (pc := 877) (v := 1) dL_law_877 (by decide) ?_
    refine zx_iadd (pc := 878) dL_law_878 ?_
    refine zx_sld (pc := 879) rfl (zs1 hi hN) dL_law_879 ?_
    refine zx_fV1 (pc := 880) (m_years_bad (d := d + 2) zLen g) cl_L_130 (p75 zLen) rfl dL_law_880 rfl rfl (by omega) (Nat.le_of_ble_eq_true rfl) (by assumption) (by assumption) ?_
    refine zx_icmp_eq (pc := 883) (tgt := 934) dL_law_883 (by decide) (fun h883 => ?_) (fun h883 => absurd rfl h883)
    exact ih _ ⟨tb, T, gs, gk, gf, ga, H, F, gc, nt, ns, n2, n3, n4, n5, n6, n7, n8, tt, ts, t2, t3, t4, t5, t6, t7, t8, ws, w1, w2, w3, pt, b1, b2, b3, b4, b5, ab, n, z, sk, su, sr, so, sh, S, sd, 0, mp, rc, rh, rg, rf, rd, pg, mq, bb, kk, wm, wo, q1, q2, q3, q4, wh, wu, i1, i2, f1, f2, vl, rfl, ⟨⟨jT, jH, jF, jn, jz, jS⟩, jg, js, jb, jk, jr, jo⟩⟩
  · obtain ⟨M, m1, m2, eM⟩ := zIn_x (a := 1) (b := 20) (by decide) (by decide) g
    have g' : ¬ zIn (nI M) 1 20 = 0 := by rw [← eM]; exact g
    have jz2 : zSr H F (zC16 pg mq 16) (zcpS (nt, ns, n2, n3, n4, n5, n6, n7, n8) (tt, ts, t2, t3, t4, t5, t6, t7, t8)) := zSr_s jF (zSr_p jH jF js zC16j)
    obtain ⟨y1, y2, y3⟩ := zYr_e (gc := gc) (s0 := sd) (w0 := (ws, w1, w2, w3)) (mw := (wm, wo)) jg jH jF jz2 M
    have y4 : (zYr gs gk gf F H gc sd (zcpS (nt, ns, n2, n3, n4, n5, n6, n7, n8) (tt, ts, t2, t3, t4, t5, t6, t7, t8)) (ws, w1, w2, w3) M).2.1.2.2.2.2.2.2.2.1 - n7 = (zYm gs gk gf F H gc sd (zC16 pg mq 16) (wm, wo) M).2.2.2 := by rw [y3]; exact zaddsub _ _
    refine zx_aload_n (pc := 865) dL_law_865 rfl rfl ?_
    refine zx_aload_n (pc := 866) dL_law_866 rfl rfl ?_
    refine zx_iload_n (pc := 867) dL_law_867 rfl rfl ?_
    refine zx_iconst (pc := 868) (v := 1) dL_law_868 (by decide) ?_
    refine zx_iadd (pc := 869) dL_law_869 ?_
    refine zx_sld (pc := 870) rfl (zs1 hi hN) dL_law_870 ?_
    rw [eM]
    refine zx_fV1 (pc := 871) (q_years (d := d + 1) jH jF m1 m2) cl_L_127 p0 rfl dL_law_871 rfl rfl (by omega) (Nat.le_of_ble_eq_true rfl) (by assumption) (by assumption) ?_
    refine zx_aload_n (pc := 874) dL_law_874 rfl rfl ?_
    refine zx_aload_n (pc := 875) dL_law_875 rfl rfl ?_
    refine zx_iload_n (pc := 876) dL_law_876 rfl rfl ?_
    refine zx_iconst (pc := 877) (v := 1) dL_law_877 (by decide) ?_
    refine zx_iadd (pc := 878) dL_law_878 ?_
    refine zx_sld (pc := 879) rfl (zs1 hi hN) dL_law_879 ?_
    rw [eM]
    refine zx_fV1 (pc := 880) (m_years (d := d + 2) zLen jH jF js.2.1 m2 g') cl_L_130 (p75 zLen) rfl dL_law_880 rfl rfl (by omega) (Nat.le_of_ble_eq_true rfl) (by assumption) (by assumption) ?_
    refine zx_icmp_eq (pc := 883) (tgt := 934) dL_law_883 (by decide) (fun h883 => ?_) (fun h883 => absurd y4 h883)
    exact ih _ ⟨tb, T, gs, gk, gf, ga, H, F, gc, nt, ns, n2, n3, n4, n5, n6, n7, n8, (zYr gs gk gf F H gc sd (zcpS (nt, ns, n2, n3, n4, n5, n6, n7, n8) (tt, ts, t2, t3, t4, t5, t6, t7, t8)) (ws, w1, w2, w3) M).2.1.1, (zYr gs gk gf F H gc sd (zcpS (nt, ns, n2, n3, n4, n5, n6, n7, n8) (tt, ts, t2, t3, t4, t5, t6, t7, t8)) (ws, w1, w2, w3) M).2.1.2.1, (zYr gs gk gf F H gc sd (zcpS (nt, ns, n2, n3, n4, n5, n6, n7, n8) (tt, ts, t2, t3, t4, t5, t6, t7, t8)) (ws, w1, w2, w3) M).2.1.2.2.1, (zYr gs gk gf F H gc sd (zcpS (nt, ns, n2, n3, n4, n5, n6, n7, n8) (tt, ts, t2, t3, t4, t5, t6, t7, t8)) (ws, w1, w2, w3) M).2.1.2.2.2.1, (zYr gs gk gf F H gc sd (zcpS (nt, ns, n2, n3, n4, n5, n6, n7, n8) (tt, ts, t2, t3, t4, t5, t6, t7, t8)) (ws, w1, w2, w3) M).2.1.2.2.2.2.1, (zYr gs gk gf F H gc sd (zcpS (nt, ns, n2, n3, n4, n5, n6, n7, n8) (tt, ts, t2, t3, t4, t5, t6, t7, t8)) (ws, w1, w2, w3) M).2.1.2.2.2.2.2.1, (zYr gs gk gf F H gc sd (zcpS (nt, ns, n2, n3, n4, n5, n6, n7, n8) (tt, ts, t2, t3, t4, t5, t6, t7, t8)) (ws, w1, w2, w3) M).2.1.2.2.2.2.2.2.1, (zYr gs gk gf F H gc sd (zcpS (nt, ns, n2, n3, n4, n5, n6, n7, n8) (tt, ts, t2, t3, t4, t5, t6, t7, t8)) (ws, w1, w2, w3) M).2.1.2.2.2.2.2.2.2.1, (zYr gs gk gf F H gc sd (zcpS (nt, ns, n2, n3, n4, n5, n6, n7, n8) (tt, ts, t2, t3, t4, t5, t6, t7, t8)) (ws, w1, w2, w3) M).2.1.2.2.2.2.2.2.2.2, (zYr gs gk gf F H gc sd (zcpS (nt, ns, n2, n3, n4, n5, n6, n7, n8) (tt, ts, t2, t3, t4, t5, t6, t7, t8)) (ws, w1, w2, w3) M).2.2.1, (zYr gs gk gf F H gc sd (zcpS (nt, ns, n2, n3, n4, n5, n6, n7, n8) (tt, ts, t2, t3, t4, t5, t6, t7, t8)) (ws, w1, w2, w3) M).2.2.2.1, (zYr gs gk gf F H gc sd (zcpS (nt, ns, n2, n3, n4, n5, n6, n7, n8) (tt, ts, t2, t3, t4, t5, t6, t7, t8)) (ws, w1, w2, w3) M).2.2.2.2.1, (zYr gs gk gf F H gc sd (zcpS (nt, ns, n2, n3, n4, n5, n6, n7, n8) (tt, ts, t2, t3, t4, t5, t6, t7, t8)) (ws, w1, w2, w3) M).2.2.2.2.2, pt, b1, b2, b3, b4, b5, ab, n, z, sk, su, sr, so, sh, S, (zYr gs gk gf F H gc sd (zcpS (nt, ns, n2, n3, n4, n5, n6, n7, n8) (tt, ts, t2, t3, t4, t5, t6, t7, t8)) (ws, w1, w2, w3) M).1, 0, mp, rc, rh, rg, rf, rd, pg, (zYm gs gk gf F H gc sd (zC16 pg mq 16) (wm, wo) M).2.1, bb, kk, (zYm gs gk gf F H gc sd (zC16 pg mq 16) (wm, wo) M).2.2.1.1, (zYm gs gk gf F H gc sd (zC16 pg mq 16) (wm, wo) M).2.2.1.2, q1, q2, q3, q4, wh, wu, i1, i2, f1, f2, vl, (by rw [← y1]; first | done | rfl), ⟨⟨jT, jH, jF, jn, jz, jS⟩, jg, js, jb, jk, jr, jo⟩⟩
set_option maxHeartbeats 8000000 in
theorem lw_keep {nm : String} {d N i mc ms kc ks : Nat} {xs : Nat → Int32} {tb : Nat → Int32} {T : Nat} {gs : Nat → Int32} {gk : Nat → Int32} {gf : Nat → Int32} {ga : Nat → Int32} {H : Nat} {F : Nat} {gc : Int32} {nt : Nat → Int32} {ns : Nat → Int32} {n2 : Int32} {n3 : Int32} {n4 : Int32} {n5 : Int32} {n6 : Int32} {n7 : Int32} {n8 : Int32} {tt : Nat → Int32} {ts : Nat → Int32} {t2 : Int32} {t3 : Int32} {t4 : Int32} {t5 : Int32} {t6 : Int32} {t7 : Int32} {t8 : Int32} {ws : Nat → Int32} {w1 : Int32} {w2 : Int32} {w3 : Int32} {pt : Nat → Int32} {b1 : Int32} {b2 : Int32} {b3 : Int32} {b4 : Int32} {b5 : Int32} {ab : Nat → zStt} {n : Nat} {z : Nat} {sk : Nat → zStt} {su : Nat → Int32} {sr : Nat → Int32} {so : Nat → Int32} {sh : Nat → Int32} {S : Nat} {sd : Int64} {th : Int32} {mp : Int32} {rc : Int32} {rh : Int32} {rg : Nat → Int32} {rf : Int32} {rd : Nat → Int32} {pg : Nat → Int32} {mq : Nat → Int32} {bb : Nat → Int32} {kk : Nat → Int32} {wm : Int32} {wo : Int32} {q1 : Int32} {q2 : Int32} {q3 : Int32} {q4 : Int32} {wh : Int32} {wu : Int32} {i1 : Int32} {i2 : Int32} {f1 : Int32} {f2 : Int32} {vl : Nat → Int32} (hN : N ≤ 320) (hi : i + 5 ≤ N) (hc : kc ≤ mc) (hs : ks ≤ ms) (ih : ∀ sg', zI sg' → zX RL cL_law 4 (some .boolean) nm (some (N, xs)) (d + 6) 0 mc ms kc ks (fun r _ => r = some (.int 1)) 934 [some (.ref 1001), some (.ref 0), some (.ref 75), some (.int (nI i))] [] sg') (hJ : zJ T gs gk gf H F (nt, ns, n2, n3, n4, n5, n6, n7, n8) ab n z sk su sr so S pg bb kk) : zX RL cL_law 4 (some .boolean) nm (some (N, xs)) (d + 6) 0 mc ms kc ks (fun r _ => r = some (.int 1)) 888 [some (.ref 1001), some (.ref 0), some (.ref 75), some (.int (nI i))] [] (encC (tb, (nI T)) (gs, gk, gf, ga, (nI H), (nI F), gc) (nt, ns, n2, n3, n4, n5, n6, n7, n8) (tt, ts, t2, t3, t4, t5, t6, t7, t8) (ws, w1, w2, w3) (pt, b1, b2, b3, b4, b5) (ab, (nI n), (nI z)) (sk, su) (sr, so, sh, (nI S)) sd ++ encM th (tb, (nI T), mp) (gc, (nI H), gs, gk, (nI F), gf) (rc, rh, rg, rf, rd) pg mq (bb, (nI z)) (kk, su) ((nI S), sr, so, sh) sd (wm, wo) (q1, q2, q3, q4) (wh, wu) (i1, i2) (f1, f2) vl) := by
  obtain ⟨⟨jT, jH, jF, jn, jz, jS⟩, jg, js, jb, jk, jr, jo⟩ := hJ
  by_cases g : zIn (xs (i + 1)) 0 1 = 0
  · refine zx_aload_n (pc := 888) dL_law_888 rfl rfl ?_
    refine zx_aload_n (pc := 889) dL_law_889 rfl rfl ?_
    refine zx_iload_n (pc := 890) dL_law_890 rfl rfl ?_
    refine zx_iconst (pc := 891) (v := 1) dL_law_891 (by decide) ?_
    refine zx_iadd (pc := 892) dL_law_892 ?_
    refine zx_sld (pc := 893) rfl (zs1 hi hN) dL_law_893 ?_
    refine zx_fV1 (pc := 894) (q_keep_un (d := d + 2) (by rw [zH2]; exact g)) cl_L_131 p0 rfl dL_law_894 rfl rfl (by omega) (Nat.le_of_ble_eq_true rfl) (by assumption) (by assumption) ?_
    refine zx_aload_n (pc := 897) dL_law_897 rfl rfl ?_
    refine zx_aload_n (pc := 898) dL_law_898 rfl rfl ?_
    refine zx_iload_n (pc := 899) dL_law_899 rfl rfl ?_
    refine zx_iconst (pc := 900) (v := 1) dL_law_900 (by decide) ?_
    refine zx_iadd (pc := 901) dL_law_901 ?_
    refine zx_sld (pc := 902) rfl (zs1 hi hN) dL_law_902 ?_
    refine zx_fV1 (pc := 903) (m_keep_un (d := d + 4) zLen g) cl_L_134 (p75 zLen) rfl dL_law_903 rfl rfl (by omega) (Nat.le_of_ble_eq_true rfl) (by assumption) (by assumption) ?_
    refine zx_icmp_eq (pc := 906) (tgt := 934) dL_law_906 (by decide) (fun h906 => ?_) (fun h906 => absurd rfl h906)
    exact ih _ ⟨tb, T, gs, gk, gf, ga, H, F, gc, nt, ns, n2, n3, n4, n5, n6, n7, n8, tt, ts, t2, t3, t4, t5, t6, t7, t8, ws, w1, w2, w3, pt, b1, b2, b3, b4, b5, ab, n, z, sk, su, sr, so, sh, S, sd, 0, mp, rc, rh, rg, rf, rd, pg, mq, bb, kk, wm, wo, q1, q2, q3, q4, wh, wu, i1, i2, f1, f2, vl, rfl, ⟨⟨jT, jH, jF, jn, jz, jS⟩, jg, js, jb, jk, jr, jo⟩⟩
  · obtain ⟨k, -, hk, ek⟩ := zIn_x (a := 0) (b := 1) (by decide) (by decide) g
    have jk2 : ∀ j, j < 2 → ¬ upd su k 1 j = 0 → zSr H F (fun i => zPut kk pg (16 * k) 16 (16 * j + i)) (va_up sk k (zcpS (nt, ns, n2, n3, n4, n5, n6, n7, n8) (sk k)) j) := fun j hj hn => by
      by_cases e : j = k
      · subst e
        rw [show va_up sk j (zcpS (nt, ns, n2, n3, n4, n5, n6, n7, n8) (sk j)) j = zcpS (nt, ns, n2, n3, n4, n5, n6, n7, n8) (sk j) by unfold va_up; rw [if_pos rfl]]
        refine zSr_p jH jF (zSr_s jF js) (fun i hi => ?_)
        unfold zPut
        rw [if_pos (by omega), Nat.add_sub_cancel_left]
      · rw [pk_un e] at hn
        rw [show va_up sk k (zcpS (nt, ns, n2, n3, n4, n5, n6, n7, n8) (sk k)) j = sk j by unfold va_up; rw [if_neg e]]
        refine zSr_p jH jF (jk j hj hn) (fun i hi => ?_)
        unfold zPut
        rw [if_neg (by omega)]
    refine zx_aload_n (pc := 888) dL_law_888 rfl rfl ?_
    refine zx_aload_n (pc := 889) dL_law_889 rfl rfl ?_
    refine zx_iload_n (pc := 890) dL_law_890 rfl rfl ?_
    refine zx_iconst (pc := 891) (v := 1) dL_law_891 (by decide) ?_
    refine zx_iadd (pc := 892) dL_law_892 ?_
    refine zx_sld (pc := 893) rfl (zs1 hi hN) dL_law_893 ?_
    rw [ek]
    refine zx_fV1 (pc := 894) (q_keep (d := d + 2) (show k < 2 by omega)) cl_L_131 p0 rfl dL_law_894 rfl rfl (by omega) (Nat.le_of_ble_eq_true rfl) (by assumption) (by assumption) ?_
    refine zx_aload_n (pc := 897) dL_law_897 rfl rfl ?_
    refine zx_aload_n (pc := 898) dL_law_898 rfl rfl ?_
    refine zx_iload_n (pc := 899) dL_law_899 rfl rfl ?_
    refine zx_iconst (pc := 900) (v := 1) dL_law_900 (by decide) ?_
    refine zx_iadd (pc := 901) dL_law_901 ?_
    refine zx_sld (pc := 902) rfl (zs1 hi hN) dL_law_902 ?_
    rw [ek]
    refine zx_fV1 (pc := 903) (m_keep (d := d + 4) zLen (show k < 2 by omega)) cl_L_134 (p75 zLen) rfl dL_law_903 rfl rfl (by omega) (Nat.le_of_ble_eq_true rfl) (by assumption) (by assumption) ?_
    refine zx_icmp_eq (pc := 906) (tgt := 934) dL_law_906 (by decide) (fun h906 => ?_) (fun h906 => absurd js.2.2.2.2.2.2.2.symm h906)
    exact ih _ ⟨tb, T, gs, gk, gf, ga, H, F, gc, nt, ns, n2, n3, n4, n5, n6, n7, n8, tt, ts, t2, t3, t4, t5, t6, t7, t8, ws, w1, w2, w3, pt, b1, b2, b3, b4, b5, ab, n, z, (va_up sk k (zcpS (nt, ns, n2, n3, n4, n5, n6, n7, n8) (sk k))), (upd su k 1), sr, so, sh, S, sd, 0, mp, rc, rh, rg, rf, rd, pg, mq, bb, (zPut kk pg (16 * k) 16), wm, wo, q1, q2, q3, q4, wh, wu, i1, i2, f1, f2, vl, rfl, ⟨⟨jT, jH, jF, jn, jz, jS⟩, jg, js, jb, jk2, jr, jo⟩⟩
set_option maxHeartbeats 8000000 in
theorem lw_again {nm : String} {d N i mc ms kc ks : Nat} {xs : Nat → Int32} {tb : Nat → Int32} {T : Nat} {gs : Nat → Int32} {gk : Nat → Int32} {gf : Nat → Int32} {ga : Nat → Int32} {H : Nat} {F : Nat} {gc : Int32} {nt : Nat → Int32} {ns : Nat → Int32} {n2 : Int32} {n3 : Int32} {n4 : Int32} {n5 : Int32} {n6 : Int32} {n7 : Int32} {n8 : Int32} {tt : Nat → Int32} {ts : Nat → Int32} {t2 : Int32} {t3 : Int32} {t4 : Int32} {t5 : Int32} {t6 : Int32} {t7 : Int32} {t8 : Int32} {ws : Nat → Int32} {w1 : Int32} {w2 : Int32} {w3 : Int32} {pt : Nat → Int32} {b1 : Int32} {b2 : Int32} {b3 : Int32} {b4 : Int32} {b5 : Int32} {ab : Nat → zStt} {n : Nat} {z : Nat} {sk : Nat → zStt} {su : Nat → Int32} {sr : Nat → Int32} {so : Nat → Int32} {sh : Nat → Int32} {S : Nat} {sd : Int64} {th : Int32} {mp : Int32} {rc : Int32} {rh : Int32} {rg : Nat → Int32} {rf : Int32} {rd : Nat → Int32} {pg : Nat → Int32} {mq : Nat → Int32} {bb : Nat → Int32} {kk : Nat → Int32} {wm : Int32} {wo : Int32} {q1 : Int32} {q2 : Int32} {q3 : Int32} {q4 : Int32} {wh : Int32} {wu : Int32} {i1 : Int32} {i2 : Int32} {f1 : Int32} {f2 : Int32} {vl : Nat → Int32} (hN : N ≤ 320) (hi : i + 5 ≤ N) (hc : kc ≤ mc) (hs : ks ≤ ms) (ih : ∀ sg', zI sg' → zX RL cL_law 4 (some .boolean) nm (some (N, xs)) (d + 6) 0 mc ms kc ks (fun r _ => r = some (.int 1)) 934 [some (.ref 1001), some (.ref 0), some (.ref 75), some (.int (nI i))] [] sg') (hJ : zJ T gs gk gf H F (nt, ns, n2, n3, n4, n5, n6, n7, n8) ab n z sk su sr so S pg bb kk) : zX RL cL_law 4 (some .boolean) nm (some (N, xs)) (d + 6) 0 mc ms kc ks (fun r _ => r = some (.int 1)) 911 [some (.ref 1001), some (.ref 0), some (.ref 75), some (.int (nI i))] [] (encC (tb, (nI T)) (gs, gk, gf, ga, (nI H), (nI F), gc) (nt, ns, n2, n3, n4, n5, n6, n7, n8) (tt, ts, t2, t3, t4, t5, t6, t7, t8) (ws, w1, w2, w3) (pt, b1, b2, b3, b4, b5) (ab, (nI n), (nI z)) (sk, su) (sr, so, sh, (nI S)) sd ++ encM th (tb, (nI T), mp) (gc, (nI H), gs, gk, (nI F), gf) (rc, rh, rg, rf, rd) pg mq (bb, (nI z)) (kk, su) ((nI S), sr, so, sh) sd (wm, wo) (q1, q2, q3, q4) (wh, wu) (i1, i2) (f1, f2) vl) := by
  obtain ⟨⟨jT, jH, jF, jn, jz, jS⟩, jg, js, jb, jk, jr, jo⟩ := hJ
  by_cases g : zIn (xs (i + 1)) 0 1 = 0
  · refine zx_aload_n (pc := 911) dL_law_911 rfl rfl ?_
    refine zx_aload_n (pc := 912) dL_law_912 rfl rfl ?_
    refine zx_iload_n (pc := 913) dL_law_913 rfl rfl ?_
    refine zx_iconst (pc := 914) (v := 1) dL_law_914 (by decide) ?_
    refine zx_iadd (pc := 915) dL_law_915 ?_
    refine zx_sld (pc := 916) rfl (zs1 hi hN) dL_law_916 ?_
    refine zx_fV1 (pc := 917) (q_again_un (d := d + 2) (by rw [zH2]; exact g)) cl_L_135 p0 rfl dL_law_917 rfl rfl (by omega) (Nat.le_of_ble_eq_true rfl) (by assumption) (by assumption) ?_
    refine zx_aload_n (pc := 920) dL_law_920 rfl rfl ?_
    refine zx_aload_n (pc := 921) dL_law_921 rfl rfl ?_
    refine zx_iload_n (pc := 922) dL_law_922 rfl rfl ?_
    refine zx_iconst (pc := 923) (v := 1) dL_law_923 (by decide) ?_
    refine zx_iadd (pc := 924) dL_law_924 ?_
    refine zx_sld (pc := 925) rfl (zs1 hi hN) dL_law_925 ?_
    refine zx_fV1 (pc := 926) (m_again_un (d := d + 4) zLen g) cl_L_138 (p75 zLen) rfl dL_law_926 rfl rfl (by omega) (Nat.le_of_ble_eq_true rfl) (by assumption) (by assumption) ?_
    refine zx_icmp_eq (pc := 929) (tgt := 934) dL_law_929 (by decide) (fun h929 => ?_) (fun h929 => absurd rfl h929)
    exact ih _ ⟨tb, T, gs, gk, gf, ga, H, F, gc, nt, ns, n2, n3, n4, n5, n6, n7, n8, tt, ts, t2, t3, t4, t5, t6, t7, t8, ws, w1, w2, w3, pt, b1, b2, b3, b4, b5, ab, n, z, sk, su, sr, so, sh, S, sd, 0, mp, rc, rh, rg, rf, rd, pg, mq, bb, kk, wm, wo, q1, q2, q3, q4, wh, wu, i1, i2, f1, f2, vl, rfl, ⟨⟨jT, jH, jF, jn, jz, jS⟩, jg, js, jb, jk, jr, jo⟩⟩
  · obtain ⟨k, -, hk1, ek⟩ := zIn_x (a := 0) (b := 1) (by decide) (by decide) g
    have hk : k < 2 := by omega
    by_cases g2 : su k = 0
    · refine zx_aload_n (pc := 911) dL_law_911 rfl rfl ?_
      refine zx_aload_n (pc := 912) dL_law_912 rfl rfl ?_
      refine zx_iload_n (pc := 913) dL_law_913 rfl rfl ?_
      refine zx_iconst (pc := 914) (v := 1) dL_law_914 (by decide) ?_
      refine zx_iadd (pc := 915) dL_law_915 ?_
      refine zx_sld (pc := 916) rfl (zs1 hi hN) dL_law_916 ?_
      rw [ek]
      refine zx_fV1 (pc := 917) (q_again_late (d := d + 2) hk g2) cl_L_135 p0 rfl dL_law_917 rfl rfl (by omega) (Nat.le_of_ble_eq_true rfl) (by assumption) (by assumption) ?_
      refine zx_aload_n (pc := 920) dL_law_920 rfl rfl ?_
      refine zx_aload_n (pc := 921) dL_law_921 rfl rfl ?_
      refine zx_iload_n (pc := 922) dL_law_922 rfl rfl ?_
      refine zx_iconst (pc := 923) (v := 1) dL_law_923 (by decide) ?_
      refine zx_iadd (pc := 924) dL_law_924 ?_
      refine zx_sld (pc := 925) rfl (zs1 hi hN) dL_law_925 ?_
      rw [ek]
      refine zx_fV1 (pc := 926) (m_again_late (d := d + 4) zLen hk g2) cl_L_138 (p75 zLen) rfl dL_law_926 rfl rfl (by omega) (Nat.le_of_ble_eq_true rfl) (by assumption) (by assumption) ?_
      refine zx_icmp_eq (pc := 929) (tgt := 934) dL_law_929 (by decide) (fun h929 => ?_) (fun h929 => absurd rfl h929)
      exact ih _ ⟨tb, T, gs, gk, gf, ga, H, F, gc, nt, ns, n2, n3, n4, n5, n6, n7, n8, tt, ts, t2, t3, t4, t5, t6, t7, t8, ws, w1, w2, w3, pt, b1, b2, b3, b4, b5, ab, n, z, sk, su, sr, so, sh, S, sd, 0, mp, rc, rh, rg, rf, rd, pg, mq, bb, kk, wm, wo, q1, q2, q3, q4, wh, wu, i1, i2, f1, f2, vl, rfl, ⟨⟨jT, jH, jF, jn, jz, jS⟩, jg, js, jb, jk, jr, jo⟩⟩
    · have jk2 := jk k hk g2
      have ju2 : zSr H F (zC16 (fun j => kk (16 * k + j)) pg 16) (zcpS (sk k) (nt, ns, n2, n3, n4, n5, n6, n7, n8)) := zSr_p jH jF (zSr_s jF jk2) zC16j
      refine zx_aload_n (pc := 911) dL_law_911 rfl rfl ?_
      refine zx_aload_n (pc := 912) dL_law_912 rfl rfl ?_
      refine zx_iload_n (pc := 913) dL_law_913 rfl rfl ?_
      refine zx_iconst (pc := 914) (v := 1) dL_law_914 (by decide) ?_
      refine zx_iadd (pc := 915) dL_law_915 ?_
      refine zx_sld (pc := 916) rfl (zs1 hi hN) dL_law_916 ?_
      rw [ek]
      refine zx_fV1 (pc := 917) (q_again_ok (d := d + 2) hk g2) cl_L_135 p0 rfl dL_law_917 rfl rfl (by omega) (Nat.le_of_ble_eq_true rfl) (by assumption) (by assumption) ?_
      refine zx_aload_n (pc := 920) dL_law_920 rfl rfl ?_
      refine zx_aload_n (pc := 921) dL_law_921 rfl rfl ?_
      refine zx_iload_n (pc := 922) dL_law_922 rfl rfl ?_
      refine zx_iconst (pc := 923) (v := 1) dL_law_923 (by decide) ?_
      refine zx_iadd (pc := 924) dL_law_924 ?_
      refine zx_sld (pc := 925) rfl (zs1 hi hN) dL_law_925 ?_
      rw [ek]
      refine zx_fV1 (pc := 926) (m_again_ok (d := d + 4) zLen hk g2) cl_L_138 (p75 zLen) rfl dL_law_926 rfl rfl (by omega) (Nat.le_of_ble_eq_true rfl) (by assumption) (by assumption) ?_
      refine zx_icmp_eq (pc := 929) (tgt := 934) dL_law_929 (by decide) (fun h929 => ?_) (fun h929 => absurd jk2.2.2.2.2.2.2.2.symm h929)
      exact ih _ ⟨tb, T, gs, gk, gf, ga, H, F, gc, (zcpS (sk k) (nt, ns, n2, n3, n4, n5, n6, n7, n8)).1, (zcpS (sk k) (nt, ns, n2, n3, n4, n5, n6, n7, n8)).2.1, (zcpS (sk k) (nt, ns, n2, n3, n4, n5, n6, n7, n8)).2.2.1, (zcpS (sk k) (nt, ns, n2, n3, n4, n5, n6, n7, n8)).2.2.2.1, (zcpS (sk k) (nt, ns, n2, n3, n4, n5, n6, n7, n8)).2.2.2.2.1, (zcpS (sk k) (nt, ns, n2, n3, n4, n5, n6, n7, n8)).2.2.2.2.2.1, (zcpS (sk k) (nt, ns, n2, n3, n4, n5, n6, n7, n8)).2.2.2.2.2.2.1, (zcpS (sk k) (nt, ns, n2, n3, n4, n5, n6, n7, n8)).2.2.2.2.2.2.2.1, (zcpS (sk k) (nt, ns, n2, n3, n4, n5, n6, n7, n8)).2.2.2.2.2.2.2.2, tt, ts, t2, t3, t4, t5, t6, t7, t8, ws, w1, w2, w3, pt, b1, b2, b3, b4, b5, ab, n, 0, sk, su, sr, so, sh, S, sd, 0, mp, rc, rh, rg, rf, rd, (zC16 (fun j => kk (16 * k + j)) pg 16), mq, bb, kk, wm, wo, q1, q2, q3, q4, wh, wu, i1, i2, f1, f2, vl, rfl, ⟨⟨jT, jH, jF, jn, by omega, jS⟩, jg, ju2, fun j hj => absurd hj (Nat.not_lt_zero _), jk, jr, jo⟩⟩
