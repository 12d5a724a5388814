theorem zFF_Z {tb : Nat → Int32} {T : Nat} (hT : T ≤ 40) (h : zFF tb T T = -9) : ∃ Z, T = 2 + 3 * Z := by
  have key : ∀ n, n ≤ T → zFF tb T n = -9 → zWh T = -9 := by
    intro n
    induction n with
    | zero => intro _ q; exact q
    | succ n ih =>
      intro hn q
      rw [zFF_s] at q
      by_cases g : zFt tb (T - (n + 1)) = 0
      · rw [if_pos g] at q; exact absurd q (nI_ne9 (by omega))
      · rw [if_neg g] at q; exact ih (by omega) q
  have hw := key T (Nat.le_refl _) h
  by_cases g : T < 2 ∨ (T - 2) % 3 ≠ 0
  · rw [zWh_n g] at hw; exact absurd hw (nI_ne9 (by omega))
  · exact ⟨(T - 2) / 3, by omega⟩
theorem zFF_bd {tb : Nat → Int32} {Z : Nat} (hT : 2 + 3 * Z ≤ 40) (h : zFF tb (2 + 3 * Z) (2 + 3 * Z) = -9) : zCn tb 72 Z ≤ 5 ∧ zCn tb 70 Z ≤ 3 := by
  have hall := zFF_all (tb := tb) (T := 2 + 3 * Z) (by omega) (2 + 3 * Z) (Nat.le_refl _) h
  have key : ∀ q, q ≤ Z → zCn tb 72 q ≤ 5 ∧ zCn tb 70 q ≤ 3 := by
    intro q
    induction q with
    | zero => intro _; exact ⟨by rw [zCn]; omega, by rw [zCn]; omega⟩
    | succ q ih =>
      intro hq
      obtain ⟨i1, i2⟩ := ih (by omega)
      have hb := hall (2 + 3 * q) (by omega) (by omega)
      rw [zFt_b, zBp] at hb
      by_cases e : tb (2 + 3 * q) = 72
      · rw [if_pos e] at hb
        have e2 : ¬ tb (2 + 3 * q) = 70 := by rw [e]; decide
        rw [zCn, zCn, if_pos e, if_neg e2]
        refine ⟨?_, i2⟩
        by_cases g : zCn tb 72 q < 5
        · omega
        · rw [if_pos (show (5 : Int32) ≤ nI (zCn tb 72 q) from nI_le (a := 5) (by omega) (by omega))] at hb
          exact absurd rfl hb
      · rw [if_neg e] at hb
        by_cases e2 : tb (2 + 3 * q) = 70
        · rw [if_pos e2] at hb
          rw [zCn, zCn, if_neg e, if_pos e2]
          refine ⟨i1, ?_⟩
          by_cases g : zCn tb 70 q < 3
          · omega
          · rw [if_pos (show (3 : Int32) ≤ nI (zCn tb 70 q) from nI_le (a := 3) (by omega) (by omega))] at hb
            exact absurd rfl hb
        · rw [if_neg e2] at hb
          exact absurd rfl hb
  exact key Z (Nat.le_refl _)
theorem zFF_ck {tb : Nat → Int32} {Z : Nat} (hT : 2 + 3 * Z ≤ 40) (h : zFF tb (2 + 3 * Z) (2 + 3 * Z) = -9) : zCk tb Z = zCn tb 70 Z :=
  (zGq_e (gs := tb) (gk := tb) (gf := tb) (ga := tb) (rg := tb) (rd := tb) (fun q hq => zPt_of hT h hq) Z (Nat.le_refl _)).1
theorem zsu0 {su : Nat → Int32} {k : Nat} (hk : k < 2) : upd (upd su 0 0) 1 0 k = 0 := by
  unfold upd
  by_cases e : k = 1
  · rw [if_pos e]
  · rw [if_neg e, if_pos (by omega)]
set_option maxHeartbeats 8000000 in
theorem lw_share {nm : String} {d N i mc ms kc ks : Nat} {xs : Nat → Int32} {tb : Nat → Int32} {T : Nat} {gs : Nat → Int32} {gk : Nat → Int32} {gf : Nat → Int32} {ga : Nat → Int32} {H : Nat} {F : Nat} {gc : Int32} {nt : Nat → Int32} {ns : Nat → Int32} {n2 : Int32} {n3 : Int32} {n4 : Int32} {n5 : Int32} {n6 : Int32} {n7 : Int32} {n8 : Int32} {tt : Nat → Int32} {ts : Nat → Int32} {t2 : Int32} {t3 : Int32} {t4 : Int32} {t5 : Int32} {t6 : Int32} {t7 : Int32} {t8 : Int32} {ws : Nat → Int32} {w1 : Int32} {w2 : Int32} {w3 : Int32} {pt : Nat → Int32} {b1 : Int32} {b2 : Int32} {b3 : Int32} {b4 : Int32} {b5 : Int32} {ab : Nat → zStt} {n : Nat} {z : Nat} {sk : Nat → zStt} {su : Nat → Int32} {sr : Nat → Int32} {so : Nat → Int32} {sh : Nat → Int32} {S : Nat} {sd : Int64} {th : Int32} {mp : Int32} {rc : Int32} {rh : Int32} {rg : Nat → Int32} {rf : Int32} {rd : Nat → Int32} {pg : Nat → Int32} {mq : Nat → Int32} {bb : Nat → Int32} {kk : Nat → Int32} {wm : Int32} {wo : Int32} {q1 : Int32} {q2 : Int32} {q3 : Int32} {q4 : Int32} {wh : Int32} {wu : Int32} {i1 : Int32} {i2 : Int32} {f1 : Int32} {f2 : Int32} {vl : Nat → Int32} (hN : N ≤ 320) (hi : i + 5 ≤ N) (hc : kc ≤ mc) (hs : ks ≤ ms) (ih : ∀ sg', zI sg' → zX RL cL_law 4 (some .boolean) nm (some (N, xs)) (d + 6) 0 mc ms kc ks (fun r _ => r = some (.int 1)) 934 [some (.ref 1001), some (.ref 0), some (.ref 75), some (.int (nI i))] [] sg') (hJ : zJ T gs gk gf H F (nt, ns, n2, n3, n4, n5, n6, n7, n8) ab n z sk su sr so S pg bb kk) : zX RL cL_law 4 (some .boolean) nm (some (N, xs)) (d + 6) 0 mc ms kc ks (fun r _ => r = some (.int 1)) 581 [some (.ref 1001), some (.ref 0), some (.ref 75), some (.int (nI i))] [] (encC (tb, (nI T)) (gs, gk, gf, ga, (nI H), (nI F), gc) (nt, ns, n2, n3, n4, n5, n6, n7, n8) (tt, ts, t2, t3, t4, t5, t6, t7, t8) (ws, w1, w2, w3) (pt, b1, b2, b3, b4, b5) (ab, (nI n), (nI z)) (sk, su) (sr, so, sh, (nI S)) sd ++ encM th (tb, (nI T), mp) (gc, (nI H), gs, gk, (nI F), gf) (rc, rh, rg, rf, rd) pg mq (bb, (nI z)) (kk, su) ((nI S), sr, so, sh) sd (wm, wo) (q1, q2, q3, q4) (wh, wu) (i1, i2) (f1, f2) vl) := by
  obtain ⟨⟨jT, jH, jF, jn, jz, jS⟩, jg, js, jb, jk, jr, jo⟩ := hJ
  by_cases c : (xs (i + 2)) = 0
  · by_cases g : zHas (nI H) (xs (i + 1)) = 0
    · refine zx_aload_n (pc := 581) dL_law_581 rfl rfl ?_
      refine zx_aload_n (pc := 582) dL_law_582 rfl rfl ?_
      refine zx_iload_n (pc := 583) dL_law_583 rfl rfl ?_
      refine zx_iconst (pc := 584) (v := 1) dL_law_584 (by decide) ?_
      refine zx_iadd (pc := 585) dL_law_585 ?_
      refine zx_sld (pc := 586) rfl (zs1 hi hN) dL_law_586 ?_
      refine zx_aload_n (pc := 587) dL_law_587 rfl rfl ?_
      refine zx_iload_n (pc := 588) dL_law_588 rfl rfl ?_
      refine zx_iconst (pc := 589) (v := 2) dL_law_589 (by decide) ?_
      refine zx_iadd (pc := 590) dL_law_590 ?_
      refine zx_sld (pc := 591) rfl (zs2 hi hN) dL_law_591 ?_
      refine zx_if_eq (pc := 592) (tgt := 599) dL_law_592 (by decide) (fun h592 => ?_) (fun h592 => by first | exact absurd h592 c | exact absurd c h592)
      refine zx_iconst (pc := 599) (v := 0) dL_law_599 (by decide) ?_
      refine zx_fV1 (pc := 600) (q_share_un (d := d) g) cl_L_93 p0 rfl dL_law_600 rfl rfl (by omega) (Nat.le_of_ble_eq_true rfl) (by assumption) (by assumption) ?_
      refine zx_aload_n (pc := 603) dL_law_603 rfl rfl ?_
      refine zx_aload_n (pc := 604) dL_law_604 rfl rfl ?_
      refine zx_iload_n (pc := 605) dL_law_605 rfl rfl ?_
      refine zx_iconst (pc := 606) (v := 1) dL_law_606 (by decide) ?_
      refine zx_iadd (pc := 607) dL_law_607 ?_
      refine zx_sld (pc := 608) rfl (zs1 hi hN) dL_law_608 ?_
      refine zx_aload_n (pc := 609) dL_law_609 rfl rfl ?_
      refine zx_iload_n (pc := 610) dL_law_610 rfl rfl ?_
      refine zx_iconst (pc := 611) (v := 2) dL_law_611 (by decide) ?_
      refine zx_iadd (pc := 612) dL_law_612 ?_
      refine zx_sld (pc := 613) rfl (zs2 hi hN) dL_law_613 ?_
      refine zx_if_eq (pc := 614) (tgt := 621) dL_law_614 (by decide) (fun h614 => ?_) (fun h614 => by first | exact absurd h614 c | exact absurd c h614)
      refine zx_iconst (pc := 621) (v := 0) dL_law_621 (by decide) ?_
      refine zx_fV1 (pc := 622) (m_share_un (d := d + 3) zLen jH g) cl_L_97 (p75 zLen) rfl dL_law_622 rfl rfl (by omega) (Nat.le_of_ble_eq_true rfl) (by assumption) (by assumption) ?_
      refine zx_icmp_eq (pc := 625) (tgt := 934) dL_law_625 (by decide) (fun h625 => ?_) (fun h625 => absurd rfl h625)
      exact ih _ ⟨tb, T, gs, gk, gf, ga, H, F, gc, nt, ns, n2, n3, n4, n5, n6, n7, n8, tt, ts, t2, t3, t4, t5, t6, t7, t8, ws, w1, w2, w3, pt, b1, b2, b3, b4, b5, ab, n, z, sk, su, sr, so, sh, S, sd, 0, mp, rc, rh, rg, rf, rd, pg, mq, bb, kk, wm, wo, q1, q2, q3, q4, wh, wu, i1, i2, f1, f2, vl, rfl, ⟨⟨jT, jH, jF, jn, jz, jS⟩, jg, js, jb, jk, jr, jo⟩⟩
    · obtain ⟨h, hh, eh⟩ := zHas_n (by omega) g
      obtain ⟨s1, zz, s2, s3, s4⟩ : (zShR gs gk gf F H h nt ns n2 pt (ws, w1, w2, w3) (2 ^ H)).1 = (zUp H h (zVs gs gk gf F H pg mq (wm, wo) vl (2 ^ H)).2.2 (2 ^ H)) ∧ ∃ z : Int, (zUp H h (zVs gs gk gf F H pg mq (wm, wo) vl (2 ^ H)).2.2 (2 ^ H)) = Int32.ofInt z ∧ -((216 * (2 ^ H) : Nat) : Int) ≤ z ∧ z ≤ ((216 * (2 ^ H) : Nat) : Int) := zSh_e (s := (nt, ns, n2, n3, n4, n5, n6, n7, n8)) jg jH jF hh js (fun c hc => zVs_e jH jF js (2 ^ H) c hc) (2 ^ H) (Nat.le_refl _)
      have hp32 : 2 ^ H ≤ 32 := Nat.le_trans (Nat.pow_le_pow_right (by decide) jH) (by decide)
      obtain ⟨a, a1, a2⟩ := zAbs s2 (by omega) (by omega)
      have a3 : (if 0 ≤ (zShR gs gk gf F H h nt ns n2 pt (ws, w1, w2, w3) (2 ^ H)).1 then (zShR gs gk gf F H h nt ns n2 pt (ws, w1, w2, w3) (2 ^ H)).1 else 0 - (zShR gs gk gf F H h nt ns n2 pt (ws, w1, w2, w3) (2 ^ H)).1) = nI a := by rw [s1]; exact a2
      refine zx_aload_n (pc := 581) dL_law_581 rfl rfl ?_
      refine zx_aload_n (pc := 582) dL_law_582 rfl rfl ?_
      refine zx_iload_n (pc := 583) dL_law_583 rfl rfl ?_
      refine zx_iconst (pc := 584) (v := 1) dL_law_584 (by decide) ?_
      refine zx_iadd (pc := 585) dL_law_585 ?_
      refine zx_sld (pc := 586) rfl (zs1 hi hN) dL_law_586 ?_
      refine zx_aload_n (pc := 587) dL_law_587 rfl rfl ?_
      refine zx_iload_n (pc := 588) dL_law_588 rfl rfl ?_
      refine zx_iconst (pc := 589) (v := 2) dL_law_589 (by decide) ?_
      refine zx_iadd (pc := 590) dL_law_590 ?_
      refine zx_sld (pc := 591) rfl (zs2 hi hN) dL_law_591 ?_
      refine zx_if_eq (pc := 592) (tgt := 599) dL_law_592 (by decide) (fun h592 => ?_) (fun h592 => by first | exact absurd h592 c | exact absurd c h592)
      refine zx_iconst (pc := 599) (v := 0) dL_law_599 (by decide) ?_
      rw [eh]
      refine zx_fV1 (pc := 600) (q_share (d := d) hh jH jF a3 a1) cl_L_93 p0 rfl dL_law_600 rfl rfl (by omega) (Nat.le_of_ble_eq_true rfl) (by assumption) (by assumption) ?_
      refine zx_aload_n (pc := 603) dL_law_603 rfl rfl ?_
      refine zx_aload_n (pc := 604) dL_law_604 rfl rfl ?_
      refine zx_iload_n (pc := 605) dL_law_605 rfl rfl ?_
      refine zx_iconst (pc := 606) (v := 1) dL_law_606 (by decide) ?_
      refine zx_iadd (pc := 607) dL_law_607 ?_
      refine zx_sld (pc := 608) rfl (zs1 hi hN) dL_law_608 ?_
      refine zx_aload_n (pc := 609) dL_law_609 rfl rfl ?_
      refine zx_iload_n (pc := 610) dL_law_610 rfl rfl ?_
      refine zx_iconst (pc := 611) (v := 2) dL_law_611 (by decide) ?_
      refine zx_iadd (pc := 612) dL_law_612 ?_
      refine zx_sld (pc := 613) rfl (zs2 hi hN) dL_law_613 ?_
      refine zx_if_eq (pc := 614) (tgt := 621) dL_law_614 (by decide) (fun h614 => ?_) (fun h614 => by first | exact absurd h614 c | exact absurd c h614)
      refine zx_iconst (pc := 621) (v := 0) dL_law_621 (by decide) ?_
      rw [eh]
      refine zx_fV1 (pc := 622) (m_share (d := d + 3) zLen hh jH jF js.2.1 a2 a1) cl_L_97 (p75 zLen) rfl dL_law_622 rfl rfl (by omega) (Nat.le_of_ble_eq_true rfl) (by assumption) (by assumption) ?_
      refine zx_icmp_eq (pc := 625) (tgt := 934) dL_law_625 (by decide) (fun h625 => ?_) (fun h625 => absurd (by rw [s1]) h625)
      exact ih _ ⟨tb, T, gs, gk, gf, ga, H, F, gc, nt, ns, n2, n3, n4, n5, n6, n7, n8, tt, ts, t2, t3, t4, t5, t6, t7, t8, (zShR gs gk gf F H h nt ns n2 pt (ws, w1, w2, w3) (2 ^ H)).2.2.1, (zShR gs gk gf F H h nt ns n2 pt (ws, w1, w2, w3) (2 ^ H)).2.2.2.1, (zShR gs gk gf F H h nt ns n2 pt (ws, w1, w2, w3) (2 ^ H)).2.2.2.2.1, (zShR gs gk gf F H h nt ns n2 pt (ws, w1, w2, w3) (2 ^ H)).2.2.2.2.2, (zShR gs gk gf F H h nt ns n2 pt (ws, w1, w2, w3) (2 ^ H)).2.1, b1, b2, b3, b4, b5, ab, n, z, sk, su, sr, so, sh, S, sd, 0, mp, rc, rh, rg, rf, rd, pg, (zVs gs gk gf F H pg mq (wm, wo) vl (2 ^ H)).1, bb, kk, (zVs gs gk gf F H pg mq (wm, wo) vl (2 ^ H)).2.1.1, (zVs gs gk gf F H pg mq (wm, wo) vl (2 ^ H)).2.1.2, q1, q2, q3, q4, wh, wu, i1, i2, f1, f2, (zVs gs gk gf F H pg mq (wm, wo) vl (2 ^ H)).2.2, rfl, ⟨⟨jT, jH, jF, jn, jz, jS⟩, jg, js, jb, jk, jr, jo⟩⟩
  · by_cases g : zHas (nI H) (xs (i + 1)) = 0
    · refine zx_aload_n (pc := 581) dL_law_581 rfl rfl ?_
      refine zx_aload_n (pc := 582) dL_law_582 rfl rfl ?_
      refine zx_iload_n (pc := 583) dL_law_583 rfl rfl ?_
      refine zx_iconst (pc := 584) (v := 1) dL_law_584 (by decide) ?_
      refine zx_iadd (pc := 585) dL_law_585 ?_
      refine zx_sld (pc := 586) rfl (zs1 hi hN) dL_law_586 ?_
      refine zx_aload_n (pc := 587) dL_law_587 rfl rfl ?_
      refine zx_iload_n (pc := 588) dL_law_588 rfl rfl ?_
      refine zx_iconst (pc := 589) (v := 2) dL_law_589 (by decide) ?_
      refine zx_iadd (pc := 590) dL_law_590 ?_
      refine zx_sld (pc := 591) rfl (zs2 hi hN) dL_law_591 ?_
      refine zx_if_eq (pc := 592) (tgt := 599) dL_law_592 (by decide) (fun h592 => by first | exact absurd h592 c | exact absurd c h592) (fun h592 => ?_)
      refine zx_iconst (pc := 595) (v := 1) dL_law_595 (by decide) ?_
      refine zx_goto (pc := 596) (tgt := 600) dL_law_596 (by decide) ?_
      refine zx_fV1 (pc := 600) (q_share_un (d := d) g) cl_L_93 p0 rfl dL_law_600 rfl rfl (by omega) (Nat.le_of_ble_eq_true rfl) (by assumption) (by assumption) ?_
      refine zx_aload_n (pc := 603) dL_law_603 rfl rfl ?_
      refine zx_aload_n (pc := 604) dL_law_604 rfl rfl ?_
      refine zx_iload_n (pc := 605) dL_law_605 rfl rfl ?_
      refine zx_iconst (pc := 606) (v := 1) dL_law_606 (by decide) ?_
      refine zx_iadd (pc := 607) dL_law_607 ?_
      refine zx_sld (pc := 608) rfl (zs1 hi hN) dL_law_608 ?_
      refine zx_aload_n (pc := 609) dL_law_609 rfl rfl ?_
      refine zx_iload_n (pc := 610) dL_law_610 rfl rfl ?_
      refine zx_iconst (pc := 611) (v := 2) dL_law_611 (by decide) ?_
      refine zx_iadd (pc := 612) dL_law_612 ?_
      refine zx_sld (pc := 613) rfl (zs2 hi hN) dL_law_613 ?_
      refine zx_if_eq (pc := 614) (tgt := 621) dL_law_614 (by decide) (fun h614 => by first | exact absurd h614 c | exact absurd c h614) (fun h614 => ?_)
      refine zx_iconst (pc := 617) (v := 1) dL_law_617 (by decide) ?_
      refine zx_goto (pc := 618) (tgt := 622) dL_law_618 (by decide) ?_
      refine zx_fV1 (pc := 622) (m_share_un (d := d + 3) zLen jH g) cl_L_97 (p75 zLen) rfl dL_law_622 rfl rfl (by omega) (Nat.le_of_ble_eq_true rfl) (by assumption) (by assumption) ?_
      refine zx_icmp_eq (pc := 625) (tgt := 934) dL_law_625 (by decide) (fun h625 => ?_) (fun h625 => absurd rfl h625)
      exact ih _ ⟨tb, T, gs, gk, gf, ga, H, F, gc, nt, ns, n2, n3, n4, n5, n6, n7, n8, tt, ts, t2, t3, t4, t5, t6, t7, t8, ws, w1, w2, w3, pt, b1, b2, b3, b4, b5, ab, n, z, sk, su, sr, so, sh, S, sd, 0, mp, rc, rh, rg, rf, rd, pg, mq, bb, kk, wm, wo, q1, q2, q3, q4, wh, wu, i1, i2, f1, f2, vl, rfl, ⟨⟨jT, jH, jF, jn, jz, jS⟩, jg, js, jb, jk, jr, jo⟩⟩
    · obtain ⟨h, hh, eh⟩ := zHas_n (by omega) g
      obtain ⟨s1, zz, s2, s3, s4⟩ : (zShR gs gk gf F H h nt ns n2 pt (ws, w1, w2, w3) (2 ^ H)).1 = (zUp H h (zVs gs gk gf F H pg mq (wm, wo) vl (2 ^ H)).2.2 (2 ^ H)) ∧ ∃ z : Int, (zUp H h (zVs gs gk gf F H pg mq (wm, wo) vl (2 ^ H)).2.2 (2 ^ H)) = Int32.ofInt z ∧ -((216 * (2 ^ H) : Nat) : Int) ≤ z ∧ z ≤ ((216 * (2 ^ H) : Nat) : Int) := zSh_e (s := (nt, ns, n2, n3, n4, n5, n6, n7, n8)) jg jH jF hh js (fun c hc => zVs_e jH jF js (2 ^ H) c hc) (2 ^ H) (Nat.le_refl _)
      have hp32 : 2 ^ H ≤ 32 := Nat.le_trans (Nat.pow_le_pow_right (by decide) jH) (by decide)
      obtain ⟨a, a1, a2⟩ := zAbs s2 (by omega) (by omega)
      have a3 : (if 0 ≤ (zShR gs gk gf F H h nt ns n2 pt (ws, w1, w2, w3) (2 ^ H)).1 then (zShR gs gk gf F H h nt ns n2 pt (ws, w1, w2, w3) (2 ^ H)).1 else 0 - (zShR gs gk gf F H h nt ns n2 pt (ws, w1, w2, w3) (2 ^ H)).1) = nI a := by rw [s1]; exact a2
      refine zx_aload_n (pc := 581) dL_law_581 rfl rfl ?_
      refine zx_aload_n (pc := 582) dL_law_582 rfl rfl ?_
      refine zx_iload_n (pc := 583) dL_law_583 rfl rfl ?_
      refine zx_iconst (pc := 584) (v := 1) dL_law_584 (by decide) ?_
      refine zx_iadd (pc := 585) dL_law_585 ?_
      refine zx_sld (pc := 586) rfl (zs1 hi hN) dL_law_586 ?_
      refine zx_aload_n (pc := 587) dL_law_587 rfl rfl ?_
      refine zx_iload_n (pc := 588) dL_law_588 rfl rfl ?_
      refine zx_iconst (pc := 589) (v := 2) dL_law_589 (by decide) ?_
      refine zx_iadd (pc := 590) dL_law_590 ?_
      refine zx_sld (pc := 591) rfl (zs2 hi hN) dL_law_591 ?_
      refine zx_if_eq (pc := 592) (tgt := 599) dL_law_592 (by decide) (fun h592 => by first | exact absurd h592 c | exact absurd c h592) (fun h592 => ?_)
      refine zx_iconst (pc := 595) (v := 1) dL_law_595 (by decide) ?_
      refine zx_goto (pc := 596) (tgt := 600) dL_law_596 (by decide) ?_
      rw [eh]
      refine zx_fV1 (pc := 600) (q_share (d := d) hh jH jF a3 a1) cl_L_93 p0 rfl dL_law_600 rfl rfl (by omega) (Nat.le_of_ble_eq_true rfl) (by assumption) (by assumption) ?_
      refine zx_aload_n (pc := 603) dL_law_603 rfl rfl ?_
      refine zx_aload_n (pc := 604) dL_law_604 rfl rfl ?_
      refine zx_iload_n (pc := 605) dL_law_605 rfl rfl ?_
      refine zx_iconst (pc := 606) (v := 1) dL_law_606 (by decide) ?_
      refine zx_iadd (pc := 607) dL_law_607 ?_
      refine zx_sld (pc := 608) rfl (zs1 hi hN) dL_law_608 ?_
      refine zx_aload_n (pc := 609) dL_law_609 rfl rfl ?_
      refine zx_iload_n (pc := 610) dL_law_610 rfl rfl ?_
      refine zx_iconst (pc := 611) (v := 2) dL_law_611 (by decide) ?_
      refine zx_iadd (pc := 612) dL_law_612 ?_
      refine zx_sld (pc := 613) rfl (zs2 hi hN) dL_law_613 ?_
      refine zx_if_eq (pc := 614) (tgt := 621) dL_law_614 (by decide) (fun h614 => by first | exact absurd h614 c | exact absurd c h614) (fun h614 => ?_)
      refine zx_iconst (pc := 617) (v := 1) dL_law_617 (by decide) ?_
      refine zx_goto (pc := 618) (tgt := 622) dL_law_618 (by decide) ?_
      rw [eh]
      refine zx_fV1 (pc := 622) (m_share (d := d + 3) zLen hh jH jF js.2.1 a2 a1) cl_L_97 (p75 zLen) rfl dL_law_622 rfl rfl (by omega) (Nat.le_of_ble_eq_true rfl) (by assumption) (by assumption) ?_
      refine zx_icmp_eq (pc := 625) (tgt := 934) dL_law_625 (by decide) (fun h625 => ?_) (fun h625 => absurd (by rw [s1]) h625)
      exact ih _ ⟨tb, T, gs, gk, gf, ga, H, F, gc, nt, ns, n2, n3, n4, n5, n6, n7, n8, tt, ts, t2, t3, t4, t5, t6, t7, t8, (zShR gs gk gf F H h nt ns n2 pt (ws, w1, w2, w3) (2 ^ H)).2.2.1, (zShR gs gk gf F H h nt ns n2 pt (ws, w1, w2, w3) (2 ^ H)).2.2.2.1, (zShR gs gk gf F H h nt ns n2 pt (ws, w1, w2, w3) (2 ^ H)).2.2.2.2.1, (zShR gs gk gf F H h nt ns n2 pt (ws, w1, w2, w3) (2 ^ H)).2.2.2.2.2, (zShR gs gk gf F H h nt ns n2 pt (ws, w1, w2, w3) (2 ^ H)).2.1, b1, b2, b3, b4, b5, ab, n, z, sk, su, sr, so, sh, S, sd, 0, mp, rc, rh, rg, rf, rd, pg, (zVs gs gk gf F H pg mq (wm, wo) vl (2 ^ H)).1, bb, kk, (zVs gs gk gf F H pg mq (wm, wo) vl (2 ^ H)).2.1.1, (zVs gs gk gf F H pg mq (wm, wo) vl (2 ^ H)).2.1.2, q1, q2, q3, q4, wh, wu, i1, i2, f1, f2, (zVs gs gk gf F H pg mq (wm, wo) vl (2 ^ H)).2.2, rfl, ⟨⟨jT, jH, jF, jn, jz, jS⟩, jg, js, jb, jk, jr, jo⟩⟩
set_option maxHeartbeats 8000000 in
theorem lw_chance {nm : String} {d N i mc ms kc ks : Nat} {xs : Nat → Int32} {tb : Nat → Int32} {T : Nat} {gs : Nat → Int32} {gk : Nat → Int32} {gf : Nat → Int32} {ga : Nat → Int32} {H : Nat} {F : Nat} {gc : Int32} {nt : Nat → Int32} {ns : Nat → Int32} {n2 : Int32} {n3 : Int32} {n4 : Int32} {n5 : Int32} {n6 : Int32} {n7 : Int32} {n8 : Int32} {tt : Nat → Int32} {ts : Nat → Int32} {t2 : Int32} {t3 : Int32} {t4 : Int32} {t5 : Int32} {t6 : Int32} {t7 : Int32} {t8 : Int32} {ws : Nat → Int32} {w1 : Int32} {w2 : Int32} {w3 : Int32} {pt : Nat → Int32} {b1 : Int32} {b2 : Int32} {b3 : Int32} {b4 : Int32} {b5 : Int32} {ab : Nat → zStt} {n : Nat} {z : Nat} {sk : Nat → zStt} {su : Nat → Int32} {sr : Nat → Int32} {so : Nat → Int32} {sh : Nat → Int32} {S : Nat} {sd : Int64} {th : Int32} {mp : Int32} {rc : Int32} {rh : Int32} {rg : Nat → Int32} {rf : Int32} {rd : Nat → Int32} {pg : Nat → Int32} {mq : Nat → Int32} {bb : Nat → Int32} {kk : Nat → Int32} {wm : Int32} {wo : Int32} {q1 : Int32} {q2 : Int32} {q3 : Int32} {q4 : Int32} {wh : Int32} {wu : Int32} {i1 : Int32} {i2 : Int32} {f1 : Int32} {f2 : Int32} {vl : Nat → Int32} (hN : N ≤ 320) (hi : i + 5 ≤ N) (hc : kc ≤ mc) (hs : ks ≤ ms) (ih : ∀ sg', zI sg' → zX RL cL_law 4 (some .boolean) nm (some (N, xs)) (d + 6) 0 mc ms kc ks (fun r _ => r = some (.int 1)) 934 [some (.ref 1001), some (.ref 0), some (.ref 75), some (.int (nI i))] [] sg') (hJ : zJ T gs gk gf H F (nt, ns, n2, n3, n4, n5, n6, n7, n8) ab n z sk su sr so S pg bb kk) : zX RL cL_law 4 (some .boolean) nm (some (N, xs)) (d + 6) 0 mc ms kc ks (fun r _ => r = some (.int 1)) 742 [some (.ref 1001), some (.ref 0), some (.ref 75), some (.int (nI i))] [] (encC (tb, (nI T)) (gs, gk, gf, ga, (nI H), (nI F), gc) (nt, ns, n2, n3, n4, n5, n6, n7, n8) (tt, ts, t2, t3, t4, t5, t6, t7, t8) (ws, w1, w2, w3) (pt, b1, b2, b3, b4, b5) (ab, (nI n), (nI z)) (sk, su) (sr, so, sh, (nI S)) sd ++ encM th (tb, (nI T), mp) (gc, (nI H), gs, gk, (nI F), gf) (rc, rh, rg, rf, rd) pg mq (bb, (nI z)) (kk, su) ((nI S), sr, so, sh) sd (wm, wo) (q1, q2, q3, q4) (wh, wu) (i1, i2) (f1, f2) vl) := by
  obtain ⟨⟨jT, jH, jF, jn, jz, jS⟩, jg, js, jb, jk, jr, jo⟩ := hJ
  by_cases c : (xs (i + 4)) = 0
  · by_cases g : ¬ zIn (xs (i + 1)) 1 6 = 0 ∧ ¬ zIn (xs (i + 2)) 0 8 = 0 ∧ ¬ zIn (xs (i + 3)) 0 10 = 0
    · obtain ⟨g1, g2, g3⟩ := g
      have js' := js
      obtain ⟨e1, e2, e3, e4, ⟨e8, e9, e10, e11⟩, ⟨k, m, k1, k2, k3, k4, k5⟩, e14, e15⟩ := js'
      simp only at e8 e9 e10 e11 k5 e14 e15
      obtain ⟨v1, v2⟩ := zW_hs k k1 m k2
      obtain ⟨M, m1, m2, eM⟩ := zIn_x (a := 1) (b := 6) (by decide) (by decide) g1
      obtain ⟨h, -, h2, eh⟩ := zIn_x (a := 0) (b := 8) (by decide) (by decide) g2
      obtain ⟨x, -, x2, ex⟩ := zIn_x (a := 0) (b := 10) (by decide) (by decide) g3
      have g1' : ¬ zIn (nI M) 1 6 = 0 := by rw [← eM]; exact g1
      have g2' : ¬ zIn (nI h) 0 8 = 0 := by rw [← eh]; exact g2
      have g3' : ¬ zIn (nI x) 0 10 = 0 := by rw [← ex]; exact g3
      obtain ⟨a, a1, a2, a3⟩ := zChance (wl := (wh, wu)) m2 k1 k2 x2 h2
      have a4 : (zChR M (zHt n6) (zHt n6 - zBc (zSo n6)) (nI h) (nI x) (M + 1)).1 = nI a := by rw [k5, (zWn_h k k1 m k2).2, v1]; exact a3
      refine zx_aload_n (pc := 742) dL_law_742 rfl rfl ?_
      refine zx_aload_n (pc := 743) dL_law_743 rfl rfl ?_
      refine zx_iload_n (pc := 744) dL_law_744 rfl rfl ?_
      refine zx_iconst (pc := 745) (v := 1) dL_law_745 (by decide) ?_
      refine zx_iadd (pc := 746) dL_law_746 ?_
      refine zx_sld (pc := 747) rfl (zs1 hi hN) dL_law_747 ?_
      refine zx_aload_n (pc := 748) dL_law_748 rfl rfl ?_
      refine zx_iload_n (pc := 749) dL_law_749 rfl rfl ?_
      refine zx_iconst (pc := 750) (v := 2) dL_law_750 (by decide) ?_
      refine zx_iadd (pc := 751) dL_law_751 ?_
      refine zx_sld (pc := 752) rfl (zs2 hi hN) dL_law_752 ?_
      refine zx_aload_n (pc := 753) dL_law_753 rfl rfl ?_
      refine zx_iload_n (pc := 754) dL_law_754 rfl rfl ?_
      refine zx_iconst (pc := 755) (v := 3) dL_law_755 (by decide) ?_
      refine zx_iadd (pc := 756) dL_law_756 ?_
      refine zx_sld (pc := 757) rfl (zs3 hi hN) dL_law_757 ?_
      refine zx_aload_n (pc := 758) dL_law_758 rfl rfl ?_
      refine zx_iload_n (pc := 759) dL_law_759 rfl rfl ?_
      refine zx_iconst (pc := 760) (v := 4) dL_law_760 (by decide) ?_
      refine zx_iadd (pc := 761) dL_law_761 ?_
      refine zx_sld (pc := 762) rfl (zs4 hi hN) dL_law_762 ?_
      refine zx_if_eq (pc := 763) (tgt := 770) dL_law_763 (by decide) (fun h763 => ?_) (fun h763 => by first | exact absurd h763 c | exact absurd c h763)
      refine zx_iconst (pc := 770) (v := 0) dL_law_770 (by decide) ?_
      rw [eM, eh, ex]
      refine zx_fV1 (pc := 771) (q_chance (d := d + 3) m1 m2 (zIn_ok g2').1 (Int32.not_lt.mpr (zIn_ok g2').2) (zIn_ok g3').1 (zIn_ok g3').2 (zabsn a4 a1) a1) cl_L_115 p0 rfl dL_law_771 rfl rfl (by omega) (Nat.le_of_ble_eq_true rfl) (by assumption) (by assumption) ?_
      refine zx_aload_n (pc := 774) dL_law_774 rfl rfl ?_
      refine zx_aload_n (pc := 775) dL_law_775 rfl rfl ?_
      refine zx_iload_n (pc := 776) dL_law_776 rfl rfl ?_
      refine zx_iconst (pc := 777) (v := 1) dL_law_777 (by decide) ?_
      refine zx_iadd (pc := 778) dL_law_778 ?_
      refine zx_sld (pc := 779) rfl (zs1 hi hN) dL_law_779 ?_
      refine zx_aload_n (pc := 780) dL_law_780 rfl rfl ?_
      refine zx_iload_n (pc := 781) dL_law_781 rfl rfl ?_
      refine zx_iconst (pc := 782) (v := 2) dL_law_782 (by decide) ?_
      refine zx_iadd (pc := 783) dL_law_783 ?_
      refine zx_sld (pc := 784) rfl (zs2 hi hN) dL_law_784 ?_
      refine zx_aload_n (pc := 785) dL_law_785 rfl rfl ?_
      refine zx_iload_n (pc := 786) dL_law_786 rfl rfl ?_
      refine zx_iconst (pc := 787) (v := 3) dL_law_787 (by decide) ?_
      refine zx_iadd (pc := 788) dL_law_788 ?_
      refine zx_sld (pc := 789) rfl (zs3 hi hN) dL_law_789 ?_
      refine zx_aload_n (pc := 790) dL_law_790 rfl rfl ?_
      refine zx_iload_n (pc := 791) dL_law_791 rfl rfl ?_
      refine zx_iconst (pc := 792) (v := 4) dL_law_792 (by decide) ?_
      refine zx_iadd (pc := 793) dL_law_793 ?_
      refine zx_sld (pc := 794) rfl (zs4 hi hN) dL_law_794 ?_
      refine zx_if_eq (pc := 795) (tgt := 802) dL_law_795 (by decide) (fun h795 => ?_) (fun h795 => by first | exact absurd h795 c | exact absurd c h795)
      refine zx_iconst (pc := 802) (v := 0) dL_law_802 (by decide) ?_
      rw [eM, eh, ex]
      refine zx_fV1 (pc := 803) (m_chance (d := d + 2) zLen m2 k1 k3 k4 (zabsn a2 a1) a1 g1' g2' g3') cl_L_119 (p75 zLen) rfl dL_law_803 rfl rfl (by omega) (Nat.le_of_ble_eq_true rfl) (by assumption) (by assumption) ?_
      refine zx_icmp_eq (pc := 806) (tgt := 934) dL_law_806 (by decide) (fun h806 => ?_) (fun h806 => absurd (by rw [a4, a2]) h806)
      exact ih _ ⟨tb, T, gs, gk, gf, ga, H, F, gc, nt, ns, n2, n3, n4, n5, n6, n7, n8, tt, ts, t2, t3, t4, t5, t6, t7, t8, ws, w1, w2, w3, pt, b1, b2, b3, b4, b5, ab, n, z, sk, su, sr, so, sh, S, sd, 0, mp, rc, rh, rg, rf, rd, pg, mq, bb, kk, wm, wo, q1, q2, q3, q4, (zCx M (nI h) (nI x) k (nI m) (wh, wu) (2 ^ M)).2.1, (zCx M (nI h) (nI x) k (nI m) (wh, wu) (2 ^ M)).2.2, i1, i2, f1, f2, vl, rfl, ⟨⟨jT, jH, jF, jn, jz, jS⟩, jg, js, jb, jk, jr, jo⟩⟩
    · refine zx_aload_n (pc := 742) dL_law_742 rfl rfl ?_
      refine zx_aload_n (pc := 743) dL_law_743 rfl rfl ?_
      refine zx_iload_n (pc := 744) dL_law_744 rfl rfl ?_
      refine zx_iconst (pc := 745) (v := 1) dL_law_745 (by decide) ?_
      refine zx_iadd (pc := 746) dL_law_746 ?_
      refine zx_sld (pc := 747) rfl (zs1 hi hN) dL_law_747 ?_
      refine zx_aload_n (pc := 748) dL_law_748 rfl rfl ?_
      refine zx_iload_n (pc := 749) dL_law_749 rfl rfl ?_
      refine zx_iconst (pc := 750) (v := 2) dL_law_750 (by decide) ?_
      refine zx_iadd (pc := 751) dL_law_751 ?_
      refine zx_sld (pc := 752) rfl (zs2 hi hN) dL_law_752 ?_
      refine zx_aload_n (pc := 753) dL_law_753 rfl rfl ?_
      refine zx_iload_n (pc := 754) dL_law_754 rfl rfl ?_
      refine zx_iconst (pc := 755) (v := 3) dL_law_755 (by decide) ?_
      refine zx_iadd (pc := 756) dL_law_756 ?_
      refine zx_sld (pc := 757) rfl (zs3 hi hN) dL_law_757 ?_
      refine zx_aload_n (pc := 758) dL_law_758 rfl rfl ?_
      refine zx_iload_n (pc := 759) dL_law_759 rfl rfl ?_
      refine zx_iconst (pc := 760) (v := 4) dL_law_760 (by decide) ?_
      refine zx_iadd (pc := 761) dL_law_761 ?_
      refine zx_sld (pc := 762) rfl (zs4 hi hN) dL_law_762 ?_
      refine zx_if_eq (pc := 763) (tgt := 770) dL_law_763 (by decide) (fun h763 => ?_) (fun h763 => by first | exact absurd h763 c | exact absurd c h763)
      refine zx_iconst (pc := 770) (v := 0) dL_law_770 (by decide) ?_
      refine zx_fV1 (pc := 771) (q_chance_bad (d := d + 3) (fun ⟨q1, q2, q3, q4, q5, q6⟩ => g ⟨fun q => (zIn_bad q).elim q1 (fun c => c (Int32.not_lt.mp q2)), fun q => (zIn_bad q).elim q3 (fun c => c (Int32.not_lt.mp q4)), fun q => (zIn_bad q).elim q5 (fun c => c q6)⟩)) cl_L_115 p0 rfl dL_law_771 rfl rfl (by omega) (Nat.le_of_ble_eq_true rfl) (by assumption) (by assumption) ?_
      refine zx_aload_n (pc := 774) dL_law_774 rfl rfl ?_
      refine zx_aload_n (pc := 775) dL_law_775 rfl rfl ?_
      refine zx_iload_n (pc := 776) dL_law_776 rfl rfl ?_
      refine zx_iconst (pc := 777) (v := 1) dL_law_777 (by decide) ?_
      refine zx_iadd (pc := 778) dL_law_778 ?_
      refine zx_sld (pc := 779) rfl (zs1 hi hN) dL_law_779 ?_
      refine zx_aload_n (pc := 780) dL_law_780 rfl rfl ?_
      refine zx_iload_n (pc := 781) dL_law_781 rfl rfl ?_
      refine zx_iconst (pc := 782) (v := 2) dL_law_782 (by decide) ?_
      refine zx_iadd (pc := 783) dL_law_783 ?_
      refine zx_sld (pc := 784) rfl (zs2 hi hN) dL_law_784 ?_
      refine zx_aload_n (pc := 785) dL_law_785 rfl rfl ?_
      refine zx_iload_n (pc := 786) dL_law_786 rfl rfl ?_
      refine zx_iconst (pc := 787) (v := 3) dL_law_787 (by decide) ?_
      refine zx_iadd (pc := 788) dL_law_788 ?_
      refine zx_sld (pc := 789) rfl (zs3 hi hN) dL_law_789 ?_
      refine zx_aload_n (pc := 790) dL_law_790 rfl rfl ?_
      refine zx_iload_n (pc := 791) dL_law_791 rfl rfl ?_
      refine zx_iconst (pc := 792) (v := 4) dL_law_792 (by decide) ?_
      refine zx_iadd (pc := 793) dL_law_793 ?_
      refine zx_sld (pc := 794) rfl (zs4 hi hN) dL_law_794 ?_
      refine zx_if_eq (pc := 795) (tgt := 802) dL_law_795 (by decide) (fun h795 => ?_) (fun h795 => by first | exact absurd h795 c | exact absurd c h795)
      refine zx_iconst (pc := 802) (v := 0) dL_law_802 (by decide) ?_
      refine zx_fV1 (pc := 803) (m_chance_bad (d := d + 2) zLen g) cl_L_119 (p75 zLen) rfl dL_law_803 rfl rfl (by omega) (Nat.le_of_ble_eq_true rfl) (by assumption) (by assumption) ?_
      refine zx_icmp_eq (pc := 806) (tgt := 934) dL_law_806 (by decide) (fun h806 => ?_) (fun h806 => absurd rfl h806)
      exact ih _ ⟨tb, T, gs, gk, gf, ga, H, F, gc, nt, ns, n2, n3, n4, n5, n6, n7, n8, tt, ts, t2, t3, t4, t5, t6, t7, t8, ws, w1, w2, w3, pt, b1, b2, b3, b4, b5, ab, n, z, sk, su, sr, so, sh, S, sd, 0, mp, rc, rh, rg, rf, rd, pg, mq, bb, kk, wm, wo, q1, q2, q3, q4, wh, wu, i1, i2, f1, f2, vl, rfl, ⟨⟨jT, jH, jF, jn, jz, jS⟩, jg, js, jb, jk, jr, jo⟩⟩
  · by_cases g : ¬ zIn (xs (i + 1)) 1 6 = 0 ∧ ¬ zIn (xs (i + 2)) 0 8 = 0 ∧ ¬ zIn (xs (i + 3)) 0 10 = 0
    · obtain ⟨g1, g2, g3⟩ := g
      have js' := js
      obtain ⟨e1, e2, e3, e4, ⟨e8, e9, e10, e11⟩, ⟨k, m, k1, k2, k3, k4, k5⟩, e14, e15⟩ := js'
      simp only at e8 e9 e10 e11 k5 e14 e15
      obtain ⟨v1, v2⟩ := zW_hs k k1 m k2
      obtain ⟨M, m1, m2, eM⟩ := zIn_x (a := 1) (b := 6) (by decide) (by decide) g1
      obtain ⟨h, -, h2, eh⟩ := zIn_x (a := 0) (b := 8) (by decide) (by decide) g2
      obtain ⟨x, -, x2, ex⟩ := zIn_x (a := 0) (b := 10) (by decide) (by decide) g3
      have g1' : ¬ zIn (nI M) 1 6 = 0 := by rw [← eM]; exact g1
      have g2' : ¬ zIn (nI h) 0 8 = 0 := by rw [← eh]; exact g2
      have g3' : ¬ zIn (nI x) 0 10 = 0 := by rw [← ex]; exact g3
      obtain ⟨a, a1, a2, a3⟩ := zChance (wl := (wh, wu)) m2 k1 k2 x2 h2
      have a4 : (zChR M (zHt n6) (zHt n6 - zBc (zSo n6)) (nI h) (nI x) (M + 1)).1 = nI a := by rw [k5, (zWn_h k k1 m k2).2, v1]; exact a3
      refine zx_aload_n (pc := 742) dL_law_742 rfl rfl ?_
      refine zx_aload_n (pc := 743) dL_law_743 rfl rfl ?_
      refine zx_iload_n (pc := 744) dL_law_744 rfl rfl ?_
      refine zx_iconst (pc := 745) (v := 1) dL_law_745 (by decide) ?_
      refine zx_iadd (pc := 746) dL_law_746 ?_
      refine zx_sld (pc := 747) rfl (zs1 hi hN) dL_law_747 ?_
      refine zx_aload_n (pc := 748) dL_law_748 rfl rfl ?_
      refine zx_iload_n (pc := 749) dL_law_749 rfl rfl ?_
      refine zx_iconst (pc := 750) (v := 2) dL_law_750 (by decide) ?_
      refine zx_iadd (pc := 751) dL_law_751 ?_
      refine zx_sld (pc := 752) rfl (zs2 hi hN) dL_law_752 ?_
      refine zx_aload_n (pc := 753) dL_law_753 rfl rfl ?_
      refine zx_iload_n (pc := 754) dL_law_754 rfl rfl ?_
      refine zx_iconst (pc := 755) (v := 3) dL_law_755 (by decide) ?_
      refine zx_iadd (pc := 756) dL_law_756 ?_
      refine zx_sld (pc := 757) rfl (zs3 hi hN) dL_law_757 ?_
      refine zx_aload_n (pc := 758) dL_law_758 rfl rfl ?_
      refine zx_iload_n (pc := 759) dL_law_759 rfl rfl ?_
      refine zx_iconst (pc := 760) (v := 4) dL_law_760 (by decide) ?_
      refine zx_iadd (pc := 761) dL_law_761 ?_
      refine zx_sld (pc := 762) rfl (zs4 hi hN) dL_law_762 ?_
      refine zx_if_eq (pc := 763) (tgt := 770) dL_law_763 (by decide) (fun h763 => by first | exact absurd h763 c | exact absurd c h763) (fun h763 => ?_)
      refine zx_iconst (pc := 766) (v := 1) dL_law_766 (by decide) ?_
      refine zx_goto (pc := 767) (tgt := 771) dL_law_767 (by decide) ?_
      rw [eM, eh, ex]
      refine zx_fV1 (pc := 771) (q_chance (d := d + 3) m1 m2 (zIn_ok g2').1 (Int32.not_lt.mpr (zIn_ok g2').2) (zIn_ok g3').1 (zIn_ok g3').2 (zabsn a4 a1) a1) cl_L_115 p0 rfl dL_law_771 rfl rfl (by omega) (Nat.le_of_ble_eq_true rfl) (by assumption) (by assumption) ?_
      refine zx_aload_n (pc := 774) dL_law_774 rfl rfl ?_
      refine zx_aload_n (pc := 775) dL_law_775 rfl rfl ?_
      refine zx_iload_n (pc := 776) dL_law_776 rfl rfl ?_
      refine zx_iconst (pc := 777) (v := 1) dL_law_777 (by decide) ?_
      refine zx_iadd (pc := 778) dL_law_778 ?_
      refine zx_sld (pc := 779) rfl (zs1 hi hN) dL_law_779 ?_
      refine zx_aload_n (pc := 780) dL_law_780 rfl rfl ?_
      refine zx_iload_n (pc := 781) dL_law_781 rfl rfl ?_
      refine zx_iconst (pc := 782) (v := 2) dL_law_782 (by decide) ?_
      refine zx_iadd (pc := 783) dL_law_783 ?_
      refine zx_sld (pc := 784) rfl (zs2 hi hN) dL_law_784 ?_
      refine zx_aload_n (pc := 785) dL_law_785 rfl rfl ?_
      refine zx_iload_n (pc := 786) dL_law_786 rfl rfl ?_
      refine zx_iconst (pc := 787) (v := 3) dL_law_787 (by decide) ?_
      refine zx_iadd (pc := 788) dL_law_788 ?_
      refine zx_sld (pc := 789) rfl (zs3 hi hN) dL_law_789 ?_
      refine zx_aload_n (pc := 790) dL_law_790 rfl rfl ?_
      refine zx_iload_n (pc := 791) dL_law_791 rfl rfl ?_
      refine zx_iconst (pc := 792) (v := 4) dL_law_792 (by decide) ?_
      refine zx_iadd (pc := 793) dL_law_793 ?_
      refine zx_sld (pc := 794) rfl (zs4 hi hN) dL_law_794 ?_
      refine zx_if_eq (pc := 795) (tgt := 802) dL_law_795 (by decide) (fun h795 => by first | exact absurd h795 c | exact absurd c h795) (fun h795 => ?_)
      refine zx_iconst (pc := 798) (v := 1) dL_law_798 (by decide) ?_
      refine zx_goto (pc := 799) (tgt := 803) dL_law_799 (by decide) ?_
      rw [eM, eh, ex]
      refine zx_fV1 (pc := 803) (m_chance (d := d + 2) zLen m2 k1 k3 k4 (zabsn a2 a1) a1 g1' g2' g3') cl_L_119 (p75 zLen) rfl dL_law_803 rfl rfl (by omega) (Nat.le_of_ble_eq_true rfl) (by assumption) (by assumption) ?_
      refine zx_icmp_eq (pc := 806) (tgt := 934) dL_law_806 (by decide) (fun h806 => ?_) (fun h806 => absurd (by rw [a4, a2]) h806)
      exact ih _ ⟨tb, T, gs, gk, gf, ga, H, F, gc, nt, ns, n2, n3, n4, n5, n6, n7, n8, tt, ts, t2, t3, t4, t5, t6, t7, t8, ws, w1, w2, w3, pt, b1, b2, b3, b4, b5, ab, n, z, sk, su, sr, so, sh, S, sd, 0, mp, rc, rh, rg, rf, rd, pg, mq, bb, kk, wm, wo, q1, q2, q3, q4, (zCx M (nI h) (nI x) k (nI m) (wh, wu) (2 ^ M)).2.1, (zCx M (nI h) (nI x) k (nI m) (wh, wu) (2 ^ M)).2.2, i1, i2, f1, f2, vl, rfl, ⟨⟨jT, jH, jF, jn, jz, jS⟩, jg, js, jb, jk, jr, jo⟩⟩
    · refine zx_aload_n (pc := 742) dL_law_742 rfl rfl ?_
      refine zx_aload_n (pc := 743) dL_law_743 rfl rfl ?_
      refine zx_iload_n (pc := 744) dL_law_744 rfl rfl ?_
      refine zx_iconst (pc := 745) (v := 1) dL_law_745 (by decide) ?_
      refine zx_iadd (pc := 746) dL_law_746 ?_
      refine zx_sld (pc := 747) rfl (zs1 hi hN) dL_law_747 ?_
      refine zx_aload_n (pc := 748) dL_law_748 rfl rfl ?_
      refine zx_iload_n (pc := 749) dL_law_749 rfl rfl ?_
      refine zx_iconst (pc := 750) (v := 2) dL_law_750 (by decide) ?_
      refine zx_iadd (pc := 751) dL_law_751 ?_
      refine zx_sld (pc := 752) rfl (zs2 hi hN) dL_law_752 ?_
      refine zx_aload_n (pc := 753) dL_law_753 rfl rfl ?_
      refine zx_iload_n (pc := 754) dL_law_754 rfl rfl ?_
      refine zx_iconst (pc := 755) (v := 3) dL_law_755 (by decide) ?_
      refine zx_iadd (pc := 756) dL_law_756 ?_
      refine zx_sld (pc := 757) rfl (zs3 hi hN) dL_law_757 ?_
      refine zx_aload_n (pc := 758) dL_law_758 rfl rfl ?_
      refine zx_iload_n (pc := 759) dL_law_759 rfl rfl ?_
      refine zx_iconst (pc := 760) (v := 4) dL_law_760 (by decide) ?_
      refine zx_iadd (pc := 761) dL_law_761 ?_
      refine zx_sld (pc := 762) rfl (zs4 hi hN) dL_law_762 ?_
      refine zx_if_eq (pc := 763) (tgt := 770) dL_law_763 (by decide) (fun h763 => by first | exact absurd h763 c | exact absurd c h763) (fun h763 => ?_)
      refine zx_iconst (pc := 766) (v := 1) dL_law_766 (by decide) ?_
      refine zx_goto (pc := 767) (tgt := 771) dL_law_767 (by decide) ?_
      refine zx_fV1 (pc := 771) (q_chance_bad (d := d + 3) (fun ⟨q1, q2, q3, q4, q5, q6⟩ => g ⟨fun q => (zIn_bad q).elim q1 (fun c => c (Int32.not_lt.mp q2)), fun q => (zIn_bad q).elim q3 (fun c => c (Int32.not_lt.mp q4)), fun q => (zIn_bad q).elim q5 (fun c => c q6)⟩)) cl_L_115 p0 rfl dL_law_771 rfl rfl (by omega) (Nat.le_of_ble_eq_true rfl) (by assumption) (by assumption) ?_
      refine zx_aload_n (pc := 774) dL_law_774 rfl rfl ?_
      refine zx_aload_n (pc := 775) dL_law_775 rfl rfl ?_
      refine zx_iload_n (pc := 776) dL_law_776 rfl rfl ?_
      refine zx_iconst (pc := 777) (v := 1) dL_law_777 (by decide) ?_
      refine zx_iadd (pc := 778) dL_law_778 ?_
      refine zx_sld (pc := 779) rfl (zs1 hi hN) dL_law_779 ?_
      refine zx_aload_n (pc := 780) dL_law_780 rfl rfl ?_
      refine zx_iload_n (pc := 781) dL_law_781 rfl rfl ?_
      refine zx_iconst (pc := 782) (v := 2) dL_law_782 (by decide) ?_
      refine zx_iadd (pc := 783) dL_law_783 ?_
      refine zx_sld (pc := 784) rfl (zs2 hi hN) dL_law_784 ?_
      refine zx_aload_n (pc := 785) dL_law_785 rfl rfl ?_
      refine zx_iload_n (pc := 786) dL_law_786 rfl rfl ?_
      refine zx_iconst (pc := 787) (v := 3) dL_law_787 (by decide) ?_
      refine zx_iadd (pc := 788) dL_law_788 ?_
      refine zx_sld (pc := 789) rfl (zs3 hi hN) dL_law_789 ?_
      refine zx_aload_n (pc := 790) dL_law_790 rfl rfl ?_
      refine zx_iload_n (pc := 791) dL_law_791 rfl rfl ?_
      refine zx_iconst (pc := 792) (v := 4) dL_law_792 (by decide) ?_
      refine zx_iadd (pc := 793) dL_law_793 ?_
      refine zx_sld (pc := 794) rfl (zs4 hi hN) dL_law_794 ?_
      refine zx_if_eq (pc := 795) (tgt := 802) dL_law_795 (by decide) (fun h795 => by first | exact absurd h795 c | exact absurd c h795) (fun h795 => ?_)
      refine zx_iconst (pc := 798) (v := 1) dL_law_798 (by decide) ?_
      refine zx_goto (pc := 799) (tgt := 803) dL_law_799 (by decide) ?_
      refine zx_fV1 (pc := 803) (m_chance_bad (d := d + 2) zLen g) cl_L_119 (p75 zLen) rfl dL_law_803 rfl rfl (by omega) (Nat.le_of_ble_eq_true rfl) (by assumption) (by assumption) ?_
      refine zx_icmp_eq (pc := 806) (tgt := 934) dL_law_806 (by decide) (fun h806 => ?_) (fun h806 => absurd rfl h806)
      exact ih _ ⟨tb, T, gs, gk, gf, ga, H, F, gc, nt, ns, n2, n3, n4, n5, n6, n7, n8, tt, ts, t2, t3, t4, t5, t6, t7, t8, ws, w1, w2, w3, pt, b1, b2, b3, b4, b5, ab, n, z, sk, su, sr, so, sh, S, sd, 0, mp, rc, rh, rg, rf, rd, pg, mq, bb, kk, wm, wo, q1, q2, q3, q4, wh, wu, i1, i2, f1, f2, vl, rfl, ⟨⟨jT, jH, jF, jn, jz, jS⟩, jg, js, jb, jk, jr, jo⟩⟩
set_option maxHeartbeats 8000000 in
theorem lw_fault {nm : String} {d N i mc ms kc ks : Nat} {xs : Nat → Int32} {tb : Nat → Int32} {T : Nat} {gs : Nat → Int32} {gk : Nat → Int32} {gf : Nat → Int32} {ga : Nat → Int32} {H : Nat} {F : Nat} {gc : Int32} {nt : Nat → Int32} {ns : Nat → Int32} {n2 : Int32} {n3 : Int32} {n4 : Int32} {n5 : Int32} {n6 : Int32} {n7 : Int32} {n8 : Int32} {tt : Nat → Int32} {ts : Nat → Int32} {t2 : Int32} {t3 : Int32} {t4 : Int32} {t5 : Int32} {t6 : Int32} {t7 : Int32} {t8 : Int32} {ws : Nat → Int32} {w1 : Int32} {w2 : Int32} {w3 : Int32} {pt : Nat → Int32} {b1 : Int32} {b2 : Int32} {b3 : Int32} {b4 : Int32} {b5 : Int32} {ab : Nat → zStt} {n : Nat} {z : Nat} {sk : Nat → zStt} {su : Nat → Int32} {sr : Nat → Int32} {so : Nat → Int32} {sh : Nat → Int32} {S : Nat} {sd : Int64} {th : Int32} {mp : Int32} {rc : Int32} {rh : Int32} {rg : Nat → Int32} {rf : Int32} {rd : Nat → Int32} {pg : Nat → Int32} {mq : Nat → Int32} {bb : Nat → Int32} {kk : Nat → Int32} {wm : Int32} {wo : Int32} {q1 : Int32} {q2 : Int32} {q3 : Int32} {q4 : Int32} {wh : Int32} {wu : Int32} {i1 : Int32} {i2 : Int32} {f1 : Int32} {f2 : Int32} {vl : Nat → Int32} (hN : N ≤ 320) (hi : i + 5 ≤ N) (hc : kc ≤ mc) (hs : ks ≤ ms) (ih : ∀ sg', zI sg' → zX RL cL_law 4 (some .boolean) nm (some (N, xs)) (d + 6) 0 mc ms kc ks (fun r _ => r = some (.int 1)) 934 [some (.ref 1001), some (.ref 0), some (.ref 75), some (.int (nI i))] [] sg') (hJ : zJ T gs gk gf H F (nt, ns, n2, n3, n4, n5, n6, n7, n8) ab n z sk su sr so S pg bb kk) : zX RL cL_law 4 (some .boolean) nm (some (N, xs)) (d + 6) 0 mc ms kc ks (fun r _ => r = some (.int 1)) 200 [some (.ref 1001), some (.ref 0), some (.ref 75), some (.int (nI i))] [] (encC (tb, (nI T)) (gs, gk, gf, ga, (nI H), (nI F), gc) (nt, ns, n2, n3, n4, n5, n6, n7, n8) (tt, ts, t2, t3, t4, t5, t6, t7, t8) (ws, w1, w2, w3) (pt, b1, b2, b3, b4, b5) (ab, (nI n), (nI z)) (sk, su) (sr, so, sh, (nI S)) sd ++ encM th (tb, (nI T), mp) (gc, (nI H), gs, gk, (nI F), gf) (rc, rh, rg, rf, rd) pg mq (bb, (nI z)) (kk, su) ((nI S), sr, so, sh) sd (wm, wo) (q1, q2, q3, q4) (wh, wu) (i1, i2) (f1, f2) vl) := by
  obtain ⟨⟨jT, jH, jF, jn, jz, jS⟩, jg, js, jb, jk, jr, jo⟩ := hJ
  refine zx_aload_n (pc := 200) dL_law_200 rfl rfl ?_
  refine zx_fV1 (pc := 201) (q_fault (d := d) jT) cl_L_23 p0 rfl dL_law_201 rfl rfl (by omega) (Nat.le_of_ble_eq_true rfl) (by assumption) (by assumption) ?_
  refine zx_aload_n (pc := 204) dL_law_204 rfl rfl ?_
  refine zx_callV0 (pc := 205) (m_fault (d := d) zLen jT) cl_L_26 (p75 zLen) rfl dL_law_205 rfl rfl (by omega) (Nat.le_of_ble_eq_true rfl) (by assumption) (by assumption) (fun r s hQ => ?_)
  obtain ⟨mp', rc', rh', rf', rg', rd', rfl, rfl, h9⟩ := hQ
  show zX _ _ _ _ _ _ _ _ _ _ _ _ _ _ _ [_, _] _
  refine zx_icmp_eq (pc := 208) (tgt := 934) dL_law_208 (by decide) (fun h208 => ?_) (fun h208 => absurd rfl h208)
  exact ih _ ⟨tb, T, gs, gk, gf, ga, H, F, gc, nt, ns, n2, n3, n4, n5, n6, n7, n8, tt, ts, t2, t3, t4, t5, t6, t7, t8, ws, w1, w2, w3, pt, b1, b2, b3, b4, b5, ab, n, z, sk, su, sr, so, sh, S, sd, 0, mp', rc', rh', rg', rf', rd', pg, mq, bb, kk, wm, wo, q1, q2, q3, q4, wh, wu, i1, i2, f1, f2, vl, rfl, ⟨⟨jT, jH, jF, jn, jz, jS⟩, jg, js, jb, jk, jr, jo⟩⟩
set_option maxHeartbeats 8000000 in
theorem lw_pit {nm : String} {d N i mc ms kc ks : Nat} {xs : Nat → Int32} {tb : Nat → Int32} {T : Nat} {gs : Nat → Int32} {gk : Nat → Int32} {gf : Nat → Int32} {ga : Nat → Int32} {H : Nat} {F : Nat} {gc : Int32} {nt : Nat → Int32} {ns : Nat → Int32} {n2 : Int32} {n3 : Int32} {n4 : Int32} {n5 : Int32} {n6 : Int32} {n7 : Int32} {n8 : Int32} {tt : Nat → Int32} {ts : Nat → Int32} {t2 : Int32} {t3 : Int32} {t4 : Int32} {t5 : Int32} {t6 : Int32} {t7 : Int32} {t8 : Int32} {ws : Nat → Int32} {w1 : Int32} {w2 : Int32} {w3 : Int32} {pt : Nat → Int32} {b1 : Int32} {b2 : Int32} {b3 : Int32} {b4 : Int32} {b5 : Int32} {ab : Nat → zStt} {n : Nat} {z : Nat} {sk : Nat → zStt} {su : Nat → Int32} {sr : Nat → Int32} {so : Nat → Int32} {sh : Nat → Int32} {S : Nat} {sd : Int64} {th : Int32} {mp : Int32} {rc : Int32} {rh : Int32} {rg : Nat → Int32} {rf : Int32} {rd : Nat → Int32} {pg : Nat → Int32} {mq : Nat → Int32} {bb : Nat → Int32} {kk : Nat → Int32} {wm : Int32} {wo : Int32} {q1 : Int32} {q2 : Int32} {q3 : Int32} {q4 : Int32} {wh : Int32} {wu : Int32} {i1 : Int32} {i2 : Int32} {f1 : Int32} {f2 : Int32} {vl : Nat → Int32} (hN : N ≤ 320) (hi : i + 5 ≤ N) (hc : kc ≤ mc) (hs : ks ≤ ms) (ih : ∀ sg', zI sg' → zX RL cL_law 4 (some .boolean) nm (some (N, xs)) (d + 6) 0 mc ms kc ks (fun r _ => r = some (.int 1)) 934 [some (.ref 1001), some (.ref 0), some (.ref 75), some (.int (nI i))] [] sg') (hJ : zJ T gs gk gf H F (nt, ns, n2, n3, n4, n5, n6, n7, n8) ab n z sk su sr so S pg bb kk) : zX RL cL_law 4 (some .boolean) nm (some (N, xs)) (d + 6) 0 mc ms kc ks (fun r _ => r = some (.int 1)) 213 [some (.ref 1001), some (.ref 0), some (.ref 75), some (.int (nI i))] [] (encC (tb, (nI T)) (gs, gk, gf, ga, (nI H), (nI F), gc) (nt, ns, n2, n3, n4, n5, n6, n7, n8) (tt, ts, t2, t3, t4, t5, t6, t7, t8) (ws, w1, w2, w3) (pt, b1, b2, b3, b4, b5) (ab, (nI n), (nI z)) (sk, su) (sr, so, sh, (nI S)) sd ++ encM th (tb, (nI T), mp) (gc, (nI H), gs, gk, (nI F), gf) (rc, rh, rg, rf, rd) pg mq (bb, (nI z)) (kk, su) ((nI S), sr, so, sh) sd (wm, wo) (q1, q2, q3, q4) (wh, wu) (i1, i2) (f1, f2) vl) := by
  obtain ⟨⟨jT, jH, jF, jn, jz, jS⟩, jg, js, jb, jk, jr, jo⟩ := hJ
  by_cases hf : zFF tb T T = -9
  · obtain ⟨Z, rfl⟩ := zFF_Z jT hf
    obtain ⟨b5', b3'⟩ := zFF_bd jT hf
    refine zx_aload_n (pc := 213) dL_law_213 rfl rfl ?_
    refine zx_fV1 (pc := 214) (q_pit_ok (d := d) jT hf b5' (by rw [zFF_ck jT hf]; exact b3')) cl_L_27 p0 rfl dL_law_214 rfl rfl (by omega) (Nat.le_of_ble_eq_true rfl) (by assumption) (by assumption) ?_
    refine zx_aload_n (pc := 217) dL_law_217 rfl rfl ?_
    refine zx_callV0 (pc := 218) (m_pit (d := d) zLen jT) cl_L_30 (p75 zLen) rfl dL_law_218 rfl rfl (by omega) (Nat.le_of_ble_eq_true rfl) (by assumption) (by assumption) (fun r s hQ => ?_)
    obtain ⟨mp', ⟨rc', rh', rg', rf', rd'⟩, hQ⟩ := hQ
    rcases hQ with ⟨-, Z', hZ, h5, h3, rfl, rfl⟩ | ⟨hn, -, -⟩
    · obtain rfl : Z' = Z := by omega
      obtain ⟨z1, z2, z3, z4, z5, z6⟩ := zPit (gs := gs) (gk := gk) (gf := gf) (ga := ga) (rg := rg) (rd := rd) (pg := pg) (nt := nt) (ns := ns) jT hf h3 h5
      show zX _ _ _ _ _ _ _ _ _ _ _ _ _ _ _ [_, _] _
      refine zx_icmp_eq (pc := 221) (tgt := 934) dL_law_221 (by decide) (fun h221 => ?_) (fun h221 => absurd (by rw [z1]) h221)
      exact ih _ ⟨tb, (2 + 3 * Z'), (zGq tb (gs, gk, gf, ga) Z').1, (zGq tb (gs, gk, gf, ga) Z').2.1, (zGq tb (gs, gk, gf, ga) Z').2.2.1, (zGq tb (gs, gk, gf, ga) Z').2.2.2, (zCn tb 72 Z'), (zCn tb 70 Z'), (tb 1 - 48), (zFil nt 0 5), (va_cpy (zGq tb (gs, gk, gf, ga) Z').2.2.2 ns 0 0 3), 0, 0, 0, 0, 1, 0, 0, tt, ts, t2, t3, t4, t5, t6, t7, t8, ws, w1, w2, w3, pt, b1, b2, b3, b4, b5, ab, n, 0, sk, (upd (upd su 0 0) 1 0), sr, so, sh, S, sd, 0, mp', rc', rh', rg', rf', rd', (zPut (zFil pg 0 16) (fun h => zGh tb 70 rd Z' (2 * h + 1)) 5 (zCn tb 70 Z')), mq, bb, kk, wm, wo, q1, q2, q3, q4, wh, wu, i1, i2, f1, f2, vl, (by rw [z2, z3, z4, z1]; first | done | rfl), ⟨⟨jT, h5, h3, jn, by omega, jS⟩, z5, z6, fun j hj => absurd hj (Nat.not_lt_zero _), fun k hk hn => absurd (zsu0 hk) hn, jr, jo⟩⟩
    · exact absurd hf hn
  · refine zx_aload_n (pc := 213) dL_law_213 rfl rfl ?_
    refine zx_fV1 (pc := 214) (q_pit_late (d := d) jT hf) cl_L_27 p0 rfl dL_law_214 rfl rfl (by omega) (Nat.le_of_ble_eq_true rfl) (by assumption) (by assumption) ?_
    refine zx_aload_n (pc := 217) dL_law_217 rfl rfl ?_
    refine zx_callV0 (pc := 218) (m_pit (d := d) zLen jT) cl_L_30 (p75 zLen) rfl dL_law_218 rfl rfl (by omega) (Nat.le_of_ble_eq_true rfl) (by assumption) (by assumption) (fun r s hQ => ?_)
    obtain ⟨mp', ⟨rc', rh', rg', rf', rd'⟩, hQ⟩ := hQ
    rcases hQ with ⟨hn, -⟩ | ⟨-, rfl, rfl⟩
    · exact absurd hn hf
    · show zX _ _ _ _ _ _ _ _ _ _ _ _ _ _ _ [_, _] _
      refine zx_icmp_eq (pc := 221) (tgt := 934) dL_law_221 (by decide) (fun h221 => ?_) (fun h221 => absurd rfl h221)
      exact ih _ ⟨tb, T, gs, gk, gf, ga, H, F, gc, nt, ns, n2, n3, n4, n5, n6, n7, n8, tt, ts, t2, t3, t4, t5, t6, t7, t8, ws, w1, w2, w3, pt, b1, b2, b3, b4, b5, ab, n, z, sk, su, sr, so, sh, S, sd, 0, mp', rc', rh', rg', rf', rd', pg, mq, bb, kk, wm, wo, q1, q2, q3, q4, wh, wu, i1, i2, f1, f2, vl, rfl, ⟨⟨jT, jH, jF, jn, jz, jS⟩, jg, js, jb, jk, jr, jo⟩⟩
