theorem zexit {N i : Nat} (h : ¬ i + 5 ≤ N) (hN : N ≤ 320) (hi : i ≤ 400) : nI N - 5 < nI i := by
  rcases Nat.lt_or_ge N 5 with q | q
  · exact Int32.lt_of_lt_of_le (pk_sneg (a := N) (b := 5) (by decide) q) (nI_pos' (by omega))
  · rw [show nI N - 5 = nI (N - 5) from pk_sub (b := 5) q]
    exact nI_lt (by omega) (by omega)
theorem zstay {N i : Nat} (h : i + 5 ≤ N) (hN : N ≤ 320) : ¬ nI N - 5 < nI i := by
  rw [show nI N - 5 = nI (N - 5) from pk_sub (b := 5) (by omega)]
  exact nI_nlt (by omega) (by omega)
theorem sw_L_law_32 {nm : String} {scr : Option (Nat × (Nat → Int32))} {d n0 mc ms kc ks : Nat} {Q : Option Value → List zCel → Prop} {L : List (Option Value)} {st : List Value} {sg : List zCel} {x : Int32} (k0 : x = 0 → zX RL cL_law 4 (some .boolean) nm scr d n0 mc ms kc ks Q 164 L st sg) (k1 : x = 1 → zX RL cL_law 4 (some .boolean) nm scr d n0 mc ms kc ks Q 187 L st sg) (k2 : x = 2 → zX RL cL_law 4 (some .boolean) nm scr d n0 mc ms kc ks Q 200 L st sg) (k3 : x = 3 → zX RL cL_law 4 (some .boolean) nm scr d n0 mc ms kc ks Q 213 L st sg) (k4 : x = 4 → zX RL cL_law 4 (some .boolean) nm scr d n0 mc ms kc ks Q 226 L st sg) (k5 : x = 5 → zX RL cL_law 4 (some .boolean) nm scr d n0 mc ms kc ks Q 249 L st sg) (k6 : x = 6 → zX RL cL_law 4 (some .boolean) nm scr d n0 mc ms kc ks Q 282 L st sg) (k7 : x = 7 → zX RL cL_law 4 (some .boolean) nm scr d n0 mc ms kc ks Q 315 L st sg) (k8 : x = 8 → zX RL cL_law 4 (some .boolean) nm scr d n0 mc ms kc ks Q 328 L st sg) (k9 : x = 9 → zX RL cL_law 4 (some .boolean) nm scr d n0 mc ms kc ks Q 361 L st sg) (k10 : x = 10 → zX RL cL_law 4 (some .boolean) nm scr d n0 mc ms kc ks Q 384 L st sg) (k11 : x = 11 → zX RL cL_law 4 (some .boolean) nm scr d n0 mc ms kc ks Q 407 L st sg) (k12 : x = 12 → zX RL cL_law 4 (some .boolean) nm scr d n0 mc ms kc ks Q 420 L st sg) (k13 : x = 13 → zX RL cL_law 4 (some .boolean) nm scr d n0 mc ms kc ks Q 433 L st sg) (k14 : x = 14 → zX RL cL_law 4 (some .boolean) nm scr d n0 mc ms kc ks Q 466 L st sg) (k15 : x = 15 → zX RL cL_law 4 (some .boolean) nm scr d n0 mc ms kc ks Q 489 L st sg) (k16 : x = 16 → zX RL cL_law 4 (some .boolean) nm scr d n0 mc ms kc ks Q 502 L st sg) (k17 : x = 17 → zX RL cL_law 4 (some .boolean) nm scr d n0 mc ms kc ks Q 515 L st sg) (k18 : x = 18 → zX RL cL_law 4 (some .boolean) nm scr d n0 mc ms kc ks Q 528 L st sg) (k19 : x = 19 → zX RL cL_law 4 (some .boolean) nm scr d n0 mc ms kc ks Q 581 L st sg) (k20 : x = 20 → zX RL cL_law 4 (some .boolean) nm scr d n0 mc ms kc ks Q 630 L st sg) (k21 : x = 21 → zX RL cL_law 4 (some .boolean) nm scr d n0 mc ms kc ks Q 673 L st sg) (k22 : x = 22 → zX RL cL_law 4 (some .boolean) nm scr d n0 mc ms kc ks Q 686 L st sg) (k23 : x = 23 → zX RL cL_law 4 (some .boolean) nm scr d n0 mc ms kc ks Q 719 L st sg) (k24 : x = 24 → zX RL cL_law 4 (some .boolean) nm scr d n0 mc ms kc ks Q 742 L st sg) (k25 : x = 25 → zX RL cL_law 4 (some .boolean) nm scr d n0 mc ms kc ks Q 811 L st sg) (k26 : x = 26 → zX RL cL_law 4 (some .boolean) nm scr d n0 mc ms kc ks Q 865 L st sg) (k27 : x = 27 → zX RL cL_law 4 (some .boolean) nm scr d n0 mc ms kc ks Q 888 L st sg) (k28 : x = 28 → zX RL cL_law 4 (some .boolean) nm scr d n0 mc ms kc ks Q 911 L st sg) (kd : ¬ x = 0 → ¬ x = 1 → ¬ x = 2 → ¬ x = 3 → ¬ x = 4 → ¬ x = 5 → ¬ x = 6 → ¬ x = 7 → ¬ x = 8 → ¬ x = 9 → ¬ x = 10 → ¬ x = 11 → ¬ x = 12 → ¬ x = 13 → ¬ x = 14 → ¬ x = 15 → ¬ x = 16 → ¬ x = 17 → ¬ x = 18 → ¬ x = 19 → ¬ x = 20 → ¬ x = 21 → ¬ x = 22 → ¬ x = 23 → ¬ x = 24 → ¬ x = 25 → ¬ x = 26 → ¬ x = 27 → ¬ x = 28 → zX RL cL_law 4 (some .boolean) nm scr d n0 mc ms kc ks Q 934 L st sg) : zX RL cL_law 4 (some .boolean) nm scr d n0 mc ms kc ks Q 32 L (.int x :: st) sg := by
  by_cases c0 : x = 0
  · exact zx_tab (k := 0) (off := 132) (tgt := 164) dL_law_32 (zeq c0 (by decide)) (by decide) (by decide) (by decide) (k0 c0)
  by_cases c1 : x = 1
  · exact zx_tab (k := 1) (off := 155) (tgt := 187) dL_law_32 (zeq c1 (by decide)) (by decide) (by decide) (by decide) (k1 c1)
  by_cases c2 : x = 2
  · exact zx_tab (k := 2) (off := 168) (tgt := 200) dL_law_32 (zeq c2 (by decide)) (by decide) (by decide) (by decide) (k2 c2)
  by_cases c3 : x = 3
  · exact zx_tab (k := 3) (off := 181) (tgt := 213) dL_law_32 (zeq c3 (by decide)) (by decide) (by decide) (by decide) (k3 c3)
  by_cases c4 : x = 4
  · exact zx_tab (k := 4) (off := 194) (tgt := 226) dL_law_32 (zeq c4 (by decide)) (by decide) (by decide) (by decide) (k4 c4)
  by_cases c5 : x = 5
  · exact zx_tab (k := 5) (off := 217) (tgt := 249) dL_law_32 (zeq c5 (by decide)) (by decide) (by decide) (by decide) (k5 c5)
  by_cases c6 : x = 6
  · exact zx_tab (k := 6) (off := 250) (tgt := 282) dL_law_32 (zeq c6 (by decide)) (by decide) (by decide) (by decide) (k6 c6)
  by_cases c7 : x = 7
  · exact zx_tab (k := 7) (off := 283) (tgt := 315) dL_law_32 (zeq c7 (by decide)) (by decide) (by decide) (by decide) (k7 c7)
  by_cases c8 : x = 8
  · exact zx_tab (k := 8) (off := 296) (tgt := 328) dL_law_32 (zeq c8 (by decide)) (by decide) (by decide) (by decide) (k8 c8)
  by_cases c9 : x = 9
  · exact zx_tab (k := 9) (off := 329) (tgt := 361) dL_law_32 (zeq c9 (by decide)) (by decide) (by decide) (by decide) (k9 c9)
  by_cases c10 : x = 10
  · exact zx_tab (k := 10) (off := 352) (tgt := 384) dL_law_32 (zeq c10 (by decide)) (by decide) (by decide) (by decide) (k10 c10)
  by_cases c11 : x = 11
  · exact zx_tab (k := 11) (off := 375) (tgt := 407) dL_law_32 (zeq c11 (by decide)) (by decide) (by decide) (by decide) (k11 c11)
  by_cases c12 : x = 12
  · exact zx_tab (k := 12) (off := 388) (tgt := 420) dL_law_32 (zeq c12 (by decide)) (by decide) (by decide) (by decide) (k12 c12)
  by_cases c13 : x = 13
  · exact zx_tab (k := 13) (off := 401) (tgt := 433) dL_law_32 (zeq c13 (by decide)) (by decide) (by decide) (by decide) (k13 c13)
  by_cases c14 : x = 14
  · exact zx_tab (k := 14) (off := 434) (tgt := 466) dL_law_32 (zeq c14 (by decide)) (by decide) (by decide) (by decide) (k14 c14)
  by_cases c15 : x = 15
  · exact zx_tab (k := 15) (off := 457) (tgt := 489) dL_law_32 (zeq c15 (by decide)) (by decide) (by decide) (by decide) (k15 c15)
  by_cases c16 : x = 16
  · exact zx_tab (k := 16) (off := 470) (tgt := 502) dL_law_32 (zeq c16 (by decide)) (by decide) (by decide) (by decide) (k16 c16)
  by_cases c17 : x = 17
  · exact zx_tab (k := 17) (off := 483) (tgt := 515) dL_law_32 (zeq c17 (by decide)) (by decide) (by decide) (by decide) (k17 c17)
  by_cases c18 : x = 18
  · exact zx_tab (k := 18) (off := 496) (tgt := 528) dL_law_32 (zeq c18 (by decide)) (by decide) (by decide) (by decide) (k18 c18)
  by_cases c19 : x = 19
  · exact zx_tab (k := 19) (off := 549) (tgt := 581) dL_law_32 (zeq c19 (by decide)) (by decide) (by decide) (by decide) (k19 c19)
  by_cases c20 : x = 20
  · exact zx_tab (k := 20) (off := 598) (tgt := 630) dL_law_32 (zeq c20 (by decide)) (by decide) (by decide) (by decide) (k20 c20)
  by_cases c21 : x = 21
  · exact zx_tab (k := 21) (off := 641) (tgt := 673) dL_law_32 (zeq c21 (by decide)) (by decide) (by decide) (by decide) (k21 c21)
  by_cases c22 : x = 22
  · exact zx_tab (k := 22) (off := 654) (tgt := 686) dL_law_32 (zeq c22 (by decide)) (by decide) (by decide) (by decide) (k22 c22)
  by_cases c23 : x = 23
  · exact zx_tab (k := 23) (off := 687) (tgt := 719) dL_law_32 (zeq c23 (by decide)) (by decide) (by decide) (by decide) (k23 c23)
  by_cases c24 : x = 24
  · exact zx_tab (k := 24) (off := 710) (tgt := 742) dL_law_32 (zeq c24 (by decide)) (by decide) (by decide) (by decide) (k24 c24)
  by_cases c25 : x = 25
  · exact zx_tab (k := 25) (off := 779) (tgt := 811) dL_law_32 (zeq c25 (by decide)) (by decide) (by decide) (by decide) (k25 c25)
  by_cases c26 : x = 26
  · exact zx_tab (k := 26) (off := 833) (tgt := 865) dL_law_32 (zeq c26 (by decide)) (by decide) (by decide) (by decide) (k26 c26)
  by_cases c27 : x = 27
  · exact zx_tab (k := 27) (off := 856) (tgt := 888) dL_law_32 (zeq c27 (by decide)) (by decide) (by decide) (by decide) (k27 c27)
  by_cases c28 : x = 28
  · exact zx_tab (k := 28) (off := 879) (tgt := 911) dL_law_32 (zeq c28 (by decide)) (by decide) (by decide) (by decide) (k28 c28)
  have e9 : x.toInt < 0 ∨ 28 < x.toInt := by
    have e0 := zne (k := 0) c0 (by decide)
    have e1 := zne (k := 1) c1 (by decide)
    have e2 := zne (k := 2) c2 (by decide)
    have e3 := zne (k := 3) c3 (by decide)
    have e4 := zne (k := 4) c4 (by decide)
    have e5 := zne (k := 5) c5 (by decide)
    have e6 := zne (k := 6) c6 (by decide)
    have e7 := zne (k := 7) c7 (by decide)
    have e8 := zne (k := 8) c8 (by decide)
    have e9 := zne (k := 9) c9 (by decide)
    have e10 := zne (k := 10) c10 (by decide)
    have e11 := zne (k := 11) c11 (by decide)
    have e12 := zne (k := 12) c12 (by decide)
    have e13 := zne (k := 13) c13 (by decide)
    have e14 := zne (k := 14) c14 (by decide)
    have e15 := zne (k := 15) c15 (by decide)
    have e16 := zne (k := 16) c16 (by decide)
    have e17 := zne (k := 17) c17 (by decide)
    have e18 := zne (k := 18) c18 (by decide)
    have e19 := zne (k := 19) c19 (by decide)
    have e20 := zne (k := 20) c20 (by decide)
    have e21 := zne (k := 21) c21 (by decide)
    have e22 := zne (k := 22) c22 (by decide)
    have e23 := zne (k := 23) c23 (by decide)
    have e24 := zne (k := 24) c24 (by decide)
    have e25 := zne (k := 25) c25 (by decide)
    have e26 := zne (k := 26) c26 (by decide)
    have e27 := zne (k := 27) c27 (by decide)
    have e28 := zne (k := 28) c28 (by decide)
    omega
  exact zx_tableOut (tgt := 934) dL_law_32 e9 (by decide) (kd c0 c1 c2 c3 c4 c5 c6 c7 c8 c9 c10 c11 c12 c13 c14 c15 c16 c17 c18 c19 c20 c21 c22 c23 c24 c25 c26 c27 c28)
set_option maxHeartbeats 8000000 in
theorem lw_loop {nm : String} {d N mc ms kc ks : Nat} {xs : Nat → Int32} (hN : N ≤ 320) (hc : kc ≤ mc) (hs : ks ≤ ms) : ∀ f i : Nat, N < i + f → i ≤ 400 → ∀ sg, zI sg → zX RL cL_law 4 (some .boolean) nm (some (N, xs)) (d + 6) 0 mc ms kc ks (fun r _ => r = some (.int 1)) 18 [some (.ref 1001), some (.ref 0), some (.ref 75), some (.int (nI i))] [] sg := by
  intro f
  induction f with
  | zero =>
    intro i h1 h2 sg hI
    have hi : ¬ i + 5 ≤ N := by omega
    refine zx_iload_n (pc := 18) dL_law_18 rfl rfl ?_
    refine zx_aload_n (pc := 19) dL_law_19 rfl rfl ?_
    refine zx_slen (pc := 20) rfl dL_law_20 ?_
    refine zx_iconst (pc := 21) (v := 5) dL_law_21 (by decide) ?_
    refine zx_isub (pc := 22) dL_law_22 ?_
    refine zx_icmp_gt (pc := 23) (tgt := 940) dL_law_23 (by decide) (fun h23 => ?_) (fun h23 => by first | exact absurd h23 (zexit hi hN h2) | exact absurd (zexit hi hN h2) h23)
    refine zx_iconst (pc := 940) (v := 1) dL_law_940 (by decide) ?_
    exact zx_iret (pc := 941) dL_law_941 rfl (by decide) hc hs rfl
  | succ f ih =>
    intro i h1 h2 sg hI
    by_cases hi : i + 5 ≤ N
    · have ih' : ∀ sg', zI sg' → zX RL cL_law 4 (some .boolean) nm (some (N, xs)) (d + 6) 0 mc ms kc ks (fun r _ => r = some (.int 1)) 934 [some (.ref 1001), some (.ref 0), some (.ref 75), some (.int (nI i))] [] sg' := by
        intro sg' hI'
        refine ic_3_4_5 (pc := 934) dL_law_934 rfl ?_
        refine zx_goto (pc := 937) (tgt := 18) dL_law_937 (by decide) ?_
        rw [show nI i + 5 = nI (i + 5) from nI_add i 5]
        exact ih (i + 5) (by omega) (by omega) _ hI'
      have hI0 := hI
      obtain ⟨tb, T, gs, gk, gf, ga, H, F, gc, nt, ns, n2, n3, n4, n5, n6, n7, n8, tt, ts, t2, t3, t4, t5, t6, t7, t8, ws, w1, w2, w3, pt, b1, b2, b3, b4, b5, ab, n, z, sk, su, sr, so, sh, S, sd, th, mp, rc, rh, rg, rf, rd, pg, mq, bb, kk, wm, wo, q1, q2, q3, q4, wh, wu, i1, i2, f1, f2, vl, rfl, hJ⟩ := hI
      refine zx_iload_n (pc := 18) dL_law_18 rfl rfl ?_
      refine zx_aload_n (pc := 19) dL_law_19 rfl rfl ?_
      refine zx_slen (pc := 20) rfl dL_law_20 ?_
      refine zx_iconst (pc := 21) (v := 5) dL_law_21 (by decide) ?_
      refine zx_isub (pc := 22) dL_law_22 ?_
      refine zx_icmp_gt (pc := 23) (tgt := 940) dL_law_23 (by decide) (fun h23 => by first | exact absurd h23 (zstay hi hN) | exact absurd (zstay hi hN) h23) (fun h23 => ?_)
      refine zx_aload_n (pc := 26) dL_law_26 rfl rfl ?_
      refine zx_iload_n (pc := 27) dL_law_27 rfl rfl ?_
      refine zx_sld (pc := 28) rfl (zix_n (by omega) (by omega)) dL_law_28 ?_
      refine zx_bipush (pc := 29) (v := 31) dL_law_29 (by decide) ?_
      refine zx_iand (pc := 31) dL_law_31 ?_
      refine sw_L_law_32 (fun h32_0 => ?_) (fun h32_1 => ?_) (fun h32_2 => ?_) (fun h32_3 => ?_) (fun h32_4 => ?_) (fun h32_5 => ?_) (fun h32_6 => ?_) (fun h32_7 => ?_) (fun h32_8 => ?_) (fun h32_9 => ?_) (fun h32_10 => ?_) (fun h32_11 => ?_) (fun h32_12 => ?_) (fun h32_13 => ?_) (fun h32_14 => ?_) (fun h32_15 => ?_) (fun h32_16 => ?_) (fun h32_17 => ?_) (fun h32_18 => ?_) (fun h32_19 => ?_) (fun h32_20 => ?_) (fun h32_21 => ?_) (fun h32_22 => ?_) (fun h32_23 => ?_) (fun h32_24 => ?_) (fun h32_25 => ?_) (fun h32_26 => ?_) (fun h32_27 => ?_) (fun h32_28 => ?_) (fun h32_0 h32_1 h32_2 h32_3 h32_4 h32_5 h32_6 h32_7 h32_8 h32_9 h32_10 h32_11 h32_12 h32_13 h32_14 h32_15 h32_16 h32_17 h32_18 h32_19 h32_20 h32_21 h32_22 h32_23 h32_24 h32_25 h32_26 h32_27 h32_28 => ?_)
      · exact lw_write hN hi hc hs ih' hJ
      · exact lw_wipe hN hi hc hs ih' hJ
      · exact lw_fault hN hi hc hs ih' hJ
      · exact lw_pit hN hi hc hs ih' hJ
      · exact lw_about hN hi hc hs ih' hJ
      · exact lw_hand hN hi hc hs ih' hJ
      · exact lw_field hN hi hc hs ih' hJ
      · exact lw_day hN hi hc hs ih' hJ
      · exact lw_send hN hi hc hs ih' hJ
      · exact lw_turn hN hi hc hs ih' hJ
      · exact lw_lay hN hi hc hs ih' hJ
      · exact lw_rain hN hi hc hs ih' hJ
      · exact lw_undo hN hi hc hs ih' hJ
      · exact lw_makes hN hi hc hs ih' hJ
      · exact lw_best hN hi hc hs ih' hJ
      · exact lw_least hN hi hc hs ih' hJ
      · exact lw_ask hN hi hc hs ih' hJ
      · exact lw_lasts hN hi hc hs ih' hJ
      · exact lw_spare hN hi hc hs ih' hJ
      · exact lw_share hN hi hc hs ih' hJ
      · exact lw_see hN hi hc hs ih' hJ
      · exact lw_unsee hN hi hc hs ih' hJ
      · exact lw_courses hN hi hc hs ih' hJ
      · exact lw_rests hN hi hc hs ih' hJ
      · exact lw_chance hN hi hc hs ih' hJ
      · exact lw_seed hN hi hc hs ih' hJ
      · exact lw_years hN hi hc hs ih' hJ
      · exact lw_keep hN hi hc hs ih' hJ
      · exact lw_again hN hi hc hs ih' hJ
      · exact ih' _ hI0
    · refine zx_iload_n (pc := 18) dL_law_18 rfl rfl ?_
      refine zx_aload_n (pc := 19) dL_law_19 rfl rfl ?_
      refine zx_slen (pc := 20) rfl dL_law_20 ?_
      refine zx_iconst (pc := 21) (v := 5) dL_law_21 (by decide) ?_
      refine zx_isub (pc := 22) dL_law_22 ?_
      refine zx_icmp_gt (pc := 23) (tgt := 940) dL_law_23 (by decide) (fun h23 => ?_) (fun h23 => by first | exact absurd h23 (zexit hi hN h2) | exact absurd (zexit hi hN h2) h23)
      refine zx_iconst (pc := 940) (v := 1) dL_law_940 (by decide) ?_
      exact zx_iret (pc := 941) dL_law_941 rfl (by decide) hc hs rfl
theorem zI_0 : zI (encC (fun _ => 0, 0) (fun _ => 0, fun _ => 0, fun _ => 0, fun _ => 0, 0, 0, 0) zst0 zst0 (fun _ => 0, 0, 0, 0) (fun _ => 0, 0, 0, 0, 0, 0) (fun _ => zst0, 0, 0) (fun _ => zst0, fun _ => 0) (fun _ => 0, fun _ => 0, fun _ => 0, 0) 0 ++ encM 0 (fun _ => 0, 0, 0) (0, 0, fun _ => 0, fun _ => 0, 0, fun _ => 0) (0, 0, fun _ => 0, 0, fun _ => 0) (fun _ => 0) (fun _ => 0) (fun _ => 0, 0) (fun _ => 0, fun _ => 0) (0, fun _ => 0, fun _ => 0, fun _ => 0) 0 (0, 0) (0, 0, 0, 0) (0, 0) (0, 0) (0, 0) (fun _ => 0)) := by
  refine ⟨(fun _ => 0), 0, (fun _ => 0), (fun _ => 0), (fun _ => 0), (fun _ => 0), 0, 0, 0, (fun _ => 0), (fun _ => 0), 0, 0, 0, 0, 1, 0, 0, (fun _ => 0), (fun _ => 0), 0, 0, 0, 0, 1, 0, 0, (fun _ => 0), 0, 0, 0, (fun _ => 0), 0, 0, 0, 0, 0, (fun _ => zst0), 0, 0, (fun _ => zst0), (fun _ => 0), (fun _ => 0), (fun _ => 0), (fun _ => 0), 0, 0, 0, 0, 0, 0, (fun _ => 0), 0, (fun _ => 0), (fun _ => 0), (fun _ => 0), (fun _ => 0), (fun _ => 0), 0, 0, 0, 0, 0, 0, 0, 0, 0, 0, 0, 0, (fun _ => 0), rfl, ⟨by decide, by decide, by decide, by decide, by decide, by decide⟩, ⟨fun h hh => absurd hh (Nat.not_lt_zero _), fun h hh => absurd hh (Nat.not_lt_zero _)⟩, ?_, fun j hj => absurd hj (Nat.not_lt_zero _), fun k _ hn => absurd rfl hn, fun j hj => absurd hj (Nat.not_lt_zero _), fun j hj => absurd hj (Nat.not_lt_zero _)⟩
  exact ⟨fun _ _ => rfl, fun h hh => absurd hh (Nat.not_lt_zero _), fun f hf => absurd hf (Nat.not_lt_zero _), ⟨fun _ => 0, 0, fun f hf => absurd hf (Nat.not_lt_zero _), rfl, by decide⟩, ⟨rfl, rfl, rfl, rfl⟩, ⟨0, 0, by decide, by decide, rfl, rfl, by decide⟩, rfl, rfl⟩
set_option maxHeartbeats 8000000 in
set_option maxRecDepth 20000 in
theorem lw_begin {nm : String} {d N : Nat} {xs : Nat → Int32} (hN : N ≤ 320) : zX RL cL_law 4 (some .boolean) nm (some (N, xs)) (d + 6) 0 600000 7302250 0 0 (fun r _ => r = some (.int 1)) 0 [some (.ref 1001), none, none, none] [] [] := by
  refine zx_sg (sg' := [] ++ []) rfl ?_
  refine zi_new (pc := 0) (pre := []) (n := 0) (t := []) (m := 0) (ci := 8) (fs := [.null, .null, .null, .null, .null, .null, .null, .null, .null, .long 0]) rfl rfl rfl rfl (by decide) rfl ll_L_7 wn_X9 wi_X9 tyX9 tyX9_ok (by decide) (fun _ => rfl) (by decide) rfl rfl (by decide) (by decide) dL_law_0 ?_
  refine zx_dup (pc := 3) dL_law_3 rfl ?_
  refine zx_sg (sg' := [] ++ [.inr (.inr (8, [.null, .null, .null, .null, .null, .null, .null, .null, .null, .long 0]))]) rfl ?_
  refine zx_callIN (pc := 4) (rety := none) (i_X9 (d := d + 2)) cl_L_9 dL_law_4 (st := [.ref 0]) rfl rfl (by omega) (Nat.le_of_ble_eq_true rfl) (by decide) (by decide) (by decide) rfl rfl (fun r s hq => ?_)
  obtain ⟨rfl, rfl⟩ := hq
  show zX _ _ _ _ _ _ _ _ _ _ _ _ _ _ _ [.ref 0] _
  refine zx_astore_n (pc := 7) dL_law_7 rfl (by decide) rfl rfl ?_
  refine zx_sg (sg' := encC (fun _ => 0, 0) (fun _ => 0, fun _ => 0, fun _ => 0, fun _ => 0, 0, 0, 0) zst0 zst0 (fun _ => 0, 0, 0, 0) (fun _ => 0, 0, 0, 0, 0, 0) (fun _ => zst0, 0, 0) (fun _ => zst0, fun _ => 0) (fun _ => 0, fun _ => 0, fun _ => 0, 0) 0 ++ []) rfl ?_
  refine zi_new (pc := 8) (pre := encC (fun _ => 0, 0) (fun _ => 0, fun _ => 0, fun _ => 0, fun _ => 0, 0, 0, 0) zst0 zst0 (fun _ => 0, 0, 0, 0) (fun _ => 0, 0, 0, 0, 0, 0) (fun _ => zst0, 0, 0) (fun _ => zst0, fun _ => 0) (fun _ => 0, fun _ => 0, fun _ => 0, 0) 0) (n := 75) (t := []) (m := 75) (ci := 9) (fs := .int 0 :: .null :: .int 0 :: .int 0 :: .int 0 :: .int 0 :: .null :: .null :: .int 0 :: .null :: .int 0 :: .int 0 :: .null :: .int 0 :: .null :: .null :: .null :: .null :: .int 0 :: .null :: .null :: .int 0 :: .null :: .null :: .null :: .long 0 :: .int 0 :: .int 0 :: .int 0 :: .int 0 :: .int 0 :: .int 0 :: .int 0 :: .int 0 :: .int 0 :: .int 0 :: .int 0 :: .int 0 :: .null :: []) rfl rfl rfl rfl (by decide) rfl ll_L_10 wn_X10 wi_X10 tyX10 tyX10_ok (by decide) (fun _ => rfl) (by decide) rfl rfl (by decide) (by decide) dL_law_8 ?_
  refine zx_dup (pc := 11) dL_law_11 rfl ?_
  refine zx_sg (sg' := encC (fun _ => 0, 0) (fun _ => 0, fun _ => 0, fun _ => 0, fun _ => 0, 0, 0, 0) zst0 zst0 (fun _ => 0, 0, 0, 0) (fun _ => 0, 0, 0, 0, 0, 0) (fun _ => zst0, 0, 0) (fun _ => zst0, fun _ => 0) (fun _ => 0, fun _ => 0, fun _ => 0, 0) 0 ++ [.inr (.inr (9, .int 0 :: .null :: .int 0 :: .int 0 :: .int 0 :: .int 0 :: .null :: .null :: .int 0 :: .null :: .int 0 :: .int 0 :: .null :: .int 0 :: .null :: .null :: .null :: .null :: .int 0 :: .null :: .null :: .int 0 :: .null :: .null :: .null :: .long 0 :: .int 0 :: .int 0 :: .int 0 :: .int 0 :: .int 0 :: .int 0 :: .int 0 :: .int 0 :: .int 0 :: .int 0 :: .int 0 :: .int 0 :: .null :: []))]) rfl ?_
  refine zx_callIN (pc := 12) (rety := none) (i_X10 (d := d + 4) (rho := encC (fun _ => 0, 0) (fun _ => 0, fun _ => 0, fun _ => 0, fun _ => 0, 0, 0, 0) zst0 zst0 (fun _ => 0, 0, 0, 0) (fun _ => 0, 0, 0, 0, 0, 0) (fun _ => zst0, 0, 0) (fun _ => zst0, fun _ => 0) (fun _ => 0, fun _ => 0, fun _ => 0, 0) 0) rfl rfl) cl_L_12 dL_law_12 (st := [.ref 75]) rfl rfl (by omega) (Nat.le_of_ble_eq_true rfl) (by decide) (by decide) (by decide) rfl rfl (fun r s hq => ?_)
  obtain ⟨rfl, rfl⟩ := hq
  show zX _ _ _ _ _ _ _ _ _ _ _ _ _ _ _ [.ref 75] _
  refine zx_astore_n (pc := 15) dL_law_15 rfl (by decide) rfl rfl ?_
  refine zx_iconst (pc := 16) (v := 0) dL_law_16 (by decide) ?_
  refine st_3_4 (pc := 17) dL_law_17 rfl ?_
  exact lw_loop hN (by decide) (by decide) 400 0 (by omega) (by omega) _ zI_0
