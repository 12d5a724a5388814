def zJ (T : Nat) (gs gk gf : Nat → Int32) (H F : Nat) (nw : zStt) (ab : Nat → zStt) (n z : Nat) (sk : Nat → zStt) (su sr so : Nat → Int32) (S : Nat) (pg bb kk : Nat → Int32) : Prop :=
  (T ≤ 40 ∧ H ≤ 5 ∧ F ≤ 3 ∧ n < 14 ∧ z ≤ 14 ∧ S ≤ 6) ∧ zGd gs gk gf H F ∧ zSr H F pg nw ∧ zBr H F bb ab n z ∧ (∀ k, k < 2 → ¬ su k = 0 → zSr H F (fun i => kk (16 * k + i)) (sk k)) ∧ (∀ j, j < S → ∃ R : Nat, R ≤ 3 ∧ sr j = nI R) ∧ (∀ j, j < S → ∃ c : Nat, c < 8 ∧ so j = nI c)
def zI (sg : List zCel) : Prop := ∃ (tb : Nat → Int32) (T : Nat) (gs : Nat → Int32) (gk : Nat → Int32) (gf : Nat → Int32) (ga : Nat → Int32) (H : Nat) (F : Nat) (gc : Int32) (nt : Nat → Int32) (ns : Nat → Int32) (n2 : Int32) (n3 : Int32) (n4 : Int32) (n5 : Int32) (n6 : Int32) (n7 : Int32) (n8 : Int32) (tt : Nat → Int32) (ts : Nat → Int32) (t2 : Int32) (t3 : Int32) (t4 : Int32) (t5 : Int32) (t6 : Int32) (t7 : Int32) (t8 : Int32) (ws : Nat → Int32) (w1 : Int32) (w2 : Int32) (w3 : Int32) (pt : Nat → Int32) (b1 : Int32) (b2 : Int32) (b3 : Int32) (b4 : Int32) (b5 : Int32) (ab : Nat → zStt) (n : Nat) (z : Nat) (sk : Nat → zStt) (su : Nat → Int32) (sr : Nat → Int32) (so : Nat → Int32) (sh : Nat → Int32) (S : Nat) (sd : Int64) (th : Int32) (mp : Int32) (rc : Int32) (rh : Int32) (rg : Nat → Int32) (rf : Int32) (rd : Nat → Int32) (pg : Nat → Int32) (mq : Nat → Int32) (bb : Nat → Int32) (kk : Nat → Int32) (wm : Int32) (wo : Int32) (q1 : Int32) (q2 : Int32) (q3 : Int32) (q4 : Int32) (wh : Int32) (wu : Int32) (i1 : Int32) (i2 : Int32) (f1 : Int32) (f2 : Int32) (vl : Nat → Int32), sg = encC (tb, (nI T)) (gs, gk, gf, ga, (nI H), (nI F), gc) (nt, ns, n2, n3, n4, n5, n6, n7, n8) (tt, ts, t2, t3, t4, t5, t6, t7, t8) (ws, w1, w2, w3) (pt, b1, b2, b3, b4, b5) (ab, (nI n), (nI z)) (sk, su) (sr, so, sh, (nI S)) sd ++ encM th (tb, (nI T), mp) (gc, (nI H), gs, gk, (nI F), gf) (rc, rh, rg, rf, rd) pg mq (bb, (nI z)) (kk, su) ((nI S), sr, so, sh) sd (wm, wo) (q1, q2, q3, q4) (wh, wu) (i1, i2) (f1, f2) vl ∧ zJ T gs gk gf H F (nt, ns, n2, n3, n4, n5, n6, n7, n8) ab n z sk su sr so S pg bb kk
theorem zLen {tx : (Nat → Int32) × Int32} {gg : (Nat → Int32) × (Nat → Int32) × (Nat → Int32) × (Nat → Int32) × Int32 × Int32 × Int32} {nw tr : zStt} {wk : (Nat → Int32) × Int32 × Int32 × Int32} {pl : (Nat → Int32) × Int32 × Int32 × Int32 × Int32 × Int32} {ac : (Nat → zStt) × Int32 × Int32} {sl : (Nat → zStt) × (Nat → Int32)} {si : (Nat → Int32) × (Nat → Int32) × (Nat → Int32) × Int32} {sd : Int64} : (encC tx gg nw tr wk pl ac sl si sd).length = 75 := rfl
theorem zs1 {i N : Nat} (h : i + 5 ≤ N) (hN : N ≤ 320) : zix (nI i + 1) N (i + 1) := by rw [show nI i + 1 = nI (i + 1) from nI_add i 1]; exact zix_n (by omega) (by omega)
theorem zs2 {i N : Nat} (h : i + 5 ≤ N) (hN : N ≤ 320) : zix (nI i + 2) N (i + 2) := by rw [show nI i + 2 = nI (i + 2) from nI_add i 2]; exact zix_n (by omega) (by omega)
theorem zs3 {i N : Nat} (h : i + 5 ≤ N) (hN : N ≤ 320) : zix (nI i + 3) N (i + 3) := by rw [show nI i + 3 = nI (i + 3) from nI_add i 3]; exact zix_n (by omega) (by omega)
theorem zs4 {i N : Nat} (h : i + 5 ≤ N) (hN : N ≤ 320) : zix (nI i + 4) N (i + 4) := by rw [show nI i + 4 = nI (i + 4) from nI_add i 4]; exact zix_n (by omega) (by omega)
theorem zlc_0 (x : Int64) : lg_cmp x x = 0 := by unfold lg_cmp; rw [if_neg (Int64.lt_irrefl), if_pos rfl]
set_option maxHeartbeats 8000000 in
theorem lw_write {nm : String} {d N i mc ms kc ks : Nat} {xs : Nat → Int32} {tb : Nat → Int32} {T : Nat} {gs : Nat → Int32} {gk : Nat → Int32} {gf : Nat → Int32} {ga : Nat → Int32} {H : Nat} {F : Nat} {gc : Int32} {nt : Nat → Int32} {ns : Nat → Int32} {n2 : Int32} {n3 : Int32} {n4 : Int32} {n5 : Int32} {n6 : Int32} {n7 : Int32} {n8 : Int32} {tt : Nat → Int32} {ts : Nat → Int32} {t2 : Int32} {t3 : Int32} {t4 : Int32} {t5 : Int32} {t6 : Int32} {t7 : Int32} {t8 : Int32} {ws : Nat → Int32} {w1 : Int32} {w2 : Int32} {w3 : Int32} {pt : Nat → Int32} {b1 : Int32} {b2 : Int32} {b3 : Int32} {b4 : Int32} {b5 : Int32} {ab : Nat → zStt} {n : Nat} {z : Nat} {sk : Nat → zStt} {su : Nat → Int32} {sr : Nat → Int32} {so : Nat → Int32} {sh : Nat → Int32} {S : Nat} {sd : Int64} {th : Int32} {mp : Int32} {rc : Int32} {rh : Int32} {rg : Nat → Int32} {rf : Int32} {rd : Nat → Int32} {pg : Nat → Int32} {mq : Nat → Int32} {bb : Nat → Int32} {kk : Nat → Int32} {wm : Int32} {wo : Int32} {q1 : Int32} {q2 : Int32} {q3 : Int32} {q4 : Int32} {wh : Int32} {wu : Int32} {i1 : Int32} {i2 : Int32} {f1 : Int32} {f2 : Int32} {vl : Nat → Int32} (hN : N ≤ 320) (hi : i + 5 ≤ N) (hc : kc ≤ mc) (hs : ks ≤ ms) (ih : ∀ sg', zI sg' → zX RL cL_law 4 (some .boolean) nm (some (N, xs)) (d + 6) 0 mc ms kc ks (fun r _ => r = some (.int 1)) 934 [some (.ref 1001), some (.ref 0), some (.ref 75), some (.int (nI i))] [] sg') (hJ : zJ T gs gk gf H F (nt, ns, n2, n3, n4, n5, n6, n7, n8) ab n z sk su sr so S pg bb kk) : zX RL cL_law 4 (some .boolean) nm (some (N, xs)) (d + 6) 0 mc ms kc ks (fun r _ => r = some (.int 1)) 164 [some (.ref 1001), some (.ref 0), some (.ref 75), some (.int (nI i))] [] (encC (tb, (nI T)) (gs, gk, gf, ga, (nI H), (nI F), gc) (nt, ns, n2, n3, n4, n5, n6, n7, n8) (tt, ts, t2, t3, t4, t5, t6, t7, t8) (ws, w1, w2, w3) (pt, b1, b2, b3, b4, b5) (ab, (nI n), (nI z)) (sk, su) (sr, so, sh, (nI S)) sd ++ encM th (tb, (nI T), mp) (gc, (nI H), gs, gk, (nI F), gf) (rc, rh, rg, rf, rd) pg mq (bb, (nI z)) (kk, su) ((nI S), sr, so, sh) sd (wm, wo) (q1, q2, q3, q4) (wh, wu) (i1, i2) (f1, f2) vl) := by
  obtain ⟨⟨jT, jH, jF, jn, jz, jS⟩, jg, js, jb, jk, jr, jo⟩ := hJ
  by_cases g : zIn (xs (i + 1)) 0 255 = 0
  · refine zx_aload_n (pc := 164) dL_law_164 rfl rfl ?_
    refine zx_aload_n (pc := 165) dL_law_165 rfl rfl ?_
    refine zx_iload_n (pc := 166) dL_law_166 rfl rfl ?_
    refine zx_iconst (pc := 167) (v := 1) dL_law_167 (by decide) ?_
    refine zx_iadd (pc := 168) dL_law_168 ?_
    refine zx_sld (pc := 169) rfl (zs1 hi hN) dL_law_169 ?_
    refine zx_fV1 (pc := 170) (q_write_bad (d := d + 4) (zIn_bad g)) cl_L_13 p0 rfl dL_law_170 rfl rfl (by omega) (Nat.le_of_ble_eq_true rfl) (by assumption) (by assumption) ?_
    refine zx_aload_n (pc := 173) dL_law_173 rfl rfl ?_
    refine zx_aload_n (pc := 174) dL_law_174 rfl rfl ?_
    refine zx_iload_n (pc := 175) dL_law_175 rfl rfl ?_
    refine zx_iconst (pc := 176) (v := 1) dL_law_176 (by decide) ?_
    refine zx_iadd (pc := 177) dL_law_177 ?_
    refine zx_sld (pc := 178) rfl (zs1 hi hN) dL_law_178 ?_
    refine zx_fV1 (pc := 179) (m_write_bad (d := d + 4) zLen g) cl_L_17 (p75 zLen) rfl dL_law_179 rfl rfl (by omega) (Nat.le_of_ble_eq_true rfl) (by assumption) (by assumption) ?_
    refine zx_icmp_eq (pc := 182) (tgt := 934) dL_law_182 (by decide) (fun h182 => ?_) (fun h182 => absurd rfl h182)
    exact ih _ ⟨tb, T, gs, gk, gf, ga, H, F, gc, nt, ns, n2, n3, n4, n5, n6, n7, n8, tt, ts, t2, t3, t4, t5, t6, t7, t8, ws, w1, w2, w3, pt, b1, b2, b3, b4, b5, ab, n, z, sk, su, sr, so, sh, S, sd, 0, mp, rc, rh, rg, rf, rd, pg, mq, bb, kk, wm, wo, q1, q2, q3, q4, wh, wu, i1, i2, f1, f2, vl, rfl, ⟨⟨jT, jH, jF, jn, jz, jS⟩, jg, js, jb, jk, jr, jo⟩⟩
  · by_cases gT : T = 40
    · subst gT
      refine zx_aload_n (pc := 164) dL_law_164 rfl rfl ?_
      refine zx_aload_n (pc := 165) dL_law_165 rfl rfl ?_
      refine zx_iload_n (pc := 166) dL_law_166 rfl rfl ?_
      refine zx_iconst (pc := 167) (v := 1) dL_law_167 (by decide) ?_
      refine zx_iadd (pc := 168) dL_law_168 ?_
      refine zx_sld (pc := 169) rfl (zs1 hi hN) dL_law_169 ?_
      refine zx_fV1 (pc := 170) (q_write_full (d := d + 4) (zIn_ok g).1 (zIn_ok g).2) cl_L_13 p0 rfl dL_law_170 rfl rfl (by omega) (Nat.le_of_ble_eq_true rfl) (by assumption) (by assumption) ?_
      refine zx_aload_n (pc := 173) dL_law_173 rfl rfl ?_
      refine zx_aload_n (pc := 174) dL_law_174 rfl rfl ?_
      refine zx_iload_n (pc := 175) dL_law_175 rfl rfl ?_
      refine zx_iconst (pc := 176) (v := 1) dL_law_176 (by decide) ?_
      refine zx_iadd (pc := 177) dL_law_177 ?_
      refine zx_sld (pc := 178) rfl (zs1 hi hN) dL_law_178 ?_
      refine zx_fV1 (pc := 179) (m_write_full (d := d + 4) zLen g) cl_L_17 (p75 zLen) rfl dL_law_179 rfl rfl (by omega) (Nat.le_of_ble_eq_true rfl) (by assumption) (by assumption) ?_
      refine zx_icmp_eq (pc := 182) (tgt := 934) dL_law_182 (by decide) (fun h182 => ?_) (fun h182 => absurd rfl h182)
      exact ih _ ⟨tb, 40, gs, gk, gf, ga, H, F, gc, nt, ns, n2, n3, n4, n5, n6, n7, n8, tt, ts, t2, t3, t4, t5, t6, t7, t8, ws, w1, w2, w3, pt, b1, b2, b3, b4, b5, ab, n, z, sk, su, sr, so, sh, S, sd, 0, mp, rc, rh, rg, rf, rd, pg, mq, bb, kk, wm, wo, q1, q2, q3, q4, wh, wu, i1, i2, f1, f2, vl, rfl, ⟨⟨jT, jH, jF, jn, jz, jS⟩, jg, js, jb, jk, jr, jo⟩⟩
    · refine zx_aload_n (pc := 164) dL_law_164 rfl rfl ?_
      refine zx_aload_n (pc := 165) dL_law_165 rfl rfl ?_
      refine zx_iload_n (pc := 166) dL_law_166 rfl rfl ?_
      refine zx_iconst (pc := 167) (v := 1) dL_law_167 (by decide) ?_
      refine zx_iadd (pc := 168) dL_law_168 ?_
      refine zx_sld (pc := 169) rfl (zs1 hi hN) dL_law_169 ?_
      refine zx_fV1 (pc := 170) (q_write_ok (d := d + 4) (zIn_ok g).1 (zIn_ok g).2 (by omega)) cl_L_13 p0 rfl dL_law_170 rfl rfl (by omega) (Nat.le_of_ble_eq_true rfl) (by assumption) (by assumption) ?_
      refine zx_aload_n (pc := 173) dL_law_173 rfl rfl ?_
      refine zx_aload_n (pc := 174) dL_law_174 rfl rfl ?_
      refine zx_iload_n (pc := 175) dL_law_175 rfl rfl ?_
      refine zx_iconst (pc := 176) (v := 1) dL_law_176 (by decide) ?_
      refine zx_iadd (pc := 177) dL_law_177 ?_
      refine zx_sld (pc := 178) rfl (zs1 hi hN) dL_law_178 ?_
      refine zx_fV1 (pc := 179) (m_write_ok (d := d + 4) zLen g (by omega)) cl_L_17 (p75 zLen) rfl dL_law_179 rfl rfl (by omega) (Nat.le_of_ble_eq_true rfl) (by assumption) (by assumption) ?_
      refine zx_icmp_eq (pc := 182) (tgt := 934) dL_law_182 (by decide) (fun h182 => ?_) (fun h182 => absurd rfl h182)
      exact ih _ ⟨(upd tb T (xs (i + 1))), (T + 1), gs, gk, gf, ga, H, F, gc, nt, ns, n2, n3, n4, n5, n6, n7, n8, tt, ts, t2, t3, t4, t5, t6, t7, t8, ws, w1, w2, w3, pt, b1, b2, b3, b4, b5, ab, n, z, sk, su, sr, so, sh, S, sd, 0, mp, rc, rh, rg, rf, rd, pg, mq, bb, kk, wm, wo, q1, q2, q3, q4, wh, wu, i1, i2, f1, f2, vl, rfl, ⟨⟨(by omega), jH, jF, jn, jz, jS⟩, jg, js, jb, jk, jr, jo⟩⟩
set_option maxHeartbeats 8000000 in
theorem lw_wipe {nm : String} {d N i mc ms kc ks : Nat} {xs : Nat → Int32} {tb : Nat → Int32} {T : Nat} {gs : Nat → Int32} {gk : Nat → Int32} {gf : Nat → Int32} {ga : Nat → Int32} {H : Nat} {F : Nat} {gc : Int32} {nt : Nat → Int32} {ns : Nat → Int32} {n2 : Int32} {n3 : Int32} {n4 : Int32} {n5 : Int32} {n6 : Int32} {n7 : Int32} {n8 : Int32} {tt : Nat → Int32} {ts : Nat → Int32} {t2 : Int32} {t3 : Int32} {t4 : Int32} {t5 : Int32} {t6 : Int32} {t7 : Int32} {t8 : Int32} {ws : Nat → Int32} {w1 : Int32} {w2 : Int32} {w3 : Int32} {pt : Nat → Int32} {b1 : Int32} {b2 : Int32} {b3 : Int32} {b4 : Int32} {b5 : Int32} {ab : Nat → zStt} {n : Nat} {z : Nat} {sk : Nat → zStt} {su : Nat → Int32} {sr : Nat → Int32} {so : Nat → Int32} {sh : Nat → Int32} {S : Nat} {sd : Int64} {th : Int32} {mp : Int32} {rc : Int32} {rh : Int32} {rg : Nat → Int32} {rf : Int32} {rd : Nat → Int32} {pg : Nat → Int32} {mq : Nat → Int32} {bb : Nat → Int32} {kk : Nat → Int32} {wm : Int32} {wo : Int32} {q1 : Int32} {q2 : Int32} {q3 : Int32} {q4 : Int32} {wh : Int32} {wu : Int32} {i1 : Int32} {i2 : Int32} {f1 : Int32} {f2 : Int32} {vl : Nat → Int32} (hN : N ≤ 320) (hi : i + 5 ≤ N) (hc : kc ≤ mc) (hs : ks ≤ ms) (ih : ∀ sg', zI sg' → zX RL cL_law 4 (some .boolean) nm (some (N, xs)) (d + 6) 0 mc ms kc ks (fun r _ => r = some (.int 1)) 934 [some (.ref 1001), some (.ref 0), some (.ref 75), some (.int (nI i))] [] sg') (hJ : zJ T gs gk gf H F (nt, ns, n2, n3, n4, n5, n6, n7, n8) ab n z sk su sr so S pg bb kk) : zX RL cL_law 4 (some .boolean) nm (some (N, xs)) (d + 6) 0 mc ms kc ks (fun r _ => r = some (.int 1)) 187 [some (.ref 1001), some (.ref 0), some (.ref 75), some (.int (nI i))] [] (encC (tb, (nI T)) (gs, gk, gf, ga, (nI H), (nI F), gc) (nt, ns, n2, n3, n4, n5, n6, n7, n8) (tt, ts, t2, t3, t4, t5, t6, t7, t8) (ws, w1, w2, w3) (pt, b1, b2, b3, b4, b5) (ab, (nI n), (nI z)) (sk, su) (sr, so, sh, (nI S)) sd ++ encM th (tb, (nI T), mp) (gc, (nI H), gs, gk, (nI F), gf) (rc, rh, rg, rf, rd) pg mq (bb, (nI z)) (kk, su) ((nI S), sr, so, sh) sd (wm, wo) (q1, q2, q3, q4) (wh, wu) (i1, i2) (f1, f2) vl) := by
  obtain ⟨⟨jT, jH, jF, jn, jz, jS⟩, jg, js, jb, jk, jr, jo⟩ := hJ
  refine zx_aload_n (pc := 187) dL_law_187 rfl rfl ?_
  refine zx_fV1 (pc := 188) (q_wipe (d := d + 5) ) cl_L_18 p0 rfl dL_law_188 rfl rfl (by omega) (Nat.le_of_ble_eq_true rfl) (by assumption) (by assumption) ?_
  refine zx_aload_n (pc := 191) dL_law_191 rfl rfl ?_
  refine zx_fV1 (pc := 192) (m_wipe (d := d + 5) zLen) cl_L_22 (p75 zLen) rfl dL_law_192 rfl rfl (by omega) (Nat.le_of_ble_eq_true rfl) (by assumption) (by assumption) ?_
  refine zx_icmp_eq (pc := 195) (tgt := 934) dL_law_195 (by decide) (fun h195 => ?_) (fun h195 => absurd rfl h195)
  exact ih _ ⟨tb, 0, gs, gk, gf, ga, H, F, gc, nt, ns, n2, n3, n4, n5, n6, n7, n8, tt, ts, t2, t3, t4, t5, t6, t7, t8, ws, w1, w2, w3, pt, b1, b2, b3, b4, b5, ab, n, z, sk, su, sr, so, sh, S, sd, 0, mp, rc, rh, rg, rf, rd, pg, mq, bb, kk, wm, wo, q1, q2, q3, q4, wh, wu, i1, i2, f1, f2, vl, rfl, ⟨⟨(by omega), jH, jF, jn, jz, jS⟩, jg, js, jb, jk, jr, jo⟩⟩
set_option maxHeartbeats 8000000 in
theorem lw_about {nm : String} {d N i mc ms kc ks : Nat} {xs : Nat → Int32} {tb : Nat → Int32} {T : Nat} {gs : Nat → Int32} {gk : Nat → Int32} {gf : Nat → Int32} {ga : Nat → Int32} {H : Nat} {F : Nat} {gc : Int32} {nt : Nat → Int32} {ns : Nat → Int32} {n2 : Int32} {n3 : Int32} {n4 : Int32} {n5 : Int32} {n6 : Int32} {n7 : Int32} {n8 : Int32} {tt : Nat → Int32} {ts : Nat → Int32} {t2 : Int32} {t3 : Int32} {t4 : Int32} {t5 : Int32} {t6 : Int32} {t7 : Int32} {t8 : Int32} {ws : Nat → Int32} {w1 : Int32} {w2 : Int32} {w3 : Int32} {pt : Nat → Int32} {b1 : Int32} {b2 : Int32} {b3 : Int32} {b4 : Int32} {b5 : Int32} {ab : Nat → zStt} {n : Nat} {z : Nat} {sk : Nat → zStt} {su : Nat → Int32} {sr : Nat → Int32} {so : Nat → Int32} {sh : Nat → Int32} {S : Nat} {sd : Int64} {th : Int32} {mp : Int32} {rc : Int32} {rh : Int32} {rg : Nat → Int32} {rf : Int32} {rd : Nat → Int32} {pg : Nat → Int32} {mq : Nat → Int32} {bb : Nat → Int32} {kk : Nat → Int32} {wm : Int32} {wo : Int32} {q1 : Int32} {q2 : Int32} {q3 : Int32} {q4 : Int32} {wh : Int32} {wu : Int32} {i1 : Int32} {i2 : Int32} {f1 : Int32} {f2 : Int32} {vl : Nat → Int32} (hN : N ≤ 320) (hi : i + 5 ≤ N) (hc : kc ≤ mc) (hs : ks ≤ ms) (ih : ∀ sg', zI sg' → zX RL cL_law 4 (some .boolean) nm (some (N, xs)) (d + 6) 0 mc ms kc ks (fun r _ => r = some (.int 1)) 934 [some (.ref 1001), some (.ref 0), some (.ref 75), some (.int (nI i))] [] sg') (hJ : zJ T gs gk gf H F (nt, ns, n2, n3, n4, n5, n6, n7, n8) ab n z sk su sr so S pg bb kk) : zX RL cL_law 4 (some .boolean) nm (some (N, xs)) (d + 6) 0 mc ms kc ks (fun r _ => r = some (.int 1)) 226 [some (.ref 1001), some (.ref 0), some (.ref 75), some (.int (nI i))] [] (encC (tb, (nI T)) (gs, gk, gf, ga, (nI H), (nI F), gc) (nt, ns, n2, n3, n4, n5, n6, n7, n8) (tt, ts, t2, t3, t4, t5, t6, t7, t8) (ws, w1, w2, w3) (pt, b1, b2, b3, b4, b5) (ab, (nI n), (nI z)) (sk, su) (sr, so, sh, (nI S)) sd ++ encM th (tb, (nI T), mp) (gc, (nI H), gs, gk, (nI F), gf) (rc, rh, rg, rf, rd) pg mq (bb, (nI z)) (kk, su) ((nI S), sr, so, sh) sd (wm, wo) (q1, q2, q3, q4) (wh, wu) (i1, i2) (f1, f2) vl) := by
  obtain ⟨⟨jT, jH, jF, jn, jz, jS⟩, jg, js, jb, jk, jr, jo⟩ := hJ
  have js' := js
  obtain ⟨e1, -, e3, -, ⟨e8, e9, e10, e11⟩, ⟨k, m, k1, k2, k3, k4, k5⟩, e14, e15⟩ := js'
  simp only at e8 e9 e10 e11 k5 e14 e15
  obtain ⟨v1, v2⟩ := zW_hs k k1 m k2
  refine zx_aload_n (pc := 226) dL_law_226 rfl rfl ?_
  refine zx_aload_n (pc := 227) dL_law_227 rfl rfl ?_
  refine zx_iload_n (pc := 228) dL_law_228 rfl rfl ?_
  refine zx_iconst (pc := 229) (v := 1) dL_law_229 (by decide) ?_
  refine zx_iadd (pc := 230) dL_law_230 ?_
  refine zx_sld (pc := 231) rfl (zs1 hi hN) dL_law_231 ?_
  refine zx_fV1 (pc := 232) (q_about (d := d + 3) ) cl_L_31 p0 rfl dL_law_232 rfl rfl (by omega) (Nat.le_of_ble_eq_true rfl) (by assumption) (by assumption) ?_
  refine zx_aload_n (pc := 235) dL_law_235 rfl rfl ?_
  refine zx_aload_n (pc := 236) dL_law_236 rfl rfl ?_
  refine zx_iload_n (pc := 237) dL_law_237 rfl rfl ?_
  refine zx_iconst (pc := 238) (v := 1) dL_law_238 (by decide) ?_
  refine zx_iadd (pc := 239) dL_law_239 ?_
  refine zx_sld (pc := 240) rfl (zs1 hi hN) dL_law_240 ?_
  refine zx_fV1 (pc := 241) (m_about (d := d + 5) zLen) cl_L_34 (p75 zLen) rfl dL_law_241 rfl rfl (by omega) (Nat.le_of_ble_eq_true rfl) (by assumption) (by assumption) ?_
  refine zx_icmp_eq (pc := 244) (tgt := 934) dL_law_244 (by decide) (fun h244 => ?_) (fun h244 => absurd (by rw [e8, e9, e10, e11, k3, k4, e14, e15, k5, v1, v2]) h244)
  exact ih _ ⟨tb, T, gs, gk, gf, ga, H, F, gc, nt, ns, n2, n3, n4, n5, n6, n7, n8, tt, ts, t2, t3, t4, t5, t6, t7, t8, ws, w1, w2, w3, pt, b1, b2, b3, b4, b5, ab, n, z, sk, su, sr, so, sh, S, sd, 0, mp, rc, rh, rg, rf, rd, pg, mq, bb, kk, wm, wo, q1, q2, q3, q4, wh, wu, i1, i2, f1, f2, vl, rfl, ⟨⟨jT, jH, jF, jn, jz, jS⟩, jg, js, jb, jk, jr, jo⟩⟩
set_option maxHeartbeats 8000000 in
theorem lw_hand {nm : String} {d N i mc ms kc ks : Nat} {xs : Nat → Int32} {tb : Nat → Int32} {T : Nat} {gs : Nat → Int32} {gk : Nat → Int32} {gf : Nat → Int32} {ga : Nat → Int32} {H : Nat} {F : Nat} {gc : Int32} {nt : Nat → Int32} {ns : Nat → Int32} {n2 : Int32} {n3 : Int32} {n4 : Int32} {n5 : Int32} {n6 : Int32} {n7 : Int32} {n8 : Int32} {tt : Nat → Int32} {ts : Nat → Int32} {t2 : Int32} {t3 : Int32} {t4 : Int32} {t5 : Int32} {t6 : Int32} {t7 : Int32} {t8 : Int32} {ws : Nat → Int32} {w1 : Int32} {w2 : Int32} {w3 : Int32} {pt : Nat → Int32} {b1 : Int32} {b2 : Int32} {b3 : Int32} {b4 : Int32} {b5 : Int32} {ab : Nat → zStt} {n : Nat} {z : Nat} {sk : Nat → zStt} {su : Nat → Int32} {sr : Nat → Int32} {so : Nat → Int32} {sh : Nat → Int32} {S : Nat} {sd : Int64} {th : Int32} {mp : Int32} {rc : Int32} {rh : Int32} {rg : Nat → Int32} {rf : Int32} {rd : Nat → Int32} {pg : Nat → Int32} {mq : Nat → Int32} {bb : Nat → Int32} {kk : Nat → Int32} {wm : Int32} {wo : Int32} {q1 : Int32} {q2 : Int32} {q3 : Int32} {q4 : Int32} {wh : Int32} {wu : Int32} {i1 : Int32} {i2 : Int32} {f1 : Int32} {f2 : Int32} {vl : Nat → Int32} (hN : N ≤ 320) (hi : i + 5 ≤ N) (hc : kc ≤ mc) (hs : ks ≤ ms) (ih : ∀ sg', zI sg' → zX RL cL_law 4 (some .boolean) nm (some (N, xs)) (d + 6) 0 mc ms kc ks (fun r _ => r = some (.int 1)) 934 [some (.ref 1001), some (.ref 0), some (.ref 75), some (.int (nI i))] [] sg') (hJ : zJ T gs gk gf H F (nt, ns, n2, n3, n4, n5, n6, n7, n8) ab n z sk su sr so S pg bb kk) : zX RL cL_law 4 (some .boolean) nm (some (N, xs)) (d + 6) 0 mc ms kc ks (fun r _ => r = some (.int 1)) 249 [some (.ref 1001), some (.ref 0), some (.ref 75), some (.int (nI i))] [] (encC (tb, (nI T)) (gs, gk, gf, ga, (nI H), (nI F), gc) (nt, ns, n2, n3, n4, n5, n6, n7, n8) (tt, ts, t2, t3, t4, t5, t6, t7, t8) (ws, w1, w2, w3) (pt, b1, b2, b3, b4, b5) (ab, (nI n), (nI z)) (sk, su) (sr, so, sh, (nI S)) sd ++ encM th (tb, (nI T), mp) (gc, (nI H), gs, gk, (nI F), gf) (rc, rh, rg, rf, rd) pg mq (bb, (nI z)) (kk, su) ((nI S), sr, so, sh) sd (wm, wo) (q1, q2, q3, q4) (wh, wu) (i1, i2) (f1, f2) vl) := by
  obtain ⟨⟨jT, jH, jF, jn, jz, jS⟩, jg, js, jb, jk, jr, jo⟩ := hJ
  by_cases g : zHas (nI H) (xs (i + 1)) = 0
  · refine zx_aload_n (pc := 249) dL_law_249 rfl rfl ?_
    refine zx_aload_n (pc := 250) dL_law_250 rfl rfl ?_
    refine zx_iload_n (pc := 251) dL_law_251 rfl rfl ?_
    refine zx_iconst (pc := 252) (v := 1) dL_law_252 (by decide) ?_
    refine zx_iadd (pc := 253) dL_law_253 ?_
    refine zx_sld (pc := 254) rfl (zs1 hi hN) dL_law_254 ?_
    refine zx_aload_n (pc := 255) dL_law_255 rfl rfl ?_
    refine zx_iload_n (pc := 256) dL_law_256 rfl rfl ?_
    refine zx_iconst (pc := 257) (v := 2) dL_law_257 (by decide) ?_
    refine zx_iadd (pc := 258) dL_law_258 ?_
    refine zx_sld (pc := 259) rfl (zs2 hi hN) dL_law_259 ?_
    refine zx_fV1 (pc := 260) (q_hand_un (d := d + 3) g) cl_L_35 p0 rfl dL_law_260 rfl rfl (by omega) (Nat.le_of_ble_eq_true rfl) (by assumption) (by assumption) ?_
    refine zx_aload_n (pc := 263) dL_law_263 rfl rfl ?_
    refine zx_aload_n (pc := 264) dL_law_264 rfl rfl ?_
    refine zx_iload_n (pc := 265) dL_law_265 rfl rfl ?_
    refine zx_iconst (pc := 266) (v := 1) dL_law_266 (by decide) ?_
    refine zx_iadd (pc := 267) dL_law_267 ?_
    refine zx_sld (pc := 268) rfl (zs1 hi hN) dL_law_268 ?_
    refine zx_aload_n (pc := 269) dL_law_269 rfl rfl ?_
    refine zx_iload_n (pc := 270) dL_law_270 rfl rfl ?_
    refine zx_iconst (pc := 271) (v := 2) dL_law_271 (by decide) ?_
    refine zx_iadd (pc := 272) dL_law_272 ?_
    refine zx_sld (pc := 273) rfl (zs2 hi hN) dL_law_273 ?_
    refine zx_fV1 (pc := 274) (m_hand_un (d := d + 3) zLen jH g) cl_L_39 (p75 zLen) rfl dL_law_274 rfl rfl (by omega) (Nat.le_of_ble_eq_true rfl) (by assumption) (by assumption) ?_
    refine zx_icmp_eq (pc := 277) (tgt := 934) dL_law_277 (by decide) (fun h277 => ?_) (fun h277 => absurd rfl h277)
    exact ih _ ⟨tb, T, gs, gk, gf, ga, H, F, gc, nt, ns, n2, n3, n4, n5, n6, n7, n8, tt, ts, t2, t3, t4, t5, t6, t7, t8, ws, w1, w2, w3, pt, b1, b2, b3, b4, b5, ab, n, z, sk, su, sr, so, sh, S, sd, 0, mp, rc, rh, rg, rf, rd, pg, mq, bb, kk, wm, wo, q1, q2, q3, q4, wh, wu, i1, i2, f1, f2, vl, rfl, ⟨⟨jT, jH, jF, jn, jz, jS⟩, jg, js, jb, jk, jr, jo⟩⟩
  · obtain ⟨h, hh, eh⟩ := zHas_n (by omega) g
    refine zx_aload_n (pc := 249) dL_law_249 rfl rfl ?_
    refine zx_aload_n (pc := 250) dL_law_250 rfl rfl ?_
    refine zx_iload_n (pc := 251) dL_law_251 rfl rfl ?_
    refine zx_iconst (pc := 252) (v := 1) dL_law_252 (by decide) ?_
    refine zx_iadd (pc := 253) dL_law_253 ?_
    refine zx_sld (pc := 254) rfl (zs1 hi hN) dL_law_254 ?_
    refine zx_aload_n (pc := 255) dL_law_255 rfl rfl ?_
    refine zx_iload_n (pc := 256) dL_law_256 rfl rfl ?_
    refine zx_iconst (pc := 257) (v := 2) dL_law_257 (by decide) ?_
    refine zx_iadd (pc := 258) dL_law_258 ?_
    refine zx_sld (pc := 259) rfl (zs2 hi hN) dL_law_259 ?_
    rw [eh]
    refine zx_fV1 (pc := 260) (q_hand (d := d + 3) hh jH) cl_L_35 p0 rfl dL_law_260 rfl rfl (by omega) (Nat.le_of_ble_eq_true rfl) (by assumption) (by assumption) ?_
    refine zx_aload_n (pc := 263) dL_law_263 rfl rfl ?_
    refine zx_aload_n (pc := 264) dL_law_264 rfl rfl ?_
    refine zx_iload_n (pc := 265) dL_law_265 rfl rfl ?_
    refine zx_iconst (pc := 266) (v := 1) dL_law_266 (by decide) ?_
    refine zx_iadd (pc := 267) dL_law_267 ?_
    refine zx_sld (pc := 268) rfl (zs1 hi hN) dL_law_268 ?_
    refine zx_aload_n (pc := 269) dL_law_269 rfl rfl ?_
    refine zx_iload_n (pc := 270) dL_law_270 rfl rfl ?_
    refine zx_iconst (pc := 271) (v := 2) dL_law_271 (by decide) ?_
    refine zx_iadd (pc := 272) dL_law_272 ?_
    refine zx_sld (pc := 273) rfl (zs2 hi hN) dL_law_273 ?_
    rw [eh]
    refine zx_fV1 (pc := 274) (m_hand (d := d + 3) zLen hh jH) cl_L_39 (p75 zLen) rfl dL_law_274 rfl rfl (by omega) (Nat.le_of_ble_eq_true rfl) (by assumption) (by assumption) ?_
    refine zx_icmp_eq (pc := 277) (tgt := 934) dL_law_277 (by decide) (fun h277 => ?_) (fun h277 => absurd (by rw [js.1 h (by omega)]) h277)
    exact ih _ ⟨tb, T, gs, gk, gf, ga, H, F, gc, nt, ns, n2, n3, n4, n5, n6, n7, n8, tt, ts, t2, t3, t4, t5, t6, t7, t8, ws, w1, w2, w3, pt, b1, b2, b3, b4, b5, ab, n, z, sk, su, sr, so, sh, S, sd, 0, mp, rc, rh, rg, rf, rd, pg, mq, bb, kk, wm, wo, q1, q2, q3, q4, wh, wu, i1, i2, f1, f2, vl, rfl, ⟨⟨jT, jH, jF, jn, jz, jS⟩, jg, js, jb, jk, jr, jo⟩⟩
set_option maxHeartbeats 8000000 in
theorem lw_field {nm : String} {d N i mc ms kc ks : Nat} {xs : Nat → Int32} {tb : Nat → Int32} {T : Nat} {gs : Nat → Int32} {gk : Nat → Int32} {gf : Nat → Int32} {ga : Nat → Int32} {H : Nat} {F : Nat} {gc : Int32} {nt : Nat → Int32} {ns : Nat → Int32} {n2 : Int32} {n3 : Int32} {n4 : Int32} {n5 : Int32} {n6 : Int32} {n7 : Int32} {n8 : Int32} {tt : Nat → Int32} {ts : Nat → Int32} {t2 : Int32} {t3 : Int32} {t4 : Int32} {t5 : Int32} {t6 : Int32} {t7 : Int32} {t8 : Int32} {ws : Nat → Int32} {w1 : Int32} {w2 : Int32} {w3 : Int32} {pt : Nat → Int32} {b1 : Int32} {b2 : Int32} {b3 : Int32} {b4 : Int32} {b5 : Int32} {ab : Nat → zStt} {n : Nat} {z : Nat} {sk : Nat → zStt} {su : Nat → Int32} {sr : Nat → Int32} {so : Nat → Int32} {sh : Nat → Int32} {S : Nat} {sd : Int64} {th : Int32} {mp : Int32} {rc : Int32} {rh : Int32} {rg : Nat → Int32} {rf : Int32} {rd : Nat → Int32} {pg : Nat → Int32} {mq : Nat → Int32} {bb : Nat → Int32} {kk : Nat → Int32} {wm : Int32} {wo : Int32} {q1 : Int32} {q2 : Int32} {q3 : Int32} {q4 : Int32} {wh : Int32} {wu : Int32} {i1 : Int32} {i2 : Int32} {f1 : Int32} {f2 : Int32} {vl : Nat → Int32} (hN : N ≤ 320) (hi : i + 5 ≤ N) (hc : kc ≤ mc) (hs : ks ≤ ms) (ih : ∀ sg', zI sg' → zX RL cL_law 4 (some .boolean) nm (some (N, xs)) (d + 6) 0 mc ms kc ks (fun r _ => r = some (.int 1)) 934 [some (.ref 1001), some (.ref 0), some (.ref 75), some (.int (nI i))] [] sg') (hJ : zJ T gs gk gf H F (nt, ns, n2, n3, n4, n5, n6, n7, n8) ab n z sk su sr so S pg bb kk) : zX RL cL_law 4 (some .boolean) nm (some (N, xs)) (d + 6) 0 mc ms kc ks (fun r _ => r = some (.int 1)) 282 [some (.ref 1001), some (.ref 0), some (.ref 75), some (.int (nI i))] [] (encC (tb, (nI T)) (gs, gk, gf, ga, (nI H), (nI F), gc) (nt, ns, n2, n3, n4, n5, n6, n7, n8) (tt, ts, t2, t3, t4, t5, t6, t7, t8) (ws, w1, w2, w3) (pt, b1, b2, b3, b4, b5) (ab, (nI n), (nI z)) (sk, su) (sr, so, sh, (nI S)) sd ++ encM th (tb, (nI T), mp) (gc, (nI H), gs, gk, (nI F), gf) (rc, rh, rg, rf, rd) pg mq (bb, (nI z)) (kk, su) ((nI S), sr, so, sh) sd (wm, wo) (q1, q2, q3, q4) (wh, wu) (i1, i2) (f1, f2) vl) := by
  obtain ⟨⟨jT, jH, jF, jn, jz, jS⟩, jg, js, jb, jk, jr, jo⟩ := hJ
  by_cases g : zHas (nI F) (xs (i + 1)) = 0
  · refine zx_aload_n (pc := 282) dL_law_282 rfl rfl ?_
    refine zx_aload_n (pc := 283) dL_law_283 rfl rfl ?_
    refine zx_iload_n (pc := 284) dL_law_284 rfl rfl ?_
    refine zx_iconst (pc := 285) (v := 1) dL_law_285 (by decide) ?_
    refine zx_iadd (pc := 286) dL_law_286 ?_
    refine zx_sld (pc := 287) rfl (zs1 hi hN) dL_law_287 ?_
    refine zx_aload_n (pc := 288) dL_law_288 rfl rfl ?_
    refine zx_iload_n (pc := 289) dL_law_289 rfl rfl ?_
    refine zx_iconst (pc := 290) (v := 2) dL_law_290 (by decide) ?_
    refine zx_iadd (pc := 291) dL_law_291 ?_
    refine zx_sld (pc := 292) rfl (zs2 hi hN) dL_law_292 ?_
    refine zx_fV1 (pc := 293) (q_field_un (d := d + 4) g) cl_L_40 p0 rfl dL_law_293 rfl rfl (by omega) (Nat.le_of_ble_eq_true rfl) (by assumption) (by assumption) ?_
    refine zx_aload_n (pc := 296) dL_law_296 rfl rfl ?_
    refine zx_aload_n (pc := 297) dL_law_297 rfl rfl ?_
    refine zx_iload_n (pc := 298) dL_law_298 rfl rfl ?_
    refine zx_iconst (pc := 299) (v := 1) dL_law_299 (by decide) ?_
    refine zx_iadd (pc := 300) dL_law_300 ?_
    refine zx_sld (pc := 301) rfl (zs1 hi hN) dL_law_301 ?_
    refine zx_aload_n (pc := 302) dL_law_302 rfl rfl ?_
    refine zx_iload_n (pc := 303) dL_law_303 rfl rfl ?_
    refine zx_iconst (pc := 304) (v := 2) dL_law_304 (by decide) ?_
    refine zx_iadd (pc := 305) dL_law_305 ?_
    refine zx_sld (pc := 306) rfl (zs2 hi hN) dL_law_306 ?_
    refine zx_fV1 (pc := 307) (m_field_un (d := d + 4) zLen jF g) cl_L_43 (p75 zLen) rfl dL_law_307 rfl rfl (by omega) (Nat.le_of_ble_eq_true rfl) (by assumption) (by assumption) ?_
    refine zx_icmp_eq (pc := 310) (tgt := 934) dL_law_310 (by decide) (fun h310 => ?_) (fun h310 => absurd rfl h310)
    exact ih _ ⟨tb, T, gs, gk, gf, ga, H, F, gc, nt, ns, n2, n3, n4, n5, n6, n7, n8, tt, ts, t2, t3, t4, t5, t6, t7, t8, ws, w1, w2, w3, pt, b1, b2, b3, b4, b5, ab, n, z, sk, su, sr, so, sh, S, sd, 0, mp, rc, rh, rg, rf, rd, pg, mq, bb, kk, wm, wo, q1, q2, q3, q4, wh, wu, i1, i2, f1, f2, vl, rfl, ⟨⟨jT, jH, jF, jn, jz, jS⟩, jg, js, jb, jk, jr, jo⟩⟩
  · obtain ⟨h, hh, eh⟩ := zHas_n (by omega) g
    refine zx_aload_n (pc := 282) dL_law_282 rfl rfl ?_
    refine zx_aload_n (pc := 283) dL_law_283 rfl rfl ?_
    refine zx_iload_n (pc := 284) dL_law_284 rfl rfl ?_
    refine zx_iconst (pc := 285) (v := 1) dL_law_285 (by decide) ?_
    refine zx_iadd (pc := 286) dL_law_286 ?_
    refine zx_sld (pc := 287) rfl (zs1 hi hN) dL_law_287 ?_
    refine zx_aload_n (pc := 288) dL_law_288 rfl rfl ?_
    refine zx_iload_n (pc := 289) dL_law_289 rfl rfl ?_
    refine zx_iconst (pc := 290) (v := 2) dL_law_290 (by decide) ?_
    refine zx_iadd (pc := 291) dL_law_291 ?_
    refine zx_sld (pc := 292) rfl (zs2 hi hN) dL_law_292 ?_
    rw [eh]
    refine zx_fV1 (pc := 293) (q_field (d := d + 4) hh jF) cl_L_40 p0 rfl dL_law_293 rfl rfl (by omega) (Nat.le_of_ble_eq_true rfl) (by assumption) (by assumption) ?_
    refine zx_aload_n (pc := 296) dL_law_296 rfl rfl ?_
    refine zx_aload_n (pc := 297) dL_law_297 rfl rfl ?_
    refine zx_iload_n (pc := 298) dL_law_298 rfl rfl ?_
    refine zx_iconst (pc := 299) (v := 1) dL_law_299 (by decide) ?_
    refine zx_iadd (pc := 300) dL_law_300 ?_
    refine zx_sld (pc := 301) rfl (zs1 hi hN) dL_law_301 ?_
    refine zx_aload_n (pc := 302) dL_law_302 rfl rfl ?_
    refine zx_iload_n (pc := 303) dL_law_303 rfl rfl ?_
    refine zx_iconst (pc := 304) (v := 2) dL_law_304 (by decide) ?_
    refine zx_iadd (pc := 305) dL_law_305 ?_
    refine zx_sld (pc := 306) rfl (zs2 hi hN) dL_law_306 ?_
    rw [eh]
    refine zx_fV1 (pc := 307) (m_field (d := d + 4) zLen hh jF) cl_L_43 (p75 zLen) rfl dL_law_307 rfl rfl (by omega) (Nat.le_of_ble_eq_true rfl) (by assumption) (by assumption) ?_
    refine zx_icmp_eq (pc := 310) (tgt := 934) dL_law_310 (by decide) (fun h310 => ?_) (fun h310 => absurd (by rw [js.2.2.1 h hh]) h310)
    exact ih _ ⟨tb, T, gs, gk, gf, ga, H, F, gc, nt, ns, n2, n3, n4, n5, n6, n7, n8, tt, ts, t2, t3, t4, t5, t6, t7, t8, ws, w1, w2, w3, pt, b1, b2, b3, b4, b5, ab, n, z, sk, su, sr, so, sh, S, sd, 0, mp, rc, rh, rg, rf, rd, pg, mq, bb, kk, wm, wo, q1, q2, q3, q4, wh, wu, i1, i2, f1, f2, vl, rfl, ⟨⟨jT, jH, jF, jn, jz, jS⟩, jg, js, jb, jk, jr, jo⟩⟩
set_option maxHeartbeats 8000000 in
theorem lw_day {nm : String} {d N i mc ms kc ks : Nat} {xs : Nat → Int32} {tb : Nat → Int32} {T : Nat} {gs : Nat → Int32} {gk : Nat → Int32} {gf : Nat → Int32} {ga : Nat → Int32} {H : Nat} {F : Nat} {gc : Int32} {nt : Nat → Int32} {ns : Nat → Int32} {n2 : Int32} {n3 : Int32} {n4 : Int32} {n5 : Int32} {n6 : Int32} {n7 : Int32} {n8 : Int32} {tt : Nat → Int32} {ts : Nat → Int32} {t2 : Int32} {t3 : Int32} {t4 : Int32} {t5 : Int32} {t6 : Int32} {t7 : Int32} {t8 : Int32} {ws : Nat → Int32} {w1 : Int32} {w2 : Int32} {w3 : Int32} {pt : Nat → Int32} {b1 : Int32} {b2 : Int32} {b3 : Int32} {b4 : Int32} {b5 : Int32} {ab : Nat → zStt} {n : Nat} {z : Nat} {sk : Nat → zStt} {su : Nat → Int32} {sr : Nat → Int32} {so : Nat → Int32} {sh : Nat → Int32} {S : Nat} {sd : Int64} {th : Int32} {mp : Int32} {rc : Int32} {rh : Int32} {rg : Nat → Int32} {rf : Int32} {rd : Nat → Int32} {pg : Nat → Int32} {mq : Nat → Int32} {bb : Nat → Int32} {kk : Nat → Int32} {wm : Int32} {wo : Int32} {q1 : Int32} {q2 : Int32} {q3 : Int32} {q4 : Int32} {wh : Int32} {wu : Int32} {i1 : Int32} {i2 : Int32} {f1 : Int32} {f2 : Int32} {vl : Nat → Int32} (hN : N ≤ 320) (hi : i + 5 ≤ N) (hc : kc ≤ mc) (hs : ks ≤ ms) (ih : ∀ sg', zI sg' → zX RL cL_law 4 (some .boolean) nm (some (N, xs)) (d + 6) 0 mc ms kc ks (fun r _ => r = some (.int 1)) 934 [some (.ref 1001), some (.ref 0), some (.ref 75), some (.int (nI i))] [] sg') (hJ : zJ T gs gk gf H F (nt, ns, n2, n3, n4, n5, n6, n7, n8) ab n z sk su sr so S pg bb kk) : zX RL cL_law 4 (some .boolean) nm (some (N, xs)) (d + 6) 0 mc ms kc ks (fun r _ => r = some (.int 1)) 315 [some (.ref 1001), some (.ref 0), some (.ref 75), some (.int (nI i))] [] (encC (tb, (nI T)) (gs, gk, gf, ga, (nI H), (nI F), gc) (nt, ns, n2, n3, n4, n5, n6, n7, n8) (tt, ts, t2, t3, t4, t5, t6, t7, t8) (ws, w1, w2, w3) (pt, b1, b2, b3, b4, b5) (ab, (nI n), (nI z)) (sk, su) (sr, so, sh, (nI S)) sd ++ encM th (tb, (nI T), mp) (gc, (nI H), gs, gk, (nI F), gf) (rc, rh, rg, rf, rd) pg mq (bb, (nI z)) (kk, su) ((nI S), sr, so, sh) sd (wm, wo) (q1, q2, q3, q4) (wh, wu) (i1, i2) (f1, f2) vl) := by
  obtain ⟨⟨jT, jH, jF, jn, jz, jS⟩, jg, js, jb, jk, jr, jo⟩ := hJ
  have jd := zSr_d (ws := ws) (mo := gc) jg jH jF js
  have jw := (zSr_w (gs := gs) (gk := gk) (gf := gf) (ws := ws) jH jF js).1
  refine zx_aload_n (pc := 315) dL_law_315 rfl rfl ?_
  refine zx_fV1 (pc := 316) (q_day (d := d + 1) jH jF jn jz) cl_L_44 p0 rfl dL_law_316 rfl rfl (by omega) (Nat.le_of_ble_eq_true rfl) (by assumption) (by assumption) ?_
  refine zx_aload_n (pc := 319) dL_law_319 rfl rfl ?_
  refine zx_fV1 (pc := 320) (m_day (d := d + 2) zLen jH jF jz js.2.1) cl_L_47 (p75 zLen) rfl dL_law_320 rfl rfl (by omega) (Nat.le_of_ble_eq_true rfl) (by assumption) (by assumption) ?_
  refine zx_icmp_eq (pc := 323) (tgt := 934) dL_law_323 (by decide) (fun h323 => ?_) (fun h323 => absurd (by rw [jw]) h323)
  exact ih _ ⟨tb, T, gs, gk, gf, ga, H, F, gc, (zend gc (zDay gs gk gf (nI F) H nt (va_cpy ns ws 0 0 3) n2) (nt, ns, n2, n3, n4, n5, n6, n7, n8)).1, (zend gc (zDay gs gk gf (nI F) H nt (va_cpy ns ws 0 0 3) n2) (nt, ns, n2, n3, n4, n5, n6, n7, n8)).2.1, (zend gc (zDay gs gk gf (nI F) H nt (va_cpy ns ws 0 0 3) n2) (nt, ns, n2, n3, n4, n5, n6, n7, n8)).2.2.1, (zend gc (zDay gs gk gf (nI F) H nt (va_cpy ns ws 0 0 3) n2) (nt, ns, n2, n3, n4, n5, n6, n7, n8)).2.2.2.1, (zend gc (zDay gs gk gf (nI F) H nt (va_cpy ns ws 0 0 3) n2) (nt, ns, n2, n3, n4, n5, n6, n7, n8)).2.2.2.2.1, (zend gc (zDay gs gk gf (nI F) H nt (va_cpy ns ws 0 0 3) n2) (nt, ns, n2, n3, n4, n5, n6, n7, n8)).2.2.2.2.2.1, (zend gc (zDay gs gk gf (nI F) H nt (va_cpy ns ws 0 0 3) n2) (nt, ns, n2, n3, n4, n5, n6, n7, n8)).2.2.2.2.2.2.1, (zend gc (zDay gs gk gf (nI F) H nt (va_cpy ns ws 0 0 3) n2) (nt, ns, n2, n3, n4, n5, n6, n7, n8)).2.2.2.2.2.2.2.1, (zend gc (zDay gs gk gf (nI F) H nt (va_cpy ns ws 0 0 3) n2) (nt, ns, n2, n3, n4, n5, n6, n7, n8)).2.2.2.2.2.2.2.2, tt, ts, t2, t3, t4, t5, t6, t7, t8, (zDay gs gk gf (nI F) H nt (va_cpy ns ws 0 0 3) n2).1, (zDay gs gk gf (nI F) H nt (va_cpy ns ws 0 0 3) n2).2.1, (zDay gs gk gf (nI F) H nt (va_cpy ns ws 0 0 3) n2).2.2.1, (zDay gs gk gf (nI F) H nt (va_cpy ns ws 0 0 3) n2).2.2.2, pt, b1, b2, b3, b4, b5, (va_up ab n (zcpS (nt, ns, n2, n3, n4, n5, n6, n7, n8) (ab n))), ((n + 1) % 14), (min (z + 1) 14), sk, su, sr, so, sh, S, sd, 0, mp, rc, rh, rg, rf, rd, (zPd gc pg (zMd gs gk gf F H pg)), mq, (zNb bb z pg), kk, (zMd gs gk gf F H pg).2.2.1, (zMd gs gk gf F H pg).2.2.2, q1, q2, q3, q4, wh, wu, i1, i2, f1, f2, vl, rfl, ⟨⟨jT, jH, jF, Nat.mod_lt _ (by decide), Nat.min_le_right _ _, jS⟩, jg, jd, zBr_n jH jF jn jz jb js, jk, jr, jo⟩⟩
set_option maxHeartbeats 8000000 in
theorem lw_send {nm : String} {d N i mc ms kc ks : Nat} {xs : Nat → Int32} {tb : Nat → Int32} {T : Nat} {gs : Nat → Int32} {gk : Nat → Int32} {gf : Nat → Int32} {ga : Nat → Int32} {H : Nat} {F : Nat} {gc : Int32} {nt : Nat → Int32} {ns : Nat → Int32} {n2 : Int32} {n3 : Int32} {n4 : Int32} {n5 : Int32} {n6 : Int32} {n7 : Int32} {n8 : Int32} {tt : Nat → Int32} {ts : Nat → Int32} {t2 : Int32} {t3 : Int32} {t4 : Int32} {t5 : Int32} {t6 : Int32} {t7 : Int32} {t8 : Int32} {ws : Nat → Int32} {w1 : Int32} {w2 : Int32} {w3 : Int32} {pt : Nat → Int32} {b1 : Int32} {b2 : Int32} {b3 : Int32} {b4 : Int32} {b5 : Int32} {ab : Nat → zStt} {n : Nat} {z : Nat} {sk : Nat → zStt} {su : Nat → Int32} {sr : Nat → Int32} {so : Nat → Int32} {sh : Nat → Int32} {S : Nat} {sd : Int64} {th : Int32} {mp : Int32} {rc : Int32} {rh : Int32} {rg : Nat → Int32} {rf : Int32} {rd : Nat → Int32} {pg : Nat → Int32} {mq : Nat → Int32} {bb : Nat → Int32} {kk : Nat → Int32} {wm : Int32} {wo : Int32} {q1 : Int32} {q2 : Int32} {q3 : Int32} {q4 : Int32} {wh : Int32} {wu : Int32} {i1 : Int32} {i2 : Int32} {f1 : Int32} {f2 : Int32} {vl : Nat → Int32} (hN : N ≤ 320) (hi : i + 5 ≤ N) (hc : kc ≤ mc) (hs : ks ≤ ms) (ih : ∀ sg', zI sg' → zX RL cL_law 4 (some .boolean) nm (some (N, xs)) (d + 6) 0 mc ms kc ks (fun r _ => r = some (.int 1)) 934 [some (.ref 1001), some (.ref 0), some (.ref 75), some (.int (nI i))] [] sg') (hJ : zJ T gs gk gf H F (nt, ns, n2, n3, n4, n5, n6, n7, n8) ab n z sk su sr so S pg bb kk) : zX RL cL_law 4 (some .boolean) nm (some (N, xs)) (d + 6) 0 mc ms kc ks (fun r _ => r = some (.int 1)) 328 [some (.ref 1001), some (.ref 0), some (.ref 75), some (.int (nI i))] [] (encC (tb, (nI T)) (gs, gk, gf, ga, (nI H), (nI F), gc) (nt, ns, n2, n3, n4, n5, n6, n7, n8) (tt, ts, t2, t3, t4, t5, t6, t7, t8) (ws, w1, w2, w3) (pt, b1, b2, b3, b4, b5) (ab, (nI n), (nI z)) (sk, su) (sr, so, sh, (nI S)) sd ++ encM th (tb, (nI T), mp) (gc, (nI H), gs, gk, (nI F), gf) (rc, rh, rg, rf, rd) pg mq (bb, (nI z)) (kk, su) ((nI S), sr, so, sh) sd (wm, wo) (q1, q2, q3, q4) (wh, wu) (i1, i2) (f1, f2) vl) := by
  obtain ⟨⟨jT, jH, jF, jn, jz, jS⟩, jg, js, jb, jk, jr, jo⟩ := hJ
  by_cases g : zHas (nI H) (xs (i + 1)) = 0
  · refine zx_aload_n (pc := 328) dL_law_328 rfl rfl ?_
    refine zx_aload_n (pc := 329) dL_law_329 rfl rfl ?_
    refine zx_iload_n (pc := 330) dL_law_330 rfl rfl ?_
    refine zx_iconst (pc := 331) (v := 1) dL_law_331 (by decide) ?_
    refine zx_iadd (pc := 332) dL_law_332 ?_
    refine zx_sld (pc := 333) rfl (zs1 hi hN) dL_law_333 ?_
    refine zx_aload_n (pc := 334) dL_law_334 rfl rfl ?_
    refine zx_iload_n (pc := 335) dL_law_335 rfl rfl ?_
    refine zx_iconst (pc := 336) (v := 2) dL_law_336 (by decide) ?_
    refine zx_iadd (pc := 337) dL_law_337 ?_
    refine zx_sld (pc := 338) rfl (zs2 hi hN) dL_law_338 ?_
    refine zx_fV1 (pc := 339) (q_send_un (d := d + 2) g) cl_L_48 p0 rfl dL_law_339 rfl rfl (by omega) (Nat.le_of_ble_eq_true rfl) (by assumption) (by assumption) ?_
    refine zx_aload_n (pc := 342) dL_law_342 rfl rfl ?_
    refine zx_aload_n (pc := 343) dL_law_343 rfl rfl ?_
    refine zx_iload_n (pc := 344) dL_law_344 rfl rfl ?_
    refine zx_iconst (pc := 345) (v := 1) dL_law_345 (by decide) ?_
    refine zx_iadd (pc := 346) dL_law_346 ?_
    refine zx_sld (pc := 347) rfl (zs1 hi hN) dL_law_347 ?_
    refine zx_aload_n (pc := 348) dL_law_348 rfl rfl ?_
    refine zx_iload_n (pc := 349) dL_law_349 rfl rfl ?_
    refine zx_iconst (pc := 350) (v := 2) dL_law_350 (by decide) ?_
    refine zx_iadd (pc := 351) dL_law_351 ?_
    refine zx_sld (pc := 352) rfl (zs2 hi hN) dL_law_352 ?_
    refine zx_fV1 (pc := 353) (m_send_un (d := d + 3) zLen jH g) cl_L_51 (p75 zLen) rfl dL_law_353 rfl rfl (by omega) (Nat.le_of_ble_eq_true rfl) (by assumption) (by assumption) ?_
    refine zx_icmp_eq (pc := 356) (tgt := 934) dL_law_356 (by decide) (fun h356 => ?_) (fun h356 => absurd rfl h356)
    exact ih _ ⟨tb, T, gs, gk, gf, ga, H, F, gc, nt, ns, n2, n3, n4, n5, n6, n7, n8, tt, ts, t2, t3, t4, t5, t6, t7, t8, ws, w1, w2, w3, pt, b1, b2, b3, b4, b5, ab, n, z, sk, su, sr, so, sh, S, sd, 0, mp, rc, rh, rg, rf, rd, pg, mq, bb, kk, wm, wo, q1, q2, q3, q4, wh, wu, i1, i2, f1, f2, vl, rfl, ⟨⟨jT, jH, jF, jn, jz, jS⟩, jg, js, jb, jk, jr, jo⟩⟩
  · obtain ⟨h, hh, eh⟩ := zHas_n (by omega) g
    by_cases g2 : zTask (nI F) (xs (i + 2)) = 0
    · refine zx_aload_n (pc := 328) dL_law_328 rfl rfl ?_
      refine zx_aload_n (pc := 329) dL_law_329 rfl rfl ?_
      refine zx_iload_n (pc := 330) dL_law_330 rfl rfl ?_
      refine zx_iconst (pc := 331) (v := 1) dL_law_331 (by decide) ?_
      refine zx_iadd (pc := 332) dL_law_332 ?_
      refine zx_sld (pc := 333) rfl (zs1 hi hN) dL_law_333 ?_
      refine zx_aload_n (pc := 334) dL_law_334 rfl rfl ?_
      refine zx_iload_n (pc := 335) dL_law_335 rfl rfl ?_
      refine zx_iconst (pc := 336) (v := 2) dL_law_336 (by decide) ?_
      refine zx_iadd (pc := 337) dL_law_337 ?_
      refine zx_sld (pc := 338) rfl (zs2 hi hN) dL_law_338 ?_
      rw [eh]
      refine zx_fV1 (pc := 339) (q_send_bad (d := d + 2) hh jH g2) cl_L_48 p0 rfl dL_law_339 rfl rfl (by omega) (Nat.le_of_ble_eq_true rfl) (by assumption) (by assumption) ?_
      refine zx_aload_n (pc := 342) dL_law_342 rfl rfl ?_
      refine zx_aload_n (pc := 343) dL_law_343 rfl rfl ?_
      refine zx_iload_n (pc := 344) dL_law_344 rfl rfl ?_
      refine zx_iconst (pc := 345) (v := 1) dL_law_345 (by decide) ?_
      refine zx_iadd (pc := 346) dL_law_346 ?_
      refine zx_sld (pc := 347) rfl (zs1 hi hN) dL_law_347 ?_
      refine zx_aload_n (pc := 348) dL_law_348 rfl rfl ?_
      refine zx_iload_n (pc := 349) dL_law_349 rfl rfl ?_
      refine zx_iconst (pc := 350) (v := 2) dL_law_350 (by decide) ?_
      refine zx_iadd (pc := 351) dL_law_351 ?_
      refine zx_sld (pc := 352) rfl (zs2 hi hN) dL_law_352 ?_
      rw [eh]
      refine zx_fV1 (pc := 353) (m_send_bad (d := d + 3) zLen hh jH (by rw [← zTask_in jF]; exact g2)) cl_L_51 (p75 zLen) rfl dL_law_353 rfl rfl (by omega) (Nat.le_of_ble_eq_true rfl) (by assumption) (by assumption) ?_
      refine zx_icmp_eq (pc := 356) (tgt := 934) dL_law_356 (by decide) (fun h356 => ?_) (fun h356 => absurd rfl h356)
      exact ih _ ⟨tb, T, gs, gk, gf, ga, H, F, gc, nt, ns, n2, n3, n4, n5, n6, n7, n8, tt, ts, t2, t3, t4, t5, t6, t7, t8, ws, w1, w2, w3, pt, b1, b2, b3, b4, b5, ab, n, z, sk, su, sr, so, sh, S, sd, 0, mp, rc, rh, rg, rf, rd, pg, mq, bb, kk, wm, wo, q1, q2, q3, q4, wh, wu, i1, i2, f1, f2, vl, rfl, ⟨⟨jT, jH, jF, jn, jz, jS⟩, jg, js, jb, jk, jr, jo⟩⟩
    · by_cases g3 : nt h = (xs (i + 2))
      · refine zx_aload_n (pc := 328) dL_law_328 rfl rfl ?_
        refine zx_aload_n (pc := 329) dL_law_329 rfl rfl ?_
        refine zx_iload_n (pc := 330) dL_law_330 rfl rfl ?_
        refine zx_iconst (pc := 331) (v := 1) dL_law_331 (by decide) ?_
        refine zx_iadd (pc := 332) dL_law_332 ?_
        refine zx_sld (pc := 333) rfl (zs1 hi hN) dL_law_333 ?_
        refine zx_aload_n (pc := 334) dL_law_334 rfl rfl ?_
        refine zx_iload_n (pc := 335) dL_law_335 rfl rfl ?_
        refine zx_iconst (pc := 336) (v := 2) dL_law_336 (by decide) ?_
        refine zx_iadd (pc := 337) dL_law_337 ?_
        refine zx_sld (pc := 338) rfl (zs2 hi hN) dL_law_338 ?_
        rw [eh]
        refine zx_fV1 (pc := 339) (q_send_late (d := d + 2) hh jH g2 g3) cl_L_48 p0 rfl dL_law_339 rfl rfl (by omega) (Nat.le_of_ble_eq_true rfl) (by assumption) (by assumption) ?_
        refine zx_aload_n (pc := 342) dL_law_342 rfl rfl ?_
        refine zx_aload_n (pc := 343) dL_law_343 rfl rfl ?_
        refine zx_iload_n (pc := 344) dL_law_344 rfl rfl ?_
        refine zx_iconst (pc := 345) (v := 1) dL_law_345 (by decide) ?_
        refine zx_iadd (pc := 346) dL_law_346 ?_
        refine zx_sld (pc := 347) rfl (zs1 hi hN) dL_law_347 ?_
        refine zx_aload_n (pc := 348) dL_law_348 rfl rfl ?_
        refine zx_iload_n (pc := 349) dL_law_349 rfl rfl ?_
        refine zx_iconst (pc := 350) (v := 2) dL_law_350 (by decide) ?_
        refine zx_iadd (pc := 351) dL_law_351 ?_
        refine zx_sld (pc := 352) rfl (zs2 hi hN) dL_law_352 ?_
        rw [eh]
        refine zx_fV1 (pc := 353) (m_send_late (d := d + 3) zLen hh jH (by rw [← zTask_in jF]; exact g2) (by rw [js.1 h (by omega)]; exact g3)) cl_L_51 (p75 zLen) rfl dL_law_353 rfl rfl (by omega) (Nat.le_of_ble_eq_true rfl) (by assumption) (by assumption) ?_
        refine zx_icmp_eq (pc := 356) (tgt := 934) dL_law_356 (by decide) (fun h356 => ?_) (fun h356 => absurd rfl h356)
        exact ih _ ⟨tb, T, gs, gk, gf, ga, H, F, gc, nt, ns, n2, n3, n4, n5, n6, n7, n8, tt, ts, t2, t3, t4, t5, t6, t7, t8, ws, w1, w2, w3, pt, b1, b2, b3, b4, b5, ab, n, z, sk, su, sr, so, sh, S, sd, 0, mp, rc, rh, rg, rf, rd, pg, mq, bb, kk, wm, wo, q1, q2, q3, q4, wh, wu, i1, i2, f1, f2, vl, rfl, ⟨⟨jT, jH, jF, jn, jz, jS⟩, jg, js, jb, jk, jr, jo⟩⟩
      · obtain ⟨t, ht, et⟩ : ∃ t : Nat, t < 2 + F ∧ (xs (i + 2)) = nI t := by
          rw [zTask_in jF, show (1 : Int32) + nI F = nI (1 + F) from nI_add 1 F] at g2
          obtain ⟨t, t1, t2, t3⟩ := zIn_x (a := 0) (by decide) (by omega) g2
          exact ⟨t, by omega, t3⟩
        have jt : zSr H F (upd pg h (xs (i + 2))) (upd nt h (xs (i + 2)), ns, n2, n3, n4, n5, n6, n7, n8) := by
          rw [et]; exact zSr_t jH hh ht js
        refine zx_aload_n (pc := 328) dL_law_328 rfl rfl ?_
        refine zx_aload_n (pc := 329) dL_law_329 rfl rfl ?_
        refine zx_iload_n (pc := 330) dL_law_330 rfl rfl ?_
        refine zx_iconst (pc := 331) (v := 1) dL_law_331 (by decide) ?_
        refine zx_iadd (pc := 332) dL_law_332 ?_
        refine zx_sld (pc := 333) rfl (zs1 hi hN) dL_law_333 ?_
        refine zx_aload_n (pc := 334) dL_law_334 rfl rfl ?_
        refine zx_iload_n (pc := 335) dL_law_335 rfl rfl ?_
        refine zx_iconst (pc := 336) (v := 2) dL_law_336 (by decide) ?_
        refine zx_iadd (pc := 337) dL_law_337 ?_
        refine zx_sld (pc := 338) rfl (zs2 hi hN) dL_law_338 ?_
        rw [eh]
        refine zx_fV1 (pc := 339) (q_send_ok (d := d + 2) hh jH g2 g3 jn jz) cl_L_48 p0 rfl dL_law_339 rfl rfl (by omega) (Nat.le_of_ble_eq_true rfl) (by assumption) (by assumption) ?_
        refine zx_aload_n (pc := 342) dL_law_342 rfl rfl ?_
        refine zx_aload_n (pc := 343) dL_law_343 rfl rfl ?_
        refine zx_iload_n (pc := 344) dL_law_344 rfl rfl ?_
        refine zx_iconst (pc := 345) (v := 1) dL_law_345 (by decide) ?_
        refine zx_iadd (pc := 346) dL_law_346 ?_
        refine zx_sld (pc := 347) rfl (zs1 hi hN) dL_law_347 ?_
        refine zx_aload_n (pc := 348) dL_law_348 rfl rfl ?_
        refine zx_iload_n (pc := 349) dL_law_349 rfl rfl ?_
        refine zx_iconst (pc := 350) (v := 2) dL_law_350 (by decide) ?_
        refine zx_iadd (pc := 351) dL_law_351 ?_
        refine zx_sld (pc := 352) rfl (zs2 hi hN) dL_law_352 ?_
        rw [eh]
        refine zx_fV1 (pc := 353) (m_send_ok (d := d + 3) zLen hh jH jz (by rw [← zTask_in jF]; exact g2) (by rw [js.1 h (by omega)]; exact g3)) cl_L_51 (p75 zLen) rfl dL_law_353 rfl rfl (by omega) (Nat.le_of_ble_eq_true rfl) (by assumption) (by assumption) ?_
        refine zx_icmp_eq (pc := 356) (tgt := 934) dL_law_356 (by decide) (fun h356 => ?_) (fun h356 => absurd (js.1 h (by omega)).symm h356)
        exact ih _ ⟨tb, T, gs, gk, gf, ga, H, F, gc, (upd nt h (xs (i + 2))), ns, n2, n3, n4, n5, n6, n7, n8, tt, ts, t2, t3, t4, t5, t6, t7, t8, ws, w1, w2, w3, pt, b1, b2, b3, b4, b5, (va_up ab n (zcpS (nt, ns, n2, n3, n4, n5, n6, n7, n8) (ab n))), ((n + 1) % 14), (min (z + 1) 14), sk, su, sr, so, sh, S, sd, 0, mp, rc, rh, rg, rf, rd, (upd pg h (xs (i + 2))), mq, (zNb bb z pg), kk, wm, wo, q1, q2, q3, q4, wh, wu, i1, i2, f1, f2, vl, rfl, ⟨⟨jT, jH, jF, Nat.mod_lt _ (by decide), Nat.min_le_right _ _, jS⟩, jg, jt, zBr_n jH jF jn jz jb js, jk, jr, jo⟩⟩
set_option maxHeartbeats 8000000 in
theorem lw_turn {nm : String} {d N i mc ms kc ks : Nat} {xs : Nat → Int32} {tb : Nat → Int32} {T : Nat} {gs : Nat → Int32} {gk : Nat → Int32} {gf : Nat → Int32} {ga : Nat → Int32} {H : Nat} {F : Nat} {gc : Int32} {nt : Nat → Int32} {ns : Nat → Int32} {n2 : Int32} {n3 : Int32} {n4 : Int32} {n5 : Int32} {n6 : Int32} {n7 : Int32} {n8 : Int32} {tt : Nat → Int32} {ts : Nat → Int32} {t2 : Int32} {t3 : Int32} {t4 : Int32} {t5 : Int32} {t6 : Int32} {t7 : Int32} {t8 : Int32} {ws : Nat → Int32} {w1 : Int32} {w2 : Int32} {w3 : Int32} {pt : Nat → Int32} {b1 : Int32} {b2 : Int32} {b3 : Int32} {b4 : Int32} {b5 : Int32} {ab : Nat → zStt} {n : Nat} {z : Nat} {sk : Nat → zStt} {su : Nat → Int32} {sr : Nat → Int32} {so : Nat → Int32} {sh : Nat → Int32} {S : Nat} {sd : Int64} {th : Int32} {mp : Int32} {rc : Int32} {rh : Int32} {rg : Nat → Int32} {rf : Int32} {rd : Nat → Int32} {pg : Nat → Int32} {mq : Nat → Int32} {bb : Nat → Int32} {kk : Nat → Int32} {wm : Int32} {wo : Int32} {q1 : Int32} {q2 : Int32} {q3 : Int32} {q4 : Int32} {wh : Int32} {wu : Int32} {i1 : Int32} {i2 : Int32} {f1 : Int32} {f2 : Int32} {vl : Nat → Int32} (hN : N ≤ 320) (hi : i + 5 ≤ N) (hc : kc ≤ mc) (hs : ks ≤ ms) (ih : ∀ sg', zI sg' → zX RL cL_law 4 (some .boolean) nm (some (N, xs)) (d + 6) 0 mc ms kc ks (fun r _ => r = some (.int 1)) 934 [some (.ref 1001), some (.ref 0), some (.ref 75), some (.int (nI i))] [] sg') (hJ : zJ T gs gk gf H F (nt, ns, n2, n3, n4, n5, n6, n7, n8) ab n z sk su sr so S pg bb kk) : zX RL cL_law 4 (some .boolean) nm (some (N, xs)) (d + 6) 0 mc ms kc ks (fun r _ => r = some (.int 1)) 361 [some (.ref 1001), some (.ref 0), some (.ref 75), some (.int (nI i))] [] (encC (tb, (nI T)) (gs, gk, gf, ga, (nI H), (nI F), gc) (nt, ns, n2, n3, n4, n5, n6, n7, n8) (tt, ts, t2, t3, t4, t5, t6, t7, t8) (ws, w1, w2, w3) (pt, b1, b2, b3, b4, b5) (ab, (nI n), (nI z)) (sk, su) (sr, so, sh, (nI S)) sd ++ encM th (tb, (nI T), mp) (gc, (nI H), gs, gk, (nI F), gf) (rc, rh, rg, rf, rd) pg mq (bb, (nI z)) (kk, su) ((nI S), sr, so, sh) sd (wm, wo) (q1, q2, q3, q4) (wh, wu) (i1, i2) (f1, f2) vl) := by
  obtain ⟨⟨jT, jH, jF, jn, jz, jS⟩, jg, js, jb, jk, jr, jo⟩ := hJ
  by_cases g : zIn (xs (i + 1)) 1 9 = 0
  · refine zx_aload_n (pc := 361) dL_law_361 rfl rfl ?_
    refine zx_aload_n (pc := 362) dL_law_362 rfl rfl ?_
    refine zx_iload_n (pc := 363) dL_law_363 rfl rfl ?_
    refine zx_iconst (pc := 364) (v := 1) dL_law_364 (by decide) ?_
    refine zx_iadd (pc := 365) dL_law_365 ?_
    refine zx_sld (pc := 366) rfl (zs1 hi hN) dL_law_366 ?_
    refine zx_fV1 (pc := 367) (q_turn_bad (d := d + 2) (zIn_bad g)) cl_L_52 p0 rfl dL_law_367 rfl rfl (by omega) (Nat.le_of_ble_eq_true rfl) (by assumption) (by assumption) ?_
    refine zx_aload_n (pc := 370) dL_law_370 rfl rfl ?_
    refine zx_aload_n (pc := 371) dL_law_371 rfl rfl ?_
    refine zx_iload_n (pc := 372) dL_law_372 rfl rfl ?_
    refine zx_iconst (pc := 373) (v := 1) dL_law_373 (by decide) ?_
    refine zx_iadd (pc := 374) dL_law_374 ?_
    refine zx_sld (pc := 375) rfl (zs1 hi hN) dL_law_375 ?_
    refine zx_fV1 (pc := 376) (m_turn_bad (d := d + 4) zLen g) cl_L_55 (p75 zLen) rfl dL_law_376 rfl rfl (by omega) (Nat.le_of_ble_eq_true rfl) (by assumption) (by assumption) ?_
    refine zx_icmp_eq (pc := 379) (tgt := 934) dL_law_379 (by decide) (fun h379 => ?_) (fun h379 => absurd rfl h379)
    exact ih _ ⟨tb, T, gs, gk, gf, ga, H, F, gc, nt, ns, n2, n3, n4, n5, n6, n7, n8, tt, ts, t2, t3, t4, t5, t6, t7, t8, ws, w1, w2, w3, pt, b1, b2, b3, b4, b5, ab, n, z, sk, su, sr, so, sh, S, sd, 0, mp, rc, rh, rg, rf, rd, pg, mq, bb, kk, wm, wo, q1, q2, q3, q4, wh, wu, i1, i2, f1, f2, vl, rfl, ⟨⟨jT, jH, jF, jn, jz, jS⟩, jg, js, jb, jk, jr, jo⟩⟩
  · have js' := js
    obtain ⟨e1, e2, e3, e4, ⟨e8, e9, e10, e11⟩, e5, e6⟩ := js'
    simp only at e8 e9 e10 e11
    by_cases g2 : n5 + (xs (i + 1)) ≤ n3 + n4
    · have jt : zSr H F (upd pg 11 (pg 11 + (xs (i + 1)))) (nt, ns, n2, n3, n4, n5 + (xs (i + 1)), n6, n7, n8) := by
        obtain ⟨x, u, u1, u2, u3⟩ := e4
        refine ⟨fun j hj => by rw [pk_un (by omega)]; exact e1 j hj, fun j hj => by rw [pk_un (by omega)]; exact e2 j hj, fun f hf => by rw [pk_un (by omega)]; exact e3 f hf, ⟨x, u, fun f hf => by rw [pk_un (by omega)]; exact u1 f hf, u2, u3⟩, ⟨e8, e9, e10, ?_⟩, e5, e6⟩
        show upd pg 11 _ 11 = _
        rw [pk_us, e11]
      refine zx_aload_n (pc := 361) dL_law_361 rfl rfl ?_
      refine zx_aload_n (pc := 362) dL_law_362 rfl rfl ?_
      refine zx_iload_n (pc := 363) dL_law_363 rfl rfl ?_
      refine zx_iconst (pc := 364) (v := 1) dL_law_364 (by decide) ?_
      refine zx_iadd (pc := 365) dL_law_365 ?_
      refine zx_sld (pc := 366) rfl (zs1 hi hN) dL_law_366 ?_
      refine zx_fV1 (pc := 367) (q_turn_ok (d := d + 2) (zIn_ok g).1 (zIn_ok g).2 g2 jn jz) cl_L_52 p0 rfl dL_law_367 rfl rfl (by omega) (Nat.le_of_ble_eq_true rfl) (by assumption) (by assumption) ?_
      refine zx_aload_n (pc := 370) dL_law_370 rfl rfl ?_
      refine zx_aload_n (pc := 371) dL_law_371 rfl rfl ?_
      refine zx_iload_n (pc := 372) dL_law_372 rfl rfl ?_
      refine zx_iconst (pc := 373) (v := 1) dL_law_373 (by decide) ?_
      refine zx_iadd (pc := 374) dL_law_374 ?_
      refine zx_sld (pc := 375) rfl (zs1 hi hN) dL_law_375 ?_
      refine zx_fV1 (pc := 376) (m_turn_ok (d := d + 4) zLen jz g (by rw [e9, e10, e11]; exact g2)) cl_L_55 (p75 zLen) rfl dL_law_376 rfl rfl (by omega) (Nat.le_of_ble_eq_true rfl) (by assumption) (by assumption) ?_
      refine zx_icmp_eq (pc := 379) (tgt := 934) dL_law_379 (by decide) (fun h379 => ?_) (fun h379 => absurd (by rw [e11]) h379)
      exact ih _ ⟨tb, T, gs, gk, gf, ga, H, F, gc, nt, ns, n2, n3, n4, (n5 + (xs (i + 1))), n6, n7, n8, tt, ts, t2, t3, t4, t5, t6, t7, t8, ws, w1, w2, w3, pt, b1, b2, b3, b4, b5, (va_up ab n (zcpS (nt, ns, n2, n3, n4, n5, n6, n7, n8) (ab n))), ((n + 1) % 14), (min (z + 1) 14), sk, su, sr, so, sh, S, sd, 0, mp, rc, rh, rg, rf, rd, (upd pg 11 (pg 11 + (xs (i + 1)))), mq, (zNb bb z pg), kk, wm, wo, q1, q2, q3, q4, wh, wu, i1, i2, f1, f2, vl, rfl, ⟨⟨jT, jH, jF, Nat.mod_lt _ (by decide), Nat.min_le_right _ _, jS⟩, jg, jt, zBr_n jH jF jn jz jb js, jk, jr, jo⟩⟩
    · refine zx_aload_n (pc := 361) dL_law_361 rfl rfl ?_
      refine zx_aload_n (pc := 362) dL_law_362 rfl rfl ?_
      refine zx_iload_n (pc := 363) dL_law_363 rfl rfl ?_
      refine zx_iconst (pc := 364) (v := 1) dL_law_364 (by decide) ?_
      refine zx_iadd (pc := 365) dL_law_365 ?_
      refine zx_sld (pc := 366) rfl (zs1 hi hN) dL_law_366 ?_
      refine zx_fV1 (pc := 367) (q_turn_late (d := d + 2) (zIn_ok g).1 (zIn_ok g).2 g2) cl_L_52 p0 rfl dL_law_367 rfl rfl (by omega) (Nat.le_of_ble_eq_true rfl) (by assumption) (by assumption) ?_
      refine zx_aload_n (pc := 370) dL_law_370 rfl rfl ?_
      refine zx_aload_n (pc := 371) dL_law_371 rfl rfl ?_
      refine zx_iload_n (pc := 372) dL_law_372 rfl rfl ?_
      refine zx_iconst (pc := 373) (v := 1) dL_law_373 (by decide) ?_
      refine zx_iadd (pc := 374) dL_law_374 ?_
      refine zx_sld (pc := 375) rfl (zs1 hi hN) dL_law_375 ?_
      refine zx_fV1 (pc := 376) (m_turn_late (d := d + 4) zLen g (by rw [e9, e10, e11]; exact g2)) cl_L_55 (p75 zLen) rfl dL_law_376 rfl rfl (by omega) (Nat.le_of_ble_eq_true rfl) (by assumption) (by assumption) ?_
      refine zx_icmp_eq (pc := 379) (tgt := 934) dL_law_379 (by decide) (fun h379 => ?_) (fun h379 => absurd rfl h379)
      exact ih _ ⟨tb, T, gs, gk, gf, ga, H, F, gc, nt, ns, n2, n3, n4, n5, n6, n7, n8, tt, ts, t2, t3, t4, t5, t6, t7, t8, ws, w1, w2, w3, pt, b1, b2, b3, b4, b5, ab, n, z, sk, su, sr, so, sh, S, sd, 0, mp, rc, rh, rg, rf, rd, pg, mq, bb, kk, wm, wo, q1, q2, q3, q4, wh, wu, i1, i2, f1, f2, vl, rfl, ⟨⟨jT, jH, jF, jn, jz, jS⟩, jg, js, jb, jk, jr, jo⟩⟩
