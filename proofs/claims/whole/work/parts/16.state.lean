set_option maxHeartbeats 8000000 in
theorem k_copy {d p q pa pb qa qb : Nat} {s t : zStt} {sg : List zCel} (hp : sg[p]? = some (.inr (.inr (5, [.ref pa, .ref pb, .int s.2.2.1, .int s.2.2.2.1, .int s.2.2.2.2.1, .int s.2.2.2.2.2.1, .int s.2.2.2.2.2.2.1, .int s.2.2.2.2.2.2.2.1, .int s.2.2.2.2.2.2.2.2])))) (hpa : sg[pa]? = some (.inl (0, 5, s.1))) (hpb : sg[pb]? = some (.inl (0, 3, s.2.1))) (hq : sg[q]? = some (.inr (.inr (5, [.ref qa, .ref qb, .int t.2.2.1, .int t.2.2.2.1, .int t.2.2.2.2.1, .int t.2.2.2.2.2.1, .int t.2.2.2.2.2.2.1, .int t.2.2.2.2.2.2.2.1, .int t.2.2.2.2.2.2.2.2])))) (hqa : sg[qa]? = some (.inl (0, 5, t.1))) (hqb : sg[qb]? = some (.inl (0, 3, t.2.1))) (n1 : qa ≠ p ∧ qb ≠ p ∧ q ≠ p ∧ qa ≠ q ∧ qb ≠ q ∧ qa ≠ qb ∧ qa ≠ pb) :
    zCf yX5_copy cX5_copy 2 none (d + 1) [.ref p, .ref q] sg none (((sg.set qa (.inl (0, 5, va_cpy s.1 t.1 0 0 5))).set qb (.inl (0, 3, va_cpy s.2.1 t.2.1 0 0 3))).set q (.inr (.inr (5, [.ref qa, .ref qb, .int s.2.2.1, .int s.2.2.2.1, .int s.2.2.2.2.1, .int s.2.2.2.2.2.1, .int s.2.2.2.2.2.2.1, .int s.2.2.2.2.2.2.2.1, .int s.2.2.2.2.2.2.2.2])))) := by
  obtain ⟨m1, m2, m3, m4, m5, m6, m7⟩ := n1
  refine zC.intro (by decide) (Nat.le_of_ble_eq_true rfl) rfl ?_
  refine zx_aload_n (pc := 0) dX5_copy_0 rfl rfl ?_
  refine zx_ifnull (pc := 1) dX5_copy_1 ?_
  refine zx_aload_n (pc := 4) dX5_copy_4 rfl rfl ?_
  refine zx_ifnonnull (pc := 5) (tgt := 9) dX5_copy_5 (by decide) ?_
  refine zx_aload_n (pc := 9) dX5_copy_9 rfl rfl ?_
  refine zx_get (pc := 10) (k := 0) (T := TX5) hp rfl (by decide) rfl fl_X5_9 dX5_copy_10 ?_
  refine zx_iconst (pc := 13) (v := 0) dX5_copy_13 (by decide) ?_
  refine zx_aload_n (pc := 14) dX5_copy_14 rfl rfl ?_
  refine zx_get (pc := 15) (k := 0) (T := TX5) hq rfl (by decide) rfl fl_X5_9 dX5_copy_15 ?_
  refine zx_iconst (pc := 18) (v := 0) dX5_copy_18 (by decide) ?_
  refine zx_iconst (pc := 19) (v := 5) dX5_copy_19 (by decide) ?_
  refine zx_copy (pc := 20) (sp' := 0) (dp' := 0) (n' := 5) hpa hqa (by decide) (by decide) (by decide) (Nat.le_of_ble_eq_true rfl) (by omega) ml_X5_35 dX5_copy_20 ?_
  have hp1 : (sg.set qa (.inl (0, 5, va_cpy s.1 t.1 0 0 5)))[p]? = some (.inr (.inr (5, [.ref pa, .ref pb, .int s.2.2.1, .int s.2.2.2.1, .int s.2.2.2.2.1, .int s.2.2.2.2.2.1, .int s.2.2.2.2.2.2.1, .int s.2.2.2.2.2.2.2.1, .int s.2.2.2.2.2.2.2.2]))) := by rw [List.getElem?_set_ne m1]; exact hp
  have hq1 : (sg.set qa (.inl (0, 5, va_cpy s.1 t.1 0 0 5)))[q]? = some (.inr (.inr (5, [.ref qa, .ref qb, .int t.2.2.1, .int t.2.2.2.1, .int t.2.2.2.2.1, .int t.2.2.2.2.2.1, .int t.2.2.2.2.2.2.1, .int t.2.2.2.2.2.2.2.1, .int t.2.2.2.2.2.2.2.2]))) := by rw [List.getElem?_set_ne m4]; exact hq
  have hb1 : (sg.set qa (.inl (0, 5, va_cpy s.1 t.1 0 0 5)))[pb]? = some (.inl (0, 3, s.2.1)) := by rw [List.getElem?_set_ne m7]; exact hpb
  have hb2 : (sg.set qa (.inl (0, 5, va_cpy s.1 t.1 0 0 5)))[qb]? = some (.inl (0, 3, t.2.1)) := by rw [List.getElem?_set_ne m6]; exact hqb
  refine zx_aload_n (pc := 23) dX5_copy_23 rfl rfl ?_
  refine zx_get (pc := 24) (k := 1) (T := TX5) hp1 rfl (by decide) rfl fl_X5_15 dX5_copy_24 ?_
  refine zx_iconst (pc := 27) (v := 0) dX5_copy_27 (by decide) ?_
  refine zx_aload_n (pc := 28) dX5_copy_28 rfl rfl ?_
  refine zx_get (pc := 29) (k := 1) (T := TX5) hq1 rfl (by decide) rfl fl_X5_15 dX5_copy_29 ?_
  refine zx_iconst (pc := 32) (v := 0) dX5_copy_32 (by decide) ?_
  refine zx_iconst (pc := 33) (v := 3) dX5_copy_33 (by decide) ?_
  refine zx_copy (pc := 34) (sp' := 0) (dp' := 0) (n' := 3) hb1 hb2 (by decide) (by decide) (by decide) (Nat.le_of_ble_eq_true rfl) (by omega) ml_X5_35 dX5_copy_34 ?_
  generalize hs2 : (sg.set qa (.inl (0, 5, va_cpy s.1 t.1 0 0 5))).set qb (.inl (0, 3, va_cpy s.2.1 t.2.1 0 0 3)) = s2
  have hp2 : s2[p]? = some (.inr (.inr (5, [.ref pa, .ref pb, .int s.2.2.1, .int s.2.2.2.1, .int s.2.2.2.2.1, .int s.2.2.2.2.2.1, .int s.2.2.2.2.2.2.1, .int s.2.2.2.2.2.2.2.1, .int s.2.2.2.2.2.2.2.2]))) := by rw [← hs2, List.getElem?_set_ne m2]; exact hp1
  have hq2 : s2[q]? = some (.inr (.inr (5, [.ref qa, .ref qb, .int t.2.2.1, .int t.2.2.2.1, .int t.2.2.2.2.1, .int t.2.2.2.2.2.1, .int t.2.2.2.2.2.2.1, .int t.2.2.2.2.2.2.2.1, .int t.2.2.2.2.2.2.2.2]))) := by rw [← hs2, List.getElem?_set_ne m5]; exact hq1
  have hlen : q < s2.length := (List.getElem?_eq_some_iff.mp hq2).1
  refine zx_aload_n (pc := 37) dX5_copy_37 rfl rfl ?_
  refine zx_aload_n (pc := 38) dX5_copy_38 rfl rfl ?_
  refine zx_get (pc := 39) (k := 2) (T := TX5) hp2 rfl (by decide) rfl fl_X5_41 dX5_copy_39 ?_
  refine zx_put (pc := 42) (k := 2) (T := TX5) (ty := .int) hq2 rfl (by decide) rfl (by decide +kernel) (fun _ => rfl) (fun _ => rfl) (Nat.le_of_ble_eq_true rfl) fl_X5_41 dX5_copy_42 ?_
  refine zx_sg (sg' := s2.set q (.inr (.inr (5, [.ref qa, .ref qb, .int s.2.2.1, .int t.2.2.2.1, .int t.2.2.2.2.1, .int t.2.2.2.2.2.1, .int t.2.2.2.2.2.2.1, .int t.2.2.2.2.2.2.2.1, .int t.2.2.2.2.2.2.2.2])))) rfl ?_
  have hp3 : (s2.set q (.inr (.inr (5, [.ref qa, .ref qb, .int s.2.2.1, .int t.2.2.2.1, .int t.2.2.2.2.1, .int t.2.2.2.2.2.1, .int t.2.2.2.2.2.2.1, .int t.2.2.2.2.2.2.2.1, .int t.2.2.2.2.2.2.2.2]))))[p]? = some (.inr (.inr (5, [.ref pa, .ref pb, .int s.2.2.1, .int s.2.2.2.1, .int s.2.2.2.2.1, .int s.2.2.2.2.2.1, .int s.2.2.2.2.2.2.1, .int s.2.2.2.2.2.2.2.1, .int s.2.2.2.2.2.2.2.2]))) := by rw [List.getElem?_set_ne m3]; exact hp2
  have hq3 : (s2.set q (.inr (.inr (5, [.ref qa, .ref qb, .int s.2.2.1, .int t.2.2.2.1, .int t.2.2.2.2.1, .int t.2.2.2.2.2.1, .int t.2.2.2.2.2.2.1, .int t.2.2.2.2.2.2.2.1, .int t.2.2.2.2.2.2.2.2]))))[q]? = some (.inr (.inr (5, [.ref qa, .ref qb, .int s.2.2.1, .int t.2.2.2.1, .int t.2.2.2.2.1, .int t.2.2.2.2.2.1, .int t.2.2.2.2.2.2.1, .int t.2.2.2.2.2.2.2.1, .int t.2.2.2.2.2.2.2.2]))) := List.getElem?_set_self hlen
  refine zx_aload_n (pc := 45) dX5_copy_45 rfl rfl ?_
  refine zx_aload_n (pc := 46) dX5_copy_46 rfl rfl ?_
  refine zx_get (pc := 47) (k := 3) (T := TX5) hp3 rfl (by decide) rfl fl_X5_44 dX5_copy_47 ?_
  refine zx_put (pc := 50) (k := 3) (T := TX5) (ty := .int) hq3 rfl (by decide) rfl (by decide +kernel) (fun _ => rfl) (fun _ => rfl) (Nat.le_of_ble_eq_true rfl) fl_X5_44 dX5_copy_50 ?_
  refine zx_sg (sg' := s2.set q (.inr (.inr (5, [.ref qa, .ref qb, .int s.2.2.1, .int s.2.2.2.1, .int t.2.2.2.2.1, .int t.2.2.2.2.2.1, .int t.2.2.2.2.2.2.1, .int t.2.2.2.2.2.2.2.1, .int t.2.2.2.2.2.2.2.2])))) (List.set_set _) ?_
  have hp4 : (s2.set q (.inr (.inr (5, [.ref qa, .ref qb, .int s.2.2.1, .int s.2.2.2.1, .int t.2.2.2.2.1, .int t.2.2.2.2.2.1, .int t.2.2.2.2.2.2.1, .int t.2.2.2.2.2.2.2.1, .int t.2.2.2.2.2.2.2.2]))))[p]? = some (.inr (.inr (5, [.ref pa, .ref pb, .int s.2.2.1, .int s.2.2.2.1, .int s.2.2.2.2.1, .int s.2.2.2.2.2.1, .int s.2.2.2.2.2.2.1, .int s.2.2.2.2.2.2.2.1, .int s.2.2.2.2.2.2.2.2]))) := by rw [List.getElem?_set_ne m3]; exact hp2
  have hq4 : (s2.set q (.inr (.inr (5, [.ref qa, .ref qb, .int s.2.2.1, .int s.2.2.2.1, .int t.2.2.2.2.1, .int t.2.2.2.2.2.1, .int t.2.2.2.2.2.2.1, .int t.2.2.2.2.2.2.2.1, .int t.2.2.2.2.2.2.2.2]))))[q]? = some (.inr (.inr (5, [.ref qa, .ref qb, .int s.2.2.1, .int s.2.2.2.1, .int t.2.2.2.2.1, .int t.2.2.2.2.2.1, .int t.2.2.2.2.2.2.1, .int t.2.2.2.2.2.2.2.1, .int t.2.2.2.2.2.2.2.2]))) := List.getElem?_set_self hlen
  refine zx_aload_n (pc := 53) dX5_copy_53 rfl rfl ?_
  refine zx_aload_n (pc := 54) dX5_copy_54 rfl rfl ?_
  refine zx_get (pc := 55) (k := 4) (T := TX5) hp4 rfl (by decide) rfl fl_X5_47 dX5_copy_55 ?_
  refine zx_put (pc := 58) (k := 4) (T := TX5) (ty := .int) hq4 rfl (by decide) rfl (by decide +kernel) (fun _ => rfl) (fun _ => rfl) (Nat.le_of_ble_eq_true rfl) fl_X5_47 dX5_copy_58 ?_
  refine zx_sg (sg' := s2.set q (.inr (.inr (5, [.ref qa, .ref qb, .int s.2.2.1, .int s.2.2.2.1, .int s.2.2.2.2.1, .int t.2.2.2.2.2.1, .int t.2.2.2.2.2.2.1, .int t.2.2.2.2.2.2.2.1, .int t.2.2.2.2.2.2.2.2])))) (List.set_set _) ?_
  have hp5 : (s2.set q (.inr (.inr (5, [.ref qa, .ref qb, .int s.2.2.1, .int s.2.2.2.1, .int s.2.2.2.2.1, .int t.2.2.2.2.2.1, .int t.2.2.2.2.2.2.1, .int t.2.2.2.2.2.2.2.1, .int t.2.2.2.2.2.2.2.2]))))[p]? = some (.inr (.inr (5, [.ref pa, .ref pb, .int s.2.2.1, .int s.2.2.2.1, .int s.2.2.2.2.1, .int s.2.2.2.2.2.1, .int s.2.2.2.2.2.2.1, .int s.2.2.2.2.2.2.2.1, .int s.2.2.2.2.2.2.2.2]))) := by rw [List.getElem?_set_ne m3]; exact hp2
  have hq5 : (s2.set q (.inr (.inr (5, [.ref qa, .ref qb, .int s.2.2.1, .int s.2.2.2.1, .int s.2.2.2.2.1, .int t.2.2.2.2.2.1, .int t.2.2.2.2.2.2.1, .int t.2.2.2.2.2.2.2.1, .int t.2.2.2.2.2.2.2.2]))))[q]? = some (.inr (.inr (5, [.ref qa, .ref qb, .int s.2.2.1, .int s.2.2.2.1, .int s.2.2.2.2.1, .int t.2.2.2.2.2.1, .int t.2.2.2.2.2.2.1, .int t.2.2.2.2.2.2.2.1, .int t.2.2.2.2.2.2.2.2]))) := List.getElem?_set_self hlen
  refine zx_aload_n (pc := 61) dX5_copy_61 rfl rfl ?_
  refine zx_aload_n (pc := 62) dX5_copy_62 rfl rfl ?_
  refine zx_get (pc := 63) (k := 5) (T := TX5) hp5 rfl (by decide) rfl fl_X5_50 dX5_copy_63 ?_
  refine zx_put (pc := 66) (k := 5) (T := TX5) (ty := .int) hq5 rfl (by decide) rfl (by decide +kernel) (fun _ => rfl) (fun _ => rfl) (Nat.le_of_ble_eq_true rfl) fl_X5_50 dX5_copy_66 ?_
  refine zx_sg (sg' := s2.set q (.inr (.inr (5, [.ref qa, .ref qb, .int s.2.2.1, .int s.2.2.2.1, .int s.2.2.2.2.1, .int s.2.2.2.2.2.1, .int t.2.2.2.2.2.2.1, .int t.2.2.2.2.2.2.2.1, .int t.2.2.2.2.2.2.2.2])))) (List.set_set _) ?_
  have hp6 : (s2.set q (.inr (.inr (5, [.ref qa, .ref qb, .int s.2.2.1, .int s.2.2.2.1, .int s.2.2.2.2.1, .int s.2.2.2.2.2.1, .int t.2.2.2.2.2.2.1, .int t.2.2.2.2.2.2.2.1, .int t.2.2.2.2.2.2.2.2]))))[p]? = some (.inr (.inr (5, [.ref pa, .ref pb, .int s.2.2.1, .int s.2.2.2.1, .int s.2.2.2.2.1, .int s.2.2.2.2.2.1, .int s.2.2.2.2.2.2.1, .int s.2.2.2.2.2.2.2.1, .int s.2.2.2.2.2.2.2.2]))) := by rw [List.getElem?_set_ne m3]; exact hp2
  have hq6 : (s2.set q (.inr (.inr (5, [.ref qa, .ref qb, .int s.2.2.1, .int s.2.2.2.1, .int s.2.2.2.2.1, .int s.2.2.2.2.2.1, .int t.2.2.2.2.2.2.1, .int t.2.2.2.2.2.2.2.1, .int t.2.2.2.2.2.2.2.2]))))[q]? = some (.inr (.inr (5, [.ref qa, .ref qb, .int s.2.2.1, .int s.2.2.2.1, .int s.2.2.2.2.1, .int s.2.2.2.2.2.1, .int t.2.2.2.2.2.2.1, .int t.2.2.2.2.2.2.2.1, .int t.2.2.2.2.2.2.2.2]))) := List.getElem?_set_self hlen
  refine zx_aload_n (pc := 69) dX5_copy_69 rfl rfl ?_
  refine zx_aload_n (pc := 70) dX5_copy_70 rfl rfl ?_
  refine zx_get (pc := 71) (k := 6) (T := TX5) hp6 rfl (by decide) rfl fl_X5_20 dX5_copy_71 ?_
  refine zx_put (pc := 74) (k := 6) (T := TX5) (ty := .int) hq6 rfl (by decide) rfl (by decide +kernel) (fun _ => rfl) (fun _ => rfl) (Nat.le_of_ble_eq_true rfl) fl_X5_20 dX5_copy_74 ?_
  refine zx_sg (sg' := s2.set q (.inr (.inr (5, [.ref qa, .ref qb, .int s.2.2.1, .int s.2.2.2.1, .int s.2.2.2.2.1, .int s.2.2.2.2.2.1, .int s.2.2.2.2.2.2.1, .int t.2.2.2.2.2.2.2.1, .int t.2.2.2.2.2.2.2.2])))) (List.set_set _) ?_
  have hp7 : (s2.set q (.inr (.inr (5, [.ref qa, .ref qb, .int s.2.2.1, .int s.2.2.2.1, .int s.2.2.2.2.1, .int s.2.2.2.2.2.1, .int s.2.2.2.2.2.2.1, .int t.2.2.2.2.2.2.2.1, .int t.2.2.2.2.2.2.2.2]))))[p]? = some (.inr (.inr (5, [.ref pa, .ref pb, .int s.2.2.1, .int s.2.2.2.1, .int s.2.2.2.2.1, .int s.2.2.2.2.2.1, .int s.2.2.2.2.2.2.1, .int s.2.2.2.2.2.2.2.1, .int s.2.2.2.2.2.2.2.2]))) := by rw [List.getElem?_set_ne m3]; exact hp2
  have hq7 : (s2.set q (.inr (.inr (5, [.ref qa, .ref qb, .int s.2.2.1, .int s.2.2.2.1, .int s.2.2.2.2.1, .int s.2.2.2.2.2.1, .int s.2.2.2.2.2.2.1, .int t.2.2.2.2.2.2.2.1, .int t.2.2.2.2.2.2.2.2]))))[q]? = some (.inr (.inr (5, [.ref qa, .ref qb, .int s.2.2.1, .int s.2.2.2.1, .int s.2.2.2.2.1, .int s.2.2.2.2.2.1, .int s.2.2.2.2.2.2.1, .int t.2.2.2.2.2.2.2.1, .int t.2.2.2.2.2.2.2.2]))) := List.getElem?_set_self hlen
  refine zx_aload_n (pc := 77) dX5_copy_77 rfl rfl ?_
  refine zx_aload_n (pc := 78) dX5_copy_78 rfl rfl ?_
  refine zx_get (pc := 79) (k := 7) (T := TX5) hp7 rfl (by decide) rfl fl_X5_53 dX5_copy_79 ?_
  refine zx_put (pc := 82) (k := 7) (T := TX5) (ty := .int) hq7 rfl (by decide) rfl (by decide +kernel) (fun _ => rfl) (fun _ => rfl) (Nat.le_of_ble_eq_true rfl) fl_X5_53 dX5_copy_82 ?_
  refine zx_sg (sg' := s2.set q (.inr (.inr (5, [.ref qa, .ref qb, .int s.2.2.1, .int s.2.2.2.1, .int s.2.2.2.2.1, .int s.2.2.2.2.2.1, .int s.2.2.2.2.2.2.1, .int s.2.2.2.2.2.2.2.1, .int t.2.2.2.2.2.2.2.2])))) (List.set_set _) ?_
  have hp8 : (s2.set q (.inr (.inr (5, [.ref qa, .ref qb, .int s.2.2.1, .int s.2.2.2.1, .int s.2.2.2.2.1, .int s.2.2.2.2.2.1, .int s.2.2.2.2.2.2.1, .int s.2.2.2.2.2.2.2.1, .int t.2.2.2.2.2.2.2.2]))))[p]? = some (.inr (.inr (5, [.ref pa, .ref pb, .int s.2.2.1, .int s.2.2.2.1, .int s.2.2.2.2.1, .int s.2.2.2.2.2.1, .int s.2.2.2.2.2.2.1, .int s.2.2.2.2.2.2.2.1, .int s.2.2.2.2.2.2.2.2]))) := by rw [List.getElem?_set_ne m3]; exact hp2
  have hq8 : (s2.set q (.inr (.inr (5, [.ref qa, .ref qb, .int s.2.2.1, .int s.2.2.2.1, .int s.2.2.2.2.1, .int s.2.2.2.2.2.1, .int s.2.2.2.2.2.2.1, .int s.2.2.2.2.2.2.2.1, .int t.2.2.2.2.2.2.2.2]))))[q]? = some (.inr (.inr (5, [.ref qa, .ref qb, .int s.2.2.1, .int s.2.2.2.1, .int s.2.2.2.2.1, .int s.2.2.2.2.2.1, .int s.2.2.2.2.2.2.1, .int s.2.2.2.2.2.2.2.1, .int t.2.2.2.2.2.2.2.2]))) := List.getElem?_set_self hlen
  refine zx_aload_n (pc := 85) dX5_copy_85 rfl rfl ?_
  refine zx_aload_n (pc := 86) dX5_copy_86 rfl rfl ?_
  refine zx_get (pc := 87) (k := 8) (T := TX5) hp8 rfl (by decide) rfl fl_X5_56 dX5_copy_87 ?_
  refine zx_put (pc := 90) (k := 8) (T := TX5) (ty := .int) hq8 rfl (by decide) rfl (by decide +kernel) (fun _ => rfl) (fun _ => rfl) (Nat.le_of_ble_eq_true rfl) fl_X5_56 dX5_copy_90 ?_
  refine zx_sg (sg' := s2.set q (.inr (.inr (5, [.ref qa, .ref qb, .int s.2.2.1, .int s.2.2.2.1, .int s.2.2.2.2.1, .int s.2.2.2.2.2.1, .int s.2.2.2.2.2.2.1, .int s.2.2.2.2.2.2.2.1, .int s.2.2.2.2.2.2.2.2])))) (List.set_set _) ?_
  have hp9 : (s2.set q (.inr (.inr (5, [.ref qa, .ref qb, .int s.2.2.1, .int s.2.2.2.1, .int s.2.2.2.2.1, .int s.2.2.2.2.2.1, .int s.2.2.2.2.2.2.1, .int s.2.2.2.2.2.2.2.1, .int s.2.2.2.2.2.2.2.2]))))[p]? = some (.inr (.inr (5, [.ref pa, .ref pb, .int s.2.2.1, .int s.2.2.2.1, .int s.2.2.2.2.1, .int s.2.2.2.2.2.1, .int s.2.2.2.2.2.2.1, .int s.2.2.2.2.2.2.2.1, .int s.2.2.2.2.2.2.2.2]))) := by rw [List.getElem?_set_ne m3]; exact hp2
  have hq9 : (s2.set q (.inr (.inr (5, [.ref qa, .ref qb, .int s.2.2.1, .int s.2.2.2.1, .int s.2.2.2.2.1, .int s.2.2.2.2.2.1, .int s.2.2.2.2.2.2.1, .int s.2.2.2.2.2.2.2.1, .int s.2.2.2.2.2.2.2.2]))))[q]? = some (.inr (.inr (5, [.ref qa, .ref qb, .int s.2.2.1, .int s.2.2.2.1, .int s.2.2.2.2.1, .int s.2.2.2.2.2.1, .int s.2.2.2.2.2.2.1, .int s.2.2.2.2.2.2.2.1, .int s.2.2.2.2.2.2.2.2]))) := List.getElem?_set_self hlen
  exact zx_fv (pc := 93) dX5_copy_93 rfl (Nat.le_refl _) (Nat.le_refl _) (by rw [← hs2])
theorem zcf_eq {y : MethodName} {cy : ByteArray} {nLy : Nat} {rety : Option FieldType} {d : Nat} {as : List Value} {sg sg0 sg1 : List zCel} {r0 : Option Value} (h : sg0 = sg1) (k : zCf y cy nLy rety d as sg r0 sg0) : zCf y cy nLy rety d as sg r0 sg1 := h ▸ k
set_option maxHeartbeats 8000000 in
theorem k_copy_nB {d : Nat} {k : Nat} {tx : (Nat → Int32) × Int32} {gg : (Nat → Int32) × (Nat → Int32) × (Nat → Int32) × (Nat → Int32) × Int32 × Int32 × Int32} {nw : (Nat → Int32) × (Nat → Int32) × Int32 × Int32 × Int32 × Int32 × Int32 × Int32 × Int32} {tr : (Nat → Int32) × (Nat → Int32) × Int32 × Int32 × Int32 × Int32 × Int32 × Int32 × Int32} {wk : (Nat → Int32) × Int32 × Int32 × Int32} {pl : (Nat → Int32) × Int32 × Int32 × Int32 × Int32 × Int32} {ab : (Nat → zStt)} {an : Int32} {az : Int32} {sl : (Nat → zStt) × (Nat → Int32)} {si : (Nat → Int32) × (Nat → Int32) × (Nat → Int32) × Int32} {sd : Int64} {tau : List zCel} (hk : k < 14) : zCf yX5_copy cX5_copy 2 none (d + 1) [.ref 8, .ref (20 + 3 * k)] (encC tx gg nw tr wk pl (ab, an, az) sl si sd ++ tau) none (encC tx gg nw tr wk pl ((va_up ab k (zcpS nw (ab k))), an, az) sl si sd ++ tau) := by
  rcases (show k = 0 ∨ k = 1 ∨ k = 2 ∨ k = 3 ∨ k = 4 ∨ k = 5 ∨ k = 6 ∨ k = 7 ∨ k = 8 ∨ k = 9 ∨ k = 10 ∨ k = 11 ∨ k = 12 ∨ k = 13 by omega) with rfl | rfl | rfl | rfl | rfl | rfl | rfl | rfl | rfl | rfl | rfl | rfl | rfl | rfl
  · exact zcf_eq rfl (k_copy (p := 8) (pa := 9) (pb := 10) (q := 20) (qa := 21) (qb := 22) (s := (nw)) (t := (ab 0)) (sg := encC tx gg nw tr wk pl (ab, an, az) sl si sd ++ tau) rfl rfl rfl rfl rfl rfl (by decide))
  · exact zcf_eq rfl (k_copy (p := 8) (pa := 9) (pb := 10) (q := 23) (qa := 24) (qb := 25) (s := (nw)) (t := (ab 1)) (sg := encC tx gg nw tr wk pl (ab, an, az) sl si sd ++ tau) rfl rfl rfl rfl rfl rfl (by decide))
  · exact zcf_eq rfl (k_copy (p := 8) (pa := 9) (pb := 10) (q := 26) (qa := 27) (qb := 28) (s := (nw)) (t := (ab 2)) (sg := encC tx gg nw tr wk pl (ab, an, az) sl si sd ++ tau) rfl rfl rfl rfl rfl rfl (by decide))
  · exact zcf_eq rfl (k_copy (p := 8) (pa := 9) (pb := 10) (q := 29) (qa := 30) (qb := 31) (s := (nw)) (t := (ab 3)) (sg := encC tx gg nw tr wk pl (ab, an, az) sl si sd ++ tau) rfl rfl rfl rfl rfl rfl (by decide))
  · exact zcf_eq rfl (k_copy (p := 8) (pa := 9) (pb := 10) (q := 32) (qa := 33) (qb := 34) (s := (nw)) (t := (ab 4)) (sg := encC tx gg nw tr wk pl (ab, an, az) sl si sd ++ tau) rfl rfl rfl rfl rfl rfl (by decide))
  · exact zcf_eq rfl (k_copy (p := 8) (pa := 9) (pb := 10) (q := 35) (qa := 36) (qb := 37) (s := (nw)) (t := (ab 5)) (sg := encC tx gg nw tr wk pl (ab, an, az) sl si sd ++ tau) rfl rfl rfl rfl rfl rfl (by decide))
  · exact zcf_eq rfl (k_copy (p := 8) (pa := 9) (pb := 10) (q := 38) (qa := 39) (qb := 40) (s := (nw)) (t := (ab 6)) (sg := encC tx gg nw tr wk pl (ab, an, az) sl si sd ++ tau) rfl rfl rfl rfl rfl rfl (by decide))
  · exact zcf_eq rfl (k_copy (p := 8) (pa := 9) (pb := 10) (q := 41) (qa := 42) (qb := 43) (s := (nw)) (t := (ab 7)) (sg := encC tx gg nw tr wk pl (ab, an, az) sl si sd ++ tau) rfl rfl rfl rfl rfl rfl (by decide))
  · exact zcf_eq rfl (k_copy (p := 8) (pa := 9) (pb := 10) (q := 44) (qa := 45) (qb := 46) (s := (nw)) (t := (ab 8)) (sg := encC tx gg nw tr wk pl (ab, an, az) sl si sd ++ tau) rfl rfl rfl rfl rfl rfl (by decide))
  · exact zcf_eq rfl (k_copy (p := 8) (pa := 9) (pb := 10) (q := 47) (qa := 48) (qb := 49) (s := (nw)) (t := (ab 9)) (sg := encC tx gg nw tr wk pl (ab, an, az) sl si sd ++ tau) rfl rfl rfl rfl rfl rfl (by decide))
  · exact zcf_eq rfl (k_copy (p := 8) (pa := 9) (pb := 10) (q := 50) (qa := 51) (qb := 52) (s := (nw)) (t := (ab 10)) (sg := encC tx gg nw tr wk pl (ab, an, az) sl si sd ++ tau) rfl rfl rfl rfl rfl rfl (by decide))
  · exact zcf_eq rfl (k_copy (p := 8) (pa := 9) (pb := 10) (q := 53) (qa := 54) (qb := 55) (s := (nw)) (t := (ab 11)) (sg := encC tx gg nw tr wk pl (ab, an, az) sl si sd ++ tau) rfl rfl rfl rfl rfl rfl (by decide))
  · exact zcf_eq rfl (k_copy (p := 8) (pa := 9) (pb := 10) (q := 56) (qa := 57) (qb := 58) (s := (nw)) (t := (ab 12)) (sg := encC tx gg nw tr wk pl (ab, an, az) sl si sd ++ tau) rfl rfl rfl rfl rfl rfl (by decide))
  · exact zcf_eq rfl (k_copy (p := 8) (pa := 9) (pb := 10) (q := 59) (qa := 60) (qb := 61) (s := (nw)) (t := (ab 13)) (sg := encC tx gg nw tr wk pl (ab, an, az) sl si sd ++ tau) rfl rfl rfl rfl rfl rfl (by decide))
set_option maxHeartbeats 8000000 in
theorem k_copy_Bn {d : Nat} {k : Nat} {tx : (Nat → Int32) × Int32} {gg : (Nat → Int32) × (Nat → Int32) × (Nat → Int32) × (Nat → Int32) × Int32 × Int32 × Int32} {nw : (Nat → Int32) × (Nat → Int32) × Int32 × Int32 × Int32 × Int32 × Int32 × Int32 × Int32} {tr : (Nat → Int32) × (Nat → Int32) × Int32 × Int32 × Int32 × Int32 × Int32 × Int32 × Int32} {wk : (Nat → Int32) × Int32 × Int32 × Int32} {pl : (Nat → Int32) × Int32 × Int32 × Int32 × Int32 × Int32} {ab : (Nat → zStt)} {an : Int32} {az : Int32} {sl : (Nat → zStt) × (Nat → Int32)} {si : (Nat → Int32) × (Nat → Int32) × (Nat → Int32) × Int32} {sd : Int64} {tau : List zCel} (hk : k < 14) : zCf yX5_copy cX5_copy 2 none (d + 1) [.ref (20 + 3 * k), .ref 8] (encC tx gg nw tr wk pl (ab, an, az) sl si sd ++ tau) none (encC tx gg (zcpS (ab k) nw) tr wk pl (ab, an, az) sl si sd ++ tau) := by
  rcases (show k = 0 ∨ k = 1 ∨ k = 2 ∨ k = 3 ∨ k = 4 ∨ k = 5 ∨ k = 6 ∨ k = 7 ∨ k = 8 ∨ k = 9 ∨ k = 10 ∨ k = 11 ∨ k = 12 ∨ k = 13 by omega) with rfl | rfl | rfl | rfl | rfl | rfl | rfl | rfl | rfl | rfl | rfl | rfl | rfl | rfl
  · exact zcf_eq rfl (k_copy (p := 20) (pa := 21) (pb := 22) (q := 8) (qa := 9) (qb := 10) (s := (ab 0)) (t := (nw)) (sg := encC tx gg nw tr wk pl (ab, an, az) sl si sd ++ tau) rfl rfl rfl rfl rfl rfl (by decide))
  · exact zcf_eq rfl (k_copy (p := 23) (pa := 24) (pb := 25) (q := 8) (qa := 9) (qb := 10) (s := (ab 1)) (t := (nw)) (sg := encC tx gg nw tr wk pl (ab, an, az) sl si sd ++ tau) rfl rfl rfl rfl rfl rfl (by decide))
  · exact zcf_eq rfl (k_copy (p := 26) (pa := 27) (pb := 28) (q := 8) (qa := 9) (qb := 10) (s := (ab 2)) (t := (nw)) (sg := encC tx gg nw tr wk pl (ab, an, az) sl si sd ++ tau) rfl rfl rfl rfl rfl rfl (by decide))
  · exact zcf_eq rfl (k_copy (p := 29) (pa := 30) (pb := 31) (q := 8) (qa := 9) (qb := 10) (s := (ab 3)) (t := (nw)) (sg := encC tx gg nw tr wk pl (ab, an, az) sl si sd ++ tau) rfl rfl rfl rfl rfl rfl (by decide))
  · exact zcf_eq rfl (k_copy (p := 32) (pa := 33) (pb := 34) (q := 8) (qa := 9) (qb := 10) (s := (ab 4)) (t := (nw)) (sg := encC tx gg nw tr wk pl (ab, an, az) sl si sd ++ tau) rfl rfl rfl rfl rfl rfl (by decide))
  · exact zcf_eq rfl (k_copy (p := 35) (pa := 36) (pb := 37) (q := 8) (qa := 9) (qb := 10) (s := (ab 5)) (t := (nw)) (sg := encC tx gg nw tr wk pl (ab, an, az) sl si sd ++ tau) rfl rfl rfl rfl rfl rfl (by decide))
  · exact zcf_eq rfl (k_copy (p := 38) (pa := 39) (pb := 40) (q := 8) (qa := 9) (qb := 10) (s := (ab 6)) (t := (nw)) (sg := encC tx gg nw tr wk pl (ab, an, az) sl si sd ++ tau) rfl rfl rfl rfl rfl rfl (by decide))
  · exact zcf_eq rfl (k_copy (p := 41) (pa := 42) (pb := 43) (q := 8) (qa := 9) (qb := 10) (s := (ab 7)) (t := (nw)) (sg := encC tx gg nw tr wk pl (ab, an, az) sl si sd ++ tau) rfl rfl rfl rfl rfl rfl (by decide))
  · exact zcf_eq rfl (k_copy (p := 44) (pa := 45) (pb := 46) (q := 8) (qa := 9) (qb := 10) (s := (ab 8)) (t := (nw)) (sg := encC tx gg nw tr wk pl (ab, an, az) sl si sd ++ tau) rfl rfl rfl rfl rfl rfl (by decide))
  · exact zcf_eq rfl (k_copy (p := 47) (pa := 48) (pb := 49) (q := 8) (qa := 9) (qb := 10) (s := (ab 9)) (t := (nw)) (sg := encC tx gg nw tr wk pl (ab, an, az) sl si sd ++ tau) rfl rfl rfl rfl rfl rfl (by decide))
  · exact zcf_eq rfl (k_copy (p := 50) (pa := 51) (pb := 52) (q := 8) (qa := 9) (qb := 10) (s := (ab 10)) (t := (nw)) (sg := encC tx gg nw tr wk pl (ab, an, az) sl si sd ++ tau) rfl rfl rfl rfl rfl rfl (by decide))
  · exact zcf_eq rfl (k_copy (p := 53) (pa := 54) (pb := 55) (q := 8) (qa := 9) (qb := 10) (s := (ab 11)) (t := (nw)) (sg := encC tx gg nw tr wk pl (ab, an, az) sl si sd ++ tau) rfl rfl rfl rfl rfl rfl (by decide))
  · exact zcf_eq rfl (k_copy (p := 56) (pa := 57) (pb := 58) (q := 8) (qa := 9) (qb := 10) (s := (ab 12)) (t := (nw)) (sg := encC tx gg nw tr wk pl (ab, an, az) sl si sd ++ tau) rfl rfl rfl rfl rfl rfl (by decide))
  · exact zcf_eq rfl (k_copy (p := 59) (pa := 60) (pb := 61) (q := 8) (qa := 9) (qb := 10) (s := (ab 13)) (t := (nw)) (sg := encC tx gg nw tr wk pl (ab, an, az) sl si sd ++ tau) rfl rfl rfl rfl rfl rfl (by decide))
set_option maxHeartbeats 8000000 in
theorem k_copy_nK {d : Nat} {k : Nat} {tx : (Nat → Int32) × Int32} {gg : (Nat → Int32) × (Nat → Int32) × (Nat → Int32) × (Nat → Int32) × Int32 × Int32 × Int32} {nw : (Nat → Int32) × (Nat → Int32) × Int32 × Int32 × Int32 × Int32 × Int32 × Int32 × Int32} {tr : (Nat → Int32) × (Nat → Int32) × Int32 × Int32 × Int32 × Int32 × Int32 × Int32 × Int32} {wk : (Nat → Int32) × Int32 × Int32 × Int32} {pl : (Nat → Int32) × Int32 × Int32 × Int32 × Int32 × Int32} {ac : (Nat → zStt) × Int32 × Int32} {sk : (Nat → zStt)} {su : (Nat → Int32)} {si : (Nat → Int32) × (Nat → Int32) × (Nat → Int32) × Int32} {sd : Int64} {tau : List zCel} (hk : k < 2) : zCf yX5_copy cX5_copy 2 none (d + 1) [.ref 8, .ref (65 + 3 * k)] (encC tx gg nw tr wk pl ac (sk, su) si sd ++ tau) none (encC tx gg nw tr wk pl ac ((va_up sk k (zcpS nw (sk k))), su) si sd ++ tau) := by
  rcases (show k = 0 ∨ k = 1 by omega) with rfl | rfl
  · exact zcf_eq rfl (k_copy (p := 8) (pa := 9) (pb := 10) (q := 65) (qa := 66) (qb := 67) (s := (nw)) (t := (sk 0)) (sg := encC tx gg nw tr wk pl ac (sk, su) si sd ++ tau) rfl rfl rfl rfl rfl rfl (by decide))
  · exact zcf_eq rfl (k_copy (p := 8) (pa := 9) (pb := 10) (q := 68) (qa := 69) (qb := 70) (s := (nw)) (t := (sk 1)) (sg := encC tx gg nw tr wk pl ac (sk, su) si sd ++ tau) rfl rfl rfl rfl rfl rfl (by decide))
set_option maxHeartbeats 8000000 in
theorem k_copy_Kn {d : Nat} {k : Nat} {tx : (Nat → Int32) × Int32} {gg : (Nat → Int32) × (Nat → Int32) × (Nat → Int32) × (Nat → Int32) × Int32 × Int32 × Int32} {nw : (Nat → Int32) × (Nat → Int32) × Int32 × Int32 × Int32 × Int32 × Int32 × Int32 × Int32} {tr : (Nat → Int32) × (Nat → Int32) × Int32 × Int32 × Int32 × Int32 × Int32 × Int32 × Int32} {wk : (Nat → Int32) × Int32 × Int32 × Int32} {pl : (Nat → Int32) × Int32 × Int32 × Int32 × Int32 × Int32} {ac : (Nat → zStt) × Int32 × Int32} {sk : (Nat → zStt)} {su : (Nat → Int32)} {si : (Nat → Int32) × (Nat → Int32) × (Nat → Int32) × Int32} {sd : Int64} {tau : List zCel} (hk : k < 2) : zCf yX5_copy cX5_copy 2 none (d + 1) [.ref (65 + 3 * k), .ref 8] (encC tx gg nw tr wk pl ac (sk, su) si sd ++ tau) none (encC tx gg (zcpS (sk k) nw) tr wk pl ac (sk, su) si sd ++ tau) := by
  rcases (show k = 0 ∨ k = 1 by omega) with rfl | rfl
  · exact zcf_eq rfl (k_copy (p := 65) (pa := 66) (pb := 67) (q := 8) (qa := 9) (qb := 10) (s := (sk 0)) (t := (nw)) (sg := encC tx gg nw tr wk pl ac (sk, su) si sd ++ tau) rfl rfl rfl rfl rfl rfl (by decide))
  · exact zcf_eq rfl (k_copy (p := 68) (pa := 69) (pb := 70) (q := 8) (qa := 9) (qb := 10) (s := (sk 1)) (t := (nw)) (sg := encC tx gg nw tr wk pl ac (sk, su) si sd ++ tau) rfl rfl rfl rfl rfl rfl (by decide))
set_option maxHeartbeats 8000000 in
theorem k_copy_nt {d : Nat}  {tx : (Nat → Int32) × Int32} {gg : (Nat → Int32) × (Nat → Int32) × (Nat → Int32) × (Nat → Int32) × Int32 × Int32 × Int32} {nw : (Nat → Int32) × (Nat → Int32) × Int32 × Int32 × Int32 × Int32 × Int32 × Int32 × Int32} {tr : (Nat → Int32) × (Nat → Int32) × Int32 × Int32 × Int32 × Int32 × Int32 × Int32 × Int32} {wk : (Nat → Int32) × Int32 × Int32 × Int32} {pl : (Nat → Int32) × Int32 × Int32 × Int32 × Int32 × Int32} {ac : (Nat → zStt) × Int32 × Int32} {sl : (Nat → zStt) × (Nat → Int32)} {si : (Nat → Int32) × (Nat → Int32) × (Nat → Int32) × Int32} {sd : Int64} {tau : List zCel}  : zCf yX5_copy cX5_copy 2 none (d + 1) [.ref 8, .ref 11] (encC tx gg nw tr wk pl ac sl si sd ++ tau) none (encC tx gg nw (zcpS nw tr) wk pl ac sl si sd ++ tau) := by
  exact zcf_eq rfl (k_copy (p := 8) (pa := 9) (pb := 10) (q := 11) (qa := 12) (qb := 13) (s := (nw)) (t := (tr)) (sg := encC tx gg nw tr wk pl ac sl si sd ++ tau) rfl rfl rfl rfl rfl rfl (by decide))
set_option maxHeartbeats 4000000 in
theorem lp_fill_n {d n0 : Nat} {v : Int32} {tx : (Nat → Int32) × Int32} {gg : (Nat → Int32) × (Nat → Int32) × (Nat → Int32) × (Nat → Int32) × Int32 × Int32 × Int32} {nt : (Nat → Int32)} {ns : (Nat → Int32)} {n2 : Int32} {n3 : Int32} {n4 : Int32} {n5 : Int32} {n6 : Int32} {n7 : Int32} {n8 : Int32} {tr : (Nat → Int32) × (Nat → Int32) × Int32 × Int32 × Int32 × Int32 × Int32 × Int32 × Int32} {wk : (Nat → Int32) × Int32 × Int32 × Int32} {pl : (Nat → Int32) × Int32 × Int32 × Int32 × Int32 × Int32} {ac : (Nat → zStt) × Int32 × Int32} {sl : (Nat → zStt) × (Nat → Int32)} {si : (Nat → Int32) × (Nat → Int32) × (Nat → Int32) × Int32} {sd : Int64} {tau : List zCel} : ∀ k i : Nat, i + k = 5 → zX RJ7 cJ7_fill_53178 4 none "fill" none d n0 0 0 0 0 (fun r s => r = none ∧ s = encC tx gg ((zFil nt v 5), ns, n2, n3, n4, n5, n6, n7, n8) tr wk pl ac sl si sd ++ tau) 5 [some (.ref 9), some (.int v), some (.int (nI i)), some (.int 5)] [] (encC tx gg ((zFil nt v i), ns, n2, n3, n4, n5, n6, n7, n8) tr wk pl ac sl si sd ++ tau) := by
  intro k
  induction k with
  | zero =>
    intro i hi
    obtain rfl : i = 5 := by omega
    refine zx_iload_n (pc := 5) dJ7_fill_53178_5 rfl rfl ?_
    refine zx_iload_n (pc := 6) dJ7_fill_53178_6 rfl rfl ?_
    refine zx_icmp_ge (pc := 7) (tgt := 20) dJ7_fill_53178_7 (by decide) (fun h7 => ?_) (fun h7 => by first | exact absurd h7 (show (5 : Int32) ≤ nI 5 by decide) | exact absurd (show (5 : Int32) ≤ nI 5 by decide) h7)
    exact zx_fv (pc := 20) dJ7_fill_53178_20 rfl (Nat.le_refl _) (Nat.le_refl _) rfl
  | succ k ih =>
    intro i hi
    refine zx_iload_n (pc := 5) dJ7_fill_53178_5 rfl rfl ?_
    refine zx_iload_n (pc := 6) dJ7_fill_53178_6 rfl rfl ?_
    refine zx_icmp_ge (pc := 7) (tgt := 20) dJ7_fill_53178_7 (by decide) (fun h7 => by first | exact absurd h7 (zle5 (show i < 5 by omega)) | exact absurd (zle5 (show i < 5 by omega)) h7) (fun h7 => ?_)
    refine zx_aload_n (pc := 10) dJ7_fill_53178_10 rfl rfl ?_
    refine zx_iload_n (pc := 11) dJ7_fill_53178_11 rfl rfl ?_
    refine zx_iload_n (pc := 12) dJ7_fill_53178_12 rfl rfl ?_
    refine s9 (pc := 13) (zix_n (by omega)) dJ7_fill_53178_13 ?_
    refine ic_2_4_1 (pc := 14) dJ7_fill_53178_14 rfl ?_
    refine zx_goto (pc := 17) (tgt := 5) dJ7_fill_53178_17 (by decide) ?_
    rw [zFil_s, nI_1]
    exact ih (i + 1) (by omega)
set_option maxHeartbeats 4000000 in
theorem k_fill_n {d : Nat} {v : Int32} {tx : (Nat → Int32) × Int32} {gg : (Nat → Int32) × (Nat → Int32) × (Nat → Int32) × (Nat → Int32) × Int32 × Int32 × Int32} {nt : (Nat → Int32)} {ns : (Nat → Int32)} {n2 : Int32} {n3 : Int32} {n4 : Int32} {n5 : Int32} {n6 : Int32} {n7 : Int32} {n8 : Int32} {tr : (Nat → Int32) × (Nat → Int32) × Int32 × Int32 × Int32 × Int32 × Int32 × Int32 × Int32} {wk : (Nat → Int32) × Int32 × Int32 × Int32} {pl : (Nat → Int32) × Int32 × Int32 × Int32 × Int32 × Int32} {ac : (Nat → zStt) × Int32 × Int32} {sl : (Nat → zStt) × (Nat → Int32)} {si : (Nat → Int32) × (Nat → Int32) × (Nat → Int32) × Int32} {sd : Int64} {tau : List zCel}  : zCf yJ7_fill_53178 cJ7_fill_53178 4 none d [.ref 9, .int v] (encC tx gg (nt, ns, n2, n3, n4, n5, n6, n7, n8) tr wk pl ac sl si sd ++ tau) none (encC tx gg ((zFil nt v 5), ns, n2, n3, n4, n5, n6, n7, n8) tr wk pl ac sl si sd ++ tau) := by
  refine zC.intro (by decide) (Nat.le_of_ble_eq_true rfl) rfl ?_
  refine zx_iconst (pc := 0) (v := 0) dJ7_fill_53178_0 (by decide) ?_
  refine st_2_4 (pc := 1) dJ7_fill_53178_1 rfl ?_
  refine zx_aload_n (pc := 2) dJ7_fill_53178_2 rfl rfl ?_
  refine zx_alen (pc := 3) (v := 5) p9 (by decide) dJ7_fill_53178_3 ?_
  refine st_3_4 (pc := 4) dJ7_fill_53178_4 rfl ?_
  exact zx_sg (sg' := encC tx gg ((zFil nt v 0), ns, n2, n3, n4, n5, n6, n7, n8) tr wk pl ac sl si sd ++ tau) (by rw [zFil_0]) (lp_fill_n 5 0 (by omega))
set_option maxHeartbeats 4000000 in
theorem lp_fill_p {d n0 : Nat} {v : Int32} {tx : (Nat → Int32) × Int32} {gg : (Nat → Int32) × (Nat → Int32) × (Nat → Int32) × (Nat → Int32) × Int32 × Int32 × Int32} {nw : (Nat → Int32) × (Nat → Int32) × Int32 × Int32 × Int32 × Int32 × Int32 × Int32 × Int32} {tr : (Nat → Int32) × (Nat → Int32) × Int32 × Int32 × Int32 × Int32 × Int32 × Int32 × Int32} {wk : (Nat → Int32) × Int32 × Int32 × Int32} {pt : (Nat → Int32)} {b1 : Int32} {b2 : Int32} {b3 : Int32} {b4 : Int32} {b5 : Int32} {ac : (Nat → zStt) × Int32 × Int32} {sl : (Nat → zStt) × (Nat → Int32)} {si : (Nat → Int32) × (Nat → Int32) × (Nat → Int32) × Int32} {sd : Int64} {tau : List zCel} : ∀ k i : Nat, i + k = 5 → zX RJ7 cJ7_fill_53178 4 none "fill" none d n0 0 0 0 0 (fun r s => r = none ∧ s = encC tx gg nw tr wk ((zFil pt v 5), b1, b2, b3, b4, b5) ac sl si sd ++ tau) 5 [some (.ref 17), some (.int v), some (.int (nI i)), some (.int 5)] [] (encC tx gg nw tr wk ((zFil pt v i), b1, b2, b3, b4, b5) ac sl si sd ++ tau) := by
  intro k
  induction k with
  | zero =>
    intro i hi
    obtain rfl : i = 5 := by omega
    refine zx_iload_n (pc := 5) dJ7_fill_53178_5 rfl rfl ?_
    refine zx_iload_n (pc := 6) dJ7_fill_53178_6 rfl rfl ?_
    refine zx_icmp_ge (pc := 7) (tgt := 20) dJ7_fill_53178_7 (by decide) (fun h7 => ?_) (fun h7 => by first | exact absurd h7 (show (5 : Int32) ≤ nI 5 by decide) | exact absurd (show (5 : Int32) ≤ nI 5 by decide) h7)
    exact zx_fv (pc := 20) dJ7_fill_53178_20 rfl (Nat.le_refl _) (Nat.le_refl _) rfl
  | succ k ih =>
    intro i hi
    refine zx_iload_n (pc := 5) dJ7_fill_53178_5 rfl rfl ?_
    refine zx_iload_n (pc := 6) dJ7_fill_53178_6 rfl rfl ?_
    refine zx_icmp_ge (pc := 7) (tgt := 20) dJ7_fill_53178_7 (by decide) (fun h7 => by first | exact absurd h7 (zle5 (show i < 5 by omega)) | exact absurd (zle5 (show i < 5 by omega)) h7) (fun h7 => ?_)
    refine zx_aload_n (pc := 10) dJ7_fill_53178_10 rfl rfl ?_
    refine zx_iload_n (pc := 11) dJ7_fill_53178_11 rfl rfl ?_
    refine zx_iload_n (pc := 12) dJ7_fill_53178_12 rfl rfl ?_
    refine s17 (pc := 13) (zix_n (by omega)) dJ7_fill_53178_13 ?_
    refine ic_2_4_1 (pc := 14) dJ7_fill_53178_14 rfl ?_
    refine zx_goto (pc := 17) (tgt := 5) dJ7_fill_53178_17 (by decide) ?_
    rw [zFil_s, nI_1]
    exact ih (i + 1) (by omega)
set_option maxHeartbeats 4000000 in
theorem k_fill_p {d : Nat} {v : Int32} {tx : (Nat → Int32) × Int32} {gg : (Nat → Int32) × (Nat → Int32) × (Nat → Int32) × (Nat → Int32) × Int32 × Int32 × Int32} {nw : (Nat → Int32) × (Nat → Int32) × Int32 × Int32 × Int32 × Int32 × Int32 × Int32 × Int32} {tr : (Nat → Int32) × (Nat → Int32) × Int32 × Int32 × Int32 × Int32 × Int32 × Int32 × Int32} {wk : (Nat → Int32) × Int32 × Int32 × Int32} {pt : (Nat → Int32)} {b1 : Int32} {b2 : Int32} {b3 : Int32} {b4 : Int32} {b5 : Int32} {ac : (Nat → zStt) × Int32 × Int32} {sl : (Nat → zStt) × (Nat → Int32)} {si : (Nat → Int32) × (Nat → Int32) × (Nat → Int32) × Int32} {sd : Int64} {tau : List zCel}  : zCf yJ7_fill_53178 cJ7_fill_53178 4 none d [.ref 17, .int v] (encC tx gg nw tr wk (pt, b1, b2, b3, b4, b5) ac sl si sd ++ tau) none (encC tx gg nw tr wk ((zFil pt v 5), b1, b2, b3, b4, b5) ac sl si sd ++ tau) := by
  refine zC.intro (by decide) (Nat.le_of_ble_eq_true rfl) rfl ?_
  refine zx_iconst (pc := 0) (v := 0) dJ7_fill_53178_0 (by decide) ?_
  refine st_2_4 (pc := 1) dJ7_fill_53178_1 rfl ?_
  refine zx_aload_n (pc := 2) dJ7_fill_53178_2 rfl rfl ?_
  refine zx_alen (pc := 3) (v := 5) p17 (by decide) dJ7_fill_53178_3 ?_
  refine st_3_4 (pc := 4) dJ7_fill_53178_4 rfl ?_
  exact zx_sg (sg' := encC tx gg nw tr wk ((zFil pt v 0), b1, b2, b3, b4, b5) ac sl si sd ++ tau) (by rw [zFil_0]) (lp_fill_p 5 0 (by omega))
set_option maxHeartbeats 4000000 in
theorem k_beginAnew {d : Nat} {tx : (Nat → Int32) × Int32} {gs : (Nat → Int32)} {gk : (Nat → Int32)} {gf : (Nat → Int32)} {ga : (Nat → Int32)} {gh : Int32} {gd : Int32} {gc : Int32} {nt : (Nat → Int32)} {ns : (Nat → Int32)} {n2 : Int32} {n3 : Int32} {n4 : Int32} {n5 : Int32} {n6 : Int32} {n7 : Int32} {n8 : Int32} {tr : (Nat → Int32) × (Nat → Int32) × Int32 × Int32 × Int32 × Int32 × Int32 × Int32 × Int32} {wk : (Nat → Int32) × Int32 × Int32 × Int32} {pl : (Nat → Int32) × Int32 × Int32 × Int32 × Int32 × Int32} {ac : (Nat → zStt) × Int32 × Int32} {sl : (Nat → zStt) × (Nat → Int32)} {si : (Nat → Int32) × (Nat → Int32) × (Nat → Int32) × Int32} {sd : Int64} {tau : List zCel}  : zCf yX5_beginAnew cX5_beginAnew 2 none (d + 1) [.ref 8, .ref 3] (encC tx (gs, gk, gf, ga, gh, gd, gc) (nt, ns, n2, n3, n4, n5, n6, n7, n8) tr wk pl ac sl si sd ++ tau) none (encC tx (gs, gk, gf, ga, gh, gd, gc) ((zFil nt 0 5), (va_cpy ga ns 0 0 3), 0, 0, 0, 0, 1, 0, 0) tr wk pl ac sl si sd ++ tau) := by
  refine zC.intro (by decide) (Nat.le_of_ble_eq_true rfl) rfl ?_
  refine zx_aload_n (pc := 0) dX5_beginAnew_0 rfl rfl ?_
  refine g8_0 (pc := 1) fl_X5_9 dX5_beginAnew_1 ?_
  refine zx_iconst (pc := 4) (v := 0) dX5_beginAnew_4 (by decide) ?_
  refine zx_fS0 (pc := 5) (k_fill_n (d := d) ) cl_X5_24 dX5_beginAnew_5 rfl rfl (by omega) (Nat.le_of_ble_eq_true rfl) (Nat.le_refl _) (Nat.le_refl _) ?_
  refine zx_aload_n (pc := 8) dX5_beginAnew_8 rfl rfl ?_
  refine g3_3 (pc := 9) fl_X5_30 dX5_beginAnew_9 ?_
  refine zx_iconst (pc := 12) (v := 0) dX5_beginAnew_12 (by decide) ?_
  refine zx_aload_n (pc := 13) dX5_beginAnew_13 rfl rfl ?_
  refine g8_1 (pc := 14) fl_X5_15 dX5_beginAnew_14 ?_
  refine zx_iconst (pc := 17) (v := 0) dX5_beginAnew_17 (by decide) ?_
  refine zx_iconst (pc := 18) (v := 3) dX5_beginAnew_18 (by decide) ?_
  refine zx_copy (pc := 19) (sp' := 0) (dp' := 0) (n' := 3) p7 p10 (by decide) (by decide) (by decide) (Nat.le_of_ble_eq_true rfl) (by omega) ml_X5_35 dX5_beginAnew_19 ?_
  refine zx_sg (e10) ?_
  refine zx_aload_n (pc := 22) dX5_beginAnew_22 rfl rfl ?_
  refine zx_iconst (pc := 23) (v := 0) dX5_beginAnew_23 (by decide) ?_
  refine u8_2 (pc := 24) fl_X5_41 dX5_beginAnew_24 ?_
  refine zx_aload_n (pc := 27) dX5_beginAnew_27 rfl rfl ?_
  refine zx_iconst (pc := 28) (v := 0) dX5_beginAnew_28 (by decide) ?_
  refine u8_3 (pc := 29) fl_X5_44 dX5_beginAnew_29 ?_
  refine zx_aload_n (pc := 32) dX5_beginAnew_32 rfl rfl ?_
  refine zx_iconst (pc := 33) (v := 0) dX5_beginAnew_33 (by decide) ?_
  refine u8_4 (pc := 34) fl_X5_47 dX5_beginAnew_34 ?_
  refine zx_aload_n (pc := 37) dX5_beginAnew_37 rfl rfl ?_
  refine zx_iconst (pc := 38) (v := 0) dX5_beginAnew_38 (by decide) ?_
  refine u8_5 (pc := 39) fl_X5_50 dX5_beginAnew_39 ?_
  refine zx_aload_n (pc := 42) dX5_beginAnew_42 rfl rfl ?_
  refine zx_iconst (pc := 43) (v := 1) dX5_beginAnew_43 (by decide) ?_
  refine u8_6 (pc := 44) fl_X5_20 dX5_beginAnew_44 ?_
  refine zx_aload_n (pc := 47) dX5_beginAnew_47 rfl rfl ?_
  refine zx_iconst (pc := 48) (v := 0) dX5_beginAnew_48 (by decide) ?_
  refine u8_7 (pc := 49) fl_X5_53 dX5_beginAnew_49 ?_
  refine zx_aload_n (pc := 52) dX5_beginAnew_52 rfl rfl ?_
  refine zx_iconst (pc := 53) (v := 0) dX5_beginAnew_53 (by decide) ?_
  refine u8_8 (pc := 54) fl_X5_56 dX5_beginAnew_54 ?_
  exact zx_fv (pc := 57) dX5_beginAnew_57 rfl (Nat.le_refl _) (Nat.le_refl _) rfl
set_option maxHeartbeats 4000000 in
theorem k_endDay_n {d : Nat} {tx : (Nat → Int32) × Int32} {gs : (Nat → Int32)} {gk : (Nat → Int32)} {gf : (Nat → Int32)} {ga : (Nat → Int32)} {gh : Int32} {gd : Int32} {gc : Int32} {nt : (Nat → Int32)} {ns : (Nat → Int32)} {n2 : Int32} {n3 : Int32} {n4 : Int32} {n5 : Int32} {n6 : Int32} {n7 : Int32} {n8 : Int32} {tr : (Nat → Int32) × (Nat → Int32) × Int32 × Int32 × Int32 × Int32 × Int32 × Int32 × Int32} {ws : (Nat → Int32)} {w1 : Int32} {w2 : Int32} {w3 : Int32} {pl : (Nat → Int32) × Int32 × Int32 × Int32 × Int32 × Int32} {ac : (Nat → zStt) × Int32 × Int32} {sl : (Nat → zStt) × (Nat → Int32)} {si : (Nat → Int32) × (Nat → Int32) × (Nat → Int32) × Int32} {sd : Int64} {tau : List zCel}  : zCf yX5_endDay cX5_endDay 3 none (d + 1) [.ref 8, .ref 3, .ref 14] (encC tx (gs, gk, gf, ga, gh, gd, gc) (nt, ns, n2, n3, n4, n5, n6, n7, n8) tr (ws, w1, w2, w3) pl ac sl si sd ++ tau) none (encC tx (gs, gk, gf, ga, gh, gd, gc) (zend gc (ws, w1, w2, w3) (nt, ns, n2, n3, n4, n5, n6, n7, n8)) tr (ws, w1, w2, w3) pl ac sl si sd ++ tau) := by
  refine zC.intro (by decide) (Nat.le_of_ble_eq_true rfl) rfl ?_
  refine zx_aload_n (pc := 0) dX5_endDay_0 rfl rfl ?_
  refine g14_0 (pc := 1) fl_X5_59 dX5_endDay_1 ?_
  refine zx_iconst (pc := 4) (v := 0) dX5_endDay_4 (by decide) ?_
  refine zx_aload_n (pc := 5) dX5_endDay_5 rfl rfl ?_
  refine g8_1 (pc := 6) fl_X5_15 dX5_endDay_6 ?_
  refine zx_iconst (pc := 9) (v := 0) dX5_endDay_9 (by decide) ?_
  refine zx_iconst (pc := 10) (v := 3) dX5_endDay_10 (by decide) ?_
  refine zx_copy (pc := 11) (sp' := 0) (dp' := 0) (n' := 3) p15 p10 (by decide) (by decide) (by decide) (Nat.le_of_ble_eq_true rfl) (by omega) ml_X5_35 dX5_endDay_11 ?_
  refine zx_sg (e10) ?_
  refine zx_aload_n (pc := 14) dX5_endDay_14 rfl rfl ?_
  refine zx_aload_n (pc := 15) dX5_endDay_15 rfl rfl ?_
  refine g14_1 (pc := 16) fl_X5_62 dX5_endDay_16 ?_
  refine u8_2 (pc := 19) fl_X5_41 dX5_endDay_19 ?_
  refine zx_aload_n (pc := 22) dX5_endDay_22 rfl rfl ?_
  refine zx_dup (pc := 23) dX5_endDay_23 rfl ?_
  refine g8_3 (pc := 24) fl_X5_44 dX5_endDay_24 ?_
  refine zx_aload_n (pc := 27) dX5_endDay_27 rfl rfl ?_
  refine g14_3 (pc := 28) fl_X5_63 dX5_endDay_28 ?_
  refine zx_iadd (pc := 31) dX5_endDay_31 ?_
  refine u8_3 (pc := 32) fl_X5_44 dX5_endDay_32 ?_
  refine zx_aload_n (pc := 35) dX5_endDay_35 rfl rfl ?_
  refine zx_dup (pc := 36) dX5_endDay_36 rfl ?_
  refine g8_4 (pc := 37) fl_X5_47 dX5_endDay_37 ?_
  refine zx_aload_n (pc := 40) dX5_endDay_40 rfl rfl ?_
  refine g14_2 (pc := 41) fl_X5_64 dX5_endDay_41 ?_
  refine zx_aload_n (pc := 44) dX5_endDay_44 rfl rfl ?_
  refine g14_3 (pc := 45) fl_X5_63 dX5_endDay_45 ?_
  refine zx_isub (pc := 48) dX5_endDay_48 ?_
  refine zx_iadd (pc := 49) dX5_endDay_49 ?_
  refine u8_4 (pc := 50) fl_X5_47 dX5_endDay_50 ?_
  refine zx_aload_n (pc := 53) dX5_endDay_53 rfl rfl ?_
  refine zx_dup (pc := 54) dX5_endDay_54 rfl ?_
  refine g8_7 (pc := 55) fl_X5_53 dX5_endDay_55 ?_
  refine zx_iconst (pc := 58) (v := 0) dX5_endDay_58 (by decide) ?_
  refine zx_aload_n (pc := 59) dX5_endDay_59 rfl rfl ?_
  refine g3_6 (pc := 60) fl_X5_67 dX5_endDay_60 ?_
  refine zx_aload_n (pc := 63) dX5_endDay_63 rfl rfl ?_
  refine g14_2 (pc := 64) fl_X5_64 dX5_endDay_64 ?_
  refine zx_isub (pc := 67) dX5_endDay_67 ?_
  refine zx_aload_n (pc := 68) dX5_endDay_68 rfl rfl ?_
  refine g8_5 (pc := 69) fl_X5_50 dX5_endDay_69 ?_
  refine zx_isub (pc := 72) dX5_endDay_72 ?_
  refine zx_mmax (pc := 73) (Nat.le_of_ble_eq_true rfl) (by omega) (Nat.le_refl _) (Nat.le_refl _) ml_X5_70 dX5_endDay_73 ?_
  refine zx_iadd (pc := 76) dX5_endDay_76 ?_
  refine u8_7 (pc := 77) fl_X5_53 dX5_endDay_77 ?_
  refine zx_aload_n (pc := 80) dX5_endDay_80 rfl rfl ?_
  refine zx_iconst (pc := 81) (v := 0) dX5_endDay_81 (by decide) ?_
  refine u8_5 (pc := 82) fl_X5_50 dX5_endDay_82 ?_
  refine zx_aload_n (pc := 85) dX5_endDay_85 rfl rfl ?_
  refine zx_dup (pc := 86) dX5_endDay_86 rfl ?_
  refine g8_8 (pc := 87) fl_X5_56 dX5_endDay_87 ?_
  refine zx_iconst (pc := 90) (v := 1) dX5_endDay_90 (by decide) ?_
  refine zx_iadd (pc := 91) dX5_endDay_91 ?_
  refine u8_8 (pc := 92) fl_X5_56 dX5_endDay_92 ?_
  exact zx_fv (pc := 95) dX5_endDay_95 rfl (Nat.le_refl _) (Nat.le_refl _) rfl
set_option maxHeartbeats 4000000 in
theorem k_endDay_t {d : Nat} {tx : (Nat → Int32) × Int32} {gs : (Nat → Int32)} {gk : (Nat → Int32)} {gf : (Nat → Int32)} {ga : (Nat → Int32)} {gh : Int32} {gd : Int32} {gc : Int32} {nw : (Nat → Int32) × (Nat → Int32) × Int32 × Int32 × Int32 × Int32 × Int32 × Int32 × Int32} {tt : (Nat → Int32)} {ts : (Nat → Int32)} {t2 : Int32} {t3 : Int32} {t4 : Int32} {t5 : Int32} {t6 : Int32} {t7 : Int32} {t8 : Int32} {ws : (Nat → Int32)} {w1 : Int32} {w2 : Int32} {w3 : Int32} {pl : (Nat → Int32) × Int32 × Int32 × Int32 × Int32 × Int32} {ac : (Nat → zStt) × Int32 × Int32} {sl : (Nat → zStt) × (Nat → Int32)} {si : (Nat → Int32) × (Nat → Int32) × (Nat → Int32) × Int32} {sd : Int64} {tau : List zCel}  : zCf yX5_endDay cX5_endDay 3 none (d + 1) [.ref 11, .ref 3, .ref 14] (encC tx (gs, gk, gf, ga, gh, gd, gc) nw (tt, ts, t2, t3, t4, t5, t6, t7, t8) (ws, w1, w2, w3) pl ac sl si sd ++ tau) none (encC tx (gs, gk, gf, ga, gh, gd, gc) nw (zend gc (ws, w1, w2, w3) (tt, ts, t2, t3, t4, t5, t6, t7, t8)) (ws, w1, w2, w3) pl ac sl si sd ++ tau) := by
  refine zC.intro (by decide) (Nat.le_of_ble_eq_true rfl) rfl ?_
  refine zx_aload_n (pc := 0) dX5_endDay_0 rfl rfl ?_
  refine g14_0 (pc := 1) fl_X5_59 dX5_endDay_1 ?_
  refine zx_iconst (pc := 4) (v := 0) dX5_endDay_4 (by decide) ?_
  refine zx_aload_n (pc := 5) dX5_endDay_5 rfl rfl ?_
  refine g11_1 (pc := 6) fl_X5_15 dX5_endDay_6 ?_
  refine zx_iconst (pc := 9) (v := 0) dX5_endDay_9 (by decide) ?_
  refine zx_iconst (pc := 10) (v := 3) dX5_endDay_10 (by decide) ?_
  refine zx_copy (pc := 11) (sp' := 0) (dp' := 0) (n' := 3) p15 p13 (by decide) (by decide) (by decide) (Nat.le_of_ble_eq_true rfl) (by omega) ml_X5_35 dX5_endDay_11 ?_
  refine zx_sg (e13) ?_
  refine zx_aload_n (pc := 14) dX5_endDay_14 rfl rfl ?_
  refine zx_aload_n (pc := 15) dX5_endDay_15 rfl rfl ?_
  refine g14_1 (pc := 16) fl_X5_62 dX5_endDay_16 ?_
  refine u11_2 (pc := 19) fl_X5_41 dX5_endDay_19 ?_
  refine zx_aload_n (pc := 22) dX5_endDay_22 rfl rfl ?_
  refine zx_dup (pc := 23) dX5_endDay_23 rfl ?_
  refine g11_3 (pc := 24) fl_X5_44 dX5_endDay_24 ?_
  refine zx_aload_n (pc := 27) dX5_endDay_27 rfl rfl ?_
  refine g14_3 (pc := 28) fl_X5_63 dX5_endDay_28 ?_
  refine zx_iadd (pc := 31) dX5_endDay_31 ?_
  refine u11_3 (pc := 32) fl_X5_44 dX5_endDay_32 ?_
  refine zx_aload_n (pc := 35) dX5_endDay_35 rfl rfl ?_
  refine zx_dup (pc := 36) dX5_endDay_36 rfl ?_
  refine g11_4 (pc := 37) fl_X5_47 dX5_endDay_37 ?_
  refine zx_aload_n (pc := 40) dX5_endDay_40 rfl rfl ?_
  refine g14_2 (pc := 41) fl_X5_64 dX5_endDay_41 ?_
  refine zx_aload_n (pc := 44) dX5_endDay_44 rfl rfl ?_
  refine g14_3 (pc := 45) fl_X5_63 dX5_endDay_45 ?_
  refine zx_isub (pc := 48) dX5_endDay_48 ?_
  refine zx_iadd (pc := 49) dX5_endDay_49 ?_
  refine u11_4 (pc := 50) fl_X5_47 dX5_endDay_50 ?_
  refine zx_aload_n (pc := 53) dX5_endDay_53 rfl rfl ?_
  refine zx_dup (pc := 54) dX5_endDay_54 rfl ?_
  refine g11_7 (pc := 55) fl_X5_53 dX5_endDay_55 ?_
  refine zx_iconst (pc := 58) (v := 0) dX5_endDay_58 (by decide) ?_
  refine zx_aload_n (pc := 59) dX5_endDay_59 rfl rfl ?_
  refine g3_6 (pc := 60) fl_X5_67 dX5_endDay_60 ?_
  refine zx_aload_n (pc := 63) dX5_endDay_63 rfl rfl ?_
  refine g14_2 (pc := 64) fl_X5_64 dX5_endDay_64 ?_
  refine zx_isub (pc := 67) dX5_endDay_67 ?_
  refine zx_aload_n (pc := 68) dX5_endDay_68 rfl rfl ?_
  refine g11_5 (pc := 69) fl_X5_50 dX5_endDay_69 ?_
  refine zx_isub (pc := 72) dX5_endDay_72 ?_
  refine zx_mmax (pc := 73) (Nat.le_of_ble_eq_true rfl) (by omega) (Nat.le_refl _) (Nat.le_refl _) ml_X5_70 dX5_endDay_73 ?_
  refine zx_iadd (pc := 76) dX5_endDay_76 ?_
  refine u11_7 (pc := 77) fl_X5_53 dX5_endDay_77 ?_
  refine zx_aload_n (pc := 80) dX5_endDay_80 rfl rfl ?_
  refine zx_iconst (pc := 81) (v := 0) dX5_endDay_81 (by decide) ?_
  refine u11_5 (pc := 82) fl_X5_50 dX5_endDay_82 ?_
  refine zx_aload_n (pc := 85) dX5_endDay_85 rfl rfl ?_
  refine zx_dup (pc := 86) dX5_endDay_86 rfl ?_
  refine g11_8 (pc := 87) fl_X5_56 dX5_endDay_87 ?_
  refine zx_iconst (pc := 90) (v := 1) dX5_endDay_90 (by decide) ?_
  refine zx_iadd (pc := 91) dX5_endDay_91 ?_
  refine u11_8 (pc := 92) fl_X5_56 dX5_endDay_92 ?_
  exact zx_fv (pc := 95) dX5_endDay_95 rfl (Nat.le_refl _) (Nat.le_refl _) rfl
set_option maxHeartbeats 4000000 in
theorem k_bricks {d : Nat} {x : Int32} {tx : (Nat → Int32) × Int32} {gg : (Nat → Int32) × (Nat → Int32) × (Nat → Int32) × (Nat → Int32) × Int32 × Int32 × Int32} {nt : (Nat → Int32)} {ns : (Nat → Int32)} {n2 : Int32} {n3 : Int32} {n4 : Int32} {n5 : Int32} {n6 : Int32} {n7 : Int32} {n8 : Int32} {tr : (Nat → Int32) × (Nat → Int32) × Int32 × Int32 × Int32 × Int32 × Int32 × Int32 × Int32} {wk : (Nat → Int32) × Int32 × Int32 × Int32} {pl : (Nat → Int32) × Int32 × Int32 × Int32 × Int32 × Int32} {ac : (Nat → zStt) × Int32 × Int32} {sl : (Nat → zStt) × (Nat → Int32)} {si : (Nat → Int32) × (Nat → Int32) × (Nat → Int32) × Int32} {sd : Int64} {tau : List zCel}  : zCf yX5_bricks cX5_bricks 2 (some .int) d [.ref 8, .int x] (encC tx gg (nt, ns, n2, n3, n4, n5, n6, n7, n8) tr wk pl ac sl si sd ++ tau) (some (.int (if x = 1 then n3 else n4))) (encC tx gg (nt, ns, n2, n3, n4, n5, n6, n7, n8) tr wk pl ac sl si sd ++ tau) := by
  refine zC.intro (by decide) (Nat.le_of_ble_eq_true rfl) rfl ?_
  refine zx_iload_n (pc := 0) dX5_bricks_0 rfl rfl ?_
  refine zx_iconst (pc := 1) (v := 1) dX5_bricks_1 (by decide) ?_
  refine zx_icmp_ne (pc := 2) (tgt := 12) dX5_bricks_2 (by decide) (fun h2 => ?_) (fun h2 => ?_)
  · refine zx_aload_n (pc := 12) dX5_bricks_12 rfl rfl ?_
    refine g8_4 (pc := 13) fl_X5_47 dX5_bricks_13 ?_
    exact zx_fi (pc := 16) dX5_bricks_16 rfl rfl (Nat.le_refl _) (Nat.le_refl _) (by first | (simp only [h2, reduceIte, not_true_eq_false, not_false_eq_true]; done) | (simp [h2]; done)) rfl
  · refine zx_aload_n (pc := 5) dX5_bricks_5 rfl rfl ?_
    refine g8_3 (pc := 6) fl_X5_44 dX5_bricks_6 ?_
    refine zx_goto (pc := 9) (tgt := 16) dX5_bricks_9 (by decide) ?_
    exact zx_fi (pc := 16) dX5_bricks_16 rfl rfl (Nat.le_refl _) (Nat.le_refl _) (by first | (simp only [h2, reduceIte, not_true_eq_false, not_false_eq_true]; done) | (simp [h2]; done)) rfl
set_option maxHeartbeats 4000000 in
theorem k_layCourse {d : Nat} {x : Int32} {tx : (Nat → Int32) × Int32} {gg : (Nat → Int32) × (Nat → Int32) × (Nat → Int32) × (Nat → Int32) × Int32 × Int32 × Int32} {nt : (Nat → Int32)} {ns : (Nat → Int32)} {n2 : Int32} {n3 : Int32} {n4 : Int32} {n5 : Int32} {n6 : Int32} {n7 : Int32} {n8 : Int32} {tr : (Nat → Int32) × (Nat → Int32) × Int32 × Int32 × Int32 × Int32 × Int32 × Int32 × Int32} {wk : (Nat → Int32) × Int32 × Int32 × Int32} {pl : (Nat → Int32) × Int32 × Int32 × Int32 × Int32 × Int32} {ac : (Nat → zStt) × Int32 × Int32} {sl : (Nat → zStt) × (Nat → Int32)} {si : (Nat → Int32) × (Nat → Int32) × (Nat → Int32) × Int32} {sd : Int64} {tau : List zCel}  : zCf yX5_layCourse cX5_layCourse 2 none (d + 3) [.ref 8, .int x] (encC tx gg (nt, ns, n2, n3, n4, n5, n6, n7, n8) tr wk pl ac sl si sd ++ tau) none (encC tx gg (nt, ns, n2, (if x = 1 then n3 - 2 else n3), (if x = 1 then n4 else n4 - 2), n5, (zWc n6 x), n7, n8) tr wk pl ac sl si sd ++ tau) := by
  refine zC.intro (by decide) (Nat.le_of_ble_eq_true rfl) rfl ?_
  refine zx_iload_n (pc := 0) dX5_layCourse_0 rfl rfl ?_
  refine zx_iconst (pc := 1) (v := 1) dX5_layCourse_1 (by decide) ?_
  refine zx_icmp_ne (pc := 2) (tgt := 18) dX5_layCourse_2 (by decide) (fun h2 => ?_) (fun h2 => ?_)
  · refine zx_aload_n (pc := 18) dX5_layCourse_18 rfl rfl ?_
    refine zx_dup (pc := 19) dX5_layCourse_19 rfl ?_
    refine g8_4 (pc := 20) fl_X5_47 dX5_layCourse_20 ?_
    refine zx_iconst (pc := 23) (v := 2) dX5_layCourse_23 (by decide) ?_
    refine zx_isub (pc := 24) dX5_layCourse_24 ?_
    refine u8_4 (pc := 25) fl_X5_47 dX5_layCourse_25 ?_
    refine zx_aload_n (pc := 28) dX5_layCourse_28 rfl rfl ?_
    refine zx_aload_n (pc := 29) dX5_layCourse_29 rfl rfl ?_
    refine g8_6 (pc := 30) fl_X5_20 dX5_layCourse_30 ?_
    refine zx_iload_n (pc := 33) dX5_layCourse_33 rfl rfl ?_
    refine zx_fS1 (pc := 34) (k_withCourse (d := d) ) cl_X5_76 dX5_layCourse_34 rfl rfl (by omega) (Nat.le_of_ble_eq_true rfl) (Nat.le_refl _) (Nat.le_refl _) ?_
    refine u8_6 (pc := 37) fl_X5_20 dX5_layCourse_37 ?_
    exact zx_fv (pc := 40) dX5_layCourse_40 rfl (Nat.le_refl _) (Nat.le_refl _) (by simp [h2])
  · refine zx_aload_n (pc := 5) dX5_layCourse_5 rfl rfl ?_
    refine zx_dup (pc := 6) dX5_layCourse_6 rfl ?_
    refine g8_3 (pc := 7) fl_X5_44 dX5_layCourse_7 ?_
    refine zx_iconst (pc := 10) (v := 2) dX5_layCourse_10 (by decide) ?_
    refine zx_isub (pc := 11) dX5_layCourse_11 ?_
    refine u8_3 (pc := 12) fl_X5_44 dX5_layCourse_12 ?_
    refine zx_goto (pc := 15) (tgt := 28) dX5_layCourse_15 (by decide) ?_
    refine zx_aload_n (pc := 28) dX5_layCourse_28 rfl rfl ?_
    refine zx_aload_n (pc := 29) dX5_layCourse_29 rfl rfl ?_
    refine g8_6 (pc := 30) fl_X5_20 dX5_layCourse_30 ?_
    refine zx_iload_n (pc := 33) dX5_layCourse_33 rfl rfl ?_
    refine zx_fS1 (pc := 34) (k_withCourse (d := d) ) cl_X5_76 dX5_layCourse_34 rfl rfl (by omega) (Nat.le_of_ble_eq_true rfl) (Nat.le_refl _) (Nat.le_refl _) ?_
    refine u8_6 (pc := 37) fl_X5_20 dX5_layCourse_37 ?_
    exact zx_fv (pc := 40) dX5_layCourse_40 rfl (Nat.le_refl _) (Nat.le_refl _) (by simp [h2])
set_option maxHeartbeats 4000000 in
theorem k_actsForget {d : Nat} {tx : (Nat → Int32) × Int32} {gg : (Nat → Int32) × (Nat → Int32) × (Nat → Int32) × (Nat → Int32) × Int32 × Int32 × Int32} {nw : (Nat → Int32) × (Nat → Int32) × Int32 × Int32 × Int32 × Int32 × Int32 × Int32 × Int32} {tr : (Nat → Int32) × (Nat → Int32) × Int32 × Int32 × Int32 × Int32 × Int32 × Int32 × Int32} {wk : (Nat → Int32) × Int32 × Int32 × Int32} {pl : (Nat → Int32) × Int32 × Int32 × Int32 × Int32 × Int32} {ab : (Nat → zStt)} {an : Int32} {az : Int32} {sl : (Nat → zStt) × (Nat → Int32)} {si : (Nat → Int32) × (Nat → Int32) × (Nat → Int32) × Int32} {sd : Int64} {tau : List zCel}  : zCf yX0_forgetAll cX0_forgetAll 1 none d [.ref 18] (encC tx gg nw tr wk pl (ab, an, az) sl si sd ++ tau) none (encC tx gg nw tr wk pl (ab, an, 0) sl si sd ++ tau) := by
  refine zC.intro (by decide) (Nat.le_of_ble_eq_true rfl) rfl ?_
  refine zx_aload_n (pc := 0) dX0_forgetAll_0 rfl rfl ?_
  refine zx_iconst (pc := 1) (v := 0) dX0_forgetAll_1 (by decide) ?_
  refine u18_2 (pc := 2) fl_X0_18 dX0_forgetAll_2 ?_
  exact zx_fv (pc := 5) dX0_forgetAll_5 rfl (Nat.le_refl _) (Nat.le_refl _) rfl
set_option maxHeartbeats 4000000 in
theorem k_remember {d : Nat} {n z : Nat} {tx : (Nat → Int32) × Int32} {gg : (Nat → Int32) × (Nat → Int32) × (Nat → Int32) × (Nat → Int32) × Int32 × Int32 × Int32} {nw : (Nat → Int32) × (Nat → Int32) × Int32 × Int32 × Int32 × Int32 × Int32 × Int32 × Int32} {tr : (Nat → Int32) × (Nat → Int32) × Int32 × Int32 × Int32 × Int32 × Int32 × Int32 × Int32} {wk : (Nat → Int32) × Int32 × Int32 × Int32} {pl : (Nat → Int32) × Int32 × Int32 × Int32 × Int32 × Int32} {ab : (Nat → zStt)} {sl : (Nat → zStt) × (Nat → Int32)} {si : (Nat → Int32) × (Nat → Int32) × (Nat → Int32) × Int32} {sd : Int64} {tau : List zCel} (hn : n < 14) (hz : z ≤ 14) : zCf yX0_remember cX0_remember 2 none (d + 2) [.ref 18, .ref 8] (encC tx gg nw tr wk pl (ab, (nI n), (nI z)) sl si sd ++ tau) none (encC tx gg nw tr wk pl ((va_up ab n (zcpS nw (ab n))), (nI ((n + 1) % 14)), (nI (min (z + 1) 14))) sl si sd ++ tau) := by
  refine zC.intro (by decide) (Nat.le_of_ble_eq_true rfl) rfl ?_
  refine zx_aload_n (pc := 0) dX0_remember_0 rfl rfl ?_
  refine zx_aload_n (pc := 1) dX0_remember_1 rfl rfl ?_
  refine g18_0 (pc := 2) fl_X0_11 dX0_remember_2 ?_
  refine zx_aload_n (pc := 5) dX0_remember_5 rfl rfl ?_
  refine g18_1 (pc := 6) fl_X0_22 dX0_remember_6 ?_
  refine zx_aald (pc := 9) p19 (show zix (nI n) 14 n from zix_n hn) (zB19 n hn) dX0_remember_9 ?_
  refine zx_fS0 (pc := 10) (k_copy_nB (d := d) hn) cl_X0_25 dX0_remember_10 rfl rfl (by omega) (Nat.le_of_ble_eq_true rfl) (Nat.le_refl _) (Nat.le_refl _) ?_
  refine zx_aload_n (pc := 13) dX0_remember_13 rfl rfl ?_
  refine zx_aload_n (pc := 14) dX0_remember_14 rfl rfl ?_
  refine g18_1 (pc := 15) fl_X0_22 dX0_remember_15 ?_
  refine zx_iconst (pc := 18) (v := 1) dX0_remember_18 (by decide) ?_
  refine zx_iadd (pc := 19) dX0_remember_19 ?_
  refine zx_bipush (pc := 20) (v := 14) dX0_remember_20 (by decide) ?_
  refine zx_irem (pc := 22) dX0_remember_22 (by decide) ?_
  refine u18_1 (pc := 23) fl_X0_22 dX0_remember_23 ?_
  refine zx_aload_n (pc := 26) dX0_remember_26 rfl rfl ?_
  refine zx_aload_n (pc := 27) dX0_remember_27 rfl rfl ?_
  refine g18_2 (pc := 28) fl_X0_18 dX0_remember_28 ?_
  refine zx_iconst (pc := 31) (v := 1) dX0_remember_31 (by decide) ?_
  refine zx_iadd (pc := 32) dX0_remember_32 ?_
  refine zx_bipush (pc := 33) (v := 14) dX0_remember_33 (by decide) ?_
  refine zx_mmin (pc := 35) (Nat.le_of_ble_eq_true rfl) (by omega) (Nat.le_refl _) (Nat.le_refl _) ml_X0_29 dX0_remember_35 ?_
  refine u18_2 (pc := 38) fl_X0_18 dX0_remember_38 ?_
  exact zx_fv (pc := 41) dX0_remember_41 rfl (Nat.le_refl _) (Nat.le_refl _) (by rw [zmin14 hz, nI_1, zrem (D := 14) (d := 14) rfl (by omega) (by decide) (by decide)])
set_option maxHeartbeats 4000000 in
theorem k_takeBack {d : Nat} {n z : Nat} {tx : (Nat → Int32) × Int32} {gg : (Nat → Int32) × (Nat → Int32) × (Nat → Int32) × (Nat → Int32) × Int32 × Int32 × Int32} {nw : (Nat → Int32) × (Nat → Int32) × Int32 × Int32 × Int32 × Int32 × Int32 × Int32 × Int32} {tr : (Nat → Int32) × (Nat → Int32) × Int32 × Int32 × Int32 × Int32 × Int32 × Int32 × Int32} {wk : (Nat → Int32) × Int32 × Int32 × Int32} {pl : (Nat → Int32) × Int32 × Int32 × Int32 × Int32 × Int32} {ab : (Nat → zStt)} {sl : (Nat → zStt) × (Nat → Int32)} {si : (Nat → Int32) × (Nat → Int32) × (Nat → Int32) × Int32} {sd : Int64} {tau : List zCel} (hn : n < 14) (hz : z < 14) : zCf yX0_takeBack cX0_takeBack 2 none (d + 2) [.ref 18, .ref 8] (encC tx gg nw tr wk pl (ab, (nI n), (nI (z + 1))) sl si sd ++ tau) none (encC tx gg (zcpS (ab ((n + 13) % 14)) nw) tr wk pl (ab, (nI ((n + 13) % 14)), (nI z)) sl si sd ++ tau) := by
  refine zC.intro (by decide) (Nat.le_of_ble_eq_true rfl) rfl ?_
  refine zx_aload_n (pc := 0) dX0_takeBack_0 rfl rfl ?_
  refine g18_2 (pc := 1) fl_X0_18 dX0_takeBack_1 ?_
  refine zx_if_le (pc := 4) (tgt := 46) dX0_takeBack_4 (by decide) (fun h4 => by first | exact absurd h4 (show ¬ nI (z + 1) ≤ 0 from nI_nle (by omega) (by omega)) | exact absurd (show ¬ nI (z + 1) ≤ 0 from nI_nle (by omega) (by omega)) h4) (fun h4 => ?_)
  refine zx_aload_n (pc := 7) dX0_takeBack_7 rfl rfl ?_
  refine zx_aload_n (pc := 8) dX0_takeBack_8 rfl rfl ?_
  refine g18_1 (pc := 9) fl_X0_22 dX0_takeBack_9 ?_
  refine zx_bipush (pc := 12) (v := 14) dX0_takeBack_12 (by decide) ?_
  refine zx_iadd (pc := 14) dX0_takeBack_14 ?_
  refine zx_iconst (pc := 15) (v := 1) dX0_takeBack_15 (by decide) ?_
  refine zx_isub (pc := 16) dX0_takeBack_16 ?_
  refine zx_bipush (pc := 17) (v := 14) dX0_takeBack_17 (by decide) ?_
  refine zx_irem (pc := 19) dX0_takeBack_19 (by decide) ?_
  refine zx_st (st' := [.int (nI ((n + 13) % 14)), .ref 18]) (by rw [show nI n + 14 - 1 = nI (n + 13) from by rw [show (14 : Int32) = nI 14 from rfl, nI_add, show (1 : Int32) = nI 1 from rfl, pk_sub (by omega), show n + 14 - 1 = n + 13 by omega], zrem (D := 14) (d := 14) rfl (by omega) (by decide) (by decide)]) ?_
  refine u18_1 (pc := 20) fl_X0_22 dX0_takeBack_20 ?_
  refine zx_aload_n (pc := 23) dX0_takeBack_23 rfl rfl ?_
  refine zx_dup (pc := 24) dX0_takeBack_24 rfl ?_
  refine g18_2 (pc := 25) fl_X0_18 dX0_takeBack_25 ?_
  refine zx_iconst (pc := 28) (v := 1) dX0_takeBack_28 (by decide) ?_
  refine zx_isub (pc := 29) dX0_takeBack_29 ?_
  refine zx_st (st' := [.int (nI z), .ref 18]) (by rw [nI_pred]) ?_
  refine u18_2 (pc := 30) fl_X0_18 dX0_takeBack_30 ?_
  refine zx_aload_n (pc := 33) dX0_takeBack_33 rfl rfl ?_
  refine g18_0 (pc := 34) fl_X0_11 dX0_takeBack_34 ?_
  refine zx_aload_n (pc := 37) dX0_takeBack_37 rfl rfl ?_
  refine g18_1 (pc := 38) fl_X0_22 dX0_takeBack_38 ?_
  refine zx_aald (pc := 41) p19 (show zix (nI ((n + 13) % 14)) 14 ((n + 13) % 14) from zix_n (Nat.mod_lt _ (by decide))) (zB19 _ (Nat.mod_lt _ (by decide))) dX0_takeBack_41 ?_
  refine zx_aload_n (pc := 42) dX0_takeBack_42 rfl rfl ?_
  refine zx_fS0 (pc := 43) (k_copy_Bn (d := d) (Nat.mod_lt _ (by decide))) cl_X0_25 dX0_takeBack_43 rfl rfl (by omega) (Nat.le_of_ble_eq_true rfl) (Nat.le_refl _) (Nat.le_refl _) ?_
  exact zx_fv (pc := 46) dX0_takeBack_46 rfl (Nat.le_refl _) (Nat.le_refl _) rfl
set_option maxHeartbeats 4000000 in
theorem k_slotsHas {d : Nat} {x : Int32} {tx : (Nat → Int32) × Int32} {gg : (Nat → Int32) × (Nat → Int32) × (Nat → Int32) × (Nat → Int32) × Int32 × Int32 × Int32} {nw : (Nat → Int32) × (Nat → Int32) × Int32 × Int32 × Int32 × Int32 × Int32 × Int32 × Int32} {tr : (Nat → Int32) × (Nat → Int32) × Int32 × Int32 × Int32 × Int32 × Int32 × Int32 × Int32} {wk : (Nat → Int32) × Int32 × Int32 × Int32} {pl : (Nat → Int32) × Int32 × Int32 × Int32 × Int32 × Int32} {ac : (Nat → zStt) × Int32 × Int32} {sl : (Nat → zStt) × (Nat → Int32)} {si : (Nat → Int32) × (Nat → Int32) × (Nat → Int32) × Int32} {sd : Int64} {tau : List zCel}  : zCf yX4_has cX4_has 2 (some .boolean) d [.ref 62, .int x] (encC tx gg nw tr wk pl ac sl si sd ++ tau) (some (.int (zHas 2 x))) (encC tx gg nw tr wk pl ac sl si sd ++ tau) := by
  refine zC.intro (by decide) (Nat.le_of_ble_eq_true rfl) rfl ?_
  refine zx_iload_n (pc := 0) dX4_has_0 rfl rfl ?_
  refine zx_if_lt (pc := 1) (tgt := 13) dX4_has_1 (by decide) (fun h1 => ?_) (fun h1 => ?_)
  · refine zx_iconst (pc := 13) (v := 0) dX4_has_13 (by decide) ?_
    exact zx_fi (pc := 14) dX4_has_14 rfl (by decide) (Nat.le_refl _) (Nat.le_refl _) (by first | (simp only [zHas, h1, reduceIte, not_true_eq_false, not_false_eq_true]; done) | (simp [zHas, h1]; done)) rfl
  · refine zx_iload_n (pc := 4) dX4_has_4 rfl rfl ?_
    refine zx_iconst (pc := 5) (v := 2) dX4_has_5 (by decide) ?_
    refine zx_icmp_ge (pc := 6) (tgt := 13) dX4_has_6 (by decide) (fun h6 => ?_) (fun h6 => ?_)
    · refine zx_iconst (pc := 13) (v := 0) dX4_has_13 (by decide) ?_
      exact zx_fi (pc := 14) dX4_has_14 rfl (by decide) (Nat.le_refl _) (Nat.le_refl _) (by first | (simp only [zHas, h1, h6, reduceIte, not_true_eq_false, not_false_eq_true]; done) | (simp [zHas, h1, h6]; done)) rfl
    · refine zx_iconst (pc := 9) (v := 1) dX4_has_9 (by decide) ?_
      refine zx_goto (pc := 10) (tgt := 14) dX4_has_10 (by decide) ?_
      exact zx_fi (pc := 14) dX4_has_14 rfl (by decide) (Nat.le_refl _) (Nat.le_refl _) (by first | (simp only [zHas, h1, h6, reduceIte, not_true_eq_false, not_false_eq_true]; done) | (simp [zHas, h1, h6]; done)) rfl
set_option maxHeartbeats 4000000 in
theorem k_slotsForget {d : Nat} {tx : (Nat → Int32) × Int32} {gg : (Nat → Int32) × (Nat → Int32) × (Nat → Int32) × (Nat → Int32) × Int32 × Int32 × Int32} {nw : (Nat → Int32) × (Nat → Int32) × Int32 × Int32 × Int32 × Int32 × Int32 × Int32 × Int32} {tr : (Nat → Int32) × (Nat → Int32) × Int32 × Int32 × Int32 × Int32 × Int32 × Int32 × Int32} {wk : (Nat → Int32) × Int32 × Int32 × Int32} {pl : (Nat → Int32) × Int32 × Int32 × Int32 × Int32 × Int32} {ac : (Nat → zStt) × Int32 × Int32} {sk : (Nat → zStt)} {su : (Nat → Int32)} {si : (Nat → Int32) × (Nat → Int32) × (Nat → Int32) × Int32} {sd : Int64} {tau : List zCel}  : zCf yX4_forgetAll cX4_forgetAll 2 none d [.ref 62] (encC tx gg nw tr wk pl ac (sk, su) si sd ++ tau) none (encC tx gg nw tr wk pl ac (sk, (upd (upd su 0 0) 1 0)) si sd ++ tau) := by
  refine zC.intro (by decide) (Nat.le_of_ble_eq_true rfl) rfl ?_
  refine zx_iconst (pc := 0) (v := 0) dX4_forgetAll_0 (by decide) ?_
  refine st_1_2 (pc := 1) dX4_forgetAll_1 rfl ?_
  refine zx_iload_n (pc := 2) dX4_forgetAll_2 rfl rfl ?_
  refine zx_iconst (pc := 3) (v := 2) dX4_forgetAll_3 (by decide) ?_
  refine zx_icmp_ge (pc := 4) (tgt := 20) dX4_forgetAll_4 (by decide) (fun h4 => absurd h4 (by decide)) (fun _ => ?_)
  refine zx_aload_n (pc := 7) dX4_forgetAll_7 rfl rfl ?_
  refine g62_1 (pc := 8) fl_X4_17 dX4_forgetAll_8 ?_
  refine zx_iload_n (pc := 11) dX4_forgetAll_11 rfl rfl ?_
  refine zx_iconst (pc := 12) (v := 0) dX4_forgetAll_12 (by decide) ?_
  refine s64 (pc := 13) (y := 0) (zix_k (j := 0) (by decide) (by decide)) (by decide) dX4_forgetAll_13 ?_
  refine ic_1_2_1 (pc := 14) dX4_forgetAll_14 rfl ?_
  refine zx_goto (pc := 17) (tgt := 2) dX4_forgetAll_17 (by decide) ?_
  refine zx_iload_n (pc := 2) dX4_forgetAll_2 rfl rfl ?_
  refine zx_iconst (pc := 3) (v := 2) dX4_forgetAll_3 (by decide) ?_
  refine zx_icmp_ge (pc := 4) (tgt := 20) dX4_forgetAll_4 (by decide) (fun h4 => absurd h4 (by decide)) (fun _ => ?_)
  refine zx_aload_n (pc := 7) dX4_forgetAll_7 rfl rfl ?_
  refine g62_1 (pc := 8) fl_X4_17 dX4_forgetAll_8 ?_
  refine zx_iload_n (pc := 11) dX4_forgetAll_11 rfl rfl ?_
  refine zx_iconst (pc := 12) (v := 0) dX4_forgetAll_12 (by decide) ?_
  refine s64 (pc := 13) (y := 0) (zix_k (j := 1) (by decide) (by decide)) (by decide) dX4_forgetAll_13 ?_
  refine ic_1_2_1 (pc := 14) dX4_forgetAll_14 rfl ?_
  refine zx_goto (pc := 17) (tgt := 2) dX4_forgetAll_17 (by decide) ?_
  refine zx_iload_n (pc := 2) dX4_forgetAll_2 rfl rfl ?_
  refine zx_iconst (pc := 3) (v := 2) dX4_forgetAll_3 (by decide) ?_
  refine zx_icmp_ge (pc := 4) (tgt := 20) dX4_forgetAll_4 (by decide) (fun _ => ?_) (fun h4 => absurd h4 (by decide))
  exact zx_fv (pc := 20) dX4_forgetAll_20 rfl (Nat.le_refl _) (Nat.le_refl _) rfl
set_option maxHeartbeats 4000000 in
theorem k_store {d : Nat} {k : Nat} {tx : (Nat → Int32) × Int32} {gg : (Nat → Int32) × (Nat → Int32) × (Nat → Int32) × (Nat → Int32) × Int32 × Int32 × Int32} {nw : (Nat → Int32) × (Nat → Int32) × Int32 × Int32 × Int32 × Int32 × Int32 × Int32 × Int32} {tr : (Nat → Int32) × (Nat → Int32) × Int32 × Int32 × Int32 × Int32 × Int32 × Int32 × Int32} {wk : (Nat → Int32) × Int32 × Int32 × Int32} {pl : (Nat → Int32) × Int32 × Int32 × Int32 × Int32 × Int32} {ac : (Nat → zStt) × Int32 × Int32} {sk : (Nat → zStt)} {su : (Nat → Int32)} {si : (Nat → Int32) × (Nat → Int32) × (Nat → Int32) × Int32} {sd : Int64} {tau : List zCel} (hk : k < 2) : zCf yX4_store cX4_store 3 none (d + 2) [.ref 62, .int (nI k), .ref 8] (encC tx gg nw tr wk pl ac (sk, su) si sd ++ tau) none (encC tx gg nw tr wk pl ac ((va_up sk k (zcpS nw (sk k))), (upd su k 1)) si sd ++ tau) := by
  refine zC.intro (by decide) (Nat.le_of_ble_eq_true rfl) rfl ?_
  refine zx_aload_n (pc := 0) dX4_store_0 rfl rfl ?_
  refine zx_iload_n (pc := 1) dX4_store_1 rfl rfl ?_
  refine zx_fV1 (pc := 2) (k_slotsHas (d := d + 1) ) cl_X4_22 p62 rfl dX4_store_2 rfl rfl (by omega) (Nat.le_of_ble_eq_true rfl) (Nat.le_refl _) (Nat.le_refl _) ?_
  refine zx_if_eq (pc := 5) (tgt := 25) dX4_store_5 (by decide) (fun h5 => by first | exact absurd h5 (show ¬ zHas (nI 2) (nI k) = 0 by rw [zHas_1 hk (by decide)]; decide) | exact absurd (show ¬ zHas (nI 2) (nI k) = 0 by rw [zHas_1 hk (by decide)]; decide) h5) (fun h5 => ?_)
  refine zx_aload_n (pc := 8) dX4_store_8 rfl rfl ?_
  refine zx_aload_n (pc := 9) dX4_store_9 rfl rfl ?_
  refine g62_0 (pc := 10) fl_X4_11 dX4_store_10 ?_
  refine zx_iload_n (pc := 13) dX4_store_13 rfl rfl ?_
  refine zx_aald (pc := 14) p63 (show zix (nI k) 2 k from zix_n hk) (zB63 k hk) dX4_store_14 ?_
  refine zx_fS0 (pc := 15) (k_copy_nK (d := d) hk) cl_X4_26 dX4_store_15 rfl rfl (by omega) (Nat.le_of_ble_eq_true rfl) (Nat.le_refl _) (Nat.le_refl _) ?_
  refine zx_aload_n (pc := 18) dX4_store_18 rfl rfl ?_
  refine g62_1 (pc := 19) fl_X4_17 dX4_store_19 ?_
  refine zx_iload_n (pc := 22) dX4_store_22 rfl rfl ?_
  refine zx_iconst (pc := 23) (v := 1) dX4_store_23 (by decide) ?_
  refine s64 (pc := 24) (y := 1) (zix_n hk) (by decide) dX4_store_24 ?_
  exact zx_fv (pc := 25) dX4_store_25 rfl (Nat.le_refl _) (Nat.le_refl _) rfl
set_option maxHeartbeats 4000000 in
theorem k_bringBack {d : Nat} {k : Nat} {tx : (Nat → Int32) × Int32} {gg : (Nat → Int32) × (Nat → Int32) × (Nat → Int32) × (Nat → Int32) × Int32 × Int32 × Int32} {nw : (Nat → Int32) × (Nat → Int32) × Int32 × Int32 × Int32 × Int32 × Int32 × Int32 × Int32} {tr : (Nat → Int32) × (Nat → Int32) × Int32 × Int32 × Int32 × Int32 × Int32 × Int32 × Int32} {wk : (Nat → Int32) × Int32 × Int32 × Int32} {pl : (Nat → Int32) × Int32 × Int32 × Int32 × Int32 × Int32} {ac : (Nat → zStt) × Int32 × Int32} {sk : (Nat → zStt)} {su : (Nat → Int32)} {si : (Nat → Int32) × (Nat → Int32) × (Nat → Int32) × Int32} {sd : Int64} {tau : List zCel} (hk : k < 2) (hu : ¬ su k = 0) : zCf yX4_bringBack cX4_bringBack 3 none (d + 2) [.ref 62, .int (nI k), .ref 8] (encC tx gg nw tr wk pl ac (sk, su) si sd ++ tau) none (encC tx gg (zcpS (sk k) nw) tr wk pl ac (sk, su) si sd ++ tau) := by
  refine zC.intro (by decide) (Nat.le_of_ble_eq_true rfl) rfl ?_
  refine zx_aload_n (pc := 0) dX4_bringBack_0 rfl rfl ?_
  refine zx_iload_n (pc := 1) dX4_bringBack_1 rfl rfl ?_
  refine zx_fV1 (pc := 2) (k_slotsHas (d := d + 1) ) cl_X4_22 p62 rfl dX4_bringBack_2 rfl rfl (by omega) (Nat.le_of_ble_eq_true rfl) (Nat.le_refl _) (Nat.le_refl _) ?_
  refine zx_if_eq (pc := 5) (tgt := 27) dX4_bringBack_5 (by decide) (fun h5 => by first | exact absurd h5 (show ¬ zHas (nI 2) (nI k) = 0 by rw [zHas_1 hk (by decide)]; decide) | exact absurd (show ¬ zHas (nI 2) (nI k) = 0 by rw [zHas_1 hk (by decide)]; decide) h5) (fun h5 => ?_)
  refine zx_aload_n (pc := 8) dX4_bringBack_8 rfl rfl ?_
  refine g62_1 (pc := 9) fl_X4_17 dX4_bringBack_9 ?_
  refine zx_iload_n (pc := 12) dX4_bringBack_12 rfl rfl ?_
  refine a64 (pc := 13) (zix_n hk) dX4_bringBack_13 ?_
  refine zx_if_eq (pc := 14) (tgt := 27) dX4_bringBack_14 (by decide) (fun h14 => by first | exact absurd h14 hu | exact absurd hu h14) (fun h14 => ?_)
  refine zx_aload_n (pc := 17) dX4_bringBack_17 rfl rfl ?_
  refine g62_0 (pc := 18) fl_X4_11 dX4_bringBack_18 ?_
  refine zx_iload_n (pc := 21) dX4_bringBack_21 rfl rfl ?_
  refine zx_aald (pc := 22) p63 (show zix (nI k) 2 k from zix_n hk) (zB63 k hk) dX4_bringBack_22 ?_
  refine zx_aload_n (pc := 23) dX4_bringBack_23 rfl rfl ?_
  refine zx_fS0 (pc := 24) (k_copy_Kn (d := d) hk) cl_X4_26 dX4_bringBack_24 rfl rfl (by omega) (Nat.le_of_ble_eq_true rfl) (Nat.le_refl _) (Nat.le_refl _) ?_
  exact zx_fv (pc := 27) dX4_bringBack_27 rfl (Nat.le_refl _) (Nat.le_refl _) rfl
set_option maxHeartbeats 4000000 in
theorem k_add_y {d : Nat} {S : Nat} {x y z : Int32} {tx : (Nat → Int32) × Int32} {gg : (Nat → Int32) × (Nat → Int32) × (Nat → Int32) × (Nat → Int32) × Int32 × Int32 × Int32} {nw : (Nat → Int32) × (Nat → Int32) × Int32 × Int32 × Int32 × Int32 × Int32 × Int32 × Int32} {tr : (Nat → Int32) × (Nat → Int32) × Int32 × Int32 × Int32 × Int32 × Int32 × Int32 × Int32} {wk : (Nat → Int32) × Int32 × Int32 × Int32} {pl : (Nat → Int32) × Int32 × Int32 × Int32 × Int32 × Int32} {ac : (Nat → zStt) × Int32 × Int32} {sl : (Nat → zStt) × (Nat → Int32)} {sr : (Nat → Int32)} {so : (Nat → Int32)} {sh : (Nat → Int32)} {sd : Int64} {tau : List zCel} (hS : S < 6) : zCf yX3_add cX3_add 4 (some .boolean) d [.ref 71, .int x, .int y, .int z] (encC tx gg nw tr wk pl ac sl (sr, so, sh, (nI S)) sd ++ tau) (some (.int (1))) (encC tx gg nw tr wk pl ac sl ((upd sr S x), (upd so S y), (upd sh S z), (nI (S + 1))) sd ++ tau) := by
  refine zC.intro (by decide) (Nat.le_of_ble_eq_true rfl) rfl ?_
  refine zx_aload_n (pc := 0) dX3_add_0 rfl rfl ?_
  refine g71_3 (pc := 1) fl_X3_21 dX3_add_1 ?_
  refine zx_bipush (pc := 4) (v := 6) dX3_add_4 (by decide) ?_
  refine zx_icmp_lt (pc := 6) (tgt := 11) dX3_add_6 (by decide) (fun h6 => ?_) (fun h6 => by first | exact absurd h6 (show nI S < 6 from nI_lt (a := S) (b := 6) hS (by decide)) | exact absurd (show nI S < 6 from nI_lt (a := S) (b := 6) hS (by decide)) h6)
  refine zx_aload_n (pc := 11) dX3_add_11 rfl rfl ?_
  refine g71_0 (pc := 12) fl_X3_9 dX3_add_12 ?_
  refine zx_aload_n (pc := 15) dX3_add_15 rfl rfl ?_
  refine g71_3 (pc := 16) fl_X3_21 dX3_add_16 ?_
  refine zx_iload_n (pc := 19) dX3_add_19 rfl rfl ?_
  refine s72 (pc := 20) (zix_n (by omega)) dX3_add_20 ?_
  refine zx_aload_n (pc := 21) dX3_add_21 rfl rfl ?_
  refine g71_1 (pc := 22) fl_X3_15 dX3_add_22 ?_
  refine zx_aload_n (pc := 25) dX3_add_25 rfl rfl ?_
  refine g71_3 (pc := 26) fl_X3_21 dX3_add_26 ?_
  refine zx_iload_n (pc := 29) dX3_add_29 rfl rfl ?_
  refine s73 (pc := 30) (zix_n (by omega)) dX3_add_30 ?_
  refine zx_aload_n (pc := 31) dX3_add_31 rfl rfl ?_
  refine g71_2 (pc := 32) fl_X3_18 dX3_add_32 ?_
  refine zx_aload_n (pc := 35) dX3_add_35 rfl rfl ?_
  refine g71_3 (pc := 36) fl_X3_21 dX3_add_36 ?_
  refine zx_iload_n (pc := 39) dX3_add_39 rfl rfl ?_
  refine s74 (pc := 40) (zix_n (by omega)) dX3_add_40 ?_
  refine zx_aload_n (pc := 41) dX3_add_41 rfl rfl ?_
  refine zx_dup (pc := 42) dX3_add_42 rfl ?_
  refine g71_3 (pc := 43) fl_X3_21 dX3_add_43 ?_
  refine zx_iconst (pc := 46) (v := 1) dX3_add_46 (by decide) ?_
  refine zx_iadd (pc := 47) dX3_add_47 ?_
  refine u71_3 (pc := 48) fl_X3_21 dX3_add_48 ?_
  refine zx_iconst (pc := 51) (v := 1) dX3_add_51 (by decide) ?_
  exact zx_fi (pc := 52) dX3_add_52 rfl (by decide) (Nat.le_refl _) (Nat.le_refl _) rfl (by rw [nI_1])
set_option maxHeartbeats 4000000 in
theorem k_add_n {d : Nat} {x y z : Int32} {tx : (Nat → Int32) × Int32} {gg : (Nat → Int32) × (Nat → Int32) × (Nat → Int32) × (Nat → Int32) × Int32 × Int32 × Int32} {nw : (Nat → Int32) × (Nat → Int32) × Int32 × Int32 × Int32 × Int32 × Int32 × Int32 × Int32} {tr : (Nat → Int32) × (Nat → Int32) × Int32 × Int32 × Int32 × Int32 × Int32 × Int32 × Int32} {wk : (Nat → Int32) × Int32 × Int32 × Int32} {pl : (Nat → Int32) × Int32 × Int32 × Int32 × Int32 × Int32} {ac : (Nat → zStt) × Int32 × Int32} {sl : (Nat → zStt) × (Nat → Int32)} {sr : (Nat → Int32)} {so : (Nat → Int32)} {sh : (Nat → Int32)} {sd : Int64} {tau : List zCel}  : zCf yX3_add cX3_add 4 (some .boolean) d [.ref 71, .int x, .int y, .int z] (encC tx gg nw tr wk pl ac sl (sr, so, sh, (nI 6)) sd ++ tau) (some (.int (0))) (encC tx gg nw tr wk pl ac sl (sr, so, sh, (nI 6)) sd ++ tau) := by
  refine zC.intro (by decide) (Nat.le_of_ble_eq_true rfl) rfl ?_
  refine zx_aload_n (pc := 0) dX3_add_0 rfl rfl ?_
  refine g71_3 (pc := 1) fl_X3_21 dX3_add_1 ?_
  refine zx_bipush (pc := 4) (v := 6) dX3_add_4 (by decide) ?_
  refine zx_icmp_lt (pc := 6) (tgt := 11) dX3_add_6 (by decide) (fun h6 => by first | exact absurd h6 (show ¬ nI 6 < 6 by decide) | exact absurd (show ¬ nI 6 < 6 by decide) h6) (fun h6 => ?_)
  refine zx_iconst (pc := 9) (v := 0) dX3_add_9 (by decide) ?_
  exact zx_fi (pc := 10) dX3_add_10 rfl (by decide) (Nat.le_refl _) (Nat.le_refl _) rfl rfl
set_option maxHeartbeats 4000000 in
theorem lp_agree {d n0 S : Nat} {w v : Int32} {tx : (Nat → Int32) × Int32} {gg : (Nat → Int32) × (Nat → Int32) × (Nat → Int32) × (Nat → Int32) × Int32 × Int32 × Int32} {nw : (Nat → Int32) × (Nat → Int32) × Int32 × Int32 × Int32 × Int32 × Int32 × Int32 × Int32} {tr : (Nat → Int32) × (Nat → Int32) × Int32 × Int32 × Int32 × Int32 × Int32 × Int32 × Int32} {wk : (Nat → Int32) × Int32 × Int32 × Int32} {pl : (Nat → Int32) × Int32 × Int32 × Int32 × Int32 × Int32} {ac : (Nat → zStt) × Int32 × Int32} {sl : (Nat → zStt) × (Nat → Int32)} {sr : (Nat → Int32)} {so : (Nat → Int32)} {sh : (Nat → Int32)} {sd : Int64} {tau : List zCel} (hS : S ≤ 6) (hsr : ∀ i, i < S → ∃ R : Nat, R ≤ 3 ∧ sr i = nI R) : ∀ k i : Nat, i + k = S → v = zAg sr so sh S w k → ∀ o3 : Option Value, znl [some (.ref 71), some (.int w), some (.int (nI i)), o3] 3 = true → zX RX3 cX3_agreeWith 4 (some .boolean) "agreeWith" none (d + 2) n0 0 0 0 0 (fun r s => r = some (.int v) ∧ s = encC tx gg nw tr wk pl ac sl (sr, so, sh, (nI S)) sd ++ tau) 2 [some (.ref 71), some (.int w), some (.int (nI i)), o3] [] (encC tx gg nw tr wk pl ac sl (sr, so, sh, (nI S)) sd ++ tau) := by
  intro k
  induction k with
  | zero =>
    intro i hi hv o3 _
    obtain rfl : i = S := by omega
    refine zx_iload_n (pc := 2) dX3_agreeWith_2 rfl rfl ?_
    refine zx_aload_n (pc := 3) dX3_agreeWith_3 rfl rfl ?_
    refine g71_3 (pc := 4) fl_X3_21 dX3_agreeWith_4 ?_
    refine zx_icmp_ge (pc := 7) (tgt := 48) dX3_agreeWith_7 (by decide) (fun h7 => ?_) (fun h7 => by first | exact absurd h7 (show nI i ≤ nI i from Int32.le_refl _) | exact absurd (show nI i ≤ nI i from Int32.le_refl _) h7)
    refine zx_iconst (pc := 48) (v := 1) dX3_agreeWith_48 (by decide) ?_
    exact zx_fi (pc := 49) dX3_agreeWith_49 rfl (by decide) (Nat.le_refl _) (Nat.le_refl _) (by rw [hv]; rfl) rfl
  | succ k ih =>
    intro i hi hv o3 ho3
    have e0 : S - (k + 1) = i := by omega
    obtain ⟨R, hR, eR⟩ := hsr i (by omega)
    have eC : (sr i).toNatClampNeg = R := by rw [eR]; exact nI_clamp (by omega)
    refine zx_iload_n (pc := 2) dX3_agreeWith_2 rfl rfl ?_
    refine zx_aload_n (pc := 3) dX3_agreeWith_3 rfl rfl ?_
    refine g71_3 (pc := 4) fl_X3_21 dX3_agreeWith_4 ?_
    refine zx_icmp_ge (pc := 7) (tgt := 48) dX3_agreeWith_7 (by decide) (fun h7 => by first | exact absurd h7 (nI_ge (show i < S by omega) (by omega)) | exact absurd (nI_ge (show i < S by omega) (by omega)) h7) (fun h7 => ?_)
    refine zx_iload_n (pc := 10) dX3_agreeWith_10 rfl rfl ?_
    refine zx_aload_n (pc := 11) dX3_agreeWith_11 rfl rfl ?_
    refine g71_0 (pc := 12) fl_X3_9 dX3_agreeWith_12 ?_
    refine zx_iload_n (pc := 15) dX3_agreeWith_15 rfl rfl ?_
    refine a72 (pc := 16) (zix_n (by omega)) dX3_agreeWith_16 ?_
    refine zx_st (st' := [.int (nI R), .int w]) (by rw [eR]) ?_
    refine zx_fS1 (pc := 17) (k_behindRains (d := d) (by omega)) cl_X3_25 dX3_agreeWith_17 rfl rfl (by omega) (Nat.le_of_ble_eq_true rfl) (Nat.le_refl _) (Nat.le_refl _) ?_
    refine st_3_4 (pc := 20) dX3_agreeWith_20 rfl ?_
    refine zx_iload_n (pc := 21) dX3_agreeWith_21 rfl rfl ?_
    refine zx_aload_n (pc := 22) dX3_agreeWith_22 rfl rfl ?_
    refine g71_1 (pc := 23) fl_X3_15 dX3_agreeWith_23 ?_
    refine zx_iload_n (pc := 26) dX3_agreeWith_26 rfl rfl ?_
    refine a73 (pc := 27) (zix_n (by omega)) dX3_agreeWith_27 ?_
    refine zx_fS1 (pc := 28) (k_courseAt (d := d) ) cl_X3_31 dX3_agreeWith_28 rfl rfl (by omega) (Nat.le_of_ble_eq_true rfl) (Nat.le_refl _) (Nat.le_refl _) ?_
    refine zx_aload_n (pc := 31) dX3_agreeWith_31 rfl rfl ?_
    refine g71_2 (pc := 32) fl_X3_18 dX3_agreeWith_32 ?_
    refine zx_iload_n (pc := 35) dX3_agreeWith_35 rfl rfl ?_
    refine a74 (pc := 36) (zix_n (by omega)) dX3_agreeWith_36 ?_
    refine zx_icmp_eq (pc := 37) (tgt := 42) dX3_agreeWith_37 (by decide) (fun h37 => ?_) (fun h37 => ?_)
    · refine ic_2_4_1 (pc := 42) dX3_agreeWith_42 rfl ?_
      refine zx_goto (pc := 45) (tgt := 2) dX3_agreeWith_45 (by decide) ?_
      rw [nI_1]
      exact ih (i + 1) (by omega) (by rw [hv, zAg, e0, eC, if_pos h37]) _ rfl
    · refine zx_iconst (pc := 40) (v := 0) dX3_agreeWith_40 (by decide) ?_
      exact zx_fi (pc := 41) dX3_agreeWith_41 rfl (by decide) (Nat.le_refl _) (Nat.le_refl _) (by rw [hv, zAg, e0, eC, if_neg h37]) rfl
set_option maxHeartbeats 4000000 in
theorem k_agree {d : Nat} {S : Nat} {w : Int32} {tx : (Nat → Int32) × Int32} {gg : (Nat → Int32) × (Nat → Int32) × (Nat → Int32) × (Nat → Int32) × Int32 × Int32 × Int32} {nw : (Nat → Int32) × (Nat → Int32) × Int32 × Int32 × Int32 × Int32 × Int32 × Int32 × Int32} {tr : (Nat → Int32) × (Nat → Int32) × Int32 × Int32 × Int32 × Int32 × Int32 × Int32 × Int32} {wk : (Nat → Int32) × Int32 × Int32 × Int32} {pl : (Nat → Int32) × Int32 × Int32 × Int32 × Int32 × Int32} {ac : (Nat → zStt) × Int32 × Int32} {sl : (Nat → zStt) × (Nat → Int32)} {sr : (Nat → Int32)} {so : (Nat → Int32)} {sh : (Nat → Int32)} {sd : Int64} {tau : List zCel} (hS : S ≤ 6) (hsr : ∀ i, i < S → ∃ R : Nat, R ≤ 3 ∧ sr i = nI R) : zCf yX3_agreeWith cX3_agreeWith 4 (some .boolean) (d + 2) [.ref 71, .int w] (encC tx gg nw tr wk pl ac sl (sr, so, sh, (nI S)) sd ++ tau) (some (.int (zAg sr so sh S w S))) (encC tx gg nw tr wk pl ac sl (sr, so, sh, (nI S)) sd ++ tau) := by
  refine zC.intro (by decide) (Nat.le_of_ble_eq_true rfl) rfl ?_
  refine zx_iconst (pc := 0) (v := 0) dX3_agreeWith_0 (by decide) ?_
  refine st_2_4 (pc := 1) dX3_agreeWith_1 rfl ?_
  exact lp_agree hS hsr S 0 (by omega) rfl _ rfl
set_option maxHeartbeats 4000000 in
theorem k_addHand {d : Nat} {h : Nat} {x y : Int32} {tx : (Nat → Int32) × Int32} {gs : (Nat → Int32)} {gk : (Nat → Int32)} {gf : (Nat → Int32)} {ga : (Nat → Int32)} {gd : Int32} {gc : Int32} {nw : (Nat → Int32) × (Nat → Int32) × Int32 × Int32 × Int32 × Int32 × Int32 × Int32 × Int32} {tr : (Nat → Int32) × (Nat → Int32) × Int32 × Int32 × Int32 × Int32 × Int32 × Int32 × Int32} {wk : (Nat → Int32) × Int32 × Int32 × Int32} {pl : (Nat → Int32) × Int32 × Int32 × Int32 × Int32 × Int32} {ac : (Nat → zStt) × Int32 × Int32} {sl : (Nat → zStt) × (Nat → Int32)} {si : (Nat → Int32) × (Nat → Int32) × (Nat → Int32) × Int32} {sd : Int64} {tau : List zCel} (hh : h < 5) : zCf yX1_addHand cX1_addHand 3 none d [.ref 3, .int x, .int y] (encC tx (gs, gk, gf, ga, (nI h), gd, gc) nw tr wk pl ac sl si sd ++ tau) none (encC tx ((upd gs h x), (upd gk h y), gf, ga, (nI (h + 1)), gd, gc) nw tr wk pl ac sl si sd ++ tau) := by
  refine zC.intro (by decide) (Nat.le_of_ble_eq_true rfl) rfl ?_
  refine zx_aload_n (pc := 0) dX1_addHand_0 rfl rfl ?_
  refine g3_4 (pc := 1) fl_X1_24 dX1_addHand_1 ?_
  refine zx_iconst (pc := 4) (v := 5) dX1_addHand_4 (by decide) ?_
  refine zx_icmp_ge (pc := 5) (tgt := 38) dX1_addHand_5 (by decide) (fun h5 => by first | exact absurd h5 (zle5 hh) | exact absurd (zle5 hh) h5) (fun h5 => ?_)
  refine zx_aload_n (pc := 8) dX1_addHand_8 rfl rfl ?_
  refine g3_0 (pc := 9) fl_X1_9 dX1_addHand_9 ?_
  refine zx_aload_n (pc := 12) dX1_addHand_12 rfl rfl ?_
  refine g3_4 (pc := 13) fl_X1_24 dX1_addHand_13 ?_
  refine zx_iload_n (pc := 16) dX1_addHand_16 rfl rfl ?_
  refine s4 (pc := 17) (zix_n hh) dX1_addHand_17 ?_
  refine zx_aload_n (pc := 18) dX1_addHand_18 rfl rfl ?_
  refine g3_1 (pc := 19) fl_X1_15 dX1_addHand_19 ?_
  refine zx_aload_n (pc := 22) dX1_addHand_22 rfl rfl ?_
  refine g3_4 (pc := 23) fl_X1_24 dX1_addHand_23 ?_
  refine zx_iload_n (pc := 26) dX1_addHand_26 rfl rfl ?_
  refine s5 (pc := 27) (zix_n hh) dX1_addHand_27 ?_
  refine zx_aload_n (pc := 28) dX1_addHand_28 rfl rfl ?_
  refine zx_dup (pc := 29) dX1_addHand_29 rfl ?_
  refine g3_4 (pc := 30) fl_X1_24 dX1_addHand_30 ?_
  refine zx_iconst (pc := 33) (v := 1) dX1_addHand_33 (by decide) ?_
  refine zx_iadd (pc := 34) dX1_addHand_34 ?_
  refine u3_4 (pc := 35) fl_X1_24 dX1_addHand_35 ?_
  exact zx_fv (pc := 38) dX1_addHand_38 rfl (Nat.le_refl _) (Nat.le_refl _) (by rw [nI_1])
set_option maxHeartbeats 4000000 in
theorem k_addField {d : Nat} {h : Nat} {x y : Int32} {tx : (Nat → Int32) × Int32} {gs : (Nat → Int32)} {gk : (Nat → Int32)} {gf : (Nat → Int32)} {ga : (Nat → Int32)} {gh : Int32} {gc : Int32} {nw : (Nat → Int32) × (Nat → Int32) × Int32 × Int32 × Int32 × Int32 × Int32 × Int32 × Int32} {tr : (Nat → Int32) × (Nat → Int32) × Int32 × Int32 × Int32 × Int32 × Int32 × Int32 × Int32} {wk : (Nat → Int32) × Int32 × Int32 × Int32} {pl : (Nat → Int32) × Int32 × Int32 × Int32 × Int32 × Int32} {ac : (Nat → zStt) × Int32 × Int32} {sl : (Nat → zStt) × (Nat → Int32)} {si : (Nat → Int32) × (Nat → Int32) × (Nat → Int32) × Int32} {sd : Int64} {tau : List zCel} (hh : h < 3) : zCf yX1_addField cX1_addField 3 none d [.ref 3, .int x, .int y] (encC tx (gs, gk, gf, ga, gh, (nI h), gc) nw tr wk pl ac sl si sd ++ tau) none (encC tx (gs, gk, (upd gf h x), (upd ga h y), gh, (nI (h + 1)), gc) nw tr wk pl ac sl si sd ++ tau) := by
  refine zC.intro (by decide) (Nat.le_of_ble_eq_true rfl) rfl ?_
  refine zx_aload_n (pc := 0) dX1_addField_0 rfl rfl ?_
  refine g3_5 (pc := 1) fl_X1_28 dX1_addField_1 ?_
  refine zx_iconst (pc := 4) (v := 3) dX1_addField_4 (by decide) ?_
  refine zx_icmp_ge (pc := 5) (tgt := 38) dX1_addField_5 (by decide) (fun h5 => by first | exact absurd h5 (show ¬ (3 : Int32) ≤ nI h from nI_ge (a := h) (b := 3) hh (by decide)) | exact absurd (show ¬ (3 : Int32) ≤ nI h from nI_ge (a := h) (b := 3) hh (by decide)) h5) (fun h5 => ?_)
  refine zx_aload_n (pc := 8) dX1_addField_8 rfl rfl ?_
  refine g3_2 (pc := 9) fl_X1_18 dX1_addField_9 ?_
  refine zx_aload_n (pc := 12) dX1_addField_12 rfl rfl ?_
  refine g3_5 (pc := 13) fl_X1_28 dX1_addField_13 ?_
  refine zx_iload_n (pc := 16) dX1_addField_16 rfl rfl ?_
  refine s6 (pc := 17) (zix_n hh) dX1_addField_17 ?_
  refine zx_aload_n (pc := 18) dX1_addField_18 rfl rfl ?_
  refine g3_3 (pc := 19) fl_X1_21 dX1_addField_19 ?_
  refine zx_aload_n (pc := 22) dX1_addField_22 rfl rfl ?_
  refine g3_5 (pc := 23) fl_X1_28 dX1_addField_23 ?_
  refine zx_iload_n (pc := 26) dX1_addField_26 rfl rfl ?_
  refine s7 (pc := 27) (zix_n hh) dX1_addField_27 ?_
  refine zx_aload_n (pc := 28) dX1_addField_28 rfl rfl ?_
  refine zx_dup (pc := 29) dX1_addField_29 rfl ?_
  refine g3_5 (pc := 30) fl_X1_28 dX1_addField_30 ?_
  refine zx_iconst (pc := 33) (v := 1) dX1_addField_33 (by decide) ?_
  refine zx_iadd (pc := 34) dX1_addField_34 ?_
  refine u3_5 (pc := 35) fl_X1_28 dX1_addField_35 ?_
  exact zx_fv (pc := 38) dX1_addField_38 rfl (Nat.le_refl _) (Nat.le_refl _) (by rw [nI_1])
set_option maxHeartbeats 4000000 in
theorem lp_readFrom {d n0 Z : Nat} {tb : (Nat → Int32)} {gs : (Nat → Int32)} {gk : (Nat → Int32)} {gf : (Nat → Int32)} {ga : (Nat → Int32)} {nw : (Nat → Int32) × (Nat → Int32) × Int32 × Int32 × Int32 × Int32 × Int32 × Int32 × Int32} {tr : (Nat → Int32) × (Nat → Int32) × Int32 × Int32 × Int32 × Int32 × Int32 × Int32 × Int32} {wk : (Nat → Int32) × Int32 × Int32 × Int32} {pl : (Nat → Int32) × Int32 × Int32 × Int32 × Int32 × Int32} {ac : (Nat → zStt) × Int32 × Int32} {sl : (Nat → zStt) × (Nat → Int32)} {si : (Nat → Int32) × (Nat → Int32) × (Nat → Int32) × Int32} {sd : Int64} {tau : List zCel} (hT : (2 + 3 * Z) ≤ 40) (h5 : zCn tb 72 Z ≤ 5) (h3 : zCk tb Z ≤ 3) : ∀ k i : Nat, i + k = Z → zX RX1 cX1_readFrom 3 none "readFrom" none (d + 3) n0 0 0 0 0 (fun r s => r = none ∧ s = encC (tb, (nI (2 + 3 * Z))) ((zGq tb (gs, gk, gf, ga) Z).1, (zGq tb (gs, gk, gf, ga) Z).2.1, (zGq tb (gs, gk, gf, ga) Z).2.2.1, (zGq tb (gs, gk, gf, ga) Z).2.2.2, (nI (zCn tb 72 Z)), (nI (zCk tb Z)), (tb 1 - 48)) nw tr wk pl ac sl si sd ++ tau) 21 [some (.ref 3), some (.ref 1), some (.int (nI (2 + 3 * i)))] [] (encC (tb, (nI (2 + 3 * Z))) ((zGq tb (gs, gk, gf, ga) i).1, (zGq tb (gs, gk, gf, ga) i).2.1, (zGq tb (gs, gk, gf, ga) i).2.2.1, (zGq tb (gs, gk, gf, ga) i).2.2.2, (nI (zCn tb 72 i)), (nI (zCk tb i)), (tb 1 - 48)) nw tr wk pl ac sl si sd ++ tau) := by
  intro k
  induction k with
  | zero =>
    intro i hi
    obtain rfl : i = Z := by omega
    refine zx_iload_n (pc := 21) dX1_readFrom_21 rfl rfl ?_
    refine zx_aload_n (pc := 22) dX1_readFrom_22 rfl rfl ?_
    refine g1_1 (pc := 23) fl_X1_40 dX1_readFrom_23 ?_
    refine zx_icmp_ge (pc := 26) (tgt := 84) dX1_readFrom_26 (by decide) (fun h26 => ?_) (fun h26 => by first | exact absurd h26 (show nI (2 + 3 * i) ≤ nI (2 + 3 * i) from Int32.le_refl _) | exact absurd (show nI (2 + 3 * i) ≤ nI (2 + 3 * i) from Int32.le_refl _) h26)
    exact zx_fv (pc := 84) dX1_readFrom_84 rfl (Nat.le_refl _) (Nat.le_refl _) rfl
  | succ k ih =>
    intro i hi
    have e0 : zLt tb (2 + 3 * Z) (2 + 3 * i) = tb (2 + 3 * i) := if_pos (by omega)
    have e1 : zLt tb (2 + 3 * Z) (3 + 3 * i) = tb (3 + 3 * i) := if_pos (by omega)
    have e2 : zLt tb (2 + 3 * Z) (4 + 3 * i) = tb (4 + 3 * i) := if_pos (by omega)
    have e3 : nI (2 + 3 * i) + 3 = nI (2 + 3 * (i + 1)) := nI_add (2 + 3 * i) 3
    have e4 : nI (2 + 3 * i) + 1 = nI (3 + 3 * i) := by rw [nI_1, show 2 + 3 * i + 1 = 3 + 3 * i by omega]
    have e5 : nI (2 + 3 * i) + 2 = nI (4 + 3 * i) := by rw [show (2 : Int32) = nI 2 from rfl, nI_add, show 2 + 3 * i + 2 = 4 + 3 * i by omega]
    have g5 := zCn_mono tb 72 (show i + 1 ≤ Z by omega)
    have g3 := zCk_mono tb (show i + 1 ≤ Z by omega)
    refine zx_iload_n (pc := 21) dX1_readFrom_21 rfl rfl ?_
    refine zx_aload_n (pc := 22) dX1_readFrom_22 rfl rfl ?_
    refine g1_1 (pc := 23) fl_X1_40 dX1_readFrom_23 ?_
    refine zx_icmp_ge (pc := 26) (tgt := 84) dX1_readFrom_26 (by decide) (fun h26 => by first | exact absurd h26 (nI_ge (show 2 + 3 * i < 2 + 3 * Z by omega) (by omega)) | exact absurd (nI_ge (show 2 + 3 * i < 2 + 3 * Z by omega) (by omega)) h26) (fun h26 => ?_)
    refine zx_aload_n (pc := 29) dX1_readFrom_29 rfl rfl ?_
    refine zx_iload_n (pc := 30) dX1_readFrom_30 rfl rfl ?_
    refine zx_fV1 (pc := 31) (k_letter (d := d + 2) hT (by omega)) cl_X1_43 p1 rfl dX1_readFrom_31 rfl rfl (by omega) (Nat.le_of_ble_eq_true rfl) (Nat.le_refl _) (Nat.le_refl _) ?_
    rw [e0]
    refine zx_bipush (pc := 34) (v := 72) dX1_readFrom_34 (by decide) ?_
    refine zx_icmp_ne (pc := 36) (tgt := 60) dX1_readFrom_36 (by decide) (fun h36 => ?_) (fun h36 => ?_)
    · simp only [zCk, h36, reduceIte] at g3
      refine zx_aload_n (pc := 60) dX1_readFrom_60 rfl rfl ?_
      refine zx_aload_n (pc := 61) dX1_readFrom_61 rfl rfl ?_
      refine zx_iload_n (pc := 62) dX1_readFrom_62 rfl rfl ?_
      refine zx_iconst (pc := 63) (v := 1) dX1_readFrom_63 (by decide) ?_
      refine zx_iadd (pc := 64) dX1_readFrom_64 ?_
      refine zx_st (st' := [.int (nI (3 + 3 * i)), .ref 1, .ref 3]) (by rw [e4]) ?_
      refine zx_fV1 (pc := 65) (k_figure (d := d + 1) hT (by omega)) cl_X1_31 p1 rfl dX1_readFrom_65 rfl rfl (by omega) (Nat.le_of_ble_eq_true rfl) (Nat.le_refl _) (Nat.le_refl _) ?_
      refine zx_aload_n (pc := 68) dX1_readFrom_68 rfl rfl ?_
      refine zx_iload_n (pc := 69) dX1_readFrom_69 rfl rfl ?_
      refine zx_iconst (pc := 70) (v := 2) dX1_readFrom_70 (by decide) ?_
      refine zx_iadd (pc := 71) dX1_readFrom_71 ?_
      refine zx_st (st' := [.int (nI (4 + 3 * i)), .ref 1, .int (zLt tb (2 + 3 * Z) (3 + 3 * i) - 48), .ref 3]) (by rw [e5]) ?_
      refine zx_fV1 (pc := 72) (k_figure (d := d + 1) hT (by omega)) cl_X1_31 p1 rfl dX1_readFrom_72 rfl rfl (by omega) (Nat.le_of_ble_eq_true rfl) (Nat.le_refl _) (Nat.le_refl _) ?_
      rw [e1, e2]
      refine zx_fV0 (pc := 75) (k_addField (d := d + 2) (by omega)) cl_X1_50 p3 rfl dX1_readFrom_75 rfl rfl (by omega) (Nat.le_of_ble_eq_true rfl) (Nat.le_refl _) (Nat.le_refl _) ?_
      refine ic_2_3_3 (pc := 78) dX1_readFrom_78 rfl ?_
      refine zx_goto (pc := 81) (tgt := 21) dX1_readFrom_81 (by decide) ?_
      have hs := ih (i + 1) (by omega)
      simp only [zGq, zCn, zCk, h36, reduceIte] at hs
      rw [← e3] at hs
      exact hs
    · simp only [zCn, h36, reduceIte] at g5
      refine zx_aload_n (pc := 39) dX1_readFrom_39 rfl rfl ?_
      refine zx_aload_n (pc := 40) dX1_readFrom_40 rfl rfl ?_
      refine zx_iload_n (pc := 41) dX1_readFrom_41 rfl rfl ?_
      refine zx_iconst (pc := 42) (v := 1) dX1_readFrom_42 (by decide) ?_
      refine zx_iadd (pc := 43) dX1_readFrom_43 ?_
      refine zx_st (st' := [.int (nI (3 + 3 * i)), .ref 1, .ref 3]) (by rw [e4]) ?_
      refine zx_fV1 (pc := 44) (k_figure (d := d + 1) hT (by omega)) cl_X1_31 p1 rfl dX1_readFrom_44 rfl rfl (by omega) (Nat.le_of_ble_eq_true rfl) (Nat.le_refl _) (Nat.le_refl _) ?_
      refine zx_aload_n (pc := 47) dX1_readFrom_47 rfl rfl ?_
      refine zx_iload_n (pc := 48) dX1_readFrom_48 rfl rfl ?_
      refine zx_iconst (pc := 49) (v := 2) dX1_readFrom_49 (by decide) ?_
      refine zx_iadd (pc := 50) dX1_readFrom_50 ?_
      refine zx_st (st' := [.int (nI (4 + 3 * i)), .ref 1, .int (zLt tb (2 + 3 * Z) (3 + 3 * i) - 48), .ref 3]) (by rw [e5]) ?_
      refine zx_fV1 (pc := 51) (k_figure (d := d + 1) hT (by omega)) cl_X1_31 p1 rfl dX1_readFrom_51 rfl rfl (by omega) (Nat.le_of_ble_eq_true rfl) (Nat.le_refl _) (Nat.le_refl _) ?_
      rw [e1, e2]
      refine zx_fV0 (pc := 54) (k_addHand (d := d + 2) (by omega)) cl_X1_46 p3 rfl dX1_readFrom_54 rfl rfl (by omega) (Nat.le_of_ble_eq_true rfl) (Nat.le_refl _) (Nat.le_refl _) ?_
      refine zx_goto (pc := 57) (tgt := 78) dX1_readFrom_57 (by decide) ?_
      refine ic_2_3_3 (pc := 78) dX1_readFrom_78 rfl ?_
      refine zx_goto (pc := 81) (tgt := 21) dX1_readFrom_81 (by decide) ?_
      have hs := ih (i + 1) (by omega)
      simp only [zGq, zCn, zCk, h36, reduceIte] at hs
      rw [← e3] at hs
      exact hs
set_option maxHeartbeats 4000000 in
theorem k_readFrom {d : Nat} {Z : Nat} {tb : (Nat → Int32)} {gs : (Nat → Int32)} {gk : (Nat → Int32)} {gf : (Nat → Int32)} {ga : (Nat → Int32)} {gh : Int32} {gd : Int32} {gc : Int32} {nw : (Nat → Int32) × (Nat → Int32) × Int32 × Int32 × Int32 × Int32 × Int32 × Int32 × Int32} {tr : (Nat → Int32) × (Nat → Int32) × Int32 × Int32 × Int32 × Int32 × Int32 × Int32 × Int32} {wk : (Nat → Int32) × Int32 × Int32 × Int32} {pl : (Nat → Int32) × Int32 × Int32 × Int32 × Int32 × Int32} {ac : (Nat → zStt) × Int32 × Int32} {sl : (Nat → zStt) × (Nat → Int32)} {si : (Nat → Int32) × (Nat → Int32) × (Nat → Int32) × Int32} {sd : Int64} {tau : List zCel} (hT : (2 + 3 * Z) ≤ 40) (h5 : zCn tb 72 Z ≤ 5) (h3 : zCk tb Z ≤ 3) : zCf yX1_readFrom cX1_readFrom 3 none (d + 3) [.ref 3, .ref 1] (encC (tb, (nI (2 + 3 * Z))) (gs, gk, gf, ga, gh, gd, gc) nw tr wk pl ac sl si sd ++ tau) none (encC (tb, (nI (2 + 3 * Z))) ((zGq tb (gs, gk, gf, ga) Z).1, (zGq tb (gs, gk, gf, ga) Z).2.1, (zGq tb (gs, gk, gf, ga) Z).2.2.1, (zGq tb (gs, gk, gf, ga) Z).2.2.2, (nI (zCn tb 72 Z)), (nI (zCk tb Z)), (tb 1 - 48)) nw tr wk pl ac sl si sd ++ tau) := by
  refine zC.intro (by decide) (Nat.le_of_ble_eq_true rfl) rfl ?_
  refine zx_aload_n (pc := 0) dX1_readFrom_0 rfl rfl ?_
  refine zx_iconst (pc := 1) (v := 0) dX1_readFrom_1 (by decide) ?_
  refine u3_4 (pc := 2) fl_X1_24 dX1_readFrom_2 ?_
  refine zx_aload_n (pc := 5) dX1_readFrom_5 rfl rfl ?_
  refine zx_iconst (pc := 6) (v := 0) dX1_readFrom_6 (by decide) ?_
  refine u3_5 (pc := 7) fl_X1_28 dX1_readFrom_7 ?_
  refine zx_aload_n (pc := 10) dX1_readFrom_10 rfl rfl ?_
  refine zx_aload_n (pc := 11) dX1_readFrom_11 rfl rfl ?_
  refine zx_iconst (pc := 12) (v := 1) dX1_readFrom_12 (by decide) ?_
  refine zx_fV1 (pc := 13) (k_figure (d := d + 1) (k := 1) hT (by omega)) cl_X1_31 p1 rfl dX1_readFrom_13 rfl rfl (by omega) (Nat.le_of_ble_eq_true rfl) (Nat.le_refl _) (Nat.le_refl _) ?_
  rw [show zLt tb (2 + 3 * Z) 1 = tb 1 from if_pos (by omega)]
  refine u3_6 (pc := 16) fl_X1_37 dX1_readFrom_16 ?_
  refine zx_iconst (pc := 19) (v := 2) dX1_readFrom_19 (by decide) ?_
  refine st_2_3 (pc := 20) dX1_readFrom_20 rfl ?_
  exact lp_readFrom hT h5 h3 Z 0 (by omega)
