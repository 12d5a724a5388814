section ZGO
variable {p : Program} {l : Launch} {e : Env} {R : Room} {s : State} {m : MethodId} {args : Array Value} {below : List Frame} {meth : Method} {c : Code} {H : Heap} {locs : List Loc} {kc ks : Nat} {Qf : State → Prop}
/-- behind a call by contract -/
theorem zgo {dC : Nat → ClassId} {dI : Nat → Nat → Nat} {cA : Nat → ClassId} {al : Nat → Nat} {A : Nat → Prop} {mc' ms' pc : Nat} {sg : List zCel} {ls : Array Slot} {st0 rest : List Value} {Q' : Option Value → List zCel → Prop} {a : Array Value}
    (hr : va_Run p l e R s m args below meth c H locs kc ks mc' ms' (F0 m pc ls st0) rest (zQc dC dI cA al H.size mc' sg Q' a) (va_A (zw al cA sg) H.size)) (hS : va_S A s.heap H locs) (hF : ∀ q, va_A (zw al cA sg) H.size q → A q)
    (kk : ∀ (r : Option Value) (sg' : List zCel) (al' : Nat → Nat) (H1 : Heap) (locs1 : List Loc), Q' r sg' → zRel al al' sg.length mc' → va_P (dC, dI) vwCl (zw al' cA sg') H1 → va_D A (zw al' cA sg') → va_S A s.heap H1 locs1 → W p l e R s m args below meth c H1 locs1 (kc + mc') (ks + ms') Qf (F0 m (pc + 3) ls ((r.map (zr al')).toList ++ rest))) :
    W p l e R s m args below meth c H locs kc ks Qf (F0 m pc ls st0) := by
  intro T hT X
  obtain ⟨v, st₀, t, T', Lx, h0, X', hL, e1, e2, ⟨⟨r, sg', al', hv, hq, hrel, hP, hD⟩, hz, hk⟩, st⟩ := hr T hT X
  cases hv
  rw [h0] at hz hk
  obtain ⟨t2, a1, b1⟩ := kk r sg' al' T'.heap (locs ++ Lx) hq hrel (by rw [e1]; exact hP) (hD.weaken (fun _ _ _ h => hF _ h))
    ⟨Nat.le_trans hS.1 (by rw [e1]; exact hz), fun q h1 h2 => by rw [e1, hk q (Nat.lt_of_lt_of_le h1 hS.1) (fun z => h2 (hF q z))]; exact hS.2.1 q h1 h2, fun q hq => by
      rcases List.mem_append.mp hq with h | h
      · exact hS.2.2 q h
      · exact hF _ (hL q h)⟩ T' rfl X'
  exact ⟨t2, st t2 a1, b1⟩
end ZGO
theorem zmap_toList (al : Nat → Nat) (r : Option Value) : (r.map (zr al)).toList = r.toList.map (zr al) := by cases r <;> rfl
abbrev zyOk (y : MethodName) (n : Nat) : Prop := y.cls ≠ "java/lang/invoke/MethodHandle" ∧ y.cls ≠ "java/lang/invoke/VarHandle" ∧ (parseMethodDescriptor y.desc).map (fun d => d.parameters.length) = some n
/-- what a call of y by own's pool entry needs of the tables -/
def zcV (own : String) (index : Nat) (y : MethodName) (cy : ByteArray) (nLy : Nat) (rety : Option FieldType) (n : Nat) : Prop := Cond.methodLink own index y ∈ zTbl ∧ Cond.instanceMethod y ∈ zTbl ∧ Cond.selects y.cls y y ∈ zTbl ∧ Cond.initialized y.cls ∈ zTbl ∧ Cond.code y cy nLy rety ∈ zTbl ∧ zyOk y n ∧ nLy ≤ 19
def zcS (own : String) (index : Nat) (y : MethodName) (cy : ByteArray) (nLy : Nat) (rety : Option FieldType) (n : Nat) : Prop := Cond.methodLink own index y ∈ zTbl ∧ Cond.static y ∈ zTbl ∧ Cond.initialized y.cls ∈ zTbl ∧ Cond.code y cy nLy rety ∈ zTbl ∧ zyOk y n ∧ nLy ≤ 19
def zcI (own : String) (index : Nat) (y : MethodName) (cy : ByteArray) (nLy : Nat) (n : Nat) : Prop := Cond.methodLink own index y ∈ zTbl ∧ Cond.instanceMethod y ∈ zTbl ∧ Cond.initialized y.cls ∈ zTbl ∧ Cond.code y cy nLy none ∈ zTbl ∧ zyOk y n ∧ nLy ≤ 19 ∧ y.name = "<init>"
def zcSN (own : String) (index : Nat) (y : MethodName) (host : String) (cy : ByteArray) (nLy : Nat) (rety : Option FieldType) (n : Nat) : Prop := Cond.methodLinkNest own index y host ∈ lw_tbl ∧ Cond.static y ∈ zTbl ∧ Cond.initialized y.cls ∈ zTbl ∧ Cond.code y cy nLy rety ∈ zTbl ∧ zyOk y n ∧ nLy ≤ 19
def zcIN (own : String) (index : Nat) (y : MethodName) (host : String) (cy : ByteArray) (nLy : Nat) (n : Nat) : Prop := Cond.methodLinkNest own index y host ∈ lw_tbl ∧ Cond.instanceMethod y ∈ zTbl ∧ Cond.initialized y.cls ∈ zTbl ∧ Cond.code y cy nLy none ∈ zTbl ∧ zyOk y n ∧ nLy ≤ 19 ∧ y.name = "<init>"
theorem zgood {y : MethodName} {cy : ByteArray} {nLy : Nat} {rety : Option FieldType} (h : Cond.code y cy nLy rety ∈ zTbl) : GoodIn zTbl (.code y cy nLy rety :: zTbl) := by
  intro w hw
  rcases List.mem_cons.mp hw with rfl | hw
  · exact ⟨h, zTbl_good h⟩
  · exact ⟨hw, zTbl_good hw⟩
/-- refs that lie in a store of n cells (or are one of the two told cells) -/
def zwv (n : Nat) : Value → Bool
  | .ref p => decide (p < n) || decide (1000 ≤ p)
  | _ => true
def zwo (n : Nat) : Option Value → Bool
  | some v => zwv n v
  | none => true
def zwc (n : Nat) : zCel → Bool
  | .inl _ => true
  | .inr (.inl l) => l.all (fun o => match o with | some p => decide (p < n) || decide (1000 ≤ p) | none => true)
  | .inr (.inr (_, fs)) => fs.all (zwv n)
theorem zr_same {a1 a2 : Nat → Nat} {n : Nat} (h : ∀ k, (k < n ∨ 1000 ≤ k) → a1 k = a2 k) {v : Value} (hv : zwv n v = true) : zr a1 v = zr a2 v := by
  cases v with
  | ref p =>
    simp only [zwv, Bool.or_eq_true, decide_eq_true_eq] at hv
    simp only [zr]
    rw [h p hv]
  | _ => rfl
theorem zmap_same {a1 a2 : Nat → Nat} {n : Nat} (h : ∀ k, (k < n ∨ 1000 ≤ k) → a1 k = a2 k) {st : List Value} (hv : st.all (zwv n) = true) : st.map (zr a1) = st.map (zr a2) := by
  apply List.map_congr_left
  intro v hm
  exact zr_same h (List.all_eq_true.mp hv v hm)
theorem ze_same {a1 a2 : Nat → Nat} {n : Nat} {cA : Nat → ClassId} (h : ∀ k, (k < n ∨ 1000 ≤ k) → a1 k = a2 k) {c : zCel} (hc : zwc n c = true) : ze a1 cA c = ze a2 cA c := by
  rcases c with ⟨t, k, f⟩ | l | ⟨ci, fs⟩
  · rfl
  · have hz : zl a1 l = zl a2 l := by
     funext i
     unfold zl
     rw [List.getD_eq_getElem?_getD]
     cases hi : l[i]? with
     | none => rfl
     | some o =>
      cases o with
      | none => rfl
      | some p =>
        have h2 := List.all_eq_true.mp hc (some p) (List.mem_of_getElem? hi)
        simp only [Bool.or_eq_true, decide_eq_true_eq] at h2
        simp only [Option.getD_some, Option.map_some]
        rw [h p h2]
    simp only [ze]
    rw [hz]
  · simp only [ze]
    rw [zmap_same h hc]
theorem zw_same {a1 a2 : Nat → Nat} {n : Nat} {cA : Nat → ClassId} {sg : List zCel} (h : ∀ k, (k < n ∨ 1000 ≤ k) → a1 k = a2 k) (hl : sg.length ≤ n) (hc : sg.all (zwc n) = true) : zw a1 cA sg = zw a2 cA sg := by
  apply List.ext_getElem?
  intro i
  unfold zw
  rw [List.getElem?_mapIdx, List.getElem?_mapIdx]
  cases hi : sg[i]? with
  | none => rfl
  | some c =>
    have hlt : i < sg.length := (List.getElem?_eq_some_iff.mp hi).1
    simp only [Option.map_some]
    rw [h i (Or.inl (by omega)), ze_same h (List.all_eq_true.mp hc c (List.mem_of_getElem? hi))]
theorem zLs.same {a1 a2 : Nat → Nat} {n : Nat} {ls : Array Slot} {nL : Nat} {L : List (Option Value)} (h : ∀ k, (k < n ∨ 1000 ≤ k) → a1 k = a2 k) (hl : zLs a1 ls nL L) (hw : L.all (zwo n) = true) : zLs a2 ls nL L := by
  refine ⟨hl.1, hl.2.1, fun i v hv => ?_⟩
  rw [← zr_same h (List.all_eq_true.mp hw (some v) (List.mem_of_getElem? hv) : zwv n v = true)]
  exact hl.2.2 i v hv
theorem zRel.trans {a0 al al' : Nat → Nat} {n0 n1 mc mc' : Nat} (h : zRel a0 al n0 mc) (h' : zRel al al' n1 mc') (hn : n0 ≤ n1) (hm : mc = 0 → mc' = 0) : zRel a0 al' n0 mc :=
  ⟨fun k hk => (h'.1 k (hk.imp (fun q => by omega) id)).trans (h.1 k hk), fun e => (h'.2 (hm e)).trans (h.2 e)⟩
theorem zw_push {al : Nat → Nat} {cA : Nat → ClassId} {sg : List zCel} {c : zCel} : zw al cA (sg ++ [c]) = zw al cA sg ++ [(al sg.length, ze al cA c)] := by
  unfold zw
  rw [List.mapIdx_append]
  simp
section ZR4
variable {own : String} {cc : ByteArray} {nL : Nat} {ret : Option FieldType} {nm : String} {scr : Option (Nat × (Nat → Int32))} {d n0 mc ms kc ks : Nat} {Q : Option Value → List zCel → Prop} {pc : Nat} {L : List (Option Value)} {st : List Value} {sg : List zCel}
theorem zx_callV0 {b ci N : Nat} {T : u_T} {fs : List Value} {index n d' nLy : Nat} {y : MethodName} {cy : ByteArray} {rety : Option FieldType} {As : List Value} {stk : List Value} {Q' : Option Value → List zCel → Prop} (hX : zC y cy nLy rety d' 0 0 (.ref b :: As) sg Q') (hw : zcV own index y cy nLy rety n) (hb : sg[b]? = some (.inr (.inr (ci, fs)))) (hci : vwCl[ci]? = some (y.cls, T, N)) (hd : decode cc pc = .ok (.invokevirtual index, 3)) (hstk : stk = As.reverse ++ .ref b :: st) (hn : As.length = n) (hd' : d' + 1 ≤ d) (hst : zcat st ≤ 8) (hcm : kc ≤ mc) (hsm : ks ≤ ms) (kk : ∀ (r : Option Value) (sg' : List zCel), Q' r sg' → zX own cc nL ret nm scr d n0 mc ms kc ks Q (pc + 3) L (r.toList ++ st) sg') : zX own cc nL ret nm scr d n0 mc ms kc ks Q pc L stk sg := by
  intro p l e R s m args below meth c dC dI cA A a0 Qf C K al H locs ls r1 r2 r3 r4 r5
  subst hstk
  have hm := C.rm
  have hFc : ∀ q, va_A (zw al cA sg) H.size q → A q := fun q h => by
    rcases h with ⟨k9, e9, h9⟩ | h9
    · exact r4.2 k9 _ h9
    · exact C.ha q (Nat.le_trans r5.1 h9)
  obtain ⟨w1, w2, w3, w4, w5, w6, w7⟩ := hw
  have hCall : va_Run p l e R s m args below meth c H locs kc ks 0 0 (F0 m pc ls ((As.reverse ++ .ref b :: st).map (zr al))) (st.map (zr al)) (zQc dC dI cA al H.size 0 sg Q' (Value.ref (al b) :: As.map (zr al)).toArray) (va_A (zw al cA sg) H.size) := by
    refine va_runV (C := y.cls) (As := As.map (zr al)) (rest := st.map (zr al)) ⟨C.ex, C.by_, C.ml, C.ow, C.ts⟩ (hX l dC dI cA al H.size) ⟨(callB_of n C.ts (zgood w5) rfl rfl rfl (C.ts _ w4) (C.ts _ w1) w6 ⟨by show d' + 1 ≤ _; omega, by show 8 + (nLy + 11) + 38 * d' ≤ _; omega⟩), C.ts _ w2, C.ts _ w3⟩ ⟨zPc_blind, va_recv C.kk r3 hci (zw_at hb), fun U hU hW => ⟨rfl, by rw [hU], by rw [hU]; exact r3, va_K.moved hW.alike C.kk, ⟨r4.1, fun _ _ _ => trivial⟩, C.fx.warm r5 hFc (r1.1 1000 (Or.inr (Nat.le_refl _))) hU hW⟩⟩ rfl (by rw [List.length_map]; exact hn) r2.1 (by show List.map _ _ = _; simp [zr]) (lv_room (by rw [zcat_map]; exact hst)) hd ⟨by omega, by omega⟩
  refine zgo hCall r5 hFc (fun r sg' al' H1 locs1 hq hrel hP hD hS => ?_)
  obtain rfl := hrel.2 rfl
  rw [zmap_toList, ← List.map_append]
  exact kk r sg' hq p l e R s m args below meth c dC dI cA A a0 Qf C K al' H1 locs1 ls r1 r2 hP hD hS
theorem zx_callVN {mc' ms' : Nat} {b ci N : Nat} {T : u_T} {fs : List Value} {index n d' nLy : Nat} {y : MethodName} {cy : ByteArray} {rety : Option FieldType} {As : List Value} {stk : List Value} {Q' : Option Value → List zCel → Prop} (hX : zC y cy nLy rety d' mc' ms' (.ref b :: As) sg Q') (hw : zcV own index y cy nLy rety n) (hb : sg[b]? = some (.inr (.inr (ci, fs)))) (hci : vwCl[ci]? = some (y.cls, T, N)) (hd : decode cc pc = .ok (.invokevirtual index, 3)) (hstk : stk = As.reverse ++ .ref b :: st) (hn : As.length = n) (hd' : d' + 1 ≤ d) (hst : zcat st ≤ 8) (hcm : kc + mc' ≤ mc) (hsm : ks + ms' ≤ ms) (hn0 : n0 ≤ sg.length) (hwL : L.all (zwo sg.length) = true) (hwS : st.all (zwv sg.length) = true) (kk : ∀ (r : Option Value) (sg' : List zCel), Q' r sg' → zX own cc nL ret nm scr d n0 mc ms (kc + mc') (ks + ms') Q (pc + 3) L (r.toList ++ st) sg') : zX own cc nL ret nm scr d n0 mc ms kc ks Q pc L stk sg := by
  intro p l e R s m args below meth c dC dI cA A a0 Qf C K al H locs ls r1 r2 r3 r4 r5
  subst hstk
  have hm := C.rm
  have hFc : ∀ q, va_A (zw al cA sg) H.size q → A q := fun q h => by
    rcases h with ⟨k9, e9, h9⟩ | h9
    · exact r4.2 k9 _ h9
    · exact C.ha q (Nat.le_trans r5.1 h9)
  obtain ⟨w1, w2, w3, w4, w5, w6, w7⟩ := hw
  have hCall : va_Run p l e R s m args below meth c H locs kc ks mc' ms' (F0 m pc ls ((As.reverse ++ .ref b :: st).map (zr al))) (st.map (zr al)) (zQc dC dI cA al H.size mc' sg Q' (Value.ref (al b) :: As.map (zr al)).toArray) (va_A (zw al cA sg) H.size) := by
    refine va_runV (C := y.cls) (As := As.map (zr al)) (rest := st.map (zr al)) ⟨C.ex, C.by_, C.ml, C.ow, C.ts⟩ (hX l dC dI cA al H.size) ⟨(callB_of n C.ts (zgood w5) rfl rfl rfl (C.ts _ w4) (C.ts _ w1) w6 ⟨by show d' + 1 ≤ _; omega, by show 8 + (nLy + 11) + 38 * d' ≤ _; omega⟩), C.ts _ w2, C.ts _ w3⟩ ⟨zPc_blind, va_recv C.kk r3 hci (zw_at hb), fun U hU hW => ⟨rfl, by rw [hU], by rw [hU]; exact r3, va_K.moved hW.alike C.kk, ⟨r4.1, fun _ _ _ => trivial⟩, C.fx.warm r5 hFc (r1.1 1000 (Or.inr (Nat.le_refl _))) hU hW⟩⟩ rfl (by rw [List.length_map]; exact hn) r2.1 (by show List.map _ _ = _; simp [zr]) (lv_room (by rw [zcat_map]; exact hst)) hd ⟨by omega, by omega⟩
  refine zgo hCall r5 hFc (fun r sg' al' H1 locs1 hq hrel hP hD hS => ?_)
  rw [zmap_toList, zmap_same (fun k hk => (hrel.1 k hk).symm) hwS, ← List.map_append]
  exact kk r sg' hq p l e R s m args below meth c dC dI cA A a0 Qf C K al' H1 locs1 ls (r1.trans hrel hn0 (fun e => by omega)) (r2.same (fun k hk => (hrel.1 k hk).symm) hwL) hP hD hS
theorem zx_callS0  {index n d' nLy : Nat} {y : MethodName} {cy : ByteArray} {rety : Option FieldType} {As : List Value} {stk : List Value} {Q' : Option Value → List zCel → Prop} (hX : zC y cy nLy rety d' 0 0 (As) sg Q') (hw : zcS own index y cy nLy rety n) (hd : decode cc pc = .ok (.invokestatic index, 3)) (hstk : stk = As.reverse ++ st) (hn : As.length = n) (hd' : d' + 1 ≤ d) (hst : zcat st ≤ 8) (hcm : kc ≤ mc) (hsm : ks ≤ ms) (kk : ∀ (r : Option Value) (sg' : List zCel), Q' r sg' → zX own cc nL ret nm scr d n0 mc ms kc ks Q (pc + 3) L (r.toList ++ st) sg') : zX own cc nL ret nm scr d n0 mc ms kc ks Q pc L stk sg := by
  intro p l e R s m args below meth c dC dI cA A a0 Qf C K al H locs ls r1 r2 r3 r4 r5
  subst hstk
  have hm := C.rm
  have hFc : ∀ q, va_A (zw al cA sg) H.size q → A q := fun q h => by
    rcases h with ⟨k9, e9, h9⟩ | h9
    · exact r4.2 k9 _ h9
    · exact C.ha q (Nat.le_trans r5.1 h9)
  obtain ⟨w1, w2, w4, w5, w6, w7⟩ := hw
  have hCall : va_Run p l e R s m args below meth c H locs kc ks 0 0 (F0 m pc ls ((As.reverse ++ st).map (zr al))) (st.map (zr al)) (zQc dC dI cA al H.size 0 sg Q' (As.map (zr al)).toArray) (va_A (zw al cA sg) H.size) := by
    refine va_runS (As := As.map (zr al)) (rest := st.map (zr al)) ⟨C.ex, C.by_, C.ml, C.ow, C.ts⟩ (hX l dC dI cA al H.size) ⟨(callB_of n C.ts (zgood w5) rfl rfl rfl (C.ts _ w4) (C.ts _ w1) w6 ⟨by show d' + 1 ≤ _; omega, by show 8 + (nLy + 11) + 38 * d' ≤ _; omega⟩), C.ts _ w2⟩ ⟨zPc_blind, fun U hU hW => ⟨rfl, by rw [hU], by rw [hU]; exact r3, va_K.moved hW.alike C.kk, ⟨r4.1, fun _ _ _ => trivial⟩, C.fx.warm r5 hFc (r1.1 1000 (Or.inr (Nat.le_refl _))) hU hW⟩⟩ rfl (by rw [List.length_map]; exact hn) r2.1 (by show List.map _ _ = _; simp [zr]) (lv_room (by rw [zcat_map]; exact hst)) hd ⟨by omega, by omega⟩
  refine zgo hCall r5 hFc (fun r sg' al' H1 locs1 hq hrel hP hD hS => ?_)
  obtain rfl := hrel.2 rfl
  rw [zmap_toList, ← List.map_append]
  exact kk r sg' hq p l e R s m args below meth c dC dI cA A a0 Qf C K al' H1 locs1 ls r1 r2 hP hD hS
theorem zx_callSN {mc' ms' : Nat}  {index n d' nLy : Nat} {y : MethodName} {cy : ByteArray} {rety : Option FieldType} {As : List Value} {stk : List Value} {Q' : Option Value → List zCel → Prop} (hX : zC y cy nLy rety d' mc' ms' (As) sg Q') (hw : zcS own index y cy nLy rety n) (hd : decode cc pc = .ok (.invokestatic index, 3)) (hstk : stk = As.reverse ++ st) (hn : As.length = n) (hd' : d' + 1 ≤ d) (hst : zcat st ≤ 8) (hcm : kc + mc' ≤ mc) (hsm : ks + ms' ≤ ms) (hn0 : n0 ≤ sg.length) (hwL : L.all (zwo sg.length) = true) (hwS : st.all (zwv sg.length) = true) (kk : ∀ (r : Option Value) (sg' : List zCel), Q' r sg' → zX own cc nL ret nm scr d n0 mc ms (kc + mc') (ks + ms') Q (pc + 3) L (r.toList ++ st) sg') : zX own cc nL ret nm scr d n0 mc ms kc ks Q pc L stk sg := by
  intro p l e R s m args below meth c dC dI cA A a0 Qf C K al H locs ls r1 r2 r3 r4 r5
  subst hstk
  have hm := C.rm
  have hFc : ∀ q, va_A (zw al cA sg) H.size q → A q := fun q h => by
    rcases h with ⟨k9, e9, h9⟩ | h9
    · exact r4.2 k9 _ h9
    · exact C.ha q (Nat.le_trans r5.1 h9)
  obtain ⟨w1, w2, w4, w5, w6, w7⟩ := hw
  have hCall : va_Run p l e R s m args below meth c H locs kc ks mc' ms' (F0 m pc ls ((As.reverse ++ st).map (zr al))) (st.map (zr al)) (zQc dC dI cA al H.size mc' sg Q' (As.map (zr al)).toArray) (va_A (zw al cA sg) H.size) := by
    refine va_runS (As := As.map (zr al)) (rest := st.map (zr al)) ⟨C.ex, C.by_, C.ml, C.ow, C.ts⟩ (hX l dC dI cA al H.size) ⟨(callB_of n C.ts (zgood w5) rfl rfl rfl (C.ts _ w4) (C.ts _ w1) w6 ⟨by show d' + 1 ≤ _; omega, by show 8 + (nLy + 11) + 38 * d' ≤ _; omega⟩), C.ts _ w2⟩ ⟨zPc_blind, fun U hU hW => ⟨rfl, by rw [hU], by rw [hU]; exact r3, va_K.moved hW.alike C.kk, ⟨r4.1, fun _ _ _ => trivial⟩, C.fx.warm r5 hFc (r1.1 1000 (Or.inr (Nat.le_refl _))) hU hW⟩⟩ rfl (by rw [List.length_map]; exact hn) r2.1 (by show List.map _ _ = _; simp [zr]) (lv_room (by rw [zcat_map]; exact hst)) hd ⟨by omega, by omega⟩
  refine zgo hCall r5 hFc (fun r sg' al' H1 locs1 hq hrel hP hD hS => ?_)
  rw [zmap_toList, zmap_same (fun k hk => (hrel.1 k hk).symm) hwS, ← List.map_append]
  exact kk r sg' hq p l e R s m args below meth c dC dI cA A a0 Qf C K al' H1 locs1 ls (r1.trans hrel hn0 (fun e => by omega)) (r2.same (fun k hk => (hrel.1 k hk).symm) hwL) hP hD hS
theorem zx_callSN0 {host : String} {index n d' nLy : Nat} {y : MethodName} {cy : ByteArray} {rety : Option FieldType} {As : List Value} {stk : List Value} {Q' : Option Value → List zCel → Prop} (hX : zC y cy nLy rety d' 0 0 (As) sg Q') (hw : zcSN own index y host cy nLy rety n) (hd : decode cc pc = .ok (.invokestatic index, 3)) (hstk : stk = As.reverse ++ st) (hn : As.length = n) (hd' : d' + 1 ≤ d) (hst : zcat st ≤ 8) (hcm : kc ≤ mc) (hsm : ks ≤ ms) (kk : ∀ (r : Option Value) (sg' : List zCel), Q' r sg' → zX own cc nL ret nm scr d n0 mc ms kc ks Q (pc + 3) L (r.toList ++ st) sg') : zX own cc nL ret nm scr d n0 mc ms kc ks Q pc L stk sg := by
  intro p l e R s m args below meth c dC dI cA A a0 Qf C K al H locs ls r1 r2 r3 r4 r5
  subst hstk
  have hm := C.rm
  have hFc : ∀ q, va_A (zw al cA sg) H.size q → A q := fun q h => by
    rcases h with ⟨k9, e9, h9⟩ | h9
    · exact r4.2 k9 _ h9
    · exact C.ha q (Nat.le_trans r5.1 h9)
  obtain ⟨w1, w2, w4, w5, w6, w7⟩ := hw
  have hCall : va_Run p l e R s m args below meth c H locs kc ks 0 0 (F0 m pc ls ((As.reverse ++ st).map (zr al))) (st.map (zr al)) (zQc dC dI cA al H.size 0 sg Q' (As.map (zr al)).toArray) (va_A (zw al cA sg) H.size) := by
    refine va_runSN (As := As.map (zr al)) (rest := st.map (zr al)) ⟨C.ex, C.by_, C.ml, C.ow, C.ts⟩ (hX l dC dI cA al H.size) ⟨va_cnB n C.ts (zgood w5) rfl rfl rfl (C.fx.1 _ w1 rfl) (C.ts _ w4) w6 ⟨by show d' + 1 ≤ _; omega, by show 8 + (nLy + 11) + 38 * d' ≤ _; omega⟩, C.ts _ w2, trivial⟩ ⟨zPc_blind, fun U hU hW => ⟨rfl, by rw [hU], by rw [hU]; exact r3, va_K.moved hW.alike C.kk, ⟨r4.1, fun _ _ _ => trivial⟩, C.fx.warm r5 hFc (r1.1 1000 (Or.inr (Nat.le_refl _))) hU hW⟩⟩ rfl (by rw [List.length_map]; exact hn) r2.1 (by show List.map _ _ = _; simp [zr]) (lv_room (by rw [zcat_map]; exact hst)) hd ⟨by omega, by omega⟩
  refine zgo hCall r5 hFc (fun r sg' al' H1 locs1 hq hrel hP hD hS => ?_)
  obtain rfl := hrel.2 rfl
  rw [zmap_toList, ← List.map_append]
  exact kk r sg' hq p l e R s m args below meth c dC dI cA A a0 Qf C K al' H1 locs1 ls r1 r2 hP hD hS
theorem zx_callSNN {mc' ms' : Nat} {host : String} {index n d' nLy : Nat} {y : MethodName} {cy : ByteArray} {rety : Option FieldType} {As : List Value} {stk : List Value} {Q' : Option Value → List zCel → Prop} (hX : zC y cy nLy rety d' mc' ms' (As) sg Q') (hw : zcSN own index y host cy nLy rety n) (hd : decode cc pc = .ok (.invokestatic index, 3)) (hstk : stk = As.reverse ++ st) (hn : As.length = n) (hd' : d' + 1 ≤ d) (hst : zcat st ≤ 8) (hcm : kc + mc' ≤ mc) (hsm : ks + ms' ≤ ms) (hn0 : n0 ≤ sg.length) (hwL : L.all (zwo sg.length) = true) (hwS : st.all (zwv sg.length) = true) (kk : ∀ (r : Option Value) (sg' : List zCel), Q' r sg' → zX own cc nL ret nm scr d n0 mc ms (kc + mc') (ks + ms') Q (pc + 3) L (r.toList ++ st) sg') : zX own cc nL ret nm scr d n0 mc ms kc ks Q pc L stk sg := by
  intro p l e R s m args below meth c dC dI cA A a0 Qf C K al H locs ls r1 r2 r3 r4 r5
  subst hstk
  have hm := C.rm
  have hFc : ∀ q, va_A (zw al cA sg) H.size q → A q := fun q h => by
    rcases h with ⟨k9, e9, h9⟩ | h9
    · exact r4.2 k9 _ h9
    · exact C.ha q (Nat.le_trans r5.1 h9)
  obtain ⟨w1, w2, w4, w5, w6, w7⟩ := hw
  have hCall : va_Run p l e R s m args below meth c H locs kc ks mc' ms' (F0 m pc ls ((As.reverse ++ st).map (zr al))) (st.map (zr al)) (zQc dC dI cA al H.size mc' sg Q' (As.map (zr al)).toArray) (va_A (zw al cA sg) H.size) := by
    refine va_runSN (As := As.map (zr al)) (rest := st.map (zr al)) ⟨C.ex, C.by_, C.ml, C.ow, C.ts⟩ (hX l dC dI cA al H.size) ⟨va_cnB n C.ts (zgood w5) rfl rfl rfl (C.fx.1 _ w1 rfl) (C.ts _ w4) w6 ⟨by show d' + 1 ≤ _; omega, by show 8 + (nLy + 11) + 38 * d' ≤ _; omega⟩, C.ts _ w2, trivial⟩ ⟨zPc_blind, fun U hU hW => ⟨rfl, by rw [hU], by rw [hU]; exact r3, va_K.moved hW.alike C.kk, ⟨r4.1, fun _ _ _ => trivial⟩, C.fx.warm r5 hFc (r1.1 1000 (Or.inr (Nat.le_refl _))) hU hW⟩⟩ rfl (by rw [List.length_map]; exact hn) r2.1 (by show List.map _ _ = _; simp [zr]) (lv_room (by rw [zcat_map]; exact hst)) hd ⟨by omega, by omega⟩
  refine zgo hCall r5 hFc (fun r sg' al' H1 locs1 hq hrel hP hD hS => ?_)
  rw [zmap_toList, zmap_same (fun k hk => (hrel.1 k hk).symm) hwS, ← List.map_append]
  exact kk r sg' hq p l e R s m args below meth c dC dI cA A a0 Qf C K al' H1 locs1 ls (r1.trans hrel hn0 (fun e => by omega)) (r2.same (fun k hk => (hrel.1 k hk).symm) hwL) hP hD hS
theorem zx_callI0 {b : Nat} {index n d' nLy : Nat} {y : MethodName} {cy : ByteArray} {rety : Option FieldType} {As : List Value} {stk : List Value} {Q' : Option Value → List zCel → Prop} (hX : zC y cy nLy none d' 0 0 (.ref b :: As) sg Q') (hw : zcI own index y cy nLy n) (hd : decode cc pc = .ok (.invokespecial index, 3)) (hstk : stk = As.reverse ++ .ref b :: st) (hn : As.length = n) (hd' : d' + 1 ≤ d) (hst : zcat st ≤ 8) (hcm : kc ≤ mc) (hsm : ks ≤ ms) (kk : ∀ (r : Option Value) (sg' : List zCel), Q' r sg' → zX own cc nL ret nm scr d n0 mc ms kc ks Q (pc + 3) L (r.toList ++ st) sg') : zX own cc nL ret nm scr d n0 mc ms kc ks Q pc L stk sg := by
  intro p l e R s m args below meth c dC dI cA A a0 Qf C K al H locs ls r1 r2 r3 r4 r5
  subst hstk
  have hm := C.rm
  have hFc : ∀ q, va_A (zw al cA sg) H.size q → A q := fun q h => by
    rcases h with ⟨k9, e9, h9⟩ | h9
    · exact r4.2 k9 _ h9
    · exact C.ha q (Nat.le_trans r5.1 h9)
  obtain ⟨w1, w2, w4, w5, w6, w7, w8⟩ := hw
  have hCall : va_Run p l e R s m args below meth c H locs kc ks 0 0 (F0 m pc ls ((As.reverse ++ .ref b :: st).map (zr al))) (st.map (zr al)) (zQc dC dI cA al H.size 0 sg Q' (Value.ref (al b) :: As.map (zr al)).toArray) (va_A (zw al cA sg) H.size) := by
    refine va_runI (As := As.map (zr al)) (rest := st.map (zr al)) ⟨C.ex, C.by_, C.ml, C.ow, C.ts⟩ (hX l dC dI cA al H.size) ⟨(callB_of n C.ts (zgood w5) rfl rfl rfl (C.ts _ w4) (C.ts _ w1) w6 ⟨by show d' + 1 ≤ _; omega, by show 8 + (nLy + 11) + 38 * d' ≤ _; omega⟩), w8, C.ts _ w2⟩ ⟨zPc_blind, fun U hU hW => ⟨rfl, by rw [hU], by rw [hU]; exact r3, va_K.moved hW.alike C.kk, ⟨r4.1, fun _ _ _ => trivial⟩, C.fx.warm r5 hFc (r1.1 1000 (Or.inr (Nat.le_refl _))) hU hW⟩⟩ rfl (by rw [List.length_map]; exact hn) r2.1 (by show List.map _ _ = _; simp [zr]) (lv_room (by rw [zcat_map]; exact hst)) hd ⟨by omega, by omega⟩
  refine zgo hCall r5 hFc (fun r sg' al' H1 locs1 hq hrel hP hD hS => ?_)
  obtain rfl := hrel.2 rfl
  rw [zmap_toList, ← List.map_append]
  exact kk r sg' hq p l e R s m args below meth c dC dI cA A a0 Qf C K al' H1 locs1 ls r1 r2 hP hD hS
theorem zx_callIN {mc' ms' : Nat} {b : Nat} {index n d' nLy : Nat} {y : MethodName} {cy : ByteArray} {rety : Option FieldType} {As : List Value} {stk : List Value} {Q' : Option Value → List zCel → Prop} (hX : zC y cy nLy none d' mc' ms' (.ref b :: As) sg Q') (hw : zcI own index y cy nLy n) (hd : decode cc pc = .ok (.invokespecial index, 3)) (hstk : stk = As.reverse ++ .ref b :: st) (hn : As.length = n) (hd' : d' + 1 ≤ d) (hst : zcat st ≤ 8) (hcm : kc + mc' ≤ mc) (hsm : ks + ms' ≤ ms) (hn0 : n0 ≤ sg.length) (hwL : L.all (zwo sg.length) = true) (hwS : st.all (zwv sg.length) = true) (kk : ∀ (r : Option Value) (sg' : List zCel), Q' r sg' → zX own cc nL ret nm scr d n0 mc ms (kc + mc') (ks + ms') Q (pc + 3) L (r.toList ++ st) sg') : zX own cc nL ret nm scr d n0 mc ms kc ks Q pc L stk sg := by
  intro p l e R s m args below meth c dC dI cA A a0 Qf C K al H locs ls r1 r2 r3 r4 r5
  subst hstk
  have hm := C.rm
  have hFc : ∀ q, va_A (zw al cA sg) H.size q → A q := fun q h => by
    rcases h with ⟨k9, e9, h9⟩ | h9
    · exact r4.2 k9 _ h9
    · exact C.ha q (Nat.le_trans r5.1 h9)
  obtain ⟨w1, w2, w4, w5, w6, w7, w8⟩ := hw
  have hCall : va_Run p l e R s m args below meth c H locs kc ks mc' ms' (F0 m pc ls ((As.reverse ++ .ref b :: st).map (zr al))) (st.map (zr al)) (zQc dC dI cA al H.size mc' sg Q' (Value.ref (al b) :: As.map (zr al)).toArray) (va_A (zw al cA sg) H.size) := by
    refine va_runI (As := As.map (zr al)) (rest := st.map (zr al)) ⟨C.ex, C.by_, C.ml, C.ow, C.ts⟩ (hX l dC dI cA al H.size) ⟨(callB_of n C.ts (zgood w5) rfl rfl rfl (C.ts _ w4) (C.ts _ w1) w6 ⟨by show d' + 1 ≤ _; omega, by show 8 + (nLy + 11) + 38 * d' ≤ _; omega⟩), w8, C.ts _ w2⟩ ⟨zPc_blind, fun U hU hW => ⟨rfl, by rw [hU], by rw [hU]; exact r3, va_K.moved hW.alike C.kk, ⟨r4.1, fun _ _ _ => trivial⟩, C.fx.warm r5 hFc (r1.1 1000 (Or.inr (Nat.le_refl _))) hU hW⟩⟩ rfl (by rw [List.length_map]; exact hn) r2.1 (by show List.map _ _ = _; simp [zr]) (lv_room (by rw [zcat_map]; exact hst)) hd ⟨by omega, by omega⟩
  refine zgo hCall r5 hFc (fun r sg' al' H1 locs1 hq hrel hP hD hS => ?_)
  rw [zmap_toList, zmap_same (fun k hk => (hrel.1 k hk).symm) hwS, ← List.map_append]
  exact kk r sg' hq p l e R s m args below meth c dC dI cA A a0 Qf C K al' H1 locs1 ls (r1.trans hrel hn0 (fun e => by omega)) (r2.same (fun k hk => (hrel.1 k hk).symm) hwL) hP hD hS
theorem zx_callIN0 {b : Nat} {host : String} {index n d' nLy : Nat} {y : MethodName} {cy : ByteArray} {rety : Option FieldType} {As : List Value} {stk : List Value} {Q' : Option Value → List zCel → Prop} (hX : zC y cy nLy none d' 0 0 (.ref b :: As) sg Q') (hw : zcIN own index y host cy nLy n) (hd : decode cc pc = .ok (.invokespecial index, 3)) (hstk : stk = As.reverse ++ .ref b :: st) (hn : As.length = n) (hd' : d' + 1 ≤ d) (hst : zcat st ≤ 8) (hcm : kc ≤ mc) (hsm : ks ≤ ms) (kk : ∀ (r : Option Value) (sg' : List zCel), Q' r sg' → zX own cc nL ret nm scr d n0 mc ms kc ks Q (pc + 3) L (r.toList ++ st) sg') : zX own cc nL ret nm scr d n0 mc ms kc ks Q pc L stk sg := by
  intro p l e R s m args below meth c dC dI cA A a0 Qf C K al H locs ls r1 r2 r3 r4 r5
  subst hstk
  have hm := C.rm
  have hFc : ∀ q, va_A (zw al cA sg) H.size q → A q := fun q h => by
    rcases h with ⟨k9, e9, h9⟩ | h9
    · exact r4.2 k9 _ h9
    · exact C.ha q (Nat.le_trans r5.1 h9)
  obtain ⟨w1, w2, w4, w5, w6, w7, w8⟩ := hw
  have hCall : va_Run p l e R s m args below meth c H locs kc ks 0 0 (F0 m pc ls ((As.reverse ++ .ref b :: st).map (zr al))) (st.map (zr al)) (zQc dC dI cA al H.size 0 sg Q' (Value.ref (al b) :: As.map (zr al)).toArray) (va_A (zw al cA sg) H.size) := by
    refine va_runIN (As := As.map (zr al)) (rest := st.map (zr al)) ⟨C.ex, C.by_, C.ml, C.ow, C.ts⟩ (hX l dC dI cA al H.size) ⟨va_cnB n C.ts (zgood w5) rfl rfl rfl (C.fx.1 _ w1 rfl) (C.ts _ w4) w6 ⟨by show d' + 1 ≤ _; omega, by show 8 + (nLy + 11) + 38 * d' ≤ _; omega⟩, w8, C.ts _ w2⟩ ⟨zPc_blind, fun U hU hW => ⟨rfl, by rw [hU], by rw [hU]; exact r3, va_K.moved hW.alike C.kk, ⟨r4.1, fun _ _ _ => trivial⟩, C.fx.warm r5 hFc (r1.1 1000 (Or.inr (Nat.le_refl _))) hU hW⟩⟩ rfl (by rw [List.length_map]; exact hn) r2.1 (by show List.map _ _ = _; simp [zr]) (lv_room (by rw [zcat_map]; exact hst)) hd ⟨by omega, by omega⟩
  refine zgo hCall r5 hFc (fun r sg' al' H1 locs1 hq hrel hP hD hS => ?_)
  obtain rfl := hrel.2 rfl
  rw [zmap_toList, ← List.map_append]
  exact kk r sg' hq p l e R s m args below meth c dC dI cA A a0 Qf C K al' H1 locs1 ls r1 r2 hP hD hS
theorem zx_callINN {mc' ms' : Nat} {b : Nat} {host : String} {index n d' nLy : Nat} {y : MethodName} {cy : ByteArray} {rety : Option FieldType} {As : List Value} {stk : List Value} {Q' : Option Value → List zCel → Prop} (hX : zC y cy nLy none d' mc' ms' (.ref b :: As) sg Q') (hw : zcIN own index y host cy nLy n) (hd : decode cc pc = .ok (.invokespecial index, 3)) (hstk : stk = As.reverse ++ .ref b :: st) (hn : As.length = n) (hd' : d' + 1 ≤ d) (hst : zcat st ≤ 8) (hcm : kc + mc' ≤ mc) (hsm : ks + ms' ≤ ms) (hn0 : n0 ≤ sg.length) (hwL : L.all (zwo sg.length) = true) (hwS : st.all (zwv sg.length) = true) (kk : ∀ (r : Option Value) (sg' : List zCel), Q' r sg' → zX own cc nL ret nm scr d n0 mc ms (kc + mc') (ks + ms') Q (pc + 3) L (r.toList ++ st) sg') : zX own cc nL ret nm scr d n0 mc ms kc ks Q pc L stk sg := by
  intro p l e R s m args below meth c dC dI cA A a0 Qf C K al H locs ls r1 r2 r3 r4 r5
  subst hstk
  have hm := C.rm
  have hFc : ∀ q, va_A (zw al cA sg) H.size q → A q := fun q h => by
    rcases h with ⟨k9, e9, h9⟩ | h9
    · exact r4.2 k9 _ h9
    · exact C.ha q (Nat.le_trans r5.1 h9)
  obtain ⟨w1, w2, w4, w5, w6, w7, w8⟩ := hw
  have hCall : va_Run p l e R s m args below meth c H locs kc ks mc' ms' (F0 m pc ls ((As.reverse ++ .ref b :: st).map (zr al))) (st.map (zr al)) (zQc dC dI cA al H.size mc' sg Q' (Value.ref (al b) :: As.map (zr al)).toArray) (va_A (zw al cA sg) H.size) := by
    refine va_runIN (As := As.map (zr al)) (rest := st.map (zr al)) ⟨C.ex, C.by_, C.ml, C.ow, C.ts⟩ (hX l dC dI cA al H.size) ⟨va_cnB n C.ts (zgood w5) rfl rfl rfl (C.fx.1 _ w1 rfl) (C.ts _ w4) w6 ⟨by show d' + 1 ≤ _; omega, by show 8 + (nLy + 11) + 38 * d' ≤ _; omega⟩, w8, C.ts _ w2⟩ ⟨zPc_blind, fun U hU hW => ⟨rfl, by rw [hU], by rw [hU]; exact r3, va_K.moved hW.alike C.kk, ⟨r4.1, fun _ _ _ => trivial⟩, C.fx.warm r5 hFc (r1.1 1000 (Or.inr (Nat.le_refl _))) hU hW⟩⟩ rfl (by rw [List.length_map]; exact hn) r2.1 (by show List.map _ _ = _; simp [zr]) (lv_room (by rw [zcat_map]; exact hst)) hd ⟨by omega, by omega⟩
  refine zgo hCall r5 hFc (fun r sg' al' H1 locs1 hq hrel hP hD hS => ?_)
  rw [zmap_toList, zmap_same (fun k hk => (hrel.1 k hk).symm) hwS, ← List.map_append]
  exact kk r sg' hq p l e R s m args below meth c dC dI cA A a0 Qf C K al' H1 locs1 ls (r1.trans hrel hn0 (fun e => by omega)) (r2.same (fun k hk => (hrel.1 k hk).symm) hwL) hP hD hS
theorem zx_new {ci N index : Nat} {C : String} {T : u_T} {fs : List Value} (hc : vwCl[ci]? = some (C, T, N)) (hcl : Cond.classLink own index C ∈ zTbl) (hinst : Cond.instantiable C N ∈ zTbl) (hini : Cond.initialized C ∈ zTbl) (ty : Nat → FieldType) (hty : ∀ k, k < N → parseFieldDescriptor (T k).2.2.1 = some (ty k)) (hfs : ∀ j, j < N → defaultValue (ty j) = vp_V fs j) (hfw : ∀ al : Nat → Nat, fs.map (zr al) = fs) (hwf : sg.all (zwc sg.length) = true) (hlen : sg.length < 1000) (hn0 : n0 ≤ sg.length) (hwL : L.all (zwo sg.length) = true) (hwS : st.all (zwv sg.length) = true) (hcells : kc + 1 ≤ mc) (hslots : ks + N ≤ ms) (hd : decode cc pc = .ok (.new index, 3)) (k : zX own cc nL ret nm scr d n0 mc ms (kc + 1) (ks + N) Q (pc + 3) L (.ref sg.length :: st) (sg ++ [.inr (.inr (ci, fs))])) : zX own cc nL ret nm scr d n0 mc ms kc ks Q pc L st sg := by
  intro p l e R s m args below meth c dC dI cA A a0 Qf C K al H locs ls r1 r2 r3 r4 r5
  have hm := C.rm
  refine va_new (D := (dC, dI)) (cl := vwCl) C.ex C.by_ C.ts (zcl hc).1 ty hty C.ow (C.ts _ hcl) (C.ts _ hinst) (C.ts _ hini) C.kk r3 r4 r5 C.ha hc hfs (by omega) (by omega) hd (fun q H1 hP hD hS => ?_)
  have hup : ∀ k, (k < sg.length ∨ 1000 ≤ k) → va_up al sg.length q k = al k := fun k hk => va_up_ne _ _ (by omega)
  have hwz : zw (va_up al sg.length q) cA sg = zw al cA sg := zw_same hup (Nat.le_refl _) hwf
  have hrel : zRel a0 (va_up al sg.length q) n0 mc := ⟨fun k hk => (hup k (hk.imp (fun h => by omega) id)).trans (r1.1 k hk), fun h => by omega⟩
  have e1 : zw (va_up al sg.length q) cA (sg ++ [.inr (.inr (ci, fs))]) = zw al cA sg ++ [(q, .inr (ci, fs))] := by
    rw [zw_push, hwz, va_up_self, ze, hfw]
  rw [← zmap_same hup hwS]
  have key := k p l e R s m args below meth c dC dI cA A a0 Qf C K (va_up al sg.length q) H1 locs ls hrel (r2.same (fun k hk => (hup k hk).symm) hwL) (by rw [e1]; exact hP) (by rw [e1]; exact hD) hS
  rw [List.map_cons, zr, va_up_self] at key
  exact key
theorem zx_newi {n : Int32} {N : Nat} (hn : ¬ n < 0) (hN : n.toNatClampNeg = N) (hb : N ≤ 1000) (hwf : sg.all (zwc sg.length) = true) (hlen : sg.length < 1000) (hn0 : n0 ≤ sg.length) (hwL : L.all (zwo sg.length) = true) (hwS : st.all (zwv sg.length) = true) (hcells : kc + 1 ≤ mc) (hslots : ks + N ≤ ms) (hd : decode cc pc = .ok (.newarray .int, 2)) (k : zX own cc nL ret nm scr d n0 mc ms (kc + 1) (ks + N) Q (pc + 2) L (.ref sg.length :: st) (sg ++ [.inl (0, N, fun _ => 0)])) : zX own cc nL ret nm scr d n0 mc ms kc ks Q pc L (.int n :: st) sg := by
  intro p l e R s m args below meth c dC dI cA A a0 Qf C K al H locs ls r1 r2 r3 r4 r5
  have hm := C.rm
  refine va_newa (D := (dC, dI)) (cl := vwCl) (ty := .int) (a0 := (N, .inl (fun _ => 0))) (N' := N) C.ex C.by_ (C.ts _ (by decide +kernel)) rfl C.kk r3 r4 r5 C.ha (fun cA => rfl) hn hN (by show N * 4 ≤ _; omega) (by omega) (by omega) hd (fun q cA' H1 hK hP hD hS => ?_)
  have hc : cA' = cA 0 := Option.some.inj (((hK.2 3 (cA', .int) rfl).2 : s.vm.findClass _ = some cA').symm.trans ((C.kk.2 0 (cA 0, .int) rfl).2 : s.vm.findClass _ = some (cA 0)))
  subst hc
  have hup : ∀ k, (k < sg.length ∨ 1000 ≤ k) → va_up al sg.length q k = al k := fun k hk => va_up_ne _ _ (by omega)
  have hwz : zw (va_up al sg.length q) cA sg = zw al cA sg := zw_same hup (Nat.le_refl _) hwf
  have hrel : zRel a0 (va_up al sg.length q) n0 mc := ⟨fun k hk => (hup k (hk.imp (fun h => by omega) id)).trans (r1.1 k hk), fun h => by omega⟩
  have e1 : zw (va_up al sg.length q) cA (sg ++ [.inl (0, N, fun _ => 0)]) = zw al cA sg ++ [(q, .inl (cA 0, N, .inl (fun _ => 0)))] := by
    rw [zw_push, hwz, va_up_self, ze]
  rw [← zmap_same hup hwS]
  have key := k p l e R s m args below meth c dC dI cA A a0 Qf C K (va_up al sg.length q) H1 locs ls hrel (r2.same (fun k hk => (hup k hk).symm) hwL) (by rw [e1]; exact hP) (by rw [e1]; exact hD) hS
  rw [List.map_cons, zr, va_up_self] at key
  exact key
theorem zx_newz {n : Int32} {N : Nat} (hn : ¬ n < 0) (hN : n.toNatClampNeg = N) (hb : N ≤ 1000) (hwf : sg.all (zwc sg.length) = true) (hlen : sg.length < 1000) (hn0 : n0 ≤ sg.length) (hwL : L.all (zwo sg.length) = true) (hwS : st.all (zwv sg.length) = true) (hcells : kc + 1 ≤ mc) (hslots : ks + N ≤ ms) (hd : decode cc pc = .ok (.newarray .boolean, 2)) (k : zX own cc nL ret nm scr d n0 mc ms (kc + 1) (ks + N) Q (pc + 2) L (.ref sg.length :: st) (sg ++ [.inl (1, N, fun _ => 0)])) : zX own cc nL ret nm scr d n0 mc ms kc ks Q pc L (.int n :: st) sg := by
  intro p l e R s m args below meth c dC dI cA A a0 Qf C K al H locs ls r1 r2 r3 r4 r5
  have hm := C.rm
  refine va_newa (D := (dC, dI)) (cl := vwCl) (ty := .boolean) (a0 := (N, .inl (fun _ => 0))) (N' := N) C.ex C.by_ (C.ts _ (by decide +kernel)) rfl C.kk r3 r4 r5 C.ha (fun cA => rfl) hn hN (by show N * 1 ≤ _; omega) (by omega) (by omega) hd (fun q cA' H1 hK hP hD hS => ?_)
  have hc : cA' = cA 1 := Option.some.inj (((hK.2 3 (cA', .boolean) rfl).2 : s.vm.findClass _ = some cA').symm.trans ((C.kk.2 1 (cA 1, .boolean) rfl).2 : s.vm.findClass _ = some (cA 1)))
  subst hc
  have hup : ∀ k, (k < sg.length ∨ 1000 ≤ k) → va_up al sg.length q k = al k := fun k hk => va_up_ne _ _ (by omega)
  have hwz : zw (va_up al sg.length q) cA sg = zw al cA sg := zw_same hup (Nat.le_refl _) hwf
  have hrel : zRel a0 (va_up al sg.length q) n0 mc := ⟨fun k hk => (hup k (hk.imp (fun h => by omega) id)).trans (r1.1 k hk), fun h => by omega⟩
  have e1 : zw (va_up al sg.length q) cA (sg ++ [.inl (1, N, fun _ => 0)]) = zw al cA sg ++ [(q, .inl (cA 1, N, .inl (fun _ => 0)))] := by
    rw [zw_push, hwz, va_up_self, ze]
  rw [← zmap_same hup hwS]
  have key := k p l e R s m args below meth c dC dI cA A a0 Qf C K (va_up al sg.length q) H1 locs ls hrel (r2.same (fun k hk => (hup k hk).symm) hwL) (by rw [e1]; exact hP) (by rw [e1]; exact hD) hS
  rw [List.map_cons, zr, va_up_self] at key
  exact key
theorem zx_newq {n : Int32} {N index : Nat} (hn : ¬ n < 0) (hN : n.toNatClampNeg = N) (hb : N ≤ 1000) (hcl : Cond.classLink own index "Strawless$State" ∈ zTbl) (hwf : sg.all (zwc sg.length) = true) (hlen : sg.length < 1000) (hn0 : n0 ≤ sg.length) (hwL : L.all (zwo sg.length) = true) (hwS : st.all (zwv sg.length) = true) (hcells : kc + 1 ≤ mc) (hslots : ks + N ≤ ms) (hd : decode cc pc = .ok (.anewarray index, 3)) (k : zX own cc nL ret nm scr d n0 mc ms (kc + 1) (ks + N) Q (pc + 3) L (.ref sg.length :: st) (sg ++ [.inr (.inl (List.replicate N none))])) : zX own cc nL ret nm scr d n0 mc ms kc ks Q pc L (.int n :: st) sg := by
  intro p l e R s m args below meth c dC dI cA A a0 Qf C K al H locs ls r1 r2 r3 r4 r5
  have hm := C.rm
  refine va_newq (D := (dC, dI)) (cl := vwCl) (C := "Strawless$State") (N' := N) C.ex C.by_ C.ow (C.ts _ hcl) C.fx.2.1 C.kk r3 r4 r5 C.ha hn hN (by omega) (by omega) (by omega) hd (fun q cA' H1 hK hP hD hS => ?_)
  obtain ⟨kA, comp, -, -, -, hk1⟩ := (hK.2 3 (cA', .object "Strawless$State") rfl).2
  obtain ⟨kA', comp', -, -, -, hk2⟩ := (C.kk.2 2 (cA 2, .object "Strawless$State") rfl).2
  have hc : cA' = cA 2 := Option.some.inj (hk1.symm.trans hk2)
  subst hc
  have hup : ∀ k, (k < sg.length ∨ 1000 ≤ k) → va_up al sg.length q k = al k := fun k hk => va_up_ne _ _ (by omega)
  have hwz : zw (va_up al sg.length q) cA sg = zw al cA sg := zw_same hup (Nat.le_refl _) hwf
  have hrel : zRel a0 (va_up al sg.length q) n0 mc := ⟨fun k hk => (hup k (hk.imp (fun h => by omega) id)).trans (r1.1 k hk), fun h => by omega⟩
  have e1 : zw (va_up al sg.length q) cA (sg ++ [.inr (.inl (List.replicate N none))]) = zw al cA sg ++ [(q, .inl (cA 2, N, .inr (.inr (.inr (.inr (fun _ => none))))))] := by
    have hz : zl (va_up al sg.length q) (List.replicate N none) = fun _ => none := by
      funext i
      unfold zl
      rw [List.getD_eq_getElem?_getD, List.getElem?_replicate]
      split <;> rfl
    rw [zw_push, hwz, va_up_self, ze, List.length_replicate, hz]
  rw [← zmap_same hup hwS]
  have key := k p l e R s m args below meth c dC dI cA A a0 Qf C K (va_up al sg.length q) H1 locs ls hrel (r2.same (fun k hk => (hup k hk).symm) hwL) (by rw [e1]; exact hP) (by rw [e1]; exact hD) hS
  rw [List.map_cons, zr, va_up_self] at key
  exact key
end ZR4
