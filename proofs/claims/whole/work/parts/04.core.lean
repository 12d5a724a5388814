/-! ===== places instead of addresses: a store is a list of cells, a reference is a place in it ===== -/
abbrev zCel : Type := (Nat × Nat × (Nat → Int32)) ⊕ (List (Option Nat)) ⊕ (Nat × List Value)
def zr (al : Nat → Nat) : Value → Value
  | .ref p => .ref (al p)
  | v => v
def zl (al : Nat → Nat) (l : List (Option Nat)) : Nat → Option Nat := fun i => (l.getD i none).map al
def ze (al : Nat → Nat) (cA : Nat → ClassId) : zCel → va_E
  | .inl (t, n, f) => .inl (cA t, n, .inl f)
  | .inr (.inl l) => .inl (cA 2, l.length, .inr (.inr (.inr (.inr (zl al l)))))
  | .inr (.inr (ci, fs)) => .inr (ci, fs.map (zr al))
def zw (al : Nat → Nat) (cA : Nat → ClassId) (sg : List zCel) : va_W := sg.mapIdx (fun k c => (al k, ze al cA c))
theorem zw_at {al : Nat → Nat} {cA : Nat → ClassId} {sg : List zCel} {k : Nat} {c : zCel} (h : sg[k]? = some c) : (zw al cA sg)[k]? = some (al k, ze al cA c) := by
  unfold zw
  rw [List.getElem?_mapIdx, h]
  rfl
theorem zw_set {al : Nat → Nat} {cA : Nat → ClassId} {sg : List zCel} {k : Nat} {c : zCel} : (zw al cA sg).set k (al k, ze al cA c) = zw al cA (sg.set k c) := by
  apply List.ext_getElem?
  intro i
  unfold zw
  rw [List.getElem?_mapIdx, List.getElem?_set, List.getElem?_set]
  by_cases h : k = i
  · subst h
    by_cases h2 : k < sg.length
    · simp [h2]
    · simp [h2]
  · simp [h]
theorem zw_len {al : Nat → Nat} {cA : Nat → ClassId} {sg : List zCel} : (zw al cA sg).length = sg.length := by
  unfold zw; simp
def ztys (cA : Nat → ClassId) : List (ClassId × FieldType) := [(cA 0, .int), (cA 1, .boolean), (cA 2, .object "Strawless$State")]
def zTbl : List Cond := lw_tbl.filter goodWord
theorem zTbl_in {w : Cond} (h : w ∈ lw_tbl) (hg : goodWord w = true) : w ∈ zTbl := List.mem_filter.mpr ⟨h, hg⟩
theorem zTbl_good {w : Cond} (h : w ∈ zTbl) : (w.onTables && w.keeps) = true ∨ ∃ ty, w = .arrayClass ty := good_of_word (List.mem_filter.mp h).2
def zisNest : Cond → Bool
  | .methodLinkNest _ _ _ _ => true
  | _ => false
def zfac : Nat → Value := fun k => .int (match k with | 0 => 1 | 1 => 1 | 2 => 2 | 3 => 6 | 4 => 24 | _ => 120)
/-- what every method may ask of the tables and statics beside the words -/
def zF (al : Nat → Nat) (A : Nat → Prop) (U : State) : Prop :=
  (∀ w ∈ lw_tbl, zisNest w = true → va_Nw w U) ∧ va_AO "Strawless$State" U ∧ va_Z "Strawless" "FACTORIALS" "[I" (.ref (al 1000)) A U U.heap ∧ va_T .int (al 1000) 6 zfac A U U.heap
def zRel (a0 al : Nat → Nat) (n0 mc : Nat) : Prop := (∀ k, (k < n0 ∨ 1000 ≤ k) → al k = a0 k) ∧ (mc = 0 → al = a0)
theorem zRel.rf {a0 : Nat → Nat} {n0 mc : Nat} : zRel a0 a0 n0 mc := ⟨fun _ _ => rfl, fun _ => rfl⟩
def zLs (al : Nat → Nat) (ls : Array Slot) (nL : Nat) (L : List (Option Value)) : Prop := ls.size = nL ∧ lv_wf ls ∧ ∀ (i : Nat) (v : Value), L[i]? = some (some v) → ls[i]? = some (.val (zr al v))
def zret (cc : ByteArray) (pc : Nat) (r : Option Value) (ret : Option FieldType) : Prop :=
  (r = none ∧ ret = none ∧ decode cc pc = .ok (.return_, 1)) ∨ (∃ (v : Int32) (ty : FieldType), r = some (.int v) ∧ ret = some ty ∧ narrow ty (.int v) = .int v ∧ decode cc pc = .ok (.ireturn, 1)) ∨ (∃ v : Int64, r = some (.long v) ∧ ret = some .long ∧ decode cc pc = .ok (.lreturn, 1))
def zCtx (own : String) (cc : ByteArray) (nL : Nat) (ret : Option FieldType) (nm : String) (scr : Option (Nat × (Nat → Int32))) (d mc ms : Nat)
    (p : Program) (R : Room) (s : State) (m : MethodId) (args : Array Value) (meth : Method) (c : Code) (dC : Nat → ClassId) (dI : Nat → Nat → Nat) (cA : Nat → ClassId) (A : Nat → Prop) (a0 : Nat → Nat) : Prop :=
  p.tables.exec = Jvm.exec ∧ c.code = cc ∧ meth.sig.returnType = ret ∧ c.maxLocals = nL ∧ s.vm.findClass own = some m.cls ∧ meth.locks = false ∧ meth.name = nm ∧
  (∀ w ∈ zTbl, w.before args s = true) ∧ zF a0 A s ∧ va_K (dC, dI) vwCl (ztys cA) s ∧ (∀ q, s.heap.size ≤ q → A q) ∧ (d ≤ R.frames ∧ 38 * d ≤ R.locals ∧ mc ≤ R.cells ∧ ms ≤ R.slots) ∧
  (∀ (L : Nat) (xs : Nat → Int32), scr = some (L, xs) → va_X (a0 1001) L xs s s.heap ∧ a0 1001 < s.heap.size ∧ ¬ A (a0 1001))
/-- the machine stands in a method of ours at pc, its locals and stack as told, the heap holds the store: it comes to an end with Q -/
def zX (own : String) (cc : ByteArray) (nL : Nat) (ret : Option FieldType) (nm : String) (scr : Option (Nat × (Nat → Int32))) (d n0 mc ms kc ks : Nat) (Q : Option Value → List zCel → Prop)
    (pc : Nat) (L : List (Option Value)) (st : List Value) (sg : List zCel) : Prop :=
  ∀ (p : Program) (l : Launch) (e : Env) (R : Room) (s : State) (m : MethodId) (args : Array Value) (below : List Frame) (meth : Method) (c : Code) (dC : Nat → ClassId) (dI : Nat → Nat → Nat) (cA : Nat → ClassId) (A : Nat → Prop) (a0 : Nat → Nat) (Qf : State → Prop),
    zCtx own cc nL ret nm scr d mc ms p R s m args meth c dC dI cA A a0 →
    (∀ (al : Nat → Nat) (H : Heap) (locs : List Loc) (ls : Array Slot) (pc : Nat) (sg : List zCel) (r : Option Value), Q r sg → zRel a0 al n0 mc → va_P (dC, dI) vwCl (zw al cA sg) H → va_D A (zw al cA sg) → va_S A s.heap H locs → zret cc pc r ret → W p l e R s m args below meth c H locs mc ms Qf (F0 m pc ls (r.toList.map (zr al)))) →
    ∀ (al : Nat → Nat) (H : Heap) (locs : List Loc) (ls : Array Slot), zRel a0 al n0 mc → zLs al ls nL L → va_P (dC, dI) vwCl (zw al cA sg) H → va_D A (zw al cA sg) → va_S A s.heap H locs →
    W p l e R s m args below meth c H locs kc ks Qf (F0 m pc ls (st.map (zr al)))
/-- a method's contract: at these arguments and this store it returns with Q -/
def zPc (dC : Nat → ClassId) (dI : Nat → Nat → Nat) (cA : Nat → ClassId) (al : Nat → Nat) (sz : Nat) (as : List Value) (sg : List zCel) : Array Value → State → Prop :=
  va_Pc (as.map (zr al)) (fun U => U.heap.size = sz ∧ va_P (dC, dI) vwCl (zw al cA sg) U.heap ∧ va_K (dC, dI) vwCl (ztys cA) U ∧ va_D (fun _ => True) (zw al cA sg) ∧ zF al (va_A (zw al cA sg) sz) U)
def zQc (dC : Nat → ClassId) (dI : Nat → Nat → Nat) (cA : Nat → ClassId) (al : Nat → Nat) (sz mc : Nat) (sg : List zCel) (Q : Option Value → List zCel → Prop) : Array Value → State → Outcome → State → Prop :=
  fun _ st oc t => (∃ (r : Option Value) (sg' : List zCel) (al' : Nat → Nat), oc = .returned (r.map (zr al')) ∧ Q r sg' ∧ zRel al al' sg.length mc ∧ va_P (dC, dI) vwCl (zw al' cA sg') t.heap ∧ va_D (va_A (zw al cA sg) sz) (zw al' cA sg')) ∧ va_F (va_A (zw al cA sg) sz) st t
def zC (y : MethodName) (cc : ByteArray) (nL : Nat) (ret : Option FieldType) (d mc ms : Nat) (as : List Value) (sg : List zCel) (Q : Option Value → List zCel → Prop) : Prop :=
  ∀ (l : Launch) (dC : Nat → ClassId) (dI : Nat → Nat → Nat) (cA : Nat → ClassId) (al : Nat → Nat) (sz : Nat),
    Met l y (.code y cc nL ret :: zTbl) ({ frames := d, cells := mc, slots := ms, locals := 38 * d }) (zPc dC dI cA al sz as sg) (zQc dC dI cA al sz mc sg Q) mc ms (va_A (zw al cA sg) sz)
def zent : Nat → List Value → List (Option Value)
  | n, [] => List.replicate n none
  | n, v :: vs => if v.category = 2 then some v :: none :: zent (n - 2) vs else some v :: zent (n - 1) vs
theorem zr_cat (al : Nat → Nat) (v : Value) : (zr al v).category = v.category := by cases v <;> rfl
theorem zent_at (al : Nat → Nat) : ∀ (vs : List Value) (n k : Nat), ∀ (i : Nat) (v : Value), (zent n vs)[i]? = some (some v) → (k + i, zr al v) ∈ lv_args k (vs.map (zr al)) := by
  intro vs
  induction vs with
  | nil =>
    intro n k i v h
    simp only [zent, List.getElem?_replicate] at h
    split at h <;> simp at h
  | cons w vs ih =>
    intro n k i v h
    simp only [List.map_cons, lv_args, zr_cat]
    simp only [zent] at h
    by_cases hc : w.category = 2
    · simp only [hc, if_true] at h ⊢
      match i, h with
      | 0, h =>
        simp at h
        subst h
        exact List.mem_cons_self
      | 1, h => simp at h
      | i + 2, h =>
        simp only [List.getElem?_cons_succ] at h
        have := ih (n - 2) (k + 2) i v h
        rw [show k + (i + 2) = k + 2 + i by omega]
        exact List.mem_cons_of_mem _ this
    · simp only [hc, if_false] at h ⊢
      match i, h with
      | 0, h =>
        simp at h
        subst h
        exact List.mem_cons_self
      | i + 1, h =>
        simp only [List.getElem?_cons_succ] at h
        have := ih (n - 1) (k + 1) i v h
        rw [show k + (i + 1) = k + 1 + i by omega]
        exact List.mem_cons_of_mem _ this
theorem zsl_len (al : Nat → Nat) (vs : List Value) : (lg_sl (vs.map (zr al))).length = (lg_sl vs).length := by
  induction vs with
  | nil => rfl
  | cons v vs ih =>
    simp only [lg_sl, List.map_cons, List.flatMap_cons, List.length_append, zr_cat] at ih ⊢
    rw [ih]
    split <;> rfl
theorem zF.warm {a0 al : Nat → Nat} {A B : Nat → Prop} {s U : State} {H : Heap} {locs : List Loc} (h : zF a0 A s) (hS : va_S A s.heap H locs) (hAB : ∀ q, B q → A q) (e : al 1000 = a0 1000) (hU : U.heap = H) (hW : s.WarmedH U.vm) : zF al B U := by
  obtain ⟨h1, h2, h3, h4⟩ := h
  refine ⟨fun w hw hn => ?_, h2.moved hW.alike, ?_, ?_⟩
  · have hz := h1 w hw hn
    cases w <;> first | exact va_Nw.warmM hW hz | cases hn
  · rw [e, hU]
    exact ((h3.kept (fun a q1 q2 => hS.2.1 a q1 q2)).narrow hAB).moved hW.alike
  · rw [e, hU]
    exact ((h4.kept (fun a q1 q2 => hS.2.1 a q1 q2)).narrow hAB).moved hW.alike
theorem zPc_blind {dC : Nat → ClassId} {dI : Nat → Nat → Nat} {cA : Nat → ClassId} {al : Nat → Nat} {sz : Nat} {as : List Value} {sg : List zCel} : FrameBlind (zPc dC dI cA al sz as sg) := by
  intro a U g mk h
  obtain ⟨q0, q1, qP, qK, qD, w1, w2, w3, w4⟩ := h
  refine ⟨q0, q1, qP, va_K.moved (u := U) (U := U.calling g mk a) (Vm.Alike.refl U.vm) qK, qD, fun w hw hn => ?_, va_AO.moved (u := U) (U := U.calling g mk a) (Vm.Alike.refl U.vm) w2, va_Z.moved (u := U) (U := U.calling g mk a) (Vm.Alike.refl U.vm) w3, va_T.moved (u := U) (U := U.calling g mk a) (Vm.Alike.refl U.vm) w4⟩
  have hz := w1 w hw hn
  cases w <;> first | exact va_Nw.same (u := U) (U := U.calling g mk a) rfl rfl hz | cases hn
set_option maxHeartbeats 4000000 in
theorem zC.intro {y : MethodName} {cc : ByteArray} {nL : Nat} {ret : Option FieldType} {d mc ms : Nat} {as : List Value} {sg : List zCel} {Q : Option Value → List zCel → Prop} {L : List (Option Value)} (hy : plainName y.cls = true) (hlen : (lg_sl as).length ≤ nL) (hL : zent nL as = L)
    (hx : zX y.cls cc nL ret y.name none d sg.length mc ms 0 0 Q 0 L [] sg) : zC y cc nL ret d mc ms as sg Q := by
  intro l dC dI cA al sz
  refine Met.ofW (cc := cc) (maxL := nL) (ret := ret) hy rfl ?_
  intro p e s m args below meth c s₁ B hml hv
  obtain ⟨rfl, hsz, hP, hK, hD0, hFs⟩ := hv
  have hx0 := B.exec
  have hb := B.bytes
  have hr := B.returns
  have hts := atoms_spec (ws := .code y cc nL ret :: zTbl) B.pre
  have hown : s.vm.findClass y.cls = some m.cls := findClass_of_methodNamed B.named
  have hlocks := B.notSynchronized
  have hin : meth.name = y.name := (name_of_methodNamed B.named B.method).1
  subst hsz
  have hD := hD0.self (sz := s.heap.size)
  have hA : ∀ q : Nat, s.heap.size ≤ q → va_A (zw al cA sg) s.heap.size q := fun q h => Or.inr h
  have hl := lv_entry (as.map (zr al)) (n := nL) (by rw [zsl_len]; exact hlen)
  rw [lg_entry_eq]
  refine hx p l e _ s m _ below meth c dC dI cA (va_A (zw al cA sg) s.heap.size) al _ ⟨hx0, hb, hr, hml, hown, hlocks, hin, fun w hw => hts w (List.mem_cons_of_mem _ hw), hFs, hK, hA, ⟨Nat.le_refl _, Nat.le_refl _, Nat.le_refl _, Nat.le_refl _⟩, fun _ _ h => by cases h⟩ ?_ al s.heap [] _ zRel.rf ⟨hl.1, hl.2.1, fun i v h => ?_⟩ hP hD va_S.rf
  · intro al' H locs ls pc sg' r hQ hrel hP' hD' hS' hrt
    rcases hrt with ⟨rfl, e2, hd⟩ | ⟨v, ty, rfl, e2, hn, hd⟩ | ⟨v, rfl, e2, hd⟩
    · exact W.vret hx0 hb (hr.trans e2) (fun t ht hW => ⟨⟨none, sg', al', rfl, hQ, hrel, by rw [ht]; exact hP', hD'⟩, hS'.F ht⟩) hS'.2.2 hd
    · exact W.zret hx0 hb (hr.trans e2) hn (fun t ht hW => ⟨⟨some (.int v), sg', al', rfl, hQ, hrel, by rw [ht]; exact hP', hD'⟩, hS'.F ht⟩) hS'.2.2 hd
    · exact W.lret hx0 hb (hr.trans e2) (fun t ht hW => ⟨⟨some (.long v), sg', al', rfl, hQ, hrel, by rw [ht]; exact hP', hD'⟩, hS'.F ht⟩) hS'.2.2 hd
  · subst hL
    have h9 := zent_at al as nL 0 i v h
    rw [Nat.zero_add] at h9
    exact hl.2.2 _ h9
