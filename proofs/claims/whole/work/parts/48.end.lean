/-! THE CLAIM OUT OF ONE WALK OF THE LAW'S BODY. Your part is whole_start (and what it stands on); all else here is the same for every law, but numbers. -/
def R_law : String := "StrawlessLaw"
def lw_P (b : Addr) (xs : List Int32) (args : Array Value) (s : State) : Prop := args = #[.ref b] ∧ s.IntsAt b xs ∧ xs.length ≤ 320 ∧ (Jvm.Cond.and given_1 narrow_1).before args s = true
def lw_Q (_ : Array Value) (s : State) (o : Outcome) (t : State) : Prop := o = .returned (some (.int 1)) ∧ Framed s o t [] 600000 7302250
def lw_Z (below : List Frame) (a : Array Value) (s : State) : State → Prop := fun t => ∃ o, t.status = .running ∧ Ended t below o ∧ lw_Q a s o t
/-- the law's own end, with 1 on the stack, nothing written that was there before, its room as the claim has it -/
theorem lw_ret {p : Program} {l : Launch} {e : Env} {s : State} {m : MethodId} {below : List Frame} {meth : Method} {c : Code} {b : Nat} (hx : p.tables.exec = Jvm.exec) (hb : c.code = code) (hr : meth.sig.returnType = ret) (hlocks : meth.locks = false) {pc : Nat} {H : Heap} {ls : Array Slot} (hdg : decode code pc = .ok (.ireturn, 1)) : W p l e room_1 s m #[Value.ref b] below meth c H [] 600000 7302250 (lw_Z below #[Value.ref b] s) (F0 m pc ls [.int 1]) := by
  intro T hT X
  obtain ⟨fs, hret, hrun, hended, hW, hframe⟩ := X.leave (v := some (.int 1)) (hlocks := hlocks) (fun h => by rw [hr] at h; cases h)
  have hmeth' : T.vm.method? m = some meth := X.method'
  refine ⟨T.setFrames fs, ?_, .returned (some (.int 1)), hrun, hended, rfl, ⟨_, rfl⟩, hW, hframe⟩
  jvm_step X.here [X.here.top, hx, hb, hdg, hmeth', hr, ret, narrow_b1]
  (try refine ⟨rfl, ?_⟩); (try refine ⟨rfl, ?_⟩)
  first | (intro acts; rw [hret _ acts rfl rfl rfl]) | rw [hret _ _ rfl rfl rfl]
  exact Steps.refl _
/-- what holds at the law's entry: the machine, the code, the tables' words (any of lw_tbl by 'hts w (by decide +kernel)'), the script of L ints xs at the cell b, what the Statement gives of the start (any of its parts by flat_of_before) -/
def lw_At (p : Program) (s : State) (m : MethodId) (meth : Method) (c : Code) (b L : Nat) (xs : Nat → Int32) : Prop :=
  p.tables.exec = Jvm.exec ∧ c.code = code ∧ meth.sig.returnType = ret ∧ c.maxLocals = 4 ∧ s.vm.findClass R_law = some m.cls ∧ (∀ w ∈ lw_tbl, w.before #[Value.ref b] s = true) ∧ va_X b L xs s s.heap ∧ b < s.heap.size ∧ meth.locks = false ∧ (Jvm.Cond.and given_1 narrow_1).before #[Value.ref b] s = true
set_option maxHeartbeats 8000000 in
set_option maxRecDepth 20000 in
theorem whole_start {p : Program} {e : Env} {s : State} {m : MethodId} {below : List Frame} {meth : Method} {c : Code} (l : Launch) {b L : Nat} {xs : Nat → Int32} (hL : L ≤ 320) (C0 : lw_At p s m meth c b L xs) : W p l e room_1 s m #[Value.ref b] below meth c s.heap [] 0 0 (lw_Z below #[Value.ref b] s) (entryFrame m ([Value.ref b] : List Value).toArray 4) := by
  obtain ⟨hx, hb, hr, hml, hown, hts, hX, hbl, hlocks, hgv⟩ := C0
  have hfl := flat_of_before _ hgv
  have hA : ∀ a : Nat, a < s.heap.size → ¬ (fun q : Nat => s.heap.size ≤ q) a := fun a h q => absurd h (Nat.not_lt.mpr q)
  obtain ⟨t, ht, hT⟩ := va_Tof (tm := (.static "Strawless" "FACTORIALS" "[I")) (ty := .int) (N := 6) (f := zfac) (A := fun q : Nat => s.heap.size ≤ q) (by decide) (hfl (Cond.arrayOf (.static "Strawless" "FACTORIALS" "[I") .int) (by decide +kernel)) (va_eqt (hfl (Cond.eq (.length (.static "Strawless" "FACTORIALS" "[I")) (.int 6)) (by decide +kernel))) (fun j hj => by
      rcases (show j = 0 ∨ j = 1 ∨ j = 2 ∨ j = 3 ∨ j = 4 ∨ j = 5 by omega) with rfl | rfl | rfl | rfl | rfl | rfl
      · exact va_eqt (hfl (Cond.eq (.elem (.static "Strawless" "FACTORIALS" "[I") (.int 0)) (.int 1)) (by decide +kernel))
      · exact va_eqt (hfl (Cond.eq (.elem (.static "Strawless" "FACTORIALS" "[I") (.int 1)) (.int 1)) (by decide +kernel))
      · exact va_eqt (hfl (Cond.eq (.elem (.static "Strawless" "FACTORIALS" "[I") (.int 2)) (.int 2)) (by decide +kernel))
      · exact va_eqt (hfl (Cond.eq (.elem (.static "Strawless" "FACTORIALS" "[I") (.int 3)) (.int 6)) (by decide +kernel))
      · exact va_eqt (hfl (Cond.eq (.elem (.static "Strawless" "FACTORIALS" "[I") (.int 4)) (.int 24)) (by decide +kernel))
      · exact va_eqt (hfl (Cond.eq (.elem (.static "Strawless" "FACTORIALS" "[I") (.int 5)) (.int 120)) (by decide +kernel))) hA
  have hZ := va_Zref (hts (.laysStatic "Strawless" "FACTORIALS" "[I") (by decide +kernel)) (hts (.initialized "Strawless") (by decide +kernel)) ht hA
  obtain ⟨c0, i0, K0⟩ := u_known (C := RX0) (T := TX0) (N := 3) (n := 3) hts (by decide +kernel) (hts (.instantiable RX0 3) (by decide +kernel))
  obtain ⟨c1, i1, K1⟩ := u_known (C := RX1) (T := TX1) (N := 7) (n := 7) hts (by decide +kernel) (hts (.instantiable RX1 7) (by decide +kernel))
  obtain ⟨c2, i2, K2⟩ := u_known (C := RX2) (T := TX2) (N := 6) (n := 6) hts (by decide +kernel) (hts (.instantiable RX2 6) (by decide +kernel))
  obtain ⟨c3, i3, K3⟩ := u_known (C := RX3) (T := TX3) (N := 4) (n := 4) hts (by decide +kernel) (hts (.instantiable RX3 4) (by decide +kernel))
  obtain ⟨c4, i4, K4⟩ := u_known (C := RX4) (T := TX4) (N := 2) (n := 2) hts (by decide +kernel) (hts (.instantiable RX4 2) (by decide +kernel))
  obtain ⟨c5, i5, K5⟩ := u_known (C := RX5) (T := TX5) (N := 9) (n := 9) hts (by decide +kernel) (hts (.instantiable RX5 9) (by decide +kernel))
  obtain ⟨c6, i6, K6⟩ := u_known (C := RX6) (T := TX6) (N := 2) (n := 2) hts (by decide +kernel) (hts (.instantiable RX6 2) (by decide +kernel))
  obtain ⟨c7, i7, K7⟩ := u_known (C := RX8) (T := TX8) (N := 4) (n := 4) hts (by decide +kernel) (hts (.instantiable RX8 4) (by decide +kernel))
  obtain ⟨c8, i8, K8⟩ := u_known (C := RX9) (T := TX9) (N := 10) (n := 10) hts (by decide +kernel) (hts (.instantiable RX9 10) (by decide +kernel))
  obtain ⟨c9, i9, K9⟩ := u_known (C := RX10) (T := TX10) (N := 39) (n := 39) hts (by decide +kernel) (hts (.instantiable RX10 39) (by decide +kernel))
  obtain ⟨a0, k0, m0, g01, g02, g03⟩ := Cond.arrayClass_spec (hts (.arrayClass .int) (by decide +kernel))
  obtain ⟨a1, k1, m1, g11, g12, g13⟩ := Cond.arrayClass_spec (hts (.arrayClass .boolean) (by decide +kernel))
  obtain ⟨m2, a2, k2, g21, -, g22, g23, g24⟩ := Cond.arrayOver_spec (hts (.arrayOver (.object "Strawless$State")) (by decide +kernel))
  have hK : va_K ((fun k : Nat => match k with | 0 => c0 | 1 => c1 | 2 => c2 | 3 => c3 | 4 => c4 | 5 => c5 | 6 => c6 | 7 => c7 | 8 => c8 | _ => c9), (fun k : Nat => match k with | 0 => i0 | 1 => i1 | 2 => i2 | 3 => i3 | 4 => i4 | 5 => i5 | 6 => i6 | 7 => i7 | 8 => i8 | _ => i9)) vwCl (ztys (fun k : Nat => match k with | 0 => a0 | 1 => a1 | _ => a2)) s := by
    refine ⟨fun c q hq => ?_, fun k q hq => ?_⟩
    · have hc : c < 10 := (List.getElem?_eq_some_iff.mp hq).1
      rcases (show c = 0 ∨ c = 1 ∨ c = 2 ∨ c = 3 ∨ c = 4 ∨ c = 5 ∨ c = 6 ∨ c = 7 ∨ c = 8 ∨ c = 9 by omega) with rfl | rfl | rfl | rfl | rfl | rfl | rfl | rfl | rfl | rfl
      · have e : (RX0, TX0, 3) = q := Option.some.inj hq
        subst e
        exact K0
      · have e : (RX1, TX1, 7) = q := Option.some.inj hq
        subst e
        exact K1
      · have e : (RX2, TX2, 6) = q := Option.some.inj hq
        subst e
        exact K2
      · have e : (RX3, TX3, 4) = q := Option.some.inj hq
        subst e
        exact K3
      · have e : (RX4, TX4, 2) = q := Option.some.inj hq
        subst e
        exact K4
      · have e : (RX5, TX5, 9) = q := Option.some.inj hq
        subst e
        exact K5
      · have e : (RX6, TX6, 2) = q := Option.some.inj hq
        subst e
        exact K6
      · have e : (RX8, TX8, 4) = q := Option.some.inj hq
        subst e
        exact K7
      · have e : (RX9, TX9, 10) = q := Option.some.inj hq
        subst e
        exact K8
      · have e : (RX10, TX10, 39) = q := Option.some.inj hq
        subst e
        exact K9
    · have hc : k < 3 := (List.getElem?_eq_some_iff.mp hq).1
      rcases (show k = 0 ∨ k = 1 ∨ k = 2 by omega) with rfl | rfl | rfl
      · have e : (a0, FieldType.int) = q := Option.some.inj hq
        subst e
        exact ⟨fun n z => ⟨fun k h => (by cases h), k0, g02, m0, g03⟩, g01⟩
      · have e : (a1, FieldType.boolean) = q := Option.some.inj hq
        subst e
        exact ⟨fun n z => ⟨fun k h => (by cases h), k1, g12, m1, g13⟩, g11⟩
      · have e : (a2, FieldType.object "Strawless$State") = q := Option.some.inj hq
        subst e
        exact ⟨fun n z => ⟨fun k h => (by cases h), k2, g22, m2, g23⟩, ⟨k2, m2, g22, g23, g21, g24⟩⟩
  have hl := lv_entry ([Value.ref b]) (n := 4) (Nat.le_of_ble_eq_true rfl)
  rw [lg_entry_eq]
  refine lw_begin (nm := meth.name) (d := 1) (xs := xs) hL p l e room_1 s m #[Value.ref b] below meth c (fun k : Nat => match k with | 0 => c0 | 1 => c1 | 2 => c2 | 3 => c3 | 4 => c4 | 5 => c5 | 6 => c6 | 7 => c7 | 8 => c8 | _ => c9) (fun k : Nat => match k with | 0 => i0 | 1 => i1 | 2 => i2 | 3 => i3 | 4 => i4 | 5 => i5 | 6 => i6 | 7 => i7 | 8 => i8 | _ => i9) (fun k : Nat => match k with | 0 => a0 | 1 => a1 | _ => a2) (fun q : Nat => s.heap.size ≤ q) (fun k : Nat => if k = 1000 then t else b) (lw_Z below #[Value.ref b] s) ⟨hx, hb, hr, hml, hown, hlocks, rfl, fun w hw => hts w (List.mem_filter.mp hw).1, ⟨fun w hw hn => ?_, va_AO.of (hts (.arrayOver (.object "Strawless$State")) (by decide +kernel)), hZ, hT⟩, hK, fun q h => h, ⟨by decide, by decide, by decide, by decide⟩, fun N ys h => ?_⟩ ?_ (fun k : Nat => if k = 1000 then t else b) s.heap [] _ zRel.rf ⟨hl.1, hl.2.1, fun i v h => ?_⟩ (fun k q h => (by cases h)) ⟨fun i j p q h => (by cases h), fun k q h => (by cases h)⟩ va_S.rf
  · have hz := hts w hw
    cases w <;> first | exact va_Nw.of rfl hz | cases hn
  · cases h
    exact ⟨hX, hbl, hA b hbl⟩
  · intro al H locs ls pc sg r hQ hrel hP hD hS hret
    subst hQ
    rcases hret with ⟨h1, -⟩ | ⟨v, ty, h1, -, -, hd⟩ | ⟨v, h1, -⟩
    · cases h1
    · exact va_forget hS.2.2 (lw_ret hx hb hr hlocks hd)
    · cases h1
  · rcases i with _ | i
    · have e1 : v = Value.ref 1001 := (Option.some.inj (Option.some.inj h)).symm
      subst e1
      exact hl.2.2 (0, Value.ref b) (by simp [lv_args])
    · rcases i with _ | _ | _ | i
      · cases h
      · cases h
      · cases h
      · simp at h
set_option maxHeartbeats 4000000 in
theorem lw_walk (l : Launch) (b : Addr) (xs : List Int32) : MetFree l x (headSpec (Jvm.Cond.code x code maxLocals ret :: tables_1) room_1) (lw_P b xs) (fun _ _ _ _ _ => True) lw_Q := by
  refine MetFree.of_bodyS (code := code) (maxLocals := maxLocals) (ret := ret) (by decide) ?_ ?_
  · intro args s m h hn
    obtain ⟨meth, c, h1, h2, h3, h4, h5, h6, -, -⟩ := Cond.code_spec hn (atoms_spec (ws := Jvm.Cond.code x code maxLocals ret :: tables_1) h _ List.mem_cons_self)
    exact ⟨meth, c, h1, h2, h3, h4, h5, h6⟩
  · intro p e s m args below meth c s₁ B hml0 hP _
    obtain ⟨rfl, hx, hbd, hgv⟩ := hP
    obtain ⟨scr, harrAt, hlist, hof, hsmall⟩ := hx
    obtain ⟨hcb, hkn, -, -⟩ := State.arrayAt?_spec harrAt
    have hown : s.vm.findClass R_law = some m.cls := findClass_of_methodNamed B.named
    have hts0 : ∀ c ∈ (Jvm.Cond.code x code maxLocals ret :: tables_1), c.before #[Value.ref b] s = true := atoms_spec (ws := Jvm.Cond.code x code maxLocals ret :: tables_1) B.pre
    have hts : ∀ w ∈ lw_tbl, w.before #[Value.ref b] s = true := k2_hts_sels lw_privs (fun w hw => hts0 w (List.mem_cons_of_mem _ hw)) lw_privs_ok
    have hml : c.maxLocals = 4 := B.maxLocals_eq (hts0 _ List.mem_cons_self)
    have X₀ : Stand p l e room_1 s m #[Value.ref b] below meth c s₁ [] 0 0 := Stand.of_body B
    have hh0 : s₁.heap = s.heap := by rw [B.state]; rfl
    have hsz : scr.slots.size = xs.length := by rw [← Array.length_toList, hlist, List.length_map]
    have hval : ∀ j : Nat, j < xs.length → scr.slots[j]? = some (.int (xs.getD j 0)) := fun j hj => by
      rw [← Array.getElem?_toList, hlist]
      simp [hj]
    have hbl : b < s.heap.size := (Array.getElem?_eq_some_iff.mp hcb).1
    have hX : va_X b xs.length (fun j => xs.getD j 0) s s.heap := ⟨scr, hcb, hof, hkn, hsz, hval⟩
    have K : W p l e room_1 s m #[Value.ref b] below meth c s₁.heap [] 0 0 (lw_Z below #[Value.ref b] s) (entryFrame m ([Value.ref b] : List Value).toArray 4) := by
      rw [hh0]
      exact whole_start l hbd ⟨B.exec, B.bytes, B.returns, hml, hown, hts, hX, hbl, B.notSynchronized, hgv⟩
    obtain ⟨t, a1, o, b1, b2, b3⟩ := K s₁ rfl X₀
    exact ⟨t, o, a1, b1, b2, b3⟩
theorem lw_pre_spec {args : Array Value} {s : State} (h : (Jvm.Cond.and given_1 narrow_1).before args s = true) (hr : rest_1_c.before args s = true) : ∃ (b : Addr) (xs : List Int32), lw_P b xs args s := by
  have hs := flat_of_before _ h
  have hq := flat_of_before _ hr
  have hc : (Cond.count 1).before args s = true := hs _ (by decide +kernel)
  have harr : (Cond.arrayOf (.arg 0) .int).before args s = true := hs _ (by decide +kernel)
  have hle : (Cond.le (.length (.arg 0)) (.int 320)).before args s = true := hs _ (by decide +kernel)
  have hlen : (Cond.isInt (.length (.arg 0))).before args s = true := hq _ (by decide +kernel)
  have hall : (Cond.all (.arg 0) (.isInt (.elem (.arg 0) (.index 0)))).before args s = true := hq _ (by decide +kernel)
  obtain ⟨b, xs, hb, hx⟩ := State.ints_of_pre rfl harr hlen hall
  have hsm : xs.length < 2 ^ 31 := hx.choose_spec.2.2.2
  have hev : (Term.length (.arg 0)).eval args s none [] s = some (.int xs.length.toInt32) := hx.length_eval hb
  have hv := Cond.le_ints hev (show (Term.int 320).eval args s none [] s = some (.int 320) from rfl)
  have hd : xs.length.toInt32 ≤ 320 := by
    simpa [Cond.before, Cond.holds, hv] using hle
  have hN : xs.length ≤ 320 := (Int32.ofNat_le_ofNat hsm (by decide)).mp (show Int32.ofNat xs.length ≤ Int32.ofNat 320 from hd)
  exact ⟨b, xs, Cond.one_arg hc (show args[0]? = some (.ref b) from hb), hx, hN, h⟩
theorem lw_comes (l : Launch) : Comes l x (Jvm.Cond.code x code maxLocals ret :: tables_1) room_1 (fun tb e args s => Calls_1 tb e args s ∧ rest_1 tb e args s ∧ Pre_1 tb e args s)
    (fun _ _ args s o t => lw_Q args s o t) := by
  intro p e ha hc hk s m args below hf hfit hheap happ hpre
  obtain ⟨b, xs, hP⟩ := lw_pre_spec hpre.2.2 hpre.2.1
  obtain ⟨k, o, h1, h2, h3, hQ⟩ := lw_walk l b xs p e ha hc hk s m args below hf ((Spec.applies_iff_loose hf).mp happ).1 hP trivial
  exact ⟨k, o, h1, h2, h3, hQ⟩
theorem lw_frame {s t : State} {o : Outcome} {args : Array Value} (h : Framed s o t [] 600000 7302250) :
    Framed s o t (fieldLocs frame_1_writes args s ++ arrayLocs frame_1_arrays args s ++ staticLocs frame_1_statics s) 600000 7302250 := h
theorem lw_limb (L : Cond) (hL : ∀ (args : Array Value) (s t : State), L.after args s (.returned (some (.int 1))) t = true) :
    ArmFor flags0 classFile x code maxLocals ret World_1 tables_1 room_1 Calls_1 rest_1 Pre_1
      (fun tb e a s o t => postC L tb e a s o t ∧ Framed s o t (fieldLocs frame_1_writes a s ++ arrayLocs frame_1_arrays a s ++ staticLocs frame_1_statics s) 600000 7302250) := by
  intro l _ _ _ p e ha hc hk s m args below hf hfit hheap happ hpre
  obtain ⟨k, o, h1, h2, h3, rfl, hF⟩ := lw_comes l p e ha hc hk s m args below hf hfit hheap happ hpre
  exact ⟨k, _, h1, h2, h3, hL args s _, lw_frame hF⟩
theorem i_vc : Claimed_1_1 ∧ Claimed_1_2 := ⟨lw_limb limb_1_1 (fun args s t => by simp [limb_1_1, Cond.after, Cond.holds, Cond.value]), lw_limb limb_1_2 (fun args s t => Cond.after_iff.mpr (by
  first | (rw [show limb_1_2 = Cond.eq .result (.int 1) from rfl, Cond.eq_ints (x := 1) (y := 1) rfl rfl]; simp; done) | (simp [limb_1_2, Cond.value, Term.eval]; done)))⟩
