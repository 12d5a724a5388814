theorem zin0 : ∀ w ∈ u_ws RX0 TX0 3, w ∈ zTbl := by decide +kernel
theorem zin1 : ∀ w ∈ u_ws RX1 TX1 7, w ∈ zTbl := by decide +kernel
theorem zin2 : ∀ w ∈ u_ws RX2 TX2 6, w ∈ zTbl := by decide +kernel
theorem zin3 : ∀ w ∈ u_ws RX3 TX3 4, w ∈ zTbl := by decide +kernel
theorem zin4 : ∀ w ∈ u_ws RX4 TX4 2, w ∈ zTbl := by decide +kernel
theorem zin5 : ∀ w ∈ u_ws RX5 TX5 9, w ∈ zTbl := by decide +kernel
theorem zin6 : ∀ w ∈ u_ws RX6 TX6 2, w ∈ zTbl := by decide +kernel
theorem zin8 : ∀ w ∈ u_ws RX8 TX8 4, w ∈ zTbl := by decide +kernel
theorem zin9 : ∀ w ∈ u_ws RX9 TX9 10, w ∈ zTbl := by decide +kernel
theorem zin10 : ∀ w ∈ u_ws RX10 TX10 39, w ∈ zTbl := by decide +kernel
def zclP (C : String) (T : u_T) (N : Nat) : Prop := (∀ w ∈ u_ws C T N, w ∈ zTbl) ∧ ∃ ty : Nat → FieldType, (∀ k, k < N → parseFieldDescriptor (T k).2.2.1 = some (ty k)) ∧ (∀ a, a < N → ∀ b, b < N → a ≠ b → (T a).2.1 ≠ (T b).2.1)
theorem zcl : ∀ {ci : Nat} {C : String} {T : u_T} {N : Nat}, vwCl[ci]? = some (C, T, N) → zclP C T N
  | 0, _, _, _, h => by cases h; exact ⟨zin0, tyX0, tyX0_ok, nmX0⟩
  | 1, _, _, _, h => by cases h; exact ⟨zin1, tyX1, tyX1_ok, nmX1⟩
  | 2, _, _, _, h => by cases h; exact ⟨zin2, tyX2, tyX2_ok, nmX2⟩
  | 3, _, _, _, h => by cases h; exact ⟨zin3, tyX3, tyX3_ok, nmX3⟩
  | 4, _, _, _, h => by cases h; exact ⟨zin4, tyX4, tyX4_ok, nmX4⟩
  | 5, _, _, _, h => by cases h; exact ⟨zin5, tyX5, tyX5_ok, nmX5⟩
  | 6, _, _, _, h => by cases h; exact ⟨zin6, tyX6, tyX6_ok, nmX6⟩
  | 7, _, _, _, h => by cases h; exact ⟨zin8, tyX8, tyX8_ok, nmX8⟩
  | 8, _, _, _, h => by cases h; exact ⟨zin9, tyX9, tyX9_ok, nmX9⟩
  | 9, _, _, _, h => by cases h; exact ⟨zin10, tyX10, tyX10_ok, nmX10⟩
  | k + 10, _, _, _, h => by simp [vwCl] at h
section ZCX
variable {own : String} {cc : ByteArray} {nL : Nat} {ret : Option FieldType} {nm : String} {scr : Option (Nat × (Nat → Int32))} {d mc ms : Nat} {p : Program} {R : Room} {s : State} {m : MethodId} {args : Array Value} {meth : Method} {c : Code} {dC : Nat → ClassId} {dI : Nat → Nat → Nat} {cA : Nat → ClassId} {A : Nat → Prop} {a0 : Nat → Nat}
theorem zCtx.ex (C : zCtx own cc nL ret nm scr d mc ms p R s m args meth c dC dI cA A a0) : p.tables.exec = Jvm.exec := C.1
theorem zCtx.by_ (C : zCtx own cc nL ret nm scr d mc ms p R s m args meth c dC dI cA A a0) : c.code = cc := C.2.1
theorem zCtx.rt (C : zCtx own cc nL ret nm scr d mc ms p R s m args meth c dC dI cA A a0) : meth.sig.returnType = ret := C.2.2.1
theorem zCtx.ml (C : zCtx own cc nL ret nm scr d mc ms p R s m args meth c dC dI cA A a0) : c.maxLocals = nL := C.2.2.2.1
theorem zCtx.ow (C : zCtx own cc nL ret nm scr d mc ms p R s m args meth c dC dI cA A a0) : s.vm.findClass own = some m.cls := C.2.2.2.2.1
theorem zCtx.lk (C : zCtx own cc nL ret nm scr d mc ms p R s m args meth c dC dI cA A a0) : meth.locks = false := C.2.2.2.2.2.1
theorem zCtx.nm_ (C : zCtx own cc nL ret nm scr d mc ms p R s m args meth c dC dI cA A a0) : meth.name = nm := C.2.2.2.2.2.2.1
theorem zCtx.ts (C : zCtx own cc nL ret nm scr d mc ms p R s m args meth c dC dI cA A a0) : ∀ w ∈ zTbl, w.before args s = true := C.2.2.2.2.2.2.2.1
theorem zCtx.fx (C : zCtx own cc nL ret nm scr d mc ms p R s m args meth c dC dI cA A a0) : zF a0 A s := C.2.2.2.2.2.2.2.2.1
theorem zCtx.kk (C : zCtx own cc nL ret nm scr d mc ms p R s m args meth c dC dI cA A a0) : va_K (dC, dI) vwCl (ztys cA) s := C.2.2.2.2.2.2.2.2.2.1
theorem zCtx.ha (C : zCtx own cc nL ret nm scr d mc ms p R s m args meth c dC dI cA A a0) : ∀ q, s.heap.size ≤ q → A q := C.2.2.2.2.2.2.2.2.2.2.1
theorem zCtx.rm (C : zCtx own cc nL ret nm scr d mc ms p R s m args meth c dC dI cA A a0) : d ≤ R.frames ∧ 38 * d ≤ R.locals ∧ mc ≤ R.cells ∧ ms ≤ R.slots := C.2.2.2.2.2.2.2.2.2.2.2.1
theorem zCtx.sc (C : zCtx own cc nL ret nm scr d mc ms p R s m args meth c dC dI cA A a0) : ∀ (L : Nat) (xs : Nat → Int32), scr = some (L, xs) → va_X (a0 1001) L xs s s.heap ∧ a0 1001 < s.heap.size ∧ ¬ A (a0 1001) := C.2.2.2.2.2.2.2.2.2.2.2.2
end ZCX
section ZR3
variable {own : String} {cc : ByteArray} {nL : Nat} {ret : Option FieldType} {nm : String} {scr : Option (Nat × (Nat → Int32))} {d n0 mc ms kc ks : Nat} {Q : Option Value → List zCel → Prop} {pc : Nat} {L : List (Option Value)} {st : List Value} {sg : List zCel}
/-- an index that lies in a row of n, and as a number -/
def zix (i : Int32) (n j : Nat) : Prop := vp_in i n ∧ i.toNatClampNeg = j
theorem zix_n {j n : Nat} (h : j < n) (hn : n < 2 ^ 31 := by decide) : zix (nI j) n j := ⟨vp_in_nI h hn, nI_clamp (Nat.lt_trans h hn)⟩
theorem zix_g {i : Int32} {n : Nat} (h : vp_in i n) : zix i n i.toNatClampNeg := ⟨h, rfl⟩
theorem zix.lt {i : Int32} {n j : Nat} (h : zix i n j) : j < n := by
  rw [← h.2]
  exact Nat.not_le.mp fun q => h.1 (Or.inr q)
theorem zx_get {q ci k N index : Nat} {C : String} {T : u_T} {fs : List Value} {v : Value} (h : sg[q]? = some (.inr (.inr (ci, fs)))) (hc : vwCl[ci]? = some (C, T, N)) (hk : k < N) (hv : fs[k]? = some v) (hw : Cond.fieldLink own index (T k).1 (T k).2.1 (T k).2.2.1 ∈ zTbl) (hd : decode cc pc = .ok (.getfield index, 3)) (kk : zX own cc nL ret nm scr d n0 mc ms kc ks Q (pc + 3) L (v :: st) sg) : zX own cc nL ret nm scr d n0 mc ms kc ks Q pc L (.ref q :: st) sg := by
  intro p l e R s m args below meth c dC dI cA A a0 Qf C K al H locs ls r1 r2 r3 r4 r5
  exact va_get (D := (dC, dI)) (cl := vwCl) C.ex C.by_ C.ts (zcl hc).1 C.ow C.kk r3 q (zw_at h) hc k hk (C.ts _ hw) (fun _ h9 => h9) (by rw [List.getElem?_map, hv]; rfl) hd (kk p l e R s m args below meth c dC dI cA A a0 Qf C K al H locs ls r1 r2 r3 r4 r5)
theorem zx_put {q ci k N index : Nat} {C : String} {T : u_T} {fs : List Value} {v : Value} {ty : FieldType} (h : sg[q]? = some (.inr (.inr (ci, fs)))) (hc : vwCl[ci]? = some (C, T, N)) (hk : k < N) (hfin : (T k).2.2.2 = false) (hp : parseFieldDescriptor (T k).2.2.1 = some ty) (hn : ∀ al, narrow ty (zr al v) = zr al v) (hf : ∀ al, fits ty (zr al v) = true) (hl : k < fs.length) (hw : Cond.fieldLink own index (T k).1 (T k).2.1 (T k).2.2.1 ∈ zTbl) (hd : decode cc pc = .ok (.putfield index, 3)) (kk : zX own cc nL ret nm scr d n0 mc ms kc ks Q (pc + 3) L st (sg.set q (.inr (.inr (ci, fs.set k v))))) : zX own cc nL ret nm scr d n0 mc ms kc ks Q pc L (v :: .ref q :: st) sg := by
  intro p l e R s m args below meth c dC dI cA A a0 Qf C K al H locs ls r1 r2 r3 r4 r5
  obtain ⟨hi, ty0, ht0, hn0⟩ := zcl hc
  refine va_put (D := (dC, dI)) (cl := vwCl) (v := zr al v) C.ex C.by_ C.ts hi ty0 ht0 hn0 C.ow C.kk r3 r4 r5 q (zw_at h) hc k hk (C.ts _ hw) (fun _ h9 => h9) hfin hp (hn al) (hf al) (by rw [List.length_map]; exact hl) hd (fun H1 locs1 hP hD hS => ?_)
  have e1 : (zw al cA sg).set q (al q, .inr (ci, (fs.map (zr al)).set k (zr al v))) = zw al cA (sg.set q (.inr (.inr (ci, fs.set k v)))) := by
    rw [← zw_set, ze, List.map_set]
  rw [e1] at hP hD
  exact kk p l e R s m args below meth c dC dI cA A a0 Qf C K al H1 locs1 ls r1 r2 hP hD hS
theorem zx_putF {q ci k N index : Nat} {C : String} {T : u_T} {fs : List Value} {v : Value} {ty : FieldType} (h : sg[q]? = some (.inr (.inr (ci, fs)))) (hc : vwCl[ci]? = some (C, T, N)) (hk : k < N) (hfin : (T k).2.2.2 = true) (hin : nm = "<init>") (hdecl : (T k).1 = own) (hp : parseFieldDescriptor (T k).2.2.1 = some ty) (hn : ∀ al, narrow ty (zr al v) = zr al v) (hf : ∀ al, fits ty (zr al v) = true) (hl : k < fs.length) (hw : Cond.fieldLink own index (T k).1 (T k).2.1 (T k).2.2.1 ∈ zTbl) (hd : decode cc pc = .ok (.putfield index, 3)) (kk : zX own cc nL ret nm scr d n0 mc ms kc ks Q (pc + 3) L st (sg.set q (.inr (.inr (ci, fs.set k v))))) : zX own cc nL ret nm scr d n0 mc ms kc ks Q pc L (v :: .ref q :: st) sg := by
  intro p l e R s m args below meth c dC dI cA A a0 Qf C K al H locs ls r1 r2 r3 r4 r5
  obtain ⟨hi, ty0, ht0, hn0⟩ := zcl hc
  refine va_putF (D := (dC, dI)) (cl := vwCl) (v := zr al v) C.ex C.by_ C.ts hi ty0 ht0 hn0 C.ow C.kk r3 r4 r5 q (zw_at h) hc k hk (C.ts _ hw) (fun _ h9 => h9) hfin (C.nm_.trans hin) hdecl hp (hn al) (hf al) (by rw [List.length_map]; exact hl) hd (fun H1 locs1 hP hD hS => ?_)
  have e1 : (zw al cA sg).set q (al q, .inr (ci, (fs.map (zr al)).set k (zr al v))) = zw al cA (sg.set q (.inr (.inr (ci, fs.set k v)))) := by
    rw [← zw_set, ze, List.map_set]
  rw [e1] at hP hD
  exact kk p l e R s m args below meth c dC dI cA A a0 Qf C K al H1 locs1 ls r1 r2 hP hD hS
theorem zx_iald {q n j : Nat} {f : Nat → Int32} {i : Int32} (h : sg[q]? = some (.inl (0, n, f))) (hi : zix i n j) (hd : decode cc pc = .ok (.iaload, 1)) (k : zX own cc nL ret nm scr d n0 mc ms kc ks Q (pc + 1) L (.int (f j) :: st) sg) : zX own cc nL ret nm scr d n0 mc ms kc ks Q pc L (.int i :: .ref q :: st) sg := by
  intro p l e R s m args below meth c dC dI cA A a0 Qf C K al H locs ls r1 r2 r3 r4 r5
  obtain ⟨h1, rfl⟩ := hi
  exact va_iald C.ex C.by_ C.kk r3 q 0 (zw_at h) rfl h1 hd (k p l e R s m args below meth c dC dI cA A a0 Qf C K al H locs ls r1 r2 r3 r4 r5)
theorem zx_zald {q n j : Nat} {f : Nat → Int32} {i : Int32} (h : sg[q]? = some (.inl (1, n, f))) (hi : zix i n j) (hd : decode cc pc = .ok (.baload, 1)) (k : zX own cc nL ret nm scr d n0 mc ms kc ks Q (pc + 1) L (.int (f j) :: st) sg) : zX own cc nL ret nm scr d n0 mc ms kc ks Q pc L (.int i :: .ref q :: st) sg := by
  intro p l e R s m args below meth c dC dI cA A a0 Qf C K al H locs ls r1 r2 r3 r4 r5
  obtain ⟨h1, rfl⟩ := hi
  exact va_zald C.ex C.by_ C.kk r3 q 1 (zw_at h) rfl h1 hd (k p l e R s m args below meth c dC dI cA A a0 Qf C K al H locs ls r1 r2 r3 r4 r5)
theorem zx_aald {q j p0 : Nat} {l0 : List (Option Nat)} {i : Int32} (h : sg[q]? = some (.inr (.inl l0))) (hi : zix i l0.length j) (hp : l0[j]? = some (some p0)) (hd : decode cc pc = .ok (.aaload, 1)) (k : zX own cc nL ret nm scr d n0 mc ms kc ks Q (pc + 1) L (.ref p0 :: st) sg) : zX own cc nL ret nm scr d n0 mc ms kc ks Q pc L (.int i :: .ref q :: st) sg := by
  intro p l e R s m args below meth c dC dI cA A a0 Qf C K al H locs ls r1 r2 r3 r4 r5
  obtain ⟨h1, rfl⟩ := hi
  have e1 : va_rf (zl al l0 i.toNatClampNeg) = zr al (.ref p0) := by
    unfold zl
    rw [List.getD_eq_getElem?_getD, hp]
    rfl
  refine va_aldq (C := "Strawless$State") C.ex C.by_ C.kk r3 q 2 (zw_at h) rfl h1 hd ?_
  rw [e1]
  exact k p l e R s m args below meth c dC dI cA A a0 Qf C K al H locs ls r1 r2 r3 r4 r5
theorem zx_iast {q n j : Nat} {f : Nat → Int32} {i x : Int32} (h : sg[q]? = some (.inl (0, n, f))) (hi : zix i n j) (hd : decode cc pc = .ok (.iastore, 1)) (k : zX own cc nL ret nm scr d n0 mc ms kc ks Q (pc + 1) L st (sg.set q (.inl (0, n, upd f j x)))) : zX own cc nL ret nm scr d n0 mc ms kc ks Q pc L (.int x :: .int i :: .ref q :: st) sg := by
  intro p l e R s m args below meth c dC dI cA A a0 Qf C K al H locs ls r1 r2 r3 r4 r5
  obtain ⟨h1, rfl⟩ := hi
  refine va_iast C.ex C.by_ C.kk r3 r4 r5 q 0 (zw_at h) rfl h1 hd (fun H1 locs1 hP hD hS => ?_)
  have e1 : (zw al cA sg).set q (al q, .inl (cA 0, n, .inl (upd f i.toNatClampNeg x))) = zw al cA (sg.set q (.inl (0, n, upd f i.toNatClampNeg x))) := by
    rw [← zw_set, ze]
  rw [e1] at hP hD
  exact k p l e R s m args below meth c dC dI cA A a0 Qf C K al H1 locs1 ls r1 r2 hP hD hS
theorem zx_zast {q n j : Nat} {f : Nat → Int32} {i x y : Int32} (h : sg[q]? = some (.inl (1, n, f))) (hi : zix i n j) (hy : vp_nar .boolean x = y) (hd : decode cc pc = .ok (.bastore, 1)) (k : zX own cc nL ret nm scr d n0 mc ms kc ks Q (pc + 1) L st (sg.set q (.inl (1, n, upd f j y)))) : zX own cc nL ret nm scr d n0 mc ms kc ks Q pc L (.int x :: .int i :: .ref q :: st) sg := by
  intro p l e R s m args below meth c dC dI cA A a0 Qf C K al H locs ls r1 r2 r3 r4 r5
  obtain ⟨h1, rfl⟩ := hi
  subst hy
  refine va_zast C.ex C.by_ C.kk r3 r4 r5 q 1 (zw_at h) rfl h1 hd (fun H1 locs1 hP hD hS => ?_)
  have e1 : (zw al cA sg).set q (al q, .inl (cA 1, n, .inl (upd f i.toNatClampNeg (vp_nar .boolean x)))) = zw al cA (sg.set q (.inl (1, n, upd f i.toNatClampNeg (vp_nar .boolean x)))) := by
    rw [← zw_set, ze]
  rw [e1] at hP hD
  exact k p l e R s m args below meth c dC dI cA A a0 Qf C K al H1 locs1 ls r1 r2 hP hD hS
theorem zx_aast {q j p0 : Nat} {l0 : List (Option Nat)} {fs : List Value} {i : Int32} (h : sg[q]? = some (.inr (.inl l0))) (hi : zix i l0.length j) (hp : sg[p0]? = some (.inr (.inr (5, fs)))) (hd : decode cc pc = .ok (.aastore, 1)) (k : zX own cc nL ret nm scr d n0 mc ms kc ks Q (pc + 1) L st (sg.set q (.inr (.inl (l0.set j (some p0)))))) : zX own cc nL ret nm scr d n0 mc ms kc ks Q pc L (.ref p0 :: .int i :: .ref q :: st) sg := by
  intro p l e R s m args below meth c dC dI cA A a0 Qf C K al H locs ls r1 r2 r3 r4 r5
  have hj := hi.lt
  obtain ⟨h1, rfl⟩ := hi
  refine va_astq (r := (RX5, TX5, 9)) C.ex C.by_ C.kk r3 r4 r5 q 2 p0 5 (zw_at h) rfl (zw_at hp) rfl h1 hd (fun H1 locs1 hP hD hS => ?_)
  have e0 : va_up (zl al l0) i.toNatClampNeg (some (al p0)) = zl al (l0.set i.toNatClampNeg (some p0)) := by
    funext t
    unfold va_up zl
    simp only [List.getD_eq_getElem?_getD, List.getElem?_set]
    by_cases ht : t = i.toNatClampNeg
    · subst ht
      simp [hj]
    · simp [ht, Ne.symm ht]
  have e1 : (zw al cA sg).set q (al q, .inl (cA 2, l0.length, .inr (.inr (.inr (.inr (va_up (zl al l0) i.toNatClampNeg (some (al p0)))))))) = zw al cA (sg.set q (.inr (.inl (l0.set i.toNatClampNeg (some p0))))) := by
    rw [← zw_set, ze, e0, List.length_set]
  rw [e1] at hP hD
  exact k p l e R s m args below meth c dC dI cA A a0 Qf C K al H1 locs1 ls r1 r2 hP hD hS
theorem zx_alen {q n : Nat} {f : Nat → Int32} {v : Int32} (h : sg[q]? = some (.inl (0, n, f))) (hv : Int32.ofNat n = v) (hd : decode cc pc = .ok (.arraylength, 1)) (k : zX own cc nL ret nm scr d n0 mc ms kc ks Q (pc + 1) L (.int v :: st) sg) : zX own cc nL ret nm scr d n0 mc ms kc ks Q pc L (.ref q :: st) sg := by
  intro p l e R s m args below meth c dC dI cA A a0 Qf C K al H locs ls r1 r2 r3 r4 r5
  exact va_alen C.ex C.by_ C.kk r3 q 0 (zw_at h) rfl hv hd (k p l e R s m args below meth c dC dI cA A a0 Qf C K al H locs ls r1 r2 r3 r4 r5)
theorem zx_gets {index : Nat} (hw : Cond.fieldLink own index "Strawless" "FACTORIALS" "[I" ∈ zTbl) (hd : decode cc pc = .ok (.getstatic index, 3)) (k : zX own cc nL ret nm scr d n0 mc ms kc ks Q (pc + 3) L (.ref 1000 :: st) sg) : zX own cc nL ret nm scr d n0 mc ms kc ks Q pc L st sg := by
  intro p l e R s m args below meth c dC dI cA A a0 Qf C K al H locs ls r1 r2 r3 r4 r5
  have e0 : al 1000 = a0 1000 := r1.1 1000 (Or.inr (Nat.le_refl _))
  refine va_gets C.ex C.by_ C.fx.2.2.1 r5 C.ow (C.ts _ hw) (fun _ h9 => h9) hd ?_
  rw [← e0]
  exact k p l e R s m args below meth c dC dI cA A a0 Qf C K al H locs ls r1 r2 r3 r4 r5
theorem zx_fald {j : Nat} {i v : Int32} (hi : zix i 6 j) (hv : zfac j = .int v) (hd : decode cc pc = .ok (.iaload, 1)) (k : zX own cc nL ret nm scr d n0 mc ms kc ks Q (pc + 1) L (.int v :: st) sg) : zX own cc nL ret nm scr d n0 mc ms kc ks Q pc L (.int i :: .ref 1000 :: st) sg := by
  intro p l e R s m args below meth c dC dI cA A a0 Qf C K al H locs ls r1 r2 r3 r4 r5
  obtain ⟨h1, rfl⟩ := hi
  have e0 : al 1000 = a0 1000 := r1.1 1000 (Or.inr (Nat.le_refl _))
  have hT := C.fx.2.2.2
  rw [← e0] at hT
  exact va_ti C.ex C.by_ hT r5 h1 hv hd (k p l e R s m args below meth c dC dI cA A a0 Qf C K al H locs ls r1 r2 r3 r4 r5)
theorem zx_flen (hd : decode cc pc = .ok (.arraylength, 1)) (k : zX own cc nL ret nm scr d n0 mc ms kc ks Q (pc + 1) L (.int 6 :: st) sg) : zX own cc nL ret nm scr d n0 mc ms kc ks Q pc L (.ref 1000 :: st) sg := by
  intro p l e R s m args below meth c dC dI cA A a0 Qf C K al H locs ls r1 r2 r3 r4 r5
  have e0 : al 1000 = a0 1000 := r1.1 1000 (Or.inr (Nat.le_refl _))
  have hT := C.fx.2.2.2
  rw [← e0] at hT
  exact va_tlen C.ex C.by_ hT r5 (v := 6) (by decide) hd (k p l e R s m args below meth c dC dI cA A a0 Qf C K al H locs ls r1 r2 r3 r4 r5)
theorem zx_sld {N j : Nat} {xs : Nat → Int32} {i : Int32} (hs : scr = some (N, xs)) (hi : zix i N j) (hd : decode cc pc = .ok (.iaload, 1)) (k : zX own cc nL ret nm scr d n0 mc ms kc ks Q (pc + 1) L (.int (xs j) :: st) sg) : zX own cc nL ret nm scr d n0 mc ms kc ks Q pc L (.int i :: .ref 1001 :: st) sg := by
  intro p l e R s m args below meth c dC dI cA A a0 Qf C K al H locs ls r1 r2 r3 r4 r5
  obtain ⟨h1, rfl⟩ := hi
  have e0 : al 1001 = a0 1001 := r1.1 1001 (Or.inr (by decide))
  obtain ⟨g1, g2, g3⟩ := C.sc N xs hs
  rw [← e0] at g1 g2 g3
  exact va_sld C.ex C.by_ g1 g2 g3 r5 h1 hd (k p l e R s m args below meth c dC dI cA A a0 Qf C K al H locs ls r1 r2 r3 r4 r5)
theorem zx_slen {N : Nat} {xs : Nat → Int32} (hs : scr = some (N, xs)) (hd : decode cc pc = .ok (.arraylength, 1)) (k : zX own cc nL ret nm scr d n0 mc ms kc ks Q (pc + 1) L (.int (nI N) :: st) sg) : zX own cc nL ret nm scr d n0 mc ms kc ks Q pc L (.ref 1001 :: st) sg := by
  intro p l e R s m args below meth c dC dI cA A a0 Qf C K al H locs ls r1 r2 r3 r4 r5
  have e0 : al 1001 = a0 1001 := r1.1 1001 (Or.inr (by decide))
  obtain ⟨g1, g2, g3⟩ := C.sc N xs hs
  rw [← e0] at g1 g2 g3
  exact va_slen C.ex C.by_ g1 g2 g3 r5 hd (k p l e R s m args below meth c dC dI cA A a0 Qf C K al H locs ls r1 r2 r3 r4 r5)
def zcat (st : List Value) : Nat := (st.map fun v => v.category).sum
theorem zcat_map (al : Nat → Nat) (st : List Value) : ((st.map (zr al)).map fun v => v.category).sum = zcat st := by
  unfold zcat
  rw [List.map_map]
  congr 1
  apply List.map_congr_left
  intro v _
  exact zr_cat al v
theorem zx_copy {q0 q1 n1 n2 index : Nat} {f g : Nat → Int32} {sp dp n : Int32} {sp' dp' n' : Nat} (h0 : sg[q0]? = some (.inl (0, n1, f))) (h1 : sg[q1]? = some (.inl (0, n2, g))) (b1 : ¬ sp < 0 ∧ ¬ dp < 0 ∧ ¬ n < 0 ∧ sp.toNatClampNeg = sp' ∧ dp.toNatClampNeg = dp' ∧ n.toNatClampNeg = n') (b2 : sp' + n' ≤ n1) (b3 : dp' + n' ≤ n2) (hst : zcat st ≤ 8) (hd1 : 1 ≤ d) (hw : Cond.methodLink own index arraycopyName ∈ zTbl) (hd : decode cc pc = .ok (.invokestatic index, 3)) (k : zX own cc nL ret nm scr d n0 mc ms kc ks Q (pc + 3) L st (sg.set q1 (.inl (0, n2, va_cpy f g sp' dp' n')))) : zX own cc nL ret nm scr d n0 mc ms kc ks Q pc L (.int n :: .int dp :: .ref q1 :: .int sp :: .ref q0 :: st) sg := by
  intro p l e R s m args below meth c dC dI cA A a0 Qf C K al H locs ls r1 r2 r3 r4 r5
  obtain ⟨c1, c2, c3, rfl, rfl, rfl⟩ := b1
  have hm := C.rm
  refine va_copyi (ty := .int) C.ex C.by_ (C.ml.trans r2.1.symm) C.ow (C.ts _ hw) (C.ts _ (by decide +kernel)) (C.ts _ (by decide +kernel)) (C.ts _ (by decide +kernel)) C.kk r3 r4 r5 q0 q1 0 0 (zw_at h0) (zw_at h1) rfl rfl rfl c1 c2 c3 b2 b3 (fun _ _ => rfl) (by omega) ?_ hd (fun H1 locs1 hP hD hS => ?_)
  · rw [zcat_map]
    have : nativeFrameWords "java/lang/System" "arraycopy" 5 ≤ 19 := by decide +kernel
    omega
  · have e1 : (zw al cA sg).set q1 (al q1, .inl (cA 0, n2, .inl (va_cpy f g sp.toNatClampNeg dp.toNatClampNeg n.toNatClampNeg))) = zw al cA (sg.set q1 (.inl (0, n2, va_cpy f g sp.toNatClampNeg dp.toNatClampNeg n.toNatClampNeg))) := by
      rw [← zw_set, ze]
    rw [e1] at hP hD
    exact k p l e R s m args below meth c dC dI cA A a0 Qf C K al H1 locs1 ls r1 r2 hP hD hS
theorem zx_mmax {x y : Int32} {index : Nat} (hst : zcat st ≤ 8) (hd1 : 1 ≤ d) (hc : kc ≤ mc) (hs : ks ≤ ms) (hw : Cond.methodLink own index Lib.Math.max.name ∈ zTbl) (hd : decode cc pc = .ok (.invokestatic index, 3)) (k : zX own cc nL ret nm scr d n0 mc ms kc ks Q (pc + 3) L (.int (if x < y then y else x) :: st) sg) : zX own cc nL ret nm scr d n0 mc ms kc ks Q pc L (.int y :: .int x :: st) sg := by
  intro p l e R s m args below meth c dC dI cA A a0 Qf C K al H locs ls r1 r2 r3 r4 r5
  have hm := C.rm
  exact va_mmax C.ex C.by_ (C.ml.trans r2.1.symm) C.ow (C.ts _ hw) (C.ts _ (by decide +kernel)) (C.ts _ (by decide +kernel)) (C.ts _ (by decide +kernel)) (by omega) (by rw [zcat_map]; omega) (by omega) (by omega) hd (k p l e R s m args below meth c dC dI cA A a0 Qf C K al H locs ls r1 r2 r3 r4 r5)
theorem zx_mmin {x y : Int32} {index : Nat} (hst : zcat st ≤ 8) (hd1 : 1 ≤ d) (hc : kc ≤ mc) (hs : ks ≤ ms) (hw : Cond.methodLink own index Lib.Math.min.name ∈ zTbl) (hd : decode cc pc = .ok (.invokestatic index, 3)) (k : zX own cc nL ret nm scr d n0 mc ms kc ks Q (pc + 3) L (.int (if y < x then y else x) :: st) sg) : zX own cc nL ret nm scr d n0 mc ms kc ks Q pc L (.int y :: .int x :: st) sg := by
  intro p l e R s m args below meth c dC dI cA A a0 Qf C K al H locs ls r1 r2 r3 r4 r5
  have hm := C.rm
  exact va_mmin C.ex C.by_ (C.ml.trans r2.1.symm) C.ow (C.ts _ hw) (C.ts _ (by decide +kernel)) (C.ts _ (by decide +kernel)) (C.ts _ (by decide +kernel)) (by omega) (by rw [zcat_map]; omega) (by omega) (by omega) hd (k p l e R s m args below meth c dC dI cA A a0 Qf C K al H locs ls r1 r2 r3 r4 r5)
theorem zx_mabs {x : Int32} {index : Nat} (hst : zcat st ≤ 8) (hd1 : 1 ≤ d) (hc : kc ≤ mc) (hs : ks ≤ ms) (hw : Cond.methodLink own index Lib.Math.abs.name ∈ zTbl) (hd : decode cc pc = .ok (.invokestatic index, 3)) (k : zX own cc nL ret nm scr d n0 mc ms kc ks Q (pc + 3) L (.int (if 0 ≤ x then x else 0 - x) :: st) sg) : zX own cc nL ret nm scr d n0 mc ms kc ks Q pc L (.int x :: st) sg := by
  intro p l e R s m args below meth c dC dI cA A a0 Qf C K al H locs ls r1 r2 r3 r4 r5
  have hm := C.rm
  exact va_mabs C.ex C.by_ (C.ml.trans r2.1.symm) C.ow (C.ts _ hw) (C.ts _ (by decide +kernel)) (C.ts _ (by decide +kernel)) (C.ts _ (by decide +kernel)) (by omega) (by rw [zcat_map]; omega) (by omega) (by omega) hd (k p l e R s m args below meth c dC dI cA A a0 Qf C K al H locs ls r1 r2 r3 r4 r5)
theorem zx_objInit {q index : Nat} (hst : zcat st ≤ 8) (hd1 : 1 ≤ d) (hw : Cond.methodLink own index objectInit ∈ zTbl) (hd : decode cc pc = .ok (.invokespecial index, 3)) (k : zX own cc nL ret nm scr d n0 mc ms kc ks Q (pc + 3) L st sg) : zX own cc nL ret nm scr d n0 mc ms kc ks Q pc L (.ref q :: st) sg := by
  intro p l e R s m args below meth c dC dI cA A a0 Qf C K al H locs ls r1 r2 r3 r4 r5
  have hm := C.rm
  exact W.objInit C.ex C.by_ C.ow (C.ts _ hw) (C.ts _ (by decide +kernel)) (C.ts _ (by decide +kernel)) rfl (r2.1.trans C.ml.symm) rfl hd (by omega) (by rw [zcat_map]; show 2 * 0 + _ + 12 ≤ _; omega) (k p l e R s m args below meth c dC dI cA A a0 Qf C K al H locs ls r1 r2 r3 r4 r5)
end ZR3
