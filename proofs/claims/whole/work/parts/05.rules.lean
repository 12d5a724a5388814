section ZR1
variable {own : String} {cc : ByteArray} {nL : Nat} {ret : Option FieldType} {nm : String} {scr : Option (Nat × (Nat → Int32))} {d n0 mc ms kc ks : Nat} {Q : Option Value → List zCel → Prop} {pc : Nat} {L : List (Option Value)} {st : List Value} {sg : List zCel}
theorem zx_iconst {n : Int} {v : Int32} (hd : decode cc pc = .ok (.iconst n, 1)) (hv : Int32.ofInt n = v) (k : zX own cc nL ret nm scr d n0 mc ms kc ks Q (pc + 1) L (.int v :: st) sg) : zX own cc nL ret nm scr d n0 mc ms kc ks Q pc L (st) sg := by
  intro p l e R s m args below meth c dC dI cA A a0 Qf C K al H locs ls r1 r2 r3 r4 r5
  exact lv_iconst C.1 C.2.1 hd hv (k p l e R s m args below meth c dC dI cA A a0 Qf C K al H locs ls r1 r2 r3 r4 r5)
theorem zx_bipush {n : Int} {v : Int32} (hd : decode cc pc = .ok (.bipush n, 2)) (hv : (Int8.ofInt n).toInt32 = v) (k : zX own cc nL ret nm scr d n0 mc ms kc ks Q (pc + 2) L (.int v :: st) sg) : zX own cc nL ret nm scr d n0 mc ms kc ks Q pc L (st) sg := by
  intro p l e R s m args below meth c dC dI cA A a0 Qf C K al H locs ls r1 r2 r3 r4 r5
  exact lv_bipush C.1 C.2.1 hd hv (k p l e R s m args below meth c dC dI cA A a0 Qf C K al H locs ls r1 r2 r3 r4 r5)
theorem zx_sipush {n : Int} {v : Int32} (hd : decode cc pc = .ok (.sipush n, 3)) (hv : (Int16.ofInt n).toInt32 = v) (k : zX own cc nL ret nm scr d n0 mc ms kc ks Q (pc + 3) L (.int v :: st) sg) : zX own cc nL ret nm scr d n0 mc ms kc ks Q pc L (st) sg := by
  intro p l e R s m args below meth c dC dI cA A a0 Qf C K al H locs ls r1 r2 r3 r4 r5
  exact lv_sipush C.1 C.2.1 hd hv (k p l e R s m args below meth c dC dI cA A a0 Qf C K al H locs ls r1 r2 r3 r4 r5)
theorem zx_lconst {n : Fin 2} {v : Int64} (hd : decode cc pc = .ok (.lconst n, 1)) (hv : Int64.ofNat (n : Nat) = v) (k : zX own cc nL ret nm scr d n0 mc ms kc ks Q (pc + 1) L (.long v :: st) sg) : zX own cc nL ret nm scr d n0 mc ms kc ks Q pc L (st) sg := by
  intro p l e R s m args below meth c dC dI cA A a0 Qf C K al H locs ls r1 r2 r3 r4 r5
  exact lv_lconst C.1 C.2.1 hd hv (k p l e R s m args below meth c dC dI cA A a0 Qf C K al H locs ls r1 r2 r3 r4 r5)
theorem zx_iload_n {k : Fin 4} {i : Nat} {x : Int32} (hd : decode cc pc = .ok (.iload_n k, 1)) (hi : (k : Nat) = i) (hl : L[i]? = some (some (.int x))) (k : zX own cc nL ret nm scr d n0 mc ms kc ks Q (pc + 1) L (.int x :: st) sg) : zX own cc nL ret nm scr d n0 mc ms kc ks Q pc L st sg := by
  intro p l e R s m args below meth c dC dI cA A a0 Qf C K al H locs ls r1 r2 r3 r4 r5
  exact lv_iload_n C.1 C.2.1 hd hi (r2.2.2 _ _ hl) (k p l e R s m args below meth c dC dI cA A a0 Qf C K al H locs ls r1 r2 r3 r4 r5)
theorem zx_iload {i : Nat} {x : Int32} (hd : decode cc pc = .ok (.iload i, 2)) (hl : L[i]? = some (some (.int x))) (k : zX own cc nL ret nm scr d n0 mc ms kc ks Q (pc + 2) L (.int x :: st) sg) : zX own cc nL ret nm scr d n0 mc ms kc ks Q pc L st sg := by
  intro p l e R s m args below meth c dC dI cA A a0 Qf C K al H locs ls r1 r2 r3 r4 r5
  exact lv_iload C.1 C.2.1 hd (r2.2.2 _ _ hl) (k p l e R s m args below meth c dC dI cA A a0 Qf C K al H locs ls r1 r2 r3 r4 r5)
theorem zx_lload_n {k : Fin 4} {i : Nat} {x : Int64} (hd : decode cc pc = .ok (.lload_n k, 1)) (hi : (k : Nat) = i) (hl : L[i]? = some (some (.long x))) (k : zX own cc nL ret nm scr d n0 mc ms kc ks Q (pc + 1) L (.long x :: st) sg) : zX own cc nL ret nm scr d n0 mc ms kc ks Q pc L st sg := by
  intro p l e R s m args below meth c dC dI cA A a0 Qf C K al H locs ls r1 r2 r3 r4 r5
  exact lv_lload_n C.1 C.2.1 hd hi (r2.2.2 _ _ hl) (k p l e R s m args below meth c dC dI cA A a0 Qf C K al H locs ls r1 r2 r3 r4 r5)
theorem zx_lload {i : Nat} {x : Int64} (hd : decode cc pc = .ok (.lload i, 2)) (hl : L[i]? = some (some (.long x))) (k : zX own cc nL ret nm scr d n0 mc ms kc ks Q (pc + 2) L (.long x :: st) sg) : zX own cc nL ret nm scr d n0 mc ms kc ks Q pc L st sg := by
  intro p l e R s m args below meth c dC dI cA A a0 Qf C K al H locs ls r1 r2 r3 r4 r5
  exact lv_lload C.1 C.2.1 hd (r2.2.2 _ _ hl) (k p l e R s m args below meth c dC dI cA A a0 Qf C K al H locs ls r1 r2 r3 r4 r5)
theorem zx_aload_n {k : Fin 4} {i : Nat} {x : Nat} (hd : decode cc pc = .ok (.aload_n k, 1)) (hi : (k : Nat) = i) (hl : L[i]? = some (some (.ref x))) (k : zX own cc nL ret nm scr d n0 mc ms kc ks Q (pc + 1) L (.ref x :: st) sg) : zX own cc nL ret nm scr d n0 mc ms kc ks Q pc L st sg := by
  intro p l e R s m args below meth c dC dI cA A a0 Qf C K al H locs ls r1 r2 r3 r4 r5
  exact lv_aload_n C.1 C.2.1 hd hi (r2.2.2 _ _ hl) (k p l e R s m args below meth c dC dI cA A a0 Qf C K al H locs ls r1 r2 r3 r4 r5)
theorem zx_aload {i : Nat} {x : Nat} (hd : decode cc pc = .ok (.aload i, 2)) (hl : L[i]? = some (some (.ref x))) (k : zX own cc nL ret nm scr d n0 mc ms kc ks Q (pc + 2) L (.ref x :: st) sg) : zX own cc nL ret nm scr d n0 mc ms kc ks Q pc L st sg := by
  intro p l e R s m args below meth c dC dI cA A a0 Qf C K al H locs ls r1 r2 r3 r4 r5
  exact lv_aload C.1 C.2.1 hd (r2.2.2 _ _ hl) (k p l e R s m args below meth c dC dI cA A a0 Qf C K al H locs ls r1 r2 r3 r4 r5)
end ZR1
def zfl (al : Nat → Nat) (L : List (Option Value)) : List (Nat × Value) := (L.mapIdx (fun j o => o.map (fun w => (j, zr al w)))).filterMap id
theorem zfl_mem {al : Nat → Nat} {L : List (Option Value)} {j : Nat} {w' : Value} : (j, w') ∈ zfl al L ↔ ∃ w, L[j]? = some (some w) ∧ w' = zr al w := by
  unfold zfl
  rw [List.mem_filterMap]
  constructor
  · rintro ⟨o, ho, he⟩
    obtain ⟨k, hk⟩ := List.getElem?_of_mem ho
    rw [List.getElem?_mapIdx] at hk
    cases hL : L[k]? with
    | none => rw [hL] at hk; cases hk
    | some x =>
      rw [hL] at hk
      simp only [Option.map_some, Option.some.injEq] at hk
      subst hk
      cases x with
      | none => cases he
      | some w =>
        simp at he
        obtain ⟨rfl, rfl⟩ := he
        exact ⟨w, hL, rfl⟩
  · rintro ⟨w, h1, rfl⟩
    refine ⟨some (j, zr al w), List.mem_of_getElem? (i := j) ?_, rfl⟩
    rw [List.getElem?_mapIdx, h1]
    rfl
theorem zLs.has {al : Nat → Nat} {ls : Array Slot} {nL : Nat} {L : List (Option Value)} (h : zLs al ls nL L) : lv_has ls nL (zfl al L) := by
  refine ⟨h.1, h.2.1, fun q hq => ?_⟩
  obtain ⟨j, w'⟩ := q
  obtain ⟨w, h1, rfl⟩ := zfl_mem.mp hq
  exact h.2.2 _ _ h1
/-- no long stands right before place i -/
def znl (L : List (Option Value)) : Nat → Bool
  | 0 => true
  | j + 1 => match L[j]? with
    | some (some w) => w.category != 2
    | _ => true
theorem zLs.put1 {al : Nat → Nat} {ls : Array Slot} {nL : Nat} {L L' : List (Option Value)} {i : Nat} {v : Value} (h9 : znl L i = true) (hL : L.set i (some v) = L') {l' : List (Nat × Value)} (hl' : lv_has ls nL ((i, zr al v) :: (zfl al L).filter (fun q => !(q.1 == i) && !(q.1 + 1 == i && q.2.category == 2)))) : zLs al ls nL L' := by
  subst hL
  refine ⟨hl'.1, hl'.2.1, fun j w hw => ?_⟩
  by_cases hj : j = i
  · subst hj
    have : w = v := by
      rw [List.getElem?_set] at hw
      simp at hw
      exact hw.2.symm
    subst this
    exact hl'.2.2 (j, _) List.mem_cons_self
  · rw [List.getElem?_set_ne (Ne.symm hj)] at hw
    refine hl'.2.2 (j, zr al w) (List.mem_cons_of_mem _ (List.mem_filter.mpr ⟨zfl_mem.mpr ⟨w, hw, rfl⟩, ?_⟩))
    by_cases h2 : j + 1 = i
    · subst h2
      simp only [znl, hw] at h9
      rw [zr_cat]
      simpa [hj] using h9
    · simp [hj, h2]
theorem zLs.put2 {al : Nat → Nat} {ls : Array Slot} {nL : Nat} {L L' : List (Option Value)} {i : Nat} {v : Value} (h9 : znl L i = true) (hL : (L.set i (some v)).set (i + 1) none = L') (hl' : lv_has ls nL ((i, zr al v) :: (zfl al L).filter (fun q => !(q.1 == i) && (!(q.1 == i + 1) && !(q.1 + 1 == i && q.2.category == 2))))) : zLs al ls nL L' := by
  subst hL
  refine ⟨hl'.1, hl'.2.1, fun j w hw => ?_⟩
  by_cases hj1 : j = i + 1
  · subst hj1
    rw [List.getElem?_set] at hw
    simp at hw
  rw [List.getElem?_set_ne (Ne.symm hj1)] at hw
  by_cases hj : j = i
  · subst hj
    have : w = v := by
      rw [List.getElem?_set] at hw
      simp at hw
      exact hw.2.symm
    subst this
    exact hl'.2.2 (j, _) List.mem_cons_self
  · rw [List.getElem?_set_ne (Ne.symm hj)] at hw
    refine hl'.2.2 (j, zr al w) (List.mem_cons_of_mem _ (List.mem_filter.mpr ⟨zfl_mem.mpr ⟨w, hw, rfl⟩, ?_⟩))
    by_cases h2 : j + 1 = i
    · subst h2
      simp only [znl, hw] at h9
      rw [zr_cat]
      simpa [hj, hj1] using h9
    · simp [hj, hj1, h2]
section ZR2
variable {own : String} {cc : ByteArray} {nL : Nat} {ret : Option FieldType} {nm : String} {scr : Option (Nat × (Nat → Int32))} {d n0 mc ms kc ks : Nat} {Q : Option Value → List zCel → Prop} {pc : Nat} {L : List (Option Value)} {st : List Value} {sg : List zCel}
theorem zx_istore_n {k : Fin 4} {i : Nat} {x : Int32} {L' : List (Option Value)} (hd : decode cc pc = .ok (.istore_n k, 1)) (hi : (k : Nat) = i) (hn : i < nL) (h9 : znl L i = true) (hL : L.set i (some (.int x)) = L') (k : zX own cc nL ret nm scr d n0 mc ms kc ks Q (pc + 1) L' st sg) : zX own cc nL ret nm scr d n0 mc ms kc ks Q pc L (.int x :: st) sg := by
  intro p l e R s m args below meth c dC dI cA A a0 Qf C K al H locs ls r1 r2 r3 r4 r5
  exact lv_istore_n C.1 C.2.1 hd hi r2.has hn rfl (fun ls' h' => k p l e R s m args below meth c dC dI cA A a0 Qf C K al H locs ls' r1 (zLs.put1 (l' := []) h9 hL h') r3 r4 r5)
theorem zx_istore {i : Nat} {x : Int32} {L' : List (Option Value)} (hd : decode cc pc = .ok (.istore i, 2)) (hn : i < nL) (h9 : znl L i = true) (hL : L.set i (some (.int x)) = L') (k : zX own cc nL ret nm scr d n0 mc ms kc ks Q (pc + 2) L' st sg) : zX own cc nL ret nm scr d n0 mc ms kc ks Q pc L (.int x :: st) sg := by
  intro p l e R s m args below meth c dC dI cA A a0 Qf C K al H locs ls r1 r2 r3 r4 r5
  exact lv_istore C.1 C.2.1 hd r2.has hn rfl (fun ls' h' => k p l e R s m args below meth c dC dI cA A a0 Qf C K al H locs ls' r1 (zLs.put1 (l' := []) h9 hL h') r3 r4 r5)
theorem zx_astore_n {k : Fin 4} {i : Nat} {x : Nat} {L' : List (Option Value)} (hd : decode cc pc = .ok (.astore_n k, 1)) (hi : (k : Nat) = i) (hn : i < nL) (h9 : znl L i = true) (hL : L.set i (some (.ref x)) = L') (k : zX own cc nL ret nm scr d n0 mc ms kc ks Q (pc + 1) L' st sg) : zX own cc nL ret nm scr d n0 mc ms kc ks Q pc L (.ref x :: st) sg := by
  intro p l e R s m args below meth c dC dI cA A a0 Qf C K al H locs ls r1 r2 r3 r4 r5
  exact lv_astore_n C.1 C.2.1 hd hi r2.has hn rfl (fun ls' h' => k p l e R s m args below meth c dC dI cA A a0 Qf C K al H locs ls' r1 (zLs.put1 (l' := []) h9 hL h') r3 r4 r5)
theorem zx_astore {i : Nat} {x : Nat} {L' : List (Option Value)} (hd : decode cc pc = .ok (.astore i, 2)) (hn : i < nL) (h9 : znl L i = true) (hL : L.set i (some (.ref x)) = L') (k : zX own cc nL ret nm scr d n0 mc ms kc ks Q (pc + 2) L' st sg) : zX own cc nL ret nm scr d n0 mc ms kc ks Q pc L (.ref x :: st) sg := by
  intro p l e R s m args below meth c dC dI cA A a0 Qf C K al H locs ls r1 r2 r3 r4 r5
  exact lv_astore C.1 C.2.1 hd r2.has hn rfl (fun ls' h' => k p l e R s m args below meth c dC dI cA A a0 Qf C K al H locs ls' r1 (zLs.put1 (l' := []) h9 hL h') r3 r4 r5)
theorem zx_lstore_n {k : Fin 4} {i : Nat} {x : Int64} {L' : List (Option Value)} (hd : decode cc pc = .ok (.lstore_n k, 1)) (hi : (k : Nat) = i) (hn : i + 1 < nL) (h9 : znl L i = true) (hL : (L.set i (some (.long x))).set (i + 1) none = L') (k : zX own cc nL ret nm scr d n0 mc ms kc ks Q (pc + 1) L' st sg) : zX own cc nL ret nm scr d n0 mc ms kc ks Q pc L (.long x :: st) sg := by
  intro p l e R s m args below meth c dC dI cA A a0 Qf C K al H locs ls r1 r2 r3 r4 r5
  exact lv_lstore_n C.1 C.2.1 hd hi r2.has hn rfl (fun ls' h' => k p l e R s m args below meth c dC dI cA A a0 Qf C K al H locs ls' r1 (zLs.put2 h9 hL h') r3 r4 r5)
theorem zx_iinc {i : Nat} {n : Int} {x v : Int32} {L' : List (Option Value)} (hd : decode cc pc = .ok (.iinc i n, 3)) (hl : L[i]? = some (some (.int x))) (hv : x + Int32.ofInt n = v) (hn : i < nL) (h9 : znl L i = true) (hL : L.set i (some (.int v)) = L') (k : zX own cc nL ret nm scr d n0 mc ms kc ks Q (pc + 3) L' st sg) : zX own cc nL ret nm scr d n0 mc ms kc ks Q pc L st sg := by
  intro p l e R s m args below meth c dC dI cA A a0 Qf C K al H locs ls r1 r2 r3 r4 r5
  obtain ⟨kk, hkk⟩ := List.getElem?_of_mem (zfl_mem.mpr ⟨_, hl, rfl⟩ : (i, zr al (.int x)) ∈ zfl al L)
  exact lv_iinc C.1 C.2.1 hd r2.has hkk hv hn rfl (fun ls' h' => k p l e R s m args below meth c dC dI cA A a0 Qf C K al H locs ls' r1 (zLs.put1 (l' := []) h9 hL h') r3 r4 r5)
theorem zx_iadd {x y : Int32} (hd : decode cc pc = .ok (.iadd, 1)) (k : zX own cc nL ret nm scr d n0 mc ms kc ks Q (pc + 1) L (.int (x + y) :: st) sg) : zX own cc nL ret nm scr d n0 mc ms kc ks Q pc L (.int y :: .int x :: st) sg := by
  intro p l e R s m args below meth c dC dI cA A a0 Qf C K al H locs ls r1 r2 r3 r4 r5
  exact lv_iadd C.1 C.2.1 hd (k p l e R s m args below meth c dC dI cA A a0 Qf C K al H locs ls r1 r2 r3 r4 r5)
theorem zx_isub {x y : Int32} (hd : decode cc pc = .ok (.isub, 1)) (k : zX own cc nL ret nm scr d n0 mc ms kc ks Q (pc + 1) L (.int (x - y) :: st) sg) : zX own cc nL ret nm scr d n0 mc ms kc ks Q pc L (.int y :: .int x :: st) sg := by
  intro p l e R s m args below meth c dC dI cA A a0 Qf C K al H locs ls r1 r2 r3 r4 r5
  exact lv_isub C.1 C.2.1 hd (k p l e R s m args below meth c dC dI cA A a0 Qf C K al H locs ls r1 r2 r3 r4 r5)
theorem zx_imul {x y : Int32} (hd : decode cc pc = .ok (.imul, 1)) (k : zX own cc nL ret nm scr d n0 mc ms kc ks Q (pc + 1) L (.int (x * y) :: st) sg) : zX own cc nL ret nm scr d n0 mc ms kc ks Q pc L (.int y :: .int x :: st) sg := by
  intro p l e R s m args below meth c dC dI cA A a0 Qf C K al H locs ls r1 r2 r3 r4 r5
  exact lv_imul C.1 C.2.1 hd (k p l e R s m args below meth c dC dI cA A a0 Qf C K al H locs ls r1 r2 r3 r4 r5)
theorem zx_iand {x y : Int32} (hd : decode cc pc = .ok (.iand, 1)) (k : zX own cc nL ret nm scr d n0 mc ms kc ks Q (pc + 1) L (.int (x &&& y) :: st) sg) : zX own cc nL ret nm scr d n0 mc ms kc ks Q pc L (.int y :: .int x :: st) sg := by
  intro p l e R s m args below meth c dC dI cA A a0 Qf C K al H locs ls r1 r2 r3 r4 r5
  exact lv_iand C.1 C.2.1 hd (k p l e R s m args below meth c dC dI cA A a0 Qf C K al H locs ls r1 r2 r3 r4 r5)
theorem zx_ior {x y : Int32} (hd : decode cc pc = .ok (.ior, 1)) (k : zX own cc nL ret nm scr d n0 mc ms kc ks Q (pc + 1) L (.int (x ||| y) :: st) sg) : zX own cc nL ret nm scr d n0 mc ms kc ks Q pc L (.int y :: .int x :: st) sg := by
  intro p l e R s m args below meth c dC dI cA A a0 Qf C K al H locs ls r1 r2 r3 r4 r5
  exact lv_ior C.1 C.2.1 hd (k p l e R s m args below meth c dC dI cA A a0 Qf C K al H locs ls r1 r2 r3 r4 r5)
theorem zx_ixor {x y : Int32} (hd : decode cc pc = .ok (.ixor, 1)) (k : zX own cc nL ret nm scr d n0 mc ms kc ks Q (pc + 1) L (.int (x ^^^ y) :: st) sg) : zX own cc nL ret nm scr d n0 mc ms kc ks Q pc L (.int y :: .int x :: st) sg := by
  intro p l e R s m args below meth c dC dI cA A a0 Qf C K al H locs ls r1 r2 r3 r4 r5
  exact lv_ixor C.1 C.2.1 hd (k p l e R s m args below meth c dC dI cA A a0 Qf C K al H locs ls r1 r2 r3 r4 r5)
theorem zx_ishl {x y : Int32} (hd : decode cc pc = .ok (.ishl, 1)) (k : zX own cc nL ret nm scr d n0 mc ms kc ks Q (pc + 1) L (.int (x <<< (y &&& 31)) :: st) sg) : zX own cc nL ret nm scr d n0 mc ms kc ks Q pc L (.int y :: .int x :: st) sg := by
  intro p l e R s m args below meth c dC dI cA A a0 Qf C K al H locs ls r1 r2 r3 r4 r5
  exact lv_ishl C.1 C.2.1 hd (k p l e R s m args below meth c dC dI cA A a0 Qf C K al H locs ls r1 r2 r3 r4 r5)
theorem zx_ishr {x y : Int32} (hd : decode cc pc = .ok (.ishr, 1)) (k : zX own cc nL ret nm scr d n0 mc ms kc ks Q (pc + 1) L (.int (x >>> (y &&& 31)) :: st) sg) : zX own cc nL ret nm scr d n0 mc ms kc ks Q pc L (.int y :: .int x :: st) sg := by
  intro p l e R s m args below meth c dC dI cA A a0 Qf C K al H locs ls r1 r2 r3 r4 r5
  exact lv_ishr C.1 C.2.1 hd (k p l e R s m args below meth c dC dI cA A a0 Qf C K al H locs ls r1 r2 r3 r4 r5)
theorem zx_idiv {x y : Int32} (hd : decode cc pc = .ok (.idiv, 1)) (hne : ¬ y = 0) (k : zX own cc nL ret nm scr d n0 mc ms kc ks Q (pc + 1) L (.int (x / y) :: st) sg) : zX own cc nL ret nm scr d n0 mc ms kc ks Q pc L (.int y :: .int x :: st) sg := by
  intro p l e R s m args below meth c dC dI cA A a0 Qf C K al H locs ls r1 r2 r3 r4 r5
  exact lv_idiv C.1 C.2.1 hd hne (k p l e R s m args below meth c dC dI cA A a0 Qf C K al H locs ls r1 r2 r3 r4 r5)
theorem zx_irem {x y : Int32} (hd : decode cc pc = .ok (.irem, 1)) (hne : ¬ y = 0) (k : zX own cc nL ret nm scr d n0 mc ms kc ks Q (pc + 1) L (.int (x - x / y * y) :: st) sg) : zX own cc nL ret nm scr d n0 mc ms kc ks Q pc L (.int y :: .int x :: st) sg := by
  intro p l e R s m args below meth c dC dI cA A a0 Qf C K al H locs ls r1 r2 r3 r4 r5
  exact lv_irem C.1 C.2.1 hd hne (k p l e R s m args below meth c dC dI cA A a0 Qf C K al H locs ls r1 r2 r3 r4 r5)
theorem zx_ladd {x y : Int64} (hd : decode cc pc = .ok (.ladd, 1)) (k : zX own cc nL ret nm scr d n0 mc ms kc ks Q (pc + 1) L (.long (x + y) :: st) sg) : zX own cc nL ret nm scr d n0 mc ms kc ks Q pc L (.long y :: .long x :: st) sg := by
  intro p l e R s m args below meth c dC dI cA A a0 Qf C K al H locs ls r1 r2 r3 r4 r5
  exact lv_ladd C.1 C.2.1 hd (k p l e R s m args below meth c dC dI cA A a0 Qf C K al H locs ls r1 r2 r3 r4 r5)
theorem zx_lmul {x y : Int64} (hd : decode cc pc = .ok (.lmul, 1)) (k : zX own cc nL ret nm scr d n0 mc ms kc ks Q (pc + 1) L (.long (x * y) :: st) sg) : zX own cc nL ret nm scr d n0 mc ms kc ks Q pc L (.long y :: .long x :: st) sg := by
  intro p l e R s m args below meth c dC dI cA A a0 Qf C K al H locs ls r1 r2 r3 r4 r5
  exact lv_lmul C.1 C.2.1 hd (k p l e R s m args below meth c dC dI cA A a0 Qf C K al H locs ls r1 r2 r3 r4 r5)
theorem zx_land {x y : Int64} (hd : decode cc pc = .ok (.land, 1)) (k : zX own cc nL ret nm scr d n0 mc ms kc ks Q (pc + 1) L (.long (x &&& y) :: st) sg) : zX own cc nL ret nm scr d n0 mc ms kc ks Q pc L (.long y :: .long x :: st) sg := by
  intro p l e R s m args below meth c dC dI cA A a0 Qf C K al H locs ls r1 r2 r3 r4 r5
  exact lv_land C.1 C.2.1 hd (k p l e R s m args below meth c dC dI cA A a0 Qf C K al H locs ls r1 r2 r3 r4 r5)
theorem zx_lor {x y : Int64} (hd : decode cc pc = .ok (.lor, 1)) (k : zX own cc nL ret nm scr d n0 mc ms kc ks Q (pc + 1) L (.long (x ||| y) :: st) sg) : zX own cc nL ret nm scr d n0 mc ms kc ks Q pc L (.long y :: .long x :: st) sg := by
  intro p l e R s m args below meth c dC dI cA A a0 Qf C K al H locs ls r1 r2 r3 r4 r5
  exact lv_lor C.1 C.2.1 hd (k p l e R s m args below meth c dC dI cA A a0 Qf C K al H locs ls r1 r2 r3 r4 r5)
theorem zx_lrem {x y : Int64} (hd : decode cc pc = .ok (.lrem, 1)) (hne : ¬ y = 0) (k : zX own cc nL ret nm scr d n0 mc ms kc ks Q (pc + 1) L (.long (x - x / y * y) :: st) sg) : zX own cc nL ret nm scr d n0 mc ms kc ks Q pc L (.long y :: .long x :: st) sg := by
  intro p l e R s m args below meth c dC dI cA A a0 Qf C K al H locs ls r1 r2 r3 r4 r5
  exact lv_lrem C.1 C.2.1 hd hne (k p l e R s m args below meth c dC dI cA A a0 Qf C K al H locs ls r1 r2 r3 r4 r5)
theorem zx_ineg {x : Int32} (hd : decode cc pc = .ok (.ineg, 1)) (k : zX own cc nL ret nm scr d n0 mc ms kc ks Q (pc + 1) L (.int (-x) :: st) sg) : zX own cc nL ret nm scr d n0 mc ms kc ks Q pc L (.int x :: st) sg := by
  intro p l e R s m args below meth c dC dI cA A a0 Qf C K al H locs ls r1 r2 r3 r4 r5
  exact lv_ineg C.1 C.2.1 hd (k p l e R s m args below meth c dC dI cA A a0 Qf C K al H locs ls r1 r2 r3 r4 r5)
theorem zx_i2l {x : Int32} {v : Int64} (hd : decode cc pc = .ok (.i2l, 1)) (hv : x.toInt64 = v) (k : zX own cc nL ret nm scr d n0 mc ms kc ks Q (pc + 1) L (.long v :: st) sg) : zX own cc nL ret nm scr d n0 mc ms kc ks Q pc L (.int x :: st) sg := by
  intro p l e R s m args below meth c dC dI cA A a0 Qf C K al H locs ls r1 r2 r3 r4 r5
  exact lv_i2l C.1 C.2.1 hd hv (k p l e R s m args below meth c dC dI cA A a0 Qf C K al H locs ls r1 r2 r3 r4 r5)
theorem zx_l2i {x : Int64} {v : Int32} (hd : decode cc pc = .ok (.l2i, 1)) (hv : x.toInt32 = v) (k : zX own cc nL ret nm scr d n0 mc ms kc ks Q (pc + 1) L (.int v :: st) sg) : zX own cc nL ret nm scr d n0 mc ms kc ks Q pc L (.long x :: st) sg := by
  intro p l e R s m args below meth c dC dI cA A a0 Qf C K al H locs ls r1 r2 r3 r4 r5
  exact lv_l2i C.1 C.2.1 hd hv (k p l e R s m args below meth c dC dI cA A a0 Qf C K al H locs ls r1 r2 r3 r4 r5)
theorem zx_iushr {x y v : Int32} (hd : decode cc pc = .ok (.iushr, 1)) (hv : (x.toUInt32 >>> (y.toUInt32 &&& Int32.toUInt32 31)).toInt32 = v) (k : zX own cc nL ret nm scr d n0 mc ms kc ks Q (pc + 1) L (.int v :: st) sg) : zX own cc nL ret nm scr d n0 mc ms kc ks Q pc L (.int y :: .int x :: st) sg := by
  intro p l e R s m args below meth c dC dI cA A a0 Qf C K al H locs ls r1 r2 r3 r4 r5
  exact lv_iushr C.1 C.2.1 hd hv (k p l e R s m args below meth c dC dI cA A a0 Qf C K al H locs ls r1 r2 r3 r4 r5)
theorem zx_lushr {x v : Int64} {y : Int32} (hd : decode cc pc = .ok (.lushr, 1)) (hv : (x.toUInt64 >>> (y.toInt64.toUInt64 &&& Int64.toUInt64 63)).toInt64 = v) (k : zX own cc nL ret nm scr d n0 mc ms kc ks Q (pc + 1) L (.long v :: st) sg) : zX own cc nL ret nm scr d n0 mc ms kc ks Q pc L (.int y :: .long x :: st) sg := by
  intro p l e R s m args below meth c dC dI cA A a0 Qf C K al H locs ls r1 r2 r3 r4 r5
  exact lv_lushr C.1 C.2.1 hd hv (k p l e R s m args below meth c dC dI cA A a0 Qf C K al H locs ls r1 r2 r3 r4 r5)
theorem zx_lshl {x v : Int64} {y : Int32} (hd : decode cc pc = .ok (.lshl, 1)) (hv : x <<< (y.toInt64 &&& 63) = v) (k : zX own cc nL ret nm scr d n0 mc ms kc ks Q (pc + 1) L (.long v :: st) sg) : zX own cc nL ret nm scr d n0 mc ms kc ks Q pc L (.int y :: .long x :: st) sg := by
  intro p l e R s m args below meth c dC dI cA A a0 Qf C K al H locs ls r1 r2 r3 r4 r5
  exact lv_lshl C.1 C.2.1 hd hv (k p l e R s m args below meth c dC dI cA A a0 Qf C K al H locs ls r1 r2 r3 r4 r5)
theorem zx_lcmp {x y : Int64} (hd : decode cc pc = .ok (.lcmp, 1)) (k : zX own cc nL ret nm scr d n0 mc ms kc ks Q (pc + 1) L (.int (lg_cmp x y) :: st) sg) : zX own cc nL ret nm scr d n0 mc ms kc ks Q pc L (.long y :: .long x :: st) sg := by
  intro p l e R s m args below meth c dC dI cA A a0 Qf C K al H locs ls r1 r2 r3 r4 r5
  exact W.lcmp C.1 C.2.1 hd (k p l e R s m args below meth c dC dI cA A a0 Qf C K al H locs ls r1 r2 r3 r4 r5)
theorem zx_dup {va : Value} (hd : decode cc pc = .ok (.dup, 1)) (hva : va.category = 1) (k : zX own cc nL ret nm scr d n0 mc ms kc ks Q (pc + 1) L (va :: va :: st) sg) : zX own cc nL ret nm scr d n0 mc ms kc ks Q pc L (va :: st) sg := by
  intro p l e R s m args below meth c dC dI cA A a0 Qf C K al H locs ls r1 r2 r3 r4 r5
  exact lv_dup C.1 C.2.1 hd ((zr_cat al va).trans hva) (k p l e R s m args below meth c dC dI cA A a0 Qf C K al H locs ls r1 r2 r3 r4 r5)
theorem zx_pop {va : Value} (hd : decode cc pc = .ok (.pop, 1)) (hva : va.category = 1) (k : zX own cc nL ret nm scr d n0 mc ms kc ks Q (pc + 1) L (st) sg) : zX own cc nL ret nm scr d n0 mc ms kc ks Q pc L (va :: st) sg := by
  intro p l e R s m args below meth c dC dI cA A a0 Qf C K al H locs ls r1 r2 r3 r4 r5
  exact lv_pop C.1 C.2.1 hd ((zr_cat al va).trans hva) (k p l e R s m args below meth c dC dI cA A a0 Qf C K al H locs ls r1 r2 r3 r4 r5)
theorem zx_dup2 {va vb : Value} (hd : decode cc pc = .ok (.dup2, 1)) (hva : va.category = 1) (hvb : vb.category = 1) (k : zX own cc nL ret nm scr d n0 mc ms kc ks Q (pc + 1) L (va :: vb :: va :: vb :: st) sg) : zX own cc nL ret nm scr d n0 mc ms kc ks Q pc L (va :: vb :: st) sg := by
  intro p l e R s m args below meth c dC dI cA A a0 Qf C K al H locs ls r1 r2 r3 r4 r5
  exact lv_dup2_11 C.1 C.2.1 hd ((zr_cat al va).trans hva) ((zr_cat al vb).trans hvb) (k p l e R s m args below meth c dC dI cA A a0 Qf C K al H locs ls r1 r2 r3 r4 r5)
theorem zx_if_eq {x : Int32} {off : Int} {tgt : Nat} (hd : decode cc pc = .ok (.ifCond .eq off, 3)) (ht : (pc : Int) + off = (tgt : Int)) (kt : x = 0 → zX own cc nL ret nm scr d n0 mc ms kc ks Q tgt L st sg) (kf : ¬ x = 0 → zX own cc nL ret nm scr d n0 mc ms kc ks Q (pc + 3) L st sg) : zX own cc nL ret nm scr d n0 mc ms kc ks Q pc L (.int x :: st) sg := by
  intro p l e R s m args below meth c dC dI cA A a0 Qf C K al H locs ls r1 r2 r3 r4 r5
  exact lv_if_eq C.1 C.2.1 hd ht (fun h => kt h p l e R s m args below meth c dC dI cA A a0 Qf C K al H locs ls r1 r2 r3 r4 r5) (fun h => kf h p l e R s m args below meth c dC dI cA A a0 Qf C K al H locs ls r1 r2 r3 r4 r5)
theorem zx_if_ne {x : Int32} {off : Int} {tgt : Nat} (hd : decode cc pc = .ok (.ifCond .ne off, 3)) (ht : (pc : Int) + off = (tgt : Int)) (kt : ¬ x = 0 → zX own cc nL ret nm scr d n0 mc ms kc ks Q tgt L st sg) (kf : x = 0 → zX own cc nL ret nm scr d n0 mc ms kc ks Q (pc + 3) L st sg) : zX own cc nL ret nm scr d n0 mc ms kc ks Q pc L (.int x :: st) sg := by
  intro p l e R s m args below meth c dC dI cA A a0 Qf C K al H locs ls r1 r2 r3 r4 r5
  exact lv_if_ne C.1 C.2.1 hd ht (fun h => kt h p l e R s m args below meth c dC dI cA A a0 Qf C K al H locs ls r1 r2 r3 r4 r5) (fun h => kf h p l e R s m args below meth c dC dI cA A a0 Qf C K al H locs ls r1 r2 r3 r4 r5)
theorem zx_if_lt {x : Int32} {off : Int} {tgt : Nat} (hd : decode cc pc = .ok (.ifCond .lt off, 3)) (ht : (pc : Int) + off = (tgt : Int)) (kt : x < 0 → zX own cc nL ret nm scr d n0 mc ms kc ks Q tgt L st sg) (kf : ¬ x < 0 → zX own cc nL ret nm scr d n0 mc ms kc ks Q (pc + 3) L st sg) : zX own cc nL ret nm scr d n0 mc ms kc ks Q pc L (.int x :: st) sg := by
  intro p l e R s m args below meth c dC dI cA A a0 Qf C K al H locs ls r1 r2 r3 r4 r5
  exact lv_if_lt C.1 C.2.1 hd ht (fun h => kt h p l e R s m args below meth c dC dI cA A a0 Qf C K al H locs ls r1 r2 r3 r4 r5) (fun h => kf h p l e R s m args below meth c dC dI cA A a0 Qf C K al H locs ls r1 r2 r3 r4 r5)
theorem zx_if_ge {x : Int32} {off : Int} {tgt : Nat} (hd : decode cc pc = .ok (.ifCond .ge off, 3)) (ht : (pc : Int) + off = (tgt : Int)) (kt : 0 ≤ x → zX own cc nL ret nm scr d n0 mc ms kc ks Q tgt L st sg) (kf : ¬ 0 ≤ x → zX own cc nL ret nm scr d n0 mc ms kc ks Q (pc + 3) L st sg) : zX own cc nL ret nm scr d n0 mc ms kc ks Q pc L (.int x :: st) sg := by
  intro p l e R s m args below meth c dC dI cA A a0 Qf C K al H locs ls r1 r2 r3 r4 r5
  exact lv_if_ge C.1 C.2.1 hd ht (fun h => kt h p l e R s m args below meth c dC dI cA A a0 Qf C K al H locs ls r1 r2 r3 r4 r5) (fun h => kf h p l e R s m args below meth c dC dI cA A a0 Qf C K al H locs ls r1 r2 r3 r4 r5)
theorem zx_if_gt {x : Int32} {off : Int} {tgt : Nat} (hd : decode cc pc = .ok (.ifCond .gt off, 3)) (ht : (pc : Int) + off = (tgt : Int)) (kt : 0 < x → zX own cc nL ret nm scr d n0 mc ms kc ks Q tgt L st sg) (kf : ¬ 0 < x → zX own cc nL ret nm scr d n0 mc ms kc ks Q (pc + 3) L st sg) : zX own cc nL ret nm scr d n0 mc ms kc ks Q pc L (.int x :: st) sg := by
  intro p l e R s m args below meth c dC dI cA A a0 Qf C K al H locs ls r1 r2 r3 r4 r5
  exact lv_if_gt C.1 C.2.1 hd ht (fun h => kt h p l e R s m args below meth c dC dI cA A a0 Qf C K al H locs ls r1 r2 r3 r4 r5) (fun h => kf h p l e R s m args below meth c dC dI cA A a0 Qf C K al H locs ls r1 r2 r3 r4 r5)
theorem zx_if_le {x : Int32} {off : Int} {tgt : Nat} (hd : decode cc pc = .ok (.ifCond .le off, 3)) (ht : (pc : Int) + off = (tgt : Int)) (kt : x ≤ 0 → zX own cc nL ret nm scr d n0 mc ms kc ks Q tgt L st sg) (kf : ¬ x ≤ 0 → zX own cc nL ret nm scr d n0 mc ms kc ks Q (pc + 3) L st sg) : zX own cc nL ret nm scr d n0 mc ms kc ks Q pc L (.int x :: st) sg := by
  intro p l e R s m args below meth c dC dI cA A a0 Qf C K al H locs ls r1 r2 r3 r4 r5
  exact lv_if_le C.1 C.2.1 hd ht (fun h => kt h p l e R s m args below meth c dC dI cA A a0 Qf C K al H locs ls r1 r2 r3 r4 r5) (fun h => kf h p l e R s m args below meth c dC dI cA A a0 Qf C K al H locs ls r1 r2 r3 r4 r5)
theorem zx_icmp_eq {x y : Int32} {off : Int} {tgt : Nat} (hd : decode cc pc = .ok (.if_icmp .eq off, 3)) (ht : (pc : Int) + off = (tgt : Int)) (kt : x = y → zX own cc nL ret nm scr d n0 mc ms kc ks Q tgt L st sg) (kf : ¬ x = y → zX own cc nL ret nm scr d n0 mc ms kc ks Q (pc + 3) L st sg) : zX own cc nL ret nm scr d n0 mc ms kc ks Q pc L (.int y :: .int x :: st) sg := by
  intro p l e R s m args below meth c dC dI cA A a0 Qf C K al H locs ls r1 r2 r3 r4 r5
  exact lv_icmp_eq C.1 C.2.1 hd ht (fun h => kt h p l e R s m args below meth c dC dI cA A a0 Qf C K al H locs ls r1 r2 r3 r4 r5) (fun h => kf h p l e R s m args below meth c dC dI cA A a0 Qf C K al H locs ls r1 r2 r3 r4 r5)
theorem zx_icmp_ne {x y : Int32} {off : Int} {tgt : Nat} (hd : decode cc pc = .ok (.if_icmp .ne off, 3)) (ht : (pc : Int) + off = (tgt : Int)) (kt : ¬ x = y → zX own cc nL ret nm scr d n0 mc ms kc ks Q tgt L st sg) (kf : x = y → zX own cc nL ret nm scr d n0 mc ms kc ks Q (pc + 3) L st sg) : zX own cc nL ret nm scr d n0 mc ms kc ks Q pc L (.int y :: .int x :: st) sg := by
  intro p l e R s m args below meth c dC dI cA A a0 Qf C K al H locs ls r1 r2 r3 r4 r5
  exact lv_icmp_ne C.1 C.2.1 hd ht (fun h => kt h p l e R s m args below meth c dC dI cA A a0 Qf C K al H locs ls r1 r2 r3 r4 r5) (fun h => kf h p l e R s m args below meth c dC dI cA A a0 Qf C K al H locs ls r1 r2 r3 r4 r5)
theorem zx_icmp_lt {x y : Int32} {off : Int} {tgt : Nat} (hd : decode cc pc = .ok (.if_icmp .lt off, 3)) (ht : (pc : Int) + off = (tgt : Int)) (kt : x < y → zX own cc nL ret nm scr d n0 mc ms kc ks Q tgt L st sg) (kf : ¬ x < y → zX own cc nL ret nm scr d n0 mc ms kc ks Q (pc + 3) L st sg) : zX own cc nL ret nm scr d n0 mc ms kc ks Q pc L (.int y :: .int x :: st) sg := by
  intro p l e R s m args below meth c dC dI cA A a0 Qf C K al H locs ls r1 r2 r3 r4 r5
  exact lv_icmp_lt C.1 C.2.1 hd ht (fun h => kt h p l e R s m args below meth c dC dI cA A a0 Qf C K al H locs ls r1 r2 r3 r4 r5) (fun h => kf h p l e R s m args below meth c dC dI cA A a0 Qf C K al H locs ls r1 r2 r3 r4 r5)
theorem zx_icmp_ge {x y : Int32} {off : Int} {tgt : Nat} (hd : decode cc pc = .ok (.if_icmp .ge off, 3)) (ht : (pc : Int) + off = (tgt : Int)) (kt : y ≤ x → zX own cc nL ret nm scr d n0 mc ms kc ks Q tgt L st sg) (kf : ¬ y ≤ x → zX own cc nL ret nm scr d n0 mc ms kc ks Q (pc + 3) L st sg) : zX own cc nL ret nm scr d n0 mc ms kc ks Q pc L (.int y :: .int x :: st) sg := by
  intro p l e R s m args below meth c dC dI cA A a0 Qf C K al H locs ls r1 r2 r3 r4 r5
  exact lv_icmp_ge C.1 C.2.1 hd ht (fun h => kt h p l e R s m args below meth c dC dI cA A a0 Qf C K al H locs ls r1 r2 r3 r4 r5) (fun h => kf h p l e R s m args below meth c dC dI cA A a0 Qf C K al H locs ls r1 r2 r3 r4 r5)
theorem zx_icmp_gt {x y : Int32} {off : Int} {tgt : Nat} (hd : decode cc pc = .ok (.if_icmp .gt off, 3)) (ht : (pc : Int) + off = (tgt : Int)) (kt : y < x → zX own cc nL ret nm scr d n0 mc ms kc ks Q tgt L st sg) (kf : ¬ y < x → zX own cc nL ret nm scr d n0 mc ms kc ks Q (pc + 3) L st sg) : zX own cc nL ret nm scr d n0 mc ms kc ks Q pc L (.int y :: .int x :: st) sg := by
  intro p l e R s m args below meth c dC dI cA A a0 Qf C K al H locs ls r1 r2 r3 r4 r5
  exact lv_icmp_gt C.1 C.2.1 hd ht (fun h => kt h p l e R s m args below meth c dC dI cA A a0 Qf C K al H locs ls r1 r2 r3 r4 r5) (fun h => kf h p l e R s m args below meth c dC dI cA A a0 Qf C K al H locs ls r1 r2 r3 r4 r5)
theorem zx_icmp_le {x y : Int32} {off : Int} {tgt : Nat} (hd : decode cc pc = .ok (.if_icmp .le off, 3)) (ht : (pc : Int) + off = (tgt : Int)) (kt : x ≤ y → zX own cc nL ret nm scr d n0 mc ms kc ks Q tgt L st sg) (kf : ¬ x ≤ y → zX own cc nL ret nm scr d n0 mc ms kc ks Q (pc + 3) L st sg) : zX own cc nL ret nm scr d n0 mc ms kc ks Q pc L (.int y :: .int x :: st) sg := by
  intro p l e R s m args below meth c dC dI cA A a0 Qf C K al H locs ls r1 r2 r3 r4 r5
  exact lv_icmp_le C.1 C.2.1 hd ht (fun h => kt h p l e R s m args below meth c dC dI cA A a0 Qf C K al H locs ls r1 r2 r3 r4 r5) (fun h => kf h p l e R s m args below meth c dC dI cA A a0 Qf C K al H locs ls r1 r2 r3 r4 r5)
theorem zx_goto {off : Int} {tgt : Nat} (hd : decode cc pc = .ok (.goto off, 3)) (ht : (pc : Int) + off = (tgt : Int)) (k : zX own cc nL ret nm scr d n0 mc ms kc ks Q tgt L st sg) : zX own cc nL ret nm scr d n0 mc ms kc ks Q pc L st sg := by
  intro p l e R s m args below meth c dC dI cA A a0 Qf C K al H locs ls r1 r2 r3 r4 r5
  exact lv_goto C.1 C.2.1 hd ht (k p l e R s m args below meth c dC dI cA A a0 Qf C K al H locs ls r1 r2 r3 r4 r5)
theorem zx_ifnull {q : Nat} {off : Int} (hd : decode cc pc = .ok (.ifnull off, 3)) (k : zX own cc nL ret nm scr d n0 mc ms kc ks Q (pc + 3) L st sg) : zX own cc nL ret nm scr d n0 mc ms kc ks Q pc L (.ref q :: st) sg := by
  intro p l e R s m args below meth c dC dI cA A a0 Qf C K al H locs ls r1 r2 r3 r4 r5
  exact lv_ifnull C.1 C.2.1 hd (k p l e R s m args below meth c dC dI cA A a0 Qf C K al H locs ls r1 r2 r3 r4 r5)
theorem zx_ifnonnull {q : Nat} {off : Int} {tgt : Nat} (hd : decode cc pc = .ok (.ifnonnull off, 3)) (ht : (pc : Int) + off = (tgt : Int)) (k : zX own cc nL ret nm scr d n0 mc ms kc ks Q tgt L st sg) : zX own cc nL ret nm scr d n0 mc ms kc ks Q pc L (.ref q :: st) sg := by
  intro p l e R s m args below meth c dC dI cA A a0 Qf C K al H locs ls r1 r2 r3 r4 r5
  exact lv_ifnonnull C.1 C.2.1 hd ht (k p l e R s m args below meth c dC dI cA A a0 Qf C K al H locs ls r1 r2 r3 r4 r5)
theorem zx_lookup {dflt : Int} {ps : Array (Int × Int)} {len : Nat} {x : Int32} {off : Int} {tgt : Nat} (hd : decode cc pc = .ok (.lookupswitch dflt ps, len)) (hp : (ps.toList.zip (ps.toList.drop 1)).all (fun (a, next) => a.1 < next.1) = true) (ho : Op.lookupswitch.offset ps.toList dflt x.toInt = off) (ht : (pc : Int) + off = (tgt : Int)) (k : zX own cc nL ret nm scr d n0 mc ms kc ks Q tgt L st sg) : zX own cc nL ret nm scr d n0 mc ms kc ks Q pc L (.int x :: st) sg := by
  intro p l e R s m args below meth c dC dI cA A a0 Qf C K al H locs ls r1 r2 r3 r4 r5
  exact lv_lookup C.1 C.2.1 hd hp ho ht (k p l e R s m args below meth c dC dI cA A a0 Qf C K al H locs ls r1 r2 r3 r4 r5)
theorem zx_tableOut {dflt lo hi : Int} {offs : Array Int} {len : Nat} {x : Int32} {tgt : Nat} (hd : decode cc pc = .ok (.tableswitch dflt lo hi offs, len)) (h : x.toInt < lo ∨ hi < x.toInt) (ht : (pc : Int) + dflt = (tgt : Int)) (k : zX own cc nL ret nm scr d n0 mc ms kc ks Q tgt L st sg) : zX own cc nL ret nm scr d n0 mc ms kc ks Q pc L (.int x :: st) sg := by
  intro p l e R s m args below meth c dC dI cA A a0 Qf C K al H locs ls r1 r2 r3 r4 r5
  exact lv_tableOut C.1 C.2.1 hd h ht (k p l e R s m args below meth c dC dI cA A a0 Qf C K al H locs ls r1 r2 r3 r4 r5)
theorem zx_tableIn {dflt lo hi : Int} {offs : Array Int} {len : Nat} {x : Int32} {off : Int} {tgt : Nat} (hd : decode cc pc = .ok (.tableswitch dflt lo hi offs, len)) (h1 : ¬ x.toInt < lo) (h2 : ¬ hi < x.toInt) (ho : offs[(x.toInt - lo).toNat]? = some off) (ht : (pc : Int) + off = (tgt : Int)) (k : zX own cc nL ret nm scr d n0 mc ms kc ks Q tgt L st sg) : zX own cc nL ret nm scr d n0 mc ms kc ks Q pc L (.int x :: st) sg := by
  intro p l e R s m args below meth c dC dI cA A a0 Qf C K al H locs ls r1 r2 r3 r4 r5
  exact lv_tableIn C.1 C.2.1 hd h1 h2 ho ht (k p l e R s m args below meth c dC dI cA A a0 Qf C K al H locs ls r1 r2 r3 r4 r5)
theorem zx_ldcw {index : Nat} {v : Int32} (hw : Cond.constant own index v ∈ zTbl) (hd : decode cc pc = .ok (.ldc_w index, 3)) (k : zX own cc nL ret nm scr d n0 mc ms kc ks Q (pc + 3) L (.int v :: st) sg) : zX own cc nL ret nm scr d n0 mc ms kc ks Q pc L st sg := by
  intro p l e R s m args below meth c dC dI cA A a0 Qf C K al H locs ls r1 r2 r3 r4 r5
  exact lv_ldcw C.1 C.2.1 C.2.2.2.2.1 (C.2.2.2.2.2.2.2.1 _ hw) hd (k p l e R s m args below meth c dC dI cA A a0 Qf C K al H locs ls r1 r2 r3 r4 r5)
theorem zx_ldc2 {index : Nat} {v : Int64} (hw : Cond.constantLong own index v ∈ zTbl) (hd : decode cc pc = .ok (.ldc2_w index, 3)) (k : zX own cc nL ret nm scr d n0 mc ms kc ks Q (pc + 3) L (.long v :: st) sg) : zX own cc nL ret nm scr d n0 mc ms kc ks Q pc L st sg := by
  intro p l e R s m args below meth c dC dI cA A a0 Qf C K al H locs ls r1 r2 r3 r4 r5
  exact lv_ldc2 C.1 C.2.1 C.2.2.2.2.1 (C.2.2.2.2.2.2.2.1 _ hw) hd (k p l e R s m args below meth c dC dI cA A a0 Qf C K al H locs ls r1 r2 r3 r4 r5)
theorem zx_iret {v : Int32} {ty : FieldType} (hd : decode cc pc = .ok (.ireturn, 1)) (ht : ret = some ty) (hn : narrow ty (.int v) = .int v) (hc : kc ≤ mc) (hs : ks ≤ ms) (hq : Q (some (.int v)) sg) : zX own cc nL ret nm scr d n0 mc ms kc ks Q pc L [.int v] sg := by
  intro p l e R s m args below meth c dC dI cA A a0 Qf C K al H locs ls r1 r2 r3 r4 r5
  exact W.widen hc hs (K al H locs ls pc sg (some (.int v)) hq r1 r3 r4 r5 (Or.inr (Or.inl ⟨v, ty, rfl, ht, hn, hd⟩)))
theorem zx_lret {v : Int64} (hd : decode cc pc = .ok (.lreturn, 1)) (ht : ret = some .long) (hc : kc ≤ mc) (hs : ks ≤ ms) (hq : Q (some (.long v)) sg) : zX own cc nL ret nm scr d n0 mc ms kc ks Q pc L [.long v] sg := by
  intro p l e R s m args below meth c dC dI cA A a0 Qf C K al H locs ls r1 r2 r3 r4 r5
  exact W.widen hc hs (K al H locs ls pc sg (some (.long v)) hq r1 r3 r4 r5 (Or.inr (Or.inr ⟨v, rfl, ht, hd⟩)))
theorem zx_vret (hd : decode cc pc = .ok (.return_, 1)) (ht : ret = none) (hc : kc ≤ mc) (hs : ks ≤ ms) (hq : Q none sg) : zX own cc nL ret nm scr d n0 mc ms kc ks Q pc L [] sg := by
  intro p l e R s m args below meth c dC dI cA A a0 Qf C K al H locs ls r1 r2 r3 r4 r5
  exact W.widen hc hs (K al H locs ls pc sg none hq r1 r3 r4 r5 (Or.inl ⟨rfl, ht, hd⟩))
theorem zx_sg {sg' : List zCel} (h : sg = sg') (k : zX own cc nL ret nm scr d n0 mc ms kc ks Q pc L st sg') : zX own cc nL ret nm scr d n0 mc ms kc ks Q pc L st sg := h ▸ k
theorem zx_st {st' : List Value} (h : st = st') (k : zX own cc nL ret nm scr d n0 mc ms kc ks Q pc L st' sg) : zX own cc nL ret nm scr d n0 mc ms kc ks Q pc L st sg := h ▸ k
theorem zx_L {L' : List (Option Value)} (h : L = L') (k : zX own cc nL ret nm scr d n0 mc ms kc ks Q pc L' st sg) : zX own cc nL ret nm scr d n0 mc ms kc ks Q pc L st sg := h ▸ k
end ZR2
