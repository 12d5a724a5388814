theorem zof {x : Int32} {T : Nat} (h0 : ¬ x < 0) (h1 : ¬ nI T ≤ x) (hT : T < 2 ^ 31) : ∃ j : Nat, j < T ∧ x = nI j := by
  rcases pk_ix x hT with h | h | h
  · exact absurd h h0
  · exact absurd h h1
  · exact h
theorem zle5 {i : Nat} (h : i < 5) : ¬ (5 : Int32) ≤ nI i := lt5' i h
def zHas (n h : Int32) : Int32 := if h < 0 then 0 else if n ≤ h then 0 else 1
theorem zHas_1 {h H : Nat} (hh : h < H) (hH : H < 2 ^ 31) : zHas (nI H) (nI h) = 1 := by
  rw [zHas, if_neg (nI_pos (by omega)), if_neg (nI_ge hh hH)]
theorem zHas_n {x : Int32} {H : Nat} (hH : H < 2 ^ 31) (h : ¬ zHas (nI H) x = 0) : ∃ j : Nat, j < H ∧ x = nI j := by
  by_cases h0 : x < 0
  · rw [zHas, if_pos h0] at h; exact absurd rfl h
  by_cases h1 : nI H ≤ x
  · rw [zHas, if_neg h0, if_pos h1] at h; exact absurd rfl h
  exact zof h0 h1 hH
theorem zHas_01 (n h : Int32) : zHas n h = 0 ∨ zHas n h = 1 := by
  unfold zHas
  split
  · exact Or.inl rfl
  split
  · exact Or.inl rfl
  · exact Or.inr rfl
def zTask (n t : Int32) : Int32 := if t = 0 then 1 else if t = 1 then 1 else if ¬ zHas n (t - 2) = 0 then 1 else 0
def zMo (k s : Int32) : Int32 := if k = 1 then s + 2 else if k = 2 then s - 1 else if k = 3 then 0 else s
def zMx (x y : Int32) : Int32 := if x < y then y else x
def zMn (x y : Int32) : Int32 := if y < x then y else x
def zGa (s k f : Int32) : Int32 := zMx 0 (s - f - (if k = 2 then 1 else 0))
/-- a gatherer's take: straws left, straw -/
def zGt (gs gk gf : Nat → Int32) (gd : Int32) (h : Nat) (x : Int32) (s : Nat → Int32) (u : Int32) : (Nat → Int32) × Int32 :=
  if zHas gd x = 0 then (s, u) else (upd s x.toNatClampNeg (s x.toNatClampNeg - zMn (zGa (gs h) (gk h) (gf x.toNatClampNeg)) (s x.toNatClampNeg)), u + zMn (zGa (gs h) (gk h) (gf x.toNatClampNeg)) (s x.toNatClampNeg))
/-- the first i hands' work: straws, straw, what is moulded -/
def zRk (gs gk gf : Nat → Int32) (gd : Int32) (tk : Nat → Int32) (s : Nat → Int32) (u : Int32) : Nat → (Nat → Int32) × Int32 × Int32
  | 0 => (s, u, 0)
  | i + 1 => if tk i = 1 then ((zRk gs gk gf gd tk s u i).1, (zRk gs gk gf gd tk s u i).2.1, (zRk gs gk gf gd tk s u i).2.2 + zMo (gk i) (gs i))
    else ((zGt gs gk gf gd i (tk i - 2) (zRk gs gk gf gd tk s u i).1 (zRk gs gk gf gd tk s u i).2.1).1, (zGt gs gk gf gd i (tk i - 2) (zRk gs gk gf gd tk s u i).1 (zRk gs gk gf gd tk s u i).2.1).2, (zRk gs gk gf gd tk s u i).2.2)
def zDm (gs gk gf : Nat → Int32) (gd : Int32) (H : Nat) (tk : Nat → Int32) (s : Nat → Int32) (u : Int32) : Int32 := zMn (zRk gs gk gf gd tk s u H).2.2 9
def zDs (gs gk gf : Nat → Int32) (gd : Int32) (H : Nat) (tk : Nat → Int32) (s : Nat → Int32) (u : Int32) : Int32 := zMn (zDm gs gk gf gd H tk s u) (zRk gs gk gf gd tk s u H).2.1
/-- what a day brings: straws, straw, moulded, sound -/
def zDay (gs gk gf : Nat → Int32) (gd : Int32) (H : Nat) (tk : Nat → Int32) (s : Nat → Int32) (u : Int32) : (Nat → Int32) × Int32 × Int32 × Int32 :=
  ((zRk gs gk gf gd tk s u H).1, (zRk gs gk gf gd tk s u H).2.1 - zDs gs gk gf gd H tk s u, zDm gs gk gf gd H tk s u, zDs gs gk gf gd H tk s u)
