theorem znge {a b : Nat} (h : ¬ nI b ≤ nI a) (ha : a < 2 ^ 31) : a < b := by
  rcases Nat.lt_or_ge a b with q | q
  · exact q
  · exact absurd (nI_le q ha) h
theorem zge {a b : Nat} (h : nI b ≤ nI a) (hb : b < 2 ^ 31) : b ≤ a := by
  rcases Nat.lt_or_ge a b with q | q
  · exact absurd h (nI_ge q hb)
  · exact q
theorem znar {v : Int32} (h : v = 0 ∨ v = 1) : narrow .boolean (.int v) = .int v := by
  rcases h with rfl | rfl <;> decide
-- walls
def zWof (h s : Int32) : Int32 := ((1 : Int32) <<< (h &&& 31)) ||| s
def zHtR : Nat → Int32 → Int32
  | 0, _ => 0
  | k + 1, w => if w >>> (nI (k + 1) &&& 31) = 0 then zHtR k w else nI (k + 1)
def zHt (w : Int32) : Int32 := zHtR 8 w
def zSo (w : Int32) : Int32 := w - ((1 : Int32) <<< (zHt w &&& 31))
def zWc (w s : Int32) : Int32 := zWof (zHt w + 1) (zSo w ||| (s <<< (zHt w &&& 31)))
def zLh (w : Int32) : Int32 := (w ^^^ (-1)) &&& (w + 1)
def zRn (w : Int32) : Int32 := if w < zLh w then w else ((w &&& (-(zLh w))) >>> ((1 : Int32) &&& 31)) ||| (w &&& (zLh w - 1))
def zRns (w : Int32) : Nat → Int32
  | 0 => w
  | r + 1 => zRn (zRns w r)
def zCa (w c : Int32) : Int32 := if c < zHt w then (w >>> (c &&& 31)) &&& 1 else 2
def zus (x : Int32) (y : Int32) : Int32 := (x.toUInt32 >>> (y.toUInt32 &&& Int32.toUInt32 31)).toInt32
def zBc (x0 : Int32) : Int32 :=
  let x1 := x0 - (zus x0 1 &&& 1431655765)
  let x2 := (x1 &&& 858993459) + (zus x1 2 &&& 858993459)
  let x3 := (x2 + zus x2 4) &&& 252645135
  let x4 := x3 + zus x3 8
  let x5 := x4 + zus x4 16
  x5 &&& 63
-- texts
def zLt (tb : Nat → Int32) (T k : Nat) : Int32 := if k < T then tb k else 0
def zIn (x lo hi : Int32) : Int32 := if x < lo then 0 else if hi < x then 0 else 1
theorem zIn_01 (x lo hi : Int32) : zIn x lo hi = 0 ∨ zIn x lo hi = 1 := by
  unfold zIn
  split
  · exact Or.inl rfl
  split
  · exact Or.inl rfl
  · exact Or.inr rfl
/-- how many of the first q parts begin with c -/
def zCn (tb : Nat → Int32) (c : Int32) : Nat → Nat
  | 0 => 0
  | q + 1 => if tb (2 + 3 * q) = c then zCn tb c q + 1 else zCn tb c q
theorem zCn_le (tb : Nat → Int32) (c : Int32) : ∀ q, zCn tb c q ≤ q
  | 0 => Nat.le_refl 0
  | q + 1 => by
    have := zCn_le tb c q
    simp only [zCn]
    split <;> omega
def zBp (tb : Nat → Int32) (q : Nat) : Int32 := if tb (2 + 3 * q) = 72 then (if 5 ≤ nI (zCn tb 72 q) then 0 else 1) else if tb (2 + 3 * q) = 70 then (if 3 ≤ nI (zCn tb 70 q) then 0 else 1) else 0
theorem zBp_01 (tb : Nat → Int32) (q : Nat) : zBp tb q = 0 ∨ zBp tb q = 1 := by
  unfold zBp
  split
  · split <;> simp
  · split
    · split <;> simp
    · simp
def zFt (tb : Nat → Int32) (k : Nat) : Int32 :=
  if k = 0 then (if tb 0 = 66 then 1 else 0) else if k = 1 then zIn (tb 1 - 48) 0 9
  else if (k - 2) % 3 = 0 then zBp tb ((k - 2) / 3)
  else if (k - 2) % 3 = 1 then (if tb (k - 1) = 72 then zIn (tb k - 48) 1 4 else zIn (tb k - 48) 0 3)
  else (if tb (k - 2) = 72 then zIn (tb k - 48) 0 3 else zIn (tb k - 48) 0 9)
theorem zFt_0 (tb : Nat → Int32) : zFt tb 0 = if tb 0 = 66 then 1 else 0 := by simp [zFt]
theorem zFt_1 (tb : Nat → Int32) : zFt tb 1 = zIn (tb 1 - 48) 0 9 := by simp [zFt]
theorem zFt_b (tb : Nat → Int32) (q : Nat) : zFt tb (2 + 3 * q) = zBp tb q := by
  have e1 : (2 + 3 * q - 2) % 3 = 0 := by omega
  have e2 : (2 + 3 * q - 2) / 3 = q := by omega
  simp only [zFt, e1, e2, if_true]
  rw [if_neg (by omega), if_neg (by omega)]
theorem zFt_c (tb : Nat → Int32) (q : Nat) : zFt tb (3 + 3 * q) = if tb (2 + 3 * q) = 72 then zIn (tb (3 + 3 * q) - 48) 1 4 else zIn (tb (3 + 3 * q) - 48) 0 3 := by
  have e1 : (3 + 3 * q - 2) % 3 = 1 := by omega
  have e2 : 3 + 3 * q - 1 = 2 + 3 * q := by omega
  rw [zFt, if_neg (by omega), if_neg (by omega), if_neg (by omega), if_pos e1, e2]
theorem zFt_d (tb : Nat → Int32) (q : Nat) : zFt tb (4 + 3 * q) = if tb (2 + 3 * q) = 72 then zIn (tb (4 + 3 * q) - 48) 0 3 else zIn (tb (4 + 3 * q) - 48) 0 9 := by
  have e1 : (4 + 3 * q - 2) % 3 = 2 := by omega
  have e2 : 4 + 3 * q - 2 = 2 + 3 * q := by omega
  rw [zFt, if_neg (by omega), if_neg (by omega), if_neg (by omega), if_neg (by omega), e2]
def zWh (T : Nat) : Int32 := if T < 2 then nI T else if (T - 2) % 3 = 0 then -9 else nI T
def zFF (tb : Nat → Int32) (T : Nat) : Nat → Int32
  | 0 => zWh T
  | n + 1 => if zFt tb (T - (n + 1)) = 0 then nI (T - (n + 1)) else zFF tb T n
theorem zm3 {k : Nat} (h : 2 ≤ k) (h2 : k < 100) : nI k - 2 - (nI k - 2) / 3 * 3 = nI ((k - 2) % 3) := by
  rw [show (2 : Int32) = nI 2 from rfl, show (3 : Int32) = nI 3 from rfl, pk_sub h, pk_rem (by omega) (by omega) (by omega)]
theorem zm3e {k m : Nat} (h : 2 ≤ k) (h2 : k < 100) (hm : m < 3) (e : nI k - 2 - (nI k - 2) / 3 * 3 = nI m) : (k - 2) % 3 = m := by
  rw [zm3 h h2] at e
  exact (nI_eq (by omega) (by omega)).mp e
theorem zm3n {k m : Nat} (h : 2 ≤ k) (h2 : k < 100) (e : ¬ nI k - 2 - (nI k - 2) / 3 * 3 = nI m) : (k - 2) % 3 ≠ m := by
  intro q
  rw [zm3 h h2, q] at e
  exact e rfl
-- states
def zcpS (s t : zStt) : zStt := (va_cpy s.1 t.1 0 0 5, va_cpy s.2.1 t.2.1 0 0 3, s.2.2)
def zend (gc : Int32) (wk : (Nat → Int32) × Int32 × Int32 × Int32) (s : zStt) : zStt :=
  (s.1, va_cpy wk.1 s.2.1 0 0 3, wk.2.1, s.2.2.2.1 + wk.2.2.2, s.2.2.2.2.1 + (wk.2.2.1 - wk.2.2.2), 0, s.2.2.2.2.2.2.1, s.2.2.2.2.2.2.2.1 + zMx 0 (gc - wk.2.2.1 - s.2.2.2.2.2.1), s.2.2.2.2.2.2.2.2 + 1)
