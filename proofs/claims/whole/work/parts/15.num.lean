theorem zix_k {i : Int32} {n j : Nat} (h : ¬ (i < 0 ∨ n ≤ i.toNatClampNeg)) (h2 : i.toNatClampNeg = j) : zix i n j := ⟨h, h2⟩
def zFil (f : Nat → Int32) (v : Int32) (i : Nat) : Nat → Int32 := fun j => if j < i then v else f j
theorem zFil_0 (f : Nat → Int32) (v : Int32) : zFil f v 0 = f := by
  funext j
  simp [zFil]
theorem zFil_s (f : Nat → Int32) (v : Int32) (i : Nat) : upd (zFil f v i) i v = zFil f v (i + 1) := by
  funext j
  unfold upd zFil
  by_cases h : j = i
  · subst h; simp
  · simp only [h, if_false]
    by_cases h2 : j < i
    · rw [if_pos h2, if_pos (by omega)]
    · rw [if_neg h2, if_neg (by omega)]
/-- how many of the first q parts don't begin with H -/
def zCk (tb : Nat → Int32) : Nat → Nat
  | 0 => 0
  | q + 1 => if tb (2 + 3 * q) = 72 then zCk tb q else zCk tb q + 1
theorem zCk_mono (tb : Nat → Int32) : ∀ {q r : Nat}, q ≤ r → zCk tb q ≤ zCk tb r := by
  intro q r h
  induction r with
  | zero => rw [Nat.le_zero.mp h]; exact Nat.le_refl _
  | succ r ih =>
    rcases Nat.lt_or_ge q (r + 1) with g | g
    · have := ih (by omega)
      simp only [zCk]
      split <;> omega
    · rw [show q = r + 1 by omega]; exact Nat.le_refl _
theorem zCn_mono (tb : Nat → Int32) (c : Int32) : ∀ {q r : Nat}, q ≤ r → zCn tb c q ≤ zCn tb c r := by
  intro q r h
  induction r with
  | zero => rw [Nat.le_zero.mp h]; exact Nat.le_refl _
  | succ r ih =>
    rcases Nat.lt_or_ge q (r + 1) with g | g
    · have := ih (by omega)
      simp only [zCn]
      split <;> omega
    · rw [show q = r + 1 by omega]; exact Nat.le_refl _
/-- what the first q parts tell: strengths, kinds, how far, straws -/
def zGq (tb : Nat → Int32) (g : (Nat → Int32) × (Nat → Int32) × (Nat → Int32) × (Nat → Int32)) : Nat → (Nat → Int32) × (Nat → Int32) × (Nat → Int32) × (Nat → Int32)
  | 0 => g
  | q + 1 => if tb (2 + 3 * q) = 72 then (upd (zGq tb g q).1 (zCn tb 72 q) (tb (3 + 3 * q) - 48), upd (zGq tb g q).2.1 (zCn tb 72 q) (tb (4 + 3 * q) - 48), (zGq tb g q).2.2.1, (zGq tb g q).2.2.2)
    else ((zGq tb g q).1, (zGq tb g q).2.1, upd (zGq tb g q).2.2.1 (zCk tb q) (tb (3 + 3 * q) - 48), upd (zGq tb g q).2.2.2 (zCk tb q) (tb (4 + 3 * q) - 48))
theorem zB19 : ∀ n, n < 14 → ([some 20, some 23, some 26, some 29, some 32, some 35, some 38, some 41, some 44, some 47, some 50, some 53, some 56, some 59] : List (Option Nat))[n]? = some (some (20 + 3 * n)) := by decide
theorem zB63 : ∀ n, n < 2 → ([some 65, some 68] : List (Option Nat))[n]? = some (some (65 + 3 * n)) := by decide
theorem zrem {a d : Nat} {D : Int32} (hD : D = nI d) (ha : a < 2 ^ 31) (h0 : 0 < d) (hd : d < 2 ^ 31) : nI a - nI a / D * D = nI (a % d) := by
  rw [hD]; exact pk_rem ha h0 hd
theorem zmin14 {z : Nat} (hz : z ≤ 14) : (if (14 : Int32) < nI z + 1 then (14 : Int32) else nI z + 1) = nI (min (z + 1) 14) := by
  rw [nI_1]
  by_cases h : z = 14
  · subst h; decide
  · rw [if_neg (show ¬ (14 : Int32) < nI (z + 1) from nI_nlt (a := 14) (b := z + 1) (by omega) (by decide)), Nat.min_eq_left (by omega)]
/-- whether all that is seen from place S - n on is so -/
def zAg (sr so sh : Nat → Int32) (S : Nat) (w : Int32) : Nat → Int32
  | 0 => 1
  | n + 1 => if zCa (zRns w (sr (S - (n + 1))).toNatClampNeg) (so (S - (n + 1))) = sh (S - (n + 1)) then zAg sr so sh S w n else 0
