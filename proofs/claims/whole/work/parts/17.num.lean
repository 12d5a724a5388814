def zPw (b : Int32) : Nat → Int32
  | 0 => 1
  | n + 1 => zPw b n * b
def zBu (pt : Nat → Int32) : Nat → Nat
  | 0 => 0
  | h + 1 => if pt h = 0 then zBu pt h else zBu pt h + 1
theorem zBu_le (pt : Nat → Int32) : ∀ h, zBu pt h ≤ h
  | 0 => Nat.le_refl 0
  | h + 1 => by
    have := zBu_le pt h
    simp only [zBu]
    split <;> omega
def zFg (pt : Nat → Int32) : Nat → Int32
  | 0 => 0
  | h + 1 => 10 * zFg pt h + pt h
/-- the next plan: the last k hands step on -/
def zSt (gd : Int32) : Nat → (Nat → Int32) → (Nat → Int32)
  | 0, pt => pt
  | k + 1, pt => if zTask gd (pt k + 1) = 0 then zSt gd k (upd (upd pt k (pt k + 1)) k 0) else upd pt k (pt k + 1)
/-- the figures of a plan, from the last hand on: tasks, whether it is one -/
def zRf (gd : Int32) : Nat → (Nat → Int32) → Nat → (Nat → Int32) × Int32
  | 0, pt, R => (pt, if R = 0 then 1 else 0)
  | k + 1, pt, R => if zTask gd (nI (R % 10)) = 0 then (upd pt k (nI (R % 10)), 0) else zRf gd k (upd pt k (nI (R % 10))) (R / 10)
def zTk (u bz b2 b3 : Int32) : Int32 := if b2 < u then 1 else if u = b2 then (if b3 ≤ bz then 0 else 1) else 0
def zWg (gc m u bz fg : Int32) (b : Int32 × Int32 × Int32 × Int32 × Int32) : Int32 × Int32 × Int32 × Int32 × Int32 :=
  (if gc ≤ m then (if zTk u bz b.2.1 b.2.2.1 = 0 then b.1 else fg) else b.1,
   if gc ≤ m then (if zTk u bz b.2.1 b.2.2.1 = 0 then b.2.1 else u) else b.2.1,
   if gc ≤ m then (if zTk u bz b.2.1 b.2.2.1 = 0 then b.2.2.1 else bz) else b.2.2.1,
   if gc ≤ m then (if b.2.2.2.1 = -9 then bz else if b.2.2.2.1 ≤ bz then b.2.2.2.1 else bz) else b.2.2.2.1,
   if u = m then zMx b.2.2.2.2 m else b.2.2.2.2)
/-- all plans weighed: one step -/
def zWs (gs gk gf : Nat → Int32) (F H : Nat) (gc : Int32) (ns : Nat → Int32) (n2 : Int32) (S : ((Nat → Int32) × Int32 × Int32 × Int32 × Int32 × Int32) × ((Nat → Int32) × Int32 × Int32 × Int32)) : ((Nat → Int32) × Int32 × Int32 × Int32 × Int32 × Int32) × ((Nat → Int32) × Int32 × Int32 × Int32) :=
  ((zSt (nI F) H S.1.1, zWg gc (zDay gs gk gf (nI F) H S.1.1 (va_cpy ns S.2.1 0 0 3) n2).2.2.1 (zDay gs gk gf (nI F) H S.1.1 (va_cpy ns S.2.1 0 0 3) n2).2.2.2 (nI (zBu S.1.1 H)) (zFg S.1.1 H) S.1.2), zDay gs gk gf (nI F) H S.1.1 (va_cpy ns S.2.1 0 0 3) n2)
def zWa (gs gk gf : Nat → Int32) (F H : Nat) (gc : Int32) (ns : Nat → Int32) (n2 : Int32) (S0 : ((Nat → Int32) × Int32 × Int32 × Int32 × Int32 × Int32) × ((Nat → Int32) × Int32 × Int32 × Int32)) : Nat → ((Nat → Int32) × Int32 × Int32 × Int32 × Int32 × Int32) × ((Nat → Int32) × Int32 × Int32 × Int32)
  | 0 => S0
  | n + 1 => zWs gs gk gf F H gc ns n2 (zWa gs gk gf F H gc ns n2 S0 n)
theorem zPw_n (b : Nat) : ∀ n, zPw (nI b) n = nI (b ^ n)
  | 0 => rfl
  | n + 1 => by rw [zPw, zPw_n b n, pk_mul, Nat.pow_succ]
def zWH (n : Int32) : Int32 := if n < 1 then 0 else if 8 < n then 0 else 1
def zIR (r : Int32) : Int32 := if r < 0 then 0 else if 3 < r then 0 else 1
/-- the tasks of those that have come -/
def zSc (cm : Int32) (nt pt : Nat → Int32) (i : Nat) : Nat → Int32 := fun j => if j < i then (if (cm >>> (nI j &&& 31)) &&& 1 = 1 then nt j else 0) else pt j
theorem zSc_0 (cm : Int32) (nt pt : Nat → Int32) : zSc cm nt pt 0 = pt := by
  funext j
  simp [zSc]
theorem zSc_s {cm : Int32} {nt pt : Nat → Int32} {i : Nat} {v : Int32} (hv : v = if (cm >>> (nI i &&& 31)) &&& 1 = 1 then nt i else 0) : upd (zSc cm nt pt i) i v = zSc cm nt pt (i + 1) := by
  funext j
  unfold upd zSc
  by_cases h : j = i
  · subst h; simp [hv]
  · simp only [h, if_false]
    by_cases h2 : j < i
    · rw [if_pos h2, if_pos (show j < i + 1 by omega)]
    · rw [if_neg h2, if_neg (show ¬ j < i + 1 by omega)]
def zfc (k : Nat) : Int32 := match k with | 0 => 1 | 1 => 1 | 2 => 2 | 3 => 6 | 4 => 24 | _ => 120
theorem zfac_eq (k : Nat) : zfac k = .int (zfc k) := rfl
def zFc (n : Int32) : Int32 := if n < 0 then 0 else if 6 ≤ n then 0 else zfc n.toNatClampNeg
def zOh (c m : Int32) : Int32 := c + m - 3 * zMx 0 (c - m)
def zFh (c m : Int32) : Int32 := 9 - m - 2 * zMx 0 (c - m)
/-- the overseer rests: from other = 10 - n on -/
def zOv (c m : Int32) : Nat → Int32
  | 0 => 1
  | n + 1 => if zOh (nI (10 - (n + 1))) m ≤ zOh c m then zOv c m n else 0
def zFo (c m : Int32) (M : Nat) : Nat → Int32
  | 0 => 1
  | n + 1 => if zFh c (nI (M + 1 - (n + 1))) ≤ zFh c m then zFo c m M n else 0
/-- Euclid's row -/
def zGc : Nat → Nat → Nat → Nat
  | 0, a, _ => a
  | n + 1, a, b => if b = 0 then a else zGc n b (a % b)
theorem zGc_gcd : ∀ (k a b n : Nat), b < 2 ^ k → 2 * k + 1 ≤ n → zGc n a b = Nat.gcd a b := by
  intro k
  induction k with
  | zero =>
    intro a b n hb hn
    obtain rfl : b = 0 := by simpa using hb
    obtain ⟨m, rfl⟩ : ∃ m, n = m + 1 := ⟨n - 1, by omega⟩
    simp [zGc]
  | succ k ih =>
    intro a b n hb hn
    obtain ⟨m, rfl⟩ : ∃ m, n = m + 1 := ⟨n - 1, by omega⟩
    simp only [zGc]
    by_cases h : b = 0
    · subst h; simp
    · rw [if_neg h]
      obtain ⟨m2, rfl⟩ : ∃ m2, m = m2 + 1 := ⟨m - 1, by omega⟩
      simp only [zGc]
      by_cases h2 : a % b = 0
      · rw [if_pos h2]
        exact (Nat.gcd_eq_right (Nat.dvd_of_mod_eq_zero h2)).symm
      · rw [if_neg h2, ih (a % b) (b % (a % b)) m2 ?_ (by omega)]
        · rw [Nat.gcd_comm (a % b), ← Nat.gcd_rec (a % b) b, ← Nat.gcd_rec b a, Nat.gcd_comm b a]
        · have h3 : a % b < b := Nat.mod_lt _ (by omega)
          have h4 : b % (a % b) < a % b := Nat.mod_lt _ (by omega)
          have h5 : b % (a % b) + (a % b) ≤ b := by
            have := Nat.mod_add_div b (a % b)
            have h6 : 1 ≤ b / (a % b) := Nat.div_pos (by omega) (by omega)
            have h7 : a % b ≤ (a % b) * (b / (a % b)) := Nat.le_mul_of_pos_right _ h6
            omega
          have : 2 ^ (k + 1) = 2 * 2 ^ k := by rw [Nat.pow_succ, Nat.mul_comm]
          omega
