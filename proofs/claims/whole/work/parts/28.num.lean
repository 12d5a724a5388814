/-- whether a figure from lo to hi stands at p -/
def zOk (mt : Nat → Int32) (T p : Nat) (lo hi : Int32) : Int32 := if p = T then 0 else zIn (mt p - 48) lo hi
theorem zOk_n {mt : Nat → Int32} {T p : Nat} {lo hi : Int32} (h : zOk mt T p lo hi = 0) (hp : p ≠ T) : zIn (mt p - 48) lo hi = 0 := by
  rw [zOk, if_neg hp] at h; exact h
theorem zOk_y {mt : Nat → Int32} {T p : Nat} {lo hi : Int32} (h : ¬ zOk mt T p lo hi = 0) : p ≠ T ∧ ¬ zIn (mt p - 48) lo hi = 0 := by
  by_cases hp : p = T
  · rw [zOk, if_pos hp] at h; exact absurd rfl h
  · rw [zOk, if_neg hp] at h; exact ⟨hp, h⟩
theorem zOk_9 {mt : Nat → Int32} {T p : Nat} {lo hi : Int32} (h : ¬ zOk mt T p lo hi = 0) (hl : (-9 : Int32) < lo) : ¬ mt p - 48 = -9 := by
  intro e
  have h2 := (zOk_y h).2
  rw [e, zIn, if_pos hl] at h2
  exact h2 rfl
theorem zix_2 {c n : Nat} (h : 2 * c < n) (hn : n < 2 ^ 31 := by decide) : zix (2 * nI c) n (2 * c) := by
  rw [show (2 : Int32) = nI 2 from rfl, pk_mul]; exact zix_n h hn
theorem zix_21 {c n : Nat} (h : 2 * c + 1 < n) (hn : n < 2 ^ 31 := by decide) : zix (2 * nI c + 1) n (2 * c + 1) := by
  rw [show (2 : Int32) = nI 2 from rfl, pk_mul, nI_1]; exact zix_n h hn
/-- what the first q parts tell, pair by pair -/
def zGh (tb : Nat → Int32) (c : Int32) (g : Nat → Int32) : Nat → Nat → Int32
  | 0 => g
  | q + 1 => if tb (2 + 3 * q) = c then upd (upd (zGh tb c g q) (2 * zCn tb c q) (tb (3 + 3 * q) - 48)) (2 * zCn tb c q + 1) (tb (4 + 3 * q) - 48) else zGh tb c g q
theorem zFF_s {tb : Nat → Int32} {T n : Nat} : zFF tb T (n + 1) = if zFt tb (T - (n + 1)) = 0 then nI (T - (n + 1)) else zFF tb T n := rfl
theorem zFF_y {tb : Nat → Int32} {T k : Nat} (hk : k < T) (h : ¬ zFt tb k = 0) : zFF tb T (T - k) = zFF tb T (T - (k + 1)) := by
  rw [show T - k = (T - (k + 1)) + 1 by omega, zFF_s, show T - (T - (k + 1) + 1) = k by omega, if_neg h]
theorem zFF_n {tb : Nat → Int32} {T k : Nat} (hk : k < T) (h : zFt tb k = 0) : zFF tb T (T - k) = nI k := by
  rw [show T - k = (T - (k + 1)) + 1 by omega, zFF_s, show T - (T - (k + 1) + 1) = k by omega, if_pos h]
theorem zFF_0 {tb : Nat → Int32} {T : Nat} : zFF tb T (T - T) = zWh T := by
  rw [Nat.sub_self]; rfl
theorem zWh_9 (q : Nat) : zWh (2 + 3 * q) = -9 := by
  rw [zWh, if_neg (by omega), if_pos (by omega)]
theorem zWh_n {T : Nat} (h : T < 2 ∨ (T - 2) % 3 ≠ 0) : zWh T = nI T := by
  rw [zWh]
  by_cases h2 : T < 2
  · rw [if_pos h2]
  · rw [if_neg h2, if_neg (by omega)]
/-- at k no figure or nothing more -/
theorem zFF_k {tb : Nat → Int32} {T k : Nat} {lo hi : Int32} (hk : k ≤ T) (ht : zFt tb k = zIn (tb k - 48) lo hi) (hm : k < 2 ∨ (k - 2) % 3 ≠ 0) (h : zOk tb T k lo hi = 0) : zFF tb T (T - k) = nI k := by
  by_cases e : k = T
  · subst e; rw [zFF_0, zWh_n hm]
  · exact zFF_n (by omega) (by rw [ht]; exact zOk_n h e)
theorem zFF_p {tb : Nat → Int32} {T k : Nat} {lo hi : Int32} (hk : k ≤ T) (ht : zFt tb k = zIn (tb k - 48) lo hi) (h : ¬ zOk tb T k lo hi = 0) : zFF tb T (T - k) = zFF tb T (T - (k + 1)) := by
  have := zOk_y h
  exact zFF_y (by omega) (by rw [ht]; exact this.2)
theorem nI_ne9 {k : Nat} (h : k < 1000) : ¬ nI k = -9 := by
  intro e
  have := nI_toInt (n := k) (by omega)
  rw [e] at this
  have e2 : (-9 : Int32).toInt = -9 := by decide
  omega
