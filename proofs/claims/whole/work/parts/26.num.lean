theorem zpwb {b n : Nat} (hb : b ≤ 10) (hn : n ≤ 6) : b ^ n < 2 ^ 31 :=
  Nat.lt_of_le_of_lt (Nat.le_trans (Nat.pow_le_pow_left hb n) (Nat.pow_le_pow_right (by decide) hn)) (by decide)
theorem zpwp {b n : Nat} (h0 : 0 < b) : 0 < b ^ n := Nat.pow_pos h0
theorem zdgq {b H R h : Nat} {D : Int32} (hD : D = nI (b ^ (H - 1 - h))) (hR : R < 2 ^ 31) (h0 : 0 < b) (hb : b ≤ 10) (hH : H ≤ 6) : nI R / D - nI R / D / nI b * nI b = nI (zDg b H R h) := by
  have h1 : b ^ (H - 1 - h) < 2 ^ 31 := zpwb hb (by omega)
  rw [hD, pk_div hR (zpwp h0) h1, pk_rem (Nat.lt_of_le_of_lt (Nat.div_le_self _ _) hR) h0 (by omega), zDg]
theorem zh1i {H i : Nat} (h : i < H) : nI H - 1 - nI i = nI (H - 1 - i) := by
  rw [show (1 : Int32) = nI 1 from rfl, pk_sub (by omega), pk_sub (by omega)]
theorem zIn_1 {R B : Nat} (h : R < B) (hB : B < 2 ^ 31) : zIn (nI R) 0 (nI B - 1) = 1 := by
  rw [zIn, if_neg (nI_pos (by omega)), show (1 : Int32) = nI 1 from rfl, pk_sub (by omega), if_neg (nI_nlt (by omega) (by omega))]
theorem zDg_lt {b H R h : Nat} (h0 : 0 < b) : zDg b H R h < b := Nat.mod_lt _ h0
theorem zDtv {b H R : Nat} (h0 : 0 < b) (h : Nat) : ∃ t : Nat, t < b ∧ zDt b H R h = nI t := ⟨zDg b H R h, zDg_lt h0, rfl⟩
