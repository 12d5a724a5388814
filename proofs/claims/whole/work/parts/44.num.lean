theorem zSr_l {H F k m s : Nat} {pg nt ns : Nat → Int32} {n2 n3 n4 n5 n6 n7 n8 : Int32} (hH : H ≤ 5) (hF : F ≤ 3) (hs : s < 2) (hk : k < 8) (hm : m < 2 ^ k) (k3 : pg 12 = nI k) (k4 : pg 13 = nI m) (k5 : n6 = zWof (nI k) (nI m)) (js : zSr H F pg (nt, ns, n2, n3, n4, n5, n6, n7, n8)) {S : Int32} (hS : S = nI s) {P : Nat} (hP : P = 9 ∨ P = 10) {m3 m4 : Int32} (h3 : m3 = if P = 9 then n3 - 2 else n3) (h4 : m4 = if P = 10 then n4 - 2 else n4) :
    zSr H F (upd (upd (upd pg P (pg P - 2)) 13 (pg 13 ||| S <<< (pg 12 &&& 31))) 12 (pg 12 + 1)) (nt, ns, n2, m3, m4, n5, zWc n6 S, n7, n8) ∧ zHt (zWc n6 S) = pg 12 + 1 := by
  obtain ⟨e1, e2, e3, ⟨x, u, u1, u2, u3⟩, ⟨e8, e9, e10, e11⟩, -, e14, e15⟩ := js
  obtain ⟨c1, c2, c3⟩ := zW_wc k hk m hm s hs
  have q : ∀ j, j ≠ P → j ≠ 12 → j ≠ 13 → upd (upd (upd pg P (pg P - 2)) 13 (pg 13 ||| S <<< (pg 12 &&& 31))) 12 (pg 12 + 1) j = pg j := fun j a b c => by rw [pk_un b, pk_un c, pk_un a]
  simp only at e8 e9 e10 e11 e14 e15
  refine ⟨⟨fun j hj => by rw [q j (by omega) (by omega) (by omega)]; exact e1 j hj, fun j hj => by rw [q j (by omega) (by omega) (by omega)]; exact e2 j hj, fun f hf => by rw [q (5 + f) (by omega) (by omega) (by omega)]; exact e3 f hf, ⟨x, u, fun f hf => by rw [q (5 + f) (by omega) (by omega) (by omega)]; exact u1 f hf, by rw [q 8 (by omega) (by omega) (by omega)]; exact u2, u3⟩, ⟨by rw [q 8 (by omega) (by omega) (by omega)]; exact e8, ?_, ?_, by rw [q 11 (by omega) (by omega) (by omega)]; exact e11⟩, ⟨k + 1, m + s * 2 ^ k, by omega, c3, ?_, ?_, ?_⟩, by rw [q 14 (by omega) (by omega) (by omega)]; exact e14, by rw [q 15 (by omega) (by omega) (by omega)]; exact e15⟩, ?_⟩
  · show _ = m3
    rcases hP with rfl | rfl
    · rw [pk_un (by decide), pk_un (by decide), pk_us, e9, h3, if_pos rfl]
    · rw [q 9 (by decide) (by decide) (by decide), e9, h3, if_neg (by decide)]
  · show _ = m4
    rcases hP with rfl | rfl
    · rw [q 10 (by decide) (by decide) (by decide), e10, h4, if_neg (by decide)]
    · rw [pk_un (by decide), pk_un (by decide), pk_us, e10, h4, if_pos rfl]
  · rw [pk_us, k3, nI_1]
  · rw [pk_un (by decide), pk_us, k3, k4, hS, c2]
  · show zWc n6 S = _
    rw [k5, hS, c1]
  · rw [k5, hS, c1, (zW_hs (k + 1) (by omega) _ c3).1, k3, nI_1]
theorem zSr_r {H F k m : Nat} {pg nt ns : Nat → Int32} {n2 n3 n4 n5 n6 n7 n8 : Int32} (hH : H ≤ 5) (hF : F ≤ 3) (hk : k ≤ 8) (hm : m < 2 ^ k) (k4 : pg 13 = nI m) (k5 : n6 = zWof (nI k) (nI m)) (js : zSr H F pg (nt, ns, n2, n3, n4, n5, n6, n7, n8)) :
    zSr H F (upd (upd pg 12 (nI (zRa (k, pg 13)).1)) 13 (zRa (k, pg 13)).2) (nt, ns, n2, n3, n4, n5, zRn n6, n7, n8) ∧ zHt (zRn n6) = nI (zRa (k, pg 13)).1 := by
  obtain ⟨e1, e2, e3, ⟨x, u, u1, u2, u3⟩, ⟨e8, e9, e10, e11⟩, -, e14, e15⟩ := js
  obtain ⟨c1, c2, c3, c4⟩ := zW_rn k hk m hm
  have q : ∀ j, j ≠ 12 → j ≠ 13 → upd (upd pg 12 (nI (zRa (k, pg 13)).1)) 13 (zRa (k, pg 13)).2 j = pg j := fun j b c => by rw [pk_un c, pk_un b]
  refine ⟨⟨fun j hj => by rw [q j (by omega) (by omega)]; exact e1 j hj, fun j hj => by rw [q j (by omega) (by omega)]; exact e2 j hj, fun f hf => by rw [q (5 + f) (by omega) (by omega)]; exact e3 f hf, ⟨x, u, fun f hf => by rw [q (5 + f) (by omega) (by omega)]; exact u1 f hf, by rw [q 8 (by omega) (by omega)]; exact u2, u3⟩, ⟨by rw [q 8 (by omega) (by omega)]; exact e8, by rw [q 9 (by omega) (by omega)]; exact e9, by rw [q 10 (by omega) (by omega)]; exact e10, by rw [q 11 (by omega) (by omega)]; exact e11⟩, ⟨(zRk' k m).1, (zRk' k m).2, c3, c4, ?_, ?_, ?_⟩, by rw [q 14 (by omega) (by omega)]; exact e14, by rw [q 15 (by omega) (by omega)]; exact e15⟩, ?_⟩
  · rw [pk_un (by decide), pk_us, k4]; rfl
  · rw [pk_us, k4, c2]
  · show zRn n6 = _
    rw [k5, c1]
  · rw [k5, c1, (zW_hs _ c3 _ c4).1, k4]; rfl
theorem zW1 {b c : Int32 × Int32 × Int32 × Int32 × Int32} {x : Int32} (h : zWr b c) : (if x = 0 then b.1 else b.2.1) = (if x = 0 then c.1 else c.2.1) := by rw [h.1, h.2.1]
theorem zW2 {b c : Int32 × Int32 × Int32 × Int32 × Int32} (h : zWr b c) : b.2.2.2.1 = c.2.2.2.1 := by rw [h.2.2.2]
theorem zW3 {b c : Int32 × Int32 × Int32 × Int32 × Int32} (h : zWr b c) : b.2.2.2.2 = c.2.2.2.2 := by rw [h.2.2.2]
theorem zC16j {p q : Nat → Int32} : ∀ j, j < 16 → zC16 p q 16 j = p j := fun j hj => by rw [zC16, if_pos hj]
theorem zLk {u : Int32} {N : Nat} (hN : N ≤ 8) : (zIn u 0 ((1 : Int32) <<< (nI N &&& 31) - 1) = 0) ↔ (u < 0 ∨ nI (2 ^ N) ≤ u) := by
  have hp : 0 < 2 ^ N := Nat.pow_pos (by decide)
  have h31 := zp31 hN
  rw [zsh1 N hN, show nI (2 ^ N) - 1 = nI (2 ^ N - 1) from pk_sub (b := 1) (by omega), zIn]
  by_cases h : u < 0
  · rw [if_pos h]; exact ⟨fun _ => Or.inl h, fun _ => rfl⟩
  · rw [if_neg h]
    obtain ⟨t, ht, rfl⟩ := nI_of h
    rw [nI_leI h31 ht]
    by_cases c : 2 ^ N - 1 < t
    · rw [if_pos (nI_lt c ht)]; exact ⟨fun _ => Or.inr (by omega), fun _ => rfl⟩
    · rw [if_neg (nI_nlt (by omega) (by omega))]; exact ⟨fun q => absurd q (by decide), fun q => q.elim (fun q => absurd q h) (fun q => by omega)⟩
theorem zH2 (x : Int32) : zHas 2 x = zIn x 0 1 := by
  unfold zHas zIn
  have e : (2 : Int32) ≤ x ↔ (1 : Int32) < x := by
    rw [Int32.le_iff_toInt_le, Int32.lt_iff_toInt_lt]
    have e1 : (2 : Int32).toInt = 2 := by decide
    have e2 : (1 : Int32).toInt = 1 := by decide
    omega
  simp only [e]
theorem z78 (y : Int32) : (8 : Int32) ≤ y ↔ ¬ y ≤ 7 := by
  rw [Int32.le_iff_toInt_le, Int32.le_iff_toInt_le]
  have e1 : (8 : Int32).toInt = 8 := by decide
  have e2 : (7 : Int32).toInt = 7 := by decide
  omega
theorem zmkn {x : Int32} {H : Nat} (h : x < 0) : zIn x 0 (zPw 10 H - 1) = 0 := by rw [zIn, if_pos h]
theorem zmkb {R H : Nat} (hH : H ≤ 5) (hR : R < 2 ^ 31) (h : ¬ R < 10 ^ H) : zIn (nI R) 0 (zPw 10 H - 1) = 0 := by
  have hp : 0 < 10 ^ H := Nat.pow_pos (by decide)
  rw [zIn, if_neg (nI_pos hR), show zPw 10 H = nI (10 ^ H) from zPw_n 10 _, show nI (10 ^ H) - 1 = nI (10 ^ H - 1) from pk_sub (b := 1) (by omega), if_pos (nI_lt (by omega) hR)]
theorem zabsn {x : Int32} {a : Nat} (e : x = nI a) (h : a < 2 ^ 31) : (if 0 ≤ x then x else 0 - x) = nI a := by
  rw [e, if_pos (nI_pos' h)]
theorem z9n {M : Nat} (h : M ≤ 9) : (if (9 : Int32) < nI M then (9 : Int32) else nI M) = nI M := if_neg (nI_nlt (b := 9) (a := 9) (by omega) (by decide) |> fun _ => fun q => by
  have := (nI_ltI (a := 9) (b := M) (by decide) (by omega)).mp q
  omega)
