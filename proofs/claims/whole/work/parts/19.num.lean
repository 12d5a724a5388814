def zAb (x a0 a1 a2 a3 a4 a5 a6 a7 a8 a9 a10 a11 a12 a13 : Int32) : Int32 :=
  if x = 0 then a0 else if x = 1 then a1 else if x = 2 then a2 else if x = 3 then a3 else if x = 4 then a4 else if x = 5 then a5 else if x = 6 then a6 else if x = 7 then a7 else if x = 8 then a8 else if x = 9 then a9 else if x = 10 then a10 else if x = 11 then a11 else if x = 12 then a12 else if x = 13 then a13 else -2
abbrev zWkT : Type := (Nat → Int32) × Int32 × Int32 × Int32
abbrev zPlT : Type := (Nat → Int32) × Int32 × Int32 × Int32 × Int32 × Int32
/-- a day of a state s, over work's old rows -/
def zDy (gs gk gf : Nat → Int32) (F H : Nat) (s : zStt) (w : zWkT) : zWkT := zDay gs gk gf (nI F) H s.1 (va_cpy s.2.1 w.1 0 0 3) s.2.2.1
def zLaR (gs gk gf : Nat → Int32) (F H : Nat) (gc : Int32) : Nat → zStt → zWkT → Int32 × zStt × zWkT
  | 0, s, w => (9, s, w)
  | k + 1, s, w => if gc ≤ (zDy gs gk gf F H s w).2.2.2 then zLaR gs gk gf F H gc k (zend gc (zDy gs gk gf F H s w) s) (zDy gs gk gf F H s w) else (nI (9 - (k + 1)), s, zDy gs gk gf F H s w)
def zSp1 (N R : Nat) (lk : Int32) (i : Nat) (f : Int32 × Int32) : Int32 × Int32 :=
  if (zSo (zRns (zWof (nI N) (nI i)) R) &&& lk) = lk then (if f.1 = -9 then (zBc (nI i), nI i) else if f.1 ≤ zBc (nI i) then f else (zBc (nI i), nI i)) else f
def zSpR (N R : Nat) (lk : Int32) : Nat → Int32 × Int32
  | 0 => (-9, -9)
  | i + 1 => zSp1 N R lk i (zSpR N R lk i)
def zCo1 (sr so sh : Nat → Int32) (S N : Nat) (i : Nat) (f : Int32 × Int32 × Int32) : Int32 × Int32 × Int32 :=
  if zAg sr so sh S (zWof (nI N) (nI i)) S = 0 then f else (f.1 + 1, f.2.1 &&& nI i, f.2.2 &&& (nI i ^^^ (-1)))
def zCoR (sr so sh : Nat → Int32) (S N : Nat) (e : Int32) : Nat → Int32 × Int32 × Int32
  | 0 => (0, e, e)
  | i + 1 => zCo1 sr so sh S N i (zCoR sr so sh S N e i)
def zRe1 (M i j : Nat) (f : Int32 × Int32) : Int32 × Int32 :=
  if zOv (nI i) (nI j) 10 = 0 then f else if zFo (nI i) (nI j) M (M + 1) = 0 then f else (f.1 + 1, if f.2 = -9 then 10 * nI i + nI j else f.2)
def zReI (M i : Nat) (f : Int32 × Int32) : Nat → Int32 × Int32
  | 0 => f
  | j + 1 => zRe1 M i j (zReI M i f j)
def zReO (M : Nat) : Nat → Int32 × Int32
  | 0 => (0, -9)
  | i + 1 => zReI M i (zReO M i) (M + 1)
def zCh1 (N : Nat) (ht hl h x : Int32) (r : Nat) (f : Int32 × Int32) : Int32 × Int32 :=
  (if ht - zMn (nI r) hl < h then f.1 else f.1 + f.2 * zPw x r * zPw (10 - x) (N - r), f.2 * (nI N - nI r) / (nI r + 1))
def zChR (N : Nat) (ht hl h x : Int32) : Nat → Int32 × Int32
  | 0 => (0, 1)
  | r + 1 => zCh1 N ht hl h x r (zChR N ht hl h x r)
/-- shares: one set of hands -/
def zSh1 (gs gk gf : Nat → Int32) (F H : Nat) (hd : Nat) (nt ns : Nat → Int32) (n2 : Int32) (i : Nat) (f : Int32 × (Nat → Int32) × zWkT) : Int32 × (Nat → Int32) × zWkT :=
  if ((nI i >>> (nI hd &&& 31)) &&& 1) = 0 then
    (f.1 + ((zDay gs gk gf (nI F) H (zSc (nI i ||| ((1 : Int32) <<< (nI hd &&& 31))) nt f.2.1 5) (va_cpy ns f.2.2.1 0 0 3) n2).2.2.2 - (zDay gs gk gf (nI F) H (zSc (nI i) nt (zSc (nI i ||| ((1 : Int32) <<< (nI hd &&& 31))) nt f.2.1 5) 5) (va_cpy ns (zDay gs gk gf (nI F) H (zSc (nI i ||| ((1 : Int32) <<< (nI hd &&& 31))) nt f.2.1 5) (va_cpy ns f.2.2.1 0 0 3) n2).1 0 0 3) n2).2.2.2) * (zFc (zBc (nI i)) * zFc (nI H - 1 - zBc (nI i))),
     zSc (nI i) nt (zSc (nI i ||| ((1 : Int32) <<< (nI hd &&& 31))) nt f.2.1 5) 5,
     zDay gs gk gf (nI F) H (zSc (nI i) nt (zSc (nI i ||| ((1 : Int32) <<< (nI hd &&& 31))) nt f.2.1 5) 5) (va_cpy ns (zDay gs gk gf (nI F) H (zSc (nI i ||| ((1 : Int32) <<< (nI hd &&& 31))) nt f.2.1 5) (va_cpy ns f.2.2.1 0 0 3) n2).1 0 0 3) n2)
  else f
def zShR (gs gk gf : Nat → Int32) (F H : Nat) (hd : Nat) (nt ns : Nat → Int32) (n2 : Int32) (pt : Nat → Int32) (wk : zWkT) : Nat → Int32 × (Nat → Int32) × zWkT
  | 0 => (0, pt, wk)
  | i + 1 => zSh1 gs gk gf F H hd nt ns n2 i (zShR gs gk gf F H hd nt ns n2 pt wk i)
-- the seed
def zSd (s : Int64) : Int64 := s * 6364136223846793005 + 1442695040888963407
def zYk (s : Int64) : Nat := s.toBitVec.toNat / 2 ^ 33 % 30
theorem zYk_lt (s : Int64) : zYk s < 30 := Nat.mod_lt _ (by decide)
def zpr (s : Int64) : Int32 := (((s.toUInt64 >>> ((33 : Int32).toInt64.toUInt64 &&& Int64.toUInt64 63)).toInt64) - ((s.toUInt64 >>> ((33 : Int32).toInt64.toUInt64 &&& Int64.toUInt64 63)).toInt64) / 30 * 30).toInt32
theorem zpr_eq (s : Int64) : zpr s = nI (zYk s) := by
  have h1 : (s.toUInt64 >>> ((33 : Int32).toInt64.toUInt64 &&& Int64.toUInt64 63)).toInt64 = lN (s.toBitVec.toNat / 2 ^ 33) := by
    apply Int64.toBitVec_inj.mp
    show (s.toUInt64 >>> ((33 : Int32).toInt64.toUInt64 &&& Int64.toUInt64 63)).toBitVec = BitVec.ofNat 64 _
    have e : ((33 : Int32).toInt64.toUInt64 &&& Int64.toUInt64 63) = (33 : UInt64) := by decide
    rw [e, UInt64.toBitVec_shiftRight]
    apply BitVec.eq_of_toNat_eq
    have e2 : ((33 : UInt64).toBitVec % 64).toNat = 33 := by decide
    rw [BitVec.toNat_ofNat]
    have hlt := s.toBitVec.isLt
    rw [Nat.mod_eq_of_lt (by omega)]
    show (s.toBitVec >>> ((33 : UInt64).toBitVec % 64)).toNat = _
    rw [BitVec.ushiftRight_eq', e2, BitVec.toNat_ushiftRight, Nat.shiftRight_eq_div_pow]
  have hlt : s.toBitVec.toNat / 2 ^ 33 < 2 ^ 31 := by
    have := s.toBitVec.isLt
    omega
  unfold zpr zYk
  rw [h1, show (30 : Int64) = lN 30 from rfl, pk_lRem (by omega) (by decide) (by decide), lN_i]
/-- years: one -/
def zYtr (F H : Nat) (k : Nat) (t : zStt) : zStt := if zHas (nI H) (nI (k / 6)) = 0 then t else if zTask (nI F) (nI (k % 6)) = 0 then t else (upd t.1 (k / 6) (nI (k % 6)), t.2)
def zYr (gs gk gf : Nat → Int32) (F H : Nat) (gc : Int32) (s0 : Int64) (t0 : zStt) (w0 : zWkT) : Nat → Int64 × zStt × zWkT
  | 0 => (s0, t0, w0)
  | i + 1 => (zSd (zYr gs gk gf F H gc s0 t0 w0 i).1,
     zend gc (zDy gs gk gf F H (zYtr F H (zYk (zSd (zYr gs gk gf F H gc s0 t0 w0 i).1)) (zYr gs gk gf F H gc s0 t0 w0 i).2.1) (zYr gs gk gf F H gc s0 t0 w0 i).2.2) (zYtr F H (zYk (zSd (zYr gs gk gf F H gc s0 t0 w0 i).1)) (zYr gs gk gf F H gc s0 t0 w0 i).2.1),
     zDy gs gk gf F H (zYtr F H (zYk (zSd (zYr gs gk gf F H gc s0 t0 w0 i).1)) (zYr gs gk gf F H gc s0 t0 w0 i).2.1) (zYr gs gk gf F H gc s0 t0 w0 i).2.2)
theorem zsh1 : ∀ N, N ≤ 8 → (1 : Int32) <<< (nI N &&& 31) = nI (2 ^ N) := by decide
theorem zFcH : ∀ H, H ≤ 5 → zFc (nI H) = nI (match H with | 0 => 1 | 1 => 1 | 2 => 2 | 3 => 6 | 4 => 24 | _ => 120) := by decide
def zfn (H : Nat) : Nat := match H with | 0 => 1 | 1 => 1 | 2 => 2 | 3 => 6 | 4 => 24 | _ => 120
theorem zFcN : ∀ H, H ≤ 5 → zFc (nI H) = nI (zfn H) := by decide
theorem zWH_1 {N : Nat} (h1 : 1 ≤ N) (h : N ≤ 8) : ¬ zWH (nI N) = 0 := by
  have : ∀ N, 1 ≤ N → N ≤ 8 → ¬ zWH (nI N) = 0 := by
    intro N a b
    have : ∀ N, N ≤ 8 → 1 ≤ N → ¬ zWH (nI N) = 0 := by decide
    exact this N b a
  exact this N h1 h
theorem zWH_of {x : Int32} (h : ¬ zWH x = 0) : ∃ N : Nat, 1 ≤ N ∧ N ≤ 8 ∧ x = nI N := by
  by_cases h0 : x < 1
  · rw [zWH, if_pos h0] at h; exact absurd rfl h
  by_cases h1 : 8 < x
  · rw [zWH, if_neg h0, if_pos h1] at h; exact absurd rfl h
  obtain ⟨j, hj, rfl⟩ := nI_of2 (x := x) (M := 8) (n := 8) (by decide) (fun q => h0 (Int32.lt_trans q (by decide))) (Int32.not_lt.mp h1)
  refine ⟨j, ?_, hj, rfl⟩
  rcases Nat.eq_zero_or_pos j with q | q
  · exact absurd (by rw [q]; decide) h0
  · exact q
theorem zIR_1 {R : Nat} (h : R ≤ 3) : ¬ zIR (nI R) = 0 := by
  have : ∀ R, R ≤ 3 → ¬ zIR (nI R) = 0 := by decide
  exact this R h
theorem zIR_of {x : Int32} (h : ¬ zIR x = 0) : ∃ R : Nat, R ≤ 3 ∧ x = nI R := by
  by_cases h0 : x < 0
  · rw [zIR, if_pos h0] at h; exact absurd rfl h
  by_cases h1 : 3 < x
  · rw [zIR, if_neg h0, if_pos h1] at h; exact absurd rfl h
  exact nI_of2 (x := x) (M := 3) (n := 3) (by decide) h0 (Int32.not_lt.mp h1)
