theorem zlc_lt (x y : Int64) : lg_cmp x y < 0 ↔ x < y := by
  unfold lg_cmp
  by_cases h : x > y
  · rw [if_pos h]
    exact ⟨fun q => absurd q (by decide), fun q => (Int64.lt_irrefl (Int64.lt_trans q h)).elim⟩
  · rw [if_neg h]
    by_cases h2 : x = y
    · rw [if_pos h2]
      subst h2
      exact ⟨fun q => absurd q (by decide), fun q => (Int64.lt_irrefl q).elim⟩
    · rw [if_neg h2]
      refine ⟨fun _ => ?_, fun _ => by decide⟩
      rcases Int64.lt_or_eq_of_le (Int64.not_lt.mp h) with q | q
      · exact q
      · exact absurd q h2
theorem zlc_gt (x y : Int64) : 0 < lg_cmp x y ↔ y < x := by
  unfold lg_cmp
  by_cases h : x > y
  · rw [if_pos h]
    exact ⟨fun _ => h, fun _ => by decide⟩
  · rw [if_neg h]
    by_cases h2 : x = y
    · rw [if_pos h2]
      exact ⟨fun q => absurd q (by decide), fun q => absurd q h⟩
    · rw [if_neg h2]
      exact ⟨fun q => absurd q (by decide), fun q => absurd q h⟩
def zInL (v a b : Int64) : Int32 := if lg_cmp v a < 0 then 0 else if 0 < lg_cmp v b then 0 else 1
theorem zw_lt (a b : Int32) : a.toInt64 < b.toInt64 ↔ a < b := by
  rw [Int64.lt_iff_toInt_lt, Int32.lt_iff_toInt_lt, Int32.toInt_toInt64, Int32.toInt_toInt64]
theorem zInL_i (x lo hi : Int32) : zInL x.toInt64 lo.toInt64 hi.toInt64 = zIn x lo hi := by
  unfold zInL zIn
  simp only [zlc_lt, zlc_gt, zw_lt]
theorem zIn_has {x : Int32} {H : Nat} (hH : H < 1000) : zIn x 0 (nI H - 1) = zHas (nI H) x := by
  unfold zIn zHas
  by_cases h : x < 0
  · rw [if_pos h, if_pos h]
  · rw [if_neg h, if_neg h]
    obtain ⟨j, hj, rfl⟩ := nI_of h
    have e : nI H - 1 < nI j ↔ nI H ≤ nI j := by
      rcases Nat.eq_zero_or_pos H with q | q
      · subst q
        have e2 : nI 0 - 1 < nI j := by
          rw [Int32.lt_iff_toInt_lt, nI_toInt hj]
          have : (nI 0 - 1).toInt = -1 := by decide
          omega
        exact ⟨fun _ => nI_le (Nat.zero_le _) hj, fun _ => e2⟩
      · rw [show (1 : Int32) = nI 1 from rfl, pk_sub q, nI_ltI (by omega) hj, nI_leI (by omega) hj]
        omega
    by_cases h2 : nI H ≤ nI j
    · rw [if_pos (e.mpr h2), if_pos h2]
    · rw [if_neg (fun q => h2 (e.mp q)), if_neg h2]
def zHs (u k : Int32) : Int32 := if (u >>> (k &&& 31)) &&& 1 = 1 then 1 else 0
def zMy (u : Int32) : Nat → Int32
  | 0 => 0
  | k + 1 => zMy u k + ((u >>> (nI k &&& 31)) &&& 1)
theorem zix_0 {j n : Nat} (h : j < n) (hn : n < 2 ^ 31 := by decide) : zix (0 + nI j) n j := by
  rw [Int32.zero_add]; exact zix_n h hn
theorem zix_5 {j n : Nat} (h : 5 + j < n) (hn : n < 2 ^ 31 := by decide) : zix (5 + nI j) n (5 + j) := by
  rw [show (5 : Int32) = nI 5 from rfl, nI_add]; exact zix_n h hn
theorem zGa_le (v : Int32) : (if 0 ≤ v then v else 0) = zMx 0 v := by
  unfold zMx
  by_cases h : 0 < v
  · rw [if_pos h, if_pos (Int32.le_of_lt h)]
  · rw [if_neg h]
    by_cases h2 : 0 ≤ v
    · rw [if_pos h2]
      exact Int32.le_antisymm (Int32.not_lt.mp h) h2
    · rw [if_neg h2]
theorem zMn_le (g s : Int32) : (if s ≤ g then s else g) = zMn g s := by
  unfold zMn
  by_cases h : s < g
  · rw [if_pos h, if_pos (Int32.le_of_lt h)]
  · rw [if_neg h]
    by_cases h2 : s ≤ g
    · rw [if_pos h2]
      exact Int32.le_antisymm h2 (Int32.not_lt.mp h)
    · rw [if_neg h2]
/-- a page with other straws and straw -/
def zPk (p s : Nat → Int32) (u : Int32) : Nat → Int32 := fun j => if j = 8 then u else if 5 ≤ j ∧ j < 8 then s (j - 5) else p j
theorem zPk_h {p s : Nat → Int32} {u : Int32} {h : Nat} (hh : h < 5) : zPk p s u h = p h := by
  unfold zPk; rw [if_neg (by omega), if_neg (by omega)]
theorem zPk_s {p s : Nat → Int32} {u : Int32} {f : Nat} (hf : f < 3) : zPk p s u (5 + f) = s f := by
  unfold zPk; rw [if_neg (by omega), if_pos (by omega), Nat.add_sub_cancel_left]
theorem zPk_8 {p s : Nat → Int32} {u : Int32} : zPk p s u 8 = u := by unfold zPk; rw [if_pos rfl]
theorem zPk_o {p s : Nat → Int32} {u : Int32} {j : Nat} (hj : 8 < j) : zPk p s u j = p j := by
  unfold zPk; rw [if_neg (by omega), if_neg (by omega)]
theorem zPk_0 (p : Nat → Int32) : zPk p (fun j => p (5 + j)) (p 8) = p := by
  funext j
  unfold zPk
  by_cases h : j = 8
  · rw [if_pos h, h]
  · rw [if_neg h]
    by_cases h2 : 5 ≤ j ∧ j < 8
    · rw [if_pos h2]
      show p (5 + (j - 5)) = p j
      rw [show 5 + (j - 5) = j by omega]
    · rw [if_neg h2]
theorem zPk_g {p s : Nat → Int32} {u v w : Int32} {f : Nat} (hf : f < 3) : upd (upd (zPk p s u) (5 + f) v) 8 w = zPk p (upd s f v) w := by
  funext j
  by_cases h : j = 8
  · subst h
    rw [pk_us, zPk_8]
  · rw [pk_un h]
    by_cases h2 : j = 5 + f
    · subst h2
      rw [pk_us, zPk_s hf, pk_us]
    · rw [pk_un h2]
      unfold zPk
      rw [if_neg h, if_neg h]
      by_cases h3 : 5 ≤ j ∧ j < 8
      · rw [if_pos h3, if_pos h3, pk_un (by omega)]
      · rw [if_neg h3, if_neg h3]
/-- a page behind a day's work -/
def zPf (p : Nat → Int32) (w : zWkT) : Nat → Int32 := fun j => if j = 10 then p 10 + (w.2.2.1 - w.2.2.2) else if j = 9 then p 9 + w.2.2.2 else zPk p w.1 w.2.1 j
def zPd (mo : Int32) (p : Nat → Int32) (w : zWkT) : Nat → Int32 := fun j => if j = 15 then p 15 + 1 else if j = 11 then 0 else if j = 14 then p 14 + zMx 0 (mo - w.2.2.1 - p 11) else zPf p w j
theorem zPf_eq {p s : Nat → Int32} {u m n : Int32} : upd (upd (upd (zPk p s u) 8 (u - n)) 9 (p 9 + n)) 10 (p 10 + (m - n)) = zPf p (s, u - n, m, n) := by
  funext j
  unfold upd zPf zPk
  by_cases h1 : j = 10
  · simp [h1]
  by_cases h2 : j = 9
  · simp [h2]
  by_cases h3 : j = 8
  · simp [h3]
  simp [h1, h2, h3]
/-- the page's own day -/
def zMd (mg mk md : Nat → Int32) (F H : Nat) (p : Nat → Int32) : zWkT := zDay mg mk md (nI F) H p (fun j => p (5 + j)) (p 8)
def zC16 (f g : Nat → Int32) (i : Nat) : Nat → Int32 := fun j => if j < i then f j else g j
theorem zC16_0 (f g : Nat → Int32) : zC16 f g 0 = g := by funext j; simp [zC16]
theorem zC16_s {f g : Nat → Int32} {i : Nat} : upd (zC16 f g i) i (f i) = zC16 f g (i + 1) := by
  funext j
  unfold upd zC16
  by_cases h : j = i
  · subst h; simp
  · simp only [h, if_false]
    by_cases h2 : j < i
    · rw [if_pos h2, if_pos (by omega)]
    · rw [if_neg h2, if_neg (by omega)]
def zPut (f g : Nat → Int32) (a i : Nat) : Nat → Int32 := fun j => if a ≤ j ∧ j < a + i then g (j - a) else f j
theorem zPut_0 (f g : Nat → Int32) (a : Nat) : zPut f g a 0 = f := by
  funext j
  unfold zPut
  rw [if_neg (by omega)]
theorem zPut_s {f g : Nat → Int32} {a i : Nat} : upd (zPut f g a i) (a + i) (g i) = zPut f g a (i + 1) := by
  funext j
  unfold upd zPut
  by_cases h : j = a + i
  · subst h; rw [if_pos rfl, if_pos (by omega), Nat.add_sub_cancel_left]
  · rw [if_neg h]
    by_cases h2 : a ≤ j ∧ j < a + i
    · rw [if_pos h2, if_pos (by omega)]
    · rw [if_neg h2, if_neg (by omega)]
/-- the book moved on by i ints -/
def zSf (f : Nat → Int32) (i : Nat) : Nat → Int32 := fun j => if j < i then f (j + 16) else f j
theorem zSf_0 (f : Nat → Int32) : zSf f 0 = f := by funext j; simp [zSf]
theorem zSf_s {f : Nat → Int32} {i : Nat} : upd (zSf f i) i (zSf f i (i + 16)) = zSf f (i + 1) := by
  funext j
  unfold upd zSf
  by_cases h : j = i
  · subst h
    rw [if_pos rfl, if_neg (by omega), if_pos (by omega)]
  · rw [if_neg h]
    by_cases h2 : j < i
    · rw [if_pos h2, if_pos (by omega)]
    · rw [if_neg h2, if_neg (by omega)]
def zNb (bb : Nat → Int32) (z : Nat) (pg : Nat → Int32) : Nat → Int32 := if z = 14 then zPut (zSf bb 208) pg 208 16 else zPut bb pg (16 * z) 16
/-- the lowest hollow course: from place h - n on -/
def zKk (u : Int32) (h : Nat) : Nat → Nat
  | 0 => h
  | n + 1 => if zHs u (nI (h - (n + 1))) = 0 then h - (n + 1) else zKk u h n
theorem zKk_le (u : Int32) (h : Nat) : ∀ n, zKk u h n ≤ h
  | 0 => Nat.le_refl h
  | n + 1 => by
    simp only [zKk]
    split
    · omega
    · exact zKk_le u h n
/-- rain on a wall of h courses: high, sound -/
def zRa (w : Nat × Int32) : Nat × Int32 :=
  if zKk w.2 w.1 w.1 < w.1 then (w.1 - 1, (w.2 &&& ((1 : Int32) <<< (nI (zKk w.2 w.1 w.1) &&& 31) - 1)) ||| ((w.2 >>> ((nI (zKk w.2 w.1 w.1) + 1) &&& 31)) <<< (nI (zKk w.2 w.1 w.1) &&& 31))) else w
def zRas (w : Nat × Int32) : Nat → Nat × Int32
  | 0 => w
  | r + 1 => zRa (zRas w r)
theorem zRa_le (w : Nat × Int32) : (zRa w).1 ≤ w.1 := by
  unfold zRa
  split
  · show w.1 - 1 ≤ w.1; omega
  · exact Nat.le_refl _
theorem zRas_le (w : Nat × Int32) : ∀ r, (zRas w r).1 ≤ w.1
  | 0 => Nat.le_refl _
  | r + 1 => Nat.le_trans (zRa_le _) (zRas_le w r)
def zWy (n : Nat) : Nat → Int32
  | 0 => 1
  | k + 1 => zWy n k * nI (k + 2)
def zMs (c m : Int32) : Int32 := if c ≤ m then 0 else c - m
