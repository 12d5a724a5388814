theorem zPd_eq {p : Nat → Int32} {mo v : Int32} {w : zWkT} (hv : v = zMx 0 (mo - w.2.2.1 - p 11)) : upd (upd (upd (zPf p w) 14 (p 14 + v)) 11 0) 15 (p 15 + 1) = zPd mo p w := by
  funext j
  unfold upd zPd
  by_cases h1 : j = 15
  · simp [h1]
  by_cases h2 : j = 11
  · simp [h2]
  by_cases h3 : j = 14
  · simp [h3, hv]
  simp [h1, h2, h3]
theorem zix_m {a k n : Nat} {x : Int32} (hx : x = nI (16 * a)) (h : 16 * a + k < n) (hn : n < 2 ^ 31 := by decide) : zix (x + nI k) n (16 * a + k) := by
  rw [hx, nI_add]; exact zix_n h hn
theorem zm16 (a : Nat) : (16 : Int32) * nI a = nI (16 * a) := pk_mul 16 a
def zWz : Nat → Int32
  | 0 => 1
  | k + 1 => zWz k * nI (k + 2)
/-- digits of a row -/
def zDg (b H row h : Nat) : Nat := row / b ^ (H - 1 - h) % b
def zDt (b H row : Nat) : Nat → Int32 := fun h => nI (zDg b H row h)
/-- a plan's figures laid into a page: from hand H - n on -/
def zLp (F H R : Nat) : Nat → (Nat → Int32) → (Nat → Int32) × Int32
  | 0, t => (t, 1)
  | n + 1, t => if nI (zDg 10 H R (H - (n + 1))) ≤ 1 + nI F then zLp F H R n (upd t (H - (n + 1)) (nI (zDg 10 H R (H - (n + 1))))) else (upd t (H - (n + 1)) (nI (zDg 10 H R (H - (n + 1)))), 0)
theorem zLp_01 (F H R : Nat) : ∀ n t, (zLp F H R n t).2 = 0 ∨ (zLp F H R n t).2 = 1
  | 0, _ => Or.inr rfl
  | n + 1, t => by
    simp only [zLp]
    split
    · exact zLp_01 F H R n _
    · exact Or.inl rfl
/-- the reference's rows of plans: trial, best plan, sound, away, least, most asked; made, sound -/
def zFs (mg mk md : Nat → Int32) (F H : Nat) (mo : Int32) (pg : Nat → Int32) (row : Nat) (S : (Nat → Int32) × (Int32 × Int32 × Int32 × Int32 × Int32) × Int32 × Int32) : (Nat → Int32) × (Int32 × Int32 × Int32 × Int32 × Int32) × Int32 × Int32 :=
  (zPf (zC16 (zDt (2 + F) H row) (zC16 pg S.1 16) H) (zMd mg mk md F H (zC16 (zDt (2 + F) H row) (zC16 pg S.1 16) H)),
   zWg mo (zMd mg mk md F H (zC16 (zDt (2 + F) H row) (zC16 pg S.1 16) H)).2.2.1 (zMd mg mk md F H (zC16 (zDt (2 + F) H row) (zC16 pg S.1 16) H)).2.2.2 (nI (zBu (zDt (2 + F) H row) H)) (zFg (zDt (2 + F) H row) H) S.2.1,
   (zMd mg mk md F H (zC16 (zDt (2 + F) H row) (zC16 pg S.1 16) H)).2.2.1, (zMd mg mk md F H (zC16 (zDt (2 + F) H row) (zC16 pg S.1 16) H)).2.2.2)
def zFp (mg mk md : Nat → Int32) (F H : Nat) (mo : Int32) (pg mq : Nat → Int32) (mw : Int32 × Int32) : Nat → (Nat → Int32) × (Int32 × Int32 × Int32 × Int32 × Int32) × Int32 × Int32
  | 0 => (mq, (-9, -9, 0, -9, 0), mw)
  | n + 1 => zFs mg mk md F H mo pg n (zFp mg mk md F H mo pg mq mw n)
/-- sparing: one set -/
def zSm1 (N R : Nat) (lk : Int32) (i : Nat) (f : Int32 × Int32) : Int32 × Int32 :=
  if (lk &&& (((zRas (N, nI i) R).2 &&& ((1 : Int32) <<< (nI (zRas (N, nI i) R).1 &&& 31) - 1)) ^^^ (-1))) = 0 then (if f.1 = -9 then (zMy (nI i) 8, nI i) else if f.1 ≤ zMy (nI i) 8 then f else (zMy (nI i) 8, nI i)) else f
def zSmR (N R : Nat) (lk : Int32) : Nat → Int32 × Int32
  | 0 => (-9, -9)
  | i + 1 => zSm1 N R lk i (zSmR N R lk i)
def zWlN (N R : Nat) (wl : Int32 × Int32) : Nat → Int32 × Int32
  | 0 => wl
  | i + 1 => (nI (zRas (N, nI i) R).1, (zRas (N, nI i) R).2)
/-- what is seen: from place S - n on; answer, wall -/
def zHw (w : Nat × Int32) (c : Int32) : Int32 := if c < nI w.1 then (w.2 >>> (c &&& 31)) &&& 1 else 2
def zIs (nr no nh : Nat → Int32) (S N : Nat) (u : Int32) : Nat → Int32 × Int32 → Int32 × Int32 × Int32
  | 0, wl => (1, wl)
  | n + 1, _ => if zHw (zRas (N, u) (nr (S - (n + 1))).toNatClampNeg) (no (S - (n + 1))) = nh (S - (n + 1)) then zIs nr no nh S N u n (nI (zRas (N, u) (nr (S - (n + 1))).toNatClampNeg).1, (zRas (N, u) (nr (S - (n + 1))).toNatClampNeg).2)
    else (0, nI (zRas (N, u) (nr (S - (n + 1))).toNatClampNeg).1, (zRas (N, u) (nr (S - (n + 1))).toNatClampNeg).2)
theorem zIs_01 (nr no nh : Nat → Int32) (S N : Nat) (u : Int32) : ∀ n wl, (zIs nr no nh S N u n wl).1 = 0 ∨ (zIs nr no nh S N u n wl).1 = 1
  | 0, _ => Or.inr rfl
  | n + 1, wl => by
    simp only [zIs]
    split
    · exact zIs_01 nr no nh S N u n _
    · exact Or.inl rfl
/-- courses: found, sound, hollow; wall -/
def zCm1 (nr no nh : Nat → Int32) (S N i : Nat) (f : (Int32 × Int32 × Int32) × (Int32 × Int32)) : (Int32 × Int32 × Int32) × (Int32 × Int32) :=
  (if (zIs nr no nh S N (nI i) S f.2).1 = 0 then f.1 else (f.1.1 + 1, f.1.2.1 &&& nI i, f.1.2.2 &&& (nI i ^^^ (-1))), (zIs nr no nh S N (nI i) S f.2).2)
def zCmR (nr no nh : Nat → Int32) (S N : Nat) (e : Int32) (wl : Int32 × Int32) : Nat → (Int32 × Int32 × Int32) × (Int32 × Int32)
  | 0 => ((0, e, e), wl)
  | i + 1 => zCm1 nr no nh S N i (zCmR nr no nh S N e wl i)
/-- at rest: one choice of k, from k = 10 - n on, while it is so -/
def zRk1 (M : Nat) (c m k : Int32) (is : Int32) : Int32 :=
  if is = 0 then 0 else if k + m - 3 * zMs k m ≤ c + m - 3 * zMs c m then (if k ≤ nI M then (if 9 - k - 2 * zMs c k ≤ 9 - m - 2 * zMs c m then 1 else 0) else 1) else 0
def zRkR (M : Nat) (c m : Int32) : Nat → Int32
  | 0 => 1
  | k + 1 => zRk1 M c m (nI k) (zRkR M c m k)
def zRm1 (M i j : Nat) (f : Int32 × Int32) : Int32 × Int32 :=
  (if zRkR M (nI i) (nI j) 10 = 0 then f.1 + 0 else f.1 + 1, if zRkR M (nI i) (nI j) 10 = 0 then f.2 else if f.1 = 0 then 10 * nI i + nI j else f.2)
def zRmI (M i : Nat) (f : Int32 × Int32) : Nat → Int32 × Int32
  | 0 => f
  | j + 1 => zRm1 M i j (zRmI M i f j)
def zRmO (M : Nat) : Nat → Int32 × Int32
  | 0 => (0, -9)
  | i + 1 => zRmI M i (zRmO M i) (M + 1)
