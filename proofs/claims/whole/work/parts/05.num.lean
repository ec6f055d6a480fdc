/-! NUMBERS AND PURE WORDS of the class -/
abbrev pjT (cI cJ cZ : ClassId) : List (ClassId × FieldType) := [(cI, .int), (cJ, .long), (cZ, .boolean)]
/-- there is an account x among n -/
abbrev pjH (n : Nat) (x : Int32) : Prop := ¬ x < 0 ∧ ¬ nI n ≤ x
theorem pjH_in {n : Nat} {x : Int32} (hn : n < 2 ^ 31) (h : pjH n x) : vp_in x n := by
  rw [vp_in_iff]
  obtain ⟨h1, h2⟩ := h
  rw [Int32.lt_iff_toInt_lt, Int32.toInt_zero] at h1
  rw [Int32.le_iff_toInt_le, nI_toInt hn] at h2
  omega
/-- an account would have less than 0 -/
abbrev pjO (n : Nat) (f : Nat → Int64) (a b : Int32) (v : Int64) : Prop := (pjH n a ∧ f a.toNatClampNeg - v < 0) ∨ (pjH n b ∧ f b.toNatClampNeg + v < 0)
def pj1 (n : Nat) (f : Nat → Int64) (a : Int32) (v : Int64) : Nat → Int64 := if pjH n a then vp_updL f a.toNatClampNeg (f a.toNatClampNeg + v) else f
def pj1c (n : Nat) (g : Nat → Int32) (a : Int32) : Nat → Int32 := if pjH n a then upd g a.toNatClampNeg (g a.toNatClampNeg + 1) else g
def pj2 (n : Nat) (f : Nat → Int64) (a b : Int32) (v : Int64) : Nat → Int64 := pj1 n (pj1 n f a (-v)) b v
def pj2c (n : Nat) (g : Nat → Int32) (a b : Int32) : Nat → Int32 := pj1c n (pj1c n g a) b
/-- the first i places from g, the others from f -/
def pjC {α : Type} (i : Nat) (g f : Nat → α) : Nat → α := fun j => if j < i then g j else f j
theorem pjC_0 {α : Type} (g f : Nat → α) : pjC 0 g f = f := by funext j; simp [pjC]
theorem pjC_sL (i : Nat) (g f : Nat → Int64) : vp_updL (pjC i g f) i (g i) = pjC (i + 1) g f := by
  funext j
  simp only [vp_updL, pjC]
  by_cases h : j = i
  · subst h; simp
  · by_cases h2 : j < i
    · rw [if_neg h, if_pos h2, if_pos (by omega)]
    · rw [if_neg h, if_neg h2, if_neg (by omega)]
theorem pjC_sI (i : Nat) (g f : Nat → Int32) : upd (pjC i g f) i (g i) = pjC (i + 1) g f := by
  funext j
  simp only [upd, pjC]
  by_cases h : j = i
  · subst h; simp
  · by_cases h2 : j < i
    · rw [if_neg h, if_pos h2, if_pos (by omega)]
    · rw [if_neg h, if_neg h2, if_neg (by omega)]
/-- the places from a up to i are 1 -/
def pjF (a i : Nat) (z : Nat → Int32) : Nat → Int32 := fun j => if a ≤ j ∧ j < i then 1 else z j
theorem pjF_0 (a : Nat) (z : Nat → Int32) : pjF a a z = z := by funext j; simp only [pjF]; rw [if_neg (by omega)]
theorem pjF_s {a i : Nat} (h : a ≤ i) (z : Nat → Int32) : upd (pjF a i z) i 1 = pjF a (i + 1) z := by
  funext j
  simp only [upd, pjF]
  by_cases h1 : j = i
  · subst h1; rw [if_pos rfl, if_pos ⟨h, by omega⟩]
  · by_cases h2 : a ≤ j ∧ j < i
    · rw [if_neg h1, if_pos h2, if_pos (by omega)]
    · rw [if_neg h1, if_neg h2, if_neg (by omega)]
/-- k changes from the place i on, one after the other, until one would leave less than 0 -/
def pjTry (n : Nat) (fr to : Nat → Int32) (va : Nat → Int64) : Nat → Nat → (Nat → Int64) → (Nat → Int32) → Bool × (Nat → Int64) × (Nat → Int32)
  | 0, _, f, g => (true, f, g)
  | k + 1, i, f, g => if pjO n f (fr i) (to i) (va i) then (false, f, g) else pjTry n fr to va k (i + 1) (pj2 n f (fr i) (to i) (va i)) (pj2c n g (fr i) (to i))
/-- k blocks from the place i on: the firm ones happen -/
def pjRep (n : Nat) (fr to : Nat → Int32) (va : Nat → Int64) (fi : Nat → Int32) : Nat → Nat → Nat → (Nat → Int64) → (Nat → Int32) → Nat × (Nat → Int64) × (Nat → Int32)
  | 0, _, h, f, g => (h, f, g)
  | k + 1, i, h, f, g => if fi i = 0 then pjRep n fr to va fi k (i + 1) h f g else pjRep n fr to va fi k (i + 1) (h + 1) (pj2 n f (fr i) (to i) (va i)) (pj2c n g (fr i) (to i))
/-- what is left behind a block -/
def pjL (x : Int32) : Int32 := if 0 < x then x - 1 else x
/-- k blocks are written, unless the power fails: how many, written, left -/
def pjB : Nat → Nat → Int32 → Int32 → Nat × Int32 × Int32
  | 0, d, w, x => (d, w, x)
  | k + 1, d, w, x => if x = 0 then (d, w, x) else pjB k (d + 1) (w + 1) (pjL x)
theorem pj_max0 {k : Nat} (hk : k < 2 ^ 31) : (if (0 : Int32) < nI k then nI k else 0) = nI k := by
  by_cases h : k = 0
  · subst h; rw [nI_0]; rfl
  · rw [if_pos]
    rw [Int32.lt_iff_toInt_lt, nI_toInt hk, Int32.toInt_zero]
    omega
theorem pj_ne1 {k : Nat} (hk : k < 2 ^ 31) : ¬ nI k = -1 := by
  intro h
  have h1 := congrArg Int32.toInt h
  rw [nI_toInt hk] at h1
  have h2 : (-1 : Int32).toInt = -1 := by decide
  omega
theorem pjB_le (k : Nat) : ∀ (d : Nat) (w x : Int32), (pjB k d w x).1 ≤ d + k := by
  induction k with
  | zero => intro d w x; exact Nat.le_refl _
  | succ k ih =>
    intro d w x
    rw [pjB]
    by_cases h : x = 0
    · rw [if_pos h]; exact Nat.le_add_right _ _
    · rw [if_neg h]; have := ih (d + 1) (w + 1) (pjL x); omega
/-- the blocks of a snapshot -/
def pjN (n : Nat) : Nat := (n + 15) / 16 + 1
/-- a truth value -/
def pjd (x : Int32) : Int32 := if x = 0 then 1 else 0
theorem pjd_1 {x : Int32} (h : x = 0) : pjd x = 1 := if_pos h
theorem pjd_0 {x : Int32} (h : ¬ x = 0) : pjd x = 0 := if_neg h
theorem pjd_n {x : Int32} : narrow .boolean (.int (pjd x)) = .int (pjd x) := by
  unfold pjd; split <;> decide
/-- the reference's question before a change -/
abbrev pmO (f : Nat → Int64) (a b : Int32) (v : Int64) : Prop := (a < 0 ∧ f b.toNatClampNeg + v < 0) ∨ (¬ a < 0 ∧ f a.toNatClampNeg - v < 0)
theorem pjH_64 {n : Nat} {x : Int32} (hn : n ≤ 64) (h : pjH n x) : vp_in x 64 := by
  have h1 := vp_in_iff.mp (pjH_in (by omega) h)
  rw [vp_in_iff]
  omega
theorem pj2_neg {n : Nat} {f : Nat → Int64} {a b : Int32} {v : Int64} (ha : a < 0) (hb : pjH n b) : pj2 n f a b v = vp_updL f b.toNatClampNeg (f b.toNatClampNeg + v) := by
  rw [pj2, pj1, pj1, if_pos hb, if_neg (fun h => h.1 ha)]
theorem pj2c_neg {n : Nat} {f : Nat → Int32} {a b : Int32} (ha : a < 0) (hb : pjH n b) : pj2c n f a b = upd f b.toNatClampNeg (f b.toNatClampNeg + 1) := by
  rw [pj2c, pj1c, pj1c, if_pos hb, if_neg (fun h => h.1 ha)]
theorem pj2_pos {n : Nat} {f : Nat → Int64} {a b : Int32} {v : Int64} (ha : pjH n a) (hb : pjH n b) : pj2 n f a b v = vp_updL (vp_updL f a.toNatClampNeg (f a.toNatClampNeg - v)) b.toNatClampNeg (vp_updL f a.toNatClampNeg (f a.toNatClampNeg - v) b.toNatClampNeg + v) := by
  rw [pj2, pj1, pj1, if_pos hb, if_pos ha, Int64.sub_eq_add_neg]
theorem pj2c_pos {n : Nat} {f : Nat → Int32} {a b : Int32} (ha : pjH n a) (hb : pjH n b) : pj2c n f a b = upd (upd f a.toNatClampNeg (f a.toNatClampNeg + 1)) b.toNatClampNeg (upd f a.toNatClampNeg (f a.toNatClampNeg + 1) b.toNatClampNeg + 1) := by
  rw [pj2c, pj1c, pj1c, if_pos hb, if_pos ha]
/-- k changes from the place i on, all of them -/
def pmApp (n : Nat) (fr to : Nat → Int32) (va : Nat → Int64) : Nat → Nat → (Nat → Int64) → (Nat → Int32) → (Nat → Int64) × (Nat → Int32)
  | 0, _, f, g => (f, g)
  | k + 1, i, f, g => pmApp n fr to va k (i + 1) (pj2 n f (fr i) (to i) (va i)) (pj2c n g (fr i) (to i))
/-- the reference's trial: k changes from the place i on -/
def pmT (t : Nat → Int64) (a b : Int32) (v : Int64) : Nat → Int64 := if a < 0 then vp_updL t b.toNatClampNeg (t b.toNatClampNeg + v) else vp_updL (vp_updL t a.toNatClampNeg (t a.toNatClampNeg - v)) b.toNatClampNeg (vp_updL t a.toNatClampNeg (t a.toNatClampNeg - v) b.toNatClampNeg + v)
/-- one change is paid for -/
def pmOk (t : Nat → Int64) (a b : Int32) (v : Int64) : Prop := if a < 0 then ¬ t b.toNatClampNeg + v < 0 else ¬ t a.toNatClampNeg - v < 0
def pmR (fr to : Nat → Int32) (va : Nat → Int64) : Nat → Nat → Prop → (Nat → Int64) → Prop × (Nat → Int64)
  | 0, _, r, t => (r, t)
  | k + 1, i, r, t => pmR fr to va k (i + 1) (r ∧ pmOk t (fr i) (to i) (va i)) (pmT t (fr i) (to i) (va i))
