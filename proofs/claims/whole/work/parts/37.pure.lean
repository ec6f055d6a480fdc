/-! THE TWO SIDES AS PURE STATES -/
theorem z_lt {n : Nat} {x : Int32} (hn : n ≤ 64) (h : pjH n x) : x.toNatClampNeg < n := by
  have h1 := pjH_in (by omega) h
  rw [vp_in, not_or] at h1
  omega
theorem z_pj1 {n : Nat} (hn : n ≤ 64) {f f' : Nat → Int64} (h : ∀ j, j < n → f j = f' j) (a : Int32) (v : Int64) : ∀ j, j < n → pj1 n f a v j = pj1 n f' a v j := by
  intro j hj
  unfold pj1
  by_cases ha : pjH n a
  · rw [if_pos ha, if_pos ha]
    simp only [vp_updL]
    rw [h _ (z_lt hn ha), h j hj]
  · rw [if_neg ha, if_neg ha]
    exact h j hj
theorem z_pj1c {n : Nat} (hn : n ≤ 64) {f f' : Nat → Int32} (h : ∀ j, j < n → f j = f' j) (a : Int32) : ∀ j, j < n → pj1c n f a j = pj1c n f' a j := by
  intro j hj
  unfold pj1c
  by_cases ha : pjH n a
  · rw [if_pos ha, if_pos ha]
    simp only [upd]
    rw [h _ (z_lt hn ha), h j hj]
  · rw [if_neg ha, if_neg ha]
    exact h j hj
theorem z_pj2 {n : Nat} (hn : n ≤ 64) {f f' : Nat → Int64} (h : ∀ j, j < n → f j = f' j) (a b : Int32) (v : Int64) : ∀ j, j < n → pj2 n f a b v j = pj2 n f' a b v j := z_pj1 hn (z_pj1 hn h a (-v)) b v
theorem z_pj2c {n : Nat} (hn : n ≤ 64) {f f' : Nat → Int32} (h : ∀ j, j < n → f j = f' j) (a b : Int32) : ∀ j, j < n → pj2c n f a b j = pj2c n f' a b j := z_pj1c hn (z_pj1c hn h a) b
theorem z_rep {n : Nat} (hn : n ≤ 64) {fr to fi fr' to' fi' : Nat → Int32} {va va' : Nat → Int64} : ∀ (k i h : Nat) (f f' : Nat → Int64) (g g' : Nat → Int32), (∀ j, j < n → f j = f' j) → (∀ j, j < n → g j = g' j) → (∀ q, i ≤ q → q < i + k → fr q = fr' q ∧ to q = to' q ∧ va q = va' q ∧ fi q = fi' q) →
    (pjRep n fr to va fi k i h f g).1 = (pjRep n fr' to' va' fi' k i h f' g').1 ∧ ∀ j, j < n → (pjRep n fr to va fi k i h f g).2.1 j = (pjRep n fr' to' va' fi' k i h f' g').2.1 j ∧ (pjRep n fr to va fi k i h f g).2.2 j = (pjRep n fr' to' va' fi' k i h f' g').2.2 j := by
  intro k
  induction k with
  | zero => intro i h f f' g g' hf hg he; exact ⟨rfl, fun j hj => ⟨hf j hj, hg j hj⟩⟩
  | succ k ih =>
    intro i h f f' g g' hf hg he
    obtain ⟨e1, e2, e3, e4⟩ := he i (Nat.le_refl _) (by omega)
    rw [pjRep, pjRep, e1, e2, e3, e4]
    by_cases z : fi' i = 0
    · rw [if_pos z, if_pos z]
      exact ih (i + 1) h f f' g g' hf hg (fun q h1 h2 => he q (by omega) (by omega))
    · rw [if_neg z, if_neg z]
      exact ih (i + 1) (h + 1) _ _ _ _ (z_pj2 hn hf _ _ _) (z_pj2c hn hg _ _) (fun q h1 h2 => he q (by omega) (by omega))
theorem z_app {n : Nat} {fr to fi : Nat → Int32} {va : Nat → Int64} : ∀ (k1 k2 i h : Nat) (f : Nat → Int64) (g : Nat → Int32),
    pjRep n fr to va fi (k1 + k2) i h f g = pjRep n fr to va fi k2 (i + k1) (pjRep n fr to va fi k1 i h f g).1 (pjRep n fr to va fi k1 i h f g).2.1 (pjRep n fr to va fi k1 i h f g).2.2 := by
  intro k1
  induction k1 with
  | zero => intro k2 i h f g; rw [Nat.zero_add]; rfl
  | succ k ih =>
    intro k2 i h f g
    rw [show k + 1 + k2 = (k + k2) + 1 by omega, pjRep]
    rw [show pjRep n fr to va fi (k + 1) i h f g = if fi i = 0 then pjRep n fr to va fi k (i + 1) h f g else pjRep n fr to va fi k (i + 1) (h + 1) (pj2 n f (fr i) (to i) (va i)) (pj2c n g (fr i) (to i)) from rfl]
    rw [show i + (k + 1) = (i + 1) + k by omega]
    by_cases z : fi i = 0
    · rw [if_pos z, if_pos z]; exact ih k2 (i + 1) h f g
    · rw [if_neg z, if_neg z]; exact ih k2 (i + 1) (h + 1) _ _
theorem z_zero {n : Nat} {fr to fi : Nat → Int32} {va : Nat → Int64} : ∀ (k i h : Nat) (f : Nat → Int64) (g : Nat → Int32), (∀ q, i ≤ q → q < i + k → fi q = 0) → pjRep n fr to va fi k i h f g = (h, f, g) := by
  intro k
  induction k with
  | zero => intro i h f g e; rfl
  | succ k ih => intro i h f g e; rw [pjRep, if_pos (e i (Nat.le_refl _) (by omega))]; exact ih (i + 1) h f g (fun q h1 h2 => e q (by omega) (by omega))
theorem z_one {n : Nat} {fr to fi : Nat → Int32} {va : Nat → Int64} : ∀ (k i h : Nat) (f : Nat → Int64) (g : Nat → Int32), (∀ q, i ≤ q → q < i + k → fi q = 1) → pjRep n fr to va fi k i h f g = (h + k, pmApp n fr to va k i f g) := by
  intro k
  induction k with
  | zero => intro i h f g e; rfl
  | succ k ih =>
    intro i h f g e
    rw [pjRep, if_neg (by rw [e i (Nat.le_refl _) (by omega)]; decide), ih (i + 1) (h + 1) _ _ (fun q h1 h2 => e q (by omega) (by omega)), show h + 1 + k = h + (k + 1) by omega]
    rfl
theorem z_try {n : Nat} {fr to : Nat → Int32} {va : Nat → Int64} : ∀ (k i : Nat) (f : Nat → Int64) (g : Nat → Int32), (pjTry n fr to va k i f g).1 = true → (pjTry n fr to va k i f g).2 = pmApp n fr to va k i f g := by
  intro k
  induction k with
  | zero => intro i f g e; rfl
  | succ k ih =>
    intro i f g e
    rw [pjTry] at e ⊢
    by_cases z : pjO n f (fr i) (to i) (va i)
    · rw [if_pos z] at e; cases e
    · rw [if_neg z] at e ⊢; exact ih (i + 1) _ _ e
theorem z_papp {n : Nat} (hn : n ≤ 64) {fr to fr' to' : Nat → Int32} {va va' : Nat → Int64} : ∀ (k i i' : Nat) (f f' : Nat → Int64) (g g' : Nat → Int32), (∀ j, j < n → f j = f' j) → (∀ j, j < n → g j = g' j) → (∀ q, q < k → fr (i + q) = fr' (i' + q) ∧ to (i + q) = to' (i' + q) ∧ va (i + q) = va' (i' + q)) →
    ∀ j, j < n → (pmApp n fr to va k i f g).1 j = (pmApp n fr' to' va' k i' f' g').1 j ∧ (pmApp n fr to va k i f g).2 j = (pmApp n fr' to' va' k i' f' g').2 j := by
  intro k
  induction k with
  | zero => intro i i' f f' g g' hf hg he j hj; exact ⟨hf j hj, hg j hj⟩
  | succ k ih =>
    intro i i' f f' g g' hf hg he
    obtain ⟨e1, e2, e3⟩ := he 0 (by omega)
    simp only [Nat.add_zero] at e1 e2 e3
    rw [pmApp, pmApp, e1, e2, e3]
    refine ih (i + 1) (i' + 1) _ _ _ _ (z_pj2 hn hf _ _ _) (z_pj2c hn hg _ _) (fun q hq => ?_)
    have h1 := he (q + 1) (by omega)
    rw [show i + 1 + q = i + (q + 1) by omega, show i' + 1 + q = i' + (q + 1) by omega]
    exact h1
/-- a change that may be asked for -/
def zE (n : Nat) (a b : Int32) (v : Int64) : Prop := pjH n b ∧ ((a < 0 ∧ -1000000000000 ≤ v.toInt ∧ v.toInt ≤ 1000000000000) ∨ (pjH n a ∧ 0 ≤ v.toInt ∧ v.toInt ≤ 1000000000000))
theorem z_l0 {x : Int64} : x < 0 ↔ x.toInt < 0 := by rw [Int64.lt_iff_toInt_lt]; rfl
theorem z_step {n : Nat} (hn : n ≤ 64) {f t : Nat → Int64} {a b : Int32} {v : Int64} {B : Int} (hE : zE n a b v) (hf : ∀ j, j < n → f j = t j) (hB : ∀ j, j < n → 0 ≤ (t j).toInt ∧ (t j).toInt ≤ B) (hBB : B ≤ 100000000000000000) :
    (pjO n f a b v ↔ ¬ pmOkb t a b v = true) ∧ (¬ pjO n f a b v → ∀ j, j < n → pj2 n f a b v j = pmT t a b v j ∧ 0 ≤ (pj2 n f a b v j).toInt ∧ (pj2 n f a b v j).toInt ≤ B + 1000000000000) := by
  obtain ⟨hb, hE⟩ := hE
  have hbl := z_lt hn hb
  have hb1 := hB _ hbl
  rcases hE with ⟨ha, v1, v2⟩ | ⟨ha, v1, v2⟩
  · have hs : (t b.toNatClampNeg + v).toInt = (t b.toNatClampNeg).toInt + v.toInt := Jvm.Kit.i64_add (by omega) (by omega)
    have hO : pjO n f a b v ↔ t b.toNatClampNeg + v < 0 := by
      rw [pjO, ← hf _ hbl]
      exact ⟨fun h => h.elim (fun q => absurd ha q.1.1) (fun q => q.2), fun h => Or.inr ⟨hb, h⟩⟩
    refine ⟨hO.trans ?_, fun h j hj => ?_⟩
    · rw [pmOkb, if_pos ha]; simp
    · rw [hO, z_l0, hs] at h
      rw [pj2_neg ha hb, pmT, if_pos ha]
      simp only [vp_updL]
      rw [hf _ hbl, hf j hj]
      refine ⟨rfl, ?_⟩
      have h2 := hB j hj
      split
      · rw [hs]; omega
      · omega
  · have hal := z_lt hn ha
    have ha1 := hB _ hal
    have hs : (t b.toNatClampNeg + v).toInt = (t b.toNatClampNeg).toInt + v.toInt := Jvm.Kit.i64_add (by omega) (by omega)
    have hd : (t a.toNatClampNeg - v).toInt = (t a.toNatClampNeg).toInt - v.toInt := Jvm.Kit.i64_sub (by omega) (by omega)
    have hO : pjO n f a b v ↔ t a.toNatClampNeg - v < 0 := by
      rw [pjO, hf _ hbl, hf _ hal]
      refine ⟨fun h => h.elim (fun q => q.2) (fun q => ?_), fun h => Or.inl ⟨ha, h⟩⟩
      have := q.2
      rw [z_l0, hs] at this
      omega
    refine ⟨hO.trans ?_, fun h j hj => ?_⟩
    · rw [pmOkb, if_neg ha.1]; simp
    · rw [hO, z_l0, hd] at h
      rw [pj2_pos ha hb, pmT, if_neg ha.1]
      simp only [vp_updL]
      rw [hf _ hal, hf _ hbl, hf j hj]
      refine ⟨rfl, ?_⟩
      have h2 := hB j hj
      split
      · split
        · rw [Jvm.Kit.i64_add (by omega) (by omega), hd]; omega
        · rw [hs]; omega
      · split
        · rw [hd]; omega
        · omega
theorem z_false {fF tF : Nat → Int32} {vM : Nat → Int64} : ∀ (k i : Nat) (t : Nat → Int64), (pmRb fF tF vM k i false t).1 = false := by
  intro k
  induction k with
  | zero => intro i t; rfl
  | succ k ih => intro i t; rw [pmRb, Bool.false_and]; exact ih _ _
theorem z_trial {n : Nat} (hn : n ≤ 64) {fr to fF tF : Nat → Int32} {va vM : Nat → Int64} : ∀ (k i i' : Nat) (B : Int) (f t : Nat → Int64) (g : Nat → Int32), (∀ j, j < n → f j = t j) → (∀ j, j < n → 0 ≤ (t j).toInt ∧ (t j).toInt ≤ B) → B + k * 1000000000000 ≤ 100000000000000000 →
    (∀ q, q < k → zE n (fF (i' + q)) (tF (i' + q)) (vM (i' + q)) ∧ fr (i + q) = fF (i' + q) ∧ to (i + q) = tF (i' + q) ∧ va (i + q) = vM (i' + q)) →
    (pjTry n fr to va k i f g).1 = (pmRb fF tF vM k i' true t).1 ∧ ((pjTry n fr to va k i f g).1 = true → ∀ j, j < n → 0 ≤ ((pjTry n fr to va k i f g).2.1 j).toInt ∧ ((pjTry n fr to va k i f g).2.1 j).toInt ≤ B + k * 1000000000000) := by
  intro k
  induction k with
  | zero =>
    intro i i' B f t g hf hB hBB he
    refine ⟨rfl, fun _ j hj => ?_⟩
    show 0 ≤ (f j).toInt ∧ (f j).toInt ≤ _
    rw [hf j hj]
    have := hB j hj
    omega
  | succ k ih =>
    intro i i' B f t g hf hB hBB he
    obtain ⟨e0, e1, e2, e3⟩ := he 0 (by omega)
    simp only [Nat.add_zero] at e0 e1 e2 e3
    obtain ⟨s1, s2⟩ := z_step hn e0 hf hB (by omega)
    rw [pjTry, pmRb, e1, e2, e3, Bool.true_and]
    by_cases z : pjO n f (fF i') (tF i') (vM i')
    · have z' := s1.mp z
      rw [if_pos z, Bool.not_eq_true] at *
      rw [z', z_false]
      exact ⟨rfl, fun h => by cases h⟩
    · have z' : pmOkb t (fF i') (tF i') (vM i') = true := by
        by_cases q : pmOkb t (fF i') (tF i') (vM i') = true
        · exact q
        · exact absurd (s1.mpr q) z
      rw [if_neg z, z']
      have s3 := s2 z
      have h3 := ih (i + 1) (i' + 1) (B + 1000000000000) (pj2 n f (fF i') (tF i') (vM i')) (pmT t (fF i') (tF i') (vM i')) (pj2c n g (fF i') (tF i')) (fun j hj => (s3 j hj).1) (fun j hj => by rw [← (s3 j hj).1]; exact (s3 j hj).2) (by omega) (fun q hq => by
        have h1 := he (q + 1) (by omega)
        rw [show i + 1 + q = i + (q + 1) by omega, show i' + 1 + q = i' + (q + 1) by omega]
        exact h1)
      refine ⟨h3.1, fun h j hj => ?_⟩
      have h4 := h3.2 h j hj
      omega
/-- the two sides' live accounts are the same, and the disk's -/
def zI (c n J u si : Nat) (fL fS va fM : Nat → Int64) (cL cS fr to fi cM : Nat → Int32) : Prop :=
  n ≤ 64 ∧ J ≤ 60 ∧ u ≤ J ∧ (∀ j, j < n → fL j = fM j ∧ cL j = cM j) ∧ ((pjRep n fr to va fi u 0 0 fS cS).1 = si ∧ ∀ j, j < n → (pjRep n fr to va fi u 0 0 fS cS).2.1 j = fL j ∧ (pjRep n fr to va fi u 0 0 fS cS).2.2 j = cL j) ∧ (∀ j, j < n → 0 ≤ (fM j).toInt ∧ (fM j).toInt ≤ c * 60000000000000)
/-- the two sides' groups are the same -/
def zG (n u gp : Nat) (va vM : Nat → Int64) (fr to fi fF tF : Nat → Int32) (gs gr : Int32) : Prop :=
  (gs = -1 ∧ gr = 0) ∨ (gr = 1 ∧ gs = nI gp ∧ gp ≤ u ∧ ∀ q, q < gp → zE n (fF q) (tF q) (vM q) ∧ fr (u - gp + q) = fF q ∧ to (u - gp + q) = tF q ∧ va (u - gp + q) = vM q ∧ fi (u - gp + q) = 0)
section ZI
variable {c n J u si gp : Nat} {fL fS va fM vM tM fT : Nat → Int64} {cL cS fr to fi cM fF tF cT : Nat → Int32} {gs gr : Int32}
theorem zI_c (h : zI c n J u si fL fS va fM cL cS fr to fi cM) : zI (c + 1) n J u si fL fS va fM cL cS fr to fi cM := by
  obtain ⟨h1, h2, h3, h4, h5, h6⟩ := h
  refine ⟨h1, h2, h3, h4, h5, fun j hj => ?_⟩
  have := h6 j hj
  omega
theorem zI_old (h : zI c n J u si fL fS va fM cL cS fr to fi cM) (x y z : Int32) (v : Int64) : (pjRep n (upd fr u x) (upd to u y) (vp_updL va u v) (upd fi u z) u 0 0 fS cS).1 = si ∧ ∀ j, j < n → (pjRep n (upd fr u x) (upd to u y) (vp_updL va u v) (upd fi u z) u 0 0 fS cS).2.1 j = fL j ∧ (pjRep n (upd fr u x) (upd to u y) (vp_updL va u v) (upd fi u z) u 0 0 fS cS).2.2 j = cL j := by
  obtain ⟨h1, h2, h3, h4, h5, h6⟩ := h
  have e := z_rep (fr := upd fr u x) (to := upd to u y) (va := vp_updL va u v) (fi := upd fi u z) (fr' := fr) (to' := to) (va' := va) (fi' := fi) h1 u 0 0 fS fS cS cS (fun _ _ => rfl) (fun _ _ => rfl) (fun q _ hq => by
    have hne : ¬ q = u := by omega
    simp only [upd, vp_updL, if_neg hne, and_self])
  refine ⟨e.1.trans h5.1, fun j hj => ⟨(e.2 j hj).1.trans (h5.2 j hj).1, (e.2 j hj).2.trans (h5.2 j hj).2⟩⟩
theorem zI_chg {x y : Int32} {v : Int64} (h : zI c n J u si fL fS va fM cL cS fr to fi cM) (hc : c ≤ 600) (hE : zE n x y v) (ho : ¬ pjO n fL x y v) (hu : u < J) : zI (c + 1) n J (u + 1) (si + 1) (pj2 n fL x y v) fS (vp_updL va u v) (pj2 n fM x y v) (pj2c n cL x y) cS (upd fr u x) (upd to u y) (upd fi u 1) (pj2c n cM x y) := by
  have e := zI_old h x y 1 v
  obtain ⟨h1, h2, h3, h4, h5, h6⟩ := h
  have s := (z_step h1 hE (fun j hj => (h4 j hj).1) h6 (by omega)).2 ho
  have a1 := z_pj2 h1 (fun j hj => (h4 j hj).1) x y v
  refine ⟨h1, h2, hu, fun j hj => ⟨a1 j hj, z_pj2c h1 (fun j hj => (h4 j hj).2) x y j hj⟩, ?_, fun j hj => ?_⟩
  · rw [z_app u 1, Nat.zero_add]
    simp only [pjRep]
    rw [if_neg (by simp only [upd, if_pos]; decide)]
    have t1 : upd fr u x u = x := by simp [upd]
    have t2 : upd to u y u = y := by simp [upd]
    have t3 : vp_updL va u v u = v := by simp [vp_updL]
    rw [t1, t2, t3]
    exact ⟨congrArg (· + 1) e.1, fun j hj => ⟨z_pj2 h1 (fun j hj => (e.2 j hj).1) x y v j hj, z_pj2c h1 (fun j hj => (e.2 j hj).2) x y j hj⟩⟩
  · rw [← a1 j hj]
    have := (s j hj).2
    omega
theorem zI_blk (h : zI c n J u si fL fS va fM cL cS fr to fi cM) (hu : u < J) (x y : Int32) (v : Int64) : zI (c + 1) n J (u + 1) si fL fS (vp_updL va u v) fM cL cS (upd fr u x) (upd to u y) (upd fi u 0) cM := by
  have e := zI_old h x y 0 v
  obtain ⟨h1, h2, h3, h4, h5, h6⟩ := zI_c h
  refine ⟨h1, h2, hu, h4, ?_, h6⟩
  rw [z_app u 1, Nat.zero_add, z_zero 1 u _ _ _ (fun q q1 q2 => by rw [show q = u by omega]; simp [upd])]
  exact e
theorem zI_snap (h : zI c n J u si fL fS va fM cL cS fr to fi cM) : zI (c + 1) n J 0 0 fL (pjC n fL fS) va fM cL (pjC n cL cS) fr to fi cM := by
  obtain ⟨h1, h2, h3, h4, h5, h6⟩ := zI_c h
  refine ⟨h1, h2, Nat.zero_le _, h4, ⟨rfl, fun j hj => ?_⟩, h6⟩
  show pjC n fL fS j = fL j ∧ pjC n cL cS j = cL j
  simp only [pjC, if_pos hj, and_self]
theorem zI_rec (h : zI c n J u si fL fS va fM cL cS fr to fi cM) : (pjRep n fr to va fi u 0 0 (pjC n fS fL) (pjC n cS cL)).1 = si ∧ zI (c + 1) n J u si (pjRep n fr to va fi u 0 0 (pjC n fS fL) (pjC n cS cL)).2.1 fS va fM (pjRep n fr to va fi u 0 0 (pjC n fS fL) (pjC n cS cL)).2.2 cS fr to fi cM := by
  obtain ⟨h1, h2, h3, h4, h5, h6⟩ := zI_c h
  have e := z_rep (fr := fr) (to := to) (va := va) (fi := fi) (fr' := fr) (to' := to) (va' := va) (fi' := fi) h1 u 0 0 (pjC n fS fL) fS (pjC n cS cL) cS (fun j hj => by simp only [pjC, if_pos hj]) (fun j hj => by simp only [pjC, if_pos hj]) (fun q _ hq => ⟨rfl, rfl, rfl, rfl⟩)
  refine ⟨e.1.trans h5.1, h1, h2, h3, fun j hj => ?_, ⟨h5.1, fun j hj => ⟨(e.2 j hj).1.symm, (e.2 j hj).2.symm⟩⟩, h6⟩
  exact ⟨((e.2 j hj).1.trans (h5.2 j hj).1).trans (h4 j hj).1, ((e.2 j hj).2.trans (h5.2 j hj).2).trans (h4 j hj).2⟩
theorem zI_end (h : zI c n J u si fL fS va fM cL cS fr to fi cM) (hc : c ≤ 600) (hg : gp ≤ u) (hE : ∀ q, q < gp → zE n (fF q) (tF q) (vM q) ∧ fr (u - gp + q) = fF q ∧ to (u - gp + q) = tF q ∧ va (u - gp + q) = vM q ∧ fi (u - gp + q) = 0) :
    (pjTry n fr to va gp (u - gp) (pjC n fL fT) (pjC n cL cT)).1 = (pmRb fF tF vM gp 0 true (pjC n fM tM)).1 ∧ ((pjTry n fr to va gp (u - gp) (pjC n fL fT) (pjC n cL cT)).1 = true → u < J →
      zI (c + 1) n J (u + 1) (si + gp) (pjC n (pjTry n fr to va gp (u - gp) (pjC n fL fT) (pjC n cL cT)).2.1 fL) fS va (pmApp n fF tF vM gp 0 fM cM).1 (pjC n (pjTry n fr to va gp (u - gp) (pjC n fL fT) (pjC n cL cT)).2.2 cL) cS fr to (upd (pjF (u - gp) u fi) u 0) (pmApp n fF tF vM gp 0 fM cM).2) := by
  obtain ⟨h1, h2, h3, h4, h5, h6⟩ := h
  have kL : ∀ j, j < n → pjC n fL fT j = fM j := fun j hj => by simp only [pjC, if_pos hj]; exact (h4 j hj).1
  have kC : ∀ j, j < n → pjC n cL cT j = cM j := fun j hj => by simp only [pjC, if_pos hj]; exact (h4 j hj).2
  have kT : ∀ j, j < n → pjC n fM tM j = fM j := fun j hj => by simp only [pjC, if_pos hj]
  have T := z_trial (fr := fr) (to := to) (va := va) (fF := fF) (tF := tF) (vM := vM) h1 gp (u - gp) 0 (c * 60000000000000) (pjC n fL fT) (pjC n fM tM) (pjC n cL cT) (fun j hj => (kL j hj).trans (kT j hj).symm) (fun j hj => by rw [kT j hj]; exact h6 j hj) (by omega) (fun q hq => by
    obtain ⟨e0, e1, e2, e3, -⟩ := hE q hq
    rw [Nat.zero_add]
    exact ⟨e0, e1, e2, e3⟩)
  refine ⟨T.1, fun ht hu => ?_⟩
  have Tr := z_try gp (u - gp) (pjC n fL fT) (pjC n cL cT) ht
  have B := T.2 ht
  rw [show (pjTry n fr to va gp (u - gp) (pjC n fL fT) (pjC n cL cT)).2.1 = (pmApp n fr to va gp (u - gp) (pjC n fL fT) (pjC n cL cT)).1 from congrArg Prod.fst Tr] at B ⊢
  rw [show (pjTry n fr to va gp (u - gp) (pjC n fL fT) (pjC n cL cT)).2.2 = (pmApp n fr to va gp (u - gp) (pjC n fL fT) (pjC n cL cT)).2 from congrArg Prod.snd Tr]
  have E := z_papp (fr := fr) (to := to) (va := va) (fr' := fF) (to' := tF) (va' := vM) h1 gp (u - gp) 0 (pjC n fL fT) fM (pjC n cL cT) cM kL kC (fun q hq => by
    obtain ⟨-, e1, e2, e3, -⟩ := hE q hq
    rw [Nat.zero_add]
    exact ⟨e1, e2, e3⟩)
  -- the disk: what was firm, then the group
  have R0 : pjRep n fr to va fi u 0 0 fS cS = pjRep n fr to va fi (u - gp) 0 0 fS cS := by
    have a := z_app (n := n) (fr := fr) (to := to) (fi := fi) (va := va) (u - gp) gp 0 0 fS cS
    rw [show u - gp + gp = u by omega, z_zero gp (0 + (u - gp)) _ _ _ (fun q q1 q2 => by
      have := (hE (q - (u - gp)) (by omega)).2.2.2.2
      rwa [show u - gp + (q - (u - gp)) = q by omega] at this)] at a
    exact a
  have R1 := z_rep (fr := fr) (to := to) (va := va) (fi := upd (pjF (u - gp) u fi) u 0) (fr' := fr) (to' := to) (va' := va) (fi' := fi) h1 (u - gp) 0 0 fS fS cS cS (fun _ _ => rfl) (fun _ _ => rfl) (fun q _ hq => by
    have hne : ¬ q = u := by omega
    have hn2 : ¬ (u - gp ≤ q ∧ q < u) := by omega
    simp only [upd, pjF, if_neg hne, if_neg hn2, and_self])
  rw [R0] at h5
  have R2 : pjRep n fr to va (upd (pjF (u - gp) u fi) u 0) (u + 1) 0 0 fS cS = ((pjRep n fr to va (upd (pjF (u - gp) u fi) u 0) (u - gp) 0 0 fS cS).1 + gp, pmApp n fr to va gp (u - gp) (pjRep n fr to va (upd (pjF (u - gp) u fi) u 0) (u - gp) 0 0 fS cS).2.1 (pjRep n fr to va (upd (pjF (u - gp) u fi) u 0) (u - gp) 0 0 fS cS).2.2) := by
    have a := z_app (n := n) (fr := fr) (to := to) (fi := upd (pjF (u - gp) u fi) u 0) (va := va) (u - gp) (gp + 1) 0 0 fS cS
    rw [show u - gp + (gp + 1) = u + 1 by omega, z_app gp 1, z_zero 1 _ _ _ _ (fun q q1 q2 => by rw [show q = u by omega]; simp [upd]), z_one gp _ _ _ _ (fun q q1 q2 => by
      have hne : ¬ q = u := by omega
      have hn2 : u - gp ≤ q ∧ q < u := by omega
      simp only [upd, pjF, if_neg hne, if_pos hn2]), Nat.zero_add] at a
    exact a
  have P := z_papp (fr := fr) (to := to) (va := va) (fr' := fF) (to' := tF) (va' := vM) h1 gp (u - gp) 0 (pjRep n fr to va (upd (pjF (u - gp) u fi) u 0) (u - gp) 0 0 fS cS).2.1 fM (pjRep n fr to va (upd (pjF (u - gp) u fi) u 0) (u - gp) 0 0 fS cS).2.2 cM
    (fun j hj => ((R1.2 j hj).1.trans (h5.2 j hj).1).trans (h4 j hj).1) (fun j hj => ((R1.2 j hj).2.trans (h5.2 j hj).2).trans (h4 j hj).2) (fun q hq => by
    obtain ⟨-, e1, e2, e3, -⟩ := hE q hq
    rw [Nat.zero_add]
    exact ⟨e1, e2, e3⟩)
  refine ⟨h1, h2, hu, fun j hj => ?_, ?_, fun j hj => ?_⟩
  · simp only [pjC, if_pos hj]
    exact E j hj
  · rw [R2]
    refine ⟨by rw [R1.1, h5.1], fun j hj => ?_⟩
    simp only [pjC, if_pos hj]
    exact ⟨(P j hj).1.trans (E j hj).1.symm, (P j hj).2.trans (E j hj).2.symm⟩
  · rw [← (E j hj).1]
    have := B j hj
    omega
theorem zG_begin : zG n u 0 va vM fr to fi fF tF 0 1 := Or.inr ⟨rfl, rfl, Nat.zero_le _, fun q hq => absurd hq (Nat.not_lt_zero _)⟩
theorem zG_no : zG n u gp va vM fr to fi fF tF (-1) 0 := Or.inl ⟨rfl, rfl⟩
theorem zG_blk {x y : Int32} {v : Int64} (hg : gp ≤ u) (h : ∀ q, q < gp → zE n (fF q) (tF q) (vM q) ∧ fr (u - gp + q) = fF q ∧ to (u - gp + q) = tF q ∧ va (u - gp + q) = vM q ∧ fi (u - gp + q) = 0) (hE : zE n x y v) :
    zG n (u + 1) (gp + 1) (vp_updL va u v) (vp_updL vM gp v) (upd fr u x) (upd to u y) (upd fi u 0) (upd fF gp x) (upd tF gp y) (nI gp + 1) 1 := by
  refine Or.inr ⟨rfl, (nI_succ gp).symm, by omega, fun q hq => ?_⟩
  rw [show u + 1 - (gp + 1) + q = u - gp + q by omega]
  by_cases e : q = gp
  · subst e
    rw [show u - q + q = u by omega]
    simp only [upd, vp_updL, if_pos]
    exact ⟨hE, trivial, trivial, trivial, trivial⟩
  · have hne : ¬ u - gp + q = u := by omega
    simp only [upd, vp_updL, if_neg e, if_neg hne]
    exact h q (by omega)
end ZI
