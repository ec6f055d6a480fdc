def zR (cI cJ cZ : ClassId) (o0 oL pL qL oS pS qS oT pT qT oj pf pt pv pz od n J u : Nat) (fL fS fT va : Nat → Int64) (cL cS cT fr to fi : Nat → Int32) (wr lf gs sm : Int32) : va_W := [(o0, .inr (3, [.ref oL, .ref oS, .ref oT, .ref oj, .ref od, .int gs, .int sm])), (oL, .inr (0, [.ref pL, .ref qL])), (pL, .inl (cJ, n, .inr (.inl fL))), (qL, .inl (cI, n, .inl cL)), (oS, .inr (0, [.ref pS, .ref qS])), (pS, .inl (cJ, n, .inr (.inl fS))), (qS, .inl (cI, n, .inl cS)), (oT, .inr (0, [.ref pT, .ref qT])), (pT, .inl (cJ, n, .inr (.inl fT))), (qT, .inl (cI, n, .inl cT)), (oj, .inr (2, [.ref pf, .ref pt, .ref pv, .ref pz, .int (nI u)])), (pf, .inl (cI, J, .inl fr)), (pt, .inl (cI, J, .inl to)), (pv, .inl (cJ, J, .inr (.inl va))), (pz, .inl (cZ, J, .inl fi)), (od, .inr (1, [.int wr, .int lf]))]
def zM (cI cJ : ClassId) (oM mA mC mT mF mO mV n J us gp si : Nat) (fM tM vM : Nat → Int64) (cM fF tF : Nat → Int32) (kd wr sn lf gr : Int32) : va_W := [(oM, .inr (4, [.int kd, .int (nI n), .int (nI J), .ref mA, .ref mC, .ref mT, .int (nI us), .int wr, .int sn, .int (nI si), .int gr, .int (nI gp), .ref mF, .ref mO, .ref mV, .int lf, .int (pjd lf)])), (mA, .inl (cJ, 64, .inr (.inl fM))), (mC, .inl (cI, 64, .inl cM)), (mT, .inl (cJ, 64, .inr (.inl tM))), (mF, .inl (cI, 60, .inl fF)), (mO, .inl (cI, 60, .inl tF)), (mV, .inl (cJ, 60, .inr (.inl vM)))]
/-- the class's cells and the reference's after c calls -/
def zV (cI cJ cZ : ClassId) (o0 oM c : Nat) (wx wm : va_W) : Prop := ∃ (oL pL qL oS pS qS oT pT qT oj pf pt pv pz od n J u : Nat) (fL fS fT va : Nat → Int64) (cL cS cT fr to fi : Nat → Int32) (wr lf gs sm : Int32) (mA mC mT mF mO mV gp si : Nat) (fM tM vM : Nat → Int64) (cM fF tF : Nat → Int32) (kd gr : Int32), wx = (zR cI cJ cZ o0 oL pL qL oS pS qS oT pT qT oj pf pt pv pz od n J u fL fS fT va cL cS cT fr to fi wr lf gs sm) ∧ wm = (zM cI cJ oM mA mC mT mF mO mV n J u gp si fM tM vM cM fF tF kd wr sm lf gr) ∧ zI c n J u si fL fS va fM cL cS fr to fi cM ∧ (lf = 0 ∨ zG n u gp va vM fr to fi fF tF gs gr)
theorem zV_of {cI cJ cZ : ClassId} {o0 oM c : Nat} {oL pL qL oS pS qS oT pT qT oj pf pt pv pz od n J u : Nat} {fL fS fT va : Nat → Int64} {cL cS cT fr to fi : Nat → Int32} {wr lf gs sm : Int32} {mA mC mT mF mO mV gp si : Nat} {fM tM vM : Nat → Int64} {cM fF tF : Nat → Int32} {kd gr : Int32} (h : zI c n J u si fL fS va fM cL cS fr to fi cM) (g : (lf = 0 ∨ zG n u gp va vM fr to fi fF tF gs gr)) : zV cI cJ cZ o0 oM c (zR cI cJ cZ o0 oL pL qL oS pS qS oT pT qT oj pf pt pv pz od n J u fL fS fT va cL cS cT fr to fi wr lf gs sm) (zM cI cJ oM mA mC mT mF mO mV n J u gp si fM tM vM cM fF tF kd wr sm lf gr) := ⟨oL, pL, qL, oS, pS, qS, oT, pT, qT, oj, pf, pt, pv, pz, od, n, J, u, fL, fS, fT, va, cL, cS, cT, fr, to, fi, wr, lf, gs, sm, mA, mC, mT, mF, mO, mV, gp, si, fM, tM, vM, cM, fF, tF, kd, gr, rfl, rfl, h, g⟩
theorem zV_x {cI cJ cZ : ClassId} {o0 oM c : Nat} {wx wm : va_W} (h : zV cI cJ cZ o0 oM c wx wm) : ∃ fs ms, wx[0]? = some (o0, .inr (3, fs)) ∧ wm[0]? = some (oM, .inr (4, ms)) := by
  obtain ⟨oL, pL, qL, oS, pS, qS, oT, pT, qT, oj, pf, pt, pv, pz, od, n, J, u, fL, fS, fT, va, cL, cS, cT, fr, to, fi, wr, lf, gs, sm, mA, mC, mT, mF, mO, mV, gp, si, fM, tM, vM, cM, fF, tF, kd, gr, rfl, rfl, hz, hg⟩ := h
  exact ⟨_, _, rfl, rfl⟩
/-- a call of both sides: the answers are the same -/
def zO (l : Launch) (D : va_G) (cI cJ cZ : ClassId) (qo o0 oM c : Nat) (fo : Nat → Int64) (wx wm : va_W) (yL : MethodName) (wsL : List Cond) (rL : Room) (avL : List Value) (yM : MethodName) (wsM : List Cond) (rM : Room) (avM : List Value) : Prop := ∃ (k : Int32) (b : Int32) (fo' : Nat → Int64) (wx' wm' : va_W), pj_Met l yL wsL rL D vwCl (pjT cI cJ cZ) pw_G avL ((qo, .inl (cJ, 1, .inr (.inl fo))) :: wx) (some (.int k)) ((qo, .inl (cJ, 1, .inr (.inl fo'))) :: wx') 1 6 ∧ pj_Met l yM wsM rM D vwCl (pjT cI cJ cZ) pj_no avM wm (some (.int b)) wm' 0 0 ∧ pp_Met l yM_thrown wsM_thrown ({ frames := 0, cells := 0, slots := 0, locals := 0 }) D vwCl (pjT cI cJ cZ) pj_no [.ref oM] wm' (some (.int k)) ∧ (k = 0 → fo' 0 = b.toInt64) ∧ zV cI cJ cZ o0 oM (c + 1) wx' wm'
/-- a call of both sides: the answers are the same -/
def zOl (l : Launch) (D : va_G) (cI cJ cZ : ClassId) (qo o0 oM c : Nat) (fo : Nat → Int64) (wx wm : va_W) (yL : MethodName) (wsL : List Cond) (rL : Room) (avL : List Value) (yM : MethodName) (wsM : List Cond) (rM : Room) (avM : List Value) : Prop := ∃ (k : Int32) (b : Int64) (fo' : Nat → Int64) (wx' wm' : va_W), pj_Met l yL wsL rL D vwCl (pjT cI cJ cZ) pw_G avL ((qo, .inl (cJ, 1, .inr (.inl fo))) :: wx) (some (.int k)) ((qo, .inl (cJ, 1, .inr (.inl fo'))) :: wx') 1 6 ∧ pj_Met l yM wsM rM D vwCl (pjT cI cJ cZ) pj_no avM wm (some (.long b)) wm' 0 0 ∧ pp_Met l yM_thrown wsM_thrown ({ frames := 0, cells := 0, slots := 0, locals := 0 }) D vwCl (pjT cI cJ cZ) pj_no [.ref oM] wm' (some (.int k)) ∧ (k = 0 → fo' 0 = b) ∧ zV cI cJ cZ o0 oM (c + 1) wx' wm'
def zOv (l : Launch) (D : va_G) (cI cJ cZ : ClassId) (qo o0 oM c : Nat) (fo : Nat → Int64) (wx wm : va_W) (yL : MethodName) (wsL : List Cond) (rL : Room) (avL : List Value) (yM : MethodName) (wsM : List Cond) (rM : Room) (avM : List Value) : Prop := ∃ (k : Int32) (wx' wm' : va_W), pj_Met l yL wsL rL D vwCl (pjT cI cJ cZ) pw_G avL wx (some (.int k)) wx' 1 6 ∧ pj_Met l yM wsM rM D vwCl (pjT cI cJ cZ) pj_no avM wm none wm' 0 0 ∧ pp_Met l yM_thrown wsM_thrown ({ frames := 0, cells := 0, slots := 0, locals := 0 }) D vwCl (pjT cI cJ cZ) pj_no [.ref oM] wm' (some (.int k)) ∧ zV cI cJ cZ o0 oM (c + 1) wx' wm'
theorem z_b1 {v : Int64} (h : ¬ v < (-1000000000000) ∧ ¬ (1000000000000 : Int64) < v) : -1000000000000 ≤ v.toInt ∧ v.toInt ≤ 1000000000000 := by
  have a : (-1000000000000 : Int64).toInt = -1000000000000 := by decide
  have b : (1000000000000 : Int64).toInt = 1000000000000 := by decide
  rw [Int64.lt_iff_toInt_lt, Int64.lt_iff_toInt_lt, a, b] at h
  omega
theorem z_b0 {v : Int64} (h : ¬ v < 0 ∧ ¬ (1000000000000 : Int64) < v) : 0 ≤ v.toInt ∧ v.toInt ≤ 1000000000000 := by
  have b : (1000000000000 : Int64).toInt = 1000000000000 := by decide
  rw [z_l0, Int64.lt_iff_toInt_lt, b] at h
  omega
theorem z_lt64 {x y : Int32} : x.toInt64 < y.toInt64 ↔ x < y := by rw [Int64.lt_iff_toInt_lt, Int32.lt_iff_toInt_lt, Int32.toInt_toInt64, Int32.toInt_toInt64]
theorem z_pmO {f : Nat → Int64} {a b : Int32} {v : Int64} : pmO f a b v ↔ ¬ pmOkb f a b v = true := by
  rw [pmO, pmOkb]
  by_cases h : a < 0
  · rw [if_pos h]; simp [h]
  · rw [if_neg h]; simp [h]
theorem z_03 {x : Int32} (h1 : ¬ x < 0) (h2 : ¬ 3 < x) : x = 0 ∨ x = 1 ∨ x = 2 ∨ x = 3 := by
  have e : ∀ k : Int32, x = k ↔ x.toInt = k.toInt := fun k => ⟨fun h => by rw [h], fun h => Int32.toInt_inj.mp h⟩
  rw [e, e, e, e]
  have i1 : (1 : Int32).toInt = 1 := by decide
  have i2 : (2 : Int32).toInt = 2 := by decide
  have i3 : (3 : Int32).toInt = 3 := by decide
  rw [Int32.lt_iff_toInt_lt, Int32.toInt_zero] at h1
  rw [Int32.lt_iff_toInt_lt, i3] at h2
  rw [Int32.toInt_zero, i1, i2, i3]
  omega
