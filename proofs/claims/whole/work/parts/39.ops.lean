set_option maxHeartbeats 4000000 in
set_option maxRecDepth 100000 in
theorem o_chg (l : Launch) (D : va_G) (cI cJ cZ : ClassId) (o0 oM c : Nat) (oL pL qL oS pS qS oT pT qT oj pf pt pv pz od n J u : Nat) (fL fS fT va : Nat → Int64) (cL cS cT fr to fi : Nat → Int32) (wr lf gs sm : Int32) (mA mC mT mF mO mV gp si : Nat) (fM tM vM : Nat → Int64) (cM fF tF : Nat → Int32) (kd gr : Int32) (hz : zI c n J u si fL fS va fM cL cS fr to fi cM) (hg : (lf = 0 ∨ zG n u gp va vM fr to fi fF tF gs gr)) (hc : c ≤ 600) (x y : Int32) (v : Int64) (hE : zE n x y v) (h3 : ¬ lf = 0) : ∃ (r : Int32) (wx' wm' : va_W), pj_Met l yR_change wsR_change ({ frames := 4, cells := 0, slots := 0, locals := 92 }) D vwCl (pjT cI cJ cZ) pj_no [.ref o0, .int x, .int y, .long v] (zR cI cJ cZ o0 oL pL qL oS pS qS oT pT qT oj pf pt pv pz od n J u fL fS fT va cL cS cT fr to fi wr lf gs sm) (some (.int r)) wx' 0 0 ∧ pj_Met l yM_take wsM_take ({ frames := 1, cells := 0, slots := 0, locals := 24 }) D vwCl (pjT cI cJ cZ) pj_no [.ref oM, .int x, .int y, .long v] (zM cI cJ oM mA mC mT mF mO mV n J u gp si fM tM vM cM fF tF 0 wr sm lf gr) (some (.int r)) wm' 0 0 ∧ pp_Met l yM_thrown wsM_thrown ({ frames := 0, cells := 0, slots := 0, locals := 0 }) D vwCl (pjT cI cJ cZ) pj_no [.ref oM] wm' (some (.int 0))  ∧ zV cI cJ cZ o0 oM (c + 1) wx' wm' := by
  have hn := hz.1
  have hJ := hz.2.1
  have hu := hz.2.2.1
  have hn1 : n < 2 ^ 31 := by omega
  have hJ1 : J < 2 ^ 31 := by omega
  have ha : x < 0 ∨ pjH n x := hE.2.imp (fun h => h.1) (fun h => h.1)
  rcases hg.resolve_left h3 with ⟨rfl, rfl⟩ | ⟨rfl, rfl, g1, g2⟩
  · have hO : pjO n fL x y v ↔ pmO fM x y v := (z_step hn hE (fun j hj => (hz.2.2.2.1 j hj).1) hz.2.2.2.2.2 (by omega)).1.trans z_pmO.symm
    by_cases ho : pjO n fL x y v
    · exact ⟨_, _, _, (c_ch_now l D cI cJ cZ o0 oL pL qL oS pS qS oT pT qT oj pf pt pv pz od n J u fL fS fT va cL cS cT fr to fi wr lf (-1) sm hn1 hJ1 hu x y v rfl _ _ (c_cn_poor l D cI cJ cZ o0 oL pL qL oS pS qS oT pT qT oj pf pt pv pz od n J u fL fS fT va cL cS cT fr to fi wr lf (-1) sm hn1 hJ1 hu x y v ho)), (m_take_poor l D cI cJ cZ oM mA mC mT mF mO mV n J u gp si fM tM vM cM fF tF 0 wr sm lf 0 hn hJ hu x y v ha hE.1 (hO.mp ho)), (m_thrown l D cI cJ cZ oM mA mC mT mF mO mV n J u gp si fM tM vM cM fF tF 0 wr sm lf 0 hn hJ hu ), zV_of (zI_c hz) (Or.inr zG_no)⟩
    · have hm : ¬ pmO fM x y v := fun q => ho (hO.mpr q)
      by_cases hf : u < J
      · exact ⟨_, _, _, (c_ch_now l D cI cJ cZ o0 oL pL qL oS pS qS oT pT qT oj pf pt pv pz od n J u fL fS fT va cL cS cT fr to fi wr lf (-1) sm hn1 hJ1 hu x y v rfl _ _ (c_cn_ok l D cI cJ cZ o0 oL pL qL oS pS qS oT pT qT oj pf pt pv pz od n J u fL fS fT va cL cS cT fr to fi wr lf (-1) sm hn1 hJ1 hu x y v ho hf)), (m_take_ok l D cI cJ cZ oM mA mC mT mF mO mV n J u gp si fM tM vM cM fF tF 0 wr sm lf 0 hn hJ hu x y v ha hE.1 hm (by omega)), (m_thrown l D cI cJ cZ oM mA mC mT mF mO mV n J (u + 1) gp (si + 1) (pj2 n fM x y v) tM vM (pj2c n cM x y) fF tF 0 (wr + 1) sm (pjL lf) 0 hn hJ (show u + 1 ≤ J from hf) ), zV_of (zI_chg hz hc hE ho hf) (Or.inr zG_no)⟩
      · exact ⟨_, _, _, (c_ch_now l D cI cJ cZ o0 oL pL qL oS pS qS oT pT qT oj pf pt pv pz od n J u fL fS fT va cL cS cT fr to fi wr lf (-1) sm hn1 hJ1 hu x y v rfl _ _ (c_cn_full l D cI cJ cZ o0 oL pL qL oS pS qS oT pT qT oj pf pt pv pz od n J u fL fS fT va cL cS cT fr to fi wr lf (-1) sm hn1 hJ1 hu x y v ho (by omega))), (m_take_full l D cI cJ cZ oM mA mC mT mF mO mV n J u gp si fM tM vM cM fF tF 0 wr sm lf 0 hn hJ hu x y v ha hE.1 hm (by omega)), (m_thrown l D cI cJ cZ oM mA mC mT mF mO mV n J u gp si fM tM vM cM fF tF 0 wr sm lf 0 hn hJ hu ), zV_of (zI_c hz) (Or.inr zG_no)⟩
  · have hgn : ¬ nI gp = -1 := pj_ne1 (by omega)
    by_cases hf : u < J
    · by_cases hl : pjL lf = 0
      · refine ⟨_, _, _, (c_ch_grp l D cI cJ cZ o0 oL pL qL oS pS qS oT pT qT oj pf pt pv pz od n J u fL fS fT va cL cS cT fr to fi wr lf (nI gp) sm hn1 hJ1 hu x y v hgn _ _ (c_cg_ok l D cI cJ cZ o0 oL pL qL oS pS qS oT pT qT oj pf pt pv pz od n J u fL fS fT va cL cS cT fr to fi wr lf (nI gp) sm hn1 hJ1 hu x y v hf)), ?_, (m_thrown l D cI cJ cZ oM mA mC mT mF mO mV n J (u + 1) gp si fM tM vM cM fF tF 0 (wr + 1) sm (pjL lf) 1 hn hJ (show u + 1 ≤ J from hf) ), zV_of (zI_blk hz hf x y v) (Or.inl hl)⟩
        rw [if_pos hl]; exact (m_gtake_cut l D cI cJ cZ oM mA mC mT mF mO mV n J u gp si fM tM vM cM fF tF 0 wr sm lf 1 hn hJ hu x y v ha hE.1 (by omega) hl)
      · refine ⟨_, _, _, (c_ch_grp l D cI cJ cZ o0 oL pL qL oS pS qS oT pT qT oj pf pt pv pz od n J u fL fS fT va cL cS cT fr to fi wr lf (nI gp) sm hn1 hJ1 hu x y v hgn _ _ (c_cg_ok l D cI cJ cZ o0 oL pL qL oS pS qS oT pT qT oj pf pt pv pz od n J u fL fS fT va cL cS cT fr to fi wr lf (nI gp) sm hn1 hJ1 hu x y v hf)), ?_, (m_thrown l D cI cJ cZ oM mA mC mT mF mO mV n J (u + 1) (gp + 1) si fM tM (vp_updL vM gp v) cM (upd fF gp x) (upd tF gp y) 0 (wr + 1) sm (pjL lf) 1 hn hJ (show u + 1 ≤ J from hf) ), zV_of (zI_blk hz hf x y v) (Or.inr (zG_blk g1 g2 hE))⟩
        rw [if_neg hl]; exact (m_gtake_ok l D cI cJ cZ oM mA mC mT mF mO mV n J u gp si fM tM vM cM fF tF 0 wr sm lf 1 hn hJ hu x y v ha hE.1 (by omega) hl (by omega))
    · exact ⟨_, _, _, (c_ch_grp l D cI cJ cZ o0 oL pL qL oS pS qS oT pT qT oj pf pt pv pz od n J u fL fS fT va cL cS cT fr to fi wr lf (nI gp) sm hn1 hJ1 hu x y v hgn _ _ (c_cg_full l D cI cJ cZ o0 oL pL qL oS pS qS oT pT qT oj pf pt pv pz od n J u fL fS fT va cL cS cT fr to fi wr lf (nI gp) sm hn1 hJ1 hu x y v (by omega))), (m_gtake_full l D cI cJ cZ oM mA mC mT mF mO mV n J u gp si fM tM vM cM fF tF 0 wr sm lf 1 hn hJ hu x y v ha hE.1 (by omega)), (m_thrown l D cI cJ cZ oM mA mC mT mF mO mV n J u gp si fM tM vM cM fF tF 0 wr sm lf 1 hn hJ hu ), zV_of (zI_c hz) (Or.inr (Or.inr ⟨rfl, rfl, g1, g2⟩))⟩
set_option maxHeartbeats 4000000 in
set_option maxRecDepth 100000 in
theorem o_add (l : Launch) (D : va_G) (cI cJ cZ : ClassId) (htr : l.stackTraces = false) (qo o0 oM c : Nat) (fo : Nat → Int64) (wx wm : va_W) (hI : zV cI cJ cZ o0 oM c wx wm) (hc : c ≤ 600) (y : Int32) (v : Int64) : zO l D cI cJ cZ qo o0 oM c fo wx wm yL_add wsL_add ({ frames := 8, cells := 1, slots := 6, locals := 139 }) [.ref o0, .int y, .long v, .ref qo] yM_add wsM_add ({ frames := 2, cells := 0, slots := 0, locals := 48 }) [.ref oM, .int y, .long v] := by
  obtain ⟨oL, pL, qL, oS, pS, qS, oT, pT, qT, oj, pf, pt, pv, pz, od, n, J, u, fL, fS, fT, va, cL, cS, cT, fr, to, fi, wr, lf, gs, sm, mA, mC, mT, mF, mO, mV, gp, si, fM, tM, vM, cM, fF, tF, kd, gr, rfl, rfl, hz, hg⟩ := hI
  have hn := hz.1
  have hJ := hz.2.1
  have hu := hz.2.2.1
  have hn1 : n < 2 ^ 31 := by omega
  have hJ1 : J < 2 ^ 31 := by omega
  by_cases h : ¬ pjH n y ∨ (v < (-1000000000000) ∨ (1000000000000 : Int64) < v)
  · exact ⟨1, 0, fo, _, _, (w_add_A l D cI cJ cZ qo o0 fo _ (zR cI cJ cZ o0 oL pL qL oS pS qS oT pT qT oj pf pt pv pz od n J u fL fS fT va cL cS cT fr to fi wr lf gs sm) rfl y v  (t_add_A l D cI cJ cZ o0 oL pL qL oS pS qS oT pT qT oj pf pt pv pz od n J u fL fS fT va cL cS cT fr to fi wr lf gs sm hn1 hJ1 hu y v h htr)), (m_add_1 l D cI cJ cZ oM mA mC mT mF mO mV n J u gp si fM tM vM cM fF tF kd wr sm lf gr hn hJ hu y v h), (m_thrown l D cI cJ cZ oM mA mC mT mF mO mV n J u gp si fM tM vM cM fF tF 1 wr sm lf gr hn hJ hu ), fun h => absurd h (by decide), zV_of (zI_c hz) hg⟩
  · have h1 : pjH n y := Classical.byContradiction fun q => h (Or.inl q)
    have h2 := not_or.mp (fun q => h (Or.inr q))
    by_cases h3 : lf = 0
    · exact ⟨2, 0, fo, _, _, (w_add_S l D cI cJ cZ qo o0 fo _ (zR cI cJ cZ o0 oL pL qL oS pS qS oT pT qT oj pf pt pv pz od n J u fL fS fT va cL cS cT fr to fi wr lf gs sm) rfl y v  (t_add_S l D cI cJ cZ o0 oL pL qL oS pS qS oT pT qT oj pf pt pv pz od n J u fL fS fT va cL cS cT fr to fi wr lf gs sm hn1 hJ1 hu y v h1 h2 h3 htr)), (m_add_2 l D cI cJ cZ oM mA mC mT mF mO mV n J u gp si fM tM vM cM fF tF kd wr sm lf gr hn hJ hu y v h1 h2 h3), (m_thrown l D cI cJ cZ oM mA mC mT mF mO mV n J u gp si fM tM vM cM fF tF 2 wr sm lf gr hn hJ hu ), fun h => absurd h (by decide), zV_of (zI_c hz) hg⟩
    · obtain ⟨r, wx2, wm2, a1, a2, a3, a4⟩ := o_chg l D cI cJ cZ o0 oM c oL pL qL oS pS qS oT pT qT oj pf pt pv pz od n J u fL fS fT va cL cS cT fr to fi wr lf gs sm mA mC mT mF mO mV gp si fM tM vM cM fF tF kd gr hz hg hc (-1) y v ⟨h1, Or.inl ⟨by decide, z_b1 h2⟩⟩ h3
      exact ⟨0, r, vp_updL fo 0 r.toInt64, wx2, wm2, (w_add_0 l D cI cJ cZ qo o0 fo _ (zR cI cJ cZ o0 oL pL qL oS pS qS oT pT qT oj pf pt pv pz od n J u fL fS fT va cL cS cT fr to fi wr lf gs sm) rfl y v _ _ (c_add l D cI cJ cZ o0 oL pL qL oS pS qS oT pT qT oj pf pt pv pz od n J u fL fS fT va cL cS cT fr to fi wr lf gs sm hn1 hJ1 hu y v h1 h2 h3 _ _ a1)), (m_add_0 l D cI cJ cZ oM mA mC mT mF mO mV n J u gp si fM tM vM cM fF tF kd wr sm lf gr hn hJ hu y v h1 h2 h3 _ _ a2), a3, fun _ => by simp [vp_updL], a4⟩
set_option maxHeartbeats 4000000 in
set_option maxRecDepth 100000 in
theorem o_move (l : Launch) (D : va_G) (cI cJ cZ : ClassId) (htr : l.stackTraces = false) (qo o0 oM c : Nat) (fo : Nat → Int64) (wx wm : va_W) (hI : zV cI cJ cZ o0 oM c wx wm) (hc : c ≤ 600) (x : Int32) (y : Int32) (v : Int64) : zO l D cI cJ cZ qo o0 oM c fo wx wm yL_move wsL_move ({ frames := 8, cells := 1, slots := 6, locals := 140 }) [.ref o0, .int x, .int y, .long v, .ref qo] yM_move wsM_move ({ frames := 2, cells := 0, slots := 0, locals := 48 }) [.ref oM, .int x, .int y, .long v] := by
  obtain ⟨oL, pL, qL, oS, pS, qS, oT, pT, qT, oj, pf, pt, pv, pz, od, n, J, u, fL, fS, fT, va, cL, cS, cT, fr, to, fi, wr, lf, gs, sm, mA, mC, mT, mF, mO, mV, gp, si, fM, tM, vM, cM, fF, tF, kd, gr, rfl, rfl, hz, hg⟩ := hI
  have hn := hz.1
  have hJ := hz.2.1
  have hu := hz.2.2.1
  have hn1 : n < 2 ^ 31 := by omega
  have hJ1 : J < 2 ^ 31 := by omega
  by_cases h : ¬ pjH n x ∨ ¬ pjH n y ∨ (v < 0 ∨ (1000000000000 : Int64) < v) ∨ x = y
  · exact ⟨1, 0, fo, _, _, (w_move_A l D cI cJ cZ qo o0 fo _ (zR cI cJ cZ o0 oL pL qL oS pS qS oT pT qT oj pf pt pv pz od n J u fL fS fT va cL cS cT fr to fi wr lf gs sm) rfl x y v  (t_move_A l D cI cJ cZ o0 oL pL qL oS pS qS oT pT qT oj pf pt pv pz od n J u fL fS fT va cL cS cT fr to fi wr lf gs sm hn1 hJ1 hu x y v h htr)), (m_move_1 l D cI cJ cZ oM mA mC mT mF mO mV n J u gp si fM tM vM cM fF tF kd wr sm lf gr hn hJ hu x y v h), (m_thrown l D cI cJ cZ oM mA mC mT mF mO mV n J u gp si fM tM vM cM fF tF 1 wr sm lf gr hn hJ hu ), fun h => absurd h (by decide), zV_of (zI_c hz) hg⟩
  · have h1 : pjH n x := Classical.byContradiction fun q => h (Or.inl q)
    have h1b : pjH n y := Classical.byContradiction fun q => h (Or.inr (Or.inl q))
    have h2 := not_or.mp (fun q => h (Or.inr (Or.inr (Or.inl q))))
    have hxy : ¬ x = y := fun q => h (Or.inr (Or.inr (Or.inr q)))
    by_cases h3 : lf = 0
    · exact ⟨2, 0, fo, _, _, (w_move_S l D cI cJ cZ qo o0 fo _ (zR cI cJ cZ o0 oL pL qL oS pS qS oT pT qT oj pf pt pv pz od n J u fL fS fT va cL cS cT fr to fi wr lf gs sm) rfl x y v  (t_move_S l D cI cJ cZ o0 oL pL qL oS pS qS oT pT qT oj pf pt pv pz od n J u fL fS fT va cL cS cT fr to fi wr lf gs sm hn1 hJ1 hu x y v h1 h1b h2 hxy h3 htr)), (m_move_2 l D cI cJ cZ oM mA mC mT mF mO mV n J u gp si fM tM vM cM fF tF kd wr sm lf gr hn hJ hu x y v h1 h1b h2 hxy h3), (m_thrown l D cI cJ cZ oM mA mC mT mF mO mV n J u gp si fM tM vM cM fF tF 2 wr sm lf gr hn hJ hu ), fun h => absurd h (by decide), zV_of (zI_c hz) hg⟩
    · obtain ⟨r, wx2, wm2, a1, a2, a3, a4⟩ := o_chg l D cI cJ cZ o0 oM c oL pL qL oS pS qS oT pT qT oj pf pt pv pz od n J u fL fS fT va cL cS cT fr to fi wr lf gs sm mA mC mT mF mO mV gp si fM tM vM cM fF tF kd gr hz hg hc x y v ⟨h1b, Or.inr ⟨h1, z_b0 h2⟩⟩ h3
      exact ⟨0, r, vp_updL fo 0 r.toInt64, wx2, wm2, (w_move_0 l D cI cJ cZ qo o0 fo _ (zR cI cJ cZ o0 oL pL qL oS pS qS oT pT qT oj pf pt pv pz od n J u fL fS fT va cL cS cT fr to fi wr lf gs sm) rfl x y v _ _ (c_move l D cI cJ cZ o0 oL pL qL oS pS qS oT pT qT oj pf pt pv pz od n J u fL fS fT va cL cS cT fr to fi wr lf gs sm hn1 hJ1 hu x y v h1 h1b h2 hxy h3 _ _ a1)), (m_move_0 l D cI cJ cZ oM mA mC mT mF mO mV n J u gp si fM tM vM cM fF tF kd wr sm lf gr hn hJ hu x y v h1 h1b h2 hxy h3 _ _ a2), a3, fun _ => by simp [vp_updL], a4⟩
set_option maxHeartbeats 4000000 in
set_option maxRecDepth 100000 in
theorem o_begin (l : Launch) (D : va_G) (cI cJ cZ : ClassId) (htr : l.stackTraces = false) (qo o0 oM c : Nat) (fo : Nat → Int64) (wx wm : va_W) (hI : zV cI cJ cZ o0 oM c wx wm) (hc : c ≤ 600)  : zOv l D cI cJ cZ qo o0 oM c fo wx wm yL_begin wsL_begin ({ frames := 8, cells := 1, slots := 6, locals := 122 }) [.ref o0] yM_begin wsM_begin ({ frames := 1, cells := 0, slots := 0, locals := 21 }) [.ref oM] := by
  obtain ⟨oL, pL, qL, oS, pS, qS, oT, pT, qT, oj, pf, pt, pv, pz, od, n, J, u, fL, fS, fT, va, cL, cS, cT, fr, to, fi, wr, lf, gs, sm, mA, mC, mT, mF, mO, mV, gp, si, fM, tM, vM, cM, fF, tF, kd, gr, rfl, rfl, hz, hg⟩ := hI
  have hn := hz.1
  have hJ := hz.2.1
  have hu := hz.2.2.1
  have hn1 : n < 2 ^ 31 := by omega
  have hJ1 : J < 2 ^ 31 := by omega
  by_cases h3 : lf = 0
  · exact ⟨1, _, _, (w_begin_S l D cI cJ cZ qo o0 fo _ (zR cI cJ cZ o0 oL pL qL oS pS qS oT pT qT oj pf pt pv pz od n J u fL fS fT va cL cS cT fr to fi wr lf gs sm) rfl   (t_begin l D cI cJ cZ o0 oL pL qL oS pS qS oT pT qT oj pf pt pv pz od n J u fL fS fT va cL cS cT fr to fi wr lf gs sm hn1 hJ1 hu (Or.inl h3) htr)), (m_begin_d l D cI cJ cZ oM mA mC mT mF mO mV n J u gp si fM tM vM cM fF tF kd wr sm lf gr hn hJ hu h3), (m_thrown l D cI cJ cZ oM mA mC mT mF mO mV n J u gp si fM tM vM cM fF tF 1 wr sm lf gr hn hJ hu ), zV_of (zI_c hz) hg⟩
  · rcases hg.resolve_left h3 with ⟨rfl, rfl⟩ | ⟨rfl, rfl, g1, g2⟩
    · exact ⟨0, _, _, (w_begin_0 l D cI cJ cZ qo o0 fo _ (zR cI cJ cZ o0 oL pL qL oS pS qS oT pT qT oj pf pt pv pz od n J u fL fS fT va cL cS cT fr to fi wr lf (-1) sm) rfl _ (c_begin l D cI cJ cZ o0 oL pL qL oS pS qS oT pT qT oj pf pt pv pz od n J u fL fS fT va cL cS cT fr to fi wr lf (-1) sm hn1 hJ1 hu h3 rfl)), (m_begin_0 l D cI cJ cZ oM mA mC mT mF mO mV n J u gp si fM tM vM cM fF tF kd wr sm lf 0 hn hJ hu h3), (m_thrown l D cI cJ cZ oM mA mC mT mF mO mV n J u 0 si fM tM vM cM fF tF 0 wr sm lf 1 hn hJ hu ), zV_of (zI_c hz) (Or.inr zG_begin)⟩
    · have hgn : ¬ nI gp = -1 := pj_ne1 (by omega)
      exact ⟨1, _, _, (w_begin_S l D cI cJ cZ qo o0 fo _ (zR cI cJ cZ o0 oL pL qL oS pS qS oT pT qT oj pf pt pv pz od n J u fL fS fT va cL cS cT fr to fi wr lf (nI gp) sm) rfl  (t_begin l D cI cJ cZ o0 oL pL qL oS pS qS oT pT qT oj pf pt pv pz od n J u fL fS fT va cL cS cT fr to fi wr lf (nI gp) sm hn1 hJ1 hu (Or.inr hgn) htr)), (m_begin_g l D cI cJ cZ oM mA mC mT mF mO mV n J u gp si fM tM vM cM fF tF kd wr sm lf 1 hn hJ hu h3), (m_thrown l D cI cJ cZ oM mA mC mT mF mO mV n J u gp si fM tM vM cM fF tF 1 wr sm lf 1 hn hJ hu ), zV_of (zI_c hz) (Or.inr (Or.inr ⟨rfl, rfl, g1, g2⟩))⟩
set_option maxHeartbeats 4000000 in
set_option maxRecDepth 100000 in
theorem o_drop (l : Launch) (D : va_G) (cI cJ cZ : ClassId) (htr : l.stackTraces = false) (qo o0 oM c : Nat) (fo : Nat → Int64) (wx wm : va_W) (hI : zV cI cJ cZ o0 oM c wx wm) (hc : c ≤ 600)  : zO l D cI cJ cZ qo o0 oM c fo wx wm yL_drop wsL_drop ({ frames := 8, cells := 1, slots := 6, locals := 123 }) [.ref o0, .ref qo] yM_drop wsM_drop ({ frames := 1, cells := 0, slots := 0, locals := 21 }) [.ref oM] := by
  obtain ⟨oL, pL, qL, oS, pS, qS, oT, pT, qT, oj, pf, pt, pv, pz, od, n, J, u, fL, fS, fT, va, cL, cS, cT, fr, to, fi, wr, lf, gs, sm, mA, mC, mT, mF, mO, mV, gp, si, fM, tM, vM, cM, fF, tF, kd, gr, rfl, rfl, hz, hg⟩ := hI
  have hn := hz.1
  have hJ := hz.2.1
  have hu := hz.2.2.1
  have hn1 : n < 2 ^ 31 := by omega
  have hJ1 : J < 2 ^ 31 := by omega
  by_cases h3 : lf = 0
  · exact ⟨1, 0, fo, _, _, (w_drop_S l D cI cJ cZ qo o0 fo _ (zR cI cJ cZ o0 oL pL qL oS pS qS oT pT qT oj pf pt pv pz od n J u fL fS fT va cL cS cT fr to fi wr lf gs sm) rfl   (t_drop l D cI cJ cZ o0 oL pL qL oS pS qS oT pT qT oj pf pt pv pz od n J u fL fS fT va cL cS cT fr to fi wr lf gs sm hn1 hJ1 hu (Or.inl h3) htr)), (m_drop_d l D cI cJ cZ oM mA mC mT mF mO mV n J u gp si fM tM vM cM fF tF kd wr sm lf gr hn hJ hu h3), (m_thrown l D cI cJ cZ oM mA mC mT mF mO mV n J u gp si fM tM vM cM fF tF 1 wr sm lf gr hn hJ hu ), fun h => absurd h (by decide), zV_of (zI_c hz) hg⟩
  · rcases hg.resolve_left h3 with ⟨rfl, rfl⟩ | ⟨rfl, rfl, g1, g2⟩
    · exact ⟨1, 0, fo, _, _, (w_drop_S l D cI cJ cZ qo o0 fo _ (zR cI cJ cZ o0 oL pL qL oS pS qS oT pT qT oj pf pt pv pz od n J u fL fS fT va cL cS cT fr to fi wr lf (-1) sm) rfl  (t_drop l D cI cJ cZ o0 oL pL qL oS pS qS oT pT qT oj pf pt pv pz od n J u fL fS fT va cL cS cT fr to fi wr lf (-1) sm hn1 hJ1 hu (Or.inr rfl) htr)), (m_drop_g l D cI cJ cZ oM mA mC mT mF mO mV n J u gp si fM tM vM cM fF tF kd wr sm lf 0 hn hJ hu h3), (m_thrown l D cI cJ cZ oM mA mC mT mF mO mV n J u gp si fM tM vM cM fF tF 1 wr sm lf 0 hn hJ hu ), fun h => absurd h (by decide), zV_of (zI_c hz) (Or.inr zG_no)⟩
    · have hgn : ¬ nI gp = -1 := pj_ne1 (by omega)
      exact ⟨0, nI gp, vp_updL fo 0 (nI gp).toInt64, _, _, (w_drop_0 l D cI cJ cZ qo o0 fo _ (zR cI cJ cZ o0 oL pL qL oS pS qS oT pT qT oj pf pt pv pz od n J u fL fS fT va cL cS cT fr to fi wr lf (nI gp) sm) rfl _ _ (c_drop l D cI cJ cZ o0 oL pL qL oS pS qS oT pT qT oj pf pt pv pz od n J u fL fS fT va cL cS cT fr to fi wr lf (nI gp) sm hn1 hJ1 hu h3 hgn)), (m_drop_0 l D cI cJ cZ oM mA mC mT mF mO mV n J u gp si fM tM vM cM fF tF kd wr sm lf 1 hn hJ hu h3), (m_thrown l D cI cJ cZ oM mA mC mT mF mO mV n J u gp si fM tM vM cM fF tF 0 wr sm lf 0 hn hJ hu ), fun _ => by simp [vp_updL], zV_of (zI_c hz) (Or.inr zG_no)⟩
set_option maxHeartbeats 4000000 in
set_option maxRecDepth 100000 in
theorem o_end (l : Launch) (D : va_G) (cI cJ cZ : ClassId) (htr : l.stackTraces = false) (qo o0 oM c : Nat) (fo : Nat → Int64) (wx wm : va_W) (hI : zV cI cJ cZ o0 oM c wx wm) (hc : c ≤ 600)  : zO l D cI cJ cZ qo o0 oM c fo wx wm yL_end wsL_end ({ frames := 8, cells := 1, slots := 6, locals := 123 }) [.ref o0, .ref qo] yM_end wsM_end ({ frames := 1, cells := 0, slots := 0, locals := 24 }) [.ref oM] := by
  obtain ⟨oL, pL, qL, oS, pS, qS, oT, pT, qT, oj, pf, pt, pv, pz, od, n, J, u, fL, fS, fT, va, cL, cS, cT, fr, to, fi, wr, lf, gs, sm, mA, mC, mT, mF, mO, mV, gp, si, fM, tM, vM, cM, fF, tF, kd, gr, rfl, rfl, hz, hg⟩ := hI
  have hn := hz.1
  have hJ := hz.2.1
  have hu := hz.2.2.1
  have hn1 : n < 2 ^ 31 := by omega
  have hJ1 : J < 2 ^ 31 := by omega
  by_cases h3 : lf = 0
  · exact ⟨1, 0, fo, _, _, (w_end_S l D cI cJ cZ qo o0 fo _ (zR cI cJ cZ o0 oL pL qL oS pS qS oT pT qT oj pf pt pv pz od n J u fL fS fT va cL cS cT fr to fi wr lf gs sm) rfl   (t_end l D cI cJ cZ o0 oL pL qL oS pS qS oT pT qT oj pf pt pv pz od n J u fL fS fT va cL cS cT fr to fi wr lf gs sm hn1 hJ1 hu (Or.inl h3) htr)), (m_end_d l D cI cJ cZ oM mA mC mT mF mO mV n J u gp si fM tM vM cM fF tF kd wr sm lf gr hn hJ hu h3), (m_thrown l D cI cJ cZ oM mA mC mT mF mO mV n J u gp si fM tM vM cM fF tF 1 wr sm lf gr hn hJ hu ), fun h => absurd h (by decide), zV_of (zI_c hz) hg⟩
  · rcases hg.resolve_left h3 with ⟨rfl, rfl⟩ | ⟨rfl, rfl, g1, g2⟩
    · exact ⟨1, 0, fo, _, _, (w_end_S l D cI cJ cZ qo o0 fo _ (zR cI cJ cZ o0 oL pL qL oS pS qS oT pT qT oj pf pt pv pz od n J u fL fS fT va cL cS cT fr to fi wr lf (-1) sm) rfl  (t_end l D cI cJ cZ o0 oL pL qL oS pS qS oT pT qT oj pf pt pv pz od n J u fL fS fT va cL cS cT fr to fi wr lf (-1) sm hn1 hJ1 hu (Or.inr rfl) htr)), (m_end_g l D cI cJ cZ oM mA mC mT mF mO mV n J u gp si fM tM vM cM fF tF kd wr sm lf 0 hn hJ hu h3), (m_thrown l D cI cJ cZ oM mA mC mT mF mO mV n J u gp si fM tM vM cM fF tF 1 wr sm lf 0 hn hJ hu ), fun h => absurd h (by decide), zV_of (zI_c hz) (Or.inr zG_no)⟩
    · have hE := zI_end (fT := fT) (cT := cT) (tM := tM) hz hc g1 g2
      have hv : ∀ i, i < gp → (fF i < 0 ∨ pjH n (fF i)) ∧ pjH n (tF i) := fun i hi => ⟨(g2 i hi).1.2.imp (fun h => h.1) (fun h => h.1), (g2 i hi).1.1⟩
      by_cases ht : (pjTry n fr to va gp (u - gp) (pjC n fL fT) (pjC n cL cT)).1 = true
      · have hr : (pmRb fF tF vM gp 0 true (pjC n fM tM)).1 = true := hE.1.symm.trans ht
        by_cases hf : u < J
        · exact ⟨0, _, vp_updL fo 0 (if pjL lf = 0 then -3 else nI gp).toInt64, _, _, (w_end_0 l D cI cJ cZ qo o0 fo _ (zR cI cJ cZ o0 oL pL qL oS pS qS oT pT qT oj pf pt pv pz od n J u fL fS fT va cL cS cT fr to fi wr lf (nI gp) sm) rfl _ _ (c_end_ok l D cI cJ cZ o0 oL pL qL oS pS qS oT pT qT oj pf pt pv pz od n J u fL fS fT va cL cS cT fr to fi wr lf sm hn1 hJ1 hu gp g1 h3 ht hf)), (m_end_ok l D cI cJ cZ oM mA mC mT mF mO mV n J u gp si fM tM vM cM fF tF kd wr sm lf 1 hn hJ hu (by omega) hv h3 hr (by omega)), (m_thrown l D cI cJ cZ oM mA mC mT mF mO mV n J (u + 1) gp (si + gp) ((pmApp n fF tF vM gp 0 fM cM).1) ((pmRb fF tF vM gp 0 true (pjC n fM tM)).2) vM ((pmApp n fF tF vM gp 0 fM cM).2) fF tF 0 (wr + 1) sm (pjL lf) 0 hn hJ (show u + 1 ≤ J from hf) ), fun _ => by simp [vp_updL], zV_of (hE.2 ht hf) (Or.inr zG_no)⟩
        · exact ⟨0, _, vp_updL fo 0 (-2 : Int32).toInt64, _, _, (w_end_0 l D cI cJ cZ qo o0 fo _ (zR cI cJ cZ o0 oL pL qL oS pS qS oT pT qT oj pf pt pv pz od n J u fL fS fT va cL cS cT fr to fi wr lf (nI gp) sm) rfl _ _ (c_end_full l D cI cJ cZ o0 oL pL qL oS pS qS oT pT qT oj pf pt pv pz od n J u fL fS fT va cL cS cT fr to fi wr lf sm hn1 hJ1 hu gp g1 h3 ht (by omega))), (m_end_full l D cI cJ cZ oM mA mC mT mF mO mV n J u gp si fM tM vM cM fF tF kd wr sm lf 1 hn hJ hu (by omega) hv h3 hr (by omega)), (m_thrown l D cI cJ cZ oM mA mC mT mF mO mV n J u gp si fM ((pmRb fF tF vM gp 0 true (pjC n fM tM)).2) vM cM fF tF 0 wr sm lf 1 hn hJ hu ), fun _ => by simp [vp_updL], zV_of (zI_c hz) (Or.inr (Or.inr ⟨rfl, rfl, g1, g2⟩))⟩
      · have ht : (pjTry n fr to va gp (u - gp) (pjC n fL fT) (pjC n cL cT)).1 = false := Bool.eq_false_iff.mpr ht
        have hr : (pmRb fF tF vM gp 0 true (pjC n fM tM)).1 = false := hE.1.symm.trans ht
        exact ⟨0, _, vp_updL fo 0 (-4 : Int32).toInt64, _, _, (w_end_0 l D cI cJ cZ qo o0 fo _ (zR cI cJ cZ o0 oL pL qL oS pS qS oT pT qT oj pf pt pv pz od n J u fL fS fT va cL cS cT fr to fi wr lf (nI gp) sm) rfl _ _ (c_end_poor l D cI cJ cZ o0 oL pL qL oS pS qS oT pT qT oj pf pt pv pz od n J u fL fS fT va cL cS cT fr to fi wr lf sm hn1 hJ1 hu gp g1 h3 ht)), (m_end_poor l D cI cJ cZ oM mA mC mT mF mO mV n J u gp si fM tM vM cM fF tF kd wr sm lf 1 hn hJ hu (by omega) hv h3 hr), (m_thrown l D cI cJ cZ oM mA mC mT mF mO mV n J u gp si fM ((pmRb fF tF vM gp 0 true (pjC n fM tM)).2) vM cM fF tF 0 wr sm lf 0 hn hJ hu ), fun _ => by simp [vp_updL], zV_of (zI_c hz) (Or.inr zG_no)⟩
set_option maxHeartbeats 4000000 in
set_option maxRecDepth 100000 in
theorem o_snapshot (l : Launch) (D : va_G) (cI cJ cZ : ClassId) (htr : l.stackTraces = false) (qo o0 oM c : Nat) (fo : Nat → Int64) (wx wm : va_W) (hI : zV cI cJ cZ o0 oM c wx wm) (hc : c ≤ 600)  : zO l D cI cJ cZ qo o0 oM c fo wx wm yL_snapshot wsL_snapshot ({ frames := 8, cells := 1, slots := 6, locals := 123 }) [.ref o0, .ref qo] yM_snapshot wsM_snapshot ({ frames := 1, cells := 0, slots := 0, locals := 21 }) [.ref oM] := by
  obtain ⟨oL, pL, qL, oS, pS, qS, oT, pT, qT, oj, pf, pt, pv, pz, od, n, J, u, fL, fS, fT, va, cL, cS, cT, fr, to, fi, wr, lf, gs, sm, mA, mC, mT, mF, mO, mV, gp, si, fM, tM, vM, cM, fF, tF, kd, gr, rfl, rfl, hz, hg⟩ := hI
  have hn := hz.1
  have hJ := hz.2.1
  have hu := hz.2.2.1
  have hn1 : n < 2 ^ 31 := by omega
  have hJ1 : J < 2 ^ 31 := by omega
  by_cases h3 : lf = 0
  · exact ⟨1, 0, fo, _, _, (w_snapshot_S l D cI cJ cZ qo o0 fo _ (zR cI cJ cZ o0 oL pL qL oS pS qS oT pT qT oj pf pt pv pz od n J u fL fS fT va cL cS cT fr to fi wr lf gs sm) rfl   (t_snap l D cI cJ cZ o0 oL pL qL oS pS qS oT pT qT oj pf pt pv pz od n J u fL fS fT va cL cS cT fr to fi wr lf gs sm hn1 hJ1 hu (Or.inl h3) htr)), (m_snap_d l D cI cJ cZ oM mA mC mT mF mO mV n J u gp si fM tM vM cM fF tF kd wr sm lf gr hn hJ hu h3), (m_thrown l D cI cJ cZ oM mA mC mT mF mO mV n J u gp si fM tM vM cM fF tF 1 wr sm lf gr hn hJ hu ), fun h => absurd h (by decide), zV_of (zI_c hz) hg⟩
  · rcases hg.resolve_left h3 with ⟨rfl, rfl⟩ | ⟨rfl, rfl, g1, g2⟩
    · by_cases hd : (pjB (pjN n) 0 wr lf).1 = pjN n
      · exact ⟨0, _, vp_updL fo 0 (if (pjB (pjN n) 0 wr lf).2.2 = 0 then -3 else nI (pjN n)).toInt64, _, _, (w_snapshot_0 l D cI cJ cZ qo o0 fo _ (zR cI cJ cZ o0 oL pL qL oS pS qS oT pT qT oj pf pt pv pz od n J u fL fS fT va cL cS cT fr to fi wr lf (-1) sm) rfl _ _ (c_snap_ok l D cI cJ cZ o0 oL pL qL oS pS qS oT pT qT oj pf pt pv pz od n J u fL fS fT va cL cS cT fr to fi wr lf (-1) sm hn1 hJ1 hu hn h3 rfl hd)), (m_snap_ok l D cI cJ cZ oM mA mC mT mF mO mV n J u gp si fM tM vM cM fF tF kd wr sm lf 0 hn hJ hu h3 hd), (m_thrown l D cI cJ cZ oM mA mC mT mF mO mV n J 0 gp 0 fM tM vM cM fF tF 0 ((pjB (pjN n) 0 wr lf).2.1) (sm + 1) ((pjB (pjN n) 0 wr lf).2.2) 0 hn hJ (Nat.zero_le J) ), fun _ => by simp [vp_updL], zV_of (zI_snap hz) (Or.inr zG_no)⟩
      · exact ⟨0, _, vp_updL fo 0 (if (pjB (pjN n) 0 wr lf).2.2 = 0 then -3 else nI (pjN n)).toInt64, _, _, (w_snapshot_0 l D cI cJ cZ qo o0 fo _ (zR cI cJ cZ o0 oL pL qL oS pS qS oT pT qT oj pf pt pv pz od n J u fL fS fT va cL cS cT fr to fi wr lf (-1) sm) rfl _ _ (c_snap_cut l D cI cJ cZ o0 oL pL qL oS pS qS oT pT qT oj pf pt pv pz od n J u fL fS fT va cL cS cT fr to fi wr lf (-1) sm hn1 hJ1 hu hn h3 rfl hd)), (m_snap_cut l D cI cJ cZ oM mA mC mT mF mO mV n J u gp si fM tM vM cM fF tF kd wr sm lf 0 hn hJ hu h3 hd), (m_thrown l D cI cJ cZ oM mA mC mT mF mO mV n J u gp si fM tM vM cM fF tF 0 ((pjB (pjN n) 0 wr lf).2.1) sm ((pjB (pjN n) 0 wr lf).2.2) 0 hn hJ hu ), fun _ => by simp [vp_updL], zV_of (zI_c hz) (Or.inr zG_no)⟩
    · have hgn : ¬ nI gp = -1 := pj_ne1 (by omega)
      exact ⟨1, 0, fo, _, _, (w_snapshot_S l D cI cJ cZ qo o0 fo _ (zR cI cJ cZ o0 oL pL qL oS pS qS oT pT qT oj pf pt pv pz od n J u fL fS fT va cL cS cT fr to fi wr lf (nI gp) sm) rfl  (t_snap l D cI cJ cZ o0 oL pL qL oS pS qS oT pT qT oj pf pt pv pz od n J u fL fS fT va cL cS cT fr to fi wr lf (nI gp) sm hn1 hJ1 hu (Or.inr hgn) htr)), (m_snap_g l D cI cJ cZ oM mA mC mT mF mO mV n J u gp si fM tM vM cM fF tF kd wr sm lf 1 hn hJ hu h3), (m_thrown l D cI cJ cZ oM mA mC mT mF mO mV n J u gp si fM tM vM cM fF tF 1 wr sm lf 1 hn hJ hu ), fun h => absurd h (by decide), zV_of (zI_c hz) (Or.inr (Or.inr ⟨rfl, rfl, g1, g2⟩))⟩
set_option maxHeartbeats 4000000 in
set_option maxRecDepth 100000 in
theorem o_crash (l : Launch) (D : va_G) (cI cJ cZ : ClassId) (htr : l.stackTraces = false) (qo o0 oM c : Nat) (fo : Nat → Int64) (wx wm : va_W) (hI : zV cI cJ cZ o0 oM c wx wm) (hc : c ≤ 600) (x : Int32) : zOv l D cI cJ cZ qo o0 oM c fo wx wm yL_crash wsL_crash ({ frames := 8, cells := 1, slots := 6, locals := 128 }) [.ref o0, .int x] yM_crash wsM_crash ({ frames := 1, cells := 0, slots := 0, locals := 22 }) [.ref oM, .int x] := by
  obtain ⟨oL, pL, qL, oS, pS, qS, oT, pT, qT, oj, pf, pt, pv, pz, od, n, J, u, fL, fS, fT, va, cL, cS, cT, fr, to, fi, wr, lf, gs, sm, mA, mC, mT, mF, mO, mV, gp, si, fM, tM, vM, cM, fF, tF, kd, gr, rfl, rfl, hz, hg⟩ := hI
  have hn := hz.1
  have hJ := hz.2.1
  have hu := hz.2.2.1
  have hn1 : n < 2 ^ 31 := by omega
  have hJ1 : J < 2 ^ 31 := by omega
  have q1 : x.toInt64 < (-1) ↔ x < -1 := z_lt64 (y := -1)
  have q2 : (1000 : Int64) < x.toInt64 ↔ 1000 < x := z_lt64 (x := 1000)
  by_cases h : x < -1 ∨ 1000 < x
  · exact ⟨1, _, _, (w_crash_A l D cI cJ cZ qo o0 fo _ (zR cI cJ cZ o0 oL pL qL oS pS qS oT pT qT oj pf pt pv pz od n J u fL fS fT va cL cS cT fr to fi wr lf gs sm) rfl x  (t_crash_A l D cI cJ cZ o0 oL pL qL oS pS qS oT pT qT oj pf pt pv pz od n J u fL fS fT va cL cS cT fr to fi wr lf gs sm hn1 hJ1 hu x (h.imp q1.mpr q2.mpr) htr)), (m_crash_1 l D cI cJ cZ oM mA mC mT mF mO mV n J u gp si fM tM vM cM fF tF kd wr sm lf gr hn hJ hu x h), (m_thrown l D cI cJ cZ oM mA mC mT mF mO mV n J u gp si fM tM vM cM fF tF 1 wr sm lf gr hn hJ hu ), zV_of (zI_c hz) hg⟩
  · have h2 := not_or.mp h
    have h2b : ¬ x.toInt64 < (-1) ∧ ¬ (1000 : Int64) < x.toInt64 := ⟨fun q => h2.1 (q1.mp q), fun q => h2.2 (q2.mp q)⟩
    by_cases h3 : lf = 0
    · exact ⟨2, _, _, (w_crash_S l D cI cJ cZ qo o0 fo _ (zR cI cJ cZ o0 oL pL qL oS pS qS oT pT qT oj pf pt pv pz od n J u fL fS fT va cL cS cT fr to fi wr lf gs sm) rfl x  (t_crash_S l D cI cJ cZ o0 oL pL qL oS pS qS oT pT qT oj pf pt pv pz od n J u fL fS fT va cL cS cT fr to fi wr lf gs sm hn1 hJ1 hu x h2b h3 htr)), (m_crash_2 l D cI cJ cZ oM mA mC mT mF mO mV n J u gp si fM tM vM cM fF tF kd wr sm lf gr hn hJ hu x h2 h3), (m_thrown l D cI cJ cZ oM mA mC mT mF mO mV n J u gp si fM tM vM cM fF tF 2 wr sm lf gr hn hJ hu ), zV_of (zI_c hz) hg⟩
    · exact ⟨0, _, _, (w_crash_0 l D cI cJ cZ qo o0 fo _ (zR cI cJ cZ o0 oL pL qL oS pS qS oT pT qT oj pf pt pv pz od n J u fL fS fT va cL cS cT fr to fi wr lf gs sm) rfl x _ (c_crash l D cI cJ cZ o0 oL pL qL oS pS qS oT pT qT oj pf pt pv pz od n J u fL fS fT va cL cS cT fr to fi wr lf gs sm hn1 hJ1 hu x h2b h3)), (m_crash_0 l D cI cJ cZ oM mA mC mT mF mO mV n J u gp si fM tM vM cM fF tF kd wr sm lf gr hn hJ hu x h2 h3), (m_thrown l D cI cJ cZ oM mA mC mT mF mO mV n J u gp si fM tM vM cM fF tF 0 wr sm x gr hn hJ hu ), zV_of (zI_c hz) (Or.inr (hg.resolve_left h3))⟩
set_option maxHeartbeats 4000000 in
set_option maxRecDepth 100000 in
theorem o_amount (l : Launch) (D : va_G) (cI cJ cZ : ClassId) (htr : l.stackTraces = false) (qo o0 oM c : Nat) (fo : Nat → Int64) (wx wm : va_W) (hI : zV cI cJ cZ o0 oM c wx wm) (hc : c ≤ 600) (x : Int32) : zOl l D cI cJ cZ qo o0 oM c fo wx wm yL_amount wsL_amount ({ frames := 8, cells := 1, slots := 6, locals := 124 }) [.ref o0, .int x, .ref qo] yM_amount wsM_amount ({ frames := 1, cells := 0, slots := 0, locals := 22 }) [.ref oM, .int x] := by
  obtain ⟨oL, pL, qL, oS, pS, qS, oT, pT, qT, oj, pf, pt, pv, pz, od, n, J, u, fL, fS, fT, va, cL, cS, cT, fr, to, fi, wr, lf, gs, sm, mA, mC, mT, mF, mO, mV, gp, si, fM, tM, vM, cM, fF, tF, kd, gr, rfl, rfl, hz, hg⟩ := hI
  have hn := hz.1
  have hJ := hz.2.1
  have hu := hz.2.2.1
  have hn1 : n < 2 ^ 31 := by omega
  have hJ1 : J < 2 ^ 31 := by omega
  by_cases h1 : pjH n x
  · by_cases h3 : lf = 0
    · exact ⟨2, 0, fo, _, _, (w_amount_S l D cI cJ cZ qo o0 fo _ (zR cI cJ cZ o0 oL pL qL oS pS qS oT pT qT oj pf pt pv pz od n J u fL fS fT va cL cS cT fr to fi wr lf gs sm) rfl x  (t_amount_S l D cI cJ cZ o0 oL pL qL oS pS qS oT pT qT oj pf pt pv pz od n J u fL fS fT va cL cS cT fr to fi wr lf gs sm hn1 hJ1 hu x h1 h3 htr)), (m_amount_2 l D cI cJ cZ oM mA mC mT mF mO mV n J u gp si fM tM vM cM fF tF kd wr sm lf gr hn hJ hu x h1 h3), (m_thrown l D cI cJ cZ oM mA mC mT mF mO mV n J u gp si fM tM vM cM fF tF 2 wr sm lf gr hn hJ hu ), fun h => absurd h (by decide), zV_of (zI_c hz) hg⟩
    · refine ⟨0, _, vp_updL fo 0 (fL x.toNatClampNeg), _, _, (w_amount_0 l D cI cJ cZ qo o0 fo _ (zR cI cJ cZ o0 oL pL qL oS pS qS oT pT qT oj pf pt pv pz od n J u fL fS fT va cL cS cT fr to fi wr lf gs sm) rfl x _ (c_amount l D cI cJ cZ o0 oL pL qL oS pS qS oT pT qT oj pf pt pv pz od n J u fL fS fT va cL cS cT fr to fi wr lf gs sm hn1 hJ1 hu x h1 h3)), (m_amount_0 l D cI cJ cZ oM mA mC mT mF mO mV n J u gp si fM tM vM cM fF tF kd wr sm lf gr hn hJ hu x h1 h3), (m_thrown l D cI cJ cZ oM mA mC mT mF mO mV n J u gp si fM tM vM cM fF tF 0 wr sm lf gr hn hJ hu ), fun _ => ?_, zV_of (zI_c hz) hg⟩
      rw [← (hz.2.2.2.1 _ (z_lt hn h1)).1]; simp [vp_updL]
  · exact ⟨1, 0, fo, _, _, (w_amount_A l D cI cJ cZ qo o0 fo _ (zR cI cJ cZ o0 oL pL qL oS pS qS oT pT qT oj pf pt pv pz od n J u fL fS fT va cL cS cT fr to fi wr lf gs sm) rfl x  (t_amount_A l D cI cJ cZ o0 oL pL qL oS pS qS oT pT qT oj pf pt pv pz od n J u fL fS fT va cL cS cT fr to fi wr lf gs sm hn1 hJ1 hu x h1 htr)), (m_amount_1 l D cI cJ cZ oM mA mC mT mF mO mV n J u gp si fM tM vM cM fF tF kd wr sm lf gr hn hJ hu x h1), (m_thrown l D cI cJ cZ oM mA mC mT mF mO mV n J u gp si fM tM vM cM fF tF 1 wr sm lf gr hn hJ hu ), fun h => absurd h (by decide), zV_of (zI_c hz) hg⟩
set_option maxHeartbeats 4000000 in
set_option maxRecDepth 100000 in
theorem o_changes (l : Launch) (D : va_G) (cI cJ cZ : ClassId) (htr : l.stackTraces = false) (qo o0 oM c : Nat) (fo : Nat → Int64) (wx wm : va_W) (hI : zV cI cJ cZ o0 oM c wx wm) (hc : c ≤ 600) (x : Int32) : zO l D cI cJ cZ qo o0 oM c fo wx wm yL_changes wsL_changes ({ frames := 8, cells := 1, slots := 6, locals := 124 }) [.ref o0, .int x, .ref qo] yM_changes wsM_changes ({ frames := 1, cells := 0, slots := 0, locals := 22 }) [.ref oM, .int x] := by
  obtain ⟨oL, pL, qL, oS, pS, qS, oT, pT, qT, oj, pf, pt, pv, pz, od, n, J, u, fL, fS, fT, va, cL, cS, cT, fr, to, fi, wr, lf, gs, sm, mA, mC, mT, mF, mO, mV, gp, si, fM, tM, vM, cM, fF, tF, kd, gr, rfl, rfl, hz, hg⟩ := hI
  have hn := hz.1
  have hJ := hz.2.1
  have hu := hz.2.2.1
  have hn1 : n < 2 ^ 31 := by omega
  have hJ1 : J < 2 ^ 31 := by omega
  by_cases h1 : pjH n x
  · by_cases h3 : lf = 0
    · exact ⟨2, 0, fo, _, _, (w_changes_S l D cI cJ cZ qo o0 fo _ (zR cI cJ cZ o0 oL pL qL oS pS qS oT pT qT oj pf pt pv pz od n J u fL fS fT va cL cS cT fr to fi wr lf gs sm) rfl x  (t_changes_S l D cI cJ cZ o0 oL pL qL oS pS qS oT pT qT oj pf pt pv pz od n J u fL fS fT va cL cS cT fr to fi wr lf gs sm hn1 hJ1 hu x h1 h3 htr)), (m_changes_2 l D cI cJ cZ oM mA mC mT mF mO mV n J u gp si fM tM vM cM fF tF kd wr sm lf gr hn hJ hu x h1 h3), (m_thrown l D cI cJ cZ oM mA mC mT mF mO mV n J u gp si fM tM vM cM fF tF 2 wr sm lf gr hn hJ hu ), fun h => absurd h (by decide), zV_of (zI_c hz) hg⟩
    · refine ⟨0, _, vp_updL fo 0 (cL x.toNatClampNeg).toInt64, _, _, (w_changes_0 l D cI cJ cZ qo o0 fo _ (zR cI cJ cZ o0 oL pL qL oS pS qS oT pT qT oj pf pt pv pz od n J u fL fS fT va cL cS cT fr to fi wr lf gs sm) rfl x _ (c_changes l D cI cJ cZ o0 oL pL qL oS pS qS oT pT qT oj pf pt pv pz od n J u fL fS fT va cL cS cT fr to fi wr lf gs sm hn1 hJ1 hu x h1 h3)), (m_changes_0 l D cI cJ cZ oM mA mC mT mF mO mV n J u gp si fM tM vM cM fF tF kd wr sm lf gr hn hJ hu x h1 h3), (m_thrown l D cI cJ cZ oM mA mC mT mF mO mV n J u gp si fM tM vM cM fF tF 0 wr sm lf gr hn hJ hu ), fun _ => ?_, zV_of (zI_c hz) hg⟩
      rw [← (hz.2.2.2.1 _ (z_lt hn h1)).2]; simp [vp_updL]
  · exact ⟨1, 0, fo, _, _, (w_changes_A l D cI cJ cZ qo o0 fo _ (zR cI cJ cZ o0 oL pL qL oS pS qS oT pT qT oj pf pt pv pz od n J u fL fS fT va cL cS cT fr to fi wr lf gs sm) rfl x  (t_changes_A l D cI cJ cZ o0 oL pL qL oS pS qS oT pT qT oj pf pt pv pz od n J u fL fS fT va cL cS cT fr to fi wr lf gs sm hn1 hJ1 hu x h1 htr)), (m_changes_1 l D cI cJ cZ oM mA mC mT mF mO mV n J u gp si fM tM vM cM fF tF kd wr sm lf gr hn hJ hu x h1), (m_thrown l D cI cJ cZ oM mA mC mT mF mO mV n J u gp si fM tM vM cM fF tF 1 wr sm lf gr hn hJ hu ), fun h => absurd h (by decide), zV_of (zI_c hz) hg⟩
set_option maxHeartbeats 4000000 in
set_option maxRecDepth 100000 in
theorem o_count (l : Launch) (D : va_G) (cI cJ cZ : ClassId) (htr : l.stackTraces = false) (qo o0 oM c : Nat) (fo : Nat → Int64) (wx wm : va_W) (hI : zV cI cJ cZ o0 oM c wx wm) (hc : c ≤ 600) (x : Int32) : zO l D cI cJ cZ qo o0 oM c fo wx wm yL_count wsL_count ({ frames := 8, cells := 1, slots := 6, locals := 128 }) [.ref o0, .int x, .ref qo] yM_count wsM_count ({ frames := 1, cells := 0, slots := 0, locals := 22 }) [.ref oM, .int x] := by
  obtain ⟨oL, pL, qL, oS, pS, qS, oT, pT, qT, oj, pf, pt, pv, pz, od, n, J, u, fL, fS, fT, va, cL, cS, cT, fr, to, fi, wr, lf, gs, sm, mA, mC, mT, mF, mO, mV, gp, si, fM, tM, vM, cM, fF, tF, kd, gr, rfl, rfl, hz, hg⟩ := hI
  have hn := hz.1
  have hJ := hz.2.1
  have hu := hz.2.2.1
  have hn1 : n < 2 ^ 31 := by omega
  have hJ1 : J < 2 ^ 31 := by omega
  have q1 : x.toInt64 < 0 ↔ x < 0 := z_lt64 (y := 0)
  have q2 : (3 : Int64) < x.toInt64 ↔ 3 < x := z_lt64 (x := 3)
  by_cases h : x < 0 ∨ 3 < x
  · exact ⟨1, 0, fo, _, _, (w_count_A l D cI cJ cZ qo o0 fo _ (zR cI cJ cZ o0 oL pL qL oS pS qS oT pT qT oj pf pt pv pz od n J u fL fS fT va cL cS cT fr to fi wr lf gs sm) rfl x  (t_count_A l D cI cJ cZ o0 oL pL qL oS pS qS oT pT qT oj pf pt pv pz od n J u fL fS fT va cL cS cT fr to fi wr lf gs sm hn1 hJ1 hu x (h.imp q1.mpr q2.mpr) htr)), (m_count_1 l D cI cJ cZ oM mA mC mT mF mO mV n J u gp si fM tM vM cM fF tF kd wr sm lf gr hn hJ hu x h), (m_thrown l D cI cJ cZ oM mA mC mT mF mO mV n J u gp si fM tM vM cM fF tF 1 wr sm lf gr hn hJ hu ), fun h => absurd h (by decide), zV_of (zI_c hz) hg⟩
  · have h2 := not_or.mp h
    have h2b : ¬ x.toInt64 < 0 ∧ ¬ (3 : Int64) < x.toInt64 := ⟨fun q => h2.1 (q1.mp q), fun q => h2.2 (q2.mp q)⟩
    by_cases h3 : lf = 0
    · exact ⟨2, 0, fo, _, _, (w_count_S l D cI cJ cZ qo o0 fo _ (zR cI cJ cZ o0 oL pL qL oS pS qS oT pT qT oj pf pt pv pz od n J u fL fS fT va cL cS cT fr to fi wr lf gs sm) rfl x  (t_count_S l D cI cJ cZ o0 oL pL qL oS pS qS oT pT qT oj pf pt pv pz od n J u fL fS fT va cL cS cT fr to fi wr lf gs sm hn1 hJ1 hu x h2b h3 htr)), (m_count_2 l D cI cJ cZ oM mA mC mT mF mO mV n J u gp si fM tM vM cM fF tF kd wr sm lf gr hn hJ hu x h2 h3), (m_thrown l D cI cJ cZ oM mA mC mT mF mO mV n J u gp si fM tM vM cM fF tF 2 wr sm lf gr hn hJ hu ), fun h => absurd h (by decide), zV_of (zI_c hz) hg⟩
    · rcases z_03 h2.1 h2.2 with rfl | rfl | rfl | rfl
      · exact ⟨0, _, vp_updL fo 0 (nI u).toInt64, _, _, (w_count_0 l D cI cJ cZ qo o0 fo _ (zR cI cJ cZ o0 oL pL qL oS pS qS oT pT qT oj pf pt pv pz od n J u fL fS fT va cL cS cT fr to fi wr lf gs sm) rfl _ _ (c_count_0 l D cI cJ cZ o0 oL pL qL oS pS qS oT pT qT oj pf pt pv pz od n J u fL fS fT va cL cS cT fr to fi wr lf gs sm hn1 hJ1 hu h3)), (m_count_00 l D cI cJ cZ oM mA mC mT mF mO mV n J u gp si fM tM vM cM fF tF kd wr sm lf gr hn hJ hu h3), (m_thrown l D cI cJ cZ oM mA mC mT mF mO mV n J u gp si fM tM vM cM fF tF 0 wr sm lf gr hn hJ hu ), fun _ => by simp [vp_updL], zV_of (zI_c hz) hg⟩
      · exact ⟨0, _, vp_updL fo 0 (wr).toInt64, _, _, (w_count_0 l D cI cJ cZ qo o0 fo _ (zR cI cJ cZ o0 oL pL qL oS pS qS oT pT qT oj pf pt pv pz od n J u fL fS fT va cL cS cT fr to fi wr lf gs sm) rfl _ _ (c_count_1 l D cI cJ cZ o0 oL pL qL oS pS qS oT pT qT oj pf pt pv pz od n J u fL fS fT va cL cS cT fr to fi wr lf gs sm hn1 hJ1 hu h3)), (m_count_01 l D cI cJ cZ oM mA mC mT mF mO mV n J u gp si fM tM vM cM fF tF kd wr sm lf gr hn hJ hu h3), (m_thrown l D cI cJ cZ oM mA mC mT mF mO mV n J u gp si fM tM vM cM fF tF 0 wr sm lf gr hn hJ hu ), fun _ => by simp [vp_updL], zV_of (zI_c hz) hg⟩
      · rcases hg.resolve_left h3 with ⟨rfl, rfl⟩ | ⟨rfl, rfl, g1, g2⟩
        · exact ⟨0, _, vp_updL fo 0 (-1 : Int32).toInt64, _, _, (w_count_0 l D cI cJ cZ qo o0 fo _ (zR cI cJ cZ o0 oL pL qL oS pS qS oT pT qT oj pf pt pv pz od n J u fL fS fT va cL cS cT fr to fi wr lf (-1) sm) rfl _ _ (c_count_2 l D cI cJ cZ o0 oL pL qL oS pS qS oT pT qT oj pf pt pv pz od n J u fL fS fT va cL cS cT fr to fi wr lf (-1) sm hn1 hJ1 hu h3)), (m_count_02_0 l D cI cJ cZ oM mA mC mT mF mO mV n J u gp si fM tM vM cM fF tF kd wr sm lf 0 hn hJ hu h3), (m_thrown l D cI cJ cZ oM mA mC mT mF mO mV n J u gp si fM tM vM cM fF tF 0 wr sm lf 0 hn hJ hu ), fun _ => by simp [vp_updL], zV_of (zI_c hz) (Or.inr zG_no)⟩
        · exact ⟨0, _, vp_updL fo 0 (nI gp).toInt64, _, _, (w_count_0 l D cI cJ cZ qo o0 fo _ (zR cI cJ cZ o0 oL pL qL oS pS qS oT pT qT oj pf pt pv pz od n J u fL fS fT va cL cS cT fr to fi wr lf (nI gp) sm) rfl _ _ (c_count_2 l D cI cJ cZ o0 oL pL qL oS pS qS oT pT qT oj pf pt pv pz od n J u fL fS fT va cL cS cT fr to fi wr lf (nI gp) sm hn1 hJ1 hu h3)), (m_count_02_1 l D cI cJ cZ oM mA mC mT mF mO mV n J u gp si fM tM vM cM fF tF kd wr sm lf 1 hn hJ hu h3), (m_thrown l D cI cJ cZ oM mA mC mT mF mO mV n J u gp si fM tM vM cM fF tF 0 wr sm lf 1 hn hJ hu ), fun _ => by simp [vp_updL], zV_of (zI_c hz) (Or.inr (Or.inr ⟨rfl, rfl, g1, g2⟩))⟩
      · exact ⟨0, _, vp_updL fo 0 (sm).toInt64, _, _, (w_count_0 l D cI cJ cZ qo o0 fo _ (zR cI cJ cZ o0 oL pL qL oS pS qS oT pT qT oj pf pt pv pz od n J u fL fS fT va cL cS cT fr to fi wr lf gs sm) rfl _ _ (c_count_3 l D cI cJ cZ o0 oL pL qL oS pS qS oT pT qT oj pf pt pv pz od n J u fL fS fT va cL cS cT fr to fi wr lf gs sm hn1 hJ1 hu h3)), (m_count_03 l D cI cJ cZ oM mA mC mT mF mO mV n J u gp si fM tM vM cM fF tF kd wr sm lf gr hn hJ hu h3), (m_thrown l D cI cJ cZ oM mA mC mT mF mO mV n J u gp si fM tM vM cM fF tF 0 wr sm lf gr hn hJ hu ), fun _ => by simp [vp_updL], zV_of (zI_c hz) hg⟩
set_option maxHeartbeats 4000000 in
set_option maxRecDepth 100000 in
theorem o_recover (l : Launch) (D : va_G) (cI cJ cZ : ClassId) (htr : l.stackTraces = false) (qo o0 oM c : Nat) (fo : Nat → Int64) (wx wm : va_W) (hI : zV cI cJ cZ o0 oM c wx wm) (hc : c ≤ 600) : ∃ (b : Int32) (wx' wm' : va_W), pj_Met l yR_recover wsR_recover ({ frames := 4, cells := 0, slots := 0, locals := 91 }) D vwCl (pjT cI cJ cZ) pj_no [.ref o0] wx (some (.int b)) wx' 0 0 ∧ pj_Met l yM_recover wsM_recover ({ frames := 0, cells := 0, slots := 0, locals := 0 }) D vwCl (pjT cI cJ cZ) pj_no [.ref oM] wm (some (.int b)) wm' 0 0 ∧ zV cI cJ cZ o0 oM (c + 1) wx' wm' := by
  obtain ⟨oL, pL, qL, oS, pS, qS, oT, pT, qT, oj, pf, pt, pv, pz, od, n, J, u, fL, fS, fT, va, cL, cS, cT, fr, to, fi, wr, lf, gs, sm, mA, mC, mT, mF, mO, mV, gp, si, fM, tM, vM, cM, fF, tF, kd, gr, rfl, rfl, hz, hg⟩ := hI
  have hn := hz.1
  have hJ := hz.2.1
  have hu := hz.2.2.1
  have hn1 : n < 2 ^ 31 := by omega
  have hJ1 : J < 2 ^ 31 := by omega
  have hR := zI_rec hz
  refine ⟨_, _, (zM cI cJ oM mA mC mT mF mO mV n J u gp si fM tM vM cM fF tF 0 wr sm (-1) 0), (c_recover l D cI cJ cZ o0 oL pL qL oS pS qS oT pT qT oj pf pt pv pz od n J u fL fS fT va cL cS cT fr to fi wr lf gs sm hn1 hJ1 hu ), ?_, zV_of hR.2 (Or.inr zG_no)⟩
  rw [hR.1]; exact (m_recover l D cI cJ cZ oM mA mC mT mF mO mV n J u gp si fM tM vM cM fF tF kd wr sm lf gr hn hJ hu )
set_option maxHeartbeats 4000000 in
set_option maxRecDepth 100000 in
theorem o_isDown (l : Launch) (D : va_G) (cI cJ cZ : ClassId) (htr : l.stackTraces = false) (qo o0 oM c : Nat) (fo : Nat → Int64) (wx wm : va_W) (hI : zV cI cJ cZ o0 oM c wx wm) (hc : c ≤ 600) : ∃ (b : Int32) (wm' : va_W), pp_Met l yR_isDown wsR_isDown ({ frames := 1, cells := 0, slots := 0, locals := 20 }) D vwCl (pjT cI cJ cZ) pj_no [.ref o0] wx (some (.int b))  ∧ pj_Met l yM_isDown wsM_isDown ({ frames := 0, cells := 0, slots := 0, locals := 0 }) D vwCl (pjT cI cJ cZ) pj_no [.ref oM] wm (some (.int b)) wm' 0 0 ∧ zV cI cJ cZ o0 oM (c + 1) wx wm' := by
  obtain ⟨oL, pL, qL, oS, pS, qS, oT, pT, qT, oj, pf, pt, pv, pz, od, n, J, u, fL, fS, fT, va, cL, cS, cT, fr, to, fi, wr, lf, gs, sm, mA, mC, mT, mF, mO, mV, gp, si, fM, tM, vM, cM, fF, tF, kd, gr, rfl, rfl, hz, hg⟩ := hI
  have hn := hz.1
  have hJ := hz.2.1
  have hu := hz.2.2.1
  have hn1 : n < 2 ^ 31 := by omega
  have hJ1 : J < 2 ^ 31 := by omega
  exact ⟨_, _, (c_isDown l D cI cJ cZ o0 oL pL qL oS pS qS oT pT qT oj pf pt pv pz od n J u fL fS fT va cL cS cT fr to fi wr lf gs sm hn1 hJ1 hu ), (m_isDown l D cI cJ cZ oM mA mC mT mF mO mV n J u gp si fM tM vM cM fF tF kd wr sm lf gr hn hJ hu ), zV_of (zI_c hz) hg⟩
