set_option maxHeartbeats 4000000 in
set_option maxRecDepth 100000 in
theorem m_thrown (l : Launch) (D : va_G) (cI cJ cZ : ClassId) (oM mA mC mT mF mO mV n J us gp si : Nat) (fM tM vM : Nat → Int64) (cM fF tF : Nat → Int32) (kd wr sn lf gr : Int32) (hn : n ≤ 64) (hJ : J ≤ 60) (hus : us ≤ J) : pp_Met l yM_thrown wsM_thrown ({ frames := 0, cells := 0, slots := 0, locals := 0 }) D vwCl (pjT cI cJ cZ) pj_no [.ref oM] [(oM, .inr (4, [.int kd, .int (nI n), .int (nI J), .ref mA, .ref mC, .ref mT, .int (nI us), .int wr, .int sn, .int (nI si), .int gr, .int (nI gp), .ref mF, .ref mO, .ref mV, .int lf, .int (pjd lf)])), (mA, .inl (cJ, 64, .inr (.inl fM))), (mC, .inl (cI, 64, .inl cM)), (mT, .inl (cJ, 64, .inr (.inl tM))), (mF, .inl (cI, 60, .inl fF)), (mO, .inl (cI, 60, .inl tF)), (mV, .inl (cJ, 60, .inr (.inl vM)))] (some (.int kd)) := by
  refine pp_of (by decide) rfl (Nat.le_of_ble_eq_true rfl) ?_
  intro p e s m below meth c A ls hx hb hml hr hts hown hlocks hA hK hP hD hS hG hl
  have hl : lv_has ls 1 [(0, .ref oM)] := hl
  refine lv_aload_n hx hb dM_thrown_0 rfl (lv_at hl 0 rfl) ?_
  refine va_get (D := D) (ci := 4) (v := .int kd) (C := "ReplayJournalModel") (T := TM) (N := 17) hx hb hts (pj_ups inM) hown hK hP 0 rfl rfl 0 (by decide) (hts _ (pj_up m_424)) (fun _ h9 => h9) rfl dM_thrown_1 ?_
  exact pp_iret hx hb hr hlocks (rfl) dM_thrown_4
set_option maxHeartbeats 4000000 in
set_option maxRecDepth 100000 in
theorem m_goes_1 (l : Launch) (D : va_G) (cI cJ cZ : ClassId) (oM mA mC mT mF mO mV n J us gp si : Nat) (fM tM vM : Nat → Int64) (cM fF tF : Nat → Int32) (kd wr sn lf gr : Int32) (hn : n ≤ 64) (hJ : J ≤ 60) (hus : us ≤ J) (z : Int32) : pj_Met l yM_goes wsM_goes ({ frames := 0, cells := 0, slots := 0, locals := 0 }) D vwCl (pjT cI cJ cZ) pj_no [.ref oM, .int 0, .int z] [(oM, .inr (4, [.int kd, .int (nI n), .int (nI J), .ref mA, .ref mC, .ref mT, .int (nI us), .int wr, .int sn, .int (nI si), .int gr, .int (nI gp), .ref mF, .ref mO, .ref mV, .int lf, .int (pjd lf)])), (mA, .inl (cJ, 64, .inr (.inl fM))), (mC, .inl (cI, 64, .inl cM)), (mT, .inl (cJ, 64, .inr (.inl tM))), (mF, .inl (cI, 60, .inl fF)), (mO, .inl (cI, 60, .inl tF)), (mV, .inl (cJ, 60, .inr (.inl vM)))] (some (.int 0)) [(oM, .inr (4, [.int 1, .int (nI n), .int (nI J), .ref mA, .ref mC, .ref mT, .int (nI us), .int wr, .int sn, .int (nI si), .int gr, .int (nI gp), .ref mF, .ref mO, .ref mV, .int lf, .int (pjd lf)])), (mA, .inl (cJ, 64, .inr (.inl fM))), (mC, .inl (cI, 64, .inl cM)), (mT, .inl (cJ, 64, .inr (.inl tM))), (mF, .inl (cI, 60, .inl fF)), (mO, .inl (cI, 60, .inl tF)), (mV, .inl (cJ, 60, .inr (.inl vM)))] 0 0 := by
  refine pj_of (by decide) rfl (Nat.le_of_ble_eq_true rfl) ?_
  intro p e s m below meth c A ls hx hb hml hr hts hown hlocks hin hA hK hP hD hS hG hl
  have hl : lv_has ls 3 [(0, .ref oM), (1, .int 0), (2, .int z)] := hl
  refine lv_aload_n hx hb dM_goes_0 rfl (lv_at hl 0 rfl) ?_
  refine lv_iload_n hx hb dM_goes_1 rfl (lv_at hl 1 rfl) ?_
  refine lv_if_ne (tgt := 9) hx hb dM_goes_2 (by decide) (fun h9 => absurd h9 (fun h => h rfl)) (fun _ => ?_)
  refine lv_iconst (v := 1) hx hb dM_goes_5 (by decide) ?_
  refine lv_goto (tgt := 18) hx hb dM_goes_6 (by decide) ?_
  refine va_put (D := D) (ci := 4) (v := .int 1) (ty := .int) (C := "ReplayJournalModel") (T := TM) (N := 17) hx hb hts (pj_ups inM) tyM tyM_ok nmM hown hK hP hD hS 0 rfl rfl 0 (by decide) (hts _ (pj_up m_424)) (fun _ h9 => h9) rfl (by decide +kernel) rfl rfl (Nat.le_of_ble_eq_true rfl) dM_goes_18 (fun H locs hP hD hS => ?_)
  have hP : va_P D vwCl [(oM, .inr (4, [.int 1, .int (nI n), .int (nI J), .ref mA, .ref mC, .ref mT, .int (nI us), .int wr, .int sn, .int (nI si), .int gr, .int (nI gp), .ref mF, .ref mO, .ref mV, .int lf, .int (pjd lf)])), (mA, .inl (cJ, 64, .inr (.inl fM))), (mC, .inl (cI, 64, .inl cM)), (mT, .inl (cJ, 64, .inr (.inl tM))), (mF, .inl (cI, 60, .inl fF)), (mO, .inl (cI, 60, .inl tF)), (mV, .inl (cJ, 60, .inr (.inl vM)))] H := hP
  have hD : va_D A [(oM, .inr (4, [.int 1, .int (nI n), .int (nI J), .ref mA, .ref mC, .ref mT, .int (nI us), .int wr, .int sn, .int (nI si), .int gr, .int (nI gp), .ref mF, .ref mO, .ref mV, .int lf, .int (pjd lf)])), (mA, .inl (cJ, 64, .inr (.inl fM))), (mC, .inl (cI, 64, .inl cM)), (mT, .inl (cJ, 64, .inr (.inl tM))), (mF, .inl (cI, 60, .inl fF)), (mO, .inl (cI, 60, .inl tF)), (mV, .inl (cJ, 60, .inr (.inl vM)))] := hD
  refine lv_aload_n hx hb dM_goes_21 rfl (lv_at hl 0 rfl) ?_
  refine va_get (D := D) (ci := 4) (v := .int 1) (C := "ReplayJournalModel") (T := TM) (N := 17) hx hb hts (pj_ups inM) hown hK hP 0 rfl rfl 0 (by decide) (hts _ (pj_up m_424)) (fun _ h9 => h9) rfl dM_goes_22 ?_
  refine lv_if_ne (tgt := 32) hx hb dM_goes_25 (by decide) (fun _ => ?_) (fun h9 => absurd h9 (by decide))
  refine lv_iconst (v := 0) hx hb dM_goes_32 (by decide) ?_
  exact pj_zret hx hb hr hlocks hP hD hS (rfl) (rfl) (by decide) dM_goes_33
set_option maxHeartbeats 4000000 in
set_option maxRecDepth 100000 in
theorem m_goes_2 (l : Launch) (D : va_G) (cI cJ cZ : ClassId) (oM mA mC mT mF mO mV n J us gp si : Nat) (fM tM vM : Nat → Int64) (cM fF tF : Nat → Int32) (kd wr sn lf gr : Int32) (hn : n ≤ 64) (hJ : J ≤ 60) (hus : us ≤ J) : pj_Met l yM_goes wsM_goes ({ frames := 0, cells := 0, slots := 0, locals := 0 }) D vwCl (pjT cI cJ cZ) pj_no [.ref oM, .int 1, .int 0] [(oM, .inr (4, [.int kd, .int (nI n), .int (nI J), .ref mA, .ref mC, .ref mT, .int (nI us), .int wr, .int sn, .int (nI si), .int gr, .int (nI gp), .ref mF, .ref mO, .ref mV, .int lf, .int (pjd lf)])), (mA, .inl (cJ, 64, .inr (.inl fM))), (mC, .inl (cI, 64, .inl cM)), (mT, .inl (cJ, 64, .inr (.inl tM))), (mF, .inl (cI, 60, .inl fF)), (mO, .inl (cI, 60, .inl tF)), (mV, .inl (cJ, 60, .inr (.inl vM)))] (some (.int 0)) [(oM, .inr (4, [.int 2, .int (nI n), .int (nI J), .ref mA, .ref mC, .ref mT, .int (nI us), .int wr, .int sn, .int (nI si), .int gr, .int (nI gp), .ref mF, .ref mO, .ref mV, .int lf, .int (pjd lf)])), (mA, .inl (cJ, 64, .inr (.inl fM))), (mC, .inl (cI, 64, .inl cM)), (mT, .inl (cJ, 64, .inr (.inl tM))), (mF, .inl (cI, 60, .inl fF)), (mO, .inl (cI, 60, .inl tF)), (mV, .inl (cJ, 60, .inr (.inl vM)))] 0 0 := by
  refine pj_of (by decide) rfl (Nat.le_of_ble_eq_true rfl) ?_
  intro p e s m below meth c A ls hx hb hml hr hts hown hlocks hin hA hK hP hD hS hG hl
  have hl : lv_has ls 3 [(0, .ref oM), (1, .int 1), (2, .int 0)] := hl
  refine lv_aload_n hx hb dM_goes_0 rfl (lv_at hl 0 rfl) ?_
  refine lv_iload_n hx hb dM_goes_1 rfl (lv_at hl 1 rfl) ?_
  refine lv_if_ne (tgt := 9) hx hb dM_goes_2 (by decide) (fun _ => ?_) (fun h9 => absurd h9 (by decide))
  refine lv_iload_n hx hb dM_goes_9 rfl (lv_at hl 2 rfl) ?_
  refine lv_if_ne (tgt := 17) hx hb dM_goes_10 (by decide) (fun h9 => absurd h9 (fun h => h rfl)) (fun _ => ?_)
  refine lv_iconst (v := 2) hx hb dM_goes_13 (by decide) ?_
  refine lv_goto (tgt := 18) hx hb dM_goes_14 (by decide) ?_
  refine va_put (D := D) (ci := 4) (v := .int 2) (ty := .int) (C := "ReplayJournalModel") (T := TM) (N := 17) hx hb hts (pj_ups inM) tyM tyM_ok nmM hown hK hP hD hS 0 rfl rfl 0 (by decide) (hts _ (pj_up m_424)) (fun _ h9 => h9) rfl (by decide +kernel) rfl rfl (Nat.le_of_ble_eq_true rfl) dM_goes_18 (fun H locs hP hD hS => ?_)
  have hP : va_P D vwCl [(oM, .inr (4, [.int 2, .int (nI n), .int (nI J), .ref mA, .ref mC, .ref mT, .int (nI us), .int wr, .int sn, .int (nI si), .int gr, .int (nI gp), .ref mF, .ref mO, .ref mV, .int lf, .int (pjd lf)])), (mA, .inl (cJ, 64, .inr (.inl fM))), (mC, .inl (cI, 64, .inl cM)), (mT, .inl (cJ, 64, .inr (.inl tM))), (mF, .inl (cI, 60, .inl fF)), (mO, .inl (cI, 60, .inl tF)), (mV, .inl (cJ, 60, .inr (.inl vM)))] H := hP
  have hD : va_D A [(oM, .inr (4, [.int 2, .int (nI n), .int (nI J), .ref mA, .ref mC, .ref mT, .int (nI us), .int wr, .int sn, .int (nI si), .int gr, .int (nI gp), .ref mF, .ref mO, .ref mV, .int lf, .int (pjd lf)])), (mA, .inl (cJ, 64, .inr (.inl fM))), (mC, .inl (cI, 64, .inl cM)), (mT, .inl (cJ, 64, .inr (.inl tM))), (mF, .inl (cI, 60, .inl fF)), (mO, .inl (cI, 60, .inl tF)), (mV, .inl (cJ, 60, .inr (.inl vM)))] := hD
  refine lv_aload_n hx hb dM_goes_21 rfl (lv_at hl 0 rfl) ?_
  refine va_get (D := D) (ci := 4) (v := .int 2) (C := "ReplayJournalModel") (T := TM) (N := 17) hx hb hts (pj_ups inM) hown hK hP 0 rfl rfl 0 (by decide) (hts _ (pj_up m_424)) (fun _ h9 => h9) rfl dM_goes_22 ?_
  refine lv_if_ne (tgt := 32) hx hb dM_goes_25 (by decide) (fun _ => ?_) (fun h9 => absurd h9 (by decide))
  refine lv_iconst (v := 0) hx hb dM_goes_32 (by decide) ?_
  exact pj_zret hx hb hr hlocks hP hD hS (rfl) (rfl) (by decide) dM_goes_33
set_option maxHeartbeats 4000000 in
set_option maxRecDepth 100000 in
theorem m_goes_0 (l : Launch) (D : va_G) (cI cJ cZ : ClassId) (oM mA mC mT mF mO mV n J us gp si : Nat) (fM tM vM : Nat → Int64) (cM fF tF : Nat → Int32) (kd wr sn lf gr : Int32) (hn : n ≤ 64) (hJ : J ≤ 60) (hus : us ≤ J) : pj_Met l yM_goes wsM_goes ({ frames := 0, cells := 0, slots := 0, locals := 0 }) D vwCl (pjT cI cJ cZ) pj_no [.ref oM, .int 1, .int 1] [(oM, .inr (4, [.int kd, .int (nI n), .int (nI J), .ref mA, .ref mC, .ref mT, .int (nI us), .int wr, .int sn, .int (nI si), .int gr, .int (nI gp), .ref mF, .ref mO, .ref mV, .int lf, .int (pjd lf)])), (mA, .inl (cJ, 64, .inr (.inl fM))), (mC, .inl (cI, 64, .inl cM)), (mT, .inl (cJ, 64, .inr (.inl tM))), (mF, .inl (cI, 60, .inl fF)), (mO, .inl (cI, 60, .inl tF)), (mV, .inl (cJ, 60, .inr (.inl vM)))] (some (.int 1)) [(oM, .inr (4, [.int 0, .int (nI n), .int (nI J), .ref mA, .ref mC, .ref mT, .int (nI us), .int wr, .int sn, .int (nI si), .int gr, .int (nI gp), .ref mF, .ref mO, .ref mV, .int lf, .int (pjd lf)])), (mA, .inl (cJ, 64, .inr (.inl fM))), (mC, .inl (cI, 64, .inl cM)), (mT, .inl (cJ, 64, .inr (.inl tM))), (mF, .inl (cI, 60, .inl fF)), (mO, .inl (cI, 60, .inl tF)), (mV, .inl (cJ, 60, .inr (.inl vM)))] 0 0 := by
  refine pj_of (by decide) rfl (Nat.le_of_ble_eq_true rfl) ?_
  intro p e s m below meth c A ls hx hb hml hr hts hown hlocks hin hA hK hP hD hS hG hl
  have hl : lv_has ls 3 [(0, .ref oM), (1, .int 1), (2, .int 1)] := hl
  refine lv_aload_n hx hb dM_goes_0 rfl (lv_at hl 0 rfl) ?_
  refine lv_iload_n hx hb dM_goes_1 rfl (lv_at hl 1 rfl) ?_
  refine lv_if_ne (tgt := 9) hx hb dM_goes_2 (by decide) (fun _ => ?_) (fun h9 => absurd h9 (by decide))
  refine lv_iload_n hx hb dM_goes_9 rfl (lv_at hl 2 rfl) ?_
  refine lv_if_ne (tgt := 17) hx hb dM_goes_10 (by decide) (fun _ => ?_) (fun h9 => absurd h9 (by decide))
  refine lv_iconst (v := 0) hx hb dM_goes_17 (by decide) ?_
  refine va_put (D := D) (ci := 4) (v := .int 0) (ty := .int) (C := "ReplayJournalModel") (T := TM) (N := 17) hx hb hts (pj_ups inM) tyM tyM_ok nmM hown hK hP hD hS 0 rfl rfl 0 (by decide) (hts _ (pj_up m_424)) (fun _ h9 => h9) rfl (by decide +kernel) rfl rfl (Nat.le_of_ble_eq_true rfl) dM_goes_18 (fun H locs hP hD hS => ?_)
  have hP : va_P D vwCl [(oM, .inr (4, [.int 0, .int (nI n), .int (nI J), .ref mA, .ref mC, .ref mT, .int (nI us), .int wr, .int sn, .int (nI si), .int gr, .int (nI gp), .ref mF, .ref mO, .ref mV, .int lf, .int (pjd lf)])), (mA, .inl (cJ, 64, .inr (.inl fM))), (mC, .inl (cI, 64, .inl cM)), (mT, .inl (cJ, 64, .inr (.inl tM))), (mF, .inl (cI, 60, .inl fF)), (mO, .inl (cI, 60, .inl tF)), (mV, .inl (cJ, 60, .inr (.inl vM)))] H := hP
  have hD : va_D A [(oM, .inr (4, [.int 0, .int (nI n), .int (nI J), .ref mA, .ref mC, .ref mT, .int (nI us), .int wr, .int sn, .int (nI si), .int gr, .int (nI gp), .ref mF, .ref mO, .ref mV, .int lf, .int (pjd lf)])), (mA, .inl (cJ, 64, .inr (.inl fM))), (mC, .inl (cI, 64, .inl cM)), (mT, .inl (cJ, 64, .inr (.inl tM))), (mF, .inl (cI, 60, .inl fF)), (mO, .inl (cI, 60, .inl tF)), (mV, .inl (cJ, 60, .inr (.inl vM)))] := hD
  refine lv_aload_n hx hb dM_goes_21 rfl (lv_at hl 0 rfl) ?_
  refine va_get (D := D) (ci := 4) (v := .int 0) (C := "ReplayJournalModel") (T := TM) (N := 17) hx hb hts (pj_ups inM) hown hK hP 0 rfl rfl 0 (by decide) (hts _ (pj_up m_424)) (fun _ h9 => h9) rfl dM_goes_22 ?_
  refine lv_if_ne (tgt := 32) hx hb dM_goes_25 (by decide) (fun h9 => absurd h9 (fun h => h rfl)) (fun _ => ?_)
  refine lv_iconst (v := 1) hx hb dM_goes_28 (by decide) ?_
  refine lv_goto (tgt := 33) hx hb dM_goes_29 (by decide) ?_
  exact pj_zret hx hb hr hlocks hP hD hS (rfl) (rfl) (by decide) dM_goes_33
set_option maxHeartbeats 4000000 in
set_option maxRecDepth 100000 in
theorem m_stands_d (l : Launch) (D : va_G) (cI cJ cZ : ClassId) (oM mA mC mT mF mO mV n J us gp si : Nat) (fM tM vM : Nat → Int64) (cM fF tF : Nat → Int32) (kd wr sn lf gr : Int32) (hn : n ≤ 64) (hJ : J ≤ 60) (hus : us ≤ J) (h : lf = 0) (z : Int32) : pj_Met l yM_stands wsM_stands ({ frames := 0, cells := 0, slots := 0, locals := 0 }) D vwCl (pjT cI cJ cZ) pj_no [.ref oM, .int z] [(oM, .inr (4, [.int kd, .int (nI n), .int (nI J), .ref mA, .ref mC, .ref mT, .int (nI us), .int wr, .int sn, .int (nI si), .int gr, .int (nI gp), .ref mF, .ref mO, .ref mV, .int lf, .int (pjd lf)])), (mA, .inl (cJ, 64, .inr (.inl fM))), (mC, .inl (cI, 64, .inl cM)), (mT, .inl (cJ, 64, .inr (.inl tM))), (mF, .inl (cI, 60, .inl fF)), (mO, .inl (cI, 60, .inl tF)), (mV, .inl (cJ, 60, .inr (.inl vM)))] (some (.int 0)) [(oM, .inr (4, [.int 1, .int (nI n), .int (nI J), .ref mA, .ref mC, .ref mT, .int (nI us), .int wr, .int sn, .int (nI si), .int gr, .int (nI gp), .ref mF, .ref mO, .ref mV, .int lf, .int (pjd lf)])), (mA, .inl (cJ, 64, .inr (.inl fM))), (mC, .inl (cI, 64, .inl cM)), (mT, .inl (cJ, 64, .inr (.inl tM))), (mF, .inl (cI, 60, .inl fF)), (mO, .inl (cI, 60, .inl tF)), (mV, .inl (cJ, 60, .inr (.inl vM)))] 0 0 := by
  refine pj_of (by decide) rfl (Nat.le_of_ble_eq_true rfl) ?_
  intro p e s m below meth c A ls hx hb hml hr hts hown hlocks hin hA hK hP hD hS hG hl
  have hl : lv_has ls 2 [(0, .ref oM), (1, .int z)] := hl
  refine lv_aload_n hx hb dM_stands_0 rfl (lv_at hl 0 rfl) ?_
  refine lv_aload_n hx hb dM_stands_1 rfl (lv_at hl 0 rfl) ?_
  refine va_get (D := D) (ci := 4) (v := .int (pjd lf)) (C := "ReplayJournalModel") (T := TM) (N := 17) hx hb hts (pj_ups inM) hown hK hP 0 rfl rfl 16 (by decide) (hts _ (pj_up m_440)) (fun _ h9 => h9) rfl dM_stands_2 ?_
  refine lv_if_ne (tgt := 12) hx hb dM_stands_5 (by decide) (fun _ => ?_) (fun h9 => absurd h9 (by rw [pjd_1 h]; decide))
  refine lv_iconst (v := 1) hx hb dM_stands_12 (by decide) ?_
  refine lv_goto (tgt := 17) hx hb dM_stands_13 (by decide) ?_
  refine va_put (D := D) (ci := 4) (v := .int 1) (ty := .int) (C := "ReplayJournalModel") (T := TM) (N := 17) hx hb hts (pj_ups inM) tyM tyM_ok nmM hown hK hP hD hS 0 rfl rfl 0 (by decide) (hts _ (pj_up m_424)) (fun _ h9 => h9) rfl (by decide +kernel) rfl rfl (Nat.le_of_ble_eq_true rfl) dM_stands_17 (fun H locs hP hD hS => ?_)
  have hP : va_P D vwCl [(oM, .inr (4, [.int 1, .int (nI n), .int (nI J), .ref mA, .ref mC, .ref mT, .int (nI us), .int wr, .int sn, .int (nI si), .int gr, .int (nI gp), .ref mF, .ref mO, .ref mV, .int lf, .int (pjd lf)])), (mA, .inl (cJ, 64, .inr (.inl fM))), (mC, .inl (cI, 64, .inl cM)), (mT, .inl (cJ, 64, .inr (.inl tM))), (mF, .inl (cI, 60, .inl fF)), (mO, .inl (cI, 60, .inl tF)), (mV, .inl (cJ, 60, .inr (.inl vM)))] H := hP
  have hD : va_D A [(oM, .inr (4, [.int 1, .int (nI n), .int (nI J), .ref mA, .ref mC, .ref mT, .int (nI us), .int wr, .int sn, .int (nI si), .int gr, .int (nI gp), .ref mF, .ref mO, .ref mV, .int lf, .int (pjd lf)])), (mA, .inl (cJ, 64, .inr (.inl fM))), (mC, .inl (cI, 64, .inl cM)), (mT, .inl (cJ, 64, .inr (.inl tM))), (mF, .inl (cI, 60, .inl fF)), (mO, .inl (cI, 60, .inl tF)), (mV, .inl (cJ, 60, .inr (.inl vM)))] := hD
  refine lv_aload_n hx hb dM_stands_20 rfl (lv_at hl 0 rfl) ?_
  refine va_get (D := D) (ci := 4) (v := .int 1) (C := "ReplayJournalModel") (T := TM) (N := 17) hx hb hts (pj_ups inM) hown hK hP 0 rfl rfl 0 (by decide) (hts _ (pj_up m_424)) (fun _ h9 => h9) rfl dM_stands_21 ?_
  refine lv_if_ne (tgt := 31) hx hb dM_stands_24 (by decide) (fun _ => ?_) (fun h9 => absurd h9 (by decide))
  refine lv_iconst (v := 0) hx hb dM_stands_31 (by decide) ?_
  exact pj_zret hx hb hr hlocks hP hD hS (rfl) (rfl) (by decide) dM_stands_32
set_option maxHeartbeats 4000000 in
set_option maxRecDepth 100000 in
theorem m_stands_n (l : Launch) (D : va_G) (cI cJ cZ : ClassId) (oM mA mC mT mF mO mV n J us gp si : Nat) (fM tM vM : Nat → Int64) (cM fF tF : Nat → Int32) (kd wr sn lf gr : Int32) (hn : n ≤ 64) (hJ : J ≤ 60) (hus : us ≤ J) (h : ¬ lf = 0) : pj_Met l yM_stands wsM_stands ({ frames := 0, cells := 0, slots := 0, locals := 0 }) D vwCl (pjT cI cJ cZ) pj_no [.ref oM, .int 0] [(oM, .inr (4, [.int kd, .int (nI n), .int (nI J), .ref mA, .ref mC, .ref mT, .int (nI us), .int wr, .int sn, .int (nI si), .int gr, .int (nI gp), .ref mF, .ref mO, .ref mV, .int lf, .int (pjd lf)])), (mA, .inl (cJ, 64, .inr (.inl fM))), (mC, .inl (cI, 64, .inl cM)), (mT, .inl (cJ, 64, .inr (.inl tM))), (mF, .inl (cI, 60, .inl fF)), (mO, .inl (cI, 60, .inl tF)), (mV, .inl (cJ, 60, .inr (.inl vM)))] (some (.int 0)) [(oM, .inr (4, [.int 1, .int (nI n), .int (nI J), .ref mA, .ref mC, .ref mT, .int (nI us), .int wr, .int sn, .int (nI si), .int gr, .int (nI gp), .ref mF, .ref mO, .ref mV, .int lf, .int (pjd lf)])), (mA, .inl (cJ, 64, .inr (.inl fM))), (mC, .inl (cI, 64, .inl cM)), (mT, .inl (cJ, 64, .inr (.inl tM))), (mF, .inl (cI, 60, .inl fF)), (mO, .inl (cI, 60, .inl tF)), (mV, .inl (cJ, 60, .inr (.inl vM)))] 0 0 := by
  refine pj_of (by decide) rfl (Nat.le_of_ble_eq_true rfl) ?_
  intro p e s m below meth c A ls hx hb hml hr hts hown hlocks hin hA hK hP hD hS hG hl
  have hl : lv_has ls 2 [(0, .ref oM), (1, .int 0)] := hl
  refine lv_aload_n hx hb dM_stands_0 rfl (lv_at hl 0 rfl) ?_
  refine lv_aload_n hx hb dM_stands_1 rfl (lv_at hl 0 rfl) ?_
  refine va_get (D := D) (ci := 4) (v := .int (pjd lf)) (C := "ReplayJournalModel") (T := TM) (N := 17) hx hb hts (pj_ups inM) hown hK hP 0 rfl rfl 16 (by decide) (hts _ (pj_up m_440)) (fun _ h9 => h9) rfl dM_stands_2 ?_
  refine lv_if_ne (tgt := 12) hx hb dM_stands_5 (by decide) (fun h9 => absurd h9 (fun z => z (pjd_0 h))) (fun _ => ?_)
  refine lv_iload_n hx hb dM_stands_8 rfl (lv_at hl 1 rfl) ?_
  refine lv_if_ne (tgt := 16) hx hb dM_stands_9 (by decide) (fun h9 => absurd h9 (fun h => h rfl)) (fun _ => ?_)
  refine lv_iconst (v := 1) hx hb dM_stands_12 (by decide) ?_
  refine lv_goto (tgt := 17) hx hb dM_stands_13 (by decide) ?_
  refine va_put (D := D) (ci := 4) (v := .int 1) (ty := .int) (C := "ReplayJournalModel") (T := TM) (N := 17) hx hb hts (pj_ups inM) tyM tyM_ok nmM hown hK hP hD hS 0 rfl rfl 0 (by decide) (hts _ (pj_up m_424)) (fun _ h9 => h9) rfl (by decide +kernel) rfl rfl (Nat.le_of_ble_eq_true rfl) dM_stands_17 (fun H locs hP hD hS => ?_)
  have hP : va_P D vwCl [(oM, .inr (4, [.int 1, .int (nI n), .int (nI J), .ref mA, .ref mC, .ref mT, .int (nI us), .int wr, .int sn, .int (nI si), .int gr, .int (nI gp), .ref mF, .ref mO, .ref mV, .int lf, .int (pjd lf)])), (mA, .inl (cJ, 64, .inr (.inl fM))), (mC, .inl (cI, 64, .inl cM)), (mT, .inl (cJ, 64, .inr (.inl tM))), (mF, .inl (cI, 60, .inl fF)), (mO, .inl (cI, 60, .inl tF)), (mV, .inl (cJ, 60, .inr (.inl vM)))] H := hP
  have hD : va_D A [(oM, .inr (4, [.int 1, .int (nI n), .int (nI J), .ref mA, .ref mC, .ref mT, .int (nI us), .int wr, .int sn, .int (nI si), .int gr, .int (nI gp), .ref mF, .ref mO, .ref mV, .int lf, .int (pjd lf)])), (mA, .inl (cJ, 64, .inr (.inl fM))), (mC, .inl (cI, 64, .inl cM)), (mT, .inl (cJ, 64, .inr (.inl tM))), (mF, .inl (cI, 60, .inl fF)), (mO, .inl (cI, 60, .inl tF)), (mV, .inl (cJ, 60, .inr (.inl vM)))] := hD
  refine lv_aload_n hx hb dM_stands_20 rfl (lv_at hl 0 rfl) ?_
  refine va_get (D := D) (ci := 4) (v := .int 1) (C := "ReplayJournalModel") (T := TM) (N := 17) hx hb hts (pj_ups inM) hown hK hP 0 rfl rfl 0 (by decide) (hts _ (pj_up m_424)) (fun _ h9 => h9) rfl dM_stands_21 ?_
  refine lv_if_ne (tgt := 31) hx hb dM_stands_24 (by decide) (fun _ => ?_) (fun h9 => absurd h9 (by decide))
  refine lv_iconst (v := 0) hx hb dM_stands_31 (by decide) ?_
  exact pj_zret hx hb hr hlocks hP hD hS (rfl) (rfl) (by decide) dM_stands_32
set_option maxHeartbeats 4000000 in
set_option maxRecDepth 100000 in
theorem m_stands_y (l : Launch) (D : va_G) (cI cJ cZ : ClassId) (oM mA mC mT mF mO mV n J us gp si : Nat) (fM tM vM : Nat → Int64) (cM fF tF : Nat → Int32) (kd wr sn lf gr : Int32) (hn : n ≤ 64) (hJ : J ≤ 60) (hus : us ≤ J) (h : ¬ lf = 0) : pj_Met l yM_stands wsM_stands ({ frames := 0, cells := 0, slots := 0, locals := 0 }) D vwCl (pjT cI cJ cZ) pj_no [.ref oM, .int 1] [(oM, .inr (4, [.int kd, .int (nI n), .int (nI J), .ref mA, .ref mC, .ref mT, .int (nI us), .int wr, .int sn, .int (nI si), .int gr, .int (nI gp), .ref mF, .ref mO, .ref mV, .int lf, .int (pjd lf)])), (mA, .inl (cJ, 64, .inr (.inl fM))), (mC, .inl (cI, 64, .inl cM)), (mT, .inl (cJ, 64, .inr (.inl tM))), (mF, .inl (cI, 60, .inl fF)), (mO, .inl (cI, 60, .inl tF)), (mV, .inl (cJ, 60, .inr (.inl vM)))] (some (.int 1)) [(oM, .inr (4, [.int 0, .int (nI n), .int (nI J), .ref mA, .ref mC, .ref mT, .int (nI us), .int wr, .int sn, .int (nI si), .int gr, .int (nI gp), .ref mF, .ref mO, .ref mV, .int lf, .int (pjd lf)])), (mA, .inl (cJ, 64, .inr (.inl fM))), (mC, .inl (cI, 64, .inl cM)), (mT, .inl (cJ, 64, .inr (.inl tM))), (mF, .inl (cI, 60, .inl fF)), (mO, .inl (cI, 60, .inl tF)), (mV, .inl (cJ, 60, .inr (.inl vM)))] 0 0 := by
  refine pj_of (by decide) rfl (Nat.le_of_ble_eq_true rfl) ?_
  intro p e s m below meth c A ls hx hb hml hr hts hown hlocks hin hA hK hP hD hS hG hl
  have hl : lv_has ls 2 [(0, .ref oM), (1, .int 1)] := hl
  refine lv_aload_n hx hb dM_stands_0 rfl (lv_at hl 0 rfl) ?_
  refine lv_aload_n hx hb dM_stands_1 rfl (lv_at hl 0 rfl) ?_
  refine va_get (D := D) (ci := 4) (v := .int (pjd lf)) (C := "ReplayJournalModel") (T := TM) (N := 17) hx hb hts (pj_ups inM) hown hK hP 0 rfl rfl 16 (by decide) (hts _ (pj_up m_440)) (fun _ h9 => h9) rfl dM_stands_2 ?_
  refine lv_if_ne (tgt := 12) hx hb dM_stands_5 (by decide) (fun h9 => absurd h9 (fun z => z (pjd_0 h))) (fun _ => ?_)
  refine lv_iload_n hx hb dM_stands_8 rfl (lv_at hl 1 rfl) ?_
  refine lv_if_ne (tgt := 16) hx hb dM_stands_9 (by decide) (fun _ => ?_) (fun h9 => absurd h9 (by decide))
  refine lv_iconst (v := 0) hx hb dM_stands_16 (by decide) ?_
  refine va_put (D := D) (ci := 4) (v := .int 0) (ty := .int) (C := "ReplayJournalModel") (T := TM) (N := 17) hx hb hts (pj_ups inM) tyM tyM_ok nmM hown hK hP hD hS 0 rfl rfl 0 (by decide) (hts _ (pj_up m_424)) (fun _ h9 => h9) rfl (by decide +kernel) rfl rfl (Nat.le_of_ble_eq_true rfl) dM_stands_17 (fun H locs hP hD hS => ?_)
  have hP : va_P D vwCl [(oM, .inr (4, [.int 0, .int (nI n), .int (nI J), .ref mA, .ref mC, .ref mT, .int (nI us), .int wr, .int sn, .int (nI si), .int gr, .int (nI gp), .ref mF, .ref mO, .ref mV, .int lf, .int (pjd lf)])), (mA, .inl (cJ, 64, .inr (.inl fM))), (mC, .inl (cI, 64, .inl cM)), (mT, .inl (cJ, 64, .inr (.inl tM))), (mF, .inl (cI, 60, .inl fF)), (mO, .inl (cI, 60, .inl tF)), (mV, .inl (cJ, 60, .inr (.inl vM)))] H := hP
  have hD : va_D A [(oM, .inr (4, [.int 0, .int (nI n), .int (nI J), .ref mA, .ref mC, .ref mT, .int (nI us), .int wr, .int sn, .int (nI si), .int gr, .int (nI gp), .ref mF, .ref mO, .ref mV, .int lf, .int (pjd lf)])), (mA, .inl (cJ, 64, .inr (.inl fM))), (mC, .inl (cI, 64, .inl cM)), (mT, .inl (cJ, 64, .inr (.inl tM))), (mF, .inl (cI, 60, .inl fF)), (mO, .inl (cI, 60, .inl tF)), (mV, .inl (cJ, 60, .inr (.inl vM)))] := hD
  refine lv_aload_n hx hb dM_stands_20 rfl (lv_at hl 0 rfl) ?_
  refine va_get (D := D) (ci := 4) (v := .int 0) (C := "ReplayJournalModel") (T := TM) (N := 17) hx hb hts (pj_ups inM) hown hK hP 0 rfl rfl 0 (by decide) (hts _ (pj_up m_424)) (fun _ h9 => h9) rfl dM_stands_21 ?_
  refine lv_if_ne (tgt := 31) hx hb dM_stands_24 (by decide) (fun h9 => absurd h9 (fun h => h rfl)) (fun _ => ?_)
  refine lv_iconst (v := 1) hx hb dM_stands_27 (by decide) ?_
  refine lv_goto (tgt := 32) hx hb dM_stands_28 (by decide) ?_
  exact pj_zret hx hb hr hlocks hP hD hS (rfl) (rfl) (by decide) dM_stands_32
set_option maxHeartbeats 4000000 in
set_option maxRecDepth 100000 in
theorem m_isa (l : Launch) (D : va_G) (cI cJ cZ : ClassId) (oM mA mC mT mF mO mV n J us gp si : Nat) (fM tM vM : Nat → Int64) (cM fF tF : Nat → Int32) (kd wr sn lf gr : Int32) (hn : n ≤ 64) (hJ : J ≤ 60) (hus : us ≤ J) (x : Int32) : pp_Met l yM_isAccount wsM_isAccount ({ frames := 0, cells := 0, slots := 0, locals := 0 }) D vwCl (pjT cI cJ cZ) pj_no [.ref oM, .int x] [(oM, .inr (4, [.int kd, .int (nI n), .int (nI J), .ref mA, .ref mC, .ref mT, .int (nI us), .int wr, .int sn, .int (nI si), .int gr, .int (nI gp), .ref mF, .ref mO, .ref mV, .int lf, .int (pjd lf)])), (mA, .inl (cJ, 64, .inr (.inl fM))), (mC, .inl (cI, 64, .inl cM)), (mT, .inl (cJ, 64, .inr (.inl tM))), (mF, .inl (cI, 60, .inl fF)), (mO, .inl (cI, 60, .inl tF)), (mV, .inl (cJ, 60, .inr (.inl vM)))] (some (.int (if pjH n x then 1 else 0))) := by
  refine pp_of (by decide) rfl (Nat.le_of_ble_eq_true rfl) ?_
  intro p e s m below meth c A ls hx hb hml hr hts hown hlocks hA hK hP hD hS hG hl
  have hl : lv_has ls 2 [(0, .ref oM), (1, .int x)] := hl
  refine lv_iload_n hx hb dM_isAccount_0 rfl (lv_at hl 1 rfl) ?_
  refine lv_if_lt (tgt := 16) hx hb dM_isAccount_1 (by decide) (fun c1 => ?_) (fun c1 => ?_)
  · refine lv_iconst (v := 0) hx hb dM_isAccount_16 (by decide) ?_
    exact pp_zret hx hb hr hlocks ((if_neg (fun h => h.1 c1)).symm) (by split <;> decide) dM_isAccount_17
  · refine lv_iload_n hx hb dM_isAccount_4 rfl (lv_at hl 1 rfl) ?_
    refine lv_aload_n hx hb dM_isAccount_5 rfl (lv_at hl 0 rfl) ?_
    refine va_get (D := D) (ci := 4) (v := .int (nI n)) (C := "ReplayJournalModel") (T := TM) (N := 17) hx hb hts (pj_ups inM) hown hK hP 0 rfl rfl 1 (by decide) (hts _ (pj_up m_425)) (fun _ h9 => h9) rfl dM_isAccount_6 ?_
    refine lv_icmp_ge (tgt := 16) hx hb dM_isAccount_9 (by decide) (fun c2 => ?_) (fun c2 => ?_)
    · refine lv_iconst (v := 0) hx hb dM_isAccount_16 (by decide) ?_
      exact pp_zret hx hb hr hlocks ((if_neg (fun h => h.2 c2)).symm) (by split <;> decide) dM_isAccount_17
    · refine lv_iconst (v := 1) hx hb dM_isAccount_12 (by decide) ?_
      refine lv_goto (tgt := 17) hx hb dM_isAccount_13 (by decide) ?_
      exact pp_zret hx hb hr hlocks ((if_pos ⟨c1, c2⟩).symm) (by split <;> decide) dM_isAccount_17
theorem m_isa_t (l : Launch) (D : va_G) (cI cJ cZ : ClassId) (oM mA mC mT mF mO mV n J us gp si : Nat) (fM tM vM : Nat → Int64) (cM fF tF : Nat → Int32) (kd wr sn lf gr : Int32) (hn : n ≤ 64) (hJ : J ≤ 60) (hus : us ≤ J) (x : Int32) (h : pjH n x) : pp_Met l yM_isAccount wsM_isAccount ({ frames := 0, cells := 0, slots := 0, locals := 0 }) D vwCl (pjT cI cJ cZ) pj_no [.ref oM, .int x] [(oM, .inr (4, [.int kd, .int (nI n), .int (nI J), .ref mA, .ref mC, .ref mT, .int (nI us), .int wr, .int sn, .int (nI si), .int gr, .int (nI gp), .ref mF, .ref mO, .ref mV, .int lf, .int (pjd lf)])), (mA, .inl (cJ, 64, .inr (.inl fM))), (mC, .inl (cI, 64, .inl cM)), (mT, .inl (cJ, 64, .inr (.inl tM))), (mF, .inl (cI, 60, .inl fF)), (mO, .inl (cI, 60, .inl tF)), (mV, .inl (cJ, 60, .inr (.inl vM)))] (some (.int 1)) := by
  have h1 := m_isa l D cI cJ cZ oM mA mC mT mF mO mV n J us gp si fM tM vM cM fF tF kd wr sn lf gr hn hJ hus x
  rw [if_pos h] at h1
  exact h1
theorem m_isa_f (l : Launch) (D : va_G) (cI cJ cZ : ClassId) (oM mA mC mT mF mO mV n J us gp si : Nat) (fM tM vM : Nat → Int64) (cM fF tF : Nat → Int32) (kd wr sn lf gr : Int32) (hn : n ≤ 64) (hJ : J ≤ 60) (hus : us ≤ J) (x : Int32) (h : ¬ pjH n x) : pp_Met l yM_isAccount wsM_isAccount ({ frames := 0, cells := 0, slots := 0, locals := 0 }) D vwCl (pjT cI cJ cZ) pj_no [.ref oM, .int x] [(oM, .inr (4, [.int kd, .int (nI n), .int (nI J), .ref mA, .ref mC, .ref mT, .int (nI us), .int wr, .int sn, .int (nI si), .int gr, .int (nI gp), .ref mF, .ref mO, .ref mV, .int lf, .int (pjd lf)])), (mA, .inl (cJ, 64, .inr (.inl fM))), (mC, .inl (cI, 64, .inl cM)), (mT, .inl (cJ, 64, .inr (.inl tM))), (mF, .inl (cI, 60, .inl fF)), (mO, .inl (cI, 60, .inl tF)), (mV, .inl (cJ, 60, .inr (.inl vM)))] (some (.int 0)) := by
  have h1 := m_isa l D cI cJ cZ oM mA mC mT mF mO mV n J us gp si fM tM vM cM fF tF kd wr sn lf gr hn hJ hus x
  rw [if_neg h] at h1
  exact h1
set_option maxHeartbeats 4000000 in
set_option maxRecDepth 100000 in
theorem m_spend (l : Launch) (D : va_G) (cI cJ cZ : ClassId) (oM mA mC mT mF mO mV n J us gp si : Nat) (fM tM vM : Nat → Int64) (cM fF tF : Nat → Int32) (kd wr sn lf gr : Int32) (hn : n ≤ 64) (hJ : J ≤ 60) (hus : us ≤ J) : pj_Met l yM_spend wsM_spend ({ frames := 0, cells := 0, slots := 0, locals := 0 }) D vwCl (pjT cI cJ cZ) pj_no [.ref oM] [(oM, .inr (4, [.int kd, .int (nI n), .int (nI J), .ref mA, .ref mC, .ref mT, .int (nI us), .int wr, .int sn, .int (nI si), .int gr, .int (nI gp), .ref mF, .ref mO, .ref mV, .int lf, .int (pjd lf)])), (mA, .inl (cJ, 64, .inr (.inl fM))), (mC, .inl (cI, 64, .inl cM)), (mT, .inl (cJ, 64, .inr (.inl tM))), (mF, .inl (cI, 60, .inl fF)), (mO, .inl (cI, 60, .inl tF)), (mV, .inl (cJ, 60, .inr (.inl vM)))] none [(oM, .inr (4, [.int kd, .int (nI n), .int (nI J), .ref mA, .ref mC, .ref mT, .int (nI us), .int (wr + 1), .int sn, .int (nI si), .int gr, .int (nI gp), .ref mF, .ref mO, .ref mV, .int (pjL lf), .int (pjd (pjL lf))])), (mA, .inl (cJ, 64, .inr (.inl fM))), (mC, .inl (cI, 64, .inl cM)), (mT, .inl (cJ, 64, .inr (.inl tM))), (mF, .inl (cI, 60, .inl fF)), (mO, .inl (cI, 60, .inl tF)), (mV, .inl (cJ, 60, .inr (.inl vM)))] 0 0 := by
  refine pj_of (by decide) rfl (Nat.le_of_ble_eq_true rfl) ?_
  intro p e s m below meth c A ls hx hb hml hr hts hown hlocks hin hA hK hP hD hS hG hl
  have hl : lv_has ls 1 [(0, .ref oM)] := hl
  by_cases h1 : 0 < lf
  · refine lv_aload_n hx hb dM_spend_0 rfl (lv_at hl 0 rfl) ?_
    refine lv_dup hx hb dM_spend_1 rfl ?_
    refine va_get (D := D) (ci := 4) (v := .int wr) (C := "ReplayJournalModel") (T := TM) (N := 17) hx hb hts (pj_ups inM) hown hK hP 0 rfl rfl 7 (by decide) (hts _ (pj_up m_431)) (fun _ h9 => h9) rfl dM_spend_2 ?_
    refine lv_iconst (v := 1) hx hb dM_spend_5 (by decide) ?_
    refine lv_iadd hx hb dM_spend_6 ?_
    refine va_put (D := D) (ci := 4) (v := .int (wr + 1)) (ty := .int) (C := "ReplayJournalModel") (T := TM) (N := 17) hx hb hts (pj_ups inM) tyM tyM_ok nmM hown hK hP hD hS 0 rfl rfl 7 (by decide) (hts _ (pj_up m_431)) (fun _ h9 => h9) rfl (by decide +kernel) rfl rfl (Nat.le_of_ble_eq_true rfl) dM_spend_7 (fun H locs hP hD hS => ?_)
    have hP : va_P D vwCl [(oM, .inr (4, [.int kd, .int (nI n), .int (nI J), .ref mA, .ref mC, .ref mT, .int (nI us), .int (wr + 1), .int sn, .int (nI si), .int gr, .int (nI gp), .ref mF, .ref mO, .ref mV, .int lf, .int (pjd lf)])), (mA, .inl (cJ, 64, .inr (.inl fM))), (mC, .inl (cI, 64, .inl cM)), (mT, .inl (cJ, 64, .inr (.inl tM))), (mF, .inl (cI, 60, .inl fF)), (mO, .inl (cI, 60, .inl tF)), (mV, .inl (cJ, 60, .inr (.inl vM)))] H := hP
    have hD : va_D A [(oM, .inr (4, [.int kd, .int (nI n), .int (nI J), .ref mA, .ref mC, .ref mT, .int (nI us), .int (wr + 1), .int sn, .int (nI si), .int gr, .int (nI gp), .ref mF, .ref mO, .ref mV, .int lf, .int (pjd lf)])), (mA, .inl (cJ, 64, .inr (.inl fM))), (mC, .inl (cI, 64, .inl cM)), (mT, .inl (cJ, 64, .inr (.inl tM))), (mF, .inl (cI, 60, .inl fF)), (mO, .inl (cI, 60, .inl tF)), (mV, .inl (cJ, 60, .inr (.inl vM)))] := hD
    refine lv_aload_n hx hb dM_spend_10 rfl (lv_at hl 0 rfl) ?_
    refine lv_dup hx hb dM_spend_11 rfl ?_
    refine va_get (D := D) (ci := 4) (v := .int lf) (C := "ReplayJournalModel") (T := TM) (N := 17) hx hb hts (pj_ups inM) hown hK hP 0 rfl rfl 15 (by decide) (hts _ (pj_up m_439)) (fun _ h9 => h9) rfl dM_spend_12 ?_
    refine lv_aload_n hx hb dM_spend_15 rfl (lv_at hl 0 rfl) ?_
    refine va_get (D := D) (ci := 4) (v := .int lf) (C := "ReplayJournalModel") (T := TM) (N := 17) hx hb hts (pj_ups inM) hown hK hP 0 rfl rfl 15 (by decide) (hts _ (pj_up m_439)) (fun _ h9 => h9) rfl dM_spend_16 ?_
    refine lv_if_le (tgt := 26) hx hb dM_spend_19 (by decide) (fun h9 => absurd h9 (Int32.not_le.mpr h1)) (fun _ => ?_)
    refine lv_iconst (v := 1) hx hb dM_spend_22 (by decide) ?_
    refine lv_goto (tgt := 27) hx hb dM_spend_23 (by decide) ?_
    refine lv_isub hx hb dM_spend_27 ?_
    refine va_put (D := D) (ci := 4) (v := .int (lf - 1)) (ty := .int) (C := "ReplayJournalModel") (T := TM) (N := 17) hx hb hts (pj_ups inM) tyM tyM_ok nmM hown hK hP hD hS 0 rfl rfl 15 (by decide) (hts _ (pj_up m_439)) (fun _ h9 => h9) rfl (by decide +kernel) rfl rfl (Nat.le_of_ble_eq_true rfl) dM_spend_28 (fun H locs hP hD hS => ?_)
    have hP : va_P D vwCl [(oM, .inr (4, [.int kd, .int (nI n), .int (nI J), .ref mA, .ref mC, .ref mT, .int (nI us), .int (wr + 1), .int sn, .int (nI si), .int gr, .int (nI gp), .ref mF, .ref mO, .ref mV, .int (lf - 1), .int (pjd lf)])), (mA, .inl (cJ, 64, .inr (.inl fM))), (mC, .inl (cI, 64, .inl cM)), (mT, .inl (cJ, 64, .inr (.inl tM))), (mF, .inl (cI, 60, .inl fF)), (mO, .inl (cI, 60, .inl tF)), (mV, .inl (cJ, 60, .inr (.inl vM)))] H := hP
    have hD : va_D A [(oM, .inr (4, [.int kd, .int (nI n), .int (nI J), .ref mA, .ref mC, .ref mT, .int (nI us), .int (wr + 1), .int sn, .int (nI si), .int gr, .int (nI gp), .ref mF, .ref mO, .ref mV, .int (lf - 1), .int (pjd lf)])), (mA, .inl (cJ, 64, .inr (.inl fM))), (mC, .inl (cI, 64, .inl cM)), (mT, .inl (cJ, 64, .inr (.inl tM))), (mF, .inl (cI, 60, .inl fF)), (mO, .inl (cI, 60, .inl tF)), (mV, .inl (cJ, 60, .inr (.inl vM)))] := hD
    refine lv_aload_n hx hb dM_spend_31 rfl (lv_at hl 0 rfl) ?_
    refine lv_aload_n hx hb dM_spend_32 rfl (lv_at hl 0 rfl) ?_
    refine va_get (D := D) (ci := 4) (v := .int (lf - 1)) (C := "ReplayJournalModel") (T := TM) (N := 17) hx hb hts (pj_ups inM) hown hK hP 0 rfl rfl 15 (by decide) (hts _ (pj_up m_439)) (fun _ h9 => h9) rfl dM_spend_33 ?_
    refine lv_if_ne (tgt := 43) hx hb dM_spend_36 (by decide) (fun c2 => ?_) (fun c2 => ?_)
    · refine lv_iconst (v := 0) hx hb dM_spend_43 (by decide) ?_
      refine va_put (D := D) (ci := 4) (v := .int 0) (ty := .boolean) (C := "ReplayJournalModel") (T := TM) (N := 17) hx hb hts (pj_ups inM) tyM tyM_ok nmM hown hK hP hD hS 0 rfl rfl 16 (by decide) (hts _ (pj_up m_440)) (fun _ h9 => h9) rfl (by decide +kernel) rfl rfl (Nat.le_of_ble_eq_true rfl) dM_spend_44 (fun H locs hP hD hS => ?_)
      have hP : va_P D vwCl [(oM, .inr (4, [.int kd, .int (nI n), .int (nI J), .ref mA, .ref mC, .ref mT, .int (nI us), .int (wr + 1), .int sn, .int (nI si), .int gr, .int (nI gp), .ref mF, .ref mO, .ref mV, .int (lf - 1), .int 0])), (mA, .inl (cJ, 64, .inr (.inl fM))), (mC, .inl (cI, 64, .inl cM)), (mT, .inl (cJ, 64, .inr (.inl tM))), (mF, .inl (cI, 60, .inl fF)), (mO, .inl (cI, 60, .inl tF)), (mV, .inl (cJ, 60, .inr (.inl vM)))] H := hP
      have hD : va_D A [(oM, .inr (4, [.int kd, .int (nI n), .int (nI J), .ref mA, .ref mC, .ref mT, .int (nI us), .int (wr + 1), .int sn, .int (nI si), .int gr, .int (nI gp), .ref mF, .ref mO, .ref mV, .int (lf - 1), .int 0])), (mA, .inl (cJ, 64, .inr (.inl fM))), (mC, .inl (cI, 64, .inl cM)), (mT, .inl (cJ, 64, .inr (.inl tM))), (mF, .inl (cI, 60, .inl fF)), (mO, .inl (cI, 60, .inl tF)), (mV, .inl (cJ, 60, .inr (.inl vM)))] := hD
      exact pj_vret hx hb hr hlocks hP hD hS (by rw [show pjL lf = lf - 1 from if_pos h1, pjd_0 c2]) dM_spend_47
    · refine lv_iconst (v := 1) hx hb dM_spend_39 (by decide) ?_
      refine lv_goto (tgt := 44) hx hb dM_spend_40 (by decide) ?_
      refine va_put (D := D) (ci := 4) (v := .int 1) (ty := .boolean) (C := "ReplayJournalModel") (T := TM) (N := 17) hx hb hts (pj_ups inM) tyM tyM_ok nmM hown hK hP hD hS 0 rfl rfl 16 (by decide) (hts _ (pj_up m_440)) (fun _ h9 => h9) rfl (by decide +kernel) rfl rfl (Nat.le_of_ble_eq_true rfl) dM_spend_44 (fun H locs hP hD hS => ?_)
      have hP : va_P D vwCl [(oM, .inr (4, [.int kd, .int (nI n), .int (nI J), .ref mA, .ref mC, .ref mT, .int (nI us), .int (wr + 1), .int sn, .int (nI si), .int gr, .int (nI gp), .ref mF, .ref mO, .ref mV, .int (lf - 1), .int 1])), (mA, .inl (cJ, 64, .inr (.inl fM))), (mC, .inl (cI, 64, .inl cM)), (mT, .inl (cJ, 64, .inr (.inl tM))), (mF, .inl (cI, 60, .inl fF)), (mO, .inl (cI, 60, .inl tF)), (mV, .inl (cJ, 60, .inr (.inl vM)))] H := hP
      have hD : va_D A [(oM, .inr (4, [.int kd, .int (nI n), .int (nI J), .ref mA, .ref mC, .ref mT, .int (nI us), .int (wr + 1), .int sn, .int (nI si), .int gr, .int (nI gp), .ref mF, .ref mO, .ref mV, .int (lf - 1), .int 1])), (mA, .inl (cJ, 64, .inr (.inl fM))), (mC, .inl (cI, 64, .inl cM)), (mT, .inl (cJ, 64, .inr (.inl tM))), (mF, .inl (cI, 60, .inl fF)), (mO, .inl (cI, 60, .inl tF)), (mV, .inl (cJ, 60, .inr (.inl vM)))] := hD
      exact pj_vret hx hb hr hlocks hP hD hS (by rw [show pjL lf = lf - 1 from if_pos h1, pjd_1 c2]) dM_spend_47
  · refine lv_aload_n hx hb dM_spend_0 rfl (lv_at hl 0 rfl) ?_
    refine lv_dup hx hb dM_spend_1 rfl ?_
    refine va_get (D := D) (ci := 4) (v := .int wr) (C := "ReplayJournalModel") (T := TM) (N := 17) hx hb hts (pj_ups inM) hown hK hP 0 rfl rfl 7 (by decide) (hts _ (pj_up m_431)) (fun _ h9 => h9) rfl dM_spend_2 ?_
    refine lv_iconst (v := 1) hx hb dM_spend_5 (by decide) ?_
    refine lv_iadd hx hb dM_spend_6 ?_
    refine va_put (D := D) (ci := 4) (v := .int (wr + 1)) (ty := .int) (C := "ReplayJournalModel") (T := TM) (N := 17) hx hb hts (pj_ups inM) tyM tyM_ok nmM hown hK hP hD hS 0 rfl rfl 7 (by decide) (hts _ (pj_up m_431)) (fun _ h9 => h9) rfl (by decide +kernel) rfl rfl (Nat.le_of_ble_eq_true rfl) dM_spend_7 (fun H locs hP hD hS => ?_)
    have hP : va_P D vwCl [(oM, .inr (4, [.int kd, .int (nI n), .int (nI J), .ref mA, .ref mC, .ref mT, .int (nI us), .int (wr + 1), .int sn, .int (nI si), .int gr, .int (nI gp), .ref mF, .ref mO, .ref mV, .int lf, .int (pjd lf)])), (mA, .inl (cJ, 64, .inr (.inl fM))), (mC, .inl (cI, 64, .inl cM)), (mT, .inl (cJ, 64, .inr (.inl tM))), (mF, .inl (cI, 60, .inl fF)), (mO, .inl (cI, 60, .inl tF)), (mV, .inl (cJ, 60, .inr (.inl vM)))] H := hP
    have hD : va_D A [(oM, .inr (4, [.int kd, .int (nI n), .int (nI J), .ref mA, .ref mC, .ref mT, .int (nI us), .int (wr + 1), .int sn, .int (nI si), .int gr, .int (nI gp), .ref mF, .ref mO, .ref mV, .int lf, .int (pjd lf)])), (mA, .inl (cJ, 64, .inr (.inl fM))), (mC, .inl (cI, 64, .inl cM)), (mT, .inl (cJ, 64, .inr (.inl tM))), (mF, .inl (cI, 60, .inl fF)), (mO, .inl (cI, 60, .inl tF)), (mV, .inl (cJ, 60, .inr (.inl vM)))] := hD
    refine lv_aload_n hx hb dM_spend_10 rfl (lv_at hl 0 rfl) ?_
    refine lv_dup hx hb dM_spend_11 rfl ?_
    refine va_get (D := D) (ci := 4) (v := .int lf) (C := "ReplayJournalModel") (T := TM) (N := 17) hx hb hts (pj_ups inM) hown hK hP 0 rfl rfl 15 (by decide) (hts _ (pj_up m_439)) (fun _ h9 => h9) rfl dM_spend_12 ?_
    refine lv_aload_n hx hb dM_spend_15 rfl (lv_at hl 0 rfl) ?_
    refine va_get (D := D) (ci := 4) (v := .int lf) (C := "ReplayJournalModel") (T := TM) (N := 17) hx hb hts (pj_ups inM) hown hK hP 0 rfl rfl 15 (by decide) (hts _ (pj_up m_439)) (fun _ h9 => h9) rfl dM_spend_16 ?_
    refine lv_if_le (tgt := 26) hx hb dM_spend_19 (by decide) (fun _ => ?_) (fun h9 => (h9 (Int32.not_lt.mp h1)).elim)
    refine lv_iconst (v := 0) hx hb dM_spend_26 (by decide) ?_
    refine lv_isub hx hb dM_spend_27 ?_
    refine lv_topi (fun y9 e9 => ?_)
    have e9 : y9 = lf := e9.trans (by simp)
    rw [e9]
    refine va_put (D := D) (ci := 4) (v := .int lf) (ty := .int) (C := "ReplayJournalModel") (T := TM) (N := 17) hx hb hts (pj_ups inM) tyM tyM_ok nmM hown hK hP hD hS 0 rfl rfl 15 (by decide) (hts _ (pj_up m_439)) (fun _ h9 => h9) rfl (by decide +kernel) rfl rfl (Nat.le_of_ble_eq_true rfl) dM_spend_28 (fun H locs hP hD hS => ?_)
    have hP : va_P D vwCl [(oM, .inr (4, [.int kd, .int (nI n), .int (nI J), .ref mA, .ref mC, .ref mT, .int (nI us), .int (wr + 1), .int sn, .int (nI si), .int gr, .int (nI gp), .ref mF, .ref mO, .ref mV, .int lf, .int (pjd lf)])), (mA, .inl (cJ, 64, .inr (.inl fM))), (mC, .inl (cI, 64, .inl cM)), (mT, .inl (cJ, 64, .inr (.inl tM))), (mF, .inl (cI, 60, .inl fF)), (mO, .inl (cI, 60, .inl tF)), (mV, .inl (cJ, 60, .inr (.inl vM)))] H := hP
    have hD : va_D A [(oM, .inr (4, [.int kd, .int (nI n), .int (nI J), .ref mA, .ref mC, .ref mT, .int (nI us), .int (wr + 1), .int sn, .int (nI si), .int gr, .int (nI gp), .ref mF, .ref mO, .ref mV, .int lf, .int (pjd lf)])), (mA, .inl (cJ, 64, .inr (.inl fM))), (mC, .inl (cI, 64, .inl cM)), (mT, .inl (cJ, 64, .inr (.inl tM))), (mF, .inl (cI, 60, .inl fF)), (mO, .inl (cI, 60, .inl tF)), (mV, .inl (cJ, 60, .inr (.inl vM)))] := hD
    refine lv_aload_n hx hb dM_spend_31 rfl (lv_at hl 0 rfl) ?_
    refine lv_aload_n hx hb dM_spend_32 rfl (lv_at hl 0 rfl) ?_
    refine va_get (D := D) (ci := 4) (v := .int lf) (C := "ReplayJournalModel") (T := TM) (N := 17) hx hb hts (pj_ups inM) hown hK hP 0 rfl rfl 15 (by decide) (hts _ (pj_up m_439)) (fun _ h9 => h9) rfl dM_spend_33 ?_
    refine lv_if_ne (tgt := 43) hx hb dM_spend_36 (by decide) (fun c2 => ?_) (fun c2 => ?_)
    · refine lv_iconst (v := 0) hx hb dM_spend_43 (by decide) ?_
      refine va_put (D := D) (ci := 4) (v := .int 0) (ty := .boolean) (C := "ReplayJournalModel") (T := TM) (N := 17) hx hb hts (pj_ups inM) tyM tyM_ok nmM hown hK hP hD hS 0 rfl rfl 16 (by decide) (hts _ (pj_up m_440)) (fun _ h9 => h9) rfl (by decide +kernel) rfl rfl (Nat.le_of_ble_eq_true rfl) dM_spend_44 (fun H locs hP hD hS => ?_)
      have hP : va_P D vwCl [(oM, .inr (4, [.int kd, .int (nI n), .int (nI J), .ref mA, .ref mC, .ref mT, .int (nI us), .int (wr + 1), .int sn, .int (nI si), .int gr, .int (nI gp), .ref mF, .ref mO, .ref mV, .int lf, .int 0])), (mA, .inl (cJ, 64, .inr (.inl fM))), (mC, .inl (cI, 64, .inl cM)), (mT, .inl (cJ, 64, .inr (.inl tM))), (mF, .inl (cI, 60, .inl fF)), (mO, .inl (cI, 60, .inl tF)), (mV, .inl (cJ, 60, .inr (.inl vM)))] H := hP
      have hD : va_D A [(oM, .inr (4, [.int kd, .int (nI n), .int (nI J), .ref mA, .ref mC, .ref mT, .int (nI us), .int (wr + 1), .int sn, .int (nI si), .int gr, .int (nI gp), .ref mF, .ref mO, .ref mV, .int lf, .int 0])), (mA, .inl (cJ, 64, .inr (.inl fM))), (mC, .inl (cI, 64, .inl cM)), (mT, .inl (cJ, 64, .inr (.inl tM))), (mF, .inl (cI, 60, .inl fF)), (mO, .inl (cI, 60, .inl tF)), (mV, .inl (cJ, 60, .inr (.inl vM)))] := hD
      exact pj_vret hx hb hr hlocks hP hD hS (by rw [show pjL lf = lf from if_neg h1, pjd_0 c2]) dM_spend_47
    · refine lv_iconst (v := 1) hx hb dM_spend_39 (by decide) ?_
      refine lv_goto (tgt := 44) hx hb dM_spend_40 (by decide) ?_
      refine va_put (D := D) (ci := 4) (v := .int 1) (ty := .boolean) (C := "ReplayJournalModel") (T := TM) (N := 17) hx hb hts (pj_ups inM) tyM tyM_ok nmM hown hK hP hD hS 0 rfl rfl 16 (by decide) (hts _ (pj_up m_440)) (fun _ h9 => h9) rfl (by decide +kernel) rfl rfl (Nat.le_of_ble_eq_true rfl) dM_spend_44 (fun H locs hP hD hS => ?_)
      have hP : va_P D vwCl [(oM, .inr (4, [.int kd, .int (nI n), .int (nI J), .ref mA, .ref mC, .ref mT, .int (nI us), .int (wr + 1), .int sn, .int (nI si), .int gr, .int (nI gp), .ref mF, .ref mO, .ref mV, .int lf, .int 1])), (mA, .inl (cJ, 64, .inr (.inl fM))), (mC, .inl (cI, 64, .inl cM)), (mT, .inl (cJ, 64, .inr (.inl tM))), (mF, .inl (cI, 60, .inl fF)), (mO, .inl (cI, 60, .inl tF)), (mV, .inl (cJ, 60, .inr (.inl vM)))] H := hP
      have hD : va_D A [(oM, .inr (4, [.int kd, .int (nI n), .int (nI J), .ref mA, .ref mC, .ref mT, .int (nI us), .int (wr + 1), .int sn, .int (nI si), .int gr, .int (nI gp), .ref mF, .ref mO, .ref mV, .int lf, .int 1])), (mA, .inl (cJ, 64, .inr (.inl fM))), (mC, .inl (cI, 64, .inl cM)), (mT, .inl (cJ, 64, .inr (.inl tM))), (mF, .inl (cI, 60, .inl fF)), (mO, .inl (cI, 60, .inl tF)), (mV, .inl (cJ, 60, .inr (.inl vM)))] := hD
      exact pj_vret hx hb hr hlocks hP hD hS (by rw [show pjL lf = lf from if_neg h1, pjd_1 c2]) dM_spend_47
set_option maxHeartbeats 4000000 in
set_option maxRecDepth 100000 in
theorem m_hap_n (l : Launch) (D : va_G) (cI cJ cZ : ClassId) (oM mA mC mT mF mO mV n J us gp si : Nat) (fM tM vM : Nat → Int64) (cM fF tF : Nat → Int32) (kd wr sn lf gr : Int32) (hn : n ≤ 64) (hJ : J ≤ 60) (hus : us ≤ J) (a b : Int32) (v : Int64) (ha : a < 0) (hb2 : pjH n b) : pj_Met l yM_happen wsM_happen ({ frames := 0, cells := 0, slots := 0, locals := 0 }) D vwCl (pjT cI cJ cZ) pj_no [.ref oM, .int a, .int b, .long v] [(oM, .inr (4, [.int kd, .int (nI n), .int (nI J), .ref mA, .ref mC, .ref mT, .int (nI us), .int wr, .int sn, .int (nI si), .int gr, .int (nI gp), .ref mF, .ref mO, .ref mV, .int lf, .int (pjd lf)])), (mA, .inl (cJ, 64, .inr (.inl fM))), (mC, .inl (cI, 64, .inl cM)), (mT, .inl (cJ, 64, .inr (.inl tM))), (mF, .inl (cI, 60, .inl fF)), (mO, .inl (cI, 60, .inl tF)), (mV, .inl (cJ, 60, .inr (.inl vM)))] none [(oM, .inr (4, [.int kd, .int (nI n), .int (nI J), .ref mA, .ref mC, .ref mT, .int (nI us), .int wr, .int sn, .int (nI (si + 1)), .int gr, .int (nI gp), .ref mF, .ref mO, .ref mV, .int lf, .int (pjd lf)])), (mA, .inl (cJ, 64, .inr (.inl (pj2 n fM a b v)))), (mC, .inl (cI, 64, .inl (pj2c n cM a b))), (mT, .inl (cJ, 64, .inr (.inl tM))), (mF, .inl (cI, 60, .inl fF)), (mO, .inl (cI, 60, .inl tF)), (mV, .inl (cJ, 60, .inr (.inl vM)))] 0 0 := by
  refine pj_of (by decide) rfl (Nat.le_of_ble_eq_true rfl) ?_
  intro p e s m below meth c A ls hx hb hml hr hts hown hlocks hin hA hK hP hD hS hG hl
  have hl : lv_has ls 5 [(0, .ref oM), (1, .int a), (2, .int b), (3, .long v)] := hl
  refine lv_iload_n hx hb dM_happen_0 rfl (lv_at hl 1 rfl) ?_
  refine lv_if_lt (tgt := 24) hx hb dM_happen_1 (by decide) (fun _ => ?_) (fun h9 => (h9 ha).elim)
  refine lv_aload_n hx hb dM_happen_24 rfl (lv_at hl 0 rfl) ?_
  refine va_get (D := D) (ci := 4) (v := .ref mA) (C := "ReplayJournalModel") (T := TM) (N := 17) hx hb hts (pj_ups inM) hown hK hP 0 rfl rfl 3 (by decide) (hts _ (pj_up m_427)) (fun _ h9 => h9) rfl dM_happen_25 ?_
  refine lv_iload_n hx hb dM_happen_28 rfl (lv_at hl 2 rfl) ?_
  refine lv_dup2_11 hx hb dM_happen_29 rfl rfl ?_
  refine va_lald hx hb hK hP 1 1 rfl rfl (pjH_64 hn hb2) dM_happen_30 ?_
  refine lv_lload_n hx hb dM_happen_31 rfl (lv_at hl 3 rfl) ?_
  refine lv_ladd hx hb dM_happen_32 ?_
  refine va_last hx hb hK hP hD hS 1 1 rfl rfl (pjH_64 hn hb2) dM_happen_33 (fun H locs hP hD hS => ?_)
  have hP : va_P D vwCl [(oM, .inr (4, [.int kd, .int (nI n), .int (nI J), .ref mA, .ref mC, .ref mT, .int (nI us), .int wr, .int sn, .int (nI si), .int gr, .int (nI gp), .ref mF, .ref mO, .ref mV, .int lf, .int (pjd lf)])), (mA, .inl (cJ, 64, .inr (.inl (vp_updL fM b.toNatClampNeg ((fM b.toNatClampNeg) + v))))), (mC, .inl (cI, 64, .inl cM)), (mT, .inl (cJ, 64, .inr (.inl tM))), (mF, .inl (cI, 60, .inl fF)), (mO, .inl (cI, 60, .inl tF)), (mV, .inl (cJ, 60, .inr (.inl vM)))] H := hP
  have hD : va_D A [(oM, .inr (4, [.int kd, .int (nI n), .int (nI J), .ref mA, .ref mC, .ref mT, .int (nI us), .int wr, .int sn, .int (nI si), .int gr, .int (nI gp), .ref mF, .ref mO, .ref mV, .int lf, .int (pjd lf)])), (mA, .inl (cJ, 64, .inr (.inl (vp_updL fM b.toNatClampNeg ((fM b.toNatClampNeg) + v))))), (mC, .inl (cI, 64, .inl cM)), (mT, .inl (cJ, 64, .inr (.inl tM))), (mF, .inl (cI, 60, .inl fF)), (mO, .inl (cI, 60, .inl tF)), (mV, .inl (cJ, 60, .inr (.inl vM)))] := hD
  refine lv_aload_n hx hb dM_happen_34 rfl (lv_at hl 0 rfl) ?_
  refine va_get (D := D) (ci := 4) (v := .ref mC) (C := "ReplayJournalModel") (T := TM) (N := 17) hx hb hts (pj_ups inM) hown hK hP 0 rfl rfl 4 (by decide) (hts _ (pj_up m_428)) (fun _ h9 => h9) rfl dM_happen_35 ?_
  refine lv_iload_n hx hb dM_happen_38 rfl (lv_at hl 2 rfl) ?_
  refine lv_dup2_11 hx hb dM_happen_39 rfl rfl ?_
  refine va_iald hx hb hK hP 2 0 rfl rfl (pjH_64 hn hb2) dM_happen_40 ?_
  refine lv_iconst (v := 1) hx hb dM_happen_41 (by decide) ?_
  refine lv_iadd hx hb dM_happen_42 ?_
  refine va_iast hx hb hK hP hD hS 2 0 rfl rfl (pjH_64 hn hb2) dM_happen_43 (fun H locs hP hD hS => ?_)
  have hP : va_P D vwCl [(oM, .inr (4, [.int kd, .int (nI n), .int (nI J), .ref mA, .ref mC, .ref mT, .int (nI us), .int wr, .int sn, .int (nI si), .int gr, .int (nI gp), .ref mF, .ref mO, .ref mV, .int lf, .int (pjd lf)])), (mA, .inl (cJ, 64, .inr (.inl (vp_updL fM b.toNatClampNeg ((fM b.toNatClampNeg) + v))))), (mC, .inl (cI, 64, .inl (upd cM b.toNatClampNeg ((cM b.toNatClampNeg) + 1)))), (mT, .inl (cJ, 64, .inr (.inl tM))), (mF, .inl (cI, 60, .inl fF)), (mO, .inl (cI, 60, .inl tF)), (mV, .inl (cJ, 60, .inr (.inl vM)))] H := hP
  have hD : va_D A [(oM, .inr (4, [.int kd, .int (nI n), .int (nI J), .ref mA, .ref mC, .ref mT, .int (nI us), .int wr, .int sn, .int (nI si), .int gr, .int (nI gp), .ref mF, .ref mO, .ref mV, .int lf, .int (pjd lf)])), (mA, .inl (cJ, 64, .inr (.inl (vp_updL fM b.toNatClampNeg ((fM b.toNatClampNeg) + v))))), (mC, .inl (cI, 64, .inl (upd cM b.toNatClampNeg ((cM b.toNatClampNeg) + 1)))), (mT, .inl (cJ, 64, .inr (.inl tM))), (mF, .inl (cI, 60, .inl fF)), (mO, .inl (cI, 60, .inl tF)), (mV, .inl (cJ, 60, .inr (.inl vM)))] := hD
  refine lv_aload_n hx hb dM_happen_44 rfl (lv_at hl 0 rfl) ?_
  refine lv_dup hx hb dM_happen_45 rfl ?_
  refine va_get (D := D) (ci := 4) (v := .int (nI si)) (C := "ReplayJournalModel") (T := TM) (N := 17) hx hb hts (pj_ups inM) hown hK hP 0 rfl rfl 9 (by decide) (hts _ (pj_up m_433)) (fun _ h9 => h9) rfl dM_happen_46 ?_
  refine lv_iconst (v := 1) hx hb dM_happen_49 (by decide) ?_
  refine lv_iadd hx hb dM_happen_50 ?_
  refine va_put (D := D) (ci := 4) (v := .int ((nI si) + 1)) (ty := .int) (C := "ReplayJournalModel") (T := TM) (N := 17) hx hb hts (pj_ups inM) tyM tyM_ok nmM hown hK hP hD hS 0 rfl rfl 9 (by decide) (hts _ (pj_up m_433)) (fun _ h9 => h9) rfl (by decide +kernel) rfl rfl (Nat.le_of_ble_eq_true rfl) dM_happen_51 (fun H locs hP hD hS => ?_)
  have hP : va_P D vwCl [(oM, .inr (4, [.int kd, .int (nI n), .int (nI J), .ref mA, .ref mC, .ref mT, .int (nI us), .int wr, .int sn, .int ((nI si) + 1), .int gr, .int (nI gp), .ref mF, .ref mO, .ref mV, .int lf, .int (pjd lf)])), (mA, .inl (cJ, 64, .inr (.inl (vp_updL fM b.toNatClampNeg ((fM b.toNatClampNeg) + v))))), (mC, .inl (cI, 64, .inl (upd cM b.toNatClampNeg ((cM b.toNatClampNeg) + 1)))), (mT, .inl (cJ, 64, .inr (.inl tM))), (mF, .inl (cI, 60, .inl fF)), (mO, .inl (cI, 60, .inl tF)), (mV, .inl (cJ, 60, .inr (.inl vM)))] H := hP
  have hD : va_D A [(oM, .inr (4, [.int kd, .int (nI n), .int (nI J), .ref mA, .ref mC, .ref mT, .int (nI us), .int wr, .int sn, .int ((nI si) + 1), .int gr, .int (nI gp), .ref mF, .ref mO, .ref mV, .int lf, .int (pjd lf)])), (mA, .inl (cJ, 64, .inr (.inl (vp_updL fM b.toNatClampNeg ((fM b.toNatClampNeg) + v))))), (mC, .inl (cI, 64, .inl (upd cM b.toNatClampNeg ((cM b.toNatClampNeg) + 1)))), (mT, .inl (cJ, 64, .inr (.inl tM))), (mF, .inl (cI, 60, .inl fF)), (mO, .inl (cI, 60, .inl tF)), (mV, .inl (cJ, 60, .inr (.inl vM)))] := hD
  exact pj_vret hx hb hr hlocks hP hD hS (by rw [pj2_neg ha hb2, pj2c_neg ha hb2, nI_1]) dM_happen_54
set_option maxHeartbeats 4000000 in
set_option maxRecDepth 100000 in
theorem m_hap_p (l : Launch) (D : va_G) (cI cJ cZ : ClassId) (oM mA mC mT mF mO mV n J us gp si : Nat) (fM tM vM : Nat → Int64) (cM fF tF : Nat → Int32) (kd wr sn lf gr : Int32) (hn : n ≤ 64) (hJ : J ≤ 60) (hus : us ≤ J) (a b : Int32) (v : Int64) (ha : pjH n a) (hb2 : pjH n b) : pj_Met l yM_happen wsM_happen ({ frames := 0, cells := 0, slots := 0, locals := 0 }) D vwCl (pjT cI cJ cZ) pj_no [.ref oM, .int a, .int b, .long v] [(oM, .inr (4, [.int kd, .int (nI n), .int (nI J), .ref mA, .ref mC, .ref mT, .int (nI us), .int wr, .int sn, .int (nI si), .int gr, .int (nI gp), .ref mF, .ref mO, .ref mV, .int lf, .int (pjd lf)])), (mA, .inl (cJ, 64, .inr (.inl fM))), (mC, .inl (cI, 64, .inl cM)), (mT, .inl (cJ, 64, .inr (.inl tM))), (mF, .inl (cI, 60, .inl fF)), (mO, .inl (cI, 60, .inl tF)), (mV, .inl (cJ, 60, .inr (.inl vM)))] none [(oM, .inr (4, [.int kd, .int (nI n), .int (nI J), .ref mA, .ref mC, .ref mT, .int (nI us), .int wr, .int sn, .int (nI (si + 1)), .int gr, .int (nI gp), .ref mF, .ref mO, .ref mV, .int lf, .int (pjd lf)])), (mA, .inl (cJ, 64, .inr (.inl (pj2 n fM a b v)))), (mC, .inl (cI, 64, .inl (pj2c n cM a b))), (mT, .inl (cJ, 64, .inr (.inl tM))), (mF, .inl (cI, 60, .inl fF)), (mO, .inl (cI, 60, .inl tF)), (mV, .inl (cJ, 60, .inr (.inl vM)))] 0 0 := by
  refine pj_of (by decide) rfl (Nat.le_of_ble_eq_true rfl) ?_
  intro p e s m below meth c A ls hx hb hml hr hts hown hlocks hin hA hK hP hD hS hG hl
  have hl : lv_has ls 5 [(0, .ref oM), (1, .int a), (2, .int b), (3, .long v)] := hl
  refine lv_iload_n hx hb dM_happen_0 rfl (lv_at hl 1 rfl) ?_
  refine lv_if_lt (tgt := 24) hx hb dM_happen_1 (by decide) (fun h9 => absurd h9 ha.1) (fun _ => ?_)
  refine lv_aload_n hx hb dM_happen_4 rfl (lv_at hl 0 rfl) ?_
  refine va_get (D := D) (ci := 4) (v := .ref mA) (C := "ReplayJournalModel") (T := TM) (N := 17) hx hb hts (pj_ups inM) hown hK hP 0 rfl rfl 3 (by decide) (hts _ (pj_up m_427)) (fun _ h9 => h9) rfl dM_happen_5 ?_
  refine lv_iload_n hx hb dM_happen_8 rfl (lv_at hl 1 rfl) ?_
  refine lv_dup2_11 hx hb dM_happen_9 rfl rfl ?_
  refine va_lald hx hb hK hP 1 1 rfl rfl (pjH_64 hn ha) dM_happen_10 ?_
  refine lv_lload_n hx hb dM_happen_11 rfl (lv_at hl 3 rfl) ?_
  refine lv_lsub hx hb dM_happen_12 ?_
  refine va_last hx hb hK hP hD hS 1 1 rfl rfl (pjH_64 hn ha) dM_happen_13 (fun H locs hP hD hS => ?_)
  have hP : va_P D vwCl [(oM, .inr (4, [.int kd, .int (nI n), .int (nI J), .ref mA, .ref mC, .ref mT, .int (nI us), .int wr, .int sn, .int (nI si), .int gr, .int (nI gp), .ref mF, .ref mO, .ref mV, .int lf, .int (pjd lf)])), (mA, .inl (cJ, 64, .inr (.inl (vp_updL fM a.toNatClampNeg ((fM a.toNatClampNeg) - v))))), (mC, .inl (cI, 64, .inl cM)), (mT, .inl (cJ, 64, .inr (.inl tM))), (mF, .inl (cI, 60, .inl fF)), (mO, .inl (cI, 60, .inl tF)), (mV, .inl (cJ, 60, .inr (.inl vM)))] H := hP
  have hD : va_D A [(oM, .inr (4, [.int kd, .int (nI n), .int (nI J), .ref mA, .ref mC, .ref mT, .int (nI us), .int wr, .int sn, .int (nI si), .int gr, .int (nI gp), .ref mF, .ref mO, .ref mV, .int lf, .int (pjd lf)])), (mA, .inl (cJ, 64, .inr (.inl (vp_updL fM a.toNatClampNeg ((fM a.toNatClampNeg) - v))))), (mC, .inl (cI, 64, .inl cM)), (mT, .inl (cJ, 64, .inr (.inl tM))), (mF, .inl (cI, 60, .inl fF)), (mO, .inl (cI, 60, .inl tF)), (mV, .inl (cJ, 60, .inr (.inl vM)))] := hD
  refine lv_aload_n hx hb dM_happen_14 rfl (lv_at hl 0 rfl) ?_
  refine va_get (D := D) (ci := 4) (v := .ref mC) (C := "ReplayJournalModel") (T := TM) (N := 17) hx hb hts (pj_ups inM) hown hK hP 0 rfl rfl 4 (by decide) (hts _ (pj_up m_428)) (fun _ h9 => h9) rfl dM_happen_15 ?_
  refine lv_iload_n hx hb dM_happen_18 rfl (lv_at hl 1 rfl) ?_
  refine lv_dup2_11 hx hb dM_happen_19 rfl rfl ?_
  refine va_iald hx hb hK hP 2 0 rfl rfl (pjH_64 hn ha) dM_happen_20 ?_
  refine lv_iconst (v := 1) hx hb dM_happen_21 (by decide) ?_
  refine lv_iadd hx hb dM_happen_22 ?_
  refine va_iast hx hb hK hP hD hS 2 0 rfl rfl (pjH_64 hn ha) dM_happen_23 (fun H locs hP hD hS => ?_)
  have hP : va_P D vwCl [(oM, .inr (4, [.int kd, .int (nI n), .int (nI J), .ref mA, .ref mC, .ref mT, .int (nI us), .int wr, .int sn, .int (nI si), .int gr, .int (nI gp), .ref mF, .ref mO, .ref mV, .int lf, .int (pjd lf)])), (mA, .inl (cJ, 64, .inr (.inl (vp_updL fM a.toNatClampNeg ((fM a.toNatClampNeg) - v))))), (mC, .inl (cI, 64, .inl (upd cM a.toNatClampNeg ((cM a.toNatClampNeg) + 1)))), (mT, .inl (cJ, 64, .inr (.inl tM))), (mF, .inl (cI, 60, .inl fF)), (mO, .inl (cI, 60, .inl tF)), (mV, .inl (cJ, 60, .inr (.inl vM)))] H := hP
  have hD : va_D A [(oM, .inr (4, [.int kd, .int (nI n), .int (nI J), .ref mA, .ref mC, .ref mT, .int (nI us), .int wr, .int sn, .int (nI si), .int gr, .int (nI gp), .ref mF, .ref mO, .ref mV, .int lf, .int (pjd lf)])), (mA, .inl (cJ, 64, .inr (.inl (vp_updL fM a.toNatClampNeg ((fM a.toNatClampNeg) - v))))), (mC, .inl (cI, 64, .inl (upd cM a.toNatClampNeg ((cM a.toNatClampNeg) + 1)))), (mT, .inl (cJ, 64, .inr (.inl tM))), (mF, .inl (cI, 60, .inl fF)), (mO, .inl (cI, 60, .inl tF)), (mV, .inl (cJ, 60, .inr (.inl vM)))] := hD
  refine lv_aload_n hx hb dM_happen_24 rfl (lv_at hl 0 rfl) ?_
  refine va_get (D := D) (ci := 4) (v := .ref mA) (C := "ReplayJournalModel") (T := TM) (N := 17) hx hb hts (pj_ups inM) hown hK hP 0 rfl rfl 3 (by decide) (hts _ (pj_up m_427)) (fun _ h9 => h9) rfl dM_happen_25 ?_
  refine lv_iload_n hx hb dM_happen_28 rfl (lv_at hl 2 rfl) ?_
  refine lv_dup2_11 hx hb dM_happen_29 rfl rfl ?_
  refine va_lald hx hb hK hP 1 1 rfl rfl (pjH_64 hn hb2) dM_happen_30 ?_
  refine lv_lload_n hx hb dM_happen_31 rfl (lv_at hl 3 rfl) ?_
  refine lv_ladd hx hb dM_happen_32 ?_
  refine va_last hx hb hK hP hD hS 1 1 rfl rfl (pjH_64 hn hb2) dM_happen_33 (fun H locs hP hD hS => ?_)
  have hP : va_P D vwCl [(oM, .inr (4, [.int kd, .int (nI n), .int (nI J), .ref mA, .ref mC, .ref mT, .int (nI us), .int wr, .int sn, .int (nI si), .int gr, .int (nI gp), .ref mF, .ref mO, .ref mV, .int lf, .int (pjd lf)])), (mA, .inl (cJ, 64, .inr (.inl (vp_updL (vp_updL fM a.toNatClampNeg ((fM a.toNatClampNeg) - v)) b.toNatClampNeg (((vp_updL fM a.toNatClampNeg ((fM a.toNatClampNeg) - v)) b.toNatClampNeg) + v))))), (mC, .inl (cI, 64, .inl (upd cM a.toNatClampNeg ((cM a.toNatClampNeg) + 1)))), (mT, .inl (cJ, 64, .inr (.inl tM))), (mF, .inl (cI, 60, .inl fF)), (mO, .inl (cI, 60, .inl tF)), (mV, .inl (cJ, 60, .inr (.inl vM)))] H := hP
  have hD : va_D A [(oM, .inr (4, [.int kd, .int (nI n), .int (nI J), .ref mA, .ref mC, .ref mT, .int (nI us), .int wr, .int sn, .int (nI si), .int gr, .int (nI gp), .ref mF, .ref mO, .ref mV, .int lf, .int (pjd lf)])), (mA, .inl (cJ, 64, .inr (.inl (vp_updL (vp_updL fM a.toNatClampNeg ((fM a.toNatClampNeg) - v)) b.toNatClampNeg (((vp_updL fM a.toNatClampNeg ((fM a.toNatClampNeg) - v)) b.toNatClampNeg) + v))))), (mC, .inl (cI, 64, .inl (upd cM a.toNatClampNeg ((cM a.toNatClampNeg) + 1)))), (mT, .inl (cJ, 64, .inr (.inl tM))), (mF, .inl (cI, 60, .inl fF)), (mO, .inl (cI, 60, .inl tF)), (mV, .inl (cJ, 60, .inr (.inl vM)))] := hD
  refine lv_aload_n hx hb dM_happen_34 rfl (lv_at hl 0 rfl) ?_
  refine va_get (D := D) (ci := 4) (v := .ref mC) (C := "ReplayJournalModel") (T := TM) (N := 17) hx hb hts (pj_ups inM) hown hK hP 0 rfl rfl 4 (by decide) (hts _ (pj_up m_428)) (fun _ h9 => h9) rfl dM_happen_35 ?_
  refine lv_iload_n hx hb dM_happen_38 rfl (lv_at hl 2 rfl) ?_
  refine lv_dup2_11 hx hb dM_happen_39 rfl rfl ?_
  refine va_iald hx hb hK hP 2 0 rfl rfl (pjH_64 hn hb2) dM_happen_40 ?_
  refine lv_iconst (v := 1) hx hb dM_happen_41 (by decide) ?_
  refine lv_iadd hx hb dM_happen_42 ?_
  refine va_iast hx hb hK hP hD hS 2 0 rfl rfl (pjH_64 hn hb2) dM_happen_43 (fun H locs hP hD hS => ?_)
  have hP : va_P D vwCl [(oM, .inr (4, [.int kd, .int (nI n), .int (nI J), .ref mA, .ref mC, .ref mT, .int (nI us), .int wr, .int sn, .int (nI si), .int gr, .int (nI gp), .ref mF, .ref mO, .ref mV, .int lf, .int (pjd lf)])), (mA, .inl (cJ, 64, .inr (.inl (vp_updL (vp_updL fM a.toNatClampNeg ((fM a.toNatClampNeg) - v)) b.toNatClampNeg (((vp_updL fM a.toNatClampNeg ((fM a.toNatClampNeg) - v)) b.toNatClampNeg) + v))))), (mC, .inl (cI, 64, .inl (upd (upd cM a.toNatClampNeg ((cM a.toNatClampNeg) + 1)) b.toNatClampNeg (((upd cM a.toNatClampNeg ((cM a.toNatClampNeg) + 1)) b.toNatClampNeg) + 1)))), (mT, .inl (cJ, 64, .inr (.inl tM))), (mF, .inl (cI, 60, .inl fF)), (mO, .inl (cI, 60, .inl tF)), (mV, .inl (cJ, 60, .inr (.inl vM)))] H := hP
  have hD : va_D A [(oM, .inr (4, [.int kd, .int (nI n), .int (nI J), .ref mA, .ref mC, .ref mT, .int (nI us), .int wr, .int sn, .int (nI si), .int gr, .int (nI gp), .ref mF, .ref mO, .ref mV, .int lf, .int (pjd lf)])), (mA, .inl (cJ, 64, .inr (.inl (vp_updL (vp_updL fM a.toNatClampNeg ((fM a.toNatClampNeg) - v)) b.toNatClampNeg (((vp_updL fM a.toNatClampNeg ((fM a.toNatClampNeg) - v)) b.toNatClampNeg) + v))))), (mC, .inl (cI, 64, .inl (upd (upd cM a.toNatClampNeg ((cM a.toNatClampNeg) + 1)) b.toNatClampNeg (((upd cM a.toNatClampNeg ((cM a.toNatClampNeg) + 1)) b.toNatClampNeg) + 1)))), (mT, .inl (cJ, 64, .inr (.inl tM))), (mF, .inl (cI, 60, .inl fF)), (mO, .inl (cI, 60, .inl tF)), (mV, .inl (cJ, 60, .inr (.inl vM)))] := hD
  refine lv_aload_n hx hb dM_happen_44 rfl (lv_at hl 0 rfl) ?_
  refine lv_dup hx hb dM_happen_45 rfl ?_
  refine va_get (D := D) (ci := 4) (v := .int (nI si)) (C := "ReplayJournalModel") (T := TM) (N := 17) hx hb hts (pj_ups inM) hown hK hP 0 rfl rfl 9 (by decide) (hts _ (pj_up m_433)) (fun _ h9 => h9) rfl dM_happen_46 ?_
  refine lv_iconst (v := 1) hx hb dM_happen_49 (by decide) ?_
  refine lv_iadd hx hb dM_happen_50 ?_
  refine va_put (D := D) (ci := 4) (v := .int ((nI si) + 1)) (ty := .int) (C := "ReplayJournalModel") (T := TM) (N := 17) hx hb hts (pj_ups inM) tyM tyM_ok nmM hown hK hP hD hS 0 rfl rfl 9 (by decide) (hts _ (pj_up m_433)) (fun _ h9 => h9) rfl (by decide +kernel) rfl rfl (Nat.le_of_ble_eq_true rfl) dM_happen_51 (fun H locs hP hD hS => ?_)
  have hP : va_P D vwCl [(oM, .inr (4, [.int kd, .int (nI n), .int (nI J), .ref mA, .ref mC, .ref mT, .int (nI us), .int wr, .int sn, .int ((nI si) + 1), .int gr, .int (nI gp), .ref mF, .ref mO, .ref mV, .int lf, .int (pjd lf)])), (mA, .inl (cJ, 64, .inr (.inl (vp_updL (vp_updL fM a.toNatClampNeg ((fM a.toNatClampNeg) - v)) b.toNatClampNeg (((vp_updL fM a.toNatClampNeg ((fM a.toNatClampNeg) - v)) b.toNatClampNeg) + v))))), (mC, .inl (cI, 64, .inl (upd (upd cM a.toNatClampNeg ((cM a.toNatClampNeg) + 1)) b.toNatClampNeg (((upd cM a.toNatClampNeg ((cM a.toNatClampNeg) + 1)) b.toNatClampNeg) + 1)))), (mT, .inl (cJ, 64, .inr (.inl tM))), (mF, .inl (cI, 60, .inl fF)), (mO, .inl (cI, 60, .inl tF)), (mV, .inl (cJ, 60, .inr (.inl vM)))] H := hP
  have hD : va_D A [(oM, .inr (4, [.int kd, .int (nI n), .int (nI J), .ref mA, .ref mC, .ref mT, .int (nI us), .int wr, .int sn, .int ((nI si) + 1), .int gr, .int (nI gp), .ref mF, .ref mO, .ref mV, .int lf, .int (pjd lf)])), (mA, .inl (cJ, 64, .inr (.inl (vp_updL (vp_updL fM a.toNatClampNeg ((fM a.toNatClampNeg) - v)) b.toNatClampNeg (((vp_updL fM a.toNatClampNeg ((fM a.toNatClampNeg) - v)) b.toNatClampNeg) + v))))), (mC, .inl (cI, 64, .inl (upd (upd cM a.toNatClampNeg ((cM a.toNatClampNeg) + 1)) b.toNatClampNeg (((upd cM a.toNatClampNeg ((cM a.toNatClampNeg) + 1)) b.toNatClampNeg) + 1)))), (mT, .inl (cJ, 64, .inr (.inl tM))), (mF, .inl (cI, 60, .inl fF)), (mO, .inl (cI, 60, .inl tF)), (mV, .inl (cJ, 60, .inr (.inl vM)))] := hD
  exact pj_vret hx hb hr hlocks hP hD hS (by rw [pj2_pos ha hb2, pj2c_pos ha hb2, nI_1]) dM_happen_54
theorem m_hap (l : Launch) (D : va_G) (cI cJ cZ : ClassId) (oM mA mC mT mF mO mV n J us gp si : Nat) (fM tM vM : Nat → Int64) (cM fF tF : Nat → Int32) (kd wr sn lf gr : Int32) (hn : n ≤ 64) (hJ : J ≤ 60) (hus : us ≤ J) (a b : Int32) (v : Int64) (ha : a < 0 ∨ pjH n a) (hb2 : pjH n b) : pj_Met l yM_happen wsM_happen ({ frames := 0, cells := 0, slots := 0, locals := 0 }) D vwCl (pjT cI cJ cZ) pj_no [.ref oM, .int a, .int b, .long v] [(oM, .inr (4, [.int kd, .int (nI n), .int (nI J), .ref mA, .ref mC, .ref mT, .int (nI us), .int wr, .int sn, .int (nI si), .int gr, .int (nI gp), .ref mF, .ref mO, .ref mV, .int lf, .int (pjd lf)])), (mA, .inl (cJ, 64, .inr (.inl fM))), (mC, .inl (cI, 64, .inl cM)), (mT, .inl (cJ, 64, .inr (.inl tM))), (mF, .inl (cI, 60, .inl fF)), (mO, .inl (cI, 60, .inl tF)), (mV, .inl (cJ, 60, .inr (.inl vM)))] none [(oM, .inr (4, [.int kd, .int (nI n), .int (nI J), .ref mA, .ref mC, .ref mT, .int (nI us), .int wr, .int sn, .int (nI (si + 1)), .int gr, .int (nI gp), .ref mF, .ref mO, .ref mV, .int lf, .int (pjd lf)])), (mA, .inl (cJ, 64, .inr (.inl (pj2 n fM a b v)))), (mC, .inl (cI, 64, .inl (pj2c n cM a b))), (mT, .inl (cJ, 64, .inr (.inl tM))), (mF, .inl (cI, 60, .inl fF)), (mO, .inl (cI, 60, .inl tF)), (mV, .inl (cJ, 60, .inr (.inl vM)))] 0 0 :=
  ha.elim (fun h => m_hap_n l D cI cJ cZ oM mA mC mT mF mO mV n J us gp si fM tM vM cM fF tF kd wr sn lf gr hn hJ hus a b v h hb2) (fun h => m_hap_p l D cI cJ cZ oM mA mC mT mF mO mV n J us gp si fM tM vM cM fF tF kd wr sn lf gr hn hJ hus a b v h hb2)
