set_option maxHeartbeats 4000000 in
set_option maxRecDepth 100000 in
theorem m_begin_d (l : Launch) (D : va_G) (cI cJ cZ : ClassId) (oM mA mC mT mF mO mV n J us gp si : Nat) (fM tM vM : Nat → Int64) (cM fF tF : Nat → Int32) (kd wr sn lf gr : Int32) (hn : n ≤ 64) (hJ : J ≤ 60) (hus : us ≤ J) (h3 : lf = 0) : pj_Met l yM_begin wsM_begin ({ frames := 1, cells := 0, slots := 0, locals := 21 }) D vwCl (pjT cI cJ cZ) pj_no [.ref oM] [(oM, .inr (4, [.int kd, .int (nI n), .int (nI J), .ref mA, .ref mC, .ref mT, .int (nI us), .int wr, .int sn, .int (nI si), .int gr, .int (nI gp), .ref mF, .ref mO, .ref mV, .int lf, .int (pjd lf)])), (mA, .inl (cJ, 64, .inr (.inl fM))), (mC, .inl (cI, 64, .inl cM)), (mT, .inl (cJ, 64, .inr (.inl tM))), (mF, .inl (cI, 60, .inl fF)), (mO, .inl (cI, 60, .inl tF)), (mV, .inl (cJ, 60, .inr (.inl vM)))] none [(oM, .inr (4, [.int 1, .int (nI n), .int (nI J), .ref mA, .ref mC, .ref mT, .int (nI us), .int wr, .int sn, .int (nI si), .int gr, .int (nI gp), .ref mF, .ref mO, .ref mV, .int lf, .int (pjd lf)])), (mA, .inl (cJ, 64, .inr (.inl fM))), (mC, .inl (cI, 64, .inl cM)), (mT, .inl (cJ, 64, .inr (.inl tM))), (mF, .inl (cI, 60, .inl fF)), (mO, .inl (cI, 60, .inl tF)), (mV, .inl (cJ, 60, .inr (.inl vM)))] 0 0 := by
  refine pj_of (by decide) rfl (Nat.le_of_ble_eq_true rfl) ?_
  intro p e s m below meth c A ls hx hb hml hr hts hown hlocks hin hA hK hP hD hS hG hl
  have hl : lv_has ls 1 [(0, .ref oM)] := hl
  refine lv_aload_n hx hb dM_begin_0 rfl (lv_at hl 0 rfl) ?_
  refine lv_aload_n hx hb dM_begin_1 rfl (lv_at hl 0 rfl) ?_
  refine va_get (D := D) (ci := 4) (v := .int gr) (C := "ReplayJournalModel") (T := TM) (N := 17) hx hb hts (pj_ups inM) hown hK hP 0 rfl rfl 10 (by decide) (hts _ (pj_up m_434)) (fun _ h9 => h9) rfl dM_begin_2 ?_
  refine lv_if_ne (tgt := 12) hx hb dM_begin_5 (by decide) (fun c1 => ?_) (fun c1 => ?_)
  · refine lv_iconst (v := 0) hx hb dM_begin_12 (by decide) ?_
    refine pj_callV (w2 := [(oM, .inr (4, [.int 1, .int (nI n), .int (nI J), .ref mA, .ref mC, .ref mT, .int (nI us), .int wr, .int sn, .int (nI si), .int gr, .int (nI gp), .ref mF, .ref mO, .ref mV, .int lf, .int (pjd lf)])), (mA, .inl (cJ, 64, .inr (.inl fM))), (mC, .inl (cI, 64, .inl cM)), (mT, .inl (cJ, 64, .inr (.inl tM))), (mF, .inl (cI, 60, .inl fF)), (mO, .inl (cI, 60, .inl tF)), (mV, .inl (cJ, 60, .inr (.inl vM)))]) (wr := []) (rest := []) (st1 := [.int 0]) ⟨hx, hb, hml, hown, hts⟩ (m_stands_d l D cI cJ cZ oM mA mC mT mF mO mV n J us gp si fM tM vM cM fF tF kd wr sn lf gr hn hJ hus h3 0) (cwV 1 hts (pj_gV m_514 m_516 m_16 m_24 m_517) rfl rfl rfl (by decide +kernel) ⟨Nat.le_of_ble_eq_true rfl, Nat.le_of_ble_eq_true rfl⟩) pj_no_ok trivial hK hP hD hS hA (ci := 4) (q0 := 0) rfl rfl [0, 1, 2, 3, 4, 5, 6] [] [0, 1, 2, 3, 4, 5, 6] rfl rfl rfl rfl (by decide) rfl rfl rfl hl.1 rfl (Nat.le_of_ble_eq_true rfl) dM_begin_13 ⟨Nat.le_of_ble_eq_true rfl, Nat.le_of_ble_eq_true rfl⟩ rfl rfl rfl (fun H locs hP hD hS => ?_)
    refine lv_if_eq (tgt := 29) hx hb dM_begin_16 (by decide) (fun _ => ?_) (fun h9 => (h9 rfl).elim)
    exact pj_vret hx hb hr hlocks hP hD hS (rfl) dM_begin_29
  · refine lv_iconst (v := 1) hx hb dM_begin_8 (by decide) ?_
    refine lv_goto (tgt := 13) hx hb dM_begin_9 (by decide) ?_
    refine pj_callV (w2 := [(oM, .inr (4, [.int 1, .int (nI n), .int (nI J), .ref mA, .ref mC, .ref mT, .int (nI us), .int wr, .int sn, .int (nI si), .int gr, .int (nI gp), .ref mF, .ref mO, .ref mV, .int lf, .int (pjd lf)])), (mA, .inl (cJ, 64, .inr (.inl fM))), (mC, .inl (cI, 64, .inl cM)), (mT, .inl (cJ, 64, .inr (.inl tM))), (mF, .inl (cI, 60, .inl fF)), (mO, .inl (cI, 60, .inl tF)), (mV, .inl (cJ, 60, .inr (.inl vM)))]) (wr := []) (rest := []) (st1 := [.int 0]) ⟨hx, hb, hml, hown, hts⟩ (m_stands_d l D cI cJ cZ oM mA mC mT mF mO mV n J us gp si fM tM vM cM fF tF kd wr sn lf gr hn hJ hus h3 1) (cwV 1 hts (pj_gV m_514 m_516 m_16 m_24 m_517) rfl rfl rfl (by decide +kernel) ⟨Nat.le_of_ble_eq_true rfl, Nat.le_of_ble_eq_true rfl⟩) pj_no_ok trivial hK hP hD hS hA (ci := 4) (q0 := 0) rfl rfl [0, 1, 2, 3, 4, 5, 6] [] [0, 1, 2, 3, 4, 5, 6] rfl rfl rfl rfl (by decide) rfl rfl rfl hl.1 rfl (Nat.le_of_ble_eq_true rfl) dM_begin_13 ⟨Nat.le_of_ble_eq_true rfl, Nat.le_of_ble_eq_true rfl⟩ rfl rfl rfl (fun H locs hP hD hS => ?_)
    refine lv_if_eq (tgt := 29) hx hb dM_begin_16 (by decide) (fun _ => ?_) (fun h9 => (h9 rfl).elim)
    exact pj_vret hx hb hr hlocks hP hD hS (rfl) dM_begin_29
set_option maxHeartbeats 4000000 in
set_option maxRecDepth 100000 in
theorem m_begin_g (l : Launch) (D : va_G) (cI cJ cZ : ClassId) (oM mA mC mT mF mO mV n J us gp si : Nat) (fM tM vM : Nat → Int64) (cM fF tF : Nat → Int32) (kd wr sn lf gr : Int32) (hn : n ≤ 64) (hJ : J ≤ 60) (hus : us ≤ J) (h3 : ¬ lf = 0) : pj_Met l yM_begin wsM_begin ({ frames := 1, cells := 0, slots := 0, locals := 21 }) D vwCl (pjT cI cJ cZ) pj_no [.ref oM] [(oM, .inr (4, [.int kd, .int (nI n), .int (nI J), .ref mA, .ref mC, .ref mT, .int (nI us), .int wr, .int sn, .int (nI si), .int 1, .int (nI gp), .ref mF, .ref mO, .ref mV, .int lf, .int (pjd lf)])), (mA, .inl (cJ, 64, .inr (.inl fM))), (mC, .inl (cI, 64, .inl cM)), (mT, .inl (cJ, 64, .inr (.inl tM))), (mF, .inl (cI, 60, .inl fF)), (mO, .inl (cI, 60, .inl tF)), (mV, .inl (cJ, 60, .inr (.inl vM)))] none [(oM, .inr (4, [.int 1, .int (nI n), .int (nI J), .ref mA, .ref mC, .ref mT, .int (nI us), .int wr, .int sn, .int (nI si), .int 1, .int (nI gp), .ref mF, .ref mO, .ref mV, .int lf, .int (pjd lf)])), (mA, .inl (cJ, 64, .inr (.inl fM))), (mC, .inl (cI, 64, .inl cM)), (mT, .inl (cJ, 64, .inr (.inl tM))), (mF, .inl (cI, 60, .inl fF)), (mO, .inl (cI, 60, .inl tF)), (mV, .inl (cJ, 60, .inr (.inl vM)))] 0 0 := by
  refine pj_of (by decide) rfl (Nat.le_of_ble_eq_true rfl) ?_
  intro p e s m below meth c A ls hx hb hml hr hts hown hlocks hin hA hK hP hD hS hG hl
  have hl : lv_has ls 1 [(0, .ref oM)] := hl
  refine lv_aload_n hx hb dM_begin_0 rfl (lv_at hl 0 rfl) ?_
  refine lv_aload_n hx hb dM_begin_1 rfl (lv_at hl 0 rfl) ?_
  refine va_get (D := D) (ci := 4) (v := .int 1) (C := "ReplayJournalModel") (T := TM) (N := 17) hx hb hts (pj_ups inM) hown hK hP 0 rfl rfl 10 (by decide) (hts _ (pj_up m_434)) (fun _ h9 => h9) rfl dM_begin_2 ?_
  refine lv_if_ne (tgt := 12) hx hb dM_begin_5 (by decide) (fun _ => ?_) (fun h9 => absurd h9 (by decide))
  refine lv_iconst (v := 0) hx hb dM_begin_12 (by decide) ?_
  refine pj_callV (w2 := [(oM, .inr (4, [.int 1, .int (nI n), .int (nI J), .ref mA, .ref mC, .ref mT, .int (nI us), .int wr, .int sn, .int (nI si), .int 1, .int (nI gp), .ref mF, .ref mO, .ref mV, .int lf, .int (pjd lf)])), (mA, .inl (cJ, 64, .inr (.inl fM))), (mC, .inl (cI, 64, .inl cM)), (mT, .inl (cJ, 64, .inr (.inl tM))), (mF, .inl (cI, 60, .inl fF)), (mO, .inl (cI, 60, .inl tF)), (mV, .inl (cJ, 60, .inr (.inl vM)))]) (wr := []) (rest := []) (st1 := [.int 0]) ⟨hx, hb, hml, hown, hts⟩ (m_stands_n l D cI cJ cZ oM mA mC mT mF mO mV n J us gp si fM tM vM cM fF tF kd wr sn lf 1 hn hJ hus h3) (cwV 1 hts (pj_gV m_514 m_516 m_16 m_24 m_517) rfl rfl rfl (by decide +kernel) ⟨Nat.le_of_ble_eq_true rfl, Nat.le_of_ble_eq_true rfl⟩) pj_no_ok trivial hK hP hD hS hA (ci := 4) (q0 := 0) rfl rfl [0, 1, 2, 3, 4, 5, 6] [] [0, 1, 2, 3, 4, 5, 6] rfl rfl rfl rfl (by decide) rfl rfl rfl hl.1 rfl (Nat.le_of_ble_eq_true rfl) dM_begin_13 ⟨Nat.le_of_ble_eq_true rfl, Nat.le_of_ble_eq_true rfl⟩ rfl rfl rfl (fun H locs hP hD hS => ?_)
  refine lv_if_eq (tgt := 29) hx hb dM_begin_16 (by decide) (fun _ => ?_) (fun h9 => (h9 rfl).elim)
  exact pj_vret hx hb hr hlocks hP hD hS (rfl) dM_begin_29
set_option maxHeartbeats 4000000 in
set_option maxRecDepth 100000 in
theorem m_begin_0 (l : Launch) (D : va_G) (cI cJ cZ : ClassId) (oM mA mC mT mF mO mV n J us gp si : Nat) (fM tM vM : Nat → Int64) (cM fF tF : Nat → Int32) (kd wr sn lf gr : Int32) (hn : n ≤ 64) (hJ : J ≤ 60) (hus : us ≤ J) (h3 : ¬ lf = 0) : pj_Met l yM_begin wsM_begin ({ frames := 1, cells := 0, slots := 0, locals := 21 }) D vwCl (pjT cI cJ cZ) pj_no [.ref oM] [(oM, .inr (4, [.int kd, .int (nI n), .int (nI J), .ref mA, .ref mC, .ref mT, .int (nI us), .int wr, .int sn, .int (nI si), .int 0, .int (nI gp), .ref mF, .ref mO, .ref mV, .int lf, .int (pjd lf)])), (mA, .inl (cJ, 64, .inr (.inl fM))), (mC, .inl (cI, 64, .inl cM)), (mT, .inl (cJ, 64, .inr (.inl tM))), (mF, .inl (cI, 60, .inl fF)), (mO, .inl (cI, 60, .inl tF)), (mV, .inl (cJ, 60, .inr (.inl vM)))] none [(oM, .inr (4, [.int 0, .int (nI n), .int (nI J), .ref mA, .ref mC, .ref mT, .int (nI us), .int wr, .int sn, .int (nI si), .int 1, .int (nI 0), .ref mF, .ref mO, .ref mV, .int lf, .int (pjd lf)])), (mA, .inl (cJ, 64, .inr (.inl fM))), (mC, .inl (cI, 64, .inl cM)), (mT, .inl (cJ, 64, .inr (.inl tM))), (mF, .inl (cI, 60, .inl fF)), (mO, .inl (cI, 60, .inl tF)), (mV, .inl (cJ, 60, .inr (.inl vM)))] 0 0 := by
  refine pj_of (by decide) rfl (Nat.le_of_ble_eq_true rfl) ?_
  intro p e s m below meth c A ls hx hb hml hr hts hown hlocks hin hA hK hP hD hS hG hl
  have hl : lv_has ls 1 [(0, .ref oM)] := hl
  refine lv_aload_n hx hb dM_begin_0 rfl (lv_at hl 0 rfl) ?_
  refine lv_aload_n hx hb dM_begin_1 rfl (lv_at hl 0 rfl) ?_
  refine va_get (D := D) (ci := 4) (v := .int 0) (C := "ReplayJournalModel") (T := TM) (N := 17) hx hb hts (pj_ups inM) hown hK hP 0 rfl rfl 10 (by decide) (hts _ (pj_up m_434)) (fun _ h9 => h9) rfl dM_begin_2 ?_
  refine lv_if_ne (tgt := 12) hx hb dM_begin_5 (by decide) (fun h9 => absurd h9 (fun h => h rfl)) (fun _ => ?_)
  refine lv_iconst (v := 1) hx hb dM_begin_8 (by decide) ?_
  refine lv_goto (tgt := 13) hx hb dM_begin_9 (by decide) ?_
  refine pj_callV (w2 := [(oM, .inr (4, [.int 0, .int (nI n), .int (nI J), .ref mA, .ref mC, .ref mT, .int (nI us), .int wr, .int sn, .int (nI si), .int 0, .int (nI gp), .ref mF, .ref mO, .ref mV, .int lf, .int (pjd lf)])), (mA, .inl (cJ, 64, .inr (.inl fM))), (mC, .inl (cI, 64, .inl cM)), (mT, .inl (cJ, 64, .inr (.inl tM))), (mF, .inl (cI, 60, .inl fF)), (mO, .inl (cI, 60, .inl tF)), (mV, .inl (cJ, 60, .inr (.inl vM)))]) (wr := []) (rest := []) (st1 := [.int 1]) ⟨hx, hb, hml, hown, hts⟩ (m_stands_y l D cI cJ cZ oM mA mC mT mF mO mV n J us gp si fM tM vM cM fF tF kd wr sn lf 0 hn hJ hus h3) (cwV 1 hts (pj_gV m_514 m_516 m_16 m_24 m_517) rfl rfl rfl (by decide +kernel) ⟨Nat.le_of_ble_eq_true rfl, Nat.le_of_ble_eq_true rfl⟩) pj_no_ok trivial hK hP hD hS hA (ci := 4) (q0 := 0) rfl rfl [0, 1, 2, 3, 4, 5, 6] [] [0, 1, 2, 3, 4, 5, 6] rfl rfl rfl rfl (by decide) rfl rfl rfl hl.1 rfl (Nat.le_of_ble_eq_true rfl) dM_begin_13 ⟨Nat.le_of_ble_eq_true rfl, Nat.le_of_ble_eq_true rfl⟩ rfl rfl rfl (fun H locs hP hD hS => ?_)
  refine lv_if_eq (tgt := 29) hx hb dM_begin_16 (by decide) (fun h9 => absurd h9 (by decide)) (fun _ => ?_)
  refine lv_aload_n hx hb dM_begin_19 rfl (lv_at hl 0 rfl) ?_
  refine lv_iconst (v := 1) hx hb dM_begin_20 (by decide) ?_
  refine va_put (D := D) (ci := 4) (v := .int 1) (ty := .boolean) (C := "ReplayJournalModel") (T := TM) (N := 17) hx hb hts (pj_ups inM) tyM tyM_ok nmM hown hK hP hD hS 0 rfl rfl 10 (by decide) (hts _ (pj_up m_434)) (fun _ h9 => h9) rfl (by decide +kernel) rfl rfl (Nat.le_of_ble_eq_true rfl) dM_begin_21 (fun H locs hP hD hS => ?_)
  have hP : va_P D vwCl [(oM, .inr (4, [.int 0, .int (nI n), .int (nI J), .ref mA, .ref mC, .ref mT, .int (nI us), .int wr, .int sn, .int (nI si), .int 1, .int (nI gp), .ref mF, .ref mO, .ref mV, .int lf, .int (pjd lf)])), (mA, .inl (cJ, 64, .inr (.inl fM))), (mC, .inl (cI, 64, .inl cM)), (mT, .inl (cJ, 64, .inr (.inl tM))), (mF, .inl (cI, 60, .inl fF)), (mO, .inl (cI, 60, .inl tF)), (mV, .inl (cJ, 60, .inr (.inl vM)))] H := hP
  have hD : va_D A [(oM, .inr (4, [.int 0, .int (nI n), .int (nI J), .ref mA, .ref mC, .ref mT, .int (nI us), .int wr, .int sn, .int (nI si), .int 1, .int (nI gp), .ref mF, .ref mO, .ref mV, .int lf, .int (pjd lf)])), (mA, .inl (cJ, 64, .inr (.inl fM))), (mC, .inl (cI, 64, .inl cM)), (mT, .inl (cJ, 64, .inr (.inl tM))), (mF, .inl (cI, 60, .inl fF)), (mO, .inl (cI, 60, .inl tF)), (mV, .inl (cJ, 60, .inr (.inl vM)))] := hD
  refine lv_aload_n hx hb dM_begin_24 rfl (lv_at hl 0 rfl) ?_
  refine lv_iconst (v := 0) hx hb dM_begin_25 (by decide) ?_
  refine va_put (D := D) (ci := 4) (v := .int 0) (ty := .int) (C := "ReplayJournalModel") (T := TM) (N := 17) hx hb hts (pj_ups inM) tyM tyM_ok nmM hown hK hP hD hS 0 rfl rfl 11 (by decide) (hts _ (pj_up m_435)) (fun _ h9 => h9) rfl (by decide +kernel) rfl rfl (Nat.le_of_ble_eq_true rfl) dM_begin_26 (fun H locs hP hD hS => ?_)
  have hP : va_P D vwCl [(oM, .inr (4, [.int 0, .int (nI n), .int (nI J), .ref mA, .ref mC, .ref mT, .int (nI us), .int wr, .int sn, .int (nI si), .int 1, .int 0, .ref mF, .ref mO, .ref mV, .int lf, .int (pjd lf)])), (mA, .inl (cJ, 64, .inr (.inl fM))), (mC, .inl (cI, 64, .inl cM)), (mT, .inl (cJ, 64, .inr (.inl tM))), (mF, .inl (cI, 60, .inl fF)), (mO, .inl (cI, 60, .inl tF)), (mV, .inl (cJ, 60, .inr (.inl vM)))] H := hP
  have hD : va_D A [(oM, .inr (4, [.int 0, .int (nI n), .int (nI J), .ref mA, .ref mC, .ref mT, .int (nI us), .int wr, .int sn, .int (nI si), .int 1, .int 0, .ref mF, .ref mO, .ref mV, .int lf, .int (pjd lf)])), (mA, .inl (cJ, 64, .inr (.inl fM))), (mC, .inl (cI, 64, .inl cM)), (mT, .inl (cJ, 64, .inr (.inl tM))), (mF, .inl (cI, 60, .inl fF)), (mO, .inl (cI, 60, .inl tF)), (mV, .inl (cJ, 60, .inr (.inl vM)))] := hD
  exact pj_vret hx hb hr hlocks hP hD hS (rfl) dM_begin_29
set_option maxHeartbeats 4000000 in
set_option maxRecDepth 100000 in
theorem m_drop_d (l : Launch) (D : va_G) (cI cJ cZ : ClassId) (oM mA mC mT mF mO mV n J us gp si : Nat) (fM tM vM : Nat → Int64) (cM fF tF : Nat → Int32) (kd wr sn lf gr : Int32) (hn : n ≤ 64) (hJ : J ≤ 60) (hus : us ≤ J) (h3 : lf = 0) : pj_Met l yM_drop wsM_drop ({ frames := 1, cells := 0, slots := 0, locals := 21 }) D vwCl (pjT cI cJ cZ) pj_no [.ref oM] [(oM, .inr (4, [.int kd, .int (nI n), .int (nI J), .ref mA, .ref mC, .ref mT, .int (nI us), .int wr, .int sn, .int (nI si), .int gr, .int (nI gp), .ref mF, .ref mO, .ref mV, .int lf, .int (pjd lf)])), (mA, .inl (cJ, 64, .inr (.inl fM))), (mC, .inl (cI, 64, .inl cM)), (mT, .inl (cJ, 64, .inr (.inl tM))), (mF, .inl (cI, 60, .inl fF)), (mO, .inl (cI, 60, .inl tF)), (mV, .inl (cJ, 60, .inr (.inl vM)))] (some (.int 0)) [(oM, .inr (4, [.int 1, .int (nI n), .int (nI J), .ref mA, .ref mC, .ref mT, .int (nI us), .int wr, .int sn, .int (nI si), .int gr, .int (nI gp), .ref mF, .ref mO, .ref mV, .int lf, .int (pjd lf)])), (mA, .inl (cJ, 64, .inr (.inl fM))), (mC, .inl (cI, 64, .inl cM)), (mT, .inl (cJ, 64, .inr (.inl tM))), (mF, .inl (cI, 60, .inl fF)), (mO, .inl (cI, 60, .inl tF)), (mV, .inl (cJ, 60, .inr (.inl vM)))] 0 0 := by
  refine pj_of (by decide) rfl (Nat.le_of_ble_eq_true rfl) ?_
  intro p e s m below meth c A ls hx hb hml hr hts hown hlocks hin hA hK hP hD hS hG hl
  have hl : lv_has ls 1 [(0, .ref oM)] := hl
  refine lv_aload_n hx hb dM_drop_0 rfl (lv_at hl 0 rfl) ?_
  refine lv_aload_n hx hb dM_drop_1 rfl (lv_at hl 0 rfl) ?_
  refine va_get (D := D) (ci := 4) (v := .int gr) (C := "ReplayJournalModel") (T := TM) (N := 17) hx hb hts (pj_ups inM) hown hK hP 0 rfl rfl 10 (by decide) (hts _ (pj_up m_434)) (fun _ h9 => h9) rfl dM_drop_2 ?_
  refine pj_callV (w2 := [(oM, .inr (4, [.int 1, .int (nI n), .int (nI J), .ref mA, .ref mC, .ref mT, .int (nI us), .int wr, .int sn, .int (nI si), .int gr, .int (nI gp), .ref mF, .ref mO, .ref mV, .int lf, .int (pjd lf)])), (mA, .inl (cJ, 64, .inr (.inl fM))), (mC, .inl (cI, 64, .inl cM)), (mT, .inl (cJ, 64, .inr (.inl tM))), (mF, .inl (cI, 60, .inl fF)), (mO, .inl (cI, 60, .inl tF)), (mV, .inl (cJ, 60, .inr (.inl vM)))]) (wr := []) (rest := []) (st1 := [.int 0]) ⟨hx, hb, hml, hown, hts⟩ (m_stands_d l D cI cJ cZ oM mA mC mT mF mO mV n J us gp si fM tM vM cM fF tF kd wr sn lf gr hn hJ hus h3 gr) (cwV 1 hts (pj_gV m_514 m_516 m_16 m_24 m_517) rfl rfl rfl (by decide +kernel) ⟨Nat.le_of_ble_eq_true rfl, Nat.le_of_ble_eq_true rfl⟩) pj_no_ok trivial hK hP hD hS hA (ci := 4) (q0 := 0) rfl rfl [0, 1, 2, 3, 4, 5, 6] [] [0, 1, 2, 3, 4, 5, 6] rfl rfl rfl rfl (by decide) rfl rfl rfl hl.1 rfl (Nat.le_of_ble_eq_true rfl) dM_drop_5 ⟨Nat.le_of_ble_eq_true rfl, Nat.le_of_ble_eq_true rfl⟩ rfl rfl rfl (fun H locs hP hD hS => ?_)
  refine lv_if_ne (tgt := 13) hx hb dM_drop_8 (by decide) (fun h9 => absurd h9 (fun h => h rfl)) (fun _ => ?_)
  refine lv_iconst (v := 0) hx hb dM_drop_11 (by decide) ?_
  exact pj_iret hx hb hr hlocks hP hD hS (rfl) (rfl) dM_drop_12
set_option maxHeartbeats 4000000 in
set_option maxRecDepth 100000 in
theorem m_drop_g (l : Launch) (D : va_G) (cI cJ cZ : ClassId) (oM mA mC mT mF mO mV n J us gp si : Nat) (fM tM vM : Nat → Int64) (cM fF tF : Nat → Int32) (kd wr sn lf gr : Int32) (hn : n ≤ 64) (hJ : J ≤ 60) (hus : us ≤ J) (h3 : ¬ lf = 0) : pj_Met l yM_drop wsM_drop ({ frames := 1, cells := 0, slots := 0, locals := 21 }) D vwCl (pjT cI cJ cZ) pj_no [.ref oM] [(oM, .inr (4, [.int kd, .int (nI n), .int (nI J), .ref mA, .ref mC, .ref mT, .int (nI us), .int wr, .int sn, .int (nI si), .int 0, .int (nI gp), .ref mF, .ref mO, .ref mV, .int lf, .int (pjd lf)])), (mA, .inl (cJ, 64, .inr (.inl fM))), (mC, .inl (cI, 64, .inl cM)), (mT, .inl (cJ, 64, .inr (.inl tM))), (mF, .inl (cI, 60, .inl fF)), (mO, .inl (cI, 60, .inl tF)), (mV, .inl (cJ, 60, .inr (.inl vM)))] (some (.int 0)) [(oM, .inr (4, [.int 1, .int (nI n), .int (nI J), .ref mA, .ref mC, .ref mT, .int (nI us), .int wr, .int sn, .int (nI si), .int 0, .int (nI gp), .ref mF, .ref mO, .ref mV, .int lf, .int (pjd lf)])), (mA, .inl (cJ, 64, .inr (.inl fM))), (mC, .inl (cI, 64, .inl cM)), (mT, .inl (cJ, 64, .inr (.inl tM))), (mF, .inl (cI, 60, .inl fF)), (mO, .inl (cI, 60, .inl tF)), (mV, .inl (cJ, 60, .inr (.inl vM)))] 0 0 := by
  refine pj_of (by decide) rfl (Nat.le_of_ble_eq_true rfl) ?_
  intro p e s m below meth c A ls hx hb hml hr hts hown hlocks hin hA hK hP hD hS hG hl
  have hl : lv_has ls 1 [(0, .ref oM)] := hl
  refine lv_aload_n hx hb dM_drop_0 rfl (lv_at hl 0 rfl) ?_
  refine lv_aload_n hx hb dM_drop_1 rfl (lv_at hl 0 rfl) ?_
  refine va_get (D := D) (ci := 4) (v := .int 0) (C := "ReplayJournalModel") (T := TM) (N := 17) hx hb hts (pj_ups inM) hown hK hP 0 rfl rfl 10 (by decide) (hts _ (pj_up m_434)) (fun _ h9 => h9) rfl dM_drop_2 ?_
  refine pj_callV (w2 := [(oM, .inr (4, [.int 1, .int (nI n), .int (nI J), .ref mA, .ref mC, .ref mT, .int (nI us), .int wr, .int sn, .int (nI si), .int 0, .int (nI gp), .ref mF, .ref mO, .ref mV, .int lf, .int (pjd lf)])), (mA, .inl (cJ, 64, .inr (.inl fM))), (mC, .inl (cI, 64, .inl cM)), (mT, .inl (cJ, 64, .inr (.inl tM))), (mF, .inl (cI, 60, .inl fF)), (mO, .inl (cI, 60, .inl tF)), (mV, .inl (cJ, 60, .inr (.inl vM)))]) (wr := []) (rest := []) (st1 := [.int 0]) ⟨hx, hb, hml, hown, hts⟩ (m_stands_n l D cI cJ cZ oM mA mC mT mF mO mV n J us gp si fM tM vM cM fF tF kd wr sn lf 0 hn hJ hus h3) (cwV 1 hts (pj_gV m_514 m_516 m_16 m_24 m_517) rfl rfl rfl (by decide +kernel) ⟨Nat.le_of_ble_eq_true rfl, Nat.le_of_ble_eq_true rfl⟩) pj_no_ok trivial hK hP hD hS hA (ci := 4) (q0 := 0) rfl rfl [0, 1, 2, 3, 4, 5, 6] [] [0, 1, 2, 3, 4, 5, 6] rfl rfl rfl rfl (by decide) rfl rfl rfl hl.1 rfl (Nat.le_of_ble_eq_true rfl) dM_drop_5 ⟨Nat.le_of_ble_eq_true rfl, Nat.le_of_ble_eq_true rfl⟩ rfl rfl rfl (fun H locs hP hD hS => ?_)
  refine lv_if_ne (tgt := 13) hx hb dM_drop_8 (by decide) (fun h9 => absurd h9 (fun h => h rfl)) (fun _ => ?_)
  refine lv_iconst (v := 0) hx hb dM_drop_11 (by decide) ?_
  exact pj_iret hx hb hr hlocks hP hD hS (rfl) (rfl) dM_drop_12
set_option maxHeartbeats 4000000 in
set_option maxRecDepth 100000 in
theorem m_drop_0 (l : Launch) (D : va_G) (cI cJ cZ : ClassId) (oM mA mC mT mF mO mV n J us gp si : Nat) (fM tM vM : Nat → Int64) (cM fF tF : Nat → Int32) (kd wr sn lf gr : Int32) (hn : n ≤ 64) (hJ : J ≤ 60) (hus : us ≤ J) (h3 : ¬ lf = 0) : pj_Met l yM_drop wsM_drop ({ frames := 1, cells := 0, slots := 0, locals := 21 }) D vwCl (pjT cI cJ cZ) pj_no [.ref oM] [(oM, .inr (4, [.int kd, .int (nI n), .int (nI J), .ref mA, .ref mC, .ref mT, .int (nI us), .int wr, .int sn, .int (nI si), .int 1, .int (nI gp), .ref mF, .ref mO, .ref mV, .int lf, .int (pjd lf)])), (mA, .inl (cJ, 64, .inr (.inl fM))), (mC, .inl (cI, 64, .inl cM)), (mT, .inl (cJ, 64, .inr (.inl tM))), (mF, .inl (cI, 60, .inl fF)), (mO, .inl (cI, 60, .inl tF)), (mV, .inl (cJ, 60, .inr (.inl vM)))] (some (.int (nI gp))) [(oM, .inr (4, [.int 0, .int (nI n), .int (nI J), .ref mA, .ref mC, .ref mT, .int (nI us), .int wr, .int sn, .int (nI si), .int 0, .int (nI gp), .ref mF, .ref mO, .ref mV, .int lf, .int (pjd lf)])), (mA, .inl (cJ, 64, .inr (.inl fM))), (mC, .inl (cI, 64, .inl cM)), (mT, .inl (cJ, 64, .inr (.inl tM))), (mF, .inl (cI, 60, .inl fF)), (mO, .inl (cI, 60, .inl tF)), (mV, .inl (cJ, 60, .inr (.inl vM)))] 0 0 := by
  refine pj_of (by decide) rfl (Nat.le_of_ble_eq_true rfl) ?_
  intro p e s m below meth c A ls hx hb hml hr hts hown hlocks hin hA hK hP hD hS hG hl
  have hl : lv_has ls 1 [(0, .ref oM)] := hl
  refine lv_aload_n hx hb dM_drop_0 rfl (lv_at hl 0 rfl) ?_
  refine lv_aload_n hx hb dM_drop_1 rfl (lv_at hl 0 rfl) ?_
  refine va_get (D := D) (ci := 4) (v := .int 1) (C := "ReplayJournalModel") (T := TM) (N := 17) hx hb hts (pj_ups inM) hown hK hP 0 rfl rfl 10 (by decide) (hts _ (pj_up m_434)) (fun _ h9 => h9) rfl dM_drop_2 ?_
  refine pj_callV (w2 := [(oM, .inr (4, [.int 0, .int (nI n), .int (nI J), .ref mA, .ref mC, .ref mT, .int (nI us), .int wr, .int sn, .int (nI si), .int 1, .int (nI gp), .ref mF, .ref mO, .ref mV, .int lf, .int (pjd lf)])), (mA, .inl (cJ, 64, .inr (.inl fM))), (mC, .inl (cI, 64, .inl cM)), (mT, .inl (cJ, 64, .inr (.inl tM))), (mF, .inl (cI, 60, .inl fF)), (mO, .inl (cI, 60, .inl tF)), (mV, .inl (cJ, 60, .inr (.inl vM)))]) (wr := []) (rest := []) (st1 := [.int 1]) ⟨hx, hb, hml, hown, hts⟩ (m_stands_y l D cI cJ cZ oM mA mC mT mF mO mV n J us gp si fM tM vM cM fF tF kd wr sn lf 1 hn hJ hus h3) (cwV 1 hts (pj_gV m_514 m_516 m_16 m_24 m_517) rfl rfl rfl (by decide +kernel) ⟨Nat.le_of_ble_eq_true rfl, Nat.le_of_ble_eq_true rfl⟩) pj_no_ok trivial hK hP hD hS hA (ci := 4) (q0 := 0) rfl rfl [0, 1, 2, 3, 4, 5, 6] [] [0, 1, 2, 3, 4, 5, 6] rfl rfl rfl rfl (by decide) rfl rfl rfl hl.1 rfl (Nat.le_of_ble_eq_true rfl) dM_drop_5 ⟨Nat.le_of_ble_eq_true rfl, Nat.le_of_ble_eq_true rfl⟩ rfl rfl rfl (fun H locs hP hD hS => ?_)
  refine lv_if_ne (tgt := 13) hx hb dM_drop_8 (by decide) (fun _ => ?_) (fun h9 => absurd h9 (by decide))
  refine lv_aload_n hx hb dM_drop_13 rfl (lv_at hl 0 rfl) ?_
  refine lv_iconst (v := 0) hx hb dM_drop_14 (by decide) ?_
  refine va_put (D := D) (ci := 4) (v := .int 0) (ty := .boolean) (C := "ReplayJournalModel") (T := TM) (N := 17) hx hb hts (pj_ups inM) tyM tyM_ok nmM hown hK hP hD hS 0 rfl rfl 10 (by decide) (hts _ (pj_up m_434)) (fun _ h9 => h9) rfl (by decide +kernel) rfl rfl (Nat.le_of_ble_eq_true rfl) dM_drop_15 (fun H locs hP hD hS => ?_)
  have hP : va_P D vwCl [(oM, .inr (4, [.int 0, .int (nI n), .int (nI J), .ref mA, .ref mC, .ref mT, .int (nI us), .int wr, .int sn, .int (nI si), .int 0, .int (nI gp), .ref mF, .ref mO, .ref mV, .int lf, .int (pjd lf)])), (mA, .inl (cJ, 64, .inr (.inl fM))), (mC, .inl (cI, 64, .inl cM)), (mT, .inl (cJ, 64, .inr (.inl tM))), (mF, .inl (cI, 60, .inl fF)), (mO, .inl (cI, 60, .inl tF)), (mV, .inl (cJ, 60, .inr (.inl vM)))] H := hP
  have hD : va_D A [(oM, .inr (4, [.int 0, .int (nI n), .int (nI J), .ref mA, .ref mC, .ref mT, .int (nI us), .int wr, .int sn, .int (nI si), .int 0, .int (nI gp), .ref mF, .ref mO, .ref mV, .int lf, .int (pjd lf)])), (mA, .inl (cJ, 64, .inr (.inl fM))), (mC, .inl (cI, 64, .inl cM)), (mT, .inl (cJ, 64, .inr (.inl tM))), (mF, .inl (cI, 60, .inl fF)), (mO, .inl (cI, 60, .inl tF)), (mV, .inl (cJ, 60, .inr (.inl vM)))] := hD
  refine lv_aload_n hx hb dM_drop_18 rfl (lv_at hl 0 rfl) ?_
  refine va_get (D := D) (ci := 4) (v := .int (nI gp)) (C := "ReplayJournalModel") (T := TM) (N := 17) hx hb hts (pj_ups inM) hown hK hP 0 rfl rfl 11 (by decide) (hts _ (pj_up m_435)) (fun _ h9 => h9) rfl dM_drop_19 ?_
  exact pj_iret hx hb hr hlocks hP hD hS (rfl) (rfl) dM_drop_22
set_option maxHeartbeats 4000000 in
set_option maxRecDepth 100000 in
theorem m_crash_1 (l : Launch) (D : va_G) (cI cJ cZ : ClassId) (oM mA mC mT mF mO mV n J us gp si : Nat) (fM tM vM : Nat → Int64) (cM fF tF : Nat → Int32) (kd wr sn lf gr : Int32) (hn : n ≤ 64) (hJ : J ≤ 60) (hus : us ≤ J) (x : Int32) (h : x < -1 ∨ 1000 < x) : pj_Met l yM_crash wsM_crash ({ frames := 1, cells := 0, slots := 0, locals := 22 }) D vwCl (pjT cI cJ cZ) pj_no [.ref oM, .int x] [(oM, .inr (4, [.int kd, .int (nI n), .int (nI J), .ref mA, .ref mC, .ref mT, .int (nI us), .int wr, .int sn, .int (nI si), .int gr, .int (nI gp), .ref mF, .ref mO, .ref mV, .int lf, .int (pjd lf)])), (mA, .inl (cJ, 64, .inr (.inl fM))), (mC, .inl (cI, 64, .inl cM)), (mT, .inl (cJ, 64, .inr (.inl tM))), (mF, .inl (cI, 60, .inl fF)), (mO, .inl (cI, 60, .inl tF)), (mV, .inl (cJ, 60, .inr (.inl vM)))] none [(oM, .inr (4, [.int 1, .int (nI n), .int (nI J), .ref mA, .ref mC, .ref mT, .int (nI us), .int wr, .int sn, .int (nI si), .int gr, .int (nI gp), .ref mF, .ref mO, .ref mV, .int lf, .int (pjd lf)])), (mA, .inl (cJ, 64, .inr (.inl fM))), (mC, .inl (cI, 64, .inl cM)), (mT, .inl (cJ, 64, .inr (.inl tM))), (mF, .inl (cI, 60, .inl fF)), (mO, .inl (cI, 60, .inl tF)), (mV, .inl (cJ, 60, .inr (.inl vM)))] 0 0 := by
  refine pj_of (by decide) rfl (Nat.le_of_ble_eq_true rfl) ?_
  intro p e s m below meth c A ls hx hb hml hr hts hown hlocks hin hA hK hP hD hS hG hl
  have hl : lv_has ls 2 [(0, .ref oM), (1, .int x)] := hl
  refine lv_aload_n hx hb dM_crash_0 rfl (lv_at hl 0 rfl) ?_
  refine lv_iload_n hx hb dM_crash_1 rfl (lv_at hl 1 rfl) ?_
  refine lv_iconst (v := -1) hx hb dM_crash_2 (by decide) ?_
  refine lv_icmp_lt (tgt := 17) hx hb dM_crash_3 (by decide) (fun c1 => ?_) (fun c1 => ?_)
  · refine lv_iconst (v := 0) hx hb dM_crash_17 (by decide) ?_
    refine lv_aload_n hx hb dM_crash_18 rfl (lv_at hl 0 rfl) ?_
    refine va_get (D := D) (ci := 4) (v := .int (pjd lf)) (C := "ReplayJournalModel") (T := TM) (N := 17) hx hb hts (pj_ups inM) hown hK hP 0 rfl rfl 16 (by decide) (hts _ (pj_up m_440)) (fun _ h9 => h9) rfl dM_crash_19 ?_
    refine lv_if_ne (tgt := 29) hx hb dM_crash_22 (by decide) (fun c9 => ?_) (fun c9 => ?_)
    · refine lv_iconst (v := 0) hx hb dM_crash_29 (by decide) ?_
      refine pj_callV (w2 := [(oM, .inr (4, [.int 1, .int (nI n), .int (nI J), .ref mA, .ref mC, .ref mT, .int (nI us), .int wr, .int sn, .int (nI si), .int gr, .int (nI gp), .ref mF, .ref mO, .ref mV, .int lf, .int (pjd lf)])), (mA, .inl (cJ, 64, .inr (.inl fM))), (mC, .inl (cI, 64, .inl cM)), (mT, .inl (cJ, 64, .inr (.inl tM))), (mF, .inl (cI, 60, .inl fF)), (mO, .inl (cI, 60, .inl tF)), (mV, .inl (cJ, 60, .inr (.inl vM)))]) (wr := []) (rest := []) (st1 := [.int 0]) ⟨hx, hb, hml, hown, hts⟩ (m_goes_1 l D cI cJ cZ oM mA mC mT mF mO mV n J us gp si fM tM vM cM fF tF kd wr sn lf gr hn hJ hus 0) (cwV 2 hts (pj_gV m_490 m_492 m_12 m_24 m_493) rfl rfl rfl (by decide +kernel) ⟨Nat.le_of_ble_eq_true rfl, Nat.le_of_ble_eq_true rfl⟩) pj_no_ok trivial hK hP hD hS hA (ci := 4) (q0 := 0) rfl rfl [0, 1, 2, 3, 4, 5, 6] [] [0, 1, 2, 3, 4, 5, 6] rfl rfl rfl rfl (by decide) rfl rfl rfl hl.1 rfl (Nat.le_of_ble_eq_true rfl) dM_crash_30 ⟨Nat.le_of_ble_eq_true rfl, Nat.le_of_ble_eq_true rfl⟩ rfl rfl rfl (fun H locs hP hD hS => ?_)
      refine lv_if_eq (tgt := 54) hx hb dM_crash_33 (by decide) (fun _ => ?_) (fun h9 => (h9 rfl).elim)
      exact pj_vret hx hb hr hlocks hP hD hS (rfl) dM_crash_54
    · refine lv_iconst (v := 1) hx hb dM_crash_25 (by decide) ?_
      refine lv_goto (tgt := 30) hx hb dM_crash_26 (by decide) ?_
      refine pj_callV (w2 := [(oM, .inr (4, [.int 1, .int (nI n), .int (nI J), .ref mA, .ref mC, .ref mT, .int (nI us), .int wr, .int sn, .int (nI si), .int gr, .int (nI gp), .ref mF, .ref mO, .ref mV, .int lf, .int (pjd lf)])), (mA, .inl (cJ, 64, .inr (.inl fM))), (mC, .inl (cI, 64, .inl cM)), (mT, .inl (cJ, 64, .inr (.inl tM))), (mF, .inl (cI, 60, .inl fF)), (mO, .inl (cI, 60, .inl tF)), (mV, .inl (cJ, 60, .inr (.inl vM)))]) (wr := []) (rest := []) (st1 := [.int 0]) ⟨hx, hb, hml, hown, hts⟩ (m_goes_1 l D cI cJ cZ oM mA mC mT mF mO mV n J us gp si fM tM vM cM fF tF kd wr sn lf gr hn hJ hus 1) (cwV 2 hts (pj_gV m_490 m_492 m_12 m_24 m_493) rfl rfl rfl (by decide +kernel) ⟨Nat.le_of_ble_eq_true rfl, Nat.le_of_ble_eq_true rfl⟩) pj_no_ok trivial hK hP hD hS hA (ci := 4) (q0 := 0) rfl rfl [0, 1, 2, 3, 4, 5, 6] [] [0, 1, 2, 3, 4, 5, 6] rfl rfl rfl rfl (by decide) rfl rfl rfl hl.1 rfl (Nat.le_of_ble_eq_true rfl) dM_crash_30 ⟨Nat.le_of_ble_eq_true rfl, Nat.le_of_ble_eq_true rfl⟩ rfl rfl rfl (fun H locs hP hD hS => ?_)
      refine lv_if_eq (tgt := 54) hx hb dM_crash_33 (by decide) (fun _ => ?_) (fun h9 => (h9 rfl).elim)
      exact pj_vret hx hb hr hlocks hP hD hS (rfl) dM_crash_54
  · refine lv_iload_n hx hb dM_crash_6 rfl (lv_at hl 1 rfl) ?_
    refine lv_sipush (v := 1000) hx hb dM_crash_7 (by decide) ?_
    refine lv_icmp_gt (tgt := 17) hx hb dM_crash_10 (by decide) (fun _ => ?_) (fun h9 => (h9 (h.resolve_left c1)).elim)
    refine lv_iconst (v := 0) hx hb dM_crash_17 (by decide) ?_
    refine lv_aload_n hx hb dM_crash_18 rfl (lv_at hl 0 rfl) ?_
    refine va_get (D := D) (ci := 4) (v := .int (pjd lf)) (C := "ReplayJournalModel") (T := TM) (N := 17) hx hb hts (pj_ups inM) hown hK hP 0 rfl rfl 16 (by decide) (hts _ (pj_up m_440)) (fun _ h9 => h9) rfl dM_crash_19 ?_
    refine lv_if_ne (tgt := 29) hx hb dM_crash_22 (by decide) (fun c9 => ?_) (fun c9 => ?_)
    · refine lv_iconst (v := 0) hx hb dM_crash_29 (by decide) ?_
      refine pj_callV (w2 := [(oM, .inr (4, [.int 1, .int (nI n), .int (nI J), .ref mA, .ref mC, .ref mT, .int (nI us), .int wr, .int sn, .int (nI si), .int gr, .int (nI gp), .ref mF, .ref mO, .ref mV, .int lf, .int (pjd lf)])), (mA, .inl (cJ, 64, .inr (.inl fM))), (mC, .inl (cI, 64, .inl cM)), (mT, .inl (cJ, 64, .inr (.inl tM))), (mF, .inl (cI, 60, .inl fF)), (mO, .inl (cI, 60, .inl tF)), (mV, .inl (cJ, 60, .inr (.inl vM)))]) (wr := []) (rest := []) (st1 := [.int 0]) ⟨hx, hb, hml, hown, hts⟩ (m_goes_1 l D cI cJ cZ oM mA mC mT mF mO mV n J us gp si fM tM vM cM fF tF kd wr sn lf gr hn hJ hus 0) (cwV 2 hts (pj_gV m_490 m_492 m_12 m_24 m_493) rfl rfl rfl (by decide +kernel) ⟨Nat.le_of_ble_eq_true rfl, Nat.le_of_ble_eq_true rfl⟩) pj_no_ok trivial hK hP hD hS hA (ci := 4) (q0 := 0) rfl rfl [0, 1, 2, 3, 4, 5, 6] [] [0, 1, 2, 3, 4, 5, 6] rfl rfl rfl rfl (by decide) rfl rfl rfl hl.1 rfl (Nat.le_of_ble_eq_true rfl) dM_crash_30 ⟨Nat.le_of_ble_eq_true rfl, Nat.le_of_ble_eq_true rfl⟩ rfl rfl rfl (fun H locs hP hD hS => ?_)
      refine lv_if_eq (tgt := 54) hx hb dM_crash_33 (by decide) (fun _ => ?_) (fun h9 => (h9 rfl).elim)
      exact pj_vret hx hb hr hlocks hP hD hS (rfl) dM_crash_54
    · refine lv_iconst (v := 1) hx hb dM_crash_25 (by decide) ?_
      refine lv_goto (tgt := 30) hx hb dM_crash_26 (by decide) ?_
      refine pj_callV (w2 := [(oM, .inr (4, [.int 1, .int (nI n), .int (nI J), .ref mA, .ref mC, .ref mT, .int (nI us), .int wr, .int sn, .int (nI si), .int gr, .int (nI gp), .ref mF, .ref mO, .ref mV, .int lf, .int (pjd lf)])), (mA, .inl (cJ, 64, .inr (.inl fM))), (mC, .inl (cI, 64, .inl cM)), (mT, .inl (cJ, 64, .inr (.inl tM))), (mF, .inl (cI, 60, .inl fF)), (mO, .inl (cI, 60, .inl tF)), (mV, .inl (cJ, 60, .inr (.inl vM)))]) (wr := []) (rest := []) (st1 := [.int 0]) ⟨hx, hb, hml, hown, hts⟩ (m_goes_1 l D cI cJ cZ oM mA mC mT mF mO mV n J us gp si fM tM vM cM fF tF kd wr sn lf gr hn hJ hus 1) (cwV 2 hts (pj_gV m_490 m_492 m_12 m_24 m_493) rfl rfl rfl (by decide +kernel) ⟨Nat.le_of_ble_eq_true rfl, Nat.le_of_ble_eq_true rfl⟩) pj_no_ok trivial hK hP hD hS hA (ci := 4) (q0 := 0) rfl rfl [0, 1, 2, 3, 4, 5, 6] [] [0, 1, 2, 3, 4, 5, 6] rfl rfl rfl rfl (by decide) rfl rfl rfl hl.1 rfl (Nat.le_of_ble_eq_true rfl) dM_crash_30 ⟨Nat.le_of_ble_eq_true rfl, Nat.le_of_ble_eq_true rfl⟩ rfl rfl rfl (fun H locs hP hD hS => ?_)
      refine lv_if_eq (tgt := 54) hx hb dM_crash_33 (by decide) (fun _ => ?_) (fun h9 => (h9 rfl).elim)
      exact pj_vret hx hb hr hlocks hP hD hS (rfl) dM_crash_54
set_option maxHeartbeats 4000000 in
set_option maxRecDepth 100000 in
theorem m_crash_2 (l : Launch) (D : va_G) (cI cJ cZ : ClassId) (oM mA mC mT mF mO mV n J us gp si : Nat) (fM tM vM : Nat → Int64) (cM fF tF : Nat → Int32) (kd wr sn lf gr : Int32) (hn : n ≤ 64) (hJ : J ≤ 60) (hus : us ≤ J) (x : Int32) (h2 : ¬ x < -1 ∧ ¬ 1000 < x) (h3 : lf = 0) : pj_Met l yM_crash wsM_crash ({ frames := 1, cells := 0, slots := 0, locals := 22 }) D vwCl (pjT cI cJ cZ) pj_no [.ref oM, .int x] [(oM, .inr (4, [.int kd, .int (nI n), .int (nI J), .ref mA, .ref mC, .ref mT, .int (nI us), .int wr, .int sn, .int (nI si), .int gr, .int (nI gp), .ref mF, .ref mO, .ref mV, .int lf, .int (pjd lf)])), (mA, .inl (cJ, 64, .inr (.inl fM))), (mC, .inl (cI, 64, .inl cM)), (mT, .inl (cJ, 64, .inr (.inl tM))), (mF, .inl (cI, 60, .inl fF)), (mO, .inl (cI, 60, .inl tF)), (mV, .inl (cJ, 60, .inr (.inl vM)))] none [(oM, .inr (4, [.int 2, .int (nI n), .int (nI J), .ref mA, .ref mC, .ref mT, .int (nI us), .int wr, .int sn, .int (nI si), .int gr, .int (nI gp), .ref mF, .ref mO, .ref mV, .int lf, .int (pjd lf)])), (mA, .inl (cJ, 64, .inr (.inl fM))), (mC, .inl (cI, 64, .inl cM)), (mT, .inl (cJ, 64, .inr (.inl tM))), (mF, .inl (cI, 60, .inl fF)), (mO, .inl (cI, 60, .inl tF)), (mV, .inl (cJ, 60, .inr (.inl vM)))] 0 0 := by
  refine pj_of (by decide) rfl (Nat.le_of_ble_eq_true rfl) ?_
  intro p e s m below meth c A ls hx hb hml hr hts hown hlocks hin hA hK hP hD hS hG hl
  have hl : lv_has ls 2 [(0, .ref oM), (1, .int x)] := hl
  refine lv_aload_n hx hb dM_crash_0 rfl (lv_at hl 0 rfl) ?_
  refine lv_iload_n hx hb dM_crash_1 rfl (lv_at hl 1 rfl) ?_
  refine lv_iconst (v := -1) hx hb dM_crash_2 (by decide) ?_
  refine lv_icmp_lt (tgt := 17) hx hb dM_crash_3 (by decide) (fun h9 => absurd h9 h2.1) (fun _ => ?_)
  refine lv_iload_n hx hb dM_crash_6 rfl (lv_at hl 1 rfl) ?_
  refine lv_sipush (v := 1000) hx hb dM_crash_7 (by decide) ?_
  refine lv_icmp_gt (tgt := 17) hx hb dM_crash_10 (by decide) (fun h9 => absurd h9 h2.2) (fun _ => ?_)
  refine lv_iconst (v := 1) hx hb dM_crash_13 (by decide) ?_
  refine lv_goto (tgt := 18) hx hb dM_crash_14 (by decide) ?_
  refine lv_aload_n hx hb dM_crash_18 rfl (lv_at hl 0 rfl) ?_
  refine va_get (D := D) (ci := 4) (v := .int (pjd lf)) (C := "ReplayJournalModel") (T := TM) (N := 17) hx hb hts (pj_ups inM) hown hK hP 0 rfl rfl 16 (by decide) (hts _ (pj_up m_440)) (fun _ h9 => h9) rfl dM_crash_19 ?_
  refine lv_if_ne (tgt := 29) hx hb dM_crash_22 (by decide) (fun _ => ?_) (fun h9 => absurd h9 (by rw [pjd_1 h3]; decide))
  refine lv_iconst (v := 0) hx hb dM_crash_29 (by decide) ?_
  refine pj_callV (w2 := [(oM, .inr (4, [.int 2, .int (nI n), .int (nI J), .ref mA, .ref mC, .ref mT, .int (nI us), .int wr, .int sn, .int (nI si), .int gr, .int (nI gp), .ref mF, .ref mO, .ref mV, .int lf, .int (pjd lf)])), (mA, .inl (cJ, 64, .inr (.inl fM))), (mC, .inl (cI, 64, .inl cM)), (mT, .inl (cJ, 64, .inr (.inl tM))), (mF, .inl (cI, 60, .inl fF)), (mO, .inl (cI, 60, .inl tF)), (mV, .inl (cJ, 60, .inr (.inl vM)))]) (wr := []) (rest := []) (st1 := [.int 0]) ⟨hx, hb, hml, hown, hts⟩ (m_goes_2 l D cI cJ cZ oM mA mC mT mF mO mV n J us gp si fM tM vM cM fF tF kd wr sn lf gr hn hJ hus) (cwV 2 hts (pj_gV m_490 m_492 m_12 m_24 m_493) rfl rfl rfl (by decide +kernel) ⟨Nat.le_of_ble_eq_true rfl, Nat.le_of_ble_eq_true rfl⟩) pj_no_ok trivial hK hP hD hS hA (ci := 4) (q0 := 0) rfl rfl [0, 1, 2, 3, 4, 5, 6] [] [0, 1, 2, 3, 4, 5, 6] rfl rfl rfl rfl (by decide) rfl rfl rfl hl.1 rfl (Nat.le_of_ble_eq_true rfl) dM_crash_30 ⟨Nat.le_of_ble_eq_true rfl, Nat.le_of_ble_eq_true rfl⟩ rfl rfl rfl (fun H locs hP hD hS => ?_)
  refine lv_if_eq (tgt := 54) hx hb dM_crash_33 (by decide) (fun _ => ?_) (fun h9 => (h9 rfl).elim)
  exact pj_vret hx hb hr hlocks hP hD hS (rfl) dM_crash_54
set_option maxHeartbeats 4000000 in
set_option maxRecDepth 100000 in
theorem m_crash_0 (l : Launch) (D : va_G) (cI cJ cZ : ClassId) (oM mA mC mT mF mO mV n J us gp si : Nat) (fM tM vM : Nat → Int64) (cM fF tF : Nat → Int32) (kd wr sn lf gr : Int32) (hn : n ≤ 64) (hJ : J ≤ 60) (hus : us ≤ J) (x : Int32) (h2 : ¬ x < -1 ∧ ¬ 1000 < x) (h3 : ¬ lf = 0) : pj_Met l yM_crash wsM_crash ({ frames := 1, cells := 0, slots := 0, locals := 22 }) D vwCl (pjT cI cJ cZ) pj_no [.ref oM, .int x] [(oM, .inr (4, [.int kd, .int (nI n), .int (nI J), .ref mA, .ref mC, .ref mT, .int (nI us), .int wr, .int sn, .int (nI si), .int gr, .int (nI gp), .ref mF, .ref mO, .ref mV, .int lf, .int (pjd lf)])), (mA, .inl (cJ, 64, .inr (.inl fM))), (mC, .inl (cI, 64, .inl cM)), (mT, .inl (cJ, 64, .inr (.inl tM))), (mF, .inl (cI, 60, .inl fF)), (mO, .inl (cI, 60, .inl tF)), (mV, .inl (cJ, 60, .inr (.inl vM)))] none [(oM, .inr (4, [.int 0, .int (nI n), .int (nI J), .ref mA, .ref mC, .ref mT, .int (nI us), .int wr, .int sn, .int (nI si), .int gr, .int (nI gp), .ref mF, .ref mO, .ref mV, .int x, .int (pjd x)])), (mA, .inl (cJ, 64, .inr (.inl fM))), (mC, .inl (cI, 64, .inl cM)), (mT, .inl (cJ, 64, .inr (.inl tM))), (mF, .inl (cI, 60, .inl fF)), (mO, .inl (cI, 60, .inl tF)), (mV, .inl (cJ, 60, .inr (.inl vM)))] 0 0 := by
  refine pj_of (by decide) rfl (Nat.le_of_ble_eq_true rfl) ?_
  intro p e s m below meth c A ls hx hb hml hr hts hown hlocks hin hA hK hP hD hS hG hl
  have hl : lv_has ls 2 [(0, .ref oM), (1, .int x)] := hl
  refine lv_aload_n hx hb dM_crash_0 rfl (lv_at hl 0 rfl) ?_
  refine lv_iload_n hx hb dM_crash_1 rfl (lv_at hl 1 rfl) ?_
  refine lv_iconst (v := -1) hx hb dM_crash_2 (by decide) ?_
  refine lv_icmp_lt (tgt := 17) hx hb dM_crash_3 (by decide) (fun h9 => absurd h9 h2.1) (fun _ => ?_)
  refine lv_iload_n hx hb dM_crash_6 rfl (lv_at hl 1 rfl) ?_
  refine lv_sipush (v := 1000) hx hb dM_crash_7 (by decide) ?_
  refine lv_icmp_gt (tgt := 17) hx hb dM_crash_10 (by decide) (fun h9 => absurd h9 h2.2) (fun _ => ?_)
  refine lv_iconst (v := 1) hx hb dM_crash_13 (by decide) ?_
  refine lv_goto (tgt := 18) hx hb dM_crash_14 (by decide) ?_
  refine lv_aload_n hx hb dM_crash_18 rfl (lv_at hl 0 rfl) ?_
  refine va_get (D := D) (ci := 4) (v := .int (pjd lf)) (C := "ReplayJournalModel") (T := TM) (N := 17) hx hb hts (pj_ups inM) hown hK hP 0 rfl rfl 16 (by decide) (hts _ (pj_up m_440)) (fun _ h9 => h9) rfl dM_crash_19 ?_
  refine lv_if_ne (tgt := 29) hx hb dM_crash_22 (by decide) (fun h9 => absurd h9 (fun z => z (pjd_0 h3))) (fun _ => ?_)
  refine lv_iconst (v := 1) hx hb dM_crash_25 (by decide) ?_
  refine lv_goto (tgt := 30) hx hb dM_crash_26 (by decide) ?_
  refine pj_callV (w2 := [(oM, .inr (4, [.int 0, .int (nI n), .int (nI J), .ref mA, .ref mC, .ref mT, .int (nI us), .int wr, .int sn, .int (nI si), .int gr, .int (nI gp), .ref mF, .ref mO, .ref mV, .int lf, .int (pjd lf)])), (mA, .inl (cJ, 64, .inr (.inl fM))), (mC, .inl (cI, 64, .inl cM)), (mT, .inl (cJ, 64, .inr (.inl tM))), (mF, .inl (cI, 60, .inl fF)), (mO, .inl (cI, 60, .inl tF)), (mV, .inl (cJ, 60, .inr (.inl vM)))]) (wr := []) (rest := []) (st1 := [.int 1]) ⟨hx, hb, hml, hown, hts⟩ (m_goes_0 l D cI cJ cZ oM mA mC mT mF mO mV n J us gp si fM tM vM cM fF tF kd wr sn lf gr hn hJ hus) (cwV 2 hts (pj_gV m_490 m_492 m_12 m_24 m_493) rfl rfl rfl (by decide +kernel) ⟨Nat.le_of_ble_eq_true rfl, Nat.le_of_ble_eq_true rfl⟩) pj_no_ok trivial hK hP hD hS hA (ci := 4) (q0 := 0) rfl rfl [0, 1, 2, 3, 4, 5, 6] [] [0, 1, 2, 3, 4, 5, 6] rfl rfl rfl rfl (by decide) rfl rfl rfl hl.1 rfl (Nat.le_of_ble_eq_true rfl) dM_crash_30 ⟨Nat.le_of_ble_eq_true rfl, Nat.le_of_ble_eq_true rfl⟩ rfl rfl rfl (fun H locs hP hD hS => ?_)
  refine lv_if_eq (tgt := 54) hx hb dM_crash_33 (by decide) (fun h9 => absurd h9 (by decide)) (fun _ => ?_)
  refine lv_aload_n hx hb dM_crash_36 rfl (lv_at hl 0 rfl) ?_
  refine lv_iload_n hx hb dM_crash_37 rfl (lv_at hl 1 rfl) ?_
  refine va_put (D := D) (ci := 4) (v := .int x) (ty := .int) (C := "ReplayJournalModel") (T := TM) (N := 17) hx hb hts (pj_ups inM) tyM tyM_ok nmM hown hK hP hD hS 0 rfl rfl 15 (by decide) (hts _ (pj_up m_439)) (fun _ h9 => h9) rfl (by decide +kernel) rfl rfl (Nat.le_of_ble_eq_true rfl) dM_crash_38 (fun H locs hP hD hS => ?_)
  have hP : va_P D vwCl [(oM, .inr (4, [.int 0, .int (nI n), .int (nI J), .ref mA, .ref mC, .ref mT, .int (nI us), .int wr, .int sn, .int (nI si), .int gr, .int (nI gp), .ref mF, .ref mO, .ref mV, .int x, .int (pjd lf)])), (mA, .inl (cJ, 64, .inr (.inl fM))), (mC, .inl (cI, 64, .inl cM)), (mT, .inl (cJ, 64, .inr (.inl tM))), (mF, .inl (cI, 60, .inl fF)), (mO, .inl (cI, 60, .inl tF)), (mV, .inl (cJ, 60, .inr (.inl vM)))] H := hP
  have hD : va_D A [(oM, .inr (4, [.int 0, .int (nI n), .int (nI J), .ref mA, .ref mC, .ref mT, .int (nI us), .int wr, .int sn, .int (nI si), .int gr, .int (nI gp), .ref mF, .ref mO, .ref mV, .int x, .int (pjd lf)])), (mA, .inl (cJ, 64, .inr (.inl fM))), (mC, .inl (cI, 64, .inl cM)), (mT, .inl (cJ, 64, .inr (.inl tM))), (mF, .inl (cI, 60, .inl fF)), (mO, .inl (cI, 60, .inl tF)), (mV, .inl (cJ, 60, .inr (.inl vM)))] := hD
  refine lv_aload_n hx hb dM_crash_41 rfl (lv_at hl 0 rfl) ?_
  refine lv_iload_n hx hb dM_crash_42 rfl (lv_at hl 1 rfl) ?_
  refine lv_if_ne (tgt := 50) hx hb dM_crash_43 (by decide) (fun c1 => ?_) (fun c1 => ?_)
  · refine lv_iconst (v := 0) hx hb dM_crash_50 (by decide) ?_
    refine va_put (D := D) (ci := 4) (v := .int 0) (ty := .boolean) (C := "ReplayJournalModel") (T := TM) (N := 17) hx hb hts (pj_ups inM) tyM tyM_ok nmM hown hK hP hD hS 0 rfl rfl 16 (by decide) (hts _ (pj_up m_440)) (fun _ h9 => h9) rfl (by decide +kernel) rfl rfl (Nat.le_of_ble_eq_true rfl) dM_crash_51 (fun H locs hP hD hS => ?_)
    have hP : va_P D vwCl [(oM, .inr (4, [.int 0, .int (nI n), .int (nI J), .ref mA, .ref mC, .ref mT, .int (nI us), .int wr, .int sn, .int (nI si), .int gr, .int (nI gp), .ref mF, .ref mO, .ref mV, .int x, .int 0])), (mA, .inl (cJ, 64, .inr (.inl fM))), (mC, .inl (cI, 64, .inl cM)), (mT, .inl (cJ, 64, .inr (.inl tM))), (mF, .inl (cI, 60, .inl fF)), (mO, .inl (cI, 60, .inl tF)), (mV, .inl (cJ, 60, .inr (.inl vM)))] H := hP
    have hD : va_D A [(oM, .inr (4, [.int 0, .int (nI n), .int (nI J), .ref mA, .ref mC, .ref mT, .int (nI us), .int wr, .int sn, .int (nI si), .int gr, .int (nI gp), .ref mF, .ref mO, .ref mV, .int x, .int 0])), (mA, .inl (cJ, 64, .inr (.inl fM))), (mC, .inl (cI, 64, .inl cM)), (mT, .inl (cJ, 64, .inr (.inl tM))), (mF, .inl (cI, 60, .inl fF)), (mO, .inl (cI, 60, .inl tF)), (mV, .inl (cJ, 60, .inr (.inl vM)))] := hD
    exact pj_vret hx hb hr hlocks hP hD hS (by rw [pjd_0 c1]) dM_crash_54
  · refine lv_iconst (v := 1) hx hb dM_crash_46 (by decide) ?_
    refine lv_goto (tgt := 51) hx hb dM_crash_47 (by decide) ?_
    refine va_put (D := D) (ci := 4) (v := .int 1) (ty := .boolean) (C := "ReplayJournalModel") (T := TM) (N := 17) hx hb hts (pj_ups inM) tyM tyM_ok nmM hown hK hP hD hS 0 rfl rfl 16 (by decide) (hts _ (pj_up m_440)) (fun _ h9 => h9) rfl (by decide +kernel) rfl rfl (Nat.le_of_ble_eq_true rfl) dM_crash_51 (fun H locs hP hD hS => ?_)
    have hP : va_P D vwCl [(oM, .inr (4, [.int 0, .int (nI n), .int (nI J), .ref mA, .ref mC, .ref mT, .int (nI us), .int wr, .int sn, .int (nI si), .int gr, .int (nI gp), .ref mF, .ref mO, .ref mV, .int x, .int 1])), (mA, .inl (cJ, 64, .inr (.inl fM))), (mC, .inl (cI, 64, .inl cM)), (mT, .inl (cJ, 64, .inr (.inl tM))), (mF, .inl (cI, 60, .inl fF)), (mO, .inl (cI, 60, .inl tF)), (mV, .inl (cJ, 60, .inr (.inl vM)))] H := hP
    have hD : va_D A [(oM, .inr (4, [.int 0, .int (nI n), .int (nI J), .ref mA, .ref mC, .ref mT, .int (nI us), .int wr, .int sn, .int (nI si), .int gr, .int (nI gp), .ref mF, .ref mO, .ref mV, .int x, .int 1])), (mA, .inl (cJ, 64, .inr (.inl fM))), (mC, .inl (cI, 64, .inl cM)), (mT, .inl (cJ, 64, .inr (.inl tM))), (mF, .inl (cI, 60, .inl fF)), (mO, .inl (cI, 60, .inl tF)), (mV, .inl (cJ, 60, .inr (.inl vM)))] := hD
    exact pj_vret hx hb hr hlocks hP hD hS (by rw [pjd_1 c1]) dM_crash_54
set_option maxHeartbeats 4000000 in
set_option maxRecDepth 100000 in
theorem m_recover (l : Launch) (D : va_G) (cI cJ cZ : ClassId) (oM mA mC mT mF mO mV n J us gp si : Nat) (fM tM vM : Nat → Int64) (cM fF tF : Nat → Int32) (kd wr sn lf gr : Int32) (hn : n ≤ 64) (hJ : J ≤ 60) (hus : us ≤ J) : pj_Met l yM_recover wsM_recover ({ frames := 0, cells := 0, slots := 0, locals := 0 }) D vwCl (pjT cI cJ cZ) pj_no [.ref oM] [(oM, .inr (4, [.int kd, .int (nI n), .int (nI J), .ref mA, .ref mC, .ref mT, .int (nI us), .int wr, .int sn, .int (nI si), .int gr, .int (nI gp), .ref mF, .ref mO, .ref mV, .int lf, .int (pjd lf)])), (mA, .inl (cJ, 64, .inr (.inl fM))), (mC, .inl (cI, 64, .inl cM)), (mT, .inl (cJ, 64, .inr (.inl tM))), (mF, .inl (cI, 60, .inl fF)), (mO, .inl (cI, 60, .inl tF)), (mV, .inl (cJ, 60, .inr (.inl vM)))] (some (.int (nI si))) [(oM, .inr (4, [.int 0, .int (nI n), .int (nI J), .ref mA, .ref mC, .ref mT, .int (nI us), .int wr, .int sn, .int (nI si), .int 0, .int (nI gp), .ref mF, .ref mO, .ref mV, .int (-1), .int (pjd (-1))])), (mA, .inl (cJ, 64, .inr (.inl fM))), (mC, .inl (cI, 64, .inl cM)), (mT, .inl (cJ, 64, .inr (.inl tM))), (mF, .inl (cI, 60, .inl fF)), (mO, .inl (cI, 60, .inl tF)), (mV, .inl (cJ, 60, .inr (.inl vM)))] 0 0 := by
  refine pj_of (by decide) rfl (Nat.le_of_ble_eq_true rfl) ?_
  intro p e s m below meth c A ls hx hb hml hr hts hown hlocks hin hA hK hP hD hS hG hl
  have hl : lv_has ls 1 [(0, .ref oM)] := hl
  refine lv_aload_n hx hb dM_recover_0 rfl (lv_at hl 0 rfl) ?_
  refine lv_iconst (v := 0) hx hb dM_recover_1 (by decide) ?_
  refine va_put (D := D) (ci := 4) (v := .int 0) (ty := .int) (C := "ReplayJournalModel") (T := TM) (N := 17) hx hb hts (pj_ups inM) tyM tyM_ok nmM hown hK hP hD hS 0 rfl rfl 0 (by decide) (hts _ (pj_up m_424)) (fun _ h9 => h9) rfl (by decide +kernel) rfl rfl (Nat.le_of_ble_eq_true rfl) dM_recover_2 (fun H locs hP hD hS => ?_)
  have hP : va_P D vwCl [(oM, .inr (4, [.int 0, .int (nI n), .int (nI J), .ref mA, .ref mC, .ref mT, .int (nI us), .int wr, .int sn, .int (nI si), .int gr, .int (nI gp), .ref mF, .ref mO, .ref mV, .int lf, .int (pjd lf)])), (mA, .inl (cJ, 64, .inr (.inl fM))), (mC, .inl (cI, 64, .inl cM)), (mT, .inl (cJ, 64, .inr (.inl tM))), (mF, .inl (cI, 60, .inl fF)), (mO, .inl (cI, 60, .inl tF)), (mV, .inl (cJ, 60, .inr (.inl vM)))] H := hP
  have hD : va_D A [(oM, .inr (4, [.int 0, .int (nI n), .int (nI J), .ref mA, .ref mC, .ref mT, .int (nI us), .int wr, .int sn, .int (nI si), .int gr, .int (nI gp), .ref mF, .ref mO, .ref mV, .int lf, .int (pjd lf)])), (mA, .inl (cJ, 64, .inr (.inl fM))), (mC, .inl (cI, 64, .inl cM)), (mT, .inl (cJ, 64, .inr (.inl tM))), (mF, .inl (cI, 60, .inl fF)), (mO, .inl (cI, 60, .inl tF)), (mV, .inl (cJ, 60, .inr (.inl vM)))] := hD
  refine lv_aload_n hx hb dM_recover_5 rfl (lv_at hl 0 rfl) ?_
  refine lv_iconst (v := 0) hx hb dM_recover_6 (by decide) ?_
  refine va_put (D := D) (ci := 4) (v := .int 0) (ty := .boolean) (C := "ReplayJournalModel") (T := TM) (N := 17) hx hb hts (pj_ups inM) tyM tyM_ok nmM hown hK hP hD hS 0 rfl rfl 16 (by decide) (hts _ (pj_up m_440)) (fun _ h9 => h9) rfl (by decide +kernel) rfl rfl (Nat.le_of_ble_eq_true rfl) dM_recover_7 (fun H locs hP hD hS => ?_)
  have hP : va_P D vwCl [(oM, .inr (4, [.int 0, .int (nI n), .int (nI J), .ref mA, .ref mC, .ref mT, .int (nI us), .int wr, .int sn, .int (nI si), .int gr, .int (nI gp), .ref mF, .ref mO, .ref mV, .int lf, .int 0])), (mA, .inl (cJ, 64, .inr (.inl fM))), (mC, .inl (cI, 64, .inl cM)), (mT, .inl (cJ, 64, .inr (.inl tM))), (mF, .inl (cI, 60, .inl fF)), (mO, .inl (cI, 60, .inl tF)), (mV, .inl (cJ, 60, .inr (.inl vM)))] H := hP
  have hD : va_D A [(oM, .inr (4, [.int 0, .int (nI n), .int (nI J), .ref mA, .ref mC, .ref mT, .int (nI us), .int wr, .int sn, .int (nI si), .int gr, .int (nI gp), .ref mF, .ref mO, .ref mV, .int lf, .int 0])), (mA, .inl (cJ, 64, .inr (.inl fM))), (mC, .inl (cI, 64, .inl cM)), (mT, .inl (cJ, 64, .inr (.inl tM))), (mF, .inl (cI, 60, .inl fF)), (mO, .inl (cI, 60, .inl tF)), (mV, .inl (cJ, 60, .inr (.inl vM)))] := hD
  refine lv_aload_n hx hb dM_recover_10 rfl (lv_at hl 0 rfl) ?_
  refine lv_iconst (v := -1) hx hb dM_recover_11 (by decide) ?_
  refine va_put (D := D) (ci := 4) (v := .int (-1)) (ty := .int) (C := "ReplayJournalModel") (T := TM) (N := 17) hx hb hts (pj_ups inM) tyM tyM_ok nmM hown hK hP hD hS 0 rfl rfl 15 (by decide) (hts _ (pj_up m_439)) (fun _ h9 => h9) rfl (by decide +kernel) rfl rfl (Nat.le_of_ble_eq_true rfl) dM_recover_12 (fun H locs hP hD hS => ?_)
  have hP : va_P D vwCl [(oM, .inr (4, [.int 0, .int (nI n), .int (nI J), .ref mA, .ref mC, .ref mT, .int (nI us), .int wr, .int sn, .int (nI si), .int gr, .int (nI gp), .ref mF, .ref mO, .ref mV, .int (-1), .int 0])), (mA, .inl (cJ, 64, .inr (.inl fM))), (mC, .inl (cI, 64, .inl cM)), (mT, .inl (cJ, 64, .inr (.inl tM))), (mF, .inl (cI, 60, .inl fF)), (mO, .inl (cI, 60, .inl tF)), (mV, .inl (cJ, 60, .inr (.inl vM)))] H := hP
  have hD : va_D A [(oM, .inr (4, [.int 0, .int (nI n), .int (nI J), .ref mA, .ref mC, .ref mT, .int (nI us), .int wr, .int sn, .int (nI si), .int gr, .int (nI gp), .ref mF, .ref mO, .ref mV, .int (-1), .int 0])), (mA, .inl (cJ, 64, .inr (.inl fM))), (mC, .inl (cI, 64, .inl cM)), (mT, .inl (cJ, 64, .inr (.inl tM))), (mF, .inl (cI, 60, .inl fF)), (mO, .inl (cI, 60, .inl tF)), (mV, .inl (cJ, 60, .inr (.inl vM)))] := hD
  refine lv_aload_n hx hb dM_recover_15 rfl (lv_at hl 0 rfl) ?_
  refine lv_iconst (v := 0) hx hb dM_recover_16 (by decide) ?_
  refine va_put (D := D) (ci := 4) (v := .int 0) (ty := .boolean) (C := "ReplayJournalModel") (T := TM) (N := 17) hx hb hts (pj_ups inM) tyM tyM_ok nmM hown hK hP hD hS 0 rfl rfl 10 (by decide) (hts _ (pj_up m_434)) (fun _ h9 => h9) rfl (by decide +kernel) rfl rfl (Nat.le_of_ble_eq_true rfl) dM_recover_17 (fun H locs hP hD hS => ?_)
  have hP : va_P D vwCl [(oM, .inr (4, [.int 0, .int (nI n), .int (nI J), .ref mA, .ref mC, .ref mT, .int (nI us), .int wr, .int sn, .int (nI si), .int 0, .int (nI gp), .ref mF, .ref mO, .ref mV, .int (-1), .int 0])), (mA, .inl (cJ, 64, .inr (.inl fM))), (mC, .inl (cI, 64, .inl cM)), (mT, .inl (cJ, 64, .inr (.inl tM))), (mF, .inl (cI, 60, .inl fF)), (mO, .inl (cI, 60, .inl tF)), (mV, .inl (cJ, 60, .inr (.inl vM)))] H := hP
  have hD : va_D A [(oM, .inr (4, [.int 0, .int (nI n), .int (nI J), .ref mA, .ref mC, .ref mT, .int (nI us), .int wr, .int sn, .int (nI si), .int 0, .int (nI gp), .ref mF, .ref mO, .ref mV, .int (-1), .int 0])), (mA, .inl (cJ, 64, .inr (.inl fM))), (mC, .inl (cI, 64, .inl cM)), (mT, .inl (cJ, 64, .inr (.inl tM))), (mF, .inl (cI, 60, .inl fF)), (mO, .inl (cI, 60, .inl tF)), (mV, .inl (cJ, 60, .inr (.inl vM)))] := hD
  refine lv_aload_n hx hb dM_recover_20 rfl (lv_at hl 0 rfl) ?_
  refine va_get (D := D) (ci := 4) (v := .int (nI si)) (C := "ReplayJournalModel") (T := TM) (N := 17) hx hb hts (pj_ups inM) hown hK hP 0 rfl rfl 9 (by decide) (hts _ (pj_up m_433)) (fun _ h9 => h9) rfl dM_recover_21 ?_
  exact pj_iret hx hb hr hlocks hP hD hS (rfl) (by rw [pjd_0 (by decide)]) dM_recover_24
set_option maxHeartbeats 4000000 in
set_option maxRecDepth 100000 in
theorem m_isDown (l : Launch) (D : va_G) (cI cJ cZ : ClassId) (oM mA mC mT mF mO mV n J us gp si : Nat) (fM tM vM : Nat → Int64) (cM fF tF : Nat → Int32) (kd wr sn lf gr : Int32) (hn : n ≤ 64) (hJ : J ≤ 60) (hus : us ≤ J) : pj_Met l yM_isDown wsM_isDown ({ frames := 0, cells := 0, slots := 0, locals := 0 }) D vwCl (pjT cI cJ cZ) pj_no [.ref oM] [(oM, .inr (4, [.int kd, .int (nI n), .int (nI J), .ref mA, .ref mC, .ref mT, .int (nI us), .int wr, .int sn, .int (nI si), .int gr, .int (nI gp), .ref mF, .ref mO, .ref mV, .int lf, .int (pjd lf)])), (mA, .inl (cJ, 64, .inr (.inl fM))), (mC, .inl (cI, 64, .inl cM)), (mT, .inl (cJ, 64, .inr (.inl tM))), (mF, .inl (cI, 60, .inl fF)), (mO, .inl (cI, 60, .inl tF)), (mV, .inl (cJ, 60, .inr (.inl vM)))] (some (.int (pjd lf))) [(oM, .inr (4, [.int 0, .int (nI n), .int (nI J), .ref mA, .ref mC, .ref mT, .int (nI us), .int wr, .int sn, .int (nI si), .int gr, .int (nI gp), .ref mF, .ref mO, .ref mV, .int lf, .int (pjd lf)])), (mA, .inl (cJ, 64, .inr (.inl fM))), (mC, .inl (cI, 64, .inl cM)), (mT, .inl (cJ, 64, .inr (.inl tM))), (mF, .inl (cI, 60, .inl fF)), (mO, .inl (cI, 60, .inl tF)), (mV, .inl (cJ, 60, .inr (.inl vM)))] 0 0 := by
  refine pj_of (by decide) rfl (Nat.le_of_ble_eq_true rfl) ?_
  intro p e s m below meth c A ls hx hb hml hr hts hown hlocks hin hA hK hP hD hS hG hl
  have hl : lv_has ls 1 [(0, .ref oM)] := hl
  refine lv_aload_n hx hb dM_isDown_0 rfl (lv_at hl 0 rfl) ?_
  refine lv_iconst (v := 0) hx hb dM_isDown_1 (by decide) ?_
  refine va_put (D := D) (ci := 4) (v := .int 0) (ty := .int) (C := "ReplayJournalModel") (T := TM) (N := 17) hx hb hts (pj_ups inM) tyM tyM_ok nmM hown hK hP hD hS 0 rfl rfl 0 (by decide) (hts _ (pj_up m_424)) (fun _ h9 => h9) rfl (by decide +kernel) rfl rfl (Nat.le_of_ble_eq_true rfl) dM_isDown_2 (fun H locs hP hD hS => ?_)
  have hP : va_P D vwCl [(oM, .inr (4, [.int 0, .int (nI n), .int (nI J), .ref mA, .ref mC, .ref mT, .int (nI us), .int wr, .int sn, .int (nI si), .int gr, .int (nI gp), .ref mF, .ref mO, .ref mV, .int lf, .int (pjd lf)])), (mA, .inl (cJ, 64, .inr (.inl fM))), (mC, .inl (cI, 64, .inl cM)), (mT, .inl (cJ, 64, .inr (.inl tM))), (mF, .inl (cI, 60, .inl fF)), (mO, .inl (cI, 60, .inl tF)), (mV, .inl (cJ, 60, .inr (.inl vM)))] H := hP
  have hD : va_D A [(oM, .inr (4, [.int 0, .int (nI n), .int (nI J), .ref mA, .ref mC, .ref mT, .int (nI us), .int wr, .int sn, .int (nI si), .int gr, .int (nI gp), .ref mF, .ref mO, .ref mV, .int lf, .int (pjd lf)])), (mA, .inl (cJ, 64, .inr (.inl fM))), (mC, .inl (cI, 64, .inl cM)), (mT, .inl (cJ, 64, .inr (.inl tM))), (mF, .inl (cI, 60, .inl fF)), (mO, .inl (cI, 60, .inl tF)), (mV, .inl (cJ, 60, .inr (.inl vM)))] := hD
  refine lv_aload_n hx hb dM_isDown_5 rfl (lv_at hl 0 rfl) ?_
  refine va_get (D := D) (ci := 4) (v := .int (pjd lf)) (C := "ReplayJournalModel") (T := TM) (N := 17) hx hb hts (pj_ups inM) hown hK hP 0 rfl rfl 16 (by decide) (hts _ (pj_up m_440)) (fun _ h9 => h9) rfl dM_isDown_6 ?_
  exact pj_zret hx hb hr hlocks hP hD hS (rfl) (rfl) (pjd_n) dM_isDown_9
set_option maxHeartbeats 4000000 in
set_option maxRecDepth 100000 in
theorem m_amount_1 (l : Launch) (D : va_G) (cI cJ cZ : ClassId) (oM mA mC mT mF mO mV n J us gp si : Nat) (fM tM vM : Nat → Int64) (cM fF tF : Nat → Int32) (kd wr sn lf gr : Int32) (hn : n ≤ 64) (hJ : J ≤ 60) (hus : us ≤ J) (x : Int32) (h1 : ¬ pjH n x) : pj_Met l yM_amount wsM_amount ({ frames := 1, cells := 0, slots := 0, locals := 22 }) D vwCl (pjT cI cJ cZ) pj_no [.ref oM, .int x] [(oM, .inr (4, [.int kd, .int (nI n), .int (nI J), .ref mA, .ref mC, .ref mT, .int (nI us), .int wr, .int sn, .int (nI si), .int gr, .int (nI gp), .ref mF, .ref mO, .ref mV, .int lf, .int (pjd lf)])), (mA, .inl (cJ, 64, .inr (.inl fM))), (mC, .inl (cI, 64, .inl cM)), (mT, .inl (cJ, 64, .inr (.inl tM))), (mF, .inl (cI, 60, .inl fF)), (mO, .inl (cI, 60, .inl tF)), (mV, .inl (cJ, 60, .inr (.inl vM)))] (some (.long 0)) [(oM, .inr (4, [.int 1, .int (nI n), .int (nI J), .ref mA, .ref mC, .ref mT, .int (nI us), .int wr, .int sn, .int (nI si), .int gr, .int (nI gp), .ref mF, .ref mO, .ref mV, .int lf, .int (pjd lf)])), (mA, .inl (cJ, 64, .inr (.inl fM))), (mC, .inl (cI, 64, .inl cM)), (mT, .inl (cJ, 64, .inr (.inl tM))), (mF, .inl (cI, 60, .inl fF)), (mO, .inl (cI, 60, .inl tF)), (mV, .inl (cJ, 60, .inr (.inl vM)))] 0 0 := by
  refine pj_of (by decide) rfl (Nat.le_of_ble_eq_true rfl) ?_
  intro p e s m below meth c A ls hx hb hml hr hts hown hlocks hin hA hK hP hD hS hG hl
  have hl : lv_has ls 2 [(0, .ref oM), (1, .int x)] := hl
  refine lv_aload_n hx hb dM_amount_0 rfl (lv_at hl 0 rfl) ?_
  refine lv_aload_n hx hb dM_amount_1 rfl (lv_at hl 0 rfl) ?_
  refine lv_iload_n hx hb dM_amount_2 rfl (lv_at hl 1 rfl) ?_
  refine pp_callV (rest := [.ref oM]) (st1 := [.int 0, .ref oM]) ⟨hx, hb, hml, hown, hts⟩ (m_isa_f l D cI cJ cZ oM mA mC mT mF mO mV n J us gp si fM tM vM cM fF tF kd wr sn lf gr hn hJ hus x h1) (cwV 1 hts (pj_gV m_484 m_486 m_11 m_24 m_487) rfl rfl rfl (by decide +kernel) ⟨Nat.le_of_ble_eq_true rfl, Nat.le_of_ble_eq_true rfl⟩) pj_no_ok trivial hK hP hD hS hA (ci := 4) (q0 := 0) rfl rfl [0, 1, 2, 3, 4, 5, 6] rfl rfl rfl hl.1 rfl (Nat.le_of_ble_eq_true rfl) dM_amount_3 ⟨Nat.le_of_ble_eq_true rfl, Nat.le_of_ble_eq_true rfl⟩ rfl ?_
  refine lv_aload_n hx hb dM_amount_6 rfl (lv_at hl 0 rfl) ?_
  refine va_get (D := D) (ci := 4) (v := .int (pjd lf)) (C := "ReplayJournalModel") (T := TM) (N := 17) hx hb hts (pj_ups inM) hown hK hP 0 rfl rfl 16 (by decide) (hts _ (pj_up m_440)) (fun _ h9 => h9) rfl dM_amount_7 ?_
  refine lv_if_ne (tgt := 17) hx hb dM_amount_10 (by decide) (fun c9 => ?_) (fun c9 => ?_)
  · refine lv_iconst (v := 0) hx hb dM_amount_17 (by decide) ?_
    refine pj_callV (w2 := [(oM, .inr (4, [.int 1, .int (nI n), .int (nI J), .ref mA, .ref mC, .ref mT, .int (nI us), .int wr, .int sn, .int (nI si), .int gr, .int (nI gp), .ref mF, .ref mO, .ref mV, .int lf, .int (pjd lf)])), (mA, .inl (cJ, 64, .inr (.inl fM))), (mC, .inl (cI, 64, .inl cM)), (mT, .inl (cJ, 64, .inr (.inl tM))), (mF, .inl (cI, 60, .inl fF)), (mO, .inl (cI, 60, .inl tF)), (mV, .inl (cJ, 60, .inr (.inl vM)))]) (wr := []) (rest := []) (st1 := [.int 0]) ⟨hx, hb, hml, hown, hts⟩ (m_goes_1 l D cI cJ cZ oM mA mC mT mF mO mV n J us gp si fM tM vM cM fF tF kd wr sn lf gr hn hJ hus 0) (cwV 2 hts (pj_gV m_490 m_492 m_12 m_24 m_493) rfl rfl rfl (by decide +kernel) ⟨Nat.le_of_ble_eq_true rfl, Nat.le_of_ble_eq_true rfl⟩) pj_no_ok trivial hK hP hD hS hA (ci := 4) (q0 := 0) rfl rfl [0, 1, 2, 3, 4, 5, 6] [] [0, 1, 2, 3, 4, 5, 6] rfl rfl rfl rfl (by decide) rfl rfl rfl hl.1 rfl (Nat.le_of_ble_eq_true rfl) dM_amount_18 ⟨Nat.le_of_ble_eq_true rfl, Nat.le_of_ble_eq_true rfl⟩ rfl rfl rfl (fun H locs hP hD hS => ?_)
    refine lv_if_eq (tgt := 33) hx hb dM_amount_21 (by decide) (fun _ => ?_) (fun h9 => (h9 rfl).elim)
    refine lv_lconst (v := 0) hx hb dM_amount_33 (by decide) ?_
    exact pj_lret hx hb hr hlocks hP hD hS (rfl) (rfl) dM_amount_34
  · refine lv_iconst (v := 1) hx hb dM_amount_13 (by decide) ?_
    refine lv_goto (tgt := 18) hx hb dM_amount_14 (by decide) ?_
    refine pj_callV (w2 := [(oM, .inr (4, [.int 1, .int (nI n), .int (nI J), .ref mA, .ref mC, .ref mT, .int (nI us), .int wr, .int sn, .int (nI si), .int gr, .int (nI gp), .ref mF, .ref mO, .ref mV, .int lf, .int (pjd lf)])), (mA, .inl (cJ, 64, .inr (.inl fM))), (mC, .inl (cI, 64, .inl cM)), (mT, .inl (cJ, 64, .inr (.inl tM))), (mF, .inl (cI, 60, .inl fF)), (mO, .inl (cI, 60, .inl tF)), (mV, .inl (cJ, 60, .inr (.inl vM)))]) (wr := []) (rest := []) (st1 := [.int 0]) ⟨hx, hb, hml, hown, hts⟩ (m_goes_1 l D cI cJ cZ oM mA mC mT mF mO mV n J us gp si fM tM vM cM fF tF kd wr sn lf gr hn hJ hus 1) (cwV 2 hts (pj_gV m_490 m_492 m_12 m_24 m_493) rfl rfl rfl (by decide +kernel) ⟨Nat.le_of_ble_eq_true rfl, Nat.le_of_ble_eq_true rfl⟩) pj_no_ok trivial hK hP hD hS hA (ci := 4) (q0 := 0) rfl rfl [0, 1, 2, 3, 4, 5, 6] [] [0, 1, 2, 3, 4, 5, 6] rfl rfl rfl rfl (by decide) rfl rfl rfl hl.1 rfl (Nat.le_of_ble_eq_true rfl) dM_amount_18 ⟨Nat.le_of_ble_eq_true rfl, Nat.le_of_ble_eq_true rfl⟩ rfl rfl rfl (fun H locs hP hD hS => ?_)
    refine lv_if_eq (tgt := 33) hx hb dM_amount_21 (by decide) (fun _ => ?_) (fun h9 => (h9 rfl).elim)
    refine lv_lconst (v := 0) hx hb dM_amount_33 (by decide) ?_
    exact pj_lret hx hb hr hlocks hP hD hS (rfl) (rfl) dM_amount_34
set_option maxHeartbeats 4000000 in
set_option maxRecDepth 100000 in
theorem m_amount_2 (l : Launch) (D : va_G) (cI cJ cZ : ClassId) (oM mA mC mT mF mO mV n J us gp si : Nat) (fM tM vM : Nat → Int64) (cM fF tF : Nat → Int32) (kd wr sn lf gr : Int32) (hn : n ≤ 64) (hJ : J ≤ 60) (hus : us ≤ J) (x : Int32) (h1 : pjH n x) (h3 : lf = 0) : pj_Met l yM_amount wsM_amount ({ frames := 1, cells := 0, slots := 0, locals := 22 }) D vwCl (pjT cI cJ cZ) pj_no [.ref oM, .int x] [(oM, .inr (4, [.int kd, .int (nI n), .int (nI J), .ref mA, .ref mC, .ref mT, .int (nI us), .int wr, .int sn, .int (nI si), .int gr, .int (nI gp), .ref mF, .ref mO, .ref mV, .int lf, .int (pjd lf)])), (mA, .inl (cJ, 64, .inr (.inl fM))), (mC, .inl (cI, 64, .inl cM)), (mT, .inl (cJ, 64, .inr (.inl tM))), (mF, .inl (cI, 60, .inl fF)), (mO, .inl (cI, 60, .inl tF)), (mV, .inl (cJ, 60, .inr (.inl vM)))] (some (.long 0)) [(oM, .inr (4, [.int 2, .int (nI n), .int (nI J), .ref mA, .ref mC, .ref mT, .int (nI us), .int wr, .int sn, .int (nI si), .int gr, .int (nI gp), .ref mF, .ref mO, .ref mV, .int lf, .int (pjd lf)])), (mA, .inl (cJ, 64, .inr (.inl fM))), (mC, .inl (cI, 64, .inl cM)), (mT, .inl (cJ, 64, .inr (.inl tM))), (mF, .inl (cI, 60, .inl fF)), (mO, .inl (cI, 60, .inl tF)), (mV, .inl (cJ, 60, .inr (.inl vM)))] 0 0 := by
  refine pj_of (by decide) rfl (Nat.le_of_ble_eq_true rfl) ?_
  intro p e s m below meth c A ls hx hb hml hr hts hown hlocks hin hA hK hP hD hS hG hl
  have hl : lv_has ls 2 [(0, .ref oM), (1, .int x)] := hl
  refine lv_aload_n hx hb dM_amount_0 rfl (lv_at hl 0 rfl) ?_
  refine lv_aload_n hx hb dM_amount_1 rfl (lv_at hl 0 rfl) ?_
  refine lv_iload_n hx hb dM_amount_2 rfl (lv_at hl 1 rfl) ?_
  refine pp_callV (rest := [.ref oM]) (st1 := [.int 1, .ref oM]) ⟨hx, hb, hml, hown, hts⟩ (m_isa_t l D cI cJ cZ oM mA mC mT mF mO mV n J us gp si fM tM vM cM fF tF kd wr sn lf gr hn hJ hus x h1) (cwV 1 hts (pj_gV m_484 m_486 m_11 m_24 m_487) rfl rfl rfl (by decide +kernel) ⟨Nat.le_of_ble_eq_true rfl, Nat.le_of_ble_eq_true rfl⟩) pj_no_ok trivial hK hP hD hS hA (ci := 4) (q0 := 0) rfl rfl [0, 1, 2, 3, 4, 5, 6] rfl rfl rfl hl.1 rfl (Nat.le_of_ble_eq_true rfl) dM_amount_3 ⟨Nat.le_of_ble_eq_true rfl, Nat.le_of_ble_eq_true rfl⟩ rfl ?_
  refine lv_aload_n hx hb dM_amount_6 rfl (lv_at hl 0 rfl) ?_
  refine va_get (D := D) (ci := 4) (v := .int (pjd lf)) (C := "ReplayJournalModel") (T := TM) (N := 17) hx hb hts (pj_ups inM) hown hK hP 0 rfl rfl 16 (by decide) (hts _ (pj_up m_440)) (fun _ h9 => h9) rfl dM_amount_7 ?_
  refine lv_if_ne (tgt := 17) hx hb dM_amount_10 (by decide) (fun _ => ?_) (fun h9 => absurd h9 (by rw [pjd_1 h3]; decide))
  refine lv_iconst (v := 0) hx hb dM_amount_17 (by decide) ?_
  refine pj_callV (w2 := [(oM, .inr (4, [.int 2, .int (nI n), .int (nI J), .ref mA, .ref mC, .ref mT, .int (nI us), .int wr, .int sn, .int (nI si), .int gr, .int (nI gp), .ref mF, .ref mO, .ref mV, .int lf, .int (pjd lf)])), (mA, .inl (cJ, 64, .inr (.inl fM))), (mC, .inl (cI, 64, .inl cM)), (mT, .inl (cJ, 64, .inr (.inl tM))), (mF, .inl (cI, 60, .inl fF)), (mO, .inl (cI, 60, .inl tF)), (mV, .inl (cJ, 60, .inr (.inl vM)))]) (wr := []) (rest := []) (st1 := [.int 0]) ⟨hx, hb, hml, hown, hts⟩ (m_goes_2 l D cI cJ cZ oM mA mC mT mF mO mV n J us gp si fM tM vM cM fF tF kd wr sn lf gr hn hJ hus) (cwV 2 hts (pj_gV m_490 m_492 m_12 m_24 m_493) rfl rfl rfl (by decide +kernel) ⟨Nat.le_of_ble_eq_true rfl, Nat.le_of_ble_eq_true rfl⟩) pj_no_ok trivial hK hP hD hS hA (ci := 4) (q0 := 0) rfl rfl [0, 1, 2, 3, 4, 5, 6] [] [0, 1, 2, 3, 4, 5, 6] rfl rfl rfl rfl (by decide) rfl rfl rfl hl.1 rfl (Nat.le_of_ble_eq_true rfl) dM_amount_18 ⟨Nat.le_of_ble_eq_true rfl, Nat.le_of_ble_eq_true rfl⟩ rfl rfl rfl (fun H locs hP hD hS => ?_)
  refine lv_if_eq (tgt := 33) hx hb dM_amount_21 (by decide) (fun _ => ?_) (fun h9 => (h9 rfl).elim)
  refine lv_lconst (v := 0) hx hb dM_amount_33 (by decide) ?_
  exact pj_lret hx hb hr hlocks hP hD hS (rfl) (rfl) dM_amount_34
set_option maxHeartbeats 4000000 in
set_option maxRecDepth 100000 in
theorem m_amount_0 (l : Launch) (D : va_G) (cI cJ cZ : ClassId) (oM mA mC mT mF mO mV n J us gp si : Nat) (fM tM vM : Nat → Int64) (cM fF tF : Nat → Int32) (kd wr sn lf gr : Int32) (hn : n ≤ 64) (hJ : J ≤ 60) (hus : us ≤ J) (x : Int32) (h1 : pjH n x) (h3 : ¬ lf = 0) : pj_Met l yM_amount wsM_amount ({ frames := 1, cells := 0, slots := 0, locals := 22 }) D vwCl (pjT cI cJ cZ) pj_no [.ref oM, .int x] [(oM, .inr (4, [.int kd, .int (nI n), .int (nI J), .ref mA, .ref mC, .ref mT, .int (nI us), .int wr, .int sn, .int (nI si), .int gr, .int (nI gp), .ref mF, .ref mO, .ref mV, .int lf, .int (pjd lf)])), (mA, .inl (cJ, 64, .inr (.inl fM))), (mC, .inl (cI, 64, .inl cM)), (mT, .inl (cJ, 64, .inr (.inl tM))), (mF, .inl (cI, 60, .inl fF)), (mO, .inl (cI, 60, .inl tF)), (mV, .inl (cJ, 60, .inr (.inl vM)))] (some (.long (fM x.toNatClampNeg))) [(oM, .inr (4, [.int 0, .int (nI n), .int (nI J), .ref mA, .ref mC, .ref mT, .int (nI us), .int wr, .int sn, .int (nI si), .int gr, .int (nI gp), .ref mF, .ref mO, .ref mV, .int lf, .int (pjd lf)])), (mA, .inl (cJ, 64, .inr (.inl fM))), (mC, .inl (cI, 64, .inl cM)), (mT, .inl (cJ, 64, .inr (.inl tM))), (mF, .inl (cI, 60, .inl fF)), (mO, .inl (cI, 60, .inl tF)), (mV, .inl (cJ, 60, .inr (.inl vM)))] 0 0 := by
  refine pj_of (by decide) rfl (Nat.le_of_ble_eq_true rfl) ?_
  intro p e s m below meth c A ls hx hb hml hr hts hown hlocks hin hA hK hP hD hS hG hl
  have hl : lv_has ls 2 [(0, .ref oM), (1, .int x)] := hl
  refine lv_aload_n hx hb dM_amount_0 rfl (lv_at hl 0 rfl) ?_
  refine lv_aload_n hx hb dM_amount_1 rfl (lv_at hl 0 rfl) ?_
  refine lv_iload_n hx hb dM_amount_2 rfl (lv_at hl 1 rfl) ?_
  refine pp_callV (rest := [.ref oM]) (st1 := [.int 1, .ref oM]) ⟨hx, hb, hml, hown, hts⟩ (m_isa_t l D cI cJ cZ oM mA mC mT mF mO mV n J us gp si fM tM vM cM fF tF kd wr sn lf gr hn hJ hus x h1) (cwV 1 hts (pj_gV m_484 m_486 m_11 m_24 m_487) rfl rfl rfl (by decide +kernel) ⟨Nat.le_of_ble_eq_true rfl, Nat.le_of_ble_eq_true rfl⟩) pj_no_ok trivial hK hP hD hS hA (ci := 4) (q0 := 0) rfl rfl [0, 1, 2, 3, 4, 5, 6] rfl rfl rfl hl.1 rfl (Nat.le_of_ble_eq_true rfl) dM_amount_3 ⟨Nat.le_of_ble_eq_true rfl, Nat.le_of_ble_eq_true rfl⟩ rfl ?_
  refine lv_aload_n hx hb dM_amount_6 rfl (lv_at hl 0 rfl) ?_
  refine va_get (D := D) (ci := 4) (v := .int (pjd lf)) (C := "ReplayJournalModel") (T := TM) (N := 17) hx hb hts (pj_ups inM) hown hK hP 0 rfl rfl 16 (by decide) (hts _ (pj_up m_440)) (fun _ h9 => h9) rfl dM_amount_7 ?_
  refine lv_if_ne (tgt := 17) hx hb dM_amount_10 (by decide) (fun h9 => absurd h9 (fun z => z (pjd_0 h3))) (fun _ => ?_)
  refine lv_iconst (v := 1) hx hb dM_amount_13 (by decide) ?_
  refine lv_goto (tgt := 18) hx hb dM_amount_14 (by decide) ?_
  refine pj_callV (w2 := [(oM, .inr (4, [.int 0, .int (nI n), .int (nI J), .ref mA, .ref mC, .ref mT, .int (nI us), .int wr, .int sn, .int (nI si), .int gr, .int (nI gp), .ref mF, .ref mO, .ref mV, .int lf, .int (pjd lf)])), (mA, .inl (cJ, 64, .inr (.inl fM))), (mC, .inl (cI, 64, .inl cM)), (mT, .inl (cJ, 64, .inr (.inl tM))), (mF, .inl (cI, 60, .inl fF)), (mO, .inl (cI, 60, .inl tF)), (mV, .inl (cJ, 60, .inr (.inl vM)))]) (wr := []) (rest := []) (st1 := [.int 1]) ⟨hx, hb, hml, hown, hts⟩ (m_goes_0 l D cI cJ cZ oM mA mC mT mF mO mV n J us gp si fM tM vM cM fF tF kd wr sn lf gr hn hJ hus) (cwV 2 hts (pj_gV m_490 m_492 m_12 m_24 m_493) rfl rfl rfl (by decide +kernel) ⟨Nat.le_of_ble_eq_true rfl, Nat.le_of_ble_eq_true rfl⟩) pj_no_ok trivial hK hP hD hS hA (ci := 4) (q0 := 0) rfl rfl [0, 1, 2, 3, 4, 5, 6] [] [0, 1, 2, 3, 4, 5, 6] rfl rfl rfl rfl (by decide) rfl rfl rfl hl.1 rfl (Nat.le_of_ble_eq_true rfl) dM_amount_18 ⟨Nat.le_of_ble_eq_true rfl, Nat.le_of_ble_eq_true rfl⟩ rfl rfl rfl (fun H locs hP hD hS => ?_)
  refine lv_if_eq (tgt := 33) hx hb dM_amount_21 (by decide) (fun h9 => absurd h9 (by decide)) (fun _ => ?_)
  refine lv_aload_n hx hb dM_amount_24 rfl (lv_at hl 0 rfl) ?_
  refine va_get (D := D) (ci := 4) (v := .ref mA) (C := "ReplayJournalModel") (T := TM) (N := 17) hx hb hts (pj_ups inM) hown hK hP 0 rfl rfl 3 (by decide) (hts _ (pj_up m_427)) (fun _ h9 => h9) rfl dM_amount_25 ?_
  refine lv_iload_n hx hb dM_amount_28 rfl (lv_at hl 1 rfl) ?_
  refine va_lald hx hb hK hP 1 1 rfl rfl (pjH_64 hn h1) dM_amount_29 ?_
  refine lv_goto (tgt := 34) hx hb dM_amount_30 (by decide) ?_
  exact pj_lret hx hb hr hlocks hP hD hS (rfl) (rfl) dM_amount_34
set_option maxHeartbeats 4000000 in
set_option maxRecDepth 100000 in
theorem m_changes_1 (l : Launch) (D : va_G) (cI cJ cZ : ClassId) (oM mA mC mT mF mO mV n J us gp si : Nat) (fM tM vM : Nat → Int64) (cM fF tF : Nat → Int32) (kd wr sn lf gr : Int32) (hn : n ≤ 64) (hJ : J ≤ 60) (hus : us ≤ J) (x : Int32) (h1 : ¬ pjH n x) : pj_Met l yM_changes wsM_changes ({ frames := 1, cells := 0, slots := 0, locals := 22 }) D vwCl (pjT cI cJ cZ) pj_no [.ref oM, .int x] [(oM, .inr (4, [.int kd, .int (nI n), .int (nI J), .ref mA, .ref mC, .ref mT, .int (nI us), .int wr, .int sn, .int (nI si), .int gr, .int (nI gp), .ref mF, .ref mO, .ref mV, .int lf, .int (pjd lf)])), (mA, .inl (cJ, 64, .inr (.inl fM))), (mC, .inl (cI, 64, .inl cM)), (mT, .inl (cJ, 64, .inr (.inl tM))), (mF, .inl (cI, 60, .inl fF)), (mO, .inl (cI, 60, .inl tF)), (mV, .inl (cJ, 60, .inr (.inl vM)))] (some (.int 0)) [(oM, .inr (4, [.int 1, .int (nI n), .int (nI J), .ref mA, .ref mC, .ref mT, .int (nI us), .int wr, .int sn, .int (nI si), .int gr, .int (nI gp), .ref mF, .ref mO, .ref mV, .int lf, .int (pjd lf)])), (mA, .inl (cJ, 64, .inr (.inl fM))), (mC, .inl (cI, 64, .inl cM)), (mT, .inl (cJ, 64, .inr (.inl tM))), (mF, .inl (cI, 60, .inl fF)), (mO, .inl (cI, 60, .inl tF)), (mV, .inl (cJ, 60, .inr (.inl vM)))] 0 0 := by
  refine pj_of (by decide) rfl (Nat.le_of_ble_eq_true rfl) ?_
  intro p e s m below meth c A ls hx hb hml hr hts hown hlocks hin hA hK hP hD hS hG hl
  have hl : lv_has ls 2 [(0, .ref oM), (1, .int x)] := hl
  refine lv_aload_n hx hb dM_changes_0 rfl (lv_at hl 0 rfl) ?_
  refine lv_aload_n hx hb dM_changes_1 rfl (lv_at hl 0 rfl) ?_
  refine lv_iload_n hx hb dM_changes_2 rfl (lv_at hl 1 rfl) ?_
  refine pp_callV (rest := [.ref oM]) (st1 := [.int 0, .ref oM]) ⟨hx, hb, hml, hown, hts⟩ (m_isa_f l D cI cJ cZ oM mA mC mT mF mO mV n J us gp si fM tM vM cM fF tF kd wr sn lf gr hn hJ hus x h1) (cwV 1 hts (pj_gV m_484 m_486 m_11 m_24 m_487) rfl rfl rfl (by decide +kernel) ⟨Nat.le_of_ble_eq_true rfl, Nat.le_of_ble_eq_true rfl⟩) pj_no_ok trivial hK hP hD hS hA (ci := 4) (q0 := 0) rfl rfl [0, 1, 2, 3, 4, 5, 6] rfl rfl rfl hl.1 rfl (Nat.le_of_ble_eq_true rfl) dM_changes_3 ⟨Nat.le_of_ble_eq_true rfl, Nat.le_of_ble_eq_true rfl⟩ rfl ?_
  refine lv_aload_n hx hb dM_changes_6 rfl (lv_at hl 0 rfl) ?_
  refine va_get (D := D) (ci := 4) (v := .int (pjd lf)) (C := "ReplayJournalModel") (T := TM) (N := 17) hx hb hts (pj_ups inM) hown hK hP 0 rfl rfl 16 (by decide) (hts _ (pj_up m_440)) (fun _ h9 => h9) rfl dM_changes_7 ?_
  refine lv_if_ne (tgt := 17) hx hb dM_changes_10 (by decide) (fun c9 => ?_) (fun c9 => ?_)
  · refine lv_iconst (v := 0) hx hb dM_changes_17 (by decide) ?_
    refine pj_callV (w2 := [(oM, .inr (4, [.int 1, .int (nI n), .int (nI J), .ref mA, .ref mC, .ref mT, .int (nI us), .int wr, .int sn, .int (nI si), .int gr, .int (nI gp), .ref mF, .ref mO, .ref mV, .int lf, .int (pjd lf)])), (mA, .inl (cJ, 64, .inr (.inl fM))), (mC, .inl (cI, 64, .inl cM)), (mT, .inl (cJ, 64, .inr (.inl tM))), (mF, .inl (cI, 60, .inl fF)), (mO, .inl (cI, 60, .inl tF)), (mV, .inl (cJ, 60, .inr (.inl vM)))]) (wr := []) (rest := []) (st1 := [.int 0]) ⟨hx, hb, hml, hown, hts⟩ (m_goes_1 l D cI cJ cZ oM mA mC mT mF mO mV n J us gp si fM tM vM cM fF tF kd wr sn lf gr hn hJ hus 0) (cwV 2 hts (pj_gV m_490 m_492 m_12 m_24 m_493) rfl rfl rfl (by decide +kernel) ⟨Nat.le_of_ble_eq_true rfl, Nat.le_of_ble_eq_true rfl⟩) pj_no_ok trivial hK hP hD hS hA (ci := 4) (q0 := 0) rfl rfl [0, 1, 2, 3, 4, 5, 6] [] [0, 1, 2, 3, 4, 5, 6] rfl rfl rfl rfl (by decide) rfl rfl rfl hl.1 rfl (Nat.le_of_ble_eq_true rfl) dM_changes_18 ⟨Nat.le_of_ble_eq_true rfl, Nat.le_of_ble_eq_true rfl⟩ rfl rfl rfl (fun H locs hP hD hS => ?_)
    refine lv_if_eq (tgt := 33) hx hb dM_changes_21 (by decide) (fun _ => ?_) (fun h9 => (h9 rfl).elim)
    refine lv_iconst (v := 0) hx hb dM_changes_33 (by decide) ?_
    exact pj_iret hx hb hr hlocks hP hD hS (rfl) (rfl) dM_changes_34
  · refine lv_iconst (v := 1) hx hb dM_changes_13 (by decide) ?_
    refine lv_goto (tgt := 18) hx hb dM_changes_14 (by decide) ?_
    refine pj_callV (w2 := [(oM, .inr (4, [.int 1, .int (nI n), .int (nI J), .ref mA, .ref mC, .ref mT, .int (nI us), .int wr, .int sn, .int (nI si), .int gr, .int (nI gp), .ref mF, .ref mO, .ref mV, .int lf, .int (pjd lf)])), (mA, .inl (cJ, 64, .inr (.inl fM))), (mC, .inl (cI, 64, .inl cM)), (mT, .inl (cJ, 64, .inr (.inl tM))), (mF, .inl (cI, 60, .inl fF)), (mO, .inl (cI, 60, .inl tF)), (mV, .inl (cJ, 60, .inr (.inl vM)))]) (wr := []) (rest := []) (st1 := [.int 0]) ⟨hx, hb, hml, hown, hts⟩ (m_goes_1 l D cI cJ cZ oM mA mC mT mF mO mV n J us gp si fM tM vM cM fF tF kd wr sn lf gr hn hJ hus 1) (cwV 2 hts (pj_gV m_490 m_492 m_12 m_24 m_493) rfl rfl rfl (by decide +kernel) ⟨Nat.le_of_ble_eq_true rfl, Nat.le_of_ble_eq_true rfl⟩) pj_no_ok trivial hK hP hD hS hA (ci := 4) (q0 := 0) rfl rfl [0, 1, 2, 3, 4, 5, 6] [] [0, 1, 2, 3, 4, 5, 6] rfl rfl rfl rfl (by decide) rfl rfl rfl hl.1 rfl (Nat.le_of_ble_eq_true rfl) dM_changes_18 ⟨Nat.le_of_ble_eq_true rfl, Nat.le_of_ble_eq_true rfl⟩ rfl rfl rfl (fun H locs hP hD hS => ?_)
    refine lv_if_eq (tgt := 33) hx hb dM_changes_21 (by decide) (fun _ => ?_) (fun h9 => (h9 rfl).elim)
    refine lv_iconst (v := 0) hx hb dM_changes_33 (by decide) ?_
    exact pj_iret hx hb hr hlocks hP hD hS (rfl) (rfl) dM_changes_34
set_option maxHeartbeats 4000000 in
set_option maxRecDepth 100000 in
theorem m_changes_2 (l : Launch) (D : va_G) (cI cJ cZ : ClassId) (oM mA mC mT mF mO mV n J us gp si : Nat) (fM tM vM : Nat → Int64) (cM fF tF : Nat → Int32) (kd wr sn lf gr : Int32) (hn : n ≤ 64) (hJ : J ≤ 60) (hus : us ≤ J) (x : Int32) (h1 : pjH n x) (h3 : lf = 0) : pj_Met l yM_changes wsM_changes ({ frames := 1, cells := 0, slots := 0, locals := 22 }) D vwCl (pjT cI cJ cZ) pj_no [.ref oM, .int x] [(oM, .inr (4, [.int kd, .int (nI n), .int (nI J), .ref mA, .ref mC, .ref mT, .int (nI us), .int wr, .int sn, .int (nI si), .int gr, .int (nI gp), .ref mF, .ref mO, .ref mV, .int lf, .int (pjd lf)])), (mA, .inl (cJ, 64, .inr (.inl fM))), (mC, .inl (cI, 64, .inl cM)), (mT, .inl (cJ, 64, .inr (.inl tM))), (mF, .inl (cI, 60, .inl fF)), (mO, .inl (cI, 60, .inl tF)), (mV, .inl (cJ, 60, .inr (.inl vM)))] (some (.int 0)) [(oM, .inr (4, [.int 2, .int (nI n), .int (nI J), .ref mA, .ref mC, .ref mT, .int (nI us), .int wr, .int sn, .int (nI si), .int gr, .int (nI gp), .ref mF, .ref mO, .ref mV, .int lf, .int (pjd lf)])), (mA, .inl (cJ, 64, .inr (.inl fM))), (mC, .inl (cI, 64, .inl cM)), (mT, .inl (cJ, 64, .inr (.inl tM))), (mF, .inl (cI, 60, .inl fF)), (mO, .inl (cI, 60, .inl tF)), (mV, .inl (cJ, 60, .inr (.inl vM)))] 0 0 := by
  refine pj_of (by decide) rfl (Nat.le_of_ble_eq_true rfl) ?_
  intro p e s m below meth c A ls hx hb hml hr hts hown hlocks hin hA hK hP hD hS hG hl
  have hl : lv_has ls 2 [(0, .ref oM), (1, .int x)] := hl
  refine lv_aload_n hx hb dM_changes_0 rfl (lv_at hl 0 rfl) ?_
  refine lv_aload_n hx hb dM_changes_1 rfl (lv_at hl 0 rfl) ?_
  refine lv_iload_n hx hb dM_changes_2 rfl (lv_at hl 1 rfl) ?_
  refine pp_callV (rest := [.ref oM]) (st1 := [.int 1, .ref oM]) ⟨hx, hb, hml, hown, hts⟩ (m_isa_t l D cI cJ cZ oM mA mC mT mF mO mV n J us gp si fM tM vM cM fF tF kd wr sn lf gr hn hJ hus x h1) (cwV 1 hts (pj_gV m_484 m_486 m_11 m_24 m_487) rfl rfl rfl (by decide +kernel) ⟨Nat.le_of_ble_eq_true rfl, Nat.le_of_ble_eq_true rfl⟩) pj_no_ok trivial hK hP hD hS hA (ci := 4) (q0 := 0) rfl rfl [0, 1, 2, 3, 4, 5, 6] rfl rfl rfl hl.1 rfl (Nat.le_of_ble_eq_true rfl) dM_changes_3 ⟨Nat.le_of_ble_eq_true rfl, Nat.le_of_ble_eq_true rfl⟩ rfl ?_
  refine lv_aload_n hx hb dM_changes_6 rfl (lv_at hl 0 rfl) ?_
  refine va_get (D := D) (ci := 4) (v := .int (pjd lf)) (C := "ReplayJournalModel") (T := TM) (N := 17) hx hb hts (pj_ups inM) hown hK hP 0 rfl rfl 16 (by decide) (hts _ (pj_up m_440)) (fun _ h9 => h9) rfl dM_changes_7 ?_
  refine lv_if_ne (tgt := 17) hx hb dM_changes_10 (by decide) (fun _ => ?_) (fun h9 => absurd h9 (by rw [pjd_1 h3]; decide))
  refine lv_iconst (v := 0) hx hb dM_changes_17 (by decide) ?_
  refine pj_callV (w2 := [(oM, .inr (4, [.int 2, .int (nI n), .int (nI J), .ref mA, .ref mC, .ref mT, .int (nI us), .int wr, .int sn, .int (nI si), .int gr, .int (nI gp), .ref mF, .ref mO, .ref mV, .int lf, .int (pjd lf)])), (mA, .inl (cJ, 64, .inr (.inl fM))), (mC, .inl (cI, 64, .inl cM)), (mT, .inl (cJ, 64, .inr (.inl tM))), (mF, .inl (cI, 60, .inl fF)), (mO, .inl (cI, 60, .inl tF)), (mV, .inl (cJ, 60, .inr (.inl vM)))]) (wr := []) (rest := []) (st1 := [.int 0]) ⟨hx, hb, hml, hown, hts⟩ (m_goes_2 l D cI cJ cZ oM mA mC mT mF mO mV n J us gp si fM tM vM cM fF tF kd wr sn lf gr hn hJ hus) (cwV 2 hts (pj_gV m_490 m_492 m_12 m_24 m_493) rfl rfl rfl (by decide +kernel) ⟨Nat.le_of_ble_eq_true rfl, Nat.le_of_ble_eq_true rfl⟩) pj_no_ok trivial hK hP hD hS hA (ci := 4) (q0 := 0) rfl rfl [0, 1, 2, 3, 4, 5, 6] [] [0, 1, 2, 3, 4, 5, 6] rfl rfl rfl rfl (by decide) rfl rfl rfl hl.1 rfl (Nat.le_of_ble_eq_true rfl) dM_changes_18 ⟨Nat.le_of_ble_eq_true rfl, Nat.le_of_ble_eq_true rfl⟩ rfl rfl rfl (fun H locs hP hD hS => ?_)
  refine lv_if_eq (tgt := 33) hx hb dM_changes_21 (by decide) (fun _ => ?_) (fun h9 => (h9 rfl).elim)
  refine lv_iconst (v := 0) hx hb dM_changes_33 (by decide) ?_
  exact pj_iret hx hb hr hlocks hP hD hS (rfl) (rfl) dM_changes_34
set_option maxHeartbeats 4000000 in
set_option maxRecDepth 100000 in
theorem m_changes_0 (l : Launch) (D : va_G) (cI cJ cZ : ClassId) (oM mA mC mT mF mO mV n J us gp si : Nat) (fM tM vM : Nat → Int64) (cM fF tF : Nat → Int32) (kd wr sn lf gr : Int32) (hn : n ≤ 64) (hJ : J ≤ 60) (hus : us ≤ J) (x : Int32) (h1 : pjH n x) (h3 : ¬ lf = 0) : pj_Met l yM_changes wsM_changes ({ frames := 1, cells := 0, slots := 0, locals := 22 }) D vwCl (pjT cI cJ cZ) pj_no [.ref oM, .int x] [(oM, .inr (4, [.int kd, .int (nI n), .int (nI J), .ref mA, .ref mC, .ref mT, .int (nI us), .int wr, .int sn, .int (nI si), .int gr, .int (nI gp), .ref mF, .ref mO, .ref mV, .int lf, .int (pjd lf)])), (mA, .inl (cJ, 64, .inr (.inl fM))), (mC, .inl (cI, 64, .inl cM)), (mT, .inl (cJ, 64, .inr (.inl tM))), (mF, .inl (cI, 60, .inl fF)), (mO, .inl (cI, 60, .inl tF)), (mV, .inl (cJ, 60, .inr (.inl vM)))] (some (.int (cM x.toNatClampNeg))) [(oM, .inr (4, [.int 0, .int (nI n), .int (nI J), .ref mA, .ref mC, .ref mT, .int (nI us), .int wr, .int sn, .int (nI si), .int gr, .int (nI gp), .ref mF, .ref mO, .ref mV, .int lf, .int (pjd lf)])), (mA, .inl (cJ, 64, .inr (.inl fM))), (mC, .inl (cI, 64, .inl cM)), (mT, .inl (cJ, 64, .inr (.inl tM))), (mF, .inl (cI, 60, .inl fF)), (mO, .inl (cI, 60, .inl tF)), (mV, .inl (cJ, 60, .inr (.inl vM)))] 0 0 := by
  refine pj_of (by decide) rfl (Nat.le_of_ble_eq_true rfl) ?_
  intro p e s m below meth c A ls hx hb hml hr hts hown hlocks hin hA hK hP hD hS hG hl
  have hl : lv_has ls 2 [(0, .ref oM), (1, .int x)] := hl
  refine lv_aload_n hx hb dM_changes_0 rfl (lv_at hl 0 rfl) ?_
  refine lv_aload_n hx hb dM_changes_1 rfl (lv_at hl 0 rfl) ?_
  refine lv_iload_n hx hb dM_changes_2 rfl (lv_at hl 1 rfl) ?_
  refine pp_callV (rest := [.ref oM]) (st1 := [.int 1, .ref oM]) ⟨hx, hb, hml, hown, hts⟩ (m_isa_t l D cI cJ cZ oM mA mC mT mF mO mV n J us gp si fM tM vM cM fF tF kd wr sn lf gr hn hJ hus x h1) (cwV 1 hts (pj_gV m_484 m_486 m_11 m_24 m_487) rfl rfl rfl (by decide +kernel) ⟨Nat.le_of_ble_eq_true rfl, Nat.le_of_ble_eq_true rfl⟩) pj_no_ok trivial hK hP hD hS hA (ci := 4) (q0 := 0) rfl rfl [0, 1, 2, 3, 4, 5, 6] rfl rfl rfl hl.1 rfl (Nat.le_of_ble_eq_true rfl) dM_changes_3 ⟨Nat.le_of_ble_eq_true rfl, Nat.le_of_ble_eq_true rfl⟩ rfl ?_
  refine lv_aload_n hx hb dM_changes_6 rfl (lv_at hl 0 rfl) ?_
  refine va_get (D := D) (ci := 4) (v := .int (pjd lf)) (C := "ReplayJournalModel") (T := TM) (N := 17) hx hb hts (pj_ups inM) hown hK hP 0 rfl rfl 16 (by decide) (hts _ (pj_up m_440)) (fun _ h9 => h9) rfl dM_changes_7 ?_
  refine lv_if_ne (tgt := 17) hx hb dM_changes_10 (by decide) (fun h9 => absurd h9 (fun z => z (pjd_0 h3))) (fun _ => ?_)
  refine lv_iconst (v := 1) hx hb dM_changes_13 (by decide) ?_
  refine lv_goto (tgt := 18) hx hb dM_changes_14 (by decide) ?_
  refine pj_callV (w2 := [(oM, .inr (4, [.int 0, .int (nI n), .int (nI J), .ref mA, .ref mC, .ref mT, .int (nI us), .int wr, .int sn, .int (nI si), .int gr, .int (nI gp), .ref mF, .ref mO, .ref mV, .int lf, .int (pjd lf)])), (mA, .inl (cJ, 64, .inr (.inl fM))), (mC, .inl (cI, 64, .inl cM)), (mT, .inl (cJ, 64, .inr (.inl tM))), (mF, .inl (cI, 60, .inl fF)), (mO, .inl (cI, 60, .inl tF)), (mV, .inl (cJ, 60, .inr (.inl vM)))]) (wr := []) (rest := []) (st1 := [.int 1]) ⟨hx, hb, hml, hown, hts⟩ (m_goes_0 l D cI cJ cZ oM mA mC mT mF mO mV n J us gp si fM tM vM cM fF tF kd wr sn lf gr hn hJ hus) (cwV 2 hts (pj_gV m_490 m_492 m_12 m_24 m_493) rfl rfl rfl (by decide +kernel) ⟨Nat.le_of_ble_eq_true rfl, Nat.le_of_ble_eq_true rfl⟩) pj_no_ok trivial hK hP hD hS hA (ci := 4) (q0 := 0) rfl rfl [0, 1, 2, 3, 4, 5, 6] [] [0, 1, 2, 3, 4, 5, 6] rfl rfl rfl rfl (by decide) rfl rfl rfl hl.1 rfl (Nat.le_of_ble_eq_true rfl) dM_changes_18 ⟨Nat.le_of_ble_eq_true rfl, Nat.le_of_ble_eq_true rfl⟩ rfl rfl rfl (fun H locs hP hD hS => ?_)
  refine lv_if_eq (tgt := 33) hx hb dM_changes_21 (by decide) (fun h9 => absurd h9 (by decide)) (fun _ => ?_)
  refine lv_aload_n hx hb dM_changes_24 rfl (lv_at hl 0 rfl) ?_
  refine va_get (D := D) (ci := 4) (v := .ref mC) (C := "ReplayJournalModel") (T := TM) (N := 17) hx hb hts (pj_ups inM) hown hK hP 0 rfl rfl 4 (by decide) (hts _ (pj_up m_428)) (fun _ h9 => h9) rfl dM_changes_25 ?_
  refine lv_iload_n hx hb dM_changes_28 rfl (lv_at hl 1 rfl) ?_
  refine va_iald hx hb hK hP 2 0 rfl rfl (pjH_64 hn h1) dM_changes_29 ?_
  refine lv_goto (tgt := 34) hx hb dM_changes_30 (by decide) ?_
  exact pj_iret hx hb hr hlocks hP hD hS (rfl) (rfl) dM_changes_34
set_option maxHeartbeats 4000000 in
set_option maxRecDepth 100000 in
theorem m_count_1 (l : Launch) (D : va_G) (cI cJ cZ : ClassId) (oM mA mC mT mF mO mV n J us gp si : Nat) (fM tM vM : Nat → Int64) (cM fF tF : Nat → Int32) (kd wr sn lf gr : Int32) (hn : n ≤ 64) (hJ : J ≤ 60) (hus : us ≤ J) (x : Int32) (h : x < 0 ∨ 3 < x) : pj_Met l yM_count wsM_count ({ frames := 1, cells := 0, slots := 0, locals := 22 }) D vwCl (pjT cI cJ cZ) pj_no [.ref oM, .int x] [(oM, .inr (4, [.int kd, .int (nI n), .int (nI J), .ref mA, .ref mC, .ref mT, .int (nI us), .int wr, .int sn, .int (nI si), .int gr, .int (nI gp), .ref mF, .ref mO, .ref mV, .int lf, .int (pjd lf)])), (mA, .inl (cJ, 64, .inr (.inl fM))), (mC, .inl (cI, 64, .inl cM)), (mT, .inl (cJ, 64, .inr (.inl tM))), (mF, .inl (cI, 60, .inl fF)), (mO, .inl (cI, 60, .inl tF)), (mV, .inl (cJ, 60, .inr (.inl vM)))] (some (.int 0)) [(oM, .inr (4, [.int 1, .int (nI n), .int (nI J), .ref mA, .ref mC, .ref mT, .int (nI us), .int wr, .int sn, .int (nI si), .int gr, .int (nI gp), .ref mF, .ref mO, .ref mV, .int lf, .int (pjd lf)])), (mA, .inl (cJ, 64, .inr (.inl fM))), (mC, .inl (cI, 64, .inl cM)), (mT, .inl (cJ, 64, .inr (.inl tM))), (mF, .inl (cI, 60, .inl fF)), (mO, .inl (cI, 60, .inl tF)), (mV, .inl (cJ, 60, .inr (.inl vM)))] 0 0 := by
  refine pj_of (by decide) rfl (Nat.le_of_ble_eq_true rfl) ?_
  intro p e s m below meth c A ls hx hb hml hr hts hown hlocks hin hA hK hP hD hS hG hl
  have hl : lv_has ls 2 [(0, .ref oM), (1, .int x)] := hl
  refine lv_aload_n hx hb dM_count_0 rfl (lv_at hl 0 rfl) ?_
  refine lv_iload_n hx hb dM_count_1 rfl (lv_at hl 1 rfl) ?_
  refine lv_if_lt (tgt := 14) hx hb dM_count_2 (by decide) (fun c1 => ?_) (fun c1 => ?_)
  · refine lv_iconst (v := 0) hx hb dM_count_14 (by decide) ?_
    refine lv_aload_n hx hb dM_count_15 rfl (lv_at hl 0 rfl) ?_
    refine va_get (D := D) (ci := 4) (v := .int (pjd lf)) (C := "ReplayJournalModel") (T := TM) (N := 17) hx hb hts (pj_ups inM) hown hK hP 0 rfl rfl 16 (by decide) (hts _ (pj_up m_440)) (fun _ h9 => h9) rfl dM_count_16 ?_
    refine lv_if_ne (tgt := 26) hx hb dM_count_19 (by decide) (fun c9 => ?_) (fun c9 => ?_)
    · refine lv_iconst (v := 0) hx hb dM_count_26 (by decide) ?_
      refine pj_callV (w2 := [(oM, .inr (4, [.int 1, .int (nI n), .int (nI J), .ref mA, .ref mC, .ref mT, .int (nI us), .int wr, .int sn, .int (nI si), .int gr, .int (nI gp), .ref mF, .ref mO, .ref mV, .int lf, .int (pjd lf)])), (mA, .inl (cJ, 64, .inr (.inl fM))), (mC, .inl (cI, 64, .inl cM)), (mT, .inl (cJ, 64, .inr (.inl tM))), (mF, .inl (cI, 60, .inl fF)), (mO, .inl (cI, 60, .inl tF)), (mV, .inl (cJ, 60, .inr (.inl vM)))]) (wr := []) (rest := []) (st1 := [.int 0]) ⟨hx, hb, hml, hown, hts⟩ (m_goes_1 l D cI cJ cZ oM mA mC mT mF mO mV n J us gp si fM tM vM cM fF tF kd wr sn lf gr hn hJ hus 0) (cwV 2 hts (pj_gV m_490 m_492 m_12 m_24 m_493) rfl rfl rfl (by decide +kernel) ⟨Nat.le_of_ble_eq_true rfl, Nat.le_of_ble_eq_true rfl⟩) pj_no_ok trivial hK hP hD hS hA (ci := 4) (q0 := 0) rfl rfl [0, 1, 2, 3, 4, 5, 6] [] [0, 1, 2, 3, 4, 5, 6] rfl rfl rfl rfl (by decide) rfl rfl rfl hl.1 rfl (Nat.le_of_ble_eq_true rfl) dM_count_27 ⟨Nat.le_of_ble_eq_true rfl, Nat.le_of_ble_eq_true rfl⟩ rfl rfl rfl (fun H locs hP hD hS => ?_)
      refine lv_if_ne (tgt := 35) hx hb dM_count_30 (by decide) (fun h9 => absurd h9 (fun h => h rfl)) (fun _ => ?_)
      refine lv_iconst (v := 0) hx hb dM_count_33 (by decide) ?_
      exact pj_iret hx hb hr hlocks hP hD hS (rfl) (rfl) dM_count_34
    · refine lv_iconst (v := 1) hx hb dM_count_22 (by decide) ?_
      refine lv_goto (tgt := 27) hx hb dM_count_23 (by decide) ?_
      refine pj_callV (w2 := [(oM, .inr (4, [.int 1, .int (nI n), .int (nI J), .ref mA, .ref mC, .ref mT, .int (nI us), .int wr, .int sn, .int (nI si), .int gr, .int (nI gp), .ref mF, .ref mO, .ref mV, .int lf, .int (pjd lf)])), (mA, .inl (cJ, 64, .inr (.inl fM))), (mC, .inl (cI, 64, .inl cM)), (mT, .inl (cJ, 64, .inr (.inl tM))), (mF, .inl (cI, 60, .inl fF)), (mO, .inl (cI, 60, .inl tF)), (mV, .inl (cJ, 60, .inr (.inl vM)))]) (wr := []) (rest := []) (st1 := [.int 0]) ⟨hx, hb, hml, hown, hts⟩ (m_goes_1 l D cI cJ cZ oM mA mC mT mF mO mV n J us gp si fM tM vM cM fF tF kd wr sn lf gr hn hJ hus 1) (cwV 2 hts (pj_gV m_490 m_492 m_12 m_24 m_493) rfl rfl rfl (by decide +kernel) ⟨Nat.le_of_ble_eq_true rfl, Nat.le_of_ble_eq_true rfl⟩) pj_no_ok trivial hK hP hD hS hA (ci := 4) (q0 := 0) rfl rfl [0, 1, 2, 3, 4, 5, 6] [] [0, 1, 2, 3, 4, 5, 6] rfl rfl rfl rfl (by decide) rfl rfl rfl hl.1 rfl (Nat.le_of_ble_eq_true rfl) dM_count_27 ⟨Nat.le_of_ble_eq_true rfl, Nat.le_of_ble_eq_true rfl⟩ rfl rfl rfl (fun H locs hP hD hS => ?_)
      refine lv_if_ne (tgt := 35) hx hb dM_count_30 (by decide) (fun h9 => absurd h9 (fun h => h rfl)) (fun _ => ?_)
      refine lv_iconst (v := 0) hx hb dM_count_33 (by decide) ?_
      exact pj_iret hx hb hr hlocks hP hD hS (rfl) (rfl) dM_count_34
  · refine lv_iload_n hx hb dM_count_5 rfl (lv_at hl 1 rfl) ?_
    refine lv_iconst (v := 3) hx hb dM_count_6 (by decide) ?_
    refine lv_icmp_gt (tgt := 14) hx hb dM_count_7 (by decide) (fun _ => ?_) (fun h9 => (h9 (h.resolve_left c1)).elim)
    refine lv_iconst (v := 0) hx hb dM_count_14 (by decide) ?_
    refine lv_aload_n hx hb dM_count_15 rfl (lv_at hl 0 rfl) ?_
    refine va_get (D := D) (ci := 4) (v := .int (pjd lf)) (C := "ReplayJournalModel") (T := TM) (N := 17) hx hb hts (pj_ups inM) hown hK hP 0 rfl rfl 16 (by decide) (hts _ (pj_up m_440)) (fun _ h9 => h9) rfl dM_count_16 ?_
    refine lv_if_ne (tgt := 26) hx hb dM_count_19 (by decide) (fun c9 => ?_) (fun c9 => ?_)
    · refine lv_iconst (v := 0) hx hb dM_count_26 (by decide) ?_
      refine pj_callV (w2 := [(oM, .inr (4, [.int 1, .int (nI n), .int (nI J), .ref mA, .ref mC, .ref mT, .int (nI us), .int wr, .int sn, .int (nI si), .int gr, .int (nI gp), .ref mF, .ref mO, .ref mV, .int lf, .int (pjd lf)])), (mA, .inl (cJ, 64, .inr (.inl fM))), (mC, .inl (cI, 64, .inl cM)), (mT, .inl (cJ, 64, .inr (.inl tM))), (mF, .inl (cI, 60, .inl fF)), (mO, .inl (cI, 60, .inl tF)), (mV, .inl (cJ, 60, .inr (.inl vM)))]) (wr := []) (rest := []) (st1 := [.int 0]) ⟨hx, hb, hml, hown, hts⟩ (m_goes_1 l D cI cJ cZ oM mA mC mT mF mO mV n J us gp si fM tM vM cM fF tF kd wr sn lf gr hn hJ hus 0) (cwV 2 hts (pj_gV m_490 m_492 m_12 m_24 m_493) rfl rfl rfl (by decide +kernel) ⟨Nat.le_of_ble_eq_true rfl, Nat.le_of_ble_eq_true rfl⟩) pj_no_ok trivial hK hP hD hS hA (ci := 4) (q0 := 0) rfl rfl [0, 1, 2, 3, 4, 5, 6] [] [0, 1, 2, 3, 4, 5, 6] rfl rfl rfl rfl (by decide) rfl rfl rfl hl.1 rfl (Nat.le_of_ble_eq_true rfl) dM_count_27 ⟨Nat.le_of_ble_eq_true rfl, Nat.le_of_ble_eq_true rfl⟩ rfl rfl rfl (fun H locs hP hD hS => ?_)
      refine lv_if_ne (tgt := 35) hx hb dM_count_30 (by decide) (fun h9 => absurd h9 (fun h => h rfl)) (fun _ => ?_)
      refine lv_iconst (v := 0) hx hb dM_count_33 (by decide) ?_
      exact pj_iret hx hb hr hlocks hP hD hS (rfl) (rfl) dM_count_34
    · refine lv_iconst (v := 1) hx hb dM_count_22 (by decide) ?_
      refine lv_goto (tgt := 27) hx hb dM_count_23 (by decide) ?_
      refine pj_callV (w2 := [(oM, .inr (4, [.int 1, .int (nI n), .int (nI J), .ref mA, .ref mC, .ref mT, .int (nI us), .int wr, .int sn, .int (nI si), .int gr, .int (nI gp), .ref mF, .ref mO, .ref mV, .int lf, .int (pjd lf)])), (mA, .inl (cJ, 64, .inr (.inl fM))), (mC, .inl (cI, 64, .inl cM)), (mT, .inl (cJ, 64, .inr (.inl tM))), (mF, .inl (cI, 60, .inl fF)), (mO, .inl (cI, 60, .inl tF)), (mV, .inl (cJ, 60, .inr (.inl vM)))]) (wr := []) (rest := []) (st1 := [.int 0]) ⟨hx, hb, hml, hown, hts⟩ (m_goes_1 l D cI cJ cZ oM mA mC mT mF mO mV n J us gp si fM tM vM cM fF tF kd wr sn lf gr hn hJ hus 1) (cwV 2 hts (pj_gV m_490 m_492 m_12 m_24 m_493) rfl rfl rfl (by decide +kernel) ⟨Nat.le_of_ble_eq_true rfl, Nat.le_of_ble_eq_true rfl⟩) pj_no_ok trivial hK hP hD hS hA (ci := 4) (q0 := 0) rfl rfl [0, 1, 2, 3, 4, 5, 6] [] [0, 1, 2, 3, 4, 5, 6] rfl rfl rfl rfl (by decide) rfl rfl rfl hl.1 rfl (Nat.le_of_ble_eq_true rfl) dM_count_27 ⟨Nat.le_of_ble_eq_true rfl, Nat.le_of_ble_eq_true rfl⟩ rfl rfl rfl (fun H locs hP hD hS => ?_)
      refine lv_if_ne (tgt := 35) hx hb dM_count_30 (by decide) (fun h9 => absurd h9 (fun h => h rfl)) (fun _ => ?_)
      refine lv_iconst (v := 0) hx hb dM_count_33 (by decide) ?_
      exact pj_iret hx hb hr hlocks hP hD hS (rfl) (rfl) dM_count_34
set_option maxHeartbeats 4000000 in
set_option maxRecDepth 100000 in
theorem m_count_2 (l : Launch) (D : va_G) (cI cJ cZ : ClassId) (oM mA mC mT mF mO mV n J us gp si : Nat) (fM tM vM : Nat → Int64) (cM fF tF : Nat → Int32) (kd wr sn lf gr : Int32) (hn : n ≤ 64) (hJ : J ≤ 60) (hus : us ≤ J) (x : Int32) (h2 : ¬ x < 0 ∧ ¬ 3 < x) (h3 : lf = 0) : pj_Met l yM_count wsM_count ({ frames := 1, cells := 0, slots := 0, locals := 22 }) D vwCl (pjT cI cJ cZ) pj_no [.ref oM, .int x] [(oM, .inr (4, [.int kd, .int (nI n), .int (nI J), .ref mA, .ref mC, .ref mT, .int (nI us), .int wr, .int sn, .int (nI si), .int gr, .int (nI gp), .ref mF, .ref mO, .ref mV, .int lf, .int (pjd lf)])), (mA, .inl (cJ, 64, .inr (.inl fM))), (mC, .inl (cI, 64, .inl cM)), (mT, .inl (cJ, 64, .inr (.inl tM))), (mF, .inl (cI, 60, .inl fF)), (mO, .inl (cI, 60, .inl tF)), (mV, .inl (cJ, 60, .inr (.inl vM)))] (some (.int 0)) [(oM, .inr (4, [.int 2, .int (nI n), .int (nI J), .ref mA, .ref mC, .ref mT, .int (nI us), .int wr, .int sn, .int (nI si), .int gr, .int (nI gp), .ref mF, .ref mO, .ref mV, .int lf, .int (pjd lf)])), (mA, .inl (cJ, 64, .inr (.inl fM))), (mC, .inl (cI, 64, .inl cM)), (mT, .inl (cJ, 64, .inr (.inl tM))), (mF, .inl (cI, 60, .inl fF)), (mO, .inl (cI, 60, .inl tF)), (mV, .inl (cJ, 60, .inr (.inl vM)))] 0 0 := by
  refine pj_of (by decide) rfl (Nat.le_of_ble_eq_true rfl) ?_
  intro p e s m below meth c A ls hx hb hml hr hts hown hlocks hin hA hK hP hD hS hG hl
  have hl : lv_has ls 2 [(0, .ref oM), (1, .int x)] := hl
  refine lv_aload_n hx hb dM_count_0 rfl (lv_at hl 0 rfl) ?_
  refine lv_iload_n hx hb dM_count_1 rfl (lv_at hl 1 rfl) ?_
  refine lv_if_lt (tgt := 14) hx hb dM_count_2 (by decide) (fun h9 => absurd h9 h2.1) (fun _ => ?_)
  refine lv_iload_n hx hb dM_count_5 rfl (lv_at hl 1 rfl) ?_
  refine lv_iconst (v := 3) hx hb dM_count_6 (by decide) ?_
  refine lv_icmp_gt (tgt := 14) hx hb dM_count_7 (by decide) (fun h9 => absurd h9 h2.2) (fun _ => ?_)
  refine lv_iconst (v := 1) hx hb dM_count_10 (by decide) ?_
  refine lv_goto (tgt := 15) hx hb dM_count_11 (by decide) ?_
  refine lv_aload_n hx hb dM_count_15 rfl (lv_at hl 0 rfl) ?_
  refine va_get (D := D) (ci := 4) (v := .int (pjd lf)) (C := "ReplayJournalModel") (T := TM) (N := 17) hx hb hts (pj_ups inM) hown hK hP 0 rfl rfl 16 (by decide) (hts _ (pj_up m_440)) (fun _ h9 => h9) rfl dM_count_16 ?_
  refine lv_if_ne (tgt := 26) hx hb dM_count_19 (by decide) (fun _ => ?_) (fun h9 => absurd h9 (by rw [pjd_1 h3]; decide))
  refine lv_iconst (v := 0) hx hb dM_count_26 (by decide) ?_
  refine pj_callV (w2 := [(oM, .inr (4, [.int 2, .int (nI n), .int (nI J), .ref mA, .ref mC, .ref mT, .int (nI us), .int wr, .int sn, .int (nI si), .int gr, .int (nI gp), .ref mF, .ref mO, .ref mV, .int lf, .int (pjd lf)])), (mA, .inl (cJ, 64, .inr (.inl fM))), (mC, .inl (cI, 64, .inl cM)), (mT, .inl (cJ, 64, .inr (.inl tM))), (mF, .inl (cI, 60, .inl fF)), (mO, .inl (cI, 60, .inl tF)), (mV, .inl (cJ, 60, .inr (.inl vM)))]) (wr := []) (rest := []) (st1 := [.int 0]) ⟨hx, hb, hml, hown, hts⟩ (m_goes_2 l D cI cJ cZ oM mA mC mT mF mO mV n J us gp si fM tM vM cM fF tF kd wr sn lf gr hn hJ hus) (cwV 2 hts (pj_gV m_490 m_492 m_12 m_24 m_493) rfl rfl rfl (by decide +kernel) ⟨Nat.le_of_ble_eq_true rfl, Nat.le_of_ble_eq_true rfl⟩) pj_no_ok trivial hK hP hD hS hA (ci := 4) (q0 := 0) rfl rfl [0, 1, 2, 3, 4, 5, 6] [] [0, 1, 2, 3, 4, 5, 6] rfl rfl rfl rfl (by decide) rfl rfl rfl hl.1 rfl (Nat.le_of_ble_eq_true rfl) dM_count_27 ⟨Nat.le_of_ble_eq_true rfl, Nat.le_of_ble_eq_true rfl⟩ rfl rfl rfl (fun H locs hP hD hS => ?_)
  refine lv_if_ne (tgt := 35) hx hb dM_count_30 (by decide) (fun h9 => absurd h9 (fun h => h rfl)) (fun _ => ?_)
  refine lv_iconst (v := 0) hx hb dM_count_33 (by decide) ?_
  exact pj_iret hx hb hr hlocks hP hD hS (rfl) (rfl) dM_count_34
set_option maxHeartbeats 4000000 in
set_option maxRecDepth 100000 in
theorem m_count_00 (l : Launch) (D : va_G) (cI cJ cZ : ClassId) (oM mA mC mT mF mO mV n J us gp si : Nat) (fM tM vM : Nat → Int64) (cM fF tF : Nat → Int32) (kd wr sn lf gr : Int32) (hn : n ≤ 64) (hJ : J ≤ 60) (hus : us ≤ J) (h3 : ¬ lf = 0) : pj_Met l yM_count wsM_count ({ frames := 1, cells := 0, slots := 0, locals := 22 }) D vwCl (pjT cI cJ cZ) pj_no [.ref oM, .int 0] [(oM, .inr (4, [.int kd, .int (nI n), .int (nI J), .ref mA, .ref mC, .ref mT, .int (nI us), .int wr, .int sn, .int (nI si), .int gr, .int (nI gp), .ref mF, .ref mO, .ref mV, .int lf, .int (pjd lf)])), (mA, .inl (cJ, 64, .inr (.inl fM))), (mC, .inl (cI, 64, .inl cM)), (mT, .inl (cJ, 64, .inr (.inl tM))), (mF, .inl (cI, 60, .inl fF)), (mO, .inl (cI, 60, .inl tF)), (mV, .inl (cJ, 60, .inr (.inl vM)))] (some (.int (nI us))) [(oM, .inr (4, [.int 0, .int (nI n), .int (nI J), .ref mA, .ref mC, .ref mT, .int (nI us), .int wr, .int sn, .int (nI si), .int gr, .int (nI gp), .ref mF, .ref mO, .ref mV, .int lf, .int (pjd lf)])), (mA, .inl (cJ, 64, .inr (.inl fM))), (mC, .inl (cI, 64, .inl cM)), (mT, .inl (cJ, 64, .inr (.inl tM))), (mF, .inl (cI, 60, .inl fF)), (mO, .inl (cI, 60, .inl tF)), (mV, .inl (cJ, 60, .inr (.inl vM)))] 0 0 := by
  refine pj_of (by decide) rfl (Nat.le_of_ble_eq_true rfl) ?_
  intro p e s m below meth c A ls hx hb hml hr hts hown hlocks hin hA hK hP hD hS hG hl
  have hl : lv_has ls 2 [(0, .ref oM), (1, .int 0)] := hl
  refine lv_aload_n hx hb dM_count_0 rfl (lv_at hl 0 rfl) ?_
  refine lv_iload_n hx hb dM_count_1 rfl (lv_at hl 1 rfl) ?_
  refine lv_if_lt (tgt := 14) hx hb dM_count_2 (by decide) (fun h9 => absurd h9 (by decide)) (fun _ => ?_)
  refine lv_iload_n hx hb dM_count_5 rfl (lv_at hl 1 rfl) ?_
  refine lv_iconst (v := 3) hx hb dM_count_6 (by decide) ?_
  refine lv_icmp_gt (tgt := 14) hx hb dM_count_7 (by decide) (fun h9 => absurd h9 (by decide)) (fun _ => ?_)
  refine lv_iconst (v := 1) hx hb dM_count_10 (by decide) ?_
  refine lv_goto (tgt := 15) hx hb dM_count_11 (by decide) ?_
  refine lv_aload_n hx hb dM_count_15 rfl (lv_at hl 0 rfl) ?_
  refine va_get (D := D) (ci := 4) (v := .int (pjd lf)) (C := "ReplayJournalModel") (T := TM) (N := 17) hx hb hts (pj_ups inM) hown hK hP 0 rfl rfl 16 (by decide) (hts _ (pj_up m_440)) (fun _ h9 => h9) rfl dM_count_16 ?_
  refine lv_if_ne (tgt := 26) hx hb dM_count_19 (by decide) (fun h9 => absurd h9 (fun z => z (pjd_0 h3))) (fun _ => ?_)
  refine lv_iconst (v := 1) hx hb dM_count_22 (by decide) ?_
  refine lv_goto (tgt := 27) hx hb dM_count_23 (by decide) ?_
  refine pj_callV (w2 := [(oM, .inr (4, [.int 0, .int (nI n), .int (nI J), .ref mA, .ref mC, .ref mT, .int (nI us), .int wr, .int sn, .int (nI si), .int gr, .int (nI gp), .ref mF, .ref mO, .ref mV, .int lf, .int (pjd lf)])), (mA, .inl (cJ, 64, .inr (.inl fM))), (mC, .inl (cI, 64, .inl cM)), (mT, .inl (cJ, 64, .inr (.inl tM))), (mF, .inl (cI, 60, .inl fF)), (mO, .inl (cI, 60, .inl tF)), (mV, .inl (cJ, 60, .inr (.inl vM)))]) (wr := []) (rest := []) (st1 := [.int 1]) ⟨hx, hb, hml, hown, hts⟩ (m_goes_0 l D cI cJ cZ oM mA mC mT mF mO mV n J us gp si fM tM vM cM fF tF kd wr sn lf gr hn hJ hus) (cwV 2 hts (pj_gV m_490 m_492 m_12 m_24 m_493) rfl rfl rfl (by decide +kernel) ⟨Nat.le_of_ble_eq_true rfl, Nat.le_of_ble_eq_true rfl⟩) pj_no_ok trivial hK hP hD hS hA (ci := 4) (q0 := 0) rfl rfl [0, 1, 2, 3, 4, 5, 6] [] [0, 1, 2, 3, 4, 5, 6] rfl rfl rfl rfl (by decide) rfl rfl rfl hl.1 rfl (Nat.le_of_ble_eq_true rfl) dM_count_27 ⟨Nat.le_of_ble_eq_true rfl, Nat.le_of_ble_eq_true rfl⟩ rfl rfl rfl (fun H locs hP hD hS => ?_)
  refine lv_if_ne (tgt := 35) hx hb dM_count_30 (by decide) (fun _ => ?_) (fun h9 => absurd h9 (by decide))
  refine lv_iload_n hx hb dM_count_35 rfl (lv_at hl 1 rfl) ?_
  refine lv_if_ne (tgt := 46) hx hb dM_count_36 (by decide) (fun h9 => absurd h9 (fun z => z rfl)) (fun _ => ?_)
  refine lv_aload_n hx hb dM_count_39 rfl (lv_at hl 0 rfl) ?_
  refine va_get (D := D) (ci := 4) (v := .int (nI us)) (C := "ReplayJournalModel") (T := TM) (N := 17) hx hb hts (pj_ups inM) hown hK hP 0 rfl rfl 6 (by decide) (hts _ (pj_up m_430)) (fun _ h9 => h9) rfl dM_count_40 ?_
  refine lv_goto (tgt := 85) hx hb dM_count_43 (by decide) ?_
  exact pj_iret hx hb hr hlocks hP hD hS (rfl) (rfl) dM_count_85
set_option maxHeartbeats 4000000 in
set_option maxRecDepth 100000 in
theorem m_count_01 (l : Launch) (D : va_G) (cI cJ cZ : ClassId) (oM mA mC mT mF mO mV n J us gp si : Nat) (fM tM vM : Nat → Int64) (cM fF tF : Nat → Int32) (kd wr sn lf gr : Int32) (hn : n ≤ 64) (hJ : J ≤ 60) (hus : us ≤ J) (h3 : ¬ lf = 0) : pj_Met l yM_count wsM_count ({ frames := 1, cells := 0, slots := 0, locals := 22 }) D vwCl (pjT cI cJ cZ) pj_no [.ref oM, .int 1] [(oM, .inr (4, [.int kd, .int (nI n), .int (nI J), .ref mA, .ref mC, .ref mT, .int (nI us), .int wr, .int sn, .int (nI si), .int gr, .int (nI gp), .ref mF, .ref mO, .ref mV, .int lf, .int (pjd lf)])), (mA, .inl (cJ, 64, .inr (.inl fM))), (mC, .inl (cI, 64, .inl cM)), (mT, .inl (cJ, 64, .inr (.inl tM))), (mF, .inl (cI, 60, .inl fF)), (mO, .inl (cI, 60, .inl tF)), (mV, .inl (cJ, 60, .inr (.inl vM)))] (some (.int wr)) [(oM, .inr (4, [.int 0, .int (nI n), .int (nI J), .ref mA, .ref mC, .ref mT, .int (nI us), .int wr, .int sn, .int (nI si), .int gr, .int (nI gp), .ref mF, .ref mO, .ref mV, .int lf, .int (pjd lf)])), (mA, .inl (cJ, 64, .inr (.inl fM))), (mC, .inl (cI, 64, .inl cM)), (mT, .inl (cJ, 64, .inr (.inl tM))), (mF, .inl (cI, 60, .inl fF)), (mO, .inl (cI, 60, .inl tF)), (mV, .inl (cJ, 60, .inr (.inl vM)))] 0 0 := by
  refine pj_of (by decide) rfl (Nat.le_of_ble_eq_true rfl) ?_
  intro p e s m below meth c A ls hx hb hml hr hts hown hlocks hin hA hK hP hD hS hG hl
  have hl : lv_has ls 2 [(0, .ref oM), (1, .int 1)] := hl
  refine lv_aload_n hx hb dM_count_0 rfl (lv_at hl 0 rfl) ?_
  refine lv_iload_n hx hb dM_count_1 rfl (lv_at hl 1 rfl) ?_
  refine lv_if_lt (tgt := 14) hx hb dM_count_2 (by decide) (fun h9 => absurd h9 (by decide)) (fun _ => ?_)
  refine lv_iload_n hx hb dM_count_5 rfl (lv_at hl 1 rfl) ?_
  refine lv_iconst (v := 3) hx hb dM_count_6 (by decide) ?_
  refine lv_icmp_gt (tgt := 14) hx hb dM_count_7 (by decide) (fun h9 => absurd h9 (by decide)) (fun _ => ?_)
  refine lv_iconst (v := 1) hx hb dM_count_10 (by decide) ?_
  refine lv_goto (tgt := 15) hx hb dM_count_11 (by decide) ?_
  refine lv_aload_n hx hb dM_count_15 rfl (lv_at hl 0 rfl) ?_
  refine va_get (D := D) (ci := 4) (v := .int (pjd lf)) (C := "ReplayJournalModel") (T := TM) (N := 17) hx hb hts (pj_ups inM) hown hK hP 0 rfl rfl 16 (by decide) (hts _ (pj_up m_440)) (fun _ h9 => h9) rfl dM_count_16 ?_
  refine lv_if_ne (tgt := 26) hx hb dM_count_19 (by decide) (fun h9 => absurd h9 (fun z => z (pjd_0 h3))) (fun _ => ?_)
  refine lv_iconst (v := 1) hx hb dM_count_22 (by decide) ?_
  refine lv_goto (tgt := 27) hx hb dM_count_23 (by decide) ?_
  refine pj_callV (w2 := [(oM, .inr (4, [.int 0, .int (nI n), .int (nI J), .ref mA, .ref mC, .ref mT, .int (nI us), .int wr, .int sn, .int (nI si), .int gr, .int (nI gp), .ref mF, .ref mO, .ref mV, .int lf, .int (pjd lf)])), (mA, .inl (cJ, 64, .inr (.inl fM))), (mC, .inl (cI, 64, .inl cM)), (mT, .inl (cJ, 64, .inr (.inl tM))), (mF, .inl (cI, 60, .inl fF)), (mO, .inl (cI, 60, .inl tF)), (mV, .inl (cJ, 60, .inr (.inl vM)))]) (wr := []) (rest := []) (st1 := [.int 1]) ⟨hx, hb, hml, hown, hts⟩ (m_goes_0 l D cI cJ cZ oM mA mC mT mF mO mV n J us gp si fM tM vM cM fF tF kd wr sn lf gr hn hJ hus) (cwV 2 hts (pj_gV m_490 m_492 m_12 m_24 m_493) rfl rfl rfl (by decide +kernel) ⟨Nat.le_of_ble_eq_true rfl, Nat.le_of_ble_eq_true rfl⟩) pj_no_ok trivial hK hP hD hS hA (ci := 4) (q0 := 0) rfl rfl [0, 1, 2, 3, 4, 5, 6] [] [0, 1, 2, 3, 4, 5, 6] rfl rfl rfl rfl (by decide) rfl rfl rfl hl.1 rfl (Nat.le_of_ble_eq_true rfl) dM_count_27 ⟨Nat.le_of_ble_eq_true rfl, Nat.le_of_ble_eq_true rfl⟩ rfl rfl rfl (fun H locs hP hD hS => ?_)
  refine lv_if_ne (tgt := 35) hx hb dM_count_30 (by decide) (fun _ => ?_) (fun h9 => absurd h9 (by decide))
  refine lv_iload_n hx hb dM_count_35 rfl (lv_at hl 1 rfl) ?_
  refine lv_if_ne (tgt := 46) hx hb dM_count_36 (by decide) (fun _ => ?_) (fun h9 => absurd h9 (by decide))
  refine lv_iload_n hx hb dM_count_46 rfl (lv_at hl 1 rfl) ?_
  refine lv_iconst (v := 1) hx hb dM_count_47 (by decide) ?_
  refine lv_icmp_ne (tgt := 58) hx hb dM_count_48 (by decide) (fun h9 => absurd h9 (fun z => z rfl)) (fun _ => ?_)
  refine lv_aload_n hx hb dM_count_51 rfl (lv_at hl 0 rfl) ?_
  refine va_get (D := D) (ci := 4) (v := .int wr) (C := "ReplayJournalModel") (T := TM) (N := 17) hx hb hts (pj_ups inM) hown hK hP 0 rfl rfl 7 (by decide) (hts _ (pj_up m_431)) (fun _ h9 => h9) rfl dM_count_52 ?_
  refine lv_goto (tgt := 85) hx hb dM_count_55 (by decide) ?_
  exact pj_iret hx hb hr hlocks hP hD hS (rfl) (rfl) dM_count_85
set_option maxHeartbeats 4000000 in
set_option maxRecDepth 100000 in
theorem m_count_03 (l : Launch) (D : va_G) (cI cJ cZ : ClassId) (oM mA mC mT mF mO mV n J us gp si : Nat) (fM tM vM : Nat → Int64) (cM fF tF : Nat → Int32) (kd wr sn lf gr : Int32) (hn : n ≤ 64) (hJ : J ≤ 60) (hus : us ≤ J) (h3 : ¬ lf = 0) : pj_Met l yM_count wsM_count ({ frames := 1, cells := 0, slots := 0, locals := 22 }) D vwCl (pjT cI cJ cZ) pj_no [.ref oM, .int 3] [(oM, .inr (4, [.int kd, .int (nI n), .int (nI J), .ref mA, .ref mC, .ref mT, .int (nI us), .int wr, .int sn, .int (nI si), .int gr, .int (nI gp), .ref mF, .ref mO, .ref mV, .int lf, .int (pjd lf)])), (mA, .inl (cJ, 64, .inr (.inl fM))), (mC, .inl (cI, 64, .inl cM)), (mT, .inl (cJ, 64, .inr (.inl tM))), (mF, .inl (cI, 60, .inl fF)), (mO, .inl (cI, 60, .inl tF)), (mV, .inl (cJ, 60, .inr (.inl vM)))] (some (.int sn)) [(oM, .inr (4, [.int 0, .int (nI n), .int (nI J), .ref mA, .ref mC, .ref mT, .int (nI us), .int wr, .int sn, .int (nI si), .int gr, .int (nI gp), .ref mF, .ref mO, .ref mV, .int lf, .int (pjd lf)])), (mA, .inl (cJ, 64, .inr (.inl fM))), (mC, .inl (cI, 64, .inl cM)), (mT, .inl (cJ, 64, .inr (.inl tM))), (mF, .inl (cI, 60, .inl fF)), (mO, .inl (cI, 60, .inl tF)), (mV, .inl (cJ, 60, .inr (.inl vM)))] 0 0 := by
  refine pj_of (by decide) rfl (Nat.le_of_ble_eq_true rfl) ?_
  intro p e s m below meth c A ls hx hb hml hr hts hown hlocks hin hA hK hP hD hS hG hl
  have hl : lv_has ls 2 [(0, .ref oM), (1, .int 3)] := hl
  refine lv_aload_n hx hb dM_count_0 rfl (lv_at hl 0 rfl) ?_
  refine lv_iload_n hx hb dM_count_1 rfl (lv_at hl 1 rfl) ?_
  refine lv_if_lt (tgt := 14) hx hb dM_count_2 (by decide) (fun h9 => absurd h9 (by decide)) (fun _ => ?_)
  refine lv_iload_n hx hb dM_count_5 rfl (lv_at hl 1 rfl) ?_
  refine lv_iconst (v := 3) hx hb dM_count_6 (by decide) ?_
  refine lv_icmp_gt (tgt := 14) hx hb dM_count_7 (by decide) (fun h9 => absurd h9 (by decide)) (fun _ => ?_)
  refine lv_iconst (v := 1) hx hb dM_count_10 (by decide) ?_
  refine lv_goto (tgt := 15) hx hb dM_count_11 (by decide) ?_
  refine lv_aload_n hx hb dM_count_15 rfl (lv_at hl 0 rfl) ?_
  refine va_get (D := D) (ci := 4) (v := .int (pjd lf)) (C := "ReplayJournalModel") (T := TM) (N := 17) hx hb hts (pj_ups inM) hown hK hP 0 rfl rfl 16 (by decide) (hts _ (pj_up m_440)) (fun _ h9 => h9) rfl dM_count_16 ?_
  refine lv_if_ne (tgt := 26) hx hb dM_count_19 (by decide) (fun h9 => absurd h9 (fun z => z (pjd_0 h3))) (fun _ => ?_)
  refine lv_iconst (v := 1) hx hb dM_count_22 (by decide) ?_
  refine lv_goto (tgt := 27) hx hb dM_count_23 (by decide) ?_
  refine pj_callV (w2 := [(oM, .inr (4, [.int 0, .int (nI n), .int (nI J), .ref mA, .ref mC, .ref mT, .int (nI us), .int wr, .int sn, .int (nI si), .int gr, .int (nI gp), .ref mF, .ref mO, .ref mV, .int lf, .int (pjd lf)])), (mA, .inl (cJ, 64, .inr (.inl fM))), (mC, .inl (cI, 64, .inl cM)), (mT, .inl (cJ, 64, .inr (.inl tM))), (mF, .inl (cI, 60, .inl fF)), (mO, .inl (cI, 60, .inl tF)), (mV, .inl (cJ, 60, .inr (.inl vM)))]) (wr := []) (rest := []) (st1 := [.int 1]) ⟨hx, hb, hml, hown, hts⟩ (m_goes_0 l D cI cJ cZ oM mA mC mT mF mO mV n J us gp si fM tM vM cM fF tF kd wr sn lf gr hn hJ hus) (cwV 2 hts (pj_gV m_490 m_492 m_12 m_24 m_493) rfl rfl rfl (by decide +kernel) ⟨Nat.le_of_ble_eq_true rfl, Nat.le_of_ble_eq_true rfl⟩) pj_no_ok trivial hK hP hD hS hA (ci := 4) (q0 := 0) rfl rfl [0, 1, 2, 3, 4, 5, 6] [] [0, 1, 2, 3, 4, 5, 6] rfl rfl rfl rfl (by decide) rfl rfl rfl hl.1 rfl (Nat.le_of_ble_eq_true rfl) dM_count_27 ⟨Nat.le_of_ble_eq_true rfl, Nat.le_of_ble_eq_true rfl⟩ rfl rfl rfl (fun H locs hP hD hS => ?_)
  refine lv_if_ne (tgt := 35) hx hb dM_count_30 (by decide) (fun _ => ?_) (fun h9 => absurd h9 (by decide))
  refine lv_iload_n hx hb dM_count_35 rfl (lv_at hl 1 rfl) ?_
  refine lv_if_ne (tgt := 46) hx hb dM_count_36 (by decide) (fun _ => ?_) (fun h9 => absurd h9 (by decide))
  refine lv_iload_n hx hb dM_count_46 rfl (lv_at hl 1 rfl) ?_
  refine lv_iconst (v := 1) hx hb dM_count_47 (by decide) ?_
  refine lv_icmp_ne (tgt := 58) hx hb dM_count_48 (by decide) (fun _ => ?_) (fun h9 => absurd h9 (by decide))
  refine lv_iload_n hx hb dM_count_58 rfl (lv_at hl 1 rfl) ?_
  refine lv_iconst (v := 2) hx hb dM_count_59 (by decide) ?_
  refine lv_icmp_ne (tgt := 81) hx hb dM_count_60 (by decide) (fun _ => ?_) (fun h9 => absurd h9 (by decide))
  refine lv_aload_n hx hb dM_count_81 rfl (lv_at hl 0 rfl) ?_
  refine va_get (D := D) (ci := 4) (v := .int sn) (C := "ReplayJournalModel") (T := TM) (N := 17) hx hb hts (pj_ups inM) hown hK hP 0 rfl rfl 8 (by decide) (hts _ (pj_up m_432)) (fun _ h9 => h9) rfl dM_count_82 ?_
  exact pj_iret hx hb hr hlocks hP hD hS (rfl) (rfl) dM_count_85
set_option maxHeartbeats 4000000 in
set_option maxRecDepth 100000 in
theorem m_count_02_0 (l : Launch) (D : va_G) (cI cJ cZ : ClassId) (oM mA mC mT mF mO mV n J us gp si : Nat) (fM tM vM : Nat → Int64) (cM fF tF : Nat → Int32) (kd wr sn lf gr : Int32) (hn : n ≤ 64) (hJ : J ≤ 60) (hus : us ≤ J) (h3 : ¬ lf = 0) : pj_Met l yM_count wsM_count ({ frames := 1, cells := 0, slots := 0, locals := 22 }) D vwCl (pjT cI cJ cZ) pj_no [.ref oM, .int 2] [(oM, .inr (4, [.int kd, .int (nI n), .int (nI J), .ref mA, .ref mC, .ref mT, .int (nI us), .int wr, .int sn, .int (nI si), .int 0, .int (nI gp), .ref mF, .ref mO, .ref mV, .int lf, .int (pjd lf)])), (mA, .inl (cJ, 64, .inr (.inl fM))), (mC, .inl (cI, 64, .inl cM)), (mT, .inl (cJ, 64, .inr (.inl tM))), (mF, .inl (cI, 60, .inl fF)), (mO, .inl (cI, 60, .inl tF)), (mV, .inl (cJ, 60, .inr (.inl vM)))] (some (.int (-1))) [(oM, .inr (4, [.int 0, .int (nI n), .int (nI J), .ref mA, .ref mC, .ref mT, .int (nI us), .int wr, .int sn, .int (nI si), .int 0, .int (nI gp), .ref mF, .ref mO, .ref mV, .int lf, .int (pjd lf)])), (mA, .inl (cJ, 64, .inr (.inl fM))), (mC, .inl (cI, 64, .inl cM)), (mT, .inl (cJ, 64, .inr (.inl tM))), (mF, .inl (cI, 60, .inl fF)), (mO, .inl (cI, 60, .inl tF)), (mV, .inl (cJ, 60, .inr (.inl vM)))] 0 0 := by
  refine pj_of (by decide) rfl (Nat.le_of_ble_eq_true rfl) ?_
  intro p e s m below meth c A ls hx hb hml hr hts hown hlocks hin hA hK hP hD hS hG hl
  have hl : lv_has ls 2 [(0, .ref oM), (1, .int 2)] := hl
  refine lv_aload_n hx hb dM_count_0 rfl (lv_at hl 0 rfl) ?_
  refine lv_iload_n hx hb dM_count_1 rfl (lv_at hl 1 rfl) ?_
  refine lv_if_lt (tgt := 14) hx hb dM_count_2 (by decide) (fun h9 => absurd h9 (by decide)) (fun _ => ?_)
  refine lv_iload_n hx hb dM_count_5 rfl (lv_at hl 1 rfl) ?_
  refine lv_iconst (v := 3) hx hb dM_count_6 (by decide) ?_
  refine lv_icmp_gt (tgt := 14) hx hb dM_count_7 (by decide) (fun h9 => absurd h9 (by decide)) (fun _ => ?_)
  refine lv_iconst (v := 1) hx hb dM_count_10 (by decide) ?_
  refine lv_goto (tgt := 15) hx hb dM_count_11 (by decide) ?_
  refine lv_aload_n hx hb dM_count_15 rfl (lv_at hl 0 rfl) ?_
  refine va_get (D := D) (ci := 4) (v := .int (pjd lf)) (C := "ReplayJournalModel") (T := TM) (N := 17) hx hb hts (pj_ups inM) hown hK hP 0 rfl rfl 16 (by decide) (hts _ (pj_up m_440)) (fun _ h9 => h9) rfl dM_count_16 ?_
  refine lv_if_ne (tgt := 26) hx hb dM_count_19 (by decide) (fun h9 => absurd h9 (fun z => z (pjd_0 h3))) (fun _ => ?_)
  refine lv_iconst (v := 1) hx hb dM_count_22 (by decide) ?_
  refine lv_goto (tgt := 27) hx hb dM_count_23 (by decide) ?_
  refine pj_callV (w2 := [(oM, .inr (4, [.int 0, .int (nI n), .int (nI J), .ref mA, .ref mC, .ref mT, .int (nI us), .int wr, .int sn, .int (nI si), .int 0, .int (nI gp), .ref mF, .ref mO, .ref mV, .int lf, .int (pjd lf)])), (mA, .inl (cJ, 64, .inr (.inl fM))), (mC, .inl (cI, 64, .inl cM)), (mT, .inl (cJ, 64, .inr (.inl tM))), (mF, .inl (cI, 60, .inl fF)), (mO, .inl (cI, 60, .inl tF)), (mV, .inl (cJ, 60, .inr (.inl vM)))]) (wr := []) (rest := []) (st1 := [.int 1]) ⟨hx, hb, hml, hown, hts⟩ (m_goes_0 l D cI cJ cZ oM mA mC mT mF mO mV n J us gp si fM tM vM cM fF tF kd wr sn lf 0 hn hJ hus) (cwV 2 hts (pj_gV m_490 m_492 m_12 m_24 m_493) rfl rfl rfl (by decide +kernel) ⟨Nat.le_of_ble_eq_true rfl, Nat.le_of_ble_eq_true rfl⟩) pj_no_ok trivial hK hP hD hS hA (ci := 4) (q0 := 0) rfl rfl [0, 1, 2, 3, 4, 5, 6] [] [0, 1, 2, 3, 4, 5, 6] rfl rfl rfl rfl (by decide) rfl rfl rfl hl.1 rfl (Nat.le_of_ble_eq_true rfl) dM_count_27 ⟨Nat.le_of_ble_eq_true rfl, Nat.le_of_ble_eq_true rfl⟩ rfl rfl rfl (fun H locs hP hD hS => ?_)
  refine lv_if_ne (tgt := 35) hx hb dM_count_30 (by decide) (fun _ => ?_) (fun h9 => absurd h9 (by decide))
  refine lv_iload_n hx hb dM_count_35 rfl (lv_at hl 1 rfl) ?_
  refine lv_if_ne (tgt := 46) hx hb dM_count_36 (by decide) (fun _ => ?_) (fun h9 => absurd h9 (by decide))
  refine lv_iload_n hx hb dM_count_46 rfl (lv_at hl 1 rfl) ?_
  refine lv_iconst (v := 1) hx hb dM_count_47 (by decide) ?_
  refine lv_icmp_ne (tgt := 58) hx hb dM_count_48 (by decide) (fun _ => ?_) (fun h9 => absurd h9 (by decide))
  refine lv_iload_n hx hb dM_count_58 rfl (lv_at hl 1 rfl) ?_
  refine lv_iconst (v := 2) hx hb dM_count_59 (by decide) ?_
  refine lv_icmp_ne (tgt := 81) hx hb dM_count_60 (by decide) (fun h9 => absurd h9 (fun z => z rfl)) (fun _ => ?_)
  refine lv_aload_n hx hb dM_count_63 rfl (lv_at hl 0 rfl) ?_
  refine va_get (D := D) (ci := 4) (v := .int 0) (C := "ReplayJournalModel") (T := TM) (N := 17) hx hb hts (pj_ups inM) hown hK hP 0 rfl rfl 10 (by decide) (hts _ (pj_up m_434)) (fun _ h9 => h9) rfl dM_count_64 ?_
  refine lv_if_eq (tgt := 77) hx hb dM_count_67 (by decide) (fun _ => ?_) (fun h9 => (h9 rfl).elim)
  refine lv_iconst (v := -1) hx hb dM_count_77 (by decide) ?_
  refine lv_goto (tgt := 85) hx hb dM_count_78 (by decide) ?_
  exact pj_iret hx hb hr hlocks hP hD hS (rfl) (rfl) dM_count_85
set_option maxHeartbeats 4000000 in
set_option maxRecDepth 100000 in
theorem m_count_02_1 (l : Launch) (D : va_G) (cI cJ cZ : ClassId) (oM mA mC mT mF mO mV n J us gp si : Nat) (fM tM vM : Nat → Int64) (cM fF tF : Nat → Int32) (kd wr sn lf gr : Int32) (hn : n ≤ 64) (hJ : J ≤ 60) (hus : us ≤ J) (h3 : ¬ lf = 0) : pj_Met l yM_count wsM_count ({ frames := 1, cells := 0, slots := 0, locals := 22 }) D vwCl (pjT cI cJ cZ) pj_no [.ref oM, .int 2] [(oM, .inr (4, [.int kd, .int (nI n), .int (nI J), .ref mA, .ref mC, .ref mT, .int (nI us), .int wr, .int sn, .int (nI si), .int 1, .int (nI gp), .ref mF, .ref mO, .ref mV, .int lf, .int (pjd lf)])), (mA, .inl (cJ, 64, .inr (.inl fM))), (mC, .inl (cI, 64, .inl cM)), (mT, .inl (cJ, 64, .inr (.inl tM))), (mF, .inl (cI, 60, .inl fF)), (mO, .inl (cI, 60, .inl tF)), (mV, .inl (cJ, 60, .inr (.inl vM)))] (some (.int (nI gp))) [(oM, .inr (4, [.int 0, .int (nI n), .int (nI J), .ref mA, .ref mC, .ref mT, .int (nI us), .int wr, .int sn, .int (nI si), .int 1, .int (nI gp), .ref mF, .ref mO, .ref mV, .int lf, .int (pjd lf)])), (mA, .inl (cJ, 64, .inr (.inl fM))), (mC, .inl (cI, 64, .inl cM)), (mT, .inl (cJ, 64, .inr (.inl tM))), (mF, .inl (cI, 60, .inl fF)), (mO, .inl (cI, 60, .inl tF)), (mV, .inl (cJ, 60, .inr (.inl vM)))] 0 0 := by
  refine pj_of (by decide) rfl (Nat.le_of_ble_eq_true rfl) ?_
  intro p e s m below meth c A ls hx hb hml hr hts hown hlocks hin hA hK hP hD hS hG hl
  have hl : lv_has ls 2 [(0, .ref oM), (1, .int 2)] := hl
  refine lv_aload_n hx hb dM_count_0 rfl (lv_at hl 0 rfl) ?_
  refine lv_iload_n hx hb dM_count_1 rfl (lv_at hl 1 rfl) ?_
  refine lv_if_lt (tgt := 14) hx hb dM_count_2 (by decide) (fun h9 => absurd h9 (by decide)) (fun _ => ?_)
  refine lv_iload_n hx hb dM_count_5 rfl (lv_at hl 1 rfl) ?_
  refine lv_iconst (v := 3) hx hb dM_count_6 (by decide) ?_
  refine lv_icmp_gt (tgt := 14) hx hb dM_count_7 (by decide) (fun h9 => absurd h9 (by decide)) (fun _ => ?_)
  refine lv_iconst (v := 1) hx hb dM_count_10 (by decide) ?_
  refine lv_goto (tgt := 15) hx hb dM_count_11 (by decide) ?_
  refine lv_aload_n hx hb dM_count_15 rfl (lv_at hl 0 rfl) ?_
  refine va_get (D := D) (ci := 4) (v := .int (pjd lf)) (C := "ReplayJournalModel") (T := TM) (N := 17) hx hb hts (pj_ups inM) hown hK hP 0 rfl rfl 16 (by decide) (hts _ (pj_up m_440)) (fun _ h9 => h9) rfl dM_count_16 ?_
  refine lv_if_ne (tgt := 26) hx hb dM_count_19 (by decide) (fun h9 => absurd h9 (fun z => z (pjd_0 h3))) (fun _ => ?_)
  refine lv_iconst (v := 1) hx hb dM_count_22 (by decide) ?_
  refine lv_goto (tgt := 27) hx hb dM_count_23 (by decide) ?_
  refine pj_callV (w2 := [(oM, .inr (4, [.int 0, .int (nI n), .int (nI J), .ref mA, .ref mC, .ref mT, .int (nI us), .int wr, .int sn, .int (nI si), .int 1, .int (nI gp), .ref mF, .ref mO, .ref mV, .int lf, .int (pjd lf)])), (mA, .inl (cJ, 64, .inr (.inl fM))), (mC, .inl (cI, 64, .inl cM)), (mT, .inl (cJ, 64, .inr (.inl tM))), (mF, .inl (cI, 60, .inl fF)), (mO, .inl (cI, 60, .inl tF)), (mV, .inl (cJ, 60, .inr (.inl vM)))]) (wr := []) (rest := []) (st1 := [.int 1]) ⟨hx, hb, hml, hown, hts⟩ (m_goes_0 l D cI cJ cZ oM mA mC mT mF mO mV n J us gp si fM tM vM cM fF tF kd wr sn lf 1 hn hJ hus) (cwV 2 hts (pj_gV m_490 m_492 m_12 m_24 m_493) rfl rfl rfl (by decide +kernel) ⟨Nat.le_of_ble_eq_true rfl, Nat.le_of_ble_eq_true rfl⟩) pj_no_ok trivial hK hP hD hS hA (ci := 4) (q0 := 0) rfl rfl [0, 1, 2, 3, 4, 5, 6] [] [0, 1, 2, 3, 4, 5, 6] rfl rfl rfl rfl (by decide) rfl rfl rfl hl.1 rfl (Nat.le_of_ble_eq_true rfl) dM_count_27 ⟨Nat.le_of_ble_eq_true rfl, Nat.le_of_ble_eq_true rfl⟩ rfl rfl rfl (fun H locs hP hD hS => ?_)
  refine lv_if_ne (tgt := 35) hx hb dM_count_30 (by decide) (fun _ => ?_) (fun h9 => absurd h9 (by decide))
  refine lv_iload_n hx hb dM_count_35 rfl (lv_at hl 1 rfl) ?_
  refine lv_if_ne (tgt := 46) hx hb dM_count_36 (by decide) (fun _ => ?_) (fun h9 => absurd h9 (by decide))
  refine lv_iload_n hx hb dM_count_46 rfl (lv_at hl 1 rfl) ?_
  refine lv_iconst (v := 1) hx hb dM_count_47 (by decide) ?_
  refine lv_icmp_ne (tgt := 58) hx hb dM_count_48 (by decide) (fun _ => ?_) (fun h9 => absurd h9 (by decide))
  refine lv_iload_n hx hb dM_count_58 rfl (lv_at hl 1 rfl) ?_
  refine lv_iconst (v := 2) hx hb dM_count_59 (by decide) ?_
  refine lv_icmp_ne (tgt := 81) hx hb dM_count_60 (by decide) (fun h9 => absurd h9 (fun z => z rfl)) (fun _ => ?_)
  refine lv_aload_n hx hb dM_count_63 rfl (lv_at hl 0 rfl) ?_
  refine va_get (D := D) (ci := 4) (v := .int 1) (C := "ReplayJournalModel") (T := TM) (N := 17) hx hb hts (pj_ups inM) hown hK hP 0 rfl rfl 10 (by decide) (hts _ (pj_up m_434)) (fun _ h9 => h9) rfl dM_count_64 ?_
  refine lv_if_eq (tgt := 77) hx hb dM_count_67 (by decide) (fun h9 => absurd h9 (by decide)) (fun _ => ?_)
  refine lv_aload_n hx hb dM_count_70 rfl (lv_at hl 0 rfl) ?_
  refine va_get (D := D) (ci := 4) (v := .int (nI gp)) (C := "ReplayJournalModel") (T := TM) (N := 17) hx hb hts (pj_ups inM) hown hK hP 0 rfl rfl 11 (by decide) (hts _ (pj_up m_435)) (fun _ h9 => h9) rfl dM_count_71 ?_
  refine lv_goto (tgt := 85) hx hb dM_count_74 (by decide) ?_
  exact pj_iret hx hb hr hlocks hP hD hS (rfl) (rfl) dM_count_85
