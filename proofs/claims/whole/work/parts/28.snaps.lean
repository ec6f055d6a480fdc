set_option maxHeartbeats 4000000 in
set_option maxRecDepth 100000 in
theorem m_snap_d (l : Launch) (D : va_G) (cI cJ cZ : ClassId) (oM mA mC mT mF mO mV n J us gp si : Nat) (fM tM vM : Nat → Int64) (cM fF tF : Nat → Int32) (kd wr sn lf gr : Int32) (hn : n ≤ 64) (hJ : J ≤ 60) (hus : us ≤ J) (h3 : lf = 0) : pj_Met l yM_snapshot wsM_snapshot ({ frames := 1, cells := 0, slots := 0, locals := 21 }) D vwCl (pjT cI cJ cZ) pj_no [.ref oM] [(oM, .inr (4, [.int kd, .int (nI n), .int (nI J), .ref mA, .ref mC, .ref mT, .int (nI us), .int wr, .int sn, .int (nI si), .int gr, .int (nI gp), .ref mF, .ref mO, .ref mV, .int lf, .int (pjd lf)])), (mA, .inl (cJ, 64, .inr (.inl fM))), (mC, .inl (cI, 64, .inl cM)), (mT, .inl (cJ, 64, .inr (.inl tM))), (mF, .inl (cI, 60, .inl fF)), (mO, .inl (cI, 60, .inl tF)), (mV, .inl (cJ, 60, .inr (.inl vM)))] (some (.int 0)) [(oM, .inr (4, [.int 1, .int (nI n), .int (nI J), .ref mA, .ref mC, .ref mT, .int (nI us), .int wr, .int sn, .int (nI si), .int gr, .int (nI gp), .ref mF, .ref mO, .ref mV, .int lf, .int (pjd lf)])), (mA, .inl (cJ, 64, .inr (.inl fM))), (mC, .inl (cI, 64, .inl cM)), (mT, .inl (cJ, 64, .inr (.inl tM))), (mF, .inl (cI, 60, .inl fF)), (mO, .inl (cI, 60, .inl tF)), (mV, .inl (cJ, 60, .inr (.inl vM)))] 0 0 := by
  refine pj_of (by decide) rfl (Nat.le_of_ble_eq_true rfl) ?_
  intro p e s m below meth c A ls hx hb hml hr hts hown hlocks hin hA hK hP hD hS hG hl
  have hl : lv_has ls 3 [(0, .ref oM)] := hl
  refine lv_aload_n hx hb dM_snapshot_0 rfl (lv_at hl 0 rfl) ?_
  refine lv_aload_n hx hb dM_snapshot_1 rfl (lv_at hl 0 rfl) ?_
  refine va_get (D := D) (ci := 4) (v := .int gr) (C := "ReplayJournalModel") (T := TM) (N := 17) hx hb hts (pj_ups inM) hown hK hP 0 rfl rfl 10 (by decide) (hts _ (pj_up m_434)) (fun _ h9 => h9) rfl dM_snapshot_2 ?_
  refine lv_if_ne (tgt := 12) hx hb dM_snapshot_5 (by decide) (fun c1 => ?_) (fun c1 => ?_)
  · refine lv_iconst (v := 0) hx hb dM_snapshot_12 (by decide) ?_
    refine pj_callV (w2 := [(oM, .inr (4, [.int 1, .int (nI n), .int (nI J), .ref mA, .ref mC, .ref mT, .int (nI us), .int wr, .int sn, .int (nI si), .int gr, .int (nI gp), .ref mF, .ref mO, .ref mV, .int lf, .int (pjd lf)])), (mA, .inl (cJ, 64, .inr (.inl fM))), (mC, .inl (cI, 64, .inl cM)), (mT, .inl (cJ, 64, .inr (.inl tM))), (mF, .inl (cI, 60, .inl fF)), (mO, .inl (cI, 60, .inl tF)), (mV, .inl (cJ, 60, .inr (.inl vM)))]) (wr := []) (rest := []) (st1 := [.int 0]) ⟨hx, hb, hml, hown, hts⟩ (m_stands_d l D cI cJ cZ oM mA mC mT mF mO mV n J us gp si fM tM vM cM fF tF kd wr sn lf gr hn hJ hus h3 0) (cwV 1 hts (pj_gV m_514 m_516 m_16 m_24 m_517) rfl rfl rfl (by decide +kernel) ⟨Nat.le_of_ble_eq_true rfl, Nat.le_of_ble_eq_true rfl⟩) pj_no_ok trivial hK hP hD hS hA (ci := 4) (q0 := 0) rfl rfl [0, 1, 2, 3, 4, 5, 6] [] [0, 1, 2, 3, 4, 5, 6] rfl rfl rfl rfl (by decide) rfl rfl rfl hl.1 rfl (Nat.le_of_ble_eq_true rfl) dM_snapshot_13 ⟨Nat.le_of_ble_eq_true rfl, Nat.le_of_ble_eq_true rfl⟩ rfl rfl rfl (fun H locs hP hD hS => ?_)
    refine lv_if_ne (tgt := 21) hx hb dM_snapshot_16 (by decide) (fun h9 => absurd h9 (fun h => h rfl)) (fun _ => ?_)
    refine lv_iconst (v := 0) hx hb dM_snapshot_19 (by decide) ?_
    exact pj_iret hx hb hr hlocks hP hD hS (rfl) (rfl) dM_snapshot_20
  · refine lv_iconst (v := 1) hx hb dM_snapshot_8 (by decide) ?_
    refine lv_goto (tgt := 13) hx hb dM_snapshot_9 (by decide) ?_
    refine pj_callV (w2 := [(oM, .inr (4, [.int 1, .int (nI n), .int (nI J), .ref mA, .ref mC, .ref mT, .int (nI us), .int wr, .int sn, .int (nI si), .int gr, .int (nI gp), .ref mF, .ref mO, .ref mV, .int lf, .int (pjd lf)])), (mA, .inl (cJ, 64, .inr (.inl fM))), (mC, .inl (cI, 64, .inl cM)), (mT, .inl (cJ, 64, .inr (.inl tM))), (mF, .inl (cI, 60, .inl fF)), (mO, .inl (cI, 60, .inl tF)), (mV, .inl (cJ, 60, .inr (.inl vM)))]) (wr := []) (rest := []) (st1 := [.int 0]) ⟨hx, hb, hml, hown, hts⟩ (m_stands_d l D cI cJ cZ oM mA mC mT mF mO mV n J us gp si fM tM vM cM fF tF kd wr sn lf gr hn hJ hus h3 1) (cwV 1 hts (pj_gV m_514 m_516 m_16 m_24 m_517) rfl rfl rfl (by decide +kernel) ⟨Nat.le_of_ble_eq_true rfl, Nat.le_of_ble_eq_true rfl⟩) pj_no_ok trivial hK hP hD hS hA (ci := 4) (q0 := 0) rfl rfl [0, 1, 2, 3, 4, 5, 6] [] [0, 1, 2, 3, 4, 5, 6] rfl rfl rfl rfl (by decide) rfl rfl rfl hl.1 rfl (Nat.le_of_ble_eq_true rfl) dM_snapshot_13 ⟨Nat.le_of_ble_eq_true rfl, Nat.le_of_ble_eq_true rfl⟩ rfl rfl rfl (fun H locs hP hD hS => ?_)
    refine lv_if_ne (tgt := 21) hx hb dM_snapshot_16 (by decide) (fun h9 => absurd h9 (fun h => h rfl)) (fun _ => ?_)
    refine lv_iconst (v := 0) hx hb dM_snapshot_19 (by decide) ?_
    exact pj_iret hx hb hr hlocks hP hD hS (rfl) (rfl) dM_snapshot_20
set_option maxHeartbeats 4000000 in
set_option maxRecDepth 100000 in
theorem m_snap_g (l : Launch) (D : va_G) (cI cJ cZ : ClassId) (oM mA mC mT mF mO mV n J us gp si : Nat) (fM tM vM : Nat → Int64) (cM fF tF : Nat → Int32) (kd wr sn lf gr : Int32) (hn : n ≤ 64) (hJ : J ≤ 60) (hus : us ≤ J) (h3 : ¬ lf = 0) : pj_Met l yM_snapshot wsM_snapshot ({ frames := 1, cells := 0, slots := 0, locals := 21 }) D vwCl (pjT cI cJ cZ) pj_no [.ref oM] [(oM, .inr (4, [.int kd, .int (nI n), .int (nI J), .ref mA, .ref mC, .ref mT, .int (nI us), .int wr, .int sn, .int (nI si), .int 1, .int (nI gp), .ref mF, .ref mO, .ref mV, .int lf, .int (pjd lf)])), (mA, .inl (cJ, 64, .inr (.inl fM))), (mC, .inl (cI, 64, .inl cM)), (mT, .inl (cJ, 64, .inr (.inl tM))), (mF, .inl (cI, 60, .inl fF)), (mO, .inl (cI, 60, .inl tF)), (mV, .inl (cJ, 60, .inr (.inl vM)))] (some (.int 0)) [(oM, .inr (4, [.int 1, .int (nI n), .int (nI J), .ref mA, .ref mC, .ref mT, .int (nI us), .int wr, .int sn, .int (nI si), .int 1, .int (nI gp), .ref mF, .ref mO, .ref mV, .int lf, .int (pjd lf)])), (mA, .inl (cJ, 64, .inr (.inl fM))), (mC, .inl (cI, 64, .inl cM)), (mT, .inl (cJ, 64, .inr (.inl tM))), (mF, .inl (cI, 60, .inl fF)), (mO, .inl (cI, 60, .inl tF)), (mV, .inl (cJ, 60, .inr (.inl vM)))] 0 0 := by
  refine pj_of (by decide) rfl (Nat.le_of_ble_eq_true rfl) ?_
  intro p e s m below meth c A ls hx hb hml hr hts hown hlocks hin hA hK hP hD hS hG hl
  have hl : lv_has ls 3 [(0, .ref oM)] := hl
  refine lv_aload_n hx hb dM_snapshot_0 rfl (lv_at hl 0 rfl) ?_
  refine lv_aload_n hx hb dM_snapshot_1 rfl (lv_at hl 0 rfl) ?_
  refine va_get (D := D) (ci := 4) (v := .int 1) (C := "ReplayJournalModel") (T := TM) (N := 17) hx hb hts (pj_ups inM) hown hK hP 0 rfl rfl 10 (by decide) (hts _ (pj_up m_434)) (fun _ h9 => h9) rfl dM_snapshot_2 ?_
  refine lv_if_ne (tgt := 12) hx hb dM_snapshot_5 (by decide) (fun _ => ?_) (fun h9 => absurd h9 (by decide))
  refine lv_iconst (v := 0) hx hb dM_snapshot_12 (by decide) ?_
  refine pj_callV (w2 := [(oM, .inr (4, [.int 1, .int (nI n), .int (nI J), .ref mA, .ref mC, .ref mT, .int (nI us), .int wr, .int sn, .int (nI si), .int 1, .int (nI gp), .ref mF, .ref mO, .ref mV, .int lf, .int (pjd lf)])), (mA, .inl (cJ, 64, .inr (.inl fM))), (mC, .inl (cI, 64, .inl cM)), (mT, .inl (cJ, 64, .inr (.inl tM))), (mF, .inl (cI, 60, .inl fF)), (mO, .inl (cI, 60, .inl tF)), (mV, .inl (cJ, 60, .inr (.inl vM)))]) (wr := []) (rest := []) (st1 := [.int 0]) ⟨hx, hb, hml, hown, hts⟩ (m_stands_n l D cI cJ cZ oM mA mC mT mF mO mV n J us gp si fM tM vM cM fF tF kd wr sn lf 1 hn hJ hus h3) (cwV 1 hts (pj_gV m_514 m_516 m_16 m_24 m_517) rfl rfl rfl (by decide +kernel) ⟨Nat.le_of_ble_eq_true rfl, Nat.le_of_ble_eq_true rfl⟩) pj_no_ok trivial hK hP hD hS hA (ci := 4) (q0 := 0) rfl rfl [0, 1, 2, 3, 4, 5, 6] [] [0, 1, 2, 3, 4, 5, 6] rfl rfl rfl rfl (by decide) rfl rfl rfl hl.1 rfl (Nat.le_of_ble_eq_true rfl) dM_snapshot_13 ⟨Nat.le_of_ble_eq_true rfl, Nat.le_of_ble_eq_true rfl⟩ rfl rfl rfl (fun H locs hP hD hS => ?_)
  refine lv_if_ne (tgt := 21) hx hb dM_snapshot_16 (by decide) (fun h9 => absurd h9 (fun h => h rfl)) (fun _ => ?_)
  refine lv_iconst (v := 0) hx hb dM_snapshot_19 (by decide) ?_
  exact pj_iret hx hb hr hlocks hP hD hS (rfl) (rfl) dM_snapshot_20
set_option maxHeartbeats 4000000 in
set_option maxRecDepth 100000 in
theorem m_snap_ok (l : Launch) (D : va_G) (cI cJ cZ : ClassId) (oM mA mC mT mF mO mV n J us gp si : Nat) (fM tM vM : Nat → Int64) (cM fF tF : Nat → Int32) (kd wr sn lf gr : Int32) (hn : n ≤ 64) (hJ : J ≤ 60) (hus : us ≤ J) (h3 : ¬ lf = 0) (hd : (pjB (pjN n) 0 wr lf).1 = pjN n) : pj_Met l yM_snapshot wsM_snapshot ({ frames := 1, cells := 0, slots := 0, locals := 21 }) D vwCl (pjT cI cJ cZ) pj_no [.ref oM] [(oM, .inr (4, [.int kd, .int (nI n), .int (nI J), .ref mA, .ref mC, .ref mT, .int (nI us), .int wr, .int sn, .int (nI si), .int 0, .int (nI gp), .ref mF, .ref mO, .ref mV, .int lf, .int (pjd lf)])), (mA, .inl (cJ, 64, .inr (.inl fM))), (mC, .inl (cI, 64, .inl cM)), (mT, .inl (cJ, 64, .inr (.inl tM))), (mF, .inl (cI, 60, .inl fF)), (mO, .inl (cI, 60, .inl tF)), (mV, .inl (cJ, 60, .inr (.inl vM)))] (some (.int (if (pjB (pjN n) 0 wr lf).2.2 = 0 then -3 else nI (pjN n)))) [(oM, .inr (4, [.int 0, .int (nI n), .int (nI J), .ref mA, .ref mC, .ref mT, .int (nI 0), .int ((pjB (pjN n) 0 wr lf).2.1), .int (sn + 1), .int (nI 0), .int 0, .int (nI gp), .ref mF, .ref mO, .ref mV, .int ((pjB (pjN n) 0 wr lf).2.2), .int (pjd ((pjB (pjN n) 0 wr lf).2.2))])), (mA, .inl (cJ, 64, .inr (.inl fM))), (mC, .inl (cI, 64, .inl cM)), (mT, .inl (cJ, 64, .inr (.inl tM))), (mF, .inl (cI, 60, .inl fF)), (mO, .inl (cI, 60, .inl tF)), (mV, .inl (cJ, 60, .inr (.inl vM)))] 0 0 := by
  refine pj_of (by decide) rfl (Nat.le_of_ble_eq_true rfl) ?_
  intro p e s m below meth c A ls hx hb hml hr hts hown hlocks hin hA hK hP hD hS hG hl
  have hl : lv_has ls 3 [(0, .ref oM)] := hl
  refine lv_aload_n hx hb dM_snapshot_0 rfl (lv_at hl 0 rfl) ?_
  refine lv_aload_n hx hb dM_snapshot_1 rfl (lv_at hl 0 rfl) ?_
  refine va_get (D := D) (ci := 4) (v := .int 0) (C := "ReplayJournalModel") (T := TM) (N := 17) hx hb hts (pj_ups inM) hown hK hP 0 rfl rfl 10 (by decide) (hts _ (pj_up m_434)) (fun _ h9 => h9) rfl dM_snapshot_2 ?_
  refine lv_if_ne (tgt := 12) hx hb dM_snapshot_5 (by decide) (fun h9 => absurd h9 (fun h => h rfl)) (fun _ => ?_)
  refine lv_iconst (v := 1) hx hb dM_snapshot_8 (by decide) ?_
  refine lv_goto (tgt := 13) hx hb dM_snapshot_9 (by decide) ?_
  refine pj_callV (w2 := [(oM, .inr (4, [.int 0, .int (nI n), .int (nI J), .ref mA, .ref mC, .ref mT, .int (nI us), .int wr, .int sn, .int (nI si), .int 0, .int (nI gp), .ref mF, .ref mO, .ref mV, .int lf, .int (pjd lf)])), (mA, .inl (cJ, 64, .inr (.inl fM))), (mC, .inl (cI, 64, .inl cM)), (mT, .inl (cJ, 64, .inr (.inl tM))), (mF, .inl (cI, 60, .inl fF)), (mO, .inl (cI, 60, .inl tF)), (mV, .inl (cJ, 60, .inr (.inl vM)))]) (wr := []) (rest := []) (st1 := [.int 1]) ⟨hx, hb, hml, hown, hts⟩ (m_stands_y l D cI cJ cZ oM mA mC mT mF mO mV n J us gp si fM tM vM cM fF tF kd wr sn lf 0 hn hJ hus h3) (cwV 1 hts (pj_gV m_514 m_516 m_16 m_24 m_517) rfl rfl rfl (by decide +kernel) ⟨Nat.le_of_ble_eq_true rfl, Nat.le_of_ble_eq_true rfl⟩) pj_no_ok trivial hK hP hD hS hA (ci := 4) (q0 := 0) rfl rfl [0, 1, 2, 3, 4, 5, 6] [] [0, 1, 2, 3, 4, 5, 6] rfl rfl rfl rfl (by decide) rfl rfl rfl hl.1 rfl (Nat.le_of_ble_eq_true rfl) dM_snapshot_13 ⟨Nat.le_of_ble_eq_true rfl, Nat.le_of_ble_eq_true rfl⟩ rfl rfl rfl (fun H locs hP hD hS => ?_)
  refine lv_if_ne (tgt := 21) hx hb dM_snapshot_16 (by decide) (fun _ => ?_) (fun h9 => absurd h9 (by decide))
  refine lv_aload_n hx hb dM_snapshot_21 rfl (lv_at hl 0 rfl) ?_
  refine va_get (D := D) (ci := 4) (v := .int (nI n)) (C := "ReplayJournalModel") (T := TM) (N := 17) hx hb hts (pj_ups inM) hown hK hP 0 rfl rfl 1 (by decide) (hts _ (pj_up m_425)) (fun _ h9 => h9) rfl dM_snapshot_22 ?_
  refine lv_bipush (v := 15) hx hb dM_snapshot_25 (by decide) ?_
  refine lv_iadd hx hb dM_snapshot_27 ?_
  refine lv_topi (fun y9 e9 => ?_)
  have e9 : y9 = nI (n + 15) := e9.trans (nI_add n 15)
  subst e9
  refine lv_bipush (v := 16) hx hb dM_snapshot_28 (by decide) ?_
  refine lv_idiv hx hb dM_snapshot_30 (by decide) ?_
  refine lv_topi (fun y9 e9 => ?_)
  have e9 : y9 = nI ((n + 15) / 16) := e9.trans (pk_div (d := 16) (by omega) (by omega) (by omega))
  subst e9
  refine lv_iconst (v := 1) hx hb dM_snapshot_31 (by decide) ?_
  refine lv_iadd hx hb dM_snapshot_32 ?_
  refine lv_topi (fun y9 e9 => ?_)
  have e9 : y9 = nI (pjN n) := e9.trans (nI_1 _)
  subst e9
  refine lv_istore_n (lv' := [(1, .int (nI (pjN n))), (0, .ref oM)]) hx hb dM_snapshot_33 rfl hl (by decide) rfl (fun ls hl => ?_)
  refine lv_iconst (v := 0) hx hb dM_snapshot_34 (by decide) ?_
  refine lv_istore_n (lv' := [(2, .int 0), (1, .int (nI (pjN n))), (0, .ref oM)]) hx hb dM_snapshot_35 rfl hl (by decide) rfl (fun ls hl => ?_)
  suffices loop : ∀ (k d : Nat) (w0 x0 : Int32), d + k = pjN n → pjB k d w0 x0 = pjB (pjN n) 0 wr lf → ∀ (H : Heap) (locs : List Loc), va_P D vwCl [(oM, .inr (4, [.int 0, .int (nI n), .int (nI J), .ref mA, .ref mC, .ref mT, .int (nI us), .int w0, .int sn, .int (nI si), .int 0, .int (nI gp), .ref mF, .ref mO, .ref mV, .int x0, .int (pjd x0)])), (mA, .inl (cJ, 64, .inr (.inl fM))), (mC, .inl (cI, 64, .inl cM)), (mT, .inl (cJ, 64, .inr (.inl tM))), (mF, .inl (cI, 60, .inl fF)), (mO, .inl (cI, 60, .inl tF)), (mV, .inl (cJ, 60, .inr (.inl vM)))] H → va_D A [(oM, .inr (4, [.int 0, .int (nI n), .int (nI J), .ref mA, .ref mC, .ref mT, .int (nI us), .int w0, .int sn, .int (nI si), .int 0, .int (nI gp), .ref mF, .ref mO, .ref mV, .int x0, .int (pjd x0)])), (mA, .inl (cJ, 64, .inr (.inl fM))), (mC, .inl (cI, 64, .inl cM)), (mT, .inl (cJ, 64, .inr (.inl tM))), (mF, .inl (cI, 60, .inl fF)), (mO, .inl (cI, 60, .inl tF)), (mV, .inl (cJ, 60, .inr (.inl vM)))] → va_S A s.heap H locs → ∀ (ls : Array Slot), lv_has ls 3 [(2, .int (nI d)), (1, .int (nI (pjN n))), (0, .ref oM)] → W p l e ({ frames := 1, cells := 0, slots := 0, locals := 21 }) s m (([.ref oM] : List Value).toArray) below meth c H locs 0 0 (MQ below (pj_Q (some (.int (if (pjB (pjN n) 0 wr lf).2.2 = 0 then -3 else nI (pjN n)))) [(oM, .inr (4, [.int 0, .int (nI n), .int (nI J), .ref mA, .ref mC, .ref mT, .int (nI 0), .int ((pjB (pjN n) 0 wr lf).2.1), .int (sn + 1), .int (nI 0), .int 0, .int (nI gp), .ref mF, .ref mO, .ref mV, .int ((pjB (pjN n) 0 wr lf).2.2), .int (pjd ((pjB (pjN n) 0 wr lf).2.2))])), (mA, .inl (cJ, 64, .inr (.inl fM))), (mC, .inl (cI, 64, .inl cM)), (mT, .inl (cJ, 64, .inr (.inl tM))), (mF, .inl (cI, 60, .inl fF)), (mO, .inl (cI, 60, .inl tF)), (mV, .inl (cJ, 60, .inr (.inl vM)))] D vwCl A) (([.ref oM] : List Value).toArray) s 0 0 A) (F0 m 36 ls []) by
    exact loop (pjN n) 0 wr lf (by omega) rfl H locs hP hD hS ls (lv_sub hl [0, 1, 2] rfl)
  intro k
  induction k with
  | zero =>
    intro d w0 x0 hdk hb9 H locs hP hD hS ls hl
    refine lv_iload_n hx hb dM_snapshot_36 rfl (lv_at hl 0 rfl) ?_
    refine lv_iload_n hx hb dM_snapshot_37 rfl (lv_at hl 1 rfl) ?_
    refine lv_icmp_ge (tgt := 58) hx hb dM_snapshot_38 (by decide) (fun _ => ?_) (fun h9 => (h9 (nI_le (by omega) (by unfold pjN at *; omega))).elim)
    have e0 : (d, w0, x0) = pjB (pjN n) 0 wr lf := by rw [← hb9, pjB]
    have ed : d = (pjB (pjN n) 0 wr lf).1 := by rw [← e0]
    have ew : (pjB (pjN n) 0 wr lf).2.1 = w0 := by rw [← e0]
    have ex : (pjB (pjN n) 0 wr lf).2.2 = x0 := by rw [← e0]
    refine lv_iload_n hx hb dM_snapshot_58 rfl (lv_at hl 0 rfl) ?_
    refine lv_iload_n hx hb dM_snapshot_59 rfl (lv_at hl 1 rfl) ?_
    refine lv_icmp_ne (tgt := 83) hx hb dM_snapshot_60 (by decide) (fun h9 => absurd h9 (fun z => z (by rw [ed, hd]))) (fun _ => ?_)
    refine lv_aload_n hx hb dM_snapshot_63 rfl (lv_at hl 2 rfl) ?_
    refine lv_iconst (v := 0) hx hb dM_snapshot_64 (by decide) ?_
    refine va_put (D := D) (ci := 4) (v := .int 0) (ty := .int) (C := "ReplayJournalModel") (T := TM) (N := 17) hx hb hts (pj_ups inM) tyM tyM_ok nmM hown hK hP hD hS 0 rfl rfl 6 (by decide) (hts _ (pj_up m_430)) (fun _ h9 => h9) rfl (by decide +kernel) rfl rfl (Nat.le_of_ble_eq_true rfl) dM_snapshot_65 (fun H locs hP hD hS => ?_)
    have hP : va_P D vwCl [(oM, .inr (4, [.int 0, .int (nI n), .int (nI J), .ref mA, .ref mC, .ref mT, .int 0, .int w0, .int sn, .int (nI si), .int 0, .int (nI gp), .ref mF, .ref mO, .ref mV, .int x0, .int (pjd x0)])), (mA, .inl (cJ, 64, .inr (.inl fM))), (mC, .inl (cI, 64, .inl cM)), (mT, .inl (cJ, 64, .inr (.inl tM))), (mF, .inl (cI, 60, .inl fF)), (mO, .inl (cI, 60, .inl tF)), (mV, .inl (cJ, 60, .inr (.inl vM)))] H := hP
    have hD : va_D A [(oM, .inr (4, [.int 0, .int (nI n), .int (nI J), .ref mA, .ref mC, .ref mT, .int 0, .int w0, .int sn, .int (nI si), .int 0, .int (nI gp), .ref mF, .ref mO, .ref mV, .int x0, .int (pjd x0)])), (mA, .inl (cJ, 64, .inr (.inl fM))), (mC, .inl (cI, 64, .inl cM)), (mT, .inl (cJ, 64, .inr (.inl tM))), (mF, .inl (cI, 60, .inl fF)), (mO, .inl (cI, 60, .inl tF)), (mV, .inl (cJ, 60, .inr (.inl vM)))] := hD
    refine lv_aload_n hx hb dM_snapshot_68 rfl (lv_at hl 2 rfl) ?_
    refine lv_iconst (v := 0) hx hb dM_snapshot_69 (by decide) ?_
    refine va_put (D := D) (ci := 4) (v := .int 0) (ty := .int) (C := "ReplayJournalModel") (T := TM) (N := 17) hx hb hts (pj_ups inM) tyM tyM_ok nmM hown hK hP hD hS 0 rfl rfl 9 (by decide) (hts _ (pj_up m_433)) (fun _ h9 => h9) rfl (by decide +kernel) rfl rfl (Nat.le_of_ble_eq_true rfl) dM_snapshot_70 (fun H locs hP hD hS => ?_)
    have hP : va_P D vwCl [(oM, .inr (4, [.int 0, .int (nI n), .int (nI J), .ref mA, .ref mC, .ref mT, .int 0, .int w0, .int sn, .int 0, .int 0, .int (nI gp), .ref mF, .ref mO, .ref mV, .int x0, .int (pjd x0)])), (mA, .inl (cJ, 64, .inr (.inl fM))), (mC, .inl (cI, 64, .inl cM)), (mT, .inl (cJ, 64, .inr (.inl tM))), (mF, .inl (cI, 60, .inl fF)), (mO, .inl (cI, 60, .inl tF)), (mV, .inl (cJ, 60, .inr (.inl vM)))] H := hP
    have hD : va_D A [(oM, .inr (4, [.int 0, .int (nI n), .int (nI J), .ref mA, .ref mC, .ref mT, .int 0, .int w0, .int sn, .int 0, .int 0, .int (nI gp), .ref mF, .ref mO, .ref mV, .int x0, .int (pjd x0)])), (mA, .inl (cJ, 64, .inr (.inl fM))), (mC, .inl (cI, 64, .inl cM)), (mT, .inl (cJ, 64, .inr (.inl tM))), (mF, .inl (cI, 60, .inl fF)), (mO, .inl (cI, 60, .inl tF)), (mV, .inl (cJ, 60, .inr (.inl vM)))] := hD
    refine lv_aload_n hx hb dM_snapshot_73 rfl (lv_at hl 2 rfl) ?_
    refine lv_dup hx hb dM_snapshot_74 rfl ?_
    refine va_get (D := D) (ci := 4) (v := .int sn) (C := "ReplayJournalModel") (T := TM) (N := 17) hx hb hts (pj_ups inM) hown hK hP 0 rfl rfl 8 (by decide) (hts _ (pj_up m_432)) (fun _ h9 => h9) rfl dM_snapshot_75 ?_
    refine lv_iconst (v := 1) hx hb dM_snapshot_78 (by decide) ?_
    refine lv_iadd hx hb dM_snapshot_79 ?_
    refine va_put (D := D) (ci := 4) (v := .int (sn + 1)) (ty := .int) (C := "ReplayJournalModel") (T := TM) (N := 17) hx hb hts (pj_ups inM) tyM tyM_ok nmM hown hK hP hD hS 0 rfl rfl 8 (by decide) (hts _ (pj_up m_432)) (fun _ h9 => h9) rfl (by decide +kernel) rfl rfl (Nat.le_of_ble_eq_true rfl) dM_snapshot_80 (fun H locs hP hD hS => ?_)
    have hP : va_P D vwCl [(oM, .inr (4, [.int 0, .int (nI n), .int (nI J), .ref mA, .ref mC, .ref mT, .int 0, .int w0, .int (sn + 1), .int 0, .int 0, .int (nI gp), .ref mF, .ref mO, .ref mV, .int x0, .int (pjd x0)])), (mA, .inl (cJ, 64, .inr (.inl fM))), (mC, .inl (cI, 64, .inl cM)), (mT, .inl (cJ, 64, .inr (.inl tM))), (mF, .inl (cI, 60, .inl fF)), (mO, .inl (cI, 60, .inl tF)), (mV, .inl (cJ, 60, .inr (.inl vM)))] H := hP
    have hD : va_D A [(oM, .inr (4, [.int 0, .int (nI n), .int (nI J), .ref mA, .ref mC, .ref mT, .int 0, .int w0, .int (sn + 1), .int 0, .int 0, .int (nI gp), .ref mF, .ref mO, .ref mV, .int x0, .int (pjd x0)])), (mA, .inl (cJ, 64, .inr (.inl fM))), (mC, .inl (cI, 64, .inl cM)), (mT, .inl (cJ, 64, .inr (.inl tM))), (mF, .inl (cI, 60, .inl fF)), (mO, .inl (cI, 60, .inl tF)), (mV, .inl (cJ, 60, .inr (.inl vM)))] := hD
    by_cases hz : x0 = 0
    · refine lv_aload_n hx hb dM_snapshot_83 rfl (lv_at hl 2 rfl) ?_
      refine va_get (D := D) (ci := 4) (v := .int (pjd x0)) (C := "ReplayJournalModel") (T := TM) (N := 17) hx hb hts (pj_ups inM) hown hK hP 0 rfl rfl 16 (by decide) (hts _ (pj_up m_440)) (fun _ h9 => h9) rfl dM_snapshot_84 ?_
      refine lv_if_eq (tgt := 95) hx hb dM_snapshot_87 (by decide) (fun h9 => absurd h9 (by rw [pjd_1 hz]; decide)) (fun _ => ?_)
      refine lv_bipush (v := (-3)) hx hb dM_snapshot_90 (by decide) ?_
      refine lv_goto (tgt := 96) hx hb dM_snapshot_92 (by decide) ?_
      exact pj_iret hx hb hr hlocks hP hD hS ((if_pos (by rw [ex]; exact hz)).symm) (by rw [ew, ex] <;> rfl) dM_snapshot_96
    · refine lv_aload_n hx hb dM_snapshot_83 rfl (lv_at hl 2 rfl) ?_
      refine va_get (D := D) (ci := 4) (v := .int (pjd x0)) (C := "ReplayJournalModel") (T := TM) (N := 17) hx hb hts (pj_ups inM) hown hK hP 0 rfl rfl 16 (by decide) (hts _ (pj_up m_440)) (fun _ h9 => h9) rfl dM_snapshot_84 ?_
      refine lv_if_eq (tgt := 95) hx hb dM_snapshot_87 (by decide) (fun _ => ?_) (fun h9 => (h9 (pjd_0 hz)).elim)
      refine lv_iload_n hx hb dM_snapshot_95 rfl (lv_at hl 1 rfl) ?_
      exact pj_iret hx hb hr hlocks hP hD hS ((if_neg (by rw [ex]; exact hz)).symm) (by rw [ew, ex] <;> rfl) dM_snapshot_96
  | succ k ih =>
    intro d w0 x0 hdk hb9 H locs hP hD hS ls hl
    refine lv_iload_n hx hb dM_snapshot_36 rfl (lv_at hl 0 rfl) ?_
    refine lv_iload_n hx hb dM_snapshot_37 rfl (lv_at hl 1 rfl) ?_
    refine lv_icmp_ge (tgt := 58) hx hb dM_snapshot_38 (by decide) (fun h9 => absurd h9 (nI_ge (by omega) (by unfold pjN at *; omega))) (fun _ => ?_)
    by_cases h0 : x0 = 0
    · refine lv_aload_n hx hb dM_snapshot_41 rfl (lv_at hl 2 rfl) ?_
      refine va_get (D := D) (ci := 4) (v := .int (pjd x0)) (C := "ReplayJournalModel") (T := TM) (N := 17) hx hb hts (pj_ups inM) hown hK hP 0 rfl rfl 16 (by decide) (hts _ (pj_up m_440)) (fun _ h9 => h9) rfl dM_snapshot_42 ?_
      refine lv_if_ne (tgt := 58) hx hb dM_snapshot_45 (by decide) (fun _ => ?_) (fun h9 => absurd h9 (by rw [pjd_1 h0]; decide))
      have e0 : (d, w0, x0) = pjB (pjN n) 0 wr lf := by rw [← hb9, pjB, if_pos h0]
      have ed : d = (pjB (pjN n) 0 wr lf).1 := by rw [← e0]
      have ew : (pjB (pjN n) 0 wr lf).2.1 = w0 := by rw [← e0]
      have ex : (pjB (pjN n) 0 wr lf).2.2 = x0 := by rw [← e0]
      refine lv_iload_n hx hb dM_snapshot_58 rfl (lv_at hl 0 rfl) ?_
      refine lv_iload_n hx hb dM_snapshot_59 rfl (lv_at hl 1 rfl) ?_
      refine lv_icmp_ne (tgt := 83) hx hb dM_snapshot_60 (by decide) (fun h9 => absurd h9 (fun z => z (by rw [ed, hd]))) (fun _ => ?_)
      refine lv_aload_n hx hb dM_snapshot_63 rfl (lv_at hl 2 rfl) ?_
      refine lv_iconst (v := 0) hx hb dM_snapshot_64 (by decide) ?_
      refine va_put (D := D) (ci := 4) (v := .int 0) (ty := .int) (C := "ReplayJournalModel") (T := TM) (N := 17) hx hb hts (pj_ups inM) tyM tyM_ok nmM hown hK hP hD hS 0 rfl rfl 6 (by decide) (hts _ (pj_up m_430)) (fun _ h9 => h9) rfl (by decide +kernel) rfl rfl (Nat.le_of_ble_eq_true rfl) dM_snapshot_65 (fun H locs hP hD hS => ?_)
      have hP : va_P D vwCl [(oM, .inr (4, [.int 0, .int (nI n), .int (nI J), .ref mA, .ref mC, .ref mT, .int 0, .int w0, .int sn, .int (nI si), .int 0, .int (nI gp), .ref mF, .ref mO, .ref mV, .int x0, .int (pjd x0)])), (mA, .inl (cJ, 64, .inr (.inl fM))), (mC, .inl (cI, 64, .inl cM)), (mT, .inl (cJ, 64, .inr (.inl tM))), (mF, .inl (cI, 60, .inl fF)), (mO, .inl (cI, 60, .inl tF)), (mV, .inl (cJ, 60, .inr (.inl vM)))] H := hP
      have hD : va_D A [(oM, .inr (4, [.int 0, .int (nI n), .int (nI J), .ref mA, .ref mC, .ref mT, .int 0, .int w0, .int sn, .int (nI si), .int 0, .int (nI gp), .ref mF, .ref mO, .ref mV, .int x0, .int (pjd x0)])), (mA, .inl (cJ, 64, .inr (.inl fM))), (mC, .inl (cI, 64, .inl cM)), (mT, .inl (cJ, 64, .inr (.inl tM))), (mF, .inl (cI, 60, .inl fF)), (mO, .inl (cI, 60, .inl tF)), (mV, .inl (cJ, 60, .inr (.inl vM)))] := hD
      refine lv_aload_n hx hb dM_snapshot_68 rfl (lv_at hl 2 rfl) ?_
      refine lv_iconst (v := 0) hx hb dM_snapshot_69 (by decide) ?_
      refine va_put (D := D) (ci := 4) (v := .int 0) (ty := .int) (C := "ReplayJournalModel") (T := TM) (N := 17) hx hb hts (pj_ups inM) tyM tyM_ok nmM hown hK hP hD hS 0 rfl rfl 9 (by decide) (hts _ (pj_up m_433)) (fun _ h9 => h9) rfl (by decide +kernel) rfl rfl (Nat.le_of_ble_eq_true rfl) dM_snapshot_70 (fun H locs hP hD hS => ?_)
      have hP : va_P D vwCl [(oM, .inr (4, [.int 0, .int (nI n), .int (nI J), .ref mA, .ref mC, .ref mT, .int 0, .int w0, .int sn, .int 0, .int 0, .int (nI gp), .ref mF, .ref mO, .ref mV, .int x0, .int (pjd x0)])), (mA, .inl (cJ, 64, .inr (.inl fM))), (mC, .inl (cI, 64, .inl cM)), (mT, .inl (cJ, 64, .inr (.inl tM))), (mF, .inl (cI, 60, .inl fF)), (mO, .inl (cI, 60, .inl tF)), (mV, .inl (cJ, 60, .inr (.inl vM)))] H := hP
      have hD : va_D A [(oM, .inr (4, [.int 0, .int (nI n), .int (nI J), .ref mA, .ref mC, .ref mT, .int 0, .int w0, .int sn, .int 0, .int 0, .int (nI gp), .ref mF, .ref mO, .ref mV, .int x0, .int (pjd x0)])), (mA, .inl (cJ, 64, .inr (.inl fM))), (mC, .inl (cI, 64, .inl cM)), (mT, .inl (cJ, 64, .inr (.inl tM))), (mF, .inl (cI, 60, .inl fF)), (mO, .inl (cI, 60, .inl tF)), (mV, .inl (cJ, 60, .inr (.inl vM)))] := hD
      refine lv_aload_n hx hb dM_snapshot_73 rfl (lv_at hl 2 rfl) ?_
      refine lv_dup hx hb dM_snapshot_74 rfl ?_
      refine va_get (D := D) (ci := 4) (v := .int sn) (C := "ReplayJournalModel") (T := TM) (N := 17) hx hb hts (pj_ups inM) hown hK hP 0 rfl rfl 8 (by decide) (hts _ (pj_up m_432)) (fun _ h9 => h9) rfl dM_snapshot_75 ?_
      refine lv_iconst (v := 1) hx hb dM_snapshot_78 (by decide) ?_
      refine lv_iadd hx hb dM_snapshot_79 ?_
      refine va_put (D := D) (ci := 4) (v := .int (sn + 1)) (ty := .int) (C := "ReplayJournalModel") (T := TM) (N := 17) hx hb hts (pj_ups inM) tyM tyM_ok nmM hown hK hP hD hS 0 rfl rfl 8 (by decide) (hts _ (pj_up m_432)) (fun _ h9 => h9) rfl (by decide +kernel) rfl rfl (Nat.le_of_ble_eq_true rfl) dM_snapshot_80 (fun H locs hP hD hS => ?_)
      have hP : va_P D vwCl [(oM, .inr (4, [.int 0, .int (nI n), .int (nI J), .ref mA, .ref mC, .ref mT, .int 0, .int w0, .int (sn + 1), .int 0, .int 0, .int (nI gp), .ref mF, .ref mO, .ref mV, .int x0, .int (pjd x0)])), (mA, .inl (cJ, 64, .inr (.inl fM))), (mC, .inl (cI, 64, .inl cM)), (mT, .inl (cJ, 64, .inr (.inl tM))), (mF, .inl (cI, 60, .inl fF)), (mO, .inl (cI, 60, .inl tF)), (mV, .inl (cJ, 60, .inr (.inl vM)))] H := hP
      have hD : va_D A [(oM, .inr (4, [.int 0, .int (nI n), .int (nI J), .ref mA, .ref mC, .ref mT, .int 0, .int w0, .int (sn + 1), .int 0, .int 0, .int (nI gp), .ref mF, .ref mO, .ref mV, .int x0, .int (pjd x0)])), (mA, .inl (cJ, 64, .inr (.inl fM))), (mC, .inl (cI, 64, .inl cM)), (mT, .inl (cJ, 64, .inr (.inl tM))), (mF, .inl (cI, 60, .inl fF)), (mO, .inl (cI, 60, .inl tF)), (mV, .inl (cJ, 60, .inr (.inl vM)))] := hD
      by_cases hz : x0 = 0
      · refine lv_aload_n hx hb dM_snapshot_83 rfl (lv_at hl 2 rfl) ?_
        refine va_get (D := D) (ci := 4) (v := .int (pjd x0)) (C := "ReplayJournalModel") (T := TM) (N := 17) hx hb hts (pj_ups inM) hown hK hP 0 rfl rfl 16 (by decide) (hts _ (pj_up m_440)) (fun _ h9 => h9) rfl dM_snapshot_84 ?_
        refine lv_if_eq (tgt := 95) hx hb dM_snapshot_87 (by decide) (fun h9 => absurd h9 (by rw [pjd_1 hz]; decide)) (fun _ => ?_)
        refine lv_bipush (v := (-3)) hx hb dM_snapshot_90 (by decide) ?_
        refine lv_goto (tgt := 96) hx hb dM_snapshot_92 (by decide) ?_
        exact pj_iret hx hb hr hlocks hP hD hS ((if_pos (by rw [ex]; exact hz)).symm) (by rw [ew, ex] <;> rfl) dM_snapshot_96
      · refine lv_aload_n hx hb dM_snapshot_83 rfl (lv_at hl 2 rfl) ?_
        refine va_get (D := D) (ci := 4) (v := .int (pjd x0)) (C := "ReplayJournalModel") (T := TM) (N := 17) hx hb hts (pj_ups inM) hown hK hP 0 rfl rfl 16 (by decide) (hts _ (pj_up m_440)) (fun _ h9 => h9) rfl dM_snapshot_84 ?_
        refine lv_if_eq (tgt := 95) hx hb dM_snapshot_87 (by decide) (fun _ => ?_) (fun h9 => (h9 (pjd_0 hz)).elim)
        refine lv_iload_n hx hb dM_snapshot_95 rfl (lv_at hl 1 rfl) ?_
        exact pj_iret hx hb hr hlocks hP hD hS ((if_neg (by rw [ex]; exact hz)).symm) (by rw [ew, ex] <;> rfl) dM_snapshot_96
    · refine lv_aload_n hx hb dM_snapshot_41 rfl (lv_at hl 2 rfl) ?_
      refine va_get (D := D) (ci := 4) (v := .int (pjd x0)) (C := "ReplayJournalModel") (T := TM) (N := 17) hx hb hts (pj_ups inM) hown hK hP 0 rfl rfl 16 (by decide) (hts _ (pj_up m_440)) (fun _ h9 => h9) rfl dM_snapshot_42 ?_
      refine lv_if_ne (tgt := 58) hx hb dM_snapshot_45 (by decide) (fun h9 => absurd h9 (fun z => z (pjd_0 h0))) (fun _ => ?_)
      refine lv_aload_n hx hb dM_snapshot_48 rfl (lv_at hl 2 rfl) ?_
      refine pj_callV (w2 := [(oM, .inr (4, [.int 0, .int (nI n), .int (nI J), .ref mA, .ref mC, .ref mT, .int (nI us), .int (w0 + 1), .int sn, .int (nI si), .int 0, .int (nI gp), .ref mF, .ref mO, .ref mV, .int (pjL x0), .int (pjd (pjL x0))])), (mA, .inl (cJ, 64, .inr (.inl fM))), (mC, .inl (cI, 64, .inl cM)), (mT, .inl (cJ, 64, .inr (.inl tM))), (mF, .inl (cI, 60, .inl fF)), (mO, .inl (cI, 60, .inl tF)), (mV, .inl (cJ, 60, .inr (.inl vM)))]) (wr := []) (rest := []) (st1 := []) ⟨hx, hb, hml, hown, hts⟩ (m_spend l D cI cJ cZ oM mA mC mT mF mO mV n J us gp si fM tM vM cM fF tF 0 w0 sn x0 0 hn hJ hus) (cwV 0 hts (pj_gV m_498 m_500 m_14 m_24 m_501) rfl rfl rfl (by decide +kernel) ⟨Nat.le_of_ble_eq_true rfl, Nat.le_of_ble_eq_true rfl⟩) pj_no_ok trivial hK hP hD hS hA (ci := 4) (q0 := 0) rfl rfl [0, 1, 2, 3, 4, 5, 6] [] [0, 1, 2, 3, 4, 5, 6] rfl rfl rfl rfl (by decide) rfl rfl rfl hl.1 rfl (Nat.le_of_ble_eq_true rfl) dM_snapshot_49 ⟨Nat.le_of_ble_eq_true rfl, Nat.le_of_ble_eq_true rfl⟩ rfl rfl rfl (fun H locs hP hD hS => ?_)
      refine lv_iinc (v := nI (d + 1)) (lv' := [(2, .int (nI (d + 1))), (1, .int (nI (pjN n))), (0, .ref oM)]) hx hb dM_snapshot_52 hl (k := 0) rfl (nI_1 d) (by decide) rfl (fun ls hl => ?_)
      refine lv_goto (tgt := 36) hx hb dM_snapshot_55 (by decide) ?_
      exact ih (d + 1) (w0 + 1) (pjL x0) (by omega) (by rw [← hb9, pjB, if_neg h0]) H locs hP hD hS ls (lv_sub hl [0, 1, 2] rfl)
set_option maxHeartbeats 4000000 in
set_option maxRecDepth 100000 in
theorem m_snap_cut (l : Launch) (D : va_G) (cI cJ cZ : ClassId) (oM mA mC mT mF mO mV n J us gp si : Nat) (fM tM vM : Nat → Int64) (cM fF tF : Nat → Int32) (kd wr sn lf gr : Int32) (hn : n ≤ 64) (hJ : J ≤ 60) (hus : us ≤ J) (h3 : ¬ lf = 0) (hd : ¬ (pjB (pjN n) 0 wr lf).1 = pjN n) : pj_Met l yM_snapshot wsM_snapshot ({ frames := 1, cells := 0, slots := 0, locals := 21 }) D vwCl (pjT cI cJ cZ) pj_no [.ref oM] [(oM, .inr (4, [.int kd, .int (nI n), .int (nI J), .ref mA, .ref mC, .ref mT, .int (nI us), .int wr, .int sn, .int (nI si), .int 0, .int (nI gp), .ref mF, .ref mO, .ref mV, .int lf, .int (pjd lf)])), (mA, .inl (cJ, 64, .inr (.inl fM))), (mC, .inl (cI, 64, .inl cM)), (mT, .inl (cJ, 64, .inr (.inl tM))), (mF, .inl (cI, 60, .inl fF)), (mO, .inl (cI, 60, .inl tF)), (mV, .inl (cJ, 60, .inr (.inl vM)))] (some (.int (if (pjB (pjN n) 0 wr lf).2.2 = 0 then -3 else nI (pjN n)))) [(oM, .inr (4, [.int 0, .int (nI n), .int (nI J), .ref mA, .ref mC, .ref mT, .int (nI us), .int ((pjB (pjN n) 0 wr lf).2.1), .int sn, .int (nI si), .int 0, .int (nI gp), .ref mF, .ref mO, .ref mV, .int ((pjB (pjN n) 0 wr lf).2.2), .int (pjd ((pjB (pjN n) 0 wr lf).2.2))])), (mA, .inl (cJ, 64, .inr (.inl fM))), (mC, .inl (cI, 64, .inl cM)), (mT, .inl (cJ, 64, .inr (.inl tM))), (mF, .inl (cI, 60, .inl fF)), (mO, .inl (cI, 60, .inl tF)), (mV, .inl (cJ, 60, .inr (.inl vM)))] 0 0 := by
  refine pj_of (by decide) rfl (Nat.le_of_ble_eq_true rfl) ?_
  intro p e s m below meth c A ls hx hb hml hr hts hown hlocks hin hA hK hP hD hS hG hl
  have hl : lv_has ls 3 [(0, .ref oM)] := hl
  refine lv_aload_n hx hb dM_snapshot_0 rfl (lv_at hl 0 rfl) ?_
  refine lv_aload_n hx hb dM_snapshot_1 rfl (lv_at hl 0 rfl) ?_
  refine va_get (D := D) (ci := 4) (v := .int 0) (C := "ReplayJournalModel") (T := TM) (N := 17) hx hb hts (pj_ups inM) hown hK hP 0 rfl rfl 10 (by decide) (hts _ (pj_up m_434)) (fun _ h9 => h9) rfl dM_snapshot_2 ?_
  refine lv_if_ne (tgt := 12) hx hb dM_snapshot_5 (by decide) (fun h9 => absurd h9 (fun h => h rfl)) (fun _ => ?_)
  refine lv_iconst (v := 1) hx hb dM_snapshot_8 (by decide) ?_
  refine lv_goto (tgt := 13) hx hb dM_snapshot_9 (by decide) ?_
  refine pj_callV (w2 := [(oM, .inr (4, [.int 0, .int (nI n), .int (nI J), .ref mA, .ref mC, .ref mT, .int (nI us), .int wr, .int sn, .int (nI si), .int 0, .int (nI gp), .ref mF, .ref mO, .ref mV, .int lf, .int (pjd lf)])), (mA, .inl (cJ, 64, .inr (.inl fM))), (mC, .inl (cI, 64, .inl cM)), (mT, .inl (cJ, 64, .inr (.inl tM))), (mF, .inl (cI, 60, .inl fF)), (mO, .inl (cI, 60, .inl tF)), (mV, .inl (cJ, 60, .inr (.inl vM)))]) (wr := []) (rest := []) (st1 := [.int 1]) ⟨hx, hb, hml, hown, hts⟩ (m_stands_y l D cI cJ cZ oM mA mC mT mF mO mV n J us gp si fM tM vM cM fF tF kd wr sn lf 0 hn hJ hus h3) (cwV 1 hts (pj_gV m_514 m_516 m_16 m_24 m_517) rfl rfl rfl (by decide +kernel) ⟨Nat.le_of_ble_eq_true rfl, Nat.le_of_ble_eq_true rfl⟩) pj_no_ok trivial hK hP hD hS hA (ci := 4) (q0 := 0) rfl rfl [0, 1, 2, 3, 4, 5, 6] [] [0, 1, 2, 3, 4, 5, 6] rfl rfl rfl rfl (by decide) rfl rfl rfl hl.1 rfl (Nat.le_of_ble_eq_true rfl) dM_snapshot_13 ⟨Nat.le_of_ble_eq_true rfl, Nat.le_of_ble_eq_true rfl⟩ rfl rfl rfl (fun H locs hP hD hS => ?_)
  refine lv_if_ne (tgt := 21) hx hb dM_snapshot_16 (by decide) (fun _ => ?_) (fun h9 => absurd h9 (by decide))
  refine lv_aload_n hx hb dM_snapshot_21 rfl (lv_at hl 0 rfl) ?_
  refine va_get (D := D) (ci := 4) (v := .int (nI n)) (C := "ReplayJournalModel") (T := TM) (N := 17) hx hb hts (pj_ups inM) hown hK hP 0 rfl rfl 1 (by decide) (hts _ (pj_up m_425)) (fun _ h9 => h9) rfl dM_snapshot_22 ?_
  refine lv_bipush (v := 15) hx hb dM_snapshot_25 (by decide) ?_
  refine lv_iadd hx hb dM_snapshot_27 ?_
  refine lv_topi (fun y9 e9 => ?_)
  have e9 : y9 = nI (n + 15) := e9.trans (nI_add n 15)
  subst e9
  refine lv_bipush (v := 16) hx hb dM_snapshot_28 (by decide) ?_
  refine lv_idiv hx hb dM_snapshot_30 (by decide) ?_
  refine lv_topi (fun y9 e9 => ?_)
  have e9 : y9 = nI ((n + 15) / 16) := e9.trans (pk_div (d := 16) (by omega) (by omega) (by omega))
  subst e9
  refine lv_iconst (v := 1) hx hb dM_snapshot_31 (by decide) ?_
  refine lv_iadd hx hb dM_snapshot_32 ?_
  refine lv_topi (fun y9 e9 => ?_)
  have e9 : y9 = nI (pjN n) := e9.trans (nI_1 _)
  subst e9
  refine lv_istore_n (lv' := [(1, .int (nI (pjN n))), (0, .ref oM)]) hx hb dM_snapshot_33 rfl hl (by decide) rfl (fun ls hl => ?_)
  refine lv_iconst (v := 0) hx hb dM_snapshot_34 (by decide) ?_
  refine lv_istore_n (lv' := [(2, .int 0), (1, .int (nI (pjN n))), (0, .ref oM)]) hx hb dM_snapshot_35 rfl hl (by decide) rfl (fun ls hl => ?_)
  suffices loop : ∀ (k d : Nat) (w0 x0 : Int32), d + k = pjN n → pjB k d w0 x0 = pjB (pjN n) 0 wr lf → ∀ (H : Heap) (locs : List Loc), va_P D vwCl [(oM, .inr (4, [.int 0, .int (nI n), .int (nI J), .ref mA, .ref mC, .ref mT, .int (nI us), .int w0, .int sn, .int (nI si), .int 0, .int (nI gp), .ref mF, .ref mO, .ref mV, .int x0, .int (pjd x0)])), (mA, .inl (cJ, 64, .inr (.inl fM))), (mC, .inl (cI, 64, .inl cM)), (mT, .inl (cJ, 64, .inr (.inl tM))), (mF, .inl (cI, 60, .inl fF)), (mO, .inl (cI, 60, .inl tF)), (mV, .inl (cJ, 60, .inr (.inl vM)))] H → va_D A [(oM, .inr (4, [.int 0, .int (nI n), .int (nI J), .ref mA, .ref mC, .ref mT, .int (nI us), .int w0, .int sn, .int (nI si), .int 0, .int (nI gp), .ref mF, .ref mO, .ref mV, .int x0, .int (pjd x0)])), (mA, .inl (cJ, 64, .inr (.inl fM))), (mC, .inl (cI, 64, .inl cM)), (mT, .inl (cJ, 64, .inr (.inl tM))), (mF, .inl (cI, 60, .inl fF)), (mO, .inl (cI, 60, .inl tF)), (mV, .inl (cJ, 60, .inr (.inl vM)))] → va_S A s.heap H locs → ∀ (ls : Array Slot), lv_has ls 3 [(2, .int (nI d)), (1, .int (nI (pjN n))), (0, .ref oM)] → W p l e ({ frames := 1, cells := 0, slots := 0, locals := 21 }) s m (([.ref oM] : List Value).toArray) below meth c H locs 0 0 (MQ below (pj_Q (some (.int (if (pjB (pjN n) 0 wr lf).2.2 = 0 then -3 else nI (pjN n)))) [(oM, .inr (4, [.int 0, .int (nI n), .int (nI J), .ref mA, .ref mC, .ref mT, .int (nI us), .int ((pjB (pjN n) 0 wr lf).2.1), .int sn, .int (nI si), .int 0, .int (nI gp), .ref mF, .ref mO, .ref mV, .int ((pjB (pjN n) 0 wr lf).2.2), .int (pjd ((pjB (pjN n) 0 wr lf).2.2))])), (mA, .inl (cJ, 64, .inr (.inl fM))), (mC, .inl (cI, 64, .inl cM)), (mT, .inl (cJ, 64, .inr (.inl tM))), (mF, .inl (cI, 60, .inl fF)), (mO, .inl (cI, 60, .inl tF)), (mV, .inl (cJ, 60, .inr (.inl vM)))] D vwCl A) (([.ref oM] : List Value).toArray) s 0 0 A) (F0 m 36 ls []) by
    exact loop (pjN n) 0 wr lf (by omega) rfl H locs hP hD hS ls (lv_sub hl [0, 1, 2] rfl)
  intro k
  induction k with
  | zero =>
    intro d w0 x0 hdk hb9 H locs hP hD hS ls hl
    refine lv_iload_n hx hb dM_snapshot_36 rfl (lv_at hl 0 rfl) ?_
    refine lv_iload_n hx hb dM_snapshot_37 rfl (lv_at hl 1 rfl) ?_
    refine lv_icmp_ge (tgt := 58) hx hb dM_snapshot_38 (by decide) (fun _ => ?_) (fun h9 => (h9 (nI_le (by omega) (by unfold pjN at *; omega))).elim)
    have e0 : (d, w0, x0) = pjB (pjN n) 0 wr lf := by rw [← hb9, pjB]
    have ed : d = (pjB (pjN n) 0 wr lf).1 := by rw [← e0]
    have ew : (pjB (pjN n) 0 wr lf).2.1 = w0 := by rw [← e0]
    have ex : (pjB (pjN n) 0 wr lf).2.2 = x0 := by rw [← e0]
    refine lv_iload_n hx hb dM_snapshot_58 rfl (lv_at hl 0 rfl) ?_
    refine lv_iload_n hx hb dM_snapshot_59 rfl (lv_at hl 1 rfl) ?_
    refine lv_icmp_ne (tgt := 83) hx hb dM_snapshot_60 (by decide) (fun _ => ?_) (fun h9 => absurd h9 (fun z => hd (by rw [← ed]; exact (nI_eq (by unfold pjN at *; omega) (by unfold pjN at *; omega)).mp z)))
    by_cases hz : x0 = 0
    · refine lv_aload_n hx hb dM_snapshot_83 rfl (lv_at hl 2 rfl) ?_
      refine va_get (D := D) (ci := 4) (v := .int (pjd x0)) (C := "ReplayJournalModel") (T := TM) (N := 17) hx hb hts (pj_ups inM) hown hK hP 0 rfl rfl 16 (by decide) (hts _ (pj_up m_440)) (fun _ h9 => h9) rfl dM_snapshot_84 ?_
      refine lv_if_eq (tgt := 95) hx hb dM_snapshot_87 (by decide) (fun h9 => absurd h9 (by rw [pjd_1 hz]; decide)) (fun _ => ?_)
      refine lv_bipush (v := (-3)) hx hb dM_snapshot_90 (by decide) ?_
      refine lv_goto (tgt := 96) hx hb dM_snapshot_92 (by decide) ?_
      exact pj_iret hx hb hr hlocks hP hD hS ((if_pos (by rw [ex]; exact hz)).symm) (by rw [ew, ex] <;> rfl) dM_snapshot_96
    · refine lv_aload_n hx hb dM_snapshot_83 rfl (lv_at hl 2 rfl) ?_
      refine va_get (D := D) (ci := 4) (v := .int (pjd x0)) (C := "ReplayJournalModel") (T := TM) (N := 17) hx hb hts (pj_ups inM) hown hK hP 0 rfl rfl 16 (by decide) (hts _ (pj_up m_440)) (fun _ h9 => h9) rfl dM_snapshot_84 ?_
      refine lv_if_eq (tgt := 95) hx hb dM_snapshot_87 (by decide) (fun _ => ?_) (fun h9 => (h9 (pjd_0 hz)).elim)
      refine lv_iload_n hx hb dM_snapshot_95 rfl (lv_at hl 1 rfl) ?_
      exact pj_iret hx hb hr hlocks hP hD hS ((if_neg (by rw [ex]; exact hz)).symm) (by rw [ew, ex] <;> rfl) dM_snapshot_96
  | succ k ih =>
    intro d w0 x0 hdk hb9 H locs hP hD hS ls hl
    refine lv_iload_n hx hb dM_snapshot_36 rfl (lv_at hl 0 rfl) ?_
    refine lv_iload_n hx hb dM_snapshot_37 rfl (lv_at hl 1 rfl) ?_
    refine lv_icmp_ge (tgt := 58) hx hb dM_snapshot_38 (by decide) (fun h9 => absurd h9 (nI_ge (by omega) (by unfold pjN at *; omega))) (fun _ => ?_)
    by_cases h0 : x0 = 0
    · refine lv_aload_n hx hb dM_snapshot_41 rfl (lv_at hl 2 rfl) ?_
      refine va_get (D := D) (ci := 4) (v := .int (pjd x0)) (C := "ReplayJournalModel") (T := TM) (N := 17) hx hb hts (pj_ups inM) hown hK hP 0 rfl rfl 16 (by decide) (hts _ (pj_up m_440)) (fun _ h9 => h9) rfl dM_snapshot_42 ?_
      refine lv_if_ne (tgt := 58) hx hb dM_snapshot_45 (by decide) (fun _ => ?_) (fun h9 => absurd h9 (by rw [pjd_1 h0]; decide))
      have e0 : (d, w0, x0) = pjB (pjN n) 0 wr lf := by rw [← hb9, pjB, if_pos h0]
      have ed : d = (pjB (pjN n) 0 wr lf).1 := by rw [← e0]
      have ew : (pjB (pjN n) 0 wr lf).2.1 = w0 := by rw [← e0]
      have ex : (pjB (pjN n) 0 wr lf).2.2 = x0 := by rw [← e0]
      refine lv_iload_n hx hb dM_snapshot_58 rfl (lv_at hl 0 rfl) ?_
      refine lv_iload_n hx hb dM_snapshot_59 rfl (lv_at hl 1 rfl) ?_
      refine lv_icmp_ne (tgt := 83) hx hb dM_snapshot_60 (by decide) (fun _ => ?_) (fun h9 => absurd h9 (fun z => hd (by rw [← ed]; exact (nI_eq (by unfold pjN at *; omega) (by unfold pjN at *; omega)).mp z)))
      by_cases hz : x0 = 0
      · refine lv_aload_n hx hb dM_snapshot_83 rfl (lv_at hl 2 rfl) ?_
        refine va_get (D := D) (ci := 4) (v := .int (pjd x0)) (C := "ReplayJournalModel") (T := TM) (N := 17) hx hb hts (pj_ups inM) hown hK hP 0 rfl rfl 16 (by decide) (hts _ (pj_up m_440)) (fun _ h9 => h9) rfl dM_snapshot_84 ?_
        refine lv_if_eq (tgt := 95) hx hb dM_snapshot_87 (by decide) (fun h9 => absurd h9 (by rw [pjd_1 hz]; decide)) (fun _ => ?_)
        refine lv_bipush (v := (-3)) hx hb dM_snapshot_90 (by decide) ?_
        refine lv_goto (tgt := 96) hx hb dM_snapshot_92 (by decide) ?_
        exact pj_iret hx hb hr hlocks hP hD hS ((if_pos (by rw [ex]; exact hz)).symm) (by rw [ew, ex] <;> rfl) dM_snapshot_96
      · refine lv_aload_n hx hb dM_snapshot_83 rfl (lv_at hl 2 rfl) ?_
        refine va_get (D := D) (ci := 4) (v := .int (pjd x0)) (C := "ReplayJournalModel") (T := TM) (N := 17) hx hb hts (pj_ups inM) hown hK hP 0 rfl rfl 16 (by decide) (hts _ (pj_up m_440)) (fun _ h9 => h9) rfl dM_snapshot_84 ?_
        refine lv_if_eq (tgt := 95) hx hb dM_snapshot_87 (by decide) (fun _ => ?_) (fun h9 => (h9 (pjd_0 hz)).elim)
        refine lv_iload_n hx hb dM_snapshot_95 rfl (lv_at hl 1 rfl) ?_
        exact pj_iret hx hb hr hlocks hP hD hS ((if_neg (by rw [ex]; exact hz)).symm) (by rw [ew, ex] <;> rfl) dM_snapshot_96
    · refine lv_aload_n hx hb dM_snapshot_41 rfl (lv_at hl 2 rfl) ?_
      refine va_get (D := D) (ci := 4) (v := .int (pjd x0)) (C := "ReplayJournalModel") (T := TM) (N := 17) hx hb hts (pj_ups inM) hown hK hP 0 rfl rfl 16 (by decide) (hts _ (pj_up m_440)) (fun _ h9 => h9) rfl dM_snapshot_42 ?_
      refine lv_if_ne (tgt := 58) hx hb dM_snapshot_45 (by decide) (fun h9 => absurd h9 (fun z => z (pjd_0 h0))) (fun _ => ?_)
      refine lv_aload_n hx hb dM_snapshot_48 rfl (lv_at hl 2 rfl) ?_
      refine pj_callV (w2 := [(oM, .inr (4, [.int 0, .int (nI n), .int (nI J), .ref mA, .ref mC, .ref mT, .int (nI us), .int (w0 + 1), .int sn, .int (nI si), .int 0, .int (nI gp), .ref mF, .ref mO, .ref mV, .int (pjL x0), .int (pjd (pjL x0))])), (mA, .inl (cJ, 64, .inr (.inl fM))), (mC, .inl (cI, 64, .inl cM)), (mT, .inl (cJ, 64, .inr (.inl tM))), (mF, .inl (cI, 60, .inl fF)), (mO, .inl (cI, 60, .inl tF)), (mV, .inl (cJ, 60, .inr (.inl vM)))]) (wr := []) (rest := []) (st1 := []) ⟨hx, hb, hml, hown, hts⟩ (m_spend l D cI cJ cZ oM mA mC mT mF mO mV n J us gp si fM tM vM cM fF tF 0 w0 sn x0 0 hn hJ hus) (cwV 0 hts (pj_gV m_498 m_500 m_14 m_24 m_501) rfl rfl rfl (by decide +kernel) ⟨Nat.le_of_ble_eq_true rfl, Nat.le_of_ble_eq_true rfl⟩) pj_no_ok trivial hK hP hD hS hA (ci := 4) (q0 := 0) rfl rfl [0, 1, 2, 3, 4, 5, 6] [] [0, 1, 2, 3, 4, 5, 6] rfl rfl rfl rfl (by decide) rfl rfl rfl hl.1 rfl (Nat.le_of_ble_eq_true rfl) dM_snapshot_49 ⟨Nat.le_of_ble_eq_true rfl, Nat.le_of_ble_eq_true rfl⟩ rfl rfl rfl (fun H locs hP hD hS => ?_)
      refine lv_iinc (v := nI (d + 1)) (lv' := [(2, .int (nI (d + 1))), (1, .int (nI (pjN n))), (0, .ref oM)]) hx hb dM_snapshot_52 hl (k := 0) rfl (nI_1 d) (by decide) rfl (fun ls hl => ?_)
      refine lv_goto (tgt := 36) hx hb dM_snapshot_55 (by decide) ?_
      exact ih (d + 1) (w0 + 1) (pjL x0) (by omega) (by rw [← hb9, pjB, if_neg h0]) H locs hP hD hS ls (lv_sub hl [0, 1, 2] rfl)
