set_option maxHeartbeats 4000000 in
set_option maxRecDepth 100000 in
theorem m_add_1 (l : Launch) (D : va_G) (cI cJ cZ : ClassId) (oM mA mC mT mF mO mV n J us gp si : Nat) (fM tM vM : Nat → Int64) (cM fF tF : Nat → Int32) (kd wr sn lf gr : Int32) (hn : n ≤ 64) (hJ : J ≤ 60) (hus : us ≤ J) (y : Int32) (v : Int64) (h : ¬ pjH n y ∨ (v < (-1000000000000) ∨ (1000000000000 : Int64) < v)) : pj_Met l yM_add wsM_add ({ frames := 2, cells := 0, slots := 0, locals := 48 }) D vwCl (pjT cI cJ cZ) pj_no [.ref oM, .int y, .long v] [(oM, .inr (4, [.int kd, .int (nI n), .int (nI J), .ref mA, .ref mC, .ref mT, .int (nI us), .int wr, .int sn, .int (nI si), .int gr, .int (nI gp), .ref mF, .ref mO, .ref mV, .int lf, .int (pjd lf)])), (mA, .inl (cJ, 64, .inr (.inl fM))), (mC, .inl (cI, 64, .inl cM)), (mT, .inl (cJ, 64, .inr (.inl tM))), (mF, .inl (cI, 60, .inl fF)), (mO, .inl (cI, 60, .inl tF)), (mV, .inl (cJ, 60, .inr (.inl vM)))] (some (.int 0)) [(oM, .inr (4, [.int 1, .int (nI n), .int (nI J), .ref mA, .ref mC, .ref mT, .int (nI us), .int wr, .int sn, .int (nI si), .int gr, .int (nI gp), .ref mF, .ref mO, .ref mV, .int lf, .int (pjd lf)])), (mA, .inl (cJ, 64, .inr (.inl fM))), (mC, .inl (cI, 64, .inl cM)), (mT, .inl (cJ, 64, .inr (.inl tM))), (mF, .inl (cI, 60, .inl fF)), (mO, .inl (cI, 60, .inl tF)), (mV, .inl (cJ, 60, .inr (.inl vM)))] 0 0 := by
  refine pj_of (by decide) rfl (Nat.le_of_ble_eq_true rfl) ?_
  intro p e s m below meth c A ls hx hb hml hr hts hown hlocks hin hA hK hP hD hS hG hl
  have hl : lv_has ls 4 [(0, .ref oM), (1, .int y), (2, .long v)] := hl
  refine lv_aload_n hx hb dM_add_0 rfl (lv_at hl 0 rfl) ?_
  refine lv_aload_n hx hb dM_add_1 rfl (lv_at hl 0 rfl) ?_
  refine lv_iload_n hx hb dM_add_2 rfl (lv_at hl 1 rfl) ?_
  by_cases h1 : pjH n y
  · refine pp_callV (rest := [.ref oM]) (st1 := [.int 1, .ref oM]) ⟨hx, hb, hml, hown, hts⟩ (m_isa_t l D cI cJ cZ oM mA mC mT mF mO mV n J us gp si fM tM vM cM fF tF kd wr sn lf gr hn hJ hus y h1) (cwV 1 hts (pj_gV m_484 m_486 m_11 m_24 m_487) rfl rfl rfl (by decide +kernel) ⟨Nat.le_of_ble_eq_true rfl, Nat.le_of_ble_eq_true rfl⟩) pj_no_ok trivial hK hP hD hS hA (ci := 4) (q0 := 0) rfl rfl [0, 1, 2, 3, 4, 5, 6] rfl rfl rfl hl.1 rfl (Nat.le_of_ble_eq_true rfl) dM_add_3 ⟨Nat.le_of_ble_eq_true rfl, Nat.le_of_ble_eq_true rfl⟩ rfl ?_
    refine lv_if_eq (tgt := 29) hx hb dM_add_6 (by decide) (fun h9 => absurd h9 (by decide)) (fun _ => ?_)
    refine lv_lload_n hx hb dM_add_9 rfl (lv_at hl 2 rfl) ?_
    refine lv_ldc2 (v := (-1000000000000)) hx hb hown (hts _ (pj_up m_488)) dM_add_10 ?_
    refine W.lcmp hx hb dM_add_13 ?_
    refine lv_if_lt (tgt := 29) hx hb dM_add_14 (by decide) (fun c1 => ?_) (fun c1 => ?_)
    · refine lv_iconst (v := 0) hx hb dM_add_29 (by decide) ?_
      refine lv_aload_n hx hb dM_add_30 rfl (lv_at hl 0 rfl) ?_
      refine va_get (D := D) (ci := 4) (v := .int (pjd lf)) (C := "ReplayJournalModel") (T := TM) (N := 17) hx hb hts (pj_ups inM) hown hK hP 0 rfl rfl 16 (by decide) (hts _ (pj_up m_440)) (fun _ h9 => h9) rfl dM_add_31 ?_
      refine lv_if_ne (tgt := 41) hx hb dM_add_34 (by decide) (fun c9 => ?_) (fun c9 => ?_)
      · refine lv_iconst (v := 0) hx hb dM_add_41 (by decide) ?_
        refine pj_callV (w2 := [(oM, .inr (4, [.int 1, .int (nI n), .int (nI J), .ref mA, .ref mC, .ref mT, .int (nI us), .int wr, .int sn, .int (nI si), .int gr, .int (nI gp), .ref mF, .ref mO, .ref mV, .int lf, .int (pjd lf)])), (mA, .inl (cJ, 64, .inr (.inl fM))), (mC, .inl (cI, 64, .inl cM)), (mT, .inl (cJ, 64, .inr (.inl tM))), (mF, .inl (cI, 60, .inl fF)), (mO, .inl (cI, 60, .inl tF)), (mV, .inl (cJ, 60, .inr (.inl vM)))]) (wr := []) (rest := []) (st1 := [.int 0]) ⟨hx, hb, hml, hown, hts⟩ (m_goes_1 l D cI cJ cZ oM mA mC mT mF mO mV n J us gp si fM tM vM cM fF tF kd wr sn lf gr hn hJ hus 0) (cwV 2 hts (pj_gV m_490 m_492 m_12 m_24 m_493) rfl rfl rfl (by decide +kernel) ⟨Nat.le_of_ble_eq_true rfl, Nat.le_of_ble_eq_true rfl⟩) pj_no_ok trivial hK hP hD hS hA (ci := 4) (q0 := 0) rfl rfl [0, 1, 2, 3, 4, 5, 6] [] [0, 1, 2, 3, 4, 5, 6] rfl rfl rfl rfl (by decide) rfl rfl rfl hl.1 rfl (Nat.le_of_ble_eq_true rfl) dM_add_42 ⟨Nat.le_of_ble_eq_true rfl, Nat.le_of_ble_eq_true rfl⟩ rfl rfl rfl (fun H locs hP hD hS => ?_)
        refine lv_if_eq (tgt := 58) hx hb dM_add_45 (by decide) (fun _ => ?_) (fun h9 => (h9 rfl).elim)
        refine lv_iconst (v := 0) hx hb dM_add_58 (by decide) ?_
        exact pj_iret hx hb hr hlocks hP hD hS (rfl) (rfl) dM_add_59
      · refine lv_iconst (v := 1) hx hb dM_add_37 (by decide) ?_
        refine lv_goto (tgt := 42) hx hb dM_add_38 (by decide) ?_
        refine pj_callV (w2 := [(oM, .inr (4, [.int 1, .int (nI n), .int (nI J), .ref mA, .ref mC, .ref mT, .int (nI us), .int wr, .int sn, .int (nI si), .int gr, .int (nI gp), .ref mF, .ref mO, .ref mV, .int lf, .int (pjd lf)])), (mA, .inl (cJ, 64, .inr (.inl fM))), (mC, .inl (cI, 64, .inl cM)), (mT, .inl (cJ, 64, .inr (.inl tM))), (mF, .inl (cI, 60, .inl fF)), (mO, .inl (cI, 60, .inl tF)), (mV, .inl (cJ, 60, .inr (.inl vM)))]) (wr := []) (rest := []) (st1 := [.int 0]) ⟨hx, hb, hml, hown, hts⟩ (m_goes_1 l D cI cJ cZ oM mA mC mT mF mO mV n J us gp si fM tM vM cM fF tF kd wr sn lf gr hn hJ hus 1) (cwV 2 hts (pj_gV m_490 m_492 m_12 m_24 m_493) rfl rfl rfl (by decide +kernel) ⟨Nat.le_of_ble_eq_true rfl, Nat.le_of_ble_eq_true rfl⟩) pj_no_ok trivial hK hP hD hS hA (ci := 4) (q0 := 0) rfl rfl [0, 1, 2, 3, 4, 5, 6] [] [0, 1, 2, 3, 4, 5, 6] rfl rfl rfl rfl (by decide) rfl rfl rfl hl.1 rfl (Nat.le_of_ble_eq_true rfl) dM_add_42 ⟨Nat.le_of_ble_eq_true rfl, Nat.le_of_ble_eq_true rfl⟩ rfl rfl rfl (fun H locs hP hD hS => ?_)
        refine lv_if_eq (tgt := 58) hx hb dM_add_45 (by decide) (fun _ => ?_) (fun h9 => (h9 rfl).elim)
        refine lv_iconst (v := 0) hx hb dM_add_58 (by decide) ?_
        exact pj_iret hx hb hr hlocks hP hD hS (rfl) (rfl) dM_add_59
    · refine lv_lload_n hx hb dM_add_17 rfl (lv_at hl 2 rfl) ?_
      refine lv_ldc2 (v := 1000000000000) hx hb hown (hts _ (pj_up m_489)) dM_add_18 ?_
      refine W.lcmp hx hb dM_add_21 ?_
      refine lv_if_gt (tgt := 29) hx hb dM_add_22 (by decide) (fun _ => ?_) (fun h9 => (h9 ((lg_cmp_gt _ _).mpr ((h.resolve_left (fun q => q h1)).resolve_left (fun q => c1 ((lg_cmp_lt _ _).mpr q))))).elim)
      refine lv_iconst (v := 0) hx hb dM_add_29 (by decide) ?_
      refine lv_aload_n hx hb dM_add_30 rfl (lv_at hl 0 rfl) ?_
      refine va_get (D := D) (ci := 4) (v := .int (pjd lf)) (C := "ReplayJournalModel") (T := TM) (N := 17) hx hb hts (pj_ups inM) hown hK hP 0 rfl rfl 16 (by decide) (hts _ (pj_up m_440)) (fun _ h9 => h9) rfl dM_add_31 ?_
      refine lv_if_ne (tgt := 41) hx hb dM_add_34 (by decide) (fun c9 => ?_) (fun c9 => ?_)
      · refine lv_iconst (v := 0) hx hb dM_add_41 (by decide) ?_
        refine pj_callV (w2 := [(oM, .inr (4, [.int 1, .int (nI n), .int (nI J), .ref mA, .ref mC, .ref mT, .int (nI us), .int wr, .int sn, .int (nI si), .int gr, .int (nI gp), .ref mF, .ref mO, .ref mV, .int lf, .int (pjd lf)])), (mA, .inl (cJ, 64, .inr (.inl fM))), (mC, .inl (cI, 64, .inl cM)), (mT, .inl (cJ, 64, .inr (.inl tM))), (mF, .inl (cI, 60, .inl fF)), (mO, .inl (cI, 60, .inl tF)), (mV, .inl (cJ, 60, .inr (.inl vM)))]) (wr := []) (rest := []) (st1 := [.int 0]) ⟨hx, hb, hml, hown, hts⟩ (m_goes_1 l D cI cJ cZ oM mA mC mT mF mO mV n J us gp si fM tM vM cM fF tF kd wr sn lf gr hn hJ hus 0) (cwV 2 hts (pj_gV m_490 m_492 m_12 m_24 m_493) rfl rfl rfl (by decide +kernel) ⟨Nat.le_of_ble_eq_true rfl, Nat.le_of_ble_eq_true rfl⟩) pj_no_ok trivial hK hP hD hS hA (ci := 4) (q0 := 0) rfl rfl [0, 1, 2, 3, 4, 5, 6] [] [0, 1, 2, 3, 4, 5, 6] rfl rfl rfl rfl (by decide) rfl rfl rfl hl.1 rfl (Nat.le_of_ble_eq_true rfl) dM_add_42 ⟨Nat.le_of_ble_eq_true rfl, Nat.le_of_ble_eq_true rfl⟩ rfl rfl rfl (fun H locs hP hD hS => ?_)
        refine lv_if_eq (tgt := 58) hx hb dM_add_45 (by decide) (fun _ => ?_) (fun h9 => (h9 rfl).elim)
        refine lv_iconst (v := 0) hx hb dM_add_58 (by decide) ?_
        exact pj_iret hx hb hr hlocks hP hD hS (rfl) (rfl) dM_add_59
      · refine lv_iconst (v := 1) hx hb dM_add_37 (by decide) ?_
        refine lv_goto (tgt := 42) hx hb dM_add_38 (by decide) ?_
        refine pj_callV (w2 := [(oM, .inr (4, [.int 1, .int (nI n), .int (nI J), .ref mA, .ref mC, .ref mT, .int (nI us), .int wr, .int sn, .int (nI si), .int gr, .int (nI gp), .ref mF, .ref mO, .ref mV, .int lf, .int (pjd lf)])), (mA, .inl (cJ, 64, .inr (.inl fM))), (mC, .inl (cI, 64, .inl cM)), (mT, .inl (cJ, 64, .inr (.inl tM))), (mF, .inl (cI, 60, .inl fF)), (mO, .inl (cI, 60, .inl tF)), (mV, .inl (cJ, 60, .inr (.inl vM)))]) (wr := []) (rest := []) (st1 := [.int 0]) ⟨hx, hb, hml, hown, hts⟩ (m_goes_1 l D cI cJ cZ oM mA mC mT mF mO mV n J us gp si fM tM vM cM fF tF kd wr sn lf gr hn hJ hus 1) (cwV 2 hts (pj_gV m_490 m_492 m_12 m_24 m_493) rfl rfl rfl (by decide +kernel) ⟨Nat.le_of_ble_eq_true rfl, Nat.le_of_ble_eq_true rfl⟩) pj_no_ok trivial hK hP hD hS hA (ci := 4) (q0 := 0) rfl rfl [0, 1, 2, 3, 4, 5, 6] [] [0, 1, 2, 3, 4, 5, 6] rfl rfl rfl rfl (by decide) rfl rfl rfl hl.1 rfl (Nat.le_of_ble_eq_true rfl) dM_add_42 ⟨Nat.le_of_ble_eq_true rfl, Nat.le_of_ble_eq_true rfl⟩ rfl rfl rfl (fun H locs hP hD hS => ?_)
        refine lv_if_eq (tgt := 58) hx hb dM_add_45 (by decide) (fun _ => ?_) (fun h9 => (h9 rfl).elim)
        refine lv_iconst (v := 0) hx hb dM_add_58 (by decide) ?_
        exact pj_iret hx hb hr hlocks hP hD hS (rfl) (rfl) dM_add_59
  · refine pp_callV (rest := [.ref oM]) (st1 := [.int 0, .ref oM]) ⟨hx, hb, hml, hown, hts⟩ (m_isa_f l D cI cJ cZ oM mA mC mT mF mO mV n J us gp si fM tM vM cM fF tF kd wr sn lf gr hn hJ hus y h1) (cwV 1 hts (pj_gV m_484 m_486 m_11 m_24 m_487) rfl rfl rfl (by decide +kernel) ⟨Nat.le_of_ble_eq_true rfl, Nat.le_of_ble_eq_true rfl⟩) pj_no_ok trivial hK hP hD hS hA (ci := 4) (q0 := 0) rfl rfl [0, 1, 2, 3, 4, 5, 6] rfl rfl rfl hl.1 rfl (Nat.le_of_ble_eq_true rfl) dM_add_3 ⟨Nat.le_of_ble_eq_true rfl, Nat.le_of_ble_eq_true rfl⟩ rfl ?_
    refine lv_if_eq (tgt := 29) hx hb dM_add_6 (by decide) (fun _ => ?_) (fun h9 => (h9 rfl).elim)
    refine lv_iconst (v := 0) hx hb dM_add_29 (by decide) ?_
    refine lv_aload_n hx hb dM_add_30 rfl (lv_at hl 0 rfl) ?_
    refine va_get (D := D) (ci := 4) (v := .int (pjd lf)) (C := "ReplayJournalModel") (T := TM) (N := 17) hx hb hts (pj_ups inM) hown hK hP 0 rfl rfl 16 (by decide) (hts _ (pj_up m_440)) (fun _ h9 => h9) rfl dM_add_31 ?_
    refine lv_if_ne (tgt := 41) hx hb dM_add_34 (by decide) (fun c9 => ?_) (fun c9 => ?_)
    · refine lv_iconst (v := 0) hx hb dM_add_41 (by decide) ?_
      refine pj_callV (w2 := [(oM, .inr (4, [.int 1, .int (nI n), .int (nI J), .ref mA, .ref mC, .ref mT, .int (nI us), .int wr, .int sn, .int (nI si), .int gr, .int (nI gp), .ref mF, .ref mO, .ref mV, .int lf, .int (pjd lf)])), (mA, .inl (cJ, 64, .inr (.inl fM))), (mC, .inl (cI, 64, .inl cM)), (mT, .inl (cJ, 64, .inr (.inl tM))), (mF, .inl (cI, 60, .inl fF)), (mO, .inl (cI, 60, .inl tF)), (mV, .inl (cJ, 60, .inr (.inl vM)))]) (wr := []) (rest := []) (st1 := [.int 0]) ⟨hx, hb, hml, hown, hts⟩ (m_goes_1 l D cI cJ cZ oM mA mC mT mF mO mV n J us gp si fM tM vM cM fF tF kd wr sn lf gr hn hJ hus 0) (cwV 2 hts (pj_gV m_490 m_492 m_12 m_24 m_493) rfl rfl rfl (by decide +kernel) ⟨Nat.le_of_ble_eq_true rfl, Nat.le_of_ble_eq_true rfl⟩) pj_no_ok trivial hK hP hD hS hA (ci := 4) (q0 := 0) rfl rfl [0, 1, 2, 3, 4, 5, 6] [] [0, 1, 2, 3, 4, 5, 6] rfl rfl rfl rfl (by decide) rfl rfl rfl hl.1 rfl (Nat.le_of_ble_eq_true rfl) dM_add_42 ⟨Nat.le_of_ble_eq_true rfl, Nat.le_of_ble_eq_true rfl⟩ rfl rfl rfl (fun H locs hP hD hS => ?_)
      refine lv_if_eq (tgt := 58) hx hb dM_add_45 (by decide) (fun _ => ?_) (fun h9 => (h9 rfl).elim)
      refine lv_iconst (v := 0) hx hb dM_add_58 (by decide) ?_
      exact pj_iret hx hb hr hlocks hP hD hS (rfl) (rfl) dM_add_59
    · refine lv_iconst (v := 1) hx hb dM_add_37 (by decide) ?_
      refine lv_goto (tgt := 42) hx hb dM_add_38 (by decide) ?_
      refine pj_callV (w2 := [(oM, .inr (4, [.int 1, .int (nI n), .int (nI J), .ref mA, .ref mC, .ref mT, .int (nI us), .int wr, .int sn, .int (nI si), .int gr, .int (nI gp), .ref mF, .ref mO, .ref mV, .int lf, .int (pjd lf)])), (mA, .inl (cJ, 64, .inr (.inl fM))), (mC, .inl (cI, 64, .inl cM)), (mT, .inl (cJ, 64, .inr (.inl tM))), (mF, .inl (cI, 60, .inl fF)), (mO, .inl (cI, 60, .inl tF)), (mV, .inl (cJ, 60, .inr (.inl vM)))]) (wr := []) (rest := []) (st1 := [.int 0]) ⟨hx, hb, hml, hown, hts⟩ (m_goes_1 l D cI cJ cZ oM mA mC mT mF mO mV n J us gp si fM tM vM cM fF tF kd wr sn lf gr hn hJ hus 1) (cwV 2 hts (pj_gV m_490 m_492 m_12 m_24 m_493) rfl rfl rfl (by decide +kernel) ⟨Nat.le_of_ble_eq_true rfl, Nat.le_of_ble_eq_true rfl⟩) pj_no_ok trivial hK hP hD hS hA (ci := 4) (q0 := 0) rfl rfl [0, 1, 2, 3, 4, 5, 6] [] [0, 1, 2, 3, 4, 5, 6] rfl rfl rfl rfl (by decide) rfl rfl rfl hl.1 rfl (Nat.le_of_ble_eq_true rfl) dM_add_42 ⟨Nat.le_of_ble_eq_true rfl, Nat.le_of_ble_eq_true rfl⟩ rfl rfl rfl (fun H locs hP hD hS => ?_)
      refine lv_if_eq (tgt := 58) hx hb dM_add_45 (by decide) (fun _ => ?_) (fun h9 => (h9 rfl).elim)
      refine lv_iconst (v := 0) hx hb dM_add_58 (by decide) ?_
      exact pj_iret hx hb hr hlocks hP hD hS (rfl) (rfl) dM_add_59
set_option maxHeartbeats 4000000 in
set_option maxRecDepth 100000 in
theorem m_add_2 (l : Launch) (D : va_G) (cI cJ cZ : ClassId) (oM mA mC mT mF mO mV n J us gp si : Nat) (fM tM vM : Nat → Int64) (cM fF tF : Nat → Int32) (kd wr sn lf gr : Int32) (hn : n ≤ 64) (hJ : J ≤ 60) (hus : us ≤ J) (y : Int32) (v : Int64) (h1 : pjH n y) (h2 : ¬ v < (-1000000000000) ∧ ¬ (1000000000000 : Int64) < v) (h3 : lf = 0) : pj_Met l yM_add wsM_add ({ frames := 2, cells := 0, slots := 0, locals := 48 }) D vwCl (pjT cI cJ cZ) pj_no [.ref oM, .int y, .long v] [(oM, .inr (4, [.int kd, .int (nI n), .int (nI J), .ref mA, .ref mC, .ref mT, .int (nI us), .int wr, .int sn, .int (nI si), .int gr, .int (nI gp), .ref mF, .ref mO, .ref mV, .int lf, .int (pjd lf)])), (mA, .inl (cJ, 64, .inr (.inl fM))), (mC, .inl (cI, 64, .inl cM)), (mT, .inl (cJ, 64, .inr (.inl tM))), (mF, .inl (cI, 60, .inl fF)), (mO, .inl (cI, 60, .inl tF)), (mV, .inl (cJ, 60, .inr (.inl vM)))] (some (.int 0)) [(oM, .inr (4, [.int 2, .int (nI n), .int (nI J), .ref mA, .ref mC, .ref mT, .int (nI us), .int wr, .int sn, .int (nI si), .int gr, .int (nI gp), .ref mF, .ref mO, .ref mV, .int lf, .int (pjd lf)])), (mA, .inl (cJ, 64, .inr (.inl fM))), (mC, .inl (cI, 64, .inl cM)), (mT, .inl (cJ, 64, .inr (.inl tM))), (mF, .inl (cI, 60, .inl fF)), (mO, .inl (cI, 60, .inl tF)), (mV, .inl (cJ, 60, .inr (.inl vM)))] 0 0 := by
  refine pj_of (by decide) rfl (Nat.le_of_ble_eq_true rfl) ?_
  intro p e s m below meth c A ls hx hb hml hr hts hown hlocks hin hA hK hP hD hS hG hl
  have hl : lv_has ls 4 [(0, .ref oM), (1, .int y), (2, .long v)] := hl
  refine lv_aload_n hx hb dM_add_0 rfl (lv_at hl 0 rfl) ?_
  refine lv_aload_n hx hb dM_add_1 rfl (lv_at hl 0 rfl) ?_
  refine lv_iload_n hx hb dM_add_2 rfl (lv_at hl 1 rfl) ?_
  refine pp_callV (rest := [.ref oM]) (st1 := [.int 1, .ref oM]) ⟨hx, hb, hml, hown, hts⟩ (m_isa_t l D cI cJ cZ oM mA mC mT mF mO mV n J us gp si fM tM vM cM fF tF kd wr sn lf gr hn hJ hus y h1) (cwV 1 hts (pj_gV m_484 m_486 m_11 m_24 m_487) rfl rfl rfl (by decide +kernel) ⟨Nat.le_of_ble_eq_true rfl, Nat.le_of_ble_eq_true rfl⟩) pj_no_ok trivial hK hP hD hS hA (ci := 4) (q0 := 0) rfl rfl [0, 1, 2, 3, 4, 5, 6] rfl rfl rfl hl.1 rfl (Nat.le_of_ble_eq_true rfl) dM_add_3 ⟨Nat.le_of_ble_eq_true rfl, Nat.le_of_ble_eq_true rfl⟩ rfl ?_
  refine lv_if_eq (tgt := 29) hx hb dM_add_6 (by decide) (fun h9 => absurd h9 (by decide)) (fun _ => ?_)
  refine lv_lload_n hx hb dM_add_9 rfl (lv_at hl 2 rfl) ?_
  refine lv_ldc2 (v := (-1000000000000)) hx hb hown (hts _ (pj_up m_488)) dM_add_10 ?_
  refine W.lcmp hx hb dM_add_13 ?_
  refine lv_if_lt (tgt := 29) hx hb dM_add_14 (by decide) (fun h9 => absurd h9 (fun z => h2.1 ((lg_cmp_lt _ _).mp z))) (fun _ => ?_)
  refine lv_lload_n hx hb dM_add_17 rfl (lv_at hl 2 rfl) ?_
  refine lv_ldc2 (v := 1000000000000) hx hb hown (hts _ (pj_up m_489)) dM_add_18 ?_
  refine W.lcmp hx hb dM_add_21 ?_
  refine lv_if_gt (tgt := 29) hx hb dM_add_22 (by decide) (fun h9 => absurd h9 (fun z => h2.2 ((lg_cmp_gt _ _).mp z))) (fun _ => ?_)
  refine lv_iconst (v := 1) hx hb dM_add_25 (by decide) ?_
  refine lv_goto (tgt := 30) hx hb dM_add_26 (by decide) ?_
  refine lv_aload_n hx hb dM_add_30 rfl (lv_at hl 0 rfl) ?_
  refine va_get (D := D) (ci := 4) (v := .int (pjd lf)) (C := "ReplayJournalModel") (T := TM) (N := 17) hx hb hts (pj_ups inM) hown hK hP 0 rfl rfl 16 (by decide) (hts _ (pj_up m_440)) (fun _ h9 => h9) rfl dM_add_31 ?_
  refine lv_if_ne (tgt := 41) hx hb dM_add_34 (by decide) (fun _ => ?_) (fun h9 => absurd h9 (by rw [pjd_1 h3]; decide))
  refine lv_iconst (v := 0) hx hb dM_add_41 (by decide) ?_
  refine pj_callV (w2 := [(oM, .inr (4, [.int 2, .int (nI n), .int (nI J), .ref mA, .ref mC, .ref mT, .int (nI us), .int wr, .int sn, .int (nI si), .int gr, .int (nI gp), .ref mF, .ref mO, .ref mV, .int lf, .int (pjd lf)])), (mA, .inl (cJ, 64, .inr (.inl fM))), (mC, .inl (cI, 64, .inl cM)), (mT, .inl (cJ, 64, .inr (.inl tM))), (mF, .inl (cI, 60, .inl fF)), (mO, .inl (cI, 60, .inl tF)), (mV, .inl (cJ, 60, .inr (.inl vM)))]) (wr := []) (rest := []) (st1 := [.int 0]) ⟨hx, hb, hml, hown, hts⟩ (m_goes_2 l D cI cJ cZ oM mA mC mT mF mO mV n J us gp si fM tM vM cM fF tF kd wr sn lf gr hn hJ hus) (cwV 2 hts (pj_gV m_490 m_492 m_12 m_24 m_493) rfl rfl rfl (by decide +kernel) ⟨Nat.le_of_ble_eq_true rfl, Nat.le_of_ble_eq_true rfl⟩) pj_no_ok trivial hK hP hD hS hA (ci := 4) (q0 := 0) rfl rfl [0, 1, 2, 3, 4, 5, 6] [] [0, 1, 2, 3, 4, 5, 6] rfl rfl rfl rfl (by decide) rfl rfl rfl hl.1 rfl (Nat.le_of_ble_eq_true rfl) dM_add_42 ⟨Nat.le_of_ble_eq_true rfl, Nat.le_of_ble_eq_true rfl⟩ rfl rfl rfl (fun H locs hP hD hS => ?_)
  refine lv_if_eq (tgt := 58) hx hb dM_add_45 (by decide) (fun _ => ?_) (fun h9 => (h9 rfl).elim)
  refine lv_iconst (v := 0) hx hb dM_add_58 (by decide) ?_
  exact pj_iret hx hb hr hlocks hP hD hS (rfl) (rfl) dM_add_59
set_option maxHeartbeats 4000000 in
set_option maxRecDepth 100000 in
theorem m_add_0 (l : Launch) (D : va_G) (cI cJ cZ : ClassId) (oM mA mC mT mF mO mV n J us gp si : Nat) (fM tM vM : Nat → Int64) (cM fF tF : Nat → Int32) (kd wr sn lf gr : Int32) (hn : n ≤ 64) (hJ : J ≤ 60) (hus : us ≤ J) (y : Int32) (v : Int64) (h1 : pjH n y) (h2 : ¬ v < (-1000000000000) ∧ ¬ (1000000000000 : Int64) < v) (h3 : ¬ lf = 0) (r : Int32) (w1 : va_W) (hM : pj_Met l yM_take wsM_take ({ frames := 1, cells := 0, slots := 0, locals := 24 }) D vwCl (pjT cI cJ cZ) pj_no [.ref oM, .int (-1), .int y, .long v] [(oM, .inr (4, [.int 0, .int (nI n), .int (nI J), .ref mA, .ref mC, .ref mT, .int (nI us), .int wr, .int sn, .int (nI si), .int gr, .int (nI gp), .ref mF, .ref mO, .ref mV, .int lf, .int (pjd lf)])), (mA, .inl (cJ, 64, .inr (.inl fM))), (mC, .inl (cI, 64, .inl cM)), (mT, .inl (cJ, 64, .inr (.inl tM))), (mF, .inl (cI, 60, .inl fF)), (mO, .inl (cI, 60, .inl tF)), (mV, .inl (cJ, 60, .inr (.inl vM)))] (some (.int r)) w1 0 0) : pj_Met l yM_add wsM_add ({ frames := 2, cells := 0, slots := 0, locals := 48 }) D vwCl (pjT cI cJ cZ) pj_no [.ref oM, .int y, .long v] [(oM, .inr (4, [.int kd, .int (nI n), .int (nI J), .ref mA, .ref mC, .ref mT, .int (nI us), .int wr, .int sn, .int (nI si), .int gr, .int (nI gp), .ref mF, .ref mO, .ref mV, .int lf, .int (pjd lf)])), (mA, .inl (cJ, 64, .inr (.inl fM))), (mC, .inl (cI, 64, .inl cM)), (mT, .inl (cJ, 64, .inr (.inl tM))), (mF, .inl (cI, 60, .inl fF)), (mO, .inl (cI, 60, .inl tF)), (mV, .inl (cJ, 60, .inr (.inl vM)))] (some (.int r)) w1 0 0 := by
  refine pj_of (by decide) rfl (Nat.le_of_ble_eq_true rfl) ?_
  intro p e s m below meth c A ls hx hb hml hr hts hown hlocks hin hA hK hP hD hS hG hl
  have hl : lv_has ls 4 [(0, .ref oM), (1, .int y), (2, .long v)] := hl
  refine lv_aload_n hx hb dM_add_0 rfl (lv_at hl 0 rfl) ?_
  refine lv_aload_n hx hb dM_add_1 rfl (lv_at hl 0 rfl) ?_
  refine lv_iload_n hx hb dM_add_2 rfl (lv_at hl 1 rfl) ?_
  refine pp_callV (rest := [.ref oM]) (st1 := [.int 1, .ref oM]) ⟨hx, hb, hml, hown, hts⟩ (m_isa_t l D cI cJ cZ oM mA mC mT mF mO mV n J us gp si fM tM vM cM fF tF kd wr sn lf gr hn hJ hus y h1) (cwV 1 hts (pj_gV m_484 m_486 m_11 m_24 m_487) rfl rfl rfl (by decide +kernel) ⟨Nat.le_of_ble_eq_true rfl, Nat.le_of_ble_eq_true rfl⟩) pj_no_ok trivial hK hP hD hS hA (ci := 4) (q0 := 0) rfl rfl [0, 1, 2, 3, 4, 5, 6] rfl rfl rfl hl.1 rfl (Nat.le_of_ble_eq_true rfl) dM_add_3 ⟨Nat.le_of_ble_eq_true rfl, Nat.le_of_ble_eq_true rfl⟩ rfl ?_
  refine lv_if_eq (tgt := 29) hx hb dM_add_6 (by decide) (fun h9 => absurd h9 (by decide)) (fun _ => ?_)
  refine lv_lload_n hx hb dM_add_9 rfl (lv_at hl 2 rfl) ?_
  refine lv_ldc2 (v := (-1000000000000)) hx hb hown (hts _ (pj_up m_488)) dM_add_10 ?_
  refine W.lcmp hx hb dM_add_13 ?_
  refine lv_if_lt (tgt := 29) hx hb dM_add_14 (by decide) (fun h9 => absurd h9 (fun z => h2.1 ((lg_cmp_lt _ _).mp z))) (fun _ => ?_)
  refine lv_lload_n hx hb dM_add_17 rfl (lv_at hl 2 rfl) ?_
  refine lv_ldc2 (v := 1000000000000) hx hb hown (hts _ (pj_up m_489)) dM_add_18 ?_
  refine W.lcmp hx hb dM_add_21 ?_
  refine lv_if_gt (tgt := 29) hx hb dM_add_22 (by decide) (fun h9 => absurd h9 (fun z => h2.2 ((lg_cmp_gt _ _).mp z))) (fun _ => ?_)
  refine lv_iconst (v := 1) hx hb dM_add_25 (by decide) ?_
  refine lv_goto (tgt := 30) hx hb dM_add_26 (by decide) ?_
  refine lv_aload_n hx hb dM_add_30 rfl (lv_at hl 0 rfl) ?_
  refine va_get (D := D) (ci := 4) (v := .int (pjd lf)) (C := "ReplayJournalModel") (T := TM) (N := 17) hx hb hts (pj_ups inM) hown hK hP 0 rfl rfl 16 (by decide) (hts _ (pj_up m_440)) (fun _ h9 => h9) rfl dM_add_31 ?_
  refine lv_if_ne (tgt := 41) hx hb dM_add_34 (by decide) (fun h9 => absurd h9 (fun z => z (pjd_0 h3))) (fun _ => ?_)
  refine lv_iconst (v := 1) hx hb dM_add_37 (by decide) ?_
  refine lv_goto (tgt := 42) hx hb dM_add_38 (by decide) ?_
  refine pj_callV (w2 := [(oM, .inr (4, [.int 0, .int (nI n), .int (nI J), .ref mA, .ref mC, .ref mT, .int (nI us), .int wr, .int sn, .int (nI si), .int gr, .int (nI gp), .ref mF, .ref mO, .ref mV, .int lf, .int (pjd lf)])), (mA, .inl (cJ, 64, .inr (.inl fM))), (mC, .inl (cI, 64, .inl cM)), (mT, .inl (cJ, 64, .inr (.inl tM))), (mF, .inl (cI, 60, .inl fF)), (mO, .inl (cI, 60, .inl tF)), (mV, .inl (cJ, 60, .inr (.inl vM)))]) (wr := []) (rest := []) (st1 := [.int 1]) ⟨hx, hb, hml, hown, hts⟩ (m_goes_0 l D cI cJ cZ oM mA mC mT mF mO mV n J us gp si fM tM vM cM fF tF kd wr sn lf gr hn hJ hus) (cwV 2 hts (pj_gV m_490 m_492 m_12 m_24 m_493) rfl rfl rfl (by decide +kernel) ⟨Nat.le_of_ble_eq_true rfl, Nat.le_of_ble_eq_true rfl⟩) pj_no_ok trivial hK hP hD hS hA (ci := 4) (q0 := 0) rfl rfl [0, 1, 2, 3, 4, 5, 6] [] [0, 1, 2, 3, 4, 5, 6] rfl rfl rfl rfl (by decide) rfl rfl rfl hl.1 rfl (Nat.le_of_ble_eq_true rfl) dM_add_42 ⟨Nat.le_of_ble_eq_true rfl, Nat.le_of_ble_eq_true rfl⟩ rfl rfl rfl (fun H locs hP hD hS => ?_)
  refine lv_if_eq (tgt := 58) hx hb dM_add_45 (by decide) (fun h9 => absurd h9 (by decide)) (fun _ => ?_)
  refine lv_aload_n hx hb dM_add_48 rfl (lv_at hl 0 rfl) ?_
  refine lv_iconst (v := -1) hx hb dM_add_49 (by decide) ?_
  refine lv_iload_n hx hb dM_add_50 rfl (lv_at hl 1 rfl) ?_
  refine lv_lload_n hx hb dM_add_51 rfl (lv_at hl 2 rfl) ?_
  refine pj_callVw (rest := []) (st1 := [.int r]) ⟨hx, hb, hml, hown, hts⟩ hM (cwV 3 hts (pj_gV m_494 m_496 m_13 m_24 m_497) rfl rfl rfl (by decide +kernel) ⟨Nat.le_of_ble_eq_true rfl, Nat.le_of_ble_eq_true rfl⟩) pj_no_ok trivial hK hP hD hS hA (ci := 4) (q0 := 0) rfl rfl rfl hl.1 rfl (Nat.le_of_ble_eq_true rfl) dM_add_52 ⟨Nat.le_of_ble_eq_true rfl, Nat.le_of_ble_eq_true rfl⟩ rfl rfl rfl (fun H locs hP hD hS => ?_)
  refine lv_goto (tgt := 59) hx hb dM_add_55 (by decide) ?_
  exact pj_iret hx hb hr hlocks hP hD hS (rfl) (rfl) dM_add_59
set_option maxHeartbeats 4000000 in
set_option maxRecDepth 100000 in
theorem m_move_1 (l : Launch) (D : va_G) (cI cJ cZ : ClassId) (oM mA mC mT mF mO mV n J us gp si : Nat) (fM tM vM : Nat → Int64) (cM fF tF : Nat → Int32) (kd wr sn lf gr : Int32) (hn : n ≤ 64) (hJ : J ≤ 60) (hus : us ≤ J) (x y : Int32) (v : Int64) (h : ¬ pjH n x ∨ ¬ pjH n y ∨ (v < 0 ∨ (1000000000000 : Int64) < v) ∨ x = y) : pj_Met l yM_move wsM_move ({ frames := 2, cells := 0, slots := 0, locals := 48 }) D vwCl (pjT cI cJ cZ) pj_no [.ref oM, .int x, .int y, .long v] [(oM, .inr (4, [.int kd, .int (nI n), .int (nI J), .ref mA, .ref mC, .ref mT, .int (nI us), .int wr, .int sn, .int (nI si), .int gr, .int (nI gp), .ref mF, .ref mO, .ref mV, .int lf, .int (pjd lf)])), (mA, .inl (cJ, 64, .inr (.inl fM))), (mC, .inl (cI, 64, .inl cM)), (mT, .inl (cJ, 64, .inr (.inl tM))), (mF, .inl (cI, 60, .inl fF)), (mO, .inl (cI, 60, .inl tF)), (mV, .inl (cJ, 60, .inr (.inl vM)))] (some (.int 0)) [(oM, .inr (4, [.int 1, .int (nI n), .int (nI J), .ref mA, .ref mC, .ref mT, .int (nI us), .int wr, .int sn, .int (nI si), .int gr, .int (nI gp), .ref mF, .ref mO, .ref mV, .int lf, .int (pjd lf)])), (mA, .inl (cJ, 64, .inr (.inl fM))), (mC, .inl (cI, 64, .inl cM)), (mT, .inl (cJ, 64, .inr (.inl tM))), (mF, .inl (cI, 60, .inl fF)), (mO, .inl (cI, 60, .inl tF)), (mV, .inl (cJ, 60, .inr (.inl vM)))] 0 0 := by
  refine pj_of (by decide) rfl (Nat.le_of_ble_eq_true rfl) ?_
  intro p e s m below meth c A ls hx hb hml hr hts hown hlocks hin hA hK hP hD hS hG hl
  have hl : lv_has ls 5 [(0, .ref oM), (1, .int x), (2, .int y), (3, .long v)] := hl
  refine lv_aload_n hx hb dM_move_0 rfl (lv_at hl 0 rfl) ?_
  refine lv_aload_n hx hb dM_move_1 rfl (lv_at hl 0 rfl) ?_
  refine lv_iload_n hx hb dM_move_2 rfl (lv_at hl 1 rfl) ?_
  by_cases h1 : pjH n x
  · refine pp_callV (rest := [.ref oM]) (st1 := [.int 1, .ref oM]) ⟨hx, hb, hml, hown, hts⟩ (m_isa_t l D cI cJ cZ oM mA mC mT mF mO mV n J us gp si fM tM vM cM fF tF kd wr sn lf gr hn hJ hus x h1) (cwV 1 hts (pj_gV m_484 m_486 m_11 m_24 m_487) rfl rfl rfl (by decide +kernel) ⟨Nat.le_of_ble_eq_true rfl, Nat.le_of_ble_eq_true rfl⟩) pj_no_ok trivial hK hP hD hS hA (ci := 4) (q0 := 0) rfl rfl [0, 1, 2, 3, 4, 5, 6] rfl rfl rfl hl.1 rfl (Nat.le_of_ble_eq_true rfl) dM_move_3 ⟨Nat.le_of_ble_eq_true rfl, Nat.le_of_ble_eq_true rfl⟩ rfl ?_
    refine lv_if_eq (tgt := 40) hx hb dM_move_6 (by decide) (fun h9 => absurd h9 (by decide)) (fun _ => ?_)
    refine lv_aload_n hx hb dM_move_9 rfl (lv_at hl 0 rfl) ?_
    refine lv_iload_n hx hb dM_move_10 rfl (lv_at hl 2 rfl) ?_
    by_cases h2 : pjH n y
    · refine pp_callV (rest := [.ref oM]) (st1 := [.int 1, .ref oM]) ⟨hx, hb, hml, hown, hts⟩ (m_isa_t l D cI cJ cZ oM mA mC mT mF mO mV n J us gp si fM tM vM cM fF tF kd wr sn lf gr hn hJ hus y h2) (cwV 1 hts (pj_gV m_484 m_486 m_11 m_24 m_487) rfl rfl rfl (by decide +kernel) ⟨Nat.le_of_ble_eq_true rfl, Nat.le_of_ble_eq_true rfl⟩) pj_no_ok trivial hK hP hD hS hA (ci := 4) (q0 := 0) rfl rfl [0, 1, 2, 3, 4, 5, 6] rfl rfl rfl hl.1 rfl (Nat.le_of_ble_eq_true rfl) dM_move_11 ⟨Nat.le_of_ble_eq_true rfl, Nat.le_of_ble_eq_true rfl⟩ rfl ?_
      refine lv_if_eq (tgt := 40) hx hb dM_move_14 (by decide) (fun h9 => absurd h9 (by decide)) (fun _ => ?_)
      refine lv_iload_n hx hb dM_move_17 rfl (lv_at hl 1 rfl) ?_
      refine lv_iload_n hx hb dM_move_18 rfl (lv_at hl 2 rfl) ?_
      refine lv_icmp_eq (tgt := 40) hx hb dM_move_19 (by decide) (fun c1 => ?_) (fun c1 => ?_)
      · refine lv_iconst (v := 0) hx hb dM_move_40 (by decide) ?_
        refine lv_aload_n hx hb dM_move_41 rfl (lv_at hl 0 rfl) ?_
        refine va_get (D := D) (ci := 4) (v := .int (pjd lf)) (C := "ReplayJournalModel") (T := TM) (N := 17) hx hb hts (pj_ups inM) hown hK hP 0 rfl rfl 16 (by decide) (hts _ (pj_up m_440)) (fun _ h9 => h9) rfl dM_move_42 ?_
        refine lv_if_ne (tgt := 52) hx hb dM_move_45 (by decide) (fun c9 => ?_) (fun c9 => ?_)
        · refine lv_iconst (v := 0) hx hb dM_move_52 (by decide) ?_
          refine pj_callV (w2 := [(oM, .inr (4, [.int 1, .int (nI n), .int (nI J), .ref mA, .ref mC, .ref mT, .int (nI us), .int wr, .int sn, .int (nI si), .int gr, .int (nI gp), .ref mF, .ref mO, .ref mV, .int lf, .int (pjd lf)])), (mA, .inl (cJ, 64, .inr (.inl fM))), (mC, .inl (cI, 64, .inl cM)), (mT, .inl (cJ, 64, .inr (.inl tM))), (mF, .inl (cI, 60, .inl fF)), (mO, .inl (cI, 60, .inl tF)), (mV, .inl (cJ, 60, .inr (.inl vM)))]) (wr := []) (rest := []) (st1 := [.int 0]) ⟨hx, hb, hml, hown, hts⟩ (m_goes_1 l D cI cJ cZ oM mA mC mT mF mO mV n J us gp si fM tM vM cM fF tF kd wr sn lf gr hn hJ hus 0) (cwV 2 hts (pj_gV m_490 m_492 m_12 m_24 m_493) rfl rfl rfl (by decide +kernel) ⟨Nat.le_of_ble_eq_true rfl, Nat.le_of_ble_eq_true rfl⟩) pj_no_ok trivial hK hP hD hS hA (ci := 4) (q0 := 0) rfl rfl [0, 1, 2, 3, 4, 5, 6] [] [0, 1, 2, 3, 4, 5, 6] rfl rfl rfl rfl (by decide) rfl rfl rfl hl.1 rfl (Nat.le_of_ble_eq_true rfl) dM_move_53 ⟨Nat.le_of_ble_eq_true rfl, Nat.le_of_ble_eq_true rfl⟩ rfl rfl rfl (fun H locs hP hD hS => ?_)
          refine lv_if_eq (tgt := 69) hx hb dM_move_56 (by decide) (fun _ => ?_) (fun h9 => (h9 rfl).elim)
          refine lv_iconst (v := 0) hx hb dM_move_69 (by decide) ?_
          exact pj_iret hx hb hr hlocks hP hD hS (rfl) (rfl) dM_move_70
        · refine lv_iconst (v := 1) hx hb dM_move_48 (by decide) ?_
          refine lv_goto (tgt := 53) hx hb dM_move_49 (by decide) ?_
          refine pj_callV (w2 := [(oM, .inr (4, [.int 1, .int (nI n), .int (nI J), .ref mA, .ref mC, .ref mT, .int (nI us), .int wr, .int sn, .int (nI si), .int gr, .int (nI gp), .ref mF, .ref mO, .ref mV, .int lf, .int (pjd lf)])), (mA, .inl (cJ, 64, .inr (.inl fM))), (mC, .inl (cI, 64, .inl cM)), (mT, .inl (cJ, 64, .inr (.inl tM))), (mF, .inl (cI, 60, .inl fF)), (mO, .inl (cI, 60, .inl tF)), (mV, .inl (cJ, 60, .inr (.inl vM)))]) (wr := []) (rest := []) (st1 := [.int 0]) ⟨hx, hb, hml, hown, hts⟩ (m_goes_1 l D cI cJ cZ oM mA mC mT mF mO mV n J us gp si fM tM vM cM fF tF kd wr sn lf gr hn hJ hus 1) (cwV 2 hts (pj_gV m_490 m_492 m_12 m_24 m_493) rfl rfl rfl (by decide +kernel) ⟨Nat.le_of_ble_eq_true rfl, Nat.le_of_ble_eq_true rfl⟩) pj_no_ok trivial hK hP hD hS hA (ci := 4) (q0 := 0) rfl rfl [0, 1, 2, 3, 4, 5, 6] [] [0, 1, 2, 3, 4, 5, 6] rfl rfl rfl rfl (by decide) rfl rfl rfl hl.1 rfl (Nat.le_of_ble_eq_true rfl) dM_move_53 ⟨Nat.le_of_ble_eq_true rfl, Nat.le_of_ble_eq_true rfl⟩ rfl rfl rfl (fun H locs hP hD hS => ?_)
          refine lv_if_eq (tgt := 69) hx hb dM_move_56 (by decide) (fun _ => ?_) (fun h9 => (h9 rfl).elim)
          refine lv_iconst (v := 0) hx hb dM_move_69 (by decide) ?_
          exact pj_iret hx hb hr hlocks hP hD hS (rfl) (rfl) dM_move_70
      · refine lv_lload_n hx hb dM_move_22 rfl (lv_at hl 3 rfl) ?_
        refine lv_lconst (v := 0) hx hb dM_move_23 (by decide) ?_
        refine W.lcmp hx hb dM_move_24 ?_
        refine lv_if_lt (tgt := 40) hx hb dM_move_25 (by decide) (fun c2 => ?_) (fun c2 => ?_)
        · refine lv_iconst (v := 0) hx hb dM_move_40 (by decide) ?_
          refine lv_aload_n hx hb dM_move_41 rfl (lv_at hl 0 rfl) ?_
          refine va_get (D := D) (ci := 4) (v := .int (pjd lf)) (C := "ReplayJournalModel") (T := TM) (N := 17) hx hb hts (pj_ups inM) hown hK hP 0 rfl rfl 16 (by decide) (hts _ (pj_up m_440)) (fun _ h9 => h9) rfl dM_move_42 ?_
          refine lv_if_ne (tgt := 52) hx hb dM_move_45 (by decide) (fun c9 => ?_) (fun c9 => ?_)
          · refine lv_iconst (v := 0) hx hb dM_move_52 (by decide) ?_
            refine pj_callV (w2 := [(oM, .inr (4, [.int 1, .int (nI n), .int (nI J), .ref mA, .ref mC, .ref mT, .int (nI us), .int wr, .int sn, .int (nI si), .int gr, .int (nI gp), .ref mF, .ref mO, .ref mV, .int lf, .int (pjd lf)])), (mA, .inl (cJ, 64, .inr (.inl fM))), (mC, .inl (cI, 64, .inl cM)), (mT, .inl (cJ, 64, .inr (.inl tM))), (mF, .inl (cI, 60, .inl fF)), (mO, .inl (cI, 60, .inl tF)), (mV, .inl (cJ, 60, .inr (.inl vM)))]) (wr := []) (rest := []) (st1 := [.int 0]) ⟨hx, hb, hml, hown, hts⟩ (m_goes_1 l D cI cJ cZ oM mA mC mT mF mO mV n J us gp si fM tM vM cM fF tF kd wr sn lf gr hn hJ hus 0) (cwV 2 hts (pj_gV m_490 m_492 m_12 m_24 m_493) rfl rfl rfl (by decide +kernel) ⟨Nat.le_of_ble_eq_true rfl, Nat.le_of_ble_eq_true rfl⟩) pj_no_ok trivial hK hP hD hS hA (ci := 4) (q0 := 0) rfl rfl [0, 1, 2, 3, 4, 5, 6] [] [0, 1, 2, 3, 4, 5, 6] rfl rfl rfl rfl (by decide) rfl rfl rfl hl.1 rfl (Nat.le_of_ble_eq_true rfl) dM_move_53 ⟨Nat.le_of_ble_eq_true rfl, Nat.le_of_ble_eq_true rfl⟩ rfl rfl rfl (fun H locs hP hD hS => ?_)
            refine lv_if_eq (tgt := 69) hx hb dM_move_56 (by decide) (fun _ => ?_) (fun h9 => (h9 rfl).elim)
            refine lv_iconst (v := 0) hx hb dM_move_69 (by decide) ?_
            exact pj_iret hx hb hr hlocks hP hD hS (rfl) (rfl) dM_move_70
          · refine lv_iconst (v := 1) hx hb dM_move_48 (by decide) ?_
            refine lv_goto (tgt := 53) hx hb dM_move_49 (by decide) ?_
            refine pj_callV (w2 := [(oM, .inr (4, [.int 1, .int (nI n), .int (nI J), .ref mA, .ref mC, .ref mT, .int (nI us), .int wr, .int sn, .int (nI si), .int gr, .int (nI gp), .ref mF, .ref mO, .ref mV, .int lf, .int (pjd lf)])), (mA, .inl (cJ, 64, .inr (.inl fM))), (mC, .inl (cI, 64, .inl cM)), (mT, .inl (cJ, 64, .inr (.inl tM))), (mF, .inl (cI, 60, .inl fF)), (mO, .inl (cI, 60, .inl tF)), (mV, .inl (cJ, 60, .inr (.inl vM)))]) (wr := []) (rest := []) (st1 := [.int 0]) ⟨hx, hb, hml, hown, hts⟩ (m_goes_1 l D cI cJ cZ oM mA mC mT mF mO mV n J us gp si fM tM vM cM fF tF kd wr sn lf gr hn hJ hus 1) (cwV 2 hts (pj_gV m_490 m_492 m_12 m_24 m_493) rfl rfl rfl (by decide +kernel) ⟨Nat.le_of_ble_eq_true rfl, Nat.le_of_ble_eq_true rfl⟩) pj_no_ok trivial hK hP hD hS hA (ci := 4) (q0 := 0) rfl rfl [0, 1, 2, 3, 4, 5, 6] [] [0, 1, 2, 3, 4, 5, 6] rfl rfl rfl rfl (by decide) rfl rfl rfl hl.1 rfl (Nat.le_of_ble_eq_true rfl) dM_move_53 ⟨Nat.le_of_ble_eq_true rfl, Nat.le_of_ble_eq_true rfl⟩ rfl rfl rfl (fun H locs hP hD hS => ?_)
            refine lv_if_eq (tgt := 69) hx hb dM_move_56 (by decide) (fun _ => ?_) (fun h9 => (h9 rfl).elim)
            refine lv_iconst (v := 0) hx hb dM_move_69 (by decide) ?_
            exact pj_iret hx hb hr hlocks hP hD hS (rfl) (rfl) dM_move_70
        · refine lv_lload_n hx hb dM_move_28 rfl (lv_at hl 3 rfl) ?_
          refine lv_ldc2 (v := 1000000000000) hx hb hown (hts _ (pj_up m_489)) dM_move_29 ?_
          refine W.lcmp hx hb dM_move_32 ?_
          refine lv_if_gt (tgt := 40) hx hb dM_move_33 (by decide) (fun _ => ?_) (fun h9 => (h9 ((lg_cmp_gt _ _).mpr ((((h.resolve_left (fun q => q h1)).resolve_left (fun q => q h2)).resolve_right c1).resolve_left (fun q => c2 ((lg_cmp_lt _ _).mpr q))))).elim)
          refine lv_iconst (v := 0) hx hb dM_move_40 (by decide) ?_
          refine lv_aload_n hx hb dM_move_41 rfl (lv_at hl 0 rfl) ?_
          refine va_get (D := D) (ci := 4) (v := .int (pjd lf)) (C := "ReplayJournalModel") (T := TM) (N := 17) hx hb hts (pj_ups inM) hown hK hP 0 rfl rfl 16 (by decide) (hts _ (pj_up m_440)) (fun _ h9 => h9) rfl dM_move_42 ?_
          refine lv_if_ne (tgt := 52) hx hb dM_move_45 (by decide) (fun c9 => ?_) (fun c9 => ?_)
          · refine lv_iconst (v := 0) hx hb dM_move_52 (by decide) ?_
            refine pj_callV (w2 := [(oM, .inr (4, [.int 1, .int (nI n), .int (nI J), .ref mA, .ref mC, .ref mT, .int (nI us), .int wr, .int sn, .int (nI si), .int gr, .int (nI gp), .ref mF, .ref mO, .ref mV, .int lf, .int (pjd lf)])), (mA, .inl (cJ, 64, .inr (.inl fM))), (mC, .inl (cI, 64, .inl cM)), (mT, .inl (cJ, 64, .inr (.inl tM))), (mF, .inl (cI, 60, .inl fF)), (mO, .inl (cI, 60, .inl tF)), (mV, .inl (cJ, 60, .inr (.inl vM)))]) (wr := []) (rest := []) (st1 := [.int 0]) ⟨hx, hb, hml, hown, hts⟩ (m_goes_1 l D cI cJ cZ oM mA mC mT mF mO mV n J us gp si fM tM vM cM fF tF kd wr sn lf gr hn hJ hus 0) (cwV 2 hts (pj_gV m_490 m_492 m_12 m_24 m_493) rfl rfl rfl (by decide +kernel) ⟨Nat.le_of_ble_eq_true rfl, Nat.le_of_ble_eq_true rfl⟩) pj_no_ok trivial hK hP hD hS hA (ci := 4) (q0 := 0) rfl rfl [0, 1, 2, 3, 4, 5, 6] [] [0, 1, 2, 3, 4, 5, 6] rfl rfl rfl rfl (by decide) rfl rfl rfl hl.1 rfl (Nat.le_of_ble_eq_true rfl) dM_move_53 ⟨Nat.le_of_ble_eq_true rfl, Nat.le_of_ble_eq_true rfl⟩ rfl rfl rfl (fun H locs hP hD hS => ?_)
            refine lv_if_eq (tgt := 69) hx hb dM_move_56 (by decide) (fun _ => ?_) (fun h9 => (h9 rfl).elim)
            refine lv_iconst (v := 0) hx hb dM_move_69 (by decide) ?_
            exact pj_iret hx hb hr hlocks hP hD hS (rfl) (rfl) dM_move_70
          · refine lv_iconst (v := 1) hx hb dM_move_48 (by decide) ?_
            refine lv_goto (tgt := 53) hx hb dM_move_49 (by decide) ?_
            refine pj_callV (w2 := [(oM, .inr (4, [.int 1, .int (nI n), .int (nI J), .ref mA, .ref mC, .ref mT, .int (nI us), .int wr, .int sn, .int (nI si), .int gr, .int (nI gp), .ref mF, .ref mO, .ref mV, .int lf, .int (pjd lf)])), (mA, .inl (cJ, 64, .inr (.inl fM))), (mC, .inl (cI, 64, .inl cM)), (mT, .inl (cJ, 64, .inr (.inl tM))), (mF, .inl (cI, 60, .inl fF)), (mO, .inl (cI, 60, .inl tF)), (mV, .inl (cJ, 60, .inr (.inl vM)))]) (wr := []) (rest := []) (st1 := [.int 0]) ⟨hx, hb, hml, hown, hts⟩ (m_goes_1 l D cI cJ cZ oM mA mC mT mF mO mV n J us gp si fM tM vM cM fF tF kd wr sn lf gr hn hJ hus 1) (cwV 2 hts (pj_gV m_490 m_492 m_12 m_24 m_493) rfl rfl rfl (by decide +kernel) ⟨Nat.le_of_ble_eq_true rfl, Nat.le_of_ble_eq_true rfl⟩) pj_no_ok trivial hK hP hD hS hA (ci := 4) (q0 := 0) rfl rfl [0, 1, 2, 3, 4, 5, 6] [] [0, 1, 2, 3, 4, 5, 6] rfl rfl rfl rfl (by decide) rfl rfl rfl hl.1 rfl (Nat.le_of_ble_eq_true rfl) dM_move_53 ⟨Nat.le_of_ble_eq_true rfl, Nat.le_of_ble_eq_true rfl⟩ rfl rfl rfl (fun H locs hP hD hS => ?_)
            refine lv_if_eq (tgt := 69) hx hb dM_move_56 (by decide) (fun _ => ?_) (fun h9 => (h9 rfl).elim)
            refine lv_iconst (v := 0) hx hb dM_move_69 (by decide) ?_
            exact pj_iret hx hb hr hlocks hP hD hS (rfl) (rfl) dM_move_70
    · refine pp_callV (rest := [.ref oM]) (st1 := [.int 0, .ref oM]) ⟨hx, hb, hml, hown, hts⟩ (m_isa_f l D cI cJ cZ oM mA mC mT mF mO mV n J us gp si fM tM vM cM fF tF kd wr sn lf gr hn hJ hus y h2) (cwV 1 hts (pj_gV m_484 m_486 m_11 m_24 m_487) rfl rfl rfl (by decide +kernel) ⟨Nat.le_of_ble_eq_true rfl, Nat.le_of_ble_eq_true rfl⟩) pj_no_ok trivial hK hP hD hS hA (ci := 4) (q0 := 0) rfl rfl [0, 1, 2, 3, 4, 5, 6] rfl rfl rfl hl.1 rfl (Nat.le_of_ble_eq_true rfl) dM_move_11 ⟨Nat.le_of_ble_eq_true rfl, Nat.le_of_ble_eq_true rfl⟩ rfl ?_
      refine lv_if_eq (tgt := 40) hx hb dM_move_14 (by decide) (fun _ => ?_) (fun h9 => (h9 rfl).elim)
      refine lv_iconst (v := 0) hx hb dM_move_40 (by decide) ?_
      refine lv_aload_n hx hb dM_move_41 rfl (lv_at hl 0 rfl) ?_
      refine va_get (D := D) (ci := 4) (v := .int (pjd lf)) (C := "ReplayJournalModel") (T := TM) (N := 17) hx hb hts (pj_ups inM) hown hK hP 0 rfl rfl 16 (by decide) (hts _ (pj_up m_440)) (fun _ h9 => h9) rfl dM_move_42 ?_
      refine lv_if_ne (tgt := 52) hx hb dM_move_45 (by decide) (fun c9 => ?_) (fun c9 => ?_)
      · refine lv_iconst (v := 0) hx hb dM_move_52 (by decide) ?_
        refine pj_callV (w2 := [(oM, .inr (4, [.int 1, .int (nI n), .int (nI J), .ref mA, .ref mC, .ref mT, .int (nI us), .int wr, .int sn, .int (nI si), .int gr, .int (nI gp), .ref mF, .ref mO, .ref mV, .int lf, .int (pjd lf)])), (mA, .inl (cJ, 64, .inr (.inl fM))), (mC, .inl (cI, 64, .inl cM)), (mT, .inl (cJ, 64, .inr (.inl tM))), (mF, .inl (cI, 60, .inl fF)), (mO, .inl (cI, 60, .inl tF)), (mV, .inl (cJ, 60, .inr (.inl vM)))]) (wr := []) (rest := []) (st1 := [.int 0]) ⟨hx, hb, hml, hown, hts⟩ (m_goes_1 l D cI cJ cZ oM mA mC mT mF mO mV n J us gp si fM tM vM cM fF tF kd wr sn lf gr hn hJ hus 0) (cwV 2 hts (pj_gV m_490 m_492 m_12 m_24 m_493) rfl rfl rfl (by decide +kernel) ⟨Nat.le_of_ble_eq_true rfl, Nat.le_of_ble_eq_true rfl⟩) pj_no_ok trivial hK hP hD hS hA (ci := 4) (q0 := 0) rfl rfl [0, 1, 2, 3, 4, 5, 6] [] [0, 1, 2, 3, 4, 5, 6] rfl rfl rfl rfl (by decide) rfl rfl rfl hl.1 rfl (Nat.le_of_ble_eq_true rfl) dM_move_53 ⟨Nat.le_of_ble_eq_true rfl, Nat.le_of_ble_eq_true rfl⟩ rfl rfl rfl (fun H locs hP hD hS => ?_)
        refine lv_if_eq (tgt := 69) hx hb dM_move_56 (by decide) (fun _ => ?_) (fun h9 => (h9 rfl).elim)
        refine lv_iconst (v := 0) hx hb dM_move_69 (by decide) ?_
        exact pj_iret hx hb hr hlocks hP hD hS (rfl) (rfl) dM_move_70
      · refine lv_iconst (v := 1) hx hb dM_move_48 (by decide) ?_
        refine lv_goto (tgt := 53) hx hb dM_move_49 (by decide) ?_
        refine pj_callV (w2 := [(oM, .inr (4, [.int 1, .int (nI n), .int (nI J), .ref mA, .ref mC, .ref mT, .int (nI us), .int wr, .int sn, .int (nI si), .int gr, .int (nI gp), .ref mF, .ref mO, .ref mV, .int lf, .int (pjd lf)])), (mA, .inl (cJ, 64, .inr (.inl fM))), (mC, .inl (cI, 64, .inl cM)), (mT, .inl (cJ, 64, .inr (.inl tM))), (mF, .inl (cI, 60, .inl fF)), (mO, .inl (cI, 60, .inl tF)), (mV, .inl (cJ, 60, .inr (.inl vM)))]) (wr := []) (rest := []) (st1 := [.int 0]) ⟨hx, hb, hml, hown, hts⟩ (m_goes_1 l D cI cJ cZ oM mA mC mT mF mO mV n J us gp si fM tM vM cM fF tF kd wr sn lf gr hn hJ hus 1) (cwV 2 hts (pj_gV m_490 m_492 m_12 m_24 m_493) rfl rfl rfl (by decide +kernel) ⟨Nat.le_of_ble_eq_true rfl, Nat.le_of_ble_eq_true rfl⟩) pj_no_ok trivial hK hP hD hS hA (ci := 4) (q0 := 0) rfl rfl [0, 1, 2, 3, 4, 5, 6] [] [0, 1, 2, 3, 4, 5, 6] rfl rfl rfl rfl (by decide) rfl rfl rfl hl.1 rfl (Nat.le_of_ble_eq_true rfl) dM_move_53 ⟨Nat.le_of_ble_eq_true rfl, Nat.le_of_ble_eq_true rfl⟩ rfl rfl rfl (fun H locs hP hD hS => ?_)
        refine lv_if_eq (tgt := 69) hx hb dM_move_56 (by decide) (fun _ => ?_) (fun h9 => (h9 rfl).elim)
        refine lv_iconst (v := 0) hx hb dM_move_69 (by decide) ?_
        exact pj_iret hx hb hr hlocks hP hD hS (rfl) (rfl) dM_move_70
  · refine pp_callV (rest := [.ref oM]) (st1 := [.int 0, .ref oM]) ⟨hx, hb, hml, hown, hts⟩ (m_isa_f l D cI cJ cZ oM mA mC mT mF mO mV n J us gp si fM tM vM cM fF tF kd wr sn lf gr hn hJ hus x h1) (cwV 1 hts (pj_gV m_484 m_486 m_11 m_24 m_487) rfl rfl rfl (by decide +kernel) ⟨Nat.le_of_ble_eq_true rfl, Nat.le_of_ble_eq_true rfl⟩) pj_no_ok trivial hK hP hD hS hA (ci := 4) (q0 := 0) rfl rfl [0, 1, 2, 3, 4, 5, 6] rfl rfl rfl hl.1 rfl (Nat.le_of_ble_eq_true rfl) dM_move_3 ⟨Nat.le_of_ble_eq_true rfl, Nat.le_of_ble_eq_true rfl⟩ rfl ?_
    refine lv_if_eq (tgt := 40) hx hb dM_move_6 (by decide) (fun _ => ?_) (fun h9 => (h9 rfl).elim)
    refine lv_iconst (v := 0) hx hb dM_move_40 (by decide) ?_
    refine lv_aload_n hx hb dM_move_41 rfl (lv_at hl 0 rfl) ?_
    refine va_get (D := D) (ci := 4) (v := .int (pjd lf)) (C := "ReplayJournalModel") (T := TM) (N := 17) hx hb hts (pj_ups inM) hown hK hP 0 rfl rfl 16 (by decide) (hts _ (pj_up m_440)) (fun _ h9 => h9) rfl dM_move_42 ?_
    refine lv_if_ne (tgt := 52) hx hb dM_move_45 (by decide) (fun c9 => ?_) (fun c9 => ?_)
    · refine lv_iconst (v := 0) hx hb dM_move_52 (by decide) ?_
      refine pj_callV (w2 := [(oM, .inr (4, [.int 1, .int (nI n), .int (nI J), .ref mA, .ref mC, .ref mT, .int (nI us), .int wr, .int sn, .int (nI si), .int gr, .int (nI gp), .ref mF, .ref mO, .ref mV, .int lf, .int (pjd lf)])), (mA, .inl (cJ, 64, .inr (.inl fM))), (mC, .inl (cI, 64, .inl cM)), (mT, .inl (cJ, 64, .inr (.inl tM))), (mF, .inl (cI, 60, .inl fF)), (mO, .inl (cI, 60, .inl tF)), (mV, .inl (cJ, 60, .inr (.inl vM)))]) (wr := []) (rest := []) (st1 := [.int 0]) ⟨hx, hb, hml, hown, hts⟩ (m_goes_1 l D cI cJ cZ oM mA mC mT mF mO mV n J us gp si fM tM vM cM fF tF kd wr sn lf gr hn hJ hus 0) (cwV 2 hts (pj_gV m_490 m_492 m_12 m_24 m_493) rfl rfl rfl (by decide +kernel) ⟨Nat.le_of_ble_eq_true rfl, Nat.le_of_ble_eq_true rfl⟩) pj_no_ok trivial hK hP hD hS hA (ci := 4) (q0 := 0) rfl rfl [0, 1, 2, 3, 4, 5, 6] [] [0, 1, 2, 3, 4, 5, 6] rfl rfl rfl rfl (by decide) rfl rfl rfl hl.1 rfl (Nat.le_of_ble_eq_true rfl) dM_move_53 ⟨Nat.le_of_ble_eq_true rfl, Nat.le_of_ble_eq_true rfl⟩ rfl rfl rfl (fun H locs hP hD hS => ?_)
      refine lv_if_eq (tgt := 69) hx hb dM_move_56 (by decide) (fun _ => ?_) (fun h9 => (h9 rfl).elim)
      refine lv_iconst (v := 0) hx hb dM_move_69 (by decide) ?_
      exact pj_iret hx hb hr hlocks hP hD hS (rfl) (rfl) dM_move_70
    · refine lv_iconst (v := 1) hx hb dM_move_48 (by decide) ?_
      refine lv_goto (tgt := 53) hx hb dM_move_49 (by decide) ?_
      refine pj_callV (w2 := [(oM, .inr (4, [.int 1, .int (nI n), .int (nI J), .ref mA, .ref mC, .ref mT, .int (nI us), .int wr, .int sn, .int (nI si), .int gr, .int (nI gp), .ref mF, .ref mO, .ref mV, .int lf, .int (pjd lf)])), (mA, .inl (cJ, 64, .inr (.inl fM))), (mC, .inl (cI, 64, .inl cM)), (mT, .inl (cJ, 64, .inr (.inl tM))), (mF, .inl (cI, 60, .inl fF)), (mO, .inl (cI, 60, .inl tF)), (mV, .inl (cJ, 60, .inr (.inl vM)))]) (wr := []) (rest := []) (st1 := [.int 0]) ⟨hx, hb, hml, hown, hts⟩ (m_goes_1 l D cI cJ cZ oM mA mC mT mF mO mV n J us gp si fM tM vM cM fF tF kd wr sn lf gr hn hJ hus 1) (cwV 2 hts (pj_gV m_490 m_492 m_12 m_24 m_493) rfl rfl rfl (by decide +kernel) ⟨Nat.le_of_ble_eq_true rfl, Nat.le_of_ble_eq_true rfl⟩) pj_no_ok trivial hK hP hD hS hA (ci := 4) (q0 := 0) rfl rfl [0, 1, 2, 3, 4, 5, 6] [] [0, 1, 2, 3, 4, 5, 6] rfl rfl rfl rfl (by decide) rfl rfl rfl hl.1 rfl (Nat.le_of_ble_eq_true rfl) dM_move_53 ⟨Nat.le_of_ble_eq_true rfl, Nat.le_of_ble_eq_true rfl⟩ rfl rfl rfl (fun H locs hP hD hS => ?_)
      refine lv_if_eq (tgt := 69) hx hb dM_move_56 (by decide) (fun _ => ?_) (fun h9 => (h9 rfl).elim)
      refine lv_iconst (v := 0) hx hb dM_move_69 (by decide) ?_
      exact pj_iret hx hb hr hlocks hP hD hS (rfl) (rfl) dM_move_70
set_option maxHeartbeats 4000000 in
set_option maxRecDepth 100000 in
theorem m_move_2 (l : Launch) (D : va_G) (cI cJ cZ : ClassId) (oM mA mC mT mF mO mV n J us gp si : Nat) (fM tM vM : Nat → Int64) (cM fF tF : Nat → Int32) (kd wr sn lf gr : Int32) (hn : n ≤ 64) (hJ : J ≤ 60) (hus : us ≤ J) (x y : Int32) (v : Int64) (h1 : pjH n x) (h1b : pjH n y) (h2 : ¬ v < 0 ∧ ¬ (1000000000000 : Int64) < v) (hxy : ¬ x = y) (h3 : lf = 0) : pj_Met l yM_move wsM_move ({ frames := 2, cells := 0, slots := 0, locals := 48 }) D vwCl (pjT cI cJ cZ) pj_no [.ref oM, .int x, .int y, .long v] [(oM, .inr (4, [.int kd, .int (nI n), .int (nI J), .ref mA, .ref mC, .ref mT, .int (nI us), .int wr, .int sn, .int (nI si), .int gr, .int (nI gp), .ref mF, .ref mO, .ref mV, .int lf, .int (pjd lf)])), (mA, .inl (cJ, 64, .inr (.inl fM))), (mC, .inl (cI, 64, .inl cM)), (mT, .inl (cJ, 64, .inr (.inl tM))), (mF, .inl (cI, 60, .inl fF)), (mO, .inl (cI, 60, .inl tF)), (mV, .inl (cJ, 60, .inr (.inl vM)))] (some (.int 0)) [(oM, .inr (4, [.int 2, .int (nI n), .int (nI J), .ref mA, .ref mC, .ref mT, .int (nI us), .int wr, .int sn, .int (nI si), .int gr, .int (nI gp), .ref mF, .ref mO, .ref mV, .int lf, .int (pjd lf)])), (mA, .inl (cJ, 64, .inr (.inl fM))), (mC, .inl (cI, 64, .inl cM)), (mT, .inl (cJ, 64, .inr (.inl tM))), (mF, .inl (cI, 60, .inl fF)), (mO, .inl (cI, 60, .inl tF)), (mV, .inl (cJ, 60, .inr (.inl vM)))] 0 0 := by
  refine pj_of (by decide) rfl (Nat.le_of_ble_eq_true rfl) ?_
  intro p e s m below meth c A ls hx hb hml hr hts hown hlocks hin hA hK hP hD hS hG hl
  have hl : lv_has ls 5 [(0, .ref oM), (1, .int x), (2, .int y), (3, .long v)] := hl
  refine lv_aload_n hx hb dM_move_0 rfl (lv_at hl 0 rfl) ?_
  refine lv_aload_n hx hb dM_move_1 rfl (lv_at hl 0 rfl) ?_
  refine lv_iload_n hx hb dM_move_2 rfl (lv_at hl 1 rfl) ?_
  refine pp_callV (rest := [.ref oM]) (st1 := [.int 1, .ref oM]) ⟨hx, hb, hml, hown, hts⟩ (m_isa_t l D cI cJ cZ oM mA mC mT mF mO mV n J us gp si fM tM vM cM fF tF kd wr sn lf gr hn hJ hus x h1) (cwV 1 hts (pj_gV m_484 m_486 m_11 m_24 m_487) rfl rfl rfl (by decide +kernel) ⟨Nat.le_of_ble_eq_true rfl, Nat.le_of_ble_eq_true rfl⟩) pj_no_ok trivial hK hP hD hS hA (ci := 4) (q0 := 0) rfl rfl [0, 1, 2, 3, 4, 5, 6] rfl rfl rfl hl.1 rfl (Nat.le_of_ble_eq_true rfl) dM_move_3 ⟨Nat.le_of_ble_eq_true rfl, Nat.le_of_ble_eq_true rfl⟩ rfl ?_
  refine lv_if_eq (tgt := 40) hx hb dM_move_6 (by decide) (fun h9 => absurd h9 (by decide)) (fun _ => ?_)
  refine lv_aload_n hx hb dM_move_9 rfl (lv_at hl 0 rfl) ?_
  refine lv_iload_n hx hb dM_move_10 rfl (lv_at hl 2 rfl) ?_
  refine pp_callV (rest := [.ref oM]) (st1 := [.int 1, .ref oM]) ⟨hx, hb, hml, hown, hts⟩ (m_isa_t l D cI cJ cZ oM mA mC mT mF mO mV n J us gp si fM tM vM cM fF tF kd wr sn lf gr hn hJ hus y h1b) (cwV 1 hts (pj_gV m_484 m_486 m_11 m_24 m_487) rfl rfl rfl (by decide +kernel) ⟨Nat.le_of_ble_eq_true rfl, Nat.le_of_ble_eq_true rfl⟩) pj_no_ok trivial hK hP hD hS hA (ci := 4) (q0 := 0) rfl rfl [0, 1, 2, 3, 4, 5, 6] rfl rfl rfl hl.1 rfl (Nat.le_of_ble_eq_true rfl) dM_move_11 ⟨Nat.le_of_ble_eq_true rfl, Nat.le_of_ble_eq_true rfl⟩ rfl ?_
  refine lv_if_eq (tgt := 40) hx hb dM_move_14 (by decide) (fun h9 => absurd h9 (by decide)) (fun _ => ?_)
  refine lv_iload_n hx hb dM_move_17 rfl (lv_at hl 1 rfl) ?_
  refine lv_iload_n hx hb dM_move_18 rfl (lv_at hl 2 rfl) ?_
  refine lv_icmp_eq (tgt := 40) hx hb dM_move_19 (by decide) (fun h9 => absurd h9 hxy) (fun _ => ?_)
  refine lv_lload_n hx hb dM_move_22 rfl (lv_at hl 3 rfl) ?_
  refine lv_lconst (v := 0) hx hb dM_move_23 (by decide) ?_
  refine W.lcmp hx hb dM_move_24 ?_
  refine lv_if_lt (tgt := 40) hx hb dM_move_25 (by decide) (fun h9 => absurd h9 (fun z => h2.1 ((lg_cmp_lt _ _).mp z))) (fun _ => ?_)
  refine lv_lload_n hx hb dM_move_28 rfl (lv_at hl 3 rfl) ?_
  refine lv_ldc2 (v := 1000000000000) hx hb hown (hts _ (pj_up m_489)) dM_move_29 ?_
  refine W.lcmp hx hb dM_move_32 ?_
  refine lv_if_gt (tgt := 40) hx hb dM_move_33 (by decide) (fun h9 => absurd h9 (fun z => h2.2 ((lg_cmp_gt _ _).mp z))) (fun _ => ?_)
  refine lv_iconst (v := 1) hx hb dM_move_36 (by decide) ?_
  refine lv_goto (tgt := 41) hx hb dM_move_37 (by decide) ?_
  refine lv_aload_n hx hb dM_move_41 rfl (lv_at hl 0 rfl) ?_
  refine va_get (D := D) (ci := 4) (v := .int (pjd lf)) (C := "ReplayJournalModel") (T := TM) (N := 17) hx hb hts (pj_ups inM) hown hK hP 0 rfl rfl 16 (by decide) (hts _ (pj_up m_440)) (fun _ h9 => h9) rfl dM_move_42 ?_
  refine lv_if_ne (tgt := 52) hx hb dM_move_45 (by decide) (fun _ => ?_) (fun h9 => absurd h9 (by rw [pjd_1 h3]; decide))
  refine lv_iconst (v := 0) hx hb dM_move_52 (by decide) ?_
  refine pj_callV (w2 := [(oM, .inr (4, [.int 2, .int (nI n), .int (nI J), .ref mA, .ref mC, .ref mT, .int (nI us), .int wr, .int sn, .int (nI si), .int gr, .int (nI gp), .ref mF, .ref mO, .ref mV, .int lf, .int (pjd lf)])), (mA, .inl (cJ, 64, .inr (.inl fM))), (mC, .inl (cI, 64, .inl cM)), (mT, .inl (cJ, 64, .inr (.inl tM))), (mF, .inl (cI, 60, .inl fF)), (mO, .inl (cI, 60, .inl tF)), (mV, .inl (cJ, 60, .inr (.inl vM)))]) (wr := []) (rest := []) (st1 := [.int 0]) ⟨hx, hb, hml, hown, hts⟩ (m_goes_2 l D cI cJ cZ oM mA mC mT mF mO mV n J us gp si fM tM vM cM fF tF kd wr sn lf gr hn hJ hus) (cwV 2 hts (pj_gV m_490 m_492 m_12 m_24 m_493) rfl rfl rfl (by decide +kernel) ⟨Nat.le_of_ble_eq_true rfl, Nat.le_of_ble_eq_true rfl⟩) pj_no_ok trivial hK hP hD hS hA (ci := 4) (q0 := 0) rfl rfl [0, 1, 2, 3, 4, 5, 6] [] [0, 1, 2, 3, 4, 5, 6] rfl rfl rfl rfl (by decide) rfl rfl rfl hl.1 rfl (Nat.le_of_ble_eq_true rfl) dM_move_53 ⟨Nat.le_of_ble_eq_true rfl, Nat.le_of_ble_eq_true rfl⟩ rfl rfl rfl (fun H locs hP hD hS => ?_)
  refine lv_if_eq (tgt := 69) hx hb dM_move_56 (by decide) (fun _ => ?_) (fun h9 => (h9 rfl).elim)
  refine lv_iconst (v := 0) hx hb dM_move_69 (by decide) ?_
  exact pj_iret hx hb hr hlocks hP hD hS (rfl) (rfl) dM_move_70
set_option maxHeartbeats 4000000 in
set_option maxRecDepth 100000 in
theorem m_move_0 (l : Launch) (D : va_G) (cI cJ cZ : ClassId) (oM mA mC mT mF mO mV n J us gp si : Nat) (fM tM vM : Nat → Int64) (cM fF tF : Nat → Int32) (kd wr sn lf gr : Int32) (hn : n ≤ 64) (hJ : J ≤ 60) (hus : us ≤ J) (x y : Int32) (v : Int64) (h1 : pjH n x) (h1b : pjH n y) (h2 : ¬ v < 0 ∧ ¬ (1000000000000 : Int64) < v) (hxy : ¬ x = y) (h3 : ¬ lf = 0) (r : Int32) (w1 : va_W) (hM : pj_Met l yM_take wsM_take ({ frames := 1, cells := 0, slots := 0, locals := 24 }) D vwCl (pjT cI cJ cZ) pj_no [.ref oM, .int x, .int y, .long v] [(oM, .inr (4, [.int 0, .int (nI n), .int (nI J), .ref mA, .ref mC, .ref mT, .int (nI us), .int wr, .int sn, .int (nI si), .int gr, .int (nI gp), .ref mF, .ref mO, .ref mV, .int lf, .int (pjd lf)])), (mA, .inl (cJ, 64, .inr (.inl fM))), (mC, .inl (cI, 64, .inl cM)), (mT, .inl (cJ, 64, .inr (.inl tM))), (mF, .inl (cI, 60, .inl fF)), (mO, .inl (cI, 60, .inl tF)), (mV, .inl (cJ, 60, .inr (.inl vM)))] (some (.int r)) w1 0 0) : pj_Met l yM_move wsM_move ({ frames := 2, cells := 0, slots := 0, locals := 48 }) D vwCl (pjT cI cJ cZ) pj_no [.ref oM, .int x, .int y, .long v] [(oM, .inr (4, [.int kd, .int (nI n), .int (nI J), .ref mA, .ref mC, .ref mT, .int (nI us), .int wr, .int sn, .int (nI si), .int gr, .int (nI gp), .ref mF, .ref mO, .ref mV, .int lf, .int (pjd lf)])), (mA, .inl (cJ, 64, .inr (.inl fM))), (mC, .inl (cI, 64, .inl cM)), (mT, .inl (cJ, 64, .inr (.inl tM))), (mF, .inl (cI, 60, .inl fF)), (mO, .inl (cI, 60, .inl tF)), (mV, .inl (cJ, 60, .inr (.inl vM)))] (some (.int r)) w1 0 0 := by
  refine pj_of (by decide) rfl (Nat.le_of_ble_eq_true rfl) ?_
  intro p e s m below meth c A ls hx hb hml hr hts hown hlocks hin hA hK hP hD hS hG hl
  have hl : lv_has ls 5 [(0, .ref oM), (1, .int x), (2, .int y), (3, .long v)] := hl
  refine lv_aload_n hx hb dM_move_0 rfl (lv_at hl 0 rfl) ?_
  refine lv_aload_n hx hb dM_move_1 rfl (lv_at hl 0 rfl) ?_
  refine lv_iload_n hx hb dM_move_2 rfl (lv_at hl 1 rfl) ?_
  refine pp_callV (rest := [.ref oM]) (st1 := [.int 1, .ref oM]) ⟨hx, hb, hml, hown, hts⟩ (m_isa_t l D cI cJ cZ oM mA mC mT mF mO mV n J us gp si fM tM vM cM fF tF kd wr sn lf gr hn hJ hus x h1) (cwV 1 hts (pj_gV m_484 m_486 m_11 m_24 m_487) rfl rfl rfl (by decide +kernel) ⟨Nat.le_of_ble_eq_true rfl, Nat.le_of_ble_eq_true rfl⟩) pj_no_ok trivial hK hP hD hS hA (ci := 4) (q0 := 0) rfl rfl [0, 1, 2, 3, 4, 5, 6] rfl rfl rfl hl.1 rfl (Nat.le_of_ble_eq_true rfl) dM_move_3 ⟨Nat.le_of_ble_eq_true rfl, Nat.le_of_ble_eq_true rfl⟩ rfl ?_
  refine lv_if_eq (tgt := 40) hx hb dM_move_6 (by decide) (fun h9 => absurd h9 (by decide)) (fun _ => ?_)
  refine lv_aload_n hx hb dM_move_9 rfl (lv_at hl 0 rfl) ?_
  refine lv_iload_n hx hb dM_move_10 rfl (lv_at hl 2 rfl) ?_
  refine pp_callV (rest := [.ref oM]) (st1 := [.int 1, .ref oM]) ⟨hx, hb, hml, hown, hts⟩ (m_isa_t l D cI cJ cZ oM mA mC mT mF mO mV n J us gp si fM tM vM cM fF tF kd wr sn lf gr hn hJ hus y h1b) (cwV 1 hts (pj_gV m_484 m_486 m_11 m_24 m_487) rfl rfl rfl (by decide +kernel) ⟨Nat.le_of_ble_eq_true rfl, Nat.le_of_ble_eq_true rfl⟩) pj_no_ok trivial hK hP hD hS hA (ci := 4) (q0 := 0) rfl rfl [0, 1, 2, 3, 4, 5, 6] rfl rfl rfl hl.1 rfl (Nat.le_of_ble_eq_true rfl) dM_move_11 ⟨Nat.le_of_ble_eq_true rfl, Nat.le_of_ble_eq_true rfl⟩ rfl ?_
  refine lv_if_eq (tgt := 40) hx hb dM_move_14 (by decide) (fun h9 => absurd h9 (by decide)) (fun _ => ?_)
  refine lv_iload_n hx hb dM_move_17 rfl (lv_at hl 1 rfl) ?_
  refine lv_iload_n hx hb dM_move_18 rfl (lv_at hl 2 rfl) ?_
  refine lv_icmp_eq (tgt := 40) hx hb dM_move_19 (by decide) (fun h9 => absurd h9 hxy) (fun _ => ?_)
  refine lv_lload_n hx hb dM_move_22 rfl (lv_at hl 3 rfl) ?_
  refine lv_lconst (v := 0) hx hb dM_move_23 (by decide) ?_
  refine W.lcmp hx hb dM_move_24 ?_
  refine lv_if_lt (tgt := 40) hx hb dM_move_25 (by decide) (fun h9 => absurd h9 (fun z => h2.1 ((lg_cmp_lt _ _).mp z))) (fun _ => ?_)
  refine lv_lload_n hx hb dM_move_28 rfl (lv_at hl 3 rfl) ?_
  refine lv_ldc2 (v := 1000000000000) hx hb hown (hts _ (pj_up m_489)) dM_move_29 ?_
  refine W.lcmp hx hb dM_move_32 ?_
  refine lv_if_gt (tgt := 40) hx hb dM_move_33 (by decide) (fun h9 => absurd h9 (fun z => h2.2 ((lg_cmp_gt _ _).mp z))) (fun _ => ?_)
  refine lv_iconst (v := 1) hx hb dM_move_36 (by decide) ?_
  refine lv_goto (tgt := 41) hx hb dM_move_37 (by decide) ?_
  refine lv_aload_n hx hb dM_move_41 rfl (lv_at hl 0 rfl) ?_
  refine va_get (D := D) (ci := 4) (v := .int (pjd lf)) (C := "ReplayJournalModel") (T := TM) (N := 17) hx hb hts (pj_ups inM) hown hK hP 0 rfl rfl 16 (by decide) (hts _ (pj_up m_440)) (fun _ h9 => h9) rfl dM_move_42 ?_
  refine lv_if_ne (tgt := 52) hx hb dM_move_45 (by decide) (fun h9 => absurd h9 (fun z => z (pjd_0 h3))) (fun _ => ?_)
  refine lv_iconst (v := 1) hx hb dM_move_48 (by decide) ?_
  refine lv_goto (tgt := 53) hx hb dM_move_49 (by decide) ?_
  refine pj_callV (w2 := [(oM, .inr (4, [.int 0, .int (nI n), .int (nI J), .ref mA, .ref mC, .ref mT, .int (nI us), .int wr, .int sn, .int (nI si), .int gr, .int (nI gp), .ref mF, .ref mO, .ref mV, .int lf, .int (pjd lf)])), (mA, .inl (cJ, 64, .inr (.inl fM))), (mC, .inl (cI, 64, .inl cM)), (mT, .inl (cJ, 64, .inr (.inl tM))), (mF, .inl (cI, 60, .inl fF)), (mO, .inl (cI, 60, .inl tF)), (mV, .inl (cJ, 60, .inr (.inl vM)))]) (wr := []) (rest := []) (st1 := [.int 1]) ⟨hx, hb, hml, hown, hts⟩ (m_goes_0 l D cI cJ cZ oM mA mC mT mF mO mV n J us gp si fM tM vM cM fF tF kd wr sn lf gr hn hJ hus) (cwV 2 hts (pj_gV m_490 m_492 m_12 m_24 m_493) rfl rfl rfl (by decide +kernel) ⟨Nat.le_of_ble_eq_true rfl, Nat.le_of_ble_eq_true rfl⟩) pj_no_ok trivial hK hP hD hS hA (ci := 4) (q0 := 0) rfl rfl [0, 1, 2, 3, 4, 5, 6] [] [0, 1, 2, 3, 4, 5, 6] rfl rfl rfl rfl (by decide) rfl rfl rfl hl.1 rfl (Nat.le_of_ble_eq_true rfl) dM_move_53 ⟨Nat.le_of_ble_eq_true rfl, Nat.le_of_ble_eq_true rfl⟩ rfl rfl rfl (fun H locs hP hD hS => ?_)
  refine lv_if_eq (tgt := 69) hx hb dM_move_56 (by decide) (fun h9 => absurd h9 (by decide)) (fun _ => ?_)
  refine lv_aload_n hx hb dM_move_59 rfl (lv_at hl 0 rfl) ?_
  refine lv_iload_n hx hb dM_move_60 rfl (lv_at hl 1 rfl) ?_
  refine lv_iload_n hx hb dM_move_61 rfl (lv_at hl 2 rfl) ?_
  refine lv_lload_n hx hb dM_move_62 rfl (lv_at hl 3 rfl) ?_
  refine pj_callVw (rest := []) (st1 := [.int r]) ⟨hx, hb, hml, hown, hts⟩ hM (cwV 3 hts (pj_gV m_494 m_496 m_13 m_24 m_497) rfl rfl rfl (by decide +kernel) ⟨Nat.le_of_ble_eq_true rfl, Nat.le_of_ble_eq_true rfl⟩) pj_no_ok trivial hK hP hD hS hA (ci := 4) (q0 := 0) rfl rfl rfl hl.1 rfl (Nat.le_of_ble_eq_true rfl) dM_move_63 ⟨Nat.le_of_ble_eq_true rfl, Nat.le_of_ble_eq_true rfl⟩ rfl rfl rfl (fun H locs hP hD hS => ?_)
  refine lv_goto (tgt := 70) hx hb dM_move_66 (by decide) ?_
  exact pj_iret hx hb hr hlocks hP hD hS (rfl) (rfl) dM_move_70
