set_option maxHeartbeats 4000000 in
set_option maxRecDepth 100000 in
theorem m_take_poor (l : Launch) (D : va_G) (cI cJ cZ : ClassId) (oM mA mC mT mF mO mV n J us gp si : Nat) (fM tM vM : Nat → Int64) (cM fF tF : Nat → Int32) (kd wr sn lf gr : Int32) (hn : n ≤ 64) (hJ : J ≤ 60) (hus : us ≤ J) (a b : Int32) (v : Int64) (ha : a < 0 ∨ pjH n a) (hb2 : pjH n b) (h : pmO fM a b v) : pj_Met l yM_take wsM_take ({ frames := 1, cells := 0, slots := 0, locals := 24 }) D vwCl (pjT cI cJ cZ) pj_no [.ref oM, .int a, .int b, .long v] [(oM, .inr (4, [.int kd, .int (nI n), .int (nI J), .ref mA, .ref mC, .ref mT, .int (nI us), .int wr, .int sn, .int (nI si), .int 0, .int (nI gp), .ref mF, .ref mO, .ref mV, .int lf, .int (pjd lf)])), (mA, .inl (cJ, 64, .inr (.inl fM))), (mC, .inl (cI, 64, .inl cM)), (mT, .inl (cJ, 64, .inr (.inl tM))), (mF, .inl (cI, 60, .inl fF)), (mO, .inl (cI, 60, .inl tF)), (mV, .inl (cJ, 60, .inr (.inl vM)))] (some (.int (-4))) [(oM, .inr (4, [.int kd, .int (nI n), .int (nI J), .ref mA, .ref mC, .ref mT, .int (nI us), .int wr, .int sn, .int (nI si), .int 0, .int (nI gp), .ref mF, .ref mO, .ref mV, .int lf, .int (pjd lf)])), (mA, .inl (cJ, 64, .inr (.inl fM))), (mC, .inl (cI, 64, .inl cM)), (mT, .inl (cJ, 64, .inr (.inl tM))), (mF, .inl (cI, 60, .inl fF)), (mO, .inl (cI, 60, .inl tF)), (mV, .inl (cJ, 60, .inr (.inl vM)))] 0 0 := by
  refine pj_of (by decide) rfl (Nat.le_of_ble_eq_true rfl) ?_
  intro p e s m below meth c A ls hx hb hml hr hts hown hlocks hin hA hK hP hD hS hG hl
  have hl : lv_has ls 5 [(0, .ref oM), (1, .int a), (2, .int b), (3, .long v)] := hl
  refine lv_aload_n hx hb dM_take_0 rfl (lv_at hl 0 rfl) ?_
  refine va_get (D := D) (ci := 4) (v := .int 0) (C := "ReplayJournalModel") (T := TM) (N := 17) hx hb hts (pj_ups inM) hown hK hP 0 rfl rfl 10 (by decide) (hts _ (pj_up m_434)) (fun _ h9 => h9) rfl dM_take_1 ?_
  refine lv_if_ne (tgt := 43) hx hb dM_take_4 (by decide) (fun h9 => absurd h9 (fun h => h rfl)) (fun _ => ?_)
  refine lv_iload_n hx hb dM_take_7 rfl (lv_at hl 1 rfl) ?_
  by_cases c1 : a < 0
  · refine lv_if_ge (tgt := 27) hx hb dM_take_8 (by decide) (fun h9 => absurd h9 (Int32.not_le.mpr c1)) (fun _ => ?_)
    refine lv_aload_n hx hb dM_take_11 rfl (lv_at hl 0 rfl) ?_
    refine va_get (D := D) (ci := 4) (v := .ref mA) (C := "ReplayJournalModel") (T := TM) (N := 17) hx hb hts (pj_ups inM) hown hK hP 0 rfl rfl 3 (by decide) (hts _ (pj_up m_427)) (fun _ h9 => h9) rfl dM_take_12 ?_
    refine lv_iload_n hx hb dM_take_15 rfl (lv_at hl 2 rfl) ?_
    refine va_lald hx hb hK hP 1 1 rfl rfl (pjH_64 hn hb2) dM_take_16 ?_
    refine lv_lload_n hx hb dM_take_17 rfl (lv_at hl 3 rfl) ?_
    refine lv_ladd hx hb dM_take_18 ?_
    refine lv_lconst (v := 0) hx hb dM_take_19 (by decide) ?_
    refine W.lcmp hx hb dM_take_20 ?_
    refine lv_if_ge (tgt := 43) hx hb dM_take_21 (by decide) (fun h9 => absurd h9 (fun z => absurd ((lg_cmp_ge _ _).mp z) (Int64.not_le.mpr ((h.elim (fun q => q.2) (fun q => absurd c1 q.1)))))) (fun _ => ?_)
    refine lv_goto (tgt := 40) hx hb dM_take_24 (by decide) ?_
    refine lv_bipush (v := (-4)) hx hb dM_take_40 (by decide) ?_
    exact pj_iret hx hb hr hlocks hP hD hS (rfl) (rfl) dM_take_42
  · refine lv_if_ge (tgt := 27) hx hb dM_take_8 (by decide) (fun _ => ?_) (fun h9 => (h9 (Int32.not_lt.mp c1)).elim)
    refine lv_aload_n hx hb dM_take_27 rfl (lv_at hl 0 rfl) ?_
    refine va_get (D := D) (ci := 4) (v := .ref mA) (C := "ReplayJournalModel") (T := TM) (N := 17) hx hb hts (pj_ups inM) hown hK hP 0 rfl rfl 3 (by decide) (hts _ (pj_up m_427)) (fun _ h9 => h9) rfl dM_take_28 ?_
    refine lv_iload_n hx hb dM_take_31 rfl (lv_at hl 1 rfl) ?_
    refine va_lald hx hb hK hP 1 1 rfl rfl (pjH_64 hn (ha.resolve_left c1)) dM_take_32 ?_
    refine lv_lload_n hx hb dM_take_33 rfl (lv_at hl 3 rfl) ?_
    refine lv_lsub hx hb dM_take_34 ?_
    refine lv_lconst (v := 0) hx hb dM_take_35 (by decide) ?_
    refine W.lcmp hx hb dM_take_36 ?_
    refine lv_if_ge (tgt := 43) hx hb dM_take_37 (by decide) (fun h9 => absurd h9 (fun z => absurd ((lg_cmp_ge _ _).mp z) (Int64.not_le.mpr ((h.elim (fun q => absurd q.1 c1) (fun q => q.2)))))) (fun _ => ?_)
    refine lv_bipush (v := (-4)) hx hb dM_take_40 (by decide) ?_
    exact pj_iret hx hb hr hlocks hP hD hS (rfl) (rfl) dM_take_42
set_option maxHeartbeats 4000000 in
set_option maxRecDepth 100000 in
theorem m_take_full (l : Launch) (D : va_G) (cI cJ cZ : ClassId) (oM mA mC mT mF mO mV n J us gp si : Nat) (fM tM vM : Nat → Int64) (cM fF tF : Nat → Int32) (kd wr sn lf gr : Int32) (hn : n ≤ 64) (hJ : J ≤ 60) (hus : us ≤ J) (a b : Int32) (v : Int64) (ha : a < 0 ∨ pjH n a) (hb2 : pjH n b) (h : ¬ pmO fM a b v) (h2 : us = J) : pj_Met l yM_take wsM_take ({ frames := 1, cells := 0, slots := 0, locals := 24 }) D vwCl (pjT cI cJ cZ) pj_no [.ref oM, .int a, .int b, .long v] [(oM, .inr (4, [.int kd, .int (nI n), .int (nI J), .ref mA, .ref mC, .ref mT, .int (nI us), .int wr, .int sn, .int (nI si), .int 0, .int (nI gp), .ref mF, .ref mO, .ref mV, .int lf, .int (pjd lf)])), (mA, .inl (cJ, 64, .inr (.inl fM))), (mC, .inl (cI, 64, .inl cM)), (mT, .inl (cJ, 64, .inr (.inl tM))), (mF, .inl (cI, 60, .inl fF)), (mO, .inl (cI, 60, .inl tF)), (mV, .inl (cJ, 60, .inr (.inl vM)))] (some (.int (-2))) [(oM, .inr (4, [.int kd, .int (nI n), .int (nI J), .ref mA, .ref mC, .ref mT, .int (nI us), .int wr, .int sn, .int (nI si), .int 0, .int (nI gp), .ref mF, .ref mO, .ref mV, .int lf, .int (pjd lf)])), (mA, .inl (cJ, 64, .inr (.inl fM))), (mC, .inl (cI, 64, .inl cM)), (mT, .inl (cJ, 64, .inr (.inl tM))), (mF, .inl (cI, 60, .inl fF)), (mO, .inl (cI, 60, .inl tF)), (mV, .inl (cJ, 60, .inr (.inl vM)))] 0 0 := by
  refine pj_of (by decide) rfl (Nat.le_of_ble_eq_true rfl) ?_
  intro p e s m below meth c A ls hx hb hml hr hts hown hlocks hin hA hK hP hD hS hG hl
  have hl : lv_has ls 5 [(0, .ref oM), (1, .int a), (2, .int b), (3, .long v)] := hl
  refine lv_aload_n hx hb dM_take_0 rfl (lv_at hl 0 rfl) ?_
  refine va_get (D := D) (ci := 4) (v := .int 0) (C := "ReplayJournalModel") (T := TM) (N := 17) hx hb hts (pj_ups inM) hown hK hP 0 rfl rfl 10 (by decide) (hts _ (pj_up m_434)) (fun _ h9 => h9) rfl dM_take_1 ?_
  refine lv_if_ne (tgt := 43) hx hb dM_take_4 (by decide) (fun h9 => absurd h9 (fun h => h rfl)) (fun _ => ?_)
  refine lv_iload_n hx hb dM_take_7 rfl (lv_at hl 1 rfl) ?_
  by_cases c1 : a < 0
  · refine lv_if_ge (tgt := 27) hx hb dM_take_8 (by decide) (fun h9 => absurd h9 (Int32.not_le.mpr c1)) (fun _ => ?_)
    refine lv_aload_n hx hb dM_take_11 rfl (lv_at hl 0 rfl) ?_
    refine va_get (D := D) (ci := 4) (v := .ref mA) (C := "ReplayJournalModel") (T := TM) (N := 17) hx hb hts (pj_ups inM) hown hK hP 0 rfl rfl 3 (by decide) (hts _ (pj_up m_427)) (fun _ h9 => h9) rfl dM_take_12 ?_
    refine lv_iload_n hx hb dM_take_15 rfl (lv_at hl 2 rfl) ?_
    refine va_lald hx hb hK hP 1 1 rfl rfl (pjH_64 hn hb2) dM_take_16 ?_
    refine lv_lload_n hx hb dM_take_17 rfl (lv_at hl 3 rfl) ?_
    refine lv_ladd hx hb dM_take_18 ?_
    refine lv_lconst (v := 0) hx hb dM_take_19 (by decide) ?_
    refine W.lcmp hx hb dM_take_20 ?_
    refine lv_if_ge (tgt := 43) hx hb dM_take_21 (by decide) (fun _ => ?_) (fun h9 => (h9 ((lg_cmp_ge _ _).mpr (Int64.not_lt.mp (fun q => h (Or.inl ⟨c1, q⟩))))).elim)
    refine lv_aload_n hx hb dM_take_43 rfl (lv_at hl 0 rfl) ?_
    refine va_get (D := D) (ci := 4) (v := .int (nI us)) (C := "ReplayJournalModel") (T := TM) (N := 17) hx hb hts (pj_ups inM) hown hK hP 0 rfl rfl 6 (by decide) (hts _ (pj_up m_430)) (fun _ h9 => h9) rfl dM_take_44 ?_
    refine lv_aload_n hx hb dM_take_47 rfl (lv_at hl 0 rfl) ?_
    refine va_get (D := D) (ci := 4) (v := .int (nI J)) (C := "ReplayJournalModel") (T := TM) (N := 17) hx hb hts (pj_ups inM) hown hK hP 0 rfl rfl 2 (by decide) (hts _ (pj_up m_426)) (fun _ h9 => h9) rfl dM_take_48 ?_
    refine lv_icmp_ne (tgt := 57) hx hb dM_take_51 (by decide) (fun h9 => absurd h9 (fun z => z (by rw [h2]))) (fun _ => ?_)
    refine lv_bipush (v := (-2)) hx hb dM_take_54 (by decide) ?_
    exact pj_iret hx hb hr hlocks hP hD hS (rfl) (rfl) dM_take_56
  · refine lv_if_ge (tgt := 27) hx hb dM_take_8 (by decide) (fun _ => ?_) (fun h9 => (h9 (Int32.not_lt.mp c1)).elim)
    refine lv_aload_n hx hb dM_take_27 rfl (lv_at hl 0 rfl) ?_
    refine va_get (D := D) (ci := 4) (v := .ref mA) (C := "ReplayJournalModel") (T := TM) (N := 17) hx hb hts (pj_ups inM) hown hK hP 0 rfl rfl 3 (by decide) (hts _ (pj_up m_427)) (fun _ h9 => h9) rfl dM_take_28 ?_
    refine lv_iload_n hx hb dM_take_31 rfl (lv_at hl 1 rfl) ?_
    refine va_lald hx hb hK hP 1 1 rfl rfl (pjH_64 hn (ha.resolve_left c1)) dM_take_32 ?_
    refine lv_lload_n hx hb dM_take_33 rfl (lv_at hl 3 rfl) ?_
    refine lv_lsub hx hb dM_take_34 ?_
    refine lv_lconst (v := 0) hx hb dM_take_35 (by decide) ?_
    refine W.lcmp hx hb dM_take_36 ?_
    refine lv_if_ge (tgt := 43) hx hb dM_take_37 (by decide) (fun _ => ?_) (fun h9 => (h9 ((lg_cmp_ge _ _).mpr (Int64.not_lt.mp (fun q => h (Or.inr ⟨c1, q⟩))))).elim)
    refine lv_aload_n hx hb dM_take_43 rfl (lv_at hl 0 rfl) ?_
    refine va_get (D := D) (ci := 4) (v := .int (nI us)) (C := "ReplayJournalModel") (T := TM) (N := 17) hx hb hts (pj_ups inM) hown hK hP 0 rfl rfl 6 (by decide) (hts _ (pj_up m_430)) (fun _ h9 => h9) rfl dM_take_44 ?_
    refine lv_aload_n hx hb dM_take_47 rfl (lv_at hl 0 rfl) ?_
    refine va_get (D := D) (ci := 4) (v := .int (nI J)) (C := "ReplayJournalModel") (T := TM) (N := 17) hx hb hts (pj_ups inM) hown hK hP 0 rfl rfl 2 (by decide) (hts _ (pj_up m_426)) (fun _ h9 => h9) rfl dM_take_48 ?_
    refine lv_icmp_ne (tgt := 57) hx hb dM_take_51 (by decide) (fun h9 => absurd h9 (fun z => z (by rw [h2]))) (fun _ => ?_)
    refine lv_bipush (v := (-2)) hx hb dM_take_54 (by decide) ?_
    exact pj_iret hx hb hr hlocks hP hD hS (rfl) (rfl) dM_take_56
set_option maxHeartbeats 4000000 in
set_option maxRecDepth 100000 in
theorem m_take_ok (l : Launch) (D : va_G) (cI cJ cZ : ClassId) (oM mA mC mT mF mO mV n J us gp si : Nat) (fM tM vM : Nat → Int64) (cM fF tF : Nat → Int32) (kd wr sn lf gr : Int32) (hn : n ≤ 64) (hJ : J ≤ 60) (hus : us ≤ J) (a b : Int32) (v : Int64) (ha : a < 0 ∨ pjH n a) (hb2 : pjH n b) (h : ¬ pmO fM a b v) (h2 : ¬ us = J) : pj_Met l yM_take wsM_take ({ frames := 1, cells := 0, slots := 0, locals := 24 }) D vwCl (pjT cI cJ cZ) pj_no [.ref oM, .int a, .int b, .long v] [(oM, .inr (4, [.int kd, .int (nI n), .int (nI J), .ref mA, .ref mC, .ref mT, .int (nI us), .int wr, .int sn, .int (nI si), .int 0, .int (nI gp), .ref mF, .ref mO, .ref mV, .int lf, .int (pjd lf)])), (mA, .inl (cJ, 64, .inr (.inl fM))), (mC, .inl (cI, 64, .inl cM)), (mT, .inl (cJ, 64, .inr (.inl tM))), (mF, .inl (cI, 60, .inl fF)), (mO, .inl (cI, 60, .inl tF)), (mV, .inl (cJ, 60, .inr (.inl vM)))] (some (.int (if pjL lf = 0 then -3 else 1))) [(oM, .inr (4, [.int kd, .int (nI n), .int (nI J), .ref mA, .ref mC, .ref mT, .int (nI (us + 1)), .int (wr + 1), .int sn, .int (nI (si + 1)), .int 0, .int (nI gp), .ref mF, .ref mO, .ref mV, .int (pjL lf), .int (pjd (pjL lf))])), (mA, .inl (cJ, 64, .inr (.inl (pj2 n fM a b v)))), (mC, .inl (cI, 64, .inl (pj2c n cM a b))), (mT, .inl (cJ, 64, .inr (.inl tM))), (mF, .inl (cI, 60, .inl fF)), (mO, .inl (cI, 60, .inl tF)), (mV, .inl (cJ, 60, .inr (.inl vM)))] 0 0 := by
  refine pj_of (by decide) rfl (Nat.le_of_ble_eq_true rfl) ?_
  intro p e s m below meth c A ls hx hb hml hr hts hown hlocks hin hA hK hP hD hS hG hl
  have hl : lv_has ls 5 [(0, .ref oM), (1, .int a), (2, .int b), (3, .long v)] := hl
  refine lv_aload_n hx hb dM_take_0 rfl (lv_at hl 0 rfl) ?_
  refine va_get (D := D) (ci := 4) (v := .int 0) (C := "ReplayJournalModel") (T := TM) (N := 17) hx hb hts (pj_ups inM) hown hK hP 0 rfl rfl 10 (by decide) (hts _ (pj_up m_434)) (fun _ h9 => h9) rfl dM_take_1 ?_
  refine lv_if_ne (tgt := 43) hx hb dM_take_4 (by decide) (fun h9 => absurd h9 (fun h => h rfl)) (fun _ => ?_)
  refine lv_iload_n hx hb dM_take_7 rfl (lv_at hl 1 rfl) ?_
  by_cases c1 : a < 0
  · refine lv_if_ge (tgt := 27) hx hb dM_take_8 (by decide) (fun h9 => absurd h9 (Int32.not_le.mpr c1)) (fun _ => ?_)
    refine lv_aload_n hx hb dM_take_11 rfl (lv_at hl 0 rfl) ?_
    refine va_get (D := D) (ci := 4) (v := .ref mA) (C := "ReplayJournalModel") (T := TM) (N := 17) hx hb hts (pj_ups inM) hown hK hP 0 rfl rfl 3 (by decide) (hts _ (pj_up m_427)) (fun _ h9 => h9) rfl dM_take_12 ?_
    refine lv_iload_n hx hb dM_take_15 rfl (lv_at hl 2 rfl) ?_
    refine va_lald hx hb hK hP 1 1 rfl rfl (pjH_64 hn hb2) dM_take_16 ?_
    refine lv_lload_n hx hb dM_take_17 rfl (lv_at hl 3 rfl) ?_
    refine lv_ladd hx hb dM_take_18 ?_
    refine lv_lconst (v := 0) hx hb dM_take_19 (by decide) ?_
    refine W.lcmp hx hb dM_take_20 ?_
    refine lv_if_ge (tgt := 43) hx hb dM_take_21 (by decide) (fun _ => ?_) (fun h9 => (h9 ((lg_cmp_ge _ _).mpr (Int64.not_lt.mp (fun q => h (Or.inl ⟨c1, q⟩))))).elim)
    refine lv_aload_n hx hb dM_take_43 rfl (lv_at hl 0 rfl) ?_
    refine va_get (D := D) (ci := 4) (v := .int (nI us)) (C := "ReplayJournalModel") (T := TM) (N := 17) hx hb hts (pj_ups inM) hown hK hP 0 rfl rfl 6 (by decide) (hts _ (pj_up m_430)) (fun _ h9 => h9) rfl dM_take_44 ?_
    refine lv_aload_n hx hb dM_take_47 rfl (lv_at hl 0 rfl) ?_
    refine va_get (D := D) (ci := 4) (v := .int (nI J)) (C := "ReplayJournalModel") (T := TM) (N := 17) hx hb hts (pj_ups inM) hown hK hP 0 rfl rfl 2 (by decide) (hts _ (pj_up m_426)) (fun _ h9 => h9) rfl dM_take_48 ?_
    refine lv_icmp_ne (tgt := 57) hx hb dM_take_51 (by decide) (fun _ => ?_) (fun h9 => absurd h9 (fun z => h2 ((nI_eq (by omega) (by omega)).mp z)))
    refine lv_aload_n hx hb dM_take_57 rfl (lv_at hl 0 rfl) ?_
    refine lv_dup hx hb dM_take_58 rfl ?_
    refine va_get (D := D) (ci := 4) (v := .int (nI us)) (C := "ReplayJournalModel") (T := TM) (N := 17) hx hb hts (pj_ups inM) hown hK hP 0 rfl rfl 6 (by decide) (hts _ (pj_up m_430)) (fun _ h9 => h9) rfl dM_take_59 ?_
    refine lv_iconst (v := 1) hx hb dM_take_62 (by decide) ?_
    refine lv_iadd hx hb dM_take_63 ?_
    refine lv_topi (fun y9 e9 => ?_)
    have e9 : y9 = nI (us + 1) := e9.trans (nI_1 us)
    subst e9
    refine va_put (D := D) (ci := 4) (v := .int (nI (us + 1))) (ty := .int) (C := "ReplayJournalModel") (T := TM) (N := 17) hx hb hts (pj_ups inM) tyM tyM_ok nmM hown hK hP hD hS 0 rfl rfl 6 (by decide) (hts _ (pj_up m_430)) (fun _ h9 => h9) rfl (by decide +kernel) rfl rfl (Nat.le_of_ble_eq_true rfl) dM_take_64 (fun H locs hP hD hS => ?_)
    have hP : va_P D vwCl [(oM, .inr (4, [.int kd, .int (nI n), .int (nI J), .ref mA, .ref mC, .ref mT, .int (nI (us + 1)), .int wr, .int sn, .int (nI si), .int 0, .int (nI gp), .ref mF, .ref mO, .ref mV, .int lf, .int (pjd lf)])), (mA, .inl (cJ, 64, .inr (.inl fM))), (mC, .inl (cI, 64, .inl cM)), (mT, .inl (cJ, 64, .inr (.inl tM))), (mF, .inl (cI, 60, .inl fF)), (mO, .inl (cI, 60, .inl tF)), (mV, .inl (cJ, 60, .inr (.inl vM)))] H := hP
    have hD : va_D A [(oM, .inr (4, [.int kd, .int (nI n), .int (nI J), .ref mA, .ref mC, .ref mT, .int (nI (us + 1)), .int wr, .int sn, .int (nI si), .int 0, .int (nI gp), .ref mF, .ref mO, .ref mV, .int lf, .int (pjd lf)])), (mA, .inl (cJ, 64, .inr (.inl fM))), (mC, .inl (cI, 64, .inl cM)), (mT, .inl (cJ, 64, .inr (.inl tM))), (mF, .inl (cI, 60, .inl fF)), (mO, .inl (cI, 60, .inl tF)), (mV, .inl (cJ, 60, .inr (.inl vM)))] := hD
    refine lv_aload_n hx hb dM_take_67 rfl (lv_at hl 0 rfl) ?_
    refine pj_callV (w2 := [(oM, .inr (4, [.int kd, .int (nI n), .int (nI J), .ref mA, .ref mC, .ref mT, .int (nI (us + 1)), .int (wr + 1), .int sn, .int (nI si), .int 0, .int (nI gp), .ref mF, .ref mO, .ref mV, .int (pjL lf), .int (pjd (pjL lf))])), (mA, .inl (cJ, 64, .inr (.inl fM))), (mC, .inl (cI, 64, .inl cM)), (mT, .inl (cJ, 64, .inr (.inl tM))), (mF, .inl (cI, 60, .inl fF)), (mO, .inl (cI, 60, .inl tF)), (mV, .inl (cJ, 60, .inr (.inl vM)))]) (wr := []) (rest := []) (st1 := []) ⟨hx, hb, hml, hown, hts⟩ (m_spend l D cI cJ cZ oM mA mC mT mF mO mV n J (us + 1) gp si fM tM vM cM fF tF kd wr sn lf 0 hn hJ (by omega)) (cwV 0 hts (pj_gV m_498 m_500 m_14 m_24 m_501) rfl rfl rfl (by decide +kernel) ⟨Nat.le_of_ble_eq_true rfl, Nat.le_of_ble_eq_true rfl⟩) pj_no_ok trivial hK hP hD hS hA (ci := 4) (q0 := 0) rfl rfl [0, 1, 2, 3, 4, 5, 6] [] [0, 1, 2, 3, 4, 5, 6] rfl rfl rfl rfl (by decide) rfl rfl rfl hl.1 rfl (Nat.le_of_ble_eq_true rfl) dM_take_68 ⟨Nat.le_of_ble_eq_true rfl, Nat.le_of_ble_eq_true rfl⟩ rfl rfl rfl (fun H locs hP hD hS => ?_)
    refine lv_aload_n hx hb dM_take_71 rfl (lv_at hl 0 rfl) ?_
    refine va_get (D := D) (ci := 4) (v := .int 0) (C := "ReplayJournalModel") (T := TM) (N := 17) hx hb hts (pj_ups inM) hown hK hP 0 rfl rfl 10 (by decide) (hts _ (pj_up m_434)) (fun _ h9 => h9) rfl dM_take_72 ?_
    refine lv_if_ne (tgt := 99) hx hb dM_take_75 (by decide) (fun h9 => absurd h9 (fun h => h rfl)) (fun _ => ?_)
    refine lv_aload_n hx hb dM_take_78 rfl (lv_at hl 0 rfl) ?_
    refine lv_iload_n hx hb dM_take_79 rfl (lv_at hl 1 rfl) ?_
    refine lv_iload_n hx hb dM_take_80 rfl (lv_at hl 2 rfl) ?_
    refine lv_lload_n hx hb dM_take_81 rfl (lv_at hl 3 rfl) ?_
    refine pj_callV (w2 := [(oM, .inr (4, [.int kd, .int (nI n), .int (nI J), .ref mA, .ref mC, .ref mT, .int (nI (us + 1)), .int (wr + 1), .int sn, .int (nI (si + 1)), .int 0, .int (nI gp), .ref mF, .ref mO, .ref mV, .int (pjL lf), .int (pjd (pjL lf))])), (mA, .inl (cJ, 64, .inr (.inl (pj2 n fM a b v)))), (mC, .inl (cI, 64, .inl (pj2c n cM a b))), (mT, .inl (cJ, 64, .inr (.inl tM))), (mF, .inl (cI, 60, .inl fF)), (mO, .inl (cI, 60, .inl tF)), (mV, .inl (cJ, 60, .inr (.inl vM)))]) (wr := []) (rest := []) (st1 := []) ⟨hx, hb, hml, hown, hts⟩ (m_hap l D cI cJ cZ oM mA mC mT mF mO mV n J (us + 1) gp si fM tM vM cM fF tF kd (wr + 1) sn (pjL lf) 0 hn hJ (by omega) a b v ha hb2) (cwV 3 hts (pj_gV m_502 m_504 m_15 m_24 m_505) rfl rfl rfl (by decide +kernel) ⟨Nat.le_of_ble_eq_true rfl, Nat.le_of_ble_eq_true rfl⟩) pj_no_ok trivial hK hP hD hS hA (ci := 4) (q0 := 0) rfl rfl [0, 1, 2, 3, 4, 5, 6] [] [0, 1, 2, 3, 4, 5, 6] rfl rfl rfl rfl (by decide) rfl rfl rfl hl.1 rfl (Nat.le_of_ble_eq_true rfl) dM_take_82 ⟨Nat.le_of_ble_eq_true rfl, Nat.le_of_ble_eq_true rfl⟩ rfl rfl rfl (fun H locs hP hD hS => ?_)
    by_cases hz : pjL lf = 0
    · refine lv_aload_n hx hb dM_take_85 rfl (lv_at hl 0 rfl) ?_
      refine va_get (D := D) (ci := 4) (v := .int (pjd (pjL lf))) (C := "ReplayJournalModel") (T := TM) (N := 17) hx hb hts (pj_ups inM) hown hK hP 0 rfl rfl 16 (by decide) (hts _ (pj_up m_440)) (fun _ h9 => h9) rfl dM_take_86 ?_
      refine lv_if_eq (tgt := 97) hx hb dM_take_89 (by decide) (fun h9 => absurd h9 (by rw [pjd_1 hz]; decide)) (fun _ => ?_)
      refine lv_bipush (v := (-3)) hx hb dM_take_92 (by decide) ?_
      refine lv_goto (tgt := 98) hx hb dM_take_94 (by decide) ?_
      exact pj_iret hx hb hr hlocks hP hD hS ((if_pos hz).symm) (rfl) dM_take_98
    · refine lv_aload_n hx hb dM_take_85 rfl (lv_at hl 0 rfl) ?_
      refine va_get (D := D) (ci := 4) (v := .int (pjd (pjL lf))) (C := "ReplayJournalModel") (T := TM) (N := 17) hx hb hts (pj_ups inM) hown hK hP 0 rfl rfl 16 (by decide) (hts _ (pj_up m_440)) (fun _ h9 => h9) rfl dM_take_86 ?_
      refine lv_if_eq (tgt := 97) hx hb dM_take_89 (by decide) (fun _ => ?_) (fun h9 => (h9 (pjd_0 hz)).elim)
      refine lv_iconst (v := 1) hx hb dM_take_97 (by decide) ?_
      exact pj_iret hx hb hr hlocks hP hD hS ((if_neg hz).symm) (rfl) dM_take_98
  · refine lv_if_ge (tgt := 27) hx hb dM_take_8 (by decide) (fun _ => ?_) (fun h9 => (h9 (Int32.not_lt.mp c1)).elim)
    refine lv_aload_n hx hb dM_take_27 rfl (lv_at hl 0 rfl) ?_
    refine va_get (D := D) (ci := 4) (v := .ref mA) (C := "ReplayJournalModel") (T := TM) (N := 17) hx hb hts (pj_ups inM) hown hK hP 0 rfl rfl 3 (by decide) (hts _ (pj_up m_427)) (fun _ h9 => h9) rfl dM_take_28 ?_
    refine lv_iload_n hx hb dM_take_31 rfl (lv_at hl 1 rfl) ?_
    refine va_lald hx hb hK hP 1 1 rfl rfl (pjH_64 hn (ha.resolve_left c1)) dM_take_32 ?_
    refine lv_lload_n hx hb dM_take_33 rfl (lv_at hl 3 rfl) ?_
    refine lv_lsub hx hb dM_take_34 ?_
    refine lv_lconst (v := 0) hx hb dM_take_35 (by decide) ?_
    refine W.lcmp hx hb dM_take_36 ?_
    refine lv_if_ge (tgt := 43) hx hb dM_take_37 (by decide) (fun _ => ?_) (fun h9 => (h9 ((lg_cmp_ge _ _).mpr (Int64.not_lt.mp (fun q => h (Or.inr ⟨c1, q⟩))))).elim)
    refine lv_aload_n hx hb dM_take_43 rfl (lv_at hl 0 rfl) ?_
    refine va_get (D := D) (ci := 4) (v := .int (nI us)) (C := "ReplayJournalModel") (T := TM) (N := 17) hx hb hts (pj_ups inM) hown hK hP 0 rfl rfl 6 (by decide) (hts _ (pj_up m_430)) (fun _ h9 => h9) rfl dM_take_44 ?_
    refine lv_aload_n hx hb dM_take_47 rfl (lv_at hl 0 rfl) ?_
    refine va_get (D := D) (ci := 4) (v := .int (nI J)) (C := "ReplayJournalModel") (T := TM) (N := 17) hx hb hts (pj_ups inM) hown hK hP 0 rfl rfl 2 (by decide) (hts _ (pj_up m_426)) (fun _ h9 => h9) rfl dM_take_48 ?_
    refine lv_icmp_ne (tgt := 57) hx hb dM_take_51 (by decide) (fun _ => ?_) (fun h9 => absurd h9 (fun z => h2 ((nI_eq (by omega) (by omega)).mp z)))
    refine lv_aload_n hx hb dM_take_57 rfl (lv_at hl 0 rfl) ?_
    refine lv_dup hx hb dM_take_58 rfl ?_
    refine va_get (D := D) (ci := 4) (v := .int (nI us)) (C := "ReplayJournalModel") (T := TM) (N := 17) hx hb hts (pj_ups inM) hown hK hP 0 rfl rfl 6 (by decide) (hts _ (pj_up m_430)) (fun _ h9 => h9) rfl dM_take_59 ?_
    refine lv_iconst (v := 1) hx hb dM_take_62 (by decide) ?_
    refine lv_iadd hx hb dM_take_63 ?_
    refine lv_topi (fun y9 e9 => ?_)
    have e9 : y9 = nI (us + 1) := e9.trans (nI_1 us)
    subst e9
    refine va_put (D := D) (ci := 4) (v := .int (nI (us + 1))) (ty := .int) (C := "ReplayJournalModel") (T := TM) (N := 17) hx hb hts (pj_ups inM) tyM tyM_ok nmM hown hK hP hD hS 0 rfl rfl 6 (by decide) (hts _ (pj_up m_430)) (fun _ h9 => h9) rfl (by decide +kernel) rfl rfl (Nat.le_of_ble_eq_true rfl) dM_take_64 (fun H locs hP hD hS => ?_)
    have hP : va_P D vwCl [(oM, .inr (4, [.int kd, .int (nI n), .int (nI J), .ref mA, .ref mC, .ref mT, .int (nI (us + 1)), .int wr, .int sn, .int (nI si), .int 0, .int (nI gp), .ref mF, .ref mO, .ref mV, .int lf, .int (pjd lf)])), (mA, .inl (cJ, 64, .inr (.inl fM))), (mC, .inl (cI, 64, .inl cM)), (mT, .inl (cJ, 64, .inr (.inl tM))), (mF, .inl (cI, 60, .inl fF)), (mO, .inl (cI, 60, .inl tF)), (mV, .inl (cJ, 60, .inr (.inl vM)))] H := hP
    have hD : va_D A [(oM, .inr (4, [.int kd, .int (nI n), .int (nI J), .ref mA, .ref mC, .ref mT, .int (nI (us + 1)), .int wr, .int sn, .int (nI si), .int 0, .int (nI gp), .ref mF, .ref mO, .ref mV, .int lf, .int (pjd lf)])), (mA, .inl (cJ, 64, .inr (.inl fM))), (mC, .inl (cI, 64, .inl cM)), (mT, .inl (cJ, 64, .inr (.inl tM))), (mF, .inl (cI, 60, .inl fF)), (mO, .inl (cI, 60, .inl tF)), (mV, .inl (cJ, 60, .inr (.inl vM)))] := hD
    refine lv_aload_n hx hb dM_take_67 rfl (lv_at hl 0 rfl) ?_
    refine pj_callV (w2 := [(oM, .inr (4, [.int kd, .int (nI n), .int (nI J), .ref mA, .ref mC, .ref mT, .int (nI (us + 1)), .int (wr + 1), .int sn, .int (nI si), .int 0, .int (nI gp), .ref mF, .ref mO, .ref mV, .int (pjL lf), .int (pjd (pjL lf))])), (mA, .inl (cJ, 64, .inr (.inl fM))), (mC, .inl (cI, 64, .inl cM)), (mT, .inl (cJ, 64, .inr (.inl tM))), (mF, .inl (cI, 60, .inl fF)), (mO, .inl (cI, 60, .inl tF)), (mV, .inl (cJ, 60, .inr (.inl vM)))]) (wr := []) (rest := []) (st1 := []) ⟨hx, hb, hml, hown, hts⟩ (m_spend l D cI cJ cZ oM mA mC mT mF mO mV n J (us + 1) gp si fM tM vM cM fF tF kd wr sn lf 0 hn hJ (by omega)) (cwV 0 hts (pj_gV m_498 m_500 m_14 m_24 m_501) rfl rfl rfl (by decide +kernel) ⟨Nat.le_of_ble_eq_true rfl, Nat.le_of_ble_eq_true rfl⟩) pj_no_ok trivial hK hP hD hS hA (ci := 4) (q0 := 0) rfl rfl [0, 1, 2, 3, 4, 5, 6] [] [0, 1, 2, 3, 4, 5, 6] rfl rfl rfl rfl (by decide) rfl rfl rfl hl.1 rfl (Nat.le_of_ble_eq_true rfl) dM_take_68 ⟨Nat.le_of_ble_eq_true rfl, Nat.le_of_ble_eq_true rfl⟩ rfl rfl rfl (fun H locs hP hD hS => ?_)
    refine lv_aload_n hx hb dM_take_71 rfl (lv_at hl 0 rfl) ?_
    refine va_get (D := D) (ci := 4) (v := .int 0) (C := "ReplayJournalModel") (T := TM) (N := 17) hx hb hts (pj_ups inM) hown hK hP 0 rfl rfl 10 (by decide) (hts _ (pj_up m_434)) (fun _ h9 => h9) rfl dM_take_72 ?_
    refine lv_if_ne (tgt := 99) hx hb dM_take_75 (by decide) (fun h9 => absurd h9 (fun h => h rfl)) (fun _ => ?_)
    refine lv_aload_n hx hb dM_take_78 rfl (lv_at hl 0 rfl) ?_
    refine lv_iload_n hx hb dM_take_79 rfl (lv_at hl 1 rfl) ?_
    refine lv_iload_n hx hb dM_take_80 rfl (lv_at hl 2 rfl) ?_
    refine lv_lload_n hx hb dM_take_81 rfl (lv_at hl 3 rfl) ?_
    refine pj_callV (w2 := [(oM, .inr (4, [.int kd, .int (nI n), .int (nI J), .ref mA, .ref mC, .ref mT, .int (nI (us + 1)), .int (wr + 1), .int sn, .int (nI (si + 1)), .int 0, .int (nI gp), .ref mF, .ref mO, .ref mV, .int (pjL lf), .int (pjd (pjL lf))])), (mA, .inl (cJ, 64, .inr (.inl (pj2 n fM a b v)))), (mC, .inl (cI, 64, .inl (pj2c n cM a b))), (mT, .inl (cJ, 64, .inr (.inl tM))), (mF, .inl (cI, 60, .inl fF)), (mO, .inl (cI, 60, .inl tF)), (mV, .inl (cJ, 60, .inr (.inl vM)))]) (wr := []) (rest := []) (st1 := []) ⟨hx, hb, hml, hown, hts⟩ (m_hap l D cI cJ cZ oM mA mC mT mF mO mV n J (us + 1) gp si fM tM vM cM fF tF kd (wr + 1) sn (pjL lf) 0 hn hJ (by omega) a b v ha hb2) (cwV 3 hts (pj_gV m_502 m_504 m_15 m_24 m_505) rfl rfl rfl (by decide +kernel) ⟨Nat.le_of_ble_eq_true rfl, Nat.le_of_ble_eq_true rfl⟩) pj_no_ok trivial hK hP hD hS hA (ci := 4) (q0 := 0) rfl rfl [0, 1, 2, 3, 4, 5, 6] [] [0, 1, 2, 3, 4, 5, 6] rfl rfl rfl rfl (by decide) rfl rfl rfl hl.1 rfl (Nat.le_of_ble_eq_true rfl) dM_take_82 ⟨Nat.le_of_ble_eq_true rfl, Nat.le_of_ble_eq_true rfl⟩ rfl rfl rfl (fun H locs hP hD hS => ?_)
    by_cases hz : pjL lf = 0
    · refine lv_aload_n hx hb dM_take_85 rfl (lv_at hl 0 rfl) ?_
      refine va_get (D := D) (ci := 4) (v := .int (pjd (pjL lf))) (C := "ReplayJournalModel") (T := TM) (N := 17) hx hb hts (pj_ups inM) hown hK hP 0 rfl rfl 16 (by decide) (hts _ (pj_up m_440)) (fun _ h9 => h9) rfl dM_take_86 ?_
      refine lv_if_eq (tgt := 97) hx hb dM_take_89 (by decide) (fun h9 => absurd h9 (by rw [pjd_1 hz]; decide)) (fun _ => ?_)
      refine lv_bipush (v := (-3)) hx hb dM_take_92 (by decide) ?_
      refine lv_goto (tgt := 98) hx hb dM_take_94 (by decide) ?_
      exact pj_iret hx hb hr hlocks hP hD hS ((if_pos hz).symm) (rfl) dM_take_98
    · refine lv_aload_n hx hb dM_take_85 rfl (lv_at hl 0 rfl) ?_
      refine va_get (D := D) (ci := 4) (v := .int (pjd (pjL lf))) (C := "ReplayJournalModel") (T := TM) (N := 17) hx hb hts (pj_ups inM) hown hK hP 0 rfl rfl 16 (by decide) (hts _ (pj_up m_440)) (fun _ h9 => h9) rfl dM_take_86 ?_
      refine lv_if_eq (tgt := 97) hx hb dM_take_89 (by decide) (fun _ => ?_) (fun h9 => (h9 (pjd_0 hz)).elim)
      refine lv_iconst (v := 1) hx hb dM_take_97 (by decide) ?_
      exact pj_iret hx hb hr hlocks hP hD hS ((if_neg hz).symm) (rfl) dM_take_98
set_option maxHeartbeats 4000000 in
set_option maxRecDepth 100000 in
theorem m_gtake_full (l : Launch) (D : va_G) (cI cJ cZ : ClassId) (oM mA mC mT mF mO mV n J us gp si : Nat) (fM tM vM : Nat → Int64) (cM fF tF : Nat → Int32) (kd wr sn lf gr : Int32) (hn : n ≤ 64) (hJ : J ≤ 60) (hus : us ≤ J) (a b : Int32) (v : Int64) (ha : a < 0 ∨ pjH n a) (hb2 : pjH n b) (h2 : us = J) : pj_Met l yM_take wsM_take ({ frames := 1, cells := 0, slots := 0, locals := 24 }) D vwCl (pjT cI cJ cZ) pj_no [.ref oM, .int a, .int b, .long v] [(oM, .inr (4, [.int kd, .int (nI n), .int (nI J), .ref mA, .ref mC, .ref mT, .int (nI us), .int wr, .int sn, .int (nI si), .int 1, .int (nI gp), .ref mF, .ref mO, .ref mV, .int lf, .int (pjd lf)])), (mA, .inl (cJ, 64, .inr (.inl fM))), (mC, .inl (cI, 64, .inl cM)), (mT, .inl (cJ, 64, .inr (.inl tM))), (mF, .inl (cI, 60, .inl fF)), (mO, .inl (cI, 60, .inl tF)), (mV, .inl (cJ, 60, .inr (.inl vM)))] (some (.int (-2))) [(oM, .inr (4, [.int kd, .int (nI n), .int (nI J), .ref mA, .ref mC, .ref mT, .int (nI us), .int wr, .int sn, .int (nI si), .int 1, .int (nI gp), .ref mF, .ref mO, .ref mV, .int lf, .int (pjd lf)])), (mA, .inl (cJ, 64, .inr (.inl fM))), (mC, .inl (cI, 64, .inl cM)), (mT, .inl (cJ, 64, .inr (.inl tM))), (mF, .inl (cI, 60, .inl fF)), (mO, .inl (cI, 60, .inl tF)), (mV, .inl (cJ, 60, .inr (.inl vM)))] 0 0 := by
  refine pj_of (by decide) rfl (Nat.le_of_ble_eq_true rfl) ?_
  intro p e s m below meth c A ls hx hb hml hr hts hown hlocks hin hA hK hP hD hS hG hl
  have hl : lv_has ls 5 [(0, .ref oM), (1, .int a), (2, .int b), (3, .long v)] := hl
  refine lv_aload_n hx hb dM_take_0 rfl (lv_at hl 0 rfl) ?_
  refine va_get (D := D) (ci := 4) (v := .int 1) (C := "ReplayJournalModel") (T := TM) (N := 17) hx hb hts (pj_ups inM) hown hK hP 0 rfl rfl 10 (by decide) (hts _ (pj_up m_434)) (fun _ h9 => h9) rfl dM_take_1 ?_
  refine lv_if_ne (tgt := 43) hx hb dM_take_4 (by decide) (fun _ => ?_) (fun h9 => absurd h9 (by decide))
  refine lv_aload_n hx hb dM_take_43 rfl (lv_at hl 0 rfl) ?_
  refine va_get (D := D) (ci := 4) (v := .int (nI us)) (C := "ReplayJournalModel") (T := TM) (N := 17) hx hb hts (pj_ups inM) hown hK hP 0 rfl rfl 6 (by decide) (hts _ (pj_up m_430)) (fun _ h9 => h9) rfl dM_take_44 ?_
  refine lv_aload_n hx hb dM_take_47 rfl (lv_at hl 0 rfl) ?_
  refine va_get (D := D) (ci := 4) (v := .int (nI J)) (C := "ReplayJournalModel") (T := TM) (N := 17) hx hb hts (pj_ups inM) hown hK hP 0 rfl rfl 2 (by decide) (hts _ (pj_up m_426)) (fun _ h9 => h9) rfl dM_take_48 ?_
  refine lv_icmp_ne (tgt := 57) hx hb dM_take_51 (by decide) (fun h9 => absurd h9 (fun z => z (by rw [h2]))) (fun _ => ?_)
  refine lv_bipush (v := (-2)) hx hb dM_take_54 (by decide) ?_
  exact pj_iret hx hb hr hlocks hP hD hS (rfl) (rfl) dM_take_56
set_option maxHeartbeats 4000000 in
set_option maxRecDepth 100000 in
theorem m_gtake_cut (l : Launch) (D : va_G) (cI cJ cZ : ClassId) (oM mA mC mT mF mO mV n J us gp si : Nat) (fM tM vM : Nat → Int64) (cM fF tF : Nat → Int32) (kd wr sn lf gr : Int32) (hn : n ≤ 64) (hJ : J ≤ 60) (hus : us ≤ J) (a b : Int32) (v : Int64) (ha : a < 0 ∨ pjH n a) (hb2 : pjH n b) (h2 : ¬ us = J) (hz : pjL lf = 0) : pj_Met l yM_take wsM_take ({ frames := 1, cells := 0, slots := 0, locals := 24 }) D vwCl (pjT cI cJ cZ) pj_no [.ref oM, .int a, .int b, .long v] [(oM, .inr (4, [.int kd, .int (nI n), .int (nI J), .ref mA, .ref mC, .ref mT, .int (nI us), .int wr, .int sn, .int (nI si), .int 1, .int (nI gp), .ref mF, .ref mO, .ref mV, .int lf, .int (pjd lf)])), (mA, .inl (cJ, 64, .inr (.inl fM))), (mC, .inl (cI, 64, .inl cM)), (mT, .inl (cJ, 64, .inr (.inl tM))), (mF, .inl (cI, 60, .inl fF)), (mO, .inl (cI, 60, .inl tF)), (mV, .inl (cJ, 60, .inr (.inl vM)))] (some (.int (-3))) [(oM, .inr (4, [.int kd, .int (nI n), .int (nI J), .ref mA, .ref mC, .ref mT, .int (nI (us + 1)), .int (wr + 1), .int sn, .int (nI si), .int 1, .int (nI gp), .ref mF, .ref mO, .ref mV, .int (pjL lf), .int (pjd (pjL lf))])), (mA, .inl (cJ, 64, .inr (.inl fM))), (mC, .inl (cI, 64, .inl cM)), (mT, .inl (cJ, 64, .inr (.inl tM))), (mF, .inl (cI, 60, .inl fF)), (mO, .inl (cI, 60, .inl tF)), (mV, .inl (cJ, 60, .inr (.inl vM)))] 0 0 := by
  refine pj_of (by decide) rfl (Nat.le_of_ble_eq_true rfl) ?_
  intro p e s m below meth c A ls hx hb hml hr hts hown hlocks hin hA hK hP hD hS hG hl
  have hl : lv_has ls 5 [(0, .ref oM), (1, .int a), (2, .int b), (3, .long v)] := hl
  refine lv_aload_n hx hb dM_take_0 rfl (lv_at hl 0 rfl) ?_
  refine va_get (D := D) (ci := 4) (v := .int 1) (C := "ReplayJournalModel") (T := TM) (N := 17) hx hb hts (pj_ups inM) hown hK hP 0 rfl rfl 10 (by decide) (hts _ (pj_up m_434)) (fun _ h9 => h9) rfl dM_take_1 ?_
  refine lv_if_ne (tgt := 43) hx hb dM_take_4 (by decide) (fun _ => ?_) (fun h9 => absurd h9 (by decide))
  refine lv_aload_n hx hb dM_take_43 rfl (lv_at hl 0 rfl) ?_
  refine va_get (D := D) (ci := 4) (v := .int (nI us)) (C := "ReplayJournalModel") (T := TM) (N := 17) hx hb hts (pj_ups inM) hown hK hP 0 rfl rfl 6 (by decide) (hts _ (pj_up m_430)) (fun _ h9 => h9) rfl dM_take_44 ?_
  refine lv_aload_n hx hb dM_take_47 rfl (lv_at hl 0 rfl) ?_
  refine va_get (D := D) (ci := 4) (v := .int (nI J)) (C := "ReplayJournalModel") (T := TM) (N := 17) hx hb hts (pj_ups inM) hown hK hP 0 rfl rfl 2 (by decide) (hts _ (pj_up m_426)) (fun _ h9 => h9) rfl dM_take_48 ?_
  refine lv_icmp_ne (tgt := 57) hx hb dM_take_51 (by decide) (fun _ => ?_) (fun h9 => absurd h9 (fun z => h2 ((nI_eq (by omega) (by omega)).mp z)))
  refine lv_aload_n hx hb dM_take_57 rfl (lv_at hl 0 rfl) ?_
  refine lv_dup hx hb dM_take_58 rfl ?_
  refine va_get (D := D) (ci := 4) (v := .int (nI us)) (C := "ReplayJournalModel") (T := TM) (N := 17) hx hb hts (pj_ups inM) hown hK hP 0 rfl rfl 6 (by decide) (hts _ (pj_up m_430)) (fun _ h9 => h9) rfl dM_take_59 ?_
  refine lv_iconst (v := 1) hx hb dM_take_62 (by decide) ?_
  refine lv_iadd hx hb dM_take_63 ?_
  refine lv_topi (fun y9 e9 => ?_)
  have e9 : y9 = nI (us + 1) := e9.trans (nI_1 us)
  subst e9
  refine va_put (D := D) (ci := 4) (v := .int (nI (us + 1))) (ty := .int) (C := "ReplayJournalModel") (T := TM) (N := 17) hx hb hts (pj_ups inM) tyM tyM_ok nmM hown hK hP hD hS 0 rfl rfl 6 (by decide) (hts _ (pj_up m_430)) (fun _ h9 => h9) rfl (by decide +kernel) rfl rfl (Nat.le_of_ble_eq_true rfl) dM_take_64 (fun H locs hP hD hS => ?_)
  have hP : va_P D vwCl [(oM, .inr (4, [.int kd, .int (nI n), .int (nI J), .ref mA, .ref mC, .ref mT, .int (nI (us + 1)), .int wr, .int sn, .int (nI si), .int 1, .int (nI gp), .ref mF, .ref mO, .ref mV, .int lf, .int (pjd lf)])), (mA, .inl (cJ, 64, .inr (.inl fM))), (mC, .inl (cI, 64, .inl cM)), (mT, .inl (cJ, 64, .inr (.inl tM))), (mF, .inl (cI, 60, .inl fF)), (mO, .inl (cI, 60, .inl tF)), (mV, .inl (cJ, 60, .inr (.inl vM)))] H := hP
  have hD : va_D A [(oM, .inr (4, [.int kd, .int (nI n), .int (nI J), .ref mA, .ref mC, .ref mT, .int (nI (us + 1)), .int wr, .int sn, .int (nI si), .int 1, .int (nI gp), .ref mF, .ref mO, .ref mV, .int lf, .int (pjd lf)])), (mA, .inl (cJ, 64, .inr (.inl fM))), (mC, .inl (cI, 64, .inl cM)), (mT, .inl (cJ, 64, .inr (.inl tM))), (mF, .inl (cI, 60, .inl fF)), (mO, .inl (cI, 60, .inl tF)), (mV, .inl (cJ, 60, .inr (.inl vM)))] := hD
  refine lv_aload_n hx hb dM_take_67 rfl (lv_at hl 0 rfl) ?_
  refine pj_callV (w2 := [(oM, .inr (4, [.int kd, .int (nI n), .int (nI J), .ref mA, .ref mC, .ref mT, .int (nI (us + 1)), .int (wr + 1), .int sn, .int (nI si), .int 1, .int (nI gp), .ref mF, .ref mO, .ref mV, .int (pjL lf), .int (pjd (pjL lf))])), (mA, .inl (cJ, 64, .inr (.inl fM))), (mC, .inl (cI, 64, .inl cM)), (mT, .inl (cJ, 64, .inr (.inl tM))), (mF, .inl (cI, 60, .inl fF)), (mO, .inl (cI, 60, .inl tF)), (mV, .inl (cJ, 60, .inr (.inl vM)))]) (wr := []) (rest := []) (st1 := []) ⟨hx, hb, hml, hown, hts⟩ (m_spend l D cI cJ cZ oM mA mC mT mF mO mV n J (us + 1) gp si fM tM vM cM fF tF kd wr sn lf 1 hn hJ (by omega)) (cwV 0 hts (pj_gV m_498 m_500 m_14 m_24 m_501) rfl rfl rfl (by decide +kernel) ⟨Nat.le_of_ble_eq_true rfl, Nat.le_of_ble_eq_true rfl⟩) pj_no_ok trivial hK hP hD hS hA (ci := 4) (q0 := 0) rfl rfl [0, 1, 2, 3, 4, 5, 6] [] [0, 1, 2, 3, 4, 5, 6] rfl rfl rfl rfl (by decide) rfl rfl rfl hl.1 rfl (Nat.le_of_ble_eq_true rfl) dM_take_68 ⟨Nat.le_of_ble_eq_true rfl, Nat.le_of_ble_eq_true rfl⟩ rfl rfl rfl (fun H locs hP hD hS => ?_)
  refine lv_aload_n hx hb dM_take_71 rfl (lv_at hl 0 rfl) ?_
  refine va_get (D := D) (ci := 4) (v := .int 1) (C := "ReplayJournalModel") (T := TM) (N := 17) hx hb hts (pj_ups inM) hown hK hP 0 rfl rfl 10 (by decide) (hts _ (pj_up m_434)) (fun _ h9 => h9) rfl dM_take_72 ?_
  refine lv_if_ne (tgt := 99) hx hb dM_take_75 (by decide) (fun _ => ?_) (fun h9 => absurd h9 (by decide))
  refine lv_aload_n hx hb dM_take_99 rfl (lv_at hl 0 rfl) ?_
  refine va_get (D := D) (ci := 4) (v := .int (pjd (pjL lf))) (C := "ReplayJournalModel") (T := TM) (N := 17) hx hb hts (pj_ups inM) hown hK hP 0 rfl rfl 16 (by decide) (hts _ (pj_up m_440)) (fun _ h9 => h9) rfl dM_take_100 ?_
  refine lv_if_eq (tgt := 109) hx hb dM_take_103 (by decide) (fun h9 => absurd h9 (by rw [pjd_1 hz]; decide)) (fun _ => ?_)
  refine lv_bipush (v := (-3)) hx hb dM_take_106 (by decide) ?_
  exact pj_iret hx hb hr hlocks hP hD hS (rfl) (rfl) dM_take_108
set_option maxHeartbeats 4000000 in
set_option maxRecDepth 100000 in
theorem m_gtake_ok (l : Launch) (D : va_G) (cI cJ cZ : ClassId) (oM mA mC mT mF mO mV n J us gp si : Nat) (fM tM vM : Nat → Int64) (cM fF tF : Nat → Int32) (kd wr sn lf gr : Int32) (hn : n ≤ 64) (hJ : J ≤ 60) (hus : us ≤ J) (a b : Int32) (v : Int64) (ha : a < 0 ∨ pjH n a) (hb2 : pjH n b) (h2 : ¬ us = J) (hz : ¬ pjL lf = 0) (h60 : gp < 60) : pj_Met l yM_take wsM_take ({ frames := 1, cells := 0, slots := 0, locals := 24 }) D vwCl (pjT cI cJ cZ) pj_no [.ref oM, .int a, .int b, .long v] [(oM, .inr (4, [.int kd, .int (nI n), .int (nI J), .ref mA, .ref mC, .ref mT, .int (nI us), .int wr, .int sn, .int (nI si), .int 1, .int (nI gp), .ref mF, .ref mO, .ref mV, .int lf, .int (pjd lf)])), (mA, .inl (cJ, 64, .inr (.inl fM))), (mC, .inl (cI, 64, .inl cM)), (mT, .inl (cJ, 64, .inr (.inl tM))), (mF, .inl (cI, 60, .inl fF)), (mO, .inl (cI, 60, .inl tF)), (mV, .inl (cJ, 60, .inr (.inl vM)))] (some (.int 0)) [(oM, .inr (4, [.int kd, .int (nI n), .int (nI J), .ref mA, .ref mC, .ref mT, .int (nI (us + 1)), .int (wr + 1), .int sn, .int (nI si), .int 1, .int (nI (gp + 1)), .ref mF, .ref mO, .ref mV, .int (pjL lf), .int (pjd (pjL lf))])), (mA, .inl (cJ, 64, .inr (.inl fM))), (mC, .inl (cI, 64, .inl cM)), (mT, .inl (cJ, 64, .inr (.inl tM))), (mF, .inl (cI, 60, .inl (upd fF gp a))), (mO, .inl (cI, 60, .inl (upd tF gp b))), (mV, .inl (cJ, 60, .inr (.inl (vp_updL vM gp v))))] 0 0 := by
  refine pj_of (by decide) rfl (Nat.le_of_ble_eq_true rfl) ?_
  intro p e s m below meth c A ls hx hb hml hr hts hown hlocks hin hA hK hP hD hS hG hl
  have hl : lv_has ls 5 [(0, .ref oM), (1, .int a), (2, .int b), (3, .long v)] := hl
  refine lv_aload_n hx hb dM_take_0 rfl (lv_at hl 0 rfl) ?_
  refine va_get (D := D) (ci := 4) (v := .int 1) (C := "ReplayJournalModel") (T := TM) (N := 17) hx hb hts (pj_ups inM) hown hK hP 0 rfl rfl 10 (by decide) (hts _ (pj_up m_434)) (fun _ h9 => h9) rfl dM_take_1 ?_
  refine lv_if_ne (tgt := 43) hx hb dM_take_4 (by decide) (fun _ => ?_) (fun h9 => absurd h9 (by decide))
  refine lv_aload_n hx hb dM_take_43 rfl (lv_at hl 0 rfl) ?_
  refine va_get (D := D) (ci := 4) (v := .int (nI us)) (C := "ReplayJournalModel") (T := TM) (N := 17) hx hb hts (pj_ups inM) hown hK hP 0 rfl rfl 6 (by decide) (hts _ (pj_up m_430)) (fun _ h9 => h9) rfl dM_take_44 ?_
  refine lv_aload_n hx hb dM_take_47 rfl (lv_at hl 0 rfl) ?_
  refine va_get (D := D) (ci := 4) (v := .int (nI J)) (C := "ReplayJournalModel") (T := TM) (N := 17) hx hb hts (pj_ups inM) hown hK hP 0 rfl rfl 2 (by decide) (hts _ (pj_up m_426)) (fun _ h9 => h9) rfl dM_take_48 ?_
  refine lv_icmp_ne (tgt := 57) hx hb dM_take_51 (by decide) (fun _ => ?_) (fun h9 => absurd h9 (fun z => h2 ((nI_eq (by omega) (by omega)).mp z)))
  refine lv_aload_n hx hb dM_take_57 rfl (lv_at hl 0 rfl) ?_
  refine lv_dup hx hb dM_take_58 rfl ?_
  refine va_get (D := D) (ci := 4) (v := .int (nI us)) (C := "ReplayJournalModel") (T := TM) (N := 17) hx hb hts (pj_ups inM) hown hK hP 0 rfl rfl 6 (by decide) (hts _ (pj_up m_430)) (fun _ h9 => h9) rfl dM_take_59 ?_
  refine lv_iconst (v := 1) hx hb dM_take_62 (by decide) ?_
  refine lv_iadd hx hb dM_take_63 ?_
  refine lv_topi (fun y9 e9 => ?_)
  have e9 : y9 = nI (us + 1) := e9.trans (nI_1 us)
  subst e9
  refine va_put (D := D) (ci := 4) (v := .int (nI (us + 1))) (ty := .int) (C := "ReplayJournalModel") (T := TM) (N := 17) hx hb hts (pj_ups inM) tyM tyM_ok nmM hown hK hP hD hS 0 rfl rfl 6 (by decide) (hts _ (pj_up m_430)) (fun _ h9 => h9) rfl (by decide +kernel) rfl rfl (Nat.le_of_ble_eq_true rfl) dM_take_64 (fun H locs hP hD hS => ?_)
  have hP : va_P D vwCl [(oM, .inr (4, [.int kd, .int (nI n), .int (nI J), .ref mA, .ref mC, .ref mT, .int (nI (us + 1)), .int wr, .int sn, .int (nI si), .int 1, .int (nI gp), .ref mF, .ref mO, .ref mV, .int lf, .int (pjd lf)])), (mA, .inl (cJ, 64, .inr (.inl fM))), (mC, .inl (cI, 64, .inl cM)), (mT, .inl (cJ, 64, .inr (.inl tM))), (mF, .inl (cI, 60, .inl fF)), (mO, .inl (cI, 60, .inl tF)), (mV, .inl (cJ, 60, .inr (.inl vM)))] H := hP
  have hD : va_D A [(oM, .inr (4, [.int kd, .int (nI n), .int (nI J), .ref mA, .ref mC, .ref mT, .int (nI (us + 1)), .int wr, .int sn, .int (nI si), .int 1, .int (nI gp), .ref mF, .ref mO, .ref mV, .int lf, .int (pjd lf)])), (mA, .inl (cJ, 64, .inr (.inl fM))), (mC, .inl (cI, 64, .inl cM)), (mT, .inl (cJ, 64, .inr (.inl tM))), (mF, .inl (cI, 60, .inl fF)), (mO, .inl (cI, 60, .inl tF)), (mV, .inl (cJ, 60, .inr (.inl vM)))] := hD
  refine lv_aload_n hx hb dM_take_67 rfl (lv_at hl 0 rfl) ?_
  refine pj_callV (w2 := [(oM, .inr (4, [.int kd, .int (nI n), .int (nI J), .ref mA, .ref mC, .ref mT, .int (nI (us + 1)), .int (wr + 1), .int sn, .int (nI si), .int 1, .int (nI gp), .ref mF, .ref mO, .ref mV, .int (pjL lf), .int (pjd (pjL lf))])), (mA, .inl (cJ, 64, .inr (.inl fM))), (mC, .inl (cI, 64, .inl cM)), (mT, .inl (cJ, 64, .inr (.inl tM))), (mF, .inl (cI, 60, .inl fF)), (mO, .inl (cI, 60, .inl tF)), (mV, .inl (cJ, 60, .inr (.inl vM)))]) (wr := []) (rest := []) (st1 := []) ⟨hx, hb, hml, hown, hts⟩ (m_spend l D cI cJ cZ oM mA mC mT mF mO mV n J (us + 1) gp si fM tM vM cM fF tF kd wr sn lf 1 hn hJ (by omega)) (cwV 0 hts (pj_gV m_498 m_500 m_14 m_24 m_501) rfl rfl rfl (by decide +kernel) ⟨Nat.le_of_ble_eq_true rfl, Nat.le_of_ble_eq_true rfl⟩) pj_no_ok trivial hK hP hD hS hA (ci := 4) (q0 := 0) rfl rfl [0, 1, 2, 3, 4, 5, 6] [] [0, 1, 2, 3, 4, 5, 6] rfl rfl rfl rfl (by decide) rfl rfl rfl hl.1 rfl (Nat.le_of_ble_eq_true rfl) dM_take_68 ⟨Nat.le_of_ble_eq_true rfl, Nat.le_of_ble_eq_true rfl⟩ rfl rfl rfl (fun H locs hP hD hS => ?_)
  refine lv_aload_n hx hb dM_take_71 rfl (lv_at hl 0 rfl) ?_
  refine va_get (D := D) (ci := 4) (v := .int 1) (C := "ReplayJournalModel") (T := TM) (N := 17) hx hb hts (pj_ups inM) hown hK hP 0 rfl rfl 10 (by decide) (hts _ (pj_up m_434)) (fun _ h9 => h9) rfl dM_take_72 ?_
  refine lv_if_ne (tgt := 99) hx hb dM_take_75 (by decide) (fun _ => ?_) (fun h9 => absurd h9 (by decide))
  refine lv_aload_n hx hb dM_take_99 rfl (lv_at hl 0 rfl) ?_
  refine va_get (D := D) (ci := 4) (v := .int (pjd (pjL lf))) (C := "ReplayJournalModel") (T := TM) (N := 17) hx hb hts (pj_ups inM) hown hK hP 0 rfl rfl 16 (by decide) (hts _ (pj_up m_440)) (fun _ h9 => h9) rfl dM_take_100 ?_
  refine lv_if_eq (tgt := 109) hx hb dM_take_103 (by decide) (fun _ => ?_) (fun h9 => (h9 (pjd_0 hz)).elim)
  refine lv_aload_n hx hb dM_take_109 rfl (lv_at hl 0 rfl) ?_
  refine va_get (D := D) (ci := 4) (v := .ref mF) (C := "ReplayJournalModel") (T := TM) (N := 17) hx hb hts (pj_ups inM) hown hK hP 0 rfl rfl 12 (by decide) (hts _ (pj_up m_436)) (fun _ h9 => h9) rfl dM_take_110 ?_
  refine lv_aload_n hx hb dM_take_113 rfl (lv_at hl 0 rfl) ?_
  refine va_get (D := D) (ci := 4) (v := .int (nI gp)) (C := "ReplayJournalModel") (T := TM) (N := 17) hx hb hts (pj_ups inM) hown hK hP 0 rfl rfl 11 (by decide) (hts _ (pj_up m_435)) (fun _ h9 => h9) rfl dM_take_114 ?_
  refine lv_iload_n hx hb dM_take_117 rfl (lv_at hl 1 rfl) ?_
  refine va_iast hx hb hK hP hD hS 4 0 rfl rfl (vp_in_nI h60 (by omega)) dM_take_118 (fun H locs hP hD hS => ?_)
  have hP : va_P D vwCl [(oM, .inr (4, [.int kd, .int (nI n), .int (nI J), .ref mA, .ref mC, .ref mT, .int (nI (us + 1)), .int (wr + 1), .int sn, .int (nI si), .int 1, .int (nI gp), .ref mF, .ref mO, .ref mV, .int (pjL lf), .int (pjd (pjL lf))])), (mA, .inl (cJ, 64, .inr (.inl fM))), (mC, .inl (cI, 64, .inl cM)), (mT, .inl (cJ, 64, .inr (.inl tM))), (mF, .inl (cI, 60, .inl (upd fF ((nI gp).toNatClampNeg) a))), (mO, .inl (cI, 60, .inl tF)), (mV, .inl (cJ, 60, .inr (.inl vM)))] H := hP
  have hD : va_D A [(oM, .inr (4, [.int kd, .int (nI n), .int (nI J), .ref mA, .ref mC, .ref mT, .int (nI (us + 1)), .int (wr + 1), .int sn, .int (nI si), .int 1, .int (nI gp), .ref mF, .ref mO, .ref mV, .int (pjL lf), .int (pjd (pjL lf))])), (mA, .inl (cJ, 64, .inr (.inl fM))), (mC, .inl (cI, 64, .inl cM)), (mT, .inl (cJ, 64, .inr (.inl tM))), (mF, .inl (cI, 60, .inl (upd fF ((nI gp).toNatClampNeg) a))), (mO, .inl (cI, 60, .inl tF)), (mV, .inl (cJ, 60, .inr (.inl vM)))] := hD
  refine lv_aload_n hx hb dM_take_119 rfl (lv_at hl 0 rfl) ?_
  refine va_get (D := D) (ci := 4) (v := .ref mO) (C := "ReplayJournalModel") (T := TM) (N := 17) hx hb hts (pj_ups inM) hown hK hP 0 rfl rfl 13 (by decide) (hts _ (pj_up m_437)) (fun _ h9 => h9) rfl dM_take_120 ?_
  refine lv_aload_n hx hb dM_take_123 rfl (lv_at hl 0 rfl) ?_
  refine va_get (D := D) (ci := 4) (v := .int (nI gp)) (C := "ReplayJournalModel") (T := TM) (N := 17) hx hb hts (pj_ups inM) hown hK hP 0 rfl rfl 11 (by decide) (hts _ (pj_up m_435)) (fun _ h9 => h9) rfl dM_take_124 ?_
  refine lv_iload_n hx hb dM_take_127 rfl (lv_at hl 2 rfl) ?_
  refine va_iast hx hb hK hP hD hS 5 0 rfl rfl (vp_in_nI h60 (by omega)) dM_take_128 (fun H locs hP hD hS => ?_)
  have hP : va_P D vwCl [(oM, .inr (4, [.int kd, .int (nI n), .int (nI J), .ref mA, .ref mC, .ref mT, .int (nI (us + 1)), .int (wr + 1), .int sn, .int (nI si), .int 1, .int (nI gp), .ref mF, .ref mO, .ref mV, .int (pjL lf), .int (pjd (pjL lf))])), (mA, .inl (cJ, 64, .inr (.inl fM))), (mC, .inl (cI, 64, .inl cM)), (mT, .inl (cJ, 64, .inr (.inl tM))), (mF, .inl (cI, 60, .inl (upd fF ((nI gp).toNatClampNeg) a))), (mO, .inl (cI, 60, .inl (upd tF ((nI gp).toNatClampNeg) b))), (mV, .inl (cJ, 60, .inr (.inl vM)))] H := hP
  have hD : va_D A [(oM, .inr (4, [.int kd, .int (nI n), .int (nI J), .ref mA, .ref mC, .ref mT, .int (nI (us + 1)), .int (wr + 1), .int sn, .int (nI si), .int 1, .int (nI gp), .ref mF, .ref mO, .ref mV, .int (pjL lf), .int (pjd (pjL lf))])), (mA, .inl (cJ, 64, .inr (.inl fM))), (mC, .inl (cI, 64, .inl cM)), (mT, .inl (cJ, 64, .inr (.inl tM))), (mF, .inl (cI, 60, .inl (upd fF ((nI gp).toNatClampNeg) a))), (mO, .inl (cI, 60, .inl (upd tF ((nI gp).toNatClampNeg) b))), (mV, .inl (cJ, 60, .inr (.inl vM)))] := hD
  refine lv_aload_n hx hb dM_take_129 rfl (lv_at hl 0 rfl) ?_
  refine va_get (D := D) (ci := 4) (v := .ref mV) (C := "ReplayJournalModel") (T := TM) (N := 17) hx hb hts (pj_ups inM) hown hK hP 0 rfl rfl 14 (by decide) (hts _ (pj_up m_438)) (fun _ h9 => h9) rfl dM_take_130 ?_
  refine lv_aload_n hx hb dM_take_133 rfl (lv_at hl 0 rfl) ?_
  refine va_get (D := D) (ci := 4) (v := .int (nI gp)) (C := "ReplayJournalModel") (T := TM) (N := 17) hx hb hts (pj_ups inM) hown hK hP 0 rfl rfl 11 (by decide) (hts _ (pj_up m_435)) (fun _ h9 => h9) rfl dM_take_134 ?_
  refine lv_lload_n hx hb dM_take_137 rfl (lv_at hl 3 rfl) ?_
  refine va_last hx hb hK hP hD hS 6 1 rfl rfl (vp_in_nI h60 (by omega)) dM_take_138 (fun H locs hP hD hS => ?_)
  have hP : va_P D vwCl [(oM, .inr (4, [.int kd, .int (nI n), .int (nI J), .ref mA, .ref mC, .ref mT, .int (nI (us + 1)), .int (wr + 1), .int sn, .int (nI si), .int 1, .int (nI gp), .ref mF, .ref mO, .ref mV, .int (pjL lf), .int (pjd (pjL lf))])), (mA, .inl (cJ, 64, .inr (.inl fM))), (mC, .inl (cI, 64, .inl cM)), (mT, .inl (cJ, 64, .inr (.inl tM))), (mF, .inl (cI, 60, .inl (upd fF ((nI gp).toNatClampNeg) a))), (mO, .inl (cI, 60, .inl (upd tF ((nI gp).toNatClampNeg) b))), (mV, .inl (cJ, 60, .inr (.inl (vp_updL vM ((nI gp).toNatClampNeg) v))))] H := hP
  have hD : va_D A [(oM, .inr (4, [.int kd, .int (nI n), .int (nI J), .ref mA, .ref mC, .ref mT, .int (nI (us + 1)), .int (wr + 1), .int sn, .int (nI si), .int 1, .int (nI gp), .ref mF, .ref mO, .ref mV, .int (pjL lf), .int (pjd (pjL lf))])), (mA, .inl (cJ, 64, .inr (.inl fM))), (mC, .inl (cI, 64, .inl cM)), (mT, .inl (cJ, 64, .inr (.inl tM))), (mF, .inl (cI, 60, .inl (upd fF ((nI gp).toNatClampNeg) a))), (mO, .inl (cI, 60, .inl (upd tF ((nI gp).toNatClampNeg) b))), (mV, .inl (cJ, 60, .inr (.inl (vp_updL vM ((nI gp).toNatClampNeg) v))))] := hD
  refine lv_aload_n hx hb dM_take_139 rfl (lv_at hl 0 rfl) ?_
  refine lv_dup hx hb dM_take_140 rfl ?_
  refine va_get (D := D) (ci := 4) (v := .int (nI gp)) (C := "ReplayJournalModel") (T := TM) (N := 17) hx hb hts (pj_ups inM) hown hK hP 0 rfl rfl 11 (by decide) (hts _ (pj_up m_435)) (fun _ h9 => h9) rfl dM_take_141 ?_
  refine lv_iconst (v := 1) hx hb dM_take_144 (by decide) ?_
  refine lv_iadd hx hb dM_take_145 ?_
  refine va_put (D := D) (ci := 4) (v := .int ((nI gp) + 1)) (ty := .int) (C := "ReplayJournalModel") (T := TM) (N := 17) hx hb hts (pj_ups inM) tyM tyM_ok nmM hown hK hP hD hS 0 rfl rfl 11 (by decide) (hts _ (pj_up m_435)) (fun _ h9 => h9) rfl (by decide +kernel) rfl rfl (Nat.le_of_ble_eq_true rfl) dM_take_146 (fun H locs hP hD hS => ?_)
  have hP : va_P D vwCl [(oM, .inr (4, [.int kd, .int (nI n), .int (nI J), .ref mA, .ref mC, .ref mT, .int (nI (us + 1)), .int (wr + 1), .int sn, .int (nI si), .int 1, .int ((nI gp) + 1), .ref mF, .ref mO, .ref mV, .int (pjL lf), .int (pjd (pjL lf))])), (mA, .inl (cJ, 64, .inr (.inl fM))), (mC, .inl (cI, 64, .inl cM)), (mT, .inl (cJ, 64, .inr (.inl tM))), (mF, .inl (cI, 60, .inl (upd fF ((nI gp).toNatClampNeg) a))), (mO, .inl (cI, 60, .inl (upd tF ((nI gp).toNatClampNeg) b))), (mV, .inl (cJ, 60, .inr (.inl (vp_updL vM ((nI gp).toNatClampNeg) v))))] H := hP
  have hD : va_D A [(oM, .inr (4, [.int kd, .int (nI n), .int (nI J), .ref mA, .ref mC, .ref mT, .int (nI (us + 1)), .int (wr + 1), .int sn, .int (nI si), .int 1, .int ((nI gp) + 1), .ref mF, .ref mO, .ref mV, .int (pjL lf), .int (pjd (pjL lf))])), (mA, .inl (cJ, 64, .inr (.inl fM))), (mC, .inl (cI, 64, .inl cM)), (mT, .inl (cJ, 64, .inr (.inl tM))), (mF, .inl (cI, 60, .inl (upd fF ((nI gp).toNatClampNeg) a))), (mO, .inl (cI, 60, .inl (upd tF ((nI gp).toNatClampNeg) b))), (mV, .inl (cJ, 60, .inr (.inl (vp_updL vM ((nI gp).toNatClampNeg) v))))] := hD
  refine lv_iconst (v := 0) hx hb dM_take_149 (by decide) ?_
  exact pj_iret hx hb hr hlocks hP hD hS (rfl) (by rw [nI_clamp (n := gp) (by omega), nI_1]) dM_take_150
