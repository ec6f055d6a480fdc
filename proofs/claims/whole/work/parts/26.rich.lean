set_option maxHeartbeats 4000000 in
set_option maxRecDepth 100000 in
theorem m_rich (l : Launch) (D : va_G) (cI cJ cZ : ClassId) (oM mA mC mT mF mO mV n J us gp si : Nat) (fM tM vM : Nat → Int64) (cM fF tF : Nat → Int32) (kd wr sn lf gr : Int32) (hn : n ≤ 64) (hJ : J ≤ 60) (hus : us ≤ J) (h60 : gp ≤ 60) (hv : ∀ i, i < gp → (fF i < 0 ∨ pjH n (fF i)) ∧ pjH n (tF i)) : pj_Met l yM_isRich wsM_isRich ({ frames := 0, cells := 0, slots := 0, locals := 0 }) D vwCl (pjT cI cJ cZ) pj_no [.ref oM] [(oM, .inr (4, [.int kd, .int (nI n), .int (nI J), .ref mA, .ref mC, .ref mT, .int (nI us), .int wr, .int sn, .int (nI si), .int gr, .int (nI gp), .ref mF, .ref mO, .ref mV, .int lf, .int (pjd lf)])), (mA, .inl (cJ, 64, .inr (.inl fM))), (mC, .inl (cI, 64, .inl cM)), (mT, .inl (cJ, 64, .inr (.inl tM))), (mF, .inl (cI, 60, .inl fF)), (mO, .inl (cI, 60, .inl tF)), (mV, .inl (cJ, 60, .inr (.inl vM)))] (some (.int (pjb (pmRb fF tF vM gp 0 true (pjC n fM tM)).1))) [(oM, .inr (4, [.int kd, .int (nI n), .int (nI J), .ref mA, .ref mC, .ref mT, .int (nI us), .int wr, .int sn, .int (nI si), .int gr, .int (nI gp), .ref mF, .ref mO, .ref mV, .int lf, .int (pjd lf)])), (mA, .inl (cJ, 64, .inr (.inl fM))), (mC, .inl (cI, 64, .inl cM)), (mT, .inl (cJ, 64, .inr (.inl ((pmRb fF tF vM gp 0 true (pjC n fM tM)).2)))), (mF, .inl (cI, 60, .inl fF)), (mO, .inl (cI, 60, .inl tF)), (mV, .inl (cJ, 60, .inr (.inl vM)))] 0 0 := by
  refine pj_of (by decide) rfl (Nat.le_of_ble_eq_true rfl) ?_
  intro p e s m below meth c A ls hx hb hml hr hts hown hlocks hin hA hK hP hD hS hG hl
  have hl : lv_has ls 3 [(0, .ref oM)] := hl
  refine lv_iconst (v := 0) hx hb dM_isRich_0 (by decide) ?_
  refine lv_istore_n (lv' := [(1, .int 0), (0, .ref oM)]) hx hb dM_isRich_1 rfl hl (by decide) rfl (fun ls hl => ?_)
  suffices loop : ∀ (k i : Nat), i + k = n → ∀ (H : Heap) (locs : List Loc), va_P D vwCl [(oM, .inr (4, [.int kd, .int (nI n), .int (nI J), .ref mA, .ref mC, .ref mT, .int (nI us), .int wr, .int sn, .int (nI si), .int gr, .int (nI gp), .ref mF, .ref mO, .ref mV, .int lf, .int (pjd lf)])), (mA, .inl (cJ, 64, .inr (.inl fM))), (mC, .inl (cI, 64, .inl cM)), (mT, .inl (cJ, 64, .inr (.inl (pjC i fM tM)))), (mF, .inl (cI, 60, .inl fF)), (mO, .inl (cI, 60, .inl tF)), (mV, .inl (cJ, 60, .inr (.inl vM)))] H → va_D A [(oM, .inr (4, [.int kd, .int (nI n), .int (nI J), .ref mA, .ref mC, .ref mT, .int (nI us), .int wr, .int sn, .int (nI si), .int gr, .int (nI gp), .ref mF, .ref mO, .ref mV, .int lf, .int (pjd lf)])), (mA, .inl (cJ, 64, .inr (.inl fM))), (mC, .inl (cI, 64, .inl cM)), (mT, .inl (cJ, 64, .inr (.inl (pjC i fM tM)))), (mF, .inl (cI, 60, .inl fF)), (mO, .inl (cI, 60, .inl tF)), (mV, .inl (cJ, 60, .inr (.inl vM)))] → va_S A s.heap H locs → ∀ (ls : Array Slot), lv_has ls 3 [(1, .int (nI i)), (0, .ref oM)] → W p l e ({ frames := 0, cells := 0, slots := 0, locals := 0 }) s m (([.ref oM] : List Value).toArray) below meth c H locs 0 0 (MQ below (pj_Q (some (.int (pjb (pmRb fF tF vM gp 0 true (pjC n fM tM)).1))) [(oM, .inr (4, [.int kd, .int (nI n), .int (nI J), .ref mA, .ref mC, .ref mT, .int (nI us), .int wr, .int sn, .int (nI si), .int gr, .int (nI gp), .ref mF, .ref mO, .ref mV, .int lf, .int (pjd lf)])), (mA, .inl (cJ, 64, .inr (.inl fM))), (mC, .inl (cI, 64, .inl cM)), (mT, .inl (cJ, 64, .inr (.inl ((pmRb fF tF vM gp 0 true (pjC n fM tM)).2)))), (mF, .inl (cI, 60, .inl fF)), (mO, .inl (cI, 60, .inl tF)), (mV, .inl (cJ, 60, .inr (.inl vM)))] D vwCl A) (([.ref oM] : List Value).toArray) s 0 0 A) (F0 m 2 ls []) by
    exact loop n 0 (by omega) s.heap [] (by rw [pjC_0]; exact hP) (by rw [pjC_0]; exact hD) hS ls (lv_sub hl [0, 1] rfl)
  intro k
  induction k with
  | zero =>
    intro i hi H locs hP hD hS ls hl
    refine lv_iload_n hx hb dM_isRich_2 rfl (lv_at hl 0 rfl) ?_
    refine lv_aload_n hx hb dM_isRich_3 rfl (lv_at hl 1 rfl) ?_
    refine va_get (D := D) (ci := 4) (v := .int (nI n)) (C := "ReplayJournalModel") (T := TM) (N := 17) hx hb hts (pj_ups inM) hown hK hP 0 rfl rfl 1 (by decide) (hts _ (pj_up m_425)) (fun _ h9 => h9) rfl dM_isRich_4 ?_
    refine lv_icmp_ge (tgt := 28) hx hb dM_isRich_7 (by decide) (fun _ => ?_) (fun h9 => (h9 (nI_le (by omega) (by omega))).elim)
    rw [show i = n from by omega] at hP hD
    refine lv_iconst (v := 1) hx hb dM_isRich_28 (by decide) ?_
    refine lv_istore_n (lv' := [(1, .int 1), (0, .ref oM)]) hx hb dM_isRich_29 rfl hl (by decide) rfl (fun ls hl => ?_)
    refine lv_iconst (v := 0) hx hb dM_isRich_30 (by decide) ?_
    refine lv_istore_n (lv' := [(2, .int 0), (1, .int 1), (0, .ref oM)]) hx hb dM_isRich_31 rfl hl (by decide) rfl (fun ls hl => ?_)
    suffices loop : ∀ (k i : Nat) (r : Bool) (t : Nat → Int64), i + k = gp → pmRb fF tF vM k i r t = pmRb fF tF vM gp 0 true (pjC n fM tM) → ∀ (H : Heap) (locs : List Loc), va_P D vwCl [(oM, .inr (4, [.int kd, .int (nI n), .int (nI J), .ref mA, .ref mC, .ref mT, .int (nI us), .int wr, .int sn, .int (nI si), .int gr, .int (nI gp), .ref mF, .ref mO, .ref mV, .int lf, .int (pjd lf)])), (mA, .inl (cJ, 64, .inr (.inl fM))), (mC, .inl (cI, 64, .inl cM)), (mT, .inl (cJ, 64, .inr (.inl t))), (mF, .inl (cI, 60, .inl fF)), (mO, .inl (cI, 60, .inl tF)), (mV, .inl (cJ, 60, .inr (.inl vM)))] H → va_D A [(oM, .inr (4, [.int kd, .int (nI n), .int (nI J), .ref mA, .ref mC, .ref mT, .int (nI us), .int wr, .int sn, .int (nI si), .int gr, .int (nI gp), .ref mF, .ref mO, .ref mV, .int lf, .int (pjd lf)])), (mA, .inl (cJ, 64, .inr (.inl fM))), (mC, .inl (cI, 64, .inl cM)), (mT, .inl (cJ, 64, .inr (.inl t))), (mF, .inl (cI, 60, .inl fF)), (mO, .inl (cI, 60, .inl tF)), (mV, .inl (cJ, 60, .inr (.inl vM)))] → va_S A s.heap H locs → ∀ (ls : Array Slot), lv_has ls 3 [(2, .int (nI i)), (1, .int (pjb r)), (0, .ref oM)] → W p l e ({ frames := 0, cells := 0, slots := 0, locals := 0 }) s m (([.ref oM] : List Value).toArray) below meth c H locs 0 0 (MQ below (pj_Q (some (.int (pjb (pmRb fF tF vM gp 0 true (pjC n fM tM)).1))) [(oM, .inr (4, [.int kd, .int (nI n), .int (nI J), .ref mA, .ref mC, .ref mT, .int (nI us), .int wr, .int sn, .int (nI si), .int gr, .int (nI gp), .ref mF, .ref mO, .ref mV, .int lf, .int (pjd lf)])), (mA, .inl (cJ, 64, .inr (.inl fM))), (mC, .inl (cI, 64, .inl cM)), (mT, .inl (cJ, 64, .inr (.inl ((pmRb fF tF vM gp 0 true (pjC n fM tM)).2)))), (mF, .inl (cI, 60, .inl fF)), (mO, .inl (cI, 60, .inl tF)), (mV, .inl (cJ, 60, .inr (.inl vM)))] D vwCl A) (([.ref oM] : List Value).toArray) s 0 0 A) (F0 m 32 ls []) by
      exact loop gp 0 true (pjC n fM tM) (by omega) rfl H locs hP hD hS ls (lv_sub hl [0, 1, 2] rfl)
    intro k
    induction k with
    | zero =>
      intro i r t hi hb9 H locs hP hD hS ls hl
      refine lv_iload_n hx hb dM_isRich_32 rfl (lv_at hl 0 rfl) ?_
      refine lv_aload_n hx hb dM_isRich_33 rfl (lv_at hl 2 rfl) ?_
      refine va_get (D := D) (ci := 4) (v := .int (nI gp)) (C := "ReplayJournalModel") (T := TM) (N := 17) hx hb hts (pj_ups inM) hown hK hP 0 rfl rfl 11 (by decide) (hts _ (pj_up m_435)) (fun _ h9 => h9) rfl dM_isRich_34 ?_
      refine lv_icmp_ge (tgt := 156) hx hb dM_isRich_37 (by decide) (fun _ => ?_) (fun h9 => (h9 (nI_le (by omega) (by omega))).elim)
      refine lv_iload_n hx hb dM_isRich_156 rfl (lv_at hl 1 rfl) ?_
      exact pj_zret hx hb hr hlocks hP hD hS (by rw [← hb9, pmRb] <;> rfl) (by rw [← hb9, pmRb] <;> rfl) (pjb_n) dM_isRich_157
    | succ k ih =>
      intro i r t hi hb9 H locs hP hD hS ls hl
      refine lv_iload_n hx hb dM_isRich_32 rfl (lv_at hl 0 rfl) ?_
      refine lv_aload_n hx hb dM_isRich_33 rfl (lv_at hl 2 rfl) ?_
      refine va_get (D := D) (ci := 4) (v := .int (nI gp)) (C := "ReplayJournalModel") (T := TM) (N := 17) hx hb hts (pj_ups inM) hown hK hP 0 rfl rfl 11 (by decide) (hts _ (pj_up m_435)) (fun _ h9 => h9) rfl dM_isRich_34 ?_
      refine lv_icmp_ge (tgt := 156) hx hb dM_isRich_37 (by decide) (fun h9 => absurd h9 (nI_ge (by omega) (by omega))) (fun _ => ?_)
      have hix : (nI i).toNatClampNeg = i := nI_clamp (by omega)
      refine lv_aload_n hx hb dM_isRich_40 rfl (lv_at hl 2 rfl) ?_
      refine va_get (D := D) (ci := 4) (v := .ref mF) (C := "ReplayJournalModel") (T := TM) (N := 17) hx hb hts (pj_ups inM) hown hK hP 0 rfl rfl 12 (by decide) (hts _ (pj_up m_436)) (fun _ h9 => h9) rfl dM_isRich_41 ?_
      refine lv_iload_n hx hb dM_isRich_44 rfl (lv_at hl 0 rfl) ?_
      refine va_iald hx hb hK hP 4 0 rfl rfl (vp_in_nI (by omega) (by omega)) dM_isRich_45 ?_
      refine lv_topi (fun y9 e9 => ?_)
      have e9 : y9 = fF i := e9.trans (congrArg fF hix)
      subst e9
      by_cases ca : fF i < 0
      · refine lv_if_lt (tgt := 95) hx hb dM_isRich_46 (by decide) (fun _ => ?_) (fun h9 => (h9 ca).elim)
        refine lv_aload_n hx hb dM_isRich_95 rfl (lv_at hl 2 rfl) ?_
        refine va_get (D := D) (ci := 4) (v := .ref mT) (C := "ReplayJournalModel") (T := TM) (N := 17) hx hb hts (pj_ups inM) hown hK hP 0 rfl rfl 5 (by decide) (hts _ (pj_up m_429)) (fun _ h9 => h9) rfl dM_isRich_96 ?_
        refine lv_aload_n hx hb dM_isRich_99 rfl (lv_at hl 2 rfl) ?_
        refine va_get (D := D) (ci := 4) (v := .ref mO) (C := "ReplayJournalModel") (T := TM) (N := 17) hx hb hts (pj_ups inM) hown hK hP 0 rfl rfl 13 (by decide) (hts _ (pj_up m_437)) (fun _ h9 => h9) rfl dM_isRich_100 ?_
        refine lv_iload_n hx hb dM_isRich_103 rfl (lv_at hl 0 rfl) ?_
        refine va_iald hx hb hK hP 5 0 rfl rfl (vp_in_nI (by omega) (by omega)) dM_isRich_104 ?_
        refine lv_topi (fun y9 e9 => ?_)
        have e9 : y9 = tF i := e9.trans (congrArg tF hix)
        subst e9
        refine lv_dup2_11 hx hb dM_isRich_105 rfl rfl ?_
        refine va_lald hx hb hK hP 3 1 rfl rfl (pjH_64 hn (hv i (by omega)).2) dM_isRich_106 ?_
        refine lv_aload_n hx hb dM_isRich_107 rfl (lv_at hl 2 rfl) ?_
        refine va_get (D := D) (ci := 4) (v := .ref mV) (C := "ReplayJournalModel") (T := TM) (N := 17) hx hb hts (pj_ups inM) hown hK hP 0 rfl rfl 14 (by decide) (hts _ (pj_up m_438)) (fun _ h9 => h9) rfl dM_isRich_108 ?_
        refine lv_iload_n hx hb dM_isRich_111 rfl (lv_at hl 0 rfl) ?_
        refine va_lald hx hb hK hP 6 1 rfl rfl (vp_in_nI (by omega) (by omega)) dM_isRich_112 ?_
        refine lv_topl (fun y9 e9 => ?_)
        have e9 : y9 = vM i := e9.trans (congrArg vM hix)
        subst e9
        refine lv_ladd hx hb dM_isRich_113 ?_
        refine va_last hx hb hK hP hD hS 3 1 rfl rfl (pjH_64 hn (hv i (by omega)).2) dM_isRich_114 (fun H locs hP hD hS => ?_)
        have hP : va_P D vwCl [(oM, .inr (4, [.int kd, .int (nI n), .int (nI J), .ref mA, .ref mC, .ref mT, .int (nI us), .int wr, .int sn, .int (nI si), .int gr, .int (nI gp), .ref mF, .ref mO, .ref mV, .int lf, .int (pjd lf)])), (mA, .inl (cJ, 64, .inr (.inl fM))), (mC, .inl (cI, 64, .inl cM)), (mT, .inl (cJ, 64, .inr (.inl (vp_updL t ((tF i).toNatClampNeg) ((t ((tF i).toNatClampNeg)) + (vM i)))))), (mF, .inl (cI, 60, .inl fF)), (mO, .inl (cI, 60, .inl tF)), (mV, .inl (cJ, 60, .inr (.inl vM)))] H := hP
        have hD : va_D A [(oM, .inr (4, [.int kd, .int (nI n), .int (nI J), .ref mA, .ref mC, .ref mT, .int (nI us), .int wr, .int sn, .int (nI si), .int gr, .int (nI gp), .ref mF, .ref mO, .ref mV, .int lf, .int (pjd lf)])), (mA, .inl (cJ, 64, .inr (.inl fM))), (mC, .inl (cI, 64, .inl cM)), (mT, .inl (cJ, 64, .inr (.inl (vp_updL t ((tF i).toNatClampNeg) ((t ((tF i).toNatClampNeg)) + (vM i)))))), (mF, .inl (cI, 60, .inl fF)), (mO, .inl (cI, 60, .inl tF)), (mV, .inl (cJ, 60, .inr (.inl vM)))] := hD
        by_cases hr9 : r = true
        · refine lv_iload_n hx hb dM_isRich_115 rfl (lv_at hl 1 rfl) ?_
          refine lv_if_eq (tgt := 148) hx hb dM_isRich_116 (by decide) (fun h9 => absurd h9 (by rw [hr9]; decide)) (fun _ => ?_)
          refine lv_aload_n hx hb dM_isRich_119 rfl (lv_at hl 2 rfl) ?_
          refine va_get (D := D) (ci := 4) (v := .ref mF) (C := "ReplayJournalModel") (T := TM) (N := 17) hx hb hts (pj_ups inM) hown hK hP 0 rfl rfl 12 (by decide) (hts _ (pj_up m_436)) (fun _ h9 => h9) rfl dM_isRich_120 ?_
          refine lv_iload_n hx hb dM_isRich_123 rfl (lv_at hl 0 rfl) ?_
          refine va_iald hx hb hK hP 4 0 rfl rfl (vp_in_nI (by omega) (by omega)) dM_isRich_124 ?_
          refine lv_topi (fun y9 e9 => ?_)
          have e9 : y9 = fF i := e9.trans (congrArg fF hix)
          subst e9
          refine lv_if_ge (tgt := 144) hx hb dM_isRich_125 (by decide) (fun h9 => absurd h9 (Int32.not_le.mpr ca)) (fun _ => ?_)
          refine lv_aload_n hx hb dM_isRich_128 rfl (lv_at hl 2 rfl) ?_
          refine va_get (D := D) (ci := 4) (v := .ref mT) (C := "ReplayJournalModel") (T := TM) (N := 17) hx hb hts (pj_ups inM) hown hK hP 0 rfl rfl 5 (by decide) (hts _ (pj_up m_429)) (fun _ h9 => h9) rfl dM_isRich_129 ?_
          refine lv_aload_n hx hb dM_isRich_132 rfl (lv_at hl 2 rfl) ?_
          refine va_get (D := D) (ci := 4) (v := .ref mO) (C := "ReplayJournalModel") (T := TM) (N := 17) hx hb hts (pj_ups inM) hown hK hP 0 rfl rfl 13 (by decide) (hts _ (pj_up m_437)) (fun _ h9 => h9) rfl dM_isRich_133 ?_
          refine lv_iload_n hx hb dM_isRich_136 rfl (lv_at hl 0 rfl) ?_
          refine va_iald hx hb hK hP 5 0 rfl rfl (vp_in_nI (by omega) (by omega)) dM_isRich_137 ?_
          refine lv_topi (fun y9 e9 => ?_)
          have e9 : y9 = tF i := e9.trans (congrArg tF hix)
          subst e9
          refine va_lald hx hb hK hP 3 1 rfl rfl (pjH_64 hn (hv i (by omega)).2) dM_isRich_138 ?_
          refine lv_topl (fun y9 e9 => ?_)
          have e9 : y9 = t (tF i).toNatClampNeg + vM i := e9.trans (pk_uLs)
          subst e9
          refine lv_lconst (v := 0) hx hb dM_isRich_139 (by decide) ?_
          refine W.lcmp hx hb dM_isRich_140 ?_
          refine lv_if_lt (tgt := 148) hx hb dM_isRich_141 (by decide) (fun c8 => ?_) (fun c8 => ?_)
          · refine lv_iconst (v := 0) hx hb dM_isRich_148 (by decide) ?_
            refine lv_istore_n (lv' := [(1, .int 0), (2, .int (nI i)), (0, .ref oM)]) hx hb dM_isRich_149 rfl hl (by decide) rfl (fun ls hl => ?_)
            refine lv_iinc (v := nI (i + 1)) (lv' := [(2, .int (nI (i + 1))), (1, .int 0), (0, .ref oM)]) hx hb dM_isRich_150 hl (k := 1) rfl (nI_1 i) (by decide) rfl (fun ls hl => ?_)
            refine lv_goto (tgt := 32) hx hb dM_isRich_153 (by decide) ?_
            have ep : pmT t (fF i) (tF i) (vM i) = vp_updL t ((tF i).toNatClampNeg) ((t ((tF i).toNatClampNeg)) + (vM i)) := if_pos ca
            have er : (r && pmOkb t (fF i) (tF i) (vM i)) = false := by simp [pmOkb, ca, hr9, (lg_cmp_lt _ _).mp c8]
            exact ih (i + 1) (r && pmOkb t (fF i) (tF i) (vM i)) (pmT t (fF i) (tF i) (vM i)) (by omega) (by rw [← hb9, pmRb]) H locs (by rw [ep]; exact hP) (by rw [ep]; exact hD) hS ls (by rw [er]; exact lv_sub hl [0, 1, 2] rfl)
          · refine lv_iconst (v := 1) hx hb dM_isRich_144 (by decide) ?_
            refine lv_goto (tgt := 149) hx hb dM_isRich_145 (by decide) ?_
            refine lv_istore_n (lv' := [(1, .int 1), (2, .int (nI i)), (0, .ref oM)]) hx hb dM_isRich_149 rfl hl (by decide) rfl (fun ls hl => ?_)
            refine lv_iinc (v := nI (i + 1)) (lv' := [(2, .int (nI (i + 1))), (1, .int 1), (0, .ref oM)]) hx hb dM_isRich_150 hl (k := 1) rfl (nI_1 i) (by decide) rfl (fun ls hl => ?_)
            refine lv_goto (tgt := 32) hx hb dM_isRich_153 (by decide) ?_
            have ep : pmT t (fF i) (tF i) (vM i) = vp_updL t ((tF i).toNatClampNeg) ((t ((tF i).toNatClampNeg)) + (vM i)) := if_pos ca
            have er : (r && pmOkb t (fF i) (tF i) (vM i)) = true := by simp [pmOkb, ca, hr9, (show ¬ t (tF i).toNatClampNeg + vM i < 0 from fun q => c8 ((lg_cmp_lt _ _).mpr q))]
            exact ih (i + 1) (r && pmOkb t (fF i) (tF i) (vM i)) (pmT t (fF i) (tF i) (vM i)) (by omega) (by rw [← hb9, pmRb]) H locs (by rw [ep]; exact hP) (by rw [ep]; exact hD) hS ls (by rw [er]; exact lv_sub hl [0, 1, 2] rfl)
        · refine lv_iload_n hx hb dM_isRich_115 rfl (lv_at hl 1 rfl) ?_
          refine lv_if_eq (tgt := 148) hx hb dM_isRich_116 (by decide) (fun _ => ?_) (fun h9 => (h9 (by rw [Bool.eq_false_iff.mpr hr9]; rfl)).elim)
          refine lv_iconst (v := 0) hx hb dM_isRich_148 (by decide) ?_
          refine lv_istore_n (lv' := [(1, .int 0), (2, .int (nI i)), (0, .ref oM)]) hx hb dM_isRich_149 rfl hl (by decide) rfl (fun ls hl => ?_)
          refine lv_iinc (v := nI (i + 1)) (lv' := [(2, .int (nI (i + 1))), (1, .int 0), (0, .ref oM)]) hx hb dM_isRich_150 hl (k := 1) rfl (nI_1 i) (by decide) rfl (fun ls hl => ?_)
          refine lv_goto (tgt := 32) hx hb dM_isRich_153 (by decide) ?_
          have ep : pmT t (fF i) (tF i) (vM i) = vp_updL t ((tF i).toNatClampNeg) ((t ((tF i).toNatClampNeg)) + (vM i)) := if_pos ca
          have er : (r && pmOkb t (fF i) (tF i) (vM i)) = false := by simp [pmOkb, ca, hr9]
          exact ih (i + 1) (r && pmOkb t (fF i) (tF i) (vM i)) (pmT t (fF i) (tF i) (vM i)) (by omega) (by rw [← hb9, pmRb]) H locs (by rw [ep]; exact hP) (by rw [ep]; exact hD) hS ls (by rw [er]; exact lv_sub hl [0, 1, 2] rfl)
      · refine lv_if_lt (tgt := 95) hx hb dM_isRich_46 (by decide) (fun h9 => absurd h9 ca) (fun _ => ?_)
        refine lv_aload_n hx hb dM_isRich_49 rfl (lv_at hl 2 rfl) ?_
        refine va_get (D := D) (ci := 4) (v := .ref mT) (C := "ReplayJournalModel") (T := TM) (N := 17) hx hb hts (pj_ups inM) hown hK hP 0 rfl rfl 5 (by decide) (hts _ (pj_up m_429)) (fun _ h9 => h9) rfl dM_isRich_50 ?_
        refine lv_aload_n hx hb dM_isRich_53 rfl (lv_at hl 2 rfl) ?_
        refine va_get (D := D) (ci := 4) (v := .ref mF) (C := "ReplayJournalModel") (T := TM) (N := 17) hx hb hts (pj_ups inM) hown hK hP 0 rfl rfl 12 (by decide) (hts _ (pj_up m_436)) (fun _ h9 => h9) rfl dM_isRich_54 ?_
        refine lv_iload_n hx hb dM_isRich_57 rfl (lv_at hl 0 rfl) ?_
        refine va_iald hx hb hK hP 4 0 rfl rfl (vp_in_nI (by omega) (by omega)) dM_isRich_58 ?_
        refine lv_topi (fun y9 e9 => ?_)
        have e9 : y9 = fF i := e9.trans (congrArg fF hix)
        subst e9
        refine lv_dup2_11 hx hb dM_isRich_59 rfl rfl ?_
        refine va_lald hx hb hK hP 3 1 rfl rfl (pjH_64 hn ((hv i (by omega)).1.resolve_left ca)) dM_isRich_60 ?_
        refine lv_aload_n hx hb dM_isRich_61 rfl (lv_at hl 2 rfl) ?_
        refine va_get (D := D) (ci := 4) (v := .ref mV) (C := "ReplayJournalModel") (T := TM) (N := 17) hx hb hts (pj_ups inM) hown hK hP 0 rfl rfl 14 (by decide) (hts _ (pj_up m_438)) (fun _ h9 => h9) rfl dM_isRich_62 ?_
        refine lv_iload_n hx hb dM_isRich_65 rfl (lv_at hl 0 rfl) ?_
        refine va_lald hx hb hK hP 6 1 rfl rfl (vp_in_nI (by omega) (by omega)) dM_isRich_66 ?_
        refine lv_topl (fun y9 e9 => ?_)
        have e9 : y9 = vM i := e9.trans (congrArg vM hix)
        subst e9
        refine lv_lsub hx hb dM_isRich_67 ?_
        refine va_last hx hb hK hP hD hS 3 1 rfl rfl (pjH_64 hn ((hv i (by omega)).1.resolve_left ca)) dM_isRich_68 (fun H locs hP hD hS => ?_)
        have hP : va_P D vwCl [(oM, .inr (4, [.int kd, .int (nI n), .int (nI J), .ref mA, .ref mC, .ref mT, .int (nI us), .int wr, .int sn, .int (nI si), .int gr, .int (nI gp), .ref mF, .ref mO, .ref mV, .int lf, .int (pjd lf)])), (mA, .inl (cJ, 64, .inr (.inl fM))), (mC, .inl (cI, 64, .inl cM)), (mT, .inl (cJ, 64, .inr (.inl (vp_updL t ((fF i).toNatClampNeg) ((t ((fF i).toNatClampNeg)) - (vM i)))))), (mF, .inl (cI, 60, .inl fF)), (mO, .inl (cI, 60, .inl tF)), (mV, .inl (cJ, 60, .inr (.inl vM)))] H := hP
        have hD : va_D A [(oM, .inr (4, [.int kd, .int (nI n), .int (nI J), .ref mA, .ref mC, .ref mT, .int (nI us), .int wr, .int sn, .int (nI si), .int gr, .int (nI gp), .ref mF, .ref mO, .ref mV, .int lf, .int (pjd lf)])), (mA, .inl (cJ, 64, .inr (.inl fM))), (mC, .inl (cI, 64, .inl cM)), (mT, .inl (cJ, 64, .inr (.inl (vp_updL t ((fF i).toNatClampNeg) ((t ((fF i).toNatClampNeg)) - (vM i)))))), (mF, .inl (cI, 60, .inl fF)), (mO, .inl (cI, 60, .inl tF)), (mV, .inl (cJ, 60, .inr (.inl vM)))] := hD
        by_cases hr9 : r = true
        · refine lv_iload_n hx hb dM_isRich_69 rfl (lv_at hl 1 rfl) ?_
          refine lv_if_eq (tgt := 93) hx hb dM_isRich_70 (by decide) (fun h9 => absurd h9 (by rw [hr9]; decide)) (fun _ => ?_)
          refine lv_aload_n hx hb dM_isRich_73 rfl (lv_at hl 2 rfl) ?_
          refine va_get (D := D) (ci := 4) (v := .ref mT) (C := "ReplayJournalModel") (T := TM) (N := 17) hx hb hts (pj_ups inM) hown hK hP 0 rfl rfl 5 (by decide) (hts _ (pj_up m_429)) (fun _ h9 => h9) rfl dM_isRich_74 ?_
          refine lv_aload_n hx hb dM_isRich_77 rfl (lv_at hl 2 rfl) ?_
          refine va_get (D := D) (ci := 4) (v := .ref mF) (C := "ReplayJournalModel") (T := TM) (N := 17) hx hb hts (pj_ups inM) hown hK hP 0 rfl rfl 12 (by decide) (hts _ (pj_up m_436)) (fun _ h9 => h9) rfl dM_isRich_78 ?_
          refine lv_iload_n hx hb dM_isRich_81 rfl (lv_at hl 0 rfl) ?_
          refine va_iald hx hb hK hP 4 0 rfl rfl (vp_in_nI (by omega) (by omega)) dM_isRich_82 ?_
          refine lv_topi (fun y9 e9 => ?_)
          have e9 : y9 = fF i := e9.trans (congrArg fF hix)
          subst e9
          refine va_lald hx hb hK hP 3 1 rfl rfl (pjH_64 hn ((hv i (by omega)).1.resolve_left ca)) dM_isRich_83 ?_
          refine lv_topl (fun y9 e9 => ?_)
          have e9 : y9 = t (fF i).toNatClampNeg - vM i := e9.trans (pk_uLs)
          subst e9
          refine lv_lconst (v := 0) hx hb dM_isRich_84 (by decide) ?_
          refine W.lcmp hx hb dM_isRich_85 ?_
          refine lv_if_lt (tgt := 93) hx hb dM_isRich_86 (by decide) (fun c8 => ?_) (fun c8 => ?_)
          · refine lv_iconst (v := 0) hx hb dM_isRich_93 (by decide) ?_
            refine lv_istore_n (lv' := [(1, .int 0), (2, .int (nI i)), (0, .ref oM)]) hx hb dM_isRich_94 rfl hl (by decide) rfl (fun ls hl => ?_)
            refine lv_aload_n hx hb dM_isRich_95 rfl (lv_at hl 2 rfl) ?_
            refine va_get (D := D) (ci := 4) (v := .ref mT) (C := "ReplayJournalModel") (T := TM) (N := 17) hx hb hts (pj_ups inM) hown hK hP 0 rfl rfl 5 (by decide) (hts _ (pj_up m_429)) (fun _ h9 => h9) rfl dM_isRich_96 ?_
            refine lv_aload_n hx hb dM_isRich_99 rfl (lv_at hl 2 rfl) ?_
            refine va_get (D := D) (ci := 4) (v := .ref mO) (C := "ReplayJournalModel") (T := TM) (N := 17) hx hb hts (pj_ups inM) hown hK hP 0 rfl rfl 13 (by decide) (hts _ (pj_up m_437)) (fun _ h9 => h9) rfl dM_isRich_100 ?_
            refine lv_iload_n hx hb dM_isRich_103 rfl (lv_at hl 1 rfl) ?_
            refine va_iald hx hb hK hP 5 0 rfl rfl (vp_in_nI (by omega) (by omega)) dM_isRich_104 ?_
            refine lv_topi (fun y9 e9 => ?_)
            have e9 : y9 = tF i := e9.trans (congrArg tF hix)
            subst e9
            refine lv_dup2_11 hx hb dM_isRich_105 rfl rfl ?_
            refine va_lald hx hb hK hP 3 1 rfl rfl (pjH_64 hn (hv i (by omega)).2) dM_isRich_106 ?_
            refine lv_aload_n hx hb dM_isRich_107 rfl (lv_at hl 2 rfl) ?_
            refine va_get (D := D) (ci := 4) (v := .ref mV) (C := "ReplayJournalModel") (T := TM) (N := 17) hx hb hts (pj_ups inM) hown hK hP 0 rfl rfl 14 (by decide) (hts _ (pj_up m_438)) (fun _ h9 => h9) rfl dM_isRich_108 ?_
            refine lv_iload_n hx hb dM_isRich_111 rfl (lv_at hl 1 rfl) ?_
            refine va_lald hx hb hK hP 6 1 rfl rfl (vp_in_nI (by omega) (by omega)) dM_isRich_112 ?_
            refine lv_topl (fun y9 e9 => ?_)
            have e9 : y9 = vM i := e9.trans (congrArg vM hix)
            subst e9
            refine lv_ladd hx hb dM_isRich_113 ?_
            refine va_last hx hb hK hP hD hS 3 1 rfl rfl (pjH_64 hn (hv i (by omega)).2) dM_isRich_114 (fun H locs hP hD hS => ?_)
            have hP : va_P D vwCl [(oM, .inr (4, [.int kd, .int (nI n), .int (nI J), .ref mA, .ref mC, .ref mT, .int (nI us), .int wr, .int sn, .int (nI si), .int gr, .int (nI gp), .ref mF, .ref mO, .ref mV, .int lf, .int (pjd lf)])), (mA, .inl (cJ, 64, .inr (.inl fM))), (mC, .inl (cI, 64, .inl cM)), (mT, .inl (cJ, 64, .inr (.inl (vp_updL (vp_updL t ((fF i).toNatClampNeg) ((t ((fF i).toNatClampNeg)) - (vM i))) ((tF i).toNatClampNeg) (((vp_updL t ((fF i).toNatClampNeg) ((t ((fF i).toNatClampNeg)) - (vM i))) ((tF i).toNatClampNeg)) + (vM i)))))), (mF, .inl (cI, 60, .inl fF)), (mO, .inl (cI, 60, .inl tF)), (mV, .inl (cJ, 60, .inr (.inl vM)))] H := hP
            have hD : va_D A [(oM, .inr (4, [.int kd, .int (nI n), .int (nI J), .ref mA, .ref mC, .ref mT, .int (nI us), .int wr, .int sn, .int (nI si), .int gr, .int (nI gp), .ref mF, .ref mO, .ref mV, .int lf, .int (pjd lf)])), (mA, .inl (cJ, 64, .inr (.inl fM))), (mC, .inl (cI, 64, .inl cM)), (mT, .inl (cJ, 64, .inr (.inl (vp_updL (vp_updL t ((fF i).toNatClampNeg) ((t ((fF i).toNatClampNeg)) - (vM i))) ((tF i).toNatClampNeg) (((vp_updL t ((fF i).toNatClampNeg) ((t ((fF i).toNatClampNeg)) - (vM i))) ((tF i).toNatClampNeg)) + (vM i)))))), (mF, .inl (cI, 60, .inl fF)), (mO, .inl (cI, 60, .inl tF)), (mV, .inl (cJ, 60, .inr (.inl vM)))] := hD
            refine lv_iload_n hx hb dM_isRich_115 rfl (lv_at hl 0 rfl) ?_
            refine lv_if_eq (tgt := 148) hx hb dM_isRich_116 (by decide) (fun _ => ?_) (fun h9 => (h9 rfl).elim)
            refine lv_iconst (v := 0) hx hb dM_isRich_148 (by decide) ?_
            refine lv_istore_n (lv' := [(1, .int 0), (2, .int (nI i)), (0, .ref oM)]) hx hb dM_isRich_149 rfl hl (by decide) rfl (fun ls hl => ?_)
            refine lv_iinc (v := nI (i + 1)) (lv' := [(2, .int (nI (i + 1))), (1, .int 0), (0, .ref oM)]) hx hb dM_isRich_150 hl (k := 1) rfl (nI_1 i) (by decide) rfl (fun ls hl => ?_)
            refine lv_goto (tgt := 32) hx hb dM_isRich_153 (by decide) ?_
            have ep : pmT t (fF i) (tF i) (vM i) = vp_updL (vp_updL t ((fF i).toNatClampNeg) ((t ((fF i).toNatClampNeg)) - (vM i))) ((tF i).toNatClampNeg) (((vp_updL t ((fF i).toNatClampNeg) ((t ((fF i).toNatClampNeg)) - (vM i))) ((tF i).toNatClampNeg)) + (vM i)) := if_neg ca
            have er : (r && pmOkb t (fF i) (tF i) (vM i)) = false := by simp [pmOkb, ca, hr9, (lg_cmp_lt _ _).mp c8]
            exact ih (i + 1) (r && pmOkb t (fF i) (tF i) (vM i)) (pmT t (fF i) (tF i) (vM i)) (by omega) (by rw [← hb9, pmRb]) H locs (by rw [ep]; exact hP) (by rw [ep]; exact hD) hS ls (by rw [er]; exact lv_sub hl [0, 1, 2] rfl)
          · refine lv_iconst (v := 1) hx hb dM_isRich_89 (by decide) ?_
            refine lv_goto (tgt := 94) hx hb dM_isRich_90 (by decide) ?_
            refine lv_istore_n (lv' := [(1, .int 1), (2, .int (nI i)), (0, .ref oM)]) hx hb dM_isRich_94 rfl hl (by decide) rfl (fun ls hl => ?_)
            refine lv_aload_n hx hb dM_isRich_95 rfl (lv_at hl 2 rfl) ?_
            refine va_get (D := D) (ci := 4) (v := .ref mT) (C := "ReplayJournalModel") (T := TM) (N := 17) hx hb hts (pj_ups inM) hown hK hP 0 rfl rfl 5 (by decide) (hts _ (pj_up m_429)) (fun _ h9 => h9) rfl dM_isRich_96 ?_
            refine lv_aload_n hx hb dM_isRich_99 rfl (lv_at hl 2 rfl) ?_
            refine va_get (D := D) (ci := 4) (v := .ref mO) (C := "ReplayJournalModel") (T := TM) (N := 17) hx hb hts (pj_ups inM) hown hK hP 0 rfl rfl 13 (by decide) (hts _ (pj_up m_437)) (fun _ h9 => h9) rfl dM_isRich_100 ?_
            refine lv_iload_n hx hb dM_isRich_103 rfl (lv_at hl 1 rfl) ?_
            refine va_iald hx hb hK hP 5 0 rfl rfl (vp_in_nI (by omega) (by omega)) dM_isRich_104 ?_
            refine lv_topi (fun y9 e9 => ?_)
            have e9 : y9 = tF i := e9.trans (congrArg tF hix)
            subst e9
            refine lv_dup2_11 hx hb dM_isRich_105 rfl rfl ?_
            refine va_lald hx hb hK hP 3 1 rfl rfl (pjH_64 hn (hv i (by omega)).2) dM_isRich_106 ?_
            refine lv_aload_n hx hb dM_isRich_107 rfl (lv_at hl 2 rfl) ?_
            refine va_get (D := D) (ci := 4) (v := .ref mV) (C := "ReplayJournalModel") (T := TM) (N := 17) hx hb hts (pj_ups inM) hown hK hP 0 rfl rfl 14 (by decide) (hts _ (pj_up m_438)) (fun _ h9 => h9) rfl dM_isRich_108 ?_
            refine lv_iload_n hx hb dM_isRich_111 rfl (lv_at hl 1 rfl) ?_
            refine va_lald hx hb hK hP 6 1 rfl rfl (vp_in_nI (by omega) (by omega)) dM_isRich_112 ?_
            refine lv_topl (fun y9 e9 => ?_)
            have e9 : y9 = vM i := e9.trans (congrArg vM hix)
            subst e9
            refine lv_ladd hx hb dM_isRich_113 ?_
            refine va_last hx hb hK hP hD hS 3 1 rfl rfl (pjH_64 hn (hv i (by omega)).2) dM_isRich_114 (fun H locs hP hD hS => ?_)
            have hP : va_P D vwCl [(oM, .inr (4, [.int kd, .int (nI n), .int (nI J), .ref mA, .ref mC, .ref mT, .int (nI us), .int wr, .int sn, .int (nI si), .int gr, .int (nI gp), .ref mF, .ref mO, .ref mV, .int lf, .int (pjd lf)])), (mA, .inl (cJ, 64, .inr (.inl fM))), (mC, .inl (cI, 64, .inl cM)), (mT, .inl (cJ, 64, .inr (.inl (vp_updL (vp_updL t ((fF i).toNatClampNeg) ((t ((fF i).toNatClampNeg)) - (vM i))) ((tF i).toNatClampNeg) (((vp_updL t ((fF i).toNatClampNeg) ((t ((fF i).toNatClampNeg)) - (vM i))) ((tF i).toNatClampNeg)) + (vM i)))))), (mF, .inl (cI, 60, .inl fF)), (mO, .inl (cI, 60, .inl tF)), (mV, .inl (cJ, 60, .inr (.inl vM)))] H := hP
            have hD : va_D A [(oM, .inr (4, [.int kd, .int (nI n), .int (nI J), .ref mA, .ref mC, .ref mT, .int (nI us), .int wr, .int sn, .int (nI si), .int gr, .int (nI gp), .ref mF, .ref mO, .ref mV, .int lf, .int (pjd lf)])), (mA, .inl (cJ, 64, .inr (.inl fM))), (mC, .inl (cI, 64, .inl cM)), (mT, .inl (cJ, 64, .inr (.inl (vp_updL (vp_updL t ((fF i).toNatClampNeg) ((t ((fF i).toNatClampNeg)) - (vM i))) ((tF i).toNatClampNeg) (((vp_updL t ((fF i).toNatClampNeg) ((t ((fF i).toNatClampNeg)) - (vM i))) ((tF i).toNatClampNeg)) + (vM i)))))), (mF, .inl (cI, 60, .inl fF)), (mO, .inl (cI, 60, .inl tF)), (mV, .inl (cJ, 60, .inr (.inl vM)))] := hD
            refine lv_iload_n hx hb dM_isRich_115 rfl (lv_at hl 0 rfl) ?_
            refine lv_if_eq (tgt := 148) hx hb dM_isRich_116 (by decide) (fun h9 => absurd h9 (by decide)) (fun _ => ?_)
            refine lv_aload_n hx hb dM_isRich_119 rfl (lv_at hl 2 rfl) ?_
            refine va_get (D := D) (ci := 4) (v := .ref mF) (C := "ReplayJournalModel") (T := TM) (N := 17) hx hb hts (pj_ups inM) hown hK hP 0 rfl rfl 12 (by decide) (hts _ (pj_up m_436)) (fun _ h9 => h9) rfl dM_isRich_120 ?_
            refine lv_iload_n hx hb dM_isRich_123 rfl (lv_at hl 1 rfl) ?_
            refine va_iald hx hb hK hP 4 0 rfl rfl (vp_in_nI (by omega) (by omega)) dM_isRich_124 ?_
            refine lv_topi (fun y9 e9 => ?_)
            have e9 : y9 = fF i := e9.trans (congrArg fF hix)
            subst e9
            refine lv_if_ge (tgt := 144) hx hb dM_isRich_125 (by decide) (fun _ => ?_) (fun h9 => (h9 (Int32.not_lt.mp ca)).elim)
            refine lv_iconst (v := 1) hx hb dM_isRich_144 (by decide) ?_
            refine lv_goto (tgt := 149) hx hb dM_isRich_145 (by decide) ?_
            refine lv_istore_n (lv' := [(1, .int 1), (2, .int (nI i)), (0, .ref oM)]) hx hb dM_isRich_149 rfl hl (by decide) rfl (fun ls hl => ?_)
            refine lv_iinc (v := nI (i + 1)) (lv' := [(2, .int (nI (i + 1))), (1, .int 1), (0, .ref oM)]) hx hb dM_isRich_150 hl (k := 1) rfl (nI_1 i) (by decide) rfl (fun ls hl => ?_)
            refine lv_goto (tgt := 32) hx hb dM_isRich_153 (by decide) ?_
            have ep : pmT t (fF i) (tF i) (vM i) = vp_updL (vp_updL t ((fF i).toNatClampNeg) ((t ((fF i).toNatClampNeg)) - (vM i))) ((tF i).toNatClampNeg) (((vp_updL t ((fF i).toNatClampNeg) ((t ((fF i).toNatClampNeg)) - (vM i))) ((tF i).toNatClampNeg)) + (vM i)) := if_neg ca
            have er : (r && pmOkb t (fF i) (tF i) (vM i)) = true := by simp [pmOkb, ca, hr9, (show ¬ t (fF i).toNatClampNeg - vM i < 0 from fun q => c8 ((lg_cmp_lt _ _).mpr q))]
            exact ih (i + 1) (r && pmOkb t (fF i) (tF i) (vM i)) (pmT t (fF i) (tF i) (vM i)) (by omega) (by rw [← hb9, pmRb]) H locs (by rw [ep]; exact hP) (by rw [ep]; exact hD) hS ls (by rw [er]; exact lv_sub hl [0, 1, 2] rfl)
        · refine lv_iload_n hx hb dM_isRich_69 rfl (lv_at hl 1 rfl) ?_
          refine lv_if_eq (tgt := 93) hx hb dM_isRich_70 (by decide) (fun _ => ?_) (fun h9 => (h9 (by rw [Bool.eq_false_iff.mpr hr9]; rfl)).elim)
          refine lv_iconst (v := 0) hx hb dM_isRich_93 (by decide) ?_
          refine lv_istore_n (lv' := [(1, .int 0), (2, .int (nI i)), (0, .ref oM)]) hx hb dM_isRich_94 rfl hl (by decide) rfl (fun ls hl => ?_)
          refine lv_aload_n hx hb dM_isRich_95 rfl (lv_at hl 2 rfl) ?_
          refine va_get (D := D) (ci := 4) (v := .ref mT) (C := "ReplayJournalModel") (T := TM) (N := 17) hx hb hts (pj_ups inM) hown hK hP 0 rfl rfl 5 (by decide) (hts _ (pj_up m_429)) (fun _ h9 => h9) rfl dM_isRich_96 ?_
          refine lv_aload_n hx hb dM_isRich_99 rfl (lv_at hl 2 rfl) ?_
          refine va_get (D := D) (ci := 4) (v := .ref mO) (C := "ReplayJournalModel") (T := TM) (N := 17) hx hb hts (pj_ups inM) hown hK hP 0 rfl rfl 13 (by decide) (hts _ (pj_up m_437)) (fun _ h9 => h9) rfl dM_isRich_100 ?_
          refine lv_iload_n hx hb dM_isRich_103 rfl (lv_at hl 1 rfl) ?_
          refine va_iald hx hb hK hP 5 0 rfl rfl (vp_in_nI (by omega) (by omega)) dM_isRich_104 ?_
          refine lv_topi (fun y9 e9 => ?_)
          have e9 : y9 = tF i := e9.trans (congrArg tF hix)
          subst e9
          refine lv_dup2_11 hx hb dM_isRich_105 rfl rfl ?_
          refine va_lald hx hb hK hP 3 1 rfl rfl (pjH_64 hn (hv i (by omega)).2) dM_isRich_106 ?_
          refine lv_aload_n hx hb dM_isRich_107 rfl (lv_at hl 2 rfl) ?_
          refine va_get (D := D) (ci := 4) (v := .ref mV) (C := "ReplayJournalModel") (T := TM) (N := 17) hx hb hts (pj_ups inM) hown hK hP 0 rfl rfl 14 (by decide) (hts _ (pj_up m_438)) (fun _ h9 => h9) rfl dM_isRich_108 ?_
          refine lv_iload_n hx hb dM_isRich_111 rfl (lv_at hl 1 rfl) ?_
          refine va_lald hx hb hK hP 6 1 rfl rfl (vp_in_nI (by omega) (by omega)) dM_isRich_112 ?_
          refine lv_topl (fun y9 e9 => ?_)
          have e9 : y9 = vM i := e9.trans (congrArg vM hix)
          subst e9
          refine lv_ladd hx hb dM_isRich_113 ?_
          refine va_last hx hb hK hP hD hS 3 1 rfl rfl (pjH_64 hn (hv i (by omega)).2) dM_isRich_114 (fun H locs hP hD hS => ?_)
          have hP : va_P D vwCl [(oM, .inr (4, [.int kd, .int (nI n), .int (nI J), .ref mA, .ref mC, .ref mT, .int (nI us), .int wr, .int sn, .int (nI si), .int gr, .int (nI gp), .ref mF, .ref mO, .ref mV, .int lf, .int (pjd lf)])), (mA, .inl (cJ, 64, .inr (.inl fM))), (mC, .inl (cI, 64, .inl cM)), (mT, .inl (cJ, 64, .inr (.inl (vp_updL (vp_updL t ((fF i).toNatClampNeg) ((t ((fF i).toNatClampNeg)) - (vM i))) ((tF i).toNatClampNeg) (((vp_updL t ((fF i).toNatClampNeg) ((t ((fF i).toNatClampNeg)) - (vM i))) ((tF i).toNatClampNeg)) + (vM i)))))), (mF, .inl (cI, 60, .inl fF)), (mO, .inl (cI, 60, .inl tF)), (mV, .inl (cJ, 60, .inr (.inl vM)))] H := hP
          have hD : va_D A [(oM, .inr (4, [.int kd, .int (nI n), .int (nI J), .ref mA, .ref mC, .ref mT, .int (nI us), .int wr, .int sn, .int (nI si), .int gr, .int (nI gp), .ref mF, .ref mO, .ref mV, .int lf, .int (pjd lf)])), (mA, .inl (cJ, 64, .inr (.inl fM))), (mC, .inl (cI, 64, .inl cM)), (mT, .inl (cJ, 64, .inr (.inl (vp_updL (vp_updL t ((fF i).toNatClampNeg) ((t ((fF i).toNatClampNeg)) - (vM i))) ((tF i).toNatClampNeg) (((vp_updL t ((fF i).toNatClampNeg) ((t ((fF i).toNatClampNeg)) - (vM i))) ((tF i).toNatClampNeg)) + (vM i)))))), (mF, .inl (cI, 60, .inl fF)), (mO, .inl (cI, 60, .inl tF)), (mV, .inl (cJ, 60, .inr (.inl vM)))] := hD
          refine lv_iload_n hx hb dM_isRich_115 rfl (lv_at hl 0 rfl) ?_
          refine lv_if_eq (tgt := 148) hx hb dM_isRich_116 (by decide) (fun _ => ?_) (fun h9 => (h9 rfl).elim)
          refine lv_iconst (v := 0) hx hb dM_isRich_148 (by decide) ?_
          refine lv_istore_n (lv' := [(1, .int 0), (2, .int (nI i)), (0, .ref oM)]) hx hb dM_isRich_149 rfl hl (by decide) rfl (fun ls hl => ?_)
          refine lv_iinc (v := nI (i + 1)) (lv' := [(2, .int (nI (i + 1))), (1, .int 0), (0, .ref oM)]) hx hb dM_isRich_150 hl (k := 1) rfl (nI_1 i) (by decide) rfl (fun ls hl => ?_)
          refine lv_goto (tgt := 32) hx hb dM_isRich_153 (by decide) ?_
          have ep : pmT t (fF i) (tF i) (vM i) = vp_updL (vp_updL t ((fF i).toNatClampNeg) ((t ((fF i).toNatClampNeg)) - (vM i))) ((tF i).toNatClampNeg) (((vp_updL t ((fF i).toNatClampNeg) ((t ((fF i).toNatClampNeg)) - (vM i))) ((tF i).toNatClampNeg)) + (vM i)) := if_neg ca
          have er : (r && pmOkb t (fF i) (tF i) (vM i)) = false := by simp [pmOkb, ca, hr9]
          exact ih (i + 1) (r && pmOkb t (fF i) (tF i) (vM i)) (pmT t (fF i) (tF i) (vM i)) (by omega) (by rw [← hb9, pmRb]) H locs (by rw [ep]; exact hP) (by rw [ep]; exact hD) hS ls (by rw [er]; exact lv_sub hl [0, 1, 2] rfl)
  | succ k ih =>
    intro i hi H locs hP hD hS ls hl
    refine lv_iload_n hx hb dM_isRich_2 rfl (lv_at hl 0 rfl) ?_
    refine lv_aload_n hx hb dM_isRich_3 rfl (lv_at hl 1 rfl) ?_
    refine va_get (D := D) (ci := 4) (v := .int (nI n)) (C := "ReplayJournalModel") (T := TM) (N := 17) hx hb hts (pj_ups inM) hown hK hP 0 rfl rfl 1 (by decide) (hts _ (pj_up m_425)) (fun _ h9 => h9) rfl dM_isRich_4 ?_
    refine lv_icmp_ge (tgt := 28) hx hb dM_isRich_7 (by decide) (fun h9 => absurd h9 (nI_ge (by omega) (by omega))) (fun _ => ?_)
    refine lv_aload_n hx hb dM_isRich_10 rfl (lv_at hl 1 rfl) ?_
    refine va_get (D := D) (ci := 4) (v := .ref mT) (C := "ReplayJournalModel") (T := TM) (N := 17) hx hb hts (pj_ups inM) hown hK hP 0 rfl rfl 5 (by decide) (hts _ (pj_up m_429)) (fun _ h9 => h9) rfl dM_isRich_11 ?_
    refine lv_iload_n hx hb dM_isRich_14 rfl (lv_at hl 0 rfl) ?_
    refine lv_aload_n hx hb dM_isRich_15 rfl (lv_at hl 1 rfl) ?_
    refine va_get (D := D) (ci := 4) (v := .ref mA) (C := "ReplayJournalModel") (T := TM) (N := 17) hx hb hts (pj_ups inM) hown hK hP 0 rfl rfl 3 (by decide) (hts _ (pj_up m_427)) (fun _ h9 => h9) rfl dM_isRich_16 ?_
    refine lv_iload_n hx hb dM_isRich_19 rfl (lv_at hl 0 rfl) ?_
    refine va_lald hx hb hK hP 1 1 rfl rfl (vp_in_nI (by omega) (by omega)) dM_isRich_20 ?_
    refine va_last hx hb hK hP hD hS 3 1 rfl rfl (vp_in_nI (by omega) (by omega)) dM_isRich_21 (fun H locs hP hD hS => ?_)
    have hP : va_P D vwCl [(oM, .inr (4, [.int kd, .int (nI n), .int (nI J), .ref mA, .ref mC, .ref mT, .int (nI us), .int wr, .int sn, .int (nI si), .int gr, .int (nI gp), .ref mF, .ref mO, .ref mV, .int lf, .int (pjd lf)])), (mA, .inl (cJ, 64, .inr (.inl fM))), (mC, .inl (cI, 64, .inl cM)), (mT, .inl (cJ, 64, .inr (.inl (vp_updL (pjC i fM tM) ((nI i).toNatClampNeg) (fM ((nI i).toNatClampNeg)))))), (mF, .inl (cI, 60, .inl fF)), (mO, .inl (cI, 60, .inl tF)), (mV, .inl (cJ, 60, .inr (.inl vM)))] H := hP
    have hD : va_D A [(oM, .inr (4, [.int kd, .int (nI n), .int (nI J), .ref mA, .ref mC, .ref mT, .int (nI us), .int wr, .int sn, .int (nI si), .int gr, .int (nI gp), .ref mF, .ref mO, .ref mV, .int lf, .int (pjd lf)])), (mA, .inl (cJ, 64, .inr (.inl fM))), (mC, .inl (cI, 64, .inl cM)), (mT, .inl (cJ, 64, .inr (.inl (vp_updL (pjC i fM tM) ((nI i).toNatClampNeg) (fM ((nI i).toNatClampNeg)))))), (mF, .inl (cI, 60, .inl fF)), (mO, .inl (cI, 60, .inl tF)), (mV, .inl (cJ, 60, .inr (.inl vM)))] := hD
    refine lv_iinc (v := nI (i + 1)) (lv' := [(1, .int (nI (i + 1))), (0, .ref oM)]) hx hb dM_isRich_22 hl (k := 0) rfl (nI_1 i) (by decide) rfl (fun ls hl => ?_)
    refine lv_goto (tgt := 2) hx hb dM_isRich_25 (by decide) ?_
    have e1 : vp_updL (pjC i fM tM) (nI i).toNatClampNeg (fM (nI i).toNatClampNeg) = pjC (i + 1) fM tM := by rw [nI_clamp (n := i) (by omega)]; exact pjC_sL i fM tM
    rw [e1] at hP hD
    exact ih (i + 1) (by omega) H locs hP hD hS ls (lv_sub hl [0, 1] rfl)
