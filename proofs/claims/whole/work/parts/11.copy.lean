set_option maxHeartbeats 4000000 in
set_option maxRecDepth 100000 in
theorem c_copy (l : Launch) (D : va_G) (cI cJ cZ : ClassId) (o p1 q1 o2 p2 q2 n : Nat) (f f2 : Nat → Int64) (g g2 : Nat → Int32) (hn : n < 2 ^ 31) : pj_Met l yA_copyFrom wsA_copyFrom ({ frames := 1, cells := 0, slots := 0, locals := 13 }) D vwCl (pjT cI cJ cZ) pj_no [.ref o, .ref o2] [(o, .inr (0, [.ref p1, .ref q1])), (p1, .inl (cJ, n, .inr (.inl f))), (q1, .inl (cI, n, .inl g)), (o2, .inr (0, [.ref p2, .ref q2])), (p2, .inl (cJ, n, .inr (.inl f2))), (q2, .inl (cI, n, .inl g2))] none [(o, .inr (0, [.ref p1, .ref q1])), (p1, .inl (cJ, n, .inr (.inl (pjC n f2 f)))), (q1, .inl (cI, n, .inl (pjC n g2 g))), (o2, .inr (0, [.ref p2, .ref q2])), (p2, .inl (cJ, n, .inr (.inl f2))), (q2, .inl (cI, n, .inl g2))] 0 0 := by
  refine pj_of (by decide) rfl (Nat.le_of_ble_eq_true rfl) ?_
  intro p e s m below meth c A ls hx hb hml hr hts hown hlocks hin hA hK hP hD hS hG hl
  have hl : lv_has ls 4 [(0, .ref o), (1, .ref o2)] := hl
  refine lv_aload_n hx hb dA_copyFrom_0 rfl (lv_at hl 0 rfl) ?_
  refine va_get (D := D) (ci := 0) (v := .ref p1) (C := "ReplayJournal$Accounts") (T := TA) (N := 2) hx hb hts (pj_ups inA) hown hK hP 0 rfl rfl 0 (by decide) (hts _ (pj_up m_50)) (fun _ h9 => h9) rfl dA_copyFrom_1 ?_
  refine va_alen (v := nI n) hx hb hK hP 1 1 rfl rfl rfl dA_copyFrom_4 ?_
  refine lv_aload_n hx hb dA_copyFrom_5 rfl (lv_at hl 1 rfl) ?_
  refine va_get (D := D) (ci := 0) (v := .ref p2) (C := "ReplayJournal$Accounts") (T := TA) (N := 2) hx hb hts (pj_ups inA) hown hK hP 3 rfl rfl 0 (by decide) (hts _ (pj_up m_50)) (fun _ h9 => h9) rfl dA_copyFrom_6 ?_
  refine va_alen (v := nI n) hx hb hK hP 4 1 rfl rfl rfl dA_copyFrom_9 ?_
  refine va_mmin hx hb (hml.trans hl.1.symm) hown (hts _ (pj_up m_129)) (hts _ (pj_up m_39)) (hts _ (pj_up m_20)) (hts _ (pj_up m_40)) (Nat.le_of_ble_eq_true rfl) (Nat.le_of_ble_eq_true rfl) (Nat.le_of_ble_eq_true rfl) (Nat.le_of_ble_eq_true rfl) dA_copyFrom_10 ?_
  refine lv_topi (fun y9 e9 => ?_)
  have e9 : y9 = nI n := e9.trans (by simp)
  subst e9
  refine lv_istore_n (lv' := [(2, .int (nI n)), (0, .ref o), (1, .ref o2)]) hx hb dA_copyFrom_13 rfl hl (by decide) rfl (fun ls hl => ?_)
  refine lv_iconst (v := 0) hx hb dA_copyFrom_14 (by decide) ?_
  refine lv_istore_n (lv' := [(3, .int 0), (2, .int (nI n)), (0, .ref o), (1, .ref o2)]) hx hb dA_copyFrom_15 rfl hl (by decide) rfl (fun ls hl => ?_)
  suffices loop : ∀ (k i : Nat), i + k = n → ∀ (H : Heap) (locs : List Loc), va_P D vwCl [(o, .inr (0, [.ref p1, .ref q1])), (p1, .inl (cJ, n, .inr (.inl (pjC i f2 f)))), (q1, .inl (cI, n, .inl (pjC i g2 g))), (o2, .inr (0, [.ref p2, .ref q2])), (p2, .inl (cJ, n, .inr (.inl f2))), (q2, .inl (cI, n, .inl g2))] H → va_D A [(o, .inr (0, [.ref p1, .ref q1])), (p1, .inl (cJ, n, .inr (.inl (pjC i f2 f)))), (q1, .inl (cI, n, .inl (pjC i g2 g))), (o2, .inr (0, [.ref p2, .ref q2])), (p2, .inl (cJ, n, .inr (.inl f2))), (q2, .inl (cI, n, .inl g2))] → va_S A s.heap H locs → ∀ (ls : Array Slot), lv_has ls 4 [(3, .int (nI i)), (2, .int (nI n)), (0, .ref o), (1, .ref o2)] → W p l e ({ frames := 1, cells := 0, slots := 0, locals := 13 }) s m (([.ref o, .ref o2] : List Value).toArray) below meth c H locs 0 0 (MQ below (pj_Q none [(o, .inr (0, [.ref p1, .ref q1])), (p1, .inl (cJ, n, .inr (.inl (pjC n f2 f)))), (q1, .inl (cI, n, .inl (pjC n g2 g))), (o2, .inr (0, [.ref p2, .ref q2])), (p2, .inl (cJ, n, .inr (.inl f2))), (q2, .inl (cI, n, .inl g2))] D vwCl A) (([.ref o, .ref o2] : List Value).toArray) s 0 0 A) (F0 m 16 ls []) by
    exact loop n 0 (by omega) s.heap [] (by rw [pjC_0, pjC_0]; exact hP) (by rw [pjC_0, pjC_0]; exact hD) hS ls (lv_sub hl [0, 1, 2, 3] rfl)
  intro k
  induction k with
  | zero =>
    intro i hi H locs hP hD hS ls hl
    refine lv_iload_n hx hb dA_copyFrom_16 rfl (lv_at hl 0 rfl) ?_
    refine lv_iload_n hx hb dA_copyFrom_17 rfl (lv_at hl 1 rfl) ?_
    refine lv_icmp_ge (tgt := 51) hx hb dA_copyFrom_18 (by decide) (fun _ => ?_) (fun h9 => (h9 (nI_le (by omega) (by omega))).elim)
    exact pj_vret hx hb hr hlocks hP hD hS (by rw [show i = n from by omega]) dA_copyFrom_51
  | succ k ih =>
    intro i hi H locs hP hD hS ls hl
    refine lv_iload_n hx hb dA_copyFrom_16 rfl (lv_at hl 0 rfl) ?_
    refine lv_iload_n hx hb dA_copyFrom_17 rfl (lv_at hl 1 rfl) ?_
    refine lv_icmp_ge (tgt := 51) hx hb dA_copyFrom_18 (by decide) (fun h9 => absurd h9 (nI_ge (by omega) hn)) (fun _ => ?_)
    refine lv_aload_n hx hb dA_copyFrom_21 rfl (lv_at hl 2 rfl) ?_
    refine va_get (D := D) (ci := 0) (v := .ref p1) (C := "ReplayJournal$Accounts") (T := TA) (N := 2) hx hb hts (pj_ups inA) hown hK hP 0 rfl rfl 0 (by decide) (hts _ (pj_up m_50)) (fun _ h9 => h9) rfl dA_copyFrom_22 ?_
    refine lv_iload_n hx hb dA_copyFrom_25 rfl (lv_at hl 0 rfl) ?_
    refine lv_aload_n hx hb dA_copyFrom_26 rfl (lv_at hl 3 rfl) ?_
    refine va_get (D := D) (ci := 0) (v := .ref p2) (C := "ReplayJournal$Accounts") (T := TA) (N := 2) hx hb hts (pj_ups inA) hown hK hP 3 rfl rfl 0 (by decide) (hts _ (pj_up m_50)) (fun _ h9 => h9) rfl dA_copyFrom_27 ?_
    refine lv_iload_n hx hb dA_copyFrom_30 rfl (lv_at hl 0 rfl) ?_
    refine va_lald hx hb hK hP 4 1 rfl rfl (vp_in_nI (by omega) hn) dA_copyFrom_31 ?_
    refine va_last hx hb hK hP hD hS 1 1 rfl rfl (vp_in_nI (by omega) hn) dA_copyFrom_32 (fun H locs hP hD hS => ?_)
    have hP : va_P D vwCl [(o, .inr (0, [.ref p1, .ref q1])), (p1, .inl (cJ, n, .inr (.inl (vp_updL (pjC i f2 f) ((nI i).toNatClampNeg) (f2 ((nI i).toNatClampNeg)))))), (q1, .inl (cI, n, .inl (pjC i g2 g))), (o2, .inr (0, [.ref p2, .ref q2])), (p2, .inl (cJ, n, .inr (.inl f2))), (q2, .inl (cI, n, .inl g2))] H := hP
    have hD : va_D A [(o, .inr (0, [.ref p1, .ref q1])), (p1, .inl (cJ, n, .inr (.inl (vp_updL (pjC i f2 f) ((nI i).toNatClampNeg) (f2 ((nI i).toNatClampNeg)))))), (q1, .inl (cI, n, .inl (pjC i g2 g))), (o2, .inr (0, [.ref p2, .ref q2])), (p2, .inl (cJ, n, .inr (.inl f2))), (q2, .inl (cI, n, .inl g2))] := hD
    refine lv_aload_n hx hb dA_copyFrom_33 rfl (lv_at hl 2 rfl) ?_
    refine va_get (D := D) (ci := 0) (v := .ref q1) (C := "ReplayJournal$Accounts") (T := TA) (N := 2) hx hb hts (pj_ups inA) hown hK hP 0 rfl rfl 1 (by decide) (hts _ (pj_up m_51)) (fun _ h9 => h9) rfl dA_copyFrom_34 ?_
    refine lv_iload_n hx hb dA_copyFrom_37 rfl (lv_at hl 0 rfl) ?_
    refine lv_aload_n hx hb dA_copyFrom_38 rfl (lv_at hl 3 rfl) ?_
    refine va_get (D := D) (ci := 0) (v := .ref q2) (C := "ReplayJournal$Accounts") (T := TA) (N := 2) hx hb hts (pj_ups inA) hown hK hP 3 rfl rfl 1 (by decide) (hts _ (pj_up m_51)) (fun _ h9 => h9) rfl dA_copyFrom_39 ?_
    refine lv_iload_n hx hb dA_copyFrom_42 rfl (lv_at hl 0 rfl) ?_
    refine va_iald hx hb hK hP 5 0 rfl rfl (vp_in_nI (by omega) hn) dA_copyFrom_43 ?_
    refine va_iast hx hb hK hP hD hS 2 0 rfl rfl (vp_in_nI (by omega) hn) dA_copyFrom_44 (fun H locs hP hD hS => ?_)
    have hP : va_P D vwCl [(o, .inr (0, [.ref p1, .ref q1])), (p1, .inl (cJ, n, .inr (.inl (vp_updL (pjC i f2 f) ((nI i).toNatClampNeg) (f2 ((nI i).toNatClampNeg)))))), (q1, .inl (cI, n, .inl (upd (pjC i g2 g) ((nI i).toNatClampNeg) (g2 ((nI i).toNatClampNeg))))), (o2, .inr (0, [.ref p2, .ref q2])), (p2, .inl (cJ, n, .inr (.inl f2))), (q2, .inl (cI, n, .inl g2))] H := hP
    have hD : va_D A [(o, .inr (0, [.ref p1, .ref q1])), (p1, .inl (cJ, n, .inr (.inl (vp_updL (pjC i f2 f) ((nI i).toNatClampNeg) (f2 ((nI i).toNatClampNeg)))))), (q1, .inl (cI, n, .inl (upd (pjC i g2 g) ((nI i).toNatClampNeg) (g2 ((nI i).toNatClampNeg))))), (o2, .inr (0, [.ref p2, .ref q2])), (p2, .inl (cJ, n, .inr (.inl f2))), (q2, .inl (cI, n, .inl g2))] := hD
    refine lv_iinc (v := nI (i + 1)) (lv' := [(3, .int (nI (i + 1))), (2, .int (nI n)), (0, .ref o), (1, .ref o2)]) hx hb dA_copyFrom_45 hl (k := 0) rfl (nI_1 i) (by decide) rfl (fun ls hl => ?_)
    refine lv_goto (tgt := 16) hx hb dA_copyFrom_48 (by decide) ?_
    have e1 : vp_updL (pjC i f2 f) (nI i).toNatClampNeg (f2 (nI i).toNatClampNeg) = pjC (i + 1) f2 f := by rw [nI_clamp (n := i) (by omega)]; exact pjC_sL i f2 f
    have e2 : upd (pjC i g2 g) (nI i).toNatClampNeg (g2 (nI i).toNatClampNeg) = pjC (i + 1) g2 g := by rw [nI_clamp (n := i) (by omega)]; exact pjC_sI i g2 g
    rw [e1, e2] at hP hD
    exact ih (i + 1) (by omega) H locs hP hD hS ls (lv_sub hl [0, 1, 2, 3] rfl)
