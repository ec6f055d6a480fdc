set_option maxHeartbeats 4000000 in
set_option maxRecDepth 100000 in
theorem c_initA (l : Launch) (D : va_G) (cI cJ cZ : ClassId) (o n : Nat) (hn : n ≤ 64) : pj_MetB l yA_init wsA_init ({ frames := 1, cells := 2, slots := 128, locals := 12 }) D vwCl (pjT cI cJ cZ) pj_no [.ref o, .int (nI n)] [(o, .inr (0, [.null, .null]))] none (fun A t => ∃ p1 : Nat, ∃ q1 : Nat, va_P D vwCl [(o, .inr (0, [.ref p1, .ref q1])), (p1, .inl (cJ, n, .inr (.inl (fun _ => 0)))), (q1, .inl (cI, n, .inl (fun _ => 0)))] t.heap ∧ va_D A [(o, .inr (0, [.ref p1, .ref q1])), (p1, .inl (cJ, n, .inr (.inl (fun _ => 0)))), (q1, .inl (cI, n, .inl (fun _ => 0)))]) 2 128 := by
  refine pb_of (by decide) rfl (Nat.le_of_ble_eq_true rfl) ?_
  intro p e s m below meth c A ls hx hb hml hr hts hown hlocks hin hA hK hP hD hS hG hl
  have hl : lv_has ls 2 [(0, .ref o), (1, .int (nI n))] := hl
  refine lv_aload_n hx hb dA_init_0 rfl (lv_at hl 0 rfl) ?_
  refine W.objInit hx hb hown (hts _ (pj_up m_49)) (hts _ (pj_up m_36)) (hts _ (pj_up m_37)) rfl (by rw [hml]; exact hl.1) rfl dA_init_1 (Nat.le_of_ble_eq_true rfl) (Nat.le_of_ble_eq_true rfl) ?_
  refine W.eq (g2 := F0 m 4 ls []) rfl ?_
  refine lv_aload_n hx hb dA_init_4 rfl (lv_at hl 0 rfl) ?_
  refine lv_iload_n hx hb dA_init_5 rfl (lv_at hl 1 rfl) ?_
  refine va_newa (atype := .long) (a0 := (n, .inr (.inl (fun _ => 0)))) (N' := n) (n := (nI n)) hx hb (hts _ (pj_up m_57)) rfl hK hP hD hS hA (fun _ => rfl) (nI_pos (by omega)) (nI_clamp (by omega)) (show n * 8 ≤ 536870912 by omega) (Nat.le_of_ble_eq_true rfl) (show 0 + n ≤ 128 by omega) dA_init_6 (fun p1 c9 H hK9 hP hD hS => ?_)
  have e9 : c9 = cJ := pj_same hK9 (t0 := 1) rfl (fun C h => by cases h)
  rw [e9] at hP hD
  have hP : va_P D vwCl [(o, .inr (0, [.null, .null])), (p1, .inl (cJ, n, .inr (.inl (fun _ => 0))))] H := hP
  have hD : va_D A [(o, .inr (0, [.null, .null])), (p1, .inl (cJ, n, .inr (.inl (fun _ => 0))))] := hD
  refine W.widen (k := 1) (n := 64) (by omega) (by omega) ?_
  refine va_putF (D := D) (ci := 0) (v := .ref p1) (ty := .array .long) (C := "ReplayJournal$Accounts") (T := TA) (N := 2) hx hb hts (pj_ups inA) tyA tyA_ok nmA hown hK hP hD hS 0 rfl rfl 0 (by decide) (hts _ (pj_up m_50)) (fun _ h9 => h9) rfl hin rfl (by decide +kernel) rfl rfl (Nat.le_of_ble_eq_true rfl) dA_init_8 (fun H locs hP hD hS => ?_)
  have hP : va_P D vwCl [(o, .inr (0, [.ref p1, .null])), (p1, .inl (cJ, n, .inr (.inl (fun _ => 0))))] H := hP
  have hD : va_D A [(o, .inr (0, [.ref p1, .null])), (p1, .inl (cJ, n, .inr (.inl (fun _ => 0))))] := hD
  refine lv_aload_n hx hb dA_init_11 rfl (lv_at hl 0 rfl) ?_
  refine lv_iload_n hx hb dA_init_12 rfl (lv_at hl 1 rfl) ?_
  refine va_newa (atype := .int) (a0 := (n, .inl (fun _ => 0))) (N' := n) (n := (nI n)) hx hb (hts _ (pj_up m_58)) rfl hK hP hD hS hA (fun _ => rfl) (nI_pos (by omega)) (nI_clamp (by omega)) (show n * 4 ≤ 536870912 by omega) (Nat.le_of_ble_eq_true rfl) (show 64 + n ≤ 128 by omega) dA_init_13 (fun q1 c9 H hK9 hP hD hS => ?_)
  have e9 : c9 = cI := pj_same hK9 (t0 := 0) rfl (fun C h => by cases h)
  rw [e9] at hP hD
  have hP : va_P D vwCl [(o, .inr (0, [.ref p1, .null])), (p1, .inl (cJ, n, .inr (.inl (fun _ => 0)))), (q1, .inl (cI, n, .inl (fun _ => 0)))] H := hP
  have hD : va_D A [(o, .inr (0, [.ref p1, .null])), (p1, .inl (cJ, n, .inr (.inl (fun _ => 0)))), (q1, .inl (cI, n, .inl (fun _ => 0)))] := hD
  refine W.widen (k := 2) (n := 128) (by omega) (by omega) ?_
  refine va_putF (D := D) (ci := 0) (v := .ref q1) (ty := .array .int) (C := "ReplayJournal$Accounts") (T := TA) (N := 2) hx hb hts (pj_ups inA) tyA tyA_ok nmA hown hK hP hD hS 0 rfl rfl 1 (by decide) (hts _ (pj_up m_51)) (fun _ h9 => h9) rfl hin rfl (by decide +kernel) rfl rfl (Nat.le_of_ble_eq_true rfl) dA_init_15 (fun H locs hP hD hS => ?_)
  have hP : va_P D vwCl [(o, .inr (0, [.ref p1, .ref q1])), (p1, .inl (cJ, n, .inr (.inl (fun _ => 0)))), (q1, .inl (cI, n, .inl (fun _ => 0)))] H := hP
  have hD : va_D A [(o, .inr (0, [.ref p1, .ref q1])), (p1, .inl (cJ, n, .inr (.inl (fun _ => 0)))), (q1, .inl (cI, n, .inl (fun _ => 0)))] := hD
  have hP9 := hP.sub (ws' := [(o, .inr (0, [.ref p1, .ref q1])), (p1, .inl (cJ, n, .inr (.inl (fun _ => 0)))), (q1, .inl (cI, n, .inl (fun _ => 0)))]) [0, 1, 2] rfl
  have hD9 := hD.sub (ws' := [(o, .inr (0, [.ref p1, .ref q1])), (p1, .inl (cJ, n, .inr (.inl (fun _ => 0)))), (q1, .inl (cI, n, .inl (fun _ => 0)))]) [0, 1, 2] (by decide) rfl
  exact pb_vret hx hb hr hlocks (Nat.le_of_ble_eq_true rfl) (Nat.le_of_ble_eq_true rfl) (fun t9 ht9 => ⟨p1, q1, by rw [ht9]; exact hP9, hD9⟩) hS dA_init_18
set_option maxHeartbeats 4000000 in
set_option maxRecDepth 100000 in
theorem c_initD (l : Launch) (D : va_G) (cI cJ cZ : ClassId) (o : Nat) : pj_MetB l yD_init wsD_init ({ frames := 1, cells := 0, slots := 0, locals := 12 }) D vwCl (pjT cI cJ cZ) pj_no [.ref o] [(o, .inr (1, [.int 0, .int 0]))] none (fun A t => va_P D vwCl [(o, .inr (1, [.int 0, .int (-1)]))] t.heap ∧ va_D A [(o, .inr (1, [.int 0, .int (-1)]))]) 0 0 := by
  refine pb_of (by decide) rfl (Nat.le_of_ble_eq_true rfl) ?_
  intro p e s m below meth c A ls hx hb hml hr hts hown hlocks hin hA hK hP hD hS hG hl
  have hl : lv_has ls 1 [(0, .ref o)] := hl
  refine lv_aload_n hx hb dD_init_0 rfl (lv_at hl 0 rfl) ?_
  refine W.objInit hx hb hown (hts _ (pj_up m_87)) (hts _ (pj_up m_36)) (hts _ (pj_up m_37)) rfl (by rw [hml]; exact hl.1) rfl dD_init_1 (Nat.le_of_ble_eq_true rfl) (Nat.le_of_ble_eq_true rfl) ?_
  refine W.eq (g2 := F0 m 4 ls []) rfl ?_
  refine lv_aload_n hx hb dD_init_4 rfl (lv_at hl 0 rfl) ?_
  refine lv_iconst (v := 0) hx hb dD_init_5 (by decide) ?_
  refine va_put (D := D) (ci := 1) (v := .int 0) (ty := .int) (C := "ReplayJournal$Disk") (T := TD) (N := 2) hx hb hts (pj_ups inD) tyD tyD_ok nmD hown hK hP hD hS 0 rfl rfl 0 (by decide) (hts _ (pj_up m_88)) (fun _ h9 => h9) rfl (by decide +kernel) rfl rfl (Nat.le_of_ble_eq_true rfl) dD_init_6 (fun H locs hP hD hS => ?_)
  have hP : va_P D vwCl [(o, .inr (1, [.int 0, .int 0]))] H := hP
  have hD : va_D A [(o, .inr (1, [.int 0, .int 0]))] := hD
  refine lv_aload_n hx hb dD_init_9 rfl (lv_at hl 0 rfl) ?_
  refine lv_iconst (v := -1) hx hb dD_init_10 (by decide) ?_
  refine va_put (D := D) (ci := 1) (v := .int (-1)) (ty := .int) (C := "ReplayJournal$Disk") (T := TD) (N := 2) hx hb hts (pj_ups inD) tyD tyD_ok nmD hown hK hP hD hS 0 rfl rfl 1 (by decide) (hts _ (pj_up m_89)) (fun _ h9 => h9) rfl (by decide +kernel) rfl rfl (Nat.le_of_ble_eq_true rfl) dD_init_11 (fun H locs hP hD hS => ?_)
  have hP : va_P D vwCl [(o, .inr (1, [.int 0, .int (-1)]))] H := hP
  have hD : va_D A [(o, .inr (1, [.int 0, .int (-1)]))] := hD
  have hP9 := hP.sub (ws' := [(o, .inr (1, [.int 0, .int (-1)]))]) [0] rfl
  have hD9 := hD.sub (ws' := [(o, .inr (1, [.int 0, .int (-1)]))]) [0] (by decide) rfl
  exact pb_vret hx hb hr hlocks (Nat.le_of_ble_eq_true rfl) (Nat.le_of_ble_eq_true rfl) (fun t9 ht9 => ⟨by rw [ht9]; exact hP9, hD9⟩) hS dD_init_14
set_option maxHeartbeats 4000000 in
set_option maxRecDepth 100000 in
theorem c_initJ (l : Launch) (D : va_G) (cI cJ cZ : ClassId) (oj J : Nat) (hJ : J ≤ 60) : pj_MetB l yJ_init wsJ_init ({ frames := 1, cells := 4, slots := 240, locals := 12 }) D vwCl (pjT cI cJ cZ) pj_no [.ref oj, .int (nI J)] [(oj, .inr (2, [.null, .null, .null, .null, .int 0]))] none (fun A t => ∃ pf : Nat, ∃ pt : Nat, ∃ pv : Nat, ∃ pz : Nat, va_P D vwCl [(oj, .inr (2, [.ref pf, .ref pt, .ref pv, .ref pz, .int (nI 0)])), (pf, .inl (cI, J, .inl (fun _ => 0))), (pt, .inl (cI, J, .inl (fun _ => 0))), (pv, .inl (cJ, J, .inr (.inl (fun _ => 0)))), (pz, .inl (cZ, J, .inl (fun _ => 0)))] t.heap ∧ va_D A [(oj, .inr (2, [.ref pf, .ref pt, .ref pv, .ref pz, .int (nI 0)])), (pf, .inl (cI, J, .inl (fun _ => 0))), (pt, .inl (cI, J, .inl (fun _ => 0))), (pv, .inl (cJ, J, .inr (.inl (fun _ => 0)))), (pz, .inl (cZ, J, .inl (fun _ => 0)))]) 4 240 := by
  refine pb_of (by decide) rfl (Nat.le_of_ble_eq_true rfl) ?_
  intro p e s m below meth c A ls hx hb hml hr hts hown hlocks hin hA hK hP hD hS hG hl
  have hl : lv_has ls 2 [(0, .ref oj), (1, .int (nI J))] := hl
  refine lv_aload_n hx hb dJ_init_0 rfl (lv_at hl 0 rfl) ?_
  refine W.objInit hx hb hown (hts _ (pj_up m_64)) (hts _ (pj_up m_36)) (hts _ (pj_up m_37)) rfl (by rw [hml]; exact hl.1) rfl dJ_init_1 (Nat.le_of_ble_eq_true rfl) (Nat.le_of_ble_eq_true rfl) ?_
  refine W.eq (g2 := F0 m 4 ls []) rfl ?_
  refine lv_aload_n hx hb dJ_init_4 rfl (lv_at hl 0 rfl) ?_
  refine lv_iload_n hx hb dJ_init_5 rfl (lv_at hl 1 rfl) ?_
  refine va_newa (atype := .int) (a0 := (J, .inl (fun _ => 0))) (N' := J) (n := (nI J)) hx hb (hts _ (pj_up m_58)) rfl hK hP hD hS hA (fun _ => rfl) (nI_pos (by omega)) (nI_clamp (by omega)) (show J * 4 ≤ 536870912 by omega) (Nat.le_of_ble_eq_true rfl) (show 0 + J ≤ 240 by omega) dJ_init_6 (fun pf c9 H hK9 hP hD hS => ?_)
  have e9 : c9 = cI := pj_same hK9 (t0 := 0) rfl (fun C h => by cases h)
  rw [e9] at hP hD
  have hP : va_P D vwCl [(oj, .inr (2, [.null, .null, .null, .null, .int 0])), (pf, .inl (cI, J, .inl (fun _ => 0)))] H := hP
  have hD : va_D A [(oj, .inr (2, [.null, .null, .null, .null, .int 0])), (pf, .inl (cI, J, .inl (fun _ => 0)))] := hD
  refine W.widen (k := 1) (n := 60) (by omega) (by omega) ?_
  refine va_putF (D := D) (ci := 2) (v := .ref pf) (ty := .array .int) (C := "ReplayJournal$Journal") (T := TJ) (N := 5) hx hb hts (pj_ups inJ) tyJ tyJ_ok nmJ hown hK hP hD hS 0 rfl rfl 0 (by decide) (hts _ (pj_up m_65)) (fun _ h9 => h9) rfl hin rfl (by decide +kernel) rfl rfl (Nat.le_of_ble_eq_true rfl) dJ_init_8 (fun H locs hP hD hS => ?_)
  have hP : va_P D vwCl [(oj, .inr (2, [.ref pf, .null, .null, .null, .int 0])), (pf, .inl (cI, J, .inl (fun _ => 0)))] H := hP
  have hD : va_D A [(oj, .inr (2, [.ref pf, .null, .null, .null, .int 0])), (pf, .inl (cI, J, .inl (fun _ => 0)))] := hD
  refine lv_aload_n hx hb dJ_init_11 rfl (lv_at hl 0 rfl) ?_
  refine lv_iload_n hx hb dJ_init_12 rfl (lv_at hl 1 rfl) ?_
  refine va_newa (atype := .int) (a0 := (J, .inl (fun _ => 0))) (N' := J) (n := (nI J)) hx hb (hts _ (pj_up m_58)) rfl hK hP hD hS hA (fun _ => rfl) (nI_pos (by omega)) (nI_clamp (by omega)) (show J * 4 ≤ 536870912 by omega) (Nat.le_of_ble_eq_true rfl) (show 60 + J ≤ 240 by omega) dJ_init_13 (fun pt c9 H hK9 hP hD hS => ?_)
  have e9 : c9 = cI := pj_same hK9 (t0 := 0) rfl (fun C h => by cases h)
  rw [e9] at hP hD
  have hP : va_P D vwCl [(oj, .inr (2, [.ref pf, .null, .null, .null, .int 0])), (pf, .inl (cI, J, .inl (fun _ => 0))), (pt, .inl (cI, J, .inl (fun _ => 0)))] H := hP
  have hD : va_D A [(oj, .inr (2, [.ref pf, .null, .null, .null, .int 0])), (pf, .inl (cI, J, .inl (fun _ => 0))), (pt, .inl (cI, J, .inl (fun _ => 0)))] := hD
  refine W.widen (k := 2) (n := 120) (by omega) (by omega) ?_
  refine va_putF (D := D) (ci := 2) (v := .ref pt) (ty := .array .int) (C := "ReplayJournal$Journal") (T := TJ) (N := 5) hx hb hts (pj_ups inJ) tyJ tyJ_ok nmJ hown hK hP hD hS 0 rfl rfl 1 (by decide) (hts _ (pj_up m_66)) (fun _ h9 => h9) rfl hin rfl (by decide +kernel) rfl rfl (Nat.le_of_ble_eq_true rfl) dJ_init_15 (fun H locs hP hD hS => ?_)
  have hP : va_P D vwCl [(oj, .inr (2, [.ref pf, .ref pt, .null, .null, .int 0])), (pf, .inl (cI, J, .inl (fun _ => 0))), (pt, .inl (cI, J, .inl (fun _ => 0)))] H := hP
  have hD : va_D A [(oj, .inr (2, [.ref pf, .ref pt, .null, .null, .int 0])), (pf, .inl (cI, J, .inl (fun _ => 0))), (pt, .inl (cI, J, .inl (fun _ => 0)))] := hD
  refine lv_aload_n hx hb dJ_init_18 rfl (lv_at hl 0 rfl) ?_
  refine lv_iload_n hx hb dJ_init_19 rfl (lv_at hl 1 rfl) ?_
  refine va_newa (atype := .long) (a0 := (J, .inr (.inl (fun _ => 0)))) (N' := J) (n := (nI J)) hx hb (hts _ (pj_up m_57)) rfl hK hP hD hS hA (fun _ => rfl) (nI_pos (by omega)) (nI_clamp (by omega)) (show J * 8 ≤ 536870912 by omega) (Nat.le_of_ble_eq_true rfl) (show 120 + J ≤ 240 by omega) dJ_init_20 (fun pv c9 H hK9 hP hD hS => ?_)
  have e9 : c9 = cJ := pj_same hK9 (t0 := 1) rfl (fun C h => by cases h)
  rw [e9] at hP hD
  have hP : va_P D vwCl [(oj, .inr (2, [.ref pf, .ref pt, .null, .null, .int 0])), (pf, .inl (cI, J, .inl (fun _ => 0))), (pt, .inl (cI, J, .inl (fun _ => 0))), (pv, .inl (cJ, J, .inr (.inl (fun _ => 0))))] H := hP
  have hD : va_D A [(oj, .inr (2, [.ref pf, .ref pt, .null, .null, .int 0])), (pf, .inl (cI, J, .inl (fun _ => 0))), (pt, .inl (cI, J, .inl (fun _ => 0))), (pv, .inl (cJ, J, .inr (.inl (fun _ => 0))))] := hD
  refine W.widen (k := 3) (n := 180) (by omega) (by omega) ?_
  refine va_putF (D := D) (ci := 2) (v := .ref pv) (ty := .array .long) (C := "ReplayJournal$Journal") (T := TJ) (N := 5) hx hb hts (pj_ups inJ) tyJ tyJ_ok nmJ hown hK hP hD hS 0 rfl rfl 2 (by decide) (hts _ (pj_up m_67)) (fun _ h9 => h9) rfl hin rfl (by decide +kernel) rfl rfl (Nat.le_of_ble_eq_true rfl) dJ_init_22 (fun H locs hP hD hS => ?_)
  have hP : va_P D vwCl [(oj, .inr (2, [.ref pf, .ref pt, .ref pv, .null, .int 0])), (pf, .inl (cI, J, .inl (fun _ => 0))), (pt, .inl (cI, J, .inl (fun _ => 0))), (pv, .inl (cJ, J, .inr (.inl (fun _ => 0))))] H := hP
  have hD : va_D A [(oj, .inr (2, [.ref pf, .ref pt, .ref pv, .null, .int 0])), (pf, .inl (cI, J, .inl (fun _ => 0))), (pt, .inl (cI, J, .inl (fun _ => 0))), (pv, .inl (cJ, J, .inr (.inl (fun _ => 0))))] := hD
  refine lv_aload_n hx hb dJ_init_25 rfl (lv_at hl 0 rfl) ?_
  refine lv_iload_n hx hb dJ_init_26 rfl (lv_at hl 1 rfl) ?_
  refine va_newa (atype := .boolean) (a0 := (J, .inl (fun _ => 0))) (N' := J) (n := (nI J)) hx hb (hts _ (pj_up m_81)) rfl hK hP hD hS hA (fun _ => rfl) (nI_pos (by omega)) (nI_clamp (by omega)) (show J * 1 ≤ 536870912 by omega) (Nat.le_of_ble_eq_true rfl) (show 180 + J ≤ 240 by omega) dJ_init_27 (fun pz c9 H hK9 hP hD hS => ?_)
  have e9 : c9 = cZ := pj_same hK9 (t0 := 2) rfl (fun C h => by cases h)
  rw [e9] at hP hD
  have hP : va_P D vwCl [(oj, .inr (2, [.ref pf, .ref pt, .ref pv, .null, .int 0])), (pf, .inl (cI, J, .inl (fun _ => 0))), (pt, .inl (cI, J, .inl (fun _ => 0))), (pv, .inl (cJ, J, .inr (.inl (fun _ => 0)))), (pz, .inl (cZ, J, .inl (fun _ => 0)))] H := hP
  have hD : va_D A [(oj, .inr (2, [.ref pf, .ref pt, .ref pv, .null, .int 0])), (pf, .inl (cI, J, .inl (fun _ => 0))), (pt, .inl (cI, J, .inl (fun _ => 0))), (pv, .inl (cJ, J, .inr (.inl (fun _ => 0)))), (pz, .inl (cZ, J, .inl (fun _ => 0)))] := hD
  refine W.widen (k := 4) (n := 240) (by omega) (by omega) ?_
  refine va_putF (D := D) (ci := 2) (v := .ref pz) (ty := .array .boolean) (C := "ReplayJournal$Journal") (T := TJ) (N := 5) hx hb hts (pj_ups inJ) tyJ tyJ_ok nmJ hown hK hP hD hS 0 rfl rfl 3 (by decide) (hts _ (pj_up m_68)) (fun _ h9 => h9) rfl hin rfl (by decide +kernel) rfl rfl (Nat.le_of_ble_eq_true rfl) dJ_init_29 (fun H locs hP hD hS => ?_)
  have hP : va_P D vwCl [(oj, .inr (2, [.ref pf, .ref pt, .ref pv, .ref pz, .int 0])), (pf, .inl (cI, J, .inl (fun _ => 0))), (pt, .inl (cI, J, .inl (fun _ => 0))), (pv, .inl (cJ, J, .inr (.inl (fun _ => 0)))), (pz, .inl (cZ, J, .inl (fun _ => 0)))] H := hP
  have hD : va_D A [(oj, .inr (2, [.ref pf, .ref pt, .ref pv, .ref pz, .int 0])), (pf, .inl (cI, J, .inl (fun _ => 0))), (pt, .inl (cI, J, .inl (fun _ => 0))), (pv, .inl (cJ, J, .inr (.inl (fun _ => 0)))), (pz, .inl (cZ, J, .inl (fun _ => 0)))] := hD
  refine lv_aload_n hx hb dJ_init_32 rfl (lv_at hl 0 rfl) ?_
  refine lv_iconst (v := 0) hx hb dJ_init_33 (by decide) ?_
  refine va_put (D := D) (ci := 2) (v := .int 0) (ty := .int) (C := "ReplayJournal$Journal") (T := TJ) (N := 5) hx hb hts (pj_ups inJ) tyJ tyJ_ok nmJ hown hK hP hD hS 0 rfl rfl 4 (by decide) (hts _ (pj_up m_69)) (fun _ h9 => h9) rfl (by decide +kernel) rfl rfl (Nat.le_of_ble_eq_true rfl) dJ_init_34 (fun H locs hP hD hS => ?_)
  have hP : va_P D vwCl [(oj, .inr (2, [.ref pf, .ref pt, .ref pv, .ref pz, .int 0])), (pf, .inl (cI, J, .inl (fun _ => 0))), (pt, .inl (cI, J, .inl (fun _ => 0))), (pv, .inl (cJ, J, .inr (.inl (fun _ => 0)))), (pz, .inl (cZ, J, .inl (fun _ => 0)))] H := hP
  have hD : va_D A [(oj, .inr (2, [.ref pf, .ref pt, .ref pv, .ref pz, .int 0])), (pf, .inl (cI, J, .inl (fun _ => 0))), (pt, .inl (cI, J, .inl (fun _ => 0))), (pv, .inl (cJ, J, .inr (.inl (fun _ => 0)))), (pz, .inl (cZ, J, .inl (fun _ => 0)))] := hD
  have hP9 := hP.sub (ws' := [(oj, .inr (2, [.ref pf, .ref pt, .ref pv, .ref pz, .int 0])), (pf, .inl (cI, J, .inl (fun _ => 0))), (pt, .inl (cI, J, .inl (fun _ => 0))), (pv, .inl (cJ, J, .inr (.inl (fun _ => 0)))), (pz, .inl (cZ, J, .inl (fun _ => 0)))]) [0, 1, 2, 3, 4] rfl
  have hD9 := hD.sub (ws' := [(oj, .inr (2, [.ref pf, .ref pt, .ref pv, .ref pz, .int 0])), (pf, .inl (cI, J, .inl (fun _ => 0))), (pt, .inl (cI, J, .inl (fun _ => 0))), (pv, .inl (cJ, J, .inr (.inl (fun _ => 0)))), (pz, .inl (cZ, J, .inl (fun _ => 0)))]) [0, 1, 2, 3, 4] (by decide) rfl
  exact pb_vret hx hb hr hlocks (Nat.le_of_ble_eq_true rfl) (Nat.le_of_ble_eq_true rfl) (fun t9 ht9 => ⟨pf, pt, pv, pz, by rw [ht9]; exact hP9, hD9⟩) hS dJ_init_37
