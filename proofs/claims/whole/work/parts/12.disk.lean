set_option maxHeartbeats 4000000 in
set_option maxRecDepth 100000 in
theorem c_off (l : Launch) (D : va_G) (cI cJ cZ : ClassId) (o : Nat) (wr lf : Int32) : pp_Met l yD_isOff wsD_isOff ({ frames := 0, cells := 0, slots := 0, locals := 0 }) D vwCl (pjT cI cJ cZ) pj_no [.ref o] [(o, .inr (1, [.int wr, .int lf]))] (some (.int (if lf = 0 then 1 else 0))) := by
  refine pp_of (by decide) rfl (Nat.le_of_ble_eq_true rfl) ?_
  intro p e s m below meth c A ls hx hb hml hr hts hown hlocks hA hK hP hD hS hG hl
  have hl : lv_has ls 1 [(0, .ref o)] := hl
  refine lv_aload_n hx hb dD_isOff_0 rfl (lv_at hl 0 rfl) ?_
  refine va_get (D := D) (ci := 1) (v := .int lf) (C := "ReplayJournal$Disk") (T := TD) (N := 2) hx hb hts (pj_ups inD) hown hK hP 0 rfl rfl 1 (by decide) (hts _ (pj_up m_89)) (fun _ h9 => h9) rfl dD_isOff_1 ?_
  refine lv_if_ne (tgt := 11) hx hb dD_isOff_4 (by decide) (fun c1 => ?_) (fun c1 => ?_)
  · refine lv_iconst (v := 0) hx hb dD_isOff_11 (by decide) ?_
    exact pp_zret hx hb hr hlocks ((if_neg c1).symm) (by split <;> decide) dD_isOff_12
  · refine lv_iconst (v := 1) hx hb dD_isOff_7 (by decide) ?_
    refine lv_goto (tgt := 12) hx hb dD_isOff_8 (by decide) ?_
    exact pp_zret hx hb hr hlocks ((if_pos c1).symm) (by split <;> decide) dD_isOff_12
theorem c_off_t (l : Launch) (D : va_G) (cI cJ cZ : ClassId) (o : Nat) (wr lf : Int32) (h : lf = 0) : pp_Met l yD_isOff wsD_isOff ({ frames := 0, cells := 0, slots := 0, locals := 0 }) D vwCl (pjT cI cJ cZ) pj_no [.ref o] [(o, .inr (1, [.int wr, .int lf]))] (some (.int 1)) := by
  have h1 := c_off l D cI cJ cZ o wr lf
  rw [if_pos h] at h1
  exact h1
theorem c_off_f (l : Launch) (D : va_G) (cI cJ cZ : ClassId) (o : Nat) (wr lf : Int32) (h : ¬ lf = 0) : pp_Met l yD_isOff wsD_isOff ({ frames := 0, cells := 0, slots := 0, locals := 0 }) D vwCl (pjT cI cJ cZ) pj_no [.ref o] [(o, .inr (1, [.int wr, .int lf]))] (some (.int 0)) := by
  have h1 := c_off l D cI cJ cZ o wr lf
  rw [if_neg h] at h1
  exact h1
set_option maxHeartbeats 4000000 in
set_option maxRecDepth 100000 in
theorem c_written (l : Launch) (D : va_G) (cI cJ cZ : ClassId) (o : Nat) (wr lf : Int32) : pp_Met l yD_writtenBlocks wsD_writtenBlocks ({ frames := 0, cells := 0, slots := 0, locals := 0 }) D vwCl (pjT cI cJ cZ) pj_no [.ref o] [(o, .inr (1, [.int wr, .int lf]))] (some (.int wr)) := by
  refine pp_of (by decide) rfl (Nat.le_of_ble_eq_true rfl) ?_
  intro p e s m below meth c A ls hx hb hml hr hts hown hlocks hA hK hP hD hS hG hl
  have hl : lv_has ls 1 [(0, .ref o)] := hl
  refine lv_aload_n hx hb dD_writtenBlocks_0 rfl (lv_at hl 0 rfl) ?_
  refine va_get (D := D) (ci := 1) (v := .int wr) (C := "ReplayJournal$Disk") (T := TD) (N := 2) hx hb hts (pj_ups inD) hown hK hP 0 rfl rfl 0 (by decide) (hts _ (pj_up m_88)) (fun _ h9 => h9) rfl dD_writtenBlocks_1 ?_
  exact pp_iret hx hb hr hlocks (rfl) dD_writtenBlocks_4
set_option maxHeartbeats 4000000 in
set_option maxRecDepth 100000 in
theorem c_failAfter (l : Launch) (D : va_G) (cI cJ cZ : ClassId) (o : Nat) (wr lf : Int32) (x : Int32) : pj_Met l yD_failAfter wsD_failAfter ({ frames := 0, cells := 0, slots := 0, locals := 0 }) D vwCl (pjT cI cJ cZ) pj_no [.ref o, .int x] [(o, .inr (1, [.int wr, .int lf]))] none [(o, .inr (1, [.int wr, .int x]))] 0 0 := by
  refine pj_of (by decide) rfl (Nat.le_of_ble_eq_true rfl) ?_
  intro p e s m below meth c A ls hx hb hml hr hts hown hlocks hin hA hK hP hD hS hG hl
  have hl : lv_has ls 2 [(0, .ref o), (1, .int x)] := hl
  refine lv_aload_n hx hb dD_failAfter_0 rfl (lv_at hl 0 rfl) ?_
  refine lv_iload_n hx hb dD_failAfter_1 rfl (lv_at hl 1 rfl) ?_
  refine va_put (D := D) (ci := 1) (v := .int x) (ty := .int) (C := "ReplayJournal$Disk") (T := TD) (N := 2) hx hb hts (pj_ups inD) tyD tyD_ok nmD hown hK hP hD hS 0 rfl rfl 1 (by decide) (hts _ (pj_up m_89)) (fun _ h9 => h9) rfl (by decide +kernel) rfl rfl (Nat.le_of_ble_eq_true rfl) dD_failAfter_2 (fun H locs hP hD hS => ?_)
  have hP : va_P D vwCl [(o, .inr (1, [.int wr, .int x]))] H := hP
  have hD : va_D A [(o, .inr (1, [.int wr, .int x]))] := hD
  exact pj_vret hx hb hr hlocks hP hD hS (rfl) dD_failAfter_5
set_option maxHeartbeats 4000000 in
set_option maxRecDepth 100000 in
theorem c_restart (l : Launch) (D : va_G) (cI cJ cZ : ClassId) (o : Nat) (wr lf : Int32) : pj_Met l yD_restart wsD_restart ({ frames := 0, cells := 0, slots := 0, locals := 0 }) D vwCl (pjT cI cJ cZ) pj_no [.ref o] [(o, .inr (1, [.int wr, .int lf]))] none [(o, .inr (1, [.int wr, .int (-1)]))] 0 0 := by
  refine pj_of (by decide) rfl (Nat.le_of_ble_eq_true rfl) ?_
  intro p e s m below meth c A ls hx hb hml hr hts hown hlocks hin hA hK hP hD hS hG hl
  have hl : lv_has ls 1 [(0, .ref o)] := hl
  refine lv_aload_n hx hb dD_restart_0 rfl (lv_at hl 0 rfl) ?_
  refine lv_iconst (v := -1) hx hb dD_restart_1 (by decide) ?_
  refine va_put (D := D) (ci := 1) (v := .int (-1)) (ty := .int) (C := "ReplayJournal$Disk") (T := TD) (N := 2) hx hb hts (pj_ups inD) tyD tyD_ok nmD hown hK hP hD hS 0 rfl rfl 1 (by decide) (hts _ (pj_up m_89)) (fun _ h9 => h9) rfl (by decide +kernel) rfl rfl (Nat.le_of_ble_eq_true rfl) dD_restart_2 (fun H locs hP hD hS => ?_)
  have hP : va_P D vwCl [(o, .inr (1, [.int wr, .int (-1)]))] H := hP
  have hD : va_D A [(o, .inr (1, [.int wr, .int (-1)]))] := hD
  exact pj_vret hx hb hr hlocks hP hD hS (rfl) dD_restart_5
set_option maxHeartbeats 4000000 in
set_option maxRecDepth 100000 in
theorem c_block (l : Launch) (D : va_G) (cI cJ cZ : ClassId) (o : Nat) (wr lf : Int32) : pj_Met l yD_writeBlock wsD_writeBlock ({ frames := 0, cells := 0, slots := 0, locals := 0 }) D vwCl (pjT cI cJ cZ) pj_no [.ref o] [(o, .inr (1, [.int wr, .int lf]))] none [(o, .inr (1, [.int (wr + 1), .int (pjL lf)]))] 0 0 := by
  refine pj_of (by decide) rfl (Nat.le_of_ble_eq_true rfl) ?_
  intro p e s m below meth c A ls hx hb hml hr hts hown hlocks hin hA hK hP hD hS hG hl
  have hl : lv_has ls 1 [(0, .ref o)] := hl
  refine lv_aload_n hx hb dD_writeBlock_0 rfl (lv_at hl 0 rfl) ?_
  refine lv_dup hx hb dD_writeBlock_1 rfl ?_
  refine va_get (D := D) (ci := 1) (v := .int wr) (C := "ReplayJournal$Disk") (T := TD) (N := 2) hx hb hts (pj_ups inD) hown hK hP 0 rfl rfl 0 (by decide) (hts _ (pj_up m_88)) (fun _ h9 => h9) rfl dD_writeBlock_2 ?_
  refine lv_iconst (v := 1) hx hb dD_writeBlock_5 (by decide) ?_
  refine lv_iadd hx hb dD_writeBlock_6 ?_
  refine va_put (D := D) (ci := 1) (v := .int (wr + 1)) (ty := .int) (C := "ReplayJournal$Disk") (T := TD) (N := 2) hx hb hts (pj_ups inD) tyD tyD_ok nmD hown hK hP hD hS 0 rfl rfl 0 (by decide) (hts _ (pj_up m_88)) (fun _ h9 => h9) rfl (by decide +kernel) rfl rfl (Nat.le_of_ble_eq_true rfl) dD_writeBlock_7 (fun H locs hP hD hS => ?_)
  have hP : va_P D vwCl [(o, .inr (1, [.int (wr + 1), .int lf]))] H := hP
  have hD : va_D A [(o, .inr (1, [.int (wr + 1), .int lf]))] := hD
  refine lv_aload_n hx hb dD_writeBlock_10 rfl (lv_at hl 0 rfl) ?_
  refine va_get (D := D) (ci := 1) (v := .int lf) (C := "ReplayJournal$Disk") (T := TD) (N := 2) hx hb hts (pj_ups inD) hown hK hP 0 rfl rfl 1 (by decide) (hts _ (pj_up m_89)) (fun _ h9 => h9) rfl dD_writeBlock_11 ?_
  refine lv_if_le (tgt := 27) hx hb dD_writeBlock_14 (by decide) (fun c1 => ?_) (fun c1 => ?_)
  · exact pj_vret hx hb hr hlocks hP hD hS (by rw [pjL, if_neg (by first | exact c1 | exact fun h => absurd h (by first | exact Int32.not_lt.mpr c1 | exact c1))]) dD_writeBlock_27
  · refine lv_aload_n hx hb dD_writeBlock_17 rfl (lv_at hl 0 rfl) ?_
    refine lv_dup hx hb dD_writeBlock_18 rfl ?_
    refine va_get (D := D) (ci := 1) (v := .int lf) (C := "ReplayJournal$Disk") (T := TD) (N := 2) hx hb hts (pj_ups inD) hown hK hP 0 rfl rfl 1 (by decide) (hts _ (pj_up m_89)) (fun _ h9 => h9) rfl dD_writeBlock_19 ?_
    refine lv_iconst (v := 1) hx hb dD_writeBlock_22 (by decide) ?_
    refine lv_isub hx hb dD_writeBlock_23 ?_
    refine va_put (D := D) (ci := 1) (v := .int (lf - 1)) (ty := .int) (C := "ReplayJournal$Disk") (T := TD) (N := 2) hx hb hts (pj_ups inD) tyD tyD_ok nmD hown hK hP hD hS 0 rfl rfl 1 (by decide) (hts _ (pj_up m_89)) (fun _ h9 => h9) rfl (by decide +kernel) rfl rfl (Nat.le_of_ble_eq_true rfl) dD_writeBlock_24 (fun H locs hP hD hS => ?_)
    have hP : va_P D vwCl [(o, .inr (1, [.int (wr + 1), .int (lf - 1)]))] H := hP
    have hD : va_D A [(o, .inr (1, [.int (wr + 1), .int (lf - 1)]))] := hD
    exact pj_vret hx hb hr hlocks hP hD hS (by rw [pjL, if_pos (by first | exact c1 | exact Int32.not_le.mp c1)]) dD_writeBlock_27
set_option maxHeartbeats 4000000 in
set_option maxRecDepth 100000 in
theorem c_blocks (l : Launch) (D : va_G) (cI cJ cZ : ClassId) (o : Nat) (wr lf : Int32) (n0 : Nat) (hn : n0 < 2 ^ 31) : pj_Met l yD_writeBlocks wsD_writeBlocks ({ frames := 1, cells := 0, slots := 0, locals := 20 }) D vwCl (pjT cI cJ cZ) pj_no [.ref o, .int (nI n0)] [(o, .inr (1, [.int wr, .int lf]))] (some (.int (nI (pjB n0 0 wr lf).1))) [(o, .inr (1, [.int ((pjB n0 0 wr lf).2.1), .int ((pjB n0 0 wr lf).2.2)]))] 0 0 := by
  refine pj_of (by decide) rfl (Nat.le_of_ble_eq_true rfl) ?_
  intro p e s m below meth c A ls hx hb hml hr hts hown hlocks hin hA hK hP hD hS hG hl
  have hl : lv_has ls 3 [(0, .ref o), (1, .int (nI n0))] := hl
  refine lv_iconst (v := 0) hx hb dD_writeBlocks_0 (by decide) ?_
  refine lv_istore_n (lv' := [(2, .int 0), (0, .ref o), (1, .int (nI n0))]) hx hb dD_writeBlocks_1 rfl hl (by decide) rfl (fun ls hl => ?_)
  suffices loop : ∀ (k d : Nat) (w0 x0 : Int32), d + k = n0 → pjB k d w0 x0 = pjB n0 0 wr lf → ∀ (H : Heap) (locs : List Loc), va_P D vwCl [(o, .inr (1, [.int w0, .int x0]))] H → va_D A [(o, .inr (1, [.int w0, .int x0]))] → va_S A s.heap H locs → ∀ (ls : Array Slot), lv_has ls 3 [(2, .int (nI d)), (0, .ref o), (1, .int (nI n0))] → W p l e ({ frames := 1, cells := 0, slots := 0, locals := 20 }) s m (([.ref o, .int (nI n0)] : List Value).toArray) below meth c H locs 0 0 (MQ below (pj_Q (some (.int (nI (pjB n0 0 wr lf).1))) [(o, .inr (1, [.int ((pjB n0 0 wr lf).2.1), .int ((pjB n0 0 wr lf).2.2)]))] D vwCl A) (([.ref o, .int (nI n0)] : List Value).toArray) s 0 0 A) (F0 m 2 ls []) by
    exact loop n0 0 wr lf (by omega) rfl s.heap [] hP hD hS ls (lv_sub hl [0, 1, 2] rfl)
  intro k
  induction k with
  | zero =>
    intro d w0 x0 hd hb9 H locs hP hD hS ls hl
    refine lv_iload_n hx hb dD_writeBlocks_2 rfl (lv_at hl 0 rfl) ?_
    refine lv_iload_n hx hb dD_writeBlocks_3 rfl (lv_at hl 2 rfl) ?_
    refine lv_icmp_ge (tgt := 24) hx hb dD_writeBlocks_4 (by decide) (fun _ => ?_) (fun h9 => (h9 (nI_le (by omega) (by omega))).elim)
    refine lv_iload_n hx hb dD_writeBlocks_24 rfl (lv_at hl 0 rfl) ?_
    exact pj_iret hx hb hr hlocks hP hD hS (by rw [← hb9, pjB] <;> rfl) (by rw [← hb9, pjB] <;> rfl) dD_writeBlocks_25
  | succ k ih =>
    intro d w0 x0 hd hb9 H locs hP hD hS ls hl
    refine lv_iload_n hx hb dD_writeBlocks_2 rfl (lv_at hl 0 rfl) ?_
    refine lv_iload_n hx hb dD_writeBlocks_3 rfl (lv_at hl 2 rfl) ?_
    refine lv_icmp_ge (tgt := 24) hx hb dD_writeBlocks_4 (by decide) (fun h9 => absurd h9 (nI_ge (by omega) hn)) (fun _ => ?_)
    refine lv_aload_n hx hb dD_writeBlocks_7 rfl (lv_at hl 1 rfl) ?_
    by_cases h0 : x0 = 0
    · refine pp_callV (rest := []) (st1 := [.int 1]) ⟨hx, hb, hml, hown, hts⟩ (c_off_t l D cI cJ cZ o w0 x0 h0) (cwV 0 hts (pj_gV m_361 m_151 m_152 m_23 m_153) rfl rfl rfl (by decide +kernel) ⟨Nat.le_of_ble_eq_true rfl, Nat.le_of_ble_eq_true rfl⟩) pj_no_ok trivial hK hP hD hS hA (ci := 1) (q0 := 0) rfl rfl [0] rfl rfl rfl hl.1 rfl (Nat.le_of_ble_eq_true rfl) dD_writeBlocks_8 ⟨Nat.le_of_ble_eq_true rfl, Nat.le_of_ble_eq_true rfl⟩ rfl ?_
      refine lv_if_ne (tgt := 24) hx hb dD_writeBlocks_11 (by decide) (fun _ => ?_) (fun h9 => absurd h9 (by decide))
      refine lv_iload_n hx hb dD_writeBlocks_24 rfl (lv_at hl 0 rfl) ?_
      exact pj_iret hx hb hr hlocks hP hD hS (by rw [← hb9, pjB, if_pos h0] <;> rfl) (by rw [← hb9, pjB, if_pos h0] <;> rfl) dD_writeBlocks_25
    · refine pp_callV (rest := []) (st1 := [.int 0]) ⟨hx, hb, hml, hown, hts⟩ (c_off_f l D cI cJ cZ o w0 x0 h0) (cwV 0 hts (pj_gV m_361 m_151 m_152 m_23 m_153) rfl rfl rfl (by decide +kernel) ⟨Nat.le_of_ble_eq_true rfl, Nat.le_of_ble_eq_true rfl⟩) pj_no_ok trivial hK hP hD hS hA (ci := 1) (q0 := 0) rfl rfl [0] rfl rfl rfl hl.1 rfl (Nat.le_of_ble_eq_true rfl) dD_writeBlocks_8 ⟨Nat.le_of_ble_eq_true rfl, Nat.le_of_ble_eq_true rfl⟩ rfl ?_
      refine lv_if_ne (tgt := 24) hx hb dD_writeBlocks_11 (by decide) (fun h9 => absurd h9 (fun h => h rfl)) (fun _ => ?_)
      refine lv_aload_n hx hb dD_writeBlocks_14 rfl (lv_at hl 1 rfl) ?_
      refine pj_callV (w2 := [(o, .inr (1, [.int (w0 + 1), .int (pjL x0)]))]) (wr := []) (rest := []) (st1 := []) ⟨hx, hb, hml, hown, hts⟩ (c_block l D cI cJ cZ o w0 x0) (cwV 0 hts (pj_gV m_362 m_281 m_282 m_23 m_283) rfl rfl rfl (by decide +kernel) ⟨Nat.le_of_ble_eq_true rfl, Nat.le_of_ble_eq_true rfl⟩) pj_no_ok trivial hK hP hD hS hA (ci := 1) (q0 := 0) rfl rfl [0] [] [0] rfl rfl rfl rfl (by decide) rfl rfl rfl hl.1 rfl (Nat.le_of_ble_eq_true rfl) dD_writeBlocks_15 ⟨Nat.le_of_ble_eq_true rfl, Nat.le_of_ble_eq_true rfl⟩ rfl rfl rfl (fun H locs hP hD hS => ?_)
      refine lv_iinc (v := nI (d + 1)) (lv' := [(2, .int (nI (d + 1))), (0, .ref o), (1, .int (nI n0))]) hx hb dD_writeBlocks_18 hl (k := 0) rfl (nI_1 d) (by decide) rfl (fun ls hl => ?_)
      refine lv_goto (tgt := 2) hx hb dD_writeBlocks_21 (by decide) ?_
      exact ih (d + 1) (w0 + 1) (pjL x0) (by omega) (by rw [← hb9, pjB, if_neg h0]) H locs hP hD hS ls (lv_sub hl [0, 1, 2] rfl)
