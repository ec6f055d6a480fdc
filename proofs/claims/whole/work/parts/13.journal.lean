set_option maxHeartbeats 4000000 in
set_option maxRecDepth 100000 in
theorem c_used (l : Launch) (D : va_G) (cI cJ cZ : ClassId) (oj pf pt pv pz J u : Nat) (fr to fi : Nat → Int32) (va : Nat → Int64) (hJ : J < 2 ^ 31) (hu : u ≤ J) : pp_Met l yJ_usedBlocks wsJ_usedBlocks ({ frames := 0, cells := 0, slots := 0, locals := 0 }) D vwCl (pjT cI cJ cZ) pj_no [.ref oj] [(oj, .inr (2, [.ref pf, .ref pt, .ref pv, .ref pz, .int (nI u)])), (pf, .inl (cI, J, .inl fr)), (pt, .inl (cI, J, .inl to)), (pv, .inl (cJ, J, .inr (.inl va))), (pz, .inl (cZ, J, .inl fi))] (some (.int (nI u))) := by
  refine pp_of (by decide) rfl (Nat.le_of_ble_eq_true rfl) ?_
  intro p e s m below meth c A ls hx hb hml hr hts hown hlocks hA hK hP hD hS hG hl
  have hl : lv_has ls 1 [(0, .ref oj)] := hl
  refine lv_aload_n hx hb dJ_usedBlocks_0 rfl (lv_at hl 0 rfl) ?_
  refine va_get (D := D) (ci := 2) (v := .int (nI u)) (C := "ReplayJournal$Journal") (T := TJ) (N := 5) hx hb hts (pj_ups inJ) hown hK hP 0 rfl rfl 4 (by decide) (hts _ (pj_up m_69)) (fun _ h9 => h9) rfl dJ_usedBlocks_1 ?_
  exact pp_iret hx hb hr hlocks (rfl) dJ_usedBlocks_4
set_option maxHeartbeats 4000000 in
set_option maxRecDepth 100000 in
theorem c_clear (l : Launch) (D : va_G) (cI cJ cZ : ClassId) (oj pf pt pv pz J u : Nat) (fr to fi : Nat → Int32) (va : Nat → Int64) (hJ : J < 2 ^ 31) (hu : u ≤ J) : pj_Met l yJ_clear wsJ_clear ({ frames := 0, cells := 0, slots := 0, locals := 0 }) D vwCl (pjT cI cJ cZ) pj_no [.ref oj] [(oj, .inr (2, [.ref pf, .ref pt, .ref pv, .ref pz, .int (nI u)])), (pf, .inl (cI, J, .inl fr)), (pt, .inl (cI, J, .inl to)), (pv, .inl (cJ, J, .inr (.inl va))), (pz, .inl (cZ, J, .inl fi))] none [(oj, .inr (2, [.ref pf, .ref pt, .ref pv, .ref pz, .int (nI 0)])), (pf, .inl (cI, J, .inl fr)), (pt, .inl (cI, J, .inl to)), (pv, .inl (cJ, J, .inr (.inl va))), (pz, .inl (cZ, J, .inl fi))] 0 0 := by
  refine pj_of (by decide) rfl (Nat.le_of_ble_eq_true rfl) ?_
  intro p e s m below meth c A ls hx hb hml hr hts hown hlocks hin hA hK hP hD hS hG hl
  have hl : lv_has ls 1 [(0, .ref oj)] := hl
  refine lv_aload_n hx hb dJ_clear_0 rfl (lv_at hl 0 rfl) ?_
  refine lv_iconst (v := 0) hx hb dJ_clear_1 (by decide) ?_
  refine va_put (D := D) (ci := 2) (v := .int 0) (ty := .int) (C := "ReplayJournal$Journal") (T := TJ) (N := 5) hx hb hts (pj_ups inJ) tyJ tyJ_ok nmJ hown hK hP hD hS 0 rfl rfl 4 (by decide) (hts _ (pj_up m_69)) (fun _ h9 => h9) rfl (by decide +kernel) rfl rfl (Nat.le_of_ble_eq_true rfl) dJ_clear_2 (fun H locs hP hD hS => ?_)
  have hP : va_P D vwCl [(oj, .inr (2, [.ref pf, .ref pt, .ref pv, .ref pz, .int 0])), (pf, .inl (cI, J, .inl fr)), (pt, .inl (cI, J, .inl to)), (pv, .inl (cJ, J, .inr (.inl va))), (pz, .inl (cZ, J, .inl fi))] H := hP
  have hD : va_D A [(oj, .inr (2, [.ref pf, .ref pt, .ref pv, .ref pz, .int 0])), (pf, .inl (cI, J, .inl fr)), (pt, .inl (cI, J, .inl to)), (pv, .inl (cJ, J, .inr (.inl va))), (pz, .inl (cZ, J, .inl fi))] := hD
  exact pj_vret hx hb hr hlocks hP hD hS (rfl) dJ_clear_5
set_option maxHeartbeats 4000000 in
set_option maxRecDepth 100000 in
theorem c_wc_full (l : Launch) (D : va_G) (cI cJ cZ : ClassId) (oj pf pt pv pz J u : Nat) (fr to fi : Nat → Int32) (va : Nat → Int64) (hJ : J < 2 ^ 31) (hu : u ≤ J) (x y : Int32) (v : Int64) (z : Int32) (h : J ≤ u) : pp_Met l yJ_writeChange wsJ_writeChange ({ frames := 0, cells := 0, slots := 0, locals := 0 }) D vwCl (pjT cI cJ cZ) pj_no [.ref oj, .int x, .int y, .long v, .int z] [(oj, .inr (2, [.ref pf, .ref pt, .ref pv, .ref pz, .int (nI u)])), (pf, .inl (cI, J, .inl fr)), (pt, .inl (cI, J, .inl to)), (pv, .inl (cJ, J, .inr (.inl va))), (pz, .inl (cZ, J, .inl fi))] (some (.int 0)) := by
  refine pp_of (by decide) rfl (Nat.le_of_ble_eq_true rfl) ?_
  intro p e s m below meth c A ls hx hb hml hr hts hown hlocks hA hK hP hD hS hG hl
  have hl : lv_has ls 6 [(0, .ref oj), (1, .int x), (2, .int y), (3, .long v), (5, .int z)] := hl
  refine lv_aload_n hx hb dJ_writeChange_0 rfl (lv_at hl 0 rfl) ?_
  refine va_get (D := D) (ci := 2) (v := .int (nI u)) (C := "ReplayJournal$Journal") (T := TJ) (N := 5) hx hb hts (pj_ups inJ) hown hK hP 0 rfl rfl 4 (by decide) (hts _ (pj_up m_69)) (fun _ h9 => h9) rfl dJ_writeChange_1 ?_
  refine lv_aload_n hx hb dJ_writeChange_4 rfl (lv_at hl 0 rfl) ?_
  refine va_get (D := D) (ci := 2) (v := .ref pz) (C := "ReplayJournal$Journal") (T := TJ) (N := 5) hx hb hts (pj_ups inJ) hown hK hP 0 rfl rfl 3 (by decide) (hts _ (pj_up m_68)) (fun _ h9 => h9) rfl dJ_writeChange_5 ?_
  refine va_alen (v := nI J) hx hb hK hP 4 2 rfl rfl rfl dJ_writeChange_8 ?_
  refine lv_icmp_lt (tgt := 14) hx hb dJ_writeChange_9 (by decide) (fun h9 => absurd h9 (nI_nlt h (by omega))) (fun _ => ?_)
  refine lv_iconst (v := 0) hx hb dJ_writeChange_12 (by decide) ?_
  exact pp_zret hx hb hr hlocks (rfl) (by decide) dJ_writeChange_13
set_option maxHeartbeats 4000000 in
set_option maxRecDepth 100000 in
theorem c_wc_ok (l : Launch) (D : va_G) (cI cJ cZ : ClassId) (oj pf pt pv pz J u : Nat) (fr to fi : Nat → Int32) (va : Nat → Int64) (hJ : J < 2 ^ 31) (hu : u ≤ J) (x y : Int32) (v : Int64) (z : Int32) (h : u < J) (hz : vp_nar .boolean z = z) : pj_Met l yJ_writeChange wsJ_writeChange ({ frames := 0, cells := 0, slots := 0, locals := 0 }) D vwCl (pjT cI cJ cZ) pj_no [.ref oj, .int x, .int y, .long v, .int z] [(oj, .inr (2, [.ref pf, .ref pt, .ref pv, .ref pz, .int (nI u)])), (pf, .inl (cI, J, .inl fr)), (pt, .inl (cI, J, .inl to)), (pv, .inl (cJ, J, .inr (.inl va))), (pz, .inl (cZ, J, .inl fi))] (some (.int 1)) [(oj, .inr (2, [.ref pf, .ref pt, .ref pv, .ref pz, .int (nI (u + 1))])), (pf, .inl (cI, J, .inl (upd fr u x))), (pt, .inl (cI, J, .inl (upd to u y))), (pv, .inl (cJ, J, .inr (.inl (vp_updL va u v)))), (pz, .inl (cZ, J, .inl (upd fi u z)))] 0 0 := by
  refine pj_of (by decide) rfl (Nat.le_of_ble_eq_true rfl) ?_
  intro p e s m below meth c A ls hx hb hml hr hts hown hlocks hin hA hK hP hD hS hG hl
  have hl : lv_has ls 6 [(0, .ref oj), (1, .int x), (2, .int y), (3, .long v), (5, .int z)] := hl
  refine lv_aload_n hx hb dJ_writeChange_0 rfl (lv_at hl 0 rfl) ?_
  refine va_get (D := D) (ci := 2) (v := .int (nI u)) (C := "ReplayJournal$Journal") (T := TJ) (N := 5) hx hb hts (pj_ups inJ) hown hK hP 0 rfl rfl 4 (by decide) (hts _ (pj_up m_69)) (fun _ h9 => h9) rfl dJ_writeChange_1 ?_
  refine lv_aload_n hx hb dJ_writeChange_4 rfl (lv_at hl 0 rfl) ?_
  refine va_get (D := D) (ci := 2) (v := .ref pz) (C := "ReplayJournal$Journal") (T := TJ) (N := 5) hx hb hts (pj_ups inJ) hown hK hP 0 rfl rfl 3 (by decide) (hts _ (pj_up m_68)) (fun _ h9 => h9) rfl dJ_writeChange_5 ?_
  refine va_alen (v := nI J) hx hb hK hP 4 2 rfl rfl rfl dJ_writeChange_8 ?_
  refine lv_icmp_lt (tgt := 14) hx hb dJ_writeChange_9 (by decide) (fun _ => ?_) (fun h9 => (h9 (nI_lt h hJ)).elim)
  refine lv_aload_n hx hb dJ_writeChange_14 rfl (lv_at hl 0 rfl) ?_
  refine va_get (D := D) (ci := 2) (v := .ref pf) (C := "ReplayJournal$Journal") (T := TJ) (N := 5) hx hb hts (pj_ups inJ) hown hK hP 0 rfl rfl 0 (by decide) (hts _ (pj_up m_65)) (fun _ h9 => h9) rfl dJ_writeChange_15 ?_
  refine lv_aload_n hx hb dJ_writeChange_18 rfl (lv_at hl 0 rfl) ?_
  refine va_get (D := D) (ci := 2) (v := .int (nI u)) (C := "ReplayJournal$Journal") (T := TJ) (N := 5) hx hb hts (pj_ups inJ) hown hK hP 0 rfl rfl 4 (by decide) (hts _ (pj_up m_69)) (fun _ h9 => h9) rfl dJ_writeChange_19 ?_
  refine lv_iload_n hx hb dJ_writeChange_22 rfl (lv_at hl 1 rfl) ?_
  refine va_iast hx hb hK hP hD hS 1 0 rfl rfl (vp_in_nI h hJ) dJ_writeChange_23 (fun H locs hP hD hS => ?_)
  have hP : va_P D vwCl [(oj, .inr (2, [.ref pf, .ref pt, .ref pv, .ref pz, .int (nI u)])), (pf, .inl (cI, J, .inl (upd fr ((nI u).toNatClampNeg) x))), (pt, .inl (cI, J, .inl to)), (pv, .inl (cJ, J, .inr (.inl va))), (pz, .inl (cZ, J, .inl fi))] H := hP
  have hD : va_D A [(oj, .inr (2, [.ref pf, .ref pt, .ref pv, .ref pz, .int (nI u)])), (pf, .inl (cI, J, .inl (upd fr ((nI u).toNatClampNeg) x))), (pt, .inl (cI, J, .inl to)), (pv, .inl (cJ, J, .inr (.inl va))), (pz, .inl (cZ, J, .inl fi))] := hD
  refine lv_aload_n hx hb dJ_writeChange_24 rfl (lv_at hl 0 rfl) ?_
  refine va_get (D := D) (ci := 2) (v := .ref pt) (C := "ReplayJournal$Journal") (T := TJ) (N := 5) hx hb hts (pj_ups inJ) hown hK hP 0 rfl rfl 1 (by decide) (hts _ (pj_up m_66)) (fun _ h9 => h9) rfl dJ_writeChange_25 ?_
  refine lv_aload_n hx hb dJ_writeChange_28 rfl (lv_at hl 0 rfl) ?_
  refine va_get (D := D) (ci := 2) (v := .int (nI u)) (C := "ReplayJournal$Journal") (T := TJ) (N := 5) hx hb hts (pj_ups inJ) hown hK hP 0 rfl rfl 4 (by decide) (hts _ (pj_up m_69)) (fun _ h9 => h9) rfl dJ_writeChange_29 ?_
  refine lv_iload_n hx hb dJ_writeChange_32 rfl (lv_at hl 2 rfl) ?_
  refine va_iast hx hb hK hP hD hS 2 0 rfl rfl (vp_in_nI h hJ) dJ_writeChange_33 (fun H locs hP hD hS => ?_)
  have hP : va_P D vwCl [(oj, .inr (2, [.ref pf, .ref pt, .ref pv, .ref pz, .int (nI u)])), (pf, .inl (cI, J, .inl (upd fr ((nI u).toNatClampNeg) x))), (pt, .inl (cI, J, .inl (upd to ((nI u).toNatClampNeg) y))), (pv, .inl (cJ, J, .inr (.inl va))), (pz, .inl (cZ, J, .inl fi))] H := hP
  have hD : va_D A [(oj, .inr (2, [.ref pf, .ref pt, .ref pv, .ref pz, .int (nI u)])), (pf, .inl (cI, J, .inl (upd fr ((nI u).toNatClampNeg) x))), (pt, .inl (cI, J, .inl (upd to ((nI u).toNatClampNeg) y))), (pv, .inl (cJ, J, .inr (.inl va))), (pz, .inl (cZ, J, .inl fi))] := hD
  refine lv_aload_n hx hb dJ_writeChange_34 rfl (lv_at hl 0 rfl) ?_
  refine va_get (D := D) (ci := 2) (v := .ref pv) (C := "ReplayJournal$Journal") (T := TJ) (N := 5) hx hb hts (pj_ups inJ) hown hK hP 0 rfl rfl 2 (by decide) (hts _ (pj_up m_67)) (fun _ h9 => h9) rfl dJ_writeChange_35 ?_
  refine lv_aload_n hx hb dJ_writeChange_38 rfl (lv_at hl 0 rfl) ?_
  refine va_get (D := D) (ci := 2) (v := .int (nI u)) (C := "ReplayJournal$Journal") (T := TJ) (N := 5) hx hb hts (pj_ups inJ) hown hK hP 0 rfl rfl 4 (by decide) (hts _ (pj_up m_69)) (fun _ h9 => h9) rfl dJ_writeChange_39 ?_
  refine lv_lload_n hx hb dJ_writeChange_42 rfl (lv_at hl 3 rfl) ?_
  refine va_last hx hb hK hP hD hS 3 1 rfl rfl (vp_in_nI h hJ) dJ_writeChange_43 (fun H locs hP hD hS => ?_)
  have hP : va_P D vwCl [(oj, .inr (2, [.ref pf, .ref pt, .ref pv, .ref pz, .int (nI u)])), (pf, .inl (cI, J, .inl (upd fr ((nI u).toNatClampNeg) x))), (pt, .inl (cI, J, .inl (upd to ((nI u).toNatClampNeg) y))), (pv, .inl (cJ, J, .inr (.inl (vp_updL va ((nI u).toNatClampNeg) v)))), (pz, .inl (cZ, J, .inl fi))] H := hP
  have hD : va_D A [(oj, .inr (2, [.ref pf, .ref pt, .ref pv, .ref pz, .int (nI u)])), (pf, .inl (cI, J, .inl (upd fr ((nI u).toNatClampNeg) x))), (pt, .inl (cI, J, .inl (upd to ((nI u).toNatClampNeg) y))), (pv, .inl (cJ, J, .inr (.inl (vp_updL va ((nI u).toNatClampNeg) v)))), (pz, .inl (cZ, J, .inl fi))] := hD
  refine lv_aload_n hx hb dJ_writeChange_44 rfl (lv_at hl 0 rfl) ?_
  refine va_get (D := D) (ci := 2) (v := .ref pz) (C := "ReplayJournal$Journal") (T := TJ) (N := 5) hx hb hts (pj_ups inJ) hown hK hP 0 rfl rfl 3 (by decide) (hts _ (pj_up m_68)) (fun _ h9 => h9) rfl dJ_writeChange_45 ?_
  refine lv_aload_n hx hb dJ_writeChange_48 rfl (lv_at hl 0 rfl) ?_
  refine va_get (D := D) (ci := 2) (v := .int (nI u)) (C := "ReplayJournal$Journal") (T := TJ) (N := 5) hx hb hts (pj_ups inJ) hown hK hP 0 rfl rfl 4 (by decide) (hts _ (pj_up m_69)) (fun _ h9 => h9) rfl dJ_writeChange_49 ?_
  refine lv_iload hx hb dJ_writeChange_52 (lv_at hl 4 rfl) ?_
  refine va_zast hx hb hK hP hD hS 4 2 rfl rfl (vp_in_nI h hJ) dJ_writeChange_54 (fun H locs hP hD hS => ?_)
  have hP : va_P D vwCl [(oj, .inr (2, [.ref pf, .ref pt, .ref pv, .ref pz, .int (nI u)])), (pf, .inl (cI, J, .inl (upd fr ((nI u).toNatClampNeg) x))), (pt, .inl (cI, J, .inl (upd to ((nI u).toNatClampNeg) y))), (pv, .inl (cJ, J, .inr (.inl (vp_updL va ((nI u).toNatClampNeg) v)))), (pz, .inl (cZ, J, .inl (upd fi ((nI u).toNatClampNeg) (vp_nar .boolean z))))] H := hP
  have hD : va_D A [(oj, .inr (2, [.ref pf, .ref pt, .ref pv, .ref pz, .int (nI u)])), (pf, .inl (cI, J, .inl (upd fr ((nI u).toNatClampNeg) x))), (pt, .inl (cI, J, .inl (upd to ((nI u).toNatClampNeg) y))), (pv, .inl (cJ, J, .inr (.inl (vp_updL va ((nI u).toNatClampNeg) v)))), (pz, .inl (cZ, J, .inl (upd fi ((nI u).toNatClampNeg) (vp_nar .boolean z))))] := hD
  refine lv_aload_n hx hb dJ_writeChange_55 rfl (lv_at hl 0 rfl) ?_
  refine lv_dup hx hb dJ_writeChange_56 rfl ?_
  refine va_get (D := D) (ci := 2) (v := .int (nI u)) (C := "ReplayJournal$Journal") (T := TJ) (N := 5) hx hb hts (pj_ups inJ) hown hK hP 0 rfl rfl 4 (by decide) (hts _ (pj_up m_69)) (fun _ h9 => h9) rfl dJ_writeChange_57 ?_
  refine lv_iconst (v := 1) hx hb dJ_writeChange_60 (by decide) ?_
  refine lv_iadd hx hb dJ_writeChange_61 ?_
  refine va_put (D := D) (ci := 2) (v := .int ((nI u) + 1)) (ty := .int) (C := "ReplayJournal$Journal") (T := TJ) (N := 5) hx hb hts (pj_ups inJ) tyJ tyJ_ok nmJ hown hK hP hD hS 0 rfl rfl 4 (by decide) (hts _ (pj_up m_69)) (fun _ h9 => h9) rfl (by decide +kernel) rfl rfl (Nat.le_of_ble_eq_true rfl) dJ_writeChange_62 (fun H locs hP hD hS => ?_)
  have hP : va_P D vwCl [(oj, .inr (2, [.ref pf, .ref pt, .ref pv, .ref pz, .int ((nI u) + 1)])), (pf, .inl (cI, J, .inl (upd fr ((nI u).toNatClampNeg) x))), (pt, .inl (cI, J, .inl (upd to ((nI u).toNatClampNeg) y))), (pv, .inl (cJ, J, .inr (.inl (vp_updL va ((nI u).toNatClampNeg) v)))), (pz, .inl (cZ, J, .inl (upd fi ((nI u).toNatClampNeg) (vp_nar .boolean z))))] H := hP
  have hD : va_D A [(oj, .inr (2, [.ref pf, .ref pt, .ref pv, .ref pz, .int ((nI u) + 1)])), (pf, .inl (cI, J, .inl (upd fr ((nI u).toNatClampNeg) x))), (pt, .inl (cI, J, .inl (upd to ((nI u).toNatClampNeg) y))), (pv, .inl (cJ, J, .inr (.inl (vp_updL va ((nI u).toNatClampNeg) v)))), (pz, .inl (cZ, J, .inl (upd fi ((nI u).toNatClampNeg) (vp_nar .boolean z))))] := hD
  refine lv_iconst (v := 1) hx hb dJ_writeChange_65 (by decide) ?_
  exact pj_zret hx hb hr hlocks hP hD hS (rfl) (by rw [nI_clamp (n := u) (by omega), nI_1, hz]) (by decide) dJ_writeChange_66
set_option maxHeartbeats 4000000 in
set_option maxRecDepth 100000 in
theorem c_first (l : Launch) (D : va_G) (cI cJ cZ : ClassId) (oj pf pt pv pz J u : Nat) (fr to fi : Nat → Int32) (va : Nat → Int64) (hJ : J < 2 ^ 31) (hu : u ≤ J) (gz : Nat) (hg : gz ≤ u) : pp_Met l yJ_firstOfLast wsJ_firstOfLast ({ frames := 1, cells := 0, slots := 0, locals := 13 }) D vwCl (pjT cI cJ cZ) pj_no [.ref oj, .int (nI gz)] [(oj, .inr (2, [.ref pf, .ref pt, .ref pv, .ref pz, .int (nI u)])), (pf, .inl (cI, J, .inl fr)), (pt, .inl (cI, J, .inl to)), (pv, .inl (cJ, J, .inr (.inl va))), (pz, .inl (cZ, J, .inl fi))] (some (.int (nI (u - gz)))) := by
  refine pp_of (by decide) rfl (Nat.le_of_ble_eq_true rfl) ?_
  intro p e s m below meth c A ls hx hb hml hr hts hown hlocks hA hK hP hD hS hG hl
  have hl : lv_has ls 2 [(0, .ref oj), (1, .int (nI gz))] := hl
  refine lv_iconst (v := 0) hx hb dJ_firstOfLast_0 (by decide) ?_
  refine lv_aload_n hx hb dJ_firstOfLast_1 rfl (lv_at hl 0 rfl) ?_
  refine va_get (D := D) (ci := 2) (v := .int (nI u)) (C := "ReplayJournal$Journal") (T := TJ) (N := 5) hx hb hts (pj_ups inJ) hown hK hP 0 rfl rfl 4 (by decide) (hts _ (pj_up m_69)) (fun _ h9 => h9) rfl dJ_firstOfLast_2 ?_
  refine lv_iload_n hx hb dJ_firstOfLast_5 rfl (lv_at hl 1 rfl) ?_
  refine lv_isub hx hb dJ_firstOfLast_6 ?_
  refine va_mmax hx hb (hml.trans hl.1.symm) hown (hts _ (pj_up m_329)) (hts _ (pj_up m_42)) (hts _ (pj_up m_20)) (hts _ (pj_up m_43)) (Nat.le_of_ble_eq_true rfl) (Nat.le_of_ble_eq_true rfl) (Nat.le_of_ble_eq_true rfl) (Nat.le_of_ble_eq_true rfl) dJ_firstOfLast_7 ?_
  refine lv_topi (fun y9 e9 => ?_)
  have e9 : y9 = nI (u - gz) := e9.trans (by rw [pk_sub hg]; exact pj_max0 (by omega))
  subst e9
  exact pp_iret hx hb hr hlocks (rfl) dJ_firstOfLast_10
set_option maxHeartbeats 4000000 in
set_option maxRecDepth 100000 in
theorem c_we_full (l : Launch) (D : va_G) (cI cJ cZ : ClassId) (oj pf pt pv pz J u : Nat) (fr to fi : Nat → Int32) (va : Nat → Int64) (hJ : J < 2 ^ 31) (hu : u ≤ J) (gz : Nat) (h : J ≤ u) : pp_Met l yJ_writeEnd wsJ_writeEnd ({ frames := 2, cells := 0, slots := 0, locals := 34 }) D vwCl (pjT cI cJ cZ) pj_no [.ref oj, .int (nI gz)] [(oj, .inr (2, [.ref pf, .ref pt, .ref pv, .ref pz, .int (nI u)])), (pf, .inl (cI, J, .inl fr)), (pt, .inl (cI, J, .inl to)), (pv, .inl (cJ, J, .inr (.inl va))), (pz, .inl (cZ, J, .inl fi))] (some (.int 0)) := by
  refine pp_of (by decide) rfl (Nat.le_of_ble_eq_true rfl) ?_
  intro p e s m below meth c A ls hx hb hml hr hts hown hlocks hA hK hP hD hS hG hl
  have hl : lv_has ls 3 [(0, .ref oj), (1, .int (nI gz))] := hl
  refine lv_aload_n hx hb dJ_writeEnd_0 rfl (lv_at hl 0 rfl) ?_
  refine va_get (D := D) (ci := 2) (v := .int (nI u)) (C := "ReplayJournal$Journal") (T := TJ) (N := 5) hx hb hts (pj_ups inJ) hown hK hP 0 rfl rfl 4 (by decide) (hts _ (pj_up m_69)) (fun _ h9 => h9) rfl dJ_writeEnd_1 ?_
  refine lv_aload_n hx hb dJ_writeEnd_4 rfl (lv_at hl 0 rfl) ?_
  refine va_get (D := D) (ci := 2) (v := .ref pz) (C := "ReplayJournal$Journal") (T := TJ) (N := 5) hx hb hts (pj_ups inJ) hown hK hP 0 rfl rfl 3 (by decide) (hts _ (pj_up m_68)) (fun _ h9 => h9) rfl dJ_writeEnd_5 ?_
  refine va_alen (v := nI J) hx hb hK hP 4 2 rfl rfl rfl dJ_writeEnd_8 ?_
  refine lv_icmp_lt (tgt := 14) hx hb dJ_writeEnd_9 (by decide) (fun h9 => absurd h9 (nI_nlt h (by omega))) (fun _ => ?_)
  refine lv_iconst (v := 0) hx hb dJ_writeEnd_12 (by decide) ?_
  exact pp_zret hx hb hr hlocks (rfl) (by decide) dJ_writeEnd_13
set_option maxHeartbeats 4000000 in
set_option maxRecDepth 100000 in
theorem c_we_ok (l : Launch) (D : va_G) (cI cJ cZ : ClassId) (oj pf pt pv pz J u : Nat) (fr to fi : Nat → Int32) (va : Nat → Int64) (hJ : J < 2 ^ 31) (hu : u ≤ J) (gz : Nat) (hg : gz ≤ u) (h : u < J) : pj_Met l yJ_writeEnd wsJ_writeEnd ({ frames := 2, cells := 0, slots := 0, locals := 34 }) D vwCl (pjT cI cJ cZ) pj_no [.ref oj, .int (nI gz)] [(oj, .inr (2, [.ref pf, .ref pt, .ref pv, .ref pz, .int (nI u)])), (pf, .inl (cI, J, .inl fr)), (pt, .inl (cI, J, .inl to)), (pv, .inl (cJ, J, .inr (.inl va))), (pz, .inl (cZ, J, .inl fi))] (some (.int 1)) [(oj, .inr (2, [.ref pf, .ref pt, .ref pv, .ref pz, .int (nI (u + 1))])), (pf, .inl (cI, J, .inl fr)), (pt, .inl (cI, J, .inl to)), (pv, .inl (cJ, J, .inr (.inl va))), (pz, .inl (cZ, J, .inl (upd (pjF (u - gz) u fi) u 0)))] 0 0 := by
  refine pj_of (by decide) rfl (Nat.le_of_ble_eq_true rfl) ?_
  intro p e s m below meth c A ls hx hb hml hr hts hown hlocks hin hA hK hP hD hS hG hl
  have hl : lv_has ls 3 [(0, .ref oj), (1, .int (nI gz))] := hl
  refine lv_aload_n hx hb dJ_writeEnd_0 rfl (lv_at hl 0 rfl) ?_
  refine va_get (D := D) (ci := 2) (v := .int (nI u)) (C := "ReplayJournal$Journal") (T := TJ) (N := 5) hx hb hts (pj_ups inJ) hown hK hP 0 rfl rfl 4 (by decide) (hts _ (pj_up m_69)) (fun _ h9 => h9) rfl dJ_writeEnd_1 ?_
  refine lv_aload_n hx hb dJ_writeEnd_4 rfl (lv_at hl 0 rfl) ?_
  refine va_get (D := D) (ci := 2) (v := .ref pz) (C := "ReplayJournal$Journal") (T := TJ) (N := 5) hx hb hts (pj_ups inJ) hown hK hP 0 rfl rfl 3 (by decide) (hts _ (pj_up m_68)) (fun _ h9 => h9) rfl dJ_writeEnd_5 ?_
  refine va_alen (v := nI J) hx hb hK hP 4 2 rfl rfl rfl dJ_writeEnd_8 ?_
  refine lv_icmp_lt (tgt := 14) hx hb dJ_writeEnd_9 (by decide) (fun _ => ?_) (fun h9 => (h9 (nI_lt h hJ)).elim)
  refine lv_aload_n hx hb dJ_writeEnd_14 rfl (lv_at hl 0 rfl) ?_
  refine lv_iload_n hx hb dJ_writeEnd_15 rfl (lv_at hl 1 rfl) ?_
  refine pp_callV (rest := []) (st1 := [.int (nI (u - gz))]) ⟨hx, hb, hml, hown, hts⟩ (c_first l D cI cJ cZ oj pf pt pv pz J u fr to fi va hJ hu gz hg) (cwV 1 hts (pj_gV m_325 m_327 m_9 m_22 m_328) rfl rfl rfl (by decide +kernel) ⟨Nat.le_of_ble_eq_true rfl, Nat.le_of_ble_eq_true rfl⟩) pj_no_ok trivial hK hP hD hS hA (ci := 2) (q0 := 0) rfl rfl [0, 1, 2, 3, 4] rfl rfl rfl hl.1 rfl (Nat.le_of_ble_eq_true rfl) dJ_writeEnd_16 ⟨Nat.le_of_ble_eq_true rfl, Nat.le_of_ble_eq_true rfl⟩ rfl ?_
  refine lv_istore_n (lv' := [(2, .int (nI (u - gz))), (0, .ref oj), (1, .int (nI gz))]) hx hb dJ_writeEnd_19 rfl hl (by decide) rfl (fun ls hl => ?_)
  suffices loop : ∀ (k i : Nat), i + k = u → u - gz ≤ i → ∀ (H : Heap) (locs : List Loc), va_P D vwCl [(oj, .inr (2, [.ref pf, .ref pt, .ref pv, .ref pz, .int (nI u)])), (pf, .inl (cI, J, .inl fr)), (pt, .inl (cI, J, .inl to)), (pv, .inl (cJ, J, .inr (.inl va))), (pz, .inl (cZ, J, .inl (pjF (u - gz) i fi)))] H → va_D A [(oj, .inr (2, [.ref pf, .ref pt, .ref pv, .ref pz, .int (nI u)])), (pf, .inl (cI, J, .inl fr)), (pt, .inl (cI, J, .inl to)), (pv, .inl (cJ, J, .inr (.inl va))), (pz, .inl (cZ, J, .inl (pjF (u - gz) i fi)))] → va_S A s.heap H locs → ∀ (ls : Array Slot), lv_has ls 3 [(2, .int (nI i)), (0, .ref oj), (1, .int (nI gz))] → W p l e ({ frames := 2, cells := 0, slots := 0, locals := 34 }) s m (([.ref oj, .int (nI gz)] : List Value).toArray) below meth c H locs 0 0 (MQ below (pj_Q (some (.int 1)) [(oj, .inr (2, [.ref pf, .ref pt, .ref pv, .ref pz, .int (nI (u + 1))])), (pf, .inl (cI, J, .inl fr)), (pt, .inl (cI, J, .inl to)), (pv, .inl (cJ, J, .inr (.inl va))), (pz, .inl (cZ, J, .inl (upd (pjF (u - gz) u fi) u 0)))] D vwCl A) (([.ref oj, .int (nI gz)] : List Value).toArray) s 0 0 A) (F0 m 20 ls []) by
    exact loop gz (u - gz) (by omega) (Nat.le_refl _) s.heap [] (by rw [pjF_0]; exact hP) (by rw [pjF_0]; exact hD) hS ls (lv_sub hl [0, 1, 2] rfl)
  intro k
  induction k with
  | zero =>
    intro i hi hi2 H locs hP hD hS ls hl
    refine lv_iload_n hx hb dJ_writeEnd_20 rfl (lv_at hl 0 rfl) ?_
    refine lv_aload_n hx hb dJ_writeEnd_21 rfl (lv_at hl 1 rfl) ?_
    refine va_get (D := D) (ci := 2) (v := .int (nI u)) (C := "ReplayJournal$Journal") (T := TJ) (N := 5) hx hb hts (pj_ups inJ) hown hK hP 0 rfl rfl 4 (by decide) (hts _ (pj_up m_69)) (fun _ h9 => h9) rfl dJ_writeEnd_22 ?_
    refine lv_icmp_ge (tgt := 41) hx hb dJ_writeEnd_25 (by decide) (fun _ => ?_) (fun h9 => (h9 (nI_le (by omega) (by omega))).elim)
    refine lv_aload_n hx hb dJ_writeEnd_41 rfl (lv_at hl 1 rfl) ?_
    refine va_get (D := D) (ci := 2) (v := .ref pz) (C := "ReplayJournal$Journal") (T := TJ) (N := 5) hx hb hts (pj_ups inJ) hown hK hP 0 rfl rfl 3 (by decide) (hts _ (pj_up m_68)) (fun _ h9 => h9) rfl dJ_writeEnd_42 ?_
    refine lv_aload_n hx hb dJ_writeEnd_45 rfl (lv_at hl 1 rfl) ?_
    refine va_get (D := D) (ci := 2) (v := .int (nI u)) (C := "ReplayJournal$Journal") (T := TJ) (N := 5) hx hb hts (pj_ups inJ) hown hK hP 0 rfl rfl 4 (by decide) (hts _ (pj_up m_69)) (fun _ h9 => h9) rfl dJ_writeEnd_46 ?_
    refine lv_iconst (v := 0) hx hb dJ_writeEnd_49 (by decide) ?_
    refine va_zast hx hb hK hP hD hS 4 2 rfl rfl (vp_in_nI h hJ) dJ_writeEnd_50 (fun H locs hP hD hS => ?_)
    have hP : va_P D vwCl [(oj, .inr (2, [.ref pf, .ref pt, .ref pv, .ref pz, .int (nI u)])), (pf, .inl (cI, J, .inl fr)), (pt, .inl (cI, J, .inl to)), (pv, .inl (cJ, J, .inr (.inl va))), (pz, .inl (cZ, J, .inl (upd (pjF (u - gz) i fi) ((nI u).toNatClampNeg) (vp_nar .boolean 0))))] H := hP
    have hD : va_D A [(oj, .inr (2, [.ref pf, .ref pt, .ref pv, .ref pz, .int (nI u)])), (pf, .inl (cI, J, .inl fr)), (pt, .inl (cI, J, .inl to)), (pv, .inl (cJ, J, .inr (.inl va))), (pz, .inl (cZ, J, .inl (upd (pjF (u - gz) i fi) ((nI u).toNatClampNeg) (vp_nar .boolean 0))))] := hD
    refine lv_aload_n hx hb dJ_writeEnd_51 rfl (lv_at hl 1 rfl) ?_
    refine lv_dup hx hb dJ_writeEnd_52 rfl ?_
    refine va_get (D := D) (ci := 2) (v := .int (nI u)) (C := "ReplayJournal$Journal") (T := TJ) (N := 5) hx hb hts (pj_ups inJ) hown hK hP 0 rfl rfl 4 (by decide) (hts _ (pj_up m_69)) (fun _ h9 => h9) rfl dJ_writeEnd_53 ?_
    refine lv_iconst (v := 1) hx hb dJ_writeEnd_56 (by decide) ?_
    refine lv_iadd hx hb dJ_writeEnd_57 ?_
    refine va_put (D := D) (ci := 2) (v := .int ((nI u) + 1)) (ty := .int) (C := "ReplayJournal$Journal") (T := TJ) (N := 5) hx hb hts (pj_ups inJ) tyJ tyJ_ok nmJ hown hK hP hD hS 0 rfl rfl 4 (by decide) (hts _ (pj_up m_69)) (fun _ h9 => h9) rfl (by decide +kernel) rfl rfl (Nat.le_of_ble_eq_true rfl) dJ_writeEnd_58 (fun H locs hP hD hS => ?_)
    have hP : va_P D vwCl [(oj, .inr (2, [.ref pf, .ref pt, .ref pv, .ref pz, .int ((nI u) + 1)])), (pf, .inl (cI, J, .inl fr)), (pt, .inl (cI, J, .inl to)), (pv, .inl (cJ, J, .inr (.inl va))), (pz, .inl (cZ, J, .inl (upd (pjF (u - gz) i fi) ((nI u).toNatClampNeg) (vp_nar .boolean 0))))] H := hP
    have hD : va_D A [(oj, .inr (2, [.ref pf, .ref pt, .ref pv, .ref pz, .int ((nI u) + 1)])), (pf, .inl (cI, J, .inl fr)), (pt, .inl (cI, J, .inl to)), (pv, .inl (cJ, J, .inr (.inl va))), (pz, .inl (cZ, J, .inl (upd (pjF (u - gz) i fi) ((nI u).toNatClampNeg) (vp_nar .boolean 0))))] := hD
    refine lv_iconst (v := 1) hx hb dJ_writeEnd_61 (by decide) ?_
    exact pj_zret hx hb hr hlocks hP hD hS (rfl) (by rw [show i = u from by omega, nI_clamp (n := u) (by omega), nI_1] <;> rfl) (by decide) dJ_writeEnd_62
  | succ k ih =>
    intro i hi hi2 H locs hP hD hS ls hl
    refine lv_iload_n hx hb dJ_writeEnd_20 rfl (lv_at hl 0 rfl) ?_
    refine lv_aload_n hx hb dJ_writeEnd_21 rfl (lv_at hl 1 rfl) ?_
    refine va_get (D := D) (ci := 2) (v := .int (nI u)) (C := "ReplayJournal$Journal") (T := TJ) (N := 5) hx hb hts (pj_ups inJ) hown hK hP 0 rfl rfl 4 (by decide) (hts _ (pj_up m_69)) (fun _ h9 => h9) rfl dJ_writeEnd_22 ?_
    refine lv_icmp_ge (tgt := 41) hx hb dJ_writeEnd_25 (by decide) (fun h9 => absurd h9 (nI_ge (by omega) (by omega))) (fun _ => ?_)
    refine lv_aload_n hx hb dJ_writeEnd_28 rfl (lv_at hl 1 rfl) ?_
    refine va_get (D := D) (ci := 2) (v := .ref pz) (C := "ReplayJournal$Journal") (T := TJ) (N := 5) hx hb hts (pj_ups inJ) hown hK hP 0 rfl rfl 3 (by decide) (hts _ (pj_up m_68)) (fun _ h9 => h9) rfl dJ_writeEnd_29 ?_
    refine lv_iload_n hx hb dJ_writeEnd_32 rfl (lv_at hl 0 rfl) ?_
    refine lv_iconst (v := 1) hx hb dJ_writeEnd_33 (by decide) ?_
    refine va_zast hx hb hK hP hD hS 4 2 rfl rfl (vp_in_nI (by omega) hJ) dJ_writeEnd_34 (fun H locs hP hD hS => ?_)
    have hP : va_P D vwCl [(oj, .inr (2, [.ref pf, .ref pt, .ref pv, .ref pz, .int (nI u)])), (pf, .inl (cI, J, .inl fr)), (pt, .inl (cI, J, .inl to)), (pv, .inl (cJ, J, .inr (.inl va))), (pz, .inl (cZ, J, .inl (upd (pjF (u - gz) i fi) ((nI i).toNatClampNeg) (vp_nar .boolean 1))))] H := hP
    have hD : va_D A [(oj, .inr (2, [.ref pf, .ref pt, .ref pv, .ref pz, .int (nI u)])), (pf, .inl (cI, J, .inl fr)), (pt, .inl (cI, J, .inl to)), (pv, .inl (cJ, J, .inr (.inl va))), (pz, .inl (cZ, J, .inl (upd (pjF (u - gz) i fi) ((nI i).toNatClampNeg) (vp_nar .boolean 1))))] := hD
    refine lv_iinc (v := nI (i + 1)) (lv' := [(2, .int (nI (i + 1))), (0, .ref oj), (1, .int (nI gz))]) hx hb dJ_writeEnd_35 hl (k := 0) rfl (nI_1 i) (by decide) rfl (fun ls hl => ?_)
    refine lv_goto (tgt := 20) hx hb dJ_writeEnd_38 (by decide) ?_
    have e1 : upd (pjF (u - gz) i fi) (nI i).toNatClampNeg (vp_nar .boolean 1) = pjF (u - gz) (i + 1) fi := by rw [nI_clamp (n := i) (by omega)]; exact pjF_s hi2 fi
    rw [e1] at hP hD
    exact ih (i + 1) (by omega) (by omega) H locs hP hD hS ls (lv_sub hl [0, 1, 2] rfl)
set_option maxHeartbeats 4000000 in
set_option maxRecDepth 100000 in
theorem c_try (l : Launch) (D : va_G) (cI cJ cZ : ClassId) (oj pf pt pv pz J u : Nat) (fr to fi : Nat → Int32) (va : Nat → Int64) (hJ : J < 2 ^ 31) (hu : u ≤ J) (gz : Nat) (hg : gz ≤ u) (o p1 q1 n : Nat) (f : Nat → Int64) (g : Nat → Int32) (hn : n < 2 ^ 31) : pj_Met l yJ_tryLast wsJ_tryLast ({ frames := 3, cells := 0, slots := 0, locals := 68 }) D vwCl (pjT cI cJ cZ) pj_no [.ref oj, .int (nI gz), .ref o] [(oj, .inr (2, [.ref pf, .ref pt, .ref pv, .ref pz, .int (nI u)])), (pf, .inl (cI, J, .inl fr)), (pt, .inl (cI, J, .inl to)), (pv, .inl (cJ, J, .inr (.inl va))), (pz, .inl (cZ, J, .inl fi)), (o, .inr (0, [.ref p1, .ref q1])), (p1, .inl (cJ, n, .inr (.inl f))), (q1, .inl (cI, n, .inl g))] (some (.int (if (pjTry n fr to va gz (u - gz) f g).1 then 1 else 0))) [(oj, .inr (2, [.ref pf, .ref pt, .ref pv, .ref pz, .int (nI u)])), (pf, .inl (cI, J, .inl fr)), (pt, .inl (cI, J, .inl to)), (pv, .inl (cJ, J, .inr (.inl va))), (pz, .inl (cZ, J, .inl fi)), (o, .inr (0, [.ref p1, .ref q1])), (p1, .inl (cJ, n, .inr (.inl ((pjTry n fr to va gz (u - gz) f g).2.1)))), (q1, .inl (cI, n, .inl ((pjTry n fr to va gz (u - gz) f g).2.2)))] 0 0 := by
  refine pj_of (by decide) rfl (Nat.le_of_ble_eq_true rfl) ?_
  intro p e s m below meth c A ls hx hb hml hr hts hown hlocks hin hA hK hP hD hS hG hl
  have hl : lv_has ls 4 [(0, .ref oj), (1, .int (nI gz)), (2, .ref o)] := hl
  refine lv_aload_n hx hb dJ_tryLast_0 rfl (lv_at hl 0 rfl) ?_
  refine lv_iload_n hx hb dJ_tryLast_1 rfl (lv_at hl 1 rfl) ?_
  refine pp_callV (rest := []) (st1 := [.int (nI (u - gz))]) ⟨hx, hb, hml, hown, hts⟩ (c_first l D cI cJ cZ oj pf pt pv pz J u fr to fi va hJ hu gz hg) (cwV 1 hts (pj_gV m_325 m_327 m_9 m_22 m_328) rfl rfl rfl (by decide +kernel) ⟨Nat.le_of_ble_eq_true rfl, Nat.le_of_ble_eq_true rfl⟩) pj_no_ok trivial hK hP hD hS hA (ci := 2) (q0 := 0) rfl rfl [0, 1, 2, 3, 4] rfl rfl rfl hl.1 rfl (Nat.le_of_ble_eq_true rfl) dJ_tryLast_2 ⟨Nat.le_of_ble_eq_true rfl, Nat.le_of_ble_eq_true rfl⟩ rfl ?_
  refine lv_istore_n (lv' := [(3, .int (nI (u - gz))), (0, .ref oj), (1, .int (nI gz)), (2, .ref o)]) hx hb dJ_tryLast_5 rfl hl (by decide) rfl (fun ls hl => ?_)
  suffices loop : ∀ (k i : Nat) (f1 : Nat → Int64) (g1 : Nat → Int32), i + k = u → pjTry n fr to va k i f1 g1 = pjTry n fr to va gz (u - gz) f g → ∀ (H : Heap) (locs : List Loc), va_P D vwCl [(oj, .inr (2, [.ref pf, .ref pt, .ref pv, .ref pz, .int (nI u)])), (pf, .inl (cI, J, .inl fr)), (pt, .inl (cI, J, .inl to)), (pv, .inl (cJ, J, .inr (.inl va))), (pz, .inl (cZ, J, .inl fi)), (o, .inr (0, [.ref p1, .ref q1])), (p1, .inl (cJ, n, .inr (.inl f1))), (q1, .inl (cI, n, .inl g1))] H → va_D A [(oj, .inr (2, [.ref pf, .ref pt, .ref pv, .ref pz, .int (nI u)])), (pf, .inl (cI, J, .inl fr)), (pt, .inl (cI, J, .inl to)), (pv, .inl (cJ, J, .inr (.inl va))), (pz, .inl (cZ, J, .inl fi)), (o, .inr (0, [.ref p1, .ref q1])), (p1, .inl (cJ, n, .inr (.inl f1))), (q1, .inl (cI, n, .inl g1))] → va_S A s.heap H locs → ∀ (ls : Array Slot), lv_has ls 4 [(3, .int (nI i)), (0, .ref oj), (1, .int (nI gz)), (2, .ref o)] → W p l e ({ frames := 3, cells := 0, slots := 0, locals := 68 }) s m (([.ref oj, .int (nI gz), .ref o] : List Value).toArray) below meth c H locs 0 0 (MQ below (pj_Q (some (.int (if (pjTry n fr to va gz (u - gz) f g).1 then 1 else 0))) [(oj, .inr (2, [.ref pf, .ref pt, .ref pv, .ref pz, .int (nI u)])), (pf, .inl (cI, J, .inl fr)), (pt, .inl (cI, J, .inl to)), (pv, .inl (cJ, J, .inr (.inl va))), (pz, .inl (cZ, J, .inl fi)), (o, .inr (0, [.ref p1, .ref q1])), (p1, .inl (cJ, n, .inr (.inl ((pjTry n fr to va gz (u - gz) f g).2.1)))), (q1, .inl (cI, n, .inl ((pjTry n fr to va gz (u - gz) f g).2.2)))] D vwCl A) (([.ref oj, .int (nI gz), .ref o] : List Value).toArray) s 0 0 A) (F0 m 6 ls []) by
    exact loop gz (u - gz) f g (by omega) rfl s.heap [] hP hD hS ls (lv_sub hl [0, 1, 2, 3] rfl)
  intro k
  induction k with
  | zero =>
    intro i f1 g1 hi hb9 H locs hP hD hS ls hl
    refine lv_iload_n hx hb dJ_tryLast_6 rfl (lv_at hl 0 rfl) ?_
    refine lv_aload_n hx hb dJ_tryLast_7 rfl (lv_at hl 1 rfl) ?_
    refine va_get (D := D) (ci := 2) (v := .int (nI u)) (C := "ReplayJournal$Journal") (T := TJ) (N := 5) hx hb hts (pj_ups inJ) hown hK hP 0 rfl rfl 4 (by decide) (hts _ (pj_up m_69)) (fun _ h9 => h9) rfl dJ_tryLast_8 ?_
    refine lv_icmp_ge (tgt := 69) hx hb dJ_tryLast_11 (by decide) (fun _ => ?_) (fun h9 => (h9 (nI_le (by omega) (by omega))).elim)
    refine lv_iconst (v := 1) hx hb dJ_tryLast_69 (by decide) ?_
    exact pj_zret hx hb hr hlocks hP hD hS (by rw [← hb9, pjTry] <;> rfl) (by rw [← hb9, pjTry] <;> rfl) (by split <;> decide) dJ_tryLast_70
  | succ k ih =>
    intro i f1 g1 hi hb9 H locs hP hD hS ls hl
    refine lv_iload_n hx hb dJ_tryLast_6 rfl (lv_at hl 0 rfl) ?_
    refine lv_aload_n hx hb dJ_tryLast_7 rfl (lv_at hl 1 rfl) ?_
    refine va_get (D := D) (ci := 2) (v := .int (nI u)) (C := "ReplayJournal$Journal") (T := TJ) (N := 5) hx hb hts (pj_ups inJ) hown hK hP 0 rfl rfl 4 (by decide) (hts _ (pj_up m_69)) (fun _ h9 => h9) rfl dJ_tryLast_8 ?_
    refine lv_icmp_ge (tgt := 69) hx hb dJ_tryLast_11 (by decide) (fun h9 => absurd h9 (nI_ge (by omega) (by omega))) (fun _ => ?_)
    refine lv_aload_n hx hb dJ_tryLast_14 rfl (lv_at hl 3 rfl) ?_
    refine lv_aload_n hx hb dJ_tryLast_15 rfl (lv_at hl 1 rfl) ?_
    refine va_get (D := D) (ci := 2) (v := .ref pf) (C := "ReplayJournal$Journal") (T := TJ) (N := 5) hx hb hts (pj_ups inJ) hown hK hP 0 rfl rfl 0 (by decide) (hts _ (pj_up m_65)) (fun _ h9 => h9) rfl dJ_tryLast_16 ?_
    refine lv_iload_n hx hb dJ_tryLast_19 rfl (lv_at hl 0 rfl) ?_
    refine va_iald hx hb hK hP 1 0 rfl rfl (vp_in_nI (by omega) hJ) dJ_tryLast_20 ?_
    refine lv_aload_n hx hb dJ_tryLast_21 rfl (lv_at hl 1 rfl) ?_
    refine va_get (D := D) (ci := 2) (v := .ref pt) (C := "ReplayJournal$Journal") (T := TJ) (N := 5) hx hb hts (pj_ups inJ) hown hK hP 0 rfl rfl 1 (by decide) (hts _ (pj_up m_66)) (fun _ h9 => h9) rfl dJ_tryLast_22 ?_
    refine lv_iload_n hx hb dJ_tryLast_25 rfl (lv_at hl 0 rfl) ?_
    refine va_iald hx hb hK hP 2 0 rfl rfl (vp_in_nI (by omega) hJ) dJ_tryLast_26 ?_
    refine lv_aload_n hx hb dJ_tryLast_27 rfl (lv_at hl 1 rfl) ?_
    refine va_get (D := D) (ci := 2) (v := .ref pv) (C := "ReplayJournal$Journal") (T := TJ) (N := 5) hx hb hts (pj_ups inJ) hown hK hP 0 rfl rfl 2 (by decide) (hts _ (pj_up m_67)) (fun _ h9 => h9) rfl dJ_tryLast_28 ?_
    refine lv_iload_n hx hb dJ_tryLast_31 rfl (lv_at hl 0 rfl) ?_
    refine va_lald hx hb hK hP 3 1 rfl rfl (vp_in_nI (by omega) hJ) dJ_tryLast_32 ?_
    by_cases ho9 : pjO n f1 (fr (nI i).toNatClampNeg) (to (nI i).toNatClampNeg) (va (nI i).toNatClampNeg)
    · refine pp_callV (rest := []) (st1 := [.int 1]) ⟨hx, hb, hml, hown, hts⟩ (c_over_t l D cI cJ cZ o p1 q1 n f1 g1 hn (fr (nI i).toNatClampNeg) (to (nI i).toNatClampNeg) (va (nI i).toNatClampNeg) ho9) (cwV 3 hts (pj_gV m_330 m_273 m_274 m_21 m_275) rfl rfl rfl (by decide +kernel) ⟨Nat.le_of_ble_eq_true rfl, Nat.le_of_ble_eq_true rfl⟩) pj_no_ok trivial hK hP hD hS hA (ci := 0) (q0 := 0) rfl rfl [5, 6, 7] rfl rfl rfl hl.1 rfl (Nat.le_of_ble_eq_true rfl) dJ_tryLast_33 ⟨Nat.le_of_ble_eq_true rfl, Nat.le_of_ble_eq_true rfl⟩ rfl ?_
      refine lv_if_eq (tgt := 41) hx hb dJ_tryLast_36 (by decide) (fun h9 => absurd h9 (by decide)) (fun _ => ?_)
      refine lv_iconst (v := 0) hx hb dJ_tryLast_39 (by decide) ?_
      rw [nI_clamp (n := i) (by omega)] at ho9
      have e9 : pjTry n fr to va gz (u - gz) f g = (false, f1, g1) := by rw [← hb9, pjTry, if_pos ho9]
      exact pj_zret hx hb hr hlocks hP hD hS (by rw [e9] <;> rfl) (by rw [e9] <;> rfl) (by split <;> decide) dJ_tryLast_40
    · refine pp_callV (rest := []) (st1 := [.int 0]) ⟨hx, hb, hml, hown, hts⟩ (c_over_f l D cI cJ cZ o p1 q1 n f1 g1 hn (fr (nI i).toNatClampNeg) (to (nI i).toNatClampNeg) (va (nI i).toNatClampNeg) ho9) (cwV 3 hts (pj_gV m_330 m_273 m_274 m_21 m_275) rfl rfl rfl (by decide +kernel) ⟨Nat.le_of_ble_eq_true rfl, Nat.le_of_ble_eq_true rfl⟩) pj_no_ok trivial hK hP hD hS hA (ci := 0) (q0 := 0) rfl rfl [5, 6, 7] rfl rfl rfl hl.1 rfl (Nat.le_of_ble_eq_true rfl) dJ_tryLast_33 ⟨Nat.le_of_ble_eq_true rfl, Nat.le_of_ble_eq_true rfl⟩ rfl ?_
      refine lv_if_eq (tgt := 41) hx hb dJ_tryLast_36 (by decide) (fun _ => ?_) (fun h9 => (h9 rfl).elim)
      refine lv_aload_n hx hb dJ_tryLast_41 rfl (lv_at hl 3 rfl) ?_
      refine lv_aload_n hx hb dJ_tryLast_42 rfl (lv_at hl 1 rfl) ?_
      refine va_get (D := D) (ci := 2) (v := .ref pf) (C := "ReplayJournal$Journal") (T := TJ) (N := 5) hx hb hts (pj_ups inJ) hown hK hP 0 rfl rfl 0 (by decide) (hts _ (pj_up m_65)) (fun _ h9 => h9) rfl dJ_tryLast_43 ?_
      refine lv_iload_n hx hb dJ_tryLast_46 rfl (lv_at hl 0 rfl) ?_
      refine va_iald hx hb hK hP 1 0 rfl rfl (vp_in_nI (by omega) hJ) dJ_tryLast_47 ?_
      refine lv_aload_n hx hb dJ_tryLast_48 rfl (lv_at hl 1 rfl) ?_
      refine va_get (D := D) (ci := 2) (v := .ref pt) (C := "ReplayJournal$Journal") (T := TJ) (N := 5) hx hb hts (pj_ups inJ) hown hK hP 0 rfl rfl 1 (by decide) (hts _ (pj_up m_66)) (fun _ h9 => h9) rfl dJ_tryLast_49 ?_
      refine lv_iload_n hx hb dJ_tryLast_52 rfl (lv_at hl 0 rfl) ?_
      refine va_iald hx hb hK hP 2 0 rfl rfl (vp_in_nI (by omega) hJ) dJ_tryLast_53 ?_
      refine lv_aload_n hx hb dJ_tryLast_54 rfl (lv_at hl 1 rfl) ?_
      refine va_get (D := D) (ci := 2) (v := .ref pv) (C := "ReplayJournal$Journal") (T := TJ) (N := 5) hx hb hts (pj_ups inJ) hown hK hP 0 rfl rfl 2 (by decide) (hts _ (pj_up m_67)) (fun _ h9 => h9) rfl dJ_tryLast_55 ?_
      refine lv_iload_n hx hb dJ_tryLast_58 rfl (lv_at hl 0 rfl) ?_
      refine va_lald hx hb hK hP 3 1 rfl rfl (vp_in_nI (by omega) hJ) dJ_tryLast_59 ?_
      refine pj_callV (w2 := [(oj, .inr (2, [.ref pf, .ref pt, .ref pv, .ref pz, .int (nI u)])), (pf, .inl (cI, J, .inl fr)), (pt, .inl (cI, J, .inl to)), (pv, .inl (cJ, J, .inr (.inl va))), (pz, .inl (cZ, J, .inl fi)), (o, .inr (0, [.ref p1, .ref q1])), (p1, .inl (cJ, n, .inr (.inl (pj2 n f1 (fr (nI i).toNatClampNeg) (to (nI i).toNatClampNeg) (va (nI i).toNatClampNeg))))), (q1, .inl (cI, n, .inl (pj2c n g1 (fr (nI i).toNatClampNeg) (to (nI i).toNatClampNeg))))]) (wr := [(oj, .inr (2, [.ref pf, .ref pt, .ref pv, .ref pz, .int (nI u)])), (pf, .inl (cI, J, .inl fr)), (pt, .inl (cI, J, .inl to)), (pv, .inl (cJ, J, .inr (.inl va))), (pz, .inl (cZ, J, .inl fi))]) (rest := []) (st1 := []) ⟨hx, hb, hml, hown, hts⟩ (c_apply l D cI cJ cZ o p1 q1 n f1 g1 hn (fr (nI i).toNatClampNeg) (to (nI i).toNatClampNeg) (va (nI i).toNatClampNeg)) (cwV 3 hts (pj_gV m_134 m_135 m_136 m_21 m_137) rfl rfl rfl (by decide +kernel) ⟨Nat.le_of_ble_eq_true rfl, Nat.le_of_ble_eq_true rfl⟩) pj_no_ok trivial hK hP hD hS hA (ci := 0) (q0 := 0) rfl rfl [5, 6, 7] [0, 1, 2, 3, 4] [0, 1, 2, 3, 4, 5, 6, 7] rfl rfl rfl rfl (by decide) rfl rfl rfl hl.1 rfl (Nat.le_of_ble_eq_true rfl) dJ_tryLast_60 ⟨Nat.le_of_ble_eq_true rfl, Nat.le_of_ble_eq_true rfl⟩ rfl rfl rfl (fun H locs hP hD hS => ?_)
      refine lv_iinc (v := nI (i + 1)) (lv' := [(3, .int (nI (i + 1))), (0, .ref oj), (1, .int (nI gz)), (2, .ref o)]) hx hb dJ_tryLast_63 hl (k := 0) rfl (nI_1 i) (by decide) rfl (fun ls hl => ?_)
      refine lv_goto (tgt := 6) hx hb dJ_tryLast_66 (by decide) ?_
      rw [nI_clamp (n := i) (by omega)] at hP hD ho9
      exact ih (i + 1) (pj2 n f1 (fr i) (to i) (va i)) (pj2c n g1 (fr i) (to i)) (by omega) (by rw [← hb9, pjTry, if_neg ho9]) H locs hP hD hS ls (lv_sub hl [0, 1, 2, 3] rfl)
set_option maxHeartbeats 4000000 in
set_option maxRecDepth 100000 in
theorem c_rep (l : Launch) (D : va_G) (cI cJ cZ : ClassId) (oj pf pt pv pz J u : Nat) (fr to fi : Nat → Int32) (va : Nat → Int64) (hJ : J < 2 ^ 31) (hu : u ≤ J) (o p1 q1 n : Nat) (f : Nat → Int64) (g : Nat → Int32) (hn : n < 2 ^ 31) : pj_Met l yJ_replay wsJ_replay ({ frames := 3, cells := 0, slots := 0, locals := 68 }) D vwCl (pjT cI cJ cZ) pj_no [.ref oj, .ref o] [(oj, .inr (2, [.ref pf, .ref pt, .ref pv, .ref pz, .int (nI u)])), (pf, .inl (cI, J, .inl fr)), (pt, .inl (cI, J, .inl to)), (pv, .inl (cJ, J, .inr (.inl va))), (pz, .inl (cZ, J, .inl fi)), (o, .inr (0, [.ref p1, .ref q1])), (p1, .inl (cJ, n, .inr (.inl f))), (q1, .inl (cI, n, .inl g))] (some (.int (nI (pjRep n fr to va fi u 0 0 f g).1))) [(oj, .inr (2, [.ref pf, .ref pt, .ref pv, .ref pz, .int (nI u)])), (pf, .inl (cI, J, .inl fr)), (pt, .inl (cI, J, .inl to)), (pv, .inl (cJ, J, .inr (.inl va))), (pz, .inl (cZ, J, .inl fi)), (o, .inr (0, [.ref p1, .ref q1])), (p1, .inl (cJ, n, .inr (.inl ((pjRep n fr to va fi u 0 0 f g).2.1)))), (q1, .inl (cI, n, .inl ((pjRep n fr to va fi u 0 0 f g).2.2)))] 0 0 := by
  refine pj_of (by decide) rfl (Nat.le_of_ble_eq_true rfl) ?_
  intro p e s m below meth c A ls hx hb hml hr hts hown hlocks hin hA hK hP hD hS hG hl
  have hl : lv_has ls 4 [(0, .ref oj), (1, .ref o)] := hl
  refine lv_iconst (v := 0) hx hb dJ_replay_0 (by decide) ?_
  refine lv_istore_n (lv' := [(2, .int 0), (0, .ref oj), (1, .ref o)]) hx hb dJ_replay_1 rfl hl (by decide) rfl (fun ls hl => ?_)
  refine lv_iconst (v := 0) hx hb dJ_replay_2 (by decide) ?_
  refine lv_istore_n (lv' := [(3, .int 0), (2, .int 0), (0, .ref oj), (1, .ref o)]) hx hb dJ_replay_3 rfl hl (by decide) rfl (fun ls hl => ?_)
  suffices loop : ∀ (k i h : Nat) (f1 : Nat → Int64) (g1 : Nat → Int32), i + k = u → pjRep n fr to va fi k i h f1 g1 = pjRep n fr to va fi u 0 0 f g → ∀ (H : Heap) (locs : List Loc), va_P D vwCl [(oj, .inr (2, [.ref pf, .ref pt, .ref pv, .ref pz, .int (nI u)])), (pf, .inl (cI, J, .inl fr)), (pt, .inl (cI, J, .inl to)), (pv, .inl (cJ, J, .inr (.inl va))), (pz, .inl (cZ, J, .inl fi)), (o, .inr (0, [.ref p1, .ref q1])), (p1, .inl (cJ, n, .inr (.inl f1))), (q1, .inl (cI, n, .inl g1))] H → va_D A [(oj, .inr (2, [.ref pf, .ref pt, .ref pv, .ref pz, .int (nI u)])), (pf, .inl (cI, J, .inl fr)), (pt, .inl (cI, J, .inl to)), (pv, .inl (cJ, J, .inr (.inl va))), (pz, .inl (cZ, J, .inl fi)), (o, .inr (0, [.ref p1, .ref q1])), (p1, .inl (cJ, n, .inr (.inl f1))), (q1, .inl (cI, n, .inl g1))] → va_S A s.heap H locs → ∀ (ls : Array Slot), lv_has ls 4 [(3, .int (nI i)), (2, .int (nI h)), (0, .ref oj), (1, .ref o)] → W p l e ({ frames := 3, cells := 0, slots := 0, locals := 68 }) s m (([.ref oj, .ref o] : List Value).toArray) below meth c H locs 0 0 (MQ below (pj_Q (some (.int (nI (pjRep n fr to va fi u 0 0 f g).1))) [(oj, .inr (2, [.ref pf, .ref pt, .ref pv, .ref pz, .int (nI u)])), (pf, .inl (cI, J, .inl fr)), (pt, .inl (cI, J, .inl to)), (pv, .inl (cJ, J, .inr (.inl va))), (pz, .inl (cZ, J, .inl fi)), (o, .inr (0, [.ref p1, .ref q1])), (p1, .inl (cJ, n, .inr (.inl ((pjRep n fr to va fi u 0 0 f g).2.1)))), (q1, .inl (cI, n, .inl ((pjRep n fr to va fi u 0 0 f g).2.2)))] D vwCl A) (([.ref oj, .ref o] : List Value).toArray) s 0 0 A) (F0 m 4 ls []) by
    exact loop u 0 0 f g (by omega) rfl s.heap [] hP hD hS ls (lv_sub hl [0, 1, 2, 3] rfl)
  intro k
  induction k with
  | zero =>
    intro i h f1 g1 hi hb9 H locs hP hD hS ls hl
    refine lv_iload_n hx hb dJ_replay_4 rfl (lv_at hl 0 rfl) ?_
    refine lv_aload_n hx hb dJ_replay_5 rfl (lv_at hl 2 rfl) ?_
    refine va_get (D := D) (ci := 2) (v := .int (nI u)) (C := "ReplayJournal$Journal") (T := TJ) (N := 5) hx hb hts (pj_ups inJ) hown hK hP 0 rfl rfl 4 (by decide) (hts _ (pj_up m_69)) (fun _ h9 => h9) rfl dJ_replay_6 ?_
    refine lv_icmp_ge (tgt := 52) hx hb dJ_replay_9 (by decide) (fun _ => ?_) (fun h9 => (h9 (nI_le (by omega) (by omega))).elim)
    refine lv_iload_n hx hb dJ_replay_52 rfl (lv_at hl 1 rfl) ?_
    exact pj_iret hx hb hr hlocks hP hD hS (by rw [← hb9, pjRep] <;> rfl) (by rw [← hb9, pjRep] <;> rfl) dJ_replay_53
  | succ k ih =>
    intro i h f1 g1 hi hb9 H locs hP hD hS ls hl
    refine lv_iload_n hx hb dJ_replay_4 rfl (lv_at hl 0 rfl) ?_
    refine lv_aload_n hx hb dJ_replay_5 rfl (lv_at hl 2 rfl) ?_
    refine va_get (D := D) (ci := 2) (v := .int (nI u)) (C := "ReplayJournal$Journal") (T := TJ) (N := 5) hx hb hts (pj_ups inJ) hown hK hP 0 rfl rfl 4 (by decide) (hts _ (pj_up m_69)) (fun _ h9 => h9) rfl dJ_replay_6 ?_
    refine lv_icmp_ge (tgt := 52) hx hb dJ_replay_9 (by decide) (fun h9 => absurd h9 (nI_ge (by omega) (by omega))) (fun _ => ?_)
    refine lv_aload_n hx hb dJ_replay_12 rfl (lv_at hl 2 rfl) ?_
    refine va_get (D := D) (ci := 2) (v := .ref pz) (C := "ReplayJournal$Journal") (T := TJ) (N := 5) hx hb hts (pj_ups inJ) hown hK hP 0 rfl rfl 3 (by decide) (hts _ (pj_up m_68)) (fun _ h9 => h9) rfl dJ_replay_13 ?_
    refine lv_iload_n hx hb dJ_replay_16 rfl (lv_at hl 0 rfl) ?_
    refine va_zald hx hb hK hP 4 2 rfl rfl (vp_in_nI (by omega) hJ) dJ_replay_17 ?_
    refine lv_if_eq (tgt := 46) hx hb dJ_replay_18 (by decide) (fun c9 => ?_) (fun c9 => ?_)
    · refine lv_iinc (v := nI (i + 1)) (lv' := [(3, .int (nI (i + 1))), (2, .int (nI h)), (0, .ref oj), (1, .ref o)]) hx hb dJ_replay_46 hl (k := 0) rfl (nI_1 i) (by decide) rfl (fun ls hl => ?_)
      refine lv_goto (tgt := 4) hx hb dJ_replay_49 (by decide) ?_
      rw [nI_clamp (n := i) (by omega)] at c9
      exact ih (i + 1) h f1 g1 (by omega) (by rw [← hb9, pjRep, if_pos c9]) H locs hP hD hS ls (lv_sub hl [0, 1, 2, 3] rfl)
    · refine lv_aload_n hx hb dJ_replay_21 rfl (lv_at hl 3 rfl) ?_
      refine lv_aload_n hx hb dJ_replay_22 rfl (lv_at hl 2 rfl) ?_
      refine va_get (D := D) (ci := 2) (v := .ref pf) (C := "ReplayJournal$Journal") (T := TJ) (N := 5) hx hb hts (pj_ups inJ) hown hK hP 0 rfl rfl 0 (by decide) (hts _ (pj_up m_65)) (fun _ h9 => h9) rfl dJ_replay_23 ?_
      refine lv_iload_n hx hb dJ_replay_26 rfl (lv_at hl 0 rfl) ?_
      refine va_iald hx hb hK hP 1 0 rfl rfl (vp_in_nI (by omega) hJ) dJ_replay_27 ?_
      refine lv_aload_n hx hb dJ_replay_28 rfl (lv_at hl 2 rfl) ?_
      refine va_get (D := D) (ci := 2) (v := .ref pt) (C := "ReplayJournal$Journal") (T := TJ) (N := 5) hx hb hts (pj_ups inJ) hown hK hP 0 rfl rfl 1 (by decide) (hts _ (pj_up m_66)) (fun _ h9 => h9) rfl dJ_replay_29 ?_
      refine lv_iload_n hx hb dJ_replay_32 rfl (lv_at hl 0 rfl) ?_
      refine va_iald hx hb hK hP 2 0 rfl rfl (vp_in_nI (by omega) hJ) dJ_replay_33 ?_
      refine lv_aload_n hx hb dJ_replay_34 rfl (lv_at hl 2 rfl) ?_
      refine va_get (D := D) (ci := 2) (v := .ref pv) (C := "ReplayJournal$Journal") (T := TJ) (N := 5) hx hb hts (pj_ups inJ) hown hK hP 0 rfl rfl 2 (by decide) (hts _ (pj_up m_67)) (fun _ h9 => h9) rfl dJ_replay_35 ?_
      refine lv_iload_n hx hb dJ_replay_38 rfl (lv_at hl 0 rfl) ?_
      refine va_lald hx hb hK hP 3 1 rfl rfl (vp_in_nI (by omega) hJ) dJ_replay_39 ?_
      refine pj_callV (w2 := [(oj, .inr (2, [.ref pf, .ref pt, .ref pv, .ref pz, .int (nI u)])), (pf, .inl (cI, J, .inl fr)), (pt, .inl (cI, J, .inl to)), (pv, .inl (cJ, J, .inr (.inl va))), (pz, .inl (cZ, J, .inl fi)), (o, .inr (0, [.ref p1, .ref q1])), (p1, .inl (cJ, n, .inr (.inl (pj2 n f1 (fr (nI i).toNatClampNeg) (to (nI i).toNatClampNeg) (va (nI i).toNatClampNeg))))), (q1, .inl (cI, n, .inl (pj2c n g1 (fr (nI i).toNatClampNeg) (to (nI i).toNatClampNeg))))]) (wr := [(oj, .inr (2, [.ref pf, .ref pt, .ref pv, .ref pz, .int (nI u)])), (pf, .inl (cI, J, .inl fr)), (pt, .inl (cI, J, .inl to)), (pv, .inl (cJ, J, .inr (.inl va))), (pz, .inl (cZ, J, .inl fi))]) (rest := []) (st1 := []) ⟨hx, hb, hml, hown, hts⟩ (c_apply l D cI cJ cZ o p1 q1 n f1 g1 hn (fr (nI i).toNatClampNeg) (to (nI i).toNatClampNeg) (va (nI i).toNatClampNeg)) (cwV 3 hts (pj_gV m_134 m_135 m_136 m_21 m_137) rfl rfl rfl (by decide +kernel) ⟨Nat.le_of_ble_eq_true rfl, Nat.le_of_ble_eq_true rfl⟩) pj_no_ok trivial hK hP hD hS hA (ci := 0) (q0 := 0) rfl rfl [5, 6, 7] [0, 1, 2, 3, 4] [0, 1, 2, 3, 4, 5, 6, 7] rfl rfl rfl rfl (by decide) rfl rfl rfl hl.1 rfl (Nat.le_of_ble_eq_true rfl) dJ_replay_40 ⟨Nat.le_of_ble_eq_true rfl, Nat.le_of_ble_eq_true rfl⟩ rfl rfl rfl (fun H locs hP hD hS => ?_)
      refine lv_iinc (v := nI (h + 1)) (lv' := [(2, .int (nI (h + 1))), (3, .int (nI i)), (0, .ref oj), (1, .ref o)]) hx hb dJ_replay_43 hl (k := 1) rfl (nI_1 h) (by decide) rfl (fun ls hl => ?_)
      refine lv_iinc (v := nI (i + 1)) (lv' := [(3, .int (nI (i + 1))), (2, .int (nI (h + 1))), (0, .ref oj), (1, .ref o)]) hx hb dJ_replay_46 hl (k := 1) rfl (nI_1 i) (by decide) rfl (fun ls hl => ?_)
      refine lv_goto (tgt := 4) hx hb dJ_replay_49 (by decide) ?_
      rw [nI_clamp (n := i) (by omega)] at hP hD c9
      exact ih (i + 1) (h + 1) (pj2 n f1 (fr i) (to i) (va i)) (pj2c n g1 (fr i) (to i)) (by omega) (by rw [← hb9, pjRep, if_neg c9]) H locs hP hD hS ls (lv_sub hl [0, 1, 2, 3] rfl)
