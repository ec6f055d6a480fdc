set_option maxHeartbeats 4000000 in
set_option maxRecDepth 100000 in
theorem c_rA (l : Launch) (D : va_G) (cI cJ cZ : ClassId) (o0 oL pL qL oS pS qS oT pT qT oj pf pt pv pz od n J u : Nat) (fL fS fT va : Nat → Int64) (cL cS cT fr to fi : Nat → Int32) (wr lf gs sm : Int32) (hn : n < 2 ^ 31) (hJ : J < 2 ^ 31) (hu : u ≤ J) (x : Int32) (h : pjH n x) : pp_Met l yR_requireAccount wsR_requireAccount ({ frames := 6, cells := 0, slots := 0, locals := 82 }) D vwCl (pjT cI cJ cZ) pj_no [.ref o0, .int x] [(o0, .inr (3, [.ref oL, .ref oS, .ref oT, .ref oj, .ref od, .int gs, .int sm])), (oL, .inr (0, [.ref pL, .ref qL])), (pL, .inl (cJ, n, .inr (.inl fL))), (qL, .inl (cI, n, .inl cL)), (oS, .inr (0, [.ref pS, .ref qS])), (pS, .inl (cJ, n, .inr (.inl fS))), (qS, .inl (cI, n, .inl cS)), (oT, .inr (0, [.ref pT, .ref qT])), (pT, .inl (cJ, n, .inr (.inl fT))), (qT, .inl (cI, n, .inl cT)), (oj, .inr (2, [.ref pf, .ref pt, .ref pv, .ref pz, .int (nI u)])), (pf, .inl (cI, J, .inl fr)), (pt, .inl (cI, J, .inl to)), (pv, .inl (cJ, J, .inr (.inl va))), (pz, .inl (cZ, J, .inl fi)), (od, .inr (1, [.int wr, .int lf]))] none := by
  refine pp_of (by decide) rfl (Nat.le_of_ble_eq_true rfl) ?_
  intro p e s m below meth c A ls hx hb hml hr hts hown hlocks hA hK hP hD hS hG hl
  have hl : lv_has ls 2 [(0, .ref o0), (1, .int x)] := hl
  refine lv_aload_n hx hb dR_requireAccount_0 rfl (lv_at hl 0 rfl) ?_
  refine va_get (D := D) (ci := 3) (v := .ref oL) (C := "ReplayJournal") (T := TR) (N := 7) hx hb hts (pj_ups inR) hown hK hP 0 rfl rfl 0 (by decide) (hts _ (pj_up m_95)) (fun _ h9 => h9) rfl dR_requireAccount_1 ?_
  refine lv_iload_n hx hb dR_requireAccount_4 rfl (lv_at hl 1 rfl) ?_
  refine pp_callV (rest := []) (st1 := [.int 1]) ⟨hx, hb, hml, hown, hts⟩ (c_has_t l D cI cJ cZ oL pL qL n fL cL hn x h) (cwV 1 hts (pj_gV m_170 m_143 m_144 m_21 m_145) rfl rfl rfl (by decide +kernel) ⟨Nat.le_of_ble_eq_true rfl, Nat.le_of_ble_eq_true rfl⟩) pj_no_ok trivial hK hP hD hS hA (ci := 0) (q0 := 0) rfl rfl [1, 2, 3] rfl rfl rfl hl.1 rfl (Nat.le_of_ble_eq_true rfl) dR_requireAccount_5 ⟨Nat.le_of_ble_eq_true rfl, Nat.le_of_ble_eq_true rfl⟩ rfl ?_
  refine lv_if_ne (tgt := 21) hx hb dR_requireAccount_8 (by decide) (fun _ => ?_) (fun h9 => absurd h9 (by decide))
  exact pp_vret hx hb hr hlocks dR_requireAccount_21
set_option maxHeartbeats 4000000 in
set_option maxRecDepth 100000 in
theorem t_rA (l : Launch) (D : va_G) (cI cJ cZ : ClassId) (o0 oL pL qL oS pS qS oT pT qT oj pf pt pv pz od n J u : Nat) (fL fS fT va : Nat → Int64) (cL cS cT fr to fi : Nat → Int32) (wr lf gs sm : Int32) (hn : n < 2 ^ 31) (hJ : J < 2 ^ 31) (hu : u ≤ J) (x : Int32) (h : ¬ pjH n x) (htr : l.stackTraces = false) : pt_X l yR_requireAccount wsR_requireAccount ({ frames := 6, cells := 1, slots := 6, locals := 82 }) D vwCl (pjT cI cJ cZ) pt_G [.ref o0, .int x] [(o0, .inr (3, [.ref oL, .ref oS, .ref oT, .ref oj, .ref od, .int gs, .int sm])), (oL, .inr (0, [.ref pL, .ref qL])), (pL, .inl (cJ, n, .inr (.inl fL))), (qL, .inl (cI, n, .inl cL)), (oS, .inr (0, [.ref pS, .ref qS])), (pS, .inl (cJ, n, .inr (.inl fS))), (qS, .inl (cI, n, .inl cS)), (oT, .inr (0, [.ref pT, .ref qT])), (pT, .inl (cJ, n, .inr (.inl fT))), (qT, .inl (cI, n, .inl cT)), (oj, .inr (2, [.ref pf, .ref pt, .ref pv, .ref pz, .int (nI u)])), (pf, .inl (cI, J, .inl fr)), (pt, .inl (cI, J, .inl to)), (pv, .inl (cJ, J, .inr (.inl va))), (pz, .inl (cZ, J, .inl fi)), (od, .inr (1, [.int wr, .int lf]))] "java/lang/IllegalArgumentException" := by
  refine pt_of (by decide) rfl (Nat.le_of_ble_eq_true rfl) ?_
  intro p e s m below meth c A ls hx hb hml hno hts hown hlocks hA hK hP hD hS hG hl
  have hl : lv_has ls 2 [(0, .ref o0), (1, .int x)] := hl
  refine lv_aload_n hx hb dR_requireAccount_0 rfl (lv_at hl 0 rfl) ?_
  refine va_get (D := D) (ci := 3) (v := .ref oL) (C := "ReplayJournal") (T := TR) (N := 7) hx hb hts (pj_ups inR) hown hK hP 0 rfl rfl 0 (by decide) (hts _ (pj_up m_95)) (fun _ h9 => h9) rfl dR_requireAccount_1 ?_
  refine lv_iload_n hx hb dR_requireAccount_4 rfl (lv_at hl 1 rfl) ?_
  refine pp_callV (rest := []) (st1 := [.int 0]) ⟨hx, hb, hml, hown, hts⟩ (c_has_f l D cI cJ cZ oL pL qL n fL cL hn x h) (cwV 1 hts (pj_gV m_170 m_143 m_144 m_21 m_145) rfl rfl rfl (by decide +kernel) ⟨Nat.le_of_ble_eq_true rfl, Nat.le_of_ble_eq_true rfl⟩) pj_no_ok trivial hK hP hD hS hA (ci := 0) (q0 := 0) rfl rfl [1, 2, 3] rfl rfl rfl hl.1 rfl (Nat.le_of_ble_eq_true rfl) dR_requireAccount_5 ⟨Nat.le_of_ble_eq_true rfl, Nat.le_of_ble_eq_true rfl⟩ rfl ?_
  refine lv_if_ne (tgt := 21) hx hb dR_requireAccount_8 (by decide) (fun h9 => absurd h9 (fun h => h rfl)) (fun _ => ?_)
  obtain ⟨qtx, hqtx⟩ := hG.1 (168, "there is no such account") (by decide)
  exact pt_throw (X := "java/lang/IllegalArgumentException") (own := "ReplayJournal") (names := pt_up) (ia := 72) (is := 168) (ic := 76) hx hb hml hl.1 htr hown (by decide +kernel) (by decide +kernel) (pt_atoms hts hG pt_inA) (hts _ (pj_up m_171)) (hts _ (pj_up m_28)) hqtx dR_requireAccount_11 dR_requireAccount_14 dR_requireAccount_15 dR_requireAccount_17 dR_requireAccount_20 hno hlocks (Nat.le_of_ble_eq_true rfl) (Nat.le_of_ble_eq_true rfl) (Nat.le_of_ble_eq_true rfl) (Nat.le_of_ble_eq_true rfl)
set_option maxHeartbeats 4000000 in
set_option maxRecDepth 100000 in
theorem c_rB (l : Launch) (D : va_G) (cI cJ cZ : ClassId) (o0 oL pL qL oS pS qS oT pT qT oj pf pt pv pz od n J u : Nat) (fL fS fT va : Nat → Int64) (cL cS cT fr to fi : Nat → Int32) (wr lf gs sm : Int32) (hn : n < 2 ^ 31) (hJ : J < 2 ^ 31) (hu : u ≤ J) (v lo hi : Int64) (h : ¬ v < lo ∧ ¬ hi < v) : pp_Met l yR_requireBounds wsR_requireBounds ({ frames := 6, cells := 0, slots := 0, locals := 82 }) D vwCl (pjT cI cJ cZ) pj_no [.long v, .long lo, .long hi] [(o0, .inr (3, [.ref oL, .ref oS, .ref oT, .ref oj, .ref od, .int gs, .int sm])), (oL, .inr (0, [.ref pL, .ref qL])), (pL, .inl (cJ, n, .inr (.inl fL))), (qL, .inl (cI, n, .inl cL)), (oS, .inr (0, [.ref pS, .ref qS])), (pS, .inl (cJ, n, .inr (.inl fS))), (qS, .inl (cI, n, .inl cS)), (oT, .inr (0, [.ref pT, .ref qT])), (pT, .inl (cJ, n, .inr (.inl fT))), (qT, .inl (cI, n, .inl cT)), (oj, .inr (2, [.ref pf, .ref pt, .ref pv, .ref pz, .int (nI u)])), (pf, .inl (cI, J, .inl fr)), (pt, .inl (cI, J, .inl to)), (pv, .inl (cJ, J, .inr (.inl va))), (pz, .inl (cZ, J, .inl fi)), (od, .inr (1, [.int wr, .int lf]))] none := by
  refine pp_of (by decide) rfl (Nat.le_of_ble_eq_true rfl) ?_
  intro p e s m below meth c A ls hx hb hml hr hts hown hlocks hA hK hP hD hS hG hl
  have hl : lv_has ls 6 [(0, .long v), (2, .long lo), (4, .long hi)] := hl
  refine lv_lload_n hx hb dR_requireBounds_0 rfl (lv_at hl 0 rfl) ?_
  refine lv_lload_n hx hb dR_requireBounds_1 rfl (lv_at hl 1 rfl) ?_
  refine W.lcmp hx hb dR_requireBounds_2 ?_
  refine lv_if_lt (tgt := 13) hx hb dR_requireBounds_3 (by decide) (fun h9 => absurd h9 (fun z => h.1 ((lg_cmp_lt _ _).mp z))) (fun _ => ?_)
  refine lv_lload_n hx hb dR_requireBounds_6 rfl (lv_at hl 0 rfl) ?_
  refine lv_lload hx hb dR_requireBounds_7 (lv_at hl 2 rfl) ?_
  refine W.lcmp hx hb dR_requireBounds_9 ?_
  refine lv_if_le (tgt := 23) hx hb dR_requireBounds_10 (by decide) (fun _ => ?_) (fun h9 => (h9 ((lg_cmp_le _ _).mpr (Int64.not_lt.mp h.2))).elim)
  exact pp_vret hx hb hr hlocks dR_requireBounds_23
set_option maxHeartbeats 4000000 in
set_option maxRecDepth 100000 in
theorem t_rB (l : Launch) (D : va_G) (cI cJ cZ : ClassId) (o0 oL pL qL oS pS qS oT pT qT oj pf pt pv pz od n J u : Nat) (fL fS fT va : Nat → Int64) (cL cS cT fr to fi : Nat → Int32) (wr lf gs sm : Int32) (hn : n < 2 ^ 31) (hJ : J < 2 ^ 31) (hu : u ≤ J) (v lo hi : Int64) (h : v < lo ∨ hi < v) (htr : l.stackTraces = false) : pt_X l yR_requireBounds wsR_requireBounds ({ frames := 6, cells := 1, slots := 6, locals := 82 }) D vwCl (pjT cI cJ cZ) pt_G [.long v, .long lo, .long hi] [(o0, .inr (3, [.ref oL, .ref oS, .ref oT, .ref oj, .ref od, .int gs, .int sm])), (oL, .inr (0, [.ref pL, .ref qL])), (pL, .inl (cJ, n, .inr (.inl fL))), (qL, .inl (cI, n, .inl cL)), (oS, .inr (0, [.ref pS, .ref qS])), (pS, .inl (cJ, n, .inr (.inl fS))), (qS, .inl (cI, n, .inl cS)), (oT, .inr (0, [.ref pT, .ref qT])), (pT, .inl (cJ, n, .inr (.inl fT))), (qT, .inl (cI, n, .inl cT)), (oj, .inr (2, [.ref pf, .ref pt, .ref pv, .ref pz, .int (nI u)])), (pf, .inl (cI, J, .inl fr)), (pt, .inl (cI, J, .inl to)), (pv, .inl (cJ, J, .inr (.inl va))), (pz, .inl (cZ, J, .inl fi)), (od, .inr (1, [.int wr, .int lf]))] "java/lang/IllegalArgumentException" := by
  refine pt_of (by decide) rfl (Nat.le_of_ble_eq_true rfl) ?_
  intro p e s m below meth c A ls hx hb hml hno hts hown hlocks hA hK hP hD hS hG hl
  have hl : lv_has ls 6 [(0, .long v), (2, .long lo), (4, .long hi)] := hl
  refine lv_lload_n hx hb dR_requireBounds_0 rfl (lv_at hl 0 rfl) ?_
  refine lv_lload_n hx hb dR_requireBounds_1 rfl (lv_at hl 1 rfl) ?_
  refine W.lcmp hx hb dR_requireBounds_2 ?_
  refine lv_if_lt (tgt := 13) hx hb dR_requireBounds_3 (by decide) (fun c1 => ?_) (fun c1 => ?_)
  · obtain ⟨qtx, hqtx⟩ := hG.1 (170, "a number is out of its bounds") (by decide)
    exact pt_throw (X := "java/lang/IllegalArgumentException") (own := "ReplayJournal") (names := pt_up) (ia := 72) (is := 170) (ic := 76) hx hb hml hl.1 htr hown (by decide +kernel) (by decide +kernel) (pt_atoms hts hG pt_inA) (hts _ (pj_up m_171)) (hts _ (pj_up m_28)) hqtx dR_requireBounds_13 dR_requireBounds_16 dR_requireBounds_17 dR_requireBounds_19 dR_requireBounds_22 hno hlocks (Nat.le_of_ble_eq_true rfl) (Nat.le_of_ble_eq_true rfl) (Nat.le_of_ble_eq_true rfl) (Nat.le_of_ble_eq_true rfl)
  · refine lv_lload_n hx hb dR_requireBounds_6 rfl (lv_at hl 0 rfl) ?_
    refine lv_lload hx hb dR_requireBounds_7 (lv_at hl 2 rfl) ?_
    refine W.lcmp hx hb dR_requireBounds_9 ?_
    refine lv_if_le (tgt := 23) hx hb dR_requireBounds_10 (by decide) (fun h9 => absurd h9 (fun z => (h.elim (fun y => c1 ((lg_cmp_lt _ _).mpr y)) (fun y => Int64.not_lt.mpr ((lg_cmp_le _ _).mp z) y)))) (fun _ => ?_)
    obtain ⟨qtx, hqtx⟩ := hG.1 (170, "a number is out of its bounds") (by decide)
    exact pt_throw (X := "java/lang/IllegalArgumentException") (own := "ReplayJournal") (names := pt_up) (ia := 72) (is := 170) (ic := 76) hx hb hml hl.1 htr hown (by decide +kernel) (by decide +kernel) (pt_atoms hts hG pt_inA) (hts _ (pj_up m_171)) (hts _ (pj_up m_28)) hqtx dR_requireBounds_13 dR_requireBounds_16 dR_requireBounds_17 dR_requireBounds_19 dR_requireBounds_22 hno hlocks (Nat.le_of_ble_eq_true rfl) (Nat.le_of_ble_eq_true rfl) (Nat.le_of_ble_eq_true rfl) (Nat.le_of_ble_eq_true rfl)
set_option maxHeartbeats 4000000 in
set_option maxRecDepth 100000 in
theorem c_rP (l : Launch) (D : va_G) (cI cJ cZ : ClassId) (o0 oL pL qL oS pS qS oT pT qT oj pf pt pv pz od n J u : Nat) (fL fS fT va : Nat → Int64) (cL cS cT fr to fi : Nat → Int32) (wr lf gs sm : Int32) (hn : n < 2 ^ 31) (hJ : J < 2 ^ 31) (hu : u ≤ J) (h : ¬ lf = 0) : pp_Met l yR_requirePower wsR_requirePower ({ frames := 6, cells := 0, slots := 0, locals := 82 }) D vwCl (pjT cI cJ cZ) pj_no [.ref o0] [(o0, .inr (3, [.ref oL, .ref oS, .ref oT, .ref oj, .ref od, .int gs, .int sm])), (oL, .inr (0, [.ref pL, .ref qL])), (pL, .inl (cJ, n, .inr (.inl fL))), (qL, .inl (cI, n, .inl cL)), (oS, .inr (0, [.ref pS, .ref qS])), (pS, .inl (cJ, n, .inr (.inl fS))), (qS, .inl (cI, n, .inl cS)), (oT, .inr (0, [.ref pT, .ref qT])), (pT, .inl (cJ, n, .inr (.inl fT))), (qT, .inl (cI, n, .inl cT)), (oj, .inr (2, [.ref pf, .ref pt, .ref pv, .ref pz, .int (nI u)])), (pf, .inl (cI, J, .inl fr)), (pt, .inl (cI, J, .inl to)), (pv, .inl (cJ, J, .inr (.inl va))), (pz, .inl (cZ, J, .inl fi)), (od, .inr (1, [.int wr, .int lf]))] none := by
  refine pp_of (by decide) rfl (Nat.le_of_ble_eq_true rfl) ?_
  intro p e s m below meth c A ls hx hb hml hr hts hown hlocks hA hK hP hD hS hG hl
  have hl : lv_has ls 1 [(0, .ref o0)] := hl
  refine lv_aload_n hx hb dR_requirePower_0 rfl (lv_at hl 0 rfl) ?_
  refine va_get (D := D) (ci := 3) (v := .ref od) (C := "ReplayJournal") (T := TR) (N := 7) hx hb hts (pj_ups inR) hown hK hP 0 rfl rfl 4 (by decide) (hts _ (pj_up m_99)) (fun _ h9 => h9) rfl dR_requirePower_1 ?_
  refine pp_callV (rest := []) (st1 := [.int 0]) ⟨hx, hb, hml, hown, hts⟩ (c_off_f l D cI cJ cZ od wr lf h) (cwV 0 hts (pj_gV m_150 m_151 m_152 m_23 m_153) rfl rfl rfl (by decide +kernel) ⟨Nat.le_of_ble_eq_true rfl, Nat.le_of_ble_eq_true rfl⟩) pj_no_ok trivial hK hP hD hS hA (ci := 1) (q0 := 0) rfl rfl [15] rfl rfl rfl hl.1 rfl (Nat.le_of_ble_eq_true rfl) dR_requirePower_4 ⟨Nat.le_of_ble_eq_true rfl, Nat.le_of_ble_eq_true rfl⟩ rfl ?_
  refine lv_if_eq (tgt := 20) hx hb dR_requirePower_7 (by decide) (fun _ => ?_) (fun h9 => (h9 rfl).elim)
  exact pp_vret hx hb hr hlocks dR_requirePower_20
set_option maxHeartbeats 4000000 in
set_option maxRecDepth 100000 in
theorem t_rP (l : Launch) (D : va_G) (cI cJ cZ : ClassId) (o0 oL pL qL oS pS qS oT pT qT oj pf pt pv pz od n J u : Nat) (fL fS fT va : Nat → Int64) (cL cS cT fr to fi : Nat → Int32) (wr lf gs sm : Int32) (hn : n < 2 ^ 31) (hJ : J < 2 ^ 31) (hu : u ≤ J) (h : lf = 0) (htr : l.stackTraces = false) : pt_X l yR_requirePower wsR_requirePower ({ frames := 6, cells := 1, slots := 6, locals := 82 }) D vwCl (pjT cI cJ cZ) pt_G [.ref o0] [(o0, .inr (3, [.ref oL, .ref oS, .ref oT, .ref oj, .ref od, .int gs, .int sm])), (oL, .inr (0, [.ref pL, .ref qL])), (pL, .inl (cJ, n, .inr (.inl fL))), (qL, .inl (cI, n, .inl cL)), (oS, .inr (0, [.ref pS, .ref qS])), (pS, .inl (cJ, n, .inr (.inl fS))), (qS, .inl (cI, n, .inl cS)), (oT, .inr (0, [.ref pT, .ref qT])), (pT, .inl (cJ, n, .inr (.inl fT))), (qT, .inl (cI, n, .inl cT)), (oj, .inr (2, [.ref pf, .ref pt, .ref pv, .ref pz, .int (nI u)])), (pf, .inl (cI, J, .inl fr)), (pt, .inl (cI, J, .inl to)), (pv, .inl (cJ, J, .inr (.inl va))), (pz, .inl (cZ, J, .inl fi)), (od, .inr (1, [.int wr, .int lf]))] "java/lang/IllegalStateException" := by
  refine pt_of (by decide) rfl (Nat.le_of_ble_eq_true rfl) ?_
  intro p e s m below meth c A ls hx hb hml hno hts hown hlocks hA hK hP hD hS hG hl
  have hl : lv_has ls 1 [(0, .ref o0)] := hl
  refine lv_aload_n hx hb dR_requirePower_0 rfl (lv_at hl 0 rfl) ?_
  refine va_get (D := D) (ci := 3) (v := .ref od) (C := "ReplayJournal") (T := TR) (N := 7) hx hb hts (pj_ups inR) hown hK hP 0 rfl rfl 4 (by decide) (hts _ (pj_up m_99)) (fun _ h9 => h9) rfl dR_requirePower_1 ?_
  refine pp_callV (rest := []) (st1 := [.int 1]) ⟨hx, hb, hml, hown, hts⟩ (c_off_t l D cI cJ cZ od wr lf h) (cwV 0 hts (pj_gV m_150 m_151 m_152 m_23 m_153) rfl rfl rfl (by decide +kernel) ⟨Nat.le_of_ble_eq_true rfl, Nat.le_of_ble_eq_true rfl⟩) pj_no_ok trivial hK hP hD hS hA (ci := 1) (q0 := 0) rfl rfl [15] rfl rfl rfl hl.1 rfl (Nat.le_of_ble_eq_true rfl) dR_requirePower_4 ⟨Nat.le_of_ble_eq_true rfl, Nat.le_of_ble_eq_true rfl⟩ rfl ?_
  refine lv_if_eq (tgt := 20) hx hb dR_requirePower_7 (by decide) (fun h9 => absurd h9 (by decide)) (fun _ => ?_)
  obtain ⟨qtx, hqtx⟩ := hG.1 (174, "the power failed") (by decide)
  exact pt_throw (X := "java/lang/IllegalStateException") (own := "ReplayJournal") (names := pt_up) (ia := 172) (is := 174) (ic := 176) hx hb hml hl.1 htr hown (by decide +kernel) (by decide +kernel) (pt_atoms hts hG pt_inS) (hts _ (pj_up m_248)) (hts _ (pj_up m_29)) hqtx dR_requirePower_10 dR_requirePower_13 dR_requirePower_14 dR_requirePower_16 dR_requirePower_19 hno hlocks (Nat.le_of_ble_eq_true rfl) (Nat.le_of_ble_eq_true rfl) (Nat.le_of_ble_eq_true rfl) (Nat.le_of_ble_eq_true rfl)
set_option maxHeartbeats 4000000 in
set_option maxRecDepth 100000 in
theorem c_rG (l : Launch) (D : va_G) (cI cJ cZ : ClassId) (o0 oL pL qL oS pS qS oT pT qT oj pf pt pv pz od n J u : Nat) (fL fS fT va : Nat → Int64) (cL cS cT fr to fi : Nat → Int32) (wr lf gs sm : Int32) (hn : n < 2 ^ 31) (hJ : J < 2 ^ 31) (hu : u ≤ J) (h : ¬ gs = -1) : pp_Met l yR_requireGroup wsR_requireGroup ({ frames := 6, cells := 0, slots := 0, locals := 82 }) D vwCl (pjT cI cJ cZ) pj_no [.ref o0] [(o0, .inr (3, [.ref oL, .ref oS, .ref oT, .ref oj, .ref od, .int gs, .int sm])), (oL, .inr (0, [.ref pL, .ref qL])), (pL, .inl (cJ, n, .inr (.inl fL))), (qL, .inl (cI, n, .inl cL)), (oS, .inr (0, [.ref pS, .ref qS])), (pS, .inl (cJ, n, .inr (.inl fS))), (qS, .inl (cI, n, .inl cS)), (oT, .inr (0, [.ref pT, .ref qT])), (pT, .inl (cJ, n, .inr (.inl fT))), (qT, .inl (cI, n, .inl cT)), (oj, .inr (2, [.ref pf, .ref pt, .ref pv, .ref pz, .int (nI u)])), (pf, .inl (cI, J, .inl fr)), (pt, .inl (cI, J, .inl to)), (pv, .inl (cJ, J, .inr (.inl va))), (pz, .inl (cZ, J, .inl fi)), (od, .inr (1, [.int wr, .int lf]))] none := by
  refine pp_of (by decide) rfl (Nat.le_of_ble_eq_true rfl) ?_
  intro p e s m below meth c A ls hx hb hml hr hts hown hlocks hA hK hP hD hS hG hl
  have hl : lv_has ls 1 [(0, .ref o0)] := hl
  refine lv_aload_n hx hb dR_requireGroup_0 rfl (lv_at hl 0 rfl) ?_
  refine va_get (D := D) (ci := 3) (v := .int gs) (C := "ReplayJournal") (T := TR) (N := 7) hx hb hts (pj_ups inR) hown hK hP 0 rfl rfl 5 (by decide) (hts _ (pj_up m_100)) (fun _ h9 => h9) rfl dR_requireGroup_1 ?_
  refine lv_iconst (v := -1) hx hb dR_requireGroup_4 (by decide) ?_
  refine lv_icmp_ne (tgt := 18) hx hb dR_requireGroup_5 (by decide) (fun _ => ?_) (fun h9 => absurd h9 h)
  exact pp_vret hx hb hr hlocks dR_requireGroup_18
set_option maxHeartbeats 4000000 in
set_option maxRecDepth 100000 in
theorem t_rG (l : Launch) (D : va_G) (cI cJ cZ : ClassId) (o0 oL pL qL oS pS qS oT pT qT oj pf pt pv pz od n J u : Nat) (fL fS fT va : Nat → Int64) (cL cS cT fr to fi : Nat → Int32) (wr lf gs sm : Int32) (hn : n < 2 ^ 31) (hJ : J < 2 ^ 31) (hu : u ≤ J) (h : gs = -1) (htr : l.stackTraces = false) : pt_X l yR_requireGroup wsR_requireGroup ({ frames := 6, cells := 1, slots := 6, locals := 82 }) D vwCl (pjT cI cJ cZ) pt_G [.ref o0] [(o0, .inr (3, [.ref oL, .ref oS, .ref oT, .ref oj, .ref od, .int gs, .int sm])), (oL, .inr (0, [.ref pL, .ref qL])), (pL, .inl (cJ, n, .inr (.inl fL))), (qL, .inl (cI, n, .inl cL)), (oS, .inr (0, [.ref pS, .ref qS])), (pS, .inl (cJ, n, .inr (.inl fS))), (qS, .inl (cI, n, .inl cS)), (oT, .inr (0, [.ref pT, .ref qT])), (pT, .inl (cJ, n, .inr (.inl fT))), (qT, .inl (cI, n, .inl cT)), (oj, .inr (2, [.ref pf, .ref pt, .ref pv, .ref pz, .int (nI u)])), (pf, .inl (cI, J, .inl fr)), (pt, .inl (cI, J, .inl to)), (pv, .inl (cJ, J, .inr (.inl va))), (pz, .inl (cZ, J, .inl fi)), (od, .inr (1, [.int wr, .int lf]))] "java/lang/IllegalStateException" := by
  refine pt_of (by decide) rfl (Nat.le_of_ble_eq_true rfl) ?_
  intro p e s m below meth c A ls hx hb hml hno hts hown hlocks hA hK hP hD hS hG hl
  have hl : lv_has ls 1 [(0, .ref o0)] := hl
  refine lv_aload_n hx hb dR_requireGroup_0 rfl (lv_at hl 0 rfl) ?_
  refine va_get (D := D) (ci := 3) (v := .int gs) (C := "ReplayJournal") (T := TR) (N := 7) hx hb hts (pj_ups inR) hown hK hP 0 rfl rfl 5 (by decide) (hts _ (pj_up m_100)) (fun _ h9 => h9) rfl dR_requireGroup_1 ?_
  refine lv_iconst (v := -1) hx hb dR_requireGroup_4 (by decide) ?_
  refine lv_icmp_ne (tgt := 18) hx hb dR_requireGroup_5 (by decide) (fun h9 => absurd h9 (fun z => z h)) (fun _ => ?_)
  obtain ⟨qtx, hqtx⟩ := hG.1 (177, "there is no group") (by decide)
  exact pt_throw (X := "java/lang/IllegalStateException") (own := "ReplayJournal") (names := pt_up) (ia := 172) (is := 177) (ic := 176) hx hb hml hl.1 htr hown (by decide +kernel) (by decide +kernel) (pt_atoms hts hG pt_inS) (hts _ (pj_up m_248)) (hts _ (pj_up m_29)) hqtx dR_requireGroup_8 dR_requireGroup_11 dR_requireGroup_12 dR_requireGroup_14 dR_requireGroup_17 hno hlocks (Nat.le_of_ble_eq_true rfl) (Nat.le_of_ble_eq_true rfl) (Nat.le_of_ble_eq_true rfl) (Nat.le_of_ble_eq_true rfl)
set_option maxHeartbeats 4000000 in
set_option maxRecDepth 100000 in
theorem c_rN (l : Launch) (D : va_G) (cI cJ cZ : ClassId) (o0 oL pL qL oS pS qS oT pT qT oj pf pt pv pz od n J u : Nat) (fL fS fT va : Nat → Int64) (cL cS cT fr to fi : Nat → Int32) (wr lf gs sm : Int32) (hn : n < 2 ^ 31) (hJ : J < 2 ^ 31) (hu : u ≤ J) (h : gs = -1) : pp_Met l yR_requireNoGroup wsR_requireNoGroup ({ frames := 6, cells := 0, slots := 0, locals := 82 }) D vwCl (pjT cI cJ cZ) pj_no [.ref o0] [(o0, .inr (3, [.ref oL, .ref oS, .ref oT, .ref oj, .ref od, .int gs, .int sm])), (oL, .inr (0, [.ref pL, .ref qL])), (pL, .inl (cJ, n, .inr (.inl fL))), (qL, .inl (cI, n, .inl cL)), (oS, .inr (0, [.ref pS, .ref qS])), (pS, .inl (cJ, n, .inr (.inl fS))), (qS, .inl (cI, n, .inl cS)), (oT, .inr (0, [.ref pT, .ref qT])), (pT, .inl (cJ, n, .inr (.inl fT))), (qT, .inl (cI, n, .inl cT)), (oj, .inr (2, [.ref pf, .ref pt, .ref pv, .ref pz, .int (nI u)])), (pf, .inl (cI, J, .inl fr)), (pt, .inl (cI, J, .inl to)), (pv, .inl (cJ, J, .inr (.inl va))), (pz, .inl (cZ, J, .inl fi)), (od, .inr (1, [.int wr, .int lf]))] none := by
  refine pp_of (by decide) rfl (Nat.le_of_ble_eq_true rfl) ?_
  intro p e s m below meth c A ls hx hb hml hr hts hown hlocks hA hK hP hD hS hG hl
  have hl : lv_has ls 1 [(0, .ref o0)] := hl
  refine lv_aload_n hx hb dR_requireNoGroup_0 rfl (lv_at hl 0 rfl) ?_
  refine va_get (D := D) (ci := 3) (v := .int gs) (C := "ReplayJournal") (T := TR) (N := 7) hx hb hts (pj_ups inR) hown hK hP 0 rfl rfl 5 (by decide) (hts _ (pj_up m_100)) (fun _ h9 => h9) rfl dR_requireNoGroup_1 ?_
  refine lv_iconst (v := -1) hx hb dR_requireNoGroup_4 (by decide) ?_
  refine lv_icmp_eq (tgt := 18) hx hb dR_requireNoGroup_5 (by decide) (fun _ => ?_) (fun h9 => (h9 h).elim)
  exact pp_vret hx hb hr hlocks dR_requireNoGroup_18
set_option maxHeartbeats 4000000 in
set_option maxRecDepth 100000 in
theorem t_rN (l : Launch) (D : va_G) (cI cJ cZ : ClassId) (o0 oL pL qL oS pS qS oT pT qT oj pf pt pv pz od n J u : Nat) (fL fS fT va : Nat → Int64) (cL cS cT fr to fi : Nat → Int32) (wr lf gs sm : Int32) (hn : n < 2 ^ 31) (hJ : J < 2 ^ 31) (hu : u ≤ J) (h : ¬ gs = -1) (htr : l.stackTraces = false) : pt_X l yR_requireNoGroup wsR_requireNoGroup ({ frames := 6, cells := 1, slots := 6, locals := 82 }) D vwCl (pjT cI cJ cZ) pt_G [.ref o0] [(o0, .inr (3, [.ref oL, .ref oS, .ref oT, .ref oj, .ref od, .int gs, .int sm])), (oL, .inr (0, [.ref pL, .ref qL])), (pL, .inl (cJ, n, .inr (.inl fL))), (qL, .inl (cI, n, .inl cL)), (oS, .inr (0, [.ref pS, .ref qS])), (pS, .inl (cJ, n, .inr (.inl fS))), (qS, .inl (cI, n, .inl cS)), (oT, .inr (0, [.ref pT, .ref qT])), (pT, .inl (cJ, n, .inr (.inl fT))), (qT, .inl (cI, n, .inl cT)), (oj, .inr (2, [.ref pf, .ref pt, .ref pv, .ref pz, .int (nI u)])), (pf, .inl (cI, J, .inl fr)), (pt, .inl (cI, J, .inl to)), (pv, .inl (cJ, J, .inr (.inl va))), (pz, .inl (cZ, J, .inl fi)), (od, .inr (1, [.int wr, .int lf]))] "java/lang/IllegalStateException" := by
  refine pt_of (by decide) rfl (Nat.le_of_ble_eq_true rfl) ?_
  intro p e s m below meth c A ls hx hb hml hno hts hown hlocks hA hK hP hD hS hG hl
  have hl : lv_has ls 1 [(0, .ref o0)] := hl
  refine lv_aload_n hx hb dR_requireNoGroup_0 rfl (lv_at hl 0 rfl) ?_
  refine va_get (D := D) (ci := 3) (v := .int gs) (C := "ReplayJournal") (T := TR) (N := 7) hx hb hts (pj_ups inR) hown hK hP 0 rfl rfl 5 (by decide) (hts _ (pj_up m_100)) (fun _ h9 => h9) rfl dR_requireNoGroup_1 ?_
  refine lv_iconst (v := -1) hx hb dR_requireNoGroup_4 (by decide) ?_
  refine lv_icmp_eq (tgt := 18) hx hb dR_requireNoGroup_5 (by decide) (fun h9 => absurd h9 h) (fun _ => ?_)
  obtain ⟨qtx, hqtx⟩ := hG.1 (179, "there is a group") (by decide)
  exact pt_throw (X := "java/lang/IllegalStateException") (own := "ReplayJournal") (names := pt_up) (ia := 172) (is := 179) (ic := 176) hx hb hml hl.1 htr hown (by decide +kernel) (by decide +kernel) (pt_atoms hts hG pt_inS) (hts _ (pj_up m_248)) (hts _ (pj_up m_29)) hqtx dR_requireNoGroup_8 dR_requireNoGroup_11 dR_requireNoGroup_12 dR_requireNoGroup_14 dR_requireNoGroup_17 hno hlocks (Nat.le_of_ble_eq_true rfl) (Nat.le_of_ble_eq_true rfl) (Nat.le_of_ble_eq_true rfl) (Nat.le_of_ble_eq_true rfl)
