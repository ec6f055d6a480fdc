set_option maxHeartbeats 4000000 in
set_option maxRecDepth 100000 in
theorem w_add_0 (l : Launch) (D : va_G) (cI cJ cZ : ClassId) (qo o0 : Nat) (fo : Nat → Int64) (fs : List Value) (wx : va_W) (hrc : wx[0]? = some (o0, .inr (3, fs))) (y : Int32) (v : Int64) (r : Int32) (wx1 : va_W) (hM : pj_Met l yR_add wsR_add ({ frames := 7, cells := 0, slots := 0, locals := 116 }) D vwCl (pjT cI cJ cZ) pj_no [.ref o0, .int y, .long v] wx (some (.int r)) wx1 0 0) : pj_Met l yL_add wsL_add ({ frames := 8, cells := 1, slots := 6, locals := 139 }) D vwCl (pjT cI cJ cZ) pw_G [.ref o0, .int y, .long v, .ref qo] ((qo, .inl (cJ, 1, .inr (.inl fo))) :: wx) (some (.int 0)) ((qo, .inl (cJ, 1, .inr (.inl (vp_updL fo 0 r.toInt64)))) :: wx1) 1 6 := by
  refine pw_of (by decide) rfl (Nat.le_of_ble_eq_true rfl) ?_
  intro p e s m below meth c A ls hx hb hml hr htab hts hown hlocks hA hK hP hD hS hG hl
  have hl : lv_has ls 6 [(0, .ref o0), (1, .int y), (2, .long v), (4, .ref qo)] := hl
  have e0 : (qo, .inl (cJ, 1, .inr (.inl fo))) :: wx = [(qo, .inl (cJ, 1, .inr (.inl fo)))] ++ (wx ++ []) := by simp
  rw [e0] at hP hD
  refine lv_aload hx hb dL_add_0 (lv_at hl 3 rfl) ?_
  refine lv_iconst (v := 0) hx hb dL_add_2 (by decide) ?_
  refine lv_aload_n hx hb dL_add_3 rfl (lv_at hl 0 rfl) ?_
  refine lv_iload_n hx hb dL_add_4 rfl (lv_at hl 1 rfl) ?_
  refine lv_lload_n hx hb dL_add_5 rfl (lv_at hl 2 rfl) ?_
  refine pl_callV (rest := [.int 0, .ref qo]) (b9 := []) ⟨hx, hb, hml, hown, hts⟩ hM (cwV 2 hts (pj_gV m_162 m_163 m_164 m_19 m_165) rfl rfl rfl (by decide +kernel) ⟨Nat.le_of_ble_eq_true rfl, Nat.le_of_ble_eq_true rfl⟩) pj_no_ok trivial hK hP hD hS hA (ci := 3) (q0 := 0) rfl hrc rfl hl.1 rfl (Nat.le_of_ble_eq_true rfl) dL_add_6 ⟨Nat.le_of_ble_eq_true rfl, Nat.le_of_ble_eq_true rfl⟩ (st1 := [.int r, .int 0, .ref qo]) rfl rfl rfl (fun H locs hP hD hS => ?_)
  rw [List.append_nil] at hP hD
  have hP : va_P D vwCl ((qo, .inl (cJ, 1, .inr (.inl fo))) :: wx1) H := hP
  have hD : va_D A ((qo, .inl (cJ, 1, .inr (.inl fo))) :: wx1) := hD
  refine lv_i2l hx hb dL_add_9 rfl ?_
  refine va_last hx hb hK hP hD hS 0 1 rfl rfl (show vp_in 0 1 from by unfold vp_in; decide) dL_add_10 (fun H locs hP hD hS => ?_)
  refine lv_goto (tgt := 22) hx hb dL_add_11 (by decide) ?_
  refine lv_iconst (v := 0) hx hb dL_add_22 (by decide) ?_
  refine W.widen (k := 1) (n := 6) (by decide) (by decide) ?_
  exact pj_iret hx hb hr hlocks hP hD hS rfl rfl dL_add_23
set_option maxHeartbeats 4000000 in
set_option maxRecDepth 100000 in
theorem w_add_A (l : Launch) (D : va_G) (cI cJ cZ : ClassId) (qo o0 : Nat) (fo : Nat → Int64) (fs : List Value) (wx : va_W) (hrc : wx[0]? = some (o0, .inr (3, fs))) (y : Int32) (v : Int64) (hM : pt_X l yR_add wsR_add ({ frames := 7, cells := 1, slots := 6, locals := 116 }) D vwCl (pjT cI cJ cZ) pt_G [.ref o0, .int y, .long v] wx "java/lang/IllegalArgumentException") : pj_Met l yL_add wsL_add ({ frames := 8, cells := 1, slots := 6, locals := 139 }) D vwCl (pjT cI cJ cZ) pw_G [.ref o0, .int y, .long v, .ref qo] ((qo, .inl (cJ, 1, .inr (.inl fo))) :: wx) (some (.int 1)) ((qo, .inl (cJ, 1, .inr (.inl fo))) :: wx) 1 6 := by
  refine pw_of (by decide) rfl (Nat.le_of_ble_eq_true rfl) ?_
  intro p e s m below meth c A ls hx hb hml hr htab hts hown hlocks hA hK hP hD hS hG hl
  have hl : lv_has ls 6 [(0, .ref o0), (1, .int y), (2, .long v), (4, .ref qo)] := hl
  have e0 : (qo, .inl (cJ, 1, .inr (.inl fo))) :: wx = [(qo, .inl (cJ, 1, .inr (.inl fo)))] ++ (wx ++ []) := by simp
  rw [e0] at hP hD
  refine lv_aload hx hb dL_add_0 (lv_at hl 3 rfl) ?_
  refine lv_iconst (v := 0) hx hb dL_add_2 (by decide) ?_
  refine lv_aload_n hx hb dL_add_3 rfl (lv_at hl 0 rfl) ?_
  refine lv_iload_n hx hb dL_add_4 rfl (lv_at hl 1 rfl) ?_
  refine lv_lload_n hx hb dL_add_5 rfl (lv_at hl 2 rfl) ?_
  refine pl_callVt (rest := [.int 0, .ref qo]) (b9 := []) ⟨hx, hb, hml, hown, hts⟩ hM (cwV 2 hts (pj_gV m_162 m_163 m_164 m_19 m_165) rfl rfl rfl (by decide +kernel) ⟨Nat.le_of_ble_eq_true rfl, Nat.le_of_ble_eq_true rfl⟩) pt_G_ok hG.1 hK hP hD hS hA (ci := 3) (q0 := 0) rfl hrc rfl hl.1 rfl (Nat.le_of_ble_eq_true rfl) dL_add_6 ⟨Nat.le_of_ble_eq_true rfl, Nat.le_of_ble_eq_true rfl⟩ (fun x9 ce H z1 z2 z3 hP hS => ?_)
  rw [← e0] at hP hD
  show vx_W p l e _ s m _ below meth c H [] _ _ _ (F0 m 6 ls [.int 0, .ref qo]) x9
  refine vx_catch hown [] ⟨0, 11, 14, 13⟩ [⟨0, 11, 18, 15⟩] (by rw [htab]; rfl) (fun z hz => by cases hz) (by decide) (by decide) (hts _ (pj_up m_160)) ((hG.1.2.2.1 "java/lang/IllegalArgumentException" (by decide)).use rfl) z1 z2 z3 ?_
  refine lv_astore (lv' := [(5, .ref x9), (0, .ref o0), (1, .int y), (2, .long v), (4, .ref qo)]) hx hb dL_add_14 hl (by decide) rfl (fun ls hl => ?_)
  refine lv_iconst (v := 1) hx hb dL_add_16 (by decide) ?_
  exact pj_iret hx hb hr hlocks hP hD hS rfl rfl dL_add_17
set_option maxHeartbeats 4000000 in
set_option maxRecDepth 100000 in
theorem w_add_S (l : Launch) (D : va_G) (cI cJ cZ : ClassId) (qo o0 : Nat) (fo : Nat → Int64) (fs : List Value) (wx : va_W) (hrc : wx[0]? = some (o0, .inr (3, fs))) (y : Int32) (v : Int64) (hM : pt_X l yR_add wsR_add ({ frames := 7, cells := 1, slots := 6, locals := 116 }) D vwCl (pjT cI cJ cZ) pt_G [.ref o0, .int y, .long v] wx "java/lang/IllegalStateException") : pj_Met l yL_add wsL_add ({ frames := 8, cells := 1, slots := 6, locals := 139 }) D vwCl (pjT cI cJ cZ) pw_G [.ref o0, .int y, .long v, .ref qo] ((qo, .inl (cJ, 1, .inr (.inl fo))) :: wx) (some (.int 2)) ((qo, .inl (cJ, 1, .inr (.inl fo))) :: wx) 1 6 := by
  refine pw_of (by decide) rfl (Nat.le_of_ble_eq_true rfl) ?_
  intro p e s m below meth c A ls hx hb hml hr htab hts hown hlocks hA hK hP hD hS hG hl
  have hl : lv_has ls 6 [(0, .ref o0), (1, .int y), (2, .long v), (4, .ref qo)] := hl
  have e0 : (qo, .inl (cJ, 1, .inr (.inl fo))) :: wx = [(qo, .inl (cJ, 1, .inr (.inl fo)))] ++ (wx ++ []) := by simp
  rw [e0] at hP hD
  refine lv_aload hx hb dL_add_0 (lv_at hl 3 rfl) ?_
  refine lv_iconst (v := 0) hx hb dL_add_2 (by decide) ?_
  refine lv_aload_n hx hb dL_add_3 rfl (lv_at hl 0 rfl) ?_
  refine lv_iload_n hx hb dL_add_4 rfl (lv_at hl 1 rfl) ?_
  refine lv_lload_n hx hb dL_add_5 rfl (lv_at hl 2 rfl) ?_
  refine pl_callVt (rest := [.int 0, .ref qo]) (b9 := []) ⟨hx, hb, hml, hown, hts⟩ hM (cwV 2 hts (pj_gV m_162 m_163 m_164 m_19 m_165) rfl rfl rfl (by decide +kernel) ⟨Nat.le_of_ble_eq_true rfl, Nat.le_of_ble_eq_true rfl⟩) pt_G_ok hG.1 hK hP hD hS hA (ci := 3) (q0 := 0) rfl hrc rfl hl.1 rfl (Nat.le_of_ble_eq_true rfl) dL_add_6 ⟨Nat.le_of_ble_eq_true rfl, Nat.le_of_ble_eq_true rfl⟩ (fun x9 ce H z1 z2 z3 hP hS => ?_)
  rw [← e0] at hP hD
  show vx_W p l e _ s m _ below meth c H [] _ _ _ (F0 m 6 ls [.int 0, .ref qo]) x9
  refine vx_catch hown [⟨0, 11, 14, 13⟩] ⟨0, 11, 18, 15⟩ [] (by rw [htab]; rfl) (fun z hz => by (rw [List.mem_singleton] at hz); subst hz; exact Or.inr ⟨by decide, "java/lang/IllegalArgumentException", (hts _ (pj_up m_160)), hG.2⟩) (by decide) (by decide) (hts _ (pj_up m_161)) ((hG.1.2.2.1 "java/lang/IllegalStateException" (by decide)).use rfl) z1 z2 z3 ?_
  refine lv_astore (lv' := [(5, .ref x9), (0, .ref o0), (1, .int y), (2, .long v), (4, .ref qo)]) hx hb dL_add_18 hl (by decide) rfl (fun ls hl => ?_)
  refine lv_iconst (v := 2) hx hb dL_add_20 (by decide) ?_
  exact pj_iret hx hb hr hlocks hP hD hS rfl rfl dL_add_21
set_option maxHeartbeats 4000000 in
set_option maxRecDepth 100000 in
theorem w_move_0 (l : Launch) (D : va_G) (cI cJ cZ : ClassId) (qo o0 : Nat) (fo : Nat → Int64) (fs : List Value) (wx : va_W) (hrc : wx[0]? = some (o0, .inr (3, fs))) (x : Int32) (y : Int32) (v : Int64) (r : Int32) (wx1 : va_W) (hM : pj_Met l yR_move wsR_move ({ frames := 7, cells := 0, slots := 0, locals := 116 }) D vwCl (pjT cI cJ cZ) pj_no [.ref o0, .int x, .int y, .long v] wx (some (.int r)) wx1 0 0) : pj_Met l yL_move wsL_move ({ frames := 8, cells := 1, slots := 6, locals := 140 }) D vwCl (pjT cI cJ cZ) pw_G [.ref o0, .int x, .int y, .long v, .ref qo] ((qo, .inl (cJ, 1, .inr (.inl fo))) :: wx) (some (.int 0)) ((qo, .inl (cJ, 1, .inr (.inl (vp_updL fo 0 r.toInt64)))) :: wx1) 1 6 := by
  refine pw_of (by decide) rfl (Nat.le_of_ble_eq_true rfl) ?_
  intro p e s m below meth c A ls hx hb hml hr htab hts hown hlocks hA hK hP hD hS hG hl
  have hl : lv_has ls 7 [(0, .ref o0), (1, .int x), (2, .int y), (3, .long v), (5, .ref qo)] := hl
  have e0 : (qo, .inl (cJ, 1, .inr (.inl fo))) :: wx = [(qo, .inl (cJ, 1, .inr (.inl fo)))] ++ (wx ++ []) := by simp
  rw [e0] at hP hD
  refine lv_aload hx hb dL_move_0 (lv_at hl 4 rfl) ?_
  refine lv_iconst (v := 0) hx hb dL_move_2 (by decide) ?_
  refine lv_aload_n hx hb dL_move_3 rfl (lv_at hl 0 rfl) ?_
  refine lv_iload_n hx hb dL_move_4 rfl (lv_at hl 1 rfl) ?_
  refine lv_iload_n hx hb dL_move_5 rfl (lv_at hl 2 rfl) ?_
  refine lv_lload_n hx hb dL_move_6 rfl (lv_at hl 3 rfl) ?_
  refine pl_callV (rest := [.int 0, .ref qo]) (b9 := []) ⟨hx, hb, hml, hown, hts⟩ hM (cwV 3 hts (pj_gV m_292 m_293 m_294 m_19 m_295) rfl rfl rfl (by decide +kernel) ⟨Nat.le_of_ble_eq_true rfl, Nat.le_of_ble_eq_true rfl⟩) pj_no_ok trivial hK hP hD hS hA (ci := 3) (q0 := 0) rfl hrc rfl hl.1 rfl (Nat.le_of_ble_eq_true rfl) dL_move_7 ⟨Nat.le_of_ble_eq_true rfl, Nat.le_of_ble_eq_true rfl⟩ (st1 := [.int r, .int 0, .ref qo]) rfl rfl rfl (fun H locs hP hD hS => ?_)
  rw [List.append_nil] at hP hD
  have hP : va_P D vwCl ((qo, .inl (cJ, 1, .inr (.inl fo))) :: wx1) H := hP
  have hD : va_D A ((qo, .inl (cJ, 1, .inr (.inl fo))) :: wx1) := hD
  refine lv_i2l hx hb dL_move_10 rfl ?_
  refine va_last hx hb hK hP hD hS 0 1 rfl rfl (show vp_in 0 1 from by unfold vp_in; decide) dL_move_11 (fun H locs hP hD hS => ?_)
  refine lv_goto (tgt := 23) hx hb dL_move_12 (by decide) ?_
  refine lv_iconst (v := 0) hx hb dL_move_23 (by decide) ?_
  refine W.widen (k := 1) (n := 6) (by decide) (by decide) ?_
  exact pj_iret hx hb hr hlocks hP hD hS rfl rfl dL_move_24
set_option maxHeartbeats 4000000 in
set_option maxRecDepth 100000 in
theorem w_move_A (l : Launch) (D : va_G) (cI cJ cZ : ClassId) (qo o0 : Nat) (fo : Nat → Int64) (fs : List Value) (wx : va_W) (hrc : wx[0]? = some (o0, .inr (3, fs))) (x : Int32) (y : Int32) (v : Int64) (hM : pt_X l yR_move wsR_move ({ frames := 7, cells := 1, slots := 6, locals := 116 }) D vwCl (pjT cI cJ cZ) pt_G [.ref o0, .int x, .int y, .long v] wx "java/lang/IllegalArgumentException") : pj_Met l yL_move wsL_move ({ frames := 8, cells := 1, slots := 6, locals := 140 }) D vwCl (pjT cI cJ cZ) pw_G [.ref o0, .int x, .int y, .long v, .ref qo] ((qo, .inl (cJ, 1, .inr (.inl fo))) :: wx) (some (.int 1)) ((qo, .inl (cJ, 1, .inr (.inl fo))) :: wx) 1 6 := by
  refine pw_of (by decide) rfl (Nat.le_of_ble_eq_true rfl) ?_
  intro p e s m below meth c A ls hx hb hml hr htab hts hown hlocks hA hK hP hD hS hG hl
  have hl : lv_has ls 7 [(0, .ref o0), (1, .int x), (2, .int y), (3, .long v), (5, .ref qo)] := hl
  have e0 : (qo, .inl (cJ, 1, .inr (.inl fo))) :: wx = [(qo, .inl (cJ, 1, .inr (.inl fo)))] ++ (wx ++ []) := by simp
  rw [e0] at hP hD
  refine lv_aload hx hb dL_move_0 (lv_at hl 4 rfl) ?_
  refine lv_iconst (v := 0) hx hb dL_move_2 (by decide) ?_
  refine lv_aload_n hx hb dL_move_3 rfl (lv_at hl 0 rfl) ?_
  refine lv_iload_n hx hb dL_move_4 rfl (lv_at hl 1 rfl) ?_
  refine lv_iload_n hx hb dL_move_5 rfl (lv_at hl 2 rfl) ?_
  refine lv_lload_n hx hb dL_move_6 rfl (lv_at hl 3 rfl) ?_
  refine pl_callVt (rest := [.int 0, .ref qo]) (b9 := []) ⟨hx, hb, hml, hown, hts⟩ hM (cwV 3 hts (pj_gV m_292 m_293 m_294 m_19 m_295) rfl rfl rfl (by decide +kernel) ⟨Nat.le_of_ble_eq_true rfl, Nat.le_of_ble_eq_true rfl⟩) pt_G_ok hG.1 hK hP hD hS hA (ci := 3) (q0 := 0) rfl hrc rfl hl.1 rfl (Nat.le_of_ble_eq_true rfl) dL_move_7 ⟨Nat.le_of_ble_eq_true rfl, Nat.le_of_ble_eq_true rfl⟩ (fun x9 ce H z1 z2 z3 hP hS => ?_)
  rw [← e0] at hP hD
  show vx_W p l e _ s m _ below meth c H [] _ _ _ (F0 m 7 ls [.int 0, .ref qo]) x9
  refine vx_catch hown [] ⟨0, 12, 15, 13⟩ [⟨0, 12, 19, 15⟩] (by rw [htab]; rfl) (fun z hz => by cases hz) (by decide) (by decide) (hts _ (pj_up m_160)) ((hG.1.2.2.1 "java/lang/IllegalArgumentException" (by decide)).use rfl) z1 z2 z3 ?_
  refine lv_astore (lv' := [(6, .ref x9), (0, .ref o0), (1, .int x), (2, .int y), (3, .long v), (5, .ref qo)]) hx hb dL_move_15 hl (by decide) rfl (fun ls hl => ?_)
  refine lv_iconst (v := 1) hx hb dL_move_17 (by decide) ?_
  exact pj_iret hx hb hr hlocks hP hD hS rfl rfl dL_move_18
set_option maxHeartbeats 4000000 in
set_option maxRecDepth 100000 in
theorem w_move_S (l : Launch) (D : va_G) (cI cJ cZ : ClassId) (qo o0 : Nat) (fo : Nat → Int64) (fs : List Value) (wx : va_W) (hrc : wx[0]? = some (o0, .inr (3, fs))) (x : Int32) (y : Int32) (v : Int64) (hM : pt_X l yR_move wsR_move ({ frames := 7, cells := 1, slots := 6, locals := 116 }) D vwCl (pjT cI cJ cZ) pt_G [.ref o0, .int x, .int y, .long v] wx "java/lang/IllegalStateException") : pj_Met l yL_move wsL_move ({ frames := 8, cells := 1, slots := 6, locals := 140 }) D vwCl (pjT cI cJ cZ) pw_G [.ref o0, .int x, .int y, .long v, .ref qo] ((qo, .inl (cJ, 1, .inr (.inl fo))) :: wx) (some (.int 2)) ((qo, .inl (cJ, 1, .inr (.inl fo))) :: wx) 1 6 := by
  refine pw_of (by decide) rfl (Nat.le_of_ble_eq_true rfl) ?_
  intro p e s m below meth c A ls hx hb hml hr htab hts hown hlocks hA hK hP hD hS hG hl
  have hl : lv_has ls 7 [(0, .ref o0), (1, .int x), (2, .int y), (3, .long v), (5, .ref qo)] := hl
  have e0 : (qo, .inl (cJ, 1, .inr (.inl fo))) :: wx = [(qo, .inl (cJ, 1, .inr (.inl fo)))] ++ (wx ++ []) := by simp
  rw [e0] at hP hD
  refine lv_aload hx hb dL_move_0 (lv_at hl 4 rfl) ?_
  refine lv_iconst (v := 0) hx hb dL_move_2 (by decide) ?_
  refine lv_aload_n hx hb dL_move_3 rfl (lv_at hl 0 rfl) ?_
  refine lv_iload_n hx hb dL_move_4 rfl (lv_at hl 1 rfl) ?_
  refine lv_iload_n hx hb dL_move_5 rfl (lv_at hl 2 rfl) ?_
  refine lv_lload_n hx hb dL_move_6 rfl (lv_at hl 3 rfl) ?_
  refine pl_callVt (rest := [.int 0, .ref qo]) (b9 := []) ⟨hx, hb, hml, hown, hts⟩ hM (cwV 3 hts (pj_gV m_292 m_293 m_294 m_19 m_295) rfl rfl rfl (by decide +kernel) ⟨Nat.le_of_ble_eq_true rfl, Nat.le_of_ble_eq_true rfl⟩) pt_G_ok hG.1 hK hP hD hS hA (ci := 3) (q0 := 0) rfl hrc rfl hl.1 rfl (Nat.le_of_ble_eq_true rfl) dL_move_7 ⟨Nat.le_of_ble_eq_true rfl, Nat.le_of_ble_eq_true rfl⟩ (fun x9 ce H z1 z2 z3 hP hS => ?_)
  rw [← e0] at hP hD
  show vx_W p l e _ s m _ below meth c H [] _ _ _ (F0 m 7 ls [.int 0, .ref qo]) x9
  refine vx_catch hown [⟨0, 12, 15, 13⟩] ⟨0, 12, 19, 15⟩ [] (by rw [htab]; rfl) (fun z hz => by (rw [List.mem_singleton] at hz); subst hz; exact Or.inr ⟨by decide, "java/lang/IllegalArgumentException", (hts _ (pj_up m_160)), hG.2⟩) (by decide) (by decide) (hts _ (pj_up m_161)) ((hG.1.2.2.1 "java/lang/IllegalStateException" (by decide)).use rfl) z1 z2 z3 ?_
  refine lv_astore (lv' := [(6, .ref x9), (0, .ref o0), (1, .int x), (2, .int y), (3, .long v), (5, .ref qo)]) hx hb dL_move_19 hl (by decide) rfl (fun ls hl => ?_)
  refine lv_iconst (v := 2) hx hb dL_move_21 (by decide) ?_
  exact pj_iret hx hb hr hlocks hP hD hS rfl rfl dL_move_22
set_option maxHeartbeats 4000000 in
set_option maxRecDepth 100000 in
theorem w_begin_0 (l : Launch) (D : va_G) (cI cJ cZ : ClassId) (qo o0 : Nat) (fo : Nat → Int64) (fs : List Value) (wx : va_W) (hrc : wx[0]? = some (o0, .inr (3, fs)))   (wx1 : va_W) (hM : pj_Met l yR_begin wsR_begin ({ frames := 7, cells := 0, slots := 0, locals := 102 }) D vwCl (pjT cI cJ cZ) pj_no [.ref o0] wx none wx1 0 0) : pj_Met l yL_begin wsL_begin ({ frames := 8, cells := 1, slots := 6, locals := 122 }) D vwCl (pjT cI cJ cZ) pw_G [.ref o0] (wx) (some (.int 0)) (wx1) 1 6 := by
  refine pw_of (by decide) rfl (Nat.le_of_ble_eq_true rfl) ?_
  intro p e s m below meth c A ls hx hb hml hr htab hts hown hlocks hA hK hP hD hS hG hl
  have hl : lv_has ls 2 [(0, .ref o0)] := hl
  have e0 : wx = [] ++ (wx ++ []) := by simp
  rw [e0] at hP hD
  refine lv_aload_n hx hb dL_begin_0 rfl (lv_at hl 0 rfl) ?_
  refine pl_callV (rest := []) (b9 := []) ⟨hx, hb, hml, hown, hts⟩ hM (cwV 0 hts (pj_gV m_300 m_301 m_302 m_19 m_303) rfl rfl rfl (by decide +kernel) ⟨Nat.le_of_ble_eq_true rfl, Nat.le_of_ble_eq_true rfl⟩) pj_no_ok trivial hK hP hD hS hA (ci := 3) (q0 := 0) rfl hrc rfl hl.1 rfl (Nat.le_of_ble_eq_true rfl) dL_begin_1 ⟨Nat.le_of_ble_eq_true rfl, Nat.le_of_ble_eq_true rfl⟩ (st1 := []) rfl rfl rfl (fun H locs hP hD hS => ?_)
  rw [List.append_nil] at hP hD
  refine lv_goto (tgt := 10) hx hb dL_begin_4 (by decide) ?_
  refine lv_iconst (v := 0) hx hb dL_begin_10 (by decide) ?_
  refine W.widen (k := 1) (n := 6) (by decide) (by decide) ?_
  exact pj_iret hx hb hr hlocks hP hD hS rfl rfl dL_begin_11
set_option maxHeartbeats 4000000 in
set_option maxRecDepth 100000 in
theorem w_begin_S (l : Launch) (D : va_G) (cI cJ cZ : ClassId) (qo o0 : Nat) (fo : Nat → Int64) (fs : List Value) (wx : va_W) (hrc : wx[0]? = some (o0, .inr (3, fs)))  (hM : pt_X l yR_begin wsR_begin ({ frames := 7, cells := 1, slots := 6, locals := 102 }) D vwCl (pjT cI cJ cZ) pt_G [.ref o0] wx "java/lang/IllegalStateException") : pj_Met l yL_begin wsL_begin ({ frames := 8, cells := 1, slots := 6, locals := 122 }) D vwCl (pjT cI cJ cZ) pw_G [.ref o0] (wx) (some (.int 1)) (wx) 1 6 := by
  refine pw_of (by decide) rfl (Nat.le_of_ble_eq_true rfl) ?_
  intro p e s m below meth c A ls hx hb hml hr htab hts hown hlocks hA hK hP hD hS hG hl
  have hl : lv_has ls 2 [(0, .ref o0)] := hl
  have e0 : wx = [] ++ (wx ++ []) := by simp
  rw [e0] at hP hD
  refine lv_aload_n hx hb dL_begin_0 rfl (lv_at hl 0 rfl) ?_
  refine pl_callVt (rest := []) (b9 := []) ⟨hx, hb, hml, hown, hts⟩ hM (cwV 0 hts (pj_gV m_300 m_301 m_302 m_19 m_303) rfl rfl rfl (by decide +kernel) ⟨Nat.le_of_ble_eq_true rfl, Nat.le_of_ble_eq_true rfl⟩) pt_G_ok hG.1 hK hP hD hS hA (ci := 3) (q0 := 0) rfl hrc rfl hl.1 rfl (Nat.le_of_ble_eq_true rfl) dL_begin_1 ⟨Nat.le_of_ble_eq_true rfl, Nat.le_of_ble_eq_true rfl⟩ (fun x9 ce H z1 z2 z3 hP hS => ?_)
  rw [← e0] at hP hD
  show vx_W p l e _ s m _ below meth c H [] _ _ _ (F0 m 1 ls []) x9
  refine vx_catch hown [] ⟨0, 4, 7, 15⟩ [] (by rw [htab]; rfl) (fun z hz => by cases hz) (by decide) (by decide) (hts _ (pj_up m_161)) ((hG.1.2.2.1 "java/lang/IllegalStateException" (by decide)).use rfl) z1 z2 z3 ?_
  refine lv_astore_n (lv' := [(1, .ref x9), (0, .ref o0)]) hx hb dL_begin_7 rfl hl (by decide) rfl (fun ls hl => ?_)
  refine lv_iconst (v := 1) hx hb dL_begin_8 (by decide) ?_
  exact pj_iret hx hb hr hlocks hP hD hS rfl rfl dL_begin_9
set_option maxHeartbeats 4000000 in
set_option maxRecDepth 100000 in
theorem w_end_0 (l : Launch) (D : va_G) (cI cJ cZ : ClassId) (qo o0 : Nat) (fo : Nat → Int64) (fs : List Value) (wx : va_W) (hrc : wx[0]? = some (o0, .inr (3, fs)))  (r : Int32) (wx1 : va_W) (hM : pj_Met l yR_end wsR_end ({ frames := 7, cells := 0, slots := 0, locals := 102 }) D vwCl (pjT cI cJ cZ) pj_no [.ref o0] wx (some (.int r)) wx1 0 0) : pj_Met l yL_end wsL_end ({ frames := 8, cells := 1, slots := 6, locals := 123 }) D vwCl (pjT cI cJ cZ) pw_G [.ref o0, .ref qo] ((qo, .inl (cJ, 1, .inr (.inl fo))) :: wx) (some (.int 0)) ((qo, .inl (cJ, 1, .inr (.inl (vp_updL fo 0 r.toInt64)))) :: wx1) 1 6 := by
  refine pw_of (by decide) rfl (Nat.le_of_ble_eq_true rfl) ?_
  intro p e s m below meth c A ls hx hb hml hr htab hts hown hlocks hA hK hP hD hS hG hl
  have hl : lv_has ls 3 [(0, .ref o0), (1, .ref qo)] := hl
  have e0 : (qo, .inl (cJ, 1, .inr (.inl fo))) :: wx = [(qo, .inl (cJ, 1, .inr (.inl fo)))] ++ (wx ++ []) := by simp
  rw [e0] at hP hD
  refine lv_aload_n hx hb dL_end_0 rfl (lv_at hl 1 rfl) ?_
  refine lv_iconst (v := 0) hx hb dL_end_1 (by decide) ?_
  refine lv_aload_n hx hb dL_end_2 rfl (lv_at hl 0 rfl) ?_
  refine pl_callV (rest := [.int 0, .ref qo]) (b9 := []) ⟨hx, hb, hml, hown, hts⟩ hM (cwV 0 hts (pj_gV m_312 m_313 m_314 m_19 m_315) rfl rfl rfl (by decide +kernel) ⟨Nat.le_of_ble_eq_true rfl, Nat.le_of_ble_eq_true rfl⟩) pj_no_ok trivial hK hP hD hS hA (ci := 3) (q0 := 0) rfl hrc rfl hl.1 rfl (Nat.le_of_ble_eq_true rfl) dL_end_3 ⟨Nat.le_of_ble_eq_true rfl, Nat.le_of_ble_eq_true rfl⟩ (st1 := [.int r, .int 0, .ref qo]) rfl rfl rfl (fun H locs hP hD hS => ?_)
  rw [List.append_nil] at hP hD
  have hP : va_P D vwCl ((qo, .inl (cJ, 1, .inr (.inl fo))) :: wx1) H := hP
  have hD : va_D A ((qo, .inl (cJ, 1, .inr (.inl fo))) :: wx1) := hD
  refine lv_i2l hx hb dL_end_6 rfl ?_
  refine va_last hx hb hK hP hD hS 0 1 rfl rfl (show vp_in 0 1 from by unfold vp_in; decide) dL_end_7 (fun H locs hP hD hS => ?_)
  refine lv_goto (tgt := 14) hx hb dL_end_8 (by decide) ?_
  refine lv_iconst (v := 0) hx hb dL_end_14 (by decide) ?_
  refine W.widen (k := 1) (n := 6) (by decide) (by decide) ?_
  exact pj_iret hx hb hr hlocks hP hD hS rfl rfl dL_end_15
set_option maxHeartbeats 4000000 in
set_option maxRecDepth 100000 in
theorem w_end_S (l : Launch) (D : va_G) (cI cJ cZ : ClassId) (qo o0 : Nat) (fo : Nat → Int64) (fs : List Value) (wx : va_W) (hrc : wx[0]? = some (o0, .inr (3, fs)))  (hM : pt_X l yR_end wsR_end ({ frames := 7, cells := 1, slots := 6, locals := 102 }) D vwCl (pjT cI cJ cZ) pt_G [.ref o0] wx "java/lang/IllegalStateException") : pj_Met l yL_end wsL_end ({ frames := 8, cells := 1, slots := 6, locals := 123 }) D vwCl (pjT cI cJ cZ) pw_G [.ref o0, .ref qo] ((qo, .inl (cJ, 1, .inr (.inl fo))) :: wx) (some (.int 1)) ((qo, .inl (cJ, 1, .inr (.inl fo))) :: wx) 1 6 := by
  refine pw_of (by decide) rfl (Nat.le_of_ble_eq_true rfl) ?_
  intro p e s m below meth c A ls hx hb hml hr htab hts hown hlocks hA hK hP hD hS hG hl
  have hl : lv_has ls 3 [(0, .ref o0), (1, .ref qo)] := hl
  have e0 : (qo, .inl (cJ, 1, .inr (.inl fo))) :: wx = [(qo, .inl (cJ, 1, .inr (.inl fo)))] ++ (wx ++ []) := by simp
  rw [e0] at hP hD
  refine lv_aload_n hx hb dL_end_0 rfl (lv_at hl 1 rfl) ?_
  refine lv_iconst (v := 0) hx hb dL_end_1 (by decide) ?_
  refine lv_aload_n hx hb dL_end_2 rfl (lv_at hl 0 rfl) ?_
  refine pl_callVt (rest := [.int 0, .ref qo]) (b9 := []) ⟨hx, hb, hml, hown, hts⟩ hM (cwV 0 hts (pj_gV m_312 m_313 m_314 m_19 m_315) rfl rfl rfl (by decide +kernel) ⟨Nat.le_of_ble_eq_true rfl, Nat.le_of_ble_eq_true rfl⟩) pt_G_ok hG.1 hK hP hD hS hA (ci := 3) (q0 := 0) rfl hrc rfl hl.1 rfl (Nat.le_of_ble_eq_true rfl) dL_end_3 ⟨Nat.le_of_ble_eq_true rfl, Nat.le_of_ble_eq_true rfl⟩ (fun x9 ce H z1 z2 z3 hP hS => ?_)
  rw [← e0] at hP hD
  show vx_W p l e _ s m _ below meth c H [] _ _ _ (F0 m 3 ls [.int 0, .ref qo]) x9
  refine vx_catch hown [] ⟨0, 8, 11, 15⟩ [] (by rw [htab]; rfl) (fun z hz => by cases hz) (by decide) (by decide) (hts _ (pj_up m_161)) ((hG.1.2.2.1 "java/lang/IllegalStateException" (by decide)).use rfl) z1 z2 z3 ?_
  refine lv_astore_n (lv' := [(2, .ref x9), (0, .ref o0), (1, .ref qo)]) hx hb dL_end_11 rfl hl (by decide) rfl (fun ls hl => ?_)
  refine lv_iconst (v := 1) hx hb dL_end_12 (by decide) ?_
  exact pj_iret hx hb hr hlocks hP hD hS rfl rfl dL_end_13
set_option maxHeartbeats 4000000 in
set_option maxRecDepth 100000 in
theorem w_drop_0 (l : Launch) (D : va_G) (cI cJ cZ : ClassId) (qo o0 : Nat) (fo : Nat → Int64) (fs : List Value) (wx : va_W) (hrc : wx[0]? = some (o0, .inr (3, fs)))  (r : Int32) (wx1 : va_W) (hM : pj_Met l yR_drop wsR_drop ({ frames := 7, cells := 0, slots := 0, locals := 102 }) D vwCl (pjT cI cJ cZ) pj_no [.ref o0] wx (some (.int r)) wx1 0 0) : pj_Met l yL_drop wsL_drop ({ frames := 8, cells := 1, slots := 6, locals := 123 }) D vwCl (pjT cI cJ cZ) pw_G [.ref o0, .ref qo] ((qo, .inl (cJ, 1, .inr (.inl fo))) :: wx) (some (.int 0)) ((qo, .inl (cJ, 1, .inr (.inl (vp_updL fo 0 r.toInt64)))) :: wx1) 1 6 := by
  refine pw_of (by decide) rfl (Nat.le_of_ble_eq_true rfl) ?_
  intro p e s m below meth c A ls hx hb hml hr htab hts hown hlocks hA hK hP hD hS hG hl
  have hl : lv_has ls 3 [(0, .ref o0), (1, .ref qo)] := hl
  have e0 : (qo, .inl (cJ, 1, .inr (.inl fo))) :: wx = [(qo, .inl (cJ, 1, .inr (.inl fo)))] ++ (wx ++ []) := by simp
  rw [e0] at hP hD
  refine lv_aload_n hx hb dL_drop_0 rfl (lv_at hl 1 rfl) ?_
  refine lv_iconst (v := 0) hx hb dL_drop_1 (by decide) ?_
  refine lv_aload_n hx hb dL_drop_2 rfl (lv_at hl 0 rfl) ?_
  refine pl_callV (rest := [.int 0, .ref qo]) (b9 := []) ⟨hx, hb, hml, hown, hts⟩ hM (cwV 0 hts (pj_gV m_338 m_339 m_340 m_19 m_341) rfl rfl rfl (by decide +kernel) ⟨Nat.le_of_ble_eq_true rfl, Nat.le_of_ble_eq_true rfl⟩) pj_no_ok trivial hK hP hD hS hA (ci := 3) (q0 := 0) rfl hrc rfl hl.1 rfl (Nat.le_of_ble_eq_true rfl) dL_drop_3 ⟨Nat.le_of_ble_eq_true rfl, Nat.le_of_ble_eq_true rfl⟩ (st1 := [.int r, .int 0, .ref qo]) rfl rfl rfl (fun H locs hP hD hS => ?_)
  rw [List.append_nil] at hP hD
  have hP : va_P D vwCl ((qo, .inl (cJ, 1, .inr (.inl fo))) :: wx1) H := hP
  have hD : va_D A ((qo, .inl (cJ, 1, .inr (.inl fo))) :: wx1) := hD
  refine lv_i2l hx hb dL_drop_6 rfl ?_
  refine va_last hx hb hK hP hD hS 0 1 rfl rfl (show vp_in 0 1 from by unfold vp_in; decide) dL_drop_7 (fun H locs hP hD hS => ?_)
  refine lv_goto (tgt := 14) hx hb dL_drop_8 (by decide) ?_
  refine lv_iconst (v := 0) hx hb dL_drop_14 (by decide) ?_
  refine W.widen (k := 1) (n := 6) (by decide) (by decide) ?_
  exact pj_iret hx hb hr hlocks hP hD hS rfl rfl dL_drop_15
set_option maxHeartbeats 4000000 in
set_option maxRecDepth 100000 in
theorem w_drop_S (l : Launch) (D : va_G) (cI cJ cZ : ClassId) (qo o0 : Nat) (fo : Nat → Int64) (fs : List Value) (wx : va_W) (hrc : wx[0]? = some (o0, .inr (3, fs)))  (hM : pt_X l yR_drop wsR_drop ({ frames := 7, cells := 1, slots := 6, locals := 102 }) D vwCl (pjT cI cJ cZ) pt_G [.ref o0] wx "java/lang/IllegalStateException") : pj_Met l yL_drop wsL_drop ({ frames := 8, cells := 1, slots := 6, locals := 123 }) D vwCl (pjT cI cJ cZ) pw_G [.ref o0, .ref qo] ((qo, .inl (cJ, 1, .inr (.inl fo))) :: wx) (some (.int 1)) ((qo, .inl (cJ, 1, .inr (.inl fo))) :: wx) 1 6 := by
  refine pw_of (by decide) rfl (Nat.le_of_ble_eq_true rfl) ?_
  intro p e s m below meth c A ls hx hb hml hr htab hts hown hlocks hA hK hP hD hS hG hl
  have hl : lv_has ls 3 [(0, .ref o0), (1, .ref qo)] := hl
  have e0 : (qo, .inl (cJ, 1, .inr (.inl fo))) :: wx = [(qo, .inl (cJ, 1, .inr (.inl fo)))] ++ (wx ++ []) := by simp
  rw [e0] at hP hD
  refine lv_aload_n hx hb dL_drop_0 rfl (lv_at hl 1 rfl) ?_
  refine lv_iconst (v := 0) hx hb dL_drop_1 (by decide) ?_
  refine lv_aload_n hx hb dL_drop_2 rfl (lv_at hl 0 rfl) ?_
  refine pl_callVt (rest := [.int 0, .ref qo]) (b9 := []) ⟨hx, hb, hml, hown, hts⟩ hM (cwV 0 hts (pj_gV m_338 m_339 m_340 m_19 m_341) rfl rfl rfl (by decide +kernel) ⟨Nat.le_of_ble_eq_true rfl, Nat.le_of_ble_eq_true rfl⟩) pt_G_ok hG.1 hK hP hD hS hA (ci := 3) (q0 := 0) rfl hrc rfl hl.1 rfl (Nat.le_of_ble_eq_true rfl) dL_drop_3 ⟨Nat.le_of_ble_eq_true rfl, Nat.le_of_ble_eq_true rfl⟩ (fun x9 ce H z1 z2 z3 hP hS => ?_)
  rw [← e0] at hP hD
  show vx_W p l e _ s m _ below meth c H [] _ _ _ (F0 m 3 ls [.int 0, .ref qo]) x9
  refine vx_catch hown [] ⟨0, 8, 11, 15⟩ [] (by rw [htab]; rfl) (fun z hz => by cases hz) (by decide) (by decide) (hts _ (pj_up m_161)) ((hG.1.2.2.1 "java/lang/IllegalStateException" (by decide)).use rfl) z1 z2 z3 ?_
  refine lv_astore_n (lv' := [(2, .ref x9), (0, .ref o0), (1, .ref qo)]) hx hb dL_drop_11 rfl hl (by decide) rfl (fun ls hl => ?_)
  refine lv_iconst (v := 1) hx hb dL_drop_12 (by decide) ?_
  exact pj_iret hx hb hr hlocks hP hD hS rfl rfl dL_drop_13
set_option maxHeartbeats 4000000 in
set_option maxRecDepth 100000 in
theorem w_snapshot_0 (l : Launch) (D : va_G) (cI cJ cZ : ClassId) (qo o0 : Nat) (fo : Nat → Int64) (fs : List Value) (wx : va_W) (hrc : wx[0]? = some (o0, .inr (3, fs)))  (r : Int32) (wx1 : va_W) (hM : pj_Met l yR_snapshot wsR_snapshot ({ frames := 7, cells := 0, slots := 0, locals := 102 }) D vwCl (pjT cI cJ cZ) pj_no [.ref o0] wx (some (.int r)) wx1 0 0) : pj_Met l yL_snapshot wsL_snapshot ({ frames := 8, cells := 1, slots := 6, locals := 123 }) D vwCl (pjT cI cJ cZ) pw_G [.ref o0, .ref qo] ((qo, .inl (cJ, 1, .inr (.inl fo))) :: wx) (some (.int 0)) ((qo, .inl (cJ, 1, .inr (.inl (vp_updL fo 0 r.toInt64)))) :: wx1) 1 6 := by
  refine pw_of (by decide) rfl (Nat.le_of_ble_eq_true rfl) ?_
  intro p e s m below meth c A ls hx hb hml hr htab hts hown hlocks hA hK hP hD hS hG hl
  have hl : lv_has ls 3 [(0, .ref o0), (1, .ref qo)] := hl
  have e0 : (qo, .inl (cJ, 1, .inr (.inl fo))) :: wx = [(qo, .inl (cJ, 1, .inr (.inl fo)))] ++ (wx ++ []) := by simp
  rw [e0] at hP hD
  refine lv_aload_n hx hb dL_snapshot_0 rfl (lv_at hl 1 rfl) ?_
  refine lv_iconst (v := 0) hx hb dL_snapshot_1 (by decide) ?_
  refine lv_aload_n hx hb dL_snapshot_2 rfl (lv_at hl 0 rfl) ?_
  refine pl_callV (rest := [.int 0, .ref qo]) (b9 := []) ⟨hx, hb, hml, hown, hts⟩ hM (cwV 0 hts (pj_gV m_345 m_346 m_347 m_19 m_348) rfl rfl rfl (by decide +kernel) ⟨Nat.le_of_ble_eq_true rfl, Nat.le_of_ble_eq_true rfl⟩) pj_no_ok trivial hK hP hD hS hA (ci := 3) (q0 := 0) rfl hrc rfl hl.1 rfl (Nat.le_of_ble_eq_true rfl) dL_snapshot_3 ⟨Nat.le_of_ble_eq_true rfl, Nat.le_of_ble_eq_true rfl⟩ (st1 := [.int r, .int 0, .ref qo]) rfl rfl rfl (fun H locs hP hD hS => ?_)
  rw [List.append_nil] at hP hD
  have hP : va_P D vwCl ((qo, .inl (cJ, 1, .inr (.inl fo))) :: wx1) H := hP
  have hD : va_D A ((qo, .inl (cJ, 1, .inr (.inl fo))) :: wx1) := hD
  refine lv_i2l hx hb dL_snapshot_6 rfl ?_
  refine va_last hx hb hK hP hD hS 0 1 rfl rfl (show vp_in 0 1 from by unfold vp_in; decide) dL_snapshot_7 (fun H locs hP hD hS => ?_)
  refine lv_goto (tgt := 14) hx hb dL_snapshot_8 (by decide) ?_
  refine lv_iconst (v := 0) hx hb dL_snapshot_14 (by decide) ?_
  refine W.widen (k := 1) (n := 6) (by decide) (by decide) ?_
  exact pj_iret hx hb hr hlocks hP hD hS rfl rfl dL_snapshot_15
set_option maxHeartbeats 4000000 in
set_option maxRecDepth 100000 in
theorem w_snapshot_S (l : Launch) (D : va_G) (cI cJ cZ : ClassId) (qo o0 : Nat) (fo : Nat → Int64) (fs : List Value) (wx : va_W) (hrc : wx[0]? = some (o0, .inr (3, fs)))  (hM : pt_X l yR_snapshot wsR_snapshot ({ frames := 7, cells := 1, slots := 6, locals := 102 }) D vwCl (pjT cI cJ cZ) pt_G [.ref o0] wx "java/lang/IllegalStateException") : pj_Met l yL_snapshot wsL_snapshot ({ frames := 8, cells := 1, slots := 6, locals := 123 }) D vwCl (pjT cI cJ cZ) pw_G [.ref o0, .ref qo] ((qo, .inl (cJ, 1, .inr (.inl fo))) :: wx) (some (.int 1)) ((qo, .inl (cJ, 1, .inr (.inl fo))) :: wx) 1 6 := by
  refine pw_of (by decide) rfl (Nat.le_of_ble_eq_true rfl) ?_
  intro p e s m below meth c A ls hx hb hml hr htab hts hown hlocks hA hK hP hD hS hG hl
  have hl : lv_has ls 3 [(0, .ref o0), (1, .ref qo)] := hl
  have e0 : (qo, .inl (cJ, 1, .inr (.inl fo))) :: wx = [(qo, .inl (cJ, 1, .inr (.inl fo)))] ++ (wx ++ []) := by simp
  rw [e0] at hP hD
  refine lv_aload_n hx hb dL_snapshot_0 rfl (lv_at hl 1 rfl) ?_
  refine lv_iconst (v := 0) hx hb dL_snapshot_1 (by decide) ?_
  refine lv_aload_n hx hb dL_snapshot_2 rfl (lv_at hl 0 rfl) ?_
  refine pl_callVt (rest := [.int 0, .ref qo]) (b9 := []) ⟨hx, hb, hml, hown, hts⟩ hM (cwV 0 hts (pj_gV m_345 m_346 m_347 m_19 m_348) rfl rfl rfl (by decide +kernel) ⟨Nat.le_of_ble_eq_true rfl, Nat.le_of_ble_eq_true rfl⟩) pt_G_ok hG.1 hK hP hD hS hA (ci := 3) (q0 := 0) rfl hrc rfl hl.1 rfl (Nat.le_of_ble_eq_true rfl) dL_snapshot_3 ⟨Nat.le_of_ble_eq_true rfl, Nat.le_of_ble_eq_true rfl⟩ (fun x9 ce H z1 z2 z3 hP hS => ?_)
  rw [← e0] at hP hD
  show vx_W p l e _ s m _ below meth c H [] _ _ _ (F0 m 3 ls [.int 0, .ref qo]) x9
  refine vx_catch hown [] ⟨0, 8, 11, 15⟩ [] (by rw [htab]; rfl) (fun z hz => by cases hz) (by decide) (by decide) (hts _ (pj_up m_161)) ((hG.1.2.2.1 "java/lang/IllegalStateException" (by decide)).use rfl) z1 z2 z3 ?_
  refine lv_astore_n (lv' := [(2, .ref x9), (0, .ref o0), (1, .ref qo)]) hx hb dL_snapshot_11 rfl hl (by decide) rfl (fun ls hl => ?_)
  refine lv_iconst (v := 1) hx hb dL_snapshot_12 (by decide) ?_
  exact pj_iret hx hb hr hlocks hP hD hS rfl rfl dL_snapshot_13
set_option maxHeartbeats 4000000 in
set_option maxRecDepth 100000 in
theorem w_crash_0 (l : Launch) (D : va_G) (cI cJ cZ : ClassId) (qo o0 : Nat) (fo : Nat → Int64) (fs : List Value) (wx : va_W) (hrc : wx[0]? = some (o0, .inr (3, fs))) (x : Int32)  (wx1 : va_W) (hM : pj_Met l yR_crash wsR_crash ({ frames := 7, cells := 0, slots := 0, locals := 107 }) D vwCl (pjT cI cJ cZ) pj_no [.ref o0, .int x] wx none wx1 0 0) : pj_Met l yL_crash wsL_crash ({ frames := 8, cells := 1, slots := 6, locals := 128 }) D vwCl (pjT cI cJ cZ) pw_G [.ref o0, .int x] (wx) (some (.int 0)) (wx1) 1 6 := by
  refine pw_of (by decide) rfl (Nat.le_of_ble_eq_true rfl) ?_
  intro p e s m below meth c A ls hx hb hml hr htab hts hown hlocks hA hK hP hD hS hG hl
  have hl : lv_has ls 3 [(0, .ref o0), (1, .int x)] := hl
  have e0 : wx = [] ++ (wx ++ []) := by simp
  rw [e0] at hP hD
  refine lv_aload_n hx hb dL_crash_0 rfl (lv_at hl 0 rfl) ?_
  refine lv_iload_n hx hb dL_crash_1 rfl (lv_at hl 1 rfl) ?_
  refine pl_callV (rest := []) (b9 := []) ⟨hx, hb, hml, hown, hts⟩ hM (cwV 1 hts (pj_gV m_370 m_371 m_372 m_19 m_373) rfl rfl rfl (by decide +kernel) ⟨Nat.le_of_ble_eq_true rfl, Nat.le_of_ble_eq_true rfl⟩) pj_no_ok trivial hK hP hD hS hA (ci := 3) (q0 := 0) rfl hrc rfl hl.1 rfl (Nat.le_of_ble_eq_true rfl) dL_crash_2 ⟨Nat.le_of_ble_eq_true rfl, Nat.le_of_ble_eq_true rfl⟩ (st1 := []) rfl rfl rfl (fun H locs hP hD hS => ?_)
  rw [List.append_nil] at hP hD
  refine lv_goto (tgt := 14) hx hb dL_crash_5 (by decide) ?_
  refine lv_iconst (v := 0) hx hb dL_crash_14 (by decide) ?_
  refine W.widen (k := 1) (n := 6) (by decide) (by decide) ?_
  exact pj_iret hx hb hr hlocks hP hD hS rfl rfl dL_crash_15
set_option maxHeartbeats 4000000 in
set_option maxRecDepth 100000 in
theorem w_crash_A (l : Launch) (D : va_G) (cI cJ cZ : ClassId) (qo o0 : Nat) (fo : Nat → Int64) (fs : List Value) (wx : va_W) (hrc : wx[0]? = some (o0, .inr (3, fs))) (x : Int32) (hM : pt_X l yR_crash wsR_crash ({ frames := 7, cells := 1, slots := 6, locals := 107 }) D vwCl (pjT cI cJ cZ) pt_G [.ref o0, .int x] wx "java/lang/IllegalArgumentException") : pj_Met l yL_crash wsL_crash ({ frames := 8, cells := 1, slots := 6, locals := 128 }) D vwCl (pjT cI cJ cZ) pw_G [.ref o0, .int x] (wx) (some (.int 1)) (wx) 1 6 := by
  refine pw_of (by decide) rfl (Nat.le_of_ble_eq_true rfl) ?_
  intro p e s m below meth c A ls hx hb hml hr htab hts hown hlocks hA hK hP hD hS hG hl
  have hl : lv_has ls 3 [(0, .ref o0), (1, .int x)] := hl
  have e0 : wx = [] ++ (wx ++ []) := by simp
  rw [e0] at hP hD
  refine lv_aload_n hx hb dL_crash_0 rfl (lv_at hl 0 rfl) ?_
  refine lv_iload_n hx hb dL_crash_1 rfl (lv_at hl 1 rfl) ?_
  refine pl_callVt (rest := []) (b9 := []) ⟨hx, hb, hml, hown, hts⟩ hM (cwV 1 hts (pj_gV m_370 m_371 m_372 m_19 m_373) rfl rfl rfl (by decide +kernel) ⟨Nat.le_of_ble_eq_true rfl, Nat.le_of_ble_eq_true rfl⟩) pt_G_ok hG.1 hK hP hD hS hA (ci := 3) (q0 := 0) rfl hrc rfl hl.1 rfl (Nat.le_of_ble_eq_true rfl) dL_crash_2 ⟨Nat.le_of_ble_eq_true rfl, Nat.le_of_ble_eq_true rfl⟩ (fun x9 ce H z1 z2 z3 hP hS => ?_)
  rw [← e0] at hP hD
  show vx_W p l e _ s m _ below meth c H [] _ _ _ (F0 m 2 ls []) x9
  refine vx_catch hown [] ⟨0, 5, 8, 13⟩ [⟨0, 5, 11, 15⟩] (by rw [htab]; rfl) (fun z hz => by cases hz) (by decide) (by decide) (hts _ (pj_up m_160)) ((hG.1.2.2.1 "java/lang/IllegalArgumentException" (by decide)).use rfl) z1 z2 z3 ?_
  refine lv_astore_n (lv' := [(2, .ref x9), (0, .ref o0), (1, .int x)]) hx hb dL_crash_8 rfl hl (by decide) rfl (fun ls hl => ?_)
  refine lv_iconst (v := 1) hx hb dL_crash_9 (by decide) ?_
  exact pj_iret hx hb hr hlocks hP hD hS rfl rfl dL_crash_10
set_option maxHeartbeats 4000000 in
set_option maxRecDepth 100000 in
theorem w_crash_S (l : Launch) (D : va_G) (cI cJ cZ : ClassId) (qo o0 : Nat) (fo : Nat → Int64) (fs : List Value) (wx : va_W) (hrc : wx[0]? = some (o0, .inr (3, fs))) (x : Int32) (hM : pt_X l yR_crash wsR_crash ({ frames := 7, cells := 1, slots := 6, locals := 107 }) D vwCl (pjT cI cJ cZ) pt_G [.ref o0, .int x] wx "java/lang/IllegalStateException") : pj_Met l yL_crash wsL_crash ({ frames := 8, cells := 1, slots := 6, locals := 128 }) D vwCl (pjT cI cJ cZ) pw_G [.ref o0, .int x] (wx) (some (.int 2)) (wx) 1 6 := by
  refine pw_of (by decide) rfl (Nat.le_of_ble_eq_true rfl) ?_
  intro p e s m below meth c A ls hx hb hml hr htab hts hown hlocks hA hK hP hD hS hG hl
  have hl : lv_has ls 3 [(0, .ref o0), (1, .int x)] := hl
  have e0 : wx = [] ++ (wx ++ []) := by simp
  rw [e0] at hP hD
  refine lv_aload_n hx hb dL_crash_0 rfl (lv_at hl 0 rfl) ?_
  refine lv_iload_n hx hb dL_crash_1 rfl (lv_at hl 1 rfl) ?_
  refine pl_callVt (rest := []) (b9 := []) ⟨hx, hb, hml, hown, hts⟩ hM (cwV 1 hts (pj_gV m_370 m_371 m_372 m_19 m_373) rfl rfl rfl (by decide +kernel) ⟨Nat.le_of_ble_eq_true rfl, Nat.le_of_ble_eq_true rfl⟩) pt_G_ok hG.1 hK hP hD hS hA (ci := 3) (q0 := 0) rfl hrc rfl hl.1 rfl (Nat.le_of_ble_eq_true rfl) dL_crash_2 ⟨Nat.le_of_ble_eq_true rfl, Nat.le_of_ble_eq_true rfl⟩ (fun x9 ce H z1 z2 z3 hP hS => ?_)
  rw [← e0] at hP hD
  show vx_W p l e _ s m _ below meth c H [] _ _ _ (F0 m 2 ls []) x9
  refine vx_catch hown [⟨0, 5, 8, 13⟩] ⟨0, 5, 11, 15⟩ [] (by rw [htab]; rfl) (fun z hz => by (rw [List.mem_singleton] at hz); subst hz; exact Or.inr ⟨by decide, "java/lang/IllegalArgumentException", (hts _ (pj_up m_160)), hG.2⟩) (by decide) (by decide) (hts _ (pj_up m_161)) ((hG.1.2.2.1 "java/lang/IllegalStateException" (by decide)).use rfl) z1 z2 z3 ?_
  refine lv_astore_n (lv' := [(2, .ref x9), (0, .ref o0), (1, .int x)]) hx hb dL_crash_11 rfl hl (by decide) rfl (fun ls hl => ?_)
  refine lv_iconst (v := 2) hx hb dL_crash_12 (by decide) ?_
  exact pj_iret hx hb hr hlocks hP hD hS rfl rfl dL_crash_13
set_option maxHeartbeats 4000000 in
set_option maxRecDepth 100000 in
theorem w_amount_0 (l : Launch) (D : va_G) (cI cJ cZ : ClassId) (qo o0 : Nat) (fo : Nat → Int64) (fs : List Value) (wx : va_W) (hrc : wx[0]? = some (o0, .inr (3, fs))) (x : Int32) (r : Int64) (hM : pp_Met l yR_amount wsR_amount ({ frames := 7, cells := 0, slots := 0, locals := 103 }) D vwCl (pjT cI cJ cZ) pj_no [.ref o0, .int x] wx (some (.long r))) : pj_Met l yL_amount wsL_amount ({ frames := 8, cells := 1, slots := 6, locals := 124 }) D vwCl (pjT cI cJ cZ) pw_G [.ref o0, .int x, .ref qo] ((qo, .inl (cJ, 1, .inr (.inl fo))) :: wx) (some (.int 0)) ((qo, .inl (cJ, 1, .inr (.inl (vp_updL fo 0 r)))) :: wx) 1 6 := by
  refine pw_of (by decide) rfl (Nat.le_of_ble_eq_true rfl) ?_
  intro p e s m below meth c A ls hx hb hml hr htab hts hown hlocks hA hK hP hD hS hG hl
  have hl : lv_has ls 4 [(0, .ref o0), (1, .int x), (2, .ref qo)] := hl
  have e0 : (qo, .inl (cJ, 1, .inr (.inl fo))) :: wx = [(qo, .inl (cJ, 1, .inr (.inl fo)))] ++ (wx ++ []) := by simp
  rw [e0] at hP hD
  refine lv_aload_n hx hb dL_amount_0 rfl (lv_at hl 2 rfl) ?_
  refine lv_iconst (v := 0) hx hb dL_amount_1 (by decide) ?_
  refine lv_aload_n hx hb dL_amount_2 rfl (lv_at hl 0 rfl) ?_
  refine lv_iload_n hx hb dL_amount_3 rfl (lv_at hl 1 rfl) ?_
  refine pl_callVp (rest := [.int 0, .ref qo]) (b9 := []) ⟨hx, hb, hml, hown, hts⟩ hM (cwV 1 hts (pj_gV m_383 m_384 m_385 m_19 m_386) rfl rfl rfl (by decide +kernel) ⟨Nat.le_of_ble_eq_true rfl, Nat.le_of_ble_eq_true rfl⟩) pj_no_ok trivial hK hP hD hS hA (ci := 3) (q0 := 0) rfl hrc rfl hl.1 rfl (Nat.le_of_ble_eq_true rfl) dL_amount_4 ⟨Nat.le_of_ble_eq_true rfl, Nat.le_of_ble_eq_true rfl⟩ (st1 := [.long r, .int 0, .ref qo]) rfl ?_
  rw [List.append_nil] at hP hD
  have hP : va_P D vwCl ((qo, .inl (cJ, 1, .inr (.inl fo))) :: wx) s.heap := hP
  have hD : va_D A ((qo, .inl (cJ, 1, .inr (.inl fo))) :: wx) := hD
  refine va_last hx hb hK hP hD hS 0 1 rfl rfl (show vp_in 0 1 from by unfold vp_in; decide) dL_amount_7 (fun H locs hP hD hS => ?_)
  refine lv_goto (tgt := 17) hx hb dL_amount_8 (by decide) ?_
  refine lv_iconst (v := 0) hx hb dL_amount_17 (by decide) ?_
  refine W.widen (k := 1) (n := 6) (by decide) (by decide) ?_
  exact pj_iret hx hb hr hlocks hP hD hS rfl rfl dL_amount_18
set_option maxHeartbeats 4000000 in
set_option maxRecDepth 100000 in
theorem w_amount_A (l : Launch) (D : va_G) (cI cJ cZ : ClassId) (qo o0 : Nat) (fo : Nat → Int64) (fs : List Value) (wx : va_W) (hrc : wx[0]? = some (o0, .inr (3, fs))) (x : Int32) (hM : pt_X l yR_amount wsR_amount ({ frames := 7, cells := 1, slots := 6, locals := 103 }) D vwCl (pjT cI cJ cZ) pt_G [.ref o0, .int x] wx "java/lang/IllegalArgumentException") : pj_Met l yL_amount wsL_amount ({ frames := 8, cells := 1, slots := 6, locals := 124 }) D vwCl (pjT cI cJ cZ) pw_G [.ref o0, .int x, .ref qo] ((qo, .inl (cJ, 1, .inr (.inl fo))) :: wx) (some (.int 1)) ((qo, .inl (cJ, 1, .inr (.inl fo))) :: wx) 1 6 := by
  refine pw_of (by decide) rfl (Nat.le_of_ble_eq_true rfl) ?_
  intro p e s m below meth c A ls hx hb hml hr htab hts hown hlocks hA hK hP hD hS hG hl
  have hl : lv_has ls 4 [(0, .ref o0), (1, .int x), (2, .ref qo)] := hl
  have e0 : (qo, .inl (cJ, 1, .inr (.inl fo))) :: wx = [(qo, .inl (cJ, 1, .inr (.inl fo)))] ++ (wx ++ []) := by simp
  rw [e0] at hP hD
  refine lv_aload_n hx hb dL_amount_0 rfl (lv_at hl 2 rfl) ?_
  refine lv_iconst (v := 0) hx hb dL_amount_1 (by decide) ?_
  refine lv_aload_n hx hb dL_amount_2 rfl (lv_at hl 0 rfl) ?_
  refine lv_iload_n hx hb dL_amount_3 rfl (lv_at hl 1 rfl) ?_
  refine pl_callVt (rest := [.int 0, .ref qo]) (b9 := []) ⟨hx, hb, hml, hown, hts⟩ hM (cwV 1 hts (pj_gV m_383 m_384 m_385 m_19 m_386) rfl rfl rfl (by decide +kernel) ⟨Nat.le_of_ble_eq_true rfl, Nat.le_of_ble_eq_true rfl⟩) pt_G_ok hG.1 hK hP hD hS hA (ci := 3) (q0 := 0) rfl hrc rfl hl.1 rfl (Nat.le_of_ble_eq_true rfl) dL_amount_4 ⟨Nat.le_of_ble_eq_true rfl, Nat.le_of_ble_eq_true rfl⟩ (fun x9 ce H z1 z2 z3 hP hS => ?_)
  rw [← e0] at hP hD
  show vx_W p l e _ s m _ below meth c H [] _ _ _ (F0 m 4 ls [.int 0, .ref qo]) x9
  refine vx_catch hown [] ⟨0, 8, 11, 13⟩ [⟨0, 8, 14, 15⟩] (by rw [htab]; rfl) (fun z hz => by cases hz) (by decide) (by decide) (hts _ (pj_up m_160)) ((hG.1.2.2.1 "java/lang/IllegalArgumentException" (by decide)).use rfl) z1 z2 z3 ?_
  refine lv_astore_n (lv' := [(3, .ref x9), (0, .ref o0), (1, .int x), (2, .ref qo)]) hx hb dL_amount_11 rfl hl (by decide) rfl (fun ls hl => ?_)
  refine lv_iconst (v := 1) hx hb dL_amount_12 (by decide) ?_
  exact pj_iret hx hb hr hlocks hP hD hS rfl rfl dL_amount_13
set_option maxHeartbeats 4000000 in
set_option maxRecDepth 100000 in
theorem w_amount_S (l : Launch) (D : va_G) (cI cJ cZ : ClassId) (qo o0 : Nat) (fo : Nat → Int64) (fs : List Value) (wx : va_W) (hrc : wx[0]? = some (o0, .inr (3, fs))) (x : Int32) (hM : pt_X l yR_amount wsR_amount ({ frames := 7, cells := 1, slots := 6, locals := 103 }) D vwCl (pjT cI cJ cZ) pt_G [.ref o0, .int x] wx "java/lang/IllegalStateException") : pj_Met l yL_amount wsL_amount ({ frames := 8, cells := 1, slots := 6, locals := 124 }) D vwCl (pjT cI cJ cZ) pw_G [.ref o0, .int x, .ref qo] ((qo, .inl (cJ, 1, .inr (.inl fo))) :: wx) (some (.int 2)) ((qo, .inl (cJ, 1, .inr (.inl fo))) :: wx) 1 6 := by
  refine pw_of (by decide) rfl (Nat.le_of_ble_eq_true rfl) ?_
  intro p e s m below meth c A ls hx hb hml hr htab hts hown hlocks hA hK hP hD hS hG hl
  have hl : lv_has ls 4 [(0, .ref o0), (1, .int x), (2, .ref qo)] := hl
  have e0 : (qo, .inl (cJ, 1, .inr (.inl fo))) :: wx = [(qo, .inl (cJ, 1, .inr (.inl fo)))] ++ (wx ++ []) := by simp
  rw [e0] at hP hD
  refine lv_aload_n hx hb dL_amount_0 rfl (lv_at hl 2 rfl) ?_
  refine lv_iconst (v := 0) hx hb dL_amount_1 (by decide) ?_
  refine lv_aload_n hx hb dL_amount_2 rfl (lv_at hl 0 rfl) ?_
  refine lv_iload_n hx hb dL_amount_3 rfl (lv_at hl 1 rfl) ?_
  refine pl_callVt (rest := [.int 0, .ref qo]) (b9 := []) ⟨hx, hb, hml, hown, hts⟩ hM (cwV 1 hts (pj_gV m_383 m_384 m_385 m_19 m_386) rfl rfl rfl (by decide +kernel) ⟨Nat.le_of_ble_eq_true rfl, Nat.le_of_ble_eq_true rfl⟩) pt_G_ok hG.1 hK hP hD hS hA (ci := 3) (q0 := 0) rfl hrc rfl hl.1 rfl (Nat.le_of_ble_eq_true rfl) dL_amount_4 ⟨Nat.le_of_ble_eq_true rfl, Nat.le_of_ble_eq_true rfl⟩ (fun x9 ce H z1 z2 z3 hP hS => ?_)
  rw [← e0] at hP hD
  show vx_W p l e _ s m _ below meth c H [] _ _ _ (F0 m 4 ls [.int 0, .ref qo]) x9
  refine vx_catch hown [⟨0, 8, 11, 13⟩] ⟨0, 8, 14, 15⟩ [] (by rw [htab]; rfl) (fun z hz => by (rw [List.mem_singleton] at hz); subst hz; exact Or.inr ⟨by decide, "java/lang/IllegalArgumentException", (hts _ (pj_up m_160)), hG.2⟩) (by decide) (by decide) (hts _ (pj_up m_161)) ((hG.1.2.2.1 "java/lang/IllegalStateException" (by decide)).use rfl) z1 z2 z3 ?_
  refine lv_astore_n (lv' := [(3, .ref x9), (0, .ref o0), (1, .int x), (2, .ref qo)]) hx hb dL_amount_14 rfl hl (by decide) rfl (fun ls hl => ?_)
  refine lv_iconst (v := 2) hx hb dL_amount_15 (by decide) ?_
  exact pj_iret hx hb hr hlocks hP hD hS rfl rfl dL_amount_16
set_option maxHeartbeats 4000000 in
set_option maxRecDepth 100000 in
theorem w_changes_0 (l : Launch) (D : va_G) (cI cJ cZ : ClassId) (qo o0 : Nat) (fo : Nat → Int64) (fs : List Value) (wx : va_W) (hrc : wx[0]? = some (o0, .inr (3, fs))) (x : Int32) (r : Int32) (hM : pp_Met l yR_changes wsR_changes ({ frames := 7, cells := 0, slots := 0, locals := 103 }) D vwCl (pjT cI cJ cZ) pj_no [.ref o0, .int x] wx (some (.int r))) : pj_Met l yL_changes wsL_changes ({ frames := 8, cells := 1, slots := 6, locals := 124 }) D vwCl (pjT cI cJ cZ) pw_G [.ref o0, .int x, .ref qo] ((qo, .inl (cJ, 1, .inr (.inl fo))) :: wx) (some (.int 0)) ((qo, .inl (cJ, 1, .inr (.inl (vp_updL fo 0 r.toInt64)))) :: wx) 1 6 := by
  refine pw_of (by decide) rfl (Nat.le_of_ble_eq_true rfl) ?_
  intro p e s m below meth c A ls hx hb hml hr htab hts hown hlocks hA hK hP hD hS hG hl
  have hl : lv_has ls 4 [(0, .ref o0), (1, .int x), (2, .ref qo)] := hl
  have e0 : (qo, .inl (cJ, 1, .inr (.inl fo))) :: wx = [(qo, .inl (cJ, 1, .inr (.inl fo)))] ++ (wx ++ []) := by simp
  rw [e0] at hP hD
  refine lv_aload_n hx hb dL_changes_0 rfl (lv_at hl 2 rfl) ?_
  refine lv_iconst (v := 0) hx hb dL_changes_1 (by decide) ?_
  refine lv_aload_n hx hb dL_changes_2 rfl (lv_at hl 0 rfl) ?_
  refine lv_iload_n hx hb dL_changes_3 rfl (lv_at hl 1 rfl) ?_
  refine pl_callVp (rest := [.int 0, .ref qo]) (b9 := []) ⟨hx, hb, hml, hown, hts⟩ hM (cwV 1 hts (pj_gV m_394 m_395 m_396 m_19 m_397) rfl rfl rfl (by decide +kernel) ⟨Nat.le_of_ble_eq_true rfl, Nat.le_of_ble_eq_true rfl⟩) pj_no_ok trivial hK hP hD hS hA (ci := 3) (q0 := 0) rfl hrc rfl hl.1 rfl (Nat.le_of_ble_eq_true rfl) dL_changes_4 ⟨Nat.le_of_ble_eq_true rfl, Nat.le_of_ble_eq_true rfl⟩ (st1 := [.int r, .int 0, .ref qo]) rfl ?_
  rw [List.append_nil] at hP hD
  have hP : va_P D vwCl ((qo, .inl (cJ, 1, .inr (.inl fo))) :: wx) s.heap := hP
  have hD : va_D A ((qo, .inl (cJ, 1, .inr (.inl fo))) :: wx) := hD
  refine lv_i2l hx hb dL_changes_7 rfl ?_
  refine va_last hx hb hK hP hD hS 0 1 rfl rfl (show vp_in 0 1 from by unfold vp_in; decide) dL_changes_8 (fun H locs hP hD hS => ?_)
  refine lv_goto (tgt := 18) hx hb dL_changes_9 (by decide) ?_
  refine lv_iconst (v := 0) hx hb dL_changes_18 (by decide) ?_
  refine W.widen (k := 1) (n := 6) (by decide) (by decide) ?_
  exact pj_iret hx hb hr hlocks hP hD hS rfl rfl dL_changes_19
set_option maxHeartbeats 4000000 in
set_option maxRecDepth 100000 in
theorem w_changes_A (l : Launch) (D : va_G) (cI cJ cZ : ClassId) (qo o0 : Nat) (fo : Nat → Int64) (fs : List Value) (wx : va_W) (hrc : wx[0]? = some (o0, .inr (3, fs))) (x : Int32) (hM : pt_X l yR_changes wsR_changes ({ frames := 7, cells := 1, slots := 6, locals := 103 }) D vwCl (pjT cI cJ cZ) pt_G [.ref o0, .int x] wx "java/lang/IllegalArgumentException") : pj_Met l yL_changes wsL_changes ({ frames := 8, cells := 1, slots := 6, locals := 124 }) D vwCl (pjT cI cJ cZ) pw_G [.ref o0, .int x, .ref qo] ((qo, .inl (cJ, 1, .inr (.inl fo))) :: wx) (some (.int 1)) ((qo, .inl (cJ, 1, .inr (.inl fo))) :: wx) 1 6 := by
  refine pw_of (by decide) rfl (Nat.le_of_ble_eq_true rfl) ?_
  intro p e s m below meth c A ls hx hb hml hr htab hts hown hlocks hA hK hP hD hS hG hl
  have hl : lv_has ls 4 [(0, .ref o0), (1, .int x), (2, .ref qo)] := hl
  have e0 : (qo, .inl (cJ, 1, .inr (.inl fo))) :: wx = [(qo, .inl (cJ, 1, .inr (.inl fo)))] ++ (wx ++ []) := by simp
  rw [e0] at hP hD
  refine lv_aload_n hx hb dL_changes_0 rfl (lv_at hl 2 rfl) ?_
  refine lv_iconst (v := 0) hx hb dL_changes_1 (by decide) ?_
  refine lv_aload_n hx hb dL_changes_2 rfl (lv_at hl 0 rfl) ?_
  refine lv_iload_n hx hb dL_changes_3 rfl (lv_at hl 1 rfl) ?_
  refine pl_callVt (rest := [.int 0, .ref qo]) (b9 := []) ⟨hx, hb, hml, hown, hts⟩ hM (cwV 1 hts (pj_gV m_394 m_395 m_396 m_19 m_397) rfl rfl rfl (by decide +kernel) ⟨Nat.le_of_ble_eq_true rfl, Nat.le_of_ble_eq_true rfl⟩) pt_G_ok hG.1 hK hP hD hS hA (ci := 3) (q0 := 0) rfl hrc rfl hl.1 rfl (Nat.le_of_ble_eq_true rfl) dL_changes_4 ⟨Nat.le_of_ble_eq_true rfl, Nat.le_of_ble_eq_true rfl⟩ (fun x9 ce H z1 z2 z3 hP hS => ?_)
  rw [← e0] at hP hD
  show vx_W p l e _ s m _ below meth c H [] _ _ _ (F0 m 4 ls [.int 0, .ref qo]) x9
  refine vx_catch hown [] ⟨0, 9, 12, 13⟩ [⟨0, 9, 15, 15⟩] (by rw [htab]; rfl) (fun z hz => by cases hz) (by decide) (by decide) (hts _ (pj_up m_160)) ((hG.1.2.2.1 "java/lang/IllegalArgumentException" (by decide)).use rfl) z1 z2 z3 ?_
  refine lv_astore_n (lv' := [(3, .ref x9), (0, .ref o0), (1, .int x), (2, .ref qo)]) hx hb dL_changes_12 rfl hl (by decide) rfl (fun ls hl => ?_)
  refine lv_iconst (v := 1) hx hb dL_changes_13 (by decide) ?_
  exact pj_iret hx hb hr hlocks hP hD hS rfl rfl dL_changes_14
set_option maxHeartbeats 4000000 in
set_option maxRecDepth 100000 in
theorem w_changes_S (l : Launch) (D : va_G) (cI cJ cZ : ClassId) (qo o0 : Nat) (fo : Nat → Int64) (fs : List Value) (wx : va_W) (hrc : wx[0]? = some (o0, .inr (3, fs))) (x : Int32) (hM : pt_X l yR_changes wsR_changes ({ frames := 7, cells := 1, slots := 6, locals := 103 }) D vwCl (pjT cI cJ cZ) pt_G [.ref o0, .int x] wx "java/lang/IllegalStateException") : pj_Met l yL_changes wsL_changes ({ frames := 8, cells := 1, slots := 6, locals := 124 }) D vwCl (pjT cI cJ cZ) pw_G [.ref o0, .int x, .ref qo] ((qo, .inl (cJ, 1, .inr (.inl fo))) :: wx) (some (.int 2)) ((qo, .inl (cJ, 1, .inr (.inl fo))) :: wx) 1 6 := by
  refine pw_of (by decide) rfl (Nat.le_of_ble_eq_true rfl) ?_
  intro p e s m below meth c A ls hx hb hml hr htab hts hown hlocks hA hK hP hD hS hG hl
  have hl : lv_has ls 4 [(0, .ref o0), (1, .int x), (2, .ref qo)] := hl
  have e0 : (qo, .inl (cJ, 1, .inr (.inl fo))) :: wx = [(qo, .inl (cJ, 1, .inr (.inl fo)))] ++ (wx ++ []) := by simp
  rw [e0] at hP hD
  refine lv_aload_n hx hb dL_changes_0 rfl (lv_at hl 2 rfl) ?_
  refine lv_iconst (v := 0) hx hb dL_changes_1 (by decide) ?_
  refine lv_aload_n hx hb dL_changes_2 rfl (lv_at hl 0 rfl) ?_
  refine lv_iload_n hx hb dL_changes_3 rfl (lv_at hl 1 rfl) ?_
  refine pl_callVt (rest := [.int 0, .ref qo]) (b9 := []) ⟨hx, hb, hml, hown, hts⟩ hM (cwV 1 hts (pj_gV m_394 m_395 m_396 m_19 m_397) rfl rfl rfl (by decide +kernel) ⟨Nat.le_of_ble_eq_true rfl, Nat.le_of_ble_eq_true rfl⟩) pt_G_ok hG.1 hK hP hD hS hA (ci := 3) (q0 := 0) rfl hrc rfl hl.1 rfl (Nat.le_of_ble_eq_true rfl) dL_changes_4 ⟨Nat.le_of_ble_eq_true rfl, Nat.le_of_ble_eq_true rfl⟩ (fun x9 ce H z1 z2 z3 hP hS => ?_)
  rw [← e0] at hP hD
  show vx_W p l e _ s m _ below meth c H [] _ _ _ (F0 m 4 ls [.int 0, .ref qo]) x9
  refine vx_catch hown [⟨0, 9, 12, 13⟩] ⟨0, 9, 15, 15⟩ [] (by rw [htab]; rfl) (fun z hz => by (rw [List.mem_singleton] at hz); subst hz; exact Or.inr ⟨by decide, "java/lang/IllegalArgumentException", (hts _ (pj_up m_160)), hG.2⟩) (by decide) (by decide) (hts _ (pj_up m_161)) ((hG.1.2.2.1 "java/lang/IllegalStateException" (by decide)).use rfl) z1 z2 z3 ?_
  refine lv_astore_n (lv' := [(3, .ref x9), (0, .ref o0), (1, .int x), (2, .ref qo)]) hx hb dL_changes_15 rfl hl (by decide) rfl (fun ls hl => ?_)
  refine lv_iconst (v := 2) hx hb dL_changes_16 (by decide) ?_
  exact pj_iret hx hb hr hlocks hP hD hS rfl rfl dL_changes_17
set_option maxHeartbeats 4000000 in
set_option maxRecDepth 100000 in
theorem w_count_0 (l : Launch) (D : va_G) (cI cJ cZ : ClassId) (qo o0 : Nat) (fo : Nat → Int64) (fs : List Value) (wx : va_W) (hrc : wx[0]? = some (o0, .inr (3, fs))) (x : Int32) (r : Int32) (hM : pp_Met l yR_count wsR_count ({ frames := 7, cells := 0, slots := 0, locals := 107 }) D vwCl (pjT cI cJ cZ) pj_no [.ref o0, .int x] wx (some (.int r))) : pj_Met l yL_count wsL_count ({ frames := 8, cells := 1, slots := 6, locals := 128 }) D vwCl (pjT cI cJ cZ) pw_G [.ref o0, .int x, .ref qo] ((qo, .inl (cJ, 1, .inr (.inl fo))) :: wx) (some (.int 0)) ((qo, .inl (cJ, 1, .inr (.inl (vp_updL fo 0 r.toInt64)))) :: wx) 1 6 := by
  refine pw_of (by decide) rfl (Nat.le_of_ble_eq_true rfl) ?_
  intro p e s m below meth c A ls hx hb hml hr htab hts hown hlocks hA hK hP hD hS hG hl
  have hl : lv_has ls 4 [(0, .ref o0), (1, .int x), (2, .ref qo)] := hl
  have e0 : (qo, .inl (cJ, 1, .inr (.inl fo))) :: wx = [(qo, .inl (cJ, 1, .inr (.inl fo)))] ++ (wx ++ []) := by simp
  rw [e0] at hP hD
  refine lv_aload_n hx hb dL_count_0 rfl (lv_at hl 2 rfl) ?_
  refine lv_iconst (v := 0) hx hb dL_count_1 (by decide) ?_
  refine lv_aload_n hx hb dL_count_2 rfl (lv_at hl 0 rfl) ?_
  refine lv_iload_n hx hb dL_count_3 rfl (lv_at hl 1 rfl) ?_
  refine pl_callVp (rest := [.int 0, .ref qo]) (b9 := []) ⟨hx, hb, hml, hown, hts⟩ hM (cwV 1 hts (pj_gV m_405 m_406 m_407 m_19 m_408) rfl rfl rfl (by decide +kernel) ⟨Nat.le_of_ble_eq_true rfl, Nat.le_of_ble_eq_true rfl⟩) pj_no_ok trivial hK hP hD hS hA (ci := 3) (q0 := 0) rfl hrc rfl hl.1 rfl (Nat.le_of_ble_eq_true rfl) dL_count_4 ⟨Nat.le_of_ble_eq_true rfl, Nat.le_of_ble_eq_true rfl⟩ (st1 := [.int r, .int 0, .ref qo]) rfl ?_
  rw [List.append_nil] at hP hD
  have hP : va_P D vwCl ((qo, .inl (cJ, 1, .inr (.inl fo))) :: wx) s.heap := hP
  have hD : va_D A ((qo, .inl (cJ, 1, .inr (.inl fo))) :: wx) := hD
  refine lv_i2l hx hb dL_count_7 rfl ?_
  refine va_last hx hb hK hP hD hS 0 1 rfl rfl (show vp_in 0 1 from by unfold vp_in; decide) dL_count_8 (fun H locs hP hD hS => ?_)
  refine lv_goto (tgt := 18) hx hb dL_count_9 (by decide) ?_
  refine lv_iconst (v := 0) hx hb dL_count_18 (by decide) ?_
  refine W.widen (k := 1) (n := 6) (by decide) (by decide) ?_
  exact pj_iret hx hb hr hlocks hP hD hS rfl rfl dL_count_19
set_option maxHeartbeats 4000000 in
set_option maxRecDepth 100000 in
theorem w_count_A (l : Launch) (D : va_G) (cI cJ cZ : ClassId) (qo o0 : Nat) (fo : Nat → Int64) (fs : List Value) (wx : va_W) (hrc : wx[0]? = some (o0, .inr (3, fs))) (x : Int32) (hM : pt_X l yR_count wsR_count ({ frames := 7, cells := 1, slots := 6, locals := 107 }) D vwCl (pjT cI cJ cZ) pt_G [.ref o0, .int x] wx "java/lang/IllegalArgumentException") : pj_Met l yL_count wsL_count ({ frames := 8, cells := 1, slots := 6, locals := 128 }) D vwCl (pjT cI cJ cZ) pw_G [.ref o0, .int x, .ref qo] ((qo, .inl (cJ, 1, .inr (.inl fo))) :: wx) (some (.int 1)) ((qo, .inl (cJ, 1, .inr (.inl fo))) :: wx) 1 6 := by
  refine pw_of (by decide) rfl (Nat.le_of_ble_eq_true rfl) ?_
  intro p e s m below meth c A ls hx hb hml hr htab hts hown hlocks hA hK hP hD hS hG hl
  have hl : lv_has ls 4 [(0, .ref o0), (1, .int x), (2, .ref qo)] := hl
  have e0 : (qo, .inl (cJ, 1, .inr (.inl fo))) :: wx = [(qo, .inl (cJ, 1, .inr (.inl fo)))] ++ (wx ++ []) := by simp
  rw [e0] at hP hD
  refine lv_aload_n hx hb dL_count_0 rfl (lv_at hl 2 rfl) ?_
  refine lv_iconst (v := 0) hx hb dL_count_1 (by decide) ?_
  refine lv_aload_n hx hb dL_count_2 rfl (lv_at hl 0 rfl) ?_
  refine lv_iload_n hx hb dL_count_3 rfl (lv_at hl 1 rfl) ?_
  refine pl_callVt (rest := [.int 0, .ref qo]) (b9 := []) ⟨hx, hb, hml, hown, hts⟩ hM (cwV 1 hts (pj_gV m_405 m_406 m_407 m_19 m_408) rfl rfl rfl (by decide +kernel) ⟨Nat.le_of_ble_eq_true rfl, Nat.le_of_ble_eq_true rfl⟩) pt_G_ok hG.1 hK hP hD hS hA (ci := 3) (q0 := 0) rfl hrc rfl hl.1 rfl (Nat.le_of_ble_eq_true rfl) dL_count_4 ⟨Nat.le_of_ble_eq_true rfl, Nat.le_of_ble_eq_true rfl⟩ (fun x9 ce H z1 z2 z3 hP hS => ?_)
  rw [← e0] at hP hD
  show vx_W p l e _ s m _ below meth c H [] _ _ _ (F0 m 4 ls [.int 0, .ref qo]) x9
  refine vx_catch hown [] ⟨0, 9, 12, 13⟩ [⟨0, 9, 15, 15⟩] (by rw [htab]; rfl) (fun z hz => by cases hz) (by decide) (by decide) (hts _ (pj_up m_160)) ((hG.1.2.2.1 "java/lang/IllegalArgumentException" (by decide)).use rfl) z1 z2 z3 ?_
  refine lv_astore_n (lv' := [(3, .ref x9), (0, .ref o0), (1, .int x), (2, .ref qo)]) hx hb dL_count_12 rfl hl (by decide) rfl (fun ls hl => ?_)
  refine lv_iconst (v := 1) hx hb dL_count_13 (by decide) ?_
  exact pj_iret hx hb hr hlocks hP hD hS rfl rfl dL_count_14
set_option maxHeartbeats 4000000 in
set_option maxRecDepth 100000 in
theorem w_count_S (l : Launch) (D : va_G) (cI cJ cZ : ClassId) (qo o0 : Nat) (fo : Nat → Int64) (fs : List Value) (wx : va_W) (hrc : wx[0]? = some (o0, .inr (3, fs))) (x : Int32) (hM : pt_X l yR_count wsR_count ({ frames := 7, cells := 1, slots := 6, locals := 107 }) D vwCl (pjT cI cJ cZ) pt_G [.ref o0, .int x] wx "java/lang/IllegalStateException") : pj_Met l yL_count wsL_count ({ frames := 8, cells := 1, slots := 6, locals := 128 }) D vwCl (pjT cI cJ cZ) pw_G [.ref o0, .int x, .ref qo] ((qo, .inl (cJ, 1, .inr (.inl fo))) :: wx) (some (.int 2)) ((qo, .inl (cJ, 1, .inr (.inl fo))) :: wx) 1 6 := by
  refine pw_of (by decide) rfl (Nat.le_of_ble_eq_true rfl) ?_
  intro p e s m below meth c A ls hx hb hml hr htab hts hown hlocks hA hK hP hD hS hG hl
  have hl : lv_has ls 4 [(0, .ref o0), (1, .int x), (2, .ref qo)] := hl
  have e0 : (qo, .inl (cJ, 1, .inr (.inl fo))) :: wx = [(qo, .inl (cJ, 1, .inr (.inl fo)))] ++ (wx ++ []) := by simp
  rw [e0] at hP hD
  refine lv_aload_n hx hb dL_count_0 rfl (lv_at hl 2 rfl) ?_
  refine lv_iconst (v := 0) hx hb dL_count_1 (by decide) ?_
  refine lv_aload_n hx hb dL_count_2 rfl (lv_at hl 0 rfl) ?_
  refine lv_iload_n hx hb dL_count_3 rfl (lv_at hl 1 rfl) ?_
  refine pl_callVt (rest := [.int 0, .ref qo]) (b9 := []) ⟨hx, hb, hml, hown, hts⟩ hM (cwV 1 hts (pj_gV m_405 m_406 m_407 m_19 m_408) rfl rfl rfl (by decide +kernel) ⟨Nat.le_of_ble_eq_true rfl, Nat.le_of_ble_eq_true rfl⟩) pt_G_ok hG.1 hK hP hD hS hA (ci := 3) (q0 := 0) rfl hrc rfl hl.1 rfl (Nat.le_of_ble_eq_true rfl) dL_count_4 ⟨Nat.le_of_ble_eq_true rfl, Nat.le_of_ble_eq_true rfl⟩ (fun x9 ce H z1 z2 z3 hP hS => ?_)
  rw [← e0] at hP hD
  show vx_W p l e _ s m _ below meth c H [] _ _ _ (F0 m 4 ls [.int 0, .ref qo]) x9
  refine vx_catch hown [⟨0, 9, 12, 13⟩] ⟨0, 9, 15, 15⟩ [] (by rw [htab]; rfl) (fun z hz => by (rw [List.mem_singleton] at hz); subst hz; exact Or.inr ⟨by decide, "java/lang/IllegalArgumentException", (hts _ (pj_up m_160)), hG.2⟩) (by decide) (by decide) (hts _ (pj_up m_161)) ((hG.1.2.2.1 "java/lang/IllegalStateException" (by decide)).use rfl) z1 z2 z3 ?_
  refine lv_astore_n (lv' := [(3, .ref x9), (0, .ref o0), (1, .int x), (2, .ref qo)]) hx hb dL_count_15 rfl hl (by decide) rfl (fun ls hl => ?_)
  refine lv_iconst (v := 2) hx hb dL_count_16 (by decide) ?_
  exact pj_iret hx hb hr hlocks hP hD hS rfl rfl dL_count_17
