set_option maxHeartbeats 4000000 in
set_option maxRecDepth 100000 in
theorem lb_end {p : Program} {l : Launch} {e : Env} {s : State} {m : MethodId} {below : List Frame} {meth : Method} {c : Code} {b L : Nat} {xs : Nat → Int32} {Q : State → Prop} {A : Nat → Prop} {D : va_G} {cI cJ cZ : ClassId} (htr : l.stackTraces = false) (hx : p.tables.exec = Jvm.exec) (hb : c.code = code) (hml : c.maxLocals = 8) (hown : s.vm.findClass "ReplayJournalLaw" = some m.cls) (hts : ∀ w ∈ Cond.initialized "ReplayJournalLaw" :: pjW0, w.before #[Value.ref b] s = true) (hX : va_X b L xs s s.heap) (hbl : b < s.heap.size) (hbA : ¬ A b) (hA : ∀ q, s.heap.size ≤ q → A q) (hK : va_K D vwCl (pjT cI cJ cZ) s) (hG : pw_G A s) (hL : L ≤ 2562) {qo o0 oM n9 i : Nat} {fo : Nat → Int64} {wx wm : va_W} {H : Heap} {locs : List Loc} {ls : Array Slot} {cells slots : Nat} (hV : zV cI cJ cZ o0 oM n9 wx wm) (hc : n9 ≤ 600) (hcl : cells ≤ 1000) (hsl : slots ≤ 10000) (hi : i + 5 ≤ L) (hl : lv_has ls 8 [(4, .int (nI i)), (3, .ref qo), (2, .ref oM), (1, .ref o0), (0, .ref b)]) (hP : va_P D vwCl ((qo, .inl (cJ, 1, .inr (.inl fo))) :: (wx ++ (wm ++ []))) H) (hD : va_D A ((qo, .inl (cJ, 1, .inr (.inl fo))) :: (wx ++ (wm ++ [])))) (hS : va_S A s.heap H locs)
    (kk : ∀ (fo2 : Nat → Int64) (wx2 wm2 : va_W) (H2 : Heap) (locs2 : List Loc) (ls2 : Array Slot), zV cI cJ cZ o0 oM (n9 + 1) wx2 wm2 → lv_has ls2 8 [(4, .int (nI i)), (3, .ref qo), (2, .ref oM), (1, .ref o0), (0, .ref b)] → va_P D vwCl ((qo, .inl (cJ, 1, .inr (.inl fo2))) :: (wx2 ++ (wm2 ++ []))) H2 → va_D A ((qo, .inl (cJ, 1, .inr (.inl fo2))) :: (wx2 ++ (wm2 ++ []))) → va_S A s.heap H2 locs2 → W p l e room_1 s m #[Value.ref b] below meth c H2 locs2 (cells + 1) (slots + 6) Q (F0 m 717 ls2 [])) : W p l e room_1 s m #[Value.ref b] below meth c H locs cells slots Q (F0 m 356 ls []) := by
  refine lv_aload_n hx hb dL_law_356 rfl (lv_at hl 3 rfl) ?_
  refine lv_aload_n hx hb dL_law_357 rfl (lv_at hl 1 rfl) ?_
  obtain ⟨k9, b9, fo9, wx9, wm9, m1, m2, m3, m4, hV9⟩ := o_end l D cI cJ cZ htr qo o0 oM n9 fo wx wm hV hc 
  obtain ⟨fs9, ms9, hx9, hm9⟩ := zV_x hV
  obtain ⟨ft9, mt9, hx8, hm8⟩ := zV_x hV9
  refine pl_callSW (rest := []) (a9 := []) (wc := ((qo, .inl (cJ, 1, .inr (.inl fo))) :: wx)) (w1 := ((qo, .inl (cJ, 1, .inr (.inl fo9))) :: wx9)) (b9 := wm ++ []) (st1 := [.int k9]) (c2 := cells + 1) (s2 := slots + 6) ⟨hx, hb, hml, hown, hts⟩ m1 (vx_cwSW 2 hts (pj_gSW m_309 m_310 m_18 m_311) rfl rfl rfl (by decide +kernel) ⟨Nat.le_of_ble_eq_true rfl, Nat.le_of_ble_eq_true rfl⟩) pw_G_ok hG hK hP hD hS hA rfl hl.1 rfl (Nat.le_of_ble_eq_true rfl) dL_law_358 ⟨show cells + 1 ≤ 635801 by omega, show slots + 6 ≤ 7188668 by omega⟩ rfl rfl rfl (fun H locs hP hD hS => ?_)
  have hP : va_P D vwCl ((qo, .inl (cJ, 1, .inr (.inl fo9))) :: (wx9 ++ (wm ++ []))) H := hP
  have hD : va_D A ((qo, .inl (cJ, 1, .inr (.inl fo9))) :: (wx9 ++ (wm ++ []))) := hD
  refine lv_istore (lv' := [(5, .int k9), (4, .int (nI i)), (3, .ref qo), (2, .ref oM), (1, .ref o0), (0, .ref b)]) hx hb dL_law_361 hl (by decide) rfl (fun ls hl => ?_)
  refine lv_aload_n hx hb dL_law_363 rfl (lv_at hl 3 rfl) ?_
  refine pl_callV (rest := []) (a9 := ((qo, .inl (cJ, 1, .inr (.inl fo9))) :: wx9)) (wc := wm) (w1 := wm9) (b9 := []) (st1 := [.int b9]) (c2 := cells + 1) (s2 := slots + 6) ⟨hx, hb, hml, hown, hts⟩ m2 (cwV 0 hts (pj_gV m_518 m_519 m_520 m_24 m_521) rfl rfl rfl (by decide +kernel) ⟨Nat.le_of_ble_eq_true rfl, Nat.le_of_ble_eq_true rfl⟩) pj_no_ok trivial hK hP hD hS hA (ci := 4) (q0 := 0) rfl hm9 rfl hl.1 rfl (Nat.le_of_ble_eq_true rfl) dL_law_364 ⟨show cells + 1 ≤ 635801 by omega, show slots + 6 ≤ 7188668 by omega⟩ rfl rfl rfl (fun H locs hP hD hS => ?_)
  have hP : va_P D vwCl ((qo, .inl (cJ, 1, .inr (.inl fo9))) :: (wx9 ++ (wm9 ++ []))) H := hP
  have hD : va_D A ((qo, .inl (cJ, 1, .inr (.inl fo9))) :: (wx9 ++ (wm9 ++ []))) := hD
  refine lv_istore (lv' := [(6, .int b9), (5, .int k9), (4, .int (nI i)), (3, .ref qo), (2, .ref oM), (1, .ref o0), (0, .ref b)]) hx hb dL_law_367 hl (by decide) rfl (fun ls hl => ?_)
  refine lv_aload_n hx hb dL_law_369 rfl (lv_at hl 4 rfl) ?_
  refine pl_callVp (rest := []) (a9 := ((qo, .inl (cJ, 1, .inr (.inl fo9))) :: wx9)) (wc := wm9) (b9 := []) (st1 := [.int k9]) ⟨hx, hb, hml, hown, hts⟩ m3 (cwV 0 hts (pj_gV m_476 m_477 m_478 m_24 m_479) rfl rfl rfl (by decide +kernel) ⟨Nat.le_of_ble_eq_true rfl, Nat.le_of_ble_eq_true rfl⟩) pj_no_ok trivial hK hP hD hS hA (ci := 4) (q0 := 0) rfl hm8 rfl hl.1 rfl (Nat.le_of_ble_eq_true rfl) dL_law_370 ⟨show cells + 1 ≤ 635801 by omega, show slots + 6 ≤ 7188668 by omega⟩ rfl ?_
  refine lv_iload hx hb dL_law_373 (lv_at hl 1 rfl) ?_
  refine lv_icmp_eq (tgt := 380) hx hb dL_law_375 (by decide) (fun _ => ?_) (fun h9 => (h9 rfl).elim)
  refine lv_iload hx hb dL_law_380 (lv_at hl 1 rfl) ?_
  refine lv_if_ne (tgt := 397) hx hb dL_law_382 (by decide) (fun d0 => ?_) (fun d0 => ?_)
  · refine lv_goto (tgt := 717) hx hb dL_law_397 (by decide) ?_
    refine W.widen (k := cells + 1) (n := slots + 6) (by omega) (by omega) ?_
    exact kk fo9 wx9 wm9 _ _ _ hV9 (lv_sub hl [2, 3, 4, 5, 6] rfl) hP hD hS
  · refine lv_aload_n hx hb dL_law_385 rfl (lv_at hl 3 rfl) ?_
    refine lv_iconst (v := 0) hx hb dL_law_386 (by decide) ?_
    refine va_lald hx hb hK hP 0 1 rfl rfl (show vp_in 0 1 from by unfold vp_in; decide) dL_law_387 ?_
    refine lv_topl (fun y9 e9 => ?_)
    have e9 : y9 = b9.toInt64 := e9.trans ((congrArg fo9 z_tc).trans (m4 d0))
    subst e9
    refine lv_iload hx hb dL_law_388 (lv_at hl 0 rfl) ?_
    refine lv_i2l hx hb dL_law_390 rfl ?_
    refine W.lcmp hx hb dL_law_391 ?_
    refine lv_if_eq (tgt := 397) hx hb dL_law_392 (by decide) (fun _ => ?_) (fun h9 => (h9 (z_cmp _)).elim)
    refine lv_goto (tgt := 717) hx hb dL_law_397 (by decide) ?_
    refine W.widen (k := cells + 1) (n := slots + 6) (by omega) (by omega) ?_
    exact kk fo9 wx9 wm9 _ _ _ hV9 (lv_sub hl [2, 3, 4, 5, 6] rfl) hP hD hS
set_option maxHeartbeats 4000000 in
set_option maxRecDepth 100000 in
theorem lb_drop {p : Program} {l : Launch} {e : Env} {s : State} {m : MethodId} {below : List Frame} {meth : Method} {c : Code} {b L : Nat} {xs : Nat → Int32} {Q : State → Prop} {A : Nat → Prop} {D : va_G} {cI cJ cZ : ClassId} (htr : l.stackTraces = false) (hx : p.tables.exec = Jvm.exec) (hb : c.code = code) (hml : c.maxLocals = 8) (hown : s.vm.findClass "ReplayJournalLaw" = some m.cls) (hts : ∀ w ∈ Cond.initialized "ReplayJournalLaw" :: pjW0, w.before #[Value.ref b] s = true) (hX : va_X b L xs s s.heap) (hbl : b < s.heap.size) (hbA : ¬ A b) (hA : ∀ q, s.heap.size ≤ q → A q) (hK : va_K D vwCl (pjT cI cJ cZ) s) (hG : pw_G A s) (hL : L ≤ 2562) {qo o0 oM n9 i : Nat} {fo : Nat → Int64} {wx wm : va_W} {H : Heap} {locs : List Loc} {ls : Array Slot} {cells slots : Nat} (hV : zV cI cJ cZ o0 oM n9 wx wm) (hc : n9 ≤ 600) (hcl : cells ≤ 1000) (hsl : slots ≤ 10000) (hi : i + 5 ≤ L) (hl : lv_has ls 8 [(4, .int (nI i)), (3, .ref qo), (2, .ref oM), (1, .ref o0), (0, .ref b)]) (hP : va_P D vwCl ((qo, .inl (cJ, 1, .inr (.inl fo))) :: (wx ++ (wm ++ []))) H) (hD : va_D A ((qo, .inl (cJ, 1, .inr (.inl fo))) :: (wx ++ (wm ++ [])))) (hS : va_S A s.heap H locs)
    (kk : ∀ (fo2 : Nat → Int64) (wx2 wm2 : va_W) (H2 : Heap) (locs2 : List Loc) (ls2 : Array Slot), zV cI cJ cZ o0 oM (n9 + 1) wx2 wm2 → lv_has ls2 8 [(4, .int (nI i)), (3, .ref qo), (2, .ref oM), (1, .ref o0), (0, .ref b)] → va_P D vwCl ((qo, .inl (cJ, 1, .inr (.inl fo2))) :: (wx2 ++ (wm2 ++ []))) H2 → va_D A ((qo, .inl (cJ, 1, .inr (.inl fo2))) :: (wx2 ++ (wm2 ++ []))) → va_S A s.heap H2 locs2 → W p l e room_1 s m #[Value.ref b] below meth c H2 locs2 (cells + 1) (slots + 6) Q (F0 m 717 ls2 [])) : W p l e room_1 s m #[Value.ref b] below meth c H locs cells slots Q (F0 m 400 ls []) := by
  refine lv_aload_n hx hb dL_law_400 rfl (lv_at hl 3 rfl) ?_
  refine lv_aload_n hx hb dL_law_401 rfl (lv_at hl 1 rfl) ?_
  obtain ⟨k9, b9, fo9, wx9, wm9, m1, m2, m3, m4, hV9⟩ := o_drop l D cI cJ cZ htr qo o0 oM n9 fo wx wm hV hc 
  obtain ⟨fs9, ms9, hx9, hm9⟩ := zV_x hV
  obtain ⟨ft9, mt9, hx8, hm8⟩ := zV_x hV9
  refine pl_callSW (rest := []) (a9 := []) (wc := ((qo, .inl (cJ, 1, .inr (.inl fo))) :: wx)) (w1 := ((qo, .inl (cJ, 1, .inr (.inl fo9))) :: wx9)) (b9 := wm ++ []) (st1 := [.int k9]) (c2 := cells + 1) (s2 := slots + 6) ⟨hx, hb, hml, hown, hts⟩ m1 (vx_cwSW 2 hts (pj_gSW m_335 m_336 m_18 m_337) rfl rfl rfl (by decide +kernel) ⟨Nat.le_of_ble_eq_true rfl, Nat.le_of_ble_eq_true rfl⟩) pw_G_ok hG hK hP hD hS hA rfl hl.1 rfl (Nat.le_of_ble_eq_true rfl) dL_law_402 ⟨show cells + 1 ≤ 635801 by omega, show slots + 6 ≤ 7188668 by omega⟩ rfl rfl rfl (fun H locs hP hD hS => ?_)
  have hP : va_P D vwCl ((qo, .inl (cJ, 1, .inr (.inl fo9))) :: (wx9 ++ (wm ++ []))) H := hP
  have hD : va_D A ((qo, .inl (cJ, 1, .inr (.inl fo9))) :: (wx9 ++ (wm ++ []))) := hD
  refine lv_istore (lv' := [(5, .int k9), (4, .int (nI i)), (3, .ref qo), (2, .ref oM), (1, .ref o0), (0, .ref b)]) hx hb dL_law_405 hl (by decide) rfl (fun ls hl => ?_)
  refine lv_aload_n hx hb dL_law_407 rfl (lv_at hl 3 rfl) ?_
  refine pl_callV (rest := []) (a9 := ((qo, .inl (cJ, 1, .inr (.inl fo9))) :: wx9)) (wc := wm) (w1 := wm9) (b9 := []) (st1 := [.int b9]) (c2 := cells + 1) (s2 := slots + 6) ⟨hx, hb, hml, hown, hts⟩ m2 (cwV 0 hts (pj_gV m_526 m_527 m_528 m_24 m_529) rfl rfl rfl (by decide +kernel) ⟨Nat.le_of_ble_eq_true rfl, Nat.le_of_ble_eq_true rfl⟩) pj_no_ok trivial hK hP hD hS hA (ci := 4) (q0 := 0) rfl hm9 rfl hl.1 rfl (Nat.le_of_ble_eq_true rfl) dL_law_408 ⟨show cells + 1 ≤ 635801 by omega, show slots + 6 ≤ 7188668 by omega⟩ rfl rfl rfl (fun H locs hP hD hS => ?_)
  have hP : va_P D vwCl ((qo, .inl (cJ, 1, .inr (.inl fo9))) :: (wx9 ++ (wm9 ++ []))) H := hP
  have hD : va_D A ((qo, .inl (cJ, 1, .inr (.inl fo9))) :: (wx9 ++ (wm9 ++ []))) := hD
  refine lv_istore (lv' := [(6, .int b9), (5, .int k9), (4, .int (nI i)), (3, .ref qo), (2, .ref oM), (1, .ref o0), (0, .ref b)]) hx hb dL_law_411 hl (by decide) rfl (fun ls hl => ?_)
  refine lv_aload_n hx hb dL_law_413 rfl (lv_at hl 4 rfl) ?_
  refine pl_callVp (rest := []) (a9 := ((qo, .inl (cJ, 1, .inr (.inl fo9))) :: wx9)) (wc := wm9) (b9 := []) (st1 := [.int k9]) ⟨hx, hb, hml, hown, hts⟩ m3 (cwV 0 hts (pj_gV m_476 m_477 m_478 m_24 m_479) rfl rfl rfl (by decide +kernel) ⟨Nat.le_of_ble_eq_true rfl, Nat.le_of_ble_eq_true rfl⟩) pj_no_ok trivial hK hP hD hS hA (ci := 4) (q0 := 0) rfl hm8 rfl hl.1 rfl (Nat.le_of_ble_eq_true rfl) dL_law_414 ⟨show cells + 1 ≤ 635801 by omega, show slots + 6 ≤ 7188668 by omega⟩ rfl ?_
  refine lv_iload hx hb dL_law_417 (lv_at hl 1 rfl) ?_
  refine lv_icmp_eq (tgt := 424) hx hb dL_law_419 (by decide) (fun _ => ?_) (fun h9 => (h9 rfl).elim)
  refine lv_iload hx hb dL_law_424 (lv_at hl 1 rfl) ?_
  refine lv_if_ne (tgt := 441) hx hb dL_law_426 (by decide) (fun d0 => ?_) (fun d0 => ?_)
  · refine lv_goto (tgt := 717) hx hb dL_law_441 (by decide) ?_
    refine W.widen (k := cells + 1) (n := slots + 6) (by omega) (by omega) ?_
    exact kk fo9 wx9 wm9 _ _ _ hV9 (lv_sub hl [2, 3, 4, 5, 6] rfl) hP hD hS
  · refine lv_aload_n hx hb dL_law_429 rfl (lv_at hl 3 rfl) ?_
    refine lv_iconst (v := 0) hx hb dL_law_430 (by decide) ?_
    refine va_lald hx hb hK hP 0 1 rfl rfl (show vp_in 0 1 from by unfold vp_in; decide) dL_law_431 ?_
    refine lv_topl (fun y9 e9 => ?_)
    have e9 : y9 = b9.toInt64 := e9.trans ((congrArg fo9 z_tc).trans (m4 d0))
    subst e9
    refine lv_iload hx hb dL_law_432 (lv_at hl 0 rfl) ?_
    refine lv_i2l hx hb dL_law_434 rfl ?_
    refine W.lcmp hx hb dL_law_435 ?_
    refine lv_if_eq (tgt := 441) hx hb dL_law_436 (by decide) (fun _ => ?_) (fun h9 => (h9 (z_cmp _)).elim)
    refine lv_goto (tgt := 717) hx hb dL_law_441 (by decide) ?_
    refine W.widen (k := cells + 1) (n := slots + 6) (by omega) (by omega) ?_
    exact kk fo9 wx9 wm9 _ _ _ hV9 (lv_sub hl [2, 3, 4, 5, 6] rfl) hP hD hS
set_option maxHeartbeats 4000000 in
set_option maxRecDepth 100000 in
theorem lb_snapshot {p : Program} {l : Launch} {e : Env} {s : State} {m : MethodId} {below : List Frame} {meth : Method} {c : Code} {b L : Nat} {xs : Nat → Int32} {Q : State → Prop} {A : Nat → Prop} {D : va_G} {cI cJ cZ : ClassId} (htr : l.stackTraces = false) (hx : p.tables.exec = Jvm.exec) (hb : c.code = code) (hml : c.maxLocals = 8) (hown : s.vm.findClass "ReplayJournalLaw" = some m.cls) (hts : ∀ w ∈ Cond.initialized "ReplayJournalLaw" :: pjW0, w.before #[Value.ref b] s = true) (hX : va_X b L xs s s.heap) (hbl : b < s.heap.size) (hbA : ¬ A b) (hA : ∀ q, s.heap.size ≤ q → A q) (hK : va_K D vwCl (pjT cI cJ cZ) s) (hG : pw_G A s) (hL : L ≤ 2562) {qo o0 oM n9 i : Nat} {fo : Nat → Int64} {wx wm : va_W} {H : Heap} {locs : List Loc} {ls : Array Slot} {cells slots : Nat} (hV : zV cI cJ cZ o0 oM n9 wx wm) (hc : n9 ≤ 600) (hcl : cells ≤ 1000) (hsl : slots ≤ 10000) (hi : i + 5 ≤ L) (hl : lv_has ls 8 [(4, .int (nI i)), (3, .ref qo), (2, .ref oM), (1, .ref o0), (0, .ref b)]) (hP : va_P D vwCl ((qo, .inl (cJ, 1, .inr (.inl fo))) :: (wx ++ (wm ++ []))) H) (hD : va_D A ((qo, .inl (cJ, 1, .inr (.inl fo))) :: (wx ++ (wm ++ [])))) (hS : va_S A s.heap H locs)
    (kk : ∀ (fo2 : Nat → Int64) (wx2 wm2 : va_W) (H2 : Heap) (locs2 : List Loc) (ls2 : Array Slot), zV cI cJ cZ o0 oM (n9 + 1) wx2 wm2 → lv_has ls2 8 [(4, .int (nI i)), (3, .ref qo), (2, .ref oM), (1, .ref o0), (0, .ref b)] → va_P D vwCl ((qo, .inl (cJ, 1, .inr (.inl fo2))) :: (wx2 ++ (wm2 ++ []))) H2 → va_D A ((qo, .inl (cJ, 1, .inr (.inl fo2))) :: (wx2 ++ (wm2 ++ []))) → va_S A s.heap H2 locs2 → W p l e room_1 s m #[Value.ref b] below meth c H2 locs2 (cells + 1) (slots + 6) Q (F0 m 717 ls2 [])) : W p l e room_1 s m #[Value.ref b] below meth c H locs cells slots Q (F0 m 444 ls []) := by
  refine lv_aload_n hx hb dL_law_444 rfl (lv_at hl 3 rfl) ?_
  refine lv_aload_n hx hb dL_law_445 rfl (lv_at hl 1 rfl) ?_
  obtain ⟨k9, b9, fo9, wx9, wm9, m1, m2, m3, m4, hV9⟩ := o_snapshot l D cI cJ cZ htr qo o0 oM n9 fo wx wm hV hc 
  obtain ⟨fs9, ms9, hx9, hm9⟩ := zV_x hV
  obtain ⟨ft9, mt9, hx8, hm8⟩ := zV_x hV9
  refine pl_callSW (rest := []) (a9 := []) (wc := ((qo, .inl (cJ, 1, .inr (.inl fo))) :: wx)) (w1 := ((qo, .inl (cJ, 1, .inr (.inl fo9))) :: wx9)) (b9 := wm ++ []) (st1 := [.int k9]) (c2 := cells + 1) (s2 := slots + 6) ⟨hx, hb, hml, hown, hts⟩ m1 (vx_cwSW 2 hts (pj_gSW m_342 m_343 m_18 m_344) rfl rfl rfl (by decide +kernel) ⟨Nat.le_of_ble_eq_true rfl, Nat.le_of_ble_eq_true rfl⟩) pw_G_ok hG hK hP hD hS hA rfl hl.1 rfl (Nat.le_of_ble_eq_true rfl) dL_law_446 ⟨show cells + 1 ≤ 635801 by omega, show slots + 6 ≤ 7188668 by omega⟩ rfl rfl rfl (fun H locs hP hD hS => ?_)
  have hP : va_P D vwCl ((qo, .inl (cJ, 1, .inr (.inl fo9))) :: (wx9 ++ (wm ++ []))) H := hP
  have hD : va_D A ((qo, .inl (cJ, 1, .inr (.inl fo9))) :: (wx9 ++ (wm ++ []))) := hD
  refine lv_istore (lv' := [(5, .int k9), (4, .int (nI i)), (3, .ref qo), (2, .ref oM), (1, .ref o0), (0, .ref b)]) hx hb dL_law_449 hl (by decide) rfl (fun ls hl => ?_)
  refine lv_aload_n hx hb dL_law_451 rfl (lv_at hl 3 rfl) ?_
  refine pl_callV (rest := []) (a9 := ((qo, .inl (cJ, 1, .inr (.inl fo9))) :: wx9)) (wc := wm) (w1 := wm9) (b9 := []) (st1 := [.int b9]) (c2 := cells + 1) (s2 := slots + 6) ⟨hx, hb, hml, hown, hts⟩ m2 (cwV 0 hts (pj_gV m_530 m_531 m_532 m_24 m_533) rfl rfl rfl (by decide +kernel) ⟨Nat.le_of_ble_eq_true rfl, Nat.le_of_ble_eq_true rfl⟩) pj_no_ok trivial hK hP hD hS hA (ci := 4) (q0 := 0) rfl hm9 rfl hl.1 rfl (Nat.le_of_ble_eq_true rfl) dL_law_452 ⟨show cells + 1 ≤ 635801 by omega, show slots + 6 ≤ 7188668 by omega⟩ rfl rfl rfl (fun H locs hP hD hS => ?_)
  have hP : va_P D vwCl ((qo, .inl (cJ, 1, .inr (.inl fo9))) :: (wx9 ++ (wm9 ++ []))) H := hP
  have hD : va_D A ((qo, .inl (cJ, 1, .inr (.inl fo9))) :: (wx9 ++ (wm9 ++ []))) := hD
  refine lv_istore (lv' := [(6, .int b9), (5, .int k9), (4, .int (nI i)), (3, .ref qo), (2, .ref oM), (1, .ref o0), (0, .ref b)]) hx hb dL_law_455 hl (by decide) rfl (fun ls hl => ?_)
  refine lv_aload_n hx hb dL_law_457 rfl (lv_at hl 4 rfl) ?_
  refine pl_callVp (rest := []) (a9 := ((qo, .inl (cJ, 1, .inr (.inl fo9))) :: wx9)) (wc := wm9) (b9 := []) (st1 := [.int k9]) ⟨hx, hb, hml, hown, hts⟩ m3 (cwV 0 hts (pj_gV m_476 m_477 m_478 m_24 m_479) rfl rfl rfl (by decide +kernel) ⟨Nat.le_of_ble_eq_true rfl, Nat.le_of_ble_eq_true rfl⟩) pj_no_ok trivial hK hP hD hS hA (ci := 4) (q0 := 0) rfl hm8 rfl hl.1 rfl (Nat.le_of_ble_eq_true rfl) dL_law_458 ⟨show cells + 1 ≤ 635801 by omega, show slots + 6 ≤ 7188668 by omega⟩ rfl ?_
  refine lv_iload hx hb dL_law_461 (lv_at hl 1 rfl) ?_
  refine lv_icmp_eq (tgt := 468) hx hb dL_law_463 (by decide) (fun _ => ?_) (fun h9 => (h9 rfl).elim)
  refine lv_iload hx hb dL_law_468 (lv_at hl 1 rfl) ?_
  refine lv_if_ne (tgt := 485) hx hb dL_law_470 (by decide) (fun d0 => ?_) (fun d0 => ?_)
  · refine lv_goto (tgt := 717) hx hb dL_law_485 (by decide) ?_
    refine W.widen (k := cells + 1) (n := slots + 6) (by omega) (by omega) ?_
    exact kk fo9 wx9 wm9 _ _ _ hV9 (lv_sub hl [2, 3, 4, 5, 6] rfl) hP hD hS
  · refine lv_aload_n hx hb dL_law_473 rfl (lv_at hl 3 rfl) ?_
    refine lv_iconst (v := 0) hx hb dL_law_474 (by decide) ?_
    refine va_lald hx hb hK hP 0 1 rfl rfl (show vp_in 0 1 from by unfold vp_in; decide) dL_law_475 ?_
    refine lv_topl (fun y9 e9 => ?_)
    have e9 : y9 = b9.toInt64 := e9.trans ((congrArg fo9 z_tc).trans (m4 d0))
    subst e9
    refine lv_iload hx hb dL_law_476 (lv_at hl 0 rfl) ?_
    refine lv_i2l hx hb dL_law_478 rfl ?_
    refine W.lcmp hx hb dL_law_479 ?_
    refine lv_if_eq (tgt := 485) hx hb dL_law_480 (by decide) (fun _ => ?_) (fun h9 => (h9 (z_cmp _)).elim)
    refine lv_goto (tgt := 717) hx hb dL_law_485 (by decide) ?_
    refine W.widen (k := cells + 1) (n := slots + 6) (by omega) (by omega) ?_
    exact kk fo9 wx9 wm9 _ _ _ hV9 (lv_sub hl [2, 3, 4, 5, 6] rfl) hP hD hS
set_option maxHeartbeats 4000000 in
set_option maxRecDepth 100000 in
theorem lb_amount {p : Program} {l : Launch} {e : Env} {s : State} {m : MethodId} {below : List Frame} {meth : Method} {c : Code} {b L : Nat} {xs : Nat → Int32} {Q : State → Prop} {A : Nat → Prop} {D : va_G} {cI cJ cZ : ClassId} (htr : l.stackTraces = false) (hx : p.tables.exec = Jvm.exec) (hb : c.code = code) (hml : c.maxLocals = 8) (hown : s.vm.findClass "ReplayJournalLaw" = some m.cls) (hts : ∀ w ∈ Cond.initialized "ReplayJournalLaw" :: pjW0, w.before #[Value.ref b] s = true) (hX : va_X b L xs s s.heap) (hbl : b < s.heap.size) (hbA : ¬ A b) (hA : ∀ q, s.heap.size ≤ q → A q) (hK : va_K D vwCl (pjT cI cJ cZ) s) (hG : pw_G A s) (hL : L ≤ 2562) {qo o0 oM n9 i : Nat} {fo : Nat → Int64} {wx wm : va_W} {H : Heap} {locs : List Loc} {ls : Array Slot} {cells slots : Nat} (hV : zV cI cJ cZ o0 oM n9 wx wm) (hc : n9 ≤ 600) (hcl : cells ≤ 1000) (hsl : slots ≤ 10000) (hi : i + 5 ≤ L) (hl : lv_has ls 8 [(4, .int (nI i)), (3, .ref qo), (2, .ref oM), (1, .ref o0), (0, .ref b)]) (hP : va_P D vwCl ((qo, .inl (cJ, 1, .inr (.inl fo))) :: (wx ++ (wm ++ []))) H) (hD : va_D A ((qo, .inl (cJ, 1, .inr (.inl fo))) :: (wx ++ (wm ++ [])))) (hS : va_S A s.heap H locs)
    (kk : ∀ (fo2 : Nat → Int64) (wx2 wm2 : va_W) (H2 : Heap) (locs2 : List Loc) (ls2 : Array Slot), zV cI cJ cZ o0 oM (n9 + 1) wx2 wm2 → lv_has ls2 8 [(4, .int (nI i)), (3, .ref qo), (2, .ref oM), (1, .ref o0), (0, .ref b)] → va_P D vwCl ((qo, .inl (cJ, 1, .inr (.inl fo2))) :: (wx2 ++ (wm2 ++ []))) H2 → va_D A ((qo, .inl (cJ, 1, .inr (.inl fo2))) :: (wx2 ++ (wm2 ++ []))) → va_S A s.heap H2 locs2 → W p l e room_1 s m #[Value.ref b] below meth c H2 locs2 (cells + 1) (slots + 6) Q (F0 m 717 ls2 [])) : W p l e room_1 s m #[Value.ref b] below meth c H locs cells slots Q (F0 m 550 ls []) := by
  refine lv_aload_n hx hb dL_law_550 rfl (lv_at hl 3 rfl) ?_
  refine lv_aload_n hx hb dL_law_551 rfl (lv_at hl 4 rfl) ?_
  refine lv_iload hx hb dL_law_552 (lv_at hl 0 rfl) ?_
  refine lv_iconst (v := 1) hx hb dL_law_554 (by decide) ?_
  refine lv_iadd hx hb dL_law_555 ?_
  refine va_sld hx hb hX hbl hbA hS (z_in (k := 1) (by omega) hL) dL_law_556 ?_
  refine lv_aload_n hx hb dL_law_557 rfl (lv_at hl 1 rfl) ?_
  obtain ⟨k9, b9, fo9, wx9, wm9, m1, m2, m3, m4, hV9⟩ := o_amount l D cI cJ cZ htr qo o0 oM n9 fo wx wm hV hc (xs (((nI i) + 1).toNatClampNeg))
  obtain ⟨fs9, ms9, hx9, hm9⟩ := zV_x hV
  obtain ⟨ft9, mt9, hx8, hm8⟩ := zV_x hV9
  refine pl_callSW (rest := []) (a9 := []) (wc := ((qo, .inl (cJ, 1, .inr (.inl fo))) :: wx)) (w1 := ((qo, .inl (cJ, 1, .inr (.inl fo9))) :: wx9)) (b9 := wm ++ []) (st1 := [.int k9]) (c2 := cells + 1) (s2 := slots + 6) ⟨hx, hb, hml, hown, hts⟩ m1 (vx_cwSW 3 hts (pj_gSW m_380 m_381 m_18 m_382) rfl rfl rfl (by decide +kernel) ⟨Nat.le_of_ble_eq_true rfl, Nat.le_of_ble_eq_true rfl⟩) pw_G_ok hG hK hP hD hS hA rfl hl.1 rfl (Nat.le_of_ble_eq_true rfl) dL_law_558 ⟨show cells + 1 ≤ 635801 by omega, show slots + 6 ≤ 7188668 by omega⟩ rfl rfl rfl (fun H locs hP hD hS => ?_)
  have hP : va_P D vwCl ((qo, .inl (cJ, 1, .inr (.inl fo9))) :: (wx9 ++ (wm ++ []))) H := hP
  have hD : va_D A ((qo, .inl (cJ, 1, .inr (.inl fo9))) :: (wx9 ++ (wm ++ []))) := hD
  refine lv_istore (lv' := [(5, .int k9), (4, .int (nI i)), (3, .ref qo), (2, .ref oM), (1, .ref o0), (0, .ref b)]) hx hb dL_law_561 hl (by decide) rfl (fun ls hl => ?_)
  refine lv_aload_n hx hb dL_law_563 rfl (lv_at hl 3 rfl) ?_
  refine lv_aload_n hx hb dL_law_564 rfl (lv_at hl 5 rfl) ?_
  refine lv_iload hx hb dL_law_565 (lv_at hl 1 rfl) ?_
  refine lv_iconst (v := 1) hx hb dL_law_567 (by decide) ?_
  refine lv_iadd hx hb dL_law_568 ?_
  refine va_sld hx hb hX hbl hbA hS (z_in (k := 1) (by omega) hL) dL_law_569 ?_
  refine pl_callV (rest := []) (a9 := ((qo, .inl (cJ, 1, .inr (.inl fo9))) :: wx9)) (wc := wm) (w1 := wm9) (b9 := []) (st1 := [.long b9]) (c2 := cells + 1) (s2 := slots + 6) ⟨hx, hb, hml, hown, hts⟩ m2 (cwV 1 hts (pj_gV m_546 m_547 m_548 m_24 m_549) rfl rfl rfl (by decide +kernel) ⟨Nat.le_of_ble_eq_true rfl, Nat.le_of_ble_eq_true rfl⟩) pj_no_ok trivial hK hP hD hS hA (ci := 4) (q0 := 0) rfl hm9 rfl hl.1 rfl (Nat.le_of_ble_eq_true rfl) dL_law_570 ⟨show cells + 1 ≤ 635801 by omega, show slots + 6 ≤ 7188668 by omega⟩ rfl rfl rfl (fun H locs hP hD hS => ?_)
  have hP : va_P D vwCl ((qo, .inl (cJ, 1, .inr (.inl fo9))) :: (wx9 ++ (wm9 ++ []))) H := hP
  have hD : va_D A ((qo, .inl (cJ, 1, .inr (.inl fo9))) :: (wx9 ++ (wm9 ++ []))) := hD
  refine lv_lstore (lv' := [(6, .long b9), (5, .int k9), (4, .int (nI i)), (3, .ref qo), (2, .ref oM), (1, .ref o0), (0, .ref b)]) hx hb dL_law_573 hl (by decide) rfl (fun ls hl => ?_)
  refine lv_aload_n hx hb dL_law_575 rfl (lv_at hl 4 rfl) ?_
  refine pl_callVp (rest := []) (a9 := ((qo, .inl (cJ, 1, .inr (.inl fo9))) :: wx9)) (wc := wm9) (b9 := []) (st1 := [.int k9]) ⟨hx, hb, hml, hown, hts⟩ m3 (cwV 0 hts (pj_gV m_476 m_477 m_478 m_24 m_479) rfl rfl rfl (by decide +kernel) ⟨Nat.le_of_ble_eq_true rfl, Nat.le_of_ble_eq_true rfl⟩) pj_no_ok trivial hK hP hD hS hA (ci := 4) (q0 := 0) rfl hm8 rfl hl.1 rfl (Nat.le_of_ble_eq_true rfl) dL_law_576 ⟨show cells + 1 ≤ 635801 by omega, show slots + 6 ≤ 7188668 by omega⟩ rfl ?_
  refine lv_iload hx hb dL_law_579 (lv_at hl 1 rfl) ?_
  refine lv_icmp_eq (tgt := 586) hx hb dL_law_581 (by decide) (fun _ => ?_) (fun h9 => (h9 rfl).elim)
  refine lv_iload hx hb dL_law_586 (lv_at hl 1 rfl) ?_
  refine lv_if_ne (tgt := 602) hx hb dL_law_588 (by decide) (fun d0 => ?_) (fun d0 => ?_)
  · refine lv_goto (tgt := 717) hx hb dL_law_602 (by decide) ?_
    refine W.widen (k := cells + 1) (n := slots + 6) (by omega) (by omega) ?_
    exact kk fo9 wx9 wm9 _ _ _ hV9 (lv_sub hl [2, 3, 4, 5, 6] rfl) hP hD hS
  · refine lv_aload_n hx hb dL_law_591 rfl (lv_at hl 3 rfl) ?_
    refine lv_iconst (v := 0) hx hb dL_law_592 (by decide) ?_
    refine va_lald hx hb hK hP 0 1 rfl rfl (show vp_in 0 1 from by unfold vp_in; decide) dL_law_593 ?_
    refine lv_topl (fun y9 e9 => ?_)
    have e9 : y9 = b9 := e9.trans ((congrArg fo9 z_tc).trans (m4 d0))
    rw [e9]
    refine lv_lload hx hb dL_law_594 (lv_at hl 0 rfl) ?_
    refine W.lcmp hx hb dL_law_596 ?_
    refine lv_if_eq (tgt := 602) hx hb dL_law_597 (by decide) (fun _ => ?_) (fun h9 => (h9 (z_cmp _)).elim)
    refine lv_goto (tgt := 717) hx hb dL_law_602 (by decide) ?_
    refine W.widen (k := cells + 1) (n := slots + 6) (by omega) (by omega) ?_
    exact kk fo9 wx9 wm9 _ _ _ hV9 (lv_sub hl [2, 3, 4, 5, 6] rfl) hP hD hS
set_option maxHeartbeats 4000000 in
set_option maxRecDepth 100000 in
theorem lb_changes {p : Program} {l : Launch} {e : Env} {s : State} {m : MethodId} {below : List Frame} {meth : Method} {c : Code} {b L : Nat} {xs : Nat → Int32} {Q : State → Prop} {A : Nat → Prop} {D : va_G} {cI cJ cZ : ClassId} (htr : l.stackTraces = false) (hx : p.tables.exec = Jvm.exec) (hb : c.code = code) (hml : c.maxLocals = 8) (hown : s.vm.findClass "ReplayJournalLaw" = some m.cls) (hts : ∀ w ∈ Cond.initialized "ReplayJournalLaw" :: pjW0, w.before #[Value.ref b] s = true) (hX : va_X b L xs s s.heap) (hbl : b < s.heap.size) (hbA : ¬ A b) (hA : ∀ q, s.heap.size ≤ q → A q) (hK : va_K D vwCl (pjT cI cJ cZ) s) (hG : pw_G A s) (hL : L ≤ 2562) {qo o0 oM n9 i : Nat} {fo : Nat → Int64} {wx wm : va_W} {H : Heap} {locs : List Loc} {ls : Array Slot} {cells slots : Nat} (hV : zV cI cJ cZ o0 oM n9 wx wm) (hc : n9 ≤ 600) (hcl : cells ≤ 1000) (hsl : slots ≤ 10000) (hi : i + 5 ≤ L) (hl : lv_has ls 8 [(4, .int (nI i)), (3, .ref qo), (2, .ref oM), (1, .ref o0), (0, .ref b)]) (hP : va_P D vwCl ((qo, .inl (cJ, 1, .inr (.inl fo))) :: (wx ++ (wm ++ []))) H) (hD : va_D A ((qo, .inl (cJ, 1, .inr (.inl fo))) :: (wx ++ (wm ++ [])))) (hS : va_S A s.heap H locs)
    (kk : ∀ (fo2 : Nat → Int64) (wx2 wm2 : va_W) (H2 : Heap) (locs2 : List Loc) (ls2 : Array Slot), zV cI cJ cZ o0 oM (n9 + 1) wx2 wm2 → lv_has ls2 8 [(4, .int (nI i)), (3, .ref qo), (2, .ref oM), (1, .ref o0), (0, .ref b)] → va_P D vwCl ((qo, .inl (cJ, 1, .inr (.inl fo2))) :: (wx2 ++ (wm2 ++ []))) H2 → va_D A ((qo, .inl (cJ, 1, .inr (.inl fo2))) :: (wx2 ++ (wm2 ++ []))) → va_S A s.heap H2 locs2 → W p l e room_1 s m #[Value.ref b] below meth c H2 locs2 (cells + 1) (slots + 6) Q (F0 m 717 ls2 [])) : W p l e room_1 s m #[Value.ref b] below meth c H locs cells slots Q (F0 m 605 ls []) := by
  refine lv_aload_n hx hb dL_law_605 rfl (lv_at hl 3 rfl) ?_
  refine lv_aload_n hx hb dL_law_606 rfl (lv_at hl 4 rfl) ?_
  refine lv_iload hx hb dL_law_607 (lv_at hl 0 rfl) ?_
  refine lv_iconst (v := 1) hx hb dL_law_609 (by decide) ?_
  refine lv_iadd hx hb dL_law_610 ?_
  refine va_sld hx hb hX hbl hbA hS (z_in (k := 1) (by omega) hL) dL_law_611 ?_
  refine lv_aload_n hx hb dL_law_612 rfl (lv_at hl 1 rfl) ?_
  obtain ⟨k9, b9, fo9, wx9, wm9, m1, m2, m3, m4, hV9⟩ := o_changes l D cI cJ cZ htr qo o0 oM n9 fo wx wm hV hc (xs (((nI i) + 1).toNatClampNeg))
  obtain ⟨fs9, ms9, hx9, hm9⟩ := zV_x hV
  obtain ⟨ft9, mt9, hx8, hm8⟩ := zV_x hV9
  refine pl_callSW (rest := []) (a9 := []) (wc := ((qo, .inl (cJ, 1, .inr (.inl fo))) :: wx)) (w1 := ((qo, .inl (cJ, 1, .inr (.inl fo9))) :: wx9)) (b9 := wm ++ []) (st1 := [.int k9]) (c2 := cells + 1) (s2 := slots + 6) ⟨hx, hb, hml, hown, hts⟩ m1 (vx_cwSW 3 hts (pj_gSW m_391 m_392 m_18 m_393) rfl rfl rfl (by decide +kernel) ⟨Nat.le_of_ble_eq_true rfl, Nat.le_of_ble_eq_true rfl⟩) pw_G_ok hG hK hP hD hS hA rfl hl.1 rfl (Nat.le_of_ble_eq_true rfl) dL_law_613 ⟨show cells + 1 ≤ 635801 by omega, show slots + 6 ≤ 7188668 by omega⟩ rfl rfl rfl (fun H locs hP hD hS => ?_)
  have hP : va_P D vwCl ((qo, .inl (cJ, 1, .inr (.inl fo9))) :: (wx9 ++ (wm ++ []))) H := hP
  have hD : va_D A ((qo, .inl (cJ, 1, .inr (.inl fo9))) :: (wx9 ++ (wm ++ []))) := hD
  refine lv_istore (lv' := [(5, .int k9), (4, .int (nI i)), (3, .ref qo), (2, .ref oM), (1, .ref o0), (0, .ref b)]) hx hb dL_law_616 hl (by decide) rfl (fun ls hl => ?_)
  refine lv_aload_n hx hb dL_law_618 rfl (lv_at hl 3 rfl) ?_
  refine lv_aload_n hx hb dL_law_619 rfl (lv_at hl 5 rfl) ?_
  refine lv_iload hx hb dL_law_620 (lv_at hl 1 rfl) ?_
  refine lv_iconst (v := 1) hx hb dL_law_622 (by decide) ?_
  refine lv_iadd hx hb dL_law_623 ?_
  refine va_sld hx hb hX hbl hbA hS (z_in (k := 1) (by omega) hL) dL_law_624 ?_
  refine pl_callV (rest := []) (a9 := ((qo, .inl (cJ, 1, .inr (.inl fo9))) :: wx9)) (wc := wm) (w1 := wm9) (b9 := []) (st1 := [.int b9]) (c2 := cells + 1) (s2 := slots + 6) ⟨hx, hb, hml, hown, hts⟩ m2 (cwV 1 hts (pj_gV m_550 m_551 m_552 m_24 m_553) rfl rfl rfl (by decide +kernel) ⟨Nat.le_of_ble_eq_true rfl, Nat.le_of_ble_eq_true rfl⟩) pj_no_ok trivial hK hP hD hS hA (ci := 4) (q0 := 0) rfl hm9 rfl hl.1 rfl (Nat.le_of_ble_eq_true rfl) dL_law_625 ⟨show cells + 1 ≤ 635801 by omega, show slots + 6 ≤ 7188668 by omega⟩ rfl rfl rfl (fun H locs hP hD hS => ?_)
  have hP : va_P D vwCl ((qo, .inl (cJ, 1, .inr (.inl fo9))) :: (wx9 ++ (wm9 ++ []))) H := hP
  have hD : va_D A ((qo, .inl (cJ, 1, .inr (.inl fo9))) :: (wx9 ++ (wm9 ++ []))) := hD
  refine lv_istore (lv' := [(6, .int b9), (5, .int k9), (4, .int (nI i)), (3, .ref qo), (2, .ref oM), (1, .ref o0), (0, .ref b)]) hx hb dL_law_628 hl (by decide) rfl (fun ls hl => ?_)
  refine lv_aload_n hx hb dL_law_630 rfl (lv_at hl 4 rfl) ?_
  refine pl_callVp (rest := []) (a9 := ((qo, .inl (cJ, 1, .inr (.inl fo9))) :: wx9)) (wc := wm9) (b9 := []) (st1 := [.int k9]) ⟨hx, hb, hml, hown, hts⟩ m3 (cwV 0 hts (pj_gV m_476 m_477 m_478 m_24 m_479) rfl rfl rfl (by decide +kernel) ⟨Nat.le_of_ble_eq_true rfl, Nat.le_of_ble_eq_true rfl⟩) pj_no_ok trivial hK hP hD hS hA (ci := 4) (q0 := 0) rfl hm8 rfl hl.1 rfl (Nat.le_of_ble_eq_true rfl) dL_law_631 ⟨show cells + 1 ≤ 635801 by omega, show slots + 6 ≤ 7188668 by omega⟩ rfl ?_
  refine lv_iload hx hb dL_law_634 (lv_at hl 1 rfl) ?_
  refine lv_icmp_eq (tgt := 641) hx hb dL_law_636 (by decide) (fun _ => ?_) (fun h9 => (h9 rfl).elim)
  refine lv_iload hx hb dL_law_641 (lv_at hl 1 rfl) ?_
  refine lv_if_ne (tgt := 658) hx hb dL_law_643 (by decide) (fun d0 => ?_) (fun d0 => ?_)
  · refine lv_goto (tgt := 717) hx hb dL_law_658 (by decide) ?_
    refine W.widen (k := cells + 1) (n := slots + 6) (by omega) (by omega) ?_
    exact kk fo9 wx9 wm9 _ _ _ hV9 (lv_sub hl [2, 3, 4, 5, 6] rfl) hP hD hS
  · refine lv_aload_n hx hb dL_law_646 rfl (lv_at hl 3 rfl) ?_
    refine lv_iconst (v := 0) hx hb dL_law_647 (by decide) ?_
    refine va_lald hx hb hK hP 0 1 rfl rfl (show vp_in 0 1 from by unfold vp_in; decide) dL_law_648 ?_
    refine lv_topl (fun y9 e9 => ?_)
    have e9 : y9 = b9.toInt64 := e9.trans ((congrArg fo9 z_tc).trans (m4 d0))
    subst e9
    refine lv_iload hx hb dL_law_649 (lv_at hl 0 rfl) ?_
    refine lv_i2l hx hb dL_law_651 rfl ?_
    refine W.lcmp hx hb dL_law_652 ?_
    refine lv_if_eq (tgt := 658) hx hb dL_law_653 (by decide) (fun _ => ?_) (fun h9 => (h9 (z_cmp _)).elim)
    refine lv_goto (tgt := 717) hx hb dL_law_658 (by decide) ?_
    refine W.widen (k := cells + 1) (n := slots + 6) (by omega) (by omega) ?_
    exact kk fo9 wx9 wm9 _ _ _ hV9 (lv_sub hl [2, 3, 4, 5, 6] rfl) hP hD hS
set_option maxHeartbeats 4000000 in
set_option maxRecDepth 100000 in
theorem lb_count {p : Program} {l : Launch} {e : Env} {s : State} {m : MethodId} {below : List Frame} {meth : Method} {c : Code} {b L : Nat} {xs : Nat → Int32} {Q : State → Prop} {A : Nat → Prop} {D : va_G} {cI cJ cZ : ClassId} (htr : l.stackTraces = false) (hx : p.tables.exec = Jvm.exec) (hb : c.code = code) (hml : c.maxLocals = 8) (hown : s.vm.findClass "ReplayJournalLaw" = some m.cls) (hts : ∀ w ∈ Cond.initialized "ReplayJournalLaw" :: pjW0, w.before #[Value.ref b] s = true) (hX : va_X b L xs s s.heap) (hbl : b < s.heap.size) (hbA : ¬ A b) (hA : ∀ q, s.heap.size ≤ q → A q) (hK : va_K D vwCl (pjT cI cJ cZ) s) (hG : pw_G A s) (hL : L ≤ 2562) {qo o0 oM n9 i : Nat} {fo : Nat → Int64} {wx wm : va_W} {H : Heap} {locs : List Loc} {ls : Array Slot} {cells slots : Nat} (hV : zV cI cJ cZ o0 oM n9 wx wm) (hc : n9 ≤ 600) (hcl : cells ≤ 1000) (hsl : slots ≤ 10000) (hi : i + 5 ≤ L) (hl : lv_has ls 8 [(4, .int (nI i)), (3, .ref qo), (2, .ref oM), (1, .ref o0), (0, .ref b)]) (hP : va_P D vwCl ((qo, .inl (cJ, 1, .inr (.inl fo))) :: (wx ++ (wm ++ []))) H) (hD : va_D A ((qo, .inl (cJ, 1, .inr (.inl fo))) :: (wx ++ (wm ++ [])))) (hS : va_S A s.heap H locs)
    (kk : ∀ (fo2 : Nat → Int64) (wx2 wm2 : va_W) (H2 : Heap) (locs2 : List Loc) (ls2 : Array Slot), zV cI cJ cZ o0 oM (n9 + 1) wx2 wm2 → lv_has ls2 8 [(4, .int (nI i)), (3, .ref qo), (2, .ref oM), (1, .ref o0), (0, .ref b)] → va_P D vwCl ((qo, .inl (cJ, 1, .inr (.inl fo2))) :: (wx2 ++ (wm2 ++ []))) H2 → va_D A ((qo, .inl (cJ, 1, .inr (.inl fo2))) :: (wx2 ++ (wm2 ++ []))) → va_S A s.heap H2 locs2 → W p l e room_1 s m #[Value.ref b] below meth c H2 locs2 (cells + 1) (slots + 6) Q (F0 m 717 ls2 [])) : W p l e room_1 s m #[Value.ref b] below meth c H locs cells slots Q (F0 m 661 ls []) := by
  refine lv_aload_n hx hb dL_law_661 rfl (lv_at hl 3 rfl) ?_
  refine lv_aload_n hx hb dL_law_662 rfl (lv_at hl 4 rfl) ?_
  refine lv_iload hx hb dL_law_663 (lv_at hl 0 rfl) ?_
  refine lv_iconst (v := 1) hx hb dL_law_665 (by decide) ?_
  refine lv_iadd hx hb dL_law_666 ?_
  refine va_sld hx hb hX hbl hbA hS (z_in (k := 1) (by omega) hL) dL_law_667 ?_
  refine lv_aload_n hx hb dL_law_668 rfl (lv_at hl 1 rfl) ?_
  obtain ⟨k9, b9, fo9, wx9, wm9, m1, m2, m3, m4, hV9⟩ := o_count l D cI cJ cZ htr qo o0 oM n9 fo wx wm hV hc (xs (((nI i) + 1).toNatClampNeg))
  obtain ⟨fs9, ms9, hx9, hm9⟩ := zV_x hV
  obtain ⟨ft9, mt9, hx8, hm8⟩ := zV_x hV9
  refine pl_callSW (rest := []) (a9 := []) (wc := ((qo, .inl (cJ, 1, .inr (.inl fo))) :: wx)) (w1 := ((qo, .inl (cJ, 1, .inr (.inl fo9))) :: wx9)) (b9 := wm ++ []) (st1 := [.int k9]) (c2 := cells + 1) (s2 := slots + 6) ⟨hx, hb, hml, hown, hts⟩ m1 (vx_cwSW 3 hts (pj_gSW m_402 m_403 m_18 m_404) rfl rfl rfl (by decide +kernel) ⟨Nat.le_of_ble_eq_true rfl, Nat.le_of_ble_eq_true rfl⟩) pw_G_ok hG hK hP hD hS hA rfl hl.1 rfl (Nat.le_of_ble_eq_true rfl) dL_law_669 ⟨show cells + 1 ≤ 635801 by omega, show slots + 6 ≤ 7188668 by omega⟩ rfl rfl rfl (fun H locs hP hD hS => ?_)
  have hP : va_P D vwCl ((qo, .inl (cJ, 1, .inr (.inl fo9))) :: (wx9 ++ (wm ++ []))) H := hP
  have hD : va_D A ((qo, .inl (cJ, 1, .inr (.inl fo9))) :: (wx9 ++ (wm ++ []))) := hD
  refine lv_istore (lv' := [(5, .int k9), (4, .int (nI i)), (3, .ref qo), (2, .ref oM), (1, .ref o0), (0, .ref b)]) hx hb dL_law_672 hl (by decide) rfl (fun ls hl => ?_)
  refine lv_aload_n hx hb dL_law_674 rfl (lv_at hl 3 rfl) ?_
  refine lv_aload_n hx hb dL_law_675 rfl (lv_at hl 5 rfl) ?_
  refine lv_iload hx hb dL_law_676 (lv_at hl 1 rfl) ?_
  refine lv_iconst (v := 1) hx hb dL_law_678 (by decide) ?_
  refine lv_iadd hx hb dL_law_679 ?_
  refine va_sld hx hb hX hbl hbA hS (z_in (k := 1) (by omega) hL) dL_law_680 ?_
  refine pl_callV (rest := []) (a9 := ((qo, .inl (cJ, 1, .inr (.inl fo9))) :: wx9)) (wc := wm) (w1 := wm9) (b9 := []) (st1 := [.int b9]) (c2 := cells + 1) (s2 := slots + 6) ⟨hx, hb, hml, hown, hts⟩ m2 (cwV 1 hts (pj_gV m_554 m_555 m_556 m_24 m_557) rfl rfl rfl (by decide +kernel) ⟨Nat.le_of_ble_eq_true rfl, Nat.le_of_ble_eq_true rfl⟩) pj_no_ok trivial hK hP hD hS hA (ci := 4) (q0 := 0) rfl hm9 rfl hl.1 rfl (Nat.le_of_ble_eq_true rfl) dL_law_681 ⟨show cells + 1 ≤ 635801 by omega, show slots + 6 ≤ 7188668 by omega⟩ rfl rfl rfl (fun H locs hP hD hS => ?_)
  have hP : va_P D vwCl ((qo, .inl (cJ, 1, .inr (.inl fo9))) :: (wx9 ++ (wm9 ++ []))) H := hP
  have hD : va_D A ((qo, .inl (cJ, 1, .inr (.inl fo9))) :: (wx9 ++ (wm9 ++ []))) := hD
  refine lv_istore (lv' := [(6, .int b9), (5, .int k9), (4, .int (nI i)), (3, .ref qo), (2, .ref oM), (1, .ref o0), (0, .ref b)]) hx hb dL_law_684 hl (by decide) rfl (fun ls hl => ?_)
  refine lv_aload_n hx hb dL_law_686 rfl (lv_at hl 4 rfl) ?_
  refine pl_callVp (rest := []) (a9 := ((qo, .inl (cJ, 1, .inr (.inl fo9))) :: wx9)) (wc := wm9) (b9 := []) (st1 := [.int k9]) ⟨hx, hb, hml, hown, hts⟩ m3 (cwV 0 hts (pj_gV m_476 m_477 m_478 m_24 m_479) rfl rfl rfl (by decide +kernel) ⟨Nat.le_of_ble_eq_true rfl, Nat.le_of_ble_eq_true rfl⟩) pj_no_ok trivial hK hP hD hS hA (ci := 4) (q0 := 0) rfl hm8 rfl hl.1 rfl (Nat.le_of_ble_eq_true rfl) dL_law_687 ⟨show cells + 1 ≤ 635801 by omega, show slots + 6 ≤ 7188668 by omega⟩ rfl ?_
  refine lv_iload hx hb dL_law_690 (lv_at hl 1 rfl) ?_
  refine lv_icmp_eq (tgt := 697) hx hb dL_law_692 (by decide) (fun _ => ?_) (fun h9 => (h9 rfl).elim)
  refine lv_iload hx hb dL_law_697 (lv_at hl 1 rfl) ?_
  refine lv_if_ne (tgt := 714) hx hb dL_law_699 (by decide) (fun d0 => ?_) (fun d0 => ?_)
  · refine lv_goto (tgt := 717) hx hb dL_law_714 (by decide) ?_
    refine W.widen (k := cells + 1) (n := slots + 6) (by omega) (by omega) ?_
    exact kk fo9 wx9 wm9 _ _ _ hV9 (lv_sub hl [2, 3, 4, 5, 6] rfl) hP hD hS
  · refine lv_aload_n hx hb dL_law_702 rfl (lv_at hl 3 rfl) ?_
    refine lv_iconst (v := 0) hx hb dL_law_703 (by decide) ?_
    refine va_lald hx hb hK hP 0 1 rfl rfl (show vp_in 0 1 from by unfold vp_in; decide) dL_law_704 ?_
    refine lv_topl (fun y9 e9 => ?_)
    have e9 : y9 = b9.toInt64 := e9.trans ((congrArg fo9 z_tc).trans (m4 d0))
    subst e9
    refine lv_iload hx hb dL_law_705 (lv_at hl 0 rfl) ?_
    refine lv_i2l hx hb dL_law_707 rfl ?_
    refine W.lcmp hx hb dL_law_708 ?_
    refine lv_if_eq (tgt := 714) hx hb dL_law_709 (by decide) (fun _ => ?_) (fun h9 => (h9 (z_cmp _)).elim)
    refine lv_goto (tgt := 717) hx hb dL_law_714 (by decide) ?_
    refine W.widen (k := cells + 1) (n := slots + 6) (by omega) (by omega) ?_
    exact kk fo9 wx9 wm9 _ _ _ hV9 (lv_sub hl [2, 3, 4, 5, 6] rfl) hP hD hS
