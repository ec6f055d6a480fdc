set_option maxHeartbeats 4000000 in
set_option maxRecDepth 100000 in
theorem lb_add {p : Program} {l : Launch} {e : Env} {s : State} {m : MethodId} {below : List Frame} {meth : Method} {c : Code} {b L : Nat} {xs : Nat → Int32} {Q : State → Prop} {A : Nat → Prop} {D : va_G} {cI cJ cZ : ClassId} (htr : l.stackTraces = false) (hx : p.tables.exec = Jvm.exec) (hb : c.code = code) (hml : c.maxLocals = 8) (hown : s.vm.findClass "ReplayJournalLaw" = some m.cls) (hts : ∀ w ∈ Cond.initialized "ReplayJournalLaw" :: pjW0, w.before #[Value.ref b] s = true) (hX : va_X b L xs s s.heap) (hbl : b < s.heap.size) (hbA : ¬ A b) (hA : ∀ q, s.heap.size ≤ q → A q) (hK : va_K D vwCl (pjT cI cJ cZ) s) (hG : pw_G A s) (hL : L ≤ 2562) {qo o0 oM n9 i : Nat} {fo : Nat → Int64} {wx wm : va_W} {H : Heap} {locs : List Loc} {ls : Array Slot} {cells slots : Nat} (hV : zV cI cJ cZ o0 oM n9 wx wm) (hc : n9 ≤ 600) (hcl : cells ≤ 1000) (hsl : slots ≤ 10000) (hi : i + 5 ≤ L) (hl : lv_has ls 8 [(4, .int (nI i)), (3, .ref qo), (2, .ref oM), (1, .ref o0), (0, .ref b)]) (hP : va_P D vwCl ((qo, .inl (cJ, 1, .inr (.inl fo))) :: (wx ++ (wm ++ []))) H) (hD : va_D A ((qo, .inl (cJ, 1, .inr (.inl fo))) :: (wx ++ (wm ++ [])))) (hS : va_S A s.heap H locs)
    (kk : ∀ (fo2 : Nat → Int64) (wx2 wm2 : va_W) (H2 : Heap) (locs2 : List Loc) (ls2 : Array Slot), zV cI cJ cZ o0 oM (n9 + 1) wx2 wm2 → lv_has ls2 8 [(4, .int (nI i)), (3, .ref qo), (2, .ref oM), (1, .ref o0), (0, .ref b)] → va_P D vwCl ((qo, .inl (cJ, 1, .inr (.inl fo2))) :: (wx2 ++ (wm2 ++ []))) H2 → va_D A ((qo, .inl (cJ, 1, .inr (.inl fo2))) :: (wx2 ++ (wm2 ++ []))) → va_S A s.heap H2 locs2 → W p l e room_1 s m #[Value.ref b] below meth c H2 locs2 (cells + 1) (slots + 6) Q (F0 m 717 ls2 [])) : W p l e room_1 s m #[Value.ref b] below meth c H locs cells slots Q (F0 m 120 ls []) := by
  refine lv_aload_n hx hb dL_law_120 rfl (lv_at hl 3 rfl) ?_
  refine lv_aload_n hx hb dL_law_121 rfl (lv_at hl 4 rfl) ?_
  refine lv_iload hx hb dL_law_122 (lv_at hl 0 rfl) ?_
  refine lv_iconst (v := 1) hx hb dL_law_124 (by decide) ?_
  refine lv_iadd hx hb dL_law_125 ?_
  refine va_sld hx hb hX hbl hbA hS (z_in (k := 1) (by omega) hL) dL_law_126 ?_
  refine lv_aload_n hx hb dL_law_127 rfl (lv_at hl 4 rfl) ?_
  refine lv_iload hx hb dL_law_128 (lv_at hl 0 rfl) ?_
  refine lv_iconst (v := 2) hx hb dL_law_130 (by decide) ?_
  refine lv_iadd hx hb dL_law_131 ?_
  refine va_sld hx hb hX hbl hbA hS (z_in (k := 2) (by omega) hL) dL_law_132 ?_
  refine lv_i2l hx hb dL_law_133 rfl ?_
  refine lv_bipush (v := 32) hx hb dL_law_134 (by decide) ?_
  refine lv_lshl hx hb dL_law_136 rfl ?_
  refine lv_aload_n hx hb dL_law_137 rfl (lv_at hl 4 rfl) ?_
  refine lv_iload hx hb dL_law_138 (lv_at hl 0 rfl) ?_
  refine lv_iconst (v := 3) hx hb dL_law_140 (by decide) ?_
  refine lv_iadd hx hb dL_law_141 ?_
  refine va_sld hx hb hX hbl hbA hS (z_in (k := 3) (by omega) hL) dL_law_142 ?_
  refine lv_i2l hx hb dL_law_143 rfl ?_
  refine lv_ldc2 (v := 4294967295) hx hb hown (hts _ (pj_up m_558)) dL_law_144 ?_
  refine lv_land hx hb dL_law_147 ?_
  refine lv_lor hx hb dL_law_148 ?_
  refine lv_aload_n hx hb dL_law_149 rfl (lv_at hl 1 rfl) ?_
  obtain ⟨k9, b9, fo9, wx9, wm9, m1, m2, m3, m4, hV9⟩ := o_add l D cI cJ cZ htr qo o0 oM n9 fo wx wm hV hc (xs (((nI i) + 1).toNatClampNeg)) ((((xs (((nI i) + 2).toNatClampNeg)).toInt64) <<< ((32 : Int32).toInt64 &&& 63)) ||| (((xs (((nI i) + 3).toNatClampNeg)).toInt64) &&& 4294967295))
  obtain ⟨fs9, ms9, hx9, hm9⟩ := zV_x hV
  obtain ⟨ft9, mt9, hx8, hm8⟩ := zV_x hV9
  refine pl_callSW (rest := []) (a9 := []) (wc := ((qo, .inl (cJ, 1, .inr (.inl fo))) :: wx)) (w1 := ((qo, .inl (cJ, 1, .inr (.inl fo9))) :: wx9)) (b9 := wm ++ []) (st1 := [.int k9]) (c2 := cells + 1) (s2 := slots + 6) ⟨hx, hb, hml, hown, hts⟩ m1 (vx_cwSW 4 hts (pj_gSW m_157 m_158 m_18 m_159) rfl rfl rfl (by decide +kernel) ⟨Nat.le_of_ble_eq_true rfl, Nat.le_of_ble_eq_true rfl⟩) pw_G_ok hG hK hP hD hS hA rfl hl.1 rfl (Nat.le_of_ble_eq_true rfl) dL_law_150 ⟨show cells + 1 ≤ 635801 by omega, show slots + 6 ≤ 7188668 by omega⟩ rfl rfl rfl (fun H locs hP hD hS => ?_)
  have hP : va_P D vwCl ((qo, .inl (cJ, 1, .inr (.inl fo9))) :: (wx9 ++ (wm ++ []))) H := hP
  have hD : va_D A ((qo, .inl (cJ, 1, .inr (.inl fo9))) :: (wx9 ++ (wm ++ []))) := hD
  refine lv_istore (lv' := [(5, .int k9), (4, .int (nI i)), (3, .ref qo), (2, .ref oM), (1, .ref o0), (0, .ref b)]) hx hb dL_law_153 hl (by decide) rfl (fun ls hl => ?_)
  refine lv_aload_n hx hb dL_law_155 rfl (lv_at hl 3 rfl) ?_
  refine lv_aload_n hx hb dL_law_156 rfl (lv_at hl 5 rfl) ?_
  refine lv_iload hx hb dL_law_157 (lv_at hl 1 rfl) ?_
  refine lv_iconst (v := 1) hx hb dL_law_159 (by decide) ?_
  refine lv_iadd hx hb dL_law_160 ?_
  refine va_sld hx hb hX hbl hbA hS (z_in (k := 1) (by omega) hL) dL_law_161 ?_
  refine lv_aload_n hx hb dL_law_162 rfl (lv_at hl 5 rfl) ?_
  refine lv_iload hx hb dL_law_163 (lv_at hl 1 rfl) ?_
  refine lv_iconst (v := 2) hx hb dL_law_165 (by decide) ?_
  refine lv_iadd hx hb dL_law_166 ?_
  refine va_sld hx hb hX hbl hbA hS (z_in (k := 2) (by omega) hL) dL_law_167 ?_
  refine lv_i2l hx hb dL_law_168 rfl ?_
  refine lv_bipush (v := 32) hx hb dL_law_169 (by decide) ?_
  refine lv_lshl hx hb dL_law_171 rfl ?_
  refine lv_aload_n hx hb dL_law_172 rfl (lv_at hl 5 rfl) ?_
  refine lv_iload hx hb dL_law_173 (lv_at hl 1 rfl) ?_
  refine lv_iconst (v := 3) hx hb dL_law_175 (by decide) ?_
  refine lv_iadd hx hb dL_law_176 ?_
  refine va_sld hx hb hX hbl hbA hS (z_in (k := 3) (by omega) hL) dL_law_177 ?_
  refine lv_i2l hx hb dL_law_178 rfl ?_
  refine lv_ldc2 (v := 4294967295) hx hb hown (hts _ (pj_up m_558)) dL_law_179 ?_
  refine lv_land hx hb dL_law_182 ?_
  refine lv_lor hx hb dL_law_183 ?_
  refine pl_callV (rest := []) (a9 := ((qo, .inl (cJ, 1, .inr (.inl fo9))) :: wx9)) (wc := wm) (w1 := wm9) (b9 := []) (st1 := [.int b9]) (c2 := cells + 1) (s2 := slots + 6) ⟨hx, hb, hml, hown, hts⟩ m2 (cwV 2 hts (pj_gV m_480 m_481 m_482 m_24 m_483) rfl rfl rfl (by decide +kernel) ⟨Nat.le_of_ble_eq_true rfl, Nat.le_of_ble_eq_true rfl⟩) pj_no_ok trivial hK hP hD hS hA (ci := 4) (q0 := 0) rfl hm9 rfl hl.1 rfl (Nat.le_of_ble_eq_true rfl) dL_law_184 ⟨show cells + 1 ≤ 635801 by omega, show slots + 6 ≤ 7188668 by omega⟩ rfl rfl rfl (fun H locs hP hD hS => ?_)
  have hP : va_P D vwCl ((qo, .inl (cJ, 1, .inr (.inl fo9))) :: (wx9 ++ (wm9 ++ []))) H := hP
  have hD : va_D A ((qo, .inl (cJ, 1, .inr (.inl fo9))) :: (wx9 ++ (wm9 ++ []))) := hD
  refine lv_istore (lv' := [(6, .int b9), (5, .int k9), (4, .int (nI i)), (3, .ref qo), (2, .ref oM), (1, .ref o0), (0, .ref b)]) hx hb dL_law_187 hl (by decide) rfl (fun ls hl => ?_)
  refine lv_aload_n hx hb dL_law_189 rfl (lv_at hl 4 rfl) ?_
  refine pl_callVp (rest := []) (a9 := ((qo, .inl (cJ, 1, .inr (.inl fo9))) :: wx9)) (wc := wm9) (b9 := []) (st1 := [.int k9]) ⟨hx, hb, hml, hown, hts⟩ m3 (cwV 0 hts (pj_gV m_476 m_477 m_478 m_24 m_479) rfl rfl rfl (by decide +kernel) ⟨Nat.le_of_ble_eq_true rfl, Nat.le_of_ble_eq_true rfl⟩) pj_no_ok trivial hK hP hD hS hA (ci := 4) (q0 := 0) rfl hm8 rfl hl.1 rfl (Nat.le_of_ble_eq_true rfl) dL_law_190 ⟨show cells + 1 ≤ 635801 by omega, show slots + 6 ≤ 7188668 by omega⟩ rfl ?_
  refine lv_iload hx hb dL_law_193 (lv_at hl 1 rfl) ?_
  refine lv_icmp_eq (tgt := 200) hx hb dL_law_195 (by decide) (fun _ => ?_) (fun h9 => (h9 rfl).elim)
  refine lv_iload hx hb dL_law_200 (lv_at hl 1 rfl) ?_
  refine lv_if_ne (tgt := 217) hx hb dL_law_202 (by decide) (fun d0 => ?_) (fun d0 => ?_)
  · refine lv_goto (tgt := 717) hx hb dL_law_217 (by decide) ?_
    refine W.widen (k := cells + 1) (n := slots + 6) (by omega) (by omega) ?_
    exact kk fo9 wx9 wm9 _ _ _ hV9 (lv_sub hl [2, 3, 4, 5, 6] rfl) hP hD hS
  · refine lv_aload_n hx hb dL_law_205 rfl (lv_at hl 3 rfl) ?_
    refine lv_iconst (v := 0) hx hb dL_law_206 (by decide) ?_
    refine va_lald hx hb hK hP 0 1 rfl rfl (show vp_in 0 1 from by unfold vp_in; decide) dL_law_207 ?_
    refine lv_topl (fun y9 e9 => ?_)
    have e9 : y9 = b9.toInt64 := e9.trans ((congrArg fo9 z_tc).trans (m4 d0))
    subst e9
    refine lv_iload hx hb dL_law_208 (lv_at hl 0 rfl) ?_
    refine lv_i2l hx hb dL_law_210 rfl ?_
    refine W.lcmp hx hb dL_law_211 ?_
    refine lv_if_eq (tgt := 217) hx hb dL_law_212 (by decide) (fun _ => ?_) (fun h9 => (h9 (z_cmp _)).elim)
    refine lv_goto (tgt := 717) hx hb dL_law_217 (by decide) ?_
    refine W.widen (k := cells + 1) (n := slots + 6) (by omega) (by omega) ?_
    exact kk fo9 wx9 wm9 _ _ _ hV9 (lv_sub hl [2, 3, 4, 5, 6] rfl) hP hD hS
set_option maxHeartbeats 4000000 in
set_option maxRecDepth 100000 in
theorem lb_move {p : Program} {l : Launch} {e : Env} {s : State} {m : MethodId} {below : List Frame} {meth : Method} {c : Code} {b L : Nat} {xs : Nat → Int32} {Q : State → Prop} {A : Nat → Prop} {D : va_G} {cI cJ cZ : ClassId} (htr : l.stackTraces = false) (hx : p.tables.exec = Jvm.exec) (hb : c.code = code) (hml : c.maxLocals = 8) (hown : s.vm.findClass "ReplayJournalLaw" = some m.cls) (hts : ∀ w ∈ Cond.initialized "ReplayJournalLaw" :: pjW0, w.before #[Value.ref b] s = true) (hX : va_X b L xs s s.heap) (hbl : b < s.heap.size) (hbA : ¬ A b) (hA : ∀ q, s.heap.size ≤ q → A q) (hK : va_K D vwCl (pjT cI cJ cZ) s) (hG : pw_G A s) (hL : L ≤ 2562) {qo o0 oM n9 i : Nat} {fo : Nat → Int64} {wx wm : va_W} {H : Heap} {locs : List Loc} {ls : Array Slot} {cells slots : Nat} (hV : zV cI cJ cZ o0 oM n9 wx wm) (hc : n9 ≤ 600) (hcl : cells ≤ 1000) (hsl : slots ≤ 10000) (hi : i + 5 ≤ L) (hl : lv_has ls 8 [(4, .int (nI i)), (3, .ref qo), (2, .ref oM), (1, .ref o0), (0, .ref b)]) (hP : va_P D vwCl ((qo, .inl (cJ, 1, .inr (.inl fo))) :: (wx ++ (wm ++ []))) H) (hD : va_D A ((qo, .inl (cJ, 1, .inr (.inl fo))) :: (wx ++ (wm ++ [])))) (hS : va_S A s.heap H locs)
    (kk : ∀ (fo2 : Nat → Int64) (wx2 wm2 : va_W) (H2 : Heap) (locs2 : List Loc) (ls2 : Array Slot), zV cI cJ cZ o0 oM (n9 + 1) wx2 wm2 → lv_has ls2 8 [(4, .int (nI i)), (3, .ref qo), (2, .ref oM), (1, .ref o0), (0, .ref b)] → va_P D vwCl ((qo, .inl (cJ, 1, .inr (.inl fo2))) :: (wx2 ++ (wm2 ++ []))) H2 → va_D A ((qo, .inl (cJ, 1, .inr (.inl fo2))) :: (wx2 ++ (wm2 ++ []))) → va_S A s.heap H2 locs2 → W p l e room_1 s m #[Value.ref b] below meth c H2 locs2 (cells + 1) (slots + 6) Q (F0 m 717 ls2 [])) : W p l e room_1 s m #[Value.ref b] below meth c H locs cells slots Q (F0 m 220 ls []) := by
  refine lv_aload_n hx hb dL_law_220 rfl (lv_at hl 3 rfl) ?_
  refine lv_aload_n hx hb dL_law_221 rfl (lv_at hl 4 rfl) ?_
  refine lv_iload hx hb dL_law_222 (lv_at hl 0 rfl) ?_
  refine lv_iconst (v := 1) hx hb dL_law_224 (by decide) ?_
  refine lv_iadd hx hb dL_law_225 ?_
  refine va_sld hx hb hX hbl hbA hS (z_in (k := 1) (by omega) hL) dL_law_226 ?_
  refine lv_aload_n hx hb dL_law_227 rfl (lv_at hl 4 rfl) ?_
  refine lv_iload hx hb dL_law_228 (lv_at hl 0 rfl) ?_
  refine lv_iconst (v := 2) hx hb dL_law_230 (by decide) ?_
  refine lv_iadd hx hb dL_law_231 ?_
  refine va_sld hx hb hX hbl hbA hS (z_in (k := 2) (by omega) hL) dL_law_232 ?_
  refine lv_aload_n hx hb dL_law_233 rfl (lv_at hl 4 rfl) ?_
  refine lv_iload hx hb dL_law_234 (lv_at hl 0 rfl) ?_
  refine lv_iconst (v := 3) hx hb dL_law_236 (by decide) ?_
  refine lv_iadd hx hb dL_law_237 ?_
  refine va_sld hx hb hX hbl hbA hS (z_in (k := 3) (by omega) hL) dL_law_238 ?_
  refine lv_i2l hx hb dL_law_239 rfl ?_
  refine lv_bipush (v := 32) hx hb dL_law_240 (by decide) ?_
  refine lv_lshl hx hb dL_law_242 rfl ?_
  refine lv_aload_n hx hb dL_law_243 rfl (lv_at hl 4 rfl) ?_
  refine lv_iload hx hb dL_law_244 (lv_at hl 0 rfl) ?_
  refine lv_iconst (v := 4) hx hb dL_law_246 (by decide) ?_
  refine lv_iadd hx hb dL_law_247 ?_
  refine va_sld hx hb hX hbl hbA hS (z_in (k := 4) (by omega) hL) dL_law_248 ?_
  refine lv_i2l hx hb dL_law_249 rfl ?_
  refine lv_ldc2 (v := 4294967295) hx hb hown (hts _ (pj_up m_558)) dL_law_250 ?_
  refine lv_land hx hb dL_law_253 ?_
  refine lv_lor hx hb dL_law_254 ?_
  refine lv_aload_n hx hb dL_law_255 rfl (lv_at hl 1 rfl) ?_
  obtain ⟨k9, b9, fo9, wx9, wm9, m1, m2, m3, m4, hV9⟩ := o_move l D cI cJ cZ htr qo o0 oM n9 fo wx wm hV hc (xs (((nI i) + 1).toNatClampNeg)) (xs (((nI i) + 2).toNatClampNeg)) ((((xs (((nI i) + 3).toNatClampNeg)).toInt64) <<< ((32 : Int32).toInt64 &&& 63)) ||| (((xs (((nI i) + 4).toNatClampNeg)).toInt64) &&& 4294967295))
  obtain ⟨fs9, ms9, hx9, hm9⟩ := zV_x hV
  obtain ⟨ft9, mt9, hx8, hm8⟩ := zV_x hV9
  refine pl_callSW (rest := []) (a9 := []) (wc := ((qo, .inl (cJ, 1, .inr (.inl fo))) :: wx)) (w1 := ((qo, .inl (cJ, 1, .inr (.inl fo9))) :: wx9)) (b9 := wm ++ []) (st1 := [.int k9]) (c2 := cells + 1) (s2 := slots + 6) ⟨hx, hb, hml, hown, hts⟩ m1 (vx_cwSW 5 hts (pj_gSW m_289 m_290 m_18 m_291) rfl rfl rfl (by decide +kernel) ⟨Nat.le_of_ble_eq_true rfl, Nat.le_of_ble_eq_true rfl⟩) pw_G_ok hG hK hP hD hS hA rfl hl.1 rfl (Nat.le_of_ble_eq_true rfl) dL_law_256 ⟨show cells + 1 ≤ 635801 by omega, show slots + 6 ≤ 7188668 by omega⟩ rfl rfl rfl (fun H locs hP hD hS => ?_)
  have hP : va_P D vwCl ((qo, .inl (cJ, 1, .inr (.inl fo9))) :: (wx9 ++ (wm ++ []))) H := hP
  have hD : va_D A ((qo, .inl (cJ, 1, .inr (.inl fo9))) :: (wx9 ++ (wm ++ []))) := hD
  refine lv_istore (lv' := [(5, .int k9), (4, .int (nI i)), (3, .ref qo), (2, .ref oM), (1, .ref o0), (0, .ref b)]) hx hb dL_law_259 hl (by decide) rfl (fun ls hl => ?_)
  refine lv_aload_n hx hb dL_law_261 rfl (lv_at hl 3 rfl) ?_
  refine lv_aload_n hx hb dL_law_262 rfl (lv_at hl 5 rfl) ?_
  refine lv_iload hx hb dL_law_263 (lv_at hl 1 rfl) ?_
  refine lv_iconst (v := 1) hx hb dL_law_265 (by decide) ?_
  refine lv_iadd hx hb dL_law_266 ?_
  refine va_sld hx hb hX hbl hbA hS (z_in (k := 1) (by omega) hL) dL_law_267 ?_
  refine lv_aload_n hx hb dL_law_268 rfl (lv_at hl 5 rfl) ?_
  refine lv_iload hx hb dL_law_269 (lv_at hl 1 rfl) ?_
  refine lv_iconst (v := 2) hx hb dL_law_271 (by decide) ?_
  refine lv_iadd hx hb dL_law_272 ?_
  refine va_sld hx hb hX hbl hbA hS (z_in (k := 2) (by omega) hL) dL_law_273 ?_
  refine lv_aload_n hx hb dL_law_274 rfl (lv_at hl 5 rfl) ?_
  refine lv_iload hx hb dL_law_275 (lv_at hl 1 rfl) ?_
  refine lv_iconst (v := 3) hx hb dL_law_277 (by decide) ?_
  refine lv_iadd hx hb dL_law_278 ?_
  refine va_sld hx hb hX hbl hbA hS (z_in (k := 3) (by omega) hL) dL_law_279 ?_
  refine lv_i2l hx hb dL_law_280 rfl ?_
  refine lv_bipush (v := 32) hx hb dL_law_281 (by decide) ?_
  refine lv_lshl hx hb dL_law_283 rfl ?_
  refine lv_aload_n hx hb dL_law_284 rfl (lv_at hl 5 rfl) ?_
  refine lv_iload hx hb dL_law_285 (lv_at hl 1 rfl) ?_
  refine lv_iconst (v := 4) hx hb dL_law_287 (by decide) ?_
  refine lv_iadd hx hb dL_law_288 ?_
  refine va_sld hx hb hX hbl hbA hS (z_in (k := 4) (by omega) hL) dL_law_289 ?_
  refine lv_i2l hx hb dL_law_290 rfl ?_
  refine lv_ldc2 (v := 4294967295) hx hb hown (hts _ (pj_up m_558)) dL_law_291 ?_
  refine lv_land hx hb dL_law_294 ?_
  refine lv_lor hx hb dL_law_295 ?_
  refine pl_callV (rest := []) (a9 := ((qo, .inl (cJ, 1, .inr (.inl fo9))) :: wx9)) (wc := wm) (w1 := wm9) (b9 := []) (st1 := [.int b9]) (c2 := cells + 1) (s2 := slots + 6) ⟨hx, hb, hml, hown, hts⟩ m2 (cwV 3 hts (pj_gV m_506 m_507 m_508 m_24 m_509) rfl rfl rfl (by decide +kernel) ⟨Nat.le_of_ble_eq_true rfl, Nat.le_of_ble_eq_true rfl⟩) pj_no_ok trivial hK hP hD hS hA (ci := 4) (q0 := 0) rfl hm9 rfl hl.1 rfl (Nat.le_of_ble_eq_true rfl) dL_law_296 ⟨show cells + 1 ≤ 635801 by omega, show slots + 6 ≤ 7188668 by omega⟩ rfl rfl rfl (fun H locs hP hD hS => ?_)
  have hP : va_P D vwCl ((qo, .inl (cJ, 1, .inr (.inl fo9))) :: (wx9 ++ (wm9 ++ []))) H := hP
  have hD : va_D A ((qo, .inl (cJ, 1, .inr (.inl fo9))) :: (wx9 ++ (wm9 ++ []))) := hD
  refine lv_istore (lv' := [(6, .int b9), (5, .int k9), (4, .int (nI i)), (3, .ref qo), (2, .ref oM), (1, .ref o0), (0, .ref b)]) hx hb dL_law_299 hl (by decide) rfl (fun ls hl => ?_)
  refine lv_aload_n hx hb dL_law_301 rfl (lv_at hl 4 rfl) ?_
  refine pl_callVp (rest := []) (a9 := ((qo, .inl (cJ, 1, .inr (.inl fo9))) :: wx9)) (wc := wm9) (b9 := []) (st1 := [.int k9]) ⟨hx, hb, hml, hown, hts⟩ m3 (cwV 0 hts (pj_gV m_476 m_477 m_478 m_24 m_479) rfl rfl rfl (by decide +kernel) ⟨Nat.le_of_ble_eq_true rfl, Nat.le_of_ble_eq_true rfl⟩) pj_no_ok trivial hK hP hD hS hA (ci := 4) (q0 := 0) rfl hm8 rfl hl.1 rfl (Nat.le_of_ble_eq_true rfl) dL_law_302 ⟨show cells + 1 ≤ 635801 by omega, show slots + 6 ≤ 7188668 by omega⟩ rfl ?_
  refine lv_iload hx hb dL_law_305 (lv_at hl 1 rfl) ?_
  refine lv_icmp_eq (tgt := 312) hx hb dL_law_307 (by decide) (fun _ => ?_) (fun h9 => (h9 rfl).elim)
  refine lv_iload hx hb dL_law_312 (lv_at hl 1 rfl) ?_
  refine lv_if_ne (tgt := 329) hx hb dL_law_314 (by decide) (fun d0 => ?_) (fun d0 => ?_)
  · refine lv_goto (tgt := 717) hx hb dL_law_329 (by decide) ?_
    refine W.widen (k := cells + 1) (n := slots + 6) (by omega) (by omega) ?_
    exact kk fo9 wx9 wm9 _ _ _ hV9 (lv_sub hl [2, 3, 4, 5, 6] rfl) hP hD hS
  · refine lv_aload_n hx hb dL_law_317 rfl (lv_at hl 3 rfl) ?_
    refine lv_iconst (v := 0) hx hb dL_law_318 (by decide) ?_
    refine va_lald hx hb hK hP 0 1 rfl rfl (show vp_in 0 1 from by unfold vp_in; decide) dL_law_319 ?_
    refine lv_topl (fun y9 e9 => ?_)
    have e9 : y9 = b9.toInt64 := e9.trans ((congrArg fo9 z_tc).trans (m4 d0))
    subst e9
    refine lv_iload hx hb dL_law_320 (lv_at hl 0 rfl) ?_
    refine lv_i2l hx hb dL_law_322 rfl ?_
    refine W.lcmp hx hb dL_law_323 ?_
    refine lv_if_eq (tgt := 329) hx hb dL_law_324 (by decide) (fun _ => ?_) (fun h9 => (h9 (z_cmp _)).elim)
    refine lv_goto (tgt := 717) hx hb dL_law_329 (by decide) ?_
    refine W.widen (k := cells + 1) (n := slots + 6) (by omega) (by omega) ?_
    exact kk fo9 wx9 wm9 _ _ _ hV9 (lv_sub hl [2, 3, 4, 5, 6] rfl) hP hD hS
set_option maxHeartbeats 4000000 in
set_option maxRecDepth 100000 in
theorem lb_begin {p : Program} {l : Launch} {e : Env} {s : State} {m : MethodId} {below : List Frame} {meth : Method} {c : Code} {b L : Nat} {xs : Nat → Int32} {Q : State → Prop} {A : Nat → Prop} {D : va_G} {cI cJ cZ : ClassId} (htr : l.stackTraces = false) (hx : p.tables.exec = Jvm.exec) (hb : c.code = code) (hml : c.maxLocals = 8) (hown : s.vm.findClass "ReplayJournalLaw" = some m.cls) (hts : ∀ w ∈ Cond.initialized "ReplayJournalLaw" :: pjW0, w.before #[Value.ref b] s = true) (hX : va_X b L xs s s.heap) (hbl : b < s.heap.size) (hbA : ¬ A b) (hA : ∀ q, s.heap.size ≤ q → A q) (hK : va_K D vwCl (pjT cI cJ cZ) s) (hG : pw_G A s) (hL : L ≤ 2562) {qo o0 oM n9 i : Nat} {fo : Nat → Int64} {wx wm : va_W} {H : Heap} {locs : List Loc} {ls : Array Slot} {cells slots : Nat} (hV : zV cI cJ cZ o0 oM n9 wx wm) (hc : n9 ≤ 600) (hcl : cells ≤ 1000) (hsl : slots ≤ 10000) (hi : i + 5 ≤ L) (hl : lv_has ls 8 [(4, .int (nI i)), (3, .ref qo), (2, .ref oM), (1, .ref o0), (0, .ref b)]) (hP : va_P D vwCl ((qo, .inl (cJ, 1, .inr (.inl fo))) :: (wx ++ (wm ++ []))) H) (hD : va_D A ((qo, .inl (cJ, 1, .inr (.inl fo))) :: (wx ++ (wm ++ [])))) (hS : va_S A s.heap H locs)
    (kk : ∀ (fo2 : Nat → Int64) (wx2 wm2 : va_W) (H2 : Heap) (locs2 : List Loc) (ls2 : Array Slot), zV cI cJ cZ o0 oM (n9 + 1) wx2 wm2 → lv_has ls2 8 [(4, .int (nI i)), (3, .ref qo), (2, .ref oM), (1, .ref o0), (0, .ref b)] → va_P D vwCl ((qo, .inl (cJ, 1, .inr (.inl fo2))) :: (wx2 ++ (wm2 ++ []))) H2 → va_D A ((qo, .inl (cJ, 1, .inr (.inl fo2))) :: (wx2 ++ (wm2 ++ []))) → va_S A s.heap H2 locs2 → W p l e room_1 s m #[Value.ref b] below meth c H2 locs2 (cells + 1) (slots + 6) Q (F0 m 717 ls2 [])) : W p l e room_1 s m #[Value.ref b] below meth c H locs cells slots Q (F0 m 332 ls []) := by
  refine lv_aload_n hx hb dL_law_332 rfl (lv_at hl 3 rfl) ?_
  obtain ⟨k9, wx9, wm9, m1, m2, m3, hV9⟩ := o_begin l D cI cJ cZ htr qo o0 oM n9 fo wx wm hV hc 
  obtain ⟨fs9, ms9, hx9, hm9⟩ := zV_x hV
  obtain ⟨ft9, mt9, hx8, hm8⟩ := zV_x hV9
  refine pl_callSW (rest := []) (a9 := [(qo, .inl (cJ, 1, .inr (.inl fo)))]) (wc := wx) (w1 := wx9) (b9 := wm ++ []) (st1 := [.int k9]) (c2 := cells + 1) (s2 := slots + 6) ⟨hx, hb, hml, hown, hts⟩ m1 (vx_cwSW 1 hts (pj_gSW m_297 m_298 m_18 m_299) rfl rfl rfl (by decide +kernel) ⟨Nat.le_of_ble_eq_true rfl, Nat.le_of_ble_eq_true rfl⟩) pw_G_ok hG hK hP hD hS hA rfl hl.1 rfl (Nat.le_of_ble_eq_true rfl) dL_law_333 ⟨show cells + 1 ≤ 635801 by omega, show slots + 6 ≤ 7188668 by omega⟩ rfl rfl rfl (fun H locs hP hD hS => ?_)
  have hP : va_P D vwCl ((qo, .inl (cJ, 1, .inr (.inl fo))) :: (wx9 ++ (wm ++ []))) H := hP
  have hD : va_D A ((qo, .inl (cJ, 1, .inr (.inl fo))) :: (wx9 ++ (wm ++ []))) := hD
  refine lv_istore (lv' := [(5, .int k9), (4, .int (nI i)), (3, .ref qo), (2, .ref oM), (1, .ref o0), (0, .ref b)]) hx hb dL_law_336 hl (by decide) rfl (fun ls hl => ?_)
  refine lv_aload_n hx hb dL_law_338 rfl (lv_at hl 3 rfl) ?_
  refine pl_callV (rest := []) (a9 := ((qo, .inl (cJ, 1, .inr (.inl fo))) :: wx9)) (wc := wm) (w1 := wm9) (b9 := []) (st1 := []) (c2 := cells + 1) (s2 := slots + 6) ⟨hx, hb, hml, hown, hts⟩ m2 (cwV 0 hts (pj_gV m_510 m_511 m_512 m_24 m_513) rfl rfl rfl (by decide +kernel) ⟨Nat.le_of_ble_eq_true rfl, Nat.le_of_ble_eq_true rfl⟩) pj_no_ok trivial hK hP hD hS hA (ci := 4) (q0 := 0) rfl hm9 rfl hl.1 rfl (Nat.le_of_ble_eq_true rfl) dL_law_339 ⟨show cells + 1 ≤ 635801 by omega, show slots + 6 ≤ 7188668 by omega⟩ rfl rfl rfl (fun H locs hP hD hS => ?_)
  have hP : va_P D vwCl ((qo, .inl (cJ, 1, .inr (.inl fo))) :: (wx9 ++ (wm9 ++ []))) H := hP
  have hD : va_D A ((qo, .inl (cJ, 1, .inr (.inl fo))) :: (wx9 ++ (wm9 ++ []))) := hD
  refine lv_aload_n hx hb dL_law_342 rfl (lv_at hl 3 rfl) ?_
  refine pl_callVp (rest := []) (a9 := ((qo, .inl (cJ, 1, .inr (.inl fo))) :: wx9)) (wc := wm9) (b9 := []) (st1 := [.int k9]) ⟨hx, hb, hml, hown, hts⟩ m3 (cwV 0 hts (pj_gV m_476 m_477 m_478 m_24 m_479) rfl rfl rfl (by decide +kernel) ⟨Nat.le_of_ble_eq_true rfl, Nat.le_of_ble_eq_true rfl⟩) pj_no_ok trivial hK hP hD hS hA (ci := 4) (q0 := 0) rfl hm8 rfl hl.1 rfl (Nat.le_of_ble_eq_true rfl) dL_law_343 ⟨show cells + 1 ≤ 635801 by omega, show slots + 6 ≤ 7188668 by omega⟩ rfl ?_
  refine lv_iload hx hb dL_law_346 (lv_at hl 0 rfl) ?_
  refine lv_icmp_eq (tgt := 353) hx hb dL_law_348 (by decide) (fun _ => ?_) (fun h9 => (h9 rfl).elim)
  refine lv_goto (tgt := 717) hx hb dL_law_353 (by decide) ?_
  refine W.widen (k := cells + 1) (n := slots + 6) (by omega) (by omega) ?_
  exact kk fo wx9 wm9 _ _ _ hV9 (lv_sub hl [1, 2, 3, 4, 5] rfl) hP hD hS
set_option maxHeartbeats 4000000 in
set_option maxRecDepth 100000 in
theorem lb_crash {p : Program} {l : Launch} {e : Env} {s : State} {m : MethodId} {below : List Frame} {meth : Method} {c : Code} {b L : Nat} {xs : Nat → Int32} {Q : State → Prop} {A : Nat → Prop} {D : va_G} {cI cJ cZ : ClassId} (htr : l.stackTraces = false) (hx : p.tables.exec = Jvm.exec) (hb : c.code = code) (hml : c.maxLocals = 8) (hown : s.vm.findClass "ReplayJournalLaw" = some m.cls) (hts : ∀ w ∈ Cond.initialized "ReplayJournalLaw" :: pjW0, w.before #[Value.ref b] s = true) (hX : va_X b L xs s s.heap) (hbl : b < s.heap.size) (hbA : ¬ A b) (hA : ∀ q, s.heap.size ≤ q → A q) (hK : va_K D vwCl (pjT cI cJ cZ) s) (hG : pw_G A s) (hL : L ≤ 2562) {qo o0 oM n9 i : Nat} {fo : Nat → Int64} {wx wm : va_W} {H : Heap} {locs : List Loc} {ls : Array Slot} {cells slots : Nat} (hV : zV cI cJ cZ o0 oM n9 wx wm) (hc : n9 ≤ 600) (hcl : cells ≤ 1000) (hsl : slots ≤ 10000) (hi : i + 5 ≤ L) (hl : lv_has ls 8 [(4, .int (nI i)), (3, .ref qo), (2, .ref oM), (1, .ref o0), (0, .ref b)]) (hP : va_P D vwCl ((qo, .inl (cJ, 1, .inr (.inl fo))) :: (wx ++ (wm ++ []))) H) (hD : va_D A ((qo, .inl (cJ, 1, .inr (.inl fo))) :: (wx ++ (wm ++ [])))) (hS : va_S A s.heap H locs)
    (kk : ∀ (fo2 : Nat → Int64) (wx2 wm2 : va_W) (H2 : Heap) (locs2 : List Loc) (ls2 : Array Slot), zV cI cJ cZ o0 oM (n9 + 1) wx2 wm2 → lv_has ls2 8 [(4, .int (nI i)), (3, .ref qo), (2, .ref oM), (1, .ref o0), (0, .ref b)] → va_P D vwCl ((qo, .inl (cJ, 1, .inr (.inl fo2))) :: (wx2 ++ (wm2 ++ []))) H2 → va_D A ((qo, .inl (cJ, 1, .inr (.inl fo2))) :: (wx2 ++ (wm2 ++ []))) → va_S A s.heap H2 locs2 → W p l e room_1 s m #[Value.ref b] below meth c H2 locs2 (cells + 1) (slots + 6) Q (F0 m 717 ls2 [])) : W p l e room_1 s m #[Value.ref b] below meth c H locs cells slots Q (F0 m 488 ls []) := by
  refine lv_aload_n hx hb dL_law_488 rfl (lv_at hl 3 rfl) ?_
  refine lv_aload_n hx hb dL_law_489 rfl (lv_at hl 4 rfl) ?_
  refine lv_iload hx hb dL_law_490 (lv_at hl 0 rfl) ?_
  refine lv_iconst (v := 1) hx hb dL_law_492 (by decide) ?_
  refine lv_iadd hx hb dL_law_493 ?_
  refine va_sld hx hb hX hbl hbA hS (z_in (k := 1) (by omega) hL) dL_law_494 ?_
  obtain ⟨k9, wx9, wm9, m1, m2, m3, hV9⟩ := o_crash l D cI cJ cZ htr qo o0 oM n9 fo wx wm hV hc (xs (((nI i) + 1).toNatClampNeg))
  obtain ⟨fs9, ms9, hx9, hm9⟩ := zV_x hV
  obtain ⟨ft9, mt9, hx8, hm8⟩ := zV_x hV9
  refine pl_callSW (rest := []) (a9 := [(qo, .inl (cJ, 1, .inr (.inl fo)))]) (wc := wx) (w1 := wx9) (b9 := wm ++ []) (st1 := [.int k9]) (c2 := cells + 1) (s2 := slots + 6) ⟨hx, hb, hml, hown, hts⟩ m1 (vx_cwSW 2 hts (pj_gSW m_367 m_368 m_18 m_369) rfl rfl rfl (by decide +kernel) ⟨Nat.le_of_ble_eq_true rfl, Nat.le_of_ble_eq_true rfl⟩) pw_G_ok hG hK hP hD hS hA rfl hl.1 rfl (Nat.le_of_ble_eq_true rfl) dL_law_495 ⟨show cells + 1 ≤ 635801 by omega, show slots + 6 ≤ 7188668 by omega⟩ rfl rfl rfl (fun H locs hP hD hS => ?_)
  have hP : va_P D vwCl ((qo, .inl (cJ, 1, .inr (.inl fo))) :: (wx9 ++ (wm ++ []))) H := hP
  have hD : va_D A ((qo, .inl (cJ, 1, .inr (.inl fo))) :: (wx9 ++ (wm ++ []))) := hD
  refine lv_istore (lv' := [(5, .int k9), (4, .int (nI i)), (3, .ref qo), (2, .ref oM), (1, .ref o0), (0, .ref b)]) hx hb dL_law_498 hl (by decide) rfl (fun ls hl => ?_)
  refine lv_aload_n hx hb dL_law_500 rfl (lv_at hl 3 rfl) ?_
  refine lv_aload_n hx hb dL_law_501 rfl (lv_at hl 5 rfl) ?_
  refine lv_iload hx hb dL_law_502 (lv_at hl 1 rfl) ?_
  refine lv_iconst (v := 1) hx hb dL_law_504 (by decide) ?_
  refine lv_iadd hx hb dL_law_505 ?_
  refine va_sld hx hb hX hbl hbA hS (z_in (k := 1) (by omega) hL) dL_law_506 ?_
  refine pl_callV (rest := []) (a9 := ((qo, .inl (cJ, 1, .inr (.inl fo))) :: wx9)) (wc := wm) (w1 := wm9) (b9 := []) (st1 := []) (c2 := cells + 1) (s2 := slots + 6) ⟨hx, hb, hml, hown, hts⟩ m2 (cwV 1 hts (pj_gV m_534 m_535 m_536 m_24 m_537) rfl rfl rfl (by decide +kernel) ⟨Nat.le_of_ble_eq_true rfl, Nat.le_of_ble_eq_true rfl⟩) pj_no_ok trivial hK hP hD hS hA (ci := 4) (q0 := 0) rfl hm9 rfl hl.1 rfl (Nat.le_of_ble_eq_true rfl) dL_law_507 ⟨show cells + 1 ≤ 635801 by omega, show slots + 6 ≤ 7188668 by omega⟩ rfl rfl rfl (fun H locs hP hD hS => ?_)
  have hP : va_P D vwCl ((qo, .inl (cJ, 1, .inr (.inl fo))) :: (wx9 ++ (wm9 ++ []))) H := hP
  have hD : va_D A ((qo, .inl (cJ, 1, .inr (.inl fo))) :: (wx9 ++ (wm9 ++ []))) := hD
  refine lv_aload_n hx hb dL_law_510 rfl (lv_at hl 3 rfl) ?_
  refine pl_callVp (rest := []) (a9 := ((qo, .inl (cJ, 1, .inr (.inl fo))) :: wx9)) (wc := wm9) (b9 := []) (st1 := [.int k9]) ⟨hx, hb, hml, hown, hts⟩ m3 (cwV 0 hts (pj_gV m_476 m_477 m_478 m_24 m_479) rfl rfl rfl (by decide +kernel) ⟨Nat.le_of_ble_eq_true rfl, Nat.le_of_ble_eq_true rfl⟩) pj_no_ok trivial hK hP hD hS hA (ci := 4) (q0 := 0) rfl hm8 rfl hl.1 rfl (Nat.le_of_ble_eq_true rfl) dL_law_511 ⟨show cells + 1 ≤ 635801 by omega, show slots + 6 ≤ 7188668 by omega⟩ rfl ?_
  refine lv_iload hx hb dL_law_514 (lv_at hl 0 rfl) ?_
  refine lv_icmp_eq (tgt := 521) hx hb dL_law_516 (by decide) (fun _ => ?_) (fun h9 => (h9 rfl).elim)
  refine lv_goto (tgt := 717) hx hb dL_law_521 (by decide) ?_
  refine W.widen (k := cells + 1) (n := slots + 6) (by omega) (by omega) ?_
  exact kk fo wx9 wm9 _ _ _ hV9 (lv_sub hl [1, 2, 3, 4, 5] rfl) hP hD hS
set_option maxHeartbeats 4000000 in
set_option maxRecDepth 100000 in
theorem lb_recover {p : Program} {l : Launch} {e : Env} {s : State} {m : MethodId} {below : List Frame} {meth : Method} {c : Code} {b L : Nat} {xs : Nat → Int32} {Q : State → Prop} {A : Nat → Prop} {D : va_G} {cI cJ cZ : ClassId} (htr : l.stackTraces = false) (hx : p.tables.exec = Jvm.exec) (hb : c.code = code) (hml : c.maxLocals = 8) (hown : s.vm.findClass "ReplayJournalLaw" = some m.cls) (hts : ∀ w ∈ Cond.initialized "ReplayJournalLaw" :: pjW0, w.before #[Value.ref b] s = true) (hX : va_X b L xs s s.heap) (hbl : b < s.heap.size) (hbA : ¬ A b) (hA : ∀ q, s.heap.size ≤ q → A q) (hK : va_K D vwCl (pjT cI cJ cZ) s) (hG : pw_G A s) (hL : L ≤ 2562) {qo o0 oM n9 i : Nat} {fo : Nat → Int64} {wx wm : va_W} {H : Heap} {locs : List Loc} {ls : Array Slot} {cells slots : Nat} (hV : zV cI cJ cZ o0 oM n9 wx wm) (hc : n9 ≤ 600) (hcl : cells ≤ 1000) (hsl : slots ≤ 10000) (hi : i + 5 ≤ L) (hl : lv_has ls 8 [(4, .int (nI i)), (3, .ref qo), (2, .ref oM), (1, .ref o0), (0, .ref b)]) (hP : va_P D vwCl ((qo, .inl (cJ, 1, .inr (.inl fo))) :: (wx ++ (wm ++ []))) H) (hD : va_D A ((qo, .inl (cJ, 1, .inr (.inl fo))) :: (wx ++ (wm ++ [])))) (hS : va_S A s.heap H locs)
    (kk : ∀ (fo2 : Nat → Int64) (wx2 wm2 : va_W) (H2 : Heap) (locs2 : List Loc) (ls2 : Array Slot), zV cI cJ cZ o0 oM (n9 + 1) wx2 wm2 → lv_has ls2 8 [(4, .int (nI i)), (3, .ref qo), (2, .ref oM), (1, .ref o0), (0, .ref b)] → va_P D vwCl ((qo, .inl (cJ, 1, .inr (.inl fo2))) :: (wx2 ++ (wm2 ++ []))) H2 → va_D A ((qo, .inl (cJ, 1, .inr (.inl fo2))) :: (wx2 ++ (wm2 ++ []))) → va_S A s.heap H2 locs2 → W p l e room_1 s m #[Value.ref b] below meth c H2 locs2 (cells + 1) (slots + 6) Q (F0 m 717 ls2 [])) : W p l e room_1 s m #[Value.ref b] below meth c H locs cells slots Q (F0 m 524 ls []) := by
  obtain ⟨b9, wx9, wm9, m1, m2, hV9⟩ := o_recover l D cI cJ cZ htr qo o0 oM n9 fo wx wm hV hc
  obtain ⟨fs9, ms9, hx9, hm9⟩ := zV_x hV
  refine lv_aload_n hx hb dL_law_524 rfl (lv_at hl 3 rfl) ?_
  refine pl_callV (rest := []) (a9 := [(qo, .inl (cJ, 1, .inr (.inl fo)))]) (wc := wx) (w1 := wx9) (b9 := (wm ++ [])) (st1 := [.int b9]) (c2 := cells) (s2 := slots) ⟨hx, hb, hml, hown, hts⟩ m1 (cwV 0 hts (pj_gV m_117 m_118 m_119 m_19 m_120) rfl rfl rfl (by decide +kernel) ⟨Nat.le_of_ble_eq_true rfl, Nat.le_of_ble_eq_true rfl⟩) pj_no_ok trivial hK hP hD hS hA (ci := 3) (q0 := 0) rfl hx9 rfl hl.1 rfl (Nat.le_of_ble_eq_true rfl) dL_law_525 ⟨show cells ≤ 635801 by omega, show slots ≤ 7188668 by omega⟩ rfl rfl rfl (fun H locs hP hD hS => ?_)
  have hP : va_P D vwCl ((qo, .inl (cJ, 1, .inr (.inl fo))) :: (wx9 ++ (wm ++ []))) H := hP
  have hD : va_D A ((qo, .inl (cJ, 1, .inr (.inl fo))) :: (wx9 ++ (wm ++ []))) := hD
  refine lv_aload_n hx hb dL_law_528 rfl (lv_at hl 2 rfl) ?_
  refine pl_callV (rest := [.int b9]) (a9 := ((qo, .inl (cJ, 1, .inr (.inl fo))) :: wx9)) (wc := wm) (w1 := wm9) (b9 := []) (st1 := [.int b9, .int b9]) (c2 := cells) (s2 := slots) ⟨hx, hb, hml, hown, hts⟩ m2 (cwV 0 hts (pj_gV m_538 m_539 m_540 m_24 m_541) rfl rfl rfl (by decide +kernel) ⟨Nat.le_of_ble_eq_true rfl, Nat.le_of_ble_eq_true rfl⟩) pj_no_ok trivial hK hP hD hS hA (ci := 4) (q0 := 0) rfl hm9 rfl hl.1 rfl (Nat.le_of_ble_eq_true rfl) dL_law_529 ⟨show cells ≤ 635801 by omega, show slots ≤ 7188668 by omega⟩ rfl rfl rfl (fun H locs hP hD hS => ?_)
  have hP : va_P D vwCl ((qo, .inl (cJ, 1, .inr (.inl fo))) :: (wx9 ++ (wm9 ++ []))) H := hP
  have hD : va_D A ((qo, .inl (cJ, 1, .inr (.inl fo))) :: (wx9 ++ (wm9 ++ []))) := hD
  refine lv_icmp_eq (tgt := 717) hx hb dL_law_532 (by decide) (fun _ => ?_) (fun h9 => (h9 rfl).elim)
  refine W.widen (k := cells + 1) (n := slots + 6) (by omega) (by omega) ?_
  exact kk fo wx9 wm9 _ _ _ hV9 (lv_sub hl [0, 1, 2, 3, 4] rfl) hP hD hS
set_option maxHeartbeats 4000000 in
set_option maxRecDepth 100000 in
theorem lb_isDown {p : Program} {l : Launch} {e : Env} {s : State} {m : MethodId} {below : List Frame} {meth : Method} {c : Code} {b L : Nat} {xs : Nat → Int32} {Q : State → Prop} {A : Nat → Prop} {D : va_G} {cI cJ cZ : ClassId} (htr : l.stackTraces = false) (hx : p.tables.exec = Jvm.exec) (hb : c.code = code) (hml : c.maxLocals = 8) (hown : s.vm.findClass "ReplayJournalLaw" = some m.cls) (hts : ∀ w ∈ Cond.initialized "ReplayJournalLaw" :: pjW0, w.before #[Value.ref b] s = true) (hX : va_X b L xs s s.heap) (hbl : b < s.heap.size) (hbA : ¬ A b) (hA : ∀ q, s.heap.size ≤ q → A q) (hK : va_K D vwCl (pjT cI cJ cZ) s) (hG : pw_G A s) (hL : L ≤ 2562) {qo o0 oM n9 i : Nat} {fo : Nat → Int64} {wx wm : va_W} {H : Heap} {locs : List Loc} {ls : Array Slot} {cells slots : Nat} (hV : zV cI cJ cZ o0 oM n9 wx wm) (hc : n9 ≤ 600) (hcl : cells ≤ 1000) (hsl : slots ≤ 10000) (hi : i + 5 ≤ L) (hl : lv_has ls 8 [(4, .int (nI i)), (3, .ref qo), (2, .ref oM), (1, .ref o0), (0, .ref b)]) (hP : va_P D vwCl ((qo, .inl (cJ, 1, .inr (.inl fo))) :: (wx ++ (wm ++ []))) H) (hD : va_D A ((qo, .inl (cJ, 1, .inr (.inl fo))) :: (wx ++ (wm ++ [])))) (hS : va_S A s.heap H locs)
    (kk : ∀ (fo2 : Nat → Int64) (wx2 wm2 : va_W) (H2 : Heap) (locs2 : List Loc) (ls2 : Array Slot), zV cI cJ cZ o0 oM (n9 + 1) wx2 wm2 → lv_has ls2 8 [(4, .int (nI i)), (3, .ref qo), (2, .ref oM), (1, .ref o0), (0, .ref b)] → va_P D vwCl ((qo, .inl (cJ, 1, .inr (.inl fo2))) :: (wx2 ++ (wm2 ++ []))) H2 → va_D A ((qo, .inl (cJ, 1, .inr (.inl fo2))) :: (wx2 ++ (wm2 ++ []))) → va_S A s.heap H2 locs2 → W p l e room_1 s m #[Value.ref b] below meth c H2 locs2 (cells + 1) (slots + 6) Q (F0 m 717 ls2 [])) : W p l e room_1 s m #[Value.ref b] below meth c H locs cells slots Q (F0 m 537 ls []) := by
  obtain ⟨b9, wm9, m1, m2, hV9⟩ := o_isDown l D cI cJ cZ htr qo o0 oM n9 fo wx wm hV hc
  obtain ⟨fs9, ms9, hx9, hm9⟩ := zV_x hV
  refine lv_aload_n hx hb dL_law_537 rfl (lv_at hl 3 rfl) ?_
  refine pl_callVp (rest := []) (a9 := [(qo, .inl (cJ, 1, .inr (.inl fo)))]) (wc := wx) (b9 := (wm ++ [])) (st1 := [.int b9]) ⟨hx, hb, hml, hown, hts⟩ m1 (cwV 0 hts (pj_gV m_146 m_147 m_148 m_19 m_149) rfl rfl rfl (by decide +kernel) ⟨Nat.le_of_ble_eq_true rfl, Nat.le_of_ble_eq_true rfl⟩) pj_no_ok trivial hK hP hD hS hA (ci := 3) (q0 := 0) rfl hx9 rfl hl.1 rfl (Nat.le_of_ble_eq_true rfl) dL_law_538 ⟨show cells ≤ 635801 by omega, show slots ≤ 7188668 by omega⟩ rfl ?_
  refine lv_aload_n hx hb dL_law_541 rfl (lv_at hl 2 rfl) ?_
  refine pl_callV (rest := [.int b9]) (a9 := ((qo, .inl (cJ, 1, .inr (.inl fo))) :: wx)) (wc := wm) (w1 := wm9) (b9 := []) (st1 := [.int b9, .int b9]) (c2 := cells) (s2 := slots) ⟨hx, hb, hml, hown, hts⟩ m2 (cwV 0 hts (pj_gV m_542 m_543 m_544 m_24 m_545) rfl rfl rfl (by decide +kernel) ⟨Nat.le_of_ble_eq_true rfl, Nat.le_of_ble_eq_true rfl⟩) pj_no_ok trivial hK hP hD hS hA (ci := 4) (q0 := 0) rfl hm9 rfl hl.1 rfl (Nat.le_of_ble_eq_true rfl) dL_law_542 ⟨show cells ≤ 635801 by omega, show slots ≤ 7188668 by omega⟩ rfl rfl rfl (fun H locs hP hD hS => ?_)
  have hP : va_P D vwCl ((qo, .inl (cJ, 1, .inr (.inl fo))) :: (wx ++ (wm9 ++ []))) H := hP
  have hD : va_D A ((qo, .inl (cJ, 1, .inr (.inl fo))) :: (wx ++ (wm9 ++ []))) := hD
  refine lv_icmp_eq (tgt := 717) hx hb dL_law_545 (by decide) (fun _ => ?_) (fun h9 => (h9 rfl).elim)
  refine W.widen (k := cells + 1) (n := slots + 6) (by omega) (by omega) ?_
  exact kk fo wx wm9 _ _ _ hV9 (lv_sub hl [0, 1, 2, 3, 4] rfl) hP hD hS
