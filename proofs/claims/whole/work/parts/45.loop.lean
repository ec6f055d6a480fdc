theorem zV_c {cI cJ cZ : ClassId} {o0 oM c : Nat} {wx wm : va_W} (h : zV cI cJ cZ o0 oM c wx wm) : zV cI cJ cZ o0 oM (c + 1) wx wm := by
  obtain ⟨oL, pL, qL, oS, pS, qS, oT, pT, qT, oj, pf, pt, pv, pz, od, n, J, u, fL, fS, fT, va, cL, cS, cT, fr, to, fi, wr, lf, gs, sm, mA, mC, mT, mF, mO, mV, gp, si, fM, tM, vM, cM, fF, tF, kd, gr, rfl, rfl, hz, hg⟩ := h
  exact zV_of (zI_c hz) hg
set_option maxHeartbeats 4000000 in
set_option maxRecDepth 100000 in
theorem lb_switch {p : Program} {l : Launch} {e : Env} {s : State} {m : MethodId} {below : List Frame} {meth : Method} {c : Code} {b L : Nat} {xs : Nat → Int32} {Q : State → Prop} {A : Nat → Prop} {D : va_G} {cI cJ cZ : ClassId} (htr : l.stackTraces = false) (hx : p.tables.exec = Jvm.exec) (hb : c.code = code) (hml : c.maxLocals = 8) (hown : s.vm.findClass "ReplayJournalLaw" = some m.cls) (hts : ∀ w ∈ Cond.initialized "ReplayJournalLaw" :: pjW0, w.before #[Value.ref b] s = true) (hX : va_X b L xs s s.heap) (hbl : b < s.heap.size) (hbA : ¬ A b) (hA : ∀ q, s.heap.size ≤ q → A q) (hK : va_K D vwCl (pjT cI cJ cZ) s) (hG : pw_G A s) (hL : L ≤ 2562) {qo o0 oM n9 i : Nat} {fo : Nat → Int64} {wx wm : va_W} {H : Heap} {locs : List Loc} {ls : Array Slot} {cells slots : Nat} (hV : zV cI cJ cZ o0 oM n9 wx wm) (hc : n9 ≤ 600) (hcl : cells ≤ 1000) (hsl : slots ≤ 10000) (hi : i + 5 ≤ L) (hl : lv_has ls 8 [(4, .int (nI i)), (3, .ref qo), (2, .ref oM), (1, .ref o0), (0, .ref b)]) (hP : va_P D vwCl ((qo, .inl (cJ, 1, .inr (.inl fo))) :: (wx ++ (wm ++ []))) H) (hD : va_D A ((qo, .inl (cJ, 1, .inr (.inl fo))) :: (wx ++ (wm ++ [])))) (hS : va_S A s.heap H locs)
    (kk : ∀ (fo2 : Nat → Int64) (wx2 wm2 : va_W) (H2 : Heap) (locs2 : List Loc) (ls2 : Array Slot), zV cI cJ cZ o0 oM (n9 + 1) wx2 wm2 → lv_has ls2 8 [(4, .int (nI i)), (3, .ref qo), (2, .ref oM), (1, .ref o0), (0, .ref b)] → va_P D vwCl ((qo, .inl (cJ, 1, .inr (.inl fo2))) :: (wx2 ++ (wm2 ++ []))) H2 → va_D A ((qo, .inl (cJ, 1, .inr (.inl fo2))) :: (wx2 ++ (wm2 ++ []))) → va_S A s.heap H2 locs2 → W p l e room_1 s m #[Value.ref b] below meth c H2 locs2 (cells + 1) (slots + 6) Q (F0 m 717 ls2 [])) : W p l e room_1 s m #[Value.ref b] below meth c H locs cells slots Q (F0 m 52 ls []) := by
  refine lv_aload_n hx hb dL_law_52 rfl (lv_at hl 4 rfl) ?_
  refine lv_iload hx hb dL_law_53 (lv_at hl 0 rfl) ?_
  refine va_sld hx hb hX hbl hbA hS (z_in0 (by omega) hL) dL_law_55 ?_
  refine lv_bipush (v := 15) hx hb dL_law_56 (by decide) ?_
  refine lv_iand hx hb dL_law_58 ?_
  have hr := z_and (xs (nI i).toNatClampNeg)
  have hcase : (xs (nI i).toNatClampNeg &&& 15).toInt = 0 ∨ (xs (nI i).toNatClampNeg &&& 15).toInt = 1 ∨ (xs (nI i).toNatClampNeg &&& 15).toInt = 2 ∨ (xs (nI i).toNatClampNeg &&& 15).toInt = 3 ∨ (xs (nI i).toNatClampNeg &&& 15).toInt = 4 ∨ (xs (nI i).toNatClampNeg &&& 15).toInt = 5 ∨ (xs (nI i).toNatClampNeg &&& 15).toInt = 6 ∨ (xs (nI i).toNatClampNeg &&& 15).toInt = 7 ∨ (xs (nI i).toNatClampNeg &&& 15).toInt = 8 ∨ (xs (nI i).toNatClampNeg &&& 15).toInt = 9 ∨ (xs (nI i).toNatClampNeg &&& 15).toInt = 10 ∨ (xs (nI i).toNatClampNeg &&& 15).toInt = 11 ∨ 11 < (xs (nI i).toNatClampNeg &&& 15).toInt := by omega
  rcases hcase with h9 | h9 | h9 | h9 | h9 | h9 | h9 | h9 | h9 | h9 | h9 | h9 | h9
  · refine lv_tableIn (tgt := 120) (off := 61) hx hb dL_law_59 (by rw [h9]; decide) (by rw [h9]; decide) (by rw [h9]; rfl) (by decide) ?_
    exact lb_add htr hx hb hml hown hts hX hbl hbA hA hK hG hL hV hc hcl hsl hi hl hP hD hS kk
  · refine lv_tableIn (tgt := 220) (off := 161) hx hb dL_law_59 (by rw [h9]; decide) (by rw [h9]; decide) (by rw [h9]; rfl) (by decide) ?_
    exact lb_move htr hx hb hml hown hts hX hbl hbA hA hK hG hL hV hc hcl hsl hi hl hP hD hS kk
  · refine lv_tableIn (tgt := 332) (off := 273) hx hb dL_law_59 (by rw [h9]; decide) (by rw [h9]; decide) (by rw [h9]; rfl) (by decide) ?_
    exact lb_begin htr hx hb hml hown hts hX hbl hbA hA hK hG hL hV hc hcl hsl hi hl hP hD hS kk
  · refine lv_tableIn (tgt := 356) (off := 297) hx hb dL_law_59 (by rw [h9]; decide) (by rw [h9]; decide) (by rw [h9]; rfl) (by decide) ?_
    exact lb_end htr hx hb hml hown hts hX hbl hbA hA hK hG hL hV hc hcl hsl hi hl hP hD hS kk
  · refine lv_tableIn (tgt := 400) (off := 341) hx hb dL_law_59 (by rw [h9]; decide) (by rw [h9]; decide) (by rw [h9]; rfl) (by decide) ?_
    exact lb_drop htr hx hb hml hown hts hX hbl hbA hA hK hG hL hV hc hcl hsl hi hl hP hD hS kk
  · refine lv_tableIn (tgt := 444) (off := 385) hx hb dL_law_59 (by rw [h9]; decide) (by rw [h9]; decide) (by rw [h9]; rfl) (by decide) ?_
    exact lb_snapshot htr hx hb hml hown hts hX hbl hbA hA hK hG hL hV hc hcl hsl hi hl hP hD hS kk
  · refine lv_tableIn (tgt := 488) (off := 429) hx hb dL_law_59 (by rw [h9]; decide) (by rw [h9]; decide) (by rw [h9]; rfl) (by decide) ?_
    exact lb_crash htr hx hb hml hown hts hX hbl hbA hA hK hG hL hV hc hcl hsl hi hl hP hD hS kk
  · refine lv_tableIn (tgt := 524) (off := 465) hx hb dL_law_59 (by rw [h9]; decide) (by rw [h9]; decide) (by rw [h9]; rfl) (by decide) ?_
    exact lb_recover htr hx hb hml hown hts hX hbl hbA hA hK hG hL hV hc hcl hsl hi hl hP hD hS kk
  · refine lv_tableIn (tgt := 537) (off := 478) hx hb dL_law_59 (by rw [h9]; decide) (by rw [h9]; decide) (by rw [h9]; rfl) (by decide) ?_
    exact lb_isDown htr hx hb hml hown hts hX hbl hbA hA hK hG hL hV hc hcl hsl hi hl hP hD hS kk
  · refine lv_tableIn (tgt := 550) (off := 491) hx hb dL_law_59 (by rw [h9]; decide) (by rw [h9]; decide) (by rw [h9]; rfl) (by decide) ?_
    exact lb_amount htr hx hb hml hown hts hX hbl hbA hA hK hG hL hV hc hcl hsl hi hl hP hD hS kk
  · refine lv_tableIn (tgt := 605) (off := 546) hx hb dL_law_59 (by rw [h9]; decide) (by rw [h9]; decide) (by rw [h9]; rfl) (by decide) ?_
    exact lb_changes htr hx hb hml hown hts hX hbl hbA hA hK hG hL hV hc hcl hsl hi hl hP hD hS kk
  · refine lv_tableIn (tgt := 661) (off := 602) hx hb dL_law_59 (by rw [h9]; decide) (by rw [h9]; decide) (by rw [h9]; rfl) (by decide) ?_
    exact lb_count htr hx hb hml hown hts hX hbl hbA hA hK hG hL hV hc hcl hsl hi hl hP hD hS kk
  · refine lv_tableOut (tgt := 717) hx hb dL_law_59 (Or.inr h9) (by decide) ?_
    refine W.widen (k := cells + 1) (n := slots + 6) (by omega) (by omega) ?_
    exact kk fo wx wm H locs ls (zV_c hV) hl hP hD hS
set_option maxHeartbeats 4000000 in
set_option maxRecDepth 100000 in
theorem law_exit {p : Program} {l : Launch} {e : Env} {s : State} {m : MethodId} {below : List Frame} {meth : Method} {c : Code} {b L : Nat} {xs : Nat → Int32} {A : Nat → Prop} {D : va_G} {cI cJ cZ : ClassId} (htr : l.stackTraces = false) (hx : p.tables.exec = Jvm.exec) (hb : c.code = code) (hml : c.maxLocals = 8) (hown : s.vm.findClass "ReplayJournalLaw" = some m.cls) (hts : ∀ w ∈ Cond.initialized "ReplayJournalLaw" :: pjW0, w.before #[Value.ref b] s = true) (hX : va_X b L xs s s.heap) (hbl : b < s.heap.size) (hbA : ¬ A b) (hA : ∀ q, s.heap.size ≤ q → A q) (hK : va_K D vwCl (pjT cI cJ cZ) s) (hG : pw_G A s) (hL : L ≤ 2562) (hr : meth.sig.returnType = ret) (hlocks : meth.locks = false) (hAb : ∀ q, A q → s.heap.size ≤ q) {H : Heap} {locs : List Loc} {ls : Array Slot} {cells slots : Nat} (hcl : cells ≤ 1000) (hsl : slots ≤ 10000) (hS : va_S A s.heap H locs) : W p l e room_1 s m #[Value.ref b] below meth c H locs cells slots (lw_Z below #[Value.ref b] s) (F0 m 723 ls []) := by
  refine lv_iconst (v := 1) hx hb dL_law_723 (by decide) ?_
  refine W.widen (k := 635801) (n := 7188668) (by omega) (by omega) ?_
  exact va_forget (fun q hq => hAb _ (hS.2.2 q hq)) (lw_ret hx hb hr hlocks dL_law_724)
set_option maxHeartbeats 4000000 in
set_option maxRecDepth 100000 in
theorem law_loop {p : Program} {l : Launch} {e : Env} {s : State} {m : MethodId} {below : List Frame} {meth : Method} {c : Code} {b L : Nat} {xs : Nat → Int32} {A : Nat → Prop} {D : va_G} {cI cJ cZ : ClassId} (htr : l.stackTraces = false) (hx : p.tables.exec = Jvm.exec) (hb : c.code = code) (hml : c.maxLocals = 8) (hown : s.vm.findClass "ReplayJournalLaw" = some m.cls) (hts : ∀ w ∈ Cond.initialized "ReplayJournalLaw" :: pjW0, w.before #[Value.ref b] s = true) (hX : va_X b L xs s s.heap) (hbl : b < s.heap.size) (hbA : ¬ A b) (hA : ∀ q, s.heap.size ≤ q → A q) (hK : va_K D vwCl (pjT cI cJ cZ) s) (hG : pw_G A s) (hL : L ≤ 2562) {qo o0 oM : Nat} (hr : meth.sig.returnType = ret) (hlocks : meth.locks = false) (hAb : ∀ q, A q → s.heap.size ≤ q) : ∀ (r n9 : Nat), L ≤ 2 + 5 * n9 + 5 * r + 4 → n9 + r ≤ 512 → ∀ (fo : Nat → Int64) (wx wm : va_W) (H : Heap) (locs : List Loc) (ls : Array Slot), zV cI cJ cZ o0 oM n9 wx wm → lv_has ls 8 [(4, .int (nI (2 + 5 * n9))), (3, .ref qo), (2, .ref oM), (1, .ref o0), (0, .ref b)] → va_P D vwCl ((qo, .inl (cJ, 1, .inr (.inl fo))) :: (wx ++ (wm ++ []))) H → va_D A ((qo, .inl (cJ, 1, .inr (.inl fo))) :: (wx ++ (wm ++ []))) → va_S A s.heap H locs → W p l e room_1 s m #[Value.ref b] below meth c H locs (24 + n9) (1097 + 6 * n9) (lw_Z below #[Value.ref b] s) (F0 m 43 ls []) := by
  intro r
  induction r with
  | zero =>
    intro n9 h1 h2 fo wx wm H locs ls hV hl hP hD hS
    refine lv_iload hx hb dL_law_43 (lv_at hl 0 rfl) ?_
    refine lv_aload_n hx hb dL_law_45 rfl (lv_at hl 4 rfl) ?_
    refine va_slen hx hb hX hbl hbA hS dL_law_46 ?_
    refine lv_iconst (v := 5) hx hb dL_law_47 (by decide) ?_
    refine lv_isub hx hb dL_law_48 ?_
    exact lv_icmp_gt (tgt := 723) hx hb dL_law_49 (by decide) (fun _ => law_exit htr hx hb hml hown hts hX hbl hbA hA hK hG hL hr hlocks hAb (by omega) (by omega) hS) (fun h9 => absurd ((z_end (by omega) hL).mpr (by omega)) h9)
  | succ r ih =>
    intro n9 h1 h2 fo wx wm H locs ls hV hl hP hD hS
    refine lv_iload hx hb dL_law_43 (lv_at hl 0 rfl) ?_
    refine lv_aload_n hx hb dL_law_45 rfl (lv_at hl 4 rfl) ?_
    refine va_slen hx hb hX hbl hbA hS dL_law_46 ?_
    refine lv_iconst (v := 5) hx hb dL_law_47 (by decide) ?_
    refine lv_isub hx hb dL_law_48 ?_
    refine lv_icmp_gt (tgt := 723) hx hb dL_law_49 (by decide) (fun _ => law_exit htr hx hb hml hown hts hX hbl hbA hA hK hG hL hr hlocks hAb (by omega) (by omega) hS) (fun h9 => ?_)
    have hi : 2 + 5 * n9 + 5 ≤ L := Classical.byContradiction fun q => h9 ((z_end (by omega) hL).mpr q)
    refine lb_switch htr hx hb hml hown hts hX hbl hbA hA hK hG hL hV (by omega) (by omega) (by omega) hi hl hP hD hS ?_
    intro fo2 wx2 wm2 H locs ls hV hl hP hD hS
    refine lv_iinc (v := nI (2 + 5 * (n9 + 1))) (lv' := [(4, .int (nI (2 + 5 * (n9 + 1)))), (3, .ref qo), (2, .ref oM), (1, .ref o0), (0, .ref b)]) hx hb dL_law_717 hl (k := 0) rfl (nI_add (2 + 5 * n9) 5) (by decide) rfl (fun ls hl => ?_)
    refine lv_goto (tgt := 43) hx hb dL_law_720 (by decide) ?_
    refine W.widen (k := 24 + (n9 + 1)) (n := 1097 + 6 * (n9 + 1)) (by omega) (by omega) ?_
    exact ih (n9 + 1) (by omega) (by omega) fo2 wx2 wm2 H locs ls hV hl hP hD hS
