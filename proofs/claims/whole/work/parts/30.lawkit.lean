/-! WORLDS SIDE BY SIDE: a ++ (wc ++ b), the callee's cells in the middle -/
theorem pl_at (a w b : va_W) : ((List.range w.length).map (fun i => a.length + i)).map (fun i => (a ++ (w ++ b))[i]?) = w.map some := by
  rw [List.map_map, ← pj_rng w]
  apply List.map_congr_left
  intro i hi
  have h := List.mem_range.mp hi
  show (a ++ (w ++ b))[a.length + i]? = w[i]?
  rw [List.getElem?_append_right (by omega), Nat.add_sub_cancel_left, List.getElem?_append_left h]
theorem pl_nd {l : List Nat} (h : l.Nodup) : va_nd l = true := by
  induction l with
  | nil => rfl
  | cons a l ih =>
    rw [List.nodup_cons] at h
    simp [va_nd, h.1, ih h.2]
theorem pl_ndm (k n : Nat) : ((List.range n).map (fun i => k + i)).Nodup := by
  rw [List.nodup_iff_pairwise_ne]
  refine List.Pairwise.map _ ?_ (List.nodup_iff_pairwise_ne.mp (List.nodup_range (n := n)))
  intro a b h
  omega
def pl_R (a w b : va_W) : List Nat := (List.range a.length).map (fun i => 0 + i) ++ (List.range b.length).map (fun i => (a.length + w.length) + i)
theorem pl_Rn (a w b : va_W) : (pl_R a w b).Nodup := by
  refine List.nodup_append.mpr ⟨pl_ndm _ _, pl_ndm _ _, ?_⟩
  intro x hx y hy
  obtain ⟨i, hi, rfl⟩ := List.mem_map.mp hx
  obtain ⟨j, hj, rfl⟩ := List.mem_map.mp hy
  have := List.mem_range.mp hi
  omega
theorem pl_Rat (a w b : va_W) : (pl_R a w b).map (fun i => (a ++ (w ++ b))[i]?) = (a ++ b).map some := by
  rw [pl_R, List.map_append, List.map_append]
  congr 1
  · have h := pl_at [] a (w ++ b)
    simpa using h
  · have h := pl_at (a ++ w) b []
    simpa [List.append_assoc] using h
theorem pl_dis (a w b : va_W) : ∀ i ∈ pl_R a w b, i ∉ (List.range w.length).map (fun i => a.length + i) := by
  intro x hx hy
  obtain ⟨j, hj, rfl⟩ := List.mem_map.mp hy
  have hj := List.mem_range.mp hj
  rcases List.mem_append.mp hx with h | h
  · obtain ⟨i, hi, e⟩ := List.mem_map.mp h
    have hi := List.mem_range.mp hi
    omega
  · obtain ⟨i, hi, e⟩ := List.mem_map.mp h
    omega
/-- the places that bring (a ++ b) ++ w back to a ++ (w ++ b) -/
def pl_B (a w b : va_W) : List Nat := (List.range a.length).map (fun i => 0 + i) ++ ((List.range w.length).map (fun i => (a.length + b.length) + i) ++ (List.range b.length).map (fun i => a.length + i))
theorem pl_Bn (a w b : va_W) : (pl_B a w b).Nodup := by
  refine List.nodup_append.mpr ⟨pl_ndm _ _, List.nodup_append.mpr ⟨pl_ndm _ _, pl_ndm _ _, ?_⟩, ?_⟩
  · intro x hx y hy
    obtain ⟨i, hi, rfl⟩ := List.mem_map.mp hx
    obtain ⟨j, hj, rfl⟩ := List.mem_map.mp hy
    have := List.mem_range.mp hj
    omega
  · intro x hx y hy
    obtain ⟨i, hi, rfl⟩ := List.mem_map.mp hx
    have hi := List.mem_range.mp hi
    rcases List.mem_append.mp hy with h | h
    · obtain ⟨j, hj, rfl⟩ := List.mem_map.mp h
      omega
    · obtain ⟨j, hj, rfl⟩ := List.mem_map.mp h
      omega
theorem pl_Bat (a w b : va_W) : (pl_B a w b).map (fun i => ((a ++ b) ++ w)[i]?) = (a ++ (w ++ b)).map some := by
  rw [pl_B, List.map_append, List.map_append, List.map_append, List.map_append]
  congr 1
  · have h := pl_at [] a (b ++ w)
    simpa [List.append_assoc] using h
  · congr 1
    · have h := pl_at (a ++ b) w []
      simpa [List.append_assoc] using h
    · have h := pl_at a b w
      simpa [List.append_assoc] using h
section PL
variable {p : Program} {l : Launch} {e : Env} {R : Room} {s : State} {m : MethodId} {args : Array Value} {below : List Frame} {meth : Method} {c : Code} {H : Heap} {locs : List Loc} {cells slots : Nat} {Q : State → Prop}
variable {D : va_G} {cl : List vw_C} {tys : List (ClassId × FieldType)} {w w' a9 b9 wc w1 : va_W} {A : Nat → Prop} {ov : Option Value} {pc : Nat} {ls : Array Slot} {rest st0 st1 : List Value} {cc : ByteArray} {G G' : (Nat → Prop) → State → Prop} {mc ms c2 s2 : Nat}
theorem pl_sub (hP : va_P D cl (a9 ++ (wc ++ b9)) H) (hD : va_D A (a9 ++ (wc ++ b9))) : va_P D cl wc H ∧ va_D A wc := by
  have h := pl_at a9 wc b9
  exact ⟨hP.sub _ (pj_fm h), hD.sub _ (pl_nd (pl_ndm _ _)) h⟩
theorem pl_call {a : Array Value} (hr : va_Run p l e R s m args below meth c H locs cells slots mc ms (F0 m pc ls st0) rest (pj_Q ov w1 D cl (va_A wc H.size) a) (va_A wc H.size)) (hP : va_P D cl (a9 ++ (wc ++ b9)) H) (hD : va_D A (a9 ++ (wc ++ b9))) (hS : va_S A s.heap H locs) (hA : ∀ q, s.heap.size ≤ q → A q)
    (h1 : ov.toList ++ rest = st1) (hc2 : cells + mc = c2) (hs2 : slots + ms = s2)
    (kk : ∀ (H1 : Heap) (locs1 : List Loc), va_P D cl (a9 ++ (w1 ++ b9)) H1 → va_D A (a9 ++ (w1 ++ b9)) → va_S A s.heap H1 locs1 → W p l e R s m args below meth c H1 locs1 c2 s2 Q (F0 m (pc + 3) ls st1)) : W p l e R s m args below meth c H locs cells slots Q (F0 m pc ls st0) :=
  pj_call hr hP hD hS hA _ (pl_R a9 wc b9) (pl_B a9 w1 b9) (pl_at a9 wc b9) (pl_Rat a9 wc b9) (pl_nd (pl_Rn _ _ _)) (pl_dis a9 wc b9) (pl_Bat a9 w1 b9) (pl_nd (pl_Bn _ _ _)) h1 hc2 hs2 kk
theorem pl_pre {av : List Value} (hG : pj_G G') (hg : G' A s) (hK : va_K D cl tys s) (hP : va_P D cl (a9 ++ (wc ++ b9)) H) (hD : va_D A (a9 ++ (wc ++ b9))) (hS : va_S A s.heap H locs) (hA : ∀ q, s.heap.size ≤ q → A q) : PreS s H (va_Pc av (pj_In D cl tys wc G' H.size)) av :=
  pj_pre hG hg hK (pl_sub hP hD).1 (pl_sub hP hD).2 hS (va_free (wc := wc) hD hS hA _ (pl_at a9 wc b9))
theorem pl_callV {y : MethodName} {bytes : ByteArray} {maxL nL n index : Nat} {ret : Option FieldType} {wsy : List Cond} {rm : Room} {Ts : List Cond} {own C : String} {b : Nat} {As : List Value} {T : u_T} {N ci q0 : Nat} {fs : List Value}
    (S : CallFix p m c cc nL s args Ts own) (hM : pj_Met l y wsy rm D cl tys G' (.ref b :: As) wc ov w1 mc ms) (cw : CallW R s args own C index y bytes maxL ret wsy rm mc ms n) (hG : pj_G G') (hg : G' A s) (hK : va_K D cl tys s) (hP : va_P D cl (a9 ++ (wc ++ b9)) H) (hD : va_D A (a9 ++ (wc ++ b9))) (hS : va_S A s.heap H locs) (hA : ∀ q, s.heap.size ≤ q → A q)
    (hrc : cl[ci]? = some (C, T, N)) (hre : wc[q0]? = some (b, .inr (ci, fs)))
    (hAs : As.length = n) (hls : ls.size = nL) (hst : st0 = As.reverse ++ .ref b :: rest) (hroom : (rest.map fun v => v.category).sum ≤ 8) (hdg : decode cc pc = .ok (.invokevirtual index, 3)) (hf : cells + mc ≤ R.cells ∧ slots + ms ≤ R.slots) (h1 : ov.toList ++ rest = st1) (hc2 : cells + mc = c2) (hs2 : slots + ms = s2)
    (kk : ∀ (H1 : Heap) (locs1 : List Loc), va_P D cl (a9 ++ (w1 ++ b9)) H1 → va_D A (a9 ++ (w1 ++ b9)) → va_S A s.heap H1 locs1 → W p l e R s m args below meth c H1 locs1 c2 s2 Q (F0 m (pc + 3) ls st1)) : W p l e R s m args below meth c H locs cells slots Q (F0 m pc ls st0) := by
  have hpre := pl_pre (av := .ref b :: As) hG hg hK hP hD hS hA
  exact pl_call (va_runV (g := F0 m pc ls st0) (As := As) (rest := rest) S (hM H.size) cw ⟨hpre.1, va_recv hK (pl_sub hP hD).1 hrc hre, hpre.2⟩ rfl hAs hls hst (lv_room hroom) hdg hf) hP hD hS hA h1 hc2 hs2 kk
/-- a static call of a method with a table of its own -/
theorem pl_callSW {y : MethodName} {bytes : ByteArray} {maxL nL n index : Nat} {ret : Option FieldType} {hh : List (Nat × Nat × Nat × Nat)} {wsy : List Cond} {rm : Room} {Ts : List Cond} {own : String} {As : List Value}
    (S : CallFix p m c cc nL s args Ts own) (hM : pj_Met l y wsy rm D cl tys G' As wc ov w1 mc ms) (cw : vx_CSW R s args own index y bytes maxL ret hh wsy rm mc ms n) (hG : pj_G G') (hg : G' A s) (hK : va_K D cl tys s) (hP : va_P D cl (a9 ++ (wc ++ b9)) H) (hD : va_D A (a9 ++ (wc ++ b9))) (hS : va_S A s.heap H locs) (hA : ∀ q, s.heap.size ≤ q → A q)
    (hAs : As.length = n) (hls : ls.size = nL) (hst : st0 = As.reverse ++ rest) (hroom : (rest.map fun v => v.category).sum ≤ 8) (hdg : decode cc pc = .ok (.invokestatic index, 3)) (hf : cells + mc ≤ R.cells ∧ slots + ms ≤ R.slots) (h1 : ov.toList ++ rest = st1) (hc2 : cells + mc = c2) (hs2 : slots + ms = s2)
    (kk : ∀ (H1 : Heap) (locs1 : List Loc), va_P D cl (a9 ++ (w1 ++ b9)) H1 → va_D A (a9 ++ (w1 ++ b9)) → va_S A s.heap H1 locs1 → W p l e R s m args below meth c H1 locs1 c2 s2 Q (F0 m (pc + 3) ls st1)) : W p l e R s m args below meth c H locs cells slots Q (F0 m pc ls st0) :=
  pl_call (vx_runSW (g := F0 m pc ls st0) (As := As) (rest := rest) S (hM H.size) cw (pl_pre hG hg hK hP hD hS hA) rfl hAs hls hst (lv_room hroom) hdg hf) hP hD hS hA h1 hc2 hs2 kk
/-- a virtual call of a method that changes nothing -/
theorem pl_callVp {y : MethodName} {bytes : ByteArray} {maxL nL n index : Nat} {ret : Option FieldType} {wsy : List Cond} {rm : Room} {Ts : List Cond} {own C : String} {b : Nat} {As : List Value} {T : u_T} {N ci q0 : Nat} {fs : List Value}
    (S : CallFix p m c cc nL s args Ts own) (hM : pp_Met l y wsy rm D cl tys G' (.ref b :: As) wc ov) (cw : CallW R s args own C index y bytes maxL ret wsy rm 0 0 n) (hG : pj_G G') (hg : G' A s) (hK : va_K D cl tys s) (hP : va_P D cl (a9 ++ (wc ++ b9)) H) (hD : va_D A (a9 ++ (wc ++ b9))) (hS : va_S A s.heap H locs) (hA : ∀ q, s.heap.size ≤ q → A q)
    (hrc : cl[ci]? = some (C, T, N)) (hre : wc[q0]? = some (b, .inr (ci, fs)))
    (hAs : As.length = n) (hls : ls.size = nL) (hst : st0 = As.reverse ++ .ref b :: rest) (hroom : (rest.map fun v => v.category).sum ≤ 8) (hdg : decode cc pc = .ok (.invokevirtual index, 3)) (hf : cells + 0 ≤ R.cells ∧ slots + 0 ≤ R.slots) (h1 : ov.toList ++ rest = st1)
    (kk : W p l e R s m args below meth c H locs cells slots Q (F0 m (pc + 3) ls st1)) : W p l e R s m args below meth c H locs cells slots Q (F0 m pc ls st0) := by
  have hpre := pl_pre (av := .ref b :: As) hG hg hK hP hD hS hA
  exact pp_call (va_runV (g := F0 m pc ls st0) (As := As) (rest := rest) S (hM H.size) cw ⟨hpre.1, va_recv hK (pl_sub hP hD).1 hrc hre, hpre.2⟩ rfl hAs hls hst (lv_room hroom) hdg hf) h1 kk
/-- a virtual call that throws -/
theorem pl_callVt {X : String} {y : MethodName} {bytes : ByteArray} {maxL nL n index : Nat} {ret : Option FieldType} {wsy : List Cond} {rm : Room} {Ts : List Cond} {own C : String} {b : Nat} {As : List Value} {T : u_T} {N ci q0 : Nat} {fs : List Value}
    (S : CallFix p m c cc nL s args Ts own) (hM : pt_X l y wsy rm D cl tys G' (.ref b :: As) wc X) (cw : CallW R s args own C index y bytes maxL ret wsy rm 1 6 n) (hG : pj_G G') (hg : G' A s) (hK : va_K D cl tys s) (hP : va_P D cl (a9 ++ (wc ++ b9)) H) (hD : va_D A (a9 ++ (wc ++ b9))) (hS : va_S A s.heap H locs) (hA : ∀ q, s.heap.size ≤ q → A q)
    (hrc : cl[ci]? = some (C, T, N)) (hre : wc[q0]? = some (b, .inr (ci, fs)))
    (hAs : As.length = n) (hls : ls.size = nL) (hst : st0 = As.reverse ++ .ref b :: rest) (hroom : (rest.map fun v => v.category).sum ≤ 8) (hdg : decode cc pc = .ok (.invokevirtual index, 3)) (hf : cells + 1 ≤ R.cells ∧ slots + 6 ≤ R.slots)
    (kk : ∀ (x : Nat) (ce : Cell) (H1 : Heap), H1[x]? = some ce → ce.vm = .none → s.vm.findClass X = some ce.cls → va_P D cl (a9 ++ (wc ++ b9)) H1 → va_S A s.heap H1 locs →
      pt_W p l e R s m args below meth c H1 locs (cells + 1) (slots + 6) Q (F0 m pc ls rest) x) : W p l e R s m args below meth c H locs cells slots Q (F0 m pc ls st0) := by
  have hpre := pl_pre (av := .ref b :: As) hG hg hK hP hD hS hA
  refine pt_call (pt_runV (g := F0 m pc ls st0) (As := As) (rest := rest) S (hM H.size) cw ⟨hpre.1, va_recv hK (pl_sub hP hD).1 hrc hre, hpre.2⟩ rfl hAs hls hst (lv_room hroom) hdg hf) (fun x ce H1 z1 z2 z3 z4 z5 => ?_)
  refine kk x ce H1 z1 z2 z3 (hP.kept (fun k q hq => z5 q.1 (hP k q hq).lt)) ⟨Nat.le_trans hS.1 z4, fun q hq hn => ?_, hS.2.2⟩
  rw [z5 q (Nat.lt_of_lt_of_le hq hS.1)]
  exact hS.2.1 q hq hn
end PL
/-- what the law's own methods need of the state -/
def pw_G (A : Nat → Prop) (U : State) : Prop := pt_G A U ∧ va_Nc "java/lang/IllegalStateException" "java/lang/IllegalArgumentException" U
theorem pw_G_ok : pj_G pw_G := ⟨fun A U g mk a h => ⟨pt_G_ok.1 A U g mk a h.1, h.2.moved (Vm.Alike.refl U.vm)⟩, fun A B s U H locs hU hW hS hAB h => ⟨pt_G_ok.2 A B s U H locs hU hW hS hAB h.1, h.2.moved hW.alike⟩⟩
section PW
variable {l : Launch} {D : va_G} {cl : List vw_C} {tys : List (ClassId × FieldType)} {w w' : va_W} {ov : Option Value} {cc : ByteArray} {G : (Nat → Prop) → State → Prop} {mc ms : Nat}
theorem pw_of {y : MethodName} {ws ws' : List Cond} {rm : Room} {av : List Value} {maxL : Nat} {ret : Option FieldType} {hh : List (Nat × Nat × Nat × Nat)}
    (hy : plainName y.cls = true) (hw : ws = Cond.codeWith y cc maxL ret hh :: ws') (hlen : (lg_sl av).length ≤ maxL)
    (body : ∀ p e s m below meth c (A : Nat → Prop) (ls : Array Slot), p.tables.exec = Jvm.exec → c.code = cc → c.maxLocals = maxL → meth.sig.returnType = ret → c.exceptionTable.toList = tableOf hh → (∀ q ∈ ws, q.before av.toArray s = true) → s.vm.findClass y.cls = some m.cls → meth.locks = false →
      (∀ q : Nat, s.heap.size ≤ q → A q) → va_K D cl tys s → va_P D cl w s.heap → va_D A w → va_S A s.heap s.heap [] → G A s → lv_has ls maxL (lv_args 0 av) →
      W p l e rm s m av.toArray below meth c s.heap [] 0 0 (MQ below (pj_Q ov w' D cl A) av.toArray s mc ms A) (F0 m 0 ls [])) : pj_Met l y ws rm D cl tys G av w ov w' mc ms := by
  intro sz
  refine va_MetW (cc := cc) (maxL := maxL) (ret := ret) (hh := hh) hy hw ?_
  intro p e s m args below meth c s₁ B hml hv
  obtain ⟨rfl, rfl, hP, hK, hD0, hG⟩ := hv
  have hl := lv_entry av hlen
  have htab := vx_table (x := y) B (atoms_spec (ws := ws) B.pre (Cond.codeWith y cc maxL ret hh) (by rw [hw]; exact List.mem_cons_self))
  rw [lg_entry_eq]
  exact body p e s m below meth c (va_A w s.heap.size) _ B.exec B.bytes hml B.returns htab (atoms_spec (ws := ws) B.pre) (findClass_of_methodNamed B.named) B.notSynchronized
    (fun q h => Or.inr h) hK hP (hD0.self (sz := s.heap.size)) va_S.rf hG hl
end PW
theorem pj_gSW {c : Cond} {own : String} {idx ml : Nat} {y : MethodName} {b : ByteArray} {ret : Option FieldType} {hh : List (Nat × Nat × Nat × Nat)} (h1 : Cond.methodLink own idx y ∈ pjW0) (h2 : Cond.static y ∈ pjW0) (h4 : Cond.initialized y.cls ∈ pjW0) (h5 : Cond.codeWith y b ml ret hh ∈ pjW0) :
    GoodIn (c :: pjW0) (va_wsS own idx y (Cond.codeWith y b ml ret hh :: pjW0)) := by
  intro w hw
  rcases List.mem_append.mp hw with h | h
  · simp only [List.mem_cons, List.not_mem_nil, or_false] at h
    rcases h with rfl | rfl | rfl
    · exact pj_good h1
    · exact pj_good h2
    · exact pj_good h4
  · exact pj_g0 h5 w h
