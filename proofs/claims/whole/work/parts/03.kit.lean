/-! CONTRACTS BY WORLDS: the cells w come in, the answer ov and the cells w' come out; what isn't listed stays -/
def pj_Q (ov : Option Value) (w' : va_W) (D : va_G) (cl : List vw_C) (A : Nat → Prop) : Array Value → State → Outcome → State → Prop := fun _ st oc t =>
  (oc = .returned ov ∧ va_P D cl w' t.heap ∧ va_D A w') ∧ va_F A st t
/-- what is said of the start -/
def pj_In (D : va_G) (cl : List vw_C) (tys : List (ClassId × FieldType)) (w : va_W) (G : (Nat → Prop) → State → Prop) (sz : Nat) (U : State) : Prop :=
  U.heap.size = sz ∧ va_P D cl w U.heap ∧ va_K D cl tys U ∧ va_D (fun _ => True) w ∧ G (va_A w sz) U
/-- what a method needs of the state besides its world: it stays when what it may change is less, the tables are warmer, the rest of the heap is kept -/
def pj_G (G : (Nat → Prop) → State → Prop) : Prop :=
  (∀ (A : Nat → Prop) (U : State) (g : JFrame) (mk : MethodId) (a : Array Value), G A U → G A (U.calling g mk a)) ∧
  ∀ (A B : Nat → Prop) (s U : State) (H : Heap) (locs : List Loc), U.heap = H → s.WarmedH U.vm → va_S A s.heap H locs → (∀ q, B q → A q) → G A s → G B U
def pj_no : (Nat → Prop) → State → Prop := fun _ _ => True
theorem pj_no_ok : pj_G pj_no := ⟨fun _ _ _ _ _ _ => trivial, fun _ _ _ _ _ _ _ _ _ _ _ => trivial⟩
def pj_Met (l : Launch) (y : MethodName) (ws : List Cond) (rm : Room) (D : va_G) (cl : List vw_C) (tys : List (ClassId × FieldType)) (G : (Nat → Prop) → State → Prop) (av : List Value) (w : va_W) (ov : Option Value) (w' : va_W) (mc ms : Nat) : Prop := ∀ sz : Nat,
  Met l y ws rm (va_Pc av (pj_In D cl tys w G sz)) (pj_Q ov w' D cl (va_A w sz)) mc ms (va_A w sz)
theorem pj_fm {α β : Type} {f : α → Option β} {is : List α} {w : List β} (h : is.map f = w.map some) : is.filterMap f = w := by
  have h1 : (is.map f).filterMap id = (w.map some).filterMap id := by rw [h]
  simpa [List.filterMap_map, Function.comp_def] using h1
section PJ
variable {p : Program} {l : Launch} {e : Env} {R : Room} {s : State} {m : MethodId} {args : Array Value} {below : List Frame} {meth : Method} {c : Code} {H : Heap} {locs : List Loc} {cells slots : Nat} {Q : State → Prop}
variable {D : va_G} {cl : List vw_C} {tys : List (ClassId × FieldType)} {w w' w0 wc wr w1 w2 : va_W} {A : Nat → Prop} {ov : Option Value} {pc : Nat} {ls : Array Slot} {rest st0 st1 : List Value} {cc : ByteArray} {G G' : (Nat → Prop) → State → Prop} {mc ms c2 s2 : Nat}
theorem pj_of {y : MethodName} {ws ws' : List Cond} {rm : Room} {av : List Value} {maxL : Nat} {ret : Option FieldType}
    (hy : plainName y.cls = true) (hw : ws = Cond.code y cc maxL ret :: ws') (hlen : (lg_sl av).length ≤ maxL)
    (body : ∀ p e s m below meth c (A : Nat → Prop) (ls : Array Slot), p.tables.exec = Jvm.exec → c.code = cc → c.maxLocals = maxL → meth.sig.returnType = ret → (∀ q ∈ ws, q.before av.toArray s = true) → s.vm.findClass y.cls = some m.cls → meth.locks = false → meth.name = y.name →
      (∀ q : Nat, s.heap.size ≤ q → A q) → va_K D cl tys s → va_P D cl w s.heap → va_D A w → va_S A s.heap s.heap [] → G A s → lv_has ls maxL (lv_args 0 av) →
      W p l e rm s m av.toArray below meth c s.heap [] 0 0 (MQ below (pj_Q ov w' D cl A) av.toArray s mc ms A) (F0 m 0 ls [])) : pj_Met l y ws rm D cl tys G av w ov w' mc ms := by
  intro sz
  refine Met.ofW (cc := cc) (maxL := maxL) (ret := ret) hy hw ?_
  intro p e s m args below meth c s₁ B hml hv
  obtain ⟨rfl, rfl, hP, hK, hD0, hG⟩ := hv
  have hl := lv_entry av hlen
  rw [lg_entry_eq]
  exact body p e s m below meth c (va_A w s.heap.size) _ B.exec B.bytes hml B.returns (atoms_spec (ws := ws) B.pre) (findClass_of_methodNamed B.named) B.notSynchronized (name_of_methodNamed B.named B.method).1
    (fun q h => Or.inr h) hK hP (hD0.self (sz := s.heap.size)) va_S.rf hG hl
theorem pj_iret (hx : p.tables.exec = Jvm.exec) (hb : c.code = cc) (hr : meth.sig.returnType = some .int) (hlocks : meth.locks = false) {v v' : Int32} (hP : va_P D cl w0 H) (hD : va_D A w0) (hS : va_S A s.heap H locs) (hv : v = v') (hw : w0 = w') (hdg : decode cc pc = .ok (.ireturn, 1)) :
    W p l e R s m args below meth c H locs cells slots (MQ below (pj_Q (some (.int v')) w' D cl A) args s cells slots A) (F0 m pc ls [.int v]) := by
  subst hv; subst hw
  exact W.iret hx hb hr (fun t ht hW => ⟨⟨rfl, by rw [ht]; exact hP, hD⟩, hS.F ht⟩) hS.2.2 hdg hlocks
theorem pj_zret (hx : p.tables.exec = Jvm.exec) (hb : c.code = cc) (hr : meth.sig.returnType = some .boolean) (hlocks : meth.locks = false) {v v' : Int32} (hP : va_P D cl w0 H) (hD : va_D A w0) (hS : va_S A s.heap H locs) (hv : v = v') (hw : w0 = w') (h01 : narrow .boolean (.int v') = .int v') (hdg : decode cc pc = .ok (.ireturn, 1)) :
    W p l e R s m args below meth c H locs cells slots (MQ below (pj_Q (some (.int v')) w' D cl A) args s cells slots A) (F0 m pc ls [.int v]) := by
  subst hv; subst hw
  exact W.zret hx hb hr h01 (fun t ht hW => ⟨⟨rfl, by rw [ht]; exact hP, hD⟩, hS.F ht⟩) hS.2.2 hdg hlocks
theorem pj_lret (hx : p.tables.exec = Jvm.exec) (hb : c.code = cc) (hr : meth.sig.returnType = some .long) (hlocks : meth.locks = false) {v v' : Int64} (hP : va_P D cl w0 H) (hD : va_D A w0) (hS : va_S A s.heap H locs) (hv : v = v') (hw : w0 = w') (hdg : decode cc pc = .ok (.lreturn, 1)) :
    W p l e R s m args below meth c H locs cells slots (MQ below (pj_Q (some (.long v')) w' D cl A) args s cells slots A) (F0 m pc ls [.long v]) := by
  subst hv; subst hw
  exact W.lret hx hb hr (fun t ht hW => ⟨⟨rfl, by rw [ht]; exact hP, hD⟩, hS.F ht⟩) hS.2.2 hdg hlocks
theorem pj_vret (hx : p.tables.exec = Jvm.exec) (hb : c.code = cc) (hr : meth.sig.returnType = none) (hlocks : meth.locks = false) (hP : va_P D cl w0 H) (hD : va_D A w0) (hS : va_S A s.heap H locs) (hw : w0 = w') (hdg : decode cc pc = .ok (.return_, 1)) :
    W p l e R s m args below meth c H locs cells slots (MQ below (pj_Q none w' D cl A) args s cells slots A) (F0 m pc ls []) := by
  subst hw
  exact W.vret hx hb hr (fun t ht hW => ⟨⟨rfl, by rw [ht]; exact hP, hD⟩, hS.F ht⟩) hS.2.2 hdg hlocks
/-- behind a call of a method with a contract by worlds -/
theorem pj_call {a : Array Value} (hr : va_Run p l e R s m args below meth c H locs cells slots mc ms (F0 m pc ls st0) rest (pj_Q ov w1 D cl (va_A wc H.size) a) (va_A wc H.size)) (hP : va_P D cl w H) (hD : va_D A w) (hS : va_S A s.heap H locs) (hA : ∀ q, s.heap.size ≤ q → A q)
    (isC isR isP : List Nat) (hC : isC.map (fun i => w[i]?) = wc.map some) (hR : isR.map (fun i => w[i]?) = wr.map some) (hn : va_nd isR = true) (hdis : ∀ i ∈ isR, i ∉ isC) (hp : isP.map (fun i => (wr ++ w1)[i]?) = w2.map some) (hpn : va_nd isP = true)
    (h1 : ov.toList ++ rest = st1) (hc2 : cells + mc = c2) (hs2 : slots + ms = s2)
    (kk : ∀ (H1 : Heap) (locs1 : List Loc), va_P D cl w2 H1 → va_D A w2 → va_S A s.heap H1 locs1 → W p l e R s m args below meth c H1 locs1 c2 s2 Q (F0 m (pc + 3) ls st1)) : W p l e R s m args below meth c H locs cells slots Q (F0 m pc ls st0) := by
  subst h1; subst hc2; subst hs2
  intro T hT X
  have hF := va_free (wc := wc) hD hS hA isC hC
  obtain ⟨v, st₀, t, T', L, h0, X', hL, e1, e2, ⟨⟨hv, hP1, hD1⟩, hFr⟩, st⟩ := hr T hT X
  cases hv
  have hk : ∀ q : Nat, q < H.size → ¬ va_A wc H.size q → t.heap[q]? = H[q]? := by
    intro q hq hnq
    have h5 := hFr.2 q (by rw [h0]; exact hq) hnq
    rw [h0] at h5
    exact h5
  have hz : H.size ≤ t.heap.size := by
    have h5 := hFr.1
    rw [h0] at h5
    exact h5
  obtain ⟨hP2, hD2⟩ := va_join hP hD isC isR hC hR hn hdis hk hF hP1 hD1
  have hS2 : va_S A s.heap t.heap (locs ++ L) := by
    refine ⟨Nat.le_trans hS.1 hz, fun q hq hnq => ?_, fun z hz => ?_⟩
    · rw [hk q (Nat.lt_of_lt_of_le hq hS.1) (fun h => hnq (hF q h))]
      exact hS.2.1 q hq hnq
    · rcases List.mem_append.mp hz with h1 | h1
      · exact hS.2.2 z h1
      · exact hF _ (hL z h1)
  obtain ⟨t2, a1, b1⟩ := kk t.heap (locs ++ L) (hP2.sub isP (pj_fm hp)) (hD2.sub isP hpn hp) hS2 T' e1 X'
  exact ⟨t2, st t2 a1, b1⟩
theorem pj_pre {wc : va_W} {av : List Value} (hG : pj_G G') (hg : G' A s) (hK : va_K D cl tys s) (hP : va_P D cl wc H) (hD : va_D A wc) (hS : va_S A s.heap H locs) (hF : ∀ q, va_A wc H.size q → A q) : PreS s H (va_Pc av (pj_In D cl tys wc G' H.size)) av :=
  ⟨fun a U g mk q => by obtain ⟨q0, q1, qP, qK, qD, qG⟩ := q; exact ⟨q0, q1, qP, va_K.moved (u := U) (U := U.calling g mk a) (Vm.Alike.refl U.vm) qK, qD, hG.1 _ _ _ _ _ qG⟩,
   fun U hU hW => ⟨rfl, by rw [hU], by rw [hU]; exact hP, va_K.moved hW.alike hK, hD.weaken (fun _ _ _ _ => trivial), hG.2 _ _ _ _ _ _ hU hW hS hF hg⟩⟩
/-- a virtual call -/
theorem pj_callV {y : MethodName} {bytes : ByteArray} {maxL nL n index : Nat} {ret : Option FieldType} {wsy : List Cond} {rm : Room} {Ts : List Cond} {own C : String} {b : Nat} {As : List Value} {T : u_T} {N ci q0 : Nat} {fs : List Value}
    (S : CallFix p m c cc nL s args Ts own) (hM : pj_Met l y wsy rm D cl tys G' (.ref b :: As) wc ov w1 mc ms) (cw : CallW R s args own C index y bytes maxL ret wsy rm mc ms n) (hG : pj_G G') (hg : G' A s) (hK : va_K D cl tys s) (hP : va_P D cl w H) (hD : va_D A w) (hS : va_S A s.heap H locs) (hA : ∀ q, s.heap.size ≤ q → A q)
    (hrc : cl[ci]? = some (C, T, N)) (hre : wc[q0]? = some (b, .inr (ci, fs))) (isC isR isP : List Nat) (hC : isC.map (fun i => w[i]?) = wc.map some) (hCn : va_nd isC = true) (hR : isR.map (fun i => w[i]?) = wr.map some) (hn : va_nd isR = true) (hdis : ∀ i ∈ isR, i ∉ isC) (hp : isP.map (fun i => (wr ++ w1)[i]?) = w2.map some) (hpn : va_nd isP = true)
    (hAs : As.length = n) (hls : ls.size = nL) (hst : st0 = As.reverse ++ .ref b :: rest) (hroom : (rest.map fun v => v.category).sum ≤ 8) (hdg : decode cc pc = .ok (.invokevirtual index, 3)) (hf : cells + mc ≤ R.cells ∧ slots + ms ≤ R.slots) (h1 : ov.toList ++ rest = st1) (hc2 : cells + mc = c2) (hs2 : slots + ms = s2)
    (kk : ∀ (H1 : Heap) (locs1 : List Loc), va_P D cl w2 H1 → va_D A w2 → va_S A s.heap H1 locs1 → W p l e R s m args below meth c H1 locs1 c2 s2 Q (F0 m (pc + 3) ls st1)) : W p l e R s m args below meth c H locs cells slots Q (F0 m pc ls st0) := by
  have hPc := hP.sub isC (pj_fm hC)
  have hDc := hD.sub isC hCn hC
  have hpre := pj_pre (av := .ref b :: As) hG hg hK hPc hDc hS (va_free (wc := wc) hD hS hA isC hC)
  exact pj_call (va_runV (g := F0 m pc ls st0) (As := As) (rest := rest) S (hM H.size) cw ⟨hpre.1, va_recv hK hPc hrc hre, hpre.2⟩ rfl hAs hls hst (lv_room hroom) hdg hf) hP hD hS hA isC isR isP hC hR hn hdis hp hpn h1 hc2 hs2 kk
/-- a static call -/
theorem pj_callS {y : MethodName} {bytes : ByteArray} {maxL nL n index : Nat} {ret : Option FieldType} {wsy : List Cond} {rm : Room} {Ts : List Cond} {own : String} {As : List Value}
    (S : CallFix p m c cc nL s args Ts own) (hM : pj_Met l y wsy rm D cl tys G' As wc ov w1 mc ms) (cw : CallB R s args own index y bytes maxL ret wsy rm mc ms n ∧ (Cond.static y).before args s = true) (hG : pj_G G') (hg : G' A s) (hK : va_K D cl tys s) (hP : va_P D cl w H) (hD : va_D A w) (hS : va_S A s.heap H locs) (hA : ∀ q, s.heap.size ≤ q → A q)
    (isC isR isP : List Nat) (hC : isC.map (fun i => w[i]?) = wc.map some) (hCn : va_nd isC = true) (hR : isR.map (fun i => w[i]?) = wr.map some) (hn : va_nd isR = true) (hdis : ∀ i ∈ isR, i ∉ isC) (hp : isP.map (fun i => (wr ++ w1)[i]?) = w2.map some) (hpn : va_nd isP = true)
    (hAs : As.length = n) (hls : ls.size = nL) (hst : st0 = As.reverse ++ rest) (hroom : (rest.map fun v => v.category).sum ≤ 8) (hdg : decode cc pc = .ok (.invokestatic index, 3)) (hf : cells + mc ≤ R.cells ∧ slots + ms ≤ R.slots) (h1 : ov.toList ++ rest = st1) (hc2 : cells + mc = c2) (hs2 : slots + ms = s2)
    (kk : ∀ (H1 : Heap) (locs1 : List Loc), va_P D cl w2 H1 → va_D A w2 → va_S A s.heap H1 locs1 → W p l e R s m args below meth c H1 locs1 c2 s2 Q (F0 m (pc + 3) ls st1)) : W p l e R s m args below meth c H locs cells slots Q (F0 m pc ls st0) := by
  have hPc := hP.sub isC (pj_fm hC)
  have hDc := hD.sub isC hCn hC
  have hpre := pj_pre (av := As) hG hg hK hPc hDc hS (va_free (wc := wc) hD hS hA isC hC)
  exact pj_call (va_runS (g := F0 m pc ls st0) (As := As) (rest := rest) S (hM H.size) cw hpre rfl hAs hls hst (lv_room hroom) hdg hf) hP hD hS hA isC isR isP hC hR hn hdis hp hpn h1 hc2 hs2 kk
theorem pj_rng (w : va_W) : (List.range w.length).map (fun i => w[i]?) = w.map some := by
  apply List.ext_getElem?
  intro i
  by_cases h : i < w.length
  · simp [h]
  · simp [Nat.le_of_not_lt h]
theorem pj_ndr (k : Nat) : va_nd (List.range k) = true := by
  have h : ∀ l : List Nat, l.Nodup → va_nd l = true := by
    intro l
    induction l with
    | nil => intro _; rfl
    | cons a l ih =>
      intro hn
      rw [List.nodup_cons] at hn
      simp [va_nd, hn.1, ih hn.2]
  exact h _ List.nodup_range
/-- a virtual call of a method whose cells are all the cells -/
theorem pj_callVw {y : MethodName} {bytes : ByteArray} {maxL nL n index : Nat} {ret : Option FieldType} {wsy : List Cond} {rm : Room} {Ts : List Cond} {own C : String} {b : Nat} {As : List Value} {T : u_T} {N ci q0 : Nat} {fs : List Value}
    (S : CallFix p m c cc nL s args Ts own) (hM : pj_Met l y wsy rm D cl tys G' (.ref b :: As) w ov w1 mc ms) (cw : CallW R s args own C index y bytes maxL ret wsy rm mc ms n) (hG : pj_G G') (hg : G' A s) (hK : va_K D cl tys s) (hP : va_P D cl w H) (hD : va_D A w) (hS : va_S A s.heap H locs) (hA : ∀ q, s.heap.size ≤ q → A q)
    (hrc : cl[ci]? = some (C, T, N)) (hre : w[q0]? = some (b, .inr (ci, fs)))
    (hAs : As.length = n) (hls : ls.size = nL) (hst : st0 = As.reverse ++ .ref b :: rest) (hroom : (rest.map fun v => v.category).sum ≤ 8) (hdg : decode cc pc = .ok (.invokevirtual index, 3)) (hf : cells + mc ≤ R.cells ∧ slots + ms ≤ R.slots) (h1 : ov.toList ++ rest = st1) (hc2 : cells + mc = c2) (hs2 : slots + ms = s2)
    (kk : ∀ (H1 : Heap) (locs1 : List Loc), va_P D cl w1 H1 → va_D A w1 → va_S A s.heap H1 locs1 → W p l e R s m args below meth c H1 locs1 c2 s2 Q (F0 m (pc + 3) ls st1)) : W p l e R s m args below meth c H locs cells slots Q (F0 m pc ls st0) :=
  pj_callV (wr := []) (w2 := w1) S hM cw hG hg hK hP hD hS hA hrc hre (List.range w.length) [] (List.range w1.length) (pj_rng w) (pj_ndr _) rfl rfl (fun i h => by cases h) (pj_rng w1) (pj_ndr _) hAs hls hst hroom hdg hf h1 hc2 hs2 kk
end PJ
/-! constructors: what comes out is said by B -/
def pj_QB (ov : Option Value) (B : (Nat → Prop) → State → Prop) (A : Nat → Prop) : Array Value → State → Outcome → State → Prop := fun _ st oc t => (oc = .returned ov ∧ B A t) ∧ va_F A st t
def pj_MetB (l : Launch) (y : MethodName) (ws : List Cond) (rm : Room) (D : va_G) (cl : List vw_C) (tys : List (ClassId × FieldType)) (G : (Nat → Prop) → State → Prop) (av : List Value) (w : va_W) (ov : Option Value) (B : (Nat → Prop) → State → Prop) (mc ms : Nat) : Prop := ∀ sz : Nat,
  Met l y ws rm (va_Pc av (pj_In D cl tys w G sz)) (pj_QB ov B (va_A w sz)) mc ms (va_A w sz)
section PJB
variable {p : Program} {l : Launch} {e : Env} {R : Room} {s : State} {m : MethodId} {args : Array Value} {below : List Frame} {meth : Method} {c : Code} {H : Heap} {locs : List Loc} {cells slots : Nat} {Q : State → Prop}
variable {D : va_G} {cl : List vw_C} {tys : List (ClassId × FieldType)} {w wc wr : va_W} {A : Nat → Prop} {ov : Option Value} {pc : Nat} {ls : Array Slot} {rest st0 : List Value} {cc : ByteArray} {G G' : (Nat → Prop) → State → Prop} {mc ms c2 s2 : Nat} {B : (Nat → Prop) → State → Prop}
theorem pb_of {y : MethodName} {ws ws' : List Cond} {rm : Room} {av : List Value} {maxL : Nat} {ret : Option FieldType}
    (hy : plainName y.cls = true) (hw : ws = Cond.code y cc maxL ret :: ws') (hlen : (lg_sl av).length ≤ maxL)
    (body : ∀ p e s m below meth c (A : Nat → Prop) (ls : Array Slot), p.tables.exec = Jvm.exec → c.code = cc → c.maxLocals = maxL → meth.sig.returnType = ret → (∀ q ∈ ws, q.before av.toArray s = true) → s.vm.findClass y.cls = some m.cls → meth.locks = false → meth.name = y.name →
      (∀ q : Nat, s.heap.size ≤ q → A q) → va_K D cl tys s → va_P D cl w s.heap → va_D A w → va_S A s.heap s.heap [] → G A s → lv_has ls maxL (lv_args 0 av) →
      W p l e rm s m av.toArray below meth c s.heap [] 0 0 (MQ below (pj_QB ov B A) av.toArray s mc ms A) (F0 m 0 ls [])) : pj_MetB l y ws rm D cl tys G av w ov B mc ms := by
  intro sz
  refine Met.ofW (cc := cc) (maxL := maxL) (ret := ret) hy hw ?_
  intro p e s m args below meth c s₁ Bd hml hv
  obtain ⟨rfl, rfl, hP, hK, hD0, hG⟩ := hv
  have hl := lv_entry av hlen
  rw [lg_entry_eq]
  exact body p e s m below meth c (va_A w s.heap.size) _ Bd.exec Bd.bytes hml Bd.returns (atoms_spec (ws := ws) Bd.pre) (findClass_of_methodNamed Bd.named) Bd.notSynchronized (name_of_methodNamed Bd.named Bd.method).1
    (fun q h => Or.inr h) hK hP (hD0.self (sz := s.heap.size)) va_S.rf hG hl
theorem pb_vret (hx : p.tables.exec = Jvm.exec) (hb : c.code = cc) (hr : meth.sig.returnType = none) (hlocks : meth.locks = false) (hc : cells ≤ c2) (hs : slots ≤ s2) (hB : ∀ t : State, t.heap = H → B A t) (hS : va_S A s.heap H locs) (hdg : decode cc pc = .ok (.return_, 1)) :
    W p l e R s m args below meth c H locs cells slots (MQ below (pj_QB none B A) args s c2 s2 A) (F0 m pc ls []) :=
  W.widen hc hs (W.vret hx hb hr (fun t ht hW => ⟨⟨rfl, hB t ht⟩, hS.F ht⟩) hS.2.2 hdg hlocks)
theorem pb_callI {y : MethodName} {bytes : ByteArray} {maxL nL n index : Nat} {wsy : List Cond} {rm : Room} {Ts : List Cond} {own : String} {b : Nat} {As : List Value}
    (S : CallFix p m c cc nL s args Ts own) (hM : pj_MetB l y wsy rm D cl tys G' (.ref b :: As) wc none B mc ms) (cw : CallB R s args own index y bytes maxL none wsy rm mc ms n ∧ y.name = "<init>" ∧ (Cond.instanceMethod y).before args s = true) (hG : pj_G G') (hg : G' A s) (hK : va_K D cl tys s) (hP : va_P D cl w H) (hD : va_D A w) (hS : va_S A s.heap H locs) (hA : ∀ q, s.heap.size ≤ q → A q)
    (isC isR : List Nat) (hC : isC.map (fun i => w[i]?) = wc.map some) (hCn : va_nd isC = true) (hR : isR.map (fun i => w[i]?) = wr.map some) (hn : va_nd isR = true) (hdis : ∀ i ∈ isR, i ∉ isC)
    (hAs : As.length = n) (hls : ls.size = nL) (hst : st0 = As.reverse ++ .ref b :: rest) (hroom : (rest.map fun v => v.category).sum ≤ 8) (hdg : decode cc pc = .ok (.invokespecial index, 3)) (hf : cells + mc ≤ R.cells ∧ slots + ms ≤ R.slots) (hc2 : cells + mc = c2) (hs2 : slots + ms = s2)
    (kk : ∀ (t : State) (locs1 : List Loc), B (va_A wc H.size) t → (∀ w1, va_P D cl w1 t.heap → va_D (va_A wc H.size) w1 → va_P D cl (wr ++ w1) t.heap ∧ va_D A (wr ++ w1)) → va_S A s.heap t.heap locs1 → W p l e R s m args below meth c t.heap locs1 c2 s2 Q (F0 m (pc + 3) ls rest)) : W p l e R s m args below meth c H locs cells slots Q (F0 m pc ls st0) := by
  subst hc2; subst hs2
  have hPc := hP.sub isC (pj_fm hC)
  have hDc := hD.sub isC hCn hC
  have hF := va_free (wc := wc) hD hS hA isC hC
  have hpre := pj_pre (av := .ref b :: As) hG hg hK hPc hDc hS hF
  have hr : va_Run p l e R s m args below meth c H locs cells slots mc ms (F0 m pc ls st0) rest (pj_QB none B (va_A wc H.size) (Value.ref b :: As).toArray) (va_A wc H.size) := va_runI (g := F0 m pc ls st0) (As := As) (rest := rest) S (hM H.size) cw hpre rfl hAs hls hst (lv_room hroom) hdg hf
  intro T hT X
  obtain ⟨v, st₀, t, T', L, h0, X', hL, e1, e2, ⟨⟨hv, hB⟩, hFr⟩, st⟩ := hr T hT X
  cases hv
  have hk : ∀ q : Nat, q < H.size → ¬ va_A wc H.size q → t.heap[q]? = H[q]? := by
    intro q hq hnq
    have h5 := hFr.2 q (by rw [h0]; exact hq) hnq
    rw [h0] at h5
    exact h5
  have hz : H.size ≤ t.heap.size := by
    have h5 := hFr.1
    rw [h0] at h5
    exact h5
  have hS2 : va_S A s.heap t.heap (locs ++ L) := by
    refine ⟨Nat.le_trans hS.1 hz, fun q hq hnq => ?_, fun z hz => ?_⟩
    · rw [hk q (Nat.lt_of_lt_of_le hq hS.1) (fun h => hnq (hF q h))]
      exact hS.2.1 q hq hnq
    · rcases List.mem_append.mp hz with h1 | h1
      · exact hS.2.2 z h1
      · exact hF _ (hL z h1)
  obtain ⟨t2, a1, b1⟩ := kk t (locs ++ L) hB (fun w1 hP1 hD1 => va_join hP hD isC isR hC hR hn hdis hk hF hP1 hD1) hS2 T' e1 X'
  exact ⟨t2, st t2 a1, b1⟩
/-- an array that is made is of the class that the tables name -/
theorem pj_same {ty : FieldType} {cA cB : ClassId} {t0 : Nat} (h : va_K D cl (tys ++ [(cA, ty)]) s) (ht : tys[t0]? = some (cB, ty)) (hp : ∀ C, ty ≠ .object C) : cA = cB := by
  have h1 := (h.2 tys.length (cA, ty) (by simp)).2
  have hlt : t0 < tys.length := (List.getElem?_eq_some_iff.mp ht).1
  have h2 := (h.2 t0 (cB, ty) (by rw [List.getElem?_append_left hlt]; exact ht)).2
  cases ty with
  | object C => exact absurd rfl (hp C)
  | _ => simp only [va_RA] at h1 h2; exact Option.some.inj (h1.symm.trans h2)
end PJB
/-! METHODS THAT CHANGE NOTHING: the heap behind them is the heap ahead of them -/
def pp_Q (ov : Option Value) : Array Value → State → Outcome → State → Prop := fun _ st oc t => oc = .returned ov ∧ t.heap = st.heap
def pp_Met (l : Launch) (y : MethodName) (ws : List Cond) (rm : Room) (D : va_G) (cl : List vw_C) (tys : List (ClassId × FieldType)) (G : (Nat → Prop) → State → Prop) (av : List Value) (w : va_W) (ov : Option Value) : Prop := ∀ sz : Nat,
  Met l y ws rm (va_Pc av (pj_In D cl tys w G sz)) (pp_Q ov) 0 0 (fun _ => False)
section PP
variable {p : Program} {l : Launch} {e : Env} {R : Room} {s : State} {m : MethodId} {args : Array Value} {below : List Frame} {meth : Method} {c : Code} {H : Heap} {locs : List Loc} {cells slots : Nat} {Q : State → Prop}
variable {D : va_G} {cl : List vw_C} {tys : List (ClassId × FieldType)} {w wc : va_W} {A : Nat → Prop} {ov : Option Value} {pc : Nat} {ls : Array Slot} {rest st0 st1 : List Value} {cc : ByteArray} {G G' : (Nat → Prop) → State → Prop}
theorem pp_of {y : MethodName} {ws ws' : List Cond} {rm : Room} {av : List Value} {maxL : Nat} {ret : Option FieldType}
    (hy : plainName y.cls = true) (hw : ws = Cond.code y cc maxL ret :: ws') (hlen : (lg_sl av).length ≤ maxL)
    (body : ∀ p e s m below meth c (A : Nat → Prop) (ls : Array Slot), p.tables.exec = Jvm.exec → c.code = cc → c.maxLocals = maxL → meth.sig.returnType = ret → (∀ q ∈ ws, q.before av.toArray s = true) → s.vm.findClass y.cls = some m.cls → meth.locks = false →
      (∀ q : Nat, s.heap.size ≤ q → A q) → va_K D cl tys s → va_P D cl w s.heap → va_D A w → va_S A s.heap s.heap [] → G A s → lv_has ls maxL (lv_args 0 av) →
      W p l e rm s m av.toArray below meth c s.heap [] 0 0 (MQ below (pp_Q ov) av.toArray s 0 0 (fun _ => False)) (F0 m 0 ls [])) : pp_Met l y ws rm D cl tys G av w ov := by
  intro sz
  refine Met.ofW (cc := cc) (maxL := maxL) (ret := ret) hy hw ?_
  intro p e s m args below meth c s₁ B hml hv
  obtain ⟨rfl, rfl, hP, hK, hD0, hG⟩ := hv
  have hl := lv_entry av hlen
  rw [lg_entry_eq]
  exact body p e s m below meth c (va_A w s.heap.size) _ B.exec B.bytes hml B.returns (atoms_spec (ws := ws) B.pre) (findClass_of_methodNamed B.named) B.notSynchronized
    (fun q h => Or.inr h) hK hP (hD0.self (sz := s.heap.size)) va_S.rf hG hl
theorem pp_iret (hx : p.tables.exec = Jvm.exec) (hb : c.code = cc) (hr : meth.sig.returnType = some .int) (hlocks : meth.locks = false) {v v' : Int32} (hv : v = v') (hdg : decode cc pc = .ok (.ireturn, 1)) :
    W p l e R s m args below meth c s.heap [] cells slots (MQ below (pp_Q (some (.int v'))) args s cells slots (fun _ => False)) (F0 m pc ls [.int v]) := by
  subst hv
  exact W.iret hx hb hr (fun t ht hW => ⟨rfl, ht⟩) (fun q h => by cases h) hdg hlocks
theorem pp_zret (hx : p.tables.exec = Jvm.exec) (hb : c.code = cc) (hr : meth.sig.returnType = some .boolean) (hlocks : meth.locks = false) {v v' : Int32} (hv : v = v') (h01 : narrow .boolean (.int v') = .int v') (hdg : decode cc pc = .ok (.ireturn, 1)) :
    W p l e R s m args below meth c s.heap [] cells slots (MQ below (pp_Q (some (.int v'))) args s cells slots (fun _ => False)) (F0 m pc ls [.int v]) := by
  subst hv
  exact W.zret hx hb hr h01 (fun t ht hW => ⟨rfl, ht⟩) (fun q h => by cases h) hdg hlocks
theorem pp_lret (hx : p.tables.exec = Jvm.exec) (hb : c.code = cc) (hr : meth.sig.returnType = some .long) (hlocks : meth.locks = false) {v v' : Int64} (hv : v = v') (hdg : decode cc pc = .ok (.lreturn, 1)) :
    W p l e R s m args below meth c s.heap [] cells slots (MQ below (pp_Q (some (.long v'))) args s cells slots (fun _ => False)) (F0 m pc ls [.long v]) := by
  subst hv
  exact W.lret hx hb hr (fun t ht hW => ⟨rfl, ht⟩) (fun q h => by cases h) hdg hlocks
theorem pp_vret (hx : p.tables.exec = Jvm.exec) (hb : c.code = cc) (hr : meth.sig.returnType = none) (hlocks : meth.locks = false) (hdg : decode cc pc = .ok (.return_, 1)) :
    W p l e R s m args below meth c s.heap [] cells slots (MQ below (pp_Q none) args s cells slots (fun _ => False)) (F0 m pc ls []) :=
  W.vret hx hb hr (fun t ht hW => ⟨rfl, ht⟩) (fun q h => by cases h) hdg hlocks
theorem pp_call {a : Array Value} (hr : va_Run p l e R s m args below meth c H locs cells slots 0 0 (F0 m pc ls st0) rest (pp_Q ov a) (fun _ => False)) (h1 : ov.toList ++ rest = st1)
    (kk : W p l e R s m args below meth c H locs cells slots Q (F0 m (pc + 3) ls st1)) : W p l e R s m args below meth c H locs cells slots Q (F0 m pc ls st0) := by
  subst h1
  intro T hT X
  obtain ⟨v, st₀, t, T', L, h0, X', hL, e1, e2, ⟨hv, hh⟩, st⟩ := hr T hT X
  cases hv
  have hLn : L = [] := List.eq_nil_iff_forall_not_mem.mpr (fun q h => hL q h)
  subst hLn
  rw [List.append_nil] at X'
  obtain ⟨t2, a1, b1⟩ := kk T' (by rw [e1, hh, h0]) X'
  exact ⟨t2, st t2 a1, b1⟩
theorem pp_callV {y : MethodName} {bytes : ByteArray} {maxL nL n index : Nat} {ret : Option FieldType} {wsy : List Cond} {rm : Room} {Ts : List Cond} {own C : String} {b : Nat} {As : List Value} {T : u_T} {N ci q0 : Nat} {fs : List Value}
    (S : CallFix p m c cc nL s args Ts own) (hM : pp_Met l y wsy rm D cl tys G' (.ref b :: As) wc ov) (cw : CallW R s args own C index y bytes maxL ret wsy rm 0 0 n) (hG : pj_G G') (hg : G' A s) (hK : va_K D cl tys s) (hP : va_P D cl w H) (hD : va_D A w) (hS : va_S A s.heap H locs) (hA : ∀ q, s.heap.size ≤ q → A q)
    (hrc : cl[ci]? = some (C, T, N)) (hre : wc[q0]? = some (b, .inr (ci, fs))) (isC : List Nat) (hC : isC.map (fun i => w[i]?) = wc.map some) (hCn : va_nd isC = true)
    (hAs : As.length = n) (hls : ls.size = nL) (hst : st0 = As.reverse ++ .ref b :: rest) (hroom : (rest.map fun v => v.category).sum ≤ 8) (hdg : decode cc pc = .ok (.invokevirtual index, 3)) (hf : cells + 0 ≤ R.cells ∧ slots + 0 ≤ R.slots) (h1 : ov.toList ++ rest = st1)
    (kk : W p l e R s m args below meth c H locs cells slots Q (F0 m (pc + 3) ls st1)) : W p l e R s m args below meth c H locs cells slots Q (F0 m pc ls st0) := by
  have hPc := hP.sub isC (pj_fm hC)
  have hDc := hD.sub isC hCn hC
  have hpre := pj_pre (av := .ref b :: As) hG hg hK hPc hDc hS (va_free (wc := wc) hD hS hA isC hC)
  exact pp_call (va_runV (g := F0 m pc ls st0) (As := As) (rest := rest) S (hM H.size) cw ⟨hpre.1, va_recv hK hPc hrc hre, hpre.2⟩ rfl hAs hls hst (lv_room hroom) hdg hf) h1 kk
theorem pp_callS {y : MethodName} {bytes : ByteArray} {maxL nL n index : Nat} {ret : Option FieldType} {wsy : List Cond} {rm : Room} {Ts : List Cond} {own : String} {As : List Value}
    (S : CallFix p m c cc nL s args Ts own) (hM : pp_Met l y wsy rm D cl tys G' As wc ov) (cw : CallB R s args own index y bytes maxL ret wsy rm 0 0 n ∧ (Cond.static y).before args s = true) (hG : pj_G G') (hg : G' A s) (hK : va_K D cl tys s) (hP : va_P D cl w H) (hD : va_D A w) (hS : va_S A s.heap H locs) (hA : ∀ q, s.heap.size ≤ q → A q)
    (isC : List Nat) (hC : isC.map (fun i => w[i]?) = wc.map some) (hCn : va_nd isC = true)
    (hAs : As.length = n) (hls : ls.size = nL) (hst : st0 = As.reverse ++ rest) (hroom : (rest.map fun v => v.category).sum ≤ 8) (hdg : decode cc pc = .ok (.invokestatic index, 3)) (hf : cells + 0 ≤ R.cells ∧ slots + 0 ≤ R.slots) (h1 : ov.toList ++ rest = st1)
    (kk : W p l e R s m args below meth c H locs cells slots Q (F0 m (pc + 3) ls st1)) : W p l e R s m args below meth c H locs cells slots Q (F0 m pc ls st0) := by
  have hPc := hP.sub isC (pj_fm hC)
  have hDc := hD.sub isC hCn hC
  have hpre := pj_pre (av := As) hG hg hK hPc hDc hS (va_free (wc := wc) hD hS hA isC hC)
  exact pp_call (va_runS (g := F0 m pc ls st0) (As := As) (rest := rest) S (hM H.size) cw hpre rfl hAs hls hst (lv_room hroom) hdg hf) h1 kk
end PP
