/-! THROWING: contracts of methods that throw (pt_Met), the walk with a note over the frame (pt_W), calls of such methods, the way out, the way into a handler -/
/-- a method's end by a throw -/
def pt_End (first : State) (o : Outcome) (t : State) (L : List Loc) (k n : Nat) : Prop :=
  (∃ x, o = .threw x) ∧ first.WarmedH t.vm ∧ first.sameButNew ({ t with vm := first.vm } : State) L k n
/-- the contract of a method that throws -/
def pt_Met (l : Launch) (y : MethodName) (ws : List Cond) (rm : Room) (Pc : Array Value → State → Prop) (Qc : Array Value → State → Outcome → State → Prop) (mc ms : Nat) (free : Addr → Prop) : Prop :=
  MetFree l y (headSpec ws rm) Pc (fun _ _ _ _ _ => True) (fun a st o t => Qc a st o t ∧ ∃ L, pt_End st o t L mc ms ∧ ∀ q ∈ L, free q.base)
def pt_MQ (below : List Frame) (Qc : Array Value → State → Outcome → State → Prop) (a : Array Value) (s : State) (mc ms : Nat) (free : Addr → Prop) : State → Prop := fun t =>
  ∃ o, t.status = .running ∧ Ended t below o ∧ Qc a s o t ∧ ∃ L, pt_End s o t L mc ms ∧ ∀ q ∈ L, free q.base
/-- what is said behind a throw: which class, and that every old cell is as it was -/
def pt_Q (X : String) : Array Value → State → Outcome → State → Prop := fun _ st oc t =>
  ∃ (x : Nat) (ce : Cell), oc = .threw x ∧ t.heap[x]? = some ce ∧ ce.vm = .none ∧ t.vm.findClass X = some ce.cls ∧ st.heap.size ≤ t.heap.size ∧ ∀ q : Nat, q < st.heap.size → t.heap[q]? = st.heap[q]?
/-- the contract of a method that throws an X, over a world -/
def pt_X (l : Launch) (y : MethodName) (ws : List Cond) (rm : Room) (D : va_G) (cl : List vw_C) (tys : List (ClassId × FieldType)) (G : (Nat → Prop) → State → Prop) (av : List Value) (w : va_W) (X : String) : Prop := ∀ sz : Nat,
  pt_Met l y ws rm (va_Pc av (pj_In D cl tys w G sz)) (pt_Q X) 1 6 (fun _ => False)
section PT
variable {p : Program} {l : Launch} {e : Env} {R : Room} {s : State} {m : MethodId} {args : Array Value} {below : List Frame} {meth : Method} {c : Code} {H : Heap} {locs : List Loc} {cells slots : Nat} {Q : State → Prop}
theorem pt_ofW {y : MethodName} {ws ws' : List Cond} {rm : Room} {Pc : Array Value → State → Prop} {Qc : Array Value → State → Outcome → State → Prop} {mc ms : Nat} {free : Addr → Prop} {cc : ByteArray} {maxL : Nat} {ret : Option FieldType}
    (hy : plainName y.cls = true) (hw : ws = Cond.code y cc maxL ret :: ws')
    (body : ∀ p e s m args below meth c s₁, BodyLoose p l y (headSpec ws rm) cc maxL ret e s m args below meth c s₁ → c.maxLocals = maxL → Pc args s →
      W p l e (headSpec ws rm).room s m args below meth c s.heap [] 0 0 (pt_MQ below Qc args s mc ms free) (entryFrame m args maxL)) : pt_Met l y ws rm Pc Qc mc ms free := by
  refine MetFree.of_bodyS (code := cc) (maxLocals := maxL) (ret := ret) hy ?_ ?_
  · intro args s m h hn
    obtain ⟨meth, c, h1, h2, h3, h4, h5, h6, -, -⟩ := Cond.code_spec hn (atoms_spec (ws := ws) h _ (by rw [hw]; exact List.mem_cons_self))
    exact ⟨meth, c, h1, h2, h3, h4, h5, h6⟩
  · intro p e s m args below meth c s₁ B hml hP _
    have hh0 : s₁.heap = s.heap := by rw [B.state]; rfl
    obtain ⟨t, a1, o, b1, b2, b3⟩ := body p e s m args below meth c s₁ B hml hP s₁ hh0 (Stand.of_body B)
    exact ⟨t, o, a1, b1, b2, ⟨b3.1, b3.2⟩⟩
/-- the walk's judgement with the note 'x is thrown' over the frame g -/
def pt_W (p : Program) (l : Launch) (e : Env) (R : Room) (s : State) (m : MethodId) (args : Array Value) (below : List Frame) (meth : Method) (c : Code) (H : Heap) (locs : List Loc) (cells slots : Nat) (Q : State → Prop) (g : JFrame) (x : Nat) : Prop :=
  ∀ T : State, T.heap = H → Stand p l e R s m args below meth c T locs cells slots → ∃ t, Steps p.tables e below ((T.setTop g).pushFrame (.throwing x)) t ∧ Q t
theorem pt_covers (h : c.exceptionTable.isEmpty = true) (pc : Nat) : ∀ y ∈ c.exceptionTable.toList, covers y pc = false := by
  intro y hy
  have h0 : c.exceptionTable.size = 0 := by simpa [Array.isEmpty] using h
  have h1 : c.exceptionTable.toList = [] := List.eq_nil_of_length_eq_zero (by simpa using h0)
  rw [h1] at hy
  cases hy
/-- out of the method -/
theorem pt_leave {Qc : Array Value → State → Outcome → State → Prop} {free : Addr → Prop} {x pc : Nat} {ls : Array Slot} {st : List Value}
    (hq : ∀ t : State, t.heap = H → s.WarmedH t.vm → Qc args s (.threw x) t) (hf : ∀ q ∈ locs, free q.base) (hno : c.exceptionTable.isEmpty = true) (hlocks : meth.locks = false) :
    pt_W p l e R s m args below meth c H locs cells slots (pt_MQ below Qc args s cells slots free) (F0 m pc ls st) x := by
  intro T hT X
  obtain ⟨h1, h2, h3, h4, h5⟩ := X.leaveThrown x (g := F0 m pc ls st) rfl rfl rfl (pt_covers hno pc) hlocks
  exact ⟨_, h1, .threw x, h2, h3, hq _ hT h4, locs, ⟨⟨x, rfl⟩, h4, h5⟩, hf⟩
theorem pt_go {y : MethodName} {ws : List Cond} {rm : Room} {Pc : Array Value → State → Prop} {Qc : Array Value → State → Outcome → State → Prop} {mc ms maxL len Wd : Nat} {free : Addr → Prop} {bytes : ByteArray} {ret : Option FieldType} {g : JFrame} {ig : Instr} {mk : MethodId} {a : Array Value} {U : State}
    (hM : pt_Met l y ws rm Pc Qc mc ms free) (hrc : rm.cells = mc) (hrs : rm.slots = ms) (hframes : rm.frames + 1 ≤ R.frames) (hlocals : Wd + (maxL + 11) + rm.locals ≤ R.locals)
    (X : Stand p l e R s m args below meth c U locs cells slots) (hws : ∀ w ∈ ws, w.before a U = true) (hcode : (Cond.code y bytes maxL ret).before a U = true) (hini : (Cond.initialized y.cls).before a U = true)
    (hc1 : cells + mc ≤ R.cells) (hs1 : slots + ms ≤ R.slots) (hg : g.method = m) (hsize : g.locals.size = c.maxLocals) (hdg : decode c.code g.pc = .ok (ig, len))
    (hW : 2 * g.monitorRoom + (g.stack.map fun v => v.category).sum ≤ Wd) (hn : U.methodNamed? y = some mk) (hP : Pc a (U.calling g mk a)) :
    ∃ (x : Nat) (t T' : State) (L : List Loc), Stand p l e R s m args below meth c T' (locs ++ L) (cells + mc) (slots + ms) ∧ (∀ q ∈ L, free q.base) ∧ T'.heap = t.heap ∧ T'.vm = t.vm ∧ Qc a (U.calling g mk a) (.threw x) t ∧
      Steps p.tables e below (doInvoke e (U.setTop g) [] mk a).1 ((T'.setTop g).pushFrame (.throwing x)) := by
  obtain ⟨methY, cY, hmY, hcY, -, hlY, -, -, -, -⟩ := Cond.code_spec hn hcode
  obtain ⟨kY, hkY, -⟩ := className_of_methodNamed hn
  have hinitY : kY.init = .initialized := Cond.initialized_spec (findClass_of_methodNamed hn) hkY hini
  have h : At U g.method c below := by rw [hg]; exact X.here
  have happ : (headSpec ws rm).appliesLoose y e.platform (U.calling g mk a) = true :=
    Spec.appliesLoose_calling (g := g) h hdg hn hkY hinitY
      (X.room_calling (g := g) (R' := rm) hsize hmY hcY hframes (by rw [hlY]; omega) (by rw [hrc]; exact hc1) (by rw [hrs]; exact hs1)) (atoms_intro hws)
  obtain ⟨mid, hmid⟩ := h.above
  have hfr : (U.setTop g).frames = (.java g :: mid) ++ below := by rw [State.frames_setTop' g h.top, hmid]; rfl
  obtain ⟨o, s₂, hsteps, -, hend, hq0⟩ := Steps.callFree hM p X.admits X.cas X.clock (acts := []) hfr happ hP trivial
  have hq : Qc a (U.calling g mk a) o s₂ ∧ ∃ L, pt_End (U.calling g mk a) o s₂ L mc ms ∧ ∀ q ∈ L, free q.base := hq0
  rw [State.frames_setTop' g h.top] at hend
  obtain ⟨hq1, L, ⟨⟨x, rfl⟩, hW₂, e2, q2, q3, q4, q5, q6⟩, hL⟩ := hq
  have e3 : s₂ = ({ (U.calling g mk a).setFrames s₂.frames with heap := s₂.heap, slotsUsed := s₂.slotsUsed } : State).setVm s₂.vm := by
    have h9 : s₂ = ({ s₂ with vm := (U.calling g mk a).vm } : State).setVm s₂.vm := rfl
    rw [e2] at h9
    exact h9
  have hf₂ : s₂.frames = .throwing x :: .java g :: U.frames.tail := hend
  have hW' : U.WarmedH s₂.vm := hW₂
  obtain ⟨g₀, hg0⟩ := Option.isSome_iff_exists.mp h.top
  obtain ⟨r, hr⟩ := State.topJava?_eq_some.mp hg0
  have hs₂ : s₂ = ((({ U with heap := s₂.heap, slotsUsed := s₂.slotsUsed } : State).setVm s₂.vm).setTop g).pushFrame (.throwing x) := by
    have hr' : (({ U with heap := s₂.heap, slotsUsed := s₂.slotsUsed } : State).setVm s₂.vm).frames = .java g₀ :: r := hr
    refine e3.trans ?_
    rw [hf₂, State.calling_eq h.top, State.setFrames_setFrames, State.pushFrame, State.frames_setTop _ hr', State.setTop_of_frames _ hr', State.setFrames_setFrames, hr]
    rfl
  have hsame : U.sameButNew ({ U with heap := s₂.heap, slotsUsed := s₂.slotsUsed } : State) L mc ms := by
    refine ⟨?_, q2, q3, q4, q5, q6⟩
    obtain ⟨t, ht, -⟩ := State.frames_cons hr
    show ({ U with heap := s₂.heap, slotsUsed := s₂.slotsUsed } : State) = { U.setFrames U.frames with heap := s₂.heap, slotsUsed := s₂.slotsUsed }
    rw [State.setFrames_self ht]
  subst hg
  refine ⟨x, s₂, (({ U with heap := s₂.heap, slotsUsed := s₂.slotsUsed } : State).setVm s₂.vm), L,
    ⟨X.admits, X.cas, X.clock, X.frames, X.room, X.hears, X.method, X.code, (X.here.setHeapUsed s₂.heap s₂.slotsUsed).setVm hW'.alike, X.tail, State.WarmedH.trans X.warmed hW', X.limits, X.bytes, X.same.trans (hsame.setVm s.vm)⟩,
    hL, rfl, rfl, hq1, ?_⟩
  rw [← hs₂]
  exact hsteps
/-- a call that throws -/
def pt_Run (p : Program) (l : Launch) (e : Env) (R : Room) (s : State) (m : MethodId) (args : Array Value) (below : List Frame) (meth : Method) (c : Code) (H : Heap) (locs : List Loc) (cells slots mc ms : Nat) (g : JFrame) (rest : List Value) (Qa : State → Outcome → State → Prop) (free : Addr → Prop) : Prop :=
  ∀ T : State, T.heap = H → Stand p l e R s m args below meth c T locs cells slots → ∃ (x : Nat) (st₀ t T' : State) (L : List Loc), st₀.heap = H ∧ Stand p l e R s m args below meth c T' (locs ++ L) (cells + mc) (slots + ms) ∧ (∀ q ∈ L, free q.base) ∧ T'.heap = t.heap ∧ T'.vm = t.vm ∧ Qa st₀ (.threw x) t ∧
    ∀ tg, Steps p.tables e below ((T'.setTop { g with stack := rest }).pushFrame (.throwing x)) tg → Steps p.tables e below (T.setTop g) tg
variable {y : MethodName} {bytes cc : ByteArray} {maxL nL mc ms n index : Nat} {ret : Option FieldType} {ws : List Cond} {rm : Room} {Pc : Array Value → State → Prop} {Qc : Array Value → State → Outcome → State → Prop} {free : Addr → Prop} {Ts : List Cond} {own C : String} {b : Addr} {As rest : List Value} {g : JFrame}
theorem pt_runV (S : CallFix p m c cc nL s args Ts own) (hM : pt_Met l y ws rm Pc Qc mc ms free) (cw : CallW R s args own C index y bytes maxL ret ws rm mc ms n) (hp : PreV s H C b Pc As)
    (hg : g.method = m) (hn : As.length = n) (hsize : g.locals.size = nL) (hstack : g.stack = As.reverse ++ .ref b :: rest) (hW : 2 * g.monitorRoom + (rest.map fun v => v.category).sum ≤ 8) (hdg : decode cc g.pc = .ok (.invokevirtual index, 3)) (hf : cells + mc ≤ R.cells ∧ slots + ms ≤ R.slots) :
    pt_Run p l e R s m args below meth c H locs cells slots mc ms g rest (Qc (Value.ref b :: As).toArray) free := by
  obtain ⟨⟨hrc, hrs, hfr, hlo, hws, hcw, hcode, hini, hy, hlen, hl⟩, hin, hse⟩ := cw
  obtain ⟨hx, hb, hml, ho, -⟩ := S
  obtain ⟨hbl, ⟨cellB, hcB, hoB, hclB⟩, hPc⟩ := hp
  intro T hT X
  obtain ⟨mk, methM, hnamed, hmethM, hstM, habM⟩ := Cond.instanceMethod_spec hin
  obtain ⟨methM', cM, hmethM', -, -, -, -, -, -, hsigM⟩ := Cond.code_spec hnamed hcode
  cases hmethM.symm.trans hmethM'
  obtain ⟨c2, r2, m2, q1, q2, q3, q4, kP, hkP, hkPi⟩ := Cond.selects_spec hse
  cases hclB.symm.trans q1
  cases (State.methodFound?_of_named hnamed hy).symm.trans q2
  cases hnamed.symm.trans q3
  have hselP : selectMethod e.platform s.vm cellB.cls mk = .method mk := by rw [Launch.admits_selectMethod X.admits]; exact q4
  obtain ⟨vm₁, X₁, hstep₁⟩ := X.invokevirtual hx ho hl hnamed hmethM hstM hkP hkPi hy (a := b) (cell := cellB) (by rw [hT]; exact hcB)
    (fun z h => by rw [h] at hoB; cases hoB) hselP hmethM habM hkP hkPi (g := g) hg (argsL := As) (rest := rest) (hn.trans (hlen _ hsigM)) hstack (by rw [hb]; exact hdg)
  obtain ⟨x, t, T', L, X', hL, e1, e2, hq, st⟩ := pt_go (g := { g with stack := rest }) (ig := .invokevirtual index) (len := 3) (Wd := 8) (bytes := bytes) (maxL := maxL) (ret := ret) (a := (Value.ref b :: As).toArray) hM hrc hrs hfr hlo X₁ (fun w hw => hws w hw _ _ X₁.warmed) (hws _ hcw _ _ X₁.warmed)
    (word_at X₁.warmed (Or.inl (by first | rfl | simp [Cond.onTables, Cond.keeps, Cond.steady])) hini) hf.1 hf.2 hg (hsize.trans hml.symm) (by rw [hb]; exact hdg) hW (X₁.named hnamed) (hbl _ _ _ _ (hPc (T.setVm vm₁) hT X₁.warmed))
  exact ⟨x, (T.setVm vm₁).calling { g with stack := rest } mk (Value.ref b :: As).toArray, t, T', L, hT, X', hL, e1, e2, hq, fun tg h => hstep₁ _ fun acts => by rw [doInvoke_state]; exact st.trans h⟩
theorem pt_runS (S : CallFix p m c cc nL s args Ts own) (hM : pt_Met l y ws rm Pc Qc mc ms free) (cw : CallB R s args own index y bytes maxL ret ws rm mc ms n ∧ (Cond.static y).before args s = true) (hp : PreS s H Pc As)
    (hg : g.method = m) (hn : As.length = n) (hsize : g.locals.size = nL) (hstack : g.stack = As.reverse ++ rest) (hW : 2 * g.monitorRoom + (rest.map fun v => v.category).sum ≤ 8) (hdg : decode cc g.pc = .ok (.invokestatic index, 3)) (hf : cells + mc ≤ R.cells ∧ slots + ms ≤ R.slots) :
    pt_Run p l e R s m args below meth c H locs cells slots mc ms g rest (Qc As.toArray) free := by
  obtain ⟨⟨hrc, hrs, hfr, hlo, hws, hcw, hcode, hini, hy, hlen, hl⟩, hstt⟩ := cw
  obtain ⟨hx, hb, hml, ho, -⟩ := S
  obtain ⟨hbl, hPc⟩ := hp
  intro T hT X
  obtain ⟨mk, hnamed⟩ := Cond.code_named hcode
  obtain ⟨methM, cM, hmethM, -, -, -, -, -, -, hsigM⟩ := Cond.code_spec hnamed hcode
  have hstatic : methM.isStatic = true := Cond.static_spec hnamed hmethM hstt
  obtain ⟨kP, hkP, -⟩ := className_of_methodNamed hnamed
  have hinitP : kP.init = .initialized := Cond.initialized_spec (findClass_of_methodNamed hnamed) hkP hini
  obtain ⟨vm₁, X₁, hstep₁⟩ := X.invokestatic hx ho hl hnamed hmethM hstatic hkP hinitP hy (g := g) hg (argsL := As) (rest := rest) (hn.trans (hlen _ hsigM)) hstack (by rw [hb]; exact hdg)
  obtain ⟨x, t, T', L, X', hL, e1, e2, hq, st⟩ := pt_go (g := { g with stack := rest }) (ig := .invokestatic index) (len := 3) (Wd := 8) (bytes := bytes) (maxL := maxL) (ret := ret) (a := As.toArray) hM hrc hrs hfr hlo X₁ (fun w hw => hws w hw _ _ X₁.warmed) (hws _ hcw _ _ X₁.warmed)
    (word_at X₁.warmed (Or.inl (by first | rfl | simp [Cond.onTables, Cond.keeps, Cond.steady])) hini) hf.1 hf.2 hg (hsize.trans hml.symm) (by rw [hb]; exact hdg) hW (X₁.named hnamed) (hbl _ _ _ _ (hPc (T.setVm vm₁) hT X₁.warmed))
  exact ⟨x, (T.setVm vm₁).calling { g with stack := rest } mk As.toArray, t, T', L, hT, X', hL, e1, e2, hq, fun tg h => hstep₁ _ fun acts => by rw [doInvoke_state]; exact st.trans h⟩
end PT
section PTC
variable {p : Program} {l : Launch} {e : Env} {R : Room} {s : State} {m : MethodId} {args : Array Value} {below : List Frame} {meth : Method} {c : Code} {H : Heap} {locs : List Loc} {cells slots : Nat} {Q : State → Prop}
variable {D : va_G} {cl : List vw_C} {tys : List (ClassId × FieldType)} {w wc : va_W} {A : Nat → Prop} {pc : Nat} {ls : Array Slot} {rest st0 : List Value} {cc : ByteArray} {G G' : (Nat → Prop) → State → Prop} {X : String}
theorem pt_of {y : MethodName} {ws ws' : List Cond} {rm : Room} {av : List Value} {maxL : Nat} {ret : Option FieldType}
    (hy : plainName y.cls = true) (hw : ws = Cond.code y cc maxL ret :: ws') (hlen : (lg_sl av).length ≤ maxL)
    (body : ∀ p e s m below meth c (A : Nat → Prop) (ls : Array Slot), p.tables.exec = Jvm.exec → c.code = cc → c.maxLocals = maxL → c.exceptionTable.isEmpty = true → (∀ q ∈ ws, q.before av.toArray s = true) → s.vm.findClass y.cls = some m.cls → meth.locks = false →
      (∀ q : Nat, s.heap.size ≤ q → A q) → va_K D cl tys s → va_P D cl w s.heap → va_D A w → va_S A s.heap s.heap [] → G A s → lv_has ls maxL (lv_args 0 av) →
      W p l e rm s m av.toArray below meth c s.heap [] 0 0 (pt_MQ below (pt_Q X) av.toArray s 1 6 (fun _ => False)) (F0 m 0 ls [])) : pt_X l y ws rm D cl tys G av w X := by
  intro sz
  refine pt_ofW (cc := cc) (maxL := maxL) (ret := ret) hy hw ?_
  intro p e s m args below meth c s₁ B hml hv
  obtain ⟨rfl, rfl, hP, hK, hD0, hG⟩ := hv
  have hl := lv_entry av hlen
  have hno := B.noHandlers (atoms_spec (ws := ws) B.pre _ (by rw [hw]; exact List.mem_cons_self))
  rw [lg_entry_eq]
  exact body p e s m below meth c (va_A w s.heap.size) _ B.exec B.bytes hml hno (atoms_spec (ws := ws) B.pre) (findClass_of_methodNamed B.named) B.notSynchronized
    (fun q h => Or.inr h) hK hP (hD0.self (sz := s.heap.size)) va_S.rf hG hl
/-- behind a call that threw: the note lies over the frame; every cell is as it was -/
theorem pt_call {a : Array Value} (hr : pt_Run p l e R s m args below meth c H locs cells slots 1 6 (F0 m pc ls st0) rest (pt_Q X a) (fun _ => False))
    (kk : ∀ (x : Nat) (ce : Cell) (H1 : Heap), H1[x]? = some ce → ce.vm = .none → s.vm.findClass X = some ce.cls → H.size ≤ H1.size → (∀ q : Nat, q < H.size → H1[q]? = H[q]?) →
      pt_W p l e R s m args below meth c H1 locs (cells + 1) (slots + 6) Q (F0 m pc ls rest) x) : W p l e R s m args below meth c H locs cells slots Q (F0 m pc ls st0) := by
  intro T hT Xs
  obtain ⟨x, st₀, t, T', L, h0, X', hL, e1, e2, ⟨x', ce, hx', hce, hst, hfc, hz, hk⟩, st⟩ := hr T hT Xs
  cases hx'
  have hal : s.vm.Alike t.vm := by rw [← e2]; exact X'.warmed.alike
  have hLn : L = [] := List.eq_nil_iff_forall_not_mem.mpr (fun q h => hL q h)
  subst hLn
  rw [List.append_nil] at X'
  rw [h0] at hz hk
  obtain ⟨t2, a1, b1⟩ := kk x ce t.heap hce hst (by rw [← hal.findClass]; exact hfc) hz hk T' e1 X'
  exact ⟨t2, st t2 a1, b1⟩
theorem pt_callV {y : MethodName} {bytes : ByteArray} {maxL nL n index : Nat} {ret : Option FieldType} {wsy : List Cond} {rm : Room} {Ts : List Cond} {own C : String} {b : Nat} {As : List Value} {T : u_T} {N ci q0 : Nat} {fs : List Value}
    (S : CallFix p m c cc nL s args Ts own) (hM : pt_X l y wsy rm D cl tys G' (.ref b :: As) wc X) (cw : CallW R s args own C index y bytes maxL ret wsy rm 1 6 n) (hG : pj_G G') (hg : G' A s) (hK : va_K D cl tys s) (hP : va_P D cl w H) (hD : va_D A w) (hS : va_S A s.heap H locs) (hA : ∀ q, s.heap.size ≤ q → A q)
    (hrc : cl[ci]? = some (C, T, N)) (hre : wc[q0]? = some (b, .inr (ci, fs))) (isC : List Nat) (hC : isC.map (fun i => w[i]?) = wc.map some) (hCn : va_nd isC = true)
    (hAs : As.length = n) (hls : ls.size = nL) (hst : st0 = As.reverse ++ .ref b :: rest) (hroom : (rest.map fun v => v.category).sum ≤ 8) (hdg : decode cc pc = .ok (.invokevirtual index, 3)) (hf : cells + 1 ≤ R.cells ∧ slots + 6 ≤ R.slots)
    (kk : ∀ (x : Nat) (ce : Cell) (H1 : Heap), H1[x]? = some ce → ce.vm = .none → s.vm.findClass X = some ce.cls → H.size ≤ H1.size → (∀ q : Nat, q < H.size → H1[q]? = H[q]?) →
      pt_W p l e R s m args below meth c H1 locs (cells + 1) (slots + 6) Q (F0 m pc ls rest) x) : W p l e R s m args below meth c H locs cells slots Q (F0 m pc ls st0) := by
  have hPc := hP.sub isC (pj_fm hC)
  have hDc := hD.sub isC hCn hC
  have hpre := pj_pre (av := .ref b :: As) hG hg hK hPc hDc hS (va_free (wc := wc) hD hS hA isC hC)
  exact pt_call (pt_runV (g := F0 m pc ls st0) (As := As) (rest := rest) S (hM H.size) cw ⟨hpre.1, va_recv hK hPc hrc hre, hpre.2⟩ rfl hAs hls hst (lv_room hroom) hdg hf) kk
theorem pt_callS {y : MethodName} {bytes : ByteArray} {maxL nL n index : Nat} {ret : Option FieldType} {wsy : List Cond} {rm : Room} {Ts : List Cond} {own : String} {As : List Value}
    (S : CallFix p m c cc nL s args Ts own) (hM : pt_X l y wsy rm D cl tys G' As wc X) (cw : CallB R s args own index y bytes maxL ret wsy rm 1 6 n ∧ (Cond.static y).before args s = true) (hG : pj_G G') (hg : G' A s) (hK : va_K D cl tys s) (hP : va_P D cl w H) (hD : va_D A w) (hS : va_S A s.heap H locs) (hA : ∀ q, s.heap.size ≤ q → A q)
    (isC : List Nat) (hC : isC.map (fun i => w[i]?) = wc.map some) (hCn : va_nd isC = true)
    (hAs : As.length = n) (hls : ls.size = nL) (hst : st0 = As.reverse ++ rest) (hroom : (rest.map fun v => v.category).sum ≤ 8) (hdg : decode cc pc = .ok (.invokestatic index, 3)) (hf : cells + 1 ≤ R.cells ∧ slots + 6 ≤ R.slots)
    (kk : ∀ (x : Nat) (ce : Cell) (H1 : Heap), H1[x]? = some ce → ce.vm = .none → s.vm.findClass X = some ce.cls → H.size ≤ H1.size → (∀ q : Nat, q < H.size → H1[q]? = H[q]?) →
      pt_W p l e R s m args below meth c H1 locs (cells + 1) (slots + 6) Q (F0 m pc ls rest) x) : W p l e R s m args below meth c H locs cells slots Q (F0 m pc ls st0) := by
  have hPc := hP.sub isC (pj_fm hC)
  have hDc := hD.sub isC hCn hC
  have hpre := pj_pre (av := As) hG hg hK hPc hDc hS (va_free (wc := wc) hD hS hA isC hC)
  exact pt_call (pt_runS (g := F0 m pc ls st0) (As := As) (rest := rest) S (hM H.size) cw hpre rfl hAs hls hst (lv_room hroom) hdg hf) kk
/-- the throw goes on through a method that has changed nothing -/
theorem pt_out {x : Nat} {ce : Cell} {H1 : Heap} (h1 : H1[x]? = some ce) (h2 : ce.vm = .none) (h3 : s.vm.findClass X = some ce.cls) (h4 : s.heap.size ≤ H1.size) (h5 : ∀ q : Nat, q < s.heap.size → H1[q]? = s.heap[q]?) (hno : c.exceptionTable.isEmpty = true) (hlocks : meth.locks = false) :
    pt_W p l e R s m args below meth c H1 [] cells slots (pt_MQ below (pt_Q X) args s cells slots (fun _ => False)) (F0 m pc ls rest) x :=
  pt_leave (fun t ht hW => ⟨x, ce, rfl, by rw [ht]; exact h1, h2, by rw [hW.alike.findClass]; exact h3, by rw [ht]; exact h4, fun q hq => by rw [ht]; exact h5 q hq⟩) (fun q h => by cases h) hno hlocks
/-- new X; dup; ldc text; invokespecial X.<init>(String); athrow, in a method that has changed nothing -/
theorem pt_throw {own tx : String} {names : List String} {ia is ic q nL : Nat} (hx : p.tables.exec = Jvm.exec) (hb : c.code = cc) (hml : c.maxLocals = nL) (hls : ls.size = nL) (htr : l.stackTraces = false) (hown : s.vm.findClass own = some m.cls) (hcls : Bundle.fit X = true) (hnames : ∀ n ∈ names, Bundle.fit n = true)
    (hat : ∀ a ∈ Bundle.ownAtoms own ic X names, a.before args s = true) (hlink : (Cond.classLink own ia X).before args s = true) (hini : (Cond.initialized X).before args s = true) (hZ : vk_R own is tx q s)
    (hd0 : decode cc pc = .ok (.new ia, 3)) (hd3 : decode cc (pc + 3) = .ok (.dup, 1)) (hd4 : decode cc (pc + 3 + 1) = .ok (.ldc is, 2)) (hd6 : decode cc (pc + 3 + 1 + 2) = .ok (.invokespecial ic, 3)) (hd9 : decode cc (pc + 3 + 1 + 2 + 3) = .ok (.athrow, 1))
    (hno : c.exceptionTable.isEmpty = true) (hlocks : meth.locks = false) (hfr : names.length + 3 < R.frames) (hlo : 1 + (13 * (names.length + 1) + 42) ≤ R.locals) (hc : cells + 1 ≤ R.cells) (hs : slots + 6 ≤ R.slots) :
    W p l e R s m args below meth c s.heap [] cells slots (pt_MQ below (pt_Q X) args s (cells + 1) (slots + 6) (fun _ => False)) (F0 m pc ls []) := by
  have hinst : (Cond.instantiable X 6).before args s = true := hat _ (by simp [Bundle.ownAtoms])
  refine W.newc (C := X) (n := 6) hx hb hown hlink hinst hini rfl hd0 hc hs (fun cX kX hfX hkX hkind hsz => ?_)
  refine W.eq (g2 := F0 m (pc + 3) ls [.ref s.heap.size]) rfl ?_
  refine lv_dup hx hb hd3 rfl ?_
  refine va_ldcS hx hb hown hZ hd4 ?_
  intro T hT Xs
  have htr' : e.platform.stackTraces = false := by rw [Xs.admits.platform]; exact htr
  have hcell : T.heap[s.heap.size]? = some (freshCell cX kX) := by rw [hT]; simp [freshCell]
  subst hb
  obtain ⟨U, hsteps, hrun, hend, hW, hsame, ce, hce, K⟩ := Xs.ctorThrowS hx htr' (own := own) (cls := X) (names := names) (ic := ic) hown hcls hnames hat (fun y hy => by cases hy) hfX hkX hcell (Nat.le_refl _) (msg := .ref q) rfl
    (g := F0 m (pc + 3 + 1 + 2) ls [.ref q, .ref s.heap.size, .ref s.heap.size]) rfl (hls.trans hml.symm) rfl rfl (rest := []) rfl hd6 hd9 (pt_covers hno _) hfr (by simpa [Value.category] using hlo) hlocks
  refine ⟨U, hsteps, .threw s.heap.size, hrun, hend, ⟨s.heap.size, ce, rfl, hce, K.vm, by rw [hW.alike.findClass]; exact K.cls, ?_, ?_⟩, [], ⟨⟨_, rfl⟩, hW, hsame⟩, fun q h => by cases h⟩
  · have h5 := (Array.getElem?_eq_some_iff.mp hce).1
    omega
  · intro q hq
    obtain ⟨c', h1, h2, h3, h4⟩ := hsame.2.2.2.2.2 q s.heap[q] (Array.getElem?_eq_getElem hq)
    have h5 : c'.slots = s.heap[q].slots := Array.ext_getElem? (fun i => h4 i (by simp))
    rw [h5] at h2
    have h6 : U.heap[q]? = some c' := h1
    rw [h6, Array.getElem?_eq_getElem hq, h2]
end PTC
