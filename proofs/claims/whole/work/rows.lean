section
-- ===== PART A: goes FIRST, ahead of the names: the tables' words, and 'selects' of the private methods out of them =====
/-- a private method of a class that the tables say can be made, by its rows of tables_1 -/
def lw_okq (q : MethodName × Nat) : Prop := (q.1.cls ≠ "java/lang/invoke/MethodHandle" ∧ q.1.cls ≠ "java/lang/invoke/VarHandle") ∧ Cond.instantiable q.1.cls q.2 ∈ tables_1 ∧ Cond.privateMethod q.1 ∈ tables_1 ∧ Cond.instanceMethod q.1 ∈ tables_1
theorem lw_p0 : lw_okq (⟨"ReplayJournal$Accounts", "changeOne", "(IJ)V"⟩, 2) := ⟨⟨by decide +kernel, by decide +kernel⟩, List.mem_of_getElem? (i := 27) (by decide +kernel), List.mem_of_getElem? (i := 121) (by decide +kernel), List.mem_of_getElem? (i := 122) (by decide +kernel)⟩
theorem lw_p1 : lw_okq (⟨"ReplayJournal", "requireAccount", "(I)V"⟩, 7) := ⟨⟨by decide +kernel, by decide +kernel⟩, List.mem_of_getElem? (i := 13) (by decide +kernel), List.mem_of_getElem? (i := 149) (by decide +kernel), List.mem_of_getElem? (i := 150) (by decide +kernel)⟩
theorem lw_p2 : lw_okq (⟨"java/lang/Throwable", "fillInStackTrace", "(I)Ljava/lang/Throwable;"⟩, 6) := ⟨⟨by decide +kernel, by decide +kernel⟩, List.mem_of_getElem? (i := 191) (by decide +kernel), List.mem_of_getElem? (i := 189) (by decide +kernel), List.mem_of_getElem? (i := 190) (by decide +kernel)⟩
theorem lw_p3 : lw_okq (⟨"ReplayJournal", "requirePower", "()V"⟩, 7) := ⟨⟨by decide +kernel, by decide +kernel⟩, List.mem_of_getElem? (i := 13) (by decide +kernel), List.mem_of_getElem? (i := 227) (by decide +kernel), List.mem_of_getElem? (i := 228) (by decide +kernel)⟩
theorem lw_p4 : lw_okq (⟨"ReplayJournal", "change", "(IIJ)I"⟩, 7) := ⟨⟨by decide +kernel, by decide +kernel⟩, List.mem_of_getElem? (i := 13) (by decide +kernel), List.mem_of_getElem? (i := 247) (by decide +kernel), List.mem_of_getElem? (i := 248) (by decide +kernel)⟩
theorem lw_p5 : lw_okq (⟨"ReplayJournal", "changeNow", "(IIJ)I"⟩, 7) := ⟨⟨by decide +kernel, by decide +kernel⟩, List.mem_of_getElem? (i := 13) (by decide +kernel), List.mem_of_getElem? (i := 251) (by decide +kernel), List.mem_of_getElem? (i := 252) (by decide +kernel)⟩
theorem lw_p6 : lw_okq (⟨"ReplayJournal", "changeInGroup", "(IIJ)I"⟩, 7) := ⟨⟨by decide +kernel, by decide +kernel⟩, List.mem_of_getElem? (i := 13) (by decide +kernel), List.mem_of_getElem? (i := 268) (by decide +kernel), List.mem_of_getElem? (i := 269) (by decide +kernel)⟩
theorem lw_p7 : lw_okq (⟨"ReplayJournal", "requireNoGroup", "()V"⟩, 7) := ⟨⟨by decide +kernel, by decide +kernel⟩, List.mem_of_getElem? (i := 13) (by decide +kernel), List.mem_of_getElem? (i := 287) (by decide +kernel), List.mem_of_getElem? (i := 288) (by decide +kernel)⟩
theorem lw_p8 : lw_okq (⟨"ReplayJournal", "requireGroup", "()V"⟩, 7) := ⟨⟨by decide +kernel, by decide +kernel⟩, List.mem_of_getElem? (i := 13) (by decide +kernel), List.mem_of_getElem? (i := 299) (by decide +kernel), List.mem_of_getElem? (i := 300) (by decide +kernel)⟩
theorem lw_p9 : lw_okq (⟨"ReplayJournal$Journal", "firstOfLast", "(I)I"⟩, 5) := ⟨⟨by decide +kernel, by decide +kernel⟩, List.mem_of_getElem? (i := 42) (by decide +kernel), List.mem_of_getElem? (i := 308) (by decide +kernel), List.mem_of_getElem? (i := 309) (by decide +kernel)⟩
theorem lw_p10 : lw_okq (⟨"ReplayJournal", "snapshotBlocks", "()I"⟩, 7) := ⟨⟨by decide +kernel, by decide +kernel⟩, List.mem_of_getElem? (i := 13) (by decide +kernel), List.mem_of_getElem? (i := 332) (by decide +kernel), List.mem_of_getElem? (i := 333) (by decide +kernel)⟩
theorem lw_p11 : lw_okq (⟨"ReplayJournalModel", "isAccount", "(I)Z"⟩, 17) := ⟨⟨by decide +kernel, by decide +kernel⟩, List.mem_of_getElem? (i := 401) (by decide +kernel), List.mem_of_getElem? (i := 467) (by decide +kernel), List.mem_of_getElem? (i := 468) (by decide +kernel)⟩
theorem lw_p12 : lw_okq (⟨"ReplayJournalModel", "goes", "(ZZ)Z"⟩, 17) := ⟨⟨by decide +kernel, by decide +kernel⟩, List.mem_of_getElem? (i := 401) (by decide +kernel), List.mem_of_getElem? (i := 473) (by decide +kernel), List.mem_of_getElem? (i := 474) (by decide +kernel)⟩
theorem lw_p13 : lw_okq (⟨"ReplayJournalModel", "take", "(IIJ)I"⟩, 17) := ⟨⟨by decide +kernel, by decide +kernel⟩, List.mem_of_getElem? (i := 401) (by decide +kernel), List.mem_of_getElem? (i := 477) (by decide +kernel), List.mem_of_getElem? (i := 478) (by decide +kernel)⟩
theorem lw_p14 : lw_okq (⟨"ReplayJournalModel", "spend", "()V"⟩, 17) := ⟨⟨by decide +kernel, by decide +kernel⟩, List.mem_of_getElem? (i := 401) (by decide +kernel), List.mem_of_getElem? (i := 481) (by decide +kernel), List.mem_of_getElem? (i := 482) (by decide +kernel)⟩
theorem lw_p15 : lw_okq (⟨"ReplayJournalModel", "happen", "(IIJ)V"⟩, 17) := ⟨⟨by decide +kernel, by decide +kernel⟩, List.mem_of_getElem? (i := 401) (by decide +kernel), List.mem_of_getElem? (i := 485) (by decide +kernel), List.mem_of_getElem? (i := 486) (by decide +kernel)⟩
def lw_privs_1 : List (MethodName × Nat) := [(⟨"ReplayJournal$Accounts", "changeOne", "(IJ)V"⟩, 2), (⟨"ReplayJournal", "requireAccount", "(I)V"⟩, 7), (⟨"java/lang/Throwable", "fillInStackTrace", "(I)Ljava/lang/Throwable;"⟩, 6), (⟨"ReplayJournal", "requirePower", "()V"⟩, 7), (⟨"ReplayJournal", "change", "(IIJ)I"⟩, 7), (⟨"ReplayJournal", "changeNow", "(IIJ)I"⟩, 7), (⟨"ReplayJournal", "changeInGroup", "(IIJ)I"⟩, 7), (⟨"ReplayJournal", "requireNoGroup", "()V"⟩, 7), (⟨"ReplayJournal", "requireGroup", "()V"⟩, 7), (⟨"ReplayJournal$Journal", "firstOfLast", "(I)I"⟩, 5), (⟨"ReplayJournal", "snapshotBlocks", "()I"⟩, 7), (⟨"ReplayJournalModel", "isAccount", "(I)Z"⟩, 17), (⟨"ReplayJournalModel", "goes", "(ZZ)Z"⟩, 17), (⟨"ReplayJournalModel", "take", "(IIJ)I"⟩, 17), (⟨"ReplayJournalModel", "spend", "()V"⟩, 17), (⟨"ReplayJournalModel", "happen", "(IIJ)V"⟩, 17)]
theorem lw_r1 : ∀ q ∈ lw_privs_1, lw_okq q := List.forall_mem_cons.mpr ⟨lw_p0, List.forall_mem_cons.mpr ⟨lw_p1, List.forall_mem_cons.mpr ⟨lw_p2, List.forall_mem_cons.mpr ⟨lw_p3, List.forall_mem_cons.mpr ⟨lw_p4, List.forall_mem_cons.mpr ⟨lw_p5, List.forall_mem_cons.mpr ⟨lw_p6, List.forall_mem_cons.mpr ⟨lw_p7, List.forall_mem_cons.mpr ⟨lw_p8, List.forall_mem_cons.mpr ⟨lw_p9, List.forall_mem_cons.mpr ⟨lw_p10, List.forall_mem_cons.mpr ⟨lw_p11, List.forall_mem_cons.mpr ⟨lw_p12, List.forall_mem_cons.mpr ⟨lw_p13, List.forall_mem_cons.mpr ⟨lw_p14, List.forall_mem_cons.mpr ⟨lw_p15, fun _ h => absurd h List.not_mem_nil⟩⟩⟩⟩⟩⟩⟩⟩⟩⟩⟩⟩⟩⟩⟩⟩
theorem lw_p16 : lw_okq (⟨"ReplayJournalModel", "stands", "(Z)Z"⟩, 17) := ⟨⟨by decide +kernel, by decide +kernel⟩, List.mem_of_getElem? (i := 401) (by decide +kernel), List.mem_of_getElem? (i := 497) (by decide +kernel), List.mem_of_getElem? (i := 498) (by decide +kernel)⟩
theorem lw_p17 : lw_okq (⟨"ReplayJournalModel", "isRich", "()Z"⟩, 17) := ⟨⟨by decide +kernel, by decide +kernel⟩, List.mem_of_getElem? (i := 401) (by decide +kernel), List.mem_of_getElem? (i := 505) (by decide +kernel), List.mem_of_getElem? (i := 506) (by decide +kernel)⟩
def lw_privs_2 : List (MethodName × Nat) := [(⟨"ReplayJournalModel", "stands", "(Z)Z"⟩, 17), (⟨"ReplayJournalModel", "isRich", "()Z"⟩, 17)]
theorem lw_r2 : ∀ q ∈ lw_privs_2, lw_okq q := List.forall_mem_cons.mpr ⟨lw_p16, List.forall_mem_cons.mpr ⟨lw_p17, fun _ h => absurd h List.not_mem_nil⟩⟩
def lw_privs : List (MethodName × Nat) := lw_privs_1 ++ (lw_privs_2)
def lw_tbl : List Cond := k2_sels lw_privs ++ tables_1
theorem lw_privs_ok : ∀ q ∈ lw_privs, lw_okq q := by
  show ∀ q ∈ lw_privs_1 ++ (lw_privs_2), lw_okq q
  exact List.forall_mem_append.mpr ⟨lw_r1, lw_r2⟩
/-! the good words of the tables: every method's words are its own code, and these -/
def pjW0 : List Cond := lw_tbl.filter goodWord
theorem pj_in {w : Cond} (i : Nat) (h : lw_tbl[i]? = some w) (hg : goodWord w = true) : w ∈ pjW0 := List.mem_filter.mpr ⟨List.mem_of_getElem? h, hg⟩
theorem pj_up {w c : Cond} (h : w ∈ pjW0) : w ∈ c :: pjW0 := List.mem_cons_of_mem _ h
theorem pj_ups {ws : List Cond} {c : Cond} (h : ∀ w ∈ ws, w ∈ pjW0) : ∀ w ∈ ws, w ∈ c :: pjW0 := fun w hw => List.mem_cons_of_mem _ (h w hw)
theorem pj_good {w c : Cond} (h : w ∈ pjW0) : w ∈ c :: pjW0 ∧ ((w.onTables && w.keeps) = true ∨ ∃ ty, w = .arrayClass ty) := ⟨List.mem_cons_of_mem _ h, good_of_word (List.mem_filter.mp h).2⟩
theorem pj_g0 {c c' : Cond} (h : c' ∈ pjW0) : GoodIn (c :: pjW0) (c' :: pjW0) := fun w hw => (List.mem_cons.mp hw).elim (fun e => by rw [e]; exact pj_good h) pj_good
theorem pj_gV {c : Cond} {own C : String} {idx ml : Nat} {y : MethodName} {b : ByteArray} {ret : Option FieldType} (h1 : Cond.methodLink own idx y ∈ pjW0) (h2 : Cond.instanceMethod y ∈ pjW0) (h3 : Cond.selects C y y ∈ pjW0) (h4 : Cond.initialized C ∈ pjW0) (h5 : Cond.code y b ml ret ∈ pjW0) :
    GoodIn (c :: pjW0) (wsV own idx C y (Cond.code y b ml ret :: pjW0)) := by
  intro w hw
  rcases List.mem_append.mp hw with h | h
  · simp only [List.mem_cons, List.not_mem_nil, or_false] at h
    rcases h with rfl | rfl | rfl | rfl
    · exact pj_good h1
    · exact pj_good h2
    · exact pj_good h3
    · exact pj_good h4
  · exact pj_g0 h5 w h
theorem pj_gS {c : Cond} {own : String} {idx ml : Nat} {y : MethodName} {b : ByteArray} {ret : Option FieldType} (h1 : Cond.methodLink own idx y ∈ pjW0) (h2 : Cond.static y ∈ pjW0) (h4 : Cond.initialized own ∈ pjW0) (h5 : Cond.code y b ml ret ∈ pjW0) :
    GoodIn (c :: pjW0) (wsS own idx y (Cond.code y b ml ret :: pjW0)) := by
  intro w hw
  rcases List.mem_append.mp hw with h | h
  · simp only [List.mem_cons, List.not_mem_nil, or_false] at h
    rcases h with rfl | rfl | rfl
    · exact pj_good h1
    · exact pj_good h2
    · exact pj_good h4
  · exact pj_g0 h5 w h
end
section
/-! ===== BEGIN exceptions that leave a method, and their catching by the caller (launches without stack traces) ===== -/
section VXA
/-! The laws vx_back, vx_callV, vx_callS, vx_callSW, vx_throw0, vx_throwS follow proofs of the library, with one case more: JvmDerived/Free/Laws.lean (Back.of_free), Shelf42/LK1.lean (callV, callS), Shelf/KitTraced.lean (throwNew0V, throwNewS). -/
/-- where a method has thrown q: the class by its name, the cell, what was written, the world -/
def vx_T (XC : String → State → State → Prop) (st : State) (q : Addr) (t : State) (mc ms : Nat) (free : Addr → Prop) : Prop :=
  ∃ (E : String) (ce : Cell) (L : List Loc), XC E st t ∧ t.heap[q]? = some ce ∧ ce.vm = .none ∧ st.vm.findClass E = some ce.cls ∧ st.WarmedH t.vm ∧ st.sameButNew ({ t with vm := st.vm } : State) L mc ms ∧ ∀ z ∈ L, free z.base
def vx_Q (Qc : Array Value → State → Outcome → State → Prop) (XC : String → State → State → Prop) (mc ms : Nat) (free : Addr → Prop) : Array Value → State → Outcome → State → Prop := fun a st o t =>
  (Qc a st o t ∧ ∃ L, FrameEnd st o t L mc ms ∧ ∀ q ∈ L, free q.base) ∨ ∃ q, o = .threw q ∧ vx_T XC st q t mc ms free
/-- a callee that returns or throws -/
def vx_Met (l : Launch) (y : MethodName) (ws : List Cond) (rm : Room) (Pc : Array Value → State → Prop) (Qc : Array Value → State → Outcome → State → Prop) (XC : String → State → State → Prop) (mc ms : Nat) (free : Addr → Prop) : Prop :=
  MetFree l y (headSpec ws rm) Pc (fun _ _ _ _ _ => True) (vx_Q Qc XC mc ms free)
def vx_Post (XC : String → State → State → Prop) (mc ms : Nat) (free : Addr → Prop) : Pt → Array Value → Addr → Pt → Prop := fun A a q B =>
  ∃ (g : JFrame) (mk : MethodId) (t : State) (L : List Loc) (E : String) (ce : Cell), B.U.heap = t.heap ∧ B.U.vm = t.vm ∧ XC E (A.U.calling g mk a) t ∧ t.heap[q]? = some ce ∧ ce.vm = .none ∧ A.U.vm.findClass E = some ce.cls ∧ B.locs = A.locs ++ L ∧ (∀ z ∈ L, free z.base) ∧ B.cells = A.cells + mc ∧ B.slots = A.slots + ms
def vx_Back (l : Launch) (R : Room) (p : Program) (e : Env) (below : List Frame) (s : State) (sargs : Array Value) (y : MethodName) (len W9 : Nat)
    (Pre : Pt → Array Value → Prop) (Post : Pt → Array Value → Option Value → Pt → Prop) (PostX : Pt → Array Value → Addr → Pt → Prop) : Prop :=
  ∀ (m : MethodId) (meth : Method) (c : Code) (A : Pt) (g : JFrame) (ig : Instr) (mk : MethodId) (a : Array Value),
    Stand p l e R s m sargs below meth c A.U A.locs A.cells A.slots → g.method = m → g.locals.size = c.maxLocals → decode c.code g.pc = .ok (ig, len) →
    2 * g.monitorRoom + (g.stack.map fun v => v.category).sum ≤ W9 → A.U.methodNamed? y = some mk → Pre A a →
    (∃ (v : Option Value) (B : Pt), Stand p l e R s m sargs below meth c B.U B.locs B.cells B.slots ∧ Post A a v B ∧
      Steps p.tables e below (doInvoke e (A.U.setTop g) [] mk a).1 (B.U.setTop { g with pc := g.pc + len, stack := v.toList ++ g.stack })) ∨
    (∃ (q : Addr) (B : Pt), Stand p l e R s m sargs below meth c B.U B.locs B.cells B.slots ∧ PostX A a q B ∧
      Steps p.tables e below (doInvoke e (A.U.setTop g) [] mk a).1 ((B.U.setTop g).pushFrame (.throwing q)))
section Payer
variable {l : Launch} {R : Room} {p : Program} {e : Env} {below : List Frame} {s : State} {sargs : Array Value} {y : MethodName} {len W9 : Nat}
theorem vx_back {ws : List Cond} {rm : Room} {Pc : Array Value → State → Prop} {Qc : Array Value → State → Outcome → State → Prop} {XC : String → State → State → Prop} {mc ms : Nat} {free : Addr → Prop} {bytes : ByteArray} {maxL : Nat} {ret : Option FieldType}
    (hM : vx_Met l y ws rm Pc Qc XC mc ms free) (hblind : FrameBlind Pc) (hrc : rm.cells = mc) (hrs : rm.slots = ms)
    (hframes : rm.frames + 1 ≤ R.frames) (hlocals : W9 + (maxL + 11) + rm.locals ≤ R.locals)
    (hws : ∀ w ∈ ws, ∀ a' U, s.WarmedH U.vm → w.before a' U = true) (hcode : Cond.code y bytes maxL ret ∈ ws) (hinit : ∀ a' U, s.WarmedH U.vm → (Cond.initialized y.cls).before a' U = true) :
    vx_Back l R p e below s sargs y len W9 (PreOf R mc ms Pc) (PostOf Qc mc ms free) (vx_Post XC mc ms free) := by
  intro m meth c A g ig mk a X hg hsize hdg hW hn hp
  have h1 : (headSpec ws rm).pre.before a A.U = true := atoms_intro fun w hw => hws w hw _ _ X.warmed
  have h2 : (Cond.code y bytes maxL ret).before a A.U = true := hws _ hcode _ _ X.warmed
  have h3 : (Cond.initialized y.cls).before a A.U = true := hinit _ _ X.warmed
  have h4 : A.cells + (headSpec ws rm).room.cells ≤ R.cells := by rw [show (headSpec ws rm).room.cells = mc from hrc]; exact hp.1
  have h5 : A.slots + (headSpec ws rm).room.slots ≤ R.slots := by rw [show (headSpec ws rm).room.slots = ms from hrs]; exact hp.2.1
  have hPc : Pc a (A.U.calling g mk a) := hblind _ _ _ _ hp.2.2
  obtain ⟨U, Ls, c0, s0⟩ := A
  dsimp only [Pt.U, Pt.locs, Pt.cells, Pt.slots] at h1 h2 h3 h4 h5 X hn hPc ⊢
  obtain ⟨methY, cY, hmY, hcY, -, hlY, -, -, -, -⟩ := Cond.code_spec hn h2
  obtain ⟨kY, hkY, -⟩ := className_of_methodNamed hn
  have hinitY : kY.init = .initialized := Cond.initialized_spec (findClass_of_methodNamed hn) hkY h3
  have h : At U g.method c below := by rw [hg]; exact X.here
  have hlocals9 : W9 + (maxL + 11) + (headSpec ws rm).room.locals ≤ R.locals := hlocals
  have happ : (headSpec ws rm).appliesLoose y e.platform (U.calling g mk a) = true :=
    Spec.appliesLoose_calling (g := g) h hdg hn hkY hinitY
      (X.room_calling (g := g) (R' := (headSpec ws rm).room) hsize hmY hcY hframes (by rw [hlY]; omega) h4 h5) h1
  obtain ⟨mid, hmid⟩ := h.above
  have hfr : (U.setTop g).frames = (.java g :: mid) ++ below := by rw [State.frames_setTop' g h.top, hmid]; rfl
  obtain ⟨o, s₂, hsteps, -, hend, hq⟩ := Steps.callFree hM p X.admits X.cas X.clock (acts := []) hfr happ hPc trivial
  have hq' : vx_Q Qc XC mc ms free a (U.calling g mk a) o s₂ := hq
  rw [State.frames_setTop' g h.top] at hend
  obtain ⟨g₀, hg0⟩ := Option.isSome_iff_exists.mp h.top
  obtain ⟨r, hr⟩ := State.topJava?_eq_some.mp hg0
  have hr' : (({ U with heap := s₂.heap, slotsUsed := s₂.slotsUsed } : State).setVm s₂.vm).frames = .java g₀ :: r := hr
  rcases hq' with ⟨hqc, L, hfe, hL⟩ | ⟨q, rfl, E, ce, L, hx, hce, hcv, hcl, hW₂, hsm, hL⟩
  · obtain ⟨⟨v, rfl⟩, hW₂, e2, q2, q3, q4, q5, q6⟩ := id hfe
    have e3 : s₂ = ({ (U.calling g mk a).setFrames s₂.frames with heap := s₂.heap, slotsUsed := s₂.slotsUsed } : State).setVm s₂.vm := by
      have : s₂ = ({ s₂ with vm := (U.calling g mk a).vm } : State).setVm s₂.vm := rfl
      rw [e2] at this
      exact this
    obtain ⟨c₂, i₂, len₂, hc₂, hd₂, hf₂⟩ := hend
    have hW' : U.WarmedH s₂.vm := hW₂
    have hcc : c₂ = c := by
      have h1 : s₂.code? g.method = U.code? g.method := by
        rw [State.code?_eq, State.code?_eq, hW'.alike.method?]
      exact Option.some.inj (hc₂.symm.trans (h1.trans h.code))
    subst hcc
    have hlen : len₂ = len := by rw [hdg] at hd₂; cases hd₂; rfl
    subst hlen
    have hs₂ : s₂ = (({ U with heap := s₂.heap, slotsUsed := s₂.slotsUsed } : State).setVm s₂.vm).setTop { g with pc := g.pc + len₂, stack := v.toList ++ g.stack } := by
      refine e3.trans ?_
      rw [hf₂, State.calling_eq h.top, State.setFrames_setFrames, State.setTop_of_frames _ hr', hr]
      rfl
    have hsame : U.sameButNew ({ U with heap := s₂.heap, slotsUsed := s₂.slotsUsed } : State) L mc ms := by
      refine ⟨?_, q2, q3, q4, q5, q6⟩
      obtain ⟨t, ht, -⟩ := State.frames_cons hr
      show ({ U with heap := s₂.heap, slotsUsed := s₂.slotsUsed } : State) = { U.setFrames U.frames with heap := s₂.heap, slotsUsed := s₂.slotsUsed }
      rw [State.setFrames_self ht]
    subst hg
    refine Or.inl ⟨v, ⟨(({ U with heap := s₂.heap, slotsUsed := s₂.slotsUsed } : State).setVm s₂.vm), Ls ++ L, c0 + mc, s0 + ms⟩,
      ⟨X.admits, X.cas, X.clock, X.frames, X.room, X.hears, X.method, X.code, (X.here.setHeapUsed s₂.heap s₂.slotsUsed).setVm hW'.alike, X.tail, State.WarmedH.trans X.warmed hW', X.limits, X.bytes, X.same.trans (hsame.setVm s.vm)⟩,
      ⟨g, mk, s₂, L, rfl, rfl, hqc, rfl, hL, rfl, rfl⟩, ?_⟩
    show Steps p.tables e below _ ((({ U with heap := s₂.heap, slotsUsed := s₂.slotsUsed } : State).setVm s₂.vm).setTop { g with pc := g.pc + len₂, stack := v.toList ++ g.stack })
    rw [← hs₂]
    exact hsteps
  · obtain ⟨e2, q2, q3, q4, q5, q6⟩ := id hsm
    have e3 : s₂ = ({ (U.calling g mk a).setFrames s₂.frames with heap := s₂.heap, slotsUsed := s₂.slotsUsed } : State).setVm s₂.vm := by
      have : s₂ = ({ s₂ with vm := (U.calling g mk a).vm } : State).setVm s₂.vm := rfl
      rw [e2] at this
      exact this
    have hf₂ : s₂.frames = .throwing q :: .java g :: U.frames.tail := hend
    have hW' : U.WarmedH s₂.vm := hW₂
    have hs₂ : s₂ = ((({ U with heap := s₂.heap, slotsUsed := s₂.slotsUsed } : State).setVm s₂.vm).setTop g).pushFrame (.throwing q) := by
      refine e3.trans ?_
      rw [hf₂, State.calling_eq h.top, State.setFrames_setFrames, State.pushFrame, State.frames_setTop _ hr', State.setTop_of_frames _ hr', State.setFrames_setFrames, hr]
      rfl
    have hsame : U.sameButNew ({ U with heap := s₂.heap, slotsUsed := s₂.slotsUsed } : State) L mc ms := by
      refine ⟨?_, q2, q3, q4, q5, q6⟩
      obtain ⟨t, ht, -⟩ := State.frames_cons hr
      show ({ U with heap := s₂.heap, slotsUsed := s₂.slotsUsed } : State) = { U.setFrames U.frames with heap := s₂.heap, slotsUsed := s₂.slotsUsed }
      rw [State.setFrames_self ht]
    subst hg
    refine Or.inr ⟨q, ⟨(({ U with heap := s₂.heap, slotsUsed := s₂.slotsUsed } : State).setVm s₂.vm), Ls ++ L, c0 + mc, s0 + ms⟩,
      ⟨X.admits, X.cas, X.clock, X.frames, X.room, X.hears, X.method, X.code, (X.here.setHeapUsed s₂.heap s₂.slotsUsed).setVm hW'.alike, X.tail, State.WarmedH.trans X.warmed hW', X.limits, X.bytes, X.same.trans (hsame.setVm s.vm)⟩,
      ⟨g, mk, s₂, L, E, ce, rfl, rfl, hx, hce, hcv, hcl, rfl, hL, rfl, rfl⟩, ?_⟩
    show Steps p.tables e below _ (((({ U with heap := s₂.heap, slotsUsed := s₂.slotsUsed } : State).setVm s₂.vm).setTop g).pushFrame (.throwing q))
    rw [← hs₂]
    exact hsteps
end Payer
section Calls
variable {p : Program} {l : Launch} {e : Env} {R : Room} {s : State} {m : MethodId} {args : Array Value} {below : List Frame} {meth : Method} {c : Code} {T : State} {locs : List Loc} {cells slots : Nat}
theorem vx_callV (X : Stand p l e R s m args below meth c T locs cells slots) (hexec : p.tables.exec = Jvm.exec) {own C : String} {index : Nat} {y : MethodName} {bytes : ByteArray} {maxL : Nat} {ret : Option FieldType}
    (hown : s.vm.findClass own = some m.cls) (hlink : (Cond.methodLink own index y).before args s = true) (hinst : (Cond.instanceMethod y).before args s = true) (hsel : (Cond.selects C y y).before args s = true)
    (hcode : (Cond.code y bytes maxL ret).before args s = true) (hy : y.cls ≠ "java/lang/invoke/MethodHandle" ∧ y.cls ≠ "java/lang/invoke/VarHandle")
    {W9 : Nat} {Pre : Pt → Array Value → Prop} {Post : Pt → Array Value → Option Value → Pt → Prop} {PostX : Pt → Array Value → Addr → Pt → Prop} (hK : vx_Back l R p e below s args y 3 W9 Pre Post PostX)
    {b : Addr} {cellB : Cell} (hcell : T.heap[b]? = some cellB) (hobj : cellB.vm.isStatics = false) (hcls : s.vm.findClass C = some cellB.cls)
    {g : JFrame} (hg : g.method = m) (hsize : g.locals.size = c.maxLocals) {argsL rest : List Value} (hlen : ∀ sig, parseMethodDescriptor y.desc = some sig → argsL.length = sig.parameters.length)
    (hstack : g.stack = argsL.reverse ++ .ref b :: rest) (hW : 2 * g.monitorRoom + (rest.map fun v => v.category).sum ≤ W9) (hdg : decode c.code g.pc = .ok (.invokevirtual index, 3))
    (hpre : ∀ vm₁, s.WarmedH vm₁ → Pre ⟨T.setVm vm₁, locs, cells, slots⟩ (Value.ref b :: argsL).toArray) :
    (∃ (v : Option Value) (vm₁ : Vm) (B : Pt), s.WarmedH vm₁ ∧ Stand p l e R s m args below meth c B.U B.locs B.cells B.slots ∧ Post ⟨T.setVm vm₁, locs, cells, slots⟩ (Value.ref b :: argsL).toArray v B ∧
      ∀ target, Steps p.tables e below (B.U.setTop { g with pc := g.pc + 3, stack := v.toList ++ rest }) target → Steps p.tables e below (T.setTop g) target) ∨
    (∃ (q : Addr) (vm₁ : Vm) (B : Pt), s.WarmedH vm₁ ∧ Stand p l e R s m args below meth c B.U B.locs B.cells B.slots ∧ PostX ⟨T.setVm vm₁, locs, cells, slots⟩ (Value.ref b :: argsL).toArray q B ∧
      Steps p.tables e below (T.setTop g) ((B.U.setTop { g with stack := rest }).pushFrame (.throwing q))) := by
  obtain ⟨mk, methM, hnamed, hmethM, hstM, habM⟩ := Cond.instanceMethod_spec hinst
  obtain ⟨methM', cM, hmethM', -, -, -, -, -, -, hsigM⟩ := Cond.code_spec hnamed hcode
  cases hmethM.symm.trans hmethM'
  obtain ⟨c2, r2, m2, q1, q2, q3, q4, kP, hkP, hkPi⟩ := Cond.selects_spec hsel
  cases hcls.symm.trans q1
  cases (State.methodFound?_of_named hnamed hy).symm.trans q2
  cases hnamed.symm.trans q3
  have hselP : selectMethod e.platform s.vm cellB.cls mk = .method mk := by rw [Launch.admits_selectMethod X.admits]; exact q4
  obtain ⟨vm₁, X₁, hstep₁⟩ := X.invokevirtual hexec hown hlink hnamed hmethM hstM hkP hkPi hy (a := b) (cell := cellB) hcell
    (fun z h => by rw [h] at hobj; cases hobj) hselP hmethM habM hkP hkPi (g := g) hg (argsL := argsL) (rest := rest) (hlen _ hsigM) hstack hdg
  rcases hK m meth c ⟨T.setVm vm₁, locs, cells, slots⟩ { g with stack := rest } (.invokevirtual index) mk (Value.ref b :: argsL).toArray X₁ hg hsize hdg hW (X₁.named hnamed) (hpre vm₁ X₁.warmed) with ⟨v, B, X', hpost, hsteps⟩ | ⟨q, B, X', hpost, hsteps⟩
  · exact Or.inl ⟨v, vm₁, B, X₁.warmed, X', hpost, fun target h => hstep₁ _ fun acts => by rw [doInvoke_state]; exact hsteps.trans h⟩
  · exact Or.inr ⟨q, vm₁, B, X₁.warmed, X', hpost, hstep₁ _ fun acts => by rw [doInvoke_state]; exact hsteps⟩
theorem vx_callS (X : Stand p l e R s m args below meth c T locs cells slots) (hexec : p.tables.exec = Jvm.exec) {own : String} {index : Nat} {y : MethodName} {bytes : ByteArray} {maxL : Nat} {ret : Option FieldType}
    (hown : s.vm.findClass own = some m.cls) (hlink : (Cond.methodLink own index y).before args s = true) (hstat : (Cond.static y).before args s = true) (hinit : (Cond.initialized y.cls).before args s = true)
    (hcode : (Cond.code y bytes maxL ret).before args s = true) (hy : y.cls ≠ "java/lang/invoke/MethodHandle" ∧ y.cls ≠ "java/lang/invoke/VarHandle")
    {W9 : Nat} {Pre : Pt → Array Value → Prop} {Post : Pt → Array Value → Option Value → Pt → Prop} {PostX : Pt → Array Value → Addr → Pt → Prop} (hK : vx_Back l R p e below s args y 3 W9 Pre Post PostX)
    {g : JFrame} (hg : g.method = m) (hsize : g.locals.size = c.maxLocals) {argsL rest : List Value} (hlen : ∀ sig, parseMethodDescriptor y.desc = some sig → argsL.length = sig.parameters.length)
    (hstack : g.stack = argsL.reverse ++ rest) (hW : 2 * g.monitorRoom + (rest.map fun v => v.category).sum ≤ W9) (hdg : decode c.code g.pc = .ok (.invokestatic index, 3))
    (hpre : ∀ vm₁, s.WarmedH vm₁ → Pre ⟨T.setVm vm₁, locs, cells, slots⟩ argsL.toArray) :
    (∃ (v : Option Value) (vm₁ : Vm) (B : Pt), s.WarmedH vm₁ ∧ Stand p l e R s m args below meth c B.U B.locs B.cells B.slots ∧ Post ⟨T.setVm vm₁, locs, cells, slots⟩ argsL.toArray v B ∧
      ∀ target, Steps p.tables e below (B.U.setTop { g with pc := g.pc + 3, stack := v.toList ++ rest }) target → Steps p.tables e below (T.setTop g) target) ∨
    (∃ (q : Addr) (vm₁ : Vm) (B : Pt), s.WarmedH vm₁ ∧ Stand p l e R s m args below meth c B.U B.locs B.cells B.slots ∧ PostX ⟨T.setVm vm₁, locs, cells, slots⟩ argsL.toArray q B ∧
      Steps p.tables e below (T.setTop g) ((B.U.setTop { g with stack := rest }).pushFrame (.throwing q))) := by
  obtain ⟨mk, hnamed⟩ := Cond.code_named hcode
  obtain ⟨methM, cM, hmethM, -, -, -, -, -, -, hsigM⟩ := Cond.code_spec hnamed hcode
  have hstatic : methM.isStatic = true := Cond.static_spec hnamed hmethM hstat
  obtain ⟨kP, hkP, -⟩ := className_of_methodNamed hnamed
  have hinitP : kP.init = .initialized := Cond.initialized_spec (findClass_of_methodNamed hnamed) hkP hinit
  obtain ⟨vm₁, X₁, hstep₁⟩ := X.invokestatic hexec hown hlink hnamed hmethM hstatic hkP hinitP hy (g := g) hg (argsL := argsL) (rest := rest) (hlen _ hsigM) hstack hdg
  rcases hK m meth c ⟨T.setVm vm₁, locs, cells, slots⟩ { g with stack := rest } (.invokestatic index) mk argsL.toArray X₁ hg hsize hdg hW (X₁.named hnamed) (hpre vm₁ X₁.warmed) with ⟨v, B, X', hpost, hsteps⟩ | ⟨q, B, X', hpost, hsteps⟩
  · exact Or.inl ⟨v, vm₁, B, X₁.warmed, X', hpost, fun target h => hstep₁ _ fun acts => by rw [doInvoke_state]; exact hsteps.trans h⟩
  · exact Or.inr ⟨q, vm₁, B, X₁.warmed, X', hpost, hstep₁ _ fun acts => by rw [doInvoke_state]; exact hsteps⟩
end Calls
theorem vx_cls {s : State} {T : State} {vm₁ : Vm} {E : String} {k : ClassId} (hW : s.WarmedH vm₁) (h : (T.setVm vm₁).vm.findClass E = some k) : s.vm.findClass E = some k := by
  have h1 : vm₁.findClass E = some k := h
  rw [hW.alike.findClass] at h1
  exact h1
/-- the method's frame g, with q thrown over it -/
def vx_W (p : Program) (l : Launch) (e : Env) (R : Room) (s : State) (m : MethodId) (args : Array Value) (below : List Frame) (meth : Method) (c : Code) (H : Heap) (locs : List Loc) (cells slots : Nat) (Q : State → Prop) (g : JFrame) (q : Addr) : Prop :=
  ∀ T : State, T.heap = H → Stand p l e R s m args below meth c T locs cells slots → ∃ t, Steps p.tables e below ((T.setTop g).pushFrame (.throwing q)) t ∧ Q t
def vx_Run (p : Program) (l : Launch) (e : Env) (R : Room) (s : State) (m : MethodId) (args : Array Value) (below : List Frame) (meth : Method) (c : Code) (H : Heap) (locs : List Loc) (cells slots mc ms : Nat) (g : JFrame) (rest : List Value) (Qa : State → Outcome → State → Prop) (XC : String → State → State → Prop) (free : Addr → Prop) : Prop :=
  ∀ T : State, T.heap = H → Stand p l e R s m args below meth c T locs cells slots →
    (∃ (v : Option Value) (st₀ t T' : State) (L : List Loc), st₀.heap = H ∧ Stand p l e R s m args below meth c T' (locs ++ L) (cells + mc) (slots + ms) ∧ (∀ q ∈ L, free q.base) ∧ T'.heap = t.heap ∧ T'.vm = t.vm ∧ Qa st₀ (.returned v) t ∧
      Goes p e below T g T' { g with pc := g.pc + 3, stack := v.toList ++ rest }) ∨
    (∃ (q : Addr) (st₀ t T' : State) (L : List Loc) (E : String) (ce : Cell), st₀.heap = H ∧ Stand p l e R s m args below meth c T' (locs ++ L) (cells + mc) (slots + ms) ∧ (∀ z ∈ L, free z.base) ∧ T'.heap = t.heap ∧ T'.vm = t.vm ∧ XC E st₀ t ∧ t.heap[q]? = some ce ∧ ce.vm = .none ∧ s.vm.findClass E = some ce.cls ∧
      Steps p.tables e below (T.setTop g) ((T'.setTop { g with stack := rest }).pushFrame (.throwing q)))
def vx_X {S : Type} (px : S → Prop) (B : String → S → State → Prop) (A : Nat → Prop) : String → State → State → Prop := fun E st t => ∃ u : S, px u ∧ B E u t ∧ va_F A st t
section Runs
variable {p : Program} {l : Launch} {e : Env} {R : Room} {s : State} {m : MethodId} {args : Array Value} {below : List Frame} {meth : Method} {c : Code} {H : Heap} {locs : List Loc} {cells slots : Nat}
variable {y : MethodName} {bytes cc : ByteArray} {maxL nL mc ms n index : Nat} {ret : Option FieldType} {ws : List Cond} {rm : Room} {Pc : Array Value → State → Prop} {Qc : Array Value → State → Outcome → State → Prop} {XC : String → State → State → Prop} {free : Addr → Prop} {Ts : List Cond} {own C : String} {b : Addr} {As rest : List Value} {g : JFrame}
theorem vx_callBack (cb : CallB R s args own index y bytes maxL ret ws rm mc ms n) (hM : vx_Met l y ws rm Pc Qc XC mc ms free) (hbl : FrameBlind Pc) : vx_Back l R p e below s args y 3 8 (PreOf R mc ms Pc) (PostOf Qc mc ms free) (vx_Post XC mc ms free) := by
  obtain ⟨hrc, hrs, hfr, hlo, hws, hcw, -, hini, -⟩ := cb
  exact vx_back (bytes := bytes) (maxL := maxL) (ret := ret) hM hbl hrc hrs hfr hlo hws hcw (fun a' U hW => word_at hW (Or.inl (by first | rfl | simp [Cond.onTables, Cond.keeps, Cond.steady])) hini)
theorem vx_runV (S : CallFix p m c cc nL s args Ts own) (hM : vx_Met l y ws rm Pc Qc XC mc ms free) (cw : CallW R s args own C index y bytes maxL ret ws rm mc ms n) (hp : PreV s H C b Pc As)
    (hg : g.method = m) (hn : As.length = n) (hsize : g.locals.size = nL) (hstack : g.stack = As.reverse ++ .ref b :: rest) (hW : 2 * g.monitorRoom + (rest.map fun v => v.category).sum ≤ 8) (hdg : decode cc g.pc = .ok (.invokevirtual index, 3)) (hf : cells + mc ≤ R.cells ∧ slots + ms ≤ R.slots) :
    vx_Run p l e R s m args below meth c H locs cells slots mc ms g rest (Qc (Value.ref b :: As).toArray) XC free := by
  have hK : vx_Back l R p e below s args y 3 8 (PreOf R mc ms Pc) (PostOf Qc mc ms free) (vx_Post XC mc ms free) := vx_callBack cw.1 hM hp.1
  obtain ⟨⟨-, -, -, -, -, -, hcode, -, hy, hlen, hl⟩, hin, hse⟩ := cw
  obtain ⟨hx, hb, hml, ho, -⟩ := S
  obtain ⟨-, ⟨cellB, hcB, hoB, hclB⟩, hPc⟩ := hp
  intro T hT X
  rcases vx_callV X hx (C := C) (bytes := bytes) (maxL := maxL) (ret := ret) ho hl hin hse hcode hy hK (by rw [hT]; exact hcB) hoB hclB hg (hsize.trans hml.symm) (argsL := As) (rest := rest) (fun sig h => hn.trans (hlen sig h)) hstack hW (by rw [hb]; exact hdg)
    (fun vm₁ hW₁ => ⟨hf.1, hf.2, hPc (T.setVm vm₁) hT hW₁⟩) with ⟨v, vm₁, ⟨U', l2, c2, s2⟩, hW₁, X', ⟨g', mk, t, L, e1, e2, hq, h1, hL, h2, h3⟩, st⟩ | ⟨q, vm₁, ⟨U', l2, c2, s2⟩, hW₁, X', ⟨g', mk, t, L, E, ce, e1, e2, hq, hce, hcv, hcl, h1, hL, h2, h3⟩, st⟩
  · dsimp only [Pt.U, Pt.locs, Pt.cells, Pt.slots] at X' e1 e2 h1 h2 h3 st
    subst h1; subst h2; subst h3
    exact Or.inl ⟨v, (T.setVm vm₁).calling g' mk (Value.ref b :: As).toArray, t, U', L, hT, X', hL, e1, e2, hq, st⟩
  · dsimp only [Pt.U, Pt.locs, Pt.cells, Pt.slots] at X' e1 e2 h1 h2 h3 st hcl
    subst h1; subst h2; subst h3
    exact Or.inr ⟨q, (T.setVm vm₁).calling g' mk (Value.ref b :: As).toArray, t, U', L, E, ce, hT, X', hL, e1, e2, hq, hce, hcv, vx_cls hW₁ hcl, st⟩
theorem vx_runS (S : CallFix p m c cc nL s args Ts own) (hM : vx_Met l y ws rm Pc Qc XC mc ms free) (cw : CallB R s args own index y bytes maxL ret ws rm mc ms n ∧ (Cond.static y).before args s = true) (hp : PreS s H Pc As)
    (hg : g.method = m) (hn : As.length = n) (hsize : g.locals.size = nL) (hstack : g.stack = As.reverse ++ rest) (hW : 2 * g.monitorRoom + (rest.map fun v => v.category).sum ≤ 8) (hdg : decode cc g.pc = .ok (.invokestatic index, 3)) (hf : cells + mc ≤ R.cells ∧ slots + ms ≤ R.slots) :
    vx_Run p l e R s m args below meth c H locs cells slots mc ms g rest (Qc As.toArray) XC free := by
  have hK : vx_Back l R p e below s args y 3 8 (PreOf R mc ms Pc) (PostOf Qc mc ms free) (vx_Post XC mc ms free) := vx_callBack cw.1 hM hp.1
  obtain ⟨⟨-, -, -, -, -, -, hcode, hini, hy, hlen, hl⟩, hstt⟩ := cw
  obtain ⟨hx, hb, hml, ho, -⟩ := S
  intro T hT X
  rcases vx_callS X hx (bytes := bytes) (maxL := maxL) (ret := ret) ho hl hstt hini hcode hy hK hg (hsize.trans hml.symm) (argsL := As) (rest := rest) (fun sig h => hn.trans (hlen sig h)) hstack hW (by rw [hb]; exact hdg)
    (fun vm₁ hW₁ => ⟨hf.1, hf.2, hp.2 (T.setVm vm₁) hT hW₁⟩) with ⟨v, vm₁, ⟨U', l2, c2, s2⟩, hW₁, X', ⟨g', mk, t, L, e1, e2, hq, h1, hL, h2, h3⟩, st⟩ | ⟨q, vm₁, ⟨U', l2, c2, s2⟩, hW₁, X', ⟨g', mk, t, L, E, ce, e1, e2, hq, hce, hcv, hcl, h1, hL, h2, h3⟩, st⟩
  · dsimp only [Pt.U, Pt.locs, Pt.cells, Pt.slots] at X' e1 e2 h1 h2 h3 st
    subst h1; subst h2; subst h3
    exact Or.inl ⟨v, (T.setVm vm₁).calling g' mk As.toArray, t, U', L, hT, X', hL, e1, e2, hq, st⟩
  · dsimp only [Pt.U, Pt.locs, Pt.cells, Pt.slots] at X' e1 e2 h1 h2 h3 st hcl
    subst h1; subst h2; subst h3
    exact Or.inr ⟨q, (T.setVm vm₁).calling g' mk As.toArray, t, U', L, E, ce, hT, X', hL, e1, e2, hq, hce, hcv, vx_cls hW₁ hcl, st⟩
end Runs
section Rows
variable {p : Program} {l : Launch} {e : Env} {R : Room} {s : State} {m : MethodId} {args : Array Value} {below : List Frame} {meth : Method} {c : Code} {H : Heap} {locs : List Loc} {cells slots : Nat} {Q : State → Prop}
variable {mc ms : Nat} {free : Addr → Prop} {A0 A1 : Nat → Prop} {H0 : Heap} {a : Array Value} {pc : Nat} {ls : Array Slot} {st0 rest : List Value}
theorem vx_keep {st₀ t T' : State} {L : List Loc} (h0 : st₀.heap = H) (e1 : T'.heap = t.heap) (hS : va_S A0 H0 H locs) (hA : ∀ q, q < H.size → A1 q → A0 q) (hf : ∀ q, free q → A0 q) (hL : ∀ q ∈ L, free q.base) (hF : va_F A1 st₀ t) :
    H.size ≤ T'.heap.size ∧ (∀ q : Nat, q < H.size → ¬ A1 q → T'.heap[q]? = H[q]?) ∧ va_S A0 H0 T'.heap (locs ++ L) := by
  obtain ⟨hz, hk⟩ := hF
  rw [h0] at hz hk
  exact ⟨by rw [e1]; exact hz, fun q h1 h2 => by rw [e1]; exact hk q h1 h2,
    ⟨Nat.le_trans hS.1 (by rw [e1]; exact hz), fun q h1 h2 => by rw [e1, hk q (Nat.lt_of_lt_of_le h1 hS.1) (fun z => h2 (hA q (Nat.lt_of_lt_of_le h1 hS.1) z))]; exact hS.2.1 q h1 h2, fun q hq => by
      rcases List.mem_append.mp hq with h | h
      · exact hS.2.2 q h
      · exact hf _ (hL q h)⟩⟩
theorem vx_calli {S SX : Type} {post : Int32 → S → Prop} {px : SX → Prop} {B : S → State → Prop} {BX : String → SX → State → Prop} {AX : Nat → Prop} (hr : vx_Run p l e R s m args below meth c H locs cells slots mc ms (F0 m pc ls st0) rest (va_Qi post B A1 a) (vx_X px BX AX) free) (hS : va_S A0 H0 H locs) (hA : ∀ q, q < H.size → A1 q → A0 q) (hf : ∀ q, free q → A0 q) (hAX : ∀ q, q < H.size → AX q → A0 q)
    (kx : ∀ (E : String) (ce : Cell) (q9 : Addr) (u : SX) (t : State) (H1 : Heap) (locs1 : List Loc), t.heap = H1 → s.vm.Alike t.vm → px u → BX E u t → H.size ≤ H1.size → (∀ q : Nat, q < H.size → ¬ AX q → H1[q]? = H[q]?) → va_S A0 H0 H1 locs1 → H1[q9]? = some ce → ce.vm = .none → s.vm.findClass E = some ce.cls → vx_W p l e R s m args below meth c H1 locs1 (cells + mc) (slots + ms) Q (F0 m pc ls rest) q9)
    (kk : ∀ (r : Int32) (u : S) (t : State) (H1 : Heap) (locs1 : List Loc), t.heap = H1 → s.vm.Alike t.vm → post r u → B u t → H.size ≤ H1.size → (∀ q : Nat, q < H.size → ¬ A1 q → H1[q]? = H[q]?) → va_S A0 H0 H1 locs1 → W p l e R s m args below meth c H1 locs1 (cells + mc) (slots + ms) Q (F0 m (pc + 3) ls (.int r :: rest))) : W p l e R s m args below meth c H locs cells slots Q (F0 m pc ls st0) := by
  intro T hT X
  rcases hr T hT X with ⟨v, st₀, t, T', L, h0, X', hL, e1, e2, ⟨⟨r, u, hv, hp, hb⟩, hF⟩, st⟩ | ⟨q, st₀, t, T', L, E, ce, h0, X', hL, e1, e2, ⟨u, hp, hb, hF⟩, hce, hcv, hcl, st⟩
  · cases hv
    obtain ⟨k1, k2, k3⟩ := vx_keep h0 e1 hS hA hf hL hF
    obtain ⟨t2, a1, b1⟩ := kk r u t T'.heap (locs ++ L) e1.symm (by rw [← e2]; exact X'.warmed.alike) hp hb k1 k2 k3 T' rfl X'
    exact ⟨t2, st t2 a1, b1⟩
  · obtain ⟨k1, k2, k3⟩ := vx_keep h0 e1 hS hAX hf hL hF
    obtain ⟨t2, a1, b1⟩ := kx E ce q u t T'.heap (locs ++ L) e1.symm (by rw [← e2]; exact X'.warmed.alike) hp hb k1 k2 k3 (by rw [e1]; exact hce) hcv hcl T' rfl X'
    exact ⟨t2, st.trans a1, b1⟩
theorem vx_calll {S SX : Type} {post : Int64 → S → Prop} {px : SX → Prop} {B : S → State → Prop} {BX : String → SX → State → Prop} {AX : Nat → Prop} (hr : vx_Run p l e R s m args below meth c H locs cells slots mc ms (F0 m pc ls st0) rest (va_Ql post B A1 a) (vx_X px BX AX) free) (hS : va_S A0 H0 H locs) (hA : ∀ q, q < H.size → A1 q → A0 q) (hf : ∀ q, free q → A0 q) (hAX : ∀ q, q < H.size → AX q → A0 q)
    (kx : ∀ (E : String) (ce : Cell) (q9 : Addr) (u : SX) (t : State) (H1 : Heap) (locs1 : List Loc), t.heap = H1 → s.vm.Alike t.vm → px u → BX E u t → H.size ≤ H1.size → (∀ q : Nat, q < H.size → ¬ AX q → H1[q]? = H[q]?) → va_S A0 H0 H1 locs1 → H1[q9]? = some ce → ce.vm = .none → s.vm.findClass E = some ce.cls → vx_W p l e R s m args below meth c H1 locs1 (cells + mc) (slots + ms) Q (F0 m pc ls rest) q9)
    (kk : ∀ (r : Int64) (u : S) (t : State) (H1 : Heap) (locs1 : List Loc), t.heap = H1 → s.vm.Alike t.vm → post r u → B u t → H.size ≤ H1.size → (∀ q : Nat, q < H.size → ¬ A1 q → H1[q]? = H[q]?) → va_S A0 H0 H1 locs1 → W p l e R s m args below meth c H1 locs1 (cells + mc) (slots + ms) Q (F0 m (pc + 3) ls (.long r :: rest))) : W p l e R s m args below meth c H locs cells slots Q (F0 m pc ls st0) := by
  intro T hT X
  rcases hr T hT X with ⟨v, st₀, t, T', L, h0, X', hL, e1, e2, ⟨⟨r, u, hv, hp, hb⟩, hF⟩, st⟩ | ⟨q, st₀, t, T', L, E, ce, h0, X', hL, e1, e2, ⟨u, hp, hb, hF⟩, hce, hcv, hcl, st⟩
  · cases hv
    obtain ⟨k1, k2, k3⟩ := vx_keep h0 e1 hS hA hf hL hF
    obtain ⟨t2, a1, b1⟩ := kk r u t T'.heap (locs ++ L) e1.symm (by rw [← e2]; exact X'.warmed.alike) hp hb k1 k2 k3 T' rfl X'
    exact ⟨t2, st t2 a1, b1⟩
  · obtain ⟨k1, k2, k3⟩ := vx_keep h0 e1 hS hAX hf hL hF
    obtain ⟨t2, a1, b1⟩ := kx E ce q u t T'.heap (locs ++ L) e1.symm (by rw [← e2]; exact X'.warmed.alike) hp hb k1 k2 k3 (by rw [e1]; exact hce) hcv hcl T' rfl X'
    exact ⟨t2, st.trans a1, b1⟩
theorem vx_callf {S SX : Type} {post : UInt32 → S → Prop} {px : SX → Prop} {B : S → State → Prop} {BX : String → SX → State → Prop} {AX : Nat → Prop} (hr : vx_Run p l e R s m args below meth c H locs cells slots mc ms (F0 m pc ls st0) rest (va_Qf post B A1 a) (vx_X px BX AX) free) (hS : va_S A0 H0 H locs) (hA : ∀ q, q < H.size → A1 q → A0 q) (hf : ∀ q, free q → A0 q) (hAX : ∀ q, q < H.size → AX q → A0 q)
    (kx : ∀ (E : String) (ce : Cell) (q9 : Addr) (u : SX) (t : State) (H1 : Heap) (locs1 : List Loc), t.heap = H1 → s.vm.Alike t.vm → px u → BX E u t → H.size ≤ H1.size → (∀ q : Nat, q < H.size → ¬ AX q → H1[q]? = H[q]?) → va_S A0 H0 H1 locs1 → H1[q9]? = some ce → ce.vm = .none → s.vm.findClass E = some ce.cls → vx_W p l e R s m args below meth c H1 locs1 (cells + mc) (slots + ms) Q (F0 m pc ls rest) q9)
    (kk : ∀ (r : UInt32) (u : S) (t : State) (H1 : Heap) (locs1 : List Loc), t.heap = H1 → s.vm.Alike t.vm → post r u → B u t → H.size ≤ H1.size → (∀ q : Nat, q < H.size → ¬ A1 q → H1[q]? = H[q]?) → va_S A0 H0 H1 locs1 → W p l e R s m args below meth c H1 locs1 (cells + mc) (slots + ms) Q (F0 m (pc + 3) ls (.float r :: rest))) : W p l e R s m args below meth c H locs cells slots Q (F0 m pc ls st0) := by
  intro T hT X
  rcases hr T hT X with ⟨v, st₀, t, T', L, h0, X', hL, e1, e2, ⟨⟨r, u, hv, hp, hb⟩, hF⟩, st⟩ | ⟨q, st₀, t, T', L, E, ce, h0, X', hL, e1, e2, ⟨u, hp, hb, hF⟩, hce, hcv, hcl, st⟩
  · cases hv
    obtain ⟨k1, k2, k3⟩ := vx_keep h0 e1 hS hA hf hL hF
    obtain ⟨t2, a1, b1⟩ := kk r u t T'.heap (locs ++ L) e1.symm (by rw [← e2]; exact X'.warmed.alike) hp hb k1 k2 k3 T' rfl X'
    exact ⟨t2, st t2 a1, b1⟩
  · obtain ⟨k1, k2, k3⟩ := vx_keep h0 e1 hS hAX hf hL hF
    obtain ⟨t2, a1, b1⟩ := kx E ce q u t T'.heap (locs ++ L) e1.symm (by rw [← e2]; exact X'.warmed.alike) hp hb k1 k2 k3 (by rw [e1]; exact hce) hcv hcl T' rfl X'
    exact ⟨t2, st.trans a1, b1⟩
theorem vx_calld {S SX : Type} {post : UInt64 → S → Prop} {px : SX → Prop} {B : S → State → Prop} {BX : String → SX → State → Prop} {AX : Nat → Prop} (hr : vx_Run p l e R s m args below meth c H locs cells slots mc ms (F0 m pc ls st0) rest (va_Qd post B A1 a) (vx_X px BX AX) free) (hS : va_S A0 H0 H locs) (hA : ∀ q, q < H.size → A1 q → A0 q) (hf : ∀ q, free q → A0 q) (hAX : ∀ q, q < H.size → AX q → A0 q)
    (kx : ∀ (E : String) (ce : Cell) (q9 : Addr) (u : SX) (t : State) (H1 : Heap) (locs1 : List Loc), t.heap = H1 → s.vm.Alike t.vm → px u → BX E u t → H.size ≤ H1.size → (∀ q : Nat, q < H.size → ¬ AX q → H1[q]? = H[q]?) → va_S A0 H0 H1 locs1 → H1[q9]? = some ce → ce.vm = .none → s.vm.findClass E = some ce.cls → vx_W p l e R s m args below meth c H1 locs1 (cells + mc) (slots + ms) Q (F0 m pc ls rest) q9)
    (kk : ∀ (r : UInt64) (u : S) (t : State) (H1 : Heap) (locs1 : List Loc), t.heap = H1 → s.vm.Alike t.vm → post r u → B u t → H.size ≤ H1.size → (∀ q : Nat, q < H.size → ¬ A1 q → H1[q]? = H[q]?) → va_S A0 H0 H1 locs1 → W p l e R s m args below meth c H1 locs1 (cells + mc) (slots + ms) Q (F0 m (pc + 3) ls (.double r :: rest))) : W p l e R s m args below meth c H locs cells slots Q (F0 m pc ls st0) := by
  intro T hT X
  rcases hr T hT X with ⟨v, st₀, t, T', L, h0, X', hL, e1, e2, ⟨⟨r, u, hv, hp, hb⟩, hF⟩, st⟩ | ⟨q, st₀, t, T', L, E, ce, h0, X', hL, e1, e2, ⟨u, hp, hb, hF⟩, hce, hcv, hcl, st⟩
  · cases hv
    obtain ⟨k1, k2, k3⟩ := vx_keep h0 e1 hS hA hf hL hF
    obtain ⟨t2, a1, b1⟩ := kk r u t T'.heap (locs ++ L) e1.symm (by rw [← e2]; exact X'.warmed.alike) hp hb k1 k2 k3 T' rfl X'
    exact ⟨t2, st t2 a1, b1⟩
  · obtain ⟨k1, k2, k3⟩ := vx_keep h0 e1 hS hAX hf hL hF
    obtain ⟨t2, a1, b1⟩ := kx E ce q u t T'.heap (locs ++ L) e1.symm (by rw [← e2]; exact X'.warmed.alike) hp hb k1 k2 k3 (by rw [e1]; exact hce) hcv hcl T' rfl X'
    exact ⟨t2, st.trans a1, b1⟩
theorem vx_callv {S SX : Type} {post : S → Prop} {px : SX → Prop} {B : S → State → Prop} {BX : String → SX → State → Prop} {AX : Nat → Prop} (hr : vx_Run p l e R s m args below meth c H locs cells slots mc ms (F0 m pc ls st0) rest (va_Qv post B A1 a) (vx_X px BX AX) free) (hS : va_S A0 H0 H locs) (hA : ∀ q, q < H.size → A1 q → A0 q) (hf : ∀ q, free q → A0 q) (hAX : ∀ q, q < H.size → AX q → A0 q)
    (kx : ∀ (E : String) (ce : Cell) (q9 : Addr) (u : SX) (t : State) (H1 : Heap) (locs1 : List Loc), t.heap = H1 → s.vm.Alike t.vm → px u → BX E u t → H.size ≤ H1.size → (∀ q : Nat, q < H.size → ¬ AX q → H1[q]? = H[q]?) → va_S A0 H0 H1 locs1 → H1[q9]? = some ce → ce.vm = .none → s.vm.findClass E = some ce.cls → vx_W p l e R s m args below meth c H1 locs1 (cells + mc) (slots + ms) Q (F0 m pc ls rest) q9)
    (kk : ∀ (u : S) (t : State) (H1 : Heap) (locs1 : List Loc), t.heap = H1 → s.vm.Alike t.vm → post u → B u t → H.size ≤ H1.size → (∀ q : Nat, q < H.size → ¬ A1 q → H1[q]? = H[q]?) → va_S A0 H0 H1 locs1 → W p l e R s m args below meth c H1 locs1 (cells + mc) (slots + ms) Q (F0 m (pc + 3) ls (rest))) : W p l e R s m args below meth c H locs cells slots Q (F0 m pc ls st0) := by
  intro T hT X
  rcases hr T hT X with ⟨v, st₀, t, T', L, h0, X', hL, e1, e2, ⟨⟨u, hv, hp, hb⟩, hF⟩, st⟩ | ⟨q, st₀, t, T', L, E, ce, h0, X', hL, e1, e2, ⟨u, hp, hb, hF⟩, hce, hcv, hcl, st⟩
  · cases hv
    obtain ⟨k1, k2, k3⟩ := vx_keep h0 e1 hS hA hf hL hF
    obtain ⟨t2, a1, b1⟩ := kk u t T'.heap (locs ++ L) e1.symm (by rw [← e2]; exact X'.warmed.alike) hp hb k1 k2 k3 T' rfl X'
    exact ⟨t2, st t2 a1, b1⟩
  · obtain ⟨k1, k2, k3⟩ := vx_keep h0 e1 hS hAX hf hL hF
    obtain ⟨t2, a1, b1⟩ := kx E ce q u t T'.heap (locs ++ L) e1.symm (by rw [← e2]; exact X'.warmed.alike) hp hb k1 k2 k3 (by rw [e1]; exact hce) hcv hcl T' rfl X'
    exact ⟨t2, st.trans a1, b1⟩
/-- caught by the row x of this method's table; the rows ahead don't take it -/
theorem vx_catch {own name : String} {E : String} {ce : Cell} {q : Addr} (hown : s.vm.findClass own = some m.cls) (pre : List ExceptionTableEntry) (x : ExceptionTableEntry) (suf : List ExceptionTableEntry) (hsplit : c.exceptionTable.toList = pre ++ x :: suf)
    (hpass : ∀ z ∈ pre, covers z pc = false ∨ (z.catchType ≠ 0 ∧ ∃ nm : String, (Cond.classLink own z.catchType nm).before args s = true ∧ va_Nc E nm s)) (hx : covers x pc = true) (h0 : x.catchType ≠ 0)
    (hlink : (Cond.classLink own x.catchType name).before args s = true) (hcast : (Cond.castable E name).before args s = true) (hcell : H[q]? = some ce) (hv : ce.vm = .none) (hcl : s.vm.findClass E = some ce.cls)
    (kk : W p l e R s m args below meth c H locs cells slots Q (F0 m x.handlerPc ls [.ref q])) : vx_W p l e R s m args below meth c H locs cells slots Q (F0 m pc ls rest) q := by
  intro T hT X
  have hpl : e.platform.magicAccessors = ({} : Platform).magicAccessors := by rw [X.admits.platform]
  obtain ⟨c3, c4, hc3, hc4, hasg⟩ := Cond.castable_spec hcast
  cases Option.some.inj (hc3.symm.trans hcl)
  obtain ⟨c5, hc5, hcl5⟩ := Cond.classLink_spec hown hlink e.platform hpl
  cases Option.some.inj (hc4.symm.trans hc5)
  obtain ⟨vm', X', st⟩ := X.thenCaughtThrough q (g := F0 m pc ls rest) rfl (Steps.refl _) (by rw [hT]; exact hcell) (by rw [hv]; rfl) (by obtain ⟨k9, h9, -⟩ := Vm.findClass_spec hcl; exact ⟨k9, h9⟩) pre x suf hsplit
    (fun z hz => by
      rcases hpass z hz with h | ⟨hz0, nm, hl1, hn1⟩
      · exact Or.inl h
      · obtain ⟨c6, hc6, hcl6⟩ := Cond.classLink_spec hown hl1 e.platform hpl
        obtain ⟨a8, b8, h1, h2, h3⟩ := hn1
        cases Option.some.inj (h1.symm.trans hcl)
        cases Option.some.inj (h2.symm.trans hc6)
        exact Or.inr ⟨hz0, _, hcl6, h3⟩) hx (Or.inr ⟨h0, c4, hcl5, hasg⟩)
  obtain ⟨t, a1, b1⟩ := kk (T.setVm vm') hT X'
  exact ⟨t, st.trans a1, b1⟩
end Rows
section Ends
variable {p : Program} {l : Launch} {e : Env} {R : Room} {s : State} {m : MethodId} {args : Array Value} {below : List Frame} {meth : Method} {c : Code} {H : Heap} {locs : List Loc} {cells slots : Nat} {Q : State → Prop}
variable {mc ms : Nat} {free : Addr → Prop} {A0 A1 : Nat → Prop} {H0 : Heap} {a : Array Value} {ls : Array Slot} {st0 rest : List Value}
variable {Qc : Array Value → State → Outcome → State → Prop} {XC : String → State → State → Prop}
/-- what a body that may throw owes at its end -/
def vx_MQ (below : List Frame) (Qc : Array Value → State → Outcome → State → Prop) (XC : String → State → State → Prop) (a : Array Value) (s : State) (mc ms : Nat) (free : Addr → Prop) : State → Prop := fun t =>
  ∃ o, t.status = .running ∧ Ended t below o ∧ vx_Q Qc XC mc ms free a s o t
theorem vx_ret {g : JFrame} {mc ms : Nat} (k : W p l e R s m args below meth c H locs cells slots (MQ below Qc args s mc ms free) g) : W p l e R s m args below meth c H locs cells slots (vx_MQ below Qc XC args s mc ms free) g := by
  intro T hT X
  obtain ⟨t, a1, o, b1, b2, b3, b4⟩ := k T hT X
  exact ⟨t, a1, o, b1, b2, Or.inl ⟨b3, b4⟩⟩
/-- not caught here: it goes on to the caller -/
theorem vx_widen {g : JFrame} {q : Addr} {k n : Nat} (h1 : cells ≤ k) (h2 : slots ≤ n) (kk : vx_W p l e R s m args below meth c H locs k n Q g q) : vx_W p l e R s m args below meth c H locs cells slots Q g q := fun T hT X => kk T hT (stand_widen X h1 h2)
theorem vx_out {pc : Nat} {E : String} {ce : Cell} {q : Addr} {mc ms : Nat} (hout : ∀ x ∈ c.exceptionTable.toList, covers x pc = false) (hlocks : meth.locks = false) (hcell : H[q]? = some ce) (hv : ce.vm = .none) (hcl : s.vm.findClass E = some ce.cls)
    (hx : ∀ t : State, t.heap = H → s.vm.Alike t.vm → XC E s t) (hf : ∀ z ∈ locs, free z.base) (hc : cells ≤ mc) (hs : slots ≤ ms) :
    vx_W p l e R s m args below meth c H locs cells slots (vx_MQ below Qc XC args s mc ms free) (F0 m pc ls rest) q := by
  intro T hT X
  obtain ⟨st1, hrun, hend, hW, hsm⟩ := X.leaveThrown q (g := F0 m pc ls rest) rfl rfl rfl hout hlocks
  have hcell9 : (T.setFrames (.throwing q :: below)).heap[q]? = some ce := by
    show T.heap[q]? = some ce
    rw [hT]; exact hcell
  exact ⟨_, st1, .threw q, hrun, hend, Or.inr ⟨q, rfl, E, ce, locs, hx _ hT hW.alike, hcell9, hv, hcl, hW, hsm.mono hc hs, hf⟩⟩
theorem vx_frame {U : State} {k n : Nat} (h : s.sameButNew ({ U with vm := s.vm } : State) locs k n) : s.heap.size ≤ U.heap.size ∧ ∀ q : Nat, q < s.heap.size → (∀ z ∈ locs, z.base ≠ q) → U.heap[q]? = s.heap[q]? := by
  obtain ⟨-, h2, -, -, -, h6⟩ := h
  refine ⟨h2, fun q hq hz => ?_⟩
  obtain ⟨c9, e1, e2, e3, e4⟩ := h6 q _ (Array.getElem?_eq_getElem hq)
  have hs : c9.slots = (s.heap[q]).slots := Array.ext_getElem? fun i => e4 i fun hm => hz _ hm rfl
  have h9 : c9 = s.heap[q] := by
    rw [hs] at e2
    exact e2
  have e5 : U.heap[q]? = some c9 := e1
  rw [e5, h9, Array.getElem?_eq_getElem hq]
/-- the words of a throw but the four that speak of the heap -/
def vx_no (w : Cond) : Bool := decide (w ≠ .isRef (.static Bundle.tN "UNASSIGNED_STACK" Bundle.steD)) && decide (w ≠ .isRef (.static Bundle.tN "SUPPRESSED_SENTINEL" Bundle.listD)) && decide (w ≠ .laysStatic Bundle.tN "UNASSIGNED_STACK" Bundle.steD) && decide (w ≠ .laysStatic Bundle.tN "SUPPRESSED_SENTINEL" Bundle.listD)
def vx_at0 (own : String) (ic : Nat) (X : String) (names : List String) : List Cond := (Bundle.ownAtoms0 own ic X names).filter vx_no
def vx_atS (own : String) (ic : Nat) (X : String) (names : List String) : List Cond := (Bundle.ownAtoms own ic X names).filter vx_no
/-- a word that the tables alone decide, or a good one -/
def vx_ot (w : Cond) : Bool := w.onTables || goodWord w
theorem vx_ot_at {args a' : Array Value} {s U : State} {w : Cond} (hW : s.WarmedH U.vm) (hvm : s.vm = U.vm) (hg : vx_ot w = true) (h : w.before args s = true) : w.before a' U = true := by
  simp only [vx_ot, Bool.or_eq_true] at hg
  rcases hg with hg | hg
  · exact va_tabs hg hvm h
  · exact word_at hW (good_of_word hg) h
/-- a list's words: the good ones out of the method's own list, the others by premises of their own -/
theorem vx_hat {args : Array Value} {s : State} {L B : List Cond} (h1 : ∀ w ∈ L.filter goodWord, w.before args s = true) (h2 : ∀ w ∈ L.filter (fun w => !goodWord w), w ∈ B) (h3 : ∀ w ∈ B, w.before args s = true) : ∀ w ∈ L, w.before args s = true := by
  intro w hw
  by_cases g : goodWord w = true
  · exact h1 w (List.mem_filter.mpr ⟨hw, g⟩)
  · refine h3 w (h2 w (List.mem_filter.mpr ⟨hw, ?_⟩))
    show (!goodWord w) = true
    cases hgw : goodWord w
    · rfl
    · exact absurd hgw g
theorem vx_c {args : Array Value} {s : State} {w : Cond} {B : List Cond} (h : w.before args s = true) (t : ∀ w ∈ B, w.before args s = true) : ∀ w' ∈ w :: B, w'.before args s = true := fun w' h' => (List.mem_cons.mp h').elim (fun e => by rw [e]; exact h) (t w')
theorem vx_n {args : Array Value} {s : State} : ∀ w ∈ ([] : List Cond), w.before args s = true := fun _ h => nomatch h
theorem vx_own {args : Array Value} {s : State} {L : List Cond} (h1 : ∀ w ∈ L.filter vx_no, w.before args s = true)
    (hU : (Cond.isRef (.static Bundle.tN "UNASSIGNED_STACK" Bundle.steD)).before args s = true) (hN : (Cond.isRef (.static Bundle.tN "SUPPRESSED_SENTINEL" Bundle.listD)).before args s = true)
    (lU : (Cond.laysStatic Bundle.tN "UNASSIGNED_STACK" Bundle.steD).before args s = true) (lN : (Cond.laysStatic Bundle.tN "SUPPRESSED_SENTINEL" Bundle.listD).before args s = true) : ∀ w ∈ L, w.before args s = true := by
  intro w hw
  by_cases e1 : w = .isRef (.static Bundle.tN "UNASSIGNED_STACK" Bundle.steD)
  · rw [e1]; exact hU
  · by_cases e2 : w = .isRef (.static Bundle.tN "SUPPRESSED_SENTINEL" Bundle.listD)
    · rw [e2]; exact hN
    · by_cases e3 : w = .laysStatic Bundle.tN "UNASSIGNED_STACK" Bundle.steD
      · rw [e3]; exact lU
      · by_cases e4 : w = .laysStatic Bundle.tN "SUPPRESSED_SENTINEL" Bundle.listD
        · rw [e4]; exact lN
        · exact h1 w (List.mem_filter.mpr ⟨hw, by unfold vx_no; rw [decide_eq_true e1, decide_eq_true e2, decide_eq_true e3, decide_eq_true e4]; rfl⟩)
/-- where a static field lies, its class's statics cell in H -/
def vx_L (C n d : String) (A : Nat → Prop) (U : State) (H : Heap) : Prop := ∃ (c : ClassId) (k : Class) (i : Nat) (f : Field) (a : Nat) (cell : Cell), U.vm.findClass C = some c ∧ U.fieldFound? C n d = some (c, k, i, f) ∧ f.isStatic = true ∧ k.statics = some a ∧ H[a]? = some cell ∧ cell.vm.isStatics = true ∧ cell.cls = c ∧ f.slot < cell.slots.size ∧ k.staticTypes[f.slot]? = some f.type ∧ ¬ A a
theorem vx_L.moved {C n d : String} {A : Nat → Prop} {u U : State} {H : Heap} (hvm : u.vm.Alike U.vm) (h : vx_L C n d A u H) : vx_L C n d A U H := by
  obtain ⟨c, k, i, f, a, cell, h1, h2, h3, h4, h5, h6, h7, h8, h9, h10⟩ := h
  obtain ⟨k', hi', he⟩ := State.fieldFound?_setVm hvm h2
  exact ⟨c, k', i, f, a, cell, by rw [hvm.findClass]; exact h1, hi', h3, by rw [he]; exact h4, h5, h6, h7, h8, by rw [he]; exact h9, h10⟩
theorem vx_L.kept {C n d : String} {A : Nat → Prop} {U : State} {H H1 : Heap} (h : vx_L C n d A U H) (hq : ∀ a : Nat, a < H.size → ¬ A a → H1[a]? = H[a]?) : vx_L C n d A U H1 := by
  obtain ⟨c, k, i, f, a, cell, h1, h2, h3, h4, h5, h6, h7, h8, h9, h10⟩ := h
  exact ⟨c, k, i, f, a, cell, h1, h2, h3, h4, by rw [hq a (Array.getElem?_eq_some_iff.mp h5).1 h10]; exact h5, h6, h7, h8, h9, h10⟩
theorem vx_L.narrow {C n d : String} {A B : Nat → Prop} {U : State} {H : Heap} (h : vx_L C n d A U H) (hAB : ∀ q, B q → A q) : vx_L C n d B U H := by
  obtain ⟨c, k, i, f, a, cell, h1, h2, h3, h4, h5, h6, h7, h8, h9, h10⟩ := h
  exact ⟨c, k, i, f, a, cell, h1, h2, h3, h4, h5, h6, h7, h8, h9, fun z => h10 (hAB _ z)⟩
theorem vx_L.word {C n d : String} {A : Nat → Prop} {s : State} {args : Array Value} (h : vx_L C n d A s s.heap) : (Cond.laysStatic C n d).before args s = true := by
  obtain ⟨c, k, i, f, a, cell, h1, h2, h3, h4, h5, h6, h7, h8, h9, -⟩ := h
  show (Cond.laysStatic C n d).holds args s none s [] = true
  exact Cond.laysStatic_of h1 h2 h3 h4 h5 h6 h7 h8 h9
/-- .. and what it holds: null or some reference -/
def vx_Zq (C n d : String) (A : Nat → Prop) (U : State) (H : Heap) : Prop := va_Zq C n d A U H ∧ vx_L C n d A U H
theorem vx_Zq.moved {C n d : String} {A : Nat → Prop} {u U : State} {H : Heap} (hvm : u.vm.Alike U.vm) (h : vx_Zq C n d A u H) : vx_Zq C n d A U H := ⟨va_Zq.moved hvm h.1, vx_L.moved hvm h.2⟩
theorem vx_Zq.kept {C n d : String} {A : Nat → Prop} {U : State} {H H1 : Heap} (h : vx_Zq C n d A U H) (hq : ∀ a : Nat, a < H.size → ¬ A a → H1[a]? = H[a]?) : vx_Zq C n d A U H1 := ⟨va_Zq.kept h.1 hq, vx_L.kept h.2 hq⟩
theorem vx_Zq.narrow {C n d : String} {A B : Nat → Prop} {U : State} {H : Heap} (h : vx_Zq C n d A U H) (hAB : ∀ q, B q → A q) : vx_Zq C n d B U H := ⟨va_Zq.narrow h.1 hAB, vx_L.narrow h.2 hAB⟩
theorem vx_Zqof {args : Array Value} {s : State} {C n d : String} {A : Nat → Prop} (hl : (Cond.laysStatic C n d).before args s = true) (hini : (Cond.initialized C).before args s = true) (h : (Cond.isRef (.static C n d)).before args s = true) (hA : ∀ a : Nat, a < s.heap.size → ¬ A a) : vx_Zq C n d A s s.heap := by
  refine ⟨va_Zqof hl hini h hA, ?_⟩
  obtain ⟨c, k, i, f, a, cell, h1, h2, h3, h4, h5, h6, h7, h8, h9⟩ := Cond.laysStatic_spec hl
  exact ⟨c, k, i, f, a, cell, h1, h2, h3, h4, h5, h6, h7, h8, h9, hA a (Array.getElem?_eq_some_iff.mp h5).1⟩
theorem vx_isRef {C n d : String} {v : Value} {A : Nat → Prop} {s : State} {args : Array Value} (h : va_Z C n d v A s s.heap) (hv : v.isRef = true) : (Cond.isRef (.static C n d)).before args s = true := by
  obtain ⟨cf, kf, fi, f, a, cell, h1, h2, h3, h4, h5, h6, h7, -⟩ := h
  have he : (Term.static C n d).eval args s none [] s = some v := by
    simp [Term.eval, State.fieldNamed?, h1, h2, h4, h5, h6, h7]
  simp only [Cond.before, Cond.holds, Cond.value, he]
  cases v <;> simp_all [Value.isRef]
theorem vx_isRefq {C n d : String} {A : Nat → Prop} {s : State} {args : Array Value} (h : va_Zq C n d A s s.heap) : (Cond.isRef (.static C n d)).before args s = true := by
  rcases h with h | ⟨t, h⟩
  · exact vx_isRef h rfl
  · exact vx_isRef h rfl
/-- the same frame, seen from here: as if the method were called anew in this heap -/
theorem vx_rebase {T : State} (X : Stand p l e R s m args below meth c T locs cells slots) {R' : Room} (hf : R'.frames ≤ R.frames) (hl : R'.locals ≤ R.locals) (hc : cells + R'.cells ≤ R.cells) (hs : slots + R'.slots ≤ R.slots) :
    Stand p l e R' ((T.setVm s.vm).setFrames (.invoking m args :: below)) m args below meth c T [] 0 0 := by
  have htop : (T.setVm s.vm).topJava?.isSome := X.here.top
  have hF : ((T.setVm s.vm).setFrames (.invoking m args :: below)).frames = .invoking m args :: below := State.frames_setFrames _ (State.cur_lt_of_top htop)
  obtain ⟨g₀, hg0⟩ := Option.isSome_iff_exists.mp htop
  obtain ⟨r, hr⟩ := State.topJava?_eq_some.mp hg0
  have hl9 : e.platform.stackLimits (T.setVm s.vm).me = e.platform.stackLimits s.me := X.limits
  have hb9 : (T.setVm s.vm).me.stackBytes = s.me.stackBytes := X.bytes
  refine ⟨X.admits, X.cas, X.clock, hF, ?_, X.hears, X.method, X.code, X.here, X.tail, X.warmed, ?_, ?_, ?_⟩
  · have h := X.room
    have hU : ((T.setVm s.vm).setFrames (.invoking m args :: below)).localsInUse = s.localsInUse := by
      rw [State.localsInUse_invoking hF (meth := meth) (c := c) X.method X.code, State.localsInUse_invoking X.frames X.method X.code]
    simp only [State.hasRoom, Bool.and_eq_true, decide_eq_true_eq] at h ⊢
    obtain ⟨⟨⟨⟨h1, h2, h3, h4, h5, h6⟩, h7⟩, h8⟩, h9⟩ := h
    rw [X.frames, List.length_cons] at h2 h3
    have q1 := X.heapSize
    have q2 := X.used
    simp only [hF, hU, List.length_cons, State.stackLimits_setFrames, State.stackBytes_setFrames, hl9, hb9]
    refine ⟨⟨⟨⟨by omega, by omega, by omega, by omega, by omega, h6⟩, ?_⟩, ?_⟩, X.book⟩
    · show T.heap.size + R'.cells ≤ e.platform.maxCells
      omega
    · show T.slotsUsed + R'.slots ≤ e.platform.maxSlots
      omega
  · rw [State.stackLimits_setFrames]; rfl
  · rw [State.stackBytes_setFrames]; rfl
  · refine ⟨?_, Nat.le_refl _, Nat.le_refl _, ?_, ?_, fun a c9 h9 => ⟨c9, h9, rfl, rfl, fun _ _ => rfl⟩⟩
    · obtain ⟨t, ht, -⟩ := State.frames_cons hr
      show T.setVm s.vm = { ((T.setVm s.vm).setFrames (.invoking m args :: below)).setFrames (T.setVm s.vm).frames with heap := T.heap, slotsUsed := T.slotsUsed }
      rw [State.setFrames_setFrames, State.setFrames_self ht]
      rfl
    · show T.slotsUsed = T.slotsUsed + ((T.heap.toList.drop T.heap.size).map (·.slots.size)).sum
      rw [List.drop_eq_nil_of_le (Nat.le_of_eq Array.length_toList)]
      rfl
    · show ((T.heap.toList.drop T.heap.size).map (·.slots.size)).sum ≤ 0
      rw [List.drop_eq_nil_of_le (Nat.le_of_eq Array.length_toList)]
      exact Nat.le_refl _
/-- 'throw new E()': new; dup; invokespecial; athrow -/
theorem vx_throw0 {cc : ByteArray} {pc : Nat} (hexec : p.tables.exec = Jvm.exec) (hb : c.code = cc) (hl : l.stackTraces = false) {own cls : String} {names : List String} {ik ic mc ms : Nat} {A : Nat → Prop}
    (hown : s.vm.findClass own = some m.cls) (hcls : Bundle.fit cls = true) (hnames : ∀ n ∈ names, Bundle.fit n = true)
    (hk : (Cond.classLink own ik cls).before args s = true) (hini : (Cond.initialized cls).before args s = true) (hat : ∀ w ∈ vx_at0 own ic cls names, w.before args s = true)
    (hgood : ∀ w ∈ Cond.classLink own ik cls :: Cond.initialized cls :: vx_at0 own ic cls names, vx_ot w = true)
    (hU : vx_Zq Bundle.tN "UNASSIGNED_STACK" Bundle.steD A s s.heap) (hN : vx_Zq Bundle.tN "SUPPRESSED_SENTINEL" Bundle.listD A s s.heap) (hS : va_S A s.heap H locs) (hsize : ls.size = c.maxLocals)
    (d0 : decode cc pc = .ok (.new ik, 3)) (d3 : decode cc (pc + 3) = .ok (.dup, 1)) (d4 : decode cc (pc + 4) = .ok (.invokespecial ic, 3)) (d7 : decode cc (pc + 7) = .ok (.athrow, 1))
    (hout : ∀ x ∈ c.exceptionTable.toList, covers x (pc + 7) = false)
    (hRframes : names.length + 3 < R.frames) (hRlocals : (rest.map fun v => v.category).sum + (13 * (names.length + 1) + 42) ≤ R.locals) (hRcells : cells + 1 ≤ R.cells) (hRslots : slots + 6 ≤ R.slots) (hlocks : meth.locks = false)
    (hx : ∀ t : State, s.vm.Alike t.vm → H.size ≤ t.heap.size → (∀ q : Nat, q < H.size → t.heap[q]? = H[q]?) → XC cls s t)
    (hf : ∀ z ∈ locs, free z.base) (hc : cells + 1 ≤ mc) (hs : slots + 6 ≤ ms) :
    W p l e R s m args below meth c H locs cells slots (vx_MQ below Qc XC args s mc ms free) (F0 m pc ls rest) := by
  intro T hT X
  have htr : e.platform.stackTraces = false := (show e.platform.stackTraces = l.stackTraces by rw [X.admits.platform]).trans hl
  have Y := vx_rebase X (R' := { frames := R.frames, locals := R.locals, cells := 1, slots := 6 }) (Nat.le_refl _) (Nat.le_refl _) hRcells hRslots
  obtain ⟨s', hA⟩ : ∃ z, z = (T.setVm s.vm).setFrames (.invoking m args :: below) := ⟨_, rfl⟩
  rw [← hA] at Y
  have hvm : s'.vm = s.vm := by rw [hA]; rfl
  have hhp : s'.heap = H := by rw [hA]; exact hT
  have hW0 : s.WarmedH s'.vm := by rw [hvm]; exact State.WarmedH.refl s
  have hat' : ∀ w ∈ vx_at0 own ic cls names, w.before args s' = true := fun w hw => vx_ot_at hW0 hvm.symm (hgood w (List.mem_cons_of_mem _ (List.mem_cons_of_mem _ hw))) (hat w hw)
  have hk' : (Cond.classLink own ik cls).before args s' = true := vx_ot_at hW0 hvm.symm (hgood _ List.mem_cons_self) hk
  have hini' : (Cond.initialized cls).before args s' = true := vx_ot_at hW0 hvm.symm (hgood _ (List.mem_cons_of_mem _ List.mem_cons_self)) hini
  have hU' : vx_Zq Bundle.tN "UNASSIGNED_STACK" Bundle.steD A s' s'.heap := by rw [hhp]; exact vx_Zq.moved hW0.alike (hU.kept hS.2.1)
  have hN' : vx_Zq Bundle.tN "SUPPRESSED_SENTINEL" Bundle.listD A s' s'.heap := by rw [hhp]; exact vx_Zq.moved hW0.alike (hN.kept hS.2.1)
  have h : ∀ w ∈ Bundle.ownAtoms0 own ic cls names, w.before args s' = true := vx_own hat' (vx_isRefq hU'.1) (vx_isRefq hN'.1) hU'.2.word hN'.2.word
  have hown' : s'.vm.findClass own = some m.cls := by rw [hvm]; exact hown
  have hins : (Cond.instantiable cls 6).before args s' = true := h _ (by simp [Bundle.ownAtoms0])
  obtain ⟨vm₁, cX, kX, hfX, hkX, -, -, X₁, st1⟩ := Y.newCold hexec (own := own) (C := cls) (index := ik) (n := 6) hown' hk' hins hini'
    (g := F0 m pc ls rest) rfl (by rw [hb]; exact d0) (Nat.le_refl _) (Nat.le_refl _)
  generalize hT1 : (T.setVm vm₁).pushCell { cls := cX, slots := kX.instanceTypes.map defaultValue, vm := .none } = T1 at X₁ st1
  have hcat : (Value.ref T.heap.size).category = 1 := rfl
  have hcellA : T1.heap[T.heap.size]? = some (freshCell cX kX) := by rw [← hT1]; exact State.heap_pushCell_size _ _
  have d3' : decode c.code (pc + 3) = .ok (.dup, 1) := by rw [hb]; exact d3
  obtain ⟨U, hsteps, hrun, hend, hW, hsame, ce, hce, hO⟩ := X₁.ctorThrow0 hexec htr (own := own) (cls := cls) (names := names) (ic := ic) hown' hcls hnames h (fun x hx => nomatch hx) hfX hkX hcellA (by rw [hhp, hT]; exact Nat.le_refl _)
    (g := { method := m, pc := pc + 4, locals := ls, stack := .ref T.heap.size :: .ref T.heap.size :: rest, locked := none }) rfl hsize rfl rfl (rest := rest) rfl
    (by rw [hb]; exact d4) (by rw [hb]; exact d7) hout hRframes (by simp only [List.map_cons, List.sum_cons, hcat]; omega) hlocks
  obtain ⟨f1, f2⟩ := vx_frame hsame
  rw [hhp] at f1 f2
  have hWs : s.WarmedH U.vm := State.WarmedH.trans hW0 hW
  have hcl : s.vm.findClass cls = some ce.cls := by
    have h9 := hO.cls
    rw [hvm] at h9
    exact h9
  have hall : s.sameButNew ({ U with vm := s.vm } : State) locs mc ms := by
    subst hA
    obtain ⟨e1, e2⟩ := hsame
    rw [State.setFrames_setFrames] at e1
    have h2 : (T.setVm s.vm).sameButNew ({ U with vm := s.vm } : State) [] (0 + 1) (0 + 6) := ⟨e1, e2⟩
    have h3 := X.same.trans h2
    rw [List.append_nil] at h3
    exact h3.mono hc hs
  refine ⟨U, ?_, .threw T.heap.size, hrun, hend, Or.inr ⟨T.heap.size, rfl, cls, ce, locs, hx U hWs.alike f1 (fun q hq => f2 q hq (fun z hz => nomatch hz)), hce, hO.vm, hcl, hWs, hall, hf⟩⟩
  refine st1 _ ?_
  show Steps p.tables e below (T1.setTop { method := m, pc := pc + 3, locals := ls, stack := .ref T.heap.size :: rest, locked := none }) _
  jvm_step X₁.here [X₁.here.top, hexec, d3', Value.category]
  exact hsteps
/-- 'throw new E("text")': new; dup; ldc; invokespecial; athrow -/
theorem vx_throwS {cc : ByteArray} {pc : Nat} (hexec : p.tables.exec = Jvm.exec) (hb : c.code = cc) (hl : l.stackTraces = false) {own cls text : String} {names : List String} {ik is ic mc ms sa : Nat} {A : Nat → Prop}
    (hown : s.vm.findClass own = some m.cls) (hcls : Bundle.fit cls = true) (hnames : ∀ n ∈ names, Bundle.fit n = true)
    (hk : (Cond.classLink own ik cls).before args s = true) (hini : (Cond.initialized cls).before args s = true) (hstr : vk_R own is text sa s) (hat : ∀ w ∈ vx_atS own ic cls names, w.before args s = true)
    (hgood : ∀ w ∈ Cond.classLink own ik cls :: Cond.initialized cls :: vx_atS own ic cls names, vx_ot w = true)
    (hU : vx_Zq Bundle.tN "UNASSIGNED_STACK" Bundle.steD A s s.heap) (hN : vx_Zq Bundle.tN "SUPPRESSED_SENTINEL" Bundle.listD A s s.heap) (hS : va_S A s.heap H locs) (hsize : ls.size = c.maxLocals)
    (d0 : decode cc pc = .ok (.new ik, 3)) (d3 : decode cc (pc + 3) = .ok (.dup, 1)) (d4 : decode cc (pc + 4) = .ok (.ldc is, 2)) (d6 : decode cc (pc + 6) = .ok (.invokespecial ic, 3)) (d9 : decode cc (pc + 9) = .ok (.athrow, 1))
    (hout : ∀ x ∈ c.exceptionTable.toList, covers x (pc + 9) = false)
    (hRframes : names.length + 3 < R.frames) (hRlocals : (rest.map fun v => v.category).sum + (13 * (names.length + 1) + 43) ≤ R.locals) (hRcells : cells + 1 ≤ R.cells) (hRslots : slots + 6 ≤ R.slots) (hlocks : meth.locks = false)
    (hx : ∀ t : State, s.vm.Alike t.vm → H.size ≤ t.heap.size → (∀ q : Nat, q < H.size → t.heap[q]? = H[q]?) → XC cls s t)
    (hf : ∀ z ∈ locs, free z.base) (hc : cells + 1 ≤ mc) (hs : slots + 6 ≤ ms) :
    W p l e R s m args below meth c H locs cells slots (vx_MQ below Qc XC args s mc ms free) (F0 m pc ls rest) := by
  intro T hT X
  have htr : e.platform.stackTraces = false := (show e.platform.stackTraces = l.stackTraces by rw [X.admits.platform]).trans hl
  have Y := vx_rebase X (R' := { frames := R.frames, locals := R.locals, cells := 1, slots := 6 }) (Nat.le_refl _) (Nat.le_refl _) hRcells hRslots
  obtain ⟨s', hA⟩ : ∃ z, z = (T.setVm s.vm).setFrames (.invoking m args :: below) := ⟨_, rfl⟩
  rw [← hA] at Y
  have hvm : s'.vm = s.vm := by rw [hA]; rfl
  have hhp : s'.heap = H := by rw [hA]; exact hT
  have hW0 : s.WarmedH s'.vm := by rw [hvm]; exact State.WarmedH.refl s
  have hat' : ∀ w ∈ vx_atS own ic cls names, w.before args s' = true := fun w hw => vx_ot_at hW0 hvm.symm (hgood w (List.mem_cons_of_mem _ (List.mem_cons_of_mem _ hw))) (hat w hw)
  have hk' : (Cond.classLink own ik cls).before args s' = true := vx_ot_at hW0 hvm.symm (hgood _ List.mem_cons_self) hk
  have hini' : (Cond.initialized cls).before args s' = true := vx_ot_at hW0 hvm.symm (hgood _ (List.mem_cons_of_mem _ List.mem_cons_self)) hini
  have hU' : vx_Zq Bundle.tN "UNASSIGNED_STACK" Bundle.steD A s' s'.heap := by rw [hhp]; exact vx_Zq.moved hW0.alike (hU.kept hS.2.1)
  have hN' : vx_Zq Bundle.tN "SUPPRESSED_SENTINEL" Bundle.listD A s' s'.heap := by rw [hhp]; exact vx_Zq.moved hW0.alike (hN.kept hS.2.1)
  have h : ∀ w ∈ Bundle.ownAtoms own ic cls names, w.before args s' = true := vx_own hat' (vx_isRefq hU'.1) (vx_isRefq hN'.1) hU'.2.word hN'.2.word
  have hown' : s'.vm.findClass own = some m.cls := by rw [hvm]; exact hown
  have hins : (Cond.instantiable cls 6).before args s' = true := h _ (by simp [Bundle.ownAtoms])
  obtain ⟨vm₁, cX, kX, hfX, hkX, -, -, X₁, st1⟩ := Y.newCold hexec (own := own) (C := cls) (index := ik) (n := 6) hown' hk' hins hini'
    (g := F0 m pc ls rest) rfl (by rw [hb]; exact d0) (Nat.le_refl _) (Nat.le_refl _)
  generalize hT1 : (T.setVm vm₁).pushCell { cls := cX, slots := kX.instanceTypes.map defaultValue, vm := .none } = T1 at X₁ st1
  have hcat : (Value.ref T.heap.size).category = 1 := rfl
  have hcellA : T1.heap[T.heap.size]? = some (freshCell cX kX) := by rw [← hT1]; exact State.heap_pushCell_size _ _
  have d3' : decode c.code (pc + 3) = .ok (.dup, 1) := by rw [hb]; exact d3
  have d4' : decode c.code (pc + 4) = .ok (.ldc is, 2) := by rw [hb]; exact d4
  have hstr' : vk_R own is text sa s' := vk_R.warm hW0 hstr
  obtain ⟨U, hsteps, hrun, hend, hW, hsame, ce, hce, hO⟩ := X₁.ctorThrowS hexec htr (own := own) (cls := cls) (names := names) (ic := ic) hown' hcls hnames h (fun x hx => nomatch hx) hfX hkX hcellA (by rw [hhp, hT]; exact Nat.le_refl _) (msg := .ref sa) rfl
    (g := { method := m, pc := pc + 6, locals := ls, stack := .ref sa :: .ref T.heap.size :: .ref T.heap.size :: rest, locked := none }) rfl hsize rfl rfl (rest := rest) rfl
    (by rw [hb]; exact d6) (by rw [hb]; exact d9) hout hRframes (by simp only [List.map_cons, List.sum_cons, hcat]; omega) hlocks
  obtain ⟨f1, f2⟩ := vx_frame hsame
  rw [hhp] at f1 f2
  have hWs : s.WarmedH U.vm := State.WarmedH.trans hW0 hW
  have hcl : s.vm.findClass cls = some ce.cls := by
    have h9 := hO.cls
    rw [hvm] at h9
    exact h9
  have hall : s.sameButNew ({ U with vm := s.vm } : State) locs mc ms := by
    subst hA
    obtain ⟨e1, e2⟩ := hsame
    rw [State.setFrames_setFrames] at e1
    have h2 : (T.setVm s.vm).sameButNew ({ U with vm := s.vm } : State) [] (0 + 1) (0 + 6) := ⟨e1, e2⟩
    have h3 := X.same.trans h2
    rw [List.append_nil] at h3
    exact h3.mono hc hs
  refine ⟨U, ?_, .threw T.heap.size, hrun, hend, Or.inr ⟨T.heap.size, rfl, cls, ce, locs, hx U hWs.alike f1 (fun q hq => f2 q hq (fun z hz => nomatch hz)), hce, hO.vm, hcl, hWs, hall, hf⟩⟩
  refine st1 _ ?_
  show Steps p.tables e below (T1.setTop { method := m, pc := pc + 3, locals := ls, stack := .ref T.heap.size :: rest, locked := none }) _
  jvm_step X₁.here [X₁.here.top, hexec, d3', Value.category]
  exact X₁.ldcString hexec (own := own) (text := text) (index := is) (a := sa) hown' hstr'.1 hstr'.2
    (g := { method := m, pc := pc + 4, locals := ls, stack := .ref T.heap.size :: .ref T.heap.size :: rest, locked := none }) rfl d4' _ hsteps
/-- 'throw new E("text")', the text by a wide index -/
theorem vx_throwSW {cc : ByteArray} {pc : Nat} (hexec : p.tables.exec = Jvm.exec) (hb : c.code = cc) (hl : l.stackTraces = false) {own cls text : String} {names : List String} {ik is ic mc ms sa : Nat} {A : Nat → Prop}
    (hown : s.vm.findClass own = some m.cls) (hcls : Bundle.fit cls = true) (hnames : ∀ n ∈ names, Bundle.fit n = true)
    (hk : (Cond.classLink own ik cls).before args s = true) (hini : (Cond.initialized cls).before args s = true) (hstr : vk_R own is text sa s) (hat : ∀ w ∈ vx_atS own ic cls names, w.before args s = true)
    (hgood : ∀ w ∈ Cond.classLink own ik cls :: Cond.initialized cls :: vx_atS own ic cls names, vx_ot w = true)
    (hU : vx_Zq Bundle.tN "UNASSIGNED_STACK" Bundle.steD A s s.heap) (hN : vx_Zq Bundle.tN "SUPPRESSED_SENTINEL" Bundle.listD A s s.heap) (hS : va_S A s.heap H locs) (hsize : ls.size = c.maxLocals)
    (d0 : decode cc pc = .ok (.new ik, 3)) (d3 : decode cc (pc + 3) = .ok (.dup, 1)) (d4 : decode cc (pc + 4) = .ok (.ldc_w is, 3)) (d7 : decode cc (pc + 7) = .ok (.invokespecial ic, 3)) (d10 : decode cc (pc + 10) = .ok (.athrow, 1))
    (hout : ∀ x ∈ c.exceptionTable.toList, covers x (pc + 10) = false)
    (hRframes : names.length + 3 < R.frames) (hRlocals : (rest.map fun v => v.category).sum + (13 * (names.length + 1) + 43) ≤ R.locals) (hRcells : cells + 1 ≤ R.cells) (hRslots : slots + 6 ≤ R.slots) (hlocks : meth.locks = false)
    (hx : ∀ t : State, s.vm.Alike t.vm → H.size ≤ t.heap.size → (∀ q : Nat, q < H.size → t.heap[q]? = H[q]?) → XC cls s t)
    (hf : ∀ z ∈ locs, free z.base) (hc : cells + 1 ≤ mc) (hs : slots + 6 ≤ ms) :
    W p l e R s m args below meth c H locs cells slots (vx_MQ below Qc XC args s mc ms free) (F0 m pc ls rest) := by
  intro T hT X
  have htr : e.platform.stackTraces = false := (show e.platform.stackTraces = l.stackTraces by rw [X.admits.platform]).trans hl
  have Y := vx_rebase X (R' := { frames := R.frames, locals := R.locals, cells := 1, slots := 6 }) (Nat.le_refl _) (Nat.le_refl _) hRcells hRslots
  obtain ⟨s', hA⟩ : ∃ z, z = (T.setVm s.vm).setFrames (.invoking m args :: below) := ⟨_, rfl⟩
  rw [← hA] at Y
  have hvm : s'.vm = s.vm := by rw [hA]; rfl
  have hhp : s'.heap = H := by rw [hA]; exact hT
  have hW0 : s.WarmedH s'.vm := by rw [hvm]; exact State.WarmedH.refl s
  have hat' : ∀ w ∈ vx_atS own ic cls names, w.before args s' = true := fun w hw => vx_ot_at hW0 hvm.symm (hgood w (List.mem_cons_of_mem _ (List.mem_cons_of_mem _ hw))) (hat w hw)
  have hk' : (Cond.classLink own ik cls).before args s' = true := vx_ot_at hW0 hvm.symm (hgood _ List.mem_cons_self) hk
  have hini' : (Cond.initialized cls).before args s' = true := vx_ot_at hW0 hvm.symm (hgood _ (List.mem_cons_of_mem _ List.mem_cons_self)) hini
  have hU' : vx_Zq Bundle.tN "UNASSIGNED_STACK" Bundle.steD A s' s'.heap := by rw [hhp]; exact vx_Zq.moved hW0.alike (hU.kept hS.2.1)
  have hN' : vx_Zq Bundle.tN "SUPPRESSED_SENTINEL" Bundle.listD A s' s'.heap := by rw [hhp]; exact vx_Zq.moved hW0.alike (hN.kept hS.2.1)
  have h : ∀ w ∈ Bundle.ownAtoms own ic cls names, w.before args s' = true := vx_own hat' (vx_isRefq hU'.1) (vx_isRefq hN'.1) hU'.2.word hN'.2.word
  have hown' : s'.vm.findClass own = some m.cls := by rw [hvm]; exact hown
  have hins : (Cond.instantiable cls 6).before args s' = true := h _ (by simp [Bundle.ownAtoms])
  obtain ⟨vm₁, cX, kX, hfX, hkX, -, -, X₁, st1⟩ := Y.newCold hexec (own := own) (C := cls) (index := ik) (n := 6) hown' hk' hins hini'
    (g := F0 m pc ls rest) rfl (by rw [hb]; exact d0) (Nat.le_refl _) (Nat.le_refl _)
  generalize hT1 : (T.setVm vm₁).pushCell { cls := cX, slots := kX.instanceTypes.map defaultValue, vm := .none } = T1 at X₁ st1
  have hcat : (Value.ref T.heap.size).category = 1 := rfl
  have hcellA : T1.heap[T.heap.size]? = some (freshCell cX kX) := by rw [← hT1]; exact State.heap_pushCell_size _ _
  have d3' : decode c.code (pc + 3) = .ok (.dup, 1) := by rw [hb]; exact d3
  have d4' : decode c.code (pc + 4) = .ok (.ldc_w is, 3) := by rw [hb]; exact d4
  have hstr' : vk_R own is text sa s' := vk_R.warm hW0 hstr
  obtain ⟨U, hsteps, hrun, hend, hW, hsame, ce, hce, hO⟩ := X₁.ctorThrowS hexec htr (own := own) (cls := cls) (names := names) (ic := ic) hown' hcls hnames h (fun x hx => nomatch hx) hfX hkX hcellA (by rw [hhp, hT]; exact Nat.le_refl _) (msg := .ref sa) rfl
    (g := { method := m, pc := pc + 7, locals := ls, stack := .ref sa :: .ref T.heap.size :: .ref T.heap.size :: rest, locked := none }) rfl hsize rfl rfl (rest := rest) rfl
    (by rw [hb]; exact d7) (by rw [hb]; exact d10) hout hRframes (by simp only [List.map_cons, List.sum_cons, hcat]; omega) hlocks
  obtain ⟨f1, f2⟩ := vx_frame hsame
  rw [hhp] at f1 f2
  have hWs : s.WarmedH U.vm := State.WarmedH.trans hW0 hW
  have hcl : s.vm.findClass cls = some ce.cls := by
    have h9 := hO.cls
    rw [hvm] at h9
    exact h9
  have hall : s.sameButNew ({ U with vm := s.vm } : State) locs mc ms := by
    subst hA
    obtain ⟨e1, e2⟩ := hsame
    rw [State.setFrames_setFrames] at e1
    have h2 : (T.setVm s.vm).sameButNew ({ U with vm := s.vm } : State) [] (0 + 1) (0 + 6) := ⟨e1, e2⟩
    have h3 := X.same.trans h2
    rw [List.append_nil] at h3
    exact h3.mono hc hs
  refine ⟨U, ?_, .threw T.heap.size, hrun, hend, Or.inr ⟨T.heap.size, rfl, cls, ce, locs, hx U hWs.alike f1 (fun q hq => f2 q hq (fun z hz => nomatch hz)), hce, hO.vm, hcl, hWs, hall, hf⟩⟩
  refine st1 _ ?_
  show Steps p.tables e below (T1.setTop { method := m, pc := pc + 3, locals := ls, stack := .ref T.heap.size :: rest, locked := none }) _
  jvm_step X₁.here [X₁.here.top, hexec, d3', Value.category]
  exact X₁.ldcStringW hexec (own := own) (text := text) (index := is) (a := sa) hown' hstr'.1 hstr'.2
    (g := { method := m, pc := pc + 4, locals := ls, stack := .ref T.heap.size :: .ref T.heap.size :: rest, locked := none }) rfl d4' _ hsteps
end Ends
section Bodies
variable {l : Launch}
theorem vx_ofW {y : MethodName} {ws ws' : List Cond} {rm : Room} {Pc : Array Value → State → Prop} {Qc : Array Value → State → Outcome → State → Prop} {XC : String → State → State → Prop} {mc ms : Nat} {free : Addr → Prop} {cc : ByteArray} {maxL : Nat} {ret : Option FieldType}
    (hy : plainName y.cls = true) (hw : ws = Cond.code y cc maxL ret :: ws')
    (body : ∀ p e s m args below meth c s₁, BodyLoose p l y (headSpec ws rm) cc maxL ret e s m args below meth c s₁ → c.maxLocals = maxL → (∀ x ∈ c.exceptionTable.toList, False) → Pc args s →
      W p l e (headSpec ws rm).room s m args below meth c s.heap [] 0 0 (vx_MQ below Qc XC args s mc ms free) (entryFrame m args maxL)) : vx_Met l y ws rm Pc Qc XC mc ms free := by
  refine MetFree.of_bodyS (code := cc) (maxLocals := maxL) (ret := ret) hy ?_ ?_
  · intro args s m h hn
    obtain ⟨meth, c, h1, h2, h3, h4, h5, h6, -, -⟩ := Cond.code_spec hn (atoms_spec (ws := ws) h _ (by rw [hw]; exact List.mem_cons_self))
    exact ⟨meth, c, h1, h2, h3, h4, h5, h6⟩
  · intro p e s m args below meth c s₁ B hml hP _
    have hh0 : s₁.heap = s.heap := by rw [B.state]; rfl
    have ht : ∀ x ∈ c.exceptionTable.toList, False := by
      obtain ⟨meth9, c9, h1, h2, -, -, -, -, h7, -⟩ := Cond.code_spec B.named (atoms_spec (ws := ws) B.pre _ (by rw [hw]; exact List.mem_cons_self))
      cases Option.some.inj (h1.symm.trans B.method)
      cases Option.some.inj (h2.symm.trans (Stand.of_body B).code)
      intro x hx
      rw [Array.isEmpty_iff.mp h7] at hx
      cases hx
    obtain ⟨t, a1, o, b1, b2, b3⟩ := body p e s m args below meth c s₁ B hml ht hP s₁ hh0 (Stand.of_body B)
    exact ⟨t, o, a1, b1, b2, b3⟩
/-- the table of a body with handlers -/
theorem vx_table {p : Program} {x y : MethodName} {S : Spec} {cc bytes : ByteArray} {maxL maxL' : Nat} {ret ret' : Option FieldType} {e : Env} {s s₁ : State} {m : MethodId} {args : Array Value} {below : List Frame} {meth : Method} {c : Code} {hh : List (Nat × Nat × Nat × Nat)}
    (B : BodyLoose p l y S cc maxL ret e s m args below meth c s₁) (h : (Cond.codeWith y bytes maxL' ret' hh).before args s = true) : c.exceptionTable.toList = tableOf hh := by
  obtain ⟨m9, meth9, c9, hn9, h1, h2, -, -, h6, -⟩ := Cond.codeWith_spec h
  cases Option.some.inj (hn9.symm.trans B.named)
  cases Option.some.inj (h1.symm.trans B.method)
  cases Option.some.inj (h2.symm.trans (Stand.of_body B).code)
  rw [← h6, table_eq]
end Bodies
end VXA
/-! ===== END ===== -/
/-! ===== BEGIN a static call of a method with an exception table ===== -/
section VXS
variable {p : Program} {l : Launch} {e : Env} {R : Room} {s : State} {m : MethodId} {args : Array Value} {below : List Frame} {meth : Method} {c : Code} {T : State} {H : Heap} {locs : List Loc} {cells slots : Nat}
abbrev vx_CSW (R : Room) (s : State) (args : Array Value) (own : String) (index : Nat) (y : MethodName) (bytes : ByteArray) (maxL : Nat) (ret : Option FieldType) (hh : List (Nat × Nat × Nat × Nat)) (ws : List Cond) (rm : Room) (mc ms n : Nat) : Prop :=
  (rm.cells = mc ∧ rm.slots = ms ∧ rm.frames + 1 ≤ R.frames ∧ 8 + (maxL + 11) + rm.locals ≤ R.locals ∧ (∀ w ∈ ws, ∀ (a' : Array Value) (U : State), s.WarmedH U.vm → w.before a' U = true) ∧ Cond.codeWith y bytes maxL ret hh ∈ ws) ∧
  (Cond.codeWith y bytes maxL ret hh).before args s = true ∧ (Cond.initialized y.cls).before args s = true ∧ (y.cls ≠ "java/lang/invoke/MethodHandle" ∧ y.cls ≠ "java/lang/invoke/VarHandle") ∧
  (∀ sig, parseMethodDescriptor y.desc = some sig → n = sig.parameters.length) ∧ (Cond.methodLink own index y).before args s = true ∧ (Cond.static y).before args s = true
theorem vx_cwSW {own : String} {index maxL mc ms : Nat} {y : MethodName} {bytes : ByteArray} {ret : Option FieldType} {hh : List (Nat × Nat × Nat × Nat)} {Ts ws ws' : List Cond} {rm : Room} (n : Nat) (ht : ∀ w ∈ Ts, w.before args s = true) (hT : GoodIn Ts (va_wsS own index y ws)) (hw : ws = Cond.codeWith y bytes maxL ret hh :: ws') (hrc : rm.cells = mc) (hrs : rm.slots = ms)
    (hd : y.cls ≠ "java/lang/invoke/MethodHandle" ∧ y.cls ≠ "java/lang/invoke/VarHandle" ∧ (parseMethodDescriptor y.desc).map (fun d => d.parameters.length) = some n) (hR : rm.frames + 1 ≤ R.frames ∧ 8 + (maxL + 11) + rm.locals ≤ R.locals) :
    vx_CSW R s args own index y bytes maxL ret hh ws rm mc ms n := by
  have ok : ∀ w ∈ va_wsS own index y ws, w.before args s = true := fun w h => ht w (hT w h).1
  have hG : GoodIn Ts ws := fun w h => hT w (by unfold va_wsS; exact List.mem_append_right _ h)
  have hc : Cond.codeWith y bytes maxL ret hh ∈ ws := by rw [hw]; exact List.mem_cons_self
  refine ⟨⟨hrc, hrs, hR.1, hR.2, pay_in ht hG, hc⟩, ht _ (hG _ hc).1, ok _ (by simp [va_wsS]), ⟨hd.1, hd.2.1⟩, fun sig h => ?_, ok _ (by simp [va_wsS]), ok _ (by simp [va_wsS])⟩
  have h2 := hd.2.2
  rw [h] at h2
  exact (Option.some.inj h2).symm
theorem vx_callSW (X : Stand p l e R s m args below meth c T locs cells slots) (hexec : p.tables.exec = Jvm.exec) {own : String} {index : Nat} {y : MethodName} {bytes : ByteArray} {maxL : Nat} {ret : Option FieldType} {hh : List (Nat × Nat × Nat × Nat)}
    (hown : s.vm.findClass own = some m.cls) (hlink : (Cond.methodLink own index y).before args s = true) (hstat : (Cond.static y).before args s = true) (hinit : (Cond.initialized y.cls).before args s = true)
    (hcode : (Cond.codeWith y bytes maxL ret hh).before args s = true) (hy : y.cls ≠ "java/lang/invoke/MethodHandle" ∧ y.cls ≠ "java/lang/invoke/VarHandle")
    {W9 : Nat} {Pre : Pt → Array Value → Prop} {Post : Pt → Array Value → Option Value → Pt → Prop} (hK : Back l R p e below s args y 3 W9 Pre Post)
    {g : JFrame} (hg : g.method = m) (hsize : g.locals.size = c.maxLocals) {argsL rest : List Value} (hlen : ∀ sig, parseMethodDescriptor y.desc = some sig → argsL.length = sig.parameters.length)
    (hstack : g.stack = argsL.reverse ++ rest) (hW : 2 * g.monitorRoom + (rest.map fun v => v.category).sum ≤ W9) (hdg : decode c.code g.pc = .ok (.invokestatic index, 3))
    (hpre : ∀ vm₁, s.WarmedH vm₁ → Pre ⟨T.setVm vm₁, locs, cells, slots⟩ argsL.toArray) :
    ∃ (v : Option Value) (vm₁ : Vm) (B : Pt), s.WarmedH vm₁ ∧ Stand p l e R s m args below meth c B.U B.locs B.cells B.slots ∧ Post ⟨T.setVm vm₁, locs, cells, slots⟩ argsL.toArray v B ∧
      ∀ target, Steps p.tables e below (B.U.setTop { g with pc := g.pc + 3, stack := v.toList ++ rest }) target → Steps p.tables e below (T.setTop g) target := by
  obtain ⟨mk, methM, cM, hnamed, hmethM, -, -, -, -, -, -, hsigM⟩ := Cond.codeWith_spec hcode
  have hstatic : methM.isStatic = true := Cond.static_spec hnamed hmethM hstat
  obtain ⟨kP, hkP, -⟩ := className_of_methodNamed hnamed
  have hinitP : kP.init = .initialized := Cond.initialized_spec (findClass_of_methodNamed hnamed) hkP hinit
  obtain ⟨vm₁, X₁, hstep₁⟩ := X.invokestatic hexec hown hlink hnamed hmethM hstatic hkP hinitP hy (g := g) hg (argsL := argsL) (rest := rest) (hlen _ hsigM) hstack hdg
  obtain ⟨v, B, X', hpost, hsteps⟩ := hK m meth c ⟨T.setVm vm₁, locs, cells, slots⟩ { g with stack := rest } (.invokestatic index) mk argsL.toArray X₁ hg hsize hdg hW (X₁.named hnamed) (hpre vm₁ X₁.warmed)
  exact ⟨v, vm₁, B, X₁.warmed, X', hpost, fun target h => hstep₁ _ fun acts => by rw [doInvoke_state]; exact hsteps.trans h⟩
theorem vx_runSW {y : MethodName} {bytes cc : ByteArray} {maxL nL mc ms n index : Nat} {ret : Option FieldType} {hh : List (Nat × Nat × Nat × Nat)} {ws : List Cond} {rm : Room} {Pc : Array Value → State → Prop} {Qc : Array Value → State → Outcome → State → Prop} {free : Addr → Prop} {Ts : List Cond} {own : String} {As rest : List Value} {g : JFrame}
    (S : CallFix p m c cc nL s args Ts own) (hM : Met l y ws rm Pc Qc mc ms free) (cw : vx_CSW R s args own index y bytes maxL ret hh ws rm mc ms n) (hp : PreS s H Pc As)
    (hg : g.method = m) (hn : As.length = n) (hsize : g.locals.size = nL) (hstack : g.stack = As.reverse ++ rest) (hW : 2 * g.monitorRoom + (rest.map fun v => v.category).sum ≤ 8) (hdg : decode cc g.pc = .ok (.invokestatic index, 3)) (hf : cells + mc ≤ R.cells ∧ slots + ms ≤ R.slots) :
    va_Run p l e R s m args below meth c H locs cells slots mc ms g rest (Qc As.toArray) (free) := by
  obtain ⟨⟨hrc, hrs, hfr, hlo, hws, hcw⟩, hcode, hini, hy, hlen, hl, hstt⟩ := cw
  have hK : Back l R p e below s args y 3 8 (PreOf R mc ms Pc) (PostOf Qc mc ms free) := va_backW (hh := hh) (bytes := bytes) (maxL := maxL) (ret := ret) hM hp.1 hrc hrs hfr hlo hws hcw (fun a' U hW => word_at hW (Or.inl (by first | rfl | simp [Cond.onTables, Cond.keeps, Cond.steady])) hini)
  obtain ⟨hx, hb, hml, ho, -⟩ := S
  intro T hT X
  obtain ⟨v, vm₁, ⟨U', l2, c2, s2⟩, hW₁, X', ⟨g', mk, t, L, e1, e2, hq, h1, hL, h2, h3⟩, st⟩ := vx_callSW X hx (hh := hh) (bytes := bytes) (maxL := maxL) (ret := ret) ho hl hstt hini hcode hy hK hg (hsize.trans hml.symm) (argsL := As) (rest := rest) (fun sig h => hn.trans (hlen sig h)) hstack hW (by rw [hb]; exact hdg)
    (fun vm₁ hW₁ => ⟨hf.1, hf.2, hp.2 (T.setVm vm₁) hT hW₁⟩)
  dsimp only [Pt.U, Pt.locs, Pt.cells, Pt.slots] at X' e1 e2 h1 h2 h3 st
  subst h1; subst h2; subst h3
  exact ⟨v, (T.setVm vm₁).calling g' mk As.toArray, t, U', L, hT, X', hL, e1, e2, hq, st⟩
/-- not caught here, past rows that name other classes: it goes on to the caller -/
theorem vx_outP {p : Program} {l : Launch} {e : Env} {R : Room} {s : State} {m : MethodId} {args : Array Value} {below : List Frame} {meth : Method} {c : Code} {H : Heap} {locs : List Loc} {cells slots : Nat} {free : Addr → Prop} {ls : Array Slot} {rest : List Value} {Qc : Array Value → State → Outcome → State → Prop} {XC : String → State → State → Prop}
    {pc : Nat} {own E : String} {ce : Cell} {q : Addr} {mc ms : Nat} (hown : s.vm.findClass own = some m.cls) (hlocks : meth.locks = false)
    (hpass : ∀ z ∈ c.exceptionTable.toList, covers z pc = false ∨ (z.catchType ≠ 0 ∧ ∃ nm : String, (Cond.classLink own z.catchType nm).before args s = true ∧ va_Nc E nm s)) (hcell : H[q]? = some ce) (hv : ce.vm = .none) (hcl : s.vm.findClass E = some ce.cls)
    (hx : ∀ t : State, t.heap = H → s.vm.Alike t.vm → XC E s t) (hf : ∀ z ∈ locs, free z.base) (hc : cells ≤ mc) (hs : slots ≤ ms) :
    vx_W p l e R s m args below meth c H locs cells slots (vx_MQ below Qc XC args s mc ms free) (F0 m pc ls rest) q := by
  intro T hT X
  have hpl : e.platform.magicAccessors = ({} : Platform).magicAccessors := by rw [X.admits.platform]
  obtain ⟨vm', hW', X', st⟩ := X.outThrough hlocks q (g := F0 m pc ls rest) rfl rfl rfl (cell := ce) (by rw [hT]; exact hcell) (by rw [hv]; rfl)
    (by obtain ⟨k9, h9, -⟩ := Vm.findClass_spec hcl; exact ⟨k9, h9⟩) (fun z hz => by
      rcases hpass z hz with h | ⟨hz0, nm, hl1, hn1⟩
      · exact Or.inl h
      · obtain ⟨c6, hc6, hcl6⟩ := Cond.classLink_spec hown hl1 e.platform hpl
        obtain ⟨a8, b8, h1, h2, h3⟩ := hn1
        cases Option.some.inj (h1.symm.trans hcl)
        cases Option.some.inj (h2.symm.trans hc6)
        exact Or.inr ⟨hz0, _, hcl6, h3⟩)
  obtain ⟨g₀, hfr⟩ := X'.frames_eq
  have hcell9 : ((T.setVm vm').setFrames (.throwing q :: below)).heap[q]? = some ce := by
    show T.heap[q]? = some ce
    rw [hT]; exact hcell
  have hend : Ended ((T.setVm vm').setFrames (.throwing q :: below)) below (.threw q) := State.frames_setFrames _ (State.cur_lt_of_frames hfr)
  refine ⟨(T.setVm vm').setFrames (.throwing q :: below), ?_, .threw q, X'.here.running, hend, Or.inr ⟨q, rfl, E, ce, locs, hx _ hT (X'.ends _).1.alike, hcell9, hv, hcl, (X'.ends _).1, (X'.ends _).2.mono hc hs, hf⟩⟩
  rw [X.pushThrowing_eq]
  exact st
/-- a thing of a world lies in the heap -/
theorem vx_lt {D : va_G} {cl : List vw_C} {ws : va_W} {H1 : Heap} (h : va_P D cl ws H1) {k : Nat} {q : Nat × va_E} (hk : ws[k]? = some q) : q.1 < H1.size := (h k q hk).lt
end VXS
/-! ===== END ===== -/
/-! ===== BEGIN methods with a table of their own: called by a name, returning or throwing ===== -/
section VXH
/-! vx_backW, vx_callVX, vx_callSX, vx_callVW, vx_runVW, vx_runVX, vx_runSX, vx_ofWH follow the same proofs as their sisters above (Free/Laws.lean, Shelf42/LK1.lean); vx_outP calls Shelf42/NT130.lean (outThrough). -/
section
variable {l : Launch} {R : Room} {p : Program} {e : Env} {below : List Frame} {s : State} {sargs : Array Value} {y : MethodName} {len W9 : Nat}
theorem vx_backW {ws : List Cond} {rm : Room} {Pc : Array Value → State → Prop} {Qc : Array Value → State → Outcome → State → Prop} {XC : String → State → State → Prop} {mc ms : Nat} {free : Addr → Prop} {bytes : ByteArray} {maxL : Nat} {ret : Option FieldType} {hh : List (Nat × Nat × Nat × Nat)}
    (hM : vx_Met l y ws rm Pc Qc XC mc ms free) (hblind : FrameBlind Pc) (hrc : rm.cells = mc) (hrs : rm.slots = ms)
    (hframes : rm.frames + 1 ≤ R.frames) (hlocals : W9 + (maxL + 11) + rm.locals ≤ R.locals)
    (hws : ∀ w ∈ ws, ∀ a' U, s.WarmedH U.vm → w.before a' U = true) (hcode : Cond.codeWith y bytes maxL ret hh ∈ ws) (hinit : ∀ a' U, s.WarmedH U.vm → (Cond.initialized y.cls).before a' U = true) :
    vx_Back l R p e below s sargs y len W9 (PreOf R mc ms Pc) (PostOf Qc mc ms free) (vx_Post XC mc ms free) := by
  intro m meth c A g ig mk a X hg hsize hdg hW hn hp
  have h1 : (headSpec ws rm).pre.before a A.U = true := atoms_intro fun w hw => hws w hw _ _ X.warmed
  have h2 : (Cond.codeWith y bytes maxL ret hh).before a A.U = true := hws _ hcode _ _ X.warmed
  have h3 : (Cond.initialized y.cls).before a A.U = true := hinit _ _ X.warmed
  have h4 : A.cells + (headSpec ws rm).room.cells ≤ R.cells := by rw [show (headSpec ws rm).room.cells = mc from hrc]; exact hp.1
  have h5 : A.slots + (headSpec ws rm).room.slots ≤ R.slots := by rw [show (headSpec ws rm).room.slots = ms from hrs]; exact hp.2.1
  have hPc : Pc a (A.U.calling g mk a) := hblind _ _ _ _ hp.2.2
  obtain ⟨U, Ls, c0, s0⟩ := A
  dsimp only [Pt.U, Pt.locs, Pt.cells, Pt.slots] at h1 h2 h3 h4 h5 X hn hPc ⊢
  obtain ⟨m9, methY, cY, hn9, hmY, hcY, -, hlY, -⟩ := Cond.codeWith_spec h2
  cases Option.some.inj (hn9.symm.trans hn)
  obtain ⟨kY, hkY, -⟩ := className_of_methodNamed hn
  have hinitY : kY.init = .initialized := Cond.initialized_spec (findClass_of_methodNamed hn) hkY h3
  have h : At U g.method c below := by rw [hg]; exact X.here
  have hlocals9 : W9 + (maxL + 11) + (headSpec ws rm).room.locals ≤ R.locals := hlocals
  have happ : (headSpec ws rm).appliesLoose y e.platform (U.calling g mk a) = true :=
    Spec.appliesLoose_calling (g := g) h hdg hn hkY hinitY
      (X.room_calling (g := g) (R' := (headSpec ws rm).room) hsize hmY hcY hframes (by rw [hlY]; omega) h4 h5) h1
  obtain ⟨mid, hmid⟩ := h.above
  have hfr : (U.setTop g).frames = (.java g :: mid) ++ below := by rw [State.frames_setTop' g h.top, hmid]; rfl
  obtain ⟨o, s₂, hsteps, -, hend, hq⟩ := Steps.callFree hM p X.admits X.cas X.clock (acts := []) hfr happ hPc trivial
  have hq' : vx_Q Qc XC mc ms free a (U.calling g mk a) o s₂ := hq
  rw [State.frames_setTop' g h.top] at hend
  obtain ⟨g₀, hg0⟩ := Option.isSome_iff_exists.mp h.top
  obtain ⟨r, hr⟩ := State.topJava?_eq_some.mp hg0
  have hr' : (({ U with heap := s₂.heap, slotsUsed := s₂.slotsUsed } : State).setVm s₂.vm).frames = .java g₀ :: r := hr
  rcases hq' with ⟨hqc, L, hfe, hL⟩ | ⟨q, rfl, E, ce, L, hx, hce, hcv, hcl, hW₂, hsm, hL⟩
  · obtain ⟨⟨v, rfl⟩, hW₂, e2, q2, q3, q4, q5, q6⟩ := id hfe
    have e3 : s₂ = ({ (U.calling g mk a).setFrames s₂.frames with heap := s₂.heap, slotsUsed := s₂.slotsUsed } : State).setVm s₂.vm := by
      have : s₂ = ({ s₂ with vm := (U.calling g mk a).vm } : State).setVm s₂.vm := rfl
      rw [e2] at this
      exact this
    obtain ⟨c₂, i₂, len₂, hc₂, hd₂, hf₂⟩ := hend
    have hW' : U.WarmedH s₂.vm := hW₂
    have hcc : c₂ = c := by
      have h1 : s₂.code? g.method = U.code? g.method := by
        rw [State.code?_eq, State.code?_eq, hW'.alike.method?]
      exact Option.some.inj (hc₂.symm.trans (h1.trans h.code))
    subst hcc
    have hlen : len₂ = len := by rw [hdg] at hd₂; cases hd₂; rfl
    subst hlen
    have hs₂ : s₂ = (({ U with heap := s₂.heap, slotsUsed := s₂.slotsUsed } : State).setVm s₂.vm).setTop { g with pc := g.pc + len₂, stack := v.toList ++ g.stack } := by
      refine e3.trans ?_
      rw [hf₂, State.calling_eq h.top, State.setFrames_setFrames, State.setTop_of_frames _ hr', hr]
      rfl
    have hsame : U.sameButNew ({ U with heap := s₂.heap, slotsUsed := s₂.slotsUsed } : State) L mc ms := by
      refine ⟨?_, q2, q3, q4, q5, q6⟩
      obtain ⟨t, ht, -⟩ := State.frames_cons hr
      show ({ U with heap := s₂.heap, slotsUsed := s₂.slotsUsed } : State) = { U.setFrames U.frames with heap := s₂.heap, slotsUsed := s₂.slotsUsed }
      rw [State.setFrames_self ht]
    subst hg
    refine Or.inl ⟨v, ⟨(({ U with heap := s₂.heap, slotsUsed := s₂.slotsUsed } : State).setVm s₂.vm), Ls ++ L, c0 + mc, s0 + ms⟩,
      ⟨X.admits, X.cas, X.clock, X.frames, X.room, X.hears, X.method, X.code, (X.here.setHeapUsed s₂.heap s₂.slotsUsed).setVm hW'.alike, X.tail, State.WarmedH.trans X.warmed hW', X.limits, X.bytes, X.same.trans (hsame.setVm s.vm)⟩,
      ⟨g, mk, s₂, L, rfl, rfl, hqc, rfl, hL, rfl, rfl⟩, ?_⟩
    show Steps p.tables e below _ ((({ U with heap := s₂.heap, slotsUsed := s₂.slotsUsed } : State).setVm s₂.vm).setTop { g with pc := g.pc + len₂, stack := v.toList ++ g.stack })
    rw [← hs₂]
    exact hsteps
  · obtain ⟨e2, q2, q3, q4, q5, q6⟩ := id hsm
    have e3 : s₂ = ({ (U.calling g mk a).setFrames s₂.frames with heap := s₂.heap, slotsUsed := s₂.slotsUsed } : State).setVm s₂.vm := by
      have : s₂ = ({ s₂ with vm := (U.calling g mk a).vm } : State).setVm s₂.vm := rfl
      rw [e2] at this
      exact this
    have hf₂ : s₂.frames = .throwing q :: .java g :: U.frames.tail := hend
    have hW' : U.WarmedH s₂.vm := hW₂
    have hs₂ : s₂ = ((({ U with heap := s₂.heap, slotsUsed := s₂.slotsUsed } : State).setVm s₂.vm).setTop g).pushFrame (.throwing q) := by
      refine e3.trans ?_
      rw [hf₂, State.calling_eq h.top, State.setFrames_setFrames, State.pushFrame, State.frames_setTop _ hr', State.setTop_of_frames _ hr', State.setFrames_setFrames, hr]
      rfl
    have hsame : U.sameButNew ({ U with heap := s₂.heap, slotsUsed := s₂.slotsUsed } : State) L mc ms := by
      refine ⟨?_, q2, q3, q4, q5, q6⟩
      obtain ⟨t, ht, -⟩ := State.frames_cons hr
      show ({ U with heap := s₂.heap, slotsUsed := s₂.slotsUsed } : State) = { U.setFrames U.frames with heap := s₂.heap, slotsUsed := s₂.slotsUsed }
      rw [State.setFrames_self ht]
    subst hg
    refine Or.inr ⟨q, ⟨(({ U with heap := s₂.heap, slotsUsed := s₂.slotsUsed } : State).setVm s₂.vm), Ls ++ L, c0 + mc, s0 + ms⟩,
      ⟨X.admits, X.cas, X.clock, X.frames, X.room, X.hears, X.method, X.code, (X.here.setHeapUsed s₂.heap s₂.slotsUsed).setVm hW'.alike, X.tail, State.WarmedH.trans X.warmed hW', X.limits, X.bytes, X.same.trans (hsame.setVm s.vm)⟩,
      ⟨g, mk, s₂, L, E, ce, rfl, rfl, hx, hce, hcv, hcl, rfl, hL, rfl, rfl⟩, ?_⟩
    show Steps p.tables e below _ (((({ U with heap := s₂.heap, slotsUsed := s₂.slotsUsed } : State).setVm s₂.vm).setTop g).pushFrame (.throwing q))
    rw [← hs₂]
    exact hsteps
end
variable {p : Program} {l : Launch} {e : Env} {R : Room} {s : State} {m : MethodId} {args : Array Value} {below : List Frame} {meth : Method} {c : Code} {T : State} {H : Heap} {locs : List Loc} {cells slots : Nat}
theorem vx_callVX (X : Stand p l e R s m args below meth c T locs cells slots) (hexec : p.tables.exec = Jvm.exec) {own C : String} {index : Nat} {y : MethodName} {bytes : ByteArray} {maxL : Nat} {ret : Option FieldType} {hh : List (Nat × Nat × Nat × Nat)}
    (hown : s.vm.findClass own = some m.cls) (hlink : (Cond.methodLink own index y).before args s = true) (hinst : (Cond.instanceMethod y).before args s = true) (hsel : (Cond.selects C y y).before args s = true)
    (hcode : (Cond.codeWith y bytes maxL ret hh).before args s = true) (hy : y.cls ≠ "java/lang/invoke/MethodHandle" ∧ y.cls ≠ "java/lang/invoke/VarHandle")
    {W9 : Nat} {Pre : Pt → Array Value → Prop} {Post : Pt → Array Value → Option Value → Pt → Prop} {PostX : Pt → Array Value → Addr → Pt → Prop} (hK : vx_Back l R p e below s args y 3 W9 Pre Post PostX)
    {b : Addr} {cellB : Cell} (hcell : T.heap[b]? = some cellB) (hobj : cellB.vm.isStatics = false) (hcls : s.vm.findClass C = some cellB.cls)
    {g : JFrame} (hg : g.method = m) (hsize : g.locals.size = c.maxLocals) {argsL rest : List Value} (hlen : ∀ sig, parseMethodDescriptor y.desc = some sig → argsL.length = sig.parameters.length)
    (hstack : g.stack = argsL.reverse ++ .ref b :: rest) (hW : 2 * g.monitorRoom + (rest.map fun v => v.category).sum ≤ W9) (hdg : decode c.code g.pc = .ok (.invokevirtual index, 3))
    (hpre : ∀ vm₁, s.WarmedH vm₁ → Pre ⟨T.setVm vm₁, locs, cells, slots⟩ (Value.ref b :: argsL).toArray) :
    (∃ (v : Option Value) (vm₁ : Vm) (B : Pt), s.WarmedH vm₁ ∧ Stand p l e R s m args below meth c B.U B.locs B.cells B.slots ∧ Post ⟨T.setVm vm₁, locs, cells, slots⟩ (Value.ref b :: argsL).toArray v B ∧
      ∀ target, Steps p.tables e below (B.U.setTop { g with pc := g.pc + 3, stack := v.toList ++ rest }) target → Steps p.tables e below (T.setTop g) target) ∨
    (∃ (q : Addr) (vm₁ : Vm) (B : Pt), s.WarmedH vm₁ ∧ Stand p l e R s m args below meth c B.U B.locs B.cells B.slots ∧ PostX ⟨T.setVm vm₁, locs, cells, slots⟩ (Value.ref b :: argsL).toArray q B ∧
      Steps p.tables e below (T.setTop g) ((B.U.setTop { g with stack := rest }).pushFrame (.throwing q))) := by
  obtain ⟨mk, methM, hnamed, hmethM, hstM, habM⟩ := Cond.instanceMethod_spec hinst
  obtain ⟨m8, methM', cM, hn8, hmethM', -, -, -, -, -, -, hsigM⟩ := Cond.codeWith_spec hcode
  cases Option.some.inj (hn8.symm.trans hnamed)
  cases hmethM.symm.trans hmethM'
  obtain ⟨c2, r2, m2, q1, q2, q3, q4, kP, hkP, hkPi⟩ := Cond.selects_spec hsel
  cases hcls.symm.trans q1
  cases (State.methodFound?_of_named hnamed hy).symm.trans q2
  cases hnamed.symm.trans q3
  have hselP : selectMethod e.platform s.vm cellB.cls mk = .method mk := by rw [Launch.admits_selectMethod X.admits]; exact q4
  obtain ⟨vm₁, X₁, hstep₁⟩ := X.invokevirtual hexec hown hlink hnamed hmethM hstM hkP hkPi hy (a := b) (cell := cellB) hcell
    (fun z h => by rw [h] at hobj; cases hobj) hselP hmethM habM hkP hkPi (g := g) hg (argsL := argsL) (rest := rest) (hlen _ hsigM) hstack hdg
  rcases hK m meth c ⟨T.setVm vm₁, locs, cells, slots⟩ { g with stack := rest } (.invokevirtual index) mk (Value.ref b :: argsL).toArray X₁ hg hsize hdg hW (X₁.named hnamed) (hpre vm₁ X₁.warmed) with ⟨v, B, X', hpost, hsteps⟩ | ⟨q, B, X', hpost, hsteps⟩
  · exact Or.inl ⟨v, vm₁, B, X₁.warmed, X', hpost, fun target h => hstep₁ _ fun acts => by rw [doInvoke_state]; exact hsteps.trans h⟩
  · exact Or.inr ⟨q, vm₁, B, X₁.warmed, X', hpost, hstep₁ _ fun acts => by rw [doInvoke_state]; exact hsteps⟩
theorem vx_callSX (X : Stand p l e R s m args below meth c T locs cells slots) (hexec : p.tables.exec = Jvm.exec) {own : String} {index : Nat} {y : MethodName} {bytes : ByteArray} {maxL : Nat} {ret : Option FieldType} {hh : List (Nat × Nat × Nat × Nat)}
    (hown : s.vm.findClass own = some m.cls) (hlink : (Cond.methodLink own index y).before args s = true) (hstat : (Cond.static y).before args s = true) (hinit : (Cond.initialized y.cls).before args s = true)
    (hcode : (Cond.codeWith y bytes maxL ret hh).before args s = true) (hy : y.cls ≠ "java/lang/invoke/MethodHandle" ∧ y.cls ≠ "java/lang/invoke/VarHandle")
    {W9 : Nat} {Pre : Pt → Array Value → Prop} {Post : Pt → Array Value → Option Value → Pt → Prop} {PostX : Pt → Array Value → Addr → Pt → Prop} (hK : vx_Back l R p e below s args y 3 W9 Pre Post PostX)
    {g : JFrame} (hg : g.method = m) (hsize : g.locals.size = c.maxLocals) {argsL rest : List Value} (hlen : ∀ sig, parseMethodDescriptor y.desc = some sig → argsL.length = sig.parameters.length)
    (hstack : g.stack = argsL.reverse ++ rest) (hW : 2 * g.monitorRoom + (rest.map fun v => v.category).sum ≤ W9) (hdg : decode c.code g.pc = .ok (.invokestatic index, 3))
    (hpre : ∀ vm₁, s.WarmedH vm₁ → Pre ⟨T.setVm vm₁, locs, cells, slots⟩ argsL.toArray) :
    (∃ (v : Option Value) (vm₁ : Vm) (B : Pt), s.WarmedH vm₁ ∧ Stand p l e R s m args below meth c B.U B.locs B.cells B.slots ∧ Post ⟨T.setVm vm₁, locs, cells, slots⟩ argsL.toArray v B ∧
      ∀ target, Steps p.tables e below (B.U.setTop { g with pc := g.pc + 3, stack := v.toList ++ rest }) target → Steps p.tables e below (T.setTop g) target) ∨
    (∃ (q : Addr) (vm₁ : Vm) (B : Pt), s.WarmedH vm₁ ∧ Stand p l e R s m args below meth c B.U B.locs B.cells B.slots ∧ PostX ⟨T.setVm vm₁, locs, cells, slots⟩ argsL.toArray q B ∧
      Steps p.tables e below (T.setTop g) ((B.U.setTop { g with stack := rest }).pushFrame (.throwing q))) := by
  obtain ⟨mk, methM, cM, hnamed, hmethM, -, -, -, -, -, -, hsigM⟩ := Cond.codeWith_spec hcode
  have hstatic : methM.isStatic = true := Cond.static_spec hnamed hmethM hstat
  obtain ⟨kP, hkP, -⟩ := className_of_methodNamed hnamed
  have hinitP : kP.init = .initialized := Cond.initialized_spec (findClass_of_methodNamed hnamed) hkP hinit
  obtain ⟨vm₁, X₁, hstep₁⟩ := X.invokestatic hexec hown hlink hnamed hmethM hstatic hkP hinitP hy (g := g) hg (argsL := argsL) (rest := rest) (hlen _ hsigM) hstack hdg
  rcases hK m meth c ⟨T.setVm vm₁, locs, cells, slots⟩ { g with stack := rest } (.invokestatic index) mk argsL.toArray X₁ hg hsize hdg hW (X₁.named hnamed) (hpre vm₁ X₁.warmed) with ⟨v, B, X', hpost, hsteps⟩ | ⟨q, B, X', hpost, hsteps⟩
  · exact Or.inl ⟨v, vm₁, B, X₁.warmed, X', hpost, fun target h => hstep₁ _ fun acts => by rw [doInvoke_state]; exact hsteps.trans h⟩
  · exact Or.inr ⟨q, vm₁, B, X₁.warmed, X', hpost, hstep₁ _ fun acts => by rw [doInvoke_state]; exact hsteps⟩
theorem vx_callVW (X : Stand p l e R s m args below meth c T locs cells slots) (hexec : p.tables.exec = Jvm.exec) {own C : String} {index : Nat} {y : MethodName} {bytes : ByteArray} {maxL : Nat} {ret : Option FieldType} {hh : List (Nat × Nat × Nat × Nat)}
    (hown : s.vm.findClass own = some m.cls) (hlink : (Cond.methodLink own index y).before args s = true) (hinst : (Cond.instanceMethod y).before args s = true) (hsel : (Cond.selects C y y).before args s = true)
    (hcode : (Cond.codeWith y bytes maxL ret hh).before args s = true) (hy : y.cls ≠ "java/lang/invoke/MethodHandle" ∧ y.cls ≠ "java/lang/invoke/VarHandle")
    {W9 : Nat} {Pre : Pt → Array Value → Prop} {Post : Pt → Array Value → Option Value → Pt → Prop} (hK : Back l R p e below s args y 3 W9 Pre Post)
    {b : Addr} {cellB : Cell} (hcell : T.heap[b]? = some cellB) (hobj : cellB.vm.isStatics = false) (hcls : s.vm.findClass C = some cellB.cls)
    {g : JFrame} (hg : g.method = m) (hsize : g.locals.size = c.maxLocals) {argsL rest : List Value} (hlen : ∀ sig, parseMethodDescriptor y.desc = some sig → argsL.length = sig.parameters.length)
    (hstack : g.stack = argsL.reverse ++ .ref b :: rest) (hW : 2 * g.monitorRoom + (rest.map fun v => v.category).sum ≤ W9) (hdg : decode c.code g.pc = .ok (.invokevirtual index, 3))
    (hpre : ∀ vm₁, s.WarmedH vm₁ → Pre ⟨T.setVm vm₁, locs, cells, slots⟩ (Value.ref b :: argsL).toArray) :
    ∃ (v : Option Value) (vm₁ : Vm) (B : Pt), s.WarmedH vm₁ ∧ Stand p l e R s m args below meth c B.U B.locs B.cells B.slots ∧ Post ⟨T.setVm vm₁, locs, cells, slots⟩ (Value.ref b :: argsL).toArray v B ∧
      ∀ target, Steps p.tables e below (B.U.setTop { g with pc := g.pc + 3, stack := v.toList ++ rest }) target → Steps p.tables e below (T.setTop g) target := by
  obtain ⟨mk, methM, hnamed, hmethM, hstM, habM⟩ := Cond.instanceMethod_spec hinst
  obtain ⟨m8, methM', cM, hn8, hmethM', -, -, -, -, -, -, hsigM⟩ := Cond.codeWith_spec hcode
  cases Option.some.inj (hn8.symm.trans hnamed)
  cases hmethM.symm.trans hmethM'
  obtain ⟨c2, r2, m2, q1, q2, q3, q4, kP, hkP, hkPi⟩ := Cond.selects_spec hsel
  cases hcls.symm.trans q1
  cases (State.methodFound?_of_named hnamed hy).symm.trans q2
  cases hnamed.symm.trans q3
  have hselP : selectMethod e.platform s.vm cellB.cls mk = .method mk := by rw [Launch.admits_selectMethod X.admits]; exact q4
  obtain ⟨vm₁, X₁, hstep₁⟩ := X.invokevirtual hexec hown hlink hnamed hmethM hstM hkP hkPi hy (a := b) (cell := cellB) hcell
    (fun z h => by rw [h] at hobj; cases hobj) hselP hmethM habM hkP hkPi (g := g) hg (argsL := argsL) (rest := rest) (hlen _ hsigM) hstack hdg
  obtain ⟨v, B, X', hpost, hsteps⟩ := hK m meth c ⟨T.setVm vm₁, locs, cells, slots⟩ { g with stack := rest } (.invokevirtual index) mk (Value.ref b :: argsL).toArray X₁ hg hsize hdg hW (X₁.named hnamed) (hpre vm₁ X₁.warmed)
  exact ⟨v, vm₁, B, X₁.warmed, X', hpost, fun target h => hstep₁ _ fun acts => by rw [doInvoke_state]; exact hsteps.trans h⟩
abbrev vx_CVW (R : Room) (s : State) (args : Array Value) (own C : String) (index : Nat) (y : MethodName) (bytes : ByteArray) (maxL : Nat) (ret : Option FieldType) (hh : List (Nat × Nat × Nat × Nat)) (ws : List Cond) (rm : Room) (mc ms n : Nat) : Prop :=
  (rm.cells = mc ∧ rm.slots = ms ∧ rm.frames + 1 ≤ R.frames ∧ 8 + (maxL + 11) + rm.locals ≤ R.locals ∧ (∀ w ∈ ws, ∀ (a' : Array Value) (U : State), s.WarmedH U.vm → w.before a' U = true) ∧ Cond.codeWith y bytes maxL ret hh ∈ ws) ∧
  (Cond.codeWith y bytes maxL ret hh).before args s = true ∧ (Cond.initialized y.cls).before args s = true ∧ (y.cls ≠ "java/lang/invoke/MethodHandle" ∧ y.cls ≠ "java/lang/invoke/VarHandle") ∧
  (∀ sig, parseMethodDescriptor y.desc = some sig → n = sig.parameters.length) ∧ (Cond.methodLink own index y).before args s = true ∧ (Cond.instanceMethod y).before args s = true ∧ (Cond.selects C y y).before args s = true
theorem vx_cwVW {own C : String} {index maxL mc ms : Nat} {y : MethodName} {bytes : ByteArray} {ret : Option FieldType} {hh : List (Nat × Nat × Nat × Nat)} {Ts ws ws' : List Cond} {rm : Room} (n : Nat) (ht : ∀ w ∈ Ts, w.before args s = true) (hT : GoodIn Ts (wsV own index C y ws)) (hw : ws = Cond.codeWith y bytes maxL ret hh :: ws') (hrc : rm.cells = mc) (hrs : rm.slots = ms)
    (hd : y.cls = C ∧ y.cls ≠ "java/lang/invoke/MethodHandle" ∧ y.cls ≠ "java/lang/invoke/VarHandle" ∧ (parseMethodDescriptor y.desc).map (fun d => d.parameters.length) = some n) (hR : rm.frames + 1 ≤ R.frames ∧ 8 + (maxL + 11) + rm.locals ≤ R.locals) :
    vx_CVW R s args own C index y bytes maxL ret hh ws rm mc ms n := by
  obtain ⟨hC, hd⟩ := hd
  subst hC
  have ok : ∀ w ∈ wsV own index y.cls y ws, w.before args s = true := fun w h => ht w (hT w h).1
  have hG : GoodIn Ts ws := fun w h => hT w (by unfold wsV; exact List.mem_append_right _ h)
  have hc : Cond.codeWith y bytes maxL ret hh ∈ ws := by rw [hw]; exact List.mem_cons_self
  refine ⟨⟨hrc, hrs, hR.1, hR.2, pay_in ht hG, hc⟩, ht _ (hG _ hc).1, ok _ (by simp [wsV]), ⟨hd.1, hd.2.1⟩, fun sig h => ?_, ok _ (by simp [wsV]), ok _ (by simp [wsV]), ok _ (by simp [wsV])⟩
  have h2 := hd.2.2
  rw [h] at h2
  exact (Option.some.inj h2).symm
theorem vx_runVW {y : MethodName} {bytes cc : ByteArray} {maxL nL mc ms n index : Nat} {ret : Option FieldType} {hh : List (Nat × Nat × Nat × Nat)} {ws : List Cond} {rm : Room} {Pc : Array Value → State → Prop} {Qc : Array Value → State → Outcome → State → Prop} {free : Addr → Prop} {Ts : List Cond} {own C : String} {b : Addr} {As rest : List Value} {g : JFrame}
    (S : CallFix p m c cc nL s args Ts own) (hM : Met l y ws rm Pc Qc mc ms free) (cw : vx_CVW R s args own C index y bytes maxL ret hh ws rm mc ms n) (hp : PreV s H C b Pc As)
    (hg : g.method = m) (hn : As.length = n) (hsize : g.locals.size = nL) (hstack : g.stack = As.reverse ++ .ref b :: rest) (hW : 2 * g.monitorRoom + (rest.map fun v => v.category).sum ≤ 8) (hdg : decode cc g.pc = .ok (.invokevirtual index, 3)) (hf : cells + mc ≤ R.cells ∧ slots + ms ≤ R.slots) :
    va_Run p l e R s m args below meth c H locs cells slots mc ms g rest (Qc (Value.ref b :: As).toArray) free := by
  obtain ⟨⟨hrc, hrs, hfr, hlo, hws, hcw⟩, hcode, hini, hy, hlen, hl, hin, hse⟩ := cw
  have hK : Back l R p e below s args y 3 8 (PreOf R mc ms Pc) (PostOf Qc mc ms free) := va_backW (hh := hh) (bytes := bytes) (maxL := maxL) (ret := ret) hM hp.1 hrc hrs hfr hlo hws hcw (fun a' U hW => word_at hW (Or.inl (by first | rfl | simp [Cond.onTables, Cond.keeps, Cond.steady])) hini)
  obtain ⟨hx, hb, hml, ho, -⟩ := S
  obtain ⟨-, ⟨cellB, hcB, hoB, hclB⟩, hPc⟩ := hp
  intro T hT X
  obtain ⟨v, vm₁, ⟨U', l2, c2, s2⟩, hW₁, X', ⟨g', mk, t, L, e1, e2, hq, h1, hL, h2, h3⟩, st⟩ := vx_callVW X hx (C := C) (hh := hh) (bytes := bytes) (maxL := maxL) (ret := ret) ho hl hin hse hcode hy hK (by rw [hT]; exact hcB) hoB hclB hg (hsize.trans hml.symm) (argsL := As) (rest := rest) (fun sig h => hn.trans (hlen sig h)) hstack hW (by rw [hb]; exact hdg)
    (fun vm₁ hW₁ => ⟨hf.1, hf.2, hPc (T.setVm vm₁) hT hW₁⟩)
  dsimp only [Pt.U, Pt.locs, Pt.cells, Pt.slots] at X' e1 e2 h1 h2 h3 st
  subst h1; subst h2; subst h3
  exact ⟨v, (T.setVm vm₁).calling g' mk (Value.ref b :: As).toArray, t, U', L, hT, X', hL, e1, e2, hq, st⟩
section
variable {y : MethodName} {bytes cc : ByteArray} {maxL nL mc ms n index : Nat} {ret : Option FieldType} {ws : List Cond} {rm : Room} {Pc : Array Value → State → Prop} {Qc : Array Value → State → Outcome → State → Prop} {XC : String → State → State → Prop} {free : Addr → Prop} {Ts : List Cond} {own C : String} {b : Addr} {As rest : List Value} {g : JFrame}
theorem vx_runVX {hh : List (Nat × Nat × Nat × Nat)} (S : CallFix p m c cc nL s args Ts own) (hM : vx_Met l y ws rm Pc Qc XC mc ms free) (cw : vx_CVW R s args own C index y bytes maxL ret hh ws rm mc ms n) (hp : PreV s H C b Pc As)
    (hg : g.method = m) (hn : As.length = n) (hsize : g.locals.size = nL) (hstack : g.stack = As.reverse ++ .ref b :: rest) (hW : 2 * g.monitorRoom + (rest.map fun v => v.category).sum ≤ 8) (hdg : decode cc g.pc = .ok (.invokevirtual index, 3)) (hf : cells + mc ≤ R.cells ∧ slots + ms ≤ R.slots) :
    vx_Run p l e R s m args below meth c H locs cells slots mc ms g rest (Qc (Value.ref b :: As).toArray) XC free := by
  obtain ⟨⟨hrc, hrs, hfr, hlo, hws, hcw⟩, hcode, hini, hy, hlen, hl, hin, hse⟩ := cw
  have hK : vx_Back l R p e below s args y 3 8 (PreOf R mc ms Pc) (PostOf Qc mc ms free) (vx_Post XC mc ms free) := vx_backW (hh := hh) (bytes := bytes) (maxL := maxL) (ret := ret) hM hp.1 hrc hrs hfr hlo hws hcw (fun a' U hW => word_at hW (Or.inl (by first | rfl | simp [Cond.onTables, Cond.keeps, Cond.steady])) hini)
  obtain ⟨hx, hb, hml, ho, -⟩ := S
  obtain ⟨-, ⟨cellB, hcB, hoB, hclB⟩, hPc⟩ := hp
  intro T hT X
  rcases vx_callVX X hx (C := C) (hh := hh) (bytes := bytes) (maxL := maxL) (ret := ret) ho hl hin hse hcode hy hK (by rw [hT]; exact hcB) hoB hclB hg (hsize.trans hml.symm) (argsL := As) (rest := rest) (fun sig h => hn.trans (hlen sig h)) hstack hW (by rw [hb]; exact hdg)
    (fun vm₁ hW₁ => ⟨hf.1, hf.2, hPc (T.setVm vm₁) hT hW₁⟩) with ⟨v, vm₁, ⟨U', l2, c2, s2⟩, hW₁, X', ⟨g', mk, t, L, e1, e2, hq, h1, hL, h2, h3⟩, st⟩ | ⟨q, vm₁, ⟨U', l2, c2, s2⟩, hW₁, X', ⟨g', mk, t, L, E, ce, e1, e2, hq, hce, hcv, hcl, h1, hL, h2, h3⟩, st⟩
  · dsimp only [Pt.U, Pt.locs, Pt.cells, Pt.slots] at X' e1 e2 h1 h2 h3 st
    subst h1; subst h2; subst h3
    exact Or.inl ⟨v, (T.setVm vm₁).calling g' mk (Value.ref b :: As).toArray, t, U', L, hT, X', hL, e1, e2, hq, st⟩
  · dsimp only [Pt.U, Pt.locs, Pt.cells, Pt.slots] at X' e1 e2 h1 h2 h3 st hcl
    subst h1; subst h2; subst h3
    exact Or.inr ⟨q, (T.setVm vm₁).calling g' mk (Value.ref b :: As).toArray, t, U', L, E, ce, hT, X', hL, e1, e2, hq, hce, hcv, vx_cls hW₁ hcl, st⟩
theorem vx_runSX {hh : List (Nat × Nat × Nat × Nat)} (S : CallFix p m c cc nL s args Ts own) (hM : vx_Met l y ws rm Pc Qc XC mc ms free) (cw : vx_CSW R s args own index y bytes maxL ret hh ws rm mc ms n) (hp : PreS s H Pc As)
    (hg : g.method = m) (hn : As.length = n) (hsize : g.locals.size = nL) (hstack : g.stack = As.reverse ++ rest) (hW : 2 * g.monitorRoom + (rest.map fun v => v.category).sum ≤ 8) (hdg : decode cc g.pc = .ok (.invokestatic index, 3)) (hf : cells + mc ≤ R.cells ∧ slots + ms ≤ R.slots) :
    vx_Run p l e R s m args below meth c H locs cells slots mc ms g rest (Qc As.toArray) XC free := by
  obtain ⟨⟨hrc, hrs, hfr, hlo, hws, hcw⟩, hcode, hini, hy, hlen, hl, hstt⟩ := cw
  have hK : vx_Back l R p e below s args y 3 8 (PreOf R mc ms Pc) (PostOf Qc mc ms free) (vx_Post XC mc ms free) := vx_backW (hh := hh) (bytes := bytes) (maxL := maxL) (ret := ret) hM hp.1 hrc hrs hfr hlo hws hcw (fun a' U hW => word_at hW (Or.inl (by first | rfl | simp [Cond.onTables, Cond.keeps, Cond.steady])) hini)
  obtain ⟨hx, hb, hml, ho, -⟩ := S
  intro T hT X
  rcases vx_callSX X hx (hh := hh) (bytes := bytes) (maxL := maxL) (ret := ret) ho hl hstt hini hcode hy hK hg (hsize.trans hml.symm) (argsL := As) (rest := rest) (fun sig h => hn.trans (hlen sig h)) hstack hW (by rw [hb]; exact hdg)
    (fun vm₁ hW₁ => ⟨hf.1, hf.2, hp.2 (T.setVm vm₁) hT hW₁⟩) with ⟨v, vm₁, ⟨U', l2, c2, s2⟩, hW₁, X', ⟨g', mk, t, L, e1, e2, hq, h1, hL, h2, h3⟩, st⟩ | ⟨q, vm₁, ⟨U', l2, c2, s2⟩, hW₁, X', ⟨g', mk, t, L, E, ce, e1, e2, hq, hce, hcv, hcl, h1, hL, h2, h3⟩, st⟩
  · dsimp only [Pt.U, Pt.locs, Pt.cells, Pt.slots] at X' e1 e2 h1 h2 h3 st
    subst h1; subst h2; subst h3
    exact Or.inl ⟨v, (T.setVm vm₁).calling g' mk As.toArray, t, U', L, hT, X', hL, e1, e2, hq, st⟩
  · dsimp only [Pt.U, Pt.locs, Pt.cells, Pt.slots] at X' e1 e2 h1 h2 h3 st hcl
    subst h1; subst h2; subst h3
    exact Or.inr ⟨q, (T.setVm vm₁).calling g' mk As.toArray, t, U', L, E, ce, hT, X', hL, e1, e2, hq, hce, hcv, vx_cls hW₁ hcl, st⟩
end
end VXH
theorem vx_ofWH {l : Launch} {y : MethodName} {ws ws' : List Cond} {rm : Room} {Pc : Array Value → State → Prop} {Qc : Array Value → State → Outcome → State → Prop} {XC : String → State → State → Prop} {mc ms : Nat} {free : Addr → Prop} {cc : ByteArray} {maxL : Nat} {ret : Option FieldType} {hh : List (Nat × Nat × Nat × Nat)}
    (hy : plainName y.cls = true) (hw : ws = Cond.codeWith y cc maxL ret hh :: ws')
    (body : ∀ p e s m args below meth c s₁, BodyLoose p l y (headSpec ws rm) cc maxL ret e s m args below meth c s₁ → c.maxLocals = maxL → Pc args s →
      W p l e (headSpec ws rm).room s m args below meth c s.heap [] 0 0 (vx_MQ below Qc XC args s mc ms free) (entryFrame m args maxL)) : vx_Met l y ws rm Pc Qc XC mc ms free := by
  refine MetFree.of_bodyS (code := cc) (maxLocals := maxL) (ret := ret) hy ?_ ?_
  · intro args s m h hn
    obtain ⟨m9, meth, c, hn9, h1, h2, h3, h4, -, h5, h6, -⟩ := Cond.codeWith_spec (atoms_spec (ws := ws) h _ (by rw [hw]; exact List.mem_cons_self))
    cases hn.symm.trans hn9
    exact ⟨meth, c, h1, h2, h3, h4, h5, h6⟩
  · intro p e s m args below meth c s₁ B hml hP _
    have hh0 : s₁.heap = s.heap := by rw [B.state]; rfl
    obtain ⟨t, a1, o, b1, b2, b3⟩ := body p e s m args below meth c s₁ B hml hP s₁ hh0 (Stand.of_body B)
    exact ⟨t, o, a1, b1, b2, b3⟩
/-! ===== END ===== -/
end
section
/-! CONTRACTS BY WORLDS: the cells w come in, the answer ov and the cells w' come out; what isn't listed stays -/
def pj_Q (ov : Option Value) (w' : va_W) (D : va_G) (cl : List vw_C) (A : Nat → Prop) : Array Value → State → Outcome → State → Prop := fun _ st oc t =>
  (oc = .returned ov ∧ va_P D cl w' t.heap ∧ va_D A w') ∧ va_F A st t
/-- what is said of the start -/
def pj_In (D : va_G) (cl : List vw_C) (tys : List (ClassId × FieldType)) (w : va_W) (G : (Nat → Prop) → State → Prop) (sz : Nat) (U : State) : Prop :=
  U.heap.size = sz ∧ va_P D cl w U.heap ∧ va_K D cl tys U ∧ va_D (fun _ => True) w ∧ G (va_A w sz) U
/-- what a method needs of the state besides its world: it stays when what it may change is less, the tables are warmer, the rest of the heap is kept -/
def pj_G (G : (Nat → Prop) → State → Prop) : Prop :=
  (∀ (A : Nat → Prop) (U : State) (g : JFrame) (mk : MethodId) (a : Array Value), G A U → G A (U.calling g mk a)) ∧
  ∀ (A B : Nat → Prop) (s U : State) (H : Heap) (locs : List Loc), U.heap = H → s.WarmedH U.vm → va_S A s.heap H locs → (∀ q, B q → A q) → G A s → G B U
def pj_no : (Nat → Prop) → State → Prop := fun _ _ => True
theorem pj_no_ok : pj_G pj_no := ⟨fun _ _ _ _ _ _ => trivial, fun _ _ _ _ _ _ _ _ _ _ _ => trivial⟩
def pj_Met (l : Launch) (y : MethodName) (ws : List Cond) (rm : Room) (D : va_G) (cl : List vw_C) (tys : List (ClassId × FieldType)) (G : (Nat → Prop) → State → Prop) (av : List Value) (w : va_W) (ov : Option Value) (w' : va_W) (mc ms : Nat) : Prop := ∀ sz : Nat,
  Met l y ws rm (va_Pc av (pj_In D cl tys w G sz)) (pj_Q ov w' D cl (va_A w sz)) mc ms (va_A w sz)
theorem pj_fm {α β : Type} {f : α → Option β} {is : List α} {w : List β} (h : is.map f = w.map some) : is.filterMap f = w := by
  have h1 : (is.map f).filterMap id = (w.map some).filterMap id := by rw [h]
  simpa [List.filterMap_map, Function.comp_def] using h1
section PJ
variable {p : Program} {l : Launch} {e : Env} {R : Room} {s : State} {m : MethodId} {args : Array Value} {below : List Frame} {meth : Method} {c : Code} {H : Heap} {locs : List Loc} {cells slots : Nat} {Q : State → Prop}
variable {D : va_G} {cl : List vw_C} {tys : List (ClassId × FieldType)} {w w' w0 wc wr w1 w2 : va_W} {A : Nat → Prop} {ov : Option Value} {pc : Nat} {ls : Array Slot} {rest st0 st1 : List Value} {cc : ByteArray} {G G' : (Nat → Prop) → State → Prop} {mc ms c2 s2 : Nat}
theorem pj_of {y : MethodName} {ws ws' : List Cond} {rm : Room} {av : List Value} {maxL : Nat} {ret : Option FieldType}
    (hy : plainName y.cls = true) (hw : ws = Cond.code y cc maxL ret :: ws') (hlen : (lg_sl av).length ≤ maxL)
    (body : ∀ p e s m below meth c (A : Nat → Prop) (ls : Array Slot), p.tables.exec = Jvm.exec → c.code = cc → c.maxLocals = maxL → meth.sig.returnType = ret → (∀ q ∈ ws, q.before av.toArray s = true) → s.vm.findClass y.cls = some m.cls → meth.locks = false → meth.name = y.name →
      (∀ q : Nat, s.heap.size ≤ q → A q) → va_K D cl tys s → va_P D cl w s.heap → va_D A w → va_S A s.heap s.heap [] → G A s → lv_has ls maxL (lv_args 0 av) →
      W p l e rm s m av.toArray below meth c s.heap [] 0 0 (MQ below (pj_Q ov w' D cl A) av.toArray s mc ms A) (F0 m 0 ls [])) : pj_Met l y ws rm D cl tys G av w ov w' mc ms := by
  intro sz
  refine Met.ofW (cc := cc) (maxL := maxL) (ret := ret) hy hw ?_
  intro p e s m args below meth c s₁ B hml hv
  obtain ⟨rfl, rfl, hP, hK, hD0, hG⟩ := hv
  have hl := lv_entry av hlen
  rw [lg_entry_eq]
  exact body p e s m below meth c (va_A w s.heap.size) _ B.exec B.bytes hml B.returns (atoms_spec (ws := ws) B.pre) (findClass_of_methodNamed B.named) B.notSynchronized (name_of_methodNamed B.named B.method).1
    (fun q h => Or.inr h) hK hP (hD0.self (sz := s.heap.size)) va_S.rf hG hl
theorem pj_iret (hx : p.tables.exec = Jvm.exec) (hb : c.code = cc) (hr : meth.sig.returnType = some .int) (hlocks : meth.locks = false) {v v' : Int32} (hP : va_P D cl w0 H) (hD : va_D A w0) (hS : va_S A s.heap H locs) (hv : v = v') (hw : w0 = w') (hdg : decode cc pc = .ok (.ireturn, 1)) :
    W p l e R s m args below meth c H locs cells slots (MQ below (pj_Q (some (.int v')) w' D cl A) args s cells slots A) (F0 m pc ls [.int v]) := by
  subst hv; subst hw
  exact W.iret hx hb hr (fun t ht hW => ⟨⟨rfl, by rw [ht]; exact hP, hD⟩, hS.F ht⟩) hS.2.2 hdg hlocks
theorem pj_zret (hx : p.tables.exec = Jvm.exec) (hb : c.code = cc) (hr : meth.sig.returnType = some .boolean) (hlocks : meth.locks = false) {v v' : Int32} (hP : va_P D cl w0 H) (hD : va_D A w0) (hS : va_S A s.heap H locs) (hv : v = v') (hw : w0 = w') (h01 : narrow .boolean (.int v') = .int v') (hdg : decode cc pc = .ok (.ireturn, 1)) :
    W p l e R s m args below meth c H locs cells slots (MQ below (pj_Q (some (.int v')) w' D cl A) args s cells slots A) (F0 m pc ls [.int v]) := by
  subst hv; subst hw
  exact W.zret hx hb hr h01 (fun t ht hW => ⟨⟨rfl, by rw [ht]; exact hP, hD⟩, hS.F ht⟩) hS.2.2 hdg hlocks
theorem pj_lret (hx : p.tables.exec = Jvm.exec) (hb : c.code = cc) (hr : meth.sig.returnType = some .long) (hlocks : meth.locks = false) {v v' : Int64} (hP : va_P D cl w0 H) (hD : va_D A w0) (hS : va_S A s.heap H locs) (hv : v = v') (hw : w0 = w') (hdg : decode cc pc = .ok (.lreturn, 1)) :
    W p l e R s m args below meth c H locs cells slots (MQ below (pj_Q (some (.long v')) w' D cl A) args s cells slots A) (F0 m pc ls [.long v]) := by
  subst hv; subst hw
  exact W.lret hx hb hr (fun t ht hW => ⟨⟨rfl, by rw [ht]; exact hP, hD⟩, hS.F ht⟩) hS.2.2 hdg hlocks
theorem pj_vret (hx : p.tables.exec = Jvm.exec) (hb : c.code = cc) (hr : meth.sig.returnType = none) (hlocks : meth.locks = false) (hP : va_P D cl w0 H) (hD : va_D A w0) (hS : va_S A s.heap H locs) (hw : w0 = w') (hdg : decode cc pc = .ok (.return_, 1)) :
    W p l e R s m args below meth c H locs cells slots (MQ below (pj_Q none w' D cl A) args s cells slots A) (F0 m pc ls []) := by
  subst hw
  exact W.vret hx hb hr (fun t ht hW => ⟨⟨rfl, by rw [ht]; exact hP, hD⟩, hS.F ht⟩) hS.2.2 hdg hlocks
/-- behind a call of a method with a contract by worlds -/
theorem pj_call {a : Array Value} (hr : va_Run p l e R s m args below meth c H locs cells slots mc ms (F0 m pc ls st0) rest (pj_Q ov w1 D cl (va_A wc H.size) a) (va_A wc H.size)) (hP : va_P D cl w H) (hD : va_D A w) (hS : va_S A s.heap H locs) (hA : ∀ q, s.heap.size ≤ q → A q)
    (isC isR isP : List Nat) (hC : isC.map (fun i => w[i]?) = wc.map some) (hR : isR.map (fun i => w[i]?) = wr.map some) (hn : va_nd isR = true) (hdis : ∀ i ∈ isR, i ∉ isC) (hp : isP.map (fun i => (wr ++ w1)[i]?) = w2.map some) (hpn : va_nd isP = true)
    (h1 : ov.toList ++ rest = st1) (hc2 : cells + mc = c2) (hs2 : slots + ms = s2)
    (kk : ∀ (H1 : Heap) (locs1 : List Loc), va_P D cl w2 H1 → va_D A w2 → va_S A s.heap H1 locs1 → W p l e R s m args below meth c H1 locs1 c2 s2 Q (F0 m (pc + 3) ls st1)) : W p l e R s m args below meth c H locs cells slots Q (F0 m pc ls st0) := by
  subst h1; subst hc2; subst hs2
  intro T hT X
  have hF := va_free (wc := wc) hD hS hA isC hC
  obtain ⟨v, st₀, t, T', L, h0, X', hL, e1, e2, ⟨⟨hv, hP1, hD1⟩, hFr⟩, st⟩ := hr T hT X
  cases hv
  have hk : ∀ q : Nat, q < H.size → ¬ va_A wc H.size q → t.heap[q]? = H[q]? := by
    intro q hq hnq
    have h5 := hFr.2 q (by rw [h0]; exact hq) hnq
    rw [h0] at h5
    exact h5
  have hz : H.size ≤ t.heap.size := by
    have h5 := hFr.1
    rw [h0] at h5
    exact h5
  obtain ⟨hP2, hD2⟩ := va_join hP hD isC isR hC hR hn hdis hk hF hP1 hD1
  have hS2 : va_S A s.heap t.heap (locs ++ L) := by
    refine ⟨Nat.le_trans hS.1 hz, fun q hq hnq => ?_, fun z hz => ?_⟩
    · rw [hk q (Nat.lt_of_lt_of_le hq hS.1) (fun h => hnq (hF q h))]
      exact hS.2.1 q hq hnq
    · rcases List.mem_append.mp hz with h1 | h1
      · exact hS.2.2 z h1
      · exact hF _ (hL z h1)
  obtain ⟨t2, a1, b1⟩ := kk t.heap (locs ++ L) (hP2.sub isP (pj_fm hp)) (hD2.sub isP hpn hp) hS2 T' e1 X'
  exact ⟨t2, st t2 a1, b1⟩
theorem pj_pre {wc : va_W} {av : List Value} (hG : pj_G G') (hg : G' A s) (hK : va_K D cl tys s) (hP : va_P D cl wc H) (hD : va_D A wc) (hS : va_S A s.heap H locs) (hF : ∀ q, va_A wc H.size q → A q) : PreS s H (va_Pc av (pj_In D cl tys wc G' H.size)) av :=
  ⟨fun a U g mk q => by obtain ⟨q0, q1, qP, qK, qD, qG⟩ := q; exact ⟨q0, q1, qP, va_K.moved (u := U) (U := U.calling g mk a) (Vm.Alike.refl U.vm) qK, qD, hG.1 _ _ _ _ _ qG⟩,
   fun U hU hW => ⟨rfl, by rw [hU], by rw [hU]; exact hP, va_K.moved hW.alike hK, hD.weaken (fun _ _ _ _ => trivial), hG.2 _ _ _ _ _ _ hU hW hS hF hg⟩⟩
/-- a virtual call -/
theorem pj_callV {y : MethodName} {bytes : ByteArray} {maxL nL n index : Nat} {ret : Option FieldType} {wsy : List Cond} {rm : Room} {Ts : List Cond} {own C : String} {b : Nat} {As : List Value} {T : u_T} {N ci q0 : Nat} {fs : List Value}
    (S : CallFix p m c cc nL s args Ts own) (hM : pj_Met l y wsy rm D cl tys G' (.ref b :: As) wc ov w1 mc ms) (cw : CallW R s args own C index y bytes maxL ret wsy rm mc ms n) (hG : pj_G G') (hg : G' A s) (hK : va_K D cl tys s) (hP : va_P D cl w H) (hD : va_D A w) (hS : va_S A s.heap H locs) (hA : ∀ q, s.heap.size ≤ q → A q)
    (hrc : cl[ci]? = some (C, T, N)) (hre : wc[q0]? = some (b, .inr (ci, fs))) (isC isR isP : List Nat) (hC : isC.map (fun i => w[i]?) = wc.map some) (hCn : va_nd isC = true) (hR : isR.map (fun i => w[i]?) = wr.map some) (hn : va_nd isR = true) (hdis : ∀ i ∈ isR, i ∉ isC) (hp : isP.map (fun i => (wr ++ w1)[i]?) = w2.map some) (hpn : va_nd isP = true)
    (hAs : As.length = n) (hls : ls.size = nL) (hst : st0 = As.reverse ++ .ref b :: rest) (hroom : (rest.map fun v => v.category).sum ≤ 8) (hdg : decode cc pc = .ok (.invokevirtual index, 3)) (hf : cells + mc ≤ R.cells ∧ slots + ms ≤ R.slots) (h1 : ov.toList ++ rest = st1) (hc2 : cells + mc = c2) (hs2 : slots + ms = s2)
    (kk : ∀ (H1 : Heap) (locs1 : List Loc), va_P D cl w2 H1 → va_D A w2 → va_S A s.heap H1 locs1 → W p l e R s m args below meth c H1 locs1 c2 s2 Q (F0 m (pc + 3) ls st1)) : W p l e R s m args below meth c H locs cells slots Q (F0 m pc ls st0) := by
  have hPc := hP.sub isC (pj_fm hC)
  have hDc := hD.sub isC hCn hC
  have hpre := pj_pre (av := .ref b :: As) hG hg hK hPc hDc hS (va_free (wc := wc) hD hS hA isC hC)
  exact pj_call (va_runV (g := F0 m pc ls st0) (As := As) (rest := rest) S (hM H.size) cw ⟨hpre.1, va_recv hK hPc hrc hre, hpre.2⟩ rfl hAs hls hst (lv_room hroom) hdg hf) hP hD hS hA isC isR isP hC hR hn hdis hp hpn h1 hc2 hs2 kk
/-- a static call -/
theorem pj_callS {y : MethodName} {bytes : ByteArray} {maxL nL n index : Nat} {ret : Option FieldType} {wsy : List Cond} {rm : Room} {Ts : List Cond} {own : String} {As : List Value}
    (S : CallFix p m c cc nL s args Ts own) (hM : pj_Met l y wsy rm D cl tys G' As wc ov w1 mc ms) (cw : CallB R s args own index y bytes maxL ret wsy rm mc ms n ∧ (Cond.static y).before args s = true) (hG : pj_G G') (hg : G' A s) (hK : va_K D cl tys s) (hP : va_P D cl w H) (hD : va_D A w) (hS : va_S A s.heap H locs) (hA : ∀ q, s.heap.size ≤ q → A q)
    (isC isR isP : List Nat) (hC : isC.map (fun i => w[i]?) = wc.map some) (hCn : va_nd isC = true) (hR : isR.map (fun i => w[i]?) = wr.map some) (hn : va_nd isR = true) (hdis : ∀ i ∈ isR, i ∉ isC) (hp : isP.map (fun i => (wr ++ w1)[i]?) = w2.map some) (hpn : va_nd isP = true)
    (hAs : As.length = n) (hls : ls.size = nL) (hst : st0 = As.reverse ++ rest) (hroom : (rest.map fun v => v.category).sum ≤ 8) (hdg : decode cc pc = .ok (.invokestatic index, 3)) (hf : cells + mc ≤ R.cells ∧ slots + ms ≤ R.slots) (h1 : ov.toList ++ rest = st1) (hc2 : cells + mc = c2) (hs2 : slots + ms = s2)
    (kk : ∀ (H1 : Heap) (locs1 : List Loc), va_P D cl w2 H1 → va_D A w2 → va_S A s.heap H1 locs1 → W p l e R s m args below meth c H1 locs1 c2 s2 Q (F0 m (pc + 3) ls st1)) : W p l e R s m args below meth c H locs cells slots Q (F0 m pc ls st0) := by
  have hPc := hP.sub isC (pj_fm hC)
  have hDc := hD.sub isC hCn hC
  have hpre := pj_pre (av := As) hG hg hK hPc hDc hS (va_free (wc := wc) hD hS hA isC hC)
  exact pj_call (va_runS (g := F0 m pc ls st0) (As := As) (rest := rest) S (hM H.size) cw hpre rfl hAs hls hst (lv_room hroom) hdg hf) hP hD hS hA isC isR isP hC hR hn hdis hp hpn h1 hc2 hs2 kk
theorem pj_rng (w : va_W) : (List.range w.length).map (fun i => w[i]?) = w.map some := by
  apply List.ext_getElem?
  intro i
  by_cases h : i < w.length
  · simp [h]
  · simp [Nat.le_of_not_lt h]
theorem pj_ndr (k : Nat) : va_nd (List.range k) = true := by
  have h : ∀ l : List Nat, l.Nodup → va_nd l = true := by
    intro l
    induction l with
    | nil => intro _; rfl
    | cons a l ih =>
      intro hn
      rw [List.nodup_cons] at hn
      simp [va_nd, hn.1, ih hn.2]
  exact h _ List.nodup_range
/-- a virtual call of a method whose cells are all the cells -/
theorem pj_callVw {y : MethodName} {bytes : ByteArray} {maxL nL n index : Nat} {ret : Option FieldType} {wsy : List Cond} {rm : Room} {Ts : List Cond} {own C : String} {b : Nat} {As : List Value} {T : u_T} {N ci q0 : Nat} {fs : List Value}
    (S : CallFix p m c cc nL s args Ts own) (hM : pj_Met l y wsy rm D cl tys G' (.ref b :: As) w ov w1 mc ms) (cw : CallW R s args own C index y bytes maxL ret wsy rm mc ms n) (hG : pj_G G') (hg : G' A s) (hK : va_K D cl tys s) (hP : va_P D cl w H) (hD : va_D A w) (hS : va_S A s.heap H locs) (hA : ∀ q, s.heap.size ≤ q → A q)
    (hrc : cl[ci]? = some (C, T, N)) (hre : w[q0]? = some (b, .inr (ci, fs)))
    (hAs : As.length = n) (hls : ls.size = nL) (hst : st0 = As.reverse ++ .ref b :: rest) (hroom : (rest.map fun v => v.category).sum ≤ 8) (hdg : decode cc pc = .ok (.invokevirtual index, 3)) (hf : cells + mc ≤ R.cells ∧ slots + ms ≤ R.slots) (h1 : ov.toList ++ rest = st1) (hc2 : cells + mc = c2) (hs2 : slots + ms = s2)
    (kk : ∀ (H1 : Heap) (locs1 : List Loc), va_P D cl w1 H1 → va_D A w1 → va_S A s.heap H1 locs1 → W p l e R s m args below meth c H1 locs1 c2 s2 Q (F0 m (pc + 3) ls st1)) : W p l e R s m args below meth c H locs cells slots Q (F0 m pc ls st0) :=
  pj_callV (wr := []) (w2 := w1) S hM cw hG hg hK hP hD hS hA hrc hre (List.range w.length) [] (List.range w1.length) (pj_rng w) (pj_ndr _) rfl rfl (fun i h => by cases h) (pj_rng w1) (pj_ndr _) hAs hls hst hroom hdg hf h1 hc2 hs2 kk
end PJ
/-! constructors: what comes out is said by B -/
def pj_QB (ov : Option Value) (B : (Nat → Prop) → State → Prop) (A : Nat → Prop) : Array Value → State → Outcome → State → Prop := fun _ st oc t => (oc = .returned ov ∧ B A t) ∧ va_F A st t
def pj_MetB (l : Launch) (y : MethodName) (ws : List Cond) (rm : Room) (D : va_G) (cl : List vw_C) (tys : List (ClassId × FieldType)) (G : (Nat → Prop) → State → Prop) (av : List Value) (w : va_W) (ov : Option Value) (B : (Nat → Prop) → State → Prop) (mc ms : Nat) : Prop := ∀ sz : Nat,
  Met l y ws rm (va_Pc av (pj_In D cl tys w G sz)) (pj_QB ov B (va_A w sz)) mc ms (va_A w sz)
section PJB
variable {p : Program} {l : Launch} {e : Env} {R : Room} {s : State} {m : MethodId} {args : Array Value} {below : List Frame} {meth : Method} {c : Code} {H : Heap} {locs : List Loc} {cells slots : Nat} {Q : State → Prop}
variable {D : va_G} {cl : List vw_C} {tys : List (ClassId × FieldType)} {w wc wr : va_W} {A : Nat → Prop} {ov : Option Value} {pc : Nat} {ls : Array Slot} {rest st0 : List Value} {cc : ByteArray} {G G' : (Nat → Prop) → State → Prop} {mc ms c2 s2 : Nat} {B : (Nat → Prop) → State → Prop}
theorem pb_of {y : MethodName} {ws ws' : List Cond} {rm : Room} {av : List Value} {maxL : Nat} {ret : Option FieldType}
    (hy : plainName y.cls = true) (hw : ws = Cond.code y cc maxL ret :: ws') (hlen : (lg_sl av).length ≤ maxL)
    (body : ∀ p e s m below meth c (A : Nat → Prop) (ls : Array Slot), p.tables.exec = Jvm.exec → c.code = cc → c.maxLocals = maxL → meth.sig.returnType = ret → (∀ q ∈ ws, q.before av.toArray s = true) → s.vm.findClass y.cls = some m.cls → meth.locks = false → meth.name = y.name →
      (∀ q : Nat, s.heap.size ≤ q → A q) → va_K D cl tys s → va_P D cl w s.heap → va_D A w → va_S A s.heap s.heap [] → G A s → lv_has ls maxL (lv_args 0 av) →
      W p l e rm s m av.toArray below meth c s.heap [] 0 0 (MQ below (pj_QB ov B A) av.toArray s mc ms A) (F0 m 0 ls [])) : pj_MetB l y ws rm D cl tys G av w ov B mc ms := by
  intro sz
  refine Met.ofW (cc := cc) (maxL := maxL) (ret := ret) hy hw ?_
  intro p e s m args below meth c s₁ Bd hml hv
  obtain ⟨rfl, rfl, hP, hK, hD0, hG⟩ := hv
  have hl := lv_entry av hlen
  rw [lg_entry_eq]
  exact body p e s m below meth c (va_A w s.heap.size) _ Bd.exec Bd.bytes hml Bd.returns (atoms_spec (ws := ws) Bd.pre) (findClass_of_methodNamed Bd.named) Bd.notSynchronized (name_of_methodNamed Bd.named Bd.method).1
    (fun q h => Or.inr h) hK hP (hD0.self (sz := s.heap.size)) va_S.rf hG hl
theorem pb_vret (hx : p.tables.exec = Jvm.exec) (hb : c.code = cc) (hr : meth.sig.returnType = none) (hlocks : meth.locks = false) (hc : cells ≤ c2) (hs : slots ≤ s2) (hB : ∀ t : State, t.heap = H → B A t) (hS : va_S A s.heap H locs) (hdg : decode cc pc = .ok (.return_, 1)) :
    W p l e R s m args below meth c H locs cells slots (MQ below (pj_QB none B A) args s c2 s2 A) (F0 m pc ls []) :=
  W.widen hc hs (W.vret hx hb hr (fun t ht hW => ⟨⟨rfl, hB t ht⟩, hS.F ht⟩) hS.2.2 hdg hlocks)
theorem pb_callI {y : MethodName} {bytes : ByteArray} {maxL nL n index : Nat} {wsy : List Cond} {rm : Room} {Ts : List Cond} {own : String} {b : Nat} {As : List Value}
    (S : CallFix p m c cc nL s args Ts own) (hM : pj_MetB l y wsy rm D cl tys G' (.ref b :: As) wc none B mc ms) (cw : CallB R s args own index y bytes maxL none wsy rm mc ms n ∧ y.name = "<init>" ∧ (Cond.instanceMethod y).before args s = true) (hG : pj_G G') (hg : G' A s) (hK : va_K D cl tys s) (hP : va_P D cl w H) (hD : va_D A w) (hS : va_S A s.heap H locs) (hA : ∀ q, s.heap.size ≤ q → A q)
    (isC isR : List Nat) (hC : isC.map (fun i => w[i]?) = wc.map some) (hCn : va_nd isC = true) (hR : isR.map (fun i => w[i]?) = wr.map some) (hn : va_nd isR = true) (hdis : ∀ i ∈ isR, i ∉ isC)
    (hAs : As.length = n) (hls : ls.size = nL) (hst : st0 = As.reverse ++ .ref b :: rest) (hroom : (rest.map fun v => v.category).sum ≤ 8) (hdg : decode cc pc = .ok (.invokespecial index, 3)) (hf : cells + mc ≤ R.cells ∧ slots + ms ≤ R.slots) (hc2 : cells + mc = c2) (hs2 : slots + ms = s2)
    (kk : ∀ (t : State) (locs1 : List Loc), B (va_A wc H.size) t → (∀ w1, va_P D cl w1 t.heap → va_D (va_A wc H.size) w1 → va_P D cl (wr ++ w1) t.heap ∧ va_D A (wr ++ w1)) → va_S A s.heap t.heap locs1 → W p l e R s m args below meth c t.heap locs1 c2 s2 Q (F0 m (pc + 3) ls rest)) : W p l e R s m args below meth c H locs cells slots Q (F0 m pc ls st0) := by
  subst hc2; subst hs2
  have hPc := hP.sub isC (pj_fm hC)
  have hDc := hD.sub isC hCn hC
  have hF := va_free (wc := wc) hD hS hA isC hC
  have hpre := pj_pre (av := .ref b :: As) hG hg hK hPc hDc hS hF
  have hr : va_Run p l e R s m args below meth c H locs cells slots mc ms (F0 m pc ls st0) rest (pj_QB none B (va_A wc H.size) (Value.ref b :: As).toArray) (va_A wc H.size) := va_runI (g := F0 m pc ls st0) (As := As) (rest := rest) S (hM H.size) cw hpre rfl hAs hls hst (lv_room hroom) hdg hf
  intro T hT X
  obtain ⟨v, st₀, t, T', L, h0, X', hL, e1, e2, ⟨⟨hv, hB⟩, hFr⟩, st⟩ := hr T hT X
  cases hv
  have hk : ∀ q : Nat, q < H.size → ¬ va_A wc H.size q → t.heap[q]? = H[q]? := by
    intro q hq hnq
    have h5 := hFr.2 q (by rw [h0]; exact hq) hnq
    rw [h0] at h5
    exact h5
  have hz : H.size ≤ t.heap.size := by
    have h5 := hFr.1
    rw [h0] at h5
    exact h5
  have hS2 : va_S A s.heap t.heap (locs ++ L) := by
    refine ⟨Nat.le_trans hS.1 hz, fun q hq hnq => ?_, fun z hz => ?_⟩
    · rw [hk q (Nat.lt_of_lt_of_le hq hS.1) (fun h => hnq (hF q h))]
      exact hS.2.1 q hq hnq
    · rcases List.mem_append.mp hz with h1 | h1
      · exact hS.2.2 z h1
      · exact hF _ (hL z h1)
  obtain ⟨t2, a1, b1⟩ := kk t (locs ++ L) hB (fun w1 hP1 hD1 => va_join hP hD isC isR hC hR hn hdis hk hF hP1 hD1) hS2 T' e1 X'
  exact ⟨t2, st t2 a1, b1⟩
/-- an array that is made is of the class that the tables name -/
theorem pj_same {ty : FieldType} {cA cB : ClassId} {t0 : Nat} (h : va_K D cl (tys ++ [(cA, ty)]) s) (ht : tys[t0]? = some (cB, ty)) (hp : ∀ C, ty ≠ .object C) : cA = cB := by
  have h1 := (h.2 tys.length (cA, ty) (by simp)).2
  have hlt : t0 < tys.length := (List.getElem?_eq_some_iff.mp ht).1
  have h2 := (h.2 t0 (cB, ty) (by rw [List.getElem?_append_left hlt]; exact ht)).2
  cases ty with
  | object C => exact absurd rfl (hp C)
  | _ => simp only [va_RA] at h1 h2; exact Option.some.inj (h1.symm.trans h2)
end PJB
/-! METHODS THAT CHANGE NOTHING: the heap behind them is the heap ahead of them -/
def pp_Q (ov : Option Value) : Array Value → State → Outcome → State → Prop := fun _ st oc t => oc = .returned ov ∧ t.heap = st.heap
def pp_Met (l : Launch) (y : MethodName) (ws : List Cond) (rm : Room) (D : va_G) (cl : List vw_C) (tys : List (ClassId × FieldType)) (G : (Nat → Prop) → State → Prop) (av : List Value) (w : va_W) (ov : Option Value) : Prop := ∀ sz : Nat,
  Met l y ws rm (va_Pc av (pj_In D cl tys w G sz)) (pp_Q ov) 0 0 (fun _ => False)
section PP
variable {p : Program} {l : Launch} {e : Env} {R : Room} {s : State} {m : MethodId} {args : Array Value} {below : List Frame} {meth : Method} {c : Code} {H : Heap} {locs : List Loc} {cells slots : Nat} {Q : State → Prop}
variable {D : va_G} {cl : List vw_C} {tys : List (ClassId × FieldType)} {w wc : va_W} {A : Nat → Prop} {ov : Option Value} {pc : Nat} {ls : Array Slot} {rest st0 st1 : List Value} {cc : ByteArray} {G G' : (Nat → Prop) → State → Prop}
theorem pp_of {y : MethodName} {ws ws' : List Cond} {rm : Room} {av : List Value} {maxL : Nat} {ret : Option FieldType}
    (hy : plainName y.cls = true) (hw : ws = Cond.code y cc maxL ret :: ws') (hlen : (lg_sl av).length ≤ maxL)
    (body : ∀ p e s m below meth c (A : Nat → Prop) (ls : Array Slot), p.tables.exec = Jvm.exec → c.code = cc → c.maxLocals = maxL → meth.sig.returnType = ret → (∀ q ∈ ws, q.before av.toArray s = true) → s.vm.findClass y.cls = some m.cls → meth.locks = false →
      (∀ q : Nat, s.heap.size ≤ q → A q) → va_K D cl tys s → va_P D cl w s.heap → va_D A w → va_S A s.heap s.heap [] → G A s → lv_has ls maxL (lv_args 0 av) →
      W p l e rm s m av.toArray below meth c s.heap [] 0 0 (MQ below (pp_Q ov) av.toArray s 0 0 (fun _ => False)) (F0 m 0 ls [])) : pp_Met l y ws rm D cl tys G av w ov := by
  intro sz
  refine Met.ofW (cc := cc) (maxL := maxL) (ret := ret) hy hw ?_
  intro p e s m args below meth c s₁ B hml hv
  obtain ⟨rfl, rfl, hP, hK, hD0, hG⟩ := hv
  have hl := lv_entry av hlen
  rw [lg_entry_eq]
  exact body p e s m below meth c (va_A w s.heap.size) _ B.exec B.bytes hml B.returns (atoms_spec (ws := ws) B.pre) (findClass_of_methodNamed B.named) B.notSynchronized
    (fun q h => Or.inr h) hK hP (hD0.self (sz := s.heap.size)) va_S.rf hG hl
theorem pp_iret (hx : p.tables.exec = Jvm.exec) (hb : c.code = cc) (hr : meth.sig.returnType = some .int) (hlocks : meth.locks = false) {v v' : Int32} (hv : v = v') (hdg : decode cc pc = .ok (.ireturn, 1)) :
    W p l e R s m args below meth c s.heap [] cells slots (MQ below (pp_Q (some (.int v'))) args s cells slots (fun _ => False)) (F0 m pc ls [.int v]) := by
  subst hv
  exact W.iret hx hb hr (fun t ht hW => ⟨rfl, ht⟩) (fun q h => by cases h) hdg hlocks
theorem pp_zret (hx : p.tables.exec = Jvm.exec) (hb : c.code = cc) (hr : meth.sig.returnType = some .boolean) (hlocks : meth.locks = false) {v v' : Int32} (hv : v = v') (h01 : narrow .boolean (.int v') = .int v') (hdg : decode cc pc = .ok (.ireturn, 1)) :
    W p l e R s m args below meth c s.heap [] cells slots (MQ below (pp_Q (some (.int v'))) args s cells slots (fun _ => False)) (F0 m pc ls [.int v]) := by
  subst hv
  exact W.zret hx hb hr h01 (fun t ht hW => ⟨rfl, ht⟩) (fun q h => by cases h) hdg hlocks
theorem pp_lret (hx : p.tables.exec = Jvm.exec) (hb : c.code = cc) (hr : meth.sig.returnType = some .long) (hlocks : meth.locks = false) {v v' : Int64} (hv : v = v') (hdg : decode cc pc = .ok (.lreturn, 1)) :
    W p l e R s m args below meth c s.heap [] cells slots (MQ below (pp_Q (some (.long v'))) args s cells slots (fun _ => False)) (F0 m pc ls [.long v]) := by
  subst hv
  exact W.lret hx hb hr (fun t ht hW => ⟨rfl, ht⟩) (fun q h => by cases h) hdg hlocks
theorem pp_vret (hx : p.tables.exec = Jvm.exec) (hb : c.code = cc) (hr : meth.sig.returnType = none) (hlocks : meth.locks = false) (hdg : decode cc pc = .ok (.return_, 1)) :
    W p l e R s m args below meth c s.heap [] cells slots (MQ below (pp_Q none) args s cells slots (fun _ => False)) (F0 m pc ls []) :=
  W.vret hx hb hr (fun t ht hW => ⟨rfl, ht⟩) (fun q h => by cases h) hdg hlocks
theorem pp_call {a : Array Value} (hr : va_Run p l e R s m args below meth c H locs cells slots 0 0 (F0 m pc ls st0) rest (pp_Q ov a) (fun _ => False)) (h1 : ov.toList ++ rest = st1)
    (kk : W p l e R s m args below meth c H locs cells slots Q (F0 m (pc + 3) ls st1)) : W p l e R s m args below meth c H locs cells slots Q (F0 m pc ls st0) := by
  subst h1
  intro T hT X
  obtain ⟨v, st₀, t, T', L, h0, X', hL, e1, e2, ⟨hv, hh⟩, st⟩ := hr T hT X
  cases hv
  have hLn : L = [] := List.eq_nil_iff_forall_not_mem.mpr (fun q h => hL q h)
  subst hLn
  rw [List.append_nil] at X'
  obtain ⟨t2, a1, b1⟩ := kk T' (by rw [e1, hh, h0]) X'
  exact ⟨t2, st t2 a1, b1⟩
theorem pp_callV {y : MethodName} {bytes : ByteArray} {maxL nL n index : Nat} {ret : Option FieldType} {wsy : List Cond} {rm : Room} {Ts : List Cond} {own C : String} {b : Nat} {As : List Value} {T : u_T} {N ci q0 : Nat} {fs : List Value}
    (S : CallFix p m c cc nL s args Ts own) (hM : pp_Met l y wsy rm D cl tys G' (.ref b :: As) wc ov) (cw : CallW R s args own C index y bytes maxL ret wsy rm 0 0 n) (hG : pj_G G') (hg : G' A s) (hK : va_K D cl tys s) (hP : va_P D cl w H) (hD : va_D A w) (hS : va_S A s.heap H locs) (hA : ∀ q, s.heap.size ≤ q → A q)
    (hrc : cl[ci]? = some (C, T, N)) (hre : wc[q0]? = some (b, .inr (ci, fs))) (isC : List Nat) (hC : isC.map (fun i => w[i]?) = wc.map some) (hCn : va_nd isC = true)
    (hAs : As.length = n) (hls : ls.size = nL) (hst : st0 = As.reverse ++ .ref b :: rest) (hroom : (rest.map fun v => v.category).sum ≤ 8) (hdg : decode cc pc = .ok (.invokevirtual index, 3)) (hf : cells + 0 ≤ R.cells ∧ slots + 0 ≤ R.slots) (h1 : ov.toList ++ rest = st1)
    (kk : W p l e R s m args below meth c H locs cells slots Q (F0 m (pc + 3) ls st1)) : W p l e R s m args below meth c H locs cells slots Q (F0 m pc ls st0) := by
  have hPc := hP.sub isC (pj_fm hC)
  have hDc := hD.sub isC hCn hC
  have hpre := pj_pre (av := .ref b :: As) hG hg hK hPc hDc hS (va_free (wc := wc) hD hS hA isC hC)
  exact pp_call (va_runV (g := F0 m pc ls st0) (As := As) (rest := rest) S (hM H.size) cw ⟨hpre.1, va_recv hK hPc hrc hre, hpre.2⟩ rfl hAs hls hst (lv_room hroom) hdg hf) h1 kk
theorem pp_callS {y : MethodName} {bytes : ByteArray} {maxL nL n index : Nat} {ret : Option FieldType} {wsy : List Cond} {rm : Room} {Ts : List Cond} {own : String} {As : List Value}
    (S : CallFix p m c cc nL s args Ts own) (hM : pp_Met l y wsy rm D cl tys G' As wc ov) (cw : CallB R s args own index y bytes maxL ret wsy rm 0 0 n ∧ (Cond.static y).before args s = true) (hG : pj_G G') (hg : G' A s) (hK : va_K D cl tys s) (hP : va_P D cl w H) (hD : va_D A w) (hS : va_S A s.heap H locs) (hA : ∀ q, s.heap.size ≤ q → A q)
    (isC : List Nat) (hC : isC.map (fun i => w[i]?) = wc.map some) (hCn : va_nd isC = true)
    (hAs : As.length = n) (hls : ls.size = nL) (hst : st0 = As.reverse ++ rest) (hroom : (rest.map fun v => v.category).sum ≤ 8) (hdg : decode cc pc = .ok (.invokestatic index, 3)) (hf : cells + 0 ≤ R.cells ∧ slots + 0 ≤ R.slots) (h1 : ov.toList ++ rest = st1)
    (kk : W p l e R s m args below meth c H locs cells slots Q (F0 m (pc + 3) ls st1)) : W p l e R s m args below meth c H locs cells slots Q (F0 m pc ls st0) := by
  have hPc := hP.sub isC (pj_fm hC)
  have hDc := hD.sub isC hCn hC
  have hpre := pj_pre (av := As) hG hg hK hPc hDc hS (va_free (wc := wc) hD hS hA isC hC)
  exact pp_call (va_runS (g := F0 m pc ls st0) (As := As) (rest := rest) S (hM H.size) cw hpre rfl hAs hls hst (lv_room hroom) hdg hf) h1 kk
end PP
end
section
/-! THROWING: contracts of methods that throw (pt_Met), the walk with a note over the frame (pt_W), calls of such methods, the way out, the way into a handler -/
/-- a method's end by a throw -/
def pt_End (first : State) (o : Outcome) (t : State) (L : List Loc) (k n : Nat) : Prop :=
  (∃ x, o = .threw x) ∧ first.WarmedH t.vm ∧ first.sameButNew ({ t with vm := first.vm } : State) L k n
/-- the contract of a method that throws -/
def pt_Met (l : Launch) (y : MethodName) (ws : List Cond) (rm : Room) (Pc : Array Value → State → Prop) (Qc : Array Value → State → Outcome → State → Prop) (mc ms : Nat) (free : Addr → Prop) : Prop :=
  MetFree l y (headSpec ws rm) Pc (fun _ _ _ _ _ => True) (fun a st o t => Qc a st o t ∧ ∃ L, pt_End st o t L mc ms ∧ ∀ q ∈ L, free q.base)
def pt_MQ (below : List Frame) (Qc : Array Value → State → Outcome → State → Prop) (a : Array Value) (s : State) (mc ms : Nat) (free : Addr → Prop) : State → Prop := fun t =>
  ∃ o, t.status = .running ∧ Ended t below o ∧ Qc a s o t ∧ ∃ L, pt_End s o t L mc ms ∧ ∀ q ∈ L, free q.base
/-- what is said behind a throw: which class, and that every old cell is as it was -/
def pt_Q (X : String) : Array Value → State → Outcome → State → Prop := fun _ st oc t =>
  ∃ (x : Nat) (ce : Cell), oc = .threw x ∧ t.heap[x]? = some ce ∧ ce.vm.isStatics = false ∧ t.vm.findClass X = some ce.cls ∧ st.heap.size ≤ t.heap.size ∧ ∀ q : Nat, q < st.heap.size → t.heap[q]? = st.heap[q]?
/-- the contract of a method that throws an X, over a world -/
def pt_X (l : Launch) (y : MethodName) (ws : List Cond) (rm : Room) (D : va_G) (cl : List vw_C) (tys : List (ClassId × FieldType)) (G : (Nat → Prop) → State → Prop) (av : List Value) (w : va_W) (X : String) : Prop := ∀ sz : Nat,
  pt_Met l y ws rm (va_Pc av (pj_In D cl tys w G sz)) (pt_Q X) 1 6 (fun _ => False)
section PT
variable {p : Program} {l : Launch} {e : Env} {R : Room} {s : State} {m : MethodId} {args : Array Value} {below : List Frame} {meth : Method} {c : Code} {H : Heap} {locs : List Loc} {cells slots : Nat} {Q : State → Prop}
theorem pt_ofW {y : MethodName} {ws ws' : List Cond} {rm : Room} {Pc : Array Value → State → Prop} {Qc : Array Value → State → Outcome → State → Prop} {mc ms : Nat} {free : Addr → Prop} {cc : ByteArray} {maxL : Nat} {ret : Option FieldType}
    (hy : plainName y.cls = true) (hw : ws = Cond.code y cc maxL ret :: ws')
    (body : ∀ p e s m args below meth c s₁, BodyLoose p l y (headSpec ws rm) cc maxL ret e s m args below meth c s₁ → c.maxLocals = maxL → Pc args s →
      W p l e (headSpec ws rm).room s m args below meth c s.heap [] 0 0 (pt_MQ below Qc args s mc ms free) (entryFrame m args maxL)) : pt_Met l y ws rm Pc Qc mc ms free := by
  refine MetFree.of_bodyS (code := cc) (maxLocals := maxL) (ret := ret) hy ?_ ?_
  · intro args s m h hn
    obtain ⟨meth, c, h1, h2, h3, h4, h5, h6, -, -⟩ := Cond.code_spec hn (atoms_spec (ws := ws) h _ (by rw [hw]; exact List.mem_cons_self))
    exact ⟨meth, c, h1, h2, h3, h4, h5, h6⟩
  · intro p e s m args below meth c s₁ B hml hP _
    have hh0 : s₁.heap = s.heap := by rw [B.state]; rfl
    obtain ⟨t, a1, o, b1, b2, b3⟩ := body p e s m args below meth c s₁ B hml hP s₁ hh0 (Stand.of_body B)
    exact ⟨t, o, a1, b1, b2, ⟨b3.1, b3.2⟩⟩
/-- the walk's judgement with the note 'x is thrown' over the frame g -/
def pt_W (p : Program) (l : Launch) (e : Env) (R : Room) (s : State) (m : MethodId) (args : Array Value) (below : List Frame) (meth : Method) (c : Code) (H : Heap) (locs : List Loc) (cells slots : Nat) (Q : State → Prop) (g : JFrame) (x : Nat) : Prop :=
  ∀ T : State, T.heap = H → Stand p l e R s m args below meth c T locs cells slots → ∃ t, Steps p.tables e below ((T.setTop g).pushFrame (.throwing x)) t ∧ Q t
theorem pt_covers (h : c.exceptionTable.isEmpty = true) (pc : Nat) : ∀ y ∈ c.exceptionTable.toList, covers y pc = false := by
  intro y hy
  have h0 : c.exceptionTable.size = 0 := by simpa [Array.isEmpty] using h
  have h1 : c.exceptionTable.toList = [] := List.eq_nil_of_length_eq_zero (by simpa using h0)
  rw [h1] at hy
  cases hy
/-- out of the method -/
theorem pt_leave {Qc : Array Value → State → Outcome → State → Prop} {free : Addr → Prop} {x pc : Nat} {ls : Array Slot} {st : List Value}
    (hq : ∀ t : State, t.heap = H → s.WarmedH t.vm → Qc args s (.threw x) t) (hf : ∀ q ∈ locs, free q.base) (hno : c.exceptionTable.isEmpty = true) (hlocks : meth.locks = false) :
    pt_W p l e R s m args below meth c H locs cells slots (pt_MQ below Qc args s cells slots free) (F0 m pc ls st) x := by
  intro T hT X
  obtain ⟨h1, h2, h3, h4, h5⟩ := X.leaveThrown x (g := F0 m pc ls st) rfl rfl rfl (pt_covers hno pc) hlocks
  exact ⟨_, h1, .threw x, h2, h3, hq _ hT h4, locs, ⟨⟨x, rfl⟩, h4, h5⟩, hf⟩
theorem pt_go {y : MethodName} {ws : List Cond} {rm : Room} {Pc : Array Value → State → Prop} {Qc : Array Value → State → Outcome → State → Prop} {mc ms maxL len Wd : Nat} {free : Addr → Prop} {bytes : ByteArray} {ret : Option FieldType} {g : JFrame} {ig : Instr} {mk : MethodId} {a : Array Value} {U : State}
    (hM : pt_Met l y ws rm Pc Qc mc ms free) (hrc : rm.cells = mc) (hrs : rm.slots = ms) (hframes : rm.frames + 1 ≤ R.frames) (hlocals : Wd + (maxL + 11) + rm.locals ≤ R.locals)
    (X : Stand p l e R s m args below meth c U locs cells slots) (hws : ∀ w ∈ ws, w.before a U = true) (hcode : (Cond.code y bytes maxL ret).before a U = true) (hini : (Cond.initialized y.cls).before a U = true)
    (hc1 : cells + mc ≤ R.cells) (hs1 : slots + ms ≤ R.slots) (hg : g.method = m) (hsize : g.locals.size = c.maxLocals) (hdg : decode c.code g.pc = .ok (ig, len))
    (hW : 2 * g.monitorRoom + (g.stack.map fun v => v.category).sum ≤ Wd) (hn : U.methodNamed? y = some mk) (hP : Pc a (U.calling g mk a)) :
    ∃ (x : Nat) (t T' : State) (L : List Loc), Stand p l e R s m args below meth c T' (locs ++ L) (cells + mc) (slots + ms) ∧ (∀ q ∈ L, free q.base) ∧ T'.heap = t.heap ∧ T'.vm = t.vm ∧ Qc a (U.calling g mk a) (.threw x) t ∧
      Steps p.tables e below (doInvoke e (U.setTop g) [] mk a).1 ((T'.setTop g).pushFrame (.throwing x)) := by
  obtain ⟨methY, cY, hmY, hcY, -, hlY, -, -, -, -⟩ := Cond.code_spec hn hcode
  obtain ⟨kY, hkY, -⟩ := className_of_methodNamed hn
  have hinitY : kY.init = .initialized := Cond.initialized_spec (findClass_of_methodNamed hn) hkY hini
  have h : At U g.method c below := by rw [hg]; exact X.here
  have happ : (headSpec ws rm).appliesLoose y e.platform (U.calling g mk a) = true :=
    Spec.appliesLoose_calling (g := g) h hdg hn hkY hinitY
      (X.room_calling (g := g) (R' := rm) hsize hmY hcY hframes (by rw [hlY]; omega) (by rw [hrc]; exact hc1) (by rw [hrs]; exact hs1)) (atoms_intro hws)
  obtain ⟨mid, hmid⟩ := h.above
  have hfr : (U.setTop g).frames = (.java g :: mid) ++ below := by rw [State.frames_setTop' g h.top, hmid]; rfl
  obtain ⟨o, s₂, hsteps, -, hend, hq0⟩ := Steps.callFree hM p X.admits X.cas X.clock (acts := []) hfr happ hP trivial
  have hq : Qc a (U.calling g mk a) o s₂ ∧ ∃ L, pt_End (U.calling g mk a) o s₂ L mc ms ∧ ∀ q ∈ L, free q.base := hq0
  rw [State.frames_setTop' g h.top] at hend
  obtain ⟨hq1, L, ⟨⟨x, rfl⟩, hW₂, e2, q2, q3, q4, q5, q6⟩, hL⟩ := hq
  have e3 : s₂ = ({ (U.calling g mk a).setFrames s₂.frames with heap := s₂.heap, slotsUsed := s₂.slotsUsed } : State).setVm s₂.vm := by
    have h9 : s₂ = ({ s₂ with vm := (U.calling g mk a).vm } : State).setVm s₂.vm := rfl
    rw [e2] at h9
    exact h9
  have hf₂ : s₂.frames = .throwing x :: .java g :: U.frames.tail := hend
  have hW' : U.WarmedH s₂.vm := hW₂
  obtain ⟨g₀, hg0⟩ := Option.isSome_iff_exists.mp h.top
  obtain ⟨r, hr⟩ := State.topJava?_eq_some.mp hg0
  have hs₂ : s₂ = ((({ U with heap := s₂.heap, slotsUsed := s₂.slotsUsed } : State).setVm s₂.vm).setTop g).pushFrame (.throwing x) := by
    have hr' : (({ U with heap := s₂.heap, slotsUsed := s₂.slotsUsed } : State).setVm s₂.vm).frames = .java g₀ :: r := hr
    refine e3.trans ?_
    rw [hf₂, State.calling_eq h.top, State.setFrames_setFrames, State.pushFrame, State.frames_setTop _ hr', State.setTop_of_frames _ hr', State.setFrames_setFrames, hr]
    rfl
  have hsame : U.sameButNew ({ U with heap := s₂.heap, slotsUsed := s₂.slotsUsed } : State) L mc ms := by
    refine ⟨?_, q2, q3, q4, q5, q6⟩
    obtain ⟨t, ht, -⟩ := State.frames_cons hr
    show ({ U with heap := s₂.heap, slotsUsed := s₂.slotsUsed } : State) = { U.setFrames U.frames with heap := s₂.heap, slotsUsed := s₂.slotsUsed }
    rw [State.setFrames_self ht]
  subst hg
  refine ⟨x, s₂, (({ U with heap := s₂.heap, slotsUsed := s₂.slotsUsed } : State).setVm s₂.vm), L,
    ⟨X.admits, X.cas, X.clock, X.frames, X.room, X.hears, X.method, X.code, (X.here.setHeapUsed s₂.heap s₂.slotsUsed).setVm hW'.alike, X.tail, State.WarmedH.trans X.warmed hW', X.limits, X.bytes, X.same.trans (hsame.setVm s.vm)⟩,
    hL, rfl, rfl, hq1, ?_⟩
  rw [← hs₂]
  exact hsteps
/-- a call that throws -/
def pt_Run (p : Program) (l : Launch) (e : Env) (R : Room) (s : State) (m : MethodId) (args : Array Value) (below : List Frame) (meth : Method) (c : Code) (H : Heap) (locs : List Loc) (cells slots mc ms : Nat) (g : JFrame) (rest : List Value) (Qa : State → Outcome → State → Prop) (free : Addr → Prop) : Prop :=
  ∀ T : State, T.heap = H → Stand p l e R s m args below meth c T locs cells slots → ∃ (x : Nat) (st₀ t T' : State) (L : List Loc), st₀.heap = H ∧ Stand p l e R s m args below meth c T' (locs ++ L) (cells + mc) (slots + ms) ∧ (∀ q ∈ L, free q.base) ∧ T'.heap = t.heap ∧ T'.vm = t.vm ∧ Qa st₀ (.threw x) t ∧
    ∀ tg, Steps p.tables e below ((T'.setTop { g with stack := rest }).pushFrame (.throwing x)) tg → Steps p.tables e below (T.setTop g) tg
variable {y : MethodName} {bytes cc : ByteArray} {maxL nL mc ms n index : Nat} {ret : Option FieldType} {ws : List Cond} {rm : Room} {Pc : Array Value → State → Prop} {Qc : Array Value → State → Outcome → State → Prop} {free : Addr → Prop} {Ts : List Cond} {own C : String} {b : Addr} {As rest : List Value} {g : JFrame}
theorem pt_runV (S : CallFix p m c cc nL s args Ts own) (hM : pt_Met l y ws rm Pc Qc mc ms free) (cw : CallW R s args own C index y bytes maxL ret ws rm mc ms n) (hp : PreV s H C b Pc As)
    (hg : g.method = m) (hn : As.length = n) (hsize : g.locals.size = nL) (hstack : g.stack = As.reverse ++ .ref b :: rest) (hW : 2 * g.monitorRoom + (rest.map fun v => v.category).sum ≤ 8) (hdg : decode cc g.pc = .ok (.invokevirtual index, 3)) (hf : cells + mc ≤ R.cells ∧ slots + ms ≤ R.slots) :
    pt_Run p l e R s m args below meth c H locs cells slots mc ms g rest (Qc (Value.ref b :: As).toArray) free := by
  obtain ⟨⟨hrc, hrs, hfr, hlo, hws, hcw, hcode, hini, hy, hlen, hl⟩, hin, hse⟩ := cw
  obtain ⟨hx, hb, hml, ho, -⟩ := S
  obtain ⟨hbl, ⟨cellB, hcB, hoB, hclB⟩, hPc⟩ := hp
  intro T hT X
  obtain ⟨mk, methM, hnamed, hmethM, hstM, habM⟩ := Cond.instanceMethod_spec hin
  obtain ⟨methM', cM, hmethM', -, -, -, -, -, -, hsigM⟩ := Cond.code_spec hnamed hcode
  cases hmethM.symm.trans hmethM'
  obtain ⟨c2, r2, m2, q1, q2, q3, q4, kP, hkP, hkPi⟩ := Cond.selects_spec hse
  cases hclB.symm.trans q1
  cases (State.methodFound?_of_named hnamed hy).symm.trans q2
  cases hnamed.symm.trans q3
  have hselP : selectMethod e.platform s.vm cellB.cls mk = .method mk := by rw [Launch.admits_selectMethod X.admits]; exact q4
  obtain ⟨vm₁, X₁, hstep₁⟩ := X.invokevirtual hx ho hl hnamed hmethM hstM hkP hkPi hy (a := b) (cell := cellB) (by rw [hT]; exact hcB)
    (fun z h => by rw [h] at hoB; cases hoB) hselP hmethM habM hkP hkPi (g := g) hg (argsL := As) (rest := rest) (hn.trans (hlen _ hsigM)) hstack (by rw [hb]; exact hdg)
  obtain ⟨x, t, T', L, X', hL, e1, e2, hq, st⟩ := pt_go (g := { g with stack := rest }) (ig := .invokevirtual index) (len := 3) (Wd := 8) (bytes := bytes) (maxL := maxL) (ret := ret) (a := (Value.ref b :: As).toArray) hM hrc hrs hfr hlo X₁ (fun w hw => hws w hw _ _ X₁.warmed) (hws _ hcw _ _ X₁.warmed)
    (word_at X₁.warmed (Or.inl (by first | rfl | simp [Cond.onTables, Cond.keeps, Cond.steady])) hini) hf.1 hf.2 hg (hsize.trans hml.symm) (by rw [hb]; exact hdg) hW (X₁.named hnamed) (hbl _ _ _ _ (hPc (T.setVm vm₁) hT X₁.warmed))
  exact ⟨x, (T.setVm vm₁).calling { g with stack := rest } mk (Value.ref b :: As).toArray, t, T', L, hT, X', hL, e1, e2, hq, fun tg h => hstep₁ _ fun acts => by rw [doInvoke_state]; exact st.trans h⟩
theorem pt_runS (S : CallFix p m c cc nL s args Ts own) (hM : pt_Met l y ws rm Pc Qc mc ms free) (cw : CallB R s args own index y bytes maxL ret ws rm mc ms n ∧ (Cond.static y).before args s = true) (hp : PreS s H Pc As)
    (hg : g.method = m) (hn : As.length = n) (hsize : g.locals.size = nL) (hstack : g.stack = As.reverse ++ rest) (hW : 2 * g.monitorRoom + (rest.map fun v => v.category).sum ≤ 8) (hdg : decode cc g.pc = .ok (.invokestatic index, 3)) (hf : cells + mc ≤ R.cells ∧ slots + ms ≤ R.slots) :
    pt_Run p l e R s m args below meth c H locs cells slots mc ms g rest (Qc As.toArray) free := by
  obtain ⟨⟨hrc, hrs, hfr, hlo, hws, hcw, hcode, hini, hy, hlen, hl⟩, hstt⟩ := cw
  obtain ⟨hx, hb, hml, ho, -⟩ := S
  obtain ⟨hbl, hPc⟩ := hp
  intro T hT X
  obtain ⟨mk, hnamed⟩ := Cond.code_named hcode
  obtain ⟨methM, cM, hmethM, -, -, -, -, -, -, hsigM⟩ := Cond.code_spec hnamed hcode
  have hstatic : methM.isStatic = true := Cond.static_spec hnamed hmethM hstt
  obtain ⟨kP, hkP, -⟩ := className_of_methodNamed hnamed
  have hinitP : kP.init = .initialized := Cond.initialized_spec (findClass_of_methodNamed hnamed) hkP hini
  obtain ⟨vm₁, X₁, hstep₁⟩ := X.invokestatic hx ho hl hnamed hmethM hstatic hkP hinitP hy (g := g) hg (argsL := As) (rest := rest) (hn.trans (hlen _ hsigM)) hstack (by rw [hb]; exact hdg)
  obtain ⟨x, t, T', L, X', hL, e1, e2, hq, st⟩ := pt_go (g := { g with stack := rest }) (ig := .invokestatic index) (len := 3) (Wd := 8) (bytes := bytes) (maxL := maxL) (ret := ret) (a := As.toArray) hM hrc hrs hfr hlo X₁ (fun w hw => hws w hw _ _ X₁.warmed) (hws _ hcw _ _ X₁.warmed)
    (word_at X₁.warmed (Or.inl (by first | rfl | simp [Cond.onTables, Cond.keeps, Cond.steady])) hini) hf.1 hf.2 hg (hsize.trans hml.symm) (by rw [hb]; exact hdg) hW (X₁.named hnamed) (hbl _ _ _ _ (hPc (T.setVm vm₁) hT X₁.warmed))
  exact ⟨x, (T.setVm vm₁).calling { g with stack := rest } mk As.toArray, t, T', L, hT, X', hL, e1, e2, hq, fun tg h => hstep₁ _ fun acts => by rw [doInvoke_state]; exact st.trans h⟩
end PT
section PTC
variable {p : Program} {l : Launch} {e : Env} {R : Room} {s : State} {m : MethodId} {args : Array Value} {below : List Frame} {meth : Method} {c : Code} {H : Heap} {locs : List Loc} {cells slots : Nat} {Q : State → Prop}
variable {D : va_G} {cl : List vw_C} {tys : List (ClassId × FieldType)} {w wc : va_W} {A : Nat → Prop} {pc : Nat} {ls : Array Slot} {rest st0 : List Value} {cc : ByteArray} {G G' : (Nat → Prop) → State → Prop} {X : String}
theorem pt_of {y : MethodName} {ws ws' : List Cond} {rm : Room} {av : List Value} {maxL : Nat} {ret : Option FieldType}
    (hy : plainName y.cls = true) (hw : ws = Cond.code y cc maxL ret :: ws') (hlen : (lg_sl av).length ≤ maxL)
    (body : ∀ p e s m below meth c (A : Nat → Prop) (ls : Array Slot), p.tables.exec = Jvm.exec → c.code = cc → c.maxLocals = maxL → c.exceptionTable.isEmpty = true → (∀ q ∈ ws, q.before av.toArray s = true) → s.vm.findClass y.cls = some m.cls → meth.locks = false →
      (∀ q : Nat, s.heap.size ≤ q → A q) → va_K D cl tys s → va_P D cl w s.heap → va_D A w → va_S A s.heap s.heap [] → G A s → lv_has ls maxL (lv_args 0 av) →
      W p l e rm s m av.toArray below meth c s.heap [] 0 0 (pt_MQ below (pt_Q X) av.toArray s 1 6 (fun _ => False)) (F0 m 0 ls [])) : pt_X l y ws rm D cl tys G av w X := by
  intro sz
  refine pt_ofW (cc := cc) (maxL := maxL) (ret := ret) hy hw ?_
  intro p e s m args below meth c s₁ B hml hv
  obtain ⟨rfl, rfl, hP, hK, hD0, hG⟩ := hv
  have hl := lv_entry av hlen
  have hno := B.noHandlers (atoms_spec (ws := ws) B.pre _ (by rw [hw]; exact List.mem_cons_self))
  rw [lg_entry_eq]
  exact body p e s m below meth c (va_A w s.heap.size) _ B.exec B.bytes hml hno (atoms_spec (ws := ws) B.pre) (findClass_of_methodNamed B.named) B.notSynchronized
    (fun q h => Or.inr h) hK hP (hD0.self (sz := s.heap.size)) va_S.rf hG hl
/-- behind a call that threw: the note lies over the frame; every cell is as it was -/
theorem pt_call {a : Array Value} (hr : pt_Run p l e R s m args below meth c H locs cells slots 1 6 (F0 m pc ls st0) rest (pt_Q X a) (fun _ => False))
    (kk : ∀ (x : Nat) (ce : Cell) (H1 : Heap), H1[x]? = some ce → ce.vm.isStatics = false → s.vm.findClass X = some ce.cls → H.size ≤ H1.size → (∀ q : Nat, q < H.size → H1[q]? = H[q]?) →
      pt_W p l e R s m args below meth c H1 locs (cells + 1) (slots + 6) Q (F0 m pc ls rest) x) : W p l e R s m args below meth c H locs cells slots Q (F0 m pc ls st0) := by
  intro T hT Xs
  obtain ⟨x, st₀, t, T', L, h0, X', hL, e1, e2, ⟨x', ce, hx', hce, hst, hfc, hz, hk⟩, st⟩ := hr T hT Xs
  cases hx'
  have hal : s.vm.Alike t.vm := by rw [← e2]; exact X'.warmed.alike
  have hLn : L = [] := List.eq_nil_iff_forall_not_mem.mpr (fun q h => hL q h)
  subst hLn
  rw [List.append_nil] at X'
  rw [h0] at hz hk
  obtain ⟨t2, a1, b1⟩ := kk x ce t.heap hce hst (by rw [← hal.findClass]; exact hfc) hz hk T' e1 X'
  exact ⟨t2, st t2 a1, b1⟩
theorem pt_callV {y : MethodName} {bytes : ByteArray} {maxL nL n index : Nat} {ret : Option FieldType} {wsy : List Cond} {rm : Room} {Ts : List Cond} {own C : String} {b : Nat} {As : List Value} {T : u_T} {N ci q0 : Nat} {fs : List Value}
    (S : CallFix p m c cc nL s args Ts own) (hM : pt_X l y wsy rm D cl tys G' (.ref b :: As) wc X) (cw : CallW R s args own C index y bytes maxL ret wsy rm 1 6 n) (hG : pj_G G') (hg : G' A s) (hK : va_K D cl tys s) (hP : va_P D cl w H) (hD : va_D A w) (hS : va_S A s.heap H locs) (hA : ∀ q, s.heap.size ≤ q → A q)
    (hrc : cl[ci]? = some (C, T, N)) (hre : wc[q0]? = some (b, .inr (ci, fs))) (isC : List Nat) (hC : isC.map (fun i => w[i]?) = wc.map some) (hCn : va_nd isC = true)
    (hAs : As.length = n) (hls : ls.size = nL) (hst : st0 = As.reverse ++ .ref b :: rest) (hroom : (rest.map fun v => v.category).sum ≤ 8) (hdg : decode cc pc = .ok (.invokevirtual index, 3)) (hf : cells + 1 ≤ R.cells ∧ slots + 6 ≤ R.slots)
    (kk : ∀ (x : Nat) (ce : Cell) (H1 : Heap), H1[x]? = some ce → ce.vm.isStatics = false → s.vm.findClass X = some ce.cls → H.size ≤ H1.size → (∀ q : Nat, q < H.size → H1[q]? = H[q]?) →
      pt_W p l e R s m args below meth c H1 locs (cells + 1) (slots + 6) Q (F0 m pc ls rest) x) : W p l e R s m args below meth c H locs cells slots Q (F0 m pc ls st0) := by
  have hPc := hP.sub isC (pj_fm hC)
  have hDc := hD.sub isC hCn hC
  have hpre := pj_pre (av := .ref b :: As) hG hg hK hPc hDc hS (va_free (wc := wc) hD hS hA isC hC)
  exact pt_call (pt_runV (g := F0 m pc ls st0) (As := As) (rest := rest) S (hM H.size) cw ⟨hpre.1, va_recv hK hPc hrc hre, hpre.2⟩ rfl hAs hls hst (lv_room hroom) hdg hf) kk
theorem pt_callS {y : MethodName} {bytes : ByteArray} {maxL nL n index : Nat} {ret : Option FieldType} {wsy : List Cond} {rm : Room} {Ts : List Cond} {own : String} {As : List Value}
    (S : CallFix p m c cc nL s args Ts own) (hM : pt_X l y wsy rm D cl tys G' As wc X) (cw : CallB R s args own index y bytes maxL ret wsy rm 1 6 n ∧ (Cond.static y).before args s = true) (hG : pj_G G') (hg : G' A s) (hK : va_K D cl tys s) (hP : va_P D cl w H) (hD : va_D A w) (hS : va_S A s.heap H locs) (hA : ∀ q, s.heap.size ≤ q → A q)
    (isC : List Nat) (hC : isC.map (fun i => w[i]?) = wc.map some) (hCn : va_nd isC = true)
    (hAs : As.length = n) (hls : ls.size = nL) (hst : st0 = As.reverse ++ rest) (hroom : (rest.map fun v => v.category).sum ≤ 8) (hdg : decode cc pc = .ok (.invokestatic index, 3)) (hf : cells + 1 ≤ R.cells ∧ slots + 6 ≤ R.slots)
    (kk : ∀ (x : Nat) (ce : Cell) (H1 : Heap), H1[x]? = some ce → ce.vm.isStatics = false → s.vm.findClass X = some ce.cls → H.size ≤ H1.size → (∀ q : Nat, q < H.size → H1[q]? = H[q]?) →
      pt_W p l e R s m args below meth c H1 locs (cells + 1) (slots + 6) Q (F0 m pc ls rest) x) : W p l e R s m args below meth c H locs cells slots Q (F0 m pc ls st0) := by
  have hPc := hP.sub isC (pj_fm hC)
  have hDc := hD.sub isC hCn hC
  have hpre := pj_pre (av := As) hG hg hK hPc hDc hS (va_free (wc := wc) hD hS hA isC hC)
  exact pt_call (pt_runS (g := F0 m pc ls st0) (As := As) (rest := rest) S (hM H.size) cw hpre rfl hAs hls hst (lv_room hroom) hdg hf) kk
/-- the throw goes on through a method that has changed nothing -/
theorem pt_out {x : Nat} {ce : Cell} {H1 : Heap} (h1 : H1[x]? = some ce) (h2 : ce.vm.isStatics = false) (h3 : s.vm.findClass X = some ce.cls) (h4 : s.heap.size ≤ H1.size) (h5 : ∀ q : Nat, q < s.heap.size → H1[q]? = s.heap[q]?) (hno : c.exceptionTable.isEmpty = true) (hlocks : meth.locks = false) :
    pt_W p l e R s m args below meth c H1 [] cells slots (pt_MQ below (pt_Q X) args s cells slots (fun _ => False)) (F0 m pc ls rest) x :=
  pt_leave (fun t ht hW => ⟨x, ce, rfl, by rw [ht]; exact h1, h2, by rw [hW.alike.findClass]; exact h3, by rw [ht]; exact h4, fun q hq => by rw [ht]; exact h5 q hq⟩) (fun q h => by cases h) hno hlocks
/-- new X; dup; ldc text; invokespecial X.<init>(String); athrow, in a method that has changed nothing -/
theorem pt_throw {own tx : String} {names : List String} {ia is ic q nL : Nat} (hx : p.tables.exec = Jvm.exec) (hb : c.code = cc) (hml : c.maxLocals = nL) (hls : ls.size = nL) (htr : l.stackTraces = false) (hown : s.vm.findClass own = some m.cls) (hcls : Bundle.fit X = true) (hnames : ∀ n ∈ names, Bundle.fit n = true)
    (hat : ∀ a ∈ Bundle.ownAtoms own ic X names, a.before args s = true) (hlink : (Cond.classLink own ia X).before args s = true) (hini : (Cond.initialized X).before args s = true) (hZ : vk_R own is tx q s)
    (hd0 : decode cc pc = .ok (.new ia, 3)) (hd3 : decode cc (pc + 3) = .ok (.dup, 1)) (hd4 : decode cc (pc + 3 + 1) = .ok (.ldc is, 2)) (hd6 : decode cc (pc + 3 + 1 + 2) = .ok (.invokespecial ic, 3)) (hd9 : decode cc (pc + 3 + 1 + 2 + 3) = .ok (.athrow, 1))
    (hno : c.exceptionTable.isEmpty = true) (hlocks : meth.locks = false) (hfr : names.length + 3 < R.frames) (hlo : 1 + (13 * (names.length + 1) + 42) ≤ R.locals) (hc : cells + 1 ≤ R.cells) (hs : slots + 6 ≤ R.slots) :
    W p l e R s m args below meth c s.heap [] cells slots (pt_MQ below (pt_Q X) args s (cells + 1) (slots + 6) (fun _ => False)) (F0 m pc ls []) := by
  have hinst : (Cond.instantiable X 6).before args s = true := hat _ (by simp [Bundle.ownAtoms])
  refine W.newc (C := X) (n := 6) hx hb hown hlink hinst hini rfl hd0 hc hs (fun cX kX hfX hkX hkind hsz => ?_)
  refine W.eq (g2 := F0 m (pc + 3) ls [.ref s.heap.size]) rfl ?_
  refine lv_dup hx hb hd3 rfl ?_
  refine va_ldcS hx hb hown hZ hd4 ?_
  intro T hT Xs
  have htr' : e.platform.stackTraces = false := by rw [Xs.admits.platform]; exact htr
  have hcell : T.heap[s.heap.size]? = some (freshCell cX kX) := by rw [hT]; simp [freshCell]
  subst hb
  obtain ⟨U, hsteps, hrun, hend, hW, hsame, ce, hce, K⟩ := Xs.ctorThrowS hx htr' (own := own) (cls := X) (names := names) (ic := ic) hown hcls hnames hat (fun y hy => by cases hy) hfX hkX hcell (Nat.le_refl _) (msg := .ref q) rfl
    (g := F0 m (pc + 3 + 1 + 2) ls [.ref q, .ref s.heap.size, .ref s.heap.size]) rfl (hls.trans hml.symm) rfl rfl (rest := []) rfl hd6 hd9 (pt_covers hno _) hfr (by simpa [Value.category] using hlo) hlocks
  refine ⟨U, hsteps, .threw s.heap.size, hrun, hend, ⟨s.heap.size, ce, rfl, hce, by rw [K.vm]; rfl, by rw [hW.alike.findClass]; exact K.cls, ?_, ?_⟩, [], ⟨⟨_, rfl⟩, hW, hsame⟩, fun q h => by cases h⟩
  · have h5 := (Array.getElem?_eq_some_iff.mp hce).1
    omega
  · intro q hq
    obtain ⟨c', h1, h2, h3, h4⟩ := hsame.2.2.2.2.2 q s.heap[q] (Array.getElem?_eq_getElem hq)
    have h5 : c'.slots = s.heap[q].slots := Array.ext_getElem? (fun i => h4 i (by simp))
    rw [h5] at h2
    have h6 : U.heap[q]? = some c' := h1
    rw [h6, Array.getElem?_eq_getElem hq, h2]
end PTC
end
section
/-! NUMBERS AND PURE WORDS of the class -/
abbrev pjT (cI cJ cZ : ClassId) : List (ClassId × FieldType) := [(cI, .int), (cJ, .long), (cZ, .boolean)]
/-- there is an account x among n -/
abbrev pjH (n : Nat) (x : Int32) : Prop := ¬ x < 0 ∧ ¬ nI n ≤ x
theorem pjH_in {n : Nat} {x : Int32} (hn : n < 2 ^ 31) (h : pjH n x) : vp_in x n := by
  rw [vp_in_iff]
  obtain ⟨h1, h2⟩ := h
  rw [Int32.lt_iff_toInt_lt, Int32.toInt_zero] at h1
  rw [Int32.le_iff_toInt_le, nI_toInt hn] at h2
  omega
/-- an account would have less than 0 -/
abbrev pjO (n : Nat) (f : Nat → Int64) (a b : Int32) (v : Int64) : Prop := (pjH n a ∧ f a.toNatClampNeg - v < 0) ∨ (pjH n b ∧ f b.toNatClampNeg + v < 0)
def pj1 (n : Nat) (f : Nat → Int64) (a : Int32) (v : Int64) : Nat → Int64 := if pjH n a then vp_updL f a.toNatClampNeg (f a.toNatClampNeg + v) else f
def pj1c (n : Nat) (g : Nat → Int32) (a : Int32) : Nat → Int32 := if pjH n a then upd g a.toNatClampNeg (g a.toNatClampNeg + 1) else g
def pj2 (n : Nat) (f : Nat → Int64) (a b : Int32) (v : Int64) : Nat → Int64 := pj1 n (pj1 n f a (-v)) b v
def pj2c (n : Nat) (g : Nat → Int32) (a b : Int32) : Nat → Int32 := pj1c n (pj1c n g a) b
/-- the first i places from g, the others from f -/
def pjC {α : Type} (i : Nat) (g f : Nat → α) : Nat → α := fun j => if j < i then g j else f j
theorem pjC_0 {α : Type} (g f : Nat → α) : pjC 0 g f = f := by funext j; simp [pjC]
theorem pjC_sL (i : Nat) (g f : Nat → Int64) : vp_updL (pjC i g f) i (g i) = pjC (i + 1) g f := by
  funext j
  simp only [vp_updL, pjC]
  by_cases h : j = i
  · subst h; simp
  · by_cases h2 : j < i
    · rw [if_neg h, if_pos h2, if_pos (by omega)]
    · rw [if_neg h, if_neg h2, if_neg (by omega)]
theorem pjC_sI (i : Nat) (g f : Nat → Int32) : upd (pjC i g f) i (g i) = pjC (i + 1) g f := by
  funext j
  simp only [upd, pjC]
  by_cases h : j = i
  · subst h; simp
  · by_cases h2 : j < i
    · rw [if_neg h, if_pos h2, if_pos (by omega)]
    · rw [if_neg h, if_neg h2, if_neg (by omega)]
/-- the places from a up to i are 1 -/
def pjF (a i : Nat) (z : Nat → Int32) : Nat → Int32 := fun j => if a ≤ j ∧ j < i then 1 else z j
theorem pjF_0 (a : Nat) (z : Nat → Int32) : pjF a a z = z := by funext j; simp only [pjF]; rw [if_neg (by omega)]
theorem pjF_s {a i : Nat} (h : a ≤ i) (z : Nat → Int32) : upd (pjF a i z) i 1 = pjF a (i + 1) z := by
  funext j
  simp only [upd, pjF]
  by_cases h1 : j = i
  · subst h1; rw [if_pos rfl, if_pos ⟨h, by omega⟩]
  · by_cases h2 : a ≤ j ∧ j < i
    · rw [if_neg h1, if_pos h2, if_pos (by omega)]
    · rw [if_neg h1, if_neg h2, if_neg (by omega)]
/-- k changes from the place i on, one after the other, until one would leave less than 0 -/
def pjTry (n : Nat) (fr to : Nat → Int32) (va : Nat → Int64) : Nat → Nat → (Nat → Int64) → (Nat → Int32) → Bool × (Nat → Int64) × (Nat → Int32)
  | 0, _, f, g => (true, f, g)
  | k + 1, i, f, g => if pjO n f (fr i) (to i) (va i) then (false, f, g) else pjTry n fr to va k (i + 1) (pj2 n f (fr i) (to i) (va i)) (pj2c n g (fr i) (to i))
/-- k blocks from the place i on: the firm ones happen -/
def pjRep (n : Nat) (fr to : Nat → Int32) (va : Nat → Int64) (fi : Nat → Int32) : Nat → Nat → Nat → (Nat → Int64) → (Nat → Int32) → Nat × (Nat → Int64) × (Nat → Int32)
  | 0, _, h, f, g => (h, f, g)
  | k + 1, i, h, f, g => if fi i = 0 then pjRep n fr to va fi k (i + 1) h f g else pjRep n fr to va fi k (i + 1) (h + 1) (pj2 n f (fr i) (to i) (va i)) (pj2c n g (fr i) (to i))
/-- what is left behind a block -/
def pjL (x : Int32) : Int32 := if 0 < x then x - 1 else x
/-- k blocks are written, unless the power fails: how many, written, left -/
def pjB : Nat → Nat → Int32 → Int32 → Nat × Int32 × Int32
  | 0, d, w, x => (d, w, x)
  | k + 1, d, w, x => if x = 0 then (d, w, x) else pjB k (d + 1) (w + 1) (pjL x)
theorem pj_max0 {k : Nat} (hk : k < 2 ^ 31) : (if (0 : Int32) < nI k then nI k else 0) = nI k := by
  by_cases h : k = 0
  · subst h; rw [nI_0]; rfl
  · rw [if_pos]
    rw [Int32.lt_iff_toInt_lt, nI_toInt hk, Int32.toInt_zero]
    omega
theorem pj_ne1 {k : Nat} (hk : k < 2 ^ 31) : ¬ nI k = -1 := by
  intro h
  have h1 := congrArg Int32.toInt h
  rw [nI_toInt hk] at h1
  have h2 : (-1 : Int32).toInt = -1 := by decide
  omega
theorem pjB_le (k : Nat) : ∀ (d : Nat) (w x : Int32), (pjB k d w x).1 ≤ d + k := by
  induction k with
  | zero => intro d w x; exact Nat.le_refl _
  | succ k ih =>
    intro d w x
    rw [pjB]
    by_cases h : x = 0
    · rw [if_pos h]; exact Nat.le_add_right _ _
    · rw [if_neg h]; have := ih (d + 1) (w + 1) (pjL x); omega
/-- the blocks of a snapshot -/
def pjN (n : Nat) : Nat := (n + 15) / 16 + 1
/-- a truth value -/
def pjd (x : Int32) : Int32 := if x = 0 then 1 else 0
theorem pjd_1 {x : Int32} (h : x = 0) : pjd x = 1 := if_pos h
theorem pjd_0 {x : Int32} (h : ¬ x = 0) : pjd x = 0 := if_neg h
theorem pjd_n {x : Int32} : narrow .boolean (.int (pjd x)) = .int (pjd x) := by
  unfold pjd; split <;> decide
/-- the reference's question before a change -/
abbrev pmO (f : Nat → Int64) (a b : Int32) (v : Int64) : Prop := (a < 0 ∧ f b.toNatClampNeg + v < 0) ∨ (¬ a < 0 ∧ f a.toNatClampNeg - v < 0)
theorem pjH_64 {n : Nat} {x : Int32} (hn : n ≤ 64) (h : pjH n x) : vp_in x 64 := by
  have h1 := vp_in_iff.mp (pjH_in (by omega) h)
  rw [vp_in_iff]
  omega
theorem pj2_neg {n : Nat} {f : Nat → Int64} {a b : Int32} {v : Int64} (ha : a < 0) (hb : pjH n b) : pj2 n f a b v = vp_updL f b.toNatClampNeg (f b.toNatClampNeg + v) := by
  rw [pj2, pj1, pj1, if_pos hb, if_neg (fun h => h.1 ha)]
theorem pj2c_neg {n : Nat} {f : Nat → Int32} {a b : Int32} (ha : a < 0) (hb : pjH n b) : pj2c n f a b = upd f b.toNatClampNeg (f b.toNatClampNeg + 1) := by
  rw [pj2c, pj1c, pj1c, if_pos hb, if_neg (fun h => h.1 ha)]
theorem pj2_pos {n : Nat} {f : Nat → Int64} {a b : Int32} {v : Int64} (ha : pjH n a) (hb : pjH n b) : pj2 n f a b v = vp_updL (vp_updL f a.toNatClampNeg (f a.toNatClampNeg - v)) b.toNatClampNeg (vp_updL f a.toNatClampNeg (f a.toNatClampNeg - v) b.toNatClampNeg + v) := by
  rw [pj2, pj1, pj1, if_pos hb, if_pos ha, Int64.sub_eq_add_neg]
theorem pj2c_pos {n : Nat} {f : Nat → Int32} {a b : Int32} (ha : pjH n a) (hb : pjH n b) : pj2c n f a b = upd (upd f a.toNatClampNeg (f a.toNatClampNeg + 1)) b.toNatClampNeg (upd f a.toNatClampNeg (f a.toNatClampNeg + 1) b.toNatClampNeg + 1) := by
  rw [pj2c, pj1c, pj1c, if_pos hb, if_pos ha]
/-- k changes from the place i on, all of them -/
def pmApp (n : Nat) (fr to : Nat → Int32) (va : Nat → Int64) : Nat → Nat → (Nat → Int64) → (Nat → Int32) → (Nat → Int64) × (Nat → Int32)
  | 0, _, f, g => (f, g)
  | k + 1, i, f, g => pmApp n fr to va k (i + 1) (pj2 n f (fr i) (to i) (va i)) (pj2c n g (fr i) (to i))
/-- the reference's trial: k changes from the place i on -/
def pmT (t : Nat → Int64) (a b : Int32) (v : Int64) : Nat → Int64 := if a < 0 then vp_updL t b.toNatClampNeg (t b.toNatClampNeg + v) else vp_updL (vp_updL t a.toNatClampNeg (t a.toNatClampNeg - v)) b.toNatClampNeg (vp_updL t a.toNatClampNeg (t a.toNatClampNeg - v) b.toNatClampNeg + v)
/-- one change is paid for -/
def pmOk (t : Nat → Int64) (a b : Int32) (v : Int64) : Prop := if a < 0 then ¬ t b.toNatClampNeg + v < 0 else ¬ t a.toNatClampNeg - v < 0
def pmR (fr to : Nat → Int32) (va : Nat → Int64) : Nat → Nat → Prop → (Nat → Int64) → Prop × (Nat → Int64)
  | 0, _, r, t => (r, t)
  | k + 1, i, r, t => pmR fr to va k (i + 1) (r ∧ pmOk t (fr i) (to i) (va i)) (pmT t (fr i) (to i) (va i))
end
section
def TA : u_T := fun k => match k with
  | 0 => ("ReplayJournal$Accounts", "amounts", "[J", true)
  | _ => ("ReplayJournal$Accounts", "changed", "[I", true)
def tyA : Nat → FieldType := fun k => match k with
  | 0 => .array .long
  | _ => .array .int
theorem nmA : ∀ a, a < 2 → ∀ b, b < 2 → a ≠ b → (TA a).2.1 ≠ (TA b).2.1 := by decide +kernel
theorem tyA_ok : ∀ k, k < 2 → parseFieldDescriptor (TA k).2.2.1 = some (tyA k) := by decide +kernel
def TD : u_T := fun k => match k with
  | 0 => ("ReplayJournal$Disk", "written", "I", false)
  | _ => ("ReplayJournal$Disk", "left", "I", false)
def tyD : Nat → FieldType := fun k => match k with
  | 0 => .int
  | _ => .int
theorem nmD : ∀ a, a < 2 → ∀ b, b < 2 → a ≠ b → (TD a).2.1 ≠ (TD b).2.1 := by decide +kernel
theorem tyD_ok : ∀ k, k < 2 → parseFieldDescriptor (TD k).2.2.1 = some (tyD k) := by decide +kernel
def TJ : u_T := fun k => match k with
  | 0 => ("ReplayJournal$Journal", "froms", "[I", true)
  | 1 => ("ReplayJournal$Journal", "tos", "[I", true)
  | 2 => ("ReplayJournal$Journal", "values", "[J", true)
  | 3 => ("ReplayJournal$Journal", "firm", "[Z", true)
  | _ => ("ReplayJournal$Journal", "used", "I", false)
def tyJ : Nat → FieldType := fun k => match k with
  | 0 => .array .int
  | 1 => .array .int
  | 2 => .array .long
  | 3 => .array .boolean
  | _ => .int
theorem nmJ : ∀ a, a < 5 → ∀ b, b < 5 → a ≠ b → (TJ a).2.1 ≠ (TJ b).2.1 := by decide +kernel
theorem tyJ_ok : ∀ k, k < 5 → parseFieldDescriptor (TJ k).2.2.1 = some (tyJ k) := by decide +kernel
def TR : u_T := fun k => match k with
  | 0 => ("ReplayJournal", "live", "LReplayJournal$Accounts;", true)
  | 1 => ("ReplayJournal", "saved", "LReplayJournal$Accounts;", true)
  | 2 => ("ReplayJournal", "trial", "LReplayJournal$Accounts;", true)
  | 3 => ("ReplayJournal", "journal", "LReplayJournal$Journal;", true)
  | 4 => ("ReplayJournal", "disk", "LReplayJournal$Disk;", true)
  | 5 => ("ReplayJournal", "groupSize", "I", false)
  | _ => ("ReplayJournal", "snapshotsMade", "I", false)
def tyR : Nat → FieldType := fun k => match k with
  | 0 => .object "ReplayJournal$Accounts"
  | 1 => .object "ReplayJournal$Accounts"
  | 2 => .object "ReplayJournal$Accounts"
  | 3 => .object "ReplayJournal$Journal"
  | 4 => .object "ReplayJournal$Disk"
  | 5 => .int
  | _ => .int
theorem nmR : ∀ a, a < 7 → ∀ b, b < 7 → a ≠ b → (TR a).2.1 ≠ (TR b).2.1 := by decide +kernel
theorem tyR_ok : ∀ k, k < 7 → parseFieldDescriptor (TR k).2.2.1 = some (tyR k) := by decide +kernel
def TM : u_T := fun k => match k with
  | 0 => ("ReplayJournalModel", "code", "I", false)
  | 1 => ("ReplayJournalModel", "accounts", "I", true)
  | 2 => ("ReplayJournalModel", "blocks", "I", true)
  | 3 => ("ReplayJournalModel", "amount", "[J", true)
  | 4 => ("ReplayJournalModel", "changes", "[I", true)
  | 5 => ("ReplayJournalModel", "trial", "[J", true)
  | 6 => ("ReplayJournalModel", "used", "I", false)
  | 7 => ("ReplayJournalModel", "writes", "I", false)
  | 8 => ("ReplayJournalModel", "snapshots", "I", false)
  | 9 => ("ReplayJournalModel", "since", "I", false)
  | 10 => ("ReplayJournalModel", "grouped", "Z", false)
  | 11 => ("ReplayJournalModel", "group", "I", false)
  | 12 => ("ReplayJournalModel", "from", "[I", true)
  | 13 => ("ReplayJournalModel", "to", "[I", true)
  | 14 => ("ReplayJournalModel", "much", "[J", true)
  | 15 => ("ReplayJournalModel", "left", "I", false)
  | _ => ("ReplayJournalModel", "down", "Z", false)
def tyM : Nat → FieldType := fun k => match k with
  | 0 => .int
  | 1 => .int
  | 2 => .int
  | 3 => .array .long
  | 4 => .array .int
  | 5 => .array .long
  | 6 => .int
  | 7 => .int
  | 8 => .int
  | 9 => .int
  | 10 => .boolean
  | 11 => .int
  | 12 => .array .int
  | 13 => .array .int
  | 14 => .array .long
  | 15 => .int
  | _ => .boolean
theorem nmM : ∀ a, a < 17 → ∀ b, b < 17 → a ≠ b → (TM a).2.1 ≠ (TM b).2.1 := by decide +kernel
theorem tyM_ok : ∀ k, k < 17 → parseFieldDescriptor (TM k).2.2.1 = some (tyM k) := by decide +kernel
abbrev vwCl : List vw_C := [("ReplayJournal$Accounts", TA, 2), ("ReplayJournal$Disk", TD, 2), ("ReplayJournal$Journal", TJ, 5), ("ReplayJournal", TR, 7), ("ReplayJournalModel", TM, 17)]
abbrev yR_init : MethodName := ⟨"ReplayJournal", "<init>", "(II)V"⟩
abbrev wsR_init : List Cond := Cond.code yR_init prog_1_method_1_code 5 none :: pjW0
abbrev yA_init : MethodName := ⟨"ReplayJournal$Accounts", "<init>", "(I)V"⟩
abbrev wsA_init : List Cond := Cond.code yA_init prog_2_method_1_code 2 none :: pjW0
abbrev yJ_init : MethodName := ⟨"ReplayJournal$Journal", "<init>", "(I)V"⟩
abbrev wsJ_init : List Cond := Cond.code yJ_init prog_4_method_1_code 2 none :: pjW0
abbrev yD_init : MethodName := ⟨"ReplayJournal$Disk", "<init>", "()V"⟩
abbrev wsD_init : List Cond := Cond.code yD_init prog_3_method_1_code 1 none :: pjW0
abbrev yR_recover : MethodName := ⟨"ReplayJournal", "recover", "()I"⟩
abbrev wsR_recover : List Cond := Cond.code yR_recover prog_1_method_9_code 1 (some .int) :: pjW0
abbrev yD_restart : MethodName := ⟨"ReplayJournal$Disk", "restart", "()V"⟩
abbrev wsD_restart : List Cond := Cond.code yD_restart prog_3_method_5_code 1 none :: pjW0
abbrev yA_copyFrom : MethodName := ⟨"ReplayJournal$Accounts", "copyFrom", "(LReplayJournal$Accounts;)V"⟩
abbrev wsA_copyFrom : List Cond := Cond.code yA_copyFrom prog_2_method_9_code 4 none :: pjW0
abbrev yJ_replay : MethodName := ⟨"ReplayJournal$Journal", "replay", "(LReplayJournal$Accounts;)I"⟩
abbrev wsJ_replay : List Cond := Cond.code yJ_replay prog_4_method_7_code 4 (some .int) :: pjW0
abbrev yA_apply : MethodName := ⟨"ReplayJournal$Accounts", "apply", "(IIJ)V"⟩
abbrev wsA_apply : List Cond := Cond.code yA_apply prog_2_method_7_code 5 none :: pjW0
abbrev yA_changeOne : MethodName := ⟨"ReplayJournal$Accounts", "changeOne", "(IJ)V"⟩
abbrev wsA_changeOne : List Cond := Cond.code yA_changeOne prog_2_method_8_code 4 none :: pjW0
abbrev yA_has : MethodName := ⟨"ReplayJournal$Accounts", "has", "(I)Z"⟩
abbrev wsA_has : List Cond := Cond.code yA_has prog_2_method_3_code 2 (some .boolean) :: pjW0
abbrev yR_isDown : MethodName := ⟨"ReplayJournal", "isDown", "()Z"⟩
abbrev wsR_isDown : List Cond := Cond.code yR_isDown prog_1_method_10_code 1 (some .boolean) :: pjW0
abbrev yD_isOff : MethodName := ⟨"ReplayJournal$Disk", "isOff", "()Z"⟩
abbrev wsD_isOff : List Cond := Cond.code yD_isOff prog_3_method_2_code 1 (some .boolean) :: pjW0
abbrev yL_cell : MethodName := ⟨"ReplayJournalLaw", "cell", "([II)I"⟩
abbrev wsL_cell : List Cond := Cond.code yL_cell method_2_code 2 (some .int) :: pjW0
abbrev yL_add : MethodName := ⟨"ReplayJournalLaw", "add", "(LReplayJournal;IJ[J)I"⟩
abbrev wsL_add : List Cond := Cond.codeWith yL_add method_3_code 6 (some .int) [(0, 11, 14, 13), (0, 11, 18, 15)] :: pjW0
abbrev yR_add : MethodName := ⟨"ReplayJournal", "add", "(IJ)I"⟩
abbrev wsR_add : List Cond := Cond.code yR_add prog_1_method_2_code 4 (some .int) :: pjW0
abbrev yR_requireAccount : MethodName := ⟨"ReplayJournal", "requireAccount", "(I)V"⟩
abbrev wsR_requireAccount : List Cond := Cond.code yR_requireAccount prog_1_method_18_code 2 none :: pjW0
abbrev yR_requireBounds : MethodName := ⟨"ReplayJournal", "requireBounds", "(JJJ)V"⟩
abbrev wsR_requireBounds : List Cond := Cond.code yR_requireBounds prog_1_method_19_code 6 none :: pjW0
abbrev yR_requirePower : MethodName := ⟨"ReplayJournal", "requirePower", "()V"⟩
abbrev wsR_requirePower : List Cond := Cond.code yR_requirePower prog_1_method_20_code 1 none :: pjW0
abbrev yR_change : MethodName := ⟨"ReplayJournal", "change", "(IIJ)I"⟩
abbrev wsR_change : List Cond := Cond.code yR_change prog_1_method_14_code 5 (some .int) :: pjW0
abbrev yR_changeNow : MethodName := ⟨"ReplayJournal", "changeNow", "(IIJ)I"⟩
abbrev wsR_changeNow : List Cond := Cond.code yR_changeNow prog_1_method_15_code 5 (some .int) :: pjW0
abbrev yA_wouldOverdraw : MethodName := ⟨"ReplayJournal$Accounts", "wouldOverdraw", "(IIJ)Z"⟩
abbrev wsA_wouldOverdraw : List Cond := Cond.code yA_wouldOverdraw prog_2_method_6_code 5 (some .boolean) :: pjW0
abbrev yJ_writeChange : MethodName := ⟨"ReplayJournal$Journal", "writeChange", "(IIJZ)Z"⟩
abbrev wsJ_writeChange : List Cond := Cond.code yJ_writeChange prog_4_method_4_code 6 (some .boolean) :: pjW0
abbrev yD_writeBlock : MethodName := ⟨"ReplayJournal$Disk", "writeBlock", "()V"⟩
abbrev wsD_writeBlock : List Cond := Cond.code yD_writeBlock prog_3_method_6_code 1 none :: pjW0
abbrev yR_changeInGroup : MethodName := ⟨"ReplayJournal", "changeInGroup", "(IIJ)I"⟩
abbrev wsR_changeInGroup : List Cond := Cond.code yR_changeInGroup prog_1_method_16_code 5 (some .int) :: pjW0
abbrev yL_move : MethodName := ⟨"ReplayJournalLaw", "move", "(LReplayJournal;IIJ[J)I"⟩
abbrev wsL_move : List Cond := Cond.codeWith yL_move method_4_code 7 (some .int) [(0, 12, 15, 13), (0, 12, 19, 15)] :: pjW0
abbrev yR_move : MethodName := ⟨"ReplayJournal", "move", "(IIJ)I"⟩
abbrev wsR_move : List Cond := Cond.code yR_move prog_1_method_3_code 5 (some .int) :: pjW0
abbrev yL_begin : MethodName := ⟨"ReplayJournalLaw", "begin", "(LReplayJournal;)I"⟩
abbrev wsL_begin : List Cond := Cond.codeWith yL_begin method_5_code 2 (some .int) [(0, 4, 7, 15)] :: pjW0
abbrev yR_begin : MethodName := ⟨"ReplayJournal", "begin", "()V"⟩
abbrev wsR_begin : List Cond := Cond.code yR_begin prog_1_method_4_code 1 none :: pjW0
abbrev yR_requireNoGroup : MethodName := ⟨"ReplayJournal", "requireNoGroup", "()V"⟩
abbrev wsR_requireNoGroup : List Cond := Cond.code yR_requireNoGroup prog_1_method_22_code 1 none :: pjW0
abbrev yL_end : MethodName := ⟨"ReplayJournalLaw", "end", "(LReplayJournal;[J)I"⟩
abbrev wsL_end : List Cond := Cond.codeWith yL_end method_6_code 3 (some .int) [(0, 8, 11, 15)] :: pjW0
abbrev yR_end : MethodName := ⟨"ReplayJournal", "end", "()I"⟩
abbrev wsR_end : List Cond := Cond.code yR_end prog_1_method_5_code 2 (some .int) :: pjW0
abbrev yR_requireGroup : MethodName := ⟨"ReplayJournal", "requireGroup", "()V"⟩
abbrev wsR_requireGroup : List Cond := Cond.code yR_requireGroup prog_1_method_21_code 1 none :: pjW0
abbrev yJ_tryLast : MethodName := ⟨"ReplayJournal$Journal", "tryLast", "(ILReplayJournal$Accounts;)Z"⟩
abbrev wsJ_tryLast : List Cond := Cond.code yJ_tryLast prog_4_method_6_code 4 (some .boolean) :: pjW0
abbrev yJ_firstOfLast : MethodName := ⟨"ReplayJournal$Journal", "firstOfLast", "(I)I"⟩
abbrev wsJ_firstOfLast : List Cond := Cond.code yJ_firstOfLast prog_4_method_8_code 2 (some .int) :: pjW0
abbrev yJ_writeEnd : MethodName := ⟨"ReplayJournal$Journal", "writeEnd", "(I)Z"⟩
abbrev wsJ_writeEnd : List Cond := Cond.code yJ_writeEnd prog_4_method_5_code 3 (some .boolean) :: pjW0
abbrev yL_drop : MethodName := ⟨"ReplayJournalLaw", "drop", "(LReplayJournal;[J)I"⟩
abbrev wsL_drop : List Cond := Cond.codeWith yL_drop method_7_code 3 (some .int) [(0, 8, 11, 15)] :: pjW0
abbrev yR_drop : MethodName := ⟨"ReplayJournal", "drop", "()I"⟩
abbrev wsR_drop : List Cond := Cond.code yR_drop prog_1_method_6_code 2 (some .int) :: pjW0
abbrev yL_snapshot : MethodName := ⟨"ReplayJournalLaw", "snapshot", "(LReplayJournal;[J)I"⟩
abbrev wsL_snapshot : List Cond := Cond.codeWith yL_snapshot method_8_code 3 (some .int) [(0, 8, 11, 15)] :: pjW0
abbrev yR_snapshot : MethodName := ⟨"ReplayJournal", "snapshot", "()I"⟩
abbrev wsR_snapshot : List Cond := Cond.code yR_snapshot prog_1_method_7_code 2 (some .int) :: pjW0
abbrev yR_snapshotBlocks : MethodName := ⟨"ReplayJournal", "snapshotBlocks", "()I"⟩
abbrev wsR_snapshotBlocks : List Cond := Cond.code yR_snapshotBlocks prog_1_method_17_code 1 (some .int) :: pjW0
abbrev yA_size : MethodName := ⟨"ReplayJournal$Accounts", "size", "()I"⟩
abbrev wsA_size : List Cond := Cond.code yA_size prog_2_method_2_code 1 (some .int) :: pjW0
abbrev yD_writeBlocks : MethodName := ⟨"ReplayJournal$Disk", "writeBlocks", "(I)I"⟩
abbrev wsD_writeBlocks : List Cond := Cond.code yD_writeBlocks prog_3_method_7_code 3 (some .int) :: pjW0
abbrev yJ_clear : MethodName := ⟨"ReplayJournal$Journal", "clear", "()V"⟩
abbrev wsJ_clear : List Cond := Cond.code yJ_clear prog_4_method_3_code 1 none :: pjW0
abbrev yL_crash : MethodName := ⟨"ReplayJournalLaw", "crash", "(LReplayJournal;I)I"⟩
abbrev wsL_crash : List Cond := Cond.codeWith yL_crash method_9_code 3 (some .int) [(0, 5, 8, 13), (0, 5, 11, 15)] :: pjW0
abbrev yR_crash : MethodName := ⟨"ReplayJournal", "crash", "(I)V"⟩
abbrev wsR_crash : List Cond := Cond.code yR_crash prog_1_method_8_code 2 none :: pjW0
abbrev yD_failAfter : MethodName := ⟨"ReplayJournal$Disk", "failAfter", "(I)V"⟩
abbrev wsD_failAfter : List Cond := Cond.code yD_failAfter prog_3_method_4_code 2 none :: pjW0
abbrev yL_amount : MethodName := ⟨"ReplayJournalLaw", "amount", "(LReplayJournal;I[J)I"⟩
abbrev wsL_amount : List Cond := Cond.codeWith yL_amount method_10_code 4 (some .int) [(0, 8, 11, 13), (0, 8, 14, 15)] :: pjW0
abbrev yR_amount : MethodName := ⟨"ReplayJournal", "amount", "(I)J"⟩
abbrev wsR_amount : List Cond := Cond.code yR_amount prog_1_method_11_code 2 (some .long) :: pjW0
abbrev yA_amountOf : MethodName := ⟨"ReplayJournal$Accounts", "amountOf", "(I)J"⟩
abbrev wsA_amountOf : List Cond := Cond.code yA_amountOf prog_2_method_4_code 2 (some .long) :: pjW0
abbrev yL_changes : MethodName := ⟨"ReplayJournalLaw", "changes", "(LReplayJournal;I[J)I"⟩
abbrev wsL_changes : List Cond := Cond.codeWith yL_changes method_11_code 4 (some .int) [(0, 9, 12, 13), (0, 9, 15, 15)] :: pjW0
abbrev yR_changes : MethodName := ⟨"ReplayJournal", "changes", "(I)I"⟩
abbrev wsR_changes : List Cond := Cond.code yR_changes prog_1_method_12_code 2 (some .int) :: pjW0
abbrev yA_changesOf : MethodName := ⟨"ReplayJournal$Accounts", "changesOf", "(I)I"⟩
abbrev wsA_changesOf : List Cond := Cond.code yA_changesOf prog_2_method_5_code 2 (some .int) :: pjW0
abbrev yL_count : MethodName := ⟨"ReplayJournalLaw", "count", "(LReplayJournal;I[J)I"⟩
abbrev wsL_count : List Cond := Cond.codeWith yL_count method_12_code 4 (some .int) [(0, 9, 12, 13), (0, 9, 15, 15)] :: pjW0
abbrev yR_count : MethodName := ⟨"ReplayJournal", "count", "(I)I"⟩
abbrev wsR_count : List Cond := Cond.code yR_count prog_1_method_13_code 2 (some .int) :: pjW0
abbrev yJ_usedBlocks : MethodName := ⟨"ReplayJournal$Journal", "usedBlocks", "()I"⟩
abbrev wsJ_usedBlocks : List Cond := Cond.code yJ_usedBlocks prog_4_method_2_code 1 (some .int) :: pjW0
abbrev yD_writtenBlocks : MethodName := ⟨"ReplayJournal$Disk", "writtenBlocks", "()I"⟩
abbrev wsD_writtenBlocks : List Cond := Cond.code yD_writtenBlocks prog_3_method_3_code 1 (some .int) :: pjW0
abbrev yM_init : MethodName := ⟨"ReplayJournalModel", "<init>", "(II)V"⟩
abbrev wsM_init : List Cond := Cond.code yM_init prog_6_method_1_code 3 none :: pjW0
abbrev yM_thrown : MethodName := ⟨"ReplayJournalModel", "thrown", "()I"⟩
abbrev wsM_thrown : List Cond := Cond.code yM_thrown prog_6_method_2_code 1 (some .int) :: pjW0
abbrev yM_add : MethodName := ⟨"ReplayJournalModel", "add", "(IJ)I"⟩
abbrev wsM_add : List Cond := Cond.code yM_add prog_6_method_9_code 4 (some .int) :: pjW0
abbrev yM_isAccount : MethodName := ⟨"ReplayJournalModel", "isAccount", "(I)Z"⟩
abbrev wsM_isAccount : List Cond := Cond.code yM_isAccount prog_6_method_5_code 2 (some .boolean) :: pjW0
abbrev yM_goes : MethodName := ⟨"ReplayJournalModel", "goes", "(ZZ)Z"⟩
abbrev wsM_goes : List Cond := Cond.code yM_goes prog_6_method_3_code 3 (some .boolean) :: pjW0
abbrev yM_take : MethodName := ⟨"ReplayJournalModel", "take", "(IIJ)I"⟩
abbrev wsM_take : List Cond := Cond.code yM_take prog_6_method_8_code 5 (some .int) :: pjW0
abbrev yM_spend : MethodName := ⟨"ReplayJournalModel", "spend", "()V"⟩
abbrev wsM_spend : List Cond := Cond.code yM_spend prog_6_method_6_code 1 none :: pjW0
abbrev yM_happen : MethodName := ⟨"ReplayJournalModel", "happen", "(IIJ)V"⟩
abbrev wsM_happen : List Cond := Cond.code yM_happen prog_6_method_7_code 5 none :: pjW0
abbrev yM_move : MethodName := ⟨"ReplayJournalModel", "move", "(IIJ)I"⟩
abbrev wsM_move : List Cond := Cond.code yM_move prog_6_method_10_code 5 (some .int) :: pjW0
abbrev yM_begin : MethodName := ⟨"ReplayJournalModel", "begin", "()V"⟩
abbrev wsM_begin : List Cond := Cond.code yM_begin prog_6_method_11_code 1 none :: pjW0
abbrev yM_stands : MethodName := ⟨"ReplayJournalModel", "stands", "(Z)Z"⟩
abbrev wsM_stands : List Cond := Cond.code yM_stands prog_6_method_4_code 2 (some .boolean) :: pjW0
abbrev yM_end : MethodName := ⟨"ReplayJournalModel", "end", "()I"⟩
abbrev wsM_end : List Cond := Cond.code yM_end prog_6_method_13_code 2 (some .int) :: pjW0
abbrev yM_isRich : MethodName := ⟨"ReplayJournalModel", "isRich", "()Z"⟩
abbrev wsM_isRich : List Cond := Cond.code yM_isRich prog_6_method_12_code 3 (some .boolean) :: pjW0
abbrev yM_drop : MethodName := ⟨"ReplayJournalModel", "drop", "()I"⟩
abbrev wsM_drop : List Cond := Cond.code yM_drop prog_6_method_14_code 1 (some .int) :: pjW0
abbrev yM_snapshot : MethodName := ⟨"ReplayJournalModel", "snapshot", "()I"⟩
abbrev wsM_snapshot : List Cond := Cond.code yM_snapshot prog_6_method_15_code 3 (some .int) :: pjW0
abbrev yM_crash : MethodName := ⟨"ReplayJournalModel", "crash", "(I)V"⟩
abbrev wsM_crash : List Cond := Cond.code yM_crash prog_6_method_16_code 2 none :: pjW0
abbrev yM_recover : MethodName := ⟨"ReplayJournalModel", "recover", "()I"⟩
abbrev wsM_recover : List Cond := Cond.code yM_recover prog_6_method_17_code 1 (some .int) :: pjW0
abbrev yM_isDown : MethodName := ⟨"ReplayJournalModel", "isDown", "()Z"⟩
abbrev wsM_isDown : List Cond := Cond.code yM_isDown prog_6_method_18_code 1 (some .boolean) :: pjW0
abbrev yM_amount : MethodName := ⟨"ReplayJournalModel", "amount", "(I)J"⟩
abbrev wsM_amount : List Cond := Cond.code yM_amount prog_6_method_19_code 2 (some .long) :: pjW0
abbrev yM_changes : MethodName := ⟨"ReplayJournalModel", "changes", "(I)I"⟩
abbrev wsM_changes : List Cond := Cond.code yM_changes prog_6_method_20_code 2 (some .int) :: pjW0
abbrev yM_count : MethodName := ⟨"ReplayJournalModel", "count", "(I)I"⟩
abbrev wsM_count : List Cond := Cond.code yM_count prog_6_method_21_code 2 (some .int) :: pjW0
theorem m_0 : Cond.selects "ReplayJournal$Accounts" ⟨"ReplayJournal$Accounts", "changeOne", "(IJ)V"⟩ ⟨"ReplayJournal$Accounts", "changeOne", "(IJ)V"⟩ ∈ pjW0 := pj_in 0 (by decide +kernel) rfl
theorem m_1 : Cond.selects "ReplayJournal" ⟨"ReplayJournal", "requireAccount", "(I)V"⟩ ⟨"ReplayJournal", "requireAccount", "(I)V"⟩ ∈ pjW0 := pj_in 1 (by decide +kernel) rfl
theorem m_2 : Cond.selects "java/lang/Throwable" ⟨"java/lang/Throwable", "fillInStackTrace", "(I)Ljava/lang/Throwable;"⟩ ⟨"java/lang/Throwable", "fillInStackTrace", "(I)Ljava/lang/Throwable;"⟩ ∈ pjW0 := pj_in 2 (by decide +kernel) rfl
theorem m_3 : Cond.selects "ReplayJournal" ⟨"ReplayJournal", "requirePower", "()V"⟩ ⟨"ReplayJournal", "requirePower", "()V"⟩ ∈ pjW0 := pj_in 3 (by decide +kernel) rfl
theorem m_4 : Cond.selects "ReplayJournal" ⟨"ReplayJournal", "change", "(IIJ)I"⟩ ⟨"ReplayJournal", "change", "(IIJ)I"⟩ ∈ pjW0 := pj_in 4 (by decide +kernel) rfl
theorem m_5 : Cond.selects "ReplayJournal" ⟨"ReplayJournal", "changeNow", "(IIJ)I"⟩ ⟨"ReplayJournal", "changeNow", "(IIJ)I"⟩ ∈ pjW0 := pj_in 5 (by decide +kernel) rfl
theorem m_6 : Cond.selects "ReplayJournal" ⟨"ReplayJournal", "changeInGroup", "(IIJ)I"⟩ ⟨"ReplayJournal", "changeInGroup", "(IIJ)I"⟩ ∈ pjW0 := pj_in 6 (by decide +kernel) rfl
theorem m_7 : Cond.selects "ReplayJournal" ⟨"ReplayJournal", "requireNoGroup", "()V"⟩ ⟨"ReplayJournal", "requireNoGroup", "()V"⟩ ∈ pjW0 := pj_in 7 (by decide +kernel) rfl
theorem m_8 : Cond.selects "ReplayJournal" ⟨"ReplayJournal", "requireGroup", "()V"⟩ ⟨"ReplayJournal", "requireGroup", "()V"⟩ ∈ pjW0 := pj_in 8 (by decide +kernel) rfl
theorem m_9 : Cond.selects "ReplayJournal$Journal" ⟨"ReplayJournal$Journal", "firstOfLast", "(I)I"⟩ ⟨"ReplayJournal$Journal", "firstOfLast", "(I)I"⟩ ∈ pjW0 := pj_in 9 (by decide +kernel) rfl
theorem m_10 : Cond.selects "ReplayJournal" ⟨"ReplayJournal", "snapshotBlocks", "()I"⟩ ⟨"ReplayJournal", "snapshotBlocks", "()I"⟩ ∈ pjW0 := pj_in 10 (by decide +kernel) rfl
theorem m_11 : Cond.selects "ReplayJournalModel" ⟨"ReplayJournalModel", "isAccount", "(I)Z"⟩ ⟨"ReplayJournalModel", "isAccount", "(I)Z"⟩ ∈ pjW0 := pj_in 11 (by decide +kernel) rfl
theorem m_12 : Cond.selects "ReplayJournalModel" ⟨"ReplayJournalModel", "goes", "(ZZ)Z"⟩ ⟨"ReplayJournalModel", "goes", "(ZZ)Z"⟩ ∈ pjW0 := pj_in 12 (by decide +kernel) rfl
theorem m_13 : Cond.selects "ReplayJournalModel" ⟨"ReplayJournalModel", "take", "(IIJ)I"⟩ ⟨"ReplayJournalModel", "take", "(IIJ)I"⟩ ∈ pjW0 := pj_in 13 (by decide +kernel) rfl
theorem m_14 : Cond.selects "ReplayJournalModel" ⟨"ReplayJournalModel", "spend", "()V"⟩ ⟨"ReplayJournalModel", "spend", "()V"⟩ ∈ pjW0 := pj_in 14 (by decide +kernel) rfl
theorem m_15 : Cond.selects "ReplayJournalModel" ⟨"ReplayJournalModel", "happen", "(IIJ)V"⟩ ⟨"ReplayJournalModel", "happen", "(IIJ)V"⟩ ∈ pjW0 := pj_in 15 (by decide +kernel) rfl
theorem m_16 : Cond.selects "ReplayJournalModel" ⟨"ReplayJournalModel", "stands", "(Z)Z"⟩ ⟨"ReplayJournalModel", "stands", "(Z)Z"⟩ ∈ pjW0 := pj_in 16 (by decide +kernel) rfl
theorem m_17 : Cond.selects "ReplayJournalModel" ⟨"ReplayJournalModel", "isRich", "()Z"⟩ ⟨"ReplayJournalModel", "isRich", "()Z"⟩ ∈ pjW0 := pj_in 17 (by decide +kernel) rfl
theorem m_18 : Cond.initialized "ReplayJournalLaw" ∈ pjW0 := pj_in 18 (by decide +kernel) rfl
theorem m_19 : Cond.initialized "ReplayJournal" ∈ pjW0 := pj_in 19 (by decide +kernel) rfl
theorem m_20 : Cond.initialized "java/lang/Math" ∈ pjW0 := pj_in 20 (by decide +kernel) rfl
theorem m_21 : Cond.initialized "ReplayJournal$Accounts" ∈ pjW0 := pj_in 21 (by decide +kernel) rfl
theorem m_22 : Cond.initialized "ReplayJournal$Journal" ∈ pjW0 := pj_in 22 (by decide +kernel) rfl
theorem m_23 : Cond.initialized "ReplayJournal$Disk" ∈ pjW0 := pj_in 23 (by decide +kernel) rfl
theorem m_24 : Cond.initialized "ReplayJournalModel" ∈ pjW0 := pj_in 24 (by decide +kernel) rfl
theorem m_25 : Cond.initialized "java/lang/Throwable" ∈ pjW0 := pj_in 25 (by decide +kernel) rfl
theorem m_26 : Cond.initialized "java/lang/Exception" ∈ pjW0 := pj_in 26 (by decide +kernel) rfl
theorem m_27 : Cond.initialized "java/lang/RuntimeException" ∈ pjW0 := pj_in 27 (by decide +kernel) rfl
theorem m_28 : Cond.initialized "java/lang/IllegalArgumentException" ∈ pjW0 := pj_in 28 (by decide +kernel) rfl
theorem m_29 : Cond.initialized "java/lang/IllegalStateException" ∈ pjW0 := pj_in 29 (by decide +kernel) rfl
theorem m_30 : Cond.classLink "ReplayJournalLaw" 8 "ReplayJournal" ∈ pjW0 := pj_in 30 (by decide +kernel) rfl
theorem m_31 : Cond.instantiable "ReplayJournal" 7 ∈ pjW0 := pj_in 31 (by decide +kernel) rfl
theorem m_32 : Cond.methodLink "ReplayJournalLaw" 55 ⟨"ReplayJournal", "<init>", "(II)V"⟩ ∈ pjW0 := pj_in 32 (by decide +kernel) rfl
theorem m_33 : Cond.instanceMethod ⟨"ReplayJournal", "<init>", "(II)V"⟩ ∈ pjW0 := pj_in 33 (by decide +kernel) rfl
theorem m_34 : Cond.code ⟨"ReplayJournal", "<init>", "(II)V"⟩ prog_1_method_1_code 5 none ∈ pjW0 := pj_in 34 (by decide +kernel) rfl
theorem m_35 : Cond.methodLink "ReplayJournal" 1 ⟨"java/lang/Object", "<init>", "()V"⟩ ∈ pjW0 := pj_in 35 (by decide +kernel) rfl
theorem m_36 : Cond.instanceMethod ⟨"java/lang/Object", "<init>", "()V"⟩ ∈ pjW0 := pj_in 36 (by decide +kernel) rfl
theorem m_37 : Cond.code ⟨"java/lang/Object", "<init>", "()V"⟩ object_method_1_code 1 none ∈ pjW0 := pj_in 37 (by decide +kernel) rfl
theorem m_38 : Cond.methodLink "ReplayJournal" 9 ⟨"java/lang/Math", "min", "(II)I"⟩ ∈ pjW0 := pj_in 38 (by decide +kernel) rfl
theorem m_39 : Cond.static ⟨"java/lang/Math", "min", "(II)I"⟩ ∈ pjW0 := pj_in 39 (by decide +kernel) rfl
theorem m_40 : Cond.code ⟨"java/lang/Math", "min", "(II)I"⟩ prog_10_method_69_code 2 (some .int) ∈ pjW0 := pj_in 40 (by decide +kernel) rfl
theorem m_41 : Cond.methodLink "ReplayJournal" 15 ⟨"java/lang/Math", "max", "(II)I"⟩ ∈ pjW0 := pj_in 41 (by decide +kernel) rfl
theorem m_42 : Cond.static ⟨"java/lang/Math", "max", "(II)I"⟩ ∈ pjW0 := pj_in 42 (by decide +kernel) rfl
theorem m_43 : Cond.code ⟨"java/lang/Math", "max", "(II)I"⟩ prog_10_method_65_code 2 (some .int) ∈ pjW0 := pj_in 43 (by decide +kernel) rfl
theorem m_44 : Cond.classLink "ReplayJournal" 18 "ReplayJournal$Accounts" ∈ pjW0 := pj_in 44 (by decide +kernel) rfl
theorem m_45 : Cond.instantiable "ReplayJournal$Accounts" 2 ∈ pjW0 := pj_in 45 (by decide +kernel) rfl
theorem m_46 : Cond.methodLink "ReplayJournal" 20 ⟨"ReplayJournal$Accounts", "<init>", "(I)V"⟩ ∈ pjW0 := pj_in 46 (by decide +kernel) rfl
theorem m_47 : Cond.instanceMethod ⟨"ReplayJournal$Accounts", "<init>", "(I)V"⟩ ∈ pjW0 := pj_in 47 (by decide +kernel) rfl
theorem m_48 : Cond.code ⟨"ReplayJournal$Accounts", "<init>", "(I)V"⟩ prog_2_method_1_code 2 none ∈ pjW0 := pj_in 48 (by decide +kernel) rfl
theorem m_49 : Cond.methodLink "ReplayJournal$Accounts" 1 ⟨"java/lang/Object", "<init>", "()V"⟩ ∈ pjW0 := pj_in 49 (by decide +kernel) rfl
theorem m_50 : Cond.fieldLink "ReplayJournal$Accounts" 7 "ReplayJournal$Accounts" "amounts" "[J" ∈ pjW0 := pj_in 50 (by decide +kernel) rfl
theorem m_51 : Cond.fieldLink "ReplayJournal$Accounts" 13 "ReplayJournal$Accounts" "changed" "[I" ∈ pjW0 := pj_in 51 (by decide +kernel) rfl
theorem m_52 : Cond.laysFinal "ReplayJournal$Accounts" "ReplayJournal$Accounts" "amounts" "[J" ∈ pjW0 := pj_in 52 (by decide +kernel) rfl
theorem m_53 : Cond.soleField "ReplayJournal$Accounts" "amounts" ∈ pjW0 := pj_in 53 (by decide +kernel) rfl
theorem m_54 : Cond.laysFinal "ReplayJournal$Accounts" "ReplayJournal$Accounts" "changed" "[I" ∈ pjW0 := pj_in 54 (by decide +kernel) rfl
theorem m_55 : Cond.soleField "ReplayJournal$Accounts" "changed" ∈ pjW0 := pj_in 55 (by decide +kernel) rfl
theorem m_56 : Cond.superclass "ReplayJournal$Accounts" "java/lang/Object" ∈ pjW0 := pj_in 56 (by decide +kernel) rfl
theorem m_57 : Cond.arrayClass .long ∈ pjW0 := pj_in 57 (by decide +kernel) rfl
theorem m_58 : Cond.arrayClass .int ∈ pjW0 := pj_in 58 (by decide +kernel) rfl
theorem m_59 : Cond.classLink "ReplayJournal" 33 "ReplayJournal$Journal" ∈ pjW0 := pj_in 59 (by decide +kernel) rfl
theorem m_60 : Cond.instantiable "ReplayJournal$Journal" 5 ∈ pjW0 := pj_in 60 (by decide +kernel) rfl
theorem m_61 : Cond.methodLink "ReplayJournal" 35 ⟨"ReplayJournal$Journal", "<init>", "(I)V"⟩ ∈ pjW0 := pj_in 61 (by decide +kernel) rfl
theorem m_62 : Cond.instanceMethod ⟨"ReplayJournal$Journal", "<init>", "(I)V"⟩ ∈ pjW0 := pj_in 62 (by decide +kernel) rfl
theorem m_63 : Cond.code ⟨"ReplayJournal$Journal", "<init>", "(I)V"⟩ prog_4_method_1_code 2 none ∈ pjW0 := pj_in 63 (by decide +kernel) rfl
theorem m_64 : Cond.methodLink "ReplayJournal$Journal" 1 ⟨"java/lang/Object", "<init>", "()V"⟩ ∈ pjW0 := pj_in 64 (by decide +kernel) rfl
theorem m_65 : Cond.fieldLink "ReplayJournal$Journal" 7 "ReplayJournal$Journal" "froms" "[I" ∈ pjW0 := pj_in 65 (by decide +kernel) rfl
theorem m_66 : Cond.fieldLink "ReplayJournal$Journal" 13 "ReplayJournal$Journal" "tos" "[I" ∈ pjW0 := pj_in 66 (by decide +kernel) rfl
theorem m_67 : Cond.fieldLink "ReplayJournal$Journal" 16 "ReplayJournal$Journal" "values" "[J" ∈ pjW0 := pj_in 67 (by decide +kernel) rfl
theorem m_68 : Cond.fieldLink "ReplayJournal$Journal" 20 "ReplayJournal$Journal" "firm" "[Z" ∈ pjW0 := pj_in 68 (by decide +kernel) rfl
theorem m_69 : Cond.fieldLink "ReplayJournal$Journal" 24 "ReplayJournal$Journal" "used" "I" ∈ pjW0 := pj_in 69 (by decide +kernel) rfl
theorem m_70 : Cond.laysFinal "ReplayJournal$Journal" "ReplayJournal$Journal" "froms" "[I" ∈ pjW0 := pj_in 70 (by decide +kernel) rfl
theorem m_71 : Cond.soleField "ReplayJournal$Journal" "froms" ∈ pjW0 := pj_in 71 (by decide +kernel) rfl
theorem m_72 : Cond.laysFinal "ReplayJournal$Journal" "ReplayJournal$Journal" "tos" "[I" ∈ pjW0 := pj_in 72 (by decide +kernel) rfl
theorem m_73 : Cond.soleField "ReplayJournal$Journal" "tos" ∈ pjW0 := pj_in 73 (by decide +kernel) rfl
theorem m_74 : Cond.laysFinal "ReplayJournal$Journal" "ReplayJournal$Journal" "values" "[J" ∈ pjW0 := pj_in 74 (by decide +kernel) rfl
theorem m_75 : Cond.soleField "ReplayJournal$Journal" "values" ∈ pjW0 := pj_in 75 (by decide +kernel) rfl
theorem m_76 : Cond.laysFinal "ReplayJournal$Journal" "ReplayJournal$Journal" "firm" "[Z" ∈ pjW0 := pj_in 76 (by decide +kernel) rfl
theorem m_77 : Cond.soleField "ReplayJournal$Journal" "firm" ∈ pjW0 := pj_in 77 (by decide +kernel) rfl
theorem m_78 : Cond.lays "ReplayJournal$Journal" "ReplayJournal$Journal" "used" "I" ∈ pjW0 := pj_in 78 (by decide +kernel) rfl
theorem m_79 : Cond.soleField "ReplayJournal$Journal" "used" ∈ pjW0 := pj_in 79 (by decide +kernel) rfl
theorem m_80 : Cond.superclass "ReplayJournal$Journal" "java/lang/Object" ∈ pjW0 := pj_in 80 (by decide +kernel) rfl
theorem m_81 : Cond.arrayClass .boolean ∈ pjW0 := pj_in 81 (by decide +kernel) rfl
theorem m_82 : Cond.classLink "ReplayJournal" 40 "ReplayJournal$Disk" ∈ pjW0 := pj_in 82 (by decide +kernel) rfl
theorem m_83 : Cond.instantiable "ReplayJournal$Disk" 2 ∈ pjW0 := pj_in 83 (by decide +kernel) rfl
theorem m_84 : Cond.methodLink "ReplayJournal" 42 ⟨"ReplayJournal$Disk", "<init>", "()V"⟩ ∈ pjW0 := pj_in 84 (by decide +kernel) rfl
theorem m_85 : Cond.instanceMethod ⟨"ReplayJournal$Disk", "<init>", "()V"⟩ ∈ pjW0 := pj_in 85 (by decide +kernel) rfl
theorem m_86 : Cond.code ⟨"ReplayJournal$Disk", "<init>", "()V"⟩ prog_3_method_1_code 1 none ∈ pjW0 := pj_in 86 (by decide +kernel) rfl
theorem m_87 : Cond.methodLink "ReplayJournal$Disk" 3 ⟨"java/lang/Object", "<init>", "()V"⟩ ∈ pjW0 := pj_in 87 (by decide +kernel) rfl
theorem m_88 : Cond.fieldLink "ReplayJournal$Disk" 9 "ReplayJournal$Disk" "written" "I" ∈ pjW0 := pj_in 88 (by decide +kernel) rfl
theorem m_89 : Cond.fieldLink "ReplayJournal$Disk" 15 "ReplayJournal$Disk" "left" "I" ∈ pjW0 := pj_in 89 (by decide +kernel) rfl
theorem m_90 : Cond.lays "ReplayJournal$Disk" "ReplayJournal$Disk" "written" "I" ∈ pjW0 := pj_in 90 (by decide +kernel) rfl
theorem m_91 : Cond.soleField "ReplayJournal$Disk" "written" ∈ pjW0 := pj_in 91 (by decide +kernel) rfl
theorem m_92 : Cond.lays "ReplayJournal$Disk" "ReplayJournal$Disk" "left" "I" ∈ pjW0 := pj_in 92 (by decide +kernel) rfl
theorem m_93 : Cond.soleField "ReplayJournal$Disk" "left" ∈ pjW0 := pj_in 93 (by decide +kernel) rfl
theorem m_94 : Cond.superclass "ReplayJournal$Disk" "java/lang/Object" ∈ pjW0 := pj_in 94 (by decide +kernel) rfl
theorem m_95 : Cond.fieldLink "ReplayJournal" 23 "ReplayJournal" "live" "LReplayJournal$Accounts;" ∈ pjW0 := pj_in 95 (by decide +kernel) rfl
theorem m_96 : Cond.fieldLink "ReplayJournal" 27 "ReplayJournal" "saved" "LReplayJournal$Accounts;" ∈ pjW0 := pj_in 96 (by decide +kernel) rfl
theorem m_97 : Cond.fieldLink "ReplayJournal" 30 "ReplayJournal" "trial" "LReplayJournal$Accounts;" ∈ pjW0 := pj_in 97 (by decide +kernel) rfl
theorem m_98 : Cond.fieldLink "ReplayJournal" 36 "ReplayJournal" "journal" "LReplayJournal$Journal;" ∈ pjW0 := pj_in 98 (by decide +kernel) rfl
theorem m_99 : Cond.fieldLink "ReplayJournal" 43 "ReplayJournal" "disk" "LReplayJournal$Disk;" ∈ pjW0 := pj_in 99 (by decide +kernel) rfl
theorem m_100 : Cond.fieldLink "ReplayJournal" 47 "ReplayJournal" "groupSize" "I" ∈ pjW0 := pj_in 100 (by decide +kernel) rfl
theorem m_101 : Cond.fieldLink "ReplayJournal" 51 "ReplayJournal" "snapshotsMade" "I" ∈ pjW0 := pj_in 101 (by decide +kernel) rfl
theorem m_102 : Cond.laysFinal "ReplayJournal" "ReplayJournal" "live" "LReplayJournal$Accounts;" ∈ pjW0 := pj_in 102 (by decide +kernel) rfl
theorem m_103 : Cond.soleField "ReplayJournal" "live" ∈ pjW0 := pj_in 103 (by decide +kernel) rfl
theorem m_104 : Cond.laysFinal "ReplayJournal" "ReplayJournal" "saved" "LReplayJournal$Accounts;" ∈ pjW0 := pj_in 104 (by decide +kernel) rfl
theorem m_105 : Cond.soleField "ReplayJournal" "saved" ∈ pjW0 := pj_in 105 (by decide +kernel) rfl
theorem m_106 : Cond.laysFinal "ReplayJournal" "ReplayJournal" "trial" "LReplayJournal$Accounts;" ∈ pjW0 := pj_in 106 (by decide +kernel) rfl
theorem m_107 : Cond.soleField "ReplayJournal" "trial" ∈ pjW0 := pj_in 107 (by decide +kernel) rfl
theorem m_108 : Cond.laysFinal "ReplayJournal" "ReplayJournal" "journal" "LReplayJournal$Journal;" ∈ pjW0 := pj_in 108 (by decide +kernel) rfl
theorem m_109 : Cond.soleField "ReplayJournal" "journal" ∈ pjW0 := pj_in 109 (by decide +kernel) rfl
theorem m_110 : Cond.laysFinal "ReplayJournal" "ReplayJournal" "disk" "LReplayJournal$Disk;" ∈ pjW0 := pj_in 110 (by decide +kernel) rfl
theorem m_111 : Cond.soleField "ReplayJournal" "disk" ∈ pjW0 := pj_in 111 (by decide +kernel) rfl
theorem m_112 : Cond.lays "ReplayJournal" "ReplayJournal" "groupSize" "I" ∈ pjW0 := pj_in 112 (by decide +kernel) rfl
theorem m_113 : Cond.soleField "ReplayJournal" "groupSize" ∈ pjW0 := pj_in 113 (by decide +kernel) rfl
theorem m_114 : Cond.lays "ReplayJournal" "ReplayJournal" "snapshotsMade" "I" ∈ pjW0 := pj_in 114 (by decide +kernel) rfl
theorem m_115 : Cond.soleField "ReplayJournal" "snapshotsMade" ∈ pjW0 := pj_in 115 (by decide +kernel) rfl
theorem m_116 : Cond.superclass "ReplayJournal" "java/lang/Object" ∈ pjW0 := pj_in 116 (by decide +kernel) rfl
theorem m_117 : Cond.methodLink "ReplayJournalLaw" 92 ⟨"ReplayJournal", "recover", "()I"⟩ ∈ pjW0 := pj_in 117 (by decide +kernel) rfl
theorem m_118 : Cond.instanceMethod ⟨"ReplayJournal", "recover", "()I"⟩ ∈ pjW0 := pj_in 118 (by decide +kernel) rfl
theorem m_119 : Cond.selects "ReplayJournal" ⟨"ReplayJournal", "recover", "()I"⟩ ⟨"ReplayJournal", "recover", "()I"⟩ ∈ pjW0 := pj_in 119 (by decide +kernel) rfl
theorem m_120 : Cond.code ⟨"ReplayJournal", "recover", "()I"⟩ prog_1_method_9_code 1 (some .int) ∈ pjW0 := pj_in 120 (by decide +kernel) rfl
theorem m_121 : Cond.methodLink "ReplayJournal" 122 ⟨"ReplayJournal$Disk", "restart", "()V"⟩ ∈ pjW0 := pj_in 121 (by decide +kernel) rfl
theorem m_122 : Cond.instanceMethod ⟨"ReplayJournal$Disk", "restart", "()V"⟩ ∈ pjW0 := pj_in 122 (by decide +kernel) rfl
theorem m_123 : Cond.selects "ReplayJournal$Disk" ⟨"ReplayJournal$Disk", "restart", "()V"⟩ ⟨"ReplayJournal$Disk", "restart", "()V"⟩ ∈ pjW0 := pj_in 123 (by decide +kernel) rfl
theorem m_124 : Cond.code ⟨"ReplayJournal$Disk", "restart", "()V"⟩ prog_3_method_5_code 1 none ∈ pjW0 := pj_in 124 (by decide +kernel) rfl
theorem m_125 : Cond.methodLink "ReplayJournal" 85 ⟨"ReplayJournal$Accounts", "copyFrom", "(LReplayJournal$Accounts;)V"⟩ ∈ pjW0 := pj_in 125 (by decide +kernel) rfl
theorem m_126 : Cond.instanceMethod ⟨"ReplayJournal$Accounts", "copyFrom", "(LReplayJournal$Accounts;)V"⟩ ∈ pjW0 := pj_in 126 (by decide +kernel) rfl
theorem m_127 : Cond.selects "ReplayJournal$Accounts" ⟨"ReplayJournal$Accounts", "copyFrom", "(LReplayJournal$Accounts;)V"⟩ ⟨"ReplayJournal$Accounts", "copyFrom", "(LReplayJournal$Accounts;)V"⟩ ∈ pjW0 := pj_in 127 (by decide +kernel) rfl
theorem m_128 : Cond.code ⟨"ReplayJournal$Accounts", "copyFrom", "(LReplayJournal$Accounts;)V"⟩ prog_2_method_9_code 4 none ∈ pjW0 := pj_in 128 (by decide +kernel) rfl
theorem m_129 : Cond.methodLink "ReplayJournal$Accounts" 25 ⟨"java/lang/Math", "min", "(II)I"⟩ ∈ pjW0 := pj_in 129 (by decide +kernel) rfl
theorem m_130 : Cond.methodLink "ReplayJournal" 125 ⟨"ReplayJournal$Journal", "replay", "(LReplayJournal$Accounts;)I"⟩ ∈ pjW0 := pj_in 130 (by decide +kernel) rfl
theorem m_131 : Cond.instanceMethod ⟨"ReplayJournal$Journal", "replay", "(LReplayJournal$Accounts;)I"⟩ ∈ pjW0 := pj_in 131 (by decide +kernel) rfl
theorem m_132 : Cond.selects "ReplayJournal$Journal" ⟨"ReplayJournal$Journal", "replay", "(LReplayJournal$Accounts;)I"⟩ ⟨"ReplayJournal$Journal", "replay", "(LReplayJournal$Accounts;)I"⟩ ∈ pjW0 := pj_in 132 (by decide +kernel) rfl
theorem m_133 : Cond.code ⟨"ReplayJournal$Journal", "replay", "(LReplayJournal$Accounts;)I"⟩ prog_4_method_7_code 4 (some .int) ∈ pjW0 := pj_in 133 (by decide +kernel) rfl
theorem m_134 : Cond.methodLink "ReplayJournal$Journal" 38 ⟨"ReplayJournal$Accounts", "apply", "(IIJ)V"⟩ ∈ pjW0 := pj_in 134 (by decide +kernel) rfl
theorem m_135 : Cond.instanceMethod ⟨"ReplayJournal$Accounts", "apply", "(IIJ)V"⟩ ∈ pjW0 := pj_in 135 (by decide +kernel) rfl
theorem m_136 : Cond.selects "ReplayJournal$Accounts" ⟨"ReplayJournal$Accounts", "apply", "(IIJ)V"⟩ ⟨"ReplayJournal$Accounts", "apply", "(IIJ)V"⟩ ∈ pjW0 := pj_in 136 (by decide +kernel) rfl
theorem m_137 : Cond.code ⟨"ReplayJournal$Accounts", "apply", "(IIJ)V"⟩ prog_2_method_7_code 5 none ∈ pjW0 := pj_in 137 (by decide +kernel) rfl
theorem m_138 : Cond.methodLink "ReplayJournal$Accounts" 21 ⟨"ReplayJournal$Accounts", "changeOne", "(IJ)V"⟩ ∈ pjW0 := pj_in 138 (by decide +kernel) rfl
theorem m_140 : Cond.instanceMethod ⟨"ReplayJournal$Accounts", "changeOne", "(IJ)V"⟩ ∈ pjW0 := pj_in 140 (by decide +kernel) rfl
theorem m_141 : Cond.code ⟨"ReplayJournal$Accounts", "changeOne", "(IJ)V"⟩ prog_2_method_8_code 4 none ∈ pjW0 := pj_in 141 (by decide +kernel) rfl
theorem m_142 : Cond.methodLink "ReplayJournal$Accounts" 17 ⟨"ReplayJournal$Accounts", "has", "(I)Z"⟩ ∈ pjW0 := pj_in 142 (by decide +kernel) rfl
theorem m_143 : Cond.instanceMethod ⟨"ReplayJournal$Accounts", "has", "(I)Z"⟩ ∈ pjW0 := pj_in 143 (by decide +kernel) rfl
theorem m_144 : Cond.selects "ReplayJournal$Accounts" ⟨"ReplayJournal$Accounts", "has", "(I)Z"⟩ ⟨"ReplayJournal$Accounts", "has", "(I)Z"⟩ ∈ pjW0 := pj_in 144 (by decide +kernel) rfl
theorem m_145 : Cond.code ⟨"ReplayJournal$Accounts", "has", "(I)Z"⟩ prog_2_method_3_code 2 (some .boolean) ∈ pjW0 := pj_in 145 (by decide +kernel) rfl
theorem m_146 : Cond.methodLink "ReplayJournalLaw" 96 ⟨"ReplayJournal", "isDown", "()Z"⟩ ∈ pjW0 := pj_in 146 (by decide +kernel) rfl
theorem m_147 : Cond.instanceMethod ⟨"ReplayJournal", "isDown", "()Z"⟩ ∈ pjW0 := pj_in 147 (by decide +kernel) rfl
theorem m_148 : Cond.selects "ReplayJournal" ⟨"ReplayJournal", "isDown", "()Z"⟩ ⟨"ReplayJournal", "isDown", "()Z"⟩ ∈ pjW0 := pj_in 148 (by decide +kernel) rfl
theorem m_149 : Cond.code ⟨"ReplayJournal", "isDown", "()Z"⟩ prog_1_method_10_code 1 (some .boolean) ∈ pjW0 := pj_in 149 (by decide +kernel) rfl
theorem m_150 : Cond.methodLink "ReplayJournal" 100 ⟨"ReplayJournal$Disk", "isOff", "()Z"⟩ ∈ pjW0 := pj_in 150 (by decide +kernel) rfl
theorem m_151 : Cond.instanceMethod ⟨"ReplayJournal$Disk", "isOff", "()Z"⟩ ∈ pjW0 := pj_in 151 (by decide +kernel) rfl
theorem m_152 : Cond.selects "ReplayJournal$Disk" ⟨"ReplayJournal$Disk", "isOff", "()Z"⟩ ⟨"ReplayJournal$Disk", "isOff", "()Z"⟩ ∈ pjW0 := pj_in 152 (by decide +kernel) rfl
theorem m_153 : Cond.code ⟨"ReplayJournal$Disk", "isOff", "()Z"⟩ prog_3_method_2_code 1 (some .boolean) ∈ pjW0 := pj_in 153 (by decide +kernel) rfl
theorem m_154 : Cond.methodLink "ReplayJournalLaw" 49 ⟨"ReplayJournalLaw", "cell", "([II)I"⟩ ∈ pjW0 := pj_in 154 (by decide +kernel) rfl
theorem m_155 : Cond.static ⟨"ReplayJournalLaw", "cell", "([II)I"⟩ ∈ pjW0 := pj_in 155 (by decide +kernel) rfl
theorem m_156 : Cond.code ⟨"ReplayJournalLaw", "cell", "([II)I"⟩ method_2_code 2 (some .int) ∈ pjW0 := pj_in 156 (by decide +kernel) rfl
theorem m_157 : Cond.methodLink "ReplayJournalLaw" 63 ⟨"ReplayJournalLaw", "add", "(LReplayJournal;IJ[J)I"⟩ ∈ pjW0 := pj_in 157 (by decide +kernel) rfl
theorem m_158 : Cond.static ⟨"ReplayJournalLaw", "add", "(LReplayJournal;IJ[J)I"⟩ ∈ pjW0 := pj_in 158 (by decide +kernel) rfl
theorem m_159 : Cond.codeWith ⟨"ReplayJournalLaw", "add", "(LReplayJournal;IJ[J)I"⟩ method_3_code 6 (some .int) [(0, 11, 14, 13), (0, 11, 18, 15)] ∈ pjW0 := pj_in 159 (by decide +kernel) rfl
theorem m_160 : Cond.classLink "ReplayJournalLaw" 13 "java/lang/IllegalArgumentException" ∈ pjW0 := pj_in 160 (by decide +kernel) rfl
theorem m_161 : Cond.classLink "ReplayJournalLaw" 15 "java/lang/IllegalStateException" ∈ pjW0 := pj_in 161 (by decide +kernel) rfl
theorem m_162 : Cond.methodLink "ReplayJournalLaw" 7 ⟨"ReplayJournal", "add", "(IJ)I"⟩ ∈ pjW0 := pj_in 162 (by decide +kernel) rfl
theorem m_163 : Cond.instanceMethod ⟨"ReplayJournal", "add", "(IJ)I"⟩ ∈ pjW0 := pj_in 163 (by decide +kernel) rfl
theorem m_164 : Cond.selects "ReplayJournal" ⟨"ReplayJournal", "add", "(IJ)I"⟩ ⟨"ReplayJournal", "add", "(IJ)I"⟩ ∈ pjW0 := pj_in 164 (by decide +kernel) rfl
theorem m_165 : Cond.code ⟨"ReplayJournal", "add", "(IJ)I"⟩ prog_1_method_2_code 4 (some .int) ∈ pjW0 := pj_in 165 (by decide +kernel) rfl
theorem m_166 : Cond.methodLink "ReplayJournal" 54 ⟨"ReplayJournal", "requireAccount", "(I)V"⟩ ∈ pjW0 := pj_in 166 (by decide +kernel) rfl
theorem m_168 : Cond.instanceMethod ⟨"ReplayJournal", "requireAccount", "(I)V"⟩ ∈ pjW0 := pj_in 168 (by decide +kernel) rfl
theorem m_169 : Cond.code ⟨"ReplayJournal", "requireAccount", "(I)V"⟩ prog_1_method_18_code 2 none ∈ pjW0 := pj_in 169 (by decide +kernel) rfl
theorem m_170 : Cond.methodLink "ReplayJournal" 165 ⟨"ReplayJournal$Accounts", "has", "(I)Z"⟩ ∈ pjW0 := pj_in 170 (by decide +kernel) rfl
theorem m_171 : Cond.classLink "ReplayJournal" 72 "java/lang/IllegalArgumentException" ∈ pjW0 := pj_in 171 (by decide +kernel) rfl
theorem m_172 : Cond.instantiable "java/lang/IllegalArgumentException" 6 ∈ pjW0 := pj_in 172 (by decide +kernel) rfl
theorem m_180 : Cond.selects "java/lang/IllegalArgumentException" ⟨"java/lang/Throwable", "fillInStackTrace", "(I)Ljava/lang/Throwable;"⟩ ⟨"java/lang/Throwable", "fillInStackTrace", "(I)Ljava/lang/Throwable;"⟩ ∈ pjW0 := pj_in 180 (by decide +kernel) rfl
theorem m_181 : Cond.selects "java/lang/IllegalArgumentException" ⟨"java/lang/Throwable", "fillInStackTrace", "()Ljava/lang/Throwable;"⟩ ⟨"java/lang/Throwable", "fillInStackTrace", "()Ljava/lang/Throwable;"⟩ ∈ pjW0 := pj_in 181 (by decide +kernel) rfl
theorem m_182 : Cond.lays "java/lang/IllegalArgumentException" "java/lang/Throwable" "cause" "Ljava/lang/Throwable;" ∈ pjW0 := pj_in 182 (by decide +kernel) rfl
theorem m_183 : Cond.lays "java/lang/Throwable" "java/lang/Throwable" "cause" "Ljava/lang/Throwable;" ∈ pjW0 := pj_in 183 (by decide +kernel) rfl
theorem m_184 : Cond.lays "java/lang/IllegalArgumentException" "java/lang/Throwable" "stackTrace" "[Ljava/lang/StackTraceElement;" ∈ pjW0 := pj_in 184 (by decide +kernel) rfl
theorem m_185 : Cond.lays "java/lang/Throwable" "java/lang/Throwable" "stackTrace" "[Ljava/lang/StackTraceElement;" ∈ pjW0 := pj_in 185 (by decide +kernel) rfl
theorem m_186 : Cond.lays "java/lang/IllegalArgumentException" "java/lang/Throwable" "suppressedExceptions" "Ljava/util/List;" ∈ pjW0 := pj_in 186 (by decide +kernel) rfl
theorem m_187 : Cond.lays "java/lang/Throwable" "java/lang/Throwable" "suppressedExceptions" "Ljava/util/List;" ∈ pjW0 := pj_in 187 (by decide +kernel) rfl
theorem m_188 : Cond.lays "java/lang/IllegalArgumentException" "java/lang/Throwable" "detailMessage" "Ljava/lang/String;" ∈ pjW0 := pj_in 188 (by decide +kernel) rfl
theorem m_189 : Cond.lays "java/lang/Throwable" "java/lang/Throwable" "detailMessage" "Ljava/lang/String;" ∈ pjW0 := pj_in 189 (by decide +kernel) rfl
theorem m_190 : Cond.lays "java/lang/IllegalArgumentException" "java/lang/Throwable" "backtrace" "Ljava/lang/Object;" ∈ pjW0 := pj_in 190 (by decide +kernel) rfl
theorem m_191 : Cond.lays "java/lang/Throwable" "java/lang/Throwable" "backtrace" "Ljava/lang/Object;" ∈ pjW0 := pj_in 191 (by decide +kernel) rfl
theorem m_192 : Cond.fieldLink "java/lang/Throwable" 198 "java/lang/Throwable" "backtrace" "Ljava/lang/Object;" ∈ pjW0 := pj_in 192 (by decide +kernel) rfl
theorem m_193 : Cond.superclass "java/lang/Throwable" "java/lang/Object" ∈ pjW0 := pj_in 193 (by decide +kernel) rfl
theorem m_194 : Cond.instanceMethod ⟨"java/lang/Throwable", "<init>", "()V"⟩ ∈ pjW0 := pj_in 194 (by decide +kernel) rfl
theorem m_195 : Cond.code ⟨"java/lang/Throwable", "<init>", "()V"⟩ prog_13_method_1_code 1 none ∈ pjW0 := pj_in 195 (by decide +kernel) rfl
theorem m_196 : Cond.methodLink "java/lang/Throwable" 1 ⟨"java/lang/Object", "<init>", "()V"⟩ ∈ pjW0 := pj_in 196 (by decide +kernel) rfl
theorem m_197 : Cond.fieldLink "java/lang/Throwable" 13 "java/lang/Throwable" "UNASSIGNED_STACK" "[Ljava/lang/StackTraceElement;" ∈ pjW0 := pj_in 197 (by decide +kernel) rfl
theorem m_199 : Cond.fieldLink "java/lang/Throwable" 20 "java/lang/Throwable" "SUPPRESSED_SENTINEL" "Ljava/util/List;" ∈ pjW0 := pj_in 199 (by decide +kernel) rfl
theorem m_201 : Cond.methodLink "java/lang/Throwable" 27 ⟨"java/lang/Throwable", "fillInStackTrace", "()Ljava/lang/Throwable;"⟩ ∈ pjW0 := pj_in 201 (by decide +kernel) rfl
theorem m_202 : Cond.instanceMethod ⟨"java/lang/Throwable", "fillInStackTrace", "()Ljava/lang/Throwable;"⟩ ∈ pjW0 := pj_in 202 (by decide +kernel) rfl
theorem m_203 : Cond.sameMethod "java/lang/Throwable" "java/lang/Throwable" "fillInStackTrace" "()Ljava/lang/Throwable;" ∈ pjW0 := pj_in 203 (by decide +kernel) rfl
theorem m_204 : Cond.selects "java/lang/IllegalStateException" ⟨"java/lang/Throwable", "fillInStackTrace", "()Ljava/lang/Throwable;"⟩ ⟨"java/lang/Throwable", "fillInStackTrace", "()Ljava/lang/Throwable;"⟩ ∈ pjW0 := pj_in 204 (by decide +kernel) rfl
theorem m_205 : Cond.codeSync ⟨"java/lang/Throwable", "fillInStackTrace", "()Ljava/lang/Throwable;"⟩ prog_13_method_18_code 1 (Option.some (.object "java/lang/Throwable")) ∈ pjW0 := pj_in 205 (by decide +kernel) rfl
theorem m_206 : Cond.methodLink "java/lang/Throwable" 202 ⟨"java/lang/Throwable", "fillInStackTrace", "(I)Ljava/lang/Throwable;"⟩ ∈ pjW0 := pj_in 206 (by decide +kernel) rfl
theorem m_208 : Cond.instanceMethod ⟨"java/lang/Throwable", "fillInStackTrace", "(I)Ljava/lang/Throwable;"⟩ ∈ pjW0 := pj_in 208 (by decide +kernel) rfl
theorem m_209 : Cond.instantiable "java/lang/Throwable" 6 ∈ pjW0 := pj_in 209 (by decide +kernel) rfl
theorem m_210 : Cond.native ⟨"java/lang/Throwable", "fillInStackTrace", "(I)Ljava/lang/Throwable;"⟩ ∈ pjW0 := pj_in 210 (by decide +kernel) rfl
theorem m_212 : Cond.methodLink "ReplayJournal" 76 ⟨"java/lang/IllegalArgumentException", "<init>", "(Ljava/lang/String;)V"⟩ ∈ pjW0 := pj_in 212 (by decide +kernel) rfl
theorem m_213 : Cond.instanceMethod ⟨"java/lang/IllegalArgumentException", "<init>", "(Ljava/lang/String;)V"⟩ ∈ pjW0 := pj_in 213 (by decide +kernel) rfl
theorem m_214 : Cond.code ⟨"java/lang/IllegalArgumentException", "<init>", "(Ljava/lang/String;)V"⟩ prog_8_method_2_code 2 none ∈ pjW0 := pj_in 214 (by decide +kernel) rfl
theorem m_215 : Cond.methodLink "java/lang/IllegalArgumentException" 7 ⟨"java/lang/RuntimeException", "<init>", "(Ljava/lang/String;)V"⟩ ∈ pjW0 := pj_in 215 (by decide +kernel) rfl
theorem m_216 : Cond.instanceMethod ⟨"java/lang/RuntimeException", "<init>", "(Ljava/lang/String;)V"⟩ ∈ pjW0 := pj_in 216 (by decide +kernel) rfl
theorem m_217 : Cond.code ⟨"java/lang/RuntimeException", "<init>", "(Ljava/lang/String;)V"⟩ prog_11_method_2_code 2 none ∈ pjW0 := pj_in 217 (by decide +kernel) rfl
theorem m_218 : Cond.methodLink "java/lang/RuntimeException" 7 ⟨"java/lang/Exception", "<init>", "(Ljava/lang/String;)V"⟩ ∈ pjW0 := pj_in 218 (by decide +kernel) rfl
theorem m_219 : Cond.instanceMethod ⟨"java/lang/Exception", "<init>", "(Ljava/lang/String;)V"⟩ ∈ pjW0 := pj_in 219 (by decide +kernel) rfl
theorem m_220 : Cond.code ⟨"java/lang/Exception", "<init>", "(Ljava/lang/String;)V"⟩ prog_7_method_2_code 2 none ∈ pjW0 := pj_in 220 (by decide +kernel) rfl
theorem m_221 : Cond.methodLink "java/lang/Exception" 7 ⟨"java/lang/Throwable", "<init>", "(Ljava/lang/String;)V"⟩ ∈ pjW0 := pj_in 221 (by decide +kernel) rfl
theorem m_222 : Cond.instanceMethod ⟨"java/lang/Throwable", "<init>", "(Ljava/lang/String;)V"⟩ ∈ pjW0 := pj_in 222 (by decide +kernel) rfl
theorem m_223 : Cond.code ⟨"java/lang/Throwable", "<init>", "(Ljava/lang/String;)V"⟩ prog_13_method_2_code 2 none ∈ pjW0 := pj_in 223 (by decide +kernel) rfl
theorem m_225 : Cond.fieldLink "java/lang/Throwable" 31 "java/lang/Throwable" "detailMessage" "Ljava/lang/String;" ∈ pjW0 := pj_in 225 (by decide +kernel) rfl
theorem m_226 : Cond.fieldLink "java/lang/Throwable" 7 "java/lang/Throwable" "cause" "Ljava/lang/Throwable;" ∈ pjW0 := pj_in 226 (by decide +kernel) rfl
theorem m_227 : Cond.fieldLink "java/lang/Throwable" 17 "java/lang/Throwable" "stackTrace" "[Ljava/lang/StackTraceElement;" ∈ pjW0 := pj_in 227 (by decide +kernel) rfl
theorem m_228 : Cond.fieldLink "java/lang/Throwable" 24 "java/lang/Throwable" "suppressedExceptions" "Ljava/util/List;" ∈ pjW0 := pj_in 228 (by decide +kernel) rfl
theorem m_229 : Cond.soleField "java/lang/Throwable" "backtrace" ∈ pjW0 := pj_in 229 (by decide +kernel) rfl
theorem m_230 : Cond.soleField "java/lang/Throwable" "detailMessage" ∈ pjW0 := pj_in 230 (by decide +kernel) rfl
theorem m_231 : Cond.soleField "java/lang/Throwable" "cause" ∈ pjW0 := pj_in 231 (by decide +kernel) rfl
theorem m_232 : Cond.soleField "java/lang/Throwable" "stackTrace" ∈ pjW0 := pj_in 232 (by decide +kernel) rfl
theorem m_233 : Cond.lays "java/lang/IllegalArgumentException" "java/lang/Throwable" "depth" "I" ∈ pjW0 := pj_in 233 (by decide +kernel) rfl
theorem m_234 : Cond.soleField "java/lang/Throwable" "depth" ∈ pjW0 := pj_in 234 (by decide +kernel) rfl
theorem m_235 : Cond.soleField "java/lang/Throwable" "suppressedExceptions" ∈ pjW0 := pj_in 235 (by decide +kernel) rfl
theorem m_236 : Cond.superclass "java/lang/IllegalArgumentException" "java/lang/RuntimeException" ∈ pjW0 := pj_in 236 (by decide +kernel) rfl
theorem m_237 : Cond.arrayClass .byte ∈ pjW0 := pj_in 237 (by decide +kernel) rfl
theorem m_238 : Cond.constantLong "ReplayJournal" 57 (-1000000000000) ∈ pjW0 := pj_in 238 (by decide +kernel) rfl
theorem m_239 : Cond.constantLong "ReplayJournal" 59 (1000000000000) ∈ pjW0 := pj_in 239 (by decide +kernel) rfl
theorem m_240 : Cond.methodLink "ReplayJournal" 61 ⟨"ReplayJournal", "requireBounds", "(JJJ)V"⟩ ∈ pjW0 := pj_in 240 (by decide +kernel) rfl
theorem m_241 : Cond.static ⟨"ReplayJournal", "requireBounds", "(JJJ)V"⟩ ∈ pjW0 := pj_in 241 (by decide +kernel) rfl
theorem m_242 : Cond.code ⟨"ReplayJournal", "requireBounds", "(JJJ)V"⟩ prog_1_method_19_code 6 none ∈ pjW0 := pj_in 242 (by decide +kernel) rfl
theorem m_244 : Cond.methodLink "ReplayJournal" 65 ⟨"ReplayJournal", "requirePower", "()V"⟩ ∈ pjW0 := pj_in 244 (by decide +kernel) rfl
theorem m_246 : Cond.instanceMethod ⟨"ReplayJournal", "requirePower", "()V"⟩ ∈ pjW0 := pj_in 246 (by decide +kernel) rfl
theorem m_247 : Cond.code ⟨"ReplayJournal", "requirePower", "()V"⟩ prog_1_method_20_code 1 none ∈ pjW0 := pj_in 247 (by decide +kernel) rfl
theorem m_248 : Cond.classLink "ReplayJournal" 172 "java/lang/IllegalStateException" ∈ pjW0 := pj_in 248 (by decide +kernel) rfl
theorem m_249 : Cond.instantiable "java/lang/IllegalStateException" 6 ∈ pjW0 := pj_in 249 (by decide +kernel) rfl
theorem m_251 : Cond.selects "java/lang/IllegalStateException" ⟨"java/lang/Throwable", "fillInStackTrace", "(I)Ljava/lang/Throwable;"⟩ ⟨"java/lang/Throwable", "fillInStackTrace", "(I)Ljava/lang/Throwable;"⟩ ∈ pjW0 := pj_in 251 (by decide +kernel) rfl
theorem m_252 : Cond.lays "java/lang/IllegalStateException" "java/lang/Throwable" "cause" "Ljava/lang/Throwable;" ∈ pjW0 := pj_in 252 (by decide +kernel) rfl
theorem m_253 : Cond.lays "java/lang/IllegalStateException" "java/lang/Throwable" "stackTrace" "[Ljava/lang/StackTraceElement;" ∈ pjW0 := pj_in 253 (by decide +kernel) rfl
theorem m_254 : Cond.lays "java/lang/IllegalStateException" "java/lang/Throwable" "suppressedExceptions" "Ljava/util/List;" ∈ pjW0 := pj_in 254 (by decide +kernel) rfl
theorem m_255 : Cond.lays "java/lang/IllegalStateException" "java/lang/Throwable" "detailMessage" "Ljava/lang/String;" ∈ pjW0 := pj_in 255 (by decide +kernel) rfl
theorem m_256 : Cond.lays "java/lang/IllegalStateException" "java/lang/Throwable" "backtrace" "Ljava/lang/Object;" ∈ pjW0 := pj_in 256 (by decide +kernel) rfl
theorem m_258 : Cond.methodLink "ReplayJournal" 176 ⟨"java/lang/IllegalStateException", "<init>", "(Ljava/lang/String;)V"⟩ ∈ pjW0 := pj_in 258 (by decide +kernel) rfl
theorem m_259 : Cond.instanceMethod ⟨"java/lang/IllegalStateException", "<init>", "(Ljava/lang/String;)V"⟩ ∈ pjW0 := pj_in 259 (by decide +kernel) rfl
theorem m_260 : Cond.code ⟨"java/lang/IllegalStateException", "<init>", "(Ljava/lang/String;)V"⟩ prog_9_method_2_code 2 none ∈ pjW0 := pj_in 260 (by decide +kernel) rfl
theorem m_261 : Cond.methodLink "java/lang/IllegalStateException" 7 ⟨"java/lang/RuntimeException", "<init>", "(Ljava/lang/String;)V"⟩ ∈ pjW0 := pj_in 261 (by decide +kernel) rfl
theorem m_262 : Cond.lays "java/lang/IllegalStateException" "java/lang/Throwable" "depth" "I" ∈ pjW0 := pj_in 262 (by decide +kernel) rfl
theorem m_263 : Cond.superclass "java/lang/IllegalStateException" "java/lang/RuntimeException" ∈ pjW0 := pj_in 263 (by decide +kernel) rfl
theorem m_264 : Cond.methodLink "ReplayJournal" 68 ⟨"ReplayJournal", "change", "(IIJ)I"⟩ ∈ pjW0 := pj_in 264 (by decide +kernel) rfl
theorem m_266 : Cond.instanceMethod ⟨"ReplayJournal", "change", "(IIJ)I"⟩ ∈ pjW0 := pj_in 266 (by decide +kernel) rfl
theorem m_267 : Cond.code ⟨"ReplayJournal", "change", "(IIJ)I"⟩ prog_1_method_14_code 5 (some .int) ∈ pjW0 := pj_in 267 (by decide +kernel) rfl
theorem m_268 : Cond.methodLink "ReplayJournal" 144 ⟨"ReplayJournal", "changeNow", "(IIJ)I"⟩ ∈ pjW0 := pj_in 268 (by decide +kernel) rfl
theorem m_270 : Cond.instanceMethod ⟨"ReplayJournal", "changeNow", "(IIJ)I"⟩ ∈ pjW0 := pj_in 270 (by decide +kernel) rfl
theorem m_271 : Cond.code ⟨"ReplayJournal", "changeNow", "(IIJ)I"⟩ prog_1_method_15_code 5 (some .int) ∈ pjW0 := pj_in 271 (by decide +kernel) rfl
theorem m_272 : Cond.methodLink "ReplayJournal" 150 ⟨"ReplayJournal$Accounts", "wouldOverdraw", "(IIJ)Z"⟩ ∈ pjW0 := pj_in 272 (by decide +kernel) rfl
theorem m_273 : Cond.instanceMethod ⟨"ReplayJournal$Accounts", "wouldOverdraw", "(IIJ)Z"⟩ ∈ pjW0 := pj_in 273 (by decide +kernel) rfl
theorem m_274 : Cond.selects "ReplayJournal$Accounts" ⟨"ReplayJournal$Accounts", "wouldOverdraw", "(IIJ)Z"⟩ ⟨"ReplayJournal$Accounts", "wouldOverdraw", "(IIJ)Z"⟩ ∈ pjW0 := pj_in 274 (by decide +kernel) rfl
theorem m_275 : Cond.code ⟨"ReplayJournal$Accounts", "wouldOverdraw", "(IIJ)Z"⟩ prog_2_method_6_code 5 (some .boolean) ∈ pjW0 := pj_in 275 (by decide +kernel) rfl
theorem m_276 : Cond.methodLink "ReplayJournal" 154 ⟨"ReplayJournal$Journal", "writeChange", "(IIJZ)Z"⟩ ∈ pjW0 := pj_in 276 (by decide +kernel) rfl
theorem m_277 : Cond.instanceMethod ⟨"ReplayJournal$Journal", "writeChange", "(IIJZ)Z"⟩ ∈ pjW0 := pj_in 277 (by decide +kernel) rfl
theorem m_278 : Cond.selects "ReplayJournal$Journal" ⟨"ReplayJournal$Journal", "writeChange", "(IIJZ)Z"⟩ ⟨"ReplayJournal$Journal", "writeChange", "(IIJZ)Z"⟩ ∈ pjW0 := pj_in 278 (by decide +kernel) rfl
theorem m_279 : Cond.code ⟨"ReplayJournal$Journal", "writeChange", "(IIJZ)Z"⟩ prog_4_method_4_code 6 (some .boolean) ∈ pjW0 := pj_in 279 (by decide +kernel) rfl
theorem m_280 : Cond.methodLink "ReplayJournal" 97 ⟨"ReplayJournal$Disk", "writeBlock", "()V"⟩ ∈ pjW0 := pj_in 280 (by decide +kernel) rfl
theorem m_281 : Cond.instanceMethod ⟨"ReplayJournal$Disk", "writeBlock", "()V"⟩ ∈ pjW0 := pj_in 281 (by decide +kernel) rfl
theorem m_282 : Cond.selects "ReplayJournal$Disk" ⟨"ReplayJournal$Disk", "writeBlock", "()V"⟩ ⟨"ReplayJournal$Disk", "writeBlock", "()V"⟩ ∈ pjW0 := pj_in 282 (by decide +kernel) rfl
theorem m_283 : Cond.code ⟨"ReplayJournal$Disk", "writeBlock", "()V"⟩ prog_3_method_6_code 1 none ∈ pjW0 := pj_in 283 (by decide +kernel) rfl
theorem m_284 : Cond.methodLink "ReplayJournal" 158 ⟨"ReplayJournal$Accounts", "apply", "(IIJ)V"⟩ ∈ pjW0 := pj_in 284 (by decide +kernel) rfl
theorem m_285 : Cond.methodLink "ReplayJournal" 147 ⟨"ReplayJournal", "changeInGroup", "(IIJ)I"⟩ ∈ pjW0 := pj_in 285 (by decide +kernel) rfl
theorem m_287 : Cond.instanceMethod ⟨"ReplayJournal", "changeInGroup", "(IIJ)I"⟩ ∈ pjW0 := pj_in 287 (by decide +kernel) rfl
theorem m_288 : Cond.code ⟨"ReplayJournal", "changeInGroup", "(IIJ)I"⟩ prog_1_method_16_code 5 (some .int) ∈ pjW0 := pj_in 288 (by decide +kernel) rfl
theorem m_289 : Cond.methodLink "ReplayJournalLaw" 70 ⟨"ReplayJournalLaw", "move", "(LReplayJournal;IIJ[J)I"⟩ ∈ pjW0 := pj_in 289 (by decide +kernel) rfl
theorem m_290 : Cond.static ⟨"ReplayJournalLaw", "move", "(LReplayJournal;IIJ[J)I"⟩ ∈ pjW0 := pj_in 290 (by decide +kernel) rfl
theorem m_291 : Cond.codeWith ⟨"ReplayJournalLaw", "move", "(LReplayJournal;IIJ[J)I"⟩ method_4_code 7 (some .int) [(0, 12, 15, 13), (0, 12, 19, 15)] ∈ pjW0 := pj_in 291 (by decide +kernel) rfl
theorem m_292 : Cond.methodLink "ReplayJournalLaw" 17 ⟨"ReplayJournal", "move", "(IIJ)I"⟩ ∈ pjW0 := pj_in 292 (by decide +kernel) rfl
theorem m_293 : Cond.instanceMethod ⟨"ReplayJournal", "move", "(IIJ)I"⟩ ∈ pjW0 := pj_in 293 (by decide +kernel) rfl
theorem m_294 : Cond.selects "ReplayJournal" ⟨"ReplayJournal", "move", "(IIJ)I"⟩ ⟨"ReplayJournal", "move", "(IIJ)I"⟩ ∈ pjW0 := pj_in 294 (by decide +kernel) rfl
theorem m_295 : Cond.code ⟨"ReplayJournal", "move", "(IIJ)I"⟩ prog_1_method_3_code 5 (some .int) ∈ pjW0 := pj_in 295 (by decide +kernel) rfl
theorem m_297 : Cond.methodLink "ReplayJournalLaw" 74 ⟨"ReplayJournalLaw", "begin", "(LReplayJournal;)I"⟩ ∈ pjW0 := pj_in 297 (by decide +kernel) rfl
theorem m_298 : Cond.static ⟨"ReplayJournalLaw", "begin", "(LReplayJournal;)I"⟩ ∈ pjW0 := pj_in 298 (by decide +kernel) rfl
theorem m_299 : Cond.codeWith ⟨"ReplayJournalLaw", "begin", "(LReplayJournal;)I"⟩ method_5_code 2 (some .int) [(0, 4, 7, 15)] ∈ pjW0 := pj_in 299 (by decide +kernel) rfl
theorem m_300 : Cond.methodLink "ReplayJournalLaw" 21 ⟨"ReplayJournal", "begin", "()V"⟩ ∈ pjW0 := pj_in 300 (by decide +kernel) rfl
theorem m_301 : Cond.instanceMethod ⟨"ReplayJournal", "begin", "()V"⟩ ∈ pjW0 := pj_in 301 (by decide +kernel) rfl
theorem m_302 : Cond.selects "ReplayJournal" ⟨"ReplayJournal", "begin", "()V"⟩ ⟨"ReplayJournal", "begin", "()V"⟩ ∈ pjW0 := pj_in 302 (by decide +kernel) rfl
theorem m_303 : Cond.code ⟨"ReplayJournal", "begin", "()V"⟩ prog_1_method_4_code 1 none ∈ pjW0 := pj_in 303 (by decide +kernel) rfl
theorem m_304 : Cond.methodLink "ReplayJournal" 79 ⟨"ReplayJournal", "requireNoGroup", "()V"⟩ ∈ pjW0 := pj_in 304 (by decide +kernel) rfl
theorem m_306 : Cond.instanceMethod ⟨"ReplayJournal", "requireNoGroup", "()V"⟩ ∈ pjW0 := pj_in 306 (by decide +kernel) rfl
theorem m_307 : Cond.code ⟨"ReplayJournal", "requireNoGroup", "()V"⟩ prog_1_method_22_code 1 none ∈ pjW0 := pj_in 307 (by decide +kernel) rfl
theorem m_309 : Cond.methodLink "ReplayJournalLaw" 78 ⟨"ReplayJournalLaw", "end", "(LReplayJournal;[J)I"⟩ ∈ pjW0 := pj_in 309 (by decide +kernel) rfl
theorem m_310 : Cond.static ⟨"ReplayJournalLaw", "end", "(LReplayJournal;[J)I"⟩ ∈ pjW0 := pj_in 310 (by decide +kernel) rfl
theorem m_311 : Cond.codeWith ⟨"ReplayJournalLaw", "end", "(LReplayJournal;[J)I"⟩ method_6_code 3 (some .int) [(0, 8, 11, 15)] ∈ pjW0 := pj_in 311 (by decide +kernel) rfl
theorem m_312 : Cond.methodLink "ReplayJournalLaw" 24 ⟨"ReplayJournal", "end", "()I"⟩ ∈ pjW0 := pj_in 312 (by decide +kernel) rfl
theorem m_313 : Cond.instanceMethod ⟨"ReplayJournal", "end", "()I"⟩ ∈ pjW0 := pj_in 313 (by decide +kernel) rfl
theorem m_314 : Cond.selects "ReplayJournal" ⟨"ReplayJournal", "end", "()I"⟩ ⟨"ReplayJournal", "end", "()I"⟩ ∈ pjW0 := pj_in 314 (by decide +kernel) rfl
theorem m_315 : Cond.code ⟨"ReplayJournal", "end", "()I"⟩ prog_1_method_5_code 2 (some .int) ∈ pjW0 := pj_in 315 (by decide +kernel) rfl
theorem m_316 : Cond.methodLink "ReplayJournal" 82 ⟨"ReplayJournal", "requireGroup", "()V"⟩ ∈ pjW0 := pj_in 316 (by decide +kernel) rfl
theorem m_318 : Cond.instanceMethod ⟨"ReplayJournal", "requireGroup", "()V"⟩ ∈ pjW0 := pj_in 318 (by decide +kernel) rfl
theorem m_319 : Cond.code ⟨"ReplayJournal", "requireGroup", "()V"⟩ prog_1_method_21_code 1 none ∈ pjW0 := pj_in 319 (by decide +kernel) rfl
theorem m_321 : Cond.methodLink "ReplayJournal" 89 ⟨"ReplayJournal$Journal", "tryLast", "(ILReplayJournal$Accounts;)Z"⟩ ∈ pjW0 := pj_in 321 (by decide +kernel) rfl
theorem m_322 : Cond.instanceMethod ⟨"ReplayJournal$Journal", "tryLast", "(ILReplayJournal$Accounts;)Z"⟩ ∈ pjW0 := pj_in 322 (by decide +kernel) rfl
theorem m_323 : Cond.selects "ReplayJournal$Journal" ⟨"ReplayJournal$Journal", "tryLast", "(ILReplayJournal$Accounts;)Z"⟩ ⟨"ReplayJournal$Journal", "tryLast", "(ILReplayJournal$Accounts;)Z"⟩ ∈ pjW0 := pj_in 323 (by decide +kernel) rfl
theorem m_324 : Cond.code ⟨"ReplayJournal$Journal", "tryLast", "(ILReplayJournal$Accounts;)Z"⟩ prog_4_method_6_code 4 (some .boolean) ∈ pjW0 := pj_in 324 (by decide +kernel) rfl
theorem m_325 : Cond.methodLink "ReplayJournal$Journal" 28 ⟨"ReplayJournal$Journal", "firstOfLast", "(I)I"⟩ ∈ pjW0 := pj_in 325 (by decide +kernel) rfl
theorem m_327 : Cond.instanceMethod ⟨"ReplayJournal$Journal", "firstOfLast", "(I)I"⟩ ∈ pjW0 := pj_in 327 (by decide +kernel) rfl
theorem m_328 : Cond.code ⟨"ReplayJournal$Journal", "firstOfLast", "(I)I"⟩ prog_4_method_8_code 2 (some .int) ∈ pjW0 := pj_in 328 (by decide +kernel) rfl
theorem m_329 : Cond.methodLink "ReplayJournal$Journal" 42 ⟨"java/lang/Math", "max", "(II)I"⟩ ∈ pjW0 := pj_in 329 (by decide +kernel) rfl
theorem m_330 : Cond.methodLink "ReplayJournal$Journal" 32 ⟨"ReplayJournal$Accounts", "wouldOverdraw", "(IIJ)Z"⟩ ∈ pjW0 := pj_in 330 (by decide +kernel) rfl
theorem m_331 : Cond.methodLink "ReplayJournal" 93 ⟨"ReplayJournal$Journal", "writeEnd", "(I)Z"⟩ ∈ pjW0 := pj_in 331 (by decide +kernel) rfl
theorem m_332 : Cond.instanceMethod ⟨"ReplayJournal$Journal", "writeEnd", "(I)Z"⟩ ∈ pjW0 := pj_in 332 (by decide +kernel) rfl
theorem m_333 : Cond.selects "ReplayJournal$Journal" ⟨"ReplayJournal$Journal", "writeEnd", "(I)Z"⟩ ⟨"ReplayJournal$Journal", "writeEnd", "(I)Z"⟩ ∈ pjW0 := pj_in 333 (by decide +kernel) rfl
theorem m_334 : Cond.code ⟨"ReplayJournal$Journal", "writeEnd", "(I)Z"⟩ prog_4_method_5_code 3 (some .boolean) ∈ pjW0 := pj_in 334 (by decide +kernel) rfl
theorem m_335 : Cond.methodLink "ReplayJournalLaw" 82 ⟨"ReplayJournalLaw", "drop", "(LReplayJournal;[J)I"⟩ ∈ pjW0 := pj_in 335 (by decide +kernel) rfl
theorem m_336 : Cond.static ⟨"ReplayJournalLaw", "drop", "(LReplayJournal;[J)I"⟩ ∈ pjW0 := pj_in 336 (by decide +kernel) rfl
theorem m_337 : Cond.codeWith ⟨"ReplayJournalLaw", "drop", "(LReplayJournal;[J)I"⟩ method_7_code 3 (some .int) [(0, 8, 11, 15)] ∈ pjW0 := pj_in 337 (by decide +kernel) rfl
theorem m_338 : Cond.methodLink "ReplayJournalLaw" 28 ⟨"ReplayJournal", "drop", "()I"⟩ ∈ pjW0 := pj_in 338 (by decide +kernel) rfl
theorem m_339 : Cond.instanceMethod ⟨"ReplayJournal", "drop", "()I"⟩ ∈ pjW0 := pj_in 339 (by decide +kernel) rfl
theorem m_340 : Cond.selects "ReplayJournal" ⟨"ReplayJournal", "drop", "()I"⟩ ⟨"ReplayJournal", "drop", "()I"⟩ ∈ pjW0 := pj_in 340 (by decide +kernel) rfl
theorem m_341 : Cond.code ⟨"ReplayJournal", "drop", "()I"⟩ prog_1_method_6_code 2 (some .int) ∈ pjW0 := pj_in 341 (by decide +kernel) rfl
theorem m_342 : Cond.methodLink "ReplayJournalLaw" 85 ⟨"ReplayJournalLaw", "snapshot", "(LReplayJournal;[J)I"⟩ ∈ pjW0 := pj_in 342 (by decide +kernel) rfl
theorem m_343 : Cond.static ⟨"ReplayJournalLaw", "snapshot", "(LReplayJournal;[J)I"⟩ ∈ pjW0 := pj_in 343 (by decide +kernel) rfl
theorem m_344 : Cond.codeWith ⟨"ReplayJournalLaw", "snapshot", "(LReplayJournal;[J)I"⟩ method_8_code 3 (some .int) [(0, 8, 11, 15)] ∈ pjW0 := pj_in 344 (by decide +kernel) rfl
theorem m_345 : Cond.methodLink "ReplayJournalLaw" 31 ⟨"ReplayJournal", "snapshot", "()I"⟩ ∈ pjW0 := pj_in 345 (by decide +kernel) rfl
theorem m_346 : Cond.instanceMethod ⟨"ReplayJournal", "snapshot", "()I"⟩ ∈ pjW0 := pj_in 346 (by decide +kernel) rfl
theorem m_347 : Cond.selects "ReplayJournal" ⟨"ReplayJournal", "snapshot", "()I"⟩ ⟨"ReplayJournal", "snapshot", "()I"⟩ ∈ pjW0 := pj_in 347 (by decide +kernel) rfl
theorem m_348 : Cond.code ⟨"ReplayJournal", "snapshot", "()I"⟩ prog_1_method_7_code 2 (some .int) ∈ pjW0 := pj_in 348 (by decide +kernel) rfl
theorem m_349 : Cond.methodLink "ReplayJournal" 104 ⟨"ReplayJournal", "snapshotBlocks", "()I"⟩ ∈ pjW0 := pj_in 349 (by decide +kernel) rfl
theorem m_351 : Cond.instanceMethod ⟨"ReplayJournal", "snapshotBlocks", "()I"⟩ ∈ pjW0 := pj_in 351 (by decide +kernel) rfl
theorem m_352 : Cond.code ⟨"ReplayJournal", "snapshotBlocks", "()I"⟩ prog_1_method_17_code 1 (some .int) ∈ pjW0 := pj_in 352 (by decide +kernel) rfl
theorem m_353 : Cond.methodLink "ReplayJournal" 162 ⟨"ReplayJournal$Accounts", "size", "()I"⟩ ∈ pjW0 := pj_in 353 (by decide +kernel) rfl
theorem m_354 : Cond.instanceMethod ⟨"ReplayJournal$Accounts", "size", "()I"⟩ ∈ pjW0 := pj_in 354 (by decide +kernel) rfl
theorem m_355 : Cond.selects "ReplayJournal$Accounts" ⟨"ReplayJournal$Accounts", "size", "()I"⟩ ⟨"ReplayJournal$Accounts", "size", "()I"⟩ ∈ pjW0 := pj_in 355 (by decide +kernel) rfl
theorem m_356 : Cond.code ⟨"ReplayJournal$Accounts", "size", "()I"⟩ prog_2_method_2_code 1 (some .int) ∈ pjW0 := pj_in 356 (by decide +kernel) rfl
theorem m_357 : Cond.methodLink "ReplayJournal" 108 ⟨"ReplayJournal$Disk", "writeBlocks", "(I)I"⟩ ∈ pjW0 := pj_in 357 (by decide +kernel) rfl
theorem m_358 : Cond.instanceMethod ⟨"ReplayJournal$Disk", "writeBlocks", "(I)I"⟩ ∈ pjW0 := pj_in 358 (by decide +kernel) rfl
theorem m_359 : Cond.selects "ReplayJournal$Disk" ⟨"ReplayJournal$Disk", "writeBlocks", "(I)I"⟩ ⟨"ReplayJournal$Disk", "writeBlocks", "(I)I"⟩ ∈ pjW0 := pj_in 359 (by decide +kernel) rfl
theorem m_360 : Cond.code ⟨"ReplayJournal$Disk", "writeBlocks", "(I)I"⟩ prog_3_method_7_code 3 (some .int) ∈ pjW0 := pj_in 360 (by decide +kernel) rfl
theorem m_361 : Cond.methodLink "ReplayJournal$Disk" 18 ⟨"ReplayJournal$Disk", "isOff", "()Z"⟩ ∈ pjW0 := pj_in 361 (by decide +kernel) rfl
theorem m_362 : Cond.methodLink "ReplayJournal$Disk" 22 ⟨"ReplayJournal$Disk", "writeBlock", "()V"⟩ ∈ pjW0 := pj_in 362 (by decide +kernel) rfl
theorem m_363 : Cond.methodLink "ReplayJournal" 112 ⟨"ReplayJournal$Journal", "clear", "()V"⟩ ∈ pjW0 := pj_in 363 (by decide +kernel) rfl
theorem m_364 : Cond.instanceMethod ⟨"ReplayJournal$Journal", "clear", "()V"⟩ ∈ pjW0 := pj_in 364 (by decide +kernel) rfl
theorem m_365 : Cond.selects "ReplayJournal$Journal" ⟨"ReplayJournal$Journal", "clear", "()V"⟩ ⟨"ReplayJournal$Journal", "clear", "()V"⟩ ∈ pjW0 := pj_in 365 (by decide +kernel) rfl
theorem m_366 : Cond.code ⟨"ReplayJournal$Journal", "clear", "()V"⟩ prog_4_method_3_code 1 none ∈ pjW0 := pj_in 366 (by decide +kernel) rfl
theorem m_367 : Cond.methodLink "ReplayJournalLaw" 88 ⟨"ReplayJournalLaw", "crash", "(LReplayJournal;I)I"⟩ ∈ pjW0 := pj_in 367 (by decide +kernel) rfl
theorem m_368 : Cond.static ⟨"ReplayJournalLaw", "crash", "(LReplayJournal;I)I"⟩ ∈ pjW0 := pj_in 368 (by decide +kernel) rfl
theorem m_369 : Cond.codeWith ⟨"ReplayJournalLaw", "crash", "(LReplayJournal;I)I"⟩ method_9_code 3 (some .int) [(0, 5, 8, 13), (0, 5, 11, 15)] ∈ pjW0 := pj_in 369 (by decide +kernel) rfl
theorem m_370 : Cond.methodLink "ReplayJournalLaw" 34 ⟨"ReplayJournal", "crash", "(I)V"⟩ ∈ pjW0 := pj_in 370 (by decide +kernel) rfl
theorem m_371 : Cond.instanceMethod ⟨"ReplayJournal", "crash", "(I)V"⟩ ∈ pjW0 := pj_in 371 (by decide +kernel) rfl
theorem m_372 : Cond.selects "ReplayJournal" ⟨"ReplayJournal", "crash", "(I)V"⟩ ⟨"ReplayJournal", "crash", "(I)V"⟩ ∈ pjW0 := pj_in 372 (by decide +kernel) rfl
theorem m_373 : Cond.code ⟨"ReplayJournal", "crash", "(I)V"⟩ prog_1_method_8_code 2 none ∈ pjW0 := pj_in 373 (by decide +kernel) rfl
theorem m_374 : Cond.constantLong "ReplayJournal" 115 (-1) ∈ pjW0 := pj_in 374 (by decide +kernel) rfl
theorem m_375 : Cond.constantLong "ReplayJournal" 117 (1000) ∈ pjW0 := pj_in 375 (by decide +kernel) rfl
theorem m_376 : Cond.methodLink "ReplayJournal" 119 ⟨"ReplayJournal$Disk", "failAfter", "(I)V"⟩ ∈ pjW0 := pj_in 376 (by decide +kernel) rfl
theorem m_377 : Cond.instanceMethod ⟨"ReplayJournal$Disk", "failAfter", "(I)V"⟩ ∈ pjW0 := pj_in 377 (by decide +kernel) rfl
theorem m_378 : Cond.selects "ReplayJournal$Disk" ⟨"ReplayJournal$Disk", "failAfter", "(I)V"⟩ ⟨"ReplayJournal$Disk", "failAfter", "(I)V"⟩ ∈ pjW0 := pj_in 378 (by decide +kernel) rfl
theorem m_379 : Cond.code ⟨"ReplayJournal$Disk", "failAfter", "(I)V"⟩ prog_3_method_4_code 2 none ∈ pjW0 := pj_in 379 (by decide +kernel) rfl
theorem m_380 : Cond.methodLink "ReplayJournalLaw" 101 ⟨"ReplayJournalLaw", "amount", "(LReplayJournal;I[J)I"⟩ ∈ pjW0 := pj_in 380 (by decide +kernel) rfl
theorem m_381 : Cond.static ⟨"ReplayJournalLaw", "amount", "(LReplayJournal;I[J)I"⟩ ∈ pjW0 := pj_in 381 (by decide +kernel) rfl
theorem m_382 : Cond.codeWith ⟨"ReplayJournalLaw", "amount", "(LReplayJournal;I[J)I"⟩ method_10_code 4 (some .int) [(0, 8, 11, 13), (0, 8, 14, 15)] ∈ pjW0 := pj_in 382 (by decide +kernel) rfl
theorem m_383 : Cond.methodLink "ReplayJournalLaw" 38 ⟨"ReplayJournal", "amount", "(I)J"⟩ ∈ pjW0 := pj_in 383 (by decide +kernel) rfl
theorem m_384 : Cond.instanceMethod ⟨"ReplayJournal", "amount", "(I)J"⟩ ∈ pjW0 := pj_in 384 (by decide +kernel) rfl
theorem m_385 : Cond.selects "ReplayJournal" ⟨"ReplayJournal", "amount", "(I)J"⟩ ⟨"ReplayJournal", "amount", "(I)J"⟩ ∈ pjW0 := pj_in 385 (by decide +kernel) rfl
theorem m_386 : Cond.code ⟨"ReplayJournal", "amount", "(I)J"⟩ prog_1_method_11_code 2 (some .long) ∈ pjW0 := pj_in 386 (by decide +kernel) rfl
theorem m_387 : Cond.methodLink "ReplayJournal" 129 ⟨"ReplayJournal$Accounts", "amountOf", "(I)J"⟩ ∈ pjW0 := pj_in 387 (by decide +kernel) rfl
theorem m_388 : Cond.instanceMethod ⟨"ReplayJournal$Accounts", "amountOf", "(I)J"⟩ ∈ pjW0 := pj_in 388 (by decide +kernel) rfl
theorem m_389 : Cond.selects "ReplayJournal$Accounts" ⟨"ReplayJournal$Accounts", "amountOf", "(I)J"⟩ ⟨"ReplayJournal$Accounts", "amountOf", "(I)J"⟩ ∈ pjW0 := pj_in 389 (by decide +kernel) rfl
theorem m_390 : Cond.code ⟨"ReplayJournal$Accounts", "amountOf", "(I)J"⟩ prog_2_method_4_code 2 (some .long) ∈ pjW0 := pj_in 390 (by decide +kernel) rfl
theorem m_391 : Cond.methodLink "ReplayJournalLaw" 105 ⟨"ReplayJournalLaw", "changes", "(LReplayJournal;I[J)I"⟩ ∈ pjW0 := pj_in 391 (by decide +kernel) rfl
theorem m_392 : Cond.static ⟨"ReplayJournalLaw", "changes", "(LReplayJournal;I[J)I"⟩ ∈ pjW0 := pj_in 392 (by decide +kernel) rfl
theorem m_393 : Cond.codeWith ⟨"ReplayJournalLaw", "changes", "(LReplayJournal;I[J)I"⟩ method_11_code 4 (some .int) [(0, 9, 12, 13), (0, 9, 15, 15)] ∈ pjW0 := pj_in 393 (by decide +kernel) rfl
theorem m_394 : Cond.methodLink "ReplayJournalLaw" 42 ⟨"ReplayJournal", "changes", "(I)I"⟩ ∈ pjW0 := pj_in 394 (by decide +kernel) rfl
theorem m_395 : Cond.instanceMethod ⟨"ReplayJournal", "changes", "(I)I"⟩ ∈ pjW0 := pj_in 395 (by decide +kernel) rfl
theorem m_396 : Cond.selects "ReplayJournal" ⟨"ReplayJournal", "changes", "(I)I"⟩ ⟨"ReplayJournal", "changes", "(I)I"⟩ ∈ pjW0 := pj_in 396 (by decide +kernel) rfl
theorem m_397 : Cond.code ⟨"ReplayJournal", "changes", "(I)I"⟩ prog_1_method_12_code 2 (some .int) ∈ pjW0 := pj_in 397 (by decide +kernel) rfl
theorem m_398 : Cond.methodLink "ReplayJournal" 133 ⟨"ReplayJournal$Accounts", "changesOf", "(I)I"⟩ ∈ pjW0 := pj_in 398 (by decide +kernel) rfl
theorem m_399 : Cond.instanceMethod ⟨"ReplayJournal$Accounts", "changesOf", "(I)I"⟩ ∈ pjW0 := pj_in 399 (by decide +kernel) rfl
theorem m_400 : Cond.selects "ReplayJournal$Accounts" ⟨"ReplayJournal$Accounts", "changesOf", "(I)I"⟩ ⟨"ReplayJournal$Accounts", "changesOf", "(I)I"⟩ ∈ pjW0 := pj_in 400 (by decide +kernel) rfl
theorem m_401 : Cond.code ⟨"ReplayJournal$Accounts", "changesOf", "(I)I"⟩ prog_2_method_5_code 2 (some .int) ∈ pjW0 := pj_in 401 (by decide +kernel) rfl
theorem m_402 : Cond.methodLink "ReplayJournalLaw" 108 ⟨"ReplayJournalLaw", "count", "(LReplayJournal;I[J)I"⟩ ∈ pjW0 := pj_in 402 (by decide +kernel) rfl
theorem m_403 : Cond.static ⟨"ReplayJournalLaw", "count", "(LReplayJournal;I[J)I"⟩ ∈ pjW0 := pj_in 403 (by decide +kernel) rfl
theorem m_404 : Cond.codeWith ⟨"ReplayJournalLaw", "count", "(LReplayJournal;I[J)I"⟩ method_12_code 4 (some .int) [(0, 9, 12, 13), (0, 9, 15, 15)] ∈ pjW0 := pj_in 404 (by decide +kernel) rfl
theorem m_405 : Cond.methodLink "ReplayJournalLaw" 46 ⟨"ReplayJournal", "count", "(I)I"⟩ ∈ pjW0 := pj_in 405 (by decide +kernel) rfl
theorem m_406 : Cond.instanceMethod ⟨"ReplayJournal", "count", "(I)I"⟩ ∈ pjW0 := pj_in 406 (by decide +kernel) rfl
theorem m_407 : Cond.selects "ReplayJournal" ⟨"ReplayJournal", "count", "(I)I"⟩ ⟨"ReplayJournal", "count", "(I)I"⟩ ∈ pjW0 := pj_in 407 (by decide +kernel) rfl
theorem m_408 : Cond.code ⟨"ReplayJournal", "count", "(I)I"⟩ prog_1_method_13_code 2 (some .int) ∈ pjW0 := pj_in 408 (by decide +kernel) rfl
theorem m_409 : Cond.constantLong "ReplayJournal" 136 (3) ∈ pjW0 := pj_in 409 (by decide +kernel) rfl
theorem m_410 : Cond.methodLink "ReplayJournal" 138 ⟨"ReplayJournal$Journal", "usedBlocks", "()I"⟩ ∈ pjW0 := pj_in 410 (by decide +kernel) rfl
theorem m_411 : Cond.instanceMethod ⟨"ReplayJournal$Journal", "usedBlocks", "()I"⟩ ∈ pjW0 := pj_in 411 (by decide +kernel) rfl
theorem m_412 : Cond.selects "ReplayJournal$Journal" ⟨"ReplayJournal$Journal", "usedBlocks", "()I"⟩ ⟨"ReplayJournal$Journal", "usedBlocks", "()I"⟩ ∈ pjW0 := pj_in 412 (by decide +kernel) rfl
theorem m_413 : Cond.code ⟨"ReplayJournal$Journal", "usedBlocks", "()I"⟩ prog_4_method_2_code 1 (some .int) ∈ pjW0 := pj_in 413 (by decide +kernel) rfl
theorem m_414 : Cond.methodLink "ReplayJournal" 141 ⟨"ReplayJournal$Disk", "writtenBlocks", "()I"⟩ ∈ pjW0 := pj_in 414 (by decide +kernel) rfl
theorem m_415 : Cond.instanceMethod ⟨"ReplayJournal$Disk", "writtenBlocks", "()I"⟩ ∈ pjW0 := pj_in 415 (by decide +kernel) rfl
theorem m_416 : Cond.selects "ReplayJournal$Disk" ⟨"ReplayJournal$Disk", "writtenBlocks", "()I"⟩ ⟨"ReplayJournal$Disk", "writtenBlocks", "()I"⟩ ∈ pjW0 := pj_in 416 (by decide +kernel) rfl
theorem m_417 : Cond.code ⟨"ReplayJournal$Disk", "writtenBlocks", "()I"⟩ prog_3_method_3_code 1 (some .int) ∈ pjW0 := pj_in 417 (by decide +kernel) rfl
theorem m_418 : Cond.classLink "ReplayJournalLaw" 58 "ReplayJournalModel" ∈ pjW0 := pj_in 418 (by decide +kernel) rfl
theorem m_419 : Cond.instantiable "ReplayJournalModel" 17 ∈ pjW0 := pj_in 419 (by decide +kernel) rfl
theorem m_420 : Cond.methodLink "ReplayJournalLaw" 60 ⟨"ReplayJournalModel", "<init>", "(II)V"⟩ ∈ pjW0 := pj_in 420 (by decide +kernel) rfl
theorem m_421 : Cond.instanceMethod ⟨"ReplayJournalModel", "<init>", "(II)V"⟩ ∈ pjW0 := pj_in 421 (by decide +kernel) rfl
theorem m_422 : Cond.code ⟨"ReplayJournalModel", "<init>", "(II)V"⟩ prog_6_method_1_code 3 none ∈ pjW0 := pj_in 422 (by decide +kernel) rfl
theorem m_423 : Cond.methodLink "ReplayJournalModel" 1 ⟨"java/lang/Object", "<init>", "()V"⟩ ∈ pjW0 := pj_in 423 (by decide +kernel) rfl
theorem m_424 : Cond.fieldLink "ReplayJournalModel" 39 "ReplayJournalModel" "code" "I" ∈ pjW0 := pj_in 424 (by decide +kernel) rfl
theorem m_425 : Cond.fieldLink "ReplayJournalModel" 33 "ReplayJournalModel" "accounts" "I" ∈ pjW0 := pj_in 425 (by decide +kernel) rfl
theorem m_426 : Cond.fieldLink "ReplayJournalModel" 36 "ReplayJournalModel" "blocks" "I" ∈ pjW0 := pj_in 426 (by decide +kernel) rfl
theorem m_427 : Cond.fieldLink "ReplayJournalModel" 7 "ReplayJournalModel" "amount" "[J" ∈ pjW0 := pj_in 427 (by decide +kernel) rfl
theorem m_428 : Cond.fieldLink "ReplayJournalModel" 13 "ReplayJournalModel" "changes" "[I" ∈ pjW0 := pj_in 428 (by decide +kernel) rfl
theorem m_429 : Cond.fieldLink "ReplayJournalModel" 17 "ReplayJournalModel" "trial" "[J" ∈ pjW0 := pj_in 429 (by decide +kernel) rfl
theorem m_430 : Cond.fieldLink "ReplayJournalModel" 55 "ReplayJournalModel" "used" "I" ∈ pjW0 := pj_in 430 (by decide +kernel) rfl
theorem m_431 : Cond.fieldLink "ReplayJournalModel" 46 "ReplayJournalModel" "writes" "I" ∈ pjW0 := pj_in 431 (by decide +kernel) rfl
theorem m_432 : Cond.fieldLink "ReplayJournalModel" 92 "ReplayJournalModel" "snapshots" "I" ∈ pjW0 := pj_in 432 (by decide +kernel) rfl
theorem m_433 : Cond.fieldLink "ReplayJournalModel" 49 "ReplayJournalModel" "since" "I" ∈ pjW0 := pj_in 433 (by decide +kernel) rfl
theorem m_434 : Cond.fieldLink "ReplayJournalModel" 52 "ReplayJournalModel" "grouped" "Z" ∈ pjW0 := pj_in 434 (by decide +kernel) rfl
theorem m_435 : Cond.fieldLink "ReplayJournalModel" 65 "ReplayJournalModel" "group" "I" ∈ pjW0 := pj_in 435 (by decide +kernel) rfl
theorem m_436 : Cond.fieldLink "ReplayJournalModel" 20 "ReplayJournalModel" "from" "[I" ∈ pjW0 := pj_in 436 (by decide +kernel) rfl
theorem m_437 : Cond.fieldLink "ReplayJournalModel" 23 "ReplayJournalModel" "to" "[I" ∈ pjW0 := pj_in 437 (by decide +kernel) rfl
theorem m_438 : Cond.fieldLink "ReplayJournalModel" 26 "ReplayJournalModel" "much" "[J" ∈ pjW0 := pj_in 438 (by decide +kernel) rfl
theorem m_439 : Cond.fieldLink "ReplayJournalModel" 29 "ReplayJournalModel" "left" "I" ∈ pjW0 := pj_in 439 (by decide +kernel) rfl
theorem m_440 : Cond.fieldLink "ReplayJournalModel" 42 "ReplayJournalModel" "down" "Z" ∈ pjW0 := pj_in 440 (by decide +kernel) rfl
theorem m_441 : Cond.lays "ReplayJournalModel" "ReplayJournalModel" "code" "I" ∈ pjW0 := pj_in 441 (by decide +kernel) rfl
theorem m_442 : Cond.soleField "ReplayJournalModel" "code" ∈ pjW0 := pj_in 442 (by decide +kernel) rfl
theorem m_443 : Cond.laysFinal "ReplayJournalModel" "ReplayJournalModel" "accounts" "I" ∈ pjW0 := pj_in 443 (by decide +kernel) rfl
theorem m_444 : Cond.soleField "ReplayJournalModel" "accounts" ∈ pjW0 := pj_in 444 (by decide +kernel) rfl
theorem m_445 : Cond.laysFinal "ReplayJournalModel" "ReplayJournalModel" "blocks" "I" ∈ pjW0 := pj_in 445 (by decide +kernel) rfl
theorem m_446 : Cond.soleField "ReplayJournalModel" "blocks" ∈ pjW0 := pj_in 446 (by decide +kernel) rfl
theorem m_447 : Cond.laysFinal "ReplayJournalModel" "ReplayJournalModel" "amount" "[J" ∈ pjW0 := pj_in 447 (by decide +kernel) rfl
theorem m_448 : Cond.soleField "ReplayJournalModel" "amount" ∈ pjW0 := pj_in 448 (by decide +kernel) rfl
theorem m_449 : Cond.laysFinal "ReplayJournalModel" "ReplayJournalModel" "changes" "[I" ∈ pjW0 := pj_in 449 (by decide +kernel) rfl
theorem m_450 : Cond.soleField "ReplayJournalModel" "changes" ∈ pjW0 := pj_in 450 (by decide +kernel) rfl
theorem m_451 : Cond.laysFinal "ReplayJournalModel" "ReplayJournalModel" "trial" "[J" ∈ pjW0 := pj_in 451 (by decide +kernel) rfl
theorem m_452 : Cond.soleField "ReplayJournalModel" "trial" ∈ pjW0 := pj_in 452 (by decide +kernel) rfl
theorem m_453 : Cond.lays "ReplayJournalModel" "ReplayJournalModel" "used" "I" ∈ pjW0 := pj_in 453 (by decide +kernel) rfl
theorem m_454 : Cond.soleField "ReplayJournalModel" "used" ∈ pjW0 := pj_in 454 (by decide +kernel) rfl
theorem m_455 : Cond.lays "ReplayJournalModel" "ReplayJournalModel" "writes" "I" ∈ pjW0 := pj_in 455 (by decide +kernel) rfl
theorem m_456 : Cond.soleField "ReplayJournalModel" "writes" ∈ pjW0 := pj_in 456 (by decide +kernel) rfl
theorem m_457 : Cond.lays "ReplayJournalModel" "ReplayJournalModel" "snapshots" "I" ∈ pjW0 := pj_in 457 (by decide +kernel) rfl
theorem m_458 : Cond.soleField "ReplayJournalModel" "snapshots" ∈ pjW0 := pj_in 458 (by decide +kernel) rfl
theorem m_459 : Cond.lays "ReplayJournalModel" "ReplayJournalModel" "since" "I" ∈ pjW0 := pj_in 459 (by decide +kernel) rfl
theorem m_460 : Cond.soleField "ReplayJournalModel" "since" ∈ pjW0 := pj_in 460 (by decide +kernel) rfl
theorem m_461 : Cond.lays "ReplayJournalModel" "ReplayJournalModel" "grouped" "Z" ∈ pjW0 := pj_in 461 (by decide +kernel) rfl
theorem m_462 : Cond.soleField "ReplayJournalModel" "grouped" ∈ pjW0 := pj_in 462 (by decide +kernel) rfl
theorem m_463 : Cond.lays "ReplayJournalModel" "ReplayJournalModel" "group" "I" ∈ pjW0 := pj_in 463 (by decide +kernel) rfl
theorem m_464 : Cond.soleField "ReplayJournalModel" "group" ∈ pjW0 := pj_in 464 (by decide +kernel) rfl
theorem m_465 : Cond.laysFinal "ReplayJournalModel" "ReplayJournalModel" "from" "[I" ∈ pjW0 := pj_in 465 (by decide +kernel) rfl
theorem m_466 : Cond.soleField "ReplayJournalModel" "from" ∈ pjW0 := pj_in 466 (by decide +kernel) rfl
theorem m_467 : Cond.laysFinal "ReplayJournalModel" "ReplayJournalModel" "to" "[I" ∈ pjW0 := pj_in 467 (by decide +kernel) rfl
theorem m_468 : Cond.soleField "ReplayJournalModel" "to" ∈ pjW0 := pj_in 468 (by decide +kernel) rfl
theorem m_469 : Cond.laysFinal "ReplayJournalModel" "ReplayJournalModel" "much" "[J" ∈ pjW0 := pj_in 469 (by decide +kernel) rfl
theorem m_470 : Cond.soleField "ReplayJournalModel" "much" ∈ pjW0 := pj_in 470 (by decide +kernel) rfl
theorem m_471 : Cond.lays "ReplayJournalModel" "ReplayJournalModel" "left" "I" ∈ pjW0 := pj_in 471 (by decide +kernel) rfl
theorem m_472 : Cond.soleField "ReplayJournalModel" "left" ∈ pjW0 := pj_in 472 (by decide +kernel) rfl
theorem m_473 : Cond.lays "ReplayJournalModel" "ReplayJournalModel" "down" "Z" ∈ pjW0 := pj_in 473 (by decide +kernel) rfl
theorem m_474 : Cond.soleField "ReplayJournalModel" "down" ∈ pjW0 := pj_in 474 (by decide +kernel) rfl
theorem m_475 : Cond.superclass "ReplayJournalModel" "java/lang/Object" ∈ pjW0 := pj_in 475 (by decide +kernel) rfl
theorem m_476 : Cond.methodLink "ReplayJournalLaw" 67 ⟨"ReplayJournalModel", "thrown", "()I"⟩ ∈ pjW0 := pj_in 476 (by decide +kernel) rfl
theorem m_477 : Cond.instanceMethod ⟨"ReplayJournalModel", "thrown", "()I"⟩ ∈ pjW0 := pj_in 477 (by decide +kernel) rfl
theorem m_478 : Cond.selects "ReplayJournalModel" ⟨"ReplayJournalModel", "thrown", "()I"⟩ ⟨"ReplayJournalModel", "thrown", "()I"⟩ ∈ pjW0 := pj_in 478 (by decide +kernel) rfl
theorem m_479 : Cond.code ⟨"ReplayJournalModel", "thrown", "()I"⟩ prog_6_method_2_code 1 (some .int) ∈ pjW0 := pj_in 479 (by decide +kernel) rfl
theorem m_480 : Cond.methodLink "ReplayJournalLaw" 66 ⟨"ReplayJournalModel", "add", "(IJ)I"⟩ ∈ pjW0 := pj_in 480 (by decide +kernel) rfl
theorem m_481 : Cond.instanceMethod ⟨"ReplayJournalModel", "add", "(IJ)I"⟩ ∈ pjW0 := pj_in 481 (by decide +kernel) rfl
theorem m_482 : Cond.selects "ReplayJournalModel" ⟨"ReplayJournalModel", "add", "(IJ)I"⟩ ⟨"ReplayJournalModel", "add", "(IJ)I"⟩ ∈ pjW0 := pj_in 482 (by decide +kernel) rfl
theorem m_483 : Cond.code ⟨"ReplayJournalModel", "add", "(IJ)I"⟩ prog_6_method_9_code 4 (some .int) ∈ pjW0 := pj_in 483 (by decide +kernel) rfl
theorem m_484 : Cond.methodLink "ReplayJournalModel" 68 ⟨"ReplayJournalModel", "isAccount", "(I)Z"⟩ ∈ pjW0 := pj_in 484 (by decide +kernel) rfl
theorem m_486 : Cond.instanceMethod ⟨"ReplayJournalModel", "isAccount", "(I)Z"⟩ ∈ pjW0 := pj_in 486 (by decide +kernel) rfl
theorem m_487 : Cond.code ⟨"ReplayJournalModel", "isAccount", "(I)Z"⟩ prog_6_method_5_code 2 (some .boolean) ∈ pjW0 := pj_in 487 (by decide +kernel) rfl
theorem m_488 : Cond.constantLong "ReplayJournalModel" 72 (-1000000000000) ∈ pjW0 := pj_in 488 (by decide +kernel) rfl
theorem m_489 : Cond.constantLong "ReplayJournalModel" 74 (1000000000000) ∈ pjW0 := pj_in 489 (by decide +kernel) rfl
theorem m_490 : Cond.methodLink "ReplayJournalModel" 76 ⟨"ReplayJournalModel", "goes", "(ZZ)Z"⟩ ∈ pjW0 := pj_in 490 (by decide +kernel) rfl
theorem m_492 : Cond.instanceMethod ⟨"ReplayJournalModel", "goes", "(ZZ)Z"⟩ ∈ pjW0 := pj_in 492 (by decide +kernel) rfl
theorem m_493 : Cond.code ⟨"ReplayJournalModel", "goes", "(ZZ)Z"⟩ prog_6_method_3_code 3 (some .boolean) ∈ pjW0 := pj_in 493 (by decide +kernel) rfl
theorem m_494 : Cond.methodLink "ReplayJournalModel" 80 ⟨"ReplayJournalModel", "take", "(IIJ)I"⟩ ∈ pjW0 := pj_in 494 (by decide +kernel) rfl
theorem m_496 : Cond.instanceMethod ⟨"ReplayJournalModel", "take", "(IIJ)I"⟩ ∈ pjW0 := pj_in 496 (by decide +kernel) rfl
theorem m_497 : Cond.code ⟨"ReplayJournalModel", "take", "(IIJ)I"⟩ prog_6_method_8_code 5 (some .int) ∈ pjW0 := pj_in 497 (by decide +kernel) rfl
theorem m_498 : Cond.methodLink "ReplayJournalModel" 58 ⟨"ReplayJournalModel", "spend", "()V"⟩ ∈ pjW0 := pj_in 498 (by decide +kernel) rfl
theorem m_500 : Cond.instanceMethod ⟨"ReplayJournalModel", "spend", "()V"⟩ ∈ pjW0 := pj_in 500 (by decide +kernel) rfl
theorem m_501 : Cond.code ⟨"ReplayJournalModel", "spend", "()V"⟩ prog_6_method_6_code 1 none ∈ pjW0 := pj_in 501 (by decide +kernel) rfl
theorem m_502 : Cond.methodLink "ReplayJournalModel" 61 ⟨"ReplayJournalModel", "happen", "(IIJ)V"⟩ ∈ pjW0 := pj_in 502 (by decide +kernel) rfl
theorem m_504 : Cond.instanceMethod ⟨"ReplayJournalModel", "happen", "(IIJ)V"⟩ ∈ pjW0 := pj_in 504 (by decide +kernel) rfl
theorem m_505 : Cond.code ⟨"ReplayJournalModel", "happen", "(IIJ)V"⟩ prog_6_method_7_code 5 none ∈ pjW0 := pj_in 505 (by decide +kernel) rfl
theorem m_506 : Cond.methodLink "ReplayJournalLaw" 73 ⟨"ReplayJournalModel", "move", "(IIJ)I"⟩ ∈ pjW0 := pj_in 506 (by decide +kernel) rfl
theorem m_507 : Cond.instanceMethod ⟨"ReplayJournalModel", "move", "(IIJ)I"⟩ ∈ pjW0 := pj_in 507 (by decide +kernel) rfl
theorem m_508 : Cond.selects "ReplayJournalModel" ⟨"ReplayJournalModel", "move", "(IIJ)I"⟩ ⟨"ReplayJournalModel", "move", "(IIJ)I"⟩ ∈ pjW0 := pj_in 508 (by decide +kernel) rfl
theorem m_509 : Cond.code ⟨"ReplayJournalModel", "move", "(IIJ)I"⟩ prog_6_method_10_code 5 (some .int) ∈ pjW0 := pj_in 509 (by decide +kernel) rfl
theorem m_510 : Cond.methodLink "ReplayJournalLaw" 77 ⟨"ReplayJournalModel", "begin", "()V"⟩ ∈ pjW0 := pj_in 510 (by decide +kernel) rfl
theorem m_511 : Cond.instanceMethod ⟨"ReplayJournalModel", "begin", "()V"⟩ ∈ pjW0 := pj_in 511 (by decide +kernel) rfl
theorem m_512 : Cond.selects "ReplayJournalModel" ⟨"ReplayJournalModel", "begin", "()V"⟩ ⟨"ReplayJournalModel", "begin", "()V"⟩ ∈ pjW0 := pj_in 512 (by decide +kernel) rfl
theorem m_513 : Cond.code ⟨"ReplayJournalModel", "begin", "()V"⟩ prog_6_method_11_code 1 none ∈ pjW0 := pj_in 513 (by decide +kernel) rfl
theorem m_514 : Cond.methodLink "ReplayJournalModel" 84 ⟨"ReplayJournalModel", "stands", "(Z)Z"⟩ ∈ pjW0 := pj_in 514 (by decide +kernel) rfl
theorem m_516 : Cond.instanceMethod ⟨"ReplayJournalModel", "stands", "(Z)Z"⟩ ∈ pjW0 := pj_in 516 (by decide +kernel) rfl
theorem m_517 : Cond.code ⟨"ReplayJournalModel", "stands", "(Z)Z"⟩ prog_6_method_4_code 2 (some .boolean) ∈ pjW0 := pj_in 517 (by decide +kernel) rfl
theorem m_518 : Cond.methodLink "ReplayJournalLaw" 81 ⟨"ReplayJournalModel", "end", "()I"⟩ ∈ pjW0 := pj_in 518 (by decide +kernel) rfl
theorem m_519 : Cond.instanceMethod ⟨"ReplayJournalModel", "end", "()I"⟩ ∈ pjW0 := pj_in 519 (by decide +kernel) rfl
theorem m_520 : Cond.selects "ReplayJournalModel" ⟨"ReplayJournalModel", "end", "()I"⟩ ⟨"ReplayJournalModel", "end", "()I"⟩ ∈ pjW0 := pj_in 520 (by decide +kernel) rfl
theorem m_521 : Cond.code ⟨"ReplayJournalModel", "end", "()I"⟩ prog_6_method_13_code 2 (some .int) ∈ pjW0 := pj_in 521 (by decide +kernel) rfl
theorem m_522 : Cond.methodLink "ReplayJournalModel" 88 ⟨"ReplayJournalModel", "isRich", "()Z"⟩ ∈ pjW0 := pj_in 522 (by decide +kernel) rfl
theorem m_524 : Cond.instanceMethod ⟨"ReplayJournalModel", "isRich", "()Z"⟩ ∈ pjW0 := pj_in 524 (by decide +kernel) rfl
theorem m_525 : Cond.code ⟨"ReplayJournalModel", "isRich", "()Z"⟩ prog_6_method_12_code 3 (some .boolean) ∈ pjW0 := pj_in 525 (by decide +kernel) rfl
theorem m_526 : Cond.methodLink "ReplayJournalLaw" 84 ⟨"ReplayJournalModel", "drop", "()I"⟩ ∈ pjW0 := pj_in 526 (by decide +kernel) rfl
theorem m_527 : Cond.instanceMethod ⟨"ReplayJournalModel", "drop", "()I"⟩ ∈ pjW0 := pj_in 527 (by decide +kernel) rfl
theorem m_528 : Cond.selects "ReplayJournalModel" ⟨"ReplayJournalModel", "drop", "()I"⟩ ⟨"ReplayJournalModel", "drop", "()I"⟩ ∈ pjW0 := pj_in 528 (by decide +kernel) rfl
theorem m_529 : Cond.code ⟨"ReplayJournalModel", "drop", "()I"⟩ prog_6_method_14_code 1 (some .int) ∈ pjW0 := pj_in 529 (by decide +kernel) rfl
theorem m_530 : Cond.methodLink "ReplayJournalLaw" 87 ⟨"ReplayJournalModel", "snapshot", "()I"⟩ ∈ pjW0 := pj_in 530 (by decide +kernel) rfl
theorem m_531 : Cond.instanceMethod ⟨"ReplayJournalModel", "snapshot", "()I"⟩ ∈ pjW0 := pj_in 531 (by decide +kernel) rfl
theorem m_532 : Cond.selects "ReplayJournalModel" ⟨"ReplayJournalModel", "snapshot", "()I"⟩ ⟨"ReplayJournalModel", "snapshot", "()I"⟩ ∈ pjW0 := pj_in 532 (by decide +kernel) rfl
theorem m_533 : Cond.code ⟨"ReplayJournalModel", "snapshot", "()I"⟩ prog_6_method_15_code 3 (some .int) ∈ pjW0 := pj_in 533 (by decide +kernel) rfl
theorem m_534 : Cond.methodLink "ReplayJournalLaw" 91 ⟨"ReplayJournalModel", "crash", "(I)V"⟩ ∈ pjW0 := pj_in 534 (by decide +kernel) rfl
theorem m_535 : Cond.instanceMethod ⟨"ReplayJournalModel", "crash", "(I)V"⟩ ∈ pjW0 := pj_in 535 (by decide +kernel) rfl
theorem m_536 : Cond.selects "ReplayJournalModel" ⟨"ReplayJournalModel", "crash", "(I)V"⟩ ⟨"ReplayJournalModel", "crash", "(I)V"⟩ ∈ pjW0 := pj_in 536 (by decide +kernel) rfl
theorem m_537 : Cond.code ⟨"ReplayJournalModel", "crash", "(I)V"⟩ prog_6_method_16_code 2 none ∈ pjW0 := pj_in 537 (by decide +kernel) rfl
theorem m_538 : Cond.methodLink "ReplayJournalLaw" 95 ⟨"ReplayJournalModel", "recover", "()I"⟩ ∈ pjW0 := pj_in 538 (by decide +kernel) rfl
theorem m_539 : Cond.instanceMethod ⟨"ReplayJournalModel", "recover", "()I"⟩ ∈ pjW0 := pj_in 539 (by decide +kernel) rfl
theorem m_540 : Cond.selects "ReplayJournalModel" ⟨"ReplayJournalModel", "recover", "()I"⟩ ⟨"ReplayJournalModel", "recover", "()I"⟩ ∈ pjW0 := pj_in 540 (by decide +kernel) rfl
theorem m_541 : Cond.code ⟨"ReplayJournalModel", "recover", "()I"⟩ prog_6_method_17_code 1 (some .int) ∈ pjW0 := pj_in 541 (by decide +kernel) rfl
theorem m_542 : Cond.methodLink "ReplayJournalLaw" 100 ⟨"ReplayJournalModel", "isDown", "()Z"⟩ ∈ pjW0 := pj_in 542 (by decide +kernel) rfl
theorem m_543 : Cond.instanceMethod ⟨"ReplayJournalModel", "isDown", "()Z"⟩ ∈ pjW0 := pj_in 543 (by decide +kernel) rfl
theorem m_544 : Cond.selects "ReplayJournalModel" ⟨"ReplayJournalModel", "isDown", "()Z"⟩ ⟨"ReplayJournalModel", "isDown", "()Z"⟩ ∈ pjW0 := pj_in 544 (by decide +kernel) rfl
theorem m_545 : Cond.code ⟨"ReplayJournalModel", "isDown", "()Z"⟩ prog_6_method_18_code 1 (some .boolean) ∈ pjW0 := pj_in 545 (by decide +kernel) rfl
theorem m_546 : Cond.methodLink "ReplayJournalLaw" 104 ⟨"ReplayJournalModel", "amount", "(I)J"⟩ ∈ pjW0 := pj_in 546 (by decide +kernel) rfl
theorem m_547 : Cond.instanceMethod ⟨"ReplayJournalModel", "amount", "(I)J"⟩ ∈ pjW0 := pj_in 547 (by decide +kernel) rfl
theorem m_548 : Cond.selects "ReplayJournalModel" ⟨"ReplayJournalModel", "amount", "(I)J"⟩ ⟨"ReplayJournalModel", "amount", "(I)J"⟩ ∈ pjW0 := pj_in 548 (by decide +kernel) rfl
theorem m_549 : Cond.code ⟨"ReplayJournalModel", "amount", "(I)J"⟩ prog_6_method_19_code 2 (some .long) ∈ pjW0 := pj_in 549 (by decide +kernel) rfl
theorem m_550 : Cond.methodLink "ReplayJournalLaw" 107 ⟨"ReplayJournalModel", "changes", "(I)I"⟩ ∈ pjW0 := pj_in 550 (by decide +kernel) rfl
theorem m_551 : Cond.instanceMethod ⟨"ReplayJournalModel", "changes", "(I)I"⟩ ∈ pjW0 := pj_in 551 (by decide +kernel) rfl
theorem m_552 : Cond.selects "ReplayJournalModel" ⟨"ReplayJournalModel", "changes", "(I)I"⟩ ⟨"ReplayJournalModel", "changes", "(I)I"⟩ ∈ pjW0 := pj_in 552 (by decide +kernel) rfl
theorem m_553 : Cond.code ⟨"ReplayJournalModel", "changes", "(I)I"⟩ prog_6_method_20_code 2 (some .int) ∈ pjW0 := pj_in 553 (by decide +kernel) rfl
theorem m_554 : Cond.methodLink "ReplayJournalLaw" 110 ⟨"ReplayJournalModel", "count", "(I)I"⟩ ∈ pjW0 := pj_in 554 (by decide +kernel) rfl
theorem m_555 : Cond.instanceMethod ⟨"ReplayJournalModel", "count", "(I)I"⟩ ∈ pjW0 := pj_in 555 (by decide +kernel) rfl
theorem m_556 : Cond.selects "ReplayJournalModel" ⟨"ReplayJournalModel", "count", "(I)I"⟩ ⟨"ReplayJournalModel", "count", "(I)I"⟩ ∈ pjW0 := pj_in 556 (by decide +kernel) rfl
theorem m_557 : Cond.code ⟨"ReplayJournalModel", "count", "(I)I"⟩ prog_6_method_21_code 2 (some .int) ∈ pjW0 := pj_in 557 (by decide +kernel) rfl
theorem m_558 : Cond.constantLong "ReplayJournalLaw" 61 (4294967295) ∈ pjW0 := pj_in 558 (by decide +kernel) rfl
theorem m_559 : Cond.sameMethod "java/lang/Throwable" "java/lang/Throwable" "fillInStackTrace" "(I)Ljava/lang/Throwable;" ∈ pjW0 := pj_in 559 (by decide +kernel) rfl
theorem inA : ∀ w ∈ u_ws "ReplayJournal$Accounts" TA 2, w ∈ pjW0 := by
  exact List.forall_mem_cons.mpr ⟨m_52, List.forall_mem_cons.mpr ⟨m_54, fun w h => absurd h List.not_mem_nil⟩⟩
theorem inD : ∀ w ∈ u_ws "ReplayJournal$Disk" TD 2, w ∈ pjW0 := by
  exact List.forall_mem_cons.mpr ⟨m_90, List.forall_mem_cons.mpr ⟨m_92, fun w h => absurd h List.not_mem_nil⟩⟩
theorem inJ : ∀ w ∈ u_ws "ReplayJournal$Journal" TJ 5, w ∈ pjW0 := by
  exact List.forall_mem_cons.mpr ⟨m_70, List.forall_mem_cons.mpr ⟨m_72, List.forall_mem_cons.mpr ⟨m_74, List.forall_mem_cons.mpr ⟨m_76, List.forall_mem_cons.mpr ⟨m_78, fun w h => absurd h List.not_mem_nil⟩⟩⟩⟩⟩
theorem inR : ∀ w ∈ u_ws "ReplayJournal" TR 7, w ∈ pjW0 := by
  exact List.forall_mem_cons.mpr ⟨m_102, List.forall_mem_cons.mpr ⟨m_104, List.forall_mem_cons.mpr ⟨m_106, List.forall_mem_cons.mpr ⟨m_108, List.forall_mem_cons.mpr ⟨m_110, List.forall_mem_cons.mpr ⟨m_112, List.forall_mem_cons.mpr ⟨m_114, fun w h => absurd h List.not_mem_nil⟩⟩⟩⟩⟩⟩⟩
theorem inM : ∀ w ∈ u_ws "ReplayJournalModel" TM 17, w ∈ pjW0 := by
  exact List.forall_mem_cons.mpr ⟨m_441, List.forall_mem_cons.mpr ⟨m_443, List.forall_mem_cons.mpr ⟨m_445, List.forall_mem_cons.mpr ⟨m_447, List.forall_mem_cons.mpr ⟨m_449, List.forall_mem_cons.mpr ⟨m_451, List.forall_mem_cons.mpr ⟨m_453, List.forall_mem_cons.mpr ⟨m_455, List.forall_mem_cons.mpr ⟨m_457, List.forall_mem_cons.mpr ⟨m_459, List.forall_mem_cons.mpr ⟨m_461, List.forall_mem_cons.mpr ⟨m_463, List.forall_mem_cons.mpr ⟨m_465, List.forall_mem_cons.mpr ⟨m_467, List.forall_mem_cons.mpr ⟨m_469, List.forall_mem_cons.mpr ⟨m_471, List.forall_mem_cons.mpr ⟨m_473, fun w h => absurd h List.not_mem_nil⟩⟩⟩⟩⟩⟩⟩⟩⟩⟩⟩⟩⟩⟩⟩⟩⟩
end
section
theorem dR_init_0 : decode prog_1_method_1_code 0 = .ok (.aload_n 0, 1) := by decide +kernel
theorem dR_init_1 : decode prog_1_method_1_code 1 = .ok (.invokespecial 1, 3) := by decide +kernel
theorem dR_init_4 : decode prog_1_method_1_code 4 = .ok (.iconst 1, 1) := by decide +kernel
theorem dR_init_5 : decode prog_1_method_1_code 5 = .ok (.bipush 64, 2) := by decide +kernel
theorem dR_init_7 : decode prog_1_method_1_code 7 = .ok (.iload_n 1, 1) := by decide +kernel
theorem dR_init_8 : decode prog_1_method_1_code 8 = .ok (.invokestatic 9, 3) := by decide +kernel
theorem dR_init_11 : decode prog_1_method_1_code 11 = .ok (.invokestatic 15, 3) := by decide +kernel
theorem dR_init_14 : decode prog_1_method_1_code 14 = .ok (.istore_n 3, 1) := by decide +kernel
theorem dR_init_15 : decode prog_1_method_1_code 15 = .ok (.iconst 4, 1) := by decide +kernel
theorem dR_init_16 : decode prog_1_method_1_code 16 = .ok (.bipush 60, 2) := by decide +kernel
theorem dR_init_18 : decode prog_1_method_1_code 18 = .ok (.iload_n 2, 1) := by decide +kernel
theorem dR_init_19 : decode prog_1_method_1_code 19 = .ok (.invokestatic 9, 3) := by decide +kernel
theorem dR_init_22 : decode prog_1_method_1_code 22 = .ok (.invokestatic 15, 3) := by decide +kernel
theorem dR_init_25 : decode prog_1_method_1_code 25 = .ok (.istore 4, 2) := by decide +kernel
theorem dR_init_27 : decode prog_1_method_1_code 27 = .ok (.aload_n 0, 1) := by decide +kernel
theorem dR_init_28 : decode prog_1_method_1_code 28 = .ok (.new 18, 3) := by decide +kernel
theorem dR_init_31 : decode prog_1_method_1_code 31 = .ok (.dup, 1) := by decide +kernel
theorem dR_init_32 : decode prog_1_method_1_code 32 = .ok (.iload_n 3, 1) := by decide +kernel
theorem dR_init_33 : decode prog_1_method_1_code 33 = .ok (.invokespecial 20, 3) := by decide +kernel
theorem dR_init_36 : decode prog_1_method_1_code 36 = .ok (.putfield 23, 3) := by decide +kernel
theorem dR_init_39 : decode prog_1_method_1_code 39 = .ok (.aload_n 0, 1) := by decide +kernel
theorem dR_init_40 : decode prog_1_method_1_code 40 = .ok (.new 18, 3) := by decide +kernel
theorem dR_init_43 : decode prog_1_method_1_code 43 = .ok (.dup, 1) := by decide +kernel
theorem dR_init_44 : decode prog_1_method_1_code 44 = .ok (.iload_n 3, 1) := by decide +kernel
theorem dR_init_45 : decode prog_1_method_1_code 45 = .ok (.invokespecial 20, 3) := by decide +kernel
theorem dR_init_48 : decode prog_1_method_1_code 48 = .ok (.putfield 27, 3) := by decide +kernel
theorem dR_init_51 : decode prog_1_method_1_code 51 = .ok (.aload_n 0, 1) := by decide +kernel
theorem dR_init_52 : decode prog_1_method_1_code 52 = .ok (.new 18, 3) := by decide +kernel
theorem dR_init_55 : decode prog_1_method_1_code 55 = .ok (.dup, 1) := by decide +kernel
theorem dR_init_56 : decode prog_1_method_1_code 56 = .ok (.iload_n 3, 1) := by decide +kernel
theorem dR_init_57 : decode prog_1_method_1_code 57 = .ok (.invokespecial 20, 3) := by decide +kernel
theorem dR_init_60 : decode prog_1_method_1_code 60 = .ok (.putfield 30, 3) := by decide +kernel
theorem dR_init_63 : decode prog_1_method_1_code 63 = .ok (.aload_n 0, 1) := by decide +kernel
theorem dR_init_64 : decode prog_1_method_1_code 64 = .ok (.new 33, 3) := by decide +kernel
theorem dR_init_67 : decode prog_1_method_1_code 67 = .ok (.dup, 1) := by decide +kernel
theorem dR_init_68 : decode prog_1_method_1_code 68 = .ok (.iload 4, 2) := by decide +kernel
theorem dR_init_70 : decode prog_1_method_1_code 70 = .ok (.invokespecial 35, 3) := by decide +kernel
theorem dR_init_73 : decode prog_1_method_1_code 73 = .ok (.putfield 36, 3) := by decide +kernel
theorem dR_init_76 : decode prog_1_method_1_code 76 = .ok (.aload_n 0, 1) := by decide +kernel
theorem dR_init_77 : decode prog_1_method_1_code 77 = .ok (.new 40, 3) := by decide +kernel
theorem dR_init_80 : decode prog_1_method_1_code 80 = .ok (.dup, 1) := by decide +kernel
theorem dR_init_81 : decode prog_1_method_1_code 81 = .ok (.invokespecial 42, 3) := by decide +kernel
theorem dR_init_84 : decode prog_1_method_1_code 84 = .ok (.putfield 43, 3) := by decide +kernel
theorem dR_init_87 : decode prog_1_method_1_code 87 = .ok (.aload_n 0, 1) := by decide +kernel
theorem dR_init_88 : decode prog_1_method_1_code 88 = .ok (.iconst (-1), 1) := by decide +kernel
theorem dR_init_89 : decode prog_1_method_1_code 89 = .ok (.putfield 47, 3) := by decide +kernel
theorem dR_init_92 : decode prog_1_method_1_code 92 = .ok (.aload_n 0, 1) := by decide +kernel
theorem dR_init_93 : decode prog_1_method_1_code 93 = .ok (.iconst 0, 1) := by decide +kernel
theorem dR_init_94 : decode prog_1_method_1_code 94 = .ok (.putfield 51, 3) := by decide +kernel
theorem dR_init_97 : decode prog_1_method_1_code 97 = .ok (.return_, 1) := by decide +kernel
theorem dA_init_0 : decode prog_2_method_1_code 0 = .ok (.aload_n 0, 1) := by decide +kernel
theorem dA_init_1 : decode prog_2_method_1_code 1 = .ok (.invokespecial 1, 3) := by decide +kernel
theorem dA_init_4 : decode prog_2_method_1_code 4 = .ok (.aload_n 0, 1) := by decide +kernel
theorem dA_init_5 : decode prog_2_method_1_code 5 = .ok (.iload_n 1, 1) := by decide +kernel
theorem dA_init_6 : decode prog_2_method_1_code 6 = .ok (.newarray .long, 2) := by decide +kernel
theorem dA_init_8 : decode prog_2_method_1_code 8 = .ok (.putfield 7, 3) := by decide +kernel
theorem dA_init_11 : decode prog_2_method_1_code 11 = .ok (.aload_n 0, 1) := by decide +kernel
theorem dA_init_12 : decode prog_2_method_1_code 12 = .ok (.iload_n 1, 1) := by decide +kernel
theorem dA_init_13 : decode prog_2_method_1_code 13 = .ok (.newarray .int, 2) := by decide +kernel
theorem dA_init_15 : decode prog_2_method_1_code 15 = .ok (.putfield 13, 3) := by decide +kernel
theorem dA_init_18 : decode prog_2_method_1_code 18 = .ok (.return_, 1) := by decide +kernel
theorem dJ_init_0 : decode prog_4_method_1_code 0 = .ok (.aload_n 0, 1) := by decide +kernel
theorem dJ_init_1 : decode prog_4_method_1_code 1 = .ok (.invokespecial 1, 3) := by decide +kernel
theorem dJ_init_4 : decode prog_4_method_1_code 4 = .ok (.aload_n 0, 1) := by decide +kernel
theorem dJ_init_5 : decode prog_4_method_1_code 5 = .ok (.iload_n 1, 1) := by decide +kernel
theorem dJ_init_6 : decode prog_4_method_1_code 6 = .ok (.newarray .int, 2) := by decide +kernel
theorem dJ_init_8 : decode prog_4_method_1_code 8 = .ok (.putfield 7, 3) := by decide +kernel
theorem dJ_init_11 : decode prog_4_method_1_code 11 = .ok (.aload_n 0, 1) := by decide +kernel
theorem dJ_init_12 : decode prog_4_method_1_code 12 = .ok (.iload_n 1, 1) := by decide +kernel
theorem dJ_init_13 : decode prog_4_method_1_code 13 = .ok (.newarray .int, 2) := by decide +kernel
theorem dJ_init_15 : decode prog_4_method_1_code 15 = .ok (.putfield 13, 3) := by decide +kernel
theorem dJ_init_18 : decode prog_4_method_1_code 18 = .ok (.aload_n 0, 1) := by decide +kernel
theorem dJ_init_19 : decode prog_4_method_1_code 19 = .ok (.iload_n 1, 1) := by decide +kernel
theorem dJ_init_20 : decode prog_4_method_1_code 20 = .ok (.newarray .long, 2) := by decide +kernel
theorem dJ_init_22 : decode prog_4_method_1_code 22 = .ok (.putfield 16, 3) := by decide +kernel
theorem dJ_init_25 : decode prog_4_method_1_code 25 = .ok (.aload_n 0, 1) := by decide +kernel
theorem dJ_init_26 : decode prog_4_method_1_code 26 = .ok (.iload_n 1, 1) := by decide +kernel
theorem dJ_init_27 : decode prog_4_method_1_code 27 = .ok (.newarray .boolean, 2) := by decide +kernel
theorem dJ_init_29 : decode prog_4_method_1_code 29 = .ok (.putfield 20, 3) := by decide +kernel
theorem dJ_init_32 : decode prog_4_method_1_code 32 = .ok (.aload_n 0, 1) := by decide +kernel
theorem dJ_init_33 : decode prog_4_method_1_code 33 = .ok (.iconst 0, 1) := by decide +kernel
theorem dJ_init_34 : decode prog_4_method_1_code 34 = .ok (.putfield 24, 3) := by decide +kernel
theorem dJ_init_37 : decode prog_4_method_1_code 37 = .ok (.return_, 1) := by decide +kernel
theorem dD_init_0 : decode prog_3_method_1_code 0 = .ok (.aload_n 0, 1) := by decide +kernel
theorem dD_init_1 : decode prog_3_method_1_code 1 = .ok (.invokespecial 3, 3) := by decide +kernel
theorem dD_init_4 : decode prog_3_method_1_code 4 = .ok (.aload_n 0, 1) := by decide +kernel
theorem dD_init_5 : decode prog_3_method_1_code 5 = .ok (.iconst 0, 1) := by decide +kernel
theorem dD_init_6 : decode prog_3_method_1_code 6 = .ok (.putfield 9, 3) := by decide +kernel
theorem dD_init_9 : decode prog_3_method_1_code 9 = .ok (.aload_n 0, 1) := by decide +kernel
theorem dD_init_10 : decode prog_3_method_1_code 10 = .ok (.iconst (-1), 1) := by decide +kernel
theorem dD_init_11 : decode prog_3_method_1_code 11 = .ok (.putfield 15, 3) := by decide +kernel
theorem dD_init_14 : decode prog_3_method_1_code 14 = .ok (.return_, 1) := by decide +kernel
theorem dR_recover_0 : decode prog_1_method_9_code 0 = .ok (.aload_n 0, 1) := by decide +kernel
theorem dR_recover_1 : decode prog_1_method_9_code 1 = .ok (.getfield 43, 3) := by decide +kernel
theorem dR_recover_4 : decode prog_1_method_9_code 4 = .ok (.invokevirtual 122, 3) := by decide +kernel
theorem dR_recover_7 : decode prog_1_method_9_code 7 = .ok (.aload_n 0, 1) := by decide +kernel
theorem dR_recover_8 : decode prog_1_method_9_code 8 = .ok (.iconst (-1), 1) := by decide +kernel
theorem dR_recover_9 : decode prog_1_method_9_code 9 = .ok (.putfield 47, 3) := by decide +kernel
theorem dR_recover_12 : decode prog_1_method_9_code 12 = .ok (.aload_n 0, 1) := by decide +kernel
theorem dR_recover_13 : decode prog_1_method_9_code 13 = .ok (.getfield 23, 3) := by decide +kernel
theorem dR_recover_16 : decode prog_1_method_9_code 16 = .ok (.aload_n 0, 1) := by decide +kernel
theorem dR_recover_17 : decode prog_1_method_9_code 17 = .ok (.getfield 27, 3) := by decide +kernel
theorem dR_recover_20 : decode prog_1_method_9_code 20 = .ok (.invokevirtual 85, 3) := by decide +kernel
theorem dR_recover_23 : decode prog_1_method_9_code 23 = .ok (.aload_n 0, 1) := by decide +kernel
theorem dR_recover_24 : decode prog_1_method_9_code 24 = .ok (.getfield 36, 3) := by decide +kernel
theorem dR_recover_27 : decode prog_1_method_9_code 27 = .ok (.aload_n 0, 1) := by decide +kernel
theorem dR_recover_28 : decode prog_1_method_9_code 28 = .ok (.getfield 23, 3) := by decide +kernel
theorem dR_recover_31 : decode prog_1_method_9_code 31 = .ok (.invokevirtual 125, 3) := by decide +kernel
theorem dR_recover_34 : decode prog_1_method_9_code 34 = .ok (.ireturn, 1) := by decide +kernel
theorem dD_restart_0 : decode prog_3_method_5_code 0 = .ok (.aload_n 0, 1) := by decide +kernel
theorem dD_restart_1 : decode prog_3_method_5_code 1 = .ok (.iconst (-1), 1) := by decide +kernel
theorem dD_restart_2 : decode prog_3_method_5_code 2 = .ok (.putfield 15, 3) := by decide +kernel
theorem dD_restart_5 : decode prog_3_method_5_code 5 = .ok (.return_, 1) := by decide +kernel
theorem dA_copyFrom_0 : decode prog_2_method_9_code 0 = .ok (.aload_n 0, 1) := by decide +kernel
theorem dA_copyFrom_1 : decode prog_2_method_9_code 1 = .ok (.getfield 7, 3) := by decide +kernel
theorem dA_copyFrom_4 : decode prog_2_method_9_code 4 = .ok (.arraylength, 1) := by decide +kernel
theorem dA_copyFrom_5 : decode prog_2_method_9_code 5 = .ok (.aload_n 1, 1) := by decide +kernel
theorem dA_copyFrom_6 : decode prog_2_method_9_code 6 = .ok (.getfield 7, 3) := by decide +kernel
theorem dA_copyFrom_9 : decode prog_2_method_9_code 9 = .ok (.arraylength, 1) := by decide +kernel
theorem dA_copyFrom_10 : decode prog_2_method_9_code 10 = .ok (.invokestatic 25, 3) := by decide +kernel
theorem dA_copyFrom_13 : decode prog_2_method_9_code 13 = .ok (.istore_n 2, 1) := by decide +kernel
theorem dA_copyFrom_14 : decode prog_2_method_9_code 14 = .ok (.iconst 0, 1) := by decide +kernel
theorem dA_copyFrom_15 : decode prog_2_method_9_code 15 = .ok (.istore_n 3, 1) := by decide +kernel
theorem dA_copyFrom_16 : decode prog_2_method_9_code 16 = .ok (.iload_n 3, 1) := by decide +kernel
theorem dA_copyFrom_17 : decode prog_2_method_9_code 17 = .ok (.iload_n 2, 1) := by decide +kernel
theorem dA_copyFrom_18 : decode prog_2_method_9_code 18 = .ok (.if_icmp .ge 33, 3) := by decide +kernel
theorem dA_copyFrom_21 : decode prog_2_method_9_code 21 = .ok (.aload_n 0, 1) := by decide +kernel
theorem dA_copyFrom_22 : decode prog_2_method_9_code 22 = .ok (.getfield 7, 3) := by decide +kernel
theorem dA_copyFrom_25 : decode prog_2_method_9_code 25 = .ok (.iload_n 3, 1) := by decide +kernel
theorem dA_copyFrom_26 : decode prog_2_method_9_code 26 = .ok (.aload_n 1, 1) := by decide +kernel
theorem dA_copyFrom_27 : decode prog_2_method_9_code 27 = .ok (.getfield 7, 3) := by decide +kernel
theorem dA_copyFrom_30 : decode prog_2_method_9_code 30 = .ok (.iload_n 3, 1) := by decide +kernel
theorem dA_copyFrom_31 : decode prog_2_method_9_code 31 = .ok (.laload, 1) := by decide +kernel
theorem dA_copyFrom_32 : decode prog_2_method_9_code 32 = .ok (.lastore, 1) := by decide +kernel
theorem dA_copyFrom_33 : decode prog_2_method_9_code 33 = .ok (.aload_n 0, 1) := by decide +kernel
theorem dA_copyFrom_34 : decode prog_2_method_9_code 34 = .ok (.getfield 13, 3) := by decide +kernel
theorem dA_copyFrom_37 : decode prog_2_method_9_code 37 = .ok (.iload_n 3, 1) := by decide +kernel
theorem dA_copyFrom_38 : decode prog_2_method_9_code 38 = .ok (.aload_n 1, 1) := by decide +kernel
theorem dA_copyFrom_39 : decode prog_2_method_9_code 39 = .ok (.getfield 13, 3) := by decide +kernel
theorem dA_copyFrom_42 : decode prog_2_method_9_code 42 = .ok (.iload_n 3, 1) := by decide +kernel
theorem dA_copyFrom_43 : decode prog_2_method_9_code 43 = .ok (.iaload, 1) := by decide +kernel
theorem dA_copyFrom_44 : decode prog_2_method_9_code 44 = .ok (.iastore, 1) := by decide +kernel
theorem dA_copyFrom_45 : decode prog_2_method_9_code 45 = .ok (.iinc 3 1, 3) := by decide +kernel
theorem dA_copyFrom_48 : decode prog_2_method_9_code 48 = .ok (.goto (-32), 3) := by decide +kernel
theorem dA_copyFrom_51 : decode prog_2_method_9_code 51 = .ok (.return_, 1) := by decide +kernel
theorem dJ_replay_0 : decode prog_4_method_7_code 0 = .ok (.iconst 0, 1) := by decide +kernel
theorem dJ_replay_1 : decode prog_4_method_7_code 1 = .ok (.istore_n 2, 1) := by decide +kernel
theorem dJ_replay_2 : decode prog_4_method_7_code 2 = .ok (.iconst 0, 1) := by decide +kernel
theorem dJ_replay_3 : decode prog_4_method_7_code 3 = .ok (.istore_n 3, 1) := by decide +kernel
theorem dJ_replay_4 : decode prog_4_method_7_code 4 = .ok (.iload_n 3, 1) := by decide +kernel
theorem dJ_replay_5 : decode prog_4_method_7_code 5 = .ok (.aload_n 0, 1) := by decide +kernel
theorem dJ_replay_6 : decode prog_4_method_7_code 6 = .ok (.getfield 24, 3) := by decide +kernel
theorem dJ_replay_9 : decode prog_4_method_7_code 9 = .ok (.if_icmp .ge 43, 3) := by decide +kernel
theorem dJ_replay_12 : decode prog_4_method_7_code 12 = .ok (.aload_n 0, 1) := by decide +kernel
theorem dJ_replay_13 : decode prog_4_method_7_code 13 = .ok (.getfield 20, 3) := by decide +kernel
theorem dJ_replay_16 : decode prog_4_method_7_code 16 = .ok (.iload_n 3, 1) := by decide +kernel
theorem dJ_replay_17 : decode prog_4_method_7_code 17 = .ok (.baload, 1) := by decide +kernel
theorem dJ_replay_18 : decode prog_4_method_7_code 18 = .ok (.ifCond .eq 28, 3) := by decide +kernel
theorem dJ_replay_21 : decode prog_4_method_7_code 21 = .ok (.aload_n 1, 1) := by decide +kernel
theorem dJ_replay_22 : decode prog_4_method_7_code 22 = .ok (.aload_n 0, 1) := by decide +kernel
theorem dJ_replay_23 : decode prog_4_method_7_code 23 = .ok (.getfield 7, 3) := by decide +kernel
theorem dJ_replay_26 : decode prog_4_method_7_code 26 = .ok (.iload_n 3, 1) := by decide +kernel
theorem dJ_replay_27 : decode prog_4_method_7_code 27 = .ok (.iaload, 1) := by decide +kernel
theorem dJ_replay_28 : decode prog_4_method_7_code 28 = .ok (.aload_n 0, 1) := by decide +kernel
theorem dJ_replay_29 : decode prog_4_method_7_code 29 = .ok (.getfield 13, 3) := by decide +kernel
theorem dJ_replay_32 : decode prog_4_method_7_code 32 = .ok (.iload_n 3, 1) := by decide +kernel
theorem dJ_replay_33 : decode prog_4_method_7_code 33 = .ok (.iaload, 1) := by decide +kernel
theorem dJ_replay_34 : decode prog_4_method_7_code 34 = .ok (.aload_n 0, 1) := by decide +kernel
theorem dJ_replay_35 : decode prog_4_method_7_code 35 = .ok (.getfield 16, 3) := by decide +kernel
theorem dJ_replay_38 : decode prog_4_method_7_code 38 = .ok (.iload_n 3, 1) := by decide +kernel
theorem dJ_replay_39 : decode prog_4_method_7_code 39 = .ok (.laload, 1) := by decide +kernel
theorem dJ_replay_40 : decode prog_4_method_7_code 40 = .ok (.invokevirtual 38, 3) := by decide +kernel
theorem dJ_replay_43 : decode prog_4_method_7_code 43 = .ok (.iinc 2 1, 3) := by decide +kernel
theorem dJ_replay_46 : decode prog_4_method_7_code 46 = .ok (.iinc 3 1, 3) := by decide +kernel
theorem dJ_replay_49 : decode prog_4_method_7_code 49 = .ok (.goto (-45), 3) := by decide +kernel
theorem dJ_replay_52 : decode prog_4_method_7_code 52 = .ok (.iload_n 2, 1) := by decide +kernel
theorem dJ_replay_53 : decode prog_4_method_7_code 53 = .ok (.ireturn, 1) := by decide +kernel
theorem dA_apply_0 : decode prog_2_method_7_code 0 = .ok (.aload_n 0, 1) := by decide +kernel
theorem dA_apply_1 : decode prog_2_method_7_code 1 = .ok (.iload_n 1, 1) := by decide +kernel
theorem dA_apply_2 : decode prog_2_method_7_code 2 = .ok (.lload_n 3, 1) := by decide +kernel
theorem dA_apply_3 : decode prog_2_method_7_code 3 = .ok (.lneg, 1) := by decide +kernel
theorem dA_apply_4 : decode prog_2_method_7_code 4 = .ok (.invokevirtual 21, 3) := by decide +kernel
theorem dA_apply_7 : decode prog_2_method_7_code 7 = .ok (.aload_n 0, 1) := by decide +kernel
theorem dA_apply_8 : decode prog_2_method_7_code 8 = .ok (.iload_n 2, 1) := by decide +kernel
theorem dA_apply_9 : decode prog_2_method_7_code 9 = .ok (.lload_n 3, 1) := by decide +kernel
theorem dA_apply_10 : decode prog_2_method_7_code 10 = .ok (.invokevirtual 21, 3) := by decide +kernel
theorem dA_apply_13 : decode prog_2_method_7_code 13 = .ok (.return_, 1) := by decide +kernel
theorem dA_changeOne_0 : decode prog_2_method_8_code 0 = .ok (.aload_n 0, 1) := by decide +kernel
theorem dA_changeOne_1 : decode prog_2_method_8_code 1 = .ok (.iload_n 1, 1) := by decide +kernel
theorem dA_changeOne_2 : decode prog_2_method_8_code 2 = .ok (.invokevirtual 17, 3) := by decide +kernel
theorem dA_changeOne_5 : decode prog_2_method_8_code 5 = .ok (.ifCond .eq 23, 3) := by decide +kernel
theorem dA_changeOne_8 : decode prog_2_method_8_code 8 = .ok (.aload_n 0, 1) := by decide +kernel
theorem dA_changeOne_9 : decode prog_2_method_8_code 9 = .ok (.getfield 7, 3) := by decide +kernel
theorem dA_changeOne_12 : decode prog_2_method_8_code 12 = .ok (.iload_n 1, 1) := by decide +kernel
theorem dA_changeOne_13 : decode prog_2_method_8_code 13 = .ok (.dup2, 1) := by decide +kernel
theorem dA_changeOne_14 : decode prog_2_method_8_code 14 = .ok (.laload, 1) := by decide +kernel
theorem dA_changeOne_15 : decode prog_2_method_8_code 15 = .ok (.lload_n 2, 1) := by decide +kernel
theorem dA_changeOne_16 : decode prog_2_method_8_code 16 = .ok (.ladd, 1) := by decide +kernel
theorem dA_changeOne_17 : decode prog_2_method_8_code 17 = .ok (.lastore, 1) := by decide +kernel
theorem dA_changeOne_18 : decode prog_2_method_8_code 18 = .ok (.aload_n 0, 1) := by decide +kernel
theorem dA_changeOne_19 : decode prog_2_method_8_code 19 = .ok (.getfield 13, 3) := by decide +kernel
theorem dA_changeOne_22 : decode prog_2_method_8_code 22 = .ok (.iload_n 1, 1) := by decide +kernel
theorem dA_changeOne_23 : decode prog_2_method_8_code 23 = .ok (.dup2, 1) := by decide +kernel
theorem dA_changeOne_24 : decode prog_2_method_8_code 24 = .ok (.iaload, 1) := by decide +kernel
theorem dA_changeOne_25 : decode prog_2_method_8_code 25 = .ok (.iconst 1, 1) := by decide +kernel
theorem dA_changeOne_26 : decode prog_2_method_8_code 26 = .ok (.iadd, 1) := by decide +kernel
theorem dA_changeOne_27 : decode prog_2_method_8_code 27 = .ok (.iastore, 1) := by decide +kernel
theorem dA_changeOne_28 : decode prog_2_method_8_code 28 = .ok (.return_, 1) := by decide +kernel
theorem dA_has_0 : decode prog_2_method_3_code 0 = .ok (.iload_n 1, 1) := by decide +kernel
theorem dA_has_1 : decode prog_2_method_3_code 1 = .ok (.ifCond .lt 16, 3) := by decide +kernel
theorem dA_has_4 : decode prog_2_method_3_code 4 = .ok (.iload_n 1, 1) := by decide +kernel
theorem dA_has_5 : decode prog_2_method_3_code 5 = .ok (.aload_n 0, 1) := by decide +kernel
theorem dA_has_6 : decode prog_2_method_3_code 6 = .ok (.getfield 7, 3) := by decide +kernel
theorem dA_has_9 : decode prog_2_method_3_code 9 = .ok (.arraylength, 1) := by decide +kernel
theorem dA_has_10 : decode prog_2_method_3_code 10 = .ok (.if_icmp .ge 7, 3) := by decide +kernel
theorem dA_has_13 : decode prog_2_method_3_code 13 = .ok (.iconst 1, 1) := by decide +kernel
theorem dA_has_14 : decode prog_2_method_3_code 14 = .ok (.goto 4, 3) := by decide +kernel
theorem dA_has_17 : decode prog_2_method_3_code 17 = .ok (.iconst 0, 1) := by decide +kernel
theorem dA_has_18 : decode prog_2_method_3_code 18 = .ok (.ireturn, 1) := by decide +kernel
theorem dR_isDown_0 : decode prog_1_method_10_code 0 = .ok (.aload_n 0, 1) := by decide +kernel
theorem dR_isDown_1 : decode prog_1_method_10_code 1 = .ok (.getfield 43, 3) := by decide +kernel
theorem dR_isDown_4 : decode prog_1_method_10_code 4 = .ok (.invokevirtual 100, 3) := by decide +kernel
theorem dR_isDown_7 : decode prog_1_method_10_code 7 = .ok (.ireturn, 1) := by decide +kernel
theorem dD_isOff_0 : decode prog_3_method_2_code 0 = .ok (.aload_n 0, 1) := by decide +kernel
theorem dD_isOff_1 : decode prog_3_method_2_code 1 = .ok (.getfield 15, 3) := by decide +kernel
theorem dD_isOff_4 : decode prog_3_method_2_code 4 = .ok (.ifCond .ne 7, 3) := by decide +kernel
theorem dD_isOff_7 : decode prog_3_method_2_code 7 = .ok (.iconst 1, 1) := by decide +kernel
theorem dD_isOff_8 : decode prog_3_method_2_code 8 = .ok (.goto 4, 3) := by decide +kernel
theorem dD_isOff_11 : decode prog_3_method_2_code 11 = .ok (.iconst 0, 1) := by decide +kernel
theorem dD_isOff_12 : decode prog_3_method_2_code 12 = .ok (.ireturn, 1) := by decide +kernel
theorem dR_add_0 : decode prog_1_method_2_code 0 = .ok (.aload_n 0, 1) := by decide +kernel
theorem dR_add_1 : decode prog_1_method_2_code 1 = .ok (.iload_n 1, 1) := by decide +kernel
theorem dR_add_2 : decode prog_1_method_2_code 2 = .ok (.invokevirtual 54, 3) := by decide +kernel
theorem dR_add_5 : decode prog_1_method_2_code 5 = .ok (.lload_n 2, 1) := by decide +kernel
theorem dR_add_6 : decode prog_1_method_2_code 6 = .ok (.ldc2_w 57, 3) := by decide +kernel
theorem dR_add_9 : decode prog_1_method_2_code 9 = .ok (.ldc2_w 59, 3) := by decide +kernel
theorem dR_add_12 : decode prog_1_method_2_code 12 = .ok (.invokestatic 61, 3) := by decide +kernel
theorem dR_add_15 : decode prog_1_method_2_code 15 = .ok (.aload_n 0, 1) := by decide +kernel
theorem dR_add_16 : decode prog_1_method_2_code 16 = .ok (.invokevirtual 65, 3) := by decide +kernel
theorem dR_add_19 : decode prog_1_method_2_code 19 = .ok (.aload_n 0, 1) := by decide +kernel
theorem dR_add_20 : decode prog_1_method_2_code 20 = .ok (.iconst (-1), 1) := by decide +kernel
theorem dR_add_21 : decode prog_1_method_2_code 21 = .ok (.iload_n 1, 1) := by decide +kernel
theorem dR_add_22 : decode prog_1_method_2_code 22 = .ok (.lload_n 2, 1) := by decide +kernel
theorem dR_add_23 : decode prog_1_method_2_code 23 = .ok (.invokevirtual 68, 3) := by decide +kernel
theorem dR_add_26 : decode prog_1_method_2_code 26 = .ok (.ireturn, 1) := by decide +kernel
theorem dR_requireAccount_0 : decode prog_1_method_18_code 0 = .ok (.aload_n 0, 1) := by decide +kernel
theorem dR_requireAccount_1 : decode prog_1_method_18_code 1 = .ok (.getfield 23, 3) := by decide +kernel
theorem dR_requireAccount_4 : decode prog_1_method_18_code 4 = .ok (.iload_n 1, 1) := by decide +kernel
theorem dR_requireAccount_5 : decode prog_1_method_18_code 5 = .ok (.invokevirtual 165, 3) := by decide +kernel
theorem dR_requireAccount_8 : decode prog_1_method_18_code 8 = .ok (.ifCond .ne 13, 3) := by decide +kernel
theorem dR_requireAccount_11 : decode prog_1_method_18_code 11 = .ok (.new 72, 3) := by decide +kernel
theorem dR_requireAccount_14 : decode prog_1_method_18_code 14 = .ok (.dup, 1) := by decide +kernel
theorem dR_requireAccount_15 : decode prog_1_method_18_code 15 = .ok (.ldc 168, 2) := by decide +kernel
theorem dR_requireAccount_17 : decode prog_1_method_18_code 17 = .ok (.invokespecial 76, 3) := by decide +kernel
theorem dR_requireAccount_20 : decode prog_1_method_18_code 20 = .ok (.athrow, 1) := by decide +kernel
theorem dR_requireAccount_21 : decode prog_1_method_18_code 21 = .ok (.return_, 1) := by decide +kernel
theorem dR_requireBounds_0 : decode prog_1_method_19_code 0 = .ok (.lload_n 0, 1) := by decide +kernel
theorem dR_requireBounds_1 : decode prog_1_method_19_code 1 = .ok (.lload_n 2, 1) := by decide +kernel
theorem dR_requireBounds_2 : decode prog_1_method_19_code 2 = .ok (.lcmp, 1) := by decide +kernel
theorem dR_requireBounds_3 : decode prog_1_method_19_code 3 = .ok (.ifCond .lt 10, 3) := by decide +kernel
theorem dR_requireBounds_6 : decode prog_1_method_19_code 6 = .ok (.lload_n 0, 1) := by decide +kernel
theorem dR_requireBounds_7 : decode prog_1_method_19_code 7 = .ok (.lload 4, 2) := by decide +kernel
theorem dR_requireBounds_9 : decode prog_1_method_19_code 9 = .ok (.lcmp, 1) := by decide +kernel
theorem dR_requireBounds_10 : decode prog_1_method_19_code 10 = .ok (.ifCond .le 13, 3) := by decide +kernel
theorem dR_requireBounds_13 : decode prog_1_method_19_code 13 = .ok (.new 72, 3) := by decide +kernel
theorem dR_requireBounds_16 : decode prog_1_method_19_code 16 = .ok (.dup, 1) := by decide +kernel
theorem dR_requireBounds_17 : decode prog_1_method_19_code 17 = .ok (.ldc 170, 2) := by decide +kernel
theorem dR_requireBounds_19 : decode prog_1_method_19_code 19 = .ok (.invokespecial 76, 3) := by decide +kernel
theorem dR_requireBounds_22 : decode prog_1_method_19_code 22 = .ok (.athrow, 1) := by decide +kernel
theorem dR_requireBounds_23 : decode prog_1_method_19_code 23 = .ok (.return_, 1) := by decide +kernel
theorem dR_requirePower_0 : decode prog_1_method_20_code 0 = .ok (.aload_n 0, 1) := by decide +kernel
theorem dR_requirePower_1 : decode prog_1_method_20_code 1 = .ok (.getfield 43, 3) := by decide +kernel
theorem dR_requirePower_4 : decode prog_1_method_20_code 4 = .ok (.invokevirtual 100, 3) := by decide +kernel
theorem dR_requirePower_7 : decode prog_1_method_20_code 7 = .ok (.ifCond .eq 13, 3) := by decide +kernel
theorem dR_requirePower_10 : decode prog_1_method_20_code 10 = .ok (.new 172, 3) := by decide +kernel
theorem dR_requirePower_13 : decode prog_1_method_20_code 13 = .ok (.dup, 1) := by decide +kernel
theorem dR_requirePower_14 : decode prog_1_method_20_code 14 = .ok (.ldc 174, 2) := by decide +kernel
theorem dR_requirePower_16 : decode prog_1_method_20_code 16 = .ok (.invokespecial 176, 3) := by decide +kernel
theorem dR_requirePower_19 : decode prog_1_method_20_code 19 = .ok (.athrow, 1) := by decide +kernel
theorem dR_requirePower_20 : decode prog_1_method_20_code 20 = .ok (.return_, 1) := by decide +kernel
theorem dR_change_0 : decode prog_1_method_14_code 0 = .ok (.aload_n 0, 1) := by decide +kernel
theorem dR_change_1 : decode prog_1_method_14_code 1 = .ok (.getfield 47, 3) := by decide +kernel
theorem dR_change_4 : decode prog_1_method_14_code 4 = .ok (.iconst (-1), 1) := by decide +kernel
theorem dR_change_5 : decode prog_1_method_14_code 5 = .ok (.if_icmp .ne 13, 3) := by decide +kernel
theorem dR_change_8 : decode prog_1_method_14_code 8 = .ok (.aload_n 0, 1) := by decide +kernel
theorem dR_change_9 : decode prog_1_method_14_code 9 = .ok (.iload_n 1, 1) := by decide +kernel
theorem dR_change_10 : decode prog_1_method_14_code 10 = .ok (.iload_n 2, 1) := by decide +kernel
theorem dR_change_11 : decode prog_1_method_14_code 11 = .ok (.lload_n 3, 1) := by decide +kernel
theorem dR_change_12 : decode prog_1_method_14_code 12 = .ok (.invokevirtual 144, 3) := by decide +kernel
theorem dR_change_15 : decode prog_1_method_14_code 15 = .ok (.goto 10, 3) := by decide +kernel
theorem dR_change_18 : decode prog_1_method_14_code 18 = .ok (.aload_n 0, 1) := by decide +kernel
theorem dR_change_19 : decode prog_1_method_14_code 19 = .ok (.iload_n 1, 1) := by decide +kernel
theorem dR_change_20 : decode prog_1_method_14_code 20 = .ok (.iload_n 2, 1) := by decide +kernel
theorem dR_change_21 : decode prog_1_method_14_code 21 = .ok (.lload_n 3, 1) := by decide +kernel
theorem dR_change_22 : decode prog_1_method_14_code 22 = .ok (.invokevirtual 147, 3) := by decide +kernel
theorem dR_change_25 : decode prog_1_method_14_code 25 = .ok (.ireturn, 1) := by decide +kernel
theorem dR_changeNow_0 : decode prog_1_method_15_code 0 = .ok (.aload_n 0, 1) := by decide +kernel
theorem dR_changeNow_1 : decode prog_1_method_15_code 1 = .ok (.getfield 23, 3) := by decide +kernel
theorem dR_changeNow_4 : decode prog_1_method_15_code 4 = .ok (.iload_n 1, 1) := by decide +kernel
theorem dR_changeNow_5 : decode prog_1_method_15_code 5 = .ok (.iload_n 2, 1) := by decide +kernel
theorem dR_changeNow_6 : decode prog_1_method_15_code 6 = .ok (.lload_n 3, 1) := by decide +kernel
theorem dR_changeNow_7 : decode prog_1_method_15_code 7 = .ok (.invokevirtual 150, 3) := by decide +kernel
theorem dR_changeNow_10 : decode prog_1_method_15_code 10 = .ok (.ifCond .eq 6, 3) := by decide +kernel
theorem dR_changeNow_13 : decode prog_1_method_15_code 13 = .ok (.bipush (-4), 2) := by decide +kernel
theorem dR_changeNow_15 : decode prog_1_method_15_code 15 = .ok (.ireturn, 1) := by decide +kernel
theorem dR_changeNow_16 : decode prog_1_method_15_code 16 = .ok (.aload_n 0, 1) := by decide +kernel
theorem dR_changeNow_17 : decode prog_1_method_15_code 17 = .ok (.getfield 36, 3) := by decide +kernel
theorem dR_changeNow_20 : decode prog_1_method_15_code 20 = .ok (.iload_n 1, 1) := by decide +kernel
theorem dR_changeNow_21 : decode prog_1_method_15_code 21 = .ok (.iload_n 2, 1) := by decide +kernel
theorem dR_changeNow_22 : decode prog_1_method_15_code 22 = .ok (.lload_n 3, 1) := by decide +kernel
theorem dR_changeNow_23 : decode prog_1_method_15_code 23 = .ok (.iconst 1, 1) := by decide +kernel
theorem dR_changeNow_24 : decode prog_1_method_15_code 24 = .ok (.invokevirtual 154, 3) := by decide +kernel
theorem dR_changeNow_27 : decode prog_1_method_15_code 27 = .ok (.ifCond .ne 6, 3) := by decide +kernel
theorem dR_changeNow_30 : decode prog_1_method_15_code 30 = .ok (.bipush (-2), 2) := by decide +kernel
theorem dR_changeNow_32 : decode prog_1_method_15_code 32 = .ok (.ireturn, 1) := by decide +kernel
theorem dR_changeNow_33 : decode prog_1_method_15_code 33 = .ok (.aload_n 0, 1) := by decide +kernel
theorem dR_changeNow_34 : decode prog_1_method_15_code 34 = .ok (.getfield 43, 3) := by decide +kernel
theorem dR_changeNow_37 : decode prog_1_method_15_code 37 = .ok (.invokevirtual 97, 3) := by decide +kernel
theorem dR_changeNow_40 : decode prog_1_method_15_code 40 = .ok (.aload_n 0, 1) := by decide +kernel
theorem dR_changeNow_41 : decode prog_1_method_15_code 41 = .ok (.getfield 23, 3) := by decide +kernel
theorem dR_changeNow_44 : decode prog_1_method_15_code 44 = .ok (.iload_n 1, 1) := by decide +kernel
theorem dR_changeNow_45 : decode prog_1_method_15_code 45 = .ok (.iload_n 2, 1) := by decide +kernel
theorem dR_changeNow_46 : decode prog_1_method_15_code 46 = .ok (.lload_n 3, 1) := by decide +kernel
theorem dR_changeNow_47 : decode prog_1_method_15_code 47 = .ok (.invokevirtual 158, 3) := by decide +kernel
theorem dR_changeNow_50 : decode prog_1_method_15_code 50 = .ok (.aload_n 0, 1) := by decide +kernel
theorem dR_changeNow_51 : decode prog_1_method_15_code 51 = .ok (.getfield 43, 3) := by decide +kernel
theorem dR_changeNow_54 : decode prog_1_method_15_code 54 = .ok (.invokevirtual 100, 3) := by decide +kernel
theorem dR_changeNow_57 : decode prog_1_method_15_code 57 = .ok (.ifCond .eq 8, 3) := by decide +kernel
theorem dR_changeNow_60 : decode prog_1_method_15_code 60 = .ok (.bipush (-3), 2) := by decide +kernel
theorem dR_changeNow_62 : decode prog_1_method_15_code 62 = .ok (.goto 4, 3) := by decide +kernel
theorem dR_changeNow_65 : decode prog_1_method_15_code 65 = .ok (.iconst 1, 1) := by decide +kernel
theorem dR_changeNow_66 : decode prog_1_method_15_code 66 = .ok (.ireturn, 1) := by decide +kernel
theorem dA_wouldOverdraw_0 : decode prog_2_method_6_code 0 = .ok (.aload_n 0, 1) := by decide +kernel
theorem dA_wouldOverdraw_1 : decode prog_2_method_6_code 1 = .ok (.iload_n 1, 1) := by decide +kernel
theorem dA_wouldOverdraw_2 : decode prog_2_method_6_code 2 = .ok (.invokevirtual 17, 3) := by decide +kernel
theorem dA_wouldOverdraw_5 : decode prog_2_method_6_code 5 = .ok (.ifCond .eq 16, 3) := by decide +kernel
theorem dA_wouldOverdraw_8 : decode prog_2_method_6_code 8 = .ok (.aload_n 0, 1) := by decide +kernel
theorem dA_wouldOverdraw_9 : decode prog_2_method_6_code 9 = .ok (.getfield 7, 3) := by decide +kernel
theorem dA_wouldOverdraw_12 : decode prog_2_method_6_code 12 = .ok (.iload_n 1, 1) := by decide +kernel
theorem dA_wouldOverdraw_13 : decode prog_2_method_6_code 13 = .ok (.laload, 1) := by decide +kernel
theorem dA_wouldOverdraw_14 : decode prog_2_method_6_code 14 = .ok (.lload_n 3, 1) := by decide +kernel
theorem dA_wouldOverdraw_15 : decode prog_2_method_6_code 15 = .ok (.lsub, 1) := by decide +kernel
theorem dA_wouldOverdraw_16 : decode prog_2_method_6_code 16 = .ok (.lconst 0, 1) := by decide +kernel
theorem dA_wouldOverdraw_17 : decode prog_2_method_6_code 17 = .ok (.lcmp, 1) := by decide +kernel
theorem dA_wouldOverdraw_18 : decode prog_2_method_6_code 18 = .ok (.ifCond .lt 24, 3) := by decide +kernel
theorem dA_wouldOverdraw_21 : decode prog_2_method_6_code 21 = .ok (.aload_n 0, 1) := by decide +kernel
theorem dA_wouldOverdraw_22 : decode prog_2_method_6_code 22 = .ok (.iload_n 2, 1) := by decide +kernel
theorem dA_wouldOverdraw_23 : decode prog_2_method_6_code 23 = .ok (.invokevirtual 17, 3) := by decide +kernel
theorem dA_wouldOverdraw_26 : decode prog_2_method_6_code 26 = .ok (.ifCond .eq 20, 3) := by decide +kernel
theorem dA_wouldOverdraw_29 : decode prog_2_method_6_code 29 = .ok (.aload_n 0, 1) := by decide +kernel
theorem dA_wouldOverdraw_30 : decode prog_2_method_6_code 30 = .ok (.getfield 7, 3) := by decide +kernel
theorem dA_wouldOverdraw_33 : decode prog_2_method_6_code 33 = .ok (.iload_n 2, 1) := by decide +kernel
theorem dA_wouldOverdraw_34 : decode prog_2_method_6_code 34 = .ok (.laload, 1) := by decide +kernel
theorem dA_wouldOverdraw_35 : decode prog_2_method_6_code 35 = .ok (.lload_n 3, 1) := by decide +kernel
theorem dA_wouldOverdraw_36 : decode prog_2_method_6_code 36 = .ok (.ladd, 1) := by decide +kernel
theorem dA_wouldOverdraw_37 : decode prog_2_method_6_code 37 = .ok (.lconst 0, 1) := by decide +kernel
theorem dA_wouldOverdraw_38 : decode prog_2_method_6_code 38 = .ok (.lcmp, 1) := by decide +kernel
theorem dA_wouldOverdraw_39 : decode prog_2_method_6_code 39 = .ok (.ifCond .ge 7, 3) := by decide +kernel
theorem dA_wouldOverdraw_42 : decode prog_2_method_6_code 42 = .ok (.iconst 1, 1) := by decide +kernel
theorem dA_wouldOverdraw_43 : decode prog_2_method_6_code 43 = .ok (.goto 4, 3) := by decide +kernel
theorem dA_wouldOverdraw_46 : decode prog_2_method_6_code 46 = .ok (.iconst 0, 1) := by decide +kernel
theorem dA_wouldOverdraw_47 : decode prog_2_method_6_code 47 = .ok (.ireturn, 1) := by decide +kernel
theorem dJ_writeChange_0 : decode prog_4_method_4_code 0 = .ok (.aload_n 0, 1) := by decide +kernel
theorem dJ_writeChange_1 : decode prog_4_method_4_code 1 = .ok (.getfield 24, 3) := by decide +kernel
theorem dJ_writeChange_4 : decode prog_4_method_4_code 4 = .ok (.aload_n 0, 1) := by decide +kernel
theorem dJ_writeChange_5 : decode prog_4_method_4_code 5 = .ok (.getfield 20, 3) := by decide +kernel
theorem dJ_writeChange_8 : decode prog_4_method_4_code 8 = .ok (.arraylength, 1) := by decide +kernel
theorem dJ_writeChange_9 : decode prog_4_method_4_code 9 = .ok (.if_icmp .lt 5, 3) := by decide +kernel
theorem dJ_writeChange_12 : decode prog_4_method_4_code 12 = .ok (.iconst 0, 1) := by decide +kernel
theorem dJ_writeChange_13 : decode prog_4_method_4_code 13 = .ok (.ireturn, 1) := by decide +kernel
theorem dJ_writeChange_14 : decode prog_4_method_4_code 14 = .ok (.aload_n 0, 1) := by decide +kernel
theorem dJ_writeChange_15 : decode prog_4_method_4_code 15 = .ok (.getfield 7, 3) := by decide +kernel
theorem dJ_writeChange_18 : decode prog_4_method_4_code 18 = .ok (.aload_n 0, 1) := by decide +kernel
theorem dJ_writeChange_19 : decode prog_4_method_4_code 19 = .ok (.getfield 24, 3) := by decide +kernel
theorem dJ_writeChange_22 : decode prog_4_method_4_code 22 = .ok (.iload_n 1, 1) := by decide +kernel
theorem dJ_writeChange_23 : decode prog_4_method_4_code 23 = .ok (.iastore, 1) := by decide +kernel
theorem dJ_writeChange_24 : decode prog_4_method_4_code 24 = .ok (.aload_n 0, 1) := by decide +kernel
theorem dJ_writeChange_25 : decode prog_4_method_4_code 25 = .ok (.getfield 13, 3) := by decide +kernel
theorem dJ_writeChange_28 : decode prog_4_method_4_code 28 = .ok (.aload_n 0, 1) := by decide +kernel
theorem dJ_writeChange_29 : decode prog_4_method_4_code 29 = .ok (.getfield 24, 3) := by decide +kernel
theorem dJ_writeChange_32 : decode prog_4_method_4_code 32 = .ok (.iload_n 2, 1) := by decide +kernel
theorem dJ_writeChange_33 : decode prog_4_method_4_code 33 = .ok (.iastore, 1) := by decide +kernel
theorem dJ_writeChange_34 : decode prog_4_method_4_code 34 = .ok (.aload_n 0, 1) := by decide +kernel
theorem dJ_writeChange_35 : decode prog_4_method_4_code 35 = .ok (.getfield 16, 3) := by decide +kernel
theorem dJ_writeChange_38 : decode prog_4_method_4_code 38 = .ok (.aload_n 0, 1) := by decide +kernel
theorem dJ_writeChange_39 : decode prog_4_method_4_code 39 = .ok (.getfield 24, 3) := by decide +kernel
theorem dJ_writeChange_42 : decode prog_4_method_4_code 42 = .ok (.lload_n 3, 1) := by decide +kernel
theorem dJ_writeChange_43 : decode prog_4_method_4_code 43 = .ok (.lastore, 1) := by decide +kernel
theorem dJ_writeChange_44 : decode prog_4_method_4_code 44 = .ok (.aload_n 0, 1) := by decide +kernel
theorem dJ_writeChange_45 : decode prog_4_method_4_code 45 = .ok (.getfield 20, 3) := by decide +kernel
theorem dJ_writeChange_48 : decode prog_4_method_4_code 48 = .ok (.aload_n 0, 1) := by decide +kernel
theorem dJ_writeChange_49 : decode prog_4_method_4_code 49 = .ok (.getfield 24, 3) := by decide +kernel
theorem dJ_writeChange_52 : decode prog_4_method_4_code 52 = .ok (.iload 5, 2) := by decide +kernel
theorem dJ_writeChange_54 : decode prog_4_method_4_code 54 = .ok (.bastore, 1) := by decide +kernel
theorem dJ_writeChange_55 : decode prog_4_method_4_code 55 = .ok (.aload_n 0, 1) := by decide +kernel
theorem dJ_writeChange_56 : decode prog_4_method_4_code 56 = .ok (.dup, 1) := by decide +kernel
theorem dJ_writeChange_57 : decode prog_4_method_4_code 57 = .ok (.getfield 24, 3) := by decide +kernel
theorem dJ_writeChange_60 : decode prog_4_method_4_code 60 = .ok (.iconst 1, 1) := by decide +kernel
theorem dJ_writeChange_61 : decode prog_4_method_4_code 61 = .ok (.iadd, 1) := by decide +kernel
theorem dJ_writeChange_62 : decode prog_4_method_4_code 62 = .ok (.putfield 24, 3) := by decide +kernel
theorem dJ_writeChange_65 : decode prog_4_method_4_code 65 = .ok (.iconst 1, 1) := by decide +kernel
theorem dJ_writeChange_66 : decode prog_4_method_4_code 66 = .ok (.ireturn, 1) := by decide +kernel
theorem dD_writeBlock_0 : decode prog_3_method_6_code 0 = .ok (.aload_n 0, 1) := by decide +kernel
theorem dD_writeBlock_1 : decode prog_3_method_6_code 1 = .ok (.dup, 1) := by decide +kernel
theorem dD_writeBlock_2 : decode prog_3_method_6_code 2 = .ok (.getfield 9, 3) := by decide +kernel
theorem dD_writeBlock_5 : decode prog_3_method_6_code 5 = .ok (.iconst 1, 1) := by decide +kernel
theorem dD_writeBlock_6 : decode prog_3_method_6_code 6 = .ok (.iadd, 1) := by decide +kernel
theorem dD_writeBlock_7 : decode prog_3_method_6_code 7 = .ok (.putfield 9, 3) := by decide +kernel
theorem dD_writeBlock_10 : decode prog_3_method_6_code 10 = .ok (.aload_n 0, 1) := by decide +kernel
theorem dD_writeBlock_11 : decode prog_3_method_6_code 11 = .ok (.getfield 15, 3) := by decide +kernel
theorem dD_writeBlock_14 : decode prog_3_method_6_code 14 = .ok (.ifCond .le 13, 3) := by decide +kernel
theorem dD_writeBlock_17 : decode prog_3_method_6_code 17 = .ok (.aload_n 0, 1) := by decide +kernel
theorem dD_writeBlock_18 : decode prog_3_method_6_code 18 = .ok (.dup, 1) := by decide +kernel
theorem dD_writeBlock_19 : decode prog_3_method_6_code 19 = .ok (.getfield 15, 3) := by decide +kernel
theorem dD_writeBlock_22 : decode prog_3_method_6_code 22 = .ok (.iconst 1, 1) := by decide +kernel
theorem dD_writeBlock_23 : decode prog_3_method_6_code 23 = .ok (.isub, 1) := by decide +kernel
theorem dD_writeBlock_24 : decode prog_3_method_6_code 24 = .ok (.putfield 15, 3) := by decide +kernel
theorem dD_writeBlock_27 : decode prog_3_method_6_code 27 = .ok (.return_, 1) := by decide +kernel
theorem dR_changeInGroup_0 : decode prog_1_method_16_code 0 = .ok (.aload_n 0, 1) := by decide +kernel
theorem dR_changeInGroup_1 : decode prog_1_method_16_code 1 = .ok (.getfield 36, 3) := by decide +kernel
theorem dR_changeInGroup_4 : decode prog_1_method_16_code 4 = .ok (.iload_n 1, 1) := by decide +kernel
theorem dR_changeInGroup_5 : decode prog_1_method_16_code 5 = .ok (.iload_n 2, 1) := by decide +kernel
theorem dR_changeInGroup_6 : decode prog_1_method_16_code 6 = .ok (.lload_n 3, 1) := by decide +kernel
theorem dR_changeInGroup_7 : decode prog_1_method_16_code 7 = .ok (.iconst 0, 1) := by decide +kernel
theorem dR_changeInGroup_8 : decode prog_1_method_16_code 8 = .ok (.invokevirtual 154, 3) := by decide +kernel
theorem dR_changeInGroup_11 : decode prog_1_method_16_code 11 = .ok (.ifCond .ne 6, 3) := by decide +kernel
theorem dR_changeInGroup_14 : decode prog_1_method_16_code 14 = .ok (.bipush (-2), 2) := by decide +kernel
theorem dR_changeInGroup_16 : decode prog_1_method_16_code 16 = .ok (.ireturn, 1) := by decide +kernel
theorem dR_changeInGroup_17 : decode prog_1_method_16_code 17 = .ok (.aload_n 0, 1) := by decide +kernel
theorem dR_changeInGroup_18 : decode prog_1_method_16_code 18 = .ok (.getfield 43, 3) := by decide +kernel
theorem dR_changeInGroup_21 : decode prog_1_method_16_code 21 = .ok (.invokevirtual 97, 3) := by decide +kernel
theorem dR_changeInGroup_24 : decode prog_1_method_16_code 24 = .ok (.aload_n 0, 1) := by decide +kernel
theorem dR_changeInGroup_25 : decode prog_1_method_16_code 25 = .ok (.dup, 1) := by decide +kernel
theorem dR_changeInGroup_26 : decode prog_1_method_16_code 26 = .ok (.getfield 47, 3) := by decide +kernel
theorem dR_changeInGroup_29 : decode prog_1_method_16_code 29 = .ok (.iconst 1, 1) := by decide +kernel
theorem dR_changeInGroup_30 : decode prog_1_method_16_code 30 = .ok (.iadd, 1) := by decide +kernel
theorem dR_changeInGroup_31 : decode prog_1_method_16_code 31 = .ok (.putfield 47, 3) := by decide +kernel
theorem dR_changeInGroup_34 : decode prog_1_method_16_code 34 = .ok (.aload_n 0, 1) := by decide +kernel
theorem dR_changeInGroup_35 : decode prog_1_method_16_code 35 = .ok (.getfield 43, 3) := by decide +kernel
theorem dR_changeInGroup_38 : decode prog_1_method_16_code 38 = .ok (.invokevirtual 100, 3) := by decide +kernel
theorem dR_changeInGroup_41 : decode prog_1_method_16_code 41 = .ok (.ifCond .eq 8, 3) := by decide +kernel
theorem dR_changeInGroup_44 : decode prog_1_method_16_code 44 = .ok (.bipush (-3), 2) := by decide +kernel
theorem dR_changeInGroup_46 : decode prog_1_method_16_code 46 = .ok (.goto 4, 3) := by decide +kernel
theorem dR_changeInGroup_49 : decode prog_1_method_16_code 49 = .ok (.iconst 0, 1) := by decide +kernel
theorem dR_changeInGroup_50 : decode prog_1_method_16_code 50 = .ok (.ireturn, 1) := by decide +kernel
theorem dR_move_0 : decode prog_1_method_3_code 0 = .ok (.aload_n 0, 1) := by decide +kernel
theorem dR_move_1 : decode prog_1_method_3_code 1 = .ok (.iload_n 1, 1) := by decide +kernel
theorem dR_move_2 : decode prog_1_method_3_code 2 = .ok (.invokevirtual 54, 3) := by decide +kernel
theorem dR_move_5 : decode prog_1_method_3_code 5 = .ok (.aload_n 0, 1) := by decide +kernel
theorem dR_move_6 : decode prog_1_method_3_code 6 = .ok (.iload_n 2, 1) := by decide +kernel
theorem dR_move_7 : decode prog_1_method_3_code 7 = .ok (.invokevirtual 54, 3) := by decide +kernel
theorem dR_move_10 : decode prog_1_method_3_code 10 = .ok (.lload_n 3, 1) := by decide +kernel
theorem dR_move_11 : decode prog_1_method_3_code 11 = .ok (.lconst 0, 1) := by decide +kernel
theorem dR_move_12 : decode prog_1_method_3_code 12 = .ok (.ldc2_w 59, 3) := by decide +kernel
theorem dR_move_15 : decode prog_1_method_3_code 15 = .ok (.invokestatic 61, 3) := by decide +kernel
theorem dR_move_18 : decode prog_1_method_3_code 18 = .ok (.iload_n 1, 1) := by decide +kernel
theorem dR_move_19 : decode prog_1_method_3_code 19 = .ok (.iload_n 2, 1) := by decide +kernel
theorem dR_move_20 : decode prog_1_method_3_code 20 = .ok (.if_icmp .ne 13, 3) := by decide +kernel
theorem dR_move_23 : decode prog_1_method_3_code 23 = .ok (.new 72, 3) := by decide +kernel
theorem dR_move_26 : decode prog_1_method_3_code 26 = .ok (.dup, 1) := by decide +kernel
theorem dR_move_27 : decode prog_1_method_3_code 27 = .ok (.ldc 74, 2) := by decide +kernel
theorem dR_move_29 : decode prog_1_method_3_code 29 = .ok (.invokespecial 76, 3) := by decide +kernel
theorem dR_move_32 : decode prog_1_method_3_code 32 = .ok (.athrow, 1) := by decide +kernel
theorem dR_move_33 : decode prog_1_method_3_code 33 = .ok (.aload_n 0, 1) := by decide +kernel
theorem dR_move_34 : decode prog_1_method_3_code 34 = .ok (.invokevirtual 65, 3) := by decide +kernel
theorem dR_move_37 : decode prog_1_method_3_code 37 = .ok (.aload_n 0, 1) := by decide +kernel
theorem dR_move_38 : decode prog_1_method_3_code 38 = .ok (.iload_n 1, 1) := by decide +kernel
theorem dR_move_39 : decode prog_1_method_3_code 39 = .ok (.iload_n 2, 1) := by decide +kernel
theorem dR_move_40 : decode prog_1_method_3_code 40 = .ok (.lload_n 3, 1) := by decide +kernel
theorem dR_move_41 : decode prog_1_method_3_code 41 = .ok (.invokevirtual 68, 3) := by decide +kernel
theorem dR_move_44 : decode prog_1_method_3_code 44 = .ok (.ireturn, 1) := by decide +kernel
theorem dR_begin_0 : decode prog_1_method_4_code 0 = .ok (.aload_n 0, 1) := by decide +kernel
theorem dR_begin_1 : decode prog_1_method_4_code 1 = .ok (.invokevirtual 65, 3) := by decide +kernel
theorem dR_begin_4 : decode prog_1_method_4_code 4 = .ok (.aload_n 0, 1) := by decide +kernel
theorem dR_begin_5 : decode prog_1_method_4_code 5 = .ok (.invokevirtual 79, 3) := by decide +kernel
theorem dR_begin_8 : decode prog_1_method_4_code 8 = .ok (.aload_n 0, 1) := by decide +kernel
theorem dR_begin_9 : decode prog_1_method_4_code 9 = .ok (.iconst 0, 1) := by decide +kernel
theorem dR_begin_10 : decode prog_1_method_4_code 10 = .ok (.putfield 47, 3) := by decide +kernel
theorem dR_begin_13 : decode prog_1_method_4_code 13 = .ok (.return_, 1) := by decide +kernel
theorem dR_requireNoGroup_0 : decode prog_1_method_22_code 0 = .ok (.aload_n 0, 1) := by decide +kernel
theorem dR_requireNoGroup_1 : decode prog_1_method_22_code 1 = .ok (.getfield 47, 3) := by decide +kernel
theorem dR_requireNoGroup_4 : decode prog_1_method_22_code 4 = .ok (.iconst (-1), 1) := by decide +kernel
theorem dR_requireNoGroup_5 : decode prog_1_method_22_code 5 = .ok (.if_icmp .eq 13, 3) := by decide +kernel
theorem dR_requireNoGroup_8 : decode prog_1_method_22_code 8 = .ok (.new 172, 3) := by decide +kernel
theorem dR_requireNoGroup_11 : decode prog_1_method_22_code 11 = .ok (.dup, 1) := by decide +kernel
theorem dR_requireNoGroup_12 : decode prog_1_method_22_code 12 = .ok (.ldc 179, 2) := by decide +kernel
theorem dR_requireNoGroup_14 : decode prog_1_method_22_code 14 = .ok (.invokespecial 176, 3) := by decide +kernel
theorem dR_requireNoGroup_17 : decode prog_1_method_22_code 17 = .ok (.athrow, 1) := by decide +kernel
theorem dR_requireNoGroup_18 : decode prog_1_method_22_code 18 = .ok (.return_, 1) := by decide +kernel
theorem dR_end_0 : decode prog_1_method_5_code 0 = .ok (.aload_n 0, 1) := by decide +kernel
theorem dR_end_1 : decode prog_1_method_5_code 1 = .ok (.invokevirtual 65, 3) := by decide +kernel
theorem dR_end_4 : decode prog_1_method_5_code 4 = .ok (.aload_n 0, 1) := by decide +kernel
theorem dR_end_5 : decode prog_1_method_5_code 5 = .ok (.invokevirtual 82, 3) := by decide +kernel
theorem dR_end_8 : decode prog_1_method_5_code 8 = .ok (.aload_n 0, 1) := by decide +kernel
theorem dR_end_9 : decode prog_1_method_5_code 9 = .ok (.getfield 30, 3) := by decide +kernel
theorem dR_end_12 : decode prog_1_method_5_code 12 = .ok (.aload_n 0, 1) := by decide +kernel
theorem dR_end_13 : decode prog_1_method_5_code 13 = .ok (.getfield 23, 3) := by decide +kernel
theorem dR_end_16 : decode prog_1_method_5_code 16 = .ok (.invokevirtual 85, 3) := by decide +kernel
theorem dR_end_19 : decode prog_1_method_5_code 19 = .ok (.aload_n 0, 1) := by decide +kernel
theorem dR_end_20 : decode prog_1_method_5_code 20 = .ok (.getfield 36, 3) := by decide +kernel
theorem dR_end_23 : decode prog_1_method_5_code 23 = .ok (.aload_n 0, 1) := by decide +kernel
theorem dR_end_24 : decode prog_1_method_5_code 24 = .ok (.getfield 47, 3) := by decide +kernel
theorem dR_end_27 : decode prog_1_method_5_code 27 = .ok (.aload_n 0, 1) := by decide +kernel
theorem dR_end_28 : decode prog_1_method_5_code 28 = .ok (.getfield 30, 3) := by decide +kernel
theorem dR_end_31 : decode prog_1_method_5_code 31 = .ok (.invokevirtual 89, 3) := by decide +kernel
theorem dR_end_34 : decode prog_1_method_5_code 34 = .ok (.ifCond .ne 11, 3) := by decide +kernel
theorem dR_end_37 : decode prog_1_method_5_code 37 = .ok (.aload_n 0, 1) := by decide +kernel
theorem dR_end_38 : decode prog_1_method_5_code 38 = .ok (.iconst (-1), 1) := by decide +kernel
theorem dR_end_39 : decode prog_1_method_5_code 39 = .ok (.putfield 47, 3) := by decide +kernel
theorem dR_end_42 : decode prog_1_method_5_code 42 = .ok (.bipush (-4), 2) := by decide +kernel
theorem dR_end_44 : decode prog_1_method_5_code 44 = .ok (.ireturn, 1) := by decide +kernel
theorem dR_end_45 : decode prog_1_method_5_code 45 = .ok (.aload_n 0, 1) := by decide +kernel
theorem dR_end_46 : decode prog_1_method_5_code 46 = .ok (.getfield 36, 3) := by decide +kernel
theorem dR_end_49 : decode prog_1_method_5_code 49 = .ok (.aload_n 0, 1) := by decide +kernel
theorem dR_end_50 : decode prog_1_method_5_code 50 = .ok (.getfield 47, 3) := by decide +kernel
theorem dR_end_53 : decode prog_1_method_5_code 53 = .ok (.invokevirtual 93, 3) := by decide +kernel
theorem dR_end_56 : decode prog_1_method_5_code 56 = .ok (.ifCond .ne 6, 3) := by decide +kernel
theorem dR_end_59 : decode prog_1_method_5_code 59 = .ok (.bipush (-2), 2) := by decide +kernel
theorem dR_end_61 : decode prog_1_method_5_code 61 = .ok (.ireturn, 1) := by decide +kernel
theorem dR_end_62 : decode prog_1_method_5_code 62 = .ok (.aload_n 0, 1) := by decide +kernel
theorem dR_end_63 : decode prog_1_method_5_code 63 = .ok (.getfield 43, 3) := by decide +kernel
theorem dR_end_66 : decode prog_1_method_5_code 66 = .ok (.invokevirtual 97, 3) := by decide +kernel
theorem dR_end_69 : decode prog_1_method_5_code 69 = .ok (.aload_n 0, 1) := by decide +kernel
theorem dR_end_70 : decode prog_1_method_5_code 70 = .ok (.getfield 23, 3) := by decide +kernel
theorem dR_end_73 : decode prog_1_method_5_code 73 = .ok (.aload_n 0, 1) := by decide +kernel
theorem dR_end_74 : decode prog_1_method_5_code 74 = .ok (.getfield 30, 3) := by decide +kernel
theorem dR_end_77 : decode prog_1_method_5_code 77 = .ok (.invokevirtual 85, 3) := by decide +kernel
theorem dR_end_80 : decode prog_1_method_5_code 80 = .ok (.aload_n 0, 1) := by decide +kernel
theorem dR_end_81 : decode prog_1_method_5_code 81 = .ok (.getfield 47, 3) := by decide +kernel
theorem dR_end_84 : decode prog_1_method_5_code 84 = .ok (.istore_n 1, 1) := by decide +kernel
theorem dR_end_85 : decode prog_1_method_5_code 85 = .ok (.aload_n 0, 1) := by decide +kernel
theorem dR_end_86 : decode prog_1_method_5_code 86 = .ok (.iconst (-1), 1) := by decide +kernel
theorem dR_end_87 : decode prog_1_method_5_code 87 = .ok (.putfield 47, 3) := by decide +kernel
theorem dR_end_90 : decode prog_1_method_5_code 90 = .ok (.aload_n 0, 1) := by decide +kernel
theorem dR_end_91 : decode prog_1_method_5_code 91 = .ok (.getfield 43, 3) := by decide +kernel
theorem dR_end_94 : decode prog_1_method_5_code 94 = .ok (.invokevirtual 100, 3) := by decide +kernel
theorem dR_end_97 : decode prog_1_method_5_code 97 = .ok (.ifCond .eq 8, 3) := by decide +kernel
theorem dR_end_100 : decode prog_1_method_5_code 100 = .ok (.bipush (-3), 2) := by decide +kernel
theorem dR_end_102 : decode prog_1_method_5_code 102 = .ok (.goto 4, 3) := by decide +kernel
theorem dR_end_105 : decode prog_1_method_5_code 105 = .ok (.iload_n 1, 1) := by decide +kernel
theorem dR_end_106 : decode prog_1_method_5_code 106 = .ok (.ireturn, 1) := by decide +kernel
theorem dR_requireGroup_0 : decode prog_1_method_21_code 0 = .ok (.aload_n 0, 1) := by decide +kernel
theorem dR_requireGroup_1 : decode prog_1_method_21_code 1 = .ok (.getfield 47, 3) := by decide +kernel
theorem dR_requireGroup_4 : decode prog_1_method_21_code 4 = .ok (.iconst (-1), 1) := by decide +kernel
theorem dR_requireGroup_5 : decode prog_1_method_21_code 5 = .ok (.if_icmp .ne 13, 3) := by decide +kernel
theorem dR_requireGroup_8 : decode prog_1_method_21_code 8 = .ok (.new 172, 3) := by decide +kernel
theorem dR_requireGroup_11 : decode prog_1_method_21_code 11 = .ok (.dup, 1) := by decide +kernel
theorem dR_requireGroup_12 : decode prog_1_method_21_code 12 = .ok (.ldc 177, 2) := by decide +kernel
theorem dR_requireGroup_14 : decode prog_1_method_21_code 14 = .ok (.invokespecial 176, 3) := by decide +kernel
theorem dR_requireGroup_17 : decode prog_1_method_21_code 17 = .ok (.athrow, 1) := by decide +kernel
theorem dR_requireGroup_18 : decode prog_1_method_21_code 18 = .ok (.return_, 1) := by decide +kernel
theorem dJ_tryLast_0 : decode prog_4_method_6_code 0 = .ok (.aload_n 0, 1) := by decide +kernel
theorem dJ_tryLast_1 : decode prog_4_method_6_code 1 = .ok (.iload_n 1, 1) := by decide +kernel
theorem dJ_tryLast_2 : decode prog_4_method_6_code 2 = .ok (.invokevirtual 28, 3) := by decide +kernel
theorem dJ_tryLast_5 : decode prog_4_method_6_code 5 = .ok (.istore_n 3, 1) := by decide +kernel
theorem dJ_tryLast_6 : decode prog_4_method_6_code 6 = .ok (.iload_n 3, 1) := by decide +kernel
theorem dJ_tryLast_7 : decode prog_4_method_6_code 7 = .ok (.aload_n 0, 1) := by decide +kernel
theorem dJ_tryLast_8 : decode prog_4_method_6_code 8 = .ok (.getfield 24, 3) := by decide +kernel
theorem dJ_tryLast_11 : decode prog_4_method_6_code 11 = .ok (.if_icmp .ge 58, 3) := by decide +kernel
theorem dJ_tryLast_14 : decode prog_4_method_6_code 14 = .ok (.aload_n 2, 1) := by decide +kernel
theorem dJ_tryLast_15 : decode prog_4_method_6_code 15 = .ok (.aload_n 0, 1) := by decide +kernel
theorem dJ_tryLast_16 : decode prog_4_method_6_code 16 = .ok (.getfield 7, 3) := by decide +kernel
theorem dJ_tryLast_19 : decode prog_4_method_6_code 19 = .ok (.iload_n 3, 1) := by decide +kernel
theorem dJ_tryLast_20 : decode prog_4_method_6_code 20 = .ok (.iaload, 1) := by decide +kernel
theorem dJ_tryLast_21 : decode prog_4_method_6_code 21 = .ok (.aload_n 0, 1) := by decide +kernel
theorem dJ_tryLast_22 : decode prog_4_method_6_code 22 = .ok (.getfield 13, 3) := by decide +kernel
theorem dJ_tryLast_25 : decode prog_4_method_6_code 25 = .ok (.iload_n 3, 1) := by decide +kernel
theorem dJ_tryLast_26 : decode prog_4_method_6_code 26 = .ok (.iaload, 1) := by decide +kernel
theorem dJ_tryLast_27 : decode prog_4_method_6_code 27 = .ok (.aload_n 0, 1) := by decide +kernel
theorem dJ_tryLast_28 : decode prog_4_method_6_code 28 = .ok (.getfield 16, 3) := by decide +kernel
theorem dJ_tryLast_31 : decode prog_4_method_6_code 31 = .ok (.iload_n 3, 1) := by decide +kernel
theorem dJ_tryLast_32 : decode prog_4_method_6_code 32 = .ok (.laload, 1) := by decide +kernel
theorem dJ_tryLast_33 : decode prog_4_method_6_code 33 = .ok (.invokevirtual 32, 3) := by decide +kernel
theorem dJ_tryLast_36 : decode prog_4_method_6_code 36 = .ok (.ifCond .eq 5, 3) := by decide +kernel
theorem dJ_tryLast_39 : decode prog_4_method_6_code 39 = .ok (.iconst 0, 1) := by decide +kernel
theorem dJ_tryLast_40 : decode prog_4_method_6_code 40 = .ok (.ireturn, 1) := by decide +kernel
theorem dJ_tryLast_41 : decode prog_4_method_6_code 41 = .ok (.aload_n 2, 1) := by decide +kernel
theorem dJ_tryLast_42 : decode prog_4_method_6_code 42 = .ok (.aload_n 0, 1) := by decide +kernel
theorem dJ_tryLast_43 : decode prog_4_method_6_code 43 = .ok (.getfield 7, 3) := by decide +kernel
theorem dJ_tryLast_46 : decode prog_4_method_6_code 46 = .ok (.iload_n 3, 1) := by decide +kernel
theorem dJ_tryLast_47 : decode prog_4_method_6_code 47 = .ok (.iaload, 1) := by decide +kernel
theorem dJ_tryLast_48 : decode prog_4_method_6_code 48 = .ok (.aload_n 0, 1) := by decide +kernel
theorem dJ_tryLast_49 : decode prog_4_method_6_code 49 = .ok (.getfield 13, 3) := by decide +kernel
theorem dJ_tryLast_52 : decode prog_4_method_6_code 52 = .ok (.iload_n 3, 1) := by decide +kernel
theorem dJ_tryLast_53 : decode prog_4_method_6_code 53 = .ok (.iaload, 1) := by decide +kernel
theorem dJ_tryLast_54 : decode prog_4_method_6_code 54 = .ok (.aload_n 0, 1) := by decide +kernel
theorem dJ_tryLast_55 : decode prog_4_method_6_code 55 = .ok (.getfield 16, 3) := by decide +kernel
theorem dJ_tryLast_58 : decode prog_4_method_6_code 58 = .ok (.iload_n 3, 1) := by decide +kernel
theorem dJ_tryLast_59 : decode prog_4_method_6_code 59 = .ok (.laload, 1) := by decide +kernel
theorem dJ_tryLast_60 : decode prog_4_method_6_code 60 = .ok (.invokevirtual 38, 3) := by decide +kernel
theorem dJ_tryLast_63 : decode prog_4_method_6_code 63 = .ok (.iinc 3 1, 3) := by decide +kernel
theorem dJ_tryLast_66 : decode prog_4_method_6_code 66 = .ok (.goto (-60), 3) := by decide +kernel
theorem dJ_tryLast_69 : decode prog_4_method_6_code 69 = .ok (.iconst 1, 1) := by decide +kernel
theorem dJ_tryLast_70 : decode prog_4_method_6_code 70 = .ok (.ireturn, 1) := by decide +kernel
theorem dJ_firstOfLast_0 : decode prog_4_method_8_code 0 = .ok (.iconst 0, 1) := by decide +kernel
theorem dJ_firstOfLast_1 : decode prog_4_method_8_code 1 = .ok (.aload_n 0, 1) := by decide +kernel
theorem dJ_firstOfLast_2 : decode prog_4_method_8_code 2 = .ok (.getfield 24, 3) := by decide +kernel
theorem dJ_firstOfLast_5 : decode prog_4_method_8_code 5 = .ok (.iload_n 1, 1) := by decide +kernel
theorem dJ_firstOfLast_6 : decode prog_4_method_8_code 6 = .ok (.isub, 1) := by decide +kernel
theorem dJ_firstOfLast_7 : decode prog_4_method_8_code 7 = .ok (.invokestatic 42, 3) := by decide +kernel
theorem dJ_firstOfLast_10 : decode prog_4_method_8_code 10 = .ok (.ireturn, 1) := by decide +kernel
theorem dJ_writeEnd_0 : decode prog_4_method_5_code 0 = .ok (.aload_n 0, 1) := by decide +kernel
theorem dJ_writeEnd_1 : decode prog_4_method_5_code 1 = .ok (.getfield 24, 3) := by decide +kernel
theorem dJ_writeEnd_4 : decode prog_4_method_5_code 4 = .ok (.aload_n 0, 1) := by decide +kernel
theorem dJ_writeEnd_5 : decode prog_4_method_5_code 5 = .ok (.getfield 20, 3) := by decide +kernel
theorem dJ_writeEnd_8 : decode prog_4_method_5_code 8 = .ok (.arraylength, 1) := by decide +kernel
theorem dJ_writeEnd_9 : decode prog_4_method_5_code 9 = .ok (.if_icmp .lt 5, 3) := by decide +kernel
theorem dJ_writeEnd_12 : decode prog_4_method_5_code 12 = .ok (.iconst 0, 1) := by decide +kernel
theorem dJ_writeEnd_13 : decode prog_4_method_5_code 13 = .ok (.ireturn, 1) := by decide +kernel
theorem dJ_writeEnd_14 : decode prog_4_method_5_code 14 = .ok (.aload_n 0, 1) := by decide +kernel
theorem dJ_writeEnd_15 : decode prog_4_method_5_code 15 = .ok (.iload_n 1, 1) := by decide +kernel
theorem dJ_writeEnd_16 : decode prog_4_method_5_code 16 = .ok (.invokevirtual 28, 3) := by decide +kernel
theorem dJ_writeEnd_19 : decode prog_4_method_5_code 19 = .ok (.istore_n 2, 1) := by decide +kernel
theorem dJ_writeEnd_20 : decode prog_4_method_5_code 20 = .ok (.iload_n 2, 1) := by decide +kernel
theorem dJ_writeEnd_21 : decode prog_4_method_5_code 21 = .ok (.aload_n 0, 1) := by decide +kernel
theorem dJ_writeEnd_22 : decode prog_4_method_5_code 22 = .ok (.getfield 24, 3) := by decide +kernel
theorem dJ_writeEnd_25 : decode prog_4_method_5_code 25 = .ok (.if_icmp .ge 16, 3) := by decide +kernel
theorem dJ_writeEnd_28 : decode prog_4_method_5_code 28 = .ok (.aload_n 0, 1) := by decide +kernel
theorem dJ_writeEnd_29 : decode prog_4_method_5_code 29 = .ok (.getfield 20, 3) := by decide +kernel
theorem dJ_writeEnd_32 : decode prog_4_method_5_code 32 = .ok (.iload_n 2, 1) := by decide +kernel
theorem dJ_writeEnd_33 : decode prog_4_method_5_code 33 = .ok (.iconst 1, 1) := by decide +kernel
theorem dJ_writeEnd_34 : decode prog_4_method_5_code 34 = .ok (.bastore, 1) := by decide +kernel
theorem dJ_writeEnd_35 : decode prog_4_method_5_code 35 = .ok (.iinc 2 1, 3) := by decide +kernel
theorem dJ_writeEnd_38 : decode prog_4_method_5_code 38 = .ok (.goto (-18), 3) := by decide +kernel
theorem dJ_writeEnd_41 : decode prog_4_method_5_code 41 = .ok (.aload_n 0, 1) := by decide +kernel
theorem dJ_writeEnd_42 : decode prog_4_method_5_code 42 = .ok (.getfield 20, 3) := by decide +kernel
theorem dJ_writeEnd_45 : decode prog_4_method_5_code 45 = .ok (.aload_n 0, 1) := by decide +kernel
theorem dJ_writeEnd_46 : decode prog_4_method_5_code 46 = .ok (.getfield 24, 3) := by decide +kernel
theorem dJ_writeEnd_49 : decode prog_4_method_5_code 49 = .ok (.iconst 0, 1) := by decide +kernel
theorem dJ_writeEnd_50 : decode prog_4_method_5_code 50 = .ok (.bastore, 1) := by decide +kernel
theorem dJ_writeEnd_51 : decode prog_4_method_5_code 51 = .ok (.aload_n 0, 1) := by decide +kernel
theorem dJ_writeEnd_52 : decode prog_4_method_5_code 52 = .ok (.dup, 1) := by decide +kernel
theorem dJ_writeEnd_53 : decode prog_4_method_5_code 53 = .ok (.getfield 24, 3) := by decide +kernel
theorem dJ_writeEnd_56 : decode prog_4_method_5_code 56 = .ok (.iconst 1, 1) := by decide +kernel
theorem dJ_writeEnd_57 : decode prog_4_method_5_code 57 = .ok (.iadd, 1) := by decide +kernel
theorem dJ_writeEnd_58 : decode prog_4_method_5_code 58 = .ok (.putfield 24, 3) := by decide +kernel
theorem dJ_writeEnd_61 : decode prog_4_method_5_code 61 = .ok (.iconst 1, 1) := by decide +kernel
theorem dJ_writeEnd_62 : decode prog_4_method_5_code 62 = .ok (.ireturn, 1) := by decide +kernel
theorem dR_drop_0 : decode prog_1_method_6_code 0 = .ok (.aload_n 0, 1) := by decide +kernel
theorem dR_drop_1 : decode prog_1_method_6_code 1 = .ok (.invokevirtual 65, 3) := by decide +kernel
theorem dR_drop_4 : decode prog_1_method_6_code 4 = .ok (.aload_n 0, 1) := by decide +kernel
theorem dR_drop_5 : decode prog_1_method_6_code 5 = .ok (.invokevirtual 82, 3) := by decide +kernel
theorem dR_drop_8 : decode prog_1_method_6_code 8 = .ok (.aload_n 0, 1) := by decide +kernel
theorem dR_drop_9 : decode prog_1_method_6_code 9 = .ok (.getfield 47, 3) := by decide +kernel
theorem dR_drop_12 : decode prog_1_method_6_code 12 = .ok (.istore_n 1, 1) := by decide +kernel
theorem dR_drop_13 : decode prog_1_method_6_code 13 = .ok (.aload_n 0, 1) := by decide +kernel
theorem dR_drop_14 : decode prog_1_method_6_code 14 = .ok (.iconst (-1), 1) := by decide +kernel
theorem dR_drop_15 : decode prog_1_method_6_code 15 = .ok (.putfield 47, 3) := by decide +kernel
theorem dR_drop_18 : decode prog_1_method_6_code 18 = .ok (.iload_n 1, 1) := by decide +kernel
theorem dR_drop_19 : decode prog_1_method_6_code 19 = .ok (.ireturn, 1) := by decide +kernel
theorem dR_snapshot_0 : decode prog_1_method_7_code 0 = .ok (.aload_n 0, 1) := by decide +kernel
theorem dR_snapshot_1 : decode prog_1_method_7_code 1 = .ok (.invokevirtual 65, 3) := by decide +kernel
theorem dR_snapshot_4 : decode prog_1_method_7_code 4 = .ok (.aload_n 0, 1) := by decide +kernel
theorem dR_snapshot_5 : decode prog_1_method_7_code 5 = .ok (.invokevirtual 79, 3) := by decide +kernel
theorem dR_snapshot_8 : decode prog_1_method_7_code 8 = .ok (.aload_n 0, 1) := by decide +kernel
theorem dR_snapshot_9 : decode prog_1_method_7_code 9 = .ok (.invokevirtual 104, 3) := by decide +kernel
theorem dR_snapshot_12 : decode prog_1_method_7_code 12 = .ok (.istore_n 1, 1) := by decide +kernel
theorem dR_snapshot_13 : decode prog_1_method_7_code 13 = .ok (.aload_n 0, 1) := by decide +kernel
theorem dR_snapshot_14 : decode prog_1_method_7_code 14 = .ok (.getfield 43, 3) := by decide +kernel
theorem dR_snapshot_17 : decode prog_1_method_7_code 17 = .ok (.iload_n 1, 1) := by decide +kernel
theorem dR_snapshot_18 : decode prog_1_method_7_code 18 = .ok (.invokevirtual 108, 3) := by decide +kernel
theorem dR_snapshot_21 : decode prog_1_method_7_code 21 = .ok (.iload_n 1, 1) := by decide +kernel
theorem dR_snapshot_22 : decode prog_1_method_7_code 22 = .ok (.if_icmp .ne 31, 3) := by decide +kernel
theorem dR_snapshot_25 : decode prog_1_method_7_code 25 = .ok (.aload_n 0, 1) := by decide +kernel
theorem dR_snapshot_26 : decode prog_1_method_7_code 26 = .ok (.getfield 27, 3) := by decide +kernel
theorem dR_snapshot_29 : decode prog_1_method_7_code 29 = .ok (.aload_n 0, 1) := by decide +kernel
theorem dR_snapshot_30 : decode prog_1_method_7_code 30 = .ok (.getfield 23, 3) := by decide +kernel
theorem dR_snapshot_33 : decode prog_1_method_7_code 33 = .ok (.invokevirtual 85, 3) := by decide +kernel
theorem dR_snapshot_36 : decode prog_1_method_7_code 36 = .ok (.aload_n 0, 1) := by decide +kernel
theorem dR_snapshot_37 : decode prog_1_method_7_code 37 = .ok (.getfield 36, 3) := by decide +kernel
theorem dR_snapshot_40 : decode prog_1_method_7_code 40 = .ok (.invokevirtual 112, 3) := by decide +kernel
theorem dR_snapshot_43 : decode prog_1_method_7_code 43 = .ok (.aload_n 0, 1) := by decide +kernel
theorem dR_snapshot_44 : decode prog_1_method_7_code 44 = .ok (.dup, 1) := by decide +kernel
theorem dR_snapshot_45 : decode prog_1_method_7_code 45 = .ok (.getfield 51, 3) := by decide +kernel
theorem dR_snapshot_48 : decode prog_1_method_7_code 48 = .ok (.iconst 1, 1) := by decide +kernel
theorem dR_snapshot_49 : decode prog_1_method_7_code 49 = .ok (.iadd, 1) := by decide +kernel
theorem dR_snapshot_50 : decode prog_1_method_7_code 50 = .ok (.putfield 51, 3) := by decide +kernel
theorem dR_snapshot_53 : decode prog_1_method_7_code 53 = .ok (.aload_n 0, 1) := by decide +kernel
theorem dR_snapshot_54 : decode prog_1_method_7_code 54 = .ok (.getfield 43, 3) := by decide +kernel
theorem dR_snapshot_57 : decode prog_1_method_7_code 57 = .ok (.invokevirtual 100, 3) := by decide +kernel
theorem dR_snapshot_60 : decode prog_1_method_7_code 60 = .ok (.ifCond .eq 8, 3) := by decide +kernel
theorem dR_snapshot_63 : decode prog_1_method_7_code 63 = .ok (.bipush (-3), 2) := by decide +kernel
theorem dR_snapshot_65 : decode prog_1_method_7_code 65 = .ok (.goto 4, 3) := by decide +kernel
theorem dR_snapshot_68 : decode prog_1_method_7_code 68 = .ok (.iload_n 1, 1) := by decide +kernel
theorem dR_snapshot_69 : decode prog_1_method_7_code 69 = .ok (.ireturn, 1) := by decide +kernel
theorem dR_snapshotBlocks_0 : decode prog_1_method_17_code 0 = .ok (.aload_n 0, 1) := by decide +kernel
theorem dR_snapshotBlocks_1 : decode prog_1_method_17_code 1 = .ok (.getfield 23, 3) := by decide +kernel
theorem dR_snapshotBlocks_4 : decode prog_1_method_17_code 4 = .ok (.invokevirtual 162, 3) := by decide +kernel
theorem dR_snapshotBlocks_7 : decode prog_1_method_17_code 7 = .ok (.bipush 16, 2) := by decide +kernel
theorem dR_snapshotBlocks_9 : decode prog_1_method_17_code 9 = .ok (.iadd, 1) := by decide +kernel
theorem dR_snapshotBlocks_10 : decode prog_1_method_17_code 10 = .ok (.iconst 1, 1) := by decide +kernel
theorem dR_snapshotBlocks_11 : decode prog_1_method_17_code 11 = .ok (.isub, 1) := by decide +kernel
theorem dR_snapshotBlocks_12 : decode prog_1_method_17_code 12 = .ok (.bipush 16, 2) := by decide +kernel
theorem dR_snapshotBlocks_14 : decode prog_1_method_17_code 14 = .ok (.idiv, 1) := by decide +kernel
theorem dR_snapshotBlocks_15 : decode prog_1_method_17_code 15 = .ok (.iconst 1, 1) := by decide +kernel
theorem dR_snapshotBlocks_16 : decode prog_1_method_17_code 16 = .ok (.iadd, 1) := by decide +kernel
theorem dR_snapshotBlocks_17 : decode prog_1_method_17_code 17 = .ok (.ireturn, 1) := by decide +kernel
theorem dA_size_0 : decode prog_2_method_2_code 0 = .ok (.aload_n 0, 1) := by decide +kernel
theorem dA_size_1 : decode prog_2_method_2_code 1 = .ok (.getfield 7, 3) := by decide +kernel
theorem dA_size_4 : decode prog_2_method_2_code 4 = .ok (.arraylength, 1) := by decide +kernel
theorem dA_size_5 : decode prog_2_method_2_code 5 = .ok (.ireturn, 1) := by decide +kernel
theorem dD_writeBlocks_0 : decode prog_3_method_7_code 0 = .ok (.iconst 0, 1) := by decide +kernel
theorem dD_writeBlocks_1 : decode prog_3_method_7_code 1 = .ok (.istore_n 2, 1) := by decide +kernel
theorem dD_writeBlocks_2 : decode prog_3_method_7_code 2 = .ok (.iload_n 2, 1) := by decide +kernel
theorem dD_writeBlocks_3 : decode prog_3_method_7_code 3 = .ok (.iload_n 1, 1) := by decide +kernel
theorem dD_writeBlocks_4 : decode prog_3_method_7_code 4 = .ok (.if_icmp .ge 20, 3) := by decide +kernel
theorem dD_writeBlocks_7 : decode prog_3_method_7_code 7 = .ok (.aload_n 0, 1) := by decide +kernel
theorem dD_writeBlocks_8 : decode prog_3_method_7_code 8 = .ok (.invokevirtual 18, 3) := by decide +kernel
theorem dD_writeBlocks_11 : decode prog_3_method_7_code 11 = .ok (.ifCond .ne 13, 3) := by decide +kernel
theorem dD_writeBlocks_14 : decode prog_3_method_7_code 14 = .ok (.aload_n 0, 1) := by decide +kernel
theorem dD_writeBlocks_15 : decode prog_3_method_7_code 15 = .ok (.invokevirtual 22, 3) := by decide +kernel
theorem dD_writeBlocks_18 : decode prog_3_method_7_code 18 = .ok (.iinc 2 1, 3) := by decide +kernel
theorem dD_writeBlocks_21 : decode prog_3_method_7_code 21 = .ok (.goto (-19), 3) := by decide +kernel
theorem dD_writeBlocks_24 : decode prog_3_method_7_code 24 = .ok (.iload_n 2, 1) := by decide +kernel
theorem dD_writeBlocks_25 : decode prog_3_method_7_code 25 = .ok (.ireturn, 1) := by decide +kernel
theorem dJ_clear_0 : decode prog_4_method_3_code 0 = .ok (.aload_n 0, 1) := by decide +kernel
theorem dJ_clear_1 : decode prog_4_method_3_code 1 = .ok (.iconst 0, 1) := by decide +kernel
theorem dJ_clear_2 : decode prog_4_method_3_code 2 = .ok (.putfield 24, 3) := by decide +kernel
theorem dJ_clear_5 : decode prog_4_method_3_code 5 = .ok (.return_, 1) := by decide +kernel
theorem dR_crash_0 : decode prog_1_method_8_code 0 = .ok (.iload_n 1, 1) := by decide +kernel
theorem dR_crash_1 : decode prog_1_method_8_code 1 = .ok (.i2l, 1) := by decide +kernel
theorem dR_crash_2 : decode prog_1_method_8_code 2 = .ok (.ldc2_w 115, 3) := by decide +kernel
theorem dR_crash_5 : decode prog_1_method_8_code 5 = .ok (.ldc2_w 117, 3) := by decide +kernel
theorem dR_crash_8 : decode prog_1_method_8_code 8 = .ok (.invokestatic 61, 3) := by decide +kernel
theorem dR_crash_11 : decode prog_1_method_8_code 11 = .ok (.aload_n 0, 1) := by decide +kernel
theorem dR_crash_12 : decode prog_1_method_8_code 12 = .ok (.invokevirtual 65, 3) := by decide +kernel
theorem dR_crash_15 : decode prog_1_method_8_code 15 = .ok (.aload_n 0, 1) := by decide +kernel
theorem dR_crash_16 : decode prog_1_method_8_code 16 = .ok (.getfield 43, 3) := by decide +kernel
theorem dR_crash_19 : decode prog_1_method_8_code 19 = .ok (.iload_n 1, 1) := by decide +kernel
theorem dR_crash_20 : decode prog_1_method_8_code 20 = .ok (.invokevirtual 119, 3) := by decide +kernel
theorem dR_crash_23 : decode prog_1_method_8_code 23 = .ok (.return_, 1) := by decide +kernel
theorem dD_failAfter_0 : decode prog_3_method_4_code 0 = .ok (.aload_n 0, 1) := by decide +kernel
theorem dD_failAfter_1 : decode prog_3_method_4_code 1 = .ok (.iload_n 1, 1) := by decide +kernel
theorem dD_failAfter_2 : decode prog_3_method_4_code 2 = .ok (.putfield 15, 3) := by decide +kernel
theorem dD_failAfter_5 : decode prog_3_method_4_code 5 = .ok (.return_, 1) := by decide +kernel
theorem dR_amount_0 : decode prog_1_method_11_code 0 = .ok (.aload_n 0, 1) := by decide +kernel
theorem dR_amount_1 : decode prog_1_method_11_code 1 = .ok (.iload_n 1, 1) := by decide +kernel
theorem dR_amount_2 : decode prog_1_method_11_code 2 = .ok (.invokevirtual 54, 3) := by decide +kernel
theorem dR_amount_5 : decode prog_1_method_11_code 5 = .ok (.aload_n 0, 1) := by decide +kernel
theorem dR_amount_6 : decode prog_1_method_11_code 6 = .ok (.invokevirtual 65, 3) := by decide +kernel
theorem dR_amount_9 : decode prog_1_method_11_code 9 = .ok (.aload_n 0, 1) := by decide +kernel
theorem dR_amount_10 : decode prog_1_method_11_code 10 = .ok (.getfield 23, 3) := by decide +kernel
theorem dR_amount_13 : decode prog_1_method_11_code 13 = .ok (.iload_n 1, 1) := by decide +kernel
theorem dR_amount_14 : decode prog_1_method_11_code 14 = .ok (.invokevirtual 129, 3) := by decide +kernel
theorem dR_amount_17 : decode prog_1_method_11_code 17 = .ok (.lreturn, 1) := by decide +kernel
theorem dA_amountOf_0 : decode prog_2_method_4_code 0 = .ok (.aload_n 0, 1) := by decide +kernel
theorem dA_amountOf_1 : decode prog_2_method_4_code 1 = .ok (.iload_n 1, 1) := by decide +kernel
theorem dA_amountOf_2 : decode prog_2_method_4_code 2 = .ok (.invokevirtual 17, 3) := by decide +kernel
theorem dA_amountOf_5 : decode prog_2_method_4_code 5 = .ok (.ifCond .eq 12, 3) := by decide +kernel
theorem dA_amountOf_8 : decode prog_2_method_4_code 8 = .ok (.aload_n 0, 1) := by decide +kernel
theorem dA_amountOf_9 : decode prog_2_method_4_code 9 = .ok (.getfield 7, 3) := by decide +kernel
theorem dA_amountOf_12 : decode prog_2_method_4_code 12 = .ok (.iload_n 1, 1) := by decide +kernel
theorem dA_amountOf_13 : decode prog_2_method_4_code 13 = .ok (.laload, 1) := by decide +kernel
theorem dA_amountOf_14 : decode prog_2_method_4_code 14 = .ok (.goto 4, 3) := by decide +kernel
theorem dA_amountOf_17 : decode prog_2_method_4_code 17 = .ok (.lconst 0, 1) := by decide +kernel
theorem dA_amountOf_18 : decode prog_2_method_4_code 18 = .ok (.lreturn, 1) := by decide +kernel
theorem dR_changes_0 : decode prog_1_method_12_code 0 = .ok (.aload_n 0, 1) := by decide +kernel
theorem dR_changes_1 : decode prog_1_method_12_code 1 = .ok (.iload_n 1, 1) := by decide +kernel
theorem dR_changes_2 : decode prog_1_method_12_code 2 = .ok (.invokevirtual 54, 3) := by decide +kernel
theorem dR_changes_5 : decode prog_1_method_12_code 5 = .ok (.aload_n 0, 1) := by decide +kernel
theorem dR_changes_6 : decode prog_1_method_12_code 6 = .ok (.invokevirtual 65, 3) := by decide +kernel
theorem dR_changes_9 : decode prog_1_method_12_code 9 = .ok (.aload_n 0, 1) := by decide +kernel
theorem dR_changes_10 : decode prog_1_method_12_code 10 = .ok (.getfield 23, 3) := by decide +kernel
theorem dR_changes_13 : decode prog_1_method_12_code 13 = .ok (.iload_n 1, 1) := by decide +kernel
theorem dR_changes_14 : decode prog_1_method_12_code 14 = .ok (.invokevirtual 133, 3) := by decide +kernel
theorem dR_changes_17 : decode prog_1_method_12_code 17 = .ok (.ireturn, 1) := by decide +kernel
theorem dA_changesOf_0 : decode prog_2_method_5_code 0 = .ok (.aload_n 0, 1) := by decide +kernel
theorem dA_changesOf_1 : decode prog_2_method_5_code 1 = .ok (.iload_n 1, 1) := by decide +kernel
theorem dA_changesOf_2 : decode prog_2_method_5_code 2 = .ok (.invokevirtual 17, 3) := by decide +kernel
theorem dA_changesOf_5 : decode prog_2_method_5_code 5 = .ok (.ifCond .eq 12, 3) := by decide +kernel
theorem dA_changesOf_8 : decode prog_2_method_5_code 8 = .ok (.aload_n 0, 1) := by decide +kernel
theorem dA_changesOf_9 : decode prog_2_method_5_code 9 = .ok (.getfield 13, 3) := by decide +kernel
theorem dA_changesOf_12 : decode prog_2_method_5_code 12 = .ok (.iload_n 1, 1) := by decide +kernel
theorem dA_changesOf_13 : decode prog_2_method_5_code 13 = .ok (.iaload, 1) := by decide +kernel
theorem dA_changesOf_14 : decode prog_2_method_5_code 14 = .ok (.goto 4, 3) := by decide +kernel
theorem dA_changesOf_17 : decode prog_2_method_5_code 17 = .ok (.iconst 0, 1) := by decide +kernel
theorem dA_changesOf_18 : decode prog_2_method_5_code 18 = .ok (.ireturn, 1) := by decide +kernel
theorem dR_count_0 : decode prog_1_method_13_code 0 = .ok (.iload_n 1, 1) := by decide +kernel
theorem dR_count_1 : decode prog_1_method_13_code 1 = .ok (.i2l, 1) := by decide +kernel
theorem dR_count_2 : decode prog_1_method_13_code 2 = .ok (.lconst 0, 1) := by decide +kernel
theorem dR_count_3 : decode prog_1_method_13_code 3 = .ok (.ldc2_w 136, 3) := by decide +kernel
theorem dR_count_6 : decode prog_1_method_13_code 6 = .ok (.invokestatic 61, 3) := by decide +kernel
theorem dR_count_9 : decode prog_1_method_13_code 9 = .ok (.aload_n 0, 1) := by decide +kernel
theorem dR_count_10 : decode prog_1_method_13_code 10 = .ok (.invokevirtual 65, 3) := by decide +kernel
theorem dR_count_13 : decode prog_1_method_13_code 13 = .ok (.iload_n 1, 1) := by decide +kernel
theorem dR_count_14 : decode prog_1_method_13_code 14 = .ok (.tableswitch 47 0 2 #[26, 34, 42], 26) := by decide +kernel
theorem dR_count_40 : decode prog_1_method_13_code 40 = .ok (.aload_n 0, 1) := by decide +kernel
theorem dR_count_41 : decode prog_1_method_13_code 41 = .ok (.getfield 36, 3) := by decide +kernel
theorem dR_count_44 : decode prog_1_method_13_code 44 = .ok (.invokevirtual 138, 3) := by decide +kernel
theorem dR_count_47 : decode prog_1_method_13_code 47 = .ok (.ireturn, 1) := by decide +kernel
theorem dR_count_48 : decode prog_1_method_13_code 48 = .ok (.aload_n 0, 1) := by decide +kernel
theorem dR_count_49 : decode prog_1_method_13_code 49 = .ok (.getfield 43, 3) := by decide +kernel
theorem dR_count_52 : decode prog_1_method_13_code 52 = .ok (.invokevirtual 141, 3) := by decide +kernel
theorem dR_count_55 : decode prog_1_method_13_code 55 = .ok (.ireturn, 1) := by decide +kernel
theorem dR_count_56 : decode prog_1_method_13_code 56 = .ok (.aload_n 0, 1) := by decide +kernel
theorem dR_count_57 : decode prog_1_method_13_code 57 = .ok (.getfield 47, 3) := by decide +kernel
theorem dR_count_60 : decode prog_1_method_13_code 60 = .ok (.ireturn, 1) := by decide +kernel
theorem dR_count_61 : decode prog_1_method_13_code 61 = .ok (.aload_n 0, 1) := by decide +kernel
theorem dR_count_62 : decode prog_1_method_13_code 62 = .ok (.getfield 51, 3) := by decide +kernel
theorem dR_count_65 : decode prog_1_method_13_code 65 = .ok (.ireturn, 1) := by decide +kernel
theorem dJ_usedBlocks_0 : decode prog_4_method_2_code 0 = .ok (.aload_n 0, 1) := by decide +kernel
theorem dJ_usedBlocks_1 : decode prog_4_method_2_code 1 = .ok (.getfield 24, 3) := by decide +kernel
theorem dJ_usedBlocks_4 : decode prog_4_method_2_code 4 = .ok (.ireturn, 1) := by decide +kernel
theorem dD_writtenBlocks_0 : decode prog_3_method_3_code 0 = .ok (.aload_n 0, 1) := by decide +kernel
theorem dD_writtenBlocks_1 : decode prog_3_method_3_code 1 = .ok (.getfield 9, 3) := by decide +kernel
theorem dD_writtenBlocks_4 : decode prog_3_method_3_code 4 = .ok (.ireturn, 1) := by decide +kernel
end
section
/-! WHAT A THROW NEEDS OF THE STATE: the texts, words that aren't steady, two static fields of Throwable -/
def pt_txt : List (Nat × String) := [(74, "a move needs two accounts"), (168, "there is no such account"), (170, "a number is out of its bounds"), (174, "the power failed"), (177, "there is no group"), (179, "there is a group")]
def pt_dec : List String := ["java/lang/RuntimeException", "java/lang/Exception", "java/lang/Throwable"]
def pt_cas : List String := ["java/lang/IllegalArgumentException", "java/lang/IllegalStateException"]
def pt_G (A : Nat → Prop) (U : State) : Prop := (∀ k ∈ pt_txt, ∃ q, vk_R "ReplayJournal" k.1 k.2 q U) ∧
  (∀ k ∈ pt_dec, va_Nw (.declares ⟨k, "<init>", "(Ljava/lang/String;)V"⟩) U) ∧ (∀ k ∈ pt_cas, va_Nw (.castable k k) U) ∧
  vx_Zq "java/lang/Throwable" "UNASSIGNED_STACK" "[Ljava/lang/StackTraceElement;" A U U.heap ∧ vx_Zq "java/lang/Throwable" "SUPPRESSED_SENTINEL" "Ljava/util/List;" A U U.heap
theorem pt_G_ok : pj_G pt_G := by
  refine ⟨fun A U g mk a h => ⟨fun k hk => (h.1 k hk).imp (fun q hq => vk_R.same rfl hq), fun k hk => va_Nw.same rfl rfl (h.2.1 k hk), fun k hk => va_Nw.same rfl rfl (h.2.2.1 k hk), h.2.2.2.1.moved (Vm.Alike.refl U.vm), h.2.2.2.2.moved (Vm.Alike.refl U.vm)⟩, ?_⟩
  intro A B s U H locs hU hW hS hAB h
  subst hU
  exact ⟨fun k hk => (h.1 k hk).imp (fun q hq => vk_R.warm hW hq), fun k hk => (h.2.1 k hk).warmD hW, fun k hk => (h.2.2.1 k hk).warmC hW, ((h.2.2.2.1.moved hW.alike).kept (fun a ha hna => hS.2.1 a ha hna)).narrow hAB, ((h.2.2.2.2.moved hW.alike).kept (fun a ha hna => hS.2.1 a ha hna)).narrow hAB⟩
def pt_sts : List Cond := [.isRef (.static "java/lang/Throwable" "UNASSIGNED_STACK" "[Ljava/lang/StackTraceElement;"), .isRef (.static "java/lang/Throwable" "SUPPRESSED_SENTINEL" "Ljava/util/List;"), .laysStatic "java/lang/Throwable" "UNASSIGNED_STACK" "[Ljava/lang/StackTraceElement;", .laysStatic "java/lang/Throwable" "SUPPRESSED_SENTINEL" "Ljava/util/List;"]
def pt_spc : List Cond := pt_dec.map (fun k => .declares ⟨k, "<init>", "(Ljava/lang/String;)V"⟩) ++ (pt_cas.map (fun k => .castable k k) ++ pt_sts)
theorem pt_spc_ok {args : Array Value} {s : State} {A : Nat → Prop} (hG : pt_G A s) : ∀ a ∈ pt_spc, a.before args s = true := by
  intro a ha
  obtain ⟨-, h1, h2, h3, h4⟩ := hG
  rcases List.mem_append.mp ha with h | h
  · obtain ⟨k, hk, rfl⟩ := List.mem_map.mp h
    exact (h1 k hk).use rfl
  · rcases List.mem_append.mp h with h | h
    · obtain ⟨k, hk, rfl⟩ := List.mem_map.mp h
      exact (h2 k hk).use rfl
    · simp only [pt_sts, List.mem_cons, List.not_mem_nil, or_false] at h
      rcases h with rfl | rfl | rfl | rfl
      · exact vx_isRefq h3.1
      · exact vx_isRefq h4.1
      · exact h3.2.word
      · exact h4.2.word
def pt_up : List String := ["java/lang/RuntimeException", "java/lang/Exception"]
theorem pt_inA : ∀ a ∈ Bundle.ownAtoms "ReplayJournal" 76 "java/lang/IllegalArgumentException" pt_up, a ∈ pt_spc ++ pjW0 := by decide +kernel
theorem pt_inS : ∀ a ∈ Bundle.ownAtoms "ReplayJournal" 176 "java/lang/IllegalStateException" pt_up, a ∈ pt_spc ++ pjW0 := by decide +kernel
theorem pt_atoms {args : Array Value} {s : State} {A : Nat → Prop} {X : String} {ic : Nat} {c : Cond} (hts : ∀ w ∈ c :: pjW0, w.before args s = true) (hG : pt_G A s) (h : ∀ a ∈ Bundle.ownAtoms "ReplayJournal" ic X pt_up, a ∈ pt_spc ++ pjW0) : ∀ a ∈ Bundle.ownAtoms "ReplayJournal" ic X pt_up, a.before args s = true := by
  intro a ha
  rcases List.mem_append.mp (h a ha) with h1 | h1
  · exact pt_spc_ok hG a h1
  · exact hts a (List.mem_cons_of_mem _ h1)
end
section
set_option maxHeartbeats 4000000 in
set_option maxRecDepth 100000 in
theorem c_size (l : Launch) (D : va_G) (cI cJ cZ : ClassId) (o p1 q1 n : Nat) (f : Nat → Int64) (g : Nat → Int32) (hn : n < 2 ^ 31) : pp_Met l yA_size wsA_size ({ frames := 0, cells := 0, slots := 0, locals := 0 }) D vwCl (pjT cI cJ cZ) pj_no [.ref o] [(o, .inr (0, [.ref p1, .ref q1])), (p1, .inl (cJ, n, .inr (.inl f))), (q1, .inl (cI, n, .inl g))] (some (.int (nI n))) := by
  refine pp_of (by decide) rfl (Nat.le_of_ble_eq_true rfl) ?_
  intro p e s m below meth c A ls hx hb hml hr hts hown hlocks hA hK hP hD hS hG hl
  have hl : lv_has ls 1 [(0, .ref o)] := hl
  refine lv_aload_n hx hb dA_size_0 rfl (lv_at hl 0 rfl) ?_
  refine va_get (D := D) (ci := 0) (v := .ref p1) (C := "ReplayJournal$Accounts") (T := TA) (N := 2) hx hb hts (pj_ups inA) hown hK hP 0 rfl rfl 0 (by decide) (hts _ (pj_up m_50)) (fun _ h9 => h9) rfl dA_size_1 ?_
  refine va_alen (v := nI n) hx hb hK hP 1 1 rfl rfl rfl dA_size_4 ?_
  exact pp_iret hx hb hr hlocks (rfl) dA_size_5
set_option maxHeartbeats 4000000 in
set_option maxRecDepth 100000 in
theorem c_has (l : Launch) (D : va_G) (cI cJ cZ : ClassId) (o p1 q1 n : Nat) (f : Nat → Int64) (g : Nat → Int32) (hn : n < 2 ^ 31) (x : Int32) : pp_Met l yA_has wsA_has ({ frames := 0, cells := 0, slots := 0, locals := 0 }) D vwCl (pjT cI cJ cZ) pj_no [.ref o, .int x] [(o, .inr (0, [.ref p1, .ref q1])), (p1, .inl (cJ, n, .inr (.inl f))), (q1, .inl (cI, n, .inl g))] (some (.int (if pjH n x then 1 else 0))) := by
  refine pp_of (by decide) rfl (Nat.le_of_ble_eq_true rfl) ?_
  intro p e s m below meth c A ls hx hb hml hr hts hown hlocks hA hK hP hD hS hG hl
  have hl : lv_has ls 2 [(0, .ref o), (1, .int x)] := hl
  refine lv_iload_n hx hb dA_has_0 rfl (lv_at hl 1 rfl) ?_
  refine lv_if_lt (tgt := 17) hx hb dA_has_1 (by decide) (fun c1 => ?_) (fun c1 => ?_)
  · refine lv_iconst (v := 0) hx hb dA_has_17 (by decide) ?_
    exact pp_zret hx hb hr hlocks ((if_neg (fun h => h.1 c1)).symm) (by split <;> decide) dA_has_18
  · refine lv_iload_n hx hb dA_has_4 rfl (lv_at hl 1 rfl) ?_
    refine lv_aload_n hx hb dA_has_5 rfl (lv_at hl 0 rfl) ?_
    refine va_get (D := D) (ci := 0) (v := .ref p1) (C := "ReplayJournal$Accounts") (T := TA) (N := 2) hx hb hts (pj_ups inA) hown hK hP 0 rfl rfl 0 (by decide) (hts _ (pj_up m_50)) (fun _ h9 => h9) rfl dA_has_6 ?_
    refine va_alen (v := nI n) hx hb hK hP 1 1 rfl rfl rfl dA_has_9 ?_
    refine lv_icmp_ge (tgt := 17) hx hb dA_has_10 (by decide) (fun c2 => ?_) (fun c2 => ?_)
    · refine lv_iconst (v := 0) hx hb dA_has_17 (by decide) ?_
      exact pp_zret hx hb hr hlocks ((if_neg (fun h => h.2 c2)).symm) (by split <;> decide) dA_has_18
    · refine lv_iconst (v := 1) hx hb dA_has_13 (by decide) ?_
      refine lv_goto (tgt := 18) hx hb dA_has_14 (by decide) ?_
      exact pp_zret hx hb hr hlocks ((if_pos ⟨c1, c2⟩).symm) (by split <;> decide) dA_has_18
theorem c_has_t (l : Launch) (D : va_G) (cI cJ cZ : ClassId) (o p1 q1 n : Nat) (f : Nat → Int64) (g : Nat → Int32) (hn : n < 2 ^ 31) (x : Int32) (h : pjH n x) : pp_Met l yA_has wsA_has ({ frames := 0, cells := 0, slots := 0, locals := 0 }) D vwCl (pjT cI cJ cZ) pj_no [.ref o, .int x] [(o, .inr (0, [.ref p1, .ref q1])), (p1, .inl (cJ, n, .inr (.inl f))), (q1, .inl (cI, n, .inl g))] (some (.int 1)) := by
  have h1 := c_has l D cI cJ cZ o p1 q1 n f g hn x
  rw [if_pos h] at h1
  exact h1
theorem c_has_f (l : Launch) (D : va_G) (cI cJ cZ : ClassId) (o p1 q1 n : Nat) (f : Nat → Int64) (g : Nat → Int32) (hn : n < 2 ^ 31) (x : Int32) (h : ¬ pjH n x) : pp_Met l yA_has wsA_has ({ frames := 0, cells := 0, slots := 0, locals := 0 }) D vwCl (pjT cI cJ cZ) pj_no [.ref o, .int x] [(o, .inr (0, [.ref p1, .ref q1])), (p1, .inl (cJ, n, .inr (.inl f))), (q1, .inl (cI, n, .inl g))] (some (.int 0)) := by
  have h1 := c_has l D cI cJ cZ o p1 q1 n f g hn x
  rw [if_neg h] at h1
  exact h1
set_option maxHeartbeats 4000000 in
set_option maxRecDepth 100000 in
theorem c_amountOf (l : Launch) (D : va_G) (cI cJ cZ : ClassId) (o p1 q1 n : Nat) (f : Nat → Int64) (g : Nat → Int32) (hn : n < 2 ^ 31) (x : Int32) (h : pjH n x) : pp_Met l yA_amountOf wsA_amountOf ({ frames := 1, cells := 0, slots := 0, locals := 21 }) D vwCl (pjT cI cJ cZ) pj_no [.ref o, .int x] [(o, .inr (0, [.ref p1, .ref q1])), (p1, .inl (cJ, n, .inr (.inl f))), (q1, .inl (cI, n, .inl g))] (some (.long (f x.toNatClampNeg))) := by
  refine pp_of (by decide) rfl (Nat.le_of_ble_eq_true rfl) ?_
  intro p e s m below meth c A ls hx hb hml hr hts hown hlocks hA hK hP hD hS hG hl
  have hl : lv_has ls 2 [(0, .ref o), (1, .int x)] := hl
  refine lv_aload_n hx hb dA_amountOf_0 rfl (lv_at hl 0 rfl) ?_
  refine lv_iload_n hx hb dA_amountOf_1 rfl (lv_at hl 1 rfl) ?_
  refine pp_callV (rest := []) (st1 := [.int 1]) ⟨hx, hb, hml, hown, hts⟩ (c_has_t l D cI cJ cZ o p1 q1 n f g hn x h) (cwV 1 hts (pj_gV m_142 m_143 m_144 m_21 m_145) rfl rfl rfl (by decide +kernel) ⟨Nat.le_of_ble_eq_true rfl, Nat.le_of_ble_eq_true rfl⟩) pj_no_ok trivial hK hP hD hS hA (ci := 0) (q0 := 0) rfl rfl [0, 1, 2] rfl rfl rfl hl.1 rfl (Nat.le_of_ble_eq_true rfl) dA_amountOf_2 ⟨Nat.le_of_ble_eq_true rfl, Nat.le_of_ble_eq_true rfl⟩ rfl ?_
  refine lv_if_eq (tgt := 17) hx hb dA_amountOf_5 (by decide) (fun h9 => absurd h9 (by decide)) (fun _ => ?_)
  refine lv_aload_n hx hb dA_amountOf_8 rfl (lv_at hl 0 rfl) ?_
  refine va_get (D := D) (ci := 0) (v := .ref p1) (C := "ReplayJournal$Accounts") (T := TA) (N := 2) hx hb hts (pj_ups inA) hown hK hP 0 rfl rfl 0 (by decide) (hts _ (pj_up m_50)) (fun _ h9 => h9) rfl dA_amountOf_9 ?_
  refine lv_iload_n hx hb dA_amountOf_12 rfl (lv_at hl 1 rfl) ?_
  refine va_lald hx hb hK hP 1 1 rfl rfl (pjH_in hn h) dA_amountOf_13 ?_
  refine lv_goto (tgt := 18) hx hb dA_amountOf_14 (by decide) ?_
  exact pp_lret hx hb hr hlocks (rfl) dA_amountOf_18
set_option maxHeartbeats 4000000 in
set_option maxRecDepth 100000 in
theorem c_changesOf (l : Launch) (D : va_G) (cI cJ cZ : ClassId) (o p1 q1 n : Nat) (f : Nat → Int64) (g : Nat → Int32) (hn : n < 2 ^ 31) (x : Int32) (h : pjH n x) : pp_Met l yA_changesOf wsA_changesOf ({ frames := 1, cells := 0, slots := 0, locals := 21 }) D vwCl (pjT cI cJ cZ) pj_no [.ref o, .int x] [(o, .inr (0, [.ref p1, .ref q1])), (p1, .inl (cJ, n, .inr (.inl f))), (q1, .inl (cI, n, .inl g))] (some (.int (g x.toNatClampNeg))) := by
  refine pp_of (by decide) rfl (Nat.le_of_ble_eq_true rfl) ?_
  intro p e s m below meth c A ls hx hb hml hr hts hown hlocks hA hK hP hD hS hG hl
  have hl : lv_has ls 2 [(0, .ref o), (1, .int x)] := hl
  refine lv_aload_n hx hb dA_changesOf_0 rfl (lv_at hl 0 rfl) ?_
  refine lv_iload_n hx hb dA_changesOf_1 rfl (lv_at hl 1 rfl) ?_
  refine pp_callV (rest := []) (st1 := [.int 1]) ⟨hx, hb, hml, hown, hts⟩ (c_has_t l D cI cJ cZ o p1 q1 n f g hn x h) (cwV 1 hts (pj_gV m_142 m_143 m_144 m_21 m_145) rfl rfl rfl (by decide +kernel) ⟨Nat.le_of_ble_eq_true rfl, Nat.le_of_ble_eq_true rfl⟩) pj_no_ok trivial hK hP hD hS hA (ci := 0) (q0 := 0) rfl rfl [0, 1, 2] rfl rfl rfl hl.1 rfl (Nat.le_of_ble_eq_true rfl) dA_changesOf_2 ⟨Nat.le_of_ble_eq_true rfl, Nat.le_of_ble_eq_true rfl⟩ rfl ?_
  refine lv_if_eq (tgt := 17) hx hb dA_changesOf_5 (by decide) (fun h9 => absurd h9 (by decide)) (fun _ => ?_)
  refine lv_aload_n hx hb dA_changesOf_8 rfl (lv_at hl 0 rfl) ?_
  refine va_get (D := D) (ci := 0) (v := .ref q1) (C := "ReplayJournal$Accounts") (T := TA) (N := 2) hx hb hts (pj_ups inA) hown hK hP 0 rfl rfl 1 (by decide) (hts _ (pj_up m_51)) (fun _ h9 => h9) rfl dA_changesOf_9 ?_
  refine lv_iload_n hx hb dA_changesOf_12 rfl (lv_at hl 1 rfl) ?_
  refine va_iald hx hb hK hP 2 0 rfl rfl (pjH_in hn h) dA_changesOf_13 ?_
  refine lv_goto (tgt := 18) hx hb dA_changesOf_14 (by decide) ?_
  exact pp_iret hx hb hr hlocks (rfl) dA_changesOf_18
set_option maxHeartbeats 4000000 in
set_option maxRecDepth 100000 in
theorem c_over (l : Launch) (D : va_G) (cI cJ cZ : ClassId) (o p1 q1 n : Nat) (f : Nat → Int64) (g : Nat → Int32) (hn : n < 2 ^ 31) (x y : Int32) (v : Int64) : pp_Met l yA_wouldOverdraw wsA_wouldOverdraw ({ frames := 1, cells := 0, slots := 0, locals := 21 }) D vwCl (pjT cI cJ cZ) pj_no [.ref o, .int x, .int y, .long v] [(o, .inr (0, [.ref p1, .ref q1])), (p1, .inl (cJ, n, .inr (.inl f))), (q1, .inl (cI, n, .inl g))] (some (.int (if pjO n f x y v then 1 else 0))) := by
  refine pp_of (by decide) rfl (Nat.le_of_ble_eq_true rfl) ?_
  intro p e s m below meth c A ls hx hb hml hr hts hown hlocks hA hK hP hD hS hG hl
  have hl : lv_has ls 5 [(0, .ref o), (1, .int x), (2, .int y), (3, .long v)] := hl
  refine lv_aload_n hx hb dA_wouldOverdraw_0 rfl (lv_at hl 0 rfl) ?_
  refine lv_iload_n hx hb dA_wouldOverdraw_1 rfl (lv_at hl 1 rfl) ?_
  by_cases hx1 : pjH n x
  · refine pp_callV (rest := []) (st1 := [.int 1]) ⟨hx, hb, hml, hown, hts⟩ (c_has_t l D cI cJ cZ o p1 q1 n f g hn x hx1) (cwV 1 hts (pj_gV m_142 m_143 m_144 m_21 m_145) rfl rfl rfl (by decide +kernel) ⟨Nat.le_of_ble_eq_true rfl, Nat.le_of_ble_eq_true rfl⟩) pj_no_ok trivial hK hP hD hS hA (ci := 0) (q0 := 0) rfl rfl [0, 1, 2] rfl rfl rfl hl.1 rfl (Nat.le_of_ble_eq_true rfl) dA_wouldOverdraw_2 ⟨Nat.le_of_ble_eq_true rfl, Nat.le_of_ble_eq_true rfl⟩ rfl ?_
    refine lv_if_eq (tgt := 21) hx hb dA_wouldOverdraw_5 (by decide) (fun h9 => absurd h9 (by decide)) (fun _ => ?_)
    refine lv_aload_n hx hb dA_wouldOverdraw_8 rfl (lv_at hl 0 rfl) ?_
    refine va_get (D := D) (ci := 0) (v := .ref p1) (C := "ReplayJournal$Accounts") (T := TA) (N := 2) hx hb hts (pj_ups inA) hown hK hP 0 rfl rfl 0 (by decide) (hts _ (pj_up m_50)) (fun _ h9 => h9) rfl dA_wouldOverdraw_9 ?_
    refine lv_iload_n hx hb dA_wouldOverdraw_12 rfl (lv_at hl 1 rfl) ?_
    refine va_lald hx hb hK hP 1 1 rfl rfl (pjH_in hn hx1) dA_wouldOverdraw_13 ?_
    refine lv_lload_n hx hb dA_wouldOverdraw_14 rfl (lv_at hl 3 rfl) ?_
    refine lv_lsub hx hb dA_wouldOverdraw_15 ?_
    refine lv_lconst (v := 0) hx hb dA_wouldOverdraw_16 (by decide) ?_
    refine W.lcmp hx hb dA_wouldOverdraw_17 ?_
    refine lv_if_lt (tgt := 42) hx hb dA_wouldOverdraw_18 (by decide) (fun c1 => ?_) (fun c1 => ?_)
    · refine lv_iconst (v := 1) hx hb dA_wouldOverdraw_42 (by decide) ?_
      refine lv_goto (tgt := 47) hx hb dA_wouldOverdraw_43 (by decide) ?_
      exact pp_zret hx hb hr hlocks ((if_pos (Or.inl ⟨hx1, (lg_cmp_lt _ _).mp c1⟩)).symm) (by split <;> decide) dA_wouldOverdraw_47
    · refine lv_aload_n hx hb dA_wouldOverdraw_21 rfl (lv_at hl 0 rfl) ?_
      refine lv_iload_n hx hb dA_wouldOverdraw_22 rfl (lv_at hl 2 rfl) ?_
      by_cases hy : pjH n y
      · refine pp_callV (rest := []) (st1 := [.int 1]) ⟨hx, hb, hml, hown, hts⟩ (c_has_t l D cI cJ cZ o p1 q1 n f g hn y hy) (cwV 1 hts (pj_gV m_142 m_143 m_144 m_21 m_145) rfl rfl rfl (by decide +kernel) ⟨Nat.le_of_ble_eq_true rfl, Nat.le_of_ble_eq_true rfl⟩) pj_no_ok trivial hK hP hD hS hA (ci := 0) (q0 := 0) rfl rfl [0, 1, 2] rfl rfl rfl hl.1 rfl (Nat.le_of_ble_eq_true rfl) dA_wouldOverdraw_23 ⟨Nat.le_of_ble_eq_true rfl, Nat.le_of_ble_eq_true rfl⟩ rfl ?_
        refine lv_if_eq (tgt := 46) hx hb dA_wouldOverdraw_26 (by decide) (fun h9 => absurd h9 (by decide)) (fun _ => ?_)
        refine lv_aload_n hx hb dA_wouldOverdraw_29 rfl (lv_at hl 0 rfl) ?_
        refine va_get (D := D) (ci := 0) (v := .ref p1) (C := "ReplayJournal$Accounts") (T := TA) (N := 2) hx hb hts (pj_ups inA) hown hK hP 0 rfl rfl 0 (by decide) (hts _ (pj_up m_50)) (fun _ h9 => h9) rfl dA_wouldOverdraw_30 ?_
        refine lv_iload_n hx hb dA_wouldOverdraw_33 rfl (lv_at hl 2 rfl) ?_
        refine va_lald hx hb hK hP 1 1 rfl rfl (pjH_in hn hy) dA_wouldOverdraw_34 ?_
        refine lv_lload_n hx hb dA_wouldOverdraw_35 rfl (lv_at hl 3 rfl) ?_
        refine lv_ladd hx hb dA_wouldOverdraw_36 ?_
        refine lv_lconst (v := 0) hx hb dA_wouldOverdraw_37 (by decide) ?_
        refine W.lcmp hx hb dA_wouldOverdraw_38 ?_
        refine lv_if_ge (tgt := 46) hx hb dA_wouldOverdraw_39 (by decide) (fun c2 => ?_) (fun c2 => ?_)
        · refine lv_iconst (v := 0) hx hb dA_wouldOverdraw_46 (by decide) ?_
          exact pp_zret hx hb hr hlocks ((if_neg (fun h => h.elim (fun h => c1 ((lg_cmp_lt _ _).mpr h.2)) (fun h => absurd h.2 (Int64.not_lt.mpr ((lg_cmp_ge _ _).mp c2))))).symm) (by split <;> decide) dA_wouldOverdraw_47
        · refine lv_iconst (v := 1) hx hb dA_wouldOverdraw_42 (by decide) ?_
          refine lv_goto (tgt := 47) hx hb dA_wouldOverdraw_43 (by decide) ?_
          exact pp_zret hx hb hr hlocks ((if_pos (Or.inr ⟨hy, Int64.not_le.mp (fun z => c2 ((lg_cmp_ge _ _).mpr z))⟩)).symm) (by split <;> decide) dA_wouldOverdraw_47
      · refine pp_callV (rest := []) (st1 := [.int 0]) ⟨hx, hb, hml, hown, hts⟩ (c_has_f l D cI cJ cZ o p1 q1 n f g hn y hy) (cwV 1 hts (pj_gV m_142 m_143 m_144 m_21 m_145) rfl rfl rfl (by decide +kernel) ⟨Nat.le_of_ble_eq_true rfl, Nat.le_of_ble_eq_true rfl⟩) pj_no_ok trivial hK hP hD hS hA (ci := 0) (q0 := 0) rfl rfl [0, 1, 2] rfl rfl rfl hl.1 rfl (Nat.le_of_ble_eq_true rfl) dA_wouldOverdraw_23 ⟨Nat.le_of_ble_eq_true rfl, Nat.le_of_ble_eq_true rfl⟩ rfl ?_
        refine lv_if_eq (tgt := 46) hx hb dA_wouldOverdraw_26 (by decide) (fun _ => ?_) (fun h9 => (h9 rfl).elim)
        refine lv_iconst (v := 0) hx hb dA_wouldOverdraw_46 (by decide) ?_
        exact pp_zret hx hb hr hlocks ((if_neg (fun h => h.elim (fun h => c1 ((lg_cmp_lt _ _).mpr h.2)) (fun h => absurd h.1 hy))).symm) (by split <;> decide) dA_wouldOverdraw_47
  · refine pp_callV (rest := []) (st1 := [.int 0]) ⟨hx, hb, hml, hown, hts⟩ (c_has_f l D cI cJ cZ o p1 q1 n f g hn x hx1) (cwV 1 hts (pj_gV m_142 m_143 m_144 m_21 m_145) rfl rfl rfl (by decide +kernel) ⟨Nat.le_of_ble_eq_true rfl, Nat.le_of_ble_eq_true rfl⟩) pj_no_ok trivial hK hP hD hS hA (ci := 0) (q0 := 0) rfl rfl [0, 1, 2] rfl rfl rfl hl.1 rfl (Nat.le_of_ble_eq_true rfl) dA_wouldOverdraw_2 ⟨Nat.le_of_ble_eq_true rfl, Nat.le_of_ble_eq_true rfl⟩ rfl ?_
    refine lv_if_eq (tgt := 21) hx hb dA_wouldOverdraw_5 (by decide) (fun _ => ?_) (fun h9 => (h9 rfl).elim)
    refine lv_aload_n hx hb dA_wouldOverdraw_21 rfl (lv_at hl 0 rfl) ?_
    refine lv_iload_n hx hb dA_wouldOverdraw_22 rfl (lv_at hl 2 rfl) ?_
    by_cases hy : pjH n y
    · refine pp_callV (rest := []) (st1 := [.int 1]) ⟨hx, hb, hml, hown, hts⟩ (c_has_t l D cI cJ cZ o p1 q1 n f g hn y hy) (cwV 1 hts (pj_gV m_142 m_143 m_144 m_21 m_145) rfl rfl rfl (by decide +kernel) ⟨Nat.le_of_ble_eq_true rfl, Nat.le_of_ble_eq_true rfl⟩) pj_no_ok trivial hK hP hD hS hA (ci := 0) (q0 := 0) rfl rfl [0, 1, 2] rfl rfl rfl hl.1 rfl (Nat.le_of_ble_eq_true rfl) dA_wouldOverdraw_23 ⟨Nat.le_of_ble_eq_true rfl, Nat.le_of_ble_eq_true rfl⟩ rfl ?_
      refine lv_if_eq (tgt := 46) hx hb dA_wouldOverdraw_26 (by decide) (fun h9 => absurd h9 (by decide)) (fun _ => ?_)
      refine lv_aload_n hx hb dA_wouldOverdraw_29 rfl (lv_at hl 0 rfl) ?_
      refine va_get (D := D) (ci := 0) (v := .ref p1) (C := "ReplayJournal$Accounts") (T := TA) (N := 2) hx hb hts (pj_ups inA) hown hK hP 0 rfl rfl 0 (by decide) (hts _ (pj_up m_50)) (fun _ h9 => h9) rfl dA_wouldOverdraw_30 ?_
      refine lv_iload_n hx hb dA_wouldOverdraw_33 rfl (lv_at hl 2 rfl) ?_
      refine va_lald hx hb hK hP 1 1 rfl rfl (pjH_in hn hy) dA_wouldOverdraw_34 ?_
      refine lv_lload_n hx hb dA_wouldOverdraw_35 rfl (lv_at hl 3 rfl) ?_
      refine lv_ladd hx hb dA_wouldOverdraw_36 ?_
      refine lv_lconst (v := 0) hx hb dA_wouldOverdraw_37 (by decide) ?_
      refine W.lcmp hx hb dA_wouldOverdraw_38 ?_
      refine lv_if_ge (tgt := 46) hx hb dA_wouldOverdraw_39 (by decide) (fun c2 => ?_) (fun c2 => ?_)
      · refine lv_iconst (v := 0) hx hb dA_wouldOverdraw_46 (by decide) ?_
        exact pp_zret hx hb hr hlocks ((if_neg (fun h => h.elim (fun h => absurd h.1 hx1) (fun h => absurd h.2 (Int64.not_lt.mpr ((lg_cmp_ge _ _).mp c2))))).symm) (by split <;> decide) dA_wouldOverdraw_47
      · refine lv_iconst (v := 1) hx hb dA_wouldOverdraw_42 (by decide) ?_
        refine lv_goto (tgt := 47) hx hb dA_wouldOverdraw_43 (by decide) ?_
        exact pp_zret hx hb hr hlocks ((if_pos (Or.inr ⟨hy, Int64.not_le.mp (fun z => c2 ((lg_cmp_ge _ _).mpr z))⟩)).symm) (by split <;> decide) dA_wouldOverdraw_47
    · refine pp_callV (rest := []) (st1 := [.int 0]) ⟨hx, hb, hml, hown, hts⟩ (c_has_f l D cI cJ cZ o p1 q1 n f g hn y hy) (cwV 1 hts (pj_gV m_142 m_143 m_144 m_21 m_145) rfl rfl rfl (by decide +kernel) ⟨Nat.le_of_ble_eq_true rfl, Nat.le_of_ble_eq_true rfl⟩) pj_no_ok trivial hK hP hD hS hA (ci := 0) (q0 := 0) rfl rfl [0, 1, 2] rfl rfl rfl hl.1 rfl (Nat.le_of_ble_eq_true rfl) dA_wouldOverdraw_23 ⟨Nat.le_of_ble_eq_true rfl, Nat.le_of_ble_eq_true rfl⟩ rfl ?_
      refine lv_if_eq (tgt := 46) hx hb dA_wouldOverdraw_26 (by decide) (fun _ => ?_) (fun h9 => (h9 rfl).elim)
      refine lv_iconst (v := 0) hx hb dA_wouldOverdraw_46 (by decide) ?_
      exact pp_zret hx hb hr hlocks ((if_neg (fun h => h.elim (fun h => absurd h.1 hx1) (fun h => absurd h.1 hy))).symm) (by split <;> decide) dA_wouldOverdraw_47
theorem c_over_t (l : Launch) (D : va_G) (cI cJ cZ : ClassId) (o p1 q1 n : Nat) (f : Nat → Int64) (g : Nat → Int32) (hn : n < 2 ^ 31) (x y : Int32) (v : Int64) (h : pjO n f x y v) : pp_Met l yA_wouldOverdraw wsA_wouldOverdraw ({ frames := 1, cells := 0, slots := 0, locals := 21 }) D vwCl (pjT cI cJ cZ) pj_no [.ref o, .int x, .int y, .long v] [(o, .inr (0, [.ref p1, .ref q1])), (p1, .inl (cJ, n, .inr (.inl f))), (q1, .inl (cI, n, .inl g))] (some (.int 1)) := by
  have h1 := c_over l D cI cJ cZ o p1 q1 n f g hn x y v
  rw [if_pos h] at h1
  exact h1
theorem c_over_f (l : Launch) (D : va_G) (cI cJ cZ : ClassId) (o p1 q1 n : Nat) (f : Nat → Int64) (g : Nat → Int32) (hn : n < 2 ^ 31) (x y : Int32) (v : Int64) (h : ¬ pjO n f x y v) : pp_Met l yA_wouldOverdraw wsA_wouldOverdraw ({ frames := 1, cells := 0, slots := 0, locals := 21 }) D vwCl (pjT cI cJ cZ) pj_no [.ref o, .int x, .int y, .long v] [(o, .inr (0, [.ref p1, .ref q1])), (p1, .inl (cJ, n, .inr (.inl f))), (q1, .inl (cI, n, .inl g))] (some (.int 0)) := by
  have h1 := c_over l D cI cJ cZ o p1 q1 n f g hn x y v
  rw [if_neg h] at h1
  exact h1
set_option maxHeartbeats 4000000 in
set_option maxRecDepth 100000 in
theorem c_one_t (l : Launch) (D : va_G) (cI cJ cZ : ClassId) (o p1 q1 n : Nat) (f : Nat → Int64) (g : Nat → Int32) (hn : n < 2 ^ 31) (x : Int32) (v : Int64) (h : pjH n x) : pj_Met l yA_changeOne wsA_changeOne ({ frames := 1, cells := 0, slots := 0, locals := 21 }) D vwCl (pjT cI cJ cZ) pj_no [.ref o, .int x, .long v] [(o, .inr (0, [.ref p1, .ref q1])), (p1, .inl (cJ, n, .inr (.inl f))), (q1, .inl (cI, n, .inl g))] none [(o, .inr (0, [.ref p1, .ref q1])), (p1, .inl (cJ, n, .inr (.inl (vp_updL f x.toNatClampNeg (f x.toNatClampNeg + v))))), (q1, .inl (cI, n, .inl (upd g x.toNatClampNeg (g x.toNatClampNeg + 1))))] 0 0 := by
  refine pj_of (by decide) rfl (Nat.le_of_ble_eq_true rfl) ?_
  intro p e s m below meth c A ls hx hb hml hr hts hown hlocks hin hA hK hP hD hS hG hl
  have hl : lv_has ls 4 [(0, .ref o), (1, .int x), (2, .long v)] := hl
  refine lv_aload_n hx hb dA_changeOne_0 rfl (lv_at hl 0 rfl) ?_
  refine lv_iload_n hx hb dA_changeOne_1 rfl (lv_at hl 1 rfl) ?_
  refine pp_callV (rest := []) (st1 := [.int 1]) ⟨hx, hb, hml, hown, hts⟩ (c_has_t l D cI cJ cZ o p1 q1 n f g hn x h) (cwV 1 hts (pj_gV m_142 m_143 m_144 m_21 m_145) rfl rfl rfl (by decide +kernel) ⟨Nat.le_of_ble_eq_true rfl, Nat.le_of_ble_eq_true rfl⟩) pj_no_ok trivial hK hP hD hS hA (ci := 0) (q0 := 0) rfl rfl [0, 1, 2] rfl rfl rfl hl.1 rfl (Nat.le_of_ble_eq_true rfl) dA_changeOne_2 ⟨Nat.le_of_ble_eq_true rfl, Nat.le_of_ble_eq_true rfl⟩ rfl ?_
  refine lv_if_eq (tgt := 28) hx hb dA_changeOne_5 (by decide) (fun h9 => absurd h9 (by decide)) (fun _ => ?_)
  refine lv_aload_n hx hb dA_changeOne_8 rfl (lv_at hl 0 rfl) ?_
  refine va_get (D := D) (ci := 0) (v := .ref p1) (C := "ReplayJournal$Accounts") (T := TA) (N := 2) hx hb hts (pj_ups inA) hown hK hP 0 rfl rfl 0 (by decide) (hts _ (pj_up m_50)) (fun _ h9 => h9) rfl dA_changeOne_9 ?_
  refine lv_iload_n hx hb dA_changeOne_12 rfl (lv_at hl 1 rfl) ?_
  refine lv_dup2_11 hx hb dA_changeOne_13 rfl rfl ?_
  refine va_lald hx hb hK hP 1 1 rfl rfl (pjH_in hn h) dA_changeOne_14 ?_
  refine lv_lload_n hx hb dA_changeOne_15 rfl (lv_at hl 2 rfl) ?_
  refine lv_ladd hx hb dA_changeOne_16 ?_
  refine va_last hx hb hK hP hD hS 1 1 rfl rfl (pjH_in hn h) dA_changeOne_17 (fun H locs hP hD hS => ?_)
  have hP : va_P D vwCl [(o, .inr (0, [.ref p1, .ref q1])), (p1, .inl (cJ, n, .inr (.inl (vp_updL f x.toNatClampNeg ((f x.toNatClampNeg) + v))))), (q1, .inl (cI, n, .inl g))] H := hP
  have hD : va_D A [(o, .inr (0, [.ref p1, .ref q1])), (p1, .inl (cJ, n, .inr (.inl (vp_updL f x.toNatClampNeg ((f x.toNatClampNeg) + v))))), (q1, .inl (cI, n, .inl g))] := hD
  refine lv_aload_n hx hb dA_changeOne_18 rfl (lv_at hl 0 rfl) ?_
  refine va_get (D := D) (ci := 0) (v := .ref q1) (C := "ReplayJournal$Accounts") (T := TA) (N := 2) hx hb hts (pj_ups inA) hown hK hP 0 rfl rfl 1 (by decide) (hts _ (pj_up m_51)) (fun _ h9 => h9) rfl dA_changeOne_19 ?_
  refine lv_iload_n hx hb dA_changeOne_22 rfl (lv_at hl 1 rfl) ?_
  refine lv_dup2_11 hx hb dA_changeOne_23 rfl rfl ?_
  refine va_iald hx hb hK hP 2 0 rfl rfl (pjH_in hn h) dA_changeOne_24 ?_
  refine lv_iconst (v := 1) hx hb dA_changeOne_25 (by decide) ?_
  refine lv_iadd hx hb dA_changeOne_26 ?_
  refine va_iast hx hb hK hP hD hS 2 0 rfl rfl (pjH_in hn h) dA_changeOne_27 (fun H locs hP hD hS => ?_)
  have hP : va_P D vwCl [(o, .inr (0, [.ref p1, .ref q1])), (p1, .inl (cJ, n, .inr (.inl (vp_updL f x.toNatClampNeg ((f x.toNatClampNeg) + v))))), (q1, .inl (cI, n, .inl (upd g x.toNatClampNeg ((g x.toNatClampNeg) + 1))))] H := hP
  have hD : va_D A [(o, .inr (0, [.ref p1, .ref q1])), (p1, .inl (cJ, n, .inr (.inl (vp_updL f x.toNatClampNeg ((f x.toNatClampNeg) + v))))), (q1, .inl (cI, n, .inl (upd g x.toNatClampNeg ((g x.toNatClampNeg) + 1))))] := hD
  exact pj_vret hx hb hr hlocks hP hD hS (rfl) dA_changeOne_28
set_option maxHeartbeats 4000000 in
set_option maxRecDepth 100000 in
theorem c_one_f (l : Launch) (D : va_G) (cI cJ cZ : ClassId) (o p1 q1 n : Nat) (f : Nat → Int64) (g : Nat → Int32) (hn : n < 2 ^ 31) (x : Int32) (v : Int64) (h : ¬ pjH n x) : pj_Met l yA_changeOne wsA_changeOne ({ frames := 1, cells := 0, slots := 0, locals := 21 }) D vwCl (pjT cI cJ cZ) pj_no [.ref o, .int x, .long v] [(o, .inr (0, [.ref p1, .ref q1])), (p1, .inl (cJ, n, .inr (.inl f))), (q1, .inl (cI, n, .inl g))] none [(o, .inr (0, [.ref p1, .ref q1])), (p1, .inl (cJ, n, .inr (.inl f))), (q1, .inl (cI, n, .inl g))] 0 0 := by
  refine pj_of (by decide) rfl (Nat.le_of_ble_eq_true rfl) ?_
  intro p e s m below meth c A ls hx hb hml hr hts hown hlocks hin hA hK hP hD hS hG hl
  have hl : lv_has ls 4 [(0, .ref o), (1, .int x), (2, .long v)] := hl
  refine lv_aload_n hx hb dA_changeOne_0 rfl (lv_at hl 0 rfl) ?_
  refine lv_iload_n hx hb dA_changeOne_1 rfl (lv_at hl 1 rfl) ?_
  refine pp_callV (rest := []) (st1 := [.int 0]) ⟨hx, hb, hml, hown, hts⟩ (c_has_f l D cI cJ cZ o p1 q1 n f g hn x h) (cwV 1 hts (pj_gV m_142 m_143 m_144 m_21 m_145) rfl rfl rfl (by decide +kernel) ⟨Nat.le_of_ble_eq_true rfl, Nat.le_of_ble_eq_true rfl⟩) pj_no_ok trivial hK hP hD hS hA (ci := 0) (q0 := 0) rfl rfl [0, 1, 2] rfl rfl rfl hl.1 rfl (Nat.le_of_ble_eq_true rfl) dA_changeOne_2 ⟨Nat.le_of_ble_eq_true rfl, Nat.le_of_ble_eq_true rfl⟩ rfl ?_
  refine lv_if_eq (tgt := 28) hx hb dA_changeOne_5 (by decide) (fun _ => ?_) (fun h9 => (h9 rfl).elim)
  exact pj_vret hx hb hr hlocks hP hD hS (rfl) dA_changeOne_28
theorem c_one (l : Launch) (D : va_G) (cI cJ cZ : ClassId) (o p1 q1 n : Nat) (f : Nat → Int64) (g : Nat → Int32) (hn : n < 2 ^ 31) (x : Int32) (v : Int64) : pj_Met l yA_changeOne wsA_changeOne ({ frames := 1, cells := 0, slots := 0, locals := 21 }) D vwCl (pjT cI cJ cZ) pj_no [.ref o, .int x, .long v] [(o, .inr (0, [.ref p1, .ref q1])), (p1, .inl (cJ, n, .inr (.inl f))), (q1, .inl (cI, n, .inl g))] none [(o, .inr (0, [.ref p1, .ref q1])), (p1, .inl (cJ, n, .inr (.inl (pj1 n f x v)))), (q1, .inl (cI, n, .inl (pj1c n g x)))] 0 0 := by
  by_cases h : pjH n x
  · rw [pj1, pj1c, if_pos h, if_pos h]
    exact c_one_t l D cI cJ cZ o p1 q1 n f g hn x v h
  · rw [pj1, pj1c, if_neg h, if_neg h]
    exact c_one_f l D cI cJ cZ o p1 q1 n f g hn x v h
set_option maxHeartbeats 4000000 in
set_option maxRecDepth 100000 in
theorem c_apply (l : Launch) (D : va_G) (cI cJ cZ : ClassId) (o p1 q1 n : Nat) (f : Nat → Int64) (g : Nat → Int32) (hn : n < 2 ^ 31) (x y : Int32) (v : Int64) : pj_Met l yA_apply wsA_apply ({ frames := 2, cells := 0, slots := 0, locals := 44 }) D vwCl (pjT cI cJ cZ) pj_no [.ref o, .int x, .int y, .long v] [(o, .inr (0, [.ref p1, .ref q1])), (p1, .inl (cJ, n, .inr (.inl f))), (q1, .inl (cI, n, .inl g))] none [(o, .inr (0, [.ref p1, .ref q1])), (p1, .inl (cJ, n, .inr (.inl (pj2 n f x y v)))), (q1, .inl (cI, n, .inl (pj2c n g x y)))] 0 0 := by
  refine pj_of (by decide) rfl (Nat.le_of_ble_eq_true rfl) ?_
  intro p e s m below meth c A ls hx hb hml hr hts hown hlocks hin hA hK hP hD hS hG hl
  have hl : lv_has ls 5 [(0, .ref o), (1, .int x), (2, .int y), (3, .long v)] := hl
  refine lv_aload_n hx hb dA_apply_0 rfl (lv_at hl 0 rfl) ?_
  refine lv_iload_n hx hb dA_apply_1 rfl (lv_at hl 1 rfl) ?_
  refine lv_lload_n hx hb dA_apply_2 rfl (lv_at hl 3 rfl) ?_
  refine lv_lneg hx hb dA_apply_3 ?_
  refine pj_callV (w2 := [(o, .inr (0, [.ref p1, .ref q1])), (p1, .inl (cJ, n, .inr (.inl (pj1 n f x (-v))))), (q1, .inl (cI, n, .inl (pj1c n g x)))]) (wr := []) (rest := []) (st1 := []) ⟨hx, hb, hml, hown, hts⟩ (c_one l D cI cJ cZ o p1 q1 n f g hn x (-v)) (cwV 2 hts (pj_gV m_138 m_140 m_0 m_21 m_141) rfl rfl rfl (by decide +kernel) ⟨Nat.le_of_ble_eq_true rfl, Nat.le_of_ble_eq_true rfl⟩) pj_no_ok trivial hK hP hD hS hA (ci := 0) (q0 := 0) rfl rfl [0, 1, 2] [] [0, 1, 2] rfl rfl rfl rfl (by decide) rfl rfl rfl hl.1 rfl (Nat.le_of_ble_eq_true rfl) dA_apply_4 ⟨Nat.le_of_ble_eq_true rfl, Nat.le_of_ble_eq_true rfl⟩ rfl rfl rfl (fun H locs hP hD hS => ?_)
  refine lv_aload_n hx hb dA_apply_7 rfl (lv_at hl 0 rfl) ?_
  refine lv_iload_n hx hb dA_apply_8 rfl (lv_at hl 2 rfl) ?_
  refine lv_lload_n hx hb dA_apply_9 rfl (lv_at hl 3 rfl) ?_
  refine pj_callV (w2 := [(o, .inr (0, [.ref p1, .ref q1])), (p1, .inl (cJ, n, .inr (.inl (pj1 n (pj1 n f x (-v)) y v)))), (q1, .inl (cI, n, .inl (pj1c n (pj1c n g x) y)))]) (wr := []) (rest := []) (st1 := []) ⟨hx, hb, hml, hown, hts⟩ (c_one l D cI cJ cZ o p1 q1 n (pj1 n f x (-v)) (pj1c n g x) hn y v) (cwV 2 hts (pj_gV m_138 m_140 m_0 m_21 m_141) rfl rfl rfl (by decide +kernel) ⟨Nat.le_of_ble_eq_true rfl, Nat.le_of_ble_eq_true rfl⟩) pj_no_ok trivial hK hP hD hS hA (ci := 0) (q0 := 0) rfl rfl [0, 1, 2] [] [0, 1, 2] rfl rfl rfl rfl (by decide) rfl rfl rfl hl.1 rfl (Nat.le_of_ble_eq_true rfl) dA_apply_10 ⟨Nat.le_of_ble_eq_true rfl, Nat.le_of_ble_eq_true rfl⟩ rfl rfl rfl (fun H locs hP hD hS => ?_)
  exact pj_vret hx hb hr hlocks hP hD hS (rfl) dA_apply_13
end
section
set_option maxHeartbeats 4000000 in
set_option maxRecDepth 100000 in
theorem c_copy (l : Launch) (D : va_G) (cI cJ cZ : ClassId) (o p1 q1 o2 p2 q2 n : Nat) (f f2 : Nat → Int64) (g g2 : Nat → Int32) (hn : n < 2 ^ 31) : pj_Met l yA_copyFrom wsA_copyFrom ({ frames := 1, cells := 0, slots := 0, locals := 13 }) D vwCl (pjT cI cJ cZ) pj_no [.ref o, .ref o2] [(o, .inr (0, [.ref p1, .ref q1])), (p1, .inl (cJ, n, .inr (.inl f))), (q1, .inl (cI, n, .inl g)), (o2, .inr (0, [.ref p2, .ref q2])), (p2, .inl (cJ, n, .inr (.inl f2))), (q2, .inl (cI, n, .inl g2))] none [(o, .inr (0, [.ref p1, .ref q1])), (p1, .inl (cJ, n, .inr (.inl (pjC n f2 f)))), (q1, .inl (cI, n, .inl (pjC n g2 g))), (o2, .inr (0, [.ref p2, .ref q2])), (p2, .inl (cJ, n, .inr (.inl f2))), (q2, .inl (cI, n, .inl g2))] 0 0 := by
  refine pj_of (by decide) rfl (Nat.le_of_ble_eq_true rfl) ?_
  intro p e s m below meth c A ls hx hb hml hr hts hown hlocks hin hA hK hP hD hS hG hl
  have hl : lv_has ls 4 [(0, .ref o), (1, .ref o2)] := hl
  refine lv_aload_n hx hb dA_copyFrom_0 rfl (lv_at hl 0 rfl) ?_
  refine va_get (D := D) (ci := 0) (v := .ref p1) (C := "ReplayJournal$Accounts") (T := TA) (N := 2) hx hb hts (pj_ups inA) hown hK hP 0 rfl rfl 0 (by decide) (hts _ (pj_up m_50)) (fun _ h9 => h9) rfl dA_copyFrom_1 ?_
  refine va_alen (v := nI n) hx hb hK hP 1 1 rfl rfl rfl dA_copyFrom_4 ?_
  refine lv_aload_n hx hb dA_copyFrom_5 rfl (lv_at hl 1 rfl) ?_
  refine va_get (D := D) (ci := 0) (v := .ref p2) (C := "ReplayJournal$Accounts") (T := TA) (N := 2) hx hb hts (pj_ups inA) hown hK hP 3 rfl rfl 0 (by decide) (hts _ (pj_up m_50)) (fun _ h9 => h9) rfl dA_copyFrom_6 ?_
  refine va_alen (v := nI n) hx hb hK hP 4 1 rfl rfl rfl dA_copyFrom_9 ?_
  refine va_mmin hx hb (hml.trans hl.1.symm) hown (hts _ (pj_up m_129)) (hts _ (pj_up m_39)) (hts _ (pj_up m_20)) (hts _ (pj_up m_40)) (Nat.le_of_ble_eq_true rfl) (Nat.le_of_ble_eq_true rfl) (Nat.le_of_ble_eq_true rfl) (Nat.le_of_ble_eq_true rfl) dA_copyFrom_10 ?_
  refine lv_topi (fun y9 e9 => ?_)
  have e9 : y9 = nI n := e9.trans (by simp)
  subst e9
  refine lv_istore_n (lv' := [(2, .int (nI n)), (0, .ref o), (1, .ref o2)]) hx hb dA_copyFrom_13 rfl hl (by decide) rfl (fun ls hl => ?_)
  refine lv_iconst (v := 0) hx hb dA_copyFrom_14 (by decide) ?_
  refine lv_istore_n (lv' := [(3, .int 0), (2, .int (nI n)), (0, .ref o), (1, .ref o2)]) hx hb dA_copyFrom_15 rfl hl (by decide) rfl (fun ls hl => ?_)
  suffices loop : ∀ (k i : Nat), i + k = n → ∀ (H : Heap) (locs : List Loc), va_P D vwCl [(o, .inr (0, [.ref p1, .ref q1])), (p1, .inl (cJ, n, .inr (.inl (pjC i f2 f)))), (q1, .inl (cI, n, .inl (pjC i g2 g))), (o2, .inr (0, [.ref p2, .ref q2])), (p2, .inl (cJ, n, .inr (.inl f2))), (q2, .inl (cI, n, .inl g2))] H → va_D A [(o, .inr (0, [.ref p1, .ref q1])), (p1, .inl (cJ, n, .inr (.inl (pjC i f2 f)))), (q1, .inl (cI, n, .inl (pjC i g2 g))), (o2, .inr (0, [.ref p2, .ref q2])), (p2, .inl (cJ, n, .inr (.inl f2))), (q2, .inl (cI, n, .inl g2))] → va_S A s.heap H locs → ∀ (ls : Array Slot), lv_has ls 4 [(3, .int (nI i)), (2, .int (nI n)), (0, .ref o), (1, .ref o2)] → W p l e ({ frames := 1, cells := 0, slots := 0, locals := 13 }) s m (([.ref o, .ref o2] : List Value).toArray) below meth c H locs 0 0 (MQ below (pj_Q none [(o, .inr (0, [.ref p1, .ref q1])), (p1, .inl (cJ, n, .inr (.inl (pjC n f2 f)))), (q1, .inl (cI, n, .inl (pjC n g2 g))), (o2, .inr (0, [.ref p2, .ref q2])), (p2, .inl (cJ, n, .inr (.inl f2))), (q2, .inl (cI, n, .inl g2))] D vwCl A) (([.ref o, .ref o2] : List Value).toArray) s 0 0 A) (F0 m 16 ls []) by
    exact loop n 0 (by omega) s.heap [] (by rw [pjC_0, pjC_0]; exact hP) (by rw [pjC_0, pjC_0]; exact hD) hS ls (lv_sub hl [0, 1, 2, 3] rfl)
  intro k
  induction k with
  | zero =>
    intro i hi H locs hP hD hS ls hl
    refine lv_iload_n hx hb dA_copyFrom_16 rfl (lv_at hl 0 rfl) ?_
    refine lv_iload_n hx hb dA_copyFrom_17 rfl (lv_at hl 1 rfl) ?_
    refine lv_icmp_ge (tgt := 51) hx hb dA_copyFrom_18 (by decide) (fun _ => ?_) (fun h9 => (h9 (nI_le (by omega) (by omega))).elim)
    exact pj_vret hx hb hr hlocks hP hD hS (by rw [show i = n from by omega]) dA_copyFrom_51
  | succ k ih =>
    intro i hi H locs hP hD hS ls hl
    refine lv_iload_n hx hb dA_copyFrom_16 rfl (lv_at hl 0 rfl) ?_
    refine lv_iload_n hx hb dA_copyFrom_17 rfl (lv_at hl 1 rfl) ?_
    refine lv_icmp_ge (tgt := 51) hx hb dA_copyFrom_18 (by decide) (fun h9 => absurd h9 (nI_ge (by omega) hn)) (fun _ => ?_)
    refine lv_aload_n hx hb dA_copyFrom_21 rfl (lv_at hl 2 rfl) ?_
    refine va_get (D := D) (ci := 0) (v := .ref p1) (C := "ReplayJournal$Accounts") (T := TA) (N := 2) hx hb hts (pj_ups inA) hown hK hP 0 rfl rfl 0 (by decide) (hts _ (pj_up m_50)) (fun _ h9 => h9) rfl dA_copyFrom_22 ?_
    refine lv_iload_n hx hb dA_copyFrom_25 rfl (lv_at hl 0 rfl) ?_
    refine lv_aload_n hx hb dA_copyFrom_26 rfl (lv_at hl 3 rfl) ?_
    refine va_get (D := D) (ci := 0) (v := .ref p2) (C := "ReplayJournal$Accounts") (T := TA) (N := 2) hx hb hts (pj_ups inA) hown hK hP 3 rfl rfl 0 (by decide) (hts _ (pj_up m_50)) (fun _ h9 => h9) rfl dA_copyFrom_27 ?_
    refine lv_iload_n hx hb dA_copyFrom_30 rfl (lv_at hl 0 rfl) ?_
    refine va_lald hx hb hK hP 4 1 rfl rfl (vp_in_nI (by omega) hn) dA_copyFrom_31 ?_
    refine va_last hx hb hK hP hD hS 1 1 rfl rfl (vp_in_nI (by omega) hn) dA_copyFrom_32 (fun H locs hP hD hS => ?_)
    have hP : va_P D vwCl [(o, .inr (0, [.ref p1, .ref q1])), (p1, .inl (cJ, n, .inr (.inl (vp_updL (pjC i f2 f) ((nI i).toNatClampNeg) (f2 ((nI i).toNatClampNeg)))))), (q1, .inl (cI, n, .inl (pjC i g2 g))), (o2, .inr (0, [.ref p2, .ref q2])), (p2, .inl (cJ, n, .inr (.inl f2))), (q2, .inl (cI, n, .inl g2))] H := hP
    have hD : va_D A [(o, .inr (0, [.ref p1, .ref q1])), (p1, .inl (cJ, n, .inr (.inl (vp_updL (pjC i f2 f) ((nI i).toNatClampNeg) (f2 ((nI i).toNatClampNeg)))))), (q1, .inl (cI, n, .inl (pjC i g2 g))), (o2, .inr (0, [.ref p2, .ref q2])), (p2, .inl (cJ, n, .inr (.inl f2))), (q2, .inl (cI, n, .inl g2))] := hD
    refine lv_aload_n hx hb dA_copyFrom_33 rfl (lv_at hl 2 rfl) ?_
    refine va_get (D := D) (ci := 0) (v := .ref q1) (C := "ReplayJournal$Accounts") (T := TA) (N := 2) hx hb hts (pj_ups inA) hown hK hP 0 rfl rfl 1 (by decide) (hts _ (pj_up m_51)) (fun _ h9 => h9) rfl dA_copyFrom_34 ?_
    refine lv_iload_n hx hb dA_copyFrom_37 rfl (lv_at hl 0 rfl) ?_
    refine lv_aload_n hx hb dA_copyFrom_38 rfl (lv_at hl 3 rfl) ?_
    refine va_get (D := D) (ci := 0) (v := .ref q2) (C := "ReplayJournal$Accounts") (T := TA) (N := 2) hx hb hts (pj_ups inA) hown hK hP 3 rfl rfl 1 (by decide) (hts _ (pj_up m_51)) (fun _ h9 => h9) rfl dA_copyFrom_39 ?_
    refine lv_iload_n hx hb dA_copyFrom_42 rfl (lv_at hl 0 rfl) ?_
    refine va_iald hx hb hK hP 5 0 rfl rfl (vp_in_nI (by omega) hn) dA_copyFrom_43 ?_
    refine va_iast hx hb hK hP hD hS 2 0 rfl rfl (vp_in_nI (by omega) hn) dA_copyFrom_44 (fun H locs hP hD hS => ?_)
    have hP : va_P D vwCl [(o, .inr (0, [.ref p1, .ref q1])), (p1, .inl (cJ, n, .inr (.inl (vp_updL (pjC i f2 f) ((nI i).toNatClampNeg) (f2 ((nI i).toNatClampNeg)))))), (q1, .inl (cI, n, .inl (upd (pjC i g2 g) ((nI i).toNatClampNeg) (g2 ((nI i).toNatClampNeg))))), (o2, .inr (0, [.ref p2, .ref q2])), (p2, .inl (cJ, n, .inr (.inl f2))), (q2, .inl (cI, n, .inl g2))] H := hP
    have hD : va_D A [(o, .inr (0, [.ref p1, .ref q1])), (p1, .inl (cJ, n, .inr (.inl (vp_updL (pjC i f2 f) ((nI i).toNatClampNeg) (f2 ((nI i).toNatClampNeg)))))), (q1, .inl (cI, n, .inl (upd (pjC i g2 g) ((nI i).toNatClampNeg) (g2 ((nI i).toNatClampNeg))))), (o2, .inr (0, [.ref p2, .ref q2])), (p2, .inl (cJ, n, .inr (.inl f2))), (q2, .inl (cI, n, .inl g2))] := hD
    refine lv_iinc (v := nI (i + 1)) (lv' := [(3, .int (nI (i + 1))), (2, .int (nI n)), (0, .ref o), (1, .ref o2)]) hx hb dA_copyFrom_45 hl (k := 0) rfl (nI_1 i) (by decide) rfl (fun ls hl => ?_)
    refine lv_goto (tgt := 16) hx hb dA_copyFrom_48 (by decide) ?_
    have e1 : vp_updL (pjC i f2 f) (nI i).toNatClampNeg (f2 (nI i).toNatClampNeg) = pjC (i + 1) f2 f := by rw [nI_clamp (n := i) (by omega)]; exact pjC_sL i f2 f
    have e2 : upd (pjC i g2 g) (nI i).toNatClampNeg (g2 (nI i).toNatClampNeg) = pjC (i + 1) g2 g := by rw [nI_clamp (n := i) (by omega)]; exact pjC_sI i g2 g
    rw [e1, e2] at hP hD
    exact ih (i + 1) (by omega) H locs hP hD hS ls (lv_sub hl [0, 1, 2, 3] rfl)
end
section
set_option maxHeartbeats 4000000 in
set_option maxRecDepth 100000 in
theorem c_off (l : Launch) (D : va_G) (cI cJ cZ : ClassId) (o : Nat) (wr lf : Int32) : pp_Met l yD_isOff wsD_isOff ({ frames := 0, cells := 0, slots := 0, locals := 0 }) D vwCl (pjT cI cJ cZ) pj_no [.ref o] [(o, .inr (1, [.int wr, .int lf]))] (some (.int (if lf = 0 then 1 else 0))) := by
  refine pp_of (by decide) rfl (Nat.le_of_ble_eq_true rfl) ?_
  intro p e s m below meth c A ls hx hb hml hr hts hown hlocks hA hK hP hD hS hG hl
  have hl : lv_has ls 1 [(0, .ref o)] := hl
  refine lv_aload_n hx hb dD_isOff_0 rfl (lv_at hl 0 rfl) ?_
  refine va_get (D := D) (ci := 1) (v := .int lf) (C := "ReplayJournal$Disk") (T := TD) (N := 2) hx hb hts (pj_ups inD) hown hK hP 0 rfl rfl 1 (by decide) (hts _ (pj_up m_89)) (fun _ h9 => h9) rfl dD_isOff_1 ?_
  refine lv_if_ne (tgt := 11) hx hb dD_isOff_4 (by decide) (fun c1 => ?_) (fun c1 => ?_)
  · refine lv_iconst (v := 0) hx hb dD_isOff_11 (by decide) ?_
    exact pp_zret hx hb hr hlocks ((if_neg c1).symm) (by split <;> decide) dD_isOff_12
  · refine lv_iconst (v := 1) hx hb dD_isOff_7 (by decide) ?_
    refine lv_goto (tgt := 12) hx hb dD_isOff_8 (by decide) ?_
    exact pp_zret hx hb hr hlocks ((if_pos c1).symm) (by split <;> decide) dD_isOff_12
theorem c_off_t (l : Launch) (D : va_G) (cI cJ cZ : ClassId) (o : Nat) (wr lf : Int32) (h : lf = 0) : pp_Met l yD_isOff wsD_isOff ({ frames := 0, cells := 0, slots := 0, locals := 0 }) D vwCl (pjT cI cJ cZ) pj_no [.ref o] [(o, .inr (1, [.int wr, .int lf]))] (some (.int 1)) := by
  have h1 := c_off l D cI cJ cZ o wr lf
  rw [if_pos h] at h1
  exact h1
theorem c_off_f (l : Launch) (D : va_G) (cI cJ cZ : ClassId) (o : Nat) (wr lf : Int32) (h : ¬ lf = 0) : pp_Met l yD_isOff wsD_isOff ({ frames := 0, cells := 0, slots := 0, locals := 0 }) D vwCl (pjT cI cJ cZ) pj_no [.ref o] [(o, .inr (1, [.int wr, .int lf]))] (some (.int 0)) := by
  have h1 := c_off l D cI cJ cZ o wr lf
  rw [if_neg h] at h1
  exact h1
set_option maxHeartbeats 4000000 in
set_option maxRecDepth 100000 in
theorem c_written (l : Launch) (D : va_G) (cI cJ cZ : ClassId) (o : Nat) (wr lf : Int32) : pp_Met l yD_writtenBlocks wsD_writtenBlocks ({ frames := 0, cells := 0, slots := 0, locals := 0 }) D vwCl (pjT cI cJ cZ) pj_no [.ref o] [(o, .inr (1, [.int wr, .int lf]))] (some (.int wr)) := by
  refine pp_of (by decide) rfl (Nat.le_of_ble_eq_true rfl) ?_
  intro p e s m below meth c A ls hx hb hml hr hts hown hlocks hA hK hP hD hS hG hl
  have hl : lv_has ls 1 [(0, .ref o)] := hl
  refine lv_aload_n hx hb dD_writtenBlocks_0 rfl (lv_at hl 0 rfl) ?_
  refine va_get (D := D) (ci := 1) (v := .int wr) (C := "ReplayJournal$Disk") (T := TD) (N := 2) hx hb hts (pj_ups inD) hown hK hP 0 rfl rfl 0 (by decide) (hts _ (pj_up m_88)) (fun _ h9 => h9) rfl dD_writtenBlocks_1 ?_
  exact pp_iret hx hb hr hlocks (rfl) dD_writtenBlocks_4
set_option maxHeartbeats 4000000 in
set_option maxRecDepth 100000 in
theorem c_failAfter (l : Launch) (D : va_G) (cI cJ cZ : ClassId) (o : Nat) (wr lf : Int32) (x : Int32) : pj_Met l yD_failAfter wsD_failAfter ({ frames := 0, cells := 0, slots := 0, locals := 0 }) D vwCl (pjT cI cJ cZ) pj_no [.ref o, .int x] [(o, .inr (1, [.int wr, .int lf]))] none [(o, .inr (1, [.int wr, .int x]))] 0 0 := by
  refine pj_of (by decide) rfl (Nat.le_of_ble_eq_true rfl) ?_
  intro p e s m below meth c A ls hx hb hml hr hts hown hlocks hin hA hK hP hD hS hG hl
  have hl : lv_has ls 2 [(0, .ref o), (1, .int x)] := hl
  refine lv_aload_n hx hb dD_failAfter_0 rfl (lv_at hl 0 rfl) ?_
  refine lv_iload_n hx hb dD_failAfter_1 rfl (lv_at hl 1 rfl) ?_
  refine va_put (D := D) (ci := 1) (v := .int x) (ty := .int) (C := "ReplayJournal$Disk") (T := TD) (N := 2) hx hb hts (pj_ups inD) tyD tyD_ok nmD hown hK hP hD hS 0 rfl rfl 1 (by decide) (hts _ (pj_up m_89)) (fun _ h9 => h9) rfl (by decide +kernel) rfl rfl (Nat.le_of_ble_eq_true rfl) dD_failAfter_2 (fun H locs hP hD hS => ?_)
  have hP : va_P D vwCl [(o, .inr (1, [.int wr, .int x]))] H := hP
  have hD : va_D A [(o, .inr (1, [.int wr, .int x]))] := hD
  exact pj_vret hx hb hr hlocks hP hD hS (rfl) dD_failAfter_5
set_option maxHeartbeats 4000000 in
set_option maxRecDepth 100000 in
theorem c_restart (l : Launch) (D : va_G) (cI cJ cZ : ClassId) (o : Nat) (wr lf : Int32) : pj_Met l yD_restart wsD_restart ({ frames := 0, cells := 0, slots := 0, locals := 0 }) D vwCl (pjT cI cJ cZ) pj_no [.ref o] [(o, .inr (1, [.int wr, .int lf]))] none [(o, .inr (1, [.int wr, .int (-1)]))] 0 0 := by
  refine pj_of (by decide) rfl (Nat.le_of_ble_eq_true rfl) ?_
  intro p e s m below meth c A ls hx hb hml hr hts hown hlocks hin hA hK hP hD hS hG hl
  have hl : lv_has ls 1 [(0, .ref o)] := hl
  refine lv_aload_n hx hb dD_restart_0 rfl (lv_at hl 0 rfl) ?_
  refine lv_iconst (v := -1) hx hb dD_restart_1 (by decide) ?_
  refine va_put (D := D) (ci := 1) (v := .int (-1)) (ty := .int) (C := "ReplayJournal$Disk") (T := TD) (N := 2) hx hb hts (pj_ups inD) tyD tyD_ok nmD hown hK hP hD hS 0 rfl rfl 1 (by decide) (hts _ (pj_up m_89)) (fun _ h9 => h9) rfl (by decide +kernel) rfl rfl (Nat.le_of_ble_eq_true rfl) dD_restart_2 (fun H locs hP hD hS => ?_)
  have hP : va_P D vwCl [(o, .inr (1, [.int wr, .int (-1)]))] H := hP
  have hD : va_D A [(o, .inr (1, [.int wr, .int (-1)]))] := hD
  exact pj_vret hx hb hr hlocks hP hD hS (rfl) dD_restart_5
set_option maxHeartbeats 4000000 in
set_option maxRecDepth 100000 in
theorem c_block (l : Launch) (D : va_G) (cI cJ cZ : ClassId) (o : Nat) (wr lf : Int32) : pj_Met l yD_writeBlock wsD_writeBlock ({ frames := 0, cells := 0, slots := 0, locals := 0 }) D vwCl (pjT cI cJ cZ) pj_no [.ref o] [(o, .inr (1, [.int wr, .int lf]))] none [(o, .inr (1, [.int (wr + 1), .int (pjL lf)]))] 0 0 := by
  refine pj_of (by decide) rfl (Nat.le_of_ble_eq_true rfl) ?_
  intro p e s m below meth c A ls hx hb hml hr hts hown hlocks hin hA hK hP hD hS hG hl
  have hl : lv_has ls 1 [(0, .ref o)] := hl
  refine lv_aload_n hx hb dD_writeBlock_0 rfl (lv_at hl 0 rfl) ?_
  refine lv_dup hx hb dD_writeBlock_1 rfl ?_
  refine va_get (D := D) (ci := 1) (v := .int wr) (C := "ReplayJournal$Disk") (T := TD) (N := 2) hx hb hts (pj_ups inD) hown hK hP 0 rfl rfl 0 (by decide) (hts _ (pj_up m_88)) (fun _ h9 => h9) rfl dD_writeBlock_2 ?_
  refine lv_iconst (v := 1) hx hb dD_writeBlock_5 (by decide) ?_
  refine lv_iadd hx hb dD_writeBlock_6 ?_
  refine va_put (D := D) (ci := 1) (v := .int (wr + 1)) (ty := .int) (C := "ReplayJournal$Disk") (T := TD) (N := 2) hx hb hts (pj_ups inD) tyD tyD_ok nmD hown hK hP hD hS 0 rfl rfl 0 (by decide) (hts _ (pj_up m_88)) (fun _ h9 => h9) rfl (by decide +kernel) rfl rfl (Nat.le_of_ble_eq_true rfl) dD_writeBlock_7 (fun H locs hP hD hS => ?_)
  have hP : va_P D vwCl [(o, .inr (1, [.int (wr + 1), .int lf]))] H := hP
  have hD : va_D A [(o, .inr (1, [.int (wr + 1), .int lf]))] := hD
  refine lv_aload_n hx hb dD_writeBlock_10 rfl (lv_at hl 0 rfl) ?_
  refine va_get (D := D) (ci := 1) (v := .int lf) (C := "ReplayJournal$Disk") (T := TD) (N := 2) hx hb hts (pj_ups inD) hown hK hP 0 rfl rfl 1 (by decide) (hts _ (pj_up m_89)) (fun _ h9 => h9) rfl dD_writeBlock_11 ?_
  refine lv_if_le (tgt := 27) hx hb dD_writeBlock_14 (by decide) (fun c1 => ?_) (fun c1 => ?_)
  · exact pj_vret hx hb hr hlocks hP hD hS (by rw [pjL, if_neg (by first | exact c1 | exact fun h => absurd h (by first | exact Int32.not_lt.mpr c1 | exact c1))]) dD_writeBlock_27
  · refine lv_aload_n hx hb dD_writeBlock_17 rfl (lv_at hl 0 rfl) ?_
    refine lv_dup hx hb dD_writeBlock_18 rfl ?_
    refine va_get (D := D) (ci := 1) (v := .int lf) (C := "ReplayJournal$Disk") (T := TD) (N := 2) hx hb hts (pj_ups inD) hown hK hP 0 rfl rfl 1 (by decide) (hts _ (pj_up m_89)) (fun _ h9 => h9) rfl dD_writeBlock_19 ?_
    refine lv_iconst (v := 1) hx hb dD_writeBlock_22 (by decide) ?_
    refine lv_isub hx hb dD_writeBlock_23 ?_
    refine va_put (D := D) (ci := 1) (v := .int (lf - 1)) (ty := .int) (C := "ReplayJournal$Disk") (T := TD) (N := 2) hx hb hts (pj_ups inD) tyD tyD_ok nmD hown hK hP hD hS 0 rfl rfl 1 (by decide) (hts _ (pj_up m_89)) (fun _ h9 => h9) rfl (by decide +kernel) rfl rfl (Nat.le_of_ble_eq_true rfl) dD_writeBlock_24 (fun H locs hP hD hS => ?_)
    have hP : va_P D vwCl [(o, .inr (1, [.int (wr + 1), .int (lf - 1)]))] H := hP
    have hD : va_D A [(o, .inr (1, [.int (wr + 1), .int (lf - 1)]))] := hD
    exact pj_vret hx hb hr hlocks hP hD hS (by rw [pjL, if_pos (by first | exact c1 | exact Int32.not_le.mp c1)]) dD_writeBlock_27
set_option maxHeartbeats 4000000 in
set_option maxRecDepth 100000 in
theorem c_blocks (l : Launch) (D : va_G) (cI cJ cZ : ClassId) (o : Nat) (wr lf : Int32) (n0 : Nat) (hn : n0 < 2 ^ 31) : pj_Met l yD_writeBlocks wsD_writeBlocks ({ frames := 1, cells := 0, slots := 0, locals := 20 }) D vwCl (pjT cI cJ cZ) pj_no [.ref o, .int (nI n0)] [(o, .inr (1, [.int wr, .int lf]))] (some (.int (nI (pjB n0 0 wr lf).1))) [(o, .inr (1, [.int ((pjB n0 0 wr lf).2.1), .int ((pjB n0 0 wr lf).2.2)]))] 0 0 := by
  refine pj_of (by decide) rfl (Nat.le_of_ble_eq_true rfl) ?_
  intro p e s m below meth c A ls hx hb hml hr hts hown hlocks hin hA hK hP hD hS hG hl
  have hl : lv_has ls 3 [(0, .ref o), (1, .int (nI n0))] := hl
  refine lv_iconst (v := 0) hx hb dD_writeBlocks_0 (by decide) ?_
  refine lv_istore_n (lv' := [(2, .int 0), (0, .ref o), (1, .int (nI n0))]) hx hb dD_writeBlocks_1 rfl hl (by decide) rfl (fun ls hl => ?_)
  suffices loop : ∀ (k d : Nat) (w0 x0 : Int32), d + k = n0 → pjB k d w0 x0 = pjB n0 0 wr lf → ∀ (H : Heap) (locs : List Loc), va_P D vwCl [(o, .inr (1, [.int w0, .int x0]))] H → va_D A [(o, .inr (1, [.int w0, .int x0]))] → va_S A s.heap H locs → ∀ (ls : Array Slot), lv_has ls 3 [(2, .int (nI d)), (0, .ref o), (1, .int (nI n0))] → W p l e ({ frames := 1, cells := 0, slots := 0, locals := 20 }) s m (([.ref o, .int (nI n0)] : List Value).toArray) below meth c H locs 0 0 (MQ below (pj_Q (some (.int (nI (pjB n0 0 wr lf).1))) [(o, .inr (1, [.int ((pjB n0 0 wr lf).2.1), .int ((pjB n0 0 wr lf).2.2)]))] D vwCl A) (([.ref o, .int (nI n0)] : List Value).toArray) s 0 0 A) (F0 m 2 ls []) by
    exact loop n0 0 wr lf (by omega) rfl s.heap [] hP hD hS ls (lv_sub hl [0, 1, 2] rfl)
  intro k
  induction k with
  | zero =>
    intro d w0 x0 hd hb9 H locs hP hD hS ls hl
    refine lv_iload_n hx hb dD_writeBlocks_2 rfl (lv_at hl 0 rfl) ?_
    refine lv_iload_n hx hb dD_writeBlocks_3 rfl (lv_at hl 2 rfl) ?_
    refine lv_icmp_ge (tgt := 24) hx hb dD_writeBlocks_4 (by decide) (fun _ => ?_) (fun h9 => (h9 (nI_le (by omega) (by omega))).elim)
    refine lv_iload_n hx hb dD_writeBlocks_24 rfl (lv_at hl 0 rfl) ?_
    exact pj_iret hx hb hr hlocks hP hD hS (by rw [← hb9, pjB] <;> rfl) (by rw [← hb9, pjB] <;> rfl) dD_writeBlocks_25
  | succ k ih =>
    intro d w0 x0 hd hb9 H locs hP hD hS ls hl
    refine lv_iload_n hx hb dD_writeBlocks_2 rfl (lv_at hl 0 rfl) ?_
    refine lv_iload_n hx hb dD_writeBlocks_3 rfl (lv_at hl 2 rfl) ?_
    refine lv_icmp_ge (tgt := 24) hx hb dD_writeBlocks_4 (by decide) (fun h9 => absurd h9 (nI_ge (by omega) hn)) (fun _ => ?_)
    refine lv_aload_n hx hb dD_writeBlocks_7 rfl (lv_at hl 1 rfl) ?_
    by_cases h0 : x0 = 0
    · refine pp_callV (rest := []) (st1 := [.int 1]) ⟨hx, hb, hml, hown, hts⟩ (c_off_t l D cI cJ cZ o w0 x0 h0) (cwV 0 hts (pj_gV m_361 m_151 m_152 m_23 m_153) rfl rfl rfl (by decide +kernel) ⟨Nat.le_of_ble_eq_true rfl, Nat.le_of_ble_eq_true rfl⟩) pj_no_ok trivial hK hP hD hS hA (ci := 1) (q0 := 0) rfl rfl [0] rfl rfl rfl hl.1 rfl (Nat.le_of_ble_eq_true rfl) dD_writeBlocks_8 ⟨Nat.le_of_ble_eq_true rfl, Nat.le_of_ble_eq_true rfl⟩ rfl ?_
      refine lv_if_ne (tgt := 24) hx hb dD_writeBlocks_11 (by decide) (fun _ => ?_) (fun h9 => absurd h9 (by decide))
      refine lv_iload_n hx hb dD_writeBlocks_24 rfl (lv_at hl 0 rfl) ?_
      exact pj_iret hx hb hr hlocks hP hD hS (by rw [← hb9, pjB, if_pos h0] <;> rfl) (by rw [← hb9, pjB, if_pos h0] <;> rfl) dD_writeBlocks_25
    · refine pp_callV (rest := []) (st1 := [.int 0]) ⟨hx, hb, hml, hown, hts⟩ (c_off_f l D cI cJ cZ o w0 x0 h0) (cwV 0 hts (pj_gV m_361 m_151 m_152 m_23 m_153) rfl rfl rfl (by decide +kernel) ⟨Nat.le_of_ble_eq_true rfl, Nat.le_of_ble_eq_true rfl⟩) pj_no_ok trivial hK hP hD hS hA (ci := 1) (q0 := 0) rfl rfl [0] rfl rfl rfl hl.1 rfl (Nat.le_of_ble_eq_true rfl) dD_writeBlocks_8 ⟨Nat.le_of_ble_eq_true rfl, Nat.le_of_ble_eq_true rfl⟩ rfl ?_
      refine lv_if_ne (tgt := 24) hx hb dD_writeBlocks_11 (by decide) (fun h9 => absurd h9 (fun h => h rfl)) (fun _ => ?_)
      refine lv_aload_n hx hb dD_writeBlocks_14 rfl (lv_at hl 1 rfl) ?_
      refine pj_callV (w2 := [(o, .inr (1, [.int (w0 + 1), .int (pjL x0)]))]) (wr := []) (rest := []) (st1 := []) ⟨hx, hb, hml, hown, hts⟩ (c_block l D cI cJ cZ o w0 x0) (cwV 0 hts (pj_gV m_362 m_281 m_282 m_23 m_283) rfl rfl rfl (by decide +kernel) ⟨Nat.le_of_ble_eq_true rfl, Nat.le_of_ble_eq_true rfl⟩) pj_no_ok trivial hK hP hD hS hA (ci := 1) (q0 := 0) rfl rfl [0] [] [0] rfl rfl rfl rfl (by decide) rfl rfl rfl hl.1 rfl (Nat.le_of_ble_eq_true rfl) dD_writeBlocks_15 ⟨Nat.le_of_ble_eq_true rfl, Nat.le_of_ble_eq_true rfl⟩ rfl rfl rfl (fun H locs hP hD hS => ?_)
      refine lv_iinc (v := nI (d + 1)) (lv' := [(2, .int (nI (d + 1))), (0, .ref o), (1, .int (nI n0))]) hx hb dD_writeBlocks_18 hl (k := 0) rfl (nI_1 d) (by decide) rfl (fun ls hl => ?_)
      refine lv_goto (tgt := 2) hx hb dD_writeBlocks_21 (by decide) ?_
      exact ih (d + 1) (w0 + 1) (pjL x0) (by omega) (by rw [← hb9, pjB, if_neg h0]) H locs hP hD hS ls (lv_sub hl [0, 1, 2] rfl)
end
section
set_option maxHeartbeats 4000000 in
set_option maxRecDepth 100000 in
theorem c_used (l : Launch) (D : va_G) (cI cJ cZ : ClassId) (oj pf pt pv pz J u : Nat) (fr to fi : Nat → Int32) (va : Nat → Int64) (hJ : J < 2 ^ 31) (hu : u ≤ J) : pp_Met l yJ_usedBlocks wsJ_usedBlocks ({ frames := 0, cells := 0, slots := 0, locals := 0 }) D vwCl (pjT cI cJ cZ) pj_no [.ref oj] [(oj, .inr (2, [.ref pf, .ref pt, .ref pv, .ref pz, .int (nI u)])), (pf, .inl (cI, J, .inl fr)), (pt, .inl (cI, J, .inl to)), (pv, .inl (cJ, J, .inr (.inl va))), (pz, .inl (cZ, J, .inl fi))] (some (.int (nI u))) := by
  refine pp_of (by decide) rfl (Nat.le_of_ble_eq_true rfl) ?_
  intro p e s m below meth c A ls hx hb hml hr hts hown hlocks hA hK hP hD hS hG hl
  have hl : lv_has ls 1 [(0, .ref oj)] := hl
  refine lv_aload_n hx hb dJ_usedBlocks_0 rfl (lv_at hl 0 rfl) ?_
  refine va_get (D := D) (ci := 2) (v := .int (nI u)) (C := "ReplayJournal$Journal") (T := TJ) (N := 5) hx hb hts (pj_ups inJ) hown hK hP 0 rfl rfl 4 (by decide) (hts _ (pj_up m_69)) (fun _ h9 => h9) rfl dJ_usedBlocks_1 ?_
  exact pp_iret hx hb hr hlocks (rfl) dJ_usedBlocks_4
set_option maxHeartbeats 4000000 in
set_option maxRecDepth 100000 in
theorem c_clear (l : Launch) (D : va_G) (cI cJ cZ : ClassId) (oj pf pt pv pz J u : Nat) (fr to fi : Nat → Int32) (va : Nat → Int64) (hJ : J < 2 ^ 31) (hu : u ≤ J) : pj_Met l yJ_clear wsJ_clear ({ frames := 0, cells := 0, slots := 0, locals := 0 }) D vwCl (pjT cI cJ cZ) pj_no [.ref oj] [(oj, .inr (2, [.ref pf, .ref pt, .ref pv, .ref pz, .int (nI u)])), (pf, .inl (cI, J, .inl fr)), (pt, .inl (cI, J, .inl to)), (pv, .inl (cJ, J, .inr (.inl va))), (pz, .inl (cZ, J, .inl fi))] none [(oj, .inr (2, [.ref pf, .ref pt, .ref pv, .ref pz, .int (nI 0)])), (pf, .inl (cI, J, .inl fr)), (pt, .inl (cI, J, .inl to)), (pv, .inl (cJ, J, .inr (.inl va))), (pz, .inl (cZ, J, .inl fi))] 0 0 := by
  refine pj_of (by decide) rfl (Nat.le_of_ble_eq_true rfl) ?_
  intro p e s m below meth c A ls hx hb hml hr hts hown hlocks hin hA hK hP hD hS hG hl
  have hl : lv_has ls 1 [(0, .ref oj)] := hl
  refine lv_aload_n hx hb dJ_clear_0 rfl (lv_at hl 0 rfl) ?_
  refine lv_iconst (v := 0) hx hb dJ_clear_1 (by decide) ?_
  refine va_put (D := D) (ci := 2) (v := .int 0) (ty := .int) (C := "ReplayJournal$Journal") (T := TJ) (N := 5) hx hb hts (pj_ups inJ) tyJ tyJ_ok nmJ hown hK hP hD hS 0 rfl rfl 4 (by decide) (hts _ (pj_up m_69)) (fun _ h9 => h9) rfl (by decide +kernel) rfl rfl (Nat.le_of_ble_eq_true rfl) dJ_clear_2 (fun H locs hP hD hS => ?_)
  have hP : va_P D vwCl [(oj, .inr (2, [.ref pf, .ref pt, .ref pv, .ref pz, .int 0])), (pf, .inl (cI, J, .inl fr)), (pt, .inl (cI, J, .inl to)), (pv, .inl (cJ, J, .inr (.inl va))), (pz, .inl (cZ, J, .inl fi))] H := hP
  have hD : va_D A [(oj, .inr (2, [.ref pf, .ref pt, .ref pv, .ref pz, .int 0])), (pf, .inl (cI, J, .inl fr)), (pt, .inl (cI, J, .inl to)), (pv, .inl (cJ, J, .inr (.inl va))), (pz, .inl (cZ, J, .inl fi))] := hD
  exact pj_vret hx hb hr hlocks hP hD hS (rfl) dJ_clear_5
set_option maxHeartbeats 4000000 in
set_option maxRecDepth 100000 in
theorem c_wc_full (l : Launch) (D : va_G) (cI cJ cZ : ClassId) (oj pf pt pv pz J u : Nat) (fr to fi : Nat → Int32) (va : Nat → Int64) (hJ : J < 2 ^ 31) (hu : u ≤ J) (x y : Int32) (v : Int64) (z : Int32) (h : J ≤ u) : pp_Met l yJ_writeChange wsJ_writeChange ({ frames := 0, cells := 0, slots := 0, locals := 0 }) D vwCl (pjT cI cJ cZ) pj_no [.ref oj, .int x, .int y, .long v, .int z] [(oj, .inr (2, [.ref pf, .ref pt, .ref pv, .ref pz, .int (nI u)])), (pf, .inl (cI, J, .inl fr)), (pt, .inl (cI, J, .inl to)), (pv, .inl (cJ, J, .inr (.inl va))), (pz, .inl (cZ, J, .inl fi))] (some (.int 0)) := by
  refine pp_of (by decide) rfl (Nat.le_of_ble_eq_true rfl) ?_
  intro p e s m below meth c A ls hx hb hml hr hts hown hlocks hA hK hP hD hS hG hl
  have hl : lv_has ls 6 [(0, .ref oj), (1, .int x), (2, .int y), (3, .long v), (5, .int z)] := hl
  refine lv_aload_n hx hb dJ_writeChange_0 rfl (lv_at hl 0 rfl) ?_
  refine va_get (D := D) (ci := 2) (v := .int (nI u)) (C := "ReplayJournal$Journal") (T := TJ) (N := 5) hx hb hts (pj_ups inJ) hown hK hP 0 rfl rfl 4 (by decide) (hts _ (pj_up m_69)) (fun _ h9 => h9) rfl dJ_writeChange_1 ?_
  refine lv_aload_n hx hb dJ_writeChange_4 rfl (lv_at hl 0 rfl) ?_
  refine va_get (D := D) (ci := 2) (v := .ref pz) (C := "ReplayJournal$Journal") (T := TJ) (N := 5) hx hb hts (pj_ups inJ) hown hK hP 0 rfl rfl 3 (by decide) (hts _ (pj_up m_68)) (fun _ h9 => h9) rfl dJ_writeChange_5 ?_
  refine va_alen (v := nI J) hx hb hK hP 4 2 rfl rfl rfl dJ_writeChange_8 ?_
  refine lv_icmp_lt (tgt := 14) hx hb dJ_writeChange_9 (by decide) (fun h9 => absurd h9 (nI_nlt h (by omega))) (fun _ => ?_)
  refine lv_iconst (v := 0) hx hb dJ_writeChange_12 (by decide) ?_
  exact pp_zret hx hb hr hlocks (rfl) (by decide) dJ_writeChange_13
set_option maxHeartbeats 4000000 in
set_option maxRecDepth 100000 in
theorem c_wc_ok (l : Launch) (D : va_G) (cI cJ cZ : ClassId) (oj pf pt pv pz J u : Nat) (fr to fi : Nat → Int32) (va : Nat → Int64) (hJ : J < 2 ^ 31) (hu : u ≤ J) (x y : Int32) (v : Int64) (z : Int32) (h : u < J) (hz : vp_nar .boolean z = z) : pj_Met l yJ_writeChange wsJ_writeChange ({ frames := 0, cells := 0, slots := 0, locals := 0 }) D vwCl (pjT cI cJ cZ) pj_no [.ref oj, .int x, .int y, .long v, .int z] [(oj, .inr (2, [.ref pf, .ref pt, .ref pv, .ref pz, .int (nI u)])), (pf, .inl (cI, J, .inl fr)), (pt, .inl (cI, J, .inl to)), (pv, .inl (cJ, J, .inr (.inl va))), (pz, .inl (cZ, J, .inl fi))] (some (.int 1)) [(oj, .inr (2, [.ref pf, .ref pt, .ref pv, .ref pz, .int (nI (u + 1))])), (pf, .inl (cI, J, .inl (upd fr u x))), (pt, .inl (cI, J, .inl (upd to u y))), (pv, .inl (cJ, J, .inr (.inl (vp_updL va u v)))), (pz, .inl (cZ, J, .inl (upd fi u z)))] 0 0 := by
  refine pj_of (by decide) rfl (Nat.le_of_ble_eq_true rfl) ?_
  intro p e s m below meth c A ls hx hb hml hr hts hown hlocks hin hA hK hP hD hS hG hl
  have hl : lv_has ls 6 [(0, .ref oj), (1, .int x), (2, .int y), (3, .long v), (5, .int z)] := hl
  refine lv_aload_n hx hb dJ_writeChange_0 rfl (lv_at hl 0 rfl) ?_
  refine va_get (D := D) (ci := 2) (v := .int (nI u)) (C := "ReplayJournal$Journal") (T := TJ) (N := 5) hx hb hts (pj_ups inJ) hown hK hP 0 rfl rfl 4 (by decide) (hts _ (pj_up m_69)) (fun _ h9 => h9) rfl dJ_writeChange_1 ?_
  refine lv_aload_n hx hb dJ_writeChange_4 rfl (lv_at hl 0 rfl) ?_
  refine va_get (D := D) (ci := 2) (v := .ref pz) (C := "ReplayJournal$Journal") (T := TJ) (N := 5) hx hb hts (pj_ups inJ) hown hK hP 0 rfl rfl 3 (by decide) (hts _ (pj_up m_68)) (fun _ h9 => h9) rfl dJ_writeChange_5 ?_
  refine va_alen (v := nI J) hx hb hK hP 4 2 rfl rfl rfl dJ_writeChange_8 ?_
  refine lv_icmp_lt (tgt := 14) hx hb dJ_writeChange_9 (by decide) (fun _ => ?_) (fun h9 => (h9 (nI_lt h hJ)).elim)
  refine lv_aload_n hx hb dJ_writeChange_14 rfl (lv_at hl 0 rfl) ?_
  refine va_get (D := D) (ci := 2) (v := .ref pf) (C := "ReplayJournal$Journal") (T := TJ) (N := 5) hx hb hts (pj_ups inJ) hown hK hP 0 rfl rfl 0 (by decide) (hts _ (pj_up m_65)) (fun _ h9 => h9) rfl dJ_writeChange_15 ?_
  refine lv_aload_n hx hb dJ_writeChange_18 rfl (lv_at hl 0 rfl) ?_
  refine va_get (D := D) (ci := 2) (v := .int (nI u)) (C := "ReplayJournal$Journal") (T := TJ) (N := 5) hx hb hts (pj_ups inJ) hown hK hP 0 rfl rfl 4 (by decide) (hts _ (pj_up m_69)) (fun _ h9 => h9) rfl dJ_writeChange_19 ?_
  refine lv_iload_n hx hb dJ_writeChange_22 rfl (lv_at hl 1 rfl) ?_
  refine va_iast hx hb hK hP hD hS 1 0 rfl rfl (vp_in_nI h hJ) dJ_writeChange_23 (fun H locs hP hD hS => ?_)
  have hP : va_P D vwCl [(oj, .inr (2, [.ref pf, .ref pt, .ref pv, .ref pz, .int (nI u)])), (pf, .inl (cI, J, .inl (upd fr ((nI u).toNatClampNeg) x))), (pt, .inl (cI, J, .inl to)), (pv, .inl (cJ, J, .inr (.inl va))), (pz, .inl (cZ, J, .inl fi))] H := hP
  have hD : va_D A [(oj, .inr (2, [.ref pf, .ref pt, .ref pv, .ref pz, .int (nI u)])), (pf, .inl (cI, J, .inl (upd fr ((nI u).toNatClampNeg) x))), (pt, .inl (cI, J, .inl to)), (pv, .inl (cJ, J, .inr (.inl va))), (pz, .inl (cZ, J, .inl fi))] := hD
  refine lv_aload_n hx hb dJ_writeChange_24 rfl (lv_at hl 0 rfl) ?_
  refine va_get (D := D) (ci := 2) (v := .ref pt) (C := "ReplayJournal$Journal") (T := TJ) (N := 5) hx hb hts (pj_ups inJ) hown hK hP 0 rfl rfl 1 (by decide) (hts _ (pj_up m_66)) (fun _ h9 => h9) rfl dJ_writeChange_25 ?_
  refine lv_aload_n hx hb dJ_writeChange_28 rfl (lv_at hl 0 rfl) ?_
  refine va_get (D := D) (ci := 2) (v := .int (nI u)) (C := "ReplayJournal$Journal") (T := TJ) (N := 5) hx hb hts (pj_ups inJ) hown hK hP 0 rfl rfl 4 (by decide) (hts _ (pj_up m_69)) (fun _ h9 => h9) rfl dJ_writeChange_29 ?_
  refine lv_iload_n hx hb dJ_writeChange_32 rfl (lv_at hl 2 rfl) ?_
  refine va_iast hx hb hK hP hD hS 2 0 rfl rfl (vp_in_nI h hJ) dJ_writeChange_33 (fun H locs hP hD hS => ?_)
  have hP : va_P D vwCl [(oj, .inr (2, [.ref pf, .ref pt, .ref pv, .ref pz, .int (nI u)])), (pf, .inl (cI, J, .inl (upd fr ((nI u).toNatClampNeg) x))), (pt, .inl (cI, J, .inl (upd to ((nI u).toNatClampNeg) y))), (pv, .inl (cJ, J, .inr (.inl va))), (pz, .inl (cZ, J, .inl fi))] H := hP
  have hD : va_D A [(oj, .inr (2, [.ref pf, .ref pt, .ref pv, .ref pz, .int (nI u)])), (pf, .inl (cI, J, .inl (upd fr ((nI u).toNatClampNeg) x))), (pt, .inl (cI, J, .inl (upd to ((nI u).toNatClampNeg) y))), (pv, .inl (cJ, J, .inr (.inl va))), (pz, .inl (cZ, J, .inl fi))] := hD
  refine lv_aload_n hx hb dJ_writeChange_34 rfl (lv_at hl 0 rfl) ?_
  refine va_get (D := D) (ci := 2) (v := .ref pv) (C := "ReplayJournal$Journal") (T := TJ) (N := 5) hx hb hts (pj_ups inJ) hown hK hP 0 rfl rfl 2 (by decide) (hts _ (pj_up m_67)) (fun _ h9 => h9) rfl dJ_writeChange_35 ?_
  refine lv_aload_n hx hb dJ_writeChange_38 rfl (lv_at hl 0 rfl) ?_
  refine va_get (D := D) (ci := 2) (v := .int (nI u)) (C := "ReplayJournal$Journal") (T := TJ) (N := 5) hx hb hts (pj_ups inJ) hown hK hP 0 rfl rfl 4 (by decide) (hts _ (pj_up m_69)) (fun _ h9 => h9) rfl dJ_writeChange_39 ?_
  refine lv_lload_n hx hb dJ_writeChange_42 rfl (lv_at hl 3 rfl) ?_
  refine va_last hx hb hK hP hD hS 3 1 rfl rfl (vp_in_nI h hJ) dJ_writeChange_43 (fun H locs hP hD hS => ?_)
  have hP : va_P D vwCl [(oj, .inr (2, [.ref pf, .ref pt, .ref pv, .ref pz, .int (nI u)])), (pf, .inl (cI, J, .inl (upd fr ((nI u).toNatClampNeg) x))), (pt, .inl (cI, J, .inl (upd to ((nI u).toNatClampNeg) y))), (pv, .inl (cJ, J, .inr (.inl (vp_updL va ((nI u).toNatClampNeg) v)))), (pz, .inl (cZ, J, .inl fi))] H := hP
  have hD : va_D A [(oj, .inr (2, [.ref pf, .ref pt, .ref pv, .ref pz, .int (nI u)])), (pf, .inl (cI, J, .inl (upd fr ((nI u).toNatClampNeg) x))), (pt, .inl (cI, J, .inl (upd to ((nI u).toNatClampNeg) y))), (pv, .inl (cJ, J, .inr (.inl (vp_updL va ((nI u).toNatClampNeg) v)))), (pz, .inl (cZ, J, .inl fi))] := hD
  refine lv_aload_n hx hb dJ_writeChange_44 rfl (lv_at hl 0 rfl) ?_
  refine va_get (D := D) (ci := 2) (v := .ref pz) (C := "ReplayJournal$Journal") (T := TJ) (N := 5) hx hb hts (pj_ups inJ) hown hK hP 0 rfl rfl 3 (by decide) (hts _ (pj_up m_68)) (fun _ h9 => h9) rfl dJ_writeChange_45 ?_
  refine lv_aload_n hx hb dJ_writeChange_48 rfl (lv_at hl 0 rfl) ?_
  refine va_get (D := D) (ci := 2) (v := .int (nI u)) (C := "ReplayJournal$Journal") (T := TJ) (N := 5) hx hb hts (pj_ups inJ) hown hK hP 0 rfl rfl 4 (by decide) (hts _ (pj_up m_69)) (fun _ h9 => h9) rfl dJ_writeChange_49 ?_
  refine lv_iload hx hb dJ_writeChange_52 (lv_at hl 4 rfl) ?_
  refine va_zast hx hb hK hP hD hS 4 2 rfl rfl (vp_in_nI h hJ) dJ_writeChange_54 (fun H locs hP hD hS => ?_)
  have hP : va_P D vwCl [(oj, .inr (2, [.ref pf, .ref pt, .ref pv, .ref pz, .int (nI u)])), (pf, .inl (cI, J, .inl (upd fr ((nI u).toNatClampNeg) x))), (pt, .inl (cI, J, .inl (upd to ((nI u).toNatClampNeg) y))), (pv, .inl (cJ, J, .inr (.inl (vp_updL va ((nI u).toNatClampNeg) v)))), (pz, .inl (cZ, J, .inl (upd fi ((nI u).toNatClampNeg) (vp_nar .boolean z))))] H := hP
  have hD : va_D A [(oj, .inr (2, [.ref pf, .ref pt, .ref pv, .ref pz, .int (nI u)])), (pf, .inl (cI, J, .inl (upd fr ((nI u).toNatClampNeg) x))), (pt, .inl (cI, J, .inl (upd to ((nI u).toNatClampNeg) y))), (pv, .inl (cJ, J, .inr (.inl (vp_updL va ((nI u).toNatClampNeg) v)))), (pz, .inl (cZ, J, .inl (upd fi ((nI u).toNatClampNeg) (vp_nar .boolean z))))] := hD
  refine lv_aload_n hx hb dJ_writeChange_55 rfl (lv_at hl 0 rfl) ?_
  refine lv_dup hx hb dJ_writeChange_56 rfl ?_
  refine va_get (D := D) (ci := 2) (v := .int (nI u)) (C := "ReplayJournal$Journal") (T := TJ) (N := 5) hx hb hts (pj_ups inJ) hown hK hP 0 rfl rfl 4 (by decide) (hts _ (pj_up m_69)) (fun _ h9 => h9) rfl dJ_writeChange_57 ?_
  refine lv_iconst (v := 1) hx hb dJ_writeChange_60 (by decide) ?_
  refine lv_iadd hx hb dJ_writeChange_61 ?_
  refine va_put (D := D) (ci := 2) (v := .int ((nI u) + 1)) (ty := .int) (C := "ReplayJournal$Journal") (T := TJ) (N := 5) hx hb hts (pj_ups inJ) tyJ tyJ_ok nmJ hown hK hP hD hS 0 rfl rfl 4 (by decide) (hts _ (pj_up m_69)) (fun _ h9 => h9) rfl (by decide +kernel) rfl rfl (Nat.le_of_ble_eq_true rfl) dJ_writeChange_62 (fun H locs hP hD hS => ?_)
  have hP : va_P D vwCl [(oj, .inr (2, [.ref pf, .ref pt, .ref pv, .ref pz, .int ((nI u) + 1)])), (pf, .inl (cI, J, .inl (upd fr ((nI u).toNatClampNeg) x))), (pt, .inl (cI, J, .inl (upd to ((nI u).toNatClampNeg) y))), (pv, .inl (cJ, J, .inr (.inl (vp_updL va ((nI u).toNatClampNeg) v)))), (pz, .inl (cZ, J, .inl (upd fi ((nI u).toNatClampNeg) (vp_nar .boolean z))))] H := hP
  have hD : va_D A [(oj, .inr (2, [.ref pf, .ref pt, .ref pv, .ref pz, .int ((nI u) + 1)])), (pf, .inl (cI, J, .inl (upd fr ((nI u).toNatClampNeg) x))), (pt, .inl (cI, J, .inl (upd to ((nI u).toNatClampNeg) y))), (pv, .inl (cJ, J, .inr (.inl (vp_updL va ((nI u).toNatClampNeg) v)))), (pz, .inl (cZ, J, .inl (upd fi ((nI u).toNatClampNeg) (vp_nar .boolean z))))] := hD
  refine lv_iconst (v := 1) hx hb dJ_writeChange_65 (by decide) ?_
  exact pj_zret hx hb hr hlocks hP hD hS (rfl) (by rw [nI_clamp (n := u) (by omega), nI_1, hz]) (by decide) dJ_writeChange_66
set_option maxHeartbeats 4000000 in
set_option maxRecDepth 100000 in
theorem c_first (l : Launch) (D : va_G) (cI cJ cZ : ClassId) (oj pf pt pv pz J u : Nat) (fr to fi : Nat → Int32) (va : Nat → Int64) (hJ : J < 2 ^ 31) (hu : u ≤ J) (gz : Nat) (hg : gz ≤ u) : pp_Met l yJ_firstOfLast wsJ_firstOfLast ({ frames := 1, cells := 0, slots := 0, locals := 13 }) D vwCl (pjT cI cJ cZ) pj_no [.ref oj, .int (nI gz)] [(oj, .inr (2, [.ref pf, .ref pt, .ref pv, .ref pz, .int (nI u)])), (pf, .inl (cI, J, .inl fr)), (pt, .inl (cI, J, .inl to)), (pv, .inl (cJ, J, .inr (.inl va))), (pz, .inl (cZ, J, .inl fi))] (some (.int (nI (u - gz)))) := by
  refine pp_of (by decide) rfl (Nat.le_of_ble_eq_true rfl) ?_
  intro p e s m below meth c A ls hx hb hml hr hts hown hlocks hA hK hP hD hS hG hl
  have hl : lv_has ls 2 [(0, .ref oj), (1, .int (nI gz))] := hl
  refine lv_iconst (v := 0) hx hb dJ_firstOfLast_0 (by decide) ?_
  refine lv_aload_n hx hb dJ_firstOfLast_1 rfl (lv_at hl 0 rfl) ?_
  refine va_get (D := D) (ci := 2) (v := .int (nI u)) (C := "ReplayJournal$Journal") (T := TJ) (N := 5) hx hb hts (pj_ups inJ) hown hK hP 0 rfl rfl 4 (by decide) (hts _ (pj_up m_69)) (fun _ h9 => h9) rfl dJ_firstOfLast_2 ?_
  refine lv_iload_n hx hb dJ_firstOfLast_5 rfl (lv_at hl 1 rfl) ?_
  refine lv_isub hx hb dJ_firstOfLast_6 ?_
  refine va_mmax hx hb (hml.trans hl.1.symm) hown (hts _ (pj_up m_329)) (hts _ (pj_up m_42)) (hts _ (pj_up m_20)) (hts _ (pj_up m_43)) (Nat.le_of_ble_eq_true rfl) (Nat.le_of_ble_eq_true rfl) (Nat.le_of_ble_eq_true rfl) (Nat.le_of_ble_eq_true rfl) dJ_firstOfLast_7 ?_
  refine lv_topi (fun y9 e9 => ?_)
  have e9 : y9 = nI (u - gz) := e9.trans (by rw [pk_sub hg]; exact pj_max0 (by omega))
  subst e9
  exact pp_iret hx hb hr hlocks (rfl) dJ_firstOfLast_10
set_option maxHeartbeats 4000000 in
set_option maxRecDepth 100000 in
theorem c_we_full (l : Launch) (D : va_G) (cI cJ cZ : ClassId) (oj pf pt pv pz J u : Nat) (fr to fi : Nat → Int32) (va : Nat → Int64) (hJ : J < 2 ^ 31) (hu : u ≤ J) (gz : Nat) (h : J ≤ u) : pp_Met l yJ_writeEnd wsJ_writeEnd ({ frames := 2, cells := 0, slots := 0, locals := 34 }) D vwCl (pjT cI cJ cZ) pj_no [.ref oj, .int (nI gz)] [(oj, .inr (2, [.ref pf, .ref pt, .ref pv, .ref pz, .int (nI u)])), (pf, .inl (cI, J, .inl fr)), (pt, .inl (cI, J, .inl to)), (pv, .inl (cJ, J, .inr (.inl va))), (pz, .inl (cZ, J, .inl fi))] (some (.int 0)) := by
  refine pp_of (by decide) rfl (Nat.le_of_ble_eq_true rfl) ?_
  intro p e s m below meth c A ls hx hb hml hr hts hown hlocks hA hK hP hD hS hG hl
  have hl : lv_has ls 3 [(0, .ref oj), (1, .int (nI gz))] := hl
  refine lv_aload_n hx hb dJ_writeEnd_0 rfl (lv_at hl 0 rfl) ?_
  refine va_get (D := D) (ci := 2) (v := .int (nI u)) (C := "ReplayJournal$Journal") (T := TJ) (N := 5) hx hb hts (pj_ups inJ) hown hK hP 0 rfl rfl 4 (by decide) (hts _ (pj_up m_69)) (fun _ h9 => h9) rfl dJ_writeEnd_1 ?_
  refine lv_aload_n hx hb dJ_writeEnd_4 rfl (lv_at hl 0 rfl) ?_
  refine va_get (D := D) (ci := 2) (v := .ref pz) (C := "ReplayJournal$Journal") (T := TJ) (N := 5) hx hb hts (pj_ups inJ) hown hK hP 0 rfl rfl 3 (by decide) (hts _ (pj_up m_68)) (fun _ h9 => h9) rfl dJ_writeEnd_5 ?_
  refine va_alen (v := nI J) hx hb hK hP 4 2 rfl rfl rfl dJ_writeEnd_8 ?_
  refine lv_icmp_lt (tgt := 14) hx hb dJ_writeEnd_9 (by decide) (fun h9 => absurd h9 (nI_nlt h (by omega))) (fun _ => ?_)
  refine lv_iconst (v := 0) hx hb dJ_writeEnd_12 (by decide) ?_
  exact pp_zret hx hb hr hlocks (rfl) (by decide) dJ_writeEnd_13
set_option maxHeartbeats 4000000 in
set_option maxRecDepth 100000 in
theorem c_we_ok (l : Launch) (D : va_G) (cI cJ cZ : ClassId) (oj pf pt pv pz J u : Nat) (fr to fi : Nat → Int32) (va : Nat → Int64) (hJ : J < 2 ^ 31) (hu : u ≤ J) (gz : Nat) (hg : gz ≤ u) (h : u < J) : pj_Met l yJ_writeEnd wsJ_writeEnd ({ frames := 2, cells := 0, slots := 0, locals := 34 }) D vwCl (pjT cI cJ cZ) pj_no [.ref oj, .int (nI gz)] [(oj, .inr (2, [.ref pf, .ref pt, .ref pv, .ref pz, .int (nI u)])), (pf, .inl (cI, J, .inl fr)), (pt, .inl (cI, J, .inl to)), (pv, .inl (cJ, J, .inr (.inl va))), (pz, .inl (cZ, J, .inl fi))] (some (.int 1)) [(oj, .inr (2, [.ref pf, .ref pt, .ref pv, .ref pz, .int (nI (u + 1))])), (pf, .inl (cI, J, .inl fr)), (pt, .inl (cI, J, .inl to)), (pv, .inl (cJ, J, .inr (.inl va))), (pz, .inl (cZ, J, .inl (upd (pjF (u - gz) u fi) u 0)))] 0 0 := by
  refine pj_of (by decide) rfl (Nat.le_of_ble_eq_true rfl) ?_
  intro p e s m below meth c A ls hx hb hml hr hts hown hlocks hin hA hK hP hD hS hG hl
  have hl : lv_has ls 3 [(0, .ref oj), (1, .int (nI gz))] := hl
  refine lv_aload_n hx hb dJ_writeEnd_0 rfl (lv_at hl 0 rfl) ?_
  refine va_get (D := D) (ci := 2) (v := .int (nI u)) (C := "ReplayJournal$Journal") (T := TJ) (N := 5) hx hb hts (pj_ups inJ) hown hK hP 0 rfl rfl 4 (by decide) (hts _ (pj_up m_69)) (fun _ h9 => h9) rfl dJ_writeEnd_1 ?_
  refine lv_aload_n hx hb dJ_writeEnd_4 rfl (lv_at hl 0 rfl) ?_
  refine va_get (D := D) (ci := 2) (v := .ref pz) (C := "ReplayJournal$Journal") (T := TJ) (N := 5) hx hb hts (pj_ups inJ) hown hK hP 0 rfl rfl 3 (by decide) (hts _ (pj_up m_68)) (fun _ h9 => h9) rfl dJ_writeEnd_5 ?_
  refine va_alen (v := nI J) hx hb hK hP 4 2 rfl rfl rfl dJ_writeEnd_8 ?_
  refine lv_icmp_lt (tgt := 14) hx hb dJ_writeEnd_9 (by decide) (fun _ => ?_) (fun h9 => (h9 (nI_lt h hJ)).elim)
  refine lv_aload_n hx hb dJ_writeEnd_14 rfl (lv_at hl 0 rfl) ?_
  refine lv_iload_n hx hb dJ_writeEnd_15 rfl (lv_at hl 1 rfl) ?_
  refine pp_callV (rest := []) (st1 := [.int (nI (u - gz))]) ⟨hx, hb, hml, hown, hts⟩ (c_first l D cI cJ cZ oj pf pt pv pz J u fr to fi va hJ hu gz hg) (cwV 1 hts (pj_gV m_325 m_327 m_9 m_22 m_328) rfl rfl rfl (by decide +kernel) ⟨Nat.le_of_ble_eq_true rfl, Nat.le_of_ble_eq_true rfl⟩) pj_no_ok trivial hK hP hD hS hA (ci := 2) (q0 := 0) rfl rfl [0, 1, 2, 3, 4] rfl rfl rfl hl.1 rfl (Nat.le_of_ble_eq_true rfl) dJ_writeEnd_16 ⟨Nat.le_of_ble_eq_true rfl, Nat.le_of_ble_eq_true rfl⟩ rfl ?_
  refine lv_istore_n (lv' := [(2, .int (nI (u - gz))), (0, .ref oj), (1, .int (nI gz))]) hx hb dJ_writeEnd_19 rfl hl (by decide) rfl (fun ls hl => ?_)
  suffices loop : ∀ (k i : Nat), i + k = u → u - gz ≤ i → ∀ (H : Heap) (locs : List Loc), va_P D vwCl [(oj, .inr (2, [.ref pf, .ref pt, .ref pv, .ref pz, .int (nI u)])), (pf, .inl (cI, J, .inl fr)), (pt, .inl (cI, J, .inl to)), (pv, .inl (cJ, J, .inr (.inl va))), (pz, .inl (cZ, J, .inl (pjF (u - gz) i fi)))] H → va_D A [(oj, .inr (2, [.ref pf, .ref pt, .ref pv, .ref pz, .int (nI u)])), (pf, .inl (cI, J, .inl fr)), (pt, .inl (cI, J, .inl to)), (pv, .inl (cJ, J, .inr (.inl va))), (pz, .inl (cZ, J, .inl (pjF (u - gz) i fi)))] → va_S A s.heap H locs → ∀ (ls : Array Slot), lv_has ls 3 [(2, .int (nI i)), (0, .ref oj), (1, .int (nI gz))] → W p l e ({ frames := 2, cells := 0, slots := 0, locals := 34 }) s m (([.ref oj, .int (nI gz)] : List Value).toArray) below meth c H locs 0 0 (MQ below (pj_Q (some (.int 1)) [(oj, .inr (2, [.ref pf, .ref pt, .ref pv, .ref pz, .int (nI (u + 1))])), (pf, .inl (cI, J, .inl fr)), (pt, .inl (cI, J, .inl to)), (pv, .inl (cJ, J, .inr (.inl va))), (pz, .inl (cZ, J, .inl (upd (pjF (u - gz) u fi) u 0)))] D vwCl A) (([.ref oj, .int (nI gz)] : List Value).toArray) s 0 0 A) (F0 m 20 ls []) by
    exact loop gz (u - gz) (by omega) (Nat.le_refl _) s.heap [] (by rw [pjF_0]; exact hP) (by rw [pjF_0]; exact hD) hS ls (lv_sub hl [0, 1, 2] rfl)
  intro k
  induction k with
  | zero =>
    intro i hi hi2 H locs hP hD hS ls hl
    refine lv_iload_n hx hb dJ_writeEnd_20 rfl (lv_at hl 0 rfl) ?_
    refine lv_aload_n hx hb dJ_writeEnd_21 rfl (lv_at hl 1 rfl) ?_
    refine va_get (D := D) (ci := 2) (v := .int (nI u)) (C := "ReplayJournal$Journal") (T := TJ) (N := 5) hx hb hts (pj_ups inJ) hown hK hP 0 rfl rfl 4 (by decide) (hts _ (pj_up m_69)) (fun _ h9 => h9) rfl dJ_writeEnd_22 ?_
    refine lv_icmp_ge (tgt := 41) hx hb dJ_writeEnd_25 (by decide) (fun _ => ?_) (fun h9 => (h9 (nI_le (by omega) (by omega))).elim)
    refine lv_aload_n hx hb dJ_writeEnd_41 rfl (lv_at hl 1 rfl) ?_
    refine va_get (D := D) (ci := 2) (v := .ref pz) (C := "ReplayJournal$Journal") (T := TJ) (N := 5) hx hb hts (pj_ups inJ) hown hK hP 0 rfl rfl 3 (by decide) (hts _ (pj_up m_68)) (fun _ h9 => h9) rfl dJ_writeEnd_42 ?_
    refine lv_aload_n hx hb dJ_writeEnd_45 rfl (lv_at hl 1 rfl) ?_
    refine va_get (D := D) (ci := 2) (v := .int (nI u)) (C := "ReplayJournal$Journal") (T := TJ) (N := 5) hx hb hts (pj_ups inJ) hown hK hP 0 rfl rfl 4 (by decide) (hts _ (pj_up m_69)) (fun _ h9 => h9) rfl dJ_writeEnd_46 ?_
    refine lv_iconst (v := 0) hx hb dJ_writeEnd_49 (by decide) ?_
    refine va_zast hx hb hK hP hD hS 4 2 rfl rfl (vp_in_nI h hJ) dJ_writeEnd_50 (fun H locs hP hD hS => ?_)
    have hP : va_P D vwCl [(oj, .inr (2, [.ref pf, .ref pt, .ref pv, .ref pz, .int (nI u)])), (pf, .inl (cI, J, .inl fr)), (pt, .inl (cI, J, .inl to)), (pv, .inl (cJ, J, .inr (.inl va))), (pz, .inl (cZ, J, .inl (upd (pjF (u - gz) i fi) ((nI u).toNatClampNeg) (vp_nar .boolean 0))))] H := hP
    have hD : va_D A [(oj, .inr (2, [.ref pf, .ref pt, .ref pv, .ref pz, .int (nI u)])), (pf, .inl (cI, J, .inl fr)), (pt, .inl (cI, J, .inl to)), (pv, .inl (cJ, J, .inr (.inl va))), (pz, .inl (cZ, J, .inl (upd (pjF (u - gz) i fi) ((nI u).toNatClampNeg) (vp_nar .boolean 0))))] := hD
    refine lv_aload_n hx hb dJ_writeEnd_51 rfl (lv_at hl 1 rfl) ?_
    refine lv_dup hx hb dJ_writeEnd_52 rfl ?_
    refine va_get (D := D) (ci := 2) (v := .int (nI u)) (C := "ReplayJournal$Journal") (T := TJ) (N := 5) hx hb hts (pj_ups inJ) hown hK hP 0 rfl rfl 4 (by decide) (hts _ (pj_up m_69)) (fun _ h9 => h9) rfl dJ_writeEnd_53 ?_
    refine lv_iconst (v := 1) hx hb dJ_writeEnd_56 (by decide) ?_
    refine lv_iadd hx hb dJ_writeEnd_57 ?_
    refine va_put (D := D) (ci := 2) (v := .int ((nI u) + 1)) (ty := .int) (C := "ReplayJournal$Journal") (T := TJ) (N := 5) hx hb hts (pj_ups inJ) tyJ tyJ_ok nmJ hown hK hP hD hS 0 rfl rfl 4 (by decide) (hts _ (pj_up m_69)) (fun _ h9 => h9) rfl (by decide +kernel) rfl rfl (Nat.le_of_ble_eq_true rfl) dJ_writeEnd_58 (fun H locs hP hD hS => ?_)
    have hP : va_P D vwCl [(oj, .inr (2, [.ref pf, .ref pt, .ref pv, .ref pz, .int ((nI u) + 1)])), (pf, .inl (cI, J, .inl fr)), (pt, .inl (cI, J, .inl to)), (pv, .inl (cJ, J, .inr (.inl va))), (pz, .inl (cZ, J, .inl (upd (pjF (u - gz) i fi) ((nI u).toNatClampNeg) (vp_nar .boolean 0))))] H := hP
    have hD : va_D A [(oj, .inr (2, [.ref pf, .ref pt, .ref pv, .ref pz, .int ((nI u) + 1)])), (pf, .inl (cI, J, .inl fr)), (pt, .inl (cI, J, .inl to)), (pv, .inl (cJ, J, .inr (.inl va))), (pz, .inl (cZ, J, .inl (upd (pjF (u - gz) i fi) ((nI u).toNatClampNeg) (vp_nar .boolean 0))))] := hD
    refine lv_iconst (v := 1) hx hb dJ_writeEnd_61 (by decide) ?_
    exact pj_zret hx hb hr hlocks hP hD hS (rfl) (by rw [show i = u from by omega, nI_clamp (n := u) (by omega), nI_1] <;> rfl) (by decide) dJ_writeEnd_62
  | succ k ih =>
    intro i hi hi2 H locs hP hD hS ls hl
    refine lv_iload_n hx hb dJ_writeEnd_20 rfl (lv_at hl 0 rfl) ?_
    refine lv_aload_n hx hb dJ_writeEnd_21 rfl (lv_at hl 1 rfl) ?_
    refine va_get (D := D) (ci := 2) (v := .int (nI u)) (C := "ReplayJournal$Journal") (T := TJ) (N := 5) hx hb hts (pj_ups inJ) hown hK hP 0 rfl rfl 4 (by decide) (hts _ (pj_up m_69)) (fun _ h9 => h9) rfl dJ_writeEnd_22 ?_
    refine lv_icmp_ge (tgt := 41) hx hb dJ_writeEnd_25 (by decide) (fun h9 => absurd h9 (nI_ge (by omega) (by omega))) (fun _ => ?_)
    refine lv_aload_n hx hb dJ_writeEnd_28 rfl (lv_at hl 1 rfl) ?_
    refine va_get (D := D) (ci := 2) (v := .ref pz) (C := "ReplayJournal$Journal") (T := TJ) (N := 5) hx hb hts (pj_ups inJ) hown hK hP 0 rfl rfl 3 (by decide) (hts _ (pj_up m_68)) (fun _ h9 => h9) rfl dJ_writeEnd_29 ?_
    refine lv_iload_n hx hb dJ_writeEnd_32 rfl (lv_at hl 0 rfl) ?_
    refine lv_iconst (v := 1) hx hb dJ_writeEnd_33 (by decide) ?_
    refine va_zast hx hb hK hP hD hS 4 2 rfl rfl (vp_in_nI (by omega) hJ) dJ_writeEnd_34 (fun H locs hP hD hS => ?_)
    have hP : va_P D vwCl [(oj, .inr (2, [.ref pf, .ref pt, .ref pv, .ref pz, .int (nI u)])), (pf, .inl (cI, J, .inl fr)), (pt, .inl (cI, J, .inl to)), (pv, .inl (cJ, J, .inr (.inl va))), (pz, .inl (cZ, J, .inl (upd (pjF (u - gz) i fi) ((nI i).toNatClampNeg) (vp_nar .boolean 1))))] H := hP
    have hD : va_D A [(oj, .inr (2, [.ref pf, .ref pt, .ref pv, .ref pz, .int (nI u)])), (pf, .inl (cI, J, .inl fr)), (pt, .inl (cI, J, .inl to)), (pv, .inl (cJ, J, .inr (.inl va))), (pz, .inl (cZ, J, .inl (upd (pjF (u - gz) i fi) ((nI i).toNatClampNeg) (vp_nar .boolean 1))))] := hD
    refine lv_iinc (v := nI (i + 1)) (lv' := [(2, .int (nI (i + 1))), (0, .ref oj), (1, .int (nI gz))]) hx hb dJ_writeEnd_35 hl (k := 0) rfl (nI_1 i) (by decide) rfl (fun ls hl => ?_)
    refine lv_goto (tgt := 20) hx hb dJ_writeEnd_38 (by decide) ?_
    have e1 : upd (pjF (u - gz) i fi) (nI i).toNatClampNeg (vp_nar .boolean 1) = pjF (u - gz) (i + 1) fi := by rw [nI_clamp (n := i) (by omega)]; exact pjF_s hi2 fi
    rw [e1] at hP hD
    exact ih (i + 1) (by omega) (by omega) H locs hP hD hS ls (lv_sub hl [0, 1, 2] rfl)
set_option maxHeartbeats 4000000 in
set_option maxRecDepth 100000 in
theorem c_try (l : Launch) (D : va_G) (cI cJ cZ : ClassId) (oj pf pt pv pz J u : Nat) (fr to fi : Nat → Int32) (va : Nat → Int64) (hJ : J < 2 ^ 31) (hu : u ≤ J) (gz : Nat) (hg : gz ≤ u) (o p1 q1 n : Nat) (f : Nat → Int64) (g : Nat → Int32) (hn : n < 2 ^ 31) : pj_Met l yJ_tryLast wsJ_tryLast ({ frames := 3, cells := 0, slots := 0, locals := 68 }) D vwCl (pjT cI cJ cZ) pj_no [.ref oj, .int (nI gz), .ref o] [(oj, .inr (2, [.ref pf, .ref pt, .ref pv, .ref pz, .int (nI u)])), (pf, .inl (cI, J, .inl fr)), (pt, .inl (cI, J, .inl to)), (pv, .inl (cJ, J, .inr (.inl va))), (pz, .inl (cZ, J, .inl fi)), (o, .inr (0, [.ref p1, .ref q1])), (p1, .inl (cJ, n, .inr (.inl f))), (q1, .inl (cI, n, .inl g))] (some (.int (if (pjTry n fr to va gz (u - gz) f g).1 then 1 else 0))) [(oj, .inr (2, [.ref pf, .ref pt, .ref pv, .ref pz, .int (nI u)])), (pf, .inl (cI, J, .inl fr)), (pt, .inl (cI, J, .inl to)), (pv, .inl (cJ, J, .inr (.inl va))), (pz, .inl (cZ, J, .inl fi)), (o, .inr (0, [.ref p1, .ref q1])), (p1, .inl (cJ, n, .inr (.inl ((pjTry n fr to va gz (u - gz) f g).2.1)))), (q1, .inl (cI, n, .inl ((pjTry n fr to va gz (u - gz) f g).2.2)))] 0 0 := by
  refine pj_of (by decide) rfl (Nat.le_of_ble_eq_true rfl) ?_
  intro p e s m below meth c A ls hx hb hml hr hts hown hlocks hin hA hK hP hD hS hG hl
  have hl : lv_has ls 4 [(0, .ref oj), (1, .int (nI gz)), (2, .ref o)] := hl
  refine lv_aload_n hx hb dJ_tryLast_0 rfl (lv_at hl 0 rfl) ?_
  refine lv_iload_n hx hb dJ_tryLast_1 rfl (lv_at hl 1 rfl) ?_
  refine pp_callV (rest := []) (st1 := [.int (nI (u - gz))]) ⟨hx, hb, hml, hown, hts⟩ (c_first l D cI cJ cZ oj pf pt pv pz J u fr to fi va hJ hu gz hg) (cwV 1 hts (pj_gV m_325 m_327 m_9 m_22 m_328) rfl rfl rfl (by decide +kernel) ⟨Nat.le_of_ble_eq_true rfl, Nat.le_of_ble_eq_true rfl⟩) pj_no_ok trivial hK hP hD hS hA (ci := 2) (q0 := 0) rfl rfl [0, 1, 2, 3, 4] rfl rfl rfl hl.1 rfl (Nat.le_of_ble_eq_true rfl) dJ_tryLast_2 ⟨Nat.le_of_ble_eq_true rfl, Nat.le_of_ble_eq_true rfl⟩ rfl ?_
  refine lv_istore_n (lv' := [(3, .int (nI (u - gz))), (0, .ref oj), (1, .int (nI gz)), (2, .ref o)]) hx hb dJ_tryLast_5 rfl hl (by decide) rfl (fun ls hl => ?_)
  suffices loop : ∀ (k i : Nat) (f1 : Nat → Int64) (g1 : Nat → Int32), i + k = u → pjTry n fr to va k i f1 g1 = pjTry n fr to va gz (u - gz) f g → ∀ (H : Heap) (locs : List Loc), va_P D vwCl [(oj, .inr (2, [.ref pf, .ref pt, .ref pv, .ref pz, .int (nI u)])), (pf, .inl (cI, J, .inl fr)), (pt, .inl (cI, J, .inl to)), (pv, .inl (cJ, J, .inr (.inl va))), (pz, .inl (cZ, J, .inl fi)), (o, .inr (0, [.ref p1, .ref q1])), (p1, .inl (cJ, n, .inr (.inl f1))), (q1, .inl (cI, n, .inl g1))] H → va_D A [(oj, .inr (2, [.ref pf, .ref pt, .ref pv, .ref pz, .int (nI u)])), (pf, .inl (cI, J, .inl fr)), (pt, .inl (cI, J, .inl to)), (pv, .inl (cJ, J, .inr (.inl va))), (pz, .inl (cZ, J, .inl fi)), (o, .inr (0, [.ref p1, .ref q1])), (p1, .inl (cJ, n, .inr (.inl f1))), (q1, .inl (cI, n, .inl g1))] → va_S A s.heap H locs → ∀ (ls : Array Slot), lv_has ls 4 [(3, .int (nI i)), (0, .ref oj), (1, .int (nI gz)), (2, .ref o)] → W p l e ({ frames := 3, cells := 0, slots := 0, locals := 68 }) s m (([.ref oj, .int (nI gz), .ref o] : List Value).toArray) below meth c H locs 0 0 (MQ below (pj_Q (some (.int (if (pjTry n fr to va gz (u - gz) f g).1 then 1 else 0))) [(oj, .inr (2, [.ref pf, .ref pt, .ref pv, .ref pz, .int (nI u)])), (pf, .inl (cI, J, .inl fr)), (pt, .inl (cI, J, .inl to)), (pv, .inl (cJ, J, .inr (.inl va))), (pz, .inl (cZ, J, .inl fi)), (o, .inr (0, [.ref p1, .ref q1])), (p1, .inl (cJ, n, .inr (.inl ((pjTry n fr to va gz (u - gz) f g).2.1)))), (q1, .inl (cI, n, .inl ((pjTry n fr to va gz (u - gz) f g).2.2)))] D vwCl A) (([.ref oj, .int (nI gz), .ref o] : List Value).toArray) s 0 0 A) (F0 m 6 ls []) by
    exact loop gz (u - gz) f g (by omega) rfl s.heap [] hP hD hS ls (lv_sub hl [0, 1, 2, 3] rfl)
  intro k
  induction k with
  | zero =>
    intro i f1 g1 hi hb9 H locs hP hD hS ls hl
    refine lv_iload_n hx hb dJ_tryLast_6 rfl (lv_at hl 0 rfl) ?_
    refine lv_aload_n hx hb dJ_tryLast_7 rfl (lv_at hl 1 rfl) ?_
    refine va_get (D := D) (ci := 2) (v := .int (nI u)) (C := "ReplayJournal$Journal") (T := TJ) (N := 5) hx hb hts (pj_ups inJ) hown hK hP 0 rfl rfl 4 (by decide) (hts _ (pj_up m_69)) (fun _ h9 => h9) rfl dJ_tryLast_8 ?_
    refine lv_icmp_ge (tgt := 69) hx hb dJ_tryLast_11 (by decide) (fun _ => ?_) (fun h9 => (h9 (nI_le (by omega) (by omega))).elim)
    refine lv_iconst (v := 1) hx hb dJ_tryLast_69 (by decide) ?_
    exact pj_zret hx hb hr hlocks hP hD hS (by rw [← hb9, pjTry] <;> rfl) (by rw [← hb9, pjTry] <;> rfl) (by split <;> decide) dJ_tryLast_70
  | succ k ih =>
    intro i f1 g1 hi hb9 H locs hP hD hS ls hl
    refine lv_iload_n hx hb dJ_tryLast_6 rfl (lv_at hl 0 rfl) ?_
    refine lv_aload_n hx hb dJ_tryLast_7 rfl (lv_at hl 1 rfl) ?_
    refine va_get (D := D) (ci := 2) (v := .int (nI u)) (C := "ReplayJournal$Journal") (T := TJ) (N := 5) hx hb hts (pj_ups inJ) hown hK hP 0 rfl rfl 4 (by decide) (hts _ (pj_up m_69)) (fun _ h9 => h9) rfl dJ_tryLast_8 ?_
    refine lv_icmp_ge (tgt := 69) hx hb dJ_tryLast_11 (by decide) (fun h9 => absurd h9 (nI_ge (by omega) (by omega))) (fun _ => ?_)
    refine lv_aload_n hx hb dJ_tryLast_14 rfl (lv_at hl 3 rfl) ?_
    refine lv_aload_n hx hb dJ_tryLast_15 rfl (lv_at hl 1 rfl) ?_
    refine va_get (D := D) (ci := 2) (v := .ref pf) (C := "ReplayJournal$Journal") (T := TJ) (N := 5) hx hb hts (pj_ups inJ) hown hK hP 0 rfl rfl 0 (by decide) (hts _ (pj_up m_65)) (fun _ h9 => h9) rfl dJ_tryLast_16 ?_
    refine lv_iload_n hx hb dJ_tryLast_19 rfl (lv_at hl 0 rfl) ?_
    refine va_iald hx hb hK hP 1 0 rfl rfl (vp_in_nI (by omega) hJ) dJ_tryLast_20 ?_
    refine lv_aload_n hx hb dJ_tryLast_21 rfl (lv_at hl 1 rfl) ?_
    refine va_get (D := D) (ci := 2) (v := .ref pt) (C := "ReplayJournal$Journal") (T := TJ) (N := 5) hx hb hts (pj_ups inJ) hown hK hP 0 rfl rfl 1 (by decide) (hts _ (pj_up m_66)) (fun _ h9 => h9) rfl dJ_tryLast_22 ?_
    refine lv_iload_n hx hb dJ_tryLast_25 rfl (lv_at hl 0 rfl) ?_
    refine va_iald hx hb hK hP 2 0 rfl rfl (vp_in_nI (by omega) hJ) dJ_tryLast_26 ?_
    refine lv_aload_n hx hb dJ_tryLast_27 rfl (lv_at hl 1 rfl) ?_
    refine va_get (D := D) (ci := 2) (v := .ref pv) (C := "ReplayJournal$Journal") (T := TJ) (N := 5) hx hb hts (pj_ups inJ) hown hK hP 0 rfl rfl 2 (by decide) (hts _ (pj_up m_67)) (fun _ h9 => h9) rfl dJ_tryLast_28 ?_
    refine lv_iload_n hx hb dJ_tryLast_31 rfl (lv_at hl 0 rfl) ?_
    refine va_lald hx hb hK hP 3 1 rfl rfl (vp_in_nI (by omega) hJ) dJ_tryLast_32 ?_
    by_cases ho9 : pjO n f1 (fr (nI i).toNatClampNeg) (to (nI i).toNatClampNeg) (va (nI i).toNatClampNeg)
    · refine pp_callV (rest := []) (st1 := [.int 1]) ⟨hx, hb, hml, hown, hts⟩ (c_over_t l D cI cJ cZ o p1 q1 n f1 g1 hn (fr (nI i).toNatClampNeg) (to (nI i).toNatClampNeg) (va (nI i).toNatClampNeg) ho9) (cwV 3 hts (pj_gV m_330 m_273 m_274 m_21 m_275) rfl rfl rfl (by decide +kernel) ⟨Nat.le_of_ble_eq_true rfl, Nat.le_of_ble_eq_true rfl⟩) pj_no_ok trivial hK hP hD hS hA (ci := 0) (q0 := 0) rfl rfl [5, 6, 7] rfl rfl rfl hl.1 rfl (Nat.le_of_ble_eq_true rfl) dJ_tryLast_33 ⟨Nat.le_of_ble_eq_true rfl, Nat.le_of_ble_eq_true rfl⟩ rfl ?_
      refine lv_if_eq (tgt := 41) hx hb dJ_tryLast_36 (by decide) (fun h9 => absurd h9 (by decide)) (fun _ => ?_)
      refine lv_iconst (v := 0) hx hb dJ_tryLast_39 (by decide) ?_
      rw [nI_clamp (n := i) (by omega)] at ho9
      have e9 : pjTry n fr to va gz (u - gz) f g = (false, f1, g1) := by rw [← hb9, pjTry, if_pos ho9]
      exact pj_zret hx hb hr hlocks hP hD hS (by rw [e9] <;> rfl) (by rw [e9] <;> rfl) (by split <;> decide) dJ_tryLast_40
    · refine pp_callV (rest := []) (st1 := [.int 0]) ⟨hx, hb, hml, hown, hts⟩ (c_over_f l D cI cJ cZ o p1 q1 n f1 g1 hn (fr (nI i).toNatClampNeg) (to (nI i).toNatClampNeg) (va (nI i).toNatClampNeg) ho9) (cwV 3 hts (pj_gV m_330 m_273 m_274 m_21 m_275) rfl rfl rfl (by decide +kernel) ⟨Nat.le_of_ble_eq_true rfl, Nat.le_of_ble_eq_true rfl⟩) pj_no_ok trivial hK hP hD hS hA (ci := 0) (q0 := 0) rfl rfl [5, 6, 7] rfl rfl rfl hl.1 rfl (Nat.le_of_ble_eq_true rfl) dJ_tryLast_33 ⟨Nat.le_of_ble_eq_true rfl, Nat.le_of_ble_eq_true rfl⟩ rfl ?_
      refine lv_if_eq (tgt := 41) hx hb dJ_tryLast_36 (by decide) (fun _ => ?_) (fun h9 => (h9 rfl).elim)
      refine lv_aload_n hx hb dJ_tryLast_41 rfl (lv_at hl 3 rfl) ?_
      refine lv_aload_n hx hb dJ_tryLast_42 rfl (lv_at hl 1 rfl) ?_
      refine va_get (D := D) (ci := 2) (v := .ref pf) (C := "ReplayJournal$Journal") (T := TJ) (N := 5) hx hb hts (pj_ups inJ) hown hK hP 0 rfl rfl 0 (by decide) (hts _ (pj_up m_65)) (fun _ h9 => h9) rfl dJ_tryLast_43 ?_
      refine lv_iload_n hx hb dJ_tryLast_46 rfl (lv_at hl 0 rfl) ?_
      refine va_iald hx hb hK hP 1 0 rfl rfl (vp_in_nI (by omega) hJ) dJ_tryLast_47 ?_
      refine lv_aload_n hx hb dJ_tryLast_48 rfl (lv_at hl 1 rfl) ?_
      refine va_get (D := D) (ci := 2) (v := .ref pt) (C := "ReplayJournal$Journal") (T := TJ) (N := 5) hx hb hts (pj_ups inJ) hown hK hP 0 rfl rfl 1 (by decide) (hts _ (pj_up m_66)) (fun _ h9 => h9) rfl dJ_tryLast_49 ?_
      refine lv_iload_n hx hb dJ_tryLast_52 rfl (lv_at hl 0 rfl) ?_
      refine va_iald hx hb hK hP 2 0 rfl rfl (vp_in_nI (by omega) hJ) dJ_tryLast_53 ?_
      refine lv_aload_n hx hb dJ_tryLast_54 rfl (lv_at hl 1 rfl) ?_
      refine va_get (D := D) (ci := 2) (v := .ref pv) (C := "ReplayJournal$Journal") (T := TJ) (N := 5) hx hb hts (pj_ups inJ) hown hK hP 0 rfl rfl 2 (by decide) (hts _ (pj_up m_67)) (fun _ h9 => h9) rfl dJ_tryLast_55 ?_
      refine lv_iload_n hx hb dJ_tryLast_58 rfl (lv_at hl 0 rfl) ?_
      refine va_lald hx hb hK hP 3 1 rfl rfl (vp_in_nI (by omega) hJ) dJ_tryLast_59 ?_
      refine pj_callV (w2 := [(oj, .inr (2, [.ref pf, .ref pt, .ref pv, .ref pz, .int (nI u)])), (pf, .inl (cI, J, .inl fr)), (pt, .inl (cI, J, .inl to)), (pv, .inl (cJ, J, .inr (.inl va))), (pz, .inl (cZ, J, .inl fi)), (o, .inr (0, [.ref p1, .ref q1])), (p1, .inl (cJ, n, .inr (.inl (pj2 n f1 (fr (nI i).toNatClampNeg) (to (nI i).toNatClampNeg) (va (nI i).toNatClampNeg))))), (q1, .inl (cI, n, .inl (pj2c n g1 (fr (nI i).toNatClampNeg) (to (nI i).toNatClampNeg))))]) (wr := [(oj, .inr (2, [.ref pf, .ref pt, .ref pv, .ref pz, .int (nI u)])), (pf, .inl (cI, J, .inl fr)), (pt, .inl (cI, J, .inl to)), (pv, .inl (cJ, J, .inr (.inl va))), (pz, .inl (cZ, J, .inl fi))]) (rest := []) (st1 := []) ⟨hx, hb, hml, hown, hts⟩ (c_apply l D cI cJ cZ o p1 q1 n f1 g1 hn (fr (nI i).toNatClampNeg) (to (nI i).toNatClampNeg) (va (nI i).toNatClampNeg)) (cwV 3 hts (pj_gV m_134 m_135 m_136 m_21 m_137) rfl rfl rfl (by decide +kernel) ⟨Nat.le_of_ble_eq_true rfl, Nat.le_of_ble_eq_true rfl⟩) pj_no_ok trivial hK hP hD hS hA (ci := 0) (q0 := 0) rfl rfl [5, 6, 7] [0, 1, 2, 3, 4] [0, 1, 2, 3, 4, 5, 6, 7] rfl rfl rfl rfl (by decide) rfl rfl rfl hl.1 rfl (Nat.le_of_ble_eq_true rfl) dJ_tryLast_60 ⟨Nat.le_of_ble_eq_true rfl, Nat.le_of_ble_eq_true rfl⟩ rfl rfl rfl (fun H locs hP hD hS => ?_)
      refine lv_iinc (v := nI (i + 1)) (lv' := [(3, .int (nI (i + 1))), (0, .ref oj), (1, .int (nI gz)), (2, .ref o)]) hx hb dJ_tryLast_63 hl (k := 0) rfl (nI_1 i) (by decide) rfl (fun ls hl => ?_)
      refine lv_goto (tgt := 6) hx hb dJ_tryLast_66 (by decide) ?_
      rw [nI_clamp (n := i) (by omega)] at hP hD ho9
      exact ih (i + 1) (pj2 n f1 (fr i) (to i) (va i)) (pj2c n g1 (fr i) (to i)) (by omega) (by rw [← hb9, pjTry, if_neg ho9]) H locs hP hD hS ls (lv_sub hl [0, 1, 2, 3] rfl)
set_option maxHeartbeats 4000000 in
set_option maxRecDepth 100000 in
theorem c_rep (l : Launch) (D : va_G) (cI cJ cZ : ClassId) (oj pf pt pv pz J u : Nat) (fr to fi : Nat → Int32) (va : Nat → Int64) (hJ : J < 2 ^ 31) (hu : u ≤ J) (o p1 q1 n : Nat) (f : Nat → Int64) (g : Nat → Int32) (hn : n < 2 ^ 31) : pj_Met l yJ_replay wsJ_replay ({ frames := 3, cells := 0, slots := 0, locals := 68 }) D vwCl (pjT cI cJ cZ) pj_no [.ref oj, .ref o] [(oj, .inr (2, [.ref pf, .ref pt, .ref pv, .ref pz, .int (nI u)])), (pf, .inl (cI, J, .inl fr)), (pt, .inl (cI, J, .inl to)), (pv, .inl (cJ, J, .inr (.inl va))), (pz, .inl (cZ, J, .inl fi)), (o, .inr (0, [.ref p1, .ref q1])), (p1, .inl (cJ, n, .inr (.inl f))), (q1, .inl (cI, n, .inl g))] (some (.int (nI (pjRep n fr to va fi u 0 0 f g).1))) [(oj, .inr (2, [.ref pf, .ref pt, .ref pv, .ref pz, .int (nI u)])), (pf, .inl (cI, J, .inl fr)), (pt, .inl (cI, J, .inl to)), (pv, .inl (cJ, J, .inr (.inl va))), (pz, .inl (cZ, J, .inl fi)), (o, .inr (0, [.ref p1, .ref q1])), (p1, .inl (cJ, n, .inr (.inl ((pjRep n fr to va fi u 0 0 f g).2.1)))), (q1, .inl (cI, n, .inl ((pjRep n fr to va fi u 0 0 f g).2.2)))] 0 0 := by
  refine pj_of (by decide) rfl (Nat.le_of_ble_eq_true rfl) ?_
  intro p e s m below meth c A ls hx hb hml hr hts hown hlocks hin hA hK hP hD hS hG hl
  have hl : lv_has ls 4 [(0, .ref oj), (1, .ref o)] := hl
  refine lv_iconst (v := 0) hx hb dJ_replay_0 (by decide) ?_
  refine lv_istore_n (lv' := [(2, .int 0), (0, .ref oj), (1, .ref o)]) hx hb dJ_replay_1 rfl hl (by decide) rfl (fun ls hl => ?_)
  refine lv_iconst (v := 0) hx hb dJ_replay_2 (by decide) ?_
  refine lv_istore_n (lv' := [(3, .int 0), (2, .int 0), (0, .ref oj), (1, .ref o)]) hx hb dJ_replay_3 rfl hl (by decide) rfl (fun ls hl => ?_)
  suffices loop : ∀ (k i h : Nat) (f1 : Nat → Int64) (g1 : Nat → Int32), i + k = u → pjRep n fr to va fi k i h f1 g1 = pjRep n fr to va fi u 0 0 f g → ∀ (H : Heap) (locs : List Loc), va_P D vwCl [(oj, .inr (2, [.ref pf, .ref pt, .ref pv, .ref pz, .int (nI u)])), (pf, .inl (cI, J, .inl fr)), (pt, .inl (cI, J, .inl to)), (pv, .inl (cJ, J, .inr (.inl va))), (pz, .inl (cZ, J, .inl fi)), (o, .inr (0, [.ref p1, .ref q1])), (p1, .inl (cJ, n, .inr (.inl f1))), (q1, .inl (cI, n, .inl g1))] H → va_D A [(oj, .inr (2, [.ref pf, .ref pt, .ref pv, .ref pz, .int (nI u)])), (pf, .inl (cI, J, .inl fr)), (pt, .inl (cI, J, .inl to)), (pv, .inl (cJ, J, .inr (.inl va))), (pz, .inl (cZ, J, .inl fi)), (o, .inr (0, [.ref p1, .ref q1])), (p1, .inl (cJ, n, .inr (.inl f1))), (q1, .inl (cI, n, .inl g1))] → va_S A s.heap H locs → ∀ (ls : Array Slot), lv_has ls 4 [(3, .int (nI i)), (2, .int (nI h)), (0, .ref oj), (1, .ref o)] → W p l e ({ frames := 3, cells := 0, slots := 0, locals := 68 }) s m (([.ref oj, .ref o] : List Value).toArray) below meth c H locs 0 0 (MQ below (pj_Q (some (.int (nI (pjRep n fr to va fi u 0 0 f g).1))) [(oj, .inr (2, [.ref pf, .ref pt, .ref pv, .ref pz, .int (nI u)])), (pf, .inl (cI, J, .inl fr)), (pt, .inl (cI, J, .inl to)), (pv, .inl (cJ, J, .inr (.inl va))), (pz, .inl (cZ, J, .inl fi)), (o, .inr (0, [.ref p1, .ref q1])), (p1, .inl (cJ, n, .inr (.inl ((pjRep n fr to va fi u 0 0 f g).2.1)))), (q1, .inl (cI, n, .inl ((pjRep n fr to va fi u 0 0 f g).2.2)))] D vwCl A) (([.ref oj, .ref o] : List Value).toArray) s 0 0 A) (F0 m 4 ls []) by
    exact loop u 0 0 f g (by omega) rfl s.heap [] hP hD hS ls (lv_sub hl [0, 1, 2, 3] rfl)
  intro k
  induction k with
  | zero =>
    intro i h f1 g1 hi hb9 H locs hP hD hS ls hl
    refine lv_iload_n hx hb dJ_replay_4 rfl (lv_at hl 0 rfl) ?_
    refine lv_aload_n hx hb dJ_replay_5 rfl (lv_at hl 2 rfl) ?_
    refine va_get (D := D) (ci := 2) (v := .int (nI u)) (C := "ReplayJournal$Journal") (T := TJ) (N := 5) hx hb hts (pj_ups inJ) hown hK hP 0 rfl rfl 4 (by decide) (hts _ (pj_up m_69)) (fun _ h9 => h9) rfl dJ_replay_6 ?_
    refine lv_icmp_ge (tgt := 52) hx hb dJ_replay_9 (by decide) (fun _ => ?_) (fun h9 => (h9 (nI_le (by omega) (by omega))).elim)
    refine lv_iload_n hx hb dJ_replay_52 rfl (lv_at hl 1 rfl) ?_
    exact pj_iret hx hb hr hlocks hP hD hS (by rw [← hb9, pjRep] <;> rfl) (by rw [← hb9, pjRep] <;> rfl) dJ_replay_53
  | succ k ih =>
    intro i h f1 g1 hi hb9 H locs hP hD hS ls hl
    refine lv_iload_n hx hb dJ_replay_4 rfl (lv_at hl 0 rfl) ?_
    refine lv_aload_n hx hb dJ_replay_5 rfl (lv_at hl 2 rfl) ?_
    refine va_get (D := D) (ci := 2) (v := .int (nI u)) (C := "ReplayJournal$Journal") (T := TJ) (N := 5) hx hb hts (pj_ups inJ) hown hK hP 0 rfl rfl 4 (by decide) (hts _ (pj_up m_69)) (fun _ h9 => h9) rfl dJ_replay_6 ?_
    refine lv_icmp_ge (tgt := 52) hx hb dJ_replay_9 (by decide) (fun h9 => absurd h9 (nI_ge (by omega) (by omega))) (fun _ => ?_)
    refine lv_aload_n hx hb dJ_replay_12 rfl (lv_at hl 2 rfl) ?_
    refine va_get (D := D) (ci := 2) (v := .ref pz) (C := "ReplayJournal$Journal") (T := TJ) (N := 5) hx hb hts (pj_ups inJ) hown hK hP 0 rfl rfl 3 (by decide) (hts _ (pj_up m_68)) (fun _ h9 => h9) rfl dJ_replay_13 ?_
    refine lv_iload_n hx hb dJ_replay_16 rfl (lv_at hl 0 rfl) ?_
    refine va_zald hx hb hK hP 4 2 rfl rfl (vp_in_nI (by omega) hJ) dJ_replay_17 ?_
    refine lv_if_eq (tgt := 46) hx hb dJ_replay_18 (by decide) (fun c9 => ?_) (fun c9 => ?_)
    · refine lv_iinc (v := nI (i + 1)) (lv' := [(3, .int (nI (i + 1))), (2, .int (nI h)), (0, .ref oj), (1, .ref o)]) hx hb dJ_replay_46 hl (k := 0) rfl (nI_1 i) (by decide) rfl (fun ls hl => ?_)
      refine lv_goto (tgt := 4) hx hb dJ_replay_49 (by decide) ?_
      rw [nI_clamp (n := i) (by omega)] at c9
      exact ih (i + 1) h f1 g1 (by omega) (by rw [← hb9, pjRep, if_pos c9]) H locs hP hD hS ls (lv_sub hl [0, 1, 2, 3] rfl)
    · refine lv_aload_n hx hb dJ_replay_21 rfl (lv_at hl 3 rfl) ?_
      refine lv_aload_n hx hb dJ_replay_22 rfl (lv_at hl 2 rfl) ?_
      refine va_get (D := D) (ci := 2) (v := .ref pf) (C := "ReplayJournal$Journal") (T := TJ) (N := 5) hx hb hts (pj_ups inJ) hown hK hP 0 rfl rfl 0 (by decide) (hts _ (pj_up m_65)) (fun _ h9 => h9) rfl dJ_replay_23 ?_
      refine lv_iload_n hx hb dJ_replay_26 rfl (lv_at hl 0 rfl) ?_
      refine va_iald hx hb hK hP 1 0 rfl rfl (vp_in_nI (by omega) hJ) dJ_replay_27 ?_
      refine lv_aload_n hx hb dJ_replay_28 rfl (lv_at hl 2 rfl) ?_
      refine va_get (D := D) (ci := 2) (v := .ref pt) (C := "ReplayJournal$Journal") (T := TJ) (N := 5) hx hb hts (pj_ups inJ) hown hK hP 0 rfl rfl 1 (by decide) (hts _ (pj_up m_66)) (fun _ h9 => h9) rfl dJ_replay_29 ?_
      refine lv_iload_n hx hb dJ_replay_32 rfl (lv_at hl 0 rfl) ?_
      refine va_iald hx hb hK hP 2 0 rfl rfl (vp_in_nI (by omega) hJ) dJ_replay_33 ?_
      refine lv_aload_n hx hb dJ_replay_34 rfl (lv_at hl 2 rfl) ?_
      refine va_get (D := D) (ci := 2) (v := .ref pv) (C := "ReplayJournal$Journal") (T := TJ) (N := 5) hx hb hts (pj_ups inJ) hown hK hP 0 rfl rfl 2 (by decide) (hts _ (pj_up m_67)) (fun _ h9 => h9) rfl dJ_replay_35 ?_
      refine lv_iload_n hx hb dJ_replay_38 rfl (lv_at hl 0 rfl) ?_
      refine va_lald hx hb hK hP 3 1 rfl rfl (vp_in_nI (by omega) hJ) dJ_replay_39 ?_
      refine pj_callV (w2 := [(oj, .inr (2, [.ref pf, .ref pt, .ref pv, .ref pz, .int (nI u)])), (pf, .inl (cI, J, .inl fr)), (pt, .inl (cI, J, .inl to)), (pv, .inl (cJ, J, .inr (.inl va))), (pz, .inl (cZ, J, .inl fi)), (o, .inr (0, [.ref p1, .ref q1])), (p1, .inl (cJ, n, .inr (.inl (pj2 n f1 (fr (nI i).toNatClampNeg) (to (nI i).toNatClampNeg) (va (nI i).toNatClampNeg))))), (q1, .inl (cI, n, .inl (pj2c n g1 (fr (nI i).toNatClampNeg) (to (nI i).toNatClampNeg))))]) (wr := [(oj, .inr (2, [.ref pf, .ref pt, .ref pv, .ref pz, .int (nI u)])), (pf, .inl (cI, J, .inl fr)), (pt, .inl (cI, J, .inl to)), (pv, .inl (cJ, J, .inr (.inl va))), (pz, .inl (cZ, J, .inl fi))]) (rest := []) (st1 := []) ⟨hx, hb, hml, hown, hts⟩ (c_apply l D cI cJ cZ o p1 q1 n f1 g1 hn (fr (nI i).toNatClampNeg) (to (nI i).toNatClampNeg) (va (nI i).toNatClampNeg)) (cwV 3 hts (pj_gV m_134 m_135 m_136 m_21 m_137) rfl rfl rfl (by decide +kernel) ⟨Nat.le_of_ble_eq_true rfl, Nat.le_of_ble_eq_true rfl⟩) pj_no_ok trivial hK hP hD hS hA (ci := 0) (q0 := 0) rfl rfl [5, 6, 7] [0, 1, 2, 3, 4] [0, 1, 2, 3, 4, 5, 6, 7] rfl rfl rfl rfl (by decide) rfl rfl rfl hl.1 rfl (Nat.le_of_ble_eq_true rfl) dJ_replay_40 ⟨Nat.le_of_ble_eq_true rfl, Nat.le_of_ble_eq_true rfl⟩ rfl rfl rfl (fun H locs hP hD hS => ?_)
      refine lv_iinc (v := nI (h + 1)) (lv' := [(2, .int (nI (h + 1))), (3, .int (nI i)), (0, .ref oj), (1, .ref o)]) hx hb dJ_replay_43 hl (k := 1) rfl (nI_1 h) (by decide) rfl (fun ls hl => ?_)
      refine lv_iinc (v := nI (i + 1)) (lv' := [(3, .int (nI (i + 1))), (2, .int (nI (h + 1))), (0, .ref oj), (1, .ref o)]) hx hb dJ_replay_46 hl (k := 1) rfl (nI_1 i) (by decide) rfl (fun ls hl => ?_)
      refine lv_goto (tgt := 4) hx hb dJ_replay_49 (by decide) ?_
      rw [nI_clamp (n := i) (by omega)] at hP hD c9
      exact ih (i + 1) (h + 1) (pj2 n f1 (fr i) (to i) (va i)) (pj2c n g1 (fr i) (to i)) (by omega) (by rw [← hb9, pjRep, if_neg c9]) H locs hP hD hS ls (lv_sub hl [0, 1, 2, 3] rfl)
end
section
set_option maxHeartbeats 4000000 in
set_option maxRecDepth 100000 in
theorem c_rA (l : Launch) (D : va_G) (cI cJ cZ : ClassId) (o0 oL pL qL oS pS qS oT pT qT oj pf pt pv pz od n J u : Nat) (fL fS fT va : Nat → Int64) (cL cS cT fr to fi : Nat → Int32) (wr lf gs sm : Int32) (hn : n < 2 ^ 31) (hJ : J < 2 ^ 31) (hu : u ≤ J) (x : Int32) (h : pjH n x) : pp_Met l yR_requireAccount wsR_requireAccount ({ frames := 6, cells := 0, slots := 0, locals := 82 }) D vwCl (pjT cI cJ cZ) pj_no [.ref o0, .int x] [(o0, .inr (3, [.ref oL, .ref oS, .ref oT, .ref oj, .ref od, .int gs, .int sm])), (oL, .inr (0, [.ref pL, .ref qL])), (pL, .inl (cJ, n, .inr (.inl fL))), (qL, .inl (cI, n, .inl cL)), (oS, .inr (0, [.ref pS, .ref qS])), (pS, .inl (cJ, n, .inr (.inl fS))), (qS, .inl (cI, n, .inl cS)), (oT, .inr (0, [.ref pT, .ref qT])), (pT, .inl (cJ, n, .inr (.inl fT))), (qT, .inl (cI, n, .inl cT)), (oj, .inr (2, [.ref pf, .ref pt, .ref pv, .ref pz, .int (nI u)])), (pf, .inl (cI, J, .inl fr)), (pt, .inl (cI, J, .inl to)), (pv, .inl (cJ, J, .inr (.inl va))), (pz, .inl (cZ, J, .inl fi)), (od, .inr (1, [.int wr, .int lf]))] none := by
  refine pp_of (by decide) rfl (Nat.le_of_ble_eq_true rfl) ?_
  intro p e s m below meth c A ls hx hb hml hr hts hown hlocks hA hK hP hD hS hG hl
  have hl : lv_has ls 2 [(0, .ref o0), (1, .int x)] := hl
  refine lv_aload_n hx hb dR_requireAccount_0 rfl (lv_at hl 0 rfl) ?_
  refine va_get (D := D) (ci := 3) (v := .ref oL) (C := "ReplayJournal") (T := TR) (N := 7) hx hb hts (pj_ups inR) hown hK hP 0 rfl rfl 0 (by decide) (hts _ (pj_up m_95)) (fun _ h9 => h9) rfl dR_requireAccount_1 ?_
  refine lv_iload_n hx hb dR_requireAccount_4 rfl (lv_at hl 1 rfl) ?_
  refine pp_callV (rest := []) (st1 := [.int 1]) ⟨hx, hb, hml, hown, hts⟩ (c_has_t l D cI cJ cZ oL pL qL n fL cL hn x h) (cwV 1 hts (pj_gV m_170 m_143 m_144 m_21 m_145) rfl rfl rfl (by decide +kernel) ⟨Nat.le_of_ble_eq_true rfl, Nat.le_of_ble_eq_true rfl⟩) pj_no_ok trivial hK hP hD hS hA (ci := 0) (q0 := 0) rfl rfl [1, 2, 3] rfl rfl rfl hl.1 rfl (Nat.le_of_ble_eq_true rfl) dR_requireAccount_5 ⟨Nat.le_of_ble_eq_true rfl, Nat.le_of_ble_eq_true rfl⟩ rfl ?_
  refine lv_if_ne (tgt := 21) hx hb dR_requireAccount_8 (by decide) (fun _ => ?_) (fun h9 => absurd h9 (by decide))
  exact pp_vret hx hb hr hlocks dR_requireAccount_21
set_option maxHeartbeats 4000000 in
set_option maxRecDepth 100000 in
theorem t_rA (l : Launch) (D : va_G) (cI cJ cZ : ClassId) (o0 oL pL qL oS pS qS oT pT qT oj pf pt pv pz od n J u : Nat) (fL fS fT va : Nat → Int64) (cL cS cT fr to fi : Nat → Int32) (wr lf gs sm : Int32) (hn : n < 2 ^ 31) (hJ : J < 2 ^ 31) (hu : u ≤ J) (x : Int32) (h : ¬ pjH n x) (htr : l.stackTraces = false) : pt_X l yR_requireAccount wsR_requireAccount ({ frames := 6, cells := 1, slots := 6, locals := 82 }) D vwCl (pjT cI cJ cZ) pt_G [.ref o0, .int x] [(o0, .inr (3, [.ref oL, .ref oS, .ref oT, .ref oj, .ref od, .int gs, .int sm])), (oL, .inr (0, [.ref pL, .ref qL])), (pL, .inl (cJ, n, .inr (.inl fL))), (qL, .inl (cI, n, .inl cL)), (oS, .inr (0, [.ref pS, .ref qS])), (pS, .inl (cJ, n, .inr (.inl fS))), (qS, .inl (cI, n, .inl cS)), (oT, .inr (0, [.ref pT, .ref qT])), (pT, .inl (cJ, n, .inr (.inl fT))), (qT, .inl (cI, n, .inl cT)), (oj, .inr (2, [.ref pf, .ref pt, .ref pv, .ref pz, .int (nI u)])), (pf, .inl (cI, J, .inl fr)), (pt, .inl (cI, J, .inl to)), (pv, .inl (cJ, J, .inr (.inl va))), (pz, .inl (cZ, J, .inl fi)), (od, .inr (1, [.int wr, .int lf]))] "java/lang/IllegalArgumentException" := by
  refine pt_of (by decide) rfl (Nat.le_of_ble_eq_true rfl) ?_
  intro p e s m below meth c A ls hx hb hml hno hts hown hlocks hA hK hP hD hS hG hl
  have hl : lv_has ls 2 [(0, .ref o0), (1, .int x)] := hl
  refine lv_aload_n hx hb dR_requireAccount_0 rfl (lv_at hl 0 rfl) ?_
  refine va_get (D := D) (ci := 3) (v := .ref oL) (C := "ReplayJournal") (T := TR) (N := 7) hx hb hts (pj_ups inR) hown hK hP 0 rfl rfl 0 (by decide) (hts _ (pj_up m_95)) (fun _ h9 => h9) rfl dR_requireAccount_1 ?_
  refine lv_iload_n hx hb dR_requireAccount_4 rfl (lv_at hl 1 rfl) ?_
  refine pp_callV (rest := []) (st1 := [.int 0]) ⟨hx, hb, hml, hown, hts⟩ (c_has_f l D cI cJ cZ oL pL qL n fL cL hn x h) (cwV 1 hts (pj_gV m_170 m_143 m_144 m_21 m_145) rfl rfl rfl (by decide +kernel) ⟨Nat.le_of_ble_eq_true rfl, Nat.le_of_ble_eq_true rfl⟩) pj_no_ok trivial hK hP hD hS hA (ci := 0) (q0 := 0) rfl rfl [1, 2, 3] rfl rfl rfl hl.1 rfl (Nat.le_of_ble_eq_true rfl) dR_requireAccount_5 ⟨Nat.le_of_ble_eq_true rfl, Nat.le_of_ble_eq_true rfl⟩ rfl ?_
  refine lv_if_ne (tgt := 21) hx hb dR_requireAccount_8 (by decide) (fun h9 => absurd h9 (fun h => h rfl)) (fun _ => ?_)
  obtain ⟨qtx, hqtx⟩ := hG.1 (168, "there is no such account") (by decide)
  exact pt_throw (X := "java/lang/IllegalArgumentException") (own := "ReplayJournal") (names := pt_up) (ia := 72) (is := 168) (ic := 76) hx hb hml hl.1 htr hown (by decide +kernel) (by decide +kernel) (pt_atoms hts hG pt_inA) (hts _ (pj_up m_171)) (hts _ (pj_up m_28)) hqtx dR_requireAccount_11 dR_requireAccount_14 dR_requireAccount_15 dR_requireAccount_17 dR_requireAccount_20 hno hlocks (Nat.le_of_ble_eq_true rfl) (Nat.le_of_ble_eq_true rfl) (Nat.le_of_ble_eq_true rfl) (Nat.le_of_ble_eq_true rfl)
set_option maxHeartbeats 4000000 in
set_option maxRecDepth 100000 in
theorem c_rB (l : Launch) (D : va_G) (cI cJ cZ : ClassId) (o0 oL pL qL oS pS qS oT pT qT oj pf pt pv pz od n J u : Nat) (fL fS fT va : Nat → Int64) (cL cS cT fr to fi : Nat → Int32) (wr lf gs sm : Int32) (hn : n < 2 ^ 31) (hJ : J < 2 ^ 31) (hu : u ≤ J) (v lo hi : Int64) (h : ¬ v < lo ∧ ¬ hi < v) : pp_Met l yR_requireBounds wsR_requireBounds ({ frames := 6, cells := 0, slots := 0, locals := 82 }) D vwCl (pjT cI cJ cZ) pj_no [.long v, .long lo, .long hi] [(o0, .inr (3, [.ref oL, .ref oS, .ref oT, .ref oj, .ref od, .int gs, .int sm])), (oL, .inr (0, [.ref pL, .ref qL])), (pL, .inl (cJ, n, .inr (.inl fL))), (qL, .inl (cI, n, .inl cL)), (oS, .inr (0, [.ref pS, .ref qS])), (pS, .inl (cJ, n, .inr (.inl fS))), (qS, .inl (cI, n, .inl cS)), (oT, .inr (0, [.ref pT, .ref qT])), (pT, .inl (cJ, n, .inr (.inl fT))), (qT, .inl (cI, n, .inl cT)), (oj, .inr (2, [.ref pf, .ref pt, .ref pv, .ref pz, .int (nI u)])), (pf, .inl (cI, J, .inl fr)), (pt, .inl (cI, J, .inl to)), (pv, .inl (cJ, J, .inr (.inl va))), (pz, .inl (cZ, J, .inl fi)), (od, .inr (1, [.int wr, .int lf]))] none := by
  refine pp_of (by decide) rfl (Nat.le_of_ble_eq_true rfl) ?_
  intro p e s m below meth c A ls hx hb hml hr hts hown hlocks hA hK hP hD hS hG hl
  have hl : lv_has ls 6 [(0, .long v), (2, .long lo), (4, .long hi)] := hl
  refine lv_lload_n hx hb dR_requireBounds_0 rfl (lv_at hl 0 rfl) ?_
  refine lv_lload_n hx hb dR_requireBounds_1 rfl (lv_at hl 1 rfl) ?_
  refine W.lcmp hx hb dR_requireBounds_2 ?_
  refine lv_if_lt (tgt := 13) hx hb dR_requireBounds_3 (by decide) (fun h9 => absurd h9 (fun z => h.1 ((lg_cmp_lt _ _).mp z))) (fun _ => ?_)
  refine lv_lload_n hx hb dR_requireBounds_6 rfl (lv_at hl 0 rfl) ?_
  refine lv_lload hx hb dR_requireBounds_7 (lv_at hl 2 rfl) ?_
  refine W.lcmp hx hb dR_requireBounds_9 ?_
  refine lv_if_le (tgt := 23) hx hb dR_requireBounds_10 (by decide) (fun _ => ?_) (fun h9 => (h9 ((lg_cmp_le _ _).mpr (Int64.not_lt.mp h.2))).elim)
  exact pp_vret hx hb hr hlocks dR_requireBounds_23
set_option maxHeartbeats 4000000 in
set_option maxRecDepth 100000 in
theorem t_rB (l : Launch) (D : va_G) (cI cJ cZ : ClassId) (o0 oL pL qL oS pS qS oT pT qT oj pf pt pv pz od n J u : Nat) (fL fS fT va : Nat → Int64) (cL cS cT fr to fi : Nat → Int32) (wr lf gs sm : Int32) (hn : n < 2 ^ 31) (hJ : J < 2 ^ 31) (hu : u ≤ J) (v lo hi : Int64) (h : v < lo ∨ hi < v) (htr : l.stackTraces = false) : pt_X l yR_requireBounds wsR_requireBounds ({ frames := 6, cells := 1, slots := 6, locals := 82 }) D vwCl (pjT cI cJ cZ) pt_G [.long v, .long lo, .long hi] [(o0, .inr (3, [.ref oL, .ref oS, .ref oT, .ref oj, .ref od, .int gs, .int sm])), (oL, .inr (0, [.ref pL, .ref qL])), (pL, .inl (cJ, n, .inr (.inl fL))), (qL, .inl (cI, n, .inl cL)), (oS, .inr (0, [.ref pS, .ref qS])), (pS, .inl (cJ, n, .inr (.inl fS))), (qS, .inl (cI, n, .inl cS)), (oT, .inr (0, [.ref pT, .ref qT])), (pT, .inl (cJ, n, .inr (.inl fT))), (qT, .inl (cI, n, .inl cT)), (oj, .inr (2, [.ref pf, .ref pt, .ref pv, .ref pz, .int (nI u)])), (pf, .inl (cI, J, .inl fr)), (pt, .inl (cI, J, .inl to)), (pv, .inl (cJ, J, .inr (.inl va))), (pz, .inl (cZ, J, .inl fi)), (od, .inr (1, [.int wr, .int lf]))] "java/lang/IllegalArgumentException" := by
  refine pt_of (by decide) rfl (Nat.le_of_ble_eq_true rfl) ?_
  intro p e s m below meth c A ls hx hb hml hno hts hown hlocks hA hK hP hD hS hG hl
  have hl : lv_has ls 6 [(0, .long v), (2, .long lo), (4, .long hi)] := hl
  refine lv_lload_n hx hb dR_requireBounds_0 rfl (lv_at hl 0 rfl) ?_
  refine lv_lload_n hx hb dR_requireBounds_1 rfl (lv_at hl 1 rfl) ?_
  refine W.lcmp hx hb dR_requireBounds_2 ?_
  refine lv_if_lt (tgt := 13) hx hb dR_requireBounds_3 (by decide) (fun c1 => ?_) (fun c1 => ?_)
  · obtain ⟨qtx, hqtx⟩ := hG.1 (170, "a number is out of its bounds") (by decide)
    exact pt_throw (X := "java/lang/IllegalArgumentException") (own := "ReplayJournal") (names := pt_up) (ia := 72) (is := 170) (ic := 76) hx hb hml hl.1 htr hown (by decide +kernel) (by decide +kernel) (pt_atoms hts hG pt_inA) (hts _ (pj_up m_171)) (hts _ (pj_up m_28)) hqtx dR_requireBounds_13 dR_requireBounds_16 dR_requireBounds_17 dR_requireBounds_19 dR_requireBounds_22 hno hlocks (Nat.le_of_ble_eq_true rfl) (Nat.le_of_ble_eq_true rfl) (Nat.le_of_ble_eq_true rfl) (Nat.le_of_ble_eq_true rfl)
  · refine lv_lload_n hx hb dR_requireBounds_6 rfl (lv_at hl 0 rfl) ?_
    refine lv_lload hx hb dR_requireBounds_7 (lv_at hl 2 rfl) ?_
    refine W.lcmp hx hb dR_requireBounds_9 ?_
    refine lv_if_le (tgt := 23) hx hb dR_requireBounds_10 (by decide) (fun h9 => absurd h9 (fun z => (h.elim (fun y => c1 ((lg_cmp_lt _ _).mpr y)) (fun y => Int64.not_lt.mpr ((lg_cmp_le _ _).mp z) y)))) (fun _ => ?_)
    obtain ⟨qtx, hqtx⟩ := hG.1 (170, "a number is out of its bounds") (by decide)
    exact pt_throw (X := "java/lang/IllegalArgumentException") (own := "ReplayJournal") (names := pt_up) (ia := 72) (is := 170) (ic := 76) hx hb hml hl.1 htr hown (by decide +kernel) (by decide +kernel) (pt_atoms hts hG pt_inA) (hts _ (pj_up m_171)) (hts _ (pj_up m_28)) hqtx dR_requireBounds_13 dR_requireBounds_16 dR_requireBounds_17 dR_requireBounds_19 dR_requireBounds_22 hno hlocks (Nat.le_of_ble_eq_true rfl) (Nat.le_of_ble_eq_true rfl) (Nat.le_of_ble_eq_true rfl) (Nat.le_of_ble_eq_true rfl)
set_option maxHeartbeats 4000000 in
set_option maxRecDepth 100000 in
theorem c_rP (l : Launch) (D : va_G) (cI cJ cZ : ClassId) (o0 oL pL qL oS pS qS oT pT qT oj pf pt pv pz od n J u : Nat) (fL fS fT va : Nat → Int64) (cL cS cT fr to fi : Nat → Int32) (wr lf gs sm : Int32) (hn : n < 2 ^ 31) (hJ : J < 2 ^ 31) (hu : u ≤ J) (h : ¬ lf = 0) : pp_Met l yR_requirePower wsR_requirePower ({ frames := 6, cells := 0, slots := 0, locals := 82 }) D vwCl (pjT cI cJ cZ) pj_no [.ref o0] [(o0, .inr (3, [.ref oL, .ref oS, .ref oT, .ref oj, .ref od, .int gs, .int sm])), (oL, .inr (0, [.ref pL, .ref qL])), (pL, .inl (cJ, n, .inr (.inl fL))), (qL, .inl (cI, n, .inl cL)), (oS, .inr (0, [.ref pS, .ref qS])), (pS, .inl (cJ, n, .inr (.inl fS))), (qS, .inl (cI, n, .inl cS)), (oT, .inr (0, [.ref pT, .ref qT])), (pT, .inl (cJ, n, .inr (.inl fT))), (qT, .inl (cI, n, .inl cT)), (oj, .inr (2, [.ref pf, .ref pt, .ref pv, .ref pz, .int (nI u)])), (pf, .inl (cI, J, .inl fr)), (pt, .inl (cI, J, .inl to)), (pv, .inl (cJ, J, .inr (.inl va))), (pz, .inl (cZ, J, .inl fi)), (od, .inr (1, [.int wr, .int lf]))] none := by
  refine pp_of (by decide) rfl (Nat.le_of_ble_eq_true rfl) ?_
  intro p e s m below meth c A ls hx hb hml hr hts hown hlocks hA hK hP hD hS hG hl
  have hl : lv_has ls 1 [(0, .ref o0)] := hl
  refine lv_aload_n hx hb dR_requirePower_0 rfl (lv_at hl 0 rfl) ?_
  refine va_get (D := D) (ci := 3) (v := .ref od) (C := "ReplayJournal") (T := TR) (N := 7) hx hb hts (pj_ups inR) hown hK hP 0 rfl rfl 4 (by decide) (hts _ (pj_up m_99)) (fun _ h9 => h9) rfl dR_requirePower_1 ?_
  refine pp_callV (rest := []) (st1 := [.int 0]) ⟨hx, hb, hml, hown, hts⟩ (c_off_f l D cI cJ cZ od wr lf h) (cwV 0 hts (pj_gV m_150 m_151 m_152 m_23 m_153) rfl rfl rfl (by decide +kernel) ⟨Nat.le_of_ble_eq_true rfl, Nat.le_of_ble_eq_true rfl⟩) pj_no_ok trivial hK hP hD hS hA (ci := 1) (q0 := 0) rfl rfl [15] rfl rfl rfl hl.1 rfl (Nat.le_of_ble_eq_true rfl) dR_requirePower_4 ⟨Nat.le_of_ble_eq_true rfl, Nat.le_of_ble_eq_true rfl⟩ rfl ?_
  refine lv_if_eq (tgt := 20) hx hb dR_requirePower_7 (by decide) (fun _ => ?_) (fun h9 => (h9 rfl).elim)
  exact pp_vret hx hb hr hlocks dR_requirePower_20
set_option maxHeartbeats 4000000 in
set_option maxRecDepth 100000 in
theorem t_rP (l : Launch) (D : va_G) (cI cJ cZ : ClassId) (o0 oL pL qL oS pS qS oT pT qT oj pf pt pv pz od n J u : Nat) (fL fS fT va : Nat → Int64) (cL cS cT fr to fi : Nat → Int32) (wr lf gs sm : Int32) (hn : n < 2 ^ 31) (hJ : J < 2 ^ 31) (hu : u ≤ J) (h : lf = 0) (htr : l.stackTraces = false) : pt_X l yR_requirePower wsR_requirePower ({ frames := 6, cells := 1, slots := 6, locals := 82 }) D vwCl (pjT cI cJ cZ) pt_G [.ref o0] [(o0, .inr (3, [.ref oL, .ref oS, .ref oT, .ref oj, .ref od, .int gs, .int sm])), (oL, .inr (0, [.ref pL, .ref qL])), (pL, .inl (cJ, n, .inr (.inl fL))), (qL, .inl (cI, n, .inl cL)), (oS, .inr (0, [.ref pS, .ref qS])), (pS, .inl (cJ, n, .inr (.inl fS))), (qS, .inl (cI, n, .inl cS)), (oT, .inr (0, [.ref pT, .ref qT])), (pT, .inl (cJ, n, .inr (.inl fT))), (qT, .inl (cI, n, .inl cT)), (oj, .inr (2, [.ref pf, .ref pt, .ref pv, .ref pz, .int (nI u)])), (pf, .inl (cI, J, .inl fr)), (pt, .inl (cI, J, .inl to)), (pv, .inl (cJ, J, .inr (.inl va))), (pz, .inl (cZ, J, .inl fi)), (od, .inr (1, [.int wr, .int lf]))] "java/lang/IllegalStateException" := by
  refine pt_of (by decide) rfl (Nat.le_of_ble_eq_true rfl) ?_
  intro p e s m below meth c A ls hx hb hml hno hts hown hlocks hA hK hP hD hS hG hl
  have hl : lv_has ls 1 [(0, .ref o0)] := hl
  refine lv_aload_n hx hb dR_requirePower_0 rfl (lv_at hl 0 rfl) ?_
  refine va_get (D := D) (ci := 3) (v := .ref od) (C := "ReplayJournal") (T := TR) (N := 7) hx hb hts (pj_ups inR) hown hK hP 0 rfl rfl 4 (by decide) (hts _ (pj_up m_99)) (fun _ h9 => h9) rfl dR_requirePower_1 ?_
  refine pp_callV (rest := []) (st1 := [.int 1]) ⟨hx, hb, hml, hown, hts⟩ (c_off_t l D cI cJ cZ od wr lf h) (cwV 0 hts (pj_gV m_150 m_151 m_152 m_23 m_153) rfl rfl rfl (by decide +kernel) ⟨Nat.le_of_ble_eq_true rfl, Nat.le_of_ble_eq_true rfl⟩) pj_no_ok trivial hK hP hD hS hA (ci := 1) (q0 := 0) rfl rfl [15] rfl rfl rfl hl.1 rfl (Nat.le_of_ble_eq_true rfl) dR_requirePower_4 ⟨Nat.le_of_ble_eq_true rfl, Nat.le_of_ble_eq_true rfl⟩ rfl ?_
  refine lv_if_eq (tgt := 20) hx hb dR_requirePower_7 (by decide) (fun h9 => absurd h9 (by decide)) (fun _ => ?_)
  obtain ⟨qtx, hqtx⟩ := hG.1 (174, "the power failed") (by decide)
  exact pt_throw (X := "java/lang/IllegalStateException") (own := "ReplayJournal") (names := pt_up) (ia := 172) (is := 174) (ic := 176) hx hb hml hl.1 htr hown (by decide +kernel) (by decide +kernel) (pt_atoms hts hG pt_inS) (hts _ (pj_up m_248)) (hts _ (pj_up m_29)) hqtx dR_requirePower_10 dR_requirePower_13 dR_requirePower_14 dR_requirePower_16 dR_requirePower_19 hno hlocks (Nat.le_of_ble_eq_true rfl) (Nat.le_of_ble_eq_true rfl) (Nat.le_of_ble_eq_true rfl) (Nat.le_of_ble_eq_true rfl)
set_option maxHeartbeats 4000000 in
set_option maxRecDepth 100000 in
theorem c_rG (l : Launch) (D : va_G) (cI cJ cZ : ClassId) (o0 oL pL qL oS pS qS oT pT qT oj pf pt pv pz od n J u : Nat) (fL fS fT va : Nat → Int64) (cL cS cT fr to fi : Nat → Int32) (wr lf gs sm : Int32) (hn : n < 2 ^ 31) (hJ : J < 2 ^ 31) (hu : u ≤ J) (h : ¬ gs = -1) : pp_Met l yR_requireGroup wsR_requireGroup ({ frames := 6, cells := 0, slots := 0, locals := 82 }) D vwCl (pjT cI cJ cZ) pj_no [.ref o0] [(o0, .inr (3, [.ref oL, .ref oS, .ref oT, .ref oj, .ref od, .int gs, .int sm])), (oL, .inr (0, [.ref pL, .ref qL])), (pL, .inl (cJ, n, .inr (.inl fL))), (qL, .inl (cI, n, .inl cL)), (oS, .inr (0, [.ref pS, .ref qS])), (pS, .inl (cJ, n, .inr (.inl fS))), (qS, .inl (cI, n, .inl cS)), (oT, .inr (0, [.ref pT, .ref qT])), (pT, .inl (cJ, n, .inr (.inl fT))), (qT, .inl (cI, n, .inl cT)), (oj, .inr (2, [.ref pf, .ref pt, .ref pv, .ref pz, .int (nI u)])), (pf, .inl (cI, J, .inl fr)), (pt, .inl (cI, J, .inl to)), (pv, .inl (cJ, J, .inr (.inl va))), (pz, .inl (cZ, J, .inl fi)), (od, .inr (1, [.int wr, .int lf]))] none := by
  refine pp_of (by decide) rfl (Nat.le_of_ble_eq_true rfl) ?_
  intro p e s m below meth c A ls hx hb hml hr hts hown hlocks hA hK hP hD hS hG hl
  have hl : lv_has ls 1 [(0, .ref o0)] := hl
  refine lv_aload_n hx hb dR_requireGroup_0 rfl (lv_at hl 0 rfl) ?_
  refine va_get (D := D) (ci := 3) (v := .int gs) (C := "ReplayJournal") (T := TR) (N := 7) hx hb hts (pj_ups inR) hown hK hP 0 rfl rfl 5 (by decide) (hts _ (pj_up m_100)) (fun _ h9 => h9) rfl dR_requireGroup_1 ?_
  refine lv_iconst (v := -1) hx hb dR_requireGroup_4 (by decide) ?_
  refine lv_icmp_ne (tgt := 18) hx hb dR_requireGroup_5 (by decide) (fun _ => ?_) (fun h9 => absurd h9 h)
  exact pp_vret hx hb hr hlocks dR_requireGroup_18
set_option maxHeartbeats 4000000 in
set_option maxRecDepth 100000 in
theorem t_rG (l : Launch) (D : va_G) (cI cJ cZ : ClassId) (o0 oL pL qL oS pS qS oT pT qT oj pf pt pv pz od n J u : Nat) (fL fS fT va : Nat → Int64) (cL cS cT fr to fi : Nat → Int32) (wr lf gs sm : Int32) (hn : n < 2 ^ 31) (hJ : J < 2 ^ 31) (hu : u ≤ J) (h : gs = -1) (htr : l.stackTraces = false) : pt_X l yR_requireGroup wsR_requireGroup ({ frames := 6, cells := 1, slots := 6, locals := 82 }) D vwCl (pjT cI cJ cZ) pt_G [.ref o0] [(o0, .inr (3, [.ref oL, .ref oS, .ref oT, .ref oj, .ref od, .int gs, .int sm])), (oL, .inr (0, [.ref pL, .ref qL])), (pL, .inl (cJ, n, .inr (.inl fL))), (qL, .inl (cI, n, .inl cL)), (oS, .inr (0, [.ref pS, .ref qS])), (pS, .inl (cJ, n, .inr (.inl fS))), (qS, .inl (cI, n, .inl cS)), (oT, .inr (0, [.ref pT, .ref qT])), (pT, .inl (cJ, n, .inr (.inl fT))), (qT, .inl (cI, n, .inl cT)), (oj, .inr (2, [.ref pf, .ref pt, .ref pv, .ref pz, .int (nI u)])), (pf, .inl (cI, J, .inl fr)), (pt, .inl (cI, J, .inl to)), (pv, .inl (cJ, J, .inr (.inl va))), (pz, .inl (cZ, J, .inl fi)), (od, .inr (1, [.int wr, .int lf]))] "java/lang/IllegalStateException" := by
  refine pt_of (by decide) rfl (Nat.le_of_ble_eq_true rfl) ?_
  intro p e s m below meth c A ls hx hb hml hno hts hown hlocks hA hK hP hD hS hG hl
  have hl : lv_has ls 1 [(0, .ref o0)] := hl
  refine lv_aload_n hx hb dR_requireGroup_0 rfl (lv_at hl 0 rfl) ?_
  refine va_get (D := D) (ci := 3) (v := .int gs) (C := "ReplayJournal") (T := TR) (N := 7) hx hb hts (pj_ups inR) hown hK hP 0 rfl rfl 5 (by decide) (hts _ (pj_up m_100)) (fun _ h9 => h9) rfl dR_requireGroup_1 ?_
  refine lv_iconst (v := -1) hx hb dR_requireGroup_4 (by decide) ?_
  refine lv_icmp_ne (tgt := 18) hx hb dR_requireGroup_5 (by decide) (fun h9 => absurd h9 (fun z => z h)) (fun _ => ?_)
  obtain ⟨qtx, hqtx⟩ := hG.1 (177, "there is no group") (by decide)
  exact pt_throw (X := "java/lang/IllegalStateException") (own := "ReplayJournal") (names := pt_up) (ia := 172) (is := 177) (ic := 176) hx hb hml hl.1 htr hown (by decide +kernel) (by decide +kernel) (pt_atoms hts hG pt_inS) (hts _ (pj_up m_248)) (hts _ (pj_up m_29)) hqtx dR_requireGroup_8 dR_requireGroup_11 dR_requireGroup_12 dR_requireGroup_14 dR_requireGroup_17 hno hlocks (Nat.le_of_ble_eq_true rfl) (Nat.le_of_ble_eq_true rfl) (Nat.le_of_ble_eq_true rfl) (Nat.le_of_ble_eq_true rfl)
set_option maxHeartbeats 4000000 in
set_option maxRecDepth 100000 in
theorem c_rN (l : Launch) (D : va_G) (cI cJ cZ : ClassId) (o0 oL pL qL oS pS qS oT pT qT oj pf pt pv pz od n J u : Nat) (fL fS fT va : Nat → Int64) (cL cS cT fr to fi : Nat → Int32) (wr lf gs sm : Int32) (hn : n < 2 ^ 31) (hJ : J < 2 ^ 31) (hu : u ≤ J) (h : gs = -1) : pp_Met l yR_requireNoGroup wsR_requireNoGroup ({ frames := 6, cells := 0, slots := 0, locals := 82 }) D vwCl (pjT cI cJ cZ) pj_no [.ref o0] [(o0, .inr (3, [.ref oL, .ref oS, .ref oT, .ref oj, .ref od, .int gs, .int sm])), (oL, .inr (0, [.ref pL, .ref qL])), (pL, .inl (cJ, n, .inr (.inl fL))), (qL, .inl (cI, n, .inl cL)), (oS, .inr (0, [.ref pS, .ref qS])), (pS, .inl (cJ, n, .inr (.inl fS))), (qS, .inl (cI, n, .inl cS)), (oT, .inr (0, [.ref pT, .ref qT])), (pT, .inl (cJ, n, .inr (.inl fT))), (qT, .inl (cI, n, .inl cT)), (oj, .inr (2, [.ref pf, .ref pt, .ref pv, .ref pz, .int (nI u)])), (pf, .inl (cI, J, .inl fr)), (pt, .inl (cI, J, .inl to)), (pv, .inl (cJ, J, .inr (.inl va))), (pz, .inl (cZ, J, .inl fi)), (od, .inr (1, [.int wr, .int lf]))] none := by
  refine pp_of (by decide) rfl (Nat.le_of_ble_eq_true rfl) ?_
  intro p e s m below meth c A ls hx hb hml hr hts hown hlocks hA hK hP hD hS hG hl
  have hl : lv_has ls 1 [(0, .ref o0)] := hl
  refine lv_aload_n hx hb dR_requireNoGroup_0 rfl (lv_at hl 0 rfl) ?_
  refine va_get (D := D) (ci := 3) (v := .int gs) (C := "ReplayJournal") (T := TR) (N := 7) hx hb hts (pj_ups inR) hown hK hP 0 rfl rfl 5 (by decide) (hts _ (pj_up m_100)) (fun _ h9 => h9) rfl dR_requireNoGroup_1 ?_
  refine lv_iconst (v := -1) hx hb dR_requireNoGroup_4 (by decide) ?_
  refine lv_icmp_eq (tgt := 18) hx hb dR_requireNoGroup_5 (by decide) (fun _ => ?_) (fun h9 => (h9 h).elim)
  exact pp_vret hx hb hr hlocks dR_requireNoGroup_18
set_option maxHeartbeats 4000000 in
set_option maxRecDepth 100000 in
theorem t_rN (l : Launch) (D : va_G) (cI cJ cZ : ClassId) (o0 oL pL qL oS pS qS oT pT qT oj pf pt pv pz od n J u : Nat) (fL fS fT va : Nat → Int64) (cL cS cT fr to fi : Nat → Int32) (wr lf gs sm : Int32) (hn : n < 2 ^ 31) (hJ : J < 2 ^ 31) (hu : u ≤ J) (h : ¬ gs = -1) (htr : l.stackTraces = false) : pt_X l yR_requireNoGroup wsR_requireNoGroup ({ frames := 6, cells := 1, slots := 6, locals := 82 }) D vwCl (pjT cI cJ cZ) pt_G [.ref o0] [(o0, .inr (3, [.ref oL, .ref oS, .ref oT, .ref oj, .ref od, .int gs, .int sm])), (oL, .inr (0, [.ref pL, .ref qL])), (pL, .inl (cJ, n, .inr (.inl fL))), (qL, .inl (cI, n, .inl cL)), (oS, .inr (0, [.ref pS, .ref qS])), (pS, .inl (cJ, n, .inr (.inl fS))), (qS, .inl (cI, n, .inl cS)), (oT, .inr (0, [.ref pT, .ref qT])), (pT, .inl (cJ, n, .inr (.inl fT))), (qT, .inl (cI, n, .inl cT)), (oj, .inr (2, [.ref pf, .ref pt, .ref pv, .ref pz, .int (nI u)])), (pf, .inl (cI, J, .inl fr)), (pt, .inl (cI, J, .inl to)), (pv, .inl (cJ, J, .inr (.inl va))), (pz, .inl (cZ, J, .inl fi)), (od, .inr (1, [.int wr, .int lf]))] "java/lang/IllegalStateException" := by
  refine pt_of (by decide) rfl (Nat.le_of_ble_eq_true rfl) ?_
  intro p e s m below meth c A ls hx hb hml hno hts hown hlocks hA hK hP hD hS hG hl
  have hl : lv_has ls 1 [(0, .ref o0)] := hl
  refine lv_aload_n hx hb dR_requireNoGroup_0 rfl (lv_at hl 0 rfl) ?_
  refine va_get (D := D) (ci := 3) (v := .int gs) (C := "ReplayJournal") (T := TR) (N := 7) hx hb hts (pj_ups inR) hown hK hP 0 rfl rfl 5 (by decide) (hts _ (pj_up m_100)) (fun _ h9 => h9) rfl dR_requireNoGroup_1 ?_
  refine lv_iconst (v := -1) hx hb dR_requireNoGroup_4 (by decide) ?_
  refine lv_icmp_eq (tgt := 18) hx hb dR_requireNoGroup_5 (by decide) (fun h9 => absurd h9 h) (fun _ => ?_)
  obtain ⟨qtx, hqtx⟩ := hG.1 (179, "there is a group") (by decide)
  exact pt_throw (X := "java/lang/IllegalStateException") (own := "ReplayJournal") (names := pt_up) (ia := 172) (is := 179) (ic := 176) hx hb hml hl.1 htr hown (by decide +kernel) (by decide +kernel) (pt_atoms hts hG pt_inS) (hts _ (pj_up m_248)) (hts _ (pj_up m_29)) hqtx dR_requireNoGroup_8 dR_requireNoGroup_11 dR_requireNoGroup_12 dR_requireNoGroup_14 dR_requireNoGroup_17 hno hlocks (Nat.le_of_ble_eq_true rfl) (Nat.le_of_ble_eq_true rfl) (Nat.le_of_ble_eq_true rfl) (Nat.le_of_ble_eq_true rfl)
end
section
set_option maxHeartbeats 4000000 in
set_option maxRecDepth 100000 in
theorem c_cn_poor (l : Launch) (D : va_G) (cI cJ cZ : ClassId) (o0 oL pL qL oS pS qS oT pT qT oj pf pt pv pz od n J u : Nat) (fL fS fT va : Nat → Int64) (cL cS cT fr to fi : Nat → Int32) (wr lf gs sm : Int32) (hn : n < 2 ^ 31) (hJ : J < 2 ^ 31) (hu : u ≤ J) (x y : Int32) (v : Int64) (h : pjO n fL x y v) : pj_Met l yR_changeNow wsR_changeNow ({ frames := 3, cells := 0, slots := 0, locals := 68 }) D vwCl (pjT cI cJ cZ) pj_no [.ref o0, .int x, .int y, .long v] [(o0, .inr (3, [.ref oL, .ref oS, .ref oT, .ref oj, .ref od, .int gs, .int sm])), (oL, .inr (0, [.ref pL, .ref qL])), (pL, .inl (cJ, n, .inr (.inl fL))), (qL, .inl (cI, n, .inl cL)), (oS, .inr (0, [.ref pS, .ref qS])), (pS, .inl (cJ, n, .inr (.inl fS))), (qS, .inl (cI, n, .inl cS)), (oT, .inr (0, [.ref pT, .ref qT])), (pT, .inl (cJ, n, .inr (.inl fT))), (qT, .inl (cI, n, .inl cT)), (oj, .inr (2, [.ref pf, .ref pt, .ref pv, .ref pz, .int (nI u)])), (pf, .inl (cI, J, .inl fr)), (pt, .inl (cI, J, .inl to)), (pv, .inl (cJ, J, .inr (.inl va))), (pz, .inl (cZ, J, .inl fi)), (od, .inr (1, [.int wr, .int lf]))] (some (.int (-4))) [(o0, .inr (3, [.ref oL, .ref oS, .ref oT, .ref oj, .ref od, .int gs, .int sm])), (oL, .inr (0, [.ref pL, .ref qL])), (pL, .inl (cJ, n, .inr (.inl fL))), (qL, .inl (cI, n, .inl cL)), (oS, .inr (0, [.ref pS, .ref qS])), (pS, .inl (cJ, n, .inr (.inl fS))), (qS, .inl (cI, n, .inl cS)), (oT, .inr (0, [.ref pT, .ref qT])), (pT, .inl (cJ, n, .inr (.inl fT))), (qT, .inl (cI, n, .inl cT)), (oj, .inr (2, [.ref pf, .ref pt, .ref pv, .ref pz, .int (nI u)])), (pf, .inl (cI, J, .inl fr)), (pt, .inl (cI, J, .inl to)), (pv, .inl (cJ, J, .inr (.inl va))), (pz, .inl (cZ, J, .inl fi)), (od, .inr (1, [.int wr, .int lf]))] 0 0 := by
  refine pj_of (by decide) rfl (Nat.le_of_ble_eq_true rfl) ?_
  intro p e s m below meth c A ls hx hb hml hr hts hown hlocks hin hA hK hP hD hS hG hl
  have hl : lv_has ls 5 [(0, .ref o0), (1, .int x), (2, .int y), (3, .long v)] := hl
  refine lv_aload_n hx hb dR_changeNow_0 rfl (lv_at hl 0 rfl) ?_
  refine va_get (D := D) (ci := 3) (v := .ref oL) (C := "ReplayJournal") (T := TR) (N := 7) hx hb hts (pj_ups inR) hown hK hP 0 rfl rfl 0 (by decide) (hts _ (pj_up m_95)) (fun _ h9 => h9) rfl dR_changeNow_1 ?_
  refine lv_iload_n hx hb dR_changeNow_4 rfl (lv_at hl 1 rfl) ?_
  refine lv_iload_n hx hb dR_changeNow_5 rfl (lv_at hl 2 rfl) ?_
  refine lv_lload_n hx hb dR_changeNow_6 rfl (lv_at hl 3 rfl) ?_
  refine pp_callV (rest := []) (st1 := [.int 1]) ⟨hx, hb, hml, hown, hts⟩ (c_over_t l D cI cJ cZ oL pL qL n fL cL hn x y v h) (cwV 3 hts (pj_gV m_272 m_273 m_274 m_21 m_275) rfl rfl rfl (by decide +kernel) ⟨Nat.le_of_ble_eq_true rfl, Nat.le_of_ble_eq_true rfl⟩) pj_no_ok trivial hK hP hD hS hA (ci := 0) (q0 := 0) rfl rfl [1, 2, 3] rfl rfl rfl hl.1 rfl (Nat.le_of_ble_eq_true rfl) dR_changeNow_7 ⟨Nat.le_of_ble_eq_true rfl, Nat.le_of_ble_eq_true rfl⟩ rfl ?_
  refine lv_if_eq (tgt := 16) hx hb dR_changeNow_10 (by decide) (fun h9 => absurd h9 (by decide)) (fun _ => ?_)
  refine lv_bipush (v := (-4)) hx hb dR_changeNow_13 (by decide) ?_
  exact pj_iret hx hb hr hlocks hP hD hS (rfl) (rfl) dR_changeNow_15
set_option maxHeartbeats 4000000 in
set_option maxRecDepth 100000 in
theorem c_cn_full (l : Launch) (D : va_G) (cI cJ cZ : ClassId) (o0 oL pL qL oS pS qS oT pT qT oj pf pt pv pz od n J u : Nat) (fL fS fT va : Nat → Int64) (cL cS cT fr to fi : Nat → Int32) (wr lf gs sm : Int32) (hn : n < 2 ^ 31) (hJ : J < 2 ^ 31) (hu : u ≤ J) (x y : Int32) (v : Int64) (h : ¬ pjO n fL x y v) (h2 : J ≤ u) : pj_Met l yR_changeNow wsR_changeNow ({ frames := 3, cells := 0, slots := 0, locals := 68 }) D vwCl (pjT cI cJ cZ) pj_no [.ref o0, .int x, .int y, .long v] [(o0, .inr (3, [.ref oL, .ref oS, .ref oT, .ref oj, .ref od, .int gs, .int sm])), (oL, .inr (0, [.ref pL, .ref qL])), (pL, .inl (cJ, n, .inr (.inl fL))), (qL, .inl (cI, n, .inl cL)), (oS, .inr (0, [.ref pS, .ref qS])), (pS, .inl (cJ, n, .inr (.inl fS))), (qS, .inl (cI, n, .inl cS)), (oT, .inr (0, [.ref pT, .ref qT])), (pT, .inl (cJ, n, .inr (.inl fT))), (qT, .inl (cI, n, .inl cT)), (oj, .inr (2, [.ref pf, .ref pt, .ref pv, .ref pz, .int (nI u)])), (pf, .inl (cI, J, .inl fr)), (pt, .inl (cI, J, .inl to)), (pv, .inl (cJ, J, .inr (.inl va))), (pz, .inl (cZ, J, .inl fi)), (od, .inr (1, [.int wr, .int lf]))] (some (.int (-2))) [(o0, .inr (3, [.ref oL, .ref oS, .ref oT, .ref oj, .ref od, .int gs, .int sm])), (oL, .inr (0, [.ref pL, .ref qL])), (pL, .inl (cJ, n, .inr (.inl fL))), (qL, .inl (cI, n, .inl cL)), (oS, .inr (0, [.ref pS, .ref qS])), (pS, .inl (cJ, n, .inr (.inl fS))), (qS, .inl (cI, n, .inl cS)), (oT, .inr (0, [.ref pT, .ref qT])), (pT, .inl (cJ, n, .inr (.inl fT))), (qT, .inl (cI, n, .inl cT)), (oj, .inr (2, [.ref pf, .ref pt, .ref pv, .ref pz, .int (nI u)])), (pf, .inl (cI, J, .inl fr)), (pt, .inl (cI, J, .inl to)), (pv, .inl (cJ, J, .inr (.inl va))), (pz, .inl (cZ, J, .inl fi)), (od, .inr (1, [.int wr, .int lf]))] 0 0 := by
  refine pj_of (by decide) rfl (Nat.le_of_ble_eq_true rfl) ?_
  intro p e s m below meth c A ls hx hb hml hr hts hown hlocks hin hA hK hP hD hS hG hl
  have hl : lv_has ls 5 [(0, .ref o0), (1, .int x), (2, .int y), (3, .long v)] := hl
  refine lv_aload_n hx hb dR_changeNow_0 rfl (lv_at hl 0 rfl) ?_
  refine va_get (D := D) (ci := 3) (v := .ref oL) (C := "ReplayJournal") (T := TR) (N := 7) hx hb hts (pj_ups inR) hown hK hP 0 rfl rfl 0 (by decide) (hts _ (pj_up m_95)) (fun _ h9 => h9) rfl dR_changeNow_1 ?_
  refine lv_iload_n hx hb dR_changeNow_4 rfl (lv_at hl 1 rfl) ?_
  refine lv_iload_n hx hb dR_changeNow_5 rfl (lv_at hl 2 rfl) ?_
  refine lv_lload_n hx hb dR_changeNow_6 rfl (lv_at hl 3 rfl) ?_
  refine pp_callV (rest := []) (st1 := [.int 0]) ⟨hx, hb, hml, hown, hts⟩ (c_over_f l D cI cJ cZ oL pL qL n fL cL hn x y v h) (cwV 3 hts (pj_gV m_272 m_273 m_274 m_21 m_275) rfl rfl rfl (by decide +kernel) ⟨Nat.le_of_ble_eq_true rfl, Nat.le_of_ble_eq_true rfl⟩) pj_no_ok trivial hK hP hD hS hA (ci := 0) (q0 := 0) rfl rfl [1, 2, 3] rfl rfl rfl hl.1 rfl (Nat.le_of_ble_eq_true rfl) dR_changeNow_7 ⟨Nat.le_of_ble_eq_true rfl, Nat.le_of_ble_eq_true rfl⟩ rfl ?_
  refine lv_if_eq (tgt := 16) hx hb dR_changeNow_10 (by decide) (fun _ => ?_) (fun h9 => (h9 rfl).elim)
  refine lv_aload_n hx hb dR_changeNow_16 rfl (lv_at hl 0 rfl) ?_
  refine va_get (D := D) (ci := 3) (v := .ref oj) (C := "ReplayJournal") (T := TR) (N := 7) hx hb hts (pj_ups inR) hown hK hP 0 rfl rfl 3 (by decide) (hts _ (pj_up m_98)) (fun _ h9 => h9) rfl dR_changeNow_17 ?_
  refine lv_iload_n hx hb dR_changeNow_20 rfl (lv_at hl 1 rfl) ?_
  refine lv_iload_n hx hb dR_changeNow_21 rfl (lv_at hl 2 rfl) ?_
  refine lv_lload_n hx hb dR_changeNow_22 rfl (lv_at hl 3 rfl) ?_
  refine lv_iconst (v := 1) hx hb dR_changeNow_23 (by decide) ?_
  refine pp_callV (rest := []) (st1 := [.int 0]) ⟨hx, hb, hml, hown, hts⟩ (c_wc_full l D cI cJ cZ oj pf pt pv pz J u fr to fi va hJ hu x y v 1 h2) (cwV 4 hts (pj_gV m_276 m_277 m_278 m_22 m_279) rfl rfl rfl (by decide +kernel) ⟨Nat.le_of_ble_eq_true rfl, Nat.le_of_ble_eq_true rfl⟩) pj_no_ok trivial hK hP hD hS hA (ci := 2) (q0 := 0) rfl rfl [10, 11, 12, 13, 14] rfl rfl rfl hl.1 rfl (Nat.le_of_ble_eq_true rfl) dR_changeNow_24 ⟨Nat.le_of_ble_eq_true rfl, Nat.le_of_ble_eq_true rfl⟩ rfl ?_
  refine lv_if_ne (tgt := 33) hx hb dR_changeNow_27 (by decide) (fun h9 => absurd h9 (fun z => z rfl)) (fun _ => ?_)
  refine lv_bipush (v := (-2)) hx hb dR_changeNow_30 (by decide) ?_
  exact pj_iret hx hb hr hlocks hP hD hS (rfl) (rfl) dR_changeNow_32
set_option maxHeartbeats 4000000 in
set_option maxRecDepth 100000 in
theorem c_cn_ok (l : Launch) (D : va_G) (cI cJ cZ : ClassId) (o0 oL pL qL oS pS qS oT pT qT oj pf pt pv pz od n J u : Nat) (fL fS fT va : Nat → Int64) (cL cS cT fr to fi : Nat → Int32) (wr lf gs sm : Int32) (hn : n < 2 ^ 31) (hJ : J < 2 ^ 31) (hu : u ≤ J) (x y : Int32) (v : Int64) (h : ¬ pjO n fL x y v) (h2 : u < J) : pj_Met l yR_changeNow wsR_changeNow ({ frames := 3, cells := 0, slots := 0, locals := 68 }) D vwCl (pjT cI cJ cZ) pj_no [.ref o0, .int x, .int y, .long v] [(o0, .inr (3, [.ref oL, .ref oS, .ref oT, .ref oj, .ref od, .int gs, .int sm])), (oL, .inr (0, [.ref pL, .ref qL])), (pL, .inl (cJ, n, .inr (.inl fL))), (qL, .inl (cI, n, .inl cL)), (oS, .inr (0, [.ref pS, .ref qS])), (pS, .inl (cJ, n, .inr (.inl fS))), (qS, .inl (cI, n, .inl cS)), (oT, .inr (0, [.ref pT, .ref qT])), (pT, .inl (cJ, n, .inr (.inl fT))), (qT, .inl (cI, n, .inl cT)), (oj, .inr (2, [.ref pf, .ref pt, .ref pv, .ref pz, .int (nI u)])), (pf, .inl (cI, J, .inl fr)), (pt, .inl (cI, J, .inl to)), (pv, .inl (cJ, J, .inr (.inl va))), (pz, .inl (cZ, J, .inl fi)), (od, .inr (1, [.int wr, .int lf]))] (some (.int (if pjL lf = 0 then -3 else 1))) [(o0, .inr (3, [.ref oL, .ref oS, .ref oT, .ref oj, .ref od, .int gs, .int sm])), (oL, .inr (0, [.ref pL, .ref qL])), (pL, .inl (cJ, n, .inr (.inl (pj2 n fL x y v)))), (qL, .inl (cI, n, .inl (pj2c n cL x y))), (oS, .inr (0, [.ref pS, .ref qS])), (pS, .inl (cJ, n, .inr (.inl fS))), (qS, .inl (cI, n, .inl cS)), (oT, .inr (0, [.ref pT, .ref qT])), (pT, .inl (cJ, n, .inr (.inl fT))), (qT, .inl (cI, n, .inl cT)), (oj, .inr (2, [.ref pf, .ref pt, .ref pv, .ref pz, .int (nI (u + 1))])), (pf, .inl (cI, J, .inl (upd fr u x))), (pt, .inl (cI, J, .inl (upd to u y))), (pv, .inl (cJ, J, .inr (.inl (vp_updL va u v)))), (pz, .inl (cZ, J, .inl (upd fi u 1))), (od, .inr (1, [.int (wr + 1), .int (pjL lf)]))] 0 0 := by
  refine pj_of (by decide) rfl (Nat.le_of_ble_eq_true rfl) ?_
  intro p e s m below meth c A ls hx hb hml hr hts hown hlocks hin hA hK hP hD hS hG hl
  have hl : lv_has ls 5 [(0, .ref o0), (1, .int x), (2, .int y), (3, .long v)] := hl
  refine lv_aload_n hx hb dR_changeNow_0 rfl (lv_at hl 0 rfl) ?_
  refine va_get (D := D) (ci := 3) (v := .ref oL) (C := "ReplayJournal") (T := TR) (N := 7) hx hb hts (pj_ups inR) hown hK hP 0 rfl rfl 0 (by decide) (hts _ (pj_up m_95)) (fun _ h9 => h9) rfl dR_changeNow_1 ?_
  refine lv_iload_n hx hb dR_changeNow_4 rfl (lv_at hl 1 rfl) ?_
  refine lv_iload_n hx hb dR_changeNow_5 rfl (lv_at hl 2 rfl) ?_
  refine lv_lload_n hx hb dR_changeNow_6 rfl (lv_at hl 3 rfl) ?_
  refine pp_callV (rest := []) (st1 := [.int 0]) ⟨hx, hb, hml, hown, hts⟩ (c_over_f l D cI cJ cZ oL pL qL n fL cL hn x y v h) (cwV 3 hts (pj_gV m_272 m_273 m_274 m_21 m_275) rfl rfl rfl (by decide +kernel) ⟨Nat.le_of_ble_eq_true rfl, Nat.le_of_ble_eq_true rfl⟩) pj_no_ok trivial hK hP hD hS hA (ci := 0) (q0 := 0) rfl rfl [1, 2, 3] rfl rfl rfl hl.1 rfl (Nat.le_of_ble_eq_true rfl) dR_changeNow_7 ⟨Nat.le_of_ble_eq_true rfl, Nat.le_of_ble_eq_true rfl⟩ rfl ?_
  refine lv_if_eq (tgt := 16) hx hb dR_changeNow_10 (by decide) (fun _ => ?_) (fun h9 => (h9 rfl).elim)
  refine lv_aload_n hx hb dR_changeNow_16 rfl (lv_at hl 0 rfl) ?_
  refine va_get (D := D) (ci := 3) (v := .ref oj) (C := "ReplayJournal") (T := TR) (N := 7) hx hb hts (pj_ups inR) hown hK hP 0 rfl rfl 3 (by decide) (hts _ (pj_up m_98)) (fun _ h9 => h9) rfl dR_changeNow_17 ?_
  refine lv_iload_n hx hb dR_changeNow_20 rfl (lv_at hl 1 rfl) ?_
  refine lv_iload_n hx hb dR_changeNow_21 rfl (lv_at hl 2 rfl) ?_
  refine lv_lload_n hx hb dR_changeNow_22 rfl (lv_at hl 3 rfl) ?_
  refine lv_iconst (v := 1) hx hb dR_changeNow_23 (by decide) ?_
  refine pj_callV (w2 := [(o0, .inr (3, [.ref oL, .ref oS, .ref oT, .ref oj, .ref od, .int gs, .int sm])), (oL, .inr (0, [.ref pL, .ref qL])), (pL, .inl (cJ, n, .inr (.inl fL))), (qL, .inl (cI, n, .inl cL)), (oS, .inr (0, [.ref pS, .ref qS])), (pS, .inl (cJ, n, .inr (.inl fS))), (qS, .inl (cI, n, .inl cS)), (oT, .inr (0, [.ref pT, .ref qT])), (pT, .inl (cJ, n, .inr (.inl fT))), (qT, .inl (cI, n, .inl cT)), (oj, .inr (2, [.ref pf, .ref pt, .ref pv, .ref pz, .int (nI (u + 1))])), (pf, .inl (cI, J, .inl (upd fr u x))), (pt, .inl (cI, J, .inl (upd to u y))), (pv, .inl (cJ, J, .inr (.inl (vp_updL va u v)))), (pz, .inl (cZ, J, .inl (upd fi u 1))), (od, .inr (1, [.int wr, .int lf]))]) (wr := [(o0, .inr (3, [.ref oL, .ref oS, .ref oT, .ref oj, .ref od, .int gs, .int sm])), (oL, .inr (0, [.ref pL, .ref qL])), (pL, .inl (cJ, n, .inr (.inl fL))), (qL, .inl (cI, n, .inl cL)), (oS, .inr (0, [.ref pS, .ref qS])), (pS, .inl (cJ, n, .inr (.inl fS))), (qS, .inl (cI, n, .inl cS)), (oT, .inr (0, [.ref pT, .ref qT])), (pT, .inl (cJ, n, .inr (.inl fT))), (qT, .inl (cI, n, .inl cT)), (od, .inr (1, [.int wr, .int lf]))]) (rest := []) (st1 := [.int 1]) ⟨hx, hb, hml, hown, hts⟩ (c_wc_ok l D cI cJ cZ oj pf pt pv pz J u fr to fi va hJ hu x y v 1 h2 (by decide)) (cwV 4 hts (pj_gV m_276 m_277 m_278 m_22 m_279) rfl rfl rfl (by decide +kernel) ⟨Nat.le_of_ble_eq_true rfl, Nat.le_of_ble_eq_true rfl⟩) pj_no_ok trivial hK hP hD hS hA (ci := 2) (q0 := 0) rfl rfl [10, 11, 12, 13, 14] [0, 1, 2, 3, 4, 5, 6, 7, 8, 9, 15] [0, 1, 2, 3, 4, 5, 6, 7, 8, 9, 11, 12, 13, 14, 15, 10] rfl rfl rfl rfl (by decide) rfl rfl rfl hl.1 rfl (Nat.le_of_ble_eq_true rfl) dR_changeNow_24 ⟨Nat.le_of_ble_eq_true rfl, Nat.le_of_ble_eq_true rfl⟩ rfl rfl rfl (fun H locs hP hD hS => ?_)
  refine lv_if_ne (tgt := 33) hx hb dR_changeNow_27 (by decide) (fun _ => ?_) (fun h9 => absurd h9 (by decide))
  refine lv_aload_n hx hb dR_changeNow_33 rfl (lv_at hl 0 rfl) ?_
  refine va_get (D := D) (ci := 3) (v := .ref od) (C := "ReplayJournal") (T := TR) (N := 7) hx hb hts (pj_ups inR) hown hK hP 0 rfl rfl 4 (by decide) (hts _ (pj_up m_99)) (fun _ h9 => h9) rfl dR_changeNow_34 ?_
  refine pj_callV (w2 := [(o0, .inr (3, [.ref oL, .ref oS, .ref oT, .ref oj, .ref od, .int gs, .int sm])), (oL, .inr (0, [.ref pL, .ref qL])), (pL, .inl (cJ, n, .inr (.inl fL))), (qL, .inl (cI, n, .inl cL)), (oS, .inr (0, [.ref pS, .ref qS])), (pS, .inl (cJ, n, .inr (.inl fS))), (qS, .inl (cI, n, .inl cS)), (oT, .inr (0, [.ref pT, .ref qT])), (pT, .inl (cJ, n, .inr (.inl fT))), (qT, .inl (cI, n, .inl cT)), (oj, .inr (2, [.ref pf, .ref pt, .ref pv, .ref pz, .int (nI (u + 1))])), (pf, .inl (cI, J, .inl (upd fr u x))), (pt, .inl (cI, J, .inl (upd to u y))), (pv, .inl (cJ, J, .inr (.inl (vp_updL va u v)))), (pz, .inl (cZ, J, .inl (upd fi u 1))), (od, .inr (1, [.int (wr + 1), .int (pjL lf)]))]) (wr := [(o0, .inr (3, [.ref oL, .ref oS, .ref oT, .ref oj, .ref od, .int gs, .int sm])), (oL, .inr (0, [.ref pL, .ref qL])), (pL, .inl (cJ, n, .inr (.inl fL))), (qL, .inl (cI, n, .inl cL)), (oS, .inr (0, [.ref pS, .ref qS])), (pS, .inl (cJ, n, .inr (.inl fS))), (qS, .inl (cI, n, .inl cS)), (oT, .inr (0, [.ref pT, .ref qT])), (pT, .inl (cJ, n, .inr (.inl fT))), (qT, .inl (cI, n, .inl cT)), (oj, .inr (2, [.ref pf, .ref pt, .ref pv, .ref pz, .int (nI (u + 1))])), (pf, .inl (cI, J, .inl (upd fr u x))), (pt, .inl (cI, J, .inl (upd to u y))), (pv, .inl (cJ, J, .inr (.inl (vp_updL va u v)))), (pz, .inl (cZ, J, .inl (upd fi u 1)))]) (rest := []) (st1 := []) ⟨hx, hb, hml, hown, hts⟩ (c_block l D cI cJ cZ od wr lf) (cwV 0 hts (pj_gV m_280 m_281 m_282 m_23 m_283) rfl rfl rfl (by decide +kernel) ⟨Nat.le_of_ble_eq_true rfl, Nat.le_of_ble_eq_true rfl⟩) pj_no_ok trivial hK hP hD hS hA (ci := 1) (q0 := 0) rfl rfl [15] [0, 1, 2, 3, 4, 5, 6, 7, 8, 9, 10, 11, 12, 13, 14] [0, 1, 2, 3, 4, 5, 6, 7, 8, 9, 10, 11, 12, 13, 14, 15] rfl rfl rfl rfl (by decide) rfl rfl rfl hl.1 rfl (Nat.le_of_ble_eq_true rfl) dR_changeNow_37 ⟨Nat.le_of_ble_eq_true rfl, Nat.le_of_ble_eq_true rfl⟩ rfl rfl rfl (fun H locs hP hD hS => ?_)
  refine lv_aload_n hx hb dR_changeNow_40 rfl (lv_at hl 0 rfl) ?_
  refine va_get (D := D) (ci := 3) (v := .ref oL) (C := "ReplayJournal") (T := TR) (N := 7) hx hb hts (pj_ups inR) hown hK hP 0 rfl rfl 0 (by decide) (hts _ (pj_up m_95)) (fun _ h9 => h9) rfl dR_changeNow_41 ?_
  refine lv_iload_n hx hb dR_changeNow_44 rfl (lv_at hl 1 rfl) ?_
  refine lv_iload_n hx hb dR_changeNow_45 rfl (lv_at hl 2 rfl) ?_
  refine lv_lload_n hx hb dR_changeNow_46 rfl (lv_at hl 3 rfl) ?_
  refine pj_callV (w2 := [(o0, .inr (3, [.ref oL, .ref oS, .ref oT, .ref oj, .ref od, .int gs, .int sm])), (oL, .inr (0, [.ref pL, .ref qL])), (pL, .inl (cJ, n, .inr (.inl (pj2 n fL x y v)))), (qL, .inl (cI, n, .inl (pj2c n cL x y))), (oS, .inr (0, [.ref pS, .ref qS])), (pS, .inl (cJ, n, .inr (.inl fS))), (qS, .inl (cI, n, .inl cS)), (oT, .inr (0, [.ref pT, .ref qT])), (pT, .inl (cJ, n, .inr (.inl fT))), (qT, .inl (cI, n, .inl cT)), (oj, .inr (2, [.ref pf, .ref pt, .ref pv, .ref pz, .int (nI (u + 1))])), (pf, .inl (cI, J, .inl (upd fr u x))), (pt, .inl (cI, J, .inl (upd to u y))), (pv, .inl (cJ, J, .inr (.inl (vp_updL va u v)))), (pz, .inl (cZ, J, .inl (upd fi u 1))), (od, .inr (1, [.int (wr + 1), .int (pjL lf)]))]) (wr := [(o0, .inr (3, [.ref oL, .ref oS, .ref oT, .ref oj, .ref od, .int gs, .int sm])), (oS, .inr (0, [.ref pS, .ref qS])), (pS, .inl (cJ, n, .inr (.inl fS))), (qS, .inl (cI, n, .inl cS)), (oT, .inr (0, [.ref pT, .ref qT])), (pT, .inl (cJ, n, .inr (.inl fT))), (qT, .inl (cI, n, .inl cT)), (oj, .inr (2, [.ref pf, .ref pt, .ref pv, .ref pz, .int (nI (u + 1))])), (pf, .inl (cI, J, .inl (upd fr u x))), (pt, .inl (cI, J, .inl (upd to u y))), (pv, .inl (cJ, J, .inr (.inl (vp_updL va u v)))), (pz, .inl (cZ, J, .inl (upd fi u 1))), (od, .inr (1, [.int (wr + 1), .int (pjL lf)]))]) (rest := []) (st1 := []) ⟨hx, hb, hml, hown, hts⟩ (c_apply l D cI cJ cZ oL pL qL n fL cL hn x y v) (cwV 3 hts (pj_gV m_284 m_135 m_136 m_21 m_137) rfl rfl rfl (by decide +kernel) ⟨Nat.le_of_ble_eq_true rfl, Nat.le_of_ble_eq_true rfl⟩) pj_no_ok trivial hK hP hD hS hA (ci := 0) (q0 := 0) rfl rfl [1, 2, 3] [0, 4, 5, 6, 7, 8, 9, 10, 11, 12, 13, 14, 15] [0, 13, 14, 15, 1, 2, 3, 4, 5, 6, 7, 8, 9, 10, 11, 12] rfl rfl rfl rfl (by decide) rfl rfl rfl hl.1 rfl (Nat.le_of_ble_eq_true rfl) dR_changeNow_47 ⟨Nat.le_of_ble_eq_true rfl, Nat.le_of_ble_eq_true rfl⟩ rfl rfl rfl (fun H locs hP hD hS => ?_)
  refine lv_aload_n hx hb dR_changeNow_50 rfl (lv_at hl 0 rfl) ?_
  refine va_get (D := D) (ci := 3) (v := .ref od) (C := "ReplayJournal") (T := TR) (N := 7) hx hb hts (pj_ups inR) hown hK hP 0 rfl rfl 4 (by decide) (hts _ (pj_up m_99)) (fun _ h9 => h9) rfl dR_changeNow_51 ?_
  by_cases hz : pjL lf = 0
  · refine pp_callV (rest := []) (st1 := [.int 1]) ⟨hx, hb, hml, hown, hts⟩ (c_off_t l D cI cJ cZ od (wr + 1) (pjL lf) hz) (cwV 0 hts (pj_gV m_150 m_151 m_152 m_23 m_153) rfl rfl rfl (by decide +kernel) ⟨Nat.le_of_ble_eq_true rfl, Nat.le_of_ble_eq_true rfl⟩) pj_no_ok trivial hK hP hD hS hA (ci := 1) (q0 := 0) rfl rfl [15] rfl rfl rfl hl.1 rfl (Nat.le_of_ble_eq_true rfl) dR_changeNow_54 ⟨Nat.le_of_ble_eq_true rfl, Nat.le_of_ble_eq_true rfl⟩ rfl ?_
    refine lv_if_eq (tgt := 65) hx hb dR_changeNow_57 (by decide) (fun h9 => absurd h9 (by decide)) (fun _ => ?_)
    refine lv_bipush (v := (-3)) hx hb dR_changeNow_60 (by decide) ?_
    refine lv_goto (tgt := 66) hx hb dR_changeNow_62 (by decide) ?_
    exact pj_iret hx hb hr hlocks hP hD hS ((if_pos hz).symm) (rfl) dR_changeNow_66
  · refine pp_callV (rest := []) (st1 := [.int 0]) ⟨hx, hb, hml, hown, hts⟩ (c_off_f l D cI cJ cZ od (wr + 1) (pjL lf) hz) (cwV 0 hts (pj_gV m_150 m_151 m_152 m_23 m_153) rfl rfl rfl (by decide +kernel) ⟨Nat.le_of_ble_eq_true rfl, Nat.le_of_ble_eq_true rfl⟩) pj_no_ok trivial hK hP hD hS hA (ci := 1) (q0 := 0) rfl rfl [15] rfl rfl rfl hl.1 rfl (Nat.le_of_ble_eq_true rfl) dR_changeNow_54 ⟨Nat.le_of_ble_eq_true rfl, Nat.le_of_ble_eq_true rfl⟩ rfl ?_
    refine lv_if_eq (tgt := 65) hx hb dR_changeNow_57 (by decide) (fun _ => ?_) (fun h9 => (h9 rfl).elim)
    refine lv_iconst (v := 1) hx hb dR_changeNow_65 (by decide) ?_
    exact pj_iret hx hb hr hlocks hP hD hS ((if_neg hz).symm) (rfl) dR_changeNow_66
set_option maxHeartbeats 4000000 in
set_option maxRecDepth 100000 in
theorem c_cg_full (l : Launch) (D : va_G) (cI cJ cZ : ClassId) (o0 oL pL qL oS pS qS oT pT qT oj pf pt pv pz od n J u : Nat) (fL fS fT va : Nat → Int64) (cL cS cT fr to fi : Nat → Int32) (wr lf gs sm : Int32) (hn : n < 2 ^ 31) (hJ : J < 2 ^ 31) (hu : u ≤ J) (x y : Int32) (v : Int64) (h2 : J ≤ u) : pj_Met l yR_changeInGroup wsR_changeInGroup ({ frames := 1, cells := 0, slots := 0, locals := 25 }) D vwCl (pjT cI cJ cZ) pj_no [.ref o0, .int x, .int y, .long v] [(o0, .inr (3, [.ref oL, .ref oS, .ref oT, .ref oj, .ref od, .int gs, .int sm])), (oL, .inr (0, [.ref pL, .ref qL])), (pL, .inl (cJ, n, .inr (.inl fL))), (qL, .inl (cI, n, .inl cL)), (oS, .inr (0, [.ref pS, .ref qS])), (pS, .inl (cJ, n, .inr (.inl fS))), (qS, .inl (cI, n, .inl cS)), (oT, .inr (0, [.ref pT, .ref qT])), (pT, .inl (cJ, n, .inr (.inl fT))), (qT, .inl (cI, n, .inl cT)), (oj, .inr (2, [.ref pf, .ref pt, .ref pv, .ref pz, .int (nI u)])), (pf, .inl (cI, J, .inl fr)), (pt, .inl (cI, J, .inl to)), (pv, .inl (cJ, J, .inr (.inl va))), (pz, .inl (cZ, J, .inl fi)), (od, .inr (1, [.int wr, .int lf]))] (some (.int (-2))) [(o0, .inr (3, [.ref oL, .ref oS, .ref oT, .ref oj, .ref od, .int gs, .int sm])), (oL, .inr (0, [.ref pL, .ref qL])), (pL, .inl (cJ, n, .inr (.inl fL))), (qL, .inl (cI, n, .inl cL)), (oS, .inr (0, [.ref pS, .ref qS])), (pS, .inl (cJ, n, .inr (.inl fS))), (qS, .inl (cI, n, .inl cS)), (oT, .inr (0, [.ref pT, .ref qT])), (pT, .inl (cJ, n, .inr (.inl fT))), (qT, .inl (cI, n, .inl cT)), (oj, .inr (2, [.ref pf, .ref pt, .ref pv, .ref pz, .int (nI u)])), (pf, .inl (cI, J, .inl fr)), (pt, .inl (cI, J, .inl to)), (pv, .inl (cJ, J, .inr (.inl va))), (pz, .inl (cZ, J, .inl fi)), (od, .inr (1, [.int wr, .int lf]))] 0 0 := by
  refine pj_of (by decide) rfl (Nat.le_of_ble_eq_true rfl) ?_
  intro p e s m below meth c A ls hx hb hml hr hts hown hlocks hin hA hK hP hD hS hG hl
  have hl : lv_has ls 5 [(0, .ref o0), (1, .int x), (2, .int y), (3, .long v)] := hl
  refine lv_aload_n hx hb dR_changeInGroup_0 rfl (lv_at hl 0 rfl) ?_
  refine va_get (D := D) (ci := 3) (v := .ref oj) (C := "ReplayJournal") (T := TR) (N := 7) hx hb hts (pj_ups inR) hown hK hP 0 rfl rfl 3 (by decide) (hts _ (pj_up m_98)) (fun _ h9 => h9) rfl dR_changeInGroup_1 ?_
  refine lv_iload_n hx hb dR_changeInGroup_4 rfl (lv_at hl 1 rfl) ?_
  refine lv_iload_n hx hb dR_changeInGroup_5 rfl (lv_at hl 2 rfl) ?_
  refine lv_lload_n hx hb dR_changeInGroup_6 rfl (lv_at hl 3 rfl) ?_
  refine lv_iconst (v := 0) hx hb dR_changeInGroup_7 (by decide) ?_
  refine pp_callV (rest := []) (st1 := [.int 0]) ⟨hx, hb, hml, hown, hts⟩ (c_wc_full l D cI cJ cZ oj pf pt pv pz J u fr to fi va hJ hu x y v 0 h2) (cwV 4 hts (pj_gV m_276 m_277 m_278 m_22 m_279) rfl rfl rfl (by decide +kernel) ⟨Nat.le_of_ble_eq_true rfl, Nat.le_of_ble_eq_true rfl⟩) pj_no_ok trivial hK hP hD hS hA (ci := 2) (q0 := 0) rfl rfl [10, 11, 12, 13, 14] rfl rfl rfl hl.1 rfl (Nat.le_of_ble_eq_true rfl) dR_changeInGroup_8 ⟨Nat.le_of_ble_eq_true rfl, Nat.le_of_ble_eq_true rfl⟩ rfl ?_
  refine lv_if_ne (tgt := 17) hx hb dR_changeInGroup_11 (by decide) (fun h9 => absurd h9 (fun z => z rfl)) (fun _ => ?_)
  refine lv_bipush (v := (-2)) hx hb dR_changeInGroup_14 (by decide) ?_
  exact pj_iret hx hb hr hlocks hP hD hS (rfl) (rfl) dR_changeInGroup_16
set_option maxHeartbeats 4000000 in
set_option maxRecDepth 100000 in
theorem c_cg_ok (l : Launch) (D : va_G) (cI cJ cZ : ClassId) (o0 oL pL qL oS pS qS oT pT qT oj pf pt pv pz od n J u : Nat) (fL fS fT va : Nat → Int64) (cL cS cT fr to fi : Nat → Int32) (wr lf gs sm : Int32) (hn : n < 2 ^ 31) (hJ : J < 2 ^ 31) (hu : u ≤ J) (x y : Int32) (v : Int64) (h2 : u < J) : pj_Met l yR_changeInGroup wsR_changeInGroup ({ frames := 1, cells := 0, slots := 0, locals := 25 }) D vwCl (pjT cI cJ cZ) pj_no [.ref o0, .int x, .int y, .long v] [(o0, .inr (3, [.ref oL, .ref oS, .ref oT, .ref oj, .ref od, .int gs, .int sm])), (oL, .inr (0, [.ref pL, .ref qL])), (pL, .inl (cJ, n, .inr (.inl fL))), (qL, .inl (cI, n, .inl cL)), (oS, .inr (0, [.ref pS, .ref qS])), (pS, .inl (cJ, n, .inr (.inl fS))), (qS, .inl (cI, n, .inl cS)), (oT, .inr (0, [.ref pT, .ref qT])), (pT, .inl (cJ, n, .inr (.inl fT))), (qT, .inl (cI, n, .inl cT)), (oj, .inr (2, [.ref pf, .ref pt, .ref pv, .ref pz, .int (nI u)])), (pf, .inl (cI, J, .inl fr)), (pt, .inl (cI, J, .inl to)), (pv, .inl (cJ, J, .inr (.inl va))), (pz, .inl (cZ, J, .inl fi)), (od, .inr (1, [.int wr, .int lf]))] (some (.int (if pjL lf = 0 then -3 else 0))) [(o0, .inr (3, [.ref oL, .ref oS, .ref oT, .ref oj, .ref od, .int (gs + 1), .int sm])), (oL, .inr (0, [.ref pL, .ref qL])), (pL, .inl (cJ, n, .inr (.inl fL))), (qL, .inl (cI, n, .inl cL)), (oS, .inr (0, [.ref pS, .ref qS])), (pS, .inl (cJ, n, .inr (.inl fS))), (qS, .inl (cI, n, .inl cS)), (oT, .inr (0, [.ref pT, .ref qT])), (pT, .inl (cJ, n, .inr (.inl fT))), (qT, .inl (cI, n, .inl cT)), (oj, .inr (2, [.ref pf, .ref pt, .ref pv, .ref pz, .int (nI (u + 1))])), (pf, .inl (cI, J, .inl (upd fr u x))), (pt, .inl (cI, J, .inl (upd to u y))), (pv, .inl (cJ, J, .inr (.inl (vp_updL va u v)))), (pz, .inl (cZ, J, .inl (upd fi u 0))), (od, .inr (1, [.int (wr + 1), .int (pjL lf)]))] 0 0 := by
  refine pj_of (by decide) rfl (Nat.le_of_ble_eq_true rfl) ?_
  intro p e s m below meth c A ls hx hb hml hr hts hown hlocks hin hA hK hP hD hS hG hl
  have hl : lv_has ls 5 [(0, .ref o0), (1, .int x), (2, .int y), (3, .long v)] := hl
  refine lv_aload_n hx hb dR_changeInGroup_0 rfl (lv_at hl 0 rfl) ?_
  refine va_get (D := D) (ci := 3) (v := .ref oj) (C := "ReplayJournal") (T := TR) (N := 7) hx hb hts (pj_ups inR) hown hK hP 0 rfl rfl 3 (by decide) (hts _ (pj_up m_98)) (fun _ h9 => h9) rfl dR_changeInGroup_1 ?_
  refine lv_iload_n hx hb dR_changeInGroup_4 rfl (lv_at hl 1 rfl) ?_
  refine lv_iload_n hx hb dR_changeInGroup_5 rfl (lv_at hl 2 rfl) ?_
  refine lv_lload_n hx hb dR_changeInGroup_6 rfl (lv_at hl 3 rfl) ?_
  refine lv_iconst (v := 0) hx hb dR_changeInGroup_7 (by decide) ?_
  refine pj_callV (w2 := [(o0, .inr (3, [.ref oL, .ref oS, .ref oT, .ref oj, .ref od, .int gs, .int sm])), (oL, .inr (0, [.ref pL, .ref qL])), (pL, .inl (cJ, n, .inr (.inl fL))), (qL, .inl (cI, n, .inl cL)), (oS, .inr (0, [.ref pS, .ref qS])), (pS, .inl (cJ, n, .inr (.inl fS))), (qS, .inl (cI, n, .inl cS)), (oT, .inr (0, [.ref pT, .ref qT])), (pT, .inl (cJ, n, .inr (.inl fT))), (qT, .inl (cI, n, .inl cT)), (oj, .inr (2, [.ref pf, .ref pt, .ref pv, .ref pz, .int (nI (u + 1))])), (pf, .inl (cI, J, .inl (upd fr u x))), (pt, .inl (cI, J, .inl (upd to u y))), (pv, .inl (cJ, J, .inr (.inl (vp_updL va u v)))), (pz, .inl (cZ, J, .inl (upd fi u 0))), (od, .inr (1, [.int wr, .int lf]))]) (wr := [(o0, .inr (3, [.ref oL, .ref oS, .ref oT, .ref oj, .ref od, .int gs, .int sm])), (oL, .inr (0, [.ref pL, .ref qL])), (pL, .inl (cJ, n, .inr (.inl fL))), (qL, .inl (cI, n, .inl cL)), (oS, .inr (0, [.ref pS, .ref qS])), (pS, .inl (cJ, n, .inr (.inl fS))), (qS, .inl (cI, n, .inl cS)), (oT, .inr (0, [.ref pT, .ref qT])), (pT, .inl (cJ, n, .inr (.inl fT))), (qT, .inl (cI, n, .inl cT)), (od, .inr (1, [.int wr, .int lf]))]) (rest := []) (st1 := [.int 1]) ⟨hx, hb, hml, hown, hts⟩ (c_wc_ok l D cI cJ cZ oj pf pt pv pz J u fr to fi va hJ hu x y v 0 h2 (by decide)) (cwV 4 hts (pj_gV m_276 m_277 m_278 m_22 m_279) rfl rfl rfl (by decide +kernel) ⟨Nat.le_of_ble_eq_true rfl, Nat.le_of_ble_eq_true rfl⟩) pj_no_ok trivial hK hP hD hS hA (ci := 2) (q0 := 0) rfl rfl [10, 11, 12, 13, 14] [0, 1, 2, 3, 4, 5, 6, 7, 8, 9, 15] [0, 1, 2, 3, 4, 5, 6, 7, 8, 9, 11, 12, 13, 14, 15, 10] rfl rfl rfl rfl (by decide) rfl rfl rfl hl.1 rfl (Nat.le_of_ble_eq_true rfl) dR_changeInGroup_8 ⟨Nat.le_of_ble_eq_true rfl, Nat.le_of_ble_eq_true rfl⟩ rfl rfl rfl (fun H locs hP hD hS => ?_)
  refine lv_if_ne (tgt := 17) hx hb dR_changeInGroup_11 (by decide) (fun _ => ?_) (fun h9 => absurd h9 (by decide))
  refine lv_aload_n hx hb dR_changeInGroup_17 rfl (lv_at hl 0 rfl) ?_
  refine va_get (D := D) (ci := 3) (v := .ref od) (C := "ReplayJournal") (T := TR) (N := 7) hx hb hts (pj_ups inR) hown hK hP 0 rfl rfl 4 (by decide) (hts _ (pj_up m_99)) (fun _ h9 => h9) rfl dR_changeInGroup_18 ?_
  refine pj_callV (w2 := [(o0, .inr (3, [.ref oL, .ref oS, .ref oT, .ref oj, .ref od, .int gs, .int sm])), (oL, .inr (0, [.ref pL, .ref qL])), (pL, .inl (cJ, n, .inr (.inl fL))), (qL, .inl (cI, n, .inl cL)), (oS, .inr (0, [.ref pS, .ref qS])), (pS, .inl (cJ, n, .inr (.inl fS))), (qS, .inl (cI, n, .inl cS)), (oT, .inr (0, [.ref pT, .ref qT])), (pT, .inl (cJ, n, .inr (.inl fT))), (qT, .inl (cI, n, .inl cT)), (oj, .inr (2, [.ref pf, .ref pt, .ref pv, .ref pz, .int (nI (u + 1))])), (pf, .inl (cI, J, .inl (upd fr u x))), (pt, .inl (cI, J, .inl (upd to u y))), (pv, .inl (cJ, J, .inr (.inl (vp_updL va u v)))), (pz, .inl (cZ, J, .inl (upd fi u 0))), (od, .inr (1, [.int (wr + 1), .int (pjL lf)]))]) (wr := [(o0, .inr (3, [.ref oL, .ref oS, .ref oT, .ref oj, .ref od, .int gs, .int sm])), (oL, .inr (0, [.ref pL, .ref qL])), (pL, .inl (cJ, n, .inr (.inl fL))), (qL, .inl (cI, n, .inl cL)), (oS, .inr (0, [.ref pS, .ref qS])), (pS, .inl (cJ, n, .inr (.inl fS))), (qS, .inl (cI, n, .inl cS)), (oT, .inr (0, [.ref pT, .ref qT])), (pT, .inl (cJ, n, .inr (.inl fT))), (qT, .inl (cI, n, .inl cT)), (oj, .inr (2, [.ref pf, .ref pt, .ref pv, .ref pz, .int (nI (u + 1))])), (pf, .inl (cI, J, .inl (upd fr u x))), (pt, .inl (cI, J, .inl (upd to u y))), (pv, .inl (cJ, J, .inr (.inl (vp_updL va u v)))), (pz, .inl (cZ, J, .inl (upd fi u 0)))]) (rest := []) (st1 := []) ⟨hx, hb, hml, hown, hts⟩ (c_block l D cI cJ cZ od wr lf) (cwV 0 hts (pj_gV m_280 m_281 m_282 m_23 m_283) rfl rfl rfl (by decide +kernel) ⟨Nat.le_of_ble_eq_true rfl, Nat.le_of_ble_eq_true rfl⟩) pj_no_ok trivial hK hP hD hS hA (ci := 1) (q0 := 0) rfl rfl [15] [0, 1, 2, 3, 4, 5, 6, 7, 8, 9, 10, 11, 12, 13, 14] [0, 1, 2, 3, 4, 5, 6, 7, 8, 9, 10, 11, 12, 13, 14, 15] rfl rfl rfl rfl (by decide) rfl rfl rfl hl.1 rfl (Nat.le_of_ble_eq_true rfl) dR_changeInGroup_21 ⟨Nat.le_of_ble_eq_true rfl, Nat.le_of_ble_eq_true rfl⟩ rfl rfl rfl (fun H locs hP hD hS => ?_)
  refine lv_aload_n hx hb dR_changeInGroup_24 rfl (lv_at hl 0 rfl) ?_
  refine lv_dup hx hb dR_changeInGroup_25 rfl ?_
  refine va_get (D := D) (ci := 3) (v := .int gs) (C := "ReplayJournal") (T := TR) (N := 7) hx hb hts (pj_ups inR) hown hK hP 0 rfl rfl 5 (by decide) (hts _ (pj_up m_100)) (fun _ h9 => h9) rfl dR_changeInGroup_26 ?_
  refine lv_iconst (v := 1) hx hb dR_changeInGroup_29 (by decide) ?_
  refine lv_iadd hx hb dR_changeInGroup_30 ?_
  refine va_put (D := D) (ci := 3) (v := .int (gs + 1)) (ty := .int) (C := "ReplayJournal") (T := TR) (N := 7) hx hb hts (pj_ups inR) tyR tyR_ok nmR hown hK hP hD hS 0 rfl rfl 5 (by decide) (hts _ (pj_up m_100)) (fun _ h9 => h9) rfl (by decide +kernel) rfl rfl (Nat.le_of_ble_eq_true rfl) dR_changeInGroup_31 (fun H locs hP hD hS => ?_)
  have hP : va_P D vwCl [(o0, .inr (3, [.ref oL, .ref oS, .ref oT, .ref oj, .ref od, .int (gs + 1), .int sm])), (oL, .inr (0, [.ref pL, .ref qL])), (pL, .inl (cJ, n, .inr (.inl fL))), (qL, .inl (cI, n, .inl cL)), (oS, .inr (0, [.ref pS, .ref qS])), (pS, .inl (cJ, n, .inr (.inl fS))), (qS, .inl (cI, n, .inl cS)), (oT, .inr (0, [.ref pT, .ref qT])), (pT, .inl (cJ, n, .inr (.inl fT))), (qT, .inl (cI, n, .inl cT)), (oj, .inr (2, [.ref pf, .ref pt, .ref pv, .ref pz, .int (nI (u + 1))])), (pf, .inl (cI, J, .inl (upd fr u x))), (pt, .inl (cI, J, .inl (upd to u y))), (pv, .inl (cJ, J, .inr (.inl (vp_updL va u v)))), (pz, .inl (cZ, J, .inl (upd fi u 0))), (od, .inr (1, [.int (wr + 1), .int (pjL lf)]))] H := hP
  have hD : va_D A [(o0, .inr (3, [.ref oL, .ref oS, .ref oT, .ref oj, .ref od, .int (gs + 1), .int sm])), (oL, .inr (0, [.ref pL, .ref qL])), (pL, .inl (cJ, n, .inr (.inl fL))), (qL, .inl (cI, n, .inl cL)), (oS, .inr (0, [.ref pS, .ref qS])), (pS, .inl (cJ, n, .inr (.inl fS))), (qS, .inl (cI, n, .inl cS)), (oT, .inr (0, [.ref pT, .ref qT])), (pT, .inl (cJ, n, .inr (.inl fT))), (qT, .inl (cI, n, .inl cT)), (oj, .inr (2, [.ref pf, .ref pt, .ref pv, .ref pz, .int (nI (u + 1))])), (pf, .inl (cI, J, .inl (upd fr u x))), (pt, .inl (cI, J, .inl (upd to u y))), (pv, .inl (cJ, J, .inr (.inl (vp_updL va u v)))), (pz, .inl (cZ, J, .inl (upd fi u 0))), (od, .inr (1, [.int (wr + 1), .int (pjL lf)]))] := hD
  refine lv_aload_n hx hb dR_changeInGroup_34 rfl (lv_at hl 0 rfl) ?_
  refine va_get (D := D) (ci := 3) (v := .ref od) (C := "ReplayJournal") (T := TR) (N := 7) hx hb hts (pj_ups inR) hown hK hP 0 rfl rfl 4 (by decide) (hts _ (pj_up m_99)) (fun _ h9 => h9) rfl dR_changeInGroup_35 ?_
  by_cases hz : pjL lf = 0
  · refine pp_callV (rest := []) (st1 := [.int 1]) ⟨hx, hb, hml, hown, hts⟩ (c_off_t l D cI cJ cZ od (wr + 1) (pjL lf) hz) (cwV 0 hts (pj_gV m_150 m_151 m_152 m_23 m_153) rfl rfl rfl (by decide +kernel) ⟨Nat.le_of_ble_eq_true rfl, Nat.le_of_ble_eq_true rfl⟩) pj_no_ok trivial hK hP hD hS hA (ci := 1) (q0 := 0) rfl rfl [15] rfl rfl rfl hl.1 rfl (Nat.le_of_ble_eq_true rfl) dR_changeInGroup_38 ⟨Nat.le_of_ble_eq_true rfl, Nat.le_of_ble_eq_true rfl⟩ rfl ?_
    refine lv_if_eq (tgt := 49) hx hb dR_changeInGroup_41 (by decide) (fun h9 => absurd h9 (by decide)) (fun _ => ?_)
    refine lv_bipush (v := (-3)) hx hb dR_changeInGroup_44 (by decide) ?_
    refine lv_goto (tgt := 50) hx hb dR_changeInGroup_46 (by decide) ?_
    exact pj_iret hx hb hr hlocks hP hD hS ((if_pos hz).symm) (rfl) dR_changeInGroup_50
  · refine pp_callV (rest := []) (st1 := [.int 0]) ⟨hx, hb, hml, hown, hts⟩ (c_off_f l D cI cJ cZ od (wr + 1) (pjL lf) hz) (cwV 0 hts (pj_gV m_150 m_151 m_152 m_23 m_153) rfl rfl rfl (by decide +kernel) ⟨Nat.le_of_ble_eq_true rfl, Nat.le_of_ble_eq_true rfl⟩) pj_no_ok trivial hK hP hD hS hA (ci := 1) (q0 := 0) rfl rfl [15] rfl rfl rfl hl.1 rfl (Nat.le_of_ble_eq_true rfl) dR_changeInGroup_38 ⟨Nat.le_of_ble_eq_true rfl, Nat.le_of_ble_eq_true rfl⟩ rfl ?_
    refine lv_if_eq (tgt := 49) hx hb dR_changeInGroup_41 (by decide) (fun _ => ?_) (fun h9 => (h9 rfl).elim)
    refine lv_iconst (v := 0) hx hb dR_changeInGroup_49 (by decide) ?_
    exact pj_iret hx hb hr hlocks hP hD hS ((if_neg hz).symm) (rfl) dR_changeInGroup_50
set_option maxHeartbeats 4000000 in
set_option maxRecDepth 100000 in
theorem c_ch_now (l : Launch) (D : va_G) (cI cJ cZ : ClassId) (o0 oL pL qL oS pS qS oT pT qT oj pf pt pv pz od n J u : Nat) (fL fS fT va : Nat → Int64) (cL cS cT fr to fi : Nat → Int32) (wr lf gs sm : Int32) (hn : n < 2 ^ 31) (hJ : J < 2 ^ 31) (hu : u ≤ J) (x y : Int32) (v : Int64) (h : gs = -1) (r : Int32) (w1 : va_W) (hM : pj_Met l yR_changeNow wsR_changeNow ({ frames := 3, cells := 0, slots := 0, locals := 68 }) D vwCl (pjT cI cJ cZ) pj_no [.ref o0, .int x, .int y, .long v] [(o0, .inr (3, [.ref oL, .ref oS, .ref oT, .ref oj, .ref od, .int gs, .int sm])), (oL, .inr (0, [.ref pL, .ref qL])), (pL, .inl (cJ, n, .inr (.inl fL))), (qL, .inl (cI, n, .inl cL)), (oS, .inr (0, [.ref pS, .ref qS])), (pS, .inl (cJ, n, .inr (.inl fS))), (qS, .inl (cI, n, .inl cS)), (oT, .inr (0, [.ref pT, .ref qT])), (pT, .inl (cJ, n, .inr (.inl fT))), (qT, .inl (cI, n, .inl cT)), (oj, .inr (2, [.ref pf, .ref pt, .ref pv, .ref pz, .int (nI u)])), (pf, .inl (cI, J, .inl fr)), (pt, .inl (cI, J, .inl to)), (pv, .inl (cJ, J, .inr (.inl va))), (pz, .inl (cZ, J, .inl fi)), (od, .inr (1, [.int wr, .int lf]))] (some (.int r)) w1 0 0) : pj_Met l yR_change wsR_change ({ frames := 4, cells := 0, slots := 0, locals := 92 }) D vwCl (pjT cI cJ cZ) pj_no [.ref o0, .int x, .int y, .long v] [(o0, .inr (3, [.ref oL, .ref oS, .ref oT, .ref oj, .ref od, .int gs, .int sm])), (oL, .inr (0, [.ref pL, .ref qL])), (pL, .inl (cJ, n, .inr (.inl fL))), (qL, .inl (cI, n, .inl cL)), (oS, .inr (0, [.ref pS, .ref qS])), (pS, .inl (cJ, n, .inr (.inl fS))), (qS, .inl (cI, n, .inl cS)), (oT, .inr (0, [.ref pT, .ref qT])), (pT, .inl (cJ, n, .inr (.inl fT))), (qT, .inl (cI, n, .inl cT)), (oj, .inr (2, [.ref pf, .ref pt, .ref pv, .ref pz, .int (nI u)])), (pf, .inl (cI, J, .inl fr)), (pt, .inl (cI, J, .inl to)), (pv, .inl (cJ, J, .inr (.inl va))), (pz, .inl (cZ, J, .inl fi)), (od, .inr (1, [.int wr, .int lf]))] (some (.int r)) w1 0 0 := by
  refine pj_of (by decide) rfl (Nat.le_of_ble_eq_true rfl) ?_
  intro p e s m below meth c A ls hx hb hml hr hts hown hlocks hin hA hK hP hD hS hG hl
  have hl : lv_has ls 5 [(0, .ref o0), (1, .int x), (2, .int y), (3, .long v)] := hl
  refine lv_aload_n hx hb dR_change_0 rfl (lv_at hl 0 rfl) ?_
  refine va_get (D := D) (ci := 3) (v := .int gs) (C := "ReplayJournal") (T := TR) (N := 7) hx hb hts (pj_ups inR) hown hK hP 0 rfl rfl 5 (by decide) (hts _ (pj_up m_100)) (fun _ h9 => h9) rfl dR_change_1 ?_
  refine lv_iconst (v := -1) hx hb dR_change_4 (by decide) ?_
  refine lv_icmp_ne (tgt := 18) hx hb dR_change_5 (by decide) (fun h9 => absurd h9 (fun z => z h)) (fun _ => ?_)
  refine lv_aload_n hx hb dR_change_8 rfl (lv_at hl 0 rfl) ?_
  refine lv_iload_n hx hb dR_change_9 rfl (lv_at hl 1 rfl) ?_
  refine lv_iload_n hx hb dR_change_10 rfl (lv_at hl 2 rfl) ?_
  refine lv_lload_n hx hb dR_change_11 rfl (lv_at hl 3 rfl) ?_
  refine pj_callVw (rest := []) (st1 := [.int r]) ⟨hx, hb, hml, hown, hts⟩ hM (cwV 3 hts (pj_gV m_268 m_270 m_5 m_19 m_271) rfl rfl rfl (by decide +kernel) ⟨Nat.le_of_ble_eq_true rfl, Nat.le_of_ble_eq_true rfl⟩) pj_no_ok trivial hK hP hD hS hA (ci := 3) (q0 := 0) rfl rfl rfl hl.1 rfl (Nat.le_of_ble_eq_true rfl) dR_change_12 ⟨Nat.le_of_ble_eq_true rfl, Nat.le_of_ble_eq_true rfl⟩ rfl rfl rfl (fun H locs hP hD hS => ?_)
  refine lv_goto (tgt := 25) hx hb dR_change_15 (by decide) ?_
  exact pj_iret hx hb hr hlocks hP hD hS (rfl) (rfl) dR_change_25
set_option maxHeartbeats 4000000 in
set_option maxRecDepth 100000 in
theorem c_ch_grp (l : Launch) (D : va_G) (cI cJ cZ : ClassId) (o0 oL pL qL oS pS qS oT pT qT oj pf pt pv pz od n J u : Nat) (fL fS fT va : Nat → Int64) (cL cS cT fr to fi : Nat → Int32) (wr lf gs sm : Int32) (hn : n < 2 ^ 31) (hJ : J < 2 ^ 31) (hu : u ≤ J) (x y : Int32) (v : Int64) (h : ¬ gs = -1) (r : Int32) (w1 : va_W) (hM : pj_Met l yR_changeInGroup wsR_changeInGroup ({ frames := 1, cells := 0, slots := 0, locals := 25 }) D vwCl (pjT cI cJ cZ) pj_no [.ref o0, .int x, .int y, .long v] [(o0, .inr (3, [.ref oL, .ref oS, .ref oT, .ref oj, .ref od, .int gs, .int sm])), (oL, .inr (0, [.ref pL, .ref qL])), (pL, .inl (cJ, n, .inr (.inl fL))), (qL, .inl (cI, n, .inl cL)), (oS, .inr (0, [.ref pS, .ref qS])), (pS, .inl (cJ, n, .inr (.inl fS))), (qS, .inl (cI, n, .inl cS)), (oT, .inr (0, [.ref pT, .ref qT])), (pT, .inl (cJ, n, .inr (.inl fT))), (qT, .inl (cI, n, .inl cT)), (oj, .inr (2, [.ref pf, .ref pt, .ref pv, .ref pz, .int (nI u)])), (pf, .inl (cI, J, .inl fr)), (pt, .inl (cI, J, .inl to)), (pv, .inl (cJ, J, .inr (.inl va))), (pz, .inl (cZ, J, .inl fi)), (od, .inr (1, [.int wr, .int lf]))] (some (.int r)) w1 0 0) : pj_Met l yR_change wsR_change ({ frames := 4, cells := 0, slots := 0, locals := 92 }) D vwCl (pjT cI cJ cZ) pj_no [.ref o0, .int x, .int y, .long v] [(o0, .inr (3, [.ref oL, .ref oS, .ref oT, .ref oj, .ref od, .int gs, .int sm])), (oL, .inr (0, [.ref pL, .ref qL])), (pL, .inl (cJ, n, .inr (.inl fL))), (qL, .inl (cI, n, .inl cL)), (oS, .inr (0, [.ref pS, .ref qS])), (pS, .inl (cJ, n, .inr (.inl fS))), (qS, .inl (cI, n, .inl cS)), (oT, .inr (0, [.ref pT, .ref qT])), (pT, .inl (cJ, n, .inr (.inl fT))), (qT, .inl (cI, n, .inl cT)), (oj, .inr (2, [.ref pf, .ref pt, .ref pv, .ref pz, .int (nI u)])), (pf, .inl (cI, J, .inl fr)), (pt, .inl (cI, J, .inl to)), (pv, .inl (cJ, J, .inr (.inl va))), (pz, .inl (cZ, J, .inl fi)), (od, .inr (1, [.int wr, .int lf]))] (some (.int r)) w1 0 0 := by
  refine pj_of (by decide) rfl (Nat.le_of_ble_eq_true rfl) ?_
  intro p e s m below meth c A ls hx hb hml hr hts hown hlocks hin hA hK hP hD hS hG hl
  have hl : lv_has ls 5 [(0, .ref o0), (1, .int x), (2, .int y), (3, .long v)] := hl
  refine lv_aload_n hx hb dR_change_0 rfl (lv_at hl 0 rfl) ?_
  refine va_get (D := D) (ci := 3) (v := .int gs) (C := "ReplayJournal") (T := TR) (N := 7) hx hb hts (pj_ups inR) hown hK hP 0 rfl rfl 5 (by decide) (hts _ (pj_up m_100)) (fun _ h9 => h9) rfl dR_change_1 ?_
  refine lv_iconst (v := -1) hx hb dR_change_4 (by decide) ?_
  refine lv_icmp_ne (tgt := 18) hx hb dR_change_5 (by decide) (fun _ => ?_) (fun h9 => absurd h9 h)
  refine lv_aload_n hx hb dR_change_18 rfl (lv_at hl 0 rfl) ?_
  refine lv_iload_n hx hb dR_change_19 rfl (lv_at hl 1 rfl) ?_
  refine lv_iload_n hx hb dR_change_20 rfl (lv_at hl 2 rfl) ?_
  refine lv_lload_n hx hb dR_change_21 rfl (lv_at hl 3 rfl) ?_
  refine pj_callVw (rest := []) (st1 := [.int r]) ⟨hx, hb, hml, hown, hts⟩ hM (cwV 3 hts (pj_gV m_285 m_287 m_6 m_19 m_288) rfl rfl rfl (by decide +kernel) ⟨Nat.le_of_ble_eq_true rfl, Nat.le_of_ble_eq_true rfl⟩) pj_no_ok trivial hK hP hD hS hA (ci := 3) (q0 := 0) rfl rfl rfl hl.1 rfl (Nat.le_of_ble_eq_true rfl) dR_change_22 ⟨Nat.le_of_ble_eq_true rfl, Nat.le_of_ble_eq_true rfl⟩ rfl rfl rfl (fun H locs hP hD hS => ?_)
  exact pj_iret hx hb hr hlocks hP hD hS (rfl) (rfl) dR_change_25
set_option maxHeartbeats 4000000 in
set_option maxRecDepth 100000 in
theorem c_add (l : Launch) (D : va_G) (cI cJ cZ : ClassId) (o0 oL pL qL oS pS qS oT pT qT oj pf pt pv pz od n J u : Nat) (fL fS fT va : Nat → Int64) (cL cS cT fr to fi : Nat → Int32) (wr lf gs sm : Int32) (hn : n < 2 ^ 31) (hJ : J < 2 ^ 31) (hu : u ≤ J) (y : Int32) (v : Int64) (h1 : pjH n y) (h2 : ¬ v < (-1000000000000) ∧ ¬ (1000000000000 : Int64) < v) (h3 : ¬ lf = 0) (r : Int32) (w1 : va_W) (hM : pj_Met l yR_change wsR_change ({ frames := 4, cells := 0, slots := 0, locals := 92 }) D vwCl (pjT cI cJ cZ) pj_no [.ref o0, .int (-1), .int y, .long v] [(o0, .inr (3, [.ref oL, .ref oS, .ref oT, .ref oj, .ref od, .int gs, .int sm])), (oL, .inr (0, [.ref pL, .ref qL])), (pL, .inl (cJ, n, .inr (.inl fL))), (qL, .inl (cI, n, .inl cL)), (oS, .inr (0, [.ref pS, .ref qS])), (pS, .inl (cJ, n, .inr (.inl fS))), (qS, .inl (cI, n, .inl cS)), (oT, .inr (0, [.ref pT, .ref qT])), (pT, .inl (cJ, n, .inr (.inl fT))), (qT, .inl (cI, n, .inl cT)), (oj, .inr (2, [.ref pf, .ref pt, .ref pv, .ref pz, .int (nI u)])), (pf, .inl (cI, J, .inl fr)), (pt, .inl (cI, J, .inl to)), (pv, .inl (cJ, J, .inr (.inl va))), (pz, .inl (cZ, J, .inl fi)), (od, .inr (1, [.int wr, .int lf]))] (some (.int r)) w1 0 0) : pj_Met l yR_add wsR_add ({ frames := 7, cells := 0, slots := 0, locals := 116 }) D vwCl (pjT cI cJ cZ) pj_no [.ref o0, .int y, .long v] [(o0, .inr (3, [.ref oL, .ref oS, .ref oT, .ref oj, .ref od, .int gs, .int sm])), (oL, .inr (0, [.ref pL, .ref qL])), (pL, .inl (cJ, n, .inr (.inl fL))), (qL, .inl (cI, n, .inl cL)), (oS, .inr (0, [.ref pS, .ref qS])), (pS, .inl (cJ, n, .inr (.inl fS))), (qS, .inl (cI, n, .inl cS)), (oT, .inr (0, [.ref pT, .ref qT])), (pT, .inl (cJ, n, .inr (.inl fT))), (qT, .inl (cI, n, .inl cT)), (oj, .inr (2, [.ref pf, .ref pt, .ref pv, .ref pz, .int (nI u)])), (pf, .inl (cI, J, .inl fr)), (pt, .inl (cI, J, .inl to)), (pv, .inl (cJ, J, .inr (.inl va))), (pz, .inl (cZ, J, .inl fi)), (od, .inr (1, [.int wr, .int lf]))] (some (.int r)) w1 0 0 := by
  refine pj_of (by decide) rfl (Nat.le_of_ble_eq_true rfl) ?_
  intro p e s m below meth c A ls hx hb hml hr hts hown hlocks hin hA hK hP hD hS hG hl
  have hl : lv_has ls 4 [(0, .ref o0), (1, .int y), (2, .long v)] := hl
  refine lv_aload_n hx hb dR_add_0 rfl (lv_at hl 0 rfl) ?_
  refine lv_iload_n hx hb dR_add_1 rfl (lv_at hl 1 rfl) ?_
  refine pp_callV (rest := []) (st1 := []) ⟨hx, hb, hml, hown, hts⟩ (c_rA l D cI cJ cZ o0 oL pL qL oS pS qS oT pT qT oj pf pt pv pz od n J u fL fS fT va cL cS cT fr to fi wr lf gs sm hn hJ hu y h1) (cwV 1 hts (pj_gV m_166 m_168 m_1 m_19 m_169) rfl rfl rfl (by decide +kernel) ⟨Nat.le_of_ble_eq_true rfl, Nat.le_of_ble_eq_true rfl⟩) pj_no_ok trivial hK hP hD hS hA (ci := 3) (q0 := 0) rfl rfl [0, 1, 2, 3, 4, 5, 6, 7, 8, 9, 10, 11, 12, 13, 14, 15] rfl rfl rfl hl.1 rfl (Nat.le_of_ble_eq_true rfl) dR_add_2 ⟨Nat.le_of_ble_eq_true rfl, Nat.le_of_ble_eq_true rfl⟩ rfl ?_
  refine lv_lload_n hx hb dR_add_5 rfl (lv_at hl 2 rfl) ?_
  refine lv_ldc2 (v := (-1000000000000)) hx hb hown (hts _ (pj_up m_238)) dR_add_6 ?_
  refine lv_ldc2 (v := 1000000000000) hx hb hown (hts _ (pj_up m_239)) dR_add_9 ?_
  refine pp_callS (rest := []) (st1 := []) ⟨hx, hb, hml, hown, hts⟩ (c_rB l D cI cJ cZ o0 oL pL qL oS pS qS oT pT qT oj pf pt pv pz od n J u fL fS fT va cL cS cT fr to fi wr lf gs sm hn hJ hu v (-1000000000000) 1000000000000 h2) (cwS 3 hts (pj_gS m_240 m_241 m_19 m_242) rfl rfl rfl (by decide +kernel) ⟨Nat.le_of_ble_eq_true rfl, Nat.le_of_ble_eq_true rfl⟩) pj_no_ok trivial hK hP hD hS hA [0, 1, 2, 3, 4, 5, 6, 7, 8, 9, 10, 11, 12, 13, 14, 15] rfl rfl rfl hl.1 rfl (Nat.le_of_ble_eq_true rfl) dR_add_12 ⟨Nat.le_of_ble_eq_true rfl, Nat.le_of_ble_eq_true rfl⟩ rfl ?_
  refine lv_aload_n hx hb dR_add_15 rfl (lv_at hl 0 rfl) ?_
  refine pp_callV (rest := []) (st1 := []) ⟨hx, hb, hml, hown, hts⟩ (c_rP l D cI cJ cZ o0 oL pL qL oS pS qS oT pT qT oj pf pt pv pz od n J u fL fS fT va cL cS cT fr to fi wr lf gs sm hn hJ hu h3) (cwV 0 hts (pj_gV m_244 m_246 m_3 m_19 m_247) rfl rfl rfl (by decide +kernel) ⟨Nat.le_of_ble_eq_true rfl, Nat.le_of_ble_eq_true rfl⟩) pj_no_ok trivial hK hP hD hS hA (ci := 3) (q0 := 0) rfl rfl [0, 1, 2, 3, 4, 5, 6, 7, 8, 9, 10, 11, 12, 13, 14, 15] rfl rfl rfl hl.1 rfl (Nat.le_of_ble_eq_true rfl) dR_add_16 ⟨Nat.le_of_ble_eq_true rfl, Nat.le_of_ble_eq_true rfl⟩ rfl ?_
  refine lv_aload_n hx hb dR_add_19 rfl (lv_at hl 0 rfl) ?_
  refine lv_iconst (v := -1) hx hb dR_add_20 (by decide) ?_
  refine lv_iload_n hx hb dR_add_21 rfl (lv_at hl 1 rfl) ?_
  refine lv_lload_n hx hb dR_add_22 rfl (lv_at hl 2 rfl) ?_
  refine pj_callVw (rest := []) (st1 := [.int r]) ⟨hx, hb, hml, hown, hts⟩ hM (cwV 3 hts (pj_gV m_264 m_266 m_4 m_19 m_267) rfl rfl rfl (by decide +kernel) ⟨Nat.le_of_ble_eq_true rfl, Nat.le_of_ble_eq_true rfl⟩) pj_no_ok trivial hK hP hD hS hA (ci := 3) (q0 := 0) rfl rfl rfl hl.1 rfl (Nat.le_of_ble_eq_true rfl) dR_add_23 ⟨Nat.le_of_ble_eq_true rfl, Nat.le_of_ble_eq_true rfl⟩ rfl rfl rfl (fun H locs hP hD hS => ?_)
  exact pj_iret hx hb hr hlocks hP hD hS (rfl) (rfl) dR_add_26
set_option maxHeartbeats 4000000 in
set_option maxRecDepth 100000 in
theorem c_move (l : Launch) (D : va_G) (cI cJ cZ : ClassId) (o0 oL pL qL oS pS qS oT pT qT oj pf pt pv pz od n J u : Nat) (fL fS fT va : Nat → Int64) (cL cS cT fr to fi : Nat → Int32) (wr lf gs sm : Int32) (hn : n < 2 ^ 31) (hJ : J < 2 ^ 31) (hu : u ≤ J) (x y : Int32) (v : Int64) (h1 : pjH n x) (h1b : pjH n y) (h2 : ¬ v < 0 ∧ ¬ (1000000000000 : Int64) < v) (hxy : ¬ x = y) (h3 : ¬ lf = 0) (r : Int32) (w1 : va_W) (hM : pj_Met l yR_change wsR_change ({ frames := 4, cells := 0, slots := 0, locals := 92 }) D vwCl (pjT cI cJ cZ) pj_no [.ref o0, .int x, .int y, .long v] [(o0, .inr (3, [.ref oL, .ref oS, .ref oT, .ref oj, .ref od, .int gs, .int sm])), (oL, .inr (0, [.ref pL, .ref qL])), (pL, .inl (cJ, n, .inr (.inl fL))), (qL, .inl (cI, n, .inl cL)), (oS, .inr (0, [.ref pS, .ref qS])), (pS, .inl (cJ, n, .inr (.inl fS))), (qS, .inl (cI, n, .inl cS)), (oT, .inr (0, [.ref pT, .ref qT])), (pT, .inl (cJ, n, .inr (.inl fT))), (qT, .inl (cI, n, .inl cT)), (oj, .inr (2, [.ref pf, .ref pt, .ref pv, .ref pz, .int (nI u)])), (pf, .inl (cI, J, .inl fr)), (pt, .inl (cI, J, .inl to)), (pv, .inl (cJ, J, .inr (.inl va))), (pz, .inl (cZ, J, .inl fi)), (od, .inr (1, [.int wr, .int lf]))] (some (.int r)) w1 0 0) : pj_Met l yR_move wsR_move ({ frames := 7, cells := 0, slots := 0, locals := 116 }) D vwCl (pjT cI cJ cZ) pj_no [.ref o0, .int x, .int y, .long v] [(o0, .inr (3, [.ref oL, .ref oS, .ref oT, .ref oj, .ref od, .int gs, .int sm])), (oL, .inr (0, [.ref pL, .ref qL])), (pL, .inl (cJ, n, .inr (.inl fL))), (qL, .inl (cI, n, .inl cL)), (oS, .inr (0, [.ref pS, .ref qS])), (pS, .inl (cJ, n, .inr (.inl fS))), (qS, .inl (cI, n, .inl cS)), (oT, .inr (0, [.ref pT, .ref qT])), (pT, .inl (cJ, n, .inr (.inl fT))), (qT, .inl (cI, n, .inl cT)), (oj, .inr (2, [.ref pf, .ref pt, .ref pv, .ref pz, .int (nI u)])), (pf, .inl (cI, J, .inl fr)), (pt, .inl (cI, J, .inl to)), (pv, .inl (cJ, J, .inr (.inl va))), (pz, .inl (cZ, J, .inl fi)), (od, .inr (1, [.int wr, .int lf]))] (some (.int r)) w1 0 0 := by
  refine pj_of (by decide) rfl (Nat.le_of_ble_eq_true rfl) ?_
  intro p e s m below meth c A ls hx hb hml hr hts hown hlocks hin hA hK hP hD hS hG hl
  have hl : lv_has ls 5 [(0, .ref o0), (1, .int x), (2, .int y), (3, .long v)] := hl
  refine lv_aload_n hx hb dR_move_0 rfl (lv_at hl 0 rfl) ?_
  refine lv_iload_n hx hb dR_move_1 rfl (lv_at hl 1 rfl) ?_
  refine pp_callV (rest := []) (st1 := []) ⟨hx, hb, hml, hown, hts⟩ (c_rA l D cI cJ cZ o0 oL pL qL oS pS qS oT pT qT oj pf pt pv pz od n J u fL fS fT va cL cS cT fr to fi wr lf gs sm hn hJ hu x h1) (cwV 1 hts (pj_gV m_166 m_168 m_1 m_19 m_169) rfl rfl rfl (by decide +kernel) ⟨Nat.le_of_ble_eq_true rfl, Nat.le_of_ble_eq_true rfl⟩) pj_no_ok trivial hK hP hD hS hA (ci := 3) (q0 := 0) rfl rfl [0, 1, 2, 3, 4, 5, 6, 7, 8, 9, 10, 11, 12, 13, 14, 15] rfl rfl rfl hl.1 rfl (Nat.le_of_ble_eq_true rfl) dR_move_2 ⟨Nat.le_of_ble_eq_true rfl, Nat.le_of_ble_eq_true rfl⟩ rfl ?_
  refine lv_aload_n hx hb dR_move_5 rfl (lv_at hl 0 rfl) ?_
  refine lv_iload_n hx hb dR_move_6 rfl (lv_at hl 2 rfl) ?_
  refine pp_callV (rest := []) (st1 := []) ⟨hx, hb, hml, hown, hts⟩ (c_rA l D cI cJ cZ o0 oL pL qL oS pS qS oT pT qT oj pf pt pv pz od n J u fL fS fT va cL cS cT fr to fi wr lf gs sm hn hJ hu y h1b) (cwV 1 hts (pj_gV m_166 m_168 m_1 m_19 m_169) rfl rfl rfl (by decide +kernel) ⟨Nat.le_of_ble_eq_true rfl, Nat.le_of_ble_eq_true rfl⟩) pj_no_ok trivial hK hP hD hS hA (ci := 3) (q0 := 0) rfl rfl [0, 1, 2, 3, 4, 5, 6, 7, 8, 9, 10, 11, 12, 13, 14, 15] rfl rfl rfl hl.1 rfl (Nat.le_of_ble_eq_true rfl) dR_move_7 ⟨Nat.le_of_ble_eq_true rfl, Nat.le_of_ble_eq_true rfl⟩ rfl ?_
  refine lv_lload_n hx hb dR_move_10 rfl (lv_at hl 3 rfl) ?_
  refine lv_lconst (v := 0) hx hb dR_move_11 (by decide) ?_
  refine lv_ldc2 (v := 1000000000000) hx hb hown (hts _ (pj_up m_239)) dR_move_12 ?_
  refine pp_callS (rest := []) (st1 := []) ⟨hx, hb, hml, hown, hts⟩ (c_rB l D cI cJ cZ o0 oL pL qL oS pS qS oT pT qT oj pf pt pv pz od n J u fL fS fT va cL cS cT fr to fi wr lf gs sm hn hJ hu v 0 1000000000000 h2) (cwS 3 hts (pj_gS m_240 m_241 m_19 m_242) rfl rfl rfl (by decide +kernel) ⟨Nat.le_of_ble_eq_true rfl, Nat.le_of_ble_eq_true rfl⟩) pj_no_ok trivial hK hP hD hS hA [0, 1, 2, 3, 4, 5, 6, 7, 8, 9, 10, 11, 12, 13, 14, 15] rfl rfl rfl hl.1 rfl (Nat.le_of_ble_eq_true rfl) dR_move_15 ⟨Nat.le_of_ble_eq_true rfl, Nat.le_of_ble_eq_true rfl⟩ rfl ?_
  refine lv_iload_n hx hb dR_move_18 rfl (lv_at hl 1 rfl) ?_
  refine lv_iload_n hx hb dR_move_19 rfl (lv_at hl 2 rfl) ?_
  refine lv_icmp_ne (tgt := 33) hx hb dR_move_20 (by decide) (fun _ => ?_) (fun h9 => absurd h9 hxy)
  refine lv_aload_n hx hb dR_move_33 rfl (lv_at hl 0 rfl) ?_
  refine pp_callV (rest := []) (st1 := []) ⟨hx, hb, hml, hown, hts⟩ (c_rP l D cI cJ cZ o0 oL pL qL oS pS qS oT pT qT oj pf pt pv pz od n J u fL fS fT va cL cS cT fr to fi wr lf gs sm hn hJ hu h3) (cwV 0 hts (pj_gV m_244 m_246 m_3 m_19 m_247) rfl rfl rfl (by decide +kernel) ⟨Nat.le_of_ble_eq_true rfl, Nat.le_of_ble_eq_true rfl⟩) pj_no_ok trivial hK hP hD hS hA (ci := 3) (q0 := 0) rfl rfl [0, 1, 2, 3, 4, 5, 6, 7, 8, 9, 10, 11, 12, 13, 14, 15] rfl rfl rfl hl.1 rfl (Nat.le_of_ble_eq_true rfl) dR_move_34 ⟨Nat.le_of_ble_eq_true rfl, Nat.le_of_ble_eq_true rfl⟩ rfl ?_
  refine lv_aload_n hx hb dR_move_37 rfl (lv_at hl 0 rfl) ?_
  refine lv_iload_n hx hb dR_move_38 rfl (lv_at hl 1 rfl) ?_
  refine lv_iload_n hx hb dR_move_39 rfl (lv_at hl 2 rfl) ?_
  refine lv_lload_n hx hb dR_move_40 rfl (lv_at hl 3 rfl) ?_
  refine pj_callVw (rest := []) (st1 := [.int r]) ⟨hx, hb, hml, hown, hts⟩ hM (cwV 3 hts (pj_gV m_264 m_266 m_4 m_19 m_267) rfl rfl rfl (by decide +kernel) ⟨Nat.le_of_ble_eq_true rfl, Nat.le_of_ble_eq_true rfl⟩) pj_no_ok trivial hK hP hD hS hA (ci := 3) (q0 := 0) rfl rfl rfl hl.1 rfl (Nat.le_of_ble_eq_true rfl) dR_move_41 ⟨Nat.le_of_ble_eq_true rfl, Nat.le_of_ble_eq_true rfl⟩ rfl rfl rfl (fun H locs hP hD hS => ?_)
  exact pj_iret hx hb hr hlocks hP hD hS (rfl) (rfl) dR_move_44
set_option maxHeartbeats 4000000 in
set_option maxRecDepth 100000 in
theorem t_add_A (l : Launch) (D : va_G) (cI cJ cZ : ClassId) (o0 oL pL qL oS pS qS oT pT qT oj pf pt pv pz od n J u : Nat) (fL fS fT va : Nat → Int64) (cL cS cT fr to fi : Nat → Int32) (wr lf gs sm : Int32) (hn : n < 2 ^ 31) (hJ : J < 2 ^ 31) (hu : u ≤ J) (y : Int32) (v : Int64) (h : ¬ pjH n y ∨ (v < (-1000000000000) ∨ (1000000000000 : Int64) < v)) (htr : l.stackTraces = false) : pt_X l yR_add wsR_add ({ frames := 7, cells := 1, slots := 6, locals := 116 }) D vwCl (pjT cI cJ cZ) pt_G [.ref o0, .int y, .long v] [(o0, .inr (3, [.ref oL, .ref oS, .ref oT, .ref oj, .ref od, .int gs, .int sm])), (oL, .inr (0, [.ref pL, .ref qL])), (pL, .inl (cJ, n, .inr (.inl fL))), (qL, .inl (cI, n, .inl cL)), (oS, .inr (0, [.ref pS, .ref qS])), (pS, .inl (cJ, n, .inr (.inl fS))), (qS, .inl (cI, n, .inl cS)), (oT, .inr (0, [.ref pT, .ref qT])), (pT, .inl (cJ, n, .inr (.inl fT))), (qT, .inl (cI, n, .inl cT)), (oj, .inr (2, [.ref pf, .ref pt, .ref pv, .ref pz, .int (nI u)])), (pf, .inl (cI, J, .inl fr)), (pt, .inl (cI, J, .inl to)), (pv, .inl (cJ, J, .inr (.inl va))), (pz, .inl (cZ, J, .inl fi)), (od, .inr (1, [.int wr, .int lf]))] "java/lang/IllegalArgumentException" := by
  refine pt_of (by decide) rfl (Nat.le_of_ble_eq_true rfl) ?_
  intro p e s m below meth c A ls hx hb hml hno hts hown hlocks hA hK hP hD hS hG hl
  have hl : lv_has ls 4 [(0, .ref o0), (1, .int y), (2, .long v)] := hl
  refine lv_aload_n hx hb dR_add_0 rfl (lv_at hl 0 rfl) ?_
  refine lv_iload_n hx hb dR_add_1 rfl (lv_at hl 1 rfl) ?_
  by_cases h1 : pjH n y
  · refine pp_callV (rest := []) (st1 := []) ⟨hx, hb, hml, hown, hts⟩ (c_rA l D cI cJ cZ o0 oL pL qL oS pS qS oT pT qT oj pf pt pv pz od n J u fL fS fT va cL cS cT fr to fi wr lf gs sm hn hJ hu y h1) (cwV 1 hts (pj_gV m_166 m_168 m_1 m_19 m_169) rfl rfl rfl (by decide +kernel) ⟨Nat.le_of_ble_eq_true rfl, Nat.le_of_ble_eq_true rfl⟩) pj_no_ok trivial hK hP hD hS hA (ci := 3) (q0 := 0) rfl rfl [0, 1, 2, 3, 4, 5, 6, 7, 8, 9, 10, 11, 12, 13, 14, 15] rfl rfl rfl hl.1 rfl (Nat.le_of_ble_eq_true rfl) dR_add_2 ⟨Nat.le_of_ble_eq_true rfl, Nat.le_of_ble_eq_true rfl⟩ rfl ?_
    refine lv_lload_n hx hb dR_add_5 rfl (lv_at hl 2 rfl) ?_
    refine lv_ldc2 (v := (-1000000000000)) hx hb hown (hts _ (pj_up m_238)) dR_add_6 ?_
    refine lv_ldc2 (v := 1000000000000) hx hb hown (hts _ (pj_up m_239)) dR_add_9 ?_
    refine pt_callS (rest := []) ⟨hx, hb, hml, hown, hts⟩ (t_rB l D cI cJ cZ o0 oL pL qL oS pS qS oT pT qT oj pf pt pv pz od n J u fL fS fT va cL cS cT fr to fi wr lf gs sm hn hJ hu v (-1000000000000) 1000000000000 (h.resolve_left (fun z => z h1)) htr) (cwS 3 hts (pj_gS m_240 m_241 m_19 m_242) rfl rfl rfl (by decide +kernel) ⟨Nat.le_of_ble_eq_true rfl, Nat.le_of_ble_eq_true rfl⟩) pt_G_ok hG hK hP hD hS hA [0, 1, 2, 3, 4, 5, 6, 7, 8, 9, 10, 11, 12, 13, 14, 15] rfl rfl rfl hl.1 rfl (Nat.le_of_ble_eq_true rfl) dR_add_12 ⟨Nat.le_of_ble_eq_true rfl, Nat.le_of_ble_eq_true rfl⟩ (fun x ce H1 z1 z2 z3 z4 z5 => ?_)
    exact pt_out z1 z2 z3 z4 z5 hno hlocks
  · refine pt_callV (rest := []) ⟨hx, hb, hml, hown, hts⟩ (t_rA l D cI cJ cZ o0 oL pL qL oS pS qS oT pT qT oj pf pt pv pz od n J u fL fS fT va cL cS cT fr to fi wr lf gs sm hn hJ hu y h1 htr) (cwV 1 hts (pj_gV m_166 m_168 m_1 m_19 m_169) rfl rfl rfl (by decide +kernel) ⟨Nat.le_of_ble_eq_true rfl, Nat.le_of_ble_eq_true rfl⟩) pt_G_ok hG hK hP hD hS hA (ci := 3) (q0 := 0) rfl rfl [0, 1, 2, 3, 4, 5, 6, 7, 8, 9, 10, 11, 12, 13, 14, 15] rfl rfl rfl hl.1 rfl (Nat.le_of_ble_eq_true rfl) dR_add_2 ⟨Nat.le_of_ble_eq_true rfl, Nat.le_of_ble_eq_true rfl⟩ (fun x ce H1 z1 z2 z3 z4 z5 => ?_)
    exact pt_out z1 z2 z3 z4 z5 hno hlocks
set_option maxHeartbeats 4000000 in
set_option maxRecDepth 100000 in
theorem t_add_S (l : Launch) (D : va_G) (cI cJ cZ : ClassId) (o0 oL pL qL oS pS qS oT pT qT oj pf pt pv pz od n J u : Nat) (fL fS fT va : Nat → Int64) (cL cS cT fr to fi : Nat → Int32) (wr lf gs sm : Int32) (hn : n < 2 ^ 31) (hJ : J < 2 ^ 31) (hu : u ≤ J) (y : Int32) (v : Int64) (h1 : pjH n y) (h2 : ¬ v < (-1000000000000) ∧ ¬ (1000000000000 : Int64) < v) (h3 : lf = 0) (htr : l.stackTraces = false) : pt_X l yR_add wsR_add ({ frames := 7, cells := 1, slots := 6, locals := 116 }) D vwCl (pjT cI cJ cZ) pt_G [.ref o0, .int y, .long v] [(o0, .inr (3, [.ref oL, .ref oS, .ref oT, .ref oj, .ref od, .int gs, .int sm])), (oL, .inr (0, [.ref pL, .ref qL])), (pL, .inl (cJ, n, .inr (.inl fL))), (qL, .inl (cI, n, .inl cL)), (oS, .inr (0, [.ref pS, .ref qS])), (pS, .inl (cJ, n, .inr (.inl fS))), (qS, .inl (cI, n, .inl cS)), (oT, .inr (0, [.ref pT, .ref qT])), (pT, .inl (cJ, n, .inr (.inl fT))), (qT, .inl (cI, n, .inl cT)), (oj, .inr (2, [.ref pf, .ref pt, .ref pv, .ref pz, .int (nI u)])), (pf, .inl (cI, J, .inl fr)), (pt, .inl (cI, J, .inl to)), (pv, .inl (cJ, J, .inr (.inl va))), (pz, .inl (cZ, J, .inl fi)), (od, .inr (1, [.int wr, .int lf]))] "java/lang/IllegalStateException" := by
  refine pt_of (by decide) rfl (Nat.le_of_ble_eq_true rfl) ?_
  intro p e s m below meth c A ls hx hb hml hno hts hown hlocks hA hK hP hD hS hG hl
  have hl : lv_has ls 4 [(0, .ref o0), (1, .int y), (2, .long v)] := hl
  refine lv_aload_n hx hb dR_add_0 rfl (lv_at hl 0 rfl) ?_
  refine lv_iload_n hx hb dR_add_1 rfl (lv_at hl 1 rfl) ?_
  refine pp_callV (rest := []) (st1 := []) ⟨hx, hb, hml, hown, hts⟩ (c_rA l D cI cJ cZ o0 oL pL qL oS pS qS oT pT qT oj pf pt pv pz od n J u fL fS fT va cL cS cT fr to fi wr lf gs sm hn hJ hu y h1) (cwV 1 hts (pj_gV m_166 m_168 m_1 m_19 m_169) rfl rfl rfl (by decide +kernel) ⟨Nat.le_of_ble_eq_true rfl, Nat.le_of_ble_eq_true rfl⟩) pj_no_ok trivial hK hP hD hS hA (ci := 3) (q0 := 0) rfl rfl [0, 1, 2, 3, 4, 5, 6, 7, 8, 9, 10, 11, 12, 13, 14, 15] rfl rfl rfl hl.1 rfl (Nat.le_of_ble_eq_true rfl) dR_add_2 ⟨Nat.le_of_ble_eq_true rfl, Nat.le_of_ble_eq_true rfl⟩ rfl ?_
  refine lv_lload_n hx hb dR_add_5 rfl (lv_at hl 2 rfl) ?_
  refine lv_ldc2 (v := (-1000000000000)) hx hb hown (hts _ (pj_up m_238)) dR_add_6 ?_
  refine lv_ldc2 (v := 1000000000000) hx hb hown (hts _ (pj_up m_239)) dR_add_9 ?_
  refine pp_callS (rest := []) (st1 := []) ⟨hx, hb, hml, hown, hts⟩ (c_rB l D cI cJ cZ o0 oL pL qL oS pS qS oT pT qT oj pf pt pv pz od n J u fL fS fT va cL cS cT fr to fi wr lf gs sm hn hJ hu v (-1000000000000) 1000000000000 h2) (cwS 3 hts (pj_gS m_240 m_241 m_19 m_242) rfl rfl rfl (by decide +kernel) ⟨Nat.le_of_ble_eq_true rfl, Nat.le_of_ble_eq_true rfl⟩) pj_no_ok trivial hK hP hD hS hA [0, 1, 2, 3, 4, 5, 6, 7, 8, 9, 10, 11, 12, 13, 14, 15] rfl rfl rfl hl.1 rfl (Nat.le_of_ble_eq_true rfl) dR_add_12 ⟨Nat.le_of_ble_eq_true rfl, Nat.le_of_ble_eq_true rfl⟩ rfl ?_
  refine lv_aload_n hx hb dR_add_15 rfl (lv_at hl 0 rfl) ?_
  refine pt_callV (rest := []) ⟨hx, hb, hml, hown, hts⟩ (t_rP l D cI cJ cZ o0 oL pL qL oS pS qS oT pT qT oj pf pt pv pz od n J u fL fS fT va cL cS cT fr to fi wr lf gs sm hn hJ hu h3 htr) (cwV 0 hts (pj_gV m_244 m_246 m_3 m_19 m_247) rfl rfl rfl (by decide +kernel) ⟨Nat.le_of_ble_eq_true rfl, Nat.le_of_ble_eq_true rfl⟩) pt_G_ok hG hK hP hD hS hA (ci := 3) (q0 := 0) rfl rfl [0, 1, 2, 3, 4, 5, 6, 7, 8, 9, 10, 11, 12, 13, 14, 15] rfl rfl rfl hl.1 rfl (Nat.le_of_ble_eq_true rfl) dR_add_16 ⟨Nat.le_of_ble_eq_true rfl, Nat.le_of_ble_eq_true rfl⟩ (fun x ce H1 z1 z2 z3 z4 z5 => ?_)
  exact pt_out z1 z2 z3 z4 z5 hno hlocks
set_option maxHeartbeats 4000000 in
set_option maxRecDepth 100000 in
theorem t_move_A (l : Launch) (D : va_G) (cI cJ cZ : ClassId) (o0 oL pL qL oS pS qS oT pT qT oj pf pt pv pz od n J u : Nat) (fL fS fT va : Nat → Int64) (cL cS cT fr to fi : Nat → Int32) (wr lf gs sm : Int32) (hn : n < 2 ^ 31) (hJ : J < 2 ^ 31) (hu : u ≤ J) (x y : Int32) (v : Int64) (h : ¬ pjH n x ∨ ¬ pjH n y ∨ (v < 0 ∨ (1000000000000 : Int64) < v) ∨ x = y) (htr : l.stackTraces = false) : pt_X l yR_move wsR_move ({ frames := 7, cells := 1, slots := 6, locals := 116 }) D vwCl (pjT cI cJ cZ) pt_G [.ref o0, .int x, .int y, .long v] [(o0, .inr (3, [.ref oL, .ref oS, .ref oT, .ref oj, .ref od, .int gs, .int sm])), (oL, .inr (0, [.ref pL, .ref qL])), (pL, .inl (cJ, n, .inr (.inl fL))), (qL, .inl (cI, n, .inl cL)), (oS, .inr (0, [.ref pS, .ref qS])), (pS, .inl (cJ, n, .inr (.inl fS))), (qS, .inl (cI, n, .inl cS)), (oT, .inr (0, [.ref pT, .ref qT])), (pT, .inl (cJ, n, .inr (.inl fT))), (qT, .inl (cI, n, .inl cT)), (oj, .inr (2, [.ref pf, .ref pt, .ref pv, .ref pz, .int (nI u)])), (pf, .inl (cI, J, .inl fr)), (pt, .inl (cI, J, .inl to)), (pv, .inl (cJ, J, .inr (.inl va))), (pz, .inl (cZ, J, .inl fi)), (od, .inr (1, [.int wr, .int lf]))] "java/lang/IllegalArgumentException" := by
  refine pt_of (by decide) rfl (Nat.le_of_ble_eq_true rfl) ?_
  intro p e s m below meth c A ls hx hb hml hno hts hown hlocks hA hK hP hD hS hG hl
  have hl : lv_has ls 5 [(0, .ref o0), (1, .int x), (2, .int y), (3, .long v)] := hl
  refine lv_aload_n hx hb dR_move_0 rfl (lv_at hl 0 rfl) ?_
  refine lv_iload_n hx hb dR_move_1 rfl (lv_at hl 1 rfl) ?_
  by_cases h1 : pjH n x
  · refine pp_callV (rest := []) (st1 := []) ⟨hx, hb, hml, hown, hts⟩ (c_rA l D cI cJ cZ o0 oL pL qL oS pS qS oT pT qT oj pf pt pv pz od n J u fL fS fT va cL cS cT fr to fi wr lf gs sm hn hJ hu x h1) (cwV 1 hts (pj_gV m_166 m_168 m_1 m_19 m_169) rfl rfl rfl (by decide +kernel) ⟨Nat.le_of_ble_eq_true rfl, Nat.le_of_ble_eq_true rfl⟩) pj_no_ok trivial hK hP hD hS hA (ci := 3) (q0 := 0) rfl rfl [0, 1, 2, 3, 4, 5, 6, 7, 8, 9, 10, 11, 12, 13, 14, 15] rfl rfl rfl hl.1 rfl (Nat.le_of_ble_eq_true rfl) dR_move_2 ⟨Nat.le_of_ble_eq_true rfl, Nat.le_of_ble_eq_true rfl⟩ rfl ?_
    refine lv_aload_n hx hb dR_move_5 rfl (lv_at hl 0 rfl) ?_
    refine lv_iload_n hx hb dR_move_6 rfl (lv_at hl 2 rfl) ?_
    by_cases h2 : pjH n y
    · refine pp_callV (rest := []) (st1 := []) ⟨hx, hb, hml, hown, hts⟩ (c_rA l D cI cJ cZ o0 oL pL qL oS pS qS oT pT qT oj pf pt pv pz od n J u fL fS fT va cL cS cT fr to fi wr lf gs sm hn hJ hu y h2) (cwV 1 hts (pj_gV m_166 m_168 m_1 m_19 m_169) rfl rfl rfl (by decide +kernel) ⟨Nat.le_of_ble_eq_true rfl, Nat.le_of_ble_eq_true rfl⟩) pj_no_ok trivial hK hP hD hS hA (ci := 3) (q0 := 0) rfl rfl [0, 1, 2, 3, 4, 5, 6, 7, 8, 9, 10, 11, 12, 13, 14, 15] rfl rfl rfl hl.1 rfl (Nat.le_of_ble_eq_true rfl) dR_move_7 ⟨Nat.le_of_ble_eq_true rfl, Nat.le_of_ble_eq_true rfl⟩ rfl ?_
      refine lv_lload_n hx hb dR_move_10 rfl (lv_at hl 3 rfl) ?_
      refine lv_lconst (v := 0) hx hb dR_move_11 (by decide) ?_
      refine lv_ldc2 (v := 1000000000000) hx hb hown (hts _ (pj_up m_239)) dR_move_12 ?_
      by_cases h3 : (v < 0 ∨ (1000000000000 : Int64) < v)
      · refine pt_callS (rest := []) ⟨hx, hb, hml, hown, hts⟩ (t_rB l D cI cJ cZ o0 oL pL qL oS pS qS oT pT qT oj pf pt pv pz od n J u fL fS fT va cL cS cT fr to fi wr lf gs sm hn hJ hu v 0 1000000000000 h3 htr) (cwS 3 hts (pj_gS m_240 m_241 m_19 m_242) rfl rfl rfl (by decide +kernel) ⟨Nat.le_of_ble_eq_true rfl, Nat.le_of_ble_eq_true rfl⟩) pt_G_ok hG hK hP hD hS hA [0, 1, 2, 3, 4, 5, 6, 7, 8, 9, 10, 11, 12, 13, 14, 15] rfl rfl rfl hl.1 rfl (Nat.le_of_ble_eq_true rfl) dR_move_15 ⟨Nat.le_of_ble_eq_true rfl, Nat.le_of_ble_eq_true rfl⟩ (fun x ce H1 z1 z2 z3 z4 z5 => ?_)
        exact pt_out z1 z2 z3 z4 z5 hno hlocks
      · refine pp_callS (rest := []) (st1 := []) ⟨hx, hb, hml, hown, hts⟩ (c_rB l D cI cJ cZ o0 oL pL qL oS pS qS oT pT qT oj pf pt pv pz od n J u fL fS fT va cL cS cT fr to fi wr lf gs sm hn hJ hu v 0 1000000000000 (not_or.mp h3)) (cwS 3 hts (pj_gS m_240 m_241 m_19 m_242) rfl rfl rfl (by decide +kernel) ⟨Nat.le_of_ble_eq_true rfl, Nat.le_of_ble_eq_true rfl⟩) pj_no_ok trivial hK hP hD hS hA [0, 1, 2, 3, 4, 5, 6, 7, 8, 9, 10, 11, 12, 13, 14, 15] rfl rfl rfl hl.1 rfl (Nat.le_of_ble_eq_true rfl) dR_move_15 ⟨Nat.le_of_ble_eq_true rfl, Nat.le_of_ble_eq_true rfl⟩ rfl ?_
        refine lv_iload_n hx hb dR_move_18 rfl (lv_at hl 1 rfl) ?_
        refine lv_iload_n hx hb dR_move_19 rfl (lv_at hl 2 rfl) ?_
        refine lv_icmp_ne (tgt := 33) hx hb dR_move_20 (by decide) (fun h9 => absurd h9 (fun z => z (((h.resolve_left (fun q => q h1)).resolve_left (fun q => q h2)).resolve_left h3))) (fun _ => ?_)
        obtain ⟨qtx, hqtx⟩ := hG.1 (74, "a move needs two accounts") (by decide)
        exact pt_throw (X := "java/lang/IllegalArgumentException") (own := "ReplayJournal") (names := pt_up) (ia := 72) (is := 74) (ic := 76) hx hb hml hl.1 htr hown (by decide +kernel) (by decide +kernel) (pt_atoms hts hG pt_inA) (hts _ (pj_up m_171)) (hts _ (pj_up m_28)) hqtx dR_move_23 dR_move_26 dR_move_27 dR_move_29 dR_move_32 hno hlocks (Nat.le_of_ble_eq_true rfl) (Nat.le_of_ble_eq_true rfl) (Nat.le_of_ble_eq_true rfl) (Nat.le_of_ble_eq_true rfl)
    · refine pt_callV (rest := []) ⟨hx, hb, hml, hown, hts⟩ (t_rA l D cI cJ cZ o0 oL pL qL oS pS qS oT pT qT oj pf pt pv pz od n J u fL fS fT va cL cS cT fr to fi wr lf gs sm hn hJ hu y h2 htr) (cwV 1 hts (pj_gV m_166 m_168 m_1 m_19 m_169) rfl rfl rfl (by decide +kernel) ⟨Nat.le_of_ble_eq_true rfl, Nat.le_of_ble_eq_true rfl⟩) pt_G_ok hG hK hP hD hS hA (ci := 3) (q0 := 0) rfl rfl [0, 1, 2, 3, 4, 5, 6, 7, 8, 9, 10, 11, 12, 13, 14, 15] rfl rfl rfl hl.1 rfl (Nat.le_of_ble_eq_true rfl) dR_move_7 ⟨Nat.le_of_ble_eq_true rfl, Nat.le_of_ble_eq_true rfl⟩ (fun x ce H1 z1 z2 z3 z4 z5 => ?_)
      exact pt_out z1 z2 z3 z4 z5 hno hlocks
  · refine pt_callV (rest := []) ⟨hx, hb, hml, hown, hts⟩ (t_rA l D cI cJ cZ o0 oL pL qL oS pS qS oT pT qT oj pf pt pv pz od n J u fL fS fT va cL cS cT fr to fi wr lf gs sm hn hJ hu x h1 htr) (cwV 1 hts (pj_gV m_166 m_168 m_1 m_19 m_169) rfl rfl rfl (by decide +kernel) ⟨Nat.le_of_ble_eq_true rfl, Nat.le_of_ble_eq_true rfl⟩) pt_G_ok hG hK hP hD hS hA (ci := 3) (q0 := 0) rfl rfl [0, 1, 2, 3, 4, 5, 6, 7, 8, 9, 10, 11, 12, 13, 14, 15] rfl rfl rfl hl.1 rfl (Nat.le_of_ble_eq_true rfl) dR_move_2 ⟨Nat.le_of_ble_eq_true rfl, Nat.le_of_ble_eq_true rfl⟩ (fun x ce H1 z1 z2 z3 z4 z5 => ?_)
    exact pt_out z1 z2 z3 z4 z5 hno hlocks
set_option maxHeartbeats 4000000 in
set_option maxRecDepth 100000 in
theorem t_move_S (l : Launch) (D : va_G) (cI cJ cZ : ClassId) (o0 oL pL qL oS pS qS oT pT qT oj pf pt pv pz od n J u : Nat) (fL fS fT va : Nat → Int64) (cL cS cT fr to fi : Nat → Int32) (wr lf gs sm : Int32) (hn : n < 2 ^ 31) (hJ : J < 2 ^ 31) (hu : u ≤ J) (x y : Int32) (v : Int64) (h1 : pjH n x) (h1b : pjH n y) (h2 : ¬ v < 0 ∧ ¬ (1000000000000 : Int64) < v) (hxy : ¬ x = y) (h3 : lf = 0) (htr : l.stackTraces = false) : pt_X l yR_move wsR_move ({ frames := 7, cells := 1, slots := 6, locals := 116 }) D vwCl (pjT cI cJ cZ) pt_G [.ref o0, .int x, .int y, .long v] [(o0, .inr (3, [.ref oL, .ref oS, .ref oT, .ref oj, .ref od, .int gs, .int sm])), (oL, .inr (0, [.ref pL, .ref qL])), (pL, .inl (cJ, n, .inr (.inl fL))), (qL, .inl (cI, n, .inl cL)), (oS, .inr (0, [.ref pS, .ref qS])), (pS, .inl (cJ, n, .inr (.inl fS))), (qS, .inl (cI, n, .inl cS)), (oT, .inr (0, [.ref pT, .ref qT])), (pT, .inl (cJ, n, .inr (.inl fT))), (qT, .inl (cI, n, .inl cT)), (oj, .inr (2, [.ref pf, .ref pt, .ref pv, .ref pz, .int (nI u)])), (pf, .inl (cI, J, .inl fr)), (pt, .inl (cI, J, .inl to)), (pv, .inl (cJ, J, .inr (.inl va))), (pz, .inl (cZ, J, .inl fi)), (od, .inr (1, [.int wr, .int lf]))] "java/lang/IllegalStateException" := by
  refine pt_of (by decide) rfl (Nat.le_of_ble_eq_true rfl) ?_
  intro p e s m below meth c A ls hx hb hml hno hts hown hlocks hA hK hP hD hS hG hl
  have hl : lv_has ls 5 [(0, .ref o0), (1, .int x), (2, .int y), (3, .long v)] := hl
  refine lv_aload_n hx hb dR_move_0 rfl (lv_at hl 0 rfl) ?_
  refine lv_iload_n hx hb dR_move_1 rfl (lv_at hl 1 rfl) ?_
  refine pp_callV (rest := []) (st1 := []) ⟨hx, hb, hml, hown, hts⟩ (c_rA l D cI cJ cZ o0 oL pL qL oS pS qS oT pT qT oj pf pt pv pz od n J u fL fS fT va cL cS cT fr to fi wr lf gs sm hn hJ hu x h1) (cwV 1 hts (pj_gV m_166 m_168 m_1 m_19 m_169) rfl rfl rfl (by decide +kernel) ⟨Nat.le_of_ble_eq_true rfl, Nat.le_of_ble_eq_true rfl⟩) pj_no_ok trivial hK hP hD hS hA (ci := 3) (q0 := 0) rfl rfl [0, 1, 2, 3, 4, 5, 6, 7, 8, 9, 10, 11, 12, 13, 14, 15] rfl rfl rfl hl.1 rfl (Nat.le_of_ble_eq_true rfl) dR_move_2 ⟨Nat.le_of_ble_eq_true rfl, Nat.le_of_ble_eq_true rfl⟩ rfl ?_
  refine lv_aload_n hx hb dR_move_5 rfl (lv_at hl 0 rfl) ?_
  refine lv_iload_n hx hb dR_move_6 rfl (lv_at hl 2 rfl) ?_
  refine pp_callV (rest := []) (st1 := []) ⟨hx, hb, hml, hown, hts⟩ (c_rA l D cI cJ cZ o0 oL pL qL oS pS qS oT pT qT oj pf pt pv pz od n J u fL fS fT va cL cS cT fr to fi wr lf gs sm hn hJ hu y h1b) (cwV 1 hts (pj_gV m_166 m_168 m_1 m_19 m_169) rfl rfl rfl (by decide +kernel) ⟨Nat.le_of_ble_eq_true rfl, Nat.le_of_ble_eq_true rfl⟩) pj_no_ok trivial hK hP hD hS hA (ci := 3) (q0 := 0) rfl rfl [0, 1, 2, 3, 4, 5, 6, 7, 8, 9, 10, 11, 12, 13, 14, 15] rfl rfl rfl hl.1 rfl (Nat.le_of_ble_eq_true rfl) dR_move_7 ⟨Nat.le_of_ble_eq_true rfl, Nat.le_of_ble_eq_true rfl⟩ rfl ?_
  refine lv_lload_n hx hb dR_move_10 rfl (lv_at hl 3 rfl) ?_
  refine lv_lconst (v := 0) hx hb dR_move_11 (by decide) ?_
  refine lv_ldc2 (v := 1000000000000) hx hb hown (hts _ (pj_up m_239)) dR_move_12 ?_
  refine pp_callS (rest := []) (st1 := []) ⟨hx, hb, hml, hown, hts⟩ (c_rB l D cI cJ cZ o0 oL pL qL oS pS qS oT pT qT oj pf pt pv pz od n J u fL fS fT va cL cS cT fr to fi wr lf gs sm hn hJ hu v 0 1000000000000 h2) (cwS 3 hts (pj_gS m_240 m_241 m_19 m_242) rfl rfl rfl (by decide +kernel) ⟨Nat.le_of_ble_eq_true rfl, Nat.le_of_ble_eq_true rfl⟩) pj_no_ok trivial hK hP hD hS hA [0, 1, 2, 3, 4, 5, 6, 7, 8, 9, 10, 11, 12, 13, 14, 15] rfl rfl rfl hl.1 rfl (Nat.le_of_ble_eq_true rfl) dR_move_15 ⟨Nat.le_of_ble_eq_true rfl, Nat.le_of_ble_eq_true rfl⟩ rfl ?_
  refine lv_iload_n hx hb dR_move_18 rfl (lv_at hl 1 rfl) ?_
  refine lv_iload_n hx hb dR_move_19 rfl (lv_at hl 2 rfl) ?_
  refine lv_icmp_ne (tgt := 33) hx hb dR_move_20 (by decide) (fun _ => ?_) (fun h9 => absurd h9 hxy)
  refine lv_aload_n hx hb dR_move_33 rfl (lv_at hl 0 rfl) ?_
  refine pt_callV (rest := []) ⟨hx, hb, hml, hown, hts⟩ (t_rP l D cI cJ cZ o0 oL pL qL oS pS qS oT pT qT oj pf pt pv pz od n J u fL fS fT va cL cS cT fr to fi wr lf gs sm hn hJ hu h3 htr) (cwV 0 hts (pj_gV m_244 m_246 m_3 m_19 m_247) rfl rfl rfl (by decide +kernel) ⟨Nat.le_of_ble_eq_true rfl, Nat.le_of_ble_eq_true rfl⟩) pt_G_ok hG hK hP hD hS hA (ci := 3) (q0 := 0) rfl rfl [0, 1, 2, 3, 4, 5, 6, 7, 8, 9, 10, 11, 12, 13, 14, 15] rfl rfl rfl hl.1 rfl (Nat.le_of_ble_eq_true rfl) dR_move_34 ⟨Nat.le_of_ble_eq_true rfl, Nat.le_of_ble_eq_true rfl⟩ (fun x ce H1 z1 z2 z3 z4 z5 => ?_)
  exact pt_out z1 z2 z3 z4 z5 hno hlocks
end
section
set_option maxHeartbeats 4000000 in
set_option maxRecDepth 100000 in
theorem c_begin (l : Launch) (D : va_G) (cI cJ cZ : ClassId) (o0 oL pL qL oS pS qS oT pT qT oj pf pt pv pz od n J u : Nat) (fL fS fT va : Nat → Int64) (cL cS cT fr to fi : Nat → Int32) (wr lf gs sm : Int32) (hn : n < 2 ^ 31) (hJ : J < 2 ^ 31) (hu : u ≤ J) (h3 : ¬ lf = 0) (h4 : gs = -1) : pj_Met l yR_begin wsR_begin ({ frames := 7, cells := 0, slots := 0, locals := 102 }) D vwCl (pjT cI cJ cZ) pj_no [.ref o0] [(o0, .inr (3, [.ref oL, .ref oS, .ref oT, .ref oj, .ref od, .int gs, .int sm])), (oL, .inr (0, [.ref pL, .ref qL])), (pL, .inl (cJ, n, .inr (.inl fL))), (qL, .inl (cI, n, .inl cL)), (oS, .inr (0, [.ref pS, .ref qS])), (pS, .inl (cJ, n, .inr (.inl fS))), (qS, .inl (cI, n, .inl cS)), (oT, .inr (0, [.ref pT, .ref qT])), (pT, .inl (cJ, n, .inr (.inl fT))), (qT, .inl (cI, n, .inl cT)), (oj, .inr (2, [.ref pf, .ref pt, .ref pv, .ref pz, .int (nI u)])), (pf, .inl (cI, J, .inl fr)), (pt, .inl (cI, J, .inl to)), (pv, .inl (cJ, J, .inr (.inl va))), (pz, .inl (cZ, J, .inl fi)), (od, .inr (1, [.int wr, .int lf]))] none [(o0, .inr (3, [.ref oL, .ref oS, .ref oT, .ref oj, .ref od, .int 0, .int sm])), (oL, .inr (0, [.ref pL, .ref qL])), (pL, .inl (cJ, n, .inr (.inl fL))), (qL, .inl (cI, n, .inl cL)), (oS, .inr (0, [.ref pS, .ref qS])), (pS, .inl (cJ, n, .inr (.inl fS))), (qS, .inl (cI, n, .inl cS)), (oT, .inr (0, [.ref pT, .ref qT])), (pT, .inl (cJ, n, .inr (.inl fT))), (qT, .inl (cI, n, .inl cT)), (oj, .inr (2, [.ref pf, .ref pt, .ref pv, .ref pz, .int (nI u)])), (pf, .inl (cI, J, .inl fr)), (pt, .inl (cI, J, .inl to)), (pv, .inl (cJ, J, .inr (.inl va))), (pz, .inl (cZ, J, .inl fi)), (od, .inr (1, [.int wr, .int lf]))] 0 0 := by
  refine pj_of (by decide) rfl (Nat.le_of_ble_eq_true rfl) ?_
  intro p e s m below meth c A ls hx hb hml hr hts hown hlocks hin hA hK hP hD hS hG hl
  have hl : lv_has ls 1 [(0, .ref o0)] := hl
  refine lv_aload_n hx hb dR_begin_0 rfl (lv_at hl 0 rfl) ?_
  refine pp_callV (rest := []) (st1 := []) ⟨hx, hb, hml, hown, hts⟩ (c_rP l D cI cJ cZ o0 oL pL qL oS pS qS oT pT qT oj pf pt pv pz od n J u fL fS fT va cL cS cT fr to fi wr lf gs sm hn hJ hu h3) (cwV 0 hts (pj_gV m_244 m_246 m_3 m_19 m_247) rfl rfl rfl (by decide +kernel) ⟨Nat.le_of_ble_eq_true rfl, Nat.le_of_ble_eq_true rfl⟩) pj_no_ok trivial hK hP hD hS hA (ci := 3) (q0 := 0) rfl rfl [0, 1, 2, 3, 4, 5, 6, 7, 8, 9, 10, 11, 12, 13, 14, 15] rfl rfl rfl hl.1 rfl (Nat.le_of_ble_eq_true rfl) dR_begin_1 ⟨Nat.le_of_ble_eq_true rfl, Nat.le_of_ble_eq_true rfl⟩ rfl ?_
  refine lv_aload_n hx hb dR_begin_4 rfl (lv_at hl 0 rfl) ?_
  refine pp_callV (rest := []) (st1 := []) ⟨hx, hb, hml, hown, hts⟩ (c_rN l D cI cJ cZ o0 oL pL qL oS pS qS oT pT qT oj pf pt pv pz od n J u fL fS fT va cL cS cT fr to fi wr lf gs sm hn hJ hu h4) (cwV 0 hts (pj_gV m_304 m_306 m_7 m_19 m_307) rfl rfl rfl (by decide +kernel) ⟨Nat.le_of_ble_eq_true rfl, Nat.le_of_ble_eq_true rfl⟩) pj_no_ok trivial hK hP hD hS hA (ci := 3) (q0 := 0) rfl rfl [0, 1, 2, 3, 4, 5, 6, 7, 8, 9, 10, 11, 12, 13, 14, 15] rfl rfl rfl hl.1 rfl (Nat.le_of_ble_eq_true rfl) dR_begin_5 ⟨Nat.le_of_ble_eq_true rfl, Nat.le_of_ble_eq_true rfl⟩ rfl ?_
  refine lv_aload_n hx hb dR_begin_8 rfl (lv_at hl 0 rfl) ?_
  refine lv_iconst (v := 0) hx hb dR_begin_9 (by decide) ?_
  refine va_put (D := D) (ci := 3) (v := .int 0) (ty := .int) (C := "ReplayJournal") (T := TR) (N := 7) hx hb hts (pj_ups inR) tyR tyR_ok nmR hown hK hP hD hS 0 rfl rfl 5 (by decide) (hts _ (pj_up m_100)) (fun _ h9 => h9) rfl (by decide +kernel) rfl rfl (Nat.le_of_ble_eq_true rfl) dR_begin_10 (fun H locs hP hD hS => ?_)
  have hP : va_P D vwCl [(o0, .inr (3, [.ref oL, .ref oS, .ref oT, .ref oj, .ref od, .int 0, .int sm])), (oL, .inr (0, [.ref pL, .ref qL])), (pL, .inl (cJ, n, .inr (.inl fL))), (qL, .inl (cI, n, .inl cL)), (oS, .inr (0, [.ref pS, .ref qS])), (pS, .inl (cJ, n, .inr (.inl fS))), (qS, .inl (cI, n, .inl cS)), (oT, .inr (0, [.ref pT, .ref qT])), (pT, .inl (cJ, n, .inr (.inl fT))), (qT, .inl (cI, n, .inl cT)), (oj, .inr (2, [.ref pf, .ref pt, .ref pv, .ref pz, .int (nI u)])), (pf, .inl (cI, J, .inl fr)), (pt, .inl (cI, J, .inl to)), (pv, .inl (cJ, J, .inr (.inl va))), (pz, .inl (cZ, J, .inl fi)), (od, .inr (1, [.int wr, .int lf]))] H := hP
  have hD : va_D A [(o0, .inr (3, [.ref oL, .ref oS, .ref oT, .ref oj, .ref od, .int 0, .int sm])), (oL, .inr (0, [.ref pL, .ref qL])), (pL, .inl (cJ, n, .inr (.inl fL))), (qL, .inl (cI, n, .inl cL)), (oS, .inr (0, [.ref pS, .ref qS])), (pS, .inl (cJ, n, .inr (.inl fS))), (qS, .inl (cI, n, .inl cS)), (oT, .inr (0, [.ref pT, .ref qT])), (pT, .inl (cJ, n, .inr (.inl fT))), (qT, .inl (cI, n, .inl cT)), (oj, .inr (2, [.ref pf, .ref pt, .ref pv, .ref pz, .int (nI u)])), (pf, .inl (cI, J, .inl fr)), (pt, .inl (cI, J, .inl to)), (pv, .inl (cJ, J, .inr (.inl va))), (pz, .inl (cZ, J, .inl fi)), (od, .inr (1, [.int wr, .int lf]))] := hD
  exact pj_vret hx hb hr hlocks hP hD hS (rfl) dR_begin_13
set_option maxHeartbeats 4000000 in
set_option maxRecDepth 100000 in
theorem t_begin (l : Launch) (D : va_G) (cI cJ cZ : ClassId) (o0 oL pL qL oS pS qS oT pT qT oj pf pt pv pz od n J u : Nat) (fL fS fT va : Nat → Int64) (cL cS cT fr to fi : Nat → Int32) (wr lf gs sm : Int32) (hn : n < 2 ^ 31) (hJ : J < 2 ^ 31) (hu : u ≤ J) (h : lf = 0 ∨ ¬ gs = -1) (htr : l.stackTraces = false) : pt_X l yR_begin wsR_begin ({ frames := 7, cells := 1, slots := 6, locals := 102 }) D vwCl (pjT cI cJ cZ) pt_G [.ref o0] [(o0, .inr (3, [.ref oL, .ref oS, .ref oT, .ref oj, .ref od, .int gs, .int sm])), (oL, .inr (0, [.ref pL, .ref qL])), (pL, .inl (cJ, n, .inr (.inl fL))), (qL, .inl (cI, n, .inl cL)), (oS, .inr (0, [.ref pS, .ref qS])), (pS, .inl (cJ, n, .inr (.inl fS))), (qS, .inl (cI, n, .inl cS)), (oT, .inr (0, [.ref pT, .ref qT])), (pT, .inl (cJ, n, .inr (.inl fT))), (qT, .inl (cI, n, .inl cT)), (oj, .inr (2, [.ref pf, .ref pt, .ref pv, .ref pz, .int (nI u)])), (pf, .inl (cI, J, .inl fr)), (pt, .inl (cI, J, .inl to)), (pv, .inl (cJ, J, .inr (.inl va))), (pz, .inl (cZ, J, .inl fi)), (od, .inr (1, [.int wr, .int lf]))] "java/lang/IllegalStateException" := by
  refine pt_of (by decide) rfl (Nat.le_of_ble_eq_true rfl) ?_
  intro p e s m below meth c A ls hx hb hml hno hts hown hlocks hA hK hP hD hS hG hl
  have hl : lv_has ls 1 [(0, .ref o0)] := hl
  refine lv_aload_n hx hb dR_begin_0 rfl (lv_at hl 0 rfl) ?_
  by_cases h3 : lf = 0
  · refine pt_callV (rest := []) ⟨hx, hb, hml, hown, hts⟩ (t_rP l D cI cJ cZ o0 oL pL qL oS pS qS oT pT qT oj pf pt pv pz od n J u fL fS fT va cL cS cT fr to fi wr lf gs sm hn hJ hu h3 htr) (cwV 0 hts (pj_gV m_244 m_246 m_3 m_19 m_247) rfl rfl rfl (by decide +kernel) ⟨Nat.le_of_ble_eq_true rfl, Nat.le_of_ble_eq_true rfl⟩) pt_G_ok hG hK hP hD hS hA (ci := 3) (q0 := 0) rfl rfl [0, 1, 2, 3, 4, 5, 6, 7, 8, 9, 10, 11, 12, 13, 14, 15] rfl rfl rfl hl.1 rfl (Nat.le_of_ble_eq_true rfl) dR_begin_1 ⟨Nat.le_of_ble_eq_true rfl, Nat.le_of_ble_eq_true rfl⟩ (fun x ce H1 z1 z2 z3 z4 z5 => ?_)
    exact pt_out z1 z2 z3 z4 z5 hno hlocks
  · refine pp_callV (rest := []) (st1 := []) ⟨hx, hb, hml, hown, hts⟩ (c_rP l D cI cJ cZ o0 oL pL qL oS pS qS oT pT qT oj pf pt pv pz od n J u fL fS fT va cL cS cT fr to fi wr lf gs sm hn hJ hu h3) (cwV 0 hts (pj_gV m_244 m_246 m_3 m_19 m_247) rfl rfl rfl (by decide +kernel) ⟨Nat.le_of_ble_eq_true rfl, Nat.le_of_ble_eq_true rfl⟩) pj_no_ok trivial hK hP hD hS hA (ci := 3) (q0 := 0) rfl rfl [0, 1, 2, 3, 4, 5, 6, 7, 8, 9, 10, 11, 12, 13, 14, 15] rfl rfl rfl hl.1 rfl (Nat.le_of_ble_eq_true rfl) dR_begin_1 ⟨Nat.le_of_ble_eq_true rfl, Nat.le_of_ble_eq_true rfl⟩ rfl ?_
    refine lv_aload_n hx hb dR_begin_4 rfl (lv_at hl 0 rfl) ?_
    refine pt_callV (rest := []) ⟨hx, hb, hml, hown, hts⟩ (t_rN l D cI cJ cZ o0 oL pL qL oS pS qS oT pT qT oj pf pt pv pz od n J u fL fS fT va cL cS cT fr to fi wr lf gs sm hn hJ hu (h.resolve_left h3) htr) (cwV 0 hts (pj_gV m_304 m_306 m_7 m_19 m_307) rfl rfl rfl (by decide +kernel) ⟨Nat.le_of_ble_eq_true rfl, Nat.le_of_ble_eq_true rfl⟩) pt_G_ok hG hK hP hD hS hA (ci := 3) (q0 := 0) rfl rfl [0, 1, 2, 3, 4, 5, 6, 7, 8, 9, 10, 11, 12, 13, 14, 15] rfl rfl rfl hl.1 rfl (Nat.le_of_ble_eq_true rfl) dR_begin_5 ⟨Nat.le_of_ble_eq_true rfl, Nat.le_of_ble_eq_true rfl⟩ (fun x ce H1 z1 z2 z3 z4 z5 => ?_)
    exact pt_out z1 z2 z3 z4 z5 hno hlocks
set_option maxHeartbeats 4000000 in
set_option maxRecDepth 100000 in
theorem c_drop (l : Launch) (D : va_G) (cI cJ cZ : ClassId) (o0 oL pL qL oS pS qS oT pT qT oj pf pt pv pz od n J u : Nat) (fL fS fT va : Nat → Int64) (cL cS cT fr to fi : Nat → Int32) (wr lf gs sm : Int32) (hn : n < 2 ^ 31) (hJ : J < 2 ^ 31) (hu : u ≤ J) (h3 : ¬ lf = 0) (h4 : ¬ gs = -1) : pj_Met l yR_drop wsR_drop ({ frames := 7, cells := 0, slots := 0, locals := 102 }) D vwCl (pjT cI cJ cZ) pj_no [.ref o0] [(o0, .inr (3, [.ref oL, .ref oS, .ref oT, .ref oj, .ref od, .int gs, .int sm])), (oL, .inr (0, [.ref pL, .ref qL])), (pL, .inl (cJ, n, .inr (.inl fL))), (qL, .inl (cI, n, .inl cL)), (oS, .inr (0, [.ref pS, .ref qS])), (pS, .inl (cJ, n, .inr (.inl fS))), (qS, .inl (cI, n, .inl cS)), (oT, .inr (0, [.ref pT, .ref qT])), (pT, .inl (cJ, n, .inr (.inl fT))), (qT, .inl (cI, n, .inl cT)), (oj, .inr (2, [.ref pf, .ref pt, .ref pv, .ref pz, .int (nI u)])), (pf, .inl (cI, J, .inl fr)), (pt, .inl (cI, J, .inl to)), (pv, .inl (cJ, J, .inr (.inl va))), (pz, .inl (cZ, J, .inl fi)), (od, .inr (1, [.int wr, .int lf]))] (some (.int gs)) [(o0, .inr (3, [.ref oL, .ref oS, .ref oT, .ref oj, .ref od, .int (-1), .int sm])), (oL, .inr (0, [.ref pL, .ref qL])), (pL, .inl (cJ, n, .inr (.inl fL))), (qL, .inl (cI, n, .inl cL)), (oS, .inr (0, [.ref pS, .ref qS])), (pS, .inl (cJ, n, .inr (.inl fS))), (qS, .inl (cI, n, .inl cS)), (oT, .inr (0, [.ref pT, .ref qT])), (pT, .inl (cJ, n, .inr (.inl fT))), (qT, .inl (cI, n, .inl cT)), (oj, .inr (2, [.ref pf, .ref pt, .ref pv, .ref pz, .int (nI u)])), (pf, .inl (cI, J, .inl fr)), (pt, .inl (cI, J, .inl to)), (pv, .inl (cJ, J, .inr (.inl va))), (pz, .inl (cZ, J, .inl fi)), (od, .inr (1, [.int wr, .int lf]))] 0 0 := by
  refine pj_of (by decide) rfl (Nat.le_of_ble_eq_true rfl) ?_
  intro p e s m below meth c A ls hx hb hml hr hts hown hlocks hin hA hK hP hD hS hG hl
  have hl : lv_has ls 2 [(0, .ref o0)] := hl
  refine lv_aload_n hx hb dR_drop_0 rfl (lv_at hl 0 rfl) ?_
  refine pp_callV (rest := []) (st1 := []) ⟨hx, hb, hml, hown, hts⟩ (c_rP l D cI cJ cZ o0 oL pL qL oS pS qS oT pT qT oj pf pt pv pz od n J u fL fS fT va cL cS cT fr to fi wr lf gs sm hn hJ hu h3) (cwV 0 hts (pj_gV m_244 m_246 m_3 m_19 m_247) rfl rfl rfl (by decide +kernel) ⟨Nat.le_of_ble_eq_true rfl, Nat.le_of_ble_eq_true rfl⟩) pj_no_ok trivial hK hP hD hS hA (ci := 3) (q0 := 0) rfl rfl [0, 1, 2, 3, 4, 5, 6, 7, 8, 9, 10, 11, 12, 13, 14, 15] rfl rfl rfl hl.1 rfl (Nat.le_of_ble_eq_true rfl) dR_drop_1 ⟨Nat.le_of_ble_eq_true rfl, Nat.le_of_ble_eq_true rfl⟩ rfl ?_
  refine lv_aload_n hx hb dR_drop_4 rfl (lv_at hl 0 rfl) ?_
  refine pp_callV (rest := []) (st1 := []) ⟨hx, hb, hml, hown, hts⟩ (c_rG l D cI cJ cZ o0 oL pL qL oS pS qS oT pT qT oj pf pt pv pz od n J u fL fS fT va cL cS cT fr to fi wr lf gs sm hn hJ hu h4) (cwV 0 hts (pj_gV m_316 m_318 m_8 m_19 m_319) rfl rfl rfl (by decide +kernel) ⟨Nat.le_of_ble_eq_true rfl, Nat.le_of_ble_eq_true rfl⟩) pj_no_ok trivial hK hP hD hS hA (ci := 3) (q0 := 0) rfl rfl [0, 1, 2, 3, 4, 5, 6, 7, 8, 9, 10, 11, 12, 13, 14, 15] rfl rfl rfl hl.1 rfl (Nat.le_of_ble_eq_true rfl) dR_drop_5 ⟨Nat.le_of_ble_eq_true rfl, Nat.le_of_ble_eq_true rfl⟩ rfl ?_
  refine lv_aload_n hx hb dR_drop_8 rfl (lv_at hl 0 rfl) ?_
  refine va_get (D := D) (ci := 3) (v := .int gs) (C := "ReplayJournal") (T := TR) (N := 7) hx hb hts (pj_ups inR) hown hK hP 0 rfl rfl 5 (by decide) (hts _ (pj_up m_100)) (fun _ h9 => h9) rfl dR_drop_9 ?_
  refine lv_istore_n (lv' := [(1, .int gs), (0, .ref o0)]) hx hb dR_drop_12 rfl hl (by decide) rfl (fun ls hl => ?_)
  refine lv_aload_n hx hb dR_drop_13 rfl (lv_at hl 1 rfl) ?_
  refine lv_iconst (v := -1) hx hb dR_drop_14 (by decide) ?_
  refine va_put (D := D) (ci := 3) (v := .int (-1)) (ty := .int) (C := "ReplayJournal") (T := TR) (N := 7) hx hb hts (pj_ups inR) tyR tyR_ok nmR hown hK hP hD hS 0 rfl rfl 5 (by decide) (hts _ (pj_up m_100)) (fun _ h9 => h9) rfl (by decide +kernel) rfl rfl (Nat.le_of_ble_eq_true rfl) dR_drop_15 (fun H locs hP hD hS => ?_)
  have hP : va_P D vwCl [(o0, .inr (3, [.ref oL, .ref oS, .ref oT, .ref oj, .ref od, .int (-1), .int sm])), (oL, .inr (0, [.ref pL, .ref qL])), (pL, .inl (cJ, n, .inr (.inl fL))), (qL, .inl (cI, n, .inl cL)), (oS, .inr (0, [.ref pS, .ref qS])), (pS, .inl (cJ, n, .inr (.inl fS))), (qS, .inl (cI, n, .inl cS)), (oT, .inr (0, [.ref pT, .ref qT])), (pT, .inl (cJ, n, .inr (.inl fT))), (qT, .inl (cI, n, .inl cT)), (oj, .inr (2, [.ref pf, .ref pt, .ref pv, .ref pz, .int (nI u)])), (pf, .inl (cI, J, .inl fr)), (pt, .inl (cI, J, .inl to)), (pv, .inl (cJ, J, .inr (.inl va))), (pz, .inl (cZ, J, .inl fi)), (od, .inr (1, [.int wr, .int lf]))] H := hP
  have hD : va_D A [(o0, .inr (3, [.ref oL, .ref oS, .ref oT, .ref oj, .ref od, .int (-1), .int sm])), (oL, .inr (0, [.ref pL, .ref qL])), (pL, .inl (cJ, n, .inr (.inl fL))), (qL, .inl (cI, n, .inl cL)), (oS, .inr (0, [.ref pS, .ref qS])), (pS, .inl (cJ, n, .inr (.inl fS))), (qS, .inl (cI, n, .inl cS)), (oT, .inr (0, [.ref pT, .ref qT])), (pT, .inl (cJ, n, .inr (.inl fT))), (qT, .inl (cI, n, .inl cT)), (oj, .inr (2, [.ref pf, .ref pt, .ref pv, .ref pz, .int (nI u)])), (pf, .inl (cI, J, .inl fr)), (pt, .inl (cI, J, .inl to)), (pv, .inl (cJ, J, .inr (.inl va))), (pz, .inl (cZ, J, .inl fi)), (od, .inr (1, [.int wr, .int lf]))] := hD
  refine lv_iload_n hx hb dR_drop_18 rfl (lv_at hl 0 rfl) ?_
  exact pj_iret hx hb hr hlocks hP hD hS (rfl) (rfl) dR_drop_19
set_option maxHeartbeats 4000000 in
set_option maxRecDepth 100000 in
theorem t_drop (l : Launch) (D : va_G) (cI cJ cZ : ClassId) (o0 oL pL qL oS pS qS oT pT qT oj pf pt pv pz od n J u : Nat) (fL fS fT va : Nat → Int64) (cL cS cT fr to fi : Nat → Int32) (wr lf gs sm : Int32) (hn : n < 2 ^ 31) (hJ : J < 2 ^ 31) (hu : u ≤ J) (h : lf = 0 ∨ gs = -1) (htr : l.stackTraces = false) : pt_X l yR_drop wsR_drop ({ frames := 7, cells := 1, slots := 6, locals := 102 }) D vwCl (pjT cI cJ cZ) pt_G [.ref o0] [(o0, .inr (3, [.ref oL, .ref oS, .ref oT, .ref oj, .ref od, .int gs, .int sm])), (oL, .inr (0, [.ref pL, .ref qL])), (pL, .inl (cJ, n, .inr (.inl fL))), (qL, .inl (cI, n, .inl cL)), (oS, .inr (0, [.ref pS, .ref qS])), (pS, .inl (cJ, n, .inr (.inl fS))), (qS, .inl (cI, n, .inl cS)), (oT, .inr (0, [.ref pT, .ref qT])), (pT, .inl (cJ, n, .inr (.inl fT))), (qT, .inl (cI, n, .inl cT)), (oj, .inr (2, [.ref pf, .ref pt, .ref pv, .ref pz, .int (nI u)])), (pf, .inl (cI, J, .inl fr)), (pt, .inl (cI, J, .inl to)), (pv, .inl (cJ, J, .inr (.inl va))), (pz, .inl (cZ, J, .inl fi)), (od, .inr (1, [.int wr, .int lf]))] "java/lang/IllegalStateException" := by
  refine pt_of (by decide) rfl (Nat.le_of_ble_eq_true rfl) ?_
  intro p e s m below meth c A ls hx hb hml hno hts hown hlocks hA hK hP hD hS hG hl
  have hl : lv_has ls 2 [(0, .ref o0)] := hl
  refine lv_aload_n hx hb dR_drop_0 rfl (lv_at hl 0 rfl) ?_
  by_cases h3 : lf = 0
  · refine pt_callV (rest := []) ⟨hx, hb, hml, hown, hts⟩ (t_rP l D cI cJ cZ o0 oL pL qL oS pS qS oT pT qT oj pf pt pv pz od n J u fL fS fT va cL cS cT fr to fi wr lf gs sm hn hJ hu h3 htr) (cwV 0 hts (pj_gV m_244 m_246 m_3 m_19 m_247) rfl rfl rfl (by decide +kernel) ⟨Nat.le_of_ble_eq_true rfl, Nat.le_of_ble_eq_true rfl⟩) pt_G_ok hG hK hP hD hS hA (ci := 3) (q0 := 0) rfl rfl [0, 1, 2, 3, 4, 5, 6, 7, 8, 9, 10, 11, 12, 13, 14, 15] rfl rfl rfl hl.1 rfl (Nat.le_of_ble_eq_true rfl) dR_drop_1 ⟨Nat.le_of_ble_eq_true rfl, Nat.le_of_ble_eq_true rfl⟩ (fun x ce H1 z1 z2 z3 z4 z5 => ?_)
    exact pt_out z1 z2 z3 z4 z5 hno hlocks
  · refine pp_callV (rest := []) (st1 := []) ⟨hx, hb, hml, hown, hts⟩ (c_rP l D cI cJ cZ o0 oL pL qL oS pS qS oT pT qT oj pf pt pv pz od n J u fL fS fT va cL cS cT fr to fi wr lf gs sm hn hJ hu h3) (cwV 0 hts (pj_gV m_244 m_246 m_3 m_19 m_247) rfl rfl rfl (by decide +kernel) ⟨Nat.le_of_ble_eq_true rfl, Nat.le_of_ble_eq_true rfl⟩) pj_no_ok trivial hK hP hD hS hA (ci := 3) (q0 := 0) rfl rfl [0, 1, 2, 3, 4, 5, 6, 7, 8, 9, 10, 11, 12, 13, 14, 15] rfl rfl rfl hl.1 rfl (Nat.le_of_ble_eq_true rfl) dR_drop_1 ⟨Nat.le_of_ble_eq_true rfl, Nat.le_of_ble_eq_true rfl⟩ rfl ?_
    refine lv_aload_n hx hb dR_drop_4 rfl (lv_at hl 0 rfl) ?_
    refine pt_callV (rest := []) ⟨hx, hb, hml, hown, hts⟩ (t_rG l D cI cJ cZ o0 oL pL qL oS pS qS oT pT qT oj pf pt pv pz od n J u fL fS fT va cL cS cT fr to fi wr lf gs sm hn hJ hu (h.resolve_left h3) htr) (cwV 0 hts (pj_gV m_316 m_318 m_8 m_19 m_319) rfl rfl rfl (by decide +kernel) ⟨Nat.le_of_ble_eq_true rfl, Nat.le_of_ble_eq_true rfl⟩) pt_G_ok hG hK hP hD hS hA (ci := 3) (q0 := 0) rfl rfl [0, 1, 2, 3, 4, 5, 6, 7, 8, 9, 10, 11, 12, 13, 14, 15] rfl rfl rfl hl.1 rfl (Nat.le_of_ble_eq_true rfl) dR_drop_5 ⟨Nat.le_of_ble_eq_true rfl, Nat.le_of_ble_eq_true rfl⟩ (fun x ce H1 z1 z2 z3 z4 z5 => ?_)
    exact pt_out z1 z2 z3 z4 z5 hno hlocks
set_option maxHeartbeats 4000000 in
set_option maxRecDepth 100000 in
theorem t_end (l : Launch) (D : va_G) (cI cJ cZ : ClassId) (o0 oL pL qL oS pS qS oT pT qT oj pf pt pv pz od n J u : Nat) (fL fS fT va : Nat → Int64) (cL cS cT fr to fi : Nat → Int32) (wr lf gs sm : Int32) (hn : n < 2 ^ 31) (hJ : J < 2 ^ 31) (hu : u ≤ J) (h : lf = 0 ∨ gs = -1) (htr : l.stackTraces = false) : pt_X l yR_end wsR_end ({ frames := 7, cells := 1, slots := 6, locals := 102 }) D vwCl (pjT cI cJ cZ) pt_G [.ref o0] [(o0, .inr (3, [.ref oL, .ref oS, .ref oT, .ref oj, .ref od, .int gs, .int sm])), (oL, .inr (0, [.ref pL, .ref qL])), (pL, .inl (cJ, n, .inr (.inl fL))), (qL, .inl (cI, n, .inl cL)), (oS, .inr (0, [.ref pS, .ref qS])), (pS, .inl (cJ, n, .inr (.inl fS))), (qS, .inl (cI, n, .inl cS)), (oT, .inr (0, [.ref pT, .ref qT])), (pT, .inl (cJ, n, .inr (.inl fT))), (qT, .inl (cI, n, .inl cT)), (oj, .inr (2, [.ref pf, .ref pt, .ref pv, .ref pz, .int (nI u)])), (pf, .inl (cI, J, .inl fr)), (pt, .inl (cI, J, .inl to)), (pv, .inl (cJ, J, .inr (.inl va))), (pz, .inl (cZ, J, .inl fi)), (od, .inr (1, [.int wr, .int lf]))] "java/lang/IllegalStateException" := by
  refine pt_of (by decide) rfl (Nat.le_of_ble_eq_true rfl) ?_
  intro p e s m below meth c A ls hx hb hml hno hts hown hlocks hA hK hP hD hS hG hl
  have hl : lv_has ls 2 [(0, .ref o0)] := hl
  refine lv_aload_n hx hb dR_end_0 rfl (lv_at hl 0 rfl) ?_
  by_cases h3 : lf = 0
  · refine pt_callV (rest := []) ⟨hx, hb, hml, hown, hts⟩ (t_rP l D cI cJ cZ o0 oL pL qL oS pS qS oT pT qT oj pf pt pv pz od n J u fL fS fT va cL cS cT fr to fi wr lf gs sm hn hJ hu h3 htr) (cwV 0 hts (pj_gV m_244 m_246 m_3 m_19 m_247) rfl rfl rfl (by decide +kernel) ⟨Nat.le_of_ble_eq_true rfl, Nat.le_of_ble_eq_true rfl⟩) pt_G_ok hG hK hP hD hS hA (ci := 3) (q0 := 0) rfl rfl [0, 1, 2, 3, 4, 5, 6, 7, 8, 9, 10, 11, 12, 13, 14, 15] rfl rfl rfl hl.1 rfl (Nat.le_of_ble_eq_true rfl) dR_end_1 ⟨Nat.le_of_ble_eq_true rfl, Nat.le_of_ble_eq_true rfl⟩ (fun x ce H1 z1 z2 z3 z4 z5 => ?_)
    exact pt_out z1 z2 z3 z4 z5 hno hlocks
  · refine pp_callV (rest := []) (st1 := []) ⟨hx, hb, hml, hown, hts⟩ (c_rP l D cI cJ cZ o0 oL pL qL oS pS qS oT pT qT oj pf pt pv pz od n J u fL fS fT va cL cS cT fr to fi wr lf gs sm hn hJ hu h3) (cwV 0 hts (pj_gV m_244 m_246 m_3 m_19 m_247) rfl rfl rfl (by decide +kernel) ⟨Nat.le_of_ble_eq_true rfl, Nat.le_of_ble_eq_true rfl⟩) pj_no_ok trivial hK hP hD hS hA (ci := 3) (q0 := 0) rfl rfl [0, 1, 2, 3, 4, 5, 6, 7, 8, 9, 10, 11, 12, 13, 14, 15] rfl rfl rfl hl.1 rfl (Nat.le_of_ble_eq_true rfl) dR_end_1 ⟨Nat.le_of_ble_eq_true rfl, Nat.le_of_ble_eq_true rfl⟩ rfl ?_
    refine lv_aload_n hx hb dR_end_4 rfl (lv_at hl 0 rfl) ?_
    refine pt_callV (rest := []) ⟨hx, hb, hml, hown, hts⟩ (t_rG l D cI cJ cZ o0 oL pL qL oS pS qS oT pT qT oj pf pt pv pz od n J u fL fS fT va cL cS cT fr to fi wr lf gs sm hn hJ hu (h.resolve_left h3) htr) (cwV 0 hts (pj_gV m_316 m_318 m_8 m_19 m_319) rfl rfl rfl (by decide +kernel) ⟨Nat.le_of_ble_eq_true rfl, Nat.le_of_ble_eq_true rfl⟩) pt_G_ok hG hK hP hD hS hA (ci := 3) (q0 := 0) rfl rfl [0, 1, 2, 3, 4, 5, 6, 7, 8, 9, 10, 11, 12, 13, 14, 15] rfl rfl rfl hl.1 rfl (Nat.le_of_ble_eq_true rfl) dR_end_5 ⟨Nat.le_of_ble_eq_true rfl, Nat.le_of_ble_eq_true rfl⟩ (fun x ce H1 z1 z2 z3 z4 z5 => ?_)
    exact pt_out z1 z2 z3 z4 z5 hno hlocks
set_option maxHeartbeats 4000000 in
set_option maxRecDepth 100000 in
theorem t_snap (l : Launch) (D : va_G) (cI cJ cZ : ClassId) (o0 oL pL qL oS pS qS oT pT qT oj pf pt pv pz od n J u : Nat) (fL fS fT va : Nat → Int64) (cL cS cT fr to fi : Nat → Int32) (wr lf gs sm : Int32) (hn : n < 2 ^ 31) (hJ : J < 2 ^ 31) (hu : u ≤ J) (h : lf = 0 ∨ ¬ gs = -1) (htr : l.stackTraces = false) : pt_X l yR_snapshot wsR_snapshot ({ frames := 7, cells := 1, slots := 6, locals := 102 }) D vwCl (pjT cI cJ cZ) pt_G [.ref o0] [(o0, .inr (3, [.ref oL, .ref oS, .ref oT, .ref oj, .ref od, .int gs, .int sm])), (oL, .inr (0, [.ref pL, .ref qL])), (pL, .inl (cJ, n, .inr (.inl fL))), (qL, .inl (cI, n, .inl cL)), (oS, .inr (0, [.ref pS, .ref qS])), (pS, .inl (cJ, n, .inr (.inl fS))), (qS, .inl (cI, n, .inl cS)), (oT, .inr (0, [.ref pT, .ref qT])), (pT, .inl (cJ, n, .inr (.inl fT))), (qT, .inl (cI, n, .inl cT)), (oj, .inr (2, [.ref pf, .ref pt, .ref pv, .ref pz, .int (nI u)])), (pf, .inl (cI, J, .inl fr)), (pt, .inl (cI, J, .inl to)), (pv, .inl (cJ, J, .inr (.inl va))), (pz, .inl (cZ, J, .inl fi)), (od, .inr (1, [.int wr, .int lf]))] "java/lang/IllegalStateException" := by
  refine pt_of (by decide) rfl (Nat.le_of_ble_eq_true rfl) ?_
  intro p e s m below meth c A ls hx hb hml hno hts hown hlocks hA hK hP hD hS hG hl
  have hl : lv_has ls 2 [(0, .ref o0)] := hl
  refine lv_aload_n hx hb dR_snapshot_0 rfl (lv_at hl 0 rfl) ?_
  by_cases h3 : lf = 0
  · refine pt_callV (rest := []) ⟨hx, hb, hml, hown, hts⟩ (t_rP l D cI cJ cZ o0 oL pL qL oS pS qS oT pT qT oj pf pt pv pz od n J u fL fS fT va cL cS cT fr to fi wr lf gs sm hn hJ hu h3 htr) (cwV 0 hts (pj_gV m_244 m_246 m_3 m_19 m_247) rfl rfl rfl (by decide +kernel) ⟨Nat.le_of_ble_eq_true rfl, Nat.le_of_ble_eq_true rfl⟩) pt_G_ok hG hK hP hD hS hA (ci := 3) (q0 := 0) rfl rfl [0, 1, 2, 3, 4, 5, 6, 7, 8, 9, 10, 11, 12, 13, 14, 15] rfl rfl rfl hl.1 rfl (Nat.le_of_ble_eq_true rfl) dR_snapshot_1 ⟨Nat.le_of_ble_eq_true rfl, Nat.le_of_ble_eq_true rfl⟩ (fun x ce H1 z1 z2 z3 z4 z5 => ?_)
    exact pt_out z1 z2 z3 z4 z5 hno hlocks
  · refine pp_callV (rest := []) (st1 := []) ⟨hx, hb, hml, hown, hts⟩ (c_rP l D cI cJ cZ o0 oL pL qL oS pS qS oT pT qT oj pf pt pv pz od n J u fL fS fT va cL cS cT fr to fi wr lf gs sm hn hJ hu h3) (cwV 0 hts (pj_gV m_244 m_246 m_3 m_19 m_247) rfl rfl rfl (by decide +kernel) ⟨Nat.le_of_ble_eq_true rfl, Nat.le_of_ble_eq_true rfl⟩) pj_no_ok trivial hK hP hD hS hA (ci := 3) (q0 := 0) rfl rfl [0, 1, 2, 3, 4, 5, 6, 7, 8, 9, 10, 11, 12, 13, 14, 15] rfl rfl rfl hl.1 rfl (Nat.le_of_ble_eq_true rfl) dR_snapshot_1 ⟨Nat.le_of_ble_eq_true rfl, Nat.le_of_ble_eq_true rfl⟩ rfl ?_
    refine lv_aload_n hx hb dR_snapshot_4 rfl (lv_at hl 0 rfl) ?_
    refine pt_callV (rest := []) ⟨hx, hb, hml, hown, hts⟩ (t_rN l D cI cJ cZ o0 oL pL qL oS pS qS oT pT qT oj pf pt pv pz od n J u fL fS fT va cL cS cT fr to fi wr lf gs sm hn hJ hu (h.resolve_left h3) htr) (cwV 0 hts (pj_gV m_304 m_306 m_7 m_19 m_307) rfl rfl rfl (by decide +kernel) ⟨Nat.le_of_ble_eq_true rfl, Nat.le_of_ble_eq_true rfl⟩) pt_G_ok hG hK hP hD hS hA (ci := 3) (q0 := 0) rfl rfl [0, 1, 2, 3, 4, 5, 6, 7, 8, 9, 10, 11, 12, 13, 14, 15] rfl rfl rfl hl.1 rfl (Nat.le_of_ble_eq_true rfl) dR_snapshot_5 ⟨Nat.le_of_ble_eq_true rfl, Nat.le_of_ble_eq_true rfl⟩ (fun x ce H1 z1 z2 z3 z4 z5 => ?_)
    exact pt_out z1 z2 z3 z4 z5 hno hlocks
set_option maxHeartbeats 4000000 in
set_option maxRecDepth 100000 in
theorem c_crash (l : Launch) (D : va_G) (cI cJ cZ : ClassId) (o0 oL pL qL oS pS qS oT pT qT oj pf pt pv pz od n J u : Nat) (fL fS fT va : Nat → Int64) (cL cS cT fr to fi : Nat → Int32) (wr lf gs sm : Int32) (hn : n < 2 ^ 31) (hJ : J < 2 ^ 31) (hu : u ≤ J) (x : Int32) (h2 : ¬ x.toInt64 < (-1) ∧ ¬ (1000 : Int64) < x.toInt64) (h3 : ¬ lf = 0) : pj_Met l yR_crash wsR_crash ({ frames := 7, cells := 0, slots := 0, locals := 107 }) D vwCl (pjT cI cJ cZ) pj_no [.ref o0, .int x] [(o0, .inr (3, [.ref oL, .ref oS, .ref oT, .ref oj, .ref od, .int gs, .int sm])), (oL, .inr (0, [.ref pL, .ref qL])), (pL, .inl (cJ, n, .inr (.inl fL))), (qL, .inl (cI, n, .inl cL)), (oS, .inr (0, [.ref pS, .ref qS])), (pS, .inl (cJ, n, .inr (.inl fS))), (qS, .inl (cI, n, .inl cS)), (oT, .inr (0, [.ref pT, .ref qT])), (pT, .inl (cJ, n, .inr (.inl fT))), (qT, .inl (cI, n, .inl cT)), (oj, .inr (2, [.ref pf, .ref pt, .ref pv, .ref pz, .int (nI u)])), (pf, .inl (cI, J, .inl fr)), (pt, .inl (cI, J, .inl to)), (pv, .inl (cJ, J, .inr (.inl va))), (pz, .inl (cZ, J, .inl fi)), (od, .inr (1, [.int wr, .int lf]))] none [(o0, .inr (3, [.ref oL, .ref oS, .ref oT, .ref oj, .ref od, .int gs, .int sm])), (oL, .inr (0, [.ref pL, .ref qL])), (pL, .inl (cJ, n, .inr (.inl fL))), (qL, .inl (cI, n, .inl cL)), (oS, .inr (0, [.ref pS, .ref qS])), (pS, .inl (cJ, n, .inr (.inl fS))), (qS, .inl (cI, n, .inl cS)), (oT, .inr (0, [.ref pT, .ref qT])), (pT, .inl (cJ, n, .inr (.inl fT))), (qT, .inl (cI, n, .inl cT)), (oj, .inr (2, [.ref pf, .ref pt, .ref pv, .ref pz, .int (nI u)])), (pf, .inl (cI, J, .inl fr)), (pt, .inl (cI, J, .inl to)), (pv, .inl (cJ, J, .inr (.inl va))), (pz, .inl (cZ, J, .inl fi)), (od, .inr (1, [.int wr, .int x]))] 0 0 := by
  refine pj_of (by decide) rfl (Nat.le_of_ble_eq_true rfl) ?_
  intro p e s m below meth c A ls hx hb hml hr hts hown hlocks hin hA hK hP hD hS hG hl
  have hl : lv_has ls 2 [(0, .ref o0), (1, .int x)] := hl
  refine lv_iload_n hx hb dR_crash_0 rfl (lv_at hl 1 rfl) ?_
  refine lv_i2l hx hb dR_crash_1 rfl ?_
  refine lv_ldc2 (v := (-1)) hx hb hown (hts _ (pj_up m_374)) dR_crash_2 ?_
  refine lv_ldc2 (v := 1000) hx hb hown (hts _ (pj_up m_375)) dR_crash_5 ?_
  refine pp_callS (rest := []) (st1 := []) ⟨hx, hb, hml, hown, hts⟩ (c_rB l D cI cJ cZ o0 oL pL qL oS pS qS oT pT qT oj pf pt pv pz od n J u fL fS fT va cL cS cT fr to fi wr lf gs sm hn hJ hu x.toInt64 (-1) 1000 h2) (cwS 3 hts (pj_gS m_240 m_241 m_19 m_242) rfl rfl rfl (by decide +kernel) ⟨Nat.le_of_ble_eq_true rfl, Nat.le_of_ble_eq_true rfl⟩) pj_no_ok trivial hK hP hD hS hA [0, 1, 2, 3, 4, 5, 6, 7, 8, 9, 10, 11, 12, 13, 14, 15] rfl rfl rfl hl.1 rfl (Nat.le_of_ble_eq_true rfl) dR_crash_8 ⟨Nat.le_of_ble_eq_true rfl, Nat.le_of_ble_eq_true rfl⟩ rfl ?_
  refine lv_aload_n hx hb dR_crash_11 rfl (lv_at hl 0 rfl) ?_
  refine pp_callV (rest := []) (st1 := []) ⟨hx, hb, hml, hown, hts⟩ (c_rP l D cI cJ cZ o0 oL pL qL oS pS qS oT pT qT oj pf pt pv pz od n J u fL fS fT va cL cS cT fr to fi wr lf gs sm hn hJ hu h3) (cwV 0 hts (pj_gV m_244 m_246 m_3 m_19 m_247) rfl rfl rfl (by decide +kernel) ⟨Nat.le_of_ble_eq_true rfl, Nat.le_of_ble_eq_true rfl⟩) pj_no_ok trivial hK hP hD hS hA (ci := 3) (q0 := 0) rfl rfl [0, 1, 2, 3, 4, 5, 6, 7, 8, 9, 10, 11, 12, 13, 14, 15] rfl rfl rfl hl.1 rfl (Nat.le_of_ble_eq_true rfl) dR_crash_12 ⟨Nat.le_of_ble_eq_true rfl, Nat.le_of_ble_eq_true rfl⟩ rfl ?_
  refine lv_aload_n hx hb dR_crash_15 rfl (lv_at hl 0 rfl) ?_
  refine va_get (D := D) (ci := 3) (v := .ref od) (C := "ReplayJournal") (T := TR) (N := 7) hx hb hts (pj_ups inR) hown hK hP 0 rfl rfl 4 (by decide) (hts _ (pj_up m_99)) (fun _ h9 => h9) rfl dR_crash_16 ?_
  refine lv_iload_n hx hb dR_crash_19 rfl (lv_at hl 1 rfl) ?_
  refine pj_callV (w2 := [(o0, .inr (3, [.ref oL, .ref oS, .ref oT, .ref oj, .ref od, .int gs, .int sm])), (oL, .inr (0, [.ref pL, .ref qL])), (pL, .inl (cJ, n, .inr (.inl fL))), (qL, .inl (cI, n, .inl cL)), (oS, .inr (0, [.ref pS, .ref qS])), (pS, .inl (cJ, n, .inr (.inl fS))), (qS, .inl (cI, n, .inl cS)), (oT, .inr (0, [.ref pT, .ref qT])), (pT, .inl (cJ, n, .inr (.inl fT))), (qT, .inl (cI, n, .inl cT)), (oj, .inr (2, [.ref pf, .ref pt, .ref pv, .ref pz, .int (nI u)])), (pf, .inl (cI, J, .inl fr)), (pt, .inl (cI, J, .inl to)), (pv, .inl (cJ, J, .inr (.inl va))), (pz, .inl (cZ, J, .inl fi)), (od, .inr (1, [.int wr, .int x]))]) (wr := [(o0, .inr (3, [.ref oL, .ref oS, .ref oT, .ref oj, .ref od, .int gs, .int sm])), (oL, .inr (0, [.ref pL, .ref qL])), (pL, .inl (cJ, n, .inr (.inl fL))), (qL, .inl (cI, n, .inl cL)), (oS, .inr (0, [.ref pS, .ref qS])), (pS, .inl (cJ, n, .inr (.inl fS))), (qS, .inl (cI, n, .inl cS)), (oT, .inr (0, [.ref pT, .ref qT])), (pT, .inl (cJ, n, .inr (.inl fT))), (qT, .inl (cI, n, .inl cT)), (oj, .inr (2, [.ref pf, .ref pt, .ref pv, .ref pz, .int (nI u)])), (pf, .inl (cI, J, .inl fr)), (pt, .inl (cI, J, .inl to)), (pv, .inl (cJ, J, .inr (.inl va))), (pz, .inl (cZ, J, .inl fi))]) (rest := []) (st1 := []) ⟨hx, hb, hml, hown, hts⟩ (c_failAfter l D cI cJ cZ od wr lf x) (cwV 1 hts (pj_gV m_376 m_377 m_378 m_23 m_379) rfl rfl rfl (by decide +kernel) ⟨Nat.le_of_ble_eq_true rfl, Nat.le_of_ble_eq_true rfl⟩) pj_no_ok trivial hK hP hD hS hA (ci := 1) (q0 := 0) rfl rfl [15] [0, 1, 2, 3, 4, 5, 6, 7, 8, 9, 10, 11, 12, 13, 14] [0, 1, 2, 3, 4, 5, 6, 7, 8, 9, 10, 11, 12, 13, 14, 15] rfl rfl rfl rfl (by decide) rfl rfl rfl hl.1 rfl (Nat.le_of_ble_eq_true rfl) dR_crash_20 ⟨Nat.le_of_ble_eq_true rfl, Nat.le_of_ble_eq_true rfl⟩ rfl rfl rfl (fun H locs hP hD hS => ?_)
  exact pj_vret hx hb hr hlocks hP hD hS (rfl) dR_crash_23
set_option maxHeartbeats 4000000 in
set_option maxRecDepth 100000 in
theorem t_crash_A (l : Launch) (D : va_G) (cI cJ cZ : ClassId) (o0 oL pL qL oS pS qS oT pT qT oj pf pt pv pz od n J u : Nat) (fL fS fT va : Nat → Int64) (cL cS cT fr to fi : Nat → Int32) (wr lf gs sm : Int32) (hn : n < 2 ^ 31) (hJ : J < 2 ^ 31) (hu : u ≤ J) (x : Int32) (h : (x.toInt64 < (-1) ∨ (1000 : Int64) < x.toInt64)) (htr : l.stackTraces = false) : pt_X l yR_crash wsR_crash ({ frames := 7, cells := 1, slots := 6, locals := 107 }) D vwCl (pjT cI cJ cZ) pt_G [.ref o0, .int x] [(o0, .inr (3, [.ref oL, .ref oS, .ref oT, .ref oj, .ref od, .int gs, .int sm])), (oL, .inr (0, [.ref pL, .ref qL])), (pL, .inl (cJ, n, .inr (.inl fL))), (qL, .inl (cI, n, .inl cL)), (oS, .inr (0, [.ref pS, .ref qS])), (pS, .inl (cJ, n, .inr (.inl fS))), (qS, .inl (cI, n, .inl cS)), (oT, .inr (0, [.ref pT, .ref qT])), (pT, .inl (cJ, n, .inr (.inl fT))), (qT, .inl (cI, n, .inl cT)), (oj, .inr (2, [.ref pf, .ref pt, .ref pv, .ref pz, .int (nI u)])), (pf, .inl (cI, J, .inl fr)), (pt, .inl (cI, J, .inl to)), (pv, .inl (cJ, J, .inr (.inl va))), (pz, .inl (cZ, J, .inl fi)), (od, .inr (1, [.int wr, .int lf]))] "java/lang/IllegalArgumentException" := by
  refine pt_of (by decide) rfl (Nat.le_of_ble_eq_true rfl) ?_
  intro p e s m below meth c A ls hx hb hml hno hts hown hlocks hA hK hP hD hS hG hl
  have hl : lv_has ls 2 [(0, .ref o0), (1, .int x)] := hl
  refine lv_iload_n hx hb dR_crash_0 rfl (lv_at hl 1 rfl) ?_
  refine lv_i2l hx hb dR_crash_1 rfl ?_
  refine lv_ldc2 (v := (-1)) hx hb hown (hts _ (pj_up m_374)) dR_crash_2 ?_
  refine lv_ldc2 (v := 1000) hx hb hown (hts _ (pj_up m_375)) dR_crash_5 ?_
  refine pt_callS (rest := []) ⟨hx, hb, hml, hown, hts⟩ (t_rB l D cI cJ cZ o0 oL pL qL oS pS qS oT pT qT oj pf pt pv pz od n J u fL fS fT va cL cS cT fr to fi wr lf gs sm hn hJ hu x.toInt64 (-1) 1000 h htr) (cwS 3 hts (pj_gS m_240 m_241 m_19 m_242) rfl rfl rfl (by decide +kernel) ⟨Nat.le_of_ble_eq_true rfl, Nat.le_of_ble_eq_true rfl⟩) pt_G_ok hG hK hP hD hS hA [0, 1, 2, 3, 4, 5, 6, 7, 8, 9, 10, 11, 12, 13, 14, 15] rfl rfl rfl hl.1 rfl (Nat.le_of_ble_eq_true rfl) dR_crash_8 ⟨Nat.le_of_ble_eq_true rfl, Nat.le_of_ble_eq_true rfl⟩ (fun x ce H1 z1 z2 z3 z4 z5 => ?_)
  exact pt_out z1 z2 z3 z4 z5 hno hlocks
set_option maxHeartbeats 4000000 in
set_option maxRecDepth 100000 in
theorem t_crash_S (l : Launch) (D : va_G) (cI cJ cZ : ClassId) (o0 oL pL qL oS pS qS oT pT qT oj pf pt pv pz od n J u : Nat) (fL fS fT va : Nat → Int64) (cL cS cT fr to fi : Nat → Int32) (wr lf gs sm : Int32) (hn : n < 2 ^ 31) (hJ : J < 2 ^ 31) (hu : u ≤ J) (x : Int32) (h2 : ¬ x.toInt64 < (-1) ∧ ¬ (1000 : Int64) < x.toInt64) (h3 : lf = 0) (htr : l.stackTraces = false) : pt_X l yR_crash wsR_crash ({ frames := 7, cells := 1, slots := 6, locals := 107 }) D vwCl (pjT cI cJ cZ) pt_G [.ref o0, .int x] [(o0, .inr (3, [.ref oL, .ref oS, .ref oT, .ref oj, .ref od, .int gs, .int sm])), (oL, .inr (0, [.ref pL, .ref qL])), (pL, .inl (cJ, n, .inr (.inl fL))), (qL, .inl (cI, n, .inl cL)), (oS, .inr (0, [.ref pS, .ref qS])), (pS, .inl (cJ, n, .inr (.inl fS))), (qS, .inl (cI, n, .inl cS)), (oT, .inr (0, [.ref pT, .ref qT])), (pT, .inl (cJ, n, .inr (.inl fT))), (qT, .inl (cI, n, .inl cT)), (oj, .inr (2, [.ref pf, .ref pt, .ref pv, .ref pz, .int (nI u)])), (pf, .inl (cI, J, .inl fr)), (pt, .inl (cI, J, .inl to)), (pv, .inl (cJ, J, .inr (.inl va))), (pz, .inl (cZ, J, .inl fi)), (od, .inr (1, [.int wr, .int lf]))] "java/lang/IllegalStateException" := by
  refine pt_of (by decide) rfl (Nat.le_of_ble_eq_true rfl) ?_
  intro p e s m below meth c A ls hx hb hml hno hts hown hlocks hA hK hP hD hS hG hl
  have hl : lv_has ls 2 [(0, .ref o0), (1, .int x)] := hl
  refine lv_iload_n hx hb dR_crash_0 rfl (lv_at hl 1 rfl) ?_
  refine lv_i2l hx hb dR_crash_1 rfl ?_
  refine lv_ldc2 (v := (-1)) hx hb hown (hts _ (pj_up m_374)) dR_crash_2 ?_
  refine lv_ldc2 (v := 1000) hx hb hown (hts _ (pj_up m_375)) dR_crash_5 ?_
  refine pp_callS (rest := []) (st1 := []) ⟨hx, hb, hml, hown, hts⟩ (c_rB l D cI cJ cZ o0 oL pL qL oS pS qS oT pT qT oj pf pt pv pz od n J u fL fS fT va cL cS cT fr to fi wr lf gs sm hn hJ hu x.toInt64 (-1) 1000 h2) (cwS 3 hts (pj_gS m_240 m_241 m_19 m_242) rfl rfl rfl (by decide +kernel) ⟨Nat.le_of_ble_eq_true rfl, Nat.le_of_ble_eq_true rfl⟩) pj_no_ok trivial hK hP hD hS hA [0, 1, 2, 3, 4, 5, 6, 7, 8, 9, 10, 11, 12, 13, 14, 15] rfl rfl rfl hl.1 rfl (Nat.le_of_ble_eq_true rfl) dR_crash_8 ⟨Nat.le_of_ble_eq_true rfl, Nat.le_of_ble_eq_true rfl⟩ rfl ?_
  refine lv_aload_n hx hb dR_crash_11 rfl (lv_at hl 0 rfl) ?_
  refine pt_callV (rest := []) ⟨hx, hb, hml, hown, hts⟩ (t_rP l D cI cJ cZ o0 oL pL qL oS pS qS oT pT qT oj pf pt pv pz od n J u fL fS fT va cL cS cT fr to fi wr lf gs sm hn hJ hu h3 htr) (cwV 0 hts (pj_gV m_244 m_246 m_3 m_19 m_247) rfl rfl rfl (by decide +kernel) ⟨Nat.le_of_ble_eq_true rfl, Nat.le_of_ble_eq_true rfl⟩) pt_G_ok hG hK hP hD hS hA (ci := 3) (q0 := 0) rfl rfl [0, 1, 2, 3, 4, 5, 6, 7, 8, 9, 10, 11, 12, 13, 14, 15] rfl rfl rfl hl.1 rfl (Nat.le_of_ble_eq_true rfl) dR_crash_12 ⟨Nat.le_of_ble_eq_true rfl, Nat.le_of_ble_eq_true rfl⟩ (fun x ce H1 z1 z2 z3 z4 z5 => ?_)
  exact pt_out z1 z2 z3 z4 z5 hno hlocks
set_option maxHeartbeats 4000000 in
set_option maxRecDepth 100000 in
theorem c_recover (l : Launch) (D : va_G) (cI cJ cZ : ClassId) (o0 oL pL qL oS pS qS oT pT qT oj pf pt pv pz od n J u : Nat) (fL fS fT va : Nat → Int64) (cL cS cT fr to fi : Nat → Int32) (wr lf gs sm : Int32) (hn : n < 2 ^ 31) (hJ : J < 2 ^ 31) (hu : u ≤ J) : pj_Met l yR_recover wsR_recover ({ frames := 4, cells := 0, slots := 0, locals := 91 }) D vwCl (pjT cI cJ cZ) pj_no [.ref o0] [(o0, .inr (3, [.ref oL, .ref oS, .ref oT, .ref oj, .ref od, .int gs, .int sm])), (oL, .inr (0, [.ref pL, .ref qL])), (pL, .inl (cJ, n, .inr (.inl fL))), (qL, .inl (cI, n, .inl cL)), (oS, .inr (0, [.ref pS, .ref qS])), (pS, .inl (cJ, n, .inr (.inl fS))), (qS, .inl (cI, n, .inl cS)), (oT, .inr (0, [.ref pT, .ref qT])), (pT, .inl (cJ, n, .inr (.inl fT))), (qT, .inl (cI, n, .inl cT)), (oj, .inr (2, [.ref pf, .ref pt, .ref pv, .ref pz, .int (nI u)])), (pf, .inl (cI, J, .inl fr)), (pt, .inl (cI, J, .inl to)), (pv, .inl (cJ, J, .inr (.inl va))), (pz, .inl (cZ, J, .inl fi)), (od, .inr (1, [.int wr, .int lf]))] (some (.int (nI (pjRep n fr to va fi u 0 0 (pjC n fS fL) (pjC n cS cL)).1))) [(o0, .inr (3, [.ref oL, .ref oS, .ref oT, .ref oj, .ref od, .int (-1), .int sm])), (oL, .inr (0, [.ref pL, .ref qL])), (pL, .inl (cJ, n, .inr (.inl ((pjRep n fr to va fi u 0 0 (pjC n fS fL) (pjC n cS cL)).2.1)))), (qL, .inl (cI, n, .inl ((pjRep n fr to va fi u 0 0 (pjC n fS fL) (pjC n cS cL)).2.2))), (oS, .inr (0, [.ref pS, .ref qS])), (pS, .inl (cJ, n, .inr (.inl fS))), (qS, .inl (cI, n, .inl cS)), (oT, .inr (0, [.ref pT, .ref qT])), (pT, .inl (cJ, n, .inr (.inl fT))), (qT, .inl (cI, n, .inl cT)), (oj, .inr (2, [.ref pf, .ref pt, .ref pv, .ref pz, .int (nI u)])), (pf, .inl (cI, J, .inl fr)), (pt, .inl (cI, J, .inl to)), (pv, .inl (cJ, J, .inr (.inl va))), (pz, .inl (cZ, J, .inl fi)), (od, .inr (1, [.int wr, .int (-1)]))] 0 0 := by
  refine pj_of (by decide) rfl (Nat.le_of_ble_eq_true rfl) ?_
  intro p e s m below meth c A ls hx hb hml hr hts hown hlocks hin hA hK hP hD hS hG hl
  have hl : lv_has ls 1 [(0, .ref o0)] := hl
  refine lv_aload_n hx hb dR_recover_0 rfl (lv_at hl 0 rfl) ?_
  refine va_get (D := D) (ci := 3) (v := .ref od) (C := "ReplayJournal") (T := TR) (N := 7) hx hb hts (pj_ups inR) hown hK hP 0 rfl rfl 4 (by decide) (hts _ (pj_up m_99)) (fun _ h9 => h9) rfl dR_recover_1 ?_
  refine pj_callV (w2 := [(o0, .inr (3, [.ref oL, .ref oS, .ref oT, .ref oj, .ref od, .int gs, .int sm])), (oL, .inr (0, [.ref pL, .ref qL])), (pL, .inl (cJ, n, .inr (.inl fL))), (qL, .inl (cI, n, .inl cL)), (oS, .inr (0, [.ref pS, .ref qS])), (pS, .inl (cJ, n, .inr (.inl fS))), (qS, .inl (cI, n, .inl cS)), (oT, .inr (0, [.ref pT, .ref qT])), (pT, .inl (cJ, n, .inr (.inl fT))), (qT, .inl (cI, n, .inl cT)), (oj, .inr (2, [.ref pf, .ref pt, .ref pv, .ref pz, .int (nI u)])), (pf, .inl (cI, J, .inl fr)), (pt, .inl (cI, J, .inl to)), (pv, .inl (cJ, J, .inr (.inl va))), (pz, .inl (cZ, J, .inl fi)), (od, .inr (1, [.int wr, .int (-1)]))]) (wr := [(o0, .inr (3, [.ref oL, .ref oS, .ref oT, .ref oj, .ref od, .int gs, .int sm])), (oL, .inr (0, [.ref pL, .ref qL])), (pL, .inl (cJ, n, .inr (.inl fL))), (qL, .inl (cI, n, .inl cL)), (oS, .inr (0, [.ref pS, .ref qS])), (pS, .inl (cJ, n, .inr (.inl fS))), (qS, .inl (cI, n, .inl cS)), (oT, .inr (0, [.ref pT, .ref qT])), (pT, .inl (cJ, n, .inr (.inl fT))), (qT, .inl (cI, n, .inl cT)), (oj, .inr (2, [.ref pf, .ref pt, .ref pv, .ref pz, .int (nI u)])), (pf, .inl (cI, J, .inl fr)), (pt, .inl (cI, J, .inl to)), (pv, .inl (cJ, J, .inr (.inl va))), (pz, .inl (cZ, J, .inl fi))]) (rest := []) (st1 := []) ⟨hx, hb, hml, hown, hts⟩ (c_restart l D cI cJ cZ od wr lf) (cwV 0 hts (pj_gV m_121 m_122 m_123 m_23 m_124) rfl rfl rfl (by decide +kernel) ⟨Nat.le_of_ble_eq_true rfl, Nat.le_of_ble_eq_true rfl⟩) pj_no_ok trivial hK hP hD hS hA (ci := 1) (q0 := 0) rfl rfl [15] [0, 1, 2, 3, 4, 5, 6, 7, 8, 9, 10, 11, 12, 13, 14] [0, 1, 2, 3, 4, 5, 6, 7, 8, 9, 10, 11, 12, 13, 14, 15] rfl rfl rfl rfl (by decide) rfl rfl rfl hl.1 rfl (Nat.le_of_ble_eq_true rfl) dR_recover_4 ⟨Nat.le_of_ble_eq_true rfl, Nat.le_of_ble_eq_true rfl⟩ rfl rfl rfl (fun H locs hP hD hS => ?_)
  refine lv_aload_n hx hb dR_recover_7 rfl (lv_at hl 0 rfl) ?_
  refine lv_iconst (v := -1) hx hb dR_recover_8 (by decide) ?_
  refine va_put (D := D) (ci := 3) (v := .int (-1)) (ty := .int) (C := "ReplayJournal") (T := TR) (N := 7) hx hb hts (pj_ups inR) tyR tyR_ok nmR hown hK hP hD hS 0 rfl rfl 5 (by decide) (hts _ (pj_up m_100)) (fun _ h9 => h9) rfl (by decide +kernel) rfl rfl (Nat.le_of_ble_eq_true rfl) dR_recover_9 (fun H locs hP hD hS => ?_)
  have hP : va_P D vwCl [(o0, .inr (3, [.ref oL, .ref oS, .ref oT, .ref oj, .ref od, .int (-1), .int sm])), (oL, .inr (0, [.ref pL, .ref qL])), (pL, .inl (cJ, n, .inr (.inl fL))), (qL, .inl (cI, n, .inl cL)), (oS, .inr (0, [.ref pS, .ref qS])), (pS, .inl (cJ, n, .inr (.inl fS))), (qS, .inl (cI, n, .inl cS)), (oT, .inr (0, [.ref pT, .ref qT])), (pT, .inl (cJ, n, .inr (.inl fT))), (qT, .inl (cI, n, .inl cT)), (oj, .inr (2, [.ref pf, .ref pt, .ref pv, .ref pz, .int (nI u)])), (pf, .inl (cI, J, .inl fr)), (pt, .inl (cI, J, .inl to)), (pv, .inl (cJ, J, .inr (.inl va))), (pz, .inl (cZ, J, .inl fi)), (od, .inr (1, [.int wr, .int (-1)]))] H := hP
  have hD : va_D A [(o0, .inr (3, [.ref oL, .ref oS, .ref oT, .ref oj, .ref od, .int (-1), .int sm])), (oL, .inr (0, [.ref pL, .ref qL])), (pL, .inl (cJ, n, .inr (.inl fL))), (qL, .inl (cI, n, .inl cL)), (oS, .inr (0, [.ref pS, .ref qS])), (pS, .inl (cJ, n, .inr (.inl fS))), (qS, .inl (cI, n, .inl cS)), (oT, .inr (0, [.ref pT, .ref qT])), (pT, .inl (cJ, n, .inr (.inl fT))), (qT, .inl (cI, n, .inl cT)), (oj, .inr (2, [.ref pf, .ref pt, .ref pv, .ref pz, .int (nI u)])), (pf, .inl (cI, J, .inl fr)), (pt, .inl (cI, J, .inl to)), (pv, .inl (cJ, J, .inr (.inl va))), (pz, .inl (cZ, J, .inl fi)), (od, .inr (1, [.int wr, .int (-1)]))] := hD
  refine lv_aload_n hx hb dR_recover_12 rfl (lv_at hl 0 rfl) ?_
  refine va_get (D := D) (ci := 3) (v := .ref oL) (C := "ReplayJournal") (T := TR) (N := 7) hx hb hts (pj_ups inR) hown hK hP 0 rfl rfl 0 (by decide) (hts _ (pj_up m_95)) (fun _ h9 => h9) rfl dR_recover_13 ?_
  refine lv_aload_n hx hb dR_recover_16 rfl (lv_at hl 0 rfl) ?_
  refine va_get (D := D) (ci := 3) (v := .ref oS) (C := "ReplayJournal") (T := TR) (N := 7) hx hb hts (pj_ups inR) hown hK hP 0 rfl rfl 1 (by decide) (hts _ (pj_up m_96)) (fun _ h9 => h9) rfl dR_recover_17 ?_
  refine pj_callV (w2 := [(o0, .inr (3, [.ref oL, .ref oS, .ref oT, .ref oj, .ref od, .int (-1), .int sm])), (oL, .inr (0, [.ref pL, .ref qL])), (pL, .inl (cJ, n, .inr (.inl (pjC n fS fL)))), (qL, .inl (cI, n, .inl (pjC n cS cL))), (oS, .inr (0, [.ref pS, .ref qS])), (pS, .inl (cJ, n, .inr (.inl fS))), (qS, .inl (cI, n, .inl cS)), (oT, .inr (0, [.ref pT, .ref qT])), (pT, .inl (cJ, n, .inr (.inl fT))), (qT, .inl (cI, n, .inl cT)), (oj, .inr (2, [.ref pf, .ref pt, .ref pv, .ref pz, .int (nI u)])), (pf, .inl (cI, J, .inl fr)), (pt, .inl (cI, J, .inl to)), (pv, .inl (cJ, J, .inr (.inl va))), (pz, .inl (cZ, J, .inl fi)), (od, .inr (1, [.int wr, .int (-1)]))]) (wr := [(o0, .inr (3, [.ref oL, .ref oS, .ref oT, .ref oj, .ref od, .int (-1), .int sm])), (oT, .inr (0, [.ref pT, .ref qT])), (pT, .inl (cJ, n, .inr (.inl fT))), (qT, .inl (cI, n, .inl cT)), (oj, .inr (2, [.ref pf, .ref pt, .ref pv, .ref pz, .int (nI u)])), (pf, .inl (cI, J, .inl fr)), (pt, .inl (cI, J, .inl to)), (pv, .inl (cJ, J, .inr (.inl va))), (pz, .inl (cZ, J, .inl fi)), (od, .inr (1, [.int wr, .int (-1)]))]) (rest := []) (st1 := []) ⟨hx, hb, hml, hown, hts⟩ (c_copy l D cI cJ cZ oL pL qL oS pS qS n fL fS cL cS hn) (cwV 1 hts (pj_gV m_125 m_126 m_127 m_21 m_128) rfl rfl rfl (by decide +kernel) ⟨Nat.le_of_ble_eq_true rfl, Nat.le_of_ble_eq_true rfl⟩) pj_no_ok trivial hK hP hD hS hA (ci := 0) (q0 := 0) rfl rfl [1, 2, 3, 4, 5, 6] [0, 7, 8, 9, 10, 11, 12, 13, 14, 15] [0, 10, 11, 12, 13, 14, 15, 1, 2, 3, 4, 5, 6, 7, 8, 9] rfl rfl rfl rfl (by decide) rfl rfl rfl hl.1 rfl (Nat.le_of_ble_eq_true rfl) dR_recover_20 ⟨Nat.le_of_ble_eq_true rfl, Nat.le_of_ble_eq_true rfl⟩ rfl rfl rfl (fun H locs hP hD hS => ?_)
  refine lv_aload_n hx hb dR_recover_23 rfl (lv_at hl 0 rfl) ?_
  refine va_get (D := D) (ci := 3) (v := .ref oj) (C := "ReplayJournal") (T := TR) (N := 7) hx hb hts (pj_ups inR) hown hK hP 0 rfl rfl 3 (by decide) (hts _ (pj_up m_98)) (fun _ h9 => h9) rfl dR_recover_24 ?_
  refine lv_aload_n hx hb dR_recover_27 rfl (lv_at hl 0 rfl) ?_
  refine va_get (D := D) (ci := 3) (v := .ref oL) (C := "ReplayJournal") (T := TR) (N := 7) hx hb hts (pj_ups inR) hown hK hP 0 rfl rfl 0 (by decide) (hts _ (pj_up m_95)) (fun _ h9 => h9) rfl dR_recover_28 ?_
  refine pj_callV (w2 := [(o0, .inr (3, [.ref oL, .ref oS, .ref oT, .ref oj, .ref od, .int (-1), .int sm])), (oL, .inr (0, [.ref pL, .ref qL])), (pL, .inl (cJ, n, .inr (.inl ((pjRep n fr to va fi u 0 0 (pjC n fS fL) (pjC n cS cL)).2.1)))), (qL, .inl (cI, n, .inl ((pjRep n fr to va fi u 0 0 (pjC n fS fL) (pjC n cS cL)).2.2))), (oS, .inr (0, [.ref pS, .ref qS])), (pS, .inl (cJ, n, .inr (.inl fS))), (qS, .inl (cI, n, .inl cS)), (oT, .inr (0, [.ref pT, .ref qT])), (pT, .inl (cJ, n, .inr (.inl fT))), (qT, .inl (cI, n, .inl cT)), (oj, .inr (2, [.ref pf, .ref pt, .ref pv, .ref pz, .int (nI u)])), (pf, .inl (cI, J, .inl fr)), (pt, .inl (cI, J, .inl to)), (pv, .inl (cJ, J, .inr (.inl va))), (pz, .inl (cZ, J, .inl fi)), (od, .inr (1, [.int wr, .int (-1)]))]) (wr := [(o0, .inr (3, [.ref oL, .ref oS, .ref oT, .ref oj, .ref od, .int (-1), .int sm])), (oS, .inr (0, [.ref pS, .ref qS])), (pS, .inl (cJ, n, .inr (.inl fS))), (qS, .inl (cI, n, .inl cS)), (oT, .inr (0, [.ref pT, .ref qT])), (pT, .inl (cJ, n, .inr (.inl fT))), (qT, .inl (cI, n, .inl cT)), (od, .inr (1, [.int wr, .int (-1)]))]) (rest := []) (st1 := [.int (nI (pjRep n fr to va fi u 0 0 (pjC n fS fL) (pjC n cS cL)).1)]) ⟨hx, hb, hml, hown, hts⟩ (c_rep l D cI cJ cZ oj pf pt pv pz J u fr to fi va hJ hu oL pL qL n (pjC n fS fL) (pjC n cS cL) hn) (cwV 1 hts (pj_gV m_130 m_131 m_132 m_22 m_133) rfl rfl rfl (by decide +kernel) ⟨Nat.le_of_ble_eq_true rfl, Nat.le_of_ble_eq_true rfl⟩) pj_no_ok trivial hK hP hD hS hA (ci := 2) (q0 := 0) rfl rfl [10, 11, 12, 13, 14, 1, 2, 3] [0, 4, 5, 6, 7, 8, 9, 15] [0, 13, 14, 15, 1, 2, 3, 4, 5, 6, 8, 9, 10, 11, 12, 7] rfl rfl rfl rfl (by decide) rfl rfl rfl hl.1 rfl (Nat.le_of_ble_eq_true rfl) dR_recover_31 ⟨Nat.le_of_ble_eq_true rfl, Nat.le_of_ble_eq_true rfl⟩ rfl rfl rfl (fun H locs hP hD hS => ?_)
  exact pj_iret hx hb hr hlocks hP hD hS (rfl) (rfl) dR_recover_34
set_option maxHeartbeats 4000000 in
set_option maxRecDepth 100000 in
theorem c_isDown (l : Launch) (D : va_G) (cI cJ cZ : ClassId) (o0 oL pL qL oS pS qS oT pT qT oj pf pt pv pz od n J u : Nat) (fL fS fT va : Nat → Int64) (cL cS cT fr to fi : Nat → Int32) (wr lf gs sm : Int32) (hn : n < 2 ^ 31) (hJ : J < 2 ^ 31) (hu : u ≤ J) : pp_Met l yR_isDown wsR_isDown ({ frames := 1, cells := 0, slots := 0, locals := 20 }) D vwCl (pjT cI cJ cZ) pj_no [.ref o0] [(o0, .inr (3, [.ref oL, .ref oS, .ref oT, .ref oj, .ref od, .int gs, .int sm])), (oL, .inr (0, [.ref pL, .ref qL])), (pL, .inl (cJ, n, .inr (.inl fL))), (qL, .inl (cI, n, .inl cL)), (oS, .inr (0, [.ref pS, .ref qS])), (pS, .inl (cJ, n, .inr (.inl fS))), (qS, .inl (cI, n, .inl cS)), (oT, .inr (0, [.ref pT, .ref qT])), (pT, .inl (cJ, n, .inr (.inl fT))), (qT, .inl (cI, n, .inl cT)), (oj, .inr (2, [.ref pf, .ref pt, .ref pv, .ref pz, .int (nI u)])), (pf, .inl (cI, J, .inl fr)), (pt, .inl (cI, J, .inl to)), (pv, .inl (cJ, J, .inr (.inl va))), (pz, .inl (cZ, J, .inl fi)), (od, .inr (1, [.int wr, .int lf]))] (some (.int (if lf = 0 then 1 else 0))) := by
  refine pp_of (by decide) rfl (Nat.le_of_ble_eq_true rfl) ?_
  intro p e s m below meth c A ls hx hb hml hr hts hown hlocks hA hK hP hD hS hG hl
  have hl : lv_has ls 1 [(0, .ref o0)] := hl
  refine lv_aload_n hx hb dR_isDown_0 rfl (lv_at hl 0 rfl) ?_
  refine va_get (D := D) (ci := 3) (v := .ref od) (C := "ReplayJournal") (T := TR) (N := 7) hx hb hts (pj_ups inR) hown hK hP 0 rfl rfl 4 (by decide) (hts _ (pj_up m_99)) (fun _ h9 => h9) rfl dR_isDown_1 ?_
  refine pp_callV (rest := []) (st1 := [.int (if lf = 0 then 1 else 0)]) ⟨hx, hb, hml, hown, hts⟩ (c_off l D cI cJ cZ od wr lf) (cwV 0 hts (pj_gV m_150 m_151 m_152 m_23 m_153) rfl rfl rfl (by decide +kernel) ⟨Nat.le_of_ble_eq_true rfl, Nat.le_of_ble_eq_true rfl⟩) pj_no_ok trivial hK hP hD hS hA (ci := 1) (q0 := 0) rfl rfl [15] rfl rfl rfl hl.1 rfl (Nat.le_of_ble_eq_true rfl) dR_isDown_4 ⟨Nat.le_of_ble_eq_true rfl, Nat.le_of_ble_eq_true rfl⟩ rfl ?_
  exact pp_zret hx hb hr hlocks (rfl) (by split <;> decide) dR_isDown_7
set_option maxHeartbeats 4000000 in
set_option maxRecDepth 100000 in
theorem c_amount (l : Launch) (D : va_G) (cI cJ cZ : ClassId) (o0 oL pL qL oS pS qS oT pT qT oj pf pt pv pz od n J u : Nat) (fL fS fT va : Nat → Int64) (cL cS cT fr to fi : Nat → Int32) (wr lf gs sm : Int32) (hn : n < 2 ^ 31) (hJ : J < 2 ^ 31) (hu : u ≤ J) (x : Int32) (h1 : pjH n x) (h3 : ¬ lf = 0) : pp_Met l yR_amount wsR_amount ({ frames := 7, cells := 0, slots := 0, locals := 103 }) D vwCl (pjT cI cJ cZ) pj_no [.ref o0, .int x] [(o0, .inr (3, [.ref oL, .ref oS, .ref oT, .ref oj, .ref od, .int gs, .int sm])), (oL, .inr (0, [.ref pL, .ref qL])), (pL, .inl (cJ, n, .inr (.inl fL))), (qL, .inl (cI, n, .inl cL)), (oS, .inr (0, [.ref pS, .ref qS])), (pS, .inl (cJ, n, .inr (.inl fS))), (qS, .inl (cI, n, .inl cS)), (oT, .inr (0, [.ref pT, .ref qT])), (pT, .inl (cJ, n, .inr (.inl fT))), (qT, .inl (cI, n, .inl cT)), (oj, .inr (2, [.ref pf, .ref pt, .ref pv, .ref pz, .int (nI u)])), (pf, .inl (cI, J, .inl fr)), (pt, .inl (cI, J, .inl to)), (pv, .inl (cJ, J, .inr (.inl va))), (pz, .inl (cZ, J, .inl fi)), (od, .inr (1, [.int wr, .int lf]))] (some (.long (fL x.toNatClampNeg))) := by
  refine pp_of (by decide) rfl (Nat.le_of_ble_eq_true rfl) ?_
  intro p e s m below meth c A ls hx hb hml hr hts hown hlocks hA hK hP hD hS hG hl
  have hl : lv_has ls 2 [(0, .ref o0), (1, .int x)] := hl
  refine lv_aload_n hx hb dR_amount_0 rfl (lv_at hl 0 rfl) ?_
  refine lv_iload_n hx hb dR_amount_1 rfl (lv_at hl 1 rfl) ?_
  refine pp_callV (rest := []) (st1 := []) ⟨hx, hb, hml, hown, hts⟩ (c_rA l D cI cJ cZ o0 oL pL qL oS pS qS oT pT qT oj pf pt pv pz od n J u fL fS fT va cL cS cT fr to fi wr lf gs sm hn hJ hu x h1) (cwV 1 hts (pj_gV m_166 m_168 m_1 m_19 m_169) rfl rfl rfl (by decide +kernel) ⟨Nat.le_of_ble_eq_true rfl, Nat.le_of_ble_eq_true rfl⟩) pj_no_ok trivial hK hP hD hS hA (ci := 3) (q0 := 0) rfl rfl [0, 1, 2, 3, 4, 5, 6, 7, 8, 9, 10, 11, 12, 13, 14, 15] rfl rfl rfl hl.1 rfl (Nat.le_of_ble_eq_true rfl) dR_amount_2 ⟨Nat.le_of_ble_eq_true rfl, Nat.le_of_ble_eq_true rfl⟩ rfl ?_
  refine lv_aload_n hx hb dR_amount_5 rfl (lv_at hl 0 rfl) ?_
  refine pp_callV (rest := []) (st1 := []) ⟨hx, hb, hml, hown, hts⟩ (c_rP l D cI cJ cZ o0 oL pL qL oS pS qS oT pT qT oj pf pt pv pz od n J u fL fS fT va cL cS cT fr to fi wr lf gs sm hn hJ hu h3) (cwV 0 hts (pj_gV m_244 m_246 m_3 m_19 m_247) rfl rfl rfl (by decide +kernel) ⟨Nat.le_of_ble_eq_true rfl, Nat.le_of_ble_eq_true rfl⟩) pj_no_ok trivial hK hP hD hS hA (ci := 3) (q0 := 0) rfl rfl [0, 1, 2, 3, 4, 5, 6, 7, 8, 9, 10, 11, 12, 13, 14, 15] rfl rfl rfl hl.1 rfl (Nat.le_of_ble_eq_true rfl) dR_amount_6 ⟨Nat.le_of_ble_eq_true rfl, Nat.le_of_ble_eq_true rfl⟩ rfl ?_
  refine lv_aload_n hx hb dR_amount_9 rfl (lv_at hl 0 rfl) ?_
  refine va_get (D := D) (ci := 3) (v := .ref oL) (C := "ReplayJournal") (T := TR) (N := 7) hx hb hts (pj_ups inR) hown hK hP 0 rfl rfl 0 (by decide) (hts _ (pj_up m_95)) (fun _ h9 => h9) rfl dR_amount_10 ?_
  refine lv_iload_n hx hb dR_amount_13 rfl (lv_at hl 1 rfl) ?_
  refine pp_callV (rest := []) (st1 := [.long (fL x.toNatClampNeg)]) ⟨hx, hb, hml, hown, hts⟩ (c_amountOf l D cI cJ cZ oL pL qL n fL cL hn x h1) (cwV 1 hts (pj_gV m_387 m_388 m_389 m_21 m_390) rfl rfl rfl (by decide +kernel) ⟨Nat.le_of_ble_eq_true rfl, Nat.le_of_ble_eq_true rfl⟩) pj_no_ok trivial hK hP hD hS hA (ci := 0) (q0 := 0) rfl rfl [1, 2, 3] rfl rfl rfl hl.1 rfl (Nat.le_of_ble_eq_true rfl) dR_amount_14 ⟨Nat.le_of_ble_eq_true rfl, Nat.le_of_ble_eq_true rfl⟩ rfl ?_
  exact pp_lret hx hb hr hlocks (rfl) dR_amount_17
set_option maxHeartbeats 4000000 in
set_option maxRecDepth 100000 in
theorem t_amount_A (l : Launch) (D : va_G) (cI cJ cZ : ClassId) (o0 oL pL qL oS pS qS oT pT qT oj pf pt pv pz od n J u : Nat) (fL fS fT va : Nat → Int64) (cL cS cT fr to fi : Nat → Int32) (wr lf gs sm : Int32) (hn : n < 2 ^ 31) (hJ : J < 2 ^ 31) (hu : u ≤ J) (x : Int32) (h1 : ¬ pjH n x) (htr : l.stackTraces = false) : pt_X l yR_amount wsR_amount ({ frames := 7, cells := 1, slots := 6, locals := 103 }) D vwCl (pjT cI cJ cZ) pt_G [.ref o0, .int x] [(o0, .inr (3, [.ref oL, .ref oS, .ref oT, .ref oj, .ref od, .int gs, .int sm])), (oL, .inr (0, [.ref pL, .ref qL])), (pL, .inl (cJ, n, .inr (.inl fL))), (qL, .inl (cI, n, .inl cL)), (oS, .inr (0, [.ref pS, .ref qS])), (pS, .inl (cJ, n, .inr (.inl fS))), (qS, .inl (cI, n, .inl cS)), (oT, .inr (0, [.ref pT, .ref qT])), (pT, .inl (cJ, n, .inr (.inl fT))), (qT, .inl (cI, n, .inl cT)), (oj, .inr (2, [.ref pf, .ref pt, .ref pv, .ref pz, .int (nI u)])), (pf, .inl (cI, J, .inl fr)), (pt, .inl (cI, J, .inl to)), (pv, .inl (cJ, J, .inr (.inl va))), (pz, .inl (cZ, J, .inl fi)), (od, .inr (1, [.int wr, .int lf]))] "java/lang/IllegalArgumentException" := by
  refine pt_of (by decide) rfl (Nat.le_of_ble_eq_true rfl) ?_
  intro p e s m below meth c A ls hx hb hml hno hts hown hlocks hA hK hP hD hS hG hl
  have hl : lv_has ls 2 [(0, .ref o0), (1, .int x)] := hl
  refine lv_aload_n hx hb dR_amount_0 rfl (lv_at hl 0 rfl) ?_
  refine lv_iload_n hx hb dR_amount_1 rfl (lv_at hl 1 rfl) ?_
  refine pt_callV (rest := []) ⟨hx, hb, hml, hown, hts⟩ (t_rA l D cI cJ cZ o0 oL pL qL oS pS qS oT pT qT oj pf pt pv pz od n J u fL fS fT va cL cS cT fr to fi wr lf gs sm hn hJ hu x h1 htr) (cwV 1 hts (pj_gV m_166 m_168 m_1 m_19 m_169) rfl rfl rfl (by decide +kernel) ⟨Nat.le_of_ble_eq_true rfl, Nat.le_of_ble_eq_true rfl⟩) pt_G_ok hG hK hP hD hS hA (ci := 3) (q0 := 0) rfl rfl [0, 1, 2, 3, 4, 5, 6, 7, 8, 9, 10, 11, 12, 13, 14, 15] rfl rfl rfl hl.1 rfl (Nat.le_of_ble_eq_true rfl) dR_amount_2 ⟨Nat.le_of_ble_eq_true rfl, Nat.le_of_ble_eq_true rfl⟩ (fun x ce H1 z1 z2 z3 z4 z5 => ?_)
  exact pt_out z1 z2 z3 z4 z5 hno hlocks
set_option maxHeartbeats 4000000 in
set_option maxRecDepth 100000 in
theorem t_amount_S (l : Launch) (D : va_G) (cI cJ cZ : ClassId) (o0 oL pL qL oS pS qS oT pT qT oj pf pt pv pz od n J u : Nat) (fL fS fT va : Nat → Int64) (cL cS cT fr to fi : Nat → Int32) (wr lf gs sm : Int32) (hn : n < 2 ^ 31) (hJ : J < 2 ^ 31) (hu : u ≤ J) (x : Int32) (h1 : pjH n x) (h3 : lf = 0) (htr : l.stackTraces = false) : pt_X l yR_amount wsR_amount ({ frames := 7, cells := 1, slots := 6, locals := 103 }) D vwCl (pjT cI cJ cZ) pt_G [.ref o0, .int x] [(o0, .inr (3, [.ref oL, .ref oS, .ref oT, .ref oj, .ref od, .int gs, .int sm])), (oL, .inr (0, [.ref pL, .ref qL])), (pL, .inl (cJ, n, .inr (.inl fL))), (qL, .inl (cI, n, .inl cL)), (oS, .inr (0, [.ref pS, .ref qS])), (pS, .inl (cJ, n, .inr (.inl fS))), (qS, .inl (cI, n, .inl cS)), (oT, .inr (0, [.ref pT, .ref qT])), (pT, .inl (cJ, n, .inr (.inl fT))), (qT, .inl (cI, n, .inl cT)), (oj, .inr (2, [.ref pf, .ref pt, .ref pv, .ref pz, .int (nI u)])), (pf, .inl (cI, J, .inl fr)), (pt, .inl (cI, J, .inl to)), (pv, .inl (cJ, J, .inr (.inl va))), (pz, .inl (cZ, J, .inl fi)), (od, .inr (1, [.int wr, .int lf]))] "java/lang/IllegalStateException" := by
  refine pt_of (by decide) rfl (Nat.le_of_ble_eq_true rfl) ?_
  intro p e s m below meth c A ls hx hb hml hno hts hown hlocks hA hK hP hD hS hG hl
  have hl : lv_has ls 2 [(0, .ref o0), (1, .int x)] := hl
  refine lv_aload_n hx hb dR_amount_0 rfl (lv_at hl 0 rfl) ?_
  refine lv_iload_n hx hb dR_amount_1 rfl (lv_at hl 1 rfl) ?_
  refine pp_callV (rest := []) (st1 := []) ⟨hx, hb, hml, hown, hts⟩ (c_rA l D cI cJ cZ o0 oL pL qL oS pS qS oT pT qT oj pf pt pv pz od n J u fL fS fT va cL cS cT fr to fi wr lf gs sm hn hJ hu x h1) (cwV 1 hts (pj_gV m_166 m_168 m_1 m_19 m_169) rfl rfl rfl (by decide +kernel) ⟨Nat.le_of_ble_eq_true rfl, Nat.le_of_ble_eq_true rfl⟩) pj_no_ok trivial hK hP hD hS hA (ci := 3) (q0 := 0) rfl rfl [0, 1, 2, 3, 4, 5, 6, 7, 8, 9, 10, 11, 12, 13, 14, 15] rfl rfl rfl hl.1 rfl (Nat.le_of_ble_eq_true rfl) dR_amount_2 ⟨Nat.le_of_ble_eq_true rfl, Nat.le_of_ble_eq_true rfl⟩ rfl ?_
  refine lv_aload_n hx hb dR_amount_5 rfl (lv_at hl 0 rfl) ?_
  refine pt_callV (rest := []) ⟨hx, hb, hml, hown, hts⟩ (t_rP l D cI cJ cZ o0 oL pL qL oS pS qS oT pT qT oj pf pt pv pz od n J u fL fS fT va cL cS cT fr to fi wr lf gs sm hn hJ hu h3 htr) (cwV 0 hts (pj_gV m_244 m_246 m_3 m_19 m_247) rfl rfl rfl (by decide +kernel) ⟨Nat.le_of_ble_eq_true rfl, Nat.le_of_ble_eq_true rfl⟩) pt_G_ok hG hK hP hD hS hA (ci := 3) (q0 := 0) rfl rfl [0, 1, 2, 3, 4, 5, 6, 7, 8, 9, 10, 11, 12, 13, 14, 15] rfl rfl rfl hl.1 rfl (Nat.le_of_ble_eq_true rfl) dR_amount_6 ⟨Nat.le_of_ble_eq_true rfl, Nat.le_of_ble_eq_true rfl⟩ (fun x ce H1 z1 z2 z3 z4 z5 => ?_)
  exact pt_out z1 z2 z3 z4 z5 hno hlocks
set_option maxHeartbeats 4000000 in
set_option maxRecDepth 100000 in
theorem c_changes (l : Launch) (D : va_G) (cI cJ cZ : ClassId) (o0 oL pL qL oS pS qS oT pT qT oj pf pt pv pz od n J u : Nat) (fL fS fT va : Nat → Int64) (cL cS cT fr to fi : Nat → Int32) (wr lf gs sm : Int32) (hn : n < 2 ^ 31) (hJ : J < 2 ^ 31) (hu : u ≤ J) (x : Int32) (h1 : pjH n x) (h3 : ¬ lf = 0) : pp_Met l yR_changes wsR_changes ({ frames := 7, cells := 0, slots := 0, locals := 103 }) D vwCl (pjT cI cJ cZ) pj_no [.ref o0, .int x] [(o0, .inr (3, [.ref oL, .ref oS, .ref oT, .ref oj, .ref od, .int gs, .int sm])), (oL, .inr (0, [.ref pL, .ref qL])), (pL, .inl (cJ, n, .inr (.inl fL))), (qL, .inl (cI, n, .inl cL)), (oS, .inr (0, [.ref pS, .ref qS])), (pS, .inl (cJ, n, .inr (.inl fS))), (qS, .inl (cI, n, .inl cS)), (oT, .inr (0, [.ref pT, .ref qT])), (pT, .inl (cJ, n, .inr (.inl fT))), (qT, .inl (cI, n, .inl cT)), (oj, .inr (2, [.ref pf, .ref pt, .ref pv, .ref pz, .int (nI u)])), (pf, .inl (cI, J, .inl fr)), (pt, .inl (cI, J, .inl to)), (pv, .inl (cJ, J, .inr (.inl va))), (pz, .inl (cZ, J, .inl fi)), (od, .inr (1, [.int wr, .int lf]))] (some (.int (cL x.toNatClampNeg))) := by
  refine pp_of (by decide) rfl (Nat.le_of_ble_eq_true rfl) ?_
  intro p e s m below meth c A ls hx hb hml hr hts hown hlocks hA hK hP hD hS hG hl
  have hl : lv_has ls 2 [(0, .ref o0), (1, .int x)] := hl
  refine lv_aload_n hx hb dR_changes_0 rfl (lv_at hl 0 rfl) ?_
  refine lv_iload_n hx hb dR_changes_1 rfl (lv_at hl 1 rfl) ?_
  refine pp_callV (rest := []) (st1 := []) ⟨hx, hb, hml, hown, hts⟩ (c_rA l D cI cJ cZ o0 oL pL qL oS pS qS oT pT qT oj pf pt pv pz od n J u fL fS fT va cL cS cT fr to fi wr lf gs sm hn hJ hu x h1) (cwV 1 hts (pj_gV m_166 m_168 m_1 m_19 m_169) rfl rfl rfl (by decide +kernel) ⟨Nat.le_of_ble_eq_true rfl, Nat.le_of_ble_eq_true rfl⟩) pj_no_ok trivial hK hP hD hS hA (ci := 3) (q0 := 0) rfl rfl [0, 1, 2, 3, 4, 5, 6, 7, 8, 9, 10, 11, 12, 13, 14, 15] rfl rfl rfl hl.1 rfl (Nat.le_of_ble_eq_true rfl) dR_changes_2 ⟨Nat.le_of_ble_eq_true rfl, Nat.le_of_ble_eq_true rfl⟩ rfl ?_
  refine lv_aload_n hx hb dR_changes_5 rfl (lv_at hl 0 rfl) ?_
  refine pp_callV (rest := []) (st1 := []) ⟨hx, hb, hml, hown, hts⟩ (c_rP l D cI cJ cZ o0 oL pL qL oS pS qS oT pT qT oj pf pt pv pz od n J u fL fS fT va cL cS cT fr to fi wr lf gs sm hn hJ hu h3) (cwV 0 hts (pj_gV m_244 m_246 m_3 m_19 m_247) rfl rfl rfl (by decide +kernel) ⟨Nat.le_of_ble_eq_true rfl, Nat.le_of_ble_eq_true rfl⟩) pj_no_ok trivial hK hP hD hS hA (ci := 3) (q0 := 0) rfl rfl [0, 1, 2, 3, 4, 5, 6, 7, 8, 9, 10, 11, 12, 13, 14, 15] rfl rfl rfl hl.1 rfl (Nat.le_of_ble_eq_true rfl) dR_changes_6 ⟨Nat.le_of_ble_eq_true rfl, Nat.le_of_ble_eq_true rfl⟩ rfl ?_
  refine lv_aload_n hx hb dR_changes_9 rfl (lv_at hl 0 rfl) ?_
  refine va_get (D := D) (ci := 3) (v := .ref oL) (C := "ReplayJournal") (T := TR) (N := 7) hx hb hts (pj_ups inR) hown hK hP 0 rfl rfl 0 (by decide) (hts _ (pj_up m_95)) (fun _ h9 => h9) rfl dR_changes_10 ?_
  refine lv_iload_n hx hb dR_changes_13 rfl (lv_at hl 1 rfl) ?_
  refine pp_callV (rest := []) (st1 := [.int (cL x.toNatClampNeg)]) ⟨hx, hb, hml, hown, hts⟩ (c_changesOf l D cI cJ cZ oL pL qL n fL cL hn x h1) (cwV 1 hts (pj_gV m_398 m_399 m_400 m_21 m_401) rfl rfl rfl (by decide +kernel) ⟨Nat.le_of_ble_eq_true rfl, Nat.le_of_ble_eq_true rfl⟩) pj_no_ok trivial hK hP hD hS hA (ci := 0) (q0 := 0) rfl rfl [1, 2, 3] rfl rfl rfl hl.1 rfl (Nat.le_of_ble_eq_true rfl) dR_changes_14 ⟨Nat.le_of_ble_eq_true rfl, Nat.le_of_ble_eq_true rfl⟩ rfl ?_
  exact pp_iret hx hb hr hlocks (rfl) dR_changes_17
set_option maxHeartbeats 4000000 in
set_option maxRecDepth 100000 in
theorem t_changes_A (l : Launch) (D : va_G) (cI cJ cZ : ClassId) (o0 oL pL qL oS pS qS oT pT qT oj pf pt pv pz od n J u : Nat) (fL fS fT va : Nat → Int64) (cL cS cT fr to fi : Nat → Int32) (wr lf gs sm : Int32) (hn : n < 2 ^ 31) (hJ : J < 2 ^ 31) (hu : u ≤ J) (x : Int32) (h1 : ¬ pjH n x) (htr : l.stackTraces = false) : pt_X l yR_changes wsR_changes ({ frames := 7, cells := 1, slots := 6, locals := 103 }) D vwCl (pjT cI cJ cZ) pt_G [.ref o0, .int x] [(o0, .inr (3, [.ref oL, .ref oS, .ref oT, .ref oj, .ref od, .int gs, .int sm])), (oL, .inr (0, [.ref pL, .ref qL])), (pL, .inl (cJ, n, .inr (.inl fL))), (qL, .inl (cI, n, .inl cL)), (oS, .inr (0, [.ref pS, .ref qS])), (pS, .inl (cJ, n, .inr (.inl fS))), (qS, .inl (cI, n, .inl cS)), (oT, .inr (0, [.ref pT, .ref qT])), (pT, .inl (cJ, n, .inr (.inl fT))), (qT, .inl (cI, n, .inl cT)), (oj, .inr (2, [.ref pf, .ref pt, .ref pv, .ref pz, .int (nI u)])), (pf, .inl (cI, J, .inl fr)), (pt, .inl (cI, J, .inl to)), (pv, .inl (cJ, J, .inr (.inl va))), (pz, .inl (cZ, J, .inl fi)), (od, .inr (1, [.int wr, .int lf]))] "java/lang/IllegalArgumentException" := by
  refine pt_of (by decide) rfl (Nat.le_of_ble_eq_true rfl) ?_
  intro p e s m below meth c A ls hx hb hml hno hts hown hlocks hA hK hP hD hS hG hl
  have hl : lv_has ls 2 [(0, .ref o0), (1, .int x)] := hl
  refine lv_aload_n hx hb dR_changes_0 rfl (lv_at hl 0 rfl) ?_
  refine lv_iload_n hx hb dR_changes_1 rfl (lv_at hl 1 rfl) ?_
  refine pt_callV (rest := []) ⟨hx, hb, hml, hown, hts⟩ (t_rA l D cI cJ cZ o0 oL pL qL oS pS qS oT pT qT oj pf pt pv pz od n J u fL fS fT va cL cS cT fr to fi wr lf gs sm hn hJ hu x h1 htr) (cwV 1 hts (pj_gV m_166 m_168 m_1 m_19 m_169) rfl rfl rfl (by decide +kernel) ⟨Nat.le_of_ble_eq_true rfl, Nat.le_of_ble_eq_true rfl⟩) pt_G_ok hG hK hP hD hS hA (ci := 3) (q0 := 0) rfl rfl [0, 1, 2, 3, 4, 5, 6, 7, 8, 9, 10, 11, 12, 13, 14, 15] rfl rfl rfl hl.1 rfl (Nat.le_of_ble_eq_true rfl) dR_changes_2 ⟨Nat.le_of_ble_eq_true rfl, Nat.le_of_ble_eq_true rfl⟩ (fun x ce H1 z1 z2 z3 z4 z5 => ?_)
  exact pt_out z1 z2 z3 z4 z5 hno hlocks
set_option maxHeartbeats 4000000 in
set_option maxRecDepth 100000 in
theorem t_changes_S (l : Launch) (D : va_G) (cI cJ cZ : ClassId) (o0 oL pL qL oS pS qS oT pT qT oj pf pt pv pz od n J u : Nat) (fL fS fT va : Nat → Int64) (cL cS cT fr to fi : Nat → Int32) (wr lf gs sm : Int32) (hn : n < 2 ^ 31) (hJ : J < 2 ^ 31) (hu : u ≤ J) (x : Int32) (h1 : pjH n x) (h3 : lf = 0) (htr : l.stackTraces = false) : pt_X l yR_changes wsR_changes ({ frames := 7, cells := 1, slots := 6, locals := 103 }) D vwCl (pjT cI cJ cZ) pt_G [.ref o0, .int x] [(o0, .inr (3, [.ref oL, .ref oS, .ref oT, .ref oj, .ref od, .int gs, .int sm])), (oL, .inr (0, [.ref pL, .ref qL])), (pL, .inl (cJ, n, .inr (.inl fL))), (qL, .inl (cI, n, .inl cL)), (oS, .inr (0, [.ref pS, .ref qS])), (pS, .inl (cJ, n, .inr (.inl fS))), (qS, .inl (cI, n, .inl cS)), (oT, .inr (0, [.ref pT, .ref qT])), (pT, .inl (cJ, n, .inr (.inl fT))), (qT, .inl (cI, n, .inl cT)), (oj, .inr (2, [.ref pf, .ref pt, .ref pv, .ref pz, .int (nI u)])), (pf, .inl (cI, J, .inl fr)), (pt, .inl (cI, J, .inl to)), (pv, .inl (cJ, J, .inr (.inl va))), (pz, .inl (cZ, J, .inl fi)), (od, .inr (1, [.int wr, .int lf]))] "java/lang/IllegalStateException" := by
  refine pt_of (by decide) rfl (Nat.le_of_ble_eq_true rfl) ?_
  intro p e s m below meth c A ls hx hb hml hno hts hown hlocks hA hK hP hD hS hG hl
  have hl : lv_has ls 2 [(0, .ref o0), (1, .int x)] := hl
  refine lv_aload_n hx hb dR_changes_0 rfl (lv_at hl 0 rfl) ?_
  refine lv_iload_n hx hb dR_changes_1 rfl (lv_at hl 1 rfl) ?_
  refine pp_callV (rest := []) (st1 := []) ⟨hx, hb, hml, hown, hts⟩ (c_rA l D cI cJ cZ o0 oL pL qL oS pS qS oT pT qT oj pf pt pv pz od n J u fL fS fT va cL cS cT fr to fi wr lf gs sm hn hJ hu x h1) (cwV 1 hts (pj_gV m_166 m_168 m_1 m_19 m_169) rfl rfl rfl (by decide +kernel) ⟨Nat.le_of_ble_eq_true rfl, Nat.le_of_ble_eq_true rfl⟩) pj_no_ok trivial hK hP hD hS hA (ci := 3) (q0 := 0) rfl rfl [0, 1, 2, 3, 4, 5, 6, 7, 8, 9, 10, 11, 12, 13, 14, 15] rfl rfl rfl hl.1 rfl (Nat.le_of_ble_eq_true rfl) dR_changes_2 ⟨Nat.le_of_ble_eq_true rfl, Nat.le_of_ble_eq_true rfl⟩ rfl ?_
  refine lv_aload_n hx hb dR_changes_5 rfl (lv_at hl 0 rfl) ?_
  refine pt_callV (rest := []) ⟨hx, hb, hml, hown, hts⟩ (t_rP l D cI cJ cZ o0 oL pL qL oS pS qS oT pT qT oj pf pt pv pz od n J u fL fS fT va cL cS cT fr to fi wr lf gs sm hn hJ hu h3 htr) (cwV 0 hts (pj_gV m_244 m_246 m_3 m_19 m_247) rfl rfl rfl (by decide +kernel) ⟨Nat.le_of_ble_eq_true rfl, Nat.le_of_ble_eq_true rfl⟩) pt_G_ok hG hK hP hD hS hA (ci := 3) (q0 := 0) rfl rfl [0, 1, 2, 3, 4, 5, 6, 7, 8, 9, 10, 11, 12, 13, 14, 15] rfl rfl rfl hl.1 rfl (Nat.le_of_ble_eq_true rfl) dR_changes_6 ⟨Nat.le_of_ble_eq_true rfl, Nat.le_of_ble_eq_true rfl⟩ (fun x ce H1 z1 z2 z3 z4 z5 => ?_)
  exact pt_out z1 z2 z3 z4 z5 hno hlocks
set_option maxHeartbeats 4000000 in
set_option maxRecDepth 100000 in
theorem c_count_0 (l : Launch) (D : va_G) (cI cJ cZ : ClassId) (o0 oL pL qL oS pS qS oT pT qT oj pf pt pv pz od n J u : Nat) (fL fS fT va : Nat → Int64) (cL cS cT fr to fi : Nat → Int32) (wr lf gs sm : Int32) (hn : n < 2 ^ 31) (hJ : J < 2 ^ 31) (hu : u ≤ J) (h3 : ¬ lf = 0) : pp_Met l yR_count wsR_count ({ frames := 7, cells := 0, slots := 0, locals := 107 }) D vwCl (pjT cI cJ cZ) pj_no [.ref o0, .int 0] [(o0, .inr (3, [.ref oL, .ref oS, .ref oT, .ref oj, .ref od, .int gs, .int sm])), (oL, .inr (0, [.ref pL, .ref qL])), (pL, .inl (cJ, n, .inr (.inl fL))), (qL, .inl (cI, n, .inl cL)), (oS, .inr (0, [.ref pS, .ref qS])), (pS, .inl (cJ, n, .inr (.inl fS))), (qS, .inl (cI, n, .inl cS)), (oT, .inr (0, [.ref pT, .ref qT])), (pT, .inl (cJ, n, .inr (.inl fT))), (qT, .inl (cI, n, .inl cT)), (oj, .inr (2, [.ref pf, .ref pt, .ref pv, .ref pz, .int (nI u)])), (pf, .inl (cI, J, .inl fr)), (pt, .inl (cI, J, .inl to)), (pv, .inl (cJ, J, .inr (.inl va))), (pz, .inl (cZ, J, .inl fi)), (od, .inr (1, [.int wr, .int lf]))] (some (.int (nI u))) := by
  refine pp_of (by decide) rfl (Nat.le_of_ble_eq_true rfl) ?_
  intro p e s m below meth c A ls hx hb hml hr hts hown hlocks hA hK hP hD hS hG hl
  have hl : lv_has ls 2 [(0, .ref o0), (1, .int 0)] := hl
  refine lv_iload_n hx hb dR_count_0 rfl (lv_at hl 1 rfl) ?_
  refine lv_i2l hx hb dR_count_1 rfl ?_
  refine lv_lconst (v := 0) hx hb dR_count_2 (by decide) ?_
  refine lv_ldc2 (v := 3) hx hb hown (hts _ (pj_up m_409)) dR_count_3 ?_
  refine pp_callS (rest := []) (st1 := []) ⟨hx, hb, hml, hown, hts⟩ (c_rB l D cI cJ cZ o0 oL pL qL oS pS qS oT pT qT oj pf pt pv pz od n J u fL fS fT va cL cS cT fr to fi wr lf gs sm hn hJ hu (0 : Int32).toInt64 0 3 (by decide)) (cwS 3 hts (pj_gS m_240 m_241 m_19 m_242) rfl rfl rfl (by decide +kernel) ⟨Nat.le_of_ble_eq_true rfl, Nat.le_of_ble_eq_true rfl⟩) pj_no_ok trivial hK hP hD hS hA [0, 1, 2, 3, 4, 5, 6, 7, 8, 9, 10, 11, 12, 13, 14, 15] rfl rfl rfl hl.1 rfl (Nat.le_of_ble_eq_true rfl) dR_count_6 ⟨Nat.le_of_ble_eq_true rfl, Nat.le_of_ble_eq_true rfl⟩ rfl ?_
  refine lv_aload_n hx hb dR_count_9 rfl (lv_at hl 0 rfl) ?_
  refine pp_callV (rest := []) (st1 := []) ⟨hx, hb, hml, hown, hts⟩ (c_rP l D cI cJ cZ o0 oL pL qL oS pS qS oT pT qT oj pf pt pv pz od n J u fL fS fT va cL cS cT fr to fi wr lf gs sm hn hJ hu h3) (cwV 0 hts (pj_gV m_244 m_246 m_3 m_19 m_247) rfl rfl rfl (by decide +kernel) ⟨Nat.le_of_ble_eq_true rfl, Nat.le_of_ble_eq_true rfl⟩) pj_no_ok trivial hK hP hD hS hA (ci := 3) (q0 := 0) rfl rfl [0, 1, 2, 3, 4, 5, 6, 7, 8, 9, 10, 11, 12, 13, 14, 15] rfl rfl rfl hl.1 rfl (Nat.le_of_ble_eq_true rfl) dR_count_10 ⟨Nat.le_of_ble_eq_true rfl, Nat.le_of_ble_eq_true rfl⟩ rfl ?_
  refine lv_iload_n hx hb dR_count_13 rfl (lv_at hl 1 rfl) ?_
  refine lv_tableIn (tgt := 40) (off := 26) hx hb dR_count_14 (by decide) (by decide) rfl (by decide) ?_
  refine lv_aload_n hx hb dR_count_40 rfl (lv_at hl 0 rfl) ?_
  refine va_get (D := D) (ci := 3) (v := .ref oj) (C := "ReplayJournal") (T := TR) (N := 7) hx hb hts (pj_ups inR) hown hK hP 0 rfl rfl 3 (by decide) (hts _ (pj_up m_98)) (fun _ h9 => h9) rfl dR_count_41 ?_
  refine pp_callV (rest := []) (st1 := [.int (nI u)]) ⟨hx, hb, hml, hown, hts⟩ (c_used l D cI cJ cZ oj pf pt pv pz J u fr to fi va hJ hu) (cwV 0 hts (pj_gV m_410 m_411 m_412 m_22 m_413) rfl rfl rfl (by decide +kernel) ⟨Nat.le_of_ble_eq_true rfl, Nat.le_of_ble_eq_true rfl⟩) pj_no_ok trivial hK hP hD hS hA (ci := 2) (q0 := 0) rfl rfl [10, 11, 12, 13, 14] rfl rfl rfl hl.1 rfl (Nat.le_of_ble_eq_true rfl) dR_count_44 ⟨Nat.le_of_ble_eq_true rfl, Nat.le_of_ble_eq_true rfl⟩ rfl ?_
  exact pp_iret hx hb hr hlocks (rfl) dR_count_47
set_option maxHeartbeats 4000000 in
set_option maxRecDepth 100000 in
theorem c_count_1 (l : Launch) (D : va_G) (cI cJ cZ : ClassId) (o0 oL pL qL oS pS qS oT pT qT oj pf pt pv pz od n J u : Nat) (fL fS fT va : Nat → Int64) (cL cS cT fr to fi : Nat → Int32) (wr lf gs sm : Int32) (hn : n < 2 ^ 31) (hJ : J < 2 ^ 31) (hu : u ≤ J) (h3 : ¬ lf = 0) : pp_Met l yR_count wsR_count ({ frames := 7, cells := 0, slots := 0, locals := 107 }) D vwCl (pjT cI cJ cZ) pj_no [.ref o0, .int 1] [(o0, .inr (3, [.ref oL, .ref oS, .ref oT, .ref oj, .ref od, .int gs, .int sm])), (oL, .inr (0, [.ref pL, .ref qL])), (pL, .inl (cJ, n, .inr (.inl fL))), (qL, .inl (cI, n, .inl cL)), (oS, .inr (0, [.ref pS, .ref qS])), (pS, .inl (cJ, n, .inr (.inl fS))), (qS, .inl (cI, n, .inl cS)), (oT, .inr (0, [.ref pT, .ref qT])), (pT, .inl (cJ, n, .inr (.inl fT))), (qT, .inl (cI, n, .inl cT)), (oj, .inr (2, [.ref pf, .ref pt, .ref pv, .ref pz, .int (nI u)])), (pf, .inl (cI, J, .inl fr)), (pt, .inl (cI, J, .inl to)), (pv, .inl (cJ, J, .inr (.inl va))), (pz, .inl (cZ, J, .inl fi)), (od, .inr (1, [.int wr, .int lf]))] (some (.int wr)) := by
  refine pp_of (by decide) rfl (Nat.le_of_ble_eq_true rfl) ?_
  intro p e s m below meth c A ls hx hb hml hr hts hown hlocks hA hK hP hD hS hG hl
  have hl : lv_has ls 2 [(0, .ref o0), (1, .int 1)] := hl
  refine lv_iload_n hx hb dR_count_0 rfl (lv_at hl 1 rfl) ?_
  refine lv_i2l hx hb dR_count_1 rfl ?_
  refine lv_lconst (v := 0) hx hb dR_count_2 (by decide) ?_
  refine lv_ldc2 (v := 3) hx hb hown (hts _ (pj_up m_409)) dR_count_3 ?_
  refine pp_callS (rest := []) (st1 := []) ⟨hx, hb, hml, hown, hts⟩ (c_rB l D cI cJ cZ o0 oL pL qL oS pS qS oT pT qT oj pf pt pv pz od n J u fL fS fT va cL cS cT fr to fi wr lf gs sm hn hJ hu (1 : Int32).toInt64 0 3 (by decide)) (cwS 3 hts (pj_gS m_240 m_241 m_19 m_242) rfl rfl rfl (by decide +kernel) ⟨Nat.le_of_ble_eq_true rfl, Nat.le_of_ble_eq_true rfl⟩) pj_no_ok trivial hK hP hD hS hA [0, 1, 2, 3, 4, 5, 6, 7, 8, 9, 10, 11, 12, 13, 14, 15] rfl rfl rfl hl.1 rfl (Nat.le_of_ble_eq_true rfl) dR_count_6 ⟨Nat.le_of_ble_eq_true rfl, Nat.le_of_ble_eq_true rfl⟩ rfl ?_
  refine lv_aload_n hx hb dR_count_9 rfl (lv_at hl 0 rfl) ?_
  refine pp_callV (rest := []) (st1 := []) ⟨hx, hb, hml, hown, hts⟩ (c_rP l D cI cJ cZ o0 oL pL qL oS pS qS oT pT qT oj pf pt pv pz od n J u fL fS fT va cL cS cT fr to fi wr lf gs sm hn hJ hu h3) (cwV 0 hts (pj_gV m_244 m_246 m_3 m_19 m_247) rfl rfl rfl (by decide +kernel) ⟨Nat.le_of_ble_eq_true rfl, Nat.le_of_ble_eq_true rfl⟩) pj_no_ok trivial hK hP hD hS hA (ci := 3) (q0 := 0) rfl rfl [0, 1, 2, 3, 4, 5, 6, 7, 8, 9, 10, 11, 12, 13, 14, 15] rfl rfl rfl hl.1 rfl (Nat.le_of_ble_eq_true rfl) dR_count_10 ⟨Nat.le_of_ble_eq_true rfl, Nat.le_of_ble_eq_true rfl⟩ rfl ?_
  refine lv_iload_n hx hb dR_count_13 rfl (lv_at hl 1 rfl) ?_
  refine lv_tableIn (tgt := 48) (off := 34) hx hb dR_count_14 (by decide) (by decide) rfl (by decide) ?_
  refine lv_aload_n hx hb dR_count_48 rfl (lv_at hl 0 rfl) ?_
  refine va_get (D := D) (ci := 3) (v := .ref od) (C := "ReplayJournal") (T := TR) (N := 7) hx hb hts (pj_ups inR) hown hK hP 0 rfl rfl 4 (by decide) (hts _ (pj_up m_99)) (fun _ h9 => h9) rfl dR_count_49 ?_
  refine pp_callV (rest := []) (st1 := [.int wr]) ⟨hx, hb, hml, hown, hts⟩ (c_written l D cI cJ cZ od wr lf) (cwV 0 hts (pj_gV m_414 m_415 m_416 m_23 m_417) rfl rfl rfl (by decide +kernel) ⟨Nat.le_of_ble_eq_true rfl, Nat.le_of_ble_eq_true rfl⟩) pj_no_ok trivial hK hP hD hS hA (ci := 1) (q0 := 0) rfl rfl [15] rfl rfl rfl hl.1 rfl (Nat.le_of_ble_eq_true rfl) dR_count_52 ⟨Nat.le_of_ble_eq_true rfl, Nat.le_of_ble_eq_true rfl⟩ rfl ?_
  exact pp_iret hx hb hr hlocks (rfl) dR_count_55
set_option maxHeartbeats 4000000 in
set_option maxRecDepth 100000 in
theorem c_count_2 (l : Launch) (D : va_G) (cI cJ cZ : ClassId) (o0 oL pL qL oS pS qS oT pT qT oj pf pt pv pz od n J u : Nat) (fL fS fT va : Nat → Int64) (cL cS cT fr to fi : Nat → Int32) (wr lf gs sm : Int32) (hn : n < 2 ^ 31) (hJ : J < 2 ^ 31) (hu : u ≤ J) (h3 : ¬ lf = 0) : pp_Met l yR_count wsR_count ({ frames := 7, cells := 0, slots := 0, locals := 107 }) D vwCl (pjT cI cJ cZ) pj_no [.ref o0, .int 2] [(o0, .inr (3, [.ref oL, .ref oS, .ref oT, .ref oj, .ref od, .int gs, .int sm])), (oL, .inr (0, [.ref pL, .ref qL])), (pL, .inl (cJ, n, .inr (.inl fL))), (qL, .inl (cI, n, .inl cL)), (oS, .inr (0, [.ref pS, .ref qS])), (pS, .inl (cJ, n, .inr (.inl fS))), (qS, .inl (cI, n, .inl cS)), (oT, .inr (0, [.ref pT, .ref qT])), (pT, .inl (cJ, n, .inr (.inl fT))), (qT, .inl (cI, n, .inl cT)), (oj, .inr (2, [.ref pf, .ref pt, .ref pv, .ref pz, .int (nI u)])), (pf, .inl (cI, J, .inl fr)), (pt, .inl (cI, J, .inl to)), (pv, .inl (cJ, J, .inr (.inl va))), (pz, .inl (cZ, J, .inl fi)), (od, .inr (1, [.int wr, .int lf]))] (some (.int gs)) := by
  refine pp_of (by decide) rfl (Nat.le_of_ble_eq_true rfl) ?_
  intro p e s m below meth c A ls hx hb hml hr hts hown hlocks hA hK hP hD hS hG hl
  have hl : lv_has ls 2 [(0, .ref o0), (1, .int 2)] := hl
  refine lv_iload_n hx hb dR_count_0 rfl (lv_at hl 1 rfl) ?_
  refine lv_i2l hx hb dR_count_1 rfl ?_
  refine lv_lconst (v := 0) hx hb dR_count_2 (by decide) ?_
  refine lv_ldc2 (v := 3) hx hb hown (hts _ (pj_up m_409)) dR_count_3 ?_
  refine pp_callS (rest := []) (st1 := []) ⟨hx, hb, hml, hown, hts⟩ (c_rB l D cI cJ cZ o0 oL pL qL oS pS qS oT pT qT oj pf pt pv pz od n J u fL fS fT va cL cS cT fr to fi wr lf gs sm hn hJ hu (2 : Int32).toInt64 0 3 (by decide)) (cwS 3 hts (pj_gS m_240 m_241 m_19 m_242) rfl rfl rfl (by decide +kernel) ⟨Nat.le_of_ble_eq_true rfl, Nat.le_of_ble_eq_true rfl⟩) pj_no_ok trivial hK hP hD hS hA [0, 1, 2, 3, 4, 5, 6, 7, 8, 9, 10, 11, 12, 13, 14, 15] rfl rfl rfl hl.1 rfl (Nat.le_of_ble_eq_true rfl) dR_count_6 ⟨Nat.le_of_ble_eq_true rfl, Nat.le_of_ble_eq_true rfl⟩ rfl ?_
  refine lv_aload_n hx hb dR_count_9 rfl (lv_at hl 0 rfl) ?_
  refine pp_callV (rest := []) (st1 := []) ⟨hx, hb, hml, hown, hts⟩ (c_rP l D cI cJ cZ o0 oL pL qL oS pS qS oT pT qT oj pf pt pv pz od n J u fL fS fT va cL cS cT fr to fi wr lf gs sm hn hJ hu h3) (cwV 0 hts (pj_gV m_244 m_246 m_3 m_19 m_247) rfl rfl rfl (by decide +kernel) ⟨Nat.le_of_ble_eq_true rfl, Nat.le_of_ble_eq_true rfl⟩) pj_no_ok trivial hK hP hD hS hA (ci := 3) (q0 := 0) rfl rfl [0, 1, 2, 3, 4, 5, 6, 7, 8, 9, 10, 11, 12, 13, 14, 15] rfl rfl rfl hl.1 rfl (Nat.le_of_ble_eq_true rfl) dR_count_10 ⟨Nat.le_of_ble_eq_true rfl, Nat.le_of_ble_eq_true rfl⟩ rfl ?_
  refine lv_iload_n hx hb dR_count_13 rfl (lv_at hl 1 rfl) ?_
  refine lv_tableIn (tgt := 56) (off := 42) hx hb dR_count_14 (by decide) (by decide) rfl (by decide) ?_
  refine lv_aload_n hx hb dR_count_56 rfl (lv_at hl 0 rfl) ?_
  refine va_get (D := D) (ci := 3) (v := .int gs) (C := "ReplayJournal") (T := TR) (N := 7) hx hb hts (pj_ups inR) hown hK hP 0 rfl rfl 5 (by decide) (hts _ (pj_up m_100)) (fun _ h9 => h9) rfl dR_count_57 ?_
  exact pp_iret hx hb hr hlocks (rfl) dR_count_60
set_option maxHeartbeats 4000000 in
set_option maxRecDepth 100000 in
theorem c_count_3 (l : Launch) (D : va_G) (cI cJ cZ : ClassId) (o0 oL pL qL oS pS qS oT pT qT oj pf pt pv pz od n J u : Nat) (fL fS fT va : Nat → Int64) (cL cS cT fr to fi : Nat → Int32) (wr lf gs sm : Int32) (hn : n < 2 ^ 31) (hJ : J < 2 ^ 31) (hu : u ≤ J) (h3 : ¬ lf = 0) : pp_Met l yR_count wsR_count ({ frames := 7, cells := 0, slots := 0, locals := 107 }) D vwCl (pjT cI cJ cZ) pj_no [.ref o0, .int 3] [(o0, .inr (3, [.ref oL, .ref oS, .ref oT, .ref oj, .ref od, .int gs, .int sm])), (oL, .inr (0, [.ref pL, .ref qL])), (pL, .inl (cJ, n, .inr (.inl fL))), (qL, .inl (cI, n, .inl cL)), (oS, .inr (0, [.ref pS, .ref qS])), (pS, .inl (cJ, n, .inr (.inl fS))), (qS, .inl (cI, n, .inl cS)), (oT, .inr (0, [.ref pT, .ref qT])), (pT, .inl (cJ, n, .inr (.inl fT))), (qT, .inl (cI, n, .inl cT)), (oj, .inr (2, [.ref pf, .ref pt, .ref pv, .ref pz, .int (nI u)])), (pf, .inl (cI, J, .inl fr)), (pt, .inl (cI, J, .inl to)), (pv, .inl (cJ, J, .inr (.inl va))), (pz, .inl (cZ, J, .inl fi)), (od, .inr (1, [.int wr, .int lf]))] (some (.int sm)) := by
  refine pp_of (by decide) rfl (Nat.le_of_ble_eq_true rfl) ?_
  intro p e s m below meth c A ls hx hb hml hr hts hown hlocks hA hK hP hD hS hG hl
  have hl : lv_has ls 2 [(0, .ref o0), (1, .int 3)] := hl
  refine lv_iload_n hx hb dR_count_0 rfl (lv_at hl 1 rfl) ?_
  refine lv_i2l hx hb dR_count_1 rfl ?_
  refine lv_lconst (v := 0) hx hb dR_count_2 (by decide) ?_
  refine lv_ldc2 (v := 3) hx hb hown (hts _ (pj_up m_409)) dR_count_3 ?_
  refine pp_callS (rest := []) (st1 := []) ⟨hx, hb, hml, hown, hts⟩ (c_rB l D cI cJ cZ o0 oL pL qL oS pS qS oT pT qT oj pf pt pv pz od n J u fL fS fT va cL cS cT fr to fi wr lf gs sm hn hJ hu (3 : Int32).toInt64 0 3 (by decide)) (cwS 3 hts (pj_gS m_240 m_241 m_19 m_242) rfl rfl rfl (by decide +kernel) ⟨Nat.le_of_ble_eq_true rfl, Nat.le_of_ble_eq_true rfl⟩) pj_no_ok trivial hK hP hD hS hA [0, 1, 2, 3, 4, 5, 6, 7, 8, 9, 10, 11, 12, 13, 14, 15] rfl rfl rfl hl.1 rfl (Nat.le_of_ble_eq_true rfl) dR_count_6 ⟨Nat.le_of_ble_eq_true rfl, Nat.le_of_ble_eq_true rfl⟩ rfl ?_
  refine lv_aload_n hx hb dR_count_9 rfl (lv_at hl 0 rfl) ?_
  refine pp_callV (rest := []) (st1 := []) ⟨hx, hb, hml, hown, hts⟩ (c_rP l D cI cJ cZ o0 oL pL qL oS pS qS oT pT qT oj pf pt pv pz od n J u fL fS fT va cL cS cT fr to fi wr lf gs sm hn hJ hu h3) (cwV 0 hts (pj_gV m_244 m_246 m_3 m_19 m_247) rfl rfl rfl (by decide +kernel) ⟨Nat.le_of_ble_eq_true rfl, Nat.le_of_ble_eq_true rfl⟩) pj_no_ok trivial hK hP hD hS hA (ci := 3) (q0 := 0) rfl rfl [0, 1, 2, 3, 4, 5, 6, 7, 8, 9, 10, 11, 12, 13, 14, 15] rfl rfl rfl hl.1 rfl (Nat.le_of_ble_eq_true rfl) dR_count_10 ⟨Nat.le_of_ble_eq_true rfl, Nat.le_of_ble_eq_true rfl⟩ rfl ?_
  refine lv_iload_n hx hb dR_count_13 rfl (lv_at hl 1 rfl) ?_
  refine lv_tableOut (tgt := 61) hx hb dR_count_14 (by decide) (by decide) ?_
  refine lv_aload_n hx hb dR_count_61 rfl (lv_at hl 0 rfl) ?_
  refine va_get (D := D) (ci := 3) (v := .int sm) (C := "ReplayJournal") (T := TR) (N := 7) hx hb hts (pj_ups inR) hown hK hP 0 rfl rfl 6 (by decide) (hts _ (pj_up m_101)) (fun _ h9 => h9) rfl dR_count_62 ?_
  exact pp_iret hx hb hr hlocks (rfl) dR_count_65
set_option maxHeartbeats 4000000 in
set_option maxRecDepth 100000 in
theorem t_count_A (l : Launch) (D : va_G) (cI cJ cZ : ClassId) (o0 oL pL qL oS pS qS oT pT qT oj pf pt pv pz od n J u : Nat) (fL fS fT va : Nat → Int64) (cL cS cT fr to fi : Nat → Int32) (wr lf gs sm : Int32) (hn : n < 2 ^ 31) (hJ : J < 2 ^ 31) (hu : u ≤ J) (x : Int32) (h : (x.toInt64 < 0 ∨ (3 : Int64) < x.toInt64)) (htr : l.stackTraces = false) : pt_X l yR_count wsR_count ({ frames := 7, cells := 1, slots := 6, locals := 107 }) D vwCl (pjT cI cJ cZ) pt_G [.ref o0, .int x] [(o0, .inr (3, [.ref oL, .ref oS, .ref oT, .ref oj, .ref od, .int gs, .int sm])), (oL, .inr (0, [.ref pL, .ref qL])), (pL, .inl (cJ, n, .inr (.inl fL))), (qL, .inl (cI, n, .inl cL)), (oS, .inr (0, [.ref pS, .ref qS])), (pS, .inl (cJ, n, .inr (.inl fS))), (qS, .inl (cI, n, .inl cS)), (oT, .inr (0, [.ref pT, .ref qT])), (pT, .inl (cJ, n, .inr (.inl fT))), (qT, .inl (cI, n, .inl cT)), (oj, .inr (2, [.ref pf, .ref pt, .ref pv, .ref pz, .int (nI u)])), (pf, .inl (cI, J, .inl fr)), (pt, .inl (cI, J, .inl to)), (pv, .inl (cJ, J, .inr (.inl va))), (pz, .inl (cZ, J, .inl fi)), (od, .inr (1, [.int wr, .int lf]))] "java/lang/IllegalArgumentException" := by
  refine pt_of (by decide) rfl (Nat.le_of_ble_eq_true rfl) ?_
  intro p e s m below meth c A ls hx hb hml hno hts hown hlocks hA hK hP hD hS hG hl
  have hl : lv_has ls 2 [(0, .ref o0), (1, .int x)] := hl
  refine lv_iload_n hx hb dR_count_0 rfl (lv_at hl 1 rfl) ?_
  refine lv_i2l hx hb dR_count_1 rfl ?_
  refine lv_lconst (v := 0) hx hb dR_count_2 (by decide) ?_
  refine lv_ldc2 (v := 3) hx hb hown (hts _ (pj_up m_409)) dR_count_3 ?_
  refine pt_callS (rest := []) ⟨hx, hb, hml, hown, hts⟩ (t_rB l D cI cJ cZ o0 oL pL qL oS pS qS oT pT qT oj pf pt pv pz od n J u fL fS fT va cL cS cT fr to fi wr lf gs sm hn hJ hu x.toInt64 0 3 h htr) (cwS 3 hts (pj_gS m_240 m_241 m_19 m_242) rfl rfl rfl (by decide +kernel) ⟨Nat.le_of_ble_eq_true rfl, Nat.le_of_ble_eq_true rfl⟩) pt_G_ok hG hK hP hD hS hA [0, 1, 2, 3, 4, 5, 6, 7, 8, 9, 10, 11, 12, 13, 14, 15] rfl rfl rfl hl.1 rfl (Nat.le_of_ble_eq_true rfl) dR_count_6 ⟨Nat.le_of_ble_eq_true rfl, Nat.le_of_ble_eq_true rfl⟩ (fun x ce H1 z1 z2 z3 z4 z5 => ?_)
  exact pt_out z1 z2 z3 z4 z5 hno hlocks
set_option maxHeartbeats 4000000 in
set_option maxRecDepth 100000 in
theorem t_count_S (l : Launch) (D : va_G) (cI cJ cZ : ClassId) (o0 oL pL qL oS pS qS oT pT qT oj pf pt pv pz od n J u : Nat) (fL fS fT va : Nat → Int64) (cL cS cT fr to fi : Nat → Int32) (wr lf gs sm : Int32) (hn : n < 2 ^ 31) (hJ : J < 2 ^ 31) (hu : u ≤ J) (x : Int32) (h2 : ¬ x.toInt64 < 0 ∧ ¬ (3 : Int64) < x.toInt64) (h3 : lf = 0) (htr : l.stackTraces = false) : pt_X l yR_count wsR_count ({ frames := 7, cells := 1, slots := 6, locals := 107 }) D vwCl (pjT cI cJ cZ) pt_G [.ref o0, .int x] [(o0, .inr (3, [.ref oL, .ref oS, .ref oT, .ref oj, .ref od, .int gs, .int sm])), (oL, .inr (0, [.ref pL, .ref qL])), (pL, .inl (cJ, n, .inr (.inl fL))), (qL, .inl (cI, n, .inl cL)), (oS, .inr (0, [.ref pS, .ref qS])), (pS, .inl (cJ, n, .inr (.inl fS))), (qS, .inl (cI, n, .inl cS)), (oT, .inr (0, [.ref pT, .ref qT])), (pT, .inl (cJ, n, .inr (.inl fT))), (qT, .inl (cI, n, .inl cT)), (oj, .inr (2, [.ref pf, .ref pt, .ref pv, .ref pz, .int (nI u)])), (pf, .inl (cI, J, .inl fr)), (pt, .inl (cI, J, .inl to)), (pv, .inl (cJ, J, .inr (.inl va))), (pz, .inl (cZ, J, .inl fi)), (od, .inr (1, [.int wr, .int lf]))] "java/lang/IllegalStateException" := by
  refine pt_of (by decide) rfl (Nat.le_of_ble_eq_true rfl) ?_
  intro p e s m below meth c A ls hx hb hml hno hts hown hlocks hA hK hP hD hS hG hl
  have hl : lv_has ls 2 [(0, .ref o0), (1, .int x)] := hl
  refine lv_iload_n hx hb dR_count_0 rfl (lv_at hl 1 rfl) ?_
  refine lv_i2l hx hb dR_count_1 rfl ?_
  refine lv_lconst (v := 0) hx hb dR_count_2 (by decide) ?_
  refine lv_ldc2 (v := 3) hx hb hown (hts _ (pj_up m_409)) dR_count_3 ?_
  refine pp_callS (rest := []) (st1 := []) ⟨hx, hb, hml, hown, hts⟩ (c_rB l D cI cJ cZ o0 oL pL qL oS pS qS oT pT qT oj pf pt pv pz od n J u fL fS fT va cL cS cT fr to fi wr lf gs sm hn hJ hu x.toInt64 0 3 h2) (cwS 3 hts (pj_gS m_240 m_241 m_19 m_242) rfl rfl rfl (by decide +kernel) ⟨Nat.le_of_ble_eq_true rfl, Nat.le_of_ble_eq_true rfl⟩) pj_no_ok trivial hK hP hD hS hA [0, 1, 2, 3, 4, 5, 6, 7, 8, 9, 10, 11, 12, 13, 14, 15] rfl rfl rfl hl.1 rfl (Nat.le_of_ble_eq_true rfl) dR_count_6 ⟨Nat.le_of_ble_eq_true rfl, Nat.le_of_ble_eq_true rfl⟩ rfl ?_
  refine lv_aload_n hx hb dR_count_9 rfl (lv_at hl 0 rfl) ?_
  refine pt_callV (rest := []) ⟨hx, hb, hml, hown, hts⟩ (t_rP l D cI cJ cZ o0 oL pL qL oS pS qS oT pT qT oj pf pt pv pz od n J u fL fS fT va cL cS cT fr to fi wr lf gs sm hn hJ hu h3 htr) (cwV 0 hts (pj_gV m_244 m_246 m_3 m_19 m_247) rfl rfl rfl (by decide +kernel) ⟨Nat.le_of_ble_eq_true rfl, Nat.le_of_ble_eq_true rfl⟩) pt_G_ok hG hK hP hD hS hA (ci := 3) (q0 := 0) rfl rfl [0, 1, 2, 3, 4, 5, 6, 7, 8, 9, 10, 11, 12, 13, 14, 15] rfl rfl rfl hl.1 rfl (Nat.le_of_ble_eq_true rfl) dR_count_10 ⟨Nat.le_of_ble_eq_true rfl, Nat.le_of_ble_eq_true rfl⟩ (fun x ce H1 z1 z2 z3 z4 z5 => ?_)
  exact pt_out z1 z2 z3 z4 z5 hno hlocks
set_option maxHeartbeats 4000000 in
set_option maxRecDepth 100000 in
theorem c_sblocks (l : Launch) (D : va_G) (cI cJ cZ : ClassId) (o0 oL pL qL oS pS qS oT pT qT oj pf pt pv pz od n J u : Nat) (fL fS fT va : Nat → Int64) (cL cS cT fr to fi : Nat → Int32) (wr lf gs sm : Int32) (hn : n < 2 ^ 31) (hJ : J < 2 ^ 31) (hu : u ≤ J) (h64 : n ≤ 64) : pp_Met l yR_snapshotBlocks wsR_snapshotBlocks ({ frames := 1, cells := 0, slots := 0, locals := 20 }) D vwCl (pjT cI cJ cZ) pj_no [.ref o0] [(o0, .inr (3, [.ref oL, .ref oS, .ref oT, .ref oj, .ref od, .int gs, .int sm])), (oL, .inr (0, [.ref pL, .ref qL])), (pL, .inl (cJ, n, .inr (.inl fL))), (qL, .inl (cI, n, .inl cL)), (oS, .inr (0, [.ref pS, .ref qS])), (pS, .inl (cJ, n, .inr (.inl fS))), (qS, .inl (cI, n, .inl cS)), (oT, .inr (0, [.ref pT, .ref qT])), (pT, .inl (cJ, n, .inr (.inl fT))), (qT, .inl (cI, n, .inl cT)), (oj, .inr (2, [.ref pf, .ref pt, .ref pv, .ref pz, .int (nI u)])), (pf, .inl (cI, J, .inl fr)), (pt, .inl (cI, J, .inl to)), (pv, .inl (cJ, J, .inr (.inl va))), (pz, .inl (cZ, J, .inl fi)), (od, .inr (1, [.int wr, .int lf]))] (some (.int (nI (pjN n)))) := by
  refine pp_of (by decide) rfl (Nat.le_of_ble_eq_true rfl) ?_
  intro p e s m below meth c A ls hx hb hml hr hts hown hlocks hA hK hP hD hS hG hl
  have hl : lv_has ls 1 [(0, .ref o0)] := hl
  refine lv_aload_n hx hb dR_snapshotBlocks_0 rfl (lv_at hl 0 rfl) ?_
  refine va_get (D := D) (ci := 3) (v := .ref oL) (C := "ReplayJournal") (T := TR) (N := 7) hx hb hts (pj_ups inR) hown hK hP 0 rfl rfl 0 (by decide) (hts _ (pj_up m_95)) (fun _ h9 => h9) rfl dR_snapshotBlocks_1 ?_
  refine pp_callV (rest := []) (st1 := [.int (nI n)]) ⟨hx, hb, hml, hown, hts⟩ (c_size l D cI cJ cZ oL pL qL n fL cL hn) (cwV 0 hts (pj_gV m_353 m_354 m_355 m_21 m_356) rfl rfl rfl (by decide +kernel) ⟨Nat.le_of_ble_eq_true rfl, Nat.le_of_ble_eq_true rfl⟩) pj_no_ok trivial hK hP hD hS hA (ci := 0) (q0 := 0) rfl rfl [1, 2, 3] rfl rfl rfl hl.1 rfl (Nat.le_of_ble_eq_true rfl) dR_snapshotBlocks_4 ⟨Nat.le_of_ble_eq_true rfl, Nat.le_of_ble_eq_true rfl⟩ rfl ?_
  refine lv_bipush (v := 16) hx hb dR_snapshotBlocks_7 (by decide) ?_
  refine lv_iadd hx hb dR_snapshotBlocks_9 ?_
  refine lv_topi (fun y9 e9 => ?_)
  have e9 : y9 = nI (n + 16) := e9.trans (nI_add n 16)
  subst e9
  refine lv_iconst (v := 1) hx hb dR_snapshotBlocks_10 (by decide) ?_
  refine lv_isub hx hb dR_snapshotBlocks_11 ?_
  refine lv_topi (fun y9 e9 => ?_)
  have e9 : y9 = nI (n + 15) := e9.trans (nI_pred (n + 15))
  subst e9
  refine lv_bipush (v := 16) hx hb dR_snapshotBlocks_12 (by decide) ?_
  refine lv_idiv hx hb dR_snapshotBlocks_14 (by decide) ?_
  refine lv_topi (fun y9 e9 => ?_)
  have e9 : y9 = nI ((n + 15) / 16) := e9.trans (pk_div (d := 16) (by omega) (by omega) (by omega))
  subst e9
  refine lv_iconst (v := 1) hx hb dR_snapshotBlocks_15 (by decide) ?_
  refine lv_iadd hx hb dR_snapshotBlocks_16 ?_
  refine lv_topi (fun y9 e9 => ?_)
  have e9 : y9 = nI ((n + 15) / 16 + 1) := e9.trans (nI_1 _)
  subst e9
  exact pp_iret hx hb hr hlocks (rfl) dR_snapshotBlocks_17
set_option maxHeartbeats 4000000 in
set_option maxRecDepth 100000 in
theorem c_snap_ok (l : Launch) (D : va_G) (cI cJ cZ : ClassId) (o0 oL pL qL oS pS qS oT pT qT oj pf pt pv pz od n J u : Nat) (fL fS fT va : Nat → Int64) (cL cS cT fr to fi : Nat → Int32) (wr lf gs sm : Int32) (hn : n < 2 ^ 31) (hJ : J < 2 ^ 31) (hu : u ≤ J) (h64 : n ≤ 64) (h3 : ¬ lf = 0) (h4 : gs = -1) (hd : (pjB (pjN n) 0 wr lf).1 = pjN n) : pj_Met l yR_snapshot wsR_snapshot ({ frames := 7, cells := 0, slots := 0, locals := 102 }) D vwCl (pjT cI cJ cZ) pj_no [.ref o0] [(o0, .inr (3, [.ref oL, .ref oS, .ref oT, .ref oj, .ref od, .int gs, .int sm])), (oL, .inr (0, [.ref pL, .ref qL])), (pL, .inl (cJ, n, .inr (.inl fL))), (qL, .inl (cI, n, .inl cL)), (oS, .inr (0, [.ref pS, .ref qS])), (pS, .inl (cJ, n, .inr (.inl fS))), (qS, .inl (cI, n, .inl cS)), (oT, .inr (0, [.ref pT, .ref qT])), (pT, .inl (cJ, n, .inr (.inl fT))), (qT, .inl (cI, n, .inl cT)), (oj, .inr (2, [.ref pf, .ref pt, .ref pv, .ref pz, .int (nI u)])), (pf, .inl (cI, J, .inl fr)), (pt, .inl (cI, J, .inl to)), (pv, .inl (cJ, J, .inr (.inl va))), (pz, .inl (cZ, J, .inl fi)), (od, .inr (1, [.int wr, .int lf]))] (some (.int (if (pjB (pjN n) 0 wr lf).2.2 = 0 then -3 else nI (pjN n)))) [(o0, .inr (3, [.ref oL, .ref oS, .ref oT, .ref oj, .ref od, .int gs, .int (sm + 1)])), (oL, .inr (0, [.ref pL, .ref qL])), (pL, .inl (cJ, n, .inr (.inl fL))), (qL, .inl (cI, n, .inl cL)), (oS, .inr (0, [.ref pS, .ref qS])), (pS, .inl (cJ, n, .inr (.inl (pjC n fL fS)))), (qS, .inl (cI, n, .inl (pjC n cL cS))), (oT, .inr (0, [.ref pT, .ref qT])), (pT, .inl (cJ, n, .inr (.inl fT))), (qT, .inl (cI, n, .inl cT)), (oj, .inr (2, [.ref pf, .ref pt, .ref pv, .ref pz, .int (nI 0)])), (pf, .inl (cI, J, .inl fr)), (pt, .inl (cI, J, .inl to)), (pv, .inl (cJ, J, .inr (.inl va))), (pz, .inl (cZ, J, .inl fi)), (od, .inr (1, [.int ((pjB (pjN n) 0 wr lf).2.1), .int ((pjB (pjN n) 0 wr lf).2.2)]))] 0 0 := by
  refine pj_of (by decide) rfl (Nat.le_of_ble_eq_true rfl) ?_
  intro p e s m below meth c A ls hx hb hml hr hts hown hlocks hin hA hK hP hD hS hG hl
  have hl : lv_has ls 2 [(0, .ref o0)] := hl
  refine lv_aload_n hx hb dR_snapshot_0 rfl (lv_at hl 0 rfl) ?_
  refine pp_callV (rest := []) (st1 := []) ⟨hx, hb, hml, hown, hts⟩ (c_rP l D cI cJ cZ o0 oL pL qL oS pS qS oT pT qT oj pf pt pv pz od n J u fL fS fT va cL cS cT fr to fi wr lf gs sm hn hJ hu h3) (cwV 0 hts (pj_gV m_244 m_246 m_3 m_19 m_247) rfl rfl rfl (by decide +kernel) ⟨Nat.le_of_ble_eq_true rfl, Nat.le_of_ble_eq_true rfl⟩) pj_no_ok trivial hK hP hD hS hA (ci := 3) (q0 := 0) rfl rfl [0, 1, 2, 3, 4, 5, 6, 7, 8, 9, 10, 11, 12, 13, 14, 15] rfl rfl rfl hl.1 rfl (Nat.le_of_ble_eq_true rfl) dR_snapshot_1 ⟨Nat.le_of_ble_eq_true rfl, Nat.le_of_ble_eq_true rfl⟩ rfl ?_
  refine lv_aload_n hx hb dR_snapshot_4 rfl (lv_at hl 0 rfl) ?_
  refine pp_callV (rest := []) (st1 := []) ⟨hx, hb, hml, hown, hts⟩ (c_rN l D cI cJ cZ o0 oL pL qL oS pS qS oT pT qT oj pf pt pv pz od n J u fL fS fT va cL cS cT fr to fi wr lf gs sm hn hJ hu h4) (cwV 0 hts (pj_gV m_304 m_306 m_7 m_19 m_307) rfl rfl rfl (by decide +kernel) ⟨Nat.le_of_ble_eq_true rfl, Nat.le_of_ble_eq_true rfl⟩) pj_no_ok trivial hK hP hD hS hA (ci := 3) (q0 := 0) rfl rfl [0, 1, 2, 3, 4, 5, 6, 7, 8, 9, 10, 11, 12, 13, 14, 15] rfl rfl rfl hl.1 rfl (Nat.le_of_ble_eq_true rfl) dR_snapshot_5 ⟨Nat.le_of_ble_eq_true rfl, Nat.le_of_ble_eq_true rfl⟩ rfl ?_
  refine lv_aload_n hx hb dR_snapshot_8 rfl (lv_at hl 0 rfl) ?_
  refine pp_callV (rest := []) (st1 := [.int (nI (pjN n))]) ⟨hx, hb, hml, hown, hts⟩ (c_sblocks l D cI cJ cZ o0 oL pL qL oS pS qS oT pT qT oj pf pt pv pz od n J u fL fS fT va cL cS cT fr to fi wr lf gs sm hn hJ hu h64) (cwV 0 hts (pj_gV m_349 m_351 m_10 m_19 m_352) rfl rfl rfl (by decide +kernel) ⟨Nat.le_of_ble_eq_true rfl, Nat.le_of_ble_eq_true rfl⟩) pj_no_ok trivial hK hP hD hS hA (ci := 3) (q0 := 0) rfl rfl [0, 1, 2, 3, 4, 5, 6, 7, 8, 9, 10, 11, 12, 13, 14, 15] rfl rfl rfl hl.1 rfl (Nat.le_of_ble_eq_true rfl) dR_snapshot_9 ⟨Nat.le_of_ble_eq_true rfl, Nat.le_of_ble_eq_true rfl⟩ rfl ?_
  refine lv_istore_n (lv' := [(1, .int (nI (pjN n))), (0, .ref o0)]) hx hb dR_snapshot_12 rfl hl (by decide) rfl (fun ls hl => ?_)
  refine lv_aload_n hx hb dR_snapshot_13 rfl (lv_at hl 1 rfl) ?_
  refine va_get (D := D) (ci := 3) (v := .ref od) (C := "ReplayJournal") (T := TR) (N := 7) hx hb hts (pj_ups inR) hown hK hP 0 rfl rfl 4 (by decide) (hts _ (pj_up m_99)) (fun _ h9 => h9) rfl dR_snapshot_14 ?_
  refine lv_iload_n hx hb dR_snapshot_17 rfl (lv_at hl 0 rfl) ?_
  refine pj_callV (w2 := [(o0, .inr (3, [.ref oL, .ref oS, .ref oT, .ref oj, .ref od, .int gs, .int sm])), (oL, .inr (0, [.ref pL, .ref qL])), (pL, .inl (cJ, n, .inr (.inl fL))), (qL, .inl (cI, n, .inl cL)), (oS, .inr (0, [.ref pS, .ref qS])), (pS, .inl (cJ, n, .inr (.inl fS))), (qS, .inl (cI, n, .inl cS)), (oT, .inr (0, [.ref pT, .ref qT])), (pT, .inl (cJ, n, .inr (.inl fT))), (qT, .inl (cI, n, .inl cT)), (oj, .inr (2, [.ref pf, .ref pt, .ref pv, .ref pz, .int (nI u)])), (pf, .inl (cI, J, .inl fr)), (pt, .inl (cI, J, .inl to)), (pv, .inl (cJ, J, .inr (.inl va))), (pz, .inl (cZ, J, .inl fi)), (od, .inr (1, [.int ((pjB (pjN n) 0 wr lf).2.1), .int ((pjB (pjN n) 0 wr lf).2.2)]))]) (wr := [(o0, .inr (3, [.ref oL, .ref oS, .ref oT, .ref oj, .ref od, .int gs, .int sm])), (oL, .inr (0, [.ref pL, .ref qL])), (pL, .inl (cJ, n, .inr (.inl fL))), (qL, .inl (cI, n, .inl cL)), (oS, .inr (0, [.ref pS, .ref qS])), (pS, .inl (cJ, n, .inr (.inl fS))), (qS, .inl (cI, n, .inl cS)), (oT, .inr (0, [.ref pT, .ref qT])), (pT, .inl (cJ, n, .inr (.inl fT))), (qT, .inl (cI, n, .inl cT)), (oj, .inr (2, [.ref pf, .ref pt, .ref pv, .ref pz, .int (nI u)])), (pf, .inl (cI, J, .inl fr)), (pt, .inl (cI, J, .inl to)), (pv, .inl (cJ, J, .inr (.inl va))), (pz, .inl (cZ, J, .inl fi))]) (rest := []) (st1 := [.int (nI (pjB (pjN n) 0 wr lf).1)]) ⟨hx, hb, hml, hown, hts⟩ (c_blocks l D cI cJ cZ od wr lf (pjN n) (by unfold pjN; omega)) (cwV 1 hts (pj_gV m_357 m_358 m_359 m_23 m_360) rfl rfl rfl (by decide +kernel) ⟨Nat.le_of_ble_eq_true rfl, Nat.le_of_ble_eq_true rfl⟩) pj_no_ok trivial hK hP hD hS hA (ci := 1) (q0 := 0) rfl rfl [15] [0, 1, 2, 3, 4, 5, 6, 7, 8, 9, 10, 11, 12, 13, 14] [0, 1, 2, 3, 4, 5, 6, 7, 8, 9, 10, 11, 12, 13, 14, 15] rfl rfl rfl rfl (by decide) rfl rfl rfl hl.1 rfl (Nat.le_of_ble_eq_true rfl) dR_snapshot_18 ⟨Nat.le_of_ble_eq_true rfl, Nat.le_of_ble_eq_true rfl⟩ rfl rfl rfl (fun H locs hP hD hS => ?_)
  refine lv_iload_n hx hb dR_snapshot_21 rfl (lv_at hl 0 rfl) ?_
  refine lv_icmp_ne (tgt := 53) hx hb dR_snapshot_22 (by decide) (fun h9 => absurd h9 (fun z => z (by rw [hd]))) (fun _ => ?_)
  refine lv_aload_n hx hb dR_snapshot_25 rfl (lv_at hl 1 rfl) ?_
  refine va_get (D := D) (ci := 3) (v := .ref oS) (C := "ReplayJournal") (T := TR) (N := 7) hx hb hts (pj_ups inR) hown hK hP 0 rfl rfl 1 (by decide) (hts _ (pj_up m_96)) (fun _ h9 => h9) rfl dR_snapshot_26 ?_
  refine lv_aload_n hx hb dR_snapshot_29 rfl (lv_at hl 1 rfl) ?_
  refine va_get (D := D) (ci := 3) (v := .ref oL) (C := "ReplayJournal") (T := TR) (N := 7) hx hb hts (pj_ups inR) hown hK hP 0 rfl rfl 0 (by decide) (hts _ (pj_up m_95)) (fun _ h9 => h9) rfl dR_snapshot_30 ?_
  refine pj_callV (w2 := [(o0, .inr (3, [.ref oL, .ref oS, .ref oT, .ref oj, .ref od, .int gs, .int sm])), (oL, .inr (0, [.ref pL, .ref qL])), (pL, .inl (cJ, n, .inr (.inl fL))), (qL, .inl (cI, n, .inl cL)), (oS, .inr (0, [.ref pS, .ref qS])), (pS, .inl (cJ, n, .inr (.inl (pjC n fL fS)))), (qS, .inl (cI, n, .inl (pjC n cL cS))), (oT, .inr (0, [.ref pT, .ref qT])), (pT, .inl (cJ, n, .inr (.inl fT))), (qT, .inl (cI, n, .inl cT)), (oj, .inr (2, [.ref pf, .ref pt, .ref pv, .ref pz, .int (nI u)])), (pf, .inl (cI, J, .inl fr)), (pt, .inl (cI, J, .inl to)), (pv, .inl (cJ, J, .inr (.inl va))), (pz, .inl (cZ, J, .inl fi)), (od, .inr (1, [.int ((pjB (pjN n) 0 wr lf).2.1), .int ((pjB (pjN n) 0 wr lf).2.2)]))]) (wr := [(o0, .inr (3, [.ref oL, .ref oS, .ref oT, .ref oj, .ref od, .int gs, .int sm])), (oT, .inr (0, [.ref pT, .ref qT])), (pT, .inl (cJ, n, .inr (.inl fT))), (qT, .inl (cI, n, .inl cT)), (oj, .inr (2, [.ref pf, .ref pt, .ref pv, .ref pz, .int (nI u)])), (pf, .inl (cI, J, .inl fr)), (pt, .inl (cI, J, .inl to)), (pv, .inl (cJ, J, .inr (.inl va))), (pz, .inl (cZ, J, .inl fi)), (od, .inr (1, [.int ((pjB (pjN n) 0 wr lf).2.1), .int ((pjB (pjN n) 0 wr lf).2.2)]))]) (rest := []) (st1 := []) ⟨hx, hb, hml, hown, hts⟩ (c_copy l D cI cJ cZ oS pS qS oL pL qL n fS fL cS cL hn) (cwV 1 hts (pj_gV m_125 m_126 m_127 m_21 m_128) rfl rfl rfl (by decide +kernel) ⟨Nat.le_of_ble_eq_true rfl, Nat.le_of_ble_eq_true rfl⟩) pj_no_ok trivial hK hP hD hS hA (ci := 0) (q0 := 0) rfl rfl [4, 5, 6, 1, 2, 3] [0, 7, 8, 9, 10, 11, 12, 13, 14, 15] [0, 13, 14, 15, 10, 11, 12, 1, 2, 3, 4, 5, 6, 7, 8, 9] rfl rfl rfl rfl (by decide) rfl rfl rfl hl.1 rfl (Nat.le_of_ble_eq_true rfl) dR_snapshot_33 ⟨Nat.le_of_ble_eq_true rfl, Nat.le_of_ble_eq_true rfl⟩ rfl rfl rfl (fun H locs hP hD hS => ?_)
  refine lv_aload_n hx hb dR_snapshot_36 rfl (lv_at hl 1 rfl) ?_
  refine va_get (D := D) (ci := 3) (v := .ref oj) (C := "ReplayJournal") (T := TR) (N := 7) hx hb hts (pj_ups inR) hown hK hP 0 rfl rfl 3 (by decide) (hts _ (pj_up m_98)) (fun _ h9 => h9) rfl dR_snapshot_37 ?_
  refine pj_callV (w2 := [(o0, .inr (3, [.ref oL, .ref oS, .ref oT, .ref oj, .ref od, .int gs, .int sm])), (oL, .inr (0, [.ref pL, .ref qL])), (pL, .inl (cJ, n, .inr (.inl fL))), (qL, .inl (cI, n, .inl cL)), (oS, .inr (0, [.ref pS, .ref qS])), (pS, .inl (cJ, n, .inr (.inl (pjC n fL fS)))), (qS, .inl (cI, n, .inl (pjC n cL cS))), (oT, .inr (0, [.ref pT, .ref qT])), (pT, .inl (cJ, n, .inr (.inl fT))), (qT, .inl (cI, n, .inl cT)), (oj, .inr (2, [.ref pf, .ref pt, .ref pv, .ref pz, .int (nI 0)])), (pf, .inl (cI, J, .inl fr)), (pt, .inl (cI, J, .inl to)), (pv, .inl (cJ, J, .inr (.inl va))), (pz, .inl (cZ, J, .inl fi)), (od, .inr (1, [.int ((pjB (pjN n) 0 wr lf).2.1), .int ((pjB (pjN n) 0 wr lf).2.2)]))]) (wr := [(o0, .inr (3, [.ref oL, .ref oS, .ref oT, .ref oj, .ref od, .int gs, .int sm])), (oL, .inr (0, [.ref pL, .ref qL])), (pL, .inl (cJ, n, .inr (.inl fL))), (qL, .inl (cI, n, .inl cL)), (oS, .inr (0, [.ref pS, .ref qS])), (pS, .inl (cJ, n, .inr (.inl (pjC n fL fS)))), (qS, .inl (cI, n, .inl (pjC n cL cS))), (oT, .inr (0, [.ref pT, .ref qT])), (pT, .inl (cJ, n, .inr (.inl fT))), (qT, .inl (cI, n, .inl cT)), (od, .inr (1, [.int ((pjB (pjN n) 0 wr lf).2.1), .int ((pjB (pjN n) 0 wr lf).2.2)]))]) (rest := []) (st1 := []) ⟨hx, hb, hml, hown, hts⟩ (c_clear l D cI cJ cZ oj pf pt pv pz J u fr to fi va hJ hu) (cwV 0 hts (pj_gV m_363 m_364 m_365 m_22 m_366) rfl rfl rfl (by decide +kernel) ⟨Nat.le_of_ble_eq_true rfl, Nat.le_of_ble_eq_true rfl⟩) pj_no_ok trivial hK hP hD hS hA (ci := 2) (q0 := 0) rfl rfl [10, 11, 12, 13, 14] [0, 1, 2, 3, 4, 5, 6, 7, 8, 9, 15] [0, 1, 2, 3, 4, 5, 6, 7, 8, 9, 11, 12, 13, 14, 15, 10] rfl rfl rfl rfl (by decide) rfl rfl rfl hl.1 rfl (Nat.le_of_ble_eq_true rfl) dR_snapshot_40 ⟨Nat.le_of_ble_eq_true rfl, Nat.le_of_ble_eq_true rfl⟩ rfl rfl rfl (fun H locs hP hD hS => ?_)
  refine lv_aload_n hx hb dR_snapshot_43 rfl (lv_at hl 1 rfl) ?_
  refine lv_dup hx hb dR_snapshot_44 rfl ?_
  refine va_get (D := D) (ci := 3) (v := .int sm) (C := "ReplayJournal") (T := TR) (N := 7) hx hb hts (pj_ups inR) hown hK hP 0 rfl rfl 6 (by decide) (hts _ (pj_up m_101)) (fun _ h9 => h9) rfl dR_snapshot_45 ?_
  refine lv_iconst (v := 1) hx hb dR_snapshot_48 (by decide) ?_
  refine lv_iadd hx hb dR_snapshot_49 ?_
  refine va_put (D := D) (ci := 3) (v := .int (sm + 1)) (ty := .int) (C := "ReplayJournal") (T := TR) (N := 7) hx hb hts (pj_ups inR) tyR tyR_ok nmR hown hK hP hD hS 0 rfl rfl 6 (by decide) (hts _ (pj_up m_101)) (fun _ h9 => h9) rfl (by decide +kernel) rfl rfl (Nat.le_of_ble_eq_true rfl) dR_snapshot_50 (fun H locs hP hD hS => ?_)
  have hP : va_P D vwCl [(o0, .inr (3, [.ref oL, .ref oS, .ref oT, .ref oj, .ref od, .int gs, .int (sm + 1)])), (oL, .inr (0, [.ref pL, .ref qL])), (pL, .inl (cJ, n, .inr (.inl fL))), (qL, .inl (cI, n, .inl cL)), (oS, .inr (0, [.ref pS, .ref qS])), (pS, .inl (cJ, n, .inr (.inl (pjC n fL fS)))), (qS, .inl (cI, n, .inl (pjC n cL cS))), (oT, .inr (0, [.ref pT, .ref qT])), (pT, .inl (cJ, n, .inr (.inl fT))), (qT, .inl (cI, n, .inl cT)), (oj, .inr (2, [.ref pf, .ref pt, .ref pv, .ref pz, .int (nI 0)])), (pf, .inl (cI, J, .inl fr)), (pt, .inl (cI, J, .inl to)), (pv, .inl (cJ, J, .inr (.inl va))), (pz, .inl (cZ, J, .inl fi)), (od, .inr (1, [.int ((pjB (pjN n) 0 wr lf).2.1), .int ((pjB (pjN n) 0 wr lf).2.2)]))] H := hP
  have hD : va_D A [(o0, .inr (3, [.ref oL, .ref oS, .ref oT, .ref oj, .ref od, .int gs, .int (sm + 1)])), (oL, .inr (0, [.ref pL, .ref qL])), (pL, .inl (cJ, n, .inr (.inl fL))), (qL, .inl (cI, n, .inl cL)), (oS, .inr (0, [.ref pS, .ref qS])), (pS, .inl (cJ, n, .inr (.inl (pjC n fL fS)))), (qS, .inl (cI, n, .inl (pjC n cL cS))), (oT, .inr (0, [.ref pT, .ref qT])), (pT, .inl (cJ, n, .inr (.inl fT))), (qT, .inl (cI, n, .inl cT)), (oj, .inr (2, [.ref pf, .ref pt, .ref pv, .ref pz, .int (nI 0)])), (pf, .inl (cI, J, .inl fr)), (pt, .inl (cI, J, .inl to)), (pv, .inl (cJ, J, .inr (.inl va))), (pz, .inl (cZ, J, .inl fi)), (od, .inr (1, [.int ((pjB (pjN n) 0 wr lf).2.1), .int ((pjB (pjN n) 0 wr lf).2.2)]))] := hD
  refine lv_aload_n hx hb dR_snapshot_53 rfl (lv_at hl 1 rfl) ?_
  refine va_get (D := D) (ci := 3) (v := .ref od) (C := "ReplayJournal") (T := TR) (N := 7) hx hb hts (pj_ups inR) hown hK hP 0 rfl rfl 4 (by decide) (hts _ (pj_up m_99)) (fun _ h9 => h9) rfl dR_snapshot_54 ?_
  by_cases hz : (pjB (pjN n) 0 wr lf).2.2 = 0
  · refine pp_callV (rest := []) (st1 := [.int 1]) ⟨hx, hb, hml, hown, hts⟩ (c_off_t l D cI cJ cZ od (pjB (pjN n) 0 wr lf).2.1 (pjB (pjN n) 0 wr lf).2.2 hz) (cwV 0 hts (pj_gV m_150 m_151 m_152 m_23 m_153) rfl rfl rfl (by decide +kernel) ⟨Nat.le_of_ble_eq_true rfl, Nat.le_of_ble_eq_true rfl⟩) pj_no_ok trivial hK hP hD hS hA (ci := 1) (q0 := 0) rfl rfl [15] rfl rfl rfl hl.1 rfl (Nat.le_of_ble_eq_true rfl) dR_snapshot_57 ⟨Nat.le_of_ble_eq_true rfl, Nat.le_of_ble_eq_true rfl⟩ rfl ?_
    refine lv_if_eq (tgt := 68) hx hb dR_snapshot_60 (by decide) (fun h9 => absurd h9 (by decide)) (fun _ => ?_)
    refine lv_bipush (v := (-3)) hx hb dR_snapshot_63 (by decide) ?_
    refine lv_goto (tgt := 69) hx hb dR_snapshot_65 (by decide) ?_
    exact pj_iret hx hb hr hlocks hP hD hS ((if_pos hz).symm) (rfl) dR_snapshot_69
  · refine pp_callV (rest := []) (st1 := [.int 0]) ⟨hx, hb, hml, hown, hts⟩ (c_off_f l D cI cJ cZ od (pjB (pjN n) 0 wr lf).2.1 (pjB (pjN n) 0 wr lf).2.2 hz) (cwV 0 hts (pj_gV m_150 m_151 m_152 m_23 m_153) rfl rfl rfl (by decide +kernel) ⟨Nat.le_of_ble_eq_true rfl, Nat.le_of_ble_eq_true rfl⟩) pj_no_ok trivial hK hP hD hS hA (ci := 1) (q0 := 0) rfl rfl [15] rfl rfl rfl hl.1 rfl (Nat.le_of_ble_eq_true rfl) dR_snapshot_57 ⟨Nat.le_of_ble_eq_true rfl, Nat.le_of_ble_eq_true rfl⟩ rfl ?_
    refine lv_if_eq (tgt := 68) hx hb dR_snapshot_60 (by decide) (fun _ => ?_) (fun h9 => (h9 rfl).elim)
    refine lv_iload_n hx hb dR_snapshot_68 rfl (lv_at hl 0 rfl) ?_
    exact pj_iret hx hb hr hlocks hP hD hS ((if_neg hz).symm) (rfl) dR_snapshot_69
set_option maxHeartbeats 4000000 in
set_option maxRecDepth 100000 in
theorem c_snap_cut (l : Launch) (D : va_G) (cI cJ cZ : ClassId) (o0 oL pL qL oS pS qS oT pT qT oj pf pt pv pz od n J u : Nat) (fL fS fT va : Nat → Int64) (cL cS cT fr to fi : Nat → Int32) (wr lf gs sm : Int32) (hn : n < 2 ^ 31) (hJ : J < 2 ^ 31) (hu : u ≤ J) (h64 : n ≤ 64) (h3 : ¬ lf = 0) (h4 : gs = -1) (hd : ¬ (pjB (pjN n) 0 wr lf).1 = pjN n) : pj_Met l yR_snapshot wsR_snapshot ({ frames := 7, cells := 0, slots := 0, locals := 102 }) D vwCl (pjT cI cJ cZ) pj_no [.ref o0] [(o0, .inr (3, [.ref oL, .ref oS, .ref oT, .ref oj, .ref od, .int gs, .int sm])), (oL, .inr (0, [.ref pL, .ref qL])), (pL, .inl (cJ, n, .inr (.inl fL))), (qL, .inl (cI, n, .inl cL)), (oS, .inr (0, [.ref pS, .ref qS])), (pS, .inl (cJ, n, .inr (.inl fS))), (qS, .inl (cI, n, .inl cS)), (oT, .inr (0, [.ref pT, .ref qT])), (pT, .inl (cJ, n, .inr (.inl fT))), (qT, .inl (cI, n, .inl cT)), (oj, .inr (2, [.ref pf, .ref pt, .ref pv, .ref pz, .int (nI u)])), (pf, .inl (cI, J, .inl fr)), (pt, .inl (cI, J, .inl to)), (pv, .inl (cJ, J, .inr (.inl va))), (pz, .inl (cZ, J, .inl fi)), (od, .inr (1, [.int wr, .int lf]))] (some (.int (if (pjB (pjN n) 0 wr lf).2.2 = 0 then -3 else nI (pjN n)))) [(o0, .inr (3, [.ref oL, .ref oS, .ref oT, .ref oj, .ref od, .int gs, .int sm])), (oL, .inr (0, [.ref pL, .ref qL])), (pL, .inl (cJ, n, .inr (.inl fL))), (qL, .inl (cI, n, .inl cL)), (oS, .inr (0, [.ref pS, .ref qS])), (pS, .inl (cJ, n, .inr (.inl fS))), (qS, .inl (cI, n, .inl cS)), (oT, .inr (0, [.ref pT, .ref qT])), (pT, .inl (cJ, n, .inr (.inl fT))), (qT, .inl (cI, n, .inl cT)), (oj, .inr (2, [.ref pf, .ref pt, .ref pv, .ref pz, .int (nI u)])), (pf, .inl (cI, J, .inl fr)), (pt, .inl (cI, J, .inl to)), (pv, .inl (cJ, J, .inr (.inl va))), (pz, .inl (cZ, J, .inl fi)), (od, .inr (1, [.int ((pjB (pjN n) 0 wr lf).2.1), .int ((pjB (pjN n) 0 wr lf).2.2)]))] 0 0 := by
  refine pj_of (by decide) rfl (Nat.le_of_ble_eq_true rfl) ?_
  intro p e s m below meth c A ls hx hb hml hr hts hown hlocks hin hA hK hP hD hS hG hl
  have hl : lv_has ls 2 [(0, .ref o0)] := hl
  refine lv_aload_n hx hb dR_snapshot_0 rfl (lv_at hl 0 rfl) ?_
  refine pp_callV (rest := []) (st1 := []) ⟨hx, hb, hml, hown, hts⟩ (c_rP l D cI cJ cZ o0 oL pL qL oS pS qS oT pT qT oj pf pt pv pz od n J u fL fS fT va cL cS cT fr to fi wr lf gs sm hn hJ hu h3) (cwV 0 hts (pj_gV m_244 m_246 m_3 m_19 m_247) rfl rfl rfl (by decide +kernel) ⟨Nat.le_of_ble_eq_true rfl, Nat.le_of_ble_eq_true rfl⟩) pj_no_ok trivial hK hP hD hS hA (ci := 3) (q0 := 0) rfl rfl [0, 1, 2, 3, 4, 5, 6, 7, 8, 9, 10, 11, 12, 13, 14, 15] rfl rfl rfl hl.1 rfl (Nat.le_of_ble_eq_true rfl) dR_snapshot_1 ⟨Nat.le_of_ble_eq_true rfl, Nat.le_of_ble_eq_true rfl⟩ rfl ?_
  refine lv_aload_n hx hb dR_snapshot_4 rfl (lv_at hl 0 rfl) ?_
  refine pp_callV (rest := []) (st1 := []) ⟨hx, hb, hml, hown, hts⟩ (c_rN l D cI cJ cZ o0 oL pL qL oS pS qS oT pT qT oj pf pt pv pz od n J u fL fS fT va cL cS cT fr to fi wr lf gs sm hn hJ hu h4) (cwV 0 hts (pj_gV m_304 m_306 m_7 m_19 m_307) rfl rfl rfl (by decide +kernel) ⟨Nat.le_of_ble_eq_true rfl, Nat.le_of_ble_eq_true rfl⟩) pj_no_ok trivial hK hP hD hS hA (ci := 3) (q0 := 0) rfl rfl [0, 1, 2, 3, 4, 5, 6, 7, 8, 9, 10, 11, 12, 13, 14, 15] rfl rfl rfl hl.1 rfl (Nat.le_of_ble_eq_true rfl) dR_snapshot_5 ⟨Nat.le_of_ble_eq_true rfl, Nat.le_of_ble_eq_true rfl⟩ rfl ?_
  refine lv_aload_n hx hb dR_snapshot_8 rfl (lv_at hl 0 rfl) ?_
  refine pp_callV (rest := []) (st1 := [.int (nI (pjN n))]) ⟨hx, hb, hml, hown, hts⟩ (c_sblocks l D cI cJ cZ o0 oL pL qL oS pS qS oT pT qT oj pf pt pv pz od n J u fL fS fT va cL cS cT fr to fi wr lf gs sm hn hJ hu h64) (cwV 0 hts (pj_gV m_349 m_351 m_10 m_19 m_352) rfl rfl rfl (by decide +kernel) ⟨Nat.le_of_ble_eq_true rfl, Nat.le_of_ble_eq_true rfl⟩) pj_no_ok trivial hK hP hD hS hA (ci := 3) (q0 := 0) rfl rfl [0, 1, 2, 3, 4, 5, 6, 7, 8, 9, 10, 11, 12, 13, 14, 15] rfl rfl rfl hl.1 rfl (Nat.le_of_ble_eq_true rfl) dR_snapshot_9 ⟨Nat.le_of_ble_eq_true rfl, Nat.le_of_ble_eq_true rfl⟩ rfl ?_
  refine lv_istore_n (lv' := [(1, .int (nI (pjN n))), (0, .ref o0)]) hx hb dR_snapshot_12 rfl hl (by decide) rfl (fun ls hl => ?_)
  refine lv_aload_n hx hb dR_snapshot_13 rfl (lv_at hl 1 rfl) ?_
  refine va_get (D := D) (ci := 3) (v := .ref od) (C := "ReplayJournal") (T := TR) (N := 7) hx hb hts (pj_ups inR) hown hK hP 0 rfl rfl 4 (by decide) (hts _ (pj_up m_99)) (fun _ h9 => h9) rfl dR_snapshot_14 ?_
  refine lv_iload_n hx hb dR_snapshot_17 rfl (lv_at hl 0 rfl) ?_
  refine pj_callV (w2 := [(o0, .inr (3, [.ref oL, .ref oS, .ref oT, .ref oj, .ref od, .int gs, .int sm])), (oL, .inr (0, [.ref pL, .ref qL])), (pL, .inl (cJ, n, .inr (.inl fL))), (qL, .inl (cI, n, .inl cL)), (oS, .inr (0, [.ref pS, .ref qS])), (pS, .inl (cJ, n, .inr (.inl fS))), (qS, .inl (cI, n, .inl cS)), (oT, .inr (0, [.ref pT, .ref qT])), (pT, .inl (cJ, n, .inr (.inl fT))), (qT, .inl (cI, n, .inl cT)), (oj, .inr (2, [.ref pf, .ref pt, .ref pv, .ref pz, .int (nI u)])), (pf, .inl (cI, J, .inl fr)), (pt, .inl (cI, J, .inl to)), (pv, .inl (cJ, J, .inr (.inl va))), (pz, .inl (cZ, J, .inl fi)), (od, .inr (1, [.int ((pjB (pjN n) 0 wr lf).2.1), .int ((pjB (pjN n) 0 wr lf).2.2)]))]) (wr := [(o0, .inr (3, [.ref oL, .ref oS, .ref oT, .ref oj, .ref od, .int gs, .int sm])), (oL, .inr (0, [.ref pL, .ref qL])), (pL, .inl (cJ, n, .inr (.inl fL))), (qL, .inl (cI, n, .inl cL)), (oS, .inr (0, [.ref pS, .ref qS])), (pS, .inl (cJ, n, .inr (.inl fS))), (qS, .inl (cI, n, .inl cS)), (oT, .inr (0, [.ref pT, .ref qT])), (pT, .inl (cJ, n, .inr (.inl fT))), (qT, .inl (cI, n, .inl cT)), (oj, .inr (2, [.ref pf, .ref pt, .ref pv, .ref pz, .int (nI u)])), (pf, .inl (cI, J, .inl fr)), (pt, .inl (cI, J, .inl to)), (pv, .inl (cJ, J, .inr (.inl va))), (pz, .inl (cZ, J, .inl fi))]) (rest := []) (st1 := [.int (nI (pjB (pjN n) 0 wr lf).1)]) ⟨hx, hb, hml, hown, hts⟩ (c_blocks l D cI cJ cZ od wr lf (pjN n) (by unfold pjN; omega)) (cwV 1 hts (pj_gV m_357 m_358 m_359 m_23 m_360) rfl rfl rfl (by decide +kernel) ⟨Nat.le_of_ble_eq_true rfl, Nat.le_of_ble_eq_true rfl⟩) pj_no_ok trivial hK hP hD hS hA (ci := 1) (q0 := 0) rfl rfl [15] [0, 1, 2, 3, 4, 5, 6, 7, 8, 9, 10, 11, 12, 13, 14] [0, 1, 2, 3, 4, 5, 6, 7, 8, 9, 10, 11, 12, 13, 14, 15] rfl rfl rfl rfl (by decide) rfl rfl rfl hl.1 rfl (Nat.le_of_ble_eq_true rfl) dR_snapshot_18 ⟨Nat.le_of_ble_eq_true rfl, Nat.le_of_ble_eq_true rfl⟩ rfl rfl rfl (fun H locs hP hD hS => ?_)
  refine lv_iload_n hx hb dR_snapshot_21 rfl (lv_at hl 0 rfl) ?_
  refine lv_icmp_ne (tgt := 53) hx hb dR_snapshot_22 (by decide) (fun _ => ?_) (fun h9 => absurd h9 (fun z => hd ((nI_eq (by have := pjB_le (pjN n) 0 wr lf; unfold pjN at *; omega) (by unfold pjN; omega)).mp z)))
  refine lv_aload_n hx hb dR_snapshot_53 rfl (lv_at hl 1 rfl) ?_
  refine va_get (D := D) (ci := 3) (v := .ref od) (C := "ReplayJournal") (T := TR) (N := 7) hx hb hts (pj_ups inR) hown hK hP 0 rfl rfl 4 (by decide) (hts _ (pj_up m_99)) (fun _ h9 => h9) rfl dR_snapshot_54 ?_
  by_cases hz : (pjB (pjN n) 0 wr lf).2.2 = 0
  · refine pp_callV (rest := []) (st1 := [.int 1]) ⟨hx, hb, hml, hown, hts⟩ (c_off_t l D cI cJ cZ od (pjB (pjN n) 0 wr lf).2.1 (pjB (pjN n) 0 wr lf).2.2 hz) (cwV 0 hts (pj_gV m_150 m_151 m_152 m_23 m_153) rfl rfl rfl (by decide +kernel) ⟨Nat.le_of_ble_eq_true rfl, Nat.le_of_ble_eq_true rfl⟩) pj_no_ok trivial hK hP hD hS hA (ci := 1) (q0 := 0) rfl rfl [15] rfl rfl rfl hl.1 rfl (Nat.le_of_ble_eq_true rfl) dR_snapshot_57 ⟨Nat.le_of_ble_eq_true rfl, Nat.le_of_ble_eq_true rfl⟩ rfl ?_
    refine lv_if_eq (tgt := 68) hx hb dR_snapshot_60 (by decide) (fun h9 => absurd h9 (by decide)) (fun _ => ?_)
    refine lv_bipush (v := (-3)) hx hb dR_snapshot_63 (by decide) ?_
    refine lv_goto (tgt := 69) hx hb dR_snapshot_65 (by decide) ?_
    exact pj_iret hx hb hr hlocks hP hD hS ((if_pos hz).symm) (rfl) dR_snapshot_69
  · refine pp_callV (rest := []) (st1 := [.int 0]) ⟨hx, hb, hml, hown, hts⟩ (c_off_f l D cI cJ cZ od (pjB (pjN n) 0 wr lf).2.1 (pjB (pjN n) 0 wr lf).2.2 hz) (cwV 0 hts (pj_gV m_150 m_151 m_152 m_23 m_153) rfl rfl rfl (by decide +kernel) ⟨Nat.le_of_ble_eq_true rfl, Nat.le_of_ble_eq_true rfl⟩) pj_no_ok trivial hK hP hD hS hA (ci := 1) (q0 := 0) rfl rfl [15] rfl rfl rfl hl.1 rfl (Nat.le_of_ble_eq_true rfl) dR_snapshot_57 ⟨Nat.le_of_ble_eq_true rfl, Nat.le_of_ble_eq_true rfl⟩ rfl ?_
    refine lv_if_eq (tgt := 68) hx hb dR_snapshot_60 (by decide) (fun _ => ?_) (fun h9 => (h9 rfl).elim)
    refine lv_iload_n hx hb dR_snapshot_68 rfl (lv_at hl 0 rfl) ?_
    exact pj_iret hx hb hr hlocks hP hD hS ((if_neg hz).symm) (rfl) dR_snapshot_69
set_option maxHeartbeats 4000000 in
set_option maxRecDepth 100000 in
theorem c_end_poor (l : Launch) (D : va_G) (cI cJ cZ : ClassId) (o0 oL pL qL oS pS qS oT pT qT oj pf pt pv pz od n J u : Nat) (fL fS fT va : Nat → Int64) (cL cS cT fr to fi : Nat → Int32) (wr lf sm : Int32) (hn : n < 2 ^ 31) (hJ : J < 2 ^ 31) (hu : u ≤ J) (gz : Nat) (hg : gz ≤ u) (h3 : ¬ lf = 0) (ht : (pjTry n fr to va gz (u - gz) (pjC n fL fT) (pjC n cL cT)).1 = false) : pj_Met l yR_end wsR_end ({ frames := 7, cells := 0, slots := 0, locals := 102 }) D vwCl (pjT cI cJ cZ) pj_no [.ref o0] [(o0, .inr (3, [.ref oL, .ref oS, .ref oT, .ref oj, .ref od, .int (nI gz), .int sm])), (oL, .inr (0, [.ref pL, .ref qL])), (pL, .inl (cJ, n, .inr (.inl fL))), (qL, .inl (cI, n, .inl cL)), (oS, .inr (0, [.ref pS, .ref qS])), (pS, .inl (cJ, n, .inr (.inl fS))), (qS, .inl (cI, n, .inl cS)), (oT, .inr (0, [.ref pT, .ref qT])), (pT, .inl (cJ, n, .inr (.inl fT))), (qT, .inl (cI, n, .inl cT)), (oj, .inr (2, [.ref pf, .ref pt, .ref pv, .ref pz, .int (nI u)])), (pf, .inl (cI, J, .inl fr)), (pt, .inl (cI, J, .inl to)), (pv, .inl (cJ, J, .inr (.inl va))), (pz, .inl (cZ, J, .inl fi)), (od, .inr (1, [.int wr, .int lf]))] (some (.int (-4))) [(o0, .inr (3, [.ref oL, .ref oS, .ref oT, .ref oj, .ref od, .int (-1), .int sm])), (oL, .inr (0, [.ref pL, .ref qL])), (pL, .inl (cJ, n, .inr (.inl fL))), (qL, .inl (cI, n, .inl cL)), (oS, .inr (0, [.ref pS, .ref qS])), (pS, .inl (cJ, n, .inr (.inl fS))), (qS, .inl (cI, n, .inl cS)), (oT, .inr (0, [.ref pT, .ref qT])), (pT, .inl (cJ, n, .inr (.inl ((pjTry n fr to va gz (u - gz) (pjC n fL fT) (pjC n cL cT)).2.1)))), (qT, .inl (cI, n, .inl ((pjTry n fr to va gz (u - gz) (pjC n fL fT) (pjC n cL cT)).2.2))), (oj, .inr (2, [.ref pf, .ref pt, .ref pv, .ref pz, .int (nI u)])), (pf, .inl (cI, J, .inl fr)), (pt, .inl (cI, J, .inl to)), (pv, .inl (cJ, J, .inr (.inl va))), (pz, .inl (cZ, J, .inl fi)), (od, .inr (1, [.int wr, .int lf]))] 0 0 := by
  refine pj_of (by decide) rfl (Nat.le_of_ble_eq_true rfl) ?_
  intro p e s m below meth c A ls hx hb hml hr hts hown hlocks hin hA hK hP hD hS hG hl
  have hl : lv_has ls 2 [(0, .ref o0)] := hl
  refine lv_aload_n hx hb dR_end_0 rfl (lv_at hl 0 rfl) ?_
  refine pp_callV (rest := []) (st1 := []) ⟨hx, hb, hml, hown, hts⟩ (c_rP l D cI cJ cZ o0 oL pL qL oS pS qS oT pT qT oj pf pt pv pz od n J u fL fS fT va cL cS cT fr to fi wr lf (nI gz) sm hn hJ hu h3) (cwV 0 hts (pj_gV m_244 m_246 m_3 m_19 m_247) rfl rfl rfl (by decide +kernel) ⟨Nat.le_of_ble_eq_true rfl, Nat.le_of_ble_eq_true rfl⟩) pj_no_ok trivial hK hP hD hS hA (ci := 3) (q0 := 0) rfl rfl [0, 1, 2, 3, 4, 5, 6, 7, 8, 9, 10, 11, 12, 13, 14, 15] rfl rfl rfl hl.1 rfl (Nat.le_of_ble_eq_true rfl) dR_end_1 ⟨Nat.le_of_ble_eq_true rfl, Nat.le_of_ble_eq_true rfl⟩ rfl ?_
  refine lv_aload_n hx hb dR_end_4 rfl (lv_at hl 0 rfl) ?_
  refine pp_callV (rest := []) (st1 := []) ⟨hx, hb, hml, hown, hts⟩ (c_rG l D cI cJ cZ o0 oL pL qL oS pS qS oT pT qT oj pf pt pv pz od n J u fL fS fT va cL cS cT fr to fi wr lf (nI gz) sm hn hJ hu (pj_ne1 (by omega))) (cwV 0 hts (pj_gV m_316 m_318 m_8 m_19 m_319) rfl rfl rfl (by decide +kernel) ⟨Nat.le_of_ble_eq_true rfl, Nat.le_of_ble_eq_true rfl⟩) pj_no_ok trivial hK hP hD hS hA (ci := 3) (q0 := 0) rfl rfl [0, 1, 2, 3, 4, 5, 6, 7, 8, 9, 10, 11, 12, 13, 14, 15] rfl rfl rfl hl.1 rfl (Nat.le_of_ble_eq_true rfl) dR_end_5 ⟨Nat.le_of_ble_eq_true rfl, Nat.le_of_ble_eq_true rfl⟩ rfl ?_
  refine lv_aload_n hx hb dR_end_8 rfl (lv_at hl 0 rfl) ?_
  refine va_get (D := D) (ci := 3) (v := .ref oT) (C := "ReplayJournal") (T := TR) (N := 7) hx hb hts (pj_ups inR) hown hK hP 0 rfl rfl 2 (by decide) (hts _ (pj_up m_97)) (fun _ h9 => h9) rfl dR_end_9 ?_
  refine lv_aload_n hx hb dR_end_12 rfl (lv_at hl 0 rfl) ?_
  refine va_get (D := D) (ci := 3) (v := .ref oL) (C := "ReplayJournal") (T := TR) (N := 7) hx hb hts (pj_ups inR) hown hK hP 0 rfl rfl 0 (by decide) (hts _ (pj_up m_95)) (fun _ h9 => h9) rfl dR_end_13 ?_
  refine pj_callV (w2 := [(o0, .inr (3, [.ref oL, .ref oS, .ref oT, .ref oj, .ref od, .int (nI gz), .int sm])), (oL, .inr (0, [.ref pL, .ref qL])), (pL, .inl (cJ, n, .inr (.inl fL))), (qL, .inl (cI, n, .inl cL)), (oS, .inr (0, [.ref pS, .ref qS])), (pS, .inl (cJ, n, .inr (.inl fS))), (qS, .inl (cI, n, .inl cS)), (oT, .inr (0, [.ref pT, .ref qT])), (pT, .inl (cJ, n, .inr (.inl (pjC n fL fT)))), (qT, .inl (cI, n, .inl (pjC n cL cT))), (oj, .inr (2, [.ref pf, .ref pt, .ref pv, .ref pz, .int (nI u)])), (pf, .inl (cI, J, .inl fr)), (pt, .inl (cI, J, .inl to)), (pv, .inl (cJ, J, .inr (.inl va))), (pz, .inl (cZ, J, .inl fi)), (od, .inr (1, [.int wr, .int lf]))]) (wr := [(o0, .inr (3, [.ref oL, .ref oS, .ref oT, .ref oj, .ref od, .int (nI gz), .int sm])), (oS, .inr (0, [.ref pS, .ref qS])), (pS, .inl (cJ, n, .inr (.inl fS))), (qS, .inl (cI, n, .inl cS)), (oj, .inr (2, [.ref pf, .ref pt, .ref pv, .ref pz, .int (nI u)])), (pf, .inl (cI, J, .inl fr)), (pt, .inl (cI, J, .inl to)), (pv, .inl (cJ, J, .inr (.inl va))), (pz, .inl (cZ, J, .inl fi)), (od, .inr (1, [.int wr, .int lf]))]) (rest := []) (st1 := []) ⟨hx, hb, hml, hown, hts⟩ (c_copy l D cI cJ cZ oT pT qT oL pL qL n fT fL cT cL hn) (cwV 1 hts (pj_gV m_125 m_126 m_127 m_21 m_128) rfl rfl rfl (by decide +kernel) ⟨Nat.le_of_ble_eq_true rfl, Nat.le_of_ble_eq_true rfl⟩) pj_no_ok trivial hK hP hD hS hA (ci := 0) (q0 := 0) rfl rfl [7, 8, 9, 1, 2, 3] [0, 4, 5, 6, 10, 11, 12, 13, 14, 15] [0, 13, 14, 15, 1, 2, 3, 10, 11, 12, 4, 5, 6, 7, 8, 9] rfl rfl rfl rfl (by decide) rfl rfl rfl hl.1 rfl (Nat.le_of_ble_eq_true rfl) dR_end_16 ⟨Nat.le_of_ble_eq_true rfl, Nat.le_of_ble_eq_true rfl⟩ rfl rfl rfl (fun H locs hP hD hS => ?_)
  refine lv_aload_n hx hb dR_end_19 rfl (lv_at hl 0 rfl) ?_
  refine va_get (D := D) (ci := 3) (v := .ref oj) (C := "ReplayJournal") (T := TR) (N := 7) hx hb hts (pj_ups inR) hown hK hP 0 rfl rfl 3 (by decide) (hts _ (pj_up m_98)) (fun _ h9 => h9) rfl dR_end_20 ?_
  refine lv_aload_n hx hb dR_end_23 rfl (lv_at hl 0 rfl) ?_
  refine va_get (D := D) (ci := 3) (v := .int (nI gz)) (C := "ReplayJournal") (T := TR) (N := 7) hx hb hts (pj_ups inR) hown hK hP 0 rfl rfl 5 (by decide) (hts _ (pj_up m_100)) (fun _ h9 => h9) rfl dR_end_24 ?_
  refine lv_aload_n hx hb dR_end_27 rfl (lv_at hl 0 rfl) ?_
  refine va_get (D := D) (ci := 3) (v := .ref oT) (C := "ReplayJournal") (T := TR) (N := 7) hx hb hts (pj_ups inR) hown hK hP 0 rfl rfl 2 (by decide) (hts _ (pj_up m_97)) (fun _ h9 => h9) rfl dR_end_28 ?_
  refine pj_callV (w2 := [(o0, .inr (3, [.ref oL, .ref oS, .ref oT, .ref oj, .ref od, .int (nI gz), .int sm])), (oL, .inr (0, [.ref pL, .ref qL])), (pL, .inl (cJ, n, .inr (.inl fL))), (qL, .inl (cI, n, .inl cL)), (oS, .inr (0, [.ref pS, .ref qS])), (pS, .inl (cJ, n, .inr (.inl fS))), (qS, .inl (cI, n, .inl cS)), (oT, .inr (0, [.ref pT, .ref qT])), (pT, .inl (cJ, n, .inr (.inl ((pjTry n fr to va gz (u - gz) (pjC n fL fT) (pjC n cL cT)).2.1)))), (qT, .inl (cI, n, .inl ((pjTry n fr to va gz (u - gz) (pjC n fL fT) (pjC n cL cT)).2.2))), (oj, .inr (2, [.ref pf, .ref pt, .ref pv, .ref pz, .int (nI u)])), (pf, .inl (cI, J, .inl fr)), (pt, .inl (cI, J, .inl to)), (pv, .inl (cJ, J, .inr (.inl va))), (pz, .inl (cZ, J, .inl fi)), (od, .inr (1, [.int wr, .int lf]))]) (wr := [(o0, .inr (3, [.ref oL, .ref oS, .ref oT, .ref oj, .ref od, .int (nI gz), .int sm])), (oL, .inr (0, [.ref pL, .ref qL])), (pL, .inl (cJ, n, .inr (.inl fL))), (qL, .inl (cI, n, .inl cL)), (oS, .inr (0, [.ref pS, .ref qS])), (pS, .inl (cJ, n, .inr (.inl fS))), (qS, .inl (cI, n, .inl cS)), (od, .inr (1, [.int wr, .int lf]))]) (rest := []) (st1 := [.int (if (pjTry n fr to va gz (u - gz) (pjC n fL fT) (pjC n cL cT)).1 then 1 else 0)]) ⟨hx, hb, hml, hown, hts⟩ (c_try l D cI cJ cZ oj pf pt pv pz J u fr to fi va hJ hu gz hg oT pT qT n (pjC n fL fT) (pjC n cL cT) hn) (cwV 2 hts (pj_gV m_321 m_322 m_323 m_22 m_324) rfl rfl rfl (by decide +kernel) ⟨Nat.le_of_ble_eq_true rfl, Nat.le_of_ble_eq_true rfl⟩) pj_no_ok trivial hK hP hD hS hA (ci := 2) (q0 := 0) rfl rfl [10, 11, 12, 13, 14, 7, 8, 9] [0, 1, 2, 3, 4, 5, 6, 15] [0, 1, 2, 3, 4, 5, 6, 13, 14, 15, 8, 9, 10, 11, 12, 7] rfl rfl rfl rfl (by decide) rfl rfl rfl hl.1 rfl (Nat.le_of_ble_eq_true rfl) dR_end_31 ⟨Nat.le_of_ble_eq_true rfl, Nat.le_of_ble_eq_true rfl⟩ rfl rfl rfl (fun H locs hP hD hS => ?_)
  refine lv_if_ne (tgt := 45) hx hb dR_end_34 (by decide) (fun h9 => absurd h9 (fun z => z (by rw [ht]; rfl))) (fun _ => ?_)
  refine lv_aload_n hx hb dR_end_37 rfl (lv_at hl 0 rfl) ?_
  refine lv_iconst (v := -1) hx hb dR_end_38 (by decide) ?_
  refine va_put (D := D) (ci := 3) (v := .int (-1)) (ty := .int) (C := "ReplayJournal") (T := TR) (N := 7) hx hb hts (pj_ups inR) tyR tyR_ok nmR hown hK hP hD hS 0 rfl rfl 5 (by decide) (hts _ (pj_up m_100)) (fun _ h9 => h9) rfl (by decide +kernel) rfl rfl (Nat.le_of_ble_eq_true rfl) dR_end_39 (fun H locs hP hD hS => ?_)
  have hP : va_P D vwCl [(o0, .inr (3, [.ref oL, .ref oS, .ref oT, .ref oj, .ref od, .int (-1), .int sm])), (oL, .inr (0, [.ref pL, .ref qL])), (pL, .inl (cJ, n, .inr (.inl fL))), (qL, .inl (cI, n, .inl cL)), (oS, .inr (0, [.ref pS, .ref qS])), (pS, .inl (cJ, n, .inr (.inl fS))), (qS, .inl (cI, n, .inl cS)), (oT, .inr (0, [.ref pT, .ref qT])), (pT, .inl (cJ, n, .inr (.inl ((pjTry n fr to va gz (u - gz) (pjC n fL fT) (pjC n cL cT)).2.1)))), (qT, .inl (cI, n, .inl ((pjTry n fr to va gz (u - gz) (pjC n fL fT) (pjC n cL cT)).2.2))), (oj, .inr (2, [.ref pf, .ref pt, .ref pv, .ref pz, .int (nI u)])), (pf, .inl (cI, J, .inl fr)), (pt, .inl (cI, J, .inl to)), (pv, .inl (cJ, J, .inr (.inl va))), (pz, .inl (cZ, J, .inl fi)), (od, .inr (1, [.int wr, .int lf]))] H := hP
  have hD : va_D A [(o0, .inr (3, [.ref oL, .ref oS, .ref oT, .ref oj, .ref od, .int (-1), .int sm])), (oL, .inr (0, [.ref pL, .ref qL])), (pL, .inl (cJ, n, .inr (.inl fL))), (qL, .inl (cI, n, .inl cL)), (oS, .inr (0, [.ref pS, .ref qS])), (pS, .inl (cJ, n, .inr (.inl fS))), (qS, .inl (cI, n, .inl cS)), (oT, .inr (0, [.ref pT, .ref qT])), (pT, .inl (cJ, n, .inr (.inl ((pjTry n fr to va gz (u - gz) (pjC n fL fT) (pjC n cL cT)).2.1)))), (qT, .inl (cI, n, .inl ((pjTry n fr to va gz (u - gz) (pjC n fL fT) (pjC n cL cT)).2.2))), (oj, .inr (2, [.ref pf, .ref pt, .ref pv, .ref pz, .int (nI u)])), (pf, .inl (cI, J, .inl fr)), (pt, .inl (cI, J, .inl to)), (pv, .inl (cJ, J, .inr (.inl va))), (pz, .inl (cZ, J, .inl fi)), (od, .inr (1, [.int wr, .int lf]))] := hD
  refine lv_bipush (v := (-4)) hx hb dR_end_42 (by decide) ?_
  exact pj_iret hx hb hr hlocks hP hD hS (rfl) (rfl) dR_end_44
set_option maxHeartbeats 4000000 in
set_option maxRecDepth 100000 in
theorem c_end_full (l : Launch) (D : va_G) (cI cJ cZ : ClassId) (o0 oL pL qL oS pS qS oT pT qT oj pf pt pv pz od n J u : Nat) (fL fS fT va : Nat → Int64) (cL cS cT fr to fi : Nat → Int32) (wr lf sm : Int32) (hn : n < 2 ^ 31) (hJ : J < 2 ^ 31) (hu : u ≤ J) (gz : Nat) (hg : gz ≤ u) (h3 : ¬ lf = 0) (ht : (pjTry n fr to va gz (u - gz) (pjC n fL fT) (pjC n cL cT)).1 = true) (h2 : J ≤ u) : pj_Met l yR_end wsR_end ({ frames := 7, cells := 0, slots := 0, locals := 102 }) D vwCl (pjT cI cJ cZ) pj_no [.ref o0] [(o0, .inr (3, [.ref oL, .ref oS, .ref oT, .ref oj, .ref od, .int (nI gz), .int sm])), (oL, .inr (0, [.ref pL, .ref qL])), (pL, .inl (cJ, n, .inr (.inl fL))), (qL, .inl (cI, n, .inl cL)), (oS, .inr (0, [.ref pS, .ref qS])), (pS, .inl (cJ, n, .inr (.inl fS))), (qS, .inl (cI, n, .inl cS)), (oT, .inr (0, [.ref pT, .ref qT])), (pT, .inl (cJ, n, .inr (.inl fT))), (qT, .inl (cI, n, .inl cT)), (oj, .inr (2, [.ref pf, .ref pt, .ref pv, .ref pz, .int (nI u)])), (pf, .inl (cI, J, .inl fr)), (pt, .inl (cI, J, .inl to)), (pv, .inl (cJ, J, .inr (.inl va))), (pz, .inl (cZ, J, .inl fi)), (od, .inr (1, [.int wr, .int lf]))] (some (.int (-2))) [(o0, .inr (3, [.ref oL, .ref oS, .ref oT, .ref oj, .ref od, .int (nI gz), .int sm])), (oL, .inr (0, [.ref pL, .ref qL])), (pL, .inl (cJ, n, .inr (.inl fL))), (qL, .inl (cI, n, .inl cL)), (oS, .inr (0, [.ref pS, .ref qS])), (pS, .inl (cJ, n, .inr (.inl fS))), (qS, .inl (cI, n, .inl cS)), (oT, .inr (0, [.ref pT, .ref qT])), (pT, .inl (cJ, n, .inr (.inl ((pjTry n fr to va gz (u - gz) (pjC n fL fT) (pjC n cL cT)).2.1)))), (qT, .inl (cI, n, .inl ((pjTry n fr to va gz (u - gz) (pjC n fL fT) (pjC n cL cT)).2.2))), (oj, .inr (2, [.ref pf, .ref pt, .ref pv, .ref pz, .int (nI u)])), (pf, .inl (cI, J, .inl fr)), (pt, .inl (cI, J, .inl to)), (pv, .inl (cJ, J, .inr (.inl va))), (pz, .inl (cZ, J, .inl fi)), (od, .inr (1, [.int wr, .int lf]))] 0 0 := by
  refine pj_of (by decide) rfl (Nat.le_of_ble_eq_true rfl) ?_
  intro p e s m below meth c A ls hx hb hml hr hts hown hlocks hin hA hK hP hD hS hG hl
  have hl : lv_has ls 2 [(0, .ref o0)] := hl
  refine lv_aload_n hx hb dR_end_0 rfl (lv_at hl 0 rfl) ?_
  refine pp_callV (rest := []) (st1 := []) ⟨hx, hb, hml, hown, hts⟩ (c_rP l D cI cJ cZ o0 oL pL qL oS pS qS oT pT qT oj pf pt pv pz od n J u fL fS fT va cL cS cT fr to fi wr lf (nI gz) sm hn hJ hu h3) (cwV 0 hts (pj_gV m_244 m_246 m_3 m_19 m_247) rfl rfl rfl (by decide +kernel) ⟨Nat.le_of_ble_eq_true rfl, Nat.le_of_ble_eq_true rfl⟩) pj_no_ok trivial hK hP hD hS hA (ci := 3) (q0 := 0) rfl rfl [0, 1, 2, 3, 4, 5, 6, 7, 8, 9, 10, 11, 12, 13, 14, 15] rfl rfl rfl hl.1 rfl (Nat.le_of_ble_eq_true rfl) dR_end_1 ⟨Nat.le_of_ble_eq_true rfl, Nat.le_of_ble_eq_true rfl⟩ rfl ?_
  refine lv_aload_n hx hb dR_end_4 rfl (lv_at hl 0 rfl) ?_
  refine pp_callV (rest := []) (st1 := []) ⟨hx, hb, hml, hown, hts⟩ (c_rG l D cI cJ cZ o0 oL pL qL oS pS qS oT pT qT oj pf pt pv pz od n J u fL fS fT va cL cS cT fr to fi wr lf (nI gz) sm hn hJ hu (pj_ne1 (by omega))) (cwV 0 hts (pj_gV m_316 m_318 m_8 m_19 m_319) rfl rfl rfl (by decide +kernel) ⟨Nat.le_of_ble_eq_true rfl, Nat.le_of_ble_eq_true rfl⟩) pj_no_ok trivial hK hP hD hS hA (ci := 3) (q0 := 0) rfl rfl [0, 1, 2, 3, 4, 5, 6, 7, 8, 9, 10, 11, 12, 13, 14, 15] rfl rfl rfl hl.1 rfl (Nat.le_of_ble_eq_true rfl) dR_end_5 ⟨Nat.le_of_ble_eq_true rfl, Nat.le_of_ble_eq_true rfl⟩ rfl ?_
  refine lv_aload_n hx hb dR_end_8 rfl (lv_at hl 0 rfl) ?_
  refine va_get (D := D) (ci := 3) (v := .ref oT) (C := "ReplayJournal") (T := TR) (N := 7) hx hb hts (pj_ups inR) hown hK hP 0 rfl rfl 2 (by decide) (hts _ (pj_up m_97)) (fun _ h9 => h9) rfl dR_end_9 ?_
  refine lv_aload_n hx hb dR_end_12 rfl (lv_at hl 0 rfl) ?_
  refine va_get (D := D) (ci := 3) (v := .ref oL) (C := "ReplayJournal") (T := TR) (N := 7) hx hb hts (pj_ups inR) hown hK hP 0 rfl rfl 0 (by decide) (hts _ (pj_up m_95)) (fun _ h9 => h9) rfl dR_end_13 ?_
  refine pj_callV (w2 := [(o0, .inr (3, [.ref oL, .ref oS, .ref oT, .ref oj, .ref od, .int (nI gz), .int sm])), (oL, .inr (0, [.ref pL, .ref qL])), (pL, .inl (cJ, n, .inr (.inl fL))), (qL, .inl (cI, n, .inl cL)), (oS, .inr (0, [.ref pS, .ref qS])), (pS, .inl (cJ, n, .inr (.inl fS))), (qS, .inl (cI, n, .inl cS)), (oT, .inr (0, [.ref pT, .ref qT])), (pT, .inl (cJ, n, .inr (.inl (pjC n fL fT)))), (qT, .inl (cI, n, .inl (pjC n cL cT))), (oj, .inr (2, [.ref pf, .ref pt, .ref pv, .ref pz, .int (nI u)])), (pf, .inl (cI, J, .inl fr)), (pt, .inl (cI, J, .inl to)), (pv, .inl (cJ, J, .inr (.inl va))), (pz, .inl (cZ, J, .inl fi)), (od, .inr (1, [.int wr, .int lf]))]) (wr := [(o0, .inr (3, [.ref oL, .ref oS, .ref oT, .ref oj, .ref od, .int (nI gz), .int sm])), (oS, .inr (0, [.ref pS, .ref qS])), (pS, .inl (cJ, n, .inr (.inl fS))), (qS, .inl (cI, n, .inl cS)), (oj, .inr (2, [.ref pf, .ref pt, .ref pv, .ref pz, .int (nI u)])), (pf, .inl (cI, J, .inl fr)), (pt, .inl (cI, J, .inl to)), (pv, .inl (cJ, J, .inr (.inl va))), (pz, .inl (cZ, J, .inl fi)), (od, .inr (1, [.int wr, .int lf]))]) (rest := []) (st1 := []) ⟨hx, hb, hml, hown, hts⟩ (c_copy l D cI cJ cZ oT pT qT oL pL qL n fT fL cT cL hn) (cwV 1 hts (pj_gV m_125 m_126 m_127 m_21 m_128) rfl rfl rfl (by decide +kernel) ⟨Nat.le_of_ble_eq_true rfl, Nat.le_of_ble_eq_true rfl⟩) pj_no_ok trivial hK hP hD hS hA (ci := 0) (q0 := 0) rfl rfl [7, 8, 9, 1, 2, 3] [0, 4, 5, 6, 10, 11, 12, 13, 14, 15] [0, 13, 14, 15, 1, 2, 3, 10, 11, 12, 4, 5, 6, 7, 8, 9] rfl rfl rfl rfl (by decide) rfl rfl rfl hl.1 rfl (Nat.le_of_ble_eq_true rfl) dR_end_16 ⟨Nat.le_of_ble_eq_true rfl, Nat.le_of_ble_eq_true rfl⟩ rfl rfl rfl (fun H locs hP hD hS => ?_)
  refine lv_aload_n hx hb dR_end_19 rfl (lv_at hl 0 rfl) ?_
  refine va_get (D := D) (ci := 3) (v := .ref oj) (C := "ReplayJournal") (T := TR) (N := 7) hx hb hts (pj_ups inR) hown hK hP 0 rfl rfl 3 (by decide) (hts _ (pj_up m_98)) (fun _ h9 => h9) rfl dR_end_20 ?_
  refine lv_aload_n hx hb dR_end_23 rfl (lv_at hl 0 rfl) ?_
  refine va_get (D := D) (ci := 3) (v := .int (nI gz)) (C := "ReplayJournal") (T := TR) (N := 7) hx hb hts (pj_ups inR) hown hK hP 0 rfl rfl 5 (by decide) (hts _ (pj_up m_100)) (fun _ h9 => h9) rfl dR_end_24 ?_
  refine lv_aload_n hx hb dR_end_27 rfl (lv_at hl 0 rfl) ?_
  refine va_get (D := D) (ci := 3) (v := .ref oT) (C := "ReplayJournal") (T := TR) (N := 7) hx hb hts (pj_ups inR) hown hK hP 0 rfl rfl 2 (by decide) (hts _ (pj_up m_97)) (fun _ h9 => h9) rfl dR_end_28 ?_
  refine pj_callV (w2 := [(o0, .inr (3, [.ref oL, .ref oS, .ref oT, .ref oj, .ref od, .int (nI gz), .int sm])), (oL, .inr (0, [.ref pL, .ref qL])), (pL, .inl (cJ, n, .inr (.inl fL))), (qL, .inl (cI, n, .inl cL)), (oS, .inr (0, [.ref pS, .ref qS])), (pS, .inl (cJ, n, .inr (.inl fS))), (qS, .inl (cI, n, .inl cS)), (oT, .inr (0, [.ref pT, .ref qT])), (pT, .inl (cJ, n, .inr (.inl ((pjTry n fr to va gz (u - gz) (pjC n fL fT) (pjC n cL cT)).2.1)))), (qT, .inl (cI, n, .inl ((pjTry n fr to va gz (u - gz) (pjC n fL fT) (pjC n cL cT)).2.2))), (oj, .inr (2, [.ref pf, .ref pt, .ref pv, .ref pz, .int (nI u)])), (pf, .inl (cI, J, .inl fr)), (pt, .inl (cI, J, .inl to)), (pv, .inl (cJ, J, .inr (.inl va))), (pz, .inl (cZ, J, .inl fi)), (od, .inr (1, [.int wr, .int lf]))]) (wr := [(o0, .inr (3, [.ref oL, .ref oS, .ref oT, .ref oj, .ref od, .int (nI gz), .int sm])), (oL, .inr (0, [.ref pL, .ref qL])), (pL, .inl (cJ, n, .inr (.inl fL))), (qL, .inl (cI, n, .inl cL)), (oS, .inr (0, [.ref pS, .ref qS])), (pS, .inl (cJ, n, .inr (.inl fS))), (qS, .inl (cI, n, .inl cS)), (od, .inr (1, [.int wr, .int lf]))]) (rest := []) (st1 := [.int (if (pjTry n fr to va gz (u - gz) (pjC n fL fT) (pjC n cL cT)).1 then 1 else 0)]) ⟨hx, hb, hml, hown, hts⟩ (c_try l D cI cJ cZ oj pf pt pv pz J u fr to fi va hJ hu gz hg oT pT qT n (pjC n fL fT) (pjC n cL cT) hn) (cwV 2 hts (pj_gV m_321 m_322 m_323 m_22 m_324) rfl rfl rfl (by decide +kernel) ⟨Nat.le_of_ble_eq_true rfl, Nat.le_of_ble_eq_true rfl⟩) pj_no_ok trivial hK hP hD hS hA (ci := 2) (q0 := 0) rfl rfl [10, 11, 12, 13, 14, 7, 8, 9] [0, 1, 2, 3, 4, 5, 6, 15] [0, 1, 2, 3, 4, 5, 6, 13, 14, 15, 8, 9, 10, 11, 12, 7] rfl rfl rfl rfl (by decide) rfl rfl rfl hl.1 rfl (Nat.le_of_ble_eq_true rfl) dR_end_31 ⟨Nat.le_of_ble_eq_true rfl, Nat.le_of_ble_eq_true rfl⟩ rfl rfl rfl (fun H locs hP hD hS => ?_)
  refine lv_if_ne (tgt := 45) hx hb dR_end_34 (by decide) (fun _ => ?_) (fun h9 => absurd h9 (by rw [ht]; decide))
  refine lv_aload_n hx hb dR_end_45 rfl (lv_at hl 0 rfl) ?_
  refine va_get (D := D) (ci := 3) (v := .ref oj) (C := "ReplayJournal") (T := TR) (N := 7) hx hb hts (pj_ups inR) hown hK hP 0 rfl rfl 3 (by decide) (hts _ (pj_up m_98)) (fun _ h9 => h9) rfl dR_end_46 ?_
  refine lv_aload_n hx hb dR_end_49 rfl (lv_at hl 0 rfl) ?_
  refine va_get (D := D) (ci := 3) (v := .int (nI gz)) (C := "ReplayJournal") (T := TR) (N := 7) hx hb hts (pj_ups inR) hown hK hP 0 rfl rfl 5 (by decide) (hts _ (pj_up m_100)) (fun _ h9 => h9) rfl dR_end_50 ?_
  refine pp_callV (rest := []) (st1 := [.int 0]) ⟨hx, hb, hml, hown, hts⟩ (c_we_full l D cI cJ cZ oj pf pt pv pz J u fr to fi va hJ hu gz h2) (cwV 1 hts (pj_gV m_331 m_332 m_333 m_22 m_334) rfl rfl rfl (by decide +kernel) ⟨Nat.le_of_ble_eq_true rfl, Nat.le_of_ble_eq_true rfl⟩) pj_no_ok trivial hK hP hD hS hA (ci := 2) (q0 := 0) rfl rfl [10, 11, 12, 13, 14] rfl rfl rfl hl.1 rfl (Nat.le_of_ble_eq_true rfl) dR_end_53 ⟨Nat.le_of_ble_eq_true rfl, Nat.le_of_ble_eq_true rfl⟩ rfl ?_
  refine lv_if_ne (tgt := 62) hx hb dR_end_56 (by decide) (fun h9 => absurd h9 (fun z => z rfl)) (fun _ => ?_)
  refine lv_bipush (v := (-2)) hx hb dR_end_59 (by decide) ?_
  exact pj_iret hx hb hr hlocks hP hD hS (rfl) (rfl) dR_end_61
set_option maxHeartbeats 4000000 in
set_option maxRecDepth 100000 in
theorem c_end_ok (l : Launch) (D : va_G) (cI cJ cZ : ClassId) (o0 oL pL qL oS pS qS oT pT qT oj pf pt pv pz od n J u : Nat) (fL fS fT va : Nat → Int64) (cL cS cT fr to fi : Nat → Int32) (wr lf sm : Int32) (hn : n < 2 ^ 31) (hJ : J < 2 ^ 31) (hu : u ≤ J) (gz : Nat) (hg : gz ≤ u) (h3 : ¬ lf = 0) (ht : (pjTry n fr to va gz (u - gz) (pjC n fL fT) (pjC n cL cT)).1 = true) (h2 : u < J) : pj_Met l yR_end wsR_end ({ frames := 7, cells := 0, slots := 0, locals := 102 }) D vwCl (pjT cI cJ cZ) pj_no [.ref o0] [(o0, .inr (3, [.ref oL, .ref oS, .ref oT, .ref oj, .ref od, .int (nI gz), .int sm])), (oL, .inr (0, [.ref pL, .ref qL])), (pL, .inl (cJ, n, .inr (.inl fL))), (qL, .inl (cI, n, .inl cL)), (oS, .inr (0, [.ref pS, .ref qS])), (pS, .inl (cJ, n, .inr (.inl fS))), (qS, .inl (cI, n, .inl cS)), (oT, .inr (0, [.ref pT, .ref qT])), (pT, .inl (cJ, n, .inr (.inl fT))), (qT, .inl (cI, n, .inl cT)), (oj, .inr (2, [.ref pf, .ref pt, .ref pv, .ref pz, .int (nI u)])), (pf, .inl (cI, J, .inl fr)), (pt, .inl (cI, J, .inl to)), (pv, .inl (cJ, J, .inr (.inl va))), (pz, .inl (cZ, J, .inl fi)), (od, .inr (1, [.int wr, .int lf]))] (some (.int (if pjL lf = 0 then -3 else nI gz))) [(o0, .inr (3, [.ref oL, .ref oS, .ref oT, .ref oj, .ref od, .int (-1), .int sm])), (oL, .inr (0, [.ref pL, .ref qL])), (pL, .inl (cJ, n, .inr (.inl (pjC n (pjTry n fr to va gz (u - gz) (pjC n fL fT) (pjC n cL cT)).2.1 fL)))), (qL, .inl (cI, n, .inl (pjC n (pjTry n fr to va gz (u - gz) (pjC n fL fT) (pjC n cL cT)).2.2 cL))), (oS, .inr (0, [.ref pS, .ref qS])), (pS, .inl (cJ, n, .inr (.inl fS))), (qS, .inl (cI, n, .inl cS)), (oT, .inr (0, [.ref pT, .ref qT])), (pT, .inl (cJ, n, .inr (.inl ((pjTry n fr to va gz (u - gz) (pjC n fL fT) (pjC n cL cT)).2.1)))), (qT, .inl (cI, n, .inl ((pjTry n fr to va gz (u - gz) (pjC n fL fT) (pjC n cL cT)).2.2))), (oj, .inr (2, [.ref pf, .ref pt, .ref pv, .ref pz, .int (nI (u + 1))])), (pf, .inl (cI, J, .inl fr)), (pt, .inl (cI, J, .inl to)), (pv, .inl (cJ, J, .inr (.inl va))), (pz, .inl (cZ, J, .inl (upd (pjF (u - gz) u fi) u 0))), (od, .inr (1, [.int (wr + 1), .int (pjL lf)]))] 0 0 := by
  refine pj_of (by decide) rfl (Nat.le_of_ble_eq_true rfl) ?_
  intro p e s m below meth c A ls hx hb hml hr hts hown hlocks hin hA hK hP hD hS hG hl
  have hl : lv_has ls 2 [(0, .ref o0)] := hl
  refine lv_aload_n hx hb dR_end_0 rfl (lv_at hl 0 rfl) ?_
  refine pp_callV (rest := []) (st1 := []) ⟨hx, hb, hml, hown, hts⟩ (c_rP l D cI cJ cZ o0 oL pL qL oS pS qS oT pT qT oj pf pt pv pz od n J u fL fS fT va cL cS cT fr to fi wr lf (nI gz) sm hn hJ hu h3) (cwV 0 hts (pj_gV m_244 m_246 m_3 m_19 m_247) rfl rfl rfl (by decide +kernel) ⟨Nat.le_of_ble_eq_true rfl, Nat.le_of_ble_eq_true rfl⟩) pj_no_ok trivial hK hP hD hS hA (ci := 3) (q0 := 0) rfl rfl [0, 1, 2, 3, 4, 5, 6, 7, 8, 9, 10, 11, 12, 13, 14, 15] rfl rfl rfl hl.1 rfl (Nat.le_of_ble_eq_true rfl) dR_end_1 ⟨Nat.le_of_ble_eq_true rfl, Nat.le_of_ble_eq_true rfl⟩ rfl ?_
  refine lv_aload_n hx hb dR_end_4 rfl (lv_at hl 0 rfl) ?_
  refine pp_callV (rest := []) (st1 := []) ⟨hx, hb, hml, hown, hts⟩ (c_rG l D cI cJ cZ o0 oL pL qL oS pS qS oT pT qT oj pf pt pv pz od n J u fL fS fT va cL cS cT fr to fi wr lf (nI gz) sm hn hJ hu (pj_ne1 (by omega))) (cwV 0 hts (pj_gV m_316 m_318 m_8 m_19 m_319) rfl rfl rfl (by decide +kernel) ⟨Nat.le_of_ble_eq_true rfl, Nat.le_of_ble_eq_true rfl⟩) pj_no_ok trivial hK hP hD hS hA (ci := 3) (q0 := 0) rfl rfl [0, 1, 2, 3, 4, 5, 6, 7, 8, 9, 10, 11, 12, 13, 14, 15] rfl rfl rfl hl.1 rfl (Nat.le_of_ble_eq_true rfl) dR_end_5 ⟨Nat.le_of_ble_eq_true rfl, Nat.le_of_ble_eq_true rfl⟩ rfl ?_
  refine lv_aload_n hx hb dR_end_8 rfl (lv_at hl 0 rfl) ?_
  refine va_get (D := D) (ci := 3) (v := .ref oT) (C := "ReplayJournal") (T := TR) (N := 7) hx hb hts (pj_ups inR) hown hK hP 0 rfl rfl 2 (by decide) (hts _ (pj_up m_97)) (fun _ h9 => h9) rfl dR_end_9 ?_
  refine lv_aload_n hx hb dR_end_12 rfl (lv_at hl 0 rfl) ?_
  refine va_get (D := D) (ci := 3) (v := .ref oL) (C := "ReplayJournal") (T := TR) (N := 7) hx hb hts (pj_ups inR) hown hK hP 0 rfl rfl 0 (by decide) (hts _ (pj_up m_95)) (fun _ h9 => h9) rfl dR_end_13 ?_
  refine pj_callV (w2 := [(o0, .inr (3, [.ref oL, .ref oS, .ref oT, .ref oj, .ref od, .int (nI gz), .int sm])), (oL, .inr (0, [.ref pL, .ref qL])), (pL, .inl (cJ, n, .inr (.inl fL))), (qL, .inl (cI, n, .inl cL)), (oS, .inr (0, [.ref pS, .ref qS])), (pS, .inl (cJ, n, .inr (.inl fS))), (qS, .inl (cI, n, .inl cS)), (oT, .inr (0, [.ref pT, .ref qT])), (pT, .inl (cJ, n, .inr (.inl (pjC n fL fT)))), (qT, .inl (cI, n, .inl (pjC n cL cT))), (oj, .inr (2, [.ref pf, .ref pt, .ref pv, .ref pz, .int (nI u)])), (pf, .inl (cI, J, .inl fr)), (pt, .inl (cI, J, .inl to)), (pv, .inl (cJ, J, .inr (.inl va))), (pz, .inl (cZ, J, .inl fi)), (od, .inr (1, [.int wr, .int lf]))]) (wr := [(o0, .inr (3, [.ref oL, .ref oS, .ref oT, .ref oj, .ref od, .int (nI gz), .int sm])), (oS, .inr (0, [.ref pS, .ref qS])), (pS, .inl (cJ, n, .inr (.inl fS))), (qS, .inl (cI, n, .inl cS)), (oj, .inr (2, [.ref pf, .ref pt, .ref pv, .ref pz, .int (nI u)])), (pf, .inl (cI, J, .inl fr)), (pt, .inl (cI, J, .inl to)), (pv, .inl (cJ, J, .inr (.inl va))), (pz, .inl (cZ, J, .inl fi)), (od, .inr (1, [.int wr, .int lf]))]) (rest := []) (st1 := []) ⟨hx, hb, hml, hown, hts⟩ (c_copy l D cI cJ cZ oT pT qT oL pL qL n fT fL cT cL hn) (cwV 1 hts (pj_gV m_125 m_126 m_127 m_21 m_128) rfl rfl rfl (by decide +kernel) ⟨Nat.le_of_ble_eq_true rfl, Nat.le_of_ble_eq_true rfl⟩) pj_no_ok trivial hK hP hD hS hA (ci := 0) (q0 := 0) rfl rfl [7, 8, 9, 1, 2, 3] [0, 4, 5, 6, 10, 11, 12, 13, 14, 15] [0, 13, 14, 15, 1, 2, 3, 10, 11, 12, 4, 5, 6, 7, 8, 9] rfl rfl rfl rfl (by decide) rfl rfl rfl hl.1 rfl (Nat.le_of_ble_eq_true rfl) dR_end_16 ⟨Nat.le_of_ble_eq_true rfl, Nat.le_of_ble_eq_true rfl⟩ rfl rfl rfl (fun H locs hP hD hS => ?_)
  refine lv_aload_n hx hb dR_end_19 rfl (lv_at hl 0 rfl) ?_
  refine va_get (D := D) (ci := 3) (v := .ref oj) (C := "ReplayJournal") (T := TR) (N := 7) hx hb hts (pj_ups inR) hown hK hP 0 rfl rfl 3 (by decide) (hts _ (pj_up m_98)) (fun _ h9 => h9) rfl dR_end_20 ?_
  refine lv_aload_n hx hb dR_end_23 rfl (lv_at hl 0 rfl) ?_
  refine va_get (D := D) (ci := 3) (v := .int (nI gz)) (C := "ReplayJournal") (T := TR) (N := 7) hx hb hts (pj_ups inR) hown hK hP 0 rfl rfl 5 (by decide) (hts _ (pj_up m_100)) (fun _ h9 => h9) rfl dR_end_24 ?_
  refine lv_aload_n hx hb dR_end_27 rfl (lv_at hl 0 rfl) ?_
  refine va_get (D := D) (ci := 3) (v := .ref oT) (C := "ReplayJournal") (T := TR) (N := 7) hx hb hts (pj_ups inR) hown hK hP 0 rfl rfl 2 (by decide) (hts _ (pj_up m_97)) (fun _ h9 => h9) rfl dR_end_28 ?_
  refine pj_callV (w2 := [(o0, .inr (3, [.ref oL, .ref oS, .ref oT, .ref oj, .ref od, .int (nI gz), .int sm])), (oL, .inr (0, [.ref pL, .ref qL])), (pL, .inl (cJ, n, .inr (.inl fL))), (qL, .inl (cI, n, .inl cL)), (oS, .inr (0, [.ref pS, .ref qS])), (pS, .inl (cJ, n, .inr (.inl fS))), (qS, .inl (cI, n, .inl cS)), (oT, .inr (0, [.ref pT, .ref qT])), (pT, .inl (cJ, n, .inr (.inl ((pjTry n fr to va gz (u - gz) (pjC n fL fT) (pjC n cL cT)).2.1)))), (qT, .inl (cI, n, .inl ((pjTry n fr to va gz (u - gz) (pjC n fL fT) (pjC n cL cT)).2.2))), (oj, .inr (2, [.ref pf, .ref pt, .ref pv, .ref pz, .int (nI u)])), (pf, .inl (cI, J, .inl fr)), (pt, .inl (cI, J, .inl to)), (pv, .inl (cJ, J, .inr (.inl va))), (pz, .inl (cZ, J, .inl fi)), (od, .inr (1, [.int wr, .int lf]))]) (wr := [(o0, .inr (3, [.ref oL, .ref oS, .ref oT, .ref oj, .ref od, .int (nI gz), .int sm])), (oL, .inr (0, [.ref pL, .ref qL])), (pL, .inl (cJ, n, .inr (.inl fL))), (qL, .inl (cI, n, .inl cL)), (oS, .inr (0, [.ref pS, .ref qS])), (pS, .inl (cJ, n, .inr (.inl fS))), (qS, .inl (cI, n, .inl cS)), (od, .inr (1, [.int wr, .int lf]))]) (rest := []) (st1 := [.int (if (pjTry n fr to va gz (u - gz) (pjC n fL fT) (pjC n cL cT)).1 then 1 else 0)]) ⟨hx, hb, hml, hown, hts⟩ (c_try l D cI cJ cZ oj pf pt pv pz J u fr to fi va hJ hu gz hg oT pT qT n (pjC n fL fT) (pjC n cL cT) hn) (cwV 2 hts (pj_gV m_321 m_322 m_323 m_22 m_324) rfl rfl rfl (by decide +kernel) ⟨Nat.le_of_ble_eq_true rfl, Nat.le_of_ble_eq_true rfl⟩) pj_no_ok trivial hK hP hD hS hA (ci := 2) (q0 := 0) rfl rfl [10, 11, 12, 13, 14, 7, 8, 9] [0, 1, 2, 3, 4, 5, 6, 15] [0, 1, 2, 3, 4, 5, 6, 13, 14, 15, 8, 9, 10, 11, 12, 7] rfl rfl rfl rfl (by decide) rfl rfl rfl hl.1 rfl (Nat.le_of_ble_eq_true rfl) dR_end_31 ⟨Nat.le_of_ble_eq_true rfl, Nat.le_of_ble_eq_true rfl⟩ rfl rfl rfl (fun H locs hP hD hS => ?_)
  refine lv_if_ne (tgt := 45) hx hb dR_end_34 (by decide) (fun _ => ?_) (fun h9 => absurd h9 (by rw [ht]; decide))
  refine lv_aload_n hx hb dR_end_45 rfl (lv_at hl 0 rfl) ?_
  refine va_get (D := D) (ci := 3) (v := .ref oj) (C := "ReplayJournal") (T := TR) (N := 7) hx hb hts (pj_ups inR) hown hK hP 0 rfl rfl 3 (by decide) (hts _ (pj_up m_98)) (fun _ h9 => h9) rfl dR_end_46 ?_
  refine lv_aload_n hx hb dR_end_49 rfl (lv_at hl 0 rfl) ?_
  refine va_get (D := D) (ci := 3) (v := .int (nI gz)) (C := "ReplayJournal") (T := TR) (N := 7) hx hb hts (pj_ups inR) hown hK hP 0 rfl rfl 5 (by decide) (hts _ (pj_up m_100)) (fun _ h9 => h9) rfl dR_end_50 ?_
  refine pj_callV (w2 := [(o0, .inr (3, [.ref oL, .ref oS, .ref oT, .ref oj, .ref od, .int (nI gz), .int sm])), (oL, .inr (0, [.ref pL, .ref qL])), (pL, .inl (cJ, n, .inr (.inl fL))), (qL, .inl (cI, n, .inl cL)), (oS, .inr (0, [.ref pS, .ref qS])), (pS, .inl (cJ, n, .inr (.inl fS))), (qS, .inl (cI, n, .inl cS)), (oT, .inr (0, [.ref pT, .ref qT])), (pT, .inl (cJ, n, .inr (.inl ((pjTry n fr to va gz (u - gz) (pjC n fL fT) (pjC n cL cT)).2.1)))), (qT, .inl (cI, n, .inl ((pjTry n fr to va gz (u - gz) (pjC n fL fT) (pjC n cL cT)).2.2))), (oj, .inr (2, [.ref pf, .ref pt, .ref pv, .ref pz, .int (nI (u + 1))])), (pf, .inl (cI, J, .inl fr)), (pt, .inl (cI, J, .inl to)), (pv, .inl (cJ, J, .inr (.inl va))), (pz, .inl (cZ, J, .inl (upd (pjF (u - gz) u fi) u 0))), (od, .inr (1, [.int wr, .int lf]))]) (wr := [(o0, .inr (3, [.ref oL, .ref oS, .ref oT, .ref oj, .ref od, .int (nI gz), .int sm])), (oL, .inr (0, [.ref pL, .ref qL])), (pL, .inl (cJ, n, .inr (.inl fL))), (qL, .inl (cI, n, .inl cL)), (oS, .inr (0, [.ref pS, .ref qS])), (pS, .inl (cJ, n, .inr (.inl fS))), (qS, .inl (cI, n, .inl cS)), (oT, .inr (0, [.ref pT, .ref qT])), (pT, .inl (cJ, n, .inr (.inl ((pjTry n fr to va gz (u - gz) (pjC n fL fT) (pjC n cL cT)).2.1)))), (qT, .inl (cI, n, .inl ((pjTry n fr to va gz (u - gz) (pjC n fL fT) (pjC n cL cT)).2.2))), (od, .inr (1, [.int wr, .int lf]))]) (rest := []) (st1 := [.int 1]) ⟨hx, hb, hml, hown, hts⟩ (c_we_ok l D cI cJ cZ oj pf pt pv pz J u fr to fi va hJ hu gz hg h2) (cwV 1 hts (pj_gV m_331 m_332 m_333 m_22 m_334) rfl rfl rfl (by decide +kernel) ⟨Nat.le_of_ble_eq_true rfl, Nat.le_of_ble_eq_true rfl⟩) pj_no_ok trivial hK hP hD hS hA (ci := 2) (q0 := 0) rfl rfl [10, 11, 12, 13, 14] [0, 1, 2, 3, 4, 5, 6, 7, 8, 9, 15] [0, 1, 2, 3, 4, 5, 6, 7, 8, 9, 11, 12, 13, 14, 15, 10] rfl rfl rfl rfl (by decide) rfl rfl rfl hl.1 rfl (Nat.le_of_ble_eq_true rfl) dR_end_53 ⟨Nat.le_of_ble_eq_true rfl, Nat.le_of_ble_eq_true rfl⟩ rfl rfl rfl (fun H locs hP hD hS => ?_)
  refine lv_if_ne (tgt := 62) hx hb dR_end_56 (by decide) (fun _ => ?_) (fun h9 => absurd h9 (by decide))
  refine lv_aload_n hx hb dR_end_62 rfl (lv_at hl 0 rfl) ?_
  refine va_get (D := D) (ci := 3) (v := .ref od) (C := "ReplayJournal") (T := TR) (N := 7) hx hb hts (pj_ups inR) hown hK hP 0 rfl rfl 4 (by decide) (hts _ (pj_up m_99)) (fun _ h9 => h9) rfl dR_end_63 ?_
  refine pj_callV (w2 := [(o0, .inr (3, [.ref oL, .ref oS, .ref oT, .ref oj, .ref od, .int (nI gz), .int sm])), (oL, .inr (0, [.ref pL, .ref qL])), (pL, .inl (cJ, n, .inr (.inl fL))), (qL, .inl (cI, n, .inl cL)), (oS, .inr (0, [.ref pS, .ref qS])), (pS, .inl (cJ, n, .inr (.inl fS))), (qS, .inl (cI, n, .inl cS)), (oT, .inr (0, [.ref pT, .ref qT])), (pT, .inl (cJ, n, .inr (.inl ((pjTry n fr to va gz (u - gz) (pjC n fL fT) (pjC n cL cT)).2.1)))), (qT, .inl (cI, n, .inl ((pjTry n fr to va gz (u - gz) (pjC n fL fT) (pjC n cL cT)).2.2))), (oj, .inr (2, [.ref pf, .ref pt, .ref pv, .ref pz, .int (nI (u + 1))])), (pf, .inl (cI, J, .inl fr)), (pt, .inl (cI, J, .inl to)), (pv, .inl (cJ, J, .inr (.inl va))), (pz, .inl (cZ, J, .inl (upd (pjF (u - gz) u fi) u 0))), (od, .inr (1, [.int (wr + 1), .int (pjL lf)]))]) (wr := [(o0, .inr (3, [.ref oL, .ref oS, .ref oT, .ref oj, .ref od, .int (nI gz), .int sm])), (oL, .inr (0, [.ref pL, .ref qL])), (pL, .inl (cJ, n, .inr (.inl fL))), (qL, .inl (cI, n, .inl cL)), (oS, .inr (0, [.ref pS, .ref qS])), (pS, .inl (cJ, n, .inr (.inl fS))), (qS, .inl (cI, n, .inl cS)), (oT, .inr (0, [.ref pT, .ref qT])), (pT, .inl (cJ, n, .inr (.inl ((pjTry n fr to va gz (u - gz) (pjC n fL fT) (pjC n cL cT)).2.1)))), (qT, .inl (cI, n, .inl ((pjTry n fr to va gz (u - gz) (pjC n fL fT) (pjC n cL cT)).2.2))), (oj, .inr (2, [.ref pf, .ref pt, .ref pv, .ref pz, .int (nI (u + 1))])), (pf, .inl (cI, J, .inl fr)), (pt, .inl (cI, J, .inl to)), (pv, .inl (cJ, J, .inr (.inl va))), (pz, .inl (cZ, J, .inl (upd (pjF (u - gz) u fi) u 0)))]) (rest := []) (st1 := []) ⟨hx, hb, hml, hown, hts⟩ (c_block l D cI cJ cZ od wr lf) (cwV 0 hts (pj_gV m_280 m_281 m_282 m_23 m_283) rfl rfl rfl (by decide +kernel) ⟨Nat.le_of_ble_eq_true rfl, Nat.le_of_ble_eq_true rfl⟩) pj_no_ok trivial hK hP hD hS hA (ci := 1) (q0 := 0) rfl rfl [15] [0, 1, 2, 3, 4, 5, 6, 7, 8, 9, 10, 11, 12, 13, 14] [0, 1, 2, 3, 4, 5, 6, 7, 8, 9, 10, 11, 12, 13, 14, 15] rfl rfl rfl rfl (by decide) rfl rfl rfl hl.1 rfl (Nat.le_of_ble_eq_true rfl) dR_end_66 ⟨Nat.le_of_ble_eq_true rfl, Nat.le_of_ble_eq_true rfl⟩ rfl rfl rfl (fun H locs hP hD hS => ?_)
  refine lv_aload_n hx hb dR_end_69 rfl (lv_at hl 0 rfl) ?_
  refine va_get (D := D) (ci := 3) (v := .ref oL) (C := "ReplayJournal") (T := TR) (N := 7) hx hb hts (pj_ups inR) hown hK hP 0 rfl rfl 0 (by decide) (hts _ (pj_up m_95)) (fun _ h9 => h9) rfl dR_end_70 ?_
  refine lv_aload_n hx hb dR_end_73 rfl (lv_at hl 0 rfl) ?_
  refine va_get (D := D) (ci := 3) (v := .ref oT) (C := "ReplayJournal") (T := TR) (N := 7) hx hb hts (pj_ups inR) hown hK hP 0 rfl rfl 2 (by decide) (hts _ (pj_up m_97)) (fun _ h9 => h9) rfl dR_end_74 ?_
  refine pj_callV (w2 := [(o0, .inr (3, [.ref oL, .ref oS, .ref oT, .ref oj, .ref od, .int (nI gz), .int sm])), (oL, .inr (0, [.ref pL, .ref qL])), (pL, .inl (cJ, n, .inr (.inl (pjC n (pjTry n fr to va gz (u - gz) (pjC n fL fT) (pjC n cL cT)).2.1 fL)))), (qL, .inl (cI, n, .inl (pjC n (pjTry n fr to va gz (u - gz) (pjC n fL fT) (pjC n cL cT)).2.2 cL))), (oS, .inr (0, [.ref pS, .ref qS])), (pS, .inl (cJ, n, .inr (.inl fS))), (qS, .inl (cI, n, .inl cS)), (oT, .inr (0, [.ref pT, .ref qT])), (pT, .inl (cJ, n, .inr (.inl ((pjTry n fr to va gz (u - gz) (pjC n fL fT) (pjC n cL cT)).2.1)))), (qT, .inl (cI, n, .inl ((pjTry n fr to va gz (u - gz) (pjC n fL fT) (pjC n cL cT)).2.2))), (oj, .inr (2, [.ref pf, .ref pt, .ref pv, .ref pz, .int (nI (u + 1))])), (pf, .inl (cI, J, .inl fr)), (pt, .inl (cI, J, .inl to)), (pv, .inl (cJ, J, .inr (.inl va))), (pz, .inl (cZ, J, .inl (upd (pjF (u - gz) u fi) u 0))), (od, .inr (1, [.int (wr + 1), .int (pjL lf)]))]) (wr := [(o0, .inr (3, [.ref oL, .ref oS, .ref oT, .ref oj, .ref od, .int (nI gz), .int sm])), (oS, .inr (0, [.ref pS, .ref qS])), (pS, .inl (cJ, n, .inr (.inl fS))), (qS, .inl (cI, n, .inl cS)), (oj, .inr (2, [.ref pf, .ref pt, .ref pv, .ref pz, .int (nI (u + 1))])), (pf, .inl (cI, J, .inl fr)), (pt, .inl (cI, J, .inl to)), (pv, .inl (cJ, J, .inr (.inl va))), (pz, .inl (cZ, J, .inl (upd (pjF (u - gz) u fi) u 0))), (od, .inr (1, [.int (wr + 1), .int (pjL lf)]))]) (rest := []) (st1 := []) ⟨hx, hb, hml, hown, hts⟩ (c_copy l D cI cJ cZ oL pL qL oT pT qT n fL (pjTry n fr to va gz (u - gz) (pjC n fL fT) (pjC n cL cT)).2.1 cL (pjTry n fr to va gz (u - gz) (pjC n fL fT) (pjC n cL cT)).2.2 hn) (cwV 1 hts (pj_gV m_125 m_126 m_127 m_21 m_128) rfl rfl rfl (by decide +kernel) ⟨Nat.le_of_ble_eq_true rfl, Nat.le_of_ble_eq_true rfl⟩) pj_no_ok trivial hK hP hD hS hA (ci := 0) (q0 := 0) rfl rfl [1, 2, 3, 7, 8, 9] [0, 4, 5, 6, 10, 11, 12, 13, 14, 15] [0, 10, 11, 12, 1, 2, 3, 13, 14, 15, 4, 5, 6, 7, 8, 9] rfl rfl rfl rfl (by decide) rfl rfl rfl hl.1 rfl (Nat.le_of_ble_eq_true rfl) dR_end_77 ⟨Nat.le_of_ble_eq_true rfl, Nat.le_of_ble_eq_true rfl⟩ rfl rfl rfl (fun H locs hP hD hS => ?_)
  refine lv_aload_n hx hb dR_end_80 rfl (lv_at hl 0 rfl) ?_
  refine va_get (D := D) (ci := 3) (v := .int (nI gz)) (C := "ReplayJournal") (T := TR) (N := 7) hx hb hts (pj_ups inR) hown hK hP 0 rfl rfl 5 (by decide) (hts _ (pj_up m_100)) (fun _ h9 => h9) rfl dR_end_81 ?_
  refine lv_istore_n (lv' := [(1, .int (nI gz)), (0, .ref o0)]) hx hb dR_end_84 rfl hl (by decide) rfl (fun ls hl => ?_)
  refine lv_aload_n hx hb dR_end_85 rfl (lv_at hl 1 rfl) ?_
  refine lv_iconst (v := -1) hx hb dR_end_86 (by decide) ?_
  refine va_put (D := D) (ci := 3) (v := .int (-1)) (ty := .int) (C := "ReplayJournal") (T := TR) (N := 7) hx hb hts (pj_ups inR) tyR tyR_ok nmR hown hK hP hD hS 0 rfl rfl 5 (by decide) (hts _ (pj_up m_100)) (fun _ h9 => h9) rfl (by decide +kernel) rfl rfl (Nat.le_of_ble_eq_true rfl) dR_end_87 (fun H locs hP hD hS => ?_)
  have hP : va_P D vwCl [(o0, .inr (3, [.ref oL, .ref oS, .ref oT, .ref oj, .ref od, .int (-1), .int sm])), (oL, .inr (0, [.ref pL, .ref qL])), (pL, .inl (cJ, n, .inr (.inl (pjC n (pjTry n fr to va gz (u - gz) (pjC n fL fT) (pjC n cL cT)).2.1 fL)))), (qL, .inl (cI, n, .inl (pjC n (pjTry n fr to va gz (u - gz) (pjC n fL fT) (pjC n cL cT)).2.2 cL))), (oS, .inr (0, [.ref pS, .ref qS])), (pS, .inl (cJ, n, .inr (.inl fS))), (qS, .inl (cI, n, .inl cS)), (oT, .inr (0, [.ref pT, .ref qT])), (pT, .inl (cJ, n, .inr (.inl ((pjTry n fr to va gz (u - gz) (pjC n fL fT) (pjC n cL cT)).2.1)))), (qT, .inl (cI, n, .inl ((pjTry n fr to va gz (u - gz) (pjC n fL fT) (pjC n cL cT)).2.2))), (oj, .inr (2, [.ref pf, .ref pt, .ref pv, .ref pz, .int (nI (u + 1))])), (pf, .inl (cI, J, .inl fr)), (pt, .inl (cI, J, .inl to)), (pv, .inl (cJ, J, .inr (.inl va))), (pz, .inl (cZ, J, .inl (upd (pjF (u - gz) u fi) u 0))), (od, .inr (1, [.int (wr + 1), .int (pjL lf)]))] H := hP
  have hD : va_D A [(o0, .inr (3, [.ref oL, .ref oS, .ref oT, .ref oj, .ref od, .int (-1), .int sm])), (oL, .inr (0, [.ref pL, .ref qL])), (pL, .inl (cJ, n, .inr (.inl (pjC n (pjTry n fr to va gz (u - gz) (pjC n fL fT) (pjC n cL cT)).2.1 fL)))), (qL, .inl (cI, n, .inl (pjC n (pjTry n fr to va gz (u - gz) (pjC n fL fT) (pjC n cL cT)).2.2 cL))), (oS, .inr (0, [.ref pS, .ref qS])), (pS, .inl (cJ, n, .inr (.inl fS))), (qS, .inl (cI, n, .inl cS)), (oT, .inr (0, [.ref pT, .ref qT])), (pT, .inl (cJ, n, .inr (.inl ((pjTry n fr to va gz (u - gz) (pjC n fL fT) (pjC n cL cT)).2.1)))), (qT, .inl (cI, n, .inl ((pjTry n fr to va gz (u - gz) (pjC n fL fT) (pjC n cL cT)).2.2))), (oj, .inr (2, [.ref pf, .ref pt, .ref pv, .ref pz, .int (nI (u + 1))])), (pf, .inl (cI, J, .inl fr)), (pt, .inl (cI, J, .inl to)), (pv, .inl (cJ, J, .inr (.inl va))), (pz, .inl (cZ, J, .inl (upd (pjF (u - gz) u fi) u 0))), (od, .inr (1, [.int (wr + 1), .int (pjL lf)]))] := hD
  refine lv_aload_n hx hb dR_end_90 rfl (lv_at hl 1 rfl) ?_
  refine va_get (D := D) (ci := 3) (v := .ref od) (C := "ReplayJournal") (T := TR) (N := 7) hx hb hts (pj_ups inR) hown hK hP 0 rfl rfl 4 (by decide) (hts _ (pj_up m_99)) (fun _ h9 => h9) rfl dR_end_91 ?_
  by_cases hz : pjL lf = 0
  · refine pp_callV (rest := []) (st1 := [.int 1]) ⟨hx, hb, hml, hown, hts⟩ (c_off_t l D cI cJ cZ od (wr + 1) (pjL lf) hz) (cwV 0 hts (pj_gV m_150 m_151 m_152 m_23 m_153) rfl rfl rfl (by decide +kernel) ⟨Nat.le_of_ble_eq_true rfl, Nat.le_of_ble_eq_true rfl⟩) pj_no_ok trivial hK hP hD hS hA (ci := 1) (q0 := 0) rfl rfl [15] rfl rfl rfl hl.1 rfl (Nat.le_of_ble_eq_true rfl) dR_end_94 ⟨Nat.le_of_ble_eq_true rfl, Nat.le_of_ble_eq_true rfl⟩ rfl ?_
    refine lv_if_eq (tgt := 105) hx hb dR_end_97 (by decide) (fun h9 => absurd h9 (by decide)) (fun _ => ?_)
    refine lv_bipush (v := (-3)) hx hb dR_end_100 (by decide) ?_
    refine lv_goto (tgt := 106) hx hb dR_end_102 (by decide) ?_
    exact pj_iret hx hb hr hlocks hP hD hS ((if_pos hz).symm) (rfl) dR_end_106
  · refine pp_callV (rest := []) (st1 := [.int 0]) ⟨hx, hb, hml, hown, hts⟩ (c_off_f l D cI cJ cZ od (wr + 1) (pjL lf) hz) (cwV 0 hts (pj_gV m_150 m_151 m_152 m_23 m_153) rfl rfl rfl (by decide +kernel) ⟨Nat.le_of_ble_eq_true rfl, Nat.le_of_ble_eq_true rfl⟩) pj_no_ok trivial hK hP hD hS hA (ci := 1) (q0 := 0) rfl rfl [15] rfl rfl rfl hl.1 rfl (Nat.le_of_ble_eq_true rfl) dR_end_94 ⟨Nat.le_of_ble_eq_true rfl, Nat.le_of_ble_eq_true rfl⟩ rfl ?_
    refine lv_if_eq (tgt := 105) hx hb dR_end_97 (by decide) (fun _ => ?_) (fun h9 => (h9 rfl).elim)
    refine lv_iload_n hx hb dR_end_105 rfl (lv_at hl 0 rfl) ?_
    exact pj_iret hx hb hr hlocks hP hD hS ((if_neg hz).symm) (rfl) dR_end_106
end
section
theorem dM_init_0 : decode prog_6_method_1_code 0 = .ok (.aload_n 0, 1) := by decide +kernel
theorem dM_init_1 : decode prog_6_method_1_code 1 = .ok (.invokespecial 1, 3) := by decide +kernel
theorem dM_init_4 : decode prog_6_method_1_code 4 = .ok (.aload_n 0, 1) := by decide +kernel
theorem dM_init_5 : decode prog_6_method_1_code 5 = .ok (.bipush 64, 2) := by decide +kernel
theorem dM_init_7 : decode prog_6_method_1_code 7 = .ok (.newarray .long, 2) := by decide +kernel
theorem dM_init_9 : decode prog_6_method_1_code 9 = .ok (.putfield 7, 3) := by decide +kernel
theorem dM_init_12 : decode prog_6_method_1_code 12 = .ok (.aload_n 0, 1) := by decide +kernel
theorem dM_init_13 : decode prog_6_method_1_code 13 = .ok (.bipush 64, 2) := by decide +kernel
theorem dM_init_15 : decode prog_6_method_1_code 15 = .ok (.newarray .int, 2) := by decide +kernel
theorem dM_init_17 : decode prog_6_method_1_code 17 = .ok (.putfield 13, 3) := by decide +kernel
theorem dM_init_20 : decode prog_6_method_1_code 20 = .ok (.aload_n 0, 1) := by decide +kernel
theorem dM_init_21 : decode prog_6_method_1_code 21 = .ok (.bipush 64, 2) := by decide +kernel
theorem dM_init_23 : decode prog_6_method_1_code 23 = .ok (.newarray .long, 2) := by decide +kernel
theorem dM_init_25 : decode prog_6_method_1_code 25 = .ok (.putfield 17, 3) := by decide +kernel
theorem dM_init_28 : decode prog_6_method_1_code 28 = .ok (.aload_n 0, 1) := by decide +kernel
theorem dM_init_29 : decode prog_6_method_1_code 29 = .ok (.bipush 60, 2) := by decide +kernel
theorem dM_init_31 : decode prog_6_method_1_code 31 = .ok (.newarray .int, 2) := by decide +kernel
theorem dM_init_33 : decode prog_6_method_1_code 33 = .ok (.putfield 20, 3) := by decide +kernel
theorem dM_init_36 : decode prog_6_method_1_code 36 = .ok (.aload_n 0, 1) := by decide +kernel
theorem dM_init_37 : decode prog_6_method_1_code 37 = .ok (.bipush 60, 2) := by decide +kernel
theorem dM_init_39 : decode prog_6_method_1_code 39 = .ok (.newarray .int, 2) := by decide +kernel
theorem dM_init_41 : decode prog_6_method_1_code 41 = .ok (.putfield 23, 3) := by decide +kernel
theorem dM_init_44 : decode prog_6_method_1_code 44 = .ok (.aload_n 0, 1) := by decide +kernel
theorem dM_init_45 : decode prog_6_method_1_code 45 = .ok (.bipush 60, 2) := by decide +kernel
theorem dM_init_47 : decode prog_6_method_1_code 47 = .ok (.newarray .long, 2) := by decide +kernel
theorem dM_init_49 : decode prog_6_method_1_code 49 = .ok (.putfield 26, 3) := by decide +kernel
theorem dM_init_52 : decode prog_6_method_1_code 52 = .ok (.aload_n 0, 1) := by decide +kernel
theorem dM_init_53 : decode prog_6_method_1_code 53 = .ok (.iconst (-1), 1) := by decide +kernel
theorem dM_init_54 : decode prog_6_method_1_code 54 = .ok (.putfield 29, 3) := by decide +kernel
theorem dM_init_57 : decode prog_6_method_1_code 57 = .ok (.aload_n 0, 1) := by decide +kernel
theorem dM_init_58 : decode prog_6_method_1_code 58 = .ok (.iload_n 1, 1) := by decide +kernel
theorem dM_init_59 : decode prog_6_method_1_code 59 = .ok (.iconst 1, 1) := by decide +kernel
theorem dM_init_60 : decode prog_6_method_1_code 60 = .ok (.if_icmp .ge 7, 3) := by decide +kernel
theorem dM_init_63 : decode prog_6_method_1_code 63 = .ok (.iconst 1, 1) := by decide +kernel
theorem dM_init_64 : decode prog_6_method_1_code 64 = .ok (.goto 15, 3) := by decide +kernel
theorem dM_init_67 : decode prog_6_method_1_code 67 = .ok (.iload_n 1, 1) := by decide +kernel
theorem dM_init_68 : decode prog_6_method_1_code 68 = .ok (.bipush 64, 2) := by decide +kernel
theorem dM_init_70 : decode prog_6_method_1_code 70 = .ok (.if_icmp .le 8, 3) := by decide +kernel
theorem dM_init_73 : decode prog_6_method_1_code 73 = .ok (.bipush 64, 2) := by decide +kernel
theorem dM_init_75 : decode prog_6_method_1_code 75 = .ok (.goto 4, 3) := by decide +kernel
theorem dM_init_78 : decode prog_6_method_1_code 78 = .ok (.iload_n 1, 1) := by decide +kernel
theorem dM_init_79 : decode prog_6_method_1_code 79 = .ok (.putfield 33, 3) := by decide +kernel
theorem dM_init_82 : decode prog_6_method_1_code 82 = .ok (.aload_n 0, 1) := by decide +kernel
theorem dM_init_83 : decode prog_6_method_1_code 83 = .ok (.iload_n 2, 1) := by decide +kernel
theorem dM_init_84 : decode prog_6_method_1_code 84 = .ok (.iconst 4, 1) := by decide +kernel
theorem dM_init_85 : decode prog_6_method_1_code 85 = .ok (.if_icmp .ge 7, 3) := by decide +kernel
theorem dM_init_88 : decode prog_6_method_1_code 88 = .ok (.iconst 4, 1) := by decide +kernel
theorem dM_init_89 : decode prog_6_method_1_code 89 = .ok (.goto 15, 3) := by decide +kernel
theorem dM_init_92 : decode prog_6_method_1_code 92 = .ok (.iload_n 2, 1) := by decide +kernel
theorem dM_init_93 : decode prog_6_method_1_code 93 = .ok (.bipush 60, 2) := by decide +kernel
theorem dM_init_95 : decode prog_6_method_1_code 95 = .ok (.if_icmp .le 8, 3) := by decide +kernel
theorem dM_init_98 : decode prog_6_method_1_code 98 = .ok (.bipush 60, 2) := by decide +kernel
theorem dM_init_100 : decode prog_6_method_1_code 100 = .ok (.goto 4, 3) := by decide +kernel
theorem dM_init_103 : decode prog_6_method_1_code 103 = .ok (.iload_n 2, 1) := by decide +kernel
theorem dM_init_104 : decode prog_6_method_1_code 104 = .ok (.putfield 36, 3) := by decide +kernel
theorem dM_init_107 : decode prog_6_method_1_code 107 = .ok (.return_, 1) := by decide +kernel
theorem dM_thrown_0 : decode prog_6_method_2_code 0 = .ok (.aload_n 0, 1) := by decide +kernel
theorem dM_thrown_1 : decode prog_6_method_2_code 1 = .ok (.getfield 39, 3) := by decide +kernel
theorem dM_thrown_4 : decode prog_6_method_2_code 4 = .ok (.ireturn, 1) := by decide +kernel
theorem dM_add_0 : decode prog_6_method_9_code 0 = .ok (.aload_n 0, 1) := by decide +kernel
theorem dM_add_1 : decode prog_6_method_9_code 1 = .ok (.aload_n 0, 1) := by decide +kernel
theorem dM_add_2 : decode prog_6_method_9_code 2 = .ok (.iload_n 1, 1) := by decide +kernel
theorem dM_add_3 : decode prog_6_method_9_code 3 = .ok (.invokevirtual 68, 3) := by decide +kernel
theorem dM_add_6 : decode prog_6_method_9_code 6 = .ok (.ifCond .eq 23, 3) := by decide +kernel
theorem dM_add_9 : decode prog_6_method_9_code 9 = .ok (.lload_n 2, 1) := by decide +kernel
theorem dM_add_10 : decode prog_6_method_9_code 10 = .ok (.ldc2_w 72, 3) := by decide +kernel
theorem dM_add_13 : decode prog_6_method_9_code 13 = .ok (.lcmp, 1) := by decide +kernel
theorem dM_add_14 : decode prog_6_method_9_code 14 = .ok (.ifCond .lt 15, 3) := by decide +kernel
theorem dM_add_17 : decode prog_6_method_9_code 17 = .ok (.lload_n 2, 1) := by decide +kernel
theorem dM_add_18 : decode prog_6_method_9_code 18 = .ok (.ldc2_w 74, 3) := by decide +kernel
theorem dM_add_21 : decode prog_6_method_9_code 21 = .ok (.lcmp, 1) := by decide +kernel
theorem dM_add_22 : decode prog_6_method_9_code 22 = .ok (.ifCond .gt 7, 3) := by decide +kernel
theorem dM_add_25 : decode prog_6_method_9_code 25 = .ok (.iconst 1, 1) := by decide +kernel
theorem dM_add_26 : decode prog_6_method_9_code 26 = .ok (.goto 4, 3) := by decide +kernel
theorem dM_add_29 : decode prog_6_method_9_code 29 = .ok (.iconst 0, 1) := by decide +kernel
theorem dM_add_30 : decode prog_6_method_9_code 30 = .ok (.aload_n 0, 1) := by decide +kernel
theorem dM_add_31 : decode prog_6_method_9_code 31 = .ok (.getfield 42, 3) := by decide +kernel
theorem dM_add_34 : decode prog_6_method_9_code 34 = .ok (.ifCond .ne 7, 3) := by decide +kernel
theorem dM_add_37 : decode prog_6_method_9_code 37 = .ok (.iconst 1, 1) := by decide +kernel
theorem dM_add_38 : decode prog_6_method_9_code 38 = .ok (.goto 4, 3) := by decide +kernel
theorem dM_add_41 : decode prog_6_method_9_code 41 = .ok (.iconst 0, 1) := by decide +kernel
theorem dM_add_42 : decode prog_6_method_9_code 42 = .ok (.invokevirtual 76, 3) := by decide +kernel
theorem dM_add_45 : decode prog_6_method_9_code 45 = .ok (.ifCond .eq 13, 3) := by decide +kernel
theorem dM_add_48 : decode prog_6_method_9_code 48 = .ok (.aload_n 0, 1) := by decide +kernel
theorem dM_add_49 : decode prog_6_method_9_code 49 = .ok (.iconst (-1), 1) := by decide +kernel
theorem dM_add_50 : decode prog_6_method_9_code 50 = .ok (.iload_n 1, 1) := by decide +kernel
theorem dM_add_51 : decode prog_6_method_9_code 51 = .ok (.lload_n 2, 1) := by decide +kernel
theorem dM_add_52 : decode prog_6_method_9_code 52 = .ok (.invokevirtual 80, 3) := by decide +kernel
theorem dM_add_55 : decode prog_6_method_9_code 55 = .ok (.goto 4, 3) := by decide +kernel
theorem dM_add_58 : decode prog_6_method_9_code 58 = .ok (.iconst 0, 1) := by decide +kernel
theorem dM_add_59 : decode prog_6_method_9_code 59 = .ok (.ireturn, 1) := by decide +kernel
theorem dM_isAccount_0 : decode prog_6_method_5_code 0 = .ok (.iload_n 1, 1) := by decide +kernel
theorem dM_isAccount_1 : decode prog_6_method_5_code 1 = .ok (.ifCond .lt 15, 3) := by decide +kernel
theorem dM_isAccount_4 : decode prog_6_method_5_code 4 = .ok (.iload_n 1, 1) := by decide +kernel
theorem dM_isAccount_5 : decode prog_6_method_5_code 5 = .ok (.aload_n 0, 1) := by decide +kernel
theorem dM_isAccount_6 : decode prog_6_method_5_code 6 = .ok (.getfield 33, 3) := by decide +kernel
theorem dM_isAccount_9 : decode prog_6_method_5_code 9 = .ok (.if_icmp .ge 7, 3) := by decide +kernel
theorem dM_isAccount_12 : decode prog_6_method_5_code 12 = .ok (.iconst 1, 1) := by decide +kernel
theorem dM_isAccount_13 : decode prog_6_method_5_code 13 = .ok (.goto 4, 3) := by decide +kernel
theorem dM_isAccount_16 : decode prog_6_method_5_code 16 = .ok (.iconst 0, 1) := by decide +kernel
theorem dM_isAccount_17 : decode prog_6_method_5_code 17 = .ok (.ireturn, 1) := by decide +kernel
theorem dM_goes_0 : decode prog_6_method_3_code 0 = .ok (.aload_n 0, 1) := by decide +kernel
theorem dM_goes_1 : decode prog_6_method_3_code 1 = .ok (.iload_n 1, 1) := by decide +kernel
theorem dM_goes_2 : decode prog_6_method_3_code 2 = .ok (.ifCond .ne 7, 3) := by decide +kernel
theorem dM_goes_5 : decode prog_6_method_3_code 5 = .ok (.iconst 1, 1) := by decide +kernel
theorem dM_goes_6 : decode prog_6_method_3_code 6 = .ok (.goto 12, 3) := by decide +kernel
theorem dM_goes_9 : decode prog_6_method_3_code 9 = .ok (.iload_n 2, 1) := by decide +kernel
theorem dM_goes_10 : decode prog_6_method_3_code 10 = .ok (.ifCond .ne 7, 3) := by decide +kernel
theorem dM_goes_13 : decode prog_6_method_3_code 13 = .ok (.iconst 2, 1) := by decide +kernel
theorem dM_goes_14 : decode prog_6_method_3_code 14 = .ok (.goto 4, 3) := by decide +kernel
theorem dM_goes_17 : decode prog_6_method_3_code 17 = .ok (.iconst 0, 1) := by decide +kernel
theorem dM_goes_18 : decode prog_6_method_3_code 18 = .ok (.putfield 39, 3) := by decide +kernel
theorem dM_goes_21 : decode prog_6_method_3_code 21 = .ok (.aload_n 0, 1) := by decide +kernel
theorem dM_goes_22 : decode prog_6_method_3_code 22 = .ok (.getfield 39, 3) := by decide +kernel
theorem dM_goes_25 : decode prog_6_method_3_code 25 = .ok (.ifCond .ne 7, 3) := by decide +kernel
theorem dM_goes_28 : decode prog_6_method_3_code 28 = .ok (.iconst 1, 1) := by decide +kernel
theorem dM_goes_29 : decode prog_6_method_3_code 29 = .ok (.goto 4, 3) := by decide +kernel
theorem dM_goes_32 : decode prog_6_method_3_code 32 = .ok (.iconst 0, 1) := by decide +kernel
theorem dM_goes_33 : decode prog_6_method_3_code 33 = .ok (.ireturn, 1) := by decide +kernel
theorem dM_take_0 : decode prog_6_method_8_code 0 = .ok (.aload_n 0, 1) := by decide +kernel
theorem dM_take_1 : decode prog_6_method_8_code 1 = .ok (.getfield 52, 3) := by decide +kernel
theorem dM_take_4 : decode prog_6_method_8_code 4 = .ok (.ifCond .ne 39, 3) := by decide +kernel
theorem dM_take_7 : decode prog_6_method_8_code 7 = .ok (.iload_n 1, 1) := by decide +kernel
theorem dM_take_8 : decode prog_6_method_8_code 8 = .ok (.ifCond .ge 19, 3) := by decide +kernel
theorem dM_take_11 : decode prog_6_method_8_code 11 = .ok (.aload_n 0, 1) := by decide +kernel
theorem dM_take_12 : decode prog_6_method_8_code 12 = .ok (.getfield 7, 3) := by decide +kernel
theorem dM_take_15 : decode prog_6_method_8_code 15 = .ok (.iload_n 2, 1) := by decide +kernel
theorem dM_take_16 : decode prog_6_method_8_code 16 = .ok (.laload, 1) := by decide +kernel
theorem dM_take_17 : decode prog_6_method_8_code 17 = .ok (.lload_n 3, 1) := by decide +kernel
theorem dM_take_18 : decode prog_6_method_8_code 18 = .ok (.ladd, 1) := by decide +kernel
theorem dM_take_19 : decode prog_6_method_8_code 19 = .ok (.lconst 0, 1) := by decide +kernel
theorem dM_take_20 : decode prog_6_method_8_code 20 = .ok (.lcmp, 1) := by decide +kernel
theorem dM_take_21 : decode prog_6_method_8_code 21 = .ok (.ifCond .ge 22, 3) := by decide +kernel
theorem dM_take_24 : decode prog_6_method_8_code 24 = .ok (.goto 16, 3) := by decide +kernel
theorem dM_take_27 : decode prog_6_method_8_code 27 = .ok (.aload_n 0, 1) := by decide +kernel
theorem dM_take_28 : decode prog_6_method_8_code 28 = .ok (.getfield 7, 3) := by decide +kernel
theorem dM_take_31 : decode prog_6_method_8_code 31 = .ok (.iload_n 1, 1) := by decide +kernel
theorem dM_take_32 : decode prog_6_method_8_code 32 = .ok (.laload, 1) := by decide +kernel
theorem dM_take_33 : decode prog_6_method_8_code 33 = .ok (.lload_n 3, 1) := by decide +kernel
theorem dM_take_34 : decode prog_6_method_8_code 34 = .ok (.lsub, 1) := by decide +kernel
theorem dM_take_35 : decode prog_6_method_8_code 35 = .ok (.lconst 0, 1) := by decide +kernel
theorem dM_take_36 : decode prog_6_method_8_code 36 = .ok (.lcmp, 1) := by decide +kernel
theorem dM_take_37 : decode prog_6_method_8_code 37 = .ok (.ifCond .ge 6, 3) := by decide +kernel
theorem dM_take_40 : decode prog_6_method_8_code 40 = .ok (.bipush (-4), 2) := by decide +kernel
theorem dM_take_42 : decode prog_6_method_8_code 42 = .ok (.ireturn, 1) := by decide +kernel
theorem dM_take_43 : decode prog_6_method_8_code 43 = .ok (.aload_n 0, 1) := by decide +kernel
theorem dM_take_44 : decode prog_6_method_8_code 44 = .ok (.getfield 55, 3) := by decide +kernel
theorem dM_take_47 : decode prog_6_method_8_code 47 = .ok (.aload_n 0, 1) := by decide +kernel
theorem dM_take_48 : decode prog_6_method_8_code 48 = .ok (.getfield 36, 3) := by decide +kernel
theorem dM_take_51 : decode prog_6_method_8_code 51 = .ok (.if_icmp .ne 6, 3) := by decide +kernel
theorem dM_take_54 : decode prog_6_method_8_code 54 = .ok (.bipush (-2), 2) := by decide +kernel
theorem dM_take_56 : decode prog_6_method_8_code 56 = .ok (.ireturn, 1) := by decide +kernel
theorem dM_take_57 : decode prog_6_method_8_code 57 = .ok (.aload_n 0, 1) := by decide +kernel
theorem dM_take_58 : decode prog_6_method_8_code 58 = .ok (.dup, 1) := by decide +kernel
theorem dM_take_59 : decode prog_6_method_8_code 59 = .ok (.getfield 55, 3) := by decide +kernel
theorem dM_take_62 : decode prog_6_method_8_code 62 = .ok (.iconst 1, 1) := by decide +kernel
theorem dM_take_63 : decode prog_6_method_8_code 63 = .ok (.iadd, 1) := by decide +kernel
theorem dM_take_64 : decode prog_6_method_8_code 64 = .ok (.putfield 55, 3) := by decide +kernel
theorem dM_take_67 : decode prog_6_method_8_code 67 = .ok (.aload_n 0, 1) := by decide +kernel
theorem dM_take_68 : decode prog_6_method_8_code 68 = .ok (.invokevirtual 58, 3) := by decide +kernel
theorem dM_take_71 : decode prog_6_method_8_code 71 = .ok (.aload_n 0, 1) := by decide +kernel
theorem dM_take_72 : decode prog_6_method_8_code 72 = .ok (.getfield 52, 3) := by decide +kernel
theorem dM_take_75 : decode prog_6_method_8_code 75 = .ok (.ifCond .ne 24, 3) := by decide +kernel
theorem dM_take_78 : decode prog_6_method_8_code 78 = .ok (.aload_n 0, 1) := by decide +kernel
theorem dM_take_79 : decode prog_6_method_8_code 79 = .ok (.iload_n 1, 1) := by decide +kernel
theorem dM_take_80 : decode prog_6_method_8_code 80 = .ok (.iload_n 2, 1) := by decide +kernel
theorem dM_take_81 : decode prog_6_method_8_code 81 = .ok (.lload_n 3, 1) := by decide +kernel
theorem dM_take_82 : decode prog_6_method_8_code 82 = .ok (.invokevirtual 61, 3) := by decide +kernel
theorem dM_take_85 : decode prog_6_method_8_code 85 = .ok (.aload_n 0, 1) := by decide +kernel
theorem dM_take_86 : decode prog_6_method_8_code 86 = .ok (.getfield 42, 3) := by decide +kernel
theorem dM_take_89 : decode prog_6_method_8_code 89 = .ok (.ifCond .eq 8, 3) := by decide +kernel
theorem dM_take_92 : decode prog_6_method_8_code 92 = .ok (.bipush (-3), 2) := by decide +kernel
theorem dM_take_94 : decode prog_6_method_8_code 94 = .ok (.goto 4, 3) := by decide +kernel
theorem dM_take_97 : decode prog_6_method_8_code 97 = .ok (.iconst 1, 1) := by decide +kernel
theorem dM_take_98 : decode prog_6_method_8_code 98 = .ok (.ireturn, 1) := by decide +kernel
theorem dM_take_99 : decode prog_6_method_8_code 99 = .ok (.aload_n 0, 1) := by decide +kernel
theorem dM_take_100 : decode prog_6_method_8_code 100 = .ok (.getfield 42, 3) := by decide +kernel
theorem dM_take_103 : decode prog_6_method_8_code 103 = .ok (.ifCond .eq 6, 3) := by decide +kernel
theorem dM_take_106 : decode prog_6_method_8_code 106 = .ok (.bipush (-3), 2) := by decide +kernel
theorem dM_take_108 : decode prog_6_method_8_code 108 = .ok (.ireturn, 1) := by decide +kernel
theorem dM_take_109 : decode prog_6_method_8_code 109 = .ok (.aload_n 0, 1) := by decide +kernel
theorem dM_take_110 : decode prog_6_method_8_code 110 = .ok (.getfield 20, 3) := by decide +kernel
theorem dM_take_113 : decode prog_6_method_8_code 113 = .ok (.aload_n 0, 1) := by decide +kernel
theorem dM_take_114 : decode prog_6_method_8_code 114 = .ok (.getfield 65, 3) := by decide +kernel
theorem dM_take_117 : decode prog_6_method_8_code 117 = .ok (.iload_n 1, 1) := by decide +kernel
theorem dM_take_118 : decode prog_6_method_8_code 118 = .ok (.iastore, 1) := by decide +kernel
theorem dM_take_119 : decode prog_6_method_8_code 119 = .ok (.aload_n 0, 1) := by decide +kernel
theorem dM_take_120 : decode prog_6_method_8_code 120 = .ok (.getfield 23, 3) := by decide +kernel
theorem dM_take_123 : decode prog_6_method_8_code 123 = .ok (.aload_n 0, 1) := by decide +kernel
theorem dM_take_124 : decode prog_6_method_8_code 124 = .ok (.getfield 65, 3) := by decide +kernel
theorem dM_take_127 : decode prog_6_method_8_code 127 = .ok (.iload_n 2, 1) := by decide +kernel
theorem dM_take_128 : decode prog_6_method_8_code 128 = .ok (.iastore, 1) := by decide +kernel
theorem dM_take_129 : decode prog_6_method_8_code 129 = .ok (.aload_n 0, 1) := by decide +kernel
theorem dM_take_130 : decode prog_6_method_8_code 130 = .ok (.getfield 26, 3) := by decide +kernel
theorem dM_take_133 : decode prog_6_method_8_code 133 = .ok (.aload_n 0, 1) := by decide +kernel
theorem dM_take_134 : decode prog_6_method_8_code 134 = .ok (.getfield 65, 3) := by decide +kernel
theorem dM_take_137 : decode prog_6_method_8_code 137 = .ok (.lload_n 3, 1) := by decide +kernel
theorem dM_take_138 : decode prog_6_method_8_code 138 = .ok (.lastore, 1) := by decide +kernel
theorem dM_take_139 : decode prog_6_method_8_code 139 = .ok (.aload_n 0, 1) := by decide +kernel
theorem dM_take_140 : decode prog_6_method_8_code 140 = .ok (.dup, 1) := by decide +kernel
theorem dM_take_141 : decode prog_6_method_8_code 141 = .ok (.getfield 65, 3) := by decide +kernel
theorem dM_take_144 : decode prog_6_method_8_code 144 = .ok (.iconst 1, 1) := by decide +kernel
theorem dM_take_145 : decode prog_6_method_8_code 145 = .ok (.iadd, 1) := by decide +kernel
theorem dM_take_146 : decode prog_6_method_8_code 146 = .ok (.putfield 65, 3) := by decide +kernel
theorem dM_take_149 : decode prog_6_method_8_code 149 = .ok (.iconst 0, 1) := by decide +kernel
theorem dM_take_150 : decode prog_6_method_8_code 150 = .ok (.ireturn, 1) := by decide +kernel
theorem dM_spend_0 : decode prog_6_method_6_code 0 = .ok (.aload_n 0, 1) := by decide +kernel
theorem dM_spend_1 : decode prog_6_method_6_code 1 = .ok (.dup, 1) := by decide +kernel
theorem dM_spend_2 : decode prog_6_method_6_code 2 = .ok (.getfield 46, 3) := by decide +kernel
theorem dM_spend_5 : decode prog_6_method_6_code 5 = .ok (.iconst 1, 1) := by decide +kernel
theorem dM_spend_6 : decode prog_6_method_6_code 6 = .ok (.iadd, 1) := by decide +kernel
theorem dM_spend_7 : decode prog_6_method_6_code 7 = .ok (.putfield 46, 3) := by decide +kernel
theorem dM_spend_10 : decode prog_6_method_6_code 10 = .ok (.aload_n 0, 1) := by decide +kernel
theorem dM_spend_11 : decode prog_6_method_6_code 11 = .ok (.dup, 1) := by decide +kernel
theorem dM_spend_12 : decode prog_6_method_6_code 12 = .ok (.getfield 29, 3) := by decide +kernel
theorem dM_spend_15 : decode prog_6_method_6_code 15 = .ok (.aload_n 0, 1) := by decide +kernel
theorem dM_spend_16 : decode prog_6_method_6_code 16 = .ok (.getfield 29, 3) := by decide +kernel
theorem dM_spend_19 : decode prog_6_method_6_code 19 = .ok (.ifCond .le 7, 3) := by decide +kernel
theorem dM_spend_22 : decode prog_6_method_6_code 22 = .ok (.iconst 1, 1) := by decide +kernel
theorem dM_spend_23 : decode prog_6_method_6_code 23 = .ok (.goto 4, 3) := by decide +kernel
theorem dM_spend_26 : decode prog_6_method_6_code 26 = .ok (.iconst 0, 1) := by decide +kernel
theorem dM_spend_27 : decode prog_6_method_6_code 27 = .ok (.isub, 1) := by decide +kernel
theorem dM_spend_28 : decode prog_6_method_6_code 28 = .ok (.putfield 29, 3) := by decide +kernel
theorem dM_spend_31 : decode prog_6_method_6_code 31 = .ok (.aload_n 0, 1) := by decide +kernel
theorem dM_spend_32 : decode prog_6_method_6_code 32 = .ok (.aload_n 0, 1) := by decide +kernel
theorem dM_spend_33 : decode prog_6_method_6_code 33 = .ok (.getfield 29, 3) := by decide +kernel
theorem dM_spend_36 : decode prog_6_method_6_code 36 = .ok (.ifCond .ne 7, 3) := by decide +kernel
theorem dM_spend_39 : decode prog_6_method_6_code 39 = .ok (.iconst 1, 1) := by decide +kernel
theorem dM_spend_40 : decode prog_6_method_6_code 40 = .ok (.goto 4, 3) := by decide +kernel
theorem dM_spend_43 : decode prog_6_method_6_code 43 = .ok (.iconst 0, 1) := by decide +kernel
theorem dM_spend_44 : decode prog_6_method_6_code 44 = .ok (.putfield 42, 3) := by decide +kernel
theorem dM_spend_47 : decode prog_6_method_6_code 47 = .ok (.return_, 1) := by decide +kernel
theorem dM_happen_0 : decode prog_6_method_7_code 0 = .ok (.iload_n 1, 1) := by decide +kernel
theorem dM_happen_1 : decode prog_6_method_7_code 1 = .ok (.ifCond .lt 23, 3) := by decide +kernel
theorem dM_happen_4 : decode prog_6_method_7_code 4 = .ok (.aload_n 0, 1) := by decide +kernel
theorem dM_happen_5 : decode prog_6_method_7_code 5 = .ok (.getfield 7, 3) := by decide +kernel
theorem dM_happen_8 : decode prog_6_method_7_code 8 = .ok (.iload_n 1, 1) := by decide +kernel
theorem dM_happen_9 : decode prog_6_method_7_code 9 = .ok (.dup2, 1) := by decide +kernel
theorem dM_happen_10 : decode prog_6_method_7_code 10 = .ok (.laload, 1) := by decide +kernel
theorem dM_happen_11 : decode prog_6_method_7_code 11 = .ok (.lload_n 3, 1) := by decide +kernel
theorem dM_happen_12 : decode prog_6_method_7_code 12 = .ok (.lsub, 1) := by decide +kernel
theorem dM_happen_13 : decode prog_6_method_7_code 13 = .ok (.lastore, 1) := by decide +kernel
theorem dM_happen_14 : decode prog_6_method_7_code 14 = .ok (.aload_n 0, 1) := by decide +kernel
theorem dM_happen_15 : decode prog_6_method_7_code 15 = .ok (.getfield 13, 3) := by decide +kernel
theorem dM_happen_18 : decode prog_6_method_7_code 18 = .ok (.iload_n 1, 1) := by decide +kernel
theorem dM_happen_19 : decode prog_6_method_7_code 19 = .ok (.dup2, 1) := by decide +kernel
theorem dM_happen_20 : decode prog_6_method_7_code 20 = .ok (.iaload, 1) := by decide +kernel
theorem dM_happen_21 : decode prog_6_method_7_code 21 = .ok (.iconst 1, 1) := by decide +kernel
theorem dM_happen_22 : decode prog_6_method_7_code 22 = .ok (.iadd, 1) := by decide +kernel
theorem dM_happen_23 : decode prog_6_method_7_code 23 = .ok (.iastore, 1) := by decide +kernel
theorem dM_happen_24 : decode prog_6_method_7_code 24 = .ok (.aload_n 0, 1) := by decide +kernel
theorem dM_happen_25 : decode prog_6_method_7_code 25 = .ok (.getfield 7, 3) := by decide +kernel
theorem dM_happen_28 : decode prog_6_method_7_code 28 = .ok (.iload_n 2, 1) := by decide +kernel
theorem dM_happen_29 : decode prog_6_method_7_code 29 = .ok (.dup2, 1) := by decide +kernel
theorem dM_happen_30 : decode prog_6_method_7_code 30 = .ok (.laload, 1) := by decide +kernel
theorem dM_happen_31 : decode prog_6_method_7_code 31 = .ok (.lload_n 3, 1) := by decide +kernel
theorem dM_happen_32 : decode prog_6_method_7_code 32 = .ok (.ladd, 1) := by decide +kernel
theorem dM_happen_33 : decode prog_6_method_7_code 33 = .ok (.lastore, 1) := by decide +kernel
theorem dM_happen_34 : decode prog_6_method_7_code 34 = .ok (.aload_n 0, 1) := by decide +kernel
theorem dM_happen_35 : decode prog_6_method_7_code 35 = .ok (.getfield 13, 3) := by decide +kernel
theorem dM_happen_38 : decode prog_6_method_7_code 38 = .ok (.iload_n 2, 1) := by decide +kernel
theorem dM_happen_39 : decode prog_6_method_7_code 39 = .ok (.dup2, 1) := by decide +kernel
theorem dM_happen_40 : decode prog_6_method_7_code 40 = .ok (.iaload, 1) := by decide +kernel
theorem dM_happen_41 : decode prog_6_method_7_code 41 = .ok (.iconst 1, 1) := by decide +kernel
theorem dM_happen_42 : decode prog_6_method_7_code 42 = .ok (.iadd, 1) := by decide +kernel
theorem dM_happen_43 : decode prog_6_method_7_code 43 = .ok (.iastore, 1) := by decide +kernel
theorem dM_happen_44 : decode prog_6_method_7_code 44 = .ok (.aload_n 0, 1) := by decide +kernel
theorem dM_happen_45 : decode prog_6_method_7_code 45 = .ok (.dup, 1) := by decide +kernel
theorem dM_happen_46 : decode prog_6_method_7_code 46 = .ok (.getfield 49, 3) := by decide +kernel
theorem dM_happen_49 : decode prog_6_method_7_code 49 = .ok (.iconst 1, 1) := by decide +kernel
theorem dM_happen_50 : decode prog_6_method_7_code 50 = .ok (.iadd, 1) := by decide +kernel
theorem dM_happen_51 : decode prog_6_method_7_code 51 = .ok (.putfield 49, 3) := by decide +kernel
theorem dM_happen_54 : decode prog_6_method_7_code 54 = .ok (.return_, 1) := by decide +kernel
theorem dM_move_0 : decode prog_6_method_10_code 0 = .ok (.aload_n 0, 1) := by decide +kernel
theorem dM_move_1 : decode prog_6_method_10_code 1 = .ok (.aload_n 0, 1) := by decide +kernel
theorem dM_move_2 : decode prog_6_method_10_code 2 = .ok (.iload_n 1, 1) := by decide +kernel
theorem dM_move_3 : decode prog_6_method_10_code 3 = .ok (.invokevirtual 68, 3) := by decide +kernel
theorem dM_move_6 : decode prog_6_method_10_code 6 = .ok (.ifCond .eq 34, 3) := by decide +kernel
theorem dM_move_9 : decode prog_6_method_10_code 9 = .ok (.aload_n 0, 1) := by decide +kernel
theorem dM_move_10 : decode prog_6_method_10_code 10 = .ok (.iload_n 2, 1) := by decide +kernel
theorem dM_move_11 : decode prog_6_method_10_code 11 = .ok (.invokevirtual 68, 3) := by decide +kernel
theorem dM_move_14 : decode prog_6_method_10_code 14 = .ok (.ifCond .eq 26, 3) := by decide +kernel
theorem dM_move_17 : decode prog_6_method_10_code 17 = .ok (.iload_n 1, 1) := by decide +kernel
theorem dM_move_18 : decode prog_6_method_10_code 18 = .ok (.iload_n 2, 1) := by decide +kernel
theorem dM_move_19 : decode prog_6_method_10_code 19 = .ok (.if_icmp .eq 21, 3) := by decide +kernel
theorem dM_move_22 : decode prog_6_method_10_code 22 = .ok (.lload_n 3, 1) := by decide +kernel
theorem dM_move_23 : decode prog_6_method_10_code 23 = .ok (.lconst 0, 1) := by decide +kernel
theorem dM_move_24 : decode prog_6_method_10_code 24 = .ok (.lcmp, 1) := by decide +kernel
theorem dM_move_25 : decode prog_6_method_10_code 25 = .ok (.ifCond .lt 15, 3) := by decide +kernel
theorem dM_move_28 : decode prog_6_method_10_code 28 = .ok (.lload_n 3, 1) := by decide +kernel
theorem dM_move_29 : decode prog_6_method_10_code 29 = .ok (.ldc2_w 74, 3) := by decide +kernel
theorem dM_move_32 : decode prog_6_method_10_code 32 = .ok (.lcmp, 1) := by decide +kernel
theorem dM_move_33 : decode prog_6_method_10_code 33 = .ok (.ifCond .gt 7, 3) := by decide +kernel
theorem dM_move_36 : decode prog_6_method_10_code 36 = .ok (.iconst 1, 1) := by decide +kernel
theorem dM_move_37 : decode prog_6_method_10_code 37 = .ok (.goto 4, 3) := by decide +kernel
theorem dM_move_40 : decode prog_6_method_10_code 40 = .ok (.iconst 0, 1) := by decide +kernel
theorem dM_move_41 : decode prog_6_method_10_code 41 = .ok (.aload_n 0, 1) := by decide +kernel
theorem dM_move_42 : decode prog_6_method_10_code 42 = .ok (.getfield 42, 3) := by decide +kernel
theorem dM_move_45 : decode prog_6_method_10_code 45 = .ok (.ifCond .ne 7, 3) := by decide +kernel
theorem dM_move_48 : decode prog_6_method_10_code 48 = .ok (.iconst 1, 1) := by decide +kernel
theorem dM_move_49 : decode prog_6_method_10_code 49 = .ok (.goto 4, 3) := by decide +kernel
theorem dM_move_52 : decode prog_6_method_10_code 52 = .ok (.iconst 0, 1) := by decide +kernel
theorem dM_move_53 : decode prog_6_method_10_code 53 = .ok (.invokevirtual 76, 3) := by decide +kernel
theorem dM_move_56 : decode prog_6_method_10_code 56 = .ok (.ifCond .eq 13, 3) := by decide +kernel
theorem dM_move_59 : decode prog_6_method_10_code 59 = .ok (.aload_n 0, 1) := by decide +kernel
theorem dM_move_60 : decode prog_6_method_10_code 60 = .ok (.iload_n 1, 1) := by decide +kernel
theorem dM_move_61 : decode prog_6_method_10_code 61 = .ok (.iload_n 2, 1) := by decide +kernel
theorem dM_move_62 : decode prog_6_method_10_code 62 = .ok (.lload_n 3, 1) := by decide +kernel
theorem dM_move_63 : decode prog_6_method_10_code 63 = .ok (.invokevirtual 80, 3) := by decide +kernel
theorem dM_move_66 : decode prog_6_method_10_code 66 = .ok (.goto 4, 3) := by decide +kernel
theorem dM_move_69 : decode prog_6_method_10_code 69 = .ok (.iconst 0, 1) := by decide +kernel
theorem dM_move_70 : decode prog_6_method_10_code 70 = .ok (.ireturn, 1) := by decide +kernel
theorem dM_begin_0 : decode prog_6_method_11_code 0 = .ok (.aload_n 0, 1) := by decide +kernel
theorem dM_begin_1 : decode prog_6_method_11_code 1 = .ok (.aload_n 0, 1) := by decide +kernel
theorem dM_begin_2 : decode prog_6_method_11_code 2 = .ok (.getfield 52, 3) := by decide +kernel
theorem dM_begin_5 : decode prog_6_method_11_code 5 = .ok (.ifCond .ne 7, 3) := by decide +kernel
theorem dM_begin_8 : decode prog_6_method_11_code 8 = .ok (.iconst 1, 1) := by decide +kernel
theorem dM_begin_9 : decode prog_6_method_11_code 9 = .ok (.goto 4, 3) := by decide +kernel
theorem dM_begin_12 : decode prog_6_method_11_code 12 = .ok (.iconst 0, 1) := by decide +kernel
theorem dM_begin_13 : decode prog_6_method_11_code 13 = .ok (.invokevirtual 84, 3) := by decide +kernel
theorem dM_begin_16 : decode prog_6_method_11_code 16 = .ok (.ifCond .eq 13, 3) := by decide +kernel
theorem dM_begin_19 : decode prog_6_method_11_code 19 = .ok (.aload_n 0, 1) := by decide +kernel
theorem dM_begin_20 : decode prog_6_method_11_code 20 = .ok (.iconst 1, 1) := by decide +kernel
theorem dM_begin_21 : decode prog_6_method_11_code 21 = .ok (.putfield 52, 3) := by decide +kernel
theorem dM_begin_24 : decode prog_6_method_11_code 24 = .ok (.aload_n 0, 1) := by decide +kernel
theorem dM_begin_25 : decode prog_6_method_11_code 25 = .ok (.iconst 0, 1) := by decide +kernel
theorem dM_begin_26 : decode prog_6_method_11_code 26 = .ok (.putfield 65, 3) := by decide +kernel
theorem dM_begin_29 : decode prog_6_method_11_code 29 = .ok (.return_, 1) := by decide +kernel
theorem dM_stands_0 : decode prog_6_method_4_code 0 = .ok (.aload_n 0, 1) := by decide +kernel
theorem dM_stands_1 : decode prog_6_method_4_code 1 = .ok (.aload_n 0, 1) := by decide +kernel
theorem dM_stands_2 : decode prog_6_method_4_code 2 = .ok (.getfield 42, 3) := by decide +kernel
theorem dM_stands_5 : decode prog_6_method_4_code 5 = .ok (.ifCond .ne 7, 3) := by decide +kernel
theorem dM_stands_8 : decode prog_6_method_4_code 8 = .ok (.iload_n 1, 1) := by decide +kernel
theorem dM_stands_9 : decode prog_6_method_4_code 9 = .ok (.ifCond .ne 7, 3) := by decide +kernel
theorem dM_stands_12 : decode prog_6_method_4_code 12 = .ok (.iconst 1, 1) := by decide +kernel
theorem dM_stands_13 : decode prog_6_method_4_code 13 = .ok (.goto 4, 3) := by decide +kernel
theorem dM_stands_16 : decode prog_6_method_4_code 16 = .ok (.iconst 0, 1) := by decide +kernel
theorem dM_stands_17 : decode prog_6_method_4_code 17 = .ok (.putfield 39, 3) := by decide +kernel
theorem dM_stands_20 : decode prog_6_method_4_code 20 = .ok (.aload_n 0, 1) := by decide +kernel
theorem dM_stands_21 : decode prog_6_method_4_code 21 = .ok (.getfield 39, 3) := by decide +kernel
theorem dM_stands_24 : decode prog_6_method_4_code 24 = .ok (.ifCond .ne 7, 3) := by decide +kernel
theorem dM_stands_27 : decode prog_6_method_4_code 27 = .ok (.iconst 1, 1) := by decide +kernel
theorem dM_stands_28 : decode prog_6_method_4_code 28 = .ok (.goto 4, 3) := by decide +kernel
theorem dM_stands_31 : decode prog_6_method_4_code 31 = .ok (.iconst 0, 1) := by decide +kernel
theorem dM_stands_32 : decode prog_6_method_4_code 32 = .ok (.ireturn, 1) := by decide +kernel
theorem dM_end_0 : decode prog_6_method_13_code 0 = .ok (.aload_n 0, 1) := by decide +kernel
theorem dM_end_1 : decode prog_6_method_13_code 1 = .ok (.aload_n 0, 1) := by decide +kernel
theorem dM_end_2 : decode prog_6_method_13_code 2 = .ok (.getfield 52, 3) := by decide +kernel
theorem dM_end_5 : decode prog_6_method_13_code 5 = .ok (.invokevirtual 84, 3) := by decide +kernel
theorem dM_end_8 : decode prog_6_method_13_code 8 = .ok (.ifCond .ne 5, 3) := by decide +kernel
theorem dM_end_11 : decode prog_6_method_13_code 11 = .ok (.iconst 0, 1) := by decide +kernel
theorem dM_end_12 : decode prog_6_method_13_code 12 = .ok (.ireturn, 1) := by decide +kernel
theorem dM_end_13 : decode prog_6_method_13_code 13 = .ok (.aload_n 0, 1) := by decide +kernel
theorem dM_end_14 : decode prog_6_method_13_code 14 = .ok (.invokevirtual 88, 3) := by decide +kernel
theorem dM_end_17 : decode prog_6_method_13_code 17 = .ok (.ifCond .ne 11, 3) := by decide +kernel
theorem dM_end_20 : decode prog_6_method_13_code 20 = .ok (.aload_n 0, 1) := by decide +kernel
theorem dM_end_21 : decode prog_6_method_13_code 21 = .ok (.iconst 0, 1) := by decide +kernel
theorem dM_end_22 : decode prog_6_method_13_code 22 = .ok (.putfield 52, 3) := by decide +kernel
theorem dM_end_25 : decode prog_6_method_13_code 25 = .ok (.bipush (-4), 2) := by decide +kernel
theorem dM_end_27 : decode prog_6_method_13_code 27 = .ok (.ireturn, 1) := by decide +kernel
theorem dM_end_28 : decode prog_6_method_13_code 28 = .ok (.aload_n 0, 1) := by decide +kernel
theorem dM_end_29 : decode prog_6_method_13_code 29 = .ok (.getfield 55, 3) := by decide +kernel
theorem dM_end_32 : decode prog_6_method_13_code 32 = .ok (.aload_n 0, 1) := by decide +kernel
theorem dM_end_33 : decode prog_6_method_13_code 33 = .ok (.getfield 36, 3) := by decide +kernel
theorem dM_end_36 : decode prog_6_method_13_code 36 = .ok (.if_icmp .ne 6, 3) := by decide +kernel
theorem dM_end_39 : decode prog_6_method_13_code 39 = .ok (.bipush (-2), 2) := by decide +kernel
theorem dM_end_41 : decode prog_6_method_13_code 41 = .ok (.ireturn, 1) := by decide +kernel
theorem dM_end_42 : decode prog_6_method_13_code 42 = .ok (.aload_n 0, 1) := by decide +kernel
theorem dM_end_43 : decode prog_6_method_13_code 43 = .ok (.dup, 1) := by decide +kernel
theorem dM_end_44 : decode prog_6_method_13_code 44 = .ok (.getfield 55, 3) := by decide +kernel
theorem dM_end_47 : decode prog_6_method_13_code 47 = .ok (.iconst 1, 1) := by decide +kernel
theorem dM_end_48 : decode prog_6_method_13_code 48 = .ok (.iadd, 1) := by decide +kernel
theorem dM_end_49 : decode prog_6_method_13_code 49 = .ok (.putfield 55, 3) := by decide +kernel
theorem dM_end_52 : decode prog_6_method_13_code 52 = .ok (.aload_n 0, 1) := by decide +kernel
theorem dM_end_53 : decode prog_6_method_13_code 53 = .ok (.invokevirtual 58, 3) := by decide +kernel
theorem dM_end_56 : decode prog_6_method_13_code 56 = .ok (.iconst 0, 1) := by decide +kernel
theorem dM_end_57 : decode prog_6_method_13_code 57 = .ok (.istore_n 1, 1) := by decide +kernel
theorem dM_end_58 : decode prog_6_method_13_code 58 = .ok (.iload_n 1, 1) := by decide +kernel
theorem dM_end_59 : decode prog_6_method_13_code 59 = .ok (.aload_n 0, 1) := by decide +kernel
theorem dM_end_60 : decode prog_6_method_13_code 60 = .ok (.getfield 65, 3) := by decide +kernel
theorem dM_end_63 : decode prog_6_method_13_code 63 = .ok (.if_icmp .ge 31, 3) := by decide +kernel
theorem dM_end_66 : decode prog_6_method_13_code 66 = .ok (.aload_n 0, 1) := by decide +kernel
theorem dM_end_67 : decode prog_6_method_13_code 67 = .ok (.aload_n 0, 1) := by decide +kernel
theorem dM_end_68 : decode prog_6_method_13_code 68 = .ok (.getfield 20, 3) := by decide +kernel
theorem dM_end_71 : decode prog_6_method_13_code 71 = .ok (.iload_n 1, 1) := by decide +kernel
theorem dM_end_72 : decode prog_6_method_13_code 72 = .ok (.iaload, 1) := by decide +kernel
theorem dM_end_73 : decode prog_6_method_13_code 73 = .ok (.aload_n 0, 1) := by decide +kernel
theorem dM_end_74 : decode prog_6_method_13_code 74 = .ok (.getfield 23, 3) := by decide +kernel
theorem dM_end_77 : decode prog_6_method_13_code 77 = .ok (.iload_n 1, 1) := by decide +kernel
theorem dM_end_78 : decode prog_6_method_13_code 78 = .ok (.iaload, 1) := by decide +kernel
theorem dM_end_79 : decode prog_6_method_13_code 79 = .ok (.aload_n 0, 1) := by decide +kernel
theorem dM_end_80 : decode prog_6_method_13_code 80 = .ok (.getfield 26, 3) := by decide +kernel
theorem dM_end_83 : decode prog_6_method_13_code 83 = .ok (.iload_n 1, 1) := by decide +kernel
theorem dM_end_84 : decode prog_6_method_13_code 84 = .ok (.laload, 1) := by decide +kernel
theorem dM_end_85 : decode prog_6_method_13_code 85 = .ok (.invokevirtual 61, 3) := by decide +kernel
theorem dM_end_88 : decode prog_6_method_13_code 88 = .ok (.iinc 1 1, 3) := by decide +kernel
theorem dM_end_91 : decode prog_6_method_13_code 91 = .ok (.goto (-33), 3) := by decide +kernel
theorem dM_end_94 : decode prog_6_method_13_code 94 = .ok (.aload_n 0, 1) := by decide +kernel
theorem dM_end_95 : decode prog_6_method_13_code 95 = .ok (.iconst 0, 1) := by decide +kernel
theorem dM_end_96 : decode prog_6_method_13_code 96 = .ok (.putfield 52, 3) := by decide +kernel
theorem dM_end_99 : decode prog_6_method_13_code 99 = .ok (.aload_n 0, 1) := by decide +kernel
theorem dM_end_100 : decode prog_6_method_13_code 100 = .ok (.getfield 42, 3) := by decide +kernel
theorem dM_end_103 : decode prog_6_method_13_code 103 = .ok (.ifCond .eq 8, 3) := by decide +kernel
theorem dM_end_106 : decode prog_6_method_13_code 106 = .ok (.bipush (-3), 2) := by decide +kernel
theorem dM_end_108 : decode prog_6_method_13_code 108 = .ok (.goto 7, 3) := by decide +kernel
theorem dM_end_111 : decode prog_6_method_13_code 111 = .ok (.aload_n 0, 1) := by decide +kernel
theorem dM_end_112 : decode prog_6_method_13_code 112 = .ok (.getfield 65, 3) := by decide +kernel
theorem dM_end_115 : decode prog_6_method_13_code 115 = .ok (.ireturn, 1) := by decide +kernel
theorem dM_isRich_0 : decode prog_6_method_12_code 0 = .ok (.iconst 0, 1) := by decide +kernel
theorem dM_isRich_1 : decode prog_6_method_12_code 1 = .ok (.istore_n 1, 1) := by decide +kernel
theorem dM_isRich_2 : decode prog_6_method_12_code 2 = .ok (.iload_n 1, 1) := by decide +kernel
theorem dM_isRich_3 : decode prog_6_method_12_code 3 = .ok (.aload_n 0, 1) := by decide +kernel
theorem dM_isRich_4 : decode prog_6_method_12_code 4 = .ok (.getfield 33, 3) := by decide +kernel
theorem dM_isRich_7 : decode prog_6_method_12_code 7 = .ok (.if_icmp .ge 21, 3) := by decide +kernel
theorem dM_isRich_10 : decode prog_6_method_12_code 10 = .ok (.aload_n 0, 1) := by decide +kernel
theorem dM_isRich_11 : decode prog_6_method_12_code 11 = .ok (.getfield 17, 3) := by decide +kernel
theorem dM_isRich_14 : decode prog_6_method_12_code 14 = .ok (.iload_n 1, 1) := by decide +kernel
theorem dM_isRich_15 : decode prog_6_method_12_code 15 = .ok (.aload_n 0, 1) := by decide +kernel
theorem dM_isRich_16 : decode prog_6_method_12_code 16 = .ok (.getfield 7, 3) := by decide +kernel
theorem dM_isRich_19 : decode prog_6_method_12_code 19 = .ok (.iload_n 1, 1) := by decide +kernel
theorem dM_isRich_20 : decode prog_6_method_12_code 20 = .ok (.laload, 1) := by decide +kernel
theorem dM_isRich_21 : decode prog_6_method_12_code 21 = .ok (.lastore, 1) := by decide +kernel
theorem dM_isRich_22 : decode prog_6_method_12_code 22 = .ok (.iinc 1 1, 3) := by decide +kernel
theorem dM_isRich_25 : decode prog_6_method_12_code 25 = .ok (.goto (-23), 3) := by decide +kernel
theorem dM_isRich_28 : decode prog_6_method_12_code 28 = .ok (.iconst 1, 1) := by decide +kernel
theorem dM_isRich_29 : decode prog_6_method_12_code 29 = .ok (.istore_n 1, 1) := by decide +kernel
theorem dM_isRich_30 : decode prog_6_method_12_code 30 = .ok (.iconst 0, 1) := by decide +kernel
theorem dM_isRich_31 : decode prog_6_method_12_code 31 = .ok (.istore_n 2, 1) := by decide +kernel
theorem dM_isRich_32 : decode prog_6_method_12_code 32 = .ok (.iload_n 2, 1) := by decide +kernel
theorem dM_isRich_33 : decode prog_6_method_12_code 33 = .ok (.aload_n 0, 1) := by decide +kernel
theorem dM_isRich_34 : decode prog_6_method_12_code 34 = .ok (.getfield 65, 3) := by decide +kernel
theorem dM_isRich_37 : decode prog_6_method_12_code 37 = .ok (.if_icmp .ge 119, 3) := by decide +kernel
theorem dM_isRich_40 : decode prog_6_method_12_code 40 = .ok (.aload_n 0, 1) := by decide +kernel
theorem dM_isRich_41 : decode prog_6_method_12_code 41 = .ok (.getfield 20, 3) := by decide +kernel
theorem dM_isRich_44 : decode prog_6_method_12_code 44 = .ok (.iload_n 2, 1) := by decide +kernel
theorem dM_isRich_45 : decode prog_6_method_12_code 45 = .ok (.iaload, 1) := by decide +kernel
theorem dM_isRich_46 : decode prog_6_method_12_code 46 = .ok (.ifCond .lt 49, 3) := by decide +kernel
theorem dM_isRich_49 : decode prog_6_method_12_code 49 = .ok (.aload_n 0, 1) := by decide +kernel
theorem dM_isRich_50 : decode prog_6_method_12_code 50 = .ok (.getfield 17, 3) := by decide +kernel
theorem dM_isRich_53 : decode prog_6_method_12_code 53 = .ok (.aload_n 0, 1) := by decide +kernel
theorem dM_isRich_54 : decode prog_6_method_12_code 54 = .ok (.getfield 20, 3) := by decide +kernel
theorem dM_isRich_57 : decode prog_6_method_12_code 57 = .ok (.iload_n 2, 1) := by decide +kernel
theorem dM_isRich_58 : decode prog_6_method_12_code 58 = .ok (.iaload, 1) := by decide +kernel
theorem dM_isRich_59 : decode prog_6_method_12_code 59 = .ok (.dup2, 1) := by decide +kernel
theorem dM_isRich_60 : decode prog_6_method_12_code 60 = .ok (.laload, 1) := by decide +kernel
theorem dM_isRich_61 : decode prog_6_method_12_code 61 = .ok (.aload_n 0, 1) := by decide +kernel
theorem dM_isRich_62 : decode prog_6_method_12_code 62 = .ok (.getfield 26, 3) := by decide +kernel
theorem dM_isRich_65 : decode prog_6_method_12_code 65 = .ok (.iload_n 2, 1) := by decide +kernel
theorem dM_isRich_66 : decode prog_6_method_12_code 66 = .ok (.laload, 1) := by decide +kernel
theorem dM_isRich_67 : decode prog_6_method_12_code 67 = .ok (.lsub, 1) := by decide +kernel
theorem dM_isRich_68 : decode prog_6_method_12_code 68 = .ok (.lastore, 1) := by decide +kernel
theorem dM_isRich_69 : decode prog_6_method_12_code 69 = .ok (.iload_n 1, 1) := by decide +kernel
theorem dM_isRich_70 : decode prog_6_method_12_code 70 = .ok (.ifCond .eq 23, 3) := by decide +kernel
theorem dM_isRich_73 : decode prog_6_method_12_code 73 = .ok (.aload_n 0, 1) := by decide +kernel
theorem dM_isRich_74 : decode prog_6_method_12_code 74 = .ok (.getfield 17, 3) := by decide +kernel
theorem dM_isRich_77 : decode prog_6_method_12_code 77 = .ok (.aload_n 0, 1) := by decide +kernel
theorem dM_isRich_78 : decode prog_6_method_12_code 78 = .ok (.getfield 20, 3) := by decide +kernel
theorem dM_isRich_81 : decode prog_6_method_12_code 81 = .ok (.iload_n 2, 1) := by decide +kernel
theorem dM_isRich_82 : decode prog_6_method_12_code 82 = .ok (.iaload, 1) := by decide +kernel
theorem dM_isRich_83 : decode prog_6_method_12_code 83 = .ok (.laload, 1) := by decide +kernel
theorem dM_isRich_84 : decode prog_6_method_12_code 84 = .ok (.lconst 0, 1) := by decide +kernel
theorem dM_isRich_85 : decode prog_6_method_12_code 85 = .ok (.lcmp, 1) := by decide +kernel
theorem dM_isRich_86 : decode prog_6_method_12_code 86 = .ok (.ifCond .lt 7, 3) := by decide +kernel
theorem dM_isRich_89 : decode prog_6_method_12_code 89 = .ok (.iconst 1, 1) := by decide +kernel
theorem dM_isRich_90 : decode prog_6_method_12_code 90 = .ok (.goto 4, 3) := by decide +kernel
theorem dM_isRich_93 : decode prog_6_method_12_code 93 = .ok (.iconst 0, 1) := by decide +kernel
theorem dM_isRich_94 : decode prog_6_method_12_code 94 = .ok (.istore_n 1, 1) := by decide +kernel
theorem dM_isRich_95 : decode prog_6_method_12_code 95 = .ok (.aload_n 0, 1) := by decide +kernel
theorem dM_isRich_96 : decode prog_6_method_12_code 96 = .ok (.getfield 17, 3) := by decide +kernel
theorem dM_isRich_99 : decode prog_6_method_12_code 99 = .ok (.aload_n 0, 1) := by decide +kernel
theorem dM_isRich_100 : decode prog_6_method_12_code 100 = .ok (.getfield 23, 3) := by decide +kernel
theorem dM_isRich_103 : decode prog_6_method_12_code 103 = .ok (.iload_n 2, 1) := by decide +kernel
theorem dM_isRich_104 : decode prog_6_method_12_code 104 = .ok (.iaload, 1) := by decide +kernel
theorem dM_isRich_105 : decode prog_6_method_12_code 105 = .ok (.dup2, 1) := by decide +kernel
theorem dM_isRich_106 : decode prog_6_method_12_code 106 = .ok (.laload, 1) := by decide +kernel
theorem dM_isRich_107 : decode prog_6_method_12_code 107 = .ok (.aload_n 0, 1) := by decide +kernel
theorem dM_isRich_108 : decode prog_6_method_12_code 108 = .ok (.getfield 26, 3) := by decide +kernel
theorem dM_isRich_111 : decode prog_6_method_12_code 111 = .ok (.iload_n 2, 1) := by decide +kernel
theorem dM_isRich_112 : decode prog_6_method_12_code 112 = .ok (.laload, 1) := by decide +kernel
theorem dM_isRich_113 : decode prog_6_method_12_code 113 = .ok (.ladd, 1) := by decide +kernel
theorem dM_isRich_114 : decode prog_6_method_12_code 114 = .ok (.lastore, 1) := by decide +kernel
theorem dM_isRich_115 : decode prog_6_method_12_code 115 = .ok (.iload_n 1, 1) := by decide +kernel
theorem dM_isRich_116 : decode prog_6_method_12_code 116 = .ok (.ifCond .eq 32, 3) := by decide +kernel
theorem dM_isRich_119 : decode prog_6_method_12_code 119 = .ok (.aload_n 0, 1) := by decide +kernel
theorem dM_isRich_120 : decode prog_6_method_12_code 120 = .ok (.getfield 20, 3) := by decide +kernel
theorem dM_isRich_123 : decode prog_6_method_12_code 123 = .ok (.iload_n 2, 1) := by decide +kernel
theorem dM_isRich_124 : decode prog_6_method_12_code 124 = .ok (.iaload, 1) := by decide +kernel
theorem dM_isRich_125 : decode prog_6_method_12_code 125 = .ok (.ifCond .ge 19, 3) := by decide +kernel
theorem dM_isRich_128 : decode prog_6_method_12_code 128 = .ok (.aload_n 0, 1) := by decide +kernel
theorem dM_isRich_129 : decode prog_6_method_12_code 129 = .ok (.getfield 17, 3) := by decide +kernel
theorem dM_isRich_132 : decode prog_6_method_12_code 132 = .ok (.aload_n 0, 1) := by decide +kernel
theorem dM_isRich_133 : decode prog_6_method_12_code 133 = .ok (.getfield 23, 3) := by decide +kernel
theorem dM_isRich_136 : decode prog_6_method_12_code 136 = .ok (.iload_n 2, 1) := by decide +kernel
theorem dM_isRich_137 : decode prog_6_method_12_code 137 = .ok (.iaload, 1) := by decide +kernel
theorem dM_isRich_138 : decode prog_6_method_12_code 138 = .ok (.laload, 1) := by decide +kernel
theorem dM_isRich_139 : decode prog_6_method_12_code 139 = .ok (.lconst 0, 1) := by decide +kernel
theorem dM_isRich_140 : decode prog_6_method_12_code 140 = .ok (.lcmp, 1) := by decide +kernel
theorem dM_isRich_141 : decode prog_6_method_12_code 141 = .ok (.ifCond .lt 7, 3) := by decide +kernel
theorem dM_isRich_144 : decode prog_6_method_12_code 144 = .ok (.iconst 1, 1) := by decide +kernel
theorem dM_isRich_145 : decode prog_6_method_12_code 145 = .ok (.goto 4, 3) := by decide +kernel
theorem dM_isRich_148 : decode prog_6_method_12_code 148 = .ok (.iconst 0, 1) := by decide +kernel
theorem dM_isRich_149 : decode prog_6_method_12_code 149 = .ok (.istore_n 1, 1) := by decide +kernel
theorem dM_isRich_150 : decode prog_6_method_12_code 150 = .ok (.iinc 2 1, 3) := by decide +kernel
theorem dM_isRich_153 : decode prog_6_method_12_code 153 = .ok (.goto (-121), 3) := by decide +kernel
theorem dM_isRich_156 : decode prog_6_method_12_code 156 = .ok (.iload_n 1, 1) := by decide +kernel
theorem dM_isRich_157 : decode prog_6_method_12_code 157 = .ok (.ireturn, 1) := by decide +kernel
theorem dM_drop_0 : decode prog_6_method_14_code 0 = .ok (.aload_n 0, 1) := by decide +kernel
theorem dM_drop_1 : decode prog_6_method_14_code 1 = .ok (.aload_n 0, 1) := by decide +kernel
theorem dM_drop_2 : decode prog_6_method_14_code 2 = .ok (.getfield 52, 3) := by decide +kernel
theorem dM_drop_5 : decode prog_6_method_14_code 5 = .ok (.invokevirtual 84, 3) := by decide +kernel
theorem dM_drop_8 : decode prog_6_method_14_code 8 = .ok (.ifCond .ne 5, 3) := by decide +kernel
theorem dM_drop_11 : decode prog_6_method_14_code 11 = .ok (.iconst 0, 1) := by decide +kernel
theorem dM_drop_12 : decode prog_6_method_14_code 12 = .ok (.ireturn, 1) := by decide +kernel
theorem dM_drop_13 : decode prog_6_method_14_code 13 = .ok (.aload_n 0, 1) := by decide +kernel
theorem dM_drop_14 : decode prog_6_method_14_code 14 = .ok (.iconst 0, 1) := by decide +kernel
theorem dM_drop_15 : decode prog_6_method_14_code 15 = .ok (.putfield 52, 3) := by decide +kernel
theorem dM_drop_18 : decode prog_6_method_14_code 18 = .ok (.aload_n 0, 1) := by decide +kernel
theorem dM_drop_19 : decode prog_6_method_14_code 19 = .ok (.getfield 65, 3) := by decide +kernel
theorem dM_drop_22 : decode prog_6_method_14_code 22 = .ok (.ireturn, 1) := by decide +kernel
theorem dM_snapshot_0 : decode prog_6_method_15_code 0 = .ok (.aload_n 0, 1) := by decide +kernel
theorem dM_snapshot_1 : decode prog_6_method_15_code 1 = .ok (.aload_n 0, 1) := by decide +kernel
theorem dM_snapshot_2 : decode prog_6_method_15_code 2 = .ok (.getfield 52, 3) := by decide +kernel
theorem dM_snapshot_5 : decode prog_6_method_15_code 5 = .ok (.ifCond .ne 7, 3) := by decide +kernel
theorem dM_snapshot_8 : decode prog_6_method_15_code 8 = .ok (.iconst 1, 1) := by decide +kernel
theorem dM_snapshot_9 : decode prog_6_method_15_code 9 = .ok (.goto 4, 3) := by decide +kernel
theorem dM_snapshot_12 : decode prog_6_method_15_code 12 = .ok (.iconst 0, 1) := by decide +kernel
theorem dM_snapshot_13 : decode prog_6_method_15_code 13 = .ok (.invokevirtual 84, 3) := by decide +kernel
theorem dM_snapshot_16 : decode prog_6_method_15_code 16 = .ok (.ifCond .ne 5, 3) := by decide +kernel
theorem dM_snapshot_19 : decode prog_6_method_15_code 19 = .ok (.iconst 0, 1) := by decide +kernel
theorem dM_snapshot_20 : decode prog_6_method_15_code 20 = .ok (.ireturn, 1) := by decide +kernel
theorem dM_snapshot_21 : decode prog_6_method_15_code 21 = .ok (.aload_n 0, 1) := by decide +kernel
theorem dM_snapshot_22 : decode prog_6_method_15_code 22 = .ok (.getfield 33, 3) := by decide +kernel
theorem dM_snapshot_25 : decode prog_6_method_15_code 25 = .ok (.bipush 15, 2) := by decide +kernel
theorem dM_snapshot_27 : decode prog_6_method_15_code 27 = .ok (.iadd, 1) := by decide +kernel
theorem dM_snapshot_28 : decode prog_6_method_15_code 28 = .ok (.bipush 16, 2) := by decide +kernel
theorem dM_snapshot_30 : decode prog_6_method_15_code 30 = .ok (.idiv, 1) := by decide +kernel
theorem dM_snapshot_31 : decode prog_6_method_15_code 31 = .ok (.iconst 1, 1) := by decide +kernel
theorem dM_snapshot_32 : decode prog_6_method_15_code 32 = .ok (.iadd, 1) := by decide +kernel
theorem dM_snapshot_33 : decode prog_6_method_15_code 33 = .ok (.istore_n 1, 1) := by decide +kernel
theorem dM_snapshot_34 : decode prog_6_method_15_code 34 = .ok (.iconst 0, 1) := by decide +kernel
theorem dM_snapshot_35 : decode prog_6_method_15_code 35 = .ok (.istore_n 2, 1) := by decide +kernel
theorem dM_snapshot_36 : decode prog_6_method_15_code 36 = .ok (.iload_n 2, 1) := by decide +kernel
theorem dM_snapshot_37 : decode prog_6_method_15_code 37 = .ok (.iload_n 1, 1) := by decide +kernel
theorem dM_snapshot_38 : decode prog_6_method_15_code 38 = .ok (.if_icmp .ge 20, 3) := by decide +kernel
theorem dM_snapshot_41 : decode prog_6_method_15_code 41 = .ok (.aload_n 0, 1) := by decide +kernel
theorem dM_snapshot_42 : decode prog_6_method_15_code 42 = .ok (.getfield 42, 3) := by decide +kernel
theorem dM_snapshot_45 : decode prog_6_method_15_code 45 = .ok (.ifCond .ne 13, 3) := by decide +kernel
theorem dM_snapshot_48 : decode prog_6_method_15_code 48 = .ok (.aload_n 0, 1) := by decide +kernel
theorem dM_snapshot_49 : decode prog_6_method_15_code 49 = .ok (.invokevirtual 58, 3) := by decide +kernel
theorem dM_snapshot_52 : decode prog_6_method_15_code 52 = .ok (.iinc 2 1, 3) := by decide +kernel
theorem dM_snapshot_55 : decode prog_6_method_15_code 55 = .ok (.goto (-19), 3) := by decide +kernel
theorem dM_snapshot_58 : decode prog_6_method_15_code 58 = .ok (.iload_n 2, 1) := by decide +kernel
theorem dM_snapshot_59 : decode prog_6_method_15_code 59 = .ok (.iload_n 1, 1) := by decide +kernel
theorem dM_snapshot_60 : decode prog_6_method_15_code 60 = .ok (.if_icmp .ne 23, 3) := by decide +kernel
theorem dM_snapshot_63 : decode prog_6_method_15_code 63 = .ok (.aload_n 0, 1) := by decide +kernel
theorem dM_snapshot_64 : decode prog_6_method_15_code 64 = .ok (.iconst 0, 1) := by decide +kernel
theorem dM_snapshot_65 : decode prog_6_method_15_code 65 = .ok (.putfield 55, 3) := by decide +kernel
theorem dM_snapshot_68 : decode prog_6_method_15_code 68 = .ok (.aload_n 0, 1) := by decide +kernel
theorem dM_snapshot_69 : decode prog_6_method_15_code 69 = .ok (.iconst 0, 1) := by decide +kernel
theorem dM_snapshot_70 : decode prog_6_method_15_code 70 = .ok (.putfield 49, 3) := by decide +kernel
theorem dM_snapshot_73 : decode prog_6_method_15_code 73 = .ok (.aload_n 0, 1) := by decide +kernel
theorem dM_snapshot_74 : decode prog_6_method_15_code 74 = .ok (.dup, 1) := by decide +kernel
theorem dM_snapshot_75 : decode prog_6_method_15_code 75 = .ok (.getfield 92, 3) := by decide +kernel
theorem dM_snapshot_78 : decode prog_6_method_15_code 78 = .ok (.iconst 1, 1) := by decide +kernel
theorem dM_snapshot_79 : decode prog_6_method_15_code 79 = .ok (.iadd, 1) := by decide +kernel
theorem dM_snapshot_80 : decode prog_6_method_15_code 80 = .ok (.putfield 92, 3) := by decide +kernel
theorem dM_snapshot_83 : decode prog_6_method_15_code 83 = .ok (.aload_n 0, 1) := by decide +kernel
theorem dM_snapshot_84 : decode prog_6_method_15_code 84 = .ok (.getfield 42, 3) := by decide +kernel
theorem dM_snapshot_87 : decode prog_6_method_15_code 87 = .ok (.ifCond .eq 8, 3) := by decide +kernel
theorem dM_snapshot_90 : decode prog_6_method_15_code 90 = .ok (.bipush (-3), 2) := by decide +kernel
theorem dM_snapshot_92 : decode prog_6_method_15_code 92 = .ok (.goto 4, 3) := by decide +kernel
theorem dM_snapshot_95 : decode prog_6_method_15_code 95 = .ok (.iload_n 1, 1) := by decide +kernel
theorem dM_snapshot_96 : decode prog_6_method_15_code 96 = .ok (.ireturn, 1) := by decide +kernel
theorem dM_crash_0 : decode prog_6_method_16_code 0 = .ok (.aload_n 0, 1) := by decide +kernel
theorem dM_crash_1 : decode prog_6_method_16_code 1 = .ok (.iload_n 1, 1) := by decide +kernel
theorem dM_crash_2 : decode prog_6_method_16_code 2 = .ok (.iconst (-1), 1) := by decide +kernel
theorem dM_crash_3 : decode prog_6_method_16_code 3 = .ok (.if_icmp .lt 14, 3) := by decide +kernel
theorem dM_crash_6 : decode prog_6_method_16_code 6 = .ok (.iload_n 1, 1) := by decide +kernel
theorem dM_crash_7 : decode prog_6_method_16_code 7 = .ok (.sipush 1000, 3) := by decide +kernel
theorem dM_crash_10 : decode prog_6_method_16_code 10 = .ok (.if_icmp .gt 7, 3) := by decide +kernel
theorem dM_crash_13 : decode prog_6_method_16_code 13 = .ok (.iconst 1, 1) := by decide +kernel
theorem dM_crash_14 : decode prog_6_method_16_code 14 = .ok (.goto 4, 3) := by decide +kernel
theorem dM_crash_17 : decode prog_6_method_16_code 17 = .ok (.iconst 0, 1) := by decide +kernel
theorem dM_crash_18 : decode prog_6_method_16_code 18 = .ok (.aload_n 0, 1) := by decide +kernel
theorem dM_crash_19 : decode prog_6_method_16_code 19 = .ok (.getfield 42, 3) := by decide +kernel
theorem dM_crash_22 : decode prog_6_method_16_code 22 = .ok (.ifCond .ne 7, 3) := by decide +kernel
theorem dM_crash_25 : decode prog_6_method_16_code 25 = .ok (.iconst 1, 1) := by decide +kernel
theorem dM_crash_26 : decode prog_6_method_16_code 26 = .ok (.goto 4, 3) := by decide +kernel
theorem dM_crash_29 : decode prog_6_method_16_code 29 = .ok (.iconst 0, 1) := by decide +kernel
theorem dM_crash_30 : decode prog_6_method_16_code 30 = .ok (.invokevirtual 76, 3) := by decide +kernel
theorem dM_crash_33 : decode prog_6_method_16_code 33 = .ok (.ifCond .eq 21, 3) := by decide +kernel
theorem dM_crash_36 : decode prog_6_method_16_code 36 = .ok (.aload_n 0, 1) := by decide +kernel
theorem dM_crash_37 : decode prog_6_method_16_code 37 = .ok (.iload_n 1, 1) := by decide +kernel
theorem dM_crash_38 : decode prog_6_method_16_code 38 = .ok (.putfield 29, 3) := by decide +kernel
theorem dM_crash_41 : decode prog_6_method_16_code 41 = .ok (.aload_n 0, 1) := by decide +kernel
theorem dM_crash_42 : decode prog_6_method_16_code 42 = .ok (.iload_n 1, 1) := by decide +kernel
theorem dM_crash_43 : decode prog_6_method_16_code 43 = .ok (.ifCond .ne 7, 3) := by decide +kernel
theorem dM_crash_46 : decode prog_6_method_16_code 46 = .ok (.iconst 1, 1) := by decide +kernel
theorem dM_crash_47 : decode prog_6_method_16_code 47 = .ok (.goto 4, 3) := by decide +kernel
theorem dM_crash_50 : decode prog_6_method_16_code 50 = .ok (.iconst 0, 1) := by decide +kernel
theorem dM_crash_51 : decode prog_6_method_16_code 51 = .ok (.putfield 42, 3) := by decide +kernel
theorem dM_crash_54 : decode prog_6_method_16_code 54 = .ok (.return_, 1) := by decide +kernel
theorem dM_recover_0 : decode prog_6_method_17_code 0 = .ok (.aload_n 0, 1) := by decide +kernel
theorem dM_recover_1 : decode prog_6_method_17_code 1 = .ok (.iconst 0, 1) := by decide +kernel
theorem dM_recover_2 : decode prog_6_method_17_code 2 = .ok (.putfield 39, 3) := by decide +kernel
theorem dM_recover_5 : decode prog_6_method_17_code 5 = .ok (.aload_n 0, 1) := by decide +kernel
theorem dM_recover_6 : decode prog_6_method_17_code 6 = .ok (.iconst 0, 1) := by decide +kernel
theorem dM_recover_7 : decode prog_6_method_17_code 7 = .ok (.putfield 42, 3) := by decide +kernel
theorem dM_recover_10 : decode prog_6_method_17_code 10 = .ok (.aload_n 0, 1) := by decide +kernel
theorem dM_recover_11 : decode prog_6_method_17_code 11 = .ok (.iconst (-1), 1) := by decide +kernel
theorem dM_recover_12 : decode prog_6_method_17_code 12 = .ok (.putfield 29, 3) := by decide +kernel
theorem dM_recover_15 : decode prog_6_method_17_code 15 = .ok (.aload_n 0, 1) := by decide +kernel
theorem dM_recover_16 : decode prog_6_method_17_code 16 = .ok (.iconst 0, 1) := by decide +kernel
theorem dM_recover_17 : decode prog_6_method_17_code 17 = .ok (.putfield 52, 3) := by decide +kernel
theorem dM_recover_20 : decode prog_6_method_17_code 20 = .ok (.aload_n 0, 1) := by decide +kernel
theorem dM_recover_21 : decode prog_6_method_17_code 21 = .ok (.getfield 49, 3) := by decide +kernel
theorem dM_recover_24 : decode prog_6_method_17_code 24 = .ok (.ireturn, 1) := by decide +kernel
theorem dM_isDown_0 : decode prog_6_method_18_code 0 = .ok (.aload_n 0, 1) := by decide +kernel
theorem dM_isDown_1 : decode prog_6_method_18_code 1 = .ok (.iconst 0, 1) := by decide +kernel
theorem dM_isDown_2 : decode prog_6_method_18_code 2 = .ok (.putfield 39, 3) := by decide +kernel
theorem dM_isDown_5 : decode prog_6_method_18_code 5 = .ok (.aload_n 0, 1) := by decide +kernel
theorem dM_isDown_6 : decode prog_6_method_18_code 6 = .ok (.getfield 42, 3) := by decide +kernel
theorem dM_isDown_9 : decode prog_6_method_18_code 9 = .ok (.ireturn, 1) := by decide +kernel
theorem dM_amount_0 : decode prog_6_method_19_code 0 = .ok (.aload_n 0, 1) := by decide +kernel
theorem dM_amount_1 : decode prog_6_method_19_code 1 = .ok (.aload_n 0, 1) := by decide +kernel
theorem dM_amount_2 : decode prog_6_method_19_code 2 = .ok (.iload_n 1, 1) := by decide +kernel
theorem dM_amount_3 : decode prog_6_method_19_code 3 = .ok (.invokevirtual 68, 3) := by decide +kernel
theorem dM_amount_6 : decode prog_6_method_19_code 6 = .ok (.aload_n 0, 1) := by decide +kernel
theorem dM_amount_7 : decode prog_6_method_19_code 7 = .ok (.getfield 42, 3) := by decide +kernel
theorem dM_amount_10 : decode prog_6_method_19_code 10 = .ok (.ifCond .ne 7, 3) := by decide +kernel
theorem dM_amount_13 : decode prog_6_method_19_code 13 = .ok (.iconst 1, 1) := by decide +kernel
theorem dM_amount_14 : decode prog_6_method_19_code 14 = .ok (.goto 4, 3) := by decide +kernel
theorem dM_amount_17 : decode prog_6_method_19_code 17 = .ok (.iconst 0, 1) := by decide +kernel
theorem dM_amount_18 : decode prog_6_method_19_code 18 = .ok (.invokevirtual 76, 3) := by decide +kernel
theorem dM_amount_21 : decode prog_6_method_19_code 21 = .ok (.ifCond .eq 12, 3) := by decide +kernel
theorem dM_amount_24 : decode prog_6_method_19_code 24 = .ok (.aload_n 0, 1) := by decide +kernel
theorem dM_amount_25 : decode prog_6_method_19_code 25 = .ok (.getfield 7, 3) := by decide +kernel
theorem dM_amount_28 : decode prog_6_method_19_code 28 = .ok (.iload_n 1, 1) := by decide +kernel
theorem dM_amount_29 : decode prog_6_method_19_code 29 = .ok (.laload, 1) := by decide +kernel
theorem dM_amount_30 : decode prog_6_method_19_code 30 = .ok (.goto 4, 3) := by decide +kernel
theorem dM_amount_33 : decode prog_6_method_19_code 33 = .ok (.lconst 0, 1) := by decide +kernel
theorem dM_amount_34 : decode prog_6_method_19_code 34 = .ok (.lreturn, 1) := by decide +kernel
theorem dM_changes_0 : decode prog_6_method_20_code 0 = .ok (.aload_n 0, 1) := by decide +kernel
theorem dM_changes_1 : decode prog_6_method_20_code 1 = .ok (.aload_n 0, 1) := by decide +kernel
theorem dM_changes_2 : decode prog_6_method_20_code 2 = .ok (.iload_n 1, 1) := by decide +kernel
theorem dM_changes_3 : decode prog_6_method_20_code 3 = .ok (.invokevirtual 68, 3) := by decide +kernel
theorem dM_changes_6 : decode prog_6_method_20_code 6 = .ok (.aload_n 0, 1) := by decide +kernel
theorem dM_changes_7 : decode prog_6_method_20_code 7 = .ok (.getfield 42, 3) := by decide +kernel
theorem dM_changes_10 : decode prog_6_method_20_code 10 = .ok (.ifCond .ne 7, 3) := by decide +kernel
theorem dM_changes_13 : decode prog_6_method_20_code 13 = .ok (.iconst 1, 1) := by decide +kernel
theorem dM_changes_14 : decode prog_6_method_20_code 14 = .ok (.goto 4, 3) := by decide +kernel
theorem dM_changes_17 : decode prog_6_method_20_code 17 = .ok (.iconst 0, 1) := by decide +kernel
theorem dM_changes_18 : decode prog_6_method_20_code 18 = .ok (.invokevirtual 76, 3) := by decide +kernel
theorem dM_changes_21 : decode prog_6_method_20_code 21 = .ok (.ifCond .eq 12, 3) := by decide +kernel
theorem dM_changes_24 : decode prog_6_method_20_code 24 = .ok (.aload_n 0, 1) := by decide +kernel
theorem dM_changes_25 : decode prog_6_method_20_code 25 = .ok (.getfield 13, 3) := by decide +kernel
theorem dM_changes_28 : decode prog_6_method_20_code 28 = .ok (.iload_n 1, 1) := by decide +kernel
theorem dM_changes_29 : decode prog_6_method_20_code 29 = .ok (.iaload, 1) := by decide +kernel
theorem dM_changes_30 : decode prog_6_method_20_code 30 = .ok (.goto 4, 3) := by decide +kernel
theorem dM_changes_33 : decode prog_6_method_20_code 33 = .ok (.iconst 0, 1) := by decide +kernel
theorem dM_changes_34 : decode prog_6_method_20_code 34 = .ok (.ireturn, 1) := by decide +kernel
theorem dM_count_0 : decode prog_6_method_21_code 0 = .ok (.aload_n 0, 1) := by decide +kernel
theorem dM_count_1 : decode prog_6_method_21_code 1 = .ok (.iload_n 1, 1) := by decide +kernel
theorem dM_count_2 : decode prog_6_method_21_code 2 = .ok (.ifCond .lt 12, 3) := by decide +kernel
theorem dM_count_5 : decode prog_6_method_21_code 5 = .ok (.iload_n 1, 1) := by decide +kernel
theorem dM_count_6 : decode prog_6_method_21_code 6 = .ok (.iconst 3, 1) := by decide +kernel
theorem dM_count_7 : decode prog_6_method_21_code 7 = .ok (.if_icmp .gt 7, 3) := by decide +kernel
theorem dM_count_10 : decode prog_6_method_21_code 10 = .ok (.iconst 1, 1) := by decide +kernel
theorem dM_count_11 : decode prog_6_method_21_code 11 = .ok (.goto 4, 3) := by decide +kernel
theorem dM_count_14 : decode prog_6_method_21_code 14 = .ok (.iconst 0, 1) := by decide +kernel
theorem dM_count_15 : decode prog_6_method_21_code 15 = .ok (.aload_n 0, 1) := by decide +kernel
theorem dM_count_16 : decode prog_6_method_21_code 16 = .ok (.getfield 42, 3) := by decide +kernel
theorem dM_count_19 : decode prog_6_method_21_code 19 = .ok (.ifCond .ne 7, 3) := by decide +kernel
theorem dM_count_22 : decode prog_6_method_21_code 22 = .ok (.iconst 1, 1) := by decide +kernel
theorem dM_count_23 : decode prog_6_method_21_code 23 = .ok (.goto 4, 3) := by decide +kernel
theorem dM_count_26 : decode prog_6_method_21_code 26 = .ok (.iconst 0, 1) := by decide +kernel
theorem dM_count_27 : decode prog_6_method_21_code 27 = .ok (.invokevirtual 76, 3) := by decide +kernel
theorem dM_count_30 : decode prog_6_method_21_code 30 = .ok (.ifCond .ne 5, 3) := by decide +kernel
theorem dM_count_33 : decode prog_6_method_21_code 33 = .ok (.iconst 0, 1) := by decide +kernel
theorem dM_count_34 : decode prog_6_method_21_code 34 = .ok (.ireturn, 1) := by decide +kernel
theorem dM_count_35 : decode prog_6_method_21_code 35 = .ok (.iload_n 1, 1) := by decide +kernel
theorem dM_count_36 : decode prog_6_method_21_code 36 = .ok (.ifCond .ne 10, 3) := by decide +kernel
theorem dM_count_39 : decode prog_6_method_21_code 39 = .ok (.aload_n 0, 1) := by decide +kernel
theorem dM_count_40 : decode prog_6_method_21_code 40 = .ok (.getfield 55, 3) := by decide +kernel
theorem dM_count_43 : decode prog_6_method_21_code 43 = .ok (.goto 42, 3) := by decide +kernel
theorem dM_count_46 : decode prog_6_method_21_code 46 = .ok (.iload_n 1, 1) := by decide +kernel
theorem dM_count_47 : decode prog_6_method_21_code 47 = .ok (.iconst 1, 1) := by decide +kernel
theorem dM_count_48 : decode prog_6_method_21_code 48 = .ok (.if_icmp .ne 10, 3) := by decide +kernel
theorem dM_count_51 : decode prog_6_method_21_code 51 = .ok (.aload_n 0, 1) := by decide +kernel
theorem dM_count_52 : decode prog_6_method_21_code 52 = .ok (.getfield 46, 3) := by decide +kernel
theorem dM_count_55 : decode prog_6_method_21_code 55 = .ok (.goto 30, 3) := by decide +kernel
theorem dM_count_58 : decode prog_6_method_21_code 58 = .ok (.iload_n 1, 1) := by decide +kernel
theorem dM_count_59 : decode prog_6_method_21_code 59 = .ok (.iconst 2, 1) := by decide +kernel
theorem dM_count_60 : decode prog_6_method_21_code 60 = .ok (.if_icmp .ne 21, 3) := by decide +kernel
theorem dM_count_63 : decode prog_6_method_21_code 63 = .ok (.aload_n 0, 1) := by decide +kernel
theorem dM_count_64 : decode prog_6_method_21_code 64 = .ok (.getfield 52, 3) := by decide +kernel
theorem dM_count_67 : decode prog_6_method_21_code 67 = .ok (.ifCond .eq 10, 3) := by decide +kernel
theorem dM_count_70 : decode prog_6_method_21_code 70 = .ok (.aload_n 0, 1) := by decide +kernel
theorem dM_count_71 : decode prog_6_method_21_code 71 = .ok (.getfield 65, 3) := by decide +kernel
theorem dM_count_74 : decode prog_6_method_21_code 74 = .ok (.goto 11, 3) := by decide +kernel
theorem dM_count_77 : decode prog_6_method_21_code 77 = .ok (.iconst (-1), 1) := by decide +kernel
theorem dM_count_78 : decode prog_6_method_21_code 78 = .ok (.goto 7, 3) := by decide +kernel
theorem dM_count_81 : decode prog_6_method_21_code 81 = .ok (.aload_n 0, 1) := by decide +kernel
theorem dM_count_82 : decode prog_6_method_21_code 82 = .ok (.getfield 92, 3) := by decide +kernel
theorem dM_count_85 : decode prog_6_method_21_code 85 = .ok (.ireturn, 1) := by decide +kernel
end
