/-! WHAT A THROW NEEDS OF THE STATE: the texts, words that aren't steady, two static fields of Throwable -/
def pt_txt : List (Nat × String) := [(74, "a move needs two accounts"), (168, "there is no such account"), (170, "a number is out of its bounds"), (174, "the power failed"), (177, "there is no group"), (179, "there is a group")]
def pt_dec : List String := ["java/lang/RuntimeException", "java/lang/Exception", "java/lang/Throwable"]
def pt_cas : List String := ["java/lang/IllegalArgumentException", "java/lang/IllegalStateException"]
def pt_G (A : Nat → Prop) (U : State) : Prop := (∀ k ∈ pt_txt, ∃ q, vk_R "ReplayJournal" k.1 k.2 q U) ∧
  (∀ k ∈ pt_dec, va_Nw (.declares ⟨k, "<init>", "(Ljava/lang/String;)V"⟩) U) ∧ (∀ k ∈ pt_cas, va_Nw (.castable k k) U) ∧
  vx_Zq "java/lang/Throwable" "UNASSIGNED_STACK" "[Ljava/lang/StackTraceElement;" A U U.heap ∧ vx_Zq "java/lang/Throwable" "SUPPRESSED_SENTINEL" "Ljava/util/List;" A U U.heap
theorem pt_G_ok : pj_G pt_G := by
  refine ⟨fun A U g mk a h => ⟨fun k hk => (h.1 k hk).imp (fun q hq => vk_R.same rfl hq), fun k hk => va_Nw.same rfl rfl (h.2.1 k hk), fun k hk => va_Nw.same rfl rfl (h.2.2.1 k hk), h.2.2.2.1.moved (Vm.Alike.refl U.vm), h.2.2.2.2.moved (Vm.Alike.refl U.vm)⟩, ?_⟩
  intro A B s U H locs hU hW hS hAB h
  subst hU
  exact ⟨fun k hk => (h.1 k hk).imp (fun q hq => vk_R.warm hW hq), fun k hk => (h.2.1 k hk).warmD hW, fun k hk => (h.2.2.1 k hk).warmC hW, ((h.2.2.2.1.moved hW.alike).kept (fun a ha hna => hS.2.1 a ha hna)).narrow hAB, ((h.2.2.2.2.moved hW.alike).kept (fun a ha hna => hS.2.1 a ha hna)).narrow hAB⟩
def pt_sts : List Cond := [.isRef (.static "java/lang/Throwable" "UNASSIGNED_STACK" "[Ljava/lang/StackTraceElement;"), .isRef (.static "java/lang/Throwable" "SUPPRESSED_SENTINEL" "Ljava/util/List;"), .laysStatic "java/lang/Throwable" "UNASSIGNED_STACK" "[Ljava/lang/StackTraceElement;", .laysStatic "java/lang/Throwable" "SUPPRESSED_SENTINEL" "Ljava/util/List;"]
def pt_spc : List Cond := pt_dec.map (fun k => .declares ⟨k, "<init>", "(Ljava/lang/String;)V"⟩) ++ (pt_cas.map (fun k => .castable k k) ++ pt_sts)
theorem pt_spc_ok {args : Array Value} {s : State} {A : Nat → Prop} (hG : pt_G A s) : ∀ a ∈ pt_spc, a.before args s = true := by
  intro a ha
  obtain ⟨-, h1, h2, h3, h4⟩ := hG
  rcases List.mem_append.mp ha with h | h
  · obtain ⟨k, hk, rfl⟩ := List.mem_map.mp h
    exact (h1 k hk).use rfl
  · rcases List.mem_append.mp h with h | h
    · obtain ⟨k, hk, rfl⟩ := List.mem_map.mp h
      exact (h2 k hk).use rfl
    · simp only [pt_sts, List.mem_cons, List.not_mem_nil, or_false] at h
      rcases h with rfl | rfl | rfl | rfl
      · exact vx_isRefq h3.1
      · exact vx_isRefq h4.1
      · exact h3.2.word
      · exact h4.2.word
def pt_up : List String := ["java/lang/RuntimeException", "java/lang/Exception"]
theorem pt_inA : ∀ a ∈ Bundle.ownAtoms "ReplayJournal" 76 "java/lang/IllegalArgumentException" pt_up, a ∈ pt_spc ++ pjW0 := by decide +kernel
theorem pt_inS : ∀ a ∈ Bundle.ownAtoms "ReplayJournal" 176 "java/lang/IllegalStateException" pt_up, a ∈ pt_spc ++ pjW0 := by decide +kernel
theorem pt_atoms {args : Array Value} {s : State} {A : Nat → Prop} {X : String} {ic : Nat} {c : Cond} (hts : ∀ w ∈ c :: pjW0, w.before args s = true) (hG : pt_G A s) (h : ∀ a ∈ Bundle.ownAtoms "ReplayJournal" ic X pt_up, a ∈ pt_spc ++ pjW0) : ∀ a ∈ Bundle.ownAtoms "ReplayJournal" ic X pt_up, a.before args s = true := by
  intro a ha
  rcases List.mem_append.mp (h a ha) with h1 | h1
  · exact pt_spc_ok hG a h1
  · exact hts a (List.mem_cons_of_mem _ h1)
