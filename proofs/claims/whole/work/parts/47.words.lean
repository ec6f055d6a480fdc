/-! WHAT THE START SAYS: the classes, the arrays' classes, what a throw needs -/
theorem lk_hts {args : Array Value} {s : State} (hts0 : ∀ w ∈ lw_tbl, w.before args s = true) : ∀ w ∈ Cond.initialized "ReplayJournalLaw" :: pjW0, w.before args s = true := by
  have hts1 : ∀ w ∈ pjW0, w.before args s = true := fun w hw => hts0 w (List.mem_filter.mp hw).1
  exact List.forall_mem_cons.mpr ⟨(hts1 _ m_18), hts1⟩
theorem lk_K {args : Array Value} {s : State} (hts0 : ∀ w ∈ lw_tbl, w.before args s = true) : ∃ (D : va_G) (cI cJ cZ : ClassId), va_K D vwCl (pjT cI cJ cZ) s := by
  have hts1 : ∀ w ∈ pjW0, w.before args s = true := fun w hw => hts0 w (List.mem_filter.mp hw).1
  obtain ⟨c0, i0, k0⟩ := u_known hts1 inA (hts1 _ m_45)
  obtain ⟨c1, i1, k1⟩ := u_known hts1 inD (hts1 _ m_83)
  obtain ⟨c2, i2, k2⟩ := u_known hts1 inJ (hts1 _ m_60)
  obtain ⟨c3, i3, k3⟩ := u_known hts1 inR (hts1 _ m_31)
  obtain ⟨c4, i4, k4⟩ := u_known hts1 inM (hts1 _ m_419)
  obtain ⟨cI, kI, mI, fI, gI, hI⟩ := Cond.arrayClass_spec (hts1 _ m_58)
  obtain ⟨cJ, kJ, mJ, fJ, gJ, hJ⟩ := Cond.arrayClass_spec (hts1 _ m_57)
  obtain ⟨cZ, kZ, mZ, fZ, gZ, hZ⟩ := Cond.arrayClass_spec (hts1 _ m_81)
  refine ⟨(fun k => match k with | 0 => c0 | 1 => c1 | 2 => c2 | 3 => c3 | _ => c4, fun k => match k with | 0 => i0 | 1 => i1 | 2 => i2 | 3 => i3 | _ => i4), cI, cJ, cZ, fun c q hq => ?_, fun k q hq => ?_⟩
  · match c, hq with
    | 0, hq => obtain rfl := Option.some.inj hq; exact k0
    | 1, hq => obtain rfl := Option.some.inj hq; exact k1
    | 2, hq => obtain rfl := Option.some.inj hq; exact k2
    | 3, hq => obtain rfl := Option.some.inj hq; exact k3
    | 4, hq => obtain rfl := Option.some.inj hq; exact k4
    | n + 5, hq => cases hq
  · match k, hq with
    | 0, hq => obtain rfl := Option.some.inj hq; exact ⟨fun n z => ⟨fun k h => (by cases h), kI, gI, mI, hI⟩, fI⟩
    | 1, hq => obtain rfl := Option.some.inj hq; exact ⟨fun n z => ⟨fun k h => (by cases h), kJ, gJ, mJ, hJ⟩, fJ⟩
    | 2, hq => obtain rfl := Option.some.inj hq; exact ⟨fun n z => ⟨fun k h => (by cases h), kZ, gZ, mZ, hZ⟩, fZ⟩
    | n + 3, hq => cases hq
theorem lk_tx {args : Array Value} {s : State} (hts0 : ∀ w ∈ lw_tbl, w.before args s = true) {k : Nat} {tx : String} (h : (Cond.stringRef "ReplayJournal" k tx).before args s = true) : ∃ q, vk_R "ReplayJournal" k tx q s := by
  have hts1 : ∀ w ∈ pjW0, w.before args s = true := fun w hw => hts0 w (List.mem_filter.mp hw).1
  obtain ⟨c3, i3, k3⟩ := u_known hts1 inR (hts1 _ m_31)
  obtain ⟨-, -, -, a, -, -, -, -, -, hev⟩ := Cond.stringRef_spec k3.2.1 h
  exact ⟨a, vk_R.of h hev⟩
theorem lk_G {args : Array Value} {s : State} (hts0 : ∀ w ∈ lw_tbl, w.before args s = true) (hgv : (Jvm.Cond.and given_1 narrow_1).before args s = true) : pw_G (fun q => s.heap.size ≤ q) s := by
  have hs := flat_of_before _ hgv
  have hz : ∀ a : Nat, a < s.heap.size → ¬ (fun q => s.heap.size ≤ q) a := fun a h q => absurd h (Nat.not_lt.mpr q)
  have n1 : (Cond.isRef (.static "java/lang/Throwable" "UNASSIGNED_STACK" "[Ljava/lang/StackTraceElement;")).before args s = true := hs _ (by decide +kernel)
  have n2 : (Cond.isRef (.static "java/lang/Throwable" "SUPPRESSED_SENTINEL" "Ljava/util/List;")).before args s = true := hs _ (by decide +kernel)
  have n3 : (Cond.not (.castable "java/lang/IllegalStateException" "java/lang/IllegalArgumentException")).before args s = true := hs _ (by decide +kernel)
  refine ⟨⟨?_, ?_, ?_, vx_Zqof (hts0 _ (List.mem_of_getElem? (i := 198) (by decide +kernel))) (hts0 _ (List.mem_of_getElem? (i := 25) (by decide +kernel))) n1 hz, vx_Zqof (hts0 _ (List.mem_of_getElem? (i := 200) (by decide +kernel))) (hts0 _ (List.mem_of_getElem? (i := 25) (by decide +kernel))) n2 hz⟩, va_Nc.of n3⟩
  · exact List.forall_mem_cons.mpr ⟨lk_tx hts0 (hts0 _ (List.mem_of_getElem? (i := 296) (by decide +kernel))), List.forall_mem_cons.mpr ⟨lk_tx hts0 (hts0 _ (List.mem_of_getElem? (i := 211) (by decide +kernel))), List.forall_mem_cons.mpr ⟨lk_tx hts0 (hts0 _ (List.mem_of_getElem? (i := 243) (by decide +kernel))), List.forall_mem_cons.mpr ⟨lk_tx hts0 (hts0 _ (List.mem_of_getElem? (i := 257) (by decide +kernel))), List.forall_mem_cons.mpr ⟨lk_tx hts0 (hts0 _ (List.mem_of_getElem? (i := 320) (by decide +kernel))), List.forall_mem_cons.mpr ⟨lk_tx hts0 (hts0 _ (List.mem_of_getElem? (i := 308) (by decide +kernel))), fun w h => absurd h List.not_mem_nil⟩⟩⟩⟩⟩⟩
  · exact List.forall_mem_cons.mpr ⟨va_Nw.of rfl (hts0 _ (List.mem_of_getElem? (i := 175) (by decide +kernel))), List.forall_mem_cons.mpr ⟨va_Nw.of rfl (hts0 _ (List.mem_of_getElem? (i := 177) (by decide +kernel))), List.forall_mem_cons.mpr ⟨va_Nw.of rfl (hts0 _ (List.mem_of_getElem? (i := 179) (by decide +kernel))), fun w h => absurd h List.not_mem_nil⟩⟩⟩
  · exact List.forall_mem_cons.mpr ⟨va_Nw.of rfl (hts0 _ (List.mem_of_getElem? (i := 173) (by decide +kernel))), List.forall_mem_cons.mpr ⟨va_Nw.of rfl (hts0 _ (List.mem_of_getElem? (i := 250) (by decide +kernel))), fun w h => absurd h List.not_mem_nil⟩⟩
