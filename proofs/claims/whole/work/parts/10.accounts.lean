set_option maxHeartbeats 4000000 in
set_option maxRecDepth 100000 in
theorem c_size (l : Launch) (D : va_G) (cI cJ cZ : ClassId) (o p1 q1 n : Nat) (f : Nat → Int64) (g : Nat → Int32) (hn : n < 2 ^ 31) : pp_Met l yA_size wsA_size ({ frames := 0, cells := 0, slots := 0, locals := 0 }) D vwCl (pjT cI cJ cZ) pj_no [.ref o] [(o, .inr (0, [.ref p1, .ref q1])), (p1, .inl (cJ, n, .inr (.inl f))), (q1, .inl (cI, n, .inl g))] (some (.int (nI n))) := by
  refine pp_of (by decide) rfl (Nat.le_of_ble_eq_true rfl) ?_
  intro p e s m below meth c A ls hx hb hml hr hts hown hlocks hA hK hP hD hS hG hl
  have hl : lv_has ls 1 [(0, .ref o)] := hl
  refine lv_aload_n hx hb dA_size_0 rfl (lv_at hl 0 rfl) ?_
  refine va_get (D := D) (ci := 0) (v := .ref p1) (C := "ReplayJournal$Accounts") (T := TA) (N := 2) hx hb hts (pj_ups inA) hown hK hP 0 rfl rfl 0 (by decide) (hts _ (pj_up m_50)) (fun _ h9 => h9) rfl dA_size_1 ?_
  refine va_alen (v := nI n) hx hb hK hP 1 1 rfl rfl rfl dA_size_4 ?_
  exact pp_iret hx hb hr hlocks (rfl) dA_size_5
set_option maxHeartbeats 4000000 in
set_option maxRecDepth 100000 in
theorem c_has (l : Launch) (D : va_G) (cI cJ cZ : ClassId) (o p1 q1 n : Nat) (f : Nat → Int64) (g : Nat → Int32) (hn : n < 2 ^ 31) (x : Int32) : pp_Met l yA_has wsA_has ({ frames := 0, cells := 0, slots := 0, locals := 0 }) D vwCl (pjT cI cJ cZ) pj_no [.ref o, .int x] [(o, .inr (0, [.ref p1, .ref q1])), (p1, .inl (cJ, n, .inr (.inl f))), (q1, .inl (cI, n, .inl g))] (some (.int (if pjH n x then 1 else 0))) := by
  refine pp_of (by decide) rfl (Nat.le_of_ble_eq_true rfl) ?_
  intro p e s m below meth c A ls hx hb hml hr hts hown hlocks hA hK hP hD hS hG hl
  have hl : lv_has ls 2 [(0, .ref o), (1, .int x)] := hl
  refine lv_iload_n hx hb dA_has_0 rfl (lv_at hl 1 rfl) ?_
  refine lv_if_lt (tgt := 17) hx hb dA_has_1 (by decide) (fun c1 => ?_) (fun c1 => ?_)
  · refine lv_iconst (v := 0) hx hb dA_has_17 (by decide) ?_
    exact pp_zret hx hb hr hlocks ((if_neg (fun h => h.1 c1)).symm) (by split <;> decide) dA_has_18
  · refine lv_iload_n hx hb dA_has_4 rfl (lv_at hl 1 rfl) ?_
    refine lv_aload_n hx hb dA_has_5 rfl (lv_at hl 0 rfl) ?_
    refine va_get (D := D) (ci := 0) (v := .ref p1) (C := "ReplayJournal$Accounts") (T := TA) (N := 2) hx hb hts (pj_ups inA) hown hK hP 0 rfl rfl 0 (by decide) (hts _ (pj_up m_50)) (fun _ h9 => h9) rfl dA_has_6 ?_
    refine va_alen (v := nI n) hx hb hK hP 1 1 rfl rfl rfl dA_has_9 ?_
    refine lv_icmp_ge (tgt := 17) hx hb dA_has_10 (by decide) (fun c2 => ?_) (fun c2 => ?_)
    · refine lv_iconst (v := 0) hx hb dA_has_17 (by decide) ?_
      exact pp_zret hx hb hr hlocks ((if_neg (fun h => h.2 c2)).symm) (by split <;> decide) dA_has_18
    · refine lv_iconst (v := 1) hx hb dA_has_13 (by decide) ?_
      refine lv_goto (tgt := 18) hx hb dA_has_14 (by decide) ?_
      exact pp_zret hx hb hr hlocks ((if_pos ⟨c1, c2⟩).symm) (by split <;> decide) dA_has_18
theorem c_has_t (l : Launch) (D : va_G) (cI cJ cZ : ClassId) (o p1 q1 n : Nat) (f : Nat → Int64) (g : Nat → Int32) (hn : n < 2 ^ 31) (x : Int32) (h : pjH n x) : pp_Met l yA_has wsA_has ({ frames := 0, cells := 0, slots := 0, locals := 0 }) D vwCl (pjT cI cJ cZ) pj_no [.ref o, .int x] [(o, .inr (0, [.ref p1, .ref q1])), (p1, .inl (cJ, n, .inr (.inl f))), (q1, .inl (cI, n, .inl g))] (some (.int 1)) := by
  have h1 := c_has l D cI cJ cZ o p1 q1 n f g hn x
  rw [if_pos h] at h1
  exact h1
theorem c_has_f (l : Launch) (D : va_G) (cI cJ cZ : ClassId) (o p1 q1 n : Nat) (f : Nat → Int64) (g : Nat → Int32) (hn : n < 2 ^ 31) (x : Int32) (h : ¬ pjH n x) : pp_Met l yA_has wsA_has ({ frames := 0, cells := 0, slots := 0, locals := 0 }) D vwCl (pjT cI cJ cZ) pj_no [.ref o, .int x] [(o, .inr (0, [.ref p1, .ref q1])), (p1, .inl (cJ, n, .inr (.inl f))), (q1, .inl (cI, n, .inl g))] (some (.int 0)) := by
  have h1 := c_has l D cI cJ cZ o p1 q1 n f g hn x
  rw [if_neg h] at h1
  exact h1
set_option maxHeartbeats 4000000 in
set_option maxRecDepth 100000 in
theorem c_amountOf (l : Launch) (D : va_G) (cI cJ cZ : ClassId) (o p1 q1 n : Nat) (f : Nat → Int64) (g : Nat → Int32) (hn : n < 2 ^ 31) (x : Int32) (h : pjH n x) : pp_Met l yA_amountOf wsA_amountOf ({ frames := 1, cells := 0, slots := 0, locals := 21 }) D vwCl (pjT cI cJ cZ) pj_no [.ref o, .int x] [(o, .inr (0, [.ref p1, .ref q1])), (p1, .inl (cJ, n, .inr (.inl f))), (q1, .inl (cI, n, .inl g))] (some (.long (f x.toNatClampNeg))) := by
  refine pp_of (by decide) rfl (Nat.le_of_ble_eq_true rfl) ?_
  intro p e s m below meth c A ls hx hb hml hr hts hown hlocks hA hK hP hD hS hG hl
  have hl : lv_has ls 2 [(0, .ref o), (1, .int x)] := hl
  refine lv_aload_n hx hb dA_amountOf_0 rfl (lv_at hl 0 rfl) ?_
  refine lv_iload_n hx hb dA_amountOf_1 rfl (lv_at hl 1 rfl) ?_
  refine pp_callV (rest := []) (st1 := [.int 1]) ⟨hx, hb, hml, hown, hts⟩ (c_has_t l D cI cJ cZ o p1 q1 n f g hn x h) (cwV 1 hts (pj_gV m_142 m_143 m_144 m_21 m_145) rfl rfl rfl (by decide +kernel) ⟨Nat.le_of_ble_eq_true rfl, Nat.le_of_ble_eq_true rfl⟩) pj_no_ok trivial hK hP hD hS hA (ci := 0) (q0 := 0) rfl rfl [0, 1, 2] rfl rfl rfl hl.1 rfl (Nat.le_of_ble_eq_true rfl) dA_amountOf_2 ⟨Nat.le_of_ble_eq_true rfl, Nat.le_of_ble_eq_true rfl⟩ rfl ?_
  refine lv_if_eq (tgt := 17) hx hb dA_amountOf_5 (by decide) (fun h9 => absurd h9 (by decide)) (fun _ => ?_)
  refine lv_aload_n hx hb dA_amountOf_8 rfl (lv_at hl 0 rfl) ?_
  refine va_get (D := D) (ci := 0) (v := .ref p1) (C := "ReplayJournal$Accounts") (T := TA) (N := 2) hx hb hts (pj_ups inA) hown hK hP 0 rfl rfl 0 (by decide) (hts _ (pj_up m_50)) (fun _ h9 => h9) rfl dA_amountOf_9 ?_
  refine lv_iload_n hx hb dA_amountOf_12 rfl (lv_at hl 1 rfl) ?_
  refine va_lald hx hb hK hP 1 1 rfl rfl (pjH_in hn h) dA_amountOf_13 ?_
  refine lv_goto (tgt := 18) hx hb dA_amountOf_14 (by decide) ?_
  exact pp_lret hx hb hr hlocks (rfl) dA_amountOf_18
set_option maxHeartbeats 4000000 in
set_option maxRecDepth 100000 in
theorem c_changesOf (l : Launch) (D : va_G) (cI cJ cZ : ClassId) (o p1 q1 n : Nat) (f : Nat → Int64) (g : Nat → Int32) (hn : n < 2 ^ 31) (x : Int32) (h : pjH n x) : pp_Met l yA_changesOf wsA_changesOf ({ frames := 1, cells := 0, slots := 0, locals := 21 }) D vwCl (pjT cI cJ cZ) pj_no [.ref o, .int x] [(o, .inr (0, [.ref p1, .ref q1])), (p1, .inl (cJ, n, .inr (.inl f))), (q1, .inl (cI, n, .inl g))] (some (.int (g x.toNatClampNeg))) := by
  refine pp_of (by decide) rfl (Nat.le_of_ble_eq_true rfl) ?_
  intro p e s m below meth c A ls hx hb hml hr hts hown hlocks hA hK hP hD hS hG hl
  have hl : lv_has ls 2 [(0, .ref o), (1, .int x)] := hl
  refine lv_aload_n hx hb dA_changesOf_0 rfl (lv_at hl 0 rfl) ?_
  refine lv_iload_n hx hb dA_changesOf_1 rfl (lv_at hl 1 rfl) ?_
  refine pp_callV (rest := []) (st1 := [.int 1]) ⟨hx, hb, hml, hown, hts⟩ (c_has_t l D cI cJ cZ o p1 q1 n f g hn x h) (cwV 1 hts (pj_gV m_142 m_143 m_144 m_21 m_145) rfl rfl rfl (by decide +kernel) ⟨Nat.le_of_ble_eq_true rfl, Nat.le_of_ble_eq_true rfl⟩) pj_no_ok trivial hK hP hD hS hA (ci := 0) (q0 := 0) rfl rfl [0, 1, 2] rfl rfl rfl hl.1 rfl (Nat.le_of_ble_eq_true rfl) dA_changesOf_2 ⟨Nat.le_of_ble_eq_true rfl, Nat.le_of_ble_eq_true rfl⟩ rfl ?_
  refine lv_if_eq (tgt := 17) hx hb dA_changesOf_5 (by decide) (fun h9 => absurd h9 (by decide)) (fun _ => ?_)
  refine lv_aload_n hx hb dA_changesOf_8 rfl (lv_at hl 0 rfl) ?_
  refine va_get (D := D) (ci := 0) (v := .ref q1) (C := "ReplayJournal$Accounts") (T := TA) (N := 2) hx hb hts (pj_ups inA) hown hK hP 0 rfl rfl 1 (by decide) (hts _ (pj_up m_51)) (fun _ h9 => h9) rfl dA_changesOf_9 ?_
  refine lv_iload_n hx hb dA_changesOf_12 rfl (lv_at hl 1 rfl) ?_
  refine va_iald hx hb hK hP 2 0 rfl rfl (pjH_in hn h) dA_changesOf_13 ?_
  refine lv_goto (tgt := 18) hx hb dA_changesOf_14 (by decide) ?_
  exact pp_iret hx hb hr hlocks (rfl) dA_changesOf_18
set_option maxHeartbeats 4000000 in
set_option maxRecDepth 100000 in
theorem c_over (l : Launch) (D : va_G) (cI cJ cZ : ClassId) (o p1 q1 n : Nat) (f : Nat → Int64) (g : Nat → Int32) (hn : n < 2 ^ 31) (x y : Int32) (v : Int64) : pp_Met l yA_wouldOverdraw wsA_wouldOverdraw ({ frames := 1, cells := 0, slots := 0, locals := 21 }) D vwCl (pjT cI cJ cZ) pj_no [.ref o, .int x, .int y, .long v] [(o, .inr (0, [.ref p1, .ref q1])), (p1, .inl (cJ, n, .inr (.inl f))), (q1, .inl (cI, n, .inl g))] (some (.int (if pjO n f x y v then 1 else 0))) := by
  refine pp_of (by decide) rfl (Nat.le_of_ble_eq_true rfl) ?_
  intro p e s m below meth c A ls hx hb hml hr hts hown hlocks hA hK hP hD hS hG hl
  have hl : lv_has ls 5 [(0, .ref o), (1, .int x), (2, .int y), (3, .long v)] := hl
  refine lv_aload_n hx hb dA_wouldOverdraw_0 rfl (lv_at hl 0 rfl) ?_
  refine lv_iload_n hx hb dA_wouldOverdraw_1 rfl (lv_at hl 1 rfl) ?_
  by_cases hx1 : pjH n x
  · refine pp_callV (rest := []) (st1 := [.int 1]) ⟨hx, hb, hml, hown, hts⟩ (c_has_t l D cI cJ cZ o p1 q1 n f g hn x hx1) (cwV 1 hts (pj_gV m_142 m_143 m_144 m_21 m_145) rfl rfl rfl (by decide +kernel) ⟨Nat.le_of_ble_eq_true rfl, Nat.le_of_ble_eq_true rfl⟩) pj_no_ok trivial hK hP hD hS hA (ci := 0) (q0 := 0) rfl rfl [0, 1, 2] rfl rfl rfl hl.1 rfl (Nat.le_of_ble_eq_true rfl) dA_wouldOverdraw_2 ⟨Nat.le_of_ble_eq_true rfl, Nat.le_of_ble_eq_true rfl⟩ rfl ?_
    refine lv_if_eq (tgt := 21) hx hb dA_wouldOverdraw_5 (by decide) (fun h9 => absurd h9 (by decide)) (fun _ => ?_)
    refine lv_aload_n hx hb dA_wouldOverdraw_8 rfl (lv_at hl 0 rfl) ?_
    refine va_get (D := D) (ci := 0) (v := .ref p1) (C := "ReplayJournal$Accounts") (T := TA) (N := 2) hx hb hts (pj_ups inA) hown hK hP 0 rfl rfl 0 (by decide) (hts _ (pj_up m_50)) (fun _ h9 => h9) rfl dA_wouldOverdraw_9 ?_
    refine lv_iload_n hx hb dA_wouldOverdraw_12 rfl (lv_at hl 1 rfl) ?_
    refine va_lald hx hb hK hP 1 1 rfl rfl (pjH_in hn hx1) dA_wouldOverdraw_13 ?_
    refine lv_lload_n hx hb dA_wouldOverdraw_14 rfl (lv_at hl 3 rfl) ?_
    refine lv_lsub hx hb dA_wouldOverdraw_15 ?_
    refine lv_lconst (v := 0) hx hb dA_wouldOverdraw_16 (by decide) ?_
    refine W.lcmp hx hb dA_wouldOverdraw_17 ?_
    refine lv_if_lt (tgt := 42) hx hb dA_wouldOverdraw_18 (by decide) (fun c1 => ?_) (fun c1 => ?_)
    · refine lv_iconst (v := 1) hx hb dA_wouldOverdraw_42 (by decide) ?_
      refine lv_goto (tgt := 47) hx hb dA_wouldOverdraw_43 (by decide) ?_
      exact pp_zret hx hb hr hlocks ((if_pos (Or.inl ⟨hx1, (lg_cmp_lt _ _).mp c1⟩)).symm) (by split <;> decide) dA_wouldOverdraw_47
    · refine lv_aload_n hx hb dA_wouldOverdraw_21 rfl (lv_at hl 0 rfl) ?_
      refine lv_iload_n hx hb dA_wouldOverdraw_22 rfl (lv_at hl 2 rfl) ?_
      by_cases hy : pjH n y
      · refine pp_callV (rest := []) (st1 := [.int 1]) ⟨hx, hb, hml, hown, hts⟩ (c_has_t l D cI cJ cZ o p1 q1 n f g hn y hy) (cwV 1 hts (pj_gV m_142 m_143 m_144 m_21 m_145) rfl rfl rfl (by decide +kernel) ⟨Nat.le_of_ble_eq_true rfl, Nat.le_of_ble_eq_true rfl⟩) pj_no_ok trivial hK hP hD hS hA (ci := 0) (q0 := 0) rfl rfl [0, 1, 2] rfl rfl rfl hl.1 rfl (Nat.le_of_ble_eq_true rfl) dA_wouldOverdraw_23 ⟨Nat.le_of_ble_eq_true rfl, Nat.le_of_ble_eq_true rfl⟩ rfl ?_
        refine lv_if_eq (tgt := 46) hx hb dA_wouldOverdraw_26 (by decide) (fun h9 => absurd h9 (by decide)) (fun _ => ?_)
        refine lv_aload_n hx hb dA_wouldOverdraw_29 rfl (lv_at hl 0 rfl) ?_
        refine va_get (D := D) (ci := 0) (v := .ref p1) (C := "ReplayJournal$Accounts") (T := TA) (N := 2) hx hb hts (pj_ups inA) hown hK hP 0 rfl rfl 0 (by decide) (hts _ (pj_up m_50)) (fun _ h9 => h9) rfl dA_wouldOverdraw_30 ?_
        refine lv_iload_n hx hb dA_wouldOverdraw_33 rfl (lv_at hl 2 rfl) ?_
        refine va_lald hx hb hK hP 1 1 rfl rfl (pjH_in hn hy) dA_wouldOverdraw_34 ?_
        refine lv_lload_n hx hb dA_wouldOverdraw_35 rfl (lv_at hl 3 rfl) ?_
        refine lv_ladd hx hb dA_wouldOverdraw_36 ?_
        refine lv_lconst (v := 0) hx hb dA_wouldOverdraw_37 (by decide) ?_
        refine W.lcmp hx hb dA_wouldOverdraw_38 ?_
        refine lv_if_ge (tgt := 46) hx hb dA_wouldOverdraw_39 (by decide) (fun c2 => ?_) (fun c2 => ?_)
        · refine lv_iconst (v := 0) hx hb dA_wouldOverdraw_46 (by decide) ?_
          exact pp_zret hx hb hr hlocks ((if_neg (fun h => h.elim (fun h => c1 ((lg_cmp_lt _ _).mpr h.2)) (fun h => absurd h.2 (Int64.not_lt.mpr ((lg_cmp_ge _ _).mp c2))))).symm) (by split <;> decide) dA_wouldOverdraw_47
        · refine lv_iconst (v := 1) hx hb dA_wouldOverdraw_42 (by decide) ?_
          refine lv_goto (tgt := 47) hx hb dA_wouldOverdraw_43 (by decide) ?_
          exact pp_zret hx hb hr hlocks ((if_pos (Or.inr ⟨hy, Int64.not_le.mp (fun z => c2 ((lg_cmp_ge _ _).mpr z))⟩)).symm) (by split <;> decide) dA_wouldOverdraw_47
      · refine pp_callV (rest := []) (st1 := [.int 0]) ⟨hx, hb, hml, hown, hts⟩ (c_has_f l D cI cJ cZ o p1 q1 n f g hn y hy) (cwV 1 hts (pj_gV m_142 m_143 m_144 m_21 m_145) rfl rfl rfl (by decide +kernel) ⟨Nat.le_of_ble_eq_true rfl, Nat.le_of_ble_eq_true rfl⟩) pj_no_ok trivial hK hP hD hS hA (ci := 0) (q0 := 0) rfl rfl [0, 1, 2] rfl rfl rfl hl.1 rfl (Nat.le_of_ble_eq_true rfl) dA_wouldOverdraw_23 ⟨Nat.le_of_ble_eq_true rfl, Nat.le_of_ble_eq_true rfl⟩ rfl ?_
        refine lv_if_eq (tgt := 46) hx hb dA_wouldOverdraw_26 (by decide) (fun _ => ?_) (fun h9 => (h9 rfl).elim)
        refine lv_iconst (v := 0) hx hb dA_wouldOverdraw_46 (by decide) ?_
        exact pp_zret hx hb hr hlocks ((if_neg (fun h => h.elim (fun h => c1 ((lg_cmp_lt _ _).mpr h.2)) (fun h => absurd h.1 hy))).symm) (by split <;> decide) dA_wouldOverdraw_47
  · refine pp_callV (rest := []) (st1 := [.int 0]) ⟨hx, hb, hml, hown, hts⟩ (c_has_f l D cI cJ cZ o p1 q1 n f g hn x hx1) (cwV 1 hts (pj_gV m_142 m_143 m_144 m_21 m_145) rfl rfl rfl (by decide +kernel) ⟨Nat.le_of_ble_eq_true rfl, Nat.le_of_ble_eq_true rfl⟩) pj_no_ok trivial hK hP hD hS hA (ci := 0) (q0 := 0) rfl rfl [0, 1, 2] rfl rfl rfl hl.1 rfl (Nat.le_of_ble_eq_true rfl) dA_wouldOverdraw_2 ⟨Nat.le_of_ble_eq_true rfl, Nat.le_of_ble_eq_true rfl⟩ rfl ?_
    refine lv_if_eq (tgt := 21) hx hb dA_wouldOverdraw_5 (by decide) (fun _ => ?_) (fun h9 => (h9 rfl).elim)
    refine lv_aload_n hx hb dA_wouldOverdraw_21 rfl (lv_at hl 0 rfl) ?_
    refine lv_iload_n hx hb dA_wouldOverdraw_22 rfl (lv_at hl 2 rfl) ?_
    by_cases hy : pjH n y
    · refine pp_callV (rest := []) (st1 := [.int 1]) ⟨hx, hb, hml, hown, hts⟩ (c_has_t l D cI cJ cZ o p1 q1 n f g hn y hy) (cwV 1 hts (pj_gV m_142 m_143 m_144 m_21 m_145) rfl rfl rfl (by decide +kernel) ⟨Nat.le_of_ble_eq_true rfl, Nat.le_of_ble_eq_true rfl⟩) pj_no_ok trivial hK hP hD hS hA (ci := 0) (q0 := 0) rfl rfl [0, 1, 2] rfl rfl rfl hl.1 rfl (Nat.le_of_ble_eq_true rfl) dA_wouldOverdraw_23 ⟨Nat.le_of_ble_eq_true rfl, Nat.le_of_ble_eq_true rfl⟩ rfl ?_
      refine lv_if_eq (tgt := 46) hx hb dA_wouldOverdraw_26 (by decide) (fun h9 => absurd h9 (by decide)) (fun _ => ?_)
      refine lv_aload_n hx hb dA_wouldOverdraw_29 rfl (lv_at hl 0 rfl) ?_
      refine va_get (D := D) (ci := 0) (v := .ref p1) (C := "ReplayJournal$Accounts") (T := TA) (N := 2) hx hb hts (pj_ups inA) hown hK hP 0 rfl rfl 0 (by decide) (hts _ (pj_up m_50)) (fun _ h9 => h9) rfl dA_wouldOverdraw_30 ?_
      refine lv_iload_n hx hb dA_wouldOverdraw_33 rfl (lv_at hl 2 rfl) ?_
      refine va_lald hx hb hK hP 1 1 rfl rfl (pjH_in hn hy) dA_wouldOverdraw_34 ?_
      refine lv_lload_n hx hb dA_wouldOverdraw_35 rfl (lv_at hl 3 rfl) ?_
      refine lv_ladd hx hb dA_wouldOverdraw_36 ?_
      refine lv_lconst (v := 0) hx hb dA_wouldOverdraw_37 (by decide) ?_
      refine W.lcmp hx hb dA_wouldOverdraw_38 ?_
      refine lv_if_ge (tgt := 46) hx hb dA_wouldOverdraw_39 (by decide) (fun c2 => ?_) (fun c2 => ?_)
      · refine lv_iconst (v := 0) hx hb dA_wouldOverdraw_46 (by decide) ?_
        exact pp_zret hx hb hr hlocks ((if_neg (fun h => h.elim (fun h => absurd h.1 hx1) (fun h => absurd h.2 (Int64.not_lt.mpr ((lg_cmp_ge _ _).mp c2))))).symm) (by split <;> decide) dA_wouldOverdraw_47
      · refine lv_iconst (v := 1) hx hb dA_wouldOverdraw_42 (by decide) ?_
        refine lv_goto (tgt := 47) hx hb dA_wouldOverdraw_43 (by decide) ?_
        exact pp_zret hx hb hr hlocks ((if_pos (Or.inr ⟨hy, Int64.not_le.mp (fun z => c2 ((lg_cmp_ge _ _).mpr z))⟩)).symm) (by split <;> decide) dA_wouldOverdraw_47
    · refine pp_callV (rest := []) (st1 := [.int 0]) ⟨hx, hb, hml, hown, hts⟩ (c_has_f l D cI cJ cZ o p1 q1 n f g hn y hy) (cwV 1 hts (pj_gV m_142 m_143 m_144 m_21 m_145) rfl rfl rfl (by decide +kernel) ⟨Nat.le_of_ble_eq_true rfl, Nat.le_of_ble_eq_true rfl⟩) pj_no_ok trivial hK hP hD hS hA (ci := 0) (q0 := 0) rfl rfl [0, 1, 2] rfl rfl rfl hl.1 rfl (Nat.le_of_ble_eq_true rfl) dA_wouldOverdraw_23 ⟨Nat.le_of_ble_eq_true rfl, Nat.le_of_ble_eq_true rfl⟩ rfl ?_
      refine lv_if_eq (tgt := 46) hx hb dA_wouldOverdraw_26 (by decide) (fun _ => ?_) (fun h9 => (h9 rfl).elim)
      refine lv_iconst (v := 0) hx hb dA_wouldOverdraw_46 (by decide) ?_
      exact pp_zret hx hb hr hlocks ((if_neg (fun h => h.elim (fun h => absurd h.1 hx1) (fun h => absurd h.1 hy))).symm) (by split <;> decide) dA_wouldOverdraw_47
theorem c_over_t (l : Launch) (D : va_G) (cI cJ cZ : ClassId) (o p1 q1 n : Nat) (f : Nat → Int64) (g : Nat → Int32) (hn : n < 2 ^ 31) (x y : Int32) (v : Int64) (h : pjO n f x y v) : pp_Met l yA_wouldOverdraw wsA_wouldOverdraw ({ frames := 1, cells := 0, slots := 0, locals := 21 }) D vwCl (pjT cI cJ cZ) pj_no [.ref o, .int x, .int y, .long v] [(o, .inr (0, [.ref p1, .ref q1])), (p1, .inl (cJ, n, .inr (.inl f))), (q1, .inl (cI, n, .inl g))] (some (.int 1)) := by
  have h1 := c_over l D cI cJ cZ o p1 q1 n f g hn x y v
  rw [if_pos h] at h1
  exact h1
theorem c_over_f (l : Launch) (D : va_G) (cI cJ cZ : ClassId) (o p1 q1 n : Nat) (f : Nat → Int64) (g : Nat → Int32) (hn : n < 2 ^ 31) (x y : Int32) (v : Int64) (h : ¬ pjO n f x y v) : pp_Met l yA_wouldOverdraw wsA_wouldOverdraw ({ frames := 1, cells := 0, slots := 0, locals := 21 }) D vwCl (pjT cI cJ cZ) pj_no [.ref o, .int x, .int y, .long v] [(o, .inr (0, [.ref p1, .ref q1])), (p1, .inl (cJ, n, .inr (.inl f))), (q1, .inl (cI, n, .inl g))] (some (.int 0)) := by
  have h1 := c_over l D cI cJ cZ o p1 q1 n f g hn x y v
  rw [if_neg h] at h1
  exact h1
set_option maxHeartbeats 4000000 in
set_option maxRecDepth 100000 in
theorem c_one_t (l : Launch) (D : va_G) (cI cJ cZ : ClassId) (o p1 q1 n : Nat) (f : Nat → Int64) (g : Nat → Int32) (hn : n < 2 ^ 31) (x : Int32) (v : Int64) (h : pjH n x) : pj_Met l yA_changeOne wsA_changeOne ({ frames := 1, cells := 0, slots := 0, locals := 21 }) D vwCl (pjT cI cJ cZ) pj_no [.ref o, .int x, .long v] [(o, .inr (0, [.ref p1, .ref q1])), (p1, .inl (cJ, n, .inr (.inl f))), (q1, .inl (cI, n, .inl g))] none [(o, .inr (0, [.ref p1, .ref q1])), (p1, .inl (cJ, n, .inr (.inl (vp_updL f x.toNatClampNeg (f x.toNatClampNeg + v))))), (q1, .inl (cI, n, .inl (upd g x.toNatClampNeg (g x.toNatClampNeg + 1))))] 0 0 := by
  refine pj_of (by decide) rfl (Nat.le_of_ble_eq_true rfl) ?_
  intro p e s m below meth c A ls hx hb hml hr hts hown hlocks hin hA hK hP hD hS hG hl
  have hl : lv_has ls 4 [(0, .ref o), (1, .int x), (2, .long v)] := hl
  refine lv_aload_n hx hb dA_changeOne_0 rfl (lv_at hl 0 rfl) ?_
  refine lv_iload_n hx hb dA_changeOne_1 rfl (lv_at hl 1 rfl) ?_
  refine pp_callV (rest := []) (st1 := [.int 1]) ⟨hx, hb, hml, hown, hts⟩ (c_has_t l D cI cJ cZ o p1 q1 n f g hn x h) (cwV 1 hts (pj_gV m_142 m_143 m_144 m_21 m_145) rfl rfl rfl (by decide +kernel) ⟨Nat.le_of_ble_eq_true rfl, Nat.le_of_ble_eq_true rfl⟩) pj_no_ok trivial hK hP hD hS hA (ci := 0) (q0 := 0) rfl rfl [0, 1, 2] rfl rfl rfl hl.1 rfl (Nat.le_of_ble_eq_true rfl) dA_changeOne_2 ⟨Nat.le_of_ble_eq_true rfl, Nat.le_of_ble_eq_true rfl⟩ rfl ?_
  refine lv_if_eq (tgt := 28) hx hb dA_changeOne_5 (by decide) (fun h9 => absurd h9 (by decide)) (fun _ => ?_)
  refine lv_aload_n hx hb dA_changeOne_8 rfl (lv_at hl 0 rfl) ?_
  refine va_get (D := D) (ci := 0) (v := .ref p1) (C := "ReplayJournal$Accounts") (T := TA) (N := 2) hx hb hts (pj_ups inA) hown hK hP 0 rfl rfl 0 (by decide) (hts _ (pj_up m_50)) (fun _ h9 => h9) rfl dA_changeOne_9 ?_
  refine lv_iload_n hx hb dA_changeOne_12 rfl (lv_at hl 1 rfl) ?_
  refine lv_dup2_11 hx hb dA_changeOne_13 rfl rfl ?_
  refine va_lald hx hb hK hP 1 1 rfl rfl (pjH_in hn h) dA_changeOne_14 ?_
  refine lv_lload_n hx hb dA_changeOne_15 rfl (lv_at hl 2 rfl) ?_
  refine lv_ladd hx hb dA_changeOne_16 ?_
  refine va_last hx hb hK hP hD hS 1 1 rfl rfl (pjH_in hn h) dA_changeOne_17 (fun H locs hP hD hS => ?_)
  have hP : va_P D vwCl [(o, .inr (0, [.ref p1, .ref q1])), (p1, .inl (cJ, n, .inr (.inl (vp_updL f x.toNatClampNeg ((f x.toNatClampNeg) + v))))), (q1, .inl (cI, n, .inl g))] H := hP
  have hD : va_D A [(o, .inr (0, [.ref p1, .ref q1])), (p1, .inl (cJ, n, .inr (.inl (vp_updL f x.toNatClampNeg ((f x.toNatClampNeg) + v))))), (q1, .inl (cI, n, .inl g))] := hD
  refine lv_aload_n hx hb dA_changeOne_18 rfl (lv_at hl 0 rfl) ?_
  refine va_get (D := D) (ci := 0) (v := .ref q1) (C := "ReplayJournal$Accounts") (T := TA) (N := 2) hx hb hts (pj_ups inA) hown hK hP 0 rfl rfl 1 (by decide) (hts _ (pj_up m_51)) (fun _ h9 => h9) rfl dA_changeOne_19 ?_
  refine lv_iload_n hx hb dA_changeOne_22 rfl (lv_at hl 1 rfl) ?_
  refine lv_dup2_11 hx hb dA_changeOne_23 rfl rfl ?_
  refine va_iald hx hb hK hP 2 0 rfl rfl (pjH_in hn h) dA_changeOne_24 ?_
  refine lv_iconst (v := 1) hx hb dA_changeOne_25 (by decide) ?_
  refine lv_iadd hx hb dA_changeOne_26 ?_
  refine va_iast hx hb hK hP hD hS 2 0 rfl rfl (pjH_in hn h) dA_changeOne_27 (fun H locs hP hD hS => ?_)
  have hP : va_P D vwCl [(o, .inr (0, [.ref p1, .ref q1])), (p1, .inl (cJ, n, .inr (.inl (vp_updL f x.toNatClampNeg ((f x.toNatClampNeg) + v))))), (q1, .inl (cI, n, .inl (upd g x.toNatClampNeg ((g x.toNatClampNeg) + 1))))] H := hP
  have hD : va_D A [(o, .inr (0, [.ref p1, .ref q1])), (p1, .inl (cJ, n, .inr (.inl (vp_updL f x.toNatClampNeg ((f x.toNatClampNeg) + v))))), (q1, .inl (cI, n, .inl (upd g x.toNatClampNeg ((g x.toNatClampNeg) + 1))))] := hD
  exact pj_vret hx hb hr hlocks hP hD hS (rfl) dA_changeOne_28
set_option maxHeartbeats 4000000 in
set_option maxRecDepth 100000 in
theorem c_one_f (l : Launch) (D : va_G) (cI cJ cZ : ClassId) (o p1 q1 n : Nat) (f : Nat → Int64) (g : Nat → Int32) (hn : n < 2 ^ 31) (x : Int32) (v : Int64) (h : ¬ pjH n x) : pj_Met l yA_changeOne wsA_changeOne ({ frames := 1, cells := 0, slots := 0, locals := 21 }) D vwCl (pjT cI cJ cZ) pj_no [.ref o, .int x, .long v] [(o, .inr (0, [.ref p1, .ref q1])), (p1, .inl (cJ, n, .inr (.inl f))), (q1, .inl (cI, n, .inl g))] none [(o, .inr (0, [.ref p1, .ref q1])), (p1, .inl (cJ, n, .inr (.inl f))), (q1, .inl (cI, n, .inl g))] 0 0 := by
  refine pj_of (by decide) rfl (Nat.le_of_ble_eq_true rfl) ?_
  intro p e s m below meth c A ls hx hb hml hr hts hown hlocks hin hA hK hP hD hS hG hl
  have hl : lv_has ls 4 [(0, .ref o), (1, .int x), (2, .long v)] := hl
  refine lv_aload_n hx hb dA_changeOne_0 rfl (lv_at hl 0 rfl) ?_
  refine lv_iload_n hx hb dA_changeOne_1 rfl (lv_at hl 1 rfl) ?_
  refine pp_callV (rest := []) (st1 := [.int 0]) ⟨hx, hb, hml, hown, hts⟩ (c_has_f l D cI cJ cZ o p1 q1 n f g hn x h) (cwV 1 hts (pj_gV m_142 m_143 m_144 m_21 m_145) rfl rfl rfl (by decide +kernel) ⟨Nat.le_of_ble_eq_true rfl, Nat.le_of_ble_eq_true rfl⟩) pj_no_ok trivial hK hP hD hS hA (ci := 0) (q0 := 0) rfl rfl [0, 1, 2] rfl rfl rfl hl.1 rfl (Nat.le_of_ble_eq_true rfl) dA_changeOne_2 ⟨Nat.le_of_ble_eq_true rfl, Nat.le_of_ble_eq_true rfl⟩ rfl ?_
  refine lv_if_eq (tgt := 28) hx hb dA_changeOne_5 (by decide) (fun _ => ?_) (fun h9 => (h9 rfl).elim)
  exact pj_vret hx hb hr hlocks hP hD hS (rfl) dA_changeOne_28
theorem c_one (l : Launch) (D : va_G) (cI cJ cZ : ClassId) (o p1 q1 n : Nat) (f : Nat → Int64) (g : Nat → Int32) (hn : n < 2 ^ 31) (x : Int32) (v : Int64) : pj_Met l yA_changeOne wsA_changeOne ({ frames := 1, cells := 0, slots := 0, locals := 21 }) D vwCl (pjT cI cJ cZ) pj_no [.ref o, .int x, .long v] [(o, .inr (0, [.ref p1, .ref q1])), (p1, .inl (cJ, n, .inr (.inl f))), (q1, .inl (cI, n, .inl g))] none [(o, .inr (0, [.ref p1, .ref q1])), (p1, .inl (cJ, n, .inr (.inl (pj1 n f x v)))), (q1, .inl (cI, n, .inl (pj1c n g x)))] 0 0 := by
  by_cases h : pjH n x
  · rw [pj1, pj1c, if_pos h, if_pos h]
    exact c_one_t l D cI cJ cZ o p1 q1 n f g hn x v h
  · rw [pj1, pj1c, if_neg h, if_neg h]
    exact c_one_f l D cI cJ cZ o p1 q1 n f g hn x v h
set_option maxHeartbeats 4000000 in
set_option maxRecDepth 100000 in
theorem c_apply (l : Launch) (D : va_G) (cI cJ cZ : ClassId) (o p1 q1 n : Nat) (f : Nat → Int64) (g : Nat → Int32) (hn : n < 2 ^ 31) (x y : Int32) (v : Int64) : pj_Met l yA_apply wsA_apply ({ frames := 2, cells := 0, slots := 0, locals := 44 }) D vwCl (pjT cI cJ cZ) pj_no [.ref o, .int x, .int y, .long v] [(o, .inr (0, [.ref p1, .ref q1])), (p1, .inl (cJ, n, .inr (.inl f))), (q1, .inl (cI, n, .inl g))] none [(o, .inr (0, [.ref p1, .ref q1])), (p1, .inl (cJ, n, .inr (.inl (pj2 n f x y v)))), (q1, .inl (cI, n, .inl (pj2c n g x y)))] 0 0 := by
  refine pj_of (by decide) rfl (Nat.le_of_ble_eq_true rfl) ?_
  intro p e s m below meth c A ls hx hb hml hr hts hown hlocks hin hA hK hP hD hS hG hl
  have hl : lv_has ls 5 [(0, .ref o), (1, .int x), (2, .int y), (3, .long v)] := hl
  refine lv_aload_n hx hb dA_apply_0 rfl (lv_at hl 0 rfl) ?_
  refine lv_iload_n hx hb dA_apply_1 rfl (lv_at hl 1 rfl) ?_
  refine lv_lload_n hx hb dA_apply_2 rfl (lv_at hl 3 rfl) ?_
  refine lv_lneg hx hb dA_apply_3 ?_
  refine pj_callV (w2 := [(o, .inr (0, [.ref p1, .ref q1])), (p1, .inl (cJ, n, .inr (.inl (pj1 n f x (-v))))), (q1, .inl (cI, n, .inl (pj1c n g x)))]) (wr := []) (rest := []) (st1 := []) ⟨hx, hb, hml, hown, hts⟩ (c_one l D cI cJ cZ o p1 q1 n f g hn x (-v)) (cwV 2 hts (pj_gV m_138 m_140 m_0 m_21 m_141) rfl rfl rfl (by decide +kernel) ⟨Nat.le_of_ble_eq_true rfl, Nat.le_of_ble_eq_true rfl⟩) pj_no_ok trivial hK hP hD hS hA (ci := 0) (q0 := 0) rfl rfl [0, 1, 2] [] [0, 1, 2] rfl rfl rfl rfl (by decide) rfl rfl rfl hl.1 rfl (Nat.le_of_ble_eq_true rfl) dA_apply_4 ⟨Nat.le_of_ble_eq_true rfl, Nat.le_of_ble_eq_true rfl⟩ rfl rfl rfl (fun H locs hP hD hS => ?_)
  refine lv_aload_n hx hb dA_apply_7 rfl (lv_at hl 0 rfl) ?_
  refine lv_iload_n hx hb dA_apply_8 rfl (lv_at hl 2 rfl) ?_
  refine lv_lload_n hx hb dA_apply_9 rfl (lv_at hl 3 rfl) ?_
  refine pj_callV (w2 := [(o, .inr (0, [.ref p1, .ref q1])), (p1, .inl (cJ, n, .inr (.inl (pj1 n (pj1 n f x (-v)) y v)))), (q1, .inl (cI, n, .inl (pj1c n (pj1c n g x) y)))]) (wr := []) (rest := []) (st1 := []) ⟨hx, hb, hml, hown, hts⟩ (c_one l D cI cJ cZ o p1 q1 n (pj1 n f x (-v)) (pj1c n g x) hn y v) (cwV 2 hts (pj_gV m_138 m_140 m_0 m_21 m_141) rfl rfl rfl (by decide +kernel) ⟨Nat.le_of_ble_eq_true rfl, Nat.le_of_ble_eq_true rfl⟩) pj_no_ok trivial hK hP hD hS hA (ci := 0) (q0 := 0) rfl rfl [0, 1, 2] [] [0, 1, 2] rfl rfl rfl rfl (by decide) rfl rfl rfl hl.1 rfl (Nat.le_of_ble_eq_true rfl) dA_apply_10 ⟨Nat.le_of_ble_eq_true rfl, Nat.le_of_ble_eq_true rfl⟩ rfl rfl rfl (fun H locs hP hD hS => ?_)
  exact pj_vret hx hb hr hlocks hP hD hS (rfl) dA_apply_13
