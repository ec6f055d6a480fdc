/-! THE LAW'S SCRIPT -/
def pc_X (b L : Nat) (xs : Nat → Int32) (A : Nat → Prop) (U : State) : Prop := va_X b L xs U U.heap ∧ b < U.heap.size ∧ ¬ A b
theorem pc_X_ok {b L : Nat} {xs : Nat → Int32} : pj_G (pc_X b L xs) :=
  ⟨fun A U g mk a h => ⟨h.1.moved (Vm.Alike.refl U.vm), h.2⟩, fun A B s U H locs hU hW hS hAB h => by
    subst hU
    exact ⟨(h.1.moved hW.alike).kept (hS.2.1 b h.2.1 h.2.2), Nat.lt_of_lt_of_le h.2.1 hS.1, fun q => h.2.2 (hAB b q)⟩⟩
def pcV (L : Nat) (xs : Nat → Int32) (k : Int32) : Int32 := if nI L ≤ k then 0 else xs k.toNatClampNeg
set_option maxHeartbeats 4000000 in
theorem c_cell (l : Launch) (D : va_G) (cI cJ cZ : ClassId) (b L : Nat) (xs : Nat → Int32) (hL : L ≤ 2562) (k : Int32) (hk : ¬ k < 0) : pp_Met l yL_cell wsL_cell ({ frames := 0, cells := 0, slots := 0, locals := 0 }) D vwCl (pjT cI cJ cZ) (pc_X b L xs) [.ref b, .int k] [] (some (.int (pcV L xs k))) := by
  refine pp_of (by decide) rfl (Nat.le_of_ble_eq_true rfl) ?_
  intro p e s m below meth c A ls hx hb hml hr hts hown hlocks hA hK hP hD hS hG hl
  have hl : lv_has ls 2 [(0, .ref b), (1, .int k)] := hl
  refine lv_iload_n hx hb dL_cell_0 rfl (lv_at hl 1 rfl) ?_
  refine lv_aload_n hx hb dL_cell_1 rfl (lv_at hl 0 rfl) ?_
  refine va_slen hx hb hG.1 hG.2.1 hG.2.2 hS dL_cell_2 ?_
  refine lv_icmp_ge (tgt := 12) hx hb dL_cell_3 (by decide) (fun h => ?_) (fun h => ?_)
  · refine lv_iconst (v := 0) hx hb dL_cell_12 (by decide) ?_
    exact pp_iret hx hb hr hlocks (if_pos h).symm dL_cell_13
  · refine lv_aload_n hx hb dL_cell_6 rfl (lv_at hl 0 rfl) ?_
    refine lv_iload_n hx hb dL_cell_7 rfl (lv_at hl 1 rfl) ?_
    have hin : vp_in k L := by
      rw [vp_in_iff]
      have h : ¬ nI L ≤ k := h
      rw [Int32.lt_iff_toInt_lt, Int32.toInt_zero] at hk
      rw [Int32.le_iff_toInt_le, nI_toInt (by omega)] at h
      omega
    refine va_sld hx hb hG.1 hG.2.1 hG.2.2 hS hin dL_cell_8 ?_
    refine lv_goto (tgt := 13) hx hb dL_cell_9 (by decide) ?_
    exact pp_iret hx hb hr hlocks (if_neg h).symm dL_cell_13
theorem z_in {i k L : Nat} (h : i + k < L) (hL : L ≤ 2562) : vp_in (nI i + nI k) L := by
  rw [nI_add, vp_in_iff, nI_toInt (by omega)]
  omega
theorem z_in0 {i L : Nat} (h : i < L) (hL : L ≤ 2562) : vp_in (nI i) L := by
  rw [vp_in_iff, nI_toInt (by omega)]
  omega
theorem z_cmp (x : Int64) : lg_cmp x x = 0 := by
  simp [lg_cmp]
theorem z_tc : (0 : Int32).toNatClampNeg = 0 := by decide
theorem z_end {i L : Nat} (hi : i ≤ 5000) (hL : L ≤ 2562) : nI L - 5 < nI i ↔ ¬ i + 5 ≤ L := by
  have h5 : (5 : Int32).toInt = 5 := by decide
  rw [Int32.lt_iff_toInt_lt, Int32.toInt_sub, nI_toInt (by omega), nI_toInt (by omega), h5, Int.bmod_eq_of_le (by omega) (by omega)]
  omega
theorem z_and (x : Int32) : 0 ≤ (x &&& 15).toInt ∧ (x &&& 15).toInt ≤ 15 := by
  have h : ∀ y : BitVec 32, (y &&& 15#32).toNat ≤ 15 := fun y => by
    rw [BitVec.toNat_and]
    exact Nat.and_le_right
  have h1 := h x.toBitVec
  have e : (x &&& 15).toInt = ((x.toBitVec &&& 15#32).toNat : Int) := by
    show (x.toBitVec &&& 15#32).toInt = _
    rw [BitVec.toInt_eq_toNat_of_lt (by omega)]
  rw [e]
  omega
