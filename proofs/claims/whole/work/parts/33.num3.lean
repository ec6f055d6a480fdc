def pjA (x : Int32) : Nat := if x < 1 then 1 else if 64 < x then 64 else x.toNatClampNeg
def pjJ (x : Int32) : Nat := if x < 4 then 4 else if 60 < x then 60 else x.toNatClampNeg
theorem pj_tcn {x : Int32} (h : ¬ x < 0) : nI x.toNatClampNeg = x := by
  obtain ⟨j, hj, rfl⟩ := nI_of h
  rw [nI_clamp hj]
theorem pjA_1 {x : Int32} (h : x < 1) : nI (pjA x) = 1 := by rw [pjA, if_pos h]; rfl
theorem pjA_2 {x : Int32} (h : ¬ x < 1) (h2 : 64 < x) : nI (pjA x) = 64 := by rw [pjA, if_neg h, if_pos h2]; rfl
theorem pjA_3 {x : Int32} (h : ¬ x < 1) (h2 : ¬ 64 < x) : nI (pjA x) = x := by
  rw [pjA, if_neg h, if_neg h2]
  exact pj_tcn (fun q => h (by rw [Int32.lt_iff_toInt_lt] at q ⊢; rw [Int32.toInt_zero] at q; have : (1 : Int32).toInt = 1 := (by decide); omega))
theorem pjJ_1 {x : Int32} (h : x < 4) : nI (pjJ x) = 4 := by rw [pjJ, if_pos h]; rfl
theorem pjJ_2 {x : Int32} (h : ¬ x < 4) (h2 : 60 < x) : nI (pjJ x) = 60 := by rw [pjJ, if_neg h, if_pos h2]; rfl
theorem pjJ_3 {x : Int32} (h : ¬ x < 4) (h2 : ¬ 60 < x) : nI (pjJ x) = x := by
  rw [pjJ, if_neg h, if_neg h2]
  exact pj_tcn (fun q => h (by rw [Int32.lt_iff_toInt_lt] at q ⊢; rw [Int32.toInt_zero] at q; have : (4 : Int32).toInt = 4 := (by decide); omega))
theorem pjA_in (x : Int32) : 1 ≤ pjA x ∧ pjA x ≤ 64 := by
  have i1 : (1 : Int32).toInt = 1 := by decide
  have i2 : (64 : Int32).toInt = 64 := by decide
  by_cases h : x < 1
  · rw [pjA, if_pos h]; omega
  · by_cases h2 : 64 < x
    · rw [pjA, if_neg h, if_pos h2]; omega
    · have e := pjA_3 h h2
      rw [Int32.lt_iff_toInt_lt] at h h2
      have hn : ¬ x < 0 := by rw [Int32.lt_iff_toInt_lt, Int32.toInt_zero]; omega
      obtain ⟨j, hj, rfl⟩ := nI_of hn
      rw [nI_toInt hj] at h h2
      rw [pjA, if_neg (by rw [Int32.lt_iff_toInt_lt, nI_toInt hj]; omega), if_neg (by rw [Int32.lt_iff_toInt_lt, nI_toInt hj]; omega), nI_clamp hj]
      omega
theorem pjJ_in (x : Int32) : 4 ≤ pjJ x ∧ pjJ x ≤ 60 := by
  have i1 : (4 : Int32).toInt = 4 := by decide
  have i2 : (60 : Int32).toInt = 60 := by decide
  by_cases h : x < 4
  · rw [pjJ, if_pos h]; omega
  · by_cases h2 : 60 < x
    · rw [pjJ, if_neg h, if_pos h2]; omega
    · rw [Int32.lt_iff_toInt_lt] at h h2
      have hn : ¬ x < 0 := by rw [Int32.lt_iff_toInt_lt, Int32.toInt_zero]; omega
      obtain ⟨j, hj, rfl⟩ := nI_of hn
      rw [nI_toInt hj] at h h2
      rw [pjJ, if_neg (by rw [Int32.lt_iff_toInt_lt, nI_toInt hj]; omega), if_neg (by rw [Int32.lt_iff_toInt_lt, nI_toInt hj]; omega), nI_clamp hj]
      omega
theorem pjA_mm (x : Int32) : (if (1 : Int32) < (if x < 64 then x else 64) then (if x < 64 then x else 64) else 1) = nI (pjA x) := by
  have i1 : (1 : Int32).toInt = 1 := by decide
  have i2 : (64 : Int32).toInt = 64 := by decide
  by_cases h : x < 1
  · have h2 : x < 64 := by rw [Int32.lt_iff_toInt_lt] at h ⊢; omega
    rw [pjA_1 h, if_pos h2, if_neg (by rw [Int32.lt_iff_toInt_lt] at h ⊢; omega)]
  · by_cases h2 : 64 < x
    · have h3 : ¬ x < 64 := by rw [Int32.lt_iff_toInt_lt] at h2 ⊢; omega
      rw [pjA_2 h h2, if_neg h3, if_pos (by decide)]
    · rw [pjA_3 h h2]
      by_cases h3 : x < 64
      · rw [if_pos h3]
        by_cases h4 : 1 < x
        · rw [if_pos h4]
        · rw [if_neg h4]
          rw [Int32.lt_iff_toInt_lt] at h h4
          exact Int32.toInt_inj.mp (by omega)
      · rw [if_neg h3, if_pos (by decide)]
        rw [Int32.lt_iff_toInt_lt] at h2 h3
        exact Int32.toInt_inj.mp (by omega)
theorem pjJ_mm (x : Int32) : (if (4 : Int32) < (if x < 60 then x else 60) then (if x < 60 then x else 60) else 4) = nI (pjJ x) := by
  have i1 : (4 : Int32).toInt = 4 := by decide
  have i2 : (60 : Int32).toInt = 60 := by decide
  by_cases h : x < 4
  · have h2 : x < 60 := by rw [Int32.lt_iff_toInt_lt] at h ⊢; omega
    rw [pjJ_1 h, if_pos h2, if_neg (by rw [Int32.lt_iff_toInt_lt] at h ⊢; omega)]
  · by_cases h2 : 60 < x
    · have h3 : ¬ x < 60 := by rw [Int32.lt_iff_toInt_lt] at h2 ⊢; omega
      rw [pjJ_2 h h2, if_neg h3, if_pos (by decide)]
    · rw [pjJ_3 h h2]
      by_cases h3 : x < 60
      · rw [if_pos h3]
        by_cases h4 : 4 < x
        · rw [if_pos h4]
        · rw [if_neg h4]
          rw [Int32.lt_iff_toInt_lt] at h h4
          exact Int32.toInt_inj.mp (by omega)
      · rw [if_neg h3, if_pos (by decide)]
        rw [Int32.lt_iff_toInt_lt] at h2 h3
        exact Int32.toInt_inj.mp (by omega)
