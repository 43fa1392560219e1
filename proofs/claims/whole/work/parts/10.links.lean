/-! ===== fields of a unit whose kind is not known ===== -/
theorem zfu_X10_42 {κ : Nat} (h : κ < 8) : ZF "GrindWorks" 42 (ukc κ) 0 := by
  match κ, h with
  | 0, _ => exact zf_X10_42_1
  | 1, _ => exact zf_X10_42_2
  | 2, _ => exact zf_X10_42_4
  | 3, _ => exact zf_X10_42_5
  | 4, _ => exact zf_X10_42_5
  | 5, _ => exact zf_X10_42_8
  | 6, _ => exact zf_X10_42_6
  | 7, _ => exact zf_X10_42_0
theorem zfu_X10_45 {κ : Nat} (h : κ < 8) : ZF "GrindWorks" 45 (ukc κ) 3 := by
  match κ, h with
  | 0, _ => exact zf_X10_45_1
  | 1, _ => exact zf_X10_45_2
  | 2, _ => exact zf_X10_45_4
  | 3, _ => exact zf_X10_45_5
  | 4, _ => exact zf_X10_45_5
  | 5, _ => exact zf_X10_45_8
  | 6, _ => exact zf_X10_45_6
  | 7, _ => exact zf_X10_45_0
theorem zfu_X10_92 {κ : Nat} (h : κ < 8) : ZF "GrindWorks" 92 (ukc κ) 1 := by
  match κ, h with
  | 0, _ => exact zf_X10_92_1
  | 1, _ => exact zf_X10_92_2
  | 2, _ => exact zf_X10_92_4
  | 3, _ => exact zf_X10_92_5
  | 4, _ => exact zf_X10_92_5
  | 5, _ => exact zf_X10_92_8
  | 6, _ => exact zf_X10_92_6
  | 7, _ => exact zf_X10_92_0
theorem zfu_X10_117 {κ : Nat} (h : κ < 8) : ZF "GrindWorks" 117 (ukc κ) 2 := by
  match κ, h with
  | 0, _ => exact zf_X10_117_1
  | 1, _ => exact zf_X10_117_2
  | 2, _ => exact zf_X10_117_4
  | 3, _ => exact zf_X10_117_5
  | 4, _ => exact zf_X10_117_5
  | 5, _ => exact zf_X10_117_8
  | 6, _ => exact zf_X10_117_6
  | 7, _ => exact zf_X10_117_0
theorem zfu_X10_123 {κ : Nat} (h : κ < 8) : ZF "GrindWorks" 123 (ukc κ) 5 := by
  match κ, h with
  | 0, _ => exact zf_X10_123_1
  | 1, _ => exact zf_X10_123_2
  | 2, _ => exact zf_X10_123_4
  | 3, _ => exact zf_X10_123_5
  | 4, _ => exact zf_X10_123_5
  | 5, _ => exact zf_X10_123_8
  | 6, _ => exact zf_X10_123_6
  | 7, _ => exact zf_X10_123_0
theorem zfu_X10_140 {κ : Nat} (h : κ < 8) : ZF "GrindWorks" 140 (ukc κ) 6 := by
  match κ, h with
  | 0, _ => exact zf_X10_140_1
  | 1, _ => exact zf_X10_140_2
  | 2, _ => exact zf_X10_140_4
  | 3, _ => exact zf_X10_140_5
  | 4, _ => exact zf_X10_140_5
  | 5, _ => exact zf_X10_140_8
  | 6, _ => exact zf_X10_140_6
  | 7, _ => exact zf_X10_140_0
theorem zfu_X10_213 {κ : Nat} (h : κ < 8) : ZF "GrindWorks" 213 (ukc κ) 4 := by
  match κ, h with
  | 0, _ => exact zf_X10_213_1
  | 1, _ => exact zf_X10_213_2
  | 2, _ => exact zf_X10_213_4
  | 3, _ => exact zf_X10_213_5
  | 4, _ => exact zf_X10_213_5
  | 5, _ => exact zf_X10_213_8
  | 6, _ => exact zf_X10_213_6
  | 7, _ => exact zf_X10_213_0
theorem zfu_X9_25 {κ : Nat} (h : κ < 8) : ZF "GrindWorks$Unit" 25 (ukc κ) 3 := by
  match κ, h with
  | 0, _ => exact zf_X9_25_1
  | 1, _ => exact zf_X9_25_2
  | 2, _ => exact zf_X9_25_4
  | 3, _ => exact zf_X9_25_5
  | 4, _ => exact zf_X9_25_5
  | 5, _ => exact zf_X9_25_8
  | 6, _ => exact zf_X9_25_6
  | 7, _ => exact zf_X9_25_0
theorem zfu_X9_42 {κ : Nat} (h : κ < 8) : ZF "GrindWorks$Unit" 42 (ukc κ) 5 := by
  match κ, h with
  | 0, _ => exact zf_X9_42_1
  | 1, _ => exact zf_X9_42_2
  | 2, _ => exact zf_X9_42_4
  | 3, _ => exact zf_X9_42_5
  | 4, _ => exact zf_X9_42_5
  | 5, _ => exact zf_X9_42_8
  | 6, _ => exact zf_X9_42_6
  | 7, _ => exact zf_X9_42_0
theorem zfu_X9_9 {κ : Nat} (h : κ < 8) : ZF "GrindWorks$Unit" 9 (ukc κ) 1 := by
  match κ, h with
  | 0, _ => exact zf_X9_9_1
  | 1, _ => exact zf_X9_9_2
  | 2, _ => exact zf_X9_9_4
  | 3, _ => exact zf_X9_9_5
  | 4, _ => exact zf_X9_9_5
  | 5, _ => exact zf_X9_9_8
  | 6, _ => exact zf_X9_9_6
  | 7, _ => exact zf_X9_9_0
theorem zfu_X9_18 {κ : Nat} (h : κ < 8) : ZF "GrindWorks$Unit" 18 (ukc κ) 0 := by
  match κ, h with
  | 0, _ => exact zf_X9_18_1
  | 1, _ => exact zf_X9_18_2
  | 2, _ => exact zf_X9_18_4
  | 3, _ => exact zf_X9_18_5
  | 4, _ => exact zf_X9_18_5
  | 5, _ => exact zf_X9_18_8
  | 6, _ => exact zf_X9_18_6
  | 7, _ => exact zf_X9_18_0
theorem zfu_X9_36 {κ : Nat} (h : κ < 8) : ZF "GrindWorks$Unit" 36 (ukc κ) 4 := by
  match κ, h with
  | 0, _ => exact zf_X9_36_1
  | 1, _ => exact zf_X9_36_2
  | 2, _ => exact zf_X9_36_4
  | 3, _ => exact zf_X9_36_5
  | 4, _ => exact zf_X9_36_5
  | 5, _ => exact zf_X9_36_8
  | 6, _ => exact zf_X9_36_6
  | 7, _ => exact zf_X9_36_0
theorem zsu_X9_hasPort {κ : Nat} (h : κ < 8) : ∃ q : vw_C, vwCl[ukc κ]? = some q ∧ Cond.selects q.1 yX9_hasPort yX9_hasPort ∈ zTbl := by
  match κ, h with
  | 0, _ => exact ⟨_, rfl, kw_257⟩
  | 1, _ => exact ⟨_, rfl, kw_258⟩
  | 2, _ => exact ⟨_, rfl, kw_259⟩
  | 3, _ => exact ⟨_, rfl, kw_260⟩
  | 4, _ => exact ⟨_, rfl, kw_260⟩
  | 5, _ => exact ⟨_, rfl, kw_262⟩
  | 6, _ => exact ⟨_, rfl, kw_261⟩
  | 7, _ => exact ⟨_, rfl, kw_256⟩
theorem zsu_X9_hasNumber {κ : Nat} (h : κ < 8) : ∃ q : vw_C, vwCl[ukc κ]? = some q ∧ Cond.selects q.1 yX9_hasNumber yX9_hasNumber ∈ zTbl := by
  match κ, h with
  | 0, _ => exact ⟨_, rfl, kw_311⟩
  | 1, _ => exact ⟨_, rfl, kw_312⟩
  | 2, _ => exact ⟨_, rfl, kw_313⟩
  | 3, _ => exact ⟨_, rfl, kw_314⟩
  | 4, _ => exact ⟨_, rfl, kw_314⟩
  | 5, _ => exact ⟨_, rfl, kw_316⟩
  | 6, _ => exact ⟨_, rfl, kw_315⟩
  | 7, _ => exact ⟨_, rfl, kw_310⟩
theorem zsu_X9_change {κ : Nat} (h : κ < 8) : ∃ q : vw_C, vwCl[ukc κ]? = some q ∧ Cond.selects q.1 yX9_change yX9_change ∈ zTbl := by
  match κ, h with
  | 0, _ => exact ⟨_, rfl, kw_275⟩
  | 1, _ => exact ⟨_, rfl, kw_276⟩
  | 2, _ => exact ⟨_, rfl, kw_277⟩
  | 3, _ => exact ⟨_, rfl, kw_278⟩
  | 4, _ => exact ⟨_, rfl, kw_278⟩
  | 5, _ => exact ⟨_, rfl, kw_280⟩
  | 6, _ => exact ⟨_, rfl, kw_279⟩
  | 7, _ => exact ⟨_, rfl, kw_274⟩
theorem zsu_X9_leadOf {κ : Nat} (h : κ < 8) : ∃ q : vw_C, vwCl[ukc κ]? = some q ∧ Cond.selects q.1 yX9_leadOf yX9_leadOf ∈ zTbl := by
  match κ, h with
  | 0, _ => exact ⟨_, rfl, kw_474⟩
  | 1, _ => exact ⟨_, rfl, kw_475⟩
  | 2, _ => exact ⟨_, rfl, kw_476⟩
  | 3, _ => exact ⟨_, rfl, kw_477⟩
  | 4, _ => exact ⟨_, rfl, kw_477⟩
  | 5, _ => exact ⟨_, rfl, kw_479⟩
  | 6, _ => exact ⟨_, rfl, kw_478⟩
  | 7, _ => exact ⟨_, rfl, kw_473⟩
theorem zsu_X9_gaveBy {κ : Nat} (h : κ < 8) : ∃ q : vw_C, vwCl[ukc κ]? = some q ∧ Cond.selects q.1 yX9_gaveBy yX9_gaveBy ∈ zTbl := by
  match κ, h with
  | 0, _ => exact ⟨_, rfl, kw_489⟩
  | 1, _ => exact ⟨_, rfl, kw_490⟩
  | 2, _ => exact ⟨_, rfl, kw_491⟩
  | 3, _ => exact ⟨_, rfl, kw_492⟩
  | 4, _ => exact ⟨_, rfl, kw_492⟩
  | 5, _ => exact ⟨_, rfl, kw_494⟩
  | 6, _ => exact ⟨_, rfl, kw_493⟩
  | 7, _ => exact ⟨_, rfl, kw_488⟩
