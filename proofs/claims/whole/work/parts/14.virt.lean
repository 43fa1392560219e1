/-! ===== calls by a unit's outer kind ===== -/
def vSl (σ : Sg) (i : Nat) : Int32 := if σ.2.2.1 i = 5 then l_sum (fun t => l_sum (σ.1 i (20 + t)) 8) 6 else nI 0
def vLo (σ : Sg) (i : Nat) : Int32 := if σ.2.2.1 i = 6 then l_sum (fun t => l_sum (σ.1 i (40 + t)) 8) 20 else nI 0
def vLc (σ : Sg) (i : Nat) : Int32 := if σ.2.2.1 i = 6 then σ.1 i 8 6 else nI 0
def vSt (σ : Sg) (i s : Nat) : Int32 := if σ.2.2.1 i = 5 then l_sum (fun t => l_sum (fun j => σ.1 i (20 + t) (2 * j + s)) 4) 6 else if σ.2.2.1 i = 6 then l_sum (fun t => l_sum (fun j => σ.1 i (40 + t) (2 * j + s)) 4) 20 else nI 0
/-- a unit gives -/
def cGive (σ : Sg) (i : Nat) : Sg := match σ.2.2.1 i with
  | 0 => cFeed σ i
  | 1 => cJoin σ i
  | 2 => cMill σ i
  | 3 => cPart3 σ i
  | 4 => cPart4 σ i
  | 5 => cTank σ i (tn (σ.1 i 8 4)) (tn (σ.1 i 3 0))
  | 6 => cPile σ i (tn (σ.1 i 8 5)) (tn (σ.1 i 8 6))
  | _ => σ
/-- what a unit takes from row a' of unit i' -/
def cTake (σ : Sg) (i f i' a' : Nat) : Sg := if σ.2.2.1 i = 7 then cTake7 σ i f i' a' else sR σ i 0 (addR (σ.1 i' a') (σ.1 i 0))
/-- what the rows of a tank, a pile keep -/
def GW (σ : Sg) (i : Nat) : Prop := (σ.2.2.1 i = 5 → (∃ T, T < 6 ∧ σ.1 i 8 4 = nI T) ∧ ∃ t, 1 ≤ t ∧ t ≤ 6 ∧ σ.1 i 3 0 = nI t) ∧ (σ.2.2.1 i = 6 → (∃ F, F < 20 ∧ σ.1 i 8 5 = nI F) ∧ ∃ L, L ≤ 20 ∧ σ.1 i 8 6 = nI L)
theorem zncu {κ t : Nat} (h8 : κ < 8) (hne : ¬ κ = t) (T : String) (hT : (t = 0 ∧ T = "GrindWorks$Feed") ∨ (t = 2 ∧ T = "GrindWorks$Mill") ∨ (t = 7 ∧ T = "GrindWorks$End")) : ∃ q : vw_C, vwCl[ukc κ]? = some q ∧ (q.1, T) ∈ zNc := by
  rcases hT with ⟨rfl, rfl⟩ | ⟨rfl, rfl⟩ | ⟨rfl, rfl⟩
  all_goals match κ, h8 with
    | 0, _ => first | exact absurd rfl hne | exact ⟨_, rfl, by decide +kernel⟩
    | 1, _ => exact ⟨_, rfl, by decide +kernel⟩
    | 2, _ => first | exact absurd rfl hne | exact ⟨_, rfl, by decide +kernel⟩
    | 3, _ => exact ⟨_, rfl, by decide +kernel⟩
    | 4, _ => exact ⟨_, rfl, by decide +kernel⟩
    | 5, _ => exact ⟨_, rfl, by decide +kernel⟩
    | 6, _ => exact ⟨_, rfl, by decide +kernel⟩
    | 7, _ => first | exact absurd rfl hne | exact ⟨_, rfl, by decide +kernel⟩
section ZVU
variable {l : Launch} {Ω : OmT} {E : ZE} {cells slots pc : Nat} {lv : List (Nat × Value)} {st : List Value} {cc : ByteArray} {own : String} {ret : Option FieldType} {rm : Room} {nm : String}
theorem z_instNu (C : ZC Ω E cc own ret rm nm) {σ : Sg} {i κ t idx n : Nat} (T : String) (hT : (t = 0 ∧ T = "GrindWorks$Feed") ∨ (t = 2 ∧ T = "GrindWorks$Mill") ∨ (t = 7 ∧ T = "GrindWorks$End")) (hw : KW σ) (hi : i < σ.2.2.2) (hq : σ.2.2.1 i = κ) (hne : ¬ κ = t) (hd : decode cc pc = .ok (.instanceof idx, 3)) (hwd : Cond.classLink own idx T ∈ zTbl) (kk : ZV l Ω E cells slots (pc + 3) lv (.int 0 :: st) (hp Ω σ) n) : ZV l Ω E cells slots pc lv (rfO Ω (bs σ.2.2.1 i) :: st) (hp Ω σ) n := by
  obtain ⟨q, h1, h2⟩ := zncu (κ := κ) (hq ▸ hw.2 i hi) hne T hT
  exact z_instN C hd (hk_0 hi hq) h1 hwd h2 kk
set_option maxHeartbeats 1000000 in
theorem zu_inSlots (C : ZC Ω E cc own ret rm nm) {σ : Sg} {i κ idx : Nat} (hw : KW σ) (hi : i < σ.2.2.2) (hq : σ.2.2.1 i = κ) (hd : decode cc pc = .ok (.invokevirtual idx, 3)) (hwd : Cond.methodLink own idx ⟨"GrindWorks$Unit", "inSlots", "()I"⟩ ∈ zTbl) (hrX8_inSlots : ZRm rm rm_X8_inSlots 1 cells slots) (hrX9_inSlots : ZRm rm rm_X9_inSlots 1 cells slots) (hcat : (st.map fun v => v.category).sum ≤ 8) (kk : ZV l Ω E cells slots (pc + 3) lv (.int (vSl σ i) :: st) (hp Ω σ) (hN σ)) : ZV l Ω E cells slots pc lv (rfO Ω (bs σ.2.2.1 i) :: st) (hp Ω σ) (hN σ) := by
  have h8 : κ < 8 := hq ▸ hw.2 i hi
  match κ, h8 with
  | 0, _ =>
    rw [vSl, if_neg (by rw [hq]; decide)] at kk
    exact z_callU (x := ⟨"GrindWorks$Unit", "inSlots", "()I"⟩) (owner := "GrindWorks$Unit") (cells := cells) (slots := slots) (pc := pc) (st := rfO Ω (bs σ.2.2.1 i) :: st) (rest := st) C hd zy_X9_inSlots (by decide +kernel) hwd kw_419 (va_Decl.of (C.2.2.2.2.1 _ kw_418) (C.2.2.2.2.1 _ kw_431)) kw_418 rfl kw_421 (hk_0 (κ := 0) hi hq) (As := []) (ct_X9_inSlots l Ω _ _ _) rfl rfl hrX9_inSlots hcat kk
  | 1, _ =>
    rw [vSl, if_neg (by rw [hq]; decide)] at kk
    exact z_callU (x := ⟨"GrindWorks$Unit", "inSlots", "()I"⟩) (owner := "GrindWorks$Unit") (cells := cells) (slots := slots) (pc := pc) (st := rfO Ω (bs σ.2.2.1 i) :: st) (rest := st) C hd zy_X9_inSlots (by decide +kernel) hwd kw_419 (va_Decl.of (C.2.2.2.2.1 _ kw_418) (C.2.2.2.2.1 _ kw_431)) kw_418 rfl kw_422 (hk_0 (κ := 1) hi hq) (As := []) (ct_X9_inSlots l Ω _ _ _) rfl rfl hrX9_inSlots hcat kk
  | 2, _ =>
    rw [vSl, if_neg (by rw [hq]; decide)] at kk
    exact z_callU (x := ⟨"GrindWorks$Unit", "inSlots", "()I"⟩) (owner := "GrindWorks$Unit") (cells := cells) (slots := slots) (pc := pc) (st := rfO Ω (bs σ.2.2.1 i) :: st) (rest := st) C hd zy_X9_inSlots (by decide +kernel) hwd kw_419 (va_Decl.of (C.2.2.2.2.1 _ kw_418) (C.2.2.2.2.1 _ kw_431)) kw_418 rfl kw_423 (hk_0 (κ := 2) hi hq) (As := []) (ct_X9_inSlots l Ω _ _ _) rfl rfl hrX9_inSlots hcat kk
  | 3, _ =>
    rw [vSl, if_neg (by rw [hq]; decide)] at kk
    exact z_callU (x := ⟨"GrindWorks$Unit", "inSlots", "()I"⟩) (owner := "GrindWorks$Unit") (cells := cells) (slots := slots) (pc := pc) (st := rfO Ω (bs σ.2.2.1 i) :: st) (rest := st) C hd zy_X9_inSlots (by decide +kernel) hwd kw_419 (va_Decl.of (C.2.2.2.2.1 _ kw_418) (C.2.2.2.2.1 _ kw_431)) kw_418 rfl kw_424 (hk_0 (κ := 3) hi hq) (As := []) (ct_X9_inSlots l Ω _ _ _) rfl rfl hrX9_inSlots hcat kk
  | 4, _ =>
    rw [vSl, if_neg (by rw [hq]; decide)] at kk
    exact z_callU (x := ⟨"GrindWorks$Unit", "inSlots", "()I"⟩) (owner := "GrindWorks$Unit") (cells := cells) (slots := slots) (pc := pc) (st := rfO Ω (bs σ.2.2.1 i) :: st) (rest := st) C hd zy_X9_inSlots (by decide +kernel) hwd kw_419 (va_Decl.of (C.2.2.2.2.1 _ kw_418) (C.2.2.2.2.1 _ kw_431)) kw_418 rfl kw_424 (hk_0 (κ := 4) hi hq) (As := []) (ct_X9_inSlots l Ω _ _ _) rfl rfl hrX9_inSlots hcat kk
  | 5, _ =>
    rw [vSl, if_pos hq] at kk
    exact z_callU (x := ⟨"GrindWorks$Unit", "inSlots", "()I"⟩) (owner := "GrindWorks$Unit") (cells := cells) (slots := slots) (pc := pc) (st := rfO Ω (bs σ.2.2.1 i) :: st) (rest := st) C hd zy_X8_inSlots (by decide +kernel) hwd kw_419 (va_Decl.of (C.2.2.2.2.1 _ kw_418) (C.2.2.2.2.1 _ kw_431)) kw_427 rfl kw_426 (hk_0 (κ := 5) hi hq) (As := []) (ct_X8_inSlots l Ω σ hw i hi hq) rfl rfl hrX8_inSlots hcat kk
  | 6, _ =>
    rw [vSl, if_neg (by rw [hq]; decide)] at kk
    exact z_callU (x := ⟨"GrindWorks$Unit", "inSlots", "()I"⟩) (owner := "GrindWorks$Unit") (cells := cells) (slots := slots) (pc := pc) (st := rfO Ω (bs σ.2.2.1 i) :: st) (rest := st) C hd zy_X9_inSlots (by decide +kernel) hwd kw_419 (va_Decl.of (C.2.2.2.2.1 _ kw_418) (C.2.2.2.2.1 _ kw_431)) kw_418 rfl kw_425 (hk_0 (κ := 6) hi hq) (As := []) (ct_X9_inSlots l Ω _ _ _) rfl rfl hrX9_inSlots hcat kk
  | 7, _ =>
    rw [vSl, if_neg (by rw [hq]; decide)] at kk
    exact z_callU (x := ⟨"GrindWorks$Unit", "inSlots", "()I"⟩) (owner := "GrindWorks$Unit") (cells := cells) (slots := slots) (pc := pc) (st := rfO Ω (bs σ.2.2.1 i) :: st) (rest := st) C hd zy_X9_inSlots (by decide +kernel) hwd kw_419 (va_Decl.of (C.2.2.2.2.1 _ kw_418) (C.2.2.2.2.1 _ kw_431)) kw_418 rfl kw_420 (hk_0 (κ := 7) hi hq) (As := []) (ct_X9_inSlots l Ω _ _ _) rfl rfl hrX9_inSlots hcat kk
set_option maxHeartbeats 1000000 in
theorem zu_inLots (C : ZC Ω E cc own ret rm nm) {σ : Sg} {i κ idx : Nat} (hw : KW σ) (hi : i < σ.2.2.2) (hq : σ.2.2.1 i = κ) (hd : decode cc pc = .ok (.invokevirtual idx, 3)) (hwd : Cond.methodLink own idx ⟨"GrindWorks$Unit", "inLots", "()I"⟩ ∈ zTbl) (hrX6_inLots : ZRm rm rm_X6_inLots 1 cells slots) (hrX9_inLots : ZRm rm rm_X9_inLots 1 cells slots) (hcat : (st.map fun v => v.category).sum ≤ 8) (kk : ZV l Ω E cells slots (pc + 3) lv (.int (vLo σ i) :: st) (hp Ω σ) (hN σ)) : ZV l Ω E cells slots pc lv (rfO Ω (bs σ.2.2.1 i) :: st) (hp Ω σ) (hN σ) := by
  have h8 : κ < 8 := hq ▸ hw.2 i hi
  match κ, h8 with
  | 0, _ =>
    rw [vLo, if_neg (by rw [hq]; decide)] at kk
    exact z_callU (x := ⟨"GrindWorks$Unit", "inLots", "()I"⟩) (owner := "GrindWorks$Unit") (cells := cells) (slots := slots) (pc := pc) (st := rfO Ω (bs σ.2.2.1 i) :: st) (rest := st) C hd zy_X9_inLots (by decide +kernel) hwd kw_434 (va_Decl.of (C.2.2.2.2.1 _ kw_433) (C.2.2.2.2.1 _ kw_444)) kw_433 rfl kw_436 (hk_0 (κ := 0) hi hq) (As := []) (ct_X9_inLots l Ω _ _ _) rfl rfl hrX9_inLots hcat kk
  | 1, _ =>
    rw [vLo, if_neg (by rw [hq]; decide)] at kk
    exact z_callU (x := ⟨"GrindWorks$Unit", "inLots", "()I"⟩) (owner := "GrindWorks$Unit") (cells := cells) (slots := slots) (pc := pc) (st := rfO Ω (bs σ.2.2.1 i) :: st) (rest := st) C hd zy_X9_inLots (by decide +kernel) hwd kw_434 (va_Decl.of (C.2.2.2.2.1 _ kw_433) (C.2.2.2.2.1 _ kw_444)) kw_433 rfl kw_437 (hk_0 (κ := 1) hi hq) (As := []) (ct_X9_inLots l Ω _ _ _) rfl rfl hrX9_inLots hcat kk
  | 2, _ =>
    rw [vLo, if_neg (by rw [hq]; decide)] at kk
    exact z_callU (x := ⟨"GrindWorks$Unit", "inLots", "()I"⟩) (owner := "GrindWorks$Unit") (cells := cells) (slots := slots) (pc := pc) (st := rfO Ω (bs σ.2.2.1 i) :: st) (rest := st) C hd zy_X9_inLots (by decide +kernel) hwd kw_434 (va_Decl.of (C.2.2.2.2.1 _ kw_433) (C.2.2.2.2.1 _ kw_444)) kw_433 rfl kw_438 (hk_0 (κ := 2) hi hq) (As := []) (ct_X9_inLots l Ω _ _ _) rfl rfl hrX9_inLots hcat kk
  | 3, _ =>
    rw [vLo, if_neg (by rw [hq]; decide)] at kk
    exact z_callU (x := ⟨"GrindWorks$Unit", "inLots", "()I"⟩) (owner := "GrindWorks$Unit") (cells := cells) (slots := slots) (pc := pc) (st := rfO Ω (bs σ.2.2.1 i) :: st) (rest := st) C hd zy_X9_inLots (by decide +kernel) hwd kw_434 (va_Decl.of (C.2.2.2.2.1 _ kw_433) (C.2.2.2.2.1 _ kw_444)) kw_433 rfl kw_439 (hk_0 (κ := 3) hi hq) (As := []) (ct_X9_inLots l Ω _ _ _) rfl rfl hrX9_inLots hcat kk
  | 4, _ =>
    rw [vLo, if_neg (by rw [hq]; decide)] at kk
    exact z_callU (x := ⟨"GrindWorks$Unit", "inLots", "()I"⟩) (owner := "GrindWorks$Unit") (cells := cells) (slots := slots) (pc := pc) (st := rfO Ω (bs σ.2.2.1 i) :: st) (rest := st) C hd zy_X9_inLots (by decide +kernel) hwd kw_434 (va_Decl.of (C.2.2.2.2.1 _ kw_433) (C.2.2.2.2.1 _ kw_444)) kw_433 rfl kw_439 (hk_0 (κ := 4) hi hq) (As := []) (ct_X9_inLots l Ω _ _ _) rfl rfl hrX9_inLots hcat kk
  | 5, _ =>
    rw [vLo, if_neg (by rw [hq]; decide)] at kk
    exact z_callU (x := ⟨"GrindWorks$Unit", "inLots", "()I"⟩) (owner := "GrindWorks$Unit") (cells := cells) (slots := slots) (pc := pc) (st := rfO Ω (bs σ.2.2.1 i) :: st) (rest := st) C hd zy_X9_inLots (by decide +kernel) hwd kw_434 (va_Decl.of (C.2.2.2.2.1 _ kw_433) (C.2.2.2.2.1 _ kw_444)) kw_433 rfl kw_443 (hk_0 (κ := 5) hi hq) (As := []) (ct_X9_inLots l Ω _ _ _) rfl rfl hrX9_inLots hcat kk
  | 6, _ =>
    rw [vLo, if_pos hq] at kk
    exact z_callU (x := ⟨"GrindWorks$Unit", "inLots", "()I"⟩) (owner := "GrindWorks$Unit") (cells := cells) (slots := slots) (pc := pc) (st := rfO Ω (bs σ.2.2.1 i) :: st) (rest := st) C hd zy_X6_inLots (by decide +kernel) hwd kw_434 (va_Decl.of (C.2.2.2.2.1 _ kw_433) (C.2.2.2.2.1 _ kw_444)) kw_441 rfl kw_440 (hk_0 (κ := 6) hi hq) (As := []) (ct_X6_inLots l Ω σ hw i hi hq) rfl rfl hrX6_inLots hcat kk
  | 7, _ =>
    rw [vLo, if_neg (by rw [hq]; decide)] at kk
    exact z_callU (x := ⟨"GrindWorks$Unit", "inLots", "()I"⟩) (owner := "GrindWorks$Unit") (cells := cells) (slots := slots) (pc := pc) (st := rfO Ω (bs σ.2.2.1 i) :: st) (rest := st) C hd zy_X9_inLots (by decide +kernel) hwd kw_434 (va_Decl.of (C.2.2.2.2.1 _ kw_433) (C.2.2.2.2.1 _ kw_444)) kw_433 rfl kw_435 (hk_0 (κ := 7) hi hq) (As := []) (ct_X9_inLots l Ω _ _ _) rfl rfl hrX9_inLots hcat kk
set_option maxHeartbeats 1000000 in
theorem zu_lotCount (C : ZC Ω E cc own ret rm nm) {σ : Sg} {i κ idx : Nat} (hw : KW σ) (hi : i < σ.2.2.2) (hq : σ.2.2.1 i = κ) (hd : decode cc pc = .ok (.invokevirtual idx, 3)) (hwd : Cond.methodLink own idx ⟨"GrindWorks$Unit", "lotCount", "()I"⟩ ∈ zTbl) (hrX6_lotCount : ZRm rm rm_X6_lotCount 1 cells slots) (hrX9_lotCount : ZRm rm rm_X9_lotCount 1 cells slots) (hcat : (st.map fun v => v.category).sum ≤ 8) (kk : ZV l Ω E cells slots (pc + 3) lv (.int (vLc σ i) :: st) (hp Ω σ) (hN σ)) : ZV l Ω E cells slots pc lv (rfO Ω (bs σ.2.2.1 i) :: st) (hp Ω σ) (hN σ) := by
  have h8 : κ < 8 := hq ▸ hw.2 i hi
  match κ, h8 with
  | 0, _ =>
    rw [vLc, if_neg (by rw [hq]; decide)] at kk
    exact z_callU (x := ⟨"GrindWorks$Unit", "lotCount", "()I"⟩) (owner := "GrindWorks$Unit") (cells := cells) (slots := slots) (pc := pc) (st := rfO Ω (bs σ.2.2.1 i) :: st) (rest := st) C hd zy_X9_lotCount (by decide +kernel) hwd kw_459 (va_Decl.of (C.2.2.2.2.1 _ kw_458) (C.2.2.2.2.1 _ kw_469)) kw_458 rfl kw_461 (hk_0 (κ := 0) hi hq) (As := []) (ct_X9_lotCount l Ω _ _ _) rfl rfl hrX9_lotCount hcat kk
  | 1, _ =>
    rw [vLc, if_neg (by rw [hq]; decide)] at kk
    exact z_callU (x := ⟨"GrindWorks$Unit", "lotCount", "()I"⟩) (owner := "GrindWorks$Unit") (cells := cells) (slots := slots) (pc := pc) (st := rfO Ω (bs σ.2.2.1 i) :: st) (rest := st) C hd zy_X9_lotCount (by decide +kernel) hwd kw_459 (va_Decl.of (C.2.2.2.2.1 _ kw_458) (C.2.2.2.2.1 _ kw_469)) kw_458 rfl kw_462 (hk_0 (κ := 1) hi hq) (As := []) (ct_X9_lotCount l Ω _ _ _) rfl rfl hrX9_lotCount hcat kk
  | 2, _ =>
    rw [vLc, if_neg (by rw [hq]; decide)] at kk
    exact z_callU (x := ⟨"GrindWorks$Unit", "lotCount", "()I"⟩) (owner := "GrindWorks$Unit") (cells := cells) (slots := slots) (pc := pc) (st := rfO Ω (bs σ.2.2.1 i) :: st) (rest := st) C hd zy_X9_lotCount (by decide +kernel) hwd kw_459 (va_Decl.of (C.2.2.2.2.1 _ kw_458) (C.2.2.2.2.1 _ kw_469)) kw_458 rfl kw_463 (hk_0 (κ := 2) hi hq) (As := []) (ct_X9_lotCount l Ω _ _ _) rfl rfl hrX9_lotCount hcat kk
  | 3, _ =>
    rw [vLc, if_neg (by rw [hq]; decide)] at kk
    exact z_callU (x := ⟨"GrindWorks$Unit", "lotCount", "()I"⟩) (owner := "GrindWorks$Unit") (cells := cells) (slots := slots) (pc := pc) (st := rfO Ω (bs σ.2.2.1 i) :: st) (rest := st) C hd zy_X9_lotCount (by decide +kernel) hwd kw_459 (va_Decl.of (C.2.2.2.2.1 _ kw_458) (C.2.2.2.2.1 _ kw_469)) kw_458 rfl kw_464 (hk_0 (κ := 3) hi hq) (As := []) (ct_X9_lotCount l Ω _ _ _) rfl rfl hrX9_lotCount hcat kk
  | 4, _ =>
    rw [vLc, if_neg (by rw [hq]; decide)] at kk
    exact z_callU (x := ⟨"GrindWorks$Unit", "lotCount", "()I"⟩) (owner := "GrindWorks$Unit") (cells := cells) (slots := slots) (pc := pc) (st := rfO Ω (bs σ.2.2.1 i) :: st) (rest := st) C hd zy_X9_lotCount (by decide +kernel) hwd kw_459 (va_Decl.of (C.2.2.2.2.1 _ kw_458) (C.2.2.2.2.1 _ kw_469)) kw_458 rfl kw_464 (hk_0 (κ := 4) hi hq) (As := []) (ct_X9_lotCount l Ω _ _ _) rfl rfl hrX9_lotCount hcat kk
  | 5, _ =>
    rw [vLc, if_neg (by rw [hq]; decide)] at kk
    exact z_callU (x := ⟨"GrindWorks$Unit", "lotCount", "()I"⟩) (owner := "GrindWorks$Unit") (cells := cells) (slots := slots) (pc := pc) (st := rfO Ω (bs σ.2.2.1 i) :: st) (rest := st) C hd zy_X9_lotCount (by decide +kernel) hwd kw_459 (va_Decl.of (C.2.2.2.2.1 _ kw_458) (C.2.2.2.2.1 _ kw_469)) kw_458 rfl kw_468 (hk_0 (κ := 5) hi hq) (As := []) (ct_X9_lotCount l Ω _ _ _) rfl rfl hrX9_lotCount hcat kk
  | 6, _ =>
    rw [vLc, if_pos hq] at kk
    exact z_callU (x := ⟨"GrindWorks$Unit", "lotCount", "()I"⟩) (owner := "GrindWorks$Unit") (cells := cells) (slots := slots) (pc := pc) (st := rfO Ω (bs σ.2.2.1 i) :: st) (rest := st) C hd zy_X6_lotCount (by decide +kernel) hwd kw_459 (va_Decl.of (C.2.2.2.2.1 _ kw_458) (C.2.2.2.2.1 _ kw_469)) kw_466 rfl kw_465 (hk_0 (κ := 6) hi hq) (As := []) (ct_X6_lotCount l Ω σ i hi hq) rfl rfl hrX6_lotCount hcat kk
  | 7, _ =>
    rw [vLc, if_neg (by rw [hq]; decide)] at kk
    exact z_callU (x := ⟨"GrindWorks$Unit", "lotCount", "()I"⟩) (owner := "GrindWorks$Unit") (cells := cells) (slots := slots) (pc := pc) (st := rfO Ω (bs σ.2.2.1 i) :: st) (rest := st) C hd zy_X9_lotCount (by decide +kernel) hwd kw_459 (va_Decl.of (C.2.2.2.2.1 _ kw_458) (C.2.2.2.2.1 _ kw_469)) kw_458 rfl kw_460 (hk_0 (κ := 7) hi hq) (As := []) (ct_X9_lotCount l Ω _ _ _) rfl rfl hrX9_lotCount hcat kk
set_option maxHeartbeats 1000000 in
theorem zu_storedOfStuff (C : ZC Ω E cc own ret rm nm) {σ : Sg} {i κ idx : Nat} {s : Nat} (hs : s < 2) (hw : KW σ) (hi : i < σ.2.2.2) (hq : σ.2.2.1 i = κ) (hd : decode cc pc = .ok (.invokevirtual idx, 3)) (hwd : Cond.methodLink own idx ⟨"GrindWorks$Unit", "storedOfStuff", "(I)I"⟩ ∈ zTbl) (hrX6_storedOfStuff : ZRm rm rm_X6_storedOfStuff 2 cells slots) (hrX8_storedOfStuff : ZRm rm rm_X8_storedOfStuff 2 cells slots) (hrX9_storedOfStuff : ZRm rm rm_X9_storedOfStuff 2 cells slots) (hcat : (st.map fun v => v.category).sum ≤ 8) (kk : ZV l Ω E cells slots (pc + 3) lv (.int (vSt σ i s) :: st) (hp Ω σ) (hN σ)) : ZV l Ω E cells slots pc lv (.int (nI s) :: rfO Ω (bs σ.2.2.1 i) :: st) (hp Ω σ) (hN σ) := by
  have h8 : κ < 8 := hq ▸ hw.2 i hi
  match κ, h8 with
  | 0, _ =>
    rw [vSt, if_neg (by rw [hq]; decide), if_neg (by rw [hq]; decide)] at kk
    exact z_callU (x := ⟨"GrindWorks$Unit", "storedOfStuff", "(I)I"⟩) (owner := "GrindWorks$Unit") (cells := cells) (slots := slots) (pc := pc) (st := .int (nI s) :: rfO Ω (bs σ.2.2.1 i) :: st) (rest := st) C hd zy_X9_storedOfStuff (by decide +kernel) hwd kw_514 (va_Decl.of (C.2.2.2.2.1 _ kw_513) (C.2.2.2.2.1 _ kw_528)) kw_513 rfl kw_516 (hk_0 (κ := 0) hi hq) (As := [.int (nI s)]) (ct_X9_storedOfStuff l Ω _ _ _ _) rfl rfl hrX9_storedOfStuff hcat kk
  | 1, _ =>
    rw [vSt, if_neg (by rw [hq]; decide), if_neg (by rw [hq]; decide)] at kk
    exact z_callU (x := ⟨"GrindWorks$Unit", "storedOfStuff", "(I)I"⟩) (owner := "GrindWorks$Unit") (cells := cells) (slots := slots) (pc := pc) (st := .int (nI s) :: rfO Ω (bs σ.2.2.1 i) :: st) (rest := st) C hd zy_X9_storedOfStuff (by decide +kernel) hwd kw_514 (va_Decl.of (C.2.2.2.2.1 _ kw_513) (C.2.2.2.2.1 _ kw_528)) kw_513 rfl kw_517 (hk_0 (κ := 1) hi hq) (As := [.int (nI s)]) (ct_X9_storedOfStuff l Ω _ _ _ _) rfl rfl hrX9_storedOfStuff hcat kk
  | 2, _ =>
    rw [vSt, if_neg (by rw [hq]; decide), if_neg (by rw [hq]; decide)] at kk
    exact z_callU (x := ⟨"GrindWorks$Unit", "storedOfStuff", "(I)I"⟩) (owner := "GrindWorks$Unit") (cells := cells) (slots := slots) (pc := pc) (st := .int (nI s) :: rfO Ω (bs σ.2.2.1 i) :: st) (rest := st) C hd zy_X9_storedOfStuff (by decide +kernel) hwd kw_514 (va_Decl.of (C.2.2.2.2.1 _ kw_513) (C.2.2.2.2.1 _ kw_528)) kw_513 rfl kw_518 (hk_0 (κ := 2) hi hq) (As := [.int (nI s)]) (ct_X9_storedOfStuff l Ω _ _ _ _) rfl rfl hrX9_storedOfStuff hcat kk
  | 3, _ =>
    rw [vSt, if_neg (by rw [hq]; decide), if_neg (by rw [hq]; decide)] at kk
    exact z_callU (x := ⟨"GrindWorks$Unit", "storedOfStuff", "(I)I"⟩) (owner := "GrindWorks$Unit") (cells := cells) (slots := slots) (pc := pc) (st := .int (nI s) :: rfO Ω (bs σ.2.2.1 i) :: st) (rest := st) C hd zy_X9_storedOfStuff (by decide +kernel) hwd kw_514 (va_Decl.of (C.2.2.2.2.1 _ kw_513) (C.2.2.2.2.1 _ kw_528)) kw_513 rfl kw_519 (hk_0 (κ := 3) hi hq) (As := [.int (nI s)]) (ct_X9_storedOfStuff l Ω _ _ _ _) rfl rfl hrX9_storedOfStuff hcat kk
  | 4, _ =>
    rw [vSt, if_neg (by rw [hq]; decide), if_neg (by rw [hq]; decide)] at kk
    exact z_callU (x := ⟨"GrindWorks$Unit", "storedOfStuff", "(I)I"⟩) (owner := "GrindWorks$Unit") (cells := cells) (slots := slots) (pc := pc) (st := .int (nI s) :: rfO Ω (bs σ.2.2.1 i) :: st) (rest := st) C hd zy_X9_storedOfStuff (by decide +kernel) hwd kw_514 (va_Decl.of (C.2.2.2.2.1 _ kw_513) (C.2.2.2.2.1 _ kw_528)) kw_513 rfl kw_519 (hk_0 (κ := 4) hi hq) (As := [.int (nI s)]) (ct_X9_storedOfStuff l Ω _ _ _ _) rfl rfl hrX9_storedOfStuff hcat kk
  | 5, _ =>
    rw [vSt, if_pos hq] at kk
    exact z_callU (x := ⟨"GrindWorks$Unit", "storedOfStuff", "(I)I"⟩) (owner := "GrindWorks$Unit") (cells := cells) (slots := slots) (pc := pc) (st := .int (nI s) :: rfO Ω (bs σ.2.2.1 i) :: st) (rest := st) C hd zy_X8_storedOfStuff (by decide +kernel) hwd kw_514 (va_Decl.of (C.2.2.2.2.1 _ kw_513) (C.2.2.2.2.1 _ kw_528)) kw_526 rfl kw_525 (hk_0 (κ := 5) hi hq) (As := [.int (nI s)]) (ct_X8_storedOfStuff l Ω σ hw i hi hq s hs) rfl rfl hrX8_storedOfStuff hcat kk
  | 6, _ =>
    rw [vSt, if_neg (by rw [hq]; decide), if_pos hq] at kk
    exact z_callU (x := ⟨"GrindWorks$Unit", "storedOfStuff", "(I)I"⟩) (owner := "GrindWorks$Unit") (cells := cells) (slots := slots) (pc := pc) (st := .int (nI s) :: rfO Ω (bs σ.2.2.1 i) :: st) (rest := st) C hd zy_X6_storedOfStuff (by decide +kernel) hwd kw_514 (va_Decl.of (C.2.2.2.2.1 _ kw_513) (C.2.2.2.2.1 _ kw_528)) kw_521 rfl kw_520 (hk_0 (κ := 6) hi hq) (As := [.int (nI s)]) (ct_X6_storedOfStuff l Ω σ hw i hi hq s hs) rfl rfl hrX6_storedOfStuff hcat kk
  | 7, _ =>
    rw [vSt, if_neg (by rw [hq]; decide), if_neg (by rw [hq]; decide)] at kk
    exact z_callU (x := ⟨"GrindWorks$Unit", "storedOfStuff", "(I)I"⟩) (owner := "GrindWorks$Unit") (cells := cells) (slots := slots) (pc := pc) (st := .int (nI s) :: rfO Ω (bs σ.2.2.1 i) :: st) (rest := st) C hd zy_X9_storedOfStuff (by decide +kernel) hwd kw_514 (va_Decl.of (C.2.2.2.2.1 _ kw_513) (C.2.2.2.2.1 _ kw_528)) kw_513 rfl kw_515 (hk_0 (κ := 7) hi hq) (As := [.int (nI s)]) (ct_X9_storedOfStuff l Ω _ _ _ _) rfl rfl hrX9_storedOfStuff hcat kk
set_option maxHeartbeats 1000000 in
theorem zu_take (C : ZC Ω E cc own ret rm nm) {σ : Sg} {i κ idx : Nat} {f i' k' a' : Nat} (hf : f < 10) (h : Rw σ i' k' a' 8) (hk : ¬ k' = 1) (hne : i' = i → ¬ σ.2.2.1 i = 7) (hw : KW σ) (hi : i < σ.2.2.2) (hq : σ.2.2.1 i = κ) (hd : decode cc pc = .ok (.invokevirtual idx, 3)) (hwd : Cond.methodLink own idx ⟨"GrindWorks$Unit", "take", "(I[I)V"⟩ ∈ zTbl) (hrX0_take : ZRm rm rm_X0_take 3 cells slots) (hrX9_take : ZRm rm rm_X9_take 3 cells slots) (hcat : (st.map fun v => v.category).sum ≤ 8) (kk : ZV l Ω E cells slots (pc + 3) lv (st) (hp Ω (cTake σ i f i' a')) (hN σ)) : ZV l Ω E cells slots pc lv (rfO Ω (bs σ.2.2.1 i' + k') :: .int (nI f) :: rfO Ω (bs σ.2.2.1 i) :: st) (hp Ω σ) (hN σ) := by
  have h8 : κ < 8 := hq ▸ hw.2 i hi
  match κ, h8 with
  | 0, _ =>
    rw [cTake, if_neg (by rw [hq]; decide)] at kk
    exact z_callU (x := ⟨"GrindWorks$Unit", "take", "(I[I)V"⟩) (owner := "GrindWorks$Unit") (cells := cells) (slots := slots) (pc := pc) (st := rfO Ω (bs σ.2.2.1 i' + k') :: .int (nI f) :: rfO Ω (bs σ.2.2.1 i) :: st) (rest := st) C hd zy_X9_take (by decide +kernel) hwd kw_402 (va_Decl.of (C.2.2.2.2.1 _ kw_401) (C.2.2.2.2.1 _ kw_412)) kw_401 rfl kw_406 (hk_0 (κ := 0) hi hq) (As := [.int (nI f), rfO Ω (bs σ.2.2.1 i' + k')]) (ct_X9_take l Ω σ hw i hi (nI f) h (fun z => hk z.2)) rfl rfl hrX9_take hcat kk
  | 1, _ =>
    rw [cTake, if_neg (by rw [hq]; decide)] at kk
    exact z_callU (x := ⟨"GrindWorks$Unit", "take", "(I[I)V"⟩) (owner := "GrindWorks$Unit") (cells := cells) (slots := slots) (pc := pc) (st := rfO Ω (bs σ.2.2.1 i' + k') :: .int (nI f) :: rfO Ω (bs σ.2.2.1 i) :: st) (rest := st) C hd zy_X9_take (by decide +kernel) hwd kw_402 (va_Decl.of (C.2.2.2.2.1 _ kw_401) (C.2.2.2.2.1 _ kw_412)) kw_401 rfl kw_407 (hk_0 (κ := 1) hi hq) (As := [.int (nI f), rfO Ω (bs σ.2.2.1 i' + k')]) (ct_X9_take l Ω σ hw i hi (nI f) h (fun z => hk z.2)) rfl rfl hrX9_take hcat kk
  | 2, _ =>
    rw [cTake, if_neg (by rw [hq]; decide)] at kk
    exact z_callU (x := ⟨"GrindWorks$Unit", "take", "(I[I)V"⟩) (owner := "GrindWorks$Unit") (cells := cells) (slots := slots) (pc := pc) (st := rfO Ω (bs σ.2.2.1 i' + k') :: .int (nI f) :: rfO Ω (bs σ.2.2.1 i) :: st) (rest := st) C hd zy_X9_take (by decide +kernel) hwd kw_402 (va_Decl.of (C.2.2.2.2.1 _ kw_401) (C.2.2.2.2.1 _ kw_412)) kw_401 rfl kw_408 (hk_0 (κ := 2) hi hq) (As := [.int (nI f), rfO Ω (bs σ.2.2.1 i' + k')]) (ct_X9_take l Ω σ hw i hi (nI f) h (fun z => hk z.2)) rfl rfl hrX9_take hcat kk
  | 3, _ =>
    rw [cTake, if_neg (by rw [hq]; decide)] at kk
    exact z_callU (x := ⟨"GrindWorks$Unit", "take", "(I[I)V"⟩) (owner := "GrindWorks$Unit") (cells := cells) (slots := slots) (pc := pc) (st := rfO Ω (bs σ.2.2.1 i' + k') :: .int (nI f) :: rfO Ω (bs σ.2.2.1 i) :: st) (rest := st) C hd zy_X9_take (by decide +kernel) hwd kw_402 (va_Decl.of (C.2.2.2.2.1 _ kw_401) (C.2.2.2.2.1 _ kw_412)) kw_401 rfl kw_409 (hk_0 (κ := 3) hi hq) (As := [.int (nI f), rfO Ω (bs σ.2.2.1 i' + k')]) (ct_X9_take l Ω σ hw i hi (nI f) h (fun z => hk z.2)) rfl rfl hrX9_take hcat kk
  | 4, _ =>
    rw [cTake, if_neg (by rw [hq]; decide)] at kk
    exact z_callU (x := ⟨"GrindWorks$Unit", "take", "(I[I)V"⟩) (owner := "GrindWorks$Unit") (cells := cells) (slots := slots) (pc := pc) (st := rfO Ω (bs σ.2.2.1 i' + k') :: .int (nI f) :: rfO Ω (bs σ.2.2.1 i) :: st) (rest := st) C hd zy_X9_take (by decide +kernel) hwd kw_402 (va_Decl.of (C.2.2.2.2.1 _ kw_401) (C.2.2.2.2.1 _ kw_412)) kw_401 rfl kw_409 (hk_0 (κ := 4) hi hq) (As := [.int (nI f), rfO Ω (bs σ.2.2.1 i' + k')]) (ct_X9_take l Ω σ hw i hi (nI f) h (fun z => hk z.2)) rfl rfl hrX9_take hcat kk
  | 5, _ =>
    rw [cTake, if_neg (by rw [hq]; decide)] at kk
    exact z_callU (x := ⟨"GrindWorks$Unit", "take", "(I[I)V"⟩) (owner := "GrindWorks$Unit") (cells := cells) (slots := slots) (pc := pc) (st := rfO Ω (bs σ.2.2.1 i' + k') :: .int (nI f) :: rfO Ω (bs σ.2.2.1 i) :: st) (rest := st) C hd zy_X9_take (by decide +kernel) hwd kw_402 (va_Decl.of (C.2.2.2.2.1 _ kw_401) (C.2.2.2.2.1 _ kw_412)) kw_401 rfl kw_411 (hk_0 (κ := 5) hi hq) (As := [.int (nI f), rfO Ω (bs σ.2.2.1 i' + k')]) (ct_X9_take l Ω σ hw i hi (nI f) h (fun z => hk z.2)) rfl rfl hrX9_take hcat kk
  | 6, _ =>
    rw [cTake, if_neg (by rw [hq]; decide)] at kk
    exact z_callU (x := ⟨"GrindWorks$Unit", "take", "(I[I)V"⟩) (owner := "GrindWorks$Unit") (cells := cells) (slots := slots) (pc := pc) (st := rfO Ω (bs σ.2.2.1 i' + k') :: .int (nI f) :: rfO Ω (bs σ.2.2.1 i) :: st) (rest := st) C hd zy_X9_take (by decide +kernel) hwd kw_402 (va_Decl.of (C.2.2.2.2.1 _ kw_401) (C.2.2.2.2.1 _ kw_412)) kw_401 rfl kw_410 (hk_0 (κ := 6) hi hq) (As := [.int (nI f), rfO Ω (bs σ.2.2.1 i' + k')]) (ct_X9_take l Ω σ hw i hi (nI f) h (fun z => hk z.2)) rfl rfl hrX9_take hcat kk
  | 7, _ =>
    rw [cTake, if_pos hq] at kk
    exact z_callU (x := ⟨"GrindWorks$Unit", "take", "(I[I)V"⟩) (owner := "GrindWorks$Unit") (cells := cells) (slots := slots) (pc := pc) (st := rfO Ω (bs σ.2.2.1 i' + k') :: .int (nI f) :: rfO Ω (bs σ.2.2.1 i) :: st) (rest := st) C hd zy_X0_take (by decide +kernel) hwd kw_402 (va_Decl.of (C.2.2.2.2.1 _ kw_401) (C.2.2.2.2.1 _ kw_412)) kw_404 rfl kw_403 (hk_0 (κ := 7) hi hq) (As := [.int (nI f), rfO Ω (bs σ.2.2.1 i' + k')]) (ct_X0_take l Ω σ hw i hi hq f hf h (fun z => hne z hq)) rfl rfl hrX0_take hcat kk
set_option maxHeartbeats 1000000 in
theorem zu_give (C : ZC Ω E cc own ret rm nm) {σ : Sg} {i κ idx : Nat} (hw : KW σ) (hi : i < σ.2.2.2) (hq : σ.2.2.1 i = κ) (hg : GW σ i) (hd : decode cc pc = .ok (.invokevirtual idx, 3)) (hwd : Cond.methodLink own idx ⟨"GrindWorks$Unit", "give", "()V"⟩ ∈ zTbl) (hrX0_give : ZRm rm rm_X0_give 1 cells slots) (hrX1_give : ZRm rm rm_X1_give 2 cells slots) (hrX2_give : ZRm rm rm_X2_give 1 cells slots) (hrX4_give : ZRm rm rm_X4_give 2 cells slots) (hrX5_give : ZRm rm rm_X5_give 4 cells slots) (hrX6_give : ZRm rm rm_X6_give 3 cells slots) (hrX8_give : ZRm rm rm_X8_give 2 cells slots) (hcat : (st.map fun v => v.category).sum ≤ 8) (kk : ZV l Ω E cells slots (pc + 3) lv (st) (hp Ω (cGive σ i)) (hN σ)) : ZV l Ω E cells slots pc lv (rfO Ω (bs σ.2.2.1 i) :: st) (hp Ω σ) (hN σ) := by
  have h8 : κ < 8 := hq ▸ hw.2 i hi
  match κ, h8 with
  | 0, _ =>
    unfold cGive at kk
    rw [hq] at kk
    exact z_callU (x := ⟨"GrindWorks$Unit", "give", "()V"⟩) (owner := "GrindWorks$Unit") (cells := cells) (slots := slots) (pc := pc) (st := rfO Ω (bs σ.2.2.1 i) :: st) (rest := st) C hd zy_X1_give (by decide +kernel) hwd kw_342 (va_Decl.abs C.2.2.2.2.2.2.2.2.2.2.2.2.2.2.1) kw_347 rfl kw_346 (hk_0 (κ := 0) hi hq) (As := []) (ct_X1_give l Ω σ hw i hi hq) rfl rfl hrX1_give hcat kk
  | 1, _ =>
    unfold cGive at kk
    rw [hq] at kk
    exact z_callU (x := ⟨"GrindWorks$Unit", "give", "()V"⟩) (owner := "GrindWorks$Unit") (cells := cells) (slots := slots) (pc := pc) (st := rfO Ω (bs σ.2.2.1 i) :: st) (rest := st) C hd zy_X2_give (by decide +kernel) hwd kw_342 (va_Decl.abs C.2.2.2.2.2.2.2.2.2.2.2.2.2.2.1) kw_356 rfl kw_355 (hk_0 (κ := 1) hi hq) (As := []) (ct_X2_give l Ω σ hw i hi hq) rfl rfl hrX2_give hcat kk
  | 2, _ =>
    unfold cGive at kk
    rw [hq] at kk
    exact z_callU (x := ⟨"GrindWorks$Unit", "give", "()V"⟩) (owner := "GrindWorks$Unit") (cells := cells) (slots := slots) (pc := pc) (st := rfO Ω (bs σ.2.2.1 i) :: st) (rest := st) C hd zy_X4_give (by decide +kernel) hwd kw_342 (va_Decl.abs C.2.2.2.2.2.2.2.2.2.2.2.2.2.2.1) kw_366 rfl kw_365 (hk_0 (κ := 2) hi hq) (As := []) (ct_X4_give l Ω σ hw i hi hq) rfl rfl hrX4_give hcat kk
  | 3, _ =>
    unfold cGive at kk
    rw [hq] at kk
    exact z_callU (x := ⟨"GrindWorks$Unit", "give", "()V"⟩) (owner := "GrindWorks$Unit") (cells := cells) (slots := slots) (pc := pc) (st := rfO Ω (bs σ.2.2.1 i) :: st) (rest := st) C hd zy_X5_give (by decide +kernel) hwd kw_342 (va_Decl.abs C.2.2.2.2.2.2.2.2.2.2.2.2.2.2.1) kw_373 rfl kw_372 (hk_0 (κ := 3) hi hq) (As := []) (ct_X5_give_3 l Ω σ hw i hi hq) rfl rfl hrX5_give hcat kk
  | 4, _ =>
    unfold cGive at kk
    rw [hq] at kk
    exact z_callU (x := ⟨"GrindWorks$Unit", "give", "()V"⟩) (owner := "GrindWorks$Unit") (cells := cells) (slots := slots) (pc := pc) (st := rfO Ω (bs σ.2.2.1 i) :: st) (rest := st) C hd zy_X5_give (by decide +kernel) hwd kw_342 (va_Decl.abs C.2.2.2.2.2.2.2.2.2.2.2.2.2.2.1) kw_373 rfl kw_372 (hk_0 (κ := 4) hi hq) (As := []) (ct_X5_give_4 l Ω σ hw i hi hq) rfl rfl hrX5_give hcat kk
  | 5, _ =>
    unfold cGive at kk
    rw [hq] at kk
    obtain ⟨⟨T, hT, eT⟩, t, ht1, ht2, et⟩ := hg.1 hq
    rw [eT, et, tn_nI (by omega), tn_nI (by omega)] at kk
    exact z_callU (x := ⟨"GrindWorks$Unit", "give", "()V"⟩) (owner := "GrindWorks$Unit") (cells := cells) (slots := slots) (pc := pc) (st := rfO Ω (bs σ.2.2.1 i) :: st) (rest := st) C hd zy_X8_give (by decide +kernel) hwd kw_342 (va_Decl.abs C.2.2.2.2.2.2.2.2.2.2.2.2.2.2.1) kw_388 rfl kw_387 (hk_0 (κ := 5) hi hq) (As := []) (ct_X8_give l Ω σ hw i hi hq T t hT eT ht1 ht2 et) rfl rfl hrX8_give hcat kk
  | 6, _ =>
    unfold cGive at kk
    rw [hq] at kk
    obtain ⟨⟨F, hF, eF⟩, L, hL, eL⟩ := hg.2 hq
    rw [eF, eL, tn_nI (by omega), tn_nI (by omega)] at kk
    exact z_callU (x := ⟨"GrindWorks$Unit", "give", "()V"⟩) (owner := "GrindWorks$Unit") (cells := cells) (slots := slots) (pc := pc) (st := rfO Ω (bs σ.2.2.1 i) :: st) (rest := st) C hd zy_X6_give (by decide +kernel) hwd kw_342 (va_Decl.abs C.2.2.2.2.2.2.2.2.2.2.2.2.2.2.1) kw_379 rfl kw_378 (hk_0 (κ := 6) hi hq) (As := []) (ct_X6_give l Ω σ hw i hi hq F L hF hL eF eL) rfl rfl hrX6_give hcat kk
  | 7, _ =>
    unfold cGive at kk
    rw [hq] at kk
    exact z_callU (x := ⟨"GrindWorks$Unit", "give", "()V"⟩) (owner := "GrindWorks$Unit") (cells := cells) (slots := slots) (pc := pc) (st := rfO Ω (bs σ.2.2.1 i) :: st) (rest := st) C hd zy_X0_give (by decide +kernel) hwd kw_342 (va_Decl.abs C.2.2.2.2.2.2.2.2.2.2.2.2.2.2.1) kw_344 rfl kw_343 (hk_0 (κ := 7) hi hq) (As := []) (ct_X0_give l Ω _ _ _) rfl rfl hrX0_give hcat kk
end ZVU
