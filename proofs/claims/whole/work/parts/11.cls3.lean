/-! ===== the class: tests, numbers, a unit by its number, what every unit has ===== -/
set_option maxHeartbeats 4000000 in
set_option maxRecDepth 100000 in
theorem ct_X10_isLevel (l : Launch) (Ω : OmT) (A : AHp) (n : Nat) (c : Int32) : ZM l Ω yX10_isLevel cX10_isLevel 1 (some .boolean) rm_X10_isLevel [.int c] (A) (n) (some (.int (b01 (inR 0 100000 c)))) (A) (n) := by
  refine ZM_of (by decide) (Nat.le_of_ble_eq_true rfl) (fun E hE C hQ => ?_)
  refine z_iload_n (pc := 0) C dX10_isLevel_0 rfl ?_
  -- at 1: iflt 
  refine z_if_lt (pc := 1) (tgt := 14) C dX10_isLevel_1 (by decide) (fun h => ?_) (fun h => ?_)
  · refine z_iconst (pc := 14) (v := nI 0) C dX10_isLevel_14 (by decide) ?_
    -- at 15: ireturn 
    exact z_zret (pc := 15) C hQ dX10_isLevel_15 rfl (by rw [b01_f (inR_lo h)]; rfl) rfl rfl (by decide) (by decide)
  · refine z_iload_n (pc := 4) C dX10_isLevel_4 rfl ?_
    refine z_ldc (pc := 5) (v := nI 100000) C dX10_isLevel_5 kw_325 ?_
    -- at 7: if_icmpgt 
    refine z_icmp_gt (pc := 7) (tgt := 14) C dX10_isLevel_7 (by decide) (fun h2 => ?_) (fun h2 => ?_)
    · refine z_iconst (pc := 14) (v := nI 0) C dX10_isLevel_14 (by decide) ?_
      -- at 15: ireturn 
      exact z_zret (pc := 15) C hQ dX10_isLevel_15 rfl (by rw [b01_f (fun z => absurd h2 (Int32.not_lt.mpr z.2))]; rfl) rfl rfl (by decide) (by decide)
    · refine z_iconst (pc := 10) (v := nI 1) C dX10_isLevel_10 (by decide) ?_
      refine z_goto (pc := 11) (tgt := 15) C dX10_isLevel_11 (by decide) ?_
      -- at 15: ireturn 
      exact z_zret (pc := 15) C hQ dX10_isLevel_15 rfl (by rw [b01_t ⟨Int32.not_lt.mp h, Int32.not_lt.mp h2⟩]; rfl) rfl rfl (by decide) (by decide)
/-- tenths that may be told: none below 0, together at most ten -/
abbrev tnOk (a b c : Int32) : Prop := inR 0 10 a ∧ inR 0 10 b ∧ inR 0 10 c ∧ ¬ nI 10 < a + b + c
theorem toL_lt {x y : Int64} : x < y ↔ x.toInt < y.toInt := Int64.lt_iff_toInt_lt
theorem nn_of {a : Int32} (h : ¬ a < 0) : 0 ≤ a.toInt := by
  have := Int32.le_iff_toInt_le.mp (Int32.not_lt.mp h)
  simpa using this
theorem sum3L {a b c : Int32} (ha : ¬ a < 0) (hb : ¬ b < 0) (hc : ¬ c < 0) : (a.toInt64 + b.toInt64 + c.toInt64).toInt = a.toInt + b.toInt + c.toInt := by
  have h1 := nn_of ha
  have h2 := nn_of hb
  have h3 := nn_of hc
  have u1 := Int32.toInt_lt a
  have u2 := Int32.toInt_lt b
  have u3 := Int32.toInt_lt c
  rw [Int64.toInt_add, Int64.toInt_add, Int32.toInt_toInt64, Int32.toInt_toInt64, Int32.toInt_toInt64]
  rw [Int.bmod_eq_of_le (n := a.toInt + b.toInt) (by omega) (by omega), Int.bmod_eq_of_le (by omega) (by omega)]
theorem tnOk_of {a b c : Int32} (ha : ¬ a < 0) (hb : ¬ b < 0) (hc : ¬ c < 0) (h : ¬ (10 : Int64) < a.toInt64 + b.toInt64 + c.toInt64) : tnOk a b c := by
  have h1 := nn_of ha
  have h2 := nn_of hb
  have h3 := nn_of hc
  have hs : a.toInt + b.toInt + c.toInt ≤ 10 := by
    have z : ¬ (10 : Int64).toInt < (a.toInt64 + b.toInt64 + c.toInt64).toInt := fun z => h (toL_lt.mpr z)
    rw [sum3L ha hb hc] at z
    have : (10 : Int64).toInt = 10 := by decide
    omega
  have t10 : (nI 10).toInt = 10 := nI_toInt (by decide)
  refine ⟨⟨Int32.not_lt.mp ha, Int32.le_iff_toInt_le.mpr (by omega)⟩, ⟨Int32.not_lt.mp hb, Int32.le_iff_toInt_le.mpr (by omega)⟩, ⟨Int32.not_lt.mp hc, Int32.le_iff_toInt_le.mpr (by omega)⟩, fun z => ?_⟩
  have z := Int32.lt_iff_toInt_lt.mp z
  rw [Int32.toInt_add, Int32.toInt_add, Int.bmod_eq_of_le (n := a.toInt + b.toInt) (by omega) (by omega), Int.bmod_eq_of_le (by omega) (by omega)] at z
  omega
theorem tnOk_no {a b c : Int32} (ha : ¬ a < 0) (hb : ¬ b < 0) (hc : ¬ c < 0) (h : (10 : Int64) < a.toInt64 + b.toInt64 + c.toInt64) : ¬ tnOk a b c := by
  rintro ⟨⟨-, a1⟩, ⟨-, b1⟩, ⟨-, c1⟩, z⟩
  have h1 := nn_of ha
  have h2 := nn_of hb
  have h3 := nn_of hc
  have t10 : (nI 10).toInt = 10 := nI_toInt (by decide)
  have a2 := Int32.le_iff_toInt_le.mp a1
  have b2 := Int32.le_iff_toInt_le.mp b1
  have c2 := Int32.le_iff_toInt_le.mp c1
  have h9 := toL_lt.mp h
  rw [sum3L ha hb hc] at h9
  have : (10 : Int64).toInt = 10 := by decide
  refine z (Int32.lt_iff_toInt_lt.mpr ?_)
  rw [Int32.toInt_add, Int32.toInt_add, Int.bmod_eq_of_le (n := a.toInt + b.toInt) (by omega) (by omega), Int.bmod_eq_of_le (by omega) (by omega)]
  omega
set_option maxHeartbeats 4000000 in
set_option maxRecDepth 100000 in
theorem ct_X10_areTenths (l : Launch) (Ω : OmT) (A : AHp) (n : Nat) (a b c : Int32) : ZM l Ω yX10_areTenths cX10_areTenths 3 (some .boolean) rm_X10_areTenths [.int a, .int b, .int c] (A) (n) (some (.int (b01 (tnOk a b c)))) (A) (n) := by
  refine ZM_of (by decide) (Nat.le_of_ble_eq_true rfl) (fun E hE C hQ => ?_)
  refine z_iload_n (pc := 0) C dX10_areTenths_0 rfl ?_
  -- at 1: iflt 
  refine z_if_lt (pc := 1) (tgt := 31) C dX10_areTenths_1 (by decide) (fun h1 => ?_) (fun h1 => ?_)
  · refine z_iconst (pc := 31) (v := nI 0) C dX10_areTenths_31 (by decide) ?_
    -- at 32: ireturn 
    exact z_zret (pc := 32) C hQ dX10_areTenths_32 rfl (by rw [b01_f (fun z => inR_lo h1 z.1)]; rfl) rfl rfl (by decide) (by decide)
  refine z_iload_n (pc := 4) C dX10_areTenths_4 rfl ?_
  -- at 5: iflt 
  refine z_if_lt (pc := 5) (tgt := 31) C dX10_areTenths_5 (by decide) (fun h2 => ?_) (fun h2 => ?_)
  · refine z_iconst (pc := 31) (v := nI 0) C dX10_areTenths_31 (by decide) ?_
    -- at 32: ireturn 
    exact z_zret (pc := 32) C hQ dX10_areTenths_32 rfl (by rw [b01_f (fun z => inR_lo h2 z.2.1)]; rfl) rfl rfl (by decide) (by decide)
  refine z_iload_n (pc := 8) C dX10_areTenths_8 rfl ?_
  -- at 9: iflt 
  refine z_if_lt (pc := 9) (tgt := 31) C dX10_areTenths_9 (by decide) (fun h3 => ?_) (fun h3 => ?_)
  · refine z_iconst (pc := 31) (v := nI 0) C dX10_areTenths_31 (by decide) ?_
    -- at 32: ireturn 
    exact z_zret (pc := 32) C hQ dX10_areTenths_32 rfl (by rw [b01_f (fun z => inR_lo h3 z.2.2.1)]; rfl) rfl rfl (by decide) (by decide)
  refine z_iload_n (pc := 12) C dX10_areTenths_12 rfl ?_
  refine z_i2l (pc := 13) C dX10_areTenths_13 rfl ?_
  refine z_iload_n (pc := 14) C dX10_areTenths_14 rfl ?_
  refine z_i2l (pc := 15) C dX10_areTenths_15 rfl ?_
  refine z_ladd (pc := 16) C dX10_areTenths_16 ?_
  refine z_iload_n (pc := 17) C dX10_areTenths_17 rfl ?_
  refine z_i2l (pc := 18) C dX10_areTenths_18 rfl ?_
  refine z_ladd (pc := 19) C dX10_areTenths_19 ?_
  refine z_ldc2 (pc := 20) (v := 10) C dX10_areTenths_20 kw_292 ?_
  refine z_lcmp (pc := 23) C dX10_areTenths_23 ?_
  -- at 24: ifgt 
  refine z_if_gt (pc := 24) (tgt := 31) C dX10_areTenths_24 (by decide) (fun h => ?_) (fun h => ?_)
  · refine z_iconst (pc := 31) (v := nI 0) C dX10_areTenths_31 (by decide) ?_
    -- at 32: ireturn 
    exact z_zret (pc := 32) C hQ dX10_areTenths_32 rfl (by rw [b01_f (tnOk_no h1 h2 h3 ((lg_cmp_gt _ _).mp h))]; rfl) rfl rfl (by decide) (by decide)
  · refine z_iconst (pc := 27) (v := nI 1) C dX10_areTenths_27 (by decide) ?_
    refine z_goto (pc := 28) (tgt := 32) C dX10_areTenths_28 (by decide) ?_
    -- at 32: ireturn 
    exact z_zret (pc := 32) C hQ dX10_areTenths_32 rfl (by rw [b01_t (tnOk_of h1 h2 h3 (fun z => h ((lg_cmp_gt _ _).mpr z)))]; rfl) rfl rfl (by decide) (by decide)
set_option maxHeartbeats 4000000 in
set_option maxRecDepth 100000 in
theorem ct_X10_hasSizesFor (l : Launch) (Ω : OmT) (A : AHp) (n : Nat) (i a b c : Int32) : ZM l Ω yX10_hasSizesFor cX10_hasSizesFor 4 (some .boolean) rm_X10_hasSizesFor [.int i, .int a, .int b, .int c] (A) (n) (some (.int (b01 ((a = 0 ∨ inR 0 3 (i + nI 1)) ∧ (b = 0 ∨ inR 0 3 (i + nI 2)) ∧ (c = 0 ∨ inR 0 3 (i + nI 3)))))) (A) (n) := by
  refine ZM_of (by decide) (Nat.le_of_ble_eq_true rfl) (fun E hE C hQ => ?_)
  have no1 : ¬ a = 0 → ¬ inR 0 3 (i + nI 1) → ZV l Ω E 0 0 43 [(0, .int i), (1, .int a), (2, .int b), (3, .int c)] [] A n := by
    intro g1 g2
    refine z_iconst (pc := 43) (v := nI 0) C dX10_hasSizesFor_43 (by decide) ?_
    -- at 44: ireturn 
    exact z_zret (pc := 44) C hQ dX10_hasSizesFor_44 rfl (by rw [b01_f (fun z => z.1.elim g1 g2)]; rfl) rfl rfl (by decide) (by decide)
  have no2 : ¬ b = 0 → ¬ inR 0 3 (i + nI 2) → ZV l Ω E 0 0 43 [(0, .int i), (1, .int a), (2, .int b), (3, .int c)] [] A n := by
    intro g1 g2
    refine z_iconst (pc := 43) (v := nI 0) C dX10_hasSizesFor_43 (by decide) ?_
    -- at 44: ireturn 
    exact z_zret (pc := 44) C hQ dX10_hasSizesFor_44 rfl (by rw [b01_f (fun z => z.2.1.elim g1 g2)]; rfl) rfl rfl (by decide) (by decide)
  have no3 : ¬ c = 0 → ¬ inR 0 3 (i + nI 3) → ZV l Ω E 0 0 43 [(0, .int i), (1, .int a), (2, .int b), (3, .int c)] [] A n := by
    intro g1 g2
    refine z_iconst (pc := 43) (v := nI 0) C dX10_hasSizesFor_43 (by decide) ?_
    -- at 44: ireturn 
    exact z_zret (pc := 44) C hQ dX10_hasSizesFor_44 rfl (by rw [b01_f (fun z => z.2.2.elim g1 g2)]; rfl) rfl rfl (by decide) (by decide)
  have t3 : (a = 0 ∨ inR 0 3 (i + nI 1)) → (b = 0 ∨ inR 0 3 (i + nI 2)) → ZV l Ω E 0 0 26 [(0, .int i), (1, .int a), (2, .int b), (3, .int c)] [] A n := by
    intro g1 g2
    have yes : (c = 0 ∨ inR 0 3 (i + nI 3)) → ZV l Ω E 0 0 39 [(0, .int i), (1, .int a), (2, .int b), (3, .int c)] [] A n := by
      intro g3
      refine z_iconst (pc := 39) (v := nI 1) C dX10_hasSizesFor_39 (by decide) ?_
      refine z_goto (pc := 40) (tgt := 44) C dX10_hasSizesFor_40 (by decide) ?_
      -- at 44: ireturn 
      exact z_zret (pc := 44) C hQ dX10_hasSizesFor_44 rfl (by rw [b01_t ⟨g1, g2, g3⟩]; rfl) rfl rfl (by decide) (by decide)
    refine z_iload_n (pc := 26) C dX10_hasSizesFor_26 rfl ?_
    -- at 27: ifeq 
    refine z_if_eq (pc := 27) (tgt := 39) C dX10_hasSizesFor_27 (by decide) (fun h => ?_) (fun h => ?_)
    · exact yes (Or.inl h)
    · refine z_iload_n (pc := 30) C dX10_hasSizesFor_30 rfl ?_
      refine z_iconst (pc := 31) (v := nI 3) C dX10_hasSizesFor_31 (by decide) ?_
      first | with_reducible refine z_iaddN (pc := 32) C dX10_hasSizesFor_32 ?_ | refine z_iadd (pc := 32) C dX10_hasSizesFor_32 ?_
      -- at 33: invokestatic Method isSize:(I)Z
      refine z_callS (pc := 33) C dX10_hasSizesFor_33 zy_X10_isSize kw_286 kw_287 (ct_X10_isSize l Ω A n (i + nI 3)) rfl rfl ⟨⟨by decide, by decide⟩, by decide, by decide⟩ (Nat.le_of_ble_eq_true rfl) ?_; dsimp only [Option.toList_some, List.cons_append, List.nil_append]
      refine z_ifeqB (pc := 36) (tgt := 43) C dX10_hasSizesFor_36 (by decide) (fun h2 => ?_) (fun h2 => ?_)
      · exact no3 h h2
      · exact yes (Or.inr h2)
  have t2 : (a = 0 ∨ inR 0 3 (i + nI 1)) → ZV l Ω E 0 0 13 [(0, .int i), (1, .int a), (2, .int b), (3, .int c)] [] A n := by
    intro g1
    refine z_iload_n (pc := 13) C dX10_hasSizesFor_13 rfl ?_
    -- at 14: ifeq 
    refine z_if_eq (pc := 14) (tgt := 26) C dX10_hasSizesFor_14 (by decide) (fun h => ?_) (fun h => ?_)
    · exact t3 g1 (Or.inl h)
    · refine z_iload_n (pc := 17) C dX10_hasSizesFor_17 rfl ?_
      refine z_iconst (pc := 18) (v := nI 2) C dX10_hasSizesFor_18 (by decide) ?_
      first | with_reducible refine z_iaddN (pc := 19) C dX10_hasSizesFor_19 ?_ | refine z_iadd (pc := 19) C dX10_hasSizesFor_19 ?_
      -- at 20: invokestatic Method isSize:(I)Z
      refine z_callS (pc := 20) C dX10_hasSizesFor_20 zy_X10_isSize kw_286 kw_287 (ct_X10_isSize l Ω A n (i + nI 2)) rfl rfl ⟨⟨by decide, by decide⟩, by decide, by decide⟩ (Nat.le_of_ble_eq_true rfl) ?_; dsimp only [Option.toList_some, List.cons_append, List.nil_append]
      refine z_ifeqB (pc := 23) (tgt := 43) C dX10_hasSizesFor_23 (by decide) (fun h2 => ?_) (fun h2 => ?_)
      · exact no2 h h2
      · exact t3 g1 (Or.inr h2)
  refine z_iload_n (pc := 0) C dX10_hasSizesFor_0 rfl ?_
  -- at 1: ifeq 
  refine z_if_eq (pc := 1) (tgt := 13) C dX10_hasSizesFor_1 (by decide) (fun h => ?_) (fun h => ?_)
  · exact t2 (Or.inl h)
  · refine z_iload_n (pc := 4) C dX10_hasSizesFor_4 rfl ?_
    refine z_iconst (pc := 5) (v := nI 1) C dX10_hasSizesFor_5 (by decide) ?_
    first | with_reducible refine z_iaddN (pc := 6) C dX10_hasSizesFor_6 ?_ | refine z_iadd (pc := 6) C dX10_hasSizesFor_6 ?_
    -- at 7: invokestatic Method isSize:(I)Z
    refine z_callS (pc := 7) C dX10_hasSizesFor_7 zy_X10_isSize kw_286 kw_287 (ct_X10_isSize l Ω A n (i + nI 1)) rfl rfl ⟨⟨by decide, by decide⟩, by decide, by decide⟩ (Nat.le_of_ble_eq_true rfl) ?_; dsimp only [Option.toList_some, List.cons_append, List.nil_append]
    refine z_ifeqB (pc := 10) (tgt := 43) C dX10_hasSizesFor_10 (by decide) (fun h2 => ?_) (fun h2 => ?_)
    · exact no1 h h2
    · exact t2 (Or.inr h2)
/-- a contract of a method whose class is not plainly named -/
theorem ZM_ofF {l : Launch} {Ω : OmT} {y : MethodName} {cc : ByteArray} {nL : Nat} {ret : Option FieldType} {rm : Room} {av : List Value} {A : AHp} {n : Nat} {r : Option Value} {A' : AHp} {n' : Nat} (hy : plainFor y = true) (hav : (lg_sl av).length ≤ nL)
    (body : ∀ E : ZE, E.2.2.1 = nL → ZC Ω E cc y.cls ret rm y.name → ZQ Ω E r A' n' rm.cells rm.slots → ZV l Ω E 0 0 0 (lv_args 0 av) [] A n) : ZM l Ω y cc nL ret rm av A n r A' n' := by
  unfold ZM
  refine MetFree.of_bodySF (code := cc) (maxLocals := nL) (ret := ret) hy ?_ ?_
  · intro args s m h hn
    obtain ⟨meth, c, h1, h2, h3, h4, h5, h6, -, -⟩ := Cond.code_spec hn (atoms_spec (ws := .code y cc nL ret :: zTbl) h _ List.mem_cons_self)
    exact ⟨meth, c, h1, h2, h3, h4, h5, h6⟩
  · intro p e s m args below meth c s₁ B hml hP _
    have hh0 : s₁.heap = s.heap := by rw [B.state]; rfl
    obtain ⟨rfl, hR, hK⟩ := hP
    have hts := atoms_spec (ws := .code y cc nL ret :: zTbl) B.pre
    have hown : s.vm.findClass y.cls = some m.cls := findClass_of_methodNamed B.named
    have hl := lv_entry av (n := nL) hav
    have h9 := body ((p, e, rm, s), (m, av.toArray, below, meth, c), nL, MQ below (ZQc Ω r A' n') av.toArray s rm.cells rm.slots (fun q => Ω.2.2.1 ≤ q)) rfl ⟨B.exec, B.bytes, hml, hown, fun w hw => hts w (List.mem_cons_of_mem _ hw), B.returns, B.notSynchronized, (name_of_methodNamed B.named B.method).1, rfl, hK⟩ rfl s.heap [] _ hR (fun x hx => by cases hx) hl
    rw [lg_entry_eq]
    obtain ⟨t, a1, o, b1, b2, b3⟩ := h9 s₁ hh0 (Stand.of_body B)
    exact ⟨t, o, a1, b1, b2, ⟨b3.1, b3.2⟩⟩
set_option maxHeartbeats 4000000 in
set_option maxRecDepth 100000 in
theorem ct_J9_max_7cf53 (l : Launch) (Ω : OmT) (A : AHp) (n a b : Nat) (ha : a < 2147483648) (hb : b < 2147483648) : ZM l Ω yJ9_max_7cf53 cJ9_max_7cf53 2 (some .int) rm_J9_max_7cf53 [.int (nI a), .int (nI b)] (A) (n) (some (.int (nI (max a b)))) (A) (n) := by
  refine ZM_ofF (by decide +kernel) (Nat.le_of_ble_eq_true rfl) (fun E hE C hQ => ?_)
  refine z_iload_n (pc := 0) C dJ9_max_7cf53_0 rfl ?_
  refine z_iload_n (pc := 1) C dJ9_max_7cf53_1 rfl ?_
  -- at 2: if_icmplt 
  refine z_icmp_lt (pc := 2) (tgt := 9) C dJ9_max_7cf53_2 (by decide) (fun h => ?_) (fun h => ?_)
  · have h := (nI_ltI ha hb).mp h
    refine z_iload_n (pc := 9) C dJ9_max_7cf53_9 rfl ?_
    -- at 10: ireturn 
    exact z_iret (pc := 10) C hQ dJ9_max_7cf53_10 (by rw [Nat.max_eq_right (by omega)]) rfl rfl (by decide) (by decide)
  · have h : ¬ a < b := fun z => h ((nI_ltI ha hb).mpr z)
    refine z_iload_n (pc := 5) C dJ9_max_7cf53_5 rfl ?_
    refine z_goto (pc := 6) (tgt := 10) C dJ9_max_7cf53_6 (by decide) ?_
    -- at 10: ireturn 
    exact z_iret (pc := 10) C hQ dJ9_max_7cf53_10 (by rw [Nat.max_eq_left (by omega)]) rfl rfl (by decide) (by decide)
set_option maxHeartbeats 4000000 in
set_option maxRecDepth 100000 in
theorem ct_J9_max_f86c9 (l : Launch) (Ω : OmT) (A : AHp) (n : Nat) (a b : Int64) : ZM l Ω yJ9_max_f86c9 cJ9_max_f86c9 4 (some .long) rm_J9_max_f86c9 [.long a, .long b] (A) (n) (some (.long (if a < b then b else a))) (A) (n) := by
  refine ZM_ofF (by decide +kernel) (Nat.le_of_ble_eq_true rfl) (fun E hE C hQ => ?_)
  refine z_lload_n (pc := 0) C dJ9_max_f86c9_0 rfl ?_
  refine z_lload_n (pc := 1) C dJ9_max_f86c9_1 rfl ?_
  refine z_lcmp (pc := 2) C dJ9_max_f86c9_2 ?_
  -- at 3: iflt 
  refine z_if_lt (pc := 3) (tgt := 10) C dJ9_max_f86c9_3 (by decide) (fun h => ?_) (fun h => ?_)
  · refine z_lload_n (pc := 10) C dJ9_max_f86c9_10 rfl ?_
    -- at 11: lreturn 
    exact z_lret (pc := 11) C hQ dJ9_max_f86c9_11 (by rw [if_pos ((lg_cmp_lt _ _).mp h)]) rfl rfl (by decide) (by decide)
  · refine z_lload_n (pc := 6) C dJ9_max_f86c9_6 rfl ?_
    refine z_goto (pc := 7) (tgt := 11) C dJ9_max_f86c9_7 (by decide) ?_
    -- at 11: lreturn 
    exact z_lret (pc := 11) C hQ dJ9_max_f86c9_11 (by rw [if_neg (fun z => h ((lg_cmp_lt _ _).mpr z))]) rfl rfl (by decide) (by decide)
set_option maxHeartbeats 4000000 in
set_option maxRecDepth 100000 in
theorem ct_J9_abs_067f4 (l : Launch) (Ω : OmT) (A : AHp) (n : Nat) (a : Int64) : ZM l Ω yJ9_abs_067f4 cJ9_abs_067f4 2 (some .long) rm_J9_abs_067f4 [.long a] (A) (n) (some (.long (if a < 0 then -a else a))) (A) (n) := by
  refine ZM_ofF (by decide +kernel) (Nat.le_of_ble_eq_true rfl) (fun E hE C hQ => ?_)
  refine z_lload_n (pc := 0) C dJ9_abs_067f4_0 rfl ?_
  refine z_lconst (pc := 1) (v := 0) C dJ9_abs_067f4_1 (by decide) ?_
  refine z_lcmp (pc := 2) C dJ9_abs_067f4_2 ?_
  -- at 3: ifge 
  refine z_if_ge (pc := 3) (tgt := 11) C dJ9_abs_067f4_3 (by decide) (fun h => ?_) (fun h => ?_)
  · refine z_lload_n (pc := 11) C dJ9_abs_067f4_11 rfl ?_
    -- at 12: lreturn 
    exact z_lret (pc := 12) C hQ dJ9_abs_067f4_12 (by rw [if_neg (fun z => absurd ((lg_cmp_ge _ _).mp h) (lg_lt_not_le z))]) rfl rfl (by decide) (by decide)
  · have h1 : a < 0 := by
      rcases lg_tri a 0 with z | z | z
      · exact z
      · exact absurd ((lg_cmp_ge a 0).mpr (by rw [z]; exact Int64.le_refl 0)) h
      · exact absurd ((lg_cmp_ge a 0).mpr (Int64.le_of_lt z)) h
    refine z_lload_n (pc := 6) C dJ9_abs_067f4_6 rfl ?_
    refine z_lneg (pc := 7) C dJ9_abs_067f4_7 ?_
    refine z_goto (pc := 8) (tgt := 12) C dJ9_abs_067f4_8 (by decide) ?_
    -- at 12: lreturn 
    exact z_lret (pc := 12) C hQ dJ9_abs_067f4_12 (by rw [if_pos h1]) rfl rfl (by decide) (by decide)
set_option maxHeartbeats 4000000 in
set_option maxRecDepth 100000 in
theorem ct_J9_floorMod_7cf53 (l : Launch) (Ω : OmT) (A : AHp) (n : Nat) (t s : Nat) (ht : t < 6) (hs : s < 6) : ZM l Ω yJ9_floorMod_7cf53 cJ9_floorMod_7cf53 3 (some .int) rm_J9_floorMod_7cf53 [.int (nI t - nI s), .int (nI 6)] (A) (n) (some (.int (nI ((t + 6 - s) % 6)))) (A) (n) := by
  refine ZM_ofF (by decide +kernel) (Nat.le_of_ble_eq_true rfl) (fun E hE C hQ => ?_)
  have e1 : ∀ t : Nat, t < 6 → ∀ s : Nat, s < 6 → (if ((nI t - nI s) ^^^ nI 6) < 0 then (if (nI t - nI s) - (nI t - nI s) / nI 6 * nI 6 = 0 then (nI t - nI s) - (nI t - nI s) / nI 6 * nI 6 else (nI t - nI s) - (nI t - nI s) / nI 6 * nI 6 + nI 6) else (nI t - nI s) - (nI t - nI s) / nI 6 * nI 6) = nI ((t + 6 - s) % 6) := by decide +kernel
  have e1 := e1 t ht s hs
  refine z_iload_n (pc := 0) C dJ9_floorMod_7cf53_0 rfl ?_
  refine z_iload_n (pc := 1) C dJ9_floorMod_7cf53_1 rfl ?_
  -- at 2: irem 
  refine z_irem (pc := 2) C dJ9_floorMod_7cf53_2 (by decide) ?_
  refine z_istore_n (pc := 3) C dJ9_floorMod_7cf53_3 (by rw [hE]; decide) ?_
  refine z_iload_n (pc := 4) C dJ9_floorMod_7cf53_4 rfl ?_
  refine z_iload_n (pc := 5) C dJ9_floorMod_7cf53_5 rfl ?_
  refine z_ixor (pc := 6) C dJ9_floorMod_7cf53_6 ?_
  -- at 7: ifge 
  refine z_if_ge (pc := 7) (tgt := 18) C dJ9_floorMod_7cf53_7 (by decide) (fun h => ?_) (fun h => ?_)
  · rw [if_neg (Int32.not_lt.mpr h)] at e1
    refine z_iload_n (pc := 18) C dJ9_floorMod_7cf53_18 rfl ?_
    -- at 19: ireturn 
    exact z_iret (pc := 19) C hQ dJ9_floorMod_7cf53_19 (by rw [e1]) rfl rfl (by decide) (by decide)
  · rw [if_pos (Int32.not_le.mp h)] at e1
    refine z_iload_n (pc := 10) C dJ9_floorMod_7cf53_10 rfl ?_
    -- at 11: ifeq 
    refine z_if_eq (pc := 11) (tgt := 18) C dJ9_floorMod_7cf53_11 (by decide) (fun h2 => ?_) (fun h2 => ?_)
    · rw [if_pos h2] at e1
      refine z_iload_n (pc := 18) C dJ9_floorMod_7cf53_18 rfl ?_
      -- at 19: ireturn 
      exact z_iret (pc := 19) C hQ dJ9_floorMod_7cf53_19 (by rw [e1]) rfl rfl (by decide) (by decide)
    · rw [if_neg h2] at e1
      refine z_iload_n (pc := 14) C dJ9_floorMod_7cf53_14 rfl ?_
      refine z_iload_n (pc := 15) C dJ9_floorMod_7cf53_15 rfl ?_
      first | with_reducible refine z_iaddN (pc := 16) C dJ9_floorMod_7cf53_16 ?_ | refine z_iadd (pc := 16) C dJ9_floorMod_7cf53_16 ?_
      -- at 17: istore_2 
      exact z_iret (pc := 17) C hQ dJ9_floorMod_7cf53_17 (by rw [e1]) rfl rfl (by decide) (by decide)
set_option maxHeartbeats 4000000 in
set_option maxRecDepth 100000 in
theorem ct_X10_unitAt (l : Launch) (Ω : OmT) (σ : Sg) (hw : KW σ) (k : Nat) (hk : k < σ.2.2.2) : ZM l Ω yX10_unitAt cX10_unitAt 2 (some (.object "GrindWorks$Unit")) rm_X10_unitAt [rfO Ω 0, .int (nI k)] (hp Ω σ) (hN σ) (some (rfO Ω (bs σ.2.2.1 k))) (hp Ω σ) (hN σ) := by
  refine ZM_of (by decide) (Nat.le_of_ble_eq_true rfl) (fun E hE C hQ => ?_)
  have hn := hw.1
  refine z_iload_n (pc := 0) C dX10_unitAt_0 rfl ?_
  -- at 1: iflt 
  refine z_if_ltF (pc := 1) (tgt := 19) C dX10_unitAt_1 (by decide) (by omega) ?_
  refine z_iload_n (pc := 4) C dX10_unitAt_4 rfl ?_
  refine z_bipush (pc := 5) (v := nI 10) C dX10_unitAt_5 (by decide) ?_
  -- at 7: if_icmpge 
  refine z_icmp_geF (pc := 7) (tgt := 19) C dX10_unitAt_7 (by decide) (by omega) (by omega) (by omega) ?_
  first | refine z_aload_n (pc := 10) C dX10_unitAt_10 rfl ?_ | refine z_aload_nN (pc := 10) C dX10_unitAt_10 rfl ?_
  refine z_getf (pc := 11) C dX10_unitAt_11 zf_X10_13_9 rfl rfl ?_
  refine z_iload_n (pc := 14) C dX10_unitAt_14 rfl ?_
  -- at 15: aaload 
  refine z_aald (pc := 15) (N := 10) C dX10_unitAt_15 rfl (Or.inl rfl) (by omega) (by decide) ?_
  rw [if_pos hk]
  refine z_goto (pc := 16) (tgt := 20) C dX10_unitAt_16 (by decide) ?_
  -- at 20: areturn 
  exact z_aret (pc := 20) C hQ rfl (Or.inl ⟨_, rfl⟩) (Or.inr ⟨_, rfl⟩) dX10_unitAt_20 rfl rfl rfl (by decide) (by decide)
set_option maxHeartbeats 4000000 in
set_option maxRecDepth 100000 in
theorem ct_X10_unitAt_n (l : Launch) (Ω : OmT) (σ : Sg) (hw : KW σ) (u : Int32) (hu : ¬ isU σ.2.2.2 u) : ZM l Ω yX10_unitAt cX10_unitAt 2 (some (.object "GrindWorks$Unit")) rm_X10_unitAt [rfO Ω 0, .int u] (hp Ω σ) (hN σ) (some .null) (hp Ω σ) (hN σ) := by
  refine ZM_of (by decide) (Nat.le_of_ble_eq_true rfl) (fun E hE C hQ => ?_)
  have hn := hw.1
  refine z_iload_n (pc := 0) C dX10_unitAt_0 rfl ?_
  -- at 1: iflt 
  refine z_if_lt (pc := 1) (tgt := 19) C dX10_unitAt_1 (by decide) (fun h => ?_) (fun h => ?_)
  · refine z_null (pc := 19) C dX10_unitAt_19 ?_
    -- at 20: areturn 
    exact z_aret (pc := 20) C hQ rfl (Or.inl ⟨_, rfl⟩) (Or.inl rfl) dX10_unitAt_20 rfl rfl rfl (by decide) (by decide)
  · obtain ⟨k, hk, rfl⟩ := nI_of h
    refine z_iload_n (pc := 4) C dX10_unitAt_4 rfl ?_
    refine z_bipush (pc := 5) (v := nI 10) C dX10_unitAt_5 (by decide) ?_
    -- at 7: if_icmpge 
    refine z_icmp_ge (pc := 7) (tgt := 19) C dX10_unitAt_7 (by decide) (fun h2 => ?_) (fun h2 => ?_)
    · refine z_null (pc := 19) C dX10_unitAt_19 ?_
      -- at 20: areturn 
      exact z_aret (pc := 20) C hQ rfl (Or.inl ⟨_, rfl⟩) (Or.inl rfl) dX10_unitAt_20 rfl rfl rfl (by decide) (by decide)
    · have h3 : k < 10 := Nat.lt_of_not_le (fun z => h2 ((nI_leI (by decide) hk).mpr z))
      have h4 : ¬ k < σ.2.2.2 := fun z => hu (isU_nI (by omega) z)
      first | refine z_aload_n (pc := 10) C dX10_unitAt_10 rfl ?_ | refine z_aload_nN (pc := 10) C dX10_unitAt_10 rfl ?_
      refine z_getf (pc := 11) C dX10_unitAt_11 zf_X10_13_9 rfl rfl ?_
      refine z_iload_n (pc := 14) C dX10_unitAt_14 rfl ?_
      -- at 15: aaload 
      refine z_aald (pc := 15) (N := 10) C dX10_unitAt_15 rfl (Or.inl rfl) (by omega) (by decide) ?_
      rw [if_neg h4]
      refine z_goto (pc := 16) (tgt := 20) C dX10_unitAt_16 (by decide) ?_
      -- at 20: areturn 
      exact z_aret (pc := 20) C hQ rfl (Or.inl ⟨_, rfl⟩) (Or.inl rfl) dX10_unitAt_20 rfl rfl rfl (by decide) (by decide)
/-! every unit -/
set_option maxHeartbeats 4000000 in
set_option maxRecDepth 100000 in
theorem ct_X9_hasPort (l : Launch) (Ω : OmT) (σ : Sg) (hw : KW σ) (i κ : Nat) (hi : i < σ.2.2.2) (hq : σ.2.2.1 i = κ) (p : Int32) : ZM l Ω yX9_hasPort cX9_hasPort 2 (some .boolean) rm_X9_hasPort [rfO Ω (bs σ.2.2.1 i), .int p] (hp Ω σ) (hN σ) (some (.int (b01 (isU (upt κ) p)))) (hp Ω σ) (hN σ) := by
  refine ZM_of (by decide) (Nat.le_of_ble_eq_true rfl) (fun E hE C hQ => ?_)
  have h8 : κ < 8 := hq ▸ hw.2 i hi
  have hup := upt_le κ
  refine z_iload_n (pc := 0) C dX9_hasPort_0 rfl ?_
  -- at 1: iflt 
  refine z_if_lt (pc := 1) (tgt := 17) C dX9_hasPort_1 (by decide) (fun h => ?_) (fun h => ?_)
  · refine z_iconst (pc := 17) (v := nI 0) C dX9_hasPort_17 (by decide) ?_
    -- at 18: ireturn 
    exact z_zret (pc := 18) C hQ dX9_hasPort_18 rfl (by rw [b01_f (isU_lo h)]; rfl) rfl rfl (by decide) (by decide)
  · refine z_iload_n (pc := 4) C dX9_hasPort_4 rfl ?_
    first | refine z_aload_n (pc := 5) C dX9_hasPort_5 rfl ?_ | refine z_aload_nN (pc := 5) C dX9_hasPort_5 rfl ?_
    refine z_getf (pc := 6) C dX9_hasPort_6 (zfu_X9_25 h8) (hk_0 (κ := κ) (by exact hi) (by exact hq)) rfl ?_
    refine z_alen (pc := 9) C dX9_hasPort_9 (Rw.get (rw_leads (κ := κ) (by exact hw) (by exact hi) (by exact hq))) (by decide) ?_
    -- at 10: if_icmpge 
    refine z_icmp_ge (pc := 10) (tgt := 17) C dX9_hasPort_10 (by decide) (fun h2 => ?_) (fun h2 => ?_)
    · refine z_iconst (pc := 17) (v := nI 0) C dX9_hasPort_17 (by decide) ?_
      -- at 18: ireturn 
      exact z_zret (pc := 18) C hQ dX9_hasPort_18 rfl (by rw [b01_f (isU_hi (by omega) h2)]; rfl) rfl rfl (by decide) (by decide)
    · refine z_iconst (pc := 13) (v := nI 1) C dX9_hasPort_13 (by decide) ?_
      refine z_goto (pc := 14) (tgt := 18) C dX9_hasPort_14 (by decide) ?_
      -- at 18: ireturn 
      exact z_zret (pc := 18) C hQ dX9_hasPort_18 rfl (by rw [b01_t (isU_in (by omega) h h2)]; rfl) rfl rfl (by decide) (by decide)
set_option maxHeartbeats 4000000 in
set_option maxRecDepth 100000 in
theorem ct_X9_hasNumber (l : Launch) (Ω : OmT) (σ : Sg) (hw : KW σ) (i κ : Nat) (hi : i < σ.2.2.2) (hq : σ.2.2.1 i = κ) (p : Int32) : ZM l Ω yX9_hasNumber cX9_hasNumber 2 (some .boolean) rm_X9_hasNumber [rfO Ω (bs σ.2.2.1 i), .int p] (hp Ω σ) (hN σ) (some (.int (b01 (isU (unu κ) p)))) (hp Ω σ) (hN σ) := by
  refine ZM_of (by decide) (Nat.le_of_ble_eq_true rfl) (fun E hE C hQ => ?_)
  have h8 : κ < 8 := hq ▸ hw.2 i hi
  have hup := unu_le κ
  refine z_iload_n (pc := 0) C dX9_hasNumber_0 rfl ?_
  -- at 1: iflt 
  refine z_if_lt (pc := 1) (tgt := 17) C dX9_hasNumber_1 (by decide) (fun h => ?_) (fun h => ?_)
  · refine z_iconst (pc := 17) (v := nI 0) C dX9_hasNumber_17 (by decide) ?_
    -- at 18: ireturn 
    exact z_zret (pc := 18) C hQ dX9_hasNumber_18 rfl (by rw [b01_f (isU_lo h)]; rfl) rfl rfl (by decide) (by decide)
  · refine z_iload_n (pc := 4) C dX9_hasNumber_4 rfl ?_
    first | refine z_aload_n (pc := 5) C dX9_hasNumber_5 rfl ?_ | refine z_aload_nN (pc := 5) C dX9_hasNumber_5 rfl ?_
    refine z_getf (pc := 6) C dX9_hasNumber_6 (zfu_X9_42 h8) (hk_0 (κ := κ) (by exact hi) (by exact hq)) rfl ?_
    refine z_alen (pc := 9) C dX9_hasNumber_9 (Rw.get (rw_nums (κ := κ) (by exact hw) (by exact hi) (by exact hq))) (by decide) ?_
    -- at 10: if_icmpge 
    refine z_icmp_ge (pc := 10) (tgt := 17) C dX9_hasNumber_10 (by decide) (fun h2 => ?_) (fun h2 => ?_)
    · refine z_iconst (pc := 17) (v := nI 0) C dX9_hasNumber_17 (by decide) ?_
      -- at 18: ireturn 
      exact z_zret (pc := 18) C hQ dX9_hasNumber_18 rfl (by rw [b01_f (isU_hi (by omega) h2)]; rfl) rfl rfl (by decide) (by decide)
    · refine z_iconst (pc := 13) (v := nI 1) C dX9_hasNumber_13 (by decide) ?_
      refine z_goto (pc := 14) (tgt := 18) C dX9_hasNumber_14 (by decide) ?_
      -- at 18: ireturn 
      exact z_zret (pc := 18) C hQ dX9_hasNumber_18 rfl (by rw [b01_t (isU_in (by omega) h h2)]; rfl) rfl rfl (by decide) (by decide)
def r_chg (σ : Sg) (i k : Nat) (x : Int32) : Int32 := if inR (zSv 3 (σ.2.2.1 i)) (zSv 4 (σ.2.2.1 i)) x then σ.1 i 3 k else -2
def s_chg (σ : Sg) (i k : Nat) (x : Int32) : Sg := if inR (zSv 3 (σ.2.2.1 i)) (zSv 4 (σ.2.2.1 i)) x then sI σ i 3 k x else σ
set_option maxHeartbeats 4000000 in
set_option maxRecDepth 100000 in
theorem ct_X9_change (l : Launch) (Ω : OmT) (σ : Sg) (hw : KW σ) (i κ : Nat) (hi : i < σ.2.2.2) (hq : σ.2.2.1 i = κ) (k : Nat) (hk : k < unu κ) (x : Int32) : ZM l Ω yX9_change cX9_change 4 (some .int) rm_X9_change [rfO Ω (bs σ.2.2.1 i), .int (nI k), .int x] (hp Ω σ) (hN σ) (some (.int (r_chg σ i k x))) (hp Ω (s_chg σ i k x)) (hN σ) := by
  refine ZM_of (by decide) (Nat.le_of_ble_eq_true rfl) (fun E hE C hQ => ?_)
  have h8 : κ < 8 := hq ▸ hw.2 i hi
  have hup := unu_le κ
  have bad : ¬ inR (zSv 3 κ) (zSv 4 κ) x → ZV l Ω E 0 0 24 [(0, rfO Ω (bs σ.2.2.1 i)), (1, .int (nI k)), (2, .int x)] [] (hp Ω σ) (hN σ) := by
    intro h
    refine z_bipush (pc := 24) (v := (-2)) C dX9_change_24 (by decide) ?_
    -- at 26: ireturn 
    exact z_iret (pc := 26) C hQ dX9_change_26 (by unfold r_chg; rw [hq, if_neg h]) (by unfold s_chg; rw [hq, if_neg h]) rfl (by decide) (by decide)
  refine z_iload_n (pc := 0) C dX9_change_0 rfl ?_
  refine z_gets (pc := 1) C 3 (by decide) dX9_change_1 (by decide +kernel) ?_
  first | refine z_aload_n (pc := 4) C dX9_change_4 rfl ?_ | refine z_aload_nN (pc := 4) C dX9_change_4 rfl ?_
  refine z_getf (pc := 5) C dX9_change_5 (zfu_X9_18 h8) (hk_0 (κ := κ) (by exact hi) (by exact hq)) rfl ?_
  refine z_tald (pc := 8) C (by decide) h8 dX9_change_8 ?_
  -- at 9: if_icmplt 
  refine z_icmp_lt (pc := 9) (tgt := 24) C dX9_change_9 (by decide) (fun h => ?_) (fun h => ?_)
  · exact bad (fun z => absurd h (Int32.not_lt.mpr z.1))
  · refine z_iload_n (pc := 12) C dX9_change_12 rfl ?_
    refine z_gets (pc := 13) C 4 (by decide) dX9_change_13 (by decide +kernel) ?_
    first | refine z_aload_n (pc := 16) C dX9_change_16 rfl ?_ | refine z_aload_nN (pc := 16) C dX9_change_16 rfl ?_
    refine z_getf (pc := 17) C dX9_change_17 (zfu_X9_18 h8) (hk_0 (κ := κ) (by exact hi) (by exact hq)) rfl ?_
    refine z_tald (pc := 20) C (by decide) h8 dX9_change_20 ?_
    -- at 21: if_icmple 
    refine z_icmp_le (pc := 21) (tgt := 27) C dX9_change_21 (by decide) (fun h2 => ?_) (fun h2 => ?_)
    · have hx : inR (zSv 3 κ) (zSv 4 κ) x := ⟨Int32.not_lt.mp h, h2⟩
      first | refine z_aload_n (pc := 27) C dX9_change_27 rfl ?_ | refine z_aload_nN (pc := 27) C dX9_change_27 rfl ?_
      refine z_getf (pc := 28) C dX9_change_28 (zfu_X9_42 h8) (hk_0 (κ := κ) (by exact hi) (by exact hq)) rfl ?_
      refine z_iload_n (pc := 31) C dX9_change_31 rfl ?_
      refine z_iald (pc := 32) C dX9_change_32 (Rw.get (rw_nums (κ := κ) (by exact hw) (by exact hi) (by exact hq))) (by first | omega | decide) (by first | decide | omega) rfl ?_
      refine z_istore_n (pc := 33) C dX9_change_33 (by rw [hE]; decide) ?_
      first | refine z_aload_n (pc := 34) C dX9_change_34 rfl ?_ | refine z_aload_nN (pc := 34) C dX9_change_34 rfl ?_
      refine z_getf (pc := 35) C dX9_change_35 (zfu_X9_42 h8) (hk_0 (κ := κ) (by exact hi) (by exact hq)) rfl ?_
      refine z_iload_n (pc := 38) C dX9_change_38 rfl ?_
      refine z_iload_n (pc := 39) C dX9_change_39 rfl ?_
      refine z_iast (pc := 40) C dX9_change_40 (Rw.get (rw_nums (κ := κ) (by exact hw) (by exact hi) (by exact hq))) (by first | omega | decide) (by first | decide | omega) (Rw.el (rw_nums (κ := κ) (by exact hw) (by exact hi) (by exact hq))) ?_
      refine z_iload_n (pc := 41) C dX9_change_41 rfl ?_
      -- at 42: ireturn 
      exact z_iret (pc := 42) C hQ dX9_change_42 (by unfold r_chg; rw [hq, if_pos hx]) (by unfold s_chg; rw [hq, if_pos hx]) rfl (by decide) (by decide)
    · exact bad (fun z => h2 z.2)
set_option maxHeartbeats 4000000 in
set_option maxRecDepth 100000 in
theorem ct_X9_leadOf (l : Launch) (Ω : OmT) (σ : Sg) (hw : KW σ) (i κ : Nat) (hi : i < σ.2.2.2) (hq : σ.2.2.1 i = κ) (p : Nat) (hp2 : p < 2) : ZM l Ω yX9_leadOf cX9_leadOf 2 (some .int) rm_X9_leadOf [rfO Ω (bs σ.2.2.1 i), .int (nI p)] (hp Ω σ) (hN σ) (some (.int (if p < upt κ then σ.1 i 2 p else -1))) (hp Ω σ) (hN σ) := by
  refine ZM_of (by decide) (Nat.le_of_ble_eq_true rfl) (fun E hE C hQ => ?_)
  have h8 : κ < 8 := hq ▸ hw.2 i hi
  have hup := upt_le κ
  first | refine z_aload_n (pc := 0) C dX9_leadOf_0 rfl ?_ | refine z_aload_nN (pc := 0) C dX9_leadOf_0 rfl ?_
  refine z_iload_n (pc := 1) C dX9_leadOf_1 rfl ?_
  obtain ⟨q9_2, hq9_2, hs9_2⟩ := zsu_X9_hasPort h8
  refine z_callV (pc := 2) C dX9_leadOf_2 zy_X9_hasPort kw_481 kw_254 hq9_2 hs9_2 (hk_0 (κ := κ) (by exact hi) (by exact hq)) (ct_X9_hasPort l Ω σ hw i κ hi hq (nI p)) rfl rfl ⟨⟨by decide, by decide⟩, by decide, by decide⟩ (Nat.le_of_ble_eq_true rfl) ?_; dsimp only [Option.toList_some, List.cons_append, List.nil_append]
  -- at 5: ifeq 
  refine z_ifeqB (pc := 5) (tgt := 17) C dX9_leadOf_5 (by decide) (fun h => ?_) (fun h => ?_)
  · refine z_iconst (pc := 17) (v := (-1)) C dX9_leadOf_17 (by decide) ?_
    -- at 18: ireturn 
    exact z_iret (pc := 18) C hQ dX9_leadOf_18 (by rw [if_neg (fun z => h (isU_nI (by omega) z))]) rfl rfl (by decide) (by decide)
  · have h := (isU_nI_iff (by omega) (by omega)).mp h
    first | refine z_aload_n (pc := 8) C dX9_leadOf_8 rfl ?_ | refine z_aload_nN (pc := 8) C dX9_leadOf_8 rfl ?_
    refine z_getf (pc := 9) C dX9_leadOf_9 (zfu_X9_25 h8) (hk_0 (κ := κ) (by exact hi) (by exact hq)) rfl ?_
    refine z_iload_n (pc := 12) C dX9_leadOf_12 rfl ?_
    refine z_iald (pc := 13) C dX9_leadOf_13 (Rw.get (rw_leads (κ := κ) (by exact hw) (by exact hi) (by exact hq))) (by first | omega | decide) (by first | decide | omega) rfl ?_
    refine z_goto (pc := 14) (tgt := 18) C dX9_leadOf_14 (by decide) ?_
    -- at 18: ireturn 
    exact z_iret (pc := 18) C hQ dX9_leadOf_18 (by rw [if_pos h]) rfl rfl (by decide) (by decide)
set_option maxHeartbeats 4000000 in
set_option maxRecDepth 100000 in
theorem ct_X9_gaveBy (l : Launch) (Ω : OmT) (σ : Sg) (hw : KW σ) (i κ : Nat) (hi : i < σ.2.2.2) (hq : σ.2.2.1 i = κ) (p : Nat) (hp2 : p < 2) : ZM l Ω yX9_gaveBy cX9_gaveBy 2 (some .int) rm_X9_gaveBy [rfO Ω (bs σ.2.2.1 i), .int (nI p)] (hp Ω σ) (hN σ) (some (.int (if p < upt κ then l_sum (σ.1 i (10 + p)) 8 else nI 0))) (hp Ω σ) (hN σ) := by
  refine ZM_of (by decide) (Nat.le_of_ble_eq_true rfl) (fun E hE C hQ => ?_)
  have h8 : κ < 8 := hq ▸ hw.2 i hi
  have hup := upt_le κ
  first | refine z_aload_n (pc := 0) C dX9_gaveBy_0 rfl ?_ | refine z_aload_nN (pc := 0) C dX9_gaveBy_0 rfl ?_
  refine z_iload_n (pc := 1) C dX9_gaveBy_1 rfl ?_
  obtain ⟨q9_2, hq9_2, hs9_2⟩ := zsu_X9_hasPort h8
  refine z_callV (pc := 2) C dX9_gaveBy_2 zy_X9_hasPort kw_481 kw_254 hq9_2 hs9_2 (hk_0 (κ := κ) (by exact hi) (by exact hq)) (ct_X9_hasPort l Ω σ hw i κ hi hq (nI p)) rfl rfl ⟨⟨by decide, by decide⟩, by decide, by decide⟩ (Nat.le_of_ble_eq_true rfl) ?_; dsimp only [Option.toList_some, List.cons_append, List.nil_append]
  -- at 5: ifeq 
  refine z_ifeqB (pc := 5) (tgt := 20) C dX9_gaveBy_5 (by decide) (fun h => ?_) (fun h => ?_)
  · refine z_iconst (pc := 20) (v := nI 0) C dX9_gaveBy_20 (by decide) ?_
    -- at 21: ireturn 
    exact z_iret (pc := 21) C hQ dX9_gaveBy_21 (by rw [if_neg (fun z => h (isU_nI (by omega) z))]) rfl rfl (by decide) (by decide)
  · have h := (isU_nI_iff (by omega) (by omega)).mp h
    first | refine z_aload_n (pc := 8) C dX9_gaveBy_8 rfl ?_ | refine z_aload_nN (pc := 8) C dX9_gaveBy_8 rfl ?_
    refine z_getf (pc := 9) C dX9_gaveBy_9 (zfu_X9_36 h8) (hk_0 (κ := κ) (by exact hi) (by exact hq)) rfl ?_
    refine z_iload_n (pc := 12) C dX9_gaveBy_12 rfl ?_
    refine z_aald (pc := 13) C dX9_gaveBy_13 (hk_given (κ := κ) (by exact hi) (by exact hq)) (Or.inr rfl) (by first | decide | omega) (by first | decide | omega) ?_
    refine z_callSN (pc := 14) C dX9_gaveBy_14 zy_X10_total (by decide +kernel) kw_382 (ct_totalR l Ω σ _ (rw_giv hw hi hq h)) rfl rfl ⟨⟨by decide, by decide⟩, by decide, by decide⟩ (Nat.le_of_ble_eq_true rfl) ?_; dsimp only [Option.toList_some, List.cons_append, List.nil_append]
    refine z_goto (pc := 17) (tgt := 21) C dX9_gaveBy_17 (by decide) ?_
    -- at 21: ireturn 
    exact z_iret (pc := 21) C hQ dX9_gaveBy_21 (by rw [if_pos h]) rfl rfl (by decide) (by decide)
set_option maxHeartbeats 4000000 in
set_option maxRecDepth 100000 in
theorem ct_X9_take (l : Launch) (Ω : OmT) (σ : Sg) (hw : KW σ) (i : Nat) (hi : i < σ.2.2.2) (f : Int32) {i' k' a' : Nat} (h : Rw σ i' k' a' 8) (hne : ¬ (i' = i ∧ k' = 1)) : ZM l Ω yX9_take cX9_take 3 none rm_X9_take [rfO Ω (bs σ.2.2.1 i), .int f, rfO Ω (bs σ.2.2.1 i' + k')] (hp Ω σ) (hN σ) (none) (hp Ω (sR σ i 0 (addR (σ.1 i' a') (σ.1 i 0)))) (hN σ) := by
  refine ZM_of (by decide) (Nat.le_of_ble_eq_true rfl) (fun E hE C hQ => ?_)
  have hq : σ.2.2.1 i = σ.2.2.1 i := rfl
  have h8 := hw.2 i hi
  first | refine z_aload_n (pc := 0) C dX9_take_0 rfl ?_ | refine z_aload_nN (pc := 0) C dX9_take_0 rfl ?_
  first | refine z_aload_n (pc := 1) C dX9_take_1 rfl ?_ | refine z_aload_nN (pc := 1) C dX9_take_1 rfl ?_
  refine z_getf (pc := 2) C dX9_take_2 (zfu_X9_9 h8) (hk_0 (κ := _) (by exact hi) (by exact hq)) rfl ?_
  refine z_callSN (pc := 5) C dX9_take_5 zy_X10_add (by decide +kernel) kw_362 (ct_addR l Ω σ _ h (rw_held hw hi) hne (by decide) (by decide)) rfl rfl ⟨⟨by decide, by decide⟩, by decide, by decide⟩ (Nat.le_of_ble_eq_true rfl) ?_; dsimp only [Option.toList_none, List.nil_append]
  -- at 8: return 
  exact z_vret (pc := 8) C hQ dX9_take_8 rfl rfl rfl (by decide) (by decide)
