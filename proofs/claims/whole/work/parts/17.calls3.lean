/-! ===== the class: about, sums, what was led back, closings ===== -/
def cr_about (σ : Sg) (i : Nat) (w : Int32) : Int32 := if w = nI 0 then nI (σ.2.2.1 i) else if w = nI 1 then l_sum (σ.1 i 0) 8 else if w = nI 2 then vSl σ i else if w = nI 3 then vLo σ i else if w = nI 4 then vLc σ i else if w = nI 5 then (if 0 < upt (σ.2.2.1 i) then σ.1 i 2 0 else -1) else if w = nI 6 then (if 1 < upt (σ.2.2.1 i) then σ.1 i 2 1 else -1) else if w = nI 7 then (if σ.2.2.1 i = 0 ∧ ¬ σ.1 i 8 0 = 0 then nI 1 else nI 0) else if w = nI 8 then l_sum (σ.1 i 1) 8 else if w = nI 9 then (if 0 < upt (σ.2.2.1 i) then l_sum (σ.1 i (10 + 0)) 8 else nI 0) else if w = nI 10 then (if 1 < upt (σ.2.2.1 i) then l_sum (σ.1 i (10 + 1)) 8 else nI 0) else -1
set_option maxHeartbeats 4000000 in
set_option maxRecDepth 100000 in
theorem ct_X10_about_n (l : Launch) (Ω : OmT) (σ : Sg) (hw : KW σ) (u c : Int32) (hu : ¬ isU σ.2.2.2 u) : ZM l Ω yX10_about cX10_about 4 (some .int) rm_X10_about [rfO Ω 0, .int u, .int c] (hp Ω σ) (hN σ) (some (.int (-1))) (hp Ω σ) (hN σ) := by
  refine ZM_of (by decide) (Nat.le_of_ble_eq_true rfl) (fun E hE C hQ => ?_)
  first | refine z_aload_n (pc := 0) C dX10_about_0 rfl ?_ | refine z_aload_nN (pc := 0) C dX10_about_0 rfl ?_
  refine z_iload_n (pc := 1) C dX10_about_1 rfl ?_
  refine z_callV (pc := 2) (ci := 9) C dX10_about_2 zy_X10_unitAt kw_250 kw_251 rfl kw_831 rfl (ct_X10_unitAt_n l Ω σ hw u hu) rfl rfl ⟨⟨by decide, by decide⟩, by decide, by decide⟩ (Nat.le_of_ble_eq_true rfl) ?_; dsimp only [Option.toList_some, List.cons_append, List.nil_append]
  first | refine z_astore_n (pc := 5) C dX10_about_5 (by rw [hE]; decide) ?_ | refine z_astore_nN (pc := 5) C dX10_about_5 (by rw [hE]; decide) ?_
  first | refine z_aload_n (pc := 6) C dX10_about_6 rfl ?_ | refine z_aload_nN (pc := 6) C dX10_about_6 rfl ?_
  -- at 7: ifnonnull 
  first | refine z_ifnonnullN (pc := 7) C dX10_about_7 ?_ | refine z_ifnonnull (pc := 7) (tgt := 12) C dX10_about_7 (by decide) ?_
  refine z_iconst (pc := 10) (v := (-1)) C dX10_about_10 (by decide) ?_
  -- at 11: ireturn 
  exact z_iret (pc := 11) C hQ dX10_about_11 rfl rfl rfl (by decide) (by decide)
set_option maxHeartbeats 4000000 in
set_option maxRecDepth 100000 in
theorem ct_X10_about (l : Launch) (Ω : OmT) (σ : Sg) (hw : KW σ) (i κ : Nat) (hi : i < σ.2.2.2) (hq : σ.2.2.1 i = κ) (w : Int32) : ZM l Ω yX10_about cX10_about 4 (some .int) rm_X10_about [rfO Ω 0, .int (nI i), .int w] (hp Ω σ) (hN σ) (some (.int (cr_about σ i w))) (hp Ω σ) (hN σ) := by
  refine ZM_of (by decide) (Nat.le_of_ble_eq_true rfl) (fun E hE C hQ => ?_)
  have h8 : κ < 8 := hq ▸ hw.2 i hi
  first | refine z_aload_n (pc := 0) C dX10_about_0 rfl ?_ | refine z_aload_nN (pc := 0) C dX10_about_0 rfl ?_
  refine z_iload_n (pc := 1) C dX10_about_1 rfl ?_
  refine z_callV (pc := 2) (ci := 9) C dX10_about_2 zy_X10_unitAt kw_250 kw_251 rfl kw_831 rfl (ct_X10_unitAt l Ω σ hw i hi) rfl rfl ⟨⟨by decide, by decide⟩, by decide, by decide⟩ (Nat.le_of_ble_eq_true rfl) ?_; dsimp only [Option.toList_some, List.cons_append, List.nil_append]
  first | refine z_astore_n (pc := 5) C dX10_about_5 (by rw [hE]; decide) ?_ | refine z_astore_nN (pc := 5) C dX10_about_5 (by rw [hE]; decide) ?_
  first | refine z_aload_n (pc := 6) C dX10_about_6 rfl ?_ | refine z_aload_nN (pc := 6) C dX10_about_6 rfl ?_
  -- at 7: ifnonnull 
  first | refine z_ifnonnullN (pc := 7) C dX10_about_7 ?_ | refine z_ifnonnull (pc := 7) (tgt := 12) C dX10_about_7 (by decide) ?_
  refine z_iload_n (pc := 12) C dX10_about_12 rfl ?_
  -- at 13: tableswitch 0 to 10
  by_cases w0 : w = nI 0
  · subst w0
    refine z_tabInN (pc := 13) (a := 0) (tgt := 72) C dX10_about_13 (by decide) (by decide) rfl (by decide) (by decide) ?_
    first | refine z_aload_n (pc := 72) C dX10_about_72 rfl ?_ | refine z_aload_nN (pc := 72) C dX10_about_72 rfl ?_
    refine z_getf (pc := 73) C dX10_about_73 (zfu_X10_42 h8) (hk_0 (κ := κ) (by exact hi) (by exact hq)) rfl ?_
    -- at 76: ireturn 
    exact z_iret (pc := 76) C hQ dX10_about_76 (by rw [← hq]; rfl) rfl rfl (by decide) (by decide)
  by_cases w1 : w = nI 1
  · subst w1
    refine z_tabInN (pc := 13) (a := 1) (tgt := 77) C dX10_about_13 (by decide) (by decide) rfl (by decide) (by decide) ?_
    first | refine z_aload_n (pc := 77) C dX10_about_77 rfl ?_ | refine z_aload_nN (pc := 77) C dX10_about_77 rfl ?_
    refine z_getf (pc := 78) C dX10_about_78 (zfu_X10_92 h8) (hk_0 (κ := κ) (by exact hi) (by exact hq)) rfl ?_
    refine z_callS (pc := 81) C dX10_about_81 zy_X10_total kw_416 kw_382 (ct_totalR l Ω σ _ (rw_held hw hi)) rfl rfl ⟨⟨by decide, by decide⟩, by decide, by decide⟩ (Nat.le_of_ble_eq_true rfl) ?_; dsimp only [Option.toList_some, List.cons_append, List.nil_append]
    -- at 84: ireturn 
    exact z_iret (pc := 84) C hQ dX10_about_84 rfl rfl rfl (by decide) (by decide)
  by_cases w2 : w = nI 2
  · subst w2
    refine z_tabInN (pc := 13) (a := 2) (tgt := 85) C dX10_about_13 (by decide) (by decide) rfl (by decide) (by decide) ?_
    first | refine z_aload_n (pc := 85) C dX10_about_85 rfl ?_ | refine z_aload_nN (pc := 85) C dX10_about_85 rfl ?_
    -- at 86: invokevirtual Method GrindWorks$Unit.inSlots:()I
    refine zu_inSlots (pc := 86) C hw hi hq dX10_about_86 kw_417 ⟨⟨by decide, by decide⟩, by decide, by decide⟩ ⟨⟨by decide, by decide⟩, by decide, by decide⟩ (Nat.le_of_ble_eq_true rfl) ?_
    exact z_iret (pc := 89) C hQ dX10_about_89 rfl rfl rfl (by decide) (by decide)
  by_cases w3 : w = nI 3
  · subst w3
    refine z_tabInN (pc := 13) (a := 3) (tgt := 90) C dX10_about_13 (by decide) (by decide) rfl (by decide) (by decide) ?_
    first | refine z_aload_n (pc := 90) C dX10_about_90 rfl ?_ | refine z_aload_nN (pc := 90) C dX10_about_90 rfl ?_
    -- at 91: invokevirtual Method GrindWorks$Unit.inLots:()I
    refine zu_inLots (pc := 91) C hw hi hq dX10_about_91 kw_432 ⟨⟨by decide, by decide⟩, by decide, by decide⟩ ⟨⟨by decide, by decide⟩, by decide, by decide⟩ (Nat.le_of_ble_eq_true rfl) ?_
    exact z_iret (pc := 94) C hQ dX10_about_94 rfl rfl rfl (by decide) (by decide)
  by_cases w4 : w = nI 4
  · subst w4
    refine z_tabInN (pc := 13) (a := 4) (tgt := 95) C dX10_about_13 (by decide) (by decide) rfl (by decide) (by decide) ?_
    first | refine z_aload_n (pc := 95) C dX10_about_95 rfl ?_ | refine z_aload_nN (pc := 95) C dX10_about_95 rfl ?_
    -- at 96: invokevirtual Method GrindWorks$Unit.lotCount:()I
    refine zu_lotCount (pc := 96) C hw hi hq dX10_about_96 kw_457 ⟨⟨by decide, by decide⟩, by decide, by decide⟩ ⟨⟨by decide, by decide⟩, by decide, by decide⟩ (Nat.le_of_ble_eq_true rfl) ?_
    exact z_iret (pc := 99) C hQ dX10_about_99 rfl rfl rfl (by decide) (by decide)
  by_cases w5 : w = nI 5
  · subst w5
    refine z_tabInN (pc := 13) (a := 5) (tgt := 100) C dX10_about_13 (by decide) (by decide) rfl (by decide) (by decide) ?_
    first | refine z_aload_n (pc := 100) C dX10_about_100 rfl ?_ | refine z_aload_nN (pc := 100) C dX10_about_100 rfl ?_
    refine z_iconst (pc := 101) (v := nI 0) C dX10_about_101 (by decide) ?_
    obtain ⟨q9_102, hq9_102, hs9_102⟩ := zsu_X9_leadOf h8
    refine z_callV (pc := 102) C dX10_about_102 zy_X9_leadOf kw_470 kw_471 hq9_102 hs9_102 (hk_0 (κ := κ) (by exact hi) (by exact hq)) (ct_X9_leadOf l Ω σ hw i κ hi hq 0 (by decide)) rfl rfl ⟨⟨by decide, by decide⟩, by decide, by decide⟩ (Nat.le_of_ble_eq_true rfl) ?_; dsimp only [Option.toList_some, List.cons_append, List.nil_append]
    -- at 105: ireturn 
    exact z_iret (pc := 105) C hQ dX10_about_105 (by rw [← hq]; rfl) rfl rfl (by decide) (by decide)
  by_cases w6 : w = nI 6
  · subst w6
    refine z_tabInN (pc := 13) (a := 6) (tgt := 106) C dX10_about_13 (by decide) (by decide) rfl (by decide) (by decide) ?_
    first | refine z_aload_n (pc := 106) C dX10_about_106 rfl ?_ | refine z_aload_nN (pc := 106) C dX10_about_106 rfl ?_
    refine z_iconst (pc := 107) (v := nI 1) C dX10_about_107 (by decide) ?_
    obtain ⟨q9_108, hq9_108, hs9_108⟩ := zsu_X9_leadOf h8
    refine z_callV (pc := 108) C dX10_about_108 zy_X9_leadOf kw_470 kw_471 hq9_108 hs9_108 (hk_0 (κ := κ) (by exact hi) (by exact hq)) (ct_X9_leadOf l Ω σ hw i κ hi hq 1 (by decide)) rfl rfl ⟨⟨by decide, by decide⟩, by decide, by decide⟩ (Nat.le_of_ble_eq_true rfl) ?_; dsimp only [Option.toList_some, List.cons_append, List.nil_append]
    -- at 111: ireturn 
    exact z_iret (pc := 111) C hQ dX10_about_111 (by rw [← hq]; rfl) rfl rfl (by decide) (by decide)
  by_cases w7 : w = nI 7
  · subst w7
    have e7 : cr_about σ i (nI 7) = if σ.2.2.1 i = 0 ∧ ¬ σ.1 i 8 0 = 0 then nI 1 else nI 0 := rfl
    refine z_tabInN (pc := 13) (a := 7) (tgt := 112) C dX10_about_13 (by decide) (by decide) rfl (by decide) (by decide) ?_
    first | refine z_aload_n (pc := 112) C dX10_about_112 rfl ?_ | refine z_aload_nN (pc := 112) C dX10_about_112 rfl ?_
    refine z_callS (pc := 113) C dX10_about_113 zy_X10_isFeedThatIsOn kw_482 kw_483 (ct_X10_isFeedThatIsOn l Ω σ hw i κ hi hq) rfl rfl ⟨⟨by decide, by decide⟩, by decide, by decide⟩ (Nat.le_of_ble_eq_true rfl) ?_; dsimp only [Option.toList_some, List.cons_append, List.nil_append]
    -- at 116: ifeq 
    refine z_ifeqB (pc := 116) (tgt := 123) C dX10_about_116 (by decide) (fun h => ?_) (fun h => ?_)
    · refine z_iconst (pc := 123) (v := nI 0) C dX10_about_123 (by decide) ?_
      -- at 124: ireturn 
      exact z_iret (pc := 124) C hQ dX10_about_124 (by rw [e7, hq, if_neg h]) rfl rfl (by decide) (by decide)
    · refine z_iconst (pc := 119) (v := nI 1) C dX10_about_119 (by decide) ?_
      refine z_goto (pc := 120) (tgt := 124) C dX10_about_120 (by decide) ?_
      -- at 124
      exact z_iret (pc := 124) C hQ dX10_about_124 (by rw [e7, hq, if_pos h]) rfl rfl (by decide) (by decide)
  by_cases w8 : w = nI 8
  · subst w8
    refine z_tabInN (pc := 13) (a := 8) (tgt := 125) C dX10_about_13 (by decide) (by decide) rfl (by decide) (by decide) ?_
    first | refine z_aload_n (pc := 125) C dX10_about_125 rfl ?_ | refine z_aload_nN (pc := 125) C dX10_about_125 rfl ?_
    refine z_getf (pc := 126) C dX10_about_126 (zfu_X10_117 h8) (hk_0 (κ := κ) (by exact hi) (by exact hq)) rfl ?_
    refine z_callS (pc := 129) C dX10_about_129 zy_X10_total kw_416 kw_382 (ct_totalR l Ω σ _ (rw_spilt hw hi)) rfl rfl ⟨⟨by decide, by decide⟩, by decide, by decide⟩ (Nat.le_of_ble_eq_true rfl) ?_; dsimp only [Option.toList_some, List.cons_append, List.nil_append]
    -- at 132: ireturn 
    exact z_iret (pc := 132) C hQ dX10_about_132 rfl rfl rfl (by decide) (by decide)
  by_cases w9 : w = nI 9
  · subst w9
    refine z_tabInN (pc := 13) (a := 9) (tgt := 133) C dX10_about_13 (by decide) (by decide) rfl (by decide) (by decide) ?_
    first | refine z_aload_n (pc := 133) C dX10_about_133 rfl ?_ | refine z_aload_nN (pc := 133) C dX10_about_133 rfl ?_
    refine z_iconst (pc := 134) (v := nI 0) C dX10_about_134 (by decide) ?_
    obtain ⟨q9_135, hq9_135, hs9_135⟩ := zsu_X9_gaveBy h8
    refine z_callV (pc := 135) C dX10_about_135 zy_X9_gaveBy kw_485 kw_486 hq9_135 hs9_135 (hk_0 (κ := κ) (by exact hi) (by exact hq)) (ct_X9_gaveBy l Ω σ hw i κ hi hq 0 (by decide)) rfl rfl ⟨⟨by decide, by decide⟩, by decide, by decide⟩ (Nat.le_of_ble_eq_true rfl) ?_; dsimp only [Option.toList_some, List.cons_append, List.nil_append]
    -- at 138: ireturn 
    exact z_iret (pc := 138) C hQ dX10_about_138 (by rw [← hq]; rfl) rfl rfl (by decide) (by decide)
  by_cases w10 : w = nI 10
  · subst w10
    refine z_tabInN (pc := 13) (a := 10) (tgt := 139) C dX10_about_13 (by decide) (by decide) rfl (by decide) (by decide) ?_
    first | refine z_aload_n (pc := 139) C dX10_about_139 rfl ?_ | refine z_aload_nN (pc := 139) C dX10_about_139 rfl ?_
    refine z_iconst (pc := 140) (v := nI 1) C dX10_about_140 (by decide) ?_
    obtain ⟨q9_141, hq9_141, hs9_141⟩ := zsu_X9_gaveBy h8
    refine z_callV (pc := 141) C dX10_about_141 zy_X9_gaveBy kw_485 kw_486 hq9_141 hs9_141 (hk_0 (κ := κ) (by exact hi) (by exact hq)) (ct_X9_gaveBy l Ω σ hw i κ hi hq 1 (by decide)) rfl rfl ⟨⟨by decide, by decide⟩, by decide, by decide⟩ (Nat.le_of_ble_eq_true rfl) ?_; dsimp only [Option.toList_some, List.cons_append, List.nil_append]
    -- at 144: ireturn 
    exact z_iret (pc := 144) C hQ dX10_about_144 (by rw [← hq]; rfl) rfl rfl (by decide) (by decide)
  refine z_tabOut (pc := 13) (tgt := 145) C dX10_about_13 (sw_out 10 (by decide) (fun j hj => by match j, hj with | 0, _ => exact w0 | 1, _ => exact w1 | 2, _ => exact w2 | 3, _ => exact w3 | 4, _ => exact w4 | 5, _ => exact w5 | 6, _ => exact w6 | 7, _ => exact w7 | 8, _ => exact w8 | 9, _ => exact w9 | 10, _ => exact w10)) (by decide) ?_
  refine z_iconst (pc := 145) (v := (-1)) C dX10_about_145 (by decide) ?_
  -- at 146: ireturn 
  exact z_iret (pc := 146) C hQ dX10_about_146 (by simp [cr_about, w0, w1, w2, w3, w4, w5, w6, w7, w8, w9, w10]) rfl rfl (by decide) (by decide)
abbrev lNO : Int64 := -9223372036854775808
def cr_ledBack (σ : Sg) (e u z s : Int32) : Int64 := if ¬ isU σ.2.2.2 u then lNO else if ¬ inR 0 3 z then lNO else if ¬ inR 0 1 s then lNO else if ¬ isU σ.2.2.2 e then lNO else if ¬ σ.2.2.1 (tn e) = 7 then lNO else (σ.1 (tn e) (60 + tn u) (2 * tn z + tn s)).toInt64
set_option maxHeartbeats 4000000 in
set_option maxRecDepth 100000 in
theorem ct_X10_ledBack (l : Launch) (Ω : OmT) (σ : Sg) (hw : KW σ) (e u z s : Int32) : ZM l Ω yX10_ledBack cX10_ledBack 7 (some .long) rm_X10_ledBack [rfO Ω 0, .int e, .int u, .int z, .int s] (hp Ω σ) (hN σ) (some (.long (cr_ledBack σ e u z s))) (hp Ω σ) (hN σ) := by
  refine ZM_of (by decide) (Nat.le_of_ble_eq_true rfl) (fun E hE C hQ => ?_)
  have hn := hw.1
  have bad : cr_ledBack σ e u z s = lNO → ZV l Ω E 0 0 23 [(0, rfO Ω 0), (1, .int e), (2, .int u), (3, .int z), (4, .int s)] [] (hp Ω σ) (hN σ) := by
    intro g
    refine z_ldc2 (pc := 23) (v := -9223372036854775808) C dX10_ledBack_23 kw_507 ?_
    -- at 26: lreturn 
    exact z_lret (pc := 26) C hQ dX10_ledBack_26 (by rw [g]) rfl rfl (by decide) (by decide)
  have bad2 : ∀ v : Value, cr_ledBack σ e u z s = lNO → ZV l Ω E 0 0 63 [(0, rfO Ω 0), (1, .int e), (2, .int u), (3, .int z), (4, .int s), (6, v)] [] (hp Ω σ) (hN σ) := by
    intro v g
    refine z_ldc2 (pc := 63) (v := -9223372036854775808) C dX10_ledBack_63 kw_507 ?_
    -- at 66: lreturn 
    exact z_lret (pc := 66) C hQ dX10_ledBack_66 (by rw [g]) rfl rfl (by decide) (by decide)
  by_cases h1 : isU σ.2.2.2 u
  · obtain ⟨d, hd, ed⟩ := isU_of (by omega) h1
    subst ed
    first | refine z_aload_n (pc := 0) C dX10_ledBack_0 rfl ?_ | refine z_aload_nN (pc := 0) C dX10_ledBack_0 rfl ?_
    refine z_iload_n (pc := 1) C dX10_ledBack_1 rfl ?_
    refine z_callV (pc := 2) (ci := 9) C dX10_ledBack_2 zy_X10_unitAt kw_250 kw_251 rfl kw_831 rfl (ct_X10_unitAt l Ω σ hw d hd) rfl rfl ⟨⟨by decide, by decide⟩, by decide, by decide⟩ (Nat.le_of_ble_eq_true rfl) ?_; dsimp only [Option.toList_some, List.cons_append, List.nil_append]
    -- at 5: ifnull 
    first | refine z_ifnull (pc := 5) C dX10_ledBack_5 ?_ | refine z_ifnullN (pc := 5) (tgt := 23) C dX10_ledBack_5 (by decide) ?_
    refine z_iload_n (pc := 8) C dX10_ledBack_8 rfl ?_
    refine z_callS (pc := 9) C dX10_ledBack_9 zy_X10_isSize kw_286 kw_287 (ct_X10_isSize l Ω _ _ z) rfl rfl ⟨⟨by decide, by decide⟩, by decide, by decide⟩ (Nat.le_of_ble_eq_true rfl) ?_; dsimp only [Option.toList_some, List.cons_append, List.nil_append]
    -- at 12: ifeq 
    refine z_ifeqB (pc := 12) (tgt := 23) C dX10_ledBack_12 (by decide) (fun h => bad (by unfold cr_ledBack; rw [if_neg (fun z => z h1), if_pos h])) (fun h2 => ?_)
    refine z_iload (pc := 15) C dX10_ledBack_15 rfl ?_
    refine z_callS (pc := 17) C dX10_ledBack_17 zy_X10_isStuff kw_504 kw_505 (ct_X10_isStuff l Ω _ _ s) rfl rfl ⟨⟨by decide, by decide⟩, by decide, by decide⟩ (Nat.le_of_ble_eq_true rfl) ?_; dsimp only [Option.toList_some, List.cons_append, List.nil_append]
    -- at 20: ifne 
    refine z_ifneB (pc := 20) (tgt := 27) C dX10_ledBack_20 (by decide) (fun h3 => ?_) (fun h => bad (by unfold cr_ledBack; rw [if_neg (fun z => z h1), if_neg (fun z => z h2), if_pos h]))
    by_cases h4 : isU σ.2.2.2 e
    · obtain ⟨i, hi, ei⟩ := isU_of (by omega) h4
      subst ei
      have ti : tn (nI i) = i := tn_nI (by omega)
      first | refine z_aload_n (pc := 27) C dX10_ledBack_27 rfl ?_ | refine z_aload_nN (pc := 27) C dX10_ledBack_27 rfl ?_
      refine z_iload_n (pc := 28) C dX10_ledBack_28 rfl ?_
      refine z_callV (pc := 29) (ci := 9) C dX10_ledBack_29 zy_X10_unitAt kw_250 kw_251 rfl kw_831 rfl (ct_X10_unitAt l Ω σ hw i hi) rfl rfl ⟨⟨by decide, by decide⟩, by decide, by decide⟩ (Nat.le_of_ble_eq_true rfl) ?_; dsimp only [Option.toList_some, List.cons_append, List.nil_append]
      first | refine z_astore (pc := 32) C dX10_ledBack_32 (by rw [hE]; decide) ?_ | refine z_astoreN (pc := 32) C dX10_ledBack_32 (by rw [hE]; decide) ?_
      first | refine z_aload (pc := 34) C dX10_ledBack_34 rfl ?_ | refine z_aloadN (pc := 34) C dX10_ledBack_34 rfl ?_
      -- at 36: instanceof class GrindWorks$End
      by_cases h5 : σ.2.2.1 i = 7
      · have hq := h5
        have g5 : ¬ ¬ σ.2.2.1 (tn (nI i)) = 7 := by rw [ti]; exact fun z => z h5
        refine z_instY (pc := 36) (ci := 0) C dX10_ledBack_36 (hk_0 (κ := 7) hi hq) rfl kw_230 ?_
        refine z_if_eqF (pc := 39) (tgt := 63) (a := 1) C dX10_ledBack_39 (by decide) (by decide) (by decide) ?_
        first | refine z_aload (pc := 42) C dX10_ledBack_42 rfl ?_ | refine z_aloadN (pc := 42) C dX10_ledBack_42 rfl ?_
        -- at 44: checkcast class GrindWorks$End
        refine z_cast (pc := 44) (ci := 0) C dX10_ledBack_44 (hk_0 (κ := 7) hi hq) rfl kw_230 ?_
        have g2 := h2
        have g3 := h3
        obtain ⟨z, -, hz, ez⟩ := inR_of (by decide) (by decide) h2
        subst ez
        obtain ⟨s, -, hs, es⟩ := inR_of (by decide) (by decide) h3
        subst es
        first | refine z_astore (pc := 47) C dX10_ledBack_47 (by rw [hE]; decide) ?_ | refine z_astoreN (pc := 47) C dX10_ledBack_47 (by rw [hE]; decide) ?_
        first | refine z_aload (pc := 49) C dX10_ledBack_49 rfl ?_ | refine z_aloadN (pc := 49) C dX10_ledBack_49 rfl ?_
        refine z_iload_n (pc := 51) C dX10_ledBack_51 rfl ?_
        refine z_iconst (pc := 52) (v := nI 2) C dX10_ledBack_52 (by decide) ?_
        refine z_iload_n (pc := 53) C dX10_ledBack_53 rfl ?_
        first | with_reducible refine z_imulN (pc := 54) C dX10_ledBack_54 ?_ | refine z_imul (pc := 54) C dX10_ledBack_54 ?_
        refine z_iload (pc := 55) C dX10_ledBack_55 rfl ?_
        first | with_reducible refine z_iaddN (pc := 57) C dX10_ledBack_57 ?_ | refine z_iadd (pc := 57) C dX10_ledBack_57 ?_
        -- at 58: invokevirtual Method GrindWorks$End.cameFrom:(II)I
        refine z_callV (pc := 58) (ci := 0) C dX10_ledBack_58 zy_X0_cameFrom kw_533 kw_534 rfl kw_535 (hk_0 (κ := 7) (by exact hi) (by exact hq)) (ct_X0_cameFrom l Ω σ hw i hi hq d (2 * z + s) (by omega) (by omega)) rfl rfl ⟨⟨by decide, by decide⟩, by decide, by decide⟩ (Nat.le_of_ble_eq_true rfl) ?_; dsimp only [Option.toList_some, List.cons_append, List.nil_append]
        refine z_i2l (pc := 61) C dX10_ledBack_61 rfl ?_
        -- at 62: lreturn 
        exact z_lret (pc := 62) C hQ dX10_ledBack_62 (by unfold cr_ledBack; rw [if_neg (fun z => z h1), if_neg (fun z => z g2), if_neg (fun z => z g3), if_neg (fun z => z h4), if_neg g5, ti, tn_nI (by omega), tn_nI (by omega), tn_nI (by omega)]) rfl rfl (by decide) (by decide)
      · refine z_instNu (pc := 36) C (t := 7) "GrindWorks$End" (Or.inr (Or.inr ⟨rfl, rfl⟩)) hw hi rfl h5 dX10_ledBack_36 kw_230 ?_
        refine z_if_eqT (pc := 39) (tgt := 63) (a := 0) C dX10_ledBack_39 (by decide) rfl ?_
        exact bad2 _ (by unfold cr_ledBack; rw [if_neg (fun z => z h1), if_neg (fun z => z h2), if_neg (fun z => z h3), if_neg (fun z => z h4), if_pos (by rw [ti]; exact h5)])
    · first | refine z_aload_n (pc := 27) C dX10_ledBack_27 rfl ?_ | refine z_aload_nN (pc := 27) C dX10_ledBack_27 rfl ?_
      refine z_iload_n (pc := 28) C dX10_ledBack_28 rfl ?_
      refine z_callV (pc := 29) (ci := 9) C dX10_ledBack_29 zy_X10_unitAt kw_250 kw_251 rfl kw_831 rfl (ct_X10_unitAt_n l Ω σ hw e h4) rfl rfl ⟨⟨by decide, by decide⟩, by decide, by decide⟩ (Nat.le_of_ble_eq_true rfl) ?_; dsimp only [Option.toList_some, List.cons_append, List.nil_append]
      first | refine z_astore (pc := 32) C dX10_ledBack_32 (by rw [hE]; decide) ?_ | refine z_astoreN (pc := 32) C dX10_ledBack_32 (by rw [hE]; decide) ?_
      first | refine z_aload (pc := 34) C dX10_ledBack_34 rfl ?_ | refine z_aloadN (pc := 34) C dX10_ledBack_34 rfl ?_
      -- at 36: instanceof class GrindWorks$End
      refine z_instNull (pc := 36) C dX10_ledBack_36 ?_
      refine z_if_eqT (pc := 39) (tgt := 63) (a := 0) C dX10_ledBack_39 (by decide) rfl ?_
      exact bad2 _ (by unfold cr_ledBack; rw [if_neg (fun z => z h1), if_neg (fun z => z h2), if_neg (fun z => z h3), if_pos h4])
  · first | refine z_aload_n (pc := 0) C dX10_ledBack_0 rfl ?_ | refine z_aload_nN (pc := 0) C dX10_ledBack_0 rfl ?_
    refine z_iload_n (pc := 1) C dX10_ledBack_1 rfl ?_
    refine z_callV (pc := 2) (ci := 9) C dX10_ledBack_2 zy_X10_unitAt kw_250 kw_251 rfl kw_831 rfl (ct_X10_unitAt_n l Ω σ hw u h1) rfl rfl ⟨⟨by decide, by decide⟩, by decide, by decide⟩ (Nat.le_of_ble_eq_true rfl) ?_; dsimp only [Option.toList_some, List.cons_append, List.nil_append]
    -- at 5: ifnull 
    first | refine z_ifnull (pc := 5) C dX10_ledBack_5 ?_ | refine z_ifnullN (pc := 5) (tgt := 23) C dX10_ledBack_5 (by decide) ?_
    exact bad (by unfold cr_ledBack; rw [if_pos h1])
abbrev tSt (f : Nat → Int32) (s : Nat) : Int32 := l_sum (fun j => f (2 * j + s)) 4
def shS (σ : Sg) (i s w : Nat) : Int64 := if w = 0 then (if σ.2.2.1 i = 0 then (σ.1 i 6 s).toInt64 else 0) else if w = 1 then (if σ.2.2.1 i = 7 then (tSt (σ.1 i 0) s).toInt64 else 0) else if w = 2 then (tSt (σ.1 i 1) s).toInt64 else (if σ.2.2.1 i = 7 then 0 else (tSt (σ.1 i 0) s + vSt σ i s).toInt64)
set_option maxHeartbeats 4000000 in
set_option maxRecDepth 100000 in
theorem ct_X10_shareOfSum (l : Launch) (Ω : OmT) (σ : Sg) (hw : KW σ) (i κ : Nat) (hi : i < σ.2.2.2) (hq : σ.2.2.1 i = κ) (s w : Nat) (hs : s < 2) (hw4 : w < 4) : ZM l Ω yX10_shareOfSum cX10_shareOfSum 4 (some .long) rm_X10_shareOfSum [rfO Ω (bs σ.2.2.1 i), .int (nI s), .int (nI w)] (hp Ω σ) (hN σ) (some (.long (shS σ i s w))) (hp Ω σ) (hN σ) := by
  refine ZM_of (by decide) (Nat.le_of_ble_eq_true rfl) (fun E hE C hQ => ?_)
  have h8 : κ < 8 := hq ▸ hw.2 i hi
  refine z_iload_n (pc := 0) C dX10_shareOfSum_0 rfl ?_
  -- at 1: tableswitch 0 to 2
  match w, hw4 with
  | 0, _ =>
    have e : shS σ i s 0 = if σ.2.2.1 i = 0 then (σ.1 i 6 s).toInt64 else 0 := rfl
    refine z_tabInN (pc := 1) (a := 0) (tgt := 28) C dX10_shareOfSum_1 (by decide) (by decide) rfl (by decide) (by decide) ?_
    first | refine z_aload_n (pc := 28) C dX10_shareOfSum_28 rfl ?_ | refine z_aload_nN (pc := 28) C dX10_shareOfSum_28 rfl ?_
    -- at 29: instanceof class GrindWorks$Feed
    by_cases h2 : κ = 0
    · subst h2
      refine z_instY (pc := 29) (ci := 1) C dX10_shareOfSum_29 (hk_0 (κ := 0) hi hq) rfl kw_54 ?_
      refine z_if_eqF (pc := 32) (tgt := 50) (a := 1) C dX10_shareOfSum_32 (by decide) (by decide) (by decide) ?_
      first | refine z_aload_n (pc := 35) C dX10_shareOfSum_35 rfl ?_ | refine z_aload_nN (pc := 35) C dX10_shareOfSum_35 rfl ?_
      -- at 36: checkcast class GrindWorks$Feed
      refine z_cast (pc := 36) (ci := 1) C dX10_shareOfSum_36 (hk_0 (κ := 0) hi hq) rfl kw_54 ?_
      first | refine z_astore_n (pc := 39) C dX10_shareOfSum_39 (by rw [hE]; decide) ?_ | refine z_astore_nN (pc := 39) C dX10_shareOfSum_39 (by rw [hE]; decide) ?_
      first | refine z_aload_n (pc := 40) C dX10_shareOfSum_40 rfl ?_ | refine z_aload_nN (pc := 40) C dX10_shareOfSum_40 rfl ?_
      refine z_getf (pc := 41) C dX10_shareOfSum_41 zf_X10_231_1 (hk_0 (κ := 0) (by exact hi) (by exact hq)) rfl ?_
      refine z_iload_n (pc := 44) C dX10_shareOfSum_44 rfl ?_
      refine z_iald (pc := 45) C dX10_shareOfSum_45 (Rw.get (rw_fed (by exact hw) (by exact hi) (by exact hq))) (by first | omega | decide | (simp only [unu, upt]; omega)) (by first | decide | omega) rfl ?_
      refine z_i2l (pc := 46) C dX10_shareOfSum_46 rfl ?_
      refine z_goto (pc := 47) (tgt := 51) C dX10_shareOfSum_47 (by decide) ?_
      -- at 51
      exact z_lret (pc := 51) C hQ dX10_shareOfSum_51 (by rw [e, if_pos hq]) rfl rfl (by decide) (by decide)
    · refine z_instNu (pc := 29) C (t := 0) "GrindWorks$Feed" (Or.inl ⟨rfl, rfl⟩) hw hi hq h2 dX10_shareOfSum_29 kw_54 ?_
      refine z_if_eqT (pc := 32) (tgt := 50) (a := 0) C dX10_shareOfSum_32 (by decide) rfl ?_
      refine z_lconst (pc := 50) (v := 0) C dX10_shareOfSum_50 (by decide) ?_
      -- at 51: lreturn 
      exact z_lret (pc := 51) C hQ dX10_shareOfSum_51 (by rw [e, hq, if_neg h2]) rfl rfl (by decide) (by decide)
  | 1, _ =>
    have e : shS σ i s 1 = if σ.2.2.1 i = 7 then (tSt (σ.1 i 0) s).toInt64 else 0 := rfl
    refine z_tabInN (pc := 1) (a := 1) (tgt := 52) C dX10_shareOfSum_1 (by decide) (by decide) rfl (by decide) (by decide) ?_
    first | refine z_aload_n (pc := 52) C dX10_shareOfSum_52 rfl ?_ | refine z_aload_nN (pc := 52) C dX10_shareOfSum_52 rfl ?_
    refine z_getf (pc := 53) C dX10_shareOfSum_53 (zfu_X10_42 h8) (hk_0 (κ := κ) (by exact hi) (by exact hq)) rfl ?_
    refine z_bipush (pc := 56) (v := nI 7) C dX10_shareOfSum_56 (by decide) ?_
    -- at 58: if_icmpne 
    refine z_icmp_neX (pc := 58) (tgt := 73) C dX10_shareOfSum_58 (by decide) (by omega) (by decide) (fun h => ?_) (fun h => ?_)
    · refine z_lconst (pc := 73) (v := 0) C dX10_shareOfSum_73 (by decide) ?_
      -- at 74: lreturn 
      exact z_lret (pc := 74) C hQ dX10_shareOfSum_74 (by rw [e, hq, if_neg h]) rfl rfl (by decide) (by decide)
    · first | refine z_aload_n (pc := 61) C dX10_shareOfSum_61 rfl ?_ | refine z_aload_nN (pc := 61) C dX10_shareOfSum_61 rfl ?_
      refine z_getf (pc := 62) C dX10_shareOfSum_62 (zfu_X10_92 h8) (hk_0 (κ := κ) (by exact hi) (by exact hq)) rfl ?_
      refine z_iload_n (pc := 65) C dX10_shareOfSum_65 rfl ?_
      refine z_callS (pc := 66) C dX10_shareOfSum_66 zy_X10_totalOfStuff kw_511 kw_353 (ct_stuffR l Ω σ _ (rw_held hw hi) (by decide) hs) rfl rfl ⟨⟨by decide, by decide⟩, by decide, by decide⟩ (Nat.le_of_ble_eq_true rfl) ?_; dsimp only [Option.toList_some, List.cons_append, List.nil_append]
      refine z_i2l (pc := 69) C dX10_shareOfSum_69 rfl ?_
      refine z_goto (pc := 70) (tgt := 74) C dX10_shareOfSum_70 (by decide) ?_
      -- at 74
      exact z_lret (pc := 74) C hQ dX10_shareOfSum_74 (by rw [e, hq, if_pos h]) rfl rfl (by decide) (by decide)
  | 2, _ =>
    refine z_tabInN (pc := 1) (a := 2) (tgt := 75) C dX10_shareOfSum_1 (by decide) (by decide) rfl (by decide) (by decide) ?_
    first | refine z_aload_n (pc := 75) C dX10_shareOfSum_75 rfl ?_ | refine z_aload_nN (pc := 75) C dX10_shareOfSum_75 rfl ?_
    refine z_getf (pc := 76) C dX10_shareOfSum_76 (zfu_X10_117 h8) (hk_0 (κ := κ) (by exact hi) (by exact hq)) rfl ?_
    refine z_iload_n (pc := 79) C dX10_shareOfSum_79 rfl ?_
    refine z_callS (pc := 80) C dX10_shareOfSum_80 zy_X10_totalOfStuff kw_511 kw_353 (ct_stuffR l Ω σ _ (rw_spilt hw hi) (by decide) hs) rfl rfl ⟨⟨by decide, by decide⟩, by decide, by decide⟩ (Nat.le_of_ble_eq_true rfl) ?_; dsimp only [Option.toList_some, List.cons_append, List.nil_append]
    refine z_i2l (pc := 83) C dX10_shareOfSum_83 rfl ?_
    -- at 84: lreturn 
    exact z_lret (pc := 84) C hQ dX10_shareOfSum_84 rfl rfl rfl (by decide) (by decide)
  | 3, _ =>
    have e : shS σ i s 3 = if σ.2.2.1 i = 7 then 0 else (tSt (σ.1 i 0) s + vSt σ i s).toInt64 := rfl
    refine z_tabOutN (pc := 1) (tgt := 85) C dX10_shareOfSum_1 (Or.inr (by decide)) (by decide) (by omega) ?_
    first | refine z_aload_n (pc := 85) C dX10_shareOfSum_85 rfl ?_ | refine z_aload_nN (pc := 85) C dX10_shareOfSum_85 rfl ?_
    refine z_getf (pc := 86) C dX10_shareOfSum_86 (zfu_X10_42 h8) (hk_0 (κ := κ) (by exact hi) (by exact hq)) rfl ?_
    refine z_bipush (pc := 89) (v := nI 7) C dX10_shareOfSum_89 (by decide) ?_
    -- at 91: if_icmpne 
    refine z_icmp_neX (pc := 91) (tgt := 98) C dX10_shareOfSum_91 (by decide) (by omega) (by decide) (fun h => ?_) (fun h => ?_)
    · first | refine z_aload_n (pc := 98) C dX10_shareOfSum_98 rfl ?_ | refine z_aload_nN (pc := 98) C dX10_shareOfSum_98 rfl ?_
      refine z_getf (pc := 99) C dX10_shareOfSum_99 (zfu_X10_92 h8) (hk_0 (κ := κ) (by exact hi) (by exact hq)) rfl ?_
      refine z_iload_n (pc := 102) C dX10_shareOfSum_102 rfl ?_
      refine z_callS (pc := 103) C dX10_shareOfSum_103 zy_X10_totalOfStuff kw_511 kw_353 (ct_stuffR l Ω σ _ (rw_held hw hi) (by decide) hs) rfl rfl ⟨⟨by decide, by decide⟩, by decide, by decide⟩ (Nat.le_of_ble_eq_true rfl) ?_; dsimp only [Option.toList_some, List.cons_append, List.nil_append]
      first | refine z_aload_n (pc := 106) C dX10_shareOfSum_106 rfl ?_ | refine z_aload_nN (pc := 106) C dX10_shareOfSum_106 rfl ?_
      refine z_iload_n (pc := 107) C dX10_shareOfSum_107 rfl ?_
      -- at 108: invokevirtual Method GrindWorks$Unit.storedOfStuff:(I)I
      refine zu_storedOfStuff (pc := 108) C hs hw hi hq dX10_shareOfSum_108 kw_512 ⟨⟨by decide, by decide⟩, by decide, by decide⟩ ⟨⟨by decide, by decide⟩, by decide, by decide⟩ ⟨⟨by decide, by decide⟩, by decide, by decide⟩ (Nat.le_of_ble_eq_true rfl) ?_
      first | with_reducible refine z_iaddN (pc := 111) C dX10_shareOfSum_111 ?_ | refine z_iadd (pc := 111) C dX10_shareOfSum_111 ?_
      refine z_i2l (pc := 112) C dX10_shareOfSum_112 rfl ?_
      -- at 113: lreturn 
      exact z_lret (pc := 113) C hQ dX10_shareOfSum_113 (by rw [e, hq, if_neg h]) rfl rfl (by decide) (by decide)
    · refine z_lconst (pc := 94) (v := 0) C dX10_shareOfSum_94 (by decide) ?_
      refine z_goto (pc := 95) (tgt := 113) C dX10_shareOfSum_95 (by decide) ?_
      -- at 113
      exact z_lret (pc := 113) C hQ dX10_shareOfSum_113 (by rw [e, hq, if_pos h]) rfl rfl (by decide) (by decide)
def cSum (σ : Sg) (s w : Nat) : Nat → Int64
  | 0 => 0
  | k + 1 => if k < σ.2.2.2 then cSum σ s w k + shS σ k s w else cSum σ s w k
set_option maxHeartbeats 4000000 in
set_option maxRecDepth 100000 in
theorem ct_X10_sum_n (l : Launch) (Ω : OmT) (σ : Sg) (s w : Int32) (h : ¬ (inR 0 1 s ∧ inR 0 3 w)) : ZM l Ω yX10_sum cX10_sum 7 (some .long) rm_X10_sum [rfO Ω 0, .int s, .int w] (hp Ω σ) (hN σ) (some (.long lNO)) (hp Ω σ) (hN σ) := by
  refine ZM_of (by decide) (Nat.le_of_ble_eq_true rfl) (fun E hE C hQ => ?_)
  have bad : ZV l Ω E 0 0 16 [(0, rfO Ω 0), (1, .int s), (2, .int w)] [] (hp Ω σ) (hN σ) := by
    refine z_ldc2 (pc := 16) (v := -9223372036854775808) C dX10_sum_16 kw_507 ?_
    -- at 19: lreturn 
    exact z_lret (pc := 19) C hQ dX10_sum_19 rfl rfl rfl (by decide) (by decide)
  refine z_iload_n (pc := 0) C dX10_sum_0 rfl ?_
  refine z_callS (pc := 1) C dX10_sum_1 zy_X10_isStuff kw_504 kw_505 (ct_X10_isStuff l Ω _ _ s) rfl rfl ⟨⟨by decide, by decide⟩, by decide, by decide⟩ (Nat.le_of_ble_eq_true rfl) ?_; dsimp only [Option.toList_some, List.cons_append, List.nil_append]
  -- at 4: ifeq 
  refine z_ifeqB (pc := 4) (tgt := 16) C dX10_sum_4 (by decide) (fun _ => bad) (fun h1 => ?_)
  refine z_iload_n (pc := 7) C dX10_sum_7 rfl ?_
  -- at 8: iflt 
  refine z_if_lt (pc := 8) (tgt := 16) C dX10_sum_8 (by decide) (fun _ => bad) (fun h2 => ?_)
  refine z_iload_n (pc := 11) C dX10_sum_11 rfl ?_
  refine z_iconst (pc := 12) (v := nI 3) C dX10_sum_12 (by decide) ?_
  -- at 13: if_icmple 
  refine z_icmp_le (pc := 13) (tgt := 20) C dX10_sum_13 (by decide) (fun h3 => absurd ⟨h1, Int32.not_lt.mp h2, h3⟩ h) (fun _ => bad)
set_option maxHeartbeats 4000000 in
set_option maxRecDepth 100000 in
theorem ct_X10_sum (l : Launch) (Ω : OmT) (σ : Sg) (hw : KW σ) (s w : Nat) (hs : s < 2) (hw4 : w < 4) : ZM l Ω yX10_sum cX10_sum 7 (some .long) rm_X10_sum [rfO Ω 0, .int (nI s), .int (nI w)] (hp Ω σ) (hN σ) (some (.long (cSum σ s w 10))) (hp Ω σ) (hN σ) := by
  refine ZM_of (by decide) (Nat.le_of_ble_eq_true rfl) (fun E hE C hQ => ?_)
  have loop : ∀ (k j : Nat), j + k = 10 → ZV l Ω E 0 0 25 [(0, rfO Ω 0), (1, .int (nI s)), (2, .int (nI w)), (3, .long (cSum σ s w j)), (5, .int (nI j))] [] (hp Ω σ) (hN σ) := by
    intro k
    induction k with
    | zero =>
      intro j hj
      obtain rfl : j = 10 := by omega
      refine z_iload (pc := 25) C dX10_sum_25 rfl ?_
      refine z_bipush (pc := 27) (v := nI 10) C dX10_sum_27 (by decide) ?_
      -- at 29: if_icmpge 
      refine z_icmp_geT (pc := 29) (tgt := 62) C dX10_sum_29 (by decide) (by omega) (by omega) (by omega) ?_
      refine z_lload_n (pc := 62) C dX10_sum_62 rfl ?_
      -- at 63: lreturn 
      exact z_lret (pc := 63) C hQ dX10_sum_63 rfl rfl rfl (by decide) (by decide)
    | succ k ih =>
      intro j hj
      have h9 := ih (j + 1) (by omega)
      rw [show cSum σ s w (j + 1) = if j < σ.2.2.2 then cSum σ s w j + shS σ j s w else cSum σ s w j from rfl] at h9
      refine z_iload (pc := 25) C dX10_sum_25 rfl ?_
      refine z_bipush (pc := 27) (v := nI 10) C dX10_sum_27 (by decide) ?_
      -- at 29: if_icmpge 
      refine z_icmp_geF (pc := 29) (tgt := 62) C dX10_sum_29 (by decide) (by omega) (by omega) (by omega) ?_
      first | refine z_aload_n (pc := 32) C dX10_sum_32 rfl ?_ | refine z_aload_nN (pc := 32) C dX10_sum_32 rfl ?_
      refine z_getf (pc := 33) C dX10_sum_33 zf_X10_13_9 rfl rfl ?_
      refine z_iload (pc := 36) C dX10_sum_36 rfl ?_
      -- at 38: aaload 
      refine z_aald (pc := 38) (N := 10) C dX10_sum_38 rfl (Or.inl rfl) (by omega) (by decide) ?_
      by_cases hjn : j < σ.2.2.2
      · rw [if_pos hjn]
        rw [if_pos hjn] at h9
        first | refine z_astore (pc := 39) C dX10_sum_39 (by rw [hE]; decide) ?_ | refine z_astoreN (pc := 39) C dX10_sum_39 (by rw [hE]; decide) ?_
        first | refine z_aload (pc := 41) C dX10_sum_41 rfl ?_ | refine z_aloadN (pc := 41) C dX10_sum_41 rfl ?_
        -- at 43: ifnull 
        first | refine z_ifnull (pc := 43) C dX10_sum_43 ?_ | refine z_ifnullN (pc := 43) (tgt := 56) C dX10_sum_43 (by decide) ?_
        refine z_lload_n (pc := 46) C dX10_sum_46 rfl ?_
        first | refine z_aload (pc := 47) C dX10_sum_47 rfl ?_ | refine z_aloadN (pc := 47) C dX10_sum_47 rfl ?_
        refine z_iload_n (pc := 49) C dX10_sum_49 rfl ?_
        refine z_iload_n (pc := 50) C dX10_sum_50 rfl ?_
        -- at 51: invokestatic Method shareOfSum:(LGrindWorks$Unit;II)J
        refine z_callS (pc := 51) C dX10_sum_51 zy_X10_shareOfSum kw_508 kw_509 (ct_X10_shareOfSum l Ω σ hw j _ hjn rfl s w hs hw4) rfl rfl ⟨⟨by decide, by decide⟩, by decide, by decide⟩ (Nat.le_of_ble_eq_true rfl) ?_; dsimp only [Option.toList_some, List.cons_append, List.nil_append]
        refine z_ladd (pc := 54) C dX10_sum_54 ?_
        refine z_lstore_n (pc := 55) C dX10_sum_55 (by rw [hE]; decide) ?_
        first | refine z_iincN (pc := 56) C dX10_sum_56 rfl (by rw [hE]; decide) ?_ | refine z_iinc (pc := 56) C dX10_sum_56 rfl rfl (by rw [hE]; decide) ?_
        refine z_goto (pc := 59) (tgt := 25) C dX10_sum_59 (by decide) ?_
        -- at 25
        refine z_pick [0, 1, 2, 3, 5] rfl ?_
        exact h9
      · rw [if_neg hjn]
        rw [if_neg hjn] at h9
        first | refine z_astore (pc := 39) C dX10_sum_39 (by rw [hE]; decide) ?_ | refine z_astoreN (pc := 39) C dX10_sum_39 (by rw [hE]; decide) ?_
        first | refine z_aload (pc := 41) C dX10_sum_41 rfl ?_ | refine z_aloadN (pc := 41) C dX10_sum_41 rfl ?_
        -- at 43: ifnull 
        first | refine z_ifnull (pc := 43) C dX10_sum_43 ?_ | refine z_ifnullN (pc := 43) (tgt := 56) C dX10_sum_43 (by decide) ?_
        first | refine z_iincN (pc := 56) C dX10_sum_56 rfl (by rw [hE]; decide) ?_ | refine z_iinc (pc := 56) C dX10_sum_56 rfl rfl (by rw [hE]; decide) ?_
        refine z_goto (pc := 59) (tgt := 25) C dX10_sum_59 (by decide) ?_
        -- at 25
        refine z_pick [0, 1, 2, 3, 5] rfl ?_
        exact h9
  refine z_iload_n (pc := 0) C dX10_sum_0 rfl ?_
  refine z_callS (pc := 1) C dX10_sum_1 zy_X10_isStuff kw_504 kw_505 (ct_X10_isStuff l Ω _ _ (nI s)) rfl rfl ⟨⟨by decide, by decide⟩, by decide, by decide⟩ (Nat.le_of_ble_eq_true rfl) ?_; dsimp only [Option.toList_some, List.cons_append, List.nil_append]
  -- at 4: ifeq 
  refine z_ifeqB (pc := 4) (tgt := 16) C dX10_sum_4 (by decide) (fun h => absurd (inR_nI (by omega) (by omega) (by decide)) h) (fun h1 => ?_)
  refine z_iload_n (pc := 7) C dX10_sum_7 rfl ?_
  -- at 8: iflt 
  refine z_if_ltF (pc := 8) (tgt := 16) C dX10_sum_8 (by decide) (by omega) ?_
  refine z_iload_n (pc := 11) C dX10_sum_11 rfl ?_
  refine z_iconst (pc := 12) (v := nI 3) C dX10_sum_12 (by decide) ?_
  -- at 13: if_icmple 
  refine z_icmp_leT (pc := 13) (tgt := 20) C dX10_sum_13 (by decide) (by omega) (by omega) (by omega) ?_
  refine z_lconst (pc := 20) (v := 0) C dX10_sum_20 (by decide) ?_
  refine z_lstore_n (pc := 21) C dX10_sum_21 (by rw [hE]; decide) ?_
  refine z_iconst (pc := 22) (v := nI 0) C dX10_sum_22 (by decide) ?_
  refine z_istore (pc := 23) C dX10_sum_23 (by rw [hE]; decide) ?_
  -- at 25: iload 
  exact loop 10 0 (by omega)
set_option maxHeartbeats 4000000 in
set_option maxRecDepth 100000 in
theorem ct_X10_close_n (l : Launch) (Ω : OmT) (σ : Sg) (hw : KW σ) (u w q : Int32) (hu : ¬ isU σ.2.2.2 u) : ZM l Ω yX10_close cX10_close 6 (some .long) rm_X10_close [rfO Ω 0, .int u, .int w, .int q] (hp Ω σ) (hN σ) (some (.long lNO)) (hp Ω σ) (hN σ) := by
  refine ZM_of (by decide) (Nat.le_of_ble_eq_true rfl) (fun E hE C hQ => ?_)
  first | refine z_aload_n (pc := 0) C dX10_close_0 rfl ?_ | refine z_aload_nN (pc := 0) C dX10_close_0 rfl ?_
  refine z_iload_n (pc := 1) C dX10_close_1 rfl ?_
  refine z_callV (pc := 2) (ci := 9) C dX10_close_2 zy_X10_unitAt kw_250 kw_251 rfl kw_831 rfl (ct_X10_unitAt_n l Ω σ hw u hu) rfl rfl ⟨⟨by decide, by decide⟩, by decide, by decide⟩ (Nat.le_of_ble_eq_true rfl) ?_; dsimp only [Option.toList_some, List.cons_append, List.nil_append]
  first | refine z_astore (pc := 5) C dX10_close_5 (by rw [hE]; decide) ?_ | refine z_astoreN (pc := 5) C dX10_close_5 (by rw [hE]; decide) ?_
  first | refine z_aload (pc := 7) C dX10_close_7 rfl ?_ | refine z_aloadN (pc := 7) C dX10_close_7 rfl ?_
  -- at 9: ifnull 
  first | refine z_ifnull (pc := 9) C dX10_close_9 ?_ | refine z_ifnullN (pc := 9) (tgt := 21) C dX10_close_9 (by decide) ?_
  refine z_ldc2 (pc := 21) (v := -9223372036854775808) C dX10_close_21 kw_507 ?_
  -- at 24: lreturn 
  exact z_lret (pc := 24) C hQ dX10_close_24 rfl rfl rfl (by decide) (by decide)
set_option maxHeartbeats 4000000 in
set_option maxRecDepth 100000 in
theorem ct_X10_close_b (l : Launch) (Ω : OmT) (σ : Sg) (hw : KW σ) (i κ : Nat) (hi : i < σ.2.2.2) (hq : σ.2.2.1 i = κ) (w q : Int32) (hb : ¬ ((¬ κ = 0 ∧ ¬ κ = 7) ∧ isU (1 + upt κ) w ∧ inR 0 1 q)) : ZM l Ω yX10_close cX10_close 6 (some .long) rm_X10_close [rfO Ω 0, .int (nI i), .int w, .int q] (hp Ω σ) (hN σ) (some (.long lNO)) (hp Ω σ) (hN σ) := by
  refine ZM_of (by decide) (Nat.le_of_ble_eq_true rfl) (fun E hE C hQ => ?_)
  have h8 : κ < 8 := hq ▸ hw.2 i hi
  have hup := upt_le κ
  have bad : ZV l Ω E 0 0 21 [(0, rfO Ω 0), (1, .int (nI i)), (2, .int w), (3, .int q), (4, rfO Ω (bs σ.2.2.1 i))] [] (hp Ω σ) (hN σ) := by
    refine z_ldc2 (pc := 21) (v := -9223372036854775808) C dX10_close_21 kw_507 ?_
    -- at 24: lreturn 
    exact z_lret (pc := 24) C hQ dX10_close_24 rfl rfl rfl (by decide) (by decide)
  first | refine z_aload_n (pc := 0) C dX10_close_0 rfl ?_ | refine z_aload_nN (pc := 0) C dX10_close_0 rfl ?_
  refine z_iload_n (pc := 1) C dX10_close_1 rfl ?_
  refine z_callV (pc := 2) (ci := 9) C dX10_close_2 zy_X10_unitAt kw_250 kw_251 rfl kw_831 rfl (ct_X10_unitAt l Ω σ hw i hi) rfl rfl ⟨⟨by decide, by decide⟩, by decide, by decide⟩ (Nat.le_of_ble_eq_true rfl) ?_; dsimp only [Option.toList_some, List.cons_append, List.nil_append]
  first | refine z_astore (pc := 5) C dX10_close_5 (by rw [hE]; decide) ?_ | refine z_astoreN (pc := 5) C dX10_close_5 (by rw [hE]; decide) ?_
  first | refine z_aload (pc := 7) C dX10_close_7 rfl ?_ | refine z_aloadN (pc := 7) C dX10_close_7 rfl ?_
  -- at 9: ifnull 
  first | refine z_ifnull (pc := 9) C dX10_close_9 ?_ | refine z_ifnullN (pc := 9) (tgt := 21) C dX10_close_9 (by decide) ?_
  refine z_iload_n (pc := 12) C dX10_close_12 rfl ?_
  -- at 13: iflt 
  refine z_if_lt (pc := 13) (tgt := 21) C dX10_close_13 (by decide) (fun _ => bad) (fun h1 => ?_)
  refine z_iload_n (pc := 16) C dX10_close_16 rfl ?_
  refine z_iconst (pc := 17) (v := nI 1) C dX10_close_17 (by decide) ?_
  -- at 18: if_icmple 
  refine z_icmp_le (pc := 18) (tgt := 25) C dX10_close_18 (by decide) (fun h2 => ?_) (fun _ => bad)
  first | refine z_aload (pc := 25) C dX10_close_25 rfl ?_ | refine z_aloadN (pc := 25) C dX10_close_25 rfl ?_
  refine z_getf (pc := 27) C dX10_close_27 (zfu_X10_140 h8) (hk_0 (κ := κ) (by exact hi) (by exact hq)) rfl ?_
  -- at 30: astore 
  by_cases h3 : κ = 0 ∨ κ = 7
  · rw [uRd_n h3]
    first | refine z_astore (pc := 30) C dX10_close_30 (by rw [hE]; decide) ?_ | refine z_astoreN (pc := 30) C dX10_close_30 (by rw [hE]; decide) ?_
    first | refine z_aload (pc := 32) C dX10_close_32 rfl ?_ | refine z_aloadN (pc := 32) C dX10_close_32 rfl ?_
    -- at 34: ifnull 
    first | refine z_ifnull (pc := 34) C dX10_close_34 ?_ | refine z_ifnullN (pc := 34) (tgt := 46) C dX10_close_34 (by decide) ?_
    refine z_ldc2 (pc := 46) (v := -9223372036854775808) C dX10_close_46 kw_507 ?_
    -- at 49: lreturn 
    exact z_lret (pc := 49) C hQ dX10_close_49 rfl rfl rfl (by decide) (by decide)
  have h0 : ¬ κ = 0 := fun z => h3 (Or.inl z)
  have h7 : ¬ κ = 7 := fun z => h3 (Or.inr z)
  rw [uRd_y h8 h0 h7]
  first | refine z_astore (pc := 30) C dX10_close_30 (by rw [hE]; decide) ?_ | refine z_astoreN (pc := 30) C dX10_close_30 (by rw [hE]; decide) ?_
  first | refine z_aload (pc := 32) C dX10_close_32 rfl ?_ | refine z_aloadN (pc := 32) C dX10_close_32 rfl ?_
  -- at 34: ifnull 
  first | refine z_ifnull (pc := 34) C dX10_close_34 ?_ | refine z_ifnullN (pc := 34) (tgt := 46) C dX10_close_34 (by decide) ?_
  first | refine z_aload (pc := 37) C dX10_close_37 rfl ?_ | refine z_aloadN (pc := 37) C dX10_close_37 rfl ?_
  refine z_iload_n (pc := 39) C dX10_close_39 rfl ?_
  -- at 40: invokevirtual Method GrindWorks$Readings.has:(I)Z
  refine z_callV (pc := 40) (ci := 7) C dX10_close_40 zy_X7_has kw_541 kw_542 rfl kw_543 (hk_rd hw hi hq h0 h7) (ct_X7_has l Ω σ hw i κ hi hq h0 h7 w) rfl rfl ⟨⟨by decide, by decide⟩, by decide, by decide⟩ (Nat.le_of_ble_eq_true rfl) ?_; dsimp only [Option.toList_some, List.cons_append, List.nil_append]
  refine z_ifneB (pc := 43) (tgt := 50) C dX10_close_43 (by decide) (fun h4 => absurd ⟨⟨h0, h7⟩, h4, Int32.not_lt.mp h1, h2⟩ hb) (fun _ => ?_)
  refine z_ldc2 (pc := 46) (v := -9223372036854775808) C dX10_close_46 kw_507 ?_
  -- at 49: lreturn 
  exact z_lret (pc := 49) C hQ dX10_close_49 rfl rfl rfl (by decide) (by decide)
set_option maxHeartbeats 4000000 in
set_option maxRecDepth 100000 in
theorem ct_X10_close (l : Launch) (Ω : OmT) (σ : Sg) (hw : KW σ) (i κ : Nat) (hi : i < σ.2.2.2) (hq : σ.2.2.1 i = κ) (h0 : ¬ κ = 0) (h7 : ¬ κ = 7) (w q : Nat) (hwp : w < 1 + upt κ) (hq2 : q < 2) (X Y : Nat) (hY0 : 0 < Y) (hY : Y < 512) (hX : X < 4611686018427387904) (eY : (l_sum (σ.1 i 5) (1 + upt κ)).toInt64 = lN Y) (eX : (if cUp σ i w (upt κ) < 0 then -cUp σ i w (upt κ) else cUp σ i w (upt κ)) = lN X) : ZM l Ω yX10_close cX10_close 6 (some .long) rm_X10_close [rfO Ω 0, .int (nI i), .int (nI w), .int (nI q)] (hp Ω σ) (hN σ) (some (.long (if q = 0 then cUp σ i w (upt κ) / lN (Nat.gcd Y X) else (l_sum (σ.1 i 5) (1 + upt κ)).toInt64 / lN (Nat.gcd Y X)))) (hp Ω σ) (hN σ) := by
  refine ZM_of (by decide) (Nat.le_of_ble_eq_true rfl) (fun E hE C hQ => ?_)
  have h8 : κ < 8 := hq ▸ hw.2 i hi
  have hup := upt_le κ
  first | refine z_aload_n (pc := 0) C dX10_close_0 rfl ?_ | refine z_aload_nN (pc := 0) C dX10_close_0 rfl ?_
  refine z_iload_n (pc := 1) C dX10_close_1 rfl ?_
  refine z_callV (pc := 2) (ci := 9) C dX10_close_2 zy_X10_unitAt kw_250 kw_251 rfl kw_831 rfl (ct_X10_unitAt l Ω σ hw i hi) rfl rfl ⟨⟨by decide, by decide⟩, by decide, by decide⟩ (Nat.le_of_ble_eq_true rfl) ?_; dsimp only [Option.toList_some, List.cons_append, List.nil_append]
  first | refine z_astore (pc := 5) C dX10_close_5 (by rw [hE]; decide) ?_ | refine z_astoreN (pc := 5) C dX10_close_5 (by rw [hE]; decide) ?_
  first | refine z_aload (pc := 7) C dX10_close_7 rfl ?_ | refine z_aloadN (pc := 7) C dX10_close_7 rfl ?_
  -- at 9: ifnull 
  first | refine z_ifnull (pc := 9) C dX10_close_9 ?_ | refine z_ifnullN (pc := 9) (tgt := 21) C dX10_close_9 (by decide) ?_
  refine z_iload_n (pc := 12) C dX10_close_12 rfl ?_
  -- at 13: iflt 
  refine z_if_ltF (pc := 13) (tgt := 21) C dX10_close_13 (by decide) (by omega) ?_
  refine z_iload_n (pc := 16) C dX10_close_16 rfl ?_
  refine z_iconst (pc := 17) (v := nI 1) C dX10_close_17 (by decide) ?_
  -- at 18: if_icmple 
  refine z_icmp_leT (pc := 18) (tgt := 25) C dX10_close_18 (by decide) (by omega) (by omega) (by omega) ?_
  first | refine z_aload (pc := 25) C dX10_close_25 rfl ?_ | refine z_aloadN (pc := 25) C dX10_close_25 rfl ?_
  refine z_getf (pc := 27) C dX10_close_27 (zfu_X10_140 h8) (hk_0 (κ := κ) (by exact hi) (by exact hq)) rfl ?_
  -- at 30: astore 
  rw [uRd_y h8 h0 h7]
  first | refine z_astore (pc := 30) C dX10_close_30 (by rw [hE]; decide) ?_ | refine z_astoreN (pc := 30) C dX10_close_30 (by rw [hE]; decide) ?_
  first | refine z_aload (pc := 32) C dX10_close_32 rfl ?_ | refine z_aloadN (pc := 32) C dX10_close_32 rfl ?_
  -- at 34: ifnull 
  first | refine z_ifnull (pc := 34) C dX10_close_34 ?_ | refine z_ifnullN (pc := 34) (tgt := 46) C dX10_close_34 (by decide) ?_
  first | refine z_aload (pc := 37) C dX10_close_37 rfl ?_ | refine z_aloadN (pc := 37) C dX10_close_37 rfl ?_
  refine z_iload_n (pc := 39) C dX10_close_39 rfl ?_
  -- at 40: invokevirtual Method GrindWorks$Readings.has:(I)Z
  refine z_callV (pc := 40) (ci := 7) C dX10_close_40 zy_X7_has kw_541 kw_542 rfl kw_543 (hk_rd hw hi hq h0 h7) (ct_X7_has l Ω σ hw i κ hi hq h0 h7 (nI w)) rfl rfl ⟨⟨by decide, by decide⟩, by decide, by decide⟩ (Nat.le_of_ble_eq_true rfl) ?_; dsimp only [Option.toList_some, List.cons_append, List.nil_append]
  refine z_ifneB (pc := 43) (tgt := 50) C dX10_close_43 (by decide) (fun h4 => ?_) (fun h => absurd (isU_nI (by omega) hwp) h)
  first | refine z_aload (pc := 50) C dX10_close_50 rfl ?_ | refine z_aloadN (pc := 50) C dX10_close_50 rfl ?_
  refine z_iload_n (pc := 52) C dX10_close_52 rfl ?_
  refine z_iload_n (pc := 53) C dX10_close_53 rfl ?_
  -- at 54: ifne 
  refine z_if_neX (pc := 54) (tgt := 61) C dX10_close_54 (by decide) (by omega) (fun h => ?_) (fun h => ?_)
  · refine z_iconst (pc := 61) (v := nI 0) C dX10_close_61 (by decide) ?_
    -- at 62: invokevirtual Method GrindWorks$Readings.closing:(IZ)J
    refine z_callV (pc := 62) (ci := 7) C dX10_close_62 zy_X7_closing kw_558 kw_559 rfl kw_560 (hk_rd hw hi hq h0 h7) (ct_X7_closing l Ω σ hw i κ hi hq h0 h7 w 0 hwp (by decide) X Y hY0 hY hX eY eX) rfl rfl ⟨⟨by decide, by decide⟩, by decide, by decide⟩ (Nat.le_of_ble_eq_true rfl) ?_; dsimp only [Option.toList_some, List.cons_append, List.nil_append]
    exact z_lret (pc := 65) C hQ dX10_close_65 (by rw [if_neg h, if_pos rfl]) rfl rfl (by decide) (by decide)
  · refine z_iconst (pc := 57) (v := nI 1) C dX10_close_57 (by decide) ?_
    refine z_goto (pc := 58) (tgt := 62) C dX10_close_58 (by decide) ?_
    -- at 62
    refine z_callV (pc := 62) (ci := 7) C dX10_close_62 zy_X7_closing kw_558 kw_559 rfl kw_560 (hk_rd hw hi hq h0 h7) (ct_X7_closing l Ω σ hw i κ hi hq h0 h7 w 1 hwp (by decide) X Y hY0 hY hX eY eX) rfl rfl ⟨⟨by decide, by decide⟩, by decide, by decide⟩ (Nat.le_of_ble_eq_true rfl) ?_; dsimp only [Option.toList_some, List.cons_append, List.nil_append]
    exact z_lret (pc := 65) C hQ dX10_close_65 (by rw [if_pos h, if_neg (by decide)]) rfl rfl (by decide) (by decide)
