/-! ===== the class: its public calls ===== -/
def cr_hold (σ : Sg) (i : Nat) (c : Int32) : Int32 := if inR 0 7 c then σ.1 i 0 (tn c) else -1
set_option maxHeartbeats 4000000 in
set_option maxRecDepth 100000 in
theorem ct_X10_hold_n (l : Launch) (Ω : OmT) (σ : Sg) (hw : KW σ) (u c : Int32) (hu : ¬ isU σ.2.2.2 u) : ZM l Ω yX10_hold cX10_hold 4 (some .int) rm_X10_hold [rfO Ω 0, .int u, .int c] (hp Ω σ) (hN σ) (some (.int (-1))) (hp Ω σ) (hN σ) := by
  refine ZM_of (by decide) (Nat.le_of_ble_eq_true rfl) (fun E hE C hQ => ?_)
  first | refine z_aload_n (pc := 0) C dX10_hold_0 rfl ?_ | refine z_aload_nN (pc := 0) C dX10_hold_0 rfl ?_
  refine z_iload_n (pc := 1) C dX10_hold_1 rfl ?_
  refine z_callV (pc := 2) (ci := 9) C dX10_hold_2 zy_X10_unitAt kw_250 kw_251 rfl kw_831 rfl (ct_X10_unitAt_n l Ω σ hw u hu) rfl rfl ⟨⟨by decide, by decide⟩, by decide, by decide⟩ (Nat.le_of_ble_eq_true rfl) ?_; dsimp only [Option.toList_some, List.cons_append, List.nil_append]
  first | refine z_astore_n (pc := 5) C dX10_hold_5 (by rw [hE]; decide) ?_ | refine z_astore_nN (pc := 5) C dX10_hold_5 (by rw [hE]; decide) ?_
  first | refine z_aload_n (pc := 6) C dX10_hold_6 rfl ?_ | refine z_aload_nN (pc := 6) C dX10_hold_6 rfl ?_
  -- at 7: ifnull 
  first | refine z_ifnull (pc := 7) C dX10_hold_7 ?_ | refine z_ifnullN (pc := 7) (tgt := 17) C dX10_hold_7 (by decide) ?_
  refine z_iconst (pc := 17) (v := (-1)) C dX10_hold_17 (by decide) ?_
  -- at 18: ireturn 
  exact z_iret (pc := 18) C hQ dX10_hold_18 rfl rfl rfl (by decide) (by decide)
set_option maxHeartbeats 4000000 in
set_option maxRecDepth 100000 in
theorem ct_X10_hold (l : Launch) (Ω : OmT) (σ : Sg) (hw : KW σ) (i κ : Nat) (hi : i < σ.2.2.2) (hq : σ.2.2.1 i = κ) (c : Int32) : ZM l Ω yX10_hold cX10_hold 4 (some .int) rm_X10_hold [rfO Ω 0, .int (nI i), .int c] (hp Ω σ) (hN σ) (some (.int (cr_hold σ i c))) (hp Ω σ) (hN σ) := by
  refine ZM_of (by decide) (Nat.le_of_ble_eq_true rfl) (fun E hE C hQ => ?_)
  have h8 : κ < 8 := hq ▸ hw.2 i hi
  first | refine z_aload_n (pc := 0) C dX10_hold_0 rfl ?_ | refine z_aload_nN (pc := 0) C dX10_hold_0 rfl ?_
  refine z_iload_n (pc := 1) C dX10_hold_1 rfl ?_
  refine z_callV (pc := 2) (ci := 9) C dX10_hold_2 zy_X10_unitAt kw_250 kw_251 rfl kw_831 rfl (ct_X10_unitAt l Ω σ hw i hi) rfl rfl ⟨⟨by decide, by decide⟩, by decide, by decide⟩ (Nat.le_of_ble_eq_true rfl) ?_; dsimp only [Option.toList_some, List.cons_append, List.nil_append]
  first | refine z_astore_n (pc := 5) C dX10_hold_5 (by rw [hE]; decide) ?_ | refine z_astore_nN (pc := 5) C dX10_hold_5 (by rw [hE]; decide) ?_
  first | refine z_aload_n (pc := 6) C dX10_hold_6 rfl ?_ | refine z_aload_nN (pc := 6) C dX10_hold_6 rfl ?_
  -- at 7: ifnull 
  first | refine z_ifnull (pc := 7) C dX10_hold_7 ?_ | refine z_ifnullN (pc := 7) (tgt := 17) C dX10_hold_7 (by decide) ?_
  refine z_iload_n (pc := 10) C dX10_hold_10 rfl ?_
  refine z_callS (pc := 11) C dX10_hold_11 zy_X10_isCell kw_268 kw_269 (ct_X10_isCell l Ω _ _ c) rfl rfl ⟨⟨by decide, by decide⟩, by decide, by decide⟩ (Nat.le_of_ble_eq_true rfl) ?_; dsimp only [Option.toList_some, List.cons_append, List.nil_append]
  -- at 14: ifne 
  refine z_ifneB (pc := 14) (tgt := 19) C dX10_hold_14 (by decide) (fun h => ?_) (fun h => ?_)
  · have h9 := h
    obtain ⟨c, -, hc, rfl⟩ := inR_of (by decide) (by decide) h
    first | refine z_aload_n (pc := 19) C dX10_hold_19 rfl ?_ | refine z_aload_nN (pc := 19) C dX10_hold_19 rfl ?_
    refine z_getf (pc := 20) C dX10_hold_20 (zfu_X10_92 h8) (hk_0 (κ := κ) (by exact hi) (by exact hq)) rfl ?_
    refine z_iload_n (pc := 23) C dX10_hold_23 rfl ?_
    refine z_iald (pc := 24) C dX10_hold_24 (Rw.get (rw_held (by exact hw) (by exact hi))) (by first | omega | decide | (simp only [unu, upt]; omega)) (by first | decide | omega) rfl ?_
    -- at 25: ireturn 
    exact z_iret (pc := 25) C hQ dX10_hold_25 (by unfold cr_hold; rw [if_pos h9, tn_nI (by omega)]) rfl rfl (by decide) (by decide)
  · refine z_iconst (pc := 17) (v := (-1)) C dX10_hold_17 (by decide) ?_
    -- at 18: ireturn 
    exact z_iret (pc := 18) C hQ dX10_hold_18 (by unfold cr_hold; rw [if_neg h]) rfl rfl (by decide) (by decide)
def cr_told (σ : Sg) (i : Nat) (j : Int32) : Int32 := if isU (unu (σ.2.2.1 i)) j then σ.1 i 3 (tn j) else -1
set_option maxHeartbeats 4000000 in
set_option maxRecDepth 100000 in
theorem ct_X10_told_n (l : Launch) (Ω : OmT) (σ : Sg) (hw : KW σ) (u c : Int32) (hu : ¬ isU σ.2.2.2 u) : ZM l Ω yX10_told cX10_told 4 (some .int) rm_X10_told [rfO Ω 0, .int u, .int c] (hp Ω σ) (hN σ) (some (.int (-1))) (hp Ω σ) (hN σ) := by
  refine ZM_of (by decide) (Nat.le_of_ble_eq_true rfl) (fun E hE C hQ => ?_)
  first | refine z_aload_n (pc := 0) C dX10_told_0 rfl ?_ | refine z_aload_nN (pc := 0) C dX10_told_0 rfl ?_
  refine z_iload_n (pc := 1) C dX10_told_1 rfl ?_
  refine z_callV (pc := 2) (ci := 9) C dX10_told_2 zy_X10_unitAt kw_250 kw_251 rfl kw_831 rfl (ct_X10_unitAt_n l Ω σ hw u hu) rfl rfl ⟨⟨by decide, by decide⟩, by decide, by decide⟩ (Nat.le_of_ble_eq_true rfl) ?_; dsimp only [Option.toList_some, List.cons_append, List.nil_append]
  first | refine z_astore_n (pc := 5) C dX10_told_5 (by rw [hE]; decide) ?_ | refine z_astore_nN (pc := 5) C dX10_told_5 (by rw [hE]; decide) ?_
  first | refine z_aload_n (pc := 6) C dX10_told_6 rfl ?_ | refine z_aload_nN (pc := 6) C dX10_told_6 rfl ?_
  -- at 7: ifnull 
  first | refine z_ifnull (pc := 7) C dX10_told_7 ?_ | refine z_ifnullN (pc := 7) (tgt := 18) C dX10_told_7 (by decide) ?_
  refine z_iconst (pc := 18) (v := (-1)) C dX10_told_18 (by decide) ?_
  -- at 19: ireturn 
  exact z_iret (pc := 19) C hQ dX10_told_19 rfl rfl rfl (by decide) (by decide)
set_option maxHeartbeats 4000000 in
set_option maxRecDepth 100000 in
theorem ct_X10_told (l : Launch) (Ω : OmT) (σ : Sg) (hw : KW σ) (i κ : Nat) (hi : i < σ.2.2.2) (hq : σ.2.2.1 i = κ) (j : Int32) : ZM l Ω yX10_told cX10_told 4 (some .int) rm_X10_told [rfO Ω 0, .int (nI i), .int j] (hp Ω σ) (hN σ) (some (.int (cr_told σ i j))) (hp Ω σ) (hN σ) := by
  refine ZM_of (by decide) (Nat.le_of_ble_eq_true rfl) (fun E hE C hQ => ?_)
  have h8 : κ < 8 := hq ▸ hw.2 i hi
  have hup := unu_le κ
  first | refine z_aload_n (pc := 0) C dX10_told_0 rfl ?_ | refine z_aload_nN (pc := 0) C dX10_told_0 rfl ?_
  refine z_iload_n (pc := 1) C dX10_told_1 rfl ?_
  refine z_callV (pc := 2) (ci := 9) C dX10_told_2 zy_X10_unitAt kw_250 kw_251 rfl kw_831 rfl (ct_X10_unitAt l Ω σ hw i hi) rfl rfl ⟨⟨by decide, by decide⟩, by decide, by decide⟩ (Nat.le_of_ble_eq_true rfl) ?_; dsimp only [Option.toList_some, List.cons_append, List.nil_append]
  first | refine z_astore_n (pc := 5) C dX10_told_5 (by rw [hE]; decide) ?_ | refine z_astore_nN (pc := 5) C dX10_told_5 (by rw [hE]; decide) ?_
  first | refine z_aload_n (pc := 6) C dX10_told_6 rfl ?_ | refine z_aload_nN (pc := 6) C dX10_told_6 rfl ?_
  -- at 7: ifnull 
  first | refine z_ifnull (pc := 7) C dX10_told_7 ?_ | refine z_ifnullN (pc := 7) (tgt := 18) C dX10_told_7 (by decide) ?_
  first | refine z_aload_n (pc := 10) C dX10_told_10 rfl ?_ | refine z_aload_nN (pc := 10) C dX10_told_10 rfl ?_
  refine z_iload_n (pc := 11) C dX10_told_11 rfl ?_
  obtain ⟨q9_12, hq9_12, hs9_12⟩ := zsu_X9_hasNumber h8
  refine z_callV (pc := 12) C dX10_told_12 zy_X9_hasNumber kw_307 kw_308 hq9_12 hs9_12 (hk_0 (κ := κ) (by exact hi) (by exact hq)) (ct_X9_hasNumber l Ω σ hw i κ hi hq j) rfl rfl ⟨⟨by decide, by decide⟩, by decide, by decide⟩ (Nat.le_of_ble_eq_true rfl) ?_; dsimp only [Option.toList_some, List.cons_append, List.nil_append]
  -- at 15: ifne 
  refine z_ifneB (pc := 15) (tgt := 20) C dX10_told_15 (by decide) (fun h => ?_) (fun h => ?_)
  · have h9 := h
    obtain ⟨j, hj, rfl⟩ := isU_of (by omega) h
    first | refine z_aload_n (pc := 20) C dX10_told_20 rfl ?_ | refine z_aload_nN (pc := 20) C dX10_told_20 rfl ?_
    refine z_getf (pc := 21) C dX10_told_21 (zfu_X10_123 h8) (hk_0 (κ := κ) (by exact hi) (by exact hq)) rfl ?_
    refine z_iload_n (pc := 24) C dX10_told_24 rfl ?_
    refine z_iald (pc := 25) C dX10_told_25 (Rw.get (rw_nums (κ := κ) (by exact hw) (by exact hi) (by exact hq))) (by first | omega | decide | (simp only [unu, upt]; omega)) (by first | decide | omega) rfl ?_
    -- at 26: ireturn 
    exact z_iret (pc := 26) C hQ dX10_told_26 (by unfold cr_told; rw [hq, if_pos h9, tn_nI (by omega)]) rfl rfl (by decide) (by decide)
  · refine z_iconst (pc := 18) (v := (-1)) C dX10_told_18 (by decide) ?_
    -- at 19: ireturn 
    exact z_iret (pc := 19) C hQ dX10_told_19 (by unfold cr_told; rw [hq, if_neg h]) rfl rfl (by decide) (by decide)
def cr_lead (σ : Sg) (i : Nat) (p to : Int32) : Int32 := if ¬ isU (upt (σ.2.2.1 i)) p then -1 else if ¬ to = -1 ∧ ¬ isU σ.2.2.2 to then -1 else if ¬ to < 0 ∧ σ.2.2.1 (tn to) = 0 then -2 else σ.1 i 2 (tn p)
def cs_lead (σ : Sg) (i : Nat) (p to : Int32) : Sg := if ¬ isU (upt (σ.2.2.1 i)) p then σ else if ¬ to = -1 ∧ ¬ isU σ.2.2.2 to then σ else if ¬ to < 0 ∧ σ.2.2.1 (tn to) = 0 then σ else sI σ i 2 (tn p) to
set_option maxHeartbeats 4000000 in
set_option maxRecDepth 100000 in
theorem ct_X10_lead_n (l : Launch) (Ω : OmT) (σ : Sg) (hw : KW σ) (u p to : Int32) (hu : ¬ isU σ.2.2.2 u) : ZM l Ω yX10_lead cX10_lead 7 (some .int) rm_X10_lead [rfO Ω 0, .int u, .int p, .int to] (hp Ω σ) (hN σ) (some (.int (-1))) (hp Ω σ) (hN σ) := by
  refine ZM_of (by decide) (Nat.le_of_ble_eq_true rfl) (fun E hE C hQ => ?_)
  first | refine z_aload_n (pc := 0) C dX10_lead_0 rfl ?_ | refine z_aload_nN (pc := 0) C dX10_lead_0 rfl ?_
  refine z_iload_n (pc := 1) C dX10_lead_1 rfl ?_
  refine z_callV (pc := 2) (ci := 9) C dX10_lead_2 zy_X10_unitAt kw_250 kw_251 rfl kw_831 rfl (ct_X10_unitAt_n l Ω σ hw u hu) rfl rfl ⟨⟨by decide, by decide⟩, by decide, by decide⟩ (Nat.le_of_ble_eq_true rfl) ?_; dsimp only [Option.toList_some, List.cons_append, List.nil_append]
  first | refine z_astore (pc := 5) C dX10_lead_5 (by rw [hE]; decide) ?_ | refine z_astoreN (pc := 5) C dX10_lead_5 (by rw [hE]; decide) ?_
  first | refine z_aload (pc := 7) C dX10_lead_7 rfl ?_ | refine z_aloadN (pc := 7) C dX10_lead_7 rfl ?_
  -- at 9: ifnull 
  first | refine z_ifnull (pc := 9) C dX10_lead_9 ?_ | refine z_ifnullN (pc := 9) (tgt := 21) C dX10_lead_9 (by decide) ?_
  refine z_iconst (pc := 21) (v := (-1)) C dX10_lead_21 (by decide) ?_
  -- at 22: ireturn 
  exact z_iret (pc := 22) C hQ dX10_lead_22 rfl rfl rfl (by decide) (by decide)
set_option maxHeartbeats 4000000 in
set_option maxRecDepth 100000 in
theorem ct_X10_lead (l : Launch) (Ω : OmT) (σ : Sg) (hw : KW σ) (i κ : Nat) (hi : i < σ.2.2.2) (hq : σ.2.2.1 i = κ) (p to : Int32) : ZM l Ω yX10_lead cX10_lead 7 (some .int) rm_X10_lead [rfO Ω 0, .int (nI i), .int p, .int to] (hp Ω σ) (hN σ) (some (.int (cr_lead σ i p to))) (hp Ω (cs_lead σ i p to)) (hN σ) := by
  refine ZM_of (by decide) (Nat.le_of_ble_eq_true rfl) (fun E hE C hQ => ?_)
  have h8 : κ < 8 := hq ▸ hw.2 i hi
  have hup := upt_le κ
  have hn := hw.1
  first | refine z_aload_n (pc := 0) C dX10_lead_0 rfl ?_ | refine z_aload_nN (pc := 0) C dX10_lead_0 rfl ?_
  refine z_iload_n (pc := 1) C dX10_lead_1 rfl ?_
  refine z_callV (pc := 2) (ci := 9) C dX10_lead_2 zy_X10_unitAt kw_250 kw_251 rfl kw_831 rfl (ct_X10_unitAt l Ω σ hw i hi) rfl rfl ⟨⟨by decide, by decide⟩, by decide, by decide⟩ (Nat.le_of_ble_eq_true rfl) ?_; dsimp only [Option.toList_some, List.cons_append, List.nil_append]
  first | refine z_astore (pc := 5) C dX10_lead_5 (by rw [hE]; decide) ?_ | refine z_astoreN (pc := 5) C dX10_lead_5 (by rw [hE]; decide) ?_
  first | refine z_aload (pc := 7) C dX10_lead_7 rfl ?_ | refine z_aloadN (pc := 7) C dX10_lead_7 rfl ?_
  -- at 9: ifnull 
  first | refine z_ifnull (pc := 9) C dX10_lead_9 ?_ | refine z_ifnullN (pc := 9) (tgt := 21) C dX10_lead_9 (by decide) ?_
  first | refine z_aload (pc := 12) C dX10_lead_12 rfl ?_ | refine z_aloadN (pc := 12) C dX10_lead_12 rfl ?_
  refine z_iload_n (pc := 14) C dX10_lead_14 rfl ?_
  obtain ⟨q9_15, hq9_15, hs9_15⟩ := zsu_X9_hasPort h8
  refine z_callV (pc := 15) C dX10_lead_15 zy_X9_hasPort kw_253 kw_254 hq9_15 hs9_15 (hk_0 (κ := κ) (by exact hi) (by exact hq)) (ct_X9_hasPort l Ω σ hw i κ hi hq p) rfl rfl ⟨⟨by decide, by decide⟩, by decide, by decide⟩ (Nat.le_of_ble_eq_true rfl) ?_; dsimp only [Option.toList_some, List.cons_append, List.nil_append]
  -- at 18: ifne 
  refine z_ifneB (pc := 18) (tgt := 23) C dX10_lead_18 (by decide) (fun h => ?_) (fun h => ?_)
  · have h1 := h
    rw [← hq] at h1
    obtain ⟨p, hpk, rfl⟩ := isU_of (by omega) h
    have tp : tn (nI p) = p := tn_nI (by omega)
    have tail : (¬ (¬ to = -1 ∧ ¬ isU σ.2.2.2 to)) → (¬ (¬ to < 0 ∧ σ.2.2.1 (tn to) = 0)) → ZV l Ω E 0 0 58 [(0, rfO Ω 0), (1, .int (nI i)), (2, .int (nI p)), (3, .int to), (4, rfO Ω (bs σ.2.2.1 i))] [] (hp Ω σ) (hN σ) := by
      intro c1 c2
      first | refine z_aload (pc := 58) C dX10_lead_58 rfl ?_ | refine z_aloadN (pc := 58) C dX10_lead_58 rfl ?_
      refine z_getf (pc := 60) C dX10_lead_60 (zfu_X10_45 h8) (hk_0 (κ := κ) (by exact hi) (by exact hq)) rfl ?_
      refine z_iload_n (pc := 63) C dX10_lead_63 rfl ?_
      refine z_iald (pc := 64) C dX10_lead_64 (Rw.get (rw_leads (κ := κ) (by exact hw) (by exact hi) (by exact hq))) (by first | omega | decide | (simp only [unu, upt]; omega)) (by first | decide | omega) rfl ?_
      refine z_istore (pc := 65) C dX10_lead_65 (by rw [hE]; decide) ?_
      first | refine z_aload (pc := 67) C dX10_lead_67 rfl ?_ | refine z_aloadN (pc := 67) C dX10_lead_67 rfl ?_
      refine z_getf (pc := 69) C dX10_lead_69 (zfu_X10_45 h8) (hk_0 (κ := κ) (by exact hi) (by exact hq)) rfl ?_
      refine z_iload_n (pc := 72) C dX10_lead_72 rfl ?_
      refine z_iload_n (pc := 73) C dX10_lead_73 rfl ?_
      refine z_iast (pc := 74) C dX10_lead_74 (Rw.get (rw_leads (κ := κ) (by exact hw) (by exact hi) (by exact hq))) (by first | omega | decide | (simp only [unu, upt]; omega)) (by first | decide | omega) (Rw.el (rw_leads (κ := κ) (by exact hw) (by exact hi) (by exact hq))) ?_
      refine z_iload (pc := 75) C dX10_lead_75 rfl ?_
      -- at 77: ireturn 
      exact z_iret (pc := 77) C hQ dX10_lead_77 (by unfold cr_lead; rw [if_neg (fun z => z h1), if_neg c1, if_neg c2, tp]) (by unfold cs_lead; rw [if_neg (fun z => z h1), if_neg c1, if_neg c2, tp]) rfl (by decide) (by decide)
    by_cases h2 : isU σ.2.2.2 to
    · obtain ⟨d, hd, e⟩ := isU_of (by omega) h2
      subst e
      obtain ⟨q, hqd⟩ : ∃ q, σ.2.2.1 d = q := ⟨_, rfl⟩
      have h8 : q < 8 := hqd ▸ hw.2 d hd
      have td : tn (nI d) = d := tn_nI (by omega)
      first | refine z_aload_n (pc := 23) C dX10_lead_23 rfl ?_ | refine z_aload_nN (pc := 23) C dX10_lead_23 rfl ?_
      refine z_iload_n (pc := 24) C dX10_lead_24 rfl ?_
      refine z_callV (pc := 25) (ci := 9) C dX10_lead_25 zy_X10_unitAt kw_250 kw_251 rfl kw_831 rfl (ct_X10_unitAt l Ω σ hw d hd) rfl rfl ⟨⟨by decide, by decide⟩, by decide, by decide⟩ (Nat.le_of_ble_eq_true rfl) ?_; dsimp only [Option.toList_some, List.cons_append, List.nil_append]
      first | refine z_astore (pc := 28) C dX10_lead_28 (by rw [hE]; decide) ?_ | refine z_astoreN (pc := 28) C dX10_lead_28 (by rw [hE]; decide) ?_
      first | refine z_aload (pc := 30) C dX10_lead_30 rfl ?_ | refine z_aloadN (pc := 30) C dX10_lead_30 rfl ?_
      -- at 32: ifnonnull 
      first | refine z_ifnonnullN (pc := 32) C dX10_lead_32 ?_ | refine z_ifnonnull (pc := 32) (tgt := 42) C dX10_lead_32 (by decide) ?_
      first | refine z_aload (pc := 42) C dX10_lead_42 rfl ?_ | refine z_aloadN (pc := 42) C dX10_lead_42 rfl ?_
      -- at 44: ifnull 
      first | refine z_ifnull (pc := 44) C dX10_lead_44 ?_ | refine z_ifnullN (pc := 44) (tgt := 58) C dX10_lead_44 (by decide) ?_
      first | refine z_aload (pc := 47) C dX10_lead_47 rfl ?_ | refine z_aloadN (pc := 47) C dX10_lead_47 rfl ?_
      refine z_getf (pc := 49) C dX10_lead_49 (zfu_X10_42 h8) (hk_0 (κ := q) (by exact hd) (by exact hqd)) rfl ?_
      -- at 52: ifne 
      refine z_if_neX (pc := 52) (tgt := 58) C dX10_lead_52 (by decide) (by omega) (fun h => ?_) (fun h => ?_)
      · refine z_pick [0, 1, 2, 3, 4] rfl ?_
        exact tail (fun z => z.2 h2) (fun z => h (by rw [← hqd, ← td]; exact z.2))
      · refine z_bipush (pc := 55) (v := (-2)) C dX10_lead_55 (by decide) ?_
        -- at 57: ireturn 
        have c2 : ¬ nI d < 0 ∧ σ.2.2.1 (tn (nI d)) = 0 := ⟨nI_pos (by omega), by rw [td, hqd]; exact h⟩
        exact z_iret (pc := 57) C hQ dX10_lead_57 (by unfold cr_lead; rw [if_neg (fun z => z h1), if_neg (fun z => z.2 h2), if_pos c2]) (by unfold cs_lead; rw [if_neg (fun z => z h1), if_neg (fun z => z.2 h2), if_pos c2]) rfl (by decide) (by decide)
    · first | refine z_aload_n (pc := 23) C dX10_lead_23 rfl ?_ | refine z_aload_nN (pc := 23) C dX10_lead_23 rfl ?_
      refine z_iload_n (pc := 24) C dX10_lead_24 rfl ?_
      refine z_callV (pc := 25) (ci := 9) C dX10_lead_25 zy_X10_unitAt kw_250 kw_251 rfl kw_831 rfl (ct_X10_unitAt_n l Ω σ hw to h2) rfl rfl ⟨⟨by decide, by decide⟩, by decide, by decide⟩ (Nat.le_of_ble_eq_true rfl) ?_; dsimp only [Option.toList_some, List.cons_append, List.nil_append]
      first | refine z_astore (pc := 28) C dX10_lead_28 (by rw [hE]; decide) ?_ | refine z_astoreN (pc := 28) C dX10_lead_28 (by rw [hE]; decide) ?_
      first | refine z_aload (pc := 30) C dX10_lead_30 rfl ?_ | refine z_aloadN (pc := 30) C dX10_lead_30 rfl ?_
      -- at 32: ifnonnull 
      first | refine z_ifnonnullN (pc := 32) C dX10_lead_32 ?_ | refine z_ifnonnull (pc := 32) (tgt := 42) C dX10_lead_32 (by decide) ?_
      refine z_iload_n (pc := 35) C dX10_lead_35 rfl ?_
      refine z_iconst (pc := 36) (v := (-1)) C dX10_lead_36 (by decide) ?_
      -- at 37: if_icmpeq 
      refine z_icmp_eq (pc := 37) (tgt := 42) C dX10_lead_37 (by decide) (fun h => ?_) (fun h => ?_)
      · first | refine z_aload (pc := 42) C dX10_lead_42 rfl ?_ | refine z_aloadN (pc := 42) C dX10_lead_42 rfl ?_
        -- at 44: ifnull 
        first | refine z_ifnull (pc := 44) C dX10_lead_44 ?_ | refine z_ifnullN (pc := 44) (tgt := 58) C dX10_lead_44 (by decide) ?_
        refine z_pick [0, 1, 2, 3, 4] rfl ?_
        exact tail (fun z => z.1 h) (fun z => z.1 (by rw [h]; decide))
      · refine z_iconst (pc := 40) (v := (-1)) C dX10_lead_40 (by decide) ?_
        -- at 41: ireturn 
        exact z_iret (pc := 41) C hQ dX10_lead_41 (by unfold cr_lead; rw [if_neg (fun z => z h1), if_pos ⟨h, h2⟩]) (by unfold cs_lead; rw [if_neg (fun z => z h1), if_pos ⟨h, h2⟩]) rfl (by decide) (by decide)
  · refine z_iconst (pc := 21) (v := (-1)) C dX10_lead_21 (by decide) ?_
    -- at 22: ireturn 
    exact z_iret (pc := 22) C hQ dX10_lead_22 (by unfold cr_lead; rw [hq, if_pos h]) (by unfold cs_lead; rw [hq, if_pos h]) rfl (by decide) (by decide)
def cr_rate (σ : Sg) (i : Nat) (c x : Int32) : Int32 := if ¬ inR 0 7 c then -1 else if ¬ σ.2.2.1 i = 0 then -3 else r_chg σ i (tn c) x
def cs_rate (σ : Sg) (i : Nat) (c x : Int32) : Sg := if ¬ inR 0 7 c then σ else if ¬ σ.2.2.1 i = 0 then σ else s_chg σ i (tn c) x
set_option maxHeartbeats 4000000 in
set_option maxRecDepth 100000 in
theorem ct_X10_rate_n (l : Launch) (Ω : OmT) (σ : Sg) (hw : KW σ) (u c x : Int32) (hu : ¬ isU σ.2.2.2 u) : ZM l Ω yX10_rate cX10_rate 5 (some .int) rm_X10_rate [rfO Ω 0, .int u, .int c, .int x] (hp Ω σ) (hN σ) (some (.int (-1))) (hp Ω σ) (hN σ) := by
  refine ZM_of (by decide) (Nat.le_of_ble_eq_true rfl) (fun E hE C hQ => ?_)
  first | refine z_aload_n (pc := 0) C dX10_rate_0 rfl ?_ | refine z_aload_nN (pc := 0) C dX10_rate_0 rfl ?_
  refine z_iload_n (pc := 1) C dX10_rate_1 rfl ?_
  refine z_callV (pc := 2) (ci := 9) C dX10_rate_2 zy_X10_unitAt kw_250 kw_251 rfl kw_831 rfl (ct_X10_unitAt_n l Ω σ hw u hu) rfl rfl ⟨⟨by decide, by decide⟩, by decide, by decide⟩ (Nat.le_of_ble_eq_true rfl) ?_; dsimp only [Option.toList_some, List.cons_append, List.nil_append]
  first | refine z_astore (pc := 5) C dX10_rate_5 (by rw [hE]; decide) ?_ | refine z_astoreN (pc := 5) C dX10_rate_5 (by rw [hE]; decide) ?_
  first | refine z_aload (pc := 7) C dX10_rate_7 rfl ?_ | refine z_aloadN (pc := 7) C dX10_rate_7 rfl ?_
  -- at 9: ifnull 
  first | refine z_ifnull (pc := 9) C dX10_rate_9 ?_ | refine z_ifnullN (pc := 9) (tgt := 19) C dX10_rate_9 (by decide) ?_
  refine z_iconst (pc := 19) (v := (-1)) C dX10_rate_19 (by decide) ?_
  -- at 20: ireturn 
  exact z_iret (pc := 20) C hQ dX10_rate_20 rfl rfl rfl (by decide) (by decide)
set_option maxHeartbeats 4000000 in
set_option maxRecDepth 100000 in
theorem ct_X10_rate (l : Launch) (Ω : OmT) (σ : Sg) (hw : KW σ) (i κ : Nat) (hi : i < σ.2.2.2) (hq : σ.2.2.1 i = κ) (c x : Int32) : ZM l Ω yX10_rate cX10_rate 5 (some .int) rm_X10_rate [rfO Ω 0, .int (nI i), .int c, .int x] (hp Ω σ) (hN σ) (some (.int (cr_rate σ i c x))) (hp Ω (cs_rate σ i c x)) (hN σ) := by
  refine ZM_of (by decide) (Nat.le_of_ble_eq_true rfl) (fun E hE C hQ => ?_)
  have h8 : κ < 8 := hq ▸ hw.2 i hi
  first | refine z_aload_n (pc := 0) C dX10_rate_0 rfl ?_ | refine z_aload_nN (pc := 0) C dX10_rate_0 rfl ?_
  refine z_iload_n (pc := 1) C dX10_rate_1 rfl ?_
  refine z_callV (pc := 2) (ci := 9) C dX10_rate_2 zy_X10_unitAt kw_250 kw_251 rfl kw_831 rfl (ct_X10_unitAt l Ω σ hw i hi) rfl rfl ⟨⟨by decide, by decide⟩, by decide, by decide⟩ (Nat.le_of_ble_eq_true rfl) ?_; dsimp only [Option.toList_some, List.cons_append, List.nil_append]
  first | refine z_astore (pc := 5) C dX10_rate_5 (by rw [hE]; decide) ?_ | refine z_astoreN (pc := 5) C dX10_rate_5 (by rw [hE]; decide) ?_
  first | refine z_aload (pc := 7) C dX10_rate_7 rfl ?_ | refine z_aloadN (pc := 7) C dX10_rate_7 rfl ?_
  -- at 9: ifnull 
  first | refine z_ifnull (pc := 9) C dX10_rate_9 ?_ | refine z_ifnullN (pc := 9) (tgt := 19) C dX10_rate_9 (by decide) ?_
  refine z_iload_n (pc := 12) C dX10_rate_12 rfl ?_
  refine z_callS (pc := 13) C dX10_rate_13 zy_X10_isCell kw_268 kw_269 (ct_X10_isCell l Ω _ _ c) rfl rfl ⟨⟨by decide, by decide⟩, by decide, by decide⟩ (Nat.le_of_ble_eq_true rfl) ?_; dsimp only [Option.toList_some, List.cons_append, List.nil_append]
  -- at 16: ifne 
  refine z_ifneB (pc := 16) (tgt := 21) C dX10_rate_16 (by decide) (fun h => ?_) (fun h => ?_)
  · have h1 := h
    obtain ⟨c, -, hc, rfl⟩ := inR_of (by decide) (by decide) h
    have tc : tn (nI c) = c := tn_nI (by omega)
    first | refine z_aload (pc := 21) C dX10_rate_21 rfl ?_ | refine z_aloadN (pc := 21) C dX10_rate_21 rfl ?_
    refine z_getf (pc := 23) C dX10_rate_23 (zfu_X10_42 h8) (hk_0 (κ := κ) (by exact hi) (by exact hq)) rfl ?_
    -- at 26: ifeq 
    refine z_if_eqX (pc := 26) (tgt := 32) C dX10_rate_26 (by decide) (by omega) (fun h => ?_) (fun h => ?_)
    · have hu8 : c < unu κ := by rw [h]; show c < 8; omega
      first | refine z_aload (pc := 32) C dX10_rate_32 rfl ?_ | refine z_aloadN (pc := 32) C dX10_rate_32 rfl ?_
      refine z_iload_n (pc := 34) C dX10_rate_34 rfl ?_
      refine z_iload_n (pc := 35) C dX10_rate_35 rfl ?_
      obtain ⟨q9_36, hq9_36, hs9_36⟩ := zsu_X9_change h8
      refine z_callV (pc := 36) C dX10_rate_36 zy_X9_change kw_271 kw_272 hq9_36 hs9_36 (hk_0 (κ := κ) (by exact hi) (by exact hq)) (ct_X9_change l Ω σ hw i κ hi hq c hu8 x) rfl rfl ⟨⟨by decide, by decide⟩, by decide, by decide⟩ (Nat.le_of_ble_eq_true rfl) ?_; dsimp only [Option.toList_some, List.cons_append, List.nil_append]
      -- at 39: ireturn 
      exact z_iret (pc := 39) C hQ dX10_rate_39 (by unfold cr_rate; rw [if_neg (fun z => z h1), if_neg (fun z => z (hq.trans h)), tc]) (by unfold cs_rate; rw [if_neg (fun z => z h1), if_neg (fun z => z (hq.trans h)), tc]) rfl (by decide) (by decide)
    · refine z_bipush (pc := 29) (v := (-3)) C dX10_rate_29 (by decide) ?_
      -- at 31: ireturn 
      have h2 : ¬ σ.2.2.1 i = 0 := by rw [hq]; exact h
      exact z_iret (pc := 31) C hQ dX10_rate_31 (by unfold cr_rate; rw [if_neg (fun z => z h1), if_pos h2]) (by unfold cs_rate; rw [if_neg (fun z => z h1), if_pos h2]) rfl (by decide) (by decide)
  · refine z_iconst (pc := 19) (v := (-1)) C dX10_rate_19 (by decide) ?_
    -- at 20: ireturn 
    exact z_iret (pc := 20) C hQ dX10_rate_20 (by unfold cr_rate; rw [if_pos h]) (by unfold cs_rate; rw [if_pos h]) rfl (by decide) (by decide)
abbrev hsOk (i a b c : Int32) : Prop := (a = 0 ∨ inR 0 3 (i + nI 1)) ∧ (b = 0 ∨ inR 0 3 (i + nI 2)) ∧ (c = 0 ∨ inR 0 3 (i + nI 3))
def cr_table (σ : Sg) (k : Nat) (i a b c : Int32) : Int32 := if ¬ inR 0 3 i then -1 else if ¬ σ.2.2.1 k = 2 then -3 else if ¬ (tnOk a b c ∧ hsOk i a b c) then -2 else nI 0
def cs_table (σ : Sg) (k : Nat) (i a b c : Int32) : Sg := if ¬ inR 0 3 i then σ else if ¬ σ.2.2.1 k = 2 then σ else if ¬ (tnOk a b c ∧ hsOk i a b c) then σ else s_brk σ k (tn i) a b c
set_option maxHeartbeats 4000000 in
set_option maxRecDepth 100000 in
theorem ct_X10_table_n (l : Launch) (Ω : OmT) (σ : Sg) (hw : KW σ) (u i a b c : Int32) (hu : ¬ isU σ.2.2.2 u) : ZM l Ω yX10_table cX10_table 8 (some .int) rm_X10_table [rfO Ω 0, .int u, .int i, .int a, .int b, .int c] (hp Ω σ) (hN σ) (some (.int (-1))) (hp Ω σ) (hN σ) := by
  refine ZM_of (by decide) (Nat.le_of_ble_eq_true rfl) (fun E hE C hQ => ?_)
  first | refine z_aload_n (pc := 0) C dX10_table_0 rfl ?_ | refine z_aload_nN (pc := 0) C dX10_table_0 rfl ?_
  refine z_iload_n (pc := 1) C dX10_table_1 rfl ?_
  refine z_callV (pc := 2) (ci := 9) C dX10_table_2 zy_X10_unitAt kw_250 kw_251 rfl kw_831 rfl (ct_X10_unitAt_n l Ω σ hw u hu) rfl rfl ⟨⟨by decide, by decide⟩, by decide, by decide⟩ (Nat.le_of_ble_eq_true rfl) ?_; dsimp only [Option.toList_some, List.cons_append, List.nil_append]
  first | refine z_astore (pc := 5) C dX10_table_5 (by rw [hE]; decide) ?_ | refine z_astoreN (pc := 5) C dX10_table_5 (by rw [hE]; decide) ?_
  first | refine z_aload (pc := 7) C dX10_table_7 rfl ?_ | refine z_aloadN (pc := 7) C dX10_table_7 rfl ?_
  -- at 9: ifnull 
  first | refine z_ifnull (pc := 9) C dX10_table_9 ?_ | refine z_ifnullN (pc := 9) (tgt := 19) C dX10_table_9 (by decide) ?_
  refine z_iconst (pc := 19) (v := (-1)) C dX10_table_19 (by decide) ?_
  -- at 20: ireturn 
  exact z_iret (pc := 20) C hQ dX10_table_20 rfl rfl rfl (by decide) (by decide)
set_option maxHeartbeats 4000000 in
set_option maxRecDepth 100000 in
theorem ct_X10_table (l : Launch) (Ω : OmT) (σ : Sg) (hw : KW σ) (i κ : Nat) (hi : i < σ.2.2.2) (hq : σ.2.2.1 i = κ) (z a b c : Int32) : ZM l Ω yX10_table cX10_table 8 (some .int) rm_X10_table [rfO Ω 0, .int (nI i), .int z, .int a, .int b, .int c] (hp Ω σ) (hN σ) (some (.int (cr_table σ i z a b c))) (hp Ω (cs_table σ i z a b c)) (hN σ) := by
  refine ZM_of (by decide) (Nat.le_of_ble_eq_true rfl) (fun E hE C hQ => ?_)
  have h8 : κ < 8 := hq ▸ hw.2 i hi
  first | refine z_aload_n (pc := 0) C dX10_table_0 rfl ?_ | refine z_aload_nN (pc := 0) C dX10_table_0 rfl ?_
  refine z_iload_n (pc := 1) C dX10_table_1 rfl ?_
  refine z_callV (pc := 2) (ci := 9) C dX10_table_2 zy_X10_unitAt kw_250 kw_251 rfl kw_831 rfl (ct_X10_unitAt l Ω σ hw i hi) rfl rfl ⟨⟨by decide, by decide⟩, by decide, by decide⟩ (Nat.le_of_ble_eq_true rfl) ?_; dsimp only [Option.toList_some, List.cons_append, List.nil_append]
  first | refine z_astore (pc := 5) C dX10_table_5 (by rw [hE]; decide) ?_ | refine z_astoreN (pc := 5) C dX10_table_5 (by rw [hE]; decide) ?_
  first | refine z_aload (pc := 7) C dX10_table_7 rfl ?_ | refine z_aloadN (pc := 7) C dX10_table_7 rfl ?_
  -- at 9: ifnull 
  first | refine z_ifnull (pc := 9) C dX10_table_9 ?_ | refine z_ifnullN (pc := 9) (tgt := 19) C dX10_table_9 (by decide) ?_
  refine z_iload_n (pc := 12) C dX10_table_12 rfl ?_
  refine z_callS (pc := 13) C dX10_table_13 zy_X10_isSize kw_286 kw_287 (ct_X10_isSize l Ω _ _ z) rfl rfl ⟨⟨by decide, by decide⟩, by decide, by decide⟩ (Nat.le_of_ble_eq_true rfl) ?_; dsimp only [Option.toList_some, List.cons_append, List.nil_append]
  -- at 16: ifne 
  refine z_ifneB (pc := 16) (tgt := 21) C dX10_table_16 (by decide) (fun h => ?_) (fun h => ?_)
  · have h1 := h
    obtain ⟨z, -, hz, rfl⟩ := inR_of (by decide) (by decide) h
    have tz : tn (nI z) = z := tn_nI (by omega)
    first | refine z_aload (pc := 21) C dX10_table_21 rfl ?_ | refine z_aloadN (pc := 21) C dX10_table_21 rfl ?_
    -- at 23: instanceof class GrindWorks$Mill
    by_cases h2 : κ = 2
    · subst h2
      refine z_instY (pc := 23) (ci := 4) C dX10_table_23 (hk_0 (κ := 2) hi hq) rfl kw_164 ?_
      refine z_if_eqF (pc := 26) (tgt := 39) (a := 1) C dX10_table_26 (by decide) (by decide) (by decide) ?_
      first | refine z_aload (pc := 29) C dX10_table_29 rfl ?_ | refine z_aloadN (pc := 29) C dX10_table_29 rfl ?_
      -- at 31: checkcast class GrindWorks$Mill
      refine z_cast (pc := 31) (ci := 4) C dX10_table_31 (hk_0 (κ := 2) hi hq) rfl kw_164 ?_
      first | refine z_astore (pc := 34) C dX10_table_34 (by rw [hE]; decide) ?_ | refine z_astoreN (pc := 34) C dX10_table_34 (by rw [hE]; decide) ?_
      refine z_goto (pc := 36) (tgt := 42) C dX10_table_36 (by decide) ?_
      -- at 42
      have bad : ¬ (tnOk a b c ∧ hsOk (nI z) a b c) → ZV l Ω E 0 0 65 [(0, rfO Ω 0), (1, .int (nI i)), (2, .int (nI z)), (3, .int a), (4, .int b), (5, .int c), (6, rfO Ω (bs σ.2.2.1 i)), (7, rfO Ω (bs σ.2.2.1 i))] [] (hp Ω σ) (hN σ) := by
        intro g
        refine z_bipush (pc := 65) (v := (-2)) C dX10_table_65 (by decide) ?_
        -- at 67: ireturn 
        exact z_iret (pc := 67) C hQ dX10_table_67 (by unfold cr_table; rw [if_neg (fun z => z h1), if_neg (fun z => z hq), if_pos g]) (by unfold cs_table; rw [if_neg (fun z => z h1), if_neg (fun z => z hq), if_pos g]) rfl (by decide) (by decide)
      refine z_iload_n (pc := 42) C dX10_table_42 rfl ?_
      refine z_iload (pc := 43) C dX10_table_43 rfl ?_
      refine z_iload (pc := 45) C dX10_table_45 rfl ?_
      refine z_callS (pc := 47) C dX10_table_47 zy_X10_areTenths kw_289 kw_290 (ct_X10_areTenths l Ω _ _ a b c) rfl rfl ⟨⟨by decide, by decide⟩, by decide, by decide⟩ (Nat.le_of_ble_eq_true rfl) ?_; dsimp only [Option.toList_some, List.cons_append, List.nil_append]
      -- at 50: ifeq 
      refine z_ifeqB (pc := 50) (tgt := 65) C dX10_table_50 (by decide) (fun h => bad (fun z => h z.1)) (fun h3 => ?_)
      refine z_iload_n (pc := 53) C dX10_table_53 rfl ?_
      refine z_iload_n (pc := 54) C dX10_table_54 rfl ?_
      refine z_iload (pc := 55) C dX10_table_55 rfl ?_
      refine z_iload (pc := 57) C dX10_table_57 rfl ?_
      refine z_callS (pc := 59) C dX10_table_59 zy_X10_hasSizesFor kw_293 kw_294 (ct_X10_hasSizesFor l Ω _ _ (nI z) a b c) rfl rfl ⟨⟨by decide, by decide⟩, by decide, by decide⟩ (Nat.le_of_ble_eq_true rfl) ?_; dsimp only [Option.toList_some, List.cons_append, List.nil_append]
      -- at 62: ifne 
      refine z_ifneB (pc := 62) (tgt := 68) C dX10_table_62 (by decide) (fun h4 => ?_) (fun h => bad (fun z => h z.2))
      first | refine z_aload (pc := 68) C dX10_table_68 rfl ?_ | refine z_aloadN (pc := 68) C dX10_table_68 rfl ?_
      refine z_iload_n (pc := 70) C dX10_table_70 rfl ?_
      refine z_iload_n (pc := 71) C dX10_table_71 rfl ?_
      refine z_iload (pc := 72) C dX10_table_72 rfl ?_
      refine z_iload (pc := 74) C dX10_table_74 rfl ?_
      -- at 76: invokevirtual Method GrindWorks$Mill.breakSize:(IIII)V
      refine z_callV (pc := 76) (ci := 4) C dX10_table_76 zy_X4_breakSize kw_296 kw_297 rfl kw_298 (hk_0 (κ := 2) (by exact hi) (by exact hq)) (ct_X4_breakSize l Ω σ hw i hi hq z (by omega) a b c) rfl rfl ⟨⟨by decide, by decide⟩, by decide, by decide⟩ (Nat.le_of_ble_eq_true rfl) ?_; dsimp only [Option.toList_none, List.nil_append]
      refine z_iconst (pc := 79) (v := nI 0) C dX10_table_79 (by decide) ?_
      -- at 80: ireturn 
      have g : ¬ ¬ (tnOk a b c ∧ hsOk (nI z) a b c) := fun w => w ⟨h3, h4⟩
      exact z_iret (pc := 80) C hQ dX10_table_80 (by unfold cr_table; rw [if_neg (fun z => z h1), if_neg (fun z => z hq), if_neg g]) (by unfold cs_table; rw [if_neg (fun z => z h1), if_neg (fun z => z hq), if_neg g, tz]) rfl (by decide) (by decide)
    · refine z_instNu (pc := 23) C (t := 2) "GrindWorks$Mill" (Or.inr (Or.inl ⟨rfl, rfl⟩)) hw hi hq h2 dX10_table_23 kw_164 ?_
      refine z_if_eqT (pc := 26) (tgt := 39) (a := 0) C dX10_table_26 (by decide) rfl ?_
      refine z_bipush (pc := 39) (v := (-3)) C dX10_table_39 (by decide) ?_
      -- at 41: ireturn 
      have h2 : ¬ σ.2.2.1 i = 2 := by rw [hq]; exact h2
      exact z_iret (pc := 41) C hQ dX10_table_41 (by unfold cr_table; rw [if_neg (fun z => z h1), if_pos h2]) (by unfold cs_table; rw [if_neg (fun z => z h1), if_pos h2]) rfl (by decide) (by decide)
  · refine z_iconst (pc := 19) (v := (-1)) C dX10_table_19 (by decide) ?_
    -- at 20: ireturn 
    exact z_iret (pc := 20) C hQ dX10_table_20 (by unfold cr_table; rw [if_pos h]) (by unfold cs_table; rw [if_pos h]) rfl (by decide) (by decide)
def cr_set (σ : Sg) (i : Nat) (j x : Int32) : Int32 := if ¬ (3 ≤ σ.2.2.1 i ∧ σ.2.2.1 i ≤ 6) then -3 else if ¬ isU (unu (σ.2.2.1 i)) j then -1 else r_chg σ i (tn j) x
def cs_set (σ : Sg) (i : Nat) (j x : Int32) : Sg := if ¬ (3 ≤ σ.2.2.1 i ∧ σ.2.2.1 i ≤ 6) then σ else if ¬ isU (unu (σ.2.2.1 i)) j then σ else s_chg σ i (tn j) x
set_option maxHeartbeats 4000000 in
set_option maxRecDepth 100000 in
theorem ct_X10_set_n (l : Launch) (Ω : OmT) (σ : Sg) (hw : KW σ) (u c x : Int32) (hu : ¬ isU σ.2.2.2 u) : ZM l Ω yX10_set cX10_set 5 (some .int) rm_X10_set [rfO Ω 0, .int u, .int c, .int x] (hp Ω σ) (hN σ) (some (.int (-1))) (hp Ω σ) (hN σ) := by
  refine ZM_of (by decide) (Nat.le_of_ble_eq_true rfl) (fun E hE C hQ => ?_)
  first | refine z_aload_n (pc := 0) C dX10_set_0 rfl ?_ | refine z_aload_nN (pc := 0) C dX10_set_0 rfl ?_
  refine z_iload_n (pc := 1) C dX10_set_1 rfl ?_
  refine z_callV (pc := 2) (ci := 9) C dX10_set_2 zy_X10_unitAt kw_250 kw_251 rfl kw_831 rfl (ct_X10_unitAt_n l Ω σ hw u hu) rfl rfl ⟨⟨by decide, by decide⟩, by decide, by decide⟩ (Nat.le_of_ble_eq_true rfl) ?_; dsimp only [Option.toList_some, List.cons_append, List.nil_append]
  first | refine z_astore (pc := 5) C dX10_set_5 (by rw [hE]; decide) ?_ | refine z_astoreN (pc := 5) C dX10_set_5 (by rw [hE]; decide) ?_
  first | refine z_aload (pc := 7) C dX10_set_7 rfl ?_ | refine z_aloadN (pc := 7) C dX10_set_7 rfl ?_
  -- at 9: ifnonnull 
  first | refine z_ifnonnullN (pc := 9) C dX10_set_9 ?_ | refine z_ifnonnull (pc := 9) (tgt := 14) C dX10_set_9 (by decide) ?_
  refine z_iconst (pc := 12) (v := (-1)) C dX10_set_12 (by decide) ?_
  -- at 13: ireturn 
  exact z_iret (pc := 13) C hQ dX10_set_13 rfl rfl rfl (by decide) (by decide)
set_option maxHeartbeats 4000000 in
set_option maxRecDepth 100000 in
theorem ct_X10_set (l : Launch) (Ω : OmT) (σ : Sg) (hw : KW σ) (i κ : Nat) (hi : i < σ.2.2.2) (hq : σ.2.2.1 i = κ) (j x : Int32) : ZM l Ω yX10_set cX10_set 5 (some .int) rm_X10_set [rfO Ω 0, .int (nI i), .int j, .int x] (hp Ω σ) (hN σ) (some (.int (cr_set σ i j x))) (hp Ω (cs_set σ i j x)) (hN σ) := by
  refine ZM_of (by decide) (Nat.le_of_ble_eq_true rfl) (fun E hE C hQ => ?_)
  have h8 : κ < 8 := hq ▸ hw.2 i hi
  have hup := unu_le κ
  have bad : ¬ (3 ≤ κ ∧ κ ≤ 6) → ZV l Ω E 0 0 33 [(0, rfO Ω 0), (1, .int (nI i)), (2, .int j), (3, .int x), (4, rfO Ω (bs σ.2.2.1 i))] [] (hp Ω σ) (hN σ) := by
    intro g
    rw [← hq] at g
    refine z_bipush (pc := 33) (v := (-3)) C dX10_set_33 (by decide) ?_
    -- at 35: ireturn 
    exact z_iret (pc := 35) C hQ dX10_set_35 (by unfold cr_set; rw [if_pos g]) (by unfold cs_set; rw [if_pos g]) rfl (by decide) (by decide)
  first | refine z_aload_n (pc := 0) C dX10_set_0 rfl ?_ | refine z_aload_nN (pc := 0) C dX10_set_0 rfl ?_
  refine z_iload_n (pc := 1) C dX10_set_1 rfl ?_
  refine z_callV (pc := 2) (ci := 9) C dX10_set_2 zy_X10_unitAt kw_250 kw_251 rfl kw_831 rfl (ct_X10_unitAt l Ω σ hw i hi) rfl rfl ⟨⟨by decide, by decide⟩, by decide, by decide⟩ (Nat.le_of_ble_eq_true rfl) ?_; dsimp only [Option.toList_some, List.cons_append, List.nil_append]
  first | refine z_astore (pc := 5) C dX10_set_5 (by rw [hE]; decide) ?_ | refine z_astoreN (pc := 5) C dX10_set_5 (by rw [hE]; decide) ?_
  first | refine z_aload (pc := 7) C dX10_set_7 rfl ?_ | refine z_aloadN (pc := 7) C dX10_set_7 rfl ?_
  -- at 9: ifnonnull 
  first | refine z_ifnonnullN (pc := 9) C dX10_set_9 ?_ | refine z_ifnonnull (pc := 9) (tgt := 14) C dX10_set_9 (by decide) ?_
  first | refine z_aload (pc := 14) C dX10_set_14 rfl ?_ | refine z_aloadN (pc := 14) C dX10_set_14 rfl ?_
  refine z_getf (pc := 16) C dX10_set_16 (zfu_X10_42 h8) (hk_0 (κ := κ) (by exact hi) (by exact hq)) rfl ?_
  refine z_iconst (pc := 19) (v := nI 3) C dX10_set_19 (by decide) ?_
  -- at 20: if_icmplt 
  refine z_icmp_lt (pc := 20) (tgt := 33) C dX10_set_20 (by decide) (fun h => bad (fun z => ?_)) (fun h1 => ?_)
  · have := (nI_ltI (by omega) (by decide)).mp h
    omega
  have h1 : 3 ≤ κ := Nat.le_of_not_lt (fun z => h1 ((nI_ltI (by omega) (by decide)).mpr z))
  first | refine z_aload (pc := 23) C dX10_set_23 rfl ?_ | refine z_aloadN (pc := 23) C dX10_set_23 rfl ?_
  refine z_getf (pc := 25) C dX10_set_25 (zfu_X10_42 h8) (hk_0 (κ := κ) (by exact hi) (by exact hq)) rfl ?_
  refine z_bipush (pc := 28) (v := nI 6) C dX10_set_28 (by decide) ?_
  -- at 30: if_icmple 
  refine z_icmp_le (pc := 30) (tgt := 36) C dX10_set_30 (by decide) (fun h2 => ?_) (fun h => bad (fun z => h ((nI_leI (by omega) (by decide)).mpr z.2)))
  have h2 : κ ≤ 6 := (nI_leI (by omega) (by decide)).mp h2
  have g : ¬ ¬ (3 ≤ σ.2.2.1 i ∧ σ.2.2.1 i ≤ 6) := fun z => z (by rw [hq]; exact ⟨h1, h2⟩)
  first | refine z_aload (pc := 36) C dX10_set_36 rfl ?_ | refine z_aloadN (pc := 36) C dX10_set_36 rfl ?_
  refine z_iload_n (pc := 38) C dX10_set_38 rfl ?_
  obtain ⟨q9_39, hq9_39, hs9_39⟩ := zsu_X9_hasNumber h8
  refine z_callV (pc := 39) C dX10_set_39 zy_X9_hasNumber kw_307 kw_308 hq9_39 hs9_39 (hk_0 (κ := κ) (by exact hi) (by exact hq)) (ct_X9_hasNumber l Ω σ hw i κ hi hq j) rfl rfl ⟨⟨by decide, by decide⟩, by decide, by decide⟩ (Nat.le_of_ble_eq_true rfl) ?_; dsimp only [Option.toList_some, List.cons_append, List.nil_append]
  -- at 42: ifne 
  refine z_ifneB (pc := 42) (tgt := 47) C dX10_set_42 (by decide) (fun h => ?_) (fun h => ?_)
  · have h3 := h
    rw [← hq] at h3
    obtain ⟨j, hj, rfl⟩ := isU_of (by omega) h
    have tj : tn (nI j) = j := tn_nI (by omega)
    first | refine z_aload (pc := 47) C dX10_set_47 rfl ?_ | refine z_aloadN (pc := 47) C dX10_set_47 rfl ?_
    refine z_iload_n (pc := 49) C dX10_set_49 rfl ?_
    refine z_iload_n (pc := 50) C dX10_set_50 rfl ?_
    obtain ⟨q9_51, hq9_51, hs9_51⟩ := zsu_X9_change h8
    refine z_callV (pc := 51) C dX10_set_51 zy_X9_change kw_271 kw_272 hq9_51 hs9_51 (hk_0 (κ := κ) (by exact hi) (by exact hq)) (ct_X9_change l Ω σ hw i κ hi hq j hj x) rfl rfl ⟨⟨by decide, by decide⟩, by decide, by decide⟩ (Nat.le_of_ble_eq_true rfl) ?_; dsimp only [Option.toList_some, List.cons_append, List.nil_append]
    -- at 54: ireturn 
    exact z_iret (pc := 54) C hQ dX10_set_54 (by unfold cr_set; rw [if_neg g, if_neg (fun z => z h3), tj]) (by unfold cs_set; rw [if_neg g, if_neg (fun z => z h3), tj]) rfl (by decide) (by decide)
  · refine z_iconst (pc := 45) (v := (-1)) C dX10_set_45 (by decide) ?_
    -- at 46: ireturn 
    rw [← hq] at h
    exact z_iret (pc := 46) C hQ dX10_set_46 (by unfold cr_set; rw [if_neg g, if_pos h]) (by unfold cs_set; rw [if_neg g, if_pos h]) rfl (by decide) (by decide)
