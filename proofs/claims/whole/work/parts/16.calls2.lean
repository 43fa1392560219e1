/-! ===== the class: more of its public calls ===== -/
def cr_control (σ : Sg) (i : Nat) (u off on : Int32) : Int32 := if ¬ isU σ.2.2.2 u then -1 else if ¬ σ.2.2.1 i = 0 then -3 else if ¬ (inR 0 100000 off ∧ inR 0 100000 on ∧ on ≤ off) then -2 else nI 0
def cs_control (σ : Sg) (i : Nat) (u off on : Int32) : Sg := if ¬ isU σ.2.2.2 u then σ else if ¬ σ.2.2.1 i = 0 then σ else if ¬ (inR 0 100000 off ∧ inR 0 100000 on ∧ on ≤ off) then σ else sI (sI (sI σ i 8 1 u) i 8 2 off) i 8 3 on
set_option maxHeartbeats 4000000 in
set_option maxRecDepth 100000 in
theorem ct_X10_control_n (l : Launch) (Ω : OmT) (σ : Sg) (hw : KW σ) (u v off on : Int32) (hu : ¬ isU σ.2.2.2 u) : ZM l Ω yX10_control cX10_control 7 (some .int) rm_X10_control [rfO Ω 0, .int u, .int v, .int off, .int on] (hp Ω σ) (hN σ) (some (.int (-1))) (hp Ω σ) (hN σ) := by
  refine ZM_of (by decide) (Nat.le_of_ble_eq_true rfl) (fun E hE C hQ => ?_)
  first | refine z_aload_n (pc := 0) C dX10_control_0 rfl ?_ | refine z_aload_nN (pc := 0) C dX10_control_0 rfl ?_
  refine z_iload_n (pc := 1) C dX10_control_1 rfl ?_
  refine z_callV (pc := 2) (ci := 9) C dX10_control_2 zy_X10_unitAt kw_250 kw_251 rfl kw_831 rfl (ct_X10_unitAt_n l Ω σ hw u hu) rfl rfl ⟨⟨by decide, by decide⟩, by decide, by decide⟩ (Nat.le_of_ble_eq_true rfl) ?_; dsimp only [Option.toList_some, List.cons_append, List.nil_append]
  first | refine z_astore (pc := 5) C dX10_control_5 (by rw [hE]; decide) ?_ | refine z_astoreN (pc := 5) C dX10_control_5 (by rw [hE]; decide) ?_
  first | refine z_aload (pc := 7) C dX10_control_7 rfl ?_ | refine z_aloadN (pc := 7) C dX10_control_7 rfl ?_
  -- at 9: ifnull 
  first | refine z_ifnull (pc := 9) C dX10_control_9 ?_ | refine z_ifnullN (pc := 9) (tgt := 20) C dX10_control_9 (by decide) ?_
  refine z_iconst (pc := 20) (v := (-1)) C dX10_control_20 (by decide) ?_
  -- at 21: ireturn 
  exact z_iret (pc := 21) C hQ dX10_control_21 rfl rfl rfl (by decide) (by decide)
set_option maxHeartbeats 4000000 in
set_option maxRecDepth 100000 in
theorem ct_X10_control (l : Launch) (Ω : OmT) (σ : Sg) (hw : KW σ) (i κ : Nat) (hi : i < σ.2.2.2) (hq : σ.2.2.1 i = κ) (u off on : Int32) : ZM l Ω yX10_control cX10_control 7 (some .int) rm_X10_control [rfO Ω 0, .int (nI i), .int u, .int off, .int on] (hp Ω σ) (hN σ) (some (.int (cr_control σ i u off on))) (hp Ω (cs_control σ i u off on)) (hN σ) := by
  refine ZM_of (by decide) (Nat.le_of_ble_eq_true rfl) (fun E hE C hQ => ?_)
  have h8 : κ < 8 := hq ▸ hw.2 i hi
  have hn := hw.1
  first | refine z_aload_n (pc := 0) C dX10_control_0 rfl ?_ | refine z_aload_nN (pc := 0) C dX10_control_0 rfl ?_
  refine z_iload_n (pc := 1) C dX10_control_1 rfl ?_
  refine z_callV (pc := 2) (ci := 9) C dX10_control_2 zy_X10_unitAt kw_250 kw_251 rfl kw_831 rfl (ct_X10_unitAt l Ω σ hw i hi) rfl rfl ⟨⟨by decide, by decide⟩, by decide, by decide⟩ (Nat.le_of_ble_eq_true rfl) ?_; dsimp only [Option.toList_some, List.cons_append, List.nil_append]
  first | refine z_astore (pc := 5) C dX10_control_5 (by rw [hE]; decide) ?_ | refine z_astoreN (pc := 5) C dX10_control_5 (by rw [hE]; decide) ?_
  first | refine z_aload (pc := 7) C dX10_control_7 rfl ?_ | refine z_aloadN (pc := 7) C dX10_control_7 rfl ?_
  -- at 9: ifnull 
  first | refine z_ifnull (pc := 9) C dX10_control_9 ?_ | refine z_ifnullN (pc := 9) (tgt := 20) C dX10_control_9 (by decide) ?_
  by_cases h1 : isU σ.2.2.2 u
  · have h9 := h1
    obtain ⟨d, hd, e⟩ := isU_of (by omega) h1
    subst e
    first | refine z_aload_n (pc := 12) C dX10_control_12 rfl ?_ | refine z_aload_nN (pc := 12) C dX10_control_12 rfl ?_
    refine z_iload_n (pc := 13) C dX10_control_13 rfl ?_
    refine z_callV (pc := 14) (ci := 9) C dX10_control_14 zy_X10_unitAt kw_250 kw_251 rfl kw_831 rfl (ct_X10_unitAt l Ω σ hw d hd) rfl rfl ⟨⟨by decide, by decide⟩, by decide, by decide⟩ (Nat.le_of_ble_eq_true rfl) ?_; dsimp only [Option.toList_some, List.cons_append, List.nil_append]
    -- at 17: ifnonnull 
    first | refine z_ifnonnullN (pc := 17) C dX10_control_17 ?_ | refine z_ifnonnull (pc := 17) (tgt := 22) C dX10_control_17 (by decide) ?_
    first | refine z_aload (pc := 22) C dX10_control_22 rfl ?_ | refine z_aloadN (pc := 22) C dX10_control_22 rfl ?_
    -- at 24: instanceof class GrindWorks$Feed
    by_cases h2 : κ = 0
    · subst h2
      refine z_instY (pc := 24) (ci := 1) C dX10_control_24 (hk_0 (κ := 0) hi hq) rfl kw_54 ?_
      refine z_if_eqF (pc := 27) (tgt := 40) (a := 1) C dX10_control_27 (by decide) (by decide) (by decide) ?_
      first | refine z_aload (pc := 30) C dX10_control_30 rfl ?_ | refine z_aloadN (pc := 30) C dX10_control_30 rfl ?_
      -- at 32: checkcast class GrindWorks$Feed
      refine z_cast (pc := 32) (ci := 1) C dX10_control_32 (hk_0 (κ := 0) hi hq) rfl kw_54 ?_
      first | refine z_astore (pc := 35) C dX10_control_35 (by rw [hE]; decide) ?_ | refine z_astoreN (pc := 35) C dX10_control_35 (by rw [hE]; decide) ?_
      refine z_goto (pc := 37) (tgt := 43) C dX10_control_37 (by decide) ?_
      -- at 43
      have bad : ¬ (inR 0 100000 off ∧ inR 0 100000 on ∧ on ≤ off) → ZV l Ω E 0 0 64 [(0, rfO Ω 0), (1, .int (nI i)), (2, .int (nI d)), (3, .int off), (4, .int on), (5, rfO Ω (bs σ.2.2.1 i)), (6, rfO Ω (bs σ.2.2.1 i))] [] (hp Ω σ) (hN σ) := by
        intro g
        refine z_bipush (pc := 64) (v := (-2)) C dX10_control_64 (by decide) ?_
        -- at 66: ireturn 
        exact z_iret (pc := 66) C hQ dX10_control_66 (by unfold cr_control; rw [if_neg (fun z => z h9), if_neg (fun z => z hq), if_pos g]) (by unfold cs_control; rw [if_neg (fun z => z h9), if_neg (fun z => z hq), if_pos g]) rfl (by decide) (by decide)
      refine z_iload_n (pc := 43) C dX10_control_43 rfl ?_
      refine z_callS (pc := 44) C dX10_control_44 zy_X10_isLevel kw_322 kw_323 (ct_X10_isLevel l Ω _ _ off) rfl rfl ⟨⟨by decide, by decide⟩, by decide, by decide⟩ (Nat.le_of_ble_eq_true rfl) ?_; dsimp only [Option.toList_some, List.cons_append, List.nil_append]
      -- at 47: ifeq 
      refine z_ifeqB (pc := 47) (tgt := 64) C dX10_control_47 (by decide) (fun h => bad (fun z => h z.1)) (fun h3 => ?_)
      refine z_iload (pc := 50) C dX10_control_50 rfl ?_
      refine z_callS (pc := 52) C dX10_control_52 zy_X10_isLevel kw_322 kw_323 (ct_X10_isLevel l Ω _ _ on) rfl rfl ⟨⟨by decide, by decide⟩, by decide, by decide⟩ (Nat.le_of_ble_eq_true rfl) ?_; dsimp only [Option.toList_some, List.cons_append, List.nil_append]
      -- at 55: ifeq 
      refine z_ifeqB (pc := 55) (tgt := 64) C dX10_control_55 (by decide) (fun h => bad (fun z => h z.2.1)) (fun h4 => ?_)
      refine z_iload (pc := 58) C dX10_control_58 rfl ?_
      refine z_iload_n (pc := 60) C dX10_control_60 rfl ?_
      -- at 61: if_icmple 
      refine z_icmp_le (pc := 61) (tgt := 67) C dX10_control_61 (by decide) (fun h5 => ?_) (fun h => bad (fun z => h z.2.2))
      have g : ¬ ¬ (inR 0 100000 off ∧ inR 0 100000 on ∧ on ≤ off) := fun w => w ⟨h3, h4, h5⟩
      first | refine z_aload (pc := 67) C dX10_control_67 rfl ?_ | refine z_aloadN (pc := 67) C dX10_control_67 rfl ?_
      refine z_iload_n (pc := 69) C dX10_control_69 rfl ?_
      refine z_iload_n (pc := 70) C dX10_control_70 rfl ?_
      refine z_iload (pc := 71) C dX10_control_71 rfl ?_
      -- at 73: invokevirtual Method GrindWorks$Feed.controlBy:(III)V
      refine z_callV (pc := 73) (ci := 1) C dX10_control_73 zy_X1_controlBy kw_326 kw_327 rfl kw_328 (hk_0 (κ := 0) (by exact hi) (by exact hq)) (ct_X1_controlBy l Ω σ hw i hi hq (nI d) off on) rfl rfl ⟨⟨by decide, by decide⟩, by decide, by decide⟩ (Nat.le_of_ble_eq_true rfl) ?_; dsimp only [Option.toList_none, List.nil_append]
      refine z_iconst (pc := 76) (v := nI 0) C dX10_control_76 (by decide) ?_
      -- at 77: ireturn 
      exact z_iret (pc := 77) C hQ dX10_control_77 (by unfold cr_control; rw [if_neg (fun z => z h9), if_neg (fun z => z hq), if_neg g]) (by unfold cs_control; rw [if_neg (fun z => z h9), if_neg (fun z => z hq), if_neg g]) rfl (by decide) (by decide)
    · refine z_instNu (pc := 24) C (t := 0) "GrindWorks$Feed" (Or.inl ⟨rfl, rfl⟩) hw hi hq h2 dX10_control_24 kw_54 ?_
      refine z_if_eqT (pc := 27) (tgt := 40) (a := 0) C dX10_control_27 (by decide) rfl ?_
      refine z_bipush (pc := 40) (v := (-3)) C dX10_control_40 (by decide) ?_
      -- at 42: ireturn 
      have h2 : ¬ σ.2.2.1 i = 0 := by rw [hq]; exact h2
      exact z_iret (pc := 42) C hQ dX10_control_42 (by unfold cr_control; rw [if_neg (fun z => z h9), if_pos h2]) (by unfold cs_control; rw [if_neg (fun z => z h9), if_pos h2]) rfl (by decide) (by decide)
  · first | refine z_aload_n (pc := 12) C dX10_control_12 rfl ?_ | refine z_aload_nN (pc := 12) C dX10_control_12 rfl ?_
    refine z_iload_n (pc := 13) C dX10_control_13 rfl ?_
    refine z_callV (pc := 14) (ci := 9) C dX10_control_14 zy_X10_unitAt kw_250 kw_251 rfl kw_831 rfl (ct_X10_unitAt_n l Ω σ hw u h1) rfl rfl ⟨⟨by decide, by decide⟩, by decide, by decide⟩ (Nat.le_of_ble_eq_true rfl) ?_; dsimp only [Option.toList_some, List.cons_append, List.nil_append]
    -- at 17: ifnonnull 
    first | refine z_ifnonnullN (pc := 17) C dX10_control_17 ?_ | refine z_ifnonnull (pc := 17) (tgt := 22) C dX10_control_17 (by decide) ?_
    refine z_iconst (pc := 20) (v := (-1)) C dX10_control_20 (by decide) ?_
    -- at 21: ireturn 
    exact z_iret (pc := 21) C hQ dX10_control_21 (by unfold cr_control; rw [if_pos h1]) (by unfold cs_control; rw [if_pos h1]) rfl (by decide) (by decide)
def cr_turn (σ : Sg) (i : Nat) (on : Int32) : Int32 := if ¬ σ.2.2.1 i = 0 then -3 else if ¬ (on = 0 ∨ on = nI 1) then -2 else if σ.1 i 8 0 = 0 then nI 0 else nI 1
def cs_turn (σ : Sg) (i : Nat) (on : Int32) : Sg := if ¬ σ.2.2.1 i = 0 then σ else if ¬ (on = 0 ∨ on = nI 1) then σ else sI σ i 8 0 (if on = nI 1 then nI 1 else nI 0)
set_option maxHeartbeats 4000000 in
set_option maxRecDepth 100000 in
theorem ct_X10_turn_n (l : Launch) (Ω : OmT) (σ : Sg) (hw : KW σ) (u c : Int32) (hu : ¬ isU σ.2.2.2 u) : ZM l Ω yX10_turn cX10_turn 6 (some .int) rm_X10_turn [rfO Ω 0, .int u, .int c] (hp Ω σ) (hN σ) (some (.int (-1))) (hp Ω σ) (hN σ) := by
  refine ZM_of (by decide) (Nat.le_of_ble_eq_true rfl) (fun E hE C hQ => ?_)
  first | refine z_aload_n (pc := 0) C dX10_turn_0 rfl ?_ | refine z_aload_nN (pc := 0) C dX10_turn_0 rfl ?_
  refine z_iload_n (pc := 1) C dX10_turn_1 rfl ?_
  refine z_callV (pc := 2) (ci := 9) C dX10_turn_2 zy_X10_unitAt kw_250 kw_251 rfl kw_831 rfl (ct_X10_unitAt_n l Ω σ hw u hu) rfl rfl ⟨⟨by decide, by decide⟩, by decide, by decide⟩ (Nat.le_of_ble_eq_true rfl) ?_; dsimp only [Option.toList_some, List.cons_append, List.nil_append]
  first | refine z_astore_n (pc := 5) C dX10_turn_5 (by rw [hE]; decide) ?_ | refine z_astore_nN (pc := 5) C dX10_turn_5 (by rw [hE]; decide) ?_
  first | refine z_aload_n (pc := 6) C dX10_turn_6 rfl ?_ | refine z_aload_nN (pc := 6) C dX10_turn_6 rfl ?_
  -- at 7: ifnonnull 
  first | refine z_ifnonnullN (pc := 7) C dX10_turn_7 ?_ | refine z_ifnonnull (pc := 7) (tgt := 12) C dX10_turn_7 (by decide) ?_
  refine z_iconst (pc := 10) (v := (-1)) C dX10_turn_10 (by decide) ?_
  -- at 11: ireturn 
  exact z_iret (pc := 11) C hQ dX10_turn_11 rfl rfl rfl (by decide) (by decide)
set_option maxHeartbeats 4000000 in
set_option maxRecDepth 100000 in
theorem ct_X10_turn (l : Launch) (Ω : OmT) (σ : Sg) (hw : KW σ) (i κ : Nat) (hi : i < σ.2.2.2) (hq : σ.2.2.1 i = κ) (on : Int32) : ZM l Ω yX10_turn cX10_turn 6 (some .int) rm_X10_turn [rfO Ω 0, .int (nI i), .int on] (hp Ω σ) (hN σ) (some (.int (cr_turn σ i on))) (hp Ω (cs_turn σ i on)) (hN σ) := by
  refine ZM_of (by decide) (Nat.le_of_ble_eq_true rfl) (fun E hE C hQ => ?_)
  have h8 : κ < 8 := hq ▸ hw.2 i hi
  first | refine z_aload_n (pc := 0) C dX10_turn_0 rfl ?_ | refine z_aload_nN (pc := 0) C dX10_turn_0 rfl ?_
  refine z_iload_n (pc := 1) C dX10_turn_1 rfl ?_
  refine z_callV (pc := 2) (ci := 9) C dX10_turn_2 zy_X10_unitAt kw_250 kw_251 rfl kw_831 rfl (ct_X10_unitAt l Ω σ hw i hi) rfl rfl ⟨⟨by decide, by decide⟩, by decide, by decide⟩ (Nat.le_of_ble_eq_true rfl) ?_; dsimp only [Option.toList_some, List.cons_append, List.nil_append]
  first | refine z_astore_n (pc := 5) C dX10_turn_5 (by rw [hE]; decide) ?_ | refine z_astore_nN (pc := 5) C dX10_turn_5 (by rw [hE]; decide) ?_
  first | refine z_aload_n (pc := 6) C dX10_turn_6 rfl ?_ | refine z_aload_nN (pc := 6) C dX10_turn_6 rfl ?_
  -- at 7: ifnonnull 
  first | refine z_ifnonnullN (pc := 7) C dX10_turn_7 ?_ | refine z_ifnonnull (pc := 7) (tgt := 12) C dX10_turn_7 (by decide) ?_
  first | refine z_aload_n (pc := 12) C dX10_turn_12 rfl ?_ | refine z_aload_nN (pc := 12) C dX10_turn_12 rfl ?_
  -- at 13: instanceof class GrindWorks$Feed
  by_cases h2 : κ = 0
  · subst h2
    refine z_instY (pc := 13) (ci := 1) C dX10_turn_13 (hk_0 (κ := 0) hi hq) rfl kw_54 ?_
    refine z_if_eqF (pc := 16) (tgt := 28) (a := 1) C dX10_turn_16 (by decide) (by decide) (by decide) ?_
    first | refine z_aload_n (pc := 19) C dX10_turn_19 rfl ?_ | refine z_aload_nN (pc := 19) C dX10_turn_19 rfl ?_
    -- at 20: checkcast class GrindWorks$Feed
    refine z_cast (pc := 20) (ci := 1) C dX10_turn_20 (hk_0 (κ := 0) hi hq) rfl kw_54 ?_
    first | refine z_astore (pc := 23) C dX10_turn_23 (by rw [hE]; decide) ?_ | refine z_astoreN (pc := 23) C dX10_turn_23 (by rw [hE]; decide) ?_
    refine z_goto (pc := 25) (tgt := 31) C dX10_turn_25 (by decide) ?_
    -- at 31
    have go : (on = 0 ∨ on = nI 1) → ZV l Ω E 0 0 43 [(0, rfO Ω 0), (1, .int (nI i)), (2, .int on), (3, rfO Ω (bs σ.2.2.1 i)), (4, rfO Ω (bs σ.2.2.1 i))] [] (hp Ω σ) (hN σ) := by
      intro g
      have fin : ∀ y z : Int32, y = (if σ.1 i 8 0 = 0 then nI 0 else nI 1) → (z = nI 0 ∨ z = nI 1) → z = (if on = nI 1 then nI 1 else nI 0) → ZV l Ω E 0 0 70 [(0, rfO Ω 0), (1, .int (nI i)), (2, .int on), (3, rfO Ω (bs σ.2.2.1 i)), (4, rfO Ω (bs σ.2.2.1 i)), (5, .int y)] [.int z, rfO Ω (bs σ.2.2.1 i)] (hp Ω σ) (hN σ) := by
        intro y z hy hz0 hz
        refine z_putf (pc := 70) C dX10_turn_70 zp_X10_85_1 (hk_0 (κ := 0) (by exact hi) (by exact hq)) (Nat.le_of_ble_eq_true rfl) (by rcases hz0 with rfl | rfl <;> rfl) (by rcases hz0 with rfl | rfl <;> rfl) rfl (hk_put (κ := 0) (by exact hw) (by exact hi) (by exact hq) 8 0 (by decide)) ?_
        refine z_iload (pc := 73) C dX10_turn_73 rfl ?_
        -- at 75: ireturn 
        exact z_iret (pc := 75) C hQ dX10_turn_75 (by unfold cr_turn; rw [if_neg (fun z => z hq), if_neg (fun z => z g), hy]) (by unfold cs_turn; rw [if_neg (fun z => z hq), if_neg (fun z => z g), hz]) rfl (by decide) (by decide)
      have mid : ∀ y : Int32, y = (if σ.1 i 8 0 = 0 then nI 0 else nI 1) → ZV l Ω E 0 0 56 [(0, rfO Ω 0), (1, .int (nI i)), (2, .int on), (3, rfO Ω (bs σ.2.2.1 i)), (4, rfO Ω (bs σ.2.2.1 i))] [.int y] (hp Ω σ) (hN σ) := by
        intro y hy
        refine z_istore (pc := 56) C dX10_turn_56 (by rw [hE]; decide) ?_
        first | refine z_aload (pc := 58) C dX10_turn_58 rfl ?_ | refine z_aloadN (pc := 58) C dX10_turn_58 rfl ?_
        refine z_iload_n (pc := 60) C dX10_turn_60 rfl ?_
        refine z_iconst (pc := 61) (v := nI 1) C dX10_turn_61 (by decide) ?_
        -- at 62: if_icmpne 
        refine z_icmp_ne (pc := 62) (tgt := 69) C dX10_turn_62 (by decide) (fun h => ?_) (fun h => ?_)
        · refine z_iconst (pc := 69) (v := nI 0) C dX10_turn_69 (by decide) ?_
          -- at 70: putfield Field GrindWorks$Feed.on:Z
          exact fin y _ hy (Or.inl rfl) (by rw [if_neg h])
        · refine z_iconst (pc := 65) (v := nI 1) C dX10_turn_65 (by decide) ?_
          refine z_goto (pc := 66) (tgt := 70) C dX10_turn_66 (by decide) ?_
          -- at 70
          exact fin y _ hy (Or.inr rfl) (by rw [if_pos h])
      first | refine z_aload (pc := 43) C dX10_turn_43 rfl ?_ | refine z_aloadN (pc := 43) C dX10_turn_43 rfl ?_
      refine z_getf (pc := 45) C dX10_turn_45 zf_X10_85_1 (hk_0 (κ := 0) (by exact hi) (by exact hq)) rfl ?_
      -- at 48: ifeq 
      refine z_if_eq (pc := 48) (tgt := 55) C dX10_turn_48 (by decide) (fun h => ?_) (fun h => ?_)
      · refine z_iconst (pc := 55) (v := nI 0) C dX10_turn_55 (by decide) ?_
        -- at 56: istore 
        exact mid _ (by rw [if_pos h])
      · refine z_iconst (pc := 51) (v := nI 1) C dX10_turn_51 (by decide) ?_
        refine z_goto (pc := 52) (tgt := 56) C dX10_turn_52 (by decide) ?_
        -- at 56
        exact mid _ (by rw [if_neg h])
    refine z_iload_n (pc := 31) C dX10_turn_31 rfl ?_
    -- at 32: ifeq 
    refine z_if_eq (pc := 32) (tgt := 43) C dX10_turn_32 (by decide) (fun h => go (Or.inl h)) (fun h3 => ?_)
    refine z_iload_n (pc := 35) C dX10_turn_35 rfl ?_
    refine z_iconst (pc := 36) (v := nI 1) C dX10_turn_36 (by decide) ?_
    -- at 37: if_icmpeq 
    refine z_icmp_eq (pc := 37) (tgt := 43) C dX10_turn_37 (by decide) (fun h => go (Or.inr h)) (fun h4 => ?_)
    refine z_bipush (pc := 40) (v := (-2)) C dX10_turn_40 (by decide) ?_
    -- at 42: ireturn 
    have g : ¬ (on = 0 ∨ on = nI 1) := fun z => z.elim h3 h4
    exact z_iret (pc := 42) C hQ dX10_turn_42 (by unfold cr_turn; rw [if_neg (fun z => z hq), if_pos g]) (by unfold cs_turn; rw [if_neg (fun z => z hq), if_pos g]) rfl (by decide) (by decide)
  · refine z_instNu (pc := 13) C (t := 0) "GrindWorks$Feed" (Or.inl ⟨rfl, rfl⟩) hw hi hq h2 dX10_turn_13 kw_54 ?_
    refine z_if_eqT (pc := 16) (tgt := 28) (a := 0) C dX10_turn_16 (by decide) rfl ?_
    refine z_bipush (pc := 28) (v := (-3)) C dX10_turn_28 (by decide) ?_
    -- at 30: ireturn 
    have h2 : ¬ σ.2.2.1 i = 0 := by rw [hq]; exact h2
    exact z_iret (pc := 30) C hQ dX10_turn_30 (by unfold cr_turn; rw [if_pos h2]) (by unfold cs_turn; rw [if_pos h2]) rfl (by decide) (by decide)
set_option maxHeartbeats 4000000 in
set_option maxRecDepth 100000 in
theorem ct_X10_isFeedThatIsOn (l : Launch) (Ω : OmT) (σ : Sg) (hw : KW σ) (i κ : Nat) (hi : i < σ.2.2.2) (hq : σ.2.2.1 i = κ) : ZM l Ω yX10_isFeedThatIsOn cX10_isFeedThatIsOn 2 (some .boolean) rm_X10_isFeedThatIsOn [rfO Ω (bs σ.2.2.1 i)] (hp Ω σ) (hN σ) (some (.int (b01 (κ = 0 ∧ ¬ σ.1 i 8 0 = 0)))) (hp Ω σ) (hN σ) := by
  refine ZM_of (by decide) (Nat.le_of_ble_eq_true rfl) (fun E hE C hQ => ?_)
  first | refine z_aload_n (pc := 0) C dX10_isFeedThatIsOn_0 rfl ?_ | refine z_aload_nN (pc := 0) C dX10_isFeedThatIsOn_0 rfl ?_
  -- at 1: instanceof class GrindWorks$Feed
  by_cases h2 : κ = 0
  · subst h2
    refine z_instY (pc := 1) (ci := 1) C dX10_isFeedThatIsOn_1 (hk_0 (κ := 0) hi hq) rfl kw_54 ?_
    refine z_if_eqF (pc := 4) (tgt := 23) (a := 1) C dX10_isFeedThatIsOn_4 (by decide) (by decide) (by decide) ?_
    first | refine z_aload_n (pc := 7) C dX10_isFeedThatIsOn_7 rfl ?_ | refine z_aload_nN (pc := 7) C dX10_isFeedThatIsOn_7 rfl ?_
    -- at 8: checkcast class GrindWorks$Feed
    refine z_cast (pc := 8) (ci := 1) C dX10_isFeedThatIsOn_8 (hk_0 (κ := 0) hi hq) rfl kw_54 ?_
    first | refine z_astore_n (pc := 11) C dX10_isFeedThatIsOn_11 (by rw [hE]; decide) ?_ | refine z_astore_nN (pc := 11) C dX10_isFeedThatIsOn_11 (by rw [hE]; decide) ?_
    first | refine z_aload_n (pc := 12) C dX10_isFeedThatIsOn_12 rfl ?_ | refine z_aload_nN (pc := 12) C dX10_isFeedThatIsOn_12 rfl ?_
    refine z_getf (pc := 13) C dX10_isFeedThatIsOn_13 zf_X10_85_1 (hk_0 (κ := 0) (by exact hi) (by exact hq)) rfl ?_
    -- at 16: ifeq 
    refine z_if_eq (pc := 16) (tgt := 23) C dX10_isFeedThatIsOn_16 (by decide) (fun h => ?_) (fun h => ?_)
    · refine z_iconst (pc := 23) (v := nI 0) C dX10_isFeedThatIsOn_23 (by decide) ?_
      -- at 24: ireturn 
      exact z_zret (pc := 24) C hQ dX10_isFeedThatIsOn_24 rfl (by rw [b01_f (fun z => z.2 h)]; rfl) rfl rfl (by decide) (by decide)
    · refine z_iconst (pc := 19) (v := nI 1) C dX10_isFeedThatIsOn_19 (by decide) ?_
      refine z_goto (pc := 20) (tgt := 24) C dX10_isFeedThatIsOn_20 (by decide) ?_
      -- at 24
      exact z_zret (pc := 24) C hQ dX10_isFeedThatIsOn_24 rfl (by rw [b01_t ⟨rfl, h⟩]; rfl) rfl rfl (by decide) (by decide)
  · refine z_instNu (pc := 1) C (t := 0) "GrindWorks$Feed" (Or.inl ⟨rfl, rfl⟩) hw hi hq h2 dX10_isFeedThatIsOn_1 kw_54 ?_
    refine z_if_eqT (pc := 4) (tgt := 23) (a := 0) C dX10_isFeedThatIsOn_4 (by decide) rfl ?_
    refine z_iconst (pc := 23) (v := nI 0) C dX10_isFeedThatIsOn_23 (by decide) ?_
    -- at 24: ireturn 
    exact z_zret (pc := 24) C hQ dX10_isFeedThatIsOn_24 rfl (by rw [b01_f (fun z => h2 z.1)]; rfl) rfl rfl (by decide) (by decide)
set_option maxHeartbeats 4000000 in
set_option maxRecDepth 100000 in
theorem ct_X10_isFeedThatIsOn_n (l : Launch) (Ω : OmT) (A : AHp) (n : Nat) : ZM l Ω yX10_isFeedThatIsOn cX10_isFeedThatIsOn 2 (some .boolean) rm_X10_isFeedThatIsOn [.null] (A) (n) (some (.int (nI 0))) (A) (n) := by
  refine ZM_of (by decide) (Nat.le_of_ble_eq_true rfl) (fun E hE C hQ => ?_)
  first | refine z_aload_n (pc := 0) C dX10_isFeedThatIsOn_0 rfl ?_ | refine z_aload_nN (pc := 0) C dX10_isFeedThatIsOn_0 rfl ?_
  -- at 1: instanceof class GrindWorks$Feed
  refine z_instNull (pc := 1) C dX10_isFeedThatIsOn_1 ?_
  refine z_if_eqT (pc := 4) (tgt := 23) (a := 0) C dX10_isFeedThatIsOn_4 (by decide) rfl ?_
  refine z_iconst (pc := 23) (v := nI 0) C dX10_isFeedThatIsOn_23 (by decide) ?_
  -- at 24: ireturn 
  exact z_zret (pc := 24) C hQ dX10_isFeedThatIsOn_24 rfl rfl rfl rfl (by decide) (by decide)
/-- how many feeds below k are on -/
def fOn (σ : Sg) : Nat → Nat
  | 0 => 0
  | k + 1 => fOn σ k + (if k < σ.2.2.2 ∧ σ.2.2.1 k = 0 ∧ ¬ σ.1 k 8 0 = 0 then 1 else 0)
set_option maxHeartbeats 4000000 in
set_option maxRecDepth 100000 in
theorem ct_X10_countFeedsThatAreOn (l : Launch) (Ω : OmT) (σ : Sg) (hw : KW σ) : ZM l Ω yX10_countFeedsThatAreOn cX10_countFeedsThatAreOn 3 (some .int) rm_X10_countFeedsThatAreOn [rfO Ω 0] (hp Ω σ) (hN σ) (some (.int (nI (fOn σ 10)))) (hp Ω σ) (hN σ) := by
  refine ZM_of (by decide) (Nat.le_of_ble_eq_true rfl) (fun E hE C hQ => ?_)
  have hn := hw.1
  have loop : ∀ (k j : Nat), j + k = 10 → ZV l Ω E 0 0 4 [(0, rfO Ω 0), (1, .int (nI (fOn σ j))), (2, .int (nI j))] [] (hp Ω σ) (hN σ) := by
    intro k
    induction k with
    | zero =>
      intro j hj
      obtain rfl : j = 10 := by omega
      refine z_iload_n (pc := 4) C dX10_countFeedsThatAreOn_4 rfl ?_
      refine z_bipush (pc := 5) (v := nI 10) C dX10_countFeedsThatAreOn_5 (by decide) ?_
      -- at 7: if_icmpge 
      refine z_icmp_geT (pc := 7) (tgt := 31) C dX10_countFeedsThatAreOn_7 (by decide) (by omega) (by omega) (by omega) ?_
      refine z_iload_n (pc := 31) C dX10_countFeedsThatAreOn_31 rfl ?_
      -- at 32: ireturn 
      exact z_iret (pc := 32) C hQ dX10_countFeedsThatAreOn_32 rfl rfl rfl (by decide) (by decide)
    | succ k ih =>
      intro j hj
      have h9 := ih (j + 1) (by omega)
      rw [show fOn σ (j + 1) = fOn σ j + (if j < σ.2.2.2 ∧ σ.2.2.1 j = 0 ∧ ¬ σ.1 j 8 0 = 0 then 1 else 0) from rfl] at h9
      refine z_iload_n (pc := 4) C dX10_countFeedsThatAreOn_4 rfl ?_
      refine z_bipush (pc := 5) (v := nI 10) C dX10_countFeedsThatAreOn_5 (by decide) ?_
      -- at 7: if_icmpge 
      refine z_icmp_geF (pc := 7) (tgt := 31) C dX10_countFeedsThatAreOn_7 (by decide) (by omega) (by omega) (by omega) ?_
      first | refine z_aload_n (pc := 10) C dX10_countFeedsThatAreOn_10 rfl ?_ | refine z_aload_nN (pc := 10) C dX10_countFeedsThatAreOn_10 rfl ?_
      refine z_getf (pc := 11) C dX10_countFeedsThatAreOn_11 zf_X10_13_9 rfl rfl ?_
      refine z_iload_n (pc := 14) C dX10_countFeedsThatAreOn_14 rfl ?_
      -- at 15: aaload 
      refine z_aald (pc := 15) (N := 10) C dX10_countFeedsThatAreOn_15 rfl (Or.inl rfl) (by omega) (by decide) ?_
      by_cases hjn : j < σ.2.2.2
      · rw [if_pos hjn]
        refine z_callS (pc := 16) C dX10_countFeedsThatAreOn_16 zy_X10_isFeedThatIsOn kw_482 kw_483 (ct_X10_isFeedThatIsOn l Ω σ hw j _ hjn rfl) rfl rfl ⟨⟨by decide, by decide⟩, by decide, by decide⟩ (Nat.le_of_ble_eq_true rfl) ?_; dsimp only [Option.toList_some, List.cons_append, List.nil_append]
        refine z_ifeqB (pc := 19) (tgt := 25) C dX10_countFeedsThatAreOn_19 (by decide) (fun h => ?_) (fun h => ?_)
        · rw [if_neg (fun z => h z.2)] at h9
          first | refine z_iincN (pc := 25) C dX10_countFeedsThatAreOn_25 rfl (by rw [hE]; decide) ?_ | refine z_iinc (pc := 25) C dX10_countFeedsThatAreOn_25 rfl rfl (by rw [hE]; decide) ?_
          refine z_goto (pc := 28) (tgt := 4) C dX10_countFeedsThatAreOn_28 (by decide) ?_
          -- at 4
          exact h9
        · rw [if_pos ⟨hjn, h⟩] at h9
          first | refine z_iincN (pc := 22) C dX10_countFeedsThatAreOn_22 rfl (by rw [hE]; decide) ?_ | refine z_iinc (pc := 22) C dX10_countFeedsThatAreOn_22 rfl rfl (by rw [hE]; decide) ?_
          first | refine z_iincN (pc := 25) C dX10_countFeedsThatAreOn_25 rfl (by rw [hE]; decide) ?_ | refine z_iinc (pc := 25) C dX10_countFeedsThatAreOn_25 rfl rfl (by rw [hE]; decide) ?_
          refine z_goto (pc := 28) (tgt := 4) C dX10_countFeedsThatAreOn_28 (by decide) ?_
          -- at 4
          exact h9
      · rw [if_neg hjn]
        rw [if_neg (fun z => hjn z.1)] at h9
        refine z_callS (pc := 16) C dX10_countFeedsThatAreOn_16 zy_X10_isFeedThatIsOn kw_482 kw_483 (ct_X10_isFeedThatIsOn_n l Ω _ _) rfl rfl ⟨⟨by decide, by decide⟩, by decide, by decide⟩ (Nat.le_of_ble_eq_true rfl) ?_; dsimp only [Option.toList_some, List.cons_append, List.nil_append]
        refine z_if_eqT (pc := 19) (tgt := 25) (a := 0) C dX10_countFeedsThatAreOn_19 (by decide) rfl ?_
        first | refine z_iincN (pc := 25) C dX10_countFeedsThatAreOn_25 rfl (by rw [hE]; decide) ?_ | refine z_iinc (pc := 25) C dX10_countFeedsThatAreOn_25 rfl rfl (by rw [hE]; decide) ?_
        refine z_goto (pc := 28) (tgt := 4) C dX10_countFeedsThatAreOn_28 (by decide) ?_
        -- at 4
        exact h9
  refine z_iconst (pc := 0) (v := nI 0) C dX10_countFeedsThatAreOn_0 (by decide) ?_
  refine z_istore_n (pc := 1) C dX10_countFeedsThatAreOn_1 (by rw [hE]; decide) ?_
  refine z_iconst (pc := 2) (v := nI 0) C dX10_countFeedsThatAreOn_2 (by decide) ?_
  refine z_istore_n (pc := 3) C dX10_countFeedsThatAreOn_3 (by rw [hE]; decide) ?_
  -- at 4: iload_2 
  exact loop 10 0 (by omega)
def cr_count (σ : Sg) (w : Int32) : Int32 := if w = nI 0 then σ.1 10 0 0 else if w = nI 1 then σ.1 10 0 1 else if w = nI 2 then σ.1 10 0 2 else if w = nI 3 then nI (fOn σ 10) else -1
set_option maxHeartbeats 4000000 in
set_option maxRecDepth 100000 in
theorem ct_X10_count (l : Launch) (Ω : OmT) (σ : Sg) (hw : KW σ) (w : Int32) : ZM l Ω yX10_count cX10_count 2 (some .int) rm_X10_count [rfO Ω 0, .int w] (hp Ω σ) (hN σ) (some (.int (cr_count σ w))) (hp Ω σ) (hN σ) := by
  refine ZM_of (by decide) (Nat.le_of_ble_eq_true rfl) (fun E hE C hQ => ?_)
  refine z_iload_n (pc := 0) C dX10_count_0 rfl ?_
  -- at 1: tableswitch 0 to 3
  by_cases w0 : w = nI 0
  · subst w0
    refine z_tabInN (pc := 1) (a := 0) (tgt := 32) C dX10_count_1 (by decide) (by decide) rfl (by decide) (by decide) ?_
    first | refine z_aload_n (pc := 32) C dX10_count_32 rfl ?_ | refine z_aload_nN (pc := 32) C dX10_count_32 rfl ?_
    refine z_getf (pc := 33) C dX10_count_33 zf_X10_24_9 rfl rfl ?_
    -- at 36: ireturn 
    exact z_iret (pc := 36) C hQ dX10_count_36 rfl rfl rfl (by decide) (by decide)
  by_cases w1 : w = nI 1
  · subst w1
    refine z_tabInN (pc := 1) (a := 1) (tgt := 37) C dX10_count_1 (by decide) (by decide) rfl (by decide) (by decide) ?_
    first | refine z_aload_n (pc := 37) C dX10_count_37 rfl ?_ | refine z_aload_nN (pc := 37) C dX10_count_37 rfl ?_
    refine z_getf (pc := 38) C dX10_count_38 zf_X10_28_9 rfl rfl ?_
    -- at 41: ireturn 
    exact z_iret (pc := 41) C hQ dX10_count_41 rfl rfl rfl (by decide) (by decide)
  by_cases w2 : w = nI 2
  · subst w2
    refine z_tabInN (pc := 1) (a := 2) (tgt := 42) C dX10_count_1 (by decide) (by decide) rfl (by decide) (by decide) ?_
    first | refine z_aload_n (pc := 42) C dX10_count_42 rfl ?_ | refine z_aload_nN (pc := 42) C dX10_count_42 rfl ?_
    refine z_getf (pc := 43) C dX10_count_43 zf_X10_20_9 rfl rfl ?_
    refine z_getf (pc := 46) C dX10_count_46 zf_X10_176_3 rfl rfl ?_
    -- at 49: ireturn 
    exact z_iret (pc := 49) C hQ dX10_count_49 rfl rfl rfl (by decide) (by decide)
  by_cases w3 : w = nI 3
  · subst w3
    refine z_tabInN (pc := 1) (a := 3) (tgt := 50) C dX10_count_1 (by decide) (by decide) rfl (by decide) (by decide) ?_
    first | refine z_aload_n (pc := 50) C dX10_count_50 rfl ?_ | refine z_aload_nN (pc := 50) C dX10_count_50 rfl ?_
    refine z_callV (pc := 51) (ci := 9) C dX10_count_51 zy_X10_countFeedsThatAreOn kw_610 kw_611 rfl kw_841 rfl (ct_X10_countFeedsThatAreOn l Ω σ hw) rfl rfl ⟨⟨by decide, by decide⟩, by decide, by decide⟩ (Nat.le_of_ble_eq_true rfl) ?_; dsimp only [Option.toList_some, List.cons_append, List.nil_append]
    -- at 54: ireturn 
    exact z_iret (pc := 54) C hQ dX10_count_54 rfl rfl rfl (by decide) (by decide)
  refine z_tabOut (pc := 1) (tgt := 55) C dX10_count_1 (sw_out 3 (by decide) (fun j hj => by match j, hj with | 0, _ => exact w0 | 1, _ => exact w1 | 2, _ => exact w2 | 3, _ => exact w3)) (by decide) ?_
  refine z_iconst (pc := 55) (v := (-1)) C dX10_count_55 (by decide) ?_
  -- at 56: ireturn 
  exact z_iret (pc := 56) C hQ dX10_count_56 (by simp [cr_count, w0, w1, w2, w3]) rfl rfl (by decide) (by decide)
def cr_load (L : Nat) (w g p : Int32) : Int32 := if ¬ ldOk w g p then -2 else if L = 10 then -4 else nI L
def cs_load (σ : Sg) (L : Nat) (w g p : Int32) : Sg := if ¬ ldOk w g p then σ else if L = 10 then σ else cPut σ L w g p
set_option maxHeartbeats 4000000 in
set_option maxRecDepth 100000 in
theorem ct_X10_load (l : Launch) (Ω : OmT) (σ : Sg) (hw : KW σ) (L : Nat) (hL : L ≤ 10) (eL : σ.1 10 0 2 = nI L) (w g p : Int32) : ZM l Ω yX10_load cX10_load 4 (some .int) rm_X10_load [rfO Ω 0, .int w, .int g, .int p] (hp Ω σ) (hN σ) (some (.int (cr_load L w g p))) (hp Ω (cs_load σ L w g p)) (hN σ) := by
  refine ZM_of (by decide) (Nat.le_of_ble_eq_true rfl) (fun E hE C hQ => ?_)
  first | refine z_aload_n (pc := 0) C dX10_load_0 rfl ?_ | refine z_aload_nN (pc := 0) C dX10_load_0 rfl ?_
  refine z_getf (pc := 1) C dX10_load_1 zf_X10_20_9 rfl rfl ?_
  refine z_iload_n (pc := 4) C dX10_load_4 rfl ?_
  refine z_iload_n (pc := 5) C dX10_load_5 rfl ?_
  refine z_iload_n (pc := 6) C dX10_load_6 rfl ?_
  refine z_callV (pc := 7) (ci := 3) C dX10_load_7 zy_X3_isGood kw_578 kw_579 rfl kw_580 rfl (ct_X3_isGood l Ω _ _ 2 w g p) rfl rfl ⟨⟨by decide, by decide⟩, by decide, by decide⟩ (Nat.le_of_ble_eq_true rfl) ?_; dsimp only [Option.toList_some, List.cons_append, List.nil_append]
  -- at 10: ifne 
  refine z_ifneB (pc := 10) (tgt := 16) C dX10_load_10 (by decide) (fun h1 => ?_) (fun h1 => ?_)
  · first | refine z_aload_n (pc := 16) C dX10_load_16 rfl ?_ | refine z_aload_nN (pc := 16) C dX10_load_16 rfl ?_
    refine z_getf (pc := 17) C dX10_load_17 zf_X10_20_9 rfl rfl ?_
    refine z_callV (pc := 20) (ci := 3) C dX10_load_20 zy_X3_isFull kw_582 kw_583 rfl kw_584 rfl (ct_X3_isFull l Ω σ L hL eL) rfl rfl ⟨⟨by decide, by decide⟩, by decide, by decide⟩ (Nat.le_of_ble_eq_true rfl) ?_; dsimp only [Option.toList_some, List.cons_append, List.nil_append]
    -- at 23: ifeq 
    refine z_ifeqB (pc := 23) (tgt := 29) C dX10_load_23 (by decide) (fun h2 => ?_) (fun h2 => ?_)
    · first | refine z_aload_n (pc := 29) C dX10_load_29 rfl ?_ | refine z_aload_nN (pc := 29) C dX10_load_29 rfl ?_
      refine z_getf (pc := 30) C dX10_load_30 zf_X10_20_9 rfl rfl ?_
      refine z_iload_n (pc := 33) C dX10_load_33 rfl ?_
      refine z_iload_n (pc := 34) C dX10_load_34 rfl ?_
      refine z_iload_n (pc := 35) C dX10_load_35 rfl ?_
      refine z_callV (pc := 36) (ci := 3) C dX10_load_36 zy_X3_put kw_586 kw_587 rfl kw_588 rfl (ct_X3_put l Ω σ hw L (by omega) eL w g p) rfl rfl ⟨⟨by decide, by decide⟩, by decide, by decide⟩ (Nat.le_of_ble_eq_true rfl) ?_; dsimp only [Option.toList_some, List.cons_append, List.nil_append]
      -- at 39: ireturn 
      exact z_iret (pc := 39) C hQ dX10_load_39 (by unfold cr_load; rw [if_neg (fun z => z h1), if_neg h2]) (by unfold cs_load; rw [if_neg (fun z => z h1), if_neg h2]) rfl (by decide) (by decide)
    · refine z_bipush (pc := 26) (v := (-4)) C dX10_load_26 (by decide) ?_
      -- at 28: ireturn 
      exact z_iret (pc := 28) C hQ dX10_load_28 (by unfold cr_load; rw [if_neg (fun z => z h1), if_pos h2]) (by unfold cs_load; rw [if_neg (fun z => z h1), if_pos h2]) rfl (by decide) (by decide)
  · refine z_bipush (pc := 13) (v := (-2)) C dX10_load_13 (by decide) ?_
    -- at 15: ireturn 
    exact z_iret (pc := 15) C hQ dX10_load_15 (by unfold cr_load; rw [if_pos h1]) (by unfold cs_load; rw [if_pos h1]) rfl (by decide) (by decide)
set_option maxHeartbeats 4000000 in
set_option maxRecDepth 100000 in
theorem ct_X10_unload (l : Launch) (Ω : OmT) (σ : Sg) (hw : KW σ) : ZM l Ω yX10_unload cX10_unload 1 (some .int) rm_X10_unload [rfO Ω 0] (hp Ω σ) (hN σ) (some (.int (σ.1 10 0 2))) (hp Ω (sI σ 10 0 2 (nI 0))) (hN σ) := by
  refine ZM_of (by decide) (Nat.le_of_ble_eq_true rfl) (fun E hE C hQ => ?_)
  first | refine z_aload_n (pc := 0) C dX10_unload_0 rfl ?_ | refine z_aload_nN (pc := 0) C dX10_unload_0 rfl ?_
  refine z_getf (pc := 1) C dX10_unload_1 zf_X10_20_9 rfl rfl ?_
  refine z_callV (pc := 4) (ci := 3) C dX10_unload_4 zy_X3_clear kw_594 kw_595 rfl kw_596 rfl (ct_X3_clear l Ω σ hw) rfl rfl ⟨⟨by decide, by decide⟩, by decide, by decide⟩ (Nat.le_of_ble_eq_true rfl) ?_; dsimp only [Option.toList_some, List.cons_append, List.nil_append]
  -- at 7: ireturn 
  exact z_iret (pc := 7) C hQ dX10_unload_7 rfl rfl rfl (by decide) (by decide)
def cr_blend (σ : Sg) (L : Nat) (lo hi g : Int32) : Int32 := if lo < 0 then -2 else if hi < lo then -2 else if ¬ inR 0 100 g then -2 else (chS σ lo hi g (2 ^ L)).1
set_option maxHeartbeats 4000000 in
set_option maxRecDepth 100000 in
theorem ct_X10_blend (l : Launch) (Ω : OmT) (σ : Sg) (L : Nat) (hL : L ≤ 10) (eL : σ.1 10 0 2 = nI L) (lo hi g : Int32) : ZM l Ω yX10_blend cX10_blend 4 (some .int) rm_X10_blend [rfO Ω 0, .int lo, .int hi, .int g] (hp Ω σ) (hN σ) (some (.int (cr_blend σ L lo hi g))) (hp Ω σ) (hN σ) := by
  refine ZM_of (by decide) (Nat.le_of_ble_eq_true rfl) (fun E hE C hQ => ?_)
  have bad : cr_blend σ L lo hi g = -2 → ZV l Ω E 0 0 19 [(0, rfO Ω 0), (1, .int lo), (2, .int hi), (3, .int g)] [] (hp Ω σ) (hN σ) := by
    intro e
    refine z_bipush (pc := 19) (v := (-2)) C dX10_blend_19 (by decide) ?_
    -- at 21: ireturn 
    exact z_iret (pc := 21) C hQ dX10_blend_21 (by rw [e]) rfl rfl (by decide) (by decide)
  refine z_iload_n (pc := 0) C dX10_blend_0 rfl ?_
  -- at 1: iflt 
  refine z_if_lt (pc := 1) (tgt := 19) C dX10_blend_1 (by decide) (fun h => bad (by unfold cr_blend; rw [if_pos h])) (fun h1 => ?_)
  refine z_iload_n (pc := 4) C dX10_blend_4 rfl ?_
  refine z_iload_n (pc := 5) C dX10_blend_5 rfl ?_
  -- at 6: if_icmpgt 
  refine z_icmp_gt (pc := 6) (tgt := 19) C dX10_blend_6 (by decide) (fun h => bad (by unfold cr_blend; rw [if_neg h1, if_pos h])) (fun h2 => ?_)
  refine z_iload_n (pc := 9) C dX10_blend_9 rfl ?_
  -- at 10: iflt 
  refine z_if_lt (pc := 10) (tgt := 19) C dX10_blend_10 (by decide) (fun h => bad (by unfold cr_blend; rw [if_neg h1, if_neg h2, if_pos (inR_lo h)])) (fun h3 => ?_)
  refine z_iload_n (pc := 13) C dX10_blend_13 rfl ?_
  refine z_bipush (pc := 14) (v := nI 100) C dX10_blend_14 (by decide) ?_
  -- at 16: if_icmple 
  refine z_icmp_le (pc := 16) (tgt := 22) C dX10_blend_16 (by decide) (fun h4 => ?_) (fun h => bad (by unfold cr_blend; rw [if_neg h1, if_neg h2, if_pos (fun z => h z.2)]))
  have g9 : ¬ ¬ inR 0 100 g := fun z => z ⟨Int32.not_lt.mp h3, h4⟩
  first | refine z_aload_n (pc := 22) C dX10_blend_22 rfl ?_ | refine z_aload_nN (pc := 22) C dX10_blend_22 rfl ?_
  refine z_getf (pc := 23) C dX10_blend_23 zf_X10_20_9 rfl rfl ?_
  refine z_iload_n (pc := 26) C dX10_blend_26 rfl ?_
  refine z_iload_n (pc := 27) C dX10_blend_27 rfl ?_
  refine z_iload_n (pc := 28) C dX10_blend_28 rfl ?_
  refine z_callV (pc := 29) (ci := 3) C dX10_blend_29 zy_X3_choose kw_602 kw_603 rfl kw_604 rfl (ct_X3_choose l Ω σ L hL eL lo hi g) rfl rfl ⟨⟨by decide, by decide⟩, by decide, by decide⟩ (Nat.le_of_ble_eq_true rfl) ?_; dsimp only [Option.toList_some, List.cons_append, List.nil_append]
  -- at 32: ireturn 
  exact z_iret (pc := 32) C hQ dX10_blend_32 (by unfold cr_blend; rw [if_neg h1, if_neg h2, if_neg g9]) rfl rfl (by decide) (by decide)
def cr_reading (σ : Sg) (i : Nat) (w x d : Int32) : Int32 := if ¬ inR 0 2 w then -1 else if σ.2.2.1 i = 0 ∨ σ.2.2.1 i = 7 then -3 else if ¬ isU (1 + upt (σ.2.2.1 i)) w then -1 else if ¬ (inR 0 100000 x ∧ inR 1 100 d) then -2 else nI 0
def cs_reading (σ : Sg) (i : Nat) (w x d : Int32) : Sg := if ¬ inR 0 2 w then σ else if σ.2.2.1 i = 0 ∨ σ.2.2.1 i = 7 then σ else if ¬ isU (1 + upt (σ.2.2.1 i)) w then σ else if ¬ (inR 0 100000 x ∧ inR 1 100 d) then σ else sI (sI σ i 4 (tn w) x) i 5 (tn w) d
set_option maxHeartbeats 4000000 in
set_option maxRecDepth 100000 in
theorem ct_X10_reading_n (l : Launch) (Ω : OmT) (σ : Sg) (hw : KW σ) (u w x d : Int32) (hu : ¬ isU σ.2.2.2 u) : ZM l Ω yX10_reading cX10_reading 7 (some .int) rm_X10_reading [rfO Ω 0, .int u, .int w, .int x, .int d] (hp Ω σ) (hN σ) (some (.int (-1))) (hp Ω σ) (hN σ) := by
  refine ZM_of (by decide) (Nat.le_of_ble_eq_true rfl) (fun E hE C hQ => ?_)
  first | refine z_aload_n (pc := 0) C dX10_reading_0 rfl ?_ | refine z_aload_nN (pc := 0) C dX10_reading_0 rfl ?_
  refine z_iload_n (pc := 1) C dX10_reading_1 rfl ?_
  refine z_callV (pc := 2) (ci := 9) C dX10_reading_2 zy_X10_unitAt kw_250 kw_251 rfl kw_831 rfl (ct_X10_unitAt_n l Ω σ hw u hu) rfl rfl ⟨⟨by decide, by decide⟩, by decide, by decide⟩ (Nat.le_of_ble_eq_true rfl) ?_; dsimp only [Option.toList_some, List.cons_append, List.nil_append]
  first | refine z_astore (pc := 5) C dX10_reading_5 (by rw [hE]; decide) ?_ | refine z_astoreN (pc := 5) C dX10_reading_5 (by rw [hE]; decide) ?_
  first | refine z_aload (pc := 7) C dX10_reading_7 rfl ?_ | refine z_aloadN (pc := 7) C dX10_reading_7 rfl ?_
  -- at 9: ifnull 
  first | refine z_ifnull (pc := 9) C dX10_reading_9 ?_ | refine z_ifnullN (pc := 9) (tgt := 21) C dX10_reading_9 (by decide) ?_
  refine z_iconst (pc := 21) (v := (-1)) C dX10_reading_21 (by decide) ?_
  -- at 22: ireturn 
  exact z_iret (pc := 22) C hQ dX10_reading_22 rfl rfl rfl (by decide) (by decide)
theorem uRd_n {Ω : OmT} {κ b : Nat} (h : κ = 0 ∨ κ = 7) : uRd Ω κ b = .null := by rcases h with rfl | rfl <;> rfl
theorem uRd_y {Ω : OmT} {κ b : Nat} (h8 : κ < 8) (h0 : ¬ κ = 0) (h7 : ¬ κ = 7) : uRd Ω κ b = rfO Ω (b + (6 + upt κ)) := ((rd_k h8 h0 h7).2.2.2 Ω b (fun _ _ => 0)).2.2.2
set_option maxHeartbeats 4000000 in
set_option maxRecDepth 100000 in
theorem ct_X10_reading (l : Launch) (Ω : OmT) (σ : Sg) (hw : KW σ) (i κ : Nat) (hi : i < σ.2.2.2) (hq : σ.2.2.1 i = κ) (w x d : Int32) : ZM l Ω yX10_reading cX10_reading 7 (some .int) rm_X10_reading [rfO Ω 0, .int (nI i), .int w, .int x, .int d] (hp Ω σ) (hN σ) (some (.int (cr_reading σ i w x d))) (hp Ω (cs_reading σ i w x d)) (hN σ) := by
  refine ZM_of (by decide) (Nat.le_of_ble_eq_true rfl) (fun E hE C hQ => ?_)
  have h8 : κ < 8 := hq ▸ hw.2 i hi
  have hup := upt_le κ
  have bad : ¬ inR 0 2 w → ZV l Ω E 0 0 21 [(0, rfO Ω 0), (1, .int (nI i)), (2, .int w), (3, .int x), (4, .int d), (5, rfO Ω (bs σ.2.2.1 i))] [] (hp Ω σ) (hN σ) := by
    intro g
    refine z_iconst (pc := 21) (v := (-1)) C dX10_reading_21 (by decide) ?_
    -- at 22: ireturn 
    exact z_iret (pc := 22) C hQ dX10_reading_22 (by unfold cr_reading; rw [if_pos g]) (by unfold cs_reading; rw [if_pos g]) rfl (by decide) (by decide)
  first | refine z_aload_n (pc := 0) C dX10_reading_0 rfl ?_ | refine z_aload_nN (pc := 0) C dX10_reading_0 rfl ?_
  refine z_iload_n (pc := 1) C dX10_reading_1 rfl ?_
  refine z_callV (pc := 2) (ci := 9) C dX10_reading_2 zy_X10_unitAt kw_250 kw_251 rfl kw_831 rfl (ct_X10_unitAt l Ω σ hw i hi) rfl rfl ⟨⟨by decide, by decide⟩, by decide, by decide⟩ (Nat.le_of_ble_eq_true rfl) ?_; dsimp only [Option.toList_some, List.cons_append, List.nil_append]
  first | refine z_astore (pc := 5) C dX10_reading_5 (by rw [hE]; decide) ?_ | refine z_astoreN (pc := 5) C dX10_reading_5 (by rw [hE]; decide) ?_
  first | refine z_aload (pc := 7) C dX10_reading_7 rfl ?_ | refine z_aloadN (pc := 7) C dX10_reading_7 rfl ?_
  -- at 9: ifnull 
  first | refine z_ifnull (pc := 9) C dX10_reading_9 ?_ | refine z_ifnullN (pc := 9) (tgt := 21) C dX10_reading_9 (by decide) ?_
  refine z_iload_n (pc := 12) C dX10_reading_12 rfl ?_
  -- at 13: iflt 
  refine z_if_lt (pc := 13) (tgt := 21) C dX10_reading_13 (by decide) (fun h => bad (inR_lo h)) (fun h1 => ?_)
  refine z_iload_n (pc := 16) C dX10_reading_16 rfl ?_
  refine z_iconst (pc := 17) (v := nI 2) C dX10_reading_17 (by decide) ?_
  -- at 18: if_icmple 
  refine z_icmp_le (pc := 18) (tgt := 23) C dX10_reading_18 (by decide) (fun h2 => ?_) (fun h => bad (fun z => h z.2))
  have g1 : ¬ ¬ inR 0 2 w := fun z => z ⟨Int32.not_lt.mp h1, h2⟩
  first | refine z_aload (pc := 23) C dX10_reading_23 rfl ?_ | refine z_aloadN (pc := 23) C dX10_reading_23 rfl ?_
  refine z_getf (pc := 25) C dX10_reading_25 (zfu_X10_140 h8) (hk_0 (κ := κ) (by exact hi) (by exact hq)) rfl ?_
  -- at 28: astore 
  by_cases h3 : κ = 0 ∨ κ = 7
  · rw [uRd_n h3]
    first | refine z_astore (pc := 28) C dX10_reading_28 (by rw [hE]; decide) ?_ | refine z_astoreN (pc := 28) C dX10_reading_28 (by rw [hE]; decide) ?_
    first | refine z_aload (pc := 30) C dX10_reading_30 rfl ?_ | refine z_aloadN (pc := 30) C dX10_reading_30 rfl ?_
    -- at 32: ifnonnull 
    first | refine z_ifnonnullN (pc := 32) C dX10_reading_32 ?_ | refine z_ifnonnull (pc := 32) (tgt := 38) C dX10_reading_32 (by decide) ?_
    refine z_bipush (pc := 35) (v := (-3)) C dX10_reading_35 (by decide) ?_
    -- at 37: ireturn 
    rw [← hq] at h3
    exact z_iret (pc := 37) C hQ dX10_reading_37 (by unfold cr_reading; rw [if_neg g1, if_pos h3]) (by unfold cs_reading; rw [if_neg g1, if_pos h3]) rfl (by decide) (by decide)
  have h0 : ¬ κ = 0 := fun z => h3 (Or.inl z)
  have h7 : ¬ κ = 7 := fun z => h3 (Or.inr z)
  have g3 : ¬ (σ.2.2.1 i = 0 ∨ σ.2.2.1 i = 7) := by rw [hq]; exact h3
  rw [uRd_y h8 h0 h7]
  first | refine z_astore (pc := 28) C dX10_reading_28 (by rw [hE]; decide) ?_ | refine z_astoreN (pc := 28) C dX10_reading_28 (by rw [hE]; decide) ?_
  first | refine z_aload (pc := 30) C dX10_reading_30 rfl ?_ | refine z_aloadN (pc := 30) C dX10_reading_30 rfl ?_
  -- at 32: ifnonnull 
  first | refine z_ifnonnullN (pc := 32) C dX10_reading_32 ?_ | refine z_ifnonnull (pc := 32) (tgt := 38) C dX10_reading_32 (by decide) ?_
  first | refine z_aload (pc := 38) C dX10_reading_38 rfl ?_ | refine z_aloadN (pc := 38) C dX10_reading_38 rfl ?_
  refine z_iload_n (pc := 40) C dX10_reading_40 rfl ?_
  -- at 41: invokevirtual Method GrindWorks$Readings.has:(I)Z
  refine z_callV (pc := 41) (ci := 7) C dX10_reading_41 zy_X7_has kw_541 kw_542 rfl kw_543 (hk_rd hw hi hq h0 h7) (ct_X7_has l Ω σ hw i κ hi hq h0 h7 w) rfl rfl ⟨⟨by decide, by decide⟩, by decide, by decide⟩ (Nat.le_of_ble_eq_true rfl) ?_; dsimp only [Option.toList_some, List.cons_append, List.nil_append]
  refine z_ifneB (pc := 44) (tgt := 49) C dX10_reading_44 (by decide) (fun h4 => ?_) (fun h4 => ?_)
  · have g4 := h4
    rw [← hq] at g4
    obtain ⟨w, hwp, e⟩ := isU_of (by omega) h4
    subst e
    have tw : tn (nI w) = w := tn_nI (by omega)
    first | refine z_aload (pc := 49) C dX10_reading_49 rfl ?_ | refine z_aloadN (pc := 49) C dX10_reading_49 rfl ?_
    refine z_iload_n (pc := 51) C dX10_reading_51 rfl ?_
    refine z_iload (pc := 52) C dX10_reading_52 rfl ?_
    -- at 54: invokevirtual Method GrindWorks$Readings.areGood:(II)Z
    refine z_callV (pc := 54) (ci := 7) C dX10_reading_54 zy_X7_areGood kw_545 kw_546 rfl kw_547 (hk_rd hw hi hq h0 h7) (ct_X7_areGood l Ω _ _ _ x d) rfl rfl ⟨⟨by decide, by decide⟩, by decide, by decide⟩ (Nat.le_of_ble_eq_true rfl) ?_; dsimp only [Option.toList_some, List.cons_append, List.nil_append]
    refine z_ifneB (pc := 57) (tgt := 63) C dX10_reading_57 (by decide) (fun h5 => ?_) (fun h5 => ?_)
    · first | refine z_aload (pc := 63) C dX10_reading_63 rfl ?_ | refine z_aloadN (pc := 63) C dX10_reading_63 rfl ?_
      refine z_iload_n (pc := 65) C dX10_reading_65 rfl ?_
      refine z_iload_n (pc := 66) C dX10_reading_66 rfl ?_
      refine z_iload (pc := 67) C dX10_reading_67 rfl ?_
      -- at 69: invokevirtual Method GrindWorks$Readings.put:(III)V
      refine z_callV (pc := 69) (ci := 7) C dX10_reading_69 zy_X7_put kw_550 kw_551 rfl kw_552 (hk_rd hw hi hq h0 h7) (ct_X7_put l Ω σ hw i κ hi hq h0 h7 w hwp x d) rfl rfl ⟨⟨by decide, by decide⟩, by decide, by decide⟩ (Nat.le_of_ble_eq_true rfl) ?_; dsimp only [Option.toList_none, List.nil_append]
      refine z_iconst (pc := 72) (v := nI 0) C dX10_reading_72 (by decide) ?_
      -- at 73: ireturn 
      exact z_iret (pc := 73) C hQ dX10_reading_73 (by unfold cr_reading; rw [if_neg g1, if_neg g3, if_neg (fun z => z g4), if_neg (fun z => z h5)]) (by unfold cs_reading; rw [if_neg g1, if_neg g3, if_neg (fun z => z g4), if_neg (fun z => z h5), tw]) rfl (by decide) (by decide)
    · refine z_bipush (pc := 60) (v := (-2)) C dX10_reading_60 (by decide) ?_
      -- at 62: ireturn 
      exact z_iret (pc := 62) C hQ dX10_reading_62 (by unfold cr_reading; rw [if_neg g1, if_neg g3, if_neg (fun z => z g4), if_pos h5]) (by unfold cs_reading; rw [if_neg g1, if_neg g3, if_neg (fun z => z g4), if_pos h5]) rfl (by decide) (by decide)
  · refine z_iconst (pc := 47) (v := (-1)) C dX10_reading_47 (by decide) ?_
    -- at 48: ireturn 
    rw [← hq] at h4
    exact z_iret (pc := 48) C hQ dX10_reading_48 (by unfold cr_reading; rw [if_neg g1, if_neg g3, if_pos h4]) (by unfold cs_reading; rw [if_neg g1, if_neg g3, if_pos h4]) rfl (by decide) (by decide)
