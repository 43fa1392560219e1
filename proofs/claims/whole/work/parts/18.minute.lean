/-! ===== the class: a minute, and run ===== -/
/-- only unit i's rows may differ -/
def FrC (i : Nat) (σ τ : Sg) : Prop := (∀ s, ¬ s = i → τ.1 s = σ.1 s) ∧ τ.2 = σ.2
theorem FrC.rf {i : Nat} {σ : Sg} : FrC i σ σ := ⟨fun _ _ => rfl, rfl⟩
theorem FrC.tr {i : Nat} {σ τ ρ : Sg} (h1 : FrC i σ τ) (h2 : FrC i τ ρ) : FrC i σ ρ := ⟨fun s h => (h2.1 s h).trans (h1.1 s h), h2.2.trans h1.2⟩
theorem FrC.sI {i : Nat} {σ τ : Sg} {a j : Nat} {x : Int32} (h : FrC i σ τ) : FrC i σ (sI τ i a j x) := by
  refine ⟨fun s hs => ?_, h.2⟩
  rw [← h.1 s hs]
  funext a' j'
  rw [sI_I, if_neg (fun z => hs z.1)]
theorem FrC.sR {i : Nat} {σ τ : Sg} {a : Nat} {f : Nat → Int32} (h : FrC i σ τ) : FrC i σ (sR τ i a f) := by
  refine ⟨fun s hs => ?_, h.2⟩
  rw [← h.1 s hs]
  funext a' j'
  rw [sR_I, if_neg (fun z => hs z.1)]
theorem FrC.mv {i : Nat} {σ τ : Sg} {a N a' : Nat} (h : FrC i σ τ) : FrC i σ (mvR τ i a N i a') := h.sR.sR
theorem FrC.it {i : Nat} {f : Nat → Sg → Sg} {σ τ : Sg} (h : FrC i σ τ) (hf : ∀ c ρ, FrC i ρ (f c ρ)) : ∀ {k : Nat}, FrC i σ (itF f k τ)
  | 0 => h
  | _ + 1 => (FrC.it h hf).tr (hf _ _)
theorem frc_feed (σ : Sg) (i : Nat) : FrC i σ (cFeed σ i) := by
  unfold cFeed
  split
  · exact FrC.rf.sR
  · exact FrC.it (by unfold cFd1; exact FrC.rf.sR) (fun c ρ => by unfold cFdS; exact FrC.rf.sI)
theorem frc_join (σ : Sg) (i : Nat) : FrC i σ (cJoin σ i) := by
  unfold cJoin
  exact FrC.rf.sR.mv
theorem frc_grind (σ : Sg) (i z s : Nat) : FrC i σ (cGrind σ i z s) := by
  unfold cGrind
  exact (FrC.it FrC.rf (fun c ρ => by unfold cGrS; exact FrC.rf.sI)).sI.sI
theorem frc_mill (σ : Sg) (i : Nat) : FrC i σ (cMill σ i) := by
  unfold cMill
  refine FrC.it FrC.rf.sR (fun c ρ => ?_)
  unfold cMlS
  split
  · exact FrC.rf
  · exact frc_grind ρ i _ _
theorem frc_part3 (σ : Sg) (i : Nat) : FrC i σ (cPart3 σ i) := by
  unfold cPart3
  exact FrC.it FrC.rf (fun c ρ => by unfold cPt3; exact FrC.rf.sI.sI.sI.sI)
theorem frc_part4 (σ : Sg) (i : Nat) : FrC i σ (cPart4 σ i) := by
  unfold cPart4
  exact FrC.it FrC.rf (fun c ρ => by unfold cPt4; exact FrC.rf.sI.sI.sI.sI)
theorem frc_tank (σ : Sg) (i T t : Nat) : FrC i σ (cTank σ i T t) := by
  unfold cTank
  exact FrC.it (by unfold cTk0; exact FrC.rf.sR.sI.mv) (fun c ρ => by unfold cTkS; exact FrC.rf.mv)
theorem frc_pl (i : Nat) : ∀ (f F L : Nat) (left : Int32) (τ : Sg), FrC i τ (cPl i f F L left τ)
  | 0, _, _, _, _ => FrC.rf
  | f + 1, F, L, left, τ => by
    unfold cPl
    split
    · exact FrC.rf
    · split
      · exact FrC.rf
      · refine FrC.tr ?_ (frc_pl i f _ _ _ _)
        unfold cPlS
        exact FrC.rf.mv.sI.sI
theorem frc_heap (σ : Sg) (i F L : Nat) : FrC i σ (cHeap σ i F L) := by
  unfold cHeap
  split
  · exact FrC.rf.sI.mv
  · exact FrC.rf.mv
theorem frc_pile (σ : Sg) (i F L : Nat) : FrC i σ (cPile σ i F L) := by
  unfold cPile
  split
  · exact FrC.tr (by unfold cPile0; exact FrC.rf.sR) (frc_pl i _ _ _ _ _)
  · exact FrC.tr (FrC.tr (by unfold cPile0; exact FrC.rf.sR) (frc_heap _ i _ _)) (frc_pl i _ _ _ _ _)
theorem frc_give (σ : Sg) (i : Nat) : FrC i σ (cGive σ i) := by
  unfold cGive
  split
  · exact frc_feed σ i
  · exact frc_join σ i
  · exact frc_mill σ i
  · exact frc_part3 σ i
  · exact frc_part4 σ i
  · exact frc_tank σ i _ _
  · exact frc_pile σ i _ _
  · exact FrC.rf
/-- one port brings -/
def cBrS (i p : Nat) (τ : Sg) : Sg := if isU τ.2.2.2 (τ.1 i 2 p) then cTake τ (tn (τ.1 i 2 p)) i i (10 + p) else sR τ i 1 (addR (τ.1 i (10 + p)) (τ.1 i 1))
def cBring (σ : Sg) (i : Nat) : Sg := itF (cBrS i) (upt (σ.2.2.1 i)) σ
theorem cTake_n (σ : Sg) (i f i' a' : Nat) : (cTake σ i f i' a').2 = σ.2 := by
  unfold cTake
  split
  · rfl
  · rfl
theorem cBrS_n (i p : Nat) (τ : Sg) : (cBrS i p τ).2 = τ.2 := by
  unfold cBrS
  split
  · exact cTake_n _ _ _ _ _
  · rfl
theorem itF_2 {f : Nat → Sg → Sg} (h : ∀ c τ, (f c τ).2 = τ.2) (σ : Sg) (k : Nat) : (itF f k σ).2 = σ.2 := itF_row (fun τ => τ.2) h σ k
theorem cBring_n (σ : Sg) (i : Nat) : (cBring σ i).2 = σ.2 := itF_2 (f := cBrS i) (fun c τ => cBrS_n i c τ) σ _
set_option maxHeartbeats 4000000 in
set_option maxRecDepth 100000 in
theorem ct_X10_bringWhatGave (l : Launch) (Ω : OmT) (σ : Sg) (hw : KW σ) (i κ : Nat) (hi : i < σ.2.2.2) (hq : σ.2.2.1 i = κ) : ZM l Ω yX10_bringWhatGave cX10_bringWhatGave 5 none rm_X10_bringWhatGave [rfO Ω 0, .int (nI i), rfO Ω (bs σ.2.2.1 i)] (hp Ω σ) (hN σ) (none) (hp Ω (cBring σ i)) (hN σ) := by
  refine ZM_of (by decide) (Nat.le_of_ble_eq_true rfl) (fun E hE C hQ => ?_)
  have h8 : κ < 8 := hq ▸ hw.2 i hi
  have hup := upt_le κ
  have hn := hw.1
  have hR : itF (cBrS i) (upt κ) σ = cBring σ i := by unfold cBring; rw [hq]
  have loop : ∀ (k p : Nat), p + k = upt κ → ZV l Ω E 0 0 2 [(0, rfO Ω 0), (1, .int (nI i)), (2, rfO Ω (bs σ.2.2.1 i)), (3, .int (nI p))] [] (hp Ω (itF (cBrS i) p σ)) (hN σ) := by
    intro k
    induction k with
    | zero =>
      intro p hk
      obtain rfl : p = upt κ := by omega
      rw [hR]
      have e2 := cBring_n σ i
      generalize cBring σ i = τ at hQ e2 ⊢
      obtain ⟨hw, hi, hq, eb⟩ := st_of (τ := τ) (by rw [e2]) hw hi hq
      rw [eb]
      refine z_iload_n (pc := 2) C dX10_bringWhatGave_2 rfl ?_
      first | refine z_aload_n (pc := 3) C dX10_bringWhatGave_3 rfl ?_ | refine z_aload_nN (pc := 3) C dX10_bringWhatGave_3 rfl ?_
      refine z_getf (pc := 4) C dX10_bringWhatGave_4 (zfu_X10_45 h8) (hk_0 (κ := κ) (by exact hi) (by exact hq)) rfl ?_
      refine z_alen (pc := 7) C dX10_bringWhatGave_7 (Rw.get (rw_leads (κ := κ) (by exact hw) (by exact hi) (by exact hq))) (by decide) ?_
      -- at 8: if_icmpge 
      refine z_icmp_geT (pc := 8) (tgt := 62) C dX10_bringWhatGave_8 (by decide) (by omega) (by omega) (by omega) ?_
      exact z_vret (pc := 62) C hQ dX10_bringWhatGave_62 rfl rfl rfl (by decide) (by decide)
    | succ k ih =>
      intro p hk
      have h9 := ih (p + 1) (by omega)
      rw [show itF (cBrS i) (p + 1) σ = cBrS i p (itF (cBrS i) p σ) from rfl] at h9
      have e2 : (itF (cBrS i) p σ).2 = σ.2 := itF_2 (f := cBrS i) (fun c τ => cBrS_n i c τ) σ p
      generalize itF (cBrS i) p σ = τ at h9 e2 ⊢
      have e22 : τ.2.2 = σ.2.2 := by rw [e2]
      have hnn : τ.2.2.2 = σ.2.2.2 := by rw [e2]
      obtain ⟨hw, hi, hq, eb⟩ := st_of e22 hw hi hq
      have en := hN_eq e22
      rw [eb] at h9 ⊢
      unfold cBrS at h9
      refine z_iload_n (pc := 2) C dX10_bringWhatGave_2 rfl ?_
      first | refine z_aload_n (pc := 3) C dX10_bringWhatGave_3 rfl ?_ | refine z_aload_nN (pc := 3) C dX10_bringWhatGave_3 rfl ?_
      refine z_getf (pc := 4) C dX10_bringWhatGave_4 (zfu_X10_45 h8) (hk_0 (κ := κ) (by exact hi) (by exact hq)) rfl ?_
      refine z_alen (pc := 7) C dX10_bringWhatGave_7 (Rw.get (rw_leads (κ := κ) (by exact hw) (by exact hi) (by exact hq))) (by decide) ?_
      -- at 8: if_icmpge 
      refine z_icmp_geF (pc := 8) (tgt := 62) C dX10_bringWhatGave_8 (by decide) (by omega) (by omega) (by omega) ?_
      first | refine z_aload_n (pc := 11) C dX10_bringWhatGave_11 rfl ?_ | refine z_aload_nN (pc := 11) C dX10_bringWhatGave_11 rfl ?_
      first | refine z_aload_n (pc := 12) C dX10_bringWhatGave_12 rfl ?_ | refine z_aload_nN (pc := 12) C dX10_bringWhatGave_12 rfl ?_
      refine z_getf (pc := 13) C dX10_bringWhatGave_13 (zfu_X10_45 h8) (hk_0 (κ := κ) (by exact hi) (by exact hq)) rfl ?_
      refine z_iload_n (pc := 16) C dX10_bringWhatGave_16 rfl ?_
      refine z_iald (pc := 17) C dX10_bringWhatGave_17 (Rw.get (rw_leads (κ := κ) (by exact hw) (by exact hi) (by exact hq))) (by first | omega | decide | (simp only [unu, upt]; omega)) (by first | decide | omega) rfl ?_
      -- at 18: invokevirtual Method unitAt:(I)LGrindWorks$Unit;
      by_cases h1 : isU τ.2.2.2 (τ.1 i 2 p)
      · rw [if_pos h1] at h9
        obtain ⟨d, hd, e⟩ := isU_of (by omega) h1
        rw [e] at h9 ⊢
        rw [tn_nI (by omega)] at h9
        obtain ⟨q, hqd⟩ : ∃ q, τ.2.2.1 d = q := ⟨_, rfl⟩
        have hne : i = d → ¬ τ.2.2.1 d = 7 := by
          intro z1 z2
          rw [← z1, hq] at z2
          rw [z2] at hk
          have : upt 7 = 0 := rfl
          omega
        refine z_callV (pc := 18) (ci := 9) C dX10_bringWhatGave_18 zy_X10_unitAt kw_250 kw_251 rfl kw_831 rfl (zM_n en (ct_X10_unitAt l Ω τ hw d hd)) rfl rfl ⟨⟨by decide, by decide⟩, by decide, by decide⟩ (Nat.le_of_ble_eq_true rfl) ?_; dsimp only [Option.toList_some, List.cons_append, List.nil_append]
        first | refine z_astore (pc := 21) C dX10_bringWhatGave_21 (by rw [hE]; decide) ?_ | refine z_astoreN (pc := 21) C dX10_bringWhatGave_21 (by rw [hE]; decide) ?_
        first | refine z_aload (pc := 23) C dX10_bringWhatGave_23 rfl ?_ | refine z_aloadN (pc := 23) C dX10_bringWhatGave_23 rfl ?_
        -- at 25: ifnonnull 
        first | refine z_ifnonnullN (pc := 25) C dX10_bringWhatGave_25 ?_ | refine z_ifnonnull (pc := 25) (tgt := 44) C dX10_bringWhatGave_25 (by decide) ?_
        first | refine z_aload (pc := 44) C dX10_bringWhatGave_44 rfl ?_ | refine z_aloadN (pc := 44) C dX10_bringWhatGave_44 rfl ?_
        refine z_iload_n (pc := 46) C dX10_bringWhatGave_46 rfl ?_
        first | refine z_aload_n (pc := 47) C dX10_bringWhatGave_47 rfl ?_ | refine z_aload_nN (pc := 47) C dX10_bringWhatGave_47 rfl ?_
        refine z_getf (pc := 48) C dX10_bringWhatGave_48 (zfu_X10_213 h8) (hk_0 (κ := κ) (by exact hi) (by exact hq)) rfl ?_
        refine z_iload_n (pc := 51) C dX10_bringWhatGave_51 rfl ?_
        refine z_aald (pc := 52) C dX10_bringWhatGave_52 (hk_given (κ := κ) (by exact hi) (by exact hq)) (Or.inr rfl) (by first | decide | omega) (by first | decide | omega) ?_
        -- at 53: invokevirtual Method GrindWorks$Unit.take:(I[I)V
        rw [← en] at h9 ⊢
        refine zu_take (pc := 53) C (by omega) (rw_giv (p := p) hw hi hq (by omega)) (by omega) hne hw hd hqd dX10_bringWhatGave_53 kw_400 ⟨⟨by decide, by decide⟩, by decide, by decide⟩ ⟨⟨by decide, by decide⟩, by decide, by decide⟩ (Nat.le_of_ble_eq_true rfl) ?_
        first | refine z_iincN (pc := 56) C dX10_bringWhatGave_56 rfl (by rw [hE]; decide) ?_ | refine z_iinc (pc := 56) C dX10_bringWhatGave_56 rfl rfl (by rw [hE]; decide) ?_
        refine z_goto (pc := 59) (tgt := 2) C dX10_bringWhatGave_59 (by decide) ?_
        -- at 2
        refine z_pick [0, 1, 2, 3] rfl ?_
        exact h9
      · rw [if_neg h1] at h9
        refine z_callV (pc := 18) (ci := 9) C dX10_bringWhatGave_18 zy_X10_unitAt kw_250 kw_251 rfl kw_831 rfl (zM_n en (ct_X10_unitAt_n l Ω τ hw _ h1)) rfl rfl ⟨⟨by decide, by decide⟩, by decide, by decide⟩ (Nat.le_of_ble_eq_true rfl) ?_; dsimp only [Option.toList_some, List.cons_append, List.nil_append]
        first | refine z_astore (pc := 21) C dX10_bringWhatGave_21 (by rw [hE]; decide) ?_ | refine z_astoreN (pc := 21) C dX10_bringWhatGave_21 (by rw [hE]; decide) ?_
        first | refine z_aload (pc := 23) C dX10_bringWhatGave_23 rfl ?_ | refine z_aloadN (pc := 23) C dX10_bringWhatGave_23 rfl ?_
        -- at 25: ifnonnull 
        first | refine z_ifnonnullN (pc := 25) C dX10_bringWhatGave_25 ?_ | refine z_ifnonnull (pc := 25) (tgt := 44) C dX10_bringWhatGave_25 (by decide) ?_
        first | refine z_aload_n (pc := 28) C dX10_bringWhatGave_28 rfl ?_ | refine z_aload_nN (pc := 28) C dX10_bringWhatGave_28 rfl ?_
        refine z_getf (pc := 29) C dX10_bringWhatGave_29 (zfu_X10_213 h8) (hk_0 (κ := κ) (by exact hi) (by exact hq)) rfl ?_
        refine z_iload_n (pc := 32) C dX10_bringWhatGave_32 rfl ?_
        refine z_aald (pc := 33) C dX10_bringWhatGave_33 (hk_given (κ := κ) (by exact hi) (by exact hq)) (Or.inr rfl) (by first | decide | omega) (by first | decide | omega) ?_
        first | refine z_aload_n (pc := 34) C dX10_bringWhatGave_34 rfl ?_ | refine z_aload_nN (pc := 34) C dX10_bringWhatGave_34 rfl ?_
        refine z_getf (pc := 35) C dX10_bringWhatGave_35 (zfu_X10_117 h8) (hk_0 (κ := κ) (by exact hi) (by exact hq)) rfl ?_
        -- at 38: invokestatic Method add:([I[I)V
        refine z_callS (pc := 38) C dX10_bringWhatGave_38 zy_X10_add kw_361 kw_362 (ct_addR l Ω τ _ (rw_giv (p := p) hw hi hq (by omega)) (rw_spilt hw hi) (by omega) (by decide) (by decide)) rfl rfl ⟨⟨by decide, by decide⟩, by decide, by decide⟩ (Nat.le_of_ble_eq_true rfl) ?_; dsimp only [Option.toList_none, List.nil_append]
        refine z_goto (pc := 41) (tgt := 56) C dX10_bringWhatGave_41 (by decide) ?_
        first | refine z_iincN (pc := 56) C dX10_bringWhatGave_56 rfl (by rw [hE]; decide) ?_ | refine z_iinc (pc := 56) C dX10_bringWhatGave_56 rfl rfl (by rw [hE]; decide) ?_
        refine z_goto (pc := 59) (tgt := 2) C dX10_bringWhatGave_59 (by decide) ?_
        -- at 2
        refine z_pick [0, 1, 2, 3] rfl ?_
        exact h9
  refine z_iconst (pc := 0) (v := nI 0) C dX10_bringWhatGave_0 (by decide) ?_
  refine z_istore_n (pc := 1) C dX10_bringWhatGave_1 (by rw [hE]; decide) ?_
  -- at 2: iload_3 
  exact loop (upt κ) 0 (by omega)
/-- all that is in unit d -/
def cLev (σ : Sg) (d : Nat) : Int32 := l_sum (σ.1 d 0) 8 + vSl σ d + vLo σ d
def cCtl (σ : Sg) (i : Nat) : Sg := if isU σ.2.2.2 (σ.1 i 8 1) then s_obey σ i (cLev σ (tn (σ.1 i 8 1))) else σ
theorem s_obey_n (σ : Sg) (i : Nat) (v : Int32) : (s_obey σ i v).2 = σ.2 := by
  unfold s_obey
  split
  · rfl
  · split <;> rfl
theorem cCtl_n (σ : Sg) (i : Nat) : (cCtl σ i).2 = σ.2 := by
  unfold cCtl
  split
  · exact s_obey_n _ _ _
  · rfl
set_option maxHeartbeats 4000000 in
set_option maxRecDepth 100000 in
theorem ct_X10_controlFeed (l : Launch) (Ω : OmT) (σ : Sg) (hw : KW σ) (i : Nat) (hi : i < σ.2.2.2) (hq : σ.2.2.1 i = 0) : ZM l Ω yX10_controlFeed cX10_controlFeed 3 none rm_X10_controlFeed [rfO Ω 0, rfO Ω (bs σ.2.2.1 i)] (hp Ω σ) (hN σ) (none) (hp Ω (cCtl σ i)) (hN σ) := by
  refine ZM_of (by decide) (Nat.le_of_ble_eq_true rfl) (fun E hE C hQ => ?_)
  have hn := hw.1
  unfold cCtl at hQ
  first | refine z_aload_n (pc := 0) C dX10_controlFeed_0 rfl ?_ | refine z_aload_nN (pc := 0) C dX10_controlFeed_0 rfl ?_
  first | refine z_aload_n (pc := 1) C dX10_controlFeed_1 rfl ?_ | refine z_aload_nN (pc := 1) C dX10_controlFeed_1 rfl ?_
  refine z_getf (pc := 2) C dX10_controlFeed_2 zf_X10_225_1 (hk_0 (κ := 0) (by exact hi) (by exact hq)) rfl ?_
  -- at 5: invokevirtual Method unitAt:(I)LGrindWorks$Unit;
  by_cases h1 : isU σ.2.2.2 (σ.1 i 8 1)
  · rw [if_pos h1] at hQ
    obtain ⟨d, hd, e⟩ := isU_of (by omega) h1
    rw [e] at hQ ⊢
    rw [tn_nI (by omega)] at hQ
    obtain ⟨q, hqd⟩ : ∃ q, σ.2.2.1 d = q := ⟨_, rfl⟩
    have h8 : q < 8 := hqd ▸ hw.2 d hd
    refine z_callV (pc := 5) (ci := 9) C dX10_controlFeed_5 zy_X10_unitAt kw_250 kw_251 rfl kw_831 rfl (ct_X10_unitAt l Ω σ hw d hd) rfl rfl ⟨⟨by decide, by decide⟩, by decide, by decide⟩ (Nat.le_of_ble_eq_true rfl) ?_; dsimp only [Option.toList_some, List.cons_append, List.nil_append]
    first | refine z_astore_n (pc := 8) C dX10_controlFeed_8 (by rw [hE]; decide) ?_ | refine z_astore_nN (pc := 8) C dX10_controlFeed_8 (by rw [hE]; decide) ?_
    first | refine z_aload_n (pc := 9) C dX10_controlFeed_9 rfl ?_ | refine z_aload_nN (pc := 9) C dX10_controlFeed_9 rfl ?_
    -- at 10: ifnull 
    first | refine z_ifnull (pc := 10) C dX10_controlFeed_10 ?_ | refine z_ifnullN (pc := 10) (tgt := 34) C dX10_controlFeed_10 (by decide) ?_
    first | refine z_aload_n (pc := 13) C dX10_controlFeed_13 rfl ?_ | refine z_aload_nN (pc := 13) C dX10_controlFeed_13 rfl ?_
    first | refine z_aload_n (pc := 14) C dX10_controlFeed_14 rfl ?_ | refine z_aload_nN (pc := 14) C dX10_controlFeed_14 rfl ?_
    refine z_getf (pc := 15) C dX10_controlFeed_15 (zfu_X10_92 h8) (hk_0 (κ := q) (by exact hd) (by exact hqd)) rfl ?_
    refine z_callS (pc := 18) C dX10_controlFeed_18 zy_X10_total kw_416 kw_382 (ct_totalR l Ω σ _ (rw_held hw hd)) rfl rfl ⟨⟨by decide, by decide⟩, by decide, by decide⟩ (Nat.le_of_ble_eq_true rfl) ?_; dsimp only [Option.toList_some, List.cons_append, List.nil_append]
    first | refine z_aload_n (pc := 21) C dX10_controlFeed_21 rfl ?_ | refine z_aload_nN (pc := 21) C dX10_controlFeed_21 rfl ?_
    -- at 22: invokevirtual Method GrindWorks$Unit.inSlots:()I
    refine zu_inSlots (pc := 22) C hw hd hqd dX10_controlFeed_22 kw_417 ⟨⟨by decide, by decide⟩, by decide, by decide⟩ ⟨⟨by decide, by decide⟩, by decide, by decide⟩ (Nat.le_of_ble_eq_true rfl) ?_
    first | with_reducible refine z_iaddN (pc := 25) C dX10_controlFeed_25 ?_ | refine z_iadd (pc := 25) C dX10_controlFeed_25 ?_
    first | refine z_aload_n (pc := 26) C dX10_controlFeed_26 rfl ?_ | refine z_aload_nN (pc := 26) C dX10_controlFeed_26 rfl ?_
    -- at 27: invokevirtual Method GrindWorks$Unit.inLots:()I
    refine zu_inLots (pc := 27) C hw hd hqd dX10_controlFeed_27 kw_432 ⟨⟨by decide, by decide⟩, by decide, by decide⟩ ⟨⟨by decide, by decide⟩, by decide, by decide⟩ (Nat.le_of_ble_eq_true rfl) ?_
    first | with_reducible refine z_iaddN (pc := 30) C dX10_controlFeed_30 ?_ | refine z_iadd (pc := 30) C dX10_controlFeed_30 ?_
    -- at 31: invokevirtual Method GrindWorks$Feed.obey:(I)V
    refine z_callV (pc := 31) (ci := 1) C dX10_controlFeed_31 zy_X1_obey kw_445 kw_446 rfl kw_447 (hk_0 (κ := 0) (by exact hi) (by exact hq)) (ct_X1_obey l Ω σ hw i hi hq (cLev σ d)) rfl rfl ⟨⟨by decide, by decide⟩, by decide, by decide⟩ (Nat.le_of_ble_eq_true rfl) ?_; dsimp only [Option.toList_none, List.nil_append]
    exact z_vret (pc := 34) C hQ dX10_controlFeed_34 rfl rfl rfl (by decide) (by decide)
  · rw [if_neg h1] at hQ
    refine z_callV (pc := 5) (ci := 9) C dX10_controlFeed_5 zy_X10_unitAt kw_250 kw_251 rfl kw_831 rfl (ct_X10_unitAt_n l Ω σ hw _ h1) rfl rfl ⟨⟨by decide, by decide⟩, by decide, by decide⟩ (Nat.le_of_ble_eq_true rfl) ?_; dsimp only [Option.toList_some, List.cons_append, List.nil_append]
    first | refine z_astore_n (pc := 8) C dX10_controlFeed_8 (by rw [hE]; decide) ?_ | refine z_astore_nN (pc := 8) C dX10_controlFeed_8 (by rw [hE]; decide) ?_
    first | refine z_aload_n (pc := 9) C dX10_controlFeed_9 rfl ?_ | refine z_aload_nN (pc := 9) C dX10_controlFeed_9 rfl ?_
    -- at 10: ifnull 
    first | refine z_ifnull (pc := 10) C dX10_controlFeed_10 ?_ | refine z_ifnullN (pc := 10) (tgt := 34) C dX10_controlFeed_10 (by decide) ?_
    exact z_vret (pc := 34) C hQ dX10_controlFeed_34 rfl rfl rfl (by decide) (by decide)
/-- a minute -/
def cCtF (i : Nat) (τ : Sg) : Sg := if τ.2.2.1 i = 0 then cCtl τ i else τ
def cP1 (σ : Sg) : Sg := itF (fun u τ => cGive τ u) σ.2.2.2 σ
def cP2 (σ : Sg) : Sg := itF (fun u τ => cBring τ u) σ.2.2.2 σ
def cP3 (σ : Sg) : Sg := itF cCtF σ.2.2.2 σ
def cMin (σ : Sg) : Sg := cP3 (cP2 (cP1 σ))
theorem cCtF_n (i : Nat) (τ : Sg) : (cCtF i τ).2 = τ.2 := by
  unfold cCtF
  split
  · exact cCtl_n τ i
  · rfl
theorem cP1_n (σ : Sg) : (cP1 σ).2 = σ.2 := itF_2 (f := fun u τ => cGive τ u) (fun c τ => (frc_give τ c).2) σ _
theorem cP2_n (σ : Sg) : (cP2 σ).2 = σ.2 := itF_2 (f := fun u τ => cBring τ u) (fun c τ => cBring_n τ c) σ _
theorem cP3_n (σ : Sg) : (cP3 σ).2 = σ.2 := itF_2 (f := cCtF) (fun c τ => cCtF_n c τ) σ _
theorem cMin_n (σ : Sg) : (cMin σ).2 = σ.2 := by
  unfold cMin
  rw [cP3_n, cP2_n, cP1_n]
/-- the units not yet come to are as they were -/
theorem cP1_ge (σ : Sg) : ∀ (k s : Nat), k ≤ s → (itF (fun u τ => cGive τ u) k σ).1 s = σ.1 s
  | 0, _, _ => rfl
  | k + 1, s, h => ((frc_give (itF (fun u τ => cGive τ u) k σ) k).1 s (by omega)).trans (cP1_ge σ k s (by omega))
theorem GW.of {σ τ : Sg} {i : Nat} (h : GW σ i) (e1 : τ.1 i = σ.1 i) (e2 : τ.2 = σ.2) : GW τ i := by
  unfold GW
  rw [e1, e2]
  exact h
set_option maxHeartbeats 4000000 in
set_option maxRecDepth 100000 in
theorem ct_X10_passMinute (l : Launch) (Ω : OmT) (σ : Sg) (hw : KW σ) (hg : ∀ u, u < σ.2.2.2 → GW σ u) : ZM l Ω yX10_passMinute cX10_passMinute 4 none rm_X10_passMinute [rfO Ω 0] (hp Ω σ) (hN σ) (none) (hp Ω (cMin σ)) (hN σ) := by
  refine ZM_of (by decide) (Nat.le_of_ble_eq_true rfl) (fun E hE C hQ => ?_)
  have hn := hw.1
  have p3 : ∀ (ρ : Sg), ρ.2 = σ.2 → ∀ (k j : Nat), j + k = 10 → hp Ω (cP3 ρ) = hp Ω (cMin σ) → ZV l Ω E 0 0 62 [(0, rfO Ω 0), (1, .int (nI j))] [] (hp Ω (itF cCtF (min j σ.2.2.2) ρ)) (hN σ) := by
    intro ρ hρ k
    induction k with
    | zero =>
      intro j hj hm
      obtain rfl : j = 10 := by omega
      refine z_iload_n (pc := 62) C dX10_passMinute_62 rfl ?_
      refine z_bipush (pc := 63) (v := nI 10) C dX10_passMinute_63 (by decide) ?_
      -- at 65: if_icmpge 
      refine z_icmp_geT (pc := 65) (tgt := 98) C dX10_passMinute_65 (by decide) (by omega) (by omega) (by omega) ?_
      exact z_vret (pc := 98) C hQ dX10_passMinute_98 rfl (by rw [Nat.min_eq_right hn, ← hm]; unfold cP3; rw [hρ]) rfl (by decide) (by decide)
    | succ k ih =>
      intro j hj hm
      have h9 := ih (j + 1) (by omega) hm
      have e2 : (itF cCtF (min j σ.2.2.2) ρ).2 = σ.2 := (itF_2 (f := cCtF) (fun c τ => cCtF_n c τ) ρ _).trans hρ
      by_cases hjn : j < σ.2.2.2
      · rw [Nat.min_eq_left (by omega)] at h9 e2 ⊢
        rw [show itF cCtF (j + 1) ρ = cCtF j (itF cCtF j ρ) from rfl] at h9
        generalize itF cCtF j ρ = τ at h9 e2 ⊢
        have e22 : τ.2.2 = σ.2.2 := by rw [e2]
        have hnn : τ.2.2.2 = σ.2.2.2 := by rw [e2]
        have hw := hw.of e22
        have hi : j < τ.2.2.2 := by rw [hnn]; exact hjn
        have en := hN_eq e22
        refine z_iload_n (pc := 62) C dX10_passMinute_62 rfl ?_
        refine z_bipush (pc := 63) (v := nI 10) C dX10_passMinute_63 (by decide) ?_
        -- at 65: if_icmpge 
        refine z_icmp_geF (pc := 65) (tgt := 98) C dX10_passMinute_65 (by decide) (by omega) (by omega) (by omega) ?_
        first | refine z_aload_n (pc := 68) C dX10_passMinute_68 rfl ?_ | refine z_aload_nN (pc := 68) C dX10_passMinute_68 rfl ?_
        refine z_getf (pc := 69) C dX10_passMinute_69 zf_X10_13_9 rfl rfl ?_
        refine z_iload_n (pc := 72) C dX10_passMinute_72 rfl ?_
        -- at 73: aaload 
        refine z_aald (pc := 73) (N := 10) C dX10_passMinute_73 rfl (Or.inl rfl) (by omega) (by decide) ?_
        rw [if_pos hi]
        first | refine z_astore_n (pc := 74) C dX10_passMinute_74 (by rw [hE]; decide) ?_ | refine z_astore_nN (pc := 74) C dX10_passMinute_74 (by rw [hE]; decide) ?_
        first | refine z_aload_n (pc := 75) C dX10_passMinute_75 rfl ?_ | refine z_aload_nN (pc := 75) C dX10_passMinute_75 rfl ?_
        -- at 76: instanceof class GrindWorks$Feed
        unfold cCtF at h9
        by_cases h0 : τ.2.2.1 j = 0
        · rw [if_pos h0] at h9
          refine z_instY (pc := 76) (ci := 1) C dX10_passMinute_76 (hk_0 (κ := 0) hi h0) rfl kw_54 ?_
          refine z_if_eqF (pc := 79) (tgt := 92) (a := 1) C dX10_passMinute_79 (by decide) (by decide) (by decide) ?_
          first | refine z_aload_n (pc := 82) C dX10_passMinute_82 rfl ?_ | refine z_aload_nN (pc := 82) C dX10_passMinute_82 rfl ?_
          -- at 83: checkcast class GrindWorks$Feed
          refine z_cast (pc := 83) (ci := 1) C dX10_passMinute_83 (hk_0 (κ := 0) hi h0) rfl kw_54 ?_
          first | refine z_astore_n (pc := 86) C dX10_passMinute_86 (by rw [hE]; decide) ?_ | refine z_astore_nN (pc := 86) C dX10_passMinute_86 (by rw [hE]; decide) ?_
          first | refine z_aload_n (pc := 87) C dX10_passMinute_87 rfl ?_ | refine z_aload_nN (pc := 87) C dX10_passMinute_87 rfl ?_
          first | refine z_aload_n (pc := 88) C dX10_passMinute_88 rfl ?_ | refine z_aload_nN (pc := 88) C dX10_passMinute_88 rfl ?_
          -- at 89: invokevirtual Method controlFeed:(LGrindWorks$Feed;)V
          refine z_callV (pc := 89) (ci := 9) C dX10_passMinute_89 zy_X10_controlFeed kw_413 kw_414 rfl kw_839 rfl (zM_n en (ct_X10_controlFeed l Ω τ hw j hi h0)) rfl rfl ⟨⟨by decide, by decide⟩, by decide, by decide⟩ (Nat.le_of_ble_eq_true rfl) ?_; dsimp only [Option.toList_none, List.nil_append]
          first | refine z_iincN (pc := 92) C dX10_passMinute_92 rfl (by rw [hE]; decide) ?_ | refine z_iinc (pc := 92) C dX10_passMinute_92 rfl rfl (by rw [hE]; decide) ?_
          refine z_goto (pc := 95) (tgt := 62) C dX10_passMinute_95 (by decide) ?_
          -- at 62
          refine z_pick [0, 1] rfl ?_
          exact h9
        · rw [if_neg h0] at h9
          refine z_instNu (pc := 76) C (t := 0) "GrindWorks$Feed" (Or.inl ⟨rfl, rfl⟩) hw hi rfl h0 dX10_passMinute_76 kw_54 ?_
          refine z_if_eqT (pc := 79) (tgt := 92) (a := 0) C dX10_passMinute_79 (by decide) rfl ?_
          first | refine z_iincN (pc := 92) C dX10_passMinute_92 rfl (by rw [hE]; decide) ?_ | refine z_iinc (pc := 92) C dX10_passMinute_92 rfl rfl (by rw [hE]; decide) ?_
          refine z_goto (pc := 95) (tgt := 62) C dX10_passMinute_95 (by decide) ?_
          -- at 62
          refine z_pick [0, 1] rfl ?_
          exact h9
      · rw [Nat.min_eq_right (by omega)] at h9 e2 ⊢
        generalize itF cCtF σ.2.2.2 ρ = τ at h9 e2 ⊢
        have hnn : τ.2.2.2 = σ.2.2.2 := by rw [e2]
        refine z_iload_n (pc := 62) C dX10_passMinute_62 rfl ?_
        refine z_bipush (pc := 63) (v := nI 10) C dX10_passMinute_63 (by decide) ?_
        -- at 65: if_icmpge 
        refine z_icmp_geF (pc := 65) (tgt := 98) C dX10_passMinute_65 (by decide) (by omega) (by omega) (by omega) ?_
        first | refine z_aload_n (pc := 68) C dX10_passMinute_68 rfl ?_ | refine z_aload_nN (pc := 68) C dX10_passMinute_68 rfl ?_
        refine z_getf (pc := 69) C dX10_passMinute_69 zf_X10_13_9 rfl rfl ?_
        refine z_iload_n (pc := 72) C dX10_passMinute_72 rfl ?_
        -- at 73: aaload 
        refine z_aald (pc := 73) (N := 10) C dX10_passMinute_73 rfl (Or.inl rfl) (by omega) (by decide) ?_
        rw [if_neg (by rw [hnn]; exact hjn)]
        first | refine z_astore_n (pc := 74) C dX10_passMinute_74 (by rw [hE]; decide) ?_ | refine z_astore_nN (pc := 74) C dX10_passMinute_74 (by rw [hE]; decide) ?_
        first | refine z_aload_n (pc := 75) C dX10_passMinute_75 rfl ?_ | refine z_aload_nN (pc := 75) C dX10_passMinute_75 rfl ?_
        -- at 76: instanceof class GrindWorks$Feed
        refine z_instNull (pc := 76) C dX10_passMinute_76 ?_
        refine z_if_eqT (pc := 79) (tgt := 92) (a := 0) C dX10_passMinute_79 (by decide) rfl ?_
        first | refine z_iincN (pc := 92) C dX10_passMinute_92 rfl (by rw [hE]; decide) ?_ | refine z_iinc (pc := 92) C dX10_passMinute_92 rfl rfl (by rw [hE]; decide) ?_
        refine z_goto (pc := 95) (tgt := 62) C dX10_passMinute_95 (by decide) ?_
        -- at 62
        refine z_pick [0, 1] rfl ?_
        exact h9
  have p2 : ∀ (ρ : Sg), ρ.2 = σ.2 → ∀ (k j : Nat), j + k = 10 → hp Ω (cP3 (cP2 ρ)) = hp Ω (cMin σ) → ZV l Ω E 0 0 31 [(0, rfO Ω 0), (1, .int (nI j))] [] (hp Ω (itF (fun u τ => cBring τ u) (min j σ.2.2.2) ρ)) (hN σ) := by
    intro ρ hρ k
    induction k with
    | zero =>
      intro j hj hm
      obtain rfl : j = 10 := by omega
      have e9 : itF (fun u τ => cBring τ u) (min 10 σ.2.2.2) ρ = cP2 ρ := by rw [Nat.min_eq_right hn]; unfold cP2; rw [hρ]
      rw [e9]
      refine z_iload_n (pc := 31) C dX10_passMinute_31 rfl ?_
      refine z_bipush (pc := 32) (v := nI 10) C dX10_passMinute_32 (by decide) ?_
      -- at 34: if_icmpge 
      refine z_icmp_geT (pc := 34) (tgt := 60) C dX10_passMinute_34 (by decide) (by omega) (by omega) (by omega) ?_
      refine z_iconst (pc := 60) (v := nI 0) C dX10_passMinute_60 (by decide) ?_
      refine z_istore_n (pc := 61) C dX10_passMinute_61 (by rw [hE]; decide) ?_
      -- at 62: iload_1 
      have h9 := p3 (cP2 ρ) ((cP2_n ρ).trans hρ) 10 0 (by omega) hm
      rw [Nat.min_eq_left (by omega)] at h9
      exact h9
    | succ k ih =>
      intro j hj hm
      have h9 := ih (j + 1) (by omega) hm
      have e2 : (itF (fun u τ => cBring τ u) (min j σ.2.2.2) ρ).2 = σ.2 := (itF_2 (f := fun u τ => cBring τ u) (fun c τ => cBring_n τ c) ρ _).trans hρ
      by_cases hjn : j < σ.2.2.2
      · rw [Nat.min_eq_left (by omega)] at h9 e2 ⊢
        rw [show itF (fun u τ => cBring τ u) (j + 1) ρ = cBring (itF (fun u τ => cBring τ u) j ρ) j from rfl] at h9
        generalize itF (fun u τ => cBring τ u) j ρ = τ at h9 e2 ⊢
        have e22 : τ.2.2 = σ.2.2 := by rw [e2]
        have hnn : τ.2.2.2 = σ.2.2.2 := by rw [e2]
        have hw := hw.of e22
        have hi : j < τ.2.2.2 := by rw [hnn]; exact hjn
        have en := hN_eq e22
        refine z_iload_n (pc := 31) C dX10_passMinute_31 rfl ?_
        refine z_bipush (pc := 32) (v := nI 10) C dX10_passMinute_32 (by decide) ?_
        -- at 34: if_icmpge 
        refine z_icmp_geF (pc := 34) (tgt := 60) C dX10_passMinute_34 (by decide) (by omega) (by omega) (by omega) ?_
        first | refine z_aload_n (pc := 37) C dX10_passMinute_37 rfl ?_ | refine z_aload_nN (pc := 37) C dX10_passMinute_37 rfl ?_
        refine z_getf (pc := 38) C dX10_passMinute_38 zf_X10_13_9 rfl rfl ?_
        refine z_iload_n (pc := 41) C dX10_passMinute_41 rfl ?_
        -- at 42: aaload 
        refine z_aald (pc := 42) (N := 10) C dX10_passMinute_42 rfl (Or.inl rfl) (by omega) (by decide) ?_
        rw [if_pos hi]
        first | refine z_astore_n (pc := 43) C dX10_passMinute_43 (by rw [hE]; decide) ?_ | refine z_astore_nN (pc := 43) C dX10_passMinute_43 (by rw [hE]; decide) ?_
        first | refine z_aload_n (pc := 44) C dX10_passMinute_44 rfl ?_ | refine z_aload_nN (pc := 44) C dX10_passMinute_44 rfl ?_
        -- at 45: ifnull 
        first | refine z_ifnull (pc := 45) C dX10_passMinute_45 ?_ | refine z_ifnullN (pc := 45) (tgt := 54) C dX10_passMinute_45 (by decide) ?_
        first | refine z_aload_n (pc := 48) C dX10_passMinute_48 rfl ?_ | refine z_aload_nN (pc := 48) C dX10_passMinute_48 rfl ?_
        refine z_iload_n (pc := 49) C dX10_passMinute_49 rfl ?_
        first | refine z_aload_n (pc := 50) C dX10_passMinute_50 rfl ?_ | refine z_aload_nN (pc := 50) C dX10_passMinute_50 rfl ?_
        -- at 51: invokevirtual Method bringWhatGave:(ILGrindWorks$Unit;)V
        refine z_callV (pc := 51) (ci := 9) C dX10_passMinute_51 zy_X10_bringWhatGave kw_397 kw_398 rfl kw_838 rfl (zM_n en (ct_X10_bringWhatGave l Ω τ hw j _ hi rfl)) rfl rfl ⟨⟨by decide, by decide⟩, by decide, by decide⟩ (Nat.le_of_ble_eq_true rfl) ?_; dsimp only [Option.toList_none, List.nil_append]
        first | refine z_iincN (pc := 54) C dX10_passMinute_54 rfl (by rw [hE]; decide) ?_ | refine z_iinc (pc := 54) C dX10_passMinute_54 rfl rfl (by rw [hE]; decide) ?_
        refine z_goto (pc := 57) (tgt := 31) C dX10_passMinute_57 (by decide) ?_
        -- at 31
        refine z_pick [0, 1] rfl ?_
        exact h9
      · rw [Nat.min_eq_right (by omega)] at h9 e2 ⊢
        generalize itF (fun u τ => cBring τ u) σ.2.2.2 ρ = τ at h9 e2 ⊢
        have hnn : τ.2.2.2 = σ.2.2.2 := by rw [e2]
        refine z_iload_n (pc := 31) C dX10_passMinute_31 rfl ?_
        refine z_bipush (pc := 32) (v := nI 10) C dX10_passMinute_32 (by decide) ?_
        -- at 34: if_icmpge 
        refine z_icmp_geF (pc := 34) (tgt := 60) C dX10_passMinute_34 (by decide) (by omega) (by omega) (by omega) ?_
        first | refine z_aload_n (pc := 37) C dX10_passMinute_37 rfl ?_ | refine z_aload_nN (pc := 37) C dX10_passMinute_37 rfl ?_
        refine z_getf (pc := 38) C dX10_passMinute_38 zf_X10_13_9 rfl rfl ?_
        refine z_iload_n (pc := 41) C dX10_passMinute_41 rfl ?_
        -- at 42: aaload 
        refine z_aald (pc := 42) (N := 10) C dX10_passMinute_42 rfl (Or.inl rfl) (by omega) (by decide) ?_
        rw [if_neg (by rw [hnn]; exact hjn)]
        first | refine z_astore_n (pc := 43) C dX10_passMinute_43 (by rw [hE]; decide) ?_ | refine z_astore_nN (pc := 43) C dX10_passMinute_43 (by rw [hE]; decide) ?_
        first | refine z_aload_n (pc := 44) C dX10_passMinute_44 rfl ?_ | refine z_aload_nN (pc := 44) C dX10_passMinute_44 rfl ?_
        -- at 45: ifnull 
        first | refine z_ifnull (pc := 45) C dX10_passMinute_45 ?_ | refine z_ifnullN (pc := 45) (tgt := 54) C dX10_passMinute_45 (by decide) ?_
        first | refine z_iincN (pc := 54) C dX10_passMinute_54 rfl (by rw [hE]; decide) ?_ | refine z_iinc (pc := 54) C dX10_passMinute_54 rfl rfl (by rw [hE]; decide) ?_
        refine z_goto (pc := 57) (tgt := 31) C dX10_passMinute_57 (by decide) ?_
        -- at 31
        refine z_pick [0, 1] rfl ?_
        exact h9
  have p1 : ∀ (k j : Nat), j + k = 10 → ZV l Ω E 0 0 2 [(0, rfO Ω 0), (1, .int (nI j))] [] (hp Ω (itF (fun u τ => cGive τ u) (min j σ.2.2.2) σ)) (hN σ) := by
    intro k
    induction k with
    | zero =>
      intro j hj
      obtain rfl : j = 10 := by omega
      have e9 : itF (fun u τ => cGive τ u) (min 10 σ.2.2.2) σ = cP1 σ := by rw [Nat.min_eq_right hn]; rfl
      rw [e9]
      refine z_iload_n (pc := 2) C dX10_passMinute_2 rfl ?_
      refine z_bipush (pc := 3) (v := nI 10) C dX10_passMinute_3 (by decide) ?_
      -- at 5: if_icmpge 
      refine z_icmp_geT (pc := 5) (tgt := 29) C dX10_passMinute_5 (by decide) (by omega) (by omega) (by omega) ?_
      refine z_iconst (pc := 29) (v := nI 0) C dX10_passMinute_29 (by decide) ?_
      refine z_istore_n (pc := 30) C dX10_passMinute_30 (by rw [hE]; decide) ?_
      -- at 31: iload_1 
      have h9 := p2 (cP1 σ) (cP1_n σ) 10 0 (by omega) rfl
      rw [Nat.min_eq_left (by omega)] at h9
      exact h9
    | succ k ih =>
      intro j hj
      have h9 := ih (j + 1) (by omega)
      have e2 : (itF (fun u τ => cGive τ u) (min j σ.2.2.2) σ).2 = σ.2 := itF_2 (f := fun u τ => cGive τ u) (fun c τ => (frc_give τ c).2) σ _
      by_cases hjn : j < σ.2.2.2
      · rw [Nat.min_eq_left (by omega)] at h9 e2 ⊢
        have eg := (hg j hjn).of (cP1_ge σ j j (Nat.le_refl _)) e2
        rw [show itF (fun u τ => cGive τ u) (j + 1) σ = cGive (itF (fun u τ => cGive τ u) j σ) j from rfl] at h9
        generalize itF (fun u τ => cGive τ u) j σ = τ at h9 e2 eg ⊢
        have e22 : τ.2.2 = σ.2.2 := by rw [e2]
        have hnn : τ.2.2.2 = σ.2.2.2 := by rw [e2]
        have hw := hw.of e22
        have hi : j < τ.2.2.2 := by rw [hnn]; exact hjn
        have en := hN_eq e22
        refine z_iload_n (pc := 2) C dX10_passMinute_2 rfl ?_
        refine z_bipush (pc := 3) (v := nI 10) C dX10_passMinute_3 (by decide) ?_
        -- at 5: if_icmpge 
        refine z_icmp_geF (pc := 5) (tgt := 29) C dX10_passMinute_5 (by decide) (by omega) (by omega) (by omega) ?_
        first | refine z_aload_n (pc := 8) C dX10_passMinute_8 rfl ?_ | refine z_aload_nN (pc := 8) C dX10_passMinute_8 rfl ?_
        refine z_getf (pc := 9) C dX10_passMinute_9 zf_X10_13_9 rfl rfl ?_
        refine z_iload_n (pc := 12) C dX10_passMinute_12 rfl ?_
        -- at 13: aaload 
        refine z_aald (pc := 13) (N := 10) C dX10_passMinute_13 rfl (Or.inl rfl) (by omega) (by decide) ?_
        rw [if_pos hi]
        first | refine z_astore_n (pc := 14) C dX10_passMinute_14 (by rw [hE]; decide) ?_ | refine z_astore_nN (pc := 14) C dX10_passMinute_14 (by rw [hE]; decide) ?_
        first | refine z_aload_n (pc := 15) C dX10_passMinute_15 rfl ?_ | refine z_aload_nN (pc := 15) C dX10_passMinute_15 rfl ?_
        -- at 16: ifnull 
        first | refine z_ifnull (pc := 16) C dX10_passMinute_16 ?_ | refine z_ifnullN (pc := 16) (tgt := 23) C dX10_passMinute_16 (by decide) ?_
        first | refine z_aload_n (pc := 19) C dX10_passMinute_19 rfl ?_ | refine z_aload_nN (pc := 19) C dX10_passMinute_19 rfl ?_
        -- at 20: invokevirtual Method GrindWorks$Unit.give:()V
        rw [← en] at h9 ⊢
        refine zu_give (pc := 20) C hw hi rfl eg dX10_passMinute_20 kw_341 ⟨⟨by decide, by decide⟩, by decide, by decide⟩ ⟨⟨by decide, by decide⟩, by decide, by decide⟩ ⟨⟨by decide, by decide⟩, by decide, by decide⟩ ⟨⟨by decide, by decide⟩, by decide, by decide⟩ ⟨⟨by decide, by decide⟩, by decide, by decide⟩ ⟨⟨by decide, by decide⟩, by decide, by decide⟩ ⟨⟨by decide, by decide⟩, by decide, by decide⟩ (Nat.le_of_ble_eq_true rfl) ?_
        first | refine z_iincN (pc := 23) C dX10_passMinute_23 rfl (by rw [hE]; decide) ?_ | refine z_iinc (pc := 23) C dX10_passMinute_23 rfl rfl (by rw [hE]; decide) ?_
        refine z_goto (pc := 26) (tgt := 2) C dX10_passMinute_26 (by decide) ?_
        -- at 2
        refine z_pick [0, 1] rfl ?_
        exact h9
      · rw [Nat.min_eq_right (by omega)] at h9 e2 ⊢
        generalize itF (fun u τ => cGive τ u) σ.2.2.2 σ = τ at h9 e2 ⊢
        have hnn : τ.2.2.2 = σ.2.2.2 := by rw [e2]
        refine z_iload_n (pc := 2) C dX10_passMinute_2 rfl ?_
        refine z_bipush (pc := 3) (v := nI 10) C dX10_passMinute_3 (by decide) ?_
        -- at 5: if_icmpge 
        refine z_icmp_geF (pc := 5) (tgt := 29) C dX10_passMinute_5 (by decide) (by omega) (by omega) (by omega) ?_
        first | refine z_aload_n (pc := 8) C dX10_passMinute_8 rfl ?_ | refine z_aload_nN (pc := 8) C dX10_passMinute_8 rfl ?_
        refine z_getf (pc := 9) C dX10_passMinute_9 zf_X10_13_9 rfl rfl ?_
        refine z_iload_n (pc := 12) C dX10_passMinute_12 rfl ?_
        -- at 13: aaload 
        refine z_aald (pc := 13) (N := 10) C dX10_passMinute_13 rfl (Or.inl rfl) (by omega) (by decide) ?_
        rw [if_neg (by rw [hnn]; exact hjn)]
        first | refine z_astore_n (pc := 14) C dX10_passMinute_14 (by rw [hE]; decide) ?_ | refine z_astore_nN (pc := 14) C dX10_passMinute_14 (by rw [hE]; decide) ?_
        first | refine z_aload_n (pc := 15) C dX10_passMinute_15 rfl ?_ | refine z_aload_nN (pc := 15) C dX10_passMinute_15 rfl ?_
        -- at 16: ifnull 
        first | refine z_ifnull (pc := 16) C dX10_passMinute_16 ?_ | refine z_ifnullN (pc := 16) (tgt := 23) C dX10_passMinute_16 (by decide) ?_
        first | refine z_iincN (pc := 23) C dX10_passMinute_23 rfl (by rw [hE]; decide) ?_ | refine z_iinc (pc := 23) C dX10_passMinute_23 rfl rfl (by rw [hE]; decide) ?_
        refine z_goto (pc := 26) (tgt := 2) C dX10_passMinute_26 (by decide) ?_
        -- at 2
        refine z_pick [0, 1] rfl ?_
        exact h9
  refine z_iconst (pc := 0) (v := nI 0) C dX10_passMinute_0 (by decide) ?_
  refine z_istore_n (pc := 1) C dX10_passMinute_1 (by rw [hE]; decide) ?_
  -- at 2: iload_1 
  have h9 := p1 10 0 (by omega)
  rw [Nat.min_eq_left (by omega)] at h9
  exact h9
def itC (k : Nat) (σ : Sg) : Sg := itF (fun _ τ => cMin τ) k σ
theorem itC_n (k : Nat) (σ : Sg) : (itC k σ).2 = σ.2 := itF_2 (f := fun _ τ => cMin τ) (fun _ τ => cMin_n τ) σ k
set_option maxHeartbeats 4000000 in
set_option maxRecDepth 100000 in
theorem ct_X10_run_n (l : Launch) (Ω : OmT) (σ : Sg) (x : Int32) (h : ¬ inR 1 60 x) : ZM l Ω yX10_run cX10_run 3 (some .int) rm_X10_run [rfO Ω 0, .int x] (hp Ω σ) (hN σ) (some (.int (-2))) (hp Ω σ) (hN σ) := by
  refine ZM_of (by decide) (Nat.le_of_ble_eq_true rfl) (fun E hE C hQ => ?_)
  have bad : ZV l Ω E 0 0 11 [(0, rfO Ω 0), (1, .int x)] [] (hp Ω σ) (hN σ) := by
    refine z_bipush (pc := 11) (v := (-2)) C dX10_run_11 (by decide) ?_
    -- at 13: ireturn 
    exact z_iret (pc := 13) C hQ dX10_run_13 rfl rfl rfl (by decide) (by decide)
  refine z_iload_n (pc := 0) C dX10_run_0 rfl ?_
  refine z_iconst (pc := 1) (v := nI 1) C dX10_run_1 (by decide) ?_
  -- at 2: if_icmplt 
  refine z_icmp_lt (pc := 2) (tgt := 11) C dX10_run_2 (by decide) (fun _ => bad) (fun h1 => ?_)
  refine z_iload_n (pc := 5) C dX10_run_5 rfl ?_
  refine z_bipush (pc := 6) (v := nI 60) C dX10_run_6 (by decide) ?_
  -- at 8: if_icmple 
  refine z_icmp_le (pc := 8) (tgt := 14) C dX10_run_8 (by decide) (fun h2 => absurd ⟨Int32.not_lt.mp h1, h2⟩ h) (fun _ => bad)
set_option maxHeartbeats 4000000 in
set_option maxRecDepth 100000 in
theorem ct_X10_run_f (l : Launch) (Ω : OmT) (σ : Sg) (m k : Nat) (h1 : 1 ≤ k) (h2 : k ≤ 60) (hm : m ≤ 3000) (em : σ.1 10 0 1 = nI m) (h : 3000 < m + k) : ZM l Ω yX10_run cX10_run 3 (some .int) rm_X10_run [rfO Ω 0, .int (nI k)] (hp Ω σ) (hN σ) (some (.int (-4))) (hp Ω σ) (hN σ) := by
  refine ZM_of (by decide) (Nat.le_of_ble_eq_true rfl) (fun E hE C hQ => ?_)
  refine z_iload_n (pc := 0) C dX10_run_0 rfl ?_
  refine z_iconst (pc := 1) (v := nI 1) C dX10_run_1 (by decide) ?_
  -- at 2: if_icmplt 
  refine z_icmp_ltF (pc := 2) (tgt := 11) C dX10_run_2 (by decide) (by omega) (by omega) (by omega) ?_
  refine z_iload_n (pc := 5) C dX10_run_5 rfl ?_
  refine z_bipush (pc := 6) (v := nI 60) C dX10_run_6 (by decide) ?_
  -- at 8: if_icmple 
  refine z_icmp_leT (pc := 8) (tgt := 14) C dX10_run_8 (by decide) (by omega) (by omega) (by omega) ?_
  first | refine z_aload_n (pc := 14) C dX10_run_14 rfl ?_ | refine z_aload_nN (pc := 14) C dX10_run_14 rfl ?_
  refine z_getf (pc := 15) C dX10_run_15 zf_X10_28_9 rfl rfl ?_; rw [em]
  refine z_iload_n (pc := 18) C dX10_run_18 rfl ?_
  first | with_reducible refine z_iaddN (pc := 19) C dX10_run_19 ?_ | refine z_iadd (pc := 19) C dX10_run_19 ?_
  refine z_sipush (pc := 20) (v := nI 3000) C dX10_run_20 (by decide) ?_
  -- at 23: if_icmple 
  refine z_icmp_leF (pc := 23) (tgt := 29) C dX10_run_23 (by decide) (by omega) (by omega) (by omega) ?_
  refine z_bipush (pc := 26) (v := (-4)) C dX10_run_26 (by decide) ?_
  -- at 28: ireturn 
  exact z_iret (pc := 28) C hQ dX10_run_28 rfl rfl rfl (by decide) (by decide)
def cs_run (σ : Sg) (m k : Nat) : Sg := sI (itC k σ) 10 0 1 (nI (m + k))
/-- a minute leaves the works' own rows -/
theorem cTake_10 (σ : Sg) (i f i' a' s : Nat) (h : ¬ s = i) : (cTake σ i f i' a').1 s = σ.1 s := by
  unfold cTake
  split
  · unfold cTake7
    funext a j
    rw [sR_I, if_neg (fun z => h z.1), sR_I, if_neg (fun z => h z.1)]
  · funext a j
    rw [sR_I, if_neg (fun z => h z.1)]
theorem cMin_10 (σ : Sg) (hn : σ.2.2.2 ≤ 10) (s : Nat) (hs : 10 ≤ s) : (cMin σ).1 s = σ.1 s := by
  have e1 : (cP1 σ).1 s = σ.1 s := cP1_ge σ _ s (by omega)
  have key : ∀ (k : Nat) (ρ : Sg), ρ.2 = σ.2 → k ≤ 10 → (itF (fun u τ => cBring τ u) k ρ).1 s = ρ.1 s := by
    intro k ρ hρ
    induction k with
    | zero => intro _; rfl
    | succ k ih =>
      intro hk
      show (cBring (itF (fun u τ => cBring τ u) k ρ) k).1 s = _
      rw [← ih (by omega)]
      have e2 : (itF (fun u τ => cBring τ u) k ρ).2 = σ.2 := (itF_2 (f := fun u τ => cBring τ u) (fun c τ => cBring_n τ c) ρ _).trans hρ
      generalize itF (fun u τ => cBring τ u) k ρ = τ at e2 ⊢
      have in2 : ∀ p, (itF (cBrS k) p τ).1 s = τ.1 s := by
        intro p
        induction p with
        | zero => rfl
        | succ p ihp =>
          show (cBrS k p (itF (cBrS k) p τ)).1 s = _
          rw [← ihp]
          have e3 : (itF (cBrS k) p τ).2 = τ.2 := itF_2 (f := cBrS k) (fun c τ => cBrS_n k c τ) τ p
          generalize itF (cBrS k) p τ = μ at e3 ⊢
          unfold cBrS
          split
          · next h =>
            have hnm : μ.2.2.2 = σ.2.2.2 := by rw [e3, e2]
            obtain ⟨d, hd, e⟩ := isU_of (by omega) h
            rw [e, tn_nI (by omega)]
            exact cTake_10 _ _ _ _ _ s (by omega)
          · funext a j
            rw [sR_I, if_neg (by omega)]
      exact in2 _
  have e2 : (cP2 (cP1 σ)).1 s = (cP1 σ).1 s := by
    unfold cP2
    exact key _ (cP1 σ) (cP1_n σ) (by rw [cP1_n]; exact hn)
  have key3 : ∀ (k : Nat) (ρ : Sg), k ≤ 10 → (itF cCtF k ρ).1 s = ρ.1 s := by
    intro k ρ
    induction k with
    | zero => intro _; rfl
    | succ k ih =>
      intro hk
      show (cCtF k (itF cCtF k ρ)).1 s = _
      rw [← ih (by omega)]
      unfold cCtF cCtl s_obey
      repeat' split
      all_goals first
        | rfl
        | (funext a j; rw [sI_I, if_neg (by omega)])
  unfold cMin cP3
  rw [key3 _ _ (by rw [cP2_n, cP1_n]; exact hn), e2, e1]
theorem itC_10 (σ : Sg) (hn : σ.2.2.2 ≤ 10) (s : Nat) (hs : 10 ≤ s) : ∀ k, (itC k σ).1 s = σ.1 s
  | 0 => rfl
  | k + 1 => by
    show (cMin (itC k σ)).1 s = _
    rw [cMin_10 _ (by rw [itC_n]; exact hn) s hs, itC_10 σ hn s hs k]
set_option maxHeartbeats 4000000 in
set_option maxRecDepth 100000 in
theorem ct_X10_run (l : Launch) (Ω : OmT) (σ : Sg) (hw : KW σ) (m k : Nat) (h1 : 1 ≤ k) (h2 : k ≤ 60) (em : σ.1 10 0 1 = nI m) (h : m + k ≤ 3000) (hg : ∀ j, j < k → ∀ u, u < σ.2.2.2 → GW (itC j σ) u) : ZM l Ω yX10_run cX10_run 3 (some .int) rm_X10_run [rfO Ω 0, .int (nI k)] (hp Ω σ) (hN σ) (some (.int (nI (m + k)))) (hp Ω (cs_run σ m k)) (hN σ) := by
  refine ZM_of (by decide) (Nat.le_of_ble_eq_true rfl) (fun E hE C hQ => ?_)
  have hn := hw.1
  have loop : ∀ (f j : Nat), j + f = k → ZV l Ω E 0 0 31 [(0, rfO Ω 0), (1, .int (nI k)), (2, .int (nI j))] [] (hp Ω (itC j σ)) (hN σ) := by
    intro f
    induction f with
    | zero =>
      intro j hj
      obtain rfl : j = k := by omega
      have e10 : (itC j σ).1 10 0 1 = nI m := by rw [itC_10 σ hn 10 (by decide)]; exact em
      have e2 := itC_n j σ
      unfold cs_run at hQ
      generalize itC j σ = τ at hQ e10 e2 ⊢
      have hw := hw.of (show τ.2.2 = σ.2.2 by rw [e2])
      have e9 : (sI τ 10 0 1 (nI (m + j))).1 10 0 1 = nI (m + j) := by simp [sI]
      refine z_iload_n (pc := 31) C dX10_run_31 rfl ?_
      refine z_iload_n (pc := 32) C dX10_run_32 rfl ?_
      -- at 33: if_icmpge 
      refine z_icmp_geT (pc := 33) (tgt := 46) C dX10_run_33 (by decide) (by omega) (by omega) (by omega) ?_
      first | refine z_aload_n (pc := 46) C dX10_run_46 rfl ?_ | refine z_aload_nN (pc := 46) C dX10_run_46 rfl ?_
      refine z_dup (pc := 47) C dX10_run_47 rfl ?_
      refine z_getf (pc := 48) C dX10_run_48 zf_X10_28_9 rfl rfl ?_
      -- at 51: iload_1 
      rw [e10]
      refine z_iload_n (pc := 51) C dX10_run_51 rfl ?_
      first | with_reducible refine z_iaddN (pc := 52) C dX10_run_52 ?_ | refine z_iadd (pc := 52) C dX10_run_52 ?_
      refine z_putfI (pc := 53) C dX10_run_53 zp_X10_28_9 rfl (Nat.le_of_ble_eq_true rfl) (hc_put (by exact hw) 1 (by decide)) ?_
      first | refine z_aload_n (pc := 56) C dX10_run_56 rfl ?_ | refine z_aload_nN (pc := 56) C dX10_run_56 rfl ?_
      refine z_getf (pc := 57) C dX10_run_57 zf_X10_28_9 rfl rfl ?_
      -- at 60: ireturn 
      rw [e9]
      exact z_iret (pc := 60) C hQ dX10_run_60 rfl rfl rfl (by decide) (by decide)
    | succ f ih =>
      intro j hj
      have h9 := ih (j + 1) (by omega)
      rw [show itC (j + 1) σ = cMin (itC j σ) from rfl] at h9
      have e2 := itC_n j σ
      have hg9 := hg j (by omega)
      generalize itC j σ = τ at h9 e2 hg9 ⊢
      have e22 : τ.2.2 = σ.2.2 := by rw [e2]
      have hnn : τ.2.2.2 = σ.2.2.2 := by rw [e2]
      have hw := hw.of e22
      refine z_iload_n (pc := 31) C dX10_run_31 rfl ?_
      refine z_iload_n (pc := 32) C dX10_run_32 rfl ?_
      -- at 33: if_icmpge 
      refine z_icmp_geF (pc := 33) (tgt := 46) C dX10_run_33 (by decide) (by omega) (by omega) (by omega) ?_
      first | refine z_aload_n (pc := 36) C dX10_run_36 rfl ?_ | refine z_aload_nN (pc := 36) C dX10_run_36 rfl ?_
      -- at 37: invokevirtual Method passMinute:()V
      refine z_callV (pc := 37) (ci := 9) C dX10_run_37 zy_X10_passMinute kw_338 kw_339 rfl kw_833 rfl (zM_n (hN_eq e22) (ct_X10_passMinute l Ω τ hw (fun u hu => hg9 u (by rw [← hnn]; exact hu)))) rfl rfl ⟨⟨by decide, by decide⟩, by decide, by decide⟩ (Nat.le_of_ble_eq_true rfl) ?_; dsimp only [Option.toList_none, List.nil_append]
      first | refine z_iincN (pc := 40) C dX10_run_40 rfl (by rw [hE]; decide) ?_ | refine z_iinc (pc := 40) C dX10_run_40 rfl rfl (by rw [hE]; decide) ?_
      refine z_goto (pc := 43) (tgt := 31) C dX10_run_43 (by decide) ?_
      -- at 31
      exact h9
  refine z_iload_n (pc := 0) C dX10_run_0 rfl ?_
  refine z_iconst (pc := 1) (v := nI 1) C dX10_run_1 (by decide) ?_
  -- at 2: if_icmplt 
  refine z_icmp_ltF (pc := 2) (tgt := 11) C dX10_run_2 (by decide) (by omega) (by omega) (by omega) ?_
  refine z_iload_n (pc := 5) C dX10_run_5 rfl ?_
  refine z_bipush (pc := 6) (v := nI 60) C dX10_run_6 (by decide) ?_
  -- at 8: if_icmple 
  refine z_icmp_leT (pc := 8) (tgt := 14) C dX10_run_8 (by decide) (by omega) (by omega) (by omega) ?_
  first | refine z_aload_n (pc := 14) C dX10_run_14 rfl ?_ | refine z_aload_nN (pc := 14) C dX10_run_14 rfl ?_
  refine z_getf (pc := 15) C dX10_run_15 zf_X10_28_9 rfl rfl ?_; rw [em]
  refine z_iload_n (pc := 18) C dX10_run_18 rfl ?_
  first | with_reducible refine z_iaddN (pc := 19) C dX10_run_19 ?_ | refine z_iadd (pc := 19) C dX10_run_19 ?_
  refine z_sipush (pc := 20) (v := nI 3000) C dX10_run_20 (by decide) ?_
  -- at 23: if_icmple 
  refine z_icmp_leT (pc := 23) (tgt := 29) C dX10_run_23 (by decide) (by omega) (by omega) (by omega) ?_
  refine z_iconst (pc := 29) (v := nI 0) C dX10_run_29 (by decide) ?_
  refine z_istore_n (pc := 30) C dX10_run_30 (by rw [hE]; decide) ?_
  -- at 31: iload_2 
  exact loop k 0 (by omega)
