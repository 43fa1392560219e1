/-! ===== the class: feeds, joins, mills ===== -/
set_option maxHeartbeats 4000000 in
set_option maxRecDepth 100000 in
theorem ct_X1_controlBy (l : Launch) (Ω : OmT) (σ : Sg) (hw : KW σ) (i : Nat) (hi : i < σ.2.2.2) (hq : σ.2.2.1 i = 0) (u a b : Int32) : ZM l Ω yX1_controlBy cX1_controlBy 4 none rm_X1_controlBy [rfO Ω (bs σ.2.2.1 i), .int u, .int a, .int b] (hp Ω σ) (hN σ) (none) (hp Ω (sI (sI (sI σ i 8 1 u) i 8 2 a) i 8 3 b)) (hN σ) := by
  refine ZM_of (by decide) (Nat.le_of_ble_eq_true rfl) (fun E hE C hQ => ?_)
  first | refine z_aload_n (pc := 0) C dX1_controlBy_0 rfl ?_ | refine z_aload_nN (pc := 0) C dX1_controlBy_0 rfl ?_
  refine z_iload_n (pc := 1) C dX1_controlBy_1 rfl ?_
  refine z_putfI (pc := 2) C dX1_controlBy_2 zp_X1_19_1 (hk_0 (κ := 0) (by exact hi) (by exact hq)) (Nat.le_of_ble_eq_true rfl) (hk_put (κ := 0) (by exact hw) (by exact hi) (by exact hq) 9 1 (by decide)) ?_
  first | refine z_aload_n (pc := 5) C dX1_controlBy_5 rfl ?_ | refine z_aload_nN (pc := 5) C dX1_controlBy_5 rfl ?_
  refine z_iload_n (pc := 6) C dX1_controlBy_6 rfl ?_
  refine z_putfI (pc := 7) C dX1_controlBy_7 zp_X1_23_1 (hk_0 (κ := 0) (by exact hi) (by exact hq)) (Nat.le_of_ble_eq_true rfl) (hk_put (κ := 0) (by exact hw) (by exact hi) (by exact hq) 10 2 (by decide)) ?_
  first | refine z_aload_n (pc := 10) C dX1_controlBy_10 rfl ?_ | refine z_aload_nN (pc := 10) C dX1_controlBy_10 rfl ?_
  refine z_iload_n (pc := 11) C dX1_controlBy_11 rfl ?_
  refine z_putfI (pc := 12) C dX1_controlBy_12 zp_X1_26_1 (hk_0 (κ := 0) (by exact hi) (by exact hq)) (Nat.le_of_ble_eq_true rfl) (hk_put (κ := 0) (by exact hw) (by exact hi) (by exact hq) 11 3 (by decide)) ?_
  -- at 15: return 
  exact z_vret (pc := 15) C hQ dX1_controlBy_15 rfl rfl rfl (by decide) (by decide)
def s_obey (σ : Sg) (i : Nat) (v : Int32) : Sg := if σ.1 i 8 2 < v then sI σ i 8 0 (nI 0) else if v < σ.1 i 8 3 then sI σ i 8 0 (nI 1) else σ
set_option maxHeartbeats 4000000 in
set_option maxRecDepth 100000 in
theorem ct_X1_obey (l : Launch) (Ω : OmT) (σ : Sg) (hw : KW σ) (i : Nat) (hi : i < σ.2.2.2) (hq : σ.2.2.1 i = 0) (v : Int32) : ZM l Ω yX1_obey cX1_obey 2 none rm_X1_obey [rfO Ω (bs σ.2.2.1 i), .int v] (hp Ω σ) (hN σ) (none) (hp Ω (s_obey σ i v)) (hN σ) := by
  refine ZM_of (by decide) (Nat.le_of_ble_eq_true rfl) (fun E hE C hQ => ?_)
  refine z_iload_n (pc := 0) C dX1_obey_0 rfl ?_
  first | refine z_aload_n (pc := 1) C dX1_obey_1 rfl ?_ | refine z_aload_nN (pc := 1) C dX1_obey_1 rfl ?_
  refine z_getf (pc := 2) C dX1_obey_2 zf_X1_23_1 (hk_0 (κ := 0) (by exact hi) (by exact hq)) rfl ?_
  -- at 5: if_icmple 
  refine z_icmp_le (pc := 5) (tgt := 16) C dX1_obey_5 (by decide) (fun h => ?_) (fun h => ?_)
  · have h1 : ¬ σ.1 i 8 2 < v := Int32.not_lt.mpr h
    refine z_iload_n (pc := 16) C dX1_obey_16 rfl ?_
    first | refine z_aload_n (pc := 17) C dX1_obey_17 rfl ?_ | refine z_aload_nN (pc := 17) C dX1_obey_17 rfl ?_
    refine z_getf (pc := 18) C dX1_obey_18 zf_X1_26_1 (hk_0 (κ := 0) (by exact hi) (by exact hq)) rfl ?_
    -- at 21: if_icmpge 
    refine z_icmp_ge (pc := 21) (tgt := 29) C dX1_obey_21 (by decide) (fun h2 => ?_) (fun h2 => ?_)
    · exact z_vret (pc := 29) C hQ dX1_obey_29 rfl (by unfold s_obey; rw [if_neg h1, if_neg (Int32.not_lt.mpr h2)]) rfl (by decide) (by decide)
    · first | refine z_aload_n (pc := 24) C dX1_obey_24 rfl ?_ | refine z_aload_nN (pc := 24) C dX1_obey_24 rfl ?_
      refine z_iconst (pc := 25) (v := nI 1) C dX1_obey_25 (by decide) ?_
      refine z_putf (pc := 26) C dX1_obey_26 zp_X1_15_1 (hk_0 (κ := 0) (by exact hi) (by exact hq)) (Nat.le_of_ble_eq_true rfl) (by first | rfl | exact b01_nar _) rfl rfl (hk_put (κ := 0) (by exact hw) (by exact hi) (by exact hq) 8 0 (by decide)) ?_
      -- at 29: return 
      exact z_vret (pc := 29) C hQ dX1_obey_29 rfl (by unfold s_obey; rw [if_neg h1, if_pos (Int32.not_le.mp h2)]) rfl (by decide) (by decide)
  · first | refine z_aload_n (pc := 8) C dX1_obey_8 rfl ?_ | refine z_aload_nN (pc := 8) C dX1_obey_8 rfl ?_
    refine z_iconst (pc := 9) (v := nI 0) C dX1_obey_9 (by decide) ?_
    refine z_putf (pc := 10) C dX1_obey_10 zp_X1_15_1 (hk_0 (κ := 0) (by exact hi) (by exact hq)) (Nat.le_of_ble_eq_true rfl) (by first | rfl | exact b01_nar _) rfl rfl (hk_put (κ := 0) (by exact hw) (by exact hi) (by exact hq) 8 0 (by decide)) ?_
    refine z_goto (pc := 13) (tgt := 29) C dX1_obey_13 (by decide) ?_
    -- at 29: return 
    exact z_vret (pc := 29) C hQ dX1_obey_29 rfl (by unfold s_obey; rw [if_pos (Int32.not_le.mp h)]) rfl (by decide) (by decide)
def cFd1 (σ : Sg) (i : Nat) : Sg := sR σ i 10 (fun j => if j < 8 then σ.1 i 3 j else σ.1 i 10 j)
def cFdS (σ : Sg) (i s : Nat) (τ : Sg) : Sg := sI τ i 6 s (τ.1 i 6 s + l_sum (fun j => σ.1 i 3 (2 * j + s)) 4)
def cFeed (σ : Sg) (i : Nat) : Sg := if σ.1 i 8 0 = 0 then sR σ i 10 (zerR 8 (σ.1 i 10)) else itF (cFdS σ i) 2 (cFd1 σ i)
set_option maxHeartbeats 4000000 in
set_option maxRecDepth 100000 in
theorem ct_X1_give (l : Launch) (Ω : OmT) (σ : Sg) (hw : KW σ) (i : Nat) (hi : i < σ.2.2.2) (hq : σ.2.2.1 i = 0) : ZM l Ω yX1_give cX1_give 2 none rm_X1_give [rfO Ω (bs σ.2.2.1 i)] (hp Ω σ) (hN σ) (none) (hp Ω (cFeed σ i)) (hN σ) := by
  refine ZM_of (by decide) (Nat.le_of_ble_eq_true rfl) (fun E hE C hQ => ?_)
  first | refine z_aload_n (pc := 0) C dX1_give_0 rfl ?_ | refine z_aload_nN (pc := 0) C dX1_give_0 rfl ?_
  refine z_getf (pc := 1) C dX1_give_1 zf_X1_15_1 (hk_0 (κ := 0) (by exact hi) (by exact hq)) rfl ?_
  -- at 4: ifne 
  refine z_if_ne (pc := 4) (tgt := 18) C dX1_give_4 (by decide) (fun h => ?_) (fun h => ?_)
  · have loop : ∀ (k s : Nat), s + k = 2 → ZV l Ω E 0 0 37 [(0, rfO Ω (bs σ.2.2.1 i)), (1, .int (nI s))] [] (hp Ω (itF (cFdS σ i) s (cFd1 σ i))) (hN σ) := by
      intro k
      induction k with
      | zero =>
        intro s hs
        obtain rfl : s = 2 := by omega
        refine z_iload_n (pc := 37) C dX1_give_37 rfl ?_
        refine z_iconst (pc := 38) (v := nI 2) C dX1_give_38 (by decide) ?_
        -- at 39: if_icmpge 
        refine z_icmp_geT (pc := 39) (tgt := 65) C dX1_give_39 (by decide) (by omega) (by omega) (by omega) ?_
        exact z_vret (pc := 65) C hQ dX1_give_65 rfl (by unfold cFeed; rw [if_neg h]) rfl (by decide) (by decide)
      | succ k ih =>
        intro s hs
        have ih9 := ih (s + 1) (by omega)
        rw [show itF (cFdS σ i) (s + 1) (cFd1 σ i) = cFdS σ i s (itF (cFdS σ i) s (cFd1 σ i)) from rfl] at ih9
        have e3 : (itF (cFdS σ i) s (cFd1 σ i)).1 i 3 = σ.1 i 3 := by
          rw [itF_row (f := cFdS σ i) (fun τ => τ.1 i 3) (fun c τ => by funext j; simp [cFdS, sI])]
          funext j
          simp [cFd1, sR]
        have e22 : (itF (cFdS σ i) s (cFd1 σ i)).2.2 = σ.2.2 := by
          rw [itF_n (f := cFdS σ i) (fun _ _ => rfl)]
          rfl
        generalize hτ : itF (cFdS σ i) s (cFd1 σ i) = τ at ih9 e3 e22
        have hw' : KW τ := hw.of e22
        have hi' : i < τ.2.2.2 := by rw [e22]; exact hi
        have hq' : τ.2.2.1 i = 0 := by rw [e22]; exact hq
        have eb : σ.2.2.1 = τ.2.2.1 := by rw [e22]
        rw [eb] at ih9 ⊢
        unfold cFdS at ih9
        rw [← e3] at ih9
        have hw := hw'
        refine z_iload_n (pc := 37) C dX1_give_37 rfl ?_
        refine z_iconst (pc := 38) (v := nI 2) C dX1_give_38 (by decide) ?_
        -- at 39: if_icmpge 
        refine z_icmp_geF (pc := 39) (tgt := 65) C dX1_give_39 (by decide) (by omega) (by omega) (by omega) ?_
        first | refine z_aload_n (pc := 42) C dX1_give_42 rfl ?_ | refine z_aload_nN (pc := 42) C dX1_give_42 rfl ?_
        refine z_getf (pc := 43) C dX1_give_43 zf_X1_9_1 (hk_0 (κ := 0) (by exact hi') (by exact hq')) rfl ?_
        refine z_iload_n (pc := 46) C dX1_give_46 rfl ?_
        refine z_dup2 (pc := 47) C dX1_give_47 rfl rfl ?_
        refine z_iald (pc := 48) C dX1_give_48 (Rw.get (rw_fed (by exact hw) (by exact hi') (by exact hq'))) (by first | omega | decide) (by first | decide | omega) rfl ?_
        first | refine z_aload_n (pc := 49) C dX1_give_49 rfl ?_ | refine z_aload_nN (pc := 49) C dX1_give_49 rfl ?_
        refine z_getf (pc := 50) C dX1_give_50 zf_X1_39_1 (hk_0 (κ := 0) (by exact hi') (by exact hq')) rfl ?_
        refine z_iload_n (pc := 53) C dX1_give_53 rfl ?_
        refine z_callSN (pc := 54) C dX1_give_54 zy_X10_totalOfStuff (by decide +kernel) kw_353 (ct_stuffR l Ω τ _ (rw_nums hw' hi' hq') (by decide) (by omega)) rfl rfl ⟨⟨by decide, by decide⟩, by decide, by decide⟩ (Nat.le_of_ble_eq_true rfl) ?_; dsimp only [Option.toList_some, List.cons_append, List.nil_append]
        first | with_reducible refine z_iaddN (pc := 57) C dX1_give_57 ?_ | refine z_iadd (pc := 57) C dX1_give_57 ?_
        refine z_iast (pc := 58) C dX1_give_58 (Rw.get (rw_fed (by exact hw) (by exact hi') (by exact hq'))) (by first | omega | decide) (by first | decide | omega) (Rw.el (rw_fed (by exact hw) (by exact hi') (by exact hq'))) ?_
        first | refine z_iincN (pc := 59) C dX1_give_59 rfl (by rw [hE]; decide) ?_ | refine z_iinc (pc := 59) C dX1_give_59 rfl rfl (by rw [hE]; decide) ?_
        refine z_goto (pc := 62) (tgt := 37) C dX1_give_62 (by decide) ?_
        -- at 37
        exact ih9
    first | refine z_aload_n (pc := 18) C dX1_give_18 rfl ?_ | refine z_aload_nN (pc := 18) C dX1_give_18 rfl ?_
    refine z_getf (pc := 19) C dX1_give_19 zf_X1_39_1 (hk_0 (κ := 0) (by exact hi) (by exact hq)) rfl ?_
    refine z_iconst (pc := 22) (v := nI 0) C dX1_give_22 (by decide) ?_
    first | refine z_aload_n (pc := 23) C dX1_give_23 rfl ?_ | refine z_aload_nN (pc := 23) C dX1_give_23 rfl ?_
    refine z_getf (pc := 24) C dX1_give_24 zf_X1_29_1 (hk_0 (κ := 0) (by exact hi) (by exact hq)) rfl ?_
    refine z_iconst (pc := 27) (v := nI 0) C dX1_give_27 (by decide) ?_
    refine z_aald (pc := 28) C dX1_give_28 (hk_given (κ := 0) (by exact hi) (by exact hq)) (Or.inr rfl) (by first | decide | omega) (by first | decide | omega) ?_
    refine z_iconst (pc := 29) (v := nI 0) C dX1_give_29 (by decide) ?_
    refine z_bipush (pc := 30) (v := nI 8) C dX1_give_30 (by decide) ?_
    -- at 32: invokestatic Method java/lang/System.arraycopy:(Ljava/lang/Object;ILjava/lang/Object;II)V
    refine z_copy (pc := 32) (K := 8) C dX1_give_32 kw_350 kw_352 kw_351 kw_15 (Rw.get (rw_nums hw hi hq)) (Rw.get (rw_giv0 hw hi hq (by decide))) (by decide) (by decide) (by decide) (by decide) (Nat.le_of_ble_eq_true rfl) ?_
    refine z_heap (Rw.row (rw_giv0 hw hi hq (by decide))) rfl ?_
    refine z_iconst (pc := 35) (v := nI 0) C dX1_give_35 (by decide) ?_
    refine z_istore_n (pc := 36) C dX1_give_36 (by rw [hE]; decide) ?_
    -- at 37: iload_1 
    exact loop 2 0 rfl
  · first | refine z_aload_n (pc := 7) C dX1_give_7 rfl ?_ | refine z_aload_nN (pc := 7) C dX1_give_7 rfl ?_
    refine z_getf (pc := 8) C dX1_give_8 zf_X1_29_1 (hk_0 (κ := 0) (by exact hi) (by exact hq)) rfl ?_
    refine z_iconst (pc := 11) (v := nI 0) C dX1_give_11 (by decide) ?_
    refine z_aald (pc := 12) C dX1_give_12 (hk_given (κ := 0) (by exact hi) (by exact hq)) (Or.inr rfl) (by first | decide | omega) (by first | decide | omega) ?_
    refine z_iconst (pc := 13) (v := nI 0) C dX1_give_13 (by decide) ?_
    refine z_callS (pc := 14) C dX1_give_14 zy_J7_fill_53178 kw_349 kw_64 (ct_zerR l Ω σ _ (rw_giv0 hw hi hq (by decide))) rfl rfl ⟨⟨by decide, by decide⟩, by decide, by decide⟩ (Nat.le_of_ble_eq_true rfl) ?_; dsimp only [Option.toList_none, List.nil_append]
    -- at 17: return 
    exact z_vret (pc := 17) C hQ dX1_give_17 rfl (by unfold cFeed; rw [if_pos h]) rfl (by decide) (by decide)
def cJoin (σ : Sg) (i : Nat) : Sg := mvR (sR σ i 10 (zerR 8 (σ.1 i 10))) i 0 8 i 10
set_option maxHeartbeats 4000000 in
set_option maxRecDepth 100000 in
theorem ct_X2_give (l : Launch) (Ω : OmT) (σ : Sg) (hw : KW σ) (i : Nat) (hi : i < σ.2.2.2) (hq : σ.2.2.1 i = 1) : ZM l Ω yX2_give cX2_give 1 none rm_X2_give [rfO Ω (bs σ.2.2.1 i)] (hp Ω σ) (hN σ) (none) (hp Ω (cJoin σ i)) (hN σ) := by
  refine ZM_of (by decide) (Nat.le_of_ble_eq_true rfl) (fun E hE C hQ => ?_)
  first | refine z_aload_n (pc := 0) C dX2_give_0 rfl ?_ | refine z_aload_nN (pc := 0) C dX2_give_0 rfl ?_
  refine z_getf (pc := 1) C dX2_give_1 zf_X2_9_2 (hk_0 (κ := 1) (by exact hi) (by exact hq)) rfl ?_
  refine z_iconst (pc := 4) (v := nI 0) C dX2_give_4 (by decide) ?_
  refine z_aald (pc := 5) C dX2_give_5 (hk_given (κ := 1) (by exact hi) (by exact hq)) (Or.inr rfl) (by first | decide | omega) (by first | decide | omega) ?_
  refine z_iconst (pc := 6) (v := nI 0) C dX2_give_6 (by decide) ?_
  refine z_callS (pc := 7) C dX2_give_7 zy_J7_fill_53178 kw_358 kw_64 (ct_zerR l Ω σ _ (rw_giv0 hw hi hq (by decide))) rfl rfl ⟨⟨by decide, by decide⟩, by decide, by decide⟩ (Nat.le_of_ble_eq_true rfl) ?_; dsimp only [Option.toList_none, List.nil_append]
  first | refine z_aload_n (pc := 10) C dX2_give_10 rfl ?_ | refine z_aload_nN (pc := 10) C dX2_give_10 rfl ?_
  refine z_getf (pc := 11) C dX2_give_11 zf_X2_21_2 (hk_0 (κ := 1) (by exact hi) (by exact hq)) rfl ?_
  first | refine z_aload_n (pc := 14) C dX2_give_14 rfl ?_ | refine z_aload_nN (pc := 14) C dX2_give_14 rfl ?_
  refine z_getf (pc := 15) C dX2_give_15 zf_X2_9_2 (hk_0 (κ := 1) (by exact hi) (by exact hq)) rfl ?_
  refine z_iconst (pc := 18) (v := nI 0) C dX2_give_18 (by decide) ?_
  refine z_aald (pc := 19) C dX2_give_19 (hk_given (κ := 1) (by exact hi) (by exact hq)) (Or.inr rfl) (by first | decide | omega) (by first | decide | omega) ?_
  refine z_callSN (pc := 20) C dX2_give_20 zy_X10_move (by decide +kernel) kw_359 (ct_X10_move_R l Ω (sR σ i 10 (zerR 8 (σ.1 i 10))) _ (i := i) (i' := i) (rw_held hw hi) (rw_giv0 hw hi hq (by decide)) (by omega) (by omega) (by decide) (by decide)) rfl rfl ⟨⟨by decide, by decide⟩, by decide, by decide⟩ (Nat.le_of_ble_eq_true rfl) ?_; dsimp only [Option.toList_none, List.nil_append]
  -- at 23: return 
  exact z_vret (pc := 23) C hQ dX2_give_23 rfl rfl rfl (by decide) (by decide)
