/-! ===== the class: tanks ===== -/
set_option maxHeartbeats 4000000 in
set_option maxRecDepth 100000 in
theorem ct_X8_slotOfAge (l : Launch) (Ω : OmT) (σ : Sg) (i : Nat) (hi : i < σ.2.2.2) (hq : σ.2.2.1 i = 5) (T a : Nat) (hT : T < 6) (eT : σ.1 i 8 4 = nI T) (h1 : 1 ≤ a) (h6 : a ≤ 6) : ZM l Ω yX8_slotOfAge cX8_slotOfAge 2 (some .int) rm_X8_slotOfAge [rfO Ω (bs σ.2.2.1 i), .int (nI a)] (hp Ω σ) (hN σ) (some (.int (nI ((T + 6 - (a - 1)) % 6)))) (hp Ω σ) (hN σ) := by
  refine ZM_of (by decide) (Nat.le_of_ble_eq_true rfl) (fun E hE C hQ => ?_)
  first | refine z_aload_n (pc := 0) C dX8_slotOfAge_0 rfl ?_ | refine z_aload_nN (pc := 0) C dX8_slotOfAge_0 rfl ?_
  refine z_getf (pc := 1) C dX8_slotOfAge_1 zf_X8_16_8 (hk_0 (κ := 5) (by exact hi) (by exact hq)) rfl ?_
  -- at 4: iload_1 
  rw [eT]
  refine z_iload_n (pc := 4) C dX8_slotOfAge_4 rfl ?_
  refine z_iconst (pc := 5) (v := nI 1) C dX8_slotOfAge_5 (by decide) ?_
  first | with_reducible refine z_isubN (pc := 6) C dX8_slotOfAge_6 (by omega) ?_ | refine z_isub (pc := 6) C dX8_slotOfAge_6 ?_
  -- at 7: isub 
  refine z_isub (pc := 7) C dX8_slotOfAge_7 ?_
  refine z_bipush (pc := 8) (v := nI 6) C dX8_slotOfAge_8 (by decide) ?_
  refine z_callS (pc := 10) C dX8_slotOfAge_10 zy_J9_floorMod_7cf53 kw_394 kw_395 (ct_J9_floorMod_7cf53 l Ω _ _ T (a - 1) hT (by omega)) rfl rfl ⟨⟨by decide, by decide⟩, by decide, by decide⟩ (Nat.le_of_ble_eq_true rfl) ?_; dsimp only [Option.toList_some, List.cons_append, List.nil_append]
  -- at 13: ireturn 
  exact z_iret (pc := 13) C hQ dX8_slotOfAge_13 rfl rfl rfl (by decide) (by decide)
def cTk0 (σ : Sg) (i T : Nat) : Sg := mvR (sI (sR σ i 10 (zerR 8 (σ.1 i 10))) i 8 4 (nI T)) i 0 8 i (20 + T)
def cTkS (i T t q : Nat) (τ : Sg) : Sg := mvR τ i (20 + (T + 6 - (t + q - 1)) % 6) 8 i 10
def cTank (σ : Sg) (i T t : Nat) : Sg := itF (cTkS i ((T + 1) % 6) t) (7 - t) (cTk0 σ i ((T + 1) % 6))
theorem mvR_n (τ : Sg) (i a N i' a' : Nat) : (mvR τ i a N i' a').2 = τ.2 := rfl
theorem mvR_ne (τ : Sg) (i a N i' a' s b : Nat) (h1 : ¬ (s = i ∧ b = a)) (h2 : ¬ (s = i' ∧ b = a')) : (mvR τ i a N i' a').1 s b = τ.1 s b := by
  funext j
  unfold mvR
  rw [sR_I, if_neg h1, sR_I, if_neg h2]
set_option maxHeartbeats 4000000 in
set_option maxRecDepth 100000 in
theorem ct_X8_give (l : Launch) (Ω : OmT) (σ : Sg) (hw : KW σ) (i : Nat) (hi : i < σ.2.2.2) (hq : σ.2.2.1 i = 5) (T t : Nat) (hT : T < 6) (eT : σ.1 i 8 4 = nI T) (h1 : 1 ≤ t) (h6 : t ≤ 6) (et : σ.1 i 3 0 = nI t) : ZM l Ω yX8_give cX8_give 2 none rm_X8_give [rfO Ω (bs σ.2.2.1 i)] (hp Ω σ) (hN σ) (none) (hp Ω (cTank σ i T t)) (hN σ) := by
  refine ZM_of (by decide) (Nat.le_of_ble_eq_true rfl) (fun E hE C hQ => ?_)
  unfold cTank at hQ
  have hT' : (T + 1) % 6 < 6 := Nat.mod_lt _ (by decide)
  have loop : ∀ (k q : Nat), q + k = 7 - t → ZV l Ω E 0 0 46 [(0, rfO Ω (bs σ.2.2.1 i)), (1, .int (nI (t + q)))] [] (hp Ω (itF (cTkS i ((T + 1) % 6) t) q (cTk0 σ i ((T + 1) % 6)))) (hN σ) := by
    intro k
    induction k with
    | zero =>
      intro q hk
      obtain rfl : q = 7 - t := by omega
      refine z_iload_n (pc := 46) C dX8_give_46 rfl ?_
      refine z_bipush (pc := 47) (v := nI 6) C dX8_give_47 (by decide) ?_
      -- at 49: if_icmpgt 
      refine z_icmp_gtT (pc := 49) (tgt := 77) C dX8_give_49 (by decide) (by omega) (by omega) (by omega) ?_
      exact z_vret (pc := 77) C hQ dX8_give_77 rfl rfl rfl (by decide) (by decide)
    | succ k ih =>
      intro q hk
      have h9 := ih (q + 1) (by omega)
      rw [show itF (cTkS i ((T + 1) % 6) t) (q + 1) (cTk0 σ i ((T + 1) % 6)) = cTkS i ((T + 1) % 6) t q (itF (cTkS i ((T + 1) % 6) t) q (cTk0 σ i ((T + 1) % 6))) from rfl] at h9
      have e22 : (itF (cTkS i ((T + 1) % 6) t) q (cTk0 σ i ((T + 1) % 6))).2.2 = σ.2.2 := by
        rw [itF_n (f := cTkS i ((T + 1) % 6) t) (fun _ _ => rfl)]
        rfl
      have e8 : (itF (cTkS i ((T + 1) % 6) t) q (cTk0 σ i ((T + 1) % 6))).1 i 8 4 = nI ((T + 1) % 6) := by
        have h := itF_row (f := cTkS i ((T + 1) % 6) t) (fun τ => τ.1 i 8) (fun c τ => mvR_ne τ i _ 8 i 10 i 8 (by omega) (by omega)) (cTk0 σ i ((T + 1) % 6)) q
        rw [show (itF (cTkS i ((T + 1) % 6) t) q (cTk0 σ i ((T + 1) % 6))).1 i 8 = (cTk0 σ i ((T + 1) % 6)).1 i 8 from h]
        unfold cTk0
        rw [mvR_ne _ i 0 8 i _ i 8 (by omega) (by omega)]
        simp [sI]
      generalize itF (cTkS i ((T + 1) % 6) t) q (cTk0 σ i ((T + 1) % 6)) = τ at h9 e22 e8 ⊢
      obtain ⟨hw, hi, hq, eb⟩ := st_of e22 hw hi hq
      have en := hN_eq e22
      rw [eb] at h9 ⊢
      unfold cTkS at h9
      have hS : ((T + 1) % 6 + 6 - (t + q - 1)) % 6 < 6 := Nat.mod_lt _ (by decide)
      refine z_iload_n (pc := 46) C dX8_give_46 rfl ?_
      refine z_bipush (pc := 47) (v := nI 6) C dX8_give_47 (by decide) ?_
      -- at 49: if_icmpgt 
      refine z_icmp_gtF (pc := 49) (tgt := 77) C dX8_give_49 (by decide) (by omega) (by omega) (by omega) ?_
      first | refine z_aload_n (pc := 52) C dX8_give_52 rfl ?_ | refine z_aload_nN (pc := 52) C dX8_give_52 rfl ?_
      refine z_getf (pc := 53) C dX8_give_53 zf_X8_13_8 (hk_0 (κ := 5) (by exact hi) (by exact hq)) rfl ?_
      first | refine z_aload_n (pc := 56) C dX8_give_56 rfl ?_ | refine z_aload_nN (pc := 56) C dX8_give_56 rfl ?_
      refine z_iload_n (pc := 57) C dX8_give_57 rfl ?_
      refine z_callV (pc := 58) (ci := 8) C dX8_give_58 zy_X8_slotOfAge kw_391 kw_392 rfl kw_837 (hk_0 (κ := 5) (by exact hi) (by exact hq)) (zM_n en (ct_X8_slotOfAge l Ω τ i hi hq ((T + 1) % 6) (t + q) hT' e8 (by omega) (by omega))) rfl rfl ⟨⟨by decide, by decide⟩, by decide, by decide⟩ (Nat.le_of_ble_eq_true rfl) ?_; dsimp only [Option.toList_some, List.cons_append, List.nil_append]
      refine z_aald (pc := 61) C dX8_give_61 (hk_slots (by exact hi) (by exact hq)) (Or.inr rfl) (by first | decide | omega) (by first | decide | omega) ?_
      first | refine z_aload_n (pc := 62) C dX8_give_62 rfl ?_ | refine z_aload_nN (pc := 62) C dX8_give_62 rfl ?_
      refine z_getf (pc := 63) C dX8_give_63 zf_X8_20_8 (hk_0 (κ := 5) (by exact hi) (by exact hq)) rfl ?_
      refine z_iconst (pc := 66) (v := nI 0) C dX8_give_66 (by decide) ?_
      refine z_aald (pc := 67) C dX8_give_67 (hk_given (κ := 5) (by exact hi) (by exact hq)) (Or.inr rfl) (by first | decide | omega) (by first | decide | omega) ?_
      refine z_callSN (pc := 68) C dX8_give_68 zy_X10_move (by decide +kernel) kw_359 (ct_X10_move_R l Ω τ _ (i := i) (i' := i) (rw_slot hw hi hq hS) (rw_giv0 hw hi hq (by decide)) (by omega) (by omega) (by decide) (by decide)) rfl rfl ⟨⟨by decide, by decide⟩, by decide, by decide⟩ (Nat.le_of_ble_eq_true rfl) ?_; dsimp only [Option.toList_none, List.nil_append]
      first | refine z_iincN (pc := 71) C dX8_give_71 rfl (by rw [hE]; decide) ?_ | refine z_iinc (pc := 71) C dX8_give_71 rfl rfl (by rw [hE]; decide) ?_
      refine z_goto (pc := 74) (tgt := 46) C dX8_give_74 (by decide) ?_
      -- at 46
      exact h9
  have ea : (sR σ i 10 (zerR 8 (σ.1 i 10))).1 i 8 4 = nI T := by rw [sR_I, if_neg (by omega)]; exact eT
  have eb : (sI (sR σ i 10 (zerR 8 (σ.1 i 10))) i 8 4 (nI ((T + 1) % 6))).1 i 8 4 = nI ((T + 1) % 6) := by simp [sI]
  have ec : (mvR (sI (sR σ i 10 (zerR 8 (σ.1 i 10))) i 8 4 (nI ((T + 1) % 6))) i 0 8 i (20 + (T + 1) % 6)).1 i 3 0 = nI t := by
    rw [mvR_ne _ i 0 8 i _ i 3 (by omega) (by omega)]
    simp [sI, sR, et]
  first | refine z_aload_n (pc := 0) C dX8_give_0 rfl ?_ | refine z_aload_nN (pc := 0) C dX8_give_0 rfl ?_
  refine z_getf (pc := 1) C dX8_give_1 zf_X8_20_8 (hk_0 (κ := 5) (by exact hi) (by exact hq)) rfl ?_
  refine z_iconst (pc := 4) (v := nI 0) C dX8_give_4 (by decide) ?_
  refine z_aald (pc := 5) C dX8_give_5 (hk_given (κ := 5) (by exact hi) (by exact hq)) (Or.inr rfl) (by first | decide | omega) (by first | decide | omega) ?_
  refine z_iconst (pc := 6) (v := nI 0) C dX8_give_6 (by decide) ?_
  refine z_callS (pc := 7) C dX8_give_7 zy_J7_fill_53178 kw_390 kw_64 (ct_zerR l Ω σ _ (rw_giv0 hw hi hq (by decide))) rfl rfl ⟨⟨by decide, by decide⟩, by decide, by decide⟩ (Nat.le_of_ble_eq_true rfl) ?_; dsimp only [Option.toList_none, List.nil_append]
  first | refine z_aload_n (pc := 10) C dX8_give_10 rfl ?_ | refine z_aload_nN (pc := 10) C dX8_give_10 rfl ?_
  first | refine z_aload_n (pc := 11) C dX8_give_11 rfl ?_ | refine z_aload_nN (pc := 11) C dX8_give_11 rfl ?_
  refine z_getf (pc := 12) C dX8_give_12 zf_X8_16_8 (hk_0 (κ := 5) (by exact hi) (by exact hq)) rfl ?_
  -- at 15: iconst_1 
  rw [ea]
  refine z_iconst (pc := 15) (v := nI 1) C dX8_give_15 (by decide) ?_
  first | with_reducible refine z_iaddN (pc := 16) C dX8_give_16 ?_ | refine z_iadd (pc := 16) C dX8_give_16 ?_
  refine z_bipush (pc := 17) (v := nI 6) C dX8_give_17 (by decide) ?_
  first | with_reducible refine z_iremN (pc := 19) C dX8_give_19 (by omega) (by decide) (by decide) ?_ | refine z_irem (pc := 19) C dX8_give_19 (by decide) ?_
  refine z_putfI (pc := 20) C dX8_give_20 zp_X8_16_8 (hk_0 (κ := 5) (by exact hi) (by exact hq)) (Nat.le_of_ble_eq_true rfl) (hk_put (κ := 5) (by exact hw) (by exact hi) (by exact hq) 8 4 (by decide)) ?_
  first | refine z_aload_n (pc := 23) C dX8_give_23 rfl ?_ | refine z_aload_nN (pc := 23) C dX8_give_23 rfl ?_
  refine z_getf (pc := 24) C dX8_give_24 zf_X8_29_8 (hk_0 (κ := 5) (by exact hi) (by exact hq)) rfl ?_
  first | refine z_aload_n (pc := 27) C dX8_give_27 rfl ?_ | refine z_aload_nN (pc := 27) C dX8_give_27 rfl ?_
  refine z_getf (pc := 28) C dX8_give_28 zf_X8_13_8 (hk_0 (κ := 5) (by exact hi) (by exact hq)) rfl ?_
  first | refine z_aload_n (pc := 31) C dX8_give_31 rfl ?_ | refine z_aload_nN (pc := 31) C dX8_give_31 rfl ?_
  refine z_getf (pc := 32) C dX8_give_32 zf_X8_16_8 (hk_0 (κ := 5) (by exact hi) (by exact hq)) rfl ?_
  -- at 35: aaload 
  rw [eb]
  refine z_aald (pc := 35) C dX8_give_35 (hk_slots (by exact hi) (by exact hq)) (Or.inr rfl) (by first | decide | omega) (by first | decide | omega) ?_
  refine z_callSN (pc := 36) C dX8_give_36 zy_X10_move (by decide +kernel) kw_359 (ct_X10_move_R l Ω (sI (sR σ i 10 (zerR 8 (σ.1 i 10))) i 8 4 (nI ((T + 1) % 6))) _ (i := i) (i' := i) (rw_held hw hi) (rw_slot hw hi hq hT') (by omega) (by omega) (by decide) (by decide)) rfl rfl ⟨⟨by decide, by decide⟩, by decide, by decide⟩ (Nat.le_of_ble_eq_true rfl) ?_; dsimp only [Option.toList_none, List.nil_append]
  first | refine z_aload_n (pc := 39) C dX8_give_39 rfl ?_ | refine z_aload_nN (pc := 39) C dX8_give_39 rfl ?_
  refine z_getf (pc := 40) C dX8_give_40 zf_X8_37_8 (hk_0 (κ := 5) (by exact hi) (by exact hq)) rfl ?_
  refine z_iconst (pc := 43) (v := nI 0) C dX8_give_43 (by decide) ?_
  refine z_iald (pc := 44) C dX8_give_44 (Rw.get (rw_nums (κ := 5) (by exact hw) (by exact hi) (by exact hq))) (by first | omega | decide | (simp only [unu, upt]; omega)) (by first | decide | omega) rfl ?_
  -- at 45: istore_1 
  rw [ec]
  refine z_istore_n (pc := 45) C dX8_give_45 (by rw [hE]; decide) ?_
  -- at 46: iload_1 
  exact loop (7 - t) 0 (by omega)
set_option maxHeartbeats 4000000 in
set_option maxRecDepth 100000 in
theorem ct_X8_inSlots (l : Launch) (Ω : OmT) (σ : Sg) (hw : KW σ) (i : Nat) (hi : i < σ.2.2.2) (hq : σ.2.2.1 i = 5) : ZM l Ω yX8_inSlots cX8_inSlots 1 (some .int) rm_X8_inSlots [rfO Ω (bs σ.2.2.1 i)] (hp Ω σ) (hN σ) (some (.int (l_sum (fun t => l_sum (σ.1 i (20 + t)) 8) 6))) (hp Ω σ) (hN σ) := by
  refine ZM_of (by decide) (Nat.le_of_ble_eq_true rfl) (fun E hE C hQ => ?_)
  first | refine z_aload_n (pc := 0) C dX8_inSlots_0 rfl ?_ | refine z_aload_nN (pc := 0) C dX8_inSlots_0 rfl ?_
  refine z_getf (pc := 1) C dX8_inSlots_1 zf_X8_13_8 (hk_0 (κ := 5) (by exact hi) (by exact hq)) rfl ?_
  refine z_callSN (pc := 4) C dX8_inSlots_4 zy_X10_totalOfRows (by decide +kernel) kw_429 (ct_X10_totalOfRows l Ω _ _ _ 6 (fun j => bs σ.2.2.1 i + (11 + j)) (fun j => σ.1 i (20 + j)) (hk_slots hi hq) (fun j hj => Rw.get (rw_slot hw hi hq hj)) (by decide)) rfl rfl ⟨⟨by decide, by decide⟩, by decide, by decide⟩ (Nat.le_of_ble_eq_true rfl) ?_; dsimp only [Option.toList_some, List.cons_append, List.nil_append]
  -- at 7: ireturn 
  exact z_iret (pc := 7) C hQ dX8_inSlots_7 rfl rfl rfl (by decide) (by decide)
set_option maxHeartbeats 4000000 in
set_option maxRecDepth 100000 in
theorem ct_X8_storedOfStuff (l : Launch) (Ω : OmT) (σ : Sg) (hw : KW σ) (i : Nat) (hi : i < σ.2.2.2) (hq : σ.2.2.1 i = 5) (s : Nat) (hs : s < 2) : ZM l Ω yX8_storedOfStuff cX8_storedOfStuff 2 (some .int) rm_X8_storedOfStuff [rfO Ω (bs σ.2.2.1 i), .int (nI s)] (hp Ω σ) (hN σ) (some (.int (l_sum (fun t => l_sum (fun j => σ.1 i (20 + t) (2 * j + s)) 4) 6))) (hp Ω σ) (hN σ) := by
  refine ZM_of (by decide) (Nat.le_of_ble_eq_true rfl) (fun E hE C hQ => ?_)
  first | refine z_aload_n (pc := 0) C dX8_storedOfStuff_0 rfl ?_ | refine z_aload_nN (pc := 0) C dX8_storedOfStuff_0 rfl ?_
  refine z_getf (pc := 1) C dX8_storedOfStuff_1 zf_X8_13_8 (hk_0 (κ := 5) (by exact hi) (by exact hq)) rfl ?_
  refine z_iload_n (pc := 4) C dX8_storedOfStuff_4 rfl ?_
  refine z_callSN (pc := 5) C dX8_storedOfStuff_5 zy_X10_totalOfStuffInRows (by decide +kernel) kw_523 (ct_X10_totalOfStuffInRows l Ω _ _ _ 6 s (fun j => bs σ.2.2.1 i + (11 + j)) (fun j => σ.1 i (20 + j)) (hk_slots hi hq) (fun j hj => Rw.get (rw_slot hw hi hq hj)) (by decide) hs) rfl rfl ⟨⟨by decide, by decide⟩, by decide, by decide⟩ (Nat.le_of_ble_eq_true rfl) ?_; dsimp only [Option.toList_some, List.cons_append, List.nil_append]
  -- at 8: ireturn 
  exact z_iret (pc := 8) C hQ dX8_storedOfStuff_8 rfl rfl rfl (by decide) (by decide)
/-! ===== the class: piles ===== -/
def cHeap (σ : Sg) (i F L : Nat) : Sg := if L < 20 then mvR (sI σ i 8 6 (nI (L + 1))) i 0 8 i (40 + (F + L) % 20) else mvR σ i 0 8 i (40 + (F + 19) % 20)
set_option maxHeartbeats 4000000 in
set_option maxRecDepth 100000 in
theorem ct_X6_heap (l : Launch) (Ω : OmT) (σ : Sg) (hw : KW σ) (i : Nat) (hi : i < σ.2.2.2) (hq : σ.2.2.1 i = 6) (F L : Nat) (hF : F < 20) (hL : L ≤ 20) (eF : σ.1 i 8 5 = nI F) (eL : σ.1 i 8 6 = nI L) : ZM l Ω yX6_heap cX6_heap 1 none rm_X6_heap [rfO Ω (bs σ.2.2.1 i)] (hp Ω σ) (hN σ) (none) (hp Ω (cHeap σ i F L)) (hN σ) := by
  refine ZM_of (by decide) (Nat.le_of_ble_eq_true rfl) (fun E hE C hQ => ?_)
  have tail : ∀ (τ : Sg) (M : Nat), τ.2.2 = σ.2.2 → τ.1 i 8 5 = nI F → τ.1 i 8 6 = nI M → 1 ≤ M → M ≤ 20 → mvR τ i 0 8 i (40 + (F + M - 1) % 20) = cHeap σ i F L → ZV l Ω E 0 0 19 [(0, rfO Ω (bs σ.2.2.1 i))] [] (hp Ω τ) (hN σ) := by
    intro τ M e22 f5 f6 m1 m2 hm
    rw [← hm] at hQ
    obtain ⟨hw, hi, hq, eb⟩ := st_of e22 hw hi hq
    rw [eb]
    first | refine z_aload_n (pc := 19) C dX6_heap_19 rfl ?_ | refine z_aload_nN (pc := 19) C dX6_heap_19 rfl ?_
    refine z_getf (pc := 20) C dX6_heap_20 zf_X6_32_6 (hk_0 (κ := 6) (by exact hi) (by exact hq)) rfl ?_
    first | refine z_aload_n (pc := 23) C dX6_heap_23 rfl ?_ | refine z_aload_nN (pc := 23) C dX6_heap_23 rfl ?_
    refine z_getf (pc := 24) C dX6_heap_24 zf_X6_13_6 (hk_0 (κ := 6) (by exact hi) (by exact hq)) rfl ?_
    first | refine z_aload_n (pc := 27) C dX6_heap_27 rfl ?_ | refine z_aload_nN (pc := 27) C dX6_heap_27 rfl ?_
    refine z_getf (pc := 28) C dX6_heap_28 zf_X6_16_6 (hk_0 (κ := 6) (by exact hi) (by exact hq)) rfl ?_
    -- at 31: aload_0 
    rw [f5]
    first | refine z_aload_n (pc := 31) C dX6_heap_31 rfl ?_ | refine z_aload_nN (pc := 31) C dX6_heap_31 rfl ?_
    refine z_getf (pc := 32) C dX6_heap_32 zf_X6_20_6 (hk_0 (κ := 6) (by exact hi) (by exact hq)) rfl ?_
    -- at 35: iadd 
    rw [f6]
    first | with_reducible refine z_iaddN (pc := 35) C dX6_heap_35 ?_ | refine z_iadd (pc := 35) C dX6_heap_35 ?_
    refine z_iconst (pc := 36) (v := nI 1) C dX6_heap_36 (by decide) ?_
    first | with_reducible refine z_isubN (pc := 37) C dX6_heap_37 (by omega) ?_ | refine z_isub (pc := 37) C dX6_heap_37 ?_
    refine z_bipush (pc := 38) (v := nI 20) C dX6_heap_38 (by decide) ?_
    first | with_reducible refine z_iremN (pc := 40) C dX6_heap_40 (by omega) (by decide) (by decide) ?_ | refine z_irem (pc := 40) C dX6_heap_40 (by decide) ?_
    refine z_aald (pc := 41) C dX6_heap_41 (hk_lots (by exact hi) (by exact hq)) (Or.inr rfl) (by first | decide | omega) (by first | decide | omega) ?_
    refine z_callSN (pc := 42) C dX6_heap_42 zy_X10_move (by decide +kernel) kw_359 (ct_X10_move_R l Ω τ _ (i := i) (i' := i) (rw_held hw hi) (rw_lot hw hi hq (t := (F + M - 1) % 20) (by omega)) (by omega) (by omega) (by decide) (by decide)) rfl rfl ⟨⟨by decide, by decide⟩, by decide, by decide⟩ (Nat.le_of_ble_eq_true rfl) ?_; dsimp only [Option.toList_none, List.nil_append]
    -- at 45: return 
    exact z_vret (pc := 45) C hQ dX6_heap_45 rfl rfl rfl (by decide) (by decide)
  first | refine z_aload_n (pc := 0) C dX6_heap_0 rfl ?_ | refine z_aload_nN (pc := 0) C dX6_heap_0 rfl ?_
  refine z_getf (pc := 1) C dX6_heap_1 zf_X6_20_6 (hk_0 (κ := 6) (by exact hi) (by exact hq)) rfl ?_
  -- at 4: bipush 
  rw [eL]
  refine z_bipush (pc := 4) (v := nI 20) C dX6_heap_4 (by decide) ?_
  -- at 6: if_icmpge 
  refine z_icmp_ge (pc := 6) (tgt := 19) C dX6_heap_6 (by decide) (fun h => ?_) (fun h => ?_)
  · have h := (nI_leI (by decide) (by omega)).mp h
    obtain rfl : L = 20 := by omega
    exact tail σ 20 rfl eF eL (by omega) (by omega) (by unfold cHeap; rw [if_neg (by omega), show F + 20 - 1 = F + 19 by omega])
  · have h : L < 20 := Nat.lt_of_not_le (fun z => h ((nI_leI (by decide) (by omega)).mpr z))
    first | refine z_aload_n (pc := 9) C dX6_heap_9 rfl ?_ | refine z_aload_nN (pc := 9) C dX6_heap_9 rfl ?_
    refine z_dup (pc := 10) C dX6_heap_10 rfl ?_
    refine z_getf (pc := 11) C dX6_heap_11 zf_X6_20_6 (hk_0 (κ := 6) (by exact hi) (by exact hq)) rfl ?_
    -- at 14: iconst_1 
    rw [eL]
    refine z_iconst (pc := 14) (v := nI 1) C dX6_heap_14 (by decide) ?_
    first | with_reducible refine z_iaddN (pc := 15) C dX6_heap_15 ?_ | refine z_iadd (pc := 15) C dX6_heap_15 ?_
    refine z_putfI (pc := 16) C dX6_heap_16 zp_X6_20_6 (hk_0 (κ := 6) (by exact hi) (by exact hq)) (Nat.le_of_ble_eq_true rfl) (hk_put (κ := 6) (by exact hw) (by exact hi) (by exact hq) 9 6 (by decide)) ?_
    -- at 19: aload_0 
    exact tail (sI σ i 8 6 (nI (L + 1))) (L + 1) rfl (by simp [sI, eF]) (by simp [sI]) (by omega) (by omega) (by unfold cHeap; rw [if_pos h]; rfl)
def cPlS (τ : Sg) (i F L : Nat) : Sg := sI (sI (mvR τ i (40 + F) 8 i 10) i 8 5 (nI ((F + 1) % 20))) i 8 6 (nI (L - 1))
def cPl (i : Nat) : Nat → Nat → Nat → Int32 → Sg → Sg
  | 0, _, _, _, τ => τ
  | f + 1, F, L, left, τ => if L = 0 then τ else if left - l_sum (τ.1 i (40 + F)) 8 < 0 then τ else cPl i f ((F + 1) % 20) (L - 1) (left - l_sum (τ.1 i (40 + F)) 8) (cPlS τ i F L)
def cPile0 (σ : Sg) (i : Nat) : Sg := sR σ i 10 (zerR 8 (σ.1 i 10))
def cPile (σ : Sg) (i F L : Nat) : Sg := if l_sum (σ.1 i 0) 8 = 0 then cPl i 20 F L (σ.1 i 3 0) (cPile0 σ i) else cPl i 20 F (if L < 20 then L + 1 else L) (σ.1 i 3 0) (cHeap (cPile0 σ i) i F L)
set_option maxHeartbeats 4000000 in
set_option maxRecDepth 100000 in
theorem ct_X6_give (l : Launch) (Ω : OmT) (σ : Sg) (hw : KW σ) (i : Nat) (hi : i < σ.2.2.2) (hq : σ.2.2.1 i = 6) (F L : Nat) (hF : F < 20) (hL : L ≤ 20) (eF : σ.1 i 8 5 = nI F) (eL : σ.1 i 8 6 = nI L) : ZM l Ω yX6_give cX6_give 3 none rm_X6_give [rfO Ω (bs σ.2.2.1 i)] (hp Ω σ) (hN σ) (none) (hp Ω (cPile σ i F L)) (hN σ) := by
  refine ZM_of (by decide) (Nat.le_of_ble_eq_true rfl) (fun E hE C hQ => ?_)
  generalize hR : cPile σ i F L = ρ at hQ
  have loop : ∀ (f k : Nat) (τ : Sg) (F L : Nat) (left : Int32), k + f = 20 → F < 20 → L ≤ 20 → τ.2.2 = σ.2.2 → τ.1 i 8 5 = nI F → τ.1 i 8 6 = nI L → cPl i f F L left τ = ρ → ZV l Ω E 0 0 33 [(0, rfO Ω (bs σ.2.2.1 i)), (1, .int left), (2, .int (nI k))] [] (hp Ω τ) (hN σ) := by
    intro f
    induction f with
    | zero =>
      intro k τ F L left hk hF hL e22 eF eL hm
      obtain rfl : k = 20 := by omega
      rw [show cPl i 0 F L left τ = τ from rfl] at hm
      subst hm
      refine z_iload_n (pc := 33) C dX6_give_33 rfl ?_
      refine z_bipush (pc := 34) (v := nI 20) C dX6_give_34 (by decide) ?_
      -- at 36: if_icmpge 
      refine z_icmp_geT (pc := 36) (tgt := 115) C dX6_give_36 (by decide) (by omega) (by omega) (by omega) ?_
      exact z_vret (pc := 115) C hQ dX6_give_115 rfl rfl rfl (by decide) (by decide)
    | succ f ih =>
      intro k τ F L left hk hF hL e22 eF eL hm
      have eb : σ.2.2.1 = τ.2.2.1 := by rw [e22]
      have hw' := hw.of e22
      have hi' : i < τ.2.2.2 := by rw [e22]; exact hi
      have hq' : τ.2.2.1 i = 6 := by rw [e22]; exact hq
      have ihh := ih (k + 1) (cPlS τ i F L) ((F + 1) % 20) (L - 1) (left - l_sum (τ.1 i (40 + F)) 8) (by omega) (by omega) (by omega) e22 (by unfold cPlS; simp [sI]) (by unfold cPlS; simp [sI])
      rw [show cPl i (f + 1) F L left τ = if L = 0 then τ else if left - l_sum (τ.1 i (40 + F)) 8 < 0 then τ else cPl i f ((F + 1) % 20) (L - 1) (left - l_sum (τ.1 i (40 + F)) 8) (cPlS τ i F L) from rfl] at hm
      rw [eb] at ihh ⊢
      have hw := hw'
      have hi := hi'
      have hq := hq'
      refine z_iload_n (pc := 33) C dX6_give_33 rfl ?_
      refine z_bipush (pc := 34) (v := nI 20) C dX6_give_34 (by decide) ?_
      -- at 36: if_icmpge 
      refine z_icmp_geF (pc := 36) (tgt := 115) C dX6_give_36 (by decide) (by omega) (by omega) (by omega) ?_
      first | refine z_aload_n (pc := 39) C dX6_give_39 rfl ?_ | refine z_aload_nN (pc := 39) C dX6_give_39 rfl ?_
      refine z_getf (pc := 40) C dX6_give_40 zf_X6_20_6 (hk_0 (κ := 6) (by exact hi) (by exact hq)) rfl ?_
      -- at 43: ifle 
      rw [eL]
      refine z_if_le (pc := 43) (tgt := 115) C dX6_give_43 (by decide) (fun h => ?_) (fun h => ?_)
      · have hL0 : L = 0 := by
          have h := (nI_leI (a := L) (b := 0) (by omega) (by decide)).mp h
          omega
        rw [if_pos hL0] at hm
        subst hm
        exact z_vret (pc := 115) C hQ dX6_give_115 rfl rfl rfl (by decide) (by decide)
      · have hL0 : ¬ L = 0 := fun z => h (by rw [z]; exact nI_le (Nat.le_refl 0) (by decide))
        rw [if_neg hL0] at hm
        refine z_iload_n (pc := 46) C dX6_give_46 rfl ?_
        first | refine z_aload_n (pc := 47) C dX6_give_47 rfl ?_ | refine z_aload_nN (pc := 47) C dX6_give_47 rfl ?_
        refine z_getf (pc := 48) C dX6_give_48 zf_X6_13_6 (hk_0 (κ := 6) (by exact hi) (by exact hq)) rfl ?_
        first | refine z_aload_n (pc := 51) C dX6_give_51 rfl ?_ | refine z_aload_nN (pc := 51) C dX6_give_51 rfl ?_
        refine z_getf (pc := 52) C dX6_give_52 zf_X6_16_6 (hk_0 (κ := 6) (by exact hi) (by exact hq)) rfl ?_
        -- at 55: aaload 
        rw [eF]
        refine z_aald (pc := 55) C dX6_give_55 (hk_lots (by exact hi) (by exact hq)) (Or.inr rfl) (by first | decide | omega) (by first | decide | omega) ?_
        refine z_callSN (pc := 56) C dX6_give_56 zy_X10_total (by decide +kernel) kw_382 (ct_totalR l Ω τ _ (rw_lot hw hi hq (t := F) hF)) rfl rfl ⟨⟨by decide, by decide⟩, by decide, by decide⟩ (Nat.le_of_ble_eq_true rfl) ?_; dsimp only [Option.toList_some, List.cons_append, List.nil_append]
        first | with_reducible refine z_isubN (pc := 59) C dX6_give_59 (by omega) ?_ | refine z_isub (pc := 59) C dX6_give_59 ?_
        refine z_istore_n (pc := 60) C dX6_give_60 (by rw [hE]; decide) ?_
        refine z_iload_n (pc := 61) C dX6_give_61 rfl ?_
        -- at 62: ifge 
        refine z_if_ge (pc := 62) (tgt := 68) C dX6_give_62 (by decide) (fun h2 => ?_) (fun h2 => ?_)
        · rw [if_neg (Int32.not_lt.mpr h2)] at hm
          have ihh := ihh hm
          unfold cPlS at ihh
          first | refine z_aload_n (pc := 68) C dX6_give_68 rfl ?_ | refine z_aload_nN (pc := 68) C dX6_give_68 rfl ?_
          refine z_getf (pc := 69) C dX6_give_69 zf_X6_13_6 (hk_0 (κ := 6) (by exact hi) (by exact hq)) rfl ?_
          first | refine z_aload_n (pc := 72) C dX6_give_72 rfl ?_ | refine z_aload_nN (pc := 72) C dX6_give_72 rfl ?_
          refine z_getf (pc := 73) C dX6_give_73 zf_X6_16_6 (hk_0 (κ := 6) (by exact hi) (by exact hq)) rfl ?_
          -- at 76: aaload 
          rw [eF]
          have ea : (mvR τ i (40 + F) 8 i 10).1 i 8 5 = nI F := by rw [mvR_ne _ i _ 8 i _ i 8 (by omega) (by omega)]; exact eF
          have ec : (sI (mvR τ i (40 + F) 8 i 10) i 8 5 (nI ((F + 1) % 20))).1 i 8 6 = nI L := by
            show (if i = i ∧ 8 = 8 ∧ 6 = 5 then nI ((F + 1) % 20) else (mvR τ i (40 + F) 8 i 10).1 i 8 6) = nI L
            rw [if_neg (by omega), mvR_ne _ i _ 8 i _ i 8 (by omega) (by omega)]
            exact eL
          refine z_aald (pc := 76) C dX6_give_76 (hk_lots (by exact hi) (by exact hq)) (Or.inr rfl) (by first | decide | omega) (by first | decide | omega) ?_
          first | refine z_aload_n (pc := 77) C dX6_give_77 rfl ?_ | refine z_aload_nN (pc := 77) C dX6_give_77 rfl ?_
          refine z_getf (pc := 78) C dX6_give_78 zf_X6_23_6 (hk_0 (κ := 6) (by exact hi) (by exact hq)) rfl ?_
          refine z_iconst (pc := 81) (v := nI 0) C dX6_give_81 (by decide) ?_
          refine z_aald (pc := 82) C dX6_give_82 (hk_given (κ := 6) (by exact hi) (by exact hq)) (Or.inr rfl) (by first | decide | omega) (by first | decide | omega) ?_
          refine z_callSN (pc := 83) C dX6_give_83 zy_X10_move (by decide +kernel) kw_359 (ct_X10_move_R l Ω τ _ (i := i) (i' := i) (rw_lot hw hi hq (t := F) hF) (rw_giv0 hw hi hq (by decide)) (by omega) (by omega) (by decide) (by decide)) rfl rfl ⟨⟨by decide, by decide⟩, by decide, by decide⟩ (Nat.le_of_ble_eq_true rfl) ?_; dsimp only [Option.toList_none, List.nil_append]
          first | refine z_aload_n (pc := 86) C dX6_give_86 rfl ?_ | refine z_aload_nN (pc := 86) C dX6_give_86 rfl ?_
          first | refine z_aload_n (pc := 87) C dX6_give_87 rfl ?_ | refine z_aload_nN (pc := 87) C dX6_give_87 rfl ?_
          refine z_getf (pc := 88) C dX6_give_88 zf_X6_16_6 (hk_0 (κ := 6) (by exact hi) (by exact hq)) rfl ?_
          -- at 91: iconst_1 
          rw [ea]
          refine z_iconst (pc := 91) (v := nI 1) C dX6_give_91 (by decide) ?_
          first | with_reducible refine z_iaddN (pc := 92) C dX6_give_92 ?_ | refine z_iadd (pc := 92) C dX6_give_92 ?_
          refine z_bipush (pc := 93) (v := nI 20) C dX6_give_93 (by decide) ?_
          first | with_reducible refine z_iremN (pc := 95) C dX6_give_95 (by omega) (by decide) (by decide) ?_ | refine z_irem (pc := 95) C dX6_give_95 (by decide) ?_
          refine z_putfI (pc := 96) C dX6_give_96 zp_X6_16_6 (hk_0 (κ := 6) (by exact hi) (by exact hq)) (Nat.le_of_ble_eq_true rfl) (hk_put (κ := 6) (by exact hw) (by exact hi) (by exact hq) 8 5 (by decide)) ?_
          first | refine z_aload_n (pc := 99) C dX6_give_99 rfl ?_ | refine z_aload_nN (pc := 99) C dX6_give_99 rfl ?_
          refine z_dup (pc := 100) C dX6_give_100 rfl ?_
          refine z_getf (pc := 101) C dX6_give_101 zf_X6_20_6 (hk_0 (κ := 6) (by exact hi) (by exact hq)) rfl ?_
          -- at 104: iconst_1 
          rw [ec]
          refine z_iconst (pc := 104) (v := nI 1) C dX6_give_104 (by decide) ?_
          first | with_reducible refine z_isubN (pc := 105) C dX6_give_105 (by omega) ?_ | refine z_isub (pc := 105) C dX6_give_105 ?_
          refine z_putfI (pc := 106) C dX6_give_106 zp_X6_20_6 (hk_0 (κ := 6) (by exact hi) (by exact hq)) (Nat.le_of_ble_eq_true rfl) (hk_put (κ := 6) (by exact hw) (by exact hi) (by exact hq) 9 6 (by decide)) ?_
          first | refine z_iincN (pc := 109) C dX6_give_109 rfl (by rw [hE]; decide) ?_ | refine z_iinc (pc := 109) C dX6_give_109 rfl rfl (by rw [hE]; decide) ?_
          refine z_goto (pc := 112) (tgt := 33) C dX6_give_112 (by decide) ?_
          -- at 33
          exact ihh
        · rw [if_pos (Int32.not_le.mp h2)] at hm
          subst hm
          refine z_goto (pc := 65) (tgt := 115) C dX6_give_65 (by decide) ?_
          -- at 115
          exact z_vret (pc := 115) C hQ dX6_give_115 rfl rfl rfl (by decide) (by decide)
  have e0 : (cPile0 σ i).1 i 0 = σ.1 i 0 := by unfold cPile0; funext j; simp [sR]
  have tail : ∀ (τ : Sg) (M : Nat), τ.2.2 = σ.2.2 → τ.1 i 8 5 = nI F → τ.1 i 8 6 = nI M → M ≤ 20 → τ.1 i 3 = σ.1 i 3 → cPl i 20 F M (σ.1 i 3 0) τ = ρ → ZV l Ω E 0 0 24 [(0, rfO Ω (bs σ.2.2.1 i))] [] (hp Ω τ) (hN σ) := by
    intro τ M e22 f5 f6 m2 e3 hm
    have h9 := loop 20 0 τ F M (σ.1 i 3 0) (by omega) hF m2 e22 f5 f6 hm
    obtain ⟨hw, hi, hq, eb⟩ := st_of e22 hw hi hq
    rw [eb] at h9 ⊢
    rw [← e3] at h9
    first | refine z_aload_n (pc := 24) C dX6_give_24 rfl ?_ | refine z_aload_nN (pc := 24) C dX6_give_24 rfl ?_
    refine z_getf (pc := 25) C dX6_give_25 zf_X6_44_6 (hk_0 (κ := 6) (by exact hi) (by exact hq)) rfl ?_
    refine z_iconst (pc := 28) (v := nI 0) C dX6_give_28 (by decide) ?_
    refine z_iald (pc := 29) C dX6_give_29 (Rw.get (rw_nums (κ := 6) (by exact hw) (by exact hi) (by exact hq))) (by first | omega | decide | (simp only [unu, upt]; omega)) (by first | decide | omega) rfl ?_
    refine z_istore_n (pc := 30) C dX6_give_30 (by rw [hE]; decide) ?_
    refine z_iconst (pc := 31) (v := nI 0) C dX6_give_31 (by decide) ?_
    refine z_istore_n (pc := 32) C dX6_give_32 (by rw [hE]; decide) ?_
    -- at 33: iload_2 
    exact h9
  have a5 : (cPile0 σ i).1 i 8 5 = nI F := by unfold cPile0; rw [sR_I, if_neg (by omega)]; exact eF
  have a6 : (cPile0 σ i).1 i 8 6 = nI L := by unfold cPile0; rw [sR_I, if_neg (by omega)]; exact eL
  have a3 : (cPile0 σ i).1 i 3 = σ.1 i 3 := by unfold cPile0; funext j; simp [sR]
  first | refine z_aload_n (pc := 0) C dX6_give_0 rfl ?_ | refine z_aload_nN (pc := 0) C dX6_give_0 rfl ?_
  refine z_getf (pc := 1) C dX6_give_1 zf_X6_23_6 (hk_0 (κ := 6) (by exact hi) (by exact hq)) rfl ?_
  refine z_iconst (pc := 4) (v := nI 0) C dX6_give_4 (by decide) ?_
  refine z_aald (pc := 5) C dX6_give_5 (hk_given (κ := 6) (by exact hi) (by exact hq)) (Or.inr rfl) (by first | decide | omega) (by first | decide | omega) ?_
  refine z_iconst (pc := 6) (v := nI 0) C dX6_give_6 (by decide) ?_
  refine z_callS (pc := 7) C dX6_give_7 zy_J7_fill_53178 kw_381 kw_64 (ct_zerR l Ω σ _ (rw_giv0 hw hi hq (by decide))) rfl rfl ⟨⟨by decide, by decide⟩, by decide, by decide⟩ (Nat.le_of_ble_eq_true rfl) ?_; dsimp only [Option.toList_none, List.nil_append]
  -- at 10: aload_0 
  refine z_heap (A' := hp Ω (cPile0 σ i)) rfl rfl ?_
  first | refine z_aload_n (pc := 10) C dX6_give_10 rfl ?_ | refine z_aload_nN (pc := 10) C dX6_give_10 rfl ?_
  refine z_getf (pc := 11) C dX6_give_11 zf_X6_32_6 (hk_0 (κ := 6) (by exact hi) (by exact hq)) rfl ?_
  refine z_callSN (pc := 14) C dX6_give_14 zy_X10_total (by decide +kernel) kw_382 (ct_totalR l Ω (cPile0 σ i) _ (rw_held hw hi)) rfl rfl ⟨⟨by decide, by decide⟩, by decide, by decide⟩ (Nat.le_of_ble_eq_true rfl) ?_; dsimp only [Option.toList_some, List.cons_append, List.nil_append]
  -- at 17: ifeq 
  rw [e0]
  refine z_if_eq (pc := 17) (tgt := 24) C dX6_give_17 (by decide) (fun h => ?_) (fun h => ?_)
  · exact tail (cPile0 σ i) L rfl a5 a6 hL a3 (by rw [← hR]; unfold cPile; rw [if_pos h])
  · first | refine z_aload_n (pc := 20) C dX6_give_20 rfl ?_ | refine z_aload_nN (pc := 20) C dX6_give_20 rfl ?_
    refine z_callV (pc := 21) (ci := 6) C dX6_give_21 zy_X6_heap kw_384 kw_385 rfl kw_836 (hk_0 (κ := 6) (by exact hi) (by exact hq)) (ct_X6_heap l Ω (cPile0 σ i) hw i hi hq F L hF hL a5 a6) rfl rfl ⟨⟨by decide, by decide⟩, by decide, by decide⟩ (Nat.le_of_ble_eq_true rfl) ?_; dsimp only [Option.toList_none, List.nil_append]
    -- at 24: aload_0 
    refine tail (cHeap (cPile0 σ i) i F L) (if L < 20 then L + 1 else L) ?_ ?_ ?_ ?_ ?_ ?_
    · unfold cHeap; split <;> rfl
    · unfold cHeap
      split
      · rw [mvR_ne _ i _ 8 i _ i 8 (by omega) (by omega)]; simp [sI, a5]
      · rw [mvR_ne _ i _ 8 i _ i 8 (by omega) (by omega)]; exact a5
    · unfold cHeap
      split
      · rw [mvR_ne _ i _ 8 i _ i 8 (by omega) (by omega)]; simp [sI]
      · rw [mvR_ne _ i _ 8 i _ i 8 (by omega) (by omega)]; exact a6
    · split <;> omega
    · unfold cHeap
      split
      · rw [mvR_ne _ i _ 8 i _ i 3 (by omega) (by omega)]
        rw [← a3]; funext j; simp [sI]
      · rw [mvR_ne _ i _ 8 i _ i 3 (by omega) (by omega)]; exact a3
    · rw [← hR]; unfold cPile; rw [if_neg h]
set_option maxHeartbeats 4000000 in
set_option maxRecDepth 100000 in
theorem ct_X6_inLots (l : Launch) (Ω : OmT) (σ : Sg) (hw : KW σ) (i : Nat) (hi : i < σ.2.2.2) (hq : σ.2.2.1 i = 6) : ZM l Ω yX6_inLots cX6_inLots 1 (some .int) rm_X6_inLots [rfO Ω (bs σ.2.2.1 i)] (hp Ω σ) (hN σ) (some (.int (l_sum (fun t => l_sum (σ.1 i (40 + t)) 8) 20))) (hp Ω σ) (hN σ) := by
  refine ZM_of (by decide) (Nat.le_of_ble_eq_true rfl) (fun E hE C hQ => ?_)
  first | refine z_aload_n (pc := 0) C dX6_inLots_0 rfl ?_ | refine z_aload_nN (pc := 0) C dX6_inLots_0 rfl ?_
  refine z_getf (pc := 1) C dX6_inLots_1 zf_X6_13_6 (hk_0 (κ := 6) (by exact hi) (by exact hq)) rfl ?_
  refine z_callSN (pc := 4) C dX6_inLots_4 zy_X10_totalOfRows (by decide +kernel) kw_429 (ct_X10_totalOfRows l Ω _ _ _ 20 (fun j => bs σ.2.2.1 i + (11 + j)) (fun j => σ.1 i (40 + j)) (hk_lots hi hq) (fun j hj => Rw.get (rw_lot hw hi hq hj)) (by decide)) rfl rfl ⟨⟨by decide, by decide⟩, by decide, by decide⟩ (Nat.le_of_ble_eq_true rfl) ?_; dsimp only [Option.toList_some, List.cons_append, List.nil_append]
  -- at 7: ireturn 
  exact z_iret (pc := 7) C hQ dX6_inLots_7 rfl rfl rfl (by decide) (by decide)
set_option maxHeartbeats 4000000 in
set_option maxRecDepth 100000 in
theorem ct_X6_lotCount (l : Launch) (Ω : OmT) (σ : Sg) (i : Nat) (hi : i < σ.2.2.2) (hq : σ.2.2.1 i = 6) : ZM l Ω yX6_lotCount cX6_lotCount 1 (some .int) rm_X6_lotCount [rfO Ω (bs σ.2.2.1 i)] (hp Ω σ) (hN σ) (some (.int (σ.1 i 8 6))) (hp Ω σ) (hN σ) := by
  refine ZM_of (by decide) (Nat.le_of_ble_eq_true rfl) (fun E hE C hQ => ?_)
  first | refine z_aload_n (pc := 0) C dX6_lotCount_0 rfl ?_ | refine z_aload_nN (pc := 0) C dX6_lotCount_0 rfl ?_
  refine z_getf (pc := 1) C dX6_lotCount_1 zf_X6_20_6 (hk_0 (κ := 6) (by exact hi) (by exact hq)) rfl ?_
  -- at 4: ireturn 
  exact z_iret (pc := 4) C hQ dX6_lotCount_4 rfl rfl rfl (by decide) (by decide)
set_option maxHeartbeats 4000000 in
set_option maxRecDepth 100000 in
theorem ct_X6_storedOfStuff (l : Launch) (Ω : OmT) (σ : Sg) (hw : KW σ) (i : Nat) (hi : i < σ.2.2.2) (hq : σ.2.2.1 i = 6) (s : Nat) (hs : s < 2) : ZM l Ω yX6_storedOfStuff cX6_storedOfStuff 2 (some .int) rm_X6_storedOfStuff [rfO Ω (bs σ.2.2.1 i), .int (nI s)] (hp Ω σ) (hN σ) (some (.int (l_sum (fun t => l_sum (fun j => σ.1 i (40 + t) (2 * j + s)) 4) 20))) (hp Ω σ) (hN σ) := by
  refine ZM_of (by decide) (Nat.le_of_ble_eq_true rfl) (fun E hE C hQ => ?_)
  first | refine z_aload_n (pc := 0) C dX6_storedOfStuff_0 rfl ?_ | refine z_aload_nN (pc := 0) C dX6_storedOfStuff_0 rfl ?_
  refine z_getf (pc := 1) C dX6_storedOfStuff_1 zf_X6_13_6 (hk_0 (κ := 6) (by exact hi) (by exact hq)) rfl ?_
  refine z_iload_n (pc := 4) C dX6_storedOfStuff_4 rfl ?_
  refine z_callSN (pc := 5) C dX6_storedOfStuff_5 zy_X10_totalOfStuffInRows (by decide +kernel) kw_523 (ct_X10_totalOfStuffInRows l Ω _ _ _ 20 s (fun j => bs σ.2.2.1 i + (11 + j)) (fun j => σ.1 i (40 + j)) (hk_lots hi hq) (fun j hj => Rw.get (rw_lot hw hi hq hj)) (by decide) hs) rfl rfl ⟨⟨by decide, by decide⟩, by decide, by decide⟩ (Nat.le_of_ble_eq_true rfl) ?_; dsimp only [Option.toList_some, List.cons_append, List.nil_append]
  -- at 8: ireturn 
  exact z_iret (pc := 8) C hQ dX6_storedOfStuff_8 rfl rfl rfl (by decide) (by decide)
/-! ===== the class: ends, and what a plain unit answers ===== -/
def cTake7 (σ : Sg) (i f i' a' : Nat) : Sg := sR (sR σ i 0 (addR (σ.1 i' a') (σ.1 i 0))) i (60 + f) (addR (σ.1 i' a') (σ.1 i (60 + f)))
set_option maxHeartbeats 4000000 in
set_option maxRecDepth 100000 in
theorem ct_X0_take (l : Launch) (Ω : OmT) (σ : Sg) (hw : KW σ) (i : Nat) (hi : i < σ.2.2.2) (hq : σ.2.2.1 i = 7) (f : Nat) (hf : f < 10) {i' k' a' : Nat} (h : Rw σ i' k' a' 8) (hne : ¬ i' = i) : ZM l Ω yX0_take cX0_take 3 none rm_X0_take [rfO Ω (bs σ.2.2.1 i), .int (nI f), rfO Ω (bs σ.2.2.1 i' + k')] (hp Ω σ) (hN σ) (none) (hp Ω (cTake7 σ i f i' a')) (hN σ) := by
  refine ZM_of (by decide) (Nat.le_of_ble_eq_true rfl) (fun E hE C hQ => ?_)
  first | refine z_aload_n (pc := 0) C dX0_take_0 rfl ?_ | refine z_aload_nN (pc := 0) C dX0_take_0 rfl ?_
  first | refine z_aload_n (pc := 1) C dX0_take_1 rfl ?_ | refine z_aload_nN (pc := 1) C dX0_take_1 rfl ?_
  refine z_getf (pc := 2) C dX0_take_2 zf_X0_16_0 (hk_0 (κ := 7) (by exact hi) (by exact hq)) rfl ?_
  refine z_callSN (pc := 5) C dX0_take_5 zy_X10_add (by decide +kernel) kw_362 (ct_addR l Ω σ _ h (rw_held hw hi) (fun z => hne z.1) (by decide) (by decide)) rfl rfl ⟨⟨by decide, by decide⟩, by decide, by decide⟩ (Nat.le_of_ble_eq_true rfl) ?_; dsimp only [Option.toList_none, List.nil_append]
  refine z_iload_n (pc := 8) C dX0_take_8 rfl ?_
  -- at 9: iflt 
  refine z_if_ltF (pc := 9) (tgt := 28) C dX0_take_9 (by decide) (by omega) ?_
  refine z_iload_n (pc := 12) C dX0_take_12 rfl ?_
  refine z_bipush (pc := 13) (v := nI 10) C dX0_take_13 (by decide) ?_
  -- at 15: if_icmpge 
  refine z_icmp_geF (pc := 15) (tgt := 28) C dX0_take_15 (by decide) (by omega) (by omega) (by omega) ?_
  first | refine z_aload_n (pc := 18) C dX0_take_18 rfl ?_ | refine z_aload_nN (pc := 18) C dX0_take_18 rfl ?_
  first | refine z_aload_n (pc := 19) C dX0_take_19 rfl ?_ | refine z_aload_nN (pc := 19) C dX0_take_19 rfl ?_
  refine z_getf (pc := 20) C dX0_take_20 zf_X0_11_0 (hk_0 (κ := 7) (by exact hi) (by exact hq)) rfl ?_
  refine z_iload_n (pc := 23) C dX0_take_23 rfl ?_
  refine z_aald (pc := 24) C dX0_take_24 (hk_came (by exact hi) (by exact hq)) (Or.inr rfl) (by first | decide | omega) (by first | decide | omega) ?_
  -- at 25: invokestatic Method GrindWorks.add:([I[I)V
  refine z_callSN (pc := 25) C dX0_take_25 zy_X10_add (by decide +kernel) kw_362 (ct_addR l Ω (sR σ i 0 (addR (σ.1 i' a') (σ.1 i 0))) _ (i := i') (k := k') (a := a') (N := 8) h (rw_cam hw hi hq (t := f) hf) (fun z => hne z.1) (by decide) (by decide)) rfl rfl ⟨⟨by decide, by decide⟩, by decide, by decide⟩ (Nat.le_of_ble_eq_true rfl) ?_; dsimp only [Option.toList_none, List.nil_append]
  refine z_vret (pc := 28) C hQ dX0_take_28 rfl ?_ rfl (by decide) (by decide)
  unfold cTake7
  rw [show (sR σ i 0 (addR (σ.1 i' a') (σ.1 i 0))).1 i' a' = σ.1 i' a' from by funext j; rw [sR_I, if_neg (fun z => hne z.1)]]
  rw [show (sR σ i 0 (addR (σ.1 i' a') (σ.1 i 0))).1 i (60 + f) = σ.1 i (60 + f) from by funext j; rw [sR_I, if_neg (by omega)]]
set_option maxHeartbeats 4000000 in
set_option maxRecDepth 100000 in
theorem ct_X0_cameFrom (l : Launch) (Ω : OmT) (σ : Sg) (hw : KW σ) (i : Nat) (hi : i < σ.2.2.2) (hq : σ.2.2.1 i = 7) (u c : Nat) (hu : u < 10) (hc : c < 8) : ZM l Ω yX0_cameFrom cX0_cameFrom 3 (some .int) rm_X0_cameFrom [rfO Ω (bs σ.2.2.1 i), .int (nI u), .int (nI c)] (hp Ω σ) (hN σ) (some (.int (σ.1 i (60 + u) c))) (hp Ω σ) (hN σ) := by
  refine ZM_of (by decide) (Nat.le_of_ble_eq_true rfl) (fun E hE C hQ => ?_)
  refine z_iload_n (pc := 0) C dX0_cameFrom_0 rfl ?_
  -- at 1: iflt 
  refine z_if_ltF (pc := 1) (tgt := 28) C dX0_cameFrom_1 (by decide) (by omega) ?_
  refine z_iload_n (pc := 4) C dX0_cameFrom_4 rfl ?_
  refine z_bipush (pc := 5) (v := nI 10) C dX0_cameFrom_5 (by decide) ?_
  -- at 7: if_icmpge 
  refine z_icmp_geF (pc := 7) (tgt := 28) C dX0_cameFrom_7 (by decide) (by omega) (by omega) (by omega) ?_
  refine z_iload_n (pc := 10) C dX0_cameFrom_10 rfl ?_
  refine z_callSN (pc := 11) C dX0_cameFrom_11 zy_X10_isCell (by decide +kernel) kw_269 (ct_X10_isCell l Ω _ _ _) rfl rfl ⟨⟨by decide, by decide⟩, by decide, by decide⟩ (Nat.le_of_ble_eq_true rfl) ?_; dsimp only [Option.toList_some, List.cons_append, List.nil_append]
  -- at 14: ifeq 
  refine z_ifeqB (pc := 14) (tgt := 28) C dX0_cameFrom_14 (by decide) (fun h => absurd (inR_nI (by omega) (by omega) (by omega)) h) (fun h => ?_)
  first | refine z_aload_n (pc := 17) C dX0_cameFrom_17 rfl ?_ | refine z_aload_nN (pc := 17) C dX0_cameFrom_17 rfl ?_
  refine z_getf (pc := 18) C dX0_cameFrom_18 zf_X0_11_0 (hk_0 (κ := 7) (by exact hi) (by exact hq)) rfl ?_
  refine z_iload_n (pc := 21) C dX0_cameFrom_21 rfl ?_
  refine z_aald (pc := 22) C dX0_cameFrom_22 (hk_came (by exact hi) (by exact hq)) (Or.inr rfl) (by first | decide | omega) (by first | decide | omega) ?_
  refine z_iload_n (pc := 23) C dX0_cameFrom_23 rfl ?_
  refine z_iald (pc := 24) C dX0_cameFrom_24 (Rw.get (rw_cam (by exact hw) (by exact hi) (by exact hq) (by first | decide | omega))) (by first | omega | decide | (simp only [unu, upt]; omega)) (by first | decide | omega) rfl ?_
  refine z_goto (pc := 25) (tgt := 29) C dX0_cameFrom_25 (by decide) ?_
  -- at 29: ireturn 
  exact z_iret (pc := 29) C hQ dX0_cameFrom_29 rfl rfl rfl (by decide) (by decide)
set_option maxHeartbeats 4000000 in
set_option maxRecDepth 100000 in
theorem ct_X0_give (l : Launch) (Ω : OmT) (A : AHp) (n a : Nat) : ZM l Ω yX0_give cX0_give 1 none rm_X0_give [rfO Ω a] (A) (n) (none) (A) (n) := by
  refine ZM_of (by decide) (Nat.le_of_ble_eq_true rfl) (fun E hE C hQ => ?_)
  exact z_vret (pc := 0) C hQ dX0_give_0 rfl rfl rfl (by decide) (by decide)
set_option maxHeartbeats 4000000 in
set_option maxRecDepth 100000 in
theorem ct_X9_inSlots (l : Launch) (Ω : OmT) (A : AHp) (n a : Nat) : ZM l Ω yX9_inSlots cX9_inSlots 1 (some .int) rm_X9_inSlots [rfO Ω a] (A) (n) (some (.int (nI 0))) (A) (n) := by
  refine ZM_of (by decide) (Nat.le_of_ble_eq_true rfl) (fun E hE C hQ => ?_)
  refine z_iconst (pc := 0) (v := nI 0) C dX9_inSlots_0 (by decide) ?_
  -- at 1: ireturn 
  exact z_iret (pc := 1) C hQ dX9_inSlots_1 rfl rfl rfl (by decide) (by decide)
set_option maxHeartbeats 4000000 in
set_option maxRecDepth 100000 in
theorem ct_X9_inLots (l : Launch) (Ω : OmT) (A : AHp) (n a : Nat) : ZM l Ω yX9_inLots cX9_inLots 1 (some .int) rm_X9_inLots [rfO Ω a] (A) (n) (some (.int (nI 0))) (A) (n) := by
  refine ZM_of (by decide) (Nat.le_of_ble_eq_true rfl) (fun E hE C hQ => ?_)
  refine z_iconst (pc := 0) (v := nI 0) C dX9_inLots_0 (by decide) ?_
  -- at 1: ireturn 
  exact z_iret (pc := 1) C hQ dX9_inLots_1 rfl rfl rfl (by decide) (by decide)
set_option maxHeartbeats 4000000 in
set_option maxRecDepth 100000 in
theorem ct_X9_lotCount (l : Launch) (Ω : OmT) (A : AHp) (n a : Nat) : ZM l Ω yX9_lotCount cX9_lotCount 1 (some .int) rm_X9_lotCount [rfO Ω a] (A) (n) (some (.int (nI 0))) (A) (n) := by
  refine ZM_of (by decide) (Nat.le_of_ble_eq_true rfl) (fun E hE C hQ => ?_)
  refine z_iconst (pc := 0) (v := nI 0) C dX9_lotCount_0 (by decide) ?_
  -- at 1: ireturn 
  exact z_iret (pc := 1) C hQ dX9_lotCount_1 rfl rfl rfl (by decide) (by decide)
set_option maxHeartbeats 4000000 in
set_option maxRecDepth 100000 in
theorem ct_X9_storedOfStuff (l : Launch) (Ω : OmT) (A : AHp) (n a : Nat) (x : Int32) : ZM l Ω yX9_storedOfStuff cX9_storedOfStuff 2 (some .int) rm_X9_storedOfStuff [rfO Ω a, .int x] (A) (n) (some (.int (nI 0))) (A) (n) := by
  refine ZM_of (by decide) (Nat.le_of_ble_eq_true rfl) (fun E hE C hQ => ?_)
  refine z_iconst (pc := 0) (v := nI 0) C dX9_storedOfStuff_0 (by decide) ?_
  -- at 1: ireturn 
  exact z_iret (pc := 1) C hQ dX9_storedOfStuff_1 rfl rfl rfl (by decide) (by decide)
