/-! ===== the reference: sums and looks ===== -/
set_option maxHeartbeats 4000000 in
set_option maxRecDepth 100000 in
theorem ct_X11_levelOf (l : Launch) (Ω : OmT) (σ : Sg) (u K L : Nat) (hu : u < 10) (hK : K ≤ 7) (eK : σ.1 11 13 u = nI K) (hL : L ≤ 20) (eL : σ.1 11 16 u = nI L) : ZM l Ω yX11_levelOf cX11_levelOf 5 (some .int) rm_X11_levelOf [rfO Ω 6, .int (nI u)] (hp Ω σ) (hN σ) (some (.int (mLevel σ u K L))) (hp Ω σ) (hN σ) := by
  refine ZM_of (by decide) (Nat.le_of_ble_eq_true rfl) (fun E hE C hQ => ?_)
  have loop3 : ∀ (j k : Nat), k + j = L → ZV l Ω E 0 0 58 [(0, rfO Ω 6), (1, .int (nI u)), (2, .int (mLevel σ u K k)), (3, .int (nI k))] [] (hp Ω σ) (hN σ) := by
    intro j
    induction j with
    | zero =>
      intro c hc
      refine z_iload_n (pc := 58) C dX11_levelOf_58 rfl ?_
      first | refine z_aload_n (pc := 59) C dX11_levelOf_59 rfl ?_ | refine z_aload_nN (pc := 59) C dX11_levelOf_59 rfl ?_
      refine z_getf (pc := 60) C dX11_levelOf_60 zf_X11_59_10 rfl rfl ?_
      refine z_iload_n (pc := 63) C dX11_levelOf_63 rfl ?_
      refine z_iald (pc := 64) (N := 10) C dX11_levelOf_64 rfl (by omega) (by decide) rfl ?_
      -- at 65: if_icmpge 
      rw [eL]
      refine z_icmp_geT (pc := 65) (tgt := 83) C dX11_levelOf_65 (by decide) (by omega) (by omega) (by omega) ?_
      refine z_iload_n (pc := 83) C dX11_levelOf_83 rfl ?_
      -- at 84: ireturn 
      obtain rfl : c = L := by omega
      exact z_iret (pc := 84) C hQ dX11_levelOf_84 rfl rfl rfl (by decide) (by decide)
    | succ j ih =>
      intro c hc
      refine z_iload_n (pc := 58) C dX11_levelOf_58 rfl ?_
      first | refine z_aload_n (pc := 59) C dX11_levelOf_59 rfl ?_ | refine z_aload_nN (pc := 59) C dX11_levelOf_59 rfl ?_
      refine z_getf (pc := 60) C dX11_levelOf_60 zf_X11_59_10 rfl rfl ?_
      refine z_iload_n (pc := 63) C dX11_levelOf_63 rfl ?_
      refine z_iald (pc := 64) (N := 10) C dX11_levelOf_64 rfl (by omega) (by decide) rfl ?_
      -- at 65: if_icmpge 
      rw [eL]
      refine z_icmp_geF (pc := 65) (tgt := 83) C dX11_levelOf_65 (by decide) (by omega) (by omega) (by omega) ?_
      refine z_iload_n (pc := 68) C dX11_levelOf_68 rfl ?_
      first | refine z_aload_n (pc := 69) C dX11_levelOf_69 rfl ?_ | refine z_aload_nN (pc := 69) C dX11_levelOf_69 rfl ?_
      refine z_iload_n (pc := 70) C dX11_levelOf_70 rfl ?_
      refine z_iload_n (pc := 71) C dX11_levelOf_71 rfl ?_
      refine z_callV (pc := 72) (ci := 10) C dX11_levelOf_72 zy_X11_lotSum kw_764 kw_765 rfl kw_855 rfl (ct_X11_lotSum l Ω σ u c hu (by omega)) rfl rfl ⟨⟨by decide, by decide⟩, by decide, by decide⟩ (Nat.le_of_ble_eq_true rfl) ?_; dsimp only [Option.toList_some, List.cons_append, List.nil_append]
      first | with_reducible refine z_iaddN (pc := 75) C dX11_levelOf_75 ?_ | refine z_iadd (pc := 75) C dX11_levelOf_75 ?_
      refine z_istore_n (pc := 76) C dX11_levelOf_76 (by rw [hE]; decide) ?_
      first | refine z_iincN (pc := 77) C dX11_levelOf_77 rfl (by rw [hE]; decide) ?_ | refine z_iinc (pc := 77) C dX11_levelOf_77 rfl rfl (by rw [hE]; decide) ?_
      refine z_goto (pc := 80) (tgt := 58) C dX11_levelOf_80 (by decide) ?_
      -- at 58
      have e : mLevel σ u K c + mLot σ u c = mLevel σ u K (c + 1) := by
        show _ = mHold σ u + l_sum (fun k => mSlot σ u k) K + (l_sum (fun k => mLot σ u k) c + mLot σ u c)
        rw [← Int32.add_assoc]
      have h9 := ih (c + 1) (by omega)
      rw [← e] at h9
      exact h9
  have loop2 : ∀ (j c k : Nat), c + j = 8 → k < K → (∀ q, q + (K - (k + 1)) = K → ZV l Ω E 0 0 8 [(0, rfO Ω 6), (1, .int (nI u)), (2, .int (mHold σ u + l_sum (fun k => mSlot σ u k) q)), (3, .int (nI q))] [] (hp Ω σ) (hN σ)) → ZV l Ω E 0 0 21 [(0, rfO Ω 6), (1, .int (nI u)), (2, .int (mHold σ u + l_sum (fun k => mSlot σ u k) k + l_sum (fun c => σ.1 11 14 ((7 * u + k) * 8 + c)) c)), (3, .int (nI k)), (4, .int (nI c))] [] (hp Ω σ) (hN σ) := by
    intro j
    induction j with
    | zero =>
      intro c k hc hk cont
      refine z_iload (pc := 21) C dX11_levelOf_21 rfl ?_
      refine z_bipush (pc := 23) (v := nI 8) C dX11_levelOf_23 (by decide) ?_
      -- at 25: if_icmpge 
      refine z_icmp_geT (pc := 25) (tgt := 50) C dX11_levelOf_25 (by decide) (by omega) (by omega) (by omega) ?_
      first | refine z_iincN (pc := 50) C dX11_levelOf_50 rfl (by rw [hE]; decide) ?_ | refine z_iinc (pc := 50) C dX11_levelOf_50 rfl rfl (by rw [hE]; decide) ?_
      refine z_goto (pc := 53) (tgt := 8) C dX11_levelOf_53 (by decide) ?_
      -- at 8
      obtain rfl : c = 8 := by omega
      refine z_pick [0, 1, 2, 3] rfl ?_
      have e : mHold σ u + l_sum (fun k => mSlot σ u k) k + l_sum (fun c => σ.1 11 14 ((7 * u + k) * 8 + c)) 8 = mHold σ u + l_sum (fun k => mSlot σ u k) (k + 1) := by
        show _ = mHold σ u + (l_sum (fun k => mSlot σ u k) k + mSlot σ u k)
        rw [← Int32.add_assoc]
      have h9 := cont (k + 1) (by omega)
      rw [← e] at h9
      exact h9
    | succ j ih =>
      intro c k hc hk cont
      refine z_iload (pc := 21) C dX11_levelOf_21 rfl ?_
      refine z_bipush (pc := 23) (v := nI 8) C dX11_levelOf_23 (by decide) ?_
      -- at 25: if_icmpge 
      refine z_icmp_geF (pc := 25) (tgt := 50) C dX11_levelOf_25 (by decide) (by omega) (by omega) (by omega) ?_
      refine z_iload_n (pc := 28) C dX11_levelOf_28 rfl ?_
      first | refine z_aload_n (pc := 29) C dX11_levelOf_29 rfl ?_ | refine z_aload_nN (pc := 29) C dX11_levelOf_29 rfl ?_
      refine z_getf (pc := 30) C dX11_levelOf_30 zf_X11_53_10 rfl rfl ?_
      first | refine z_aload_n (pc := 33) C dX11_levelOf_33 rfl ?_ | refine z_aload_nN (pc := 33) C dX11_levelOf_33 rfl ?_
      refine z_iload_n (pc := 34) C dX11_levelOf_34 rfl ?_
      refine z_iload_n (pc := 35) C dX11_levelOf_35 rfl ?_
      refine z_iload (pc := 36) C dX11_levelOf_36 rfl ?_
      refine z_callV (pc := 38) (ci := 10) C dX11_levelOf_38 zy_X11_slotAt kw_752 kw_753 rfl kw_851 rfl (ct_X11_slotAt l Ω _ _ _ _ _) rfl rfl ⟨⟨by decide, by decide⟩, by decide, by decide⟩ (Nat.le_of_ble_eq_true rfl) ?_; dsimp only [Option.toList_some, List.cons_append, List.nil_append]
      refine z_iald (pc := 41) (N := 560) C dX11_levelOf_41 rfl (by omega) (by decide) rfl ?_
      first | with_reducible refine z_iaddN (pc := 42) C dX11_levelOf_42 ?_ | refine z_iadd (pc := 42) C dX11_levelOf_42 ?_
      refine z_istore_n (pc := 43) C dX11_levelOf_43 (by rw [hE]; decide) ?_
      first | refine z_iincN (pc := 44) C dX11_levelOf_44 rfl (by rw [hE]; decide) ?_ | refine z_iinc (pc := 44) C dX11_levelOf_44 rfl rfl (by rw [hE]; decide) ?_
      refine z_goto (pc := 47) (tgt := 21) C dX11_levelOf_47 (by decide) ?_
      -- at 21
      have h9 := ih (c + 1) k (by omega) hk cont
      rw [show l_sum (fun c => σ.1 11 14 ((7 * u + k) * 8 + c)) (c + 1) = l_sum (fun c => σ.1 11 14 ((7 * u + k) * 8 + c)) c + σ.1 11 14 ((7 * u + k) * 8 + c) from rfl, ← Int32.add_assoc] at h9
      exact h9
  have loop1 : ∀ (j k : Nat), k + j = K → ZV l Ω E 0 0 8 [(0, rfO Ω 6), (1, .int (nI u)), (2, .int (mHold σ u + l_sum (fun k => mSlot σ u k) k)), (3, .int (nI k))] [] (hp Ω σ) (hN σ) := by
    intro j
    induction j with
    | zero =>
      intro c hc
      refine z_iload_n (pc := 8) C dX11_levelOf_8 rfl ?_
      first | refine z_aload_n (pc := 9) C dX11_levelOf_9 rfl ?_ | refine z_aload_nN (pc := 9) C dX11_levelOf_9 rfl ?_
      refine z_getf (pc := 10) C dX11_levelOf_10 zf_X11_50_10 rfl rfl ?_
      refine z_iload_n (pc := 13) C dX11_levelOf_13 rfl ?_
      refine z_iald (pc := 14) (N := 10) C dX11_levelOf_14 rfl (by omega) (by decide) rfl ?_
      -- at 15: if_icmpge 
      rw [eK]
      refine z_icmp_geT (pc := 15) (tgt := 56) C dX11_levelOf_15 (by decide) (by omega) (by omega) (by omega) ?_
      refine z_iconst (pc := 56) (v := nI 0) C dX11_levelOf_56 (by decide) ?_
      refine z_istore_n (pc := 57) C dX11_levelOf_57 (by rw [hE]; decide) ?_
      -- at 58: iload_3 
      obtain rfl : c = K := by omega
      have h9 := loop3 L 0 (by omega)
      have e : mLevel σ u c 0 = mHold σ u + l_sum (fun k => mSlot σ u k) c := by
        show _ + (0 : Int32) = _
        rw [Int32.add_zero]
      rw [e] at h9
      exact h9
    | succ j ih =>
      intro c hc
      refine z_iload_n (pc := 8) C dX11_levelOf_8 rfl ?_
      first | refine z_aload_n (pc := 9) C dX11_levelOf_9 rfl ?_ | refine z_aload_nN (pc := 9) C dX11_levelOf_9 rfl ?_
      refine z_getf (pc := 10) C dX11_levelOf_10 zf_X11_50_10 rfl rfl ?_
      refine z_iload_n (pc := 13) C dX11_levelOf_13 rfl ?_
      refine z_iald (pc := 14) (N := 10) C dX11_levelOf_14 rfl (by omega) (by decide) rfl ?_
      -- at 15: if_icmpge 
      rw [eK]
      refine z_icmp_geF (pc := 15) (tgt := 56) C dX11_levelOf_15 (by decide) (by omega) (by omega) (by omega) ?_
      refine z_iconst (pc := 18) (v := nI 0) C dX11_levelOf_18 (by decide) ?_
      refine z_istore (pc := 19) C dX11_levelOf_19 (by rw [hE]; decide) ?_
      -- at 21: iload 
      have h9 := loop2 8 0 c rfl (by omega) (fun q hq => ih q (by omega))
      rw [show l_sum (fun c_1 => σ.1 11 14 ((7 * u + c) * 8 + c_1)) 0 = 0 from rfl, Int32.add_zero] at h9
      exact h9
  first | refine z_aload_n (pc := 0) C dX11_levelOf_0 rfl ?_ | refine z_aload_nN (pc := 0) C dX11_levelOf_0 rfl ?_
  refine z_iload_n (pc := 1) C dX11_levelOf_1 rfl ?_
  refine z_callV (pc := 2) (ci := 10) C dX11_levelOf_2 zy_X11_sumOf kw_758 kw_759 rfl kw_853 rfl (ct_X11_sumOf l Ω σ u hu) rfl rfl ⟨⟨by decide, by decide⟩, by decide, by decide⟩ (Nat.le_of_ble_eq_true rfl) ?_; dsimp only [Option.toList_some, List.cons_append, List.nil_append]
  refine z_istore_n (pc := 5) C dX11_levelOf_5 (by rw [hE]; decide) ?_
  refine z_iconst (pc := 6) (v := nI 0) C dX11_levelOf_6 (by decide) ?_
  refine z_istore_n (pc := 7) C dX11_levelOf_7 (by rw [hE]; decide) ?_
  -- at 8: iload_3 
  have h9 := loop1 K 0 (by omega)
  rw [show l_sum (fun k => mSlot σ u k) 0 = 0 from rfl, Int32.add_zero] at h9
  exact h9
set_option maxHeartbeats 4000000 in
set_option maxRecDepth 100000 in
theorem ct_X11_about_n (l : Launch) (Ω : OmT) (σ : Sg) (hw : MW σ) (u w : Int32) (hu : ¬ isU σ.2.2.2 u) : ZM l Ω yX11_about cX11_about 3 (some .int) rm_X11_about [rfO Ω 6, .int u, .int w] (hp Ω σ) (hN σ) (some (.int (-1))) (hp Ω σ) (hN σ) := by
  refine ZM_of (by decide) (Nat.le_of_ble_eq_true rfl) (fun E hE C hQ => ?_)
  first | refine z_aload_n (pc := 0) C dX11_about_0 rfl ?_ | refine z_aload_nN (pc := 0) C dX11_about_0 rfl ?_
  refine z_iload_n (pc := 1) C dX11_about_1 rfl ?_
  refine z_callV (pc := 2) (ci := 10) C dX11_about_2 zy_X11_isUnit kw_692 kw_693 rfl kw_842 rfl (ct_X11_isUnit l Ω σ hw u) rfl rfl ⟨⟨by decide, by decide⟩, by decide, by decide⟩ (Nat.le_of_ble_eq_true rfl) ?_; dsimp only [Option.toList_some, List.cons_append, List.nil_append]
  -- at 5: ifne 
  refine z_ifneB (pc := 5) (tgt := 10) C dX11_about_5 (by decide) (fun h5 => absurd h5 hu) (fun h5 => ?_)
  refine z_iconst (pc := 8) (v := (-1)) C dX11_about_8 (by decide) ?_
  -- at 9: ireturn 
  exact z_iret (pc := 9) C hQ dX11_about_9 rfl rfl rfl (by decide) (by decide)
set_option maxHeartbeats 4000000 in
set_option maxRecDepth 100000 in
theorem ct_X11_about (l : Launch) (Ω : OmT) (σ : Sg) (hw : MW σ) (k K L : Nat) (hk : k < σ.2.2.2) (hK : K ≤ 7) (eK : σ.1 11 13 k = nI K) (hL : L ≤ 20) (eL : σ.1 11 16 k = nI L) (w : Int32) : ZM l Ω yX11_about cX11_about 3 (some .int) rm_X11_about [rfO Ω 6, .int (nI k), .int w] (hp Ω σ) (hN σ) (some (.int (r_about σ k K L w))) (hp Ω σ) (hN σ) := by
  refine ZM_of (by decide) (Nat.le_of_ble_eq_true rfl) (fun E hE C hQ => ?_)
  have hn := hw.1
  have hu : k < 10 := by omega
  have h0 : isU σ.2.2.2 (nI k) := isU_nI (by omega) hk
  first | refine z_aload_n (pc := 0) C dX11_about_0 rfl ?_ | refine z_aload_nN (pc := 0) C dX11_about_0 rfl ?_
  refine z_iload_n (pc := 1) C dX11_about_1 rfl ?_
  refine z_callV (pc := 2) (ci := 10) C dX11_about_2 zy_X11_isUnit kw_692 kw_693 rfl kw_842 rfl (ct_X11_isUnit l Ω σ hw (nI k)) rfl rfl ⟨⟨by decide, by decide⟩, by decide, by decide⟩ (Nat.le_of_ble_eq_true rfl) ?_; dsimp only [Option.toList_some, List.cons_append, List.nil_append]
  -- at 5: ifne 
  refine z_ifneB (pc := 5) (tgt := 10) C dX11_about_5 (by decide) (fun h5 => ?_) (fun h5 => absurd h0 h5)
  refine z_iload_n (pc := 10) C dX11_about_10 rfl ?_
  -- at 11: tableswitch 0 to 10
  by_cases w0 : w = nI 0
  · subst w0
    refine z_tabInN (pc := 11) (a := 0) (tgt := 68) C dX11_about_11 (by decide) (by decide) rfl (by decide) (by decide) ?_
    first | refine z_aload_n (pc := 68) C dX11_about_68 rfl ?_ | refine z_aload_nN (pc := 68) C dX11_about_68 rfl ?_
    refine z_getf (pc := 69) C dX11_about_69 zf_X11_9_10 rfl rfl ?_
    refine z_iload_n (pc := 72) C dX11_about_72 rfl ?_
    refine z_iald (pc := 73) (N := 10) C dX11_about_73 rfl (by omega) (by decide) rfl ?_
    -- at 74: ireturn 
    exact z_iret (pc := 74) C hQ dX11_about_74 rfl rfl rfl (by decide) (by decide)
  by_cases w1 : w = nI 1
  · subst w1
    refine z_tabInN (pc := 11) (a := 1) (tgt := 75) C dX11_about_11 (by decide) (by decide) rfl (by decide) (by decide) ?_
    first | refine z_aload_n (pc := 75) C dX11_about_75 rfl ?_ | refine z_aload_nN (pc := 75) C dX11_about_75 rfl ?_
    refine z_iload_n (pc := 76) C dX11_about_76 rfl ?_
    refine z_callV (pc := 77) (ci := 10) C dX11_about_77 zy_X11_sumOf kw_758 kw_759 rfl kw_853 rfl (ct_X11_sumOf l Ω σ k hu) rfl rfl ⟨⟨by decide, by decide⟩, by decide, by decide⟩ (Nat.le_of_ble_eq_true rfl) ?_; dsimp only [Option.toList_some, List.cons_append, List.nil_append]
    -- at 80: ireturn 
    exact z_iret (pc := 80) C hQ dX11_about_80 rfl rfl rfl (by decide) (by decide)
  by_cases w2 : w = nI 2
  · subst w2
    refine z_tabInN (pc := 11) (a := 2) (tgt := 81) C dX11_about_11 (by decide) (by decide) rfl (by decide) (by decide) ?_
    first | refine z_aload_n (pc := 81) C dX11_about_81 rfl ?_ | refine z_aload_nN (pc := 81) C dX11_about_81 rfl ?_
    refine z_iload_n (pc := 82) C dX11_about_82 rfl ?_
    refine z_callV (pc := 83) (ci := 10) C dX11_about_83 zy_X11_levelOf kw_770 kw_771 rfl kw_857 rfl (ct_X11_levelOf l Ω σ k K L hu hK eK hL eL) rfl rfl ⟨⟨by decide, by decide⟩, by decide, by decide⟩ (Nat.le_of_ble_eq_true rfl) ?_; dsimp only [Option.toList_some, List.cons_append, List.nil_append]
    first | refine z_aload_n (pc := 86) C dX11_about_86 rfl ?_ | refine z_aload_nN (pc := 86) C dX11_about_86 rfl ?_
    refine z_iload_n (pc := 87) C dX11_about_87 rfl ?_
    refine z_callV (pc := 88) (ci := 10) C dX11_about_88 zy_X11_sumOf kw_758 kw_759 rfl kw_853 rfl (ct_X11_sumOf l Ω σ k hu) rfl rfl ⟨⟨by decide, by decide⟩, by decide, by decide⟩ (Nat.le_of_ble_eq_true rfl) ?_; dsimp only [Option.toList_some, List.cons_append, List.nil_append]
    first | with_reducible refine z_isubN (pc := 91) C dX11_about_91 (by omega) ?_ | refine z_isub (pc := 91) C dX11_about_91 ?_
    first | refine z_aload_n (pc := 92) C dX11_about_92 rfl ?_ | refine z_aload_nN (pc := 92) C dX11_about_92 rfl ?_
    refine z_iload_n (pc := 93) C dX11_about_93 rfl ?_
    refine z_callV (pc := 94) (ci := 10) C dX11_about_94 zy_X11_lotSums kw_781 kw_782 rfl kw_858 rfl (ct_X11_lotSums l Ω σ k L hu hL eL) rfl rfl ⟨⟨by decide, by decide⟩, by decide, by decide⟩ (Nat.le_of_ble_eq_true rfl) ?_; dsimp only [Option.toList_some, List.cons_append, List.nil_append]
    first | with_reducible refine z_isubN (pc := 97) C dX11_about_97 (by omega) ?_ | refine z_isub (pc := 97) C dX11_about_97 ?_
    -- at 98: ireturn 
    exact z_iret (pc := 98) C hQ dX11_about_98 rfl rfl rfl (by decide) (by decide)
  by_cases w3 : w = nI 3
  · subst w3
    refine z_tabInN (pc := 11) (a := 3) (tgt := 99) C dX11_about_11 (by decide) (by decide) rfl (by decide) (by decide) ?_
    first | refine z_aload_n (pc := 99) C dX11_about_99 rfl ?_ | refine z_aload_nN (pc := 99) C dX11_about_99 rfl ?_
    refine z_iload_n (pc := 100) C dX11_about_100 rfl ?_
    refine z_callV (pc := 101) (ci := 10) C dX11_about_101 zy_X11_lotSums kw_781 kw_782 rfl kw_858 rfl (ct_X11_lotSums l Ω σ k L hu hL eL) rfl rfl ⟨⟨by decide, by decide⟩, by decide, by decide⟩ (Nat.le_of_ble_eq_true rfl) ?_; dsimp only [Option.toList_some, List.cons_append, List.nil_append]
    -- at 104: ireturn 
    exact z_iret (pc := 104) C hQ dX11_about_104 rfl rfl rfl (by decide) (by decide)
  by_cases w4 : w = nI 4
  · subst w4
    refine z_tabInN (pc := 11) (a := 4) (tgt := 105) C dX11_about_11 (by decide) (by decide) rfl (by decide) (by decide) ?_
    first | refine z_aload_n (pc := 105) C dX11_about_105 rfl ?_ | refine z_aload_nN (pc := 105) C dX11_about_105 rfl ?_
    refine z_getf (pc := 106) C dX11_about_106 zf_X11_59_10 rfl rfl ?_
    refine z_iload_n (pc := 109) C dX11_about_109 rfl ?_
    refine z_iald (pc := 110) (N := 10) C dX11_about_110 rfl (by omega) (by decide) rfl ?_
    -- at 111: ireturn 
    exact z_iret (pc := 111) C hQ dX11_about_111 rfl rfl rfl (by decide) (by decide)
  by_cases w5 : w = nI 5
  · subst w5
    refine z_tabInN (pc := 11) (a := 5) (tgt := 112) C dX11_about_11 (by decide) (by decide) rfl (by decide) (by decide) ?_
    first | refine z_aload_n (pc := 112) C dX11_about_112 rfl ?_ | refine z_aload_nN (pc := 112) C dX11_about_112 rfl ?_
    refine z_getf (pc := 113) C dX11_about_113 zf_X11_13_10 rfl rfl ?_
    refine z_iconst (pc := 116) (v := nI 2) C dX11_about_116 (by decide) ?_
    refine z_iload_n (pc := 117) C dX11_about_117 rfl ?_
    first | with_reducible refine z_imulN (pc := 118) C dX11_about_118 ?_ | refine z_imul (pc := 118) C dX11_about_118 ?_
    refine z_iald (pc := 119) (N := 20) C dX11_about_119 rfl (by omega) (by decide) rfl ?_
    -- at 120: ireturn 
    exact z_iret (pc := 120) C hQ dX11_about_120 rfl rfl rfl (by decide) (by decide)
  by_cases w6 : w = nI 6
  · subst w6
    refine z_tabInN (pc := 11) (a := 6) (tgt := 121) C dX11_about_11 (by decide) (by decide) rfl (by decide) (by decide) ?_
    first | refine z_aload_n (pc := 121) C dX11_about_121 rfl ?_ | refine z_aload_nN (pc := 121) C dX11_about_121 rfl ?_
    refine z_getf (pc := 122) C dX11_about_122 zf_X11_13_10 rfl rfl ?_
    refine z_iconst (pc := 125) (v := nI 2) C dX11_about_125 (by decide) ?_
    refine z_iload_n (pc := 126) C dX11_about_126 rfl ?_
    first | with_reducible refine z_imulN (pc := 127) C dX11_about_127 ?_ | refine z_imul (pc := 127) C dX11_about_127 ?_
    refine z_iconst (pc := 128) (v := nI 1) C dX11_about_128 (by decide) ?_
    first | with_reducible refine z_iaddN (pc := 129) C dX11_about_129 ?_ | refine z_iadd (pc := 129) C dX11_about_129 ?_
    refine z_iald (pc := 130) (N := 20) C dX11_about_130 rfl (by omega) (by decide) rfl ?_
    -- at 131: ireturn 
    exact z_iret (pc := 131) C hQ dX11_about_131 rfl rfl rfl (by decide) (by decide)
  by_cases w7 : w = nI 7
  · subst w7
    refine z_tabInN (pc := 11) (a := 7) (tgt := 132) C dX11_about_11 (by decide) (by decide) rfl (by decide) (by decide) ?_
    first | refine z_aload_n (pc := 132) C dX11_about_132 rfl ?_ | refine z_aload_nN (pc := 132) C dX11_about_132 rfl ?_
    refine z_getf (pc := 133) C dX11_about_133 zf_X11_46_10 rfl rfl ?_
    refine z_iload_n (pc := 136) C dX11_about_136 rfl ?_
    refine z_zald (pc := 137) (N := 10) C dX11_about_137 rfl (by omega) (by decide) rfl ?_
    -- at 138: ifeq 
    refine z_if_eq (pc := 138) (tgt := 145) C dX11_about_138 (by decide) (fun h => ?_) (fun h => ?_)
    · refine z_iconst (pc := 145) (v := nI 0) C dX11_about_145 (by decide) ?_
      -- at 146: ireturn 
      exact z_iret (pc := 146) C hQ dX11_about_146 (by simp [r_about, w0, w1, w2, w3, w4, w5, w6, h]) rfl rfl (by decide) (by decide)
    · refine z_iconst (pc := 141) (v := nI 1) C dX11_about_141 (by decide) ?_
      refine z_goto (pc := 142) (tgt := 146) C dX11_about_142 (by decide) ?_
      -- at 146: ireturn 
      exact z_iret (pc := 146) C hQ dX11_about_146 (by simp [r_about, w0, w1, w2, w3, w4, w5, w6, h]) rfl rfl (by decide) (by decide)
  by_cases w8 : w = nI 8
  · subst w8
    refine z_tabInN (pc := 11) (a := 8) (tgt := 147) C dX11_about_11 (by decide) (by decide) rfl (by decide) (by decide) ?_
    first | refine z_aload_n (pc := 147) C dX11_about_147 rfl ?_ | refine z_aload_nN (pc := 147) C dX11_about_147 rfl ?_
    refine z_iload_n (pc := 148) C dX11_about_148 rfl ?_
    refine z_callV (pc := 149) (ci := 10) C dX11_about_149 zy_X11_spiltOf kw_784 kw_785 rfl kw_859 rfl (ct_X11_spiltOf l Ω σ k hu) rfl rfl ⟨⟨by decide, by decide⟩, by decide, by decide⟩ (Nat.le_of_ble_eq_true rfl) ?_; dsimp only [Option.toList_some, List.cons_append, List.nil_append]
    refine z_l2i (pc := 152) C dX11_about_152 rfl ?_
    -- at 153: ireturn 
    exact z_iret (pc := 153) C hQ dX11_about_153 rfl rfl rfl (by decide) (by decide)
  by_cases w9 : w = nI 9
  · subst w9
    refine z_tabInN (pc := 11) (a := 9) (tgt := 154) C dX11_about_11 (by decide) (by decide) rfl (by decide) (by decide) ?_
    first | refine z_aload_n (pc := 154) C dX11_about_154 rfl ?_ | refine z_aload_nN (pc := 154) C dX11_about_154 rfl ?_
    refine z_iload_n (pc := 155) C dX11_about_155 rfl ?_
    refine z_iconst (pc := 156) (v := nI 0) C dX11_about_156 (by decide) ?_
    refine z_callV (pc := 157) (ci := 10) C dX11_about_157 zy_X11_gave kw_787 kw_788 rfl kw_860 rfl (ct_X11_gave l Ω σ k 0 hu (by decide)) rfl rfl ⟨⟨by decide, by decide⟩, by decide, by decide⟩ (Nat.le_of_ble_eq_true rfl) ?_; dsimp only [Option.toList_some, List.cons_append, List.nil_append]
    -- at 160: ireturn 
    exact z_iret (pc := 160) C hQ dX11_about_160 rfl rfl rfl (by decide) (by decide)
  by_cases w10 : w = nI 10
  · subst w10
    refine z_tabInN (pc := 11) (a := 10) (tgt := 161) C dX11_about_11 (by decide) (by decide) rfl (by decide) (by decide) ?_
    first | refine z_aload_n (pc := 161) C dX11_about_161 rfl ?_ | refine z_aload_nN (pc := 161) C dX11_about_161 rfl ?_
    refine z_iload_n (pc := 162) C dX11_about_162 rfl ?_
    refine z_iconst (pc := 163) (v := nI 1) C dX11_about_163 (by decide) ?_
    refine z_callV (pc := 164) (ci := 10) C dX11_about_164 zy_X11_gave kw_787 kw_788 rfl kw_860 rfl (ct_X11_gave l Ω σ k 1 hu (by decide)) rfl rfl ⟨⟨by decide, by decide⟩, by decide, by decide⟩ (Nat.le_of_ble_eq_true rfl) ?_; dsimp only [Option.toList_some, List.cons_append, List.nil_append]
    -- at 167: ireturn 
    exact z_iret (pc := 167) C hQ dX11_about_167 rfl rfl rfl (by decide) (by decide)
  refine z_tabOut (pc := 11) (tgt := 168) C dX11_about_11 (sw_out 10 (by decide) (fun j hj => by rcases (show j = 0 ∨ j = 1 ∨ j = 2 ∨ j = 3 ∨ j = 4 ∨ j = 5 ∨ j = 6 ∨ j = 7 ∨ j = 8 ∨ j = 9 ∨ j = 10 by omega) with rfl | rfl | rfl | rfl | rfl | rfl | rfl | rfl | rfl | rfl | rfl <;> assumption)) (by decide) ?_
  refine z_iconst (pc := 168) (v := (-1)) C dX11_about_168 (by decide) ?_
  -- at 169: ireturn 
  exact z_iret (pc := 169) C hQ dX11_about_169 (by simp [r_about, w0, w1, w2, w3, w4, w5, w6, w7, w8, w9, w10]) rfl rfl (by decide) (by decide)
set_option maxHeartbeats 4000000 in
set_option maxRecDepth 100000 in
theorem ct_X11_count (l : Launch) (Ω : OmT) (σ : Sg) (hw : MW σ) (w : Int32) : ZM l Ω yX11_count cX11_count 4 (some .int) rm_X11_count [rfO Ω 6, .int w] (hp Ω σ) (hN σ) (some (.int (r_count σ w))) (hp Ω σ) (hN σ) := by
  refine ZM_of (by decide) (Nat.le_of_ble_eq_true rfl) (fun E hE C hQ => ?_)
  have hn := hw.1
  refine z_iconst (pc := 0) (v := nI 0) C dX11_count_0 (by decide) ?_
  refine z_istore_n (pc := 1) C dX11_count_1 (by rw [hE]; decide) ?_
  refine z_iload_n (pc := 2) C dX11_count_2 rfl ?_
  -- at 3: tableswitch 0 to 3
  by_cases w0 : w = nI 0
  · subst w0
    refine z_tabInN (pc := 3) (a := 0) (tgt := 32) C dX11_count_3 (by decide) (by decide) rfl (by decide) (by decide) ?_
    first | refine z_aload_n (pc := 32) C dX11_count_32 rfl ?_ | refine z_aload_nN (pc := 32) C dX11_count_32 rfl ?_
    refine z_getf (pc := 33) C dX11_count_33 zf_X11_93_10 rfl rfl ?_
    -- at 36: ireturn 
    exact z_iret (pc := 36) C hQ dX11_count_36 rfl rfl rfl (by decide) (by decide)
  by_cases w1 : w = nI 1
  · subst w1
    refine z_tabInN (pc := 3) (a := 1) (tgt := 37) C dX11_count_3 (by decide) (by decide) rfl (by decide) (by decide) ?_
    first | refine z_aload_n (pc := 37) C dX11_count_37 rfl ?_ | refine z_aload_nN (pc := 37) C dX11_count_37 rfl ?_
    refine z_getf (pc := 38) C dX11_count_38 zf_X11_162_10 rfl rfl ?_
    -- at 41: ireturn 
    exact z_iret (pc := 41) C hQ dX11_count_41 rfl rfl rfl (by decide) (by decide)
  by_cases w2 : w = nI 2
  · subst w2
    refine z_tabInN (pc := 3) (a := 2) (tgt := 42) C dX11_count_3 (by decide) (by decide) rfl (by decide) (by decide) ?_
    first | refine z_aload_n (pc := 42) C dX11_count_42 rfl ?_ | refine z_aload_nN (pc := 42) C dX11_count_42 rfl ?_
    refine z_getf (pc := 43) C dX11_count_43 zf_X11_189_10 rfl rfl ?_
    -- at 46: ireturn 
    exact z_iret (pc := 46) C hQ dX11_count_46 rfl rfl rfl (by decide) (by decide)
  by_cases w3 : w = nI 3
  · subst w3
    refine z_tabInN (pc := 3) (a := 3) (tgt := 47) C dX11_count_3 (by decide) (by decide) rfl (by decide) (by decide) ?_
    have loop : ∀ (j u : Nat), u + j = σ.2.2.2 → ZV l Ω E 0 0 49 [(0, rfO Ω 6), (1, .int (nI 3)), (2, .int (l_sum (fun u => if σ.1 11 12 u = 0 then nI 0 else nI 1) u)), (3, .int (nI u))] [] (hp Ω σ) (hN σ) := by
      intro j
      induction j with
      | zero =>
        intro u hu
        refine z_iload_n (pc := 49) C dX11_count_49 rfl ?_
        first | refine z_aload_n (pc := 50) C dX11_count_50 rfl ?_ | refine z_aload_nN (pc := 50) C dX11_count_50 rfl ?_
        refine z_getf (pc := 51) C dX11_count_51 zf_X11_93_10 rfl rfl ?_
        -- at 54: if_icmpge 
        rw [hw.2.1]
        refine z_icmp_geT (pc := 54) (tgt := 80) C dX11_count_54 (by decide) (by omega) (by omega) (by omega) ?_
        refine z_iload_n (pc := 80) C dX11_count_80 rfl ?_
        -- at 81: ireturn 
        obtain rfl : u = σ.2.2.2 := by omega
        exact z_iret (pc := 81) C hQ dX11_count_81 rfl rfl rfl (by decide) (by decide)
      | succ j ih =>
        intro u hu
        refine z_iload_n (pc := 49) C dX11_count_49 rfl ?_
        first | refine z_aload_n (pc := 50) C dX11_count_50 rfl ?_ | refine z_aload_nN (pc := 50) C dX11_count_50 rfl ?_
        refine z_getf (pc := 51) C dX11_count_51 zf_X11_93_10 rfl rfl ?_
        -- at 54: if_icmpge 
        rw [hw.2.1]
        refine z_icmp_geF (pc := 54) (tgt := 80) C dX11_count_54 (by decide) (by omega) (by omega) (by omega) ?_
        refine z_iload_n (pc := 57) C dX11_count_57 rfl ?_
        first | refine z_aload_n (pc := 58) C dX11_count_58 rfl ?_ | refine z_aload_nN (pc := 58) C dX11_count_58 rfl ?_
        refine z_getf (pc := 59) C dX11_count_59 zf_X11_46_10 rfl rfl ?_
        refine z_iload_n (pc := 62) C dX11_count_62 rfl ?_
        refine z_zald (pc := 63) (N := 10) C dX11_count_63 rfl (by omega) (by decide) rfl ?_
        -- at 64: ifeq 
        have h9 := ih (u + 1) (by omega)
        rw [show l_sum (fun u => if σ.1 11 12 u = 0 then nI 0 else nI 1) (u + 1) = l_sum (fun u => if σ.1 11 12 u = 0 then nI 0 else nI 1) u + (if σ.1 11 12 u = 0 then nI 0 else nI 1) from rfl] at h9
        refine z_if_eq (pc := 64) (tgt := 71) C dX11_count_64 (by decide) (fun h => ?_) (fun h => ?_)
        · rw [if_pos h] at h9
          refine z_iconst (pc := 71) (v := nI 0) C dX11_count_71 (by decide) ?_
          refine z_iadd (pc := 72) C dX11_count_72 ?_
          refine z_istore_n (pc := 73) C dX11_count_73 (by rw [hE]; decide) ?_
          first | refine z_iincN (pc := 74) C dX11_count_74 rfl (by rw [hE]; decide) ?_ | refine z_iinc (pc := 74) C dX11_count_74 rfl rfl (by rw [hE]; decide) ?_
          refine z_goto (pc := 77) (tgt := 49) C dX11_count_77 (by decide) ?_
          -- at 49
          exact h9
        · rw [if_neg h] at h9
          refine z_iconst (pc := 67) (v := nI 1) C dX11_count_67 (by decide) ?_
          refine z_goto (pc := 68) (tgt := 72) C dX11_count_68 (by decide) ?_
          -- at 72
          refine z_iadd (pc := 72) C dX11_count_72 ?_
          refine z_istore_n (pc := 73) C dX11_count_73 (by rw [hE]; decide) ?_
          first | refine z_iincN (pc := 74) C dX11_count_74 rfl (by rw [hE]; decide) ?_ | refine z_iinc (pc := 74) C dX11_count_74 rfl rfl (by rw [hE]; decide) ?_
          refine z_goto (pc := 77) (tgt := 49) C dX11_count_77 (by decide) ?_
          -- at 49
          exact h9
    refine z_iconst (pc := 47) (v := nI 0) C dX11_count_47 (by decide) ?_
    refine z_istore_n (pc := 48) C dX11_count_48 (by rw [hE]; decide) ?_
    -- at 49: iload_3 
    exact loop σ.2.2.2 0 (by omega)
  refine z_tabOut (pc := 3) (tgt := 82) C dX11_count_3 (sw_out 3 (by decide) (fun j hj => by rcases (show j = 0 ∨ j = 1 ∨ j = 2 ∨ j = 3 by omega) with rfl | rfl | rfl | rfl <;> assumption)) (by decide) ?_
  refine z_iconst (pc := 82) (v := (-1)) C dX11_count_82 (by decide) ?_
  -- at 83: ireturn 
  exact z_iret (pc := 83) C hQ dX11_count_83 (by simp [r_count, w0, w1, w2, w3]) rfl rfl (by decide) (by decide)
set_option maxHeartbeats 4000000 in
set_option maxRecDepth 100000 in
theorem ct_X11_set_n (l : Launch) (Ω : OmT) (σ : Sg) (hw : MW σ) (u j x : Int32) (hu : ¬ isU σ.2.2.2 u) : ZM l Ω yX11_set cX11_set 5 (some .int) rm_X11_set [rfO Ω 6, .int u, .int j, .int x] (hp Ω σ) (hN σ) (some (.int (-1))) (hp Ω σ) (hN σ) := by
  refine ZM_of (by decide) (Nat.le_of_ble_eq_true rfl) (fun E hE C hQ => ?_)
  first | refine z_aload_n (pc := 0) C dX11_set_0 rfl ?_ | refine z_aload_nN (pc := 0) C dX11_set_0 rfl ?_
  refine z_iload_n (pc := 1) C dX11_set_1 rfl ?_
  refine z_callV (pc := 2) (ci := 10) C dX11_set_2 zy_X11_isUnit kw_692 kw_693 rfl kw_842 rfl (ct_X11_isUnit l Ω σ hw u) rfl rfl ⟨⟨by decide, by decide⟩, by decide, by decide⟩ (Nat.le_of_ble_eq_true rfl) ?_; dsimp only [Option.toList_some, List.cons_append, List.nil_append]
  -- at 5: ifne 
  refine z_ifneB (pc := 5) (tgt := 10) C dX11_set_5 (by decide) (fun h5 => absurd h5 hu) (fun h5 => ?_)
  refine z_iconst (pc := 8) (v := (-1)) C dX11_set_8 (by decide) ?_
  -- at 9: ireturn 
  exact z_iret (pc := 9) C hQ dX11_set_9 rfl rfl rfl (by decide) (by decide)
set_option maxHeartbeats 4000000 in
set_option maxRecDepth 100000 in
theorem ct_X11_set (l : Launch) (Ω : OmT) (σ : Sg) (hw : MW σ) (k : Nat) (hk : k < σ.2.2.2) (j x : Int32) : ZM l Ω yX11_set cX11_set 5 (some .int) rm_X11_set [rfO Ω 6, .int (nI k), .int j, .int x] (hp Ω σ) (hN σ) (some (.int (r_set σ k j x))) (hp Ω (s_set σ k j x)) (hN σ) := by
  refine ZM_of (by decide) (Nat.le_of_ble_eq_true rfl) (fun E hE C hQ => ?_)
  have hn := hw.1
  have h0 : isU σ.2.2.2 (nI k) := isU_nI (by omega) hk
  have hu4 := ust_le (σ.2.2.1 k)
  obtain ⟨e1, e2⟩ := hw.2.2 k hk
  first | refine z_aload_n (pc := 0) C dX11_set_0 rfl ?_ | refine z_aload_nN (pc := 0) C dX11_set_0 rfl ?_
  refine z_iload_n (pc := 1) C dX11_set_1 rfl ?_
  refine z_callV (pc := 2) (ci := 10) C dX11_set_2 zy_X11_isUnit kw_692 kw_693 rfl kw_842 rfl (ct_X11_isUnit l Ω σ hw _) rfl rfl ⟨⟨by decide, by decide⟩, by decide, by decide⟩ (Nat.le_of_ble_eq_true rfl) ?_; dsimp only [Option.toList_some, List.cons_append, List.nil_append]
  refine z_ifneB (pc := 5) (tgt := 10) C dX11_set_5 (by decide) (fun h5 => ?_) (fun h5 => ?_)
  · first | refine z_aload_n (pc := 10) C dX11_set_10 rfl ?_ | refine z_aload_nN (pc := 10) C dX11_set_10 rfl ?_
    refine z_iload_n (pc := 11) C dX11_set_11 rfl ?_
    refine z_callV (pc := 12) (ci := 10) C dX11_set_12 zy_X11_settings kw_710 kw_711 rfl kw_844 rfl (ct_X11_settings l Ω σ hw k hk) rfl rfl ⟨⟨by decide, by decide⟩, by decide, by decide⟩ (Nat.le_of_ble_eq_true rfl) ?_; dsimp only [Option.toList_some, List.cons_append, List.nil_append]
    first | with_reducible refine z_if_neX (pc := 15) (tgt := 21) C dX11_set_15 (by decide) (by omega) (fun h15 => ?_) (fun h15 => ?_) | refine z_if_ne (pc := 15) (tgt := 21) C dX11_set_15 (by decide) (fun h15 => ?_) (fun h15 => ?_)
    · refine z_iload_n (pc := 21) C dX11_set_21 rfl ?_
      refine z_iconst (pc := 22) (v := nI 0) C dX11_set_22 (by decide) ?_
      first | refine z_aload_n (pc := 23) C dX11_set_23 rfl ?_ | refine z_aload_nN (pc := 23) C dX11_set_23 rfl ?_
      refine z_iload_n (pc := 24) C dX11_set_24 rfl ?_
      refine z_callV (pc := 25) (ci := 10) C dX11_set_25 zy_X11_settings kw_710 kw_711 rfl kw_844 rfl (ct_X11_settings l Ω σ hw k hk) rfl rfl ⟨⟨by decide, by decide⟩, by decide, by decide⟩ (Nat.le_of_ble_eq_true rfl) ?_; dsimp only [Option.toList_some, List.cons_append, List.nil_append]
      refine z_iconst (pc := 28) (v := nI 1) C dX11_set_28 (by decide) ?_
      refine z_isub (pc := 29) C dX11_set_29 ?_
      refine z_callS (pc := 30) C dX11_set_30 zy_X11_isIn kw_685 kw_686 (ct_X11_isIn l Ω _ _ _ _ _) rfl rfl ⟨⟨by decide, by decide⟩, by decide, by decide⟩ (Nat.le_of_ble_eq_true rfl) ?_; dsimp only [Option.toList_some, List.cons_append, List.nil_append]
      refine z_ifneB (pc := 33) (tgt := 38) C dX11_set_33 (by decide) (fun h33 => ?_) (fun h33 => ?_)
      · obtain ⟨p, hp1, rfl⟩ := isU_of (by omega) h33
        have tp := tn_nI (show p < 2147483648 by omega)
        refine z_iload_n (pc := 38) C dX11_set_38 rfl ?_
        first | refine z_aload_n (pc := 39) C dX11_set_39 rfl ?_ | refine z_aload_nN (pc := 39) C dX11_set_39 rfl ?_
        refine z_getf (pc := 40) C dX11_set_40 zf_X11_9_10 rfl rfl ?_
        refine z_iload_n (pc := 43) C dX11_set_43 rfl ?_
        refine z_iald (pc := 44) (N := 10) C dX11_set_44 rfl (by omega) (by decide) rfl ?_; rw [e1]
        refine z_iconst (pc := 45) (v := nI 5) C dX11_set_45 (by decide) ?_
        first | with_reducible refine z_icmp_neX (pc := 46) (tgt := 53) C dX11_set_46 (by decide) (by omega) (by omega) (fun h46 => ?_) (fun h46 => ?_) | refine z_icmp_ne (pc := 46) (tgt := 53) C dX11_set_46 (by decide) (fun h46 => ?_) (fun h46 => ?_)
        · refine z_iconst (pc := 53) (v := nI 0) C dX11_set_53 (by decide) ?_
          first | refine z_aload_n (pc := 54) C dX11_set_54 rfl ?_ | refine z_aload_nN (pc := 54) C dX11_set_54 rfl ?_
          refine z_getf (pc := 55) C dX11_set_55 zf_X11_9_10 rfl rfl ?_
          refine z_iload_n (pc := 58) C dX11_set_58 rfl ?_
          refine z_iald (pc := 59) (N := 10) C dX11_set_59 rfl (by omega) (by decide) rfl ?_; rw [e1]
          refine z_iconst (pc := 60) (v := nI 5) C dX11_set_60 (by decide) ?_
          first | with_reducible refine z_icmp_neX (pc := 61) (tgt := 69) C dX11_set_61 (by decide) (by omega) (by omega) (fun h61 => ?_) (fun h61 => ?_) | refine z_icmp_ne (pc := 61) (tgt := 69) C dX11_set_61 (by decide) (fun h61 => ?_) (fun h61 => ?_)
          · first
            | exact absurd h46 h61
            |
              (first | refine z_aload_n (pc := 69) C dX11_set_69 rfl ?_ | refine z_aload_nN (pc := 69) C dX11_set_69 rfl ?_
               refine z_getf (pc := 70) C dX11_set_70 zf_X11_9_10 rfl rfl ?_
               refine z_iload_n (pc := 73) C dX11_set_73 rfl ?_
               refine z_iald (pc := 74) (N := 10) C dX11_set_74 rfl (by omega) (by decide) rfl ?_; rw [e1]
               refine z_bipush (pc := 75) (v := nI 6) C dX11_set_75 (by decide) ?_
               first | with_reducible refine z_icmp_neX (pc := 77) (tgt := 86) C dX11_set_77 (by decide) (by omega) (by omega) (fun h77 => ?_) (fun h77 => ?_) | refine z_icmp_ne (pc := 77) (tgt := 86) C dX11_set_77 (by decide) (fun h77 => ?_) (fun h77 => ?_)
               · refine z_bipush (pc := 86) (v := nI 10) C dX11_set_86 (by decide) ?_
                 refine z_callS (pc := 88) C dX11_set_88 zy_X11_isIn kw_685 kw_686 (ct_X11_isIn l Ω _ _ _ _ _) rfl rfl ⟨⟨by decide, by decide⟩, by decide, by decide⟩ (Nat.le_of_ble_eq_true rfl) ?_; dsimp only [Option.toList_some, List.cons_append, List.nil_append]
                 refine z_ifneB (pc := 91) (tgt := 97) C dX11_set_91 (by decide) (fun h91 => ?_) (fun h91 => ?_)
                 · first | refine z_aload_n (pc := 97) C dX11_set_97 rfl ?_ | refine z_aload_nN (pc := 97) C dX11_set_97 rfl ?_
                   refine z_iload_n (pc := 98) C dX11_set_98 rfl ?_
                   refine z_iload_n (pc := 99) C dX11_set_99 rfl ?_
                   refine z_callV (pc := 100) (ci := 10) C dX11_set_100 zy_X11_told kw_713 kw_714 rfl kw_715 rfl (ct_X11_told l Ω σ hw k hk _) rfl rfl ⟨⟨by decide, by decide⟩, by decide, by decide⟩ (Nat.le_of_ble_eq_true rfl) ?_; dsimp only [Option.toList_some, List.cons_append, List.nil_append]
                   refine z_istore (pc := 103) C dX11_set_103 (by rw [hE]; decide) ?_
                   first | refine z_aload_n (pc := 105) C dX11_set_105 rfl ?_ | refine z_aload_nN (pc := 105) C dX11_set_105 rfl ?_
                   refine z_getf (pc := 106) C dX11_set_106 zf_X11_9_10 rfl rfl ?_
                   refine z_iload_n (pc := 109) C dX11_set_109 rfl ?_
                   refine z_iald (pc := 110) (N := 10) C dX11_set_110 rfl (by omega) (by decide) rfl ?_; rw [e1]
                   refine z_iconst (pc := 111) (v := nI 5) C dX11_set_111 (by decide) ?_
                   first | with_reducible refine z_icmp_neX (pc := 112) (tgt := 125) C dX11_set_112 (by decide) (by omega) (by omega) (fun h112 => ?_) (fun h112 => ?_) | refine z_icmp_ne (pc := 112) (tgt := 125) C dX11_set_112 (by decide) (fun h112 => ?_) (fun h112 => ?_)
                   · first
                     | exact absurd h61 h112
                     |
                       (first | refine z_aload_n (pc := 125) C dX11_set_125 rfl ?_ | refine z_aload_nN (pc := 125) C dX11_set_125 rfl ?_
                        refine z_getf (pc := 126) C dX11_set_126 zf_X11_9_10 rfl rfl ?_
                        refine z_iload_n (pc := 129) C dX11_set_129 rfl ?_
                        refine z_iald (pc := 130) (N := 10) C dX11_set_130 rfl (by omega) (by decide) rfl ?_; rw [e1]
                        refine z_bipush (pc := 131) (v := nI 6) C dX11_set_131 (by decide) ?_
                        first | with_reducible refine z_icmp_neX (pc := 133) (tgt := 146) C dX11_set_133 (by decide) (by omega) (by omega) (fun h133 => ?_) (fun h133 => ?_) | refine z_icmp_ne (pc := 133) (tgt := 146) C dX11_set_133 (by decide) (fun h133 => ?_) (fun h133 => ?_)
                        · first | refine z_aload_n (pc := 146) C dX11_set_146 rfl ?_ | refine z_aload_nN (pc := 146) C dX11_set_146 rfl ?_
                          refine z_getf (pc := 147) C dX11_set_147 zf_X11_25_10 rfl rfl ?_
                          refine z_iconst (pc := 150) (v := nI 4) C dX11_set_150 (by decide) ?_
                          refine z_iload_n (pc := 151) C dX11_set_151 rfl ?_
                          first | with_reducible refine z_imulN (pc := 152) C dX11_set_152 ?_ | refine z_imul (pc := 152) C dX11_set_152 ?_
                          refine z_iload_n (pc := 153) C dX11_set_153 rfl ?_
                          first | with_reducible refine z_iaddN (pc := 154) C dX11_set_154 ?_ | refine z_iadd (pc := 154) C dX11_set_154 ?_
                          refine z_iload_n (pc := 155) C dX11_set_155 rfl ?_
                          refine z_iast (pc := 156) (N := 40) C dX11_set_156 rfl (by omega) (by decide) (hp_m 5 (by decide) hn (by decide)) ?_
                          refine z_iload (pc := 157) C dX11_set_157 rfl ?_
                          exact z_iret (pc := 159) C hQ dX11_set_159 (by clear hQ C hE; first | rfl | (simp [r_set, s_set, lo_set, hi_set, h5, h15, h33, tp, h46, h61, h77, h91, h112, h133]; done) | (simp_all [r_set, s_set, lo_set, hi_set]; done)) (by clear hQ C hE; first | rfl | (simp [r_set, s_set, lo_set, hi_set, h5, h15, h33, tp, h46, h61, h77, h91, h112, h133]; done) | (simp_all [r_set, s_set, lo_set, hi_set]; done)) (by clear hQ C hE; first | rfl | (simp [r_set, s_set, lo_set, hi_set, h5, h15, h33, tp, h46, h61, h77, h91, h112, h133]; done) | (simp_all [r_set, s_set, lo_set, hi_set]; done)) (by decide) (by decide)
                        · first | refine z_aload_n (pc := 136) C dX11_set_136 rfl ?_ | refine z_aload_nN (pc := 136) C dX11_set_136 rfl ?_
                          refine z_getf (pc := 137) C dX11_set_137 zf_X11_34_10 rfl rfl ?_
                          refine z_iload_n (pc := 140) C dX11_set_140 rfl ?_
                          refine z_iload_n (pc := 141) C dX11_set_141 rfl ?_
                          refine z_iast (pc := 142) (N := 10) C dX11_set_142 rfl (by omega) (by decide) (hp_m 8 (by decide) hn (by decide)) ?_
                          refine z_goto (pc := 143) (tgt := 157) C dX11_set_143 (by decide) ?_
                          refine z_iload (pc := 157) C dX11_set_157 rfl ?_
                          exact z_iret (pc := 159) C hQ dX11_set_159 (by clear hQ C hE; first | rfl | (simp [r_set, s_set, lo_set, hi_set, h5, h15, h33, tp, h46, h61, h77, h91, h112, h133]; done) | (simp_all [r_set, s_set, lo_set, hi_set]; done)) (by clear hQ C hE; first | rfl | (simp [r_set, s_set, lo_set, hi_set, h5, h15, h33, tp, h46, h61, h77, h91, h112, h133]; done) | (simp_all [r_set, s_set, lo_set, hi_set]; done)) (by clear hQ C hE; first | rfl | (simp [r_set, s_set, lo_set, hi_set, h5, h15, h33, tp, h46, h61, h77, h91, h112, h133]; done) | (simp_all [r_set, s_set, lo_set, hi_set]; done)) (by decide) (by decide))
                   · first
                     | exact absurd h112 h61
                     |
                       (first | refine z_aload_n (pc := 115) C dX11_set_115 rfl ?_ | refine z_aload_nN (pc := 115) C dX11_set_115 rfl ?_
                        refine z_getf (pc := 116) C dX11_set_116 zf_X11_31_10 rfl rfl ?_
                        refine z_iload_n (pc := 119) C dX11_set_119 rfl ?_
                        refine z_iload_n (pc := 120) C dX11_set_120 rfl ?_
                        refine z_iast (pc := 121) (N := 10) C dX11_set_121 rfl (by omega) (by decide) (hp_m 7 (by decide) hn (by decide)) ?_
                        refine z_goto (pc := 122) (tgt := 157) C dX11_set_122 (by decide) ?_
                        refine z_iload (pc := 157) C dX11_set_157 rfl ?_
                        exact z_iret (pc := 159) C hQ dX11_set_159 (by clear hQ C hE; first | rfl | (simp [r_set, s_set, lo_set, hi_set, h5, h15, h33, tp, h46, h61, h77, h91, h112]; done) | (simp_all [r_set, s_set, lo_set, hi_set]; done)) (by clear hQ C hE; first | rfl | (simp [r_set, s_set, lo_set, hi_set, h5, h15, h33, tp, h46, h61, h77, h91, h112]; done) | (simp_all [r_set, s_set, lo_set, hi_set]; done)) (by clear hQ C hE; first | rfl | (simp [r_set, s_set, lo_set, hi_set, h5, h15, h33, tp, h46, h61, h77, h91, h112]; done) | (simp_all [r_set, s_set, lo_set, hi_set]; done)) (by decide) (by decide))
                 · refine z_bipush (pc := 94) (v := (-2)) C dX11_set_94 (by decide) ?_
                   exact z_iret (pc := 96) C hQ dX11_set_96 (by clear hQ C hE; first | rfl | (simp [r_set, s_set, lo_set, hi_set, h5, h15, h33, tp, h46, h61, h77, h91]; done) | (simp_all [r_set, s_set, lo_set, hi_set]; done)) (by clear hQ C hE; first | rfl | (simp [r_set, s_set, lo_set, hi_set, h5, h15, h33, tp, h46, h61, h77, h91]; done) | (simp_all [r_set, s_set, lo_set, hi_set]; done)) (by clear hQ C hE; first | rfl | (simp [r_set, s_set, lo_set, hi_set, h5, h15, h33, tp, h46, h61, h77, h91]; done) | (simp_all [r_set, s_set, lo_set, hi_set]; done)) (by decide) (by decide)
               · refine z_sipush (pc := 80) (v := nI 5000) C dX11_set_80 (by decide) ?_
                 refine z_goto (pc := 83) (tgt := 88) C dX11_set_83 (by decide) ?_
                 refine z_callS (pc := 88) C dX11_set_88 zy_X11_isIn kw_685 kw_686 (ct_X11_isIn l Ω _ _ _ _ _) rfl rfl ⟨⟨by decide, by decide⟩, by decide, by decide⟩ (Nat.le_of_ble_eq_true rfl) ?_; dsimp only [Option.toList_some, List.cons_append, List.nil_append]
                 refine z_ifneB (pc := 91) (tgt := 97) C dX11_set_91 (by decide) (fun h91 => ?_) (fun h91 => ?_)
                 · first | refine z_aload_n (pc := 97) C dX11_set_97 rfl ?_ | refine z_aload_nN (pc := 97) C dX11_set_97 rfl ?_
                   refine z_iload_n (pc := 98) C dX11_set_98 rfl ?_
                   refine z_iload_n (pc := 99) C dX11_set_99 rfl ?_
                   refine z_callV (pc := 100) (ci := 10) C dX11_set_100 zy_X11_told kw_713 kw_714 rfl kw_715 rfl (ct_X11_told l Ω σ hw k hk _) rfl rfl ⟨⟨by decide, by decide⟩, by decide, by decide⟩ (Nat.le_of_ble_eq_true rfl) ?_; dsimp only [Option.toList_some, List.cons_append, List.nil_append]
                   refine z_istore (pc := 103) C dX11_set_103 (by rw [hE]; decide) ?_
                   first | refine z_aload_n (pc := 105) C dX11_set_105 rfl ?_ | refine z_aload_nN (pc := 105) C dX11_set_105 rfl ?_
                   refine z_getf (pc := 106) C dX11_set_106 zf_X11_9_10 rfl rfl ?_
                   refine z_iload_n (pc := 109) C dX11_set_109 rfl ?_
                   refine z_iald (pc := 110) (N := 10) C dX11_set_110 rfl (by omega) (by decide) rfl ?_; rw [e1]
                   refine z_iconst (pc := 111) (v := nI 5) C dX11_set_111 (by decide) ?_
                   first | with_reducible refine z_icmp_neX (pc := 112) (tgt := 125) C dX11_set_112 (by decide) (by omega) (by omega) (fun h112 => ?_) (fun h112 => ?_) | refine z_icmp_ne (pc := 112) (tgt := 125) C dX11_set_112 (by decide) (fun h112 => ?_) (fun h112 => ?_)
                   · first
                     | exact absurd h61 h112
                     |
                       (first | refine z_aload_n (pc := 125) C dX11_set_125 rfl ?_ | refine z_aload_nN (pc := 125) C dX11_set_125 rfl ?_
                        refine z_getf (pc := 126) C dX11_set_126 zf_X11_9_10 rfl rfl ?_
                        refine z_iload_n (pc := 129) C dX11_set_129 rfl ?_
                        refine z_iald (pc := 130) (N := 10) C dX11_set_130 rfl (by omega) (by decide) rfl ?_; rw [e1]
                        refine z_bipush (pc := 131) (v := nI 6) C dX11_set_131 (by decide) ?_
                        first | with_reducible refine z_icmp_neX (pc := 133) (tgt := 146) C dX11_set_133 (by decide) (by omega) (by omega) (fun h133 => ?_) (fun h133 => ?_) | refine z_icmp_ne (pc := 133) (tgt := 146) C dX11_set_133 (by decide) (fun h133 => ?_) (fun h133 => ?_)
                        · first | refine z_aload_n (pc := 146) C dX11_set_146 rfl ?_ | refine z_aload_nN (pc := 146) C dX11_set_146 rfl ?_
                          refine z_getf (pc := 147) C dX11_set_147 zf_X11_25_10 rfl rfl ?_
                          refine z_iconst (pc := 150) (v := nI 4) C dX11_set_150 (by decide) ?_
                          refine z_iload_n (pc := 151) C dX11_set_151 rfl ?_
                          first | with_reducible refine z_imulN (pc := 152) C dX11_set_152 ?_ | refine z_imul (pc := 152) C dX11_set_152 ?_
                          refine z_iload_n (pc := 153) C dX11_set_153 rfl ?_
                          first | with_reducible refine z_iaddN (pc := 154) C dX11_set_154 ?_ | refine z_iadd (pc := 154) C dX11_set_154 ?_
                          refine z_iload_n (pc := 155) C dX11_set_155 rfl ?_
                          refine z_iast (pc := 156) (N := 40) C dX11_set_156 rfl (by omega) (by decide) (hp_m 5 (by decide) hn (by decide)) ?_
                          refine z_iload (pc := 157) C dX11_set_157 rfl ?_
                          exact z_iret (pc := 159) C hQ dX11_set_159 (by clear hQ C hE; first | rfl | (simp [r_set, s_set, lo_set, hi_set, h5, h15, h33, tp, h46, h61, h77, h91, h112, h133]; done) | (simp_all [r_set, s_set, lo_set, hi_set]; done)) (by clear hQ C hE; first | rfl | (simp [r_set, s_set, lo_set, hi_set, h5, h15, h33, tp, h46, h61, h77, h91, h112, h133]; done) | (simp_all [r_set, s_set, lo_set, hi_set]; done)) (by clear hQ C hE; first | rfl | (simp [r_set, s_set, lo_set, hi_set, h5, h15, h33, tp, h46, h61, h77, h91, h112, h133]; done) | (simp_all [r_set, s_set, lo_set, hi_set]; done)) (by decide) (by decide)
                        · first | refine z_aload_n (pc := 136) C dX11_set_136 rfl ?_ | refine z_aload_nN (pc := 136) C dX11_set_136 rfl ?_
                          refine z_getf (pc := 137) C dX11_set_137 zf_X11_34_10 rfl rfl ?_
                          refine z_iload_n (pc := 140) C dX11_set_140 rfl ?_
                          refine z_iload_n (pc := 141) C dX11_set_141 rfl ?_
                          refine z_iast (pc := 142) (N := 10) C dX11_set_142 rfl (by omega) (by decide) (hp_m 8 (by decide) hn (by decide)) ?_
                          refine z_goto (pc := 143) (tgt := 157) C dX11_set_143 (by decide) ?_
                          refine z_iload (pc := 157) C dX11_set_157 rfl ?_
                          exact z_iret (pc := 159) C hQ dX11_set_159 (by clear hQ C hE; first | rfl | (simp [r_set, s_set, lo_set, hi_set, h5, h15, h33, tp, h46, h61, h77, h91, h112, h133]; done) | (simp_all [r_set, s_set, lo_set, hi_set]; done)) (by clear hQ C hE; first | rfl | (simp [r_set, s_set, lo_set, hi_set, h5, h15, h33, tp, h46, h61, h77, h91, h112, h133]; done) | (simp_all [r_set, s_set, lo_set, hi_set]; done)) (by clear hQ C hE; first | rfl | (simp [r_set, s_set, lo_set, hi_set, h5, h15, h33, tp, h46, h61, h77, h91, h112, h133]; done) | (simp_all [r_set, s_set, lo_set, hi_set]; done)) (by decide) (by decide))
                   · first
                     | exact absurd h112 h61
                     |
                       (first | refine z_aload_n (pc := 115) C dX11_set_115 rfl ?_ | refine z_aload_nN (pc := 115) C dX11_set_115 rfl ?_
                        refine z_getf (pc := 116) C dX11_set_116 zf_X11_31_10 rfl rfl ?_
                        refine z_iload_n (pc := 119) C dX11_set_119 rfl ?_
                        refine z_iload_n (pc := 120) C dX11_set_120 rfl ?_
                        refine z_iast (pc := 121) (N := 10) C dX11_set_121 rfl (by omega) (by decide) (hp_m 7 (by decide) hn (by decide)) ?_
                        refine z_goto (pc := 122) (tgt := 157) C dX11_set_122 (by decide) ?_
                        refine z_iload (pc := 157) C dX11_set_157 rfl ?_
                        exact z_iret (pc := 159) C hQ dX11_set_159 (by clear hQ C hE; first | rfl | (simp [r_set, s_set, lo_set, hi_set, h5, h15, h33, tp, h46, h61, h77, h91, h112]; done) | (simp_all [r_set, s_set, lo_set, hi_set]; done)) (by clear hQ C hE; first | rfl | (simp [r_set, s_set, lo_set, hi_set, h5, h15, h33, tp, h46, h61, h77, h91, h112]; done) | (simp_all [r_set, s_set, lo_set, hi_set]; done)) (by clear hQ C hE; first | rfl | (simp [r_set, s_set, lo_set, hi_set, h5, h15, h33, tp, h46, h61, h77, h91, h112]; done) | (simp_all [r_set, s_set, lo_set, hi_set]; done)) (by decide) (by decide))
                 · refine z_bipush (pc := 94) (v := (-2)) C dX11_set_94 (by decide) ?_
                   exact z_iret (pc := 96) C hQ dX11_set_96 (by clear hQ C hE; first | rfl | (simp [r_set, s_set, lo_set, hi_set, h5, h15, h33, tp, h46, h61, h77, h91]; done) | (simp_all [r_set, s_set, lo_set, hi_set]; done)) (by clear hQ C hE; first | rfl | (simp [r_set, s_set, lo_set, hi_set, h5, h15, h33, tp, h46, h61, h77, h91]; done) | (simp_all [r_set, s_set, lo_set, hi_set]; done)) (by clear hQ C hE; first | rfl | (simp [r_set, s_set, lo_set, hi_set, h5, h15, h33, tp, h46, h61, h77, h91]; done) | (simp_all [r_set, s_set, lo_set, hi_set]; done)) (by decide) (by decide))
          · first
            | exact absurd h61 h46
            |
              (refine z_bipush (pc := 64) (v := nI 6) C dX11_set_64 (by decide) ?_
               refine z_goto (pc := 66) (tgt := 88) C dX11_set_66 (by decide) ?_
               refine z_callS (pc := 88) C dX11_set_88 zy_X11_isIn kw_685 kw_686 (ct_X11_isIn l Ω _ _ _ _ _) rfl rfl ⟨⟨by decide, by decide⟩, by decide, by decide⟩ (Nat.le_of_ble_eq_true rfl) ?_; dsimp only [Option.toList_some, List.cons_append, List.nil_append]
               refine z_ifneB (pc := 91) (tgt := 97) C dX11_set_91 (by decide) (fun h91 => ?_) (fun h91 => ?_)
               · first | refine z_aload_n (pc := 97) C dX11_set_97 rfl ?_ | refine z_aload_nN (pc := 97) C dX11_set_97 rfl ?_
                 refine z_iload_n (pc := 98) C dX11_set_98 rfl ?_
                 refine z_iload_n (pc := 99) C dX11_set_99 rfl ?_
                 refine z_callV (pc := 100) (ci := 10) C dX11_set_100 zy_X11_told kw_713 kw_714 rfl kw_715 rfl (ct_X11_told l Ω σ hw k hk _) rfl rfl ⟨⟨by decide, by decide⟩, by decide, by decide⟩ (Nat.le_of_ble_eq_true rfl) ?_; dsimp only [Option.toList_some, List.cons_append, List.nil_append]
                 refine z_istore (pc := 103) C dX11_set_103 (by rw [hE]; decide) ?_
                 first | refine z_aload_n (pc := 105) C dX11_set_105 rfl ?_ | refine z_aload_nN (pc := 105) C dX11_set_105 rfl ?_
                 refine z_getf (pc := 106) C dX11_set_106 zf_X11_9_10 rfl rfl ?_
                 refine z_iload_n (pc := 109) C dX11_set_109 rfl ?_
                 refine z_iald (pc := 110) (N := 10) C dX11_set_110 rfl (by omega) (by decide) rfl ?_; rw [e1]
                 refine z_iconst (pc := 111) (v := nI 5) C dX11_set_111 (by decide) ?_
                 first | with_reducible refine z_icmp_neX (pc := 112) (tgt := 125) C dX11_set_112 (by decide) (by omega) (by omega) (fun h112 => ?_) (fun h112 => ?_) | refine z_icmp_ne (pc := 112) (tgt := 125) C dX11_set_112 (by decide) (fun h112 => ?_) (fun h112 => ?_)
                 · first
                   | exact absurd h61 h112
                   |
                     (first | refine z_aload_n (pc := 125) C dX11_set_125 rfl ?_ | refine z_aload_nN (pc := 125) C dX11_set_125 rfl ?_
                      refine z_getf (pc := 126) C dX11_set_126 zf_X11_9_10 rfl rfl ?_
                      refine z_iload_n (pc := 129) C dX11_set_129 rfl ?_
                      refine z_iald (pc := 130) (N := 10) C dX11_set_130 rfl (by omega) (by decide) rfl ?_; rw [e1]
                      refine z_bipush (pc := 131) (v := nI 6) C dX11_set_131 (by decide) ?_
                      first | with_reducible refine z_icmp_neX (pc := 133) (tgt := 146) C dX11_set_133 (by decide) (by omega) (by omega) (fun h133 => ?_) (fun h133 => ?_) | refine z_icmp_ne (pc := 133) (tgt := 146) C dX11_set_133 (by decide) (fun h133 => ?_) (fun h133 => ?_)
                      · first | refine z_aload_n (pc := 146) C dX11_set_146 rfl ?_ | refine z_aload_nN (pc := 146) C dX11_set_146 rfl ?_
                        refine z_getf (pc := 147) C dX11_set_147 zf_X11_25_10 rfl rfl ?_
                        refine z_iconst (pc := 150) (v := nI 4) C dX11_set_150 (by decide) ?_
                        refine z_iload_n (pc := 151) C dX11_set_151 rfl ?_
                        first | with_reducible refine z_imulN (pc := 152) C dX11_set_152 ?_ | refine z_imul (pc := 152) C dX11_set_152 ?_
                        refine z_iload_n (pc := 153) C dX11_set_153 rfl ?_
                        first | with_reducible refine z_iaddN (pc := 154) C dX11_set_154 ?_ | refine z_iadd (pc := 154) C dX11_set_154 ?_
                        refine z_iload_n (pc := 155) C dX11_set_155 rfl ?_
                        refine z_iast (pc := 156) (N := 40) C dX11_set_156 rfl (by omega) (by decide) (hp_m 5 (by decide) hn (by decide)) ?_
                        refine z_iload (pc := 157) C dX11_set_157 rfl ?_
                        exact z_iret (pc := 159) C hQ dX11_set_159 (by clear hQ C hE; first | rfl | (simp [r_set, s_set, lo_set, hi_set, h5, h15, h33, tp, h46, h61, h91, h112, h133]; done) | (simp_all [r_set, s_set, lo_set, hi_set]; done)) (by clear hQ C hE; first | rfl | (simp [r_set, s_set, lo_set, hi_set, h5, h15, h33, tp, h46, h61, h91, h112, h133]; done) | (simp_all [r_set, s_set, lo_set, hi_set]; done)) (by clear hQ C hE; first | rfl | (simp [r_set, s_set, lo_set, hi_set, h5, h15, h33, tp, h46, h61, h91, h112, h133]; done) | (simp_all [r_set, s_set, lo_set, hi_set]; done)) (by decide) (by decide)
                      · first | refine z_aload_n (pc := 136) C dX11_set_136 rfl ?_ | refine z_aload_nN (pc := 136) C dX11_set_136 rfl ?_
                        refine z_getf (pc := 137) C dX11_set_137 zf_X11_34_10 rfl rfl ?_
                        refine z_iload_n (pc := 140) C dX11_set_140 rfl ?_
                        refine z_iload_n (pc := 141) C dX11_set_141 rfl ?_
                        refine z_iast (pc := 142) (N := 10) C dX11_set_142 rfl (by omega) (by decide) (hp_m 8 (by decide) hn (by decide)) ?_
                        refine z_goto (pc := 143) (tgt := 157) C dX11_set_143 (by decide) ?_
                        refine z_iload (pc := 157) C dX11_set_157 rfl ?_
                        exact z_iret (pc := 159) C hQ dX11_set_159 (by clear hQ C hE; first | rfl | (simp [r_set, s_set, lo_set, hi_set, h5, h15, h33, tp, h46, h61, h91, h112, h133]; done) | (simp_all [r_set, s_set, lo_set, hi_set]; done)) (by clear hQ C hE; first | rfl | (simp [r_set, s_set, lo_set, hi_set, h5, h15, h33, tp, h46, h61, h91, h112, h133]; done) | (simp_all [r_set, s_set, lo_set, hi_set]; done)) (by clear hQ C hE; first | rfl | (simp [r_set, s_set, lo_set, hi_set, h5, h15, h33, tp, h46, h61, h91, h112, h133]; done) | (simp_all [r_set, s_set, lo_set, hi_set]; done)) (by decide) (by decide))
                 · first
                   | exact absurd h112 h61
                   |
                     (first | refine z_aload_n (pc := 115) C dX11_set_115 rfl ?_ | refine z_aload_nN (pc := 115) C dX11_set_115 rfl ?_
                      refine z_getf (pc := 116) C dX11_set_116 zf_X11_31_10 rfl rfl ?_
                      refine z_iload_n (pc := 119) C dX11_set_119 rfl ?_
                      refine z_iload_n (pc := 120) C dX11_set_120 rfl ?_
                      refine z_iast (pc := 121) (N := 10) C dX11_set_121 rfl (by omega) (by decide) (hp_m 7 (by decide) hn (by decide)) ?_
                      refine z_goto (pc := 122) (tgt := 157) C dX11_set_122 (by decide) ?_
                      refine z_iload (pc := 157) C dX11_set_157 rfl ?_
                      exact z_iret (pc := 159) C hQ dX11_set_159 (by clear hQ C hE; first | rfl | (simp [r_set, s_set, lo_set, hi_set, h5, h15, h33, tp, h46, h61, h91, h112]; done) | (simp_all [r_set, s_set, lo_set, hi_set]; done)) (by clear hQ C hE; first | rfl | (simp [r_set, s_set, lo_set, hi_set, h5, h15, h33, tp, h46, h61, h91, h112]; done) | (simp_all [r_set, s_set, lo_set, hi_set]; done)) (by clear hQ C hE; first | rfl | (simp [r_set, s_set, lo_set, hi_set, h5, h15, h33, tp, h46, h61, h91, h112]; done) | (simp_all [r_set, s_set, lo_set, hi_set]; done)) (by decide) (by decide))
               · refine z_bipush (pc := 94) (v := (-2)) C dX11_set_94 (by decide) ?_
                 exact z_iret (pc := 96) C hQ dX11_set_96 (by clear hQ C hE; first | rfl | (simp [r_set, s_set, lo_set, hi_set, h5, h15, h33, tp, h46, h61, h91]; done) | (simp_all [r_set, s_set, lo_set, hi_set]; done)) (by clear hQ C hE; first | rfl | (simp [r_set, s_set, lo_set, hi_set, h5, h15, h33, tp, h46, h61, h91]; done) | (simp_all [r_set, s_set, lo_set, hi_set]; done)) (by clear hQ C hE; first | rfl | (simp [r_set, s_set, lo_set, hi_set, h5, h15, h33, tp, h46, h61, h91]; done) | (simp_all [r_set, s_set, lo_set, hi_set]; done)) (by decide) (by decide))
        · refine z_iconst (pc := 49) (v := nI 1) C dX11_set_49 (by decide) ?_
          refine z_goto (pc := 50) (tgt := 54) C dX11_set_50 (by decide) ?_
          first | refine z_aload_n (pc := 54) C dX11_set_54 rfl ?_ | refine z_aload_nN (pc := 54) C dX11_set_54 rfl ?_
          refine z_getf (pc := 55) C dX11_set_55 zf_X11_9_10 rfl rfl ?_
          refine z_iload_n (pc := 58) C dX11_set_58 rfl ?_
          refine z_iald (pc := 59) (N := 10) C dX11_set_59 rfl (by omega) (by decide) rfl ?_; rw [e1]
          refine z_iconst (pc := 60) (v := nI 5) C dX11_set_60 (by decide) ?_
          first | with_reducible refine z_icmp_neX (pc := 61) (tgt := 69) C dX11_set_61 (by decide) (by omega) (by omega) (fun h61 => ?_) (fun h61 => ?_) | refine z_icmp_ne (pc := 61) (tgt := 69) C dX11_set_61 (by decide) (fun h61 => ?_) (fun h61 => ?_)
          · first
            | exact absurd h46 h61
            |
              (first | refine z_aload_n (pc := 69) C dX11_set_69 rfl ?_ | refine z_aload_nN (pc := 69) C dX11_set_69 rfl ?_
               refine z_getf (pc := 70) C dX11_set_70 zf_X11_9_10 rfl rfl ?_
               refine z_iload_n (pc := 73) C dX11_set_73 rfl ?_
               refine z_iald (pc := 74) (N := 10) C dX11_set_74 rfl (by omega) (by decide) rfl ?_; rw [e1]
               refine z_bipush (pc := 75) (v := nI 6) C dX11_set_75 (by decide) ?_
               first | with_reducible refine z_icmp_neX (pc := 77) (tgt := 86) C dX11_set_77 (by decide) (by omega) (by omega) (fun h77 => ?_) (fun h77 => ?_) | refine z_icmp_ne (pc := 77) (tgt := 86) C dX11_set_77 (by decide) (fun h77 => ?_) (fun h77 => ?_)
               · refine z_bipush (pc := 86) (v := nI 10) C dX11_set_86 (by decide) ?_
                 refine z_callS (pc := 88) C dX11_set_88 zy_X11_isIn kw_685 kw_686 (ct_X11_isIn l Ω _ _ _ _ _) rfl rfl ⟨⟨by decide, by decide⟩, by decide, by decide⟩ (Nat.le_of_ble_eq_true rfl) ?_; dsimp only [Option.toList_some, List.cons_append, List.nil_append]
                 refine z_ifneB (pc := 91) (tgt := 97) C dX11_set_91 (by decide) (fun h91 => ?_) (fun h91 => ?_)
                 · first | refine z_aload_n (pc := 97) C dX11_set_97 rfl ?_ | refine z_aload_nN (pc := 97) C dX11_set_97 rfl ?_
                   refine z_iload_n (pc := 98) C dX11_set_98 rfl ?_
                   refine z_iload_n (pc := 99) C dX11_set_99 rfl ?_
                   refine z_callV (pc := 100) (ci := 10) C dX11_set_100 zy_X11_told kw_713 kw_714 rfl kw_715 rfl (ct_X11_told l Ω σ hw k hk _) rfl rfl ⟨⟨by decide, by decide⟩, by decide, by decide⟩ (Nat.le_of_ble_eq_true rfl) ?_; dsimp only [Option.toList_some, List.cons_append, List.nil_append]
                   refine z_istore (pc := 103) C dX11_set_103 (by rw [hE]; decide) ?_
                   first | refine z_aload_n (pc := 105) C dX11_set_105 rfl ?_ | refine z_aload_nN (pc := 105) C dX11_set_105 rfl ?_
                   refine z_getf (pc := 106) C dX11_set_106 zf_X11_9_10 rfl rfl ?_
                   refine z_iload_n (pc := 109) C dX11_set_109 rfl ?_
                   refine z_iald (pc := 110) (N := 10) C dX11_set_110 rfl (by omega) (by decide) rfl ?_; rw [e1]
                   refine z_iconst (pc := 111) (v := nI 5) C dX11_set_111 (by decide) ?_
                   first | with_reducible refine z_icmp_neX (pc := 112) (tgt := 125) C dX11_set_112 (by decide) (by omega) (by omega) (fun h112 => ?_) (fun h112 => ?_) | refine z_icmp_ne (pc := 112) (tgt := 125) C dX11_set_112 (by decide) (fun h112 => ?_) (fun h112 => ?_)
                   · first
                     | exact absurd h61 h112
                     |
                       (first | refine z_aload_n (pc := 125) C dX11_set_125 rfl ?_ | refine z_aload_nN (pc := 125) C dX11_set_125 rfl ?_
                        refine z_getf (pc := 126) C dX11_set_126 zf_X11_9_10 rfl rfl ?_
                        refine z_iload_n (pc := 129) C dX11_set_129 rfl ?_
                        refine z_iald (pc := 130) (N := 10) C dX11_set_130 rfl (by omega) (by decide) rfl ?_; rw [e1]
                        refine z_bipush (pc := 131) (v := nI 6) C dX11_set_131 (by decide) ?_
                        first | with_reducible refine z_icmp_neX (pc := 133) (tgt := 146) C dX11_set_133 (by decide) (by omega) (by omega) (fun h133 => ?_) (fun h133 => ?_) | refine z_icmp_ne (pc := 133) (tgt := 146) C dX11_set_133 (by decide) (fun h133 => ?_) (fun h133 => ?_)
                        · first | refine z_aload_n (pc := 146) C dX11_set_146 rfl ?_ | refine z_aload_nN (pc := 146) C dX11_set_146 rfl ?_
                          refine z_getf (pc := 147) C dX11_set_147 zf_X11_25_10 rfl rfl ?_
                          refine z_iconst (pc := 150) (v := nI 4) C dX11_set_150 (by decide) ?_
                          refine z_iload_n (pc := 151) C dX11_set_151 rfl ?_
                          first | with_reducible refine z_imulN (pc := 152) C dX11_set_152 ?_ | refine z_imul (pc := 152) C dX11_set_152 ?_
                          refine z_iload_n (pc := 153) C dX11_set_153 rfl ?_
                          first | with_reducible refine z_iaddN (pc := 154) C dX11_set_154 ?_ | refine z_iadd (pc := 154) C dX11_set_154 ?_
                          refine z_iload_n (pc := 155) C dX11_set_155 rfl ?_
                          refine z_iast (pc := 156) (N := 40) C dX11_set_156 rfl (by omega) (by decide) (hp_m 5 (by decide) hn (by decide)) ?_
                          refine z_iload (pc := 157) C dX11_set_157 rfl ?_
                          exact z_iret (pc := 159) C hQ dX11_set_159 (by clear hQ C hE; first | rfl | (simp [r_set, s_set, lo_set, hi_set, h5, h15, h33, tp, h46, h61, h77, h91, h112, h133]; done) | (simp_all [r_set, s_set, lo_set, hi_set]; done)) (by clear hQ C hE; first | rfl | (simp [r_set, s_set, lo_set, hi_set, h5, h15, h33, tp, h46, h61, h77, h91, h112, h133]; done) | (simp_all [r_set, s_set, lo_set, hi_set]; done)) (by clear hQ C hE; first | rfl | (simp [r_set, s_set, lo_set, hi_set, h5, h15, h33, tp, h46, h61, h77, h91, h112, h133]; done) | (simp_all [r_set, s_set, lo_set, hi_set]; done)) (by decide) (by decide)
                        · first | refine z_aload_n (pc := 136) C dX11_set_136 rfl ?_ | refine z_aload_nN (pc := 136) C dX11_set_136 rfl ?_
                          refine z_getf (pc := 137) C dX11_set_137 zf_X11_34_10 rfl rfl ?_
                          refine z_iload_n (pc := 140) C dX11_set_140 rfl ?_
                          refine z_iload_n (pc := 141) C dX11_set_141 rfl ?_
                          refine z_iast (pc := 142) (N := 10) C dX11_set_142 rfl (by omega) (by decide) (hp_m 8 (by decide) hn (by decide)) ?_
                          refine z_goto (pc := 143) (tgt := 157) C dX11_set_143 (by decide) ?_
                          refine z_iload (pc := 157) C dX11_set_157 rfl ?_
                          exact z_iret (pc := 159) C hQ dX11_set_159 (by clear hQ C hE; first | rfl | (simp [r_set, s_set, lo_set, hi_set, h5, h15, h33, tp, h46, h61, h77, h91, h112, h133]; done) | (simp_all [r_set, s_set, lo_set, hi_set]; done)) (by clear hQ C hE; first | rfl | (simp [r_set, s_set, lo_set, hi_set, h5, h15, h33, tp, h46, h61, h77, h91, h112, h133]; done) | (simp_all [r_set, s_set, lo_set, hi_set]; done)) (by clear hQ C hE; first | rfl | (simp [r_set, s_set, lo_set, hi_set, h5, h15, h33, tp, h46, h61, h77, h91, h112, h133]; done) | (simp_all [r_set, s_set, lo_set, hi_set]; done)) (by decide) (by decide))
                   · first
                     | exact absurd h112 h61
                     |
                       (first | refine z_aload_n (pc := 115) C dX11_set_115 rfl ?_ | refine z_aload_nN (pc := 115) C dX11_set_115 rfl ?_
                        refine z_getf (pc := 116) C dX11_set_116 zf_X11_31_10 rfl rfl ?_
                        refine z_iload_n (pc := 119) C dX11_set_119 rfl ?_
                        refine z_iload_n (pc := 120) C dX11_set_120 rfl ?_
                        refine z_iast (pc := 121) (N := 10) C dX11_set_121 rfl (by omega) (by decide) (hp_m 7 (by decide) hn (by decide)) ?_
                        refine z_goto (pc := 122) (tgt := 157) C dX11_set_122 (by decide) ?_
                        refine z_iload (pc := 157) C dX11_set_157 rfl ?_
                        exact z_iret (pc := 159) C hQ dX11_set_159 (by clear hQ C hE; first | rfl | (simp [r_set, s_set, lo_set, hi_set, h5, h15, h33, tp, h46, h61, h77, h91, h112]; done) | (simp_all [r_set, s_set, lo_set, hi_set]; done)) (by clear hQ C hE; first | rfl | (simp [r_set, s_set, lo_set, hi_set, h5, h15, h33, tp, h46, h61, h77, h91, h112]; done) | (simp_all [r_set, s_set, lo_set, hi_set]; done)) (by clear hQ C hE; first | rfl | (simp [r_set, s_set, lo_set, hi_set, h5, h15, h33, tp, h46, h61, h77, h91, h112]; done) | (simp_all [r_set, s_set, lo_set, hi_set]; done)) (by decide) (by decide))
                 · refine z_bipush (pc := 94) (v := (-2)) C dX11_set_94 (by decide) ?_
                   exact z_iret (pc := 96) C hQ dX11_set_96 (by clear hQ C hE; first | rfl | (simp [r_set, s_set, lo_set, hi_set, h5, h15, h33, tp, h46, h61, h77, h91]; done) | (simp_all [r_set, s_set, lo_set, hi_set]; done)) (by clear hQ C hE; first | rfl | (simp [r_set, s_set, lo_set, hi_set, h5, h15, h33, tp, h46, h61, h77, h91]; done) | (simp_all [r_set, s_set, lo_set, hi_set]; done)) (by clear hQ C hE; first | rfl | (simp [r_set, s_set, lo_set, hi_set, h5, h15, h33, tp, h46, h61, h77, h91]; done) | (simp_all [r_set, s_set, lo_set, hi_set]; done)) (by decide) (by decide)
               · refine z_sipush (pc := 80) (v := nI 5000) C dX11_set_80 (by decide) ?_
                 refine z_goto (pc := 83) (tgt := 88) C dX11_set_83 (by decide) ?_
                 refine z_callS (pc := 88) C dX11_set_88 zy_X11_isIn kw_685 kw_686 (ct_X11_isIn l Ω _ _ _ _ _) rfl rfl ⟨⟨by decide, by decide⟩, by decide, by decide⟩ (Nat.le_of_ble_eq_true rfl) ?_; dsimp only [Option.toList_some, List.cons_append, List.nil_append]
                 refine z_ifneB (pc := 91) (tgt := 97) C dX11_set_91 (by decide) (fun h91 => ?_) (fun h91 => ?_)
                 · first | refine z_aload_n (pc := 97) C dX11_set_97 rfl ?_ | refine z_aload_nN (pc := 97) C dX11_set_97 rfl ?_
                   refine z_iload_n (pc := 98) C dX11_set_98 rfl ?_
                   refine z_iload_n (pc := 99) C dX11_set_99 rfl ?_
                   refine z_callV (pc := 100) (ci := 10) C dX11_set_100 zy_X11_told kw_713 kw_714 rfl kw_715 rfl (ct_X11_told l Ω σ hw k hk _) rfl rfl ⟨⟨by decide, by decide⟩, by decide, by decide⟩ (Nat.le_of_ble_eq_true rfl) ?_; dsimp only [Option.toList_some, List.cons_append, List.nil_append]
                   refine z_istore (pc := 103) C dX11_set_103 (by rw [hE]; decide) ?_
                   first | refine z_aload_n (pc := 105) C dX11_set_105 rfl ?_ | refine z_aload_nN (pc := 105) C dX11_set_105 rfl ?_
                   refine z_getf (pc := 106) C dX11_set_106 zf_X11_9_10 rfl rfl ?_
                   refine z_iload_n (pc := 109) C dX11_set_109 rfl ?_
                   refine z_iald (pc := 110) (N := 10) C dX11_set_110 rfl (by omega) (by decide) rfl ?_; rw [e1]
                   refine z_iconst (pc := 111) (v := nI 5) C dX11_set_111 (by decide) ?_
                   first | with_reducible refine z_icmp_neX (pc := 112) (tgt := 125) C dX11_set_112 (by decide) (by omega) (by omega) (fun h112 => ?_) (fun h112 => ?_) | refine z_icmp_ne (pc := 112) (tgt := 125) C dX11_set_112 (by decide) (fun h112 => ?_) (fun h112 => ?_)
                   · first
                     | exact absurd h61 h112
                     |
                       (first | refine z_aload_n (pc := 125) C dX11_set_125 rfl ?_ | refine z_aload_nN (pc := 125) C dX11_set_125 rfl ?_
                        refine z_getf (pc := 126) C dX11_set_126 zf_X11_9_10 rfl rfl ?_
                        refine z_iload_n (pc := 129) C dX11_set_129 rfl ?_
                        refine z_iald (pc := 130) (N := 10) C dX11_set_130 rfl (by omega) (by decide) rfl ?_; rw [e1]
                        refine z_bipush (pc := 131) (v := nI 6) C dX11_set_131 (by decide) ?_
                        first | with_reducible refine z_icmp_neX (pc := 133) (tgt := 146) C dX11_set_133 (by decide) (by omega) (by omega) (fun h133 => ?_) (fun h133 => ?_) | refine z_icmp_ne (pc := 133) (tgt := 146) C dX11_set_133 (by decide) (fun h133 => ?_) (fun h133 => ?_)
                        · first | refine z_aload_n (pc := 146) C dX11_set_146 rfl ?_ | refine z_aload_nN (pc := 146) C dX11_set_146 rfl ?_
                          refine z_getf (pc := 147) C dX11_set_147 zf_X11_25_10 rfl rfl ?_
                          refine z_iconst (pc := 150) (v := nI 4) C dX11_set_150 (by decide) ?_
                          refine z_iload_n (pc := 151) C dX11_set_151 rfl ?_
                          first | with_reducible refine z_imulN (pc := 152) C dX11_set_152 ?_ | refine z_imul (pc := 152) C dX11_set_152 ?_
                          refine z_iload_n (pc := 153) C dX11_set_153 rfl ?_
                          first | with_reducible refine z_iaddN (pc := 154) C dX11_set_154 ?_ | refine z_iadd (pc := 154) C dX11_set_154 ?_
                          refine z_iload_n (pc := 155) C dX11_set_155 rfl ?_
                          refine z_iast (pc := 156) (N := 40) C dX11_set_156 rfl (by omega) (by decide) (hp_m 5 (by decide) hn (by decide)) ?_
                          refine z_iload (pc := 157) C dX11_set_157 rfl ?_
                          exact z_iret (pc := 159) C hQ dX11_set_159 (by clear hQ C hE; first | rfl | (simp [r_set, s_set, lo_set, hi_set, h5, h15, h33, tp, h46, h61, h77, h91, h112, h133]; done) | (simp_all [r_set, s_set, lo_set, hi_set]; done)) (by clear hQ C hE; first | rfl | (simp [r_set, s_set, lo_set, hi_set, h5, h15, h33, tp, h46, h61, h77, h91, h112, h133]; done) | (simp_all [r_set, s_set, lo_set, hi_set]; done)) (by clear hQ C hE; first | rfl | (simp [r_set, s_set, lo_set, hi_set, h5, h15, h33, tp, h46, h61, h77, h91, h112, h133]; done) | (simp_all [r_set, s_set, lo_set, hi_set]; done)) (by decide) (by decide)
                        · first | refine z_aload_n (pc := 136) C dX11_set_136 rfl ?_ | refine z_aload_nN (pc := 136) C dX11_set_136 rfl ?_
                          refine z_getf (pc := 137) C dX11_set_137 zf_X11_34_10 rfl rfl ?_
                          refine z_iload_n (pc := 140) C dX11_set_140 rfl ?_
                          refine z_iload_n (pc := 141) C dX11_set_141 rfl ?_
                          refine z_iast (pc := 142) (N := 10) C dX11_set_142 rfl (by omega) (by decide) (hp_m 8 (by decide) hn (by decide)) ?_
                          refine z_goto (pc := 143) (tgt := 157) C dX11_set_143 (by decide) ?_
                          refine z_iload (pc := 157) C dX11_set_157 rfl ?_
                          exact z_iret (pc := 159) C hQ dX11_set_159 (by clear hQ C hE; first | rfl | (simp [r_set, s_set, lo_set, hi_set, h5, h15, h33, tp, h46, h61, h77, h91, h112, h133]; done) | (simp_all [r_set, s_set, lo_set, hi_set]; done)) (by clear hQ C hE; first | rfl | (simp [r_set, s_set, lo_set, hi_set, h5, h15, h33, tp, h46, h61, h77, h91, h112, h133]; done) | (simp_all [r_set, s_set, lo_set, hi_set]; done)) (by clear hQ C hE; first | rfl | (simp [r_set, s_set, lo_set, hi_set, h5, h15, h33, tp, h46, h61, h77, h91, h112, h133]; done) | (simp_all [r_set, s_set, lo_set, hi_set]; done)) (by decide) (by decide))
                   · first
                     | exact absurd h112 h61
                     |
                       (first | refine z_aload_n (pc := 115) C dX11_set_115 rfl ?_ | refine z_aload_nN (pc := 115) C dX11_set_115 rfl ?_
                        refine z_getf (pc := 116) C dX11_set_116 zf_X11_31_10 rfl rfl ?_
                        refine z_iload_n (pc := 119) C dX11_set_119 rfl ?_
                        refine z_iload_n (pc := 120) C dX11_set_120 rfl ?_
                        refine z_iast (pc := 121) (N := 10) C dX11_set_121 rfl (by omega) (by decide) (hp_m 7 (by decide) hn (by decide)) ?_
                        refine z_goto (pc := 122) (tgt := 157) C dX11_set_122 (by decide) ?_
                        refine z_iload (pc := 157) C dX11_set_157 rfl ?_
                        exact z_iret (pc := 159) C hQ dX11_set_159 (by clear hQ C hE; first | rfl | (simp [r_set, s_set, lo_set, hi_set, h5, h15, h33, tp, h46, h61, h77, h91, h112]; done) | (simp_all [r_set, s_set, lo_set, hi_set]; done)) (by clear hQ C hE; first | rfl | (simp [r_set, s_set, lo_set, hi_set, h5, h15, h33, tp, h46, h61, h77, h91, h112]; done) | (simp_all [r_set, s_set, lo_set, hi_set]; done)) (by clear hQ C hE; first | rfl | (simp [r_set, s_set, lo_set, hi_set, h5, h15, h33, tp, h46, h61, h77, h91, h112]; done) | (simp_all [r_set, s_set, lo_set, hi_set]; done)) (by decide) (by decide))
                 · refine z_bipush (pc := 94) (v := (-2)) C dX11_set_94 (by decide) ?_
                   exact z_iret (pc := 96) C hQ dX11_set_96 (by clear hQ C hE; first | rfl | (simp [r_set, s_set, lo_set, hi_set, h5, h15, h33, tp, h46, h61, h77, h91]; done) | (simp_all [r_set, s_set, lo_set, hi_set]; done)) (by clear hQ C hE; first | rfl | (simp [r_set, s_set, lo_set, hi_set, h5, h15, h33, tp, h46, h61, h77, h91]; done) | (simp_all [r_set, s_set, lo_set, hi_set]; done)) (by clear hQ C hE; first | rfl | (simp [r_set, s_set, lo_set, hi_set, h5, h15, h33, tp, h46, h61, h77, h91]; done) | (simp_all [r_set, s_set, lo_set, hi_set]; done)) (by decide) (by decide))
          · first
            | exact absurd h61 h46
            |
              (refine z_bipush (pc := 64) (v := nI 6) C dX11_set_64 (by decide) ?_
               refine z_goto (pc := 66) (tgt := 88) C dX11_set_66 (by decide) ?_
               refine z_callS (pc := 88) C dX11_set_88 zy_X11_isIn kw_685 kw_686 (ct_X11_isIn l Ω _ _ _ _ _) rfl rfl ⟨⟨by decide, by decide⟩, by decide, by decide⟩ (Nat.le_of_ble_eq_true rfl) ?_; dsimp only [Option.toList_some, List.cons_append, List.nil_append]
               refine z_ifneB (pc := 91) (tgt := 97) C dX11_set_91 (by decide) (fun h91 => ?_) (fun h91 => ?_)
               · first | refine z_aload_n (pc := 97) C dX11_set_97 rfl ?_ | refine z_aload_nN (pc := 97) C dX11_set_97 rfl ?_
                 refine z_iload_n (pc := 98) C dX11_set_98 rfl ?_
                 refine z_iload_n (pc := 99) C dX11_set_99 rfl ?_
                 refine z_callV (pc := 100) (ci := 10) C dX11_set_100 zy_X11_told kw_713 kw_714 rfl kw_715 rfl (ct_X11_told l Ω σ hw k hk _) rfl rfl ⟨⟨by decide, by decide⟩, by decide, by decide⟩ (Nat.le_of_ble_eq_true rfl) ?_; dsimp only [Option.toList_some, List.cons_append, List.nil_append]
                 refine z_istore (pc := 103) C dX11_set_103 (by rw [hE]; decide) ?_
                 first | refine z_aload_n (pc := 105) C dX11_set_105 rfl ?_ | refine z_aload_nN (pc := 105) C dX11_set_105 rfl ?_
                 refine z_getf (pc := 106) C dX11_set_106 zf_X11_9_10 rfl rfl ?_
                 refine z_iload_n (pc := 109) C dX11_set_109 rfl ?_
                 refine z_iald (pc := 110) (N := 10) C dX11_set_110 rfl (by omega) (by decide) rfl ?_; rw [e1]
                 refine z_iconst (pc := 111) (v := nI 5) C dX11_set_111 (by decide) ?_
                 first | with_reducible refine z_icmp_neX (pc := 112) (tgt := 125) C dX11_set_112 (by decide) (by omega) (by omega) (fun h112 => ?_) (fun h112 => ?_) | refine z_icmp_ne (pc := 112) (tgt := 125) C dX11_set_112 (by decide) (fun h112 => ?_) (fun h112 => ?_)
                 · first
                   | exact absurd h61 h112
                   |
                     (first | refine z_aload_n (pc := 125) C dX11_set_125 rfl ?_ | refine z_aload_nN (pc := 125) C dX11_set_125 rfl ?_
                      refine z_getf (pc := 126) C dX11_set_126 zf_X11_9_10 rfl rfl ?_
                      refine z_iload_n (pc := 129) C dX11_set_129 rfl ?_
                      refine z_iald (pc := 130) (N := 10) C dX11_set_130 rfl (by omega) (by decide) rfl ?_; rw [e1]
                      refine z_bipush (pc := 131) (v := nI 6) C dX11_set_131 (by decide) ?_
                      first | with_reducible refine z_icmp_neX (pc := 133) (tgt := 146) C dX11_set_133 (by decide) (by omega) (by omega) (fun h133 => ?_) (fun h133 => ?_) | refine z_icmp_ne (pc := 133) (tgt := 146) C dX11_set_133 (by decide) (fun h133 => ?_) (fun h133 => ?_)
                      · first | refine z_aload_n (pc := 146) C dX11_set_146 rfl ?_ | refine z_aload_nN (pc := 146) C dX11_set_146 rfl ?_
                        refine z_getf (pc := 147) C dX11_set_147 zf_X11_25_10 rfl rfl ?_
                        refine z_iconst (pc := 150) (v := nI 4) C dX11_set_150 (by decide) ?_
                        refine z_iload_n (pc := 151) C dX11_set_151 rfl ?_
                        first | with_reducible refine z_imulN (pc := 152) C dX11_set_152 ?_ | refine z_imul (pc := 152) C dX11_set_152 ?_
                        refine z_iload_n (pc := 153) C dX11_set_153 rfl ?_
                        first | with_reducible refine z_iaddN (pc := 154) C dX11_set_154 ?_ | refine z_iadd (pc := 154) C dX11_set_154 ?_
                        refine z_iload_n (pc := 155) C dX11_set_155 rfl ?_
                        refine z_iast (pc := 156) (N := 40) C dX11_set_156 rfl (by omega) (by decide) (hp_m 5 (by decide) hn (by decide)) ?_
                        refine z_iload (pc := 157) C dX11_set_157 rfl ?_
                        exact z_iret (pc := 159) C hQ dX11_set_159 (by clear hQ C hE; first | rfl | (simp [r_set, s_set, lo_set, hi_set, h5, h15, h33, tp, h46, h61, h91, h112, h133]; done) | (simp_all [r_set, s_set, lo_set, hi_set]; done)) (by clear hQ C hE; first | rfl | (simp [r_set, s_set, lo_set, hi_set, h5, h15, h33, tp, h46, h61, h91, h112, h133]; done) | (simp_all [r_set, s_set, lo_set, hi_set]; done)) (by clear hQ C hE; first | rfl | (simp [r_set, s_set, lo_set, hi_set, h5, h15, h33, tp, h46, h61, h91, h112, h133]; done) | (simp_all [r_set, s_set, lo_set, hi_set]; done)) (by decide) (by decide)
                      · first | refine z_aload_n (pc := 136) C dX11_set_136 rfl ?_ | refine z_aload_nN (pc := 136) C dX11_set_136 rfl ?_
                        refine z_getf (pc := 137) C dX11_set_137 zf_X11_34_10 rfl rfl ?_
                        refine z_iload_n (pc := 140) C dX11_set_140 rfl ?_
                        refine z_iload_n (pc := 141) C dX11_set_141 rfl ?_
                        refine z_iast (pc := 142) (N := 10) C dX11_set_142 rfl (by omega) (by decide) (hp_m 8 (by decide) hn (by decide)) ?_
                        refine z_goto (pc := 143) (tgt := 157) C dX11_set_143 (by decide) ?_
                        refine z_iload (pc := 157) C dX11_set_157 rfl ?_
                        exact z_iret (pc := 159) C hQ dX11_set_159 (by clear hQ C hE; first | rfl | (simp [r_set, s_set, lo_set, hi_set, h5, h15, h33, tp, h46, h61, h91, h112, h133]; done) | (simp_all [r_set, s_set, lo_set, hi_set]; done)) (by clear hQ C hE; first | rfl | (simp [r_set, s_set, lo_set, hi_set, h5, h15, h33, tp, h46, h61, h91, h112, h133]; done) | (simp_all [r_set, s_set, lo_set, hi_set]; done)) (by clear hQ C hE; first | rfl | (simp [r_set, s_set, lo_set, hi_set, h5, h15, h33, tp, h46, h61, h91, h112, h133]; done) | (simp_all [r_set, s_set, lo_set, hi_set]; done)) (by decide) (by decide))
                 · first
                   | exact absurd h112 h61
                   |
                     (first | refine z_aload_n (pc := 115) C dX11_set_115 rfl ?_ | refine z_aload_nN (pc := 115) C dX11_set_115 rfl ?_
                      refine z_getf (pc := 116) C dX11_set_116 zf_X11_31_10 rfl rfl ?_
                      refine z_iload_n (pc := 119) C dX11_set_119 rfl ?_
                      refine z_iload_n (pc := 120) C dX11_set_120 rfl ?_
                      refine z_iast (pc := 121) (N := 10) C dX11_set_121 rfl (by omega) (by decide) (hp_m 7 (by decide) hn (by decide)) ?_
                      refine z_goto (pc := 122) (tgt := 157) C dX11_set_122 (by decide) ?_
                      refine z_iload (pc := 157) C dX11_set_157 rfl ?_
                      exact z_iret (pc := 159) C hQ dX11_set_159 (by clear hQ C hE; first | rfl | (simp [r_set, s_set, lo_set, hi_set, h5, h15, h33, tp, h46, h61, h91, h112]; done) | (simp_all [r_set, s_set, lo_set, hi_set]; done)) (by clear hQ C hE; first | rfl | (simp [r_set, s_set, lo_set, hi_set, h5, h15, h33, tp, h46, h61, h91, h112]; done) | (simp_all [r_set, s_set, lo_set, hi_set]; done)) (by clear hQ C hE; first | rfl | (simp [r_set, s_set, lo_set, hi_set, h5, h15, h33, tp, h46, h61, h91, h112]; done) | (simp_all [r_set, s_set, lo_set, hi_set]; done)) (by decide) (by decide))
               · refine z_bipush (pc := 94) (v := (-2)) C dX11_set_94 (by decide) ?_
                 exact z_iret (pc := 96) C hQ dX11_set_96 (by clear hQ C hE; first | rfl | (simp [r_set, s_set, lo_set, hi_set, h5, h15, h33, tp, h46, h61, h91]; done) | (simp_all [r_set, s_set, lo_set, hi_set]; done)) (by clear hQ C hE; first | rfl | (simp [r_set, s_set, lo_set, hi_set, h5, h15, h33, tp, h46, h61, h91]; done) | (simp_all [r_set, s_set, lo_set, hi_set]; done)) (by clear hQ C hE; first | rfl | (simp [r_set, s_set, lo_set, hi_set, h5, h15, h33, tp, h46, h61, h91]; done) | (simp_all [r_set, s_set, lo_set, hi_set]; done)) (by decide) (by decide))
      · refine z_iconst (pc := 36) (v := (-1)) C dX11_set_36 (by decide) ?_
        exact z_iret (pc := 37) C hQ dX11_set_37 (by clear hQ C hE; first | rfl | (simp [r_set, s_set, lo_set, hi_set, h5, h15, h33]; done) | (simp_all [r_set, s_set, lo_set, hi_set]; done)) (by clear hQ C hE; first | rfl | (simp [r_set, s_set, lo_set, hi_set, h5, h15, h33]; done) | (simp_all [r_set, s_set, lo_set, hi_set]; done)) (by clear hQ C hE; first | rfl | (simp [r_set, s_set, lo_set, hi_set, h5, h15, h33]; done) | (simp_all [r_set, s_set, lo_set, hi_set]; done)) (by decide) (by decide)
    · refine z_bipush (pc := 18) (v := (-3)) C dX11_set_18 (by decide) ?_
      exact z_iret (pc := 20) C hQ dX11_set_20 (by clear hQ C hE; first | rfl | (simp [r_set, s_set, lo_set, hi_set, h5, h15]; done) | (simp_all [r_set, s_set, lo_set, hi_set]; done)) (by clear hQ C hE; first | rfl | (simp [r_set, s_set, lo_set, hi_set, h5, h15]; done) | (simp_all [r_set, s_set, lo_set, hi_set]; done)) (by clear hQ C hE; first | rfl | (simp [r_set, s_set, lo_set, hi_set, h5, h15]; done) | (simp_all [r_set, s_set, lo_set, hi_set]; done)) (by decide) (by decide)
  · exact absurd h0 h5
