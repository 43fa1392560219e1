/-! ===== the reference: what a unit gives ===== -/
set_option maxHeartbeats 4000000 in
set_option maxRecDepth 100000 in
theorem ct_X11_mills (l : Launch) (Ω : OmT) (σ : Sg) (u i s : Nat) (hn : σ.2.2.2 ≤ 10) (hu : u < 10) (hi : i < 4) (hs : s < 2) : ZM l Ω yX11_mills cX11_mills 8 none rm_X11_mills [rfO Ω 6, .int (nI u), .int (nI i), .int (nI s)] (hp Ω σ) (hN σ) (none) (hp Ω (mMill σ u i s)) (hN σ) := by
  refine ZM_of (by decide) (Nat.le_of_ble_eq_true rfl) (fun E hE C hQ => ?_)
  have hn0 := hn
  have loop : ∀ (j q : Nat), q + j = 3 - i → ZV l Ω E 0 0 25 [(0, rfO Ω 6), (1, .int (nI u)), (2, .int (nI i)), (3, .int (nI s)), (4, .int (σ.1 11 2 (8 * u + (2 * i + s)))), (5, .int (mlLeft i (σ.1 11 2 (8 * u + (2 * i + s))) (fun j => σ.1 11 4 (16 * u + 4 * i + j)) q)), (6, .int (nI (i + 1 + q)))] [] (hp Ω (itF (mlStep u i s (σ.1 11 2 (8 * u + (2 * i + s))) (fun j => σ.1 11 4 (16 * u + 4 * i + j))) q σ)) (hN σ) := by
    intro j
    induction j with
    | zero =>
      intro q hq
      have hn : (itF (mlStep u i s (σ.1 11 2 (8 * u + (2 * i + s))) (fun j => σ.1 11 4 (16 * u + 4 * i + j))) q σ).2.2.2 ≤ 10 := by rw [itF_n (f := mlStep u i s (σ.1 11 2 (8 * u + (2 * i + s))) (fun j => σ.1 11 4 (16 * u + 4 * i + j))) (fun _ _ => rfl)]; exact hn0
      refine z_iload (pc := 25) C dX11_mills_25 rfl ?_
      refine z_iconst (pc := 27) (v := nI 4) C dX11_mills_27 (by decide) ?_
      -- at 28: if_icmpge 
      refine z_icmp_geT (pc := 28) (tgt := 94) C dX11_mills_28 (by decide) (by omega) (by omega) (by omega) ?_
      obtain rfl : q = 3 - i := by omega
      first | refine z_aload_n (pc := 94) C dX11_mills_94 rfl ?_ | refine z_aload_nN (pc := 94) C dX11_mills_94 rfl ?_
      refine z_getf (pc := 95) C dX11_mills_95 zf_X11_65_10 rfl rfl ?_
      first | refine z_aload_n (pc := 98) C dX11_mills_98 rfl ?_ | refine z_aload_nN (pc := 98) C dX11_mills_98 rfl ?_
      refine z_iload_n (pc := 99) C dX11_mills_99 rfl ?_
      refine z_iconst (pc := 100) (v := nI 0) C dX11_mills_100 (by decide) ?_
      refine z_iconst (pc := 101) (v := nI 2) C dX11_mills_101 (by decide) ?_
      refine z_iload_n (pc := 102) C dX11_mills_102 rfl ?_
      first | with_reducible refine z_imulN (pc := 103) C dX11_mills_103 ?_ | refine z_imul (pc := 103) C dX11_mills_103 ?_
      refine z_iload_n (pc := 104) C dX11_mills_104 rfl ?_
      first | with_reducible refine z_iaddN (pc := 105) C dX11_mills_105 ?_ | refine z_iadd (pc := 105) C dX11_mills_105 ?_
      refine z_callV (pc := 106) (ci := 10) C dX11_mills_106 zy_X11_outAt kw_739 kw_740 rfl kw_847 rfl (ct_X11_outAt l Ω _ _ _ _ _) rfl rfl ⟨⟨by decide, by decide⟩, by decide, by decide⟩ (Nat.le_of_ble_eq_true rfl) ?_; dsimp only [Option.toList_some, List.cons_append, List.nil_append]
      refine z_dup2 (pc := 109) C dX11_mills_109 rfl rfl ?_
      refine z_iald (pc := 110) (N := 160) C dX11_mills_110 rfl (by omega) (by decide) rfl ?_
      refine z_iload (pc := 111) C dX11_mills_111 rfl ?_
      first | with_reducible refine z_iaddN (pc := 113) C dX11_mills_113 ?_ | refine z_iadd (pc := 113) C dX11_mills_113 ?_
      refine z_iast (pc := 114) (N := 160) C dX11_mills_114 rfl (by omega) (by decide) (hp_m 18 (by decide) hn (by decide)) ?_
      -- at 115: return 
      exact z_vret (pc := 115) C hQ dX11_mills_115 rfl rfl rfl (by decide) (by decide)
    | succ j ih =>
      intro q hq
      have hn : (itF (mlStep u i s (σ.1 11 2 (8 * u + (2 * i + s))) (fun j => σ.1 11 4 (16 * u + 4 * i + j))) q σ).2.2.2 ≤ 10 := by rw [itF_n (f := mlStep u i s (σ.1 11 2 (8 * u + (2 * i + s))) (fun j => σ.1 11 4 (16 * u + 4 * i + j))) (fun _ _ => rfl)]; exact hn0
      have et : (itF (mlStep u i s (σ.1 11 2 (8 * u + (2 * i + s))) (fun j => σ.1 11 4 (16 * u + 4 * i + j))) q σ).1 11 4 = σ.1 11 4 := itF_row (f := mlStep u i s (σ.1 11 2 (8 * u + (2 * i + s))) (fun j => σ.1 11 4 (16 * u + 4 * i + j))) (fun τ => τ.1 11 4) (fun c τ => by funext j; simp [mlStep, sI]) σ q
      refine z_iload (pc := 25) C dX11_mills_25 rfl ?_
      refine z_iconst (pc := 27) (v := nI 4) C dX11_mills_27 (by decide) ?_
      -- at 28: if_icmpge 
      refine z_icmp_geF (pc := 28) (tgt := 94) C dX11_mills_28 (by decide) (by omega) (by omega) (by omega) ?_
      refine z_iload (pc := 31) C dX11_mills_31 rfl ?_
      refine z_i2l (pc := 33) C dX11_mills_33 rfl ?_
      first | refine z_aload_n (pc := 34) C dX11_mills_34 rfl ?_ | refine z_aload_nN (pc := 34) C dX11_mills_34 rfl ?_
      refine z_getf (pc := 35) C dX11_mills_35 zf_X11_22_10 rfl rfl ?_
      refine z_bipush (pc := 38) (v := nI 16) C dX11_mills_38 (by decide) ?_
      refine z_iload_n (pc := 40) C dX11_mills_40 rfl ?_
      first | with_reducible refine z_imulN (pc := 41) C dX11_mills_41 ?_ | refine z_imul (pc := 41) C dX11_mills_41 ?_
      refine z_iconst (pc := 42) (v := nI 4) C dX11_mills_42 (by decide) ?_
      refine z_iload_n (pc := 43) C dX11_mills_43 rfl ?_
      first | with_reducible refine z_imulN (pc := 44) C dX11_mills_44 ?_ | refine z_imul (pc := 44) C dX11_mills_44 ?_
      first | with_reducible refine z_iaddN (pc := 45) C dX11_mills_45 ?_ | refine z_iadd (pc := 45) C dX11_mills_45 ?_
      refine z_iload (pc := 46) C dX11_mills_46 rfl ?_
      first | with_reducible refine z_iaddN (pc := 48) C dX11_mills_48 ?_ | refine z_iadd (pc := 48) C dX11_mills_48 ?_
      refine z_iald (pc := 49) (N := 160) C dX11_mills_49 rfl (by omega) (by decide) rfl ?_; rw [et]
      refine z_i2l (pc := 50) C dX11_mills_50 rfl ?_
      refine z_lmul (pc := 51) C dX11_mills_51 ?_
      refine z_ldc2 (pc := 52) (v := 10) C dX11_mills_52 kw_745 ?_
      refine z_ldiv (pc := 55) C dX11_mills_55 (by decide) ?_
      refine z_l2i (pc := 56) C dX11_mills_56 rfl ?_
      refine z_istore (pc := 57) C dX11_mills_57 (by rw [hE]; decide) ?_
      first | refine z_aload_n (pc := 59) C dX11_mills_59 rfl ?_ | refine z_aload_nN (pc := 59) C dX11_mills_59 rfl ?_
      refine z_getf (pc := 60) C dX11_mills_60 zf_X11_65_10 rfl rfl ?_
      first | refine z_aload_n (pc := 63) C dX11_mills_63 rfl ?_ | refine z_aload_nN (pc := 63) C dX11_mills_63 rfl ?_
      refine z_iload_n (pc := 64) C dX11_mills_64 rfl ?_
      refine z_iconst (pc := 65) (v := nI 0) C dX11_mills_65 (by decide) ?_
      refine z_iconst (pc := 66) (v := nI 2) C dX11_mills_66 (by decide) ?_
      refine z_iload (pc := 67) C dX11_mills_67 rfl ?_
      first | with_reducible refine z_imulN (pc := 69) C dX11_mills_69 ?_ | refine z_imul (pc := 69) C dX11_mills_69 ?_
      refine z_iload_n (pc := 70) C dX11_mills_70 rfl ?_
      first | with_reducible refine z_iaddN (pc := 71) C dX11_mills_71 ?_ | refine z_iadd (pc := 71) C dX11_mills_71 ?_
      refine z_callV (pc := 72) (ci := 10) C dX11_mills_72 zy_X11_outAt kw_739 kw_740 rfl kw_847 rfl (ct_X11_outAt l Ω _ _ _ _ _) rfl rfl ⟨⟨by decide, by decide⟩, by decide, by decide⟩ (Nat.le_of_ble_eq_true rfl) ?_; dsimp only [Option.toList_some, List.cons_append, List.nil_append]
      refine z_dup2 (pc := 75) C dX11_mills_75 rfl rfl ?_
      refine z_iald (pc := 76) (N := 160) C dX11_mills_76 rfl (by omega) (by decide) rfl ?_
      refine z_iload (pc := 77) C dX11_mills_77 rfl ?_
      first | with_reducible refine z_iaddN (pc := 79) C dX11_mills_79 ?_ | refine z_iadd (pc := 79) C dX11_mills_79 ?_
      refine z_iast (pc := 80) (N := 160) C dX11_mills_80 rfl (by omega) (by decide) (hp_m 18 (by decide) hn (by decide)) ?_
      refine z_iload (pc := 81) C dX11_mills_81 rfl ?_
      refine z_iload (pc := 83) C dX11_mills_83 rfl ?_
      first | with_reducible refine z_isubN (pc := 85) C dX11_mills_85 (by omega) ?_ | refine z_isub (pc := 85) C dX11_mills_85 ?_
      refine z_istore (pc := 86) C dX11_mills_86 (by rw [hE]; decide) ?_
      first | refine z_iincN (pc := 88) C dX11_mills_88 rfl (by rw [hE]; decide) ?_ | refine z_iinc (pc := 88) C dX11_mills_88 rfl rfl (by rw [hE]; decide) ?_
      refine z_goto (pc := 91) (tgt := 25) C dX11_mills_91 (by decide) ?_
      -- at 25
      refine z_pick [0, 1, 2, 3, 4, 5, 6] rfl ?_
      exact ih (q + 1) (by omega)
  first | refine z_aload_n (pc := 0) C dX11_mills_0 rfl ?_ | refine z_aload_nN (pc := 0) C dX11_mills_0 rfl ?_
  refine z_getf (pc := 1) C dX11_mills_1 zf_X11_16_10 rfl rfl ?_
  refine z_iload_n (pc := 4) C dX11_mills_4 rfl ?_
  refine z_iconst (pc := 5) (v := nI 2) C dX11_mills_5 (by decide) ?_
  refine z_iload_n (pc := 6) C dX11_mills_6 rfl ?_
  first | with_reducible refine z_imulN (pc := 7) C dX11_mills_7 ?_ | refine z_imul (pc := 7) C dX11_mills_7 ?_
  refine z_iload_n (pc := 8) C dX11_mills_8 rfl ?_
  first | with_reducible refine z_iaddN (pc := 9) C dX11_mills_9 ?_ | refine z_iadd (pc := 9) C dX11_mills_9 ?_
  refine z_callS (pc := 10) C dX11_mills_10 zy_X11_spot kw_717 kw_718 (ct_X11_spot l Ω _ _ _ _) rfl rfl ⟨⟨by decide, by decide⟩, by decide, by decide⟩ (Nat.le_of_ble_eq_true rfl) ?_; dsimp only [Option.toList_some, List.cons_append, List.nil_append]
  refine z_iald (pc := 13) (N := 80) C dX11_mills_13 rfl (by omega) (by decide) rfl ?_
  refine z_istore (pc := 14) C dX11_mills_14 (by rw [hE]; decide) ?_
  refine z_iload (pc := 16) C dX11_mills_16 rfl ?_
  refine z_istore (pc := 18) C dX11_mills_18 (by rw [hE]; decide) ?_
  refine z_iload_n (pc := 20) C dX11_mills_20 rfl ?_
  refine z_iconst (pc := 21) (v := nI 1) C dX11_mills_21 (by decide) ?_
  first | with_reducible refine z_iaddN (pc := 22) C dX11_mills_22 ?_ | refine z_iadd (pc := 22) C dX11_mills_22 ?_
  refine z_istore (pc := 23) C dX11_mills_23 (by rw [hE]; decide) ?_
  -- at 25: iload 
  exact loop (3 - i) 0 (by omega)
set_option maxHeartbeats 4000000 in
set_option maxRecDepth 100000 in
theorem ct_X11_parts (l : Launch) (Ω : OmT) (σ : Sg) (u c : Nat) (hn : σ.2.2.2 ≤ 10) (hu : u < 10) (hc : c < 8) (e1 : σ.1 11 0 u = nI (σ.2.2.1 u)) (e2 : σ.2.2.1 u < 8) : ZM l Ω yX11_parts cX11_parts 7 none rm_X11_parts [rfO Ω 6, .int (nI u), .int (nI c)] (hp Ω σ) (hN σ) (none) (hp Ω (mPart σ u c)) (hN σ) := by
  refine ZM_of (by decide) (Nat.le_of_ble_eq_true rfl) (fun E hE C hQ => ?_)
  have tl : ∀ x : Nat, x < 4 → x = (if σ.2.2.1 u = 3 then c / 2 else c % 2) → ZV l Ω E 0 0 39 [(0, rfO Ω 6), (1, .int (nI u)), (2, .int (nI c)), (3, .int (σ.1 11 2 (8 * u + c)))] [.int (nI x), .int (nI (4 * u)), rfO Ω 12, .long (σ.1 11 2 (8 * u + c)).toInt64] (hp Ω σ) (hN σ) := by
    intro x hx ex
    have ek : pK σ u c = (σ.1 11 2 (8 * u + c)).toInt64 * (σ.1 11 5 (4 * u + x)).toInt64 + (σ.1 11 6 (8 * u + c)).toInt64 := by rw [ex]; rfl
    refine z_iaddN (pc := 39) C dX11_parts_39 ?_
    refine z_iald (pc := 40) (N := 40) C dX11_parts_40 rfl (by omega) (by decide) rfl ?_
    refine z_i2l (pc := 41) C dX11_parts_41 rfl ?_
    refine z_lmul (pc := 42) C dX11_parts_42 ?_
    first | refine z_aload_n (pc := 43) C dX11_parts_43 rfl ?_ | refine z_aload_nN (pc := 43) C dX11_parts_43 rfl ?_
    refine z_getf (pc := 44) C dX11_parts_44 zf_X11_28_10 rfl rfl ?_
    refine z_iload_n (pc := 47) C dX11_parts_47 rfl ?_
    refine z_iload_n (pc := 48) C dX11_parts_48 rfl ?_
    refine z_callS (pc := 49) C dX11_parts_49 zy_X11_spot kw_717 kw_718 (ct_X11_spot l Ω _ _ _ _) rfl rfl ⟨⟨by decide, by decide⟩, by decide, by decide⟩ (Nat.le_of_ble_eq_true rfl) ?_; dsimp only [Option.toList_some, List.cons_append, List.nil_append]
    refine z_iald (pc := 52) (N := 80) C dX11_parts_52 rfl (by omega) (by decide) rfl ?_
    refine z_i2l (pc := 53) C dX11_parts_53 rfl ?_
    refine z_ladd (pc := 54) C dX11_parts_54 ?_
    -- at 55: lstore 
    rw [← ek]
    refine z_lstore (pc := 55) C dX11_parts_55 (by rw [hE]; decide) ?_
    refine z_lload (pc := 57) C dX11_parts_57 rfl ?_
    refine z_ldc2 (pc := 59) (v := 10) C dX11_parts_59 kw_745 ?_
    refine z_ldiv (pc := 62) C dX11_parts_62 (by decide) ?_
    refine z_l2i (pc := 63) C dX11_parts_63 rfl ?_
    refine z_istore (pc := 64) C dX11_parts_64 (by rw [hE]; decide) ?_
    first | refine z_aload_n (pc := 66) C dX11_parts_66 rfl ?_ | refine z_aload_nN (pc := 66) C dX11_parts_66 rfl ?_
    refine z_getf (pc := 67) C dX11_parts_67 zf_X11_28_10 rfl rfl ?_
    refine z_iload_n (pc := 70) C dX11_parts_70 rfl ?_
    refine z_iload_n (pc := 71) C dX11_parts_71 rfl ?_
    refine z_callS (pc := 72) C dX11_parts_72 zy_X11_spot kw_717 kw_718 (ct_X11_spot l Ω _ _ _ _) rfl rfl ⟨⟨by decide, by decide⟩, by decide, by decide⟩ (Nat.le_of_ble_eq_true rfl) ?_; dsimp only [Option.toList_some, List.cons_append, List.nil_append]
    refine z_lload (pc := 75) C dX11_parts_75 rfl ?_
    refine z_ldc2 (pc := 77) (v := 10) C dX11_parts_77 kw_745 ?_
    refine z_lrem (pc := 80) C dX11_parts_80 (by decide) ?_
    refine z_l2i (pc := 81) C dX11_parts_81 rfl ?_
    refine z_iast (pc := 82) (N := 80) C dX11_parts_82 rfl (by omega) (by decide) (hp_m 6 (by decide) hn (by decide)) ?_
    first | refine z_aload_n (pc := 83) C dX11_parts_83 rfl ?_ | refine z_aload_nN (pc := 83) C dX11_parts_83 rfl ?_
    refine z_getf (pc := 84) C dX11_parts_84 zf_X11_65_10 rfl rfl ?_
    first | refine z_aload_n (pc := 87) C dX11_parts_87 rfl ?_ | refine z_aload_nN (pc := 87) C dX11_parts_87 rfl ?_
    refine z_iload_n (pc := 88) C dX11_parts_88 rfl ?_
    refine z_iconst (pc := 89) (v := nI 0) C dX11_parts_89 (by decide) ?_
    refine z_iload_n (pc := 90) C dX11_parts_90 rfl ?_
    refine z_callV (pc := 91) (ci := 10) C dX11_parts_91 zy_X11_outAt kw_739 kw_740 rfl kw_847 rfl (ct_X11_outAt l Ω _ _ _ _ _) rfl rfl ⟨⟨by decide, by decide⟩, by decide, by decide⟩ (Nat.le_of_ble_eq_true rfl) ?_; dsimp only [Option.toList_some, List.cons_append, List.nil_append]
    refine z_iload (pc := 94) C dX11_parts_94 rfl ?_
    refine z_iast (pc := 96) (N := 160) C dX11_parts_96 rfl (by omega) (by decide) (hp_m 18 (by decide) hn (by decide)) ?_
    first | refine z_aload_n (pc := 97) C dX11_parts_97 rfl ?_ | refine z_aload_nN (pc := 97) C dX11_parts_97 rfl ?_
    refine z_getf (pc := 98) C dX11_parts_98 zf_X11_65_10 rfl rfl ?_
    first | refine z_aload_n (pc := 101) C dX11_parts_101 rfl ?_ | refine z_aload_nN (pc := 101) C dX11_parts_101 rfl ?_
    refine z_iload_n (pc := 102) C dX11_parts_102 rfl ?_
    refine z_iconst (pc := 103) (v := nI 1) C dX11_parts_103 (by decide) ?_
    refine z_iload_n (pc := 104) C dX11_parts_104 rfl ?_
    refine z_callV (pc := 105) (ci := 10) C dX11_parts_105 zy_X11_outAt kw_739 kw_740 rfl kw_847 rfl (ct_X11_outAt l Ω _ _ _ _ _) rfl rfl ⟨⟨by decide, by decide⟩, by decide, by decide⟩ (Nat.le_of_ble_eq_true rfl) ?_; dsimp only [Option.toList_some, List.cons_append, List.nil_append]
    refine z_iload_n (pc := 108) C dX11_parts_108 rfl ?_
    refine z_iload (pc := 109) C dX11_parts_109 rfl ?_
    first | with_reducible refine z_isubN (pc := 111) C dX11_parts_111 (by omega) ?_ | refine z_isub (pc := 111) C dX11_parts_111 ?_
    refine z_iast (pc := 112) (N := 160) C dX11_parts_112 rfl (by omega) (by decide) (hp_m 18 (by decide) hn (by decide)) ?_
    -- at 113: return 
    exact z_vret (pc := 113) C hQ dX11_parts_113 rfl rfl rfl (by decide) (by decide)
  first | refine z_aload_n (pc := 0) C dX11_parts_0 rfl ?_ | refine z_aload_nN (pc := 0) C dX11_parts_0 rfl ?_
  refine z_getf (pc := 1) C dX11_parts_1 zf_X11_16_10 rfl rfl ?_
  refine z_iload_n (pc := 4) C dX11_parts_4 rfl ?_
  refine z_iload_n (pc := 5) C dX11_parts_5 rfl ?_
  refine z_callS (pc := 6) C dX11_parts_6 zy_X11_spot kw_717 kw_718 (ct_X11_spot l Ω _ _ _ _) rfl rfl ⟨⟨by decide, by decide⟩, by decide, by decide⟩ (Nat.le_of_ble_eq_true rfl) ?_; dsimp only [Option.toList_some, List.cons_append, List.nil_append]
  refine z_iald (pc := 9) (N := 80) C dX11_parts_9 rfl (by omega) (by decide) rfl ?_
  refine z_istore_n (pc := 10) C dX11_parts_10 (by rw [hE]; decide) ?_
  refine z_iload_n (pc := 11) C dX11_parts_11 rfl ?_
  refine z_i2l (pc := 12) C dX11_parts_12 rfl ?_
  first | refine z_aload_n (pc := 13) C dX11_parts_13 rfl ?_ | refine z_aload_nN (pc := 13) C dX11_parts_13 rfl ?_
  refine z_getf (pc := 14) C dX11_parts_14 zf_X11_25_10 rfl rfl ?_
  refine z_iconst (pc := 17) (v := nI 4) C dX11_parts_17 (by decide) ?_
  refine z_iload_n (pc := 18) C dX11_parts_18 rfl ?_
  first | with_reducible refine z_imulN (pc := 19) C dX11_parts_19 ?_ | refine z_imul (pc := 19) C dX11_parts_19 ?_
  first | refine z_aload_n (pc := 20) C dX11_parts_20 rfl ?_ | refine z_aload_nN (pc := 20) C dX11_parts_20 rfl ?_
  refine z_getf (pc := 21) C dX11_parts_21 zf_X11_9_10 rfl rfl ?_
  refine z_iload_n (pc := 24) C dX11_parts_24 rfl ?_
  refine z_iald (pc := 25) (N := 10) C dX11_parts_25 rfl (by omega) (by decide) rfl ?_; rw [e1]
  refine z_iconst (pc := 26) (v := nI 3) C dX11_parts_26 (by decide) ?_
  -- at 27: if_icmpne 
  refine z_icmp_neX (pc := 27) (tgt := 36) C dX11_parts_27 (by decide) (by omega) (by decide) (fun h => ?_) (fun h => ?_)
  · refine z_iload_n (pc := 36) C dX11_parts_36 rfl ?_
    refine z_iconst (pc := 37) (v := nI 2) C dX11_parts_37 (by decide) ?_
    first | with_reducible refine z_iremN (pc := 38) C dX11_parts_38 (by omega) (by decide) (by decide) ?_ | refine z_irem (pc := 38) C dX11_parts_38 (by decide) ?_
    -- at 39: iadd 
    exact tl (c % 2) (by omega) (by rw [if_neg h])
  · refine z_iload_n (pc := 30) C dX11_parts_30 rfl ?_
    refine z_iconst (pc := 31) (v := nI 2) C dX11_parts_31 (by decide) ?_
    first | with_reducible refine z_idivN (pc := 32) C dX11_parts_32 (by omega) (by decide) (by decide) ?_ | refine z_idiv (pc := 32) C dX11_parts_32 (by decide) ?_
    refine z_goto (pc := 33) (tgt := 39) C dX11_parts_33 (by decide) ?_
    -- at 39
    exact tl (c / 2) (by omega) (by rw [if_pos h])
set_option maxHeartbeats 4000000 in
set_option maxRecDepth 100000 in
theorem ct_X11_comes (l : Launch) (Ω : OmT) (σ : Sg) (u p : Nat) (hw : MW σ) (hu : u < 10) (hp0 : p < 2) (hd : σ.1 11 1 (2 * u + p) < 0 ∨ ∃ d, d < σ.2.2.2 ∧ σ.1 11 1 (2 * u + p) = nI d) : ZM l Ω yX11_comes cX11_comes 6 none rm_X11_comes [rfO Ω 6, .int (nI u), .int (nI p)] (hp Ω σ) (hN σ) (none) (hp Ω (mCome σ u p)) (hN σ) := by
  refine ZM_of (by decide) (Nat.le_of_ble_eq_true rfl) (fun E hE C hQ => ?_)
  have hn0 := hw.1
  rcases hd with hd | ⟨d, hd, ed⟩
  · have loop : ∀ (j c : Nat), c + j = 8 → ZV l Ω E 0 0 14 [(0, rfO Ω 6), (1, .int (nI u)), (2, .int (nI p)), (3, .int (σ.1 11 1 (2 * u + p))), (4, .int (nI c))] [] (hp Ω (itF (cmSp u p) c σ)) (hN σ) := by
      intro j
      induction j with
      | zero =>
        intro c hc
        obtain rfl : c = 8 := by omega
        refine z_iload (pc := 14) C dX11_comes_14 rfl ?_
        refine z_bipush (pc := 16) (v := nI 8) C dX11_comes_16 (by decide) ?_
        -- at 18: if_icmpge 
        refine z_icmp_geT (pc := 18) (tgt := 116) C dX11_comes_18 (by decide) (by omega) (by omega) (by omega) ?_
        exact z_vret (pc := 116) C hQ dX11_comes_116 rfl (by unfold mCome; rw [if_pos hd]) rfl (by decide) (by decide)
      | succ j ih =>
        intro c hc
        refine z_iload (pc := 14) C dX11_comes_14 rfl ?_
        refine z_bipush (pc := 16) (v := nI 8) C dX11_comes_16 (by decide) ?_
        -- at 18: if_icmpge 
        refine z_icmp_geF (pc := 18) (tgt := 116) C dX11_comes_18 (by decide) (by omega) (by omega) (by omega) ?_
        first | refine z_aload_n (pc := 21) C dX11_comes_21 rfl ?_ | refine z_aload_nN (pc := 21) C dX11_comes_21 rfl ?_
        refine z_getf (pc := 22) C dX11_comes_22 zf_X11_65_10 rfl rfl ?_
        first | refine z_aload_n (pc := 25) C dX11_comes_25 rfl ?_ | refine z_aload_nN (pc := 25) C dX11_comes_25 rfl ?_
        refine z_iload_n (pc := 26) C dX11_comes_26 rfl ?_
        refine z_iload_n (pc := 27) C dX11_comes_27 rfl ?_
        refine z_iload (pc := 28) C dX11_comes_28 rfl ?_
        refine z_callV (pc := 30) (ci := 10) C dX11_comes_30 zy_X11_outAt kw_739 kw_740 rfl kw_847 rfl (ct_X11_outAt l Ω _ _ _ _ _) rfl rfl ⟨⟨by decide, by decide⟩, by decide, by decide⟩ (Nat.le_of_ble_eq_true rfl) ?_; dsimp only [Option.toList_some, List.cons_append, List.nil_append]
        refine z_iald (pc := 33) (N := 160) C dX11_comes_33 rfl (by omega) (by decide) rfl ?_
        refine z_istore (pc := 34) C dX11_comes_34 (by rw [hE]; decide) ?_
        refine z_iload_n (pc := 36) C dX11_comes_36 rfl ?_
        -- at 37: ifge 
        refine z_if_ge (pc := 37) (tgt := 60) C dX11_comes_37 (by decide) (fun h => absurd hd (Int32.not_lt.mpr h)) (fun h => ?_)
        first | refine z_aload_n (pc := 40) C dX11_comes_40 rfl ?_ | refine z_aload_nN (pc := 40) C dX11_comes_40 rfl ?_
        refine z_getf (pc := 41) C dX11_comes_41 zf_X11_72_10 rfl rfl ?_
        refine z_iload_n (pc := 44) C dX11_comes_44 rfl ?_
        refine z_iload (pc := 45) C dX11_comes_45 rfl ?_
        refine z_callS (pc := 47) C dX11_comes_47 zy_X11_spot kw_717 kw_718 (ct_X11_spot l Ω _ _ _ _) rfl rfl ⟨⟨by decide, by decide⟩, by decide, by decide⟩ (Nat.le_of_ble_eq_true rfl) ?_; dsimp only [Option.toList_some, List.cons_append, List.nil_append]
        refine z_dup2 (pc := 50) C dX11_comes_50 rfl rfl ?_
        refine z_lald (pc := 51) (N := 80) C dX11_comes_51 rfl (by omega) (by decide) rfl ?_
        refine z_iload (pc := 52) C dX11_comes_52 rfl ?_
        refine z_i2l (pc := 54) C dX11_comes_54 rfl ?_
        refine z_ladd (pc := 55) C dX11_comes_55 ?_
        refine z_last (pc := 56) (N := 80) C dX11_comes_56 rfl (by omega) (by decide) (hp_ml 20 (by decide)) ?_
        refine z_goto (pc := 57) (tgt := 110) C dX11_comes_57 (by decide) ?_
        first | refine z_iincN (pc := 110) C dX11_comes_110 rfl (by rw [hE]; decide) ?_ | refine z_iinc (pc := 110) C dX11_comes_110 rfl rfl (by rw [hE]; decide) ?_
        refine z_goto (pc := 113) (tgt := 14) C dX11_comes_113 (by decide) ?_
        -- at 14
        refine z_pick [0, 1, 2, 3, 4] rfl ?_
        exact ih (c + 1) (by omega)
    first | refine z_aload_n (pc := 0) C dX11_comes_0 rfl ?_ | refine z_aload_nN (pc := 0) C dX11_comes_0 rfl ?_
    refine z_getf (pc := 1) C dX11_comes_1 zf_X11_13_10 rfl rfl ?_
    refine z_iconst (pc := 4) (v := nI 2) C dX11_comes_4 (by decide) ?_
    refine z_iload_n (pc := 5) C dX11_comes_5 rfl ?_
    first | with_reducible refine z_imulN (pc := 6) C dX11_comes_6 ?_ | refine z_imul (pc := 6) C dX11_comes_6 ?_
    refine z_iload_n (pc := 7) C dX11_comes_7 rfl ?_
    first | with_reducible refine z_iaddN (pc := 8) C dX11_comes_8 ?_ | refine z_iadd (pc := 8) C dX11_comes_8 ?_
    refine z_iald (pc := 9) (N := 20) C dX11_comes_9 rfl (by omega) (by decide) rfl ?_
    refine z_istore_n (pc := 10) C dX11_comes_10 (by rw [hE]; decide) ?_
    refine z_iconst (pc := 11) (v := nI 0) C dX11_comes_11 (by decide) ?_
    refine z_istore (pc := 12) C dX11_comes_12 (by rw [hE]; decide) ?_
    -- at 14: iload 
    exact loop 8 0 rfl
  · have hd0 : ¬ nI d < 0 := nI_pos (by omega)
    obtain ⟨e1, e2⟩ := hw.2.2 d hd
    by_cases h7 : σ.2.2.1 d = 7
    · have loop : ∀ (j c : Nat), c + j = 8 → ZV l Ω E 0 0 14 [(0, rfO Ω 6), (1, .int (nI u)), (2, .int (nI p)), (3, .int (nI d)), (4, .int (nI c))] [] (hp Ω (itF (cmLd u p d) c σ)) (hN σ) := by
        intro j
        induction j with
        | zero =>
          intro c hc
          obtain rfl : c = 8 := by omega
          refine z_iload (pc := 14) C dX11_comes_14 rfl ?_
          refine z_bipush (pc := 16) (v := nI 8) C dX11_comes_16 (by decide) ?_
          -- at 18: if_icmpge 
          refine z_icmp_geT (pc := 18) (tgt := 116) C dX11_comes_18 (by decide) (by omega) (by omega) (by omega) ?_
          exact z_vret (pc := 116) C hQ dX11_comes_116 rfl (by unfold mCome; rw [ed, tn_nI (by omega), if_neg hd0, if_pos h7]) rfl (by decide) (by decide)
        | succ j ih =>
          intro c hc
          have hn : (itF (cmLd u p d) c σ).2.2.2 ≤ 10 := by rw [itF_n (f := cmLd u p d) (fun _ _ => rfl)]; exact hn0
          have ek : (itF (cmLd u p d) c σ).1 11 0 = σ.1 11 0 := itF_row (f := cmLd u p d) (fun τ => τ.1 11 0) (fun c τ => by funext j; simp [cmLd, cmHo, sI, sL]) σ c
          refine z_iload (pc := 14) C dX11_comes_14 rfl ?_
          refine z_bipush (pc := 16) (v := nI 8) C dX11_comes_16 (by decide) ?_
          -- at 18: if_icmpge 
          refine z_icmp_geF (pc := 18) (tgt := 116) C dX11_comes_18 (by decide) (by omega) (by omega) (by omega) ?_
          first | refine z_aload_n (pc := 21) C dX11_comes_21 rfl ?_ | refine z_aload_nN (pc := 21) C dX11_comes_21 rfl ?_
          refine z_getf (pc := 22) C dX11_comes_22 zf_X11_65_10 rfl rfl ?_
          first | refine z_aload_n (pc := 25) C dX11_comes_25 rfl ?_ | refine z_aload_nN (pc := 25) C dX11_comes_25 rfl ?_
          refine z_iload_n (pc := 26) C dX11_comes_26 rfl ?_
          refine z_iload_n (pc := 27) C dX11_comes_27 rfl ?_
          refine z_iload (pc := 28) C dX11_comes_28 rfl ?_
          refine z_callV (pc := 30) (ci := 10) C dX11_comes_30 zy_X11_outAt kw_739 kw_740 rfl kw_847 rfl (ct_X11_outAt l Ω _ _ _ _ _) rfl rfl ⟨⟨by decide, by decide⟩, by decide, by decide⟩ (Nat.le_of_ble_eq_true rfl) ?_; dsimp only [Option.toList_some, List.cons_append, List.nil_append]
          refine z_iald (pc := 33) (N := 160) C dX11_comes_33 rfl (by omega) (by decide) rfl ?_
          refine z_istore (pc := 34) C dX11_comes_34 (by rw [hE]; decide) ?_
          refine z_iload_n (pc := 36) C dX11_comes_36 rfl ?_
          -- at 37: ifge 
          refine z_if_geT (pc := 37) (tgt := 60) C dX11_comes_37 (by decide) (by omega) ?_
          first | refine z_aload_n (pc := 60) C dX11_comes_60 rfl ?_ | refine z_aload_nN (pc := 60) C dX11_comes_60 rfl ?_
          refine z_getf (pc := 61) C dX11_comes_61 zf_X11_16_10 rfl rfl ?_
          refine z_iload_n (pc := 64) C dX11_comes_64 rfl ?_
          refine z_iload (pc := 65) C dX11_comes_65 rfl ?_
          refine z_callS (pc := 67) C dX11_comes_67 zy_X11_spot kw_717 kw_718 (ct_X11_spot l Ω _ _ _ _) rfl rfl ⟨⟨by decide, by decide⟩, by decide, by decide⟩ (Nat.le_of_ble_eq_true rfl) ?_; dsimp only [Option.toList_some, List.cons_append, List.nil_append]
          refine z_dup2 (pc := 70) C dX11_comes_70 rfl rfl ?_
          refine z_iald (pc := 71) (N := 80) C dX11_comes_71 rfl (by omega) (by decide) rfl ?_
          refine z_iload (pc := 72) C dX11_comes_72 rfl ?_
          first | with_reducible refine z_iaddN (pc := 74) C dX11_comes_74 ?_ | refine z_iadd (pc := 74) C dX11_comes_74 ?_
          refine z_iast (pc := 75) (N := 80) C dX11_comes_75 rfl (by omega) (by decide) (hp_m 2 (by decide) hn (by decide)) ?_
          first | refine z_aload_n (pc := 76) C dX11_comes_76 rfl ?_ | refine z_aload_nN (pc := 76) C dX11_comes_76 rfl ?_
          refine z_getf (pc := 77) C dX11_comes_77 zf_X11_9_10 rfl rfl ?_
          refine z_iload_n (pc := 80) C dX11_comes_80 rfl ?_
          refine z_iald (pc := 81) (N := 10) C dX11_comes_81 rfl (by omega) (by decide) rfl ?_
          -- at 82: bipush 
          refine z_top (v' := .int (nI 7)) (by show Value.int ((itF (cmLd u p d) c σ).1 11 0 d) = _; rw [ek, e1, h7]) ?_
          refine z_bipush (pc := 82) (v := nI 7) C dX11_comes_82 (by decide) ?_
          -- at 84: if_icmpne 
          refine z_icmp_neF (pc := 84) (tgt := 110) C dX11_comes_84 (by decide) (by omega) (by omega) (by omega) ?_
          first | refine z_aload_n (pc := 87) C dX11_comes_87 rfl ?_ | refine z_aload_nN (pc := 87) C dX11_comes_87 rfl ?_
          refine z_getf (pc := 88) C dX11_comes_88 zf_X11_75_10 rfl rfl ?_
          refine z_bipush (pc := 91) (v := nI 10) C dX11_comes_91 (by decide) ?_
          refine z_iload_n (pc := 93) C dX11_comes_93 rfl ?_
          first | with_reducible refine z_imulN (pc := 94) C dX11_comes_94 ?_ | refine z_imul (pc := 94) C dX11_comes_94 ?_
          refine z_iload_n (pc := 95) C dX11_comes_95 rfl ?_
          first | with_reducible refine z_iaddN (pc := 96) C dX11_comes_96 ?_ | refine z_iadd (pc := 96) C dX11_comes_96 ?_
          refine z_bipush (pc := 97) (v := nI 8) C dX11_comes_97 (by decide) ?_
          first | with_reducible refine z_imulN (pc := 99) C dX11_comes_99 ?_ | refine z_imul (pc := 99) C dX11_comes_99 ?_
          refine z_iload (pc := 100) C dX11_comes_100 rfl ?_
          first | with_reducible refine z_iaddN (pc := 102) C dX11_comes_102 ?_ | refine z_iadd (pc := 102) C dX11_comes_102 ?_
          refine z_dup2 (pc := 103) C dX11_comes_103 rfl rfl ?_
          refine z_lald (pc := 104) (N := 800) C dX11_comes_104 rfl (by omega) (by decide) rfl ?_
          refine z_iload (pc := 105) C dX11_comes_105 rfl ?_
          refine z_i2l (pc := 107) C dX11_comes_107 rfl ?_
          refine z_ladd (pc := 108) C dX11_comes_108 ?_
          refine z_last (pc := 109) (N := 800) C dX11_comes_109 rfl (by omega) (by decide) (hp_ml 21 (by decide)) ?_
          first | refine z_iincN (pc := 110) C dX11_comes_110 rfl (by rw [hE]; decide) ?_ | refine z_iinc (pc := 110) C dX11_comes_110 rfl rfl (by rw [hE]; decide) ?_
          refine z_goto (pc := 113) (tgt := 14) C dX11_comes_113 (by decide) ?_
          -- at 14
          refine z_pick [0, 1, 2, 3, 4] rfl ?_
          exact ih (c + 1) (by omega)
      first | refine z_aload_n (pc := 0) C dX11_comes_0 rfl ?_ | refine z_aload_nN (pc := 0) C dX11_comes_0 rfl ?_
      refine z_getf (pc := 1) C dX11_comes_1 zf_X11_13_10 rfl rfl ?_
      refine z_iconst (pc := 4) (v := nI 2) C dX11_comes_4 (by decide) ?_
      refine z_iload_n (pc := 5) C dX11_comes_5 rfl ?_
      first | with_reducible refine z_imulN (pc := 6) C dX11_comes_6 ?_ | refine z_imul (pc := 6) C dX11_comes_6 ?_
      refine z_iload_n (pc := 7) C dX11_comes_7 rfl ?_
      first | with_reducible refine z_iaddN (pc := 8) C dX11_comes_8 ?_ | refine z_iadd (pc := 8) C dX11_comes_8 ?_
      refine z_iald (pc := 9) (N := 20) C dX11_comes_9 rfl (by omega) (by decide) rfl ?_
      refine z_istore_n (pc := 10) C dX11_comes_10 (by rw [hE]; decide) ?_
      refine z_iconst (pc := 11) (v := nI 0) C dX11_comes_11 (by decide) ?_
      refine z_istore (pc := 12) C dX11_comes_12 (by rw [hE]; decide) ?_
      -- at 14: iload 
      rw [ed]
      exact loop 8 0 rfl
    · have loop : ∀ (j c : Nat), c + j = 8 → ZV l Ω E 0 0 14 [(0, rfO Ω 6), (1, .int (nI u)), (2, .int (nI p)), (3, .int (nI d)), (4, .int (nI c))] [] (hp Ω (itF (cmHo u p d) c σ)) (hN σ) := by
        intro j
        induction j with
        | zero =>
          intro c hc
          obtain rfl : c = 8 := by omega
          refine z_iload (pc := 14) C dX11_comes_14 rfl ?_
          refine z_bipush (pc := 16) (v := nI 8) C dX11_comes_16 (by decide) ?_
          -- at 18: if_icmpge 
          refine z_icmp_geT (pc := 18) (tgt := 116) C dX11_comes_18 (by decide) (by omega) (by omega) (by omega) ?_
          exact z_vret (pc := 116) C hQ dX11_comes_116 rfl (by unfold mCome; rw [ed, tn_nI (by omega), if_neg hd0, if_neg h7]) rfl (by decide) (by decide)
        | succ j ih =>
          intro c hc
          have hn : (itF (cmHo u p d) c σ).2.2.2 ≤ 10 := by rw [itF_n (f := cmHo u p d) (fun _ _ => rfl)]; exact hn0
          have ek : (itF (cmHo u p d) c σ).1 11 0 = σ.1 11 0 := itF_row (f := cmHo u p d) (fun τ => τ.1 11 0) (fun c τ => by funext j; simp [cmHo, sI]) σ c
          refine z_iload (pc := 14) C dX11_comes_14 rfl ?_
          refine z_bipush (pc := 16) (v := nI 8) C dX11_comes_16 (by decide) ?_
          -- at 18: if_icmpge 
          refine z_icmp_geF (pc := 18) (tgt := 116) C dX11_comes_18 (by decide) (by omega) (by omega) (by omega) ?_
          first | refine z_aload_n (pc := 21) C dX11_comes_21 rfl ?_ | refine z_aload_nN (pc := 21) C dX11_comes_21 rfl ?_
          refine z_getf (pc := 22) C dX11_comes_22 zf_X11_65_10 rfl rfl ?_
          first | refine z_aload_n (pc := 25) C dX11_comes_25 rfl ?_ | refine z_aload_nN (pc := 25) C dX11_comes_25 rfl ?_
          refine z_iload_n (pc := 26) C dX11_comes_26 rfl ?_
          refine z_iload_n (pc := 27) C dX11_comes_27 rfl ?_
          refine z_iload (pc := 28) C dX11_comes_28 rfl ?_
          refine z_callV (pc := 30) (ci := 10) C dX11_comes_30 zy_X11_outAt kw_739 kw_740 rfl kw_847 rfl (ct_X11_outAt l Ω _ _ _ _ _) rfl rfl ⟨⟨by decide, by decide⟩, by decide, by decide⟩ (Nat.le_of_ble_eq_true rfl) ?_; dsimp only [Option.toList_some, List.cons_append, List.nil_append]
          refine z_iald (pc := 33) (N := 160) C dX11_comes_33 rfl (by omega) (by decide) rfl ?_
          refine z_istore (pc := 34) C dX11_comes_34 (by rw [hE]; decide) ?_
          refine z_iload_n (pc := 36) C dX11_comes_36 rfl ?_
          -- at 37: ifge 
          refine z_if_geT (pc := 37) (tgt := 60) C dX11_comes_37 (by decide) (by omega) ?_
          first | refine z_aload_n (pc := 60) C dX11_comes_60 rfl ?_ | refine z_aload_nN (pc := 60) C dX11_comes_60 rfl ?_
          refine z_getf (pc := 61) C dX11_comes_61 zf_X11_16_10 rfl rfl ?_
          refine z_iload_n (pc := 64) C dX11_comes_64 rfl ?_
          refine z_iload (pc := 65) C dX11_comes_65 rfl ?_
          refine z_callS (pc := 67) C dX11_comes_67 zy_X11_spot kw_717 kw_718 (ct_X11_spot l Ω _ _ _ _) rfl rfl ⟨⟨by decide, by decide⟩, by decide, by decide⟩ (Nat.le_of_ble_eq_true rfl) ?_; dsimp only [Option.toList_some, List.cons_append, List.nil_append]
          refine z_dup2 (pc := 70) C dX11_comes_70 rfl rfl ?_
          refine z_iald (pc := 71) (N := 80) C dX11_comes_71 rfl (by omega) (by decide) rfl ?_
          refine z_iload (pc := 72) C dX11_comes_72 rfl ?_
          first | with_reducible refine z_iaddN (pc := 74) C dX11_comes_74 ?_ | refine z_iadd (pc := 74) C dX11_comes_74 ?_
          refine z_iast (pc := 75) (N := 80) C dX11_comes_75 rfl (by omega) (by decide) (hp_m 2 (by decide) hn (by decide)) ?_
          first | refine z_aload_n (pc := 76) C dX11_comes_76 rfl ?_ | refine z_aload_nN (pc := 76) C dX11_comes_76 rfl ?_
          refine z_getf (pc := 77) C dX11_comes_77 zf_X11_9_10 rfl rfl ?_
          refine z_iload_n (pc := 80) C dX11_comes_80 rfl ?_
          refine z_iald (pc := 81) (N := 10) C dX11_comes_81 rfl (by omega) (by decide) rfl ?_
          -- at 82: bipush 
          refine z_top (v' := .int (nI (σ.2.2.1 d))) (by show Value.int ((itF (cmHo u p d) c σ).1 11 0 d) = _; rw [ek, e1]) ?_
          refine z_bipush (pc := 82) (v := nI 7) C dX11_comes_82 (by decide) ?_
          -- at 84: if_icmpne 
          refine z_icmp_neT (pc := 84) (tgt := 110) C dX11_comes_84 (by decide) (by omega) (by omega) (by omega) ?_
          first | refine z_iincN (pc := 110) C dX11_comes_110 rfl (by rw [hE]; decide) ?_ | refine z_iinc (pc := 110) C dX11_comes_110 rfl rfl (by rw [hE]; decide) ?_
          refine z_goto (pc := 113) (tgt := 14) C dX11_comes_113 (by decide) ?_
          -- at 14
          refine z_pick [0, 1, 2, 3, 4] rfl ?_
          exact ih (c + 1) (by omega)
      first | refine z_aload_n (pc := 0) C dX11_comes_0 rfl ?_ | refine z_aload_nN (pc := 0) C dX11_comes_0 rfl ?_
      refine z_getf (pc := 1) C dX11_comes_1 zf_X11_13_10 rfl rfl ?_
      refine z_iconst (pc := 4) (v := nI 2) C dX11_comes_4 (by decide) ?_
      refine z_iload_n (pc := 5) C dX11_comes_5 rfl ?_
      first | with_reducible refine z_imulN (pc := 6) C dX11_comes_6 ?_ | refine z_imul (pc := 6) C dX11_comes_6 ?_
      refine z_iload_n (pc := 7) C dX11_comes_7 rfl ?_
      first | with_reducible refine z_iaddN (pc := 8) C dX11_comes_8 ?_ | refine z_iadd (pc := 8) C dX11_comes_8 ?_
      refine z_iald (pc := 9) (N := 20) C dX11_comes_9 rfl (by omega) (by decide) rfl ?_
      refine z_istore_n (pc := 10) C dX11_comes_10 (by rw [hE]; decide) ?_
      refine z_iconst (pc := 11) (v := nI 0) C dX11_comes_11 (by decide) ?_
      refine z_istore (pc := 12) C dX11_comes_12 (by rw [hE]; decide) ?_
      -- at 14: iload 
      rw [ed]
      exact loop 8 0 rfl
