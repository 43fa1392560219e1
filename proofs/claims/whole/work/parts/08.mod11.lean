/-! ===== the reference: run, close, blend ===== -/
set_option maxHeartbeats 4000000 in
set_option maxRecDepth 100000 in
theorem ct_X11_run_n (l : Launch) (Ω : OmT) (σ : Sg) (x : Int32) (h : ¬ inR 1 60 x) : ZM l Ω yX11_run cX11_run 3 (some .int) rm_X11_run [rfO Ω 6, .int x] (hp Ω σ) (hN σ) (some (.int (-2))) (hp Ω σ) (hN σ) := by
  refine ZM_of (by decide) (Nat.le_of_ble_eq_true rfl) (fun E hE C hQ => ?_)
  refine z_iload_n (pc := 0) C dX11_run_0 rfl ?_
  refine z_iconst (pc := 1) (v := nI 1) C dX11_run_1 (by decide) ?_
  refine z_bipush (pc := 2) (v := nI 60) C dX11_run_2 (by decide) ?_
  refine z_callS (pc := 4) C dX11_run_4 zy_X11_isIn kw_685 kw_686 (ct_X11_isIn l Ω _ _ _ _ _) rfl rfl ⟨⟨by decide, by decide⟩, by decide, by decide⟩ (Nat.le_of_ble_eq_true rfl) ?_; dsimp only [Option.toList_some, List.cons_append, List.nil_append]
  -- at 7: ifne 
  refine z_ifneB (pc := 7) (tgt := 13) C dX11_run_7 (by decide) (fun z => absurd z h) (fun z => ?_)
  refine z_bipush (pc := 10) (v := (-2)) C dX11_run_10 (by decide) ?_
  -- at 12: ireturn 
  exact z_iret (pc := 12) C hQ dX11_run_12 rfl rfl rfl (by decide) (by decide)
set_option maxHeartbeats 4000000 in
set_option maxRecDepth 100000 in
theorem ct_X11_run_f (l : Launch) (Ω : OmT) (σ : Sg) (m k : Nat) (h1 : 1 ≤ k) (h2 : k ≤ 60) (hm : m ≤ 3000) (em : σ.1 11 30 1 = nI m) (h : 3000 < m + k) : ZM l Ω yX11_run cX11_run 3 (some .int) rm_X11_run [rfO Ω 6, .int (nI k)] (hp Ω σ) (hN σ) (some (.int (-4))) (hp Ω σ) (hN σ) := by
  refine ZM_of (by decide) (Nat.le_of_ble_eq_true rfl) (fun E hE C hQ => ?_)
  have hk : inR 1 60 (nI k) := inR_nI h1 h2 (by decide)
  refine z_iload_n (pc := 0) C dX11_run_0 rfl ?_
  refine z_iconst (pc := 1) (v := nI 1) C dX11_run_1 (by decide) ?_
  refine z_bipush (pc := 2) (v := nI 60) C dX11_run_2 (by decide) ?_
  refine z_callS (pc := 4) C dX11_run_4 zy_X11_isIn kw_685 kw_686 (ct_X11_isIn l Ω _ _ _ _ _) rfl rfl ⟨⟨by decide, by decide⟩, by decide, by decide⟩ (Nat.le_of_ble_eq_true rfl) ?_; dsimp only [Option.toList_some, List.cons_append, List.nil_append]
  -- at 7: ifne 
  refine z_ifneB (pc := 7) (tgt := 13) C dX11_run_7 (by decide) (fun z => ?_) (fun z => absurd hk z)
  first | refine z_aload_n (pc := 13) C dX11_run_13 rfl ?_ | refine z_aload_nN (pc := 13) C dX11_run_13 rfl ?_
  refine z_getf (pc := 14) C dX11_run_14 zf_X11_162_10 rfl rfl ?_; rw [em]
  refine z_iload_n (pc := 17) C dX11_run_17 rfl ?_
  first | with_reducible refine z_iaddN (pc := 18) C dX11_run_18 ?_ | refine z_iadd (pc := 18) C dX11_run_18 ?_
  refine z_sipush (pc := 19) (v := nI 3000) C dX11_run_19 (by decide) ?_
  -- at 22: if_icmple 
  refine z_icmp_leF (pc := 22) (tgt := 28) C dX11_run_22 (by decide) (by omega) (by omega) (by omega) ?_
  refine z_bipush (pc := 25) (v := (-4)) C dX11_run_25 (by decide) ?_
  -- at 27: ireturn 
  exact z_iret (pc := 27) C hQ dX11_run_27 rfl rfl rfl (by decide) (by decide)
set_option maxHeartbeats 4000000 in
set_option maxRecDepth 100000 in
theorem ct_X11_run (l : Launch) (Ω : OmT) (σ : Sg) (m k : Nat) (h1 : 1 ≤ k) (h2 : k ≤ 60) (em : σ.1 11 30 1 = nI m) (h : m + k ≤ 3000) (hg : ∀ i, i < k → MG (itM i σ)) : ZM l Ω yX11_run cX11_run 3 (some .int) rm_X11_run [rfO Ω 6, .int (nI k)] (hp Ω σ) (hN σ) (some (.int ((itM k σ).1 11 30 1))) (hp Ω (itM k σ)) (hN σ) := by
  refine ZM_of (by decide) (Nat.le_of_ble_eq_true rfl) (fun E hE C hQ => ?_)
  have hk : inR 1 60 (nI k) := inR_nI h1 h2 (by decide)
  have loop : ∀ (j i : Nat), i + j = k → ZV l Ω E 0 0 30 [(0, rfO Ω 6), (1, .int (nI k)), (2, .int (nI i))] [] (hp Ω (itM i σ)) (hN σ) := by
    intro j
    induction j with
    | zero =>
      intro i hi
      obtain rfl : i = k := by omega
      refine z_iload_n (pc := 30) C dX11_run_30 rfl ?_
      refine z_iload_n (pc := 31) C dX11_run_31 rfl ?_
      -- at 32: if_icmpge 
      refine z_icmp_geT (pc := 32) (tgt := 45) C dX11_run_32 (by decide) (by omega) (by omega) (by omega) ?_
      first | refine z_aload_n (pc := 45) C dX11_run_45 rfl ?_ | refine z_aload_nN (pc := 45) C dX11_run_45 rfl ?_
      refine z_getf (pc := 46) C dX11_run_46 zf_X11_162_10 rfl rfl ?_
      -- at 49: ireturn 
      exact z_iret (pc := 49) C hQ dX11_run_49 rfl rfl rfl (by decide) (by decide)
    | succ j ih =>
      intro i hi
      refine z_iload_n (pc := 30) C dX11_run_30 rfl ?_
      refine z_iload_n (pc := 31) C dX11_run_31 rfl ?_
      -- at 32: if_icmpge 
      refine z_icmp_geF (pc := 32) (tgt := 45) C dX11_run_32 (by decide) (by omega) (by omega) (by omega) ?_
      first | refine z_aload_n (pc := 35) C dX11_run_35 rfl ?_ | refine z_aload_nN (pc := 35) C dX11_run_35 rfl ?_
      refine z_callV (pc := 36) (ci := 10) C dX11_run_36 zy_X11_minute kw_733 kw_734 rfl kw_845 rfl (zM_n (hN_eq (itM_n i σ)) (ct_X11_minute l Ω (itM i σ) (hg i (by omega)))) rfl rfl ⟨⟨by decide, by decide⟩, by decide, by decide⟩ (Nat.le_of_ble_eq_true rfl) ?_; dsimp only [Option.toList_none, List.nil_append]
      first | refine z_iincN (pc := 39) C dX11_run_39 rfl (by rw [hE]; decide) ?_ | refine z_iinc (pc := 39) C dX11_run_39 rfl rfl (by rw [hE]; decide) ?_
      refine z_goto (pc := 42) (tgt := 30) C dX11_run_42 (by decide) ?_
      -- at 30
      exact ih (i + 1) (by omega)
  refine z_iload_n (pc := 0) C dX11_run_0 rfl ?_
  refine z_iconst (pc := 1) (v := nI 1) C dX11_run_1 (by decide) ?_
  refine z_bipush (pc := 2) (v := nI 60) C dX11_run_2 (by decide) ?_
  refine z_callS (pc := 4) C dX11_run_4 zy_X11_isIn kw_685 kw_686 (ct_X11_isIn l Ω _ _ _ _ _) rfl rfl ⟨⟨by decide, by decide⟩, by decide, by decide⟩ (Nat.le_of_ble_eq_true rfl) ?_; dsimp only [Option.toList_some, List.cons_append, List.nil_append]
  -- at 7: ifne 
  refine z_ifneB (pc := 7) (tgt := 13) C dX11_run_7 (by decide) (fun z => ?_) (fun z => absurd hk z)
  first | refine z_aload_n (pc := 13) C dX11_run_13 rfl ?_ | refine z_aload_nN (pc := 13) C dX11_run_13 rfl ?_
  refine z_getf (pc := 14) C dX11_run_14 zf_X11_162_10 rfl rfl ?_; rw [em]
  refine z_iload_n (pc := 17) C dX11_run_17 rfl ?_
  first | with_reducible refine z_iaddN (pc := 18) C dX11_run_18 ?_ | refine z_iadd (pc := 18) C dX11_run_18 ?_
  refine z_sipush (pc := 19) (v := nI 3000) C dX11_run_19 (by decide) ?_
  -- at 22: if_icmple 
  refine z_icmp_leT (pc := 22) (tgt := 28) C dX11_run_22 (by decide) (by omega) (by omega) (by omega) ?_
  refine z_iconst (pc := 28) (v := nI 0) C dX11_run_28 (by decide) ?_
  refine z_istore_n (pc := 29) C dX11_run_29 (by rw [hE]; decide) ?_
  -- at 30: iload_2 
  exact loop k 0 (by omega)
set_option maxHeartbeats 4000000 in
set_option maxRecDepth 100000 in
theorem ct_X11_blend (l : Launch) (Ω : OmT) (σ : Sg) (L : Nat) (hL : L ≤ 10) (eL : σ.1 11 30 2 = nI L) (lo hi g : Int32) : ZM l Ω yX11_blend cX11_blend 11 (some .int) rm_X11_blend [rfO Ω 6, .int lo, .int hi, .int g] (hp Ω σ) (hN σ) (some (.int (r_blend σ L lo hi g))) (hp Ω σ) (hN σ) := by
  refine ZM_of (by decide) (Nat.le_of_ble_eq_true rfl) (fun E hE C hQ => ?_)
  have hp2 : 2 ^ L ≤ 2 ^ 10 := Nat.pow_le_pow_right (by decide) hL
  have hp3 : (2 : Nat) ^ 10 = 1024 := by decide
  have inner : ∀ (s : Nat) (b c : Int32), s < 2 ^ L → (ZV l Ω E 0 0 126 [(0, rfO Ω 6), (1, .int lo), (2, .int hi), (3, .int g), (4, .int b), (5, .int c), (6, .int (nI s)), (7, .int (blw σ L s)), (8, .int (blg σ L s)), (9, .int (blp σ L s)), (10, .int (nI L))] [] (hp Ω σ) (hN σ)) → ∀ (j k : Nat), k + j = L → ZV l Ω E 0 0 54 [(0, rfO Ω 6), (1, .int lo), (2, .int hi), (3, .int g), (4, .int b), (5, .int c), (6, .int (nI s)), (7, .int (blw σ k s)), (8, .int (blg σ k s)), (9, .int (blp σ k s)), (10, .int (nI k))] [] (hp Ω σ) (hN σ) := by
    intro s b c hs cont j
    induction j with
    | zero =>
      intro k hk
      obtain rfl : k = L := by omega
      refine z_iload (pc := 54) C dX11_blend_54 rfl ?_
      first | refine z_aload_n (pc := 56) C dX11_blend_56 rfl ?_ | refine z_aload_nN (pc := 56) C dX11_blend_56 rfl ?_
      refine z_getf (pc := 57) C dX11_blend_57 zf_X11_189_10 rfl rfl ?_; rw [eL]
      -- at 60: if_icmpge 
      refine z_icmp_geT (pc := 60) (tgt := 126) C dX11_blend_60 (by decide) (by omega) (by omega) (by omega) ?_
      exact cont
    | succ j ih =>
      intro k hk
      have h9 := ih (k + 1) (by omega)
      refine z_iload (pc := 54) C dX11_blend_54 rfl ?_
      first | refine z_aload_n (pc := 56) C dX11_blend_56 rfl ?_ | refine z_aload_nN (pc := 56) C dX11_blend_56 rfl ?_
      refine z_getf (pc := 57) C dX11_blend_57 zf_X11_189_10 rfl rfl ?_; rw [eL]
      -- at 60: if_icmpge 
      refine z_icmp_geF (pc := 60) (tgt := 126) C dX11_blend_60 (by decide) (by omega) (by omega) (by omega) ?_
      refine z_iload (pc := 63) C dX11_blend_63 rfl ?_
      refine z_iload (pc := 65) C dX11_blend_65 rfl ?_
      refine z_ishr (pc := 67) C dX11_blend_67 ?_
      refine z_iconst (pc := 68) (v := nI 1) C dX11_blend_68 (by decide) ?_
      refine z_iand (pc := 69) C dX11_blend_69 ?_
      -- at 70: ifne 
      rw [bit_k (by omega) (by omega)]
      refine z_if_neX (pc := 70) (tgt := 76) C dX11_blend_70 (by decide) (by omega) (fun h => ?_) (fun h => ?_)
      · rw [show blw σ (k + 1) s = blw σ k s + σ.1 11 24 k from if_neg h, show blg σ (k + 1) s = blg σ k s + σ.1 11 25 k * σ.1 11 24 k from if_neg h, show blp σ (k + 1) s = blp σ k s + σ.1 11 26 k from if_neg h] at h9
        refine z_iload (pc := 76) C dX11_blend_76 rfl ?_
        first | refine z_aload_n (pc := 78) C dX11_blend_78 rfl ?_ | refine z_aload_nN (pc := 78) C dX11_blend_78 rfl ?_
        refine z_getf (pc := 79) C dX11_blend_79 zf_X11_84_10 rfl rfl ?_
        refine z_iload (pc := 82) C dX11_blend_82 rfl ?_
        refine z_iald (pc := 84) (N := 10) C dX11_blend_84 rfl (by omega) (by decide) rfl ?_
        first | with_reducible refine z_iaddN (pc := 85) C dX11_blend_85 ?_ | refine z_iadd (pc := 85) C dX11_blend_85 ?_
        refine z_istore (pc := 86) C dX11_blend_86 (by rw [hE]; decide) ?_
        refine z_iload (pc := 88) C dX11_blend_88 rfl ?_
        first | refine z_aload_n (pc := 90) C dX11_blend_90 rfl ?_ | refine z_aload_nN (pc := 90) C dX11_blend_90 rfl ?_
        refine z_getf (pc := 91) C dX11_blend_91 zf_X11_87_10 rfl rfl ?_
        refine z_iload (pc := 94) C dX11_blend_94 rfl ?_
        refine z_iald (pc := 96) (N := 10) C dX11_blend_96 rfl (by omega) (by decide) rfl ?_
        first | refine z_aload_n (pc := 97) C dX11_blend_97 rfl ?_ | refine z_aload_nN (pc := 97) C dX11_blend_97 rfl ?_
        refine z_getf (pc := 98) C dX11_blend_98 zf_X11_84_10 rfl rfl ?_
        refine z_iload (pc := 101) C dX11_blend_101 rfl ?_
        refine z_iald (pc := 103) (N := 10) C dX11_blend_103 rfl (by omega) (by decide) rfl ?_
        first | with_reducible refine z_imulN (pc := 104) C dX11_blend_104 ?_ | refine z_imul (pc := 104) C dX11_blend_104 ?_
        first | with_reducible refine z_iaddN (pc := 105) C dX11_blend_105 ?_ | refine z_iadd (pc := 105) C dX11_blend_105 ?_
        refine z_istore (pc := 106) C dX11_blend_106 (by rw [hE]; decide) ?_
        refine z_iload (pc := 108) C dX11_blend_108 rfl ?_
        first | refine z_aload_n (pc := 110) C dX11_blend_110 rfl ?_ | refine z_aload_nN (pc := 110) C dX11_blend_110 rfl ?_
        refine z_getf (pc := 111) C dX11_blend_111 zf_X11_90_10 rfl rfl ?_
        refine z_iload (pc := 114) C dX11_blend_114 rfl ?_
        refine z_iald (pc := 116) (N := 10) C dX11_blend_116 rfl (by omega) (by decide) rfl ?_
        first | with_reducible refine z_iaddN (pc := 117) C dX11_blend_117 ?_ | refine z_iadd (pc := 117) C dX11_blend_117 ?_
        refine z_istore (pc := 118) C dX11_blend_118 (by rw [hE]; decide) ?_
        first | refine z_iincN (pc := 120) C dX11_blend_120 rfl (by rw [hE]; decide) ?_ | refine z_iinc (pc := 120) C dX11_blend_120 rfl rfl (by rw [hE]; decide) ?_
        refine z_goto (pc := 123) (tgt := 54) C dX11_blend_123 (by decide) ?_
        -- at 54
        exact h9
      · rw [show blw σ (k + 1) s = blw σ k s from if_pos h, show blg σ (k + 1) s = blg σ k s from if_pos h, show blp σ (k + 1) s = blp σ k s from if_pos h] at h9
        refine z_goto (pc := 73) (tgt := 120) C dX11_blend_73 (by decide) ?_
        first | refine z_iincN (pc := 120) C dX11_blend_120 rfl (by rw [hE]; decide) ?_ | refine z_iinc (pc := 120) C dX11_blend_120 rfl rfl (by rw [hE]; decide) ?_
        refine z_goto (pc := 123) (tgt := 54) C dX11_blend_123 (by decide) ?_
        -- at 54
        exact h9
  have outer : ¬ lo < 0 → ¬ hi < lo → inR 0 100 g → ∀ (j s : Nat), s + j = 2 ^ L → ZV l Ω E 0 0 31 [(0, rfO Ω 6), (1, .int lo), (2, .int hi), (3, .int g), (4, .int (blS σ L lo hi g s).1), (5, .int (blS σ L lo hi g s).2), (6, .int (nI s))] [] (hp Ω σ) (hN σ) := by
    intro q1 q2 q3 j
    induction j with
    | zero =>
      intro s hs
      obtain rfl : s = 2 ^ L := by omega
      refine z_iload (pc := 31) C dX11_blend_31 rfl ?_
      refine z_iconst (pc := 33) (v := nI 1) C dX11_blend_33 (by decide) ?_
      first | refine z_aload_n (pc := 34) C dX11_blend_34 rfl ?_ | refine z_aload_nN (pc := 34) C dX11_blend_34 rfl ?_
      refine z_getf (pc := 35) C dX11_blend_35 zf_X11_189_10 rfl rfl ?_; rw [eL]
      refine z_ishl (pc := 38) C dX11_blend_38 ?_
      -- at 39: if_icmpge 
      rw [sh_1 L (by omega)]
      refine z_icmp_geT (pc := 39) (tgt := 177) C dX11_blend_39 (by decide) (by omega) (by omega) (by omega) ?_
      refine z_iload (pc := 177) C dX11_blend_177 rfl ?_
      -- at 179: ireturn 
      exact z_iret (pc := 179) C hQ dX11_blend_179 (by unfold r_blend; rw [if_neg q1, if_neg q2, if_neg (fun z => z q3)]) rfl rfl (by decide) (by decide)
    | succ j ih =>
      intro s hs
      have h9 := ih (s + 1) (by omega)
      rw [show blS σ L lo hi g (s + 1) = if blw σ L s < lo then blS σ L lo hi g s else if hi < blw σ L s then blS σ L lo hi g s else if blg σ L s < g * blw σ L s then blS σ L lo hi g s else if (blS σ L lo hi g s).1 = -1 then (nI s, blp σ L s) else if blp σ L s < (blS σ L lo hi g s).2 then (nI s, blp σ L s) else blS σ L lo hi g s from rfl] at h9
      refine z_iload (pc := 31) C dX11_blend_31 rfl ?_
      refine z_iconst (pc := 33) (v := nI 1) C dX11_blend_33 (by decide) ?_
      first | refine z_aload_n (pc := 34) C dX11_blend_34 rfl ?_ | refine z_aload_nN (pc := 34) C dX11_blend_34 rfl ?_
      refine z_getf (pc := 35) C dX11_blend_35 zf_X11_189_10 rfl rfl ?_; rw [eL]
      refine z_ishl (pc := 38) C dX11_blend_38 ?_
      -- at 39: if_icmpge 
      rw [sh_1 L (by omega)]
      refine z_icmp_geF (pc := 39) (tgt := 177) C dX11_blend_39 (by decide) (by omega) (by omega) (by omega) ?_
      refine z_iconst (pc := 42) (v := nI 0) C dX11_blend_42 (by decide) ?_
      refine z_istore (pc := 43) C dX11_blend_43 (by rw [hE]; decide) ?_
      refine z_iconst (pc := 45) (v := nI 0) C dX11_blend_45 (by decide) ?_
      refine z_istore (pc := 46) C dX11_blend_46 (by rw [hE]; decide) ?_
      refine z_iconst (pc := 48) (v := nI 0) C dX11_blend_48 (by decide) ?_
      refine z_istore (pc := 49) C dX11_blend_49 (by rw [hE]; decide) ?_
      refine z_iconst (pc := 51) (v := nI 0) C dX11_blend_51 (by decide) ?_
      refine z_istore (pc := 52) C dX11_blend_52 (by rw [hE]; decide) ?_
      -- at 54: iload 
      refine inner s _ _ (by omega) ?_ L 0 (by omega)
      refine z_iload (pc := 126) C dX11_blend_126 rfl ?_
      refine z_iload_n (pc := 128) C dX11_blend_128 rfl ?_
      -- at 129: if_icmplt 
      refine z_icmp_lt (pc := 129) (tgt := 171) C dX11_blend_129 (by decide) (fun w1 => ?_) (fun w1 => ?_)
      · rw [if_pos w1] at h9
        first | refine z_iincN (pc := 171) C dX11_blend_171 rfl (by rw [hE]; decide) ?_ | refine z_iinc (pc := 171) C dX11_blend_171 rfl rfl (by rw [hE]; decide) ?_
        refine z_goto (pc := 174) (tgt := 31) C dX11_blend_174 (by decide) ?_
        -- at 31
        refine z_pick [0, 1, 2, 3, 4, 5, 6] rfl ?_
        exact h9
      rw [if_neg w1] at h9
      refine z_iload (pc := 132) C dX11_blend_132 rfl ?_
      refine z_iload_n (pc := 134) C dX11_blend_134 rfl ?_
      -- at 135: if_icmpgt 
      refine z_icmp_gt (pc := 135) (tgt := 171) C dX11_blend_135 (by decide) (fun w2 => ?_) (fun w2 => ?_)
      · rw [if_pos w2] at h9
        first | refine z_iincN (pc := 171) C dX11_blend_171 rfl (by rw [hE]; decide) ?_ | refine z_iinc (pc := 171) C dX11_blend_171 rfl rfl (by rw [hE]; decide) ?_
        refine z_goto (pc := 174) (tgt := 31) C dX11_blend_174 (by decide) ?_
        -- at 31
        refine z_pick [0, 1, 2, 3, 4, 5, 6] rfl ?_
        exact h9
      rw [if_neg w2] at h9
      refine z_iload (pc := 138) C dX11_blend_138 rfl ?_
      refine z_iload_n (pc := 140) C dX11_blend_140 rfl ?_
      refine z_iload (pc := 141) C dX11_blend_141 rfl ?_
      first | with_reducible refine z_imulN (pc := 143) C dX11_blend_143 ?_ | refine z_imul (pc := 143) C dX11_blend_143 ?_
      -- at 144: if_icmplt 
      refine z_icmp_lt (pc := 144) (tgt := 171) C dX11_blend_144 (by decide) (fun w3 => ?_) (fun w3 => ?_)
      · rw [if_pos w3] at h9
        first | refine z_iincN (pc := 171) C dX11_blend_171 rfl (by rw [hE]; decide) ?_ | refine z_iinc (pc := 171) C dX11_blend_171 rfl rfl (by rw [hE]; decide) ?_
        refine z_goto (pc := 174) (tgt := 31) C dX11_blend_174 (by decide) ?_
        -- at 31
        refine z_pick [0, 1, 2, 3, 4, 5, 6] rfl ?_
        exact h9
      rw [if_neg w3] at h9
      refine z_iload (pc := 147) C dX11_blend_147 rfl ?_
      refine z_iconst (pc := 149) (v := (-1)) C dX11_blend_149 (by decide) ?_
      -- at 150: if_icmpeq 
      refine z_icmp_eq (pc := 150) (tgt := 163) C dX11_blend_150 (by decide) (fun w4 => ?_) (fun w4 => ?_)
      · rw [if_pos w4] at h9
        refine z_iload (pc := 163) C dX11_blend_163 rfl ?_
        refine z_istore (pc := 165) C dX11_blend_165 (by rw [hE]; decide) ?_
        refine z_iload (pc := 167) C dX11_blend_167 rfl ?_
        refine z_istore (pc := 169) C dX11_blend_169 (by rw [hE]; decide) ?_
        first | refine z_iincN (pc := 171) C dX11_blend_171 rfl (by rw [hE]; decide) ?_ | refine z_iinc (pc := 171) C dX11_blend_171 rfl rfl (by rw [hE]; decide) ?_
        refine z_goto (pc := 174) (tgt := 31) C dX11_blend_174 (by decide) ?_
        -- at 31
        refine z_pick [0, 1, 2, 3, 4, 5, 6] rfl ?_
        exact h9
      rw [if_neg w4] at h9
      refine z_iload (pc := 153) C dX11_blend_153 rfl ?_
      refine z_iload (pc := 155) C dX11_blend_155 rfl ?_
      -- at 157: if_icmplt 
      refine z_icmp_lt (pc := 157) (tgt := 163) C dX11_blend_157 (by decide) (fun w5 => ?_) (fun w5 => ?_)
      · rw [if_pos w5] at h9
        refine z_iload (pc := 163) C dX11_blend_163 rfl ?_
        refine z_istore (pc := 165) C dX11_blend_165 (by rw [hE]; decide) ?_
        refine z_iload (pc := 167) C dX11_blend_167 rfl ?_
        refine z_istore (pc := 169) C dX11_blend_169 (by rw [hE]; decide) ?_
        first | refine z_iincN (pc := 171) C dX11_blend_171 rfl (by rw [hE]; decide) ?_ | refine z_iinc (pc := 171) C dX11_blend_171 rfl rfl (by rw [hE]; decide) ?_
        refine z_goto (pc := 174) (tgt := 31) C dX11_blend_174 (by decide) ?_
        -- at 31
        refine z_pick [0, 1, 2, 3, 4, 5, 6] rfl ?_
        exact h9
      rw [if_neg w5] at h9
      refine z_goto (pc := 160) (tgt := 171) C dX11_blend_160 (by decide) ?_
      first | refine z_iincN (pc := 171) C dX11_blend_171 rfl (by rw [hE]; decide) ?_ | refine z_iinc (pc := 171) C dX11_blend_171 rfl rfl (by rw [hE]; decide) ?_
      refine z_goto (pc := 174) (tgt := 31) C dX11_blend_174 (by decide) ?_
      -- at 31
      refine z_pick [0, 1, 2, 3, 4, 5, 6] rfl ?_
      exact h9
  have bad : (lo < 0 ∨ hi < lo ∨ ¬ inR 0 100 g) → ZV l Ω E 0 0 19 [(0, rfO Ω 6), (1, .int lo), (2, .int hi), (3, .int g)] [] (hp Ω σ) (hN σ) := by
    intro h
    have e : r_blend σ L lo hi g = -2 := by
      unfold r_blend
      split
      · rfl
      · split
        · rfl
        · split
          · rfl
          · next h1 h2 h3 => exact absurd h (fun z => z.elim h1 (fun z => z.elim h2 h3))
    refine z_bipush (pc := 19) (v := (-2)) C dX11_blend_19 (by decide) ?_
    -- at 21: ireturn 
    exact z_iret (pc := 21) C hQ dX11_blend_21 (by rw [e]) rfl rfl (by decide) (by decide)
  refine z_iload_n (pc := 0) C dX11_blend_0 rfl ?_
  -- at 1: iflt 
  refine z_if_lt (pc := 1) (tgt := 19) C dX11_blend_1 (by decide) (fun h => bad (Or.inl h)) (fun q1 => ?_)
  refine z_iload_n (pc := 4) C dX11_blend_4 rfl ?_
  refine z_iload_n (pc := 5) C dX11_blend_5 rfl ?_
  -- at 6: if_icmpgt 
  refine z_icmp_gt (pc := 6) (tgt := 19) C dX11_blend_6 (by decide) (fun h => bad (Or.inr (Or.inl h))) (fun q2 => ?_)
  refine z_iload_n (pc := 9) C dX11_blend_9 rfl ?_
  refine z_iconst (pc := 10) (v := nI 0) C dX11_blend_10 (by decide) ?_
  refine z_bipush (pc := 11) (v := nI 100) C dX11_blend_11 (by decide) ?_
  refine z_callS (pc := 13) C dX11_blend_13 zy_X11_isIn kw_685 kw_686 (ct_X11_isIn l Ω _ _ _ _ _) rfl rfl ⟨⟨by decide, by decide⟩, by decide, by decide⟩ (Nat.le_of_ble_eq_true rfl) ?_; dsimp only [Option.toList_some, List.cons_append, List.nil_append]
  -- at 16: ifne 
  refine z_ifneB (pc := 16) (tgt := 22) C dX11_blend_16 (by decide) (fun q3 => ?_) (fun h => bad (Or.inr (Or.inr h)))
  refine z_iconst (pc := 22) (v := (-1)) C dX11_blend_22 (by decide) ?_
  refine z_istore (pc := 23) C dX11_blend_23 (by rw [hE]; decide) ?_
  refine z_iconst (pc := 25) (v := nI 0) C dX11_blend_25 (by decide) ?_
  refine z_istore (pc := 26) C dX11_blend_26 (by rw [hE]; decide) ?_
  refine z_iconst (pc := 28) (v := nI 0) C dX11_blend_28 (by decide) ?_
  refine z_istore (pc := 29) C dX11_blend_29 (by rw [hE]; decide) ?_
  -- at 31: iload 
  exact outer q1 q2 q3 (2 ^ L) 0 (by omega)
