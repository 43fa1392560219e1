/-! ===== the reference's calls, without loops ===== -/
set_option maxHeartbeats 4000000 in
set_option maxRecDepth 100000 in
theorem ct_X11_lead_n (l : Launch) (Ω : OmT) (σ : Sg) (hw : MW σ) (u port to : Int32) (hu : ¬ isU σ.2.2.2 u) : ZM l Ω yX11_lead cX11_lead 5 (some .int) rm_X11_lead [rfO Ω 6, .int u, .int port, .int to] (hp Ω σ) (hN σ) (some (.int (-1))) (hp Ω σ) (hN σ) := by
  refine ZM_of (by decide) (Nat.le_of_ble_eq_true rfl) (fun E hE C hQ => ?_)
  first | refine z_aload_n (pc := 0) C dX11_lead_0 rfl ?_ | refine z_aload_nN (pc := 0) C dX11_lead_0 rfl ?_
  refine z_iload_n (pc := 1) C dX11_lead_1 rfl ?_
  refine z_callV (pc := 2) (ci := 10) C dX11_lead_2 zy_X11_isUnit kw_692 kw_693 rfl kw_842 rfl (ct_X11_isUnit l Ω σ hw u) rfl rfl ⟨⟨by decide, by decide⟩, by decide, by decide⟩ (Nat.le_of_ble_eq_true rfl) ?_; dsimp only [Option.toList_some, List.cons_append, List.nil_append]
  -- at 5: ifeq 
  refine z_ifeqB (pc := 5) (tgt := 36) C dX11_lead_5 (by decide) (fun h5 => ?_) (fun h5 => absurd h5 hu)
  refine z_iconst (pc := 36) (v := (-1)) C dX11_lead_36 (by decide) ?_
  -- at 37: ireturn 
  exact z_iret (pc := 37) C hQ dX11_lead_37 rfl rfl rfl (by decide) (by decide)
set_option maxHeartbeats 4000000 in
set_option maxRecDepth 100000 in
theorem ct_X11_lead (l : Launch) (Ω : OmT) (σ : Sg) (hw : MW σ) (k : Nat) (hk : k < σ.2.2.2) (port to : Int32) : ZM l Ω yX11_lead cX11_lead 5 (some .int) rm_X11_lead [rfO Ω 6, .int (nI k), .int port, .int to] (hp Ω σ) (hN σ) (some (.int (r_lead σ k port to))) (hp Ω (s_lead σ k port to)) (hN σ) := by
  refine ZM_of (by decide) (Nat.le_of_ble_eq_true rfl) (fun E hE C hQ => ?_)
  have hn := hw.1
  have h0 : isU σ.2.2.2 (nI k) := isU_nI (by omega) hk
  have hu2 := upt_le (σ.2.2.1 k)
  first | refine z_aload_n (pc := 0) C dX11_lead_0 rfl ?_ | refine z_aload_nN (pc := 0) C dX11_lead_0 rfl ?_
  refine z_iload_n (pc := 1) C dX11_lead_1 rfl ?_
  refine z_callV (pc := 2) (ci := 10) C dX11_lead_2 zy_X11_isUnit kw_692 kw_693 rfl kw_842 rfl (ct_X11_isUnit l Ω σ hw _) rfl rfl ⟨⟨by decide, by decide⟩, by decide, by decide⟩ (Nat.le_of_ble_eq_true rfl) ?_; dsimp only [Option.toList_some, List.cons_append, List.nil_append]
  refine z_ifeqB (pc := 5) (tgt := 36) C dX11_lead_5 (by decide) (fun h5 => ?_) (fun h5 => ?_)
  · exact absurd h0 h5
  · refine z_iload_n (pc := 8) C dX11_lead_8 rfl ?_
    refine z_iconst (pc := 9) (v := nI 0) C dX11_lead_9 (by decide) ?_
    first | refine z_aload_n (pc := 10) C dX11_lead_10 rfl ?_ | refine z_aload_nN (pc := 10) C dX11_lead_10 rfl ?_
    refine z_iload_n (pc := 11) C dX11_lead_11 rfl ?_
    refine z_callV (pc := 12) (ci := 10) C dX11_lead_12 zy_X11_ports kw_695 kw_696 rfl kw_843 rfl (ct_X11_ports l Ω σ hw k hk) rfl rfl ⟨⟨by decide, by decide⟩, by decide, by decide⟩ (Nat.le_of_ble_eq_true rfl) ?_; dsimp only [Option.toList_some, List.cons_append, List.nil_append]
    refine z_iconst (pc := 15) (v := nI 1) C dX11_lead_15 (by decide) ?_
    first | with_reducible refine z_isubN (pc := 16) C dX11_lead_16 (by omega) ?_ | refine z_isub (pc := 16) C dX11_lead_16 ?_
    refine z_callS (pc := 17) C dX11_lead_17 zy_X11_isIn kw_685 kw_686 (ct_X11_isIn l Ω _ _ _ _ _) rfl rfl ⟨⟨by decide, by decide⟩, by decide, by decide⟩ (Nat.le_of_ble_eq_true rfl) ?_; dsimp only [Option.toList_some, List.cons_append, List.nil_append]
    refine z_ifeqB (pc := 20) (tgt := 36) C dX11_lead_20 (by decide) (fun h20 => ?_) (fun h20 => ?_)
    · refine z_iconst (pc := 36) (v := (-1)) C dX11_lead_36 (by decide) ?_
      exact z_iret (pc := 37) C hQ dX11_lead_37 (by clear hQ C hE; first | rfl | (simp [r_lead, s_lead, h5, h20]; done) | (simp_all [r_lead, s_lead]; done)) (by clear hQ C hE; first | rfl | (simp [r_lead, s_lead, h5, h20]; done) | (simp_all [r_lead, s_lead]; done)) (by clear hQ C hE; first | rfl | (simp [r_lead, s_lead, h5, h20]; done) | (simp_all [r_lead, s_lead]; done)) (by decide) (by decide)
    · obtain ⟨p, hp1, rfl⟩ := isU_of (by omega) h20
      have tp := tn_nI (show p < 2147483648 by omega)
      refine z_iload_n (pc := 23) C dX11_lead_23 rfl ?_
      refine z_iconst (pc := 24) (v := (-1)) C dX11_lead_24 (by decide) ?_
      first | with_reducible refine z_icmp_eqX (pc := 25) (tgt := 38) C dX11_lead_25 (by decide) (by omega) (by omega) (fun h25 => ?_) (fun h25 => ?_) | refine z_icmp_eq (pc := 25) (tgt := 38) C dX11_lead_25 (by decide) (fun h25 => ?_) (fun h25 => ?_)
      · refine z_iload_n (pc := 38) C dX11_lead_38 rfl ?_
        refine z_if_lt (pc := 39) (tgt := 54) C dX11_lead_39 (by decide) (fun h39 => ?_) (fun h39 => ?_)
        · first | refine z_aload_n (pc := 54) C dX11_lead_54 rfl ?_ | refine z_aload_nN (pc := 54) C dX11_lead_54 rfl ?_
          refine z_getf (pc := 55) C dX11_lead_55 zf_X11_13_10 rfl rfl ?_
          refine z_iconst (pc := 58) (v := nI 2) C dX11_lead_58 (by decide) ?_
          refine z_iload_n (pc := 59) C dX11_lead_59 rfl ?_
          first | with_reducible refine z_imulN (pc := 60) C dX11_lead_60 ?_ | refine z_imul (pc := 60) C dX11_lead_60 ?_
          refine z_iload_n (pc := 61) C dX11_lead_61 rfl ?_
          first | with_reducible refine z_iaddN (pc := 62) C dX11_lead_62 ?_ | refine z_iadd (pc := 62) C dX11_lead_62 ?_
          refine z_iald (pc := 63) (N := 20) C dX11_lead_63 rfl (by omega) (by decide) rfl ?_
          refine z_istore (pc := 64) C dX11_lead_64 (by rw [hE]; decide) ?_
          first | refine z_aload_n (pc := 66) C dX11_lead_66 rfl ?_ | refine z_aload_nN (pc := 66) C dX11_lead_66 rfl ?_
          refine z_getf (pc := 67) C dX11_lead_67 zf_X11_13_10 rfl rfl ?_
          refine z_iconst (pc := 70) (v := nI 2) C dX11_lead_70 (by decide) ?_
          refine z_iload_n (pc := 71) C dX11_lead_71 rfl ?_
          first | with_reducible refine z_imulN (pc := 72) C dX11_lead_72 ?_ | refine z_imul (pc := 72) C dX11_lead_72 ?_
          refine z_iload_n (pc := 73) C dX11_lead_73 rfl ?_
          first | with_reducible refine z_iaddN (pc := 74) C dX11_lead_74 ?_ | refine z_iadd (pc := 74) C dX11_lead_74 ?_
          refine z_iload_n (pc := 75) C dX11_lead_75 rfl ?_
          refine z_iast (pc := 76) (N := 20) C dX11_lead_76 rfl (by omega) (by decide) (hp_m 1 (by decide) hn (by decide)) ?_
          refine z_iload (pc := 77) C dX11_lead_77 rfl ?_
          exact z_iret (pc := 79) C hQ dX11_lead_79 (by clear hQ C hE; first | rfl | (simp [r_lead, s_lead, h5, h20, tp, h25, h39]; done) | (simp_all [r_lead, s_lead]; done)) (by clear hQ C hE; first | rfl | (simp [r_lead, s_lead, h5, h20, tp, h25, h39]; done) | (simp_all [r_lead, s_lead]; done)) (by clear hQ C hE; first | rfl | (simp [r_lead, s_lead, h5, h20, tp, h25, h39]; done) | (simp_all [r_lead, s_lead]; done)) (by decide) (by decide)
        · first
          | exact absurd (show to < 0 by rw [h25]; decide) h39
          |
            (first | refine z_aload_n (pc := 42) C dX11_lead_42 rfl ?_ | refine z_aload_nN (pc := 42) C dX11_lead_42 rfl ?_
             refine z_getf (pc := 43) C dX11_lead_43 zf_X11_9_10 rfl rfl ?_
             refine z_iload_n (pc := 46) C dX11_lead_46 rfl ?_
             refine z_iald (pc := 47) (N := 10) C dX11_lead_47 rfl (by omega) (by decide) rfl ?_; rw [e1]
             first | with_reducible refine z_if_neX (pc := 48) (tgt := 54) C dX11_lead_48 (by decide) (by omega) (fun h48 => ?_) (fun h48 => ?_) | refine z_if_ne (pc := 48) (tgt := 54) C dX11_lead_48 (by decide) (fun h48 => ?_) (fun h48 => ?_)
             · first | refine z_aload_n (pc := 54) C dX11_lead_54 rfl ?_ | refine z_aload_nN (pc := 54) C dX11_lead_54 rfl ?_
               refine z_getf (pc := 55) C dX11_lead_55 zf_X11_13_10 rfl rfl ?_
               refine z_iconst (pc := 58) (v := nI 2) C dX11_lead_58 (by decide) ?_
               refine z_iload_n (pc := 59) C dX11_lead_59 rfl ?_
               first | with_reducible refine z_imulN (pc := 60) C dX11_lead_60 ?_ | refine z_imul (pc := 60) C dX11_lead_60 ?_
               refine z_iload_n (pc := 61) C dX11_lead_61 rfl ?_
               first | with_reducible refine z_iaddN (pc := 62) C dX11_lead_62 ?_ | refine z_iadd (pc := 62) C dX11_lead_62 ?_
               refine z_iald (pc := 63) (N := 20) C dX11_lead_63 rfl (by omega) (by decide) rfl ?_
               refine z_istore (pc := 64) C dX11_lead_64 (by rw [hE]; decide) ?_
               first | refine z_aload_n (pc := 66) C dX11_lead_66 rfl ?_ | refine z_aload_nN (pc := 66) C dX11_lead_66 rfl ?_
               refine z_getf (pc := 67) C dX11_lead_67 zf_X11_13_10 rfl rfl ?_
               refine z_iconst (pc := 70) (v := nI 2) C dX11_lead_70 (by decide) ?_
               refine z_iload_n (pc := 71) C dX11_lead_71 rfl ?_
               first | with_reducible refine z_imulN (pc := 72) C dX11_lead_72 ?_ | refine z_imul (pc := 72) C dX11_lead_72 ?_
               refine z_iload_n (pc := 73) C dX11_lead_73 rfl ?_
               first | with_reducible refine z_iaddN (pc := 74) C dX11_lead_74 ?_ | refine z_iadd (pc := 74) C dX11_lead_74 ?_
               refine z_iload_n (pc := 75) C dX11_lead_75 rfl ?_
               refine z_iast (pc := 76) (N := 20) C dX11_lead_76 rfl (by omega) (by decide) (hp_m 1 (by decide) hn (by decide)) ?_
               refine z_iload (pc := 77) C dX11_lead_77 rfl ?_
               exact z_iret (pc := 79) C hQ dX11_lead_79 (by clear hQ C hE; first | rfl | (simp [r_lead, s_lead, h5, h20, tp, h25, h39, h48]; done) | (simp_all [r_lead, s_lead]; done)) (by clear hQ C hE; first | rfl | (simp [r_lead, s_lead, h5, h20, tp, h25, h39, h48]; done) | (simp_all [r_lead, s_lead]; done)) (by clear hQ C hE; first | rfl | (simp [r_lead, s_lead, h5, h20, tp, h25, h39, h48]; done) | (simp_all [r_lead, s_lead]; done)) (by decide) (by decide)
             · refine z_bipush (pc := 51) (v := (-2)) C dX11_lead_51 (by decide) ?_
               exact z_iret (pc := 53) C hQ dX11_lead_53 (by clear hQ C hE; first | rfl | (simp [r_lead, s_lead, h5, h20, tp, h25, h39, h48]; done) | (simp_all [r_lead, s_lead]; done)) (by clear hQ C hE; first | rfl | (simp [r_lead, s_lead, h5, h20, tp, h25, h39, h48]; done) | (simp_all [r_lead, s_lead]; done)) (by clear hQ C hE; first | rfl | (simp [r_lead, s_lead, h5, h20, tp, h25, h39, h48]; done) | (simp_all [r_lead, s_lead]; done)) (by decide) (by decide))
      · first | refine z_aload_n (pc := 28) C dX11_lead_28 rfl ?_ | refine z_aload_nN (pc := 28) C dX11_lead_28 rfl ?_
        refine z_iload_n (pc := 29) C dX11_lead_29 rfl ?_
        refine z_callV (pc := 30) (ci := 10) C dX11_lead_30 zy_X11_isUnit kw_692 kw_693 rfl kw_842 rfl (ct_X11_isUnit l Ω σ hw _) rfl rfl ⟨⟨by decide, by decide⟩, by decide, by decide⟩ (Nat.le_of_ble_eq_true rfl) ?_; dsimp only [Option.toList_some, List.cons_append, List.nil_append]
        refine z_ifneB (pc := 33) (tgt := 38) C dX11_lead_33 (by decide) (fun h33 => ?_) (fun h33 => ?_)
        · obtain ⟨q, hq, rfl⟩ := isU_of (by omega) h33
          have tq := tn_nI (show q < 2147483648 by omega)
          obtain ⟨e1, e2⟩ := hw.2.2 q hq
          refine z_iload_n (pc := 38) C dX11_lead_38 rfl ?_
          refine z_if_lt (pc := 39) (tgt := 54) C dX11_lead_39 (by decide) (fun h39 => ?_) (fun h39 => ?_)
          · first | refine z_aload_n (pc := 54) C dX11_lead_54 rfl ?_ | refine z_aload_nN (pc := 54) C dX11_lead_54 rfl ?_
            refine z_getf (pc := 55) C dX11_lead_55 zf_X11_13_10 rfl rfl ?_
            refine z_iconst (pc := 58) (v := nI 2) C dX11_lead_58 (by decide) ?_
            refine z_iload_n (pc := 59) C dX11_lead_59 rfl ?_
            first | with_reducible refine z_imulN (pc := 60) C dX11_lead_60 ?_ | refine z_imul (pc := 60) C dX11_lead_60 ?_
            refine z_iload_n (pc := 61) C dX11_lead_61 rfl ?_
            first | with_reducible refine z_iaddN (pc := 62) C dX11_lead_62 ?_ | refine z_iadd (pc := 62) C dX11_lead_62 ?_
            refine z_iald (pc := 63) (N := 20) C dX11_lead_63 rfl (by omega) (by decide) rfl ?_
            refine z_istore (pc := 64) C dX11_lead_64 (by rw [hE]; decide) ?_
            first | refine z_aload_n (pc := 66) C dX11_lead_66 rfl ?_ | refine z_aload_nN (pc := 66) C dX11_lead_66 rfl ?_
            refine z_getf (pc := 67) C dX11_lead_67 zf_X11_13_10 rfl rfl ?_
            refine z_iconst (pc := 70) (v := nI 2) C dX11_lead_70 (by decide) ?_
            refine z_iload_n (pc := 71) C dX11_lead_71 rfl ?_
            first | with_reducible refine z_imulN (pc := 72) C dX11_lead_72 ?_ | refine z_imul (pc := 72) C dX11_lead_72 ?_
            refine z_iload_n (pc := 73) C dX11_lead_73 rfl ?_
            first | with_reducible refine z_iaddN (pc := 74) C dX11_lead_74 ?_ | refine z_iadd (pc := 74) C dX11_lead_74 ?_
            refine z_iload_n (pc := 75) C dX11_lead_75 rfl ?_
            refine z_iast (pc := 76) (N := 20) C dX11_lead_76 rfl (by omega) (by decide) (hp_m 1 (by decide) hn (by decide)) ?_
            refine z_iload (pc := 77) C dX11_lead_77 rfl ?_
            exact z_iret (pc := 79) C hQ dX11_lead_79 (by clear hQ C hE; first | rfl | (simp [r_lead, s_lead, h5, h20, tp, h25, h33, tq, h39]; done) | (simp_all [r_lead, s_lead]; done)) (by clear hQ C hE; first | rfl | (simp [r_lead, s_lead, h5, h20, tp, h25, h33, tq, h39]; done) | (simp_all [r_lead, s_lead]; done)) (by clear hQ C hE; first | rfl | (simp [r_lead, s_lead, h5, h20, tp, h25, h33, tq, h39]; done) | (simp_all [r_lead, s_lead]; done)) (by decide) (by decide)
          · first
            | exact absurd (show to < 0 by rw [h25]; decide) h39
            |
              (first | refine z_aload_n (pc := 42) C dX11_lead_42 rfl ?_ | refine z_aload_nN (pc := 42) C dX11_lead_42 rfl ?_
               refine z_getf (pc := 43) C dX11_lead_43 zf_X11_9_10 rfl rfl ?_
               refine z_iload_n (pc := 46) C dX11_lead_46 rfl ?_
               refine z_iald (pc := 47) (N := 10) C dX11_lead_47 rfl (by omega) (by decide) rfl ?_; rw [e1]
               first | with_reducible refine z_if_neX (pc := 48) (tgt := 54) C dX11_lead_48 (by decide) (by omega) (fun h48 => ?_) (fun h48 => ?_) | refine z_if_ne (pc := 48) (tgt := 54) C dX11_lead_48 (by decide) (fun h48 => ?_) (fun h48 => ?_)
               · first | refine z_aload_n (pc := 54) C dX11_lead_54 rfl ?_ | refine z_aload_nN (pc := 54) C dX11_lead_54 rfl ?_
                 refine z_getf (pc := 55) C dX11_lead_55 zf_X11_13_10 rfl rfl ?_
                 refine z_iconst (pc := 58) (v := nI 2) C dX11_lead_58 (by decide) ?_
                 refine z_iload_n (pc := 59) C dX11_lead_59 rfl ?_
                 first | with_reducible refine z_imulN (pc := 60) C dX11_lead_60 ?_ | refine z_imul (pc := 60) C dX11_lead_60 ?_
                 refine z_iload_n (pc := 61) C dX11_lead_61 rfl ?_
                 first | with_reducible refine z_iaddN (pc := 62) C dX11_lead_62 ?_ | refine z_iadd (pc := 62) C dX11_lead_62 ?_
                 refine z_iald (pc := 63) (N := 20) C dX11_lead_63 rfl (by omega) (by decide) rfl ?_
                 refine z_istore (pc := 64) C dX11_lead_64 (by rw [hE]; decide) ?_
                 first | refine z_aload_n (pc := 66) C dX11_lead_66 rfl ?_ | refine z_aload_nN (pc := 66) C dX11_lead_66 rfl ?_
                 refine z_getf (pc := 67) C dX11_lead_67 zf_X11_13_10 rfl rfl ?_
                 refine z_iconst (pc := 70) (v := nI 2) C dX11_lead_70 (by decide) ?_
                 refine z_iload_n (pc := 71) C dX11_lead_71 rfl ?_
                 first | with_reducible refine z_imulN (pc := 72) C dX11_lead_72 ?_ | refine z_imul (pc := 72) C dX11_lead_72 ?_
                 refine z_iload_n (pc := 73) C dX11_lead_73 rfl ?_
                 first | with_reducible refine z_iaddN (pc := 74) C dX11_lead_74 ?_ | refine z_iadd (pc := 74) C dX11_lead_74 ?_
                 refine z_iload_n (pc := 75) C dX11_lead_75 rfl ?_
                 refine z_iast (pc := 76) (N := 20) C dX11_lead_76 rfl (by omega) (by decide) (hp_m 1 (by decide) hn (by decide)) ?_
                 refine z_iload (pc := 77) C dX11_lead_77 rfl ?_
                 exact z_iret (pc := 79) C hQ dX11_lead_79 (by clear hQ C hE; first | rfl | (simp [r_lead, s_lead, h5, h20, tp, h25, h33, tq, h39, h48]; done) | (simp_all [r_lead, s_lead]; done)) (by clear hQ C hE; first | rfl | (simp [r_lead, s_lead, h5, h20, tp, h25, h33, tq, h39, h48]; done) | (simp_all [r_lead, s_lead]; done)) (by clear hQ C hE; first | rfl | (simp [r_lead, s_lead, h5, h20, tp, h25, h33, tq, h39, h48]; done) | (simp_all [r_lead, s_lead]; done)) (by decide) (by decide)
               · refine z_bipush (pc := 51) (v := (-2)) C dX11_lead_51 (by decide) ?_
                 exact z_iret (pc := 53) C hQ dX11_lead_53 (by clear hQ C hE; first | rfl | (simp [r_lead, s_lead, h5, h20, tp, h25, h33, tq, h39, h48]; done) | (simp_all [r_lead, s_lead]; done)) (by clear hQ C hE; first | rfl | (simp [r_lead, s_lead, h5, h20, tp, h25, h33, tq, h39, h48]; done) | (simp_all [r_lead, s_lead]; done)) (by clear hQ C hE; first | rfl | (simp [r_lead, s_lead, h5, h20, tp, h25, h33, tq, h39, h48]; done) | (simp_all [r_lead, s_lead]; done)) (by decide) (by decide))
        · refine z_iconst (pc := 36) (v := (-1)) C dX11_lead_36 (by decide) ?_
          exact z_iret (pc := 37) C hQ dX11_lead_37 (by clear hQ C hE; first | rfl | (simp [r_lead, s_lead, h5, h20, tp, h25, h33]; done) | (simp_all [r_lead, s_lead]; done)) (by clear hQ C hE; first | rfl | (simp [r_lead, s_lead, h5, h20, tp, h25, h33]; done) | (simp_all [r_lead, s_lead]; done)) (by clear hQ C hE; first | rfl | (simp [r_lead, s_lead, h5, h20, tp, h25, h33]; done) | (simp_all [r_lead, s_lead]; done)) (by decide) (by decide)
set_option maxHeartbeats 4000000 in
set_option maxRecDepth 100000 in
theorem ct_X11_rate_n (l : Launch) (Ω : OmT) (σ : Sg) (hw : MW σ) (u c x : Int32) (hu : ¬ isU σ.2.2.2 u) : ZM l Ω yX11_rate cX11_rate 5 (some .int) rm_X11_rate [rfO Ω 6, .int u, .int c, .int x] (hp Ω σ) (hN σ) (some (.int (-1))) (hp Ω σ) (hN σ) := by
  refine ZM_of (by decide) (Nat.le_of_ble_eq_true rfl) (fun E hE C hQ => ?_)
  first | refine z_aload_n (pc := 0) C dX11_rate_0 rfl ?_ | refine z_aload_nN (pc := 0) C dX11_rate_0 rfl ?_
  refine z_iload_n (pc := 1) C dX11_rate_1 rfl ?_
  refine z_callV (pc := 2) (ci := 10) C dX11_rate_2 zy_X11_isUnit kw_692 kw_693 rfl kw_842 rfl (ct_X11_isUnit l Ω σ hw u) rfl rfl ⟨⟨by decide, by decide⟩, by decide, by decide⟩ (Nat.le_of_ble_eq_true rfl) ?_; dsimp only [Option.toList_some, List.cons_append, List.nil_append]
  -- at 5: ifeq 
  refine z_ifeqB (pc := 5) (tgt := 18) C dX11_rate_5 (by decide) (fun h5 => ?_) (fun h5 => absurd h5 hu)
  refine z_iconst (pc := 18) (v := (-1)) C dX11_rate_18 (by decide) ?_
  -- at 19: ireturn 
  exact z_iret (pc := 19) C hQ dX11_rate_19 rfl rfl rfl (by decide) (by decide)
set_option maxHeartbeats 4000000 in
set_option maxRecDepth 100000 in
theorem ct_X11_rate (l : Launch) (Ω : OmT) (σ : Sg) (hw : MW σ) (k : Nat) (hk : k < σ.2.2.2) (c x : Int32) : ZM l Ω yX11_rate cX11_rate 5 (some .int) rm_X11_rate [rfO Ω 6, .int (nI k), .int c, .int x] (hp Ω σ) (hN σ) (some (.int (r_rate σ k c x))) (hp Ω (s_rate σ k c x)) (hN σ) := by
  refine ZM_of (by decide) (Nat.le_of_ble_eq_true rfl) (fun E hE C hQ => ?_)
  have hn := hw.1
  have h0 : isU σ.2.2.2 (nI k) := isU_nI (by omega) hk
  obtain ⟨e1, e2⟩ := hw.2.2 k hk
  first | refine z_aload_n (pc := 0) C dX11_rate_0 rfl ?_ | refine z_aload_nN (pc := 0) C dX11_rate_0 rfl ?_
  refine z_iload_n (pc := 1) C dX11_rate_1 rfl ?_
  refine z_callV (pc := 2) (ci := 10) C dX11_rate_2 zy_X11_isUnit kw_692 kw_693 rfl kw_842 rfl (ct_X11_isUnit l Ω σ hw _) rfl rfl ⟨⟨by decide, by decide⟩, by decide, by decide⟩ (Nat.le_of_ble_eq_true rfl) ?_; dsimp only [Option.toList_some, List.cons_append, List.nil_append]
  refine z_ifeqB (pc := 5) (tgt := 18) C dX11_rate_5 (by decide) (fun h5 => ?_) (fun h5 => ?_)
  · exact absurd h0 h5
  · refine z_iload_n (pc := 8) C dX11_rate_8 rfl ?_
    refine z_iconst (pc := 9) (v := nI 0) C dX11_rate_9 (by decide) ?_
    refine z_bipush (pc := 10) (v := nI 7) C dX11_rate_10 (by decide) ?_
    refine z_callS (pc := 12) C dX11_rate_12 zy_X11_isIn kw_685 kw_686 (ct_X11_isIn l Ω _ _ _ _ _) rfl rfl ⟨⟨by decide, by decide⟩, by decide, by decide⟩ (Nat.le_of_ble_eq_true rfl) ?_; dsimp only [Option.toList_some, List.cons_append, List.nil_append]
    refine z_ifneB (pc := 15) (tgt := 20) C dX11_rate_15 (by decide) (fun h15 => ?_) (fun h15 => ?_)
    · obtain ⟨p, -, hp1, rfl⟩ := inR_of (by decide) (by decide) h15
      have tp := tn_nI (show p < 2147483648 by omega)
      first | refine z_aload_n (pc := 20) C dX11_rate_20 rfl ?_ | refine z_aload_nN (pc := 20) C dX11_rate_20 rfl ?_
      refine z_getf (pc := 21) C dX11_rate_21 zf_X11_9_10 rfl rfl ?_
      refine z_iload_n (pc := 24) C dX11_rate_24 rfl ?_
      refine z_iald (pc := 25) (N := 10) C dX11_rate_25 rfl (by omega) (by decide) rfl ?_; rw [e1]
      first | with_reducible refine z_if_eqX (pc := 26) (tgt := 32) C dX11_rate_26 (by decide) (by omega) (fun h26 => ?_) (fun h26 => ?_) | refine z_if_eq (pc := 26) (tgt := 32) C dX11_rate_26 (by decide) (fun h26 => ?_) (fun h26 => ?_)
      · refine z_iload_n (pc := 32) C dX11_rate_32 rfl ?_
        refine z_iconst (pc := 33) (v := nI 0) C dX11_rate_33 (by decide) ?_
        refine z_sipush (pc := 34) (v := nI 1000) C dX11_rate_34 (by decide) ?_
        refine z_callS (pc := 37) C dX11_rate_37 zy_X11_isIn kw_685 kw_686 (ct_X11_isIn l Ω _ _ _ _ _) rfl rfl ⟨⟨by decide, by decide⟩, by decide, by decide⟩ (Nat.le_of_ble_eq_true rfl) ?_; dsimp only [Option.toList_some, List.cons_append, List.nil_append]
        refine z_ifneB (pc := 40) (tgt := 46) C dX11_rate_40 (by decide) (fun h40 => ?_) (fun h40 => ?_)
        · first | refine z_aload_n (pc := 46) C dX11_rate_46 rfl ?_ | refine z_aload_nN (pc := 46) C dX11_rate_46 rfl ?_
          refine z_getf (pc := 47) C dX11_rate_47 zf_X11_19_10 rfl rfl ?_
          refine z_bipush (pc := 50) (v := nI 8) C dX11_rate_50 (by decide) ?_
          refine z_iload_n (pc := 52) C dX11_rate_52 rfl ?_
          first | with_reducible refine z_imulN (pc := 53) C dX11_rate_53 ?_ | refine z_imul (pc := 53) C dX11_rate_53 ?_
          refine z_iload_n (pc := 54) C dX11_rate_54 rfl ?_
          first | with_reducible refine z_iaddN (pc := 55) C dX11_rate_55 ?_ | refine z_iadd (pc := 55) C dX11_rate_55 ?_
          refine z_iald (pc := 56) (N := 80) C dX11_rate_56 rfl (by omega) (by decide) rfl ?_
          refine z_istore (pc := 57) C dX11_rate_57 (by rw [hE]; decide) ?_
          first | refine z_aload_n (pc := 59) C dX11_rate_59 rfl ?_ | refine z_aload_nN (pc := 59) C dX11_rate_59 rfl ?_
          refine z_getf (pc := 60) C dX11_rate_60 zf_X11_19_10 rfl rfl ?_
          refine z_bipush (pc := 63) (v := nI 8) C dX11_rate_63 (by decide) ?_
          refine z_iload_n (pc := 65) C dX11_rate_65 rfl ?_
          first | with_reducible refine z_imulN (pc := 66) C dX11_rate_66 ?_ | refine z_imul (pc := 66) C dX11_rate_66 ?_
          refine z_iload_n (pc := 67) C dX11_rate_67 rfl ?_
          first | with_reducible refine z_iaddN (pc := 68) C dX11_rate_68 ?_ | refine z_iadd (pc := 68) C dX11_rate_68 ?_
          refine z_iload_n (pc := 69) C dX11_rate_69 rfl ?_
          refine z_iast (pc := 70) (N := 80) C dX11_rate_70 rfl (by omega) (by decide) (hp_m 3 (by decide) hn (by decide)) ?_
          refine z_iload (pc := 71) C dX11_rate_71 rfl ?_
          exact z_iret (pc := 73) C hQ dX11_rate_73 (by clear hQ C hE; first | rfl | (simp [r_rate, s_rate, h5, h15, tp, h26, h40]; done) | (simp_all [r_rate, s_rate]; done)) (by clear hQ C hE; first | rfl | (simp [r_rate, s_rate, h5, h15, tp, h26, h40]; done) | (simp_all [r_rate, s_rate]; done)) (by clear hQ C hE; first | rfl | (simp [r_rate, s_rate, h5, h15, tp, h26, h40]; done) | (simp_all [r_rate, s_rate]; done)) (by decide) (by decide)
        · refine z_bipush (pc := 43) (v := (-2)) C dX11_rate_43 (by decide) ?_
          exact z_iret (pc := 45) C hQ dX11_rate_45 (by clear hQ C hE; first | rfl | (simp [r_rate, s_rate, h5, h15, tp, h26, h40]; done) | (simp_all [r_rate, s_rate]; done)) (by clear hQ C hE; first | rfl | (simp [r_rate, s_rate, h5, h15, tp, h26, h40]; done) | (simp_all [r_rate, s_rate]; done)) (by clear hQ C hE; first | rfl | (simp [r_rate, s_rate, h5, h15, tp, h26, h40]; done) | (simp_all [r_rate, s_rate]; done)) (by decide) (by decide)
      · refine z_bipush (pc := 29) (v := (-3)) C dX11_rate_29 (by decide) ?_
        exact z_iret (pc := 31) C hQ dX11_rate_31 (by clear hQ C hE; first | rfl | (simp [r_rate, s_rate, h5, h15, tp, h26]; done) | (simp_all [r_rate, s_rate]; done)) (by clear hQ C hE; first | rfl | (simp [r_rate, s_rate, h5, h15, tp, h26]; done) | (simp_all [r_rate, s_rate]; done)) (by clear hQ C hE; first | rfl | (simp [r_rate, s_rate, h5, h15, tp, h26]; done) | (simp_all [r_rate, s_rate]; done)) (by decide) (by decide)
    · refine z_iconst (pc := 18) (v := (-1)) C dX11_rate_18 (by decide) ?_
      exact z_iret (pc := 19) C hQ dX11_rate_19 (by clear hQ C hE; first | rfl | (simp [r_rate, s_rate, h5, h15]; done) | (simp_all [r_rate, s_rate]; done)) (by clear hQ C hE; first | rfl | (simp [r_rate, s_rate, h5, h15]; done) | (simp_all [r_rate, s_rate]; done)) (by clear hQ C hE; first | rfl | (simp [r_rate, s_rate, h5, h15]; done) | (simp_all [r_rate, s_rate]; done)) (by decide) (by decide)
set_option maxHeartbeats 4000000 in
set_option maxRecDepth 100000 in
theorem ct_X11_hold_n (l : Launch) (Ω : OmT) (σ : Sg) (hw : MW σ) (u c : Int32) (hu : ¬ isU σ.2.2.2 u) : ZM l Ω yX11_hold cX11_hold 3 (some .int) rm_X11_hold [rfO Ω 6, .int u, .int c] (hp Ω σ) (hN σ) (some (.int (-1))) (hp Ω σ) (hN σ) := by
  refine ZM_of (by decide) (Nat.le_of_ble_eq_true rfl) (fun E hE C hQ => ?_)
  first | refine z_aload_n (pc := 0) C dX11_hold_0 rfl ?_ | refine z_aload_nN (pc := 0) C dX11_hold_0 rfl ?_
  refine z_iload_n (pc := 1) C dX11_hold_1 rfl ?_
  refine z_callV (pc := 2) (ci := 10) C dX11_hold_2 zy_X11_isUnit kw_692 kw_693 rfl kw_842 rfl (ct_X11_isUnit l Ω σ hw u) rfl rfl ⟨⟨by decide, by decide⟩, by decide, by decide⟩ (Nat.le_of_ble_eq_true rfl) ?_; dsimp only [Option.toList_some, List.cons_append, List.nil_append]
  -- at 5: ifeq 
  refine z_ifeqB (pc := 5) (tgt := 31) C dX11_hold_5 (by decide) (fun h5 => ?_) (fun h5 => absurd h5 hu)
  refine z_iconst (pc := 31) (v := (-1)) C dX11_hold_31 (by decide) ?_
  -- at 32: ireturn 
  exact z_iret (pc := 32) C hQ dX11_hold_32 rfl rfl rfl (by decide) (by decide)
set_option maxHeartbeats 4000000 in
set_option maxRecDepth 100000 in
theorem ct_X11_hold (l : Launch) (Ω : OmT) (σ : Sg) (hw : MW σ) (k : Nat) (hk : k < σ.2.2.2) (c : Int32) : ZM l Ω yX11_hold cX11_hold 3 (some .int) rm_X11_hold [rfO Ω 6, .int (nI k), .int c] (hp Ω σ) (hN σ) (some (.int (r_hold σ k c))) (hp Ω σ) (hN σ) := by
  refine ZM_of (by decide) (Nat.le_of_ble_eq_true rfl) (fun E hE C hQ => ?_)
  have hn := hw.1
  have h0 : isU σ.2.2.2 (nI k) := isU_nI (by omega) hk
  first | refine z_aload_n (pc := 0) C dX11_hold_0 rfl ?_ | refine z_aload_nN (pc := 0) C dX11_hold_0 rfl ?_
  refine z_iload_n (pc := 1) C dX11_hold_1 rfl ?_
  refine z_callV (pc := 2) (ci := 10) C dX11_hold_2 zy_X11_isUnit kw_692 kw_693 rfl kw_842 rfl (ct_X11_isUnit l Ω σ hw _) rfl rfl ⟨⟨by decide, by decide⟩, by decide, by decide⟩ (Nat.le_of_ble_eq_true rfl) ?_; dsimp only [Option.toList_some, List.cons_append, List.nil_append]
  refine z_ifeqB (pc := 5) (tgt := 31) C dX11_hold_5 (by decide) (fun h5 => ?_) (fun h5 => ?_)
  · exact absurd h0 h5
  · refine z_iload_n (pc := 8) C dX11_hold_8 rfl ?_
    refine z_iconst (pc := 9) (v := nI 0) C dX11_hold_9 (by decide) ?_
    refine z_bipush (pc := 10) (v := nI 7) C dX11_hold_10 (by decide) ?_
    refine z_callS (pc := 12) C dX11_hold_12 zy_X11_isIn kw_685 kw_686 (ct_X11_isIn l Ω _ _ _ _ _) rfl rfl ⟨⟨by decide, by decide⟩, by decide, by decide⟩ (Nat.le_of_ble_eq_true rfl) ?_; dsimp only [Option.toList_some, List.cons_append, List.nil_append]
    refine z_ifeqB (pc := 15) (tgt := 31) C dX11_hold_15 (by decide) (fun h15 => ?_) (fun h15 => ?_)
    · refine z_iconst (pc := 31) (v := (-1)) C dX11_hold_31 (by decide) ?_
      exact z_iret (pc := 32) C hQ dX11_hold_32 (by clear hQ C hE; first | rfl | (simp [r_hold, h5, h15]; done) | (simp_all [r_hold]; done)) (by clear hQ C hE; first | rfl | (simp [r_hold, h5, h15]; done) | (simp_all [r_hold]; done)) (by clear hQ C hE; first | rfl | (simp [r_hold, h5, h15]; done) | (simp_all [r_hold]; done)) (by decide) (by decide)
    · obtain ⟨p, -, hp1, rfl⟩ := inR_of (by decide) (by decide) h15
      have tp := tn_nI (show p < 2147483648 by omega)
      first | refine z_aload_n (pc := 18) C dX11_hold_18 rfl ?_ | refine z_aload_nN (pc := 18) C dX11_hold_18 rfl ?_
      refine z_getf (pc := 19) C dX11_hold_19 zf_X11_16_10 rfl rfl ?_
      refine z_iload_n (pc := 22) C dX11_hold_22 rfl ?_
      refine z_iload_n (pc := 23) C dX11_hold_23 rfl ?_
      refine z_callS (pc := 24) C dX11_hold_24 zy_X11_spot kw_717 kw_718 (ct_X11_spot l Ω _ _ _ _) rfl rfl ⟨⟨by decide, by decide⟩, by decide, by decide⟩ (Nat.le_of_ble_eq_true rfl) ?_; dsimp only [Option.toList_some, List.cons_append, List.nil_append]
      refine z_iald (pc := 27) (N := 80) C dX11_hold_27 rfl (by omega) (by decide) rfl ?_
      refine z_goto (pc := 28) (tgt := 32) C dX11_hold_28 (by decide) ?_
      exact z_iret (pc := 32) C hQ dX11_hold_32 (by clear hQ C hE; first | rfl | (simp [r_hold, h5, h15, tp]; done) | (simp_all [r_hold]; done)) (by clear hQ C hE; first | rfl | (simp [r_hold, h5, h15, tp]; done) | (simp_all [r_hold]; done)) (by clear hQ C hE; first | rfl | (simp [r_hold, h5, h15, tp]; done) | (simp_all [r_hold]; done)) (by decide) (by decide)
set_option maxHeartbeats 4000000 in
set_option maxRecDepth 100000 in
theorem ct_X11_told_n (l : Launch) (Ω : OmT) (σ : Sg) (hw : MW σ) (u j : Int32) (hu : ¬ isU σ.2.2.2 u) : ZM l Ω yX11_told cX11_told 3 (some .int) rm_X11_told [rfO Ω 6, .int u, .int j] (hp Ω σ) (hN σ) (some (.int (-1))) (hp Ω σ) (hN σ) := by
  refine ZM_of (by decide) (Nat.le_of_ble_eq_true rfl) (fun E hE C hQ => ?_)
  first | refine z_aload_n (pc := 0) C dX11_told_0 rfl ?_ | refine z_aload_nN (pc := 0) C dX11_told_0 rfl ?_
  refine z_iload_n (pc := 1) C dX11_told_1 rfl ?_
  refine z_callV (pc := 2) (ci := 10) C dX11_told_2 zy_X11_isUnit kw_692 kw_693 rfl kw_842 rfl (ct_X11_isUnit l Ω σ hw u) rfl rfl ⟨⟨by decide, by decide⟩, by decide, by decide⟩ (Nat.le_of_ble_eq_true rfl) ?_; dsimp only [Option.toList_some, List.cons_append, List.nil_append]
  -- at 5: ifne 
  refine z_ifneB (pc := 5) (tgt := 10) C dX11_told_5 (by decide) (fun h5 => absurd h5 hu) (fun h5 => ?_)
  refine z_iconst (pc := 8) (v := (-1)) C dX11_told_8 (by decide) ?_
  -- at 9: ireturn 
  exact z_iret (pc := 9) C hQ dX11_told_9 rfl rfl rfl (by decide) (by decide)
set_option maxHeartbeats 4000000 in
set_option maxRecDepth 100000 in
theorem ct_X11_told (l : Launch) (Ω : OmT) (σ : Sg) (hw : MW σ) (k : Nat) (hk : k < σ.2.2.2) (j : Int32) : ZM l Ω yX11_told cX11_told 3 (some .int) rm_X11_told [rfO Ω 6, .int (nI k), .int j] (hp Ω σ) (hN σ) (some (.int (r_told σ k j))) (hp Ω σ) (hN σ) := by
  refine ZM_of (by decide) (Nat.le_of_ble_eq_true rfl) (fun E hE C hQ => ?_)
  have hn := hw.1
  have h0 : isU σ.2.2.2 (nI k) := isU_nI (by omega) hk
  have hu4 := ust_le (σ.2.2.1 k)
  obtain ⟨e1, e2⟩ := hw.2.2 k hk
  first | refine z_aload_n (pc := 0) C dX11_told_0 rfl ?_ | refine z_aload_nN (pc := 0) C dX11_told_0 rfl ?_
  refine z_iload_n (pc := 1) C dX11_told_1 rfl ?_
  refine z_callV (pc := 2) (ci := 10) C dX11_told_2 zy_X11_isUnit kw_692 kw_693 rfl kw_842 rfl (ct_X11_isUnit l Ω σ hw _) rfl rfl ⟨⟨by decide, by decide⟩, by decide, by decide⟩ (Nat.le_of_ble_eq_true rfl) ?_; dsimp only [Option.toList_some, List.cons_append, List.nil_append]
  refine z_ifneB (pc := 5) (tgt := 10) C dX11_told_5 (by decide) (fun h5 => ?_) (fun h5 => ?_)
  · first | refine z_aload_n (pc := 10) C dX11_told_10 rfl ?_ | refine z_aload_nN (pc := 10) C dX11_told_10 rfl ?_
    refine z_getf (pc := 11) C dX11_told_11 zf_X11_9_10 rfl rfl ?_
    refine z_iload_n (pc := 14) C dX11_told_14 rfl ?_
    refine z_iald (pc := 15) (N := 10) C dX11_told_15 rfl (by omega) (by decide) rfl ?_; rw [e1]
    first | with_reducible refine z_if_neX (pc := 16) (tgt := 44) C dX11_told_16 (by decide) (by omega) (fun h16 => ?_) (fun h16 => ?_) | refine z_if_ne (pc := 16) (tgt := 44) C dX11_told_16 (by decide) (fun h16 => ?_) (fun h16 => ?_)
    · first | refine z_aload_n (pc := 44) C dX11_told_44 rfl ?_ | refine z_aload_nN (pc := 44) C dX11_told_44 rfl ?_
      refine z_getf (pc := 45) C dX11_told_45 zf_X11_9_10 rfl rfl ?_
      refine z_iload_n (pc := 48) C dX11_told_48 rfl ?_
      refine z_iald (pc := 49) (N := 10) C dX11_told_49 rfl (by omega) (by decide) rfl ?_; rw [e1]
      refine z_iconst (pc := 50) (v := nI 2) C dX11_told_50 (by decide) ?_
      first | with_reducible refine z_icmp_neX (pc := 51) (tgt := 80) C dX11_told_51 (by decide) (by omega) (by omega) (fun h51 => ?_) (fun h51 => ?_) | refine z_icmp_ne (pc := 51) (tgt := 80) C dX11_told_51 (by decide) (fun h51 => ?_) (fun h51 => ?_)
      · refine z_iload_n (pc := 80) C dX11_told_80 rfl ?_
        refine z_iconst (pc := 81) (v := nI 0) C dX11_told_81 (by decide) ?_
        first | refine z_aload_n (pc := 82) C dX11_told_82 rfl ?_ | refine z_aload_nN (pc := 82) C dX11_told_82 rfl ?_
        refine z_iload_n (pc := 83) C dX11_told_83 rfl ?_
        refine z_callV (pc := 84) (ci := 10) C dX11_told_84 zy_X11_settings kw_710 kw_711 rfl kw_844 rfl (ct_X11_settings l Ω σ hw k hk) rfl rfl ⟨⟨by decide, by decide⟩, by decide, by decide⟩ (Nat.le_of_ble_eq_true rfl) ?_; dsimp only [Option.toList_some, List.cons_append, List.nil_append]
        refine z_iconst (pc := 87) (v := nI 1) C dX11_told_87 (by decide) ?_
        first | with_reducible refine z_isubN (pc := 88) C dX11_told_88 (by omega) ?_ | refine z_isub (pc := 88) C dX11_told_88 ?_
        refine z_callS (pc := 89) C dX11_told_89 zy_X11_isIn kw_685 kw_686 (ct_X11_isIn l Ω _ _ _ _ _) rfl rfl ⟨⟨by decide, by decide⟩, by decide, by decide⟩ (Nat.le_of_ble_eq_true rfl) ?_; dsimp only [Option.toList_some, List.cons_append, List.nil_append]
        refine z_ifneB (pc := 92) (tgt := 97) C dX11_told_92 (by decide) (fun h92 => ?_) (fun h92 => ?_)
        · obtain ⟨p, hp1, rfl⟩ := isU_of (by omega) h92
          have tp := tn_nI (show p < 2147483648 by omega)
          first | refine z_aload_n (pc := 97) C dX11_told_97 rfl ?_ | refine z_aload_nN (pc := 97) C dX11_told_97 rfl ?_
          refine z_getf (pc := 98) C dX11_told_98 zf_X11_9_10 rfl rfl ?_
          refine z_iload_n (pc := 101) C dX11_told_101 rfl ?_
          refine z_iald (pc := 102) (N := 10) C dX11_told_102 rfl (by omega) (by decide) rfl ?_; rw [e1]
          refine z_iconst (pc := 103) (v := nI 5) C dX11_told_103 (by decide) ?_
          first | with_reducible refine z_icmp_neX (pc := 104) (tgt := 116) C dX11_told_104 (by decide) (by omega) (by omega) (fun h104 => ?_) (fun h104 => ?_) | refine z_icmp_ne (pc := 104) (tgt := 116) C dX11_told_104 (by decide) (fun h104 => ?_) (fun h104 => ?_)
          · first | refine z_aload_n (pc := 116) C dX11_told_116 rfl ?_ | refine z_aload_nN (pc := 116) C dX11_told_116 rfl ?_
            refine z_getf (pc := 117) C dX11_told_117 zf_X11_9_10 rfl rfl ?_
            refine z_iload_n (pc := 120) C dX11_told_120 rfl ?_
            refine z_iald (pc := 121) (N := 10) C dX11_told_121 rfl (by omega) (by decide) rfl ?_; rw [e1]
            refine z_bipush (pc := 122) (v := nI 6) C dX11_told_122 (by decide) ?_
            first | with_reducible refine z_icmp_neX (pc := 124) (tgt := 136) C dX11_told_124 (by decide) (by omega) (by omega) (fun h124 => ?_) (fun h124 => ?_) | refine z_icmp_ne (pc := 124) (tgt := 136) C dX11_told_124 (by decide) (fun h124 => ?_) (fun h124 => ?_)
            · first | refine z_aload_n (pc := 136) C dX11_told_136 rfl ?_ | refine z_aload_nN (pc := 136) C dX11_told_136 rfl ?_
              refine z_getf (pc := 137) C dX11_told_137 zf_X11_25_10 rfl rfl ?_
              refine z_iconst (pc := 140) (v := nI 4) C dX11_told_140 (by decide) ?_
              refine z_iload_n (pc := 141) C dX11_told_141 rfl ?_
              first | with_reducible refine z_imulN (pc := 142) C dX11_told_142 ?_ | refine z_imul (pc := 142) C dX11_told_142 ?_
              refine z_iload_n (pc := 143) C dX11_told_143 rfl ?_
              first | with_reducible refine z_iaddN (pc := 144) C dX11_told_144 ?_ | refine z_iadd (pc := 144) C dX11_told_144 ?_
              refine z_iald (pc := 145) (N := 40) C dX11_told_145 rfl (by omega) (by decide) rfl ?_
              exact z_iret (pc := 146) C hQ dX11_told_146 (by clear hQ C hE; first | rfl | (simp [r_told, h5, h16, h51, h92, tp, h104, h124]; done) | (simp_all [r_told]; done)) (by clear hQ C hE; first | rfl | (simp [r_told, h5, h16, h51, h92, tp, h104, h124]; done) | (simp_all [r_told]; done)) (by clear hQ C hE; first | rfl | (simp [r_told, h5, h16, h51, h92, tp, h104, h124]; done) | (simp_all [r_told]; done)) (by decide) (by decide)
            · first | refine z_aload_n (pc := 127) C dX11_told_127 rfl ?_ | refine z_aload_nN (pc := 127) C dX11_told_127 rfl ?_
              refine z_getf (pc := 128) C dX11_told_128 zf_X11_34_10 rfl rfl ?_
              refine z_iload_n (pc := 131) C dX11_told_131 rfl ?_
              refine z_iald (pc := 132) (N := 10) C dX11_told_132 rfl (by omega) (by decide) rfl ?_
              refine z_goto (pc := 133) (tgt := 146) C dX11_told_133 (by decide) ?_
              exact z_iret (pc := 146) C hQ dX11_told_146 (by clear hQ C hE; first | rfl | (simp [r_told, h5, h16, h51, h92, tp, h104, h124]; done) | (simp_all [r_told]; done)) (by clear hQ C hE; first | rfl | (simp [r_told, h5, h16, h51, h92, tp, h104, h124]; done) | (simp_all [r_told]; done)) (by clear hQ C hE; first | rfl | (simp [r_told, h5, h16, h51, h92, tp, h104, h124]; done) | (simp_all [r_told]; done)) (by decide) (by decide)
          · first | refine z_aload_n (pc := 107) C dX11_told_107 rfl ?_ | refine z_aload_nN (pc := 107) C dX11_told_107 rfl ?_
            refine z_getf (pc := 108) C dX11_told_108 zf_X11_31_10 rfl rfl ?_
            refine z_iload_n (pc := 111) C dX11_told_111 rfl ?_
            refine z_iald (pc := 112) (N := 10) C dX11_told_112 rfl (by omega) (by decide) rfl ?_
            refine z_goto (pc := 113) (tgt := 146) C dX11_told_113 (by decide) ?_
            exact z_iret (pc := 146) C hQ dX11_told_146 (by clear hQ C hE; first | rfl | (simp [r_told, h5, h16, h51, h92, tp, h104]; done) | (simp_all [r_told]; done)) (by clear hQ C hE; first | rfl | (simp [r_told, h5, h16, h51, h92, tp, h104]; done) | (simp_all [r_told]; done)) (by clear hQ C hE; first | rfl | (simp [r_told, h5, h16, h51, h92, tp, h104]; done) | (simp_all [r_told]; done)) (by decide) (by decide)
        · refine z_iconst (pc := 95) (v := (-1)) C dX11_told_95 (by decide) ?_
          exact z_iret (pc := 96) C hQ dX11_told_96 (by clear hQ C hE; first | rfl | (simp [r_told, h5, h16, h51, h92]; done) | (simp_all [r_told]; done)) (by clear hQ C hE; first | rfl | (simp [r_told, h5, h16, h51, h92]; done) | (simp_all [r_told]; done)) (by clear hQ C hE; first | rfl | (simp [r_told, h5, h16, h51, h92]; done) | (simp_all [r_told]; done)) (by decide) (by decide)
      · refine z_iload_n (pc := 54) C dX11_told_54 rfl ?_
        refine z_iconst (pc := 55) (v := nI 0) C dX11_told_55 (by decide) ?_
        refine z_bipush (pc := 56) (v := nI 15) C dX11_told_56 (by decide) ?_
        refine z_callS (pc := 58) C dX11_told_58 zy_X11_isIn kw_685 kw_686 (ct_X11_isIn l Ω _ _ _ _ _) rfl rfl ⟨⟨by decide, by decide⟩, by decide, by decide⟩ (Nat.le_of_ble_eq_true rfl) ?_; dsimp only [Option.toList_some, List.cons_append, List.nil_append]
        refine z_ifeqB (pc := 61) (tgt := 78) C dX11_told_61 (by decide) (fun h61 => ?_) (fun h61 => ?_)
        · refine z_iconst (pc := 78) (v := (-1)) C dX11_told_78 (by decide) ?_
          exact z_iret (pc := 79) C hQ dX11_told_79 (by clear hQ C hE; first | rfl | (simp [r_told, h5, h16, h51, h61]; done) | (simp_all [r_told]; done)) (by clear hQ C hE; first | rfl | (simp [r_told, h5, h16, h51, h61]; done) | (simp_all [r_told]; done)) (by clear hQ C hE; first | rfl | (simp [r_told, h5, h16, h51, h61]; done) | (simp_all [r_told]; done)) (by decide) (by decide)
        · obtain ⟨p, -, hp1, rfl⟩ := inR_of (by decide) (by decide) h61
          have tp := tn_nI (show p < 2147483648 by omega)
          first | refine z_aload_n (pc := 64) C dX11_told_64 rfl ?_ | refine z_aload_nN (pc := 64) C dX11_told_64 rfl ?_
          refine z_getf (pc := 65) C dX11_told_65 zf_X11_22_10 rfl rfl ?_
          refine z_bipush (pc := 68) (v := nI 16) C dX11_told_68 (by decide) ?_
          refine z_iload_n (pc := 70) C dX11_told_70 rfl ?_
          first | with_reducible refine z_imulN (pc := 71) C dX11_told_71 ?_ | refine z_imul (pc := 71) C dX11_told_71 ?_
          refine z_iload_n (pc := 72) C dX11_told_72 rfl ?_
          first | with_reducible refine z_iaddN (pc := 73) C dX11_told_73 ?_ | refine z_iadd (pc := 73) C dX11_told_73 ?_
          refine z_iald (pc := 74) (N := 160) C dX11_told_74 rfl (by omega) (by decide) rfl ?_
          refine z_goto (pc := 75) (tgt := 79) C dX11_told_75 (by decide) ?_
          exact z_iret (pc := 79) C hQ dX11_told_79 (by clear hQ C hE; first | rfl | (simp [r_told, h5, h16, h51, h61, tp]; done) | (simp_all [r_told]; done)) (by clear hQ C hE; first | rfl | (simp [r_told, h5, h16, h51, h61, tp]; done) | (simp_all [r_told]; done)) (by clear hQ C hE; first | rfl | (simp [r_told, h5, h16, h51, h61, tp]; done) | (simp_all [r_told]; done)) (by decide) (by decide)
    · refine z_iload_n (pc := 19) C dX11_told_19 rfl ?_
      refine z_iconst (pc := 20) (v := nI 0) C dX11_told_20 (by decide) ?_
      refine z_bipush (pc := 21) (v := nI 7) C dX11_told_21 (by decide) ?_
      refine z_callS (pc := 23) C dX11_told_23 zy_X11_isIn kw_685 kw_686 (ct_X11_isIn l Ω _ _ _ _ _) rfl rfl ⟨⟨by decide, by decide⟩, by decide, by decide⟩ (Nat.le_of_ble_eq_true rfl) ?_; dsimp only [Option.toList_some, List.cons_append, List.nil_append]
      refine z_ifeqB (pc := 26) (tgt := 42) C dX11_told_26 (by decide) (fun h26 => ?_) (fun h26 => ?_)
      · refine z_iconst (pc := 42) (v := (-1)) C dX11_told_42 (by decide) ?_
        exact z_iret (pc := 43) C hQ dX11_told_43 (by clear hQ C hE; first | rfl | (simp [r_told, h5, h16, h26]; done) | (simp_all [r_told]; done)) (by clear hQ C hE; first | rfl | (simp [r_told, h5, h16, h26]; done) | (simp_all [r_told]; done)) (by clear hQ C hE; first | rfl | (simp [r_told, h5, h16, h26]; done) | (simp_all [r_told]; done)) (by decide) (by decide)
      · obtain ⟨p, -, hp1, rfl⟩ := inR_of (by decide) (by decide) h26
        have tp := tn_nI (show p < 2147483648 by omega)
        first | refine z_aload_n (pc := 29) C dX11_told_29 rfl ?_ | refine z_aload_nN (pc := 29) C dX11_told_29 rfl ?_
        refine z_getf (pc := 30) C dX11_told_30 zf_X11_19_10 rfl rfl ?_
        refine z_iload_n (pc := 33) C dX11_told_33 rfl ?_
        refine z_iload_n (pc := 34) C dX11_told_34 rfl ?_
        refine z_callS (pc := 35) C dX11_told_35 zy_X11_spot kw_717 kw_718 (ct_X11_spot l Ω _ _ _ _) rfl rfl ⟨⟨by decide, by decide⟩, by decide, by decide⟩ (Nat.le_of_ble_eq_true rfl) ?_; dsimp only [Option.toList_some, List.cons_append, List.nil_append]
        refine z_iald (pc := 38) (N := 80) C dX11_told_38 rfl (by omega) (by decide) rfl ?_
        refine z_goto (pc := 39) (tgt := 43) C dX11_told_39 (by decide) ?_
        exact z_iret (pc := 43) C hQ dX11_told_43 (by clear hQ C hE; first | rfl | (simp [r_told, h5, h16, h26, tp]; done) | (simp_all [r_told]; done)) (by clear hQ C hE; first | rfl | (simp [r_told, h5, h16, h26, tp]; done) | (simp_all [r_told]; done)) (by clear hQ C hE; first | rfl | (simp [r_told, h5, h16, h26, tp]; done) | (simp_all [r_told]; done)) (by decide) (by decide)
  · exact absurd h0 h5
set_option maxHeartbeats 4000000 in
set_option maxRecDepth 100000 in
theorem ct_X11_control_n (l : Launch) (Ω : OmT) (σ : Sg) (hw : MW σ) (u v off on : Int32) (hu : ¬ isU σ.2.2.2 u) : ZM l Ω yX11_control cX11_control 5 (some .int) rm_X11_control [rfO Ω 6, .int u, .int v, .int off, .int on] (hp Ω σ) (hN σ) (some (.int (-1))) (hp Ω σ) (hN σ) := by
  refine ZM_of (by decide) (Nat.le_of_ble_eq_true rfl) (fun E hE C hQ => ?_)
  first | refine z_aload_n (pc := 0) C dX11_control_0 rfl ?_ | refine z_aload_nN (pc := 0) C dX11_control_0 rfl ?_
  refine z_iload_n (pc := 1) C dX11_control_1 rfl ?_
  refine z_callV (pc := 2) (ci := 10) C dX11_control_2 zy_X11_isUnit kw_692 kw_693 rfl kw_842 rfl (ct_X11_isUnit l Ω σ hw u) rfl rfl ⟨⟨by decide, by decide⟩, by decide, by decide⟩ (Nat.le_of_ble_eq_true rfl) ?_; dsimp only [Option.toList_some, List.cons_append, List.nil_append]
  -- at 5: ifeq 
  refine z_ifeqB (pc := 5) (tgt := 16) C dX11_control_5 (by decide) (fun h5 => ?_) (fun h5 => absurd h5 hu)
  refine z_iconst (pc := 16) (v := (-1)) C dX11_control_16 (by decide) ?_
  -- at 17: ireturn 
  exact z_iret (pc := 17) C hQ dX11_control_17 rfl rfl rfl (by decide) (by decide)
set_option maxHeartbeats 4000000 in
set_option maxRecDepth 100000 in
theorem ct_X11_control (l : Launch) (Ω : OmT) (σ : Sg) (hw : MW σ) (k : Nat) (hk : k < σ.2.2.2) (u off on : Int32) : ZM l Ω yX11_control cX11_control 5 (some .int) rm_X11_control [rfO Ω 6, .int (nI k), .int u, .int off, .int on] (hp Ω σ) (hN σ) (some (.int (r_control σ k u off on))) (hp Ω (s_control σ k u off on)) (hN σ) := by
  refine ZM_of (by decide) (Nat.le_of_ble_eq_true rfl) (fun E hE C hQ => ?_)
  have hn := hw.1
  have h0 : isU σ.2.2.2 (nI k) := isU_nI (by omega) hk
  obtain ⟨e1, e2⟩ := hw.2.2 k hk
  first | refine z_aload_n (pc := 0) C dX11_control_0 rfl ?_ | refine z_aload_nN (pc := 0) C dX11_control_0 rfl ?_
  refine z_iload_n (pc := 1) C dX11_control_1 rfl ?_
  refine z_callV (pc := 2) (ci := 10) C dX11_control_2 zy_X11_isUnit kw_692 kw_693 rfl kw_842 rfl (ct_X11_isUnit l Ω σ hw _) rfl rfl ⟨⟨by decide, by decide⟩, by decide, by decide⟩ (Nat.le_of_ble_eq_true rfl) ?_; dsimp only [Option.toList_some, List.cons_append, List.nil_append]
  refine z_ifeqB (pc := 5) (tgt := 16) C dX11_control_5 (by decide) (fun h5 => ?_) (fun h5 => ?_)
  · exact absurd h0 h5
  · first | refine z_aload_n (pc := 8) C dX11_control_8 rfl ?_ | refine z_aload_nN (pc := 8) C dX11_control_8 rfl ?_
    refine z_iload_n (pc := 9) C dX11_control_9 rfl ?_
    refine z_callV (pc := 10) (ci := 10) C dX11_control_10 zy_X11_isUnit kw_692 kw_693 rfl kw_842 rfl (ct_X11_isUnit l Ω σ hw _) rfl rfl ⟨⟨by decide, by decide⟩, by decide, by decide⟩ (Nat.le_of_ble_eq_true rfl) ?_; dsimp only [Option.toList_some, List.cons_append, List.nil_append]
    refine z_ifneB (pc := 13) (tgt := 18) C dX11_control_13 (by decide) (fun h13 => ?_) (fun h13 => ?_)
    · first | refine z_aload_n (pc := 18) C dX11_control_18 rfl ?_ | refine z_aload_nN (pc := 18) C dX11_control_18 rfl ?_
      refine z_getf (pc := 19) C dX11_control_19 zf_X11_9_10 rfl rfl ?_
      refine z_iload_n (pc := 22) C dX11_control_22 rfl ?_
      refine z_iald (pc := 23) (N := 10) C dX11_control_23 rfl (by omega) (by decide) rfl ?_; rw [e1]
      first | with_reducible refine z_if_eqX (pc := 24) (tgt := 30) C dX11_control_24 (by decide) (by omega) (fun h24 => ?_) (fun h24 => ?_) | refine z_if_eq (pc := 24) (tgt := 30) C dX11_control_24 (by decide) (fun h24 => ?_) (fun h24 => ?_)
      · refine z_iload_n (pc := 30) C dX11_control_30 rfl ?_
        refine z_iconst (pc := 31) (v := nI 0) C dX11_control_31 (by decide) ?_
        refine z_ldc (pc := 32) (v := nI 100000) C dX11_control_32 kw_724 ?_
        refine z_callS (pc := 34) C dX11_control_34 zy_X11_isIn kw_685 kw_686 (ct_X11_isIn l Ω _ _ _ _ _) rfl rfl ⟨⟨by decide, by decide⟩, by decide, by decide⟩ (Nat.le_of_ble_eq_true rfl) ?_; dsimp only [Option.toList_some, List.cons_append, List.nil_append]
        refine z_ifeqB (pc := 37) (tgt := 57) C dX11_control_37 (by decide) (fun h37 => ?_) (fun h37 => ?_)
        · refine z_bipush (pc := 57) (v := (-2)) C dX11_control_57 (by decide) ?_
          exact z_iret (pc := 59) C hQ dX11_control_59 (by clear hQ C hE; first | rfl | (simp [r_control, s_control, h5, h13, h24, h37]; done) | (simp_all [r_control, s_control]; done)) (by clear hQ C hE; first | rfl | (simp [r_control, s_control, h5, h13, h24, h37]; done) | (simp_all [r_control, s_control]; done)) (by clear hQ C hE; first | rfl | (simp [r_control, s_control, h5, h13, h24, h37]; done) | (simp_all [r_control, s_control]; done)) (by decide) (by decide)
        · refine z_iload (pc := 40) C dX11_control_40 rfl ?_
          refine z_iconst (pc := 42) (v := nI 0) C dX11_control_42 (by decide) ?_
          refine z_ldc (pc := 43) (v := nI 100000) C dX11_control_43 kw_724 ?_
          refine z_callS (pc := 45) C dX11_control_45 zy_X11_isIn kw_685 kw_686 (ct_X11_isIn l Ω _ _ _ _ _) rfl rfl ⟨⟨by decide, by decide⟩, by decide, by decide⟩ (Nat.le_of_ble_eq_true rfl) ?_; dsimp only [Option.toList_some, List.cons_append, List.nil_append]
          refine z_ifeqB (pc := 48) (tgt := 57) C dX11_control_48 (by decide) (fun h48 => ?_) (fun h48 => ?_)
          · refine z_bipush (pc := 57) (v := (-2)) C dX11_control_57 (by decide) ?_
            exact z_iret (pc := 59) C hQ dX11_control_59 (by clear hQ C hE; first | rfl | (simp [r_control, s_control, h5, h13, h24, h37, h48]; done) | (simp_all [r_control, s_control]; done)) (by clear hQ C hE; first | rfl | (simp [r_control, s_control, h5, h13, h24, h37, h48]; done) | (simp_all [r_control, s_control]; done)) (by clear hQ C hE; first | rfl | (simp [r_control, s_control, h5, h13, h24, h37, h48]; done) | (simp_all [r_control, s_control]; done)) (by decide) (by decide)
          · refine z_iload (pc := 51) C dX11_control_51 rfl ?_
            refine z_iload_n (pc := 53) C dX11_control_53 rfl ?_
            refine z_icmp_le (pc := 54) (tgt := 60) C dX11_control_54 (by decide) (fun h54 => ?_) (fun h54 => ?_)
            · first | refine z_aload_n (pc := 60) C dX11_control_60 rfl ?_ | refine z_aload_nN (pc := 60) C dX11_control_60 rfl ?_
              refine z_getf (pc := 61) C dX11_control_61 zf_X11_37_10 rfl rfl ?_
              refine z_iload_n (pc := 64) C dX11_control_64 rfl ?_
              refine z_iload_n (pc := 65) C dX11_control_65 rfl ?_
              refine z_iast (pc := 66) (N := 10) C dX11_control_66 rfl (by omega) (by decide) (hp_m 9 (by decide) hn (by decide)) ?_
              first | refine z_aload_n (pc := 67) C dX11_control_67 rfl ?_ | refine z_aload_nN (pc := 67) C dX11_control_67 rfl ?_
              refine z_getf (pc := 68) C dX11_control_68 zf_X11_40_10 rfl rfl ?_
              refine z_iload_n (pc := 71) C dX11_control_71 rfl ?_
              refine z_iload_n (pc := 72) C dX11_control_72 rfl ?_
              refine z_iast (pc := 73) (N := 10) C dX11_control_73 rfl (by omega) (by decide) (hp_m 10 (by decide) hn (by decide)) ?_
              first | refine z_aload_n (pc := 74) C dX11_control_74 rfl ?_ | refine z_aload_nN (pc := 74) C dX11_control_74 rfl ?_
              refine z_getf (pc := 75) C dX11_control_75 zf_X11_43_10 rfl rfl ?_
              refine z_iload_n (pc := 78) C dX11_control_78 rfl ?_
              refine z_iload (pc := 79) C dX11_control_79 rfl ?_
              refine z_iast (pc := 81) (N := 10) C dX11_control_81 rfl (by omega) (by decide) (hp_m 11 (by decide) hn (by decide)) ?_
              refine z_iconst (pc := 82) (v := nI 0) C dX11_control_82 (by decide) ?_
              exact z_iret (pc := 83) C hQ dX11_control_83 (by clear hQ C hE; first | rfl | (simp [r_control, s_control, h5, h13, h24, h37, h48, h54]; done) | (simp_all [r_control, s_control]; done)) (by clear hQ C hE; first | rfl | (simp [r_control, s_control, h5, h13, h24, h37, h48, h54]; done) | (simp_all [r_control, s_control]; done)) (by clear hQ C hE; first | rfl | (simp [r_control, s_control, h5, h13, h24, h37, h48, h54]; done) | (simp_all [r_control, s_control]; done)) (by decide) (by decide)
            · refine z_bipush (pc := 57) (v := (-2)) C dX11_control_57 (by decide) ?_
              exact z_iret (pc := 59) C hQ dX11_control_59 (by clear hQ C hE; first | rfl | (simp [r_control, s_control, h5, h13, h24, h37, h48, h54]; done) | (simp_all [r_control, s_control]; done)) (by clear hQ C hE; first | rfl | (simp [r_control, s_control, h5, h13, h24, h37, h48, h54]; done) | (simp_all [r_control, s_control]; done)) (by clear hQ C hE; first | rfl | (simp [r_control, s_control, h5, h13, h24, h37, h48, h54]; done) | (simp_all [r_control, s_control]; done)) (by decide) (by decide)
      · refine z_bipush (pc := 27) (v := (-3)) C dX11_control_27 (by decide) ?_
        exact z_iret (pc := 29) C hQ dX11_control_29 (by clear hQ C hE; first | rfl | (simp [r_control, s_control, h5, h13, h24]; done) | (simp_all [r_control, s_control]; done)) (by clear hQ C hE; first | rfl | (simp [r_control, s_control, h5, h13, h24]; done) | (simp_all [r_control, s_control]; done)) (by clear hQ C hE; first | rfl | (simp [r_control, s_control, h5, h13, h24]; done) | (simp_all [r_control, s_control]; done)) (by decide) (by decide)
    · refine z_iconst (pc := 16) (v := (-1)) C dX11_control_16 (by decide) ?_
      exact z_iret (pc := 17) C hQ dX11_control_17 (by clear hQ C hE; first | rfl | (simp [r_control, s_control, h5, h13]; done) | (simp_all [r_control, s_control]; done)) (by clear hQ C hE; first | rfl | (simp [r_control, s_control, h5, h13]; done) | (simp_all [r_control, s_control]; done)) (by clear hQ C hE; first | rfl | (simp [r_control, s_control, h5, h13]; done) | (simp_all [r_control, s_control]; done)) (by decide) (by decide)
set_option maxHeartbeats 4000000 in
set_option maxRecDepth 100000 in
theorem ct_X11_turn_n (l : Launch) (Ω : OmT) (σ : Sg) (hw : MW σ) (u on : Int32) (hu : ¬ isU σ.2.2.2 u) : ZM l Ω yX11_turn cX11_turn 4 (some .int) rm_X11_turn [rfO Ω 6, .int u, .int on] (hp Ω σ) (hN σ) (some (.int (-1))) (hp Ω σ) (hN σ) := by
  refine ZM_of (by decide) (Nat.le_of_ble_eq_true rfl) (fun E hE C hQ => ?_)
  first | refine z_aload_n (pc := 0) C dX11_turn_0 rfl ?_ | refine z_aload_nN (pc := 0) C dX11_turn_0 rfl ?_
  refine z_iload_n (pc := 1) C dX11_turn_1 rfl ?_
  refine z_callV (pc := 2) (ci := 10) C dX11_turn_2 zy_X11_isUnit kw_692 kw_693 rfl kw_842 rfl (ct_X11_isUnit l Ω σ hw u) rfl rfl ⟨⟨by decide, by decide⟩, by decide, by decide⟩ (Nat.le_of_ble_eq_true rfl) ?_; dsimp only [Option.toList_some, List.cons_append, List.nil_append]
  -- at 5: ifne 
  refine z_ifneB (pc := 5) (tgt := 10) C dX11_turn_5 (by decide) (fun h5 => absurd h5 hu) (fun h5 => ?_)
  refine z_iconst (pc := 8) (v := (-1)) C dX11_turn_8 (by decide) ?_
  -- at 9: ireturn 
  exact z_iret (pc := 9) C hQ dX11_turn_9 rfl rfl rfl (by decide) (by decide)
set_option maxHeartbeats 4000000 in
set_option maxRecDepth 100000 in
theorem ct_X11_turn (l : Launch) (Ω : OmT) (σ : Sg) (hw : MW σ) (k : Nat) (hk : k < σ.2.2.2) (on : Int32) : ZM l Ω yX11_turn cX11_turn 4 (some .int) rm_X11_turn [rfO Ω 6, .int (nI k), .int on] (hp Ω σ) (hN σ) (some (.int (r_turn σ k on))) (hp Ω (s_turn σ k on)) (hN σ) := by
  refine ZM_of (by decide) (Nat.le_of_ble_eq_true rfl) (fun E hE C hQ => ?_)
  have hn := hw.1
  have h0 : isU σ.2.2.2 (nI k) := isU_nI (by omega) hk
  obtain ⟨e1, e2⟩ := hw.2.2 k hk
  first | refine z_aload_n (pc := 0) C dX11_turn_0 rfl ?_ | refine z_aload_nN (pc := 0) C dX11_turn_0 rfl ?_
  refine z_iload_n (pc := 1) C dX11_turn_1 rfl ?_
  refine z_callV (pc := 2) (ci := 10) C dX11_turn_2 zy_X11_isUnit kw_692 kw_693 rfl kw_842 rfl (ct_X11_isUnit l Ω σ hw _) rfl rfl ⟨⟨by decide, by decide⟩, by decide, by decide⟩ (Nat.le_of_ble_eq_true rfl) ?_; dsimp only [Option.toList_some, List.cons_append, List.nil_append]
  refine z_ifneB (pc := 5) (tgt := 10) C dX11_turn_5 (by decide) (fun h5 => ?_) (fun h5 => ?_)
  · first | refine z_aload_n (pc := 10) C dX11_turn_10 rfl ?_ | refine z_aload_nN (pc := 10) C dX11_turn_10 rfl ?_
    refine z_getf (pc := 11) C dX11_turn_11 zf_X11_9_10 rfl rfl ?_
    refine z_iload_n (pc := 14) C dX11_turn_14 rfl ?_
    refine z_iald (pc := 15) (N := 10) C dX11_turn_15 rfl (by omega) (by decide) rfl ?_; rw [e1]
    first | with_reducible refine z_if_eqX (pc := 16) (tgt := 22) C dX11_turn_16 (by decide) (by omega) (fun h16 => ?_) (fun h16 => ?_) | refine z_if_eq (pc := 16) (tgt := 22) C dX11_turn_16 (by decide) (fun h16 => ?_) (fun h16 => ?_)
    · refine z_iload_n (pc := 22) C dX11_turn_22 rfl ?_
      refine z_iconst (pc := 23) (v := nI 0) C dX11_turn_23 (by decide) ?_
      refine z_iconst (pc := 24) (v := nI 1) C dX11_turn_24 (by decide) ?_
      refine z_callS (pc := 25) C dX11_turn_25 zy_X11_isIn kw_685 kw_686 (ct_X11_isIn l Ω _ _ _ _ _) rfl rfl ⟨⟨by decide, by decide⟩, by decide, by decide⟩ (Nat.le_of_ble_eq_true rfl) ?_; dsimp only [Option.toList_some, List.cons_append, List.nil_append]
      refine z_ifneB (pc := 28) (tgt := 34) C dX11_turn_28 (by decide) (fun h28 => ?_) (fun h28 => ?_)
      · first | refine z_aload_n (pc := 34) C dX11_turn_34 rfl ?_ | refine z_aload_nN (pc := 34) C dX11_turn_34 rfl ?_
        refine z_getf (pc := 35) C dX11_turn_35 zf_X11_46_10 rfl rfl ?_
        refine z_iload_n (pc := 38) C dX11_turn_38 rfl ?_
        refine z_zald (pc := 39) (N := 10) C dX11_turn_39 rfl (by omega) (by decide) rfl ?_
        first | with_reducible refine z_if_eqX (pc := 40) (tgt := 47) C dX11_turn_40 (by decide) (by omega) (fun h40 => ?_) (fun h40 => ?_) | refine z_if_eq (pc := 40) (tgt := 47) C dX11_turn_40 (by decide) (fun h40 => ?_) (fun h40 => ?_)
        · refine z_iconst (pc := 47) (v := nI 0) C dX11_turn_47 (by decide) ?_
          refine z_istore_n (pc := 48) C dX11_turn_48 (by rw [hE]; decide) ?_
          first | refine z_aload_n (pc := 49) C dX11_turn_49 rfl ?_ | refine z_aload_nN (pc := 49) C dX11_turn_49 rfl ?_
          refine z_getf (pc := 50) C dX11_turn_50 zf_X11_46_10 rfl rfl ?_
          refine z_iload_n (pc := 53) C dX11_turn_53 rfl ?_
          refine z_iload_n (pc := 54) C dX11_turn_54 rfl ?_
          refine z_iconst (pc := 55) (v := nI 1) C dX11_turn_55 (by decide) ?_
          first | with_reducible refine z_icmp_neX (pc := 56) (tgt := 63) C dX11_turn_56 (by decide) (by omega) (by omega) (fun h56 => ?_) (fun h56 => ?_) | refine z_icmp_ne (pc := 56) (tgt := 63) C dX11_turn_56 (by decide) (fun h56 => ?_) (fun h56 => ?_)
          · refine z_iconst (pc := 63) (v := nI 0) C dX11_turn_63 (by decide) ?_
            refine z_zast (pc := 64) (N := 10) C dX11_turn_64 rfl (by decide) (by omega) (by decide) (hp_m 12 (by decide) hn (by decide)) ?_
            refine z_iload_n (pc := 65) C dX11_turn_65 rfl ?_
            exact z_iret (pc := 66) C hQ dX11_turn_66 (by clear hQ C hE; first | rfl | (simp [r_turn, s_turn, h5, h16, h28, h40, h56]; done) | (simp_all [r_turn, s_turn]; done)) (by clear hQ C hE; first | rfl | (simp [r_turn, s_turn, h5, h16, h28, h40, h56]; done) | (simp_all [r_turn, s_turn]; done)) (by clear hQ C hE; first | rfl | (simp [r_turn, s_turn, h5, h16, h28, h40, h56]; done) | (simp_all [r_turn, s_turn]; done)) (by decide) (by decide)
          · refine z_iconst (pc := 59) (v := nI 1) C dX11_turn_59 (by decide) ?_
            refine z_goto (pc := 60) (tgt := 64) C dX11_turn_60 (by decide) ?_
            refine z_zast (pc := 64) (N := 10) C dX11_turn_64 rfl (by decide) (by omega) (by decide) (hp_m 12 (by decide) hn (by decide)) ?_
            refine z_iload_n (pc := 65) C dX11_turn_65 rfl ?_
            exact z_iret (pc := 66) C hQ dX11_turn_66 (by clear hQ C hE; first | rfl | (simp [r_turn, s_turn, h5, h16, h28, h40, h56]; done) | (simp_all [r_turn, s_turn]; done)) (by clear hQ C hE; first | rfl | (simp [r_turn, s_turn, h5, h16, h28, h40, h56]; done) | (simp_all [r_turn, s_turn]; done)) (by clear hQ C hE; first | rfl | (simp [r_turn, s_turn, h5, h16, h28, h40, h56]; done) | (simp_all [r_turn, s_turn]; done)) (by decide) (by decide)
        · refine z_iconst (pc := 43) (v := nI 1) C dX11_turn_43 (by decide) ?_
          refine z_goto (pc := 44) (tgt := 48) C dX11_turn_44 (by decide) ?_
          refine z_istore_n (pc := 48) C dX11_turn_48 (by rw [hE]; decide) ?_
          first | refine z_aload_n (pc := 49) C dX11_turn_49 rfl ?_ | refine z_aload_nN (pc := 49) C dX11_turn_49 rfl ?_
          refine z_getf (pc := 50) C dX11_turn_50 zf_X11_46_10 rfl rfl ?_
          refine z_iload_n (pc := 53) C dX11_turn_53 rfl ?_
          refine z_iload_n (pc := 54) C dX11_turn_54 rfl ?_
          refine z_iconst (pc := 55) (v := nI 1) C dX11_turn_55 (by decide) ?_
          first | with_reducible refine z_icmp_neX (pc := 56) (tgt := 63) C dX11_turn_56 (by decide) (by omega) (by omega) (fun h56 => ?_) (fun h56 => ?_) | refine z_icmp_ne (pc := 56) (tgt := 63) C dX11_turn_56 (by decide) (fun h56 => ?_) (fun h56 => ?_)
          · refine z_iconst (pc := 63) (v := nI 0) C dX11_turn_63 (by decide) ?_
            refine z_zast (pc := 64) (N := 10) C dX11_turn_64 rfl (by decide) (by omega) (by decide) (hp_m 12 (by decide) hn (by decide)) ?_
            refine z_iload_n (pc := 65) C dX11_turn_65 rfl ?_
            exact z_iret (pc := 66) C hQ dX11_turn_66 (by clear hQ C hE; first | rfl | (simp [r_turn, s_turn, h5, h16, h28, h40, h56]; done) | (simp_all [r_turn, s_turn]; done)) (by clear hQ C hE; first | rfl | (simp [r_turn, s_turn, h5, h16, h28, h40, h56]; done) | (simp_all [r_turn, s_turn]; done)) (by clear hQ C hE; first | rfl | (simp [r_turn, s_turn, h5, h16, h28, h40, h56]; done) | (simp_all [r_turn, s_turn]; done)) (by decide) (by decide)
          · refine z_iconst (pc := 59) (v := nI 1) C dX11_turn_59 (by decide) ?_
            refine z_goto (pc := 60) (tgt := 64) C dX11_turn_60 (by decide) ?_
            refine z_zast (pc := 64) (N := 10) C dX11_turn_64 rfl (by decide) (by omega) (by decide) (hp_m 12 (by decide) hn (by decide)) ?_
            refine z_iload_n (pc := 65) C dX11_turn_65 rfl ?_
            exact z_iret (pc := 66) C hQ dX11_turn_66 (by clear hQ C hE; first | rfl | (simp [r_turn, s_turn, h5, h16, h28, h40, h56]; done) | (simp_all [r_turn, s_turn]; done)) (by clear hQ C hE; first | rfl | (simp [r_turn, s_turn, h5, h16, h28, h40, h56]; done) | (simp_all [r_turn, s_turn]; done)) (by clear hQ C hE; first | rfl | (simp [r_turn, s_turn, h5, h16, h28, h40, h56]; done) | (simp_all [r_turn, s_turn]; done)) (by decide) (by decide)
      · refine z_bipush (pc := 31) (v := (-2)) C dX11_turn_31 (by decide) ?_
        exact z_iret (pc := 33) C hQ dX11_turn_33 (by clear hQ C hE; first | rfl | (simp [r_turn, s_turn, h5, h16, h28]; done) | (simp_all [r_turn, s_turn]; done)) (by clear hQ C hE; first | rfl | (simp [r_turn, s_turn, h5, h16, h28]; done) | (simp_all [r_turn, s_turn]; done)) (by clear hQ C hE; first | rfl | (simp [r_turn, s_turn, h5, h16, h28]; done) | (simp_all [r_turn, s_turn]; done)) (by decide) (by decide)
    · refine z_bipush (pc := 19) (v := (-3)) C dX11_turn_19 (by decide) ?_
      exact z_iret (pc := 21) C hQ dX11_turn_21 (by clear hQ C hE; first | rfl | (simp [r_turn, s_turn, h5, h16]; done) | (simp_all [r_turn, s_turn]; done)) (by clear hQ C hE; first | rfl | (simp [r_turn, s_turn, h5, h16]; done) | (simp_all [r_turn, s_turn]; done)) (by clear hQ C hE; first | rfl | (simp [r_turn, s_turn, h5, h16]; done) | (simp_all [r_turn, s_turn]; done)) (by decide) (by decide)
  · exact absurd h0 h5
set_option maxHeartbeats 4000000 in
set_option maxRecDepth 100000 in
theorem ct_X11_ledBack_n (l : Launch) (Ω : OmT) (σ : Sg) (hw : MW σ) (u v a b : Int32) (hu : ¬ isU σ.2.2.2 u) : ZM l Ω yX11_ledBack cX11_ledBack 5 (some .long) rm_X11_ledBack [rfO Ω 6, .int u, .int v, .int a, .int b] (hp Ω σ) (hN σ) (some (.long (-9223372036854775808))) (hp Ω σ) (hN σ) := by
  refine ZM_of (by decide) (Nat.le_of_ble_eq_true rfl) (fun E hE C hQ => ?_)
  first | refine z_aload_n (pc := 0) C dX11_ledBack_0 rfl ?_ | refine z_aload_nN (pc := 0) C dX11_ledBack_0 rfl ?_
  refine z_iload_n (pc := 1) C dX11_ledBack_1 rfl ?_
  refine z_callV (pc := 2) (ci := 10) C dX11_ledBack_2 zy_X11_isUnit kw_692 kw_693 rfl kw_842 rfl (ct_X11_isUnit l Ω σ hw u) rfl rfl ⟨⟨by decide, by decide⟩, by decide, by decide⟩ (Nat.le_of_ble_eq_true rfl) ?_; dsimp only [Option.toList_some, List.cons_append, List.nil_append]
  -- at 5: ifeq 
  refine z_ifeqB (pc := 5) (tgt := 46) C dX11_ledBack_5 (by decide) (fun h5 => ?_) (fun h5 => absurd h5 hu)
  refine z_ldc2 (pc := 46) (v := -9223372036854775808) C dX11_ledBack_46 kw_795 ?_
  -- at 49: lreturn 
  exact z_lret (pc := 49) C hQ dX11_ledBack_49 rfl rfl rfl (by decide) (by decide)
set_option maxHeartbeats 4000000 in
set_option maxRecDepth 100000 in
theorem ct_X11_ledBack (l : Launch) (Ω : OmT) (σ : Sg) (hw : MW σ) (k : Nat) (hk : k < σ.2.2.2) (u a b : Int32) : ZM l Ω yX11_ledBack cX11_ledBack 5 (some .long) rm_X11_ledBack [rfO Ω 6, .int (nI k), .int u, .int a, .int b] (hp Ω σ) (hN σ) (some (.long (r_ledBack σ k u a b))) (hp Ω σ) (hN σ) := by
  refine ZM_of (by decide) (Nat.le_of_ble_eq_true rfl) (fun E hE C hQ => ?_)
  have hn := hw.1
  have h0 : isU σ.2.2.2 (nI k) := isU_nI (by omega) hk
  obtain ⟨e1, e2⟩ := hw.2.2 k hk
  first | refine z_aload_n (pc := 0) C dX11_ledBack_0 rfl ?_ | refine z_aload_nN (pc := 0) C dX11_ledBack_0 rfl ?_
  refine z_iload_n (pc := 1) C dX11_ledBack_1 rfl ?_
  refine z_callV (pc := 2) (ci := 10) C dX11_ledBack_2 zy_X11_isUnit kw_692 kw_693 rfl kw_842 rfl (ct_X11_isUnit l Ω σ hw _) rfl rfl ⟨⟨by decide, by decide⟩, by decide, by decide⟩ (Nat.le_of_ble_eq_true rfl) ?_; dsimp only [Option.toList_some, List.cons_append, List.nil_append]
  refine z_ifeqB (pc := 5) (tgt := 46) C dX11_ledBack_5 (by decide) (fun h5 => ?_) (fun h5 => ?_)
  · exact absurd h0 h5
  · first | refine z_aload_n (pc := 8) C dX11_ledBack_8 rfl ?_ | refine z_aload_nN (pc := 8) C dX11_ledBack_8 rfl ?_
    refine z_iload_n (pc := 9) C dX11_ledBack_9 rfl ?_
    refine z_callV (pc := 10) (ci := 10) C dX11_ledBack_10 zy_X11_isUnit kw_692 kw_693 rfl kw_842 rfl (ct_X11_isUnit l Ω σ hw _) rfl rfl ⟨⟨by decide, by decide⟩, by decide, by decide⟩ (Nat.le_of_ble_eq_true rfl) ?_; dsimp only [Option.toList_some, List.cons_append, List.nil_append]
    refine z_ifeqB (pc := 13) (tgt := 46) C dX11_ledBack_13 (by decide) (fun h13 => ?_) (fun h13 => ?_)
    · refine z_ldc2 (pc := 46) (v := -9223372036854775808) C dX11_ledBack_46 kw_795 ?_
      exact z_lret (pc := 49) C hQ dX11_ledBack_49 (by clear hQ C hE; first | rfl | (simp [r_ledBack, h5, h13]; done) | (simp_all [r_ledBack]; done)) (by clear hQ C hE; first | rfl | (simp [r_ledBack, h5, h13]; done) | (simp_all [r_ledBack]; done)) (by clear hQ C hE; first | rfl | (simp [r_ledBack, h5, h13]; done) | (simp_all [r_ledBack]; done)) (by decide) (by decide)
    · obtain ⟨q, hq, rfl⟩ := isU_of (by omega) h13
      have tq := tn_nI (show q < 2147483648 by omega)
      first | refine z_aload_n (pc := 16) C dX11_ledBack_16 rfl ?_ | refine z_aload_nN (pc := 16) C dX11_ledBack_16 rfl ?_
      refine z_getf (pc := 17) C dX11_ledBack_17 zf_X11_9_10 rfl rfl ?_
      refine z_iload_n (pc := 20) C dX11_ledBack_20 rfl ?_
      refine z_iald (pc := 21) (N := 10) C dX11_ledBack_21 rfl (by omega) (by decide) rfl ?_; rw [e1]
      refine z_bipush (pc := 22) (v := nI 7) C dX11_ledBack_22 (by decide) ?_
      first | with_reducible refine z_icmp_neX (pc := 24) (tgt := 46) C dX11_ledBack_24 (by decide) (by omega) (by omega) (fun h24 => ?_) (fun h24 => ?_) | refine z_icmp_ne (pc := 24) (tgt := 46) C dX11_ledBack_24 (by decide) (fun h24 => ?_) (fun h24 => ?_)
      · refine z_ldc2 (pc := 46) (v := -9223372036854775808) C dX11_ledBack_46 kw_795 ?_
        exact z_lret (pc := 49) C hQ dX11_ledBack_49 (by clear hQ C hE; first | rfl | (simp [r_ledBack, h5, h13, tq, h24]; done) | (simp_all [r_ledBack]; done)) (by clear hQ C hE; first | rfl | (simp [r_ledBack, h5, h13, tq, h24]; done) | (simp_all [r_ledBack]; done)) (by clear hQ C hE; first | rfl | (simp [r_ledBack, h5, h13, tq, h24]; done) | (simp_all [r_ledBack]; done)) (by decide) (by decide)
      · refine z_iload_n (pc := 27) C dX11_ledBack_27 rfl ?_
        refine z_iconst (pc := 28) (v := nI 0) C dX11_ledBack_28 (by decide) ?_
        refine z_iconst (pc := 29) (v := nI 3) C dX11_ledBack_29 (by decide) ?_
        refine z_callS (pc := 30) C dX11_ledBack_30 zy_X11_isIn kw_685 kw_686 (ct_X11_isIn l Ω _ _ _ _ _) rfl rfl ⟨⟨by decide, by decide⟩, by decide, by decide⟩ (Nat.le_of_ble_eq_true rfl) ?_; dsimp only [Option.toList_some, List.cons_append, List.nil_append]
        refine z_ifeqB (pc := 33) (tgt := 46) C dX11_ledBack_33 (by decide) (fun h33 => ?_) (fun h33 => ?_)
        · refine z_ldc2 (pc := 46) (v := -9223372036854775808) C dX11_ledBack_46 kw_795 ?_
          exact z_lret (pc := 49) C hQ dX11_ledBack_49 (by clear hQ C hE; first | rfl | (simp [r_ledBack, h5, h13, tq, h24, h33]; done) | (simp_all [r_ledBack]; done)) (by clear hQ C hE; first | rfl | (simp [r_ledBack, h5, h13, tq, h24, h33]; done) | (simp_all [r_ledBack]; done)) (by clear hQ C hE; first | rfl | (simp [r_ledBack, h5, h13, tq, h24, h33]; done) | (simp_all [r_ledBack]; done)) (by decide) (by decide)
        · obtain ⟨p, -, hp1, rfl⟩ := inR_of (by decide) (by decide) h33
          have tp := tn_nI (show p < 2147483648 by omega)
          refine z_iload (pc := 36) C dX11_ledBack_36 rfl ?_
          refine z_iconst (pc := 38) (v := nI 0) C dX11_ledBack_38 (by decide) ?_
          refine z_iconst (pc := 39) (v := nI 1) C dX11_ledBack_39 (by decide) ?_
          refine z_callS (pc := 40) C dX11_ledBack_40 zy_X11_isIn kw_685 kw_686 (ct_X11_isIn l Ω _ _ _ _ _) rfl rfl ⟨⟨by decide, by decide⟩, by decide, by decide⟩ (Nat.le_of_ble_eq_true rfl) ?_; dsimp only [Option.toList_some, List.cons_append, List.nil_append]
          refine z_ifneB (pc := 43) (tgt := 50) C dX11_ledBack_43 (by decide) (fun h43 => ?_) (fun h43 => ?_)
          · obtain ⟨r, -, hr1, rfl⟩ := inR_of (by decide) (by decide) h43
            have tr := tn_nI (show r < 2147483648 by omega)
            first | refine z_aload_n (pc := 50) C dX11_ledBack_50 rfl ?_ | refine z_aload_nN (pc := 50) C dX11_ledBack_50 rfl ?_
            refine z_getf (pc := 51) C dX11_ledBack_51 zf_X11_75_10 rfl rfl ?_
            refine z_bipush (pc := 54) (v := nI 10) C dX11_ledBack_54 (by decide) ?_
            refine z_iload_n (pc := 56) C dX11_ledBack_56 rfl ?_
            first | with_reducible refine z_imulN (pc := 57) C dX11_ledBack_57 ?_ | refine z_imul (pc := 57) C dX11_ledBack_57 ?_
            refine z_iload_n (pc := 58) C dX11_ledBack_58 rfl ?_
            first | with_reducible refine z_iaddN (pc := 59) C dX11_ledBack_59 ?_ | refine z_iadd (pc := 59) C dX11_ledBack_59 ?_
            refine z_bipush (pc := 60) (v := nI 8) C dX11_ledBack_60 (by decide) ?_
            first | with_reducible refine z_imulN (pc := 62) C dX11_ledBack_62 ?_ | refine z_imul (pc := 62) C dX11_ledBack_62 ?_
            refine z_iconst (pc := 63) (v := nI 2) C dX11_ledBack_63 (by decide) ?_
            refine z_iload_n (pc := 64) C dX11_ledBack_64 rfl ?_
            first | with_reducible refine z_imulN (pc := 65) C dX11_ledBack_65 ?_ | refine z_imul (pc := 65) C dX11_ledBack_65 ?_
            first | with_reducible refine z_iaddN (pc := 66) C dX11_ledBack_66 ?_ | refine z_iadd (pc := 66) C dX11_ledBack_66 ?_
            refine z_iload (pc := 67) C dX11_ledBack_67 rfl ?_
            first | with_reducible refine z_iaddN (pc := 69) C dX11_ledBack_69 ?_ | refine z_iadd (pc := 69) C dX11_ledBack_69 ?_
            refine z_lald (pc := 70) (N := 800) C dX11_ledBack_70 rfl (by omega) (by decide) rfl ?_
            exact z_lret (pc := 71) C hQ dX11_ledBack_71 (by clear hQ C hE; first | rfl | (simp [r_ledBack, h5, h13, tq, h24, h33, tp, h43, tr]; done) | (simp_all [r_ledBack]; done)) (by clear hQ C hE; first | rfl | (simp [r_ledBack, h5, h13, tq, h24, h33, tp, h43, tr]; done) | (simp_all [r_ledBack]; done)) (by clear hQ C hE; first | rfl | (simp [r_ledBack, h5, h13, tq, h24, h33, tp, h43, tr]; done) | (simp_all [r_ledBack]; done)) (by decide) (by decide)
          · refine z_ldc2 (pc := 46) (v := -9223372036854775808) C dX11_ledBack_46 kw_795 ?_
            exact z_lret (pc := 49) C hQ dX11_ledBack_49 (by clear hQ C hE; first | rfl | (simp [r_ledBack, h5, h13, tq, h24, h33, tp, h43]; done) | (simp_all [r_ledBack]; done)) (by clear hQ C hE; first | rfl | (simp [r_ledBack, h5, h13, tq, h24, h33, tp, h43]; done) | (simp_all [r_ledBack]; done)) (by clear hQ C hE; first | rfl | (simp [r_ledBack, h5, h13, tq, h24, h33, tp, h43]; done) | (simp_all [r_ledBack]; done)) (by decide) (by decide)
set_option maxHeartbeats 4000000 in
set_option maxRecDepth 100000 in
theorem ct_X11_reading_n (l : Launch) (Ω : OmT) (σ : Sg) (hw : MW σ) (u w x d : Int32) (hu : ¬ isU σ.2.2.2 u) : ZM l Ω yX11_reading cX11_reading 5 (some .int) rm_X11_reading [rfO Ω 6, .int u, .int w, .int x, .int d] (hp Ω σ) (hN σ) (some (.int (-1))) (hp Ω σ) (hN σ) := by
  refine ZM_of (by decide) (Nat.le_of_ble_eq_true rfl) (fun E hE C hQ => ?_)
  first | refine z_aload_n (pc := 0) C dX11_reading_0 rfl ?_ | refine z_aload_nN (pc := 0) C dX11_reading_0 rfl ?_
  refine z_iload_n (pc := 1) C dX11_reading_1 rfl ?_
  refine z_callV (pc := 2) (ci := 10) C dX11_reading_2 zy_X11_isUnit kw_692 kw_693 rfl kw_842 rfl (ct_X11_isUnit l Ω σ hw u) rfl rfl ⟨⟨by decide, by decide⟩, by decide, by decide⟩ (Nat.le_of_ble_eq_true rfl) ?_; dsimp only [Option.toList_some, List.cons_append, List.nil_append]
  -- at 5: ifeq 
  refine z_ifeqB (pc := 5) (tgt := 17) C dX11_reading_5 (by decide) (fun h5 => ?_) (fun h5 => absurd h5 hu)
  refine z_iconst (pc := 17) (v := (-1)) C dX11_reading_17 (by decide) ?_
  -- at 18: ireturn 
  exact z_iret (pc := 18) C hQ dX11_reading_18 rfl rfl rfl (by decide) (by decide)
set_option maxHeartbeats 4000000 in
set_option maxRecDepth 100000 in
theorem ct_X11_reading (l : Launch) (Ω : OmT) (σ : Sg) (hw : MW σ) (k : Nat) (hk : k < σ.2.2.2) (w x d : Int32) : ZM l Ω yX11_reading cX11_reading 5 (some .int) rm_X11_reading [rfO Ω 6, .int (nI k), .int w, .int x, .int d] (hp Ω σ) (hN σ) (some (.int (r_reading σ k w x d))) (hp Ω (s_reading σ k w x d)) (hN σ) := by
  refine ZM_of (by decide) (Nat.le_of_ble_eq_true rfl) (fun E hE C hQ => ?_)
  have hn := hw.1
  have h0 : isU σ.2.2.2 (nI k) := isU_nI (by omega) hk
  obtain ⟨e1, e2⟩ := hw.2.2 k hk
  first | refine z_aload_n (pc := 0) C dX11_reading_0 rfl ?_ | refine z_aload_nN (pc := 0) C dX11_reading_0 rfl ?_
  refine z_iload_n (pc := 1) C dX11_reading_1 rfl ?_
  refine z_callV (pc := 2) (ci := 10) C dX11_reading_2 zy_X11_isUnit kw_692 kw_693 rfl kw_842 rfl (ct_X11_isUnit l Ω σ hw _) rfl rfl ⟨⟨by decide, by decide⟩, by decide, by decide⟩ (Nat.le_of_ble_eq_true rfl) ?_; dsimp only [Option.toList_some, List.cons_append, List.nil_append]
  refine z_ifeqB (pc := 5) (tgt := 17) C dX11_reading_5 (by decide) (fun h5 => ?_) (fun h5 => ?_)
  · exact absurd h0 h5
  · refine z_iload_n (pc := 8) C dX11_reading_8 rfl ?_
    refine z_iconst (pc := 9) (v := nI 0) C dX11_reading_9 (by decide) ?_
    refine z_iconst (pc := 10) (v := nI 2) C dX11_reading_10 (by decide) ?_
    refine z_callS (pc := 11) C dX11_reading_11 zy_X11_isIn kw_685 kw_686 (ct_X11_isIn l Ω _ _ _ _ _) rfl rfl ⟨⟨by decide, by decide⟩, by decide, by decide⟩ (Nat.le_of_ble_eq_true rfl) ?_; dsimp only [Option.toList_some, List.cons_append, List.nil_append]
    refine z_ifneB (pc := 14) (tgt := 19) C dX11_reading_14 (by decide) (fun h14 => ?_) (fun h14 => ?_)
    · obtain ⟨p, -, hp1, rfl⟩ := inR_of (by decide) (by decide) h14
      have tp := tn_nI (show p < 2147483648 by omega)
      first | refine z_aload_n (pc := 19) C dX11_reading_19 rfl ?_ | refine z_aload_nN (pc := 19) C dX11_reading_19 rfl ?_
      refine z_iload_n (pc := 20) C dX11_reading_20 rfl ?_
      refine z_callV (pc := 21) (ci := 10) C dX11_reading_21 zy_X11_isRead kw_807 kw_808 rfl kw_862 rfl (ct_X11_isRead l Ω σ hw k hk) rfl rfl ⟨⟨by decide, by decide⟩, by decide, by decide⟩ (Nat.le_of_ble_eq_true rfl) ?_; dsimp only [Option.toList_some, List.cons_append, List.nil_append]
      refine z_ifneB (pc := 24) (tgt := 30) C dX11_reading_24 (by decide) (fun h24 => ?_) (fun h24 => ?_)
      · refine z_iload_n (pc := 30) C dX11_reading_30 rfl ?_
        first | refine z_aload_n (pc := 31) C dX11_reading_31 rfl ?_ | refine z_aload_nN (pc := 31) C dX11_reading_31 rfl ?_
        refine z_iload_n (pc := 32) C dX11_reading_32 rfl ?_
        refine z_callV (pc := 33) (ci := 10) C dX11_reading_33 zy_X11_ports kw_695 kw_696 rfl kw_843 rfl (ct_X11_ports l Ω σ hw k hk) rfl rfl ⟨⟨by decide, by decide⟩, by decide, by decide⟩ (Nat.le_of_ble_eq_true rfl) ?_; dsimp only [Option.toList_some, List.cons_append, List.nil_append]
        refine z_icmp_le (pc := 36) (tgt := 41) C dX11_reading_36 (by decide) (fun h36 => ?_) (fun h36 => ?_)
        · refine z_iload_n (pc := 41) C dX11_reading_41 rfl ?_
          refine z_iconst (pc := 42) (v := nI 0) C dX11_reading_42 (by decide) ?_
          refine z_ldc (pc := 43) (v := nI 100000) C dX11_reading_43 kw_724 ?_
          refine z_callS (pc := 45) C dX11_reading_45 zy_X11_isIn kw_685 kw_686 (ct_X11_isIn l Ω _ _ _ _ _) rfl rfl ⟨⟨by decide, by decide⟩, by decide, by decide⟩ (Nat.le_of_ble_eq_true rfl) ?_; dsimp only [Option.toList_some, List.cons_append, List.nil_append]
          refine z_ifeqB (pc := 48) (tgt := 62) C dX11_reading_48 (by decide) (fun h48 => ?_) (fun h48 => ?_)
          · refine z_bipush (pc := 62) (v := (-2)) C dX11_reading_62 (by decide) ?_
            exact z_iret (pc := 64) C hQ dX11_reading_64 (by clear hQ C hE; first | rfl | (simp [r_reading, s_reading, h5, h14, tp, h24, h36, h48]; done) | (simp_all [r_reading, s_reading]; done)) (by clear hQ C hE; first | rfl | (simp [r_reading, s_reading, h5, h14, tp, h24, h36, h48]; done) | (simp_all [r_reading, s_reading]; done)) (by clear hQ C hE; first | rfl | (simp [r_reading, s_reading, h5, h14, tp, h24, h36, h48]; done) | (simp_all [r_reading, s_reading]; done)) (by decide) (by decide)
          · refine z_iload (pc := 51) C dX11_reading_51 rfl ?_
            refine z_iconst (pc := 53) (v := nI 1) C dX11_reading_53 (by decide) ?_
            refine z_bipush (pc := 54) (v := nI 100) C dX11_reading_54 (by decide) ?_
            refine z_callS (pc := 56) C dX11_reading_56 zy_X11_isIn kw_685 kw_686 (ct_X11_isIn l Ω _ _ _ _ _) rfl rfl ⟨⟨by decide, by decide⟩, by decide, by decide⟩ (Nat.le_of_ble_eq_true rfl) ?_; dsimp only [Option.toList_some, List.cons_append, List.nil_append]
            refine z_ifneB (pc := 59) (tgt := 65) C dX11_reading_59 (by decide) (fun h59 => ?_) (fun h59 => ?_)
            · first | refine z_aload_n (pc := 65) C dX11_reading_65 rfl ?_ | refine z_aload_nN (pc := 65) C dX11_reading_65 rfl ?_
              refine z_getf (pc := 66) C dX11_reading_66 zf_X11_78_10 rfl rfl ?_
              refine z_iconst (pc := 69) (v := nI 3) C dX11_reading_69 (by decide) ?_
              refine z_iload_n (pc := 70) C dX11_reading_70 rfl ?_
              first | with_reducible refine z_imulN (pc := 71) C dX11_reading_71 ?_ | refine z_imul (pc := 71) C dX11_reading_71 ?_
              refine z_iload_n (pc := 72) C dX11_reading_72 rfl ?_
              first | with_reducible refine z_iaddN (pc := 73) C dX11_reading_73 ?_ | refine z_iadd (pc := 73) C dX11_reading_73 ?_
              refine z_iload_n (pc := 74) C dX11_reading_74 rfl ?_
              refine z_iast (pc := 75) (N := 30) C dX11_reading_75 rfl (by omega) (by decide) (hp_m 22 (by decide) hn (by decide)) ?_
              first | refine z_aload_n (pc := 76) C dX11_reading_76 rfl ?_ | refine z_aload_nN (pc := 76) C dX11_reading_76 rfl ?_
              refine z_getf (pc := 77) C dX11_reading_77 zf_X11_81_10 rfl rfl ?_
              refine z_iconst (pc := 80) (v := nI 3) C dX11_reading_80 (by decide) ?_
              refine z_iload_n (pc := 81) C dX11_reading_81 rfl ?_
              first | with_reducible refine z_imulN (pc := 82) C dX11_reading_82 ?_ | refine z_imul (pc := 82) C dX11_reading_82 ?_
              refine z_iload_n (pc := 83) C dX11_reading_83 rfl ?_
              first | with_reducible refine z_iaddN (pc := 84) C dX11_reading_84 ?_ | refine z_iadd (pc := 84) C dX11_reading_84 ?_
              refine z_iload (pc := 85) C dX11_reading_85 rfl ?_
              refine z_iast (pc := 87) (N := 30) C dX11_reading_87 rfl (by omega) (by decide) (hp_m 23 (by decide) hn (by decide)) ?_
              refine z_iconst (pc := 88) (v := nI 0) C dX11_reading_88 (by decide) ?_
              exact z_iret (pc := 89) C hQ dX11_reading_89 (by clear hQ C hE; first | rfl | (simp [r_reading, s_reading, h5, h14, tp, h24, h36, h48, h59]; done) | (simp_all [r_reading, s_reading]; done)) (by clear hQ C hE; first | rfl | (simp [r_reading, s_reading, h5, h14, tp, h24, h36, h48, h59]; done) | (simp_all [r_reading, s_reading]; done)) (by clear hQ C hE; first | rfl | (simp [r_reading, s_reading, h5, h14, tp, h24, h36, h48, h59]; done) | (simp_all [r_reading, s_reading]; done)) (by decide) (by decide)
            · refine z_bipush (pc := 62) (v := (-2)) C dX11_reading_62 (by decide) ?_
              exact z_iret (pc := 64) C hQ dX11_reading_64 (by clear hQ C hE; first | rfl | (simp [r_reading, s_reading, h5, h14, tp, h24, h36, h48, h59]; done) | (simp_all [r_reading, s_reading]; done)) (by clear hQ C hE; first | rfl | (simp [r_reading, s_reading, h5, h14, tp, h24, h36, h48, h59]; done) | (simp_all [r_reading, s_reading]; done)) (by clear hQ C hE; first | rfl | (simp [r_reading, s_reading, h5, h14, tp, h24, h36, h48, h59]; done) | (simp_all [r_reading, s_reading]; done)) (by decide) (by decide)
        · refine z_iconst (pc := 39) (v := (-1)) C dX11_reading_39 (by decide) ?_
          exact z_iret (pc := 40) C hQ dX11_reading_40 (by clear hQ C hE; first | rfl | (simp [r_reading, s_reading, h5, h14, tp, h24, h36]; done) | (simp_all [r_reading, s_reading]; done)) (by clear hQ C hE; first | rfl | (simp [r_reading, s_reading, h5, h14, tp, h24, h36]; done) | (simp_all [r_reading, s_reading]; done)) (by clear hQ C hE; first | rfl | (simp [r_reading, s_reading, h5, h14, tp, h24, h36]; done) | (simp_all [r_reading, s_reading]; done)) (by decide) (by decide)
      · refine z_bipush (pc := 27) (v := (-3)) C dX11_reading_27 (by decide) ?_
        exact z_iret (pc := 29) C hQ dX11_reading_29 (by clear hQ C hE; first | rfl | (simp [r_reading, s_reading, h5, h14, tp, h24]; done) | (simp_all [r_reading, s_reading]; done)) (by clear hQ C hE; first | rfl | (simp [r_reading, s_reading, h5, h14, tp, h24]; done) | (simp_all [r_reading, s_reading]; done)) (by clear hQ C hE; first | rfl | (simp [r_reading, s_reading, h5, h14, tp, h24]; done) | (simp_all [r_reading, s_reading]; done)) (by decide) (by decide)
    · refine z_iconst (pc := 17) (v := (-1)) C dX11_reading_17 (by decide) ?_
      exact z_iret (pc := 18) C hQ dX11_reading_18 (by clear hQ C hE; first | rfl | (simp [r_reading, s_reading, h5, h14]; done) | (simp_all [r_reading, s_reading]; done)) (by clear hQ C hE; first | rfl | (simp [r_reading, s_reading, h5, h14]; done) | (simp_all [r_reading, s_reading]; done)) (by clear hQ C hE; first | rfl | (simp [r_reading, s_reading, h5, h14]; done) | (simp_all [r_reading, s_reading]; done)) (by decide) (by decide)
set_option maxHeartbeats 4000000 in
set_option maxRecDepth 100000 in
theorem ct_X11_unload (l : Launch) (Ω : OmT) (σ : Sg) (hn : σ.2.2.2 ≤ 10) : ZM l Ω yX11_unload cX11_unload 2 (some .int) rm_X11_unload [rfO Ω 6] (hp Ω σ) (hN σ) (some (.int (σ.1 11 30 2))) (hp Ω (sI σ 11 30 2 (nI 0))) (hN σ) := by
  refine ZM_of (by decide) (Nat.le_of_ble_eq_true rfl) (fun E hE C hQ => ?_)
  first | refine z_aload_n (pc := 0) C dX11_unload_0 rfl ?_ | refine z_aload_nN (pc := 0) C dX11_unload_0 rfl ?_
  refine z_getf (pc := 1) C dX11_unload_1 zf_X11_189_10 rfl rfl ?_
  refine z_istore_n (pc := 4) C dX11_unload_4 (by rw [hE]; decide) ?_
  first | refine z_aload_n (pc := 5) C dX11_unload_5 rfl ?_ | refine z_aload_nN (pc := 5) C dX11_unload_5 rfl ?_
  refine z_iconst (pc := 6) (v := nI 0) C dX11_unload_6 (by decide) ?_
  refine z_putfI (pc := 7) C dX11_unload_7 zp_X11_189_10 rfl (Nat.le_of_ble_eq_true rfl) (hp_mf 2 (by decide) hn) ?_
  refine z_iload_n (pc := 10) C dX11_unload_10 rfl ?_
  -- at 11: ireturn 
  exact z_iret (pc := 11) C hQ dX11_unload_11 rfl rfl rfl (by decide) (by decide)
set_option maxHeartbeats 4000000 in
set_option maxRecDepth 100000 in
theorem ct_X11_load (l : Launch) (Ω : OmT) (σ : Sg) (L : Nat) (hn : σ.2.2.2 ≤ 10) (hL : L ≤ 10) (eL : σ.1 11 30 2 = nI L) (w g q : Int32) : ZM l Ω yX11_load cX11_load 4 (some .int) rm_X11_load [rfO Ω 6, .int w, .int g, .int q] (hp Ω σ) (hN σ) (some (.int (r_load L w g q))) (hp Ω (s_load σ L w g q)) (hN σ) := by
  refine ZM_of (by decide) (Nat.le_of_ble_eq_true rfl) (fun E hE C hQ => ?_)
  have tl : inR 1 1000 w → inR 0 100 g → inR 0 1000 q → ZV l Ω E 0 0 35 [(0, rfO Ω 6), (1, .int w), (2, .int g), (3, .int q)] [] (hp Ω σ) (hN σ) := by
    intro h1 h2 h3
    first | refine z_aload_n (pc := 35) C dX11_load_35 rfl ?_ | refine z_aload_nN (pc := 35) C dX11_load_35 rfl ?_
    refine z_getf (pc := 36) C dX11_load_36 zf_X11_189_10 rfl rfl ?_; rw [eL]
    refine z_bipush (pc := 39) (v := nI 10) C dX11_load_39 (by decide) ?_
    -- at 41: if_icmpne 
    refine z_icmp_neX (pc := 41) (tgt := 47) C dX11_load_41 (by decide) (by omega) (by decide) (fun h41 => ?_) (fun h41 => ?_)
    · first | refine z_aload_n (pc := 47) C dX11_load_47 rfl ?_ | refine z_aload_nN (pc := 47) C dX11_load_47 rfl ?_
      refine z_getf (pc := 48) C dX11_load_48 zf_X11_84_10 rfl rfl ?_
      first | refine z_aload_n (pc := 51) C dX11_load_51 rfl ?_ | refine z_aload_nN (pc := 51) C dX11_load_51 rfl ?_
      refine z_getf (pc := 52) C dX11_load_52 zf_X11_189_10 rfl rfl ?_; refine z_top (v' := .int (nI L)) (by simp [sI, eL]) ?_
      refine z_iload_n (pc := 55) C dX11_load_55 rfl ?_
      refine z_iast (pc := 56) (N := 10) C dX11_load_56 rfl (by omega) (by decide) (hp_m 24 (by decide) hn (by decide)) ?_
      first | refine z_aload_n (pc := 57) C dX11_load_57 rfl ?_ | refine z_aload_nN (pc := 57) C dX11_load_57 rfl ?_
      refine z_getf (pc := 58) C dX11_load_58 zf_X11_87_10 rfl rfl ?_
      first | refine z_aload_n (pc := 61) C dX11_load_61 rfl ?_ | refine z_aload_nN (pc := 61) C dX11_load_61 rfl ?_
      refine z_getf (pc := 62) C dX11_load_62 zf_X11_189_10 rfl rfl ?_; refine z_top (v' := .int (nI L)) (by simp [sI, eL]) ?_
      refine z_iload_n (pc := 65) C dX11_load_65 rfl ?_
      refine z_iast (pc := 66) (N := 10) C dX11_load_66 rfl (by omega) (by decide) (hp_m 25 (by decide) hn (by decide)) ?_
      first | refine z_aload_n (pc := 67) C dX11_load_67 rfl ?_ | refine z_aload_nN (pc := 67) C dX11_load_67 rfl ?_
      refine z_getf (pc := 68) C dX11_load_68 zf_X11_90_10 rfl rfl ?_
      first | refine z_aload_n (pc := 71) C dX11_load_71 rfl ?_ | refine z_aload_nN (pc := 71) C dX11_load_71 rfl ?_
      refine z_getf (pc := 72) C dX11_load_72 zf_X11_189_10 rfl rfl ?_; refine z_top (v' := .int (nI L)) (by simp [sI, eL]) ?_
      refine z_iload_n (pc := 75) C dX11_load_75 rfl ?_
      refine z_iast (pc := 76) (N := 10) C dX11_load_76 rfl (by omega) (by decide) (hp_m 26 (by decide) hn (by decide)) ?_
      first | refine z_aload_n (pc := 77) C dX11_load_77 rfl ?_ | refine z_aload_nN (pc := 77) C dX11_load_77 rfl ?_
      refine z_dup (pc := 78) C dX11_load_78 rfl ?_
      refine z_getf (pc := 79) C dX11_load_79 zf_X11_189_10 rfl rfl ?_; refine z_top (v' := .int (nI L)) (by simp [sI, eL]) ?_
      refine z_iconst (pc := 82) (v := nI 1) C dX11_load_82 (by decide) ?_
      first | with_reducible refine z_iaddN (pc := 83) C dX11_load_83 ?_ | refine z_iadd (pc := 83) C dX11_load_83 ?_
      refine z_putfI (pc := 84) C dX11_load_84 zp_X11_189_10 rfl (Nat.le_of_ble_eq_true rfl) (hp_mf 2 (by decide) hn) ?_
      -- at 87: aload_0 
      first | refine z_aload_n (pc := 87) C dX11_load_87 rfl ?_ | refine z_aload_nN (pc := 87) C dX11_load_87 rfl ?_
      refine z_getf (pc := 88) C dX11_load_88 zf_X11_189_10 rfl rfl ?_; refine z_top (v' := .int (nI (L + 1))) (by simp [sI]) ?_
      refine z_iconst (pc := 91) (v := nI 1) C dX11_load_91 (by decide) ?_
      first | with_reducible refine z_isubN (pc := 92) C dX11_load_92 (by omega) ?_ | refine z_isub (pc := 92) C dX11_load_92 ?_
      -- at 93: ireturn 
      exact z_iret (pc := 93) C hQ dX11_load_93 (by simp [r_load, h1, h2, h3, h41]) (by simp [s_load, h1, h2, h3, h41]) rfl (by decide) (by decide)
    · refine z_bipush (pc := 44) (v := (-4)) C dX11_load_44 (by decide) ?_
      -- at 46: ireturn 
      exact z_iret (pc := 46) C hQ dX11_load_46 (by simp [r_load, h1, h2, h3, h41]) (by simp [s_load, h1, h2, h3, h41]) rfl (by decide) (by decide)
  refine z_iload_n (pc := 0) C dX11_load_0 rfl ?_
  refine z_iconst (pc := 1) (v := nI 1) C dX11_load_1 (by decide) ?_
  refine z_sipush (pc := 2) (v := nI 1000) C dX11_load_2 (by decide) ?_
  refine z_callS (pc := 5) C dX11_load_5 zy_X11_isIn kw_685 kw_686 (ct_X11_isIn l Ω _ _ _ _ _) rfl rfl ⟨⟨by decide, by decide⟩, by decide, by decide⟩ (Nat.le_of_ble_eq_true rfl) ?_; dsimp only [Option.toList_some, List.cons_append, List.nil_append]
  refine z_ifeqB (pc := 8) (tgt := 32) C dX11_load_8 (by decide) (fun h8 => ?_) (fun h8 => ?_)
  · refine z_bipush (pc := 32) (v := (-2)) C dX11_load_32 (by decide) ?_
    exact z_iret (pc := 34) C hQ dX11_load_34 (by clear hQ C hE; first | rfl | (simp [r_load, s_load, h8]; done) | (simp_all [r_load, s_load]; done)) (by clear hQ C hE; first | rfl | (simp [r_load, s_load, h8]; done) | (simp_all [r_load, s_load]; done)) (by clear hQ C hE; first | rfl | (simp [r_load, s_load, h8]; done) | (simp_all [r_load, s_load]; done)) (by decide) (by decide)
  · refine z_iload_n (pc := 11) C dX11_load_11 rfl ?_
    refine z_iconst (pc := 12) (v := nI 0) C dX11_load_12 (by decide) ?_
    refine z_bipush (pc := 13) (v := nI 100) C dX11_load_13 (by decide) ?_
    refine z_callS (pc := 15) C dX11_load_15 zy_X11_isIn kw_685 kw_686 (ct_X11_isIn l Ω _ _ _ _ _) rfl rfl ⟨⟨by decide, by decide⟩, by decide, by decide⟩ (Nat.le_of_ble_eq_true rfl) ?_; dsimp only [Option.toList_some, List.cons_append, List.nil_append]
    refine z_ifeqB (pc := 18) (tgt := 32) C dX11_load_18 (by decide) (fun h18 => ?_) (fun h18 => ?_)
    · refine z_bipush (pc := 32) (v := (-2)) C dX11_load_32 (by decide) ?_
      exact z_iret (pc := 34) C hQ dX11_load_34 (by clear hQ C hE; first | rfl | (simp [r_load, s_load, h8, h18]; done) | (simp_all [r_load, s_load]; done)) (by clear hQ C hE; first | rfl | (simp [r_load, s_load, h8, h18]; done) | (simp_all [r_load, s_load]; done)) (by clear hQ C hE; first | rfl | (simp [r_load, s_load, h8, h18]; done) | (simp_all [r_load, s_load]; done)) (by decide) (by decide)
    · refine z_iload_n (pc := 21) C dX11_load_21 rfl ?_
      refine z_iconst (pc := 22) (v := nI 0) C dX11_load_22 (by decide) ?_
      refine z_sipush (pc := 23) (v := nI 1000) C dX11_load_23 (by decide) ?_
      refine z_callS (pc := 26) C dX11_load_26 zy_X11_isIn kw_685 kw_686 (ct_X11_isIn l Ω _ _ _ _ _) rfl rfl ⟨⟨by decide, by decide⟩, by decide, by decide⟩ (Nat.le_of_ble_eq_true rfl) ?_; dsimp only [Option.toList_some, List.cons_append, List.nil_append]
      refine z_ifneB (pc := 29) (tgt := 35) C dX11_load_29 (by decide) (fun h29 => ?_) (fun h29 => ?_)
      · exact tl h8 h18 h29
      · refine z_bipush (pc := 32) (v := (-2)) C dX11_load_32 (by decide) ?_
        exact z_iret (pc := 34) C hQ dX11_load_34 (by clear hQ C hE; first | rfl | (simp [r_load, s_load, h8, h18, h29]; done) | (simp_all [r_load, s_load]; done)) (by clear hQ C hE; first | rfl | (simp [r_load, s_load, h8, h18, h29]; done) | (simp_all [r_load, s_load]; done)) (by clear hQ C hE; first | rfl | (simp [r_load, s_load, h8, h18, h29]; done) | (simp_all [r_load, s_load]; done)) (by decide) (by decide)
