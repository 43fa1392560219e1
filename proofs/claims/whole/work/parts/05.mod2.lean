set_option maxHeartbeats 4000000 in
set_option maxRecDepth 100000 in
theorem ct_X11_outAt (l : Launch) (Ω : OmT) (u p c : Nat) (A : AHp) (n : Nat) : ZM l Ω yX11_outAt cX11_outAt 4 (some .int) rm_X11_outAt [rfO Ω 6, .int (nI u), .int (nI p), .int (nI c)] (A) (n) (some (.int (nI ((2 * u + p) * 8 + c)))) (A) (n) := by
  refine ZM_of (by decide) (Nat.le_of_ble_eq_true rfl) (fun E hE C hQ => ?_)
  refine z_iconst (pc := 0) (v := nI 2) C dX11_outAt_0 (by decide) ?_
  refine z_iload_n (pc := 1) C dX11_outAt_1 rfl ?_
  first | with_reducible refine z_imulN (pc := 2) C dX11_outAt_2 ?_ | refine z_imul (pc := 2) C dX11_outAt_2 ?_
  refine z_iload_n (pc := 3) C dX11_outAt_3 rfl ?_
  first | with_reducible refine z_iaddN (pc := 4) C dX11_outAt_4 ?_ | refine z_iadd (pc := 4) C dX11_outAt_4 ?_
  refine z_bipush (pc := 5) (v := nI 8) C dX11_outAt_5 (by decide) ?_
  first | with_reducible refine z_imulN (pc := 7) C dX11_outAt_7 ?_ | refine z_imul (pc := 7) C dX11_outAt_7 ?_
  refine z_iload_n (pc := 8) C dX11_outAt_8 rfl ?_
  first | with_reducible refine z_iaddN (pc := 9) C dX11_outAt_9 ?_ | refine z_iadd (pc := 9) C dX11_outAt_9 ?_
  -- at 10: ireturn 
  exact z_iret (pc := 10) C hQ dX11_outAt_10 rfl rfl rfl (by decide) (by decide)
set_option maxHeartbeats 4000000 in
set_option maxRecDepth 100000 in
theorem ct_X11_slotAt (l : Launch) (Ω : OmT) (u p c : Nat) (A : AHp) (n : Nat) : ZM l Ω yX11_slotAt cX11_slotAt 4 (some .int) rm_X11_slotAt [rfO Ω 6, .int (nI u), .int (nI p), .int (nI c)] (A) (n) (some (.int (nI ((7 * u + p) * 8 + c)))) (A) (n) := by
  refine ZM_of (by decide) (Nat.le_of_ble_eq_true rfl) (fun E hE C hQ => ?_)
  refine z_bipush (pc := 0) (v := nI 7) C dX11_slotAt_0 (by decide) ?_
  refine z_iload_n (pc := 2) C dX11_slotAt_2 rfl ?_
  first | with_reducible refine z_imulN (pc := 3) C dX11_slotAt_3 ?_ | refine z_imul (pc := 3) C dX11_slotAt_3 ?_
  refine z_iload_n (pc := 4) C dX11_slotAt_4 rfl ?_
  first | with_reducible refine z_iaddN (pc := 5) C dX11_slotAt_5 ?_ | refine z_iadd (pc := 5) C dX11_slotAt_5 ?_
  refine z_bipush (pc := 6) (v := nI 8) C dX11_slotAt_6 (by decide) ?_
  first | with_reducible refine z_imulN (pc := 8) C dX11_slotAt_8 ?_ | refine z_imul (pc := 8) C dX11_slotAt_8 ?_
  refine z_iload_n (pc := 9) C dX11_slotAt_9 rfl ?_
  first | with_reducible refine z_iaddN (pc := 10) C dX11_slotAt_10 ?_ | refine z_iadd (pc := 10) C dX11_slotAt_10 ?_
  -- at 11: ireturn 
  exact z_iret (pc := 11) C hQ dX11_slotAt_11 rfl rfl rfl (by decide) (by decide)
set_option maxHeartbeats 4000000 in
set_option maxRecDepth 100000 in
theorem ct_X11_lotAt (l : Launch) (Ω : OmT) (u p c : Nat) (A : AHp) (n : Nat) : ZM l Ω yX11_lotAt cX11_lotAt 4 (some .int) rm_X11_lotAt [rfO Ω 6, .int (nI u), .int (nI p), .int (nI c)] (A) (n) (some (.int (nI ((20 * u + p) * 8 + c)))) (A) (n) := by
  refine ZM_of (by decide) (Nat.le_of_ble_eq_true rfl) (fun E hE C hQ => ?_)
  refine z_bipush (pc := 0) (v := nI 20) C dX11_lotAt_0 (by decide) ?_
  refine z_iload_n (pc := 2) C dX11_lotAt_2 rfl ?_
  first | with_reducible refine z_imulN (pc := 3) C dX11_lotAt_3 ?_ | refine z_imul (pc := 3) C dX11_lotAt_3 ?_
  refine z_iload_n (pc := 4) C dX11_lotAt_4 rfl ?_
  first | with_reducible refine z_iaddN (pc := 5) C dX11_lotAt_5 ?_ | refine z_iadd (pc := 5) C dX11_lotAt_5 ?_
  refine z_bipush (pc := 6) (v := nI 8) C dX11_lotAt_6 (by decide) ?_
  first | with_reducible refine z_imulN (pc := 8) C dX11_lotAt_8 ?_ | refine z_imul (pc := 8) C dX11_lotAt_8 ?_
  refine z_iload_n (pc := 9) C dX11_lotAt_9 rfl ?_
  first | with_reducible refine z_iaddN (pc := 10) C dX11_lotAt_10 ?_ | refine z_iadd (pc := 10) C dX11_lotAt_10 ?_
  -- at 11: ireturn 
  exact z_iret (pc := 11) C hQ dX11_lotAt_11 rfl rfl rfl (by decide) (by decide)
set_option maxHeartbeats 4000000 in
set_option maxRecDepth 100000 in
theorem ct_X11_isUnit (l : Launch) (Ω : OmT) (σ : Sg) (hw : MW σ) (u : Int32) : ZM l Ω yX11_isUnit cX11_isUnit 2 (some .boolean) rm_X11_isUnit [rfO Ω 6, .int u] (hp Ω σ) (hN σ) (some (.int (b01 (isU σ.2.2.2 u)))) (hp Ω σ) (hN σ) := by
  refine ZM_of (by decide) (Nat.le_of_ble_eq_true rfl) (fun E hE C hQ => ?_)
  refine z_iload_n (pc := 0) C dX11_isUnit_0 rfl ?_
  refine z_iconst (pc := 1) (v := nI 0) C dX11_isUnit_1 (by decide) ?_
  first | refine z_aload_n (pc := 2) C dX11_isUnit_2 rfl ?_ | refine z_aload_nN (pc := 2) C dX11_isUnit_2 rfl ?_
  refine z_getf (pc := 3) C dX11_isUnit_3 zf_X11_93_10 rfl rfl ?_
  -- at 6: iconst_1 
  rw [hw.2.1]
  refine z_iconst (pc := 6) (v := nI 1) C dX11_isUnit_6 (by decide) ?_
  first | with_reducible refine z_isubN (pc := 7) C dX11_isUnit_7 (by omega) ?_ | refine z_isub (pc := 7) C dX11_isUnit_7 ?_
  refine z_callS (pc := 8) C dX11_isUnit_8 zy_X11_isIn kw_685 kw_686 (ct_X11_isIn l Ω _ _ _ _ _) rfl rfl ⟨⟨by decide, by decide⟩, by decide, by decide⟩ (Nat.le_of_ble_eq_true rfl) ?_; dsimp only [Option.toList_some, List.cons_append, List.nil_append]
  -- at 11: ireturn 
  exact z_zret (pc := 11) C hQ dX11_isUnit_11 (b01_nar _) rfl rfl rfl (by decide) (by decide)
set_option maxHeartbeats 4000000 in
set_option maxRecDepth 100000 in
theorem ct_X11_ports (l : Launch) (Ω : OmT) (σ : Sg) (hw : MW σ) (k : Nat) (hk : k < σ.2.2.2) : ZM l Ω yX11_ports cX11_ports 2 (some .int) rm_X11_ports [rfO Ω 6, .int (nI k)] (hp Ω σ) (hN σ) (some (.int (nI (upt (σ.2.2.1 k))))) (hp Ω σ) (hN σ) := by
  refine ZM_of (by decide) (Nat.le_of_ble_eq_true rfl) (fun E hE C hQ => ?_)
  have h10 := hw.1
  obtain ⟨e1, e2⟩ := hw.2.2 k hk
  first | refine z_aload_n (pc := 0) C dX11_ports_0 rfl ?_ | refine z_aload_nN (pc := 0) C dX11_ports_0 rfl ?_
  refine z_getf (pc := 1) C dX11_ports_1 zf_X11_9_10 rfl rfl ?_
  refine z_iload_n (pc := 4) C dX11_ports_4 rfl ?_
  refine z_iald (pc := 5) (N := 10) C dX11_ports_5 rfl (by omega) (by decide) rfl ?_; rw [e1]
  refine z_bipush (pc := 6) (v := nI 7) C dX11_ports_6 (by decide) ?_
  first | with_reducible refine z_icmp_neX (pc := 8) (tgt := 15) C dX11_ports_8 (by decide) (by omega) (by omega) (fun h8 => ?_) (fun h8 => ?_) | refine z_icmp_ne (pc := 8) (tgt := 15) C dX11_ports_8 (by decide) (fun h8 => ?_) (fun h8 => ?_)
  · first | refine z_aload_n (pc := 15) C dX11_ports_15 rfl ?_ | refine z_aload_nN (pc := 15) C dX11_ports_15 rfl ?_
    refine z_getf (pc := 16) C dX11_ports_16 zf_X11_9_10 rfl rfl ?_
    refine z_iload_n (pc := 19) C dX11_ports_19 rfl ?_
    refine z_iald (pc := 20) (N := 10) C dX11_ports_20 rfl (by omega) (by decide) rfl ?_; rw [e1]
    refine z_iconst (pc := 21) (v := nI 3) C dX11_ports_21 (by decide) ?_
    first | with_reducible refine z_icmp_eqX (pc := 22) (tgt := 35) C dX11_ports_22 (by decide) (by omega) (by omega) (fun h22 => ?_) (fun h22 => ?_) | refine z_icmp_eq (pc := 22) (tgt := 35) C dX11_ports_22 (by decide) (fun h22 => ?_) (fun h22 => ?_)
    · refine z_iconst (pc := 35) (v := nI 2) C dX11_ports_35 (by decide) ?_
      refine z_goto (pc := 36) (tgt := 40) C dX11_ports_36 (by decide) ?_
      exact z_iret (pc := 40) C hQ dX11_ports_40 (by clear hQ C hE; first | rfl | (simp [upt, upt_1, h8, h22]; done) | (simp_all [upt, upt_1]; done)) (by clear hQ C hE; first | rfl | (simp [upt, upt_1, h8, h22]; done) | (simp_all [upt, upt_1]; done)) (by clear hQ C hE; first | rfl | (simp [upt, upt_1, h8, h22]; done) | (simp_all [upt, upt_1]; done)) (by decide) (by decide)
    · first | refine z_aload_n (pc := 25) C dX11_ports_25 rfl ?_ | refine z_aload_nN (pc := 25) C dX11_ports_25 rfl ?_
      refine z_getf (pc := 26) C dX11_ports_26 zf_X11_9_10 rfl rfl ?_
      refine z_iload_n (pc := 29) C dX11_ports_29 rfl ?_
      refine z_iald (pc := 30) (N := 10) C dX11_ports_30 rfl (by omega) (by decide) rfl ?_; rw [e1]
      refine z_iconst (pc := 31) (v := nI 4) C dX11_ports_31 (by decide) ?_
      first | with_reducible refine z_icmp_neX (pc := 32) (tgt := 39) C dX11_ports_32 (by decide) (by omega) (by omega) (fun h32 => ?_) (fun h32 => ?_) | refine z_icmp_ne (pc := 32) (tgt := 39) C dX11_ports_32 (by decide) (fun h32 => ?_) (fun h32 => ?_)
      · refine z_iconst (pc := 39) (v := nI 1) C dX11_ports_39 (by decide) ?_
        exact z_iret (pc := 40) C hQ dX11_ports_40 (by clear hQ C hE; first | rfl | (simp [upt, upt_1, h8, h22, h32]; done) | (simp_all [upt, upt_1]; done)) (by clear hQ C hE; first | rfl | (simp [upt, upt_1, h8, h22, h32]; done) | (simp_all [upt, upt_1]; done)) (by clear hQ C hE; first | rfl | (simp [upt, upt_1, h8, h22, h32]; done) | (simp_all [upt, upt_1]; done)) (by decide) (by decide)
      · refine z_iconst (pc := 35) (v := nI 2) C dX11_ports_35 (by decide) ?_
        refine z_goto (pc := 36) (tgt := 40) C dX11_ports_36 (by decide) ?_
        exact z_iret (pc := 40) C hQ dX11_ports_40 (by clear hQ C hE; first | rfl | (simp [upt, upt_1, h8, h22, h32]; done) | (simp_all [upt, upt_1]; done)) (by clear hQ C hE; first | rfl | (simp [upt, upt_1, h8, h22, h32]; done) | (simp_all [upt, upt_1]; done)) (by clear hQ C hE; first | rfl | (simp [upt, upt_1, h8, h22, h32]; done) | (simp_all [upt, upt_1]; done)) (by decide) (by decide)
  · refine z_iconst (pc := 11) (v := nI 0) C dX11_ports_11 (by decide) ?_
    refine z_goto (pc := 12) (tgt := 40) C dX11_ports_12 (by decide) ?_
    exact z_iret (pc := 40) C hQ dX11_ports_40 (by clear hQ C hE; first | rfl | (simp [upt, upt_1, h8]; done) | (simp_all [upt, upt_1]; done)) (by clear hQ C hE; first | rfl | (simp [upt, upt_1, h8]; done) | (simp_all [upt, upt_1]; done)) (by clear hQ C hE; first | rfl | (simp [upt, upt_1, h8]; done) | (simp_all [upt, upt_1]; done)) (by decide) (by decide)
set_option maxHeartbeats 4000000 in
set_option maxRecDepth 100000 in
theorem ct_X11_settings (l : Launch) (Ω : OmT) (σ : Sg) (hw : MW σ) (k : Nat) (hk : k < σ.2.2.2) : ZM l Ω yX11_settings cX11_settings 2 (some .int) rm_X11_settings [rfO Ω 6, .int (nI k)] (hp Ω σ) (hN σ) (some (.int (nI (ust (σ.2.2.1 k))))) (hp Ω σ) (hN σ) := by
  refine ZM_of (by decide) (Nat.le_of_ble_eq_true rfl) (fun E hE C hQ => ?_)
  have h10 := hw.1
  obtain ⟨e1, e2⟩ := hw.2.2 k hk
  first | refine z_aload_n (pc := 0) C dX11_settings_0 rfl ?_ | refine z_aload_nN (pc := 0) C dX11_settings_0 rfl ?_
  refine z_getf (pc := 1) C dX11_settings_1 zf_X11_9_10 rfl rfl ?_
  refine z_iload_n (pc := 4) C dX11_settings_4 rfl ?_
  refine z_iald (pc := 5) (N := 10) C dX11_settings_5 rfl (by omega) (by decide) rfl ?_; rw [e1]
  refine z_iconst (pc := 6) (v := nI 3) C dX11_settings_6 (by decide) ?_
  first | with_reducible refine z_icmp_neX (pc := 7) (tgt := 14) C dX11_settings_7 (by decide) (by omega) (by omega) (fun h7 => ?_) (fun h7 => ?_) | refine z_icmp_ne (pc := 7) (tgt := 14) C dX11_settings_7 (by decide) (fun h7 => ?_) (fun h7 => ?_)
  · first | refine z_aload_n (pc := 14) C dX11_settings_14 rfl ?_ | refine z_aload_nN (pc := 14) C dX11_settings_14 rfl ?_
    refine z_getf (pc := 15) C dX11_settings_15 zf_X11_9_10 rfl rfl ?_
    refine z_iload_n (pc := 18) C dX11_settings_18 rfl ?_
    refine z_iald (pc := 19) (N := 10) C dX11_settings_19 rfl (by omega) (by decide) rfl ?_; rw [e1]
    refine z_iconst (pc := 20) (v := nI 4) C dX11_settings_20 (by decide) ?_
    first | with_reducible refine z_icmp_neX (pc := 21) (tgt := 28) C dX11_settings_21 (by decide) (by omega) (by omega) (fun h21 => ?_) (fun h21 => ?_) | refine z_icmp_ne (pc := 21) (tgt := 28) C dX11_settings_21 (by decide) (fun h21 => ?_) (fun h21 => ?_)
    · first | refine z_aload_n (pc := 28) C dX11_settings_28 rfl ?_ | refine z_aload_nN (pc := 28) C dX11_settings_28 rfl ?_
      refine z_getf (pc := 29) C dX11_settings_29 zf_X11_9_10 rfl rfl ?_
      refine z_iload_n (pc := 32) C dX11_settings_32 rfl ?_
      refine z_iald (pc := 33) (N := 10) C dX11_settings_33 rfl (by omega) (by decide) rfl ?_; rw [e1]
      refine z_iconst (pc := 34) (v := nI 5) C dX11_settings_34 (by decide) ?_
      first | with_reducible refine z_icmp_eqX (pc := 35) (tgt := 49) C dX11_settings_35 (by decide) (by omega) (by omega) (fun h35 => ?_) (fun h35 => ?_) | refine z_icmp_eq (pc := 35) (tgt := 49) C dX11_settings_35 (by decide) (fun h35 => ?_) (fun h35 => ?_)
      · refine z_iconst (pc := 49) (v := nI 1) C dX11_settings_49 (by decide) ?_
        refine z_goto (pc := 50) (tgt := 54) C dX11_settings_50 (by decide) ?_
        exact z_iret (pc := 54) C hQ dX11_settings_54 (by clear hQ C hE; first | rfl | (simp [ust, ust_0, h7, h21, h35]; done) | (simp_all [ust, ust_0]; done)) (by clear hQ C hE; first | rfl | (simp [ust, ust_0, h7, h21, h35]; done) | (simp_all [ust, ust_0]; done)) (by clear hQ C hE; first | rfl | (simp [ust, ust_0, h7, h21, h35]; done) | (simp_all [ust, ust_0]; done)) (by decide) (by decide)
      · first | refine z_aload_n (pc := 38) C dX11_settings_38 rfl ?_ | refine z_aload_nN (pc := 38) C dX11_settings_38 rfl ?_
        refine z_getf (pc := 39) C dX11_settings_39 zf_X11_9_10 rfl rfl ?_
        refine z_iload_n (pc := 42) C dX11_settings_42 rfl ?_
        refine z_iald (pc := 43) (N := 10) C dX11_settings_43 rfl (by omega) (by decide) rfl ?_; rw [e1]
        refine z_bipush (pc := 44) (v := nI 6) C dX11_settings_44 (by decide) ?_
        first | with_reducible refine z_icmp_neX (pc := 46) (tgt := 53) C dX11_settings_46 (by decide) (by omega) (by omega) (fun h46 => ?_) (fun h46 => ?_) | refine z_icmp_ne (pc := 46) (tgt := 53) C dX11_settings_46 (by decide) (fun h46 => ?_) (fun h46 => ?_)
        · refine z_iconst (pc := 53) (v := nI 0) C dX11_settings_53 (by decide) ?_
          exact z_iret (pc := 54) C hQ dX11_settings_54 (by clear hQ C hE; first | rfl | (simp [ust, ust_0, h7, h21, h35, h46]; done) | (simp_all [ust, ust_0]; done)) (by clear hQ C hE; first | rfl | (simp [ust, ust_0, h7, h21, h35, h46]; done) | (simp_all [ust, ust_0]; done)) (by clear hQ C hE; first | rfl | (simp [ust, ust_0, h7, h21, h35, h46]; done) | (simp_all [ust, ust_0]; done)) (by decide) (by decide)
        · refine z_iconst (pc := 49) (v := nI 1) C dX11_settings_49 (by decide) ?_
          refine z_goto (pc := 50) (tgt := 54) C dX11_settings_50 (by decide) ?_
          exact z_iret (pc := 54) C hQ dX11_settings_54 (by clear hQ C hE; first | rfl | (simp [ust, ust_0, h7, h21, h35, h46]; done) | (simp_all [ust, ust_0]; done)) (by clear hQ C hE; first | rfl | (simp [ust, ust_0, h7, h21, h35, h46]; done) | (simp_all [ust, ust_0]; done)) (by clear hQ C hE; first | rfl | (simp [ust, ust_0, h7, h21, h35, h46]; done) | (simp_all [ust, ust_0]; done)) (by decide) (by decide)
    · refine z_iconst (pc := 24) (v := nI 2) C dX11_settings_24 (by decide) ?_
      refine z_goto (pc := 25) (tgt := 54) C dX11_settings_25 (by decide) ?_
      exact z_iret (pc := 54) C hQ dX11_settings_54 (by clear hQ C hE; first | rfl | (simp [ust, ust_0, h7, h21]; done) | (simp_all [ust, ust_0]; done)) (by clear hQ C hE; first | rfl | (simp [ust, ust_0, h7, h21]; done) | (simp_all [ust, ust_0]; done)) (by clear hQ C hE; first | rfl | (simp [ust, ust_0, h7, h21]; done) | (simp_all [ust, ust_0]; done)) (by decide) (by decide)
  · refine z_iconst (pc := 10) (v := nI 4) C dX11_settings_10 (by decide) ?_
    refine z_goto (pc := 11) (tgt := 54) C dX11_settings_11 (by decide) ?_
    exact z_iret (pc := 54) C hQ dX11_settings_54 (by clear hQ C hE; first | rfl | (simp [ust, ust_0, h7]; done) | (simp_all [ust, ust_0]; done)) (by clear hQ C hE; first | rfl | (simp [ust, ust_0, h7]; done) | (simp_all [ust, ust_0]; done)) (by clear hQ C hE; first | rfl | (simp [ust, ust_0, h7]; done) | (simp_all [ust, ust_0]; done)) (by decide) (by decide)
set_option maxHeartbeats 4000000 in
set_option maxRecDepth 100000 in
theorem ct_X11_isRead (l : Launch) (Ω : OmT) (σ : Sg) (hw : MW σ) (k : Nat) (hk : k < σ.2.2.2) : ZM l Ω yX11_isRead cX11_isRead 2 (some .boolean) rm_X11_isRead [rfO Ω 6, .int (nI k)] (hp Ω σ) (hN σ) (some (.int (b01 (¬ σ.2.2.1 k = 0 ∧ ¬ σ.2.2.1 k = 7)))) (hp Ω σ) (hN σ) := by
  refine ZM_of (by decide) (Nat.le_of_ble_eq_true rfl) (fun E hE C hQ => ?_)
  have h10 := hw.1
  obtain ⟨e1, e2⟩ := hw.2.2 k hk
  first | refine z_aload_n (pc := 0) C dX11_isRead_0 rfl ?_ | refine z_aload_nN (pc := 0) C dX11_isRead_0 rfl ?_
  refine z_getf (pc := 1) C dX11_isRead_1 zf_X11_9_10 rfl rfl ?_
  refine z_iload_n (pc := 4) C dX11_isRead_4 rfl ?_
  refine z_iald (pc := 5) (N := 10) C dX11_isRead_5 rfl (by omega) (by decide) rfl ?_; rw [e1]
  first | with_reducible refine z_if_eqX (pc := 6) (tgt := 24) C dX11_isRead_6 (by decide) (by omega) (fun h6 => ?_) (fun h6 => ?_) | refine z_if_eq (pc := 6) (tgt := 24) C dX11_isRead_6 (by decide) (fun h6 => ?_) (fun h6 => ?_)
  · refine z_iconst (pc := 24) (v := nI 0) C dX11_isRead_24 (by decide) ?_
    exact z_zret (pc := 25) C hQ dX11_isRead_25 (by first | rfl | exact b01_nar _) (by clear hQ C hE; first | rfl | (simp [b01, nI, h6]; done) | (simp_all [b01, nI]; done)) (by clear hQ C hE; first | rfl | (simp [b01, nI, h6]; done) | (simp_all [b01, nI]; done)) (by clear hQ C hE; first | rfl | (simp [b01, nI, h6]; done) | (simp_all [b01, nI]; done)) (by decide) (by decide)
  · first | refine z_aload_n (pc := 9) C dX11_isRead_9 rfl ?_ | refine z_aload_nN (pc := 9) C dX11_isRead_9 rfl ?_
    refine z_getf (pc := 10) C dX11_isRead_10 zf_X11_9_10 rfl rfl ?_
    refine z_iload_n (pc := 13) C dX11_isRead_13 rfl ?_
    refine z_iald (pc := 14) (N := 10) C dX11_isRead_14 rfl (by omega) (by decide) rfl ?_; rw [e1]
    refine z_bipush (pc := 15) (v := nI 7) C dX11_isRead_15 (by decide) ?_
    first | with_reducible refine z_icmp_eqX (pc := 17) (tgt := 24) C dX11_isRead_17 (by decide) (by omega) (by omega) (fun h17 => ?_) (fun h17 => ?_) | refine z_icmp_eq (pc := 17) (tgt := 24) C dX11_isRead_17 (by decide) (fun h17 => ?_) (fun h17 => ?_)
    · refine z_iconst (pc := 24) (v := nI 0) C dX11_isRead_24 (by decide) ?_
      exact z_zret (pc := 25) C hQ dX11_isRead_25 (by first | rfl | exact b01_nar _) (by clear hQ C hE; first | rfl | (simp [b01, nI, h6, h17]; done) | (simp_all [b01, nI]; done)) (by clear hQ C hE; first | rfl | (simp [b01, nI, h6, h17]; done) | (simp_all [b01, nI]; done)) (by clear hQ C hE; first | rfl | (simp [b01, nI, h6, h17]; done) | (simp_all [b01, nI]; done)) (by decide) (by decide)
    · refine z_iconst (pc := 20) (v := nI 1) C dX11_isRead_20 (by decide) ?_
      refine z_goto (pc := 21) (tgt := 25) C dX11_isRead_21 (by decide) ?_
      exact z_zret (pc := 25) C hQ dX11_isRead_25 (by first | rfl | exact b01_nar _) (by clear hQ C hE; first | rfl | (simp [b01, nI, h6, h17]; done) | (simp_all [b01, nI]; done)) (by clear hQ C hE; first | rfl | (simp [b01, nI, h6, h17]; done) | (simp_all [b01, nI]; done)) (by clear hQ C hE; first | rfl | (simp [b01, nI, h6, h17]; done) | (simp_all [b01, nI]; done)) (by decide) (by decide)
set_option maxHeartbeats 4000000 in
set_option maxRecDepth 100000 in
theorem ct_X11_lotSum (l : Launch) (Ω : OmT) (σ : Sg) (u k : Nat) (hu : u < 10) (hk : k < 20) : ZM l Ω yX11_lotSum cX11_lotSum 5 (some .int) rm_X11_lotSum [rfO Ω 6, .int (nI u), .int (nI k)] (hp Ω σ) (hN σ) (some (.int (l_sum (fun c => σ.1 11 17 ((20 * u + k) * 8 + c)) 8))) (hp Ω σ) (hN σ) := by
  refine ZM_of (by decide) (Nat.le_of_ble_eq_true rfl) (fun E hE C hQ => ?_)
  have loop : ∀ (j c : Nat), c + j = 8 → ZV l Ω E 0 0 5 [(0, rfO Ω 6), (1, .int (nI u)), (2, .int (nI k)), (3, .int (l_sum (fun c => σ.1 11 17 ((20 * u + k) * 8 + c)) c)), (4, .int (nI c))] [] (hp Ω σ) (hN σ) := by
    intro j
    induction j with
    | zero =>
      intro c hc
      refine z_iload (pc := 5) C dX11_lotSum_5 rfl ?_
      refine z_bipush (pc := 7) (v := nI 8) C dX11_lotSum_7 (by decide) ?_
      -- at 9: if_icmpge 
      refine z_icmp_geT (pc := 9) (tgt := 34) C dX11_lotSum_9 (by decide) (by omega) (by omega) (by omega) ?_
      refine z_iload_n (pc := 34) C dX11_lotSum_34 rfl ?_
      -- at 35: ireturn 
      obtain rfl : c = 8 := by omega
      exact z_iret (pc := 35) C hQ dX11_lotSum_35 rfl rfl rfl (by decide) (by decide)
    | succ j ih =>
      intro c hc
      refine z_iload (pc := 5) C dX11_lotSum_5 rfl ?_
      refine z_bipush (pc := 7) (v := nI 8) C dX11_lotSum_7 (by decide) ?_
      -- at 9: if_icmpge 
      refine z_icmp_geF (pc := 9) (tgt := 34) C dX11_lotSum_9 (by decide) (by omega) (by omega) (by omega) ?_
      refine z_iload_n (pc := 12) C dX11_lotSum_12 rfl ?_
      first | refine z_aload_n (pc := 13) C dX11_lotSum_13 rfl ?_ | refine z_aload_nN (pc := 13) C dX11_lotSum_13 rfl ?_
      refine z_getf (pc := 14) C dX11_lotSum_14 zf_X11_62_10 rfl rfl ?_
      first | refine z_aload_n (pc := 17) C dX11_lotSum_17 rfl ?_ | refine z_aload_nN (pc := 17) C dX11_lotSum_17 rfl ?_
      refine z_iload_n (pc := 18) C dX11_lotSum_18 rfl ?_
      refine z_iload_n (pc := 19) C dX11_lotSum_19 rfl ?_
      refine z_iload (pc := 20) C dX11_lotSum_20 rfl ?_
      refine z_callV (pc := 22) (ci := 10) C dX11_lotSum_22 zy_X11_lotAt kw_761 kw_762 rfl kw_854 rfl (ct_X11_lotAt l Ω _ _ _ _ _) rfl rfl ⟨⟨by decide, by decide⟩, by decide, by decide⟩ (Nat.le_of_ble_eq_true rfl) ?_; dsimp only [Option.toList_some, List.cons_append, List.nil_append]
      refine z_iald (pc := 25) (N := 1600) C dX11_lotSum_25 rfl (by omega) (by decide) rfl ?_
      first | with_reducible refine z_iaddN (pc := 26) C dX11_lotSum_26 ?_ | refine z_iadd (pc := 26) C dX11_lotSum_26 ?_
      refine z_istore_n (pc := 27) C dX11_lotSum_27 (by rw [hE]; decide) ?_
      first | refine z_iincN (pc := 28) C dX11_lotSum_28 rfl (by rw [hE]; decide) ?_ | refine z_iinc (pc := 28) C dX11_lotSum_28 rfl rfl (by rw [hE]; decide) ?_
      refine z_goto (pc := 31) (tgt := 5) C dX11_lotSum_31 (by decide) ?_
      -- at 5
      exact ih (c + 1) (by omega)
  refine z_iconst (pc := 0) (v := nI 0) C dX11_lotSum_0 (by decide) ?_
  refine z_istore_n (pc := 1) C dX11_lotSum_1 (by rw [hE]; decide) ?_
  refine z_iconst (pc := 2) (v := nI 0) C dX11_lotSum_2 (by decide) ?_
  refine z_istore (pc := 3) C dX11_lotSum_3 (by rw [hE]; decide) ?_
  -- at 5: iload 
  exact loop 8 0 rfl
set_option maxHeartbeats 4000000 in
set_option maxRecDepth 100000 in
theorem ct_X11_gave (l : Launch) (Ω : OmT) (σ : Sg) (u k : Nat) (hu : u < 10) (hk : k < 2) : ZM l Ω yX11_gave cX11_gave 5 (some .int) rm_X11_gave [rfO Ω 6, .int (nI u), .int (nI k)] (hp Ω σ) (hN σ) (some (.int (l_sum (fun c => σ.1 11 18 ((2 * u + k) * 8 + c)) 8))) (hp Ω σ) (hN σ) := by
  refine ZM_of (by decide) (Nat.le_of_ble_eq_true rfl) (fun E hE C hQ => ?_)
  have loop : ∀ (j c : Nat), c + j = 8 → ZV l Ω E 0 0 5 [(0, rfO Ω 6), (1, .int (nI u)), (2, .int (nI k)), (3, .int (l_sum (fun c => σ.1 11 18 ((2 * u + k) * 8 + c)) c)), (4, .int (nI c))] [] (hp Ω σ) (hN σ) := by
    intro j
    induction j with
    | zero =>
      intro c hc
      refine z_iload (pc := 5) C dX11_gave_5 rfl ?_
      refine z_bipush (pc := 7) (v := nI 8) C dX11_gave_7 (by decide) ?_
      -- at 9: if_icmpge 
      refine z_icmp_geT (pc := 9) (tgt := 34) C dX11_gave_9 (by decide) (by omega) (by omega) (by omega) ?_
      refine z_iload_n (pc := 34) C dX11_gave_34 rfl ?_
      -- at 35: ireturn 
      obtain rfl : c = 8 := by omega
      exact z_iret (pc := 35) C hQ dX11_gave_35 rfl rfl rfl (by decide) (by decide)
    | succ j ih =>
      intro c hc
      refine z_iload (pc := 5) C dX11_gave_5 rfl ?_
      refine z_bipush (pc := 7) (v := nI 8) C dX11_gave_7 (by decide) ?_
      -- at 9: if_icmpge 
      refine z_icmp_geF (pc := 9) (tgt := 34) C dX11_gave_9 (by decide) (by omega) (by omega) (by omega) ?_
      refine z_iload_n (pc := 12) C dX11_gave_12 rfl ?_
      first | refine z_aload_n (pc := 13) C dX11_gave_13 rfl ?_ | refine z_aload_nN (pc := 13) C dX11_gave_13 rfl ?_
      refine z_getf (pc := 14) C dX11_gave_14 zf_X11_65_10 rfl rfl ?_
      first | refine z_aload_n (pc := 17) C dX11_gave_17 rfl ?_ | refine z_aload_nN (pc := 17) C dX11_gave_17 rfl ?_
      refine z_iload_n (pc := 18) C dX11_gave_18 rfl ?_
      refine z_iload_n (pc := 19) C dX11_gave_19 rfl ?_
      refine z_iload (pc := 20) C dX11_gave_20 rfl ?_
      refine z_callV (pc := 22) (ci := 10) C dX11_gave_22 zy_X11_outAt kw_739 kw_740 rfl kw_847 rfl (ct_X11_outAt l Ω _ _ _ _ _) rfl rfl ⟨⟨by decide, by decide⟩, by decide, by decide⟩ (Nat.le_of_ble_eq_true rfl) ?_; dsimp only [Option.toList_some, List.cons_append, List.nil_append]
      refine z_iald (pc := 25) (N := 160) C dX11_gave_25 rfl (by omega) (by decide) rfl ?_
      first | with_reducible refine z_iaddN (pc := 26) C dX11_gave_26 ?_ | refine z_iadd (pc := 26) C dX11_gave_26 ?_
      refine z_istore_n (pc := 27) C dX11_gave_27 (by rw [hE]; decide) ?_
      first | refine z_iincN (pc := 28) C dX11_gave_28 rfl (by rw [hE]; decide) ?_ | refine z_iinc (pc := 28) C dX11_gave_28 rfl rfl (by rw [hE]; decide) ?_
      refine z_goto (pc := 31) (tgt := 5) C dX11_gave_31 (by decide) ?_
      -- at 5
      exact ih (c + 1) (by omega)
  refine z_iconst (pc := 0) (v := nI 0) C dX11_gave_0 (by decide) ?_
  refine z_istore_n (pc := 1) C dX11_gave_1 (by rw [hE]; decide) ?_
  refine z_iconst (pc := 2) (v := nI 0) C dX11_gave_2 (by decide) ?_
  refine z_istore (pc := 3) C dX11_gave_3 (by rw [hE]; decide) ?_
  -- at 5: iload 
  exact loop 8 0 rfl
set_option maxHeartbeats 4000000 in
set_option maxRecDepth 100000 in
theorem ct_X11_spiltOf (l : Launch) (Ω : OmT) (σ : Sg) (u : Nat) (hu : u < 10) : ZM l Ω yX11_spiltOf cX11_spiltOf 5 (some .long) rm_X11_spiltOf [rfO Ω 6, .int (nI u)] (hp Ω σ) (hN σ) (some (.long (lSum (fun c => σ.2.1 20 (8 * u + c)) 8))) (hp Ω σ) (hN σ) := by
  refine ZM_of (by decide) (Nat.le_of_ble_eq_true rfl) (fun E hE C hQ => ?_)
  have loop : ∀ (j c : Nat), c + j = 8 → ZV l Ω E 0 0 5 [(0, rfO Ω 6), (1, .int (nI u)), (2, .long (lSum (fun c => σ.2.1 20 (8 * u + c)) c)), (4, .int (nI c))] [] (hp Ω σ) (hN σ) := by
    intro j
    induction j with
    | zero =>
      intro c hc
      refine z_iload (pc := 5) C dX11_spiltOf_5 rfl ?_
      refine z_bipush (pc := 7) (v := nI 8) C dX11_spiltOf_7 (by decide) ?_
      -- at 9: if_icmpge 
      refine z_icmp_geT (pc := 9) (tgt := 32) C dX11_spiltOf_9 (by decide) (by omega) (by omega) (by omega) ?_
      refine z_lload_n (pc := 32) C dX11_spiltOf_32 rfl ?_
      -- at 33: lreturn 
      obtain rfl : c = 8 := by omega
      exact z_lret (pc := 33) C hQ dX11_spiltOf_33 rfl rfl rfl (by decide) (by decide)
    | succ j ih =>
      intro c hc
      refine z_iload (pc := 5) C dX11_spiltOf_5 rfl ?_
      refine z_bipush (pc := 7) (v := nI 8) C dX11_spiltOf_7 (by decide) ?_
      -- at 9: if_icmpge 
      refine z_icmp_geF (pc := 9) (tgt := 32) C dX11_spiltOf_9 (by decide) (by omega) (by omega) (by omega) ?_
      refine z_lload_n (pc := 12) C dX11_spiltOf_12 rfl ?_
      first | refine z_aload_n (pc := 13) C dX11_spiltOf_13 rfl ?_ | refine z_aload_nN (pc := 13) C dX11_spiltOf_13 rfl ?_
      refine z_getf (pc := 14) C dX11_spiltOf_14 zf_X11_72_10 rfl rfl ?_
      refine z_iload_n (pc := 17) C dX11_spiltOf_17 rfl ?_
      refine z_iload (pc := 18) C dX11_spiltOf_18 rfl ?_
      refine z_callS (pc := 20) C dX11_spiltOf_20 zy_X11_spot kw_717 kw_718 (ct_X11_spot l Ω _ _ _ _) rfl rfl ⟨⟨by decide, by decide⟩, by decide, by decide⟩ (Nat.le_of_ble_eq_true rfl) ?_; dsimp only [Option.toList_some, List.cons_append, List.nil_append]
      refine z_lald (pc := 23) (N := 80) C dX11_spiltOf_23 rfl (by omega) (by decide) rfl ?_
      refine z_ladd (pc := 24) C dX11_spiltOf_24 ?_
      refine z_lstore_n (pc := 25) C dX11_spiltOf_25 (by rw [hE]; decide) ?_
      first | refine z_iincN (pc := 26) C dX11_spiltOf_26 rfl (by rw [hE]; decide) ?_ | refine z_iinc (pc := 26) C dX11_spiltOf_26 rfl rfl (by rw [hE]; decide) ?_
      refine z_goto (pc := 29) (tgt := 5) C dX11_spiltOf_29 (by decide) ?_
      -- at 5
      exact ih (c + 1) (by omega)
  refine z_lconst (pc := 0) (v := 0) C dX11_spiltOf_0 (by decide) ?_
  refine z_lstore_n (pc := 1) C dX11_spiltOf_1 (by rw [hE]; decide) ?_
  refine z_iconst (pc := 2) (v := nI 0) C dX11_spiltOf_2 (by decide) ?_
  refine z_istore (pc := 3) C dX11_spiltOf_3 (by rw [hE]; decide) ?_
  -- at 5: iload 
  exact loop 8 0 rfl
set_option maxHeartbeats 4000000 in
set_option maxRecDepth 100000 in
theorem ct_X11_lotSums (l : Launch) (Ω : OmT) (σ : Sg) (u L : Nat) (hu : u < 10) (hL : L ≤ 20) (eL : σ.1 11 16 u = nI L) : ZM l Ω yX11_lotSums cX11_lotSums 4 (some .int) rm_X11_lotSums [rfO Ω 6, .int (nI u)] (hp Ω σ) (hN σ) (some (.int (l_sum (fun k => l_sum (fun c => σ.1 11 17 ((20 * u + k) * 8 + c)) 8) L))) (hp Ω σ) (hN σ) := by
  refine ZM_of (by decide) (Nat.le_of_ble_eq_true rfl) (fun E hE C hQ => ?_)
  have loop : ∀ (j k : Nat), k + j = L → ZV l Ω E 0 0 4 [(0, rfO Ω 6), (1, .int (nI u)), (2, .int (l_sum (fun k => l_sum (fun c => σ.1 11 17 ((20 * u + k) * 8 + c)) 8) k)), (3, .int (nI k))] [] (hp Ω σ) (hN σ) := by
    intro j
    induction j with
    | zero =>
      intro c hc
      refine z_iload_n (pc := 4) C dX11_lotSums_4 rfl ?_
      first | refine z_aload_n (pc := 5) C dX11_lotSums_5 rfl ?_ | refine z_aload_nN (pc := 5) C dX11_lotSums_5 rfl ?_
      refine z_getf (pc := 6) C dX11_lotSums_6 zf_X11_59_10 rfl rfl ?_
      refine z_iload_n (pc := 9) C dX11_lotSums_9 rfl ?_
      refine z_iald (pc := 10) (N := 10) C dX11_lotSums_10 rfl (by omega) (by decide) rfl ?_
      -- at 11: if_icmpge 
      rw [eL]
      refine z_icmp_geT (pc := 11) (tgt := 29) C dX11_lotSums_11 (by decide) (by omega) (by omega) (by omega) ?_
      refine z_iload_n (pc := 29) C dX11_lotSums_29 rfl ?_
      -- at 30: ireturn 
      obtain rfl : c = L := by omega
      exact z_iret (pc := 30) C hQ dX11_lotSums_30 rfl rfl rfl (by decide) (by decide)
    | succ j ih =>
      intro c hc
      refine z_iload_n (pc := 4) C dX11_lotSums_4 rfl ?_
      first | refine z_aload_n (pc := 5) C dX11_lotSums_5 rfl ?_ | refine z_aload_nN (pc := 5) C dX11_lotSums_5 rfl ?_
      refine z_getf (pc := 6) C dX11_lotSums_6 zf_X11_59_10 rfl rfl ?_
      refine z_iload_n (pc := 9) C dX11_lotSums_9 rfl ?_
      refine z_iald (pc := 10) (N := 10) C dX11_lotSums_10 rfl (by omega) (by decide) rfl ?_
      -- at 11: if_icmpge 
      rw [eL]
      refine z_icmp_geF (pc := 11) (tgt := 29) C dX11_lotSums_11 (by decide) (by omega) (by omega) (by omega) ?_
      refine z_iload_n (pc := 14) C dX11_lotSums_14 rfl ?_
      first | refine z_aload_n (pc := 15) C dX11_lotSums_15 rfl ?_ | refine z_aload_nN (pc := 15) C dX11_lotSums_15 rfl ?_
      refine z_iload_n (pc := 16) C dX11_lotSums_16 rfl ?_
      refine z_iload_n (pc := 17) C dX11_lotSums_17 rfl ?_
      refine z_callV (pc := 18) (ci := 10) C dX11_lotSums_18 zy_X11_lotSum kw_764 kw_765 rfl kw_855 rfl (ct_X11_lotSum l Ω σ u c hu (by omega)) rfl rfl ⟨⟨by decide, by decide⟩, by decide, by decide⟩ (Nat.le_of_ble_eq_true rfl) ?_; dsimp only [Option.toList_some, List.cons_append, List.nil_append]
      first | with_reducible refine z_iaddN (pc := 21) C dX11_lotSums_21 ?_ | refine z_iadd (pc := 21) C dX11_lotSums_21 ?_
      refine z_istore_n (pc := 22) C dX11_lotSums_22 (by rw [hE]; decide) ?_
      first | refine z_iincN (pc := 23) C dX11_lotSums_23 rfl (by rw [hE]; decide) ?_ | refine z_iinc (pc := 23) C dX11_lotSums_23 rfl rfl (by rw [hE]; decide) ?_
      refine z_goto (pc := 26) (tgt := 4) C dX11_lotSums_26 (by decide) ?_
      -- at 4
      exact ih (c + 1) (by omega)
  refine z_iconst (pc := 0) (v := nI 0) C dX11_lotSums_0 (by decide) ?_
  refine z_istore_n (pc := 1) C dX11_lotSums_1 (by rw [hE]; decide) ?_
  refine z_iconst (pc := 2) (v := nI 0) C dX11_lotSums_2 (by decide) ?_
  refine z_istore_n (pc := 3) C dX11_lotSums_3 (by rw [hE]; decide) ?_
  -- at 4: iload_3 
  exact loop L 0 (by omega)
