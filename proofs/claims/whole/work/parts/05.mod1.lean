/-! ===== the reference's small methods ===== -/
set_option maxHeartbeats 4000000 in
set_option maxRecDepth 100000 in
theorem ct_X11_isIn (l : Launch) (Ω : OmT) (x a b : Int32) (A : AHp) (n : Nat) : ZM l Ω yX11_isIn cX11_isIn 3 (some .boolean) rm_X11_isIn [.int x, .int a, .int b] (A) (n) (some (.int (b01 (a ≤ x ∧ x ≤ b)))) (A) (n) := by
  refine ZM_of (by decide) (Nat.le_of_ble_eq_true rfl) (fun E hE C hQ => ?_)
  refine z_iload_n (pc := 0) C dX11_isIn_0 rfl ?_
  refine z_iload_n (pc := 1) C dX11_isIn_1 rfl ?_
  -- at 2: if_icmplt 
  refine z_icmp_lt (pc := 2) (tgt := 14) C dX11_isIn_2 (by decide) (fun h1 => ?_) (fun h1 => ?_)
  · refine z_iconst (pc := 14) (v := nI 0) C dX11_isIn_14 (by decide) ?_
    -- at 15: ireturn 
    exact z_zret (pc := 15) C hQ dX11_isIn_15 rfl (by rw [b01_f (fun z => absurd z.1 (Int32.not_le.mpr h1))]; rfl) rfl rfl (by decide) (by decide)
  · refine z_iload_n (pc := 5) C dX11_isIn_5 rfl ?_
    refine z_iload_n (pc := 6) C dX11_isIn_6 rfl ?_
    -- at 7: if_icmpgt 
    refine z_icmp_gt (pc := 7) (tgt := 14) C dX11_isIn_7 (by decide) (fun h2 => ?_) (fun h2 => ?_)
    · refine z_iconst (pc := 14) (v := nI 0) C dX11_isIn_14 (by decide) ?_
      -- at 15: ireturn 
      exact z_zret (pc := 15) C hQ dX11_isIn_15 rfl (by rw [b01_f (fun z => absurd z.2 (Int32.not_le.mpr h2))]; rfl) rfl rfl (by decide) (by decide)
    · refine z_iconst (pc := 10) (v := nI 1) C dX11_isIn_10 (by decide) ?_
      refine z_goto (pc := 11) (tgt := 15) C dX11_isIn_11 (by decide) ?_
      -- at 15: ireturn 
      exact z_zret (pc := 15) C hQ dX11_isIn_15 rfl (by rw [b01_t ⟨Int32.not_lt.mp h1, Int32.not_lt.mp h2⟩]; rfl) rfl rfl (by decide) (by decide)
set_option maxHeartbeats 4000000 in
set_option maxRecDepth 100000 in
theorem ct_X11_spot (l : Launch) (Ω : OmT) (u c : Nat) (A : AHp) (n : Nat) : ZM l Ω yX11_spot cX11_spot 2 (some .int) rm_X11_spot [.int (nI u), .int (nI c)] (A) (n) (some (.int (nI (8 * u + c)))) (A) (n) := by
  refine ZM_of (by decide) (Nat.le_of_ble_eq_true rfl) (fun E hE C hQ => ?_)
  refine z_bipush (pc := 0) (v := nI 8) C dX11_spot_0 (by decide) ?_
  refine z_iload_n (pc := 2) C dX11_spot_2 rfl ?_
  first | with_reducible refine z_imulN (pc := 3) C dX11_spot_3 ?_ | refine z_imul (pc := 3) C dX11_spot_3 ?_
  refine z_iload_n (pc := 4) C dX11_spot_4 rfl ?_
  first | with_reducible refine z_iaddN (pc := 5) C dX11_spot_5 ?_ | refine z_iadd (pc := 5) C dX11_spot_5 ?_
  -- at 6: ireturn 
  exact z_iret (pc := 6) C hQ dX11_spot_6 rfl rfl rfl (by decide) (by decide)
set_option maxHeartbeats 4000000 in
set_option maxRecDepth 100000 in
theorem ct_X11_sumOf (l : Launch) (Ω : OmT) (σ : Sg) (u : Nat) (hu : u < 10) : ZM l Ω yX11_sumOf cX11_sumOf 4 (some .int) rm_X11_sumOf [rfO Ω 6, .int (nI u)] (hp Ω σ) (hN σ) (some (.int (l_sum (fun c => σ.1 11 2 (8 * u + c)) 8))) (hp Ω σ) (hN σ) := by
  refine ZM_of (by decide) (Nat.le_of_ble_eq_true rfl) (fun E hE C hQ => ?_)
  have loop : ∀ (k c : Nat), c + k = 8 → ZV l Ω E 0 0 4 [(0, rfO Ω 6), (1, .int (nI u)), (2, .int (l_sum (fun c => σ.1 11 2 (8 * u + c)) c)), (3, .int (nI c))] [] (hp Ω σ) (hN σ) := by
    intro k
    induction k with
    | zero =>
      intro c hc
      refine z_iload_n (pc := 4) C dX11_sumOf_4 rfl ?_
      refine z_bipush (pc := 5) (v := nI 8) C dX11_sumOf_5 (by decide) ?_
      -- at 7: if_icmpge 
      refine z_icmp_geT (pc := 7) (tgt := 29) C dX11_sumOf_7 (by decide) (by omega) (by omega) (by omega) ?_
      refine z_iload_n (pc := 29) C dX11_sumOf_29 rfl ?_
      -- at 30: ireturn 
      obtain rfl : c = 8 := by omega
      exact z_iret (pc := 30) C hQ dX11_sumOf_30 rfl rfl rfl (by decide) (by decide)
    | succ k ih =>
      intro c hc
      refine z_iload_n (pc := 4) C dX11_sumOf_4 rfl ?_
      refine z_bipush (pc := 5) (v := nI 8) C dX11_sumOf_5 (by decide) ?_
      -- at 7: if_icmpge 
      refine z_icmp_geF (pc := 7) (tgt := 29) C dX11_sumOf_7 (by decide) (by omega) (by omega) (by omega) ?_
      refine z_iload_n (pc := 10) C dX11_sumOf_10 rfl ?_
      first | refine z_aload_n (pc := 11) C dX11_sumOf_11 rfl ?_ | refine z_aload_nN (pc := 11) C dX11_sumOf_11 rfl ?_
      refine z_getf (pc := 12) C dX11_sumOf_12 zf_X11_16_10 rfl rfl ?_
      refine z_iload_n (pc := 15) C dX11_sumOf_15 rfl ?_
      refine z_iload_n (pc := 16) C dX11_sumOf_16 rfl ?_
      refine z_callS (pc := 17) C dX11_sumOf_17 zy_X11_spot kw_717 kw_718 (ct_X11_spot l Ω _ _ _ _) rfl rfl ⟨⟨by decide, by decide⟩, by decide, by decide⟩ (Nat.le_of_ble_eq_true rfl) ?_; dsimp only [Option.toList_some, List.cons_append, List.nil_append]
      refine z_iald (pc := 20) (N := 80) C dX11_sumOf_20 rfl (by omega) (by decide) rfl ?_
      first | with_reducible refine z_iaddN (pc := 21) C dX11_sumOf_21 ?_ | refine z_iadd (pc := 21) C dX11_sumOf_21 ?_
      refine z_istore_n (pc := 22) C dX11_sumOf_22 (by rw [hE]; decide) ?_
      first | refine z_iincN (pc := 23) C dX11_sumOf_23 rfl (by rw [hE]; decide) ?_ | refine z_iinc (pc := 23) C dX11_sumOf_23 rfl rfl (by rw [hE]; decide) ?_
      refine z_goto (pc := 26) (tgt := 4) C dX11_sumOf_26 (by decide) ?_
      -- at 4
      exact ih (c + 1) (by omega)
  refine z_iconst (pc := 0) (v := nI 0) C dX11_sumOf_0 (by decide) ?_
  refine z_istore_n (pc := 1) C dX11_sumOf_1 (by rw [hE]; decide) ?_
  refine z_iconst (pc := 2) (v := nI 0) C dX11_sumOf_2 (by decide) ?_
  refine z_istore_n (pc := 3) C dX11_sumOf_3 (by rw [hE]; decide) ?_
  -- at 4: iload_3 
  exact loop 8 0 rfl
