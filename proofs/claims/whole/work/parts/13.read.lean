/-! ===== the class: readings ===== -/
set_option maxHeartbeats 4000000 in
set_option maxRecDepth 100000 in
theorem ct_X7_has (l : Launch) (Ω : OmT) (σ : Sg) (hw : KW σ) (i κ : Nat) (hi : i < σ.2.2.2) (hq : σ.2.2.1 i = κ) (h0 : ¬ κ = 0) (h7 : ¬ κ = 7) (w : Int32) : ZM l Ω yX7_has cX7_has 2 (some .boolean) rm_X7_has [rfO Ω (bs σ.2.2.1 i + (6 + upt κ)), .int w] (hp Ω σ) (hN σ) (some (.int (b01 (isU (1 + upt κ) w)))) (hp Ω σ) (hN σ) := by
  refine ZM_of (by decide) (Nat.le_of_ble_eq_true rfl) (fun E hE C hQ => ?_)
  have hup := upt_le κ
  refine z_iload_n (pc := 0) C dX7_has_0 rfl ?_
  -- at 1: iflt 
  refine z_if_lt (pc := 1) (tgt := 17) C dX7_has_1 (by decide) (fun h => ?_) (fun h => ?_)
  · refine z_iconst (pc := 17) (v := nI 0) C dX7_has_17 (by decide) ?_
    -- at 18: ireturn 
    exact z_zret (pc := 18) C hQ dX7_has_18 rfl (by rw [b01_f (isU_lo h)]; rfl) rfl rfl (by decide) (by decide)
  · refine z_iload_n (pc := 4) C dX7_has_4 rfl ?_
    first | refine z_aload_n (pc := 5) C dX7_has_5 rfl ?_ | refine z_aload_nN (pc := 5) C dX7_has_5 rfl ?_
    refine z_getf (pc := 6) C dX7_has_6 zf_X7_13_7 (hk_rd (κ := κ) (by exact hw) (by exact hi) (by exact hq) (by exact h0) (by exact h7)) rfl ?_
    refine z_alen (pc := 9) C dX7_has_9 (Rw.get (rw_rn (κ := κ) (by exact hw) (by exact hi) (by exact hq) (by exact h0) (by exact h7))) (by decide) ?_
    -- at 10: if_icmpge 
    refine z_icmp_ge (pc := 10) (tgt := 17) C dX7_has_10 (by decide) (fun h2 => ?_) (fun h2 => ?_)
    · refine z_iconst (pc := 17) (v := nI 0) C dX7_has_17 (by decide) ?_
      -- at 18: ireturn 
      exact z_zret (pc := 18) C hQ dX7_has_18 rfl (by rw [b01_f (isU_hi (by omega) h2)]; rfl) rfl rfl (by decide) (by decide)
    · refine z_iconst (pc := 13) (v := nI 1) C dX7_has_13 (by decide) ?_
      refine z_goto (pc := 14) (tgt := 18) C dX7_has_14 (by decide) ?_
      -- at 18: ireturn 
      exact z_zret (pc := 18) C hQ dX7_has_18 rfl (by rw [b01_t (isU_in (by omega) h h2)]; rfl) rfl rfl (by decide) (by decide)
set_option maxHeartbeats 4000000 in
set_option maxRecDepth 100000 in
theorem ct_X7_areGood (l : Launch) (Ω : OmT) (A : AHp) (n a : Nat) (x d : Int32) : ZM l Ω yX7_areGood cX7_areGood 3 (some .boolean) rm_X7_areGood [rfO Ω a, .int x, .int d] (A) (n) (some (.int (b01 (inR 0 100000 x ∧ inR 1 100 d)))) (A) (n) := by
  refine ZM_of (by decide) (Nat.le_of_ble_eq_true rfl) (fun E hE C hQ => ?_)
  have no : ¬ (inR 0 100000 x ∧ inR 1 100 d) → ZV l Ω E 0 0 25 [(0, rfO Ω a), (1, .int x), (2, .int d)] [] A n := by
    intro h
    refine z_iconst (pc := 25) (v := nI 0) C dX7_areGood_25 (by decide) ?_
    -- at 26: ireturn 
    exact z_zret (pc := 26) C hQ dX7_areGood_26 rfl (by rw [b01_f h]; rfl) rfl rfl (by decide) (by decide)
  refine z_iload_n (pc := 0) C dX7_areGood_0 rfl ?_
  -- at 1: iflt 
  refine z_if_lt (pc := 1) (tgt := 25) C dX7_areGood_1 (by decide) (fun h1 => ?_) (fun h1 => ?_)
  · exact no (fun z => inR_lo h1 z.1)
  refine z_iload_n (pc := 4) C dX7_areGood_4 rfl ?_
  refine z_ldc (pc := 5) (v := nI 100000) C dX7_areGood_5 kw_549 ?_
  -- at 7: if_icmpgt 
  refine z_icmp_gt (pc := 7) (tgt := 25) C dX7_areGood_7 (by decide) (fun h2 => ?_) (fun h2 => ?_)
  · exact no (fun z => absurd h2 (Int32.not_lt.mpr z.1.2))
  refine z_iload_n (pc := 10) C dX7_areGood_10 rfl ?_
  refine z_iconst (pc := 11) (v := nI 1) C dX7_areGood_11 (by decide) ?_
  -- at 12: if_icmplt 
  refine z_icmp_lt (pc := 12) (tgt := 25) C dX7_areGood_12 (by decide) (fun h3 => ?_) (fun h3 => ?_)
  · exact no (fun z => absurd h3 (Int32.not_lt.mpr z.2.1))
  refine z_iload_n (pc := 15) C dX7_areGood_15 rfl ?_
  refine z_bipush (pc := 16) (v := nI 100) C dX7_areGood_16 (by decide) ?_
  -- at 18: if_icmpgt 
  refine z_icmp_gt (pc := 18) (tgt := 25) C dX7_areGood_18 (by decide) (fun h4 => ?_) (fun h4 => ?_)
  · exact no (fun z => absurd h4 (Int32.not_lt.mpr z.2.2))
  refine z_iconst (pc := 21) (v := nI 1) C dX7_areGood_21 (by decide) ?_
  refine z_goto (pc := 22) (tgt := 26) C dX7_areGood_22 (by decide) ?_
  -- at 26: ireturn 
  exact z_zret (pc := 26) C hQ dX7_areGood_26 rfl (by rw [b01_t ⟨⟨Int32.not_lt.mp h1, Int32.not_lt.mp h2⟩, Int32.not_lt.mp h3, Int32.not_lt.mp h4⟩]; rfl) rfl rfl (by decide) (by decide)
set_option maxHeartbeats 4000000 in
set_option maxRecDepth 100000 in
theorem ct_X7_put (l : Launch) (Ω : OmT) (σ : Sg) (hw : KW σ) (i κ : Nat) (hi : i < σ.2.2.2) (hq : σ.2.2.1 i = κ) (h0 : ¬ κ = 0) (h7 : ¬ κ = 7) (w : Nat) (hwp : w < 1 + upt κ) (x d : Int32) : ZM l Ω yX7_put cX7_put 4 none rm_X7_put [rfO Ω (bs σ.2.2.1 i + (6 + upt κ)), .int (nI w), .int x, .int d] (hp Ω σ) (hN σ) (none) (hp Ω (sI (sI σ i 4 w x) i 5 w d)) (hN σ) := by
  refine ZM_of (by decide) (Nat.le_of_ble_eq_true rfl) (fun E hE C hQ => ?_)
  have hup := upt_le κ
  first | refine z_aload_n (pc := 0) C dX7_put_0 rfl ?_ | refine z_aload_nN (pc := 0) C dX7_put_0 rfl ?_
  refine z_getf (pc := 1) C dX7_put_1 zf_X7_13_7 (hk_rd (κ := κ) (by exact hw) (by exact hi) (by exact hq) (by exact h0) (by exact h7)) rfl ?_
  refine z_iload_n (pc := 4) C dX7_put_4 rfl ?_
  refine z_iload_n (pc := 5) C dX7_put_5 rfl ?_
  refine z_iast (pc := 6) C dX7_put_6 (Rw.get (rw_rn (κ := κ) (by exact hw) (by exact hi) (by exact hq) (by exact h0) (by exact h7))) (by first | omega | decide | (simp only [unu, upt]; omega)) (by first | decide | omega) (Rw.el (rw_rn (κ := κ) (by exact hw) (by exact hi) (by exact hq) (by exact h0) (by exact h7))) ?_
  first | refine z_aload_n (pc := 7) C dX7_put_7 rfl ?_ | refine z_aload_nN (pc := 7) C dX7_put_7 rfl ?_
  refine z_getf (pc := 8) C dX7_put_8 zf_X7_19_7 (hk_rd (κ := κ) (by exact hw) (by exact hi) (by exact hq) (by exact h0) (by exact h7)) rfl ?_
  refine z_iload_n (pc := 11) C dX7_put_11 rfl ?_
  refine z_iload_n (pc := 12) C dX7_put_12 rfl ?_
  refine z_iast (pc := 13) C dX7_put_13 (Rw.get (rw_rt (κ := κ) (by exact hw) (by exact hi) (by exact hq) (by exact h0) (by exact h7))) (by first | omega | decide | (simp only [unu, upt]; omega)) (by first | decide | omega) (Rw.el (rw_rt (κ := κ) (by exact hw) (by exact hi) (by exact hq) (by exact h0) (by exact h7))) ?_
  -- at 14: return 
  exact z_vret (pc := 14) C hQ dX7_put_14 rfl rfl rfl (by decide) (by decide)
def cWant (σ : Sg) (i P : Nat) : Int32 := σ.1 i 4 0 - (l_sum (σ.1 i 4) (1 + P) - σ.1 i 4 0)
set_option maxHeartbeats 4000000 in
set_option maxRecDepth 100000 in
theorem ct_X7_wanting (l : Launch) (Ω : OmT) (σ : Sg) (hw : KW σ) (i κ : Nat) (hi : i < σ.2.2.2) (hq : σ.2.2.1 i = κ) (h0 : ¬ κ = 0) (h7 : ¬ κ = 7) : ZM l Ω yX7_wanting cX7_wanting 1 (some .int) rm_X7_wanting [rfO Ω (bs σ.2.2.1 i + (6 + upt κ))] (hp Ω σ) (hN σ) (some (.int (cWant σ i (upt κ)))) (hp Ω σ) (hN σ) := by
  refine ZM_of (by decide) (Nat.le_of_ble_eq_true rfl) (fun E hE C hQ => ?_)
  have hup := upt_le κ
  first | refine z_aload_n (pc := 0) C dX7_wanting_0 rfl ?_ | refine z_aload_nN (pc := 0) C dX7_wanting_0 rfl ?_
  refine z_getf (pc := 1) C dX7_wanting_1 zf_X7_13_7 (hk_rd (κ := κ) (by exact hw) (by exact hi) (by exact hq) (by exact h0) (by exact h7)) rfl ?_
  refine z_iconst (pc := 4) (v := nI 0) C dX7_wanting_4 (by decide) ?_
  refine z_iald (pc := 5) C dX7_wanting_5 (Rw.get (rw_rn (κ := κ) (by exact hw) (by exact hi) (by exact hq) (by exact h0) (by exact h7))) (by first | omega | decide | (simp only [unu, upt]; omega)) (by first | decide | omega) rfl ?_
  first | refine z_aload_n (pc := 6) C dX7_wanting_6 rfl ?_ | refine z_aload_nN (pc := 6) C dX7_wanting_6 rfl ?_
  refine z_getf (pc := 7) C dX7_wanting_7 zf_X7_13_7 (hk_rd (κ := κ) (by exact hw) (by exact hi) (by exact hq) (by exact h0) (by exact h7)) rfl ?_
  refine z_callSN (pc := 10) C dX7_wanting_10 zy_X10_total (by decide +kernel) kw_382 (ct_totalR l Ω σ _ (rw_rn hw hi hq h0 h7)) rfl rfl ⟨⟨by decide, by decide⟩, by decide, by decide⟩ (Nat.le_of_ble_eq_true rfl) ?_; dsimp only [Option.toList_some, List.cons_append, List.nil_append]
  first | refine z_aload_n (pc := 13) C dX7_wanting_13 rfl ?_ | refine z_aload_nN (pc := 13) C dX7_wanting_13 rfl ?_
  refine z_getf (pc := 14) C dX7_wanting_14 zf_X7_13_7 (hk_rd (κ := κ) (by exact hw) (by exact hi) (by exact hq) (by exact h0) (by exact h7)) rfl ?_
  refine z_iconst (pc := 17) (v := nI 0) C dX7_wanting_17 (by decide) ?_
  refine z_iald (pc := 18) C dX7_wanting_18 (Rw.get (rw_rn (κ := κ) (by exact hw) (by exact hi) (by exact hq) (by exact h0) (by exact h7))) (by first | omega | decide | (simp only [unu, upt]; omega)) (by first | decide | omega) rfl ?_
  first | with_reducible refine z_isubN (pc := 19) C dX7_wanting_19 (by omega) ?_ | refine z_isub (pc := 19) C dX7_wanting_19 ?_
  first | with_reducible refine z_isubN (pc := 20) C dX7_wanting_20 (by omega) ?_ | refine z_isub (pc := 20) C dX7_wanting_20 ?_
  -- at 21: ireturn 
  exact z_iret (pc := 21) C hQ dX7_wanting_21 rfl rfl rfl (by decide) (by decide)
theorem two_mod {a b : Nat} (hb : 0 < b) (hr : 0 < a % b) : 2 * (b % (a % b)) < b := by
  have h1 := Nat.mod_lt a hb
  have h2 := Nat.mod_lt b hr
  by_cases h : 2 * (a % b) ≤ b
  · omega
  · rw [Nat.mod_eq_sub_mod (by omega), Nat.mod_eq_of_lt (by omega)]
    omega
set_option maxHeartbeats 4000000 in
set_option maxRecDepth 100000 in
theorem ct_X7_commonDivisor (l : Launch) (Ω : OmT) (A : AHp) (n X Y : Nat) (hX : X < 4611686018427387904) (hY : Y < 512) : ZM l Ω yX7_commonDivisor cX7_commonDivisor 11 (some .long) rm_X7_commonDivisor [.long (lN X), .long (lN Y)] (A) (n) (some (.long (lN (Nat.gcd Y X)))) (A) (n) := by
  refine ZM_of (by decide) (Nat.le_of_ble_eq_true rfl) (fun E hE C hQ => ?_)
  have hne : ∀ z : Nat, 0 < z → z < 4611686018427387904 → ¬ lN z = 0 := by
    intro z h1 h2 h3
    have := (pk_lEQ (a := z) (b := 0) (by omega) (by omega)).mp h3
    omega
  have fin : ∀ (a k : Nat), lN a = lN (Nat.gcd Y X) → ZV l Ω E 0 0 44 [(0, .long (lN X)), (2, .long (lN Y)), (4, .long (lN a)), (6, .long (lN 0)), (8, .int (nI k))] [] A n := by
    intro a k e
    refine z_lload (pc := 44) C dX7_commonDivisor_44 rfl ?_
    -- at 46: lreturn 
    exact z_lret (pc := 46) C hQ dX7_commonDivisor_46 (by rw [e]) rfl rfl (by decide) (by decide)
  have one : ∀ (a b k : Nat), a < 4611686018427387904 → 0 < b → b < 4611686018427387904 → k < 100 → ZV l Ω E 0 0 9 [(0, .long (lN X)), (2, .long (lN Y)), (4, .long (lN b)), (6, .long (lN (a % b))), (8, .int (nI (k + 1)))] [] A n → ZV l Ω E 0 0 9 [(0, .long (lN X)), (2, .long (lN Y)), (4, .long (lN a)), (6, .long (lN b)), (8, .int (nI k))] [] A n := by
    intro a b k ha hb0 hb hk h9
    refine z_iload (pc := 9) C dX7_commonDivisor_9 rfl ?_
    refine z_bipush (pc := 11) (v := nI 100) C dX7_commonDivisor_11 (by decide) ?_
    -- at 13: if_icmpge 
    refine z_icmp_geF (pc := 13) (tgt := 44) C dX7_commonDivisor_13 (by decide) (by omega) (by omega) (by omega) ?_
    refine z_lload (pc := 16) C dX7_commonDivisor_16 rfl ?_
    refine z_lconst (pc := 18) (v := 0) C dX7_commonDivisor_18 (by decide) ?_
    refine z_lcmp (pc := 19) C dX7_commonDivisor_19 ?_
    -- at 20: ifeq 
    refine z_if_eq (pc := 20) (tgt := 44) C dX7_commonDivisor_20 (by decide) (fun h => absurd ((lg_cmp_eq _ _).mp h) (hne b hb0 hb)) (fun h => ?_)
    refine z_lload (pc := 23) C dX7_commonDivisor_23 rfl ?_
    refine z_lload (pc := 25) C dX7_commonDivisor_25 rfl ?_
    -- at 27: lrem 
    refine z_lrem (pc := 27) C dX7_commonDivisor_27 (hne b hb0 hb) ?_
    rw [pk_lRem (by omega) hb0 (by omega)]
    refine z_lstore (pc := 28) C dX7_commonDivisor_28 (by rw [hE]; decide) ?_
    refine z_lload (pc := 30) C dX7_commonDivisor_30 rfl ?_
    refine z_lstore (pc := 32) C dX7_commonDivisor_32 (by rw [hE]; decide) ?_
    refine z_lload (pc := 34) C dX7_commonDivisor_34 rfl ?_
    refine z_lstore (pc := 36) C dX7_commonDivisor_36 (by rw [hE]; decide) ?_
    first | refine z_iincN (pc := 38) C dX7_commonDivisor_38 rfl (by rw [hE]; decide) ?_ | refine z_iinc (pc := 38) C dX7_commonDivisor_38 rfl rfl (by rw [hE]; decide) ?_
    refine z_goto (pc := 41) (tgt := 9) C dX7_commonDivisor_41 (by decide) ?_
    -- at 9
    refine z_pick [0, 2, 4, 6, 8] rfl ?_
    exact h9
  have zer : ∀ (a k : Nat), k ≤ 100 → lN a = lN (Nat.gcd Y X) → ZV l Ω E 0 0 9 [(0, .long (lN X)), (2, .long (lN Y)), (4, .long (lN a)), (6, .long (lN 0)), (8, .int (nI k))] [] A n := by
    intro a k hk e
    refine z_iload (pc := 9) C dX7_commonDivisor_9 rfl ?_
    refine z_bipush (pc := 11) (v := nI 100) C dX7_commonDivisor_11 (by decide) ?_
    -- at 13: if_icmpge 
    refine z_icmp_ge (pc := 13) (tgt := 44) C dX7_commonDivisor_13 (by decide) (fun h => fin a k e) (fun h => ?_)
    refine z_lload (pc := 16) C dX7_commonDivisor_16 rfl ?_
    refine z_lconst (pc := 18) (v := 0) C dX7_commonDivisor_18 (by decide) ?_
    refine z_lcmp (pc := 19) C dX7_commonDivisor_19 ?_
    -- at 20: ifeq 
    refine z_if_eq (pc := 20) (tgt := 44) C dX7_commonDivisor_20 (by decide) (fun h => fin a k e) (fun h => absurd ((lg_cmp_eq _ _).mpr rfl) h)
  have euc : ∀ (j a b k : Nat), b < 2 ^ j → j ≤ 9 → k + 2 * j ≤ 100 → a < 4611686018427387904 → Nat.gcd b a = Nat.gcd Y X → ZV l Ω E 0 0 9 [(0, .long (lN X)), (2, .long (lN Y)), (4, .long (lN a)), (6, .long (lN b)), (8, .int (nI k))] [] A n := by
    intro j
    induction j with
    | zero =>
      intro a b k hb hj hk ha hg
      obtain rfl : b = 0 := by omega
      rw [Nat.gcd_zero_left] at hg
      exact zer a k (by omega) (by rw [hg])
    | succ j ih =>
      intro a b k hb hj hk ha hg
      have hp2 : 2 ^ (j + 1) ≤ 512 := Nat.le_trans (Nat.pow_le_pow_right (by decide) hj) (by decide)
      by_cases hb0 : b = 0
      · subst hb0
        rw [Nat.gcd_zero_left] at hg
        exact zer a k (by omega) (by rw [hg])
      · have hb1 : 0 < b := by omega
        refine one a b k ha hb1 (by omega) (by omega) ?_
        have hlt := Nat.mod_lt a hb1
        by_cases hr : a % b = 0
        · rw [Nat.gcd_rec, hr, Nat.gcd_zero_left] at hg
          rw [hr]
          exact zer b (k + 1) (by omega) (by rw [hg])
        · have hr0 : 0 < a % b := by omega
          refine one b (a % b) (k + 1) (by omega) hr0 (by omega) (by omega) ?_
          have h2 := two_mod hb1 hr0
          refine ih (a % b) (b % (a % b)) (k + 1 + 1) ?_ (by omega) (by omega) (by omega) ?_
          · rw [Nat.pow_succ] at hb
            omega
          · rw [← hg, Nat.gcd_rec b a, Nat.gcd_rec (a % b) b]
  refine z_lload_n (pc := 0) C dX7_commonDivisor_0 rfl ?_
  refine z_lstore (pc := 1) C dX7_commonDivisor_1 (by rw [hE]; decide) ?_
  refine z_lload_n (pc := 3) C dX7_commonDivisor_3 rfl ?_
  refine z_lstore (pc := 4) C dX7_commonDivisor_4 (by rw [hE]; decide) ?_
  refine z_iconst (pc := 6) (v := nI 0) C dX7_commonDivisor_6 (by decide) ?_
  refine z_istore (pc := 7) C dX7_commonDivisor_7 (by rw [hE]; decide) ?_
  -- at 9: iload 
  exact euc 9 X Y 0 (by omega) (by omega) (by omega) hX rfl
def cUp (σ : Sg) (i w P : Nat) : Int64 := (σ.1 i 4 w).toInt64 * (l_sum (σ.1 i 5) (1 + P)).toInt64 + (if w = 0 then -((σ.1 i 5 w).toInt64 * (cWant σ i P).toInt64) else (σ.1 i 5 w).toInt64 * (cWant σ i P).toInt64)
set_option maxHeartbeats 4000000 in
set_option maxRecDepth 100000 in
theorem ct_X7_closing (l : Launch) (Ω : OmT) (σ : Sg) (hw : KW σ) (i κ : Nat) (hi : i < σ.2.2.2) (hq : σ.2.2.1 i = κ) (h0 : ¬ κ = 0) (h7 : ¬ κ = 7) (w q : Nat) (hwp : w < 1 + upt κ) (hq2 : q < 2) (X Y : Nat) (hY0 : 0 < Y) (hY : Y < 512) (hX : X < 4611686018427387904) (eY : (l_sum (σ.1 i 5) (1 + upt κ)).toInt64 = lN Y) (eX : (if cUp σ i w (upt κ) < 0 then -cUp σ i w (upt κ) else cUp σ i w (upt κ)) = lN X) : ZM l Ω yX7_closing cX7_closing 11 (some .long) rm_X7_closing [rfO Ω (bs σ.2.2.1 i + (6 + upt κ)), .int (nI w), .int (nI q)] (hp Ω σ) (hN σ) (some (.long (if q = 0 then (l_sum (σ.1 i 5) (1 + upt κ)).toInt64 / lN (Nat.gcd Y X) else cUp σ i w (upt κ) / lN (Nat.gcd Y X)))) (hp Ω σ) (hN σ) := by
  refine ZM_of (by decide) (Nat.le_of_ble_eq_true rfl) (fun E hE C hQ => ?_)
  have hup := upt_le κ
  have hgp : 0 < Nat.gcd Y X := Nat.gcd_pos_of_pos_left _ hY0
  have gl : Nat.gcd Y X ≤ Y := Nat.gcd_le_left _ hY0
  have hnz : ¬ lN (Nat.gcd Y X) = 0 := by
    intro h3
    have := (pk_lEQ (a := Nat.gcd Y X) (b := 0) (by omega) (by omega)).mp h3
    omega
  have emx : (if (1 : Int64) < lN (Nat.gcd Y X) then lN (Nat.gcd Y X) else 1) = lN (Nat.gcd Y X) := by
    split
    · rfl
    · next h =>
      have : Nat.gcd Y X = 1 := by
        rcases Nat.lt_or_ge 1 (Nat.gcd Y X) with z | z
        · exact absurd ((pk_lLT (a := 1) (b := Nat.gcd Y X) (by omega) (by omega)).mpr z) h
        · omega
      rw [this]; rfl
  have tail : ∀ y : Int64, y = (if w = 0 then -((σ.1 i 5 w).toInt64 * (cWant σ i (upt κ)).toInt64) else (σ.1 i 5 w).toInt64 * (cWant σ i (upt κ)).toInt64) → ZV l Ω E 0 0 45 [(0, rfO Ω (bs σ.2.2.1 i + (6 + upt κ))), (1, .int (nI w)), (2, .int (nI q)), (3, .long (l_sum (σ.1 i 5) (1 + upt κ)).toInt64), (5, .long ((σ.1 i 5 w).toInt64 * (cWant σ i (upt κ)).toInt64))] [.long y, .long ((σ.1 i 4 w).toInt64 * (l_sum (σ.1 i 5) (1 + upt κ)).toInt64)] (hp Ω σ) (hN σ) := by
    intro y ey
    have eU : (σ.1 i 4 w).toInt64 * (l_sum (σ.1 i 5) (1 + upt κ)).toInt64 + y = cUp σ i w (upt κ) := by rw [ey]; rfl
    refine z_ladd (pc := 45) C dX7_closing_45 ?_
    -- at 46: lstore 
    rw [eU]
    generalize cUp σ i w (upt κ) = U at eX hQ ⊢
    generalize (l_sum (σ.1 i 5) (1 + upt κ)).toInt64 = B at eY hQ ⊢
    refine z_lstore (pc := 46) C dX7_closing_46 (by rw [hE]; decide) ?_
    refine z_lconst (pc := 48) (v := 1) C dX7_closing_48 (by decide) ?_
    refine z_lload (pc := 49) C dX7_closing_49 rfl ?_
    -- at 51: invokestatic Method java/lang/Math.abs:(J)J
    refine z_callS (pc := 51) C dX7_closing_51 zy_J9_abs_067f4 kw_565 kw_566 (ct_J9_abs_067f4 l Ω _ _ U) rfl rfl ⟨⟨by decide, by decide⟩, by decide, by decide⟩ (Nat.le_of_ble_eq_true rfl) ?_; dsimp only [Option.toList_some, List.cons_append, List.nil_append]
    rw [eX]
    refine z_lload_n (pc := 54) C dX7_closing_54 rfl ?_
    -- at 55: invokestatic Method commonDivisor:(JJ)J
    rw [eY]
    refine z_callS (pc := 55) C dX7_closing_55 zy_X7_commonDivisor kw_568 kw_569 (ct_X7_commonDivisor l Ω _ _ X Y hX hY) rfl rfl ⟨⟨by decide, by decide⟩, by decide, by decide⟩ (Nat.le_of_ble_eq_true rfl) ?_; dsimp only [Option.toList_some, List.cons_append, List.nil_append]
    refine z_callS (pc := 58) C dX7_closing_58 zy_J9_max_f86c9 kw_571 kw_572 (ct_J9_max_f86c9 l Ω _ _ 1 (lN (Nat.gcd Y X))) rfl rfl ⟨⟨by decide, by decide⟩, by decide, by decide⟩ (Nat.le_of_ble_eq_true rfl) ?_; dsimp only [Option.toList_some, List.cons_append, List.nil_append]
    rw [emx]
    refine z_lstore (pc := 61) C dX7_closing_61 (by rw [hE]; decide) ?_
    refine z_iload_n (pc := 63) C dX7_closing_63 rfl ?_
    -- at 64: ifeq 
    refine z_if_eqX (pc := 64) (tgt := 72) C dX7_closing_64 (by decide) (by omega) (fun h => ?_) (fun h => ?_)
    · refine z_lload_n (pc := 72) C dX7_closing_72 rfl ?_
      refine z_lload (pc := 73) C dX7_closing_73 rfl ?_
      -- at 75: ldiv 
      refine z_ldiv (pc := 75) C dX7_closing_75 hnz ?_
      exact z_lret (pc := 76) C hQ dX7_closing_76 (by rw [if_pos h, eY]) rfl rfl (by decide) (by decide)
    · refine z_lload (pc := 67) C dX7_closing_67 rfl ?_
      refine z_goto (pc := 69) (tgt := 73) C dX7_closing_69 (by decide) ?_
      refine z_lload (pc := 73) C dX7_closing_73 rfl ?_
      -- at 75: ldiv 
      refine z_ldiv (pc := 75) C dX7_closing_75 hnz ?_
      exact z_lret (pc := 76) C hQ dX7_closing_76 (by rw [if_neg h]) rfl rfl (by decide) (by decide)
  first | refine z_aload_n (pc := 0) C dX7_closing_0 rfl ?_ | refine z_aload_nN (pc := 0) C dX7_closing_0 rfl ?_
  refine z_getf (pc := 1) C dX7_closing_1 zf_X7_19_7 (hk_rd (κ := κ) (by exact hw) (by exact hi) (by exact hq) (by exact h0) (by exact h7)) rfl ?_
  refine z_callSN (pc := 4) C dX7_closing_4 zy_X10_total (by decide +kernel) kw_382 (ct_totalR l Ω σ _ (rw_rt hw hi hq h0 h7)) rfl rfl ⟨⟨by decide, by decide⟩, by decide, by decide⟩ (Nat.le_of_ble_eq_true rfl) ?_; dsimp only [Option.toList_some, List.cons_append, List.nil_append]
  refine z_i2l (pc := 7) C dX7_closing_7 rfl ?_
  refine z_lstore_n (pc := 8) C dX7_closing_8 (by rw [hE]; decide) ?_
  first | refine z_aload_n (pc := 9) C dX7_closing_9 rfl ?_ | refine z_aload_nN (pc := 9) C dX7_closing_9 rfl ?_
  refine z_getf (pc := 10) C dX7_closing_10 zf_X7_19_7 (hk_rd (κ := κ) (by exact hw) (by exact hi) (by exact hq) (by exact h0) (by exact h7)) rfl ?_
  refine z_iload_n (pc := 13) C dX7_closing_13 rfl ?_
  refine z_iald (pc := 14) C dX7_closing_14 (Rw.get (rw_rt (κ := κ) (by exact hw) (by exact hi) (by exact hq) (by exact h0) (by exact h7))) (by first | omega | decide | (simp only [unu, upt]; omega)) (by first | decide | omega) rfl ?_
  refine z_i2l (pc := 15) C dX7_closing_15 rfl ?_
  first | refine z_aload_n (pc := 16) C dX7_closing_16 rfl ?_ | refine z_aload_nN (pc := 16) C dX7_closing_16 rfl ?_
  refine z_callV (pc := 17) (ci := 7) C dX7_closing_17 zy_X7_wanting kw_562 kw_563 rfl kw_840 (hk_rd hw hi hq h0 h7) (ct_X7_wanting l Ω σ hw i κ hi hq h0 h7) rfl rfl ⟨⟨by decide, by decide⟩, by decide, by decide⟩ (Nat.le_of_ble_eq_true rfl) ?_; dsimp only [Option.toList_some, List.cons_append, List.nil_append]
  refine z_i2l (pc := 20) C dX7_closing_20 rfl ?_
  refine z_lmul (pc := 21) C dX7_closing_21 ?_
  refine z_lstore (pc := 22) C dX7_closing_22 (by rw [hE]; decide) ?_
  first | refine z_aload_n (pc := 24) C dX7_closing_24 rfl ?_ | refine z_aload_nN (pc := 24) C dX7_closing_24 rfl ?_
  refine z_getf (pc := 25) C dX7_closing_25 zf_X7_13_7 (hk_rd (κ := κ) (by exact hw) (by exact hi) (by exact hq) (by exact h0) (by exact h7)) rfl ?_
  refine z_iload_n (pc := 28) C dX7_closing_28 rfl ?_
  refine z_iald (pc := 29) C dX7_closing_29 (Rw.get (rw_rn (κ := κ) (by exact hw) (by exact hi) (by exact hq) (by exact h0) (by exact h7))) (by first | omega | decide | (simp only [unu, upt]; omega)) (by first | decide | omega) rfl ?_
  refine z_i2l (pc := 30) C dX7_closing_30 rfl ?_
  refine z_lload_n (pc := 31) C dX7_closing_31 rfl ?_
  refine z_lmul (pc := 32) C dX7_closing_32 ?_
  refine z_iload_n (pc := 33) C dX7_closing_33 rfl ?_
  -- at 34: ifne 
  refine z_if_neX (pc := 34) (tgt := 43) C dX7_closing_34 (by decide) (by omega) (fun h => ?_) (fun h => ?_)
  · refine z_lload (pc := 43) C dX7_closing_43 rfl ?_
    -- at 45: ladd 
    exact tail _ (by rw [if_neg h])
  · refine z_lload (pc := 37) C dX7_closing_37 rfl ?_
    refine z_lneg (pc := 39) C dX7_closing_39 ?_
    refine z_goto (pc := 40) (tgt := 45) C dX7_closing_40 (by decide) ?_
    -- at 45
    exact tail _ (by rw [if_pos h])
