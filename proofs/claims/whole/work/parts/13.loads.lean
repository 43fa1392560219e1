/-! ===== the class: loads ===== -/
abbrev ldOk (w g p : Int32) : Prop := inR 1 1000 w ∧ inR 0 100 g ∧ inR 0 1000 p
set_option maxHeartbeats 4000000 in
set_option maxRecDepth 100000 in
theorem ct_X3_isGood (l : Launch) (Ω : OmT) (A : AHp) (n a : Nat) (w g p : Int32) : ZM l Ω yX3_isGood cX3_isGood 4 (some .boolean) rm_X3_isGood [rfO Ω a, .int w, .int g, .int p] (A) (n) (some (.int (b01 (ldOk w g p)))) (A) (n) := by
  refine ZM_of (by decide) (Nat.le_of_ble_eq_true rfl) (fun E hE C hQ => ?_)
  have no : ¬ ldOk w g p → ZV l Ω E 0 0 37 [(0, rfO Ω a), (1, .int w), (2, .int g), (3, .int p)] [] A n := by
    intro h
    refine z_iconst (pc := 37) (v := nI 0) C dX3_isGood_37 (by decide) ?_
    -- at 38: ireturn 
    exact z_zret (pc := 38) C hQ dX3_isGood_38 rfl (by rw [b01_f h]; rfl) rfl rfl (by decide) (by decide)
  refine z_iload_n (pc := 0) C dX3_isGood_0 rfl ?_
  refine z_iconst (pc := 1) (v := nI 1) C dX3_isGood_1 (by decide) ?_
  -- at 2: if_icmplt 
  refine z_icmp_lt (pc := 2) (tgt := 37) C dX3_isGood_2 (by decide) (fun h1 => ?_) (fun h1 => ?_)
  · exact no (fun z => absurd h1 (Int32.not_lt.mpr z.1.1))
  refine z_iload_n (pc := 5) C dX3_isGood_5 rfl ?_
  refine z_sipush (pc := 6) (v := nI 1000) C dX3_isGood_6 (by decide) ?_
  -- at 9: if_icmpgt 
  refine z_icmp_gt (pc := 9) (tgt := 37) C dX3_isGood_9 (by decide) (fun h2 => ?_) (fun h2 => ?_)
  · exact no (fun z => absurd h2 (Int32.not_lt.mpr z.1.2))
  refine z_iload_n (pc := 12) C dX3_isGood_12 rfl ?_
  -- at 13: iflt 
  refine z_if_lt (pc := 13) (tgt := 37) C dX3_isGood_13 (by decide) (fun h3 => ?_) (fun h3 => ?_)
  · exact no (fun z => absurd h3 (Int32.not_lt.mpr z.2.1.1))
  refine z_iload_n (pc := 16) C dX3_isGood_16 rfl ?_
  refine z_bipush (pc := 17) (v := nI 100) C dX3_isGood_17 (by decide) ?_
  -- at 19: if_icmpgt 
  refine z_icmp_gt (pc := 19) (tgt := 37) C dX3_isGood_19 (by decide) (fun h4 => ?_) (fun h4 => ?_)
  · exact no (fun z => absurd h4 (Int32.not_lt.mpr z.2.1.2))
  refine z_iload_n (pc := 22) C dX3_isGood_22 rfl ?_
  -- at 23: iflt 
  refine z_if_lt (pc := 23) (tgt := 37) C dX3_isGood_23 (by decide) (fun h5 => ?_) (fun h5 => ?_)
  · exact no (fun z => absurd h5 (Int32.not_lt.mpr z.2.2.1))
  refine z_iload_n (pc := 26) C dX3_isGood_26 rfl ?_
  refine z_sipush (pc := 27) (v := nI 1000) C dX3_isGood_27 (by decide) ?_
  -- at 30: if_icmpgt 
  refine z_icmp_gt (pc := 30) (tgt := 37) C dX3_isGood_30 (by decide) (fun h6 => ?_) (fun h6 => ?_)
  · exact no (fun z => absurd h6 (Int32.not_lt.mpr z.2.2.2))
  refine z_iconst (pc := 33) (v := nI 1) C dX3_isGood_33 (by decide) ?_
  refine z_goto (pc := 34) (tgt := 38) C dX3_isGood_34 (by decide) ?_
  -- at 38: ireturn 
  exact z_zret (pc := 38) C hQ dX3_isGood_38 rfl (by rw [b01_t ⟨⟨Int32.not_lt.mp h1, Int32.not_lt.mp h2⟩, ⟨Int32.not_lt.mp h3, Int32.not_lt.mp h4⟩, Int32.not_lt.mp h5, Int32.not_lt.mp h6⟩]; rfl) rfl rfl (by decide) (by decide)
set_option maxHeartbeats 4000000 in
set_option maxRecDepth 100000 in
theorem ct_X3_isFull (l : Launch) (Ω : OmT) (σ : Sg) (L : Nat) (hL : L ≤ 10) (eL : σ.1 10 0 2 = nI L) : ZM l Ω yX3_isFull cX3_isFull 1 (some .boolean) rm_X3_isFull [rfO Ω 2] (hp Ω σ) (hN σ) (some (.int (b01 (L = 10)))) (hp Ω σ) (hN σ) := by
  refine ZM_of (by decide) (Nat.le_of_ble_eq_true rfl) (fun E hE C hQ => ?_)
  first | refine z_aload_n (pc := 0) C dX3_isFull_0 rfl ?_ | refine z_aload_nN (pc := 0) C dX3_isFull_0 rfl ?_
  refine z_getf (pc := 1) C dX3_isFull_1 zf_X3_21_3 rfl rfl ?_; rw [eL]
  refine z_bipush (pc := 4) (v := nI 10) C dX3_isFull_4 (by decide) ?_
  -- at 6: if_icmplt 
  refine z_icmp_lt (pc := 6) (tgt := 13) C dX3_isFull_6 (by decide) (fun h => ?_) (fun h => ?_)
  · have h := (nI_ltI (by omega) (by decide)).mp h
    refine z_iconst (pc := 13) (v := nI 0) C dX3_isFull_13 (by decide) ?_
    -- at 14: ireturn 
    exact z_zret (pc := 14) C hQ dX3_isFull_14 rfl (by rw [b01_f (by omega)]; rfl) rfl rfl (by decide) (by decide)
  · have h : ¬ L < 10 := fun z => h ((nI_ltI (by omega) (by decide)).mpr z)
    refine z_iconst (pc := 9) (v := nI 1) C dX3_isFull_9 (by decide) ?_
    refine z_goto (pc := 10) (tgt := 14) C dX3_isFull_10 (by decide) ?_
    -- at 14: ireturn 
    exact z_zret (pc := 14) C hQ dX3_isFull_14 rfl (by rw [b01_t (by omega)]; rfl) rfl rfl (by decide) (by decide)
def cPtS (L : Nat) (w g p : Int32) (s : Nat) (τ : Sg) : Sg := sI (sI (sI τ 10 1 (2 ^ L + s) (τ.1 10 1 s + w)) 10 2 (2 ^ L + s) (τ.1 10 2 s + g * w)) 10 3 (2 ^ L + s) (τ.1 10 3 s + p)
def cPut (σ : Sg) (L : Nat) (w g p : Int32) : Sg := sI (itF (cPtS L w g p) (2 ^ L) σ) 10 0 2 (nI (L + 1))
set_option maxHeartbeats 4000000 in
set_option maxRecDepth 100000 in
theorem ct_X3_put (l : Launch) (Ω : OmT) (σ : Sg) (hw : KW σ) (L : Nat) (hL : L < 10) (eL : σ.1 10 0 2 = nI L) (w g p : Int32) : ZM l Ω yX3_put cX3_put 6 (some .int) rm_X3_put [rfO Ω 2, .int w, .int g, .int p] (hp Ω σ) (hN σ) (some (.int (nI L))) (hp Ω (cPut σ L w g p)) (hN σ) := by
  refine ZM_of (by decide) (Nat.le_of_ble_eq_true rfl) (fun E hE C hQ => ?_)
  have hp9 : 2 ^ L ≤ 512 := Nat.le_trans (Nat.pow_le_pow_right (by decide) (show L ≤ 9 by omega)) (by decide)
  unfold cPut at hQ
  have loop : ∀ (k s : Nat), s + k = 2 ^ L → ZV l Ω E 0 0 11 [(0, rfO Ω 2), (1, .int w), (2, .int g), (3, .int p), (4, .int (nI (2 ^ L))), (5, .int (nI s))] [] (hp Ω (itF (cPtS L w g p) s σ)) (hN σ) := by
    intro k
    induction k with
    | zero =>
      intro s hk
      obtain rfl : s = 2 ^ L := by omega
      have e22 : (itF (cPtS L w g p) (2 ^ L) σ).2.2 = σ.2.2 := itF_n (f := cPtS L w g p) (fun _ _ => rfl) σ _
      have e0 : (itF (cPtS L w g p) (2 ^ L) σ).1 10 0 2 = nI L := by
        rw [show (itF (cPtS L w g p) (2 ^ L) σ).1 10 0 = σ.1 10 0 from itF_row (f := cPtS L w g p) (fun τ => τ.1 10 0) (fun c τ => by funext j; simp [cPtS, sI]) σ _]
        exact eL
      generalize itF (cPtS L w g p) (2 ^ L) σ = τ at hQ e22 e0 ⊢
      have hw := hw.of e22
      have e1 : (sI τ 10 0 2 (nI (L + 1))).1 10 0 2 = nI (L + 1) := by simp [sI]
      refine z_iload (pc := 11) C dX3_put_11 rfl ?_
      refine z_iload (pc := 13) C dX3_put_13 rfl ?_
      -- at 15: if_icmpge 
      refine z_icmp_geT (pc := 15) (tgt := 94) C dX3_put_15 (by decide) (by omega) (by omega) (by omega) ?_
      first | refine z_aload_n (pc := 94) C dX3_put_94 rfl ?_ | refine z_aload_nN (pc := 94) C dX3_put_94 rfl ?_
      refine z_dup (pc := 95) C dX3_put_95 rfl ?_
      refine z_getf (pc := 96) C dX3_put_96 zf_X3_21_3 rfl rfl ?_
      -- at 99: iconst_1 
      rw [e0]
      refine z_iconst (pc := 99) (v := nI 1) C dX3_put_99 (by decide) ?_
      first | with_reducible refine z_iaddN (pc := 100) C dX3_put_100 ?_ | refine z_iadd (pc := 100) C dX3_put_100 ?_
      refine z_putfI (pc := 101) C dX3_put_101 zp_X3_21_3 rfl (Nat.le_of_ble_eq_true rfl) (hl_put (by exact hw)) ?_
      first | refine z_aload_n (pc := 104) C dX3_put_104 rfl ?_ | refine z_aload_nN (pc := 104) C dX3_put_104 rfl ?_
      refine z_getf (pc := 105) C dX3_put_105 zf_X3_21_3 rfl rfl ?_
      -- at 108: iconst_1 
      rw [e1]
      refine z_iconst (pc := 108) (v := nI 1) C dX3_put_108 (by decide) ?_
      first | with_reducible refine z_isubN (pc := 109) C dX3_put_109 (by omega) ?_ | refine z_isub (pc := 109) C dX3_put_109 ?_
      -- at 110: ireturn 
      exact z_iret (pc := 110) C hQ dX3_put_110 rfl rfl rfl (by decide) (by decide)
    | succ k ih =>
      intro s hk
      have h9 := ih (s + 1) (by omega)
      rw [show itF (cPtS L w g p) (s + 1) σ = cPtS L w g p s (itF (cPtS L w g p) s σ) from rfl] at h9
      have e22 : (itF (cPtS L w g p) s σ).2.2 = σ.2.2 := itF_n (f := cPtS L w g p) (fun _ _ => rfl) σ _
      generalize itF (cPtS L w g p) s σ = τ at h9 e22 ⊢
      have hw := hw.of e22
      unfold cPtS at h9
      refine z_iload (pc := 11) C dX3_put_11 rfl ?_
      refine z_iload (pc := 13) C dX3_put_13 rfl ?_
      -- at 15: if_icmpge 
      refine z_icmp_geF (pc := 15) (tgt := 94) C dX3_put_15 (by decide) (by omega) (by omega) (by omega) ?_
      refine z_iload (pc := 18) C dX3_put_18 rfl ?_
      refine z_iload (pc := 20) C dX3_put_20 rfl ?_
      first | with_reducible refine z_iaddN (pc := 22) C dX3_put_22 ?_ | refine z_iadd (pc := 22) C dX3_put_22 ?_
      refine z_sipush (pc := 23) (v := nI 1024) C dX3_put_23 (by decide) ?_
      -- at 26: if_icmpge 
      refine z_icmp_geF (pc := 26) (tgt := 94) C dX3_put_26 (by decide) (by omega) (by omega) (by omega) ?_
      first | refine z_aload_n (pc := 29) C dX3_put_29 rfl ?_ | refine z_aload_nN (pc := 29) C dX3_put_29 rfl ?_
      refine z_getf (pc := 30) C dX3_put_30 zf_X3_11_3 rfl rfl ?_
      refine z_iload (pc := 33) C dX3_put_33 rfl ?_
      refine z_iload (pc := 35) C dX3_put_35 rfl ?_
      first | with_reducible refine z_iaddN (pc := 37) C dX3_put_37 ?_ | refine z_iadd (pc := 37) C dX3_put_37 ?_
      first | refine z_aload_n (pc := 38) C dX3_put_38 rfl ?_ | refine z_aload_nN (pc := 38) C dX3_put_38 rfl ?_
      refine z_getf (pc := 39) C dX3_put_39 zf_X3_11_3 rfl rfl ?_
      refine z_iload (pc := 42) C dX3_put_42 rfl ?_
      refine z_iald (pc := 44) (N := 1024) C dX3_put_44 rfl (by omega) (by decide) rfl ?_
      refine z_iload_n (pc := 45) C dX3_put_45 rfl ?_
      first | with_reducible refine z_iaddN (pc := 46) C dX3_put_46 ?_ | refine z_iadd (pc := 46) C dX3_put_46 ?_
      refine z_iast (pc := 47) (N := 1024) C dX3_put_47 rfl (by omega) (by decide) (hl_row (by exact hw) 1 (by decide)) ?_
      first | refine z_aload_n (pc := 48) C dX3_put_48 rfl ?_ | refine z_aload_nN (pc := 48) C dX3_put_48 rfl ?_
      refine z_getf (pc := 49) C dX3_put_49 zf_X3_15_3 rfl rfl ?_
      refine z_iload (pc := 52) C dX3_put_52 rfl ?_
      refine z_iload (pc := 54) C dX3_put_54 rfl ?_
      first | with_reducible refine z_iaddN (pc := 56) C dX3_put_56 ?_ | refine z_iadd (pc := 56) C dX3_put_56 ?_
      first | refine z_aload_n (pc := 57) C dX3_put_57 rfl ?_ | refine z_aload_nN (pc := 57) C dX3_put_57 rfl ?_
      refine z_getf (pc := 58) C dX3_put_58 zf_X3_15_3 rfl rfl ?_
      refine z_iload (pc := 61) C dX3_put_61 rfl ?_
      refine z_iald (pc := 63) (N := 1024) C dX3_put_63 rfl (by omega) (by decide) rfl ?_
      refine z_iload_n (pc := 64) C dX3_put_64 rfl ?_
      refine z_iload_n (pc := 65) C dX3_put_65 rfl ?_
      first | with_reducible refine z_imulN (pc := 66) C dX3_put_66 ?_ | refine z_imul (pc := 66) C dX3_put_66 ?_
      first | with_reducible refine z_iaddN (pc := 67) C dX3_put_67 ?_ | refine z_iadd (pc := 67) C dX3_put_67 ?_
      refine z_iast (pc := 68) (N := 1024) C dX3_put_68 rfl (by omega) (by decide) (hl_row (by exact hw) 2 (by decide)) ?_
      first | refine z_aload_n (pc := 69) C dX3_put_69 rfl ?_ | refine z_aload_nN (pc := 69) C dX3_put_69 rfl ?_
      refine z_getf (pc := 70) C dX3_put_70 zf_X3_18_3 rfl rfl ?_
      refine z_iload (pc := 73) C dX3_put_73 rfl ?_
      refine z_iload (pc := 75) C dX3_put_75 rfl ?_
      first | with_reducible refine z_iaddN (pc := 77) C dX3_put_77 ?_ | refine z_iadd (pc := 77) C dX3_put_77 ?_
      first | refine z_aload_n (pc := 78) C dX3_put_78 rfl ?_ | refine z_aload_nN (pc := 78) C dX3_put_78 rfl ?_
      refine z_getf (pc := 79) C dX3_put_79 zf_X3_18_3 rfl rfl ?_
      refine z_iload (pc := 82) C dX3_put_82 rfl ?_
      refine z_iald (pc := 84) (N := 1024) C dX3_put_84 rfl (by omega) (by decide) rfl ?_
      refine z_iload_n (pc := 85) C dX3_put_85 rfl ?_
      first | with_reducible refine z_iaddN (pc := 86) C dX3_put_86 ?_ | refine z_iadd (pc := 86) C dX3_put_86 ?_
      refine z_iast (pc := 87) (N := 1024) C dX3_put_87 rfl (by omega) (by decide) (hl_row (by exact hw) 3 (by decide)) ?_
      first | refine z_iincN (pc := 88) C dX3_put_88 rfl (by rw [hE]; decide) ?_ | refine z_iinc (pc := 88) C dX3_put_88 rfl rfl (by rw [hE]; decide) ?_
      refine z_goto (pc := 91) (tgt := 11) C dX3_put_91 (by decide) ?_
      -- at 11
      exact h9
  refine z_iconst (pc := 0) (v := nI 1) C dX3_put_0 (by decide) ?_
  first | refine z_aload_n (pc := 1) C dX3_put_1 rfl ?_ | refine z_aload_nN (pc := 1) C dX3_put_1 rfl ?_
  refine z_getf (pc := 2) C dX3_put_2 zf_X3_21_3 rfl rfl ?_; rw [eL]
  refine z_ishl (pc := 5) C dX3_put_5 ?_
  -- at 6: istore 
  rw [sh_1 L (by omega)]
  refine z_istore (pc := 6) C dX3_put_6 (by rw [hE]; decide) ?_
  refine z_iconst (pc := 8) (v := nI 0) C dX3_put_8 (by decide) ?_
  refine z_istore (pc := 9) C dX3_put_9 (by rw [hE]; decide) ?_
  -- at 11: iload 
  exact loop (2 ^ L) 0 (by omega)
set_option maxHeartbeats 4000000 in
set_option maxRecDepth 100000 in
theorem ct_X3_clear (l : Launch) (Ω : OmT) (σ : Sg) (hw : KW σ) : ZM l Ω yX3_clear cX3_clear 2 (some .int) rm_X3_clear [rfO Ω 2] (hp Ω σ) (hN σ) (some (.int (σ.1 10 0 2))) (hp Ω (sI σ 10 0 2 (nI 0))) (hN σ) := by
  refine ZM_of (by decide) (Nat.le_of_ble_eq_true rfl) (fun E hE C hQ => ?_)
  first | refine z_aload_n (pc := 0) C dX3_clear_0 rfl ?_ | refine z_aload_nN (pc := 0) C dX3_clear_0 rfl ?_
  refine z_getf (pc := 1) C dX3_clear_1 zf_X3_21_3 rfl rfl ?_
  refine z_istore_n (pc := 4) C dX3_clear_4 (by rw [hE]; decide) ?_
  first | refine z_aload_n (pc := 5) C dX3_clear_5 rfl ?_ | refine z_aload_nN (pc := 5) C dX3_clear_5 rfl ?_
  refine z_iconst (pc := 6) (v := nI 0) C dX3_clear_6 (by decide) ?_
  refine z_putfI (pc := 7) C dX3_clear_7 zp_X3_21_3 rfl (Nat.le_of_ble_eq_true rfl) (hl_put (by exact hw)) ?_
  refine z_iload_n (pc := 10) C dX3_clear_10 rfl ?_
  -- at 11: ireturn 
  exact z_iret (pc := 11) C hQ dX3_clear_11 rfl rfl rfl (by decide) (by decide)
def chS (σ : Sg) (lo hi g : Int32) : Nat → Int32 × Int32
  | 0 => (-1, nI 0)
  | s + 1 => if σ.1 10 1 s < lo then chS σ lo hi g s else if hi < σ.1 10 1 s then chS σ lo hi g s else if σ.1 10 2 s < g * σ.1 10 1 s then chS σ lo hi g s else if (chS σ lo hi g s).1 = -1 then (nI s, σ.1 10 3 s) else if σ.1 10 3 s < (chS σ lo hi g s).2 then (nI s, σ.1 10 3 s) else chS σ lo hi g s
set_option maxHeartbeats 4000000 in
set_option maxRecDepth 100000 in
theorem ct_X3_choose (l : Launch) (Ω : OmT) (σ : Sg) (L : Nat) (hL : L ≤ 10) (eL : σ.1 10 0 2 = nI L) (lo hi g : Int32) : ZM l Ω yX3_choose cX3_choose 8 (some .int) rm_X3_choose [rfO Ω 2, .int lo, .int hi, .int g] (hp Ω σ) (hN σ) (some (.int (chS σ lo hi g (2 ^ L)).1)) (hp Ω σ) (hN σ) := by
  refine ZM_of (by decide) (Nat.le_of_ble_eq_true rfl) (fun E hE C hQ => ?_)
  have hp9 : 2 ^ L ≤ 1024 := Nat.le_trans (Nat.pow_le_pow_right (by decide) hL) (by decide)
  have loop : ∀ (k s : Nat), s + k = 2 ^ L → ZV l Ω E 0 0 9 [(0, rfO Ω 2), (1, .int lo), (2, .int hi), (3, .int g), (4, .int (chS σ lo hi g s).1), (5, .int (chS σ lo hi g s).2), (6, .int (nI s))] [] (hp Ω σ) (hN σ) := by
    intro k
    induction k with
    | zero =>
      intro s hk
      obtain rfl : s = 2 ^ L := by omega
      refine z_iload (pc := 9) C dX3_choose_9 rfl ?_
      refine z_iconst (pc := 11) (v := nI 1) C dX3_choose_11 (by decide) ?_
      first | refine z_aload_n (pc := 12) C dX3_choose_12 rfl ?_ | refine z_aload_nN (pc := 12) C dX3_choose_12 rfl ?_
      refine z_getf (pc := 13) C dX3_choose_13 zf_X3_21_3 rfl rfl ?_; rw [eL]
      refine z_ishl (pc := 16) C dX3_choose_16 ?_
      -- at 17: if_icmpge 
      rw [sh_1 L (by omega)]
      refine z_icmp_geT (pc := 17) (tgt := 118) C dX3_choose_17 (by decide) (by omega) (by omega) (by omega) ?_
      refine z_iload (pc := 118) C dX3_choose_118 rfl ?_
      -- at 120: ireturn 
      exact z_iret (pc := 120) C hQ dX3_choose_120 rfl rfl rfl (by decide) (by decide)
    | succ k ih =>
      intro s hk
      have h9 := ih (s + 1) (by omega)
      rw [show chS σ lo hi g (s + 1) = if σ.1 10 1 s < lo then chS σ lo hi g s else if hi < σ.1 10 1 s then chS σ lo hi g s else if σ.1 10 2 s < g * σ.1 10 1 s then chS σ lo hi g s else if (chS σ lo hi g s).1 = -1 then (nI s, σ.1 10 3 s) else if σ.1 10 3 s < (chS σ lo hi g s).2 then (nI s, σ.1 10 3 s) else chS σ lo hi g s from rfl] at h9
      have keep : ∀ v : Value, (ZV l Ω E 0 0 9 [(0, rfO Ω 2), (1, .int lo), (2, .int hi), (3, .int g), (4, .int (chS σ lo hi g s).1), (5, .int (chS σ lo hi g s).2), (6, .int (nI (s + 1)))] [] (hp Ω σ) (hN σ)) → ZV l Ω E 0 0 112 [(0, rfO Ω 2), (1, .int lo), (2, .int hi), (3, .int g), (4, .int (chS σ lo hi g s).1), (5, .int (chS σ lo hi g s).2), (6, .int (nI s)), (7, v)] [] (hp Ω σ) (hN σ) := by
        intro v hk
        first | refine z_iincN (pc := 112) C dX3_choose_112 rfl (by rw [hE]; decide) ?_ | refine z_iinc (pc := 112) C dX3_choose_112 rfl rfl (by rw [hE]; decide) ?_
        refine z_goto (pc := 115) (tgt := 9) C dX3_choose_115 (by decide) ?_
        -- at 9
        refine z_pick [0, 1, 2, 3, 4, 5, 6] rfl ?_
        exact hk
      have no : (ZV l Ω E 0 0 9 [(0, rfO Ω 2), (1, .int lo), (2, .int hi), (3, .int g), (4, .int (chS σ lo hi g s).1), (5, .int (chS σ lo hi g s).2), (6, .int (nI (s + 1)))] [] (hp Ω σ) (hN σ)) → ZV l Ω E 0 0 54 [(0, rfO Ω 2), (1, .int lo), (2, .int hi), (3, .int g), (4, .int (chS σ lo hi g s).1), (5, .int (chS σ lo hi g s).2), (6, .int (nI s))] [] (hp Ω σ) (hN σ) := by
        intro hk
        refine z_iconst (pc := 54) (v := nI 0) C dX3_choose_54 (by decide) ?_
        refine z_istore (pc := 55) C dX3_choose_55 (by rw [hE]; decide) ?_
        refine z_iload (pc := 57) C dX3_choose_57 rfl ?_
        -- at 59: ifeq 
        refine z_if_eqT (pc := 59) (tgt := 112) C dX3_choose_59 (by decide) (by omega) ?_
        exact keep _ hk
      have take : (ZV l Ω E 0 0 9 [(0, rfO Ω 2), (1, .int lo), (2, .int hi), (3, .int g), (4, .int (nI s)), (5, .int (σ.1 10 3 s)), (6, .int (nI (s + 1)))] [] (hp Ω σ) (hN σ)) → ZV l Ω E 0 0 99 [(0, rfO Ω 2), (1, .int lo), (2, .int hi), (3, .int g), (4, .int (chS σ lo hi g s).1), (5, .int (chS σ lo hi g s).2), (6, .int (nI s)), (7, .int (nI 1))] [] (hp Ω σ) (hN σ) := by
        intro hk
        refine z_iload (pc := 99) C dX3_choose_99 rfl ?_
        refine z_istore (pc := 101) C dX3_choose_101 (by rw [hE]; decide) ?_
        first | refine z_aload_n (pc := 103) C dX3_choose_103 rfl ?_ | refine z_aload_nN (pc := 103) C dX3_choose_103 rfl ?_
        refine z_getf (pc := 104) C dX3_choose_104 zf_X3_18_3 rfl rfl ?_
        refine z_iload (pc := 107) C dX3_choose_107 rfl ?_
        refine z_iald (pc := 109) (N := 1024) C dX3_choose_109 rfl (by omega) (by decide) rfl ?_
        refine z_istore (pc := 110) C dX3_choose_110 (by rw [hE]; decide) ?_
        first | refine z_iincN (pc := 112) C dX3_choose_112 rfl (by rw [hE]; decide) ?_ | refine z_iinc (pc := 112) C dX3_choose_112 rfl rfl (by rw [hE]; decide) ?_
        refine z_goto (pc := 115) (tgt := 9) C dX3_choose_115 (by decide) ?_
        -- at 9
        refine z_pick [0, 1, 2, 3, 4, 5, 6] rfl ?_
        exact hk
      refine z_iload (pc := 9) C dX3_choose_9 rfl ?_
      refine z_iconst (pc := 11) (v := nI 1) C dX3_choose_11 (by decide) ?_
      first | refine z_aload_n (pc := 12) C dX3_choose_12 rfl ?_ | refine z_aload_nN (pc := 12) C dX3_choose_12 rfl ?_
      refine z_getf (pc := 13) C dX3_choose_13 zf_X3_21_3 rfl rfl ?_; rw [eL]
      refine z_ishl (pc := 16) C dX3_choose_16 ?_
      -- at 17: if_icmpge 
      rw [sh_1 L (by omega)]
      refine z_icmp_geF (pc := 17) (tgt := 118) C dX3_choose_17 (by decide) (by omega) (by omega) (by omega) ?_
      refine z_iload (pc := 20) C dX3_choose_20 rfl ?_
      refine z_sipush (pc := 22) (v := nI 1024) C dX3_choose_22 (by decide) ?_
      -- at 25: if_icmpge 
      refine z_icmp_geF (pc := 25) (tgt := 118) C dX3_choose_25 (by decide) (by omega) (by omega) (by omega) ?_
      first | refine z_aload_n (pc := 28) C dX3_choose_28 rfl ?_ | refine z_aload_nN (pc := 28) C dX3_choose_28 rfl ?_
      refine z_getf (pc := 29) C dX3_choose_29 zf_X3_11_3 rfl rfl ?_
      refine z_iload (pc := 32) C dX3_choose_32 rfl ?_
      refine z_iald (pc := 34) (N := 1024) C dX3_choose_34 rfl (by omega) (by decide) rfl ?_
      refine z_iload_n (pc := 35) C dX3_choose_35 rfl ?_
      -- at 36: if_icmplt 
      refine z_icmp_lt (pc := 36) (tgt := 54) C dX3_choose_36 (by decide) (fun q1 => ?_) (fun q1 => ?_)
      · rw [if_pos q1] at h9
        exact no h9
      rw [if_neg q1] at h9
      first | refine z_aload_n (pc := 39) C dX3_choose_39 rfl ?_ | refine z_aload_nN (pc := 39) C dX3_choose_39 rfl ?_
      refine z_getf (pc := 40) C dX3_choose_40 zf_X3_11_3 rfl rfl ?_
      refine z_iload (pc := 43) C dX3_choose_43 rfl ?_
      refine z_iald (pc := 45) (N := 1024) C dX3_choose_45 rfl (by omega) (by decide) rfl ?_
      refine z_iload_n (pc := 46) C dX3_choose_46 rfl ?_
      -- at 47: if_icmpgt 
      refine z_icmp_gt (pc := 47) (tgt := 54) C dX3_choose_47 (by decide) (fun q2 => ?_) (fun q2 => ?_)
      · rw [if_pos q2] at h9
        exact no h9
      rw [if_neg q2] at h9
      refine z_iconst (pc := 50) (v := nI 1) C dX3_choose_50 (by decide) ?_
      refine z_goto (pc := 51) (tgt := 55) C dX3_choose_51 (by decide) ?_
      refine z_istore (pc := 55) C dX3_choose_55 (by rw [hE]; decide) ?_
      refine z_iload (pc := 57) C dX3_choose_57 rfl ?_
      -- at 59: ifeq 
      refine z_if_eqF (pc := 59) (tgt := 112) C dX3_choose_59 (by decide) (by omega) (by omega) ?_
      first | refine z_aload_n (pc := 62) C dX3_choose_62 rfl ?_ | refine z_aload_nN (pc := 62) C dX3_choose_62 rfl ?_
      refine z_getf (pc := 63) C dX3_choose_63 zf_X3_15_3 rfl rfl ?_
      refine z_iload (pc := 66) C dX3_choose_66 rfl ?_
      refine z_iald (pc := 68) (N := 1024) C dX3_choose_68 rfl (by omega) (by decide) rfl ?_
      refine z_iload_n (pc := 69) C dX3_choose_69 rfl ?_
      first | refine z_aload_n (pc := 70) C dX3_choose_70 rfl ?_ | refine z_aload_nN (pc := 70) C dX3_choose_70 rfl ?_
      refine z_getf (pc := 71) C dX3_choose_71 zf_X3_11_3 rfl rfl ?_
      refine z_iload (pc := 74) C dX3_choose_74 rfl ?_
      refine z_iald (pc := 76) (N := 1024) C dX3_choose_76 rfl (by omega) (by decide) rfl ?_
      first | with_reducible refine z_imulN (pc := 77) C dX3_choose_77 ?_ | refine z_imul (pc := 77) C dX3_choose_77 ?_
      -- at 78: if_icmplt 
      refine z_icmp_lt (pc := 78) (tgt := 112) C dX3_choose_78 (by decide) (fun q3 => ?_) (fun q3 => ?_)
      · rw [if_pos q3] at h9
        exact keep _ h9
      rw [if_neg q3] at h9
      refine z_iload (pc := 81) C dX3_choose_81 rfl ?_
      refine z_iconst (pc := 83) (v := (-1)) C dX3_choose_83 (by decide) ?_
      -- at 84: if_icmpeq 
      refine z_icmp_eq (pc := 84) (tgt := 99) C dX3_choose_84 (by decide) (fun q4 => ?_) (fun q4 => ?_)
      · rw [if_pos q4] at h9
        exact take h9
      rw [if_neg q4] at h9
      first | refine z_aload_n (pc := 87) C dX3_choose_87 rfl ?_ | refine z_aload_nN (pc := 87) C dX3_choose_87 rfl ?_
      refine z_getf (pc := 88) C dX3_choose_88 zf_X3_18_3 rfl rfl ?_
      refine z_iload (pc := 91) C dX3_choose_91 rfl ?_
      refine z_iald (pc := 93) (N := 1024) C dX3_choose_93 rfl (by omega) (by decide) rfl ?_
      refine z_iload (pc := 94) C dX3_choose_94 rfl ?_
      -- at 96: if_icmpge 
      refine z_icmp_ge (pc := 96) (tgt := 112) C dX3_choose_96 (by decide) (fun q5 => ?_) (fun q5 => ?_)
      · rw [if_neg (Int32.not_lt.mpr q5)] at h9
        exact keep _ h9
      rw [if_pos (Int32.not_le.mp q5)] at h9
      exact take h9
  refine z_iconst (pc := 0) (v := (-1)) C dX3_choose_0 (by decide) ?_
  refine z_istore (pc := 1) C dX3_choose_1 (by rw [hE]; decide) ?_
  refine z_iconst (pc := 3) (v := nI 0) C dX3_choose_3 (by decide) ?_
  refine z_istore (pc := 4) C dX3_choose_4 (by rw [hE]; decide) ?_
  refine z_iconst (pc := 6) (v := nI 0) C dX3_choose_6 (by decide) ?_
  refine z_istore (pc := 7) C dX3_choose_7 (by rw [hE]; decide) ?_
  -- at 9: iload 
  exact loop (2 ^ L) 0 (by omega)
