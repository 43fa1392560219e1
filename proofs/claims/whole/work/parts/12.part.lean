/-! ===== the class: parters 3 ===== -/
set_option maxHeartbeats 4000000 in
set_option maxRecDepth 100000 in
theorem ct_X5_shareOf_3 (l : Launch) (Ω : OmT) (σ : Sg) (hw : KW σ) (i : Nat) (hi : i < σ.2.2.2) (hq : σ.2.2.1 i = 3) (c : Nat) (hc : c < 8) : ZM l Ω yX5_shareOf cX5_shareOf 2 (some .int) rm_X5_shareOf [rfO Ω (bs σ.2.2.1 i), .int (nI c)] (hp Ω σ) (hN σ) (some (.int (σ.1 i 3 (c / 2)))) (hp Ω σ) (hN σ) := by
  refine ZM_of (by decide) (Nat.le_of_ble_eq_true rfl) (fun E hE C hQ => ?_)
  first | refine z_aload_n (pc := 0) C dX5_shareOf_0 rfl ?_ | refine z_aload_nN (pc := 0) C dX5_shareOf_0 rfl ?_
  refine z_getf (pc := 1) C dX5_shareOf_1 zf_X5_26_5 (hk_0 (κ := 3) (by exact hi) (by exact hq)) rfl ?_
  first | refine z_aload_n (pc := 4) C dX5_shareOf_4 rfl ?_ | refine z_aload_nN (pc := 4) C dX5_shareOf_4 rfl ?_
  refine z_getf (pc := 5) C dX5_shareOf_5 zf_X5_29_5 (hk_0 (κ := 3) (by exact hi) (by exact hq)) rfl ?_
  refine z_iconst (pc := 8) (v := nI 3) C dX5_shareOf_8 (by decide) ?_
  -- at 9: if_icmpne 
  refine z_icmp_neF (pc := 9) (tgt := 18) C dX5_shareOf_9 (by decide) (by omega) (by omega) (by omega) ?_
  refine z_iload_n (pc := 12) C dX5_shareOf_12 rfl ?_
  refine z_iconst (pc := 13) (v := nI 2) C dX5_shareOf_13 (by decide) ?_
  first | with_reducible refine z_idivN (pc := 14) C dX5_shareOf_14 (by omega) (by decide) (by decide) ?_ | refine z_idiv (pc := 14) C dX5_shareOf_14 (by decide) ?_
  refine z_goto (pc := 15) (tgt := 21) C dX5_shareOf_15 (by decide) ?_
  -- at 21
  refine z_iald (pc := 21) C dX5_shareOf_21 (Rw.get (rw_nums (κ := 3) hw hi hq)) (by simp only [unu]; omega) (by decide) rfl ?_
  exact z_iret (pc := 22) C hQ dX5_shareOf_22 rfl rfl rfl (by decide) (by decide)
def cPt3 (i c : Nat) (τ : Sg) : Sg :=
  sI (sI (sI (sI τ i 10 c ((τ.1 i 0 c * τ.1 i 3 (c / 2) + τ.1 i 7 c) / nI 10)) i 11 c (τ.1 i 0 c - (τ.1 i 0 c * τ.1 i 3 (c / 2) + τ.1 i 7 c) / nI 10)) i 7 c ((τ.1 i 0 c * τ.1 i 3 (c / 2) + τ.1 i 7 c) - (τ.1 i 0 c * τ.1 i 3 (c / 2) + τ.1 i 7 c) / nI 10 * nI 10)) i 0 c (nI 0)
def cPart3 (σ : Sg) (i : Nat) : Sg := itF (cPt3 i) 8 σ
set_option maxHeartbeats 4000000 in
set_option maxRecDepth 100000 in
theorem ct_X5_give_3 (l : Launch) (Ω : OmT) (σ : Sg) (hw : KW σ) (i : Nat) (hi : i < σ.2.2.2) (hq : σ.2.2.1 i = 3) : ZM l Ω yX5_give cX5_give 4 none rm_X5_give [rfO Ω (bs σ.2.2.1 i)] (hp Ω σ) (hN σ) (none) (hp Ω (cPart3 σ i)) (hN σ) := by
  refine ZM_of (by decide) (Nat.le_of_ble_eq_true rfl) (fun E hE C hQ => ?_)
  have loop : ∀ (k c : Nat) (x : List (Nat × Value)), c + k = 8 → ZV l Ω E 0 0 2 [(0, rfO Ω (bs σ.2.2.1 i)), (1, .int (nI c))] [] (hp Ω (itF (cPt3 i) c σ)) (hN σ) := by
    intro k
    induction k with
    | zero =>
      intro c x hk
      obtain rfl : c = 8 := by omega
      refine z_iload_n (pc := 2) C dX5_give_2 rfl ?_
      refine z_bipush (pc := 3) (v := nI 8) C dX5_give_3 (by decide) ?_
      -- at 5: if_icmpge 
      refine z_icmp_geT (pc := 5) (tgt := 79) C dX5_give_5 (by decide) (by omega) (by omega) (by omega) ?_
      exact z_vret (pc := 79) C hQ dX5_give_79 rfl rfl rfl (by decide) (by decide)
    | succ k ih =>
      intro c x hk
      have h9 := ih (c + 1) [] (by omega)
      rw [show itF (cPt3 i) (c + 1) σ = cPt3 i c (itF (cPt3 i) c σ) from rfl] at h9
      have e22 : (itF (cPt3 i) c σ).2.2 = σ.2.2 := itF_n (f := cPt3 i) (fun _ _ => rfl) σ c
      generalize itF (cPt3 i) c σ = τ at h9 e22 ⊢
      obtain ⟨hw, hi, hq, eb⟩ := st_of e22 hw hi hq
      have en := hN_eq e22
      have hr : τ.2.2.1 i = 3 ∨ τ.2.2.1 i = 4 := by omega
      rw [eb] at h9 ⊢
      unfold cPt3 at h9
      refine z_iload_n (pc := 2) C dX5_give_2 rfl ?_
      refine z_bipush (pc := 3) (v := nI 8) C dX5_give_3 (by decide) ?_
      -- at 5: if_icmpge 
      refine z_icmp_geF (pc := 5) (tgt := 79) C dX5_give_5 (by decide) (by omega) (by omega) (by omega) ?_
      first | refine z_aload_n (pc := 8) C dX5_give_8 rfl ?_ | refine z_aload_nN (pc := 8) C dX5_give_8 rfl ?_
      refine z_getf (pc := 9) C dX5_give_9 zf_X5_15_5 (hk_0 (κ := 3) (by exact hi) (by exact hq)) rfl ?_
      refine z_iload_n (pc := 12) C dX5_give_12 rfl ?_
      refine z_iald (pc := 13) C dX5_give_13 (Rw.get (rw_held (by exact hw) (by exact hi))) (by first | omega | decide | (simp only [unu, upt]; omega)) (by first | decide | omega) rfl ?_
      refine z_istore_n (pc := 14) C dX5_give_14 (by rw [hE]; decide) ?_
      refine z_iload_n (pc := 15) C dX5_give_15 rfl ?_
      first | refine z_aload_n (pc := 16) C dX5_give_16 rfl ?_ | refine z_aload_nN (pc := 16) C dX5_give_16 rfl ?_
      refine z_iload_n (pc := 17) C dX5_give_17 rfl ?_
      refine z_callV (pc := 18) (ci := 5) C dX5_give_18 zy_X5_shareOf kw_375 kw_376 rfl kw_835 (hk_0 (κ := 3) hi hq) (zM_n en (ct_X5_shareOf_3 l Ω τ hw i hi hq c (by omega))) rfl rfl ⟨⟨by decide, by decide⟩, by decide, by decide⟩ (Nat.le_of_ble_eq_true rfl) ?_; dsimp only [Option.toList_some, List.cons_append, List.nil_append]
      first | with_reducible refine z_imulN (pc := 21) C dX5_give_21 ?_ | refine z_imul (pc := 21) C dX5_give_21 ?_
      first | refine z_aload_n (pc := 22) C dX5_give_22 rfl ?_ | refine z_aload_nN (pc := 22) C dX5_give_22 rfl ?_
      refine z_getf (pc := 23) C dX5_give_23 zf_X5_9_5 (hk_0 (κ := 3) (by exact hi) (by exact hq)) rfl ?_
      refine z_iload_n (pc := 26) C dX5_give_26 rfl ?_
      refine z_iald (pc := 27) C dX5_give_27 (Rw.get (rw_rests (by exact hw) (by exact hi) (by first | exact hr | omega))) (by first | omega | decide | (simp only [unu, upt]; omega)) (by first | decide | omega) rfl ?_
      first | with_reducible refine z_iaddN (pc := 28) C dX5_give_28 ?_ | refine z_iadd (pc := 28) C dX5_give_28 ?_
      refine z_istore_n (pc := 29) C dX5_give_29 (by rw [hE]; decide) ?_
      first | refine z_aload_n (pc := 30) C dX5_give_30 rfl ?_ | refine z_aload_nN (pc := 30) C dX5_give_30 rfl ?_
      refine z_getf (pc := 31) C dX5_give_31 zf_X5_22_5 (hk_0 (κ := 3) (by exact hi) (by exact hq)) rfl ?_
      refine z_iconst (pc := 34) (v := nI 0) C dX5_give_34 (by decide) ?_
      refine z_aald (pc := 35) C dX5_give_35 (hk_given (κ := 3) (by exact hi) (by exact hq)) (Or.inr rfl) (by first | decide | omega) (by first | decide | omega) ?_
      refine z_iload_n (pc := 36) C dX5_give_36 rfl ?_
      refine z_iload_n (pc := 37) C dX5_give_37 rfl ?_
      refine z_bipush (pc := 38) (v := nI 10) C dX5_give_38 (by decide) ?_
      first | with_reducible refine z_idivN (pc := 40) C dX5_give_40 (by omega) (by decide) (by decide) ?_ | refine z_idiv (pc := 40) C dX5_give_40 (by decide) ?_
      refine z_iast (pc := 41) C dX5_give_41 (Rw.get (rw_giv0 (κ := 3) (by exact hw) (by exact hi) (by exact hq) (by decide))) (by first | omega | decide | (simp only [unu, upt]; omega)) (by first | decide | omega) (Rw.el (rw_giv0 (κ := 3) (by exact hw) (by exact hi) (by exact hq) (by decide))) ?_
      first | refine z_aload_n (pc := 42) C dX5_give_42 rfl ?_ | refine z_aload_nN (pc := 42) C dX5_give_42 rfl ?_
      refine z_getf (pc := 43) C dX5_give_43 zf_X5_22_5 (hk_0 (κ := 3) (by exact hi) (by exact hq)) rfl ?_
      refine z_iconst (pc := 46) (v := nI 1) C dX5_give_46 (by decide) ?_
      refine z_aald (pc := 47) C dX5_give_47 (hk_given (κ := 3) (by exact hi) (by exact hq)) (Or.inr rfl) (by first | decide | omega) (by first | decide | omega) ?_
      refine z_iload_n (pc := 48) C dX5_give_48 rfl ?_
      refine z_iload_n (pc := 49) C dX5_give_49 rfl ?_
      refine z_iload_n (pc := 50) C dX5_give_50 rfl ?_
      refine z_bipush (pc := 51) (v := nI 10) C dX5_give_51 (by decide) ?_
      first | with_reducible refine z_idivN (pc := 53) C dX5_give_53 (by omega) (by decide) (by decide) ?_ | refine z_idiv (pc := 53) C dX5_give_53 (by decide) ?_
      first | with_reducible refine z_isubN (pc := 54) C dX5_give_54 (by omega) ?_ | refine z_isub (pc := 54) C dX5_give_54 ?_
      refine z_iast (pc := 55) C dX5_give_55 (Rw.get (rw_giv1 (κ := 3) (by exact hw) (by exact hi) (by exact hq) (by decide))) (by first | omega | decide | (simp only [unu, upt]; omega)) (by first | decide | omega) (Rw.el (rw_giv1 (κ := 3) (by exact hw) (by exact hi) (by exact hq) (by decide))) ?_
      first | refine z_aload_n (pc := 56) C dX5_give_56 rfl ?_ | refine z_aload_nN (pc := 56) C dX5_give_56 rfl ?_
      refine z_getf (pc := 57) C dX5_give_57 zf_X5_9_5 (hk_0 (κ := 3) (by exact hi) (by exact hq)) rfl ?_
      refine z_iload_n (pc := 60) C dX5_give_60 rfl ?_
      refine z_iload_n (pc := 61) C dX5_give_61 rfl ?_
      refine z_bipush (pc := 62) (v := nI 10) C dX5_give_62 (by decide) ?_
      first | with_reducible refine z_iremN (pc := 64) C dX5_give_64 (by omega) (by decide) (by decide) ?_ | refine z_irem (pc := 64) C dX5_give_64 (by decide) ?_
      refine z_iast (pc := 65) C dX5_give_65 (Rw.get (rw_rests (by exact hw) (by exact hi) (by first | exact hr | omega))) (by first | omega | decide | (simp only [unu, upt]; omega)) (by first | decide | omega) (Rw.el (rw_rests (by exact hw) (by exact hi) (by first | exact hr | omega))) ?_
      first | refine z_aload_n (pc := 66) C dX5_give_66 rfl ?_ | refine z_aload_nN (pc := 66) C dX5_give_66 rfl ?_
      refine z_getf (pc := 67) C dX5_give_67 zf_X5_15_5 (hk_0 (κ := 3) (by exact hi) (by exact hq)) rfl ?_
      refine z_iload_n (pc := 70) C dX5_give_70 rfl ?_
      refine z_iconst (pc := 71) (v := nI 0) C dX5_give_71 (by decide) ?_
      refine z_iast (pc := 72) C dX5_give_72 (Rw.get (rw_held (by exact hw) (by exact hi))) (by first | omega | decide | (simp only [unu, upt]; omega)) (by first | decide | omega) (Rw.el (rw_held (by exact hw) (by exact hi))) ?_
      first | refine z_iincN (pc := 73) C dX5_give_73 rfl (by rw [hE]; decide) ?_ | refine z_iinc (pc := 73) C dX5_give_73 rfl rfl (by rw [hE]; decide) ?_
      refine z_goto (pc := 76) (tgt := 2) C dX5_give_76 (by decide) ?_
      -- at 2
      refine z_pick [0, 1] rfl ?_
      exact h9
  refine z_iconst (pc := 0) (v := nI 0) C dX5_give_0 (by decide) ?_
  refine z_istore_n (pc := 1) C dX5_give_1 (by rw [hE]; decide) ?_
  -- at 2: iload_1 
  exact loop 8 0 [] rfl
/-! ===== the class: parters 4 ===== -/
set_option maxHeartbeats 4000000 in
set_option maxRecDepth 100000 in
theorem ct_X5_shareOf_4 (l : Launch) (Ω : OmT) (σ : Sg) (hw : KW σ) (i : Nat) (hi : i < σ.2.2.2) (hq : σ.2.2.1 i = 4) (c : Nat) (hc : c < 8) : ZM l Ω yX5_shareOf cX5_shareOf 2 (some .int) rm_X5_shareOf [rfO Ω (bs σ.2.2.1 i), .int (nI c)] (hp Ω σ) (hN σ) (some (.int (σ.1 i 3 (c % 2)))) (hp Ω σ) (hN σ) := by
  refine ZM_of (by decide) (Nat.le_of_ble_eq_true rfl) (fun E hE C hQ => ?_)
  first | refine z_aload_n (pc := 0) C dX5_shareOf_0 rfl ?_ | refine z_aload_nN (pc := 0) C dX5_shareOf_0 rfl ?_
  refine z_getf (pc := 1) C dX5_shareOf_1 zf_X5_26_5 (hk_0 (κ := 4) (by exact hi) (by exact hq)) rfl ?_
  first | refine z_aload_n (pc := 4) C dX5_shareOf_4 rfl ?_ | refine z_aload_nN (pc := 4) C dX5_shareOf_4 rfl ?_
  refine z_getf (pc := 5) C dX5_shareOf_5 zf_X5_29_5 (hk_0 (κ := 4) (by exact hi) (by exact hq)) rfl ?_
  refine z_iconst (pc := 8) (v := nI 3) C dX5_shareOf_8 (by decide) ?_
  -- at 9: if_icmpne 
  refine z_icmp_neT (pc := 9) (tgt := 18) C dX5_shareOf_9 (by decide) (by omega) (by omega) (by omega) ?_
  refine z_iload_n (pc := 18) C dX5_shareOf_18 rfl ?_
  refine z_iconst (pc := 19) (v := nI 2) C dX5_shareOf_19 (by decide) ?_
  first | with_reducible refine z_iremN (pc := 20) C dX5_shareOf_20 (by omega) (by decide) (by decide) ?_ | refine z_irem (pc := 20) C dX5_shareOf_20 (by decide) ?_
  -- at 21: iaload 
  refine z_iald (pc := 21) C dX5_shareOf_21 (Rw.get (rw_nums (κ := 4) hw hi hq)) (by simp only [unu]; omega) (by decide) rfl ?_
  exact z_iret (pc := 22) C hQ dX5_shareOf_22 rfl rfl rfl (by decide) (by decide)
def cPt4 (i c : Nat) (τ : Sg) : Sg :=
  sI (sI (sI (sI τ i 10 c ((τ.1 i 0 c * τ.1 i 3 (c % 2) + τ.1 i 7 c) / nI 10)) i 11 c (τ.1 i 0 c - (τ.1 i 0 c * τ.1 i 3 (c % 2) + τ.1 i 7 c) / nI 10)) i 7 c ((τ.1 i 0 c * τ.1 i 3 (c % 2) + τ.1 i 7 c) - (τ.1 i 0 c * τ.1 i 3 (c % 2) + τ.1 i 7 c) / nI 10 * nI 10)) i 0 c (nI 0)
def cPart4 (σ : Sg) (i : Nat) : Sg := itF (cPt4 i) 8 σ
set_option maxHeartbeats 4000000 in
set_option maxRecDepth 100000 in
theorem ct_X5_give_4 (l : Launch) (Ω : OmT) (σ : Sg) (hw : KW σ) (i : Nat) (hi : i < σ.2.2.2) (hq : σ.2.2.1 i = 4) : ZM l Ω yX5_give cX5_give 4 none rm_X5_give [rfO Ω (bs σ.2.2.1 i)] (hp Ω σ) (hN σ) (none) (hp Ω (cPart4 σ i)) (hN σ) := by
  refine ZM_of (by decide) (Nat.le_of_ble_eq_true rfl) (fun E hE C hQ => ?_)
  have loop : ∀ (k c : Nat) (x : List (Nat × Value)), c + k = 8 → ZV l Ω E 0 0 2 [(0, rfO Ω (bs σ.2.2.1 i)), (1, .int (nI c))] [] (hp Ω (itF (cPt4 i) c σ)) (hN σ) := by
    intro k
    induction k with
    | zero =>
      intro c x hk
      obtain rfl : c = 8 := by omega
      refine z_iload_n (pc := 2) C dX5_give_2 rfl ?_
      refine z_bipush (pc := 3) (v := nI 8) C dX5_give_3 (by decide) ?_
      -- at 5: if_icmpge 
      refine z_icmp_geT (pc := 5) (tgt := 79) C dX5_give_5 (by decide) (by omega) (by omega) (by omega) ?_
      exact z_vret (pc := 79) C hQ dX5_give_79 rfl rfl rfl (by decide) (by decide)
    | succ k ih =>
      intro c x hk
      have h9 := ih (c + 1) [] (by omega)
      rw [show itF (cPt4 i) (c + 1) σ = cPt4 i c (itF (cPt4 i) c σ) from rfl] at h9
      have e22 : (itF (cPt4 i) c σ).2.2 = σ.2.2 := itF_n (f := cPt4 i) (fun _ _ => rfl) σ c
      generalize itF (cPt4 i) c σ = τ at h9 e22 ⊢
      obtain ⟨hw, hi, hq, eb⟩ := st_of e22 hw hi hq
      have en := hN_eq e22
      have hr : τ.2.2.1 i = 3 ∨ τ.2.2.1 i = 4 := by omega
      rw [eb] at h9 ⊢
      unfold cPt4 at h9
      refine z_iload_n (pc := 2) C dX5_give_2 rfl ?_
      refine z_bipush (pc := 3) (v := nI 8) C dX5_give_3 (by decide) ?_
      -- at 5: if_icmpge 
      refine z_icmp_geF (pc := 5) (tgt := 79) C dX5_give_5 (by decide) (by omega) (by omega) (by omega) ?_
      first | refine z_aload_n (pc := 8) C dX5_give_8 rfl ?_ | refine z_aload_nN (pc := 8) C dX5_give_8 rfl ?_
      refine z_getf (pc := 9) C dX5_give_9 zf_X5_15_5 (hk_0 (κ := 4) (by exact hi) (by exact hq)) rfl ?_
      refine z_iload_n (pc := 12) C dX5_give_12 rfl ?_
      refine z_iald (pc := 13) C dX5_give_13 (Rw.get (rw_held (by exact hw) (by exact hi))) (by first | omega | decide | (simp only [unu, upt]; omega)) (by first | decide | omega) rfl ?_
      refine z_istore_n (pc := 14) C dX5_give_14 (by rw [hE]; decide) ?_
      refine z_iload_n (pc := 15) C dX5_give_15 rfl ?_
      first | refine z_aload_n (pc := 16) C dX5_give_16 rfl ?_ | refine z_aload_nN (pc := 16) C dX5_give_16 rfl ?_
      refine z_iload_n (pc := 17) C dX5_give_17 rfl ?_
      refine z_callV (pc := 18) (ci := 5) C dX5_give_18 zy_X5_shareOf kw_375 kw_376 rfl kw_835 (hk_0 (κ := 4) hi hq) (zM_n en (ct_X5_shareOf_4 l Ω τ hw i hi hq c (by omega))) rfl rfl ⟨⟨by decide, by decide⟩, by decide, by decide⟩ (Nat.le_of_ble_eq_true rfl) ?_; dsimp only [Option.toList_some, List.cons_append, List.nil_append]
      first | with_reducible refine z_imulN (pc := 21) C dX5_give_21 ?_ | refine z_imul (pc := 21) C dX5_give_21 ?_
      first | refine z_aload_n (pc := 22) C dX5_give_22 rfl ?_ | refine z_aload_nN (pc := 22) C dX5_give_22 rfl ?_
      refine z_getf (pc := 23) C dX5_give_23 zf_X5_9_5 (hk_0 (κ := 4) (by exact hi) (by exact hq)) rfl ?_
      refine z_iload_n (pc := 26) C dX5_give_26 rfl ?_
      refine z_iald (pc := 27) C dX5_give_27 (Rw.get (rw_rests (by exact hw) (by exact hi) (by first | exact hr | omega))) (by first | omega | decide | (simp only [unu, upt]; omega)) (by first | decide | omega) rfl ?_
      first | with_reducible refine z_iaddN (pc := 28) C dX5_give_28 ?_ | refine z_iadd (pc := 28) C dX5_give_28 ?_
      refine z_istore_n (pc := 29) C dX5_give_29 (by rw [hE]; decide) ?_
      first | refine z_aload_n (pc := 30) C dX5_give_30 rfl ?_ | refine z_aload_nN (pc := 30) C dX5_give_30 rfl ?_
      refine z_getf (pc := 31) C dX5_give_31 zf_X5_22_5 (hk_0 (κ := 4) (by exact hi) (by exact hq)) rfl ?_
      refine z_iconst (pc := 34) (v := nI 0) C dX5_give_34 (by decide) ?_
      refine z_aald (pc := 35) C dX5_give_35 (hk_given (κ := 4) (by exact hi) (by exact hq)) (Or.inr rfl) (by first | decide | omega) (by first | decide | omega) ?_
      refine z_iload_n (pc := 36) C dX5_give_36 rfl ?_
      refine z_iload_n (pc := 37) C dX5_give_37 rfl ?_
      refine z_bipush (pc := 38) (v := nI 10) C dX5_give_38 (by decide) ?_
      first | with_reducible refine z_idivN (pc := 40) C dX5_give_40 (by omega) (by decide) (by decide) ?_ | refine z_idiv (pc := 40) C dX5_give_40 (by decide) ?_
      refine z_iast (pc := 41) C dX5_give_41 (Rw.get (rw_giv0 (κ := 4) (by exact hw) (by exact hi) (by exact hq) (by decide))) (by first | omega | decide | (simp only [unu, upt]; omega)) (by first | decide | omega) (Rw.el (rw_giv0 (κ := 4) (by exact hw) (by exact hi) (by exact hq) (by decide))) ?_
      first | refine z_aload_n (pc := 42) C dX5_give_42 rfl ?_ | refine z_aload_nN (pc := 42) C dX5_give_42 rfl ?_
      refine z_getf (pc := 43) C dX5_give_43 zf_X5_22_5 (hk_0 (κ := 4) (by exact hi) (by exact hq)) rfl ?_
      refine z_iconst (pc := 46) (v := nI 1) C dX5_give_46 (by decide) ?_
      refine z_aald (pc := 47) C dX5_give_47 (hk_given (κ := 4) (by exact hi) (by exact hq)) (Or.inr rfl) (by first | decide | omega) (by first | decide | omega) ?_
      refine z_iload_n (pc := 48) C dX5_give_48 rfl ?_
      refine z_iload_n (pc := 49) C dX5_give_49 rfl ?_
      refine z_iload_n (pc := 50) C dX5_give_50 rfl ?_
      refine z_bipush (pc := 51) (v := nI 10) C dX5_give_51 (by decide) ?_
      first | with_reducible refine z_idivN (pc := 53) C dX5_give_53 (by omega) (by decide) (by decide) ?_ | refine z_idiv (pc := 53) C dX5_give_53 (by decide) ?_
      first | with_reducible refine z_isubN (pc := 54) C dX5_give_54 (by omega) ?_ | refine z_isub (pc := 54) C dX5_give_54 ?_
      refine z_iast (pc := 55) C dX5_give_55 (Rw.get (rw_giv1 (κ := 4) (by exact hw) (by exact hi) (by exact hq) (by decide))) (by first | omega | decide | (simp only [unu, upt]; omega)) (by first | decide | omega) (Rw.el (rw_giv1 (κ := 4) (by exact hw) (by exact hi) (by exact hq) (by decide))) ?_
      first | refine z_aload_n (pc := 56) C dX5_give_56 rfl ?_ | refine z_aload_nN (pc := 56) C dX5_give_56 rfl ?_
      refine z_getf (pc := 57) C dX5_give_57 zf_X5_9_5 (hk_0 (κ := 4) (by exact hi) (by exact hq)) rfl ?_
      refine z_iload_n (pc := 60) C dX5_give_60 rfl ?_
      refine z_iload_n (pc := 61) C dX5_give_61 rfl ?_
      refine z_bipush (pc := 62) (v := nI 10) C dX5_give_62 (by decide) ?_
      first | with_reducible refine z_iremN (pc := 64) C dX5_give_64 (by omega) (by decide) (by decide) ?_ | refine z_irem (pc := 64) C dX5_give_64 (by decide) ?_
      refine z_iast (pc := 65) C dX5_give_65 (Rw.get (rw_rests (by exact hw) (by exact hi) (by first | exact hr | omega))) (by first | omega | decide | (simp only [unu, upt]; omega)) (by first | decide | omega) (Rw.el (rw_rests (by exact hw) (by exact hi) (by first | exact hr | omega))) ?_
      first | refine z_aload_n (pc := 66) C dX5_give_66 rfl ?_ | refine z_aload_nN (pc := 66) C dX5_give_66 rfl ?_
      refine z_getf (pc := 67) C dX5_give_67 zf_X5_15_5 (hk_0 (κ := 4) (by exact hi) (by exact hq)) rfl ?_
      refine z_iload_n (pc := 70) C dX5_give_70 rfl ?_
      refine z_iconst (pc := 71) (v := nI 0) C dX5_give_71 (by decide) ?_
      refine z_iast (pc := 72) C dX5_give_72 (Rw.get (rw_held (by exact hw) (by exact hi))) (by first | omega | decide | (simp only [unu, upt]; omega)) (by first | decide | omega) (Rw.el (rw_held (by exact hw) (by exact hi))) ?_
      first | refine z_iincN (pc := 73) C dX5_give_73 rfl (by rw [hE]; decide) ?_ | refine z_iinc (pc := 73) C dX5_give_73 rfl rfl (by rw [hE]; decide) ?_
      refine z_goto (pc := 76) (tgt := 2) C dX5_give_76 (by decide) ?_
      -- at 2
      refine z_pick [0, 1] rfl ?_
      exact h9
  refine z_iconst (pc := 0) (v := nI 0) C dX5_give_0 (by decide) ?_
  refine z_istore_n (pc := 1) C dX5_give_1 (by rw [hE]; decide) ?_
  -- at 2: iload_1 
  exact loop 8 0 [] rfl
