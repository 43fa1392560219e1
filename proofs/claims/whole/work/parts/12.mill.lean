/-! ===== the class: mills ===== -/
/-- what stays in a state that is σ but for rows -/
theorem st_of {σ τ : Sg} {i κ : Nat} (e : τ.2.2 = σ.2.2) (hw : KW σ) (hi : i < σ.2.2.2) (hq : σ.2.2.1 i = κ) : KW τ ∧ i < τ.2.2.2 ∧ τ.2.2.1 i = κ ∧ σ.2.2.1 = τ.2.2.1 := by
  refine ⟨hw.of e, ?_, ?_, ?_⟩
  · rw [e]; exact hi
  · rw [e]; exact hq
  · rw [e]
def s_tell (σ : Sg) (i a j : Nat) (x : Int32) : Sg := if j < 4 then sI σ i 3 (4 * a + j) x else σ
set_option maxHeartbeats 4000000 in
set_option maxRecDepth 100000 in
theorem ct_X4_tellTenths (l : Launch) (Ω : OmT) (σ : Sg) (hw : KW σ) (i : Nat) (hi : i < σ.2.2.2) (hq : σ.2.2.1 i = 2) (a j : Nat) (ha : a < 4) (hj : j < 10) (x : Int32) : ZM l Ω yX4_tellTenths cX4_tellTenths 4 none rm_X4_tellTenths [rfO Ω (bs σ.2.2.1 i), .int (nI a), .int (nI j), .int x] (hp Ω σ) (hN σ) (none) (hp Ω (s_tell σ i a j x)) (hN σ) := by
  refine ZM_of (by decide) (Nat.le_of_ble_eq_true rfl) (fun E hE C hQ => ?_)
  refine z_iload_n (pc := 0) C dX4_tellTenths_0 rfl ?_
  refine z_callSN (pc := 1) C dX4_tellTenths_1 zy_X10_isSize (by decide +kernel) kw_287 (ct_X10_isSize l Ω _ _ _) rfl rfl ⟨⟨by decide, by decide⟩, by decide, by decide⟩ (Nat.le_of_ble_eq_true rfl) ?_; dsimp only [Option.toList_some, List.cons_append, List.nil_append]
  -- at 4: ifeq 
  refine z_ifeqB (pc := 4) (tgt := 25) C dX4_tellTenths_4 (by decide) (fun h => absurd (inR_nI (by omega) (by omega) (by omega)) h) (fun h => ?_)
  refine z_iload_n (pc := 7) C dX4_tellTenths_7 rfl ?_
  refine z_callSN (pc := 8) C dX4_tellTenths_8 zy_X10_isSize (by decide +kernel) kw_287 (ct_X10_isSize l Ω _ _ _) rfl rfl ⟨⟨by decide, by decide⟩, by decide, by decide⟩ (Nat.le_of_ble_eq_true rfl) ?_; dsimp only [Option.toList_some, List.cons_append, List.nil_append]
  -- at 11: ifeq 
  refine z_ifeqB (pc := 11) (tgt := 25) C dX4_tellTenths_11 (by decide) (fun h2 => ?_) (fun h2 => ?_)
  · exact z_vret (pc := 25) C hQ dX4_tellTenths_25 rfl (by unfold s_tell; rw [if_neg (fun z => h2 (inR_nI (by omega) (by omega) (by omega)))]) rfl (by decide) (by decide)
  · have h3 : j < 4 := by
      obtain ⟨k, -, hk, e⟩ := inR_of (by decide) (by decide) h2
      have := nI_inj (by omega) (by omega) e
      omega
    first | refine z_aload_n (pc := 14) C dX4_tellTenths_14 rfl ?_ | refine z_aload_nN (pc := 14) C dX4_tellTenths_14 rfl ?_
    refine z_getf (pc := 15) C dX4_tellTenths_15 zf_X4_9_4 (hk_0 (κ := 2) (by exact hi) (by exact hq)) rfl ?_
    refine z_iconst (pc := 18) (v := nI 4) C dX4_tellTenths_18 (by decide) ?_
    refine z_iload_n (pc := 19) C dX4_tellTenths_19 rfl ?_
    first | with_reducible refine z_imulN (pc := 20) C dX4_tellTenths_20 ?_ | refine z_imul (pc := 20) C dX4_tellTenths_20 ?_
    refine z_iload_n (pc := 21) C dX4_tellTenths_21 rfl ?_
    first | with_reducible refine z_iaddN (pc := 22) C dX4_tellTenths_22 ?_ | refine z_iadd (pc := 22) C dX4_tellTenths_22 ?_
    refine z_iload_n (pc := 23) C dX4_tellTenths_23 rfl ?_
    refine z_iast (pc := 24) C dX4_tellTenths_24 (Rw.get (rw_nums (κ := 2) (by exact hw) (by exact hi) (by exact hq))) (by first | omega | decide | (simp only [unu, upt]; omega)) (by first | decide | omega) (Rw.el (rw_nums (κ := 2) (by exact hw) (by exact hi) (by exact hq))) ?_
    -- at 25: return 
    exact z_vret (pc := 25) C hQ dX4_tellTenths_25 rfl (by unfold s_tell; rw [if_pos h3]) rfl (by decide) (by decide)
def s_brk (σ : Sg) (i a : Nat) (x y z : Int32) : Sg := s_tell (s_tell (s_tell (sI σ i 3 (4 * a + a) (nI 10 - x - y - z)) i a (a + 1) x) i a (a + 2) y) i a (a + 3) z
theorem s_tell_n (σ : Sg) (i a j : Nat) (x : Int32) : (s_tell σ i a j x).2 = σ.2 := by unfold s_tell; split <;> rfl
set_option maxHeartbeats 4000000 in
set_option maxRecDepth 100000 in
theorem ct_X4_breakSize (l : Launch) (Ω : OmT) (σ : Sg) (hw : KW σ) (i : Nat) (hi : i < σ.2.2.2) (hq : σ.2.2.1 i = 2) (a : Nat) (ha : a < 4) (x y z : Int32) : ZM l Ω yX4_breakSize cX4_breakSize 5 none rm_X4_breakSize [rfO Ω (bs σ.2.2.1 i), .int (nI a), .int x, .int y, .int z] (hp Ω σ) (hN σ) (none) (hp Ω (s_brk σ i a x y z)) (hN σ) := by
  refine ZM_of (by decide) (Nat.le_of_ble_eq_true rfl) (fun E hE C hQ => ?_)
  have hQ' : ZQ Ω E none (hp Ω (s_tell (s_tell (s_tell (sI σ i 3 (4 * a + a) (nI 10 - x - y - z)) i a (a + 1) x) i a (a + 2) y) i a (a + 3) z)) (hN σ) rm_X4_breakSize.cells rm_X4_breakSize.slots := hQ
  generalize h0 : sI σ i 3 (4 * a + a) (nI 10 - x - y - z) = σ0 at hQ'
  have e0 : σ0.2.2 = σ.2.2 := by rw [← h0]; rfl
  generalize h1 : s_tell σ0 i a (a + 1) x = σ1 at hQ'
  have e1 : σ1.2.2 = σ.2.2 := by rw [← h1, s_tell_n, e0]
  generalize h2 : s_tell σ1 i a (a + 2) y = σ2 at hQ'
  have e2 : σ2.2.2 = σ.2.2 := by rw [← h2, s_tell_n, e1]
  obtain ⟨hw0, hi0, hq0, eb0⟩ := st_of e0 hw hi hq
  obtain ⟨hw1, hi1, hq1, eb1⟩ := st_of e1 hw hi hq
  obtain ⟨hw2, hi2, hq2, eb2⟩ := st_of e2 hw hi hq
  have c0 := zM_n (hN_eq e0) (ct_X4_tellTenths l Ω σ0 hw0 i hi0 hq0 a (a + 1) ha (by omega) x)
  have c1 := zM_n (hN_eq e1) (ct_X4_tellTenths l Ω σ1 hw1 i hi1 hq1 a (a + 2) ha (by omega) y)
  have c2 := zM_n (hN_eq e2) (ct_X4_tellTenths l Ω σ2 hw2 i hi2 hq2 a (a + 3) ha (by omega) z)
  rw [← eb0, h1] at c0
  rw [← eb1, h2] at c1
  rw [← eb2] at c2
  have g0 := hk_0 (Ω := Ω) hi0 hq0
  have g1 := hk_0 (Ω := Ω) hi1 hq1
  have g2 := hk_0 (Ω := Ω) hi2 hq2
  rw [← eb0] at g0
  rw [← eb1] at g1
  rw [← eb2] at g2
  first | refine z_aload_n (pc := 0) C dX4_breakSize_0 rfl ?_ | refine z_aload_nN (pc := 0) C dX4_breakSize_0 rfl ?_
  refine z_getf (pc := 1) C dX4_breakSize_1 zf_X4_9_4 (hk_0 (κ := 2) (by exact hi) (by exact hq)) rfl ?_
  refine z_iconst (pc := 4) (v := nI 4) C dX4_breakSize_4 (by decide) ?_
  refine z_iload_n (pc := 5) C dX4_breakSize_5 rfl ?_
  first | with_reducible refine z_imulN (pc := 6) C dX4_breakSize_6 ?_ | refine z_imul (pc := 6) C dX4_breakSize_6 ?_
  refine z_iload_n (pc := 7) C dX4_breakSize_7 rfl ?_
  first | with_reducible refine z_iaddN (pc := 8) C dX4_breakSize_8 ?_ | refine z_iadd (pc := 8) C dX4_breakSize_8 ?_
  refine z_bipush (pc := 9) (v := nI 10) C dX4_breakSize_9 (by decide) ?_
  refine z_iload_n (pc := 11) C dX4_breakSize_11 rfl ?_
  first | with_reducible refine z_isubN (pc := 12) C dX4_breakSize_12 (by omega) ?_ | refine z_isub (pc := 12) C dX4_breakSize_12 ?_
  refine z_iload_n (pc := 13) C dX4_breakSize_13 rfl ?_
  first | with_reducible refine z_isubN (pc := 14) C dX4_breakSize_14 (by omega) ?_ | refine z_isub (pc := 14) C dX4_breakSize_14 ?_
  refine z_iload (pc := 15) C dX4_breakSize_15 rfl ?_
  first | with_reducible refine z_isubN (pc := 17) C dX4_breakSize_17 (by omega) ?_ | refine z_isub (pc := 17) C dX4_breakSize_17 ?_
  refine z_iast (pc := 18) C dX4_breakSize_18 (Rw.get (rw_nums (κ := 2) (by exact hw) (by exact hi) (by exact hq))) (by first | omega | decide | (simp only [unu, upt]; omega)) (by first | decide | omega) (Rw.el (rw_nums (κ := 2) (by exact hw) (by exact hi) (by exact hq))) ?_
  -- at 19: aload_0 
  rw [h0]
  first | refine z_aload_n (pc := 19) C dX4_breakSize_19 rfl ?_ | refine z_aload_nN (pc := 19) C dX4_breakSize_19 rfl ?_
  refine z_iload_n (pc := 20) C dX4_breakSize_20 rfl ?_
  refine z_iload_n (pc := 21) C dX4_breakSize_21 rfl ?_
  refine z_iconst (pc := 22) (v := nI 1) C dX4_breakSize_22 (by decide) ?_
  first | with_reducible refine z_iaddN (pc := 23) C dX4_breakSize_23 ?_ | refine z_iadd (pc := 23) C dX4_breakSize_23 ?_
  refine z_iload_n (pc := 24) C dX4_breakSize_24 rfl ?_
  -- at 25: invokevirtual Method tellTenths:(III)V
  refine z_callV (pc := 25) (ci := 4) C dX4_breakSize_25 zy_X4_tellTenths kw_300 kw_301 rfl kw_832 (g0) (c0) rfl rfl ⟨⟨by decide, by decide⟩, by decide, by decide⟩ (Nat.le_of_ble_eq_true rfl) ?_; dsimp only [Option.toList_none, List.nil_append]
  first | refine z_aload_n (pc := 28) C dX4_breakSize_28 rfl ?_ | refine z_aload_nN (pc := 28) C dX4_breakSize_28 rfl ?_
  refine z_iload_n (pc := 29) C dX4_breakSize_29 rfl ?_
  refine z_iload_n (pc := 30) C dX4_breakSize_30 rfl ?_
  refine z_iconst (pc := 31) (v := nI 2) C dX4_breakSize_31 (by decide) ?_
  first | with_reducible refine z_iaddN (pc := 32) C dX4_breakSize_32 ?_ | refine z_iadd (pc := 32) C dX4_breakSize_32 ?_
  refine z_iload_n (pc := 33) C dX4_breakSize_33 rfl ?_
  -- at 34: invokevirtual Method tellTenths:(III)V
  refine z_callV (pc := 34) (ci := 4) C dX4_breakSize_34 zy_X4_tellTenths kw_300 kw_301 rfl kw_832 (g1) (c1) rfl rfl ⟨⟨by decide, by decide⟩, by decide, by decide⟩ (Nat.le_of_ble_eq_true rfl) ?_; dsimp only [Option.toList_none, List.nil_append]
  first | refine z_aload_n (pc := 37) C dX4_breakSize_37 rfl ?_ | refine z_aload_nN (pc := 37) C dX4_breakSize_37 rfl ?_
  refine z_iload_n (pc := 38) C dX4_breakSize_38 rfl ?_
  refine z_iload_n (pc := 39) C dX4_breakSize_39 rfl ?_
  refine z_iconst (pc := 40) (v := nI 3) C dX4_breakSize_40 (by decide) ?_
  first | with_reducible refine z_iaddN (pc := 41) C dX4_breakSize_41 ?_ | refine z_iadd (pc := 41) C dX4_breakSize_41 ?_
  refine z_iload (pc := 42) C dX4_breakSize_42 rfl ?_
  -- at 44: invokevirtual Method tellTenths:(III)V
  refine z_callV (pc := 44) (ci := 4) C dX4_breakSize_44 zy_X4_tellTenths kw_300 kw_301 rfl kw_832 (g2) (c2) rfl rfl ⟨⟨by decide, by decide⟩, by decide, by decide⟩ (Nat.le_of_ble_eq_true rfl) ?_; dsimp only [Option.toList_none, List.nil_append]
  exact z_vret (pc := 47) C hQ' dX4_breakSize_47 rfl rfl rfl (by decide) (by decide)
def gGo (x t : Int32) : Int32 := x * t / nI 10
def cGrS (i z s : Nat) (x : Int32) (T : Nat → Int32) (q : Nat) (τ : Sg) : Sg := sI τ i 10 (2 * (z + 1 + q) + s) (τ.1 i 10 (2 * (z + 1 + q) + s) + gGo x (T (z + 1 + q)))
def cGrL (z : Nat) (x : Int32) (T : Nat → Int32) : Nat → Int32
  | 0 => x
  | q + 1 => cGrL z x T q - gGo x (T (z + 1 + q))
def cGrind (σ : Sg) (i z s : Nat) : Sg :=
  sI (sI (itF (cGrS i z s (σ.1 i 0 (2 * z + s)) (fun j => σ.1 i 3 (4 * z + j))) (3 - z) σ) i 10 (2 * z + s) ((itF (cGrS i z s (σ.1 i 0 (2 * z + s)) (fun j => σ.1 i 3 (4 * z + j))) (3 - z) σ).1 i 10 (2 * z + s) + cGrL z (σ.1 i 0 (2 * z + s)) (fun j => σ.1 i 3 (4 * z + j)) (3 - z))) i 0 (2 * z + s) (nI 0)
set_option maxHeartbeats 4000000 in
set_option maxRecDepth 100000 in
theorem ct_X4_grind (l : Launch) (Ω : OmT) (σ : Sg) (hw : KW σ) (i : Nat) (hi : i < σ.2.2.2) (hq : σ.2.2.1 i = 2) (z s : Nat) (hz : z < 4) (hs : s < 2) : ZM l Ω yX4_grind cX4_grind 8 none rm_X4_grind [rfO Ω (bs σ.2.2.1 i), .int (nI (2 * z + s))] (hp Ω σ) (hN σ) (none) (hp Ω (cGrind σ i z s)) (hN σ) := by
  refine ZM_of (by decide) (Nat.le_of_ble_eq_true rfl) (fun E hE C hQ => ?_)
  have d1 : (2 * z + s) / 2 = z := by omega
  have d2 : (2 * z + s) % 2 = s := by omega
  unfold cGrind at hQ
  have e0 : ∀ q, (itF (cGrS i z s (σ.1 i 0 (2 * z + s)) (fun j => σ.1 i 3 (4 * z + j))) q σ).1 i 3 = σ.1 i 3 := fun q => itF_row (f := cGrS i z s (σ.1 i 0 (2 * z + s)) (fun j => σ.1 i 3 (4 * z + j))) (fun τ => τ.1 i 3) (fun c τ => by funext j; simp [cGrS, sI]) σ q
  have e22 : ∀ q, (itF (cGrS i z s (σ.1 i 0 (2 * z + s)) (fun j => σ.1 i 3 (4 * z + j))) q σ).2.2 = σ.2.2 := fun q => itF_n (f := cGrS i z s (σ.1 i 0 (2 * z + s)) (fun j => σ.1 i 3 (4 * z + j))) (fun _ _ => rfl) σ q
  have h5 := fun q => show itF (cGrS i z s (σ.1 i 0 (2 * z + s)) (fun j => σ.1 i 3 (4 * z + j))) (q + 1) σ = cGrS i z s (σ.1 i 0 (2 * z + s)) (fun j => σ.1 i 3 (4 * z + j)) q (itF (cGrS i z s (σ.1 i 0 (2 * z + s)) (fun j => σ.1 i 3 (4 * z + j))) q σ) from rfl
  have h6 := fun q => show cGrL z (σ.1 i 0 (2 * z + s)) (fun j => σ.1 i 3 (4 * z + j)) (q + 1) = cGrL z (σ.1 i 0 (2 * z + s)) (fun j => σ.1 i 3 (4 * z + j)) q - gGo (σ.1 i 0 (2 * z + s)) (σ.1 i 3 (4 * z + (z + 1 + q))) from rfl
  have loop : ∀ (k q : Nat) (x7 : List (Nat × Value)), q + k = 3 - z → ZV l Ω E 0 0 25 [(0, rfO Ω (bs σ.2.2.1 i)), (1, .int (nI (2 * z + s))), (2, .int (nI z)), (3, .int (nI s)), (4, .int (σ.1 i 0 (2 * z + s))), (5, .int (cGrL z (σ.1 i 0 (2 * z + s)) (fun j => σ.1 i 3 (4 * z + j)) q)), (6, .int (nI (z + 1 + q)))] [] (hp Ω (itF (cGrS i z s (σ.1 i 0 (2 * z + s)) (fun j => σ.1 i 3 (4 * z + j))) q σ)) (hN σ) := by
    intro k
    induction k with
    | zero =>
      intro q x7 hk
      obtain rfl : q = 3 - z := by omega
      have e22 := e22 (3 - z)
      generalize itF (cGrS i z s (σ.1 i 0 (2 * z + s)) (fun j => σ.1 i 3 (4 * z + j))) (3 - z) σ = τ at hQ e22 ⊢
      obtain ⟨hw, hi, hq, eb⟩ := st_of e22 hw hi hq
      rw [eb]
      refine z_iload (pc := 25) C dX4_grind_25 rfl ?_
      refine z_iconst (pc := 27) (v := nI 4) C dX4_grind_27 (by decide) ?_
      -- at 28: if_icmpge 
      refine z_icmp_geT (pc := 28) (tgt := 81) C dX4_grind_28 (by decide) (by omega) (by omega) (by omega) ?_
      first | refine z_aload_n (pc := 81) C dX4_grind_81 rfl ?_ | refine z_aload_nN (pc := 81) C dX4_grind_81 rfl ?_
      refine z_getf (pc := 82) C dX4_grind_82 zf_X4_23_4 (hk_0 (κ := 2) (by exact hi) (by exact hq)) rfl ?_
      refine z_iconst (pc := 85) (v := nI 0) C dX4_grind_85 (by decide) ?_
      refine z_aald (pc := 86) C dX4_grind_86 (hk_given (κ := 2) (by exact hi) (by exact hq)) (Or.inr rfl) (by first | decide | omega) (by first | decide | omega) ?_
      refine z_iload_n (pc := 87) C dX4_grind_87 rfl ?_
      refine z_dup2 (pc := 88) C dX4_grind_88 rfl rfl ?_
      refine z_iald (pc := 89) C dX4_grind_89 (Rw.get (rw_giv0 (κ := 2) (by exact hw) (by exact hi) (by exact hq) (by decide))) (by first | omega | decide | (simp only [unu, upt]; omega)) (by first | decide | omega) rfl ?_
      refine z_iload (pc := 90) C dX4_grind_90 rfl ?_
      first | with_reducible refine z_iaddN (pc := 92) C dX4_grind_92 ?_ | refine z_iadd (pc := 92) C dX4_grind_92 ?_
      refine z_iast (pc := 93) C dX4_grind_93 (Rw.get (rw_giv0 (κ := 2) (by exact hw) (by exact hi) (by exact hq) (by decide))) (by first | omega | decide | (simp only [unu, upt]; omega)) (by first | decide | omega) (Rw.el (rw_giv0 (κ := 2) (by exact hw) (by exact hi) (by exact hq) (by decide))) ?_
      first | refine z_aload_n (pc := 94) C dX4_grind_94 rfl ?_ | refine z_aload_nN (pc := 94) C dX4_grind_94 rfl ?_
      refine z_getf (pc := 95) C dX4_grind_95 zf_X4_33_4 (hk_0 (κ := 2) (by exact hi) (by exact hq)) rfl ?_
      refine z_iload_n (pc := 98) C dX4_grind_98 rfl ?_
      refine z_iconst (pc := 99) (v := nI 0) C dX4_grind_99 (by decide) ?_
      refine z_iast (pc := 100) C dX4_grind_100 (Rw.get (rw_held (by exact hw) (by exact hi))) (by first | omega | decide | (simp only [unu, upt]; omega)) (by first | decide | omega) (Rw.el (rw_held (by exact hw) (by exact hi))) ?_
      -- at 101: return 
      exact z_vret (pc := 101) C hQ dX4_grind_101 rfl rfl rfl (by decide) (by decide)
    | succ k ih =>
      intro q x7 hk
      have h9 := ih (q + 1) [] (by omega)
      rw [h5 q, h6 q] at h9
      have e3 := e0 q
      have e22 := e22 q
      generalize itF (cGrS i z s (σ.1 i 0 (2 * z + s)) (fun j => σ.1 i 3 (4 * z + j))) q σ = τ at h9 e3 e22 ⊢
      have h9' : ZV l Ω E 0 0 25 [(0, rfO Ω (bs σ.2.2.1 i)), (1, .int (nI (2 * z + s))), (2, .int (nI z)), (3, .int (nI s)), (4, .int (σ.1 i 0 (2 * z + s))), (5, .int (cGrL z (σ.1 i 0 (2 * z + s)) (fun j => σ.1 i 3 (4 * z + j)) q - σ.1 i 0 (2 * z + s) * σ.1 i 3 (4 * z + (z + 1 + q)) / nI 10)), (6, .int (nI (z + 1 + q + 1)))] [] (hp Ω (sI τ i 10 (2 * (z + 1 + q) + s) (τ.1 i 10 (2 * (z + 1 + q) + s) + σ.1 i 0 (2 * z + s) * σ.1 i 3 (4 * z + (z + 1 + q)) / nI 10))) (hN σ) := h9
      generalize cGrL z (σ.1 i 0 (2 * z + s)) (fun j => σ.1 i 3 (4 * z + j)) q = L at h9' ⊢
      rw [← e3] at h9'
      clear h9
      obtain ⟨hw, hi, hq, eb⟩ := st_of e22 hw hi hq
      rw [eb] at h9' ⊢
      refine z_iload (pc := 25) C dX4_grind_25 rfl ?_
      refine z_iconst (pc := 27) (v := nI 4) C dX4_grind_27 (by decide) ?_
      -- at 28: if_icmpge 
      refine z_icmp_geF (pc := 28) (tgt := 81) C dX4_grind_28 (by decide) (by omega) (by omega) (by omega) ?_
      refine z_iload (pc := 31) C dX4_grind_31 rfl ?_
      first | refine z_aload_n (pc := 33) C dX4_grind_33 rfl ?_ | refine z_aload_nN (pc := 33) C dX4_grind_33 rfl ?_
      refine z_getf (pc := 34) C dX4_grind_34 zf_X4_9_4 (hk_0 (κ := 2) (by exact hi) (by exact hq)) rfl ?_
      refine z_iconst (pc := 37) (v := nI 4) C dX4_grind_37 (by decide) ?_
      refine z_iload_n (pc := 38) C dX4_grind_38 rfl ?_
      first | with_reducible refine z_imulN (pc := 39) C dX4_grind_39 ?_ | refine z_imul (pc := 39) C dX4_grind_39 ?_
      refine z_iload (pc := 40) C dX4_grind_40 rfl ?_
      first | with_reducible refine z_iaddN (pc := 42) C dX4_grind_42 ?_ | refine z_iadd (pc := 42) C dX4_grind_42 ?_
      refine z_iald (pc := 43) C dX4_grind_43 (Rw.get (rw_nums (κ := 2) (by exact hw) (by exact hi) (by exact hq))) (by first | omega | decide | (simp only [unu, upt]; omega)) (by first | decide | omega) rfl ?_
      first | with_reducible refine z_imulN (pc := 44) C dX4_grind_44 ?_ | refine z_imul (pc := 44) C dX4_grind_44 ?_
      refine z_bipush (pc := 45) (v := nI 10) C dX4_grind_45 (by decide) ?_
      first | with_reducible refine z_idivN (pc := 47) C dX4_grind_47 (by omega) (by decide) (by decide) ?_ | refine z_idiv (pc := 47) C dX4_grind_47 (by decide) ?_
      refine z_istore (pc := 48) C dX4_grind_48 (by rw [hE]; decide) ?_
      first | refine z_aload_n (pc := 50) C dX4_grind_50 rfl ?_ | refine z_aload_nN (pc := 50) C dX4_grind_50 rfl ?_
      refine z_getf (pc := 51) C dX4_grind_51 zf_X4_23_4 (hk_0 (κ := 2) (by exact hi) (by exact hq)) rfl ?_
      refine z_iconst (pc := 54) (v := nI 0) C dX4_grind_54 (by decide) ?_
      refine z_aald (pc := 55) C dX4_grind_55 (hk_given (κ := 2) (by exact hi) (by exact hq)) (Or.inr rfl) (by first | decide | omega) (by first | decide | omega) ?_
      refine z_iconst (pc := 56) (v := nI 2) C dX4_grind_56 (by decide) ?_
      refine z_iload (pc := 57) C dX4_grind_57 rfl ?_
      first | with_reducible refine z_imulN (pc := 59) C dX4_grind_59 ?_ | refine z_imul (pc := 59) C dX4_grind_59 ?_
      refine z_iload_n (pc := 60) C dX4_grind_60 rfl ?_
      first | with_reducible refine z_iaddN (pc := 61) C dX4_grind_61 ?_ | refine z_iadd (pc := 61) C dX4_grind_61 ?_
      refine z_dup2 (pc := 62) C dX4_grind_62 rfl rfl ?_
      refine z_iald (pc := 63) C dX4_grind_63 (Rw.get (rw_giv0 (κ := 2) (by exact hw) (by exact hi) (by exact hq) (by decide))) (by first | omega | decide | (simp only [unu, upt]; omega)) (by first | decide | omega) rfl ?_
      refine z_iload (pc := 64) C dX4_grind_64 rfl ?_
      first | with_reducible refine z_iaddN (pc := 66) C dX4_grind_66 ?_ | refine z_iadd (pc := 66) C dX4_grind_66 ?_
      refine z_iast (pc := 67) C dX4_grind_67 (Rw.get (rw_giv0 (κ := 2) (by exact hw) (by exact hi) (by exact hq) (by decide))) (by first | omega | decide | (simp only [unu, upt]; omega)) (by first | decide | omega) (Rw.el (rw_giv0 (κ := 2) (by exact hw) (by exact hi) (by exact hq) (by decide))) ?_
      refine z_iload (pc := 68) C dX4_grind_68 rfl ?_
      refine z_iload (pc := 70) C dX4_grind_70 rfl ?_
      first | with_reducible refine z_isubN (pc := 72) C dX4_grind_72 (by omega) ?_ | refine z_isub (pc := 72) C dX4_grind_72 ?_
      refine z_istore (pc := 73) C dX4_grind_73 (by rw [hE]; decide) ?_
      first | refine z_iincN (pc := 75) C dX4_grind_75 rfl (by rw [hE]; decide) ?_ | refine z_iinc (pc := 75) C dX4_grind_75 rfl rfl (by rw [hE]; decide) ?_
      refine z_goto (pc := 78) (tgt := 25) C dX4_grind_78 (by decide) ?_
      -- at 25
      refine z_pick [0, 1, 2, 3, 4, 5, 6] rfl ?_
      exact h9'
  refine z_iload_n (pc := 0) C dX4_grind_0 rfl ?_
  refine z_iconst (pc := 1) (v := nI 2) C dX4_grind_1 (by decide) ?_
  first | with_reducible refine z_idivN (pc := 2) C dX4_grind_2 (by omega) (by decide) (by decide) ?_ | refine z_idiv (pc := 2) C dX4_grind_2 (by decide) ?_
  refine z_istore_n (pc := 3) C dX4_grind_3 (by rw [hE]; decide) ?_
  refine z_iload_n (pc := 4) C dX4_grind_4 rfl ?_
  refine z_iconst (pc := 5) (v := nI 2) C dX4_grind_5 (by decide) ?_
  first | with_reducible refine z_iremN (pc := 6) C dX4_grind_6 (by omega) (by decide) (by decide) ?_ | refine z_irem (pc := 6) C dX4_grind_6 (by decide) ?_
  refine z_istore_n (pc := 7) C dX4_grind_7 (by rw [hE]; decide) ?_
  first | refine z_aload_n (pc := 8) C dX4_grind_8 rfl ?_ | refine z_aload_nN (pc := 8) C dX4_grind_8 rfl ?_
  refine z_getf (pc := 9) C dX4_grind_9 zf_X4_33_4 (hk_0 (κ := 2) (by exact hi) (by exact hq)) rfl ?_
  refine z_iload_n (pc := 12) C dX4_grind_12 rfl ?_
  refine z_iald (pc := 13) C dX4_grind_13 (Rw.get (rw_held (by exact hw) (by exact hi))) (by first | omega | decide | (simp only [unu, upt]; omega)) (by first | decide | omega) rfl ?_
  refine z_istore (pc := 14) C dX4_grind_14 (by rw [hE]; decide) ?_
  refine z_iload (pc := 16) C dX4_grind_16 rfl ?_
  refine z_istore (pc := 18) C dX4_grind_18 (by rw [hE]; decide) ?_
  refine z_iload_n (pc := 20) C dX4_grind_20 rfl ?_
  refine z_iconst (pc := 21) (v := nI 1) C dX4_grind_21 (by decide) ?_
  first | with_reducible refine z_iaddN (pc := 22) C dX4_grind_22 ?_ | refine z_iadd (pc := 22) C dX4_grind_22 ?_
  refine z_istore (pc := 23) C dX4_grind_23 (by rw [hE]; decide) ?_
  -- at 25: iload 
  rw [d1, d2]
  refine z_pick [0, 1, 2, 3, 4, 5, 6] rfl ?_
  exact loop (3 - z) 0 [] (by omega)
def cMlS (i c : Nat) (τ : Sg) : Sg := if τ.1 i 0 c = 0 then τ else cGrind τ i (c / 2) (c % 2)
def cMill (σ : Sg) (i : Nat) : Sg := itF (cMlS i) 8 (sR σ i 10 (zerR 8 (σ.1 i 10)))
theorem cGrind_n (σ : Sg) (i z s : Nat) : (cGrind σ i z s).2.2 = σ.2.2 := by
  unfold cGrind
  rw [sI_L, sI_L]
  exact itF_n (f := cGrS i z s (σ.1 i 0 (2 * z + s)) (fun j => σ.1 i 3 (4 * z + j))) (fun _ _ => rfl) σ _
theorem cMlS_n (i c : Nat) (τ : Sg) : (cMlS i c τ).2.2 = τ.2.2 := by
  unfold cMlS
  split
  · rfl
  · exact cGrind_n τ i _ _
set_option maxHeartbeats 4000000 in
set_option maxRecDepth 100000 in
theorem ct_X4_give (l : Launch) (Ω : OmT) (σ : Sg) (hw : KW σ) (i : Nat) (hi : i < σ.2.2.2) (hq : σ.2.2.1 i = 2) : ZM l Ω yX4_give cX4_give 2 none rm_X4_give [rfO Ω (bs σ.2.2.1 i)] (hp Ω σ) (hN σ) (none) (hp Ω (cMill σ i)) (hN σ) := by
  refine ZM_of (by decide) (Nat.le_of_ble_eq_true rfl) (fun E hE C hQ => ?_)
  have loop : ∀ (k c : Nat), c + k = 8 → ZV l Ω E 0 0 12 [(0, rfO Ω (bs σ.2.2.1 i)), (1, .int (nI c))] [] (hp Ω (itF (cMlS i) c (sR σ i 10 (zerR 8 (σ.1 i 10))))) (hN σ) := by
    intro k
    induction k with
    | zero =>
      intro c hk
      obtain rfl : c = 8 := by omega
      refine z_iload_n (pc := 12) C dX4_give_12 rfl ?_
      refine z_bipush (pc := 13) (v := nI 8) C dX4_give_13 (by decide) ?_
      -- at 15: if_icmpge 
      refine z_icmp_geT (pc := 15) (tgt := 38) C dX4_give_15 (by decide) (by omega) (by omega) (by omega) ?_
      exact z_vret (pc := 38) C hQ dX4_give_38 rfl rfl rfl (by decide) (by decide)
    | succ k ih =>
      intro c hk
      have h9 := ih (c + 1) (by omega)
      rw [show itF (cMlS i) (c + 1) (sR σ i 10 (zerR 8 (σ.1 i 10))) = cMlS i c (itF (cMlS i) c (sR σ i 10 (zerR 8 (σ.1 i 10)))) from rfl] at h9
      have e22 : (itF (cMlS i) c (sR σ i 10 (zerR 8 (σ.1 i 10)))).2.2 = σ.2.2 := by
        rw [itF_n (f := cMlS i) (fun c τ => cMlS_n i c τ)]
        rfl
      generalize itF (cMlS i) c (sR σ i 10 (zerR 8 (σ.1 i 10))) = τ at h9 e22 ⊢
      obtain ⟨hw, hi, hq, eb⟩ := st_of e22 hw hi hq
      have en := hN_eq e22
      rw [eb] at h9 ⊢
      unfold cMlS at h9
      refine z_iload_n (pc := 12) C dX4_give_12 rfl ?_
      refine z_bipush (pc := 13) (v := nI 8) C dX4_give_13 (by decide) ?_
      -- at 15: if_icmpge 
      refine z_icmp_geF (pc := 15) (tgt := 38) C dX4_give_15 (by decide) (by omega) (by omega) (by omega) ?_
      first | refine z_aload_n (pc := 18) C dX4_give_18 rfl ?_ | refine z_aload_nN (pc := 18) C dX4_give_18 rfl ?_
      refine z_getf (pc := 19) C dX4_give_19 zf_X4_33_4 (hk_0 (κ := 2) (by exact hi) (by exact hq)) rfl ?_
      refine z_iload_n (pc := 22) C dX4_give_22 rfl ?_
      refine z_iald (pc := 23) C dX4_give_23 (Rw.get (rw_held (by exact hw) (by exact hi))) (by first | omega | decide | (simp only [unu, upt]; omega)) (by first | decide | omega) rfl ?_
      -- at 24: ifeq 
      refine z_if_eq (pc := 24) (tgt := 32) C dX4_give_24 (by decide) (fun h => ?_) (fun h => ?_)
      · rw [if_pos h] at h9
        first | refine z_iincN (pc := 32) C dX4_give_32 rfl (by rw [hE]; decide) ?_ | refine z_iinc (pc := 32) C dX4_give_32 rfl rfl (by rw [hE]; decide) ?_
        refine z_goto (pc := 35) (tgt := 12) C dX4_give_35 (by decide) ?_
        -- at 12
        exact h9
      · rw [if_neg h] at h9
        have ct := zM_n en (ct_X4_grind l Ω τ hw i hi hq (c / 2) (c % 2) (by omega) (by omega))
        rw [show 2 * (c / 2) + c % 2 = c by omega] at ct
        first | refine z_aload_n (pc := 27) C dX4_give_27 rfl ?_ | refine z_aload_nN (pc := 27) C dX4_give_27 rfl ?_
        refine z_iload_n (pc := 28) C dX4_give_28 rfl ?_
        refine z_callV (pc := 29) (ci := 4) C dX4_give_29 zy_X4_grind kw_369 kw_370 rfl kw_834 (hk_0 (κ := 2) (by exact hi) (by exact hq)) (ct) rfl rfl ⟨⟨by decide, by decide⟩, by decide, by decide⟩ (Nat.le_of_ble_eq_true rfl) ?_; dsimp only [Option.toList_none, List.nil_append]
        first | refine z_iincN (pc := 32) C dX4_give_32 rfl (by rw [hE]; decide) ?_ | refine z_iinc (pc := 32) C dX4_give_32 rfl rfl (by rw [hE]; decide) ?_
        refine z_goto (pc := 35) (tgt := 12) C dX4_give_35 (by decide) ?_
        -- at 12
        exact h9
  first | refine z_aload_n (pc := 0) C dX4_give_0 rfl ?_ | refine z_aload_nN (pc := 0) C dX4_give_0 rfl ?_
  refine z_getf (pc := 1) C dX4_give_1 zf_X4_23_4 (hk_0 (κ := 2) (by exact hi) (by exact hq)) rfl ?_
  refine z_iconst (pc := 4) (v := nI 0) C dX4_give_4 (by decide) ?_
  refine z_aald (pc := 5) C dX4_give_5 (hk_given (κ := 2) (by exact hi) (by exact hq)) (Or.inr rfl) (by first | decide | omega) (by first | decide | omega) ?_
  refine z_iconst (pc := 6) (v := nI 0) C dX4_give_6 (by decide) ?_
  refine z_callS (pc := 7) C dX4_give_7 zy_J7_fill_53178 kw_368 kw_64 (ct_zerR l Ω σ _ (rw_giv0 hw hi hq (by decide))) rfl rfl ⟨⟨by decide, by decide⟩, by decide, by decide⟩ (Nat.le_of_ble_eq_true rfl) ?_; dsimp only [Option.toList_none, List.nil_append]
  refine z_iconst (pc := 10) (v := nI 0) C dX4_give_10 (by decide) ?_
  refine z_istore_n (pc := 11) C dX4_give_11 (by rw [hE]; decide) ?_
  -- at 12: iload_1 
  exact loop 8 0 rfl
