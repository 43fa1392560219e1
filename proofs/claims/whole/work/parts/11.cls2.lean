/-! ===== the class: rows of units ===== -/
theorem inR_lo {b : Nat} {c : Int32} (h : c < 0) : ¬ inR 0 b c := fun z => absurd h (Int32.not_lt.mpr z.1)
theorem inR_hi {b : Nat} {c : Int32} (hb : b + 1 < 2147483648) (h : nI (b + 1) ≤ c) : ¬ inR 0 b c := by
  intro z
  have e1 := Int32.le_iff_toInt_le.mp h
  have e2 := Int32.le_iff_toInt_le.mp z.2
  rw [nI_toInt hb] at e1
  rw [nI_toInt (by omega)] at e2
  omega
theorem inR_in {b : Nat} {c : Int32} (hb : b + 1 < 2147483648) (h0 : ¬ c < 0) (h : ¬ nI (b + 1) ≤ c) : inR 0 b c := by
  refine ⟨Int32.not_lt.mp h0, Int32.le_iff_toInt_le.mpr ?_⟩
  have e1 : ¬ (nI (b + 1)).toInt ≤ c.toInt := fun z => h (Int32.le_iff_toInt_le.mpr z)
  rw [nI_toInt hb] at e1
  rw [nI_toInt (by omega)]
  omega
theorem inR_isU {b : Nat} {c : Int32} (hb : b + 1 < 1073741824) : inR 0 b c ↔ isU (b + 1) c := by
  constructor
  · intro h
    obtain ⟨k, -, hk, rfl⟩ := inR_of (by omega) (by omega) h
    exact isU_nI (by omega) (by omega)
  · intro h
    obtain ⟨k, hk, rfl⟩ := isU_of (by omega) h
    exact inR_nI (by omega) (by omega) (by omega)
theorem isU_lo {N : Nat} {c : Int32} (h : c < 0) : ¬ isU N c := fun z => absurd h (Int32.not_lt.mpr z.1)
theorem isU_hi {N : Nat} {c : Int32} (hN : N < 1073741824) (h : nI N ≤ c) : ¬ isU N c := by
  intro z
  obtain ⟨k, hk, rfl⟩ := isU_of hN z
  have := (nI_leI (by omega) (by omega)).mp h
  omega
theorem isU_in {N : Nat} {c : Int32} (hN : N < 1073741824) (h0 : ¬ c < 0) (h : ¬ nI N ≤ c) : isU N c := by
  obtain ⟨j, hj, rfl⟩ := nI_of h0
  exact isU_nI hN (Nat.lt_of_not_le (fun z => h ((nI_leI (by omega) hj).mpr z)))
theorem ct_addR (l : Launch) (Ω : OmT) (τ : Sg) (n : Nat) {i k a N i' k' a' N' : Nat} (h : Rw τ i k a N) (h' : Rw τ i' k' a' N') (hne : ¬ (i = i' ∧ k = k')) (h8 : 8 ≤ N) (h8' : 8 ≤ N') : ZM l Ω yX10_add cX10_add 3 none rm_X10_add [rfO Ω (bs τ.2.2.1 i + k), rfO Ω (bs τ.2.2.1 i' + k')] (hp Ω τ) n none (hp Ω (sR τ i' a' (addR (τ.1 i a) (τ.1 i' a')))) n := by
  have h9 := ct_X10_add l Ω (hp Ω τ) n _ _ N N' _ _ h.get h'.get (rw_ne h h' hne) h.2.2.2.2.2.2 h'.2.2.2.2.2.2 h8 h8'
  rw [h'.row] at h9
  exact h9
theorem ct_fillR (l : Launch) (Ω : OmT) (τ : Sg) (n : Nat) {i k a N : Nat} (x : Int32) (h : Rw τ i k a N) : ZM l Ω yJ7_fill_53178 cJ7_fill_53178 4 none rm_J7_fill_53178 [rfO Ω (bs τ.2.2.1 i + k), .int x] (hp Ω τ) n none (hp Ω (sR τ i a (fun j => if j < N then x else τ.1 i a j))) n := by
  have h9 := ct_J7_fill_53178 l Ω (hp Ω τ) n _ N _ x h.get h.2.2.2.2.2.2
  rw [h.row] at h9
  exact h9
theorem ct_zerR (l : Launch) (Ω : OmT) (τ : Sg) (n : Nat) {i k a N : Nat} (h : Rw τ i k a N) : ZM l Ω yJ7_fill_53178 cJ7_fill_53178 4 none rm_J7_fill_53178 [rfO Ω (bs τ.2.2.1 i + k), .int (nI 0)] (hp Ω τ) n none (hp Ω (sR τ i a (zerR N (τ.1 i a)))) n := ct_fillR l Ω τ n (nI 0) h
theorem ct_totalR (l : Launch) (Ω : OmT) (τ : Sg) (n : Nat) {i k a N : Nat} (h : Rw τ i k a N) : ZM l Ω yX10_total cX10_total 3 (some .int) rm_X10_total [rfO Ω (bs τ.2.2.1 i + k)] (hp Ω τ) n (some (.int (l_sum (τ.1 i a) N))) (hp Ω τ) n := ct_X10_total l Ω (hp Ω τ) n _ N _ h.get h.2.2.2.2.2.2
theorem ct_stuffR (l : Launch) (Ω : OmT) (τ : Sg) (n : Nat) {i k a N s : Nat} (h : Rw τ i k a N) (h8 : 8 ≤ N) (hs : s < 2) : ZM l Ω yX10_totalOfStuff cX10_totalOfStuff 4 (some .int) rm_X10_totalOfStuff [rfO Ω (bs τ.2.2.1 i + k), .int (nI s)] (hp Ω τ) n (some (.int (l_sum (fun j => τ.1 i a (2 * j + s)) 4))) (hp Ω τ) n := ct_X10_totalOfStuff l Ω (hp Ω τ) n _ N s _ h.get h.2.2.2.2.2.2 h8 hs
/-- what move leaves -/
def mvR (τ : Sg) (i a N i' a' : Nat) : Sg := sR (sR τ i' a' (addR (τ.1 i a) (τ.1 i' a'))) i a (zerR N (τ.1 i a))
set_option maxHeartbeats 4000000 in
set_option maxRecDepth 100000 in
theorem ct_X10_move_R (l : Launch) (Ω : OmT) (τ : Sg) (n : Nat) {i k a N i' k' a' N' : Nat} (h : Rw τ i k a N) (h' : Rw τ i' k' a' N') (hne : ¬ (i = i' ∧ k = k')) (hna : ¬ (i = i' ∧ a = a')) (h8 : 8 ≤ N) (h8' : 8 ≤ N') : ZM l Ω yX10_move cX10_move 2 none rm_X10_move [rfO Ω (bs τ.2.2.1 i + k), rfO Ω (bs τ.2.2.1 i' + k')] (hp Ω τ) (n) (none) (hp Ω (mvR τ i a N i' a')) (n) := by
  refine ZM_of (by decide) (Nat.le_of_ble_eq_true rfl) (fun E hE C hQ => ?_)
  first | refine z_aload_n (pc := 0) C dX10_move_0 rfl ?_ | refine z_aload_nN (pc := 0) C dX10_move_0 rfl ?_
  first | refine z_aload_n (pc := 1) C dX10_move_1 rfl ?_ | refine z_aload_nN (pc := 1) C dX10_move_1 rfl ?_
  refine z_callS (pc := 2) C dX10_move_2 zy_X10_add kw_361 kw_362 (ct_addR l Ω τ n h h' hne h8 h8') rfl rfl ⟨⟨by decide, by decide⟩, by decide, by decide⟩ (Nat.le_of_ble_eq_true rfl) ?_; dsimp only [Option.toList_none, List.nil_append]
  first | refine z_aload_n (pc := 5) C dX10_move_5 rfl ?_ | refine z_aload_nN (pc := 5) C dX10_move_5 rfl ?_
  refine z_iconst (pc := 6) (v := nI 0) C dX10_move_6 (by decide) ?_
  refine z_callS (pc := 7) C dX10_move_7 zy_J7_fill_53178 kw_364 kw_64 (ct_zerR l Ω (sR τ i' a' (addR (τ.1 i a) (τ.1 i' a'))) n (i := i) (k := k) (a := a) (N := N) h) rfl rfl ⟨⟨by decide, by decide⟩, by decide, by decide⟩ (Nat.le_of_ble_eq_true rfl) ?_; dsimp only [Option.toList_none, List.nil_append]
  -- at 10: return 
  refine z_vret (pc := 10) C hQ dX10_move_10 rfl ?_ rfl (by decide) (by decide)
  unfold mvR
  rw [show (sR τ i' a' (addR (τ.1 i a) (τ.1 i' a'))).1 i a = τ.1 i a from by funext j; rw [sR_I, if_neg hna]]
set_option maxHeartbeats 4000000 in
set_option maxRecDepth 100000 in
theorem ct_X10_totalOfRows (l : Launch) (Ω : OmT) (A : AHp) (n a N : Nat) (r : Nat → Nat) (f : Nat → Nat → Int32) (ha : A a = some (.inr (4, N, fun j => rfO Ω (r j)))) (hr : ∀ j, j < N → A (r j) = some (arI 8 (f j))) (hN : N < 1073741824) : ZM l Ω yX10_totalOfRows cX10_totalOfRows 3 (some .int) rm_X10_totalOfRows [rfO Ω a] (A) (n) (some (.int (l_sum (fun j => l_sum (f j) 8) N))) (A) (n) := by
  refine ZM_of (by decide) (Nat.le_of_ble_eq_true rfl) (fun E hE C hQ => ?_)
  have loop : ∀ (k j : Nat), j + k = N → ZV l Ω E 0 0 4 [(0, rfO Ω a), (1, .int (l_sum (fun j => l_sum (f j) 8) j)), (2, .int (nI j))] [] A n := by
    intro k
    induction k with
    | zero =>
      intro j hj
      obtain rfl : j = N := by omega
      refine z_iload_n (pc := 4) C dX10_totalOfRows_4 rfl ?_
      first | refine z_aload_n (pc := 5) C dX10_totalOfRows_5 rfl ?_ | refine z_aload_nN (pc := 5) C dX10_totalOfRows_5 rfl ?_
      -- at 6: arraylength 
      refine z_alen (pc := 6) C dX10_totalOfRows_6 ha (by decide) ?_
      refine z_icmp_geT (pc := 7) (tgt := 25) C dX10_totalOfRows_7 (by decide) (by omega) (by omega) (by omega) ?_
      refine z_iload_n (pc := 25) C dX10_totalOfRows_25 rfl ?_
      -- at 26: ireturn 
      exact z_iret (pc := 26) C hQ dX10_totalOfRows_26 rfl rfl rfl (by decide) (by decide)
    | succ k ih =>
      intro j hj
      refine z_iload_n (pc := 4) C dX10_totalOfRows_4 rfl ?_
      first | refine z_aload_n (pc := 5) C dX10_totalOfRows_5 rfl ?_ | refine z_aload_nN (pc := 5) C dX10_totalOfRows_5 rfl ?_
      -- at 6: arraylength 
      refine z_alen (pc := 6) C dX10_totalOfRows_6 ha (by decide) ?_
      refine z_icmp_geF (pc := 7) (tgt := 25) C dX10_totalOfRows_7 (by decide) (by omega) (by omega) (by omega) ?_
      refine z_iload_n (pc := 10) C dX10_totalOfRows_10 rfl ?_
      first | refine z_aload_n (pc := 11) C dX10_totalOfRows_11 rfl ?_ | refine z_aload_nN (pc := 11) C dX10_totalOfRows_11 rfl ?_
      refine z_iload_n (pc := 12) C dX10_totalOfRows_12 rfl ?_
      -- at 13: aaload 
      refine z_aald (pc := 13) C dX10_totalOfRows_13 ha (Or.inr rfl) (by omega) (by omega) ?_
      refine z_callS (pc := 14) C dX10_totalOfRows_14 zy_X10_total kw_416 kw_382 (ct_X10_total l Ω A n (r j) 8 (f j) (hr j (by omega)) (by decide)) rfl rfl ⟨⟨by decide, by decide⟩, by decide, by decide⟩ (Nat.le_of_ble_eq_true rfl) ?_; dsimp only [Option.toList_some, List.cons_append, List.nil_append]
      first | with_reducible refine z_iaddN (pc := 17) C dX10_totalOfRows_17 ?_ | refine z_iadd (pc := 17) C dX10_totalOfRows_17 ?_
      refine z_istore_n (pc := 18) C dX10_totalOfRows_18 (by rw [hE]; decide) ?_
      first | refine z_iincN (pc := 19) C dX10_totalOfRows_19 rfl (by rw [hE]; decide) ?_ | refine z_iinc (pc := 19) C dX10_totalOfRows_19 rfl rfl (by rw [hE]; decide) ?_
      refine z_goto (pc := 22) (tgt := 4) C dX10_totalOfRows_22 (by decide) ?_
      -- at 4
      exact ih (j + 1) (by omega)
  refine z_iconst (pc := 0) (v := nI 0) C dX10_totalOfRows_0 (by decide) ?_
  refine z_istore_n (pc := 1) C dX10_totalOfRows_1 (by rw [hE]; decide) ?_
  refine z_iconst (pc := 2) (v := nI 0) C dX10_totalOfRows_2 (by decide) ?_
  refine z_istore_n (pc := 3) C dX10_totalOfRows_3 (by rw [hE]; decide) ?_
  -- at 4: iload_2 
  exact loop N 0 (by omega)
set_option maxHeartbeats 4000000 in
set_option maxRecDepth 100000 in
theorem ct_X10_totalOfStuffInRows (l : Launch) (Ω : OmT) (A : AHp) (n a N s : Nat) (r : Nat → Nat) (f : Nat → Nat → Int32) (ha : A a = some (.inr (4, N, fun j => rfO Ω (r j)))) (hr : ∀ j, j < N → A (r j) = some (arI 8 (f j))) (hN : N < 1073741824) (hs : s < 2) : ZM l Ω yX10_totalOfStuffInRows cX10_totalOfStuffInRows 4 (some .int) rm_X10_totalOfStuffInRows [rfO Ω a, .int (nI s)] (A) (n) (some (.int (l_sum (fun j => l_sum (fun i => f j (2 * i + s)) 4) N))) (A) (n) := by
  refine ZM_of (by decide) (Nat.le_of_ble_eq_true rfl) (fun E hE C hQ => ?_)
  have loop : ∀ (k j : Nat), j + k = N → ZV l Ω E 0 0 4 [(0, rfO Ω a), (1, .int (nI s)), (2, .int (l_sum (fun j => l_sum (fun i => f j (2 * i + s)) 4) j)), (3, .int (nI j))] [] A n := by
    intro k
    induction k with
    | zero =>
      intro j hj
      obtain rfl : j = N := by omega
      refine z_iload_n (pc := 4) C dX10_totalOfStuffInRows_4 rfl ?_
      first | refine z_aload_n (pc := 5) C dX10_totalOfStuffInRows_5 rfl ?_ | refine z_aload_nN (pc := 5) C dX10_totalOfStuffInRows_5 rfl ?_
      -- at 6: arraylength 
      refine z_alen (pc := 6) C dX10_totalOfStuffInRows_6 ha (by decide) ?_
      refine z_icmp_geT (pc := 7) (tgt := 26) C dX10_totalOfStuffInRows_7 (by decide) (by omega) (by omega) (by omega) ?_
      refine z_iload_n (pc := 26) C dX10_totalOfStuffInRows_26 rfl ?_
      -- at 27: ireturn 
      exact z_iret (pc := 27) C hQ dX10_totalOfStuffInRows_27 rfl rfl rfl (by decide) (by decide)
    | succ k ih =>
      intro j hj
      refine z_iload_n (pc := 4) C dX10_totalOfStuffInRows_4 rfl ?_
      first | refine z_aload_n (pc := 5) C dX10_totalOfStuffInRows_5 rfl ?_ | refine z_aload_nN (pc := 5) C dX10_totalOfStuffInRows_5 rfl ?_
      -- at 6: arraylength 
      refine z_alen (pc := 6) C dX10_totalOfStuffInRows_6 ha (by decide) ?_
      refine z_icmp_geF (pc := 7) (tgt := 26) C dX10_totalOfStuffInRows_7 (by decide) (by omega) (by omega) (by omega) ?_
      refine z_iload_n (pc := 10) C dX10_totalOfStuffInRows_10 rfl ?_
      first | refine z_aload_n (pc := 11) C dX10_totalOfStuffInRows_11 rfl ?_ | refine z_aload_nN (pc := 11) C dX10_totalOfStuffInRows_11 rfl ?_
      refine z_iload_n (pc := 12) C dX10_totalOfStuffInRows_12 rfl ?_
      -- at 13: aaload 
      refine z_aald (pc := 13) C dX10_totalOfStuffInRows_13 ha (Or.inr rfl) (by omega) (by omega) ?_
      refine z_iload_n (pc := 14) C dX10_totalOfStuffInRows_14 rfl ?_
      refine z_callS (pc := 15) C dX10_totalOfStuffInRows_15 zy_X10_totalOfStuff kw_511 kw_353 (ct_X10_totalOfStuff l Ω A n (r j) 8 s (f j) (hr j (by omega)) (by decide) (by decide) hs) rfl rfl ⟨⟨by decide, by decide⟩, by decide, by decide⟩ (Nat.le_of_ble_eq_true rfl) ?_; dsimp only [Option.toList_some, List.cons_append, List.nil_append]
      first | with_reducible refine z_iaddN (pc := 18) C dX10_totalOfStuffInRows_18 ?_ | refine z_iadd (pc := 18) C dX10_totalOfStuffInRows_18 ?_
      refine z_istore_n (pc := 19) C dX10_totalOfStuffInRows_19 (by rw [hE]; decide) ?_
      first | refine z_iincN (pc := 20) C dX10_totalOfStuffInRows_20 rfl (by rw [hE]; decide) ?_ | refine z_iinc (pc := 20) C dX10_totalOfStuffInRows_20 rfl rfl (by rw [hE]; decide) ?_
      refine z_goto (pc := 23) (tgt := 4) C dX10_totalOfStuffInRows_23 (by decide) ?_
      -- at 4
      exact ih (j + 1) (by omega)
  refine z_iconst (pc := 0) (v := nI 0) C dX10_totalOfStuffInRows_0 (by decide) ?_
  refine z_istore_n (pc := 1) C dX10_totalOfStuffInRows_1 (by rw [hE]; decide) ?_
  refine z_iconst (pc := 2) (v := nI 0) C dX10_totalOfStuffInRows_2 (by decide) ?_
  refine z_istore_n (pc := 3) C dX10_totalOfStuffInRows_3 (by rw [hE]; decide) ?_
  -- at 4: iload_3 
  exact loop N 0 (by omega)
set_option maxHeartbeats 4000000 in
set_option maxRecDepth 100000 in
theorem ct_X10_isCell (l : Launch) (Ω : OmT) (A : AHp) (n : Nat) (c : Int32) : ZM l Ω yX10_isCell cX10_isCell 1 (some .boolean) rm_X10_isCell [.int c] (A) (n) (some (.int (b01 (inR 0 7 c)))) (A) (n) := by
  refine ZM_of (by decide) (Nat.le_of_ble_eq_true rfl) (fun E hE C hQ => ?_)
  refine z_iload_n (pc := 0) C dX10_isCell_0 rfl ?_
  -- at 1: iflt 
  refine z_if_lt (pc := 1) (tgt := 14) C dX10_isCell_1 (by decide) (fun h => ?_) (fun h => ?_)
  · refine z_iconst (pc := 14) (v := nI 0) C dX10_isCell_14 (by decide) ?_
    -- at 15: ireturn 
    exact z_zret (pc := 15) C hQ dX10_isCell_15 rfl (by rw [b01_f (inR_lo h)]; rfl) rfl rfl (by decide) (by decide)
  · refine z_iload_n (pc := 4) C dX10_isCell_4 rfl ?_
    refine z_bipush (pc := 5) (v := nI 8) C dX10_isCell_5 (by decide) ?_
    -- at 7: if_icmpge 
    refine z_icmp_ge (pc := 7) (tgt := 14) C dX10_isCell_7 (by decide) (fun h2 => ?_) (fun h2 => ?_)
    · refine z_iconst (pc := 14) (v := nI 0) C dX10_isCell_14 (by decide) ?_
      -- at 15: ireturn 
      exact z_zret (pc := 15) C hQ dX10_isCell_15 rfl (by rw [b01_f (inR_hi (by decide) h2)]; rfl) rfl rfl (by decide) (by decide)
    · refine z_iconst (pc := 10) (v := nI 1) C dX10_isCell_10 (by decide) ?_
      refine z_goto (pc := 11) (tgt := 15) C dX10_isCell_11 (by decide) ?_
      -- at 15: ireturn 
      exact z_zret (pc := 15) C hQ dX10_isCell_15 rfl (by rw [b01_t (inR_in (by decide) h h2)]; rfl) rfl rfl (by decide) (by decide)
set_option maxHeartbeats 4000000 in
set_option maxRecDepth 100000 in
theorem ct_X10_isSize (l : Launch) (Ω : OmT) (A : AHp) (n : Nat) (c : Int32) : ZM l Ω yX10_isSize cX10_isSize 1 (some .boolean) rm_X10_isSize [.int c] (A) (n) (some (.int (b01 (inR 0 3 c)))) (A) (n) := by
  refine ZM_of (by decide) (Nat.le_of_ble_eq_true rfl) (fun E hE C hQ => ?_)
  refine z_iload_n (pc := 0) C dX10_isSize_0 rfl ?_
  -- at 1: iflt 
  refine z_if_lt (pc := 1) (tgt := 13) C dX10_isSize_1 (by decide) (fun h => ?_) (fun h => ?_)
  · refine z_iconst (pc := 13) (v := nI 0) C dX10_isSize_13 (by decide) ?_
    -- at 14: ireturn 
    exact z_zret (pc := 14) C hQ dX10_isSize_14 rfl (by rw [b01_f (inR_lo h)]; rfl) rfl rfl (by decide) (by decide)
  · refine z_iload_n (pc := 4) C dX10_isSize_4 rfl ?_
    refine z_iconst (pc := 5) (v := nI 4) C dX10_isSize_5 (by decide) ?_
    -- at 6: if_icmpge 
    refine z_icmp_ge (pc := 6) (tgt := 13) C dX10_isSize_6 (by decide) (fun h2 => ?_) (fun h2 => ?_)
    · refine z_iconst (pc := 13) (v := nI 0) C dX10_isSize_13 (by decide) ?_
      -- at 14: ireturn 
      exact z_zret (pc := 14) C hQ dX10_isSize_14 rfl (by rw [b01_f (inR_hi (by decide) h2)]; rfl) rfl rfl (by decide) (by decide)
    · refine z_iconst (pc := 9) (v := nI 1) C dX10_isSize_9 (by decide) ?_
      refine z_goto (pc := 10) (tgt := 14) C dX10_isSize_10 (by decide) ?_
      -- at 14: ireturn 
      exact z_zret (pc := 14) C hQ dX10_isSize_14 rfl (by rw [b01_t (inR_in (by decide) h h2)]; rfl) rfl rfl (by decide) (by decide)
set_option maxHeartbeats 4000000 in
set_option maxRecDepth 100000 in
theorem ct_X10_isStuff (l : Launch) (Ω : OmT) (A : AHp) (n : Nat) (c : Int32) : ZM l Ω yX10_isStuff cX10_isStuff 1 (some .boolean) rm_X10_isStuff [.int c] (A) (n) (some (.int (b01 (inR 0 1 c)))) (A) (n) := by
  refine ZM_of (by decide) (Nat.le_of_ble_eq_true rfl) (fun E hE C hQ => ?_)
  refine z_iload_n (pc := 0) C dX10_isStuff_0 rfl ?_
  -- at 1: iflt 
  refine z_if_lt (pc := 1) (tgt := 13) C dX10_isStuff_1 (by decide) (fun h => ?_) (fun h => ?_)
  · refine z_iconst (pc := 13) (v := nI 0) C dX10_isStuff_13 (by decide) ?_
    -- at 14: ireturn 
    exact z_zret (pc := 14) C hQ dX10_isStuff_14 rfl (by rw [b01_f (inR_lo h)]; rfl) rfl rfl (by decide) (by decide)
  · refine z_iload_n (pc := 4) C dX10_isStuff_4 rfl ?_
    refine z_iconst (pc := 5) (v := nI 2) C dX10_isStuff_5 (by decide) ?_
    -- at 6: if_icmpge 
    refine z_icmp_ge (pc := 6) (tgt := 13) C dX10_isStuff_6 (by decide) (fun h2 => ?_) (fun h2 => ?_)
    · refine z_iconst (pc := 13) (v := nI 0) C dX10_isStuff_13 (by decide) ?_
      -- at 14: ireturn 
      exact z_zret (pc := 14) C hQ dX10_isStuff_14 rfl (by rw [b01_f (inR_hi (by decide) h2)]; rfl) rfl rfl (by decide) (by decide)
    · refine z_iconst (pc := 9) (v := nI 1) C dX10_isStuff_9 (by decide) ?_
      refine z_goto (pc := 10) (tgt := 14) C dX10_isStuff_10 (by decide) ?_
      -- at 14: ireturn 
      exact z_zret (pc := 14) C hQ dX10_isStuff_14 rfl (by rw [b01_t (inR_in (by decide) h h2)]; rfl) rfl rfl (by decide) (by decide)
