/-! ===== the class: helpers over rows, for any heap ===== -/
set_option maxHeartbeats 4000000 in
set_option maxRecDepth 100000 in
theorem ct_J7_fill_53178 (l : Launch) (Ω : OmT) (A : AHp) (n a N : Nat) (f : Nat → Int32) (x : Int32) (ha : A a = some (arI N f)) (hN : N < 1073741824) : ZM l Ω yJ7_fill_53178 cJ7_fill_53178 4 none rm_J7_fill_53178 [rfO Ω a, .int x] (A) (n) (none) (aup A a (arI N (fun j => if j < N then x else f j))) (n) := by
  refine ZM_of (by decide) (Nat.le_of_ble_eq_true rfl) (fun E hE C hQ => ?_)
  have loop : ∀ (k j : Nat), j + k = N → ZV l Ω E 0 0 5 [(0, rfO Ω a), (1, .int x), (2, .int (nI j)), (3, .int (nI N))] [] (aup A a (arI N (fun i => if i < j then x else f i))) n := by
    intro k
    induction k with
    | zero =>
      intro j hj
      obtain rfl : j = N := by omega
      refine z_iload_n (pc := 5) C dJ7_fill_53178_5 rfl ?_
      refine z_iload_n (pc := 6) C dJ7_fill_53178_6 rfl ?_
      -- at 7: if_icmpge 
      refine z_icmp_geT (pc := 7) (tgt := 20) C dJ7_fill_53178_7 (by decide) (by omega) (by omega) (by omega) ?_
      exact z_vret (pc := 20) C hQ dJ7_fill_53178_20 rfl rfl rfl (by decide) (by decide)
    | succ k ih =>
      intro j hj
      refine z_iload_n (pc := 5) C dJ7_fill_53178_5 rfl ?_
      refine z_iload_n (pc := 6) C dJ7_fill_53178_6 rfl ?_
      -- at 7: if_icmpge 
      refine z_icmp_geF (pc := 7) (tgt := 20) C dJ7_fill_53178_7 (by decide) (by omega) (by omega) (by omega) ?_
      first | refine z_aload_n (pc := 10) C dJ7_fill_53178_10 rfl ?_ | refine z_aload_nN (pc := 10) C dJ7_fill_53178_10 rfl ?_
      refine z_iload_n (pc := 11) C dJ7_fill_53178_11 rfl ?_
      refine z_iload_n (pc := 12) C dJ7_fill_53178_12 rfl ?_
      -- at 13: iastore 
      refine z_iast (pc := 13) (A' := aup A a (arI N (fun i => if i < j + 1 then x else f i))) C dJ7_fill_53178_13 (aup_self _ _ _) (by omega) (by omega) ?_ ?_
      · funext y
        by_cases hy : y = a
        · subst hy
          rw [aup_self, aup_self]
          congr 4
          funext i
          unfold updV
          dsimp only
          by_cases e : i = j
          · subst e
            rw [if_pos rfl, if_pos (by omega)]
          · rw [if_neg e]
            by_cases e2 : i < j
            · rw [if_pos e2, if_pos (by omega)]
            · rw [if_neg e2, if_neg (by omega)]
        · rw [aup_ne hy, aup_ne hy, aup_ne hy]
      first | refine z_iincN (pc := 14) C dJ7_fill_53178_14 rfl (by rw [hE]; decide) ?_ | refine z_iinc (pc := 14) C dJ7_fill_53178_14 rfl rfl (by rw [hE]; decide) ?_
      refine z_goto (pc := 17) (tgt := 5) C dJ7_fill_53178_17 (by decide) ?_
      -- at 5
      exact ih (j + 1) (by omega)
  refine z_iconst (pc := 0) (v := nI 0) C dJ7_fill_53178_0 (by decide) ?_
  refine z_istore_n (pc := 1) C dJ7_fill_53178_1 (by rw [hE]; decide) ?_
  first | refine z_aload_n (pc := 2) C dJ7_fill_53178_2 rfl ?_ | refine z_aload_nN (pc := 2) C dJ7_fill_53178_2 rfl ?_
  -- at 3: arraylength 
  refine z_alen (pc := 3) C dJ7_fill_53178_3 ha (by decide) ?_
  refine z_istore_n (pc := 4) C dJ7_fill_53178_4 (by rw [hE]; decide) ?_
  -- at 5: iload_2 
  have h9 := loop N 0 (by omega)
  have e0 : aup A a (arI N (fun i => if i < 0 then x else f i)) = A := by
    funext y
    by_cases hy : y = a
    · subst hy
      rw [aup_self, ha]
      simp
    · rw [aup_ne hy]
  rw [e0] at h9
  exact h9
set_option maxHeartbeats 4000000 in
set_option maxRecDepth 100000 in
theorem ct_X10_total (l : Launch) (Ω : OmT) (A : AHp) (n a N : Nat) (f : Nat → Int32) (ha : A a = some (arI N f)) (hN : N < 1073741824) : ZM l Ω yX10_total cX10_total 3 (some .int) rm_X10_total [rfO Ω a] (A) (n) (some (.int (l_sum f N))) (A) (n) := by
  refine ZM_of (by decide) (Nat.le_of_ble_eq_true rfl) (fun E hE C hQ => ?_)
  have loop : ∀ (k j : Nat), j + k = N → ZV l Ω E 0 0 4 [(0, rfO Ω a), (1, .int (l_sum f j)), (2, .int (nI j))] [] A n := by
    intro k
    induction k with
    | zero =>
      intro j hj
      obtain rfl : j = N := by omega
      refine z_iload_n (pc := 4) C dX10_total_4 rfl ?_
      first | refine z_aload_n (pc := 5) C dX10_total_5 rfl ?_ | refine z_aload_nN (pc := 5) C dX10_total_5 rfl ?_
      -- at 6: arraylength 
      refine z_alen (pc := 6) C dX10_total_6 ha (by decide) ?_
      refine z_icmp_geT (pc := 7) (tgt := 22) C dX10_total_7 (by decide) (by omega) (by omega) (by omega) ?_
      refine z_iload_n (pc := 22) C dX10_total_22 rfl ?_
      -- at 23: ireturn 
      exact z_iret (pc := 23) C hQ dX10_total_23 rfl rfl rfl (by decide) (by decide)
    | succ k ih =>
      intro j hj
      refine z_iload_n (pc := 4) C dX10_total_4 rfl ?_
      first | refine z_aload_n (pc := 5) C dX10_total_5 rfl ?_ | refine z_aload_nN (pc := 5) C dX10_total_5 rfl ?_
      -- at 6: arraylength 
      refine z_alen (pc := 6) C dX10_total_6 ha (by decide) ?_
      refine z_icmp_geF (pc := 7) (tgt := 22) C dX10_total_7 (by decide) (by omega) (by omega) (by omega) ?_
      refine z_iload_n (pc := 10) C dX10_total_10 rfl ?_
      first | refine z_aload_n (pc := 11) C dX10_total_11 rfl ?_ | refine z_aload_nN (pc := 11) C dX10_total_11 rfl ?_
      refine z_iload_n (pc := 12) C dX10_total_12 rfl ?_
      -- at 13: iaload 
      refine z_iald (pc := 13) C dX10_total_13 ha (by omega) (by omega) rfl ?_
      first | with_reducible refine z_iaddN (pc := 14) C dX10_total_14 ?_ | refine z_iadd (pc := 14) C dX10_total_14 ?_
      refine z_istore_n (pc := 15) C dX10_total_15 (by rw [hE]; decide) ?_
      first | refine z_iincN (pc := 16) C dX10_total_16 rfl (by rw [hE]; decide) ?_ | refine z_iinc (pc := 16) C dX10_total_16 rfl rfl (by rw [hE]; decide) ?_
      refine z_goto (pc := 19) (tgt := 4) C dX10_total_19 (by decide) ?_
      -- at 4
      exact ih (j + 1) (by omega)
  refine z_iconst (pc := 0) (v := nI 0) C dX10_total_0 (by decide) ?_
  refine z_istore_n (pc := 1) C dX10_total_1 (by rw [hE]; decide) ?_
  refine z_iconst (pc := 2) (v := nI 0) C dX10_total_2 (by decide) ?_
  refine z_istore_n (pc := 3) C dX10_total_3 (by rw [hE]; decide) ?_
  -- at 4: iload_2 
  exact loop N 0 (by omega)
set_option maxHeartbeats 4000000 in
set_option maxRecDepth 100000 in
theorem ct_X10_totalOfStuff (l : Launch) (Ω : OmT) (A : AHp) (n a N s : Nat) (f : Nat → Int32) (ha : A a = some (arI N f)) (hN : N < 1073741824) (h8 : 8 ≤ N) (hs : s < 2) : ZM l Ω yX10_totalOfStuff cX10_totalOfStuff 4 (some .int) rm_X10_totalOfStuff [rfO Ω a, .int (nI s)] (A) (n) (some (.int (l_sum (fun i => f (2 * i + s)) 4))) (A) (n) := by
  refine ZM_of (by decide) (Nat.le_of_ble_eq_true rfl) (fun E hE C hQ => ?_)
  have loop : ∀ (k j : Nat), j + k = 4 → ZV l Ω E 0 0 4 [(0, rfO Ω a), (1, .int (nI s)), (2, .int (l_sum (fun i => f (2 * i + s)) j)), (3, .int (nI j))] [] A n := by
    intro k
    induction k with
    | zero =>
      intro j hj
      obtain rfl : j = 4 := by omega
      refine z_iload_n (pc := 4) C dX10_totalOfStuff_4 rfl ?_
      refine z_iconst (pc := 5) (v := nI 4) C dX10_totalOfStuff_5 (by decide) ?_
      -- at 6: if_icmpge 
      refine z_icmp_geT (pc := 6) (tgt := 25) C dX10_totalOfStuff_6 (by decide) (by omega) (by omega) (by omega) ?_
      refine z_iload_n (pc := 25) C dX10_totalOfStuff_25 rfl ?_
      -- at 26: ireturn 
      exact z_iret (pc := 26) C hQ dX10_totalOfStuff_26 rfl rfl rfl (by decide) (by decide)
    | succ k ih =>
      intro j hj
      refine z_iload_n (pc := 4) C dX10_totalOfStuff_4 rfl ?_
      refine z_iconst (pc := 5) (v := nI 4) C dX10_totalOfStuff_5 (by decide) ?_
      -- at 6: if_icmpge 
      refine z_icmp_geF (pc := 6) (tgt := 25) C dX10_totalOfStuff_6 (by decide) (by omega) (by omega) (by omega) ?_
      refine z_iload_n (pc := 9) C dX10_totalOfStuff_9 rfl ?_
      first | refine z_aload_n (pc := 10) C dX10_totalOfStuff_10 rfl ?_ | refine z_aload_nN (pc := 10) C dX10_totalOfStuff_10 rfl ?_
      refine z_iconst (pc := 11) (v := nI 2) C dX10_totalOfStuff_11 (by decide) ?_
      refine z_iload_n (pc := 12) C dX10_totalOfStuff_12 rfl ?_
      first | with_reducible refine z_imulN (pc := 13) C dX10_totalOfStuff_13 ?_ | refine z_imul (pc := 13) C dX10_totalOfStuff_13 ?_
      refine z_iload_n (pc := 14) C dX10_totalOfStuff_14 rfl ?_
      first | with_reducible refine z_iaddN (pc := 15) C dX10_totalOfStuff_15 ?_ | refine z_iadd (pc := 15) C dX10_totalOfStuff_15 ?_
      -- at 16: iaload 
      refine z_iald (pc := 16) C dX10_totalOfStuff_16 ha (by omega) (by omega) rfl ?_
      first | with_reducible refine z_iaddN (pc := 17) C dX10_totalOfStuff_17 ?_ | refine z_iadd (pc := 17) C dX10_totalOfStuff_17 ?_
      refine z_istore_n (pc := 18) C dX10_totalOfStuff_18 (by rw [hE]; decide) ?_
      first | refine z_iincN (pc := 19) C dX10_totalOfStuff_19 rfl (by rw [hE]; decide) ?_ | refine z_iinc (pc := 19) C dX10_totalOfStuff_19 rfl rfl (by rw [hE]; decide) ?_
      refine z_goto (pc := 22) (tgt := 4) C dX10_totalOfStuff_22 (by decide) ?_
      -- at 4
      exact ih (j + 1) (by omega)
  refine z_iconst (pc := 0) (v := nI 0) C dX10_totalOfStuff_0 (by decide) ?_
  refine z_istore_n (pc := 1) C dX10_totalOfStuff_1 (by rw [hE]; decide) ?_
  refine z_iconst (pc := 2) (v := nI 0) C dX10_totalOfStuff_2 (by decide) ?_
  refine z_istore_n (pc := 3) C dX10_totalOfStuff_3 (by rw [hE]; decide) ?_
  -- at 4: iload_3 
  exact loop 4 0 (by omega)
set_option maxHeartbeats 4000000 in
set_option maxRecDepth 100000 in
theorem ct_X10_add (l : Launch) (Ω : OmT) (A : AHp) (n a b N M : Nat) (f g : Nat → Int32) (ha : A a = some (arI N f)) (hb : A b = some (arI M g)) (hab : ¬ a = b) (hN : N < 1073741824) (hM : M < 1073741824) (h8 : 8 ≤ N) (m8 : 8 ≤ M) : ZM l Ω yX10_add cX10_add 3 none rm_X10_add [rfO Ω a, rfO Ω b] (A) (n) (none) (aup A b (arI M (fun j => if j < 8 then g j + f j else g j))) (n) := by
  refine ZM_of (by decide) (Nat.le_of_ble_eq_true rfl) (fun E hE C hQ => ?_)
  have loop : ∀ (k j : Nat), j + k = 8 → ZV l Ω E 0 0 2 [(0, rfO Ω a), (1, rfO Ω b), (2, .int (nI j))] [] (aup A b (arI M (fun i => if i < j then g i + f i else g i))) n := by
    intro k
    induction k with
    | zero =>
      intro j hj
      obtain rfl : j = 8 := by omega
      refine z_iload_n (pc := 2) C dX10_add_2 rfl ?_
      refine z_bipush (pc := 3) (v := nI 8) C dX10_add_3 (by decide) ?_
      -- at 5: if_icmpge 
      refine z_icmp_geT (pc := 5) (tgt := 23) C dX10_add_5 (by decide) (by omega) (by omega) (by omega) ?_
      exact z_vret (pc := 23) C hQ dX10_add_23 rfl rfl rfl (by decide) (by decide)
    | succ k ih =>
      intro j hj
      refine z_iload_n (pc := 2) C dX10_add_2 rfl ?_
      refine z_bipush (pc := 3) (v := nI 8) C dX10_add_3 (by decide) ?_
      -- at 5: if_icmpge 
      refine z_icmp_geF (pc := 5) (tgt := 23) C dX10_add_5 (by decide) (by omega) (by omega) (by omega) ?_
      first | refine z_aload_n (pc := 8) C dX10_add_8 rfl ?_ | refine z_aload_nN (pc := 8) C dX10_add_8 rfl ?_
      refine z_iload_n (pc := 9) C dX10_add_9 rfl ?_
      refine z_dup2 (pc := 10) C dX10_add_10 rfl rfl ?_
      -- at 11: iaload 
      refine z_iald (pc := 11) C dX10_add_11 (aup_self _ _ _) (by omega) (by omega) rfl ?_
      dsimp only
      rw [if_neg (Nat.lt_irrefl j)]
      first | refine z_aload_n (pc := 12) C dX10_add_12 rfl ?_ | refine z_aload_nN (pc := 12) C dX10_add_12 rfl ?_
      refine z_iload_n (pc := 13) C dX10_add_13 rfl ?_
      -- at 14: iaload 
      refine z_iald (pc := 14) C dX10_add_14 ((aup_ne hab).trans ha) (by omega) (by omega) rfl ?_
      first | with_reducible refine z_iaddN (pc := 15) C dX10_add_15 ?_ | refine z_iadd (pc := 15) C dX10_add_15 ?_
      -- at 16: iastore 
      refine z_iast (pc := 16) (A' := aup A b (arI M (fun i => if i < j + 1 then g i + f i else g i))) C dX10_add_16 (aup_self _ _ _) (by omega) (by omega) ?_ ?_
      · funext y
        by_cases hy : y = b
        · subst hy
          rw [aup_self, aup_self]
          congr 4
          funext i
          unfold updV
          dsimp only
          by_cases e : i = j
          · subst e
            rw [if_pos rfl, if_pos (by omega)]
          · rw [if_neg e]
            by_cases e2 : i < j
            · rw [if_pos e2, if_pos (by omega)]
            · rw [if_neg e2, if_neg (by omega)]
        · rw [aup_ne hy, aup_ne hy, aup_ne hy]
      first | refine z_iincN (pc := 17) C dX10_add_17 rfl (by rw [hE]; decide) ?_ | refine z_iinc (pc := 17) C dX10_add_17 rfl rfl (by rw [hE]; decide) ?_
      refine z_goto (pc := 20) (tgt := 2) C dX10_add_20 (by decide) ?_
      -- at 2
      exact ih (j + 1) (by omega)
  refine z_iconst (pc := 0) (v := nI 0) C dX10_add_0 (by decide) ?_
  refine z_istore_n (pc := 1) C dX10_add_1 (by rw [hE]; decide) ?_
  -- at 2: iload_2 
  have h9 := loop 8 0 (by omega)
  have e0 : aup A b (arI M (fun i => if i < 0 then g i + f i else g i)) = A := by
    funext y
    by_cases hy : y = b
    · subst hy
      rw [aup_self, hb]
      simp
    · rw [aup_ne hy]
  rw [e0] at h9
  exact h9
