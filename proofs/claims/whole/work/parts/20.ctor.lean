/-! ===== constructors ===== -/
def uL (A : AHp) (B : Nat) (l : List Cel) : AHp := fun x => if x < B then A x else l[x - B]?
theorem uL_at {A : AHp} {B k : Nat} {l : List Cel} {c : Cel} (h : l[k]? = some c) : uL A B l (B + k) = some c := by
  unfold uL
  rw [if_neg (by omega), Nat.add_sub_cancel_left]
  exact h
theorem uL_0 (A : AHp) (B : Nat) (c : Cel) (l : List Cel) : uL A B (c :: l) B = some c := by
  unfold uL
  rw [if_neg (by omega), Nat.sub_self]
  rfl
theorem uL_lt {A : AHp} {B x : Nat} {l : List Cel} (h : x < B) : uL A B l x = A x := if_pos h
theorem uL_set {A : AHp} {B k : Nat} {l : List Cel} {c : Cel} (h : k < l.length) : aup (uL A B l) (B + k) c = uL A B (l.set k c) := by
  funext x
  unfold aup uL
  by_cases e : x = B + k
  · subst e
    rw [if_pos rfl, if_neg (by omega), Nat.add_sub_cancel_left, List.getElem?_set, if_pos rfl, if_pos h]
  · rw [if_neg e]
    by_cases e2 : x < B
    · rw [if_pos e2, if_pos e2]
    · rw [if_neg e2, if_neg e2, List.getElem?_set, if_neg (by omega)]
theorem uL_set0 {A : AHp} {B : Nat} {l : List Cel} {c c' : Cel} : aup (uL A B (c :: l)) B c' = uL A B (c' :: l) := uL_set (k := 0) (by simp)
theorem uL_alloc {A : AHp} {B : Nat} {l : List Cel} {c : Cel} : aup (uL A B l) (B + l.length) c = uL A B (l ++ [c]) := by
  funext x
  unfold aup uL
  by_cases e : x = B + l.length
  · subst e
    rw [if_pos rfl, if_neg (by omega), Nat.add_sub_cancel_left]
    simp
  · rw [if_neg e]
    by_cases e2 : x < B
    · rw [if_pos e2, if_pos e2]
    · rw [if_neg e2, if_neg e2]
      rcases Nat.lt_or_ge (x - B) l.length with h | h
      · rw [List.getElem?_append_left h]
      · rw [List.getElem?_eq_none h, List.getElem?_eq_none (by simp; omega)]
theorem uL_app {A : AHp} {B : Nat} {l m : List Cel} : uL (uL A B l) (B + l.length) m = uL A B (l ++ m) := by
  funext x
  unfold uL
  by_cases e : x < B + l.length
  · rw [if_pos e]
    by_cases e2 : x < B
    · rw [if_pos e2, if_pos e2]
    · rw [if_neg e2, if_neg e2, List.getElem?_append_left (by omega)]
  · rw [if_neg e, if_neg (by omega), List.getElem?_append_right (by omega)]
    congr 1
    omega
theorem uL_new {A : AHp} {B : Nat} {l : List Cel} {c : Cel} : aup (uL A B l) (B + l.length) c = uL (uL A B l) (B + l.length) [c] := uL_alloc.trans uL_app.symm
theorem uL_first {A : AHp} {B : Nat} {c : Cel} (h : ∀ x, B ≤ x → A x = none) : aup A B c = uL A B [c] := by
  funext x
  unfold aup uL
  by_cases e : x = B
  · subst e
    rw [if_pos rfl, if_neg (by omega), Nat.sub_self]
    rfl
  · rw [if_neg e]
    by_cases e2 : x < B
    · rw [if_pos e2]
    · rw [if_neg e2, h x (by omega), List.getElem?_eq_none (by simp; omega)]
theorem uL_mn {Ω : OmT} {A : AHp} {B N M : Nat} {l : List Cel} : mnA Ω (uL A B l) (B + l.length) N M = uL A B (l ++ Sum.inr (4, N, fun j => rfO Ω (B + l.length + 1 + j)) :: List.replicate N (arI M (fun _ => 0))) := by
  funext x
  unfold mnA uL
  by_cases e : x = B + l.length
  · subst e
    rw [if_pos rfl, if_neg (by omega), Nat.add_sub_cancel_left]
    simp
  · rw [if_neg e]
    by_cases e2 : x < B
    · rw [if_neg (by omega), if_pos e2, if_pos e2]
    · rw [if_neg e2, if_neg e2]
      by_cases e3 : B + l.length < x ∧ x ≤ B + l.length + N
      · rw [if_pos e3, List.getElem?_append_right (by omega)]
        obtain ⟨k, hk⟩ : ∃ k, x - B - l.length = k + 1 := ⟨x - B - l.length - 1, by omega⟩
        rw [hk, List.getElem?_cons_succ, List.getElem?_replicate, if_pos (by omega)]
      · rw [if_neg e3]
        rcases Nat.lt_or_ge (x - B) l.length with h | h
        · rw [List.getElem?_append_left h]
        · rw [List.getElem?_eq_none h, List.getElem?_eq_none (by simp; omega)]
def upI (f : Nat → Int32) (k : Nat) (x : Int32) : Nat → Int32 := fun j => if j = k then x else f j
theorem millU {A : AHp} {B k j N : Nat} {l : List Cel} {f : Nat → Int32} {x : Int32} (h : k < l.length) : aup (uL A B l) (B + k) (.inr (0, N, updV (fun j => .int (f j)) j (.int x))) = uL A B (l.set k (arI N (upI f j x))) := by
  have e : updV (fun j => Value.int (f j)) j (.int x) = fun i => Value.int (upI f j x i) := by
    funext i
    unfold updV upI
    split <;> rfl
  rw [e]
  exact uL_set h
abbrev rn_X7_init_1 : Room := { frames := 1, cells := 2, slots := 4, locals := 23 }
set_option maxHeartbeats 4000000 in
set_option maxRecDepth 100000 in
theorem ct_X7_init_1 (l : Launch) (Ω : OmT) (A : AHp) (B : Nat) : ZM l Ω yX7_init cX7_init 2 none rn_X7_init_1 [rfO Ω B, .int (nI 1)] (uL A B [.inl (7, [.null, .null])]) (B + 1) none (uL A B [.inl (7, [rfO Ω (B + 1), rfO Ω (B + 2)]), arI 2 (fun _ => 0), arI 2 (fun j => if j < 2 then nI 1 else 0)]) (B + 3) := by
  refine ZM_of (by decide) (Nat.le_of_ble_eq_true rfl) (fun E hE C hQ => ?_)
  refine z_aload_n (pc := 0) C dX7_init_0 rfl ?_
  refine z_oinit (pc := 1) C dX7_init_1 kw_72 kw_22 kw_23 (by decide) (Nat.le_of_ble_eq_true rfl) ?_
  refine z_aload_n (pc := 4) C dX7_init_4 rfl ?_
  refine z_iconst (pc := 5) (v := nI 1) C dX7_init_5 (by decide) ?_
  refine z_iload_n (pc := 6) C dX7_init_6 rfl ?_
  refine z_iconst (pc := 7) (v := nI 0) C dX7_init_7 (by decide) ?_
  refine z_callS (pc := 8) C dX7_init_8 zy_J9_max_7cf53 kw_73 kw_74 (ct_J9_max_7cf53 l Ω _ _ 1 0 (by decide) (by decide)) rfl rfl ⟨⟨by decide, by decide⟩, by decide, by decide⟩ (Nat.le_of_ble_eq_true rfl) ?_; dsimp only [Option.toList_some, List.cons_append, List.nil_append]
  refine z_top (v' := .int (nI 1)) rfl ?_
  refine z_iaddN (pc := 11) C dX7_init_11 ?_
  refine z_top (v' := .int (nI 2)) rfl ?_
  refine z_newa (pc := 12) (t := 0) (N := 2) C dX7_init_12 (by decide) rfl kw_38 (by decide) (Nat.le_of_ble_eq_true rfl) (Nat.le_of_ble_eq_true rfl) ?_
  refine z_heap (A' := uL A B [.inl (7, [.null, .null]), arI 2 (fun _ => 0)]) (n' := B + 2) uL_alloc rfl ?_
  refine z_putF (pc := 14) (fs' := [rfO Ω (B + 1), .null]) C rfl dX7_init_14 zq_X7_13_7 (uL_0 _ _ _ _) (Nat.le_of_ble_eq_true rfl) rfl rfl rfl uL_set0 ?_
  refine z_aload_n (pc := 17) C dX7_init_17 rfl ?_
  refine z_iconst (pc := 18) (v := nI 1) C dX7_init_18 (by decide) ?_
  refine z_iload_n (pc := 19) C dX7_init_19 rfl ?_
  refine z_iconst (pc := 20) (v := nI 0) C dX7_init_20 (by decide) ?_
  refine z_callS (pc := 21) C dX7_init_21 zy_J9_max_7cf53 kw_73 kw_74 (ct_J9_max_7cf53 l Ω _ _ 1 0 (by decide) (by decide)) rfl rfl ⟨⟨by decide, by decide⟩, by decide, by decide⟩ (Nat.le_of_ble_eq_true rfl) ?_; dsimp only [Option.toList_some, List.cons_append, List.nil_append]
  refine z_top (v' := .int (nI 1)) rfl ?_
  refine z_iaddN (pc := 24) C dX7_init_24 ?_
  refine z_top (v' := .int (nI 2)) rfl ?_
  refine z_newa (pc := 25) (t := 0) (N := 2) C dX7_init_25 (by decide) rfl kw_38 (by decide) (Nat.le_of_ble_eq_true rfl) (Nat.le_of_ble_eq_true rfl) ?_
  refine z_heap (A' := uL A B [.inl (7, [rfO Ω (B + 1), .null]), arI 2 (fun _ => 0), arI 2 (fun _ => 0)]) (n' := B + 3) uL_alloc rfl ?_
  refine z_putF (pc := 27) (fs' := [rfO Ω (B + 1), rfO Ω (B + 2)]) C rfl dX7_init_27 zq_X7_19_7 (uL_0 _ _ _ _) (Nat.le_of_ble_eq_true rfl) rfl rfl rfl uL_set0 ?_
  refine z_aload_n (pc := 30) C dX7_init_30 rfl ?_
  refine z_getf (pc := 31) C dX7_init_31 zf_X7_19_7 (uL_0 _ _ _ _) rfl ?_
  refine z_iconst (pc := 34) (v := nI 1) C dX7_init_34 (by decide) ?_
  refine z_callS (pc := 35) C dX7_init_35 zy_J7_fill_53178 kw_76 kw_64 (ct_J7_fill_53178 l Ω _ _ (B + 2) 2 (fun _ => 0) (nI 1) (uL_at (k := 2) rfl) (by decide)) rfl rfl ⟨⟨by decide, by decide⟩, by decide, by decide⟩ (Nat.le_of_ble_eq_true rfl) ?_; dsimp only [Option.toList_none, List.nil_append]
  refine z_heap (A' := uL A B [.inl (7, [rfO Ω (B + 1), rfO Ω (B + 2)]), arI 2 (fun _ => 0), arI 2 (fun j => if j < 2 then nI 1 else 0)]) (n' := B + 3) (uL_set (k := 2) (Nat.le_of_ble_eq_true rfl)) rfl ?_
  exact z_vret (pc := 38) C hQ dX7_init_38 rfl rfl rfl (Nat.le_of_ble_eq_true rfl) (Nat.le_of_ble_eq_true rfl)
abbrev rn_X7_init_2 : Room := { frames := 1, cells := 2, slots := 6, locals := 23 }
set_option maxHeartbeats 4000000 in
set_option maxRecDepth 100000 in
theorem ct_X7_init_2 (l : Launch) (Ω : OmT) (A : AHp) (B : Nat) : ZM l Ω yX7_init cX7_init 2 none rn_X7_init_2 [rfO Ω B, .int (nI 2)] (uL A B [.inl (7, [.null, .null])]) (B + 1) none (uL A B [.inl (7, [rfO Ω (B + 1), rfO Ω (B + 2)]), arI 3 (fun _ => 0), arI 3 (fun j => if j < 3 then nI 1 else 0)]) (B + 3) := by
  refine ZM_of (by decide) (Nat.le_of_ble_eq_true rfl) (fun E hE C hQ => ?_)
  refine z_aload_n (pc := 0) C dX7_init_0 rfl ?_
  refine z_oinit (pc := 1) C dX7_init_1 kw_72 kw_22 kw_23 (by decide) (Nat.le_of_ble_eq_true rfl) ?_
  refine z_aload_n (pc := 4) C dX7_init_4 rfl ?_
  refine z_iconst (pc := 5) (v := nI 1) C dX7_init_5 (by decide) ?_
  refine z_iload_n (pc := 6) C dX7_init_6 rfl ?_
  refine z_iconst (pc := 7) (v := nI 0) C dX7_init_7 (by decide) ?_
  refine z_callS (pc := 8) C dX7_init_8 zy_J9_max_7cf53 kw_73 kw_74 (ct_J9_max_7cf53 l Ω _ _ 2 0 (by decide) (by decide)) rfl rfl ⟨⟨by decide, by decide⟩, by decide, by decide⟩ (Nat.le_of_ble_eq_true rfl) ?_; dsimp only [Option.toList_some, List.cons_append, List.nil_append]
  refine z_top (v' := .int (nI 2)) rfl ?_
  refine z_iaddN (pc := 11) C dX7_init_11 ?_
  refine z_top (v' := .int (nI 3)) rfl ?_
  refine z_newa (pc := 12) (t := 0) (N := 3) C dX7_init_12 (by decide) rfl kw_38 (by decide) (Nat.le_of_ble_eq_true rfl) (Nat.le_of_ble_eq_true rfl) ?_
  refine z_heap (A' := uL A B [.inl (7, [.null, .null]), arI 3 (fun _ => 0)]) (n' := B + 2) uL_alloc rfl ?_
  refine z_putF (pc := 14) (fs' := [rfO Ω (B + 1), .null]) C rfl dX7_init_14 zq_X7_13_7 (uL_0 _ _ _ _) (Nat.le_of_ble_eq_true rfl) rfl rfl rfl uL_set0 ?_
  refine z_aload_n (pc := 17) C dX7_init_17 rfl ?_
  refine z_iconst (pc := 18) (v := nI 1) C dX7_init_18 (by decide) ?_
  refine z_iload_n (pc := 19) C dX7_init_19 rfl ?_
  refine z_iconst (pc := 20) (v := nI 0) C dX7_init_20 (by decide) ?_
  refine z_callS (pc := 21) C dX7_init_21 zy_J9_max_7cf53 kw_73 kw_74 (ct_J9_max_7cf53 l Ω _ _ 2 0 (by decide) (by decide)) rfl rfl ⟨⟨by decide, by decide⟩, by decide, by decide⟩ (Nat.le_of_ble_eq_true rfl) ?_; dsimp only [Option.toList_some, List.cons_append, List.nil_append]
  refine z_top (v' := .int (nI 2)) rfl ?_
  refine z_iaddN (pc := 24) C dX7_init_24 ?_
  refine z_top (v' := .int (nI 3)) rfl ?_
  refine z_newa (pc := 25) (t := 0) (N := 3) C dX7_init_25 (by decide) rfl kw_38 (by decide) (Nat.le_of_ble_eq_true rfl) (Nat.le_of_ble_eq_true rfl) ?_
  refine z_heap (A' := uL A B [.inl (7, [rfO Ω (B + 1), .null]), arI 3 (fun _ => 0), arI 3 (fun _ => 0)]) (n' := B + 3) uL_alloc rfl ?_
  refine z_putF (pc := 27) (fs' := [rfO Ω (B + 1), rfO Ω (B + 2)]) C rfl dX7_init_27 zq_X7_19_7 (uL_0 _ _ _ _) (Nat.le_of_ble_eq_true rfl) rfl rfl rfl uL_set0 ?_
  refine z_aload_n (pc := 30) C dX7_init_30 rfl ?_
  refine z_getf (pc := 31) C dX7_init_31 zf_X7_19_7 (uL_0 _ _ _ _) rfl ?_
  refine z_iconst (pc := 34) (v := nI 1) C dX7_init_34 (by decide) ?_
  refine z_callS (pc := 35) C dX7_init_35 zy_J7_fill_53178 kw_76 kw_64 (ct_J7_fill_53178 l Ω _ _ (B + 2) 3 (fun _ => 0) (nI 1) (uL_at (k := 2) rfl) (by decide)) rfl rfl ⟨⟨by decide, by decide⟩, by decide, by decide⟩ (Nat.le_of_ble_eq_true rfl) ?_; dsimp only [Option.toList_none, List.nil_append]
  refine z_heap (A' := uL A B [.inl (7, [rfO Ω (B + 1), rfO Ω (B + 2)]), arI 3 (fun _ => 0), arI 3 (fun j => if j < 3 then nI 1 else 0)]) (n' := B + 3) (uL_set (k := 2) (Nat.le_of_ble_eq_true rfl)) rfl ?_
  exact z_vret (pc := 38) C hQ dX7_init_38 rfl rfl rfl (Nat.le_of_ble_eq_true rfl) (Nat.le_of_ble_eq_true rfl)
abbrev rn_X9_init_0 : Room := { frames := 2, cells := 6, slots := 34, locals := 44 }
set_option maxHeartbeats 4000000 in
set_option maxRecDepth 100000 in
theorem ct_X9_init_0 (l : Launch) (Ω : OmT) (A : AHp) (B : Nat) : ZM l Ω yX9_init cX9_init 2 none rn_X9_init_0 [rfO Ω B, .int (nI 0)] (uL A B [.inl (1, [.int 0, .null, .null, .null, .null, .null, .null, .null, .int 0, .int 0, .int 0, .int 0])]) (B + 1) none (uL A B [.inl (1, [.int (nI 0), rfO Ω (B + 1), rfO Ω (B + 2), rfO Ω (B + 3), rfO Ω (B + 4), rfO Ω (B + 6), .null, .null, .int 0, .int 0, .int 0, .int 0]), arI 8 (fun _ => 0), arI 8 (fun _ => 0), arI 1 (fun j => if j < 1 then -1 else 0), .inr (4, 1, fun j => rfO Ω (B + 4 + 1 + j)), arI 8 (fun _ => 0), arI 8 (fun j => if j < 8 then nI 0 else 0)]) (B + 7) := by
  refine ZM_of (by decide) (Nat.le_of_ble_eq_true rfl) (fun E hE C hQ => ?_)
  refine z_aload_n (pc := 0) C dX9_init_0 rfl ?_
  refine z_oinit (pc := 1) C dX9_init_1 kw_62 kw_22 kw_23 (by decide) (Nat.le_of_ble_eq_true rfl) ?_
  refine z_aload_n (pc := 4) C dX9_init_4 rfl ?_
  refine z_bipush (pc := 5) (v := nI 8) C dX9_init_5 (by decide) ?_
  refine z_newa (pc := 7) (t := 0) (N := 8) C dX9_init_7 (by decide) rfl kw_38 (by decide) (Nat.le_of_ble_eq_true rfl) (Nat.le_of_ble_eq_true rfl) ?_
  refine z_heap (A' := uL A B [.inl (1, [.int 0, .null, .null, .null, .null, .null, .null, .null, .int 0, .int 0, .int 0, .int 0]), arI 8 (fun _ => 0)]) (n' := B + 2) uL_alloc rfl ?_
  refine z_putF (pc := 9) (fs' := [.int 0, rfO Ω (B + 1), .null, .null, .null, .null, .null, .null, .int 0, .int 0, .int 0, .int 0]) C rfl dX9_init_9 zq_X9_9_1 (uL_0 _ _ _ _) (Nat.le_of_ble_eq_true rfl) rfl rfl rfl uL_set0 ?_
  refine z_aload_n (pc := 12) C dX9_init_12 rfl ?_
  refine z_bipush (pc := 13) (v := nI 8) C dX9_init_13 (by decide) ?_
  refine z_newa (pc := 15) (t := 0) (N := 8) C dX9_init_15 (by decide) rfl kw_38 (by decide) (Nat.le_of_ble_eq_true rfl) (Nat.le_of_ble_eq_true rfl) ?_
  refine z_heap (A' := uL A B [.inl (1, [.int 0, rfO Ω (B + 1), .null, .null, .null, .null, .null, .null, .int 0, .int 0, .int 0, .int 0]), arI 8 (fun _ => 0), arI 8 (fun _ => 0)]) (n' := B + 3) uL_alloc rfl ?_
  refine z_putF (pc := 17) (fs' := [.int 0, rfO Ω (B + 1), rfO Ω (B + 2), .null, .null, .null, .null, .null, .int 0, .int 0, .int 0, .int 0]) C rfl dX9_init_17 zq_X9_15_1 (uL_0 _ _ _ _) (Nat.le_of_ble_eq_true rfl) rfl rfl rfl uL_set0 ?_
  refine z_aload_n (pc := 20) C dX9_init_20 rfl ?_
  refine z_iload_n (pc := 21) C dX9_init_21 rfl ?_
  refine z_putF (pc := 22) (fs' := [.int (nI 0), rfO Ω (B + 1), rfO Ω (B + 2), .null, .null, .null, .null, .null, .int 0, .int 0, .int 0, .int 0]) C rfl dX9_init_22 zq_X9_18_1 (uL_0 _ _ _ _) (Nat.le_of_ble_eq_true rfl) rfl rfl rfl uL_set0 ?_
  refine z_aload_n (pc := 25) C dX9_init_25 rfl ?_
  refine z_gets (pc := 26) C 0 (by decide) dX9_init_26 (by decide +kernel) ?_
  refine z_iload_n (pc := 29) C dX9_init_29 rfl ?_
  refine z_tald (pc := 30) C (by decide) (by decide) dX9_init_30 ?_
  refine z_top (v' := .int (nI 1)) rfl ?_
  refine z_newa (pc := 31) (t := 0) (N := 1) C dX9_init_31 (by decide) rfl kw_38 (by decide) (Nat.le_of_ble_eq_true rfl) (Nat.le_of_ble_eq_true rfl) ?_
  refine z_heap (A' := uL A B [.inl (1, [.int (nI 0), rfO Ω (B + 1), rfO Ω (B + 2), .null, .null, .null, .null, .null, .int 0, .int 0, .int 0, .int 0]), arI 8 (fun _ => 0), arI 8 (fun _ => 0), arI 1 (fun _ => 0)]) (n' := B + 4) uL_alloc rfl ?_
  refine z_putF (pc := 33) (fs' := [.int (nI 0), rfO Ω (B + 1), rfO Ω (B + 2), rfO Ω (B + 3), .null, .null, .null, .null, .int 0, .int 0, .int 0, .int 0]) C rfl dX9_init_33 zq_X9_25_1 (uL_0 _ _ _ _) (Nat.le_of_ble_eq_true rfl) rfl rfl rfl uL_set0 ?_
  refine z_aload_n (pc := 36) C dX9_init_36 rfl ?_
  refine z_getf (pc := 37) C dX9_init_37 zf_X9_25_1 (uL_0 _ _ _ _) rfl ?_
  refine z_iconst (pc := 40) (v := (-1)) C dX9_init_40 (by decide) ?_
  refine z_callS (pc := 41) C dX9_init_41 zy_J7_fill_53178 kw_63 kw_64 (ct_J7_fill_53178 l Ω _ _ (B + 3) 1 (fun _ => 0) (-1) (uL_at (k := 3) rfl) (by decide)) rfl rfl ⟨⟨by decide, by decide⟩, by decide, by decide⟩ (Nat.le_of_ble_eq_true rfl) ?_; dsimp only [Option.toList_none, List.nil_append]
  refine z_heap (A' := uL A B [.inl (1, [.int (nI 0), rfO Ω (B + 1), rfO Ω (B + 2), rfO Ω (B + 3), .null, .null, .null, .null, .int 0, .int 0, .int 0, .int 0]), arI 8 (fun _ => 0), arI 8 (fun _ => 0), arI 1 (fun j => if j < 1 then -1 else 0)]) (n' := B + 4) (uL_set (k := 3) (Nat.le_of_ble_eq_true rfl)) rfl ?_
  refine z_aload_n (pc := 44) C dX9_init_44 rfl ?_
  refine z_gets (pc := 45) C 0 (by decide) dX9_init_45 (by decide +kernel) ?_
  refine z_iload_n (pc := 48) C dX9_init_48 rfl ?_
  refine z_tald (pc := 49) C (by decide) (by decide) dX9_init_49 ?_
  refine z_top (v' := .int (nI 1)) rfl ?_
  refine z_bipush (pc := 50) (v := nI 8) C dX9_init_50 (by decide) ?_
  refine z_mnew (pc := 52) (N := 1) (M := 8) C dX9_init_52 kw_66 kw_38 (by decide) (by decide) (Nat.le_of_ble_eq_true rfl) (Nat.le_of_ble_eq_true rfl) ?_
  refine z_heap (A' := uL A B [.inl (1, [.int (nI 0), rfO Ω (B + 1), rfO Ω (B + 2), rfO Ω (B + 3), .null, .null, .null, .null, .int 0, .int 0, .int 0, .int 0]), arI 8 (fun _ => 0), arI 8 (fun _ => 0), arI 1 (fun j => if j < 1 then -1 else 0), .inr (4, 1, fun j => rfO Ω (B + 4 + 1 + j)), arI 8 (fun _ => 0)]) (n' := B + 6) uL_mn rfl ?_
  refine z_putF (pc := 56) (fs' := [.int (nI 0), rfO Ω (B + 1), rfO Ω (B + 2), rfO Ω (B + 3), rfO Ω (B + 4), .null, .null, .null, .int 0, .int 0, .int 0, .int 0]) C rfl dX9_init_56 zq_X9_36_1 (uL_0 _ _ _ _) (Nat.le_of_ble_eq_true rfl) rfl rfl rfl uL_set0 ?_
  refine z_aload_n (pc := 59) C dX9_init_59 rfl ?_
  refine z_gets (pc := 60) C 1 (by decide) dX9_init_60 (by decide +kernel) ?_
  refine z_iload_n (pc := 63) C dX9_init_63 rfl ?_
  refine z_tald (pc := 64) C (by decide) (by decide) dX9_init_64 ?_
  refine z_top (v' := .int (nI 8)) rfl ?_
  refine z_newa (pc := 65) (t := 0) (N := 8) C dX9_init_65 (by decide) rfl kw_38 (by decide) (Nat.le_of_ble_eq_true rfl) (Nat.le_of_ble_eq_true rfl) ?_
  refine z_heap (A' := uL A B [.inl (1, [.int (nI 0), rfO Ω (B + 1), rfO Ω (B + 2), rfO Ω (B + 3), rfO Ω (B + 4), .null, .null, .null, .int 0, .int 0, .int 0, .int 0]), arI 8 (fun _ => 0), arI 8 (fun _ => 0), arI 1 (fun j => if j < 1 then -1 else 0), .inr (4, 1, fun j => rfO Ω (B + 4 + 1 + j)), arI 8 (fun _ => 0), arI 8 (fun _ => 0)]) (n' := B + 7) uL_alloc rfl ?_
  refine z_putF (pc := 67) (fs' := [.int (nI 0), rfO Ω (B + 1), rfO Ω (B + 2), rfO Ω (B + 3), rfO Ω (B + 4), rfO Ω (B + 6), .null, .null, .int 0, .int 0, .int 0, .int 0]) C rfl dX9_init_67 zq_X9_42_1 (uL_0 _ _ _ _) (Nat.le_of_ble_eq_true rfl) rfl rfl rfl uL_set0 ?_
  refine z_aload_n (pc := 70) C dX9_init_70 rfl ?_
  refine z_getf (pc := 71) C dX9_init_71 zf_X9_42_1 (uL_0 _ _ _ _) rfl ?_
  refine z_gets (pc := 74) C 2 (by decide) dX9_init_74 (by decide +kernel) ?_
  refine z_iload_n (pc := 77) C dX9_init_77 rfl ?_
  refine z_tald (pc := 78) C (by decide) (by decide) dX9_init_78 ?_
  refine z_top (v' := .int (nI 0)) rfl ?_
  refine z_callS (pc := 79) C dX9_init_79 zy_J7_fill_53178 kw_63 kw_64 (ct_J7_fill_53178 l Ω _ _ (B + 6) 8 (fun _ => 0) (nI 0) (uL_at (k := 6) rfl) (by decide)) rfl rfl ⟨⟨by decide, by decide⟩, by decide, by decide⟩ (Nat.le_of_ble_eq_true rfl) ?_; dsimp only [Option.toList_none, List.nil_append]
  refine z_heap (A' := uL A B [.inl (1, [.int (nI 0), rfO Ω (B + 1), rfO Ω (B + 2), rfO Ω (B + 3), rfO Ω (B + 4), rfO Ω (B + 6), .null, .null, .int 0, .int 0, .int 0, .int 0]), arI 8 (fun _ => 0), arI 8 (fun _ => 0), arI 1 (fun j => if j < 1 then -1 else 0), .inr (4, 1, fun j => rfO Ω (B + 4 + 1 + j)), arI 8 (fun _ => 0), arI 8 (fun j => if j < 8 then nI 0 else 0)]) (n' := B + 7) (uL_set (k := 6) (Nat.le_of_ble_eq_true rfl)) rfl ?_
  refine z_aload_n (pc := 82) C dX9_init_82 rfl ?_
  refine z_iload_n (pc := 83) C dX9_init_83 rfl ?_
  refine z_if_eqT (pc := 84) (tgt := 93) (a := 0) C dX9_init_84 (by decide) (by decide) ?_
  refine z_null (pc := 93) C dX9_init_93 ?_
  refine z_goto (pc := 94) (tgt := 109) C dX9_init_94 (by decide) ?_
  refine z_putF (pc := 109) (fs' := [.int (nI 0), rfO Ω (B + 1), rfO Ω (B + 2), rfO Ω (B + 3), rfO Ω (B + 4), rfO Ω (B + 6), .null, .null, .int 0, .int 0, .int 0, .int 0]) C rfl dX9_init_109 zq_X9_53_1 (uL_0 _ _ _ _) (Nat.le_of_ble_eq_true rfl) rfl rfl rfl uL_set0 ?_
  exact z_vret (pc := 112) C hQ dX9_init_112 rfl rfl rfl (Nat.le_of_ble_eq_true rfl) (Nat.le_of_ble_eq_true rfl)
abbrev rn_X9_init_1 : Room := { frames := 2, cells := 9, slots := 32, locals := 44 }
set_option maxHeartbeats 4000000 in
set_option maxRecDepth 100000 in
theorem ct_X9_init_1 (l : Launch) (Ω : OmT) (A : AHp) (B : Nat) : ZM l Ω yX9_init cX9_init 2 none rn_X9_init_1 [rfO Ω B, .int (nI 1)] (uL A B [.inl (2, [.int 0, .null, .null, .null, .null, .null, .null])]) (B + 1) none (uL A B [.inl (2, [.int (nI 1), rfO Ω (B + 1), rfO Ω (B + 2), rfO Ω (B + 3), rfO Ω (B + 4), rfO Ω (B + 6), rfO Ω (B + 7)]), arI 8 (fun _ => 0), arI 8 (fun _ => 0), arI 1 (fun j => if j < 1 then -1 else 0), .inr (4, 1, fun j => rfO Ω (B + 4 + 1 + j)), arI 8 (fun _ => 0), arI 0 (fun j => if j < 0 then nI 0 else 0), .inl (7, [rfO Ω (B + 8), rfO Ω (B + 9)]), arI 2 (fun _ => 0), arI 2 (fun j => if j < 2 then nI 1 else 0)]) (B + 10) := by
  refine ZM_of (by decide) (Nat.le_of_ble_eq_true rfl) (fun E hE C hQ => ?_)
  refine z_aload_n (pc := 0) C dX9_init_0 rfl ?_
  refine z_oinit (pc := 1) C dX9_init_1 kw_62 kw_22 kw_23 (by decide) (Nat.le_of_ble_eq_true rfl) ?_
  refine z_aload_n (pc := 4) C dX9_init_4 rfl ?_
  refine z_bipush (pc := 5) (v := nI 8) C dX9_init_5 (by decide) ?_
  refine z_newa (pc := 7) (t := 0) (N := 8) C dX9_init_7 (by decide) rfl kw_38 (by decide) (Nat.le_of_ble_eq_true rfl) (Nat.le_of_ble_eq_true rfl) ?_
  refine z_heap (A' := uL A B [.inl (2, [.int 0, .null, .null, .null, .null, .null, .null]), arI 8 (fun _ => 0)]) (n' := B + 2) uL_alloc rfl ?_
  refine z_putF (pc := 9) (fs' := [.int 0, rfO Ω (B + 1), .null, .null, .null, .null, .null]) C rfl dX9_init_9 zq_X9_9_2 (uL_0 _ _ _ _) (Nat.le_of_ble_eq_true rfl) rfl rfl rfl uL_set0 ?_
  refine z_aload_n (pc := 12) C dX9_init_12 rfl ?_
  refine z_bipush (pc := 13) (v := nI 8) C dX9_init_13 (by decide) ?_
  refine z_newa (pc := 15) (t := 0) (N := 8) C dX9_init_15 (by decide) rfl kw_38 (by decide) (Nat.le_of_ble_eq_true rfl) (Nat.le_of_ble_eq_true rfl) ?_
  refine z_heap (A' := uL A B [.inl (2, [.int 0, rfO Ω (B + 1), .null, .null, .null, .null, .null]), arI 8 (fun _ => 0), arI 8 (fun _ => 0)]) (n' := B + 3) uL_alloc rfl ?_
  refine z_putF (pc := 17) (fs' := [.int 0, rfO Ω (B + 1), rfO Ω (B + 2), .null, .null, .null, .null]) C rfl dX9_init_17 zq_X9_15_2 (uL_0 _ _ _ _) (Nat.le_of_ble_eq_true rfl) rfl rfl rfl uL_set0 ?_
  refine z_aload_n (pc := 20) C dX9_init_20 rfl ?_
  refine z_iload_n (pc := 21) C dX9_init_21 rfl ?_
  refine z_putF (pc := 22) (fs' := [.int (nI 1), rfO Ω (B + 1), rfO Ω (B + 2), .null, .null, .null, .null]) C rfl dX9_init_22 zq_X9_18_2 (uL_0 _ _ _ _) (Nat.le_of_ble_eq_true rfl) rfl rfl rfl uL_set0 ?_
  refine z_aload_n (pc := 25) C dX9_init_25 rfl ?_
  refine z_gets (pc := 26) C 0 (by decide) dX9_init_26 (by decide +kernel) ?_
  refine z_iload_n (pc := 29) C dX9_init_29 rfl ?_
  refine z_tald (pc := 30) C (by decide) (by decide) dX9_init_30 ?_
  refine z_top (v' := .int (nI 1)) rfl ?_
  refine z_newa (pc := 31) (t := 0) (N := 1) C dX9_init_31 (by decide) rfl kw_38 (by decide) (Nat.le_of_ble_eq_true rfl) (Nat.le_of_ble_eq_true rfl) ?_
  refine z_heap (A' := uL A B [.inl (2, [.int (nI 1), rfO Ω (B + 1), rfO Ω (B + 2), .null, .null, .null, .null]), arI 8 (fun _ => 0), arI 8 (fun _ => 0), arI 1 (fun _ => 0)]) (n' := B + 4) uL_alloc rfl ?_
  refine z_putF (pc := 33) (fs' := [.int (nI 1), rfO Ω (B + 1), rfO Ω (B + 2), rfO Ω (B + 3), .null, .null, .null]) C rfl dX9_init_33 zq_X9_25_2 (uL_0 _ _ _ _) (Nat.le_of_ble_eq_true rfl) rfl rfl rfl uL_set0 ?_
  refine z_aload_n (pc := 36) C dX9_init_36 rfl ?_
  refine z_getf (pc := 37) C dX9_init_37 zf_X9_25_2 (uL_0 _ _ _ _) rfl ?_
  refine z_iconst (pc := 40) (v := (-1)) C dX9_init_40 (by decide) ?_
  refine z_callS (pc := 41) C dX9_init_41 zy_J7_fill_53178 kw_63 kw_64 (ct_J7_fill_53178 l Ω _ _ (B + 3) 1 (fun _ => 0) (-1) (uL_at (k := 3) rfl) (by decide)) rfl rfl ⟨⟨by decide, by decide⟩, by decide, by decide⟩ (Nat.le_of_ble_eq_true rfl) ?_; dsimp only [Option.toList_none, List.nil_append]
  refine z_heap (A' := uL A B [.inl (2, [.int (nI 1), rfO Ω (B + 1), rfO Ω (B + 2), rfO Ω (B + 3), .null, .null, .null]), arI 8 (fun _ => 0), arI 8 (fun _ => 0), arI 1 (fun j => if j < 1 then -1 else 0)]) (n' := B + 4) (uL_set (k := 3) (Nat.le_of_ble_eq_true rfl)) rfl ?_
  refine z_aload_n (pc := 44) C dX9_init_44 rfl ?_
  refine z_gets (pc := 45) C 0 (by decide) dX9_init_45 (by decide +kernel) ?_
  refine z_iload_n (pc := 48) C dX9_init_48 rfl ?_
  refine z_tald (pc := 49) C (by decide) (by decide) dX9_init_49 ?_
  refine z_top (v' := .int (nI 1)) rfl ?_
  refine z_bipush (pc := 50) (v := nI 8) C dX9_init_50 (by decide) ?_
  refine z_mnew (pc := 52) (N := 1) (M := 8) C dX9_init_52 kw_66 kw_38 (by decide) (by decide) (Nat.le_of_ble_eq_true rfl) (Nat.le_of_ble_eq_true rfl) ?_
  refine z_heap (A' := uL A B [.inl (2, [.int (nI 1), rfO Ω (B + 1), rfO Ω (B + 2), rfO Ω (B + 3), .null, .null, .null]), arI 8 (fun _ => 0), arI 8 (fun _ => 0), arI 1 (fun j => if j < 1 then -1 else 0), .inr (4, 1, fun j => rfO Ω (B + 4 + 1 + j)), arI 8 (fun _ => 0)]) (n' := B + 6) uL_mn rfl ?_
  refine z_putF (pc := 56) (fs' := [.int (nI 1), rfO Ω (B + 1), rfO Ω (B + 2), rfO Ω (B + 3), rfO Ω (B + 4), .null, .null]) C rfl dX9_init_56 zq_X9_36_2 (uL_0 _ _ _ _) (Nat.le_of_ble_eq_true rfl) rfl rfl rfl uL_set0 ?_
  refine z_aload_n (pc := 59) C dX9_init_59 rfl ?_
  refine z_gets (pc := 60) C 1 (by decide) dX9_init_60 (by decide +kernel) ?_
  refine z_iload_n (pc := 63) C dX9_init_63 rfl ?_
  refine z_tald (pc := 64) C (by decide) (by decide) dX9_init_64 ?_
  refine z_top (v' := .int (nI 0)) rfl ?_
  refine z_newa (pc := 65) (t := 0) (N := 0) C dX9_init_65 (by decide) rfl kw_38 (by decide) (Nat.le_of_ble_eq_true rfl) (Nat.le_of_ble_eq_true rfl) ?_
  refine z_heap (A' := uL A B [.inl (2, [.int (nI 1), rfO Ω (B + 1), rfO Ω (B + 2), rfO Ω (B + 3), rfO Ω (B + 4), .null, .null]), arI 8 (fun _ => 0), arI 8 (fun _ => 0), arI 1 (fun j => if j < 1 then -1 else 0), .inr (4, 1, fun j => rfO Ω (B + 4 + 1 + j)), arI 8 (fun _ => 0), arI 0 (fun _ => 0)]) (n' := B + 7) uL_alloc rfl ?_
  refine z_putF (pc := 67) (fs' := [.int (nI 1), rfO Ω (B + 1), rfO Ω (B + 2), rfO Ω (B + 3), rfO Ω (B + 4), rfO Ω (B + 6), .null]) C rfl dX9_init_67 zq_X9_42_2 (uL_0 _ _ _ _) (Nat.le_of_ble_eq_true rfl) rfl rfl rfl uL_set0 ?_
  refine z_aload_n (pc := 70) C dX9_init_70 rfl ?_
  refine z_getf (pc := 71) C dX9_init_71 zf_X9_42_2 (uL_0 _ _ _ _) rfl ?_
  refine z_gets (pc := 74) C 2 (by decide) dX9_init_74 (by decide +kernel) ?_
  refine z_iload_n (pc := 77) C dX9_init_77 rfl ?_
  refine z_tald (pc := 78) C (by decide) (by decide) dX9_init_78 ?_
  refine z_top (v' := .int (nI 0)) rfl ?_
  refine z_callS (pc := 79) C dX9_init_79 zy_J7_fill_53178 kw_63 kw_64 (ct_J7_fill_53178 l Ω _ _ (B + 6) 0 (fun _ => 0) (nI 0) (uL_at (k := 6) rfl) (by decide)) rfl rfl ⟨⟨by decide, by decide⟩, by decide, by decide⟩ (Nat.le_of_ble_eq_true rfl) ?_; dsimp only [Option.toList_none, List.nil_append]
  refine z_heap (A' := uL A B [.inl (2, [.int (nI 1), rfO Ω (B + 1), rfO Ω (B + 2), rfO Ω (B + 3), rfO Ω (B + 4), rfO Ω (B + 6), .null]), arI 8 (fun _ => 0), arI 8 (fun _ => 0), arI 1 (fun j => if j < 1 then -1 else 0), .inr (4, 1, fun j => rfO Ω (B + 4 + 1 + j)), arI 8 (fun _ => 0), arI 0 (fun j => if j < 0 then nI 0 else 0)]) (n' := B + 7) (uL_set (k := 6) (Nat.le_of_ble_eq_true rfl)) rfl ?_
  refine z_aload_n (pc := 82) C dX9_init_82 rfl ?_
  refine z_iload_n (pc := 83) C dX9_init_83 rfl ?_
  refine z_if_eqF (pc := 84) (tgt := 93) (a := 1) C dX9_init_84 (by decide) (by decide) (by decide) ?_
  refine z_iload_n (pc := 87) C dX9_init_87 rfl ?_
  refine z_bipush (pc := 88) (v := nI 7) C dX9_init_88 (by decide) ?_
  refine z_icmp_neT (pc := 90) (tgt := 97) (a := 1) (b := 7) C dX9_init_90 (by decide) (by decide) (by decide) (by decide) ?_
  refine z_new (pc := 97) (ci := 7) (fs := [.null, .null]) C tyX7 dX9_init_97 rfl tyX7_ok kw_67 kw_68 kw_7 (by decide +kernel) (Nat.le_of_ble_eq_true rfl) (Nat.le_of_ble_eq_true rfl) ?_
  refine z_heap (A' := uL (uL A B [.inl (2, [.int (nI 1), rfO Ω (B + 1), rfO Ω (B + 2), rfO Ω (B + 3), rfO Ω (B + 4), rfO Ω (B + 6), .null]), arI 8 (fun _ => 0), arI 8 (fun _ => 0), arI 1 (fun j => if j < 1 then -1 else 0), .inr (4, 1, fun j => rfO Ω (B + 4 + 1 + j)), arI 8 (fun _ => 0), arI 0 (fun j => if j < 0 then nI 0 else 0)]) (B + 7) [.inl (7, [.null, .null])]) (n' := B + 8) uL_new rfl ?_
  refine z_dup (pc := 100) C dX9_init_100 rfl ?_
  refine z_gets (pc := 101) C 0 (by decide) dX9_init_101 (by decide +kernel) ?_
  refine z_iload_n (pc := 104) C dX9_init_104 rfl ?_
  refine z_tald (pc := 105) C (by decide) (by decide) dX9_init_105 ?_
  refine z_top (v' := .int (nI 1)) rfl ?_
  refine z_callI (pc := 106) C dX9_init_106 zy_X7_init rfl kw_69 kw_70 (ct_X7_init_1 l Ω (uL A B [.inl (2, [.int (nI 1), rfO Ω (B + 1), rfO Ω (B + 2), rfO Ω (B + 3), rfO Ω (B + 4), rfO Ω (B + 6), .null]), arI 8 (fun _ => 0), arI 8 (fun _ => 0), arI 1 (fun j => if j < 1 then -1 else 0), .inr (4, 1, fun j => rfO Ω (B + 4 + 1 + j)), arI 8 (fun _ => 0), arI 0 (fun j => if j < 0 then nI 0 else 0)]) (B + 7)) rfl rfl ⟨⟨by decide, by decide⟩, by decide, by decide⟩ (Nat.le_of_ble_eq_true rfl) ?_
  refine z_heap (A' := uL A B [.inl (2, [.int (nI 1), rfO Ω (B + 1), rfO Ω (B + 2), rfO Ω (B + 3), rfO Ω (B + 4), rfO Ω (B + 6), .null]), arI 8 (fun _ => 0), arI 8 (fun _ => 0), arI 1 (fun j => if j < 1 then -1 else 0), .inr (4, 1, fun j => rfO Ω (B + 4 + 1 + j)), arI 8 (fun _ => 0), arI 0 (fun j => if j < 0 then nI 0 else 0), .inl (7, [rfO Ω (B + 8), rfO Ω (B + 9)]), arI 2 (fun _ => 0), arI 2 (fun j => if j < 2 then nI 1 else 0)]) (n' := B + 10) uL_app rfl ?_
  refine z_putF (pc := 109) (fs' := [.int (nI 1), rfO Ω (B + 1), rfO Ω (B + 2), rfO Ω (B + 3), rfO Ω (B + 4), rfO Ω (B + 6), rfO Ω (B + 7)]) C rfl dX9_init_109 zq_X9_53_2 (uL_0 _ _ _ _) (Nat.le_of_ble_eq_true rfl) rfl rfl rfl uL_set0 ?_
  exact z_vret (pc := 112) C hQ dX9_init_112 rfl rfl rfl (Nat.le_of_ble_eq_true rfl) (Nat.le_of_ble_eq_true rfl)
abbrev rn_X9_init_2 : Room := { frames := 2, cells := 9, slots := 48, locals := 44 }
set_option maxHeartbeats 4000000 in
set_option maxRecDepth 100000 in
theorem ct_X9_init_2 (l : Launch) (Ω : OmT) (A : AHp) (B : Nat) : ZM l Ω yX9_init cX9_init 2 none rn_X9_init_2 [rfO Ω B, .int (nI 2)] (uL A B [.inl (4, [.int 0, .null, .null, .null, .null, .null, .null])]) (B + 1) none (uL A B [.inl (4, [.int (nI 2), rfO Ω (B + 1), rfO Ω (B + 2), rfO Ω (B + 3), rfO Ω (B + 4), rfO Ω (B + 6), rfO Ω (B + 7)]), arI 8 (fun _ => 0), arI 8 (fun _ => 0), arI 1 (fun j => if j < 1 then -1 else 0), .inr (4, 1, fun j => rfO Ω (B + 4 + 1 + j)), arI 8 (fun _ => 0), arI 16 (fun j => if j < 16 then nI 0 else 0), .inl (7, [rfO Ω (B + 8), rfO Ω (B + 9)]), arI 2 (fun _ => 0), arI 2 (fun j => if j < 2 then nI 1 else 0)]) (B + 10) := by
  refine ZM_of (by decide) (Nat.le_of_ble_eq_true rfl) (fun E hE C hQ => ?_)
  refine z_aload_n (pc := 0) C dX9_init_0 rfl ?_
  refine z_oinit (pc := 1) C dX9_init_1 kw_62 kw_22 kw_23 (by decide) (Nat.le_of_ble_eq_true rfl) ?_
  refine z_aload_n (pc := 4) C dX9_init_4 rfl ?_
  refine z_bipush (pc := 5) (v := nI 8) C dX9_init_5 (by decide) ?_
  refine z_newa (pc := 7) (t := 0) (N := 8) C dX9_init_7 (by decide) rfl kw_38 (by decide) (Nat.le_of_ble_eq_true rfl) (Nat.le_of_ble_eq_true rfl) ?_
  refine z_heap (A' := uL A B [.inl (4, [.int 0, .null, .null, .null, .null, .null, .null]), arI 8 (fun _ => 0)]) (n' := B + 2) uL_alloc rfl ?_
  refine z_putF (pc := 9) (fs' := [.int 0, rfO Ω (B + 1), .null, .null, .null, .null, .null]) C rfl dX9_init_9 zq_X9_9_4 (uL_0 _ _ _ _) (Nat.le_of_ble_eq_true rfl) rfl rfl rfl uL_set0 ?_
  refine z_aload_n (pc := 12) C dX9_init_12 rfl ?_
  refine z_bipush (pc := 13) (v := nI 8) C dX9_init_13 (by decide) ?_
  refine z_newa (pc := 15) (t := 0) (N := 8) C dX9_init_15 (by decide) rfl kw_38 (by decide) (Nat.le_of_ble_eq_true rfl) (Nat.le_of_ble_eq_true rfl) ?_
  refine z_heap (A' := uL A B [.inl (4, [.int 0, rfO Ω (B + 1), .null, .null, .null, .null, .null]), arI 8 (fun _ => 0), arI 8 (fun _ => 0)]) (n' := B + 3) uL_alloc rfl ?_
  refine z_putF (pc := 17) (fs' := [.int 0, rfO Ω (B + 1), rfO Ω (B + 2), .null, .null, .null, .null]) C rfl dX9_init_17 zq_X9_15_4 (uL_0 _ _ _ _) (Nat.le_of_ble_eq_true rfl) rfl rfl rfl uL_set0 ?_
  refine z_aload_n (pc := 20) C dX9_init_20 rfl ?_
  refine z_iload_n (pc := 21) C dX9_init_21 rfl ?_
  refine z_putF (pc := 22) (fs' := [.int (nI 2), rfO Ω (B + 1), rfO Ω (B + 2), .null, .null, .null, .null]) C rfl dX9_init_22 zq_X9_18_4 (uL_0 _ _ _ _) (Nat.le_of_ble_eq_true rfl) rfl rfl rfl uL_set0 ?_
  refine z_aload_n (pc := 25) C dX9_init_25 rfl ?_
  refine z_gets (pc := 26) C 0 (by decide) dX9_init_26 (by decide +kernel) ?_
  refine z_iload_n (pc := 29) C dX9_init_29 rfl ?_
  refine z_tald (pc := 30) C (by decide) (by decide) dX9_init_30 ?_
  refine z_top (v' := .int (nI 1)) rfl ?_
  refine z_newa (pc := 31) (t := 0) (N := 1) C dX9_init_31 (by decide) rfl kw_38 (by decide) (Nat.le_of_ble_eq_true rfl) (Nat.le_of_ble_eq_true rfl) ?_
  refine z_heap (A' := uL A B [.inl (4, [.int (nI 2), rfO Ω (B + 1), rfO Ω (B + 2), .null, .null, .null, .null]), arI 8 (fun _ => 0), arI 8 (fun _ => 0), arI 1 (fun _ => 0)]) (n' := B + 4) uL_alloc rfl ?_
  refine z_putF (pc := 33) (fs' := [.int (nI 2), rfO Ω (B + 1), rfO Ω (B + 2), rfO Ω (B + 3), .null, .null, .null]) C rfl dX9_init_33 zq_X9_25_4 (uL_0 _ _ _ _) (Nat.le_of_ble_eq_true rfl) rfl rfl rfl uL_set0 ?_
  refine z_aload_n (pc := 36) C dX9_init_36 rfl ?_
  refine z_getf (pc := 37) C dX9_init_37 zf_X9_25_4 (uL_0 _ _ _ _) rfl ?_
  refine z_iconst (pc := 40) (v := (-1)) C dX9_init_40 (by decide) ?_
  refine z_callS (pc := 41) C dX9_init_41 zy_J7_fill_53178 kw_63 kw_64 (ct_J7_fill_53178 l Ω _ _ (B + 3) 1 (fun _ => 0) (-1) (uL_at (k := 3) rfl) (by decide)) rfl rfl ⟨⟨by decide, by decide⟩, by decide, by decide⟩ (Nat.le_of_ble_eq_true rfl) ?_; dsimp only [Option.toList_none, List.nil_append]
  refine z_heap (A' := uL A B [.inl (4, [.int (nI 2), rfO Ω (B + 1), rfO Ω (B + 2), rfO Ω (B + 3), .null, .null, .null]), arI 8 (fun _ => 0), arI 8 (fun _ => 0), arI 1 (fun j => if j < 1 then -1 else 0)]) (n' := B + 4) (uL_set (k := 3) (Nat.le_of_ble_eq_true rfl)) rfl ?_
  refine z_aload_n (pc := 44) C dX9_init_44 rfl ?_
  refine z_gets (pc := 45) C 0 (by decide) dX9_init_45 (by decide +kernel) ?_
  refine z_iload_n (pc := 48) C dX9_init_48 rfl ?_
  refine z_tald (pc := 49) C (by decide) (by decide) dX9_init_49 ?_
  refine z_top (v' := .int (nI 1)) rfl ?_
  refine z_bipush (pc := 50) (v := nI 8) C dX9_init_50 (by decide) ?_
  refine z_mnew (pc := 52) (N := 1) (M := 8) C dX9_init_52 kw_66 kw_38 (by decide) (by decide) (Nat.le_of_ble_eq_true rfl) (Nat.le_of_ble_eq_true rfl) ?_
  refine z_heap (A' := uL A B [.inl (4, [.int (nI 2), rfO Ω (B + 1), rfO Ω (B + 2), rfO Ω (B + 3), .null, .null, .null]), arI 8 (fun _ => 0), arI 8 (fun _ => 0), arI 1 (fun j => if j < 1 then -1 else 0), .inr (4, 1, fun j => rfO Ω (B + 4 + 1 + j)), arI 8 (fun _ => 0)]) (n' := B + 6) uL_mn rfl ?_
  refine z_putF (pc := 56) (fs' := [.int (nI 2), rfO Ω (B + 1), rfO Ω (B + 2), rfO Ω (B + 3), rfO Ω (B + 4), .null, .null]) C rfl dX9_init_56 zq_X9_36_4 (uL_0 _ _ _ _) (Nat.le_of_ble_eq_true rfl) rfl rfl rfl uL_set0 ?_
  refine z_aload_n (pc := 59) C dX9_init_59 rfl ?_
  refine z_gets (pc := 60) C 1 (by decide) dX9_init_60 (by decide +kernel) ?_
  refine z_iload_n (pc := 63) C dX9_init_63 rfl ?_
  refine z_tald (pc := 64) C (by decide) (by decide) dX9_init_64 ?_
  refine z_top (v' := .int (nI 16)) rfl ?_
  refine z_newa (pc := 65) (t := 0) (N := 16) C dX9_init_65 (by decide) rfl kw_38 (by decide) (Nat.le_of_ble_eq_true rfl) (Nat.le_of_ble_eq_true rfl) ?_
  refine z_heap (A' := uL A B [.inl (4, [.int (nI 2), rfO Ω (B + 1), rfO Ω (B + 2), rfO Ω (B + 3), rfO Ω (B + 4), .null, .null]), arI 8 (fun _ => 0), arI 8 (fun _ => 0), arI 1 (fun j => if j < 1 then -1 else 0), .inr (4, 1, fun j => rfO Ω (B + 4 + 1 + j)), arI 8 (fun _ => 0), arI 16 (fun _ => 0)]) (n' := B + 7) uL_alloc rfl ?_
  refine z_putF (pc := 67) (fs' := [.int (nI 2), rfO Ω (B + 1), rfO Ω (B + 2), rfO Ω (B + 3), rfO Ω (B + 4), rfO Ω (B + 6), .null]) C rfl dX9_init_67 zq_X9_42_4 (uL_0 _ _ _ _) (Nat.le_of_ble_eq_true rfl) rfl rfl rfl uL_set0 ?_
  refine z_aload_n (pc := 70) C dX9_init_70 rfl ?_
  refine z_getf (pc := 71) C dX9_init_71 zf_X9_42_4 (uL_0 _ _ _ _) rfl ?_
  refine z_gets (pc := 74) C 2 (by decide) dX9_init_74 (by decide +kernel) ?_
  refine z_iload_n (pc := 77) C dX9_init_77 rfl ?_
  refine z_tald (pc := 78) C (by decide) (by decide) dX9_init_78 ?_
  refine z_top (v' := .int (nI 0)) rfl ?_
  refine z_callS (pc := 79) C dX9_init_79 zy_J7_fill_53178 kw_63 kw_64 (ct_J7_fill_53178 l Ω _ _ (B + 6) 16 (fun _ => 0) (nI 0) (uL_at (k := 6) rfl) (by decide)) rfl rfl ⟨⟨by decide, by decide⟩, by decide, by decide⟩ (Nat.le_of_ble_eq_true rfl) ?_; dsimp only [Option.toList_none, List.nil_append]
  refine z_heap (A' := uL A B [.inl (4, [.int (nI 2), rfO Ω (B + 1), rfO Ω (B + 2), rfO Ω (B + 3), rfO Ω (B + 4), rfO Ω (B + 6), .null]), arI 8 (fun _ => 0), arI 8 (fun _ => 0), arI 1 (fun j => if j < 1 then -1 else 0), .inr (4, 1, fun j => rfO Ω (B + 4 + 1 + j)), arI 8 (fun _ => 0), arI 16 (fun j => if j < 16 then nI 0 else 0)]) (n' := B + 7) (uL_set (k := 6) (Nat.le_of_ble_eq_true rfl)) rfl ?_
  refine z_aload_n (pc := 82) C dX9_init_82 rfl ?_
  refine z_iload_n (pc := 83) C dX9_init_83 rfl ?_
  refine z_if_eqF (pc := 84) (tgt := 93) (a := 2) C dX9_init_84 (by decide) (by decide) (by decide) ?_
  refine z_iload_n (pc := 87) C dX9_init_87 rfl ?_
  refine z_bipush (pc := 88) (v := nI 7) C dX9_init_88 (by decide) ?_
  refine z_icmp_neT (pc := 90) (tgt := 97) (a := 2) (b := 7) C dX9_init_90 (by decide) (by decide) (by decide) (by decide) ?_
  refine z_new (pc := 97) (ci := 7) (fs := [.null, .null]) C tyX7 dX9_init_97 rfl tyX7_ok kw_67 kw_68 kw_7 (by decide +kernel) (Nat.le_of_ble_eq_true rfl) (Nat.le_of_ble_eq_true rfl) ?_
  refine z_heap (A' := uL (uL A B [.inl (4, [.int (nI 2), rfO Ω (B + 1), rfO Ω (B + 2), rfO Ω (B + 3), rfO Ω (B + 4), rfO Ω (B + 6), .null]), arI 8 (fun _ => 0), arI 8 (fun _ => 0), arI 1 (fun j => if j < 1 then -1 else 0), .inr (4, 1, fun j => rfO Ω (B + 4 + 1 + j)), arI 8 (fun _ => 0), arI 16 (fun j => if j < 16 then nI 0 else 0)]) (B + 7) [.inl (7, [.null, .null])]) (n' := B + 8) uL_new rfl ?_
  refine z_dup (pc := 100) C dX9_init_100 rfl ?_
  refine z_gets (pc := 101) C 0 (by decide) dX9_init_101 (by decide +kernel) ?_
  refine z_iload_n (pc := 104) C dX9_init_104 rfl ?_
  refine z_tald (pc := 105) C (by decide) (by decide) dX9_init_105 ?_
  refine z_top (v' := .int (nI 1)) rfl ?_
  refine z_callI (pc := 106) C dX9_init_106 zy_X7_init rfl kw_69 kw_70 (ct_X7_init_1 l Ω (uL A B [.inl (4, [.int (nI 2), rfO Ω (B + 1), rfO Ω (B + 2), rfO Ω (B + 3), rfO Ω (B + 4), rfO Ω (B + 6), .null]), arI 8 (fun _ => 0), arI 8 (fun _ => 0), arI 1 (fun j => if j < 1 then -1 else 0), .inr (4, 1, fun j => rfO Ω (B + 4 + 1 + j)), arI 8 (fun _ => 0), arI 16 (fun j => if j < 16 then nI 0 else 0)]) (B + 7)) rfl rfl ⟨⟨by decide, by decide⟩, by decide, by decide⟩ (Nat.le_of_ble_eq_true rfl) ?_
  refine z_heap (A' := uL A B [.inl (4, [.int (nI 2), rfO Ω (B + 1), rfO Ω (B + 2), rfO Ω (B + 3), rfO Ω (B + 4), rfO Ω (B + 6), .null]), arI 8 (fun _ => 0), arI 8 (fun _ => 0), arI 1 (fun j => if j < 1 then -1 else 0), .inr (4, 1, fun j => rfO Ω (B + 4 + 1 + j)), arI 8 (fun _ => 0), arI 16 (fun j => if j < 16 then nI 0 else 0), .inl (7, [rfO Ω (B + 8), rfO Ω (B + 9)]), arI 2 (fun _ => 0), arI 2 (fun j => if j < 2 then nI 1 else 0)]) (n' := B + 10) uL_app rfl ?_
  refine z_putF (pc := 109) (fs' := [.int (nI 2), rfO Ω (B + 1), rfO Ω (B + 2), rfO Ω (B + 3), rfO Ω (B + 4), rfO Ω (B + 6), rfO Ω (B + 7)]) C rfl dX9_init_109 zq_X9_53_4 (uL_0 _ _ _ _) (Nat.le_of_ble_eq_true rfl) rfl rfl rfl uL_set0 ?_
  exact z_vret (pc := 112) C hQ dX9_init_112 rfl rfl rfl (Nat.le_of_ble_eq_true rfl) (Nat.le_of_ble_eq_true rfl)
abbrev rn_X9_init_3 : Room := { frames := 2, cells := 10, slots := 48, locals := 44 }
set_option maxHeartbeats 4000000 in
set_option maxRecDepth 100000 in
theorem ct_X9_init_3 (l : Launch) (Ω : OmT) (A : AHp) (B : Nat) : ZM l Ω yX9_init cX9_init 2 none rn_X9_init_3 [rfO Ω B, .int (nI 3)] (uL A B [.inl (5, [.int 0, .null, .null, .null, .null, .null, .null, .null])]) (B + 1) none (uL A B [.inl (5, [.int (nI 3), rfO Ω (B + 1), rfO Ω (B + 2), rfO Ω (B + 3), rfO Ω (B + 4), rfO Ω (B + 7), rfO Ω (B + 8), .null]), arI 8 (fun _ => 0), arI 8 (fun _ => 0), arI 2 (fun j => if j < 2 then -1 else 0), .inr (4, 2, fun j => rfO Ω (B + 4 + 1 + j)), arI 8 (fun _ => 0), arI 8 (fun _ => 0), arI 4 (fun j => if j < 4 then nI 5 else 0), .inl (7, [rfO Ω (B + 9), rfO Ω (B + 10)]), arI 3 (fun _ => 0), arI 3 (fun j => if j < 3 then nI 1 else 0)]) (B + 11) := by
  refine ZM_of (by decide) (Nat.le_of_ble_eq_true rfl) (fun E hE C hQ => ?_)
  refine z_aload_n (pc := 0) C dX9_init_0 rfl ?_
  refine z_oinit (pc := 1) C dX9_init_1 kw_62 kw_22 kw_23 (by decide) (Nat.le_of_ble_eq_true rfl) ?_
  refine z_aload_n (pc := 4) C dX9_init_4 rfl ?_
  refine z_bipush (pc := 5) (v := nI 8) C dX9_init_5 (by decide) ?_
  refine z_newa (pc := 7) (t := 0) (N := 8) C dX9_init_7 (by decide) rfl kw_38 (by decide) (Nat.le_of_ble_eq_true rfl) (Nat.le_of_ble_eq_true rfl) ?_
  refine z_heap (A' := uL A B [.inl (5, [.int 0, .null, .null, .null, .null, .null, .null, .null]), arI 8 (fun _ => 0)]) (n' := B + 2) uL_alloc rfl ?_
  refine z_putF (pc := 9) (fs' := [.int 0, rfO Ω (B + 1), .null, .null, .null, .null, .null, .null]) C rfl dX9_init_9 zq_X9_9_5 (uL_0 _ _ _ _) (Nat.le_of_ble_eq_true rfl) rfl rfl rfl uL_set0 ?_
  refine z_aload_n (pc := 12) C dX9_init_12 rfl ?_
  refine z_bipush (pc := 13) (v := nI 8) C dX9_init_13 (by decide) ?_
  refine z_newa (pc := 15) (t := 0) (N := 8) C dX9_init_15 (by decide) rfl kw_38 (by decide) (Nat.le_of_ble_eq_true rfl) (Nat.le_of_ble_eq_true rfl) ?_
  refine z_heap (A' := uL A B [.inl (5, [.int 0, rfO Ω (B + 1), .null, .null, .null, .null, .null, .null]), arI 8 (fun _ => 0), arI 8 (fun _ => 0)]) (n' := B + 3) uL_alloc rfl ?_
  refine z_putF (pc := 17) (fs' := [.int 0, rfO Ω (B + 1), rfO Ω (B + 2), .null, .null, .null, .null, .null]) C rfl dX9_init_17 zq_X9_15_5 (uL_0 _ _ _ _) (Nat.le_of_ble_eq_true rfl) rfl rfl rfl uL_set0 ?_
  refine z_aload_n (pc := 20) C dX9_init_20 rfl ?_
  refine z_iload_n (pc := 21) C dX9_init_21 rfl ?_
  refine z_putF (pc := 22) (fs' := [.int (nI 3), rfO Ω (B + 1), rfO Ω (B + 2), .null, .null, .null, .null, .null]) C rfl dX9_init_22 zq_X9_18_5 (uL_0 _ _ _ _) (Nat.le_of_ble_eq_true rfl) rfl rfl rfl uL_set0 ?_
  refine z_aload_n (pc := 25) C dX9_init_25 rfl ?_
  refine z_gets (pc := 26) C 0 (by decide) dX9_init_26 (by decide +kernel) ?_
  refine z_iload_n (pc := 29) C dX9_init_29 rfl ?_
  refine z_tald (pc := 30) C (by decide) (by decide) dX9_init_30 ?_
  refine z_top (v' := .int (nI 2)) rfl ?_
  refine z_newa (pc := 31) (t := 0) (N := 2) C dX9_init_31 (by decide) rfl kw_38 (by decide) (Nat.le_of_ble_eq_true rfl) (Nat.le_of_ble_eq_true rfl) ?_
  refine z_heap (A' := uL A B [.inl (5, [.int (nI 3), rfO Ω (B + 1), rfO Ω (B + 2), .null, .null, .null, .null, .null]), arI 8 (fun _ => 0), arI 8 (fun _ => 0), arI 2 (fun _ => 0)]) (n' := B + 4) uL_alloc rfl ?_
  refine z_putF (pc := 33) (fs' := [.int (nI 3), rfO Ω (B + 1), rfO Ω (B + 2), rfO Ω (B + 3), .null, .null, .null, .null]) C rfl dX9_init_33 zq_X9_25_5 (uL_0 _ _ _ _) (Nat.le_of_ble_eq_true rfl) rfl rfl rfl uL_set0 ?_
  refine z_aload_n (pc := 36) C dX9_init_36 rfl ?_
  refine z_getf (pc := 37) C dX9_init_37 zf_X9_25_5 (uL_0 _ _ _ _) rfl ?_
  refine z_iconst (pc := 40) (v := (-1)) C dX9_init_40 (by decide) ?_
  refine z_callS (pc := 41) C dX9_init_41 zy_J7_fill_53178 kw_63 kw_64 (ct_J7_fill_53178 l Ω _ _ (B + 3) 2 (fun _ => 0) (-1) (uL_at (k := 3) rfl) (by decide)) rfl rfl ⟨⟨by decide, by decide⟩, by decide, by decide⟩ (Nat.le_of_ble_eq_true rfl) ?_; dsimp only [Option.toList_none, List.nil_append]
  refine z_heap (A' := uL A B [.inl (5, [.int (nI 3), rfO Ω (B + 1), rfO Ω (B + 2), rfO Ω (B + 3), .null, .null, .null, .null]), arI 8 (fun _ => 0), arI 8 (fun _ => 0), arI 2 (fun j => if j < 2 then -1 else 0)]) (n' := B + 4) (uL_set (k := 3) (Nat.le_of_ble_eq_true rfl)) rfl ?_
  refine z_aload_n (pc := 44) C dX9_init_44 rfl ?_
  refine z_gets (pc := 45) C 0 (by decide) dX9_init_45 (by decide +kernel) ?_
  refine z_iload_n (pc := 48) C dX9_init_48 rfl ?_
  refine z_tald (pc := 49) C (by decide) (by decide) dX9_init_49 ?_
  refine z_top (v' := .int (nI 2)) rfl ?_
  refine z_bipush (pc := 50) (v := nI 8) C dX9_init_50 (by decide) ?_
  refine z_mnew (pc := 52) (N := 2) (M := 8) C dX9_init_52 kw_66 kw_38 (by decide) (by decide) (Nat.le_of_ble_eq_true rfl) (Nat.le_of_ble_eq_true rfl) ?_
  refine z_heap (A' := uL A B [.inl (5, [.int (nI 3), rfO Ω (B + 1), rfO Ω (B + 2), rfO Ω (B + 3), .null, .null, .null, .null]), arI 8 (fun _ => 0), arI 8 (fun _ => 0), arI 2 (fun j => if j < 2 then -1 else 0), .inr (4, 2, fun j => rfO Ω (B + 4 + 1 + j)), arI 8 (fun _ => 0), arI 8 (fun _ => 0)]) (n' := B + 7) uL_mn rfl ?_
  refine z_putF (pc := 56) (fs' := [.int (nI 3), rfO Ω (B + 1), rfO Ω (B + 2), rfO Ω (B + 3), rfO Ω (B + 4), .null, .null, .null]) C rfl dX9_init_56 zq_X9_36_5 (uL_0 _ _ _ _) (Nat.le_of_ble_eq_true rfl) rfl rfl rfl uL_set0 ?_
  refine z_aload_n (pc := 59) C dX9_init_59 rfl ?_
  refine z_gets (pc := 60) C 1 (by decide) dX9_init_60 (by decide +kernel) ?_
  refine z_iload_n (pc := 63) C dX9_init_63 rfl ?_
  refine z_tald (pc := 64) C (by decide) (by decide) dX9_init_64 ?_
  refine z_top (v' := .int (nI 4)) rfl ?_
  refine z_newa (pc := 65) (t := 0) (N := 4) C dX9_init_65 (by decide) rfl kw_38 (by decide) (Nat.le_of_ble_eq_true rfl) (Nat.le_of_ble_eq_true rfl) ?_
  refine z_heap (A' := uL A B [.inl (5, [.int (nI 3), rfO Ω (B + 1), rfO Ω (B + 2), rfO Ω (B + 3), rfO Ω (B + 4), .null, .null, .null]), arI 8 (fun _ => 0), arI 8 (fun _ => 0), arI 2 (fun j => if j < 2 then -1 else 0), .inr (4, 2, fun j => rfO Ω (B + 4 + 1 + j)), arI 8 (fun _ => 0), arI 8 (fun _ => 0), arI 4 (fun _ => 0)]) (n' := B + 8) uL_alloc rfl ?_
  refine z_putF (pc := 67) (fs' := [.int (nI 3), rfO Ω (B + 1), rfO Ω (B + 2), rfO Ω (B + 3), rfO Ω (B + 4), rfO Ω (B + 7), .null, .null]) C rfl dX9_init_67 zq_X9_42_5 (uL_0 _ _ _ _) (Nat.le_of_ble_eq_true rfl) rfl rfl rfl uL_set0 ?_
  refine z_aload_n (pc := 70) C dX9_init_70 rfl ?_
  refine z_getf (pc := 71) C dX9_init_71 zf_X9_42_5 (uL_0 _ _ _ _) rfl ?_
  refine z_gets (pc := 74) C 2 (by decide) dX9_init_74 (by decide +kernel) ?_
  refine z_iload_n (pc := 77) C dX9_init_77 rfl ?_
  refine z_tald (pc := 78) C (by decide) (by decide) dX9_init_78 ?_
  refine z_top (v' := .int (nI 5)) rfl ?_
  refine z_callS (pc := 79) C dX9_init_79 zy_J7_fill_53178 kw_63 kw_64 (ct_J7_fill_53178 l Ω _ _ (B + 7) 4 (fun _ => 0) (nI 5) (uL_at (k := 7) rfl) (by decide)) rfl rfl ⟨⟨by decide, by decide⟩, by decide, by decide⟩ (Nat.le_of_ble_eq_true rfl) ?_; dsimp only [Option.toList_none, List.nil_append]
  refine z_heap (A' := uL A B [.inl (5, [.int (nI 3), rfO Ω (B + 1), rfO Ω (B + 2), rfO Ω (B + 3), rfO Ω (B + 4), rfO Ω (B + 7), .null, .null]), arI 8 (fun _ => 0), arI 8 (fun _ => 0), arI 2 (fun j => if j < 2 then -1 else 0), .inr (4, 2, fun j => rfO Ω (B + 4 + 1 + j)), arI 8 (fun _ => 0), arI 8 (fun _ => 0), arI 4 (fun j => if j < 4 then nI 5 else 0)]) (n' := B + 8) (uL_set (k := 7) (Nat.le_of_ble_eq_true rfl)) rfl ?_
  refine z_aload_n (pc := 82) C dX9_init_82 rfl ?_
  refine z_iload_n (pc := 83) C dX9_init_83 rfl ?_
  refine z_if_eqF (pc := 84) (tgt := 93) (a := 3) C dX9_init_84 (by decide) (by decide) (by decide) ?_
  refine z_iload_n (pc := 87) C dX9_init_87 rfl ?_
  refine z_bipush (pc := 88) (v := nI 7) C dX9_init_88 (by decide) ?_
  refine z_icmp_neT (pc := 90) (tgt := 97) (a := 3) (b := 7) C dX9_init_90 (by decide) (by decide) (by decide) (by decide) ?_
  refine z_new (pc := 97) (ci := 7) (fs := [.null, .null]) C tyX7 dX9_init_97 rfl tyX7_ok kw_67 kw_68 kw_7 (by decide +kernel) (Nat.le_of_ble_eq_true rfl) (Nat.le_of_ble_eq_true rfl) ?_
  refine z_heap (A' := uL (uL A B [.inl (5, [.int (nI 3), rfO Ω (B + 1), rfO Ω (B + 2), rfO Ω (B + 3), rfO Ω (B + 4), rfO Ω (B + 7), .null, .null]), arI 8 (fun _ => 0), arI 8 (fun _ => 0), arI 2 (fun j => if j < 2 then -1 else 0), .inr (4, 2, fun j => rfO Ω (B + 4 + 1 + j)), arI 8 (fun _ => 0), arI 8 (fun _ => 0), arI 4 (fun j => if j < 4 then nI 5 else 0)]) (B + 8) [.inl (7, [.null, .null])]) (n' := B + 9) uL_new rfl ?_
  refine z_dup (pc := 100) C dX9_init_100 rfl ?_
  refine z_gets (pc := 101) C 0 (by decide) dX9_init_101 (by decide +kernel) ?_
  refine z_iload_n (pc := 104) C dX9_init_104 rfl ?_
  refine z_tald (pc := 105) C (by decide) (by decide) dX9_init_105 ?_
  refine z_top (v' := .int (nI 2)) rfl ?_
  refine z_callI (pc := 106) C dX9_init_106 zy_X7_init rfl kw_69 kw_70 (ct_X7_init_2 l Ω (uL A B [.inl (5, [.int (nI 3), rfO Ω (B + 1), rfO Ω (B + 2), rfO Ω (B + 3), rfO Ω (B + 4), rfO Ω (B + 7), .null, .null]), arI 8 (fun _ => 0), arI 8 (fun _ => 0), arI 2 (fun j => if j < 2 then -1 else 0), .inr (4, 2, fun j => rfO Ω (B + 4 + 1 + j)), arI 8 (fun _ => 0), arI 8 (fun _ => 0), arI 4 (fun j => if j < 4 then nI 5 else 0)]) (B + 8)) rfl rfl ⟨⟨by decide, by decide⟩, by decide, by decide⟩ (Nat.le_of_ble_eq_true rfl) ?_
  refine z_heap (A' := uL A B [.inl (5, [.int (nI 3), rfO Ω (B + 1), rfO Ω (B + 2), rfO Ω (B + 3), rfO Ω (B + 4), rfO Ω (B + 7), .null, .null]), arI 8 (fun _ => 0), arI 8 (fun _ => 0), arI 2 (fun j => if j < 2 then -1 else 0), .inr (4, 2, fun j => rfO Ω (B + 4 + 1 + j)), arI 8 (fun _ => 0), arI 8 (fun _ => 0), arI 4 (fun j => if j < 4 then nI 5 else 0), .inl (7, [rfO Ω (B + 9), rfO Ω (B + 10)]), arI 3 (fun _ => 0), arI 3 (fun j => if j < 3 then nI 1 else 0)]) (n' := B + 11) uL_app rfl ?_
  refine z_putF (pc := 109) (fs' := [.int (nI 3), rfO Ω (B + 1), rfO Ω (B + 2), rfO Ω (B + 3), rfO Ω (B + 4), rfO Ω (B + 7), rfO Ω (B + 8), .null]) C rfl dX9_init_109 zq_X9_53_5 (uL_0 _ _ _ _) (Nat.le_of_ble_eq_true rfl) rfl rfl rfl uL_set0 ?_
  exact z_vret (pc := 112) C hQ dX9_init_112 rfl rfl rfl (Nat.le_of_ble_eq_true rfl) (Nat.le_of_ble_eq_true rfl)
abbrev rn_X9_init_4 : Room := { frames := 2, cells := 10, slots := 46, locals := 44 }
set_option maxHeartbeats 4000000 in
set_option maxRecDepth 100000 in
theorem ct_X9_init_4 (l : Launch) (Ω : OmT) (A : AHp) (B : Nat) : ZM l Ω yX9_init cX9_init 2 none rn_X9_init_4 [rfO Ω B, .int (nI 4)] (uL A B [.inl (5, [.int 0, .null, .null, .null, .null, .null, .null, .null])]) (B + 1) none (uL A B [.inl (5, [.int (nI 4), rfO Ω (B + 1), rfO Ω (B + 2), rfO Ω (B + 3), rfO Ω (B + 4), rfO Ω (B + 7), rfO Ω (B + 8), .null]), arI 8 (fun _ => 0), arI 8 (fun _ => 0), arI 2 (fun j => if j < 2 then -1 else 0), .inr (4, 2, fun j => rfO Ω (B + 4 + 1 + j)), arI 8 (fun _ => 0), arI 8 (fun _ => 0), arI 2 (fun j => if j < 2 then nI 5 else 0), .inl (7, [rfO Ω (B + 9), rfO Ω (B + 10)]), arI 3 (fun _ => 0), arI 3 (fun j => if j < 3 then nI 1 else 0)]) (B + 11) := by
  refine ZM_of (by decide) (Nat.le_of_ble_eq_true rfl) (fun E hE C hQ => ?_)
  refine z_aload_n (pc := 0) C dX9_init_0 rfl ?_
  refine z_oinit (pc := 1) C dX9_init_1 kw_62 kw_22 kw_23 (by decide) (Nat.le_of_ble_eq_true rfl) ?_
  refine z_aload_n (pc := 4) C dX9_init_4 rfl ?_
  refine z_bipush (pc := 5) (v := nI 8) C dX9_init_5 (by decide) ?_
  refine z_newa (pc := 7) (t := 0) (N := 8) C dX9_init_7 (by decide) rfl kw_38 (by decide) (Nat.le_of_ble_eq_true rfl) (Nat.le_of_ble_eq_true rfl) ?_
  refine z_heap (A' := uL A B [.inl (5, [.int 0, .null, .null, .null, .null, .null, .null, .null]), arI 8 (fun _ => 0)]) (n' := B + 2) uL_alloc rfl ?_
  refine z_putF (pc := 9) (fs' := [.int 0, rfO Ω (B + 1), .null, .null, .null, .null, .null, .null]) C rfl dX9_init_9 zq_X9_9_5 (uL_0 _ _ _ _) (Nat.le_of_ble_eq_true rfl) rfl rfl rfl uL_set0 ?_
  refine z_aload_n (pc := 12) C dX9_init_12 rfl ?_
  refine z_bipush (pc := 13) (v := nI 8) C dX9_init_13 (by decide) ?_
  refine z_newa (pc := 15) (t := 0) (N := 8) C dX9_init_15 (by decide) rfl kw_38 (by decide) (Nat.le_of_ble_eq_true rfl) (Nat.le_of_ble_eq_true rfl) ?_
  refine z_heap (A' := uL A B [.inl (5, [.int 0, rfO Ω (B + 1), .null, .null, .null, .null, .null, .null]), arI 8 (fun _ => 0), arI 8 (fun _ => 0)]) (n' := B + 3) uL_alloc rfl ?_
  refine z_putF (pc := 17) (fs' := [.int 0, rfO Ω (B + 1), rfO Ω (B + 2), .null, .null, .null, .null, .null]) C rfl dX9_init_17 zq_X9_15_5 (uL_0 _ _ _ _) (Nat.le_of_ble_eq_true rfl) rfl rfl rfl uL_set0 ?_
  refine z_aload_n (pc := 20) C dX9_init_20 rfl ?_
  refine z_iload_n (pc := 21) C dX9_init_21 rfl ?_
  refine z_putF (pc := 22) (fs' := [.int (nI 4), rfO Ω (B + 1), rfO Ω (B + 2), .null, .null, .null, .null, .null]) C rfl dX9_init_22 zq_X9_18_5 (uL_0 _ _ _ _) (Nat.le_of_ble_eq_true rfl) rfl rfl rfl uL_set0 ?_
  refine z_aload_n (pc := 25) C dX9_init_25 rfl ?_
  refine z_gets (pc := 26) C 0 (by decide) dX9_init_26 (by decide +kernel) ?_
  refine z_iload_n (pc := 29) C dX9_init_29 rfl ?_
  refine z_tald (pc := 30) C (by decide) (by decide) dX9_init_30 ?_
  refine z_top (v' := .int (nI 2)) rfl ?_
  refine z_newa (pc := 31) (t := 0) (N := 2) C dX9_init_31 (by decide) rfl kw_38 (by decide) (Nat.le_of_ble_eq_true rfl) (Nat.le_of_ble_eq_true rfl) ?_
  refine z_heap (A' := uL A B [.inl (5, [.int (nI 4), rfO Ω (B + 1), rfO Ω (B + 2), .null, .null, .null, .null, .null]), arI 8 (fun _ => 0), arI 8 (fun _ => 0), arI 2 (fun _ => 0)]) (n' := B + 4) uL_alloc rfl ?_
  refine z_putF (pc := 33) (fs' := [.int (nI 4), rfO Ω (B + 1), rfO Ω (B + 2), rfO Ω (B + 3), .null, .null, .null, .null]) C rfl dX9_init_33 zq_X9_25_5 (uL_0 _ _ _ _) (Nat.le_of_ble_eq_true rfl) rfl rfl rfl uL_set0 ?_
  refine z_aload_n (pc := 36) C dX9_init_36 rfl ?_
  refine z_getf (pc := 37) C dX9_init_37 zf_X9_25_5 (uL_0 _ _ _ _) rfl ?_
  refine z_iconst (pc := 40) (v := (-1)) C dX9_init_40 (by decide) ?_
  refine z_callS (pc := 41) C dX9_init_41 zy_J7_fill_53178 kw_63 kw_64 (ct_J7_fill_53178 l Ω _ _ (B + 3) 2 (fun _ => 0) (-1) (uL_at (k := 3) rfl) (by decide)) rfl rfl ⟨⟨by decide, by decide⟩, by decide, by decide⟩ (Nat.le_of_ble_eq_true rfl) ?_; dsimp only [Option.toList_none, List.nil_append]
  refine z_heap (A' := uL A B [.inl (5, [.int (nI 4), rfO Ω (B + 1), rfO Ω (B + 2), rfO Ω (B + 3), .null, .null, .null, .null]), arI 8 (fun _ => 0), arI 8 (fun _ => 0), arI 2 (fun j => if j < 2 then -1 else 0)]) (n' := B + 4) (uL_set (k := 3) (Nat.le_of_ble_eq_true rfl)) rfl ?_
  refine z_aload_n (pc := 44) C dX9_init_44 rfl ?_
  refine z_gets (pc := 45) C 0 (by decide) dX9_init_45 (by decide +kernel) ?_
  refine z_iload_n (pc := 48) C dX9_init_48 rfl ?_
  refine z_tald (pc := 49) C (by decide) (by decide) dX9_init_49 ?_
  refine z_top (v' := .int (nI 2)) rfl ?_
  refine z_bipush (pc := 50) (v := nI 8) C dX9_init_50 (by decide) ?_
  refine z_mnew (pc := 52) (N := 2) (M := 8) C dX9_init_52 kw_66 kw_38 (by decide) (by decide) (Nat.le_of_ble_eq_true rfl) (Nat.le_of_ble_eq_true rfl) ?_
  refine z_heap (A' := uL A B [.inl (5, [.int (nI 4), rfO Ω (B + 1), rfO Ω (B + 2), rfO Ω (B + 3), .null, .null, .null, .null]), arI 8 (fun _ => 0), arI 8 (fun _ => 0), arI 2 (fun j => if j < 2 then -1 else 0), .inr (4, 2, fun j => rfO Ω (B + 4 + 1 + j)), arI 8 (fun _ => 0), arI 8 (fun _ => 0)]) (n' := B + 7) uL_mn rfl ?_
  refine z_putF (pc := 56) (fs' := [.int (nI 4), rfO Ω (B + 1), rfO Ω (B + 2), rfO Ω (B + 3), rfO Ω (B + 4), .null, .null, .null]) C rfl dX9_init_56 zq_X9_36_5 (uL_0 _ _ _ _) (Nat.le_of_ble_eq_true rfl) rfl rfl rfl uL_set0 ?_
  refine z_aload_n (pc := 59) C dX9_init_59 rfl ?_
  refine z_gets (pc := 60) C 1 (by decide) dX9_init_60 (by decide +kernel) ?_
  refine z_iload_n (pc := 63) C dX9_init_63 rfl ?_
  refine z_tald (pc := 64) C (by decide) (by decide) dX9_init_64 ?_
  refine z_top (v' := .int (nI 2)) rfl ?_
  refine z_newa (pc := 65) (t := 0) (N := 2) C dX9_init_65 (by decide) rfl kw_38 (by decide) (Nat.le_of_ble_eq_true rfl) (Nat.le_of_ble_eq_true rfl) ?_
  refine z_heap (A' := uL A B [.inl (5, [.int (nI 4), rfO Ω (B + 1), rfO Ω (B + 2), rfO Ω (B + 3), rfO Ω (B + 4), .null, .null, .null]), arI 8 (fun _ => 0), arI 8 (fun _ => 0), arI 2 (fun j => if j < 2 then -1 else 0), .inr (4, 2, fun j => rfO Ω (B + 4 + 1 + j)), arI 8 (fun _ => 0), arI 8 (fun _ => 0), arI 2 (fun _ => 0)]) (n' := B + 8) uL_alloc rfl ?_
  refine z_putF (pc := 67) (fs' := [.int (nI 4), rfO Ω (B + 1), rfO Ω (B + 2), rfO Ω (B + 3), rfO Ω (B + 4), rfO Ω (B + 7), .null, .null]) C rfl dX9_init_67 zq_X9_42_5 (uL_0 _ _ _ _) (Nat.le_of_ble_eq_true rfl) rfl rfl rfl uL_set0 ?_
  refine z_aload_n (pc := 70) C dX9_init_70 rfl ?_
  refine z_getf (pc := 71) C dX9_init_71 zf_X9_42_5 (uL_0 _ _ _ _) rfl ?_
  refine z_gets (pc := 74) C 2 (by decide) dX9_init_74 (by decide +kernel) ?_
  refine z_iload_n (pc := 77) C dX9_init_77 rfl ?_
  refine z_tald (pc := 78) C (by decide) (by decide) dX9_init_78 ?_
  refine z_top (v' := .int (nI 5)) rfl ?_
  refine z_callS (pc := 79) C dX9_init_79 zy_J7_fill_53178 kw_63 kw_64 (ct_J7_fill_53178 l Ω _ _ (B + 7) 2 (fun _ => 0) (nI 5) (uL_at (k := 7) rfl) (by decide)) rfl rfl ⟨⟨by decide, by decide⟩, by decide, by decide⟩ (Nat.le_of_ble_eq_true rfl) ?_; dsimp only [Option.toList_none, List.nil_append]
  refine z_heap (A' := uL A B [.inl (5, [.int (nI 4), rfO Ω (B + 1), rfO Ω (B + 2), rfO Ω (B + 3), rfO Ω (B + 4), rfO Ω (B + 7), .null, .null]), arI 8 (fun _ => 0), arI 8 (fun _ => 0), arI 2 (fun j => if j < 2 then -1 else 0), .inr (4, 2, fun j => rfO Ω (B + 4 + 1 + j)), arI 8 (fun _ => 0), arI 8 (fun _ => 0), arI 2 (fun j => if j < 2 then nI 5 else 0)]) (n' := B + 8) (uL_set (k := 7) (Nat.le_of_ble_eq_true rfl)) rfl ?_
  refine z_aload_n (pc := 82) C dX9_init_82 rfl ?_
  refine z_iload_n (pc := 83) C dX9_init_83 rfl ?_
  refine z_if_eqF (pc := 84) (tgt := 93) (a := 4) C dX9_init_84 (by decide) (by decide) (by decide) ?_
  refine z_iload_n (pc := 87) C dX9_init_87 rfl ?_
  refine z_bipush (pc := 88) (v := nI 7) C dX9_init_88 (by decide) ?_
  refine z_icmp_neT (pc := 90) (tgt := 97) (a := 4) (b := 7) C dX9_init_90 (by decide) (by decide) (by decide) (by decide) ?_
  refine z_new (pc := 97) (ci := 7) (fs := [.null, .null]) C tyX7 dX9_init_97 rfl tyX7_ok kw_67 kw_68 kw_7 (by decide +kernel) (Nat.le_of_ble_eq_true rfl) (Nat.le_of_ble_eq_true rfl) ?_
  refine z_heap (A' := uL (uL A B [.inl (5, [.int (nI 4), rfO Ω (B + 1), rfO Ω (B + 2), rfO Ω (B + 3), rfO Ω (B + 4), rfO Ω (B + 7), .null, .null]), arI 8 (fun _ => 0), arI 8 (fun _ => 0), arI 2 (fun j => if j < 2 then -1 else 0), .inr (4, 2, fun j => rfO Ω (B + 4 + 1 + j)), arI 8 (fun _ => 0), arI 8 (fun _ => 0), arI 2 (fun j => if j < 2 then nI 5 else 0)]) (B + 8) [.inl (7, [.null, .null])]) (n' := B + 9) uL_new rfl ?_
  refine z_dup (pc := 100) C dX9_init_100 rfl ?_
  refine z_gets (pc := 101) C 0 (by decide) dX9_init_101 (by decide +kernel) ?_
  refine z_iload_n (pc := 104) C dX9_init_104 rfl ?_
  refine z_tald (pc := 105) C (by decide) (by decide) dX9_init_105 ?_
  refine z_top (v' := .int (nI 2)) rfl ?_
  refine z_callI (pc := 106) C dX9_init_106 zy_X7_init rfl kw_69 kw_70 (ct_X7_init_2 l Ω (uL A B [.inl (5, [.int (nI 4), rfO Ω (B + 1), rfO Ω (B + 2), rfO Ω (B + 3), rfO Ω (B + 4), rfO Ω (B + 7), .null, .null]), arI 8 (fun _ => 0), arI 8 (fun _ => 0), arI 2 (fun j => if j < 2 then -1 else 0), .inr (4, 2, fun j => rfO Ω (B + 4 + 1 + j)), arI 8 (fun _ => 0), arI 8 (fun _ => 0), arI 2 (fun j => if j < 2 then nI 5 else 0)]) (B + 8)) rfl rfl ⟨⟨by decide, by decide⟩, by decide, by decide⟩ (Nat.le_of_ble_eq_true rfl) ?_
  refine z_heap (A' := uL A B [.inl (5, [.int (nI 4), rfO Ω (B + 1), rfO Ω (B + 2), rfO Ω (B + 3), rfO Ω (B + 4), rfO Ω (B + 7), .null, .null]), arI 8 (fun _ => 0), arI 8 (fun _ => 0), arI 2 (fun j => if j < 2 then -1 else 0), .inr (4, 2, fun j => rfO Ω (B + 4 + 1 + j)), arI 8 (fun _ => 0), arI 8 (fun _ => 0), arI 2 (fun j => if j < 2 then nI 5 else 0), .inl (7, [rfO Ω (B + 9), rfO Ω (B + 10)]), arI 3 (fun _ => 0), arI 3 (fun j => if j < 3 then nI 1 else 0)]) (n' := B + 11) uL_app rfl ?_
  refine z_putF (pc := 109) (fs' := [.int (nI 4), rfO Ω (B + 1), rfO Ω (B + 2), rfO Ω (B + 3), rfO Ω (B + 4), rfO Ω (B + 7), rfO Ω (B + 8), .null]) C rfl dX9_init_109 zq_X9_53_5 (uL_0 _ _ _ _) (Nat.le_of_ble_eq_true rfl) rfl rfl rfl uL_set0 ?_
  exact z_vret (pc := 112) C hQ dX9_init_112 rfl rfl rfl (Nat.le_of_ble_eq_true rfl) (Nat.le_of_ble_eq_true rfl)
abbrev rn_X9_init_5 : Room := { frames := 2, cells := 9, slots := 33, locals := 44 }
set_option maxHeartbeats 4000000 in
set_option maxRecDepth 100000 in
theorem ct_X9_init_5 (l : Launch) (Ω : OmT) (A : AHp) (B : Nat) : ZM l Ω yX9_init cX9_init 2 none rn_X9_init_5 [rfO Ω B, .int (nI 5)] (uL A B [.inl (8, [.int 0, .null, .null, .null, .null, .null, .null, .null, .int 0])]) (B + 1) none (uL A B [.inl (8, [.int (nI 5), rfO Ω (B + 1), rfO Ω (B + 2), rfO Ω (B + 3), rfO Ω (B + 4), rfO Ω (B + 6), rfO Ω (B + 7), .null, .int 0]), arI 8 (fun _ => 0), arI 8 (fun _ => 0), arI 1 (fun j => if j < 1 then -1 else 0), .inr (4, 1, fun j => rfO Ω (B + 4 + 1 + j)), arI 8 (fun _ => 0), arI 1 (fun j => if j < 1 then nI 1 else 0), .inl (7, [rfO Ω (B + 8), rfO Ω (B + 9)]), arI 2 (fun _ => 0), arI 2 (fun j => if j < 2 then nI 1 else 0)]) (B + 10) := by
  refine ZM_of (by decide) (Nat.le_of_ble_eq_true rfl) (fun E hE C hQ => ?_)
  refine z_aload_n (pc := 0) C dX9_init_0 rfl ?_
  refine z_oinit (pc := 1) C dX9_init_1 kw_62 kw_22 kw_23 (by decide) (Nat.le_of_ble_eq_true rfl) ?_
  refine z_aload_n (pc := 4) C dX9_init_4 rfl ?_
  refine z_bipush (pc := 5) (v := nI 8) C dX9_init_5 (by decide) ?_
  refine z_newa (pc := 7) (t := 0) (N := 8) C dX9_init_7 (by decide) rfl kw_38 (by decide) (Nat.le_of_ble_eq_true rfl) (Nat.le_of_ble_eq_true rfl) ?_
  refine z_heap (A' := uL A B [.inl (8, [.int 0, .null, .null, .null, .null, .null, .null, .null, .int 0]), arI 8 (fun _ => 0)]) (n' := B + 2) uL_alloc rfl ?_
  refine z_putF (pc := 9) (fs' := [.int 0, rfO Ω (B + 1), .null, .null, .null, .null, .null, .null, .int 0]) C rfl dX9_init_9 zq_X9_9_8 (uL_0 _ _ _ _) (Nat.le_of_ble_eq_true rfl) rfl rfl rfl uL_set0 ?_
  refine z_aload_n (pc := 12) C dX9_init_12 rfl ?_
  refine z_bipush (pc := 13) (v := nI 8) C dX9_init_13 (by decide) ?_
  refine z_newa (pc := 15) (t := 0) (N := 8) C dX9_init_15 (by decide) rfl kw_38 (by decide) (Nat.le_of_ble_eq_true rfl) (Nat.le_of_ble_eq_true rfl) ?_
  refine z_heap (A' := uL A B [.inl (8, [.int 0, rfO Ω (B + 1), .null, .null, .null, .null, .null, .null, .int 0]), arI 8 (fun _ => 0), arI 8 (fun _ => 0)]) (n' := B + 3) uL_alloc rfl ?_
  refine z_putF (pc := 17) (fs' := [.int 0, rfO Ω (B + 1), rfO Ω (B + 2), .null, .null, .null, .null, .null, .int 0]) C rfl dX9_init_17 zq_X9_15_8 (uL_0 _ _ _ _) (Nat.le_of_ble_eq_true rfl) rfl rfl rfl uL_set0 ?_
  refine z_aload_n (pc := 20) C dX9_init_20 rfl ?_
  refine z_iload_n (pc := 21) C dX9_init_21 rfl ?_
  refine z_putF (pc := 22) (fs' := [.int (nI 5), rfO Ω (B + 1), rfO Ω (B + 2), .null, .null, .null, .null, .null, .int 0]) C rfl dX9_init_22 zq_X9_18_8 (uL_0 _ _ _ _) (Nat.le_of_ble_eq_true rfl) rfl rfl rfl uL_set0 ?_
  refine z_aload_n (pc := 25) C dX9_init_25 rfl ?_
  refine z_gets (pc := 26) C 0 (by decide) dX9_init_26 (by decide +kernel) ?_
  refine z_iload_n (pc := 29) C dX9_init_29 rfl ?_
  refine z_tald (pc := 30) C (by decide) (by decide) dX9_init_30 ?_
  refine z_top (v' := .int (nI 1)) rfl ?_
  refine z_newa (pc := 31) (t := 0) (N := 1) C dX9_init_31 (by decide) rfl kw_38 (by decide) (Nat.le_of_ble_eq_true rfl) (Nat.le_of_ble_eq_true rfl) ?_
  refine z_heap (A' := uL A B [.inl (8, [.int (nI 5), rfO Ω (B + 1), rfO Ω (B + 2), .null, .null, .null, .null, .null, .int 0]), arI 8 (fun _ => 0), arI 8 (fun _ => 0), arI 1 (fun _ => 0)]) (n' := B + 4) uL_alloc rfl ?_
  refine z_putF (pc := 33) (fs' := [.int (nI 5), rfO Ω (B + 1), rfO Ω (B + 2), rfO Ω (B + 3), .null, .null, .null, .null, .int 0]) C rfl dX9_init_33 zq_X9_25_8 (uL_0 _ _ _ _) (Nat.le_of_ble_eq_true rfl) rfl rfl rfl uL_set0 ?_
  refine z_aload_n (pc := 36) C dX9_init_36 rfl ?_
  refine z_getf (pc := 37) C dX9_init_37 zf_X9_25_8 (uL_0 _ _ _ _) rfl ?_
  refine z_iconst (pc := 40) (v := (-1)) C dX9_init_40 (by decide) ?_
  refine z_callS (pc := 41) C dX9_init_41 zy_J7_fill_53178 kw_63 kw_64 (ct_J7_fill_53178 l Ω _ _ (B + 3) 1 (fun _ => 0) (-1) (uL_at (k := 3) rfl) (by decide)) rfl rfl ⟨⟨by decide, by decide⟩, by decide, by decide⟩ (Nat.le_of_ble_eq_true rfl) ?_; dsimp only [Option.toList_none, List.nil_append]
  refine z_heap (A' := uL A B [.inl (8, [.int (nI 5), rfO Ω (B + 1), rfO Ω (B + 2), rfO Ω (B + 3), .null, .null, .null, .null, .int 0]), arI 8 (fun _ => 0), arI 8 (fun _ => 0), arI 1 (fun j => if j < 1 then -1 else 0)]) (n' := B + 4) (uL_set (k := 3) (Nat.le_of_ble_eq_true rfl)) rfl ?_
  refine z_aload_n (pc := 44) C dX9_init_44 rfl ?_
  refine z_gets (pc := 45) C 0 (by decide) dX9_init_45 (by decide +kernel) ?_
  refine z_iload_n (pc := 48) C dX9_init_48 rfl ?_
  refine z_tald (pc := 49) C (by decide) (by decide) dX9_init_49 ?_
  refine z_top (v' := .int (nI 1)) rfl ?_
  refine z_bipush (pc := 50) (v := nI 8) C dX9_init_50 (by decide) ?_
  refine z_mnew (pc := 52) (N := 1) (M := 8) C dX9_init_52 kw_66 kw_38 (by decide) (by decide) (Nat.le_of_ble_eq_true rfl) (Nat.le_of_ble_eq_true rfl) ?_
  refine z_heap (A' := uL A B [.inl (8, [.int (nI 5), rfO Ω (B + 1), rfO Ω (B + 2), rfO Ω (B + 3), .null, .null, .null, .null, .int 0]), arI 8 (fun _ => 0), arI 8 (fun _ => 0), arI 1 (fun j => if j < 1 then -1 else 0), .inr (4, 1, fun j => rfO Ω (B + 4 + 1 + j)), arI 8 (fun _ => 0)]) (n' := B + 6) uL_mn rfl ?_
  refine z_putF (pc := 56) (fs' := [.int (nI 5), rfO Ω (B + 1), rfO Ω (B + 2), rfO Ω (B + 3), rfO Ω (B + 4), .null, .null, .null, .int 0]) C rfl dX9_init_56 zq_X9_36_8 (uL_0 _ _ _ _) (Nat.le_of_ble_eq_true rfl) rfl rfl rfl uL_set0 ?_
  refine z_aload_n (pc := 59) C dX9_init_59 rfl ?_
  refine z_gets (pc := 60) C 1 (by decide) dX9_init_60 (by decide +kernel) ?_
  refine z_iload_n (pc := 63) C dX9_init_63 rfl ?_
  refine z_tald (pc := 64) C (by decide) (by decide) dX9_init_64 ?_
  refine z_top (v' := .int (nI 1)) rfl ?_
  refine z_newa (pc := 65) (t := 0) (N := 1) C dX9_init_65 (by decide) rfl kw_38 (by decide) (Nat.le_of_ble_eq_true rfl) (Nat.le_of_ble_eq_true rfl) ?_
  refine z_heap (A' := uL A B [.inl (8, [.int (nI 5), rfO Ω (B + 1), rfO Ω (B + 2), rfO Ω (B + 3), rfO Ω (B + 4), .null, .null, .null, .int 0]), arI 8 (fun _ => 0), arI 8 (fun _ => 0), arI 1 (fun j => if j < 1 then -1 else 0), .inr (4, 1, fun j => rfO Ω (B + 4 + 1 + j)), arI 8 (fun _ => 0), arI 1 (fun _ => 0)]) (n' := B + 7) uL_alloc rfl ?_
  refine z_putF (pc := 67) (fs' := [.int (nI 5), rfO Ω (B + 1), rfO Ω (B + 2), rfO Ω (B + 3), rfO Ω (B + 4), rfO Ω (B + 6), .null, .null, .int 0]) C rfl dX9_init_67 zq_X9_42_8 (uL_0 _ _ _ _) (Nat.le_of_ble_eq_true rfl) rfl rfl rfl uL_set0 ?_
  refine z_aload_n (pc := 70) C dX9_init_70 rfl ?_
  refine z_getf (pc := 71) C dX9_init_71 zf_X9_42_8 (uL_0 _ _ _ _) rfl ?_
  refine z_gets (pc := 74) C 2 (by decide) dX9_init_74 (by decide +kernel) ?_
  refine z_iload_n (pc := 77) C dX9_init_77 rfl ?_
  refine z_tald (pc := 78) C (by decide) (by decide) dX9_init_78 ?_
  refine z_top (v' := .int (nI 1)) rfl ?_
  refine z_callS (pc := 79) C dX9_init_79 zy_J7_fill_53178 kw_63 kw_64 (ct_J7_fill_53178 l Ω _ _ (B + 6) 1 (fun _ => 0) (nI 1) (uL_at (k := 6) rfl) (by decide)) rfl rfl ⟨⟨by decide, by decide⟩, by decide, by decide⟩ (Nat.le_of_ble_eq_true rfl) ?_; dsimp only [Option.toList_none, List.nil_append]
  refine z_heap (A' := uL A B [.inl (8, [.int (nI 5), rfO Ω (B + 1), rfO Ω (B + 2), rfO Ω (B + 3), rfO Ω (B + 4), rfO Ω (B + 6), .null, .null, .int 0]), arI 8 (fun _ => 0), arI 8 (fun _ => 0), arI 1 (fun j => if j < 1 then -1 else 0), .inr (4, 1, fun j => rfO Ω (B + 4 + 1 + j)), arI 8 (fun _ => 0), arI 1 (fun j => if j < 1 then nI 1 else 0)]) (n' := B + 7) (uL_set (k := 6) (Nat.le_of_ble_eq_true rfl)) rfl ?_
  refine z_aload_n (pc := 82) C dX9_init_82 rfl ?_
  refine z_iload_n (pc := 83) C dX9_init_83 rfl ?_
  refine z_if_eqF (pc := 84) (tgt := 93) (a := 5) C dX9_init_84 (by decide) (by decide) (by decide) ?_
  refine z_iload_n (pc := 87) C dX9_init_87 rfl ?_
  refine z_bipush (pc := 88) (v := nI 7) C dX9_init_88 (by decide) ?_
  refine z_icmp_neT (pc := 90) (tgt := 97) (a := 5) (b := 7) C dX9_init_90 (by decide) (by decide) (by decide) (by decide) ?_
  refine z_new (pc := 97) (ci := 7) (fs := [.null, .null]) C tyX7 dX9_init_97 rfl tyX7_ok kw_67 kw_68 kw_7 (by decide +kernel) (Nat.le_of_ble_eq_true rfl) (Nat.le_of_ble_eq_true rfl) ?_
  refine z_heap (A' := uL (uL A B [.inl (8, [.int (nI 5), rfO Ω (B + 1), rfO Ω (B + 2), rfO Ω (B + 3), rfO Ω (B + 4), rfO Ω (B + 6), .null, .null, .int 0]), arI 8 (fun _ => 0), arI 8 (fun _ => 0), arI 1 (fun j => if j < 1 then -1 else 0), .inr (4, 1, fun j => rfO Ω (B + 4 + 1 + j)), arI 8 (fun _ => 0), arI 1 (fun j => if j < 1 then nI 1 else 0)]) (B + 7) [.inl (7, [.null, .null])]) (n' := B + 8) uL_new rfl ?_
  refine z_dup (pc := 100) C dX9_init_100 rfl ?_
  refine z_gets (pc := 101) C 0 (by decide) dX9_init_101 (by decide +kernel) ?_
  refine z_iload_n (pc := 104) C dX9_init_104 rfl ?_
  refine z_tald (pc := 105) C (by decide) (by decide) dX9_init_105 ?_
  refine z_top (v' := .int (nI 1)) rfl ?_
  refine z_callI (pc := 106) C dX9_init_106 zy_X7_init rfl kw_69 kw_70 (ct_X7_init_1 l Ω (uL A B [.inl (8, [.int (nI 5), rfO Ω (B + 1), rfO Ω (B + 2), rfO Ω (B + 3), rfO Ω (B + 4), rfO Ω (B + 6), .null, .null, .int 0]), arI 8 (fun _ => 0), arI 8 (fun _ => 0), arI 1 (fun j => if j < 1 then -1 else 0), .inr (4, 1, fun j => rfO Ω (B + 4 + 1 + j)), arI 8 (fun _ => 0), arI 1 (fun j => if j < 1 then nI 1 else 0)]) (B + 7)) rfl rfl ⟨⟨by decide, by decide⟩, by decide, by decide⟩ (Nat.le_of_ble_eq_true rfl) ?_
  refine z_heap (A' := uL A B [.inl (8, [.int (nI 5), rfO Ω (B + 1), rfO Ω (B + 2), rfO Ω (B + 3), rfO Ω (B + 4), rfO Ω (B + 6), .null, .null, .int 0]), arI 8 (fun _ => 0), arI 8 (fun _ => 0), arI 1 (fun j => if j < 1 then -1 else 0), .inr (4, 1, fun j => rfO Ω (B + 4 + 1 + j)), arI 8 (fun _ => 0), arI 1 (fun j => if j < 1 then nI 1 else 0), .inl (7, [rfO Ω (B + 8), rfO Ω (B + 9)]), arI 2 (fun _ => 0), arI 2 (fun j => if j < 2 then nI 1 else 0)]) (n' := B + 10) uL_app rfl ?_
  refine z_putF (pc := 109) (fs' := [.int (nI 5), rfO Ω (B + 1), rfO Ω (B + 2), rfO Ω (B + 3), rfO Ω (B + 4), rfO Ω (B + 6), rfO Ω (B + 7), .null, .int 0]) C rfl dX9_init_109 zq_X9_53_8 (uL_0 _ _ _ _) (Nat.le_of_ble_eq_true rfl) rfl rfl rfl uL_set0 ?_
  exact z_vret (pc := 112) C hQ dX9_init_112 rfl rfl rfl (Nat.le_of_ble_eq_true rfl) (Nat.le_of_ble_eq_true rfl)
abbrev rn_X9_init_6 : Room := { frames := 2, cells := 9, slots := 33, locals := 44 }
set_option maxHeartbeats 4000000 in
set_option maxRecDepth 100000 in
theorem ct_X9_init_6 (l : Launch) (Ω : OmT) (A : AHp) (B : Nat) : ZM l Ω yX9_init cX9_init 2 none rn_X9_init_6 [rfO Ω B, .int (nI 6)] (uL A B [.inl (6, [.int 0, .null, .null, .null, .null, .null, .null, .null, .int 0, .int 0])]) (B + 1) none (uL A B [.inl (6, [.int (nI 6), rfO Ω (B + 1), rfO Ω (B + 2), rfO Ω (B + 3), rfO Ω (B + 4), rfO Ω (B + 6), rfO Ω (B + 7), .null, .int 0, .int 0]), arI 8 (fun _ => 0), arI 8 (fun _ => 0), arI 1 (fun j => if j < 1 then -1 else 0), .inr (4, 1, fun j => rfO Ω (B + 4 + 1 + j)), arI 8 (fun _ => 0), arI 1 (fun j => if j < 1 then nI 100 else 0), .inl (7, [rfO Ω (B + 8), rfO Ω (B + 9)]), arI 2 (fun _ => 0), arI 2 (fun j => if j < 2 then nI 1 else 0)]) (B + 10) := by
  refine ZM_of (by decide) (Nat.le_of_ble_eq_true rfl) (fun E hE C hQ => ?_)
  refine z_aload_n (pc := 0) C dX9_init_0 rfl ?_
  refine z_oinit (pc := 1) C dX9_init_1 kw_62 kw_22 kw_23 (by decide) (Nat.le_of_ble_eq_true rfl) ?_
  refine z_aload_n (pc := 4) C dX9_init_4 rfl ?_
  refine z_bipush (pc := 5) (v := nI 8) C dX9_init_5 (by decide) ?_
  refine z_newa (pc := 7) (t := 0) (N := 8) C dX9_init_7 (by decide) rfl kw_38 (by decide) (Nat.le_of_ble_eq_true rfl) (Nat.le_of_ble_eq_true rfl) ?_
  refine z_heap (A' := uL A B [.inl (6, [.int 0, .null, .null, .null, .null, .null, .null, .null, .int 0, .int 0]), arI 8 (fun _ => 0)]) (n' := B + 2) uL_alloc rfl ?_
  refine z_putF (pc := 9) (fs' := [.int 0, rfO Ω (B + 1), .null, .null, .null, .null, .null, .null, .int 0, .int 0]) C rfl dX9_init_9 zq_X9_9_6 (uL_0 _ _ _ _) (Nat.le_of_ble_eq_true rfl) rfl rfl rfl uL_set0 ?_
  refine z_aload_n (pc := 12) C dX9_init_12 rfl ?_
  refine z_bipush (pc := 13) (v := nI 8) C dX9_init_13 (by decide) ?_
  refine z_newa (pc := 15) (t := 0) (N := 8) C dX9_init_15 (by decide) rfl kw_38 (by decide) (Nat.le_of_ble_eq_true rfl) (Nat.le_of_ble_eq_true rfl) ?_
  refine z_heap (A' := uL A B [.inl (6, [.int 0, rfO Ω (B + 1), .null, .null, .null, .null, .null, .null, .int 0, .int 0]), arI 8 (fun _ => 0), arI 8 (fun _ => 0)]) (n' := B + 3) uL_alloc rfl ?_
  refine z_putF (pc := 17) (fs' := [.int 0, rfO Ω (B + 1), rfO Ω (B + 2), .null, .null, .null, .null, .null, .int 0, .int 0]) C rfl dX9_init_17 zq_X9_15_6 (uL_0 _ _ _ _) (Nat.le_of_ble_eq_true rfl) rfl rfl rfl uL_set0 ?_
  refine z_aload_n (pc := 20) C dX9_init_20 rfl ?_
  refine z_iload_n (pc := 21) C dX9_init_21 rfl ?_
  refine z_putF (pc := 22) (fs' := [.int (nI 6), rfO Ω (B + 1), rfO Ω (B + 2), .null, .null, .null, .null, .null, .int 0, .int 0]) C rfl dX9_init_22 zq_X9_18_6 (uL_0 _ _ _ _) (Nat.le_of_ble_eq_true rfl) rfl rfl rfl uL_set0 ?_
  refine z_aload_n (pc := 25) C dX9_init_25 rfl ?_
  refine z_gets (pc := 26) C 0 (by decide) dX9_init_26 (by decide +kernel) ?_
  refine z_iload_n (pc := 29) C dX9_init_29 rfl ?_
  refine z_tald (pc := 30) C (by decide) (by decide) dX9_init_30 ?_
  refine z_top (v' := .int (nI 1)) rfl ?_
  refine z_newa (pc := 31) (t := 0) (N := 1) C dX9_init_31 (by decide) rfl kw_38 (by decide) (Nat.le_of_ble_eq_true rfl) (Nat.le_of_ble_eq_true rfl) ?_
  refine z_heap (A' := uL A B [.inl (6, [.int (nI 6), rfO Ω (B + 1), rfO Ω (B + 2), .null, .null, .null, .null, .null, .int 0, .int 0]), arI 8 (fun _ => 0), arI 8 (fun _ => 0), arI 1 (fun _ => 0)]) (n' := B + 4) uL_alloc rfl ?_
  refine z_putF (pc := 33) (fs' := [.int (nI 6), rfO Ω (B + 1), rfO Ω (B + 2), rfO Ω (B + 3), .null, .null, .null, .null, .int 0, .int 0]) C rfl dX9_init_33 zq_X9_25_6 (uL_0 _ _ _ _) (Nat.le_of_ble_eq_true rfl) rfl rfl rfl uL_set0 ?_
  refine z_aload_n (pc := 36) C dX9_init_36 rfl ?_
  refine z_getf (pc := 37) C dX9_init_37 zf_X9_25_6 (uL_0 _ _ _ _) rfl ?_
  refine z_iconst (pc := 40) (v := (-1)) C dX9_init_40 (by decide) ?_
  refine z_callS (pc := 41) C dX9_init_41 zy_J7_fill_53178 kw_63 kw_64 (ct_J7_fill_53178 l Ω _ _ (B + 3) 1 (fun _ => 0) (-1) (uL_at (k := 3) rfl) (by decide)) rfl rfl ⟨⟨by decide, by decide⟩, by decide, by decide⟩ (Nat.le_of_ble_eq_true rfl) ?_; dsimp only [Option.toList_none, List.nil_append]
  refine z_heap (A' := uL A B [.inl (6, [.int (nI 6), rfO Ω (B + 1), rfO Ω (B + 2), rfO Ω (B + 3), .null, .null, .null, .null, .int 0, .int 0]), arI 8 (fun _ => 0), arI 8 (fun _ => 0), arI 1 (fun j => if j < 1 then -1 else 0)]) (n' := B + 4) (uL_set (k := 3) (Nat.le_of_ble_eq_true rfl)) rfl ?_
  refine z_aload_n (pc := 44) C dX9_init_44 rfl ?_
  refine z_gets (pc := 45) C 0 (by decide) dX9_init_45 (by decide +kernel) ?_
  refine z_iload_n (pc := 48) C dX9_init_48 rfl ?_
  refine z_tald (pc := 49) C (by decide) (by decide) dX9_init_49 ?_
  refine z_top (v' := .int (nI 1)) rfl ?_
  refine z_bipush (pc := 50) (v := nI 8) C dX9_init_50 (by decide) ?_
  refine z_mnew (pc := 52) (N := 1) (M := 8) C dX9_init_52 kw_66 kw_38 (by decide) (by decide) (Nat.le_of_ble_eq_true rfl) (Nat.le_of_ble_eq_true rfl) ?_
  refine z_heap (A' := uL A B [.inl (6, [.int (nI 6), rfO Ω (B + 1), rfO Ω (B + 2), rfO Ω (B + 3), .null, .null, .null, .null, .int 0, .int 0]), arI 8 (fun _ => 0), arI 8 (fun _ => 0), arI 1 (fun j => if j < 1 then -1 else 0), .inr (4, 1, fun j => rfO Ω (B + 4 + 1 + j)), arI 8 (fun _ => 0)]) (n' := B + 6) uL_mn rfl ?_
  refine z_putF (pc := 56) (fs' := [.int (nI 6), rfO Ω (B + 1), rfO Ω (B + 2), rfO Ω (B + 3), rfO Ω (B + 4), .null, .null, .null, .int 0, .int 0]) C rfl dX9_init_56 zq_X9_36_6 (uL_0 _ _ _ _) (Nat.le_of_ble_eq_true rfl) rfl rfl rfl uL_set0 ?_
  refine z_aload_n (pc := 59) C dX9_init_59 rfl ?_
  refine z_gets (pc := 60) C 1 (by decide) dX9_init_60 (by decide +kernel) ?_
  refine z_iload_n (pc := 63) C dX9_init_63 rfl ?_
  refine z_tald (pc := 64) C (by decide) (by decide) dX9_init_64 ?_
  refine z_top (v' := .int (nI 1)) rfl ?_
  refine z_newa (pc := 65) (t := 0) (N := 1) C dX9_init_65 (by decide) rfl kw_38 (by decide) (Nat.le_of_ble_eq_true rfl) (Nat.le_of_ble_eq_true rfl) ?_
  refine z_heap (A' := uL A B [.inl (6, [.int (nI 6), rfO Ω (B + 1), rfO Ω (B + 2), rfO Ω (B + 3), rfO Ω (B + 4), .null, .null, .null, .int 0, .int 0]), arI 8 (fun _ => 0), arI 8 (fun _ => 0), arI 1 (fun j => if j < 1 then -1 else 0), .inr (4, 1, fun j => rfO Ω (B + 4 + 1 + j)), arI 8 (fun _ => 0), arI 1 (fun _ => 0)]) (n' := B + 7) uL_alloc rfl ?_
  refine z_putF (pc := 67) (fs' := [.int (nI 6), rfO Ω (B + 1), rfO Ω (B + 2), rfO Ω (B + 3), rfO Ω (B + 4), rfO Ω (B + 6), .null, .null, .int 0, .int 0]) C rfl dX9_init_67 zq_X9_42_6 (uL_0 _ _ _ _) (Nat.le_of_ble_eq_true rfl) rfl rfl rfl uL_set0 ?_
  refine z_aload_n (pc := 70) C dX9_init_70 rfl ?_
  refine z_getf (pc := 71) C dX9_init_71 zf_X9_42_6 (uL_0 _ _ _ _) rfl ?_
  refine z_gets (pc := 74) C 2 (by decide) dX9_init_74 (by decide +kernel) ?_
  refine z_iload_n (pc := 77) C dX9_init_77 rfl ?_
  refine z_tald (pc := 78) C (by decide) (by decide) dX9_init_78 ?_
  refine z_top (v' := .int (nI 100)) rfl ?_
  refine z_callS (pc := 79) C dX9_init_79 zy_J7_fill_53178 kw_63 kw_64 (ct_J7_fill_53178 l Ω _ _ (B + 6) 1 (fun _ => 0) (nI 100) (uL_at (k := 6) rfl) (by decide)) rfl rfl ⟨⟨by decide, by decide⟩, by decide, by decide⟩ (Nat.le_of_ble_eq_true rfl) ?_; dsimp only [Option.toList_none, List.nil_append]
  refine z_heap (A' := uL A B [.inl (6, [.int (nI 6), rfO Ω (B + 1), rfO Ω (B + 2), rfO Ω (B + 3), rfO Ω (B + 4), rfO Ω (B + 6), .null, .null, .int 0, .int 0]), arI 8 (fun _ => 0), arI 8 (fun _ => 0), arI 1 (fun j => if j < 1 then -1 else 0), .inr (4, 1, fun j => rfO Ω (B + 4 + 1 + j)), arI 8 (fun _ => 0), arI 1 (fun j => if j < 1 then nI 100 else 0)]) (n' := B + 7) (uL_set (k := 6) (Nat.le_of_ble_eq_true rfl)) rfl ?_
  refine z_aload_n (pc := 82) C dX9_init_82 rfl ?_
  refine z_iload_n (pc := 83) C dX9_init_83 rfl ?_
  refine z_if_eqF (pc := 84) (tgt := 93) (a := 6) C dX9_init_84 (by decide) (by decide) (by decide) ?_
  refine z_iload_n (pc := 87) C dX9_init_87 rfl ?_
  refine z_bipush (pc := 88) (v := nI 7) C dX9_init_88 (by decide) ?_
  refine z_icmp_neT (pc := 90) (tgt := 97) (a := 6) (b := 7) C dX9_init_90 (by decide) (by decide) (by decide) (by decide) ?_
  refine z_new (pc := 97) (ci := 7) (fs := [.null, .null]) C tyX7 dX9_init_97 rfl tyX7_ok kw_67 kw_68 kw_7 (by decide +kernel) (Nat.le_of_ble_eq_true rfl) (Nat.le_of_ble_eq_true rfl) ?_
  refine z_heap (A' := uL (uL A B [.inl (6, [.int (nI 6), rfO Ω (B + 1), rfO Ω (B + 2), rfO Ω (B + 3), rfO Ω (B + 4), rfO Ω (B + 6), .null, .null, .int 0, .int 0]), arI 8 (fun _ => 0), arI 8 (fun _ => 0), arI 1 (fun j => if j < 1 then -1 else 0), .inr (4, 1, fun j => rfO Ω (B + 4 + 1 + j)), arI 8 (fun _ => 0), arI 1 (fun j => if j < 1 then nI 100 else 0)]) (B + 7) [.inl (7, [.null, .null])]) (n' := B + 8) uL_new rfl ?_
  refine z_dup (pc := 100) C dX9_init_100 rfl ?_
  refine z_gets (pc := 101) C 0 (by decide) dX9_init_101 (by decide +kernel) ?_
  refine z_iload_n (pc := 104) C dX9_init_104 rfl ?_
  refine z_tald (pc := 105) C (by decide) (by decide) dX9_init_105 ?_
  refine z_top (v' := .int (nI 1)) rfl ?_
  refine z_callI (pc := 106) C dX9_init_106 zy_X7_init rfl kw_69 kw_70 (ct_X7_init_1 l Ω (uL A B [.inl (6, [.int (nI 6), rfO Ω (B + 1), rfO Ω (B + 2), rfO Ω (B + 3), rfO Ω (B + 4), rfO Ω (B + 6), .null, .null, .int 0, .int 0]), arI 8 (fun _ => 0), arI 8 (fun _ => 0), arI 1 (fun j => if j < 1 then -1 else 0), .inr (4, 1, fun j => rfO Ω (B + 4 + 1 + j)), arI 8 (fun _ => 0), arI 1 (fun j => if j < 1 then nI 100 else 0)]) (B + 7)) rfl rfl ⟨⟨by decide, by decide⟩, by decide, by decide⟩ (Nat.le_of_ble_eq_true rfl) ?_
  refine z_heap (A' := uL A B [.inl (6, [.int (nI 6), rfO Ω (B + 1), rfO Ω (B + 2), rfO Ω (B + 3), rfO Ω (B + 4), rfO Ω (B + 6), .null, .null, .int 0, .int 0]), arI 8 (fun _ => 0), arI 8 (fun _ => 0), arI 1 (fun j => if j < 1 then -1 else 0), .inr (4, 1, fun j => rfO Ω (B + 4 + 1 + j)), arI 8 (fun _ => 0), arI 1 (fun j => if j < 1 then nI 100 else 0), .inl (7, [rfO Ω (B + 8), rfO Ω (B + 9)]), arI 2 (fun _ => 0), arI 2 (fun j => if j < 2 then nI 1 else 0)]) (n' := B + 10) uL_app rfl ?_
  refine z_putF (pc := 109) (fs' := [.int (nI 6), rfO Ω (B + 1), rfO Ω (B + 2), rfO Ω (B + 3), rfO Ω (B + 4), rfO Ω (B + 6), rfO Ω (B + 7), .null, .int 0, .int 0]) C rfl dX9_init_109 zq_X9_53_6 (uL_0 _ _ _ _) (Nat.le_of_ble_eq_true rfl) rfl rfl rfl uL_set0 ?_
  exact z_vret (pc := 112) C hQ dX9_init_112 rfl rfl rfl (Nat.le_of_ble_eq_true rfl) (Nat.le_of_ble_eq_true rfl)
abbrev rn_X9_init_7 : Room := { frames := 2, cells := 5, slots := 16, locals := 44 }
set_option maxHeartbeats 4000000 in
set_option maxRecDepth 100000 in
theorem ct_X9_init_7 (l : Launch) (Ω : OmT) (A : AHp) (B : Nat) : ZM l Ω yX9_init cX9_init 2 none rn_X9_init_7 [rfO Ω B, .int (nI 7)] (uL A B [.inl (0, [.int 0, .null, .null, .null, .null, .null, .null, .null])]) (B + 1) none (uL A B [.inl (0, [.int (nI 7), rfO Ω (B + 1), rfO Ω (B + 2), rfO Ω (B + 3), rfO Ω (B + 4), rfO Ω (B + 5), .null, .null]), arI 8 (fun _ => 0), arI 8 (fun _ => 0), arI 0 (fun j => if j < 0 then -1 else 0), .inr (4, 0, fun j => rfO Ω (B + 4 + 1 + j)), arI 0 (fun j => if j < 0 then nI 0 else 0)]) (B + 6) := by
  refine ZM_of (by decide) (Nat.le_of_ble_eq_true rfl) (fun E hE C hQ => ?_)
  refine z_aload_n (pc := 0) C dX9_init_0 rfl ?_
  refine z_oinit (pc := 1) C dX9_init_1 kw_62 kw_22 kw_23 (by decide) (Nat.le_of_ble_eq_true rfl) ?_
  refine z_aload_n (pc := 4) C dX9_init_4 rfl ?_
  refine z_bipush (pc := 5) (v := nI 8) C dX9_init_5 (by decide) ?_
  refine z_newa (pc := 7) (t := 0) (N := 8) C dX9_init_7 (by decide) rfl kw_38 (by decide) (Nat.le_of_ble_eq_true rfl) (Nat.le_of_ble_eq_true rfl) ?_
  refine z_heap (A' := uL A B [.inl (0, [.int 0, .null, .null, .null, .null, .null, .null, .null]), arI 8 (fun _ => 0)]) (n' := B + 2) uL_alloc rfl ?_
  refine z_putF (pc := 9) (fs' := [.int 0, rfO Ω (B + 1), .null, .null, .null, .null, .null, .null]) C rfl dX9_init_9 zq_X9_9_0 (uL_0 _ _ _ _) (Nat.le_of_ble_eq_true rfl) rfl rfl rfl uL_set0 ?_
  refine z_aload_n (pc := 12) C dX9_init_12 rfl ?_
  refine z_bipush (pc := 13) (v := nI 8) C dX9_init_13 (by decide) ?_
  refine z_newa (pc := 15) (t := 0) (N := 8) C dX9_init_15 (by decide) rfl kw_38 (by decide) (Nat.le_of_ble_eq_true rfl) (Nat.le_of_ble_eq_true rfl) ?_
  refine z_heap (A' := uL A B [.inl (0, [.int 0, rfO Ω (B + 1), .null, .null, .null, .null, .null, .null]), arI 8 (fun _ => 0), arI 8 (fun _ => 0)]) (n' := B + 3) uL_alloc rfl ?_
  refine z_putF (pc := 17) (fs' := [.int 0, rfO Ω (B + 1), rfO Ω (B + 2), .null, .null, .null, .null, .null]) C rfl dX9_init_17 zq_X9_15_0 (uL_0 _ _ _ _) (Nat.le_of_ble_eq_true rfl) rfl rfl rfl uL_set0 ?_
  refine z_aload_n (pc := 20) C dX9_init_20 rfl ?_
  refine z_iload_n (pc := 21) C dX9_init_21 rfl ?_
  refine z_putF (pc := 22) (fs' := [.int (nI 7), rfO Ω (B + 1), rfO Ω (B + 2), .null, .null, .null, .null, .null]) C rfl dX9_init_22 zq_X9_18_0 (uL_0 _ _ _ _) (Nat.le_of_ble_eq_true rfl) rfl rfl rfl uL_set0 ?_
  refine z_aload_n (pc := 25) C dX9_init_25 rfl ?_
  refine z_gets (pc := 26) C 0 (by decide) dX9_init_26 (by decide +kernel) ?_
  refine z_iload_n (pc := 29) C dX9_init_29 rfl ?_
  refine z_tald (pc := 30) C (by decide) (by decide) dX9_init_30 ?_
  refine z_top (v' := .int (nI 0)) rfl ?_
  refine z_newa (pc := 31) (t := 0) (N := 0) C dX9_init_31 (by decide) rfl kw_38 (by decide) (Nat.le_of_ble_eq_true rfl) (Nat.le_of_ble_eq_true rfl) ?_
  refine z_heap (A' := uL A B [.inl (0, [.int (nI 7), rfO Ω (B + 1), rfO Ω (B + 2), .null, .null, .null, .null, .null]), arI 8 (fun _ => 0), arI 8 (fun _ => 0), arI 0 (fun _ => 0)]) (n' := B + 4) uL_alloc rfl ?_
  refine z_putF (pc := 33) (fs' := [.int (nI 7), rfO Ω (B + 1), rfO Ω (B + 2), rfO Ω (B + 3), .null, .null, .null, .null]) C rfl dX9_init_33 zq_X9_25_0 (uL_0 _ _ _ _) (Nat.le_of_ble_eq_true rfl) rfl rfl rfl uL_set0 ?_
  refine z_aload_n (pc := 36) C dX9_init_36 rfl ?_
  refine z_getf (pc := 37) C dX9_init_37 zf_X9_25_0 (uL_0 _ _ _ _) rfl ?_
  refine z_iconst (pc := 40) (v := (-1)) C dX9_init_40 (by decide) ?_
  refine z_callS (pc := 41) C dX9_init_41 zy_J7_fill_53178 kw_63 kw_64 (ct_J7_fill_53178 l Ω _ _ (B + 3) 0 (fun _ => 0) (-1) (uL_at (k := 3) rfl) (by decide)) rfl rfl ⟨⟨by decide, by decide⟩, by decide, by decide⟩ (Nat.le_of_ble_eq_true rfl) ?_; dsimp only [Option.toList_none, List.nil_append]
  refine z_heap (A' := uL A B [.inl (0, [.int (nI 7), rfO Ω (B + 1), rfO Ω (B + 2), rfO Ω (B + 3), .null, .null, .null, .null]), arI 8 (fun _ => 0), arI 8 (fun _ => 0), arI 0 (fun j => if j < 0 then -1 else 0)]) (n' := B + 4) (uL_set (k := 3) (Nat.le_of_ble_eq_true rfl)) rfl ?_
  refine z_aload_n (pc := 44) C dX9_init_44 rfl ?_
  refine z_gets (pc := 45) C 0 (by decide) dX9_init_45 (by decide +kernel) ?_
  refine z_iload_n (pc := 48) C dX9_init_48 rfl ?_
  refine z_tald (pc := 49) C (by decide) (by decide) dX9_init_49 ?_
  refine z_top (v' := .int (nI 0)) rfl ?_
  refine z_bipush (pc := 50) (v := nI 8) C dX9_init_50 (by decide) ?_
  refine z_mnew (pc := 52) (N := 0) (M := 8) C dX9_init_52 kw_66 kw_38 (by decide) (by decide) (Nat.le_of_ble_eq_true rfl) (Nat.le_of_ble_eq_true rfl) ?_
  refine z_heap (A' := uL A B [.inl (0, [.int (nI 7), rfO Ω (B + 1), rfO Ω (B + 2), rfO Ω (B + 3), .null, .null, .null, .null]), arI 8 (fun _ => 0), arI 8 (fun _ => 0), arI 0 (fun j => if j < 0 then -1 else 0), .inr (4, 0, fun j => rfO Ω (B + 4 + 1 + j))]) (n' := B + 5) uL_mn rfl ?_
  refine z_putF (pc := 56) (fs' := [.int (nI 7), rfO Ω (B + 1), rfO Ω (B + 2), rfO Ω (B + 3), rfO Ω (B + 4), .null, .null, .null]) C rfl dX9_init_56 zq_X9_36_0 (uL_0 _ _ _ _) (Nat.le_of_ble_eq_true rfl) rfl rfl rfl uL_set0 ?_
  refine z_aload_n (pc := 59) C dX9_init_59 rfl ?_
  refine z_gets (pc := 60) C 1 (by decide) dX9_init_60 (by decide +kernel) ?_
  refine z_iload_n (pc := 63) C dX9_init_63 rfl ?_
  refine z_tald (pc := 64) C (by decide) (by decide) dX9_init_64 ?_
  refine z_top (v' := .int (nI 0)) rfl ?_
  refine z_newa (pc := 65) (t := 0) (N := 0) C dX9_init_65 (by decide) rfl kw_38 (by decide) (Nat.le_of_ble_eq_true rfl) (Nat.le_of_ble_eq_true rfl) ?_
  refine z_heap (A' := uL A B [.inl (0, [.int (nI 7), rfO Ω (B + 1), rfO Ω (B + 2), rfO Ω (B + 3), rfO Ω (B + 4), .null, .null, .null]), arI 8 (fun _ => 0), arI 8 (fun _ => 0), arI 0 (fun j => if j < 0 then -1 else 0), .inr (4, 0, fun j => rfO Ω (B + 4 + 1 + j)), arI 0 (fun _ => 0)]) (n' := B + 6) uL_alloc rfl ?_
  refine z_putF (pc := 67) (fs' := [.int (nI 7), rfO Ω (B + 1), rfO Ω (B + 2), rfO Ω (B + 3), rfO Ω (B + 4), rfO Ω (B + 5), .null, .null]) C rfl dX9_init_67 zq_X9_42_0 (uL_0 _ _ _ _) (Nat.le_of_ble_eq_true rfl) rfl rfl rfl uL_set0 ?_
  refine z_aload_n (pc := 70) C dX9_init_70 rfl ?_
  refine z_getf (pc := 71) C dX9_init_71 zf_X9_42_0 (uL_0 _ _ _ _) rfl ?_
  refine z_gets (pc := 74) C 2 (by decide) dX9_init_74 (by decide +kernel) ?_
  refine z_iload_n (pc := 77) C dX9_init_77 rfl ?_
  refine z_tald (pc := 78) C (by decide) (by decide) dX9_init_78 ?_
  refine z_top (v' := .int (nI 0)) rfl ?_
  refine z_callS (pc := 79) C dX9_init_79 zy_J7_fill_53178 kw_63 kw_64 (ct_J7_fill_53178 l Ω _ _ (B + 5) 0 (fun _ => 0) (nI 0) (uL_at (k := 5) rfl) (by decide)) rfl rfl ⟨⟨by decide, by decide⟩, by decide, by decide⟩ (Nat.le_of_ble_eq_true rfl) ?_; dsimp only [Option.toList_none, List.nil_append]
  refine z_heap (A' := uL A B [.inl (0, [.int (nI 7), rfO Ω (B + 1), rfO Ω (B + 2), rfO Ω (B + 3), rfO Ω (B + 4), rfO Ω (B + 5), .null, .null]), arI 8 (fun _ => 0), arI 8 (fun _ => 0), arI 0 (fun j => if j < 0 then -1 else 0), .inr (4, 0, fun j => rfO Ω (B + 4 + 1 + j)), arI 0 (fun j => if j < 0 then nI 0 else 0)]) (n' := B + 6) (uL_set (k := 5) (Nat.le_of_ble_eq_true rfl)) rfl ?_
  refine z_aload_n (pc := 82) C dX9_init_82 rfl ?_
  refine z_iload_n (pc := 83) C dX9_init_83 rfl ?_
  refine z_if_eqF (pc := 84) (tgt := 93) (a := 7) C dX9_init_84 (by decide) (by decide) (by decide) ?_
  refine z_iload_n (pc := 87) C dX9_init_87 rfl ?_
  refine z_bipush (pc := 88) (v := nI 7) C dX9_init_88 (by decide) ?_
  refine z_icmp_neF (pc := 90) (tgt := 97) (a := 7) (b := 7) C dX9_init_90 (by decide) (by decide) (by decide) (by decide) ?_
  refine z_null (pc := 93) C dX9_init_93 ?_
  refine z_goto (pc := 94) (tgt := 109) C dX9_init_94 (by decide) ?_
  refine z_putF (pc := 109) (fs' := [.int (nI 7), rfO Ω (B + 1), rfO Ω (B + 2), rfO Ω (B + 3), rfO Ω (B + 4), rfO Ω (B + 5), .null, .null]) C rfl dX9_init_109 zq_X9_53_0 (uL_0 _ _ _ _) (Nat.le_of_ble_eq_true rfl) rfl rfl rfl uL_set0 ?_
  exact z_vret (pc := 112) C hQ dX9_init_112 rfl rfl rfl (Nat.le_of_ble_eq_true rfl) (Nat.le_of_ble_eq_true rfl)
abbrev rn_X1_init_0 : Room := { frames := 3, cells := 7, slots := 36, locals := 65 }
set_option maxHeartbeats 4000000 in
set_option maxRecDepth 100000 in
theorem ct_X1_init_0 (l : Launch) (Ω : OmT) (A : AHp) (B : Nat) : ZM l Ω yX1_init cX1_init 1 none rn_X1_init_0 [rfO Ω B] (uL A B [.inl (1, [.int 0, .null, .null, .null, .null, .null, .null, .null, .int 0, .int 0, .int 0, .int 0])]) (B + 1) none (uL A B [.inl (1, [.int (nI 0), rfO Ω (B + 1), rfO Ω (B + 2), rfO Ω (B + 3), rfO Ω (B + 4), rfO Ω (B + 6), .null, rfO Ω (B + 7), .int (nI 1), .int (-1), .int (nI 0), .int (nI 0)]), arI 8 (fun _ => 0), arI 8 (fun _ => 0), arI 1 (fun j => if j < 1 then -1 else 0), .inr (4, 1, fun j => rfO Ω (B + 4 + 1 + j)), arI 8 (fun _ => 0), arI 8 (fun j => if j < 8 then nI 0 else 0), arI 2 (fun _ => 0)]) (B + 8) := by
  refine ZM_of (by decide) (Nat.le_of_ble_eq_true rfl) (fun E hE C hQ => ?_)
  refine z_aload_n (pc := 0) C dX1_init_0 rfl ?_
  refine z_iconst (pc := 1) (v := nI 0) C dX1_init_1 (by decide) ?_
  refine z_callI (pc := 2) C dX1_init_2 zy_X9_init rfl kw_59 kw_60 (ct_X9_init_0 l Ω A B) rfl rfl ⟨⟨by decide, by decide⟩, by decide, by decide⟩ (Nat.le_of_ble_eq_true rfl) ?_
  refine z_aload_n (pc := 5) C dX1_init_5 rfl ?_
  refine z_iconst (pc := 6) (v := nI 2) C dX1_init_6 (by decide) ?_
  refine z_newa (pc := 7) (t := 0) (N := 2) C dX1_init_7 (by decide) rfl kw_38 (by decide) (Nat.le_of_ble_eq_true rfl) (Nat.le_of_ble_eq_true rfl) ?_
  refine z_heap (A' := uL A B [.inl (1, [.int (nI 0), rfO Ω (B + 1), rfO Ω (B + 2), rfO Ω (B + 3), rfO Ω (B + 4), rfO Ω (B + 6), .null, .null, .int 0, .int 0, .int 0, .int 0]), arI 8 (fun _ => 0), arI 8 (fun _ => 0), arI 1 (fun j => if j < 1 then -1 else 0), .inr (4, 1, fun j => rfO Ω (B + 4 + 1 + j)), arI 8 (fun _ => 0), arI 8 (fun j => if j < 8 then nI 0 else 0), arI 2 (fun _ => 0)]) (n' := B + 8) uL_alloc rfl ?_
  refine z_putF (pc := 9) (fs' := [.int (nI 0), rfO Ω (B + 1), rfO Ω (B + 2), rfO Ω (B + 3), rfO Ω (B + 4), rfO Ω (B + 6), .null, rfO Ω (B + 7), .int 0, .int 0, .int 0, .int 0]) C rfl dX1_init_9 zq_X1_9_1 (uL_0 _ _ _ _) (Nat.le_of_ble_eq_true rfl) rfl rfl rfl uL_set0 ?_
  refine z_aload_n (pc := 12) C dX1_init_12 rfl ?_
  refine z_iconst (pc := 13) (v := nI 1) C dX1_init_13 (by decide) ?_
  refine z_putf (pc := 14) (fs' := [.int (nI 0), rfO Ω (B + 1), rfO Ω (B + 2), rfO Ω (B + 3), rfO Ω (B + 4), rfO Ω (B + 6), .null, rfO Ω (B + 7), .int (nI 1), .int 0, .int 0, .int 0]) C dX1_init_14 zp_X1_15_1 (uL_0 _ _ _ _) (Nat.le_of_ble_eq_true rfl) rfl rfl rfl uL_set0 ?_
  refine z_aload_n (pc := 17) C dX1_init_17 rfl ?_
  refine z_iconst (pc := 18) (v := (-1)) C dX1_init_18 (by decide) ?_
  refine z_putf (pc := 19) (fs' := [.int (nI 0), rfO Ω (B + 1), rfO Ω (B + 2), rfO Ω (B + 3), rfO Ω (B + 4), rfO Ω (B + 6), .null, rfO Ω (B + 7), .int (nI 1), .int (-1), .int 0, .int 0]) C dX1_init_19 zp_X1_19_1 (uL_0 _ _ _ _) (Nat.le_of_ble_eq_true rfl) rfl rfl rfl uL_set0 ?_
  refine z_aload_n (pc := 22) C dX1_init_22 rfl ?_
  refine z_iconst (pc := 23) (v := nI 0) C dX1_init_23 (by decide) ?_
  refine z_putf (pc := 24) (fs' := [.int (nI 0), rfO Ω (B + 1), rfO Ω (B + 2), rfO Ω (B + 3), rfO Ω (B + 4), rfO Ω (B + 6), .null, rfO Ω (B + 7), .int (nI 1), .int (-1), .int (nI 0), .int 0]) C dX1_init_24 zp_X1_23_1 (uL_0 _ _ _ _) (Nat.le_of_ble_eq_true rfl) rfl rfl rfl uL_set0 ?_
  refine z_aload_n (pc := 27) C dX1_init_27 rfl ?_
  refine z_iconst (pc := 28) (v := nI 0) C dX1_init_28 (by decide) ?_
  refine z_putf (pc := 29) (fs' := [.int (nI 0), rfO Ω (B + 1), rfO Ω (B + 2), rfO Ω (B + 3), rfO Ω (B + 4), rfO Ω (B + 6), .null, rfO Ω (B + 7), .int (nI 1), .int (-1), .int (nI 0), .int (nI 0)]) C dX1_init_29 zp_X1_26_1 (uL_0 _ _ _ _) (Nat.le_of_ble_eq_true rfl) rfl rfl rfl uL_set0 ?_
  exact z_vret (pc := 32) C hQ dX1_init_32 rfl rfl rfl (Nat.le_of_ble_eq_true rfl) (Nat.le_of_ble_eq_true rfl)
abbrev rn_X2_init_1 : Room := { frames := 3, cells := 9, slots := 32, locals := 65 }
set_option maxHeartbeats 4000000 in
set_option maxRecDepth 100000 in
theorem ct_X2_init_1 (l : Launch) (Ω : OmT) (A : AHp) (B : Nat) : ZM l Ω yX2_init cX2_init 1 none rn_X2_init_1 [rfO Ω B] (uL A B [.inl (2, [.int 0, .null, .null, .null, .null, .null, .null])]) (B + 1) none (uL A B [.inl (2, [.int (nI 1), rfO Ω (B + 1), rfO Ω (B + 2), rfO Ω (B + 3), rfO Ω (B + 4), rfO Ω (B + 6), rfO Ω (B + 7)]), arI 8 (fun _ => 0), arI 8 (fun _ => 0), arI 1 (fun j => if j < 1 then -1 else 0), .inr (4, 1, fun j => rfO Ω (B + 4 + 1 + j)), arI 8 (fun _ => 0), arI 0 (fun j => if j < 0 then nI 0 else 0), .inl (7, [rfO Ω (B + 8), rfO Ω (B + 9)]), arI 2 (fun _ => 0), arI 2 (fun j => if j < 2 then nI 1 else 0)]) (B + 10) := by
  refine ZM_of (by decide) (Nat.le_of_ble_eq_true rfl) (fun E hE C hQ => ?_)
  refine z_aload_n (pc := 0) C dX2_init_0 rfl ?_
  refine z_iconst (pc := 1) (v := nI 1) C dX2_init_1 (by decide) ?_
  refine z_callI (pc := 2) C dX2_init_2 zy_X9_init rfl kw_156 kw_60 (ct_X9_init_1 l Ω A B) rfl rfl ⟨⟨by decide, by decide⟩, by decide, by decide⟩ (Nat.le_of_ble_eq_true rfl) ?_
  exact z_vret (pc := 5) C hQ dX2_init_5 rfl rfl rfl (Nat.le_of_ble_eq_true rfl) (Nat.le_of_ble_eq_true rfl)
abbrev rn_X4_init_2 : Room := { frames := 3, cells := 9, slots := 48, locals := 65 }
set_option maxHeartbeats 4000000 in
set_option maxRecDepth 100000 in
theorem ct_X4_init_2 (l : Launch) (Ω : OmT) (A : AHp) (B : Nat) : ZM l Ω yX4_init cX4_init 2 none rn_X4_init_2 [rfO Ω B] (uL A B [.inl (4, [.int 0, .null, .null, .null, .null, .null, .null])]) (B + 1) none (uL A B [.inl (4, [.int (nI 2), rfO Ω (B + 1), rfO Ω (B + 2), rfO Ω (B + 3), rfO Ω (B + 4), rfO Ω (B + 6), rfO Ω (B + 7)]), arI 8 (fun _ => 0), arI 8 (fun _ => 0), arI 1 (fun j => if j < 1 then -1 else 0), .inr (4, 1, fun j => rfO Ω (B + 4 + 1 + j)), arI 8 (fun _ => 0), arI 16 (upI (upI (upI (upI (fun j => if j < 16 then nI 0 else 0) 0 (nI 10)) 5 (nI 10)) 10 (nI 10)) 15 (nI 10)), .inl (7, [rfO Ω (B + 8), rfO Ω (B + 9)]), arI 2 (fun _ => 0), arI 2 (fun j => if j < 2 then nI 1 else 0)]) (B + 10) := by
  refine ZM_of (by decide) (Nat.le_of_ble_eq_true rfl) (fun E hE C hQ => ?_)
  refine z_aload_n (pc := 0) C dX4_init_0 rfl ?_
  refine z_iconst (pc := 1) (v := nI 2) C dX4_init_1 (by decide) ?_
  refine z_callI (pc := 2) C dX4_init_2 zy_X9_init rfl kw_169 kw_60 (ct_X9_init_2 l Ω A B) rfl rfl ⟨⟨by decide, by decide⟩, by decide, by decide⟩ (Nat.le_of_ble_eq_true rfl) ?_
  refine z_iconst (pc := 5) (v := nI 0) C dX4_init_5 (by decide) ?_
  refine z_istore_n (pc := 6) C dX4_init_6 (by rw [hE]; decide) ?_
  refine z_iload_n (pc := 7) C dX4_init_7 rfl ?_
  refine z_iconst (pc := 8) (v := nI 4) C dX4_init_8 (by decide) ?_
  refine z_icmp_geF (pc := 9) (tgt := 30) (a := 0) (b := 4) C dX4_init_9 (by decide) (by decide) (by decide) (by decide) ?_
  refine z_aload_n (pc := 12) C dX4_init_12 rfl ?_
  refine z_getf (pc := 13) C dX4_init_13 zf_X4_9_4 (uL_0 _ _ _ _) rfl ?_
  refine z_iconst (pc := 16) (v := nI 4) C dX4_init_16 (by decide) ?_
  refine z_iload_n (pc := 17) C dX4_init_17 rfl ?_
  refine z_imulN (pc := 18) C dX4_init_18 ?_
  refine z_top (v' := .int (nI 0)) rfl ?_
  refine z_iload_n (pc := 19) C dX4_init_19 rfl ?_
  refine z_iaddN (pc := 20) C dX4_init_20 ?_
  refine z_top (v' := .int (nI 0)) rfl ?_
  refine z_bipush (pc := 21) (v := nI 10) C dX4_init_21 (by decide) ?_
  refine z_iast (pc := 23) (N := 16) C dX4_init_23 (uL_at (k := 6) rfl) (by decide) (by decide) rfl ?_
  refine z_heap (A' := uL A B [.inl (4, [.int (nI 2), rfO Ω (B + 1), rfO Ω (B + 2), rfO Ω (B + 3), rfO Ω (B + 4), rfO Ω (B + 6), rfO Ω (B + 7)]), arI 8 (fun _ => 0), arI 8 (fun _ => 0), arI 1 (fun j => if j < 1 then -1 else 0), .inr (4, 1, fun j => rfO Ω (B + 4 + 1 + j)), arI 8 (fun _ => 0), arI 16 (upI (fun j => if j < 16 then nI 0 else 0) 0 (nI 10)), .inl (7, [rfO Ω (B + 8), rfO Ω (B + 9)]), arI 2 (fun _ => 0), arI 2 (fun j => if j < 2 then nI 1 else 0)]) (n' := B + 10) (millU (k := 6) (j := 0) (Nat.le_of_ble_eq_true rfl)) rfl ?_
  refine z_iincN (pc := 24) C dX4_init_24 rfl (by rw [hE]; decide) ?_
  refine z_goto (pc := 27) (tgt := 7) C dX4_init_27 (by decide) ?_
  refine z_iload_n (pc := 7) C dX4_init_7 rfl ?_
  refine z_iconst (pc := 8) (v := nI 4) C dX4_init_8 (by decide) ?_
  refine z_icmp_geF (pc := 9) (tgt := 30) (a := 1) (b := 4) C dX4_init_9 (by decide) (by decide) (by decide) (by decide) ?_
  refine z_aload_n (pc := 12) C dX4_init_12 rfl ?_
  refine z_getf (pc := 13) C dX4_init_13 zf_X4_9_4 (uL_0 _ _ _ _) rfl ?_
  refine z_iconst (pc := 16) (v := nI 4) C dX4_init_16 (by decide) ?_
  refine z_iload_n (pc := 17) C dX4_init_17 rfl ?_
  refine z_imulN (pc := 18) C dX4_init_18 ?_
  refine z_top (v' := .int (nI 4)) rfl ?_
  refine z_iload_n (pc := 19) C dX4_init_19 rfl ?_
  refine z_iaddN (pc := 20) C dX4_init_20 ?_
  refine z_top (v' := .int (nI 5)) rfl ?_
  refine z_bipush (pc := 21) (v := nI 10) C dX4_init_21 (by decide) ?_
  refine z_iast (pc := 23) (N := 16) C dX4_init_23 (uL_at (k := 6) rfl) (by decide) (by decide) rfl ?_
  refine z_heap (A' := uL A B [.inl (4, [.int (nI 2), rfO Ω (B + 1), rfO Ω (B + 2), rfO Ω (B + 3), rfO Ω (B + 4), rfO Ω (B + 6), rfO Ω (B + 7)]), arI 8 (fun _ => 0), arI 8 (fun _ => 0), arI 1 (fun j => if j < 1 then -1 else 0), .inr (4, 1, fun j => rfO Ω (B + 4 + 1 + j)), arI 8 (fun _ => 0), arI 16 (upI (upI (fun j => if j < 16 then nI 0 else 0) 0 (nI 10)) 5 (nI 10)), .inl (7, [rfO Ω (B + 8), rfO Ω (B + 9)]), arI 2 (fun _ => 0), arI 2 (fun j => if j < 2 then nI 1 else 0)]) (n' := B + 10) (millU (k := 6) (j := 5) (Nat.le_of_ble_eq_true rfl)) rfl ?_
  refine z_iincN (pc := 24) C dX4_init_24 rfl (by rw [hE]; decide) ?_
  refine z_goto (pc := 27) (tgt := 7) C dX4_init_27 (by decide) ?_
  refine z_iload_n (pc := 7) C dX4_init_7 rfl ?_
  refine z_iconst (pc := 8) (v := nI 4) C dX4_init_8 (by decide) ?_
  refine z_icmp_geF (pc := 9) (tgt := 30) (a := 2) (b := 4) C dX4_init_9 (by decide) (by decide) (by decide) (by decide) ?_
  refine z_aload_n (pc := 12) C dX4_init_12 rfl ?_
  refine z_getf (pc := 13) C dX4_init_13 zf_X4_9_4 (uL_0 _ _ _ _) rfl ?_
  refine z_iconst (pc := 16) (v := nI 4) C dX4_init_16 (by decide) ?_
  refine z_iload_n (pc := 17) C dX4_init_17 rfl ?_
  refine z_imulN (pc := 18) C dX4_init_18 ?_
  refine z_top (v' := .int (nI 8)) rfl ?_
  refine z_iload_n (pc := 19) C dX4_init_19 rfl ?_
  refine z_iaddN (pc := 20) C dX4_init_20 ?_
  refine z_top (v' := .int (nI 10)) rfl ?_
  refine z_bipush (pc := 21) (v := nI 10) C dX4_init_21 (by decide) ?_
  refine z_iast (pc := 23) (N := 16) C dX4_init_23 (uL_at (k := 6) rfl) (by decide) (by decide) rfl ?_
  refine z_heap (A' := uL A B [.inl (4, [.int (nI 2), rfO Ω (B + 1), rfO Ω (B + 2), rfO Ω (B + 3), rfO Ω (B + 4), rfO Ω (B + 6), rfO Ω (B + 7)]), arI 8 (fun _ => 0), arI 8 (fun _ => 0), arI 1 (fun j => if j < 1 then -1 else 0), .inr (4, 1, fun j => rfO Ω (B + 4 + 1 + j)), arI 8 (fun _ => 0), arI 16 (upI (upI (upI (fun j => if j < 16 then nI 0 else 0) 0 (nI 10)) 5 (nI 10)) 10 (nI 10)), .inl (7, [rfO Ω (B + 8), rfO Ω (B + 9)]), arI 2 (fun _ => 0), arI 2 (fun j => if j < 2 then nI 1 else 0)]) (n' := B + 10) (millU (k := 6) (j := 10) (Nat.le_of_ble_eq_true rfl)) rfl ?_
  refine z_iincN (pc := 24) C dX4_init_24 rfl (by rw [hE]; decide) ?_
  refine z_goto (pc := 27) (tgt := 7) C dX4_init_27 (by decide) ?_
  refine z_iload_n (pc := 7) C dX4_init_7 rfl ?_
  refine z_iconst (pc := 8) (v := nI 4) C dX4_init_8 (by decide) ?_
  refine z_icmp_geF (pc := 9) (tgt := 30) (a := 3) (b := 4) C dX4_init_9 (by decide) (by decide) (by decide) (by decide) ?_
  refine z_aload_n (pc := 12) C dX4_init_12 rfl ?_
  refine z_getf (pc := 13) C dX4_init_13 zf_X4_9_4 (uL_0 _ _ _ _) rfl ?_
  refine z_iconst (pc := 16) (v := nI 4) C dX4_init_16 (by decide) ?_
  refine z_iload_n (pc := 17) C dX4_init_17 rfl ?_
  refine z_imulN (pc := 18) C dX4_init_18 ?_
  refine z_top (v' := .int (nI 12)) rfl ?_
  refine z_iload_n (pc := 19) C dX4_init_19 rfl ?_
  refine z_iaddN (pc := 20) C dX4_init_20 ?_
  refine z_top (v' := .int (nI 15)) rfl ?_
  refine z_bipush (pc := 21) (v := nI 10) C dX4_init_21 (by decide) ?_
  refine z_iast (pc := 23) (N := 16) C dX4_init_23 (uL_at (k := 6) rfl) (by decide) (by decide) rfl ?_
  refine z_heap (A' := uL A B [.inl (4, [.int (nI 2), rfO Ω (B + 1), rfO Ω (B + 2), rfO Ω (B + 3), rfO Ω (B + 4), rfO Ω (B + 6), rfO Ω (B + 7)]), arI 8 (fun _ => 0), arI 8 (fun _ => 0), arI 1 (fun j => if j < 1 then -1 else 0), .inr (4, 1, fun j => rfO Ω (B + 4 + 1 + j)), arI 8 (fun _ => 0), arI 16 (upI (upI (upI (upI (fun j => if j < 16 then nI 0 else 0) 0 (nI 10)) 5 (nI 10)) 10 (nI 10)) 15 (nI 10)), .inl (7, [rfO Ω (B + 8), rfO Ω (B + 9)]), arI 2 (fun _ => 0), arI 2 (fun j => if j < 2 then nI 1 else 0)]) (n' := B + 10) (millU (k := 6) (j := 15) (Nat.le_of_ble_eq_true rfl)) rfl ?_
  refine z_iincN (pc := 24) C dX4_init_24 rfl (by rw [hE]; decide) ?_
  refine z_goto (pc := 27) (tgt := 7) C dX4_init_27 (by decide) ?_
  refine z_iload_n (pc := 7) C dX4_init_7 rfl ?_
  refine z_iconst (pc := 8) (v := nI 4) C dX4_init_8 (by decide) ?_
  refine z_icmp_geT (pc := 9) (tgt := 30) (a := 4) (b := 4) C dX4_init_9 (by decide) (by decide) (by decide) (by decide) ?_
  exact z_vret (pc := 30) C hQ dX4_init_30 rfl rfl rfl (Nat.le_of_ble_eq_true rfl) (Nat.le_of_ble_eq_true rfl)
abbrev rn_X5_init_3 : Room := { frames := 3, cells := 11, slots := 56, locals := 65 }
set_option maxHeartbeats 4000000 in
set_option maxRecDepth 100000 in
theorem ct_X5_init_3 (l : Launch) (Ω : OmT) (A : AHp) (B : Nat) : ZM l Ω yX5_init cX5_init 2 none rn_X5_init_3 [rfO Ω B, .int (nI 3)] (uL A B [.inl (5, [.int 0, .null, .null, .null, .null, .null, .null, .null])]) (B + 1) none (uL A B [.inl (5, [.int (nI 3), rfO Ω (B + 1), rfO Ω (B + 2), rfO Ω (B + 3), rfO Ω (B + 4), rfO Ω (B + 7), rfO Ω (B + 8), rfO Ω (B + 11)]), arI 8 (fun _ => 0), arI 8 (fun _ => 0), arI 2 (fun j => if j < 2 then -1 else 0), .inr (4, 2, fun j => rfO Ω (B + 4 + 1 + j)), arI 8 (fun _ => 0), arI 8 (fun _ => 0), arI 4 (fun j => if j < 4 then nI 5 else 0), .inl (7, [rfO Ω (B + 9), rfO Ω (B + 10)]), arI 3 (fun _ => 0), arI 3 (fun j => if j < 3 then nI 1 else 0), arI 8 (fun _ => 0)]) (B + 12) := by
  refine ZM_of (by decide) (Nat.le_of_ble_eq_true rfl) (fun E hE C hQ => ?_)
  refine z_aload_n (pc := 0) C dX5_init_0 rfl ?_
  refine z_iload_n (pc := 1) C dX5_init_1 rfl ?_
  refine z_callI (pc := 2) C dX5_init_2 zy_X9_init rfl kw_182 kw_60 (ct_X9_init_3 l Ω A B) rfl rfl ⟨⟨by decide, by decide⟩, by decide, by decide⟩ (Nat.le_of_ble_eq_true rfl) ?_
  refine z_aload_n (pc := 5) C dX5_init_5 rfl ?_
  refine z_bipush (pc := 6) (v := nI 8) C dX5_init_6 (by decide) ?_
  refine z_newa (pc := 8) (t := 0) (N := 8) C dX5_init_8 (by decide) rfl kw_38 (by decide) (Nat.le_of_ble_eq_true rfl) (Nat.le_of_ble_eq_true rfl) ?_
  refine z_heap (A' := uL A B [.inl (5, [.int (nI 3), rfO Ω (B + 1), rfO Ω (B + 2), rfO Ω (B + 3), rfO Ω (B + 4), rfO Ω (B + 7), rfO Ω (B + 8), .null]), arI 8 (fun _ => 0), arI 8 (fun _ => 0), arI 2 (fun j => if j < 2 then -1 else 0), .inr (4, 2, fun j => rfO Ω (B + 4 + 1 + j)), arI 8 (fun _ => 0), arI 8 (fun _ => 0), arI 4 (fun j => if j < 4 then nI 5 else 0), .inl (7, [rfO Ω (B + 9), rfO Ω (B + 10)]), arI 3 (fun _ => 0), arI 3 (fun j => if j < 3 then nI 1 else 0), arI 8 (fun _ => 0)]) (n' := B + 12) uL_alloc rfl ?_
  refine z_putF (pc := 10) (fs' := [.int (nI 3), rfO Ω (B + 1), rfO Ω (B + 2), rfO Ω (B + 3), rfO Ω (B + 4), rfO Ω (B + 7), rfO Ω (B + 8), rfO Ω (B + 11)]) C rfl dX5_init_10 zq_X5_9_5 (uL_0 _ _ _ _) (Nat.le_of_ble_eq_true rfl) rfl rfl rfl uL_set0 ?_
  exact z_vret (pc := 13) C hQ dX5_init_13 rfl rfl rfl (Nat.le_of_ble_eq_true rfl) (Nat.le_of_ble_eq_true rfl)
abbrev rn_X5_init_4 : Room := { frames := 3, cells := 11, slots := 54, locals := 65 }
set_option maxHeartbeats 4000000 in
set_option maxRecDepth 100000 in
theorem ct_X5_init_4 (l : Launch) (Ω : OmT) (A : AHp) (B : Nat) : ZM l Ω yX5_init cX5_init 2 none rn_X5_init_4 [rfO Ω B, .int (nI 4)] (uL A B [.inl (5, [.int 0, .null, .null, .null, .null, .null, .null, .null])]) (B + 1) none (uL A B [.inl (5, [.int (nI 4), rfO Ω (B + 1), rfO Ω (B + 2), rfO Ω (B + 3), rfO Ω (B + 4), rfO Ω (B + 7), rfO Ω (B + 8), rfO Ω (B + 11)]), arI 8 (fun _ => 0), arI 8 (fun _ => 0), arI 2 (fun j => if j < 2 then -1 else 0), .inr (4, 2, fun j => rfO Ω (B + 4 + 1 + j)), arI 8 (fun _ => 0), arI 8 (fun _ => 0), arI 2 (fun j => if j < 2 then nI 5 else 0), .inl (7, [rfO Ω (B + 9), rfO Ω (B + 10)]), arI 3 (fun _ => 0), arI 3 (fun j => if j < 3 then nI 1 else 0), arI 8 (fun _ => 0)]) (B + 12) := by
  refine ZM_of (by decide) (Nat.le_of_ble_eq_true rfl) (fun E hE C hQ => ?_)
  refine z_aload_n (pc := 0) C dX5_init_0 rfl ?_
  refine z_iload_n (pc := 1) C dX5_init_1 rfl ?_
  refine z_callI (pc := 2) C dX5_init_2 zy_X9_init rfl kw_182 kw_60 (ct_X9_init_4 l Ω A B) rfl rfl ⟨⟨by decide, by decide⟩, by decide, by decide⟩ (Nat.le_of_ble_eq_true rfl) ?_
  refine z_aload_n (pc := 5) C dX5_init_5 rfl ?_
  refine z_bipush (pc := 6) (v := nI 8) C dX5_init_6 (by decide) ?_
  refine z_newa (pc := 8) (t := 0) (N := 8) C dX5_init_8 (by decide) rfl kw_38 (by decide) (Nat.le_of_ble_eq_true rfl) (Nat.le_of_ble_eq_true rfl) ?_
  refine z_heap (A' := uL A B [.inl (5, [.int (nI 4), rfO Ω (B + 1), rfO Ω (B + 2), rfO Ω (B + 3), rfO Ω (B + 4), rfO Ω (B + 7), rfO Ω (B + 8), .null]), arI 8 (fun _ => 0), arI 8 (fun _ => 0), arI 2 (fun j => if j < 2 then -1 else 0), .inr (4, 2, fun j => rfO Ω (B + 4 + 1 + j)), arI 8 (fun _ => 0), arI 8 (fun _ => 0), arI 2 (fun j => if j < 2 then nI 5 else 0), .inl (7, [rfO Ω (B + 9), rfO Ω (B + 10)]), arI 3 (fun _ => 0), arI 3 (fun j => if j < 3 then nI 1 else 0), arI 8 (fun _ => 0)]) (n' := B + 12) uL_alloc rfl ?_
  refine z_putF (pc := 10) (fs' := [.int (nI 4), rfO Ω (B + 1), rfO Ω (B + 2), rfO Ω (B + 3), rfO Ω (B + 4), rfO Ω (B + 7), rfO Ω (B + 8), rfO Ω (B + 11)]) C rfl dX5_init_10 zq_X5_9_5 (uL_0 _ _ _ _) (Nat.le_of_ble_eq_true rfl) rfl rfl rfl uL_set0 ?_
  exact z_vret (pc := 13) C hQ dX5_init_13 rfl rfl rfl (Nat.le_of_ble_eq_true rfl) (Nat.le_of_ble_eq_true rfl)
abbrev rn_X8_init_5 : Room := { frames := 3, cells := 16, slots := 87, locals := 65 }
set_option maxHeartbeats 4000000 in
set_option maxRecDepth 100000 in
theorem ct_X8_init_5 (l : Launch) (Ω : OmT) (A : AHp) (B : Nat) : ZM l Ω yX8_init cX8_init 1 none rn_X8_init_5 [rfO Ω B] (uL A B [.inl (8, [.int 0, .null, .null, .null, .null, .null, .null, .null, .int 0])]) (B + 1) none (uL A B [.inl (8, [.int (nI 5), rfO Ω (B + 1), rfO Ω (B + 2), rfO Ω (B + 3), rfO Ω (B + 4), rfO Ω (B + 6), rfO Ω (B + 7), rfO Ω (B + 10), .int (nI 0)]), arI 8 (fun _ => 0), arI 8 (fun _ => 0), arI 1 (fun j => if j < 1 then -1 else 0), .inr (4, 1, fun j => rfO Ω (B + 4 + 1 + j)), arI 8 (fun _ => 0), arI 1 (fun j => if j < 1 then nI 1 else 0), .inl (7, [rfO Ω (B + 8), rfO Ω (B + 9)]), arI 2 (fun _ => 0), arI 2 (fun j => if j < 2 then nI 1 else 0), .inr (4, 6, fun j => rfO Ω (B + 10 + 1 + j)), arI 8 (fun _ => 0), arI 8 (fun _ => 0), arI 8 (fun _ => 0), arI 8 (fun _ => 0), arI 8 (fun _ => 0), arI 8 (fun _ => 0)]) (B + 17) := by
  refine ZM_of (by decide) (Nat.le_of_ble_eq_true rfl) (fun E hE C hQ => ?_)
  refine z_aload_n (pc := 0) C dX8_init_0 rfl ?_
  refine z_iconst (pc := 1) (v := nI 5) C dX8_init_1 (by decide) ?_
  refine z_callI (pc := 2) C dX8_init_2 zy_X9_init rfl kw_197 kw_60 (ct_X9_init_5 l Ω A B) rfl rfl ⟨⟨by decide, by decide⟩, by decide, by decide⟩ (Nat.le_of_ble_eq_true rfl) ?_
  refine z_aload_n (pc := 5) C dX8_init_5 rfl ?_
  refine z_bipush (pc := 6) (v := nI 6) C dX8_init_6 (by decide) ?_
  refine z_bipush (pc := 8) (v := nI 8) C dX8_init_8 (by decide) ?_
  refine z_mnew (pc := 10) (N := 6) (M := 8) C dX8_init_10 kw_198 kw_38 (by decide) (by decide) (Nat.le_of_ble_eq_true rfl) (Nat.le_of_ble_eq_true rfl) ?_
  refine z_heap (A' := uL A B [.inl (8, [.int (nI 5), rfO Ω (B + 1), rfO Ω (B + 2), rfO Ω (B + 3), rfO Ω (B + 4), rfO Ω (B + 6), rfO Ω (B + 7), .null, .int 0]), arI 8 (fun _ => 0), arI 8 (fun _ => 0), arI 1 (fun j => if j < 1 then -1 else 0), .inr (4, 1, fun j => rfO Ω (B + 4 + 1 + j)), arI 8 (fun _ => 0), arI 1 (fun j => if j < 1 then nI 1 else 0), .inl (7, [rfO Ω (B + 8), rfO Ω (B + 9)]), arI 2 (fun _ => 0), arI 2 (fun j => if j < 2 then nI 1 else 0), .inr (4, 6, fun j => rfO Ω (B + 10 + 1 + j)), arI 8 (fun _ => 0), arI 8 (fun _ => 0), arI 8 (fun _ => 0), arI 8 (fun _ => 0), arI 8 (fun _ => 0), arI 8 (fun _ => 0)]) (n' := B + 17) uL_mn rfl ?_
  refine z_putF (pc := 14) (fs' := [.int (nI 5), rfO Ω (B + 1), rfO Ω (B + 2), rfO Ω (B + 3), rfO Ω (B + 4), rfO Ω (B + 6), rfO Ω (B + 7), rfO Ω (B + 10), .int 0]) C rfl dX8_init_14 zq_X8_13_8 (uL_0 _ _ _ _) (Nat.le_of_ble_eq_true rfl) rfl rfl rfl uL_set0 ?_
  refine z_aload_n (pc := 17) C dX8_init_17 rfl ?_
  refine z_iconst (pc := 18) (v := nI 0) C dX8_init_18 (by decide) ?_
  refine z_putf (pc := 19) (fs' := [.int (nI 5), rfO Ω (B + 1), rfO Ω (B + 2), rfO Ω (B + 3), rfO Ω (B + 4), rfO Ω (B + 6), rfO Ω (B + 7), rfO Ω (B + 10), .int (nI 0)]) C dX8_init_19 zp_X8_16_8 (uL_0 _ _ _ _) (Nat.le_of_ble_eq_true rfl) rfl rfl rfl uL_set0 ?_
  exact z_vret (pc := 22) C hQ dX8_init_22 rfl rfl rfl (Nat.le_of_ble_eq_true rfl) (Nat.le_of_ble_eq_true rfl)
abbrev rn_X6_init_6 : Room := { frames := 3, cells := 30, slots := 213, locals := 65 }
set_option maxHeartbeats 4000000 in
set_option maxRecDepth 100000 in
theorem ct_X6_init_6 (l : Launch) (Ω : OmT) (A : AHp) (B : Nat) : ZM l Ω yX6_init cX6_init 1 none rn_X6_init_6 [rfO Ω B] (uL A B [.inl (6, [.int 0, .null, .null, .null, .null, .null, .null, .null, .int 0, .int 0])]) (B + 1) none (uL A B [.inl (6, [.int (nI 6), rfO Ω (B + 1), rfO Ω (B + 2), rfO Ω (B + 3), rfO Ω (B + 4), rfO Ω (B + 6), rfO Ω (B + 7), rfO Ω (B + 10), .int (nI 0), .int (nI 0)]), arI 8 (fun _ => 0), arI 8 (fun _ => 0), arI 1 (fun j => if j < 1 then -1 else 0), .inr (4, 1, fun j => rfO Ω (B + 4 + 1 + j)), arI 8 (fun _ => 0), arI 1 (fun j => if j < 1 then nI 100 else 0), .inl (7, [rfO Ω (B + 8), rfO Ω (B + 9)]), arI 2 (fun _ => 0), arI 2 (fun j => if j < 2 then nI 1 else 0), .inr (4, 20, fun j => rfO Ω (B + 10 + 1 + j)), arI 8 (fun _ => 0), arI 8 (fun _ => 0), arI 8 (fun _ => 0), arI 8 (fun _ => 0), arI 8 (fun _ => 0), arI 8 (fun _ => 0), arI 8 (fun _ => 0), arI 8 (fun _ => 0), arI 8 (fun _ => 0), arI 8 (fun _ => 0), arI 8 (fun _ => 0), arI 8 (fun _ => 0), arI 8 (fun _ => 0), arI 8 (fun _ => 0), arI 8 (fun _ => 0), arI 8 (fun _ => 0), arI 8 (fun _ => 0), arI 8 (fun _ => 0), arI 8 (fun _ => 0), arI 8 (fun _ => 0)]) (B + 31) := by
  refine ZM_of (by decide) (Nat.le_of_ble_eq_true rfl) (fun E hE C hQ => ?_)
  refine z_aload_n (pc := 0) C dX6_init_0 rfl ?_
  refine z_bipush (pc := 1) (v := nI 6) C dX6_init_1 (by decide) ?_
  refine z_callI (pc := 3) C dX6_init_3 zy_X9_init rfl kw_215 kw_60 (ct_X9_init_6 l Ω A B) rfl rfl ⟨⟨by decide, by decide⟩, by decide, by decide⟩ (Nat.le_of_ble_eq_true rfl) ?_
  refine z_aload_n (pc := 6) C dX6_init_6 rfl ?_
  refine z_bipush (pc := 7) (v := nI 20) C dX6_init_7 (by decide) ?_
  refine z_bipush (pc := 9) (v := nI 8) C dX6_init_9 (by decide) ?_
  refine z_mnew (pc := 11) (N := 20) (M := 8) C dX6_init_11 kw_216 kw_38 (by decide) (by decide) (Nat.le_of_ble_eq_true rfl) (Nat.le_of_ble_eq_true rfl) ?_
  refine z_heap (A' := uL A B [.inl (6, [.int (nI 6), rfO Ω (B + 1), rfO Ω (B + 2), rfO Ω (B + 3), rfO Ω (B + 4), rfO Ω (B + 6), rfO Ω (B + 7), .null, .int 0, .int 0]), arI 8 (fun _ => 0), arI 8 (fun _ => 0), arI 1 (fun j => if j < 1 then -1 else 0), .inr (4, 1, fun j => rfO Ω (B + 4 + 1 + j)), arI 8 (fun _ => 0), arI 1 (fun j => if j < 1 then nI 100 else 0), .inl (7, [rfO Ω (B + 8), rfO Ω (B + 9)]), arI 2 (fun _ => 0), arI 2 (fun j => if j < 2 then nI 1 else 0), .inr (4, 20, fun j => rfO Ω (B + 10 + 1 + j)), arI 8 (fun _ => 0), arI 8 (fun _ => 0), arI 8 (fun _ => 0), arI 8 (fun _ => 0), arI 8 (fun _ => 0), arI 8 (fun _ => 0), arI 8 (fun _ => 0), arI 8 (fun _ => 0), arI 8 (fun _ => 0), arI 8 (fun _ => 0), arI 8 (fun _ => 0), arI 8 (fun _ => 0), arI 8 (fun _ => 0), arI 8 (fun _ => 0), arI 8 (fun _ => 0), arI 8 (fun _ => 0), arI 8 (fun _ => 0), arI 8 (fun _ => 0), arI 8 (fun _ => 0), arI 8 (fun _ => 0)]) (n' := B + 31) uL_mn rfl ?_
  refine z_putF (pc := 15) (fs' := [.int (nI 6), rfO Ω (B + 1), rfO Ω (B + 2), rfO Ω (B + 3), rfO Ω (B + 4), rfO Ω (B + 6), rfO Ω (B + 7), rfO Ω (B + 10), .int 0, .int 0]) C rfl dX6_init_15 zq_X6_13_6 (uL_0 _ _ _ _) (Nat.le_of_ble_eq_true rfl) rfl rfl rfl uL_set0 ?_
  refine z_aload_n (pc := 18) C dX6_init_18 rfl ?_
  refine z_iconst (pc := 19) (v := nI 0) C dX6_init_19 (by decide) ?_
  refine z_putf (pc := 20) (fs' := [.int (nI 6), rfO Ω (B + 1), rfO Ω (B + 2), rfO Ω (B + 3), rfO Ω (B + 4), rfO Ω (B + 6), rfO Ω (B + 7), rfO Ω (B + 10), .int (nI 0), .int 0]) C dX6_init_20 zp_X6_16_6 (uL_0 _ _ _ _) (Nat.le_of_ble_eq_true rfl) rfl rfl rfl uL_set0 ?_
  refine z_aload_n (pc := 23) C dX6_init_23 rfl ?_
  refine z_iconst (pc := 24) (v := nI 0) C dX6_init_24 (by decide) ?_
  refine z_putf (pc := 25) (fs' := [.int (nI 6), rfO Ω (B + 1), rfO Ω (B + 2), rfO Ω (B + 3), rfO Ω (B + 4), rfO Ω (B + 6), rfO Ω (B + 7), rfO Ω (B + 10), .int (nI 0), .int (nI 0)]) C dX6_init_25 zp_X6_20_6 (uL_0 _ _ _ _) (Nat.le_of_ble_eq_true rfl) rfl rfl rfl uL_set0 ?_
  exact z_vret (pc := 28) C hQ dX6_init_28 rfl rfl rfl (Nat.le_of_ble_eq_true rfl) (Nat.le_of_ble_eq_true rfl)
abbrev rn_X0_init_7 : Room := { frames := 3, cells := 16, slots := 106, locals := 65 }
set_option maxHeartbeats 4000000 in
set_option maxRecDepth 100000 in
theorem ct_X0_init_7 (l : Launch) (Ω : OmT) (A : AHp) (B : Nat) : ZM l Ω yX0_init cX0_init 1 none rn_X0_init_7 [rfO Ω B] (uL A B [.inl (0, [.int 0, .null, .null, .null, .null, .null, .null, .null])]) (B + 1) none (uL A B [.inl (0, [.int (nI 7), rfO Ω (B + 1), rfO Ω (B + 2), rfO Ω (B + 3), rfO Ω (B + 4), rfO Ω (B + 5), .null, rfO Ω (B + 6)]), arI 8 (fun _ => 0), arI 8 (fun _ => 0), arI 0 (fun j => if j < 0 then -1 else 0), .inr (4, 0, fun j => rfO Ω (B + 4 + 1 + j)), arI 0 (fun j => if j < 0 then nI 0 else 0), .inr (4, 10, fun j => rfO Ω (B + 6 + 1 + j)), arI 8 (fun _ => 0), arI 8 (fun _ => 0), arI 8 (fun _ => 0), arI 8 (fun _ => 0), arI 8 (fun _ => 0), arI 8 (fun _ => 0), arI 8 (fun _ => 0), arI 8 (fun _ => 0), arI 8 (fun _ => 0), arI 8 (fun _ => 0)]) (B + 17) := by
  refine ZM_of (by decide) (Nat.le_of_ble_eq_true rfl) (fun E hE C hQ => ?_)
  refine z_aload_n (pc := 0) C dX0_init_0 rfl ?_
  refine z_bipush (pc := 1) (v := nI 7) C dX0_init_1 (by decide) ?_
  refine z_callI (pc := 3) C dX0_init_3 zy_X9_init rfl kw_235 kw_60 (ct_X9_init_7 l Ω A B) rfl rfl ⟨⟨by decide, by decide⟩, by decide, by decide⟩ (Nat.le_of_ble_eq_true rfl) ?_
  refine z_aload_n (pc := 6) C dX0_init_6 rfl ?_
  refine z_bipush (pc := 7) (v := nI 10) C dX0_init_7 (by decide) ?_
  refine z_bipush (pc := 9) (v := nI 8) C dX0_init_9 (by decide) ?_
  refine z_mnew (pc := 11) (N := 10) (M := 8) C dX0_init_11 kw_236 kw_38 (by decide) (by decide) (Nat.le_of_ble_eq_true rfl) (Nat.le_of_ble_eq_true rfl) ?_
  refine z_heap (A' := uL A B [.inl (0, [.int (nI 7), rfO Ω (B + 1), rfO Ω (B + 2), rfO Ω (B + 3), rfO Ω (B + 4), rfO Ω (B + 5), .null, .null]), arI 8 (fun _ => 0), arI 8 (fun _ => 0), arI 0 (fun j => if j < 0 then -1 else 0), .inr (4, 0, fun j => rfO Ω (B + 4 + 1 + j)), arI 0 (fun j => if j < 0 then nI 0 else 0), .inr (4, 10, fun j => rfO Ω (B + 6 + 1 + j)), arI 8 (fun _ => 0), arI 8 (fun _ => 0), arI 8 (fun _ => 0), arI 8 (fun _ => 0), arI 8 (fun _ => 0), arI 8 (fun _ => 0), arI 8 (fun _ => 0), arI 8 (fun _ => 0), arI 8 (fun _ => 0), arI 8 (fun _ => 0)]) (n' := B + 17) uL_mn rfl ?_
  refine z_putF (pc := 15) (fs' := [.int (nI 7), rfO Ω (B + 1), rfO Ω (B + 2), rfO Ω (B + 3), rfO Ω (B + 4), rfO Ω (B + 5), .null, rfO Ω (B + 6)]) C rfl dX0_init_15 zq_X0_11_0 (uL_0 _ _ _ _) (Nat.le_of_ble_eq_true rfl) rfl rfl rfl uL_set0 ?_
  exact z_vret (pc := 18) C hQ dX0_init_18 rfl rfl rfl (Nat.le_of_ble_eq_true rfl) (Nat.le_of_ble_eq_true rfl)
abbrev rn_X3_init_0 : Room := { frames := 1, cells := 3, slots := 3072, locals := 20 }
set_option maxHeartbeats 4000000 in
set_option maxRecDepth 100000 in
theorem ct_X3_init_0 (l : Launch) (Ω : OmT) (A : AHp) (B : Nat) : ZM l Ω yX3_init cX3_init 1 none rn_X3_init_0 [rfO Ω B] (uL A B [.inl (3, [.null, .null, .null, .int 0])]) (B + 1) none (uL A B [.inl (3, [rfO Ω (B + 1), rfO Ω (B + 2), rfO Ω (B + 3), .int (nI 0)]), arI 1024 (fun _ => 0), arI 1024 (fun _ => 0), arI 1024 (fun _ => 0)]) (B + 4) := by
  refine ZM_of (by decide) (Nat.le_of_ble_eq_true rfl) (fun E hE C hQ => ?_)
  refine z_aload_n (pc := 0) C dX3_init_0 rfl ?_
  refine z_oinit (pc := 1) C dX3_init_1 kw_29 kw_22 kw_23 (by decide) (Nat.le_of_ble_eq_true rfl) ?_
  refine z_aload_n (pc := 4) C dX3_init_4 rfl ?_
  refine z_sipush (pc := 5) (v := nI 1024) C dX3_init_5 (by decide) ?_
  refine z_newa (pc := 8) (t := 0) (N := 1024) C dX3_init_8 (by decide) rfl kw_38 (by decide) (Nat.le_of_ble_eq_true rfl) (Nat.le_of_ble_eq_true rfl) ?_
  refine z_heap (A' := uL A B [.inl (3, [.null, .null, .null, .int 0]), arI 1024 (fun _ => 0)]) (n' := B + 2) uL_alloc rfl ?_
  refine z_putF (pc := 10) (fs' := [rfO Ω (B + 1), .null, .null, .int 0]) C rfl dX3_init_10 zq_X3_11_3 (uL_0 _ _ _ _) (Nat.le_of_ble_eq_true rfl) rfl rfl rfl uL_set0 ?_
  refine z_aload_n (pc := 13) C dX3_init_13 rfl ?_
  refine z_sipush (pc := 14) (v := nI 1024) C dX3_init_14 (by decide) ?_
  refine z_newa (pc := 17) (t := 0) (N := 1024) C dX3_init_17 (by decide) rfl kw_38 (by decide) (Nat.le_of_ble_eq_true rfl) (Nat.le_of_ble_eq_true rfl) ?_
  refine z_heap (A' := uL A B [.inl (3, [rfO Ω (B + 1), .null, .null, .int 0]), arI 1024 (fun _ => 0), arI 1024 (fun _ => 0)]) (n' := B + 3) uL_alloc rfl ?_
  refine z_putF (pc := 19) (fs' := [rfO Ω (B + 1), rfO Ω (B + 2), .null, .int 0]) C rfl dX3_init_19 zq_X3_15_3 (uL_0 _ _ _ _) (Nat.le_of_ble_eq_true rfl) rfl rfl rfl uL_set0 ?_
  refine z_aload_n (pc := 22) C dX3_init_22 rfl ?_
  refine z_sipush (pc := 23) (v := nI 1024) C dX3_init_23 (by decide) ?_
  refine z_newa (pc := 26) (t := 0) (N := 1024) C dX3_init_26 (by decide) rfl kw_38 (by decide) (Nat.le_of_ble_eq_true rfl) (Nat.le_of_ble_eq_true rfl) ?_
  refine z_heap (A' := uL A B [.inl (3, [rfO Ω (B + 1), rfO Ω (B + 2), .null, .int 0]), arI 1024 (fun _ => 0), arI 1024 (fun _ => 0), arI 1024 (fun _ => 0)]) (n' := B + 4) uL_alloc rfl ?_
  refine z_putF (pc := 28) (fs' := [rfO Ω (B + 1), rfO Ω (B + 2), rfO Ω (B + 3), .int 0]) C rfl dX3_init_28 zq_X3_18_3 (uL_0 _ _ _ _) (Nat.le_of_ble_eq_true rfl) rfl rfl rfl uL_set0 ?_
  refine z_aload_n (pc := 31) C dX3_init_31 rfl ?_
  refine z_iconst (pc := 32) (v := nI 0) C dX3_init_32 (by decide) ?_
  refine z_putf (pc := 33) (fs' := [rfO Ω (B + 1), rfO Ω (B + 2), rfO Ω (B + 3), .int (nI 0)]) C dX3_init_33 zp_X3_21_3 (uL_0 _ _ _ _) (Nat.le_of_ble_eq_true rfl) rfl rfl rfl uL_set0 ?_
  exact z_vret (pc := 36) C hQ dX3_init_36 rfl rfl rfl (Nat.le_of_ble_eq_true rfl) (Nat.le_of_ble_eq_true rfl)
abbrev rn_X10_init_0 : Room := { frames := 2, cells := 5, slots := 3086, locals := 40 }
set_option maxHeartbeats 4000000 in
set_option maxRecDepth 100000 in
theorem ct_X10_init_0 (l : Launch) (Ω : OmT) (A : AHp) (B : Nat) : ZM l Ω yX10_init cX10_init 1 none rn_X10_init_0 [rfO Ω B] (uL A B [.inl (9, [.null, .null, .int 0, .int 0])]) (B + 1) none (uL A B [.inl (9, [rfO Ω (B + 1), rfO Ω (B + 2), .int (nI 0), .int (nI 0)]), .inr (3, 10, fun _ => .null), .inl (3, [rfO Ω (B + 3), rfO Ω (B + 4), rfO Ω (B + 5), .int (nI 0)]), arI 1024 (fun _ => 0), arI 1024 (fun _ => 0), arI 1024 (fun _ => 0)]) (B + 6) := by
  refine ZM_of (by decide) (Nat.le_of_ble_eq_true rfl) (fun E hE C hQ => ?_)
  refine z_aload_n (pc := 0) C dX10_init_0 rfl ?_
  refine z_oinit (pc := 1) C dX10_init_1 kw_21 kw_22 kw_23 (by decide) (Nat.le_of_ble_eq_true rfl) ?_
  refine z_aload_n (pc := 4) C dX10_init_4 rfl ?_
  refine z_bipush (pc := 5) (v := nI 10) C dX10_init_5 (by decide) ?_
  refine z_anew (pc := 7) (N := 10) C dX10_init_7 kw_24 (by decide) (Nat.le_of_ble_eq_true rfl) (Nat.le_of_ble_eq_true rfl) ?_
  refine z_heap (A' := uL A B [.inl (9, [.null, .null, .int 0, .int 0]), .inr (3, 10, fun _ => .null)]) (n' := B + 2) uL_alloc rfl ?_
  refine z_putF (pc := 10) (fs' := [rfO Ω (B + 1), .null, .int 0, .int 0]) C rfl dX10_init_10 zq_X10_13_9 (uL_0 _ _ _ _) (Nat.le_of_ble_eq_true rfl) rfl rfl rfl uL_set0 ?_
  refine z_aload_n (pc := 13) C dX10_init_13 rfl ?_
  refine z_new (pc := 14) (ci := 3) (fs := [.null, .null, .null, .int 0]) C tyX3 dX10_init_14 rfl tyX3_ok kw_25 kw_26 kw_2 (by decide +kernel) (Nat.le_of_ble_eq_true rfl) (Nat.le_of_ble_eq_true rfl) ?_
  refine z_heap (A' := uL (uL A B [.inl (9, [rfO Ω (B + 1), .null, .int 0, .int 0]), .inr (3, 10, fun _ => .null)]) (B + 2) [.inl (3, [.null, .null, .null, .int 0])]) (n' := B + 3) uL_new rfl ?_
  refine z_dup (pc := 17) C dX10_init_17 rfl ?_
  refine z_callIN (pc := 18) C dX10_init_18 zy_X3_init rfl (by decide +kernel) kw_27 (ct_X3_init_0 l Ω (uL A B [.inl (9, [rfO Ω (B + 1), .null, .int 0, .int 0]), .inr (3, 10, fun _ => .null)]) (B + 2)) rfl rfl ⟨⟨by decide, by decide⟩, by decide, by decide⟩ (Nat.le_of_ble_eq_true rfl) ?_
  refine z_heap (A' := uL A B [.inl (9, [rfO Ω (B + 1), .null, .int 0, .int 0]), .inr (3, 10, fun _ => .null), .inl (3, [rfO Ω (B + 3), rfO Ω (B + 4), rfO Ω (B + 5), .int (nI 0)]), arI 1024 (fun _ => 0), arI 1024 (fun _ => 0), arI 1024 (fun _ => 0)]) (n' := B + 6) uL_app rfl ?_
  refine z_putF (pc := 21) (fs' := [rfO Ω (B + 1), rfO Ω (B + 2), .int 0, .int 0]) C rfl dX10_init_21 zq_X10_20_9 (uL_0 _ _ _ _) (Nat.le_of_ble_eq_true rfl) rfl rfl rfl uL_set0 ?_
  refine z_aload_n (pc := 24) C dX10_init_24 rfl ?_
  refine z_iconst (pc := 25) (v := nI 0) C dX10_init_25 (by decide) ?_
  refine z_putf (pc := 26) (fs' := [rfO Ω (B + 1), rfO Ω (B + 2), .int (nI 0), .int 0]) C dX10_init_26 zp_X10_24_9 (uL_0 _ _ _ _) (Nat.le_of_ble_eq_true rfl) rfl rfl rfl uL_set0 ?_
  refine z_aload_n (pc := 29) C dX10_init_29 rfl ?_
  refine z_iconst (pc := 30) (v := nI 0) C dX10_init_30 (by decide) ?_
  refine z_putf (pc := 31) (fs' := [rfO Ω (B + 1), rfO Ω (B + 2), .int (nI 0), .int (nI 0)]) C dX10_init_31 zp_X10_28_9 (uL_0 _ _ _ _) (Nat.le_of_ble_eq_true rfl) rfl rfl rfl uL_set0 ?_
  exact z_vret (pc := 34) C hQ dX10_init_34 rfl rfl rfl (Nat.le_of_ble_eq_true rfl) (Nat.le_of_ble_eq_true rfl)
abbrev rn_X11_init_0 : Room := { frames := 1, cells := 27, slots := 3912, locals := 20 }
set_option maxHeartbeats 4000000 in
set_option maxRecDepth 100000 in
theorem ct_X11_init_0 (l : Launch) (Ω : OmT) (A : AHp) (B : Nat) : ZM l Ω yX11_init cX11_init 1 none rn_X11_init_0 [rfO Ω B] (uL A B [.inl (10, [.int 0, .int 0, .int 0, .null, .null, .null, .null, .null, .null, .null, .null, .null, .null, .null, .null, .null, .null, .null, .null, .null, .null, .null, .null, .null, .null, .null, .null, .null, .null, .null])]) (B + 1) none (uL A B [.inl (10, [.int 0, .int 0, .int 0, rfO Ω (B + 1), rfO Ω (B + 2), rfO Ω (B + 3), rfO Ω (B + 4), rfO Ω (B + 5), rfO Ω (B + 6), rfO Ω (B + 7), rfO Ω (B + 8), rfO Ω (B + 9), rfO Ω (B + 10), rfO Ω (B + 11), rfO Ω (B + 12), rfO Ω (B + 13), rfO Ω (B + 14), rfO Ω (B + 15), rfO Ω (B + 16), rfO Ω (B + 17), rfO Ω (B + 18), rfO Ω (B + 19), rfO Ω (B + 20), rfO Ω (B + 21), rfO Ω (B + 22), rfO Ω (B + 23), rfO Ω (B + 24), rfO Ω (B + 25), rfO Ω (B + 26), rfO Ω (B + 27)]), arI 10 (fun _ => 0), arI 20 (fun _ => 0), arI 80 (fun _ => 0), arI 80 (fun _ => 0), arI 160 (fun _ => 0), arI 40 (fun _ => 0), arI 80 (fun _ => 0), arI 10 (fun _ => 0), arI 10 (fun _ => 0), arI 10 (fun _ => 0), arI 10 (fun _ => 0), arI 10 (fun _ => 0), .inr (2, 10, fun _ => .int 0), arI 10 (fun _ => 0), arI 560 (fun _ => 0), arI 70 (fun _ => 0), arI 10 (fun _ => 0), arI 1600 (fun _ => 0), arI 160 (fun _ => 0), .inr (1, 2, fun _ => .long 0), .inr (1, 80, fun _ => .long 0), .inr (1, 800, fun _ => .long 0), arI 30 (fun _ => 0), arI 30 (fun _ => 0), arI 10 (fun _ => 0), arI 10 (fun _ => 0), arI 10 (fun _ => 0)]) (B + 28) := by
  refine ZM_of (by decide) (Nat.le_of_ble_eq_true rfl) (fun E hE C hQ => ?_)
  refine z_aload_n (pc := 0) C dX11_init_0 rfl ?_
  refine z_oinit (pc := 1) C dX11_init_1 kw_618 kw_22 kw_23 (by decide) (Nat.le_of_ble_eq_true rfl) ?_
  refine z_aload_n (pc := 4) C dX11_init_4 rfl ?_
  refine z_bipush (pc := 5) (v := nI 10) C dX11_init_5 (by decide) ?_
  refine z_newa (pc := 7) (t := 0) (N := 10) C dX11_init_7 (by decide) rfl kw_38 (by decide) (Nat.le_of_ble_eq_true rfl) (Nat.le_of_ble_eq_true rfl) ?_
  refine z_heap (A' := uL A B [.inl (10, [.int 0, .int 0, .int 0, .null, .null, .null, .null, .null, .null, .null, .null, .null, .null, .null, .null, .null, .null, .null, .null, .null, .null, .null, .null, .null, .null, .null, .null, .null, .null, .null]), arI 10 (fun _ => 0)]) (n' := B + 2) uL_alloc rfl ?_
  refine z_putF (pc := 9) (fs' := [.int 0, .int 0, .int 0, rfO Ω (B + 1), .null, .null, .null, .null, .null, .null, .null, .null, .null, .null, .null, .null, .null, .null, .null, .null, .null, .null, .null, .null, .null, .null, .null, .null, .null, .null]) C rfl dX11_init_9 zq_X11_9_10 (uL_0 _ _ _ _) (Nat.le_of_ble_eq_true rfl) rfl rfl rfl uL_set0 ?_
  refine z_aload_n (pc := 12) C dX11_init_12 rfl ?_
  refine z_bipush (pc := 13) (v := nI 20) C dX11_init_13 (by decide) ?_
  refine z_newa (pc := 15) (t := 0) (N := 20) C dX11_init_15 (by decide) rfl kw_38 (by decide) (Nat.le_of_ble_eq_true rfl) (Nat.le_of_ble_eq_true rfl) ?_
  refine z_heap (A' := uL A B [.inl (10, [.int 0, .int 0, .int 0, rfO Ω (B + 1), .null, .null, .null, .null, .null, .null, .null, .null, .null, .null, .null, .null, .null, .null, .null, .null, .null, .null, .null, .null, .null, .null, .null, .null, .null, .null]), arI 10 (fun _ => 0), arI 20 (fun _ => 0)]) (n' := B + 3) uL_alloc rfl ?_
  refine z_putF (pc := 17) (fs' := [.int 0, .int 0, .int 0, rfO Ω (B + 1), rfO Ω (B + 2), .null, .null, .null, .null, .null, .null, .null, .null, .null, .null, .null, .null, .null, .null, .null, .null, .null, .null, .null, .null, .null, .null, .null, .null, .null]) C rfl dX11_init_17 zq_X11_13_10 (uL_0 _ _ _ _) (Nat.le_of_ble_eq_true rfl) rfl rfl rfl uL_set0 ?_
  refine z_aload_n (pc := 20) C dX11_init_20 rfl ?_
  refine z_bipush (pc := 21) (v := nI 80) C dX11_init_21 (by decide) ?_
  refine z_newa (pc := 23) (t := 0) (N := 80) C dX11_init_23 (by decide) rfl kw_38 (by decide) (Nat.le_of_ble_eq_true rfl) (Nat.le_of_ble_eq_true rfl) ?_
  refine z_heap (A' := uL A B [.inl (10, [.int 0, .int 0, .int 0, rfO Ω (B + 1), rfO Ω (B + 2), .null, .null, .null, .null, .null, .null, .null, .null, .null, .null, .null, .null, .null, .null, .null, .null, .null, .null, .null, .null, .null, .null, .null, .null, .null]), arI 10 (fun _ => 0), arI 20 (fun _ => 0), arI 80 (fun _ => 0)]) (n' := B + 4) uL_alloc rfl ?_
  refine z_putF (pc := 25) (fs' := [.int 0, .int 0, .int 0, rfO Ω (B + 1), rfO Ω (B + 2), rfO Ω (B + 3), .null, .null, .null, .null, .null, .null, .null, .null, .null, .null, .null, .null, .null, .null, .null, .null, .null, .null, .null, .null, .null, .null, .null, .null]) C rfl dX11_init_25 zq_X11_16_10 (uL_0 _ _ _ _) (Nat.le_of_ble_eq_true rfl) rfl rfl rfl uL_set0 ?_
  refine z_aload_n (pc := 28) C dX11_init_28 rfl ?_
  refine z_bipush (pc := 29) (v := nI 80) C dX11_init_29 (by decide) ?_
  refine z_newa (pc := 31) (t := 0) (N := 80) C dX11_init_31 (by decide) rfl kw_38 (by decide) (Nat.le_of_ble_eq_true rfl) (Nat.le_of_ble_eq_true rfl) ?_
  refine z_heap (A' := uL A B [.inl (10, [.int 0, .int 0, .int 0, rfO Ω (B + 1), rfO Ω (B + 2), rfO Ω (B + 3), .null, .null, .null, .null, .null, .null, .null, .null, .null, .null, .null, .null, .null, .null, .null, .null, .null, .null, .null, .null, .null, .null, .null, .null]), arI 10 (fun _ => 0), arI 20 (fun _ => 0), arI 80 (fun _ => 0), arI 80 (fun _ => 0)]) (n' := B + 5) uL_alloc rfl ?_
  refine z_putF (pc := 33) (fs' := [.int 0, .int 0, .int 0, rfO Ω (B + 1), rfO Ω (B + 2), rfO Ω (B + 3), rfO Ω (B + 4), .null, .null, .null, .null, .null, .null, .null, .null, .null, .null, .null, .null, .null, .null, .null, .null, .null, .null, .null, .null, .null, .null, .null]) C rfl dX11_init_33 zq_X11_19_10 (uL_0 _ _ _ _) (Nat.le_of_ble_eq_true rfl) rfl rfl rfl uL_set0 ?_
  refine z_aload_n (pc := 36) C dX11_init_36 rfl ?_
  refine z_sipush (pc := 37) (v := nI 160) C dX11_init_37 (by decide) ?_
  refine z_newa (pc := 40) (t := 0) (N := 160) C dX11_init_40 (by decide) rfl kw_38 (by decide) (Nat.le_of_ble_eq_true rfl) (Nat.le_of_ble_eq_true rfl) ?_
  refine z_heap (A' := uL A B [.inl (10, [.int 0, .int 0, .int 0, rfO Ω (B + 1), rfO Ω (B + 2), rfO Ω (B + 3), rfO Ω (B + 4), .null, .null, .null, .null, .null, .null, .null, .null, .null, .null, .null, .null, .null, .null, .null, .null, .null, .null, .null, .null, .null, .null, .null]), arI 10 (fun _ => 0), arI 20 (fun _ => 0), arI 80 (fun _ => 0), arI 80 (fun _ => 0), arI 160 (fun _ => 0)]) (n' := B + 6) uL_alloc rfl ?_
  refine z_putF (pc := 42) (fs' := [.int 0, .int 0, .int 0, rfO Ω (B + 1), rfO Ω (B + 2), rfO Ω (B + 3), rfO Ω (B + 4), rfO Ω (B + 5), .null, .null, .null, .null, .null, .null, .null, .null, .null, .null, .null, .null, .null, .null, .null, .null, .null, .null, .null, .null, .null, .null]) C rfl dX11_init_42 zq_X11_22_10 (uL_0 _ _ _ _) (Nat.le_of_ble_eq_true rfl) rfl rfl rfl uL_set0 ?_
  refine z_aload_n (pc := 45) C dX11_init_45 rfl ?_
  refine z_bipush (pc := 46) (v := nI 40) C dX11_init_46 (by decide) ?_
  refine z_newa (pc := 48) (t := 0) (N := 40) C dX11_init_48 (by decide) rfl kw_38 (by decide) (Nat.le_of_ble_eq_true rfl) (Nat.le_of_ble_eq_true rfl) ?_
  refine z_heap (A' := uL A B [.inl (10, [.int 0, .int 0, .int 0, rfO Ω (B + 1), rfO Ω (B + 2), rfO Ω (B + 3), rfO Ω (B + 4), rfO Ω (B + 5), .null, .null, .null, .null, .null, .null, .null, .null, .null, .null, .null, .null, .null, .null, .null, .null, .null, .null, .null, .null, .null, .null]), arI 10 (fun _ => 0), arI 20 (fun _ => 0), arI 80 (fun _ => 0), arI 80 (fun _ => 0), arI 160 (fun _ => 0), arI 40 (fun _ => 0)]) (n' := B + 7) uL_alloc rfl ?_
  refine z_putF (pc := 50) (fs' := [.int 0, .int 0, .int 0, rfO Ω (B + 1), rfO Ω (B + 2), rfO Ω (B + 3), rfO Ω (B + 4), rfO Ω (B + 5), rfO Ω (B + 6), .null, .null, .null, .null, .null, .null, .null, .null, .null, .null, .null, .null, .null, .null, .null, .null, .null, .null, .null, .null, .null]) C rfl dX11_init_50 zq_X11_25_10 (uL_0 _ _ _ _) (Nat.le_of_ble_eq_true rfl) rfl rfl rfl uL_set0 ?_
  refine z_aload_n (pc := 53) C dX11_init_53 rfl ?_
  refine z_bipush (pc := 54) (v := nI 80) C dX11_init_54 (by decide) ?_
  refine z_newa (pc := 56) (t := 0) (N := 80) C dX11_init_56 (by decide) rfl kw_38 (by decide) (Nat.le_of_ble_eq_true rfl) (Nat.le_of_ble_eq_true rfl) ?_
  refine z_heap (A' := uL A B [.inl (10, [.int 0, .int 0, .int 0, rfO Ω (B + 1), rfO Ω (B + 2), rfO Ω (B + 3), rfO Ω (B + 4), rfO Ω (B + 5), rfO Ω (B + 6), .null, .null, .null, .null, .null, .null, .null, .null, .null, .null, .null, .null, .null, .null, .null, .null, .null, .null, .null, .null, .null]), arI 10 (fun _ => 0), arI 20 (fun _ => 0), arI 80 (fun _ => 0), arI 80 (fun _ => 0), arI 160 (fun _ => 0), arI 40 (fun _ => 0), arI 80 (fun _ => 0)]) (n' := B + 8) uL_alloc rfl ?_
  refine z_putF (pc := 58) (fs' := [.int 0, .int 0, .int 0, rfO Ω (B + 1), rfO Ω (B + 2), rfO Ω (B + 3), rfO Ω (B + 4), rfO Ω (B + 5), rfO Ω (B + 6), rfO Ω (B + 7), .null, .null, .null, .null, .null, .null, .null, .null, .null, .null, .null, .null, .null, .null, .null, .null, .null, .null, .null, .null]) C rfl dX11_init_58 zq_X11_28_10 (uL_0 _ _ _ _) (Nat.le_of_ble_eq_true rfl) rfl rfl rfl uL_set0 ?_
  refine z_aload_n (pc := 61) C dX11_init_61 rfl ?_
  refine z_bipush (pc := 62) (v := nI 10) C dX11_init_62 (by decide) ?_
  refine z_newa (pc := 64) (t := 0) (N := 10) C dX11_init_64 (by decide) rfl kw_38 (by decide) (Nat.le_of_ble_eq_true rfl) (Nat.le_of_ble_eq_true rfl) ?_
  refine z_heap (A' := uL A B [.inl (10, [.int 0, .int 0, .int 0, rfO Ω (B + 1), rfO Ω (B + 2), rfO Ω (B + 3), rfO Ω (B + 4), rfO Ω (B + 5), rfO Ω (B + 6), rfO Ω (B + 7), .null, .null, .null, .null, .null, .null, .null, .null, .null, .null, .null, .null, .null, .null, .null, .null, .null, .null, .null, .null]), arI 10 (fun _ => 0), arI 20 (fun _ => 0), arI 80 (fun _ => 0), arI 80 (fun _ => 0), arI 160 (fun _ => 0), arI 40 (fun _ => 0), arI 80 (fun _ => 0), arI 10 (fun _ => 0)]) (n' := B + 9) uL_alloc rfl ?_
  refine z_putF (pc := 66) (fs' := [.int 0, .int 0, .int 0, rfO Ω (B + 1), rfO Ω (B + 2), rfO Ω (B + 3), rfO Ω (B + 4), rfO Ω (B + 5), rfO Ω (B + 6), rfO Ω (B + 7), rfO Ω (B + 8), .null, .null, .null, .null, .null, .null, .null, .null, .null, .null, .null, .null, .null, .null, .null, .null, .null, .null, .null]) C rfl dX11_init_66 zq_X11_31_10 (uL_0 _ _ _ _) (Nat.le_of_ble_eq_true rfl) rfl rfl rfl uL_set0 ?_
  refine z_aload_n (pc := 69) C dX11_init_69 rfl ?_
  refine z_bipush (pc := 70) (v := nI 10) C dX11_init_70 (by decide) ?_
  refine z_newa (pc := 72) (t := 0) (N := 10) C dX11_init_72 (by decide) rfl kw_38 (by decide) (Nat.le_of_ble_eq_true rfl) (Nat.le_of_ble_eq_true rfl) ?_
  refine z_heap (A' := uL A B [.inl (10, [.int 0, .int 0, .int 0, rfO Ω (B + 1), rfO Ω (B + 2), rfO Ω (B + 3), rfO Ω (B + 4), rfO Ω (B + 5), rfO Ω (B + 6), rfO Ω (B + 7), rfO Ω (B + 8), .null, .null, .null, .null, .null, .null, .null, .null, .null, .null, .null, .null, .null, .null, .null, .null, .null, .null, .null]), arI 10 (fun _ => 0), arI 20 (fun _ => 0), arI 80 (fun _ => 0), arI 80 (fun _ => 0), arI 160 (fun _ => 0), arI 40 (fun _ => 0), arI 80 (fun _ => 0), arI 10 (fun _ => 0), arI 10 (fun _ => 0)]) (n' := B + 10) uL_alloc rfl ?_
  refine z_putF (pc := 74) (fs' := [.int 0, .int 0, .int 0, rfO Ω (B + 1), rfO Ω (B + 2), rfO Ω (B + 3), rfO Ω (B + 4), rfO Ω (B + 5), rfO Ω (B + 6), rfO Ω (B + 7), rfO Ω (B + 8), rfO Ω (B + 9), .null, .null, .null, .null, .null, .null, .null, .null, .null, .null, .null, .null, .null, .null, .null, .null, .null, .null]) C rfl dX11_init_74 zq_X11_34_10 (uL_0 _ _ _ _) (Nat.le_of_ble_eq_true rfl) rfl rfl rfl uL_set0 ?_
  refine z_aload_n (pc := 77) C dX11_init_77 rfl ?_
  refine z_bipush (pc := 78) (v := nI 10) C dX11_init_78 (by decide) ?_
  refine z_newa (pc := 80) (t := 0) (N := 10) C dX11_init_80 (by decide) rfl kw_38 (by decide) (Nat.le_of_ble_eq_true rfl) (Nat.le_of_ble_eq_true rfl) ?_
  refine z_heap (A' := uL A B [.inl (10, [.int 0, .int 0, .int 0, rfO Ω (B + 1), rfO Ω (B + 2), rfO Ω (B + 3), rfO Ω (B + 4), rfO Ω (B + 5), rfO Ω (B + 6), rfO Ω (B + 7), rfO Ω (B + 8), rfO Ω (B + 9), .null, .null, .null, .null, .null, .null, .null, .null, .null, .null, .null, .null, .null, .null, .null, .null, .null, .null]), arI 10 (fun _ => 0), arI 20 (fun _ => 0), arI 80 (fun _ => 0), arI 80 (fun _ => 0), arI 160 (fun _ => 0), arI 40 (fun _ => 0), arI 80 (fun _ => 0), arI 10 (fun _ => 0), arI 10 (fun _ => 0), arI 10 (fun _ => 0)]) (n' := B + 11) uL_alloc rfl ?_
  refine z_putF (pc := 82) (fs' := [.int 0, .int 0, .int 0, rfO Ω (B + 1), rfO Ω (B + 2), rfO Ω (B + 3), rfO Ω (B + 4), rfO Ω (B + 5), rfO Ω (B + 6), rfO Ω (B + 7), rfO Ω (B + 8), rfO Ω (B + 9), rfO Ω (B + 10), .null, .null, .null, .null, .null, .null, .null, .null, .null, .null, .null, .null, .null, .null, .null, .null, .null]) C rfl dX11_init_82 zq_X11_37_10 (uL_0 _ _ _ _) (Nat.le_of_ble_eq_true rfl) rfl rfl rfl uL_set0 ?_
  refine z_aload_n (pc := 85) C dX11_init_85 rfl ?_
  refine z_bipush (pc := 86) (v := nI 10) C dX11_init_86 (by decide) ?_
  refine z_newa (pc := 88) (t := 0) (N := 10) C dX11_init_88 (by decide) rfl kw_38 (by decide) (Nat.le_of_ble_eq_true rfl) (Nat.le_of_ble_eq_true rfl) ?_
  refine z_heap (A' := uL A B [.inl (10, [.int 0, .int 0, .int 0, rfO Ω (B + 1), rfO Ω (B + 2), rfO Ω (B + 3), rfO Ω (B + 4), rfO Ω (B + 5), rfO Ω (B + 6), rfO Ω (B + 7), rfO Ω (B + 8), rfO Ω (B + 9), rfO Ω (B + 10), .null, .null, .null, .null, .null, .null, .null, .null, .null, .null, .null, .null, .null, .null, .null, .null, .null]), arI 10 (fun _ => 0), arI 20 (fun _ => 0), arI 80 (fun _ => 0), arI 80 (fun _ => 0), arI 160 (fun _ => 0), arI 40 (fun _ => 0), arI 80 (fun _ => 0), arI 10 (fun _ => 0), arI 10 (fun _ => 0), arI 10 (fun _ => 0), arI 10 (fun _ => 0)]) (n' := B + 12) uL_alloc rfl ?_
  refine z_putF (pc := 90) (fs' := [.int 0, .int 0, .int 0, rfO Ω (B + 1), rfO Ω (B + 2), rfO Ω (B + 3), rfO Ω (B + 4), rfO Ω (B + 5), rfO Ω (B + 6), rfO Ω (B + 7), rfO Ω (B + 8), rfO Ω (B + 9), rfO Ω (B + 10), rfO Ω (B + 11), .null, .null, .null, .null, .null, .null, .null, .null, .null, .null, .null, .null, .null, .null, .null, .null]) C rfl dX11_init_90 zq_X11_40_10 (uL_0 _ _ _ _) (Nat.le_of_ble_eq_true rfl) rfl rfl rfl uL_set0 ?_
  refine z_aload_n (pc := 93) C dX11_init_93 rfl ?_
  refine z_bipush (pc := 94) (v := nI 10) C dX11_init_94 (by decide) ?_
  refine z_newa (pc := 96) (t := 0) (N := 10) C dX11_init_96 (by decide) rfl kw_38 (by decide) (Nat.le_of_ble_eq_true rfl) (Nat.le_of_ble_eq_true rfl) ?_
  refine z_heap (A' := uL A B [.inl (10, [.int 0, .int 0, .int 0, rfO Ω (B + 1), rfO Ω (B + 2), rfO Ω (B + 3), rfO Ω (B + 4), rfO Ω (B + 5), rfO Ω (B + 6), rfO Ω (B + 7), rfO Ω (B + 8), rfO Ω (B + 9), rfO Ω (B + 10), rfO Ω (B + 11), .null, .null, .null, .null, .null, .null, .null, .null, .null, .null, .null, .null, .null, .null, .null, .null]), arI 10 (fun _ => 0), arI 20 (fun _ => 0), arI 80 (fun _ => 0), arI 80 (fun _ => 0), arI 160 (fun _ => 0), arI 40 (fun _ => 0), arI 80 (fun _ => 0), arI 10 (fun _ => 0), arI 10 (fun _ => 0), arI 10 (fun _ => 0), arI 10 (fun _ => 0), arI 10 (fun _ => 0)]) (n' := B + 13) uL_alloc rfl ?_
  refine z_putF (pc := 98) (fs' := [.int 0, .int 0, .int 0, rfO Ω (B + 1), rfO Ω (B + 2), rfO Ω (B + 3), rfO Ω (B + 4), rfO Ω (B + 5), rfO Ω (B + 6), rfO Ω (B + 7), rfO Ω (B + 8), rfO Ω (B + 9), rfO Ω (B + 10), rfO Ω (B + 11), rfO Ω (B + 12), .null, .null, .null, .null, .null, .null, .null, .null, .null, .null, .null, .null, .null, .null, .null]) C rfl dX11_init_98 zq_X11_43_10 (uL_0 _ _ _ _) (Nat.le_of_ble_eq_true rfl) rfl rfl rfl uL_set0 ?_
  refine z_aload_n (pc := 101) C dX11_init_101 rfl ?_
  refine z_bipush (pc := 102) (v := nI 10) C dX11_init_102 (by decide) ?_
  refine z_newa (pc := 104) (t := 2) (N := 10) C dX11_init_104 (by decide) rfl kw_679 (by decide) (Nat.le_of_ble_eq_true rfl) (Nat.le_of_ble_eq_true rfl) ?_
  refine z_heap (A' := uL A B [.inl (10, [.int 0, .int 0, .int 0, rfO Ω (B + 1), rfO Ω (B + 2), rfO Ω (B + 3), rfO Ω (B + 4), rfO Ω (B + 5), rfO Ω (B + 6), rfO Ω (B + 7), rfO Ω (B + 8), rfO Ω (B + 9), rfO Ω (B + 10), rfO Ω (B + 11), rfO Ω (B + 12), .null, .null, .null, .null, .null, .null, .null, .null, .null, .null, .null, .null, .null, .null, .null]), arI 10 (fun _ => 0), arI 20 (fun _ => 0), arI 80 (fun _ => 0), arI 80 (fun _ => 0), arI 160 (fun _ => 0), arI 40 (fun _ => 0), arI 80 (fun _ => 0), arI 10 (fun _ => 0), arI 10 (fun _ => 0), arI 10 (fun _ => 0), arI 10 (fun _ => 0), arI 10 (fun _ => 0), .inr (2, 10, fun _ => .int 0)]) (n' := B + 14) uL_alloc rfl ?_
  refine z_putF (pc := 106) (fs' := [.int 0, .int 0, .int 0, rfO Ω (B + 1), rfO Ω (B + 2), rfO Ω (B + 3), rfO Ω (B + 4), rfO Ω (B + 5), rfO Ω (B + 6), rfO Ω (B + 7), rfO Ω (B + 8), rfO Ω (B + 9), rfO Ω (B + 10), rfO Ω (B + 11), rfO Ω (B + 12), rfO Ω (B + 13), .null, .null, .null, .null, .null, .null, .null, .null, .null, .null, .null, .null, .null, .null]) C rfl dX11_init_106 zq_X11_46_10 (uL_0 _ _ _ _) (Nat.le_of_ble_eq_true rfl) rfl rfl rfl uL_set0 ?_
  refine z_aload_n (pc := 109) C dX11_init_109 rfl ?_
  refine z_bipush (pc := 110) (v := nI 10) C dX11_init_110 (by decide) ?_
  refine z_newa (pc := 112) (t := 0) (N := 10) C dX11_init_112 (by decide) rfl kw_38 (by decide) (Nat.le_of_ble_eq_true rfl) (Nat.le_of_ble_eq_true rfl) ?_
  refine z_heap (A' := uL A B [.inl (10, [.int 0, .int 0, .int 0, rfO Ω (B + 1), rfO Ω (B + 2), rfO Ω (B + 3), rfO Ω (B + 4), rfO Ω (B + 5), rfO Ω (B + 6), rfO Ω (B + 7), rfO Ω (B + 8), rfO Ω (B + 9), rfO Ω (B + 10), rfO Ω (B + 11), rfO Ω (B + 12), rfO Ω (B + 13), .null, .null, .null, .null, .null, .null, .null, .null, .null, .null, .null, .null, .null, .null]), arI 10 (fun _ => 0), arI 20 (fun _ => 0), arI 80 (fun _ => 0), arI 80 (fun _ => 0), arI 160 (fun _ => 0), arI 40 (fun _ => 0), arI 80 (fun _ => 0), arI 10 (fun _ => 0), arI 10 (fun _ => 0), arI 10 (fun _ => 0), arI 10 (fun _ => 0), arI 10 (fun _ => 0), .inr (2, 10, fun _ => .int 0), arI 10 (fun _ => 0)]) (n' := B + 15) uL_alloc rfl ?_
  refine z_putF (pc := 114) (fs' := [.int 0, .int 0, .int 0, rfO Ω (B + 1), rfO Ω (B + 2), rfO Ω (B + 3), rfO Ω (B + 4), rfO Ω (B + 5), rfO Ω (B + 6), rfO Ω (B + 7), rfO Ω (B + 8), rfO Ω (B + 9), rfO Ω (B + 10), rfO Ω (B + 11), rfO Ω (B + 12), rfO Ω (B + 13), rfO Ω (B + 14), .null, .null, .null, .null, .null, .null, .null, .null, .null, .null, .null, .null, .null]) C rfl dX11_init_114 zq_X11_50_10 (uL_0 _ _ _ _) (Nat.le_of_ble_eq_true rfl) rfl rfl rfl uL_set0 ?_
  refine z_aload_n (pc := 117) C dX11_init_117 rfl ?_
  refine z_sipush (pc := 118) (v := nI 560) C dX11_init_118 (by decide) ?_
  refine z_newa (pc := 121) (t := 0) (N := 560) C dX11_init_121 (by decide) rfl kw_38 (by decide) (Nat.le_of_ble_eq_true rfl) (Nat.le_of_ble_eq_true rfl) ?_
  refine z_heap (A' := uL A B [.inl (10, [.int 0, .int 0, .int 0, rfO Ω (B + 1), rfO Ω (B + 2), rfO Ω (B + 3), rfO Ω (B + 4), rfO Ω (B + 5), rfO Ω (B + 6), rfO Ω (B + 7), rfO Ω (B + 8), rfO Ω (B + 9), rfO Ω (B + 10), rfO Ω (B + 11), rfO Ω (B + 12), rfO Ω (B + 13), rfO Ω (B + 14), .null, .null, .null, .null, .null, .null, .null, .null, .null, .null, .null, .null, .null]), arI 10 (fun _ => 0), arI 20 (fun _ => 0), arI 80 (fun _ => 0), arI 80 (fun _ => 0), arI 160 (fun _ => 0), arI 40 (fun _ => 0), arI 80 (fun _ => 0), arI 10 (fun _ => 0), arI 10 (fun _ => 0), arI 10 (fun _ => 0), arI 10 (fun _ => 0), arI 10 (fun _ => 0), .inr (2, 10, fun _ => .int 0), arI 10 (fun _ => 0), arI 560 (fun _ => 0)]) (n' := B + 16) uL_alloc rfl ?_
  refine z_putF (pc := 123) (fs' := [.int 0, .int 0, .int 0, rfO Ω (B + 1), rfO Ω (B + 2), rfO Ω (B + 3), rfO Ω (B + 4), rfO Ω (B + 5), rfO Ω (B + 6), rfO Ω (B + 7), rfO Ω (B + 8), rfO Ω (B + 9), rfO Ω (B + 10), rfO Ω (B + 11), rfO Ω (B + 12), rfO Ω (B + 13), rfO Ω (B + 14), rfO Ω (B + 15), .null, .null, .null, .null, .null, .null, .null, .null, .null, .null, .null, .null]) C rfl dX11_init_123 zq_X11_53_10 (uL_0 _ _ _ _) (Nat.le_of_ble_eq_true rfl) rfl rfl rfl uL_set0 ?_
  refine z_aload_n (pc := 126) C dX11_init_126 rfl ?_
  refine z_bipush (pc := 127) (v := nI 70) C dX11_init_127 (by decide) ?_
  refine z_newa (pc := 129) (t := 0) (N := 70) C dX11_init_129 (by decide) rfl kw_38 (by decide) (Nat.le_of_ble_eq_true rfl) (Nat.le_of_ble_eq_true rfl) ?_
  refine z_heap (A' := uL A B [.inl (10, [.int 0, .int 0, .int 0, rfO Ω (B + 1), rfO Ω (B + 2), rfO Ω (B + 3), rfO Ω (B + 4), rfO Ω (B + 5), rfO Ω (B + 6), rfO Ω (B + 7), rfO Ω (B + 8), rfO Ω (B + 9), rfO Ω (B + 10), rfO Ω (B + 11), rfO Ω (B + 12), rfO Ω (B + 13), rfO Ω (B + 14), rfO Ω (B + 15), .null, .null, .null, .null, .null, .null, .null, .null, .null, .null, .null, .null]), arI 10 (fun _ => 0), arI 20 (fun _ => 0), arI 80 (fun _ => 0), arI 80 (fun _ => 0), arI 160 (fun _ => 0), arI 40 (fun _ => 0), arI 80 (fun _ => 0), arI 10 (fun _ => 0), arI 10 (fun _ => 0), arI 10 (fun _ => 0), arI 10 (fun _ => 0), arI 10 (fun _ => 0), .inr (2, 10, fun _ => .int 0), arI 10 (fun _ => 0), arI 560 (fun _ => 0), arI 70 (fun _ => 0)]) (n' := B + 17) uL_alloc rfl ?_
  refine z_putF (pc := 131) (fs' := [.int 0, .int 0, .int 0, rfO Ω (B + 1), rfO Ω (B + 2), rfO Ω (B + 3), rfO Ω (B + 4), rfO Ω (B + 5), rfO Ω (B + 6), rfO Ω (B + 7), rfO Ω (B + 8), rfO Ω (B + 9), rfO Ω (B + 10), rfO Ω (B + 11), rfO Ω (B + 12), rfO Ω (B + 13), rfO Ω (B + 14), rfO Ω (B + 15), rfO Ω (B + 16), .null, .null, .null, .null, .null, .null, .null, .null, .null, .null, .null]) C rfl dX11_init_131 zq_X11_56_10 (uL_0 _ _ _ _) (Nat.le_of_ble_eq_true rfl) rfl rfl rfl uL_set0 ?_
  refine z_aload_n (pc := 134) C dX11_init_134 rfl ?_
  refine z_bipush (pc := 135) (v := nI 10) C dX11_init_135 (by decide) ?_
  refine z_newa (pc := 137) (t := 0) (N := 10) C dX11_init_137 (by decide) rfl kw_38 (by decide) (Nat.le_of_ble_eq_true rfl) (Nat.le_of_ble_eq_true rfl) ?_
  refine z_heap (A' := uL A B [.inl (10, [.int 0, .int 0, .int 0, rfO Ω (B + 1), rfO Ω (B + 2), rfO Ω (B + 3), rfO Ω (B + 4), rfO Ω (B + 5), rfO Ω (B + 6), rfO Ω (B + 7), rfO Ω (B + 8), rfO Ω (B + 9), rfO Ω (B + 10), rfO Ω (B + 11), rfO Ω (B + 12), rfO Ω (B + 13), rfO Ω (B + 14), rfO Ω (B + 15), rfO Ω (B + 16), .null, .null, .null, .null, .null, .null, .null, .null, .null, .null, .null]), arI 10 (fun _ => 0), arI 20 (fun _ => 0), arI 80 (fun _ => 0), arI 80 (fun _ => 0), arI 160 (fun _ => 0), arI 40 (fun _ => 0), arI 80 (fun _ => 0), arI 10 (fun _ => 0), arI 10 (fun _ => 0), arI 10 (fun _ => 0), arI 10 (fun _ => 0), arI 10 (fun _ => 0), .inr (2, 10, fun _ => .int 0), arI 10 (fun _ => 0), arI 560 (fun _ => 0), arI 70 (fun _ => 0), arI 10 (fun _ => 0)]) (n' := B + 18) uL_alloc rfl ?_
  refine z_putF (pc := 139) (fs' := [.int 0, .int 0, .int 0, rfO Ω (B + 1), rfO Ω (B + 2), rfO Ω (B + 3), rfO Ω (B + 4), rfO Ω (B + 5), rfO Ω (B + 6), rfO Ω (B + 7), rfO Ω (B + 8), rfO Ω (B + 9), rfO Ω (B + 10), rfO Ω (B + 11), rfO Ω (B + 12), rfO Ω (B + 13), rfO Ω (B + 14), rfO Ω (B + 15), rfO Ω (B + 16), rfO Ω (B + 17), .null, .null, .null, .null, .null, .null, .null, .null, .null, .null]) C rfl dX11_init_139 zq_X11_59_10 (uL_0 _ _ _ _) (Nat.le_of_ble_eq_true rfl) rfl rfl rfl uL_set0 ?_
  refine z_aload_n (pc := 142) C dX11_init_142 rfl ?_
  refine z_sipush (pc := 143) (v := nI 1600) C dX11_init_143 (by decide) ?_
  refine z_newa (pc := 146) (t := 0) (N := 1600) C dX11_init_146 (by decide) rfl kw_38 (by decide) (Nat.le_of_ble_eq_true rfl) (Nat.le_of_ble_eq_true rfl) ?_
  refine z_heap (A' := uL A B [.inl (10, [.int 0, .int 0, .int 0, rfO Ω (B + 1), rfO Ω (B + 2), rfO Ω (B + 3), rfO Ω (B + 4), rfO Ω (B + 5), rfO Ω (B + 6), rfO Ω (B + 7), rfO Ω (B + 8), rfO Ω (B + 9), rfO Ω (B + 10), rfO Ω (B + 11), rfO Ω (B + 12), rfO Ω (B + 13), rfO Ω (B + 14), rfO Ω (B + 15), rfO Ω (B + 16), rfO Ω (B + 17), .null, .null, .null, .null, .null, .null, .null, .null, .null, .null]), arI 10 (fun _ => 0), arI 20 (fun _ => 0), arI 80 (fun _ => 0), arI 80 (fun _ => 0), arI 160 (fun _ => 0), arI 40 (fun _ => 0), arI 80 (fun _ => 0), arI 10 (fun _ => 0), arI 10 (fun _ => 0), arI 10 (fun _ => 0), arI 10 (fun _ => 0), arI 10 (fun _ => 0), .inr (2, 10, fun _ => .int 0), arI 10 (fun _ => 0), arI 560 (fun _ => 0), arI 70 (fun _ => 0), arI 10 (fun _ => 0), arI 1600 (fun _ => 0)]) (n' := B + 19) uL_alloc rfl ?_
  refine z_putF (pc := 148) (fs' := [.int 0, .int 0, .int 0, rfO Ω (B + 1), rfO Ω (B + 2), rfO Ω (B + 3), rfO Ω (B + 4), rfO Ω (B + 5), rfO Ω (B + 6), rfO Ω (B + 7), rfO Ω (B + 8), rfO Ω (B + 9), rfO Ω (B + 10), rfO Ω (B + 11), rfO Ω (B + 12), rfO Ω (B + 13), rfO Ω (B + 14), rfO Ω (B + 15), rfO Ω (B + 16), rfO Ω (B + 17), rfO Ω (B + 18), .null, .null, .null, .null, .null, .null, .null, .null, .null]) C rfl dX11_init_148 zq_X11_62_10 (uL_0 _ _ _ _) (Nat.le_of_ble_eq_true rfl) rfl rfl rfl uL_set0 ?_
  refine z_aload_n (pc := 151) C dX11_init_151 rfl ?_
  refine z_sipush (pc := 152) (v := nI 160) C dX11_init_152 (by decide) ?_
  refine z_newa (pc := 155) (t := 0) (N := 160) C dX11_init_155 (by decide) rfl kw_38 (by decide) (Nat.le_of_ble_eq_true rfl) (Nat.le_of_ble_eq_true rfl) ?_
  refine z_heap (A' := uL A B [.inl (10, [.int 0, .int 0, .int 0, rfO Ω (B + 1), rfO Ω (B + 2), rfO Ω (B + 3), rfO Ω (B + 4), rfO Ω (B + 5), rfO Ω (B + 6), rfO Ω (B + 7), rfO Ω (B + 8), rfO Ω (B + 9), rfO Ω (B + 10), rfO Ω (B + 11), rfO Ω (B + 12), rfO Ω (B + 13), rfO Ω (B + 14), rfO Ω (B + 15), rfO Ω (B + 16), rfO Ω (B + 17), rfO Ω (B + 18), .null, .null, .null, .null, .null, .null, .null, .null, .null]), arI 10 (fun _ => 0), arI 20 (fun _ => 0), arI 80 (fun _ => 0), arI 80 (fun _ => 0), arI 160 (fun _ => 0), arI 40 (fun _ => 0), arI 80 (fun _ => 0), arI 10 (fun _ => 0), arI 10 (fun _ => 0), arI 10 (fun _ => 0), arI 10 (fun _ => 0), arI 10 (fun _ => 0), .inr (2, 10, fun _ => .int 0), arI 10 (fun _ => 0), arI 560 (fun _ => 0), arI 70 (fun _ => 0), arI 10 (fun _ => 0), arI 1600 (fun _ => 0), arI 160 (fun _ => 0)]) (n' := B + 20) uL_alloc rfl ?_
  refine z_putF (pc := 157) (fs' := [.int 0, .int 0, .int 0, rfO Ω (B + 1), rfO Ω (B + 2), rfO Ω (B + 3), rfO Ω (B + 4), rfO Ω (B + 5), rfO Ω (B + 6), rfO Ω (B + 7), rfO Ω (B + 8), rfO Ω (B + 9), rfO Ω (B + 10), rfO Ω (B + 11), rfO Ω (B + 12), rfO Ω (B + 13), rfO Ω (B + 14), rfO Ω (B + 15), rfO Ω (B + 16), rfO Ω (B + 17), rfO Ω (B + 18), rfO Ω (B + 19), .null, .null, .null, .null, .null, .null, .null, .null]) C rfl dX11_init_157 zq_X11_65_10 (uL_0 _ _ _ _) (Nat.le_of_ble_eq_true rfl) rfl rfl rfl uL_set0 ?_
  refine z_aload_n (pc := 160) C dX11_init_160 rfl ?_
  refine z_iconst (pc := 161) (v := nI 2) C dX11_init_161 (by decide) ?_
  refine z_newa (pc := 162) (t := 1) (N := 2) C dX11_init_162 (by decide) rfl kw_680 (by decide) (Nat.le_of_ble_eq_true rfl) (Nat.le_of_ble_eq_true rfl) ?_
  refine z_heap (A' := uL A B [.inl (10, [.int 0, .int 0, .int 0, rfO Ω (B + 1), rfO Ω (B + 2), rfO Ω (B + 3), rfO Ω (B + 4), rfO Ω (B + 5), rfO Ω (B + 6), rfO Ω (B + 7), rfO Ω (B + 8), rfO Ω (B + 9), rfO Ω (B + 10), rfO Ω (B + 11), rfO Ω (B + 12), rfO Ω (B + 13), rfO Ω (B + 14), rfO Ω (B + 15), rfO Ω (B + 16), rfO Ω (B + 17), rfO Ω (B + 18), rfO Ω (B + 19), .null, .null, .null, .null, .null, .null, .null, .null]), arI 10 (fun _ => 0), arI 20 (fun _ => 0), arI 80 (fun _ => 0), arI 80 (fun _ => 0), arI 160 (fun _ => 0), arI 40 (fun _ => 0), arI 80 (fun _ => 0), arI 10 (fun _ => 0), arI 10 (fun _ => 0), arI 10 (fun _ => 0), arI 10 (fun _ => 0), arI 10 (fun _ => 0), .inr (2, 10, fun _ => .int 0), arI 10 (fun _ => 0), arI 560 (fun _ => 0), arI 70 (fun _ => 0), arI 10 (fun _ => 0), arI 1600 (fun _ => 0), arI 160 (fun _ => 0), .inr (1, 2, fun _ => .long 0)]) (n' := B + 21) uL_alloc rfl ?_
  refine z_putF (pc := 164) (fs' := [.int 0, .int 0, .int 0, rfO Ω (B + 1), rfO Ω (B + 2), rfO Ω (B + 3), rfO Ω (B + 4), rfO Ω (B + 5), rfO Ω (B + 6), rfO Ω (B + 7), rfO Ω (B + 8), rfO Ω (B + 9), rfO Ω (B + 10), rfO Ω (B + 11), rfO Ω (B + 12), rfO Ω (B + 13), rfO Ω (B + 14), rfO Ω (B + 15), rfO Ω (B + 16), rfO Ω (B + 17), rfO Ω (B + 18), rfO Ω (B + 19), rfO Ω (B + 20), .null, .null, .null, .null, .null, .null, .null]) C rfl dX11_init_164 zq_X11_68_10 (uL_0 _ _ _ _) (Nat.le_of_ble_eq_true rfl) rfl rfl rfl uL_set0 ?_
  refine z_aload_n (pc := 167) C dX11_init_167 rfl ?_
  refine z_bipush (pc := 168) (v := nI 80) C dX11_init_168 (by decide) ?_
  refine z_newa (pc := 170) (t := 1) (N := 80) C dX11_init_170 (by decide) rfl kw_680 (by decide) (Nat.le_of_ble_eq_true rfl) (Nat.le_of_ble_eq_true rfl) ?_
  refine z_heap (A' := uL A B [.inl (10, [.int 0, .int 0, .int 0, rfO Ω (B + 1), rfO Ω (B + 2), rfO Ω (B + 3), rfO Ω (B + 4), rfO Ω (B + 5), rfO Ω (B + 6), rfO Ω (B + 7), rfO Ω (B + 8), rfO Ω (B + 9), rfO Ω (B + 10), rfO Ω (B + 11), rfO Ω (B + 12), rfO Ω (B + 13), rfO Ω (B + 14), rfO Ω (B + 15), rfO Ω (B + 16), rfO Ω (B + 17), rfO Ω (B + 18), rfO Ω (B + 19), rfO Ω (B + 20), .null, .null, .null, .null, .null, .null, .null]), arI 10 (fun _ => 0), arI 20 (fun _ => 0), arI 80 (fun _ => 0), arI 80 (fun _ => 0), arI 160 (fun _ => 0), arI 40 (fun _ => 0), arI 80 (fun _ => 0), arI 10 (fun _ => 0), arI 10 (fun _ => 0), arI 10 (fun _ => 0), arI 10 (fun _ => 0), arI 10 (fun _ => 0), .inr (2, 10, fun _ => .int 0), arI 10 (fun _ => 0), arI 560 (fun _ => 0), arI 70 (fun _ => 0), arI 10 (fun _ => 0), arI 1600 (fun _ => 0), arI 160 (fun _ => 0), .inr (1, 2, fun _ => .long 0), .inr (1, 80, fun _ => .long 0)]) (n' := B + 22) uL_alloc rfl ?_
  refine z_putF (pc := 172) (fs' := [.int 0, .int 0, .int 0, rfO Ω (B + 1), rfO Ω (B + 2), rfO Ω (B + 3), rfO Ω (B + 4), rfO Ω (B + 5), rfO Ω (B + 6), rfO Ω (B + 7), rfO Ω (B + 8), rfO Ω (B + 9), rfO Ω (B + 10), rfO Ω (B + 11), rfO Ω (B + 12), rfO Ω (B + 13), rfO Ω (B + 14), rfO Ω (B + 15), rfO Ω (B + 16), rfO Ω (B + 17), rfO Ω (B + 18), rfO Ω (B + 19), rfO Ω (B + 20), rfO Ω (B + 21), .null, .null, .null, .null, .null, .null]) C rfl dX11_init_172 zq_X11_72_10 (uL_0 _ _ _ _) (Nat.le_of_ble_eq_true rfl) rfl rfl rfl uL_set0 ?_
  refine z_aload_n (pc := 175) C dX11_init_175 rfl ?_
  refine z_sipush (pc := 176) (v := nI 800) C dX11_init_176 (by decide) ?_
  refine z_newa (pc := 179) (t := 1) (N := 800) C dX11_init_179 (by decide) rfl kw_680 (by decide) (Nat.le_of_ble_eq_true rfl) (Nat.le_of_ble_eq_true rfl) ?_
  refine z_heap (A' := uL A B [.inl (10, [.int 0, .int 0, .int 0, rfO Ω (B + 1), rfO Ω (B + 2), rfO Ω (B + 3), rfO Ω (B + 4), rfO Ω (B + 5), rfO Ω (B + 6), rfO Ω (B + 7), rfO Ω (B + 8), rfO Ω (B + 9), rfO Ω (B + 10), rfO Ω (B + 11), rfO Ω (B + 12), rfO Ω (B + 13), rfO Ω (B + 14), rfO Ω (B + 15), rfO Ω (B + 16), rfO Ω (B + 17), rfO Ω (B + 18), rfO Ω (B + 19), rfO Ω (B + 20), rfO Ω (B + 21), .null, .null, .null, .null, .null, .null]), arI 10 (fun _ => 0), arI 20 (fun _ => 0), arI 80 (fun _ => 0), arI 80 (fun _ => 0), arI 160 (fun _ => 0), arI 40 (fun _ => 0), arI 80 (fun _ => 0), arI 10 (fun _ => 0), arI 10 (fun _ => 0), arI 10 (fun _ => 0), arI 10 (fun _ => 0), arI 10 (fun _ => 0), .inr (2, 10, fun _ => .int 0), arI 10 (fun _ => 0), arI 560 (fun _ => 0), arI 70 (fun _ => 0), arI 10 (fun _ => 0), arI 1600 (fun _ => 0), arI 160 (fun _ => 0), .inr (1, 2, fun _ => .long 0), .inr (1, 80, fun _ => .long 0), .inr (1, 800, fun _ => .long 0)]) (n' := B + 23) uL_alloc rfl ?_
  refine z_putF (pc := 181) (fs' := [.int 0, .int 0, .int 0, rfO Ω (B + 1), rfO Ω (B + 2), rfO Ω (B + 3), rfO Ω (B + 4), rfO Ω (B + 5), rfO Ω (B + 6), rfO Ω (B + 7), rfO Ω (B + 8), rfO Ω (B + 9), rfO Ω (B + 10), rfO Ω (B + 11), rfO Ω (B + 12), rfO Ω (B + 13), rfO Ω (B + 14), rfO Ω (B + 15), rfO Ω (B + 16), rfO Ω (B + 17), rfO Ω (B + 18), rfO Ω (B + 19), rfO Ω (B + 20), rfO Ω (B + 21), rfO Ω (B + 22), .null, .null, .null, .null, .null]) C rfl dX11_init_181 zq_X11_75_10 (uL_0 _ _ _ _) (Nat.le_of_ble_eq_true rfl) rfl rfl rfl uL_set0 ?_
  refine z_aload_n (pc := 184) C dX11_init_184 rfl ?_
  refine z_bipush (pc := 185) (v := nI 30) C dX11_init_185 (by decide) ?_
  refine z_newa (pc := 187) (t := 0) (N := 30) C dX11_init_187 (by decide) rfl kw_38 (by decide) (Nat.le_of_ble_eq_true rfl) (Nat.le_of_ble_eq_true rfl) ?_
  refine z_heap (A' := uL A B [.inl (10, [.int 0, .int 0, .int 0, rfO Ω (B + 1), rfO Ω (B + 2), rfO Ω (B + 3), rfO Ω (B + 4), rfO Ω (B + 5), rfO Ω (B + 6), rfO Ω (B + 7), rfO Ω (B + 8), rfO Ω (B + 9), rfO Ω (B + 10), rfO Ω (B + 11), rfO Ω (B + 12), rfO Ω (B + 13), rfO Ω (B + 14), rfO Ω (B + 15), rfO Ω (B + 16), rfO Ω (B + 17), rfO Ω (B + 18), rfO Ω (B + 19), rfO Ω (B + 20), rfO Ω (B + 21), rfO Ω (B + 22), .null, .null, .null, .null, .null]), arI 10 (fun _ => 0), arI 20 (fun _ => 0), arI 80 (fun _ => 0), arI 80 (fun _ => 0), arI 160 (fun _ => 0), arI 40 (fun _ => 0), arI 80 (fun _ => 0), arI 10 (fun _ => 0), arI 10 (fun _ => 0), arI 10 (fun _ => 0), arI 10 (fun _ => 0), arI 10 (fun _ => 0), .inr (2, 10, fun _ => .int 0), arI 10 (fun _ => 0), arI 560 (fun _ => 0), arI 70 (fun _ => 0), arI 10 (fun _ => 0), arI 1600 (fun _ => 0), arI 160 (fun _ => 0), .inr (1, 2, fun _ => .long 0), .inr (1, 80, fun _ => .long 0), .inr (1, 800, fun _ => .long 0), arI 30 (fun _ => 0)]) (n' := B + 24) uL_alloc rfl ?_
  refine z_putF (pc := 189) (fs' := [.int 0, .int 0, .int 0, rfO Ω (B + 1), rfO Ω (B + 2), rfO Ω (B + 3), rfO Ω (B + 4), rfO Ω (B + 5), rfO Ω (B + 6), rfO Ω (B + 7), rfO Ω (B + 8), rfO Ω (B + 9), rfO Ω (B + 10), rfO Ω (B + 11), rfO Ω (B + 12), rfO Ω (B + 13), rfO Ω (B + 14), rfO Ω (B + 15), rfO Ω (B + 16), rfO Ω (B + 17), rfO Ω (B + 18), rfO Ω (B + 19), rfO Ω (B + 20), rfO Ω (B + 21), rfO Ω (B + 22), rfO Ω (B + 23), .null, .null, .null, .null]) C rfl dX11_init_189 zq_X11_78_10 (uL_0 _ _ _ _) (Nat.le_of_ble_eq_true rfl) rfl rfl rfl uL_set0 ?_
  refine z_aload_n (pc := 192) C dX11_init_192 rfl ?_
  refine z_bipush (pc := 193) (v := nI 30) C dX11_init_193 (by decide) ?_
  refine z_newa (pc := 195) (t := 0) (N := 30) C dX11_init_195 (by decide) rfl kw_38 (by decide) (Nat.le_of_ble_eq_true rfl) (Nat.le_of_ble_eq_true rfl) ?_
  refine z_heap (A' := uL A B [.inl (10, [.int 0, .int 0, .int 0, rfO Ω (B + 1), rfO Ω (B + 2), rfO Ω (B + 3), rfO Ω (B + 4), rfO Ω (B + 5), rfO Ω (B + 6), rfO Ω (B + 7), rfO Ω (B + 8), rfO Ω (B + 9), rfO Ω (B + 10), rfO Ω (B + 11), rfO Ω (B + 12), rfO Ω (B + 13), rfO Ω (B + 14), rfO Ω (B + 15), rfO Ω (B + 16), rfO Ω (B + 17), rfO Ω (B + 18), rfO Ω (B + 19), rfO Ω (B + 20), rfO Ω (B + 21), rfO Ω (B + 22), rfO Ω (B + 23), .null, .null, .null, .null]), arI 10 (fun _ => 0), arI 20 (fun _ => 0), arI 80 (fun _ => 0), arI 80 (fun _ => 0), arI 160 (fun _ => 0), arI 40 (fun _ => 0), arI 80 (fun _ => 0), arI 10 (fun _ => 0), arI 10 (fun _ => 0), arI 10 (fun _ => 0), arI 10 (fun _ => 0), arI 10 (fun _ => 0), .inr (2, 10, fun _ => .int 0), arI 10 (fun _ => 0), arI 560 (fun _ => 0), arI 70 (fun _ => 0), arI 10 (fun _ => 0), arI 1600 (fun _ => 0), arI 160 (fun _ => 0), .inr (1, 2, fun _ => .long 0), .inr (1, 80, fun _ => .long 0), .inr (1, 800, fun _ => .long 0), arI 30 (fun _ => 0), arI 30 (fun _ => 0)]) (n' := B + 25) uL_alloc rfl ?_
  refine z_putF (pc := 197) (fs' := [.int 0, .int 0, .int 0, rfO Ω (B + 1), rfO Ω (B + 2), rfO Ω (B + 3), rfO Ω (B + 4), rfO Ω (B + 5), rfO Ω (B + 6), rfO Ω (B + 7), rfO Ω (B + 8), rfO Ω (B + 9), rfO Ω (B + 10), rfO Ω (B + 11), rfO Ω (B + 12), rfO Ω (B + 13), rfO Ω (B + 14), rfO Ω (B + 15), rfO Ω (B + 16), rfO Ω (B + 17), rfO Ω (B + 18), rfO Ω (B + 19), rfO Ω (B + 20), rfO Ω (B + 21), rfO Ω (B + 22), rfO Ω (B + 23), rfO Ω (B + 24), .null, .null, .null]) C rfl dX11_init_197 zq_X11_81_10 (uL_0 _ _ _ _) (Nat.le_of_ble_eq_true rfl) rfl rfl rfl uL_set0 ?_
  refine z_aload_n (pc := 200) C dX11_init_200 rfl ?_
  refine z_bipush (pc := 201) (v := nI 10) C dX11_init_201 (by decide) ?_
  refine z_newa (pc := 203) (t := 0) (N := 10) C dX11_init_203 (by decide) rfl kw_38 (by decide) (Nat.le_of_ble_eq_true rfl) (Nat.le_of_ble_eq_true rfl) ?_
  refine z_heap (A' := uL A B [.inl (10, [.int 0, .int 0, .int 0, rfO Ω (B + 1), rfO Ω (B + 2), rfO Ω (B + 3), rfO Ω (B + 4), rfO Ω (B + 5), rfO Ω (B + 6), rfO Ω (B + 7), rfO Ω (B + 8), rfO Ω (B + 9), rfO Ω (B + 10), rfO Ω (B + 11), rfO Ω (B + 12), rfO Ω (B + 13), rfO Ω (B + 14), rfO Ω (B + 15), rfO Ω (B + 16), rfO Ω (B + 17), rfO Ω (B + 18), rfO Ω (B + 19), rfO Ω (B + 20), rfO Ω (B + 21), rfO Ω (B + 22), rfO Ω (B + 23), rfO Ω (B + 24), .null, .null, .null]), arI 10 (fun _ => 0), arI 20 (fun _ => 0), arI 80 (fun _ => 0), arI 80 (fun _ => 0), arI 160 (fun _ => 0), arI 40 (fun _ => 0), arI 80 (fun _ => 0), arI 10 (fun _ => 0), arI 10 (fun _ => 0), arI 10 (fun _ => 0), arI 10 (fun _ => 0), arI 10 (fun _ => 0), .inr (2, 10, fun _ => .int 0), arI 10 (fun _ => 0), arI 560 (fun _ => 0), arI 70 (fun _ => 0), arI 10 (fun _ => 0), arI 1600 (fun _ => 0), arI 160 (fun _ => 0), .inr (1, 2, fun _ => .long 0), .inr (1, 80, fun _ => .long 0), .inr (1, 800, fun _ => .long 0), arI 30 (fun _ => 0), arI 30 (fun _ => 0), arI 10 (fun _ => 0)]) (n' := B + 26) uL_alloc rfl ?_
  refine z_putF (pc := 205) (fs' := [.int 0, .int 0, .int 0, rfO Ω (B + 1), rfO Ω (B + 2), rfO Ω (B + 3), rfO Ω (B + 4), rfO Ω (B + 5), rfO Ω (B + 6), rfO Ω (B + 7), rfO Ω (B + 8), rfO Ω (B + 9), rfO Ω (B + 10), rfO Ω (B + 11), rfO Ω (B + 12), rfO Ω (B + 13), rfO Ω (B + 14), rfO Ω (B + 15), rfO Ω (B + 16), rfO Ω (B + 17), rfO Ω (B + 18), rfO Ω (B + 19), rfO Ω (B + 20), rfO Ω (B + 21), rfO Ω (B + 22), rfO Ω (B + 23), rfO Ω (B + 24), rfO Ω (B + 25), .null, .null]) C rfl dX11_init_205 zq_X11_84_10 (uL_0 _ _ _ _) (Nat.le_of_ble_eq_true rfl) rfl rfl rfl uL_set0 ?_
  refine z_aload_n (pc := 208) C dX11_init_208 rfl ?_
  refine z_bipush (pc := 209) (v := nI 10) C dX11_init_209 (by decide) ?_
  refine z_newa (pc := 211) (t := 0) (N := 10) C dX11_init_211 (by decide) rfl kw_38 (by decide) (Nat.le_of_ble_eq_true rfl) (Nat.le_of_ble_eq_true rfl) ?_
  refine z_heap (A' := uL A B [.inl (10, [.int 0, .int 0, .int 0, rfO Ω (B + 1), rfO Ω (B + 2), rfO Ω (B + 3), rfO Ω (B + 4), rfO Ω (B + 5), rfO Ω (B + 6), rfO Ω (B + 7), rfO Ω (B + 8), rfO Ω (B + 9), rfO Ω (B + 10), rfO Ω (B + 11), rfO Ω (B + 12), rfO Ω (B + 13), rfO Ω (B + 14), rfO Ω (B + 15), rfO Ω (B + 16), rfO Ω (B + 17), rfO Ω (B + 18), rfO Ω (B + 19), rfO Ω (B + 20), rfO Ω (B + 21), rfO Ω (B + 22), rfO Ω (B + 23), rfO Ω (B + 24), rfO Ω (B + 25), .null, .null]), arI 10 (fun _ => 0), arI 20 (fun _ => 0), arI 80 (fun _ => 0), arI 80 (fun _ => 0), arI 160 (fun _ => 0), arI 40 (fun _ => 0), arI 80 (fun _ => 0), arI 10 (fun _ => 0), arI 10 (fun _ => 0), arI 10 (fun _ => 0), arI 10 (fun _ => 0), arI 10 (fun _ => 0), .inr (2, 10, fun _ => .int 0), arI 10 (fun _ => 0), arI 560 (fun _ => 0), arI 70 (fun _ => 0), arI 10 (fun _ => 0), arI 1600 (fun _ => 0), arI 160 (fun _ => 0), .inr (1, 2, fun _ => .long 0), .inr (1, 80, fun _ => .long 0), .inr (1, 800, fun _ => .long 0), arI 30 (fun _ => 0), arI 30 (fun _ => 0), arI 10 (fun _ => 0), arI 10 (fun _ => 0)]) (n' := B + 27) uL_alloc rfl ?_
  refine z_putF (pc := 213) (fs' := [.int 0, .int 0, .int 0, rfO Ω (B + 1), rfO Ω (B + 2), rfO Ω (B + 3), rfO Ω (B + 4), rfO Ω (B + 5), rfO Ω (B + 6), rfO Ω (B + 7), rfO Ω (B + 8), rfO Ω (B + 9), rfO Ω (B + 10), rfO Ω (B + 11), rfO Ω (B + 12), rfO Ω (B + 13), rfO Ω (B + 14), rfO Ω (B + 15), rfO Ω (B + 16), rfO Ω (B + 17), rfO Ω (B + 18), rfO Ω (B + 19), rfO Ω (B + 20), rfO Ω (B + 21), rfO Ω (B + 22), rfO Ω (B + 23), rfO Ω (B + 24), rfO Ω (B + 25), rfO Ω (B + 26), .null]) C rfl dX11_init_213 zq_X11_87_10 (uL_0 _ _ _ _) (Nat.le_of_ble_eq_true rfl) rfl rfl rfl uL_set0 ?_
  refine z_aload_n (pc := 216) C dX11_init_216 rfl ?_
  refine z_bipush (pc := 217) (v := nI 10) C dX11_init_217 (by decide) ?_
  refine z_newa (pc := 219) (t := 0) (N := 10) C dX11_init_219 (by decide) rfl kw_38 (by decide) (Nat.le_of_ble_eq_true rfl) (Nat.le_of_ble_eq_true rfl) ?_
  refine z_heap (A' := uL A B [.inl (10, [.int 0, .int 0, .int 0, rfO Ω (B + 1), rfO Ω (B + 2), rfO Ω (B + 3), rfO Ω (B + 4), rfO Ω (B + 5), rfO Ω (B + 6), rfO Ω (B + 7), rfO Ω (B + 8), rfO Ω (B + 9), rfO Ω (B + 10), rfO Ω (B + 11), rfO Ω (B + 12), rfO Ω (B + 13), rfO Ω (B + 14), rfO Ω (B + 15), rfO Ω (B + 16), rfO Ω (B + 17), rfO Ω (B + 18), rfO Ω (B + 19), rfO Ω (B + 20), rfO Ω (B + 21), rfO Ω (B + 22), rfO Ω (B + 23), rfO Ω (B + 24), rfO Ω (B + 25), rfO Ω (B + 26), .null]), arI 10 (fun _ => 0), arI 20 (fun _ => 0), arI 80 (fun _ => 0), arI 80 (fun _ => 0), arI 160 (fun _ => 0), arI 40 (fun _ => 0), arI 80 (fun _ => 0), arI 10 (fun _ => 0), arI 10 (fun _ => 0), arI 10 (fun _ => 0), arI 10 (fun _ => 0), arI 10 (fun _ => 0), .inr (2, 10, fun _ => .int 0), arI 10 (fun _ => 0), arI 560 (fun _ => 0), arI 70 (fun _ => 0), arI 10 (fun _ => 0), arI 1600 (fun _ => 0), arI 160 (fun _ => 0), .inr (1, 2, fun _ => .long 0), .inr (1, 80, fun _ => .long 0), .inr (1, 800, fun _ => .long 0), arI 30 (fun _ => 0), arI 30 (fun _ => 0), arI 10 (fun _ => 0), arI 10 (fun _ => 0), arI 10 (fun _ => 0)]) (n' := B + 28) uL_alloc rfl ?_
  refine z_putF (pc := 221) (fs' := [.int 0, .int 0, .int 0, rfO Ω (B + 1), rfO Ω (B + 2), rfO Ω (B + 3), rfO Ω (B + 4), rfO Ω (B + 5), rfO Ω (B + 6), rfO Ω (B + 7), rfO Ω (B + 8), rfO Ω (B + 9), rfO Ω (B + 10), rfO Ω (B + 11), rfO Ω (B + 12), rfO Ω (B + 13), rfO Ω (B + 14), rfO Ω (B + 15), rfO Ω (B + 16), rfO Ω (B + 17), rfO Ω (B + 18), rfO Ω (B + 19), rfO Ω (B + 20), rfO Ω (B + 21), rfO Ω (B + 22), rfO Ω (B + 23), rfO Ω (B + 24), rfO Ω (B + 25), rfO Ω (B + 26), rfO Ω (B + 27)]) C rfl dX11_init_221 zq_X11_90_10 (uL_0 _ _ _ _) (Nat.le_of_ble_eq_true rfl) rfl rfl rfl uL_set0 ?_
  exact z_vret (pc := 224) C hQ dX11_init_224 rfl rfl rfl (Nat.le_of_ble_eq_true rfl) (Nat.le_of_ble_eq_true rfl)
abbrev rn_X10_newUnit : Room := { frames := 4, cells := 31, slots := 223, locals := 86 }
def uC0 (Ω : OmT) (B : Nat) : List Cel := [.inl (1, [.int (nI 0), rfO Ω (B + 1), rfO Ω (B + 2), rfO Ω (B + 3), rfO Ω (B + 4), rfO Ω (B + 6), .null, rfO Ω (B + 7), .int (nI 1), .int (-1), .int (nI 0), .int (nI 0)]), arI 8 (fun _ => 0), arI 8 (fun _ => 0), arI 1 (fun j => if j < 1 then -1 else 0), .inr (4, 1, fun j => rfO Ω (B + 4 + 1 + j)), arI 8 (fun _ => 0), arI 8 (fun j => if j < 8 then nI 0 else 0), arI 2 (fun _ => 0)]
set_option maxHeartbeats 4000000 in
set_option maxRecDepth 100000 in
theorem ct_X10_newUnit_0 (l : Launch) (Ω : OmT) (A : AHp) (B : Nat) (hA : ∀ x, B ≤ x → A x = none) : ZM l Ω yX10_newUnit cX10_newUnit 1 (some (.object "GrindWorks$Unit")) rn_X10_newUnit [.int (nI 0)] A B (some (rfO Ω B)) (uL A B (uC0 Ω B)) (B + 8) := by
  refine ZM_of (by decide) (Nat.le_of_ble_eq_true rfl) (fun E hE C hQ => ?_)
  refine z_iload_n (pc := 0) C dX10_newUnit_0 rfl ?_
  refine z_tabInN (pc := 1) (a := 0) (tgt := 44) C dX10_newUnit_1 (by decide) (by decide) rfl (by decide) (by decide) ?_
  refine z_new (pc := 44) (ci := 1) (fs := [.int 0, .null, .null, .null, .null, .null, .null, .null, .int 0, .int 0, .int 0, .int 0]) C tyX1 dX10_newUnit_44 rfl tyX1_ok kw_54 kw_55 kw_5 (by decide +kernel) (Nat.le_of_ble_eq_true rfl) (Nat.le_of_ble_eq_true rfl) ?_
  refine z_heap (A' := uL A B [.inl (1, [.int 0, .null, .null, .null, .null, .null, .null, .null, .int 0, .int 0, .int 0, .int 0])]) (n' := B + 1) (uL_first hA) rfl ?_
  refine z_dup (pc := 47) C dX10_newUnit_47 rfl ?_
  refine z_callI (pc := 48) C dX10_newUnit_48 zy_X1_init rfl kw_56 kw_57 (ct_X1_init_0 l Ω A B) rfl rfl ⟨⟨by decide, by decide⟩, by decide, by decide⟩ (Nat.le_of_ble_eq_true rfl) ?_
  exact z_aret (pc := 51) C hQ rfl (Or.inl ⟨_, rfl⟩) (Or.inr ⟨_, rfl⟩) dX10_newUnit_51 rfl rfl rfl (Nat.le_of_ble_eq_true rfl) (Nat.le_of_ble_eq_true rfl)
def uC1 (Ω : OmT) (B : Nat) : List Cel := [.inl (2, [.int (nI 1), rfO Ω (B + 1), rfO Ω (B + 2), rfO Ω (B + 3), rfO Ω (B + 4), rfO Ω (B + 6), rfO Ω (B + 7)]), arI 8 (fun _ => 0), arI 8 (fun _ => 0), arI 1 (fun j => if j < 1 then -1 else 0), .inr (4, 1, fun j => rfO Ω (B + 4 + 1 + j)), arI 8 (fun _ => 0), arI 0 (fun j => if j < 0 then nI 0 else 0), .inl (7, [rfO Ω (B + 8), rfO Ω (B + 9)]), arI 2 (fun _ => 0), arI 2 (fun j => if j < 2 then nI 1 else 0)]
set_option maxHeartbeats 4000000 in
set_option maxRecDepth 100000 in
theorem ct_X10_newUnit_1 (l : Launch) (Ω : OmT) (A : AHp) (B : Nat) (hA : ∀ x, B ≤ x → A x = none) : ZM l Ω yX10_newUnit cX10_newUnit 1 (some (.object "GrindWorks$Unit")) rn_X10_newUnit [.int (nI 1)] A B (some (rfO Ω B)) (uL A B (uC1 Ω B)) (B + 10) := by
  refine ZM_of (by decide) (Nat.le_of_ble_eq_true rfl) (fun E hE C hQ => ?_)
  refine z_iload_n (pc := 0) C dX10_newUnit_0 rfl ?_
  refine z_tabInN (pc := 1) (a := 1) (tgt := 52) C dX10_newUnit_1 (by decide) (by decide) rfl (by decide) (by decide) ?_
  refine z_new (pc := 52) (ci := 2) (fs := [.int 0, .null, .null, .null, .null, .null, .null]) C tyX2 dX10_newUnit_52 rfl tyX2_ok kw_151 kw_152 kw_9 (by decide +kernel) (Nat.le_of_ble_eq_true rfl) (Nat.le_of_ble_eq_true rfl) ?_
  refine z_heap (A' := uL A B [.inl (2, [.int 0, .null, .null, .null, .null, .null, .null])]) (n' := B + 1) (uL_first hA) rfl ?_
  refine z_dup (pc := 55) C dX10_newUnit_55 rfl ?_
  refine z_callI (pc := 56) C dX10_newUnit_56 zy_X2_init rfl kw_153 kw_154 (ct_X2_init_1 l Ω A B) rfl rfl ⟨⟨by decide, by decide⟩, by decide, by decide⟩ (Nat.le_of_ble_eq_true rfl) ?_
  exact z_aret (pc := 59) C hQ rfl (Or.inl ⟨_, rfl⟩) (Or.inr ⟨_, rfl⟩) dX10_newUnit_59 rfl rfl rfl (Nat.le_of_ble_eq_true rfl) (Nat.le_of_ble_eq_true rfl)
def uC2 (Ω : OmT) (B : Nat) : List Cel := [.inl (4, [.int (nI 2), rfO Ω (B + 1), rfO Ω (B + 2), rfO Ω (B + 3), rfO Ω (B + 4), rfO Ω (B + 6), rfO Ω (B + 7)]), arI 8 (fun _ => 0), arI 8 (fun _ => 0), arI 1 (fun j => if j < 1 then -1 else 0), .inr (4, 1, fun j => rfO Ω (B + 4 + 1 + j)), arI 8 (fun _ => 0), arI 16 (upI (upI (upI (upI (fun j => if j < 16 then nI 0 else 0) 0 (nI 10)) 5 (nI 10)) 10 (nI 10)) 15 (nI 10)), .inl (7, [rfO Ω (B + 8), rfO Ω (B + 9)]), arI 2 (fun _ => 0), arI 2 (fun j => if j < 2 then nI 1 else 0)]
set_option maxHeartbeats 4000000 in
set_option maxRecDepth 100000 in
theorem ct_X10_newUnit_2 (l : Launch) (Ω : OmT) (A : AHp) (B : Nat) (hA : ∀ x, B ≤ x → A x = none) : ZM l Ω yX10_newUnit cX10_newUnit 1 (some (.object "GrindWorks$Unit")) rn_X10_newUnit [.int (nI 2)] A B (some (rfO Ω B)) (uL A B (uC2 Ω B)) (B + 10) := by
  refine ZM_of (by decide) (Nat.le_of_ble_eq_true rfl) (fun E hE C hQ => ?_)
  refine z_iload_n (pc := 0) C dX10_newUnit_0 rfl ?_
  refine z_tabInN (pc := 1) (a := 2) (tgt := 60) C dX10_newUnit_1 (by decide) (by decide) rfl (by decide) (by decide) ?_
  refine z_new (pc := 60) (ci := 4) (fs := [.int 0, .null, .null, .null, .null, .null, .null]) C tyX4 dX10_newUnit_60 rfl tyX4_ok kw_164 kw_165 kw_10 (by decide +kernel) (Nat.le_of_ble_eq_true rfl) (Nat.le_of_ble_eq_true rfl) ?_
  refine z_heap (A' := uL A B [.inl (4, [.int 0, .null, .null, .null, .null, .null, .null])]) (n' := B + 1) (uL_first hA) rfl ?_
  refine z_dup (pc := 63) C dX10_newUnit_63 rfl ?_
  refine z_callI (pc := 64) C dX10_newUnit_64 zy_X4_init rfl kw_166 kw_167 (ct_X4_init_2 l Ω A B) rfl rfl ⟨⟨by decide, by decide⟩, by decide, by decide⟩ (Nat.le_of_ble_eq_true rfl) ?_
  exact z_aret (pc := 67) C hQ rfl (Or.inl ⟨_, rfl⟩) (Or.inr ⟨_, rfl⟩) dX10_newUnit_67 rfl rfl rfl (Nat.le_of_ble_eq_true rfl) (Nat.le_of_ble_eq_true rfl)
def uC3 (Ω : OmT) (B : Nat) : List Cel := [.inl (5, [.int (nI 3), rfO Ω (B + 1), rfO Ω (B + 2), rfO Ω (B + 3), rfO Ω (B + 4), rfO Ω (B + 7), rfO Ω (B + 8), rfO Ω (B + 11)]), arI 8 (fun _ => 0), arI 8 (fun _ => 0), arI 2 (fun j => if j < 2 then -1 else 0), .inr (4, 2, fun j => rfO Ω (B + 4 + 1 + j)), arI 8 (fun _ => 0), arI 8 (fun _ => 0), arI 4 (fun j => if j < 4 then nI 5 else 0), .inl (7, [rfO Ω (B + 9), rfO Ω (B + 10)]), arI 3 (fun _ => 0), arI 3 (fun j => if j < 3 then nI 1 else 0), arI 8 (fun _ => 0)]
set_option maxHeartbeats 4000000 in
set_option maxRecDepth 100000 in
theorem ct_X10_newUnit_3 (l : Launch) (Ω : OmT) (A : AHp) (B : Nat) (hA : ∀ x, B ≤ x → A x = none) : ZM l Ω yX10_newUnit cX10_newUnit 1 (some (.object "GrindWorks$Unit")) rn_X10_newUnit [.int (nI 3)] A B (some (rfO Ω B)) (uL A B (uC3 Ω B)) (B + 12) := by
  refine ZM_of (by decide) (Nat.le_of_ble_eq_true rfl) (fun E hE C hQ => ?_)
  refine z_iload_n (pc := 0) C dX10_newUnit_0 rfl ?_
  refine z_tabInN (pc := 1) (a := 3) (tgt := 68) C dX10_newUnit_1 (by decide) (by decide) rfl (by decide) (by decide) ?_
  refine z_new (pc := 68) (ci := 5) (fs := [.int 0, .null, .null, .null, .null, .null, .null, .null]) C tyX5 dX10_newUnit_68 rfl tyX5_ok kw_177 kw_178 kw_11 (by decide +kernel) (Nat.le_of_ble_eq_true rfl) (Nat.le_of_ble_eq_true rfl) ?_
  refine z_heap (A' := uL A B [.inl (5, [.int 0, .null, .null, .null, .null, .null, .null, .null])]) (n' := B + 1) (uL_first hA) rfl ?_
  refine z_dup (pc := 71) C dX10_newUnit_71 rfl ?_
  refine z_iconst (pc := 72) (v := nI 3) C dX10_newUnit_72 (by decide) ?_
  refine z_callI (pc := 73) C dX10_newUnit_73 zy_X5_init rfl kw_179 kw_180 (ct_X5_init_3 l Ω A B) rfl rfl ⟨⟨by decide, by decide⟩, by decide, by decide⟩ (Nat.le_of_ble_eq_true rfl) ?_
  exact z_aret (pc := 76) C hQ rfl (Or.inl ⟨_, rfl⟩) (Or.inr ⟨_, rfl⟩) dX10_newUnit_76 rfl rfl rfl (Nat.le_of_ble_eq_true rfl) (Nat.le_of_ble_eq_true rfl)
def uC4 (Ω : OmT) (B : Nat) : List Cel := [.inl (5, [.int (nI 4), rfO Ω (B + 1), rfO Ω (B + 2), rfO Ω (B + 3), rfO Ω (B + 4), rfO Ω (B + 7), rfO Ω (B + 8), rfO Ω (B + 11)]), arI 8 (fun _ => 0), arI 8 (fun _ => 0), arI 2 (fun j => if j < 2 then -1 else 0), .inr (4, 2, fun j => rfO Ω (B + 4 + 1 + j)), arI 8 (fun _ => 0), arI 8 (fun _ => 0), arI 2 (fun j => if j < 2 then nI 5 else 0), .inl (7, [rfO Ω (B + 9), rfO Ω (B + 10)]), arI 3 (fun _ => 0), arI 3 (fun j => if j < 3 then nI 1 else 0), arI 8 (fun _ => 0)]
set_option maxHeartbeats 4000000 in
set_option maxRecDepth 100000 in
theorem ct_X10_newUnit_4 (l : Launch) (Ω : OmT) (A : AHp) (B : Nat) (hA : ∀ x, B ≤ x → A x = none) : ZM l Ω yX10_newUnit cX10_newUnit 1 (some (.object "GrindWorks$Unit")) rn_X10_newUnit [.int (nI 4)] A B (some (rfO Ω B)) (uL A B (uC4 Ω B)) (B + 12) := by
  refine ZM_of (by decide) (Nat.le_of_ble_eq_true rfl) (fun E hE C hQ => ?_)
  refine z_iload_n (pc := 0) C dX10_newUnit_0 rfl ?_
  refine z_tabInN (pc := 1) (a := 4) (tgt := 77) C dX10_newUnit_1 (by decide) (by decide) rfl (by decide) (by decide) ?_
  refine z_new (pc := 77) (ci := 5) (fs := [.int 0, .null, .null, .null, .null, .null, .null, .null]) C tyX5 dX10_newUnit_77 rfl tyX5_ok kw_177 kw_178 kw_11 (by decide +kernel) (Nat.le_of_ble_eq_true rfl) (Nat.le_of_ble_eq_true rfl) ?_
  refine z_heap (A' := uL A B [.inl (5, [.int 0, .null, .null, .null, .null, .null, .null, .null])]) (n' := B + 1) (uL_first hA) rfl ?_
  refine z_dup (pc := 80) C dX10_newUnit_80 rfl ?_
  refine z_iconst (pc := 81) (v := nI 4) C dX10_newUnit_81 (by decide) ?_
  refine z_callI (pc := 82) C dX10_newUnit_82 zy_X5_init rfl kw_179 kw_180 (ct_X5_init_4 l Ω A B) rfl rfl ⟨⟨by decide, by decide⟩, by decide, by decide⟩ (Nat.le_of_ble_eq_true rfl) ?_
  exact z_aret (pc := 85) C hQ rfl (Or.inl ⟨_, rfl⟩) (Or.inr ⟨_, rfl⟩) dX10_newUnit_85 rfl rfl rfl (Nat.le_of_ble_eq_true rfl) (Nat.le_of_ble_eq_true rfl)
def uC5 (Ω : OmT) (B : Nat) : List Cel := [.inl (8, [.int (nI 5), rfO Ω (B + 1), rfO Ω (B + 2), rfO Ω (B + 3), rfO Ω (B + 4), rfO Ω (B + 6), rfO Ω (B + 7), rfO Ω (B + 10), .int (nI 0)]), arI 8 (fun _ => 0), arI 8 (fun _ => 0), arI 1 (fun j => if j < 1 then -1 else 0), .inr (4, 1, fun j => rfO Ω (B + 4 + 1 + j)), arI 8 (fun _ => 0), arI 1 (fun j => if j < 1 then nI 1 else 0), .inl (7, [rfO Ω (B + 8), rfO Ω (B + 9)]), arI 2 (fun _ => 0), arI 2 (fun j => if j < 2 then nI 1 else 0), .inr (4, 6, fun j => rfO Ω (B + 10 + 1 + j)), arI 8 (fun _ => 0), arI 8 (fun _ => 0), arI 8 (fun _ => 0), arI 8 (fun _ => 0), arI 8 (fun _ => 0), arI 8 (fun _ => 0)]
set_option maxHeartbeats 4000000 in
set_option maxRecDepth 100000 in
theorem ct_X10_newUnit_5 (l : Launch) (Ω : OmT) (A : AHp) (B : Nat) (hA : ∀ x, B ≤ x → A x = none) : ZM l Ω yX10_newUnit cX10_newUnit 1 (some (.object "GrindWorks$Unit")) rn_X10_newUnit [.int (nI 5)] A B (some (rfO Ω B)) (uL A B (uC5 Ω B)) (B + 17) := by
  refine ZM_of (by decide) (Nat.le_of_ble_eq_true rfl) (fun E hE C hQ => ?_)
  refine z_iload_n (pc := 0) C dX10_newUnit_0 rfl ?_
  refine z_tabInN (pc := 1) (a := 5) (tgt := 86) C dX10_newUnit_1 (by decide) (by decide) rfl (by decide) (by decide) ?_
  refine z_new (pc := 86) (ci := 8) (fs := [.int 0, .null, .null, .null, .null, .null, .null, .null, .int 0]) C tyX8 dX10_newUnit_86 rfl tyX8_ok kw_192 kw_193 kw_12 (by decide +kernel) (Nat.le_of_ble_eq_true rfl) (Nat.le_of_ble_eq_true rfl) ?_
  refine z_heap (A' := uL A B [.inl (8, [.int 0, .null, .null, .null, .null, .null, .null, .null, .int 0])]) (n' := B + 1) (uL_first hA) rfl ?_
  refine z_dup (pc := 89) C dX10_newUnit_89 rfl ?_
  refine z_callI (pc := 90) C dX10_newUnit_90 zy_X8_init rfl kw_194 kw_195 (ct_X8_init_5 l Ω A B) rfl rfl ⟨⟨by decide, by decide⟩, by decide, by decide⟩ (Nat.le_of_ble_eq_true rfl) ?_
  exact z_aret (pc := 93) C hQ rfl (Or.inl ⟨_, rfl⟩) (Or.inr ⟨_, rfl⟩) dX10_newUnit_93 rfl rfl rfl (Nat.le_of_ble_eq_true rfl) (Nat.le_of_ble_eq_true rfl)
def uC6 (Ω : OmT) (B : Nat) : List Cel := [.inl (6, [.int (nI 6), rfO Ω (B + 1), rfO Ω (B + 2), rfO Ω (B + 3), rfO Ω (B + 4), rfO Ω (B + 6), rfO Ω (B + 7), rfO Ω (B + 10), .int (nI 0), .int (nI 0)]), arI 8 (fun _ => 0), arI 8 (fun _ => 0), arI 1 (fun j => if j < 1 then -1 else 0), .inr (4, 1, fun j => rfO Ω (B + 4 + 1 + j)), arI 8 (fun _ => 0), arI 1 (fun j => if j < 1 then nI 100 else 0), .inl (7, [rfO Ω (B + 8), rfO Ω (B + 9)]), arI 2 (fun _ => 0), arI 2 (fun j => if j < 2 then nI 1 else 0), .inr (4, 20, fun j => rfO Ω (B + 10 + 1 + j)), arI 8 (fun _ => 0), arI 8 (fun _ => 0), arI 8 (fun _ => 0), arI 8 (fun _ => 0), arI 8 (fun _ => 0), arI 8 (fun _ => 0), arI 8 (fun _ => 0), arI 8 (fun _ => 0), arI 8 (fun _ => 0), arI 8 (fun _ => 0), arI 8 (fun _ => 0), arI 8 (fun _ => 0), arI 8 (fun _ => 0), arI 8 (fun _ => 0), arI 8 (fun _ => 0), arI 8 (fun _ => 0), arI 8 (fun _ => 0), arI 8 (fun _ => 0), arI 8 (fun _ => 0), arI 8 (fun _ => 0)]
set_option maxHeartbeats 4000000 in
set_option maxRecDepth 100000 in
theorem ct_X10_newUnit_6 (l : Launch) (Ω : OmT) (A : AHp) (B : Nat) (hA : ∀ x, B ≤ x → A x = none) : ZM l Ω yX10_newUnit cX10_newUnit 1 (some (.object "GrindWorks$Unit")) rn_X10_newUnit [.int (nI 6)] A B (some (rfO Ω B)) (uL A B (uC6 Ω B)) (B + 31) := by
  refine ZM_of (by decide) (Nat.le_of_ble_eq_true rfl) (fun E hE C hQ => ?_)
  refine z_iload_n (pc := 0) C dX10_newUnit_0 rfl ?_
  refine z_tabInN (pc := 1) (a := 6) (tgt := 94) C dX10_newUnit_1 (by decide) (by decide) rfl (by decide) (by decide) ?_
  refine z_new (pc := 94) (ci := 6) (fs := [.int 0, .null, .null, .null, .null, .null, .null, .null, .int 0, .int 0]) C tyX6 dX10_newUnit_94 rfl tyX6_ok kw_210 kw_211 kw_13 (by decide +kernel) (Nat.le_of_ble_eq_true rfl) (Nat.le_of_ble_eq_true rfl) ?_
  refine z_heap (A' := uL A B [.inl (6, [.int 0, .null, .null, .null, .null, .null, .null, .null, .int 0, .int 0])]) (n' := B + 1) (uL_first hA) rfl ?_
  refine z_dup (pc := 97) C dX10_newUnit_97 rfl ?_
  refine z_callI (pc := 98) C dX10_newUnit_98 zy_X6_init rfl kw_212 kw_213 (ct_X6_init_6 l Ω A B) rfl rfl ⟨⟨by decide, by decide⟩, by decide, by decide⟩ (Nat.le_of_ble_eq_true rfl) ?_
  exact z_aret (pc := 101) C hQ rfl (Or.inl ⟨_, rfl⟩) (Or.inr ⟨_, rfl⟩) dX10_newUnit_101 rfl rfl rfl (Nat.le_of_ble_eq_true rfl) (Nat.le_of_ble_eq_true rfl)
def uC7 (Ω : OmT) (B : Nat) : List Cel := [.inl (0, [.int (nI 7), rfO Ω (B + 1), rfO Ω (B + 2), rfO Ω (B + 3), rfO Ω (B + 4), rfO Ω (B + 5), .null, rfO Ω (B + 6)]), arI 8 (fun _ => 0), arI 8 (fun _ => 0), arI 0 (fun j => if j < 0 then -1 else 0), .inr (4, 0, fun j => rfO Ω (B + 4 + 1 + j)), arI 0 (fun j => if j < 0 then nI 0 else 0), .inr (4, 10, fun j => rfO Ω (B + 6 + 1 + j)), arI 8 (fun _ => 0), arI 8 (fun _ => 0), arI 8 (fun _ => 0), arI 8 (fun _ => 0), arI 8 (fun _ => 0), arI 8 (fun _ => 0), arI 8 (fun _ => 0), arI 8 (fun _ => 0), arI 8 (fun _ => 0), arI 8 (fun _ => 0)]
set_option maxHeartbeats 4000000 in
set_option maxRecDepth 100000 in
theorem ct_X10_newUnit_7 (l : Launch) (Ω : OmT) (A : AHp) (B : Nat) (hA : ∀ x, B ≤ x → A x = none) : ZM l Ω yX10_newUnit cX10_newUnit 1 (some (.object "GrindWorks$Unit")) rn_X10_newUnit [.int (nI 7)] A B (some (rfO Ω B)) (uL A B (uC7 Ω B)) (B + 17) := by
  refine ZM_of (by decide) (Nat.le_of_ble_eq_true rfl) (fun E hE C hQ => ?_)
  refine z_iload_n (pc := 0) C dX10_newUnit_0 rfl ?_
  refine z_tabOutN (pc := 1) (a := 7) (tgt := 102) C dX10_newUnit_1 (Or.inr (by decide)) (by decide) (by decide) ?_
  refine z_new (pc := 102) (ci := 0) (fs := [.int 0, .null, .null, .null, .null, .null, .null, .null]) C tyX0 dX10_newUnit_102 rfl tyX0_ok kw_230 kw_231 kw_14 (by decide +kernel) (Nat.le_of_ble_eq_true rfl) (Nat.le_of_ble_eq_true rfl) ?_
  refine z_heap (A' := uL A B [.inl (0, [.int 0, .null, .null, .null, .null, .null, .null, .null])]) (n' := B + 1) (uL_first hA) rfl ?_
  refine z_dup (pc := 105) C dX10_newUnit_105 rfl ?_
  refine z_callI (pc := 106) C dX10_newUnit_106 zy_X0_init rfl kw_232 kw_233 (ct_X0_init_7 l Ω A B) rfl rfl ⟨⟨by decide, by decide⟩, by decide, by decide⟩ (Nat.le_of_ble_eq_true rfl) ?_
  exact z_aret (pc := 109) C hQ rfl (Or.inl ⟨_, rfl⟩) (Or.inr ⟨_, rfl⟩) dX10_newUnit_109 rfl rfl rfl (Nat.le_of_ble_eq_true rfl) (Nat.le_of_ble_eq_true rfl)
