/-! ===== the state of class and reference as numbers, and the heap that holds it ===== -/
/-- sections 0..9: the units' rows; 10: the works' own rows; 11: the reference's rows of ints; then its rows of longs, the units' kinds, how many units -/
abbrev Sg : Type := (Nat → Nat → Nat → Int32) × (Nat → Nat → Int64) × (Nat → Nat) × Nat
def sI (σ : Sg) (s a j : Nat) (x : Int32) : Sg := (fun s' a' j' => if s' = s ∧ a' = a ∧ j' = j then x else σ.1 s' a' j', σ.2)
def sL (σ : Sg) (a j : Nat) (x : Int64) : Sg := (σ.1, fun a' j' => if a' = a ∧ j' = j then x else σ.2.1 a' j', σ.2.2)
theorem sI_I (σ : Sg) (s a j : Nat) (x : Int32) (s' a' j' : Nat) : (sI σ s a j x).1 s' a' j' = if s' = s ∧ a' = a ∧ j' = j then x else σ.1 s' a' j' := rfl
theorem sI_L (σ : Sg) (s a j : Nat) (x : Int32) : (sI σ s a j x).2 = σ.2 := rfl
theorem sL_L (σ : Sg) (a j : Nat) (x : Int64) (a' j' : Nat) : (sL σ a j x).2.1 a' j' = if a' = a ∧ j' = j then x else σ.2.1 a' j' := rfl
theorem sL_I (σ : Sg) (a j : Nat) (x : Int64) : (sL σ a j x).1 = σ.1 := rfl
theorem sL_K (σ : Sg) (a j : Nat) (x : Int64) : (sL σ a j x).2.2 = σ.2.2 := rfl
/-- ports, numbers, kind of object, cells of a unit's kind -/
def upt (κ : Nat) : Nat := match κ with
  | 3 => 2
  | 4 => 2
  | 7 => 0
  | _ => 1
def unu (κ : Nat) : Nat := match κ with
  | 0 => 8
  | 1 => 0
  | 2 => 16
  | 3 => 4
  | 4 => 2
  | 5 => 1
  | 6 => 1
  | _ => 0
def ukc (κ : Nat) : Nat := match κ with
  | 0 => 1
  | 1 => 2
  | 2 => 4
  | 3 => 5
  | 4 => 5
  | 5 => 8
  | 6 => 6
  | _ => 0
def usz (κ : Nat) : Nat := match κ with
  | 0 => 8
  | 1 => 10
  | 2 => 10
  | 3 => 12
  | 4 => 12
  | 5 => 17
  | 6 => 31
  | _ => 17
abbrev arI (N : Nat) (f : Nat → Int32) : Cel := .inr (0, N, fun j => .int (f j))
abbrev rfO (Ω : OmT) (a : Nat) : Value := .ref (Ω.2.2.1 + a)
/-- the fields that a kind has beside the common ones -/
def uxf (Ω : OmT) (κ b : Nat) (d : Nat → Nat → Int32) : List Value := match κ with
  | 0 => [rfO Ω (b + 7), .int (d 8 0), .int (d 8 1), .int (d 8 2), .int (d 8 3)]
  | 3 => [rfO Ω (b + 11)]
  | 4 => [rfO Ω (b + 11)]
  | 5 => [rfO Ω (b + 10), .int (d 8 4)]
  | 6 => [rfO Ω (b + 10), .int (d 8 5), .int (d 8 6)]
  | 7 => [rfO Ω (b + 6)]
  | _ => []
def uRd (Ω : OmT) (κ b : Nat) : Value := match κ with
  | 0 => .null
  | 7 => .null
  | _ => rfO Ω (b + (6 + upt κ))
abbrev uob (Ω : OmT) (κ b : Nat) (d : Nat → Nat → Int32) : Cel :=
  .inl (ukc κ, [.int (nI κ), rfO Ω (b + 1), rfO Ω (b + 2), rfO Ω (b + 3), rfO Ω (b + 4), rfO Ω (b + (5 + upt κ)), uRd Ω κ b] ++ uxf Ω κ b d)
/-- the cells behind the numbers -/
def utl (Ω : OmT) (κ b : Nat) (d : Nat → Nat → Int32) (m : Nat) : Option Cel := match κ with
  | 0 => match m with
    | 0 => some (arI 2 (d 6))
    | _ => none
  | 7 => match m with
    | 0 => some (.inr (4, 10, fun j => rfO Ω (b + (7 + j))))
    | m + 1 => if m < 10 then some (arI 8 (d (60 + m))) else none
  | κ => match m with
    | 0 => some (.inl (7, [rfO Ω (b + (7 + upt κ)), rfO Ω (b + (8 + upt κ))]))
    | 1 => some (arI (1 + upt κ) (d 4))
    | 2 => some (arI (1 + upt κ) (d 5))
    | m + 3 => match κ with
      | 3 => if m = 0 then some (arI 8 (d 7)) else none
      | 4 => if m = 0 then some (arI 8 (d 7)) else none
      | 5 => match m with
        | 0 => some (.inr (4, 6, fun j => rfO Ω (b + (11 + j))))
        | m + 1 => if m < 6 then some (arI 8 (d (20 + m))) else none
      | 6 => match m with
        | 0 => some (.inr (4, 20, fun j => rfO Ω (b + (11 + j))))
        | m + 1 => if m < 20 then some (arI 8 (d (40 + m))) else none
      | _ => none
def ucl (Ω : OmT) (κ b : Nat) (d : Nat → Nat → Int32) (k : Nat) : Option Cel := match k with
  | 0 => some (uob Ω κ b d)
  | 1 => some (arI 8 (d 0))
  | 2 => some (arI 8 (d 1))
  | 3 => some (arI (upt κ) (d 2))
  | 4 => some (.inr (4, upt κ, fun j => rfO Ω (b + (5 + j))))
  | k + 5 => if k < upt κ then some (arI 8 (d (10 + k))) else if k = upt κ then some (arI (unu κ) (d 3)) else utl Ω κ b d (k - (1 + upt κ))
/-- where unit i begins -/
def bs (κ : Nat → Nat) : Nat → Nat
  | 0 => 34
  | i + 1 => bs κ i + usz (κ i)
def mln (k : Nat) : Nat := ([10, 20, 80, 80, 160, 40, 80, 10, 10, 10, 10, 10, 10, 10, 560, 70, 10, 1600, 160, 2, 80, 800, 30, 30, 10, 10, 10] : List Nat).getD k 0
def mty (k : Nat) : Nat := match k with
  | 12 => 2
  | 19 => 1
  | 20 => 1
  | 21 => 1
  | _ => 0
def mvl (σ : Sg) (k j : Nat) : Value := match k with
  | 19 => .long (σ.2.1 19 j)
  | 20 => .long (σ.2.1 20 j)
  | 21 => .long (σ.2.1 21 j)
  | k => .int (σ.1 11 k j)
abbrev mfs (Ω : OmT) (σ : Sg) : List Value := [.int (σ.1 11 30 0), .int (σ.1 11 30 1), .int (σ.1 11 30 2), rfO Ω 7, rfO Ω 8, rfO Ω 9, rfO Ω 10, rfO Ω 11, rfO Ω 12, rfO Ω 13, rfO Ω 14, rfO Ω 15, rfO Ω 16, rfO Ω 17, rfO Ω 18, rfO Ω 19, rfO Ω 20, rfO Ω 21, rfO Ω 22, rfO Ω 23, rfO Ω 24, rfO Ω 25, rfO Ω 26, rfO Ω 27, rfO Ω 28, rfO Ω 29, rfO Ω 30, rfO Ω 31, rfO Ω 32, rfO Ω 33]
def hstc (Ω : OmT) (σ : Sg) (x : Nat) : Option Cel := match x with
  | 0 => some (.inl (9, [rfO Ω 1, rfO Ω 2, .int (σ.1 10 0 0), .int (σ.1 10 0 1)]))
  | 1 => some (.inr (3, 10, fun i => if i < σ.2.2.2 then rfO Ω (bs σ.2.2.1 i) else .null))
  | 2 => some (.inl (3, [rfO Ω 3, rfO Ω 4, rfO Ω 5, .int (σ.1 10 0 2)]))
  | 3 => some (arI 1024 (σ.1 10 1))
  | 4 => some (arI 1024 (σ.1 10 2))
  | 5 => some (arI 1024 (σ.1 10 3))
  | 6 => some (.inl (10, mfs Ω σ))
  | k + 7 => some (.inr (mty k, mln k, fun j => mvl σ k j))
def hdyn (Ω : OmT) (σ : Sg) : Nat → Nat → Option Cel
  | 0, _ => none
  | i + 1, x => if bs σ.2.2.1 i ≤ x then ucl Ω (σ.2.2.1 i) (bs σ.2.2.1 i) (σ.1 i) (x - bs σ.2.2.1 i) else hdyn Ω σ i x
def hp (Ω : OmT) (σ : Sg) : AHp := fun x => if x < 34 then hstc Ω σ x else hdyn Ω σ σ.2.2.2 x
abbrev hN (σ : Sg) : Nat := bs σ.2.2.1 σ.2.2.2
theorem usz_pos (κ : Nat) : 0 < usz κ := by
  unfold usz; split <;> omega
theorem bs_le (κ : Nat → Nat) : ∀ i, 34 ≤ bs κ i
  | 0 => Nat.le_refl _
  | i + 1 => Nat.le_trans (bs_le κ i) (Nat.le_add_right _ _)
theorem bs_lt (κ : Nat → Nat) {i j : Nat} (h : i < j) : bs κ i + usz (κ i) ≤ bs κ j := by
  induction j with
  | zero => omega
  | succ j ih =>
    rcases Nat.lt_or_ge i j with h1 | h1
    · exact Nat.le_trans (ih h1) (Nat.le_add_right _ _)
    · have : i = j := by omega
      subst this
      exact Nat.le_refl _
theorem hdyn_at (Ω : OmT) (σ : Sg) {i k : Nat} (hk : k < usz (σ.2.2.1 i)) : ∀ m, i < m → hdyn Ω σ m (bs σ.2.2.1 i + k) = ucl Ω (σ.2.2.1 i) (bs σ.2.2.1 i) (σ.1 i) k
  | 0, h => absurd h (by omega)
  | m + 1, h => by
    unfold hdyn
    rcases Nat.lt_or_ge i m with h1 | h1
    · have := bs_lt σ.2.2.1 h1
      rw [if_neg (by omega)]
      exact hdyn_at Ω σ hk m h1
    · have e : i = m := by omega
      subst e
      rw [if_pos (by omega), Nat.add_sub_cancel_left]
/-- the cell k of unit i -/
theorem hp_u (Ω : OmT) (σ : Sg) {i k : Nat} (hi : i < σ.2.2.2) (hk : k < usz (σ.2.2.1 i)) : hp Ω σ (bs σ.2.2.1 i + k) = ucl Ω (σ.2.2.1 i) (bs σ.2.2.1 i) (σ.1 i) k := by
  unfold hp
  have := bs_le σ.2.2.1 i
  rw [if_neg (by omega)]
  exact hdyn_at Ω σ hk _ hi
theorem hdyn_congr (Ω : OmT) {σ τ : Sg} (hκ : σ.2.2.1 = τ.2.2.1) : ∀ m, (∀ i, i < m → σ.1 i = τ.1 i) → ∀ x, hdyn Ω σ m x = hdyn Ω τ m x
  | 0, _, _ => rfl
  | m + 1, h, x => by
    unfold hdyn
    rw [hκ, h m (by omega), hdyn_congr Ω hκ m (fun i hi => h i (by omega)) x]
/-- a row of ints of the reference is written -/
theorem hp_m {Ω : OmT} {σ : Sg} (k : Nat) {j : Nat} {x : Int32} (hk : k < 27) (hn : σ.2.2.2 ≤ 10) (hl : k ≠ 19 ∧ k ≠ 20 ∧ k ≠ 21) : aup (hp Ω σ) (7 + k) (.inr (mty k, mln k, updV (fun j => mvl σ k j) j (.int x))) = hp Ω (sI σ 11 k j x) := by
  funext y
  by_cases hy : y = 7 + k
  · subst hy
    rw [aup_self]
    unfold hp
    rw [if_pos (by omega), Nat.add_comm 7 k]
    show _ = some (Sum.inr (mty k, mln k, fun j' => mvl (sI σ 11 k j x) k j'))
    congr 4
    funext j'
    unfold updV
    by_cases e : j' = j
    · subst e
      rw [if_pos rfl]
      unfold mvl
      split
      next => omega
      next => omega
      next => omega
      next => simp [sI]
    · rw [if_neg e]
      unfold mvl
      split
      next => omega
      next => omega
      next => omega
      next => simp [sI, e]
  · rw [aup_ne hy]
    unfold hp
    by_cases h34 : y < 34
    · rw [if_pos h34, if_pos h34]
      unfold hstc
      split
      next => simp [sI]
      next => rfl
      next => simp [sI]
      next => simp [sI]
      next => simp [sI]
      next => simp [sI]
      next => simp [sI, show ¬ (30 = k) by omega]
      next k' =>
        congr 4
        funext j'
        unfold mvl
        split
        next => rfl
        next => rfl
        next => rfl
        next => simp [sI, show ¬ (k' = k) by omega]
    · rw [if_neg h34, if_neg h34]
      exact hdyn_congr Ω (σ := σ) (τ := sI σ 11 _ j x) rfl _ (fun i hi => by funext a j'; have : i < 10 := Nat.lt_of_lt_of_le hi hn; simp [sI, show ¬ i = 11 by omega]) y
/-- a row of longs of the reference is written -/
theorem hp_ml {Ω : OmT} {σ : Sg} (k : Nat) {j : Nat} {x : Int64} (hl : k = 19 ∨ k = 20 ∨ k = 21) : aup (hp Ω σ) (7 + k) (.inr (mty k, mln k, updV (fun j => mvl σ k j) j (.long x))) = hp Ω (sL σ k j x) := by
  funext y
  by_cases hy : y = 7 + k
  · subst hy
    rw [aup_self]
    unfold hp
    rw [if_pos (by omega), Nat.add_comm 7 k]
    show _ = some (Sum.inr (mty k, mln k, fun j' => mvl (sL σ k j x) k j'))
    congr 4
    funext j'
    unfold updV
    by_cases e : j' = j
    · subst e
      rw [if_pos rfl]
      rcases hl with rfl | rfl | rfl <;> simp [mvl, sL]
    · rw [if_neg e]
      rcases hl with rfl | rfl | rfl <;> simp [mvl, sL, e]
  · rw [aup_ne hy]
    unfold hp
    by_cases h34 : y < 34
    · rw [if_pos h34, if_pos h34]
      unfold hstc
      split
      next => rfl
      next => rfl
      next => rfl
      next => rfl
      next => rfl
      next => rfl
      next => rfl
      next k' =>
        congr 4
        funext j'
        unfold mvl
        split
        next => simp [sL, show ¬ (19 = k) by omega]
        next => simp [sL, show ¬ (20 = k) by omega]
        next => simp [sL, show ¬ (21 = k) by omega]
        next => rfl
    · rw [if_neg h34, if_neg h34]
      exact hdyn_congr Ω (σ := σ) (τ := sL σ k j x) rfl _ (fun i hi => rfl) y
/-- a number of the reference itself is written -/
theorem hp_mf {Ω : OmT} {σ : Sg} (j : Nat) {x : Int32} (hj : j < 3) (hn : σ.2.2.2 ≤ 10) : aup (hp Ω σ) 6 (.inl (10, (mfs Ω σ).set j (.int x))) = hp Ω (sI σ 11 30 j x) := by
  funext y
  by_cases hy : y = 6
  · subst hy
    rw [aup_self]
    show some (Sum.inl (10, (mfs Ω σ).set j (.int x))) = some (Sum.inl (10, mfs Ω (sI σ 11 30 j x)))
    match j, hj with
    | 0, _ => simp [mfs, sI]
    | 1, _ => simp [mfs, sI]
    | 2, _ => simp [mfs, sI]
  · rw [aup_ne hy]
    unfold hp
    by_cases h34 : y < 34
    · rw [if_pos h34, if_pos h34]
      unfold hstc
      split
      next => simp [sI]
      next => rfl
      next => simp [sI]
      next => simp [sI]
      next => simp [sI]
      next => simp [sI]
      next => exact absurd rfl hy
      next k' =>
        congr 4
        funext j'
        unfold mvl
        split
        next => rfl
        next => rfl
        next => rfl
        next => simp [sI, show ¬ (k' = 30) by omega]
    · rw [if_neg h34, if_neg h34]
      exact hdyn_congr Ω (σ := σ) (τ := sI σ 11 30 j x) rfl _ (fun i hi => by funext a j'; have : i < 10 := Nat.lt_of_lt_of_le hi hn; simp [sI, show ¬ i = 11 by omega]) y
