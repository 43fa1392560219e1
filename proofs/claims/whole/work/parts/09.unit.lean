/-! ===== the units' cells ===== -/
/-- which row stands at a unit's cell k -/
def utr (κ m : Nat) : Option Nat := match κ with
  | 0 => if m = 0 then some 6 else none
  | 7 => match m with
    | 0 => none
    | m + 1 => if m < 10 then some (60 + m) else none
  | κ => match m with
    | 0 => none
    | 1 => some 4
    | 2 => some 5
    | m + 3 => match κ with
      | 3 => if m = 0 then some 7 else none
      | 4 => if m = 0 then some 7 else none
      | 5 => match m with
        | 0 => none
        | m + 1 => if m < 6 then some (20 + m) else none
      | 6 => match m with
        | 0 => none
        | m + 1 => if m < 20 then some (40 + m) else none
      | _ => none
def urow (κ k : Nat) : Option Nat := match k with
  | 0 => some 8
  | 1 => some 0
  | 2 => some 1
  | 3 => some 2
  | 4 => none
  | k + 5 => if k < upt κ then some (10 + k) else if k = upt κ then some 3 else utr κ (k - (1 + upt κ))
theorem uxf_congr (Ω : OmT) (κ b : Nat) {d d' : Nat → Nat → Int32} (h : d 8 = d' 8) : uxf Ω κ b d = uxf Ω κ b d' := by
  unfold uxf
  split <;> simp [h]
theorem utl_congr (Ω : OmT) (κ b m : Nat) {d d' : Nat → Nat → Int32} (h : ∀ r, utr κ m = some r → d r = d' r) : utl Ω κ b d m = utl Ω κ b d' m := by
  unfold utl
  unfold utr at h
  split
  · split
    · simp at h; rw [h]
    · rfl
  · split
    · rfl
    · split
      · next hm => simp [hm] at h; rw [h]
      · rfl
  · next q0 q7 =>
    split
    · rfl
    · simp [q0, q7] at h; rw [h]
    · simp [q0, q7] at h; rw [h]
    · split
      · split
        · next hm => subst hm; simp at h; rw [h]
        · rfl
      · split
        · next hm => subst hm; simp at h; rw [h]
        · rfl
      · split
        · rfl
        · split
          · next hm => simp [hm] at h; rw [h]
          · rfl
      · split
        · rfl
        · split
          · next hm => simp [hm] at h; rw [h]
          · rfl
      · rfl
theorem ucl_congr (Ω : OmT) (κ b k : Nat) {d d' : Nat → Nat → Int32} (h : ∀ r, urow κ k = some r → d r = d' r) : ucl Ω κ b d k = ucl Ω κ b d' k := by
  unfold ucl
  unfold urow at h
  split
  · rw [show uob Ω κ b d = uob Ω κ b d' from by unfold uob; rw [uxf_congr Ω κ b (h 8 rfl)]]
  · rw [h 0 rfl]
  · rw [h 1 rfl]
  · rw [h 2 rfl]
  · rfl
  · next k =>
    split
    · next h1 => rw [h (10 + k) (if_pos h1)]
    · next h1 =>
      split
      · next h2 => rw [h 3 (by show (if k < upt κ then some (10 + k) else if k = upt κ then some 3 else utr κ (k - (1 + upt κ))) = some 3; rw [if_neg h1, if_pos h2])]
      · next h2 => exact utl_congr Ω κ b _ (fun r hr => h r (by show (if k < upt κ then some (10 + k) else if k = upt κ then some 3 else utr κ (k - (1 + upt κ))) = some r; rw [if_neg h1, if_neg h2]; exact hr))
theorem urow_inj {κ k k' r : Nat} (hκ : κ < 8) (h : urow κ k = some r) (h' : urow κ k' = some r) : k = k' := by
  have key : ∀ k, urow κ k = some r → (k = 0 ∧ r = 8) ∨ (k = 1 ∧ r = 0) ∨ (k = 2 ∧ r = 1) ∨ (k = 3 ∧ r = 2) ∨ (5 ≤ k ∧ k < 5 + upt κ ∧ r = k + 5) ∨ (k = 5 + upt κ ∧ r = 3) ∨ (5 + upt κ < k ∧ utr κ (k - 5 - (1 + upt κ)) = some r) := by
    intro k h
    unfold urow at h
    split at h
    · cases h; simp
    · cases h; simp
    · cases h; simp
    · cases h; simp
    · cases h
    · next k =>
      split at h
      · cases h; omega
      · split at h
        · cases h; omega
        · right; right; right; right; right; right
          exact ⟨by omega, by rw [show k + 5 - 5 = k by omega]; exact h⟩
  have up := upt_le κ
  have tk : ∀ m, utr κ m = some r → (r = 6 ∧ m = 0) ∨ (60 ≤ r ∧ r = 59 + m) ∨ (r = 4 ∧ m = 1) ∨ (r = 5 ∧ m = 2) ∨ (r = 7 ∧ m = 3) ∨ (20 ≤ r ∧ r < 26 ∧ r + 4 = 20 + m) ∨ (40 ≤ r ∧ r < 60 ∧ r + 4 = 40 + m) := by
    intro m h
    unfold utr at h
    split at h
    · split at h
      · cases h; omega
      · cases h
    · split at h
      · cases h
      · split at h
        · cases h; omega
        · cases h
    · split at h
      · cases h
      · cases h; omega
      · cases h; omega
      · split at h
        · split at h
          · cases h; omega
          · cases h
        · split at h
          · cases h; omega
          · cases h
        · split at h
          · cases h
          · split at h
            · cases h; omega
            · cases h
        · split at h
          · cases h
          · split at h
            · cases h; omega
            · cases h
        · cases h
  rcases key k h with a | a | a | a | a | a | a <;> rcases key k' h' with b | b | b | b | b | b | b
  all_goals first
    | omega
    | (have t1 := tk _ a.2; have t2 := tk _ b.2; omega)
    | (have t1 := tk _ a.2; omega)
    | (have t2 := tk _ b.2; omega)
/-- a cell of unit i is written: τ is σ but for that cell's row -/
theorem hp_uw {Ω : OmT} {σ τ : Sg} {i k : Nat} {c : Cel} (hi : i < σ.2.2.2) (hn : σ.2.2.2 ≤ 10) (hk : k < usz (σ.2.2.1 i)) (h2 : τ.2 = σ.2) (ho : ∀ s, ¬ s = i → τ.1 s = σ.1 s) (hc : ucl Ω (σ.2.2.1 i) (bs σ.2.2.1 i) (τ.1 i) k = some c) (hr : ∀ k', ¬ k' = k → ucl Ω (σ.2.2.1 i) (bs σ.2.2.1 i) (τ.1 i) k' = ucl Ω (σ.2.2.1 i) (bs σ.2.2.1 i) (σ.1 i) k') : aup (hp Ω σ) (bs σ.2.2.1 i + k) c = hp Ω τ := by
  have hκ : τ.2.2.1 = σ.2.2.1 := by rw [h2]
  have hnn : τ.2.2.2 = σ.2.2.2 := by rw [h2]
  have b34 := bs_le σ.2.2.1 i
  funext x
  by_cases hx : x = bs σ.2.2.1 i + k
  · subst hx
    rw [aup_self]
    have := hp_u Ω τ (i := i) (k := k) (by rw [hnn]; exact hi) (by rw [hκ]; exact hk)
    rw [hκ] at this
    rw [this, hc]
  · rw [aup_ne hx]
    unfold hp
    by_cases h34 : x < 34
    · rw [if_pos h34, if_pos h34]
      have e10 : τ.1 10 = σ.1 10 := ho 10 (by omega)
      have e11 : τ.1 11 = σ.1 11 := ho 11 (by omega)
      have eL : τ.2.1 = σ.2.1 := by rw [h2]
      unfold hstc
      split
      next => rw [e10]
      next => rw [hκ, hnn]
      next => rw [e10]
      next => rw [e10]
      next => rw [e10]
      next => rw [e10]
      next => simp only [mfs, e11]
      next k' =>
        congr 4
        funext j
        unfold mvl
        rw [eL, e11]
    · rw [if_neg h34, if_neg h34, hnn]
      have key : ∀ m, m ≤ σ.2.2.2 → hdyn Ω σ m x = hdyn Ω τ m x := by
        intro m
        induction m with
        | zero => intro _; rfl
        | succ m ih =>
          intro hm
          unfold hdyn
          rw [hκ, ih (by omega)]
          by_cases hmi : m = i
          · subst hmi
            by_cases hb : bs σ.2.2.1 m ≤ x
            · rw [if_pos hb, if_pos hb, hr (x - bs σ.2.2.1 m) (by omega)]
            · rw [if_neg hb, if_neg hb]
          · rw [ho m hmi]
      exact key _ (Nat.le_refl _)
/-- a row of ints of unit i is written -/
theorem hp_ua {Ω : OmT} {σ : Sg} {i k a N : Nat} {j : Nat} {x : Int32} (hi : i < σ.2.2.2) (hn : σ.2.2.2 ≤ 10) (hq : σ.2.2.1 i < 8) (hk : k < usz (σ.2.2.1 i)) (hw : urow (σ.2.2.1 i) k = some a) (hc : ∀ d : Nat → Nat → Int32, ucl Ω (σ.2.2.1 i) (bs σ.2.2.1 i) d k = some (arI N (d a))) : aup (hp Ω σ) (bs σ.2.2.1 i + k) (.inr (0, N, updV (fun j => .int (σ.1 i a j)) j (.int x))) = hp Ω (sI σ i a j x) := by
  refine hp_uw hi hn hk rfl (fun s hs => ?_) ?_ (fun k' hk' => ?_)
  · funext a' j'
    simp [sI, hs]
  · rw [hc]
    have e9 : (fun j' => Value.int ((sI σ i a j x).1 i a j')) = updV (fun j => .int (σ.1 i a j)) j (.int x) := by
      funext j'
      unfold updV
      by_cases e : j' = j
      · simp [sI, e]
      · simp [sI, e]
    rw [← e9]
  · refine ucl_congr Ω _ _ k' (fun r hr => ?_)
    have : ¬ r = a := fun e => hk' (urow_inj hq hr (by rw [e]; exact hw))
    funext j'
    simp [sI, this]
/-- a whole row -/
def sR (σ : Sg) (i a : Nat) (f : Nat → Int32) : Sg := (fun s' a' j' => if s' = i ∧ a' = a then f j' else σ.1 s' a' j', σ.2)
theorem hp_ur {Ω : OmT} {σ : Sg} {i k a N : Nat} {f : Nat → Int32} (hi : i < σ.2.2.2) (hn : σ.2.2.2 ≤ 10) (hq : σ.2.2.1 i < 8) (hk : k < usz (σ.2.2.1 i)) (hw : urow (σ.2.2.1 i) k = some a) (hc : ∀ d : Nat → Nat → Int32, ucl Ω (σ.2.2.1 i) (bs σ.2.2.1 i) d k = some (arI N (d a))) : aup (hp Ω σ) (bs σ.2.2.1 i + k) (arI N f) = hp Ω (sR σ i a f) := by
  refine hp_uw hi hn hk rfl (fun s hs => ?_) ?_ (fun k' hk' => ?_)
  · funext a' j'
    simp [sR, hs]
  · rw [hc]
    have e9 : (sR σ i a f).1 i a = f := by
      funext j'
      simp [sR]
    rw [e9]
  · refine ucl_congr Ω _ _ k' (fun r hr => ?_)
    have : ¬ r = a := fun e => hk' (urow_inj hq hr (by rw [e]; exact hw))
    funext j'
    simp [sR, this]
theorem hp_u0 (Ω : OmT) (σ : Sg) {i : Nat} (hi : i < σ.2.2.2) : hp Ω σ (bs σ.2.2.1 i) = some (uob Ω (σ.2.2.1 i) (bs σ.2.2.1 i) (σ.1 i)) := by
  have := hp_u Ω σ hi (usz_pos (σ.2.2.1 i))
  rw [Nat.add_zero] at this
  rw [this]
  rfl
