/-! ===== the units' rows, each by its name ===== -/
def KW (σ : Sg) : Prop := σ.2.2.2 ≤ 10 ∧ ∀ u, u < σ.2.2.2 → σ.2.2.1 u < 8
/-- row a of unit i stands at its cell k, N long -/
def Rw (τ : Sg) (i k a N : Nat) : Prop := i < τ.2.2.2 ∧ τ.2.2.2 ≤ 10 ∧ τ.2.2.1 i < 8 ∧ k < usz (τ.2.2.1 i) ∧ urow (τ.2.2.1 i) k = some a ∧ (∀ (Ω : OmT) (d : Nat → Nat → Int32), ucl Ω (τ.2.2.1 i) (bs τ.2.2.1 i) d k = some (arI N (d a))) ∧ N < 1073741824
theorem Rw.get {Ω : OmT} {τ : Sg} {i k a N : Nat} (h : Rw τ i k a N) : hp Ω τ (bs τ.2.2.1 i + k) = some (arI N (τ.1 i a)) := by
  rw [hp_u Ω τ h.1 h.2.2.2.1, h.2.2.2.2.2.1]
theorem Rw.row {Ω : OmT} {τ : Sg} {i k a N : Nat} {f : Nat → Int32} (h : Rw τ i k a N) : aup (hp Ω τ) (bs τ.2.2.1 i + k) (arI N f) = hp Ω (sR τ i a f) := hp_ur h.1 h.2.1 h.2.2.1 h.2.2.2.1 h.2.2.2.2.1 (h.2.2.2.2.2.1 Ω)
theorem Rw.el {τ : Sg} {i k a N : Nat} (h : Rw τ i k a N) {Ω : OmT} {j : Nat} {x : Int32} : aup (hp Ω τ) (bs τ.2.2.1 i + k) (.inr (0, N, updV (fun j => .int (τ.1 i a j)) j (.int x))) = hp Ω (sI τ i a j x) := hp_ua h.1 h.2.1 h.2.2.1 h.2.2.2.1 h.2.2.2.2.1 (h.2.2.2.2.2.1 Ω)
theorem usz_ge (κ : Nat) : 8 ≤ usz κ := by
  unfold usz; split <;> omega
theorem usz_u {κ : Nat} (h : κ < 8) : 5 + upt κ < usz κ := by
  match κ, h with
  | 0, _ => decide
  | 1, _ => decide
  | 2, _ => decide
  | 3, _ => decide
  | 4, _ => decide
  | 5, _ => decide
  | 6, _ => decide
  | 7, _ => decide
theorem unu_le (κ : Nat) : unu κ ≤ 16 := by
  unfold unu; split <;> omega
section RWS
variable {τ : Sg} {i κ : Nat}
theorem rw_held (hw : KW τ) (hi : i < τ.2.2.2) : Rw τ i 1 0 8 := ⟨hi, hw.1, hw.2 i hi, Nat.lt_of_lt_of_le (by decide) (usz_ge _), rfl, fun _ _ => rfl, by decide⟩
theorem rw_spilt (hw : KW τ) (hi : i < τ.2.2.2) : Rw τ i 2 1 8 := ⟨hi, hw.1, hw.2 i hi, Nat.lt_of_lt_of_le (by decide) (usz_ge _), rfl, fun _ _ => rfl, by decide⟩
theorem rw_leads (hw : KW τ) (hi : i < τ.2.2.2) (hq : τ.2.2.1 i = κ) : Rw τ i 3 2 (upt κ) := by
  subst hq
  exact ⟨hi, hw.1, hw.2 i hi, Nat.lt_of_lt_of_le (by decide) (usz_ge _), rfl, fun _ _ => rfl, Nat.lt_of_le_of_lt (upt_le _) (by decide)⟩
theorem rw_giv (hw : KW τ) (hi : i < τ.2.2.2) (hq : τ.2.2.1 i = κ) {p : Nat} (hp : p < upt κ) : Rw τ i (5 + p) (10 + p) 8 := by
  subst hq
  have h8 := hw.2 i hi
  have := usz_u h8
  refine ⟨hi, hw.1, h8, by omega, ?_, fun _ d => ?_, by decide⟩
  · rw [Nat.add_comm 5 p]
    show (if p < upt (τ.2.2.1 i) then some (10 + p) else _) = _
    rw [if_pos hp]
  · rw [Nat.add_comm 5 p]
    show (if p < upt (τ.2.2.1 i) then some (arI 8 (d (10 + p))) else _) = _
    rw [if_pos hp]
theorem rw_giv0 (hw : KW τ) (hi : i < τ.2.2.2) (hq : τ.2.2.1 i = κ) (hp : 0 < upt κ) : Rw τ i 5 10 8 := rw_giv hw hi hq hp
theorem rw_giv1 (hw : KW τ) (hi : i < τ.2.2.2) (hq : τ.2.2.1 i = κ) (hp : 1 < upt κ) : Rw τ i 6 11 8 := rw_giv hw hi hq hp
theorem rw_nums (hw : KW τ) (hi : i < τ.2.2.2) (hq : τ.2.2.1 i = κ) : Rw τ i (5 + upt κ) 3 (unu κ) := by
  subst hq
  have h8 := hw.2 i hi
  have := usz_u h8
  refine ⟨hi, hw.1, h8, by omega, ?_, fun _ d => ?_, Nat.lt_of_le_of_lt (unu_le _) (by decide)⟩
  · rw [Nat.add_comm 5]
    show (if upt (τ.2.2.1 i) < upt (τ.2.2.1 i) then some (10 + upt (τ.2.2.1 i)) else if upt (τ.2.2.1 i) = upt (τ.2.2.1 i) then some 3 else _) = _
    rw [if_neg (Nat.lt_irrefl _), if_pos rfl]
  · rw [Nat.add_comm 5]
    show (if upt (τ.2.2.1 i) < upt (τ.2.2.1 i) then some (arI 8 (d (10 + upt (τ.2.2.1 i)))) else if upt (τ.2.2.1 i) = upt (τ.2.2.1 i) then some (arI (unu (τ.2.2.1 i)) (d 3)) else _) = _
    rw [if_neg (Nat.lt_irrefl _), if_pos rfl]
theorem rw_fed (hw : KW τ) (hi : i < τ.2.2.2) (hq : τ.2.2.1 i = 0) : Rw τ i 7 6 2 := ⟨hi, hw.1, hw.2 i hi, by rw [hq]; decide, by rw [hq]; rfl, fun _ _ => by rw [hq]; rfl, by decide⟩
theorem rw_rests (hw : KW τ) (hi : i < τ.2.2.2) (hq : τ.2.2.1 i = 3 ∨ τ.2.2.1 i = 4) : Rw τ i 11 7 8 := by
  rcases hq with hq | hq
  · exact ⟨hi, hw.1, hw.2 i hi, by rw [hq]; decide, by rw [hq]; rfl, fun _ _ => by rw [hq]; rfl, by decide⟩
  · exact ⟨hi, hw.1, hw.2 i hi, by rw [hq]; decide, by rw [hq]; rfl, fun _ _ => by rw [hq]; rfl, by decide⟩
theorem rw_slot (hw : KW τ) (hi : i < τ.2.2.2) (hq : τ.2.2.1 i = 5) {t : Nat} (ht : t < 6) : Rw τ i (11 + t) (20 + t) 8 := by
  refine ⟨hi, hw.1, hw.2 i hi, by rw [hq]; show 11 + t < 17; omega, ?_, fun Ω d => ?_, by decide⟩
  · rw [hq]
    match t, ht with
    | 0, _ => rfl
    | 1, _ => rfl
    | 2, _ => rfl
    | 3, _ => rfl
    | 4, _ => rfl
    | 5, _ => rfl
  · rw [hq]
    match t, ht with
    | 0, _ => rfl
    | 1, _ => rfl
    | 2, _ => rfl
    | 3, _ => rfl
    | 4, _ => rfl
    | 5, _ => rfl
theorem rw_lot (hw : KW τ) (hi : i < τ.2.2.2) (hq : τ.2.2.1 i = 6) {t : Nat} (ht : t < 20) : Rw τ i (11 + t) (40 + t) 8 := by
  refine ⟨hi, hw.1, hw.2 i hi, by rw [hq]; show 11 + t < 31; omega, ?_, fun Ω d => ?_, by decide⟩
  · rw [hq]
    show urow 6 (11 + t) = _
    rw [show 11 + t = (6 + t) + 5 by omega]
    show (if 6 + t < 1 then _ else if 6 + t = 1 then _ else utr 6 (6 + t - (1 + 1))) = _
    rw [if_neg (by omega), if_neg (by omega), show 6 + t - (1 + 1) = (t + 1) + 3 by omega]
    show (if t < 20 then some (40 + t) else none) = _
    rw [if_pos ht]
  · rw [hq]
    show ucl Ω 6 _ d (11 + t) = _
    rw [show 11 + t = (6 + t) + 5 by omega]
    show (if 6 + t < 1 then _ else if 6 + t = 1 then _ else utl Ω 6 _ d (6 + t - (1 + 1))) = _
    rw [if_neg (by omega), if_neg (by omega), show 6 + t - (1 + 1) = (t + 1) + 3 by omega]
    show (if t < 20 then some (arI 8 (d (40 + t))) else none) = _
    rw [if_pos ht]
theorem rw_cam (hw : KW τ) (hi : i < τ.2.2.2) (hq : τ.2.2.1 i = 7) {t : Nat} (ht : t < 10) : Rw τ i (7 + t) (60 + t) 8 := by
  refine ⟨hi, hw.1, hw.2 i hi, by rw [hq]; show 7 + t < 17; omega, ?_, fun Ω d => ?_, by decide⟩
  · rw [hq]
    show urow 7 (7 + t) = _
    rw [show 7 + t = (2 + t) + 5 by omega]
    show (if 2 + t < 0 then some (10 + (2 + t)) else if 2 + t = 0 then some 3 else utr 7 (2 + t - (1 + 0))) = _
    rw [if_neg (by omega), if_neg (by omega), show 2 + t - (1 + 0) = t + 1 by omega]
    show (if t < 10 then some (60 + t) else none) = _
    rw [if_pos ht]
  · rw [hq]
    show ucl Ω 7 _ d (7 + t) = _
    rw [show 7 + t = (2 + t) + 5 by omega]
    show (if 2 + t < 0 then some (arI 8 (d (10 + (2 + t)))) else if 2 + t = 0 then some (arI 0 (d 3)) else utl Ω 7 _ d (2 + t - (1 + 0))) = _
    rw [if_neg (by omega), if_neg (by omega), show 2 + t - (1 + 0) = t + 1 by omega]
    show (if t < 10 then some (arI 8 (d (60 + t))) else none) = _
    rw [if_pos ht]
theorem rd_k {κ : Nat} (h8 : κ < 8) (h0 : ¬ κ = 0) (h7 : ¬ κ = 7) : 8 + upt κ < usz κ ∧ urow κ (7 + upt κ) = some 4 ∧ urow κ (8 + upt κ) = some 5 ∧ ∀ (Ω : OmT) (b : Nat) (d : Nat → Nat → Int32), ucl Ω κ b d (6 + upt κ) = some (.inl (7, [rfO Ω (b + (7 + upt κ)), rfO Ω (b + (8 + upt κ))])) ∧ ucl Ω κ b d (7 + upt κ) = some (arI (1 + upt κ) (d 4)) ∧ ucl Ω κ b d (8 + upt κ) = some (arI (1 + upt κ) (d 5)) ∧ uRd Ω κ b = rfO Ω (b + (6 + upt κ)) := by
  match κ, h8 with
  | 0, _ => exact absurd rfl h0
  | 1, _ => exact ⟨by decide, rfl, rfl, fun _ _ _ => ⟨rfl, rfl, rfl, rfl⟩⟩
  | 2, _ => exact ⟨by decide, rfl, rfl, fun _ _ _ => ⟨rfl, rfl, rfl, rfl⟩⟩
  | 3, _ => exact ⟨by decide, rfl, rfl, fun _ _ _ => ⟨rfl, rfl, rfl, rfl⟩⟩
  | 4, _ => exact ⟨by decide, rfl, rfl, fun _ _ _ => ⟨rfl, rfl, rfl, rfl⟩⟩
  | 5, _ => exact ⟨by decide, rfl, rfl, fun _ _ _ => ⟨rfl, rfl, rfl, rfl⟩⟩
  | 6, _ => exact ⟨by decide, rfl, rfl, fun _ _ _ => ⟨rfl, rfl, rfl, rfl⟩⟩
  | 7, _ => exact absurd rfl h7
theorem rw_rn (hw : KW τ) (hi : i < τ.2.2.2) (hq : τ.2.2.1 i = κ) (h0 : ¬ κ = 0) (h7 : ¬ κ = 7) : Rw τ i (7 + upt κ) 4 (1 + upt κ) := by
  subst hq
  have h := rd_k (hw.2 i hi) h0 h7
  have := upt_le (τ.2.2.1 i)
  exact ⟨hi, hw.1, hw.2 i hi, by omega, h.2.1, fun Ω d => (h.2.2.2 Ω _ d).2.1, by omega⟩
theorem rw_rt (hw : KW τ) (hi : i < τ.2.2.2) (hq : τ.2.2.1 i = κ) (h0 : ¬ κ = 0) (h7 : ¬ κ = 7) : Rw τ i (8 + upt κ) 5 (1 + upt κ) := by
  subst hq
  have h := rd_k (hw.2 i hi) h0 h7
  have := upt_le (τ.2.2.1 i)
  exact ⟨hi, hw.1, hw.2 i hi, by omega, h.2.2.1, fun Ω d => (h.2.2.2 Ω _ d).2.2.1, by omega⟩
/-- the object, and its cells that are no rows -/
theorem hk_0 {Ω : OmT} (hi : i < τ.2.2.2) (hq : τ.2.2.1 i = κ) : hp Ω τ (bs τ.2.2.1 i) = some (uob Ω κ (bs τ.2.2.1 i) (τ.1 i)) := by
  subst hq
  exact hp_u0 Ω τ hi
theorem hk_given {Ω : OmT} (hi : i < τ.2.2.2) (hq : τ.2.2.1 i = κ) : hp Ω τ (bs τ.2.2.1 i + 4) = some (.inr (4, upt κ, fun j => rfO Ω (bs τ.2.2.1 i + (5 + j)))) := by
  subst hq
  rw [hp_u Ω τ hi (Nat.lt_of_lt_of_le (by decide) (usz_ge _))]
  rfl
theorem hk_slots {Ω : OmT} (hi : i < τ.2.2.2) (hq : τ.2.2.1 i = 5) : hp Ω τ (bs τ.2.2.1 i + 10) = some (.inr (4, 6, fun j => rfO Ω (bs τ.2.2.1 i + (11 + j)))) := by
  rw [hp_u Ω τ hi (by rw [hq]; decide), hq]
  rfl
theorem hk_lots {Ω : OmT} (hi : i < τ.2.2.2) (hq : τ.2.2.1 i = 6) : hp Ω τ (bs τ.2.2.1 i + 10) = some (.inr (4, 20, fun j => rfO Ω (bs τ.2.2.1 i + (11 + j)))) := by
  rw [hp_u Ω τ hi (by rw [hq]; decide), hq]
  rfl
theorem hk_came {Ω : OmT} (hi : i < τ.2.2.2) (hq : τ.2.2.1 i = 7) : hp Ω τ (bs τ.2.2.1 i + 6) = some (.inr (4, 10, fun j => rfO Ω (bs τ.2.2.1 i + (7 + j)))) := by
  rw [hp_u Ω τ hi (by rw [hq]; decide), hq]
  rfl
theorem hk_rd {Ω : OmT} (hw : KW τ) (hi : i < τ.2.2.2) (hq : τ.2.2.1 i = κ) (h0 : ¬ κ = 0) (h7 : ¬ κ = 7) : hp Ω τ (bs τ.2.2.1 i + (6 + upt κ)) = some (.inl (7, [rfO Ω (bs τ.2.2.1 i + (7 + upt κ)), rfO Ω (bs τ.2.2.1 i + (8 + upt κ))])) := by
  subst hq
  have h := rd_k (hw.2 i hi) h0 h7
  rw [hp_u Ω τ hi (by omega)]
  exact (h.2.2.2 Ω _ _).1
/-- a scalar is written -/
theorem hk_put {Ω : OmT} (hw : KW τ) (hi : i < τ.2.2.2) (hq : τ.2.2.1 i = κ) (k j : Nat) {x : Int32} (h : (κ = 0 ∧ k = 8 + j ∧ j < 4) ∨ (κ = 5 ∧ k = 8 ∧ j = 4) ∨ (κ = 6 ∧ k = 3 + j ∧ (j = 5 ∨ j = 6))) : aup (hp Ω τ) (bs τ.2.2.1 i) (.inl (ukc κ, ([.int (nI κ), rfO Ω (bs τ.2.2.1 i + 1), rfO Ω (bs τ.2.2.1 i + 2), rfO Ω (bs τ.2.2.1 i + 3), rfO Ω (bs τ.2.2.1 i + 4), rfO Ω (bs τ.2.2.1 i + (5 + upt κ)), uRd Ω κ (bs τ.2.2.1 i)] ++ uxf Ω κ (bs τ.2.2.1 i) (τ.1 i)).set k (.int x))) = hp Ω (sI τ i 8 j x) := by
  subst hq
  have key := hp_uw (Ω := Ω) (σ := τ) (τ := sI τ i 8 j x) (i := i) (k := 0) (c := .inl (ukc (τ.2.2.1 i), ([.int (nI (τ.2.2.1 i)), rfO Ω (bs τ.2.2.1 i + 1), rfO Ω (bs τ.2.2.1 i + 2), rfO Ω (bs τ.2.2.1 i + 3), rfO Ω (bs τ.2.2.1 i + 4), rfO Ω (bs τ.2.2.1 i + (5 + upt (τ.2.2.1 i))), uRd Ω (τ.2.2.1 i) (bs τ.2.2.1 i)] ++ uxf Ω (τ.2.2.1 i) (bs τ.2.2.1 i) (τ.1 i)).set k (.int x))) hi hw.1 (usz_pos _) rfl
    (fun s hs => by funext a' j'; simp [sI, hs]) ?_ (fun k' hk' => ucl_congr Ω _ _ k' (fun r hr => ?_))
  · rw [Nat.add_zero] at key
    exact key
  · show some (uob Ω (τ.2.2.1 i) (bs τ.2.2.1 i) ((sI τ i 8 j x).1 i)) = _
    unfold uob
    rcases h with ⟨e, rfl, hj⟩ | ⟨e, rfl, rfl⟩ | ⟨e, rfl, hj⟩
    · rw [e]
      match j, hj with
      | 0, _ => simp [uxf, sI]
      | 1, _ => simp [uxf, sI]
      | 2, _ => simp [uxf, sI]
      | 3, _ => simp [uxf, sI]
    · rw [e]; simp [uxf, sI]
    · rw [e]
      rcases hj with rfl | rfl <;> simp [uxf, sI]
  · have : ¬ r = 8 := fun e => hk' (urow_inj (hw.2 i hi) hr (by rw [e]; rfl))
    funext j'
    simp [sI, this]
end RWS
/-- rows as wholes -/
def addR (f g : Nat → Int32) : Nat → Int32 := fun j => if j < 8 then g j + f j else g j
def zerR (N : Nat) (f : Nat → Int32) : Nat → Int32 := fun j => if j < N then nI 0 else f j
theorem rw_ne {τ : Sg} {i k a N i' k' a' N' : Nat} (h : Rw τ i k a N) (h' : Rw τ i' k' a' N') (hne : ¬ (i = i' ∧ k = k')) : ¬ bs τ.2.2.1 i + k = bs τ.2.2.1 i' + k' := by
  intro e
  rcases Nat.lt_trichotomy i i' with z | z | z
  · have := bs_lt τ.2.2.1 z
    have := h.2.2.2.1
    omega
  · subst z
    exact hne ⟨rfl, by omega⟩
  · have := bs_lt τ.2.2.1 z
    have := h'.2.2.2.1
    omega
theorem KW.of {σ τ : Sg} (h : KW σ) (e : τ.2.2 = σ.2.2) : KW τ := by unfold KW; rw [e]; exact h
theorem sR_L (σ : Sg) (i a : Nat) (f : Nat → Int32) : (sR σ i a f).2 = σ.2 := rfl
theorem sR_I (σ : Sg) (i a : Nat) (f : Nat → Int32) (s' a' j' : Nat) : (sR σ i a f).1 s' a' j' = if s' = i ∧ a' = a then f j' else σ.1 s' a' j' := rfl
/-! the class's own cells -/
theorem hc_put {Ω : OmT} {τ : Sg} (hw : KW τ) (j : Nat) {x : Int32} (hj : j < 2) : aup (hp Ω τ) 0 (.inl (9, ([rfO Ω 1, rfO Ω 2, .int (τ.1 10 0 0), .int (τ.1 10 0 1)] : List Value).set (2 + j) (.int x))) = hp Ω (sI τ 10 0 j x) := by
  funext y
  by_cases hy : y = 0
  · subst hy
    rw [aup_self]
    show _ = some (Sum.inl (9, [rfO Ω 1, rfO Ω 2, .int ((sI τ 10 0 j x).1 10 0 0), .int ((sI τ 10 0 j x).1 10 0 1)]))
    match j, hj with
    | 0, _ => simp [sI]
    | 1, _ => simp [sI]
  · rw [aup_ne hy]
    unfold hp
    by_cases h34 : y < 34
    · rw [if_pos h34, if_pos h34]
      unfold hstc
      split
      next => exact absurd rfl hy
      next => rfl
      next => simp [sI, show ¬ (2 = j) by omega]
      next => simp [sI]
      next => simp [sI]
      next => simp [sI]
      next => simp [sI]
      next k' =>
        congr 4
    · rw [if_neg h34, if_neg h34]
      exact hdyn_congr Ω (σ := τ) (τ := sI τ 10 0 j x) rfl _ (fun i hi => by funext a j'; have : i < 10 := Nat.lt_of_lt_of_le hi hw.1; simp [sI, show ¬ i = 10 by omega]) y
theorem hl_put {Ω : OmT} {τ : Sg} (hw : KW τ) {x : Int32} : aup (hp Ω τ) 2 (.inl (3, ([rfO Ω 3, rfO Ω 4, rfO Ω 5, .int (τ.1 10 0 2)] : List Value).set 3 (.int x))) = hp Ω (sI τ 10 0 2 x) := by
  funext y
  by_cases hy : y = 2
  · subst hy
    rw [aup_self]
    show _ = some (Sum.inl (3, [rfO Ω 3, rfO Ω 4, rfO Ω 5, .int ((sI τ 10 0 2 x).1 10 0 2)]))
    simp [sI]
  · rw [aup_ne hy]
    unfold hp
    by_cases h34 : y < 34
    · rw [if_pos h34, if_pos h34]
      unfold hstc
      split
      next => simp [sI]
      next => rfl
      next => exact absurd rfl hy
      next => simp [sI]
      next => simp [sI]
      next => simp [sI]
      next => simp [sI]
      next k' =>
        congr 4
    · rw [if_neg h34, if_neg h34]
      exact hdyn_congr Ω (σ := τ) (τ := sI τ 10 0 2 x) rfl _ (fun i hi => by funext a j'; have : i < 10 := Nat.lt_of_lt_of_le hi hw.1; simp [sI, show ¬ i = 10 by omega]) y
theorem hl_row {Ω : OmT} {τ : Sg} (hw : KW τ) (r : Nat) {j : Nat} {x : Int32} (hr : r = 1 ∨ r = 2 ∨ r = 3) : aup (hp Ω τ) (2 + r) (.inr (0, 1024, updV (fun j => .int (τ.1 10 r j)) j (.int x))) = hp Ω (sI τ 10 r j x) := by
  funext y
  have e9 : (fun j' => Value.int ((sI τ 10 r j x).1 10 r j')) = updV (fun j => .int (τ.1 10 r j)) j (.int x) := by
    funext j'
    unfold updV
    by_cases e : j' = j
    · simp [sI, e]
    · simp [sI, e]
  by_cases hy : y = 2 + r
  · subst hy
    rw [aup_self, ← e9]
    rcases hr with rfl | rfl | rfl <;> rfl
  · rw [aup_ne hy]
    unfold hp
    by_cases h34 : y < 34
    · rw [if_pos h34, if_pos h34]
      unfold hstc
      split
      next => simp [sI, show ¬ (0 = r) by omega]
      next => rfl
      next => simp [sI, show ¬ (0 = r) by omega]
      next => simp [sI, show ¬ (1 = r) by omega]
      next => simp [sI, show ¬ (2 = r) by omega]
      next => simp [sI, show ¬ (3 = r) by omega]
      next => simp [sI]
      next k' =>
        congr 4
    · rw [if_neg h34, if_neg h34]
      exact hdyn_congr Ω (σ := τ) (τ := sI τ 10 r j x) rfl _ (fun i hi => by funext a j'; have : i < 10 := Nat.lt_of_lt_of_le hi hw.1; simp [sI, show ¬ i = 10 by omega]) y
