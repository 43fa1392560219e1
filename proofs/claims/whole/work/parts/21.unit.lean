/-! ===== a unit more ===== -/
def mlD : Nat → Int32 := upI (upI (upI (upI (fun j => if j < 16 then nI 0 else 0) 0 (nI 10)) 5 (nI 10)) 10 (nI 10)) 15 (nI 10)
/-- a new unit's rows -/
def dD (q a : Nat) : Nat → Int32 := match a with
  | 2 => fun j => if j < upt q then -1 else 0
  | 3 => match q with
    | 2 => mlD
    | q => fun j => if j < unu q then nI (zSv 2 q) else 0
  | 5 => fun j => if j < 1 + upt q then nI 1 else 0
  | 8 => match q with
    | 0 => fun j => match j with
      | 0 => nI 1
      | 1 => -1
      | _ => nI 0
    | _ => fun _ => nI 0
  | _ => fun _ => 0
def uC (q : Nat) (Ω : OmT) (B : Nat) : List Cel := match q with
  | 0 => uC0 Ω B
  | 1 => uC1 Ω B
  | 2 => uC2 Ω B
  | 3 => uC3 Ω B
  | 4 => uC4 Ω B
  | 5 => uC5 Ω B
  | 6 => uC6 Ω B
  | _ => uC7 Ω B
theorem rf_as (Ω : OmT) (B a : Nat) : (fun j => rfO Ω (B + a + 1 + j)) = fun j => rfO Ω (B + ((a + 1) + j)) := by
  funext j
  rw [show B + a + 1 + j = B + ((a + 1) + j) by omega]
theorem utl_none (Ω : OmT) {q : Nat} (hq : q < 8) (b : Nat) (d : Nat → Nat → Int32) {m : Nat} (h : usz q ≤ m + (6 + upt q)) : utl Ω q b d m = none := by
  match q, hq with
  | 0, _ => match m, h with
    | 0, h => exact absurd h (by decide)
    | m + 1, _ => rfl
  | 1, _ => match m, h with
    | 0, h => exact absurd h (by decide)
    | 1, h => exact absurd h (by decide)
    | 2, h => exact absurd h (by decide)
    | m + 3, _ => rfl
  | 2, _ => match m, h with
    | 0, h => exact absurd h (by decide)
    | 1, h => exact absurd h (by decide)
    | 2, h => exact absurd h (by decide)
    | m + 3, _ => rfl
  | 3, _ => match m, h with
    | 0, h => exact absurd h (by decide)
    | 1, h => exact absurd h (by decide)
    | 2, h => exact absurd h (by decide)
    | 3, h => exact absurd h (by decide)
    | m + 4, _ => show (if m + 1 = 0 then some (arI 8 (d 7)) else none) = none; rw [if_neg (by omega)]
  | 4, _ => match m, h with
    | 0, h => exact absurd h (by decide)
    | 1, h => exact absurd h (by decide)
    | 2, h => exact absurd h (by decide)
    | 3, h => exact absurd h (by decide)
    | m + 4, _ => show (if m + 1 = 0 then some (arI 8 (d 7)) else none) = none; rw [if_neg (by omega)]
  | 5, _ =>
    have h : 17 ≤ m + 7 := h
    obtain ⟨k, rfl⟩ : ∃ k, m = k + 1 + 3 := ⟨m - 4, by omega⟩
    show (if k < 6 then some (arI 8 (d (20 + k))) else none) = none
    rw [if_neg (by omega)]
  | 6, _ =>
    have h : 31 ≤ m + 7 := h
    obtain ⟨k, rfl⟩ : ∃ k, m = k + 1 + 3 := ⟨m - 4, by omega⟩
    show (if k < 20 then some (arI 8 (d (40 + k))) else none) = none
    rw [if_neg (by omega)]
  | 7, _ =>
    have h : 17 ≤ m + 6 := h
    obtain ⟨k, rfl⟩ : ∃ k, m = k + 1 := ⟨m - 1, by omega⟩
    show (if k < 10 then some (arI 8 (d (60 + k))) else none) = none
    rw [if_neg (by omega)]
theorem ucl_none (Ω : OmT) {q : Nat} (hq : q < 8) (b : Nat) (d : Nat → Nat → Int32) {k : Nat} (h : usz q ≤ k) : ucl Ω q b d k = none := by
  have h5 := usz_u hq
  obtain ⟨m, rfl⟩ : ∃ m, k = m + 5 := ⟨k - 5, by omega⟩
  show (if m < upt q then some (arI 8 (d (10 + m))) else if m = upt q then some (arI (unu q) (d 3)) else utl Ω q b d (m - (1 + upt q))) = none
  rw [if_neg (by omega), if_neg (by omega)]
  exact utl_none Ω hq b d (by omega)
theorem uC_len (Ω : OmT) (B : Nat) {q : Nat} (hq : q < 8) : (uC q Ω B).length = usz q := by
  match q, hq with
  | 0, _ => rfl
  | 1, _ => rfl
  | 2, _ => rfl
  | 3, _ => rfl
  | 4, _ => rfl
  | 5, _ => rfl
  | 6, _ => rfl
  | 7, _ => rfl
theorem uC_ok0 (Ω : OmT) (B : Nat) : ∀ k, k < 8 → (uC 0 Ω B)[k]? = ucl Ω 0 B (dD 0) k
  | 0, _ => rfl
  | 1, _ => rfl
  | 2, _ => rfl
  | 3, _ => rfl
  | 4, _ => by
    show some (Sum.inr (4, _, fun j => rfO Ω (B + 4 + 1 + j))) = _
    rw [rf_as]
    rfl
  | 5, _ => rfl
  | 6, _ => rfl
  | 7, _ => rfl
  | k + 8, h => absurd h (by omega)
theorem uC_ok1 (Ω : OmT) (B : Nat) : ∀ k, k < 10 → (uC 1 Ω B)[k]? = ucl Ω 1 B (dD 1) k
  | 0, _ => rfl
  | 1, _ => rfl
  | 2, _ => rfl
  | 3, _ => rfl
  | 4, _ => by
    show some (Sum.inr (4, _, fun j => rfO Ω (B + 4 + 1 + j))) = _
    rw [rf_as]
    rfl
  | 5, _ => rfl
  | 6, _ => rfl
  | 7, _ => rfl
  | 8, _ => rfl
  | 9, _ => rfl
  | k + 10, h => absurd h (by omega)
theorem uC_ok2 (Ω : OmT) (B : Nat) : ∀ k, k < 10 → (uC 2 Ω B)[k]? = ucl Ω 2 B (dD 2) k
  | 0, _ => rfl
  | 1, _ => rfl
  | 2, _ => rfl
  | 3, _ => rfl
  | 4, _ => by
    show some (Sum.inr (4, _, fun j => rfO Ω (B + 4 + 1 + j))) = _
    rw [rf_as]
    rfl
  | 5, _ => rfl
  | 6, _ => rfl
  | 7, _ => rfl
  | 8, _ => rfl
  | 9, _ => rfl
  | k + 10, h => absurd h (by omega)
theorem uC_ok3 (Ω : OmT) (B : Nat) : ∀ k, k < 12 → (uC 3 Ω B)[k]? = ucl Ω 3 B (dD 3) k
  | 0, _ => rfl
  | 1, _ => rfl
  | 2, _ => rfl
  | 3, _ => rfl
  | 4, _ => by
    show some (Sum.inr (4, _, fun j => rfO Ω (B + 4 + 1 + j))) = _
    rw [rf_as]
    rfl
  | 5, _ => rfl
  | 6, _ => rfl
  | 7, _ => rfl
  | 8, _ => rfl
  | 9, _ => rfl
  | 10, _ => rfl
  | 11, _ => rfl
  | k + 12, h => absurd h (by omega)
theorem uC_ok4 (Ω : OmT) (B : Nat) : ∀ k, k < 12 → (uC 4 Ω B)[k]? = ucl Ω 4 B (dD 4) k
  | 0, _ => rfl
  | 1, _ => rfl
  | 2, _ => rfl
  | 3, _ => rfl
  | 4, _ => by
    show some (Sum.inr (4, _, fun j => rfO Ω (B + 4 + 1 + j))) = _
    rw [rf_as]
    rfl
  | 5, _ => rfl
  | 6, _ => rfl
  | 7, _ => rfl
  | 8, _ => rfl
  | 9, _ => rfl
  | 10, _ => rfl
  | 11, _ => rfl
  | k + 12, h => absurd h (by omega)
theorem uC_ok5 (Ω : OmT) (B : Nat) : ∀ k, k < 17 → (uC 5 Ω B)[k]? = ucl Ω 5 B (dD 5) k
  | 0, _ => rfl
  | 1, _ => rfl
  | 2, _ => rfl
  | 3, _ => rfl
  | 4, _ => by
    show some (Sum.inr (4, _, fun j => rfO Ω (B + 4 + 1 + j))) = _
    rw [rf_as]
    rfl
  | 5, _ => rfl
  | 6, _ => rfl
  | 7, _ => rfl
  | 8, _ => rfl
  | 9, _ => rfl
  | 10, _ => by
    show some (Sum.inr (4, _, fun j => rfO Ω (B + 10 + 1 + j))) = _
    rw [rf_as]
    rfl
  | 11, _ => rfl
  | 12, _ => rfl
  | 13, _ => rfl
  | 14, _ => rfl
  | 15, _ => rfl
  | 16, _ => rfl
  | k + 17, h => absurd h (by omega)
theorem uC_ok6 (Ω : OmT) (B : Nat) : ∀ k, k < 31 → (uC 6 Ω B)[k]? = ucl Ω 6 B (dD 6) k
  | 0, _ => rfl
  | 1, _ => rfl
  | 2, _ => rfl
  | 3, _ => rfl
  | 4, _ => by
    show some (Sum.inr (4, _, fun j => rfO Ω (B + 4 + 1 + j))) = _
    rw [rf_as]
    rfl
  | 5, _ => rfl
  | 6, _ => rfl
  | 7, _ => rfl
  | 8, _ => rfl
  | 9, _ => rfl
  | 10, _ => by
    show some (Sum.inr (4, _, fun j => rfO Ω (B + 10 + 1 + j))) = _
    rw [rf_as]
    rfl
  | 11, _ => rfl
  | 12, _ => rfl
  | 13, _ => rfl
  | 14, _ => rfl
  | 15, _ => rfl
  | 16, _ => rfl
  | 17, _ => rfl
  | 18, _ => rfl
  | 19, _ => rfl
  | 20, _ => rfl
  | 21, _ => rfl
  | 22, _ => rfl
  | 23, _ => rfl
  | 24, _ => rfl
  | 25, _ => rfl
  | 26, _ => rfl
  | 27, _ => rfl
  | 28, _ => rfl
  | 29, _ => rfl
  | 30, _ => rfl
  | k + 31, h => absurd h (by omega)
theorem uC_ok7 (Ω : OmT) (B : Nat) : ∀ k, k < 17 → (uC 7 Ω B)[k]? = ucl Ω 7 B (dD 7) k
  | 0, _ => rfl
  | 1, _ => rfl
  | 2, _ => rfl
  | 3, _ => rfl
  | 4, _ => by
    show some (Sum.inr (4, _, fun j => rfO Ω (B + 4 + 1 + j))) = _
    rw [rf_as]
    rfl
  | 5, _ => rfl
  | 6, _ => by
    show some (Sum.inr (4, _, fun j => rfO Ω (B + 6 + 1 + j))) = _
    rw [rf_as]
    rfl
  | 7, _ => rfl
  | 8, _ => rfl
  | 9, _ => rfl
  | 10, _ => rfl
  | 11, _ => rfl
  | 12, _ => rfl
  | 13, _ => rfl
  | 14, _ => rfl
  | 15, _ => rfl
  | 16, _ => rfl
  | k + 17, h => absurd h (by omega)
theorem uC_ok (Ω : OmT) (B : Nat) {q : Nat} (hq : q < 8) (k : Nat) : (uC q Ω B)[k]? = ucl Ω q B (dD q) k := by
  rcases Nat.lt_or_ge k (usz q) with h | h
  · match q, hq with
    | 0, _ => exact uC_ok0 Ω B k h
    | 1, _ => exact uC_ok1 Ω B k h
    | 2, _ => exact uC_ok2 Ω B k h
    | 3, _ => exact uC_ok3 Ω B k h
    | 4, _ => exact uC_ok4 Ω B k h
    | 5, _ => exact uC_ok5 Ω B k h
    | 6, _ => exact uC_ok6 Ω B k h
    | 7, _ => exact uC_ok7 Ω B k h
  · rw [ucl_none Ω hq B _ h, List.getElem?_eq_none (by rw [uC_len Ω B hq]; exact h)]
theorem ct_newU (l : Launch) (Ω : OmT) (A : AHp) (B : Nat) (hA : ∀ x, B ≤ x → A x = none) {q : Nat} (hq : q < 8) : ZM l Ω yX10_newUnit cX10_newUnit 1 (some (.object "GrindWorks$Unit")) rn_X10_newUnit [.int (nI q)] A B (some (rfO Ω B)) (uL A B (uC q Ω B)) (B + usz q) := by
  match q, hq with
  | 0, _ => exact ct_X10_newUnit_0 l Ω A B hA
  | 1, _ => exact ct_X10_newUnit_1 l Ω A B hA
  | 2, _ => exact ct_X10_newUnit_2 l Ω A B hA
  | 3, _ => exact ct_X10_newUnit_3 l Ω A B hA
  | 4, _ => exact ct_X10_newUnit_4 l Ω A B hA
  | 5, _ => exact ct_X10_newUnit_5 l Ω A B hA
  | 6, _ => exact ct_X10_newUnit_6 l Ω A B hA
  | 7, _ => exact ct_X10_newUnit_7 l Ω A B hA
theorem zcau {q : Nat} (hq : q < 8) : ∃ c : vw_C, vwCl[ukc q]? = some c ∧ (c.1, "GrindWorks$Unit") ∈ zCa := by
  match q, hq with
  | 0, _ => exact ⟨_, rfl, by decide +kernel⟩
  | 1, _ => exact ⟨_, rfl, by decide +kernel⟩
  | 2, _ => exact ⟨_, rfl, by decide +kernel⟩
  | 3, _ => exact ⟨_, rfl, by decide +kernel⟩
  | 4, _ => exact ⟨_, rfl, by decide +kernel⟩
  | 5, _ => exact ⟨_, rfl, by decide +kernel⟩
  | 6, _ => exact ⟨_, rfl, by decide +kernel⟩
  | 7, _ => exact ⟨_, rfl, by decide +kernel⟩
theorem hp_none {Ω : OmT} {σ : Sg} (hw : KW σ) {x : Nat} (h : hN σ ≤ x) : hp Ω σ x = none := by
  unfold hp
  have b34 : 34 ≤ hN σ := bs_le σ.2.2.1 σ.2.2.2
  have hB : bs σ.2.2.1 σ.2.2.2 = hN σ := rfl
  rw [if_neg (by omega)]
  obtain ⟨n, hn⟩ : ∃ n, σ.2.2.2 = n := ⟨_, rfl⟩
  have h : bs σ.2.2.1 n ≤ x := hn ▸ h
  rw [hn]
  match n, hn, h with
  | 0, _, _ => rfl
  | n + 1, hn, h =>
    have h : bs σ.2.2.1 n + usz (σ.2.2.1 n) ≤ x := h
    unfold hdyn
    rw [if_pos (by omega)]
    exact ucl_none Ω (hw.2 n (by omega)) _ _ (by omega)
def c_unit (σ : Sg) (q : Nat) : Sg := (fun s a j => if s = σ.2.2.2 then dD q a j else if s = 10 ∧ a = 0 ∧ j = 0 then nI (σ.2.2.2 + 1) else σ.1 s a j, σ.2.1, (fun i => if i = σ.2.2.2 then q else σ.2.2.1 i), σ.2.2.2 + 1)
theorem bs_congr {κ κ' : Nat → Nat} : ∀ {i : Nat}, (∀ j, j < i → κ j = κ' j) → bs κ i = bs κ' i
  | 0, _ => rfl
  | i + 1, h => by
    show bs κ i + usz (κ i) = bs κ' i + usz (κ' i)
    rw [bs_congr (fun j hj => h j (by omega)), h i (by omega)]
theorem c_unit_bs (σ : Sg) (q : Nat) {i : Nat} (h : i ≤ σ.2.2.2) : bs (c_unit σ q).2.2.1 i = bs σ.2.2.1 i := bs_congr (fun j hj => by show (if j = σ.2.2.2 then q else σ.2.2.1 j) = _; rw [if_neg (by omega)])
theorem c_unit_N (σ : Sg) (q : Nat) : hN (c_unit σ q) = hN σ + usz q := by
  show bs (c_unit σ q).2.2.1 σ.2.2.2 + usz (if σ.2.2.2 = σ.2.2.2 then q else _) = _
  rw [c_unit_bs σ q (Nat.le_refl _), if_pos rfl]
theorem c_unit_dyn {Ω : OmT} (σ : Sg) (hn : σ.2.2.2 < 10) (q : Nat) : ∀ m, m ≤ σ.2.2.2 → ∀ x, hdyn Ω (c_unit σ q) m x = hdyn Ω σ m x
  | 0, _, _ => rfl
  | m + 1, h, x => by
    unfold hdyn
    have e1 : (c_unit σ q).2.2.1 m = σ.2.2.1 m := by show (if m = σ.2.2.2 then q else σ.2.2.1 m) = _; rw [if_neg (by omega)]
    have e2 : (c_unit σ q).1 m = σ.1 m := by
      funext a j
      show (if m = σ.2.2.2 then dD q a j else if m = 10 ∧ a = 0 ∧ j = 0 then nI (σ.2.2.2 + 1) else σ.1 m a j) = _
      rw [if_neg (by omega), if_neg (by omega)]
    rw [c_unit_bs σ q (by omega), e1, e2, c_unit_dyn σ hn q m (by omega) x]
theorem hp_unit {Ω : OmT} {σ : Sg} (hn : σ.2.2.2 < 10) {q : Nat} (hq : q < 8) : aup (aup (uL (hp Ω σ) (hN σ) (uC q Ω (hN σ))) 1 (.inr (3, 10, updV (fun i => if i < σ.2.2.2 then rfO Ω (bs σ.2.2.1 i) else .null) σ.2.2.2 (rfO Ω (hN σ))))) 0 (.inl (9, [rfO Ω 1, rfO Ω 2, .int (nI (σ.2.2.2 + 1)), .int (σ.1 10 0 1)])) = hp Ω (c_unit σ q) := by
  have b34 : 34 ≤ hN σ := bs_le σ.2.2.1 σ.2.2.2
  have hB : bs σ.2.2.1 σ.2.2.2 = hN σ := rfl
  have eI : ∀ s a j, ¬ s = σ.2.2.2 → ¬ (s = 10 ∧ a = 0 ∧ j = 0) → (c_unit σ q).1 s a j = σ.1 s a j := by
    intro s a j h1 h2
    show (if s = σ.2.2.2 then dD q a j else if s = 10 ∧ a = 0 ∧ j = 0 then nI (σ.2.2.2 + 1) else σ.1 s a j) = _
    rw [if_neg h1, if_neg h2]
  funext x
  by_cases h0 : x = 0
  · subst h0
    rw [aup_self]
    show _ = some (Sum.inl (9, [rfO Ω 1, rfO Ω 2, .int ((c_unit σ q).1 10 0 0), .int ((c_unit σ q).1 10 0 1)]))
    rw [eI 10 0 1 (by omega) (by omega)]
    rw [show (c_unit σ q).1 10 0 0 = nI (σ.2.2.2 + 1) from by
      show (if 10 = σ.2.2.2 then dD q 0 0 else if 10 = 10 ∧ 0 = 0 ∧ 0 = 0 then nI (σ.2.2.2 + 1) else σ.1 10 0 0) = _
      rw [if_neg (by omega), if_pos ⟨rfl, rfl, rfl⟩]]
  rw [aup_ne h0]
  by_cases h1 : x = 1
  · subst h1
    rw [aup_self]
    show _ = some (Sum.inr (3, 10, fun i => if i < σ.2.2.2 + 1 then rfO Ω (bs (c_unit σ q).2.2.1 i) else .null))
    congr 4
    funext i
    unfold updV
    dsimp only
    by_cases e : i = σ.2.2.2
    · subst e
      rw [if_pos rfl, if_pos (by omega), c_unit_bs σ q (Nat.le_refl _)]
    · rw [if_neg e]
      by_cases e2 : i < σ.2.2.2
      · rw [if_pos e2, if_pos (by omega), c_unit_bs σ q (by omega)]
      · rw [if_neg e2, if_neg (by omega)]
  rw [aup_ne h1]
  by_cases hx : x < hN σ
  · rw [uL_lt hx]
    unfold hp
    by_cases h34 : x < 34
    · rw [if_pos h34, if_pos h34]
      unfold hstc
      split
      next => exact absurd rfl h0
      next => exact absurd rfl h1
      next => rw [eI 10 0 2 (by omega) (by omega)]
      next => congr 4; funext j; rw [eI 10 1 j (by omega) (by omega)]
      next => congr 4; funext j; rw [eI 10 2 j (by omega) (by omega)]
      next => congr 4; funext j; rw [eI 10 3 j (by omega) (by omega)]
      next => simp only [mfs]; rw [eI 11 30 0 (by omega) (by omega), eI 11 30 1 (by omega) (by omega), eI 11 30 2 (by omega) (by omega)]
      next k =>
        congr 4
        funext j
        unfold mvl
        split
        next => rfl
        next => rfl
        next => rfl
        next => rw [eI 11 _ j (by omega) (by omega)]
    · rw [if_neg h34, if_neg h34]
      show _ = if bs (c_unit σ q).2.2.1 σ.2.2.2 ≤ x then ucl Ω ((c_unit σ q).2.2.1 σ.2.2.2) (bs (c_unit σ q).2.2.1 σ.2.2.2) ((c_unit σ q).1 σ.2.2.2) (x - bs (c_unit σ q).2.2.1 σ.2.2.2) else hdyn Ω (c_unit σ q) σ.2.2.2 x
      rw [c_unit_bs σ q (Nat.le_refl _), if_neg (by omega), c_unit_dyn σ hn q _ (Nat.le_refl _)]
  · have e : uL (hp Ω σ) (hN σ) (uC q Ω (hN σ)) x = ucl Ω q (hN σ) (dD q) (x - hN σ) := by
      unfold uL
      rw [if_neg hx, uC_ok Ω _ hq]
    rw [e]
    unfold hp
    rw [if_neg (by omega)]
    show _ = if bs (c_unit σ q).2.2.1 σ.2.2.2 ≤ x then ucl Ω ((c_unit σ q).2.2.1 σ.2.2.2) (bs (c_unit σ q).2.2.1 σ.2.2.2) ((c_unit σ q).1 σ.2.2.2) (x - bs (c_unit σ q).2.2.1 σ.2.2.2) else hdyn Ω (c_unit σ q) σ.2.2.2 x
    have e1 : (c_unit σ q).2.2.1 σ.2.2.2 = q := if_pos rfl
    have e2 : (c_unit σ q).1 σ.2.2.2 = dD q := by
      funext a j
      exact if_pos rfl
    rw [c_unit_bs σ q (Nat.le_refl _), if_pos (by omega), e1, e2]
abbrev rn_X10_unit : Room := { frames := 5, cells := 31, slots := 223, locals := 106 }
set_option maxHeartbeats 4000000 in
set_option maxRecDepth 100000 in
theorem ct_X10_unit_n (l : Launch) (Ω : OmT) (σ : Sg) (u : Int32) (h : ¬ inR 0 7 u) : ZM l Ω yX10_unit cX10_unit 2 (some .int) rm_X10_unit [rfO Ω 0, .int u] (hp Ω σ) (hN σ) (some (.int (-1))) (hp Ω σ) (hN σ) := by
  refine ZM_of (by decide) (Nat.le_of_ble_eq_true rfl) (fun E hE C hQ => ?_)
  have bad : ZV l Ω E 0 0 10 [(0, rfO Ω 0), (1, .int u)] [] (hp Ω σ) (hN σ) := by
    refine z_iconst (pc := 10) (v := (-1)) C dX10_unit_10 (by decide) ?_
    -- at 11: ireturn 
    exact z_iret (pc := 11) C hQ dX10_unit_11 rfl rfl rfl (by decide) (by decide)
  refine z_iload_n (pc := 0) C dX10_unit_0 rfl ?_
  -- at 1: iflt 
  refine z_if_lt (pc := 1) (tgt := 10) C dX10_unit_1 (by decide) (fun _ => bad) (fun h1 => ?_)
  refine z_iload_n (pc := 4) C dX10_unit_4 rfl ?_
  refine z_bipush (pc := 5) (v := nI 8) C dX10_unit_5 (by decide) ?_
  -- at 7: if_icmplt 
  refine z_icmp_lt (pc := 7) (tgt := 12) C dX10_unit_7 (by decide) (fun h2 => absurd (inR_in (b := 7) (by decide) h1 (Int32.not_le.mpr h2)) h) (fun _ => bad)
set_option maxHeartbeats 4000000 in
set_option maxRecDepth 100000 in
theorem ct_X10_unit_f (l : Launch) (Ω : OmT) (σ : Sg) (q : Nat) (hq : q < 8) (e : σ.1 10 0 0 = nI 10) : ZM l Ω yX10_unit cX10_unit 2 (some .int) rm_X10_unit [rfO Ω 0, .int (nI q)] (hp Ω σ) (hN σ) (some (.int (-4))) (hp Ω σ) (hN σ) := by
  refine ZM_of (by decide) (Nat.le_of_ble_eq_true rfl) (fun E hE C hQ => ?_)
  refine z_iload_n (pc := 0) C dX10_unit_0 rfl ?_
  -- at 1: iflt 
  refine z_if_ltF (pc := 1) (tgt := 10) C dX10_unit_1 (by decide) (by omega) ?_
  refine z_iload_n (pc := 4) C dX10_unit_4 rfl ?_
  refine z_bipush (pc := 5) (v := nI 8) C dX10_unit_5 (by decide) ?_
  -- at 7: if_icmplt 
  refine z_icmp_ltT (pc := 7) (tgt := 12) C dX10_unit_7 (by decide) (by omega) (by omega) (by omega) ?_
  first | refine z_aload_n (pc := 12) C dX10_unit_12 rfl ?_ | refine z_aload_nN (pc := 12) C dX10_unit_12 rfl ?_
  refine z_getf (pc := 13) C dX10_unit_13 zf_X10_24_9 rfl rfl ?_; rw [e]
  refine z_bipush (pc := 16) (v := nI 10) C dX10_unit_16 (by decide) ?_
  -- at 18: if_icmplt 
  refine z_icmp_ltF (pc := 18) (tgt := 24) C dX10_unit_18 (by decide) (by omega) (by omega) (by omega) ?_
  refine z_bipush (pc := 21) (v := (-4)) C dX10_unit_21 (by decide) ?_
  -- at 23: ireturn 
  exact z_iret (pc := 23) C hQ dX10_unit_23 rfl rfl rfl (by decide) (by decide)
set_option maxHeartbeats 4000000 in
set_option maxRecDepth 100000 in
theorem ct_X10_unit (l : Launch) (Ω : OmT) (σ : Sg) (hw : KW σ) (hn : σ.2.2.2 < 10) (q : Nat) (hq : q < 8) (e : σ.1 10 0 0 = nI σ.2.2.2) : ZM l Ω yX10_unit cX10_unit 2 (some .int) rn_X10_unit [rfO Ω 0, .int (nI q)] (hp Ω σ) (hN σ) (some (.int (nI σ.2.2.2))) (hp Ω (c_unit σ q)) (hN (c_unit σ q)) := by
  refine ZM_of (by decide) (Nat.le_of_ble_eq_true rfl) (fun E hE C hQ => ?_)
  have b34 : 34 ≤ hN σ := bs_le σ.2.2.1 σ.2.2.2
  have hB : bs σ.2.2.1 σ.2.2.2 = hN σ := rfl
  obtain ⟨cq, hcq, hca⟩ := zcau hq
  have hv : uL (hp Ω σ) (hN σ) (uC q Ω (hN σ)) (hN σ) = some (uob Ω q (hN σ) (dD q)) := by
    unfold uL
    rw [if_neg (by omega), Nat.sub_self, uC_ok Ω _ hq]
    rfl
  have e9 : (c_unit σ q).1 10 0 0 = nI (σ.2.2.2 + 1) := by
    show (if 10 = σ.2.2.2 then dD q 0 0 else if 10 = 10 ∧ 0 = 0 ∧ 0 = 0 then nI (σ.2.2.2 + 1) else σ.1 10 0 0) = _
    rw [if_neg (by omega), if_pos ⟨rfl, rfl, rfl⟩]
  refine z_iload_n (pc := 0) C dX10_unit_0 rfl ?_
  -- at 1: iflt 
  refine z_if_ltF (pc := 1) (tgt := 10) C dX10_unit_1 (by decide) (by omega) ?_
  refine z_iload_n (pc := 4) C dX10_unit_4 rfl ?_
  refine z_bipush (pc := 5) (v := nI 8) C dX10_unit_5 (by decide) ?_
  -- at 7: if_icmplt 
  refine z_icmp_ltT (pc := 7) (tgt := 12) C dX10_unit_7 (by decide) (by omega) (by omega) (by omega) ?_
  first | refine z_aload_n (pc := 12) C dX10_unit_12 rfl ?_ | refine z_aload_nN (pc := 12) C dX10_unit_12 rfl ?_
  refine z_getf (pc := 13) C dX10_unit_13 zf_X10_24_9 rfl rfl ?_; rw [e]
  refine z_bipush (pc := 16) (v := nI 10) C dX10_unit_16 (by decide) ?_
  -- at 18: if_icmplt 
  refine z_icmp_ltT (pc := 18) (tgt := 24) C dX10_unit_18 (by decide) (by omega) (by omega) (by omega) ?_
  first | refine z_aload_n (pc := 24) C dX10_unit_24 rfl ?_ | refine z_aload_nN (pc := 24) C dX10_unit_24 rfl ?_
  refine z_getf (pc := 25) C dX10_unit_25 zf_X10_13_9 rfl rfl ?_
  first | refine z_aload_n (pc := 28) C dX10_unit_28 rfl ?_ | refine z_aload_nN (pc := 28) C dX10_unit_28 rfl ?_
  refine z_getf (pc := 29) C dX10_unit_29 zf_X10_24_9 rfl rfl ?_; rw [e]
  refine z_iload_n (pc := 32) C dX10_unit_32 rfl ?_
  -- at 33: invokestatic Method newUnit:(I)LGrindWorks$Unit;
  refine z_callS (pc := 33) C dX10_unit_33 zy_X10_newUnit kw_51 kw_52 (ct_newU l Ω (hp Ω σ) (hN σ) (fun x hx => hp_none hw hx) hq) rfl rfl ⟨⟨by decide, by decide⟩, by decide, by decide⟩ (Nat.le_of_ble_eq_true rfl) ?_; dsimp only [Option.toList_some, List.cons_append, List.nil_append]
  refine z_aast (pc := 36) (N := 10) C dX10_unit_36 ((uL_lt (by omega)).trans rfl) hv hcq hca (by omega) (by decide) rfl ?_
  refine z_aload_n (pc := 37) C dX10_unit_37 rfl ?_
  refine z_dup (pc := 38) C dX10_unit_38 rfl ?_
  refine z_getf (pc := 39) C dX10_unit_39 zf_X10_24_9 ((aup_ne (by decide)).trans ((uL_lt (by omega)).trans rfl)) rfl ?_
  rw [e]
  refine z_iconst (pc := 42) (v := nI 1) C dX10_unit_42 (by decide) ?_
  refine z_iaddN (pc := 43) C dX10_unit_43 ?_
  refine z_putfI (pc := 44) C dX10_unit_44 zp_X10_24_9 ((aup_ne (by decide)).trans ((uL_lt (by omega)).trans rfl)) (Nat.le_of_ble_eq_true rfl) (hp_unit hn hq) ?_
  first | refine z_aload_n (pc := 47) C dX10_unit_47 rfl ?_ | refine z_aload_nN (pc := 47) C dX10_unit_47 rfl ?_
  refine z_getf (pc := 48) C dX10_unit_48 zf_X10_24_9 rfl rfl ?_
  -- at 51: iconst_1 
  rw [e9]
  refine z_iconst (pc := 51) (v := nI 1) C dX10_unit_51 (by decide) ?_
  first | with_reducible refine z_isubN (pc := 52) C dX10_unit_52 (by omega) ?_ | refine z_isub (pc := 52) C dX10_unit_52 ?_
  -- at 53: ireturn 
  exact z_iret (pc := 53) C hQ dX10_unit_53 rfl rfl (by rw [c_unit_N]) (Nat.le_of_ble_eq_true rfl) (Nat.le_of_ble_eq_true rfl)
