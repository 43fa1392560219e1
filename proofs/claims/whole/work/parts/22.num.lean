/-! ===== sums of naturals, rows without negative numbers, what a row weighs ===== -/
theorem tn_of {x : Int32} (h : ¬ x < 0) : x = nI (tn x) ∧ tn x < 2147483648 := by
  obtain ⟨j, hj, rfl⟩ := nI_of h
  rw [tn_nI hj]
  exact ⟨rfl, hj⟩
theorem tn_add {x y : Int32} (hx : ¬ x < 0) (hy : ¬ y < 0) (h : tn x + tn y < 2147483648) : ¬ (x + y) < 0 ∧ tn (x + y) = tn x + tn y := by
  obtain ⟨a, ha, rfl⟩ := nI_of hx
  obtain ⟨b, hb, rfl⟩ := nI_of hy
  rw [tn_nI ha, tn_nI hb] at h
  rw [nI_add, tn_nI ha, tn_nI hb]
  exact ⟨nI_pos h, tn_nI h⟩
theorem nI_0' : nI 0 = (0 : Int32) := rfl
theorem tn_0 : tn 0 = 0 := tn_nI (k := 0) (by decide)
theorem nn_0 : ¬ (0 : Int32) < 0 := by decide
theorem toL_add {x y : Int32} (hx : ¬ x < 0) (hy : ¬ y < 0) (h : tn x + tn y < 2147483648) : (x + y).toInt64 = x.toInt64 + y.toInt64 := by
  obtain ⟨a, ha, rfl⟩ := nI_of hx
  obtain ⟨b, hb, rfl⟩ := nI_of hy
  rw [tn_nI ha, tn_nI hb] at h
  rw [nI_add, nI_l h, nI_l ha, nI_l hb, lN_add]
def nsum (f : Nat → Nat) : Nat → Nat
  | 0 => 0
  | k + 1 => nsum f k + f k
theorem nsum_congr {f g : Nat → Nat} : ∀ {k : Nat}, (∀ j, j < k → f j = g j) → nsum f k = nsum g k
  | 0, _ => rfl
  | k + 1, h => by
    show nsum f k + f k = nsum g k + g k
    rw [nsum_congr (fun j hj => h j (by omega)), h k (by omega)]
theorem nsum_le {f : Nat → Nat} {j : Nat} : ∀ {k : Nat}, j < k → f j ≤ nsum f k
  | 0, h => absurd h (by omega)
  | k + 1, h => by
    show f j ≤ nsum f k + f k
    by_cases e : j = k
    · subst e; omega
    · have := nsum_le (f := f) (show j < k by omega)
      omega
theorem nsum_upd {f g : Nat → Nat} {j : Nat} : ∀ {k : Nat}, j < k → (∀ i, ¬ i = j → g i = f i) → nsum g k + f j = nsum f k + g j
  | 0, h, _ => absurd h (by omega)
  | k + 1, h, hg => by
    show nsum g k + g k + f j = nsum f k + f k + g j
    by_cases e : j = k
    · subst e
      rw [nsum_congr (f := g) (g := f) (fun i hi => hg i (by omega))]
      omega
    · have := nsum_upd (f := f) (g := g) (show j < k by omega) hg
      rw [hg k (by omega)]
      omega
theorem nsum_add (f g : Nat → Nat) : ∀ k, nsum (fun j => f j + g j) k = nsum f k + nsum g k
  | 0 => rfl
  | k + 1 => by
    show nsum _ k + (f k + g k) = nsum f k + f k + (nsum g k + g k)
    rw [nsum_add f g k]
    omega
theorem nsum_mono {f : Nat → Nat} {a : Nat} : ∀ {k : Nat}, a ≤ k → nsum f a ≤ nsum f k
  | 0, h => by
    have : a = 0 := by omega
    subst this; exact Nat.le_refl _
  | k + 1, h => by
    by_cases e : a = k + 1
    · subst e; exact Nat.le_refl _
    · have := nsum_mono (f := f) (show a ≤ k by omega)
      show nsum f a ≤ nsum f k + f k
      omega
theorem nsum_bound {f : Nat → Nat} {B : Nat} : ∀ {k : Nat}, (∀ j, j < k → f j ≤ B) → nsum f k ≤ B * k
  | 0, _ => Nat.zero_le _
  | k + 1, h => by
    have h1 := nsum_bound (f := f) (B := B) (k := k) (fun j hj => h j (by omega))
    have h2 := h k (by omega)
    show nsum f k + f k ≤ B * (k + 1)
    rw [Nat.mul_succ]
    omega
theorem nsum_zero {f : Nat → Nat} : ∀ {k : Nat}, (∀ j, j < k → f j = 0) → nsum f k = 0
  | 0, _ => rfl
  | k + 1, h => by
    show nsum f k + f k = 0
    rw [nsum_zero (fun j hj => h j (by omega)), h k (by omega)]
theorem l_sum_n {f : Nat → Int32} {g : Nat → Nat} : ∀ {k : Nat}, (∀ j, j < k → f j = nI (g j)) → l_sum f k = nI (nsum g k)
  | 0, _ => rfl
  | k + 1, h => by
    show l_sum f k + f k = nI (nsum g k + g k)
    rw [l_sum_n (fun j hj => h j (by omega)), h k (by omega), nI_add]
theorem lSum_n {f : Nat → Int64} {g : Nat → Nat} : ∀ {k : Nat}, (∀ j, j < k → f j = lN (g j)) → lSum f k = lN (nsum g k)
  | 0, _ => rfl
  | k + 1, h => by
    show lSum f k + f k = lN (nsum g k + g k)
    rw [lSum_n (fun j hj => h j (by omega)), h k (by omega), lN_add]
def nnR (f : Nat → Int32) : Prop := ∀ c, c < 8 → ¬ f c < 0
def wt (s : Nat) (f : Nat → Int32) : Nat := nsum (fun z => tn (f (2 * z + s))) 4
theorem wt_cell {f : Nat → Int32} {c : Nat} (hc : c < 8) : tn (f c) ≤ wt (c % 2) f := by
  have h := nsum_le (f := fun z => tn (f (2 * z + c % 2))) (j := c / 2) (k := 4) (by omega)
  unfold wt
  rw [show 2 * (c / 2) + c % 2 = c by omega] at h
  exact h
theorem wt_congr {f g : Nat → Int32} {s : Nat} (hs : s < 2) (h : ∀ c, c < 8 → f c = g c) : wt s f = wt s g := nsum_congr (fun z hz => by rw [h (2 * z + s) (by omega)])
theorem wt_zero {f : Nat → Int32} {s : Nat} (hs : s < 2) (h : ∀ c, c < 8 → f c = 0) : wt s f = 0 := nsum_zero (fun z hz => by rw [h (2 * z + s) (by omega)]; exact tn_0)
theorem nnR_congr {f g : Nat → Int32} (h : ∀ c, c < 8 → f c = g c) (hg : nnR g) : nnR f := fun c hc => by rw [h c hc]; exact hg c hc
theorem nnR_zero {f : Nat → Int32} (h : ∀ c, c < 8 → f c = 0) : nnR f := fun c hc => by rw [h c hc]; exact nn_0
theorem addR_nn {f g : Nat → Int32} (hf : nnR f) (hg : nnR g) (hb : ∀ s, s < 2 → wt s f + wt s g < 2147483648) : nnR (addR f g) ∧ (∀ c, c < 8 → tn (addR f g c) = tn (g c) + tn (f c)) ∧ ∀ s, s < 2 → wt s (addR f g) = wt s f + wt s g := by
  have key : ∀ c, c < 8 → ¬ addR f g c < 0 ∧ tn (addR f g c) = tn (g c) + tn (f c) := by
    intro c hc
    have h1 := wt_cell (f := f) hc
    have h2 := wt_cell (f := g) hc
    have h3 := hb (c % 2) (by omega)
    have := tn_add (hg c hc) (hf c hc) (by omega)
    unfold addR
    rw [if_pos hc]
    exact this
  refine ⟨fun c hc => (key c hc).1, fun c hc => (key c hc).2, fun s hs => ?_⟩
  unfold wt
  rw [← nsum_add]
  refine nsum_congr (fun z hz => ?_)
  rw [(key (2 * z + s) (by omega)).2]
  omega
theorem zerR_0 {N : Nat} (hN : 8 ≤ N) (f : Nat → Int32) : ∀ c, c < 8 → zerR N f c = 0 := fun c hc => by
  unfold zerR
  rw [if_pos (by omega)]
  rfl
theorem addR_z {f g : Nat → Int32} (hg : ∀ c, c < 8 → g c = 0) : ∀ c, c < 8 → addR f g c = f c := fun c hc => by
  unfold addR
  rw [if_pos hc, hg c hc, Int32.zero_add]
/-- the sum of a row is what it weighs of both stuffs -/
theorem l_sum_wt {f : Nat → Int32} (hf : nnR f) : l_sum f 8 = nI (wt 0 f + wt 1 f) := by
  rw [l_sum_n (g := fun c => tn (f c)) (fun c hc => (tn_of (hf c hc)).1)]
  unfold wt
  simp only [nsum, Nat.reduceMul, Nat.reduceAdd]
  congr 1
  omega
theorem tSt_wt {f : Nat → Int32} (hf : nnR f) {s : Nat} (hs : s < 2) : tSt f s = nI (wt s f) := l_sum_n (fun j hj => (tn_of (hf (2 * j + s) (by omega))).1)
theorem i32_comm (a b : Int32) : a + b = b + a := Int32.add_comm a b
/-! ===== a unit's part of the reference ===== -/
def wd (a : Nat) : Nat := match a with
  | 1 => 2
  | 2 => 8
  | 3 => 8
  | 4 => 16
  | 5 => 4
  | 6 => 8
  | 14 => 56
  | 15 => 7
  | 17 => 160
  | 18 => 16
  | 22 => 3
  | 23 => 3
  | _ => 1
def rM (τ : Sg) (v a k : Nat) : Int32 := if k < wd a then τ.1 11 a (wd a * v + k) else 0
def rL (τ : Sg) (v a k : Nat) : Int64 := match a with
  | 20 => if k < 8 then τ.2.1 20 (8 * v + k) else 0
  | 21 => if k < 80 then τ.2.1 21 (80 * v + k) else 0
  | _ => 0
theorem rM_at (τ : Sg) (v a k : Nat) (h : k < wd a) : rM τ v a k = τ.1 11 a (wd a * v + k) := if_pos h
theorem wd_apart {a v u k j : Nat} (h : ¬ v = u) (hk : k < wd a) (h1 : wd a * u ≤ j) (h2 : j < wd a * u + wd a) : ¬ wd a * v + k = j := by
  intro e
  rcases Nat.lt_or_ge v u with z | z
  · have := Nat.mul_le_mul_left (wd a) (show v + 1 ≤ u from z)
    rw [Nat.mul_succ] at this
    omega
  · have := Nat.mul_le_mul_left (wd a) (show u + 1 ≤ v by omega)
    rw [Nat.mul_succ] at this
    omega
/-- the numbers of unit u that a unit's giving may change -/
def inW (u a j : Nat) : Prop := (a = 6 ∨ a = 13 ∨ a = 14 ∨ a = 15 ∨ a = 16 ∨ a = 17 ∨ a = 18) ∧ wd a * u ≤ j ∧ j < wd a * u + wd a
theorem FrM.rM {u v : Nat} {σ τ : Sg} (h : FrM (inW u) σ τ) (hv : ¬ v = u) : rM τ v = rM σ v := by
  funext a k
  show (if k < wd a then τ.1 11 a (wd a * v + k) else 0) = if k < wd a then σ.1 11 a (wd a * v + k) else 0
  by_cases hk : k < wd a
  · rw [if_pos hk, if_pos hk, h.1 11 a _ (fun z => wd_apart hv hk z.2.2.1 z.2.2.2 rfl)]
  · rw [if_neg hk, if_neg hk]
