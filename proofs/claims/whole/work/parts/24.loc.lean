/-! ===== a unit: class's rows c, reference's rows r ===== -/
def uS (κ : Nat) (c r : Nat → Nat → Int32) : Prop :=
  (∀ p, p < 2 → r 1 p = if p < upt κ then c 2 p else -1) ∧ (κ = 0 → ∀ k, k < 8 → r 3 k = c 3 k) ∧ (κ = 2 → ∀ k, k < 16 → r 4 k = c 3 k) ∧ ((κ = 3 ∨ κ = 4) → ∀ k, k < unu κ → r 5 k = c 3 k) ∧ (κ = 5 → r 7 0 = c 3 0) ∧ (κ = 6 → r 8 0 = c 3 0) ∧
  (¬ κ = 0 → ¬ κ = 7 → ∀ w, w < 1 + upt κ → r 22 w = c 4 w ∧ r 23 w = c 5 w) ∧ (κ = 0 → r 9 0 = c 8 1 ∧ r 10 0 = c 8 2 ∧ r 11 0 = c 8 3)
/-- ranges -/
def uN (κ : Nat) (c : Nat → Nat → Int32) : Prop :=
  (κ = 0 → ∀ k, k < 8 → inR 0 1000 (c 3 k)) ∧ (κ = 2 → (∀ k, k < 16 → inR 0 10 (c 3 k)) ∧ ∀ z, z < 4 → nsum (fun q => tn (c 3 (4 * z + (z + 1 + q)))) (3 - z) ≤ 10) ∧ ((κ = 3 ∨ κ = 4) → ∀ k, k < unu κ → inR 0 10 (c 3 k)) ∧ (κ = 5 → inR 1 6 (c 3 0)) ∧ (κ = 6 → inR 0 5000 (c 3 0)) ∧
  (¬ κ = 0 → ¬ κ = 7 → ∀ w, w < 1 + upt κ → inR 0 100000 (c 4 w) ∧ inR 1 100 (c 5 w))
def sA (T a : Nat) : Nat := (T + 6 - (a - 1)) % 6
def uT (c r : Nat → Nat → Int32) (T K : Nat) : Prop := T < 6 ∧ K ≤ 5 ∧ c 8 4 = nI T ∧ r 13 0 = nI K ∧ (∀ i, i < K → r 15 i = nI (K - i)) ∧ (∀ i, i < K → ∀ k, k < 8 → r 14 (8 * i + k) = c (20 + sA T (K - i)) k) ∧ ∀ a, K < a → a ≤ 6 → ∀ k, k < 8 → c (20 + sA T a) k = 0
def uP (c r : Nat → Nat → Int32) (F L : Nat) : Prop := F < 20 ∧ L ≤ 20 ∧ c 8 5 = nI F ∧ c 8 6 = nI L ∧ r 16 0 = nI L ∧ (∀ k, k < L → ∀ j, j < 8 → r 17 (8 * k + j) = c (40 + (F + k) % 20) j) ∧ ∀ k, L ≤ k → k < 20 → ∀ j, j < 8 → c (40 + (F + k) % 20) j = 0
def uD (κ : Nat) (c r : Nat → Nat → Int32) : Prop :=
  (κ = 0 → r 12 0 = c 8 0 ∧ (c 8 0 = nI 0 ∨ c 8 0 = nI 1)) ∧ (¬ κ = 0 → r 12 0 = 0) ∧ ((κ = 3 ∨ κ = 4) → ∀ k, k < 8 → r 6 k = c 7 k ∧ inR 0 9 (c 7 k)) ∧ (κ = 5 → ∃ T K, uT c r T K) ∧ (¬ κ = 5 → r 13 0 = 0) ∧ (κ = 6 → ∃ F L, uP c r F L) ∧ (¬ κ = 6 → r 16 0 = 0)
def uH (c r : Nat → Nat → Int32) : Prop := ∀ k, k < 8 → r 2 k = c 0 k
def uG (κ : Nat) (c r : Nat → Nat → Int32) : Prop := ∀ p, p < 2 → ∀ k, k < 8 → r 18 (8 * p + k) = if p < upt κ then c (10 + p) k else 0
def uMs (κ : Nat) (c : Nat → Nat → Int32) (s : Nat) : Nat := wt s (c 0) + wt s (c 1) + (if κ = 5 then nsum (fun t => wt s (c (20 + t))) 6 else if κ = 6 then nsum (fun t => wt s (c (40 + t))) 20 else 0)
def uGs (κ : Nat) (c : Nat → Nat → Int32) (s : Nat) : Nat := nsum (fun p => wt s (c (10 + p))) (upt κ)
def uNn (κ : Nat) (c : Nat → Nat → Int32) : Prop := nnR (c 0) ∧ nnR (c 1) ∧ (κ = 5 → ∀ t, t < 6 → nnR (c (20 + t))) ∧ (κ = 6 → ∀ t, t < 20 → nnR (c (40 + t)))
def uGn (κ : Nat) (c : Nat → Nat → Int32) : Prop := ∀ p, p < upt κ → nnR (c (10 + p))
/-- what giving brings about -/
def gOut (κ : Nat) (c c' r' : Nat → Nat → Int32) : Prop := (¬ κ = 7 → ∀ k, k < 8 → c' 0 k = 0) ∧ uG κ c' r' ∧ uGn κ c' ∧ uNn κ c' ∧ uD κ c' r' ∧ ∀ s, s < 2 → uMs κ c' s + uGs κ c' s ≤ uMs κ c s + 4000
def gIn (κ : Nat) (c r : Nat → Nat → Int32) : Prop := uS κ c r ∧ uN κ c ∧ uD κ c r ∧ uH c r ∧ (∀ k, k < 16 → r 18 k = 0) ∧ uNn κ c ∧ (∀ s, s < 2 → uMs κ c s ≤ 130000000) ∧ (κ = 0 → ∀ k, k < 8 → c 0 k = 0)
/-- a stretch of a row of the reference -/
def sW (σ : Sg) (a b k : Nat) (g : Nat → Int32) : Sg := (fun s' a' j' => if s' = 11 ∧ a' = a ∧ b ≤ j' ∧ j' < b + k then g (j' - b) else σ.1 s' a' j', σ.2)
theorem sW_I (σ : Sg) (a b k : Nat) (g : Nat → Int32) (s' a' j' : Nat) : (sW σ a b k g).1 s' a' j' = if s' = 11 ∧ a' = a ∧ b ≤ j' ∧ j' < b + k then g (j' - b) else σ.1 s' a' j' := rfl
theorem sW_in (σ : Sg) (a b k : Nat) (g : Nat → Int32) {i : Nat} (h : i < k) : (sW σ a b k g).1 11 a (b + i) = g i := by
  rw [sW_I, if_pos ⟨rfl, rfl, by omega, by omega⟩, Nat.add_sub_cancel_left]
theorem sW_out (σ : Sg) (a b k : Nat) (g : Nat → Int32) {s' a' j' : Nat} (h : ¬ (s' = 11 ∧ a' = a ∧ b ≤ j' ∧ j' < b + k)) : (sW σ a b k g).1 s' a' j' = σ.1 s' a' j' := by
  rw [sW_I, if_neg h]
theorem itF_sW {f : Nat → Sg → Sg} (a b : Nat) (v : Nat → Sg → Int32) (hf : ∀ c τ, f c τ = sI τ 11 a (b + c) (v c τ)) (σ : Sg) : ∀ k, (∀ c, c < k → v c (sW σ a b c (fun c => v c σ)) = v c σ) → itF f k σ = sW σ a b k (fun c => v c σ)
  | 0, _ => by
    have e : (sW σ a b 0 (fun c => v c σ)).1 = σ.1 := by
      funext s' a' j'
      exact sW_out _ _ _ _ _ (by omega)
    exact Prod.ext e.symm rfl
  | k + 1, hv => by
    show f k (itF f k σ) = _
    rw [itF_sW a b v hf σ k (fun c hc => hv c (by omega)), hf, hv k (by omega)]
    have e : (sI (sW σ a b k (fun c => v c σ)) 11 a (b + k) (v k σ)).1 = (sW σ a b (k + 1) (fun c => v c σ)).1 := by
      funext s' a' j'
      rw [sI_I, sW_I, sW_I]
      by_cases h1 : s' = 11 ∧ a' = a ∧ j' = b + k
      · obtain ⟨e1, e2, e3⟩ := h1
        subst e3
        rw [if_pos ⟨e1, e2, rfl⟩, if_pos ⟨e1, e2, by omega, by omega⟩, Nat.add_sub_cancel_left]
      · rw [if_neg h1]
        by_cases h2 : s' = 11 ∧ a' = a ∧ b ≤ j' ∧ j' < b + k
        · rw [if_pos h2, if_pos ⟨h2.1, h2.2.1, h2.2.2.1, by omega⟩]
        · rw [if_neg h2, if_neg (by omega)]
    exact Prod.ext e rfl
/-- rows of a unit out of sW -/
theorem rM_sW_ne {τ : Sg} {a b k : Nat} {g : Nat → Int32} {u a' : Nat} (h : ¬ a' = a) : rM (sW τ a b k g) u a' = rM τ u a' := by
  funext i
  unfold rM
  by_cases hk : i < wd a'
  · rw [if_pos hk, if_pos hk, sW_out _ _ _ _ _ (fun z => h z.2.1)]
  · rw [if_neg hk, if_neg hk]
theorem rM_sI_ne {τ : Sg} {a j : Nat} {x : Int32} {u a' : Nat} (h : ¬ a' = a) : rM (sI τ 11 a j x) u a' = rM τ u a' := by
  funext i
  unfold rM
  by_cases hk : i < wd a'
  · rw [if_pos hk, if_pos hk, sI_I, if_neg (fun z => h z.2.1)]
  · rw [if_neg hk, if_neg hk]
theorem rM18 (τ : Sg) (u p k : Nat) (hp : p < 2) (hk : k < 8) : rM τ u 18 (8 * p + k) = τ.1 11 18 ((2 * u + p) * 8 + k) := by
  rw [rM_at τ u 18 _ (show 8 * p + k < 16 by omega), show (2 * u + p) * 8 + k = wd 18 * u + (8 * p + k) from by show _ = 16 * u + _; omega]
theorem rM2 (τ : Sg) (u k : Nat) (hk : k < 8) : rM τ u 2 k = τ.1 11 2 (8 * u + k) := rM_at τ u 2 k hk
theorem rM1 (τ : Sg) (u a : Nat) (h : wd a = 1) : rM τ u a 0 = τ.1 11 a u := by
  rw [rM_at τ u a 0 (by omega), h, Nat.one_mul, Nat.add_zero]
/-- what a step leaves of the rest of what is dynamic, where the kind has nothing of it -/
theorem uD_keep {κ : Nat} {c r c' r' : Nat → Nat → Int32} (h : uD κ c r) (h12 : r' 12 0 = r 12 0) (h13 : r' 13 0 = r 13 0) (h16 : r' 16 0 = r 16 0) (h8 : c' 8 0 = c 8 0) (h34 : (κ = 3 ∨ κ = 4) → ∀ k, k < 8 → r' 6 k = c' 7 k ∧ inR 0 9 (c' 7 k)) (h5 : κ = 5 → ∃ T K, uT c' r' T K) (h6 : κ = 6 → ∃ F L, uP c' r' F L) : uD κ c' r' := by
  obtain ⟨a1, a2, a3, a4, a5, a6, a7⟩ := h
  exact ⟨fun z => by rw [h12, h8]; exact a1 z, fun z => by rw [h12]; exact a2 z, h34, h5, fun z => by rw [h13]; exact a5 z, h6, fun z => by rw [h16]; exact a7 z⟩
/-! joins -/
theorem give_1 {σ τ : Sg} {i : Nat} (hi : gIn 1 (σ.1 i) (rM τ i)) : gOut 1 (σ.1 i) ((cJoin σ i).1 i) (rM (itF (joStep i) 8 τ) i) := by
  obtain ⟨hS, hN, hD, hH, hz, hn, hb, -⟩ := hi
  have e : itF (joStep i) 8 τ = sW τ 18 ((2 * i + 0) * 8) 8 (fun c => τ.1 11 2 (8 * i + c)) := itF_sW (f := joStep i) 18 ((2 * i + 0) * 8) (fun c τ => τ.1 11 2 (8 * i + c)) (fun _ _ => rfl) τ 8 (fun c hc => sW_out _ _ _ _ _ (by omega))
  rw [e]
  have c0 : ∀ k, k < 8 → (cJoin σ i).1 i 0 k = 0 := by
    intro k hk
    unfold cJoin mvR
    rw [sR_I, if_pos ⟨rfl, rfl⟩]
    exact zerR_0 (by decide) _ k hk
  have c10 : ∀ k, k < 8 → (cJoin σ i).1 i 10 k = σ.1 i 0 k := by
    intro k hk
    unfold cJoin mvR
    rw [sR_I, if_neg (by omega), sR_I, if_pos ⟨rfl, rfl⟩]
    rw [addR_z (fun c hc => by rw [sR_I, if_pos ⟨rfl, rfl⟩]; exact zerR_0 (by decide) _ c hc) k hk, sR_I, if_neg (by omega)]
  have fr := frx_join σ i
  have c1 : (cJoin σ i).1 i 1 = σ.1 i 1 := by funext j; exact fr.1 i 1 j (by omega)
  have c8 : (cJoin σ i).1 i 8 0 = σ.1 i 8 0 := fr.1 i 8 0 (by omega)
  have n10 : nnR ((cJoin σ i).1 i 10) := nnR_congr c10 hn.1
  refine ⟨fun _ => c0, ?_, ?_, ?_, ?_, ?_⟩
  · intro p hp k hk
    rw [rM18 _ i p k hp hk]
    by_cases hp0 : p = 0
    · subst hp0
      rw [if_pos (by decide), c10 k hk, ← hH k hk, rM2 τ i k hk]
      exact sW_in _ _ _ _ _ hk
    · rw [if_neg (by show ¬ p < 1; omega), sW_out _ _ _ _ _ (by omega), ← rM18 τ i p k hp hk]
      exact hz _ (by omega)
  · intro p hp
    have : p = 0 := by
      have : p < 1 := hp
      omega
    subst this
    exact n10
  · exact ⟨nnR_zero c0, by rw [c1]; exact hn.2.1, fun z => absurd z (by decide), fun z => absurd z (by decide)⟩
  · refine uD_keep hD ?_ ?_ ?_ c8 (fun z => absurd z (by decide)) (fun z => absurd z (by decide)) (fun z => absurd z (by decide))
    · rw [rM_sW_ne (by decide)]
    · rw [rM_sW_ne (by decide)]
    · rw [rM_sW_ne (by decide)]
  · intro s hs
    show wt s ((cJoin σ i).1 i 0) + wt s ((cJoin σ i).1 i 1) + 0 + (0 + wt s ((cJoin σ i).1 i 10)) ≤ wt s (σ.1 i 0) + wt s (σ.1 i 1) + 0 + 4000
    rw [wt_zero hs c0, c1, wt_congr hs c10]
    omega
/-! ends -/
theorem give_7 {σ τ : Sg} {i : Nat} (hi : gIn 7 (σ.1 i) (rM τ i)) : gOut 7 (σ.1 i) (σ.1 i) (rM τ i) := by
  obtain ⟨hS, hN, hD, hH, hz, hn, hb, -⟩ := hi
  refine ⟨fun z => absurd rfl z, fun p hp k hk => ?_, fun p hp => absurd hp (Nat.not_lt_zero _), hn, hD, fun s hs => ?_⟩
  · rw [if_neg (show ¬ p < upt 7 from Nat.not_lt_zero _)]
    exact hz _ (by omega)
  · show uMs 7 (σ.1 i) s + 0 ≤ _
    omega
/-! feeds -/
def fdA (σ : Sg) (u : Nat) : Nat → Nat → Int64
  | 0, j => σ.2.1 19 j
  | k + 1, j => if j = k % 2 then fdA σ u k j + (σ.1 11 3 (8 * u + k)).toInt64 else fdA σ u k j
theorem fd_it (σ : Sg) (u : Nat) : ∀ k, itF (fdStep u) k σ = ((sW σ 18 ((2 * u + 0) * 8) k (fun c => σ.1 11 3 (8 * u + c))).1, (fun a j => if a = 19 then fdA σ u k j else σ.2.1 a j), σ.2.2)
  | 0 => by
    have e : (sW σ 18 ((2 * u + 0) * 8) 0 (fun c => σ.1 11 3 (8 * u + c))).1 = σ.1 := by
      funext s' a' j'
      exact sW_out _ _ _ _ _ (by omega)
    have e2 : (fun a j => if a = 19 then fdA σ u 0 j else σ.2.1 a j) = σ.2.1 := by
      funext a j
      by_cases h : a = 19
      · rw [if_pos h, h]; rfl
      · rw [if_neg h]
    rw [e, e2]
    rfl
  | k + 1 => by
    show fdStep u k (itF (fdStep u) k σ) = _
    rw [fd_it σ u k]
    have e3 : (sW σ 18 ((2 * u + 0) * 8) k (fun c => σ.1 11 3 (8 * u + c))).1 11 3 (8 * u + k) = σ.1 11 3 (8 * u + k) := sW_out _ _ _ _ _ (by omega)
    generalize hW : sW σ 18 ((2 * u + 0) * 8) k (fun c => σ.1 11 3 (8 * u + c)) = ω at e3
    refine Prod.ext ?_ (Prod.ext ?_ rfl)
    · funext s' a' j'
      show (if s' = 11 ∧ a' = 18 ∧ j' = (2 * u + 0) * 8 + k then ω.1 11 3 (8 * u + k) else ω.1 s' a' j') = _
      rw [e3, ← hW, sW_I, sW_I]
      by_cases h1 : s' = 11 ∧ a' = 18 ∧ j' = (2 * u + 0) * 8 + k
      · obtain ⟨e1, e2, e3⟩ := h1
        subst e3
        rw [if_pos ⟨e1, e2, rfl⟩, if_pos ⟨e1, e2, by omega, by omega⟩, Nat.add_sub_cancel_left]
      · rw [if_neg h1]
        by_cases h2 : s' = 11 ∧ a' = 18 ∧ (2 * u + 0) * 8 ≤ j' ∧ j' < (2 * u + 0) * 8 + k
        · rw [if_pos h2, if_pos ⟨h2.1, h2.2.1, h2.2.2.1, by omega⟩]
        · rw [if_neg h2, if_neg (by omega)]
    · funext a j
      have e4 : (sI (ω.1, (fun a j => if a = 19 then fdA σ u k j else σ.2.1 a j), σ.2.2) 11 18 ((2 * u + 0) * 8 + k) (ω.1 11 3 (8 * u + k))).1 11 3 (8 * u + k) = σ.1 11 3 (8 * u + k) := by
        rw [sI_I, if_neg (by omega)]
        exact e3
      show (if a = 19 ∧ j = k % 2 then (if 19 = 19 then fdA σ u k (k % 2) else σ.2.1 19 (k % 2)) + ((sI (ω.1, (fun a j => if a = 19 then fdA σ u k j else σ.2.1 a j), σ.2.2) 11 18 ((2 * u + 0) * 8 + k) (ω.1 11 3 (8 * u + k))).1 11 3 (8 * u + k)).toInt64 else (if a = 19 then fdA σ u k j else σ.2.1 a j)) = if a = 19 then (if j = k % 2 then fdA σ u k j + (σ.1 11 3 (8 * u + k)).toInt64 else fdA σ u k j) else σ.2.1 a j
      rw [e4, if_pos rfl]
      by_cases h : a = 19
      · subst h
        by_cases h2 : j = k % 2
        · subst h2
          rw [if_pos ⟨rfl, rfl⟩, if_pos rfl, if_pos rfl]
        · rw [if_neg (fun z => h2 z.2), if_pos rfl, if_pos rfl, if_neg h2]
      · rw [if_neg (fun z => h z.1), if_neg h, if_neg h]
