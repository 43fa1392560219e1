/-! ===== what was given comes ===== -/
def lW (L : Nat → Nat → Int64) (a b k : Nat) (g : Nat → Int64) : Nat → Nat → Int64 := fun a' j' => if a' = a ∧ b ≤ j' ∧ j' < b + k then g (j' - b) else L a' j'
theorem lW_in (L : Nat → Nat → Int64) (a b k : Nat) (g : Nat → Int64) {i : Nat} (h : i < k) : lW L a b k g a (b + i) = g i := by
  unfold lW
  rw [if_pos ⟨rfl, by omega, by omega⟩, Nat.add_sub_cancel_left]
theorem lW_out (L : Nat → Nat → Int64) (a b k : Nat) (g : Nat → Int64) {a' j' : Nat} (h : ¬ (a' = a ∧ b ≤ j' ∧ j' < b + k)) : lW L a b k g a' j' = L a' j' := if_neg h
theorem lW_0 (L : Nat → Nat → Int64) (a b : Nat) (g : Nat → Int64) : lW L a b 0 g = L := by
  funext a' j'
  exact lW_out _ _ _ _ _ (by omega)
theorem lW_s (L : Nat → Nat → Int64) (a b k : Nat) (g : Nat → Int64) : (fun a' j' => if a' = a ∧ j' = b + k then g k else lW L a b k g a' j') = lW L a b (k + 1) g := by
  funext a' j'
  unfold lW
  by_cases h1 : a' = a ∧ j' = b + k
  · obtain ⟨e1, e2⟩ := h1
    subst e2
    rw [if_pos ⟨e1, rfl⟩, if_pos ⟨e1, by omega, by omega⟩, Nat.add_sub_cancel_left]
  · rw [if_neg h1]
    by_cases h2 : a' = a ∧ b ≤ j' ∧ j' < b + k
    · rw [if_pos h2, if_pos ⟨h2.1, h2.2.1, by omega⟩]
    · rw [if_neg h2, if_neg (by omega)]
theorem sW_0 (σ : Sg) (a b : Nat) (g : Nat → Int32) : (sW σ a b 0 g).1 = σ.1 := by
  funext s' a' j'
  exact sW_out _ _ _ _ _ (by omega)
theorem sW_s (σ : Sg) (a b k : Nat) (g : Nat → Int32) : (fun s' a' j' => if s' = 11 ∧ a' = a ∧ j' = b + k then g k else (sW σ a b k g).1 s' a' j') = (sW σ a b (k + 1) g).1 := by
  funext s' a' j'
  rw [sW_I, sW_I]
  by_cases h1 : s' = 11 ∧ a' = a ∧ j' = b + k
  · obtain ⟨e1, e2, e3⟩ := h1
    subst e3
    rw [if_pos ⟨e1, e2, rfl⟩, if_pos ⟨e1, e2, by omega, by omega⟩, Nat.add_sub_cancel_left]
  · rw [if_neg h1]
    by_cases h2 : s' = 11 ∧ a' = a ∧ b ≤ j' ∧ j' < b + k
    · rw [if_pos h2, if_pos ⟨h2.1, h2.2.1, h2.2.2.1, by omega⟩]
    · rw [if_neg h2, if_neg (by omega)]
theorem cmSp_it (u p : Nat) (τ : Sg) : ∀ k, itF (cmSp u p) k τ = (τ.1, lW τ.2.1 20 (8 * u) k (fun c => τ.2.1 20 (8 * u + c) + (τ.1 11 18 ((2 * u + p) * 8 + c)).toInt64), τ.2.2)
  | 0 => by
    rw [lW_0]
    rfl
  | k + 1 => by
    show cmSp u p k (itF (cmSp u p) k τ) = _
    rw [cmSp_it u p τ k]
    refine Prod.ext rfl (Prod.ext ?_ rfl)
    show (fun a' j' => if a' = 20 ∧ j' = 8 * u + k then lW τ.2.1 20 (8 * u) k (fun c => τ.2.1 20 (8 * u + c) + (τ.1 11 18 ((2 * u + p) * 8 + c)).toInt64) 20 (8 * u + k) + (τ.1 11 18 ((2 * u + p) * 8 + k)).toInt64 else lW τ.2.1 20 (8 * u) k (fun c => τ.2.1 20 (8 * u + c) + (τ.1 11 18 ((2 * u + p) * 8 + c)).toInt64) a' j') = _
    rw [lW_out (a' := 20) (j' := 8 * u + k) _ _ _ _ _ (by omega), ← lW_s]
theorem cmHo_it (u p d : Nat) (τ : Sg) : itF (cmHo u p d) 8 τ = sW τ 2 (8 * d) 8 (fun c => τ.1 11 2 (8 * d + c) + τ.1 11 18 ((2 * u + p) * 8 + c)) := itF_sW (f := cmHo u p d) 2 (8 * d) (fun c τ => τ.1 11 2 (8 * d + c) + τ.1 11 18 ((2 * u + p) * 8 + c)) (fun _ _ => rfl) τ 8 (fun c hc => by
  show (sW _ _ _ _ _).1 11 2 _ + (sW _ _ _ _ _).1 11 18 _ = _
  rw [sW_out _ _ _ _ _ (by omega), sW_out _ _ _ _ _ (by omega)])
theorem cmLd_it (u p d : Nat) (τ : Sg) : ∀ k, itF (cmLd u p d) k τ = ((sW τ 2 (8 * d) k (fun c => τ.1 11 2 (8 * d + c) + τ.1 11 18 ((2 * u + p) * 8 + c))).1, lW τ.2.1 21 ((10 * d + u) * 8) k (fun c => τ.2.1 21 ((10 * d + u) * 8 + c) + (τ.1 11 18 ((2 * u + p) * 8 + c)).toInt64), τ.2.2)
  | 0 => by
    rw [lW_0, sW_0]
    rfl
  | k + 1 => by
    show cmLd u p d k (itF (cmLd u p d) k τ) = _
    rw [cmLd_it u p d τ k]
    have e2 : (sW τ 2 (8 * d) k (fun c => τ.1 11 2 (8 * d + c) + τ.1 11 18 ((2 * u + p) * 8 + c))).1 11 2 (8 * d + k) = τ.1 11 2 (8 * d + k) := sW_out _ _ _ _ _ (by omega)
    have e18 : (sW τ 2 (8 * d) k (fun c => τ.1 11 2 (8 * d + c) + τ.1 11 18 ((2 * u + p) * 8 + c))).1 11 18 ((2 * u + p) * 8 + k) = τ.1 11 18 ((2 * u + p) * 8 + k) := sW_out _ _ _ _ _ (by omega)
    refine Prod.ext ?_ (Prod.ext ?_ rfl)
    · show (fun s' a' j' => if s' = 11 ∧ a' = 2 ∧ j' = 8 * d + k then (sW τ 2 (8 * d) k (fun c => τ.1 11 2 (8 * d + c) + τ.1 11 18 ((2 * u + p) * 8 + c))).1 11 2 (8 * d + k) + (sW τ 2 (8 * d) k (fun c => τ.1 11 2 (8 * d + c) + τ.1 11 18 ((2 * u + p) * 8 + c))).1 11 18 ((2 * u + p) * 8 + k) else (sW τ 2 (8 * d) k (fun c => τ.1 11 2 (8 * d + c) + τ.1 11 18 ((2 * u + p) * 8 + c))).1 s' a' j') = _
      rw [e2, e18, ← sW_s]
    · show (fun a' j' => if a' = 21 ∧ j' = (10 * d + u) * 8 + k then lW τ.2.1 21 ((10 * d + u) * 8) k (fun c => τ.2.1 21 ((10 * d + u) * 8 + c) + (τ.1 11 18 ((2 * u + p) * 8 + c)).toInt64) 21 ((10 * d + u) * 8 + k) + ((sW τ 2 (8 * d) k (fun c => τ.1 11 2 (8 * d + c) + τ.1 11 18 ((2 * u + p) * 8 + c))).1 11 18 ((2 * u + p) * 8 + k)).toInt64 else lW τ.2.1 21 ((10 * d + u) * 8) k (fun c => τ.2.1 21 ((10 * d + u) * 8 + c) + (τ.1 11 18 ((2 * u + p) * 8 + c)).toInt64) a' j') = _
      rw [e18, lW_out (a' := 21) (j' := (10 * d + u) * 8 + k) _ _ _ _ _ (by omega), ← lW_s]
/-- what was spilt; what came to an end, no more than lies there -/
def uX (κ : Nat) (c : Nat → Nat → Int32) (rl : Nat → Nat → Int64) : Prop := (∀ k, k < 8 → rl 20 k = (c 1 k).toInt64) ∧ (κ = 7 → ∀ f, f < 10 → ∀ k, k < 8 → rl 21 (8 * f + k) = (c (60 + f) k).toInt64 ∧ ¬ c (60 + f) k < 0 ∧ tn (c (60 + f) k) ≤ tn (c 0 k))
theorem rL20 (τ : Sg) (v k : Nat) (hk : k < 8) : rL τ v 20 k = τ.2.1 20 (8 * v + k) := if_pos hk
theorem rL21 (τ : Sg) (v f k : Nat) (hf : f < 10) (hk : k < 8) : rL τ v 21 (8 * f + k) = τ.2.1 21 ((10 * v + f) * 8 + k) := by
  show (if 8 * f + k < 80 then τ.2.1 21 (80 * v + (8 * f + k)) else 0) = _
  rw [if_pos (by omega), show 80 * v + (8 * f + k) = (10 * v + f) * 8 + k by omega]
theorem uMs_upd {κ : Nat} {c c' : Nat → Nat → Int32} (h : ∀ a, 20 ≤ a → a < 60 → c' a = c a) (s : Nat) : uMs κ c' s + (wt s (c 0) + wt s (c 1)) = uMs κ c s + (wt s (c' 0) + wt s (c' 1)) := by
  unfold uMs
  rw [nsum_congr (f := fun t => wt s (c' (20 + t))) (g := fun t => wt s (c (20 + t))) (k := 6) (fun t ht => by rw [h (20 + t) (by omega) (by omega)]), nsum_congr (f := fun t => wt s (c' (40 + t))) (g := fun t => wt s (c (40 + t))) (k := 20) (fun t ht => by rw [h (40 + t) (by omega) (by omega)])]
  omega
def B2 (n : Nat) (κ : Nat → Nat) (σ τ : Sg) : Prop := ∀ v, v < n → uH (σ.1 v) (rM τ v) ∧ uX (κ v) (σ.1 v) (rL τ v) ∧ nnR (σ.1 v 0) ∧ nnR (σ.1 v 1)
def MT (n : Nat) (κ : Nat → Nat) (σ : Sg) (s : Nat) : Nat := nsum (fun v => uMs (κ v) (σ.1 v) s) n
/-- what may differ when something comes -/
def FrB (n : Nat) (κ : Nat → Nat) (σ τ σ' τ' : Sg) : Prop := (∀ v a j, ¬ (v < n ∧ (a = 0 ∨ a = 1 ∨ 60 ≤ a)) → σ'.1 v a j = σ.1 v a j) ∧ σ'.2 = σ.2 ∧ (∀ a j, ¬ a = 2 → τ'.1 11 a j = τ.1 11 a j) ∧ (∀ a, ¬ a = 20 → ¬ a = 21 → τ'.2.1 a = τ.2.1 a) ∧ τ'.2.2 = τ.2.2 ∧ ∀ v, v < n → κ v = 0 → σ'.1 v 0 = σ.1 v 0
theorem FrB.rf {n : Nat} {κ : Nat → Nat} {σ τ : Sg} : FrB n κ σ τ σ τ := ⟨fun _ _ _ _ => rfl, rfl, fun _ _ _ => rfl, fun _ _ _ => rfl, rfl, fun _ _ _ => rfl⟩
theorem FrB.tr {n : Nat} {κ : Nat → Nat} {σ τ σ' τ' σ'' τ'' : Sg} (h : FrB n κ σ τ σ' τ') (h' : FrB n κ σ' τ' σ'' τ'') : FrB n κ σ τ σ'' τ'' :=
  ⟨fun v a j z => (h'.1 v a j z).trans (h.1 v a j z), h'.2.1.trans h.2.1, fun a j z => (h'.2.2.1 a j z).trans (h.2.2.1 a j z), fun a z1 z2 => (h'.2.2.2.1 a z1 z2).trans (h.2.2.2.1 a z1 z2), h'.2.2.2.2.1.trans h.2.2.2.2.1, fun v hv h0 => (h'.2.2.2.2.2 v hv h0).trans (h.2.2.2.2.2 v hv h0)⟩
theorem rM_b {τ τ' : Sg} {v : Nat} {b : Nat} {g : Nat → Int32} (h : τ'.1 = (sW τ 2 b 8 g).1) {a : Nat} (ha : ¬ a = 2) : rM τ' v a = rM τ v a := by
  funext k
  unfold rM
  rw [h]
  by_cases hk : k < wd a
  · rw [if_pos hk, if_pos hk, sW_out _ _ _ _ _ (fun z => ha z.2.1)]
  · rw [if_neg hk, if_neg hk]
/-- a row comes to unit d's hold -/
theorem bring_hold {σ τ σ' τ' : Sg} {n i p d : Nat} {κ : Nat → Nat} (hn : n ≤ 10) (hd : d < n) (hi : i < n) (hB : B2 n κ σ τ) (hG : ∀ k, k < 8 → τ.1 11 18 ((2 * i + p) * 8 + k) = σ.1 i (10 + p) k) (hGn : nnR (σ.1 i (10 + p))) (hM : ∀ s, s < 2 → MT n κ σ s + wt s (σ.1 i (10 + p)) ≤ 130000000) (h0 : ¬ κ d = 0)
    (e1 : ∀ v a, ¬ (v = d ∧ (a = 0 ∨ (κ d = 7 ∧ a = 60 + i))) → σ'.1 v a = σ.1 v a) (e0 : σ'.1 d 0 = addR (σ.1 i (10 + p)) (σ.1 d 0)) (e6 : κ d = 7 → σ'.1 d (60 + i) = addR (σ.1 i (10 + p)) (σ.1 d (60 + i))) (e2 : σ'.2 = σ.2)
    (t1 : τ'.1 = (sW τ 2 (8 * d) 8 (fun c => τ.1 11 2 (8 * d + c) + τ.1 11 18 ((2 * i + p) * 8 + c))).1) (t2 : τ'.2.2 = τ.2.2) (t3 : ∀ a j, ¬ (κ d = 7 ∧ a = 21 ∧ (10 * d + i) * 8 ≤ j ∧ j < (10 * d + i) * 8 + 8) → τ'.2.1 a j = τ.2.1 a j) (t4 : κ d = 7 → ∀ k, k < 8 → τ'.2.1 21 ((10 * d + i) * 8 + k) = τ.2.1 21 ((10 * d + i) * 8 + k) + (τ.1 11 18 ((2 * i + p) * 8 + k)).toInt64) :
    B2 n κ σ' τ' ∧ (∀ s, s < 2 → MT n κ σ' s = MT n κ σ s + wt s (σ.1 i (10 + p))) ∧ FrB n κ σ τ σ' τ' := by
  obtain ⟨b1, b2, b3, b4⟩ := hB d hd
  have hbd : ∀ s, s < 2 → wt s (σ.1 i (10 + p)) + wt s (σ.1 d 0) ≤ 130000000 := by
    intro s hs
    have h1 := hM s hs
    have h2 := nsum_le (f := fun v => uMs (κ v) (σ.1 v) s) hd
    have h3 : wt s (σ.1 d 0) ≤ uMs (κ d) (σ.1 d) s := by unfold uMs; omega
    unfold MT at h1
    omega
  obtain ⟨n1, n2, n3⟩ := addR_nn hGn b3 (fun s hs => by have := hbd s hs; omega)
  have hcell : ∀ k, k < 8 → tn (σ.1 i (10 + p) k) + tn (σ.1 d 0 k) ≤ 130000000 := by
    intro k hk
    have h1 := wt_cell (f := σ.1 i (10 + p)) hk
    have h2 := wt_cell (f := σ.1 d 0) hk
    have h3 := hbd (k % 2) (by omega)
    omega
  refine ⟨fun v hv => ?_, fun s hs => ?_, ?_⟩
  · obtain ⟨c1, c2, c3, c4⟩ := hB v hv
    by_cases ev : v = d
    · subst ev
      refine ⟨fun k hk => ?_, ⟨fun k hk => ?_, fun h7 f hf k hk => ?_⟩, by rw [e0]; exact n1, by rw [e1 v 1 (by omega)]; exact c4⟩
      · rw [rM2 τ' v k hk, t1, sW_in _ _ _ _ _ hk, e0]
        unfold addR
        rw [if_pos hk, hG k hk, ← c1 k hk, rM2 τ v k hk]
      · rw [rL20 τ' v k hk, t3 20 _ (by omega), e1 v 1 (by omega), ← rL20 τ v k hk]
        exact c2.1 k hk
      · obtain ⟨f1, f2, f3⟩ := c2.2 h7 f hf k hk
        rw [rL21 τ v f k hf hk] at f1
        rw [rL21 τ' v f k hf hk, e0, n2 k hk]
        by_cases ef : f = i
        · subst ef
          have hc := hcell k hk
          have ta := tn_add f2 (hGn k hk) (by omega)
          rw [t4 h7 k hk, f1, e6 h7]
          unfold addR
          rw [if_pos hk, hG k hk, toL_add f2 (hGn k hk) (by omega)]
          exact ⟨rfl, ta.1, by rw [ta.2]; omega⟩
        · rw [t3 21 _ (by omega), e1 v (60 + f) (by omega)]
          exact ⟨f1, f2, by omega⟩
    · have er : rM τ' v = rM τ v := by
        funext a
        by_cases ha : a = 2
        · subst ha
          funext k
          unfold rM
          rw [t1]
          by_cases hk : k < wd 2
          · have hk8 : k < 8 := hk
            rw [if_pos hk, if_pos hk, sW_out _ _ _ _ _ (by show ¬ (11 = 11 ∧ 2 = 2 ∧ 8 * d ≤ 8 * v + k ∧ 8 * v + k < 8 * d + 8); omega)]
          · rw [if_neg hk, if_neg hk]
        · exact rM_b t1 ha
      have ec : ∀ a, σ'.1 v a = σ.1 v a := fun a => e1 v a (by omega)
      have ecv : σ'.1 v = σ.1 v := by funext a; exact ec a
      rw [er, ecv]
      refine ⟨c1, ⟨fun k hk => ?_, fun h7 f hf k hk => ?_⟩, c3, c4⟩
      · rw [rL20 τ' v k hk, t3 20 _ (by omega), ← rL20 τ v k hk]
        exact c2.1 k hk
      · rw [rL21 τ' v f k hf hk, t3 21 _ (by omega), ← rL21 τ v f k hf hk]
        exact c2.2 h7 f hf k hk
  · have h9 := nsum_upd (f := fun v => uMs (κ v) (σ.1 v) s) (g := fun v => uMs (κ v) (σ'.1 v) s) hd (fun v hv => by
      have ecv : σ'.1 v = σ.1 v := by funext a; exact e1 v a (by omega)
      rw [ecv])
    have h8 := uMs_upd (κ := κ d) (c := σ.1 d) (c' := σ'.1 d) (fun a h1 h2 => e1 d a (by omega)) s
    rw [e0, n3 s hs, e1 d 1 (by omega)] at h8
    unfold MT
    omega
  · refine ⟨fun v a j h => ?_, e2, fun a j h => ?_, fun a h20 h21 => ?_, t2, fun v hv hv0 => ?_⟩
    · rw [e1 v a (by omega)]
    · rw [t1]
      exact sW_out _ _ _ _ _ (fun z => h z.2.1)
    · funext j
      exact t3 a j (by omega)
    · refine e1 v 0 (fun z => ?_)
      rw [z.1] at hv0
      exact h0 hv0
theorem bring_step {σ τ : Sg} {i p : Nat} (hw : KW σ) (e2 : τ.2.2 = σ.2.2) (hi : i < σ.2.2.2) (hp : p < upt (σ.2.2.1 i)) (hB : B2 σ.2.2.2 σ.2.2.1 σ τ) (hG : ∀ k, k < 8 → τ.1 11 18 ((2 * i + p) * 8 + k) = σ.1 i (10 + p) k) (hGn : nnR (σ.1 i (10 + p))) (hM : ∀ s, s < 2 → MT σ.2.2.2 σ.2.2.1 σ s + wt s (σ.1 i (10 + p)) ≤ 130000000) (hL : τ.1 11 1 (2 * i + p) = σ.1 i 2 p) (hLd : σ.1 i 2 p = -1 ∨ ∃ d, d < σ.2.2.2 ∧ σ.1 i 2 p = nI d ∧ ¬ σ.2.2.1 d = 0) :
    B2 σ.2.2.2 σ.2.2.1 (cBrS i p σ) (mCome τ i p) ∧ (∀ s, s < 2 → MT σ.2.2.2 σ.2.2.1 (cBrS i p σ) s = MT σ.2.2.2 σ.2.2.1 σ s + wt s (σ.1 i (10 + p))) ∧ FrB σ.2.2.2 σ.2.2.1 σ τ (cBrS i p σ) (mCome τ i p) := by
  have hn := hw.1
  rcases hLd with hx | ⟨d, hd, hx, hd0⟩
  · have hc : cBrS i p σ = sR σ i 1 (addR (σ.1 i (10 + p)) (σ.1 i 1)) := by
      unfold cBrS
      rw [hx, if_neg (fun z => absurd z.1 (by decide))]
    have hm : mCome τ i p = itF (cmSp i p) 8 τ := by
      unfold mCome
      rw [hL, hx, if_pos (by decide)]
    rw [hc, hm, cmSp_it]
    obtain ⟨b1, b2, b3, b4⟩ := hB i hi
    have hbd : ∀ s, s < 2 → wt s (σ.1 i (10 + p)) + wt s (σ.1 i 1) ≤ 130000000 := by
      intro s hs
      have h1 := hM s hs
      have h2 := nsum_le (f := fun v => uMs (σ.2.2.1 v) (σ.1 v) s) hi
      have h3 : wt s (σ.1 i 1) ≤ uMs (σ.2.2.1 i) (σ.1 i) s := by unfold uMs; omega
      unfold MT at h1
      omega
    obtain ⟨n1, n2, n3⟩ := addR_nn hGn b4 (fun s hs => by have := hbd s hs; omega)
    have er : ∀ v a, ¬ (v = i ∧ a = 1) → (sR σ i 1 (addR (σ.1 i (10 + p)) (σ.1 i 1))).1 v a = σ.1 v a := fun v a h => by
      funext j
      rw [sR_I, if_neg h]
    have er1 : (sR σ i 1 (addR (σ.1 i (10 + p)) (σ.1 i 1))).1 i 1 = addR (σ.1 i (10 + p)) (σ.1 i 1) := by
      funext j
      rw [sR_I, if_pos ⟨rfl, rfl⟩]
    refine ⟨fun v hv => ?_, fun s hs => ?_, ⟨fun v a j h => by rw [er v a (by omega)], rfl, fun _ _ _ => rfl, fun a h20 h21 => ?_, rfl, fun v hv h0 => er v 0 (by omega)⟩⟩
    · obtain ⟨c1, c2, c3, c4⟩ := hB v hv
      refine ⟨fun k hk => ?_, ⟨fun k hk => ?_, fun h7 f hf k hk => ?_⟩, by rw [er v 0 (by omega)]; exact c3, ?_⟩
      · rw [er v 0 (by omega)]
        exact c1 k hk
      · rw [rL20 _ v k hk]
        dsimp only
        by_cases ev : v = i
        · subst ev
          have h1 := wt_cell (f := σ.1 v (10 + p)) hk
          have h2 := wt_cell (f := σ.1 v 1) hk
          have h3 := hbd (k % 2) (by omega)
          rw [lW_in _ _ _ _ _ hk, er1]
          unfold addR
          rw [if_pos hk, hG k hk, toL_add (c4 k hk) (hGn k hk) (by omega), ← c2.1 k hk, rL20 τ v k hk]
        · rw [lW_out _ _ _ _ _ (by omega), er v 1 (by omega), ← c2.1 k hk, rL20 τ v k hk]
      · rw [rL21 _ v f k hf hk]
        dsimp only
        rw [lW_out _ _ _ _ _ (by omega), er v (60 + f) (by omega), er v 0 (by omega), ← rL21 τ v f k hf hk]
        exact c2.2 h7 f hf k hk
      · by_cases ev : v = i
        · subst ev
          rw [er1]
          exact n1
        · rw [er v 1 (by omega)]
          exact c4
    · have h9 := nsum_upd (f := fun v => uMs (σ.2.2.1 v) (σ.1 v) s) (g := fun v => uMs (σ.2.2.1 v) ((sR σ i 1 (addR (σ.1 i (10 + p)) (σ.1 i 1))).1 v) s) hi (fun v hv => by
        have ecv : (sR σ i 1 (addR (σ.1 i (10 + p)) (σ.1 i 1))).1 v = σ.1 v := by funext a; exact er v a (by omega)
        rw [ecv])
      have h8 := uMs_upd (κ := σ.2.2.1 i) (c := σ.1 i) (c' := (sR σ i 1 (addR (σ.1 i (10 + p)) (σ.1 i 1))).1 i) (fun a h1 h2 => er i a (by omega)) s
      rw [er1, n3 s hs, er i 0 (by omega)] at h8
      unfold MT
      omega
    · funext j
      dsimp only
      refine lW_out _ _ _ _ _ ?_
      omega
  · have hiu : isU σ.2.2.2 (nI d) := isU_nI (by omega) hd
    have td : tn (nI d) = d := tn_nI (by omega)
    have hc : cBrS i p σ = cTake σ d i i (10 + p) := by
      unfold cBrS
      rw [hx, if_pos hiu, td]
    have ek : τ.2.2.1 d = σ.2.2.1 d := by rw [e2]
    rw [hc]
    by_cases h7 : σ.2.2.1 d = 7
    · have hne : ¬ i = d := by
        intro z
        rw [z, h7] at hp
        exact absurd hp (Nat.not_lt_zero _)
      have hm : mCome τ i p = itF (cmLd i p d) 8 τ := by
        unfold mCome
        rw [hL, hx, if_neg (nI_pos (by omega)), td, ek, if_pos h7]
      have hk : cTake σ d i i (10 + p) = cTake7 σ d i i (10 + p) := by unfold cTake; rw [if_pos h7]
      rw [hm, hk]
      refine bring_hold hn hd hi hB hG hGn hM hd0 (fun v a h => ?_) ?_ (fun _ => ?_) rfl ?_ ?_ (fun a j h => ?_) (fun _ k hk => ?_)
      · unfold cTake7
        funext j
        rw [sR_I, if_neg (fun z => h ⟨z.1, Or.inr ⟨h7, z.2⟩⟩), sR_I, if_neg (fun z => h ⟨z.1, Or.inl z.2⟩)]
      · unfold cTake7
        funext j
        rw [sR_I, if_neg (by omega), sR_I, if_pos ⟨rfl, rfl⟩]
      · unfold cTake7
        funext j
        rw [sR_I, if_pos ⟨rfl, rfl⟩]
      · rw [cmLd_it]
      · rw [cmLd_it]
      · rw [cmLd_it]
        dsimp only
        exact lW_out _ _ _ _ _ (fun z => h ⟨h7, z⟩)
      · rw [cmLd_it]
        dsimp only
        exact lW_in _ _ _ _ _ hk
    · have hm : mCome τ i p = itF (cmHo i p d) 8 τ := by
        unfold mCome
        rw [hL, hx, if_neg (nI_pos (by omega)), td, ek, if_neg h7]
      have hk : cTake σ d i i (10 + p) = sR σ d 0 (addR (σ.1 i (10 + p)) (σ.1 d 0)) := by unfold cTake; rw [if_neg h7]
      rw [hm, hk, cmHo_it]
      refine bring_hold hn hd hi hB hG hGn hM hd0 (fun v a h => ?_) ?_ (fun z => absurd z h7) rfl rfl rfl (fun _ _ _ => rfl) (fun z => absurd z h7)
      · funext j
        rw [sR_I, if_neg (fun z => h ⟨z.1, Or.inl z.2⟩)]
      · funext j
        rw [sR_I, if_pos ⟨rfl, rfl⟩]
