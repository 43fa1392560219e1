/-! ===== all comes ===== -/
theorem bring_unit {σ1 τ1 σ τ : Sg} {i : Nat} (hw : KW σ1) (e21 : τ1.2.2 = σ1.2.2) (hi : i < σ1.2.2.2) (hF : FrB σ1.2.2.2 σ1.2.2.1 σ1 τ1 σ τ) (hB : B2 σ1.2.2.2 σ1.2.2.1 σ τ) (hG : uG (σ1.2.2.1 i) (σ1.1 i) (rM τ1 i)) (hGn : uGn (σ1.2.2.1 i) (σ1.1 i)) (hM : ∀ s, s < 2 → MT σ1.2.2.2 σ1.2.2.1 σ s + uGs (σ1.2.2.1 i) (σ1.1 i) s ≤ 130000000) (hL : ∀ p, p < upt (σ1.2.2.1 i) → τ1.1 11 1 (2 * i + p) = σ1.1 i 2 p ∧ (σ1.1 i 2 p = -1 ∨ ∃ d, d < σ1.2.2.2 ∧ σ1.1 i 2 p = nI d ∧ ¬ σ1.2.2.1 d = 0)) :
    FrB σ1.2.2.2 σ1.2.2.1 σ1 τ1 (cBring σ i) (itF (fun p τ => mCome τ i p) (upt (σ1.2.2.1 i)) τ) ∧ B2 σ1.2.2.2 σ1.2.2.1 (cBring σ i) (itF (fun p τ => mCome τ i p) (upt (σ1.2.2.1 i)) τ) ∧ ∀ s, s < 2 → MT σ1.2.2.2 σ1.2.2.1 (cBring σ i) s = MT σ1.2.2.2 σ1.2.2.1 σ s + uGs (σ1.2.2.1 i) (σ1.1 i) s := by
  have e0 : σ.2.2.1 i = σ1.2.2.1 i := by rw [hF.2.1]
  unfold cBring
  rw [e0]
  have hup := upt_le (σ1.2.2.1 i)
  have key := it2I (cBrS i) (fun p τ => mCome τ i p) (upt (σ1.2.2.1 i)) (fun p ρ μ => FrB σ1.2.2.2 σ1.2.2.1 σ1 τ1 ρ μ ∧ B2 σ1.2.2.2 σ1.2.2.1 ρ μ ∧ ∀ s, s < 2 → MT σ1.2.2.2 σ1.2.2.1 ρ s = MT σ1.2.2.2 σ1.2.2.1 σ s + nsum (fun p => wt s (σ1.1 i (10 + p))) p) ?_ (σ := σ) (τ := τ) ⟨hF, hB, fun s _ => rfl⟩ _ (Nat.le_refl _)
  · exact key
  · intro p ρ μ hp ⟨f, b, mm⟩
    have e2 : ρ.2 = σ1.2 := f.2.1
    have en : ρ.2.2.2 = σ1.2.2.2 := by rw [e2]
    have ek : ρ.2.2.1 = σ1.2.2.1 := by rw [e2]
    have g10 : ρ.1 i (10 + p) = σ1.1 i (10 + p) := by funext j; exact f.1 i (10 + p) j (by omega)
    have g2 : ρ.1 i 2 p = σ1.1 i 2 p := f.1 i 2 p (by omega)
    have st := bring_step (σ := ρ) (τ := μ) (i := i) (p := p) (hw.of (by rw [e2])) (by rw [f.2.2.2.2.1, e21, e2]) (by rw [en]; exact hi) (by rw [ek]; exact hp) (by rw [en, ek]; exact b) (fun k hk => by
      rw [f.2.2.1 18 _ (by decide), g10, ← rM18 τ1 i p k (by omega) hk, hG p (by omega) k hk, if_pos hp]) (by rw [g10]; exact hGn p hp) (fun s hs => by
      rw [en, ek, g10, mm s hs]
      have h1 := hM s hs
      have h2 := nsum_mono (f := fun p => wt s (σ1.1 i (10 + p))) (show p + 1 ≤ upt (σ1.2.2.1 i) from hp)
      have h3 : nsum (fun p => wt s (σ1.1 i (10 + p))) (p + 1) = nsum (fun p => wt s (σ1.1 i (10 + p))) p + wt s (σ1.1 i (10 + p)) := rfl
      unfold uGs at h1
      omega) (by rw [f.2.2.1 1 _ (by decide), g2]; exact (hL p hp).1) (by rw [g2, en, ek]; exact (hL p hp).2)
    rw [en, ek] at st
    refine ⟨f.tr st.2.2, st.1, fun s hs => ?_⟩
    rw [st.2.1 s hs, mm s hs, g10, Nat.add_assoc]
    rfl
theorem phase2 {σ1 τ1 : Sg} (hw : KW σ1) (e21 : τ1.2.2 = σ1.2.2) (hB : B2 σ1.2.2.2 σ1.2.2.1 σ1 τ1) (hG : ∀ v, v < σ1.2.2.2 → uG (σ1.2.2.1 v) (σ1.1 v) (rM τ1 v) ∧ uGn (σ1.2.2.1 v) (σ1.1 v)) (hM : ∀ s, s < 2 → MT σ1.2.2.2 σ1.2.2.1 σ1 s + nsum (fun v => uGs (σ1.2.2.1 v) (σ1.1 v) s) σ1.2.2.2 ≤ 130000000) (hL : ∀ v, v < σ1.2.2.2 → ∀ p, p < upt (σ1.2.2.1 v) → τ1.1 11 1 (2 * v + p) = σ1.1 v 2 p ∧ (σ1.1 v 2 p = -1 ∨ ∃ d, d < σ1.2.2.2 ∧ σ1.1 v 2 p = nI d ∧ ¬ σ1.2.2.1 d = 0)) :
    FrB σ1.2.2.2 σ1.2.2.1 σ1 τ1 (cP2 σ1) (mD τ1) ∧ B2 σ1.2.2.2 σ1.2.2.1 (cP2 σ1) (mD τ1) ∧ ∀ s, s < 2 → MT σ1.2.2.2 σ1.2.2.1 (cP2 σ1) s = MT σ1.2.2.2 σ1.2.2.1 σ1 s + nsum (fun v => uGs (σ1.2.2.1 v) (σ1.1 v) s) σ1.2.2.2 := by
  have en : τ1.2.2.2 = σ1.2.2.2 := by rw [e21]
  have ek : τ1.2.2.1 = σ1.2.2.1 := by rw [e21]
  unfold cP2 mD
  rw [en, ek]
  exact it2I (fun u σ => cBring σ u) (fun u τ => itF (fun p τ => mCome τ u p) (upt (σ1.2.2.1 u)) τ) σ1.2.2.2 (fun k ρ μ => FrB σ1.2.2.2 σ1.2.2.1 σ1 τ1 ρ μ ∧ B2 σ1.2.2.2 σ1.2.2.1 ρ μ ∧ ∀ s, s < 2 → MT σ1.2.2.2 σ1.2.2.1 ρ s = MT σ1.2.2.2 σ1.2.2.1 σ1 s + nsum (fun v => uGs (σ1.2.2.1 v) (σ1.1 v) s) k) (fun k ρ μ hk ⟨f, b, mm⟩ => by
    have st := bring_unit hw e21 hk f b (hG k hk).1 (hG k hk).2 (fun s hs => by
      rw [mm s hs]
      have h1 := hM s hs
      have h2 := nsum_mono (f := fun v => uGs (σ1.2.2.1 v) (σ1.1 v) s) (show k + 1 ≤ σ1.2.2.2 from hk)
      have h3 : nsum (fun v => uGs (σ1.2.2.1 v) (σ1.1 v) s) (k + 1) = nsum (fun v => uGs (σ1.2.2.1 v) (σ1.1 v) s) k + uGs (σ1.2.2.1 k) (σ1.1 k) s := rfl
      omega) (hL k hk)
    refine ⟨st.1, st.2.1, fun s hs => ?_⟩
    rw [st.2.2 s hs, mm s hs, Nat.add_assoc]
    rfl) ⟨FrB.rf, hB, fun s _ => rfl⟩ _ (Nat.le_refl _)
/-! ===== levels ===== -/
theorem i32_cancel {a b c : Int32} (h : a + b = c + a) : b = c := by
  have h2 : -a + (a + b) = -a + (a + c) := by rw [h, Int32.add_comm c a]
  rw [← Int32.add_assoc, ← Int32.add_assoc, Int32.add_left_neg, Int32.zero_add, Int32.zero_add] at h2
  exact h2
theorem l_sum_rot (f : Nat → Int32) (N : Nat) : ∀ F, l_sum (fun k => f ((F + k) % N)) N = l_sum f N
  | 0 => l_sum_congr (fun k hk => by rw [Nat.zero_add, Nat.mod_eq_of_lt hk])
  | F + 1 => by
    rw [← l_sum_rot f N F]
    have h1 := l_sum_first (fun k => f ((F + k) % N)) N
    have h2 : l_sum (fun k => f ((F + k) % N)) (N + 1) = l_sum (fun k => f ((F + k) % N)) N + f ((F + N) % N) := rfl
    rw [h2, show (F + N) % N = F % N from Nat.add_mod_right F N] at h1
    have h3 := i32_cancel (a := f (F % N)) (b := l_sum (fun j => f ((F + (j + 1)) % N)) N) (c := l_sum (fun k => f ((F + k) % N)) N) h1.symm
    rw [← h3]
    exact l_sum_congr (fun k hk => by rw [show F + 1 + k = F + (k + 1) by omega])
theorem nsum_first (f : Nat → Nat) : ∀ k, nsum f (k + 1) = f 0 + nsum (fun j => f (j + 1)) k
  | 0 => by show 0 + f 0 = f 0 + 0; omega
  | k + 1 => by
    show nsum f (k + 1) + f (k + 1) = f 0 + (nsum (fun j => f (j + 1)) k + f (k + 1))
    rw [nsum_first f k]
    omega
theorem nsum_rot (f : Nat → Nat) (N : Nat) : ∀ F, nsum (fun k => f ((F + k) % N)) N = nsum f N
  | 0 => nsum_congr (fun k hk => by rw [Nat.zero_add, Nat.mod_eq_of_lt hk])
  | F + 1 => by
    rw [← nsum_rot f N F]
    have h1 := nsum_first (fun k => f ((F + k) % N)) N
    have h2 : nsum (fun k => f ((F + k) % N)) (N + 1) = nsum (fun k => f ((F + k) % N)) N + f ((F + N) % N) := rfl
    rw [h2, show (F + N) % N = F % N from Nat.add_mod_right F N] at h1
    have h4 : nsum (fun k => f ((F + 1 + k) % N)) N = nsum (fun j => f ((F + (j + 1)) % N)) N := nsum_congr (fun k hk => by rw [show F + 1 + k = F + (k + 1) by omega])
    rw [h4]
    have h1 : nsum (fun k => f ((F + k) % N)) N + f (F % N) = f (F % N) + nsum (fun j => f ((F + (j + 1)) % N)) N := h1
    omega
theorem l_sum_drop {g : Nat → Int32} {a : Nat} (h : ∀ j, j < a → g j = 0) : ∀ b, l_sum g (a + b) = l_sum (fun i => g (a + i)) b
  | 0 => by
    have := l_sum_cut (f := g) (g := 0) (k := a) (Nat.zero_le _) (fun j _ hj => h j hj)
    exact this
  | b + 1 => by
    show l_sum g (a + b) + g (a + b) = l_sum (fun i => g (a + i)) b + g (a + b)
    rw [l_sum_drop h b]
theorem nsum_drop {g : Nat → Nat} {a : Nat} (h : ∀ j, j < a → g j = 0) : ∀ b, nsum g (a + b) = nsum (fun i => g (a + i)) b
  | 0 => nsum_zero h
  | b + 1 => by
    show nsum g (a + b) + g (a + b) = nsum (fun i => g (a + i)) b + g (a + b)
    rw [nsum_drop h b]
theorem nsum_cut {f : Nat → Nat} {g : Nat} : ∀ {k : Nat}, g ≤ k → (∀ j, g ≤ j → j < k → f j = 0) → nsum f k = nsum f g
  | 0, h, _ => by
    obtain rfl : g = 0 := by omega
    rfl
  | k + 1, h, hz => by
    by_cases e : g = k + 1
    · subst e; rfl
    · show nsum f k + f k = _
      rw [hz k (by omega) (by omega), Nat.add_zero]
      exact nsum_cut (by omega) (fun j h1 h2 => hz j h1 (by omega))
theorem sA_rot {T k : Nat} (hT : T < 6) (hk : k < 6) : (T + 1 + k) % 6 = sA T (6 - k) := by
  unfold sA
  omega
/-- the slots by their places are the slots by ages: any sum of rows -/
theorem tk_sumI {c r : Nat → Nat → Int32} {T K : Nat} (h : uT c r T K) (φ : (Nat → Int32) → Int32) (h0 : ∀ f : Nat → Int32, (∀ k, k < 8 → f k = 0) → φ f = 0) : l_sum (fun x => φ (c (20 + x))) 6 = l_sum (fun i => φ (c (20 + sA T (K - i)))) K := by
  obtain ⟨hT, hK, -, -, -, -, hz⟩ := h
  rw [← l_sum_rot (fun x => φ (c (20 + x))) 6 (T + 1)]
  rw [l_sum_congr (f := fun k => φ (c (20 + (T + 1 + k) % 6))) (g := fun k => φ (c (20 + sA T (6 - k)))) (fun k hk => by rw [sA_rot hT hk])]
  have := l_sum_drop (g := fun k => φ (c (20 + sA T (6 - k)))) (a := 6 - K) (fun j hj => h0 _ (fun k hk => hz (6 - j) (by omega) (by omega) k hk)) K
  rw [show 6 - K + K = 6 by omega] at this
  rw [this]
  exact l_sum_congr (fun i hi => by rw [show 6 - (6 - K + i) = K - i by omega])
theorem tk_sumN {c r : Nat → Nat → Int32} {T K : Nat} (h : uT c r T K) (φ : (Nat → Int32) → Nat) (h0 : ∀ f : Nat → Int32, (∀ k, k < 8 → f k = 0) → φ f = 0) : nsum (fun x => φ (c (20 + x))) 6 = nsum (fun i => φ (c (20 + sA T (K - i)))) K := by
  obtain ⟨hT, hK, -, -, -, -, hz⟩ := h
  rw [← nsum_rot (fun x => φ (c (20 + x))) 6 (T + 1)]
  rw [nsum_congr (f := fun k => φ (c (20 + (T + 1 + k) % 6))) (g := fun k => φ (c (20 + sA T (6 - k)))) (fun k hk => by rw [sA_rot hT hk])]
  have := nsum_drop (g := fun k => φ (c (20 + sA T (6 - k)))) (a := 6 - K) (fun j hj => h0 _ (fun k hk => hz (6 - j) (by omega) (by omega) k hk)) K
  rw [show 6 - K + K = 6 by omega] at this
  rw [this]
  exact nsum_congr (fun i hi => by rw [show 6 - (6 - K + i) = K - i by omega])
theorem pl_sumI {c r : Nat → Nat → Int32} {F L : Nat} (h : uP c r F L) (φ : (Nat → Int32) → Int32) (h0 : ∀ f : Nat → Int32, (∀ k, k < 8 → f k = 0) → φ f = 0) : l_sum (fun x => φ (c (40 + x))) 20 = l_sum (fun k => φ (c (40 + (F + k) % 20))) L := by
  obtain ⟨hF, hL, -, -, -, -, hz⟩ := h
  rw [← l_sum_rot (fun x => φ (c (40 + x))) 20 F]
  exact l_sum_cut hL (fun j h1 h2 => h0 _ (fun k hk => hz j h1 h2 k hk))
theorem pl_sumN {c r : Nat → Nat → Int32} {F L : Nat} (h : uP c r F L) (φ : (Nat → Int32) → Nat) (h0 : ∀ f : Nat → Int32, (∀ k, k < 8 → f k = 0) → φ f = 0) : nsum (fun x => φ (c (40 + x))) 20 = nsum (fun k => φ (c (40 + (F + k) % 20))) L := by
  obtain ⟨hF, hL, -, -, -, -, hz⟩ := h
  rw [← nsum_rot (fun x => φ (c (40 + x))) 20 F]
  exact nsum_cut hL (fun j h1 h2 => h0 _ (fun k hk => hz j h1 h2 k hk))
theorem l_sum_0 {f : Nat → Int32} {k : Nat} (h : ∀ j, j < k → f j = 0) : l_sum f k = 0 := l_sum_cut (f := f) (g := 0) (k := k) (Nat.zero_le _) (fun j _ hj => h j hj)
/-- in slots, in lots: class and reference -/
theorem slots_eq {σ τ : Sg} {d : Nat} (hD : uD (σ.2.2.1 d) (σ.1 d) (rM τ d)) : l_sum (fun k => mSlot τ d k) (tn (τ.1 11 13 d)) = vSl σ d := by
  unfold vSl
  by_cases h5 : σ.2.2.1 d = 5
  · rw [if_pos h5]
    obtain ⟨T, K, hU⟩ := hD.2.2.2.1 h5
    rw [tk_sumI hU (fun f => l_sum f 8) (fun f hf => l_sum_0 hf)]
    obtain ⟨hT, hK, -, eK, -, hS, -⟩ := hU
    rw [← rM1 τ d 13 rfl, eK, tn_nI (by omega)]
    exact l_sum_congr (fun i hi => l_sum_congr (fun k hk => by rw [← rM14 τ d i k (by omega) hk]; exact hS i hi k hk))
  · rw [if_neg h5, ← rM1 τ d 13 rfl, hD.2.2.2.2.1 h5, tn_0]
    rfl
theorem lots_eq {σ τ : Sg} {d : Nat} (hD : uD (σ.2.2.1 d) (σ.1 d) (rM τ d)) : l_sum (fun k => mLot τ d k) (tn (τ.1 11 16 d)) = vLo σ d := by
  unfold vLo
  by_cases h6 : σ.2.2.1 d = 6
  · rw [if_pos h6]
    obtain ⟨F, L, hU⟩ := hD.2.2.2.2.2.1 h6
    rw [pl_sumI hU (fun f => l_sum f 8) (fun f hf => l_sum_0 hf)]
    obtain ⟨hF, hL, -, -, eL, hS, -⟩ := hU
    rw [← rM1 τ d 16 rfl, eL, tn_nI (by omega)]
    exact l_sum_congr (fun i hi => l_sum_congr (fun k hk => by rw [← rM17 τ d i k (by omega) hk]; exact hS i hi k hk))
  · rw [if_neg h6, ← rM1 τ d 16 rfl, hD.2.2.2.2.2.2 h6, tn_0]
    rfl
theorem hold_eq {σ τ : Sg} {d : Nat} (hH : uH (σ.1 d) (rM τ d)) : mHold τ d = l_sum (σ.1 d 0) 8 := l_sum_congr (fun k hk => by rw [← rM2 τ d k hk]; exact hH k hk)
theorem lev_eq {σ τ : Sg} {d : Nat} (hH : uH (σ.1 d) (rM τ d)) (hD : uD (σ.2.2.1 d) (σ.1 d) (rM τ d)) : mLevel τ d (tn (τ.1 11 13 d)) (tn (τ.1 11 16 d)) = cLev σ d := by
  unfold mLevel cLev
  rw [hold_eq hH, slots_eq hD, lots_eq hD]
/-! ===== feeds are put on and off ===== -/
def P3I (σ0 τ0 : Sg) (σ τ : Sg) : Prop := σ.2 = σ0.2 ∧ τ.2 = τ0.2 ∧ (∀ v a j, ¬ (v < σ0.2.2.2 ∧ a = 8 ∧ j = 0 ∧ σ0.2.2.1 v = 0) → σ.1 v a j = σ0.1 v a j) ∧ (∀ a j, ¬ (a = 12 ∧ j < σ0.2.2.2 ∧ σ0.2.2.1 j = 0) → τ.1 11 a j = τ0.1 11 a j) ∧ ∀ v, v < σ0.2.2.2 → σ0.2.2.1 v = 0 → τ.1 11 12 v = σ.1 v 8 0 ∧ (σ.1 v 8 0 = nI 0 ∨ σ.1 v 8 0 = nI 1)
theorem phase3 {σ0 τ0 : Sg} (hw : KW σ0) (e2 : τ0.2.2 = σ0.2.2) (hU : ∀ v, v < σ0.2.2.2 → uH (σ0.1 v) (rM τ0 v) ∧ uD (σ0.2.2.1 v) (σ0.1 v) (rM τ0 v)) (hC : ∀ v, v < σ0.2.2.2 → σ0.2.2.1 v = 0 → τ0.1 11 9 v = σ0.1 v 8 1 ∧ τ0.1 11 10 v = σ0.1 v 8 2 ∧ τ0.1 11 11 v = σ0.1 v 8 3 ∧ (σ0.1 v 8 1 = -1 ∨ ∃ d, d < σ0.2.2.2 ∧ σ0.1 v 8 1 = nI d)) : P3I σ0 τ0 (cP3 σ0) (mE τ0) := by
  have hn := hw.1
  have en : τ0.2.2.2 = σ0.2.2.2 := by rw [e2]
  unfold cP3 mE
  rw [en]
  refine it2I cCtF (fun f τ => mCtl τ f) σ0.2.2.2 (fun _ σ τ => P3I σ0 τ0 σ τ) (fun k σ τ hk h => ?_) ⟨rfl, rfl, fun _ _ _ _ => rfl, fun _ _ _ => rfl, fun v hv h0 => by
    have := (hU v hv).2.1 h0
    rw [rM1 τ0 v 12 rfl] at this
    exact this⟩ _ (Nat.le_refl _)
  obtain ⟨i1, i2, i3, i4, i5⟩ := h
  have ek : σ.2.2.1 = σ0.2.2.1 := by rw [i1]
  have eknn : σ.2.2.2 = σ0.2.2.2 := by rw [i1]
  have ekt : τ.2.2.1 = σ0.2.2.1 := by rw [i2, e2]
  unfold cCtF mCtl
  rw [ek, ekt]
  by_cases h0 : σ0.2.2.1 k = 0
  · rw [if_pos h0, if_neg (fun z => z h0)]
    obtain ⟨c1, c2, c3, c4⟩ := hC k hk h0
    have t9 : τ.1 11 9 k = σ0.1 k 8 1 := by rw [i4 9 k (by omega)]; exact c1
    have t10 : τ.1 11 10 k = σ0.1 k 8 2 := by rw [i4 10 k (by omega)]; exact c2
    have t11 : τ.1 11 11 k = σ0.1 k 8 3 := by rw [i4 11 k (by omega)]; exact c3
    have s1 : σ.1 k 8 1 = σ0.1 k 8 1 := i3 k 8 1 (by omega)
    have s2 : σ.1 k 8 2 = σ0.1 k 8 2 := i3 k 8 2 (by omega)
    have s3 : σ.1 k 8 3 = σ0.1 k 8 3 := i3 k 8 3 (by omega)
    unfold cCtl
    rw [s1, eknn, t9]
    rcases c4 with hx | ⟨d, hd, hx⟩
    · rw [hx, if_neg (fun z => absurd z.1 (by decide)), if_pos (by decide)]
      exact ⟨i1, i2, i3, i4, i5⟩
    · rw [hx, if_pos (isU_nI (by omega) hd), if_neg (nI_pos (by omega)), tn_nI (by omega)]
      have el : mLevel τ d (tn (τ.1 11 13 d)) (tn (τ.1 11 16 d)) = cLev σ0 d := by
        rw [← lev_eq (hU d hd).1 (hU d hd).2]
        rw [i4 13 d (by omega), i4 16 d (by omega)]
        unfold mLevel
        rw [show mHold τ d = mHold τ0 d from l_sum_congr (fun c hc => i4 2 _ (by omega))]
        rw [l_sum_congr (f := fun k => mSlot τ d k) (g := fun k => mSlot τ0 d k) (fun k hk => l_sum_congr (fun c hc => i4 14 _ (by omega)))]
        rw [l_sum_congr (f := fun k => mLot τ d k) (g := fun k => mLot τ0 d k) (fun k hk => l_sum_congr (fun c hc => i4 17 _ (by omega)))]
      have ec : cLev σ d = cLev σ0 d := by
        unfold cLev vSl vLo
        rw [ek]
        rw [show σ.1 d 0 = σ0.1 d 0 from by funext j; exact i3 d 0 j (by omega)]
        rw [l_sum_congr (f := fun t => l_sum (σ.1 d (20 + t)) 8) (g := fun t => l_sum (σ0.1 d (20 + t)) 8) (k := 6) (fun t ht => l_sum_congr (fun c hc => i3 d (20 + t) c (by omega)))]
        rw [l_sum_congr (f := fun t => l_sum (σ.1 d (40 + t)) 8) (g := fun t => l_sum (σ0.1 d (40 + t)) 8) (k := 20) (fun t ht => l_sum_congr (fun c hc => i3 d (40 + t) c (by omega)))]
      rw [el, t10, t11, (i5 k hk h0).1, ec]
      generalize cLev σ0 d = v
      unfold s_obey
      rw [s2, s3]
      -- what it is put to
      have put : ∀ (x : Int32) (σ' : Sg), (x = nI 0 ∨ x = nI 1) → (σ' = sI σ k 8 0 x ∨ (σ' = σ ∧ x = σ.1 k 8 0)) → P3I σ0 τ0 σ' (sI τ 11 12 k x) := by
        intro x σ' hx9 hs
        have hv : ∀ v a j, ¬ (v = k ∧ a = 8 ∧ j = 0) → σ'.1 v a j = σ.1 v a j := by
          intro v a j h
          rcases hs with rfl | ⟨rfl, -⟩
          · rw [sI_I, if_neg h]
          · rfl
        have hk0 : σ'.1 k 8 0 = x := by
          rcases hs with rfl | ⟨rfl, e⟩
          · rw [sI_I, if_pos ⟨rfl, rfl, rfl⟩]
          · exact e.symm
        have h2' : σ'.2 = σ.2 := by rcases hs with rfl | ⟨rfl, -⟩ <;> rfl
        refine ⟨h2'.trans i1, i2, fun v a j h => ?_, fun a j h => ?_, fun v hv' hv0 => ?_⟩
        · rw [hv v a j (fun z => h ⟨by rw [z.1]; exact hk, z.2.1, z.2.2, by rw [z.1]; exact h0⟩)]
          exact i3 v a j h
        · rw [sI_I, if_neg (fun z => h ⟨z.2.1, by rw [z.2.2]; exact hk, by rw [z.2.2]; exact h0⟩)]
          exact i4 a j h
        · by_cases e : v = k
          · subst e
            rw [sI_I, if_pos ⟨rfl, rfl, rfl⟩, hk0]
            exact ⟨rfl, hx9⟩
          · rw [sI_I, if_neg (by omega), hv v 8 0 (by omega)]
            exact i5 v hv' hv0
      by_cases h1 : σ0.1 k 8 2 < v
      · rw [if_pos h1, if_neg (fun z => absurd h1 (Int32.not_lt.mpr z.1))]
        exact put (nI 0) _ (Or.inl rfl) (Or.inl rfl)
      · rw [if_neg h1]
        by_cases h2 : v < σ0.1 k 8 3
        · rw [if_pos h2, if_pos ⟨Int32.not_lt.mp h1, Or.inl h2⟩]
          exact put (nI 1) _ (Or.inr rfl) (Or.inl rfl)
        · rw [if_neg h2]
          obtain ⟨j1, j2⟩ := i5 k hk h0
          rcases j2 with e | e
          · rw [if_neg (fun z => z.2.elim h2 (fun q => q (e.trans rfl)))]
            exact put (nI 0) _ (Or.inl rfl) (Or.inr ⟨rfl, e.symm⟩)
          · rw [if_pos ⟨Int32.not_lt.mp h1, Or.inr (by rw [e]; decide)⟩]
            exact put (nI 1) _ (Or.inr rfl) (Or.inr ⟨rfl, e.symm⟩)
  · rw [if_neg h0, if_pos h0]
    exact ⟨i1, i2, i3, i4, i5⟩
