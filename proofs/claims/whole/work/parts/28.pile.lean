/-! ===== piles give ===== -/
/-- class and reference with g lots given of L; R: the lots as they were -/
def plR (i F L M g Sg0 : Nat) (R : Nat → Nat → Int32) (W : Nat → Nat) (ρ μ : Sg) : Prop :=
  g ≤ L ∧ Sg0 ≤ M ∧ ρ.1 i 8 5 = nI ((F + g) % 20) ∧ ρ.1 i 8 6 = nI (L - g) ∧ (∀ k, g ≤ k → k < L → ∀ j, j < 8 → ρ.1 i (40 + (F + k) % 20) j = R k j) ∧ (∀ k, k < 20 → (k < g ∨ L ≤ k) → ∀ j, j < 8 → ρ.1 i (40 + (F + k) % 20) j = 0) ∧ (∀ k, k < L → ∀ j, j < 8 → μ.1 11 17 ((20 * i + k) * 8 + j) = R k j) ∧ (∀ j, j < 8 → μ.1 11 18 ((2 * i + 0) * 8 + j) = ρ.1 i 10 j) ∧ (∀ j, j < 8 → μ.1 11 18 ((2 * i + 1) * 8 + j) = 0) ∧ μ.1 11 8 i = nI M ∧ mQ i 40 20 W ρ ∧ ∀ j, j < 8 → ρ.1 i 0 j = 0
theorem pl_sim {i F L M : Nat} {R : Nat → Nat → Int32} {W : Nat → Nat} (hF : F < 20) (hL : L ≤ 20) (hM : M ≤ 5000) (hW : ∀ s, s < 2 → W s ≤ 140000000) : ∀ (n g f S : Nat) (ρ μ : Sg), L - g = n → n ≤ f → plR i F L M g S R W ρ μ → ∃ g' S', g ≤ g' ∧ (plW i L n g (lN S) μ).1 = g' ∧ plR i F L M g' S' R W (cPl i f ((F + g) % 20) (L - g) (nI (M - S)) ρ) (plW i L n g (lN S) μ).2
  | 0, g, f, S, ρ, μ, hn, hf, h => by
    refine ⟨g, S, Nat.le_refl _, rfl, ?_⟩
    have e : cPl i f ((F + g) % 20) (L - g) (nI (M - S)) ρ = ρ := by
      cases f with
      | zero => rfl
      | succ f =>
        show (if L - g = 0 then ρ else _) = ρ
        rw [if_pos hn]
    rw [e]
    exact h
  | n + 1, g, f, S, ρ, μ, hn, hf, h => by
    obtain ⟨f, rfl⟩ : ∃ f', f = f' + 1 := ⟨f - 1, by omega⟩
    have hR := h
    obtain ⟨a1, a2, a3, a4, a5, a6, a7, a8, a9, a10, a11, a12⟩ := h
    have hgL : g < L := by omega
    have hx : (F + g) % 20 < 20 := Nat.mod_lt _ (by decide)
    have nnl := a11.2.2.1 _ hx
    have bl : wt 0 (ρ.1 i (40 + (F + g) % 20)) + wt 1 (ρ.1 i (40 + (F + g) % 20)) ≤ 280000000 := by
      have h0 := a11.2.2.2 0 (by decide)
      have h1 := a11.2.2.2 1 (by decide)
      have w0 := hW 0 (by decide)
      have w1 := hW 1 (by decide)
      have n0 := nsum_le (f := fun x => wt 0 (ρ.1 i (40 + x))) hx
      have n1 := nsum_le (f := fun x => wt 1 (ρ.1 i (40 + x))) hx
      omega
    have ecl := l_sum_wt nnl
    have eml : mLot μ i g = l_sum (ρ.1 i (40 + (F + g) % 20)) 8 := l_sum_congr (fun j hj => by rw [a7 g hgL j hj, a5 g (Nat.le_refl _) hgL j hj])
    generalize hw : wt 0 (ρ.1 i (40 + (F + g) % 20)) + wt 1 (ρ.1 i (40 + (F + g) % 20)) = w at bl ecl
    have eW : plW i L (n + 1) g (lN S) μ = if g < L ∧ ¬ (μ.1 11 8 i).toInt64 < lN S + (mLot μ i g).toInt64 then plW i L n (g + 1) (lN S + (mLot μ i g).toInt64) (itF (plO i g) 8 μ) else (g, μ) := rfl
    have eC : cPl i (f + 1) ((F + g) % 20) (L - g) (nI (M - S)) ρ = if L - g = 0 then ρ else if nI (M - S) - l_sum (ρ.1 i (40 + (F + g) % 20)) 8 < 0 then ρ else cPl i f (((F + g) % 20 + 1) % 20) (L - g - 1) (nI (M - S) - l_sum (ρ.1 i (40 + (F + g) % 20)) 8) (cPlS ρ i ((F + g) % 20) (L - g)) := rfl
    have el : lN S + (mLot μ i g).toInt64 = lN (S + w) := by rw [eml, ecl, nI_l (by omega), lN_add]
    have e8 : (μ.1 11 8 i).toInt64 = lN M := by rw [a10, nI_l (by omega)]
    rw [eW, eC, el, e8, ecl, if_neg (show ¬ L - g = 0 by omega)]
    by_cases hgo : S + w ≤ M
    · rw [if_pos ⟨hgL, fun z => by have := (pk_lLT (by omega) (by omega)).mp z; omega⟩]
      rw [pk_sub (show w ≤ M - S by omega), if_neg (nI_pos (by omega)), show M - S - w = M - (S + w) by omega, show ((F + g) % 20 + 1) % 20 = (F + (g + 1)) % 20 by omega, show L - g - 1 = L - (g + 1) by omega]
      have eo : itF (plO i g) 8 μ = sW μ 18 ((2 * i + 0) * 8) 8 (fun c => μ.1 11 18 ((2 * i + 0) * 8 + c) + μ.1 11 17 ((20 * i + g) * 8 + c)) := itF_sW (f := plO i g) 18 ((2 * i + 0) * 8) (fun c τ => τ.1 11 18 ((2 * i + 0) * 8 + c) + τ.1 11 17 ((20 * i + g) * 8 + c)) (fun _ _ => rfl) μ 8 (fun c hc => by
        show (sW _ _ _ _ _).1 11 18 _ + (sW _ _ _ _ _).1 11 17 _ = _
        rw [sW_out _ _ _ _ _ (by omega), sW_out _ _ _ _ _ (by omega)])
      obtain ⟨m1, m2, m3, m5, m4⟩ := mv_wt (ρ := ρ) (i := i) (a := 40 + (F + g) % 20) (a' := 10) nnl a11.2.1 (by omega) (fun s hs => by
        have h1 := a11.2.2.2 s hs
        have h2 := hW s hs
        have h3 := nsum_le (f := fun x => wt s (ρ.1 i (40 + x))) hx
        omega)
      have mq := mQ_out (i := i) (B := 40) (N := 20) (by decide) hW a11 hx
      have es : ∀ a, ¬ a = 8 → (cPlS ρ i ((F + g) % 20) (L - g)).1 i a = (mvR ρ i (40 + (F + g) % 20) 8 i 10).1 i a := by
        intro a ha
        funext j
        unfold cPlS
        rw [sI_I, if_neg (by omega), sI_I, if_neg (by omega)]
      have step : plR i F L M (g + 1) (S + w) R W (cPlS ρ i ((F + g) % 20) (L - g)) (itF (plO i g) 8 μ) := by
        refine ⟨by omega, hgo, ?_, ?_, fun k hk1 hk2 j hj => ?_, fun k hk hk2 j hj => ?_, fun k hk j hj => ?_, fun j hj => ?_, fun j hj => ?_, ?_, ?_, fun j hj => by rw [es 0 (by omega), m4 0 (by omega) (by omega)]; exact a12 j hj⟩
        · unfold cPlS
          rw [sI_I, if_neg (by omega), sI_I, if_pos ⟨rfl, rfl, rfl⟩]
          congr 1
          omega
        · unfold cPlS
          rw [sI_I, if_pos ⟨rfl, rfl, rfl⟩]
          congr 1
        · rw [es _ (by omega), m4 _ (by omega) (by omega)]
          exact a5 k (by omega) hk2 j hj
        · rw [es _ (by omega)]
          by_cases e : k = g
          · subst e
            exact m1 j hj
          · rw [m4 _ (by omega) (by omega)]
            exact a6 k hk (by omega) j hj
        · rw [eo, sW_out _ _ _ _ _ (by omega)]
          exact a7 k hk j hj
        · rw [eo, sW_in _ _ _ _ _ hj, es _ (by omega), m5 j hj, a8 j hj, a7 g hgL j hj, a5 g (Nat.le_refl _) hgL j hj]
        · rw [eo, sW_out _ _ _ _ _ (by omega)]
          exact a9 j hj
        · rw [eo, sW_out _ _ _ _ _ (by omega)]
          exact a10
        · obtain ⟨q1, q2, q3, q4⟩ := mq
          refine ⟨by rw [es 0 (by omega)]; exact q1, by rw [es 10 (by omega)]; exact q2, fun x hx => by rw [es (40 + x) (by omega)]; exact q3 x hx, fun s hs => ?_⟩
          rw [es 0 (by omega), es 10 (by omega), nsum_congr (f := fun x => wt s ((cPlS ρ i ((F + g) % 20) (L - g)).1 i (40 + x))) (g := fun x => wt s ((mvR ρ i (40 + (F + g) % 20) 8 i 10).1 i (40 + x))) (fun x hx => by rw [es (40 + x) (by omega)])]
          exact q4 s hs
      obtain ⟨g', S', b1, b2, b3⟩ := pl_sim hF hL hM hW n (g + 1) f (S + w) _ _ (by omega) (by omega) step
      exact ⟨g', S', by omega, b2, b3⟩
    · rw [if_neg (fun z => z.2 ((pk_lLT (by omega) (by omega)).mpr (by omega)))]
      rw [if_pos (pk_sneg (by omega) (by omega))]
      exact ⟨g, S, Nat.le_refl _, rfl, hR⟩
/-- the lots move up -/
theorem pl_shift {i L g : Nat} (hL : L ≤ 20) (hg : g ≤ L) (μ : Sg) (R : Nat → Nat → Int32) (hR : ∀ k, k < L → ∀ j, j < 8 → μ.1 11 17 ((20 * i + k) * 8 + j) = R k j) : ∀ n, n ≤ L - g → (∀ k, k < n → ∀ j, j < 8 → (itF (fun k τ => itF (plM i g k) 8 τ) n μ).1 11 17 ((20 * i + k) * 8 + j) = R (k + g) j) ∧ (∀ k, n ≤ k → k < L → ∀ j, j < 8 → (itF (fun k τ => itF (plM i g k) 8 τ) n μ).1 11 17 ((20 * i + k) * 8 + j) = R k j) ∧ ∀ a, ¬ a = 17 → (itF (fun k τ => itF (plM i g k) 8 τ) n μ).1 11 a = μ.1 11 a
  | 0, _ => ⟨fun k hk => absurd hk (by omega), fun k _ hk => hR k hk, fun _ _ => rfl⟩
  | n + 1, hn => by
    obtain ⟨h1, h2, h3⟩ := pl_shift hL hg μ R hR n (by omega)
    show (∀ k, k < n + 1 → ∀ j, j < 8 → (itF (plM i g n) 8 (itF (fun k τ => itF (plM i g k) 8 τ) n μ)).1 11 17 ((20 * i + k) * 8 + j) = R (k + g) j) ∧ (∀ k, n + 1 ≤ k → k < L → ∀ j, j < 8 → (itF (plM i g n) 8 (itF (fun k τ => itF (plM i g k) 8 τ) n μ)).1 11 17 ((20 * i + k) * 8 + j) = R k j) ∧ ∀ a, ¬ a = 17 → (itF (plM i g n) 8 (itF (fun k τ => itF (plM i g k) 8 τ) n μ)).1 11 a = μ.1 11 a
    generalize itF (fun k τ => itF (plM i g k) 8 τ) n μ = ν at h1 h2 h3 ⊢
    have e : itF (plM i g n) 8 ν = sW ν 17 ((20 * i + n) * 8) 8 (fun c => ν.1 11 17 ((20 * i + (n + g)) * 8 + c)) := itF_sW (f := plM i g n) 17 ((20 * i + n) * 8) (fun c τ => τ.1 11 17 ((20 * i + (n + g)) * 8 + c)) (fun _ _ => rfl) ν 8 (fun c hc => sW_out _ _ _ _ _ (by omega))
    rw [e]
    refine ⟨fun k hk j hj => ?_, fun k hk1 hk2 j hj => ?_, fun a ha => ?_⟩
    · by_cases ek : k = n
      · subst ek
        rw [sW_in _ _ _ _ _ hj]
        exact h2 (k + g) (by omega) (by omega) j hj
      · rw [sW_out _ _ _ _ _ (by omega)]
        exact h1 k (by omega) j hj
    · rw [sW_out _ _ _ _ _ (by omega)]
      exact h2 k (by omega) hk2 j hj
    · rw [← h3 a ha]
      funext j
      exact sW_out _ _ _ _ _ (by omega)
theorem rM17 (τ : Sg) (u j k : Nat) (hj : j < 20) (hk : k < 8) : rM τ u 17 (8 * j + k) = τ.1 11 17 ((20 * u + j) * 8 + k) := by
  rw [rM_at τ u 17 _ (show 8 * j + k < 160 by omega), show (20 * u + j) * 8 + k = wd 17 * u + (8 * j + k) from by show _ = 160 * u + _; omega]
/-- from the put on -/
theorem pl_end {σ τ ρ μ : Sg} {i F L M : Nat} {R : Nat → Nat → Int32} (hF : F < 20) (hL : L ≤ 20) (hM : M ≤ 5000) (hD : uD 6 (σ.1 i) (rM τ i)) (hn : uNn 6 (σ.1 i)) (hb : ∀ s, s < 2 → uMs 6 (σ.1 i) s ≤ 130000000)
    (hp : plR i F L M 0 0 R (fun s => wt s (σ.1 i 0) + nsum (fun x => wt s (σ.1 i (40 + x))) 20) ρ μ) (c1 : ρ.1 i 1 = σ.1 i 1) (r12 : μ.1 11 12 i = τ.1 11 12 i) (r13 : μ.1 11 13 i = τ.1 11 13 i) :
    gOut 6 (σ.1 i) ((cPl i 20 F L (nI M) ρ).1 i) (rM (plG μ i L) i) := by
  have hW : ∀ s, s < 2 → wt s (σ.1 i 0) + nsum (fun x => wt s (σ.1 i (40 + x))) 20 ≤ 140000000 := by
    intro s hs
    have := hb s hs
    have e : uMs 6 (σ.1 i) s = wt s (σ.1 i 0) + wt s (σ.1 i 1) + nsum (fun x => wt s (σ.1 i (40 + x))) 20 := rfl
    omega
  obtain ⟨g, S', -, b2, b3⟩ := pl_sim hF hL hM hW L 0 20 0 ρ μ (by omega) (by omega) hp
  rw [show (F + 0) % 20 = F by omega, show L - 0 = L by omega, show M - 0 = M by omega] at b3
  have b2 : (plW i L L 0 0 μ).1 = g := b2
  have b3 : plR i F L M g S' R (fun s => wt s (σ.1 i 0) + nsum (fun x => wt s (σ.1 i (40 + x))) 20) (cPl i 20 F L (nI M) ρ) (plW i L L 0 0 μ).2 := b3
  have frx := frx_pl i 20 F L (nI M) ρ hF
  have frw := fr_plW i L L 0 0 μ
  unfold plG plN
  rw [b2]
  generalize (plW i L L 0 0 μ).2 = ν at b3 frw ⊢
  generalize cPl i 20 F L (nI M) ρ = ρ' at b3 frx ⊢
  obtain ⟨a1, a2, a3, a4, a5, a6, a7, a8, a9, a10, a11, a12⟩ := b3
  obtain ⟨s1, -, s3⟩ := pl_shift (i := i) hL a1 (sI ν 11 16 i (nI (L - g))) R (fun k hk j hj => by rw [sI_I, if_neg (by omega)]; exact a7 k hk j hj) (L - g) (Nat.le_refl _)
  generalize itF (fun k τ => itF (plM i g k) 8 τ) (L - g) (sI ν 11 16 i (nI (L - g))) = μ' at s1 s3 ⊢
  have f18 : ∀ j, μ'.1 11 18 j = ν.1 11 18 j := fun j => by rw [s3 18 (by decide), sI_I, if_neg (by omega)]
  have c1' : ρ'.1 i 1 = σ.1 i 1 := by
    rw [← c1]
    funext j
    exact frx.1 i 1 j (by unfold xP; omega)
  refine ⟨fun _ => a12, fun p hp k hk => ?_, fun p hp => ?_, ⟨a11.1, by rw [c1']; exact hn.2.1, fun z => absurd z (by decide), fun _ => a11.2.2.1⟩, ?_, fun s hs => ?_⟩
  · by_cases hp0 : p = 0
    · subst hp0
      rw [if_pos (by decide), rM18 _ i 0 k (by decide) hk, f18]
      exact a8 k hk
    · obtain rfl : p = 1 := by omega
      rw [if_neg (by decide), rM18 _ i 1 k (by decide) hk, f18]
      exact a9 k hk
  · obtain rfl : p = 0 := by have : p < 1 := hp; omega
    exact a11.2.1
  · refine ⟨fun z => absurd z (by decide), fun _ => ?_, fun z => absurd z (by decide), fun z => absurd z (by decide), fun _ => ?_, fun _ => ⟨(F + g) % 20, L - g, Nat.mod_lt _ (by decide), by omega, a3, a4, ?_, fun k hk j hj => ?_, fun k hk hk2 j hj => ?_⟩, fun z => absurd rfl z⟩
    · rw [rM1 _ i 12 rfl, s3 12 (by decide), sI_I, if_neg (by omega), frw.1 11 12 i (by unfold pS; omega), r12, ← rM1 τ i 12 rfl]
      exact hD.2.1 (by decide)
    · rw [rM1 _ i 13 rfl, s3 13 (by decide), sI_I, if_neg (by omega), frw.1 11 13 i (by unfold pS; omega), r13, ← rM1 τ i 13 rfl]
      exact hD.2.2.2.2.1 (by decide)
    · rw [rM1 _ i 16 rfl, s3 16 (by decide), sI_I, if_pos ⟨rfl, rfl, rfl⟩]
    · rw [rM17 _ i k j (by omega) hj, s1 k hk j hj, show ((F + g) % 20 + k) % 20 = (F + (k + g)) % 20 by omega]
      exact (a5 (k + g) (by omega) (by omega) j hj).symm
    · by_cases h20 : k + g < 20
      · rw [show ((F + g) % 20 + k) % 20 = (F + (k + g)) % 20 by omega]
        exact a6 (k + g) h20 (by omega) j hj
      · rw [show ((F + g) % 20 + k) % 20 = (F + (k + g - 20)) % 20 by omega]
        exact a6 (k + g - 20) (by omega) (by omega) j hj
  · show wt s (ρ'.1 i 0) + wt s (ρ'.1 i 1) + nsum (fun x => wt s (ρ'.1 i (40 + x))) 20 + (0 + wt s (ρ'.1 i 10)) ≤ wt s (σ.1 i 0) + wt s (σ.1 i 1) + nsum (fun x => wt s (σ.1 i (40 + x))) 20 + 4000
    have : wt s (ρ'.1 i 0) + wt s (ρ'.1 i 10) + nsum (fun x => wt s (ρ'.1 i (40 + x))) 20 = wt s (σ.1 i 0) + nsum (fun x => wt s (σ.1 i (40 + x))) 20 := a11.2.2.2 s hs
    rw [c1']
    omega
set_option maxHeartbeats 1000000 in
theorem give_6 {σ τ : Sg} {i : Nat} (hi : gIn 6 (σ.1 i) (rM τ i)) : gOut 6 (σ.1 i) ((cPile σ i (tn (σ.1 i 8 5)) (tn (σ.1 i 8 6))).1 i) (rM (mPile τ i (tn (τ.1 11 16 i))) i) := by
  obtain ⟨hS, hN, hD, hH, hz, hn, hb, -⟩ := hi
  obtain ⟨F, L, hF, hL, eF, eL, eR, hLo, hZe⟩ := hD.2.2.2.2.2.1 rfl
  obtain ⟨M, -, hM, eM⟩ := inR_of (by decide) (by decide) (hN.2.2.2.2.1 rfl)
  have e8 : τ.1 11 8 i = nI M := by
    rw [← rM1 τ i 8 rfl, hS.2.2.2.2.2.1 rfl]
    exact eM
  have eR' : τ.1 11 16 i = nI L := by rw [← rM1 τ i 16 rfl]; exact eR
  rw [eF, eL, eR', tn_nI (by omega), tn_nI (by omega)]
  have hW : ∀ s, s < 2 → wt s (σ.1 i 0) + nsum (fun x => wt s (σ.1 i (40 + x))) 20 ≤ 140000000 := by
    intro s hs
    have := hb s hs
    have e : uMs 6 (σ.1 i) s = wt s (σ.1 i 0) + wt s (σ.1 i 1) + nsum (fun x => wt s (σ.1 i (40 + x))) 20 := rfl
    omega
  have ew := l_sum_wt hn.1
  have bw : wt 0 (σ.1 i 0) + wt 1 (σ.1 i 0) ≤ 280000000 := by
    have := hW 0 (by decide)
    have := hW 1 (by decide)
    omega
  have eh : mHold τ i = l_sum (σ.1 i 0) 8 := l_sum_congr (fun k hk => by rw [← rM2 τ i k hk]; exact hH k hk)
  -- behind the row of what is given is emptied
  have p0 : ∀ a, ¬ a = 10 → (cPile0 σ i).1 i a = σ.1 i a := fun a ha => by
    funext j
    unfold cPile0
    rw [sR_I, if_neg (by omega)]
  have z10 : ∀ k, k < 8 → (cPile0 σ i).1 i 10 k = 0 := fun k hk => by
    unfold cPile0
    rw [sR_I, if_pos ⟨rfl, rfl⟩]
    exact zerR_0 (by decide) _ k hk
  have q0 : mQ i 40 20 (fun s => wt s (σ.1 i 0) + nsum (fun x => wt s (σ.1 i (40 + x))) 20) (cPile0 σ i) := by
    refine ⟨by rw [p0 0 (by decide)]; exact hn.1, nnR_zero z10, fun x hx => by rw [p0 (40 + x) (by omega)]; exact hn.2.2.2 rfl x hx, fun s hs => ?_⟩
    rw [p0 0 (by decide), wt_zero hs z10, nsum_congr (f := fun x => wt s ((cPile0 σ i).1 i (40 + x))) (g := fun x => wt s (σ.1 i (40 + x))) (fun x hx => by rw [p0 (40 + x) (by omega)])]
    rfl
  have o18 : ∀ p, p < 2 → ∀ k, k < 8 → τ.1 11 18 ((2 * i + p) * 8 + k) = 0 := fun p hp k hk => by
    rw [← rM18 τ i p k hp hk]
    exact hz _ (by omega)
  have lo : ∀ k, k < L → ∀ j, j < 8 → τ.1 11 17 ((20 * i + k) * 8 + j) = σ.1 i (40 + (F + k) % 20) j := fun k hk j hj => by
    rw [← rM17 τ i k j (by omega) hj]
    exact hLo k hk j hj
  unfold cPile mPile
  rw [eh, ew, eM]
  by_cases h0 : wt 0 (σ.1 i 0) + wt 1 (σ.1 i 0) = 0
  · have hzero : ∀ k, k < 8 → σ.1 i 0 k = 0 := fun k hk => by
      have h1 := wt_cell (f := σ.1 i 0) hk
      have h2 : k % 2 = 0 ∨ k % 2 = 1 := by omega
      have h3 : tn (σ.1 i 0 k) = 0 := by rcases h2 with e | e <;> rw [e] at h1 <;> omega
      rw [(tn_of (hn.1 k hk)).1, h3]
      rfl
    rw [h0, if_pos (show nI 0 = 0 from rfl), if_neg (by decide)]
    refine pl_end hF hL hM hD hn hb (R := fun k j => σ.1 i (40 + (F + k) % 20) j) ⟨Nat.zero_le _, Nat.zero_le _, ?_, ?_, fun k _ hk j hj => by rw [p0 _ (by omega)], fun k hk hk2 j hj => ?_, lo, fun j hj => by rw [o18 0 (by decide) j hj, z10 j hj], o18 1 (by decide), e8, q0, fun j hj => by rw [p0 0 (by decide)]; exact hzero j hj⟩ (p0 1 (by decide)) rfl rfl
    · rw [p0 8 (by decide), eF]
      congr 1
      omega
    · rw [p0 8 (by decide), eL]
      rfl
    · rw [p0 _ (by omega)]
      exact hZe k (by omega) hk j hj
  · have hne : ¬ nI (wt 0 (σ.1 i 0) + wt 1 (σ.1 i 0)) = 0 := nI_ne0 (by omega) (by omega)
    have hpo : (0 : Int32) < nI (wt 0 (σ.1 i 0) + wt 1 (σ.1 i 0)) := nI_lt (a := 0) (by omega) (by omega)
    rw [if_neg hne, if_pos hpo]
    by_cases h20 : L < 20
    · rw [if_pos h20, if_neg (show ¬ L = 20 by omega)]
      have hx : (F + L) % 20 < 20 := Nat.mod_lt _ (by decide)
      have ec : cHeap (cPile0 σ i) i F L = mvR (sI (cPile0 σ i) i 8 6 (nI (L + 1))) i 0 8 i (40 + (F + L) % 20) := by unfold cHeap; rw [if_pos h20]
      have em : mPut τ i L = sI (itF (plB i L) 8 τ) 11 16 i (nI (L + 1)) := by unfold mPut; rw [if_neg (by omega)]
      have ef : itF (plB i L) 8 τ = sW τ 17 ((20 * i + L) * 8) 8 (fun c => τ.1 11 2 (8 * i + c) + nI 0) := itF_sW (f := plB i L) 17 ((20 * i + L) * 8) (fun c τ => τ.1 11 2 (8 * i + c) + nI 0) (fun _ _ => rfl) τ 8 (fun c hc => by
        show (sW _ _ _ _ _).1 11 2 _ + nI 0 = _
        rw [sW_out _ _ _ _ _ (by omega)])
      rw [ec, em, ef]
      have es : ∀ a, ¬ a = 8 → (sI (cPile0 σ i) i 8 6 (nI (L + 1))).1 i a = (cPile0 σ i).1 i a := fun a ha => by
        funext j
        rw [sI_I, if_neg (by omega)]
      have qs : mQ i 40 20 (fun s => wt s (σ.1 i 0) + nsum (fun x => wt s (σ.1 i (40 + x))) 20) (sI (cPile0 σ i) i 8 6 (nI (L + 1))) := by
        obtain ⟨y1, y2, y3, y4⟩ := q0
        refine ⟨by rw [es 0 (by decide)]; exact y1, by rw [es 10 (by decide)]; exact y2, fun x hx => by rw [es (40 + x) (by omega)]; exact y3 x hx, fun s hs => ?_⟩
        rw [es 0 (by decide), es 10 (by decide), nsum_congr (f := fun x => wt s ((sI (cPile0 σ i) i 8 6 (nI (L + 1))).1 i (40 + x))) (g := fun x => wt s ((cPile0 σ i).1 i (40 + x))) (fun x hx => by rw [es (40 + x) (by omega)])]
        exact y4 s hs
      obtain ⟨m1, -, -, m5, m4⟩ := mv_wt (ρ := sI (cPile0 σ i) i 8 6 (nI (L + 1))) (i := i) (a := 0) (a' := 40 + (F + L) % 20) qs.1 (qs.2.2.1 _ hx) (by omega) (fun s hs => by
        have h1 := qs.2.2.2 s hs
        have h2 := hW s hs
        dsimp only at h1
        have h3 := nsum_le (f := fun x => wt s ((sI (cPile0 σ i) i 8 6 (nI (L + 1))).1 i (40 + x))) hx
        omega)
      have mq := mQ_in (i := i) (B := 40) (N := 20) (by decide) hW qs hx
      have e40 : ∀ k, k < 20 → ¬ k = L → (mvR (sI (cPile0 σ i) i 8 6 (nI (L + 1))) i 0 8 i (40 + (F + L) % 20)).1 i (40 + (F + k) % 20) = σ.1 i (40 + (F + k) % 20) := fun k hk hne => by
        rw [m4 _ (by omega) (by omega), es _ (by omega), p0 _ (by omega)]
      have e40L : ∀ j, j < 8 → (mvR (sI (cPile0 σ i) i 8 6 (nI (L + 1))) i 0 8 i (40 + (F + L) % 20)).1 i (40 + (F + L) % 20) j = σ.1 i 0 j := fun j hj => by
        rw [m5 j hj, es _ (by omega), es 0 (by decide), p0 _ (by omega), p0 0 (by decide), hZe L (Nat.le_refl _) h20 j hj, Int32.zero_add]
      have e8' : ∀ j, (mvR (sI (cPile0 σ i) i 8 6 (nI (L + 1))) i 0 8 i (40 + (F + L) % 20)).1 i 8 j = (sI (cPile0 σ i) i 8 6 (nI (L + 1))).1 i 8 j := fun j => by rw [m4 8 (by omega) (by omega)]
      refine pl_end hF (L := L + 1) (by omega) hM hD hn hb (R := fun k j => if k = L then σ.1 i 0 j else σ.1 i (40 + (F + k) % 20) j) ⟨Nat.zero_le _, Nat.zero_le _, ?_, ?_, fun k _ hk j hj => ?_, fun k hk hk2 j hj => ?_, fun k hk j hj => ?_, fun j hj => ?_, fun j hj => ?_, ?_, mq, m1⟩ ?_ ?_ ?_
      · rw [e8', sI_I, if_neg (by omega), p0 8 (by decide), eF]
        congr 1
        omega
      · rw [e8', sI_I, if_pos ⟨rfl, rfl, rfl⟩]
        rfl
      · dsimp only
        by_cases e : k = L
        · rw [if_pos e, e]
          exact e40L j hj
        · rw [if_neg e, e40 k (by omega) e]
      · rw [e40 k hk (by omega)]
        exact hZe k (by omega) hk j hj
      · dsimp only
        rw [sI_I, if_neg (by omega)]
        by_cases e : k = L
        · rw [if_pos e, e, sW_in _ _ _ _ _ hj, ← rM2 τ i j hj, hH j hj]
          exact Int32.add_zero _
        · rw [if_neg e, sW_out _ _ _ _ _ (by omega)]
          exact lo k (by omega) j hj
      · rw [sI_I, if_neg (by omega), sW_out _ _ _ _ _ (by omega), o18 0 (by decide) j hj, m4 10 (by omega) (by omega), es 10 (by decide), z10 j hj]
      · rw [sI_I, if_neg (by omega), sW_out _ _ _ _ _ (by omega), o18 1 (by decide) j hj]
      · rw [sI_I, if_neg (by omega), sW_out _ _ _ _ _ (by omega)]
        exact e8
      · rw [m4 1 (by omega) (by omega), es 1 (by decide), p0 1 (by decide)]
      · rw [sI_I, if_neg (by omega), sW_out _ _ _ _ _ (by omega)]
      · rw [sI_I, if_neg (by omega), sW_out _ _ _ _ _ (by omega)]
    · obtain rfl : L = 20 := by omega
      rw [if_neg h20, if_pos rfl]
      have hx : (F + 19) % 20 < 20 := Nat.mod_lt _ (by decide)
      have ec : cHeap (cPile0 σ i) i F 20 = mvR (cPile0 σ i) i 0 8 i (40 + (F + 19) % 20) := by unfold cHeap; rw [if_neg (by decide)]
      have em : mPut τ i 20 = sI (itF (plA i 19) 8 τ) 11 16 i (nI 20) := by unfold mPut; rw [if_pos rfl]
      have ef : itF (plA i 19) 8 τ = sW τ 17 ((20 * i + 19) * 8) 8 (fun c => τ.1 11 2 (8 * i + c) + τ.1 11 17 ((20 * i + 19) * 8 + c)) := itF_sW (f := plA i 19) 17 ((20 * i + 19) * 8) (fun c τ => τ.1 11 2 (8 * i + c) + τ.1 11 17 ((20 * i + 19) * 8 + c)) (fun _ _ => rfl) τ 8 (fun c hc => by
        show (sW _ _ _ _ _).1 11 2 _ + (sW _ _ _ _ _).1 11 17 _ = _
        rw [sW_out _ _ _ _ _ (by omega), sW_out _ _ _ _ _ (by omega)])
      rw [ec, em, ef]
      obtain ⟨m1, -, -, m5, m4⟩ := mv_wt (ρ := cPile0 σ i) (i := i) (a := 0) (a' := 40 + (F + 19) % 20) q0.1 (q0.2.2.1 _ hx) (by omega) (fun s hs => by
        have h1 := q0.2.2.2 s hs
        have h2 := hW s hs
        dsimp only at h1
        have h3 := nsum_le (f := fun x => wt s ((cPile0 σ i).1 i (40 + x))) hx
        omega)
      have mq := mQ_in (i := i) (B := 40) (N := 20) (by decide) hW q0 hx
      refine pl_end hF (L := 20) (by omega) hM hD hn hb (R := fun k j => if k = 19 then σ.1 i (40 + (F + 19) % 20) j + σ.1 i 0 j else σ.1 i (40 + (F + k) % 20) j) ⟨Nat.zero_le _, Nat.zero_le _, ?_, ?_, fun k _ hk j hj => ?_, fun k hk hk2 j hj => absurd hk2 (by omega), fun k hk j hj => ?_, fun j hj => ?_, fun j hj => ?_, ?_, mq, m1⟩ ?_ ?_ ?_
      · rw [m4 8 (by omega) (by omega), p0 8 (by decide), eF]
        congr 1
        omega
      · rw [m4 8 (by omega) (by omega), p0 8 (by decide), eL]
      · dsimp only
        by_cases e : k = 19
        · rw [if_pos e, e, m5 j hj, p0 _ (by omega), p0 0 (by decide)]
        · rw [if_neg e, m4 _ (by omega) (by omega), p0 _ (by omega)]
      · dsimp only
        rw [sI_I, if_neg (by omega)]
        by_cases e : k = 19
        · rw [if_pos e, e, sW_in _ _ _ _ _ hj, ← rM2 τ i j hj, hH j hj, lo 19 (by decide) j hj, Int32.add_comm]
        · rw [if_neg e, sW_out _ _ _ _ _ (by omega)]
          exact lo k (by omega) j hj
      · rw [sI_I, if_neg (by omega), sW_out _ _ _ _ _ (by omega), o18 0 (by decide) j hj, m4 10 (by omega) (by omega), z10 j hj]
      · rw [sI_I, if_neg (by omega), sW_out _ _ _ _ _ (by omega), o18 1 (by decide) j hj]
      · rw [sI_I, if_neg (by omega), sW_out _ _ _ _ _ (by omega)]
        exact e8
      · rw [m4 1 (by omega) (by omega), p0 1 (by decide)]
      · rw [sI_I, if_neg (by omega), sW_out _ _ _ _ _ (by omega)]
      · rw [sI_I, if_neg (by omega), sW_out _ _ _ _ _ (by omega)]
