/-! ===== feeds give ===== -/
theorem rM_mk (σ : Sg) (x : (Nat → Nat → Int64) × (Nat → Nat) × Nat) (v : Nat) : rM (σ.1, x) v = rM σ v := rfl
theorem give_0 {σ τ : Sg} {i : Nat} (hi : gIn 0 (σ.1 i) (rM τ i)) : gOut 0 (σ.1 i) ((cFeed σ i).1 i) (rM (if τ.1 11 12 i = 0 then τ else itF (fdStep i) 8 τ) i) := by
  obtain ⟨hS, hN, hD, hH, hz, hn, hb, h0⟩ := hi
  have eon : τ.1 11 12 i = σ.1 i 8 0 := by rw [← rM1 τ i 12 rfl]; exact (hD.1 rfl).1
  rw [eon]
  have fr := frx_feed σ i
  have c0 : (cFeed σ i).1 i 0 = σ.1 i 0 := by funext j; exact fr.1 i 0 j (by omega)
  have c1 : (cFeed σ i).1 i 1 = σ.1 i 1 := by funext j; exact fr.1 i 1 j (by omega)
  have c8 : (cFeed σ i).1 i 8 0 = σ.1 i 8 0 := fr.1 i 8 0 (by omega)
  have hz0 : ¬ (0 = 7) → ∀ k, k < 8 → (cFeed σ i).1 i 0 k = 0 := fun _ k hk => by rw [c0]; exact h0 rfl k hk
  have hnn : uNn 0 ((cFeed σ i).1 i) := ⟨by rw [c0]; exact hn.1, by rw [c1]; exact hn.2.1, fun z => absurd z (by decide), fun z => absurd z (by decide)⟩
  have ms : ∀ s, uMs 0 ((cFeed σ i).1 i) s = uMs 0 (σ.1 i) s := fun s => by
    show wt s ((cFeed σ i).1 i 0) + wt s ((cFeed σ i).1 i 1) + 0 = _
    rw [c0, c1]
    rfl
  by_cases h : σ.1 i 8 0 = 0
  · rw [if_pos h]
    have c10 : ∀ k, k < 8 → (cFeed σ i).1 i 10 k = 0 := by
      intro k hk
      unfold cFeed
      rw [if_pos h, sR_I, if_pos ⟨rfl, rfl⟩]
      exact zerR_0 (by decide) _ k hk
    refine ⟨hz0, fun p hp k hk => ?_, fun p hp => ?_, hnn, uD_keep hD rfl rfl rfl c8 (fun z => absurd z (by decide)) (fun z => absurd z (by decide)) (fun z => absurd z (by decide)), fun s hs => ?_⟩
    · rw [hz _ (by omega)]
      by_cases hp0 : p = 0
      · subst hp0
        rw [if_pos (by decide), c10 k hk]
      · rw [if_neg (by show ¬ p < 1; omega)]
    · obtain rfl : p = 0 := by have : p < 1 := hp; omega
      exact nnR_zero c10
    · rw [ms]
      show _ + (0 + wt s ((cFeed σ i).1 i 10)) ≤ _
      rw [wt_zero hs c10]
      omega
  · rw [if_neg h, fd_it]
    have c10 : ∀ k, k < 8 → (cFeed σ i).1 i 10 k = σ.1 i 3 k := by
      intro k hk
      unfold cFeed
      rw [if_neg h]
      have e : (itF (cFdS σ i) 2 (cFd1 σ i)).1 i 10 = (cFd1 σ i).1 i 10 := itF_row (f := cFdS σ i) (fun τ => τ.1 i 10) (fun c τ => by funext j; unfold cFdS; rw [sI_I, if_neg (by omega)]) _ 2
      rw [e]
      unfold cFd1
      rw [sR_I, if_pos ⟨rfl, rfl⟩, if_pos hk]
    have n3 : ∀ k, k < 8 → ¬ σ.1 i 3 k < 0 ∧ tn (σ.1 i 3 k) ≤ 1000 := by
      intro k hk
      obtain ⟨x, -, hx, e⟩ := inR_of (by decide) (by decide) (hN.1 rfl k hk)
      rw [e, tn_nI (by omega)]
      exact ⟨nI_pos (by omega), hx⟩
    have n10 : nnR ((cFeed σ i).1 i 10) := fun k hk => by rw [c10 k hk]; exact (n3 k hk).1
    have er : ∀ a, ¬ a = 18 → rM ((sW τ 18 ((2 * i + 0) * 8) 8 (fun c => τ.1 11 3 (8 * i + c))).1, (fun a j => if a = 19 then fdA τ i 8 j else τ.2.1 a j), τ.2.2) i a = rM τ i a := by
      intro a ha
      rw [rM_mk, rM_sW_ne ha]
    refine ⟨hz0, fun p hp k hk => ?_, fun p hp => ?_, hnn, uD_keep hD (by rw [er 12 (by decide)]) (by rw [er 13 (by decide)]) (by rw [er 16 (by decide)]) c8 (fun z => absurd z (by decide)) (fun z => absurd z (by decide)) (fun z => absurd z (by decide)), fun s hs => ?_⟩
    · rw [rM_mk, rM18 _ i p k hp hk]
      by_cases hp0 : p = 0
      · subst hp0
        rw [if_pos (by decide), c10 k hk, sW_in _ _ _ _ _ hk]
        have := hS.2.1 rfl k hk
        rw [rM_at τ i 3 k hk] at this
        exact this
      · rw [if_neg (by show ¬ p < 1; omega), sW_out _ _ _ _ _ (by omega), ← rM18 τ i p k hp hk]
        exact hz _ (by omega)
    · obtain rfl : p = 0 := by have : p < 1 := hp; omega
      exact n10
    · rw [ms]
      show _ + (0 + wt s ((cFeed σ i).1 i 10)) ≤ _
      have : wt s ((cFeed σ i).1 i 10) ≤ 1000 * 4 := nsum_bound (fun z hz => by rw [c10 (2 * z + s) (by omega)]; exact (n3 (2 * z + s) (by omega)).2)
      omega
/-- what a feed has fed, and what all have -/
theorem fed_0 {σ τ : Sg} {i : Nat} (hi : gIn 0 (σ.1 i) (rM τ i)) {m : Nat} (hm : m ≤ 3000) {s : Nat} (hs : s < 2) (hf : ¬ σ.1 i 6 s < 0) (hf2 : tn (σ.1 i 6 s) ≤ 4000 * m) : ¬ (cFeed σ i).1 i 6 s < 0 ∧ tn ((cFeed σ i).1 i 6 s) ≤ 4000 * (m + 1) ∧ ∃ y : Int64, ((cFeed σ i).1 i 6 s).toInt64 = (σ.1 i 6 s).toInt64 + y ∧ (if τ.1 11 12 i = 0 then τ else itF (fdStep i) 8 τ).2.1 19 s = τ.2.1 19 s + y := by
  obtain ⟨hS, hN, hD, hH, hz, hn, hb, h0⟩ := hi
  have eon : τ.1 11 12 i = σ.1 i 8 0 := by rw [← rM1 τ i 12 rfl]; exact (hD.1 rfl).1
  rw [eon]
  by_cases h : σ.1 i 8 0 = 0
  · rw [if_pos h]
    have e6 : (cFeed σ i).1 i 6 s = σ.1 i 6 s := by
      unfold cFeed
      rw [if_pos h, sR_I, if_neg (by omega)]
    rw [e6]
    exact ⟨hf, by omega, 0, by rw [Int64.add_zero], by rw [Int64.add_zero]⟩
  · rw [if_neg h, fd_it]
    have n3 : ∀ k, k < 8 → ∃ x, x ≤ 1000 ∧ σ.1 i 3 k = nI x ∧ τ.1 11 3 (8 * i + k) = nI x := by
      intro k hk
      obtain ⟨x, -, hx, e⟩ := inR_of (by decide) (by decide) (hN.1 rfl k hk)
      have := hS.2.1 rfl k hk
      rw [rM_at τ i 3 k hk] at this
      exact ⟨x, hx, e, by rw [← e]; exact this⟩
    have e6 : (cFeed σ i).1 i 6 s = σ.1 i 6 s + tSt (σ.1 i 3) s := by
      unfold cFeed
      rw [if_neg h]
      show (cFdS σ i 1 (cFdS σ i 0 (cFd1 σ i))).1 i 6 s = _
      have ec : ∀ s, (cFd1 σ i).1 i 6 s = σ.1 i 6 s := fun s => by unfold cFd1; rw [sR_I, if_neg (by omega)]
      unfold cFdS
      match s, hs with
      | 0, _ =>
        rw [sI_I, if_neg (by omega), sI_I, if_pos ⟨rfl, rfl, rfl⟩, ec]
      | 1, _ =>
        rw [sI_I, if_pos ⟨rfl, rfl, rfl⟩, sI_I, if_neg (by omega), ec]
    have eA : fdA τ i 8 s = τ.2.1 19 s + (σ.1 i 3 s).toInt64 + (σ.1 i 3 (2 + s)).toInt64 + (σ.1 i 3 (4 + s)).toInt64 + (σ.1 i 3 (6 + s)).toInt64 := by
      have g : ∀ k, k < 8 → τ.1 11 3 (8 * i + k) = σ.1 i 3 k := fun k hk => by
        obtain ⟨x, -, e1, e2⟩ := n3 k hk
        rw [e1, e2]
      match s, hs with
      | 0, _ =>
        show τ.2.1 19 0 + (τ.1 11 3 (8 * i + 0)).toInt64 + (τ.1 11 3 (8 * i + 2)).toInt64 + (τ.1 11 3 (8 * i + 4)).toInt64 + (τ.1 11 3 (8 * i + 6)).toInt64 = _
        rw [g 0 (by decide), g 2 (by decide), g 4 (by decide), g 6 (by decide)]
      | 1, _ =>
        show τ.2.1 19 1 + (τ.1 11 3 (8 * i + 1)).toInt64 + (τ.1 11 3 (8 * i + 3)).toInt64 + (τ.1 11 3 (8 * i + 5)).toInt64 + (τ.1 11 3 (8 * i + 7)).toInt64 = _
        rw [g 1 (by decide), g 3 (by decide), g 5 (by decide), g 7 (by decide)]
    obtain ⟨x0, b0, e0, -⟩ := n3 s (by omega)
    obtain ⟨x1, b1, e1, -⟩ := n3 (2 + s) (by omega)
    obtain ⟨x2, b2, e2, -⟩ := n3 (4 + s) (by omega)
    obtain ⟨x3, b3, e3, -⟩ := n3 (6 + s) (by omega)
    have eT : tSt (σ.1 i 3) s = nI (x0 + x1 + x2 + x3) := by
      show 0 + σ.1 i 3 (2 * 0 + s) + σ.1 i 3 (2 * 1 + s) + σ.1 i 3 (2 * 2 + s) + σ.1 i 3 (2 * 3 + s) = _
      rw [show 2 * 0 + s = s by omega, show 2 * 1 + s = 2 + s by omega, show 2 * 2 + s = 4 + s by omega, show 2 * 3 + s = 6 + s by omega, e0, e1, e2, e3, Int32.zero_add, nI_add, nI_add, nI_add]
    have tx : tn (nI (x0 + x1 + x2 + x3)) = x0 + x1 + x2 + x3 := tn_nI (by omega)
    have hx : ¬ nI (x0 + x1 + x2 + x3) < 0 := nI_pos (by omega)
    obtain ⟨p1, p2⟩ := tn_add hf hx (by rw [tx]; omega)
    rw [e6, eT]
    refine ⟨p1, by rw [p2, tx]; omega, lN (x0 + x1 + x2 + x3), by rw [toL_add hf hx (by rw [tx]; omega), nI_l (by omega)], ?_⟩
    show (if 19 = 19 then fdA τ i 8 s else τ.2.1 19 s) = _
    rw [if_pos rfl, eA, e0, e1, e2, e3, nI_l (by omega), nI_l (by omega), nI_l (by omega), nI_l (by omega), ← lN_add, ← lN_add, ← lN_add, Int64.add_assoc, Int64.add_assoc, Int64.add_assoc]
    rw [Int64.add_assoc (lN x0) (lN x1), Int64.add_assoc (lN x0) (lN x1 + lN x2), Int64.add_assoc (lN x1) (lN x2)]
/-! ===== parters 3 ===== -/
def ptT3 (i : Nat) (w : Nat → Nat) (c : Nat) (σ τ : Sg) : Prop := τ.1 11 2 (8 * i + c) = σ.1 i 0 c ∧ τ.1 11 6 (8 * i + c) = σ.1 i 7 c ∧ inR 0 9 (σ.1 i 7 c) ∧ σ.1 i 0 c = nI (w c)
def ptD3 (i : Nat) (w : Nat → Nat) (c : Nat) (σ τ : Sg) : Prop := σ.1 i 0 c = 0 ∧ τ.1 11 18 ((2 * i + 0) * 8 + c) = σ.1 i 10 c ∧ τ.1 11 18 ((2 * i + 1) * 8 + c) = σ.1 i 11 c ∧ τ.1 11 6 (8 * i + c) = σ.1 i 7 c ∧ inR 0 9 (σ.1 i 7 c) ∧ ∃ a, a ≤ w c ∧ σ.1 i 10 c = nI a ∧ σ.1 i 11 c = nI (w c - a)
def ptI3 (i : Nat) (h : Nat → Nat) (_k : Nat) (σ τ : Sg) : Prop := τ.2.2.1 i = 3 ∧ (∀ k, k < 4 → σ.1 i 3 k = nI (h k) ∧ τ.1 11 5 (4 * i + k) = nI (h k))
theorem pt_step3 {i : Nat} {w h : Nat → Nat} (hw : ∀ c, c < 8 → w c ≤ 130000000) (hh : ∀ k, k < 4 → h k ≤ 10) {k : Nat} {σ τ : Sg} (hk : k < 8) (hI : ptI3 i h k σ τ) (hT : ptT3 i w k σ τ) : ptD3 i w k (cPt3 i k σ) (mPart τ i k) := by
  obtain ⟨q, hsh⟩ := hI
  obtain ⟨t1, t2, t3, t4⟩ := hT
  obtain ⟨s1, s2⟩ := hsh (k / 2) (by omega)
  have hx := hh (k / 2) (by omega)
  have hwk := hw k hk
  generalize h (k / 2) = x at s1 s2 hx
  obtain ⟨N, hNe⟩ : ∃ N, w k = N := ⟨_, rfl⟩
  rw [hNe] at t4 hwk
  obtain ⟨r, -, hr, er⟩ := inR_of (by decide) (by decide) t3
  have b1 : N * x ≤ N * 10 := Nat.mul_le_mul_left N hx
  have ec : σ.1 i 0 k * σ.1 i 3 (k / 2) + σ.1 i 7 k = nI (N * x + r) := by rw [t4, s1, er, pk_mul, nI_add]
  have ep : pK τ i k = lN (N * x + r) := by
    unfold pK
    rw [q, if_pos rfl, t1, t4, s2, t2, er, nI_l (by omega), nI_l (by omega), nI_l (by omega), lN_mul, lN_add]
  have e10 : (10 : Int64) = lN 10 := rfl
  have le : (N * x + r) / 10 ≤ N := by omega
  have d1 : nI (N * x + r) / nI 10 = nI ((N * x + r) / 10) := pk_div (by omega) (by decide) (by decide)
  have d2 : (pK τ i k / 10).toInt32 = nI ((N * x + r) / 10) := by rw [ep, e10, pk_lDiv (by omega) (by decide) (by decide), lN_i]
  have d3 : (pK τ i k - pK τ i k / 10 * 10).toInt32 = nI ((N * x + r) % 10) := by rw [ep, e10, pk_lRem (by omega) (by decide) (by decide), lN_i]
  have d4 : nI (N * x + r) - nI (N * x + r) / nI 10 * nI 10 = nI ((N * x + r) % 10) := pk_rem (by omega) (by decide) (by decide)
  have c10 : (cPt3 i k σ).1 i 10 k = nI ((N * x + r) / 10) := by
    unfold cPt3
    rw [sI_I, if_neg (by omega), sI_I, if_neg (by omega), sI_I, if_neg (by omega), sI_I, if_pos ⟨rfl, rfl, rfl⟩, ec, d1]
  have c11 : (cPt3 i k σ).1 i 11 k = nI (N - (N * x + r) / 10) := by
    unfold cPt3
    rw [sI_I, if_neg (by omega), sI_I, if_neg (by omega), sI_I, if_pos ⟨rfl, rfl, rfl⟩, ec, d1, t4, pk_sub le]
  have c7 : (cPt3 i k σ).1 i 7 k = nI ((N * x + r) % 10) := by
    unfold cPt3
    rw [sI_I, if_neg (by omega), sI_I, if_pos ⟨rfl, rfl, rfl⟩, ec, d4]
  unfold ptD3
  rw [hNe]
  refine ⟨?_, ?_, ?_, ?_, ?_, (N * x + r) / 10, le, c10, c11⟩
  · unfold cPt3
    rw [sI_I, if_pos ⟨rfl, rfl, rfl⟩]
    rfl
  · rw [c10]
    unfold mPart
    rw [sI_I, if_neg (by omega), sI_I, if_pos ⟨rfl, rfl, rfl⟩, d2]
  · rw [c11]
    unfold mPart
    rw [sI_I, if_pos ⟨rfl, rfl, rfl⟩, d2, t1, t4, pk_sub le]
  · rw [c7]
    unfold mPart
    rw [sI_I, if_neg (by omega), sI_I, if_neg (by omega), sI_I, if_pos ⟨rfl, rfl, rfl⟩, d3]
  · rw [c7]
    exact inR_nI (by omega) (by omega) (by decide)
theorem mp_out (τ : Sg) (i k a j : Nat) (h1 : ¬ (a = 6 ∧ j = 8 * i + k)) (h2 : ¬ (a = 18 ∧ j = (2 * i + 0) * 8 + k)) (h3 : ¬ (a = 18 ∧ j = (2 * i + 1) * 8 + k)) : (mPart τ i k).1 11 a j = τ.1 11 a j := by
  unfold mPart
  rw [sI_I, if_neg (fun z => h3 z.2), sI_I, if_neg (fun z => h2 z.2), sI_I, if_neg (fun z => h1 z.2)]
theorem give_3 {σ τ : Sg} {i : Nat} (hq : τ.2.2.1 i = 3) (hi : gIn 3 (σ.1 i) (rM τ i)) : gOut 3 (σ.1 i) ((cPart3 σ i).1 i) (rM (itF (fun c τ => mPart τ i c) 8 τ) i) := by
  obtain ⟨hS, hN, hD, hH, hz, hn, hb, -⟩ := hi
  have hsh : ∀ k, k < 4 → ∃ x, x ≤ 10 ∧ σ.1 i 3 k = nI x ∧ τ.1 11 5 (4 * i + k) = nI x := by
    intro k hk
    obtain ⟨x, -, hx, e⟩ := inR_of (by decide) (by decide) (hN.2.2.1 (by decide) k hk)
    have := hS.2.2.2.1 (by decide) k hk
    rw [rM_at τ i 5 k (show k < 4 by omega)] at this
    exact ⟨x, hx, e, by rw [← e]; exact this⟩
  have hw : ∀ c, c < 8 → tn (σ.1 i 0 c) ≤ 130000000 := by
    intro c hc
    have h1 := wt_cell (f := σ.1 i 0) hc
    have h2 := hb (c % 2) (by omega)
    have : wt (c % 2) (σ.1 i 0) ≤ uMs 3 (σ.1 i) (c % 2) := by
      show _ ≤ wt _ (σ.1 i 0) + wt _ (σ.1 i 1) + 0
      omega
    omega
  have r6 : ∀ k, k < 8 → rM τ i 6 k = τ.1 11 6 (8 * i + k) := fun k hk => rM_at τ i 6 k hk
  have main := it2 (cPt3 i) (fun c τ => mPart τ i c) 8 (ptD3 i (fun c => tn (σ.1 i 0 c))) (ptT3 i (fun c => tn (σ.1 i 0 c))) (ptI3 i (fun k => tn (σ.1 i 3 k)))
    (fun k ρ μ hk hI hT => by
      refine ⟨hI.1, fun j hj => ?_⟩
      rw [(frx_pt3 ρ i k).1 i 3 j (by omega), mp_out μ i k 5 _ (by omega) (by omega) (by omega)]
      exact hI.2 j hj)
    (fun k ρ μ hk hI hT => pt_step3 hw (fun k hk => by
      obtain ⟨x, hx, e, -⟩ := hsh k hk
      show tn (σ.1 i 3 k) ≤ 10
      rw [e, tn_nI (by omega)]
      exact hx) hk hI hT)
    (fun k c ρ μ hk hc hne hI hT hD => by
      have fr := frx_pt3 ρ i k
      unfold ptD3
      rw [fr.1 i 0 c (by omega), fr.1 i 10 c (by omega), fr.1 i 11 c (by omega), fr.1 i 7 c (by omega), mp_out μ i k 18 _ (by omega) (by omega) (by omega), mp_out μ i k 18 _ (by omega) (by omega) (by omega), mp_out μ i k 6 _ (by omega) (by omega) (by omega)]
      exact hD)
    (fun k c ρ μ hk hc hne hI hT0 hT => by
      have fr := frx_pt3 ρ i k
      unfold ptT3
      rw [fr.1 i 0 c (by omega), fr.1 i 7 c (by omega), mp_out μ i k 2 _ (by omega) (by omega) (by omega), mp_out μ i k 6 _ (by omega) (by omega) (by omega)]
      exact hT)
    (σ := σ) (τ := τ) ⟨hq, fun k hk => by
      obtain ⟨x, hx, e, e2⟩ := hsh k hk
      have t : tn (σ.1 i 3 k) = x := by rw [e, tn_nI (by omega)]
      show σ.1 i 3 k = nI (tn (σ.1 i 3 k)) ∧ τ.1 11 5 (4 * i + k) = nI (tn (σ.1 i 3 k))
      rw [t]
      exact ⟨e, e2⟩⟩
    (fun c hc => ⟨by rw [← rM2 τ i c hc]; exact hH c hc, by rw [← r6 c hc]; exact (hD.2.2.1 (by decide) c hc).1, (hD.2.2.1 (by decide) c hc).2, (tn_of (hn.1 c hc)).1⟩)
    8 (Nat.le_refl _)
  have hDn := main.2.1
  have frI : FrX (fun a _ => a = 0 ∨ a = 7 ∨ a = 10 ∨ a = 11) i σ (cPart3 σ i) := by
    unfold cPart3
    exact FrX.it FrX.rf (fun c ρ _ => (frx_pt3 ρ i c).mono (fun a j h => h.1))
  have frm : FrM (inW i) τ (itF (fun c τ => mPart τ i c) 8 τ) := FrM.it (fun c τ hc => fw_mPart τ i c hc)
  have keep : ∀ a, ¬ a = 6 → ¬ a = 18 → (itF (fun c τ => mPart τ i c) 8 τ).1 11 a = τ.1 11 a := fun a h6 h18 => itF_row (f := fun c τ => mPart τ i c) (fun τ => τ.1 11 a) (fun c τ => by funext j; exact mp_out τ i c a j (by omega) (by omega) (by omega)) τ 8
  have er : ∀ a, ¬ a = 6 → ¬ a = 18 → rM (itF (fun c τ => mPart τ i c) 8 τ) i a = rM τ i a := by
    intro a h6 h18
    funext k
    unfold rM
    rw [keep a h6 h18]
  unfold cPart3 at frI ⊢
  generalize itF (cPt3 i) 8 σ = σ' at hDn frI ⊢
  have hDn : ∀ c, c < 8 → ptD3 i (fun c => tn (σ.1 i 0 c)) c σ' (itF (fun c τ => mPart τ i c) 8 τ) := hDn
  generalize itF (fun c τ => mPart τ i c) 8 τ = τ' at hDn er ⊢
  have c0 : ∀ k, k < 8 → σ'.1 i 0 k = 0 := fun k hk => (hDn k hk).1
  have c1 : σ'.1 i 1 = σ.1 i 1 := by funext j; exact frI.1 i 1 j (by omega)
  have nn10 : nnR (σ'.1 i 10) ∧ nnR (σ'.1 i 11) := by
    refine ⟨fun c hc => ?_, fun c hc => ?_⟩
    · obtain ⟨-, -, -, -, -, a, ha, e1, e2⟩ := hDn c hc
      have := hw c hc
      have ha : a ≤ tn (σ.1 i 0 c) := ha
      rw [e1]
      exact nI_pos (by omega)
    · obtain ⟨-, -, -, -, -, a, ha, e1, e2⟩ := hDn c hc
      have := hw c hc
      have e2 : σ'.1 i 11 c = nI (tn (σ.1 i 0 c) - a) := e2
      rw [e2]
      exact nI_pos (by omega)
  refine ⟨fun _ => c0, fun p hp k hk => ?_, fun p hp => ?_, ⟨nnR_zero c0, by rw [c1]; exact hn.2.1, fun z => absurd z (by decide), fun z => absurd z (by decide)⟩, uD_keep hD (by rw [er 12 (by decide) (by decide)]) (by rw [er 13 (by decide) (by decide)]) (by rw [er 16 (by decide) (by decide)]) (frI.1 i 8 0 (by omega)) (fun _ k hk => ⟨by rw [rM_at τ' i 6 k hk]; exact (hDn k hk).2.2.2.1, (hDn k hk).2.2.2.2.1⟩) (fun z => absurd z (by decide)) (fun z => absurd z (by decide)), fun s hs => ?_⟩
  · rw [rM18 _ i p k hp hk, if_pos (show p < upt 3 from hp)]
    match p, hp with
    | 0, _ => exact (hDn k hk).2.1
    | 1, _ => exact (hDn k hk).2.2.1
  · have hp : p < 2 := hp
    match p, hp with
    | 0, _ => exact nn10.1
    | 1, _ => exact nn10.2
  · show wt s (σ'.1 i 0) + wt s (σ'.1 i 1) + 0 + (0 + wt s (σ'.1 i 10) + wt s (σ'.1 i 11)) ≤ wt s (σ.1 i 0) + wt s (σ.1 i 1) + 0 + 4000
    have : wt s (σ'.1 i 10) + wt s (σ'.1 i 11) = wt s (σ.1 i 0) := by
      unfold wt
      rw [← nsum_add]
      refine nsum_congr (fun z hz => ?_)
      obtain ⟨-, -, -, -, -, a, ha, e1, e2⟩ := hDn (2 * z + s) (by omega)
      have := hw (2 * z + s) (by omega)
      have ha : a ≤ tn (σ.1 i 0 (2 * z + s)) := ha
      have e2 : σ'.1 i 11 (2 * z + s) = nI (tn (σ.1 i 0 (2 * z + s)) - a) := e2
      rw [e1, e2, tn_nI (by omega), tn_nI (by omega)]
      omega
    rw [wt_zero hs c0, c1]
    omega
/-! ===== parters 4 ===== -/
def ptT4 (i : Nat) (w : Nat → Nat) (c : Nat) (σ τ : Sg) : Prop := τ.1 11 2 (8 * i + c) = σ.1 i 0 c ∧ τ.1 11 6 (8 * i + c) = σ.1 i 7 c ∧ inR 0 9 (σ.1 i 7 c) ∧ σ.1 i 0 c = nI (w c)
def ptD4 (i : Nat) (w : Nat → Nat) (c : Nat) (σ τ : Sg) : Prop := σ.1 i 0 c = 0 ∧ τ.1 11 18 ((2 * i + 0) * 8 + c) = σ.1 i 10 c ∧ τ.1 11 18 ((2 * i + 1) * 8 + c) = σ.1 i 11 c ∧ τ.1 11 6 (8 * i + c) = σ.1 i 7 c ∧ inR 0 9 (σ.1 i 7 c) ∧ ∃ a, a ≤ w c ∧ σ.1 i 10 c = nI a ∧ σ.1 i 11 c = nI (w c - a)
def ptI4 (i : Nat) (h : Nat → Nat) (_k : Nat) (σ τ : Sg) : Prop := τ.2.2.1 i = 4 ∧ (∀ k, k < 2 → σ.1 i 3 k = nI (h k) ∧ τ.1 11 5 (4 * i + k) = nI (h k))
theorem pt_step4 {i : Nat} {w h : Nat → Nat} (hw : ∀ c, c < 8 → w c ≤ 130000000) (hh : ∀ k, k < 2 → h k ≤ 10) {k : Nat} {σ τ : Sg} (hk : k < 8) (hI : ptI4 i h k σ τ) (hT : ptT4 i w k σ τ) : ptD4 i w k (cPt4 i k σ) (mPart τ i k) := by
  obtain ⟨q, hsh⟩ := hI
  obtain ⟨t1, t2, t3, t4⟩ := hT
  obtain ⟨s1, s2⟩ := hsh (k % 2) (by omega)
  have hx := hh (k % 2) (by omega)
  have hwk := hw k hk
  generalize h (k % 2) = x at s1 s2 hx
  obtain ⟨N, hNe⟩ : ∃ N, w k = N := ⟨_, rfl⟩
  rw [hNe] at t4 hwk
  obtain ⟨r, -, hr, er⟩ := inR_of (by decide) (by decide) t3
  have b1 : N * x ≤ N * 10 := Nat.mul_le_mul_left N hx
  have ec : σ.1 i 0 k * σ.1 i 3 (k % 2) + σ.1 i 7 k = nI (N * x + r) := by rw [t4, s1, er, pk_mul, nI_add]
  have ep : pK τ i k = lN (N * x + r) := by
    unfold pK
    rw [q, if_neg (by decide), t1, t4, s2, t2, er, nI_l (by omega), nI_l (by omega), nI_l (by omega), lN_mul, lN_add]
  have e10 : (10 : Int64) = lN 10 := rfl
  have le : (N * x + r) / 10 ≤ N := by omega
  have d1 : nI (N * x + r) / nI 10 = nI ((N * x + r) / 10) := pk_div (by omega) (by decide) (by decide)
  have d2 : (pK τ i k / 10).toInt32 = nI ((N * x + r) / 10) := by rw [ep, e10, pk_lDiv (by omega) (by decide) (by decide), lN_i]
  have d3 : (pK τ i k - pK τ i k / 10 * 10).toInt32 = nI ((N * x + r) % 10) := by rw [ep, e10, pk_lRem (by omega) (by decide) (by decide), lN_i]
  have d4 : nI (N * x + r) - nI (N * x + r) / nI 10 * nI 10 = nI ((N * x + r) % 10) := pk_rem (by omega) (by decide) (by decide)
  have c10 : (cPt4 i k σ).1 i 10 k = nI ((N * x + r) / 10) := by
    unfold cPt4
    rw [sI_I, if_neg (by omega), sI_I, if_neg (by omega), sI_I, if_neg (by omega), sI_I, if_pos ⟨rfl, rfl, rfl⟩, ec, d1]
  have c11 : (cPt4 i k σ).1 i 11 k = nI (N - (N * x + r) / 10) := by
    unfold cPt4
    rw [sI_I, if_neg (by omega), sI_I, if_neg (by omega), sI_I, if_pos ⟨rfl, rfl, rfl⟩, ec, d1, t4, pk_sub le]
  have c7 : (cPt4 i k σ).1 i 7 k = nI ((N * x + r) % 10) := by
    unfold cPt4
    rw [sI_I, if_neg (by omega), sI_I, if_pos ⟨rfl, rfl, rfl⟩, ec, d4]
  unfold ptD4
  rw [hNe]
  refine ⟨?_, ?_, ?_, ?_, ?_, (N * x + r) / 10, le, c10, c11⟩
  · unfold cPt4
    rw [sI_I, if_pos ⟨rfl, rfl, rfl⟩]
    rfl
  · rw [c10]
    unfold mPart
    rw [sI_I, if_neg (by omega), sI_I, if_pos ⟨rfl, rfl, rfl⟩, d2]
  · rw [c11]
    unfold mPart
    rw [sI_I, if_pos ⟨rfl, rfl, rfl⟩, d2, t1, t4, pk_sub le]
  · rw [c7]
    unfold mPart
    rw [sI_I, if_neg (by omega), sI_I, if_neg (by omega), sI_I, if_pos ⟨rfl, rfl, rfl⟩, d3]
  · rw [c7]
    exact inR_nI (by omega) (by omega) (by decide)
theorem give_4 {σ τ : Sg} {i : Nat} (hq : τ.2.2.1 i = 4) (hi : gIn 4 (σ.1 i) (rM τ i)) : gOut 4 (σ.1 i) ((cPart4 σ i).1 i) (rM (itF (fun c τ => mPart τ i c) 8 τ) i) := by
  obtain ⟨hS, hN, hD, hH, hz, hn, hb, -⟩ := hi
  have hsh : ∀ k, k < 2 → ∃ x, x ≤ 10 ∧ σ.1 i 3 k = nI x ∧ τ.1 11 5 (4 * i + k) = nI x := by
    intro k hk
    obtain ⟨x, -, hx, e⟩ := inR_of (by decide) (by decide) (hN.2.2.1 (by decide) k hk)
    have := hS.2.2.2.1 (by decide) k hk
    rw [rM_at τ i 5 k (show k < 4 by omega)] at this
    exact ⟨x, hx, e, by rw [← e]; exact this⟩
  have hw : ∀ c, c < 8 → tn (σ.1 i 0 c) ≤ 130000000 := by
    intro c hc
    have h1 := wt_cell (f := σ.1 i 0) hc
    have h2 := hb (c % 2) (by omega)
    have : wt (c % 2) (σ.1 i 0) ≤ uMs 4 (σ.1 i) (c % 2) := by
      show _ ≤ wt _ (σ.1 i 0) + wt _ (σ.1 i 1) + 0
      omega
    omega
  have r6 : ∀ k, k < 8 → rM τ i 6 k = τ.1 11 6 (8 * i + k) := fun k hk => rM_at τ i 6 k hk
  have main := it2 (cPt4 i) (fun c τ => mPart τ i c) 8 (ptD4 i (fun c => tn (σ.1 i 0 c))) (ptT4 i (fun c => tn (σ.1 i 0 c))) (ptI4 i (fun k => tn (σ.1 i 3 k)))
    (fun k ρ μ hk hI hT => by
      refine ⟨hI.1, fun j hj => ?_⟩
      rw [(frx_pt4 ρ i k).1 i 3 j (by omega), mp_out μ i k 5 _ (by omega) (by omega) (by omega)]
      exact hI.2 j hj)
    (fun k ρ μ hk hI hT => pt_step4 hw (fun k hk => by
      obtain ⟨x, hx, e, -⟩ := hsh k hk
      show tn (σ.1 i 3 k) ≤ 10
      rw [e, tn_nI (by omega)]
      exact hx) hk hI hT)
    (fun k c ρ μ hk hc hne hI hT hD => by
      have fr := frx_pt4 ρ i k
      unfold ptD4
      rw [fr.1 i 0 c (by omega), fr.1 i 10 c (by omega), fr.1 i 11 c (by omega), fr.1 i 7 c (by omega), mp_out μ i k 18 _ (by omega) (by omega) (by omega), mp_out μ i k 18 _ (by omega) (by omega) (by omega), mp_out μ i k 6 _ (by omega) (by omega) (by omega)]
      exact hD)
    (fun k c ρ μ hk hc hne hI hT0 hT => by
      have fr := frx_pt4 ρ i k
      unfold ptT4
      rw [fr.1 i 0 c (by omega), fr.1 i 7 c (by omega), mp_out μ i k 2 _ (by omega) (by omega) (by omega), mp_out μ i k 6 _ (by omega) (by omega) (by omega)]
      exact hT)
    (σ := σ) (τ := τ) ⟨hq, fun k hk => by
      obtain ⟨x, hx, e, e2⟩ := hsh k hk
      have t : tn (σ.1 i 3 k) = x := by rw [e, tn_nI (by omega)]
      show σ.1 i 3 k = nI (tn (σ.1 i 3 k)) ∧ τ.1 11 5 (4 * i + k) = nI (tn (σ.1 i 3 k))
      rw [t]
      exact ⟨e, e2⟩⟩
    (fun c hc => ⟨by rw [← rM2 τ i c hc]; exact hH c hc, by rw [← r6 c hc]; exact (hD.2.2.1 (by decide) c hc).1, (hD.2.2.1 (by decide) c hc).2, (tn_of (hn.1 c hc)).1⟩)
    8 (Nat.le_refl _)
  have hDn := main.2.1
  have frI : FrX (fun a _ => a = 0 ∨ a = 7 ∨ a = 10 ∨ a = 11) i σ (cPart4 σ i) := by
    unfold cPart4
    exact FrX.it FrX.rf (fun c ρ _ => (frx_pt4 ρ i c).mono (fun a j h => h.1))
  have frm : FrM (inW i) τ (itF (fun c τ => mPart τ i c) 8 τ) := FrM.it (fun c τ hc => fw_mPart τ i c hc)
  have keep : ∀ a, ¬ a = 6 → ¬ a = 18 → (itF (fun c τ => mPart τ i c) 8 τ).1 11 a = τ.1 11 a := fun a h6 h18 => itF_row (f := fun c τ => mPart τ i c) (fun τ => τ.1 11 a) (fun c τ => by funext j; exact mp_out τ i c a j (by omega) (by omega) (by omega)) τ 8
  have er : ∀ a, ¬ a = 6 → ¬ a = 18 → rM (itF (fun c τ => mPart τ i c) 8 τ) i a = rM τ i a := by
    intro a h6 h18
    funext k
    unfold rM
    rw [keep a h6 h18]
  unfold cPart4 at frI ⊢
  generalize itF (cPt4 i) 8 σ = σ' at hDn frI ⊢
  have hDn : ∀ c, c < 8 → ptD4 i (fun c => tn (σ.1 i 0 c)) c σ' (itF (fun c τ => mPart τ i c) 8 τ) := hDn
  generalize itF (fun c τ => mPart τ i c) 8 τ = τ' at hDn er ⊢
  have c0 : ∀ k, k < 8 → σ'.1 i 0 k = 0 := fun k hk => (hDn k hk).1
  have c1 : σ'.1 i 1 = σ.1 i 1 := by funext j; exact frI.1 i 1 j (by omega)
  have nn10 : nnR (σ'.1 i 10) ∧ nnR (σ'.1 i 11) := by
    refine ⟨fun c hc => ?_, fun c hc => ?_⟩
    · obtain ⟨-, -, -, -, -, a, ha, e1, e2⟩ := hDn c hc
      have := hw c hc
      have ha : a ≤ tn (σ.1 i 0 c) := ha
      rw [e1]
      exact nI_pos (by omega)
    · obtain ⟨-, -, -, -, -, a, ha, e1, e2⟩ := hDn c hc
      have := hw c hc
      have e2 : σ'.1 i 11 c = nI (tn (σ.1 i 0 c) - a) := e2
      rw [e2]
      exact nI_pos (by omega)
  refine ⟨fun _ => c0, fun p hp k hk => ?_, fun p hp => ?_, ⟨nnR_zero c0, by rw [c1]; exact hn.2.1, fun z => absurd z (by decide), fun z => absurd z (by decide)⟩, uD_keep hD (by rw [er 12 (by decide) (by decide)]) (by rw [er 13 (by decide) (by decide)]) (by rw [er 16 (by decide) (by decide)]) (frI.1 i 8 0 (by omega)) (fun _ k hk => ⟨by rw [rM_at τ' i 6 k hk]; exact (hDn k hk).2.2.2.1, (hDn k hk).2.2.2.2.1⟩) (fun z => absurd z (by decide)) (fun z => absurd z (by decide)), fun s hs => ?_⟩
  · rw [rM18 _ i p k hp hk, if_pos (show p < upt 4 from hp)]
    match p, hp with
    | 0, _ => exact (hDn k hk).2.1
    | 1, _ => exact (hDn k hk).2.2.1
  · have hp : p < 2 := hp
    match p, hp with
    | 0, _ => exact nn10.1
    | 1, _ => exact nn10.2
  · show wt s (σ'.1 i 0) + wt s (σ'.1 i 1) + 0 + (0 + wt s (σ'.1 i 10) + wt s (σ'.1 i 11)) ≤ wt s (σ.1 i 0) + wt s (σ.1 i 1) + 0 + 4000
    have : wt s (σ'.1 i 10) + wt s (σ'.1 i 11) = wt s (σ.1 i 0) := by
      unfold wt
      rw [← nsum_add]
      refine nsum_congr (fun z hz => ?_)
      obtain ⟨-, -, -, -, -, a, ha, e1, e2⟩ := hDn (2 * z + s) (by omega)
      have := hw (2 * z + s) (by omega)
      have ha : a ≤ tn (σ.1 i 0 (2 * z + s)) := ha
      have e2 : σ'.1 i 11 (2 * z + s) = nI (tn (σ.1 i 0 (2 * z + s)) - a) := e2
      rw [e1, e2, tn_nI (by omega), tn_nI (by omega)]
      omega
    rw [wt_zero hs c0, c1]
    omega
