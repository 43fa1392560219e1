/-! ===== mills give ===== -/
/-- adding along sizes, in any row -/
theorem acc_at (S a b z s : Nat) (v : Nat → Int32) (hs : s < 2) (τ : Sg) : ∀ k, z + k ≤ 3 → ∀ j, j < 8 → (itF (fun q τ => sI τ S a (b + (2 * (z + 1 + q) + s)) (τ.1 S a (b + (2 * (z + 1 + q) + s)) + v q)) k τ).1 S a (b + j) = τ.1 S a (b + j) + (if j % 2 = s ∧ z < j / 2 ∧ j / 2 ≤ z + k then v (j / 2 - (z + 1)) else 0)
  | 0, _, j, hj => by
    rw [if_neg (by omega), Int32.add_zero]
    rfl
  | k + 1, hk, j, hj => by
    have ih := acc_at S a b z s v hs τ k (by omega)
    show (sI (itF (fun q τ => sI τ S a (b + (2 * (z + 1 + q) + s)) (τ.1 S a (b + (2 * (z + 1 + q) + s)) + v q)) k τ) S a (b + (2 * (z + 1 + k) + s)) ((itF (fun q τ => sI τ S a (b + (2 * (z + 1 + q) + s)) (τ.1 S a (b + (2 * (z + 1 + q) + s)) + v q)) k τ).1 S a (b + (2 * (z + 1 + k) + s)) + v k)).1 S a (b + j) = _
    rw [sI_I]
    by_cases e : j = 2 * (z + 1 + k) + s
    · rw [if_pos ⟨rfl, rfl, by omega⟩, ih _ (by omega), if_neg (by omega), Int32.add_zero, if_pos (by omega), e, show (2 * (z + 1 + k) + s) / 2 - (z + 1) = k by omega]
    · rw [if_neg (by omega), ih j hj]
      by_cases h2 : j % 2 = s ∧ z < j / 2 ∧ j / 2 ≤ z + k
      · rw [if_pos h2, if_pos ⟨h2.1, h2.2.1, by omega⟩]
      · rw [if_neg h2, if_neg (by omega)]
theorem gGo_n {N h : Nat} (hN : N ≤ 130000000) (hh : h ≤ 10) : gGo (nI N) (nI h) = nI (N * h / 10) := by
  have := Nat.mul_le_mul_left N hh
  unfold gGo
  rw [pk_mul, pk_div (by omega) (by decide) (by decide)]
theorem mlGo_n {N h : Nat} (hN : N ≤ 130000000) (hh : h ≤ 10) : mlGo (nI N) (nI h) = nI (N * h / 10) := by
  have := Nat.mul_le_mul_left N hh
  unfold mlGo
  rw [nI_l (by omega), nI_l (by omega), lN_mul, show (10 : Int64) = lN 10 from rfl, pk_lDiv (by omega) (by decide) (by decide), lN_i]
theorem ten_le (N : Nat) (t : Nat → Nat) : ∀ k, 10 * nsum (fun q => N * t q / 10) k ≤ N * nsum t k
  | 0 => Nat.le_refl _
  | k + 1 => by
    have ih := ten_le N t k
    show 10 * (nsum (fun q => N * t q / 10) k + N * t k / 10) ≤ N * (nsum t k + t k)
    rw [Nat.mul_add N]
    omega
theorem cGrL_n {z N : Nat} {T : Nat → Int32} {t : Nat → Nat} (hN : N ≤ 130000000) : ∀ k, (∀ q, q < k → T (z + 1 + q) = nI (t q) ∧ t q ≤ 10) → nsum t k ≤ 10 → cGrL z (nI N) T k = nI (N - nsum (fun q => N * t q / 10) k) ∧ nsum (fun q => N * t q / 10) k ≤ N
  | 0, _, _ => ⟨rfl, Nat.zero_le _⟩
  | k + 1, hT, hs => by
    have hs1 : nsum t k ≤ 10 := Nat.le_trans (Nat.le_add_right _ _) hs
    obtain ⟨ih, -⟩ := cGrL_n hN k (fun q hq => hT q (by omega)) hs1
    have t10 := ten_le N t (k + 1)
    have := Nat.mul_le_mul_left N hs
    have hle : nsum (fun q => N * t q / 10) (k + 1) ≤ N := by omega
    refine ⟨?_, hle⟩
    have hle2 : nsum (fun q => N * t q / 10) k + N * t k / 10 ≤ N := hle
    show cGrL z (nI N) T k - gGo (nI N) (T (z + 1 + k)) = nI (N - (nsum (fun q => N * t q / 10) k + N * t k / 10))
    rw [ih, (hT k (by omega)).1, gGo_n hN (hT k (by omega)).2, pk_sub (by omega)]
    congr 1
    omega
theorem mlLeft_n {z : Nat} {x : Int32} {T T' : Nat → Int32} : ∀ k, (∀ q, q < k → mlGo x (T' (z + 1 + q)) = gGo x (T (z + 1 + q))) → mlLeft z x T' k = cGrL z x T k
  | 0, _ => rfl
  | k + 1, h => by
    show mlLeft z x T' k - mlGo x (T' (z + 1 + k)) = cGrL z x T k - gGo x (T (z + 1 + k))
    rw [mlLeft_n k (fun q hq => h q (by omega)), h k (by omega)]
/-- a grind beside the reference's -/
def mlI (i : Nat) (h : Nat → Nat) (W : Nat → Nat) (_k : Nat) (σ τ : Sg) : Prop :=
  (∀ j, j < 8 → τ.1 11 18 ((2 * i + 0) * 8 + j) = σ.1 i 10 j) ∧ (∀ j, j < 8 → τ.1 11 18 ((2 * i + 1) * 8 + j) = 0) ∧ nnR (σ.1 i 10) ∧ nnR (σ.1 i 0) ∧ (∀ s, s < 2 → wt s (σ.1 i 10) + wt s (σ.1 i 0) = W s) ∧ ∀ k, k < 16 → σ.1 i 3 k = nI (h k) ∧ τ.1 11 4 (16 * i + k) = nI (h k)
theorem ml_step {i : Nat} {h W : Nat → Nat} (hh : ∀ k, k < 16 → h k ≤ 10) (hs10 : ∀ z, z < 4 → nsum (fun q => h (4 * z + (z + 1 + q))) (3 - z) ≤ 10) (hW : ∀ s, s < 2 → W s ≤ 130000000) {k : Nat} {σ τ : Sg} (hk : k < 8) (hI : mlI i h W k σ τ) (hT : τ.1 11 2 (8 * i + k) = σ.1 i 0 k) : mlI i h W (k + 1) (cMlS i k σ) (mMill τ i (k / 2) (k % 2)) ∧ (cMlS i k σ).1 i 0 k = 0 := by
  obtain ⟨I1, I2, I3, I4, I5, I6⟩ := hI
  have hz : k / 2 < 4 := by omega
  have hs : k % 2 < 2 := by omega
  have hzs : 2 * (k / 2) + k % 2 = k := by omega
  obtain ⟨eN, -⟩ := tn_of (I4 k hk)
  have bN : tn (σ.1 i 0 k) ≤ 130000000 := by
    have h1 := wt_cell (f := σ.1 i 0) hk
    have h2 := I5 (k % 2) hs
    have h3 := hW (k % 2) hs
    omega
  generalize hz0 : k / 2 = z at hz hzs ⊢
  generalize hs0 : k % 2 = s at hs hzs ⊢
  generalize hNN : tn (σ.1 i 0 k) = N at eN bN
  have hT3 : ∀ q, q < 3 - z → σ.1 i 3 (4 * z + (z + 1 + q)) = nI (h (4 * z + (z + 1 + q))) ∧ h (4 * z + (z + 1 + q)) ≤ 10 := fun q hq => ⟨(I6 _ (by omega)).1, hh _ (by omega)⟩
  have hT4 : ∀ q, q < 3 - z → τ.1 11 4 (16 * i + 4 * z + (z + 1 + q)) = nI (h (4 * z + (z + 1 + q))) := fun q hq => by
    rw [show 16 * i + 4 * z + (z + 1 + q) = 16 * i + (4 * z + (z + 1 + q)) by omega]
    exact (I6 _ (by omega)).2
  have hgo : ∀ q, q < 3 - z → mlGo (nI N) (τ.1 11 4 (16 * i + 4 * z + (z + 1 + q))) = gGo (nI N) (σ.1 i 3 (4 * z + (z + 1 + q))) := fun q hq => by
    rw [hT4 q hq, (hT3 q hq).1, mlGo_n bN (hT3 q hq).2, gGo_n bN (hT3 q hq).2]
  obtain ⟨eL, bL⟩ := cGrL_n (z := z) (T := fun j => σ.1 i 3 (4 * z + j)) (t := fun q => h (4 * z + (z + 1 + q))) bN (3 - z) hT3 (hs10 z hz)
  have eLm : mlLeft z (nI N) (fun j => τ.1 11 4 (16 * i + 4 * z + j)) (3 - z) = cGrL z (nI N) (fun j => σ.1 i 3 (4 * z + j)) (3 - z) := mlLeft_n (3 - z) hgo
  -- the reference's out behind it
  have rout : ∀ j, j < 8 → (mMill τ i z s).1 11 18 ((2 * i + 0) * 8 + j) = σ.1 i 10 j + (if j % 2 = s ∧ z < j / 2 then gGo (nI N) (σ.1 i 3 (4 * z + j / 2)) else if j = k then cGrL z (nI N) (fun j => σ.1 i 3 (4 * z + j)) (3 - z) else 0) := by
    intro j hj
    unfold mMill
    rw [hzs, hT, eN, eLm]
    have ac := acc_at 11 18 ((2 * i + 0) * 8) z s (fun q => mlGo (nI N) (τ.1 11 4 (16 * i + 4 * z + (z + 1 + q)))) hs τ (3 - z) (by omega)
    have ef : (fun q τ' => sI τ' 11 18 ((2 * i + 0) * 8 + (2 * (z + 1 + q) + s)) (τ'.1 11 18 ((2 * i + 0) * 8 + (2 * (z + 1 + q) + s)) + mlGo (nI N) (τ.1 11 4 (16 * i + 4 * z + (z + 1 + q))))) = mlStep i z s (nI N) (fun j => τ.1 11 4 (16 * i + 4 * z + j)) := rfl
    rw [ef] at ac
    rw [sI_I]
    by_cases e : j = k
    · subst e
      rw [if_pos ⟨rfl, rfl, rfl⟩, ac j hj, if_neg (by omega), Int32.add_zero, I1 j hj, if_neg (by omega), if_pos rfl]
    · rw [if_neg (by omega), ac j hj, I1 j hj]
      by_cases h2 : j % 2 = s ∧ z < j / 2
      · rw [if_pos ⟨h2.1, h2.2, by omega⟩, if_pos h2, hgo _ (by omega), show z + 1 + (j / 2 - (z + 1)) = j / 2 by omega]
      · rw [if_neg (by omega), if_neg h2, if_neg e]
  have rout2 : ∀ j, j < 8 → (mMill τ i z s).1 11 18 ((2 * i + 1) * 8 + j) = 0 := by
    intro j hj
    unfold mMill
    rw [sI_I, if_neg (by omega)]
    have e9 : ∀ q, q ≤ 3 - z → (itF (mlStep i z s (τ.1 11 2 (8 * i + (2 * z + s))) (fun j => τ.1 11 4 (16 * i + 4 * z + j))) q τ).1 11 18 ((2 * i + 1) * 8 + j) = τ.1 11 18 ((2 * i + 1) * 8 + j) := by
      intro q
      induction q with
      | zero => intro _; rfl
      | succ q ih =>
        intro hq
        show (mlStep i z s _ _ q _).1 11 18 _ = _
        unfold mlStep at ih ⊢
        rw [sI_I, if_neg (by omega)]
        exact ih (by omega)
    rw [e9 _ (Nat.le_refl _)]
    exact I2 j hj
  have r4 : ∀ j, (mMill τ i z s).1 11 4 j = τ.1 11 4 j := fun j => (fr_mMill τ i z s).1 11 4 j (by unfold oS; omega)
  by_cases h0 : σ.1 i 0 k = 0
  · have hN0 : N = 0 := by rw [← hNN, h0]; exact tn_0
    have ecl : cMlS i k σ = σ := by unfold cMlS; rw [if_pos h0]
    rw [ecl]
    refine ⟨⟨fun j hj => ?_, rout2, I3, I4, I5, fun k hk => ⟨(I6 k hk).1, by rw [r4]; exact (I6 k hk).2⟩⟩, h0⟩
    rw [rout j hj]
    by_cases h2 : j % 2 = s ∧ z < j / 2
    · rw [if_pos h2, hN0]
      have hx := (I6 (4 * z + j / 2) (by omega)).1
      rw [hx, gGo_n (by omega) (hh _ (by omega)), Nat.zero_mul, show nI (0 / 10) = 0 from rfl, Int32.add_zero]
    · rw [if_neg h2]
      by_cases e : j = k
      · rw [if_pos e, eL, hN0, Nat.zero_sub, show nI 0 = 0 from rfl, Int32.add_zero]
      · rw [if_neg e, Int32.add_zero]
  · have ecl : cMlS i k σ = cGrind σ i z s := by unfold cMlS; rw [if_neg h0, hz0, hs0]
    rw [ecl]
    -- the class's row behind it
    have ef : cGrS i z s (nI N) (fun j => σ.1 i 3 (4 * z + j)) = fun q τ' => sI τ' i 10 (0 + (2 * (z + 1 + q) + s)) (τ'.1 i 10 (0 + (2 * (z + 1 + q) + s)) + gGo (nI N) (σ.1 i 3 (4 * z + (z + 1 + q)))) := by
      funext q τ'
      unfold cGrS
      rw [Nat.zero_add]
    have ac := acc_at i 10 0 z s (fun q => gGo (nI N) (σ.1 i 3 (4 * z + (z + 1 + q)))) hs σ (3 - z) (by omega)
    rw [← ef] at ac
    have ac : ∀ j, j < 8 → (itF (cGrS i z s (nI N) (fun j => σ.1 i 3 (4 * z + j))) (3 - z) σ).1 i 10 j = σ.1 i 10 j + (if j % 2 = s ∧ z < j / 2 ∧ j / 2 ≤ z + (3 - z) then gGo (nI N) (σ.1 i 3 (4 * z + (z + 1 + (j / 2 - (z + 1))))) else 0) := by
      intro j hj
      have := ac j hj
      rw [Nat.zero_add] at this
      exact this
    have cout : ∀ j, j < 8 → (cGrind σ i z s).1 i 10 j = σ.1 i 10 j + (if j % 2 = s ∧ z < j / 2 then gGo (nI N) (σ.1 i 3 (4 * z + j / 2)) else if j = k then cGrL z (nI N) (fun j => σ.1 i 3 (4 * z + j)) (3 - z) else 0) := by
      intro j hj
      unfold cGrind
      rw [hzs, eN, sI_I, if_neg (by omega), sI_I]
      by_cases e : j = k
      · subst e
        rw [if_pos ⟨rfl, rfl, rfl⟩, ac j hj, if_neg (by omega), Int32.add_zero, if_neg (by omega), if_pos rfl]
      · rw [if_neg (by omega), ac j hj]
        by_cases h2 : j % 2 = s ∧ z < j / 2
        · rw [if_pos ⟨h2.1, h2.2, by omega⟩, if_pos h2, show z + 1 + (j / 2 - (z + 1)) = j / 2 by omega]
        · rw [if_neg (by omega), if_neg h2, if_neg e]
    have fr := frx_grind σ i z s
    have c0 : ∀ j, (cGrind σ i z s).1 i 0 j = if j = k then 0 else σ.1 i 0 j := by
      intro j
      unfold cGrind
      rw [hzs, sI_I]
      by_cases e : j = k
      · rw [if_pos ⟨rfl, rfl, e⟩, if_pos e]; rfl
      · rw [if_neg (fun z => e z.2.2), if_neg e, sI_I, if_neg (by omega)]
        have := itF_row (f := cGrS i z s (σ.1 i 0 k) (fun j => σ.1 i 3 (4 * z + j))) (fun τ => τ.1 i 0) (fun c τ => by funext j; unfold cGrS; rw [sI_I, if_neg (by omega)]) σ (3 - z)
        rw [show (itF (cGrS i z s (σ.1 i 0 k) (fun j => σ.1 i 3 (4 * z + j))) (3 - z) σ).1 i 0 = σ.1 i 0 from this]
    -- weights of the class's row
    let ad : Nat → Nat := fun j => if j % 2 = s ∧ z < j / 2 then N * h (4 * z + j / 2) / 10 else if j = k then N - nsum (fun q => N * h (4 * z + (z + 1 + q)) / 10) (3 - z) else 0
    have cad : ∀ j, j < 8 → (cGrind σ i z s).1 i 10 j = σ.1 i 10 j + nI (ad j) := by
      intro j hj
      rw [cout j hj]
      congr 1
      show _ = nI (if j % 2 = s ∧ z < j / 2 then N * h (4 * z + j / 2) / 10 else if j = k then N - nsum (fun q => N * h (4 * z + (z + 1 + q)) / 10) (3 - z) else 0)
      by_cases h2 : j % 2 = s ∧ z < j / 2
      · rw [if_pos h2, if_pos h2, (I6 _ (by omega)).1, gGo_n bN (hh _ (by omega))]
      · rw [if_neg h2, if_neg h2]
        by_cases e : j = k
        · rw [if_pos e, if_pos e, eL]
        · rw [if_neg e, if_neg e]; rfl
    have sad : ∀ s', s' < 2 → nsum (fun w => ad (2 * w + s')) 4 = if s' = s then N else 0 := by
      intro s' hs'
      by_cases e : s' = s
      · subst e
        rw [if_pos rfl]
        have e4 : ∀ w, w < 4 → ad (2 * w + s') = if z < w then N * h (4 * z + w) / 10 else if w = z then N - nsum (fun q => N * h (4 * z + (z + 1 + q)) / 10) (3 - z) else 0 := by
          intro w hw
          show (if (2 * w + s') % 2 = s' ∧ z < (2 * w + s') / 2 then N * h (4 * z + (2 * w + s') / 2) / 10 else if 2 * w + s' = k then N - nsum (fun q => N * h (4 * z + (z + 1 + q)) / 10) (3 - z) else 0) = _
          rw [show (2 * w + s') / 2 = w by omega]
          by_cases h2 : z < w
          · rw [if_pos ⟨by omega, h2⟩, if_pos h2]
          · rw [if_neg (fun q => h2 q.2), if_neg h2]
            by_cases h3 : w = z
            · rw [if_pos (by omega), if_pos h3]
            · rw [if_neg (by omega), if_neg h3]
        rw [nsum_congr e4]
        match z, hz, bL with
        | 0, _, bL => simp only [nsum] at bL ⊢; simp at bL ⊢; omega
        | 1, _, bL => simp only [nsum] at bL ⊢; simp at bL ⊢; omega
        | 2, _, bL => simp only [nsum] at bL ⊢; simp at bL ⊢; omega
        | 3, _, bL => simp only [nsum] at bL ⊢; simp at bL ⊢; exact Nat.sub_zero N
      · rw [if_neg e]
        refine nsum_zero (fun w hw => ?_)
        show (if (2 * w + s') % 2 = s ∧ z < (2 * w + s') / 2 then N * h (4 * z + (2 * w + s') / 2) / 10 else if 2 * w + s' = k then N - nsum (fun q => N * h (4 * z + (z + 1 + q)) / 10) (3 - z) else 0) = 0
        rw [if_neg (by omega), if_neg (by omega)]
    have adle : ∀ j, j < 8 → ad j ≤ N := by
      intro j hj
      have h1 := sad (j % 2) (by omega)
      have h2 := nsum_le (f := fun w => ad (2 * w + j % 2)) (j := j / 2) (k := 4) (by omega)
      rw [show 2 * (j / 2) + j % 2 = j by omega, h1] at h2
      split at h2 <;> omega
    have cell : ∀ j, j < 8 → ¬ (cGrind σ i z s).1 i 10 j < 0 ∧ tn ((cGrind σ i z s).1 i 10 j) = tn (σ.1 i 10 j) + ad j := by
      intro j hj
      have h1 := adle j hj
      have h2 := wt_cell (f := σ.1 i 10) hj
      have h3 := I5 (j % 2) (by omega)
      have h4 := hW (j % 2) (by omega)
      rw [cad j hj]
      have := tn_add (I3 j hj) (nI_pos (n := ad j) (by omega)) (by rw [tn_nI (by omega)]; omega)
      rw [tn_nI (k := ad j) (by omega)] at this
      exact this
    have w10 : ∀ s', s' < 2 → wt s' ((cGrind σ i z s).1 i 10) = wt s' (σ.1 i 10) + if s' = s then N else 0 := by
      intro s' hs'
      rw [← sad s' hs']
      unfold wt
      rw [← nsum_add]
      exact nsum_congr (fun w hw => (cell (2 * w + s') (by omega)).2)
    have w0 : ∀ s', s' < 2 → wt s' ((cGrind σ i z s).1 i 0) + (if s' = s then N else 0) = wt s' (σ.1 i 0) := by
      intro s' hs'
      have h9 := wt_upd (f := σ.1 i 0) (g := (cGrind σ i z s).1 i 0) (j := k) hk (fun j hj => by rw [c0, if_neg hj]) hs'
      rw [c0 k, if_pos rfl, tn_0, hNN] at h9
      by_cases e : s' = s
      · rw [if_pos e]
        rw [if_pos (by omega), if_pos (by omega)] at h9
        omega
      · rw [if_neg e]
        rw [if_neg (by omega), if_neg (by omega)] at h9
        omega
    refine ⟨⟨fun j hj => by rw [rout j hj, cout j hj], rout2, fun j hj => (cell j hj).1, fun j hj => ?_, fun s' hs' => ?_, fun k' hk' => ⟨?_, by rw [r4]; exact (I6 k' hk').2⟩⟩, by rw [c0 k, if_pos rfl]⟩
    · rw [c0]
      split
      · exact nn_0
      · exact I4 j hj
    · have h1 := w10 s' hs'
      have h2 := w0 s' hs'
      have h3 := I5 s' hs'
      omega
    · rw [fr.1 i 3 k' (by omega)]
      exact (I6 k' hk').1
theorem give_2 {σ τ : Sg} {i : Nat} (hi : gIn 2 (σ.1 i) (rM τ i)) : gOut 2 (σ.1 i) ((cMill σ i).1 i) (rM (itF (fun c τ => mMill τ i (c / 2) (c % 2)) 8 τ) i) := by
  obtain ⟨hS, hN, hD, hH, hz, hn, hb, -⟩ := hi
  obtain ⟨hN1, hN2⟩ := hN.2.1 rfl
  have h3 : ∀ k, k < 16 → tn (σ.1 i 3 k) ≤ 10 ∧ σ.1 i 3 k = nI (tn (σ.1 i 3 k)) ∧ τ.1 11 4 (16 * i + k) = nI (tn (σ.1 i 3 k)) := by
    intro k hk
    obtain ⟨x, -, hx, e⟩ := inR_of (by decide) (by decide) (hN1 k hk)
    have := hS.2.2.1 rfl k hk
    rw [rM_at τ i 4 k hk] at this
    have t : tn (σ.1 i 3 k) = x := by rw [e, tn_nI (by omega)]
    rw [t]
    exact ⟨hx, e, by rw [← e]; exact this⟩
  have hW : ∀ s, s < 2 → wt s (σ.1 i 0) ≤ 130000000 := by
    intro s hs
    have h2 := hb s hs
    have : wt s (σ.1 i 0) ≤ uMs 2 (σ.1 i) s := by
      show _ ≤ wt _ (σ.1 i 0) + wt _ (σ.1 i 1) + 0
      omega
    omega
  have z10 : ∀ k, k < 8 → (sR σ i 10 (zerR 8 (σ.1 i 10))).1 i 10 k = 0 := fun k hk => by
    rw [sR_I, if_pos ⟨rfl, rfl⟩]
    exact zerR_0 (by decide) _ k hk
  have e0 : (sR σ i 10 (zerR 8 (σ.1 i 10))).1 i 0 = σ.1 i 0 := by funext j; rw [sR_I, if_neg (by omega)]
  have e3 : (sR σ i 10 (zerR 8 (σ.1 i 10))).1 i 3 = σ.1 i 3 := by funext j; rw [sR_I, if_neg (by omega)]
  have main := it2 (cMlS i) (fun c τ => mMill τ i (c / 2) (c % 2)) 8 (fun c ρ _ => ρ.1 i 0 c = 0) (fun c ρ μ => μ.1 11 2 (8 * i + c) = ρ.1 i 0 c) (mlI i (fun k => tn (σ.1 i 3 k)) (fun s => wt s (σ.1 i 0)))
    (fun k ρ μ hk hI hT => (ml_step (fun k hk => (h3 k hk).1) hN2 hW hk hI hT).1)
    (fun k ρ μ hk hI hT => (ml_step (fun k hk => (h3 k hk).1) hN2 hW hk hI hT).2)
    (fun k c ρ μ hk hc hne hI hT hD => by
      show (cMlS i k ρ).1 i 0 c = 0
      unfold cMlS
      split
      · exact hD
      · unfold cGrind
        rw [sI_I, if_neg (by omega), sI_I, if_neg (by omega)]
        have := itF_row (f := cGrS i (k / 2) (k % 2) (ρ.1 i 0 (2 * (k / 2) + k % 2)) (fun j => ρ.1 i 3 (4 * (k / 2) + j))) (fun τ => τ.1 i 0) (fun c τ => by funext j; unfold cGrS; rw [sI_I, if_neg (by omega)]) ρ (3 - k / 2)
        rw [show (itF (cGrS i (k / 2) (k % 2) (ρ.1 i 0 (2 * (k / 2) + k % 2)) (fun j => ρ.1 i 3 (4 * (k / 2) + j))) (3 - k / 2) ρ).1 i 0 = ρ.1 i 0 from this]
        exact hD)
    (fun k c ρ μ hk hc hne hI hT0 hT => by
      show (mMill μ i (k / 2) (k % 2)).1 11 2 (8 * i + c) = (cMlS i k ρ).1 i 0 c
      rw [(fr_mMill μ i (k / 2) (k % 2)).1 11 2 _ (by unfold oS; omega), hT]
      unfold cMlS
      split
      · rfl
      · unfold cGrind
        rw [sI_I, if_neg (by omega), sI_I, if_neg (by omega)]
        have := itF_row (f := cGrS i (k / 2) (k % 2) (ρ.1 i 0 (2 * (k / 2) + k % 2)) (fun j => ρ.1 i 3 (4 * (k / 2) + j))) (fun τ => τ.1 i 0) (fun c τ => by funext j; unfold cGrS; rw [sI_I, if_neg (by omega)]) ρ (3 - k / 2)
        rw [show (itF (cGrS i (k / 2) (k % 2) (ρ.1 i 0 (2 * (k / 2) + k % 2)) (fun j => ρ.1 i 3 (4 * (k / 2) + j))) (3 - k / 2) ρ).1 i 0 = ρ.1 i 0 from this])
    (σ := sR σ i 10 (zerR 8 (σ.1 i 10))) (τ := τ)
    ⟨fun j hj => by rw [z10 j hj, ← rM18 τ i 0 j (by decide) hj]; exact hz _ (by omega), fun j hj => by rw [← rM18 τ i 1 j (by decide) hj]; exact hz _ (by omega), nnR_zero z10, by rw [e0]; exact hn.1, fun s hs => by rw [e0, wt_zero hs z10, Nat.zero_add], fun k hk => by rw [e3]; exact (h3 k hk).2⟩
    (fun c hc => by
      show τ.1 11 2 (8 * i + c) = (sR σ i 10 (zerR 8 (σ.1 i 10))).1 i 0 c
      rw [e0, ← rM2 τ i c hc]
      exact hH c hc)
    8 (Nat.le_refl _)
  obtain ⟨mI, mD, -⟩ := main
  have frI := frx_mill σ i
  have keep : ∀ a, ¬ a = 18 → ¬ a = 6 → rM (itF (fun c τ => mMill τ i (c / 2) (c % 2)) 8 τ) i a = rM τ i a := by
    intro a h18 h6
    funext k
    unfold rM
    rw [show (itF (fun c τ => mMill τ i (c / 2) (c % 2)) 8 τ).1 11 a = τ.1 11 a from itF_row (f := fun c τ => mMill τ i (c / 2) (c % 2)) (fun τ => τ.1 11 a) (fun c τ => by funext j; exact (fr_mMill τ i _ _).1 11 a j (by unfold oS; omega)) τ 8]
  unfold cMill at frI ⊢
  generalize itF (cMlS i) 8 (sR σ i 10 (zerR 8 (σ.1 i 10))) = σ' at mI mD frI ⊢
  generalize itF (fun c τ => mMill τ i (c / 2) (c % 2)) 8 τ = τ' at mI keep ⊢
  obtain ⟨J1, J2, J3, J4, J5, -⟩ := mI
  have c1 : σ'.1 i 1 = σ.1 i 1 := by funext j; exact frI.1 i 1 j (by omega)
  refine ⟨fun _ => mD, fun p hp k hk => ?_, fun p hp => ?_, ⟨J4, by rw [c1]; exact hn.2.1, fun z => absurd z (by decide), fun z => absurd z (by decide)⟩, uD_keep hD (by rw [keep 12 (by decide) (by decide)]) (by rw [keep 13 (by decide) (by decide)]) (by rw [keep 16 (by decide) (by decide)]) (frI.1 i 8 0 (by omega)) (fun z => absurd z (by decide)) (fun z => absurd z (by decide)) (fun z => absurd z (by decide)), fun s hs => ?_⟩
  · rw [rM18 _ i p k hp hk]
    by_cases hp0 : p = 0
    · subst hp0
      rw [if_pos (by decide)]
      exact J1 k hk
    · obtain rfl : p = 1 := by omega
      rw [if_neg (by decide)]
      exact J2 k hk
  · obtain rfl : p = 0 := by have : p < 1 := hp; omega
    exact J3
  · show wt s (σ'.1 i 0) + wt s (σ'.1 i 1) + 0 + (0 + wt s (σ'.1 i 10)) ≤ wt s (σ.1 i 0) + wt s (σ.1 i 1) + 0 + 4000
    have : wt s (σ'.1 i 10) + wt s (σ'.1 i 0) = wt s (σ.1 i 0) := J5 s hs
    rw [c1]
    omega
