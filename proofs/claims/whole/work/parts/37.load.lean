/-! ===== closings ===== -/
theorem subL {a b : Nat} (ha : a < 1073741824) (hb : b < 1073741824) : (nI a - nI b).toInt64 = lN a - lN b := by
  apply Int64.toInt_inj.mp
  rw [Int32.toInt_toInt64, pk_sub_toInt ha hb, Int64.toInt_sub, pk_lT (by omega), pk_lT (by omega)]
  exact (Int.bmod_eq_of_le (by omega) (by omega)).symm
theorem absL {a b : Nat} (ha : a < 1099511627776) (hb : b < 1099511627776) : ∃ X, X < 4611686018427387904 ∧ (if lN a - lN b < 0 then -(lN a - lN b) else lN a - lN b) = lN X := by
  have e : (lN a - lN b).toInt = (a : Int) - b := by
    rw [Int64.toInt_sub, pk_lT (by omega), pk_lT (by omega)]
    exact Int.bmod_eq_of_le (by omega) (by omega)
  by_cases h : b ≤ a
  · refine ⟨a - b, by omega, ?_⟩
    rw [if_neg ?_, lN_sub h]
    intro z
    have := Int64.lt_iff_toInt_lt.mp z
    rw [e] at this
    have : (0 : Int64).toInt = 0 := by decide
    omega
  · refine ⟨b - a, by omega, ?_⟩
    rw [if_pos ?_, Int64.neg_sub, lN_sub (by omega)]
    refine Int64.lt_iff_toInt_lt.mpr ?_
    rw [e]
    have : (0 : Int64).toInt = 0 := by decide
    omega
theorem clW_n {σ : Sg} {u : Nat} {A : Nat → Nat} (h0 : (σ.1 11 22 (3 * u)).toInt64 = lN (A 0)) : ∀ k, (∀ j, 1 ≤ j → j ≤ k → (σ.1 11 22 (3 * u + j)).toInt64 = lN (A j)) → clW σ u (k + 1) = lN (A 0) - lN (nsum (fun j => A (j + 1)) k)
  | 0, _ => by
    show (σ.1 11 22 (3 * u)).toInt64 - (if 0 = 0 then 0 else (σ.1 11 22 (3 * u + 0)).toInt64) = lN (A 0) - lN 0
    rw [if_pos rfl, h0]
    rfl
  | k + 1, h => by
    show clW σ u (k + 1) - (if k + 1 = 0 then 0 else (σ.1 11 22 (3 * u + (k + 1))).toInt64) = lN (A 0) - lN (nsum (fun j => A (j + 1)) k + A (k + 1))
    rw [clW_n h0 k (fun j h1 h2 => h j h1 (by omega)), if_neg (by omega), h (k + 1) (by omega) (by omega), ← lN_add]
    generalize lN (A 0) = x
    generalize lN (nsum (fun j => A (j + 1)) k) = y
    generalize lN (A (k + 1)) = z
    grind
theorem q_close {σ : Sg} (h : INV σ) {k : Nat} (hk : k < σ.2.2.2) (h0 : ¬ σ.2.2.1 k = 0) (h7 : ¬ σ.2.2.1 k = 7) {w : Nat} (hw : w < 1 + upt (σ.2.2.1 k)) : ∃ X Y, 0 < Y ∧ Y < 512 ∧ X < 4611686018427387904 ∧ (l_sum (σ.1 k 5) (1 + upt (σ.2.2.1 k))).toInt64 = lN Y ∧ clAll σ k (upt (σ.2.2.1 k) + 1) = lN Y ∧ cUp σ k w (upt (σ.2.2.1 k)) = clUp σ k w (upt (σ.2.2.1 k)) ∧ (if cUp σ k w (upt (σ.2.2.1 k)) < 0 then -cUp σ k w (upt (σ.2.2.1 k)) else cUp σ k w (upt (σ.2.2.1 k))) = lN X := by
  obtain ⟨m0, -, hu⟩ := h.ua hk
  have hup := upt_le (σ.2.2.1 k)
  generalize hP : upt (σ.2.2.1 k) = P at hup hw ⊢
  have hS := hu.1.2.2.2.2.2.2.1 h0 h7
  have hN := hu.2.1.2.2.2.2.2 h0 h7
  rw [hP] at hS hN
  have hA : ∀ j, j < 1 + P → tn (σ.1 k 4 j) ≤ 100000 ∧ σ.1 k 4 j = nI (tn (σ.1 k 4 j)) ∧ (σ.1 k 4 j).toInt64 = lN (tn (σ.1 k 4 j)) ∧ (σ.1 11 22 (3 * k + j)).toInt64 = lN (tn (σ.1 k 4 j)) := by
    intro j hj
    obtain ⟨x, -, hx, e⟩ := inR_of (by decide) (by decide) (hN j hj).1
    have t : tn (σ.1 k 4 j) = x := by rw [e, tn_nI (by omega)]
    have e2 := (hS j hj).1
    rw [rM_at σ k 22 j (show j < 3 by omega)] at e2
    have e2 : σ.1 11 22 (3 * k + j) = σ.1 k 4 j := e2
    rw [t, e2, e, nI_l (by omega)]
    exact ⟨hx, rfl, rfl, rfl⟩
  have hDd : ∀ j, j < 1 + P → 1 ≤ tn (σ.1 k 5 j) ∧ tn (σ.1 k 5 j) ≤ 100 ∧ σ.1 k 5 j = nI (tn (σ.1 k 5 j)) ∧ (σ.1 k 5 j).toInt64 = lN (tn (σ.1 k 5 j)) ∧ (σ.1 11 23 (3 * k + j)).toInt64 = lN (tn (σ.1 k 5 j)) := by
    intro j hj
    obtain ⟨x, hx1, hx, e⟩ := inR_of (by decide) (by decide) (hN j hj).2
    have t : tn (σ.1 k 5 j) = x := by rw [e, tn_nI (by omega)]
    have e2 := (hS j hj).2
    rw [rM_at σ k 23 j (show j < 3 by omega)] at e2
    have e2 : σ.1 11 23 (3 * k + j) = σ.1 k 5 j := e2
    rw [t, e2, e, nI_l (by omega)]
    exact ⟨hx1, hx, rfl, rfl, rfl⟩
  have bY : nsum (fun j => tn (σ.1 k 5 j)) (1 + P) ≤ 100 * (1 + P) := nsum_bound (fun j hj => (hDd j hj).2.1)
  have pY : 1 ≤ nsum (fun j => tn (σ.1 k 5 j)) (1 + P) := Nat.le_trans (hDd 0 (by omega)).1 (nsum_le (f := fun j => tn (σ.1 k 5 j)) (show 0 < 1 + P by omega))
  have eY : (l_sum (σ.1 k 5) (1 + P)).toInt64 = lN (nsum (fun j => tn (σ.1 k 5 j)) (1 + P)) := by rw [l_sum_n (fun j hj => (hDd j hj).2.2.1), nI_l (by omega)]
  have eA : clAll σ k (P + 1) = lN (nsum (fun j => tn (σ.1 k 5 j)) (1 + P)) := by
    unfold clAll
    rw [Nat.add_comm P 1]
    exact lSum_n (fun j hj => (hDd j hj).2.2.2.2)
  have bS : nsum (fun j => tn (σ.1 k 4 (j + 1))) P ≤ 100000 * P := nsum_bound (fun j hj => (hA (j + 1) (by omega)).1)
  have eW : (cWant σ k P).toInt64 = lN (tn (σ.1 k 4 0)) - lN (nsum (fun j => tn (σ.1 k 4 (j + 1))) P) := by
    unfold cWant
    rw [Nat.add_comm 1 P, l_sum_first, l_sum_n (f := fun j => σ.1 k 4 (j + 1)) (g := fun j => tn (σ.1 k 4 (j + 1))) (fun j hj => (hA (j + 1) (by omega)).2.1), Int32.add_comm, Int32.add_sub_cancel]
    have h0A := (hA 0 (by omega))
    rw [h0A.2.1, tn_nI (by omega)]
    exact subL (by omega) (by omega)
  have eW2 : clW σ k (P + 1) = lN (tn (σ.1 k 4 0)) - lN (nsum (fun j => tn (σ.1 k 4 (j + 1))) P) := clW_n (A := fun j => tn (σ.1 k 4 j)) (hA 0 (by omega)).2.2.2 P (fun j h1 h2 => (hA j (by omega)).2.2.2)
  obtain ⟨w1, w2, w3, w4⟩ := hA w hw
  obtain ⟨d1, d2, d3, d4, d5⟩ := hDd w hw
  have eU : cUp σ k w P = clUp σ k w P := by
    unfold cUp clUp
    rw [eY, eW, eW2, eA, w3, w4, d4, d5]
    generalize lN (tn (σ.1 k 4 0)) - lN (nsum (fun j => tn (σ.1 k 4 (j + 1))) P) = a
    generalize lN (tn (σ.1 k 5 w)) = b
    by_cases hw0 : w = 0
    · rw [if_pos hw0, if_pos hw0]
      congr 1
      grind
    · rw [if_neg hw0, if_neg hw0]
      congr 1
      grind
  have b1 : tn (σ.1 k 4 w) * nsum (fun j => tn (σ.1 k 5 j)) (1 + P) ≤ 100000 * 300 := Nat.mul_le_mul w1 (by omega)
  have b2 : tn (σ.1 k 5 w) * tn (σ.1 k 4 0) ≤ 100 * 100000 := Nat.mul_le_mul d2 (hA 0 (by omega)).1
  have b3 : tn (σ.1 k 5 w) * nsum (fun j => tn (σ.1 k 4 (j + 1))) P ≤ 100 * 200000 := Nat.mul_le_mul d2 (by omega)
  have eX : ∃ X, X < 4611686018427387904 ∧ (if cUp σ k w P < 0 then -cUp σ k w P else cUp σ k w P) = lN X := by
    have e9 : cUp σ k w P = if w = 0 then lN (tn (σ.1 k 4 w) * nsum (fun j => tn (σ.1 k 5 j)) (1 + P) + tn (σ.1 k 5 w) * nsum (fun j => tn (σ.1 k 4 (j + 1))) P) - lN (tn (σ.1 k 5 w) * tn (σ.1 k 4 0)) else lN (tn (σ.1 k 4 w) * nsum (fun j => tn (σ.1 k 5 j)) (1 + P) + tn (σ.1 k 5 w) * tn (σ.1 k 4 0)) - lN (tn (σ.1 k 5 w) * nsum (fun j => tn (σ.1 k 4 (j + 1))) P) := by
      unfold cUp
      rw [eY, eW, w3, d4, ← lN_add, ← lN_add, ← lN_mul, ← lN_mul, ← lN_mul]
      generalize lN (tn (σ.1 k 4 0)) = a
      generalize lN (nsum (fun j => tn (σ.1 k 4 (j + 1))) P) = b
      generalize lN (tn (σ.1 k 5 w)) = c
      generalize lN (tn (σ.1 k 4 w)) = d
      generalize lN (nsum (fun j => tn (σ.1 k 5 j)) (1 + P)) = e
      by_cases hw0 : w = 0
      · rw [if_pos hw0, if_pos hw0]
        grind
      · rw [if_neg hw0, if_neg hw0]
        grind
    rw [e9]
    by_cases hw0 : w = 0
    · rw [if_pos hw0]
      exact absL (by omega) (by omega)
    · rw [if_neg hw0]
      exact absL (by omega) (by omega)
  obtain ⟨X, hX, eX⟩ := eX
  exact ⟨X, nsum (fun j => tn (σ.1 k 5 j)) (1 + P), by omega, by omega, hX, eY, eA, eU, eX⟩
/-! ===== loads ===== -/
theorem uA_r {n : Nat} {κs : Nat → Nat} {κ : Nat} {c r r' : Nat → Nat → Int32} {rl : Nat → Nat → Int64} {m : Nat} (h : uA n κs κ c r rl m) (hr : ∀ a, a ≤ 23 → r' a = r a) : uA n κs κ c r' rl m := by
  obtain ⟨a1, a2, a3, a4, a5, a6, a7, a8, a9, a10, a11, a12⟩ := h
  refine ⟨uS_of a1 (fun _ _ _ => rfl) (fun _ _ _ => rfl) (fun a ha => hr a (by omega)), a2, uD_of a3 (fun z => by rw [hr 12 (by omega)]; exact a3.1 z) (fun _ => by rw [hr 12 (by omega)]) (fun _ _ => rfl) (fun _ _ => rfl) (fun _ _ _ _ _ => rfl) (hr 6 (by omega)) (fun a h1 h2 => hr a (by omega)), fun k hk => by rw [hr 2 (by omega)]; exact a4 k hk, fun p hp k hk => by rw [hr 18 (by omega)]; exact a5 p hp k hk, a6, a7, a8, a9, fun z => by rw [hr 9 (by omega)]; exact a10 z, a11, a12⟩
theorem Inv_g {m : Nat} {σ ρ : Sg} (h : Inv m σ σ) (e2 : ρ.2 = σ.2) (hv : ∀ v, v < 10 → ρ.1 v = σ.1 v) (hr : ∀ a, a ≤ 23 → ρ.1 11 a = σ.1 11 a) (h30 : ρ.1 11 30 0 = σ.1 11 30 0) : Inv m ρ ρ := by
  obtain ⟨i1, i2, i3, i4, i5, i6, i7⟩ := h
  have hn := i1.1
  refine ⟨i1.of (by rw [e2]), rfl, ?_, i4, fun v hv' => ?_, fun s hs => ?_, fun s hs => ?_⟩
  · unfold MW
    rw [e2, h30, hr 0 (by omega)]
    exact i3
  · rw [e2] at hv' ⊢
    rw [hv v (by omega), rL_row (τ := σ) (by rw [e2]) (by rw [e2])]
    exact uA_r (i5 v hv') (fun a ha => rM_row (fun j => by rw [hr a ha]) v)
  · rw [e2]
    have : MT σ.2.2.2 σ.2.2.1 ρ s = MT σ.2.2.2 σ.2.2.1 σ s := nsum_congr (fun v hv' => by rw [hv v (by omega)])
    rw [this]
    exact i6 s hs
  · rw [e2, i7 s hs]
    exact (fdS_congr e2 (fun v hv' _ => by rw [hv v (by omega)])).symm
theorem FRS_g {σ ρ : Sg} (h : FRS σ) (e2 : ρ.2 = σ.2) (hr : ∀ a, a ≤ 23 → ρ.1 11 a = σ.1 11 a) : FRS ρ := by
  intro v hv1 hv2
  rw [e2] at hv1
  obtain ⟨a1, a2⟩ := h v hv1 hv2
  refine ⟨fun a ha k => ?_, fun a k => ?_⟩
  · rw [rM_row (τ := σ) (fun j => by rw [hr a (by omega)])]
    exact a1 a ha k
  · rw [rL_row (τ := σ) (by rw [e2]) (by rw [e2])]
    exact a2 a k
theorem blW_congr {f g : Nat → Int32} {s : Nat} : ∀ {L : Nat}, (∀ k, k < L → f k = g k) → blW f s L = blW g s L
  | 0, _ => rfl
  | L + 1, h => by
    show (if s / 2 ^ L % 2 = 0 then blW f s L else blW f s L + f L) = (if s / 2 ^ L % 2 = 0 then blW g s L else blW g s L + g L)
    rw [blW_congr (fun k hk => h k (by omega)), h L (by omega)]
theorem bit_low {L s k : Nat} (hk : k < L) : (2 ^ L + s) / 2 ^ k % 2 = s / 2 ^ k % 2 := by
  have e : 2 ^ L = 2 ^ k * (2 * 2 ^ (L - k - 1)) := by
    rw [← Nat.pow_succ', ← Nat.pow_add]
    congr 1
    omega
  rw [e, Nat.add_comm, Nat.add_mul_div_left _ _ (Nat.two_pow_pos k)]
  omega
theorem blW_low {f : Nat → Int32} {L s : Nat} : ∀ k, k ≤ L → blW f (2 ^ L + s) k = blW f s k
  | 0, _ => rfl
  | k + 1, h => by
    show (if (2 ^ L + s) / 2 ^ k % 2 = 0 then blW f (2 ^ L + s) k else blW f (2 ^ L + s) k + f k) = (if s / 2 ^ k % 2 = 0 then blW f s k else blW f s k + f k)
    rw [bit_low (by omega), blW_low k (by omega)]
theorem blW_0 (f : Nat → Int32) : ∀ L, blW f 0 L = nI 0
  | 0 => rfl
  | L + 1 => by
    show (if 0 / 2 ^ L % 2 = 0 then blW f 0 L else blW f 0 L + f L) = _
    rw [Nat.zero_div, if_pos rfl, blW_0 f L]
theorem blW_hi {f : Nat → Int32} {L s : Nat} (hs : s < 2 ^ L) : blW f (2 ^ L + s) (L + 1) = blW f s L + f L ∧ blW f s (L + 1) = blW f s L := by
  refine ⟨?_, ?_⟩
  · show (if (2 ^ L + s) / 2 ^ L % 2 = 0 then blW f (2 ^ L + s) L else blW f (2 ^ L + s) L + f L) = _
    rw [blW_low L (Nat.le_refl _), if_neg]
    rw [Nat.add_div_left _ (Nat.two_pow_pos L), Nat.div_eq_of_lt hs]
    decide
  · show (if s / 2 ^ L % 2 = 0 then blW f s L else blW f s L + f L) = _
    rw [Nat.div_eq_of_lt hs, if_pos (by decide)]
theorem put_at (σ : Sg) (L : Nat) (w g p : Int32) : ∀ n, n ≤ 2 ^ L → ∀ s' a j, (itF (cPtS L w g p) n σ).1 s' a j = if s' = 10 ∧ 1 ≤ a ∧ a ≤ 3 ∧ 2 ^ L ≤ j ∧ j < 2 ^ L + n then σ.1 10 a (j - 2 ^ L) + (if a = 1 then w else if a = 2 then g * w else p) else σ.1 s' a j
  | 0, _, s', a, j => by
    rw [if_neg (by omega)]
    rfl
  | n + 1, hn, s', a, j => by
    have ih := put_at σ L w g p n (by omega)
    show (cPtS L w g p n (itF (cPtS L w g p) n σ)).1 s' a j = _
    have e : ∀ b, (itF (cPtS L w g p) n σ).1 10 b n = σ.1 10 b n := fun b => by rw [ih, if_neg (by omega)]
    generalize itF (cPtS L w g p) n σ = τ at ih e
    unfold cPtS
    rw [sI_I, sI_I, sI_I, e 1, e 2, e 3, ih]
    by_cases h1 : s' = 10 ∧ a = 3 ∧ j = 2 ^ L + n
    · obtain ⟨rfl, rfl, rfl⟩ := h1
      rw [if_pos ⟨rfl, rfl, rfl⟩, if_pos (by omega), Nat.add_sub_cancel_left, if_neg (by decide), if_neg (by decide)]
    · rw [if_neg h1]
      by_cases h2 : s' = 10 ∧ a = 2 ∧ j = 2 ^ L + n
      · obtain ⟨rfl, rfl, rfl⟩ := h2
        rw [if_pos ⟨rfl, rfl, rfl⟩, if_pos (by omega), Nat.add_sub_cancel_left, if_neg (by decide), if_pos rfl]
      · rw [if_neg h2]
        by_cases h3 : s' = 10 ∧ a = 1 ∧ j = 2 ^ L + n
        · obtain ⟨rfl, rfl, rfl⟩ := h3
          rw [if_pos ⟨rfl, rfl, rfl⟩, if_pos (by omega), Nat.add_sub_cancel_left, if_pos rfl]
        · rw [if_neg h3]
          by_cases h4 : s' = 10 ∧ 1 ≤ a ∧ a ≤ 3 ∧ 2 ^ L ≤ j ∧ j < 2 ^ L + n
          · rw [if_pos h4, if_pos (show s' = 10 ∧ 1 ≤ a ∧ a ≤ 3 ∧ 2 ^ L ≤ j ∧ j < 2 ^ L + (n + 1) by omega)]
          · rw [if_neg h4, if_neg (by omega)]
theorem q_load {σ : Sg} (h : INV σ) (w g p : Int32) : ∃ L, L ≤ 10 ∧ σ.1 10 0 2 = nI L ∧ (cs_load σ L w g p).1 11 30 2 = nI L ∧ (cs_load σ L w g p).2 = σ.2 ∧ cr_load L w g p = r_load L w g p ∧ INV (s_load (cs_load σ L w g p) L w g p) := by
  have hINV := h
  obtain ⟨m, L, hI, a1, a2, a3, a4, a5, a6, a7, a8⟩ := h
  have hn := hI.1.1
  refine ⟨L, a4, a5, ?_⟩
  unfold cs_load cr_load r_load s_load
  by_cases h1 : ldOk w g p
  · have n1 := not_not_intro h1
    have n2 : ¬ (¬ inR 1 1000 w ∨ ¬ inR 0 100 g ∨ ¬ inR 0 1000 p) := fun z => z.elim (fun q => q h1.1) (fun z => z.elim (fun q => q h1.2.1) (fun q => q h1.2.2))
    by_cases h2 : L = 10
    · simp only [if_neg n1, if_pos h2, if_neg n2]
      exact ⟨a6, trivial, trivial, hINV⟩
    · simp only [if_neg n1, if_neg h2, if_neg n2]
      have pa := put_at σ L w g p (2 ^ L) (Nat.le_refl _)
      have e2 : (itF (cPtS L w g p) (2 ^ L) σ).2 = σ.2 := itF_2 (f := cPtS L w g p) (fun _ _ => rfl) σ _
      unfold cPut
      generalize itF (cPtS L w g p) (2 ^ L) σ = τ at pa e2
      have p11 : ∀ a j, τ.1 11 a j = σ.1 11 a j := fun a j => by rw [pa, if_neg (by omega)]
      refine ⟨by rw [sI_I, if_neg (by omega), p11]; exact a6, e2, trivial, ?_⟩
      generalize hρ : sI (sI (sI (sI (sI τ 10 0 2 (nI (L + 1))) 11 24 L w) 11 25 L g) 11 26 L p) 11 30 2 (nI (L + 1)) = ρ
      have er2 : ρ.2 = σ.2 := by rw [← hρ]; exact e2
      have r : ∀ a j, ¬ (a = 24 ∧ j = L) → ¬ (a = 25 ∧ j = L) → ¬ (a = 26 ∧ j = L) → ¬ (a = 30 ∧ j = 2) → ρ.1 11 a j = σ.1 11 a j := fun a j h1 h2 h3 h4 => by
        rw [← hρ, sI_I, if_neg (by omega), sI_I, if_neg (by omega), sI_I, if_neg (by omega), sI_I, if_neg (by omega), sI_I, if_neg (by omega), p11]
      have r24 : ρ.1 11 24 L = w := by rw [← hρ, sI_I, if_neg (by omega), sI_I, if_neg (by omega), sI_I, if_neg (by omega), sI_I, if_pos ⟨rfl, rfl, rfl⟩]
      have r25 : ρ.1 11 25 L = g := by rw [← hρ, sI_I, if_neg (by omega), sI_I, if_neg (by omega), sI_I, if_pos ⟨rfl, rfl, rfl⟩]
      have r26 : ρ.1 11 26 L = p := by rw [← hρ, sI_I, if_neg (by omega), sI_I, if_pos ⟨rfl, rfl, rfl⟩]
      have r30 : ρ.1 11 30 2 = nI (L + 1) := by rw [← hρ, sI_I, if_pos ⟨rfl, rfl, rfl⟩]
      have c10 : ∀ a j, ¬ (a = 0 ∧ j = 2) → ρ.1 10 a j = τ.1 10 a j := fun a j h => by
        rw [← hρ, sI_I, if_neg (by omega), sI_I, if_neg (by omega), sI_I, if_neg (by omega), sI_I, if_neg (by omega), sI_I, if_neg (by omega)]
      have c102 : ρ.1 10 0 2 = nI (L + 1) := by
        rw [← hρ, sI_I, if_neg (by omega), sI_I, if_neg (by omega), sI_I, if_neg (by omega), sI_I, if_neg (by omega), sI_I, if_pos ⟨rfl, rfl, rfl⟩]
      have cv : ∀ v, v < 10 → ρ.1 v = σ.1 v := fun v hv => by
        funext a j
        rw [← hρ, sI_I, if_neg (by omega), sI_I, if_neg (by omega), sI_I, if_neg (by omega), sI_I, if_neg (by omega), sI_I, if_neg (by omega), pa, if_neg (by omega)]
      clear hρ
      have r23 : ∀ a, a ≤ 23 → ρ.1 11 a = σ.1 11 a := fun a ha => by
        funext j
        exact r a j (by omega) (by omega) (by omega) (by omega)
      have t10 : ∀ j, τ.1 10 0 j = σ.1 10 0 j := fun j => by rw [pa, if_neg (by omega)]
      refine ⟨m, L + 1, Inv_g hI er2 cv r23 (r 30 0 (by omega) (by omega) (by omega) (by omega)), by rw [c10 0 0 (by omega), t10, er2]; exact a1, by rw [c10 0 1 (by omega), t10]; exact a2, by rw [r 30 1 (by omega) (by omega) (by omega) (by omega)]; exact a3, by omega, c102, r30, ⟨?_, ?_⟩, FRS_g a8 er2 r23⟩
      · obtain ⟨l1, -⟩ := a7
        have w0 : ∀ s, blW (ρ.1 11 24) s L = blw σ L s := fun s => blW_congr (fun k hk => r 24 k (by omega) (by omega) (by omega) (by omega))
        have g0 : ∀ s, blW (fun k => ρ.1 11 25 k * ρ.1 11 24 k) s L = blg σ L s := fun s => blW_congr (fun k hk => by rw [r 24 k (by omega) (by omega) (by omega) (by omega), r 25 k (by omega) (by omega) (by omega) (by omega)])
        have q0 : ∀ s, blW (ρ.1 11 26) s L = blp σ L s := fun s => blW_congr (fun k hk => r 26 k (by omega) (by omega) (by omega) (by omega))
        intro s hs
        rw [c10 1 s (by omega), c10 2 s (by omega), c10 3 s (by omega)]
        have hs : s < 2 ^ L + 2 ^ L := by rw [Nat.pow_succ] at hs; omega
        by_cases hlo : s < 2 ^ L
        · obtain ⟨x1, x2, x3⟩ := l1 s hlo
          rw [pa 10 1 s, if_neg (by omega), pa 10 2 s, if_neg (by omega), pa 10 3 s, if_neg (by omega), x1, x2, x3]
          show _ = blW (ρ.1 11 24) s (L + 1) ∧ _ = blW (fun k => ρ.1 11 25 k * ρ.1 11 24 k) s (L + 1) ∧ _ = blW (ρ.1 11 26) s (L + 1)
          rw [(blW_hi hlo).2, (blW_hi hlo).2, (blW_hi hlo).2, w0, g0, q0]
          exact ⟨rfl, rfl, rfl⟩
        · obtain ⟨t, rfl⟩ : ∃ t, s = 2 ^ L + t := ⟨s - 2 ^ L, by omega⟩
          have ht : t < 2 ^ L := by omega
          obtain ⟨x1, x2, x3⟩ := l1 t ht
          have z1 : τ.1 10 1 (2 ^ L + t) = blw σ L t + w := by rw [pa, if_pos (show 10 = 10 ∧ 1 ≤ 1 ∧ 1 ≤ 3 ∧ 2 ^ L ≤ 2 ^ L + t ∧ 2 ^ L + t < 2 ^ L + 2 ^ L by omega), Nat.add_sub_cancel_left, if_pos rfl, x1]
          have z2 : τ.1 10 2 (2 ^ L + t) = blg σ L t + g * w := by rw [pa, if_pos (show 10 = 10 ∧ 1 ≤ 2 ∧ 2 ≤ 3 ∧ 2 ^ L ≤ 2 ^ L + t ∧ 2 ^ L + t < 2 ^ L + 2 ^ L by omega), Nat.add_sub_cancel_left, if_neg (show ¬ 2 = 1 by decide), if_pos rfl, x2]
          have z3 : τ.1 10 3 (2 ^ L + t) = blp σ L t + p := by rw [pa, if_pos (show 10 = 10 ∧ 1 ≤ 3 ∧ 3 ≤ 3 ∧ 2 ^ L ≤ 2 ^ L + t ∧ 2 ^ L + t < 2 ^ L + 2 ^ L by omega), Nat.add_sub_cancel_left, if_neg (show ¬ 3 = 1 by decide), if_neg (show ¬ 3 = 2 by decide), x3]
          rw [z1, z2, z3]
          show _ = blW (ρ.1 11 24) (2 ^ L + t) (L + 1) ∧ _ = blW (fun k => ρ.1 11 25 k * ρ.1 11 24 k) (2 ^ L + t) (L + 1) ∧ _ = blW (ρ.1 11 26) (2 ^ L + t) (L + 1)
          rw [(blW_hi ht).1, (blW_hi ht).1, (blW_hi ht).1, w0, g0, q0, r24, r25, r26]
          exact ⟨rfl, rfl, rfl⟩
      · intro k hk
        by_cases e : k = L
        · subst e
          rw [r24, r25, r26]
          exact h1
        · rw [r 24 k (by omega) (by omega) (by omega) (by omega), r 25 k (by omega) (by omega) (by omega) (by omega), r 26 k (by omega) (by omega) (by omega) (by omega)]
          exact a7.2 k (by omega)
  · have n2 : ¬ inR 1 1000 w ∨ ¬ inR 0 100 g ∨ ¬ inR 0 1000 p := by
      by_cases z1 : inR 1 1000 w
      · by_cases z2 : inR 0 100 g
        · exact Or.inr (Or.inr (fun z3 => h1 ⟨z1, z2, z3⟩))
        · exact Or.inr (Or.inl z2)
      · exact Or.inl z1
    simp only [if_pos h1, if_pos n2]
    exact ⟨a6, trivial, trivial, hINV⟩
theorem q_unload {σ : Sg} (h : INV σ) : σ.1 10 0 2 = (sI σ 10 0 2 (nI 0)).1 11 30 2 ∧ INV (sI (sI σ 10 0 2 (nI 0)) 11 30 2 (nI 0)) := by
  obtain ⟨m, L, hI, a1, a2, a3, a4, a5, a6, a7, a8⟩ := h
  have hn := hI.1.1
  refine ⟨by rw [sI_I, if_neg (by omega), a5, a6], ?_⟩
  generalize hρ : sI (sI σ 10 0 2 (nI 0)) 11 30 2 (nI 0) = ρ
  have hIr : ∀ s a j, ρ.1 s a j = if s = 11 ∧ a = 30 ∧ j = 2 then nI 0 else if s = 10 ∧ a = 0 ∧ j = 2 then nI 0 else σ.1 s a j := fun s a j => by rw [← hρ, sI_I, sI_I]
  have er2 : ρ.2 = σ.2 := by rw [← hρ]; rfl
  have r23 : ∀ a, a ≤ 23 → ρ.1 11 a = σ.1 11 a := fun a ha => by
    funext j
    rw [hIr, if_neg (by omega), if_neg (by omega)]
  refine ⟨m, 0, Inv_g hI er2 (fun v hv => by funext a j; rw [hIr, if_neg (by omega), if_neg (by omega)]) r23 (by rw [hIr, if_neg (by omega), if_neg (by omega)]), by rw [hIr, if_neg (by omega), if_neg (by omega), er2]; exact a1, by rw [hIr, if_neg (by omega), if_neg (by omega)]; exact a2, by rw [hIr, if_neg (by omega), if_neg (by omega)]; exact a3, by omega, by rw [hIr, if_neg (by omega), if_pos ⟨rfl, rfl, rfl⟩], by rw [hIr, if_pos ⟨rfl, rfl, rfl⟩], ⟨fun s hs => ?_, fun k hk => absurd hk (by omega)⟩, FRS_g a8 er2 r23⟩
  have hs : s < 1 := hs
  obtain rfl : s = 0 := by omega
  obtain ⟨x1, x2, x3⟩ := a7.1 0 (Nat.two_pow_pos L)
  rw [hIr, if_neg (by omega), if_neg (by omega), hIr, if_neg (by omega), if_neg (by omega), hIr, if_neg (by omega), if_neg (by omega), x1, x2, x3]
  exact ⟨blW_0 _ L, blW_0 _ L, blW_0 _ L⟩
theorem q_blend {σ : Sg} (h : INV σ) (lo hi g : Int32) : ∃ L, L ≤ 10 ∧ σ.1 10 0 2 = nI L ∧ σ.1 11 30 2 = nI L ∧ cr_blend σ L lo hi g = r_blend σ L lo hi g := by
  obtain ⟨m, L, hI, a1, a2, a3, a4, a5, a6, a7, a8⟩ := h
  refine ⟨L, a4, a5, a6, ?_⟩
  have key : ∀ s, s ≤ 2 ^ L → chS σ lo hi g s = blS σ L lo hi g s := by
    intro s
    induction s with
    | zero => intro _; rfl
    | succ s ih =>
      intro hs
      obtain ⟨x1, x2, x3⟩ := a7.1 s (by omega)
      show (if σ.1 10 1 s < lo then chS σ lo hi g s else if hi < σ.1 10 1 s then chS σ lo hi g s else if σ.1 10 2 s < g * σ.1 10 1 s then chS σ lo hi g s else if (chS σ lo hi g s).1 = -1 then (nI s, σ.1 10 3 s) else if σ.1 10 3 s < (chS σ lo hi g s).2 then (nI s, σ.1 10 3 s) else chS σ lo hi g s) = _
      rw [ih (by omega), x1, x2, x3]
      rfl
  unfold cr_blend r_blend
  rw [key _ (Nat.le_refl _)]
