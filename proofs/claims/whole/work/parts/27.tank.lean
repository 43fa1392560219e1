/-! ===== tanks give ===== -/
theorem l_sum_first (f : Nat → Int32) : ∀ k, l_sum f (k + 1) = f 0 + l_sum (fun j => f (j + 1)) k
  | 0 => by
    show 0 + f 0 = f 0 + 0
    rw [Int32.zero_add, Int32.add_zero]
  | k + 1 => by
    show l_sum f (k + 1) + f (k + 1) = f 0 + (l_sum (fun j => f (j + 1)) k + f (k + 1))
    rw [l_sum_first f k, Int32.add_assoc]
theorem l_sum_rev : ∀ (k : Nat) (f : Nat → Int32), l_sum (fun j => f (k - 1 - j)) k = l_sum f k
  | 0, _ => rfl
  | k + 1, f => by
    rw [l_sum_first]
    show f (k + 1 - 1 - 0) + l_sum (fun j => f (k + 1 - 1 - (j + 1))) k = l_sum f k + f k
    rw [l_sum_congr (f := fun j => f (k + 1 - 1 - (j + 1))) (g := fun j => f (k - 1 - j)) (fun j hj => by rw [show k + 1 - 1 - (j + 1) = k - 1 - j by omega]), l_sum_rev k f, Int32.add_comm]
    rfl
theorem l_sum_cut {f : Nat → Int32} {g : Nat} : ∀ {k : Nat}, g ≤ k → (∀ j, g ≤ j → j < k → f j = 0) → l_sum f k = l_sum f g
  | 0, h, _ => by
    obtain rfl : g = 0 := by omega
    rfl
  | k + 1, h, hz => by
    by_cases e : g = k + 1
    · subst e; rfl
    · show l_sum f k + f k = _
      rw [hz k (by omega) (by omega), Int32.add_zero]
      exact l_sum_cut (by omega) (fun j h1 h2 => hz j h1 (by omega))
/-- a move of a row onto another of the same unit -/
theorem mv_wt {ρ : Sg} {i a a' : Nat} (h1 : nnR (ρ.1 i a)) (h2 : nnR (ρ.1 i a')) (hne : ¬ a = a') (hb : ∀ s, s < 2 → wt s (ρ.1 i a) + wt s (ρ.1 i a') < 2147483648) :
    (∀ k, k < 8 → (mvR ρ i a 8 i a').1 i a k = 0) ∧ nnR ((mvR ρ i a 8 i a').1 i a') ∧ (∀ s, s < 2 → wt s ((mvR ρ i a 8 i a').1 i a') = wt s (ρ.1 i a) + wt s (ρ.1 i a')) ∧ (∀ k, k < 8 → (mvR ρ i a 8 i a').1 i a' k = ρ.1 i a' k + ρ.1 i a k) ∧ ∀ b, ¬ b = a → ¬ b = a' → (mvR ρ i a 8 i a').1 i b = ρ.1 i b := by
  have e1 : (mvR ρ i a 8 i a').1 i a' = addR (ρ.1 i a) (ρ.1 i a') := by
    funext j
    unfold mvR
    rw [sR_I, if_neg (fun z => hne z.2.symm), sR_I, if_pos ⟨rfl, rfl⟩]
  obtain ⟨n1, n2, n3⟩ := addR_nn h1 h2 hb
  refine ⟨fun k hk => ?_, by rw [e1]; exact n1, fun s hs => by rw [e1]; exact n3 s hs, fun k hk => by rw [e1]; unfold addR; rw [if_pos hk], fun b hb1 hb2 => mvR_ne ρ i a 8 i a' i b (fun z => hb1 z.2) (fun z => hb2 z.2)⟩
  unfold mvR
  rw [sR_I, if_pos ⟨rfl, rfl⟩]
  exact zerR_0 (by decide) _ k hk
/-- all that lies in rows 0, 10 and N rows from B on -/
def mQ (i B N : Nat) (W : Nat → Nat) (ρ : Sg) : Prop := nnR (ρ.1 i 0) ∧ nnR (ρ.1 i 10) ∧ (∀ x, x < N → nnR (ρ.1 i (B + x))) ∧ ∀ s, s < 2 → wt s (ρ.1 i 0) + wt s (ρ.1 i 10) + nsum (fun x => wt s (ρ.1 i (B + x))) N = W s
theorem mQ_in {i B N : Nat} {W : Nat → Nat} {ρ : Sg} (hB : 10 < B) (hW : ∀ s, s < 2 → W s ≤ 140000000) (h : mQ i B N W ρ) {x : Nat} (hx : x < N) : mQ i B N W (mvR ρ i 0 8 i (B + x)) := by
  obtain ⟨a, b, c, d⟩ := h
  obtain ⟨m1, m2, m3, -, m4⟩ := mv_wt (ρ := ρ) (i := i) (a := 0) (a' := B + x) a (c x hx) (by omega) (fun s hs => by
    have h1 := d s hs
    have h2 := hW s hs
    have h3 := nsum_le (f := fun x => wt s (ρ.1 i (B + x))) hx
    omega)
  refine ⟨nnR_zero m1, by rw [m4 10 (by omega) (by omega)]; exact b, fun y hy => ?_, fun s hs => ?_⟩
  · by_cases e : y = x
    · subst e; exact m2
    · rw [m4 (B + y) (by omega) (by omega)]; exact c y hy
  · have h9 := nsum_upd (f := fun x => wt s (ρ.1 i (B + x))) (g := fun y => wt s ((mvR ρ i 0 8 i (B + x)).1 i (B + y))) hx (fun y hy => by rw [m4 (B + y) (by omega) (by omega)])
    rw [m3 s hs] at h9
    rw [wt_zero hs m1, m4 10 (by omega) (by omega)]
    have := d s hs
    omega
theorem mQ_out {i B N : Nat} {W : Nat → Nat} {ρ : Sg} (hB : 10 < B) (hW : ∀ s, s < 2 → W s ≤ 140000000) (h : mQ i B N W ρ) {x : Nat} (hx : x < N) : mQ i B N W (mvR ρ i (B + x) 8 i 10) := by
  obtain ⟨a, b, c, d⟩ := h
  obtain ⟨m1, m2, m3, -, m4⟩ := mv_wt (ρ := ρ) (i := i) (a := B + x) (a' := 10) (c x hx) b (by omega) (fun s hs => by
    have h1 := d s hs
    have h2 := hW s hs
    have h3 := nsum_le (f := fun x => wt s (ρ.1 i (B + x))) hx
    omega)
  refine ⟨by rw [m4 0 (by omega) (by omega)]; exact a, m2, fun y hy => ?_, fun s hs => ?_⟩
  · by_cases e : y = x
    · subst e; exact nnR_zero m1
    · rw [m4 (B + y) (by omega) (by omega)]; exact c y hy
  · have h9 := nsum_upd (f := fun x => wt s (ρ.1 i (B + x))) (g := fun y => wt s ((mvR ρ i (B + x) 8 i 10).1 i (B + y))) hx (fun y hy => by rw [m4 (B + y) (by omega) (by omega)])
    rw [wt_zero hs m1] at h9
    rw [m3 s hs, m4 0 (by omega) (by omega)]
    have := d s hs
    omega
theorem sA_lt (T a : Nat) : sA T a < 6 := Nat.mod_lt _ (by decide)
theorem sA_inj {T a b : Nat} (hT : T < 6) (ha : 1 ≤ a) (ha6 : a ≤ 6) (hb : 1 ≤ b) (hb6 : b ≤ 6) (h : sA T a = sA T b) : a = b := by
  unfold sA at h
  omega
theorem sA_up {T a : Nat} (hT : T < 6) (ha : 1 ≤ a) (ha6 : a ≤ 5) : sA ((T + 1) % 6) (a + 1) = sA T a := by
  unfold sA
  omega
/-- the class's rows behind a tank's giving: S by ages -/
theorem tk_cls {σ : Sg} {i T t : Nat} (hT : T < 6) (ht1 : 1 ≤ t) (ht6 : t ≤ 6) (S : Nat → Nat → Int32) (hS0 : ∀ k, k < 8 → σ.1 i (20 + sA T 6) k = 0) (hS1 : ∀ k, k < 8 → S 1 k = σ.1 i 0 k) (hS : ∀ a, 1 ≤ a → a ≤ 5 → ∀ k, k < 8 → S (a + 1) k = σ.1 i (20 + sA T a) k) :
    ∀ q, q ≤ 7 - t → (∀ k, k < 8 → (itF (cTkS i ((T + 1) % 6) t) q (cTk0 σ i ((T + 1) % 6))).1 i 0 k = 0) ∧ (∀ k, k < 8 → (itF (cTkS i ((T + 1) % 6) t) q (cTk0 σ i ((T + 1) % 6))).1 i 10 k = l_sum (fun j => S (t + j) k) q) ∧ (itF (cTkS i ((T + 1) % 6) t) q (cTk0 σ i ((T + 1) % 6))).1 i 8 4 = nI ((T + 1) % 6) ∧ ∀ a, 1 ≤ a → a ≤ 6 → ∀ k, k < 8 → (itF (cTkS i ((T + 1) % 6) t) q (cTk0 σ i ((T + 1) % 6))).1 i (20 + sA ((T + 1) % 6) a) k = if t ≤ a ∧ a < t + q then 0 else S a k := by
  have hT' : (T + 1) % 6 < 6 := Nat.mod_lt _ (by decide)
  have e16 : (T + 1) % 6 = sA T 6 := by unfold sA; omega
  have e11 : sA ((T + 1) % 6) 1 = (T + 1) % 6 := by unfold sA; omega
  intro q
  induction q with
  | zero =>
    intro _
    show (∀ k, k < 8 → (cTk0 σ i ((T + 1) % 6)).1 i 0 k = 0) ∧ (∀ k, k < 8 → (cTk0 σ i ((T + 1) % 6)).1 i 10 k = 0) ∧ (cTk0 σ i ((T + 1) % 6)).1 i 8 4 = nI ((T + 1) % 6) ∧ ∀ a, 1 ≤ a → a ≤ 6 → ∀ k, k < 8 → (cTk0 σ i ((T + 1) % 6)).1 i (20 + sA ((T + 1) % 6) a) k = if t ≤ a ∧ a < t + 0 then 0 else S a k
    unfold cTk0
    refine ⟨fun k hk => ?_, fun k hk => ?_, ?_, fun a ha1 ha6 k hk => ?_⟩
    · unfold mvR
      rw [sR_I, if_pos ⟨rfl, rfl⟩]
      exact zerR_0 (by decide) _ k hk
    · rw [mvR_ne _ i 0 8 i _ i 10 (by omega) (by omega), sI_I, if_neg (by omega), sR_I, if_pos ⟨rfl, rfl⟩]
      exact zerR_0 (by decide) _ k hk
    · rw [mvR_ne _ i 0 8 i _ i 8 (by omega) (by omega), sI_I, if_pos ⟨rfl, rfl, rfl⟩]
    · rw [if_neg (by omega)]
      by_cases e : a = 1
      · subst e
        rw [e11]
        unfold mvR
        rw [sR_I, if_neg (by omega), sR_I, if_pos ⟨rfl, rfl⟩]
        unfold addR
        rw [if_pos hk, sI_I, if_neg (by omega), sR_I, if_neg (by omega), sI_I, if_neg (by omega), sR_I, if_neg (by omega), hS1 k hk, e16, hS0 k hk, Int32.zero_add]
      · have hne : ¬ sA ((T + 1) % 6) a = (T + 1) % 6 := fun z => e (sA_inj hT' ha1 ha6 (by decide) (by decide) (z.trans e11.symm))
        rw [mvR_ne _ i 0 8 i _ i _ (by omega) (by omega), sI_I, if_neg (by omega), sR_I, if_neg (by omega)]
        obtain ⟨b, rfl⟩ : ∃ b, a = b + 1 := ⟨a - 1, by omega⟩
        rw [hS b (by omega) (by omega) k hk, sA_up hT (by omega) (by omega)]
  | succ q ih =>
    intro hq
    obtain ⟨i1, i2, i3, i4⟩ := ih (by omega)
    show (∀ k, k < 8 → (cTkS i ((T + 1) % 6) t q (itF (cTkS i ((T + 1) % 6) t) q (cTk0 σ i ((T + 1) % 6)))).1 i 0 k = 0) ∧ (∀ k, k < 8 → (cTkS i ((T + 1) % 6) t q (itF (cTkS i ((T + 1) % 6) t) q (cTk0 σ i ((T + 1) % 6)))).1 i 10 k = l_sum (fun j => S (t + j) k) q + S (t + q) k) ∧ (cTkS i ((T + 1) % 6) t q (itF (cTkS i ((T + 1) % 6) t) q (cTk0 σ i ((T + 1) % 6)))).1 i 8 4 = nI ((T + 1) % 6) ∧ ∀ a, 1 ≤ a → a ≤ 6 → ∀ k, k < 8 → (cTkS i ((T + 1) % 6) t q (itF (cTkS i ((T + 1) % 6) t) q (cTk0 σ i ((T + 1) % 6)))).1 i (20 + sA ((T + 1) % 6) a) k = if t ≤ a ∧ a < t + (q + 1) then 0 else S a k
    generalize itF (cTkS i ((T + 1) % 6) t) q (cTk0 σ i ((T + 1) % 6)) = ρ at i1 i2 i3 i4 ⊢
    have es : cTkS i ((T + 1) % 6) t q ρ = mvR ρ i (20 + sA ((T + 1) % 6) (t + q)) 8 i 10 := rfl
    rw [es]
    have hl := sA_lt ((T + 1) % 6) (t + q)
    refine ⟨fun k hk => ?_, fun k hk => ?_, ?_, fun a ha1 ha6 k hk => ?_⟩
    · rw [mvR_ne _ i _ 8 i _ i 0 (by omega) (by omega)]
      exact i1 k hk
    · unfold mvR
      rw [sR_I, if_neg (by omega), sR_I, if_pos ⟨rfl, rfl⟩]
      unfold addR
      rw [if_pos hk, i2 k hk, i4 (t + q) (by omega) (by omega) k hk, if_neg (by omega)]
    · rw [mvR_ne _ i _ 8 i _ i 8 (by omega) (by omega)]
      exact i3
    · have hla := sA_lt ((T + 1) % 6) a
      by_cases e : a = t + q
      · subst e
        unfold mvR
        rw [sR_I, if_pos ⟨rfl, rfl⟩, if_pos (by omega)]
        exact zerR_0 (by decide) _ k hk
      · have hne : ¬ sA ((T + 1) % 6) a = sA ((T + 1) % 6) (t + q) := fun z => e (sA_inj hT' ha1 ha6 (by omega) (by omega) z)
        rw [mvR_ne _ i _ 8 i _ i _ (by omega) (by omega), i4 a ha1 ha6 k hk]
        by_cases h2 : t ≤ a ∧ a < t + q
        · rw [if_pos h2, if_pos (by omega)]
        · rw [if_neg h2, if_neg (by omega)]
/-- the reference's rows: B by places -/
def tkI (u K t : Nat) (B : Nat → Nat → Int32) (n : Nat) (p : Sg × Nat) : Prop :=
  p.2 = n - (K + 2 - t) ∧ (∀ k, k < 8 → p.1.1 11 18 ((2 * u + 0) * 8 + k) = l_sum (fun j => B j k) (min n (K + 2 - t))) ∧ (∀ j, j < n - (K + 2 - t) → p.1.1 11 15 (7 * u + j) = nI (K - (j + (K + 2 - t)) + 1) ∧ ∀ k, k < 8 → p.1.1 11 14 ((7 * u + j) * 8 + k) = B (j + (K + 2 - t)) k) ∧ (∀ j, n ≤ j → j ≤ K → p.1.1 11 15 (7 * u + j) = nI (K - j) ∧ ∀ k, k < 8 → p.1.1 11 14 ((7 * u + j) * 8 + k) = B j k) ∧ p.1.1 11 7 u = nI t
theorem tk_ref {u K t : Nat} (hK : K ≤ 5) (ht1 : 1 ≤ t) (ht6 : t ≤ 6) {B : Nat → Nat → Int32} {ρ : Sg} (h0 : ∀ k, k < 8 → ρ.1 11 18 ((2 * u + 0) * 8 + k) = 0) (hA : ∀ j, j ≤ K → ρ.1 11 15 (7 * u + j) = nI (K - j) ∧ ∀ k, k < 8 → ρ.1 11 14 ((7 * u + j) * 8 + k) = B j k) (h7 : ρ.1 11 7 u = nI t) : ∀ n, n ≤ K + 1 → tkI u K t B n (tkL u n ρ)
  | 0, _ => by
    refine ⟨by show 0 = 0 - (K + 2 - t); omega, fun k hk => ?_, fun j hj => absurd hj (by omega), fun j _ hj => hA j hj, h7⟩
    rw [Nat.zero_min]
    exact h0 k hk
  | n + 1, hn => by
    obtain ⟨i1, i2, i3, i4, i5⟩ := tk_ref hK ht1 ht6 h0 hA h7 n (by omega)
    show tkI u K t B (n + 1) (tkS u n (tkL u n ρ))
    generalize tkL u n ρ = p at i1 i2 i3 i4 i5
    obtain ⟨pa, pb⟩ := i4 n (Nat.le_refl _) (by omega)
    unfold tkS
    rw [pa, i5, show nI (K - n) + nI 1 = nI (K - n + 1) from nI_add _ _]
    by_cases hg : K - n + 1 < t
    · rw [if_pos (nI_lt hg (by omega))]
      have eW : itF (tkMv u n p.2) 8 p.1 = sW p.1 14 ((7 * u + p.2) * 8) 8 (fun c => p.1.1 11 14 ((7 * u + n) * 8 + c)) := itF_sW (f := tkMv u n p.2) 14 ((7 * u + p.2) * 8) (fun c τ => τ.1 11 14 ((7 * u + n) * 8 + c)) (fun _ _ => rfl) p.1 8 (fun c hc => sW_out _ _ _ _ _ (by omega))
      refine ⟨by show p.2 + 1 = n + 1 - (K + 2 - t); omega, fun k hk => ?_, fun j hj => ?_, fun j hj hjK => ?_, ?_⟩
      · show (sI (itF (tkMv u n p.2) 8 p.1) 11 15 (7 * u + p.2) (nI (K - n + 1))).1 11 18 _ = _
        rw [sI_I, if_neg (by omega), eW, sW_out _ _ _ _ _ (by omega), i2 k hk, show min (n + 1) (K + 2 - t) = min n (K + 2 - t) by omega]
      · show (sI (itF (tkMv u n p.2) 8 p.1) 11 15 (7 * u + p.2) (nI (K - n + 1))).1 11 15 _ = _ ∧ ∀ k, k < 8 → (sI (itF (tkMv u n p.2) 8 p.1) 11 15 (7 * u + p.2) (nI (K - n + 1))).1 11 14 _ = _
        by_cases e : j = n - (K + 2 - t)
        · have e2 : j + (K + 2 - t) = n := by omega
          refine ⟨?_, fun k hk => ?_⟩
          · rw [sI_I, if_pos ⟨rfl, rfl, by omega⟩, e2]
          · rw [sI_I, if_neg (by omega), eW, show (7 * u + j) * 8 + k = (7 * u + p.2) * 8 + k by omega, sW_in _ _ _ _ _ hk, e2]
            exact pb k hk
        · obtain ⟨q1, q2⟩ := i3 j (by omega)
          refine ⟨?_, fun k hk => ?_⟩
          · rw [sI_I, if_neg (by omega), eW, sW_out _ _ _ _ _ (by omega)]
            exact q1
          · rw [sI_I, if_neg (by omega), eW, sW_out _ _ _ _ _ (by omega)]
            exact q2 k hk
      · obtain ⟨q1, q2⟩ := i4 j (by omega) hjK
        refine ⟨?_, fun k hk => ?_⟩
        · show (sI (itF (tkMv u n p.2) 8 p.1) 11 15 (7 * u + p.2) (nI (K - n + 1))).1 11 15 _ = _
          rw [sI_I, if_neg (by omega), eW, sW_out _ _ _ _ _ (by omega)]
          exact q1
        · show (sI (itF (tkMv u n p.2) 8 p.1) 11 15 (7 * u + p.2) (nI (K - n + 1))).1 11 14 _ = _
          rw [sI_I, if_neg (by omega), eW, sW_out _ _ _ _ _ (by omega)]
          exact q2 k hk
      · show (sI (itF (tkMv u n p.2) 8 p.1) 11 15 (7 * u + p.2) (nI (K - n + 1))).1 11 7 _ = _
        rw [sI_I, if_neg (by omega), eW, sW_out _ _ _ _ _ (by omega)]
        exact i5
    · rw [if_neg (nI_nlt (by omega) (by omega))]
      have eW : itF (tkOut u n) 8 p.1 = sW p.1 18 ((2 * u + 0) * 8) 8 (fun c => p.1.1 11 18 ((2 * u + 0) * 8 + c) + p.1.1 11 14 ((7 * u + n) * 8 + c)) := itF_sW (f := tkOut u n) 18 ((2 * u + 0) * 8) (fun c τ => τ.1 11 18 ((2 * u + 0) * 8 + c) + τ.1 11 14 ((7 * u + n) * 8 + c)) (fun _ _ => rfl) p.1 8 (fun c hc => by
        show (sW _ _ _ _ _).1 11 18 _ + (sW _ _ _ _ _).1 11 14 _ = _
        rw [sW_out _ _ _ _ _ (by omega), sW_out _ _ _ _ _ (by omega)])
      refine ⟨by show p.2 = n + 1 - (K + 2 - t); omega, fun k hk => ?_, fun j hj => absurd hj (by omega), fun j hj hjK => ?_, ?_⟩
      · show (itF (tkOut u n) 8 p.1).1 11 18 _ = _
        rw [eW, sW_in _ _ _ _ _ hk, i2 k hk, pb k hk, show min n (K + 2 - t) = n by omega, show min (n + 1) (K + 2 - t) = n + 1 by omega]
        rfl
      · obtain ⟨q1, q2⟩ := i4 j (by omega) hjK
        refine ⟨?_, fun k hk => ?_⟩
        · show (itF (tkOut u n) 8 p.1).1 11 15 _ = _
          rw [eW, sW_out _ _ _ _ _ (by omega)]
          exact q1
        · show (itF (tkOut u n) 8 p.1).1 11 14 _ = _
          rw [eW, sW_out _ _ _ _ _ (by omega)]
          exact q2 k hk
      · show (itF (tkOut u n) 8 p.1).1 11 7 _ = _
        rw [eW, sW_out _ _ _ _ _ (by omega)]
        exact i5
theorem rM14 (τ : Sg) (u j k : Nat) (hj : j < 7) (hk : k < 8) : rM τ u 14 (8 * j + k) = τ.1 11 14 ((7 * u + j) * 8 + k) := by
  rw [rM_at τ u 14 _ (show 8 * j + k < 56 by omega), show (7 * u + j) * 8 + k = wd 14 * u + (8 * j + k) from by show _ = 56 * u + _; omega]
theorem rM15 (τ : Sg) (u j : Nat) (hj : j < 7) : rM τ u 15 j = τ.1 11 15 (7 * u + j) := rM_at τ u 15 j hj
/-- the second port is not touched -/
theorem tk_out2 (u : Nat) (σ : Sg) (k : Nat) : ∀ n, (tkL u n σ).1.1 11 18 ((2 * u + 1) * 8 + k) = σ.1 11 18 ((2 * u + 1) * 8 + k)
  | 0 => rfl
  | n + 1 => by
    have ih := tk_out2 u σ k n
    show (tkS u n (tkL u n σ)).1.1 11 18 _ = _
    unfold tkS
    split
    · rw [← ih]
      show (sI (itF (tkMv u n (tkL u n σ).2) 8 (tkL u n σ).1) 11 15 _ _).1 11 18 _ = _
      rw [sI_I, if_neg (by omega)]
      exact congrFun (itF_row (f := tkMv u n (tkL u n σ).2) (fun τ => τ.1 11 18) (fun c τ => by funext j; unfold tkMv; rw [sI_I, if_neg (by omega)]) _ 8) _
    · rw [← ih]
      have key : ∀ m, m ≤ 8 → (itF (tkOut u n) m (tkL u n σ).1).1 11 18 ((2 * u + 1) * 8 + k) = (tkL u n σ).1.1 11 18 ((2 * u + 1) * 8 + k) := by
        intro m
        induction m with
        | zero => intro _; rfl
        | succ m ihm =>
          intro hm
          show (tkOut u n m (itF (tkOut u n) m (tkL u n σ).1)).1 11 18 _ = _
          unfold tkOut at ihm ⊢
          rw [sI_I, if_neg (by omega)]
          exact ihm (by omega)
      exact key 8 (Nat.le_refl _)
set_option maxHeartbeats 1000000 in
theorem give_5 {σ τ : Sg} {i : Nat} (hi : gIn 5 (σ.1 i) (rM τ i)) : gOut 5 (σ.1 i) ((cTank σ i (tn (σ.1 i 8 4)) (tn (σ.1 i 3 0))).1 i) (rM (mTank τ i (tn (τ.1 11 13 i))) i) := by
  obtain ⟨hS, hN, hD, hH, hz, hn, hb, -⟩ := hi
  obtain ⟨T, K, hT, hK, eT, eK, hAge, hSl, hZe⟩ := hD.2.2.2.1 rfl
  obtain ⟨t, ht1, ht6, et⟩ := inR_of (by decide) (by decide) (hN.2.2.2.1 rfl)
  have e7 : τ.1 11 7 i = nI t := by
    rw [← rM1 τ i 7 rfl, hS.2.2.2.2.1 rfl]
    exact et
  have eK' : τ.1 11 13 i = nI K := by rw [← rM1 τ i 13 rfl]; exact eK
  rw [eT, et, eK', tn_nI (by omega), tn_nI (by omega), tn_nI (by omega)]
  have frI := frx_tank σ i T t hT
  -- what lies there by ages, as the minute has come
  let S : Nat → Nat → Int32 := fun a k => if a = 1 then σ.1 i 0 k else σ.1 i (20 + sA T (a - 1)) k
  have hS1 : ∀ k, k < 8 → S 1 k = σ.1 i 0 k := fun k _ => rfl
  have hSa : ∀ a, 1 ≤ a → a ≤ 5 → ∀ k, k < 8 → S (a + 1) k = σ.1 i (20 + sA T a) k := fun a h1 h2 k _ => by
    show (if a + 1 = 1 then σ.1 i 0 k else σ.1 i (20 + sA T (a + 1 - 1)) k) = _
    rw [if_neg (by omega), Nat.add_sub_cancel]
  have hS0 : ∀ k, k < 8 → σ.1 i (20 + sA T 6) k = 0 := fun k hk => hZe 6 (by omega) (by decide) k hk
  have hSz : ∀ a, K + 1 < a → a ≤ 6 → ∀ k, k < 8 → S a k = 0 := fun a h1 h2 k hk => by
    show (if a = 1 then σ.1 i 0 k else σ.1 i (20 + sA T (a - 1)) k) = 0
    rw [if_neg (by omega)]
    exact hZe (a - 1) (by omega) (by omega) k hk
  obtain ⟨c0, c10, c84, cS⟩ := tk_cls hT ht1 ht6 S hS0 hS1 hSa (7 - t) (Nat.le_refl _)
  have cS : ∀ a, 1 ≤ a → a ≤ 6 → ∀ k, k < 8 → (cTank σ i T t).1 i (20 + sA ((T + 1) % 6) a) k = if t ≤ a then 0 else S a k := by
    intro a h1 h2 k hk
    unfold cTank
    rw [cS a h1 h2 k hk]
    by_cases h : t ≤ a
    · rw [if_pos (by omega), if_pos h]
    · rw [if_neg (by omega), if_neg h]
  have c0 : ∀ k, k < 8 → (cTank σ i T t).1 i 0 k = 0 := c0
  have c10 : ∀ k, k < 8 → (cTank σ i T t).1 i 10 k = l_sum (fun j => S (t + j) k) (7 - t) := c10
  have c84 : (cTank σ i T t).1 i 8 4 = nI ((T + 1) % 6) := c84
  -- the reference
  let B : Nat → Nat → Int32 := fun j k => S (K + 1 - j) k
  have eA : itF (tkA i K) 8 τ = sW τ 14 ((7 * i + K) * 8) 8 (fun c => τ.1 11 2 (8 * i + c)) := itF_sW (f := tkA i K) 14 ((7 * i + K) * 8) (fun c τ => τ.1 11 2 (8 * i + c)) (fun _ _ => rfl) τ 8 (fun c hc => sW_out _ _ _ _ _ (by omega))
  have eB : ∀ a j, ¬ a = 13 → ¬ a = 15 → (tkB τ i K).1 11 a j = (sW τ 14 ((7 * i + K) * 8) 8 (fun c => τ.1 11 2 (8 * i + c))).1 11 a j := by
    intro a j h13 h15
    unfold tkB
    rw [sI_I, if_neg (by omega), sI_I, if_neg (by omega), eA]
  have hAB : ∀ j, j ≤ K → (tkB τ i K).1 11 15 (7 * i + j) = nI (K - j) ∧ ∀ k, k < 8 → (tkB τ i K).1 11 14 ((7 * i + j) * 8 + k) = B j k := by
    intro j hj
    refine ⟨?_, fun k hk => ?_⟩
    · unfold tkB
      rw [sI_I, if_neg (by omega), sI_I]
      by_cases e : j = K
      · rw [if_pos ⟨rfl, rfl, by omega⟩, e, Nat.sub_self]
      · rw [if_neg (by omega), eA, sW_out _ _ _ _ _ (by omega), ← rM15 τ i j (by omega)]
        exact hAge j (by omega)
    · rw [eB 14 _ (by decide) (by decide)]
      by_cases e : j = K
      · subst e
        rw [sW_in _ _ _ _ _ hk, ← rM2 τ i k hk, hH k hk]
        show _ = S (j + 1 - j) k
        rw [show j + 1 - j = 1 by omega]
        rfl
      · rw [sW_out _ _ _ _ _ (by omega), ← rM14 τ i j k (by omega) hk, hSl j (by omega) k hk]
        show _ = S (K + 1 - j) k
        rw [show K + 1 - j = (K - j) + 1 by omega]
        exact (hSa (K - j) (by omega) (by omega) k hk).symm
  have main := tk_ref (u := i) (B := B) hK ht1 ht6 (ρ := tkB τ i K) (fun k hk => by
    rw [eB 18 _ (by decide) (by decide), sW_out _ _ _ _ _ (by omega), ← rM18 τ i 0 k (by decide) hk]
    exact hz _ (by omega)) hAB (by rw [eB 7 _ (by decide) (by decide), sW_out _ _ _ _ _ (by omega)]; exact e7) (K + 1) (Nat.le_refl _)
  obtain ⟨j1, j2, j3, -, -⟩ := main
  have out2 := fun k => tk_out2 i (tkB τ i K) k (K + 1)
  have eM : ∀ a j, ¬ a = 13 → (mTank τ i K).1 11 a j = (tkL i (K + 1) (tkB τ i K)).1.1 11 a j := by
    intro a j h
    unfold mTank
    rw [sI_I, if_neg (by omega)]
  have eM13 : (mTank τ i K).1 11 13 i = nI (K + 1 - (K + 2 - t)) := by
    unfold mTank
    rw [sI_I, if_pos ⟨rfl, rfl, rfl⟩, j1]
  have outEq : ∀ k, k < 8 → l_sum (fun j => B j k) (min (K + 1) (K + 2 - t)) = l_sum (fun j => S (t + j) k) (7 - t) := by
    intro k hk
    rw [l_sum_cut (f := fun j => S (t + j) k) (g := K + 2 - t) (k := 7 - t) (by omega) (fun j h1 h2 => hSz (t + j) (by omega) (by omega) k hk), show min (K + 1) (K + 2 - t) = K + 2 - t by omega, ← l_sum_rev (K + 2 - t) (fun j => S (t + j) k)]
    refine l_sum_congr (fun j hj => ?_)
    show S (K + 1 - j) k = S (t + (K + 2 - t - 1 - j)) k
    rw [show t + (K + 2 - t - 1 - j) = K + 1 - j by omega]
  -- weights
  have hW : ∀ s, s < 2 → wt s (σ.1 i 0) + nsum (fun x => wt s (σ.1 i (20 + x))) 6 ≤ 140000000 := by
    intro s hs
    have := hb s hs
    have e : uMs 5 (σ.1 i) s = wt s (σ.1 i 0) + wt s (σ.1 i 1) + nsum (fun x => wt s (σ.1 i (20 + x))) 6 := rfl
    omega
  have q0 : mQ i 20 6 (fun s => wt s (σ.1 i 0) + nsum (fun x => wt s (σ.1 i (20 + x))) 6) (sI (sR σ i 10 (zerR 8 (σ.1 i 10))) i 8 4 (nI ((T + 1) % 6))) := by
    have z10 : ∀ k, k < 8 → (sI (sR σ i 10 (zerR 8 (σ.1 i 10))) i 8 4 (nI ((T + 1) % 6))).1 i 10 k = 0 := fun k hk => by
      rw [sI_I, if_neg (by omega), sR_I, if_pos ⟨rfl, rfl⟩]
      exact zerR_0 (by decide) _ k hk
    have ee : ∀ a, ¬ a = 10 → ¬ a = 8 → (sI (sR σ i 10 (zerR 8 (σ.1 i 10))) i 8 4 (nI ((T + 1) % 6))).1 i a = σ.1 i a := fun a h1 h2 => by
      funext j
      rw [sI_I, if_neg (by omega), sR_I, if_neg (by omega)]
    refine ⟨by rw [ee 0 (by decide) (by decide)]; exact hn.1, nnR_zero z10, fun x hx => by rw [ee (20 + x) (by omega) (by omega)]; exact hn.2.2.1 rfl x hx, fun s hs => ?_⟩
    rw [ee 0 (by decide) (by decide), wt_zero hs z10, nsum_congr (f := fun x => wt s ((sI (sR σ i 10 (zerR 8 (σ.1 i 10))) i 8 4 (nI ((T + 1) % 6))).1 i (20 + x))) (g := fun x => wt s (σ.1 i (20 + x))) (fun x hx => by rw [ee (20 + x) (by omega) (by omega)])]
    rfl
  have q1 : mQ i 20 6 (fun s => wt s (σ.1 i 0) + nsum (fun x => wt s (σ.1 i (20 + x))) 6) (cTank σ i T t) := by
    unfold cTank
    refine it1I (cTkS i ((T + 1) % 6) t) (7 - t) (fun _ ρ => mQ i 20 6 (fun s => wt s (σ.1 i 0) + nsum (fun x => wt s (σ.1 i (20 + x))) 6) ρ) (fun q ρ hq h => ?_) ?_ (7 - t) (Nat.le_refl _)
    · exact mQ_out (by decide) hW h (sA_lt _ _)
    · exact mQ_in (by decide) hW q0 (Nat.mod_lt _ (by decide))
  have c1 : (cTank σ i T t).1 i 1 = σ.1 i 1 := by funext j; exact frI.1 i 1 j (by unfold xT; omega)
  have r18 : ∀ k, k < 8 → rM (mTank τ i K) i 18 (8 * 0 + k) = (cTank σ i T t).1 i 10 k := by
    intro k hk
    rw [rM18 _ i 0 k (by decide) hk, eM 18 _ (by decide), j2 k hk, outEq k hk, c10 k hk]
  refine ⟨fun _ => c0, fun p hp k hk => ?_, fun p hp => ?_, ⟨q1.1, by rw [c1]; exact hn.2.1, fun _ => q1.2.2.1, fun z => absurd z (by decide)⟩, ?_, fun s hs => ?_⟩
  · by_cases hp0 : p = 0
    · subst hp0
      rw [if_pos (by decide)]
      exact r18 k hk
    · obtain rfl : p = 1 := by omega
      rw [if_neg (by decide), rM18 _ i 1 k (by decide) hk, eM 18 _ (by decide), out2, eB 18 _ (by decide) (by decide), sW_out _ _ _ _ _ (by omega), ← rM18 τ i 1 k (by decide) hk]
      exact hz _ (by omega)
  · obtain rfl : p = 0 := by have : p < 1 := hp; omega
    exact q1.2.1
  · have fw := fr_mTank τ i K
    refine ⟨fun z => absurd z (by decide), fun _ => ?_, fun z => absurd z (by decide), fun _ => ⟨(T + 1) % 6, K + 1 - (K + 2 - t), Nat.mod_lt _ (by decide), by omega, c84, ?_, fun j hj => ?_, fun j hj k hk => ?_, fun a ha ha6 k hk => ?_⟩, fun z => absurd rfl z, fun z => absurd z (by decide), fun _ => ?_⟩
    · rw [rM1 _ i 12 rfl, fw.1 11 12 i (by unfold tS; omega), ← rM1 τ i 12 rfl]
      exact hD.2.1 (by decide)
    · rw [rM1 _ i 13 rfl]
      exact eM13
    · rw [rM15 _ i j (by omega), eM 15 _ (by decide), (j3 j hj).1]
      congr 1
      omega
    · rw [rM14 _ i j k (by omega) hk, eM 14 _ (by decide), (j3 j hj).2 k hk]
      rw [cS (K + 1 - (K + 2 - t) - j) (by omega) (by omega) k hk, if_neg (by omega)]
      show S (K + 1 - (j + (K + 2 - t))) k = _
      rw [show K + 1 - (j + (K + 2 - t)) = K + 1 - (K + 2 - t) - j by omega]
    · rw [cS a (by omega) ha6 k hk]
      by_cases h : t ≤ a
      · rw [if_pos h]
      · rw [if_neg h]
        exact hSz a (by omega) ha6 k hk
    · rw [rM1 _ i 16 rfl, fw.1 11 16 i (by unfold tS; omega), ← rM1 τ i 16 rfl]
      exact hD.2.2.2.2.2.2 (by decide)
  · show wt s ((cTank σ i T t).1 i 0) + wt s ((cTank σ i T t).1 i 1) + nsum (fun x => wt s ((cTank σ i T t).1 i (20 + x))) 6 + (0 + wt s ((cTank σ i T t).1 i 10)) ≤ wt s (σ.1 i 0) + wt s (σ.1 i 1) + nsum (fun x => wt s (σ.1 i (20 + x))) 6 + 4000
    have : wt s ((cTank σ i T t).1 i 0) + wt s ((cTank σ i T t).1 i 10) + nsum (fun x => wt s ((cTank σ i T t).1 i (20 + x))) 6 = wt s (σ.1 i 0) + nsum (fun x => wt s (σ.1 i (20 + x))) 6 := q1.2.2.2 s hs
    rw [c1]
    omega
