/-! ===== a minute keeps class and reference together ===== -/
theorem uS_of {κ : Nat} {c r c' r' : Nat → Nat → Int32} (h : uS κ c r) (hc : ∀ a, 2 ≤ a → a ≤ 5 → c' a = c a) (h8 : ∀ j, 1 ≤ j → j ≤ 3 → c' 8 j = c 8 j) (hr : ∀ a, ¬ (a = 2 ∨ a = 6 ∨ (12 ≤ a ∧ a ≤ 21) ∨ 24 ≤ a) → r' a = r a) : uS κ c' r' := by
  obtain ⟨a1, a2, a3, a4, a5, a6, a7, a8⟩ := h
  unfold uS
  rw [hr 1 (by omega), hr 3 (by omega), hr 4 (by omega), hr 5 (by omega), hr 7 (by omega), hr 8 (by omega), hr 22 (by omega), hr 23 (by omega), hr 9 (by omega), hr 10 (by omega), hr 11 (by omega), hc 2 (by omega) (by omega), hc 3 (by omega) (by omega), hc 4 (by omega) (by omega), hc 5 (by omega) (by omega), h8 1 (by omega) (by omega), h8 2 (by omega) (by omega), h8 3 (by omega) (by omega)]
  exact ⟨a1, a2, a3, a4, a5, a6, a7, a8⟩
theorem uN_of {κ : Nat} {c c' : Nat → Nat → Int32} (h : uN κ c) (hc : ∀ a, 2 ≤ a → a ≤ 5 → c' a = c a) : uN κ c' := by
  unfold uN
  rw [hc 3 (by omega) (by omega), hc 4 (by omega) (by omega), hc 5 (by omega) (by omega)]
  exact h
theorem uT_of {c r c' r' : Nat → Nat → Int32} {T K : Nat} (h : uT c r T K) (h4 : c' 8 4 = c 8 4) (hc : ∀ a, 20 ≤ a → a < 60 → ∀ k, k < 8 → c' a k = c a k) (hr : ∀ a, 13 ≤ a → a ≤ 17 → r' a = r a) : uT c' r' T K := by
  obtain ⟨a1, a2, a3, a4, a5, a6, a7⟩ := h
  refine ⟨a1, a2, by rw [h4]; exact a3, by rw [hr 13 (by omega) (by omega)]; exact a4, fun i hi => by rw [hr 15 (by omega) (by omega)]; exact a5 i hi, fun i hi k hk => ?_, fun a ha ha6 k hk => ?_⟩
  · have := sA_lt T (K - i)
    rw [hr 14 (by omega) (by omega), hc _ (by omega) (by omega) k hk]
    exact a6 i hi k hk
  · have := sA_lt T a
    rw [hc _ (by omega) (by omega) k hk]
    exact a7 a ha ha6 k hk
theorem uP_of {c r c' r' : Nat → Nat → Int32} {F L : Nat} (h : uP c r F L) (h5 : c' 8 5 = c 8 5) (h6 : c' 8 6 = c 8 6) (hc : ∀ a, 20 ≤ a → a < 60 → ∀ k, k < 8 → c' a k = c a k) (hr : ∀ a, 13 ≤ a → a ≤ 17 → r' a = r a) : uP c' r' F L := by
  obtain ⟨a1, a2, a3, a4, a5, a6, a7⟩ := h
  exact ⟨a1, a2, by rw [h5]; exact a3, by rw [h6]; exact a4, by rw [hr 16 (by omega) (by omega)]; exact a5, fun k hk j hj => by rw [hr 17 (by omega) (by omega), hc _ (by omega) (by omega) j hj]; exact a6 k hk j hj, fun k hk hk2 j hj => by rw [hc _ (by omega) (by omega) j hj]; exact a7 k hk hk2 j hj⟩
theorem uD_of {κ : Nat} {c r c' r' : Nat → Nat → Int32} (h : uD κ c r) (h12 : κ = 0 → r' 12 0 = c' 8 0 ∧ (c' 8 0 = nI 0 ∨ c' 8 0 = nI 1)) (h12' : ¬ κ = 0 → r' 12 0 = r 12 0) (h8 : ∀ j, 4 ≤ j → c' 8 j = c 8 j) (hc7 : ∀ k, k < 8 → c' 7 k = c 7 k) (hc : ∀ a, 20 ≤ a → a < 60 → ∀ k, k < 8 → c' a k = c a k) (hr6 : r' 6 = r 6) (hr : ∀ a, 13 ≤ a → a ≤ 17 → r' a = r a) : uD κ c' r' := by
  obtain ⟨a1, a2, a3, a4, a5, a6, a7⟩ := h
  refine ⟨h12, fun z => by rw [h12' z]; exact a2 z, fun z k hk => by rw [hr6, hc7 k hk]; exact a3 z k hk, fun z => ?_, fun z => by rw [hr 13 (by omega) (by omega)]; exact a5 z, fun z => ?_, fun z => by rw [hr 16 (by omega) (by omega)]; exact a7 z⟩
  · obtain ⟨T, K, hU⟩ := a4 z
    exact ⟨T, K, uT_of hU (h8 4 (by omega)) hc hr⟩
  · obtain ⟨F, L, hU⟩ := a6 z
    exact ⟨F, L, uP_of hU (h8 5 (by omega)) (h8 6 (by omega)) hc hr⟩
/-- all that holds of a unit between calls -/
def uA (n : Nat) (κs : Nat → Nat) (κ : Nat) (c r : Nat → Nat → Int32) (rl : Nat → Nat → Int64) (m : Nat) : Prop :=
  uS κ c r ∧ uN κ c ∧ uD κ c r ∧ uH c r ∧ uG κ c r ∧ uX κ c rl ∧ uNn κ c ∧ (∀ p, p < upt κ → c 2 p = -1 ∨ ∃ d, d < n ∧ c 2 p = nI d ∧ ¬ κs d = 0) ∧ (κ = 0 → c 8 1 = -1 ∨ ∃ d, d < n ∧ c 8 1 = nI d) ∧ (¬ κ = 0 → r 9 0 = -1) ∧ (κ = 0 → ∀ s, s < 2 → ¬ c 6 s < 0 ∧ tn (c 6 s) ≤ 4000 * m) ∧ (κ = 0 → ∀ k, k < 8 → c 0 k = 0)
def Inv (m : Nat) (σ τ : Sg) : Prop := KW σ ∧ τ.2.2 = σ.2.2 ∧ MW τ ∧ m ≤ 3000 ∧ (∀ v, v < σ.2.2.2 → uA σ.2.2.2 σ.2.2.1 (σ.2.2.1 v) (σ.1 v) (rM τ v) (rL τ v) m) ∧ (∀ s, s < 2 → MT σ.2.2.2 σ.2.2.1 σ s ≤ 40000 * m) ∧ ∀ s, s < 2 → τ.2.1 19 s = fdS σ s σ.2.2.2
theorem rM_row {τ τ' : Sg} {a : Nat} (h : ∀ j, τ'.1 11 a j = τ.1 11 a j) (v : Nat) : rM τ' v a = rM τ v a := by
  funext k
  unfold rM
  rw [h]
theorem rL_row {τ τ' : Sg} (h20 : τ'.2.1 20 = τ.2.1 20) (h21 : τ'.2.1 21 = τ.2.1 21) (v : Nat) : rL τ' v = rL τ v := by
  funext a k
  unfold rL
  rw [h20, h21]
theorem Inv.MG {m : Nat} {σ τ : Sg} (h : Inv m σ τ) : MG τ := by
  obtain ⟨hw, e2, hmw, -, hu, -, -⟩ := h
  refine ⟨hmw, fun u hu' => ?_⟩
  have en : τ.2.2.2 = σ.2.2.2 := by rw [e2]
  rw [en] at hu' ⊢
  obtain ⟨hS, hN, hD, -, -, -, -, hL, hC, hB, -, -⟩ := hu u hu'
  obtain ⟨⟨K, hK, eK⟩, L, hL2, eL⟩ := kl_of hD
  refine ⟨⟨K, by omega, eK⟩, ⟨L, hL2, eL⟩, fun p hp => ?_, ?_⟩
  · have e := hS.1 p hp
    rw [rM_at τ u 1 p hp] at e
    have e : τ.1 11 1 (2 * u + p) = if p < upt (σ.2.2.1 u) then σ.1 u 2 p else -1 := e
    rw [e]
    by_cases h : p < upt (σ.2.2.1 u)
    · rw [if_pos h]
      rcases hL p h with q | ⟨d, hd, q, -⟩
      · exact Or.inl (by rw [q]; decide)
      · exact Or.inr ⟨d, hd, q⟩
    · rw [if_neg h]
      exact Or.inl (by decide)
  · by_cases h0 : σ.2.2.1 u = 0
    · have e := (hS.2.2.2.2.2.2.2 h0).1
      rw [rM1 τ u 9 rfl] at e
      rw [e]
      rcases hC h0 with q | ⟨d, hd, q⟩
      · exact Or.inl (by rw [q]; decide)
      · exact Or.inr ⟨d, hd, q⟩
    · have e := hB h0
      rw [rM1 τ u 9 rfl] at e
      exact Or.inl (by rw [e]; decide)
theorem Inv.GW {m : Nat} {σ τ : Sg} (h : Inv m σ τ) : ∀ u, u < σ.2.2.2 → GW σ u := by
  intro u hu
  obtain ⟨hS, hN, hD, -⟩ := h.2.2.2.2.1 u hu
  refine ⟨fun h5 => ?_, fun h6 => ?_⟩
  · obtain ⟨T, K, hT, hK, eT, -⟩ := hD.2.2.2.1 h5
    obtain ⟨t, h1, h2, e⟩ := inR_of (by decide) (by decide) (hN.2.2.2.1 h5)
    exact ⟨⟨T, hT, eT⟩, t, h1, h2, e⟩
  · obtain ⟨F, L, hF, hL, eF, eL, -⟩ := hD.2.2.2.2.2.1 h6
    exact ⟨⟨F, hF, eF⟩, L, hL, eL⟩
set_option maxHeartbeats 2000000 in
theorem Inv.min {m : Nat} {σ τ : Sg} (h : Inv m σ τ) (hm : m < 3000) : Inv (m + 1) (cMin σ) (mMinute τ) := by
  obtain ⟨hw, e2, hmw, -, hu, hMT, hfd⟩ := h
  have hn := hw.1
  -- all rows of what is given are emptied
  have eA := mA_at τ
  have a18 : ∀ a j, ¬ a = 18 → (mA τ).1 11 a j = τ.1 11 a j := fun a j ha => by rw [eA]; exact sW_out _ _ _ _ _ (by omega)
  have aL : (mA τ).2 = τ.2 := by rw [eA]; rfl
  have en : (mA τ).2.2.2 = σ.2.2.2 := by rw [aL, e2]
  have rA : ∀ v a, ¬ a = 18 → rM (mA τ) v a = rM τ v a := fun v a ha => rM_row (fun j => a18 a j ha) v
  have gin : ∀ v, v < σ.2.2.2 → gIn (σ.2.2.1 v) (σ.1 v) (rM (mA τ) v) := by
    intro v hv
    obtain ⟨hS, hN, hD, hH, hG, hX, hnn, hL, hC, hB, hF, hZ⟩ := hu v hv
    refine ⟨uS_of hS (fun _ _ _ => rfl) (fun _ _ _ => rfl) (fun a ha => rA v a (by omega)), hN, uD_of hD (fun z => by rw [rA v 12 (by decide)]; exact hD.1 z) (fun _ => by rw [rA v 12 (by decide)]) (fun _ _ => rfl) (fun _ _ => rfl) (fun _ _ _ _ _ => rfl) (rA v 6 (by decide)) (fun a h1 h2 => rA v a (by omega)), fun k hk => by rw [rA v 2 (by decide)]; exact hH k hk, fun k hk => ?_, hnn, fun s hs => ?_, hZ⟩
    · rw [rM_at (mA τ) v 18 k hk, eA]
      rw [sW_I, if_pos ⟨rfl, rfl, by omega, by show 16 * v + k < 0 + 160; omega⟩]
      rfl
    · have h1 := hMT s hs
      have h2 := nsum_le (f := fun v => uMs (σ.2.2.1 v) (σ.1 v) s) hv
      unfold MT at h1
      omega
  obtain ⟨pI, pG⟩ := phase1 (σ0 := σ) (τ0 := mA τ) (m := m) hw (by omega) (by rw [aL, e2]) gin (fun v hv h0 => (hu v hv).2.2.2.2.2.2.2.2.2.2.1 h0) (fun s hs => by rw [aL]; exact hfd s hs)
  have eB : mB (mA τ) = itF (fun u τ => mGive τ u) σ.2.2.2 (mA τ) := by unfold mB; rw [en]
  have eCm : cMin σ = cP3 (cP2 (cP1 σ)) := rfl
  have eMm : mMinute τ = sI (mE (mD (mC (mB (mA τ))))) 11 30 1 ((mE (mD (mC (mB (mA τ))))).1 11 30 1 + nI 1) := rfl
  rw [eCm, eMm, eB]
  generalize cP1 σ = σ1 at pI pG ⊢
  generalize itF (fun u τ => mGive τ u) σ.2.2.2 (mA τ) = τB at pI pG ⊢
  obtain ⟨i1, i2, i3, i4, i5, i6, i7, i8⟩ := pI
  have n1 : σ1.2.2.2 = σ.2.2.2 := by rw [i1]
  have k1 : σ1.2.2.1 = σ.2.2.1 := by rw [i1]
  have nB : τB.2.2.2 = σ.2.2.2 := by rw [i2]
  have kB : τB.2.2.1 = σ.2.2.1 := by rw [i2]
  obtain ⟨z1, -, z3, z4⟩ := mC_at τB τB.2.2.2
  have eC : mC τB = itF (fun u τ => mZero τ u) τB.2.2.2 τB := rfl
  rw [eC]
  generalize itF (fun u τ => mZero τ u) τB.2.2.2 τB = τC at z1 z3 z4 ⊢
  rw [nB, kB] at z1
  have rC : ∀ v a, ¬ a = 2 → rM τC v a = rM τB v a := fun v a ha => rM_row (fun j => by rw [z3 a ha]) v
  have c1r : ∀ v a, ¬ (a = 0 ∨ a = 6 ∨ a = 7 ∨ a = 8 ∨ a = 10 ∨ a = 11 ∨ (20 ≤ a ∧ a < 60)) → σ1.1 v a = σ.1 v a := fun v a ha => by
    funext j
    exact i3 v a j (by unfold xG; omega)
  -- phase 2
  have hB2 : B2 σ.2.2.2 σ.2.2.1 σ1 τC := by
    intro v hv
    obtain ⟨hS, hN, hD, hH, hG, hX, hnn, hL, hC, hB, hF, hZ⟩ := hu v hv
    obtain ⟨g1, g2, g3, g4, g5, g6⟩ := pG v hv
    refine ⟨fun k hk => ?_, ⟨fun k hk => ?_, fun h7 f hf k hk => ?_⟩, g4.1, g4.2.1⟩
    · rw [rM2 τC v k hk, z1 v hv k hk]
      by_cases h7 : σ.2.2.1 v = 7
      · rw [if_pos h7, i8 v hv h7, i4 2 _ (by omega), a18 2 _ (by decide), ← rM2 τ v k hk]
        exact hH k hk
      · rw [if_neg h7, g1 h7 k hk]
    · rw [rL20 τC v k hk, z4, i5 20 (by decide), aL, c1r v 1 (by omega), ← rL20 τ v k hk]
      exact hX.1 k hk
    · rw [rL21 τC v f k hf hk, z4, i5 21 (by decide), aL, c1r v (60 + f) (by omega), i8 v hv h7, ← rL21 τ v f k hf hk]
      exact hX.2 h7 f hf k hk
  have mass : ∀ s, s < 2 → MT σ.2.2.2 σ.2.2.1 σ1 s + nsum (fun v => uGs (σ.2.2.1 v) (σ1.1 v) s) σ.2.2.2 ≤ 40000 * m + 40000 := by
    intro s hs
    unfold MT
    rw [← nsum_add]
    have key : ∀ k, k ≤ σ.2.2.2 → nsum (fun v => uMs (σ.2.2.1 v) (σ1.1 v) s + uGs (σ.2.2.1 v) (σ1.1 v) s) k ≤ nsum (fun v => uMs (σ.2.2.1 v) (σ.1 v) s) k + 4000 * k := by
      intro k
      induction k with
      | zero => intro _; exact Nat.zero_le _
      | succ k ih =>
        intro hk
        have h1 := ih (by omega)
        have h2 := (pG k (by omega)).2.2.2.2.2 s hs
        show nsum _ k + (uMs (σ.2.2.1 k) (σ1.1 k) s + uGs (σ.2.2.1 k) (σ1.1 k) s) ≤ nsum _ k + uMs (σ.2.2.1 k) (σ.1 k) s + 4000 * (k + 1)
        omega
    have h1 := key σ.2.2.2 (Nat.le_refl _)
    have h2 := hMT s hs
    unfold MT at h2
    omega
  have ph2 := phase2 (σ1 := σ1) (τ1 := τC) (hw.of (by rw [i1])) (by rw [z4, i2, i1]) (by rw [n1, k1]; exact hB2) (fun v hv => by
    rw [n1] at hv
    rw [k1]
    obtain ⟨g1, g2, g3, g4, g5, g6⟩ := pG v hv
    refine ⟨fun p hp k hk => ?_, g3⟩
    rw [rC v 18 (by decide)]
    exact g2 p hp k hk) (fun s hs => by
    rw [n1, k1]
    have := mass s hs
    omega) (fun v hv p hp => by
    rw [n1] at hv ⊢
    rw [k1] at hp ⊢
    obtain ⟨hS, hN, hD, hH, hG, hX, hnn, hL, hC, hB, hF, hZ⟩ := hu v hv
    have hup := upt_le (σ.2.2.1 v)
    have e := hS.1 p (by omega)
    rw [rM_at τ v 1 p (show p < 2 by omega), if_pos hp] at e
    have e : τ.1 11 1 (2 * v + p) = σ.1 v 2 p := e
    rw [z3 1 (by decide), i4 1 _ (by omega), a18 1 _ (by decide), c1r v 2 (by omega)]
    exact ⟨e, hL p hp⟩)
  rw [n1, k1] at ph2
  obtain ⟨fB, b2, mt⟩ := ph2
  generalize cP2 σ1 = σ2 at fB b2 mt ⊢
  generalize mD τC = τD at fB b2 ⊢
  obtain ⟨f1, f2, f3, f4, f5, f6⟩ := fB
  have n2 : σ2.2.2.2 = σ.2.2.2 := by rw [f2, n1]
  have k2 : σ2.2.2.1 = σ.2.2.1 := by rw [f2, k1]
  have c2r : ∀ v a, ¬ (a = 0 ∨ a = 1 ∨ 60 ≤ a) → σ2.1 v a = σ1.1 v a := fun v a ha => by
    funext j
    exact f1 v a j (by omega)
  have rD : ∀ v a, ¬ a = 2 → rM τD v a = rM τB v a := fun v a ha => (rM_row (fun j => f3 a j ha) v).trans (rC v a ha)
  have hD2 : ∀ v, v < σ.2.2.2 → uD (σ.2.2.1 v) (σ2.1 v) (rM τD v) := by
    intro v hv
    obtain ⟨g1, g2, g3, g4, g5, g6⟩ := pG v hv
    exact uD_of g5 (fun z => by rw [rD v 12 (by decide), c2r v 8 (by omega)]; exact g5.1 z) (fun _ => by rw [rD v 12 (by decide)]) (fun j _ => by rw [c2r v 8 (by omega)]) (fun k _ => by rw [c2r v 7 (by omega)]) (fun a h1 h2 k _ => by rw [c2r v a (by omega)]) (rD v 6 (by decide)) (fun a h1 h2 => rD v a (by omega))
  have c8 : ∀ v j, j < 4 → σ1.1 v 8 j = σ.1 v 8 j := fun v j hj => i3 v 8 j (by unfold xG; omega)
  -- phase 3
  have ph3 := phase3 (σ0 := σ2) (τ0 := τD) (hw.of (by rw [f2, i1])) (by rw [f5, z4, i2, f2, i1]) (fun v hv => by
    rw [n2] at hv
    rw [k2]
    exact ⟨(b2 v hv).1, hD2 v hv⟩) (fun v hv h0 => by
    rw [n2] at hv ⊢
    rw [k2] at h0
    obtain ⟨hS, hN, hD, hH, hG, hX, hnn, hL, hC, hB, hF, hZ⟩ := hu v hv
    obtain ⟨q1, q2, q3⟩ := hS.2.2.2.2.2.2.2 h0
    rw [rM1 τ v 9 rfl] at q1
    rw [rM1 τ v 10 rfl] at q2
    rw [rM1 τ v 11 rfl] at q3
    rw [f3 9 _ (by decide), f3 10 _ (by decide), f3 11 _ (by decide), z3 9 (by decide), z3 10 (by decide), z3 11 (by decide), i4 9 _ (by omega), i4 10 _ (by omega), i4 11 _ (by omega), a18 9 _ (by decide), a18 10 _ (by decide), a18 11 _ (by decide), c2r v 8 (by omega), c8 v 1 (by decide), c8 v 2 (by decide), c8 v 3 (by decide)]
    exact ⟨q1, q2, q3, hC h0⟩)
  generalize cP3 σ2 = σ3 at ph3 ⊢
  generalize mE τD = τE at ph3 ⊢
  obtain ⟨j1, j2, j3, j4, j5⟩ := ph3
  rw [n2, k2] at j3 j4 j5
  have n3 : σ3.2.2.2 = σ.2.2.2 := by rw [j1, n2]
  have k3 : σ3.2.2.1 = σ.2.2.1 := by rw [j1, k2]
  have rE : ∀ v a, ¬ a = 12 → ¬ a = 30 → rM (sI τE 11 30 1 (τE.1 11 30 1 + nI 1)) v a = rM τD v a := fun v a h12 h30 => rM_row (fun j => by rw [sI_I, if_neg (by omega), j4 a j (by omega)]) v
  have c3r : ∀ v a, ¬ a = 8 → σ3.1 v a = σ2.1 v a := fun v a ha => by
    funext j
    exact j3 v a j (by omega)
  have c38 : ∀ v j, ¬ j = 0 → σ3.1 v 8 j = σ2.1 v 8 j := fun v j hj => j3 v 8 j (by omega)
  have c12345 : ∀ v a, 2 ≤ a → a ≤ 5 → σ3.1 v a = σ.1 v a := fun v a h1 h2 => by rw [c3r v a (by omega), c2r v a (by omega), c1r v a (by omega)]
  have r12 : ∀ v, rM (sI τE 11 30 1 (τE.1 11 30 1 + nI 1)) v 12 0 = τE.1 11 12 v := fun v => by
    rw [rM1 _ v 12 rfl, sI_I, if_neg (by omega)]
  have rAll : ∀ v a, ¬ (a = 2 ∨ a = 6 ∨ (12 ≤ a ∧ a ≤ 21) ∨ a = 30) → rM (sI τE 11 30 1 (τE.1 11 30 1 + nI 1)) v a = rM τ v a := fun v a ha => by
    rw [rE v a (by omega) (by omega), rD v a (by omega)]
    exact rM_row (fun j => by rw [i4 a j (by omega), a18 a j (by omega)]) v
  refine ⟨hw.of (by rw [j1, f2, i1]), ?_, ?_, by omega, fun v hv => ?_, fun s hs => ?_, fun s hs => ?_⟩
  · show τE.2.2 = σ3.2.2
    rw [j2, f5, z4, i2, j1, f2, i1]
  · refine ⟨?_, ?_, fun u hu' => ?_⟩
    · show τE.2.2.2 ≤ 10
      rw [j2, f5, z4, nB]
      exact hn
    · show (sI τE 11 30 1 (τE.1 11 30 1 + nI 1)).1 11 30 0 = nI τE.2.2.2
      rw [sI_I, if_neg (by omega), j4 30 0 (by omega), f3 30 0 (by decide), z3 30 (by decide), i4 30 0 (by omega), a18 30 0 (by decide), j2, f5, z4, nB, hmw.2.1, e2]
    · have hu' : u < τE.2.2.2 := hu'
      rw [j2, f5, z4, nB] at hu'
      show (sI τE 11 30 1 (τE.1 11 30 1 + nI 1)).1 11 0 u = nI (τE.2.2.1 u) ∧ τE.2.2.1 u < 8
      rw [sI_I, if_neg (by omega), j4 0 u (by omega), f3 0 u (by decide), z3 0 (by decide), i4 0 u (by omega), a18 0 u (by decide), j2, f5, z4, kB]
      have := hmw.2.2 u (by rw [e2]; exact hu')
      rw [e2] at this
      exact this
  · rw [n3] at hv ⊢
    rw [k3]
    obtain ⟨hS, hN, hD, hH, hG, hX, hnn, hL, hC, hB, hF, hZ⟩ := hu v hv
    obtain ⟨g1, g2, g3, g4, g5, g6⟩ := pG v hv
    obtain ⟨b21, b22, b23, b24⟩ := b2 v hv
    have hup := upt_le (σ.2.2.1 v)
    refine ⟨uS_of hS (fun a h1 h2 => c12345 v a h1 h2) (fun j h1 h2 => by rw [c38 v j (by omega), c2r v 8 (by omega), c8 v j (by omega)]) (fun a ha => ?_), uN_of hN (fun a h1 h2 => c12345 v a h1 h2), uD_of (hD2 v hv) (fun z => ?_) (fun z => ?_) (fun j hj => c38 v j (by omega)) (fun k _ => by rw [c3r v 7 (by omega)]) (fun a h1 h2 k _ => by rw [c3r v a (by omega)]) (rE v 6 (by decide) (by decide)) (fun a h1 h2 => rE v a (by omega) (by omega)), fun k hk => ?_, fun p hp k hk => ?_, ?_, ⟨?_, ?_, fun z t ht => ?_, fun z t ht => ?_⟩, fun p hp => ?_, fun z => ?_, fun z => ?_, fun z s hs => ?_, fun z k hk => ?_⟩
    · exact rAll v a (by omega)
    · rw [r12 v]
      exact j5 v hv z
    · rw [r12 v, j4 12 v (by omega), rM1 τD v 12 rfl]
    · rw [rE v 2 (by decide) (by decide), c3r v 0 (by decide)]
      exact b21 k hk
    · rw [rE v 18 (by decide) (by decide), rD v 18 (by decide), c3r v (10 + p) (by omega), c2r v (10 + p) (by omega)]
      exact g2 p hp k hk
    · rw [rL_row (τ := τD) (by show τE.2.1 20 = _; rw [j2]) (by show τE.2.1 21 = _; rw [j2])]
      refine ⟨fun k hk => by rw [c3r v 1 (by decide)]; exact b22.1 k hk, fun h7 f hf k hk => ?_⟩
      rw [c3r v (60 + f) (by omega), c3r v 0 (by decide)]
      exact b22.2 h7 f hf k hk
    · rw [c3r v 0 (by decide)]
      exact b23
    · rw [c3r v 1 (by decide)]
      exact b24
    · rw [c3r v (20 + t) (by omega), c2r v (20 + t) (by omega)]
      exact g4.2.2.1 z t ht
    · rw [c3r v (40 + t) (by omega), c2r v (40 + t) (by omega)]
      exact g4.2.2.2 z t ht
    · rw [c12345 v 2 (by omega) (by omega)]
      exact hL p hp
    · rw [c38 v 1 (by decide), c2r v 8 (by omega), c8 v 1 (by decide)]
      exact hC z
    · rw [rAll v 9 (by omega)]
      exact hB z
    · rw [c3r v 6 (by decide), c2r v 6 (by omega)]
      have := i7 v hv z s hs
      rw [if_pos hv] at this
      exact this
    · rw [c3r v 0 (by decide), f6 v hv z]
      exact g1 (by omega) k hk
  · rw [n3, k3]
    have h1 := mt s hs
    have h2 := mass s hs
    have h3 : MT σ.2.2.2 σ.2.2.1 σ3 s = MT σ.2.2.2 σ.2.2.1 σ2 s := by
      unfold MT
      refine nsum_congr (fun v hv => ?_)
      have h4 := uMs_upd (κ := σ.2.2.1 v) (c := σ2.1 v) (c' := σ3.1 v) (fun a ha hb => c3r v a (by omega)) s
      rw [c3r v 0 (by decide), c3r v 1 (by decide)] at h4
      omega
    omega
  · show τE.2.1 19 s = fdS σ3 s σ3.2.2.2
    rw [j2, f4 19 (by decide) (by decide), z4, i6 s hs, n3]
    refine (fdS_congr (σ := σ1) (σ' := σ3) (by rw [j1, f2]) (fun v hv h0 => ?_)).symm
    rw [c3r v 6 (by decide), c2r v 6 (by omega)]
