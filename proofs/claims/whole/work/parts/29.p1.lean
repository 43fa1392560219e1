/-! ===== all give: class and reference ===== -/
theorem cGive_0 {σ : Sg} {u : Nat} (h : σ.2.2.1 u = 0) : cGive σ u = cFeed σ u := by simp only [cGive, h]
theorem mGive_0 {σ : Sg} {u : Nat} (h : σ.2.2.1 u = 0) : mGive σ u = if σ.1 11 12 u = 0 then σ else itF (fdStep u) 8 σ := by simp only [mGive, h]
theorem cGive_1 {σ : Sg} {u : Nat} (h : σ.2.2.1 u = 1) : cGive σ u = cJoin σ u := by simp only [cGive, h]
theorem mGive_1 {σ : Sg} {u : Nat} (h : σ.2.2.1 u = 1) : mGive σ u = itF (joStep u) 8 σ := by simp only [mGive, h]
theorem cGive_2 {σ : Sg} {u : Nat} (h : σ.2.2.1 u = 2) : cGive σ u = cMill σ u := by simp only [cGive, h]
theorem mGive_2 {σ : Sg} {u : Nat} (h : σ.2.2.1 u = 2) : mGive σ u = itF (fun c τ => mMill τ u (c / 2) (c % 2)) 8 σ := by simp only [mGive, h]
theorem cGive_3 {σ : Sg} {u : Nat} (h : σ.2.2.1 u = 3) : cGive σ u = cPart3 σ u := by simp only [cGive, h]
theorem mGive_3 {σ : Sg} {u : Nat} (h : σ.2.2.1 u = 3) : mGive σ u = itF (fun c τ => mPart τ u c) 8 σ := by simp only [mGive, h]
theorem cGive_4 {σ : Sg} {u : Nat} (h : σ.2.2.1 u = 4) : cGive σ u = cPart4 σ u := by simp only [cGive, h]
theorem mGive_4 {σ : Sg} {u : Nat} (h : σ.2.2.1 u = 4) : mGive σ u = itF (fun c τ => mPart τ u c) 8 σ := by simp only [mGive, h]
theorem cGive_5 {σ : Sg} {u : Nat} (h : σ.2.2.1 u = 5) : cGive σ u = cTank σ u (tn (σ.1 u 8 4)) (tn (σ.1 u 3 0)) := by simp only [cGive, h]
theorem cGive_6 {σ : Sg} {u : Nat} (h : σ.2.2.1 u = 6) : cGive σ u = cPile σ u (tn (σ.1 u 8 5)) (tn (σ.1 u 8 6)) := by simp only [cGive, h]
theorem cGive_7 {σ : Sg} {u : Nat} (h : σ.2.2.1 u = 7) : cGive σ u = σ := by simp only [cGive, h]
theorem mGive_7 {σ : Sg} {u : Nat} (h : σ.2.2.1 u = 7) : mGive σ u = σ := by simp only [mGive, h]
theorem give_u {σ τ : Sg} {u κ : Nat} (hκ : κ < 8) (h1 : σ.2.2.1 u = κ) (h2 : τ.2.2.1 u = κ) (hi : gIn κ (σ.1 u) (rM τ u)) : gOut κ (σ.1 u) ((cGive σ u).1 u) (rM (mGive τ u) u) := by
  match κ, hκ with
  | 0, _ => rw [cGive_0 h1, mGive_0 h2]; exact give_0 hi
  | 1, _ => rw [cGive_1 h1, mGive_1 h2]; exact give_1 hi
  | 2, _ => rw [cGive_2 h1, mGive_2 h2]; exact give_2 hi
  | 3, _ => rw [cGive_3 h1, mGive_3 h2]; exact give_3 h2 hi
  | 4, _ => rw [cGive_4 h1, mGive_4 h2]; exact give_4 h2 hi
  | 5, _ => rw [cGive_5 h1, mGive_5 h2]; exact give_5 hi
  | 6, _ => rw [cGive_6 h1, mGive_6 h2]; exact give_6 hi
  | 7, _ => rw [cGive_7 h1, mGive_7 h2]; exact give_7 hi
theorem gw_of {σ τ : Sg} {u : Nat} (hi : gIn (σ.2.2.1 u) (σ.1 u) (rM τ u)) : GW σ u := by
  obtain ⟨hS, hN, hD, -⟩ := hi
  refine ⟨fun h5 => ?_, fun h6 => ?_⟩
  · obtain ⟨T, K, hT, hK, eT, -⟩ := hD.2.2.2.1 h5
    obtain ⟨t, h1, h2, e⟩ := inR_of (by decide) (by decide) (hN.2.2.2.1 h5)
    exact ⟨⟨T, hT, eT⟩, t, h1, h2, e⟩
  · obtain ⟨F, L, hF, hL, eF, eL, -⟩ := hD.2.2.2.2.2.1 h6
    exact ⟨⟨F, hF, eF⟩, L, hL, eL⟩
theorem kl_of {κ : Nat} {c : Nat → Nat → Int32} {τ : Sg} {u : Nat} (hD : uD κ c (rM τ u)) : (∃ K, K ≤ 5 ∧ τ.1 11 13 u = nI K) ∧ ∃ L, L ≤ 20 ∧ τ.1 11 16 u = nI L := by
  refine ⟨?_, ?_⟩
  · by_cases h5 : κ = 5
    · obtain ⟨T, K, hT, hK, eT, eK, -⟩ := hD.2.2.2.1 h5
      exact ⟨K, hK, by rw [← rM1 τ u 13 rfl]; exact eK⟩
    · exact ⟨0, by decide, by rw [← rM1 τ u 13 rfl]; exact hD.2.2.2.2.1 h5⟩
  · by_cases h6 : κ = 6
    · obtain ⟨F, L, hF, hL, eF, eL, eR, -⟩ := hD.2.2.2.2.2.1 h6
      exact ⟨L, hL, by rw [← rM1 τ u 16 rfl]; exact eR⟩
    · exact ⟨0, by decide, by rw [← rM1 τ u 16 rfl]; exact hD.2.2.2.2.2.2 h6⟩
/-- what all feeds fed -/
def fdS (σ : Sg) (s : Nat) : Nat → Int64
  | 0 => 0
  | k + 1 => fdS σ s k + (if σ.2.2.1 k = 0 then (σ.1 k 6 s).toInt64 else 0)
theorem fdS_congr {σ σ' : Sg} {s : Nat} (h2 : σ'.2 = σ.2) : ∀ {k : Nat}, (∀ v, v < k → σ.2.2.1 v = 0 → σ'.1 v 6 s = σ.1 v 6 s) → fdS σ' s k = fdS σ s k
  | 0, _ => rfl
  | k + 1, h => by
    show fdS σ' s k + (if σ'.2.2.1 k = 0 then (σ'.1 k 6 s).toInt64 else 0) = fdS σ s k + (if σ.2.2.1 k = 0 then (σ.1 k 6 s).toInt64 else 0)
    rw [fdS_congr h2 (fun v hv => h v (by omega)), h2]
    by_cases e : σ.2.2.1 k = 0
    · rw [if_pos e, if_pos e, h k (by omega) e]
    · rw [if_neg e, if_neg e]
theorem fdS_upd {σ σ' : Sg} {s : Nat} (h2 : σ'.2 = σ.2) {u : Nat} {y : Int64} (hu : σ.2.2.1 u = 0) (hy : (σ'.1 u 6 s).toInt64 = (σ.1 u 6 s).toInt64 + y) (ho : ∀ v, ¬ v = u → σ'.1 v 6 s = σ.1 v 6 s) : ∀ {k : Nat}, u < k → fdS σ' s k = fdS σ s k + y
  | 0, h => absurd h (by omega)
  | k + 1, h => by
    show fdS σ' s k + (if σ'.2.2.1 k = 0 then (σ'.1 k 6 s).toInt64 else 0) = fdS σ s k + (if σ.2.2.1 k = 0 then (σ.1 k 6 s).toInt64 else 0) + y
    rw [h2]
    by_cases e : u = k
    · subst e
      rw [fdS_congr h2 (fun v hv _ => ho v (by omega)), if_pos hu, if_pos hu, hy, Int64.add_assoc]
    · rw [fdS_upd h2 hu hy ho (show u < k by omega), ho k (fun z => e z.symm), Int64.add_assoc, Int64.add_assoc, Int64.add_comm y]
def P1I (σ0 τ0 : Sg) (m k : Nat) (σ τ : Sg) : Prop :=
  σ.2 = σ0.2 ∧ τ.2.2 = σ0.2.2 ∧ (∀ s a j, ¬ (s < σ0.2.2.2 ∧ xG a j) → σ.1 s a j = σ0.1 s a j) ∧ (∀ a j, ¬ (a = 6 ∨ (13 ≤ a ∧ a ≤ 18)) → τ.1 11 a j = τ0.1 11 a j) ∧ (∀ a, ¬ a = 19 → τ.2.1 a = τ0.2.1 a) ∧ (∀ s, s < 2 → τ.2.1 19 s = fdS σ s σ0.2.2.2) ∧ (∀ v, v < σ0.2.2.2 → σ0.2.2.1 v = 0 → ∀ s, s < 2 → ¬ σ.1 v 6 s < 0 ∧ tn (σ.1 v 6 s) ≤ 4000 * (if v < k then m + 1 else m)) ∧ (∀ v, v < σ0.2.2.2 → σ0.2.2.1 v = 7 → σ.1 v = σ0.1 v)
theorem phase1 {σ0 τ0 : Sg} {m : Nat} (hw : KW σ0) (hm : m ≤ 3000) (e2 : τ0.2.2 = σ0.2.2) (hT : ∀ v, v < σ0.2.2.2 → gIn (σ0.2.2.1 v) (σ0.1 v) (rM τ0 v)) (hF : ∀ v, v < σ0.2.2.2 → σ0.2.2.1 v = 0 → ∀ s, s < 2 → ¬ σ0.1 v 6 s < 0 ∧ tn (σ0.1 v 6 s) ≤ 4000 * m) (hI : ∀ s, s < 2 → τ0.2.1 19 s = fdS σ0 s σ0.2.2.2) :
    P1I σ0 τ0 m σ0.2.2.2 (cP1 σ0) (itF (fun u τ => mGive τ u) σ0.2.2.2 τ0) ∧ ∀ v, v < σ0.2.2.2 → gOut (σ0.2.2.1 v) (σ0.1 v) ((cP1 σ0).1 v) (rM (itF (fun u τ => mGive τ u) σ0.2.2.2 τ0) v) := by
  have key := it2 (fun u σ => cGive σ u) (fun u τ => mGive τ u) σ0.2.2.2
    (fun v σ τ => gOut (σ0.2.2.1 v) (σ0.1 v) (σ.1 v) (rM τ v)) (fun v σ τ => σ.1 v = σ0.1 v ∧ gIn (σ0.2.2.1 v) (σ.1 v) (rM τ v)) (P1I σ0 τ0 m) ?_ ?_ ?_ ?_ (σ := σ0) (τ := τ0) ?_ (fun v hv => ⟨rfl, hT v hv⟩) σ0.2.2.2 (Nat.le_refl _)
  · exact ⟨key.1, key.2.1⟩
  · -- the invariant
    intro k σ τ hk hI hT
    obtain ⟨i1, i2, i3, i4, i5, i6, i7, i8⟩ := hI
    have e1 : σ.2.2.1 k = σ0.2.2.1 k := by rw [i1]
    have e3 : τ.2.2.1 k = σ0.2.2.1 k := by rw [i2]
    have hgw : GW σ k := gw_of (τ := τ) (by rw [e1]; exact hT.2)
    have fx := frx_give σ k hgw
    have fc := frc_give σ k
    obtain ⟨⟨K, hK, eK⟩, L, hL, eL⟩ := kl_of hT.2.2.2.1
    have fw := fw_mGive τ k (fun _ => by rw [eK, tn_nI (by omega)]; omega) (fun _ => by rw [eL, tn_nI (by omega)]; omega)
    refine ⟨fx.2.trans i1, fw.2.trans i2, fun s a j h => ?_, fun a j h => ?_, fun a ha => ?_, fun s hs => ?_, fun v hv hv0 s hs => ?_, fun v hv hv7 => ?_⟩
    · rw [fx.1 s a j (fun z => h ⟨by rw [z.1]; exact hk, z.2⟩)]
      exact i3 s a j h
    · rw [fw.1 11 a j (fun z => h (by have := z.2.1; omega))]
      exact i4 a j h
    · by_cases h0 : σ0.2.2.1 k = 0
      · rw [← i5 a ha]
        rw [mGive_0 (e3.trans h0)]
        split
        · rfl
        · rw [fd_it]
          funext j
          exact if_neg ha
      · rw [mGive_L τ k (by rw [e3]; exact h0)]
        exact i5 a ha
    · by_cases h0 : σ0.2.2.1 k = 0
      · have hin : gIn 0 (σ.1 k) (rM τ k) := by have := hT.2; rw [h0] at this; exact this
        obtain ⟨f1, f2⟩ := i7 k hk h0 s hs
        rw [if_neg (Nat.lt_irrefl k)] at f2
        obtain ⟨-, -, y, y1, y2⟩ := fed_0 hin hm hs f1 f2
        have ec := cGive_0 (e1.trans h0)
        have em := mGive_0 (e3.trans h0)
        show (mGive τ k).2.1 19 s = _
        rw [em, y2, i6 s hs]
        refine (fdS_upd (σ := σ) (σ' := cGive σ k) fx.2 (by rw [e1]; exact h0) (by rw [ec]; exact y1) (fun v hv => by rw [fc.1 v hv]) hk).symm
      · show (mGive τ k).2.1 19 s = _
        rw [mGive_L τ k (by rw [e3]; exact h0), i6 s hs]
        refine (fdS_congr (σ := σ) (σ' := cGive σ k) fx.2 (fun v hv hv0 => ?_)).symm
        by_cases e : v = k
        · subst e
          rw [e1] at hv0
          exact absurd hv0 h0
        · rw [fc.1 v e]
    · by_cases e : v = k
      · subst e
        have hin : gIn 0 (σ.1 v) (rM τ v) := by have := hT.2; rw [hv0] at this; exact this
        obtain ⟨f1, f2⟩ := i7 v hv hv0 s hs
        rw [if_neg (Nat.lt_irrefl v)] at f2
        obtain ⟨y1, y2, -⟩ := fed_0 hin hm hs f1 f2
        have ec := cGive_0 (e1.trans hv0)
        show ¬ (cGive σ v).1 v 6 s < 0 ∧ tn ((cGive σ v).1 v 6 s) ≤ _
        rw [ec, if_pos (by omega)]
        exact ⟨y1, y2⟩
      · show ¬ (cGive σ k).1 v 6 s < 0 ∧ tn ((cGive σ k).1 v 6 s) ≤ _
        rw [fc.1 v e]
        obtain ⟨f1, f2⟩ := i7 v hv hv0 s hs
        refine ⟨f1, Nat.le_trans f2 (Nat.mul_le_mul_left _ ?_)⟩
        split <;> split <;> omega
    · by_cases e : v = k
      · subst e
        have ec := cGive_7 (e1.trans hv7)
        show (cGive σ v).1 v = _
        rw [ec]
        exact i8 v hv hv7
      · show (cGive σ k).1 v = _
        rw [fc.1 v e]
        exact i8 v hv hv7
  · intro k σ τ hk hI hT
    have e1 : σ.2.2.1 k = σ0.2.2.1 k := by rw [hI.1]
    have e3 : τ.2.2.1 k = σ0.2.2.1 k := by rw [hI.2.1]
    have := give_u (hw.2 k hk) e1 e3 hT.2
    rw [hT.1] at this
    exact this
  · intro k c σ τ hk hc hne hI hT hD
    obtain ⟨⟨K, hK, eK⟩, L, hL, eL⟩ := kl_of hT.2.2.2.1
    have fw := fw_mGive τ k (fun _ => by rw [eK, tn_nI (by omega)]; omega) (fun _ => by rw [eL, tn_nI (by omega)]; omega)
    show gOut _ _ ((cGive σ k).1 c) (rM (mGive τ k) c)
    rw [(frc_give σ k).1 c hne, fw.rM hne]
    exact hD
  · intro k c σ τ hk hc hne hI hT0 hT
    obtain ⟨⟨K, hK, eK⟩, L, hL, eL⟩ := kl_of hT0.2.2.2.1
    have fw := fw_mGive τ k (fun _ => by rw [eK, tn_nI (by omega)]; omega) (fun _ => by rw [eL, tn_nI (by omega)]; omega)
    show (cGive σ k).1 c = σ0.1 c ∧ gIn _ ((cGive σ k).1 c) (rM (mGive τ k) c)
    rw [(frc_give σ k).1 c hne, fw.rM hne]
    exact hT
  · exact ⟨rfl, e2, fun _ _ _ _ => rfl, fun _ _ _ => rfl, fun _ _ => rfl, hI, fun v hv h0 s hs => by rw [if_neg (Nat.not_lt_zero _)]; exact hF v hv h0 s hs, fun _ _ _ => rfl⟩
/-! the reference's rows are emptied -/
theorem mA_at (τ : Sg) : mA τ = sW τ 18 0 160 (fun _ => nI 0) := by
  unfold mA
  have := itF_sW (f := fun k τ => sI τ 11 18 k (nI 0)) 18 0 (fun _ _ => nI 0) (fun c τ => by rw [Nat.zero_add]) τ 160 (fun _ _ => rfl)
  exact this
theorem mC_at (τ : Sg) : ∀ n, (∀ v, v < n → ∀ k, k < 8 → (itF (fun u τ => mZero τ u) n τ).1 11 2 (8 * v + k) = if τ.2.2.1 v = 7 then τ.1 11 2 (8 * v + k) else 0) ∧ (∀ j, 8 * n ≤ j → (itF (fun u τ => mZero τ u) n τ).1 11 2 j = τ.1 11 2 j) ∧ (∀ a, ¬ a = 2 → (itF (fun u τ => mZero τ u) n τ).1 11 a = τ.1 11 a) ∧ (itF (fun u τ => mZero τ u) n τ).2 = τ.2
  | 0 => ⟨fun v hv => absurd hv (by omega), fun _ _ => rfl, fun _ _ => rfl, rfl⟩
  | n + 1 => by
    obtain ⟨h1, h2, h3, h4⟩ := mC_at τ n
    show (∀ v, v < n + 1 → ∀ k, k < 8 → (mZero (itF (fun u τ => mZero τ u) n τ) n).1 11 2 (8 * v + k) = if τ.2.2.1 v = 7 then τ.1 11 2 (8 * v + k) else 0) ∧ (∀ j, 8 * (n + 1) ≤ j → (mZero (itF (fun u τ => mZero τ u) n τ) n).1 11 2 j = τ.1 11 2 j) ∧ (∀ a, ¬ a = 2 → (mZero (itF (fun u τ => mZero τ u) n τ) n).1 11 a = τ.1 11 a) ∧ (mZero (itF (fun u τ => mZero τ u) n τ) n).2 = τ.2
    generalize itF (fun u τ => mZero τ u) n τ = ρ at h1 h2 h3 h4 ⊢
    unfold mZero
    have e7 : ρ.2.2.1 n = τ.2.2.1 n := by rw [h4]
    rw [e7]
    by_cases h : τ.2.2.1 n = 7
    · rw [if_pos h]
      refine ⟨fun v hv k hk => ?_, fun j hj => h2 j (by omega), h3, h4⟩
      by_cases e : v = n
      · subst e
        rw [if_pos h]
        exact h2 _ (by omega)
      · exact h1 v (by omega) k hk
    · rw [if_neg h]
      have e : itF (fun c τ => sI τ 11 2 (8 * n + c) (nI 0)) 8 ρ = sW ρ 2 (8 * n) 8 (fun _ => nI 0) := itF_sW (f := fun c τ => sI τ 11 2 (8 * n + c) (nI 0)) 2 (8 * n) (fun _ _ => nI 0) (fun _ _ => rfl) ρ 8 (fun _ _ => rfl)
      rw [e]
      refine ⟨fun v hv k hk => ?_, fun j hj => ?_, fun a ha => ?_, h4⟩
      · by_cases ev : v = n
        · subst ev
          rw [sW_in _ _ _ _ _ hk, if_neg h]
          rfl
        · rw [sW_out _ _ _ _ _ (by omega)]
          exact h1 v (by omega) k hk
      · rw [sW_out _ _ _ _ _ (by omega)]
        exact h2 j (by omega)
      · rw [← h3 a ha]
        funext j
        exact sW_out _ _ _ _ _ (by omega)
