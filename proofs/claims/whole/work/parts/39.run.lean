/-! ===== minutes: what lies behind the units stays, and run answers alike ===== -/
theorem mGive_L2 (τ : Sg) (u : Nat) {a : Nat} (ha : ¬ a = 19) : (mGive τ u).2.1 a = τ.2.1 a := by
  by_cases h0 : τ.2.2.1 u = 0
  · rw [mGive_0 h0]
    split
    · rfl
    · rw [fd_it]
      funext j
      exact if_neg ha
  · rw [mGive_L τ u h0]
theorem rL_of {τ τ' : Sg} {v : Nat} (h20 : ∀ k, k < 8 → τ'.2.1 20 (8 * v + k) = τ.2.1 20 (8 * v + k)) (h21 : ∀ k, k < 80 → τ'.2.1 21 (80 * v + k) = τ.2.1 21 (80 * v + k)) : rL τ' v = rL τ v := by
  funext a k
  unfold rL
  split
  · by_cases hk : k < 8
    · rw [if_pos hk, if_pos hk, h20 k hk]
    · rw [if_neg hk, if_neg hk]
  · by_cases hk : k < 80
    · rw [if_pos hk, if_pos hk, h21 k hk]
    · rw [if_neg hk, if_neg hk]
  · rfl
theorem rM_sW2 {τ : Sg} {d v : Nat} {g : Nat → Int32} (h : ¬ v = d) (τ' : Sg) (e : τ'.1 = (sW τ 2 (8 * d) 8 g).1) : rM τ' v = rM τ v := by
  funext a k
  unfold rM
  by_cases hk : k < wd a
  · rw [if_pos hk, if_pos hk, e, sW_out]
    rintro ⟨-, rfl, h1, h2⟩
    have h1 : 8 * d ≤ 8 * v + k := h1
    have h2 : 8 * v + k < 8 * d + 8 := h2
    have hk : k < 8 := hk
    omega
  · rw [if_neg hk, if_neg hk]
theorem kp_come {n : Nat} {τ : Sg} {u p : Nat} (hn : n ≤ 10) (hu : u < n) (hL : τ.1 11 1 (2 * u + p) < 0 ∨ ∃ d, d < n ∧ τ.1 11 1 (2 * u + p) = nI d) {v : Nat} (hv : n ≤ v) : rM (mCome τ u p) v = rM τ v ∧ rL (mCome τ u p) v = rL τ v := by
  unfold mCome
  rcases hL with h | ⟨d, hd, e⟩
  · rw [if_pos h, cmSp_it]
    exact ⟨rfl, rL_of (fun k hk => by dsimp only; refine lW_out _ _ _ _ _ ?_; omega) (fun k hk => by dsimp only; refine lW_out _ _ _ _ _ ?_; omega)⟩
  · rw [e, if_neg (nI_pos (by omega)), tn_nI (by omega)]
    by_cases h7 : τ.2.2.1 d = 7
    · rw [if_pos h7, cmLd_it]
      exact ⟨rM_sW2 (τ := τ) (d := d) (g := fun c => τ.1 11 2 (8 * d + c) + τ.1 11 18 ((2 * u + p) * 8 + c)) (by omega) _ rfl, rL_of (fun k hk => by dsimp only; refine lW_out _ _ _ _ _ ?_; omega) (fun k hk => by dsimp only; refine lW_out _ _ _ _ _ ?_; omega)⟩
    · rw [if_neg h7, cmHo_it]
      exact ⟨rM_sW2 (τ := τ) (d := d) (g := fun c => τ.1 11 2 (8 * d + c) + τ.1 11 18 ((2 * u + p) * 8 + c)) (by omega) _ rfl, rfl⟩
theorem kp_Di {n : Nat} {τ : Sg} {u : Nat} (hn : n ≤ 10) (hu : u < n) (hL : ∀ p, p < 2 → τ.1 11 1 (2 * u + p) < 0 ∨ ∃ d, d < n ∧ τ.1 11 1 (2 * u + p) = nI d) {v : Nat} (hv : n ≤ v) : ∀ q, q ≤ 2 → rM (itF (fun p τ => mCome τ u p) q τ) v = rM τ v ∧ rL (itF (fun p τ => mCome τ u p) q τ) v = rL τ v
  | 0, _ => ⟨rfl, rfl⟩
  | q + 1, hq => by
    obtain ⟨a1, a2⟩ := kp_Di hn hu hL hv q (by omega)
    have fr := fr_mDi τ u q
    show rM (mCome (itF (fun p τ => mCome τ u p) q τ) u q) v = _ ∧ rL (mCome (itF (fun p τ => mCome τ u p) q τ) u q) v = _
    obtain ⟨b1, b2⟩ := kp_come (τ := itF (fun p τ => mCome τ u p) q τ) (p := q) hn hu (by rw [fr.1 11 1 _ (by omega)]; exact hL q (by omega)) hv
    exact ⟨b1.trans a1, b2.trans a2⟩
theorem kp_D {n : Nat} {τ : Sg} (κ : Nat → Nat) (hn : n ≤ 10) (hL : ∀ u, u < n → ∀ p, p < 2 → τ.1 11 1 (2 * u + p) < 0 ∨ ∃ d, d < n ∧ τ.1 11 1 (2 * u + p) = nI d) {v : Nat} (hv : n ≤ v) : ∀ k, k ≤ n → rM (itF (fun u τ => itF (fun p τ => mCome τ u p) (upt (κ u)) τ) k τ) v = rM τ v ∧ rL (itF (fun u τ => itF (fun p τ => mCome τ u p) (upt (κ u)) τ) k τ) v = rL τ v
  | 0, _ => ⟨rfl, rfl⟩
  | k + 1, hk => by
    obtain ⟨a1, a2⟩ := kp_D κ hn hL hv k (by omega)
    have fr := fr_mD τ κ k
    obtain ⟨b1, b2⟩ := kp_Di (τ := itF (fun u τ => itF (fun p τ => mCome τ u p) (upt (κ u)) τ) k τ) (u := k) hn (by omega) (fun p hp => by rw [fr.1 11 1 _ (by omega)]; exact hL k (by omega) p hp) hv (upt (κ k)) (upt_le _)
    exact ⟨b1.trans a1, b2.trans a2⟩
theorem kp_B {n : Nat} {τ : Sg} (hK : ∀ u, u < n → (∃ K, K ≤ 6 ∧ τ.1 11 13 u = nI K) ∧ ∃ L, L ≤ 20 ∧ τ.1 11 16 u = nI L) {v : Nat} (hv : n ≤ v) : ∀ k, k ≤ n → rM (itF (fun u τ => mGive τ u) k τ) v = rM τ v ∧ rL (itF (fun u τ => mGive τ u) k τ) v = rL τ v
  | 0, _ => ⟨rfl, rfl⟩
  | k + 1, hk => by
    obtain ⟨a1, a2⟩ := kp_B hK hv k (by omega)
    have fr := fr_mB τ k
    obtain ⟨⟨K, hK', eK⟩, L, hL', eL⟩ := hK k (by omega)
    show rM (mGive (itF (fun u τ => mGive τ u) k τ) k) v = _ ∧ rL (mGive (itF (fun u τ => mGive τ u) k τ) k) v = _
    have fw := fw_mGive (itF (fun u τ => mGive τ u) k τ) k (fun _ => by rw [fr.1 11 13 k (by unfold bS; omega), eK, tn_nI (by omega)]; exact hK') (fun _ => by rw [fr.1 11 16 k (by unfold bS; omega), eL, tn_nI (by omega)]; exact hL')
    exact ⟨(fw.rM (by omega)).trans a1, (rL_row (mGive_L2 _ _ (by decide)) (mGive_L2 _ _ (by decide)) v).trans a2⟩
def miS (a j : Nat) : Prop := a = 2 ∨ a = 6 ∨ (12 ≤ a ∧ a ≤ 18) ∨ (a = 30 ∧ j = 1)
theorem fr_min (τ : Sg) : FrM miS τ (mMinute τ) := by
  have a : FrM miS τ (mA τ) := (fr_mA τ).mono (fun a j h => by unfold miS; omega)
  have b : FrM miS (mA τ) (mB (mA τ)) := (fr_mB (mA τ) _).mono (fun a j h => by unfold bS at h; unfold miS; omega)
  have c : FrM miS (mB (mA τ)) (mC (mB (mA τ))) := (fr_mC (mB (mA τ)) _).mono (fun a j h => by unfold miS; omega)
  have d : FrM miS (mC (mB (mA τ))) (mD (mC (mB (mA τ)))) := (fr_mD (mC (mB (mA τ))) _ _).mono (fun a j h => by unfold miS; omega)
  have e : FrM miS (mD (mC (mB (mA τ)))) (mE (mD (mC (mB (mA τ))))) := (fr_mE (mD (mC (mB (mA τ)))) _).mono (fun a j h => by unfold miS; omega)
  have f : FrM miS τ (mE (mD (mC (mB (mA τ))))) := (((a.tr b).tr c).tr d).tr e
  unfold mMinute
  exact f.sI (by unfold miS; omega)
theorem min_30 (τ : Sg) : (mMinute τ).1 11 30 1 = τ.1 11 30 1 + nI 1 := by
  have a : (mA τ).1 11 30 1 = τ.1 11 30 1 := (fr_mA τ).1 11 30 1 (by omega)
  have b : (mB (mA τ)).1 11 30 1 = _ := (fr_mB (mA τ) _).1 11 30 1 (by unfold bS; omega)
  have c : (mC (mB (mA τ))).1 11 30 1 = _ := (fr_mC (mB (mA τ)) _).1 11 30 1 (by omega)
  have d : (mD (mC (mB (mA τ)))).1 11 30 1 = _ := (fr_mD (mC (mB (mA τ))) _ _).1 11 30 1 (by omega)
  have e : (mE (mD (mC (mB (mA τ))))).1 11 30 1 = _ := (fr_mE (mD (mC (mB (mA τ)))) _).1 11 30 1 (by omega)
  unfold mMinute
  rw [sI_I, if_pos ⟨rfl, rfl, rfl⟩, e, d, c, b, a]
theorem mCtl_L (τ : Sg) (f : Nat) : (mCtl τ f).2 = τ.2 := by
  unfold mCtl
  split
  · rfl
  · split <;> rfl
theorem FRS_min {τ : Sg} (hg : MG τ) (h : FRS τ) : FRS (mMinute τ) := by
  intro v hv1 hv2
  have hn := hg.1.1
  have en : (mMinute τ).2.2 = τ.2.2 := mMinute_n τ
  rw [en] at hv1
  obtain ⟨y1, y2⟩ := h v hv1 hv2
  have eA := mA_at τ
  have aL : (mA τ).2 = τ.2 := by rw [eA]; rfl
  have a18 : ∀ a j, ¬ a = 18 → (mA τ).1 11 a j = τ.1 11 a j := fun a j ha => by rw [eA]; exact sW_out _ _ _ _ _ (by omega)
  have nA : (mA τ).2.2.2 = τ.2.2.2 := by rw [aL]
  have eB : mB (mA τ) = itF (fun u τ => mGive τ u) τ.2.2.2 (mA τ) := by unfold mB; rw [nA]
  have frB := fr_mB (mA τ) τ.2.2.2
  have kB := kp_B (τ := mA τ) (n := τ.2.2.2) (fun u hu => by
    rw [a18 13 u (by decide), a18 16 u (by decide)]
    exact ⟨(hg.2 u hu).1, (hg.2 u hu).2.1⟩) hv1 τ.2.2.2 (Nat.le_refl _)
  rw [← eB] at frB kB
  have nB : (mB (mA τ)).2.2 = τ.2.2 := frB.2.trans (by rw [aL])
  obtain ⟨-, z2, z3, z4⟩ := mC_at (mB (mA τ)) τ.2.2.2
  have eC : mC (mB (mA τ)) = itF (fun u τ => mZero τ u) τ.2.2.2 (mB (mA τ)) := by unfold mC; rw [nB]
  rw [← eC] at z2 z3 z4
  have nC : (mC (mB (mA τ))).2.2 = τ.2.2 := by rw [z4, nB]
  have eD : mD (mC (mB (mA τ))) = itF (fun u ρ => itF (fun p ρ => mCome ρ u p) (upt (τ.2.2.1 u)) ρ) τ.2.2.2 (mC (mB (mA τ))) := by
    unfold mD
    rw [nC]
  have kD := kp_D (τ := mC (mB (mA τ))) (n := τ.2.2.2) τ.2.2.1 hn (fun u hu p hp => by
    rw [z3 1 (by decide), frB.1 11 1 _ (by unfold bS; omega), a18 1 _ (by decide)]
    exact (hg.2 u hu).2.2.1 p hp) hv1 τ.2.2.2 (Nat.le_refl _)
  rw [← eD] at kD
  have frE := fr_mE (mD (mC (mB (mA τ)))) (mD (mC (mB (mA τ)))).2.2.2
  have EL : (mE (mD (mC (mB (mA τ))))).2 = (mD (mC (mB (mA τ)))).2 := itF_2 (f := fun f τ => mCtl τ f) (fun c τ => mCtl_L τ c) _ _
  have rC : ∀ a, rM (mC (mB (mA τ))) v a = rM (mB (mA τ)) v a := fun a => by
    by_cases e : a = 2
    · subst e
      funext k
      unfold rM
      by_cases hk : k < wd 2
      · rw [if_pos hk, if_pos hk]
        exact z2 _ (by show 8 * _ ≤ 8 * v + k; omega)
      · rw [if_neg hk, if_neg hk]
    · exact rM_row (fun j => by rw [z3 a e]) v
  have rA : ∀ a, (∀ k, rM τ v a k = 0) → ∀ k, rM (mA τ) v a k = 0 := fun a ha k => by
    have := ha k
    rw [eA]
    unfold rM at this ⊢
    by_cases hk : k < wd a
    · rw [if_pos hk] at this ⊢
      rw [sW_I]
      split
      · rfl
      · exact this
    · rw [if_neg hk]
  refine ⟨fun a ha k => ?_, fun a k => ?_⟩
  · have e1 : rM (mMinute τ) v a = rM (mE (mD (mC (mB (mA τ))))) v a := by
      unfold mMinute
      exact rM_row (fun j => by rw [sI_I, if_neg (by omega)]) v
    have e2 : rM (mE (mD (mC (mB (mA τ))))) v a = rM (mD (mC (mB (mA τ)))) v a := rM_row (fun j => frE.1 11 a j (by omega)) v
    rw [e1, e2, kD.1, rC, kB.1]
    exact rA a (y1 a ha) k
  · have e1 : rL (mMinute τ) v = rL (mD (mC (mB (mA τ)))) v := by
      unfold mMinute
      refine rL_row ?_ ?_ v
      · show (mE (mD (mC (mB (mA τ))))).2.1 20 = _
        rw [EL]
      · show (mE (mD (mC (mB (mA τ))))).2.1 21 = _
        rw [EL]
    have e3 : rL (mC (mB (mA τ))) v = rL (mB (mA τ)) v := rL_row (by rw [z4]) (by rw [z4]) v
    have e4 : rL (mA τ) v = rL τ v := rL_row (by rw [aL]) (by rw [aL]) v
    rw [e1, kD.2, e3, kB.2, e4]
    exact y2 a k
theorem Inv_t {m : Nat} {σ τ τ' : Sg} (h : Inv m σ τ) (h11 : τ'.1 11 = τ.1 11) (e2 : τ'.2 = τ.2) : Inv m σ τ' := by
  obtain ⟨i1, i2, i3, i4, i5, i6, i7⟩ := h
  refine ⟨i1, by rw [e2]; exact i2, ?_, i4, fun v hv => ?_, i6, fun s hs => by rw [e2]; exact i7 s hs⟩
  · unfold MW
    rw [e2, h11]
    exact i3
  · rw [rL_row (τ := τ) (by rw [e2]) (by rw [e2])]
    have e : rM τ' v = rM τ v := by
      funext a
      exact rM_row (fun j => by rw [h11]) v
    rw [e]
    exact i5 v hv
theorem Inv_1 {m : Nat} {σ τ : Sg} (h : Inv m σ τ) (hv : ∀ v, v < 10 → τ.1 v = σ.1 v) : Inv m τ τ := by
  obtain ⟨i1, i2, i3, i4, i5, i6, i7⟩ := h
  have hn := i1.1
  refine ⟨i1.of i2, rfl, i3, i4, fun v hv' => ?_, fun s hs => ?_, fun s hs => ?_⟩
  · rw [i2] at hv' ⊢
    rw [hv v (by omega)]
    exact i5 v hv'
  · rw [i2]
    have : MT σ.2.2.2 σ.2.2.1 τ s = MT σ.2.2.2 σ.2.2.1 σ s := nsum_congr (fun v hv' => by rw [hv v (by omega)])
    rw [this]
    exact i6 s hs
  · rw [i2, i7 s hs]
    exact (fdS_congr2 (σ := σ) (fun v hv' => ⟨by rw [i2], fun _ => by rw [hv v (by omega)]⟩)).symm
theorem fr_itM (τ : Sg) : ∀ k, FrM miS τ (itM k τ)
  | 0 => FrM.rf
  | k + 1 => (fr_itM τ k).tr (fr_min _)
theorem run_it {σ : Sg} {m : Nat} {ρ : Sg} (h : Inv m σ ρ) (hf : FRS ρ) (h30 : ρ.1 11 30 1 = nI m) : ∀ k, m + k ≤ 3000 → Inv (m + k) (itC k σ) (itM k ρ) ∧ FRS (itM k ρ) ∧ (itM k ρ).1 11 30 1 = nI (m + k)
  | 0, _ => ⟨h, hf, h30⟩
  | k + 1, hk => by
    obtain ⟨a1, a2, a3⟩ := run_it h hf h30 k (by omega)
    refine ⟨?_, FRS_min a1.MG a2, ?_⟩
    · exact a1.min (by omega)
    · show (mMinute (itM k ρ)).1 11 30 1 = _
      rw [min_30, a3, nI_add]
      rfl
/-- run, where it runs -/
theorem q_run {σ : Sg} (h : INV σ) {m k : Nat} (em : σ.1 10 0 1 = nI m) (hm : m ≤ 3000) (hk : m + k ≤ 3000) : σ.1 11 30 1 = nI m ∧ (cs_run σ m k).1 11 30 1 = nI m ∧ (∀ j, j < k → ∀ u, u < σ.2.2.2 → GW (itC j σ) u) ∧ (∀ j, j < k → MG (itM j (cs_run σ m k))) ∧ (itM k (cs_run σ m k)).1 11 30 1 = nI (m + k) ∧ INV (itM k (cs_run σ m k)) := by
  obtain ⟨m', L, hI, a1, a2, a3, a4, a5, a6, a7, a8⟩ := h
  have hm' := hI.2.2.2.1
  have emm : m' = m := by
    have := a2.symm.trans em
    have := congrArg tn this
    rw [tn_nI (by omega), tn_nI (by omega)] at this
    exact this
  subst emm
  have hn := hI.1.1
  have c10 : ∀ s, 10 ≤ s → (itC k σ).1 s = σ.1 s := fun s hs => itC_10 σ hn s hs k
  have c2 : (cs_run σ m' k).2 = σ.2 := itC_n k σ
  have c11 : (cs_run σ m' k).1 11 = σ.1 11 := by
    unfold cs_run
    rw [sI_sec _ _ _ _ _ (by decide)]
    exact c10 11 (by decide)
  have hI' : Inv m' σ (cs_run σ m' k) := Inv_t hI c11 c2
  have hF' : FRS (cs_run σ m' k) := FRS_g a8 c2 (fun a _ => by rw [c11])
  have h30 : (cs_run σ m' k).1 11 30 1 = nI m' := by rw [c11]; exact a3
  have key := run_it hI' hF' h30
  obtain ⟨k1, k2, k3⟩ := key k hk
  have fr := fr_itM (cs_run σ m' k) k
  have t2 : (itM k (cs_run σ m' k)).2.2 = σ.2.2 := fr.2.trans (by rw [c2])
  refine ⟨a3, h30, fun j hj u hu => ?_, fun j hj => (key j (by omega)).1.MG, k3, m' + k, L, ?_, ?_, ?_, k3, a4, ?_, ?_, ?_, k2⟩
  · refine (key j (by omega)).1.GW u ?_
    rw [itC_n]
    exact hu
  · refine Inv_1 k1 (fun v hv => ?_)
    have : (itM k (cs_run σ m' k)).1 v = (cs_run σ m' k).1 v := by
      funext a j
      exact fr.1 v a j (by omega)
    rw [this]
    unfold cs_run
    exact sI_sec _ _ _ _ _ (by omega)
  · rw [fr.1 10 0 0 (by omega), t2]
    unfold cs_run
    rw [sI_I, if_neg (by omega), c10 10 (by decide)]
    exact a1
  · rw [fr.1 10 0 1 (by omega)]
    unfold cs_run
    rw [sI_I, if_pos ⟨rfl, rfl, rfl⟩]
  · rw [fr.1 10 0 2 (by omega)]
    unfold cs_run
    rw [sI_I, if_neg (by omega), c10 10 (by decide)]
    exact a5
  · rw [fr.1 11 30 2 (by unfold miS; omega), c11]
    exact a6
  · have r : ∀ a, 24 ≤ a → a ≤ 26 → (itM k (cs_run σ m' k)).1 11 a = σ.1 11 a := fun a h1 h2 => by
      funext j
      rw [fr.1 11 a j (by unfold miS; omega), c11]
    have s : ∀ a, ¬ a = 0 → (itM k (cs_run σ m' k)).1 10 a = σ.1 10 a := fun a ha => by
      funext j
      rw [fr.1 10 a j (by omega)]
      unfold cs_run
      rw [sI_I, if_neg (by omega), c10 10 (by decide)]
    unfold LD blw blg blp
    rw [r 24 (by omega) (by omega), r 25 (by omega) (by omega), r 26 (by omega) (by omega), s 1 (by decide), s 2 (by decide), s 3 (by decide)]
    exact a7
