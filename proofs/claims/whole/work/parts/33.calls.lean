/-! ===== what holds between calls; calls that tell a unit something ===== -/
def FRS (σ : Sg) : Prop := ∀ v, σ.2.2.2 ≤ v → v < 10 → (∀ a, (a = 2 ∨ a = 3 ∨ a = 4 ∨ a = 6 ∨ a = 10 ∨ a = 11 ∨ a = 13 ∨ a = 16 ∨ a = 18 ∨ a = 22) → ∀ k, rM σ v a k = 0) ∧ ∀ a k, rL σ v a k = 0
def LD (L : Nat) (σ : Sg) : Prop := (∀ s, s < 2 ^ L → σ.1 10 1 s = blw σ L s ∧ σ.1 10 2 s = blg σ L s ∧ σ.1 10 3 s = blp σ L s) ∧ ∀ k, k < L → inR 1 1000 (σ.1 11 24 k) ∧ inR 0 100 (σ.1 11 25 k) ∧ inR 0 1000 (σ.1 11 26 k)
def INV (σ : Sg) : Prop := ∃ m L, Inv m σ σ ∧ σ.1 10 0 0 = nI σ.2.2.2 ∧ σ.1 10 0 1 = nI m ∧ σ.1 11 30 1 = nI m ∧ L ≤ 10 ∧ σ.1 10 0 2 = nI L ∧ σ.1 11 30 2 = nI L ∧ LD L σ ∧ FRS σ
theorem uA_keep {n : Nat} {κs : Nat → Nat} {κ : Nat} {c r c' r' : Nat → Nat → Int32} {rl : Nat → Nat → Int64} {m : Nat} (h : uA n κs κ c r rl m) (hS : uS κ c' r') (hN : uN κ c') (hD : uD κ c' r') (hL : ∀ p, p < upt κ → c' 2 p = -1 ∨ ∃ d, d < n ∧ c' 2 p = nI d ∧ ¬ κs d = 0) (hC : κ = 0 → c' 8 1 = -1 ∨ ∃ d, d < n ∧ c' 8 1 = nI d) (hB : ¬ κ = 0 → r' 9 0 = -1) (hc : ∀ a, ¬ (2 ≤ a ∧ a ≤ 5) → ¬ a = 8 → c' a = c a) (h2 : r' 2 = r 2) (h18 : r' 18 = r 18) : uA n κs κ c' r' rl m := by
  obtain ⟨a1, a2, a3, a4, a5, a6, a7, a8, a9, a10, a11, a12⟩ := h
  have hup := upt_le κ
  refine ⟨hS, hN, hD, fun k hk => by rw [h2, hc 0 (by omega) (by omega)]; exact a4 k hk, fun p hp k hk => by rw [h18, hc (10 + p) (by omega) (by omega)]; exact a5 p hp k hk, ⟨fun k hk => by rw [hc 1 (by omega) (by omega)]; exact a6.1 k hk, fun h7 f hf k hk => by rw [hc (60 + f) (by omega) (by omega), hc 0 (by omega) (by omega)]; exact a6.2 h7 f hf k hk⟩, ⟨by rw [hc 0 (by omega) (by omega)]; exact a7.1, by rw [hc 1 (by omega) (by omega)]; exact a7.2.1, fun z t ht => by rw [hc (20 + t) (by omega) (by omega)]; exact a7.2.2.1 z t ht, fun z t ht => by rw [hc (40 + t) (by omega) (by omega)]; exact a7.2.2.2 z t ht⟩, hL, hC, hB, fun z s hs => by rw [hc 6 (by omega) (by omega)]; exact a11 z s hs, fun z k hk => by rw [hc 0 (by omega) (by omega)]; exact a12 z k hk⟩
theorem uMs_c {κ : Nat} {c c' : Nat → Nat → Int32} (hc : ∀ a, ¬ (2 ≤ a ∧ a ≤ 5) → ¬ a = 8 → c' a = c a) (s : Nat) : uMs κ c' s = uMs κ c s := by
  have := uMs_upd (κ := κ) (c := c) (c' := c') (fun a h1 h2 => hc a (by omega) (by omega)) s
  rw [hc 0 (by omega) (by omega), hc 1 (by omega) (by omega)] at this
  omega
theorem INV_upd {σ ρ : Sg} {k : Nat} (h : INV σ) (hk : k < σ.2.2.2) (e2 : ρ.2 = σ.2) (hs : ∀ s, ¬ s = k → ¬ s = 11 → ρ.1 s = σ.1 s) (hr : ∀ a j, ¬ ((1 ≤ a ∧ a ≤ 23) ∧ wd a * k ≤ j ∧ j < wd a * k + wd a) → ρ.1 11 a j = σ.1 11 a j) (hc : ∀ a, ¬ (2 ≤ a ∧ a ≤ 5) → ¬ a = 8 → ρ.1 k a = σ.1 k a)
    (hu : ∀ m, uA σ.2.2.2 σ.2.2.1 (σ.2.2.1 k) (σ.1 k) (rM σ k) (rL σ k) m → uA σ.2.2.2 σ.2.2.1 (σ.2.2.1 k) (ρ.1 k) (rM ρ k) (rL σ k) m) : INV ρ := by
  obtain ⟨m, L, ⟨i1, i2, i3, i4, i5, i6, i7⟩, a1, a2, a3, a4, a5, a6, a7, a8⟩ := h
  have hn := i1.1
  have e22 : ρ.2.2 = σ.2.2 := by rw [e2]
  have h10 : ρ.1 10 = σ.1 10 := hs 10 (by omega) (by omega)
  have r0 : ∀ j, ρ.1 11 0 j = σ.1 11 0 j := fun j => hr 0 j (by omega)
  have r30 : ∀ j, ρ.1 11 30 j = σ.1 11 30 j := fun j => hr 30 j (by omega)
  have r24 : ρ.1 11 24 = σ.1 11 24 := by funext j; exact hr 24 j (by omega)
  have r25 : ρ.1 11 25 = σ.1 11 25 := by funext j; exact hr 25 j (by omega)
  have r26 : ρ.1 11 26 = σ.1 11 26 := by funext j; exact hr 26 j (by omega)
  have er : ∀ v, ¬ v = k → rM ρ v = rM σ v := by
    intro v hv
    funext a j
    unfold rM
    by_cases hj : j < wd a
    · rw [if_pos hj, if_pos hj, hr a _ (fun z => wd_apart hv hj z.2.1 z.2.2 rfl)]
    · rw [if_neg hj, if_neg hj]
  have eL : ∀ v, rL ρ v = rL σ v := fun v => rL_row (by rw [e2]) (by rw [e2]) v
  refine ⟨m, L, ⟨i1.of e22, rfl, ?_, i4, fun v hv => ?_, fun s hs' => ?_, fun s hs' => ?_⟩, by rw [h10, e2]; exact a1, by rw [h10]; exact a2, by rw [r30]; exact a3, a4, by rw [h10]; exact a5, by rw [r30]; exact a6, ?_, ?_⟩
  · unfold MW
    rw [e2, r30]
    exact ⟨i3.1, i3.2.1, fun u hu => by rw [r0]; exact i3.2.2 u hu⟩
  · rw [e2] at hv ⊢
    rw [eL]
    by_cases e : v = k
    · subst e
      exact hu m (i5 v hv)
    · rw [er v e, hs v e (by omega)]
      exact i5 v hv
  · rw [e2]
    have : MT σ.2.2.2 σ.2.2.1 ρ s = MT σ.2.2.2 σ.2.2.1 σ s := by
      unfold MT
      refine nsum_congr (fun v hv => ?_)
      by_cases e : v = k
      · subst e
        exact uMs_c hc s
      · rw [hs v e (by omega)]
    rw [this]
    exact i6 s hs'
  · rw [e2, i7 s hs']
    refine (fdS_congr e2 (fun v hv h0 => ?_)).symm
    by_cases e : v = k
    · subst e
      rw [hc 6 (by omega) (by omega)]
    · rw [hs v e (by omega)]
  · unfold LD blw blg blp
    rw [h10, r24, r25, r26]
    exact a7
  · intro v hv1 hv2
    rw [e2] at hv1
    rw [er v (by omega), eL]
    exact a8 v hv1 hv2
/-- rows of a unit behind single writes -/
theorem rM_sI (τ : Sg) (u a j : Nat) (x : Int32) (hj : j < wd a) : rM (sI τ 11 a (wd a * u + j) x) u = fun a' k => if a' = a ∧ k = j then x else rM τ u a' k := by
  funext a' k
  unfold rM
  by_cases ha : a' = a
  · subst ha
    by_cases hk : k < wd a'
    · rw [if_pos hk, if_pos hk, sI_I]
      by_cases e : k = j
      · subst e
        rw [if_pos ⟨rfl, rfl, rfl⟩, if_pos ⟨rfl, rfl⟩]
      · rw [if_neg (by omega), if_neg (by omega)]
    · rw [if_neg hk, if_neg hk, if_neg (by omega)]
  · by_cases hk : k < wd a'
    · rw [if_pos hk, if_pos hk, sI_I, if_neg (fun z => ha z.2.1), if_neg (fun z => ha z.1)]
    · rw [if_neg hk, if_neg hk, if_neg (fun z => ha z.1)]
theorem rM_cls (τ : Sg) (s a j : Nat) (x : Int32) (hs : ¬ s = 11) (u : Nat) : rM (sI τ s a j x) u = rM τ u := by
  funext a' k
  unfold rM
  by_cases hk : k < wd a'
  · rw [if_pos hk, if_pos hk, sI_I, if_neg (fun z => hs z.1.symm)]
  · rw [if_neg hk, if_neg hk]
theorem sI_row (τ : Sg) (s a j : Nat) (x : Int32) : (sI τ s a j x).1 s = fun a' k => if a' = a ∧ k = j then x else τ.1 s a' k := by
  funext a' k
  rw [sI_I]
  by_cases e : a' = a ∧ k = j
  · rw [if_pos ⟨rfl, e⟩, if_pos e]
  · rw [if_neg (fun z => e z.2), if_neg e]
theorem sI_sec (τ : Sg) (s a j : Nat) (x : Int32) {s' : Nat} (h : ¬ s' = s) : (sI τ s a j x).1 s' = τ.1 s' := by
  funext a' k
  rw [sI_I, if_neg (fun z => h z.1)]
theorem INV.kw {σ : Sg} (h : INV σ) : KW σ := by obtain ⟨m, L, hI, -⟩ := h; exact hI.1
theorem INV.mw {σ : Sg} (h : INV σ) : MW σ := by obtain ⟨m, L, hI, -⟩ := h; exact hI.2.2.1
theorem INV.ua {σ : Sg} (h : INV σ) {k : Nat} (hk : k < σ.2.2.2) : ∃ m, m ≤ 3000 ∧ uA σ.2.2.2 σ.2.2.1 (σ.2.2.1 k) (σ.1 k) (rM σ k) (rL σ k) m := by
  obtain ⟨m, L, hI, -⟩ := h
  exact ⟨m, hI.2.2.2.1, hI.2.2.2.2.1 k hk⟩
/-! lead -/
theorem q_lead {σ : Sg} (h : INV σ) {k : Nat} (hk : k < σ.2.2.2) (p to : Int32) : cr_lead σ k p to = r_lead (cs_lead σ k p to) k p to ∧ INV (s_lead (cs_lead σ k p to) k p to) := by
  have hn := h.kw.1
  obtain ⟨m0, -, hu⟩ := h.ua hk
  have hup := upt_le (σ.2.2.1 k)
  unfold cr_lead cs_lead r_lead s_lead
  by_cases h1 : isU (upt (σ.2.2.1 k)) p
  · have n1 := not_not_intro h1
    by_cases h2 : ¬ to = -1 ∧ ¬ isU σ.2.2.2 to
    · simp only [if_neg n1, if_pos h2]
      exact ⟨trivial, h⟩
    · by_cases h3 : ¬ to < 0 ∧ σ.2.2.1 (tn to) = 0
      · simp only [if_neg n1, if_neg h2, if_pos h3]
        exact ⟨trivial, h⟩
      · simp only [if_neg n1, if_neg h2, if_neg h3, sI_L]
        obtain ⟨q, hq, rfl⟩ := isU_of (by omega) h1
        rw [tn_nI (by omega)]
        have e0 := hu.1.1 q (by omega)
        rw [rM_at σ k 1 q (show q < 2 by omega), if_pos hq] at e0
        have e0 : σ.1 11 1 (2 * k + q) = σ.1 k 2 q := e0
        refine ⟨by rw [sI_I, if_neg (by omega)]; exact e0.symm, ?_⟩
        have erow : (sI (sI σ k 2 q to) 11 1 (2 * k + q) to).1 k = fun a j => if a = 2 ∧ j = q then to else σ.1 k a j := by rw [sI_sec _ _ _ _ _ (by omega), sI_row]
        have erM : rM (sI (sI σ k 2 q to) 11 1 (2 * k + q) to) k = fun a j => if a = 1 ∧ j = q then to else rM σ k a j := by
          rw [show 2 * k + q = wd 1 * k + q from rfl, rM_sI _ k 1 q to (show q < 2 by omega), rM_cls σ k 2 q to (by omega) k]
        refine INV_upd h hk rfl (fun s h1 h2 => by rw [sI_sec _ _ _ _ _ h2, sI_sec _ _ _ _ _ h1]) (fun a j hj => ?_) (fun a ha ha8 => ?_) (fun m hm => ?_)
        · rw [sI_I, if_neg (fun z => hj (by rw [z.2.1, z.2.2]; show _ ∧ 2 * k ≤ _ ∧ _ < 2 * k + 2; omega)), sI_I, if_neg (by omega)]
        · rw [erow]
          funext j
          exact if_neg (by omega)
        · rw [erow, erM]
          obtain ⟨a1, a2, a3, a4, a5, a6, a7, a8, a9, a10, a11, a12⟩ := hm
          obtain ⟨s1, s2, s3, s4, s5, s6, s7, s8⟩ := a1
          refine uA_keep (show uA _ _ _ _ _ _ m from ⟨⟨s1, s2, s3, s4, s5, s6, s7, s8⟩, a2, a3, a4, a5, a6, a7, a8, a9, a10, a11, a12⟩) ⟨fun p hp => ?_, s2, s3, s4, s5, s6, s7, s8⟩ a2 (uD_of a3 a3.1 (fun _ => rfl) (fun _ _ => rfl) (fun _ _ => rfl) (fun a h1 h2 k hk => if_neg (by omega)) rfl (fun a h1 h2 => by funext j; exact if_neg (by omega))) (fun p hp => ?_) a9 a10 (fun a ha _ => by funext j; exact if_neg (by omega)) rfl rfl
          · dsimp only
            by_cases e : p = q
            · subst e
              rw [if_pos ⟨rfl, rfl⟩, if_pos hq, if_pos ⟨rfl, rfl⟩]
            · rw [if_neg (show ¬ (1 = 1 ∧ p = q) by omega), s1 p hp, if_neg (show ¬ (2 = 2 ∧ p = q) by omega)]
          · by_cases e : p = q
            · subst e
              rw [if_pos ⟨rfl, rfl⟩]
              by_cases hm1 : to = -1
              · exact Or.inl hm1
              · have hiu : isU σ.2.2.2 to := Decidable.byContradiction (fun z => h2 ⟨hm1, z⟩)
                obtain ⟨d, hd, ed⟩ := isU_of (by omega) hiu
                refine Or.inr ⟨d, hd, ed, fun z => h3 ⟨?_, ?_⟩⟩
                · rw [ed]; exact nI_pos (by omega)
                · rw [ed, tn_nI (by omega)]; exact z
            · rw [if_neg (by omega)]
              exact a8 p hp
  · simp only [if_pos h1]
    exact ⟨trivial, h⟩
/-! rate -/
theorem q_rate {σ : Sg} (h : INV σ) {k : Nat} (hk : k < σ.2.2.2) (c x : Int32) : cr_rate σ k c x = r_rate (cs_rate σ k c x) k c x ∧ INV (s_rate (cs_rate σ k c x) k c x) := by
  have hn := h.kw.1
  obtain ⟨m0, -, hu⟩ := h.ua hk
  unfold cr_rate cs_rate r_rate s_rate
  by_cases h1 : inR 0 7 c
  · have n1 := not_not_intro h1
    by_cases h2 : σ.2.2.1 k = 0
    · have n2 := not_not_intro h2
      have eR : inR (zSv 3 (σ.2.2.1 k)) (zSv 4 (σ.2.2.1 k)) x ↔ inR 0 1000 x := by rw [h2]; exact Iff.rfl
      unfold r_chg s_chg
      by_cases h3 : inR 0 1000 x
      · have n3 := not_not_intro h3
        simp only [if_neg n1, if_neg n2, if_pos (eR.mpr h3), sI_L, if_neg n3]
        obtain ⟨q, -, hq, rfl⟩ := inR_of (by decide) (by decide) h1
        rw [tn_nI (by omega)]
        have e0 := hu.1.2.1 h2 q (by omega)
        rw [rM_at σ k 3 q (show q < 8 by omega)] at e0
        have e0 : σ.1 11 3 (8 * k + q) = σ.1 k 3 q := e0
        refine ⟨by rw [sI_I, if_neg (by omega)]; exact e0.symm, ?_⟩
        have erow : (sI (sI σ k 3 q x) 11 3 (8 * k + q) x).1 k = fun a j => if a = 3 ∧ j = q then x else σ.1 k a j := by rw [sI_sec _ _ _ _ _ (by omega), sI_row]
        have erM : rM (sI (sI σ k 3 q x) 11 3 (8 * k + q) x) k = fun a j => if a = 3 ∧ j = q then x else rM σ k a j := by
          rw [show 8 * k + q = wd 3 * k + q from rfl, rM_sI _ k 3 q x (show q < 8 by omega), rM_cls σ k 3 q x (by omega) k]
        refine INV_upd h hk rfl (fun s h1 h2 => by rw [sI_sec _ _ _ _ _ h2, sI_sec _ _ _ _ _ h1]) (fun a j hj => ?_) (fun a ha ha8 => ?_) (fun m hm => ?_)
        · rw [sI_I, if_neg (fun z => hj (by rw [z.2.1, z.2.2]; show _ ∧ 8 * k ≤ _ ∧ _ < 8 * k + 8; omega)), sI_I, if_neg (by omega)]
        · rw [erow]
          funext j
          exact if_neg (by omega)
        · rw [erow, erM, h2]
          rw [h2] at hm
          obtain ⟨a1, a2, a3, a4, a5, a6, a7, a8, a9, a10, a11, a12⟩ := hm
          obtain ⟨s1, s2, s3, s4, s5, s6, s7, s8⟩ := a1
          obtain ⟨r1, r2, r3, r4, r5, r6⟩ := a2
          refine uA_keep (show uA _ _ _ _ _ _ m from ⟨⟨s1, s2, s3, s4, s5, s6, s7, s8⟩, ⟨r1, r2, r3, r4, r5, r6⟩, a3, a4, a5, a6, a7, a8, a9, a10, a11, a12⟩) ⟨s1, fun _ p hp => ?_, fun z => absurd z (by decide), fun z => absurd z (by decide), fun z => absurd z (by decide), fun z => absurd z (by decide), fun z => absurd rfl z, s8⟩ ⟨fun _ p hp => ?_, fun z => absurd z (by decide), fun z => absurd z (by decide), fun z => absurd z (by decide), fun z => absurd z (by decide), fun z => absurd rfl z⟩ (uD_of a3 a3.1 (fun _ => rfl) (fun _ _ => rfl) (fun _ _ => rfl) (fun a h1 h2 k hk => if_neg (by omega)) rfl (fun a h1 h2 => by funext j; exact if_neg (by omega))) a8 a9 (fun z => absurd rfl z) (fun a ha _ => by funext j; exact if_neg (by omega)) rfl rfl
          · dsimp only
            by_cases e : p = q
            · rw [if_pos ⟨rfl, e⟩, if_pos ⟨rfl, e⟩]
            · rw [if_neg (by omega), if_neg (by omega)]
              exact s2 rfl p hp
          · dsimp only
            by_cases e : p = q
            · rw [if_pos ⟨rfl, e⟩]
              exact h3
            · rw [if_neg (by omega)]
              exact r1 rfl p hp
      · simp only [if_neg n1, if_neg n2, if_neg (fun z => h3 (eR.mp z)), if_pos h3]
        exact ⟨trivial, h⟩
    · simp only [if_neg n1, if_pos h2]
      exact ⟨trivial, h⟩
  · simp only [if_pos h1]
    exact ⟨trivial, h⟩
