/-! set -/
theorem ust_unu {κ : Nat} (h8 : κ < 8) : (ust κ = 0 ↔ ¬ (3 ≤ κ ∧ κ ≤ 6)) ∧ (3 ≤ κ → κ ≤ 6 → unu κ = ust κ ∧ zSv 3 κ = lo_set κ ∧ zSv 4 κ = hi_set κ) := by
  match κ, h8 with
  | 0, _ => decide
  | 1, _ => decide
  | 2, _ => decide
  | 3, _ => decide
  | 4, _ => decide
  | 5, _ => decide
  | 6, _ => decide
  | 7, _ => decide
/-- a number told of unit k: class row 3 at q, reference row b at q -/
def hbS (κ b q : Nat) (x : Int32) : Prop := (κ = 5 ∧ b = 7 ∧ q = 0 ∧ inR 1 6 x) ∨ (κ = 6 ∧ b = 8 ∧ q = 0 ∧ inR 0 5000 x) ∨ ((κ = 3 ∨ κ = 4) ∧ b = 5 ∧ q < unu κ ∧ inR 0 10 x)
theorem set_inv {σ : Sg} (h : INV σ) {k : Nat} (hk : k < σ.2.2.2) {q b : Nat} {x : Int32} (hb : hbS (σ.2.2.1 k) b q x) : INV (sI (sI σ k 3 q x) 11 b (wd b * k + q) x) := by
  have hn := h.kw.1
  have hq : q < wd b := by
    rcases hb with ⟨-, rfl, rfl, -⟩ | ⟨-, rfl, rfl, -⟩ | ⟨h34, rfl, hq, -⟩
    · decide
    · decide
    · have : unu (σ.2.2.1 k) ≤ 4 := by rcases h34 with e | e <;> rw [e] <;> decide
      show q < 4
      omega
  have hb12 : (b = 7 ∨ b = 8 ∨ b = 5) ∧ 3 ≤ σ.2.2.1 k ∧ σ.2.2.1 k ≤ 6 := by
    rcases hb with ⟨e, rfl, -, -⟩ | ⟨e, rfl, -, -⟩ | ⟨e, rfl, -, -⟩
    · omega
    · omega
    · omega
  generalize hρ : sI (sI σ k 3 q x) 11 b (wd b * k + q) x = ρ
  have e2 : ρ.2 = σ.2 := by rw [← hρ]; rfl
  have erow : ρ.1 k = fun a j => if a = 3 ∧ j = q then x else σ.1 k a j := by rw [← hρ, sI_sec _ _ _ _ _ (by omega), sI_row]
  have erM : rM ρ k = fun a j => if a = b ∧ j = q then x else rM σ k a j := by
    rw [← hρ, rM_sI _ k b q x hq, rM_cls σ k 3 q x (by omega) k]
  have ca : ∀ a, ¬ a = 3 → ρ.1 k a = σ.1 k a := fun a ha => by
    rw [erow]
    funext j
    exact if_neg (fun z => ha z.1)
  have c3 : ∀ j, ρ.1 k 3 j = if j = q then x else σ.1 k 3 j := fun j => by
    rw [erow]
    show (if 3 = 3 ∧ j = q then x else σ.1 k 3 j) = _
    by_cases e : j = q
    · rw [if_pos ⟨rfl, e⟩, if_pos e]
    · rw [if_neg (fun z => e z.2), if_neg e]
  have rr : ∀ a, ¬ a = b → rM ρ k a = rM σ k a := fun a ha => by
    rw [erM]
    funext j
    exact if_neg (fun z => ha z.1)
  have rb : ∀ j, rM ρ k b j = if j = q then x else rM σ k b j := fun j => by
    rw [erM]
    show (if b = b ∧ j = q then x else rM σ k b j) = _
    by_cases e : j = q
    · rw [if_pos ⟨rfl, e⟩, if_pos e]
    · rw [if_neg (fun z => e z.2), if_neg e]
  have hs9 : ∀ s, ¬ s = k → ¬ s = 11 → ρ.1 s = σ.1 s := fun s h1 h2 => by rw [← hρ, sI_sec _ _ _ _ _ h2, sI_sec _ _ _ _ _ h1]
  have hr9 : ∀ a j, ¬ (a = b ∧ j = wd b * k + q) → ρ.1 11 a j = σ.1 11 a j := fun a j hj => by rw [← hρ, sI_I, if_neg (fun z => hj z.2), sI_I, if_neg (by omega)]
  clear hρ erow erM
  have k0 : ¬ σ.2.2.1 k = 0 := by omega
  have k2 : ¬ σ.2.2.1 k = 2 := by omega
  have b57 : ¬ b = 1 ∧ ¬ b = 22 ∧ ¬ b = 23 ∧ ¬ b = 9 ∧ ¬ b = 2 ∧ ¬ b = 18 ∧ ¬ b = 12 ∧ ¬ b = 6 := by omega
  have hbd : 1 ≤ b ∧ b ≤ 23 := by omega
  have hb8 : b ≤ 8 := by omega
  refine INV_upd h hk e2 hs9 (fun a j hj => hr9 a j (fun z => hj ?_)) (fun a ha ha8 => ca a (fun z => ha (by rw [z]; decide))) (fun m hm => ?_)
  · obtain ⟨rfl, rfl⟩ := z
    exact ⟨hbd, Nat.le_add_right _ _, Nat.add_lt_add_left hq _⟩
  · clear hq
    obtain ⟨a1, a2, a3, a4, a5, a6, a7, a8, a9, a10, a11, a12⟩ := hm
    obtain ⟨s1, s2, s3, s4, s5, s6, s7, s8⟩ := a1
    obtain ⟨r1, r2, r3, r4, r5, r6⟩ := a2
    have nS : uS (σ.2.2.1 k) (ρ.1 k) (rM ρ k) := by
      refine ⟨?_, fun z => absurd z k0, fun z => absurd z k2, fun z p hp => ?_, fun z => ?_, fun z => ?_, ?_, fun z => absurd z k0⟩
      · rw [rr 1 (fun z => b57.1 z.symm), ca 2 (by decide)]
        exact s1
      · rcases hb with hb | hb | hb
        · exact absurd hb.1 (by omega)
        · exact absurd hb.1 (by omega)
        · obtain ⟨-, rfl, -, -⟩ := hb
          rw [rb p, c3 p]
          by_cases e : p = q
          · rw [if_pos e, if_pos e]
          · rw [if_neg e, if_neg e]
            exact s4 z p hp
      · rcases hb with hb | hb | hb
        · obtain ⟨-, rfl, rfl, -⟩ := hb
          rw [rb 0, c3 0, if_pos rfl, if_pos rfl]
        · exact absurd hb.1 (by omega)
        · exact absurd hb.1 (by omega)
      · rcases hb with hb | hb | hb
        · exact absurd hb.1 (by omega)
        · obtain ⟨-, rfl, rfl, -⟩ := hb
          rw [rb 0, c3 0, if_pos rfl, if_pos rfl]
        · exact absurd hb.1 (by omega)
      · rw [rr 22 (fun z => b57.2.1 z.symm), rr 23 (fun z => b57.2.2.1 z.symm), ca 4 (by decide), ca 5 (by decide)]
        exact s7
    have nN : uN (σ.2.2.1 k) (ρ.1 k) := by
      refine ⟨fun z => absurd z k0, fun z => absurd z k2, fun z p hp => ?_, fun z => ?_, fun z => ?_, ?_⟩
      · rw [c3 p]
        by_cases e : p = q
        · rw [if_pos e]
          rcases hb with hb | hb | hb
          · exact absurd hb.1 (by omega)
          · exact absurd hb.1 (by omega)
          · exact hb.2.2.2
        · rw [if_neg e]
          exact r3 z p hp
      · rcases hb with hb | hb | hb
        · rw [c3 0, if_pos hb.2.2.1.symm]
          exact hb.2.2.2
        · exact absurd hb.1 (by omega)
        · exact absurd hb.1 (by omega)
      · rcases hb with hb | hb | hb
        · exact absurd hb.1 (by omega)
        · rw [c3 0, if_pos hb.2.2.1.symm]
          exact hb.2.2.2
        · exact absurd hb.1 (by omega)
      · rw [ca 4 (by decide), ca 5 (by decide)]
        exact r6
    have nD : uD (σ.2.2.1 k) (ρ.1 k) (rM ρ k) := uD_of a3 (fun z => absurd z k0) (fun _ => by rw [rr 12 (fun z => b57.2.2.2.2.2.2.1 z.symm)]) (fun j _ => by rw [ca 8 (by decide)]) (fun j _ => by rw [ca 7 (by decide)]) (fun a h1 h2 j hj => by rw [ca a (fun z => by rw [z] at h1; exact absurd h1 (by decide))]) (rr 6 (fun z => b57.2.2.2.2.2.2.2 z.symm)) (fun a h1 h2 => rr a (fun z => by rw [z] at h1; exact absurd (Nat.le_trans h1 hb8) (by decide)))
    exact uA_keep (show uA _ _ _ _ _ _ m from ⟨⟨s1, s2, s3, s4, s5, s6, s7, s8⟩, ⟨r1, r2, r3, r4, r5, r6⟩, a3, a4, a5, a6, a7, a8, a9, a10, a11, a12⟩) nS nN nD (fun p hp => by rw [ca 2 (by decide)]; exact a8 p hp) (fun z => absurd z k0) (fun z => by rw [rr 9 (fun z => b57.2.2.2.1 z.symm)]; exact a10 z) (fun a ha _ => ca a (fun z => ha (by rw [z]; decide))) (rr 2 (fun z => b57.2.2.2.2.1 z.symm)) (rr 18 (fun z => b57.2.2.2.2.2.1 z.symm))
theorem q_set {σ : Sg} (h : INV σ) {k : Nat} (hk : k < σ.2.2.2) (j x : Int32) : cr_set σ k j x = r_set (cs_set σ k j x) k j x ∧ INV (s_set (cs_set σ k j x) k j x) := by
  have hn := h.kw.1
  have h8 := h.kw.2 k hk
  obtain ⟨m0, -, hu⟩ := h.ua hk
  obtain ⟨u1, u2⟩ := ust_unu h8
  unfold cr_set cs_set r_set s_set r_chg s_chg
  by_cases h1 : 3 ≤ σ.2.2.1 k ∧ σ.2.2.1 k ≤ 6
  · have n1 := not_not_intro h1
    obtain ⟨e1, e2, e3⟩ := u2 h1.1 h1.2
    have nu : ¬ ust (σ.2.2.1 k) = 0 := fun z => u1.mp z h1
    rw [e1, e2, e3]
    by_cases h2 : isU (ust (σ.2.2.1 k)) j
    · have n2 := not_not_intro h2
      by_cases h3 : inR (lo_set (σ.2.2.1 k)) (hi_set (σ.2.2.1 k)) x
      · have n3 := not_not_intro h3
        have hul := ust_le (σ.2.2.1 k)
        have k2 : ¬ σ.2.2.1 k = 2 := by omega
        have k0 : ¬ σ.2.2.1 k = 0 := by omega
        simp only [if_neg n1, if_neg n2, if_pos h3, if_neg nu, sI_L, if_neg n3]
        obtain ⟨q, hq, rfl⟩ := isU_of (by omega) h2
        rw [tn_nI (by omega)]
        unfold r_told
        rw [sI_L, if_neg k0, if_neg k2, if_neg n2, tn_nI (by omega)]
        by_cases h5 : σ.2.2.1 k = 5
        · rw [if_pos h5, if_pos h5]
          have hq0 : q = 0 := by rw [h5] at hq; have : q < 1 := hq; omega
          subst hq0
          refine ⟨by rw [sI_I, if_neg (by omega), ← rM1 σ k 7 rfl]; exact (hu.1.2.2.2.2.1 h5).symm, ?_⟩
          have := set_inv h hk (q := 0) (b := 7) (x := x) (Or.inl ⟨h5, rfl, rfl, by rw [h5] at h3; exact h3⟩)
          rw [show wd 7 * k + 0 = k from by show 1 * k + 0 = k; omega] at this
          exact this
        · rw [if_neg h5, if_neg h5]
          by_cases h6 : σ.2.2.1 k = 6
          · rw [if_pos h6, if_pos h6]
            have hq0 : q = 0 := by rw [h6] at hq; have : q < 1 := hq; omega
            subst hq0
            refine ⟨by rw [sI_I, if_neg (by omega), ← rM1 σ k 8 rfl]; exact (hu.1.2.2.2.2.2.1 h6).symm, ?_⟩
            have := set_inv h hk (q := 0) (b := 8) (x := x) (Or.inr (Or.inl ⟨h6, rfl, rfl, by rw [h6] at h3; exact h3⟩))
            rw [show wd 8 * k + 0 = k from by show 1 * k + 0 = k; omega] at this
            exact this
          · rw [if_neg h6, if_neg h6]
            have h34 : σ.2.2.1 k = 3 ∨ σ.2.2.1 k = 4 := by omega
            have hx : inR 0 10 x := by rcases h34 with e | e <;> rw [e] at h3 <;> exact h3
            refine ⟨?_, ?_⟩
            · rw [sI_I, if_neg (by omega)]
              have := hu.1.2.2.2.1 h34 q (by rw [e1]; exact hq)
              rw [rM_at σ k 5 q (show q < 4 by omega)] at this
              exact this.symm
            · exact set_inv h hk (q := q) (b := 5) (x := x) (Or.inr (Or.inr ⟨h34, rfl, by rw [e1]; exact hq, hx⟩))
      · simp only [if_neg n1, if_neg n2, if_neg h3, if_neg nu, if_pos h3]
        exact ⟨trivial, h⟩
    · simp only [if_neg n1, if_pos h2, if_neg nu]
      exact ⟨trivial, h⟩
  · have nu : ust (σ.2.2.1 k) = 0 := u1.mpr h1
    simp only [if_pos h1, if_pos nu]
    exact ⟨trivial, h⟩
/-! turn -/
theorem inR01 {x : Int32} : inR 0 1 x ↔ (x = 0 ∨ x = nI 1) := by
  constructor
  · intro h
    obtain ⟨j, -, hj, rfl⟩ := inR_of (by decide) (by decide) h
    match j, hj with
    | 0, _ => exact Or.inl rfl
    | 1, _ => exact Or.inr rfl
  · intro h
    rcases h with rfl | rfl <;> decide
theorem q_turn {σ : Sg} (h : INV σ) {k : Nat} (hk : k < σ.2.2.2) (on : Int32) : cr_turn σ k on = r_turn (cs_turn σ k on) k on ∧ INV (s_turn (cs_turn σ k on) k on) := by
  have hn := h.kw.1
  obtain ⟨m0, -, hu⟩ := h.ua hk
  unfold cr_turn cs_turn r_turn s_turn
  by_cases h1 : σ.2.2.1 k = 0
  · have n1 := not_not_intro h1
    by_cases h2 : on = 0 ∨ on = nI 1
    · have n2 := not_not_intro h2
      have n3 := not_not_intro (inR01.mpr h2)
      simp only [if_neg n1, if_neg n2, sI_L, if_neg n3]
      have e0 := (hu.2.2.1.1 h1).1
      rw [rM1 σ k 12 rfl] at e0
      have e9 : (sI σ k 8 0 (if on = nI 1 then nI 1 else nI 0)).1 11 12 k = σ.1 k 8 0 := by
        rw [sI_I, if_neg (by omega)]
        exact e0
      refine ⟨by rw [e9], ?_⟩
      have hx : (if on = nI 1 then nI 1 else nI 0) = nI 0 ∨ (if on = nI 1 then nI 1 else nI 0) = nI 1 := by
        split
        · exact Or.inr rfl
        · exact Or.inl rfl
      generalize (if on = nI 1 then nI 1 else nI 0) = x at hx
      have erow : (sI (sI σ k 8 0 x) 11 12 k x).1 k = fun a j => if a = 8 ∧ j = 0 then x else σ.1 k a j := by rw [sI_sec _ _ _ _ _ (by omega), sI_row]
      have erM : rM (sI (sI σ k 8 0 x) 11 12 k x) k = fun a j => if a = 12 ∧ j = 0 then x else rM σ k a j := by
        have := rM_sI (sI σ k 8 0 x) k 12 0 x (by decide)
        rw [show wd 12 * k + 0 = k from by show 1 * k + 0 = k; omega] at this
        rw [this, rM_cls σ k 8 0 x (by omega) k]
      refine INV_upd h hk rfl (fun s h1 h2 => by rw [sI_sec _ _ _ _ _ h2, sI_sec _ _ _ _ _ h1]) (fun a j hj => ?_) (fun a ha ha8 => ?_) (fun m hm => ?_)
      · rw [sI_I, if_neg (fun z => hj (by rw [z.2.1, z.2.2]; show _ ∧ 1 * k ≤ _ ∧ _ < 1 * k + 1; omega)), sI_I, if_neg (by omega)]
      · rw [erow]
        funext j
        exact if_neg (by omega)
      · rw [erow, erM]
        obtain ⟨a1, a2, a3, a4, a5, a6, a7, a8, a9, a10, a11, a12⟩ := hm
        refine uA_keep (show uA _ _ _ _ _ _ m from ⟨a1, a2, a3, a4, a5, a6, a7, a8, a9, a10, a11, a12⟩) (uS_of a1 (fun a h1 h2 => by funext j; exact if_neg (by omega)) (fun j h1 h2 => if_neg (by omega)) (fun a ha => by funext j; exact if_neg (by omega))) (uN_of a2 (fun a h1 h2 => by funext j; exact if_neg (by omega))) (uD_of a3 (fun z => ⟨by rw [if_pos ⟨rfl, rfl⟩, if_pos ⟨rfl, rfl⟩], by rw [if_pos ⟨rfl, rfl⟩]; exact hx⟩) (fun z => absurd h1 z) (fun j hj => if_neg (by omega)) (fun k _ => if_neg (by omega)) (fun a h1 h2 k hk => if_neg (by omega)) (by funext j; exact if_neg (by omega)) (fun a h1 h2 => by funext j; exact if_neg (by omega))) (fun p hp => by rw [if_neg (by omega)]; exact a8 p hp) (fun z => by rw [if_neg (by omega)]; exact a9 z) (fun z => absurd h1 z) (fun a ha ha8 => by funext j; exact if_neg (by omega)) (by funext j; exact if_neg (by omega)) (by funext j; exact if_neg (by omega))
    · have n3 : ¬ inR 0 1 on := fun z => h2 (inR01.mp z)
      simp only [if_neg n1, if_pos h2, if_pos n3]
      exact ⟨trivial, h⟩
  · simp only [if_pos h1]
    exact ⟨trivial, h⟩
/-! control -/
theorem q_control {σ : Sg} (h : INV σ) {k : Nat} (hk : k < σ.2.2.2) (u off on : Int32) : cr_control σ k u off on = r_control (cs_control σ k u off on) k u off on ∧ INV (s_control (cs_control σ k u off on) k u off on) := by
  have hn := h.kw.1
  unfold cr_control cs_control r_control s_control
  by_cases h0 : isU σ.2.2.2 u
  · have n0 := not_not_intro h0
    by_cases h1 : σ.2.2.1 k = 0
    · have n1 := not_not_intro h1
      by_cases h2 : inR 0 100000 off ∧ inR 0 100000 on ∧ on ≤ off
      · have n2 := not_not_intro h2
        have n3 : ¬ (¬ inR 0 100000 off ∨ ¬ inR 0 100000 on ∨ ¬ on ≤ off) := fun z => z.elim (fun q => q h2.1) (fun z => z.elim (fun q => q h2.2.1) (fun q => q h2.2.2))
        simp only [if_neg n0, if_neg n1, if_neg n2, sI_L, if_neg n3]
        refine ⟨trivial, ?_⟩
        obtain ⟨d, hd, ed⟩ := isU_of (by omega) h0
        generalize hρ : sI (sI (sI (sI (sI (sI σ k 8 1 u) k 8 2 off) k 8 3 on) 11 9 k u) 11 10 k off) 11 11 k on = ρ
        have hI : ∀ s a j, ρ.1 s a j = if s = 11 ∧ a = 11 ∧ j = k then on else if s = 11 ∧ a = 10 ∧ j = k then off else if s = 11 ∧ a = 9 ∧ j = k then u else if s = k ∧ a = 8 ∧ j = 3 then on else if s = k ∧ a = 8 ∧ j = 2 then off else if s = k ∧ a = 8 ∧ j = 1 then u else σ.1 s a j := fun s a j => by rw [← hρ, sI_I, sI_I, sI_I, sI_I, sI_I, sI_I]
        have e2 : ρ.2 = σ.2 := by rw [← hρ]; rfl
        have c : ∀ a j, ¬ (a = 8 ∧ 1 ≤ j ∧ j ≤ 3) → ρ.1 k a j = σ.1 k a j := fun a j hj => by
          rw [hI, if_neg (by omega), if_neg (by omega), if_neg (by omega), if_neg (by omega), if_neg (by omega), if_neg (by omega)]
        have c1 : ρ.1 k 8 1 = u := by rw [hI, if_neg (by omega), if_neg (by omega), if_neg (by omega), if_neg (by omega), if_neg (by omega), if_pos ⟨rfl, rfl, rfl⟩]
        have c2 : ρ.1 k 8 2 = off := by rw [hI, if_neg (by omega), if_neg (by omega), if_neg (by omega), if_neg (by omega), if_pos ⟨rfl, rfl, rfl⟩]
        have c3 : ρ.1 k 8 3 = on := by rw [hI, if_neg (by omega), if_neg (by omega), if_neg (by omega), if_pos ⟨rfl, rfl, rfl⟩]
        have r : ∀ a j, ¬ (9 ≤ a ∧ a ≤ 11 ∧ j = k) → ρ.1 11 a j = σ.1 11 a j := fun a j hj => by
          rw [hI, if_neg (by omega), if_neg (by omega), if_neg (by omega), if_neg (by omega), if_neg (by omega), if_neg (by omega)]
        have rr : ∀ a, ¬ (9 ≤ a ∧ a ≤ 11) → rM ρ k a = rM σ k a := fun a ha => rM_row (fun j => r a j (by omega)) k
        have r9 : rM ρ k 9 0 = u := by rw [rM1 ρ k 9 rfl, hI, if_neg (by omega), if_neg (by omega), if_pos ⟨rfl, rfl, rfl⟩]
        have r10 : rM ρ k 10 0 = off := by rw [rM1 ρ k 10 rfl, hI, if_neg (by omega), if_pos ⟨rfl, rfl, rfl⟩]
        have r11 : rM ρ k 11 0 = on := by rw [rM1 ρ k 11 rfl, hI, if_pos ⟨rfl, rfl, rfl⟩]
        have ca : ∀ a, ¬ a = 8 → ρ.1 k a = σ.1 k a := fun a ha => by funext j; exact c a j (by omega)
        refine INV_upd h hk e2 (fun s h1 h2 => by funext a j; rw [hI, if_neg (by omega), if_neg (by omega), if_neg (by omega), if_neg (by omega), if_neg (by omega), if_neg (by omega)]) (fun a j hj => r a j (fun z => hj ?_)) (fun a ha ha8 => ca a ha8) (fun m hm => ?_)
        · obtain ⟨z1, z2, rfl⟩ := z
          have : a = 9 ∨ a = 10 ∨ a = 11 := by omega
          rcases this with rfl | rfl | rfl
          · exact ⟨by omega, by show 1 * j ≤ j; omega, by show j < 1 * j + 1; omega⟩
          · exact ⟨by omega, by show 1 * j ≤ j; omega, by show j < 1 * j + 1; omega⟩
          · exact ⟨by omega, by show 1 * j ≤ j; omega, by show j < 1 * j + 1; omega⟩
        · obtain ⟨a1, a2, a3, a4, a5, a6, a7, a8, a9, a10, a11, a12⟩ := hm
          obtain ⟨s1, s2, s3, s4, s5, s6, s7, s8⟩ := a1
          refine uA_keep (show uA _ _ _ _ _ _ m from ⟨⟨s1, s2, s3, s4, s5, s6, s7, s8⟩, a2, a3, a4, a5, a6, a7, a8, a9, a10, a11, a12⟩) ⟨?_, ?_, fun z => absurd z (by omega), fun z => absurd z (by omega), fun z => absurd z (by omega), fun z => absurd z (by omega), fun z => absurd h1 z, fun _ => ⟨by rw [r9, c1], by rw [r10, c2], by rw [r11, c3]⟩⟩ (uN_of a2 (fun a h1 h2 => ca a (by omega))) (uD_of a3 (fun z => by rw [rr 12 (by omega), c 8 0 (by omega)]; exact a3.1 z) (fun z => absurd h1 z) (fun j hj => c 8 j (by omega)) (fun k _ => by rw [ca 7 (by omega)]) (fun a h1 h2 k hk => by rw [ca a (by omega)]) (rr 6 (by omega)) (fun a h1 h2 => rr a (by omega))) (fun p hp => by rw [ca 2 (by omega)]; exact a8 p hp) (fun _ => by rw [c1]; exact Or.inr ⟨d, hd, ed⟩) (fun z => absurd h1 z) (fun a ha ha8 => ca a ha8) (rr 2 (by omega)) (rr 18 (by omega))
          · rw [rr 1 (by omega), ca 2 (by omega)]
            exact s1
          · rw [rr 3 (by omega), ca 3 (by omega)]
            exact s2
      · have n3 : ¬ inR 0 100000 off ∨ ¬ inR 0 100000 on ∨ ¬ on ≤ off := by
          by_cases z1 : inR 0 100000 off
          · by_cases z2 : inR 0 100000 on
            · exact Or.inr (Or.inr (fun z3 => h2 ⟨z1, z2, z3⟩))
            · exact Or.inr (Or.inl z2)
          · exact Or.inl z1
        simp only [if_neg n0, if_neg n1, if_pos h2, if_pos n3]
        exact ⟨trivial, h⟩
    · simp only [if_neg n0, if_pos h1]
      exact ⟨trivial, h⟩
  · simp only [if_pos h0]
    exact ⟨trivial, h⟩
/-! reading -/
theorem q_reading {σ : Sg} (h : INV σ) {k : Nat} (hk : k < σ.2.2.2) (w x d : Int32) : cr_reading σ k w x d = r_reading (cs_reading σ k w x d) k w x d ∧ INV (s_reading (cs_reading σ k w x d) k w x d) := by
  have hn := h.kw.1
  have hup := upt_le (σ.2.2.1 k)
  unfold cr_reading cs_reading r_reading s_reading
  by_cases h0 : inR 0 2 w
  · have n0 := not_not_intro h0
    by_cases h1 : σ.2.2.1 k = 0 ∨ σ.2.2.1 k = 7
    · have n1 : ¬ (¬ σ.2.2.1 k = 0 ∧ ¬ σ.2.2.1 k = 7) := fun z => h1.elim z.1 z.2
      simp only [if_neg n0, if_pos h1, if_pos n1]
      exact ⟨trivial, h⟩
    · have k0 : ¬ σ.2.2.1 k = 0 := fun z => h1 (Or.inl z)
      have k7 : ¬ σ.2.2.1 k = 7 := fun z => h1 (Or.inr z)
      have n1 := not_not_intro (show ¬ σ.2.2.1 k = 0 ∧ ¬ σ.2.2.1 k = 7 from ⟨k0, k7⟩)
      by_cases h2 : isU (1 + upt (σ.2.2.1 k)) w
      · have n2 := not_not_intro h2
        have h9 := h2
        obtain ⟨q, hq, rfl⟩ := isU_of (by omega) h2
        have n3 := not_not_intro (show nI q ≤ nI (upt (σ.2.2.1 k)) from nI_le (by omega) (by omega))
        by_cases h4 : inR 0 100000 x ∧ inR 1 100 d
        · have n4 := not_not_intro h4
          have n5 : ¬ (¬ inR 0 100000 x ∨ ¬ inR 1 100 d) := fun z => z.elim (fun q => q h4.1) (fun q => q h4.2)
          simp only [if_neg n0, if_neg h1, if_neg n2, if_neg n4, sI_L, if_neg n1, if_neg n3, if_neg n5]
          refine ⟨trivial, ?_⟩
          rw [tn_nI (by omega)]
          generalize hρ : sI (sI (sI (sI σ k 4 q x) k 5 q d) 11 22 (3 * k + q) x) 11 23 (3 * k + q) d = ρ
          have hI : ∀ s a j, ρ.1 s a j = if s = 11 ∧ a = 23 ∧ j = 3 * k + q then d else if s = 11 ∧ a = 22 ∧ j = 3 * k + q then x else if s = k ∧ a = 5 ∧ j = q then d else if s = k ∧ a = 4 ∧ j = q then x else σ.1 s a j := fun s a j => by rw [← hρ, sI_I, sI_I, sI_I, sI_I]
          have e2 : ρ.2 = σ.2 := by rw [← hρ]; rfl
          have c : ∀ a j, ¬ ((a = 4 ∨ a = 5) ∧ j = q) → ρ.1 k a j = σ.1 k a j := fun a j hj => by
            rw [hI, if_neg (by omega), if_neg (by omega), if_neg (by omega), if_neg (by omega)]
          have c4 : ρ.1 k 4 q = x := by rw [hI, if_neg (by omega), if_neg (by omega), if_neg (by omega), if_pos ⟨rfl, rfl, rfl⟩]
          have c5 : ρ.1 k 5 q = d := by rw [hI, if_neg (by omega), if_neg (by omega), if_pos ⟨rfl, rfl, rfl⟩]
          have r : ∀ a j, ¬ ((a = 22 ∨ a = 23) ∧ j = 3 * k + q) → ρ.1 11 a j = σ.1 11 a j := fun a j hj => by
            rw [hI, if_neg (by omega), if_neg (by omega), if_neg (by omega), if_neg (by omega)]
          have ca : ∀ a, ¬ (a = 4 ∨ a = 5) → ρ.1 k a = σ.1 k a := fun a ha => by funext j; exact c a j (by omega)
          have rr : ∀ a, ¬ (a = 22 ∨ a = 23) → rM ρ k a = rM σ k a := fun a ha => rM_row (fun j => r a j (by omega)) k
          have q3 : ∀ w, w < 3 → rM ρ k 22 w = (if w = q then x else rM σ k 22 w) ∧ rM ρ k 23 w = (if w = q then d else rM σ k 23 w) := by
            intro w hw
            rw [rM_at ρ k 22 w hw, rM_at ρ k 23 w hw, rM_at σ k 22 w hw, rM_at σ k 23 w hw]
            show ρ.1 11 22 (3 * k + w) = _ ∧ ρ.1 11 23 (3 * k + w) = _
            by_cases e : w = q
            · subst e
              have z1 : ρ.1 11 22 (3 * k + w) = x := by rw [hI, if_neg (by omega), if_pos ⟨rfl, rfl, rfl⟩]
              have z2 : ρ.1 11 23 (3 * k + w) = d := by rw [hI, if_pos ⟨rfl, rfl, rfl⟩]
              rw [z1, z2, if_pos rfl, if_pos rfl]
              exact ⟨rfl, rfl⟩
            · rw [r 22 _ (by omega), r 23 _ (by omega), if_neg e, if_neg e]
              exact ⟨rfl, rfl⟩
          refine INV_upd h hk e2 (fun s h1 h2 => by funext a j; rw [hI, if_neg (by omega), if_neg (by omega), if_neg (by omega), if_neg (by omega)]) (fun a j hj => r a j (fun z => hj ?_)) (fun a ha ha8 => ca a (by omega)) (fun m hm => ?_)
          · rcases z.1 with rfl | rfl
            · exact ⟨by omega, by show 3 * k ≤ j; omega, by show j < 3 * k + 3; omega⟩
            · exact ⟨by omega, by show 3 * k ≤ j; omega, by show j < 3 * k + 3; omega⟩
          · obtain ⟨a1, a2, a3, a4, a5, a6, a7, a8, a9, a10, a11, a12⟩ := hm
            obtain ⟨s1, s2, s3, s4, s5, s6, s7, s8⟩ := a1
            obtain ⟨r1, r2, r3, r4, r5, r6⟩ := a2
            refine uA_keep (show uA _ _ _ _ _ _ m from ⟨⟨s1, s2, s3, s4, s5, s6, s7, s8⟩, ⟨r1, r2, r3, r4, r5, r6⟩, a3, a4, a5, a6, a7, a8, a9, a10, a11, a12⟩) ⟨?_, ?_, ?_, ?_, ?_, ?_, fun z0 z7 w hw => ?_, fun z => absurd z k0⟩ ⟨?_, ?_, ?_, ?_, ?_, fun z0 z7 w hw => ?_⟩ (uD_of a3 (fun z => absurd z k0) (fun _ => by rw [rr 12 (by omega)]) (fun j hj => c 8 j (by omega)) (fun k _ => by rw [ca 7 (by omega)]) (fun a h1 h2 k hk => by rw [ca a (by omega)]) (rr 6 (by omega)) (fun a h1 h2 => rr a (by omega))) (fun p hp => by rw [ca 2 (by omega)]; exact a8 p hp) (fun z => absurd z k0) (fun z => by rw [rr 9 (by omega)]; exact a10 z) (fun a ha ha8 => ca a (by omega)) (rr 2 (by omega)) (rr 18 (by omega))
            · rw [rr 1 (by omega), ca 2 (by omega)]; exact s1
            · rw [rr 3 (by omega), ca 3 (by omega)]; exact s2
            · rw [rr 4 (by omega), ca 3 (by omega)]; exact s3
            · rw [rr 5 (by omega), ca 3 (by omega)]; exact s4
            · rw [rr 7 (by omega), ca 3 (by omega)]; exact s5
            · rw [rr 8 (by omega), ca 3 (by omega)]; exact s6
            · obtain ⟨p1, p2⟩ := q3 w (by omega)
              rw [p1, p2]
              by_cases e : w = q
              · rw [if_pos e, if_pos e, e, c4, c5]
                exact ⟨rfl, rfl⟩
              · rw [if_neg e, if_neg e, c 4 w (by omega), c 5 w (by omega)]
                exact s7 z0 z7 w hw
            · rw [ca 3 (by omega)]; exact r1
            · rw [ca 3 (by omega)]; exact r2
            · rw [ca 3 (by omega)]; exact r3
            · rw [ca 3 (by omega)]; exact r4
            · rw [ca 3 (by omega)]; exact r5
            · by_cases e : w = q
              · rw [e, c4, c5]
                exact h4
              · rw [c 4 w (by omega), c 5 w (by omega)]
                exact r6 z0 z7 w hw
        · have n5 : ¬ inR 0 100000 x ∨ ¬ inR 1 100 d := by
            by_cases z1 : inR 0 100000 x
            · exact Or.inr (fun z2 => h4 ⟨z1, z2⟩)
            · exact Or.inl z1
          simp only [if_neg n0, if_neg h1, if_neg n2, if_pos h4, if_neg n1, if_neg n3, if_pos n5]
          exact ⟨trivial, h⟩
      · have n3 : ¬ w ≤ nI (upt (σ.2.2.1 k)) := fun z => h2 (by
          obtain ⟨q, -, hq, rfl⟩ := inR_of (by decide) (by decide) h0
          have := (nI_leI (by omega) (by omega)).mp z
          exact isU_nI (by omega) (by omega))
        simp only [if_neg n0, if_neg h1, if_pos h2, if_neg n1, if_pos n3]
        exact ⟨trivial, h⟩
  · simp only [if_pos h0]
    exact ⟨trivial, h⟩
