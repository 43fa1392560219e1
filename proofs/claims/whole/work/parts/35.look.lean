/-! ===== calls that look ===== -/
theorem q_hold {σ : Sg} (h : INV σ) {k : Nat} (hk : k < σ.2.2.2) (c : Int32) : cr_hold σ k c = r_hold σ k c := by
  obtain ⟨m0, -, hu⟩ := h.ua hk
  unfold cr_hold r_hold
  by_cases h1 : inR 0 7 c
  · rw [if_pos h1, if_pos h1]
    obtain ⟨q, -, hq, rfl⟩ := inR_of (by decide) (by decide) h1
    rw [tn_nI (by omega), ← rM2 σ k q (by omega)]
    exact (hu.2.2.2.1 q (by omega)).symm
  · rw [if_neg h1, if_neg h1]
theorem q_told {σ : Sg} (h : INV σ) {k : Nat} (hk : k < σ.2.2.2) (j : Int32) : cr_told σ k j = r_told σ k j := by
  obtain ⟨m0, -, hu⟩ := h.ua hk
  have h8 := h.kw.2 k hk
  unfold cr_told r_told
  by_cases k0 : σ.2.2.1 k = 0
  · rw [if_pos k0, k0]
    by_cases h1 : inR 0 7 j
    · rw [if_pos h1, if_pos (show isU (unu 0) j from (inR_isU (b := 7) (by decide)).mp h1)]
      obtain ⟨q, -, hq, rfl⟩ := inR_of (by decide) (by decide) h1
      rw [tn_nI (by omega)]
      have := hu.1.2.1 k0 q (by omega)
      rw [rM_at σ k 3 q (show q < 8 by omega)] at this
      exact this.symm
    · rw [if_neg h1, if_neg (show ¬ isU (unu 0) j from fun z => h1 ((inR_isU (b := 7) (by decide)).mpr z))]
  · rw [if_neg k0]
    by_cases k2 : σ.2.2.1 k = 2
    · rw [if_pos k2, k2]
      by_cases h1 : inR 0 15 j
      · rw [if_pos h1, if_pos (show isU (unu 2) j from (inR_isU (b := 15) (by decide)).mp h1)]
        obtain ⟨q, -, hq, rfl⟩ := inR_of (by decide) (by decide) h1
        rw [tn_nI (by omega)]
        have := hu.1.2.2.1 k2 q (by omega)
        rw [rM_at σ k 4 q (show q < 16 by omega)] at this
        exact this.symm
      · rw [if_neg h1, if_neg (show ¬ isU (unu 2) j from fun z => h1 ((inR_isU (b := 15) (by decide)).mpr z))]
    · rw [if_neg k2]
      have eu : unu (σ.2.2.1 k) = ust (σ.2.2.1 k) := by
        generalize σ.2.2.1 k = κ at h8 k0 k2
        match κ, h8 with
        | 0, _ => exact absurd rfl k0
        | 1, _ => rfl
        | 2, _ => exact absurd rfl k2
        | 3, _ => rfl
        | 4, _ => rfl
        | 5, _ => rfl
        | 6, _ => rfl
        | 7, _ => rfl
      rw [eu]
      by_cases h1 : isU (ust (σ.2.2.1 k)) j
      · have hul := ust_le (σ.2.2.1 k)
        rw [if_pos h1, if_neg (not_not_intro h1)]
        obtain ⟨q, hq, rfl⟩ := isU_of (by omega) h1
        rw [tn_nI (by omega)]
        by_cases k5 : σ.2.2.1 k = 5
        · have hq0 : q = 0 := by rw [k5] at hq; have : q < 1 := hq; omega
          rw [if_pos k5, hq0, ← rM1 σ k 7 rfl]
          exact (hu.1.2.2.2.2.1 k5).symm
        · rw [if_neg k5]
          by_cases k6 : σ.2.2.1 k = 6
          · have hq0 : q = 0 := by rw [k6] at hq; have : q < 1 := hq; omega
            rw [if_pos k6, hq0, ← rM1 σ k 8 rfl]
            exact (hu.1.2.2.2.2.2.1 k6).symm
          · rw [if_neg k6]
            have h34 : σ.2.2.1 k = 3 ∨ σ.2.2.1 k = 4 := by
              generalize σ.2.2.1 k = κ at h8 k0 k2 k5 k6 hq
              match κ, h8 with
              | 0, _ => exact absurd rfl k0
              | 1, _ => exact absurd hq (Nat.not_lt_zero _)
              | 2, _ => exact absurd rfl k2
              | 3, _ => exact Or.inl rfl
              | 4, _ => exact Or.inr rfl
              | 5, _ => exact absurd rfl k5
              | 6, _ => exact absurd rfl k6
              | 7, _ => exact absurd hq (Nat.not_lt_zero _)
            have := hu.1.2.2.2.1 h34 q (by rw [eu]; exact hq)
            rw [rM_at σ k 5 q (show q < 4 by omega)] at this
            exact this.symm
      · rw [if_neg h1, if_pos h1]
theorem q_about {σ : Sg} (h : INV σ) {k : Nat} (hk : k < σ.2.2.2) (w : Int32) : cr_about σ k w = r_about σ k (tn (σ.1 11 13 k)) (tn (σ.1 11 16 k)) w := by
  obtain ⟨m0, -, hu⟩ := h.ua hk
  obtain ⟨hS, hN, hD, hH, hG, hX, hnn, hL, hC, hB, hF, hZ⟩ := hu
  have hmw := h.mw
  have e0 : nI (σ.2.2.1 k) = σ.1 11 0 k := (hmw.2.2 k hk).1.symm
  have e1 : l_sum (σ.1 k 0) 8 = mHold σ k := (hold_eq hH).symm
  have e3 : vLo σ k = l_sum (fun j => mLot σ k j) (tn (σ.1 11 16 k)) := (lots_eq hD).symm
  have es : vSl σ k = l_sum (fun j => mSlot σ k j) (tn (σ.1 11 13 k)) := (slots_eq hD).symm
  have e2 : vSl σ k = mLevel σ k (tn (σ.1 11 13 k)) (tn (σ.1 11 16 k)) - mHold σ k - l_sum (fun j => mLot σ k j) (tn (σ.1 11 16 k)) := by
    rw [es]
    unfold mLevel
    generalize mHold σ k = a
    generalize l_sum (fun k_1 => mSlot σ k k_1) (tn (σ.1 11 13 k)) = b
    generalize l_sum (fun k_1 => mLot σ k k_1) (tn (σ.1 11 16 k)) = c
    rw [Int32.add_comm a b, Int32.add_assoc, Int32.add_comm a c, ← Int32.add_assoc, Int32.add_sub_cancel, Int32.add_sub_cancel]
  have e4 : vLc σ k = σ.1 11 16 k := by
    unfold vLc
    by_cases k6 : σ.2.2.1 k = 6
    · obtain ⟨F, L, -, -, -, q1, q2, -⟩ := hD.2.2.2.2.2.1 k6
      rw [if_pos k6, q1, ← rM1 σ k 16 rfl, q2]
    · rw [if_neg k6, ← rM1 σ k 16 rfl, hD.2.2.2.2.2.2 k6]
      rfl
  have e5 : (if 0 < upt (σ.2.2.1 k) then σ.1 k 2 0 else -1) = σ.1 11 1 (2 * k) := by
    rw [← hS.1 0 (by decide), rM_at σ k 1 0 (by decide)]
    rfl
  have e6 : (if 1 < upt (σ.2.2.1 k) then σ.1 k 2 1 else -1) = σ.1 11 1 (2 * k + 1) := by
    rw [← hS.1 1 (by decide), rM_at σ k 1 1 (by decide)]
    rfl
  have e7 : (if σ.2.2.1 k = 0 ∧ ¬ σ.1 k 8 0 = 0 then nI 1 else nI 0) = if σ.1 11 12 k = 0 then nI 0 else nI 1 := by
    rw [← rM1 σ k 12 rfl]
    by_cases k0 : σ.2.2.1 k = 0
    · rw [(hD.1 k0).1]
      by_cases z : σ.1 k 8 0 = 0
      · rw [if_neg (fun q => q.2 z), if_pos z]
      · rw [if_pos ⟨k0, z⟩, if_neg z]
    · rw [if_neg (fun q => k0 q.1), hD.2.1 k0, if_pos rfl]
  have e8 : l_sum (σ.1 k 1) 8 = (lSum (fun c => σ.2.1 20 (8 * k + c)) 8).toInt32 := by
    rw [l_sum_n (g := fun c => tn (σ.1 k 1 c)) (fun c hc => (tn_of (hnn.2.1 c hc)).1)]
    rw [lSum_n (g := fun c => tn (σ.1 k 1 c)) (fun c hc => by
      obtain ⟨z1, z2⟩ := tn_of (hnn.2.1 c hc)
      rw [← rL20 σ k c hc, hX.1 c hc]
      generalize hy : tn (σ.1 k 1 c) = y at z1 z2
      rw [z1, nI_l z2]), lN_i]
  have e9 : ∀ p, p < 2 → (if p < upt (σ.2.2.1 k) then l_sum (σ.1 k (10 + p)) 8 else nI 0) = l_sum (fun c => σ.1 11 18 ((2 * k + p) * 8 + c)) 8 := by
    intro p hp
    by_cases z : p < upt (σ.2.2.1 k)
    · rw [if_pos z]
      exact l_sum_congr (fun c hc => by rw [← rM18 σ k p c hp hc, hG p hp c hc, if_pos z])
    · rw [if_neg z]
      exact (l_sum_0 (fun c hc => by rw [← rM18 σ k p c hp hc, hG p hp c hc, if_neg z])).symm
  unfold cr_about r_about
  rw [e0, e1, e2, e3, e4, e5, e6, e7, e8, e9 0 (by decide), e9 1 (by decide)]
theorem q_led {σ : Sg} (h : INV σ) {k : Nat} (hk : k < σ.2.2.2) (u z s : Int32) : cr_ledBack σ (nI k) u z s = r_ledBack σ k u z s := by
  have hn := h.kw.1
  obtain ⟨m0, -, hu⟩ := h.ua hk
  have hiu : isU σ.2.2.2 (nI k) := isU_nI (by omega) hk
  unfold cr_ledBack r_ledBack
  rw [tn_nI (by omega)]
  by_cases h1 : isU σ.2.2.2 u
  · by_cases h2 : inR 0 3 z
    · by_cases h3 : inR 0 1 s
      · by_cases h4 : σ.2.2.1 k = 7
        · simp only [if_neg (not_not_intro h1), if_neg (not_not_intro h2), if_neg (not_not_intro h3), if_neg (not_not_intro hiu), if_neg (not_not_intro h4)]
          obtain ⟨a, ha, rfl⟩ := isU_of (by omega) h1
          obtain ⟨b, -, hb, rfl⟩ := inR_of (by decide) (by decide) h2
          obtain ⟨c, -, hc, rfl⟩ := inR_of (by decide) (by decide) h3
          rw [tn_nI (by omega), tn_nI (by omega), tn_nI (by omega)]
          have := (hu.2.2.2.2.2.1.2 h4 a (by omega) (2 * b + c) (by omega)).1
          rw [rL21 σ k a (2 * b + c) (by omega) (by omega)] at this
          rw [Nat.add_assoc]
          exact this.symm
        · simp only [if_neg (not_not_intro h1), if_neg (not_not_intro h2), if_neg (not_not_intro h3), if_neg (not_not_intro hiu), if_pos h4]
      · simp only [if_neg (not_not_intro h1), if_neg (not_not_intro h2), if_pos h3]
        split <;> rfl
    · simp only [if_neg (not_not_intro h1), if_pos h2]
      split <;> rfl
  · simp only [if_pos h1]
theorem q_led_n {σ : Sg} {e u z s : Int32} (he : ¬ isU σ.2.2.2 e) : cr_ledBack σ e u z s = lNO := by
  unfold cr_ledBack
  rw [if_pos he]
  split
  · rfl
  · split
    · rfl
    · split <;> rfl
theorem fOn_le (σ : Sg) : ∀ k, σ.2.2.2 ≤ k → fOn σ k = fOn σ σ.2.2.2
  | 0, h => by rw [show σ.2.2.2 = 0 by omega]
  | k + 1, h => by
    by_cases e : σ.2.2.2 = k + 1
    · rw [e]
    · show fOn σ k + (if k < σ.2.2.2 ∧ σ.2.2.1 k = 0 ∧ ¬ σ.1 k 8 0 = 0 then 1 else 0) = _
      rw [if_neg (by omega), fOn_le σ k (by omega)]
      rfl
theorem q_count {σ : Sg} (h : INV σ) (w : Int32) : cr_count σ w = r_count σ w := by
  obtain ⟨m, L, hI, a1, a2, a3, a4, a5, a6, a7, a8⟩ := h
  have hn := hI.1.1
  have e3 : nI (fOn σ 10) = l_sum (fun u => if σ.1 11 12 u = 0 then nI 0 else nI 1) σ.2.2.2 := by
    rw [fOn_le σ 10 hn]
    have key : ∀ k, k ≤ σ.2.2.2 → nI (fOn σ k) = l_sum (fun u => if σ.1 11 12 u = 0 then nI 0 else nI 1) k := by
      intro k
      induction k with
      | zero => intro _; rfl
      | succ k ih =>
        intro hk
        show nI (fOn σ k + (if k < σ.2.2.2 ∧ σ.2.2.1 k = 0 ∧ ¬ σ.1 k 8 0 = 0 then 1 else 0)) = l_sum _ k + (if σ.1 11 12 k = 0 then nI 0 else nI 1)
        rw [← nI_add, ih (by omega)]
        congr 1
        obtain ⟨hS, hN, hD, -⟩ := hI.2.2.2.2.1 k (by omega)
        rw [← rM1 σ k 12 rfl]
        by_cases k0 : σ.2.2.1 k = 0
        · rw [(hD.1 k0).1]
          by_cases z : σ.1 k 8 0 = 0
          · rw [if_neg (fun q => q.2.2 z), if_pos z]
          · rw [if_pos ⟨by omega, k0, z⟩, if_neg z]
        · rw [if_neg (fun q => k0 q.2.1), hD.2.1 k0, if_pos rfl]
    exact key _ (Nat.le_refl _)
  unfold cr_count r_count
  rw [a1, a2, a3, a5, a6, e3, hI.2.2.1.2.1]
/-! table -/
theorem hs_nt {i a b c : Int32} (hi : inR 0 3 i) : hsOk i a b c ↔ ¬ n_table i a b c := by
  obtain ⟨z, -, hz, rfl⟩ := inR_of (by decide) (by decide) hi
  have e : ∀ z : Nat, z < 4 → ((inR 0 3 (nI z + nI 1) ↔ ¬ nI 2 < nI z) ∧ (inR 0 3 (nI z + nI 2) ↔ ¬ nI 1 < nI z) ∧ (inR 0 3 (nI z + nI 3) ↔ ¬ 0 < nI z)) := by decide
  obtain ⟨e1, e2, e3⟩ := e z (by omega)
  unfold hsOk n_table
  rw [e1, e2, e3]
  constructor
  · intro ⟨q1, q2, q3⟩ z
    rcases z with z | z | z
    · exact q1.elim (fun y => z.2 y) (fun y => y z.1)
    · exact q2.elim (fun y => z.2 y) (fun y => y z.1)
    · exact q3.elim (fun y => z.2 y) (fun y => y z.1)
  · intro q
    refine ⟨?_, ?_, ?_⟩
    · by_cases y : a = 0
      · exact Or.inl y
      · exact Or.inr (fun w => q (Or.inl ⟨w, y⟩))
    · by_cases y : b = 0
      · exact Or.inl y
      · exact Or.inr (fun w => q (Or.inr (Or.inl ⟨w, y⟩)))
    · by_cases y : c = 0
      · exact Or.inl y
      · exact Or.inr (fun w => q (Or.inr (Or.inr ⟨w, y⟩)))
/-- the class's row of tenths, the reference's, behind a telling -/
def tbV (z : Nat) (a b c : Int32) (f : Nat → Int32) (j : Nat) : Int32 := if j = 4 * z + z then nI 10 - a - b - c else if j = 4 * z + (z + 1) ∧ z < 3 then a else if j = 4 * z + (z + 2) ∧ z < 2 then b else if j = 4 * z + (z + 3) ∧ z < 1 then c else f j
theorem brk_at (σ : Sg) (k z : Nat) (hz : z < 4) (a b c : Int32) (s' a' j : Nat) : (s_brk σ k z a b c).1 s' a' j = if s' = k ∧ a' = 3 then tbV z a b c (σ.1 k 3) j else σ.1 s' a' j := by
  have e : (if s' = k ∧ a' = 3 then σ.1 k 3 j else σ.1 s' a' j) = σ.1 s' a' j := by
    split
    · next h => rw [h.1, h.2]
    · rfl
  rw [← e]
  unfold tbV
  match z, hz with
  | 0, _ =>
    show (sI (sI (sI (sI σ k 3 0 (nI 10 - a - b - c)) k 3 1 a) k 3 2 b) k 3 3 c).1 s' a' j = _
    rw [sI_I, sI_I, sI_I, sI_I, ← e]
    repeat' split
    all_goals first | rfl | omega
  | 1, _ =>
    show (sI (sI (sI σ k 3 5 (nI 10 - a - b - c)) k 3 6 a) k 3 7 b).1 s' a' j = _
    rw [sI_I, sI_I, sI_I, ← e]
    repeat' split
    all_goals first | rfl | omega
  | 2, _ =>
    show (sI (sI σ k 3 10 (nI 10 - a - b - c)) k 3 11 a).1 s' a' j = _
    rw [sI_I, sI_I, ← e]
    repeat' split
    all_goals first | rfl | omega
  | 3, _ =>
    show (sI σ k 3 15 (nI 10 - a - b - c)).1 s' a' j = _
    rw [sI_I, ← e]
    repeat' split
    all_goals first | rfl | omega
theorem tab_at (σ : Sg) (k z : Nat) (hz : z < 4) (a b c : Int32) (s' a' j : Nat) : (s_tableN σ k z a b c).1 s' a' j = if s' = 11 ∧ a' = 4 ∧ 16 * k ≤ j ∧ j < 16 * k + 16 then tbV z a b c (fun i => σ.1 11 4 (16 * k + i)) (j - 16 * k) else σ.1 s' a' j := by
  by_cases h : s' = 11 ∧ a' = 4 ∧ 16 * k ≤ j ∧ j < 16 * k + 16
  · rw [if_pos h]
    obtain ⟨rfl, rfl, h1, h2⟩ := h
    obtain ⟨i, rfl⟩ : ∃ i, j = 16 * k + i := ⟨j - 16 * k, by omega⟩
    rw [Nat.add_sub_cancel_left]
    unfold s_tableN tbV
    match z, hz with
    | 0, _ => simp [sI]; repeat' split
              all_goals first | rfl | omega
    | 1, _ => simp [sI]; repeat' split
              all_goals first | rfl | omega
    | 2, _ => simp [sI]; repeat' split
              all_goals first | rfl | omega
    | 3, _ => simp [sI]; repeat' split
              all_goals first | rfl | omega
  · rw [if_neg h]
    have e : ∀ (τ : Sg) (j' : Nat) (x : Int32), 16 * k ≤ j' → j' < 16 * k + 16 → (sI τ 11 4 j' x).1 s' a' j = τ.1 s' a' j := fun τ j' x q1 q2 => by rw [sI_I, if_neg (fun q => h ⟨q.1, q.2.1, by omega, by omega⟩)]
    unfold s_tableN
    match z, hz with
    | 0, _ => simp only [if_pos (show 0 < 3 by decide), if_pos (show 0 < 2 by decide), if_pos (show 0 < 1 by decide)]; rw [e _ _ _ (by omega) (by omega), e _ _ _ (by omega) (by omega), e _ _ _ (by omega) (by omega), e _ _ _ (by omega) (by omega)]
    | 1, _ => simp only [if_pos (show 1 < 3 by decide), if_pos (show 1 < 2 by decide), if_neg (show ¬ 1 < 1 by decide)]; rw [e _ _ _ (by omega) (by omega), e _ _ _ (by omega) (by omega), e _ _ _ (by omega) (by omega)]
    | 2, _ => simp only [if_pos (show 2 < 3 by decide), if_neg (show ¬ 2 < 2 by decide), if_neg (show ¬ 2 < 1 by decide)]; rw [e _ _ _ (by omega) (by omega), e _ _ _ (by omega) (by omega)]
    | 3, _ => simp only [if_neg (show ¬ 3 < 3 by decide), if_neg (show ¬ 3 < 2 by decide), if_neg (show ¬ 3 < 1 by decide)]; rw [e _ _ _ (by omega) (by omega)]
