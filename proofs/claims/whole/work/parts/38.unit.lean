/-! ===== a unit more keeps it ===== -/
def suS (u a j : Nat) : Prop := (a = 30 ∧ j = 0) ∨ ((a = 0 ∨ a = 1 ∨ a = 12 ∨ a = 4 ∨ a = 5 ∨ a = 7 ∨ a = 8 ∨ a = 9 ∨ a = 23) ∧ wd a * u ≤ j ∧ j < wd a * u + wd a)
theorem su1 {u a : Nat} (h : a = 0 ∨ a = 12 ∨ a = 7 ∨ a = 8 ∨ a = 9) : suS u a u := by
  rcases h with rfl | rfl | rfl | rfl | rfl
  all_goals exact Or.inr ⟨by omega, by show 1 * u ≤ u; omega, by show u < 1 * u + 1; omega⟩
theorem su_fr (σ : Sg) (u q : Nat) : FrM (suS u) σ (s_unit σ u q) := by
  unfold s_unit
  have a : FrM (suS u) σ (s_unitA σ u q) := by
    unfold s_unitA
    exact ((((FrM.rf.sI (Or.inl ⟨rfl, rfl⟩)).sI (su1 (by omega))).sI (Or.inr ⟨by omega, by show 2 * u ≤ 2 * u; omega, by show 2 * u < 2 * u + 2; omega⟩)).sI (Or.inr ⟨by omega, by show 2 * u ≤ 2 * u + 1; omega, by show 2 * u + 1 < 2 * u + 2; omega⟩)).sI (su1 (by omega))
  have b : FrM (suS u) (s_unitA σ u q) (itF (s_unitB u) 4 (s_unitA σ u q)) := FrM.it (fun c τ hc => by
    unfold s_unitB
    exact (FrM.rf.sI (Or.inr ⟨by omega, by show 16 * u ≤ _; omega, by show _ < 16 * u + 16; omega⟩)).sI (Or.inr ⟨by omega, by show 4 * u ≤ _; omega, by show _ < 4 * u + 4; omega⟩))
  have c : FrM (suS u) (itF (s_unitB u) 4 (s_unitA σ u q)) (s_unitC (itF (s_unitB u) 4 (s_unitA σ u q)) u) := by
    unfold s_unitC
    exact ((FrM.rf.sI (su1 (by omega))).sI (su1 (by omega))).sI (su1 (by omega))
  have d : FrM (suS u) (s_unitC (itF (s_unitB u) 4 (s_unitA σ u q)) u) (itF (s_unitD u) 3 (s_unitC (itF (s_unitB u) 4 (s_unitA σ u q)) u)) := FrM.it (fun c τ hc => by
    unfold s_unitD
    exact FrM.rf.sI (Or.inr ⟨by omega, by show 3 * u ≤ _; omega, by show _ < 3 * u + 3; omega⟩))
  exact ((a.tr b).tr c).tr d
section SUV
variable (σ : Sg) (u q : Nat)
theorem su_x (a j : Nat) : (s_unit σ u q).1 11 a j = if a = 23 ∧ j = 3 * u + 2 then nI 1 else if a = 23 ∧ j = 3 * u + 1 then nI 1 else if a = 23 ∧ j = 3 * u + 0 then nI 1 else if a = 9 ∧ j = u then -1 else if a = 8 ∧ j = u then nI 100 else if a = 7 ∧ j = u then nI 1 else if a = 5 ∧ j = 4 * u + 3 then nI 5 else if a = 4 ∧ j = 16 * u + 5 * 3 then nI 10 else if a = 5 ∧ j = 4 * u + 2 then nI 5 else if a = 4 ∧ j = 16 * u + 5 * 2 then nI 10 else if a = 5 ∧ j = 4 * u + 1 then nI 5 else if a = 4 ∧ j = 16 * u + 5 * 1 then nI 10 else if a = 5 ∧ j = 4 * u + 0 then nI 5 else if a = 4 ∧ j = 16 * u + 5 * 0 then nI 10 else if a = 12 ∧ j = u then (if q = 0 then nI 1 else nI 0) else if a = 1 ∧ j = 2 * u + 1 then -1 else if a = 1 ∧ j = 2 * u then -1 else if a = 0 ∧ j = u then nI q else if a = 30 ∧ j = 0 then nI (u + 1) else σ.1 11 a j := by
  have e : ∀ (τ : Sg) (b i : Nat) (x : Int32), (sI τ 11 b i x).1 11 a j = if a = b ∧ j = i then x else τ.1 11 a j := fun τ b i x => by
    rw [sI_I]
    by_cases h : a = b ∧ j = i
    · rw [if_pos ⟨rfl, h⟩, if_pos h]
    · rw [if_neg (fun z => h z.2), if_neg h]
  show (sI (sI (sI (sI (sI (sI (sI (sI (sI (sI (sI (sI (sI (sI (sI (sI (sI (sI (sI σ 11 30 0 _) 11 0 u _) 11 1 (2 * u) _) 11 1 (2 * u + 1) _) 11 12 u _) 11 4 (16 * u + 5 * 0) _) 11 5 (4 * u + 0) _) 11 4 (16 * u + 5 * 1) _) 11 5 (4 * u + 1) _) 11 4 (16 * u + 5 * 2) _) 11 5 (4 * u + 2) _) 11 4 (16 * u + 5 * 3) _) 11 5 (4 * u + 3) _) 11 7 u _) 11 8 u _) 11 9 u _) 11 23 (3 * u + 0) _) 11 23 (3 * u + 1) _) 11 23 (3 * u + 2) _).1 11 a j = _
  rw [e, e, e, e, e, e, e, e, e, e, e, e, e, e, e, e, e, e, e]
theorem su_0 : (s_unit σ u q).1 11 0 u = nI q := by rw [su_x]; simp
theorem su_30 : (s_unit σ u q).1 11 30 0 = nI (u + 1) := by rw [su_x]; simp
theorem su_1 (p : Nat) (hp : p < 2) : (s_unit σ u q).1 11 1 (2 * u + p) = -1 := by
  rw [su_x]
  match p, hp with
  | 0, _ => simp
  | 1, _ => simp
theorem su_12 : (s_unit σ u q).1 11 12 u = if q = 0 then nI 1 else nI 0 := by rw [su_x]; simp
theorem su_7 : (s_unit σ u q).1 11 7 u = nI 1 := by rw [su_x]; simp
theorem su_8 : (s_unit σ u q).1 11 8 u = nI 100 := by rw [su_x]; simp
theorem su_9 : (s_unit σ u q).1 11 9 u = -1 := by rw [su_x]; simp
theorem su_5 (i : Nat) (hi : i < 4) : (s_unit σ u q).1 11 5 (4 * u + i) = nI 5 := by
  rw [su_x]
  match i, hi with
  | 0, _ => simp
  | 1, _ => simp
  | 2, _ => simp
  | 3, _ => simp
theorem su_23 (i : Nat) (hi : i < 3) : (s_unit σ u q).1 11 23 (3 * u + i) = nI 1 := by
  rw [su_x]
  match i, hi with
  | 0, _ => simp
  | 1, _ => simp
  | 2, _ => simp
theorem su_4 (k : Nat) (hk : k < 16) : (s_unit σ u q).1 11 4 (16 * u + k) = if k % 5 = 0 then nI 10 else σ.1 11 4 (16 * u + k) := by
  rw [su_x]
  simp only [show ¬ (4 = 23) by decide, show ¬ (4 = 9) by decide, show ¬ (4 = 8) by decide, show ¬ (4 = 7) by decide, show ¬ (4 = 5) by decide, show ¬ (4 = 12) by decide, show ¬ (4 = 1) by decide, show ¬ (4 = 0) by decide, show ¬ (4 = 30) by decide, false_and, if_false, true_and]
  repeat' split
  all_goals first | rfl | omega
end SUV
theorem mlD_at : ∀ k, k < 16 → mlD k = if k % 5 = 0 then nI 10 else 0 := by decide
theorem c_unit_v (σ : Sg) (q : Nat) {v : Nat} (hv : v < σ.2.2.2) (hn : σ.2.2.2 < 10) : (c_unit σ q).1 v = σ.1 v := by
  funext a j
  show (if v = σ.2.2.2 then dD q a j else if v = 10 ∧ a = 0 ∧ j = 0 then nI (σ.2.2.2 + 1) else σ.1 v a j) = _
  rw [if_neg (by omega), if_neg (by omega)]
theorem dD_z {q a : Nat} (h : ¬ (a = 2 ∨ a = 3 ∨ a = 5 ∨ a = 8)) : dD q a = fun _ => 0 := by
  unfold dD
  split
  · exact absurd (by omega) h
  · exact absurd (by omega) h
  · exact absurd (by omega) h
  · exact absurd (by omega) h
  · rfl
theorem dD_N {q : Nat} (hq : q < 8) : uN q (dD q) := by
  match q, hq with
  | 0, _ => exact ⟨fun _ => by decide, fun z => absurd z (by decide), fun z => absurd z (by decide), fun z => absurd z (by decide), fun z => absurd z (by decide), fun z => absurd rfl z⟩
  | 1, _ => exact ⟨fun z => absurd z (by decide), fun z => absurd z (by decide), fun z => absurd z (by decide), fun z => absurd z (by decide), fun z => absurd z (by decide), fun _ _ => by decide⟩
  | 2, _ => exact ⟨fun z => absurd z (by decide), fun _ => ⟨by decide, by decide⟩, fun z => absurd z (by decide), fun z => absurd z (by decide), fun z => absurd z (by decide), fun _ _ => by decide⟩
  | 3, _ => exact ⟨fun z => absurd z (by decide), fun z => absurd z (by decide), fun _ => by decide, fun z => absurd z (by decide), fun z => absurd z (by decide), fun _ _ => by decide⟩
  | 4, _ => exact ⟨fun z => absurd z (by decide), fun z => absurd z (by decide), fun _ => by decide, fun z => absurd z (by decide), fun z => absurd z (by decide), fun _ _ => by decide⟩
  | 5, _ => exact ⟨fun z => absurd z (by decide), fun z => absurd z (by decide), fun z => absurd z (by decide), fun _ => by decide, fun z => absurd z (by decide), fun _ _ => by decide⟩
  | 6, _ => exact ⟨fun z => absurd z (by decide), fun z => absurd z (by decide), fun z => absurd z (by decide), fun z => absurd z (by decide), fun _ => by decide, fun _ _ => by decide⟩
  | 7, _ => exact ⟨fun z => absurd z (by decide), fun z => absurd z (by decide), fun z => absurd z (by decide), fun z => absurd z (by decide), fun z => absurd z (by decide), fun _ z => absurd rfl z⟩
/-- a new unit in its rows -/
theorem new_uA {n : Nat} {κs : Nat → Nat} {q : Nat} (hq : q < 8) {r : Nat → Nat → Int32} {rl : Nat → Nat → Int64} {m : Nat} (hz : ∀ a, (a = 2 ∨ a = 3 ∨ a = 6 ∨ a = 10 ∨ a = 11 ∨ a = 13 ∨ a = 16 ∨ a = 18 ∨ a = 22) → ∀ k, r a k = 0) (hl : ∀ a k, rl a k = 0) (h1 : ∀ p, p < 2 → r 1 p = -1) (h4 : ∀ k, k < 16 → r 4 k = if k % 5 = 0 then nI 10 else 0) (h5 : ∀ k, k < 4 → r 5 k = nI 5) (h7 : r 7 0 = nI 1) (h8 : r 8 0 = nI 100) (h9 : r 9 0 = -1) (h12 : r 12 0 = if q = 0 then nI 1 else nI 0) (h23 : ∀ k, k < 3 → r 23 k = nI 1) : uA n κs q (dD q) r rl m := by
  have hup := upt_le q
  have d2 : ∀ p, dD q 2 p = if p < upt q then -1 else 0 := fun p => rfl
  refine ⟨⟨fun p hp => ?_, fun z k hk => ?_, fun z k hk => ?_, fun z k hk => ?_, fun z => ?_, fun z => ?_, fun z0 z7 w hw => ⟨?_, ?_⟩, fun z => ?_⟩, dD_N hq, ⟨fun z => ?_, fun z => ?_, fun z k hk => ?_, fun z => ?_, fun _ => hz 13 (by omega) 0, fun z => ?_, fun _ => hz 16 (by omega) 0⟩, fun k hk => ?_, fun p hp k hk => ?_, ⟨fun k hk => ?_, fun z f hf k hk => ?_⟩, ⟨?_, ?_, fun z t ht => ?_, fun z t ht => ?_⟩, fun p hp => Or.inl ?_, fun z => Or.inl ?_, fun _ => h9, fun z s hs => ?_, fun z k hk => ?_⟩
  · rw [h1 p hp, d2 p]
    split <;> rfl
  · subst z
    rw [hz 3 (by omega)]
    show 0 = if k < 8 then nI (zSv 2 0) else 0
    rw [if_pos hk]
    rfl
  · subst z
    rw [h4 k hk]
    exact (mlD_at k hk).symm
  · rcases z with rfl | rfl
    · have hk : k < 4 := hk
      rw [h5 k hk]
      show nI 5 = if k < 4 then nI (zSv 2 3) else 0
      rw [if_pos hk]
      rfl
    · have hk : k < 2 := hk
      rw [h5 k (by omega)]
      show nI 5 = if k < 2 then nI (zSv 2 4) else 0
      rw [if_pos hk]
      rfl
  · subst z
    rw [h7]
    rfl
  · subst z
    rw [h8]
    rfl
  · rw [hz 22 (by omega), dD_z (by omega)]
  · rw [h23 w (by omega)]
    show nI 1 = if w < 1 + upt q then nI 1 else 0
    rw [if_pos hw]
  · subst z
    exact ⟨h9, hz 10 (by omega) 0, hz 11 (by omega) 0⟩
  · subst z
    rw [h12, if_pos rfl]
    exact ⟨rfl, Or.inr rfl⟩
  · rw [h12, if_neg z]
    rfl
  · rw [hz 6 (by omega), dD_z (by omega)]
    exact ⟨rfl, (by decide : inR 0 9 (0 : Int32))⟩
  · subst z
    exact ⟨0, 0, by decide, by decide, rfl, hz 13 (by omega) 0, fun i hi => absurd hi (Nat.not_lt_zero _), fun i hi => absurd hi (Nat.not_lt_zero _), fun a ha ha6 k hk => by
      have := sA_lt 0 a
      rw [dD_z (by omega)]⟩
  · subst z
    exact ⟨0, 0, by decide, by decide, rfl, rfl, hz 16 (by omega) 0, fun i hi => absurd hi (Nat.not_lt_zero _), fun k _ hk j hj => by rw [dD_z (by omega)]⟩
  · rw [hz 2 (by omega), dD_z (by omega)]
  · rw [hz 18 (by omega), dD_z (by omega)]
    split <;> rfl
  · rw [hl, dD_z (by omega)]
    rfl
  · rw [hl, dD_z (by omega), dD_z (by omega)]
    exact ⟨rfl, (by decide : ¬ (0 : Int32) < 0), Nat.le_refl _⟩
  · rw [dD_z (by omega)]
    exact nnR_zero (fun _ _ => rfl)
  · rw [dD_z (by omega)]
    exact nnR_zero (fun _ _ => rfl)
  · rw [dD_z (by omega)]
    exact nnR_zero (fun _ _ => rfl)
  · rw [dD_z (by omega)]
    exact nnR_zero (fun _ _ => rfl)
  · rw [d2 p, if_pos hp]
  · subst z
    rfl
  · rw [dD_z (by omega)]
    exact ⟨(by decide : ¬ (0 : Int32) < 0), by show tn 0 ≤ _; rw [tn_0]; omega⟩
  · rw [dD_z (by omega)]
theorem new_ms {q s : Nat} (hs : s < 2) : uMs q (dD q) s = 0 := by
  have w0 : ∀ a, ¬ (a = 2 ∨ a = 3 ∨ a = 5 ∨ a = 8) → wt s (dD q a) = 0 := fun a ha => by rw [dD_z ha]; exact wt_zero hs (fun _ _ => rfl)
  unfold uMs
  rw [w0 0 (by omega), w0 1 (by omega), nsum_zero (fun t ht => w0 (20 + t) (by omega)), nsum_zero (fun t ht => w0 (40 + t) (by omega))]
  split
  · rfl
  · split <;> rfl
theorem fdS_congr2 {σ σ' : Sg} {s : Nat} : ∀ {k : Nat}, (∀ v, v < k → σ'.2.2.1 v = σ.2.2.1 v ∧ (σ.2.2.1 v = 0 → σ'.1 v 6 s = σ.1 v 6 s)) → fdS σ' s k = fdS σ s k
  | 0, _ => rfl
  | k + 1, h => by
    show fdS σ' s k + (if σ'.2.2.1 k = 0 then (σ'.1 k 6 s).toInt64 else 0) = fdS σ s k + (if σ.2.2.1 k = 0 then (σ.1 k 6 s).toInt64 else 0)
    rw [fdS_congr2 (fun v hv => h v (by omega)), (h k (by omega)).1]
    by_cases e : σ.2.2.1 k = 0
    · rw [if_pos e, if_pos e, (h k (by omega)).2 e]
    · rw [if_neg e, if_neg e]
theorem q_unit {σ : Sg} (h : INV σ) (hn : σ.2.2.2 < 10) {q : Nat} (hq : q < 8) : INV (s_unit (c_unit σ q) σ.2.2.2 q) := by
  obtain ⟨m, L, hI, a1, a2, a3, a4, a5, a6, a7, a8⟩ := h
  obtain ⟨i1, i2, i3, i4, i5, i6, i7⟩ := hI
  have fr := su_fr (c_unit σ q) σ.2.2.2 q
  have c11 : ∀ a j, (c_unit σ q).1 11 a j = σ.1 11 a j := fun a j => by
    show (if 11 = σ.2.2.2 then dD q a j else if 11 = 10 ∧ a = 0 ∧ j = 0 then nI (σ.2.2.2 + 1) else σ.1 11 a j) = _
    rw [if_neg (by omega), if_neg (by omega)]
  have eL : (s_unit (c_unit σ q) σ.2.2.2 q).2.1 = σ.2.1 := rfl
  have ek : (s_unit (c_unit σ q) σ.2.2.2 q).2.2.1 = fun i => if i = σ.2.2.2 then q else σ.2.2.1 i := rfl
  have en : (s_unit (c_unit σ q) σ.2.2.2 q).2.2.2 = σ.2.2.2 + 1 := rfl
  have v0 := su_0 (c_unit σ q) σ.2.2.2 q
  have v30 := su_30 (c_unit σ q) σ.2.2.2 q
  have v1 := su_1 (c_unit σ q) σ.2.2.2 q
  have v12 := su_12 (c_unit σ q) σ.2.2.2 q
  have v7 := su_7 (c_unit σ q) σ.2.2.2 q
  have v8 := su_8 (c_unit σ q) σ.2.2.2 q
  have v9 := su_9 (c_unit σ q) σ.2.2.2 q
  have v5 := su_5 (c_unit σ q) σ.2.2.2 q
  have v23 := su_23 (c_unit σ q) σ.2.2.2 q
  have v4 := su_4 (c_unit σ q) σ.2.2.2 q
  have cs : ∀ s, ¬ s = 11 → (s_unit (c_unit σ q) σ.2.2.2 q).1 s = (c_unit σ q).1 s := fun s hs => by
    funext a j
    exact fr.1 s a j (fun z => hs z.1)
  have fr1 : ∀ a j, ¬ suS σ.2.2.2 a j → (s_unit (c_unit σ q) σ.2.2.2 q).1 11 a j = σ.1 11 a j := fun a j hj => (fr.1 11 a j (fun z => hj z.2)).trans (c11 a j)
  generalize s_unit (c_unit σ q) σ.2.2.2 q = ρ at *
  have er : ∀ v, ¬ v = σ.2.2.2 → ∀ a, ¬ a = 30 → rM ρ v a = rM σ v a := by
    intro v hv a ha
    funext k
    unfold rM
    by_cases hk : k < wd a
    · rw [if_pos hk, if_pos hk, fr1 a _ (fun z => z.elim (fun y => ha y.1) (fun y => wd_apart hv hk y.2.1 y.2.2 rfl))]
    · rw [if_neg hk, if_neg hk]
  have eRL : ∀ v, rL ρ v = rL σ v := fun v => rL_row (by rw [eL]) (by rw [eL]) v
  have cold : ∀ v, v < σ.2.2.2 → ρ.1 v = σ.1 v := fun v hv => by rw [cs v (by omega)]; exact c_unit_v σ q hv hn
  have cnew : ρ.1 σ.2.2.2 = dD q := by
    rw [cs _ (by omega)]
    funext a j
    exact if_pos rfl
  have c10 : ∀ a j, ρ.1 10 a j = if a = 0 ∧ j = 0 then nI (σ.2.2.2 + 1) else σ.1 10 a j := fun a j => by
    rw [cs 10 (by omega)]
    show (if 10 = σ.2.2.2 then dD q a j else if 10 = 10 ∧ a = 0 ∧ j = 0 then nI (σ.2.2.2 + 1) else σ.1 10 a j) = _
    rw [if_neg (by omega)]
    by_cases h : a = 0 ∧ j = 0
    · rw [if_pos ⟨rfl, h⟩, if_pos h]
    · rw [if_neg (fun z => h z.2), if_neg h]
  have kold : ∀ v, v < σ.2.2.2 → ρ.2.2.1 v = σ.2.2.1 v := fun v hv => by
    rw [ek]
    exact if_neg (by omega)
  have knew : ρ.2.2.1 σ.2.2.2 = q := by
    rw [ek]
    exact if_pos rfl
  have KWr : KW ρ := by
    refine ⟨by rw [en]; omega, fun v hv => ?_⟩
    rw [en] at hv
    by_cases e : v = σ.2.2.2
    · rw [e, knew]; exact hq
    · rw [kold v (by omega)]; exact i1.2 v (by omega)
  obtain ⟨z1, z2⟩ := a8 σ.2.2.2 (Nat.le_refl _) hn
  have n24 : ∀ a, 24 ≤ a → a ≤ 26 → ρ.1 11 a = σ.1 11 a := fun a h1 h2 => by
    funext j
    exact fr1 a j (by unfold suS; omega)
  refine ⟨m, L, ⟨KWr, rfl, ⟨KWr.1, by rw [en]; exact v30, fun v hv => ?_⟩, i4, fun v hv => ?_, fun s hs => ?_, fun s hs => ?_⟩, by rw [c10, if_pos ⟨rfl, rfl⟩, en], by rw [c10, if_neg (by omega)]; exact a2, by rw [fr1 30 1 (by unfold suS; omega)]; exact a3, a4, by rw [c10, if_neg (by omega)]; exact a5, by rw [fr1 30 2 (by unfold suS; omega)]; exact a6, ?_, fun v hv1 hv2 => ?_⟩
  · rw [en] at hv
    refine ⟨?_, KWr.2 v (by rw [en]; exact hv)⟩
    by_cases e : v = σ.2.2.2
    · rw [e, knew]; exact v0
    · rw [kold v (by omega), fr1 0 v (by
        intro z
        rcases z with z | ⟨-, z1, z2⟩
        · omega
        · have z1 : 1 * σ.2.2.2 ≤ v := z1
          have z2 : v < 1 * σ.2.2.2 + 1 := z2
          omega)]
      exact (i3.2.2 v (by omega)).1
  · rw [en] at hv ⊢
    rw [eRL]
    by_cases e : v = σ.2.2.2
    · subst e
      rw [knew, cnew]
      refine new_uA hq (fun a ha k => ?_) z2 (fun p hp => ?_) (fun k hk => ?_) (fun k hk => ?_) ?_ ?_ ?_ ?_ (fun k hk => ?_)
      · have hz := z1 a (by omega) k
        unfold rM at hz ⊢
        by_cases hk : k < wd a
        · rw [if_pos hk] at hz ⊢
          rw [fr1 a _ (by unfold suS; omega)]
          exact hz
        · rw [if_neg hk]
      · rw [rM_at ρ _ 1 p hp]
        exact v1 p hp
      · rw [rM_at ρ _ 4 k hk]
        show ρ.1 11 4 (16 * σ.2.2.2 + k) = _
        rw [v4 k hk]
        have hz := z1 4 (by omega) k
        rw [rM_at σ _ 4 k hk] at hz
        have hz : σ.1 11 4 (16 * σ.2.2.2 + k) = 0 := hz
        rw [c11, hz]
      · rw [rM_at ρ _ 5 k hk]
        exact v5 k hk
      · rw [rM1 ρ _ 7 rfl]; exact v7
      · rw [rM1 ρ _ 8 rfl]; exact v8
      · rw [rM1 ρ _ 9 rfl]; exact v9
      · rw [rM1 ρ _ 12 rfl]; exact v12
      · rw [rM_at ρ _ 23 k hk]
        exact v23 k hk
    · rw [kold v (by omega), cold v (by omega)]
      have hu := uA_r (i5 v (by omega)) (fun a ha => er v e a (by omega))
      obtain ⟨b1, b2, b3, b4, b5, b6, b7, b8, b9, b10, b11, b12⟩ := hu
      refine ⟨b1, b2, b3, b4, b5, b6, b7, fun p hp => ?_, fun z => ?_, b10, b11, b12⟩
      · rcases b8 p hp with y | ⟨d, hd, y, y2⟩
        · exact Or.inl y
        · exact Or.inr ⟨d, by omega, y, by rw [kold d hd]; exact y2⟩
      · rcases b9 z with y | ⟨d, hd, y⟩
        · exact Or.inl y
        · exact Or.inr ⟨d, by omega, y⟩
  · rw [en]
    have e1 : MT (σ.2.2.2 + 1) ρ.2.2.1 ρ s = MT σ.2.2.2 σ.2.2.1 σ s := by
      show nsum (fun v => uMs (ρ.2.2.1 v) (ρ.1 v) s) σ.2.2.2 + uMs (ρ.2.2.1 σ.2.2.2) (ρ.1 σ.2.2.2) s = _
      rw [knew, cnew, new_ms hs, Nat.add_zero]
      exact nsum_congr (fun v hv => by rw [kold v hv, cold v hv])
    rw [e1]
    exact i6 s hs
  · rw [en, eL, i7 s hs]
    show _ = fdS ρ s σ.2.2.2 + (if ρ.2.2.1 σ.2.2.2 = 0 then (ρ.1 σ.2.2.2 6 s).toInt64 else 0)
    rw [cnew, dD_z (by omega)]
    rw [fdS_congr2 (σ := σ) (fun v hv => ⟨kold v hv, fun _ => by rw [cold v hv]⟩)]
    split
    · exact (Int64.add_zero _).symm
    · exact (Int64.add_zero _).symm
  · unfold LD blw blg blp
    rw [n24 24 (by omega) (by omega), n24 25 (by omega) (by omega), n24 26 (by omega) (by omega)]
    refine ⟨fun s hs => ?_, a7.2⟩
    rw [c10, if_neg (by omega), c10, if_neg (by omega), c10, if_neg (by omega)]
    exact a7.1 s hs
  · rw [en] at hv1
    obtain ⟨y1, y2⟩ := a8 v (by omega) hv2
    refine ⟨fun a ha k => ?_, fun a k => by rw [eRL]; exact y2 a k⟩
    rw [er v (by omega) a (by omega)]
    exact y1 a ha k
