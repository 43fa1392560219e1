/-! ===== table, sum, close ===== -/
theorem tbV_congr {z : Nat} {a b c : Int32} {f g : Nat → Int32} {j : Nat} (h : f j = g j) : tbV z a b c f j = tbV z a b c g j := by
  unfold tbV
  rw [h]
theorem tn_ok {a b c : Int32} (h : tnOk a b c) : ∃ A B C : Nat, A + B + C ≤ 10 ∧ a = nI A ∧ b = nI B ∧ c = nI C := by
  obtain ⟨h1, h2, h3, h4⟩ := h
  obtain ⟨A, -, hA, rfl⟩ := inR_of (by decide) (by decide) h1
  obtain ⟨B, -, hB, rfl⟩ := inR_of (by decide) (by decide) h2
  obtain ⟨C, -, hC, rfl⟩ := inR_of (by decide) (by decide) h3
  rw [nI_add, nI_add] at h4
  refine ⟨A, B, C, Nat.le_of_not_lt (fun z => h4 (nI_lt z (by omega))), rfl, rfl, rfl⟩
theorem q_table {σ : Sg} (h : INV σ) {k : Nat} (hk : k < σ.2.2.2) (i a b c : Int32) : cr_table σ k i a b c = r_table (cs_table σ k i a b c) k i a b c ∧ INV (s_table (cs_table σ k i a b c) k i a b c) := by
  have hn := h.kw.1
  unfold cr_table cs_table r_table s_table
  by_cases h0 : inR 0 3 i
  · have n0 := not_not_intro h0
    by_cases h1 : σ.2.2.1 k = 2
    · have n1 := not_not_intro h1
      have heq := hs_nt (a := a) (b := b) (c := c) h0
      by_cases h2 : tnOk a b c ∧ hsOk i a b c
      · have n2 := not_not_intro h2
        have n3 : ¬ (¬ inR 0 10 a ∨ ¬ inR 0 10 b ∨ ¬ inR 0 10 c ∨ nI 10 < a + b + c ∨ n_table i a b c) := by
          intro z
          rcases z with z | z | z | z | z
          · exact z h2.1.1
          · exact z h2.1.2.1
          · exact z h2.1.2.2.1
          · exact h2.1.2.2.2 z
          · exact heq.mp h2.2 z
        obtain ⟨A, B, Cc, hABC, ea, eb, ec⟩ := tn_ok h2.1
        obtain ⟨z, -, hz, ez⟩ := inR_of (by decide) (by decide) h0
        have tz : tn i = z := by rw [ez, tn_nI (by omega)]
        have hb2 : (s_brk σ k (tn i) a b c).2.2.1 k = 2 := by
          rw [tz]
          unfold s_brk
          rw [s_tell_n, s_tell_n, s_tell_n]
          exact h1
        have e2b : (s_brk σ k (tn i) a b c).2 = σ.2 := by
          unfold s_brk
          rw [s_tell_n, s_tell_n, s_tell_n]
          rfl
        simp only [if_neg n0, if_neg n1, if_neg n2, if_neg (not_not_intro hb2), if_neg n3]
        refine ⟨trivial, ?_⟩
        rw [tz] at e2b ⊢
        have hz4 : z < 4 := by omega
        have e2 : (s_tableN (s_brk σ k z a b c) k z a b c).2 = σ.2 := by
          rw [← e2b]
          unfold s_tableN
          dsimp only
          repeat' split
          all_goals rfl
        have hI : ∀ s' a' j, (s_tableN (s_brk σ k z a b c) k z a b c).1 s' a' j = if s' = 11 ∧ a' = 4 ∧ 16 * k ≤ j ∧ j < 16 * k + 16 then tbV z a b c (fun i => σ.1 11 4 (16 * k + i)) (j - 16 * k) else if s' = k ∧ a' = 3 then tbV z a b c (σ.1 k 3) j else σ.1 s' a' j := by
          intro s' a' j
          rw [tab_at _ k z hz4, brk_at σ k z hz4]
          have : (fun i => (s_brk σ k z a b c).1 11 4 (16 * k + i)) = fun i => σ.1 11 4 (16 * k + i) := by
            funext i
            rw [brk_at σ k z hz4, if_neg (by omega)]
          rw [this]
        generalize s_tableN (s_brk σ k z a b c) k z a b c = ρ at e2 hI ⊢
        have ca : ∀ a', ¬ a' = 3 → ρ.1 k a' = σ.1 k a' := fun a' ha => by
          funext j
          rw [hI, if_neg (by omega), if_neg (by omega)]
        have c3 : ∀ j, ρ.1 k 3 j = tbV z a b c (σ.1 k 3) j := fun j => by
          rw [hI, if_neg (by omega), if_pos ⟨rfl, rfl⟩]
        have rr : ∀ a', ¬ a' = 4 → rM ρ k a' = rM σ k a' := fun a' ha => rM_row (fun j => by rw [hI, if_neg (by omega), if_neg (by omega)]) k
        have r4 : ∀ j, j < 16 → rM ρ k 4 j = tbV z a b c (fun i => σ.1 11 4 (16 * k + i)) j := fun j hj => by
          rw [rM_at ρ k 4 j hj]
          show ρ.1 11 4 (16 * k + j) = _
          rw [hI, if_pos ⟨rfl, rfl, by omega, by omega⟩, Nat.add_sub_cancel_left]
        refine INV_upd h hk e2 (fun s h1 h2 => by funext a' j; rw [hI, if_neg (by omega), if_neg (by omega)]) (fun a' j hj => ?_) (fun a' ha ha8 => ca a' (by omega)) (fun m hm => ?_)
        · rw [hI, if_neg (fun q => hj ?_), if_neg (by omega)]
          obtain ⟨-, rfl, q1, q2⟩ := q
          exact ⟨by decide, q1, q2⟩
        · obtain ⟨a1, a2, a3, a4, a5, a6, a7, a8, a9, a10, a11, a12⟩ := hm
          obtain ⟨s1, s2, s3, s4, s5, s6, s7, s8⟩ := a1
          obtain ⟨r1, r2, r3, r4', r5, r6⟩ := a2
          have e10 : nI 10 - a - b - c = nI (10 - A - B - Cc) := by rw [ea, eb, ec, pk_sub (by omega), pk_sub (by omega), pk_sub (by omega)]
          have vin : ∀ j, j < 16 → inR 0 10 (tbV z a b c (σ.1 k 3) j) := by
            intro j hj
            unfold tbV
            rw [e10]
            repeat' split
            · exact inR_nI (by omega) (by omega) (by decide)
            · exact h2.1.1
            · exact h2.1.2.1
            · exact h2.1.2.2.1
            · exact (r2 h1).1 j hj
          have nS : uS (σ.2.2.1 k) (ρ.1 k) (rM ρ k) := by
            rw [h1] at s1 s7 ⊢
            refine ⟨?_, fun z => absurd z (by decide), fun _ j hj => ?_, fun z => absurd z (by decide), fun z => absurd z (by decide), fun z => absurd z (by decide), ?_, fun z => absurd z (by decide)⟩
            · rw [rr 1 (by decide), ca 2 (by decide)]
              exact s1
            · rw [r4 j hj, c3 j]
              refine tbV_congr ?_
              have := s3 h1 j hj
              rw [rM_at σ k 4 j hj] at this
              exact this
            · rw [rr 22 (by decide), rr 23 (by decide), ca 4 (by decide), ca 5 (by decide)]
              exact s7
          have nN : uN (σ.2.2.1 k) (ρ.1 k) := by
            rw [h1] at r6 ⊢
            refine ⟨fun z => absurd z (by decide), fun _ => ⟨fun j hj => by rw [c3 j]; exact vin j hj, fun z' hz' => ?_⟩, fun z => absurd z (by decide), fun z => absurd z (by decide), fun z => absurd z (by decide), by rw [ca 4 (by decide), ca 5 (by decide)]; exact r6⟩
            by_cases e : z' = z
            · subst e
              have tA : tn a = A := by rw [ea, tn_nI (by omega)]
              have tB : tn b = B := by rw [eb, tn_nI (by omega)]
              have tC : tn c = Cc := by rw [ec, tn_nI (by omega)]
              have v : ∀ q, q < 3 - z' → tn (ρ.1 k 3 (4 * z' + (z' + 1 + q))) = if q = 0 then A else if q = 1 then B else Cc := by
                intro q hq
                rw [c3]
                unfold tbV
                rw [if_neg (by omega)]
                by_cases q0 : q = 0
                · rw [if_pos (by omega), if_pos q0, tA]
                · rw [if_neg (by omega), if_neg q0]
                  by_cases q1 : q = 1
                  · rw [if_pos (by omega), if_pos q1, tB]
                  · rw [if_neg (by omega), if_neg q1, if_pos (by omega), tC]
              rw [nsum_congr v]
              match z', hz' with
              | 0, _ => show 0 + A + B + Cc ≤ 10; omega
              | 1, _ => show 0 + A + B ≤ 10; omega
              | 2, _ => show 0 + A ≤ 10; omega
              | 3, _ => show 0 ≤ 10; omega
            · rw [nsum_congr (g := fun q => tn (σ.1 k 3 (4 * z' + (z' + 1 + q)))) (fun q hq => by
                rw [c3]
                unfold tbV
                rw [if_neg (by omega), if_neg (by omega), if_neg (by omega), if_neg (by omega)])]
              exact (r2 h1).2 z' hz'
          have nD : uD (σ.2.2.1 k) (ρ.1 k) (rM ρ k) := uD_of a3 (fun z => absurd z (by omega)) (fun _ => by rw [rr 12 (by decide)]) (fun j _ => by rw [ca 8 (by decide)]) (fun j _ => by rw [ca 7 (by decide)]) (fun a' h1 h2 j hj => by rw [ca a' (by omega)]) (rr 6 (by decide)) (fun a' h1 h2 => rr a' (by omega))
          exact uA_keep (show uA _ _ _ _ _ _ m from ⟨⟨s1, s2, s3, s4, s5, s6, s7, s8⟩, ⟨r1, r2, r3, r4', r5, r6⟩, a3, a4, a5, a6, a7, a8, a9, a10, a11, a12⟩) nS nN nD (fun p hp => by rw [ca 2 (by decide)]; exact a8 p hp) (fun z => absurd z (by omega)) (fun z => by rw [rr 9 (by decide)]; exact a10 z) (fun a' ha _ => ca a' (by omega)) (rr 2 (by decide)) (rr 18 (by decide))
      · have n3 : ¬ inR 0 10 a ∨ ¬ inR 0 10 b ∨ ¬ inR 0 10 c ∨ nI 10 < a + b + c ∨ n_table i a b c := by
          by_cases z1 : inR 0 10 a
          · by_cases z2 : inR 0 10 b
            · by_cases z3 : inR 0 10 c
              · by_cases z4 : nI 10 < a + b + c
                · exact Or.inr (Or.inr (Or.inr (Or.inl z4)))
                · by_cases z5 : n_table i a b c
                  · exact Or.inr (Or.inr (Or.inr (Or.inr z5)))
                  · exact absurd ⟨⟨z1, z2, z3, z4⟩, heq.mpr z5⟩ h2
              · exact Or.inr (Or.inr (Or.inl z3))
            · exact Or.inr (Or.inl z2)
          · exact Or.inl z1
        simp only [if_neg n0, if_neg n1, if_pos h2, if_pos n3]
        exact ⟨trivial, h⟩
    · simp only [if_neg n0, if_pos h1]
      exact ⟨trivial, h⟩
  · simp only [if_pos h0]
    exact ⟨trivial, h⟩
/-! sum -/
theorem nsum_comm (f : Nat → Nat → Nat) (n : Nat) : ∀ m, nsum (fun i => nsum (fun k => f i k) n) m = nsum (fun k => nsum (fun i => f i k) m) n
  | 0 => (nsum_zero (fun _ _ => rfl)).symm
  | m + 1 => by
    show nsum (fun i => nsum (fun k => f i k) n) m + nsum (fun k => f m k) n = nsum (fun k => nsum (fun i => f i k) m + f m k) n
    rw [nsum_comm f n m, nsum_add]
def stN (κ : Nat) (c : Nat → Nat → Int32) (s : Nat) : Nat := if κ = 5 then nsum (fun t => wt s (c (20 + t))) 6 else if κ = 6 then nsum (fun t => wt s (c (40 + t))) 20 else 0
theorem vSt_n {σ : Sg} {u : Nat} (hnn : uNn (σ.2.2.1 u) (σ.1 u)) {s : Nat} (hs : s < 2) : vSt σ u s = nI (stN (σ.2.2.1 u) (σ.1 u) s) := by
  unfold vSt stN
  by_cases h5 : σ.2.2.1 u = 5
  · rw [if_pos h5, if_pos h5]
    exact l_sum_n (fun t ht => tSt_wt (hnn.2.2.1 h5 t ht) hs)
  · rw [if_neg h5, if_neg h5]
    by_cases h6 : σ.2.2.1 u = 6
    · rw [if_pos h6, if_pos h6]
      exact l_sum_n (fun t ht => tSt_wt (hnn.2.2.2 h6 t ht) hs)
    · rw [if_neg h6, if_neg h6]
theorem toL_n {x : Int32} (h : ¬ x < 0) : x.toInt64 = lN (tn x) := by
  obtain ⟨j, hj, rfl⟩ := nI_of h
  rw [tn_nI hj, nI_l hj]
theorem within_eq {σ : Sg} {u : Nat} {m : Nat} (hm : m ≤ 3000) (hu : uA σ.2.2.2 σ.2.2.1 (σ.2.2.1 u) (σ.1 u) (rM σ u) (rL σ u) m) {s : Nat} (hs : s < 2) (hb : uMs (σ.2.2.1 u) (σ.1 u) s ≤ 130000000) : mWithin σ u (tn (σ.1 11 13 u)) (tn (σ.1 11 16 u)) s = (tSt (σ.1 u 0) s + vSt σ u s).toInt64 := by
  obtain ⟨hS, hN, hD, hH, hG, hX, hnn, hL, hC, hB, hF, hZ⟩ := hu
  have eu : uMs (σ.2.2.1 u) (σ.1 u) s = wt s (σ.1 u 0) + wt s (σ.1 u 1) + stN (σ.2.2.1 u) (σ.1 u) s := rfl
  rw [vSt_n hnn hs, tSt_wt hnn.1 hs, nI_add, nI_l (by omega)]
  -- slots and lots of the reference, as naturals
  have sl : ∃ f : Nat → Nat → Nat, (∀ k, k < tn (σ.1 11 13 u) → ∀ c, c < 8 → (σ.1 11 14 ((7 * u + k) * 8 + c)).toInt64 = lN (f k c)) ∧ nsum (fun k => nsum (fun i => f k (2 * i + s)) 4) (tn (σ.1 11 13 u)) = if σ.2.2.1 u = 5 then nsum (fun t => wt s (σ.1 u (20 + t))) 6 else 0 := by
    by_cases h5 : σ.2.2.1 u = 5
    · obtain ⟨T, K, hU⟩ := hD.2.2.2.1 h5
      have hs2 := tk_sumN hU (fun f => wt s f) (fun f hf => wt_zero hs hf)
      obtain ⟨hT, hK, -, eK, -, hSl, -⟩ := hU
      have eK : tn (σ.1 11 13 u) = K := by rw [← rM1 σ u 13 rfl, eK, tn_nI (by omega)]
      refine ⟨fun k c => tn (σ.1 u (20 + sA T (K - k)) c), fun k hk c hc => ?_, ?_⟩
      · rw [eK] at hk
        rw [← rM14 σ u k c (by omega) hc, hSl k hk c hc]
        exact toL_n (hnn.2.2.1 h5 _ (sA_lt _ _) c hc)
      · rw [if_pos h5, eK, hs2]
        rfl
    · refine ⟨fun _ _ => 0, fun k hk => ?_, ?_⟩
      · rw [← rM1 σ u 13 rfl, hD.2.2.2.2.1 h5, tn_0] at hk
        exact absurd hk (Nat.not_lt_zero _)
      · rw [if_neg h5, ← rM1 σ u 13 rfl, hD.2.2.2.2.1 h5, tn_0]
        rfl
  have lo : ∃ f : Nat → Nat → Nat, (∀ k, k < tn (σ.1 11 16 u) → ∀ c, c < 8 → (σ.1 11 17 ((20 * u + k) * 8 + c)).toInt64 = lN (f k c)) ∧ nsum (fun k => nsum (fun i => f k (2 * i + s)) 4) (tn (σ.1 11 16 u)) = if σ.2.2.1 u = 6 then nsum (fun t => wt s (σ.1 u (40 + t))) 20 else 0 := by
    by_cases h6 : σ.2.2.1 u = 6
    · obtain ⟨F, L, hU⟩ := hD.2.2.2.2.2.1 h6
      have hs2 := pl_sumN hU (fun f => wt s f) (fun f hf => wt_zero hs hf)
      obtain ⟨hF9, hL9, -, -, eL, hLo, -⟩ := hU
      have eL : tn (σ.1 11 16 u) = L := by rw [← rM1 σ u 16 rfl, eL, tn_nI (by omega)]
      refine ⟨fun k c => tn (σ.1 u (40 + (F + k) % 20) c), fun k hk c hc => ?_, ?_⟩
      · rw [eL] at hk
        rw [← rM17 σ u k c (by omega) hc, hLo k hk c hc]
        exact toL_n (hnn.2.2.2 h6 _ (Nat.mod_lt _ (by decide)) c hc)
      · rw [if_pos h6, eL, hs2]
        rfl
    · refine ⟨fun _ _ => 0, fun k hk => ?_, ?_⟩
      · rw [← rM1 σ u 16 rfl, hD.2.2.2.2.2.2 h6, tn_0] at hk
        exact absurd hk (Nat.not_lt_zero _)
      · rw [if_neg h6, ← rM1 σ u 16 rfl, hD.2.2.2.2.2.2 h6, tn_0]
        rfl
  obtain ⟨f, f1, f2⟩ := sl
  obtain ⟨g, g1, g2⟩ := lo
  have ew : ∀ i, i < 4 → mWt σ u (tn (σ.1 11 13 u)) (tn (σ.1 11 16 u)) (s + 2 * i) = lN (tn (σ.1 u 0 (2 * i + s)) + nsum (fun k => f k (2 * i + s)) (tn (σ.1 11 13 u)) + nsum (fun k => g k (2 * i + s)) (tn (σ.1 11 16 u))) := by
    intro i hi
    unfold mWt
    rw [show s + 2 * i = 2 * i + s by omega]
    rw [lSum_n (g := fun k => f k (2 * i + s)) (fun k hk => f1 k hk (2 * i + s) (by omega)), lSum_n (g := fun k => g k (2 * i + s)) (fun k hk => g1 k hk (2 * i + s) (by omega))]
    rw [← rM2 σ u (2 * i + s) (by omega), hH (2 * i + s) (by omega), toL_n (hnn.1 (2 * i + s) (by omega)), lN_add, lN_add]
  unfold mWithin
  rw [lSum_n ew]
  congr 1
  rw [nsum_add, nsum_add, nsum_comm (fun i k => f k (2 * i + s)), nsum_comm (fun i k => g k (2 * i + s)), f2, g2]
  unfold stN
  show wt s (σ.1 u 0) + _ + _ = _
  by_cases h5 : σ.2.2.1 u = 5
  · rw [if_pos h5, if_pos h5, if_neg (by omega)]
    rfl
  · rw [if_neg h5, if_neg h5]
    omega
theorem q_sum {σ : Sg} (h : INV σ) {s w : Nat} (hs : s < 2) (hw : w < 4) : cSum σ s w 10 = r_sum σ (fun u => tn (σ.1 11 13 u)) (fun u => tn (σ.1 11 16 u)) s w := by
  obtain ⟨m, L, hI, -⟩ := h
  obtain ⟨i1, i2, i3, i4, i5, i6, i7⟩ := hI
  have hn := i1.1
  have cut : ∀ k, σ.2.2.2 ≤ k → cSum σ s w k = cSum σ s w σ.2.2.2 := by
    intro k
    induction k with
    | zero => intro hk; rw [show σ.2.2.2 = 0 by omega]
    | succ k ih =>
      intro hk
      by_cases e : σ.2.2.2 = k + 1
      · rw [e]
      · show (if k < σ.2.2.2 then cSum σ s w k + shS σ k s w else cSum σ s w k) = _
        rw [if_neg (by omega)]
        exact ih (by omega)
  rw [cut 10 hn]
  unfold r_sum
  by_cases w0 : w = 0
  · rw [if_pos w0, i7 s hs]
    have key : ∀ k, k ≤ σ.2.2.2 → cSum σ s w k = fdS σ s k := by
      intro k
      induction k with
      | zero => intro _; rfl
      | succ k ih =>
        intro hk
        show (if k < σ.2.2.2 then cSum σ s w k + shS σ k s w else cSum σ s w k) = fdS σ s k + (if σ.2.2.1 k = 0 then (σ.1 k 6 s).toInt64 else 0)
        rw [if_pos (by omega), ih (by omega)]
        unfold shS
        rw [if_pos w0]
    exact key _ (Nat.le_refl _)
  · rw [if_neg w0]
    have key : ∀ k, k ≤ σ.2.2.2 → cSum σ s w k = r_sumT σ (fun u => tn (σ.1 11 13 u)) (fun u => tn (σ.1 11 16 u)) s w k := by
      intro k
      induction k with
      | zero => intro _; rfl
      | succ k ih =>
        intro hk
        have hu := i5 k (by omega)
        have hb : uMs (σ.2.2.1 k) (σ.1 k) s ≤ 130000000 := by
          have h1 := i6 s hs
          have h2 := nsum_le (f := fun v => uMs (σ.2.2.1 v) (σ.1 v) s) (show k < σ.2.2.2 by omega)
          unfold MT at h1
          omega
        have ew := within_eq i4 hu hs hb
        have hnn := hu.2.2.2.2.2.2.1
        show (if k < σ.2.2.2 then cSum σ s w k + shS σ k s w else cSum σ s w k) = r_sumU σ (fun u => tn (σ.1 11 13 u)) (fun u => tn (σ.1 11 16 u)) s w k (if w = 2 then r_sumT σ (fun u => tn (σ.1 11 13 u)) (fun u => tn (σ.1 11 16 u)) s w k + lSum (fun i => σ.2.1 20 (8 * k + (s + 2 * i))) 4 else r_sumT σ (fun u => tn (σ.1 11 13 u)) (fun u => tn (σ.1 11 16 u)) s w k)
        rw [if_pos (by omega), ih (by omega)]
        generalize r_sumT σ (fun u => tn (σ.1 11 13 u)) (fun u => tn (σ.1 11 16 u)) s w k = acc
        unfold r_sumU shS
        dsimp only
        rw [ew, if_neg w0]
        by_cases w2 : w = 2
        · rw [if_neg (show ¬ w = 1 by omega), if_pos w2, if_pos w2, if_neg (by rw [w2]; split <;> decide)]
          congr 1
          rw [tSt_wt hnn.2.1 hs]
          have bw : wt s (σ.1 k 1) ≤ 130000000 := by
            have : wt s (σ.1 k 1) ≤ uMs (σ.2.2.1 k) (σ.1 k) s := by unfold uMs; omega
            omega
          rw [nI_l (by omega)]
          unfold wt
          refine (lSum_n (fun i hi => ?_)).symm
          rw [show s + 2 * i = 2 * i + s by omega, ← rL20 σ k (2 * i + s) (by omega), hu.2.2.2.2.2.1.1 (2 * i + s) (by omega)]
          exact toL_n (hnn.2.1 (2 * i + s) (by omega))
        · rw [if_neg w2, if_neg w2]
          by_cases k7 : σ.2.2.1 k = 7
          · rw [if_pos k7, if_pos k7, if_pos k7]
            have v0 : vSt σ k s = 0 := by
              unfold vSt
              rw [if_neg (by omega), if_neg (by omega)]
              rfl
            by_cases w1 : w = 1
            · rw [if_pos w1, if_pos w1, v0, Int32.add_zero]
            · rw [if_neg w1, if_neg w1, Int64.add_zero]
          · rw [if_neg k7, if_neg k7, if_neg k7]
            by_cases w1 : w = 1
            · rw [if_pos w1, if_neg (by omega), Int64.add_zero]
            · rw [if_neg w1, if_pos (by omega)]
    exact key _ (Nat.le_refl _)
