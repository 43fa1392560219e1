/-! ===== the law's loop, and where it begins ===== -/
def LwF (l : Launch) (Ω : OmT) (E : ZE) (b : Nat) : Prop := ∀ (τ : Sg) (c' s' i : Nat), c' ≤ 703340 → s' ≤ 6992228 → ZV l Ω E c' s' 861 [(0, .ref b), (1, rfO Ω 0), (2, rfO Ω 6), (3, .int (nI i))] [.int 1] (hp Ω τ) (hN τ)
set_option maxHeartbeats 4000000 in
set_option maxRecDepth 100000 in
theorem lw_top {l : Launch} {Ω : OmT} {E : ZE} {nm : String} (C : ZC Ω E code "GrindWorksLaw" ret room_1 nm) {b L : Nat} {xs : Nat → Int32} (hX : SX Ω E b L xs) {σ : Sg} {i cells slots : Nat} (hi : i ≤ 4000) (hc : cells ≤ 703340 ∧ slots ≤ 6992228) (fin : LwF l Ω E b) (kF : i + 6 ≤ L → ZV l Ω E cells slots 27 [(0, .ref b), (1, rfO Ω 0), (2, rfO Ω 6), (3, .int (nI i))] [] (hp Ω σ) (hN σ)) : ZV l Ω E cells slots 18 [(0, .ref b), (1, rfO Ω 0), (2, rfO Ω 6), (3, .int (nI i))] [] (hp Ω σ) (hN σ) := by
  have hL3 := hX.2.2
  refine z_iload_n (pc := 18) C dL_18 rfl ?_
  refine z_aload_n (pc := 19) C dL_19 rfl ?_
  refine z_slen (pc := 20) C hX dL_20 ?_
  refine z_bipush (pc := 21) (v := nI 6) C dL_21 (by decide) ?_
  refine z_isub (pc := 23) C dL_23 ?_
  refine z_icmp_gt (pc := 24) (tgt := 860) C dL_24 (by decide) (fun _ => ?_) (fun z => kF ?_)
  · refine z_iconst (pc := 860) (v := 1) C dL_860 (by decide) ?_
    exact fin σ cells slots i hc.1 hc.2
  · refine Nat.le_of_not_lt (fun h => z (Int32.lt_iff_toInt_lt.mpr ?_))
    rw [pk_sub_toInt (by omega) (by decide), nI_toInt (by omega)]
    omega
set_option maxHeartbeats 4000000 in
set_option maxRecDepth 100000 in
theorem lw_loop {l : Launch} {Ω : OmT} {E : ZE} {nm : String} (hE : E.2.2.1 = 4) (C : ZC Ω E code "GrindWorksLaw" ret room_1 nm) {b L : Nat} {xs : Nat → Int32} (hX : SX Ω E b L xs) (fin : LwF l Ω E b) : ∀ (t i cells slots : Nat) (σ : Sg), INV σ → L < i + 6 * t + 6 → i ≤ 3078 → cells + 31 * t ≤ 703340 → slots + 223 * t ≤ 6992228 → ZV l Ω E cells slots 18 [(0, .ref b), (1, rfO Ω 0), (2, rfO Ω 6), (3, .int (nI i))] [] (hp Ω σ) (hN σ) := by
  have hL3 := hX.2.2
  intro t
  induction t with
  | zero =>
    intro i cells slots σ hI h1 h2 h3 h4
    exact lw_top C hX (by omega) ⟨by omega, by omega⟩ fin (fun h => absurd h (by omega))
  | succ t ih =>
    intro i cells slots σ hI h1 h2 h3 h4
    refine lw_top C hX (by omega) ⟨by omega, by omega⟩ fin (fun hi => ?_)
    have hc : cells + 31 ≤ 703340 ∧ slots + 223 ≤ 6992228 := ⟨by omega, by omega⟩
    have nx : LwN l Ω E b i cells slots := by
      intro τ c' s' n' hI' hc' hs' hn'
      subst hn'
      refine z_iinc (pc := 854) (v := nI (i + 6)) C dL_854 rfl (by rw [← nI_add]; rfl) (by rw [hE]; decide) ?_
      refine z_goto (pc := 857) (tgt := 18) C dL_857 (by decide) ?_
      refine z_pick [0, 1, 2, 3] rfl ?_
      exact ih (i + 6) c' s' τ hI' (by omega) (by omega) (by omega) (by omega)
    refine z_aload_n (pc := 27) C dL_27 rfl ?_
    refine z_iload_n (pc := 28) C dL_28 rfl ?_
    refine z_sld (pc := 29) C hX dL_29 (by omega) ?_
    refine z_bipush (pc := 30) (v := nI 31) C dL_30 (by decide) ?_
    refine z_iand (pc := 32) C dL_32 ?_
    obtain ⟨v, hv, ev⟩ := and31 (xs i)
    rw [ev]
    match v, hv with
    | 0, _ =>
      refine z_tabInN (pc := 33) (a := 0) (tgt := 124) C dL_33 (by decide) (by decide) rfl (by decide) (by decide) ?_
      exact lc_unit C hX hI hi hc nx
    | 1, _ =>
      refine z_tabInN (pc := 33) (a := 1) (tgt := 147) C dL_33 (by decide) (by decide) rfl (by decide) (by decide) ?_
      exact lc_lead C hX hI hi hc nx
    | 2, _ =>
      refine z_tabInN (pc := 33) (a := 2) (tgt := 190) C dL_33 (by decide) (by decide) rfl (by decide) (by decide) ?_
      exact lc_rate C hX hI hi hc nx
    | 3, _ =>
      refine z_tabInN (pc := 33) (a := 3) (tgt := 233) C dL_33 (by decide) (by decide) rfl (by decide) (by decide) ?_
      exact lc_table C hX hI hi hc nx
    | 4, _ =>
      refine z_tabInN (pc := 33) (a := 4) (tgt := 296) C dL_33 (by decide) (by decide) rfl (by decide) (by decide) ?_
      exact lc_set C hX hI hi hc nx
    | 5, _ =>
      refine z_tabInN (pc := 33) (a := 5) (tgt := 339) C dL_33 (by decide) (by decide) rfl (by decide) (by decide) ?_
      exact lc_control C hX hI hi hc nx
    | 6, _ =>
      refine z_tabInN (pc := 33) (a := 6) (tgt := 392) C dL_33 (by decide) (by decide) rfl (by decide) (by decide) ?_
      exact lc_turn C hX hI hi hc nx
    | 7, _ =>
      refine z_tabInN (pc := 33) (a := 7) (tgt := 425) C dL_33 (by decide) (by decide) rfl (by decide) (by decide) ?_
      exact lc_run C hX hI hi hc nx
    | 8, _ =>
      refine z_tabInN (pc := 33) (a := 8) (tgt := 448) C dL_33 (by decide) (by decide) rfl (by decide) (by decide) ?_
      exact lc_hold C hX hI hi hc nx
    | 9, _ =>
      refine z_tabInN (pc := 33) (a := 9) (tgt := 481) C dL_33 (by decide) (by decide) rfl (by decide) (by decide) ?_
      exact lc_about C hX hI hi hc nx
    | 10, _ =>
      refine z_tabInN (pc := 33) (a := 10) (tgt := 514) C dL_33 (by decide) (by decide) rfl (by decide) (by decide) ?_
      exact lc_told C hX hI hi hc nx
    | 11, _ =>
      refine z_tabInN (pc := 33) (a := 11) (tgt := 547) C dL_33 (by decide) (by decide) rfl (by decide) (by decide) ?_
      exact lc_sum C hX hI hi hc nx
    | 12, _ =>
      refine z_tabInN (pc := 33) (a := 12) (tgt := 581) C dL_33 (by decide) (by decide) rfl (by decide) (by decide) ?_
      exact lc_ledBack C hX hI hi hc nx
    | 13, _ =>
      refine z_tabInN (pc := 33) (a := 13) (tgt := 635) C dL_33 (by decide) (by decide) rfl (by decide) (by decide) ?_
      exact lc_reading C hX hI hi hc nx
    | 14, _ =>
      refine z_tabInN (pc := 33) (a := 14) (tgt := 688) C dL_33 (by decide) (by decide) rfl (by decide) (by decide) ?_
      exact lc_close C hX hI hi hc nx
    | 15, _ =>
      refine z_tabInN (pc := 33) (a := 15) (tgt := 732) C dL_33 (by decide) (by decide) rfl (by decide) (by decide) ?_
      exact lc_load C hX hI hi hc nx
    | 16, _ =>
      refine z_tabInN (pc := 33) (a := 16) (tgt := 775) C dL_33 (by decide) (by decide) rfl (by decide) (by decide) ?_
      exact lc_unload C hX hI hi hc nx
    | 17, _ =>
      refine z_tabInN (pc := 33) (a := 17) (tgt := 788) C dL_33 (by decide) (by decide) rfl (by decide) (by decide) ?_
      exact lc_blend C hX hI hi hc nx
    | 18, _ =>
      refine z_tabInN (pc := 33) (a := 18) (tgt := 831) C dL_33 (by decide) (by decide) rfl (by decide) (by decide) ?_
      exact lc_count C hX hI hi hc nx
    | v + 19, hv =>
      refine z_tabOutN (pc := 33) (a := v + 19) (tgt := 854) C dL_33 (Or.inr (by omega)) (by decide) (by omega) ?_
      exact nx σ cells slots _ hI (by omega) (by omega) rfl
def sg0 : Sg := (fun _ _ _ => 0, fun _ _ => 0, fun _ => 0, 0)
def h10 (Ω : OmT) : List Cel := [.inl (9, [rfO Ω (0 + 1), rfO Ω (0 + 2), .int (nI 0), .int (nI 0)]), .inr (3, 10, fun _ => .null), .inl (3, [rfO Ω (0 + 3), rfO Ω (0 + 4), rfO Ω (0 + 5), .int (nI 0)]), arI 1024 (fun _ => 0), arI 1024 (fun _ => 0), arI 1024 (fun _ => 0)]
def h11 (Ω : OmT) : List Cel := [.inl (10, [.int 0, .int 0, .int 0, rfO Ω (6 + 1), rfO Ω (6 + 2), rfO Ω (6 + 3), rfO Ω (6 + 4), rfO Ω (6 + 5), rfO Ω (6 + 6), rfO Ω (6 + 7), rfO Ω (6 + 8), rfO Ω (6 + 9), rfO Ω (6 + 10), rfO Ω (6 + 11), rfO Ω (6 + 12), rfO Ω (6 + 13), rfO Ω (6 + 14), rfO Ω (6 + 15), rfO Ω (6 + 16), rfO Ω (6 + 17), rfO Ω (6 + 18), rfO Ω (6 + 19), rfO Ω (6 + 20), rfO Ω (6 + 21), rfO Ω (6 + 22), rfO Ω (6 + 23), rfO Ω (6 + 24), rfO Ω (6 + 25), rfO Ω (6 + 26), rfO Ω (6 + 27)]), arI 10 (fun _ => 0), arI 20 (fun _ => 0), arI 80 (fun _ => 0), arI 80 (fun _ => 0), arI 160 (fun _ => 0), arI 40 (fun _ => 0), arI 80 (fun _ => 0), arI 10 (fun _ => 0), arI 10 (fun _ => 0), arI 10 (fun _ => 0), arI 10 (fun _ => 0), arI 10 (fun _ => 0), .inr (2, 10, fun _ => .int 0), arI 10 (fun _ => 0), arI 560 (fun _ => 0), arI 70 (fun _ => 0), arI 10 (fun _ => 0), arI 1600 (fun _ => 0), arI 160 (fun _ => 0), .inr (1, 2, fun _ => .long 0), .inr (1, 80, fun _ => .long 0), .inr (1, 800, fun _ => .long 0), arI 30 (fun _ => 0), arI 30 (fun _ => 0), arI 10 (fun _ => 0), arI 10 (fun _ => 0), arI 10 (fun _ => 0)]
theorem st_10 (Ω : OmT) (c : Cel) : aup (uL (fun _ => none) 0 (h10 Ω)) 6 c = uL (uL (fun _ => none) 0 (h10 Ω)) 6 [c] := uL_first (fun x hx => by
  unfold uL
  rw [if_neg (Nat.not_lt_zero _)]
  exact List.getElem?_eq_none (show 6 ≤ x - 0 by omega))
set_option maxRecDepth 100000 in
theorem st_hp (Ω : OmT) : uL (uL (fun _ => none) 0 (h10 Ω)) 6 (h11 Ω) = hp Ω sg0 := by
  funext x
  match x with
  | 0 => rfl
  | 1 => rfl
  | 2 => rfl
  | 3 => rfl
  | 4 => rfl
  | 5 => rfl
  | 6 => rfl
  | 7 => rfl
  | 8 => rfl
  | 9 => rfl
  | 10 => rfl
  | 11 => rfl
  | 12 => rfl
  | 13 => rfl
  | 14 => rfl
  | 15 => rfl
  | 16 => rfl
  | 17 => rfl
  | 18 => rfl
  | 19 => rfl
  | 20 => rfl
  | 21 => rfl
  | 22 => rfl
  | 23 => rfl
  | 24 => rfl
  | 25 => rfl
  | 26 => rfl
  | 27 => rfl
  | 28 => rfl
  | 29 => rfl
  | 30 => rfl
  | 31 => rfl
  | 32 => rfl
  | 33 => rfl
  | x + 34 =>
    have e1 : hp Ω sg0 (x + 34) = none := by
      unfold hp
      rw [if_neg (by omega)]
      rfl
    rw [e1]
    unfold uL
    rw [if_neg (by omega)]
    exact List.getElem?_eq_none (show 28 ≤ x + 34 - 6 by omega)
theorem inv_0 : INV sg0 := by
  refine ⟨0, 0, ⟨⟨Nat.zero_le _, fun u hu => absurd hu (Nat.not_lt_zero _)⟩, rfl, ⟨Nat.zero_le _, rfl, fun u hu => absurd hu (Nat.not_lt_zero _)⟩, Nat.zero_le _, fun v hv => absurd hv (Nat.not_lt_zero _), fun s _ => Nat.zero_le _, fun s _ => rfl⟩, rfl, rfl, rfl, Nat.zero_le _, rfl, rfl, ⟨fun s hs => ?_, fun k hk => absurd hk (Nat.not_lt_zero _)⟩, fun v _ _ => ⟨fun a _ k => ?_, fun a k => ?_⟩⟩
  · exact ⟨rfl, rfl, rfl⟩
  · unfold rM
    split <;> rfl
  · unfold rL
    split
    · split <;> rfl
    · split <;> rfl
    · rfl
