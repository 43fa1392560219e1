/-! ===== the law's cases ===== -/
section LW
variable {l : Launch} {Ω : OmT} {E : ZE} {cells slots pc : Nat} {lv : List (Nat × Value)} {st : List Value} {A : AHp} {n : Nat} {cc : ByteArray} {own : String} {rt : Option FieldType} {rm : Room} {nm : String}
def SX (Ω : OmT) (E : ZE) (b L : Nat) (xs : Nat → Int32) : Prop := va_X b L xs E.1.2.2.2 Ω.2.2.2.1 ∧ b < Ω.2.2.1 ∧ L ≤ 3072
theorem z_sS (C : ZC Ω E cc own rt rm nm) {H : Heap} {locs : List Loc} (hR : ZR Ω A n H) (hL : ∀ x ∈ locs, Ω.2.2.1 ≤ x.base) : va_S (fun q => Ω.2.2.1 ≤ q) Ω.2.2.2.1 H locs := by
  have hz : Ω.2.2.2.1.size = Ω.2.2.1 := C.2.2.2.2.2.2.2.2.2.2.2.2.2.2.2.2.2.2
  exact ⟨by rw [hz, hR.1]; omega, fun q _ hA => hR.2.1 q (Nat.not_le.mp hA), hL⟩
theorem z_sld (C : ZC Ω E cc own rt rm nm) {b L j : Nat} {xs : Nat → Int32} (hX : SX Ω E b L xs) (hd : decode cc pc = .ok (.iaload, 1)) (hj : j < L) (kk : ZV l Ω E cells slots (pc + 1) lv (.int (xs j) :: st) A n) : ZV l Ω E cells slots pc lv (.int (nI j) :: .ref b :: st) A n := by
  intro H locs ls hR hL hl
  have hz : Ω.2.2.2.1.size = Ω.2.2.1 := C.2.2.2.2.2.2.2.2.2.2.2.2.2.2.2.2.2.2
  have h9 := kk H locs ls hR hL hl
  have hb := hX.2.1
  have hL3 := hX.2.2
  refine va_sld (A := fun q => Ω.2.2.1 ≤ q) C.1 C.2.1 hX.1 (by rw [hz]; exact hb) (by show ¬ Ω.2.2.1 ≤ b; omega) (z_sS C hR hL) (vp_in_nI hj (by omega)) hd ?_
  rw [nI_clamp (by omega)]
  exact h9
theorem z_slen (C : ZC Ω E cc own rt rm nm) {b L : Nat} {xs : Nat → Int32} (hX : SX Ω E b L xs) (hd : decode cc pc = .ok (.arraylength, 1)) (kk : ZV l Ω E cells slots (pc + 1) lv (.int (nI L) :: st) A n) : ZV l Ω E cells slots pc lv (.ref b :: st) A n := by
  intro H locs ls hR hL hl
  have hz : Ω.2.2.2.1.size = Ω.2.2.1 := C.2.2.2.2.2.2.2.2.2.2.2.2.2.2.2.2.2.2
  have hb := hX.2.1
  exact va_slen (A := fun q => Ω.2.2.1 ≤ q) C.1 C.2.1 hX.1 (by rw [hz]; exact hb) (by show ¬ Ω.2.2.1 ≤ b; omega) (z_sS C hR hL) hd (kk H locs ls hR hL hl)
/-- a call of what makes nothing -/
theorem z_callL (C : ZC Ω E cc own rt room_1 nm) {y : MethodName} {cy : ByteArray} {ny kk0 idx a ci : Nat} {ry : Option FieldType} {rmy : Room} {fs : List Value} {q : vw_C} {As rest : List Value} {r : Option Value} {A' : AHp} {n' : Nat} (hd : decode cc pc = .ok (.invokevirtual idx, 3)) (hY : ZY y cy ny ry kk0) (hw : Cond.methodLink own idx y ∈ zTbl) (hi : Cond.instanceMethod y ∈ zTbl) (hq : vwCl[ci]? = some q) (hs : Cond.selects q.1 y y ∈ zTbl) (ha : A a = some (.inl (ci, fs))) (hM : ZM l Ω y cy ny ry rmy (.ref (Ω.2.2.1 + a) :: As) A n r A' n') (hst : st = As.reverse ++ .ref (Ω.2.2.1 + a) :: rest) (hk : As.length = kk0) (hrm : rmy.frames + 1 ≤ 8 ∧ 8 + (ny + 11) + rmy.locals ≤ 280) (h0 : rmy.cells = 0 ∧ rmy.slots = 0) (hc : cells ≤ 703340 ∧ slots ≤ 6992228) (hcat : (rest.map fun v => v.category).sum ≤ 8) (kk : ZV l Ω E cells slots (pc + 3) lv (r.toList ++ rest) A' n') : ZV l Ω E cells slots pc lv st A n :=
  z_callV C hd hY hw hi hq hs ha hM hst hk ⟨hrm, by rw [h0.1]; exact hc.1, by rw [h0.2]; exact hc.2⟩ hcat (by rw [h0.1, h0.2]; exact kk)
end LW
theorem lg_same (x : Int64) : lg_cmp x x = 0 := by
  unfold lg_cmp
  rw [if_neg (Int64.lt_irrefl), if_pos rfl]
theorem and31 (x : Int32) : ∃ v, v < 32 ∧ x &&& nI 31 = nI v := by
  refine ⟨(x &&& nI 31).toBitVec.toNat, ?_, ?_⟩
  · rw [Int32.toBitVec_and, BitVec.toNat_and]
    exact Nat.and_lt_two_pow _ (n := 5) (by decide)
  · apply Int32.toBitVec_inj.mp
    show _ = BitVec.ofNat 32 _
    rw [BitVec.ofNat_toNat, BitVec.setWidth_eq]
theorem mw_of {σ τ : Sg} (h : MW σ) (h11 : τ.1 11 = σ.1 11) (e2 : τ.2 = σ.2) : MW τ := by
  unfold MW
  rw [h11, e2]
  exact h
theorem s_tell_11 (σ : Sg) (i a j : Nat) (x : Int32) (hi : i < 10) : (s_tell σ i a j x).1 11 = σ.1 11 := by
  unfold s_tell
  split
  · first | rfl | exact sI_sec _ _ _ _ _ (by omega)
  · first | rfl | exact sI_sec _ _ _ _ _ (by omega)
theorem c11_lead (σ : Sg) {k : Nat} (hk : k < 10) (p to : Int32) : (cs_lead σ k p to).1 11 = σ.1 11 ∧ (cs_lead σ k p to).2 = σ.2 := by
  unfold cs_lead
  repeat' split
  all_goals first | exact ⟨rfl, rfl⟩ | exact ⟨sI_sec _ _ _ _ _ (by omega), rfl⟩
theorem c11_chg (σ : Sg) {k : Nat} (hk : k < 10) (j : Nat) (x : Int32) : (s_chg σ k j x).1 11 = σ.1 11 ∧ (s_chg σ k j x).2 = σ.2 := by
  unfold s_chg
  split
  · exact ⟨sI_sec _ _ _ _ _ (by omega), rfl⟩
  · exact ⟨rfl, rfl⟩
theorem c11_rate (σ : Sg) {k : Nat} (hk : k < 10) (p to : Int32) : (cs_rate σ k p to).1 11 = σ.1 11 ∧ (cs_rate σ k p to).2 = σ.2 := by
  unfold cs_rate
  repeat' split
  all_goals first | exact ⟨rfl, rfl⟩ | exact c11_chg σ hk _ _
theorem c11_set (σ : Sg) {k : Nat} (hk : k < 10) (p to : Int32) : (cs_set σ k p to).1 11 = σ.1 11 ∧ (cs_set σ k p to).2 = σ.2 := by
  unfold cs_set
  repeat' split
  all_goals first | exact ⟨rfl, rfl⟩ | exact c11_chg σ hk _ _
theorem c11_table (σ : Sg) {k : Nat} (hk : k < 10) (i a b c : Int32) : (cs_table σ k i a b c).1 11 = σ.1 11 ∧ (cs_table σ k i a b c).2 = σ.2 := by
  unfold cs_table
  repeat' split
  · exact ⟨rfl, rfl⟩
  · exact ⟨rfl, rfl⟩
  · exact ⟨rfl, rfl⟩
  · unfold s_brk
    refine ⟨?_, ?_⟩
    · rw [s_tell_11 _ _ _ _ _ hk, s_tell_11 _ _ _ _ _ hk, s_tell_11 _ _ _ _ _ hk]
      exact sI_sec _ _ _ _ _ (by omega)
    · rw [s_tell_n, s_tell_n, s_tell_n]
      rfl
theorem c11_control (σ : Sg) {k : Nat} (hk : k < 10) (u off on : Int32) : (cs_control σ k u off on).1 11 = σ.1 11 ∧ (cs_control σ k u off on).2 = σ.2 := by
  unfold cs_control
  repeat' split
  all_goals first | exact ⟨rfl, rfl⟩ | exact ⟨by rw [sI_sec _ _ _ _ _ (by omega), sI_sec _ _ _ _ _ (by omega), sI_sec _ _ _ _ _ (by omega)], rfl⟩
theorem c11_turn (σ : Sg) {k : Nat} (hk : k < 10) (on : Int32) : (cs_turn σ k on).1 11 = σ.1 11 ∧ (cs_turn σ k on).2 = σ.2 := by
  unfold cs_turn
  by_cases h1 : ¬ σ.2.2.1 k = 0
  · rw [if_pos h1]; exact ⟨rfl, rfl⟩
  · rw [if_neg h1]
    by_cases h2 : ¬ (on = 0 ∨ on = nI 1)
    · rw [if_pos h2]; exact ⟨rfl, rfl⟩
    · rw [if_neg h2]; exact ⟨sI_sec _ _ _ _ _ (by omega), rfl⟩
theorem c11_reading (σ : Sg) {k : Nat} (hk : k < 10) (w x d : Int32) : (cs_reading σ k w x d).1 11 = σ.1 11 ∧ (cs_reading σ k w x d).2 = σ.2 := by
  unfold cs_reading
  repeat' split
  all_goals first | exact ⟨rfl, rfl⟩ | exact ⟨by rw [sI_sec _ _ _ _ _ (by omega), sI_sec _ _ _ _ _ (by omega)], rfl⟩
theorem sn_lead (σ : Sg) (k : Nat) (a b : Int32) : (s_lead σ k a b).2.2 = σ.2.2 := by
  unfold s_lead
  repeat' split
  all_goals rfl
theorem sn_rate (σ : Sg) (k : Nat) (a b : Int32) : (s_rate σ k a b).2.2 = σ.2.2 := by
  unfold s_rate
  repeat' split
  all_goals rfl
theorem sn_table (σ : Sg) (k : Nat) (i a b c : Int32) : (s_table σ k i a b c).2.2 = σ.2.2 := by
  unfold s_table s_tableN
  dsimp only
  repeat' split
  all_goals rfl
theorem sn_set (σ : Sg) (k : Nat) (a b : Int32) : (s_set σ k a b).2.2 = σ.2.2 := by
  unfold s_set
  repeat' split
  all_goals rfl
theorem sn_control (σ : Sg) (k : Nat) (a b c : Int32) : (s_control σ k a b c).2.2 = σ.2.2 := by
  unfold s_control
  repeat' split
  all_goals rfl
theorem sn_turn (σ : Sg) (k : Nat) (a : Int32) : (s_turn σ k a).2.2 = σ.2.2 := by
  unfold s_turn
  split
  · rfl
  · split <;> rfl
theorem sn_reading (σ : Sg) (k : Nat) (a b c : Int32) : (s_reading σ k a b c).2.2 = σ.2.2 := by
  unfold s_reading
  repeat' split
  all_goals rfl
theorem sn_load (σ : Sg) (k : Nat) (a b c : Int32) : (s_load σ k a b c).2.2 = σ.2.2 := by
  unfold s_load
  repeat' split
  all_goals rfl
theorem INV.kl {σ : Sg} (h : INV σ) {u : Nat} (hu : u < σ.2.2.2) : (tn (σ.1 11 13 u) ≤ 7 ∧ σ.1 11 13 u = nI (tn (σ.1 11 13 u))) ∧ tn (σ.1 11 16 u) ≤ 20 ∧ σ.1 11 16 u = nI (tn (σ.1 11 16 u)) := by
  obtain ⟨m, L, hI, -⟩ := h
  obtain ⟨⟨K, hK, eK⟩, ⟨L, hL, eL⟩, -⟩ := hI.MG.2 u hu
  rw [eK, eL, tn_nI (by omega), tn_nI (by omega)]
  exact ⟨⟨by omega, rfl⟩, hL, rfl⟩
/-- what comes behind a case -/
def LwN (l : Launch) (Ω : OmT) (E : ZE) (b i cells slots : Nat) : Prop := ∀ (τ : Sg) (c' s' n' : Nat), INV τ → c' ≤ cells + 31 → s' ≤ slots + 223 → hN τ = n' → ZV l Ω E c' s' 854 [(0, .ref b), (1, rfO Ω 0), (2, rfO Ω 6), (3, .int (nI i))] [] (hp Ω τ) n'
set_option maxHeartbeats 4000000 in
set_option maxRecDepth 100000 in
theorem lc_unit {l : Launch} {Ω : OmT} {E : ZE} {nm : String} (C : ZC Ω E code "GrindWorksLaw" ret room_1 nm) {b L : Nat} {xs : Nat → Int32} (hX : SX Ω E b L xs) {σ : Sg} (hI : INV σ) {i cells slots : Nat} (hi : i + 6 ≤ L) (hc : cells + 31 ≤ 703340 ∧ slots + 223 ≤ 6992228) (nx : LwN l Ω E b i cells slots) : ZV l Ω E cells slots 124 [(0, .ref b), (1, rfO Ω 0), (2, rfO Ω 6), (3, .int (nI i))] [] (hp Ω σ) (hN σ) := by
  have hw := hI.kw
  have hmw := hI.mw
  have hn := hw.1
  have hL3 := hX.2.2
  refine z_aload_n (pc := 124) C dL_124 rfl ?_
  refine z_aload_n (pc := 125) C dL_125 rfl ?_
  refine z_iload_n (pc := 126) C dL_126 rfl ?_
  refine z_iconst (pc := 127) (v := nI 1) C dL_127 (by decide) ?_
  refine z_iaddN (pc := 128) C dL_128 ?_
  refine z_sld (pc := 129) C hX dL_129 (by omega) ?_
  have e0 : σ.1 10 0 0 = nI σ.2.2.2 := by
    obtain ⟨m, L, -, a1, -⟩ := hI
    exact a1
  have e30 := hmw.2.1
  by_cases h : inR 0 7 (xs (i + 1))
  · obtain ⟨q, -, hq, e⟩ := inR_of (by decide) (by decide) h
    rw [e]
    by_cases hn10 : σ.2.2.2 < 10
    · have eu : (c_unit σ q).1 11 30 0 = nI σ.2.2.2 := by
        show (if 11 = σ.2.2.2 then dD q 30 0 else if 11 = 10 ∧ 30 = 0 ∧ 0 = 0 then nI (σ.2.2.2 + 1) else σ.1 11 30 0) = _
        rw [if_neg (by omega), if_neg (by omega)]
        exact e30
      refine z_callV (pc := 130) (ci := 9) C dL_130 zy_X10_unit kw_47 kw_48 rfl kw_49 rfl (ct_X10_unit l Ω σ hw hn10 q (by omega) e0) rfl rfl ⟨⟨by decide, by decide⟩, by show cells + 31 ≤ 703340; omega, by show slots + 223 ≤ 6992228; omega⟩ (Nat.le_of_ble_eq_true rfl) ?_; dsimp only [Option.toList_some, List.cons_append, List.nil_append]
      refine z_aload_n (pc := 133) C dL_133 rfl ?_
      refine z_aload_n (pc := 134) C dL_134 rfl ?_
      refine z_iload_n (pc := 135) C dL_135 rfl ?_
      refine z_iconst (pc := 136) (v := nI 1) C dL_136 (by decide) ?_
      refine z_iaddN (pc := 137) C dL_137 ?_
      refine z_sld (pc := 138) C hX dL_138 (by omega) ?_
      rw [e]
      refine z_callL (pc := 139) (ci := 10) C dL_139 zy_X11_unit kw_681 kw_682 rfl kw_683 rfl (ct_X11_unit l Ω (c_unit σ q) σ.2.2.2 (show σ.2.2.2 + 1 ≤ 10 by omega) hn10 eu q (by omega)) rfl rfl ⟨by decide, by decide⟩ ⟨rfl, rfl⟩ ⟨by show cells + 31 ≤ 703340; omega, by show slots + 223 ≤ 6992228; omega⟩ (Nat.le_of_ble_eq_true rfl) ?_; dsimp only [Option.toList_some, List.cons_append, List.nil_append]
      refine z_icmp_eq (pc := 142) (tgt := 854) C dL_142 (by decide) (fun _ => ?_) (fun z => absurd (rfl) z)
      exact nx (s_unit (c_unit σ q) σ.2.2.2 q) _ _ _ (q_unit hI hn10 (by omega)) (by show cells + 31 ≤ cells + 31; omega) (by show slots + 223 ≤ slots + 223; omega) (hN_eq rfl)
    · refine z_callL (pc := 130) (ci := 9) C dL_130 zy_X10_unit kw_47 kw_48 rfl kw_49 rfl (ct_X10_unit_f l Ω σ q (by omega) (by rw [e0, show σ.2.2.2 = 10 by omega])) rfl rfl ⟨by decide, by decide⟩ ⟨rfl, rfl⟩ ⟨by omega, by omega⟩ (Nat.le_of_ble_eq_true rfl) ?_; dsimp only [Option.toList_some, List.cons_append, List.nil_append]
      refine z_aload_n (pc := 133) C dL_133 rfl ?_
      refine z_aload_n (pc := 134) C dL_134 rfl ?_
      refine z_iload_n (pc := 135) C dL_135 rfl ?_
      refine z_iconst (pc := 136) (v := nI 1) C dL_136 (by decide) ?_
      refine z_iaddN (pc := 137) C dL_137 ?_
      refine z_sld (pc := 138) C hX dL_138 (by omega) ?_
      rw [e]
      refine z_callL (pc := 139) (ci := 10) C dL_139 zy_X11_unit kw_681 kw_682 rfl kw_683 rfl (ct_X11_unit_f l Ω σ _ (inR_nI (by omega) hq (by decide)) (by rw [e30, show σ.2.2.2 = 10 by omega])) rfl rfl ⟨by decide, by decide⟩ ⟨rfl, rfl⟩ ⟨by omega, by omega⟩ (Nat.le_of_ble_eq_true rfl) ?_; dsimp only [Option.toList_some, List.cons_append, List.nil_append]
      refine z_icmp_eq (pc := 142) (tgt := 854) C dL_142 (by decide) (fun _ => ?_) (fun z => absurd (rfl) z)
      exact nx σ cells slots _ hI (by omega) (by omega) rfl
  · refine z_callL (pc := 130) (ci := 9) C dL_130 zy_X10_unit kw_47 kw_48 rfl kw_49 rfl (ct_X10_unit_n l Ω σ _ h) rfl rfl ⟨by decide, by decide⟩ ⟨rfl, rfl⟩ ⟨by omega, by omega⟩ (Nat.le_of_ble_eq_true rfl) ?_; dsimp only [Option.toList_some, List.cons_append, List.nil_append]
    refine z_aload_n (pc := 133) C dL_133 rfl ?_
    refine z_aload_n (pc := 134) C dL_134 rfl ?_
    refine z_iload_n (pc := 135) C dL_135 rfl ?_
    refine z_iconst (pc := 136) (v := nI 1) C dL_136 (by decide) ?_
    refine z_iaddN (pc := 137) C dL_137 ?_
    refine z_sld (pc := 138) C hX dL_138 (by omega) ?_
    refine z_callL (pc := 139) (ci := 10) C dL_139 zy_X11_unit kw_681 kw_682 rfl kw_683 rfl (ct_X11_unit_n l Ω σ _ h) rfl rfl ⟨by decide, by decide⟩ ⟨rfl, rfl⟩ ⟨by omega, by omega⟩ (Nat.le_of_ble_eq_true rfl) ?_; dsimp only [Option.toList_some, List.cons_append, List.nil_append]
    refine z_icmp_eq (pc := 142) (tgt := 854) C dL_142 (by decide) (fun _ => ?_) (fun z => absurd (rfl) z)
    exact nx σ cells slots _ hI (by omega) (by omega) rfl
set_option maxHeartbeats 4000000 in
set_option maxRecDepth 100000 in
theorem lc_lead {l : Launch} {Ω : OmT} {E : ZE} {nm : String} (C : ZC Ω E code "GrindWorksLaw" ret room_1 nm) {b L : Nat} {xs : Nat → Int32} (hX : SX Ω E b L xs) {σ : Sg} (hI : INV σ) {i cells slots : Nat} (hi : i + 6 ≤ L) (hc : cells + 31 ≤ 703340 ∧ slots + 223 ≤ 6992228) (nx : LwN l Ω E b i cells slots) : ZV l Ω E cells slots 147 [(0, .ref b), (1, rfO Ω 0), (2, rfO Ω 6), (3, .int (nI i))] [] (hp Ω σ) (hN σ) := by
  have hw := hI.kw
  have hmw := hI.mw
  have hn := hw.1
  have hL3 := hX.2.2
  refine z_aload_n (pc := 147) C dL_147 rfl ?_
  refine z_aload_n (pc := 148) C dL_148 rfl ?_
  refine z_iload_n (pc := 149) C dL_149 rfl ?_
  refine z_iconst (pc := 150) (v := nI 1) C dL_150 (by decide) ?_
  refine z_iaddN (pc := 151) C dL_151 ?_
  refine z_sld (pc := 152) C hX dL_152 (by omega) ?_
  refine z_aload_n (pc := 153) C dL_153 rfl ?_
  refine z_iload_n (pc := 154) C dL_154 rfl ?_
  refine z_iconst (pc := 155) (v := nI 2) C dL_155 (by decide) ?_
  refine z_iaddN (pc := 156) C dL_156 ?_
  refine z_sld (pc := 157) C hX dL_157 (by omega) ?_
  refine z_aload_n (pc := 158) C dL_158 rfl ?_
  refine z_iload_n (pc := 159) C dL_159 rfl ?_
  refine z_iconst (pc := 160) (v := nI 3) C dL_160 (by decide) ?_
  refine z_iaddN (pc := 161) C dL_161 ?_
  refine z_sld (pc := 162) C hX dL_162 (by omega) ?_
  by_cases hu : isU σ.2.2.2 (xs (i + 1))
  · obtain ⟨k, hk, e⟩ := isU_of (by omega) hu
    obtain ⟨qe, qi⟩ := q_lead hI hk (xs (i + 2)) (xs (i + 3))
    obtain ⟨h11, h2⟩ := c11_lead σ (show k < 10 by omega) (xs (i + 2)) (xs (i + 3))
    have e22 : (cs_lead σ k (xs (i + 2)) (xs (i + 3))).2.2 = σ.2.2 := by rw [h2]
    have sn := (sn_lead (cs_lead σ k (xs (i + 2)) (xs (i + 3))) k (xs (i + 2)) (xs (i + 3))).trans e22
    have hmw2 := mw_of hmw h11 h2
    have hk2 : k < (cs_lead σ k (xs (i + 2)) (xs (i + 3))).2.2.2 := by rw [e22]; exact hk
    rw [e]
    refine z_callL (pc := 163) (ci := 9) C dL_163 zy_X10_lead kw_246 kw_247 rfl kw_248 rfl (ct_X10_lead l Ω σ hw k _ hk rfl _ _) rfl rfl ⟨by decide, by decide⟩ ⟨rfl, rfl⟩ ⟨by omega, by omega⟩ (Nat.le_of_ble_eq_true rfl) ?_; dsimp only [Option.toList_some, List.cons_append, List.nil_append]
    refine z_aload_n (pc := 166) C dL_166 rfl ?_
    refine z_aload_n (pc := 167) C dL_167 rfl ?_
    refine z_iload_n (pc := 168) C dL_168 rfl ?_
    refine z_iconst (pc := 169) (v := nI 1) C dL_169 (by decide) ?_
    refine z_iaddN (pc := 170) C dL_170 ?_
    refine z_sld (pc := 171) C hX dL_171 (by omega) ?_
    refine z_aload_n (pc := 172) C dL_172 rfl ?_
    refine z_iload_n (pc := 173) C dL_173 rfl ?_
    refine z_iconst (pc := 174) (v := nI 2) C dL_174 (by decide) ?_
    refine z_iaddN (pc := 175) C dL_175 ?_
    refine z_sld (pc := 176) C hX dL_176 (by omega) ?_
    refine z_aload_n (pc := 177) C dL_177 rfl ?_
    refine z_iload_n (pc := 178) C dL_178 rfl ?_
    refine z_iconst (pc := 179) (v := nI 3) C dL_179 (by decide) ?_
    refine z_iaddN (pc := 180) C dL_180 ?_
    refine z_sld (pc := 181) C hX dL_181 (by omega) ?_
    rw [e]
    refine z_callL (pc := 182) (ci := 10) C dL_182 zy_X11_lead kw_688 kw_689 rfl kw_690 rfl (zM_n (hN_eq e22) (ct_X11_lead l Ω (cs_lead σ k (xs (i + 2)) (xs (i + 3))) hmw2 k hk2 (xs (i + 2)) (xs (i + 3)))) rfl rfl ⟨by decide, by decide⟩ ⟨rfl, rfl⟩ ⟨by omega, by omega⟩ (Nat.le_of_ble_eq_true rfl) ?_; dsimp only [Option.toList_some, List.cons_append, List.nil_append]
    refine z_icmp_eq (pc := 185) (tgt := 854) C dL_185 (by decide) (fun _ => ?_) (fun z => absurd (qe) z)
    exact nx (s_lead (cs_lead σ k (xs (i + 2)) (xs (i + 3))) k (xs (i + 2)) (xs (i + 3))) cells slots _ qi (by omega) (by omega) (hN_eq sn)
  · refine z_callL (pc := 163) (ci := 9) C dL_163 zy_X10_lead kw_246 kw_247 rfl kw_248 rfl (ct_X10_lead_n l Ω σ hw _ _ _ hu) rfl rfl ⟨by decide, by decide⟩ ⟨rfl, rfl⟩ ⟨by omega, by omega⟩ (Nat.le_of_ble_eq_true rfl) ?_; dsimp only [Option.toList_some, List.cons_append, List.nil_append]
    refine z_aload_n (pc := 166) C dL_166 rfl ?_
    refine z_aload_n (pc := 167) C dL_167 rfl ?_
    refine z_iload_n (pc := 168) C dL_168 rfl ?_
    refine z_iconst (pc := 169) (v := nI 1) C dL_169 (by decide) ?_
    refine z_iaddN (pc := 170) C dL_170 ?_
    refine z_sld (pc := 171) C hX dL_171 (by omega) ?_
    refine z_aload_n (pc := 172) C dL_172 rfl ?_
    refine z_iload_n (pc := 173) C dL_173 rfl ?_
    refine z_iconst (pc := 174) (v := nI 2) C dL_174 (by decide) ?_
    refine z_iaddN (pc := 175) C dL_175 ?_
    refine z_sld (pc := 176) C hX dL_176 (by omega) ?_
    refine z_aload_n (pc := 177) C dL_177 rfl ?_
    refine z_iload_n (pc := 178) C dL_178 rfl ?_
    refine z_iconst (pc := 179) (v := nI 3) C dL_179 (by decide) ?_
    refine z_iaddN (pc := 180) C dL_180 ?_
    refine z_sld (pc := 181) C hX dL_181 (by omega) ?_
    refine z_callL (pc := 182) (ci := 10) C dL_182 zy_X11_lead kw_688 kw_689 rfl kw_690 rfl (ct_X11_lead_n l Ω σ hmw _ _ _ hu) rfl rfl ⟨by decide, by decide⟩ ⟨rfl, rfl⟩ ⟨by omega, by omega⟩ (Nat.le_of_ble_eq_true rfl) ?_; dsimp only [Option.toList_some, List.cons_append, List.nil_append]
    refine z_icmp_eq (pc := 185) (tgt := 854) C dL_185 (by decide) (fun _ => ?_) (fun z => absurd (rfl) z)
    exact nx σ cells slots _ hI (by omega) (by omega) rfl
set_option maxHeartbeats 4000000 in
set_option maxRecDepth 100000 in
theorem lc_rate {l : Launch} {Ω : OmT} {E : ZE} {nm : String} (C : ZC Ω E code "GrindWorksLaw" ret room_1 nm) {b L : Nat} {xs : Nat → Int32} (hX : SX Ω E b L xs) {σ : Sg} (hI : INV σ) {i cells slots : Nat} (hi : i + 6 ≤ L) (hc : cells + 31 ≤ 703340 ∧ slots + 223 ≤ 6992228) (nx : LwN l Ω E b i cells slots) : ZV l Ω E cells slots 190 [(0, .ref b), (1, rfO Ω 0), (2, rfO Ω 6), (3, .int (nI i))] [] (hp Ω σ) (hN σ) := by
  have hw := hI.kw
  have hmw := hI.mw
  have hn := hw.1
  have hL3 := hX.2.2
  refine z_aload_n (pc := 190) C dL_190 rfl ?_
  refine z_aload_n (pc := 191) C dL_191 rfl ?_
  refine z_iload_n (pc := 192) C dL_192 rfl ?_
  refine z_iconst (pc := 193) (v := nI 1) C dL_193 (by decide) ?_
  refine z_iaddN (pc := 194) C dL_194 ?_
  refine z_sld (pc := 195) C hX dL_195 (by omega) ?_
  refine z_aload_n (pc := 196) C dL_196 rfl ?_
  refine z_iload_n (pc := 197) C dL_197 rfl ?_
  refine z_iconst (pc := 198) (v := nI 2) C dL_198 (by decide) ?_
  refine z_iaddN (pc := 199) C dL_199 ?_
  refine z_sld (pc := 200) C hX dL_200 (by omega) ?_
  refine z_aload_n (pc := 201) C dL_201 rfl ?_
  refine z_iload_n (pc := 202) C dL_202 rfl ?_
  refine z_iconst (pc := 203) (v := nI 3) C dL_203 (by decide) ?_
  refine z_iaddN (pc := 204) C dL_204 ?_
  refine z_sld (pc := 205) C hX dL_205 (by omega) ?_
  by_cases hu : isU σ.2.2.2 (xs (i + 1))
  · obtain ⟨k, hk, e⟩ := isU_of (by omega) hu
    obtain ⟨qe, qi⟩ := q_rate hI hk (xs (i + 2)) (xs (i + 3))
    obtain ⟨h11, h2⟩ := c11_rate σ (show k < 10 by omega) (xs (i + 2)) (xs (i + 3))
    have e22 : (cs_rate σ k (xs (i + 2)) (xs (i + 3))).2.2 = σ.2.2 := by rw [h2]
    have sn := (sn_rate (cs_rate σ k (xs (i + 2)) (xs (i + 3))) k (xs (i + 2)) (xs (i + 3))).trans e22
    have hmw2 := mw_of hmw h11 h2
    have hk2 : k < (cs_rate σ k (xs (i + 2)) (xs (i + 3))).2.2.2 := by rw [e22]; exact hk
    rw [e]
    refine z_callL (pc := 206) (ci := 9) C dL_206 zy_X10_rate kw_264 kw_265 rfl kw_266 rfl (ct_X10_rate l Ω σ hw k _ hk rfl _ _) rfl rfl ⟨by decide, by decide⟩ ⟨rfl, rfl⟩ ⟨by omega, by omega⟩ (Nat.le_of_ble_eq_true rfl) ?_; dsimp only [Option.toList_some, List.cons_append, List.nil_append]
    refine z_aload_n (pc := 209) C dL_209 rfl ?_
    refine z_aload_n (pc := 210) C dL_210 rfl ?_
    refine z_iload_n (pc := 211) C dL_211 rfl ?_
    refine z_iconst (pc := 212) (v := nI 1) C dL_212 (by decide) ?_
    refine z_iaddN (pc := 213) C dL_213 ?_
    refine z_sld (pc := 214) C hX dL_214 (by omega) ?_
    refine z_aload_n (pc := 215) C dL_215 rfl ?_
    refine z_iload_n (pc := 216) C dL_216 rfl ?_
    refine z_iconst (pc := 217) (v := nI 2) C dL_217 (by decide) ?_
    refine z_iaddN (pc := 218) C dL_218 ?_
    refine z_sld (pc := 219) C hX dL_219 (by omega) ?_
    refine z_aload_n (pc := 220) C dL_220 rfl ?_
    refine z_iload_n (pc := 221) C dL_221 rfl ?_
    refine z_iconst (pc := 222) (v := nI 3) C dL_222 (by decide) ?_
    refine z_iaddN (pc := 223) C dL_223 ?_
    refine z_sld (pc := 224) C hX dL_224 (by omega) ?_
    rw [e]
    refine z_callL (pc := 225) (ci := 10) C dL_225 zy_X11_rate kw_698 kw_699 rfl kw_700 rfl (zM_n (hN_eq e22) (ct_X11_rate l Ω (cs_rate σ k (xs (i + 2)) (xs (i + 3))) hmw2 k hk2 (xs (i + 2)) (xs (i + 3)))) rfl rfl ⟨by decide, by decide⟩ ⟨rfl, rfl⟩ ⟨by omega, by omega⟩ (Nat.le_of_ble_eq_true rfl) ?_; dsimp only [Option.toList_some, List.cons_append, List.nil_append]
    refine z_icmp_eq (pc := 228) (tgt := 854) C dL_228 (by decide) (fun _ => ?_) (fun z => absurd (qe) z)
    exact nx (s_rate (cs_rate σ k (xs (i + 2)) (xs (i + 3))) k (xs (i + 2)) (xs (i + 3))) cells slots _ qi (by omega) (by omega) (hN_eq sn)
  · refine z_callL (pc := 206) (ci := 9) C dL_206 zy_X10_rate kw_264 kw_265 rfl kw_266 rfl (ct_X10_rate_n l Ω σ hw _ _ _ hu) rfl rfl ⟨by decide, by decide⟩ ⟨rfl, rfl⟩ ⟨by omega, by omega⟩ (Nat.le_of_ble_eq_true rfl) ?_; dsimp only [Option.toList_some, List.cons_append, List.nil_append]
    refine z_aload_n (pc := 209) C dL_209 rfl ?_
    refine z_aload_n (pc := 210) C dL_210 rfl ?_
    refine z_iload_n (pc := 211) C dL_211 rfl ?_
    refine z_iconst (pc := 212) (v := nI 1) C dL_212 (by decide) ?_
    refine z_iaddN (pc := 213) C dL_213 ?_
    refine z_sld (pc := 214) C hX dL_214 (by omega) ?_
    refine z_aload_n (pc := 215) C dL_215 rfl ?_
    refine z_iload_n (pc := 216) C dL_216 rfl ?_
    refine z_iconst (pc := 217) (v := nI 2) C dL_217 (by decide) ?_
    refine z_iaddN (pc := 218) C dL_218 ?_
    refine z_sld (pc := 219) C hX dL_219 (by omega) ?_
    refine z_aload_n (pc := 220) C dL_220 rfl ?_
    refine z_iload_n (pc := 221) C dL_221 rfl ?_
    refine z_iconst (pc := 222) (v := nI 3) C dL_222 (by decide) ?_
    refine z_iaddN (pc := 223) C dL_223 ?_
    refine z_sld (pc := 224) C hX dL_224 (by omega) ?_
    refine z_callL (pc := 225) (ci := 10) C dL_225 zy_X11_rate kw_698 kw_699 rfl kw_700 rfl (ct_X11_rate_n l Ω σ hmw _ _ _ hu) rfl rfl ⟨by decide, by decide⟩ ⟨rfl, rfl⟩ ⟨by omega, by omega⟩ (Nat.le_of_ble_eq_true rfl) ?_; dsimp only [Option.toList_some, List.cons_append, List.nil_append]
    refine z_icmp_eq (pc := 228) (tgt := 854) C dL_228 (by decide) (fun _ => ?_) (fun z => absurd (rfl) z)
    exact nx σ cells slots _ hI (by omega) (by omega) rfl
set_option maxHeartbeats 4000000 in
set_option maxRecDepth 100000 in
theorem lc_table {l : Launch} {Ω : OmT} {E : ZE} {nm : String} (C : ZC Ω E code "GrindWorksLaw" ret room_1 nm) {b L : Nat} {xs : Nat → Int32} (hX : SX Ω E b L xs) {σ : Sg} (hI : INV σ) {i cells slots : Nat} (hi : i + 6 ≤ L) (hc : cells + 31 ≤ 703340 ∧ slots + 223 ≤ 6992228) (nx : LwN l Ω E b i cells slots) : ZV l Ω E cells slots 233 [(0, .ref b), (1, rfO Ω 0), (2, rfO Ω 6), (3, .int (nI i))] [] (hp Ω σ) (hN σ) := by
  have hw := hI.kw
  have hmw := hI.mw
  have hn := hw.1
  have hL3 := hX.2.2
  refine z_aload_n (pc := 233) C dL_233 rfl ?_
  refine z_aload_n (pc := 234) C dL_234 rfl ?_
  refine z_iload_n (pc := 235) C dL_235 rfl ?_
  refine z_iconst (pc := 236) (v := nI 1) C dL_236 (by decide) ?_
  refine z_iaddN (pc := 237) C dL_237 ?_
  refine z_sld (pc := 238) C hX dL_238 (by omega) ?_
  refine z_aload_n (pc := 239) C dL_239 rfl ?_
  refine z_iload_n (pc := 240) C dL_240 rfl ?_
  refine z_iconst (pc := 241) (v := nI 2) C dL_241 (by decide) ?_
  refine z_iaddN (pc := 242) C dL_242 ?_
  refine z_sld (pc := 243) C hX dL_243 (by omega) ?_
  refine z_aload_n (pc := 244) C dL_244 rfl ?_
  refine z_iload_n (pc := 245) C dL_245 rfl ?_
  refine z_iconst (pc := 246) (v := nI 3) C dL_246 (by decide) ?_
  refine z_iaddN (pc := 247) C dL_247 ?_
  refine z_sld (pc := 248) C hX dL_248 (by omega) ?_
  refine z_aload_n (pc := 249) C dL_249 rfl ?_
  refine z_iload_n (pc := 250) C dL_250 rfl ?_
  refine z_iconst (pc := 251) (v := nI 4) C dL_251 (by decide) ?_
  refine z_iaddN (pc := 252) C dL_252 ?_
  refine z_sld (pc := 253) C hX dL_253 (by omega) ?_
  refine z_aload_n (pc := 254) C dL_254 rfl ?_
  refine z_iload_n (pc := 255) C dL_255 rfl ?_
  refine z_iconst (pc := 256) (v := nI 5) C dL_256 (by decide) ?_
  refine z_iaddN (pc := 257) C dL_257 ?_
  refine z_sld (pc := 258) C hX dL_258 (by omega) ?_
  by_cases hu : isU σ.2.2.2 (xs (i + 1))
  · obtain ⟨k, hk, e⟩ := isU_of (by omega) hu
    obtain ⟨qe, qi⟩ := q_table hI hk (xs (i + 2)) (xs (i + 3)) (xs (i + 4)) (xs (i + 5))
    obtain ⟨h11, h2⟩ := c11_table σ (show k < 10 by omega) (xs (i + 2)) (xs (i + 3)) (xs (i + 4)) (xs (i + 5))
    have e22 : (cs_table σ k (xs (i + 2)) (xs (i + 3)) (xs (i + 4)) (xs (i + 5))).2.2 = σ.2.2 := by rw [h2]
    have sn := (sn_table (cs_table σ k (xs (i + 2)) (xs (i + 3)) (xs (i + 4)) (xs (i + 5))) k (xs (i + 2)) (xs (i + 3)) (xs (i + 4)) (xs (i + 5))).trans e22
    have hmw2 := mw_of hmw h11 h2
    have hk2 : k < (cs_table σ k (xs (i + 2)) (xs (i + 3)) (xs (i + 4)) (xs (i + 5))).2.2.2 := by rw [e22]; exact hk
    rw [e]
    refine z_callL (pc := 259) (ci := 9) C dL_259 zy_X10_table kw_282 kw_283 rfl kw_284 rfl (ct_X10_table l Ω σ hw k _ hk rfl _ _ _ _) rfl rfl ⟨by decide, by decide⟩ ⟨rfl, rfl⟩ ⟨by omega, by omega⟩ (Nat.le_of_ble_eq_true rfl) ?_; dsimp only [Option.toList_some, List.cons_append, List.nil_append]
    refine z_aload_n (pc := 262) C dL_262 rfl ?_
    refine z_aload_n (pc := 263) C dL_263 rfl ?_
    refine z_iload_n (pc := 264) C dL_264 rfl ?_
    refine z_iconst (pc := 265) (v := nI 1) C dL_265 (by decide) ?_
    refine z_iaddN (pc := 266) C dL_266 ?_
    refine z_sld (pc := 267) C hX dL_267 (by omega) ?_
    refine z_aload_n (pc := 268) C dL_268 rfl ?_
    refine z_iload_n (pc := 269) C dL_269 rfl ?_
    refine z_iconst (pc := 270) (v := nI 2) C dL_270 (by decide) ?_
    refine z_iaddN (pc := 271) C dL_271 ?_
    refine z_sld (pc := 272) C hX dL_272 (by omega) ?_
    refine z_aload_n (pc := 273) C dL_273 rfl ?_
    refine z_iload_n (pc := 274) C dL_274 rfl ?_
    refine z_iconst (pc := 275) (v := nI 3) C dL_275 (by decide) ?_
    refine z_iaddN (pc := 276) C dL_276 ?_
    refine z_sld (pc := 277) C hX dL_277 (by omega) ?_
    refine z_aload_n (pc := 278) C dL_278 rfl ?_
    refine z_iload_n (pc := 279) C dL_279 rfl ?_
    refine z_iconst (pc := 280) (v := nI 4) C dL_280 (by decide) ?_
    refine z_iaddN (pc := 281) C dL_281 ?_
    refine z_sld (pc := 282) C hX dL_282 (by omega) ?_
    refine z_aload_n (pc := 283) C dL_283 rfl ?_
    refine z_iload_n (pc := 284) C dL_284 rfl ?_
    refine z_iconst (pc := 285) (v := nI 5) C dL_285 (by decide) ?_
    refine z_iaddN (pc := 286) C dL_286 ?_
    refine z_sld (pc := 287) C hX dL_287 (by omega) ?_
    rw [e]
    refine z_callL (pc := 288) (ci := 10) C dL_288 zy_X11_table kw_702 kw_703 rfl kw_704 rfl (zM_n (hN_eq e22) (ct_X11_table l Ω (cs_table σ k (xs (i + 2)) (xs (i + 3)) (xs (i + 4)) (xs (i + 5))) hmw2 k hk2 (xs (i + 2)) (xs (i + 3)) (xs (i + 4)) (xs (i + 5)))) rfl rfl ⟨by decide, by decide⟩ ⟨rfl, rfl⟩ ⟨by omega, by omega⟩ (Nat.le_of_ble_eq_true rfl) ?_; dsimp only [Option.toList_some, List.cons_append, List.nil_append]
    refine z_icmp_eq (pc := 291) (tgt := 854) C dL_291 (by decide) (fun _ => ?_) (fun z => absurd (qe) z)
    exact nx (s_table (cs_table σ k (xs (i + 2)) (xs (i + 3)) (xs (i + 4)) (xs (i + 5))) k (xs (i + 2)) (xs (i + 3)) (xs (i + 4)) (xs (i + 5))) cells slots _ qi (by omega) (by omega) (hN_eq sn)
  · refine z_callL (pc := 259) (ci := 9) C dL_259 zy_X10_table kw_282 kw_283 rfl kw_284 rfl (ct_X10_table_n l Ω σ hw _ _ _ _ _ hu) rfl rfl ⟨by decide, by decide⟩ ⟨rfl, rfl⟩ ⟨by omega, by omega⟩ (Nat.le_of_ble_eq_true rfl) ?_; dsimp only [Option.toList_some, List.cons_append, List.nil_append]
    refine z_aload_n (pc := 262) C dL_262 rfl ?_
    refine z_aload_n (pc := 263) C dL_263 rfl ?_
    refine z_iload_n (pc := 264) C dL_264 rfl ?_
    refine z_iconst (pc := 265) (v := nI 1) C dL_265 (by decide) ?_
    refine z_iaddN (pc := 266) C dL_266 ?_
    refine z_sld (pc := 267) C hX dL_267 (by omega) ?_
    refine z_aload_n (pc := 268) C dL_268 rfl ?_
    refine z_iload_n (pc := 269) C dL_269 rfl ?_
    refine z_iconst (pc := 270) (v := nI 2) C dL_270 (by decide) ?_
    refine z_iaddN (pc := 271) C dL_271 ?_
    refine z_sld (pc := 272) C hX dL_272 (by omega) ?_
    refine z_aload_n (pc := 273) C dL_273 rfl ?_
    refine z_iload_n (pc := 274) C dL_274 rfl ?_
    refine z_iconst (pc := 275) (v := nI 3) C dL_275 (by decide) ?_
    refine z_iaddN (pc := 276) C dL_276 ?_
    refine z_sld (pc := 277) C hX dL_277 (by omega) ?_
    refine z_aload_n (pc := 278) C dL_278 rfl ?_
    refine z_iload_n (pc := 279) C dL_279 rfl ?_
    refine z_iconst (pc := 280) (v := nI 4) C dL_280 (by decide) ?_
    refine z_iaddN (pc := 281) C dL_281 ?_
    refine z_sld (pc := 282) C hX dL_282 (by omega) ?_
    refine z_aload_n (pc := 283) C dL_283 rfl ?_
    refine z_iload_n (pc := 284) C dL_284 rfl ?_
    refine z_iconst (pc := 285) (v := nI 5) C dL_285 (by decide) ?_
    refine z_iaddN (pc := 286) C dL_286 ?_
    refine z_sld (pc := 287) C hX dL_287 (by omega) ?_
    refine z_callL (pc := 288) (ci := 10) C dL_288 zy_X11_table kw_702 kw_703 rfl kw_704 rfl (ct_X11_table_n l Ω σ hmw _ _ _ _ _ hu) rfl rfl ⟨by decide, by decide⟩ ⟨rfl, rfl⟩ ⟨by omega, by omega⟩ (Nat.le_of_ble_eq_true rfl) ?_; dsimp only [Option.toList_some, List.cons_append, List.nil_append]
    refine z_icmp_eq (pc := 291) (tgt := 854) C dL_291 (by decide) (fun _ => ?_) (fun z => absurd (rfl) z)
    exact nx σ cells slots _ hI (by omega) (by omega) rfl
set_option maxHeartbeats 4000000 in
set_option maxRecDepth 100000 in
theorem lc_set {l : Launch} {Ω : OmT} {E : ZE} {nm : String} (C : ZC Ω E code "GrindWorksLaw" ret room_1 nm) {b L : Nat} {xs : Nat → Int32} (hX : SX Ω E b L xs) {σ : Sg} (hI : INV σ) {i cells slots : Nat} (hi : i + 6 ≤ L) (hc : cells + 31 ≤ 703340 ∧ slots + 223 ≤ 6992228) (nx : LwN l Ω E b i cells slots) : ZV l Ω E cells slots 296 [(0, .ref b), (1, rfO Ω 0), (2, rfO Ω 6), (3, .int (nI i))] [] (hp Ω σ) (hN σ) := by
  have hw := hI.kw
  have hmw := hI.mw
  have hn := hw.1
  have hL3 := hX.2.2
  refine z_aload_n (pc := 296) C dL_296 rfl ?_
  refine z_aload_n (pc := 297) C dL_297 rfl ?_
  refine z_iload_n (pc := 298) C dL_298 rfl ?_
  refine z_iconst (pc := 299) (v := nI 1) C dL_299 (by decide) ?_
  refine z_iaddN (pc := 300) C dL_300 ?_
  refine z_sld (pc := 301) C hX dL_301 (by omega) ?_
  refine z_aload_n (pc := 302) C dL_302 rfl ?_
  refine z_iload_n (pc := 303) C dL_303 rfl ?_
  refine z_iconst (pc := 304) (v := nI 2) C dL_304 (by decide) ?_
  refine z_iaddN (pc := 305) C dL_305 ?_
  refine z_sld (pc := 306) C hX dL_306 (by omega) ?_
  refine z_aload_n (pc := 307) C dL_307 rfl ?_
  refine z_iload_n (pc := 308) C dL_308 rfl ?_
  refine z_iconst (pc := 309) (v := nI 3) C dL_309 (by decide) ?_
  refine z_iaddN (pc := 310) C dL_310 ?_
  refine z_sld (pc := 311) C hX dL_311 (by omega) ?_
  by_cases hu : isU σ.2.2.2 (xs (i + 1))
  · obtain ⟨k, hk, e⟩ := isU_of (by omega) hu
    obtain ⟨qe, qi⟩ := q_set hI hk (xs (i + 2)) (xs (i + 3))
    obtain ⟨h11, h2⟩ := c11_set σ (show k < 10 by omega) (xs (i + 2)) (xs (i + 3))
    have e22 : (cs_set σ k (xs (i + 2)) (xs (i + 3))).2.2 = σ.2.2 := by rw [h2]
    have sn := (sn_set (cs_set σ k (xs (i + 2)) (xs (i + 3))) k (xs (i + 2)) (xs (i + 3))).trans e22
    have hmw2 := mw_of hmw h11 h2
    have hk2 : k < (cs_set σ k (xs (i + 2)) (xs (i + 3))).2.2.2 := by rw [e22]; exact hk
    rw [e]
    refine z_callL (pc := 312) (ci := 9) C dL_312 zy_X10_set kw_303 kw_304 rfl kw_305 rfl (ct_X10_set l Ω σ hw k _ hk rfl _ _) rfl rfl ⟨by decide, by decide⟩ ⟨rfl, rfl⟩ ⟨by omega, by omega⟩ (Nat.le_of_ble_eq_true rfl) ?_; dsimp only [Option.toList_some, List.cons_append, List.nil_append]
    refine z_aload_n (pc := 315) C dL_315 rfl ?_
    refine z_aload_n (pc := 316) C dL_316 rfl ?_
    refine z_iload_n (pc := 317) C dL_317 rfl ?_
    refine z_iconst (pc := 318) (v := nI 1) C dL_318 (by decide) ?_
    refine z_iaddN (pc := 319) C dL_319 ?_
    refine z_sld (pc := 320) C hX dL_320 (by omega) ?_
    refine z_aload_n (pc := 321) C dL_321 rfl ?_
    refine z_iload_n (pc := 322) C dL_322 rfl ?_
    refine z_iconst (pc := 323) (v := nI 2) C dL_323 (by decide) ?_
    refine z_iaddN (pc := 324) C dL_324 ?_
    refine z_sld (pc := 325) C hX dL_325 (by omega) ?_
    refine z_aload_n (pc := 326) C dL_326 rfl ?_
    refine z_iload_n (pc := 327) C dL_327 rfl ?_
    refine z_iconst (pc := 328) (v := nI 3) C dL_328 (by decide) ?_
    refine z_iaddN (pc := 329) C dL_329 ?_
    refine z_sld (pc := 330) C hX dL_330 (by omega) ?_
    rw [e]
    refine z_callL (pc := 331) (ci := 10) C dL_331 zy_X11_set kw_706 kw_707 rfl kw_708 rfl (zM_n (hN_eq e22) (ct_X11_set l Ω (cs_set σ k (xs (i + 2)) (xs (i + 3))) hmw2 k hk2 (xs (i + 2)) (xs (i + 3)))) rfl rfl ⟨by decide, by decide⟩ ⟨rfl, rfl⟩ ⟨by omega, by omega⟩ (Nat.le_of_ble_eq_true rfl) ?_; dsimp only [Option.toList_some, List.cons_append, List.nil_append]
    refine z_icmp_eq (pc := 334) (tgt := 854) C dL_334 (by decide) (fun _ => ?_) (fun z => absurd (qe) z)
    exact nx (s_set (cs_set σ k (xs (i + 2)) (xs (i + 3))) k (xs (i + 2)) (xs (i + 3))) cells slots _ qi (by omega) (by omega) (hN_eq sn)
  · refine z_callL (pc := 312) (ci := 9) C dL_312 zy_X10_set kw_303 kw_304 rfl kw_305 rfl (ct_X10_set_n l Ω σ hw _ _ _ hu) rfl rfl ⟨by decide, by decide⟩ ⟨rfl, rfl⟩ ⟨by omega, by omega⟩ (Nat.le_of_ble_eq_true rfl) ?_; dsimp only [Option.toList_some, List.cons_append, List.nil_append]
    refine z_aload_n (pc := 315) C dL_315 rfl ?_
    refine z_aload_n (pc := 316) C dL_316 rfl ?_
    refine z_iload_n (pc := 317) C dL_317 rfl ?_
    refine z_iconst (pc := 318) (v := nI 1) C dL_318 (by decide) ?_
    refine z_iaddN (pc := 319) C dL_319 ?_
    refine z_sld (pc := 320) C hX dL_320 (by omega) ?_
    refine z_aload_n (pc := 321) C dL_321 rfl ?_
    refine z_iload_n (pc := 322) C dL_322 rfl ?_
    refine z_iconst (pc := 323) (v := nI 2) C dL_323 (by decide) ?_
    refine z_iaddN (pc := 324) C dL_324 ?_
    refine z_sld (pc := 325) C hX dL_325 (by omega) ?_
    refine z_aload_n (pc := 326) C dL_326 rfl ?_
    refine z_iload_n (pc := 327) C dL_327 rfl ?_
    refine z_iconst (pc := 328) (v := nI 3) C dL_328 (by decide) ?_
    refine z_iaddN (pc := 329) C dL_329 ?_
    refine z_sld (pc := 330) C hX dL_330 (by omega) ?_
    refine z_callL (pc := 331) (ci := 10) C dL_331 zy_X11_set kw_706 kw_707 rfl kw_708 rfl (ct_X11_set_n l Ω σ hmw _ _ _ hu) rfl rfl ⟨by decide, by decide⟩ ⟨rfl, rfl⟩ ⟨by omega, by omega⟩ (Nat.le_of_ble_eq_true rfl) ?_; dsimp only [Option.toList_some, List.cons_append, List.nil_append]
    refine z_icmp_eq (pc := 334) (tgt := 854) C dL_334 (by decide) (fun _ => ?_) (fun z => absurd (rfl) z)
    exact nx σ cells slots _ hI (by omega) (by omega) rfl
set_option maxHeartbeats 4000000 in
set_option maxRecDepth 100000 in
theorem lc_control {l : Launch} {Ω : OmT} {E : ZE} {nm : String} (C : ZC Ω E code "GrindWorksLaw" ret room_1 nm) {b L : Nat} {xs : Nat → Int32} (hX : SX Ω E b L xs) {σ : Sg} (hI : INV σ) {i cells slots : Nat} (hi : i + 6 ≤ L) (hc : cells + 31 ≤ 703340 ∧ slots + 223 ≤ 6992228) (nx : LwN l Ω E b i cells slots) : ZV l Ω E cells slots 339 [(0, .ref b), (1, rfO Ω 0), (2, rfO Ω 6), (3, .int (nI i))] [] (hp Ω σ) (hN σ) := by
  have hw := hI.kw
  have hmw := hI.mw
  have hn := hw.1
  have hL3 := hX.2.2
  refine z_aload_n (pc := 339) C dL_339 rfl ?_
  refine z_aload_n (pc := 340) C dL_340 rfl ?_
  refine z_iload_n (pc := 341) C dL_341 rfl ?_
  refine z_iconst (pc := 342) (v := nI 1) C dL_342 (by decide) ?_
  refine z_iaddN (pc := 343) C dL_343 ?_
  refine z_sld (pc := 344) C hX dL_344 (by omega) ?_
  refine z_aload_n (pc := 345) C dL_345 rfl ?_
  refine z_iload_n (pc := 346) C dL_346 rfl ?_
  refine z_iconst (pc := 347) (v := nI 2) C dL_347 (by decide) ?_
  refine z_iaddN (pc := 348) C dL_348 ?_
  refine z_sld (pc := 349) C hX dL_349 (by omega) ?_
  refine z_aload_n (pc := 350) C dL_350 rfl ?_
  refine z_iload_n (pc := 351) C dL_351 rfl ?_
  refine z_iconst (pc := 352) (v := nI 3) C dL_352 (by decide) ?_
  refine z_iaddN (pc := 353) C dL_353 ?_
  refine z_sld (pc := 354) C hX dL_354 (by omega) ?_
  refine z_aload_n (pc := 355) C dL_355 rfl ?_
  refine z_iload_n (pc := 356) C dL_356 rfl ?_
  refine z_iconst (pc := 357) (v := nI 4) C dL_357 (by decide) ?_
  refine z_iaddN (pc := 358) C dL_358 ?_
  refine z_sld (pc := 359) C hX dL_359 (by omega) ?_
  by_cases hu : isU σ.2.2.2 (xs (i + 1))
  · obtain ⟨k, hk, e⟩ := isU_of (by omega) hu
    obtain ⟨qe, qi⟩ := q_control hI hk (xs (i + 2)) (xs (i + 3)) (xs (i + 4))
    obtain ⟨h11, h2⟩ := c11_control σ (show k < 10 by omega) (xs (i + 2)) (xs (i + 3)) (xs (i + 4))
    have e22 : (cs_control σ k (xs (i + 2)) (xs (i + 3)) (xs (i + 4))).2.2 = σ.2.2 := by rw [h2]
    have sn := (sn_control (cs_control σ k (xs (i + 2)) (xs (i + 3)) (xs (i + 4))) k (xs (i + 2)) (xs (i + 3)) (xs (i + 4))).trans e22
    have hmw2 := mw_of hmw h11 h2
    have hk2 : k < (cs_control σ k (xs (i + 2)) (xs (i + 3)) (xs (i + 4))).2.2.2 := by rw [e22]; exact hk
    rw [e]
    refine z_callL (pc := 360) (ci := 9) C dL_360 zy_X10_control kw_318 kw_319 rfl kw_320 rfl (ct_X10_control l Ω σ hw k _ hk rfl _ _ _) rfl rfl ⟨by decide, by decide⟩ ⟨rfl, rfl⟩ ⟨by omega, by omega⟩ (Nat.le_of_ble_eq_true rfl) ?_; dsimp only [Option.toList_some, List.cons_append, List.nil_append]
    refine z_aload_n (pc := 363) C dL_363 rfl ?_
    refine z_aload_n (pc := 364) C dL_364 rfl ?_
    refine z_iload_n (pc := 365) C dL_365 rfl ?_
    refine z_iconst (pc := 366) (v := nI 1) C dL_366 (by decide) ?_
    refine z_iaddN (pc := 367) C dL_367 ?_
    refine z_sld (pc := 368) C hX dL_368 (by omega) ?_
    refine z_aload_n (pc := 369) C dL_369 rfl ?_
    refine z_iload_n (pc := 370) C dL_370 rfl ?_
    refine z_iconst (pc := 371) (v := nI 2) C dL_371 (by decide) ?_
    refine z_iaddN (pc := 372) C dL_372 ?_
    refine z_sld (pc := 373) C hX dL_373 (by omega) ?_
    refine z_aload_n (pc := 374) C dL_374 rfl ?_
    refine z_iload_n (pc := 375) C dL_375 rfl ?_
    refine z_iconst (pc := 376) (v := nI 3) C dL_376 (by decide) ?_
    refine z_iaddN (pc := 377) C dL_377 ?_
    refine z_sld (pc := 378) C hX dL_378 (by omega) ?_
    refine z_aload_n (pc := 379) C dL_379 rfl ?_
    refine z_iload_n (pc := 380) C dL_380 rfl ?_
    refine z_iconst (pc := 381) (v := nI 4) C dL_381 (by decide) ?_
    refine z_iaddN (pc := 382) C dL_382 ?_
    refine z_sld (pc := 383) C hX dL_383 (by omega) ?_
    rw [e]
    refine z_callL (pc := 384) (ci := 10) C dL_384 zy_X11_control kw_720 kw_721 rfl kw_722 rfl (zM_n (hN_eq e22) (ct_X11_control l Ω (cs_control σ k (xs (i + 2)) (xs (i + 3)) (xs (i + 4))) hmw2 k hk2 (xs (i + 2)) (xs (i + 3)) (xs (i + 4)))) rfl rfl ⟨by decide, by decide⟩ ⟨rfl, rfl⟩ ⟨by omega, by omega⟩ (Nat.le_of_ble_eq_true rfl) ?_; dsimp only [Option.toList_some, List.cons_append, List.nil_append]
    refine z_icmp_eq (pc := 387) (tgt := 854) C dL_387 (by decide) (fun _ => ?_) (fun z => absurd (qe) z)
    exact nx (s_control (cs_control σ k (xs (i + 2)) (xs (i + 3)) (xs (i + 4))) k (xs (i + 2)) (xs (i + 3)) (xs (i + 4))) cells slots _ qi (by omega) (by omega) (hN_eq sn)
  · refine z_callL (pc := 360) (ci := 9) C dL_360 zy_X10_control kw_318 kw_319 rfl kw_320 rfl (ct_X10_control_n l Ω σ hw _ _ _ _ hu) rfl rfl ⟨by decide, by decide⟩ ⟨rfl, rfl⟩ ⟨by omega, by omega⟩ (Nat.le_of_ble_eq_true rfl) ?_; dsimp only [Option.toList_some, List.cons_append, List.nil_append]
    refine z_aload_n (pc := 363) C dL_363 rfl ?_
    refine z_aload_n (pc := 364) C dL_364 rfl ?_
    refine z_iload_n (pc := 365) C dL_365 rfl ?_
    refine z_iconst (pc := 366) (v := nI 1) C dL_366 (by decide) ?_
    refine z_iaddN (pc := 367) C dL_367 ?_
    refine z_sld (pc := 368) C hX dL_368 (by omega) ?_
    refine z_aload_n (pc := 369) C dL_369 rfl ?_
    refine z_iload_n (pc := 370) C dL_370 rfl ?_
    refine z_iconst (pc := 371) (v := nI 2) C dL_371 (by decide) ?_
    refine z_iaddN (pc := 372) C dL_372 ?_
    refine z_sld (pc := 373) C hX dL_373 (by omega) ?_
    refine z_aload_n (pc := 374) C dL_374 rfl ?_
    refine z_iload_n (pc := 375) C dL_375 rfl ?_
    refine z_iconst (pc := 376) (v := nI 3) C dL_376 (by decide) ?_
    refine z_iaddN (pc := 377) C dL_377 ?_
    refine z_sld (pc := 378) C hX dL_378 (by omega) ?_
    refine z_aload_n (pc := 379) C dL_379 rfl ?_
    refine z_iload_n (pc := 380) C dL_380 rfl ?_
    refine z_iconst (pc := 381) (v := nI 4) C dL_381 (by decide) ?_
    refine z_iaddN (pc := 382) C dL_382 ?_
    refine z_sld (pc := 383) C hX dL_383 (by omega) ?_
    refine z_callL (pc := 384) (ci := 10) C dL_384 zy_X11_control kw_720 kw_721 rfl kw_722 rfl (ct_X11_control_n l Ω σ hmw _ _ _ _ hu) rfl rfl ⟨by decide, by decide⟩ ⟨rfl, rfl⟩ ⟨by omega, by omega⟩ (Nat.le_of_ble_eq_true rfl) ?_; dsimp only [Option.toList_some, List.cons_append, List.nil_append]
    refine z_icmp_eq (pc := 387) (tgt := 854) C dL_387 (by decide) (fun _ => ?_) (fun z => absurd (rfl) z)
    exact nx σ cells slots _ hI (by omega) (by omega) rfl
set_option maxHeartbeats 4000000 in
set_option maxRecDepth 100000 in
theorem lc_turn {l : Launch} {Ω : OmT} {E : ZE} {nm : String} (C : ZC Ω E code "GrindWorksLaw" ret room_1 nm) {b L : Nat} {xs : Nat → Int32} (hX : SX Ω E b L xs) {σ : Sg} (hI : INV σ) {i cells slots : Nat} (hi : i + 6 ≤ L) (hc : cells + 31 ≤ 703340 ∧ slots + 223 ≤ 6992228) (nx : LwN l Ω E b i cells slots) : ZV l Ω E cells slots 392 [(0, .ref b), (1, rfO Ω 0), (2, rfO Ω 6), (3, .int (nI i))] [] (hp Ω σ) (hN σ) := by
  have hw := hI.kw
  have hmw := hI.mw
  have hn := hw.1
  have hL3 := hX.2.2
  refine z_aload_n (pc := 392) C dL_392 rfl ?_
  refine z_aload_n (pc := 393) C dL_393 rfl ?_
  refine z_iload_n (pc := 394) C dL_394 rfl ?_
  refine z_iconst (pc := 395) (v := nI 1) C dL_395 (by decide) ?_
  refine z_iaddN (pc := 396) C dL_396 ?_
  refine z_sld (pc := 397) C hX dL_397 (by omega) ?_
  refine z_aload_n (pc := 398) C dL_398 rfl ?_
  refine z_iload_n (pc := 399) C dL_399 rfl ?_
  refine z_iconst (pc := 400) (v := nI 2) C dL_400 (by decide) ?_
  refine z_iaddN (pc := 401) C dL_401 ?_
  refine z_sld (pc := 402) C hX dL_402 (by omega) ?_
  by_cases hu : isU σ.2.2.2 (xs (i + 1))
  · obtain ⟨k, hk, e⟩ := isU_of (by omega) hu
    obtain ⟨qe, qi⟩ := q_turn hI hk (xs (i + 2))
    obtain ⟨h11, h2⟩ := c11_turn σ (show k < 10 by omega) (xs (i + 2))
    have e22 : (cs_turn σ k (xs (i + 2))).2.2 = σ.2.2 := by rw [h2]
    have sn := (sn_turn (cs_turn σ k (xs (i + 2))) k (xs (i + 2))).trans e22
    have hmw2 := mw_of hmw h11 h2
    have hk2 : k < (cs_turn σ k (xs (i + 2))).2.2.2 := by rw [e22]; exact hk
    rw [e]
    refine z_callL (pc := 403) (ci := 9) C dL_403 zy_X10_turn kw_330 kw_331 rfl kw_332 rfl (ct_X10_turn l Ω σ hw k _ hk rfl _) rfl rfl ⟨by decide, by decide⟩ ⟨rfl, rfl⟩ ⟨by omega, by omega⟩ (Nat.le_of_ble_eq_true rfl) ?_; dsimp only [Option.toList_some, List.cons_append, List.nil_append]
    refine z_aload_n (pc := 406) C dL_406 rfl ?_
    refine z_aload_n (pc := 407) C dL_407 rfl ?_
    refine z_iload_n (pc := 408) C dL_408 rfl ?_
    refine z_iconst (pc := 409) (v := nI 1) C dL_409 (by decide) ?_
    refine z_iaddN (pc := 410) C dL_410 ?_
    refine z_sld (pc := 411) C hX dL_411 (by omega) ?_
    refine z_aload_n (pc := 412) C dL_412 rfl ?_
    refine z_iload_n (pc := 413) C dL_413 rfl ?_
    refine z_iconst (pc := 414) (v := nI 2) C dL_414 (by decide) ?_
    refine z_iaddN (pc := 415) C dL_415 ?_
    refine z_sld (pc := 416) C hX dL_416 (by omega) ?_
    rw [e]
    refine z_callL (pc := 417) (ci := 10) C dL_417 zy_X11_turn kw_725 kw_726 rfl kw_727 rfl (zM_n (hN_eq e22) (ct_X11_turn l Ω (cs_turn σ k (xs (i + 2))) hmw2 k hk2 (xs (i + 2)))) rfl rfl ⟨by decide, by decide⟩ ⟨rfl, rfl⟩ ⟨by omega, by omega⟩ (Nat.le_of_ble_eq_true rfl) ?_; dsimp only [Option.toList_some, List.cons_append, List.nil_append]
    refine z_icmp_eq (pc := 420) (tgt := 854) C dL_420 (by decide) (fun _ => ?_) (fun z => absurd (qe) z)
    exact nx (s_turn (cs_turn σ k (xs (i + 2))) k (xs (i + 2))) cells slots _ qi (by omega) (by omega) (hN_eq sn)
  · refine z_callL (pc := 403) (ci := 9) C dL_403 zy_X10_turn kw_330 kw_331 rfl kw_332 rfl (ct_X10_turn_n l Ω σ hw _ _ hu) rfl rfl ⟨by decide, by decide⟩ ⟨rfl, rfl⟩ ⟨by omega, by omega⟩ (Nat.le_of_ble_eq_true rfl) ?_; dsimp only [Option.toList_some, List.cons_append, List.nil_append]
    refine z_aload_n (pc := 406) C dL_406 rfl ?_
    refine z_aload_n (pc := 407) C dL_407 rfl ?_
    refine z_iload_n (pc := 408) C dL_408 rfl ?_
    refine z_iconst (pc := 409) (v := nI 1) C dL_409 (by decide) ?_
    refine z_iaddN (pc := 410) C dL_410 ?_
    refine z_sld (pc := 411) C hX dL_411 (by omega) ?_
    refine z_aload_n (pc := 412) C dL_412 rfl ?_
    refine z_iload_n (pc := 413) C dL_413 rfl ?_
    refine z_iconst (pc := 414) (v := nI 2) C dL_414 (by decide) ?_
    refine z_iaddN (pc := 415) C dL_415 ?_
    refine z_sld (pc := 416) C hX dL_416 (by omega) ?_
    refine z_callL (pc := 417) (ci := 10) C dL_417 zy_X11_turn kw_725 kw_726 rfl kw_727 rfl (ct_X11_turn_n l Ω σ hmw _ _ hu) rfl rfl ⟨by decide, by decide⟩ ⟨rfl, rfl⟩ ⟨by omega, by omega⟩ (Nat.le_of_ble_eq_true rfl) ?_; dsimp only [Option.toList_some, List.cons_append, List.nil_append]
    refine z_icmp_eq (pc := 420) (tgt := 854) C dL_420 (by decide) (fun _ => ?_) (fun z => absurd (rfl) z)
    exact nx σ cells slots _ hI (by omega) (by omega) rfl
set_option maxHeartbeats 4000000 in
set_option maxRecDepth 100000 in
theorem lc_run {l : Launch} {Ω : OmT} {E : ZE} {nm : String} (C : ZC Ω E code "GrindWorksLaw" ret room_1 nm) {b L : Nat} {xs : Nat → Int32} (hX : SX Ω E b L xs) {σ : Sg} (hI : INV σ) {i cells slots : Nat} (hi : i + 6 ≤ L) (hc : cells + 31 ≤ 703340 ∧ slots + 223 ≤ 6992228) (nx : LwN l Ω E b i cells slots) : ZV l Ω E cells slots 425 [(0, .ref b), (1, rfO Ω 0), (2, rfO Ω 6), (3, .int (nI i))] [] (hp Ω σ) (hN σ) := by
  have hw := hI.kw
  have hmw := hI.mw
  have hn := hw.1
  have hL3 := hX.2.2
  refine z_aload_n (pc := 425) C dL_425 rfl ?_
  refine z_aload_n (pc := 426) C dL_426 rfl ?_
  refine z_iload_n (pc := 427) C dL_427 rfl ?_
  refine z_iconst (pc := 428) (v := nI 1) C dL_428 (by decide) ?_
  refine z_iaddN (pc := 429) C dL_429 ?_
  refine z_sld (pc := 430) C hX dL_430 (by omega) ?_
  obtain ⟨m, hm, em, e30⟩ : ∃ m, m ≤ 3000 ∧ σ.1 10 0 1 = nI m ∧ σ.1 11 30 1 = nI m := by
    obtain ⟨m, L, hV, -, a2, a3, -⟩ := hI
    exact ⟨m, hV.2.2.2.1, a2, a3⟩
  by_cases h : inR 1 60 (xs (i + 1))
  · obtain ⟨k, k1, k2, e⟩ := inR_of (by decide) (by decide) h
    rw [e]
    by_cases hk : m + k ≤ 3000
    · obtain ⟨-, q2, q3, q4, q5, q6⟩ := q_run hI em hm hk
      have e22 : (cs_run σ m k).2.2 = σ.2.2 := by
        show (itC k σ).2.2 = _
        rw [itC_n]
      have sn : (itM k (cs_run σ m k)).2.2 = σ.2.2 := (itM_n k _).trans e22
      refine z_callL (pc := 431) (ci := 9) C dL_431 zy_X10_run kw_334 kw_335 rfl kw_336 rfl (ct_X10_run l Ω σ hw m k k1 k2 em hk q3) rfl rfl ⟨by decide, by decide⟩ ⟨rfl, rfl⟩ ⟨by omega, by omega⟩ (Nat.le_of_ble_eq_true rfl) ?_; dsimp only [Option.toList_some, List.cons_append, List.nil_append]
      refine z_aload_n (pc := 434) C dL_434 rfl ?_
      refine z_aload_n (pc := 435) C dL_435 rfl ?_
      refine z_iload_n (pc := 436) C dL_436 rfl ?_
      refine z_iconst (pc := 437) (v := nI 1) C dL_437 (by decide) ?_
      refine z_iaddN (pc := 438) C dL_438 ?_
      refine z_sld (pc := 439) C hX dL_439 (by omega) ?_
      rw [e]
      refine z_callL (pc := 440) (ci := 10) C dL_440 zy_X11_run kw_729 kw_730 rfl kw_731 rfl (zM_n (hN_eq e22) (ct_X11_run l Ω (cs_run σ m k) m k k1 k2 q2 hk q4)) rfl rfl ⟨by decide, by decide⟩ ⟨rfl, rfl⟩ ⟨by omega, by omega⟩ (Nat.le_of_ble_eq_true rfl) ?_; dsimp only [Option.toList_some, List.cons_append, List.nil_append]
      refine z_icmp_eq (pc := 443) (tgt := 854) C dL_443 (by decide) (fun _ => ?_) (fun z => absurd (q5.symm) z)
      exact nx (itM k (cs_run σ m k)) cells slots _ q6 (by omega) (by omega) (hN_eq sn)
    · refine z_callL (pc := 431) (ci := 9) C dL_431 zy_X10_run kw_334 kw_335 rfl kw_336 rfl (ct_X10_run_f l Ω σ m k k1 k2 hm em (by omega)) rfl rfl ⟨by decide, by decide⟩ ⟨rfl, rfl⟩ ⟨by omega, by omega⟩ (Nat.le_of_ble_eq_true rfl) ?_; dsimp only [Option.toList_some, List.cons_append, List.nil_append]
      refine z_aload_n (pc := 434) C dL_434 rfl ?_
      refine z_aload_n (pc := 435) C dL_435 rfl ?_
      refine z_iload_n (pc := 436) C dL_436 rfl ?_
      refine z_iconst (pc := 437) (v := nI 1) C dL_437 (by decide) ?_
      refine z_iaddN (pc := 438) C dL_438 ?_
      refine z_sld (pc := 439) C hX dL_439 (by omega) ?_
      rw [e]
      refine z_callL (pc := 440) (ci := 10) C dL_440 zy_X11_run kw_729 kw_730 rfl kw_731 rfl (ct_X11_run_f l Ω σ m k k1 k2 hm e30 (by omega)) rfl rfl ⟨by decide, by decide⟩ ⟨rfl, rfl⟩ ⟨by omega, by omega⟩ (Nat.le_of_ble_eq_true rfl) ?_; dsimp only [Option.toList_some, List.cons_append, List.nil_append]
      refine z_icmp_eq (pc := 443) (tgt := 854) C dL_443 (by decide) (fun _ => ?_) (fun z => absurd (rfl) z)
      exact nx σ cells slots _ hI (by omega) (by omega) rfl
  · refine z_callL (pc := 431) (ci := 9) C dL_431 zy_X10_run kw_334 kw_335 rfl kw_336 rfl (ct_X10_run_n l Ω σ _ h) rfl rfl ⟨by decide, by decide⟩ ⟨rfl, rfl⟩ ⟨by omega, by omega⟩ (Nat.le_of_ble_eq_true rfl) ?_; dsimp only [Option.toList_some, List.cons_append, List.nil_append]
    refine z_aload_n (pc := 434) C dL_434 rfl ?_
    refine z_aload_n (pc := 435) C dL_435 rfl ?_
    refine z_iload_n (pc := 436) C dL_436 rfl ?_
    refine z_iconst (pc := 437) (v := nI 1) C dL_437 (by decide) ?_
    refine z_iaddN (pc := 438) C dL_438 ?_
    refine z_sld (pc := 439) C hX dL_439 (by omega) ?_
    refine z_callL (pc := 440) (ci := 10) C dL_440 zy_X11_run kw_729 kw_730 rfl kw_731 rfl (ct_X11_run_n l Ω σ _ h) rfl rfl ⟨by decide, by decide⟩ ⟨rfl, rfl⟩ ⟨by omega, by omega⟩ (Nat.le_of_ble_eq_true rfl) ?_; dsimp only [Option.toList_some, List.cons_append, List.nil_append]
    refine z_icmp_eq (pc := 443) (tgt := 854) C dL_443 (by decide) (fun _ => ?_) (fun z => absurd (rfl) z)
    exact nx σ cells slots _ hI (by omega) (by omega) rfl
set_option maxHeartbeats 4000000 in
set_option maxRecDepth 100000 in
theorem lc_hold {l : Launch} {Ω : OmT} {E : ZE} {nm : String} (C : ZC Ω E code "GrindWorksLaw" ret room_1 nm) {b L : Nat} {xs : Nat → Int32} (hX : SX Ω E b L xs) {σ : Sg} (hI : INV σ) {i cells slots : Nat} (hi : i + 6 ≤ L) (hc : cells + 31 ≤ 703340 ∧ slots + 223 ≤ 6992228) (nx : LwN l Ω E b i cells slots) : ZV l Ω E cells slots 448 [(0, .ref b), (1, rfO Ω 0), (2, rfO Ω 6), (3, .int (nI i))] [] (hp Ω σ) (hN σ) := by
  have hw := hI.kw
  have hmw := hI.mw
  have hn := hw.1
  have hL3 := hX.2.2
  refine z_aload_n (pc := 448) C dL_448 rfl ?_
  refine z_aload_n (pc := 449) C dL_449 rfl ?_
  refine z_iload_n (pc := 450) C dL_450 rfl ?_
  refine z_iconst (pc := 451) (v := nI 1) C dL_451 (by decide) ?_
  refine z_iaddN (pc := 452) C dL_452 ?_
  refine z_sld (pc := 453) C hX dL_453 (by omega) ?_
  refine z_aload_n (pc := 454) C dL_454 rfl ?_
  refine z_iload_n (pc := 455) C dL_455 rfl ?_
  refine z_iconst (pc := 456) (v := nI 2) C dL_456 (by decide) ?_
  refine z_iaddN (pc := 457) C dL_457 ?_
  refine z_sld (pc := 458) C hX dL_458 (by omega) ?_
  by_cases hu : isU σ.2.2.2 (xs (i + 1))
  · obtain ⟨k, hk, e⟩ := isU_of (by omega) hu
    rw [e]
    refine z_callL (pc := 459) (ci := 9) C dL_459 zy_X10_hold kw_449 kw_450 rfl kw_451 rfl (ct_X10_hold l Ω σ hw k _ hk rfl _) rfl rfl ⟨by decide, by decide⟩ ⟨rfl, rfl⟩ ⟨by omega, by omega⟩ (Nat.le_of_ble_eq_true rfl) ?_; dsimp only [Option.toList_some, List.cons_append, List.nil_append]
    refine z_aload_n (pc := 462) C dL_462 rfl ?_
    refine z_aload_n (pc := 463) C dL_463 rfl ?_
    refine z_iload_n (pc := 464) C dL_464 rfl ?_
    refine z_iconst (pc := 465) (v := nI 1) C dL_465 (by decide) ?_
    refine z_iaddN (pc := 466) C dL_466 ?_
    refine z_sld (pc := 467) C hX dL_467 (by omega) ?_
    refine z_aload_n (pc := 468) C dL_468 rfl ?_
    refine z_iload_n (pc := 469) C dL_469 rfl ?_
    refine z_iconst (pc := 470) (v := nI 2) C dL_470 (by decide) ?_
    refine z_iaddN (pc := 471) C dL_471 ?_
    refine z_sld (pc := 472) C hX dL_472 (by omega) ?_
    rw [e]
    refine z_callL (pc := 473) (ci := 10) C dL_473 zy_X11_hold kw_773 kw_774 rfl kw_775 rfl (ct_X11_hold l Ω σ hmw k hk _) rfl rfl ⟨by decide, by decide⟩ ⟨rfl, rfl⟩ ⟨by omega, by omega⟩ (Nat.le_of_ble_eq_true rfl) ?_; dsimp only [Option.toList_some, List.cons_append, List.nil_append]
    refine z_icmp_eq (pc := 476) (tgt := 854) C dL_476 (by decide) (fun _ => ?_) (fun z => absurd (q_hold hI hk _) z)
    exact nx σ cells slots _ hI (by omega) (by omega) rfl
  · refine z_callL (pc := 459) (ci := 9) C dL_459 zy_X10_hold kw_449 kw_450 rfl kw_451 rfl (ct_X10_hold_n l Ω σ hw _ _ hu) rfl rfl ⟨by decide, by decide⟩ ⟨rfl, rfl⟩ ⟨by omega, by omega⟩ (Nat.le_of_ble_eq_true rfl) ?_; dsimp only [Option.toList_some, List.cons_append, List.nil_append]
    refine z_aload_n (pc := 462) C dL_462 rfl ?_
    refine z_aload_n (pc := 463) C dL_463 rfl ?_
    refine z_iload_n (pc := 464) C dL_464 rfl ?_
    refine z_iconst (pc := 465) (v := nI 1) C dL_465 (by decide) ?_
    refine z_iaddN (pc := 466) C dL_466 ?_
    refine z_sld (pc := 467) C hX dL_467 (by omega) ?_
    refine z_aload_n (pc := 468) C dL_468 rfl ?_
    refine z_iload_n (pc := 469) C dL_469 rfl ?_
    refine z_iconst (pc := 470) (v := nI 2) C dL_470 (by decide) ?_
    refine z_iaddN (pc := 471) C dL_471 ?_
    refine z_sld (pc := 472) C hX dL_472 (by omega) ?_
    refine z_callL (pc := 473) (ci := 10) C dL_473 zy_X11_hold kw_773 kw_774 rfl kw_775 rfl (ct_X11_hold_n l Ω σ hmw _ _ hu) rfl rfl ⟨by decide, by decide⟩ ⟨rfl, rfl⟩ ⟨by omega, by omega⟩ (Nat.le_of_ble_eq_true rfl) ?_; dsimp only [Option.toList_some, List.cons_append, List.nil_append]
    refine z_icmp_eq (pc := 476) (tgt := 854) C dL_476 (by decide) (fun _ => ?_) (fun z => absurd (rfl) z)
    exact nx σ cells slots _ hI (by omega) (by omega) rfl
set_option maxHeartbeats 4000000 in
set_option maxRecDepth 100000 in
theorem lc_about {l : Launch} {Ω : OmT} {E : ZE} {nm : String} (C : ZC Ω E code "GrindWorksLaw" ret room_1 nm) {b L : Nat} {xs : Nat → Int32} (hX : SX Ω E b L xs) {σ : Sg} (hI : INV σ) {i cells slots : Nat} (hi : i + 6 ≤ L) (hc : cells + 31 ≤ 703340 ∧ slots + 223 ≤ 6992228) (nx : LwN l Ω E b i cells slots) : ZV l Ω E cells slots 481 [(0, .ref b), (1, rfO Ω 0), (2, rfO Ω 6), (3, .int (nI i))] [] (hp Ω σ) (hN σ) := by
  have hw := hI.kw
  have hmw := hI.mw
  have hn := hw.1
  have hL3 := hX.2.2
  refine z_aload_n (pc := 481) C dL_481 rfl ?_
  refine z_aload_n (pc := 482) C dL_482 rfl ?_
  refine z_iload_n (pc := 483) C dL_483 rfl ?_
  refine z_iconst (pc := 484) (v := nI 1) C dL_484 (by decide) ?_
  refine z_iaddN (pc := 485) C dL_485 ?_
  refine z_sld (pc := 486) C hX dL_486 (by omega) ?_
  refine z_aload_n (pc := 487) C dL_487 rfl ?_
  refine z_iload_n (pc := 488) C dL_488 rfl ?_
  refine z_iconst (pc := 489) (v := nI 2) C dL_489 (by decide) ?_
  refine z_iaddN (pc := 490) C dL_490 ?_
  refine z_sld (pc := 491) C hX dL_491 (by omega) ?_
  by_cases hu : isU σ.2.2.2 (xs (i + 1))
  · obtain ⟨k, hk, e⟩ := isU_of (by omega) hu
    obtain ⟨⟨K1, K2⟩, L1, L2⟩ := hI.kl hk
    rw [e]
    refine z_callL (pc := 492) (ci := 9) C dL_492 zy_X10_about kw_453 kw_454 rfl kw_455 rfl (ct_X10_about l Ω σ hw k _ hk rfl _) rfl rfl ⟨by decide, by decide⟩ ⟨rfl, rfl⟩ ⟨by omega, by omega⟩ (Nat.le_of_ble_eq_true rfl) ?_; dsimp only [Option.toList_some, List.cons_append, List.nil_append]
    refine z_aload_n (pc := 495) C dL_495 rfl ?_
    refine z_aload_n (pc := 496) C dL_496 rfl ?_
    refine z_iload_n (pc := 497) C dL_497 rfl ?_
    refine z_iconst (pc := 498) (v := nI 1) C dL_498 (by decide) ?_
    refine z_iaddN (pc := 499) C dL_499 ?_
    refine z_sld (pc := 500) C hX dL_500 (by omega) ?_
    refine z_aload_n (pc := 501) C dL_501 rfl ?_
    refine z_iload_n (pc := 502) C dL_502 rfl ?_
    refine z_iconst (pc := 503) (v := nI 2) C dL_503 (by decide) ?_
    refine z_iaddN (pc := 504) C dL_504 ?_
    refine z_sld (pc := 505) C hX dL_505 (by omega) ?_
    rw [e]
    refine z_callL (pc := 506) (ci := 10) C dL_506 zy_X11_about kw_777 kw_778 rfl kw_779 rfl (ct_X11_about l Ω σ hmw k _ _ hk K1 K2 L1 L2 _) rfl rfl ⟨by decide, by decide⟩ ⟨rfl, rfl⟩ ⟨by omega, by omega⟩ (Nat.le_of_ble_eq_true rfl) ?_; dsimp only [Option.toList_some, List.cons_append, List.nil_append]
    refine z_icmp_eq (pc := 509) (tgt := 854) C dL_509 (by decide) (fun _ => ?_) (fun z => absurd (q_about hI hk _) z)
    exact nx σ cells slots _ hI (by omega) (by omega) rfl
  · refine z_callL (pc := 492) (ci := 9) C dL_492 zy_X10_about kw_453 kw_454 rfl kw_455 rfl (ct_X10_about_n l Ω σ hw _ _ hu) rfl rfl ⟨by decide, by decide⟩ ⟨rfl, rfl⟩ ⟨by omega, by omega⟩ (Nat.le_of_ble_eq_true rfl) ?_; dsimp only [Option.toList_some, List.cons_append, List.nil_append]
    refine z_aload_n (pc := 495) C dL_495 rfl ?_
    refine z_aload_n (pc := 496) C dL_496 rfl ?_
    refine z_iload_n (pc := 497) C dL_497 rfl ?_
    refine z_iconst (pc := 498) (v := nI 1) C dL_498 (by decide) ?_
    refine z_iaddN (pc := 499) C dL_499 ?_
    refine z_sld (pc := 500) C hX dL_500 (by omega) ?_
    refine z_aload_n (pc := 501) C dL_501 rfl ?_
    refine z_iload_n (pc := 502) C dL_502 rfl ?_
    refine z_iconst (pc := 503) (v := nI 2) C dL_503 (by decide) ?_
    refine z_iaddN (pc := 504) C dL_504 ?_
    refine z_sld (pc := 505) C hX dL_505 (by omega) ?_
    refine z_callL (pc := 506) (ci := 10) C dL_506 zy_X11_about kw_777 kw_778 rfl kw_779 rfl (ct_X11_about_n l Ω σ hmw _ _ hu) rfl rfl ⟨by decide, by decide⟩ ⟨rfl, rfl⟩ ⟨by omega, by omega⟩ (Nat.le_of_ble_eq_true rfl) ?_; dsimp only [Option.toList_some, List.cons_append, List.nil_append]
    refine z_icmp_eq (pc := 509) (tgt := 854) C dL_509 (by decide) (fun _ => ?_) (fun z => absurd (rfl) z)
    exact nx σ cells slots _ hI (by omega) (by omega) rfl
set_option maxHeartbeats 4000000 in
set_option maxRecDepth 100000 in
theorem lc_told {l : Launch} {Ω : OmT} {E : ZE} {nm : String} (C : ZC Ω E code "GrindWorksLaw" ret room_1 nm) {b L : Nat} {xs : Nat → Int32} (hX : SX Ω E b L xs) {σ : Sg} (hI : INV σ) {i cells slots : Nat} (hi : i + 6 ≤ L) (hc : cells + 31 ≤ 703340 ∧ slots + 223 ≤ 6992228) (nx : LwN l Ω E b i cells slots) : ZV l Ω E cells slots 514 [(0, .ref b), (1, rfO Ω 0), (2, rfO Ω 6), (3, .int (nI i))] [] (hp Ω σ) (hN σ) := by
  have hw := hI.kw
  have hmw := hI.mw
  have hn := hw.1
  have hL3 := hX.2.2
  refine z_aload_n (pc := 514) C dL_514 rfl ?_
  refine z_aload_n (pc := 515) C dL_515 rfl ?_
  refine z_iload_n (pc := 516) C dL_516 rfl ?_
  refine z_iconst (pc := 517) (v := nI 1) C dL_517 (by decide) ?_
  refine z_iaddN (pc := 518) C dL_518 ?_
  refine z_sld (pc := 519) C hX dL_519 (by omega) ?_
  refine z_aload_n (pc := 520) C dL_520 rfl ?_
  refine z_iload_n (pc := 521) C dL_521 rfl ?_
  refine z_iconst (pc := 522) (v := nI 2) C dL_522 (by decide) ?_
  refine z_iaddN (pc := 523) C dL_523 ?_
  refine z_sld (pc := 524) C hX dL_524 (by omega) ?_
  by_cases hu : isU σ.2.2.2 (xs (i + 1))
  · obtain ⟨k, hk, e⟩ := isU_of (by omega) hu
    rw [e]
    refine z_callL (pc := 525) (ci := 9) C dL_525 zy_X10_told kw_496 kw_497 rfl kw_498 rfl (ct_X10_told l Ω σ hw k _ hk rfl _) rfl rfl ⟨by decide, by decide⟩ ⟨rfl, rfl⟩ ⟨by omega, by omega⟩ (Nat.le_of_ble_eq_true rfl) ?_; dsimp only [Option.toList_some, List.cons_append, List.nil_append]
    refine z_aload_n (pc := 528) C dL_528 rfl ?_
    refine z_aload_n (pc := 529) C dL_529 rfl ?_
    refine z_iload_n (pc := 530) C dL_530 rfl ?_
    refine z_iconst (pc := 531) (v := nI 1) C dL_531 (by decide) ?_
    refine z_iaddN (pc := 532) C dL_532 ?_
    refine z_sld (pc := 533) C hX dL_533 (by omega) ?_
    refine z_aload_n (pc := 534) C dL_534 rfl ?_
    refine z_iload_n (pc := 535) C dL_535 rfl ?_
    refine z_iconst (pc := 536) (v := nI 2) C dL_536 (by decide) ?_
    refine z_iaddN (pc := 537) C dL_537 ?_
    refine z_sld (pc := 538) C hX dL_538 (by omega) ?_
    rw [e]
    refine z_callL (pc := 539) (ci := 10) C dL_539 zy_X11_told kw_790 kw_714 rfl kw_715 rfl (ct_X11_told l Ω σ hmw k hk _) rfl rfl ⟨by decide, by decide⟩ ⟨rfl, rfl⟩ ⟨by omega, by omega⟩ (Nat.le_of_ble_eq_true rfl) ?_; dsimp only [Option.toList_some, List.cons_append, List.nil_append]
    refine z_icmp_eq (pc := 542) (tgt := 854) C dL_542 (by decide) (fun _ => ?_) (fun z => absurd (q_told hI hk _) z)
    exact nx σ cells slots _ hI (by omega) (by omega) rfl
  · refine z_callL (pc := 525) (ci := 9) C dL_525 zy_X10_told kw_496 kw_497 rfl kw_498 rfl (ct_X10_told_n l Ω σ hw _ _ hu) rfl rfl ⟨by decide, by decide⟩ ⟨rfl, rfl⟩ ⟨by omega, by omega⟩ (Nat.le_of_ble_eq_true rfl) ?_; dsimp only [Option.toList_some, List.cons_append, List.nil_append]
    refine z_aload_n (pc := 528) C dL_528 rfl ?_
    refine z_aload_n (pc := 529) C dL_529 rfl ?_
    refine z_iload_n (pc := 530) C dL_530 rfl ?_
    refine z_iconst (pc := 531) (v := nI 1) C dL_531 (by decide) ?_
    refine z_iaddN (pc := 532) C dL_532 ?_
    refine z_sld (pc := 533) C hX dL_533 (by omega) ?_
    refine z_aload_n (pc := 534) C dL_534 rfl ?_
    refine z_iload_n (pc := 535) C dL_535 rfl ?_
    refine z_iconst (pc := 536) (v := nI 2) C dL_536 (by decide) ?_
    refine z_iaddN (pc := 537) C dL_537 ?_
    refine z_sld (pc := 538) C hX dL_538 (by omega) ?_
    refine z_callL (pc := 539) (ci := 10) C dL_539 zy_X11_told kw_790 kw_714 rfl kw_715 rfl (ct_X11_told_n l Ω σ hmw _ _ hu) rfl rfl ⟨by decide, by decide⟩ ⟨rfl, rfl⟩ ⟨by omega, by omega⟩ (Nat.le_of_ble_eq_true rfl) ?_; dsimp only [Option.toList_some, List.cons_append, List.nil_append]
    refine z_icmp_eq (pc := 542) (tgt := 854) C dL_542 (by decide) (fun _ => ?_) (fun z => absurd (rfl) z)
    exact nx σ cells slots _ hI (by omega) (by omega) rfl
set_option maxHeartbeats 4000000 in
set_option maxRecDepth 100000 in
theorem lc_sum {l : Launch} {Ω : OmT} {E : ZE} {nm : String} (C : ZC Ω E code "GrindWorksLaw" ret room_1 nm) {b L : Nat} {xs : Nat → Int32} (hX : SX Ω E b L xs) {σ : Sg} (hI : INV σ) {i cells slots : Nat} (hi : i + 6 ≤ L) (hc : cells + 31 ≤ 703340 ∧ slots + 223 ≤ 6992228) (nx : LwN l Ω E b i cells slots) : ZV l Ω E cells slots 547 [(0, .ref b), (1, rfO Ω 0), (2, rfO Ω 6), (3, .int (nI i))] [] (hp Ω σ) (hN σ) := by
  have hw := hI.kw
  have hmw := hI.mw
  have hn := hw.1
  have hL3 := hX.2.2
  refine z_aload_n (pc := 547) C dL_547 rfl ?_
  refine z_aload_n (pc := 548) C dL_548 rfl ?_
  refine z_iload_n (pc := 549) C dL_549 rfl ?_
  refine z_iconst (pc := 550) (v := nI 1) C dL_550 (by decide) ?_
  refine z_iaddN (pc := 551) C dL_551 ?_
  refine z_sld (pc := 552) C hX dL_552 (by omega) ?_
  refine z_aload_n (pc := 553) C dL_553 rfl ?_
  refine z_iload_n (pc := 554) C dL_554 rfl ?_
  refine z_iconst (pc := 555) (v := nI 2) C dL_555 (by decide) ?_
  refine z_iaddN (pc := 556) C dL_556 ?_
  refine z_sld (pc := 557) C hX dL_557 (by omega) ?_
  by_cases h : inR 0 1 (xs (i + 1)) ∧ inR 0 3 (xs (i + 2))
  · obtain ⟨s, -, hs, e1⟩ := inR_of (by decide) (by decide) h.1
    obtain ⟨w, -, hw4, e2⟩ := inR_of (by decide) (by decide) h.2
    rw [e1, e2]
    refine z_callL (pc := 558) (ci := 9) C dL_558 zy_X10_sum kw_500 kw_501 rfl kw_502 rfl (ct_X10_sum l Ω σ hw s w (by omega) (by omega)) rfl rfl ⟨by decide, by decide⟩ ⟨rfl, rfl⟩ ⟨by omega, by omega⟩ (Nat.le_of_ble_eq_true rfl) ?_; dsimp only [Option.toList_some, List.cons_append, List.nil_append]
    refine z_aload_n (pc := 561) C dL_561 rfl ?_
    refine z_aload_n (pc := 562) C dL_562 rfl ?_
    refine z_iload_n (pc := 563) C dL_563 rfl ?_
    refine z_iconst (pc := 564) (v := nI 1) C dL_564 (by decide) ?_
    refine z_iaddN (pc := 565) C dL_565 ?_
    refine z_sld (pc := 566) C hX dL_566 (by omega) ?_
    refine z_aload_n (pc := 567) C dL_567 rfl ?_
    refine z_iload_n (pc := 568) C dL_568 rfl ?_
    refine z_iconst (pc := 569) (v := nI 2) C dL_569 (by decide) ?_
    refine z_iaddN (pc := 570) C dL_570 ?_
    refine z_sld (pc := 571) C hX dL_571 (by omega) ?_
    rw [e1, e2]
    refine z_callL (pc := 572) (ci := 10) C dL_572 zy_X11_sum kw_791 kw_792 rfl kw_793 rfl (ct_X11_sum l Ω σ hmw (fun u => tn (σ.1 11 13 u)) (fun u => tn (σ.1 11 16 u)) (fun u hu => (hI.kl hu).1) (fun u hu => (hI.kl hu).2) s w (by omega) (by omega)) rfl rfl ⟨by decide, by decide⟩ ⟨rfl, rfl⟩ ⟨by omega, by omega⟩ (Nat.le_of_ble_eq_true rfl) ?_; dsimp only [Option.toList_some, List.cons_append, List.nil_append]
    refine z_lcmp (pc := 575) C dL_575 ?_
    refine z_if_eq (pc := 576) (tgt := 854) C dL_576 (by decide) (fun _ => ?_) (fun z => absurd (by rw [q_sum hI (show s < 2 by omega) (show w < 4 by omega)]; exact lg_same _) z)
    exact nx σ cells slots _ hI (by omega) (by omega) rfl
  · refine z_callL (pc := 558) (ci := 9) C dL_558 zy_X10_sum kw_500 kw_501 rfl kw_502 rfl (ct_X10_sum_n l Ω σ _ _ h) rfl rfl ⟨by decide, by decide⟩ ⟨rfl, rfl⟩ ⟨by omega, by omega⟩ (Nat.le_of_ble_eq_true rfl) ?_; dsimp only [Option.toList_some, List.cons_append, List.nil_append]
    refine z_aload_n (pc := 561) C dL_561 rfl ?_
    refine z_aload_n (pc := 562) C dL_562 rfl ?_
    refine z_iload_n (pc := 563) C dL_563 rfl ?_
    refine z_iconst (pc := 564) (v := nI 1) C dL_564 (by decide) ?_
    refine z_iaddN (pc := 565) C dL_565 ?_
    refine z_sld (pc := 566) C hX dL_566 (by omega) ?_
    refine z_aload_n (pc := 567) C dL_567 rfl ?_
    refine z_iload_n (pc := 568) C dL_568 rfl ?_
    refine z_iconst (pc := 569) (v := nI 2) C dL_569 (by decide) ?_
    refine z_iaddN (pc := 570) C dL_570 ?_
    refine z_sld (pc := 571) C hX dL_571 (by omega) ?_
    refine z_callL (pc := 572) (ci := 10) C dL_572 zy_X11_sum kw_791 kw_792 rfl kw_793 rfl (ct_X11_sum_n l Ω σ _ _ h) rfl rfl ⟨by decide, by decide⟩ ⟨rfl, rfl⟩ ⟨by omega, by omega⟩ (Nat.le_of_ble_eq_true rfl) ?_; dsimp only [Option.toList_some, List.cons_append, List.nil_append]
    refine z_lcmp (pc := 575) C dL_575 ?_
    refine z_if_eq (pc := 576) (tgt := 854) C dL_576 (by decide) (fun _ => ?_) (fun z => absurd (lg_same _) z)
    exact nx σ cells slots _ hI (by omega) (by omega) rfl
set_option maxHeartbeats 4000000 in
set_option maxRecDepth 100000 in
theorem lc_ledBack {l : Launch} {Ω : OmT} {E : ZE} {nm : String} (C : ZC Ω E code "GrindWorksLaw" ret room_1 nm) {b L : Nat} {xs : Nat → Int32} (hX : SX Ω E b L xs) {σ : Sg} (hI : INV σ) {i cells slots : Nat} (hi : i + 6 ≤ L) (hc : cells + 31 ≤ 703340 ∧ slots + 223 ≤ 6992228) (nx : LwN l Ω E b i cells slots) : ZV l Ω E cells slots 581 [(0, .ref b), (1, rfO Ω 0), (2, rfO Ω 6), (3, .int (nI i))] [] (hp Ω σ) (hN σ) := by
  have hw := hI.kw
  have hmw := hI.mw
  have hn := hw.1
  have hL3 := hX.2.2
  refine z_aload_n (pc := 581) C dL_581 rfl ?_
  refine z_aload_n (pc := 582) C dL_582 rfl ?_
  refine z_iload_n (pc := 583) C dL_583 rfl ?_
  refine z_iconst (pc := 584) (v := nI 1) C dL_584 (by decide) ?_
  refine z_iaddN (pc := 585) C dL_585 ?_
  refine z_sld (pc := 586) C hX dL_586 (by omega) ?_
  refine z_aload_n (pc := 587) C dL_587 rfl ?_
  refine z_iload_n (pc := 588) C dL_588 rfl ?_
  refine z_iconst (pc := 589) (v := nI 2) C dL_589 (by decide) ?_
  refine z_iaddN (pc := 590) C dL_590 ?_
  refine z_sld (pc := 591) C hX dL_591 (by omega) ?_
  refine z_aload_n (pc := 592) C dL_592 rfl ?_
  refine z_iload_n (pc := 593) C dL_593 rfl ?_
  refine z_iconst (pc := 594) (v := nI 3) C dL_594 (by decide) ?_
  refine z_iaddN (pc := 595) C dL_595 ?_
  refine z_sld (pc := 596) C hX dL_596 (by omega) ?_
  refine z_aload_n (pc := 597) C dL_597 rfl ?_
  refine z_iload_n (pc := 598) C dL_598 rfl ?_
  refine z_iconst (pc := 599) (v := nI 4) C dL_599 (by decide) ?_
  refine z_iaddN (pc := 600) C dL_600 ?_
  refine z_sld (pc := 601) C hX dL_601 (by omega) ?_
  by_cases hu : isU σ.2.2.2 (xs (i + 1))
  · obtain ⟨k, hk, e⟩ := isU_of (by omega) hu
    rw [e]
    refine z_callL (pc := 602) (ci := 9) C dL_602 zy_X10_ledBack kw_529 kw_530 rfl kw_531 rfl (ct_X10_ledBack l Ω σ hw _ _ _ _) rfl rfl ⟨by decide, by decide⟩ ⟨rfl, rfl⟩ ⟨by omega, by omega⟩ (Nat.le_of_ble_eq_true rfl) ?_; dsimp only [Option.toList_some, List.cons_append, List.nil_append]
    refine z_aload_n (pc := 605) C dL_605 rfl ?_
    refine z_aload_n (pc := 606) C dL_606 rfl ?_
    refine z_iload_n (pc := 607) C dL_607 rfl ?_
    refine z_iconst (pc := 608) (v := nI 1) C dL_608 (by decide) ?_
    refine z_iaddN (pc := 609) C dL_609 ?_
    refine z_sld (pc := 610) C hX dL_610 (by omega) ?_
    refine z_aload_n (pc := 611) C dL_611 rfl ?_
    refine z_iload_n (pc := 612) C dL_612 rfl ?_
    refine z_iconst (pc := 613) (v := nI 2) C dL_613 (by decide) ?_
    refine z_iaddN (pc := 614) C dL_614 ?_
    refine z_sld (pc := 615) C hX dL_615 (by omega) ?_
    refine z_aload_n (pc := 616) C dL_616 rfl ?_
    refine z_iload_n (pc := 617) C dL_617 rfl ?_
    refine z_iconst (pc := 618) (v := nI 3) C dL_618 (by decide) ?_
    refine z_iaddN (pc := 619) C dL_619 ?_
    refine z_sld (pc := 620) C hX dL_620 (by omega) ?_
    refine z_aload_n (pc := 621) C dL_621 rfl ?_
    refine z_iload_n (pc := 622) C dL_622 rfl ?_
    refine z_iconst (pc := 623) (v := nI 4) C dL_623 (by decide) ?_
    refine z_iaddN (pc := 624) C dL_624 ?_
    refine z_sld (pc := 625) C hX dL_625 (by omega) ?_
    rw [e]
    refine z_callL (pc := 626) (ci := 10) C dL_626 zy_X11_ledBack kw_799 kw_800 rfl kw_801 rfl (ct_X11_ledBack l Ω σ hmw k hk _ _ _) rfl rfl ⟨by decide, by decide⟩ ⟨rfl, rfl⟩ ⟨by omega, by omega⟩ (Nat.le_of_ble_eq_true rfl) ?_; dsimp only [Option.toList_some, List.cons_append, List.nil_append]
    refine z_lcmp (pc := 629) C dL_629 ?_
    refine z_if_eq (pc := 630) (tgt := 854) C dL_630 (by decide) (fun _ => ?_) (fun z => absurd (by rw [q_led hI hk]; exact lg_same _) z)
    exact nx σ cells slots _ hI (by omega) (by omega) rfl
  · refine z_callL (pc := 602) (ci := 9) C dL_602 zy_X10_ledBack kw_529 kw_530 rfl kw_531 rfl (ct_X10_ledBack l Ω σ hw _ _ _ _) rfl rfl ⟨by decide, by decide⟩ ⟨rfl, rfl⟩ ⟨by omega, by omega⟩ (Nat.le_of_ble_eq_true rfl) ?_; dsimp only [Option.toList_some, List.cons_append, List.nil_append]
    refine z_aload_n (pc := 605) C dL_605 rfl ?_
    refine z_aload_n (pc := 606) C dL_606 rfl ?_
    refine z_iload_n (pc := 607) C dL_607 rfl ?_
    refine z_iconst (pc := 608) (v := nI 1) C dL_608 (by decide) ?_
    refine z_iaddN (pc := 609) C dL_609 ?_
    refine z_sld (pc := 610) C hX dL_610 (by omega) ?_
    refine z_aload_n (pc := 611) C dL_611 rfl ?_
    refine z_iload_n (pc := 612) C dL_612 rfl ?_
    refine z_iconst (pc := 613) (v := nI 2) C dL_613 (by decide) ?_
    refine z_iaddN (pc := 614) C dL_614 ?_
    refine z_sld (pc := 615) C hX dL_615 (by omega) ?_
    refine z_aload_n (pc := 616) C dL_616 rfl ?_
    refine z_iload_n (pc := 617) C dL_617 rfl ?_
    refine z_iconst (pc := 618) (v := nI 3) C dL_618 (by decide) ?_
    refine z_iaddN (pc := 619) C dL_619 ?_
    refine z_sld (pc := 620) C hX dL_620 (by omega) ?_
    refine z_aload_n (pc := 621) C dL_621 rfl ?_
    refine z_iload_n (pc := 622) C dL_622 rfl ?_
    refine z_iconst (pc := 623) (v := nI 4) C dL_623 (by decide) ?_
    refine z_iaddN (pc := 624) C dL_624 ?_
    refine z_sld (pc := 625) C hX dL_625 (by omega) ?_
    refine z_callL (pc := 626) (ci := 10) C dL_626 zy_X11_ledBack kw_799 kw_800 rfl kw_801 rfl (ct_X11_ledBack_n l Ω σ hmw _ _ _ _ hu) rfl rfl ⟨by decide, by decide⟩ ⟨rfl, rfl⟩ ⟨by omega, by omega⟩ (Nat.le_of_ble_eq_true rfl) ?_; dsimp only [Option.toList_some, List.cons_append, List.nil_append]
    refine z_lcmp (pc := 629) C dL_629 ?_
    refine z_if_eq (pc := 630) (tgt := 854) C dL_630 (by decide) (fun _ => ?_) (fun z => absurd (by rw [q_led_n hu]; exact lg_same _) z)
    exact nx σ cells slots _ hI (by omega) (by omega) rfl
set_option maxHeartbeats 4000000 in
set_option maxRecDepth 100000 in
theorem lc_reading {l : Launch} {Ω : OmT} {E : ZE} {nm : String} (C : ZC Ω E code "GrindWorksLaw" ret room_1 nm) {b L : Nat} {xs : Nat → Int32} (hX : SX Ω E b L xs) {σ : Sg} (hI : INV σ) {i cells slots : Nat} (hi : i + 6 ≤ L) (hc : cells + 31 ≤ 703340 ∧ slots + 223 ≤ 6992228) (nx : LwN l Ω E b i cells slots) : ZV l Ω E cells slots 635 [(0, .ref b), (1, rfO Ω 0), (2, rfO Ω 6), (3, .int (nI i))] [] (hp Ω σ) (hN σ) := by
  have hw := hI.kw
  have hmw := hI.mw
  have hn := hw.1
  have hL3 := hX.2.2
  refine z_aload_n (pc := 635) C dL_635 rfl ?_
  refine z_aload_n (pc := 636) C dL_636 rfl ?_
  refine z_iload_n (pc := 637) C dL_637 rfl ?_
  refine z_iconst (pc := 638) (v := nI 1) C dL_638 (by decide) ?_
  refine z_iaddN (pc := 639) C dL_639 ?_
  refine z_sld (pc := 640) C hX dL_640 (by omega) ?_
  refine z_aload_n (pc := 641) C dL_641 rfl ?_
  refine z_iload_n (pc := 642) C dL_642 rfl ?_
  refine z_iconst (pc := 643) (v := nI 2) C dL_643 (by decide) ?_
  refine z_iaddN (pc := 644) C dL_644 ?_
  refine z_sld (pc := 645) C hX dL_645 (by omega) ?_
  refine z_aload_n (pc := 646) C dL_646 rfl ?_
  refine z_iload_n (pc := 647) C dL_647 rfl ?_
  refine z_iconst (pc := 648) (v := nI 3) C dL_648 (by decide) ?_
  refine z_iaddN (pc := 649) C dL_649 ?_
  refine z_sld (pc := 650) C hX dL_650 (by omega) ?_
  refine z_aload_n (pc := 651) C dL_651 rfl ?_
  refine z_iload_n (pc := 652) C dL_652 rfl ?_
  refine z_iconst (pc := 653) (v := nI 4) C dL_653 (by decide) ?_
  refine z_iaddN (pc := 654) C dL_654 ?_
  refine z_sld (pc := 655) C hX dL_655 (by omega) ?_
  by_cases hu : isU σ.2.2.2 (xs (i + 1))
  · obtain ⟨k, hk, e⟩ := isU_of (by omega) hu
    obtain ⟨qe, qi⟩ := q_reading hI hk (xs (i + 2)) (xs (i + 3)) (xs (i + 4))
    obtain ⟨h11, h2⟩ := c11_reading σ (show k < 10 by omega) (xs (i + 2)) (xs (i + 3)) (xs (i + 4))
    have e22 : (cs_reading σ k (xs (i + 2)) (xs (i + 3)) (xs (i + 4))).2.2 = σ.2.2 := by rw [h2]
    have sn := (sn_reading (cs_reading σ k (xs (i + 2)) (xs (i + 3)) (xs (i + 4))) k (xs (i + 2)) (xs (i + 3)) (xs (i + 4))).trans e22
    have hmw2 := mw_of hmw h11 h2
    have hk2 : k < (cs_reading σ k (xs (i + 2)) (xs (i + 3)) (xs (i + 4))).2.2.2 := by rw [e22]; exact hk
    rw [e]
    refine z_callL (pc := 656) (ci := 9) C dL_656 zy_X10_reading kw_537 kw_538 rfl kw_539 rfl (ct_X10_reading l Ω σ hw k _ hk rfl _ _ _) rfl rfl ⟨by decide, by decide⟩ ⟨rfl, rfl⟩ ⟨by omega, by omega⟩ (Nat.le_of_ble_eq_true rfl) ?_; dsimp only [Option.toList_some, List.cons_append, List.nil_append]
    refine z_aload_n (pc := 659) C dL_659 rfl ?_
    refine z_aload_n (pc := 660) C dL_660 rfl ?_
    refine z_iload_n (pc := 661) C dL_661 rfl ?_
    refine z_iconst (pc := 662) (v := nI 1) C dL_662 (by decide) ?_
    refine z_iaddN (pc := 663) C dL_663 ?_
    refine z_sld (pc := 664) C hX dL_664 (by omega) ?_
    refine z_aload_n (pc := 665) C dL_665 rfl ?_
    refine z_iload_n (pc := 666) C dL_666 rfl ?_
    refine z_iconst (pc := 667) (v := nI 2) C dL_667 (by decide) ?_
    refine z_iaddN (pc := 668) C dL_668 ?_
    refine z_sld (pc := 669) C hX dL_669 (by omega) ?_
    refine z_aload_n (pc := 670) C dL_670 rfl ?_
    refine z_iload_n (pc := 671) C dL_671 rfl ?_
    refine z_iconst (pc := 672) (v := nI 3) C dL_672 (by decide) ?_
    refine z_iaddN (pc := 673) C dL_673 ?_
    refine z_sld (pc := 674) C hX dL_674 (by omega) ?_
    refine z_aload_n (pc := 675) C dL_675 rfl ?_
    refine z_iload_n (pc := 676) C dL_676 rfl ?_
    refine z_iconst (pc := 677) (v := nI 4) C dL_677 (by decide) ?_
    refine z_iaddN (pc := 678) C dL_678 ?_
    refine z_sld (pc := 679) C hX dL_679 (by omega) ?_
    rw [e]
    refine z_callL (pc := 680) (ci := 10) C dL_680 zy_X11_reading kw_803 kw_804 rfl kw_805 rfl (zM_n (hN_eq e22) (ct_X11_reading l Ω (cs_reading σ k (xs (i + 2)) (xs (i + 3)) (xs (i + 4))) hmw2 k hk2 (xs (i + 2)) (xs (i + 3)) (xs (i + 4)))) rfl rfl ⟨by decide, by decide⟩ ⟨rfl, rfl⟩ ⟨by omega, by omega⟩ (Nat.le_of_ble_eq_true rfl) ?_; dsimp only [Option.toList_some, List.cons_append, List.nil_append]
    refine z_icmp_eq (pc := 683) (tgt := 854) C dL_683 (by decide) (fun _ => ?_) (fun z => absurd (qe) z)
    exact nx (s_reading (cs_reading σ k (xs (i + 2)) (xs (i + 3)) (xs (i + 4))) k (xs (i + 2)) (xs (i + 3)) (xs (i + 4))) cells slots _ qi (by omega) (by omega) (hN_eq sn)
  · refine z_callL (pc := 656) (ci := 9) C dL_656 zy_X10_reading kw_537 kw_538 rfl kw_539 rfl (ct_X10_reading_n l Ω σ hw _ _ _ _ hu) rfl rfl ⟨by decide, by decide⟩ ⟨rfl, rfl⟩ ⟨by omega, by omega⟩ (Nat.le_of_ble_eq_true rfl) ?_; dsimp only [Option.toList_some, List.cons_append, List.nil_append]
    refine z_aload_n (pc := 659) C dL_659 rfl ?_
    refine z_aload_n (pc := 660) C dL_660 rfl ?_
    refine z_iload_n (pc := 661) C dL_661 rfl ?_
    refine z_iconst (pc := 662) (v := nI 1) C dL_662 (by decide) ?_
    refine z_iaddN (pc := 663) C dL_663 ?_
    refine z_sld (pc := 664) C hX dL_664 (by omega) ?_
    refine z_aload_n (pc := 665) C dL_665 rfl ?_
    refine z_iload_n (pc := 666) C dL_666 rfl ?_
    refine z_iconst (pc := 667) (v := nI 2) C dL_667 (by decide) ?_
    refine z_iaddN (pc := 668) C dL_668 ?_
    refine z_sld (pc := 669) C hX dL_669 (by omega) ?_
    refine z_aload_n (pc := 670) C dL_670 rfl ?_
    refine z_iload_n (pc := 671) C dL_671 rfl ?_
    refine z_iconst (pc := 672) (v := nI 3) C dL_672 (by decide) ?_
    refine z_iaddN (pc := 673) C dL_673 ?_
    refine z_sld (pc := 674) C hX dL_674 (by omega) ?_
    refine z_aload_n (pc := 675) C dL_675 rfl ?_
    refine z_iload_n (pc := 676) C dL_676 rfl ?_
    refine z_iconst (pc := 677) (v := nI 4) C dL_677 (by decide) ?_
    refine z_iaddN (pc := 678) C dL_678 ?_
    refine z_sld (pc := 679) C hX dL_679 (by omega) ?_
    refine z_callL (pc := 680) (ci := 10) C dL_680 zy_X11_reading kw_803 kw_804 rfl kw_805 rfl (ct_X11_reading_n l Ω σ hmw _ _ _ _ hu) rfl rfl ⟨by decide, by decide⟩ ⟨rfl, rfl⟩ ⟨by omega, by omega⟩ (Nat.le_of_ble_eq_true rfl) ?_; dsimp only [Option.toList_some, List.cons_append, List.nil_append]
    refine z_icmp_eq (pc := 683) (tgt := 854) C dL_683 (by decide) (fun _ => ?_) (fun z => absurd (rfl) z)
    exact nx σ cells slots _ hI (by omega) (by omega) rfl
set_option maxHeartbeats 4000000 in
set_option maxRecDepth 100000 in
theorem lc_close {l : Launch} {Ω : OmT} {E : ZE} {nm : String} (C : ZC Ω E code "GrindWorksLaw" ret room_1 nm) {b L : Nat} {xs : Nat → Int32} (hX : SX Ω E b L xs) {σ : Sg} (hI : INV σ) {i cells slots : Nat} (hi : i + 6 ≤ L) (hc : cells + 31 ≤ 703340 ∧ slots + 223 ≤ 6992228) (nx : LwN l Ω E b i cells slots) : ZV l Ω E cells slots 688 [(0, .ref b), (1, rfO Ω 0), (2, rfO Ω 6), (3, .int (nI i))] [] (hp Ω σ) (hN σ) := by
  have hw := hI.kw
  have hmw := hI.mw
  have hn := hw.1
  have hL3 := hX.2.2
  refine z_aload_n (pc := 688) C dL_688 rfl ?_
  refine z_aload_n (pc := 689) C dL_689 rfl ?_
  refine z_iload_n (pc := 690) C dL_690 rfl ?_
  refine z_iconst (pc := 691) (v := nI 1) C dL_691 (by decide) ?_
  refine z_iaddN (pc := 692) C dL_692 ?_
  refine z_sld (pc := 693) C hX dL_693 (by omega) ?_
  refine z_aload_n (pc := 694) C dL_694 rfl ?_
  refine z_iload_n (pc := 695) C dL_695 rfl ?_
  refine z_iconst (pc := 696) (v := nI 2) C dL_696 (by decide) ?_
  refine z_iaddN (pc := 697) C dL_697 ?_
  refine z_sld (pc := 698) C hX dL_698 (by omega) ?_
  refine z_aload_n (pc := 699) C dL_699 rfl ?_
  refine z_iload_n (pc := 700) C dL_700 rfl ?_
  refine z_iconst (pc := 701) (v := nI 3) C dL_701 (by decide) ?_
  refine z_iaddN (pc := 702) C dL_702 ?_
  refine z_sld (pc := 703) C hX dL_703 (by omega) ?_
  by_cases hu : isU σ.2.2.2 (xs (i + 1))
  · obtain ⟨k, hk, e⟩ := isU_of (by omega) hu
    have hup := upt_le (σ.2.2.1 k)
    by_cases hb : (¬ σ.2.2.1 k = 0 ∧ ¬ σ.2.2.1 k = 7) ∧ isU (1 + upt (σ.2.2.1 k)) (xs (i + 2)) ∧ inR 0 1 (xs (i + 3))
    · obtain ⟨⟨h0, h7⟩, hb2, hb3⟩ := hb
      obtain ⟨w, hw9, e1⟩ := isU_of (by omega) hb2
      obtain ⟨q, -, hq, e2⟩ := inR_of (by decide) (by decide) hb3
      obtain ⟨X, Y, y1, y2, y3, y4, y5, y6, y7⟩ := q_close hI hk h0 h7 hw9
      have y8 := y7
      rw [y6] at y8
      rw [e, e1, e2]
      refine z_callL (pc := 704) (ci := 9) C dL_704 zy_X10_close kw_554 kw_555 rfl kw_556 rfl (ct_X10_close l Ω σ hw k _ hk rfl h0 h7 w q hw9 (by omega) X Y y1 y2 y3 y4 y7) rfl rfl ⟨by decide, by decide⟩ ⟨rfl, rfl⟩ ⟨by omega, by omega⟩ (Nat.le_of_ble_eq_true rfl) ?_; dsimp only [Option.toList_some, List.cons_append, List.nil_append]
      refine z_aload_n (pc := 707) C dL_707 rfl ?_
      refine z_aload_n (pc := 708) C dL_708 rfl ?_
      refine z_iload_n (pc := 709) C dL_709 rfl ?_
      refine z_iconst (pc := 710) (v := nI 1) C dL_710 (by decide) ?_
      refine z_iaddN (pc := 711) C dL_711 ?_
      refine z_sld (pc := 712) C hX dL_712 (by omega) ?_
      refine z_aload_n (pc := 713) C dL_713 rfl ?_
      refine z_iload_n (pc := 714) C dL_714 rfl ?_
      refine z_iconst (pc := 715) (v := nI 2) C dL_715 (by decide) ?_
      refine z_iaddN (pc := 716) C dL_716 ?_
      refine z_sld (pc := 717) C hX dL_717 (by omega) ?_
      refine z_aload_n (pc := 718) C dL_718 rfl ?_
      refine z_iload_n (pc := 719) C dL_719 rfl ?_
      refine z_iconst (pc := 720) (v := nI 3) C dL_720 (by decide) ?_
      refine z_iaddN (pc := 721) C dL_721 ?_
      refine z_sld (pc := 722) C hX dL_722 (by omega) ?_
      rw [e, e1, e2]
      refine z_callL (pc := 723) (ci := 10) C dL_723 zy_X11_close kw_810 kw_811 rfl kw_812 rfl (ct_X11_close l Ω σ hmw k hk ⟨h0, h7⟩ w q (by omega) (by omega) X Y y1 (by omega) y3 y5 y8) rfl rfl ⟨by decide, by decide⟩ ⟨rfl, rfl⟩ ⟨by omega, by omega⟩ (Nat.le_of_ble_eq_true rfl) ?_; dsimp only [Option.toList_some, List.cons_append, List.nil_append]
      refine z_lcmp (pc := 726) C dL_726 ?_
      refine z_if_eq (pc := 727) (tgt := 854) C dL_727 (by decide) (fun _ => ?_) (fun z => absurd (by rw [y4, y5, y6]; exact lg_same _) z)
      exact nx σ cells slots _ hI (by omega) (by omega) rfl
    · have hb9 : ¬ ((¬ σ.2.2.1 k = 0 ∧ ¬ σ.2.2.1 k = 7) ∧ inR 0 (upt (σ.2.2.1 k)) (xs (i + 2)) ∧ inR 0 1 (xs (i + 3))) := by
        rintro ⟨z1, z2, z3⟩
        obtain ⟨j, -, hj, ej⟩ := inR_of (by decide) (by omega) z2
        exact hb ⟨z1, by rw [ej]; exact isU_nI (by omega) (by omega), z3⟩
      rw [e]
      refine z_callL (pc := 704) (ci := 9) C dL_704 zy_X10_close kw_554 kw_555 rfl kw_556 rfl (ct_X10_close_b l Ω σ hw k _ hk rfl _ _ hb) rfl rfl ⟨by decide, by decide⟩ ⟨rfl, rfl⟩ ⟨by omega, by omega⟩ (Nat.le_of_ble_eq_true rfl) ?_; dsimp only [Option.toList_some, List.cons_append, List.nil_append]
      refine z_aload_n (pc := 707) C dL_707 rfl ?_
      refine z_aload_n (pc := 708) C dL_708 rfl ?_
      refine z_iload_n (pc := 709) C dL_709 rfl ?_
      refine z_iconst (pc := 710) (v := nI 1) C dL_710 (by decide) ?_
      refine z_iaddN (pc := 711) C dL_711 ?_
      refine z_sld (pc := 712) C hX dL_712 (by omega) ?_
      refine z_aload_n (pc := 713) C dL_713 rfl ?_
      refine z_iload_n (pc := 714) C dL_714 rfl ?_
      refine z_iconst (pc := 715) (v := nI 2) C dL_715 (by decide) ?_
      refine z_iaddN (pc := 716) C dL_716 ?_
      refine z_sld (pc := 717) C hX dL_717 (by omega) ?_
      refine z_aload_n (pc := 718) C dL_718 rfl ?_
      refine z_iload_n (pc := 719) C dL_719 rfl ?_
      refine z_iconst (pc := 720) (v := nI 3) C dL_720 (by decide) ?_
      refine z_iaddN (pc := 721) C dL_721 ?_
      refine z_sld (pc := 722) C hX dL_722 (by omega) ?_
      rw [e]
      refine z_callL (pc := 723) (ci := 10) C dL_723 zy_X11_close kw_810 kw_811 rfl kw_812 rfl (ct_X11_close_b l Ω σ hmw k hk _ _ hb9) rfl rfl ⟨by decide, by decide⟩ ⟨rfl, rfl⟩ ⟨by omega, by omega⟩ (Nat.le_of_ble_eq_true rfl) ?_; dsimp only [Option.toList_some, List.cons_append, List.nil_append]
      refine z_lcmp (pc := 726) C dL_726 ?_
      refine z_if_eq (pc := 727) (tgt := 854) C dL_727 (by decide) (fun _ => ?_) (fun z => absurd (lg_same _) z)
      exact nx σ cells slots _ hI (by omega) (by omega) rfl
  · refine z_callL (pc := 704) (ci := 9) C dL_704 zy_X10_close kw_554 kw_555 rfl kw_556 rfl (ct_X10_close_n l Ω σ hw _ _ _ hu) rfl rfl ⟨by decide, by decide⟩ ⟨rfl, rfl⟩ ⟨by omega, by omega⟩ (Nat.le_of_ble_eq_true rfl) ?_; dsimp only [Option.toList_some, List.cons_append, List.nil_append]
    refine z_aload_n (pc := 707) C dL_707 rfl ?_
    refine z_aload_n (pc := 708) C dL_708 rfl ?_
    refine z_iload_n (pc := 709) C dL_709 rfl ?_
    refine z_iconst (pc := 710) (v := nI 1) C dL_710 (by decide) ?_
    refine z_iaddN (pc := 711) C dL_711 ?_
    refine z_sld (pc := 712) C hX dL_712 (by omega) ?_
    refine z_aload_n (pc := 713) C dL_713 rfl ?_
    refine z_iload_n (pc := 714) C dL_714 rfl ?_
    refine z_iconst (pc := 715) (v := nI 2) C dL_715 (by decide) ?_
    refine z_iaddN (pc := 716) C dL_716 ?_
    refine z_sld (pc := 717) C hX dL_717 (by omega) ?_
    refine z_aload_n (pc := 718) C dL_718 rfl ?_
    refine z_iload_n (pc := 719) C dL_719 rfl ?_
    refine z_iconst (pc := 720) (v := nI 3) C dL_720 (by decide) ?_
    refine z_iaddN (pc := 721) C dL_721 ?_
    refine z_sld (pc := 722) C hX dL_722 (by omega) ?_
    refine z_callL (pc := 723) (ci := 10) C dL_723 zy_X11_close kw_810 kw_811 rfl kw_812 rfl (ct_X11_close_n l Ω σ hmw _ _ _ hu) rfl rfl ⟨by decide, by decide⟩ ⟨rfl, rfl⟩ ⟨by omega, by omega⟩ (Nat.le_of_ble_eq_true rfl) ?_; dsimp only [Option.toList_some, List.cons_append, List.nil_append]
    refine z_lcmp (pc := 726) C dL_726 ?_
    refine z_if_eq (pc := 727) (tgt := 854) C dL_727 (by decide) (fun _ => ?_) (fun z => absurd (lg_same _) z)
    exact nx σ cells slots _ hI (by omega) (by omega) rfl
set_option maxHeartbeats 4000000 in
set_option maxRecDepth 100000 in
theorem lc_load {l : Launch} {Ω : OmT} {E : ZE} {nm : String} (C : ZC Ω E code "GrindWorksLaw" ret room_1 nm) {b L : Nat} {xs : Nat → Int32} (hX : SX Ω E b L xs) {σ : Sg} (hI : INV σ) {i cells slots : Nat} (hi : i + 6 ≤ L) (hc : cells + 31 ≤ 703340 ∧ slots + 223 ≤ 6992228) (nx : LwN l Ω E b i cells slots) : ZV l Ω E cells slots 732 [(0, .ref b), (1, rfO Ω 0), (2, rfO Ω 6), (3, .int (nI i))] [] (hp Ω σ) (hN σ) := by
  have hw := hI.kw
  have hmw := hI.mw
  have hn := hw.1
  have hL3 := hX.2.2
  refine z_aload_n (pc := 732) C dL_732 rfl ?_
  refine z_aload_n (pc := 733) C dL_733 rfl ?_
  refine z_iload_n (pc := 734) C dL_734 rfl ?_
  refine z_iconst (pc := 735) (v := nI 1) C dL_735 (by decide) ?_
  refine z_iaddN (pc := 736) C dL_736 ?_
  refine z_sld (pc := 737) C hX dL_737 (by omega) ?_
  refine z_aload_n (pc := 738) C dL_738 rfl ?_
  refine z_iload_n (pc := 739) C dL_739 rfl ?_
  refine z_iconst (pc := 740) (v := nI 2) C dL_740 (by decide) ?_
  refine z_iaddN (pc := 741) C dL_741 ?_
  refine z_sld (pc := 742) C hX dL_742 (by omega) ?_
  refine z_aload_n (pc := 743) C dL_743 rfl ?_
  refine z_iload_n (pc := 744) C dL_744 rfl ?_
  refine z_iconst (pc := 745) (v := nI 3) C dL_745 (by decide) ?_
  refine z_iaddN (pc := 746) C dL_746 ?_
  refine z_sld (pc := 747) C hX dL_747 (by omega) ?_
  obtain ⟨M, hM, e10, e11, e2, qe, qi⟩ := q_load hI (xs (i + 1)) (xs (i + 2)) (xs (i + 3))
  have e22 : (cs_load σ M (xs (i + 1)) (xs (i + 2)) (xs (i + 3))).2.2 = σ.2.2 := by rw [e2]
  have sn := (sn_load (cs_load σ M (xs (i + 1)) (xs (i + 2)) (xs (i + 3))) M (xs (i + 1)) (xs (i + 2)) (xs (i + 3))).trans e22
  refine z_callL (pc := 748) (ci := 9) C dL_748 zy_X10_load kw_574 kw_575 rfl kw_576 rfl (ct_X10_load l Ω σ hw M hM e10 _ _ _) rfl rfl ⟨by decide, by decide⟩ ⟨rfl, rfl⟩ ⟨by omega, by omega⟩ (Nat.le_of_ble_eq_true rfl) ?_; dsimp only [Option.toList_some, List.cons_append, List.nil_append]
  refine z_aload_n (pc := 751) C dL_751 rfl ?_
  refine z_aload_n (pc := 752) C dL_752 rfl ?_
  refine z_iload_n (pc := 753) C dL_753 rfl ?_
  refine z_iconst (pc := 754) (v := nI 1) C dL_754 (by decide) ?_
  refine z_iaddN (pc := 755) C dL_755 ?_
  refine z_sld (pc := 756) C hX dL_756 (by omega) ?_
  refine z_aload_n (pc := 757) C dL_757 rfl ?_
  refine z_iload_n (pc := 758) C dL_758 rfl ?_
  refine z_iconst (pc := 759) (v := nI 2) C dL_759 (by decide) ?_
  refine z_iaddN (pc := 760) C dL_760 ?_
  refine z_sld (pc := 761) C hX dL_761 (by omega) ?_
  refine z_aload_n (pc := 762) C dL_762 rfl ?_
  refine z_iload_n (pc := 763) C dL_763 rfl ?_
  refine z_iconst (pc := 764) (v := nI 3) C dL_764 (by decide) ?_
  refine z_iaddN (pc := 765) C dL_765 ?_
  refine z_sld (pc := 766) C hX dL_766 (by omega) ?_
  refine z_callL (pc := 767) (ci := 10) C dL_767 zy_X11_load kw_815 kw_816 rfl kw_817 rfl (zM_n (hN_eq e22) (ct_X11_load l Ω (cs_load σ M (xs (i + 1)) (xs (i + 2)) (xs (i + 3))) M (by rw [e22]; exact hn) hM e11 (xs (i + 1)) (xs (i + 2)) (xs (i + 3)))) rfl rfl ⟨by decide, by decide⟩ ⟨rfl, rfl⟩ ⟨by omega, by omega⟩ (Nat.le_of_ble_eq_true rfl) ?_; dsimp only [Option.toList_some, List.cons_append, List.nil_append]
  refine z_icmp_eq (pc := 770) (tgt := 854) C dL_770 (by decide) (fun _ => ?_) (fun z => absurd (qe) z)
  exact nx (s_load (cs_load σ M (xs (i + 1)) (xs (i + 2)) (xs (i + 3))) M (xs (i + 1)) (xs (i + 2)) (xs (i + 3))) cells slots _ qi (by omega) (by omega) (hN_eq sn)
set_option maxHeartbeats 4000000 in
set_option maxRecDepth 100000 in
theorem lc_unload {l : Launch} {Ω : OmT} {E : ZE} {nm : String} (C : ZC Ω E code "GrindWorksLaw" ret room_1 nm) {b L : Nat} {xs : Nat → Int32} (hX : SX Ω E b L xs) {σ : Sg} (hI : INV σ) {i cells slots : Nat} (hi : i + 6 ≤ L) (hc : cells + 31 ≤ 703340 ∧ slots + 223 ≤ 6992228) (nx : LwN l Ω E b i cells slots) : ZV l Ω E cells slots 775 [(0, .ref b), (1, rfO Ω 0), (2, rfO Ω 6), (3, .int (nI i))] [] (hp Ω σ) (hN σ) := by
  have hw := hI.kw
  have hmw := hI.mw
  have hn := hw.1
  have hL3 := hX.2.2
  refine z_aload_n (pc := 775) C dL_775 rfl ?_
  obtain ⟨qe, qi⟩ := q_unload hI
  refine z_callL (pc := 776) (ci := 9) C dL_776 zy_X10_unload kw_590 kw_591 rfl kw_592 rfl (ct_X10_unload l Ω σ hw) rfl rfl ⟨by decide, by decide⟩ ⟨rfl, rfl⟩ ⟨by omega, by omega⟩ (Nat.le_of_ble_eq_true rfl) ?_; dsimp only [Option.toList_some, List.cons_append, List.nil_append]
  refine z_aload_n (pc := 779) C dL_779 rfl ?_
  refine z_callL (pc := 780) (ci := 10) C dL_780 zy_X11_unload kw_819 kw_820 rfl kw_821 rfl (ct_X11_unload l Ω (sI σ 10 0 2 (nI 0)) hn) rfl rfl ⟨by decide, by decide⟩ ⟨rfl, rfl⟩ ⟨by omega, by omega⟩ (Nat.le_of_ble_eq_true rfl) ?_; dsimp only [Option.toList_some, List.cons_append, List.nil_append]
  refine z_icmp_eq (pc := 783) (tgt := 854) C dL_783 (by decide) (fun _ => ?_) (fun z => absurd (qe) z)
  exact nx (sI (sI σ 10 0 2 (nI 0)) 11 30 2 (nI 0)) cells slots _ qi (by omega) (by omega) rfl
set_option maxHeartbeats 4000000 in
set_option maxRecDepth 100000 in
theorem lc_blend {l : Launch} {Ω : OmT} {E : ZE} {nm : String} (C : ZC Ω E code "GrindWorksLaw" ret room_1 nm) {b L : Nat} {xs : Nat → Int32} (hX : SX Ω E b L xs) {σ : Sg} (hI : INV σ) {i cells slots : Nat} (hi : i + 6 ≤ L) (hc : cells + 31 ≤ 703340 ∧ slots + 223 ≤ 6992228) (nx : LwN l Ω E b i cells slots) : ZV l Ω E cells slots 788 [(0, .ref b), (1, rfO Ω 0), (2, rfO Ω 6), (3, .int (nI i))] [] (hp Ω σ) (hN σ) := by
  have hw := hI.kw
  have hmw := hI.mw
  have hn := hw.1
  have hL3 := hX.2.2
  refine z_aload_n (pc := 788) C dL_788 rfl ?_
  refine z_aload_n (pc := 789) C dL_789 rfl ?_
  refine z_iload_n (pc := 790) C dL_790 rfl ?_
  refine z_iconst (pc := 791) (v := nI 1) C dL_791 (by decide) ?_
  refine z_iaddN (pc := 792) C dL_792 ?_
  refine z_sld (pc := 793) C hX dL_793 (by omega) ?_
  refine z_aload_n (pc := 794) C dL_794 rfl ?_
  refine z_iload_n (pc := 795) C dL_795 rfl ?_
  refine z_iconst (pc := 796) (v := nI 2) C dL_796 (by decide) ?_
  refine z_iaddN (pc := 797) C dL_797 ?_
  refine z_sld (pc := 798) C hX dL_798 (by omega) ?_
  refine z_aload_n (pc := 799) C dL_799 rfl ?_
  refine z_iload_n (pc := 800) C dL_800 rfl ?_
  refine z_iconst (pc := 801) (v := nI 3) C dL_801 (by decide) ?_
  refine z_iaddN (pc := 802) C dL_802 ?_
  refine z_sld (pc := 803) C hX dL_803 (by omega) ?_
  obtain ⟨M, hM, e10, e11, qe⟩ := q_blend hI (xs (i + 1)) (xs (i + 2)) (xs (i + 3))
  refine z_callL (pc := 804) (ci := 9) C dL_804 zy_X10_blend kw_598 kw_599 rfl kw_600 rfl (ct_X10_blend l Ω σ M hM e10 _ _ _) rfl rfl ⟨by decide, by decide⟩ ⟨rfl, rfl⟩ ⟨by omega, by omega⟩ (Nat.le_of_ble_eq_true rfl) ?_; dsimp only [Option.toList_some, List.cons_append, List.nil_append]
  refine z_aload_n (pc := 807) C dL_807 rfl ?_
  refine z_aload_n (pc := 808) C dL_808 rfl ?_
  refine z_iload_n (pc := 809) C dL_809 rfl ?_
  refine z_iconst (pc := 810) (v := nI 1) C dL_810 (by decide) ?_
  refine z_iaddN (pc := 811) C dL_811 ?_
  refine z_sld (pc := 812) C hX dL_812 (by omega) ?_
  refine z_aload_n (pc := 813) C dL_813 rfl ?_
  refine z_iload_n (pc := 814) C dL_814 rfl ?_
  refine z_iconst (pc := 815) (v := nI 2) C dL_815 (by decide) ?_
  refine z_iaddN (pc := 816) C dL_816 ?_
  refine z_sld (pc := 817) C hX dL_817 (by omega) ?_
  refine z_aload_n (pc := 818) C dL_818 rfl ?_
  refine z_iload_n (pc := 819) C dL_819 rfl ?_
  refine z_iconst (pc := 820) (v := nI 3) C dL_820 (by decide) ?_
  refine z_iaddN (pc := 821) C dL_821 ?_
  refine z_sld (pc := 822) C hX dL_822 (by omega) ?_
  refine z_callL (pc := 823) (ci := 10) C dL_823 zy_X11_blend kw_823 kw_824 rfl kw_825 rfl (ct_X11_blend l Ω σ M hM e11 _ _ _) rfl rfl ⟨by decide, by decide⟩ ⟨rfl, rfl⟩ ⟨by omega, by omega⟩ (Nat.le_of_ble_eq_true rfl) ?_; dsimp only [Option.toList_some, List.cons_append, List.nil_append]
  refine z_icmp_eq (pc := 826) (tgt := 854) C dL_826 (by decide) (fun _ => ?_) (fun z => absurd (qe) z)
  exact nx σ cells slots _ hI (by omega) (by omega) rfl
set_option maxHeartbeats 4000000 in
set_option maxRecDepth 100000 in
theorem lc_count {l : Launch} {Ω : OmT} {E : ZE} {nm : String} (C : ZC Ω E code "GrindWorksLaw" ret room_1 nm) {b L : Nat} {xs : Nat → Int32} (hX : SX Ω E b L xs) {σ : Sg} (hI : INV σ) {i cells slots : Nat} (hi : i + 6 ≤ L) (hc : cells + 31 ≤ 703340 ∧ slots + 223 ≤ 6992228) (nx : LwN l Ω E b i cells slots) : ZV l Ω E cells slots 831 [(0, .ref b), (1, rfO Ω 0), (2, rfO Ω 6), (3, .int (nI i))] [] (hp Ω σ) (hN σ) := by
  have hw := hI.kw
  have hmw := hI.mw
  have hn := hw.1
  have hL3 := hX.2.2
  refine z_aload_n (pc := 831) C dL_831 rfl ?_
  refine z_aload_n (pc := 832) C dL_832 rfl ?_
  refine z_iload_n (pc := 833) C dL_833 rfl ?_
  refine z_iconst (pc := 834) (v := nI 1) C dL_834 (by decide) ?_
  refine z_iaddN (pc := 835) C dL_835 ?_
  refine z_sld (pc := 836) C hX dL_836 (by omega) ?_
  refine z_callL (pc := 837) (ci := 9) C dL_837 zy_X10_count kw_606 kw_607 rfl kw_608 rfl (ct_X10_count l Ω σ hw _) rfl rfl ⟨by decide, by decide⟩ ⟨rfl, rfl⟩ ⟨by omega, by omega⟩ (Nat.le_of_ble_eq_true rfl) ?_; dsimp only [Option.toList_some, List.cons_append, List.nil_append]
  refine z_aload_n (pc := 840) C dL_840 rfl ?_
  refine z_aload_n (pc := 841) C dL_841 rfl ?_
  refine z_iload_n (pc := 842) C dL_842 rfl ?_
  refine z_iconst (pc := 843) (v := nI 1) C dL_843 (by decide) ?_
  refine z_iaddN (pc := 844) C dL_844 ?_
  refine z_sld (pc := 845) C hX dL_845 (by omega) ?_
  refine z_callL (pc := 846) (ci := 10) C dL_846 zy_X11_count kw_827 kw_828 rfl kw_829 rfl (ct_X11_count l Ω σ hmw _) rfl rfl ⟨by decide, by decide⟩ ⟨rfl, rfl⟩ ⟨by omega, by omega⟩ (Nat.le_of_ble_eq_true rfl) ?_; dsimp only [Option.toList_some, List.cons_append, List.nil_append]
  refine z_icmp_eq (pc := 849) (tgt := 854) C dL_849 (by decide) (fun _ => ?_) (fun z => absurd (q_count hI _) z)
  exact nx σ cells slots _ hI (by omega) (by omega) rfl
