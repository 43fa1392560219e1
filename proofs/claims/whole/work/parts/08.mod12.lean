/-! ===== the reference: close ===== -/
set_option maxHeartbeats 4000000 in
set_option maxRecDepth 100000 in
theorem ct_X11_close_n (l : Launch) (Ω : OmT) (σ : Sg) (hw : MW σ) (u w q : Int32) (hu : ¬ isU σ.2.2.2 u) : ZM l Ω yX11_close cX11_close 16 (some .long) rm_X11_close [rfO Ω 6, .int u, .int w, .int q] (hp Ω σ) (hN σ) (some (.long (-9223372036854775808))) (hp Ω σ) (hN σ) := by
  refine ZM_of (by decide) (Nat.le_of_ble_eq_true rfl) (fun E hE C hQ => ?_)
  first | refine z_aload_n (pc := 0) C dX11_close_0 rfl ?_ | refine z_aload_nN (pc := 0) C dX11_close_0 rfl ?_
  refine z_iload_n (pc := 1) C dX11_close_1 rfl ?_
  refine z_callV (pc := 2) (ci := 10) C dX11_close_2 zy_X11_isUnit kw_692 kw_693 rfl kw_842 rfl (ct_X11_isUnit l Ω σ hw u) rfl rfl ⟨⟨by decide, by decide⟩, by decide, by decide⟩ (Nat.le_of_ble_eq_true rfl) ?_; dsimp only [Option.toList_some, List.cons_append, List.nil_append]
  -- at 5: ifeq 
  refine z_ifeqB (pc := 5) (tgt := 38) C dX11_close_5 (by decide) (fun h5 => ?_) (fun h5 => absurd h5 hu)
  refine z_ldc2 (pc := 38) (v := -9223372036854775808) C dX11_close_38 kw_795 ?_
  -- at 41: lreturn 
  exact z_lret (pc := 41) C hQ dX11_close_41 rfl rfl rfl (by decide) (by decide)
set_option maxHeartbeats 4000000 in
set_option maxRecDepth 100000 in
theorem ct_X11_close_b (l : Launch) (Ω : OmT) (σ : Sg) (hw : MW σ) (k : Nat) (hk : k < σ.2.2.2) (w q : Int32) (h : ¬ ((¬ σ.2.2.1 k = 0 ∧ ¬ σ.2.2.1 k = 7) ∧ inR 0 (upt (σ.2.2.1 k)) w ∧ inR 0 1 q)) : ZM l Ω yX11_close cX11_close 16 (some .long) rm_X11_close [rfO Ω 6, .int (nI k), .int w, .int q] (hp Ω σ) (hN σ) (some (.long (-9223372036854775808))) (hp Ω σ) (hN σ) := by
  refine ZM_of (by decide) (Nat.le_of_ble_eq_true rfl) (fun E hE C hQ => ?_)
  have hn := hw.1
  have h0 : isU σ.2.2.2 (nI k) := isU_nI (by omega) hk
  first | refine z_aload_n (pc := 0) C dX11_close_0 rfl ?_ | refine z_aload_nN (pc := 0) C dX11_close_0 rfl ?_
  refine z_iload_n (pc := 1) C dX11_close_1 rfl ?_
  refine z_callV (pc := 2) (ci := 10) C dX11_close_2 zy_X11_isUnit kw_692 kw_693 rfl kw_842 rfl (ct_X11_isUnit l Ω σ hw _) rfl rfl ⟨⟨by decide, by decide⟩, by decide, by decide⟩ (Nat.le_of_ble_eq_true rfl) ?_; dsimp only [Option.toList_some, List.cons_append, List.nil_append]
  refine z_ifeqB (pc := 5) (tgt := 38) C dX11_close_5 (by decide) (fun h5 => ?_) (fun h5 => ?_)
  · exact absurd h0 h5
  · first | refine z_aload_n (pc := 8) C dX11_close_8 rfl ?_ | refine z_aload_nN (pc := 8) C dX11_close_8 rfl ?_
    refine z_iload_n (pc := 9) C dX11_close_9 rfl ?_
    refine z_callV (pc := 10) (ci := 10) C dX11_close_10 zy_X11_isRead kw_807 kw_808 rfl kw_862 rfl (ct_X11_isRead l Ω σ hw k hk) rfl rfl ⟨⟨by decide, by decide⟩, by decide, by decide⟩ (Nat.le_of_ble_eq_true rfl) ?_; dsimp only [Option.toList_some, List.cons_append, List.nil_append]
    refine z_ifeqB (pc := 13) (tgt := 38) C dX11_close_13 (by decide) (fun h13 => ?_) (fun h13 => ?_)
    · refine z_ldc2 (pc := 38) (v := -9223372036854775808) C dX11_close_38 kw_795 ?_
      exact z_lret (pc := 41) C hQ dX11_close_41 (by clear hQ C hE; first | rfl | (simp [h5, h13]; done) | (simp_all []; done)) (by clear hQ C hE; first | rfl | (simp [h5, h13]; done) | (simp_all []; done)) (by clear hQ C hE; first | rfl | (simp [h5, h13]; done) | (simp_all []; done)) (by decide) (by decide)
    · refine z_iload_n (pc := 16) C dX11_close_16 rfl ?_
      refine z_iconst (pc := 17) (v := nI 0) C dX11_close_17 (by decide) ?_
      first | refine z_aload_n (pc := 18) C dX11_close_18 rfl ?_ | refine z_aload_nN (pc := 18) C dX11_close_18 rfl ?_
      refine z_iload_n (pc := 19) C dX11_close_19 rfl ?_
      refine z_callV (pc := 20) (ci := 10) C dX11_close_20 zy_X11_ports kw_695 kw_696 rfl kw_843 rfl (ct_X11_ports l Ω σ hw k hk) rfl rfl ⟨⟨by decide, by decide⟩, by decide, by decide⟩ (Nat.le_of_ble_eq_true rfl) ?_; dsimp only [Option.toList_some, List.cons_append, List.nil_append]
      refine z_callS (pc := 23) C dX11_close_23 zy_X11_isIn kw_685 kw_686 (ct_X11_isIn l Ω _ _ _ _ _) rfl rfl ⟨⟨by decide, by decide⟩, by decide, by decide⟩ (Nat.le_of_ble_eq_true rfl) ?_; dsimp only [Option.toList_some, List.cons_append, List.nil_append]
      refine z_ifeqB (pc := 26) (tgt := 38) C dX11_close_26 (by decide) (fun h26 => ?_) (fun h26 => ?_)
      · refine z_ldc2 (pc := 38) (v := -9223372036854775808) C dX11_close_38 kw_795 ?_
        exact z_lret (pc := 41) C hQ dX11_close_41 (by clear hQ C hE; first | rfl | (simp [h5, h13, h26]; done) | (simp_all []; done)) (by clear hQ C hE; first | rfl | (simp [h5, h13, h26]; done) | (simp_all []; done)) (by clear hQ C hE; first | rfl | (simp [h5, h13, h26]; done) | (simp_all []; done)) (by decide) (by decide)
      · refine z_iload_n (pc := 29) C dX11_close_29 rfl ?_
        refine z_iconst (pc := 30) (v := nI 0) C dX11_close_30 (by decide) ?_
        refine z_iconst (pc := 31) (v := nI 1) C dX11_close_31 (by decide) ?_
        refine z_callS (pc := 32) C dX11_close_32 zy_X11_isIn kw_685 kw_686 (ct_X11_isIn l Ω _ _ _ _ _) rfl rfl ⟨⟨by decide, by decide⟩, by decide, by decide⟩ (Nat.le_of_ble_eq_true rfl) ?_; dsimp only [Option.toList_some, List.cons_append, List.nil_append]
        refine z_ifneB (pc := 35) (tgt := 42) C dX11_close_35 (by decide) (fun h35 => ?_) (fun h35 => ?_)
        · exact absurd ⟨h13, h26, h35⟩ h
        · refine z_ldc2 (pc := 38) (v := -9223372036854775808) C dX11_close_38 kw_795 ?_
          exact z_lret (pc := 41) C hQ dX11_close_41 (by clear hQ C hE; first | rfl | (simp [h5, h13, h26, h35]; done) | (simp_all []; done)) (by clear hQ C hE; first | rfl | (simp [h5, h13, h26, h35]; done) | (simp_all []; done)) (by clear hQ C hE; first | rfl | (simp [h5, h13, h26, h35]; done) | (simp_all []; done)) (by decide) (by decide)
set_option maxHeartbeats 4000000 in
set_option maxRecDepth 100000 in
theorem ct_X11_close (l : Launch) (Ω : OmT) (σ : Sg) (hw : MW σ) (u : Nat) (hu : u < σ.2.2.2) (hrd : ¬ σ.2.2.1 u = 0 ∧ ¬ σ.2.2.1 u = 7) (w q : Nat) (hwp : w ≤ upt (σ.2.2.1 u)) (hq : q < 2) (X Y : Nat) (hY0 : 0 < Y) (hY : Y < 4611686018427387904) (hX : X < 4611686018427387904) (eY : clAll σ u (upt (σ.2.2.1 u) + 1) = lN Y) (eX : (if clUp σ u w (upt (σ.2.2.1 u)) < 0 then -clUp σ u w (upt (σ.2.2.1 u)) else clUp σ u w (upt (σ.2.2.1 u))) = lN X) : ZM l Ω yX11_close cX11_close 16 (some .long) rm_X11_close [rfO Ω 6, .int (nI u), .int (nI w), .int (nI q)] (hp Ω σ) (hN σ) (some (.long (if q = 0 then clUp σ u w (upt (σ.2.2.1 u)) / lN (Nat.gcd Y X) else clAll σ u (upt (σ.2.2.1 u) + 1) / lN (Nat.gcd Y X)))) (hp Ω σ) (hN σ) := by
  refine ZM_of (by decide) (Nat.le_of_ble_eq_true rfl) (fun E hE C hQ => ?_)
  have hn := hw.1
  have h0 : isU σ.2.2.2 (nI u) := isU_nI (by omega) hu
  have hup := upt_le (σ.2.2.1 u)
  have hgp : 0 < Nat.gcd Y X := Nat.gcd_pos_of_pos_left _ hY0
  have hne : ∀ z : Nat, 0 < z → z < 4611686018427387904 → ¬ lN z = 0 := by
    intro z h1 h2 h3
    have := (pk_lEQ (a := z) (b := 0) (by omega) (by omega)).mp h3
    omega
  generalize hP : upt (σ.2.2.1 u) = P at hwp eY eX hQ hup ⊢
  generalize hU : clUp σ u w P = U at eX hQ ⊢
  generalize hA : clAll σ u (P + 1) = B at eY hQ
  have gl : Nat.gcd Y X < 4611686018427387904 := Nat.lt_of_le_of_lt (Nat.gcd_le_left _ hY0) hY
  have euc : ∀ (b a : Nat) (t : List (Nat × Value)), a < 4611686018427387904 → b < 4611686018427387904 → Nat.gcd b a = Nat.gcd Y X → ZV l Ω E 0 0 182 [(0, rfO Ω 6), (1, .int (nI u)), (2, .int (nI w)), (3, .int (nI q)), (4, .long B), (8, .long U), (10, .long (lN a)), (12, .long (lN b))] [] (hp Ω σ) (hN σ) := by
    intro b
    induction b using Nat.strongRecOn with
    | ind b ih =>
      intro a t ha hb hg
      refine z_lload (pc := 182) C dX11_close_182 rfl ?_
      refine z_lconst (pc := 184) (v := 0) C dX11_close_184 (by decide) ?_
      refine z_lcmp (pc := 185) C dX11_close_185 ?_
      -- at 186: ifeq 
      refine z_if_eq (pc := 186) (tgt := 207) C dX11_close_186 (by decide) (fun h => ?_) (fun h => ?_)
      · have hb0 : b = 0 := (pk_lEQ (by omega) (by omega)).mp ((lg_cmp_eq _ _).mp h)
        subst hb0
        rw [Nat.gcd_zero_left] at hg
        subst hg
        have hnz : ¬ lN (Nat.gcd Y X) = 0 := hne _ hgp gl
        refine z_iload_n (pc := 207) C dX11_close_207 rfl ?_
        -- at 208: ifne 
        refine z_if_neX (pc := 208) (tgt := 219) C dX11_close_208 (by decide) (by omega) (fun z => ?_) (fun z => ?_)
        · refine z_lload (pc := 219) C dX11_close_219 rfl ?_
          refine z_lload (pc := 221) C dX11_close_221 rfl ?_
          -- at 223: ldiv 
          refine z_ldiv (pc := 223) C dX11_close_223 hnz ?_
          exact z_lret (pc := 224) C hQ dX11_close_224 (by rw [if_neg z]) rfl rfl (by decide) (by decide)
        · refine z_lload (pc := 211) C dX11_close_211 rfl ?_
          refine z_lload (pc := 213) C dX11_close_213 rfl ?_
          -- at 215: ldiv 
          refine z_ldiv (pc := 215) C dX11_close_215 hnz ?_
          refine z_goto (pc := 216) (tgt := 224) C dX11_close_216 (by decide) ?_
          -- at 224: lreturn 
          exact z_lret (pc := 224) C hQ dX11_close_224 (by rw [if_pos z]) rfl rfl (by decide) (by decide)
      · have hb0 : 0 < b := Nat.pos_of_ne_zero (fun z => h ((lg_cmp_eq _ _).mpr (by rw [z]; rfl)))
        refine z_lload (pc := 189) C dX11_close_189 rfl ?_
        refine z_lload (pc := 191) C dX11_close_191 rfl ?_
        -- at 193: lrem 
        refine z_lrem (pc := 193) C dX11_close_193 (hne b hb0 hb) ?_
        rw [pk_lRem (by omega) hb0 (by omega)]
        refine z_lstore (pc := 194) C dX11_close_194 (by rw [hE]; decide) ?_
        refine z_lload (pc := 196) C dX11_close_196 rfl ?_
        refine z_lstore (pc := 198) C dX11_close_198 (by rw [hE]; decide) ?_
        refine z_lload (pc := 200) C dX11_close_200 rfl ?_
        refine z_lstore (pc := 202) C dX11_close_202 (by rw [hE]; decide) ?_
        refine z_goto (pc := 204) (tgt := 182) C dX11_close_204 (by decide) ?_
        -- at 182
        refine z_pick [0, 1, 2, 3, 4, 8, 10, 12] rfl ?_
        have hlt := Nat.mod_lt a hb0
        exact ih (a % b) hlt b t hb (by omega) (by rw [← hg, Nat.gcd_rec b a])
  have tail : ∀ x8 : Value, ZV l Ω E 0 0 118 [(0, rfO Ω 6), (1, .int (nI u)), (2, .int (nI w)), (3, .int (nI q)), (4, .long B), (6, .long (clW σ u (P + 1)))] [] (hp Ω σ) (hN σ) := by
    intro x8
    have t2 : ∀ y : Int64, y = (if w = 0 then -1 else 1) → ZV l Ω E 0 0 143 [(0, rfO Ω 6), (1, .int (nI u)), (2, .int (nI w)), (3, .int (nI q)), (4, .long B), (6, .long (clW σ u (P + 1)))] [.long y, .long ((σ.1 11 22 (3 * u + w)).toInt64 * B)] (hp Ω σ) (hN σ) := by
      intro y ey
      have eU : U = (σ.1 11 22 (3 * u + w)).toInt64 * B + y * (σ.1 11 23 (3 * u + w)).toInt64 * clW σ u (P + 1) := by rw [← hU, ← hA, ey]; rfl
      first | refine z_aload_n (pc := 143) C dX11_close_143 rfl ?_ | refine z_aload_nN (pc := 143) C dX11_close_143 rfl ?_
      refine z_getf (pc := 144) C dX11_close_144 zf_X11_81_10 rfl rfl ?_
      refine z_iconst (pc := 147) (v := nI 3) C dX11_close_147 (by decide) ?_
      refine z_iload_n (pc := 148) C dX11_close_148 rfl ?_
      first | with_reducible refine z_imulN (pc := 149) C dX11_close_149 ?_ | refine z_imul (pc := 149) C dX11_close_149 ?_
      refine z_iload_n (pc := 150) C dX11_close_150 rfl ?_
      first | with_reducible refine z_iaddN (pc := 151) C dX11_close_151 ?_ | refine z_iadd (pc := 151) C dX11_close_151 ?_
      refine z_iald (pc := 152) (N := 30) C dX11_close_152 rfl (by omega) (by decide) rfl ?_
      refine z_i2l (pc := 153) C dX11_close_153 rfl ?_
      refine z_lmul (pc := 154) C dX11_close_154 ?_
      refine z_lload (pc := 155) C dX11_close_155 rfl ?_
      refine z_lmul (pc := 157) C dX11_close_157 ?_
      refine z_ladd (pc := 158) C dX11_close_158 ?_
      -- at 159: lstore 
      rw [← eU]
      refine z_lstore (pc := 159) C dX11_close_159 (by rw [hE]; decide) ?_
      refine z_lload (pc := 161) C dX11_close_161 rfl ?_
      refine z_lconst (pc := 163) (v := 0) C dX11_close_163 (by decide) ?_
      refine z_lcmp (pc := 164) C dX11_close_164 ?_
      -- at 165: ifge 
      refine z_if_ge (pc := 165) (tgt := 174) C dX11_close_165 (by decide) (fun h => ?_) (fun h => ?_)
      · have h1 : ¬ U < 0 := fun z => absurd ((lg_cmp_ge _ _).mp h) (lg_lt_not_le z)
        rw [if_neg h1] at eX
        refine z_lload (pc := 174) C dX11_close_174 rfl ?_
        refine z_lstore (pc := 176) C dX11_close_176 (by rw [hE]; decide) ?_
        refine z_lload (pc := 178) C dX11_close_178 rfl ?_
        refine z_lstore (pc := 180) C dX11_close_180 (by rw [hE]; decide) ?_
        -- at 182: lload 
        rw [eX, eY]
        refine z_pick [0, 1, 2, 3, 4, 8, 10, 12] rfl ?_
        have h9 := euc Y X [] hX hY rfl
        rw [eX, eY] at h9
        exact h9
      · have h1 : U < 0 := by
          rcases lg_tri U 0 with z | z | z
          · exact z
          · exact absurd ((lg_cmp_ge U 0).mpr (by rw [z]; exact Int64.le_refl 0)) h
          · exact absurd ((lg_cmp_ge U 0).mpr (Int64.le_of_lt z)) h
        rw [if_pos h1] at eX
        refine z_lload (pc := 168) C dX11_close_168 rfl ?_
        refine z_lneg (pc := 170) C dX11_close_170 ?_
        refine z_goto (pc := 171) (tgt := 176) C dX11_close_171 (by decide) ?_
        refine z_lstore (pc := 176) C dX11_close_176 (by rw [hE]; decide) ?_
        refine z_lload (pc := 178) C dX11_close_178 rfl ?_
        refine z_lstore (pc := 180) C dX11_close_180 (by rw [hE]; decide) ?_
        -- at 182: lload 
        rw [eX, eY]
        refine z_pick [0, 1, 2, 3, 4, 8, 10, 12] rfl ?_
        have h9 := euc Y X [] hX hY rfl
        rw [eY] at h9
        exact h9
    first | refine z_aload_n (pc := 118) C dX11_close_118 rfl ?_ | refine z_aload_nN (pc := 118) C dX11_close_118 rfl ?_
    refine z_getf (pc := 119) C dX11_close_119 zf_X11_78_10 rfl rfl ?_
    refine z_iconst (pc := 122) (v := nI 3) C dX11_close_122 (by decide) ?_
    refine z_iload_n (pc := 123) C dX11_close_123 rfl ?_
    first | with_reducible refine z_imulN (pc := 124) C dX11_close_124 ?_ | refine z_imul (pc := 124) C dX11_close_124 ?_
    refine z_iload_n (pc := 125) C dX11_close_125 rfl ?_
    first | with_reducible refine z_iaddN (pc := 126) C dX11_close_126 ?_ | refine z_iadd (pc := 126) C dX11_close_126 ?_
    refine z_iald (pc := 127) (N := 30) C dX11_close_127 rfl (by omega) (by decide) rfl ?_
    refine z_i2l (pc := 128) C dX11_close_128 rfl ?_
    refine z_lload (pc := 129) C dX11_close_129 rfl ?_
    refine z_lmul (pc := 131) C dX11_close_131 ?_
    refine z_iload_n (pc := 132) C dX11_close_132 rfl ?_
    -- at 133: ifne 
    refine z_if_neX (pc := 133) (tgt := 142) C dX11_close_133 (by decide) (by omega) (fun h => ?_) (fun h => ?_)
    · refine z_lconst (pc := 142) (v := 1) C dX11_close_142 (by decide) ?_
      -- at 143: aload_0 
      exact t2 1 (by rw [if_neg h])
    · refine z_ldc2 (pc := 136) (v := -1) C dX11_close_136 kw_814 ?_
      refine z_goto (pc := 139) (tgt := 143) C dX11_close_139 (by decide) ?_
      -- at 143
      exact t2 (-1) (by rw [if_pos h])
  have loop : ∀ (j k : Nat), k + j = P + 1 → ZV l Ω E 0 0 59 [(0, rfO Ω 6), (1, .int (nI u)), (2, .int (nI w)), (3, .int (nI q)), (4, .long (clAll σ u k)), (6, .long (clW σ u k)), (8, .int (nI k))] [] (hp Ω σ) (hN σ) := by
    intro j
    induction j with
    | zero =>
      intro k hk
      obtain rfl : k = P + 1 := by omega
      refine z_iload (pc := 59) C dX11_close_59 rfl ?_
      first | refine z_aload_n (pc := 61) C dX11_close_61 rfl ?_ | refine z_aload_nN (pc := 61) C dX11_close_61 rfl ?_
      refine z_iload_n (pc := 62) C dX11_close_62 rfl ?_
      refine z_callV (pc := 63) (ci := 10) C dX11_close_63 zy_X11_ports kw_695 kw_696 rfl kw_843 rfl (ct_X11_ports l Ω σ hw u hu) rfl rfl ⟨⟨by decide, by decide⟩, by decide, by decide⟩ (Nat.le_of_ble_eq_true rfl) ?_; dsimp only [Option.toList_some, List.cons_append, List.nil_append]
      -- at 66: if_icmpgt 
      rw [hP]
      refine z_icmp_gtT (pc := 66) (tgt := 118) C dX11_close_66 (by decide) (by omega) (by omega) (by omega) ?_
      rw [hA]
      refine z_pick [0, 1, 2, 3, 4, 6] rfl ?_
      exact tail .null
    | succ j ih =>
      intro k hk
      have h9 := ih (k + 1) (by omega)
      rw [show clW σ u (k + 1) = clW σ u k - (if k = 0 then 0 else (σ.1 11 22 (3 * u + k)).toInt64) from rfl] at h9
      refine z_iload (pc := 59) C dX11_close_59 rfl ?_
      first | refine z_aload_n (pc := 61) C dX11_close_61 rfl ?_ | refine z_aload_nN (pc := 61) C dX11_close_61 rfl ?_
      refine z_iload_n (pc := 62) C dX11_close_62 rfl ?_
      refine z_callV (pc := 63) (ci := 10) C dX11_close_63 zy_X11_ports kw_695 kw_696 rfl kw_843 rfl (ct_X11_ports l Ω σ hw u hu) rfl rfl ⟨⟨by decide, by decide⟩, by decide, by decide⟩ (Nat.le_of_ble_eq_true rfl) ?_; dsimp only [Option.toList_some, List.cons_append, List.nil_append]
      -- at 66: if_icmpgt 
      rw [hP]
      refine z_icmp_gtF (pc := 66) (tgt := 118) C dX11_close_66 (by decide) (by omega) (by omega) (by omega) ?_
      refine z_lload (pc := 69) C dX11_close_69 rfl ?_
      first | refine z_aload_n (pc := 71) C dX11_close_71 rfl ?_ | refine z_aload_nN (pc := 71) C dX11_close_71 rfl ?_
      refine z_getf (pc := 72) C dX11_close_72 zf_X11_81_10 rfl rfl ?_
      refine z_iconst (pc := 75) (v := nI 3) C dX11_close_75 (by decide) ?_
      refine z_iload_n (pc := 76) C dX11_close_76 rfl ?_
      first | with_reducible refine z_imulN (pc := 77) C dX11_close_77 ?_ | refine z_imul (pc := 77) C dX11_close_77 ?_
      refine z_iload (pc := 78) C dX11_close_78 rfl ?_
      first | with_reducible refine z_iaddN (pc := 80) C dX11_close_80 ?_ | refine z_iadd (pc := 80) C dX11_close_80 ?_
      refine z_iald (pc := 81) (N := 30) C dX11_close_81 rfl (by omega) (by decide) rfl ?_
      refine z_i2l (pc := 82) C dX11_close_82 rfl ?_
      refine z_ladd (pc := 83) C dX11_close_83 ?_
      refine z_lstore (pc := 84) C dX11_close_84 (by rw [hE]; decide) ?_
      refine z_lload (pc := 86) C dX11_close_86 rfl ?_
      refine z_iload (pc := 88) C dX11_close_88 rfl ?_
      -- at 90: ifne 
      refine z_if_neX (pc := 90) (tgt := 97) C dX11_close_90 (by decide) (by omega) (fun h => ?_) (fun h => ?_)
      · rw [if_neg h] at h9
        first | refine z_aload_n (pc := 97) C dX11_close_97 rfl ?_ | refine z_aload_nN (pc := 97) C dX11_close_97 rfl ?_
        refine z_getf (pc := 98) C dX11_close_98 zf_X11_78_10 rfl rfl ?_
        refine z_iconst (pc := 101) (v := nI 3) C dX11_close_101 (by decide) ?_
        refine z_iload_n (pc := 102) C dX11_close_102 rfl ?_
        first | with_reducible refine z_imulN (pc := 103) C dX11_close_103 ?_ | refine z_imul (pc := 103) C dX11_close_103 ?_
        refine z_iload (pc := 104) C dX11_close_104 rfl ?_
        first | with_reducible refine z_iaddN (pc := 106) C dX11_close_106 ?_ | refine z_iadd (pc := 106) C dX11_close_106 ?_
        refine z_iald (pc := 107) (N := 30) C dX11_close_107 rfl (by omega) (by decide) rfl ?_
        refine z_i2l (pc := 108) C dX11_close_108 rfl ?_
        refine z_lsub (pc := 109) C dX11_close_109 ?_
        refine z_lstore (pc := 110) C dX11_close_110 (by rw [hE]; decide) ?_
        first | refine z_iincN (pc := 112) C dX11_close_112 rfl (by rw [hE]; decide) ?_ | refine z_iinc (pc := 112) C dX11_close_112 rfl rfl (by rw [hE]; decide) ?_
        refine z_goto (pc := 115) (tgt := 59) C dX11_close_115 (by decide) ?_
        -- at 59
        exact h9
      · rw [if_pos h] at h9
        refine z_lconst (pc := 93) (v := 0) C dX11_close_93 (by decide) ?_
        refine z_goto (pc := 94) (tgt := 109) C dX11_close_94 (by decide) ?_
        refine z_lsub (pc := 109) C dX11_close_109 ?_
        refine z_lstore (pc := 110) C dX11_close_110 (by rw [hE]; decide) ?_
        first | refine z_iincN (pc := 112) C dX11_close_112 rfl (by rw [hE]; decide) ?_ | refine z_iinc (pc := 112) C dX11_close_112 rfl rfl (by rw [hE]; decide) ?_
        refine z_goto (pc := 115) (tgt := 59) C dX11_close_115 (by decide) ?_
        -- at 59
        exact h9
  have hwr : inR 0 P (nI w) := inR_nI (by omega) hwp (by omega)
  have hqr : inR 0 1 (nI q) := inR_nI (by omega) (by omega) (by decide)
  first | refine z_aload_n (pc := 0) C dX11_close_0 rfl ?_ | refine z_aload_nN (pc := 0) C dX11_close_0 rfl ?_
  refine z_iload_n (pc := 1) C dX11_close_1 rfl ?_
  refine z_callV (pc := 2) (ci := 10) C dX11_close_2 zy_X11_isUnit kw_692 kw_693 rfl kw_842 rfl (ct_X11_isUnit l Ω σ hw (nI u)) rfl rfl ⟨⟨by decide, by decide⟩, by decide, by decide⟩ (Nat.le_of_ble_eq_true rfl) ?_; dsimp only [Option.toList_some, List.cons_append, List.nil_append]
  -- at 5: ifeq 
  refine z_ifeqB (pc := 5) (tgt := 38) C dX11_close_5 (by decide) (fun h => absurd h0 h) (fun h => ?_)
  first | refine z_aload_n (pc := 8) C dX11_close_8 rfl ?_ | refine z_aload_nN (pc := 8) C dX11_close_8 rfl ?_
  refine z_iload_n (pc := 9) C dX11_close_9 rfl ?_
  refine z_callV (pc := 10) (ci := 10) C dX11_close_10 zy_X11_isRead kw_807 kw_808 rfl kw_862 rfl (ct_X11_isRead l Ω σ hw u hu) rfl rfl ⟨⟨by decide, by decide⟩, by decide, by decide⟩ (Nat.le_of_ble_eq_true rfl) ?_; dsimp only [Option.toList_some, List.cons_append, List.nil_append]
  -- at 13: ifeq 
  refine z_ifeqB (pc := 13) (tgt := 38) C dX11_close_13 (by decide) (fun h => absurd hrd h) (fun h => ?_)
  refine z_iload_n (pc := 16) C dX11_close_16 rfl ?_
  refine z_iconst (pc := 17) (v := nI 0) C dX11_close_17 (by decide) ?_
  first | refine z_aload_n (pc := 18) C dX11_close_18 rfl ?_ | refine z_aload_nN (pc := 18) C dX11_close_18 rfl ?_
  refine z_iload_n (pc := 19) C dX11_close_19 rfl ?_
  refine z_callV (pc := 20) (ci := 10) C dX11_close_20 zy_X11_ports kw_695 kw_696 rfl kw_843 rfl (ct_X11_ports l Ω σ hw u hu) rfl rfl ⟨⟨by decide, by decide⟩, by decide, by decide⟩ (Nat.le_of_ble_eq_true rfl) ?_; dsimp only [Option.toList_some, List.cons_append, List.nil_append]
  refine z_callS (pc := 23) C dX11_close_23 zy_X11_isIn kw_685 kw_686 (ct_X11_isIn l Ω _ _ _ _ _) rfl rfl ⟨⟨by decide, by decide⟩, by decide, by decide⟩ (Nat.le_of_ble_eq_true rfl) ?_; dsimp only [Option.toList_some, List.cons_append, List.nil_append]
  -- at 26: ifeq 
  rw [hP]
  refine z_ifeqB (pc := 26) (tgt := 38) C dX11_close_26 (by decide) (fun h => absurd hwr h) (fun h => ?_)
  refine z_iload_n (pc := 29) C dX11_close_29 rfl ?_
  refine z_iconst (pc := 30) (v := nI 0) C dX11_close_30 (by decide) ?_
  refine z_iconst (pc := 31) (v := nI 1) C dX11_close_31 (by decide) ?_
  refine z_callS (pc := 32) C dX11_close_32 zy_X11_isIn kw_685 kw_686 (ct_X11_isIn l Ω _ _ _ _ _) rfl rfl ⟨⟨by decide, by decide⟩, by decide, by decide⟩ (Nat.le_of_ble_eq_true rfl) ?_; dsimp only [Option.toList_some, List.cons_append, List.nil_append]
  -- at 35: ifne 
  refine z_ifneB (pc := 35) (tgt := 42) C dX11_close_35 (by decide) (fun h => ?_) (fun h => absurd hqr h)
  refine z_lconst (pc := 42) (v := 0) C dX11_close_42 (by decide) ?_
  refine z_lstore (pc := 43) C dX11_close_43 (by rw [hE]; decide) ?_
  first | refine z_aload_n (pc := 45) C dX11_close_45 rfl ?_ | refine z_aload_nN (pc := 45) C dX11_close_45 rfl ?_
  refine z_getf (pc := 46) C dX11_close_46 zf_X11_78_10 rfl rfl ?_
  refine z_iconst (pc := 49) (v := nI 3) C dX11_close_49 (by decide) ?_
  refine z_iload_n (pc := 50) C dX11_close_50 rfl ?_
  first | with_reducible refine z_imulN (pc := 51) C dX11_close_51 ?_ | refine z_imul (pc := 51) C dX11_close_51 ?_
  refine z_iald (pc := 52) (N := 30) C dX11_close_52 rfl (by omega) (by decide) rfl ?_
  refine z_i2l (pc := 53) C dX11_close_53 rfl ?_
  refine z_lstore (pc := 54) C dX11_close_54 (by rw [hE]; decide) ?_
  refine z_iconst (pc := 56) (v := nI 0) C dX11_close_56 (by decide) ?_
  refine z_istore (pc := 57) C dX11_close_57 (by rw [hE]; decide) ?_
  -- at 59: iload 
  exact loop (P + 1) 0 (by omega)
