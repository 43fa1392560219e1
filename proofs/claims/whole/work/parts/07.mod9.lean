/-! ===== the reference: gives ===== -/
set_option maxHeartbeats 4000000 in
set_option maxRecDepth 100000 in
theorem ct_X11_gives (l : Launch) (Ω : OmT) (σ : Sg) (u K L : Nat) (hw : MW σ) (hu : u < σ.2.2.2) (hK : K ≤ 6) (eK : σ.1 11 13 u = nI K) (hL : L ≤ 20) (eL : σ.1 11 16 u = nI L) : ZM l Ω yX11_gives cX11_gives 3 none rm_X11_gives [rfO Ω 6, .int (nI u)] (hp Ω σ) (hN σ) (none) (hp Ω (mGive σ u)) (hN σ) := by
  refine ZM_of (by decide) (Nat.le_of_ble_eq_true rfl) (fun E hE C hQ => ?_)
  have hn0 := hw.1
  have hn := hw.1
  have hu10 : u < 10 := by omega
  obtain ⟨e1, e2⟩ := hw.2.2 u hu
  first | refine z_aload_n (pc := 0) C dX11_gives_0 rfl ?_ | refine z_aload_nN (pc := 0) C dX11_gives_0 rfl ?_
  refine z_getf (pc := 1) C dX11_gives_1 zf_X11_9_10 rfl rfl ?_
  refine z_iload_n (pc := 4) C dX11_gives_4 rfl ?_
  refine z_iald (pc := 5) (N := 10) C dX11_gives_5 rfl (by omega) (by decide) rfl ?_; rw [e1]
  -- at 6: tableswitch 0 to 6
  rcases (show σ.2.2.1 u = 0 ∨ σ.2.2.1 u = 1 ∨ σ.2.2.1 u = 2 ∨ σ.2.2.1 u = 3 ∨ σ.2.2.1 u = 4 ∨ σ.2.2.1 u = 5 ∨ σ.2.2.1 u = 6 ∨ σ.2.2.1 u = 7 by omega) with q | q | q | q | q | q | q | q
  · rw [q]
    refine z_tabInN (pc := 6) (a := 0) (tgt := 48) C dX11_gives_6 (by decide) (by decide) rfl (by decide) (by decide) ?_
    by_cases h0 : σ.1 11 12 u = 0
    · refine z_iconst (pc := 48) (v := nI 0) C dX11_gives_48 (by decide) ?_
      refine z_istore_n (pc := 49) C dX11_gives_49 (by rw [hE]; decide) ?_
      -- at 50: iload_2 
      refine z_iload_n (pc := 50) C dX11_gives_50 rfl ?_
      refine z_bipush (pc := 51) (v := nI 8) C dX11_gives_51 (by decide) ?_
      -- at 53: if_icmpge 
      refine z_icmp_geF (pc := 53) (tgt := 115) C dX11_gives_53 (by decide) (by omega) (by omega) (by omega) ?_
      first | refine z_aload_n (pc := 56) C dX11_gives_56 rfl ?_ | refine z_aload_nN (pc := 56) C dX11_gives_56 rfl ?_
      refine z_getf (pc := 57) C dX11_gives_57 zf_X11_46_10 rfl rfl ?_
      refine z_iload_n (pc := 60) C dX11_gives_60 rfl ?_
      refine z_zald (pc := 61) (N := 10) C dX11_gives_61 rfl (by omega) (by decide) rfl ?_
      -- at 62: ifeq 
      refine z_if_eq (pc := 62) (tgt := 115) C dX11_gives_62 (by decide) (fun h => ?_) (fun h => absurd h0 h)
      exact z_vret (pc := 115) C hQ dX11_gives_115 rfl (by simp only [mGive, q]; rw [if_pos h0]) rfl (by decide) (by decide)
    · have loop : ∀ (j c : Nat), c + j = 8 → ZV l Ω E 0 0 50 [(0, rfO Ω 6), (1, .int (nI u)), (2, .int (nI c))] [] (hp Ω (itF (fdStep u) c σ)) (hN σ) := by
        intro j
        induction j with
        | zero =>
          intro c hc
          obtain rfl : c = 8 := by omega
          refine z_iload_n (pc := 50) C dX11_gives_50 rfl ?_
          refine z_bipush (pc := 51) (v := nI 8) C dX11_gives_51 (by decide) ?_
          -- at 53: if_icmpge 
          refine z_icmp_geT (pc := 53) (tgt := 115) C dX11_gives_53 (by decide) (by omega) (by omega) (by omega) ?_
          exact z_vret (pc := 115) C hQ dX11_gives_115 rfl (by simp only [mGive, q]; rw [if_neg h0]) rfl (by decide) (by decide)
        | succ j ih =>
          intro c hc
          have hn : (itF (fdStep u) c σ).2.2.2 ≤ 10 := by rw [itF_n (f := fdStep u) (fun _ _ => rfl)]; exact hn0
          have r12 : (itF (fdStep u) c σ).1 11 12 = σ.1 11 12 := itF_row (f := fdStep u) (fun τ => τ.1 11 12) (fun c τ => by funext j; simp [fdStep, sI, sL]) σ c
          refine z_iload_n (pc := 50) C dX11_gives_50 rfl ?_
          refine z_bipush (pc := 51) (v := nI 8) C dX11_gives_51 (by decide) ?_
          -- at 53: if_icmpge 
          refine z_icmp_geF (pc := 53) (tgt := 115) C dX11_gives_53 (by decide) (by omega) (by omega) (by omega) ?_
          first | refine z_aload_n (pc := 56) C dX11_gives_56 rfl ?_ | refine z_aload_nN (pc := 56) C dX11_gives_56 rfl ?_
          refine z_getf (pc := 57) C dX11_gives_57 zf_X11_46_10 rfl rfl ?_
          refine z_iload_n (pc := 60) C dX11_gives_60 rfl ?_
          refine z_zald (pc := 61) (N := 10) C dX11_gives_61 rfl (by omega) (by decide) rfl ?_
          -- at 62: ifeq 
          refine z_if_eq (pc := 62) (tgt := 115) C dX11_gives_62 (by decide) (fun h => absurd (by rw [← r12]; exact h) h0) (fun h => ?_)
          first | refine z_aload_n (pc := 65) C dX11_gives_65 rfl ?_ | refine z_aload_nN (pc := 65) C dX11_gives_65 rfl ?_
          refine z_getf (pc := 66) C dX11_gives_66 zf_X11_65_10 rfl rfl ?_
          first | refine z_aload_n (pc := 69) C dX11_gives_69 rfl ?_ | refine z_aload_nN (pc := 69) C dX11_gives_69 rfl ?_
          refine z_iload_n (pc := 70) C dX11_gives_70 rfl ?_
          refine z_iconst (pc := 71) (v := nI 0) C dX11_gives_71 (by decide) ?_
          refine z_iload_n (pc := 72) C dX11_gives_72 rfl ?_
          refine z_callV (pc := 73) (ci := 10) C dX11_gives_73 zy_X11_outAt kw_739 kw_740 rfl kw_847 rfl (ct_X11_outAt l Ω _ _ _ _ _) rfl rfl ⟨⟨by decide, by decide⟩, by decide, by decide⟩ (Nat.le_of_ble_eq_true rfl) ?_; dsimp only [Option.toList_some, List.cons_append, List.nil_append]
          first | refine z_aload_n (pc := 76) C dX11_gives_76 rfl ?_ | refine z_aload_nN (pc := 76) C dX11_gives_76 rfl ?_
          refine z_getf (pc := 77) C dX11_gives_77 zf_X11_19_10 rfl rfl ?_
          refine z_iload_n (pc := 80) C dX11_gives_80 rfl ?_
          refine z_iload_n (pc := 81) C dX11_gives_81 rfl ?_
          refine z_callS (pc := 82) C dX11_gives_82 zy_X11_spot kw_717 kw_718 (ct_X11_spot l Ω _ _ _ _) rfl rfl ⟨⟨by decide, by decide⟩, by decide, by decide⟩ (Nat.le_of_ble_eq_true rfl) ?_; dsimp only [Option.toList_some, List.cons_append, List.nil_append]
          refine z_iald (pc := 85) (N := 80) C dX11_gives_85 rfl (by omega) (by decide) rfl ?_
          refine z_iast (pc := 86) (N := 160) C dX11_gives_86 rfl (by omega) (by decide) (hp_m 18 (by decide) hn (by decide)) ?_
          first | refine z_aload_n (pc := 87) C dX11_gives_87 rfl ?_ | refine z_aload_nN (pc := 87) C dX11_gives_87 rfl ?_
          refine z_getf (pc := 88) C dX11_gives_88 zf_X11_68_10 rfl rfl ?_
          refine z_iload_n (pc := 91) C dX11_gives_91 rfl ?_
          refine z_iconst (pc := 92) (v := nI 2) C dX11_gives_92 (by decide) ?_
          first | with_reducible refine z_iremN (pc := 93) C dX11_gives_93 (by omega) (by decide) (by decide) ?_ | refine z_irem (pc := 93) C dX11_gives_93 (by decide) ?_
          refine z_dup2 (pc := 94) C dX11_gives_94 rfl rfl ?_
          refine z_lald (pc := 95) (N := 2) C dX11_gives_95 rfl (by omega) (by decide) rfl ?_
          first | refine z_aload_n (pc := 96) C dX11_gives_96 rfl ?_ | refine z_aload_nN (pc := 96) C dX11_gives_96 rfl ?_
          refine z_getf (pc := 97) C dX11_gives_97 zf_X11_19_10 rfl rfl ?_
          refine z_iload_n (pc := 100) C dX11_gives_100 rfl ?_
          refine z_iload_n (pc := 101) C dX11_gives_101 rfl ?_
          refine z_callS (pc := 102) C dX11_gives_102 zy_X11_spot kw_717 kw_718 (ct_X11_spot l Ω _ _ _ _) rfl rfl ⟨⟨by decide, by decide⟩, by decide, by decide⟩ (Nat.le_of_ble_eq_true rfl) ?_; dsimp only [Option.toList_some, List.cons_append, List.nil_append]
          refine z_iald (pc := 105) (N := 80) C dX11_gives_105 rfl (by omega) (by decide) rfl ?_
          refine z_i2l (pc := 106) C dX11_gives_106 rfl ?_
          refine z_ladd (pc := 107) C dX11_gives_107 ?_
          refine z_last (pc := 108) (N := 2) C dX11_gives_108 rfl (by omega) (by decide) (hp_ml 19 (by decide)) ?_
          first | refine z_iincN (pc := 109) C dX11_gives_109 rfl (by rw [hE]; decide) ?_ | refine z_iinc (pc := 109) C dX11_gives_109 rfl rfl (by rw [hE]; decide) ?_
          refine z_goto (pc := 112) (tgt := 50) C dX11_gives_112 (by decide) ?_
          -- at 50
          exact ih (c + 1) (by omega)
      refine z_iconst (pc := 48) (v := nI 0) C dX11_gives_48 (by decide) ?_
      refine z_istore_n (pc := 49) C dX11_gives_49 (by rw [hE]; decide) ?_
      -- at 50: iload_2 
      exact loop 8 0 rfl
  · rw [q]
    refine z_tabInN (pc := 6) (a := 1) (tgt := 116) C dX11_gives_6 (by decide) (by decide) rfl (by decide) (by decide) ?_
    have loop : ∀ (j c : Nat), c + j = 8 → ZV l Ω E 0 0 118 [(0, rfO Ω 6), (1, .int (nI u)), (2, .int (nI c))] [] (hp Ω (itF (joStep u) c σ)) (hN σ) := by
      intro j
      induction j with
      | zero =>
        intro c hc
        obtain rfl : c = 8 := by omega
        refine z_iload_n (pc := 118) C dX11_gives_118 rfl ?_
        refine z_bipush (pc := 119) (v := nI 8) C dX11_gives_119 (by decide) ?_
        -- at 121: if_icmpge 
        refine z_icmp_geT (pc := 121) (tgt := 152) C dX11_gives_121 (by decide) (by omega) (by omega) (by omega) ?_
        exact z_vret (pc := 152) C hQ dX11_gives_152 rfl (by simp only [mGive, q]) rfl (by decide) (by decide)
      | succ j ih =>
        intro c hc
        have hn : (itF (joStep u) c σ).2.2.2 ≤ 10 := by rw [itF_n (f := joStep u) (fun _ _ => rfl)]; exact hn0
        refine z_iload_n (pc := 118) C dX11_gives_118 rfl ?_
        refine z_bipush (pc := 119) (v := nI 8) C dX11_gives_119 (by decide) ?_
        -- at 121: if_icmpge 
        refine z_icmp_geF (pc := 121) (tgt := 152) C dX11_gives_121 (by decide) (by omega) (by omega) (by omega) ?_
        first | refine z_aload_n (pc := 124) C dX11_gives_124 rfl ?_ | refine z_aload_nN (pc := 124) C dX11_gives_124 rfl ?_
        refine z_getf (pc := 125) C dX11_gives_125 zf_X11_65_10 rfl rfl ?_
        first | refine z_aload_n (pc := 128) C dX11_gives_128 rfl ?_ | refine z_aload_nN (pc := 128) C dX11_gives_128 rfl ?_
        refine z_iload_n (pc := 129) C dX11_gives_129 rfl ?_
        refine z_iconst (pc := 130) (v := nI 0) C dX11_gives_130 (by decide) ?_
        refine z_iload_n (pc := 131) C dX11_gives_131 rfl ?_
        refine z_callV (pc := 132) (ci := 10) C dX11_gives_132 zy_X11_outAt kw_739 kw_740 rfl kw_847 rfl (ct_X11_outAt l Ω _ _ _ _ _) rfl rfl ⟨⟨by decide, by decide⟩, by decide, by decide⟩ (Nat.le_of_ble_eq_true rfl) ?_; dsimp only [Option.toList_some, List.cons_append, List.nil_append]
        first | refine z_aload_n (pc := 135) C dX11_gives_135 rfl ?_ | refine z_aload_nN (pc := 135) C dX11_gives_135 rfl ?_
        refine z_getf (pc := 136) C dX11_gives_136 zf_X11_16_10 rfl rfl ?_
        refine z_iload_n (pc := 139) C dX11_gives_139 rfl ?_
        refine z_iload_n (pc := 140) C dX11_gives_140 rfl ?_
        refine z_callS (pc := 141) C dX11_gives_141 zy_X11_spot kw_717 kw_718 (ct_X11_spot l Ω _ _ _ _) rfl rfl ⟨⟨by decide, by decide⟩, by decide, by decide⟩ (Nat.le_of_ble_eq_true rfl) ?_; dsimp only [Option.toList_some, List.cons_append, List.nil_append]
        refine z_iald (pc := 144) (N := 80) C dX11_gives_144 rfl (by omega) (by decide) rfl ?_
        refine z_iast (pc := 145) (N := 160) C dX11_gives_145 rfl (by omega) (by decide) (hp_m 18 (by decide) hn (by decide)) ?_
        first | refine z_iincN (pc := 146) C dX11_gives_146 rfl (by rw [hE]; decide) ?_ | refine z_iinc (pc := 146) C dX11_gives_146 rfl rfl (by rw [hE]; decide) ?_
        refine z_goto (pc := 149) (tgt := 118) C dX11_gives_149 (by decide) ?_
        -- at 118
        exact ih (c + 1) (by omega)
    refine z_iconst (pc := 116) (v := nI 0) C dX11_gives_116 (by decide) ?_
    refine z_istore_n (pc := 117) C dX11_gives_117 (by rw [hE]; decide) ?_
    -- at 118: iload_2 
    exact loop 8 0 rfl
  · rw [q]
    refine z_tabInN (pc := 6) (a := 2) (tgt := 153) C dX11_gives_6 (by decide) (by decide) rfl (by decide) (by decide) ?_
    have loop : ∀ (j c : Nat), c + j = 8 → ZV l Ω E 0 0 155 [(0, rfO Ω 6), (1, .int (nI u)), (2, .int (nI c))] [] (hp Ω (itF (fun c τ => mMill τ u (c / 2) (c % 2)) c σ)) (hN σ) := by
      intro j
      induction j with
      | zero =>
        intro c hc
        obtain rfl : c = 8 := by omega
        refine z_iload_n (pc := 155) C dX11_gives_155 rfl ?_
        refine z_bipush (pc := 156) (v := nI 8) C dX11_gives_156 (by decide) ?_
        -- at 158: if_icmpge 
        refine z_icmp_geT (pc := 158) (tgt := 178) C dX11_gives_158 (by decide) (by omega) (by omega) (by omega) ?_
        exact z_vret (pc := 178) C hQ dX11_gives_178 rfl (by simp only [mGive, q]) rfl (by decide) (by decide)
      | succ j ih =>
        intro c hc
        have hτ : (itF (fun c τ => mMill τ u (c / 2) (c % 2)) c σ).2.2 = σ.2.2 := itF_n (f := fun c τ => mMill τ u (c / 2) (c % 2)) (fun c τ => mMill_n τ u (c / 2) (c % 2)) σ c
        have hn : (itF (fun c τ => mMill τ u (c / 2) (c % 2)) c σ).2.2.2 ≤ 10 := by rw [hτ]; exact hn0
        refine z_iload_n (pc := 155) C dX11_gives_155 rfl ?_
        refine z_bipush (pc := 156) (v := nI 8) C dX11_gives_156 (by decide) ?_
        -- at 158: if_icmpge 
        refine z_icmp_geF (pc := 158) (tgt := 178) C dX11_gives_158 (by decide) (by omega) (by omega) (by omega) ?_
        first | refine z_aload_n (pc := 161) C dX11_gives_161 rfl ?_ | refine z_aload_nN (pc := 161) C dX11_gives_161 rfl ?_
        refine z_iload_n (pc := 162) C dX11_gives_162 rfl ?_
        refine z_iload_n (pc := 163) C dX11_gives_163 rfl ?_
        refine z_iconst (pc := 164) (v := nI 2) C dX11_gives_164 (by decide) ?_
        first | with_reducible refine z_idivN (pc := 165) C dX11_gives_165 (by omega) (by decide) (by decide) ?_ | refine z_idiv (pc := 165) C dX11_gives_165 (by decide) ?_
        refine z_iload_n (pc := 166) C dX11_gives_166 rfl ?_
        refine z_iconst (pc := 167) (v := nI 2) C dX11_gives_167 (by decide) ?_
        first | with_reducible refine z_iremN (pc := 168) C dX11_gives_168 (by omega) (by decide) (by decide) ?_ | refine z_irem (pc := 168) C dX11_gives_168 (by decide) ?_
        refine z_callV (pc := 169) (ci := 10) C dX11_gives_169 zy_X11_mills kw_742 kw_743 rfl kw_848 rfl (zM_n (hN_eq hτ) (ct_X11_mills l Ω (itF (fun c τ => mMill τ u (c / 2) (c % 2)) c σ) u (c / 2) (c % 2) hn hu10 (by omega) (by omega))) rfl rfl ⟨⟨by decide, by decide⟩, by decide, by decide⟩ (Nat.le_of_ble_eq_true rfl) ?_; dsimp only [Option.toList_none, List.nil_append]
        first | refine z_iincN (pc := 172) C dX11_gives_172 rfl (by rw [hE]; decide) ?_ | refine z_iinc (pc := 172) C dX11_gives_172 rfl rfl (by rw [hE]; decide) ?_
        refine z_goto (pc := 175) (tgt := 155) C dX11_gives_175 (by decide) ?_
        -- at 155
        exact ih (c + 1) (by omega)
    refine z_iconst (pc := 153) (v := nI 0) C dX11_gives_153 (by decide) ?_
    refine z_istore_n (pc := 154) C dX11_gives_154 (by rw [hE]; decide) ?_
    -- at 155: iload_2 
    exact loop 8 0 rfl
  all_goals try (rw [q])
  · refine z_tabInN (pc := 6) (a := 3) (tgt := 179) C dX11_gives_6 (by decide) (by decide) rfl (by decide) (by decide) ?_
    have loop : ∀ (j c : Nat), c + j = 8 → ZV l Ω E 0 0 181 [(0, rfO Ω 6), (1, .int (nI u)), (2, .int (nI c))] [] (hp Ω (itF (fun c τ => mPart τ u c) c σ)) (hN σ) := by
      intro j
      induction j with
      | zero =>
        intro c hc
        obtain rfl : c = 8 := by omega
        refine z_iload_n (pc := 181) C dX11_gives_181 rfl ?_
        refine z_bipush (pc := 182) (v := nI 8) C dX11_gives_182 (by decide) ?_
        -- at 184: if_icmpge 
        refine z_icmp_geT (pc := 184) (tgt := 199) C dX11_gives_184 (by decide) (by omega) (by omega) (by omega) ?_
        exact z_vret (pc := 199) C hQ dX11_gives_199 rfl (by simp only [mGive, q]) rfl (by decide) (by decide)
      | succ j ih =>
        intro c hc
        have hτ : (itF (fun c τ => mPart τ u c) c σ).2.2 = σ.2.2 := itF_n (f := fun c τ => mPart τ u c) (fun _ _ => rfl) σ c
        have r0 : (itF (fun c τ => mPart τ u c) c σ).1 11 0 = σ.1 11 0 := itF_row (f := fun c τ => mPart τ u c) (fun τ => τ.1 11 0) (fun c τ => by funext j; simp [mPart, sI]) σ c
        have hn : (itF (fun c τ => mPart τ u c) c σ).2.2.2 ≤ 10 := by rw [hτ]; exact hn0
        refine z_iload_n (pc := 181) C dX11_gives_181 rfl ?_
        refine z_bipush (pc := 182) (v := nI 8) C dX11_gives_182 (by decide) ?_
        -- at 184: if_icmpge 
        refine z_icmp_geF (pc := 184) (tgt := 199) C dX11_gives_184 (by decide) (by omega) (by omega) (by omega) ?_
        first | refine z_aload_n (pc := 187) C dX11_gives_187 rfl ?_ | refine z_aload_nN (pc := 187) C dX11_gives_187 rfl ?_
        refine z_iload_n (pc := 188) C dX11_gives_188 rfl ?_
        refine z_iload_n (pc := 189) C dX11_gives_189 rfl ?_
        refine z_callV (pc := 190) (ci := 10) C dX11_gives_190 zy_X11_parts kw_746 kw_747 rfl kw_849 rfl (zM_n (hN_eq hτ) (ct_X11_parts l Ω (itF (fun c τ => mPart τ u c) c σ) u c hn hu10 (by omega) (by rw [r0, hτ]; exact e1) (by rw [hτ]; exact e2))) rfl rfl ⟨⟨by decide, by decide⟩, by decide, by decide⟩ (Nat.le_of_ble_eq_true rfl) ?_; dsimp only [Option.toList_none, List.nil_append]
        first | refine z_iincN (pc := 193) C dX11_gives_193 rfl (by rw [hE]; decide) ?_ | refine z_iinc (pc := 193) C dX11_gives_193 rfl rfl (by rw [hE]; decide) ?_
        refine z_goto (pc := 196) (tgt := 181) C dX11_gives_196 (by decide) ?_
        -- at 181
        exact ih (c + 1) (by omega)
    refine z_iconst (pc := 179) (v := nI 0) C dX11_gives_179 (by decide) ?_
    refine z_istore_n (pc := 180) C dX11_gives_180 (by rw [hE]; decide) ?_
    -- at 181: iload_2 
    exact loop 8 0 rfl
  · refine z_tabInN (pc := 6) (a := 4) (tgt := 179) C dX11_gives_6 (by decide) (by decide) rfl (by decide) (by decide) ?_
    have loop : ∀ (j c : Nat), c + j = 8 → ZV l Ω E 0 0 181 [(0, rfO Ω 6), (1, .int (nI u)), (2, .int (nI c))] [] (hp Ω (itF (fun c τ => mPart τ u c) c σ)) (hN σ) := by
      intro j
      induction j with
      | zero =>
        intro c hc
        obtain rfl : c = 8 := by omega
        refine z_iload_n (pc := 181) C dX11_gives_181 rfl ?_
        refine z_bipush (pc := 182) (v := nI 8) C dX11_gives_182 (by decide) ?_
        -- at 184: if_icmpge 
        refine z_icmp_geT (pc := 184) (tgt := 199) C dX11_gives_184 (by decide) (by omega) (by omega) (by omega) ?_
        exact z_vret (pc := 199) C hQ dX11_gives_199 rfl (by simp only [mGive, q]) rfl (by decide) (by decide)
      | succ j ih =>
        intro c hc
        have hτ : (itF (fun c τ => mPart τ u c) c σ).2.2 = σ.2.2 := itF_n (f := fun c τ => mPart τ u c) (fun _ _ => rfl) σ c
        have r0 : (itF (fun c τ => mPart τ u c) c σ).1 11 0 = σ.1 11 0 := itF_row (f := fun c τ => mPart τ u c) (fun τ => τ.1 11 0) (fun c τ => by funext j; simp [mPart, sI]) σ c
        have hn : (itF (fun c τ => mPart τ u c) c σ).2.2.2 ≤ 10 := by rw [hτ]; exact hn0
        refine z_iload_n (pc := 181) C dX11_gives_181 rfl ?_
        refine z_bipush (pc := 182) (v := nI 8) C dX11_gives_182 (by decide) ?_
        -- at 184: if_icmpge 
        refine z_icmp_geF (pc := 184) (tgt := 199) C dX11_gives_184 (by decide) (by omega) (by omega) (by omega) ?_
        first | refine z_aload_n (pc := 187) C dX11_gives_187 rfl ?_ | refine z_aload_nN (pc := 187) C dX11_gives_187 rfl ?_
        refine z_iload_n (pc := 188) C dX11_gives_188 rfl ?_
        refine z_iload_n (pc := 189) C dX11_gives_189 rfl ?_
        refine z_callV (pc := 190) (ci := 10) C dX11_gives_190 zy_X11_parts kw_746 kw_747 rfl kw_849 rfl (zM_n (hN_eq hτ) (ct_X11_parts l Ω (itF (fun c τ => mPart τ u c) c σ) u c hn hu10 (by omega) (by rw [r0, hτ]; exact e1) (by rw [hτ]; exact e2))) rfl rfl ⟨⟨by decide, by decide⟩, by decide, by decide⟩ (Nat.le_of_ble_eq_true rfl) ?_; dsimp only [Option.toList_none, List.nil_append]
        first | refine z_iincN (pc := 193) C dX11_gives_193 rfl (by rw [hE]; decide) ?_ | refine z_iinc (pc := 193) C dX11_gives_193 rfl rfl (by rw [hE]; decide) ?_
        refine z_goto (pc := 196) (tgt := 181) C dX11_gives_196 (by decide) ?_
        -- at 181
        exact ih (c + 1) (by omega)
    refine z_iconst (pc := 179) (v := nI 0) C dX11_gives_179 (by decide) ?_
    refine z_istore_n (pc := 180) C dX11_gives_180 (by rw [hE]; decide) ?_
    -- at 181: iload_2 
    exact loop 8 0 rfl
  · refine z_tabInN (pc := 6) (a := 5) (tgt := 200) C dX11_gives_6 (by decide) (by decide) rfl (by decide) (by decide) ?_
    first | refine z_aload_n (pc := 200) C dX11_gives_200 rfl ?_ | refine z_aload_nN (pc := 200) C dX11_gives_200 rfl ?_
    refine z_iload_n (pc := 201) C dX11_gives_201 rfl ?_
    refine z_callV (pc := 202) (ci := 10) C dX11_gives_202 zy_X11_tanks kw_749 kw_750 rfl kw_850 rfl (ct_X11_tanks l Ω σ u K hn hu10 hK eK) rfl rfl ⟨⟨by decide, by decide⟩, by decide, by decide⟩ (Nat.le_of_ble_eq_true rfl) ?_; dsimp only [Option.toList_none, List.nil_append]
    -- at 205: return 
    exact z_vret (pc := 205) C hQ dX11_gives_205 rfl (by simp only [mGive, q]; rw [eK, tn_nI (by omega)]) rfl (by decide) (by decide)
  · refine z_tabInN (pc := 6) (a := 6) (tgt := 206) C dX11_gives_6 (by decide) (by decide) rfl (by decide) (by decide) ?_
    first | refine z_aload_n (pc := 206) C dX11_gives_206 rfl ?_ | refine z_aload_nN (pc := 206) C dX11_gives_206 rfl ?_
    refine z_iload_n (pc := 207) C dX11_gives_207 rfl ?_
    refine z_callV (pc := 208) (ci := 10) C dX11_gives_208 zy_X11_piles kw_755 kw_756 rfl kw_852 rfl (ct_X11_piles l Ω σ u L hn hu10 hL eL) rfl rfl ⟨⟨by decide, by decide⟩, by decide, by decide⟩ (Nat.le_of_ble_eq_true rfl) ?_; dsimp only [Option.toList_none, List.nil_append]
    -- at 211: return 
    exact z_vret (pc := 211) C hQ dX11_gives_211 rfl (by simp only [mGive, q]; rw [eL, tn_nI (by omega)]) rfl (by decide) (by decide)
  · refine z_tabOutN (pc := 6) (tgt := 212) C dX11_gives_6 (by decide) (by decide) (by decide) ?_
    exact z_vret (pc := 212) C hQ dX11_gives_212 rfl (by simp only [mGive, q]) rfl (by decide) (by decide)
