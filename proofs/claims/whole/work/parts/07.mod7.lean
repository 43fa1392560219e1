/-! ===== the reference: tanks ===== -/
set_option maxHeartbeats 4000000 in
set_option maxRecDepth 100000 in
theorem ct_X11_tanks (l : Launch) (Ω : OmT) (σ : Sg) (u K : Nat) (hn : σ.2.2.2 ≤ 10) (hu : u < 10) (hK : K ≤ 6) (eK : σ.1 11 13 u = nI K) : ZM l Ω yX11_tanks cX11_tanks 9 none rm_X11_tanks [rfO Ω 6, .int (nI u)] (hp Ω σ) (hN σ) (none) (hp Ω (mTank σ u K)) (hN σ) := by
  refine ZM_of (by decide) (Nat.le_of_ble_eq_true rfl) (fun E hE C hQ => ?_)
  have hn0 := hn
  have inA : ∀ (ρ : Sg) (m i : Nat) (old : Int32), ρ.2.2.2 ≤ 10 → i < 7 → (ZV l Ω E 0 0 188 [(0, rfO Ω 6), (1, .int (nI u)), (2, .int (nI K)), (3, .int (nI m)), (4, .int (nI i)), (5, .int old), (6, .int (nI 1)), (7, .int (nI 8))] [] (hp Ω (itF (tkOut u i) 8 ρ)) (hN σ)) → ∀ (j c : Nat), c + j = 8 → ZV l Ω E 0 0 118 [(0, rfO Ω 6), (1, .int (nI u)), (2, .int (nI K)), (3, .int (nI m)), (4, .int (nI i)), (5, .int old), (6, .int (nI 1)), (7, .int (nI c))] [] (hp Ω (itF (tkOut u i) c ρ)) (hN σ) := by
    intro ρ m i old hρ hi cont j
    induction j with
    | zero =>
      intro c hc
      obtain rfl : c = 8 := by omega
      refine z_iload (pc := 118) C dX11_tanks_118 rfl ?_
      refine z_bipush (pc := 120) (v := nI 8) C dX11_tanks_120 (by decide) ?_
      -- at 122: if_icmpge 
      refine z_icmp_geT (pc := 122) (tgt := 188) C dX11_tanks_122 (by decide) (by omega) (by omega) (by omega) ?_
      exact cont
    | succ j ih =>
      intro c hc
      have hn : (itF (tkOut u i) c ρ).2.2.2 ≤ 10 := by rw [itF_n (f := tkOut u i) (fun _ _ => rfl)]; exact hρ
      refine z_iload (pc := 118) C dX11_tanks_118 rfl ?_
      refine z_bipush (pc := 120) (v := nI 8) C dX11_tanks_120 (by decide) ?_
      -- at 122: if_icmpge 
      refine z_icmp_geF (pc := 122) (tgt := 188) C dX11_tanks_122 (by decide) (by omega) (by omega) (by omega) ?_
      first | refine z_aload_n (pc := 125) C dX11_tanks_125 rfl ?_ | refine z_aload_nN (pc := 125) C dX11_tanks_125 rfl ?_
      refine z_getf (pc := 126) C dX11_tanks_126 zf_X11_53_10 rfl rfl ?_
      first | refine z_aload_n (pc := 129) C dX11_tanks_129 rfl ?_ | refine z_aload_nN (pc := 129) C dX11_tanks_129 rfl ?_
      refine z_iload_n (pc := 130) C dX11_tanks_130 rfl ?_
      refine z_iload (pc := 131) C dX11_tanks_131 rfl ?_
      refine z_iload (pc := 133) C dX11_tanks_133 rfl ?_
      refine z_callV (pc := 135) (ci := 10) C dX11_tanks_135 zy_X11_slotAt kw_752 kw_753 rfl kw_851 rfl (ct_X11_slotAt l Ω _ _ _ _ _) rfl rfl ⟨⟨by decide, by decide⟩, by decide, by decide⟩ (Nat.le_of_ble_eq_true rfl) ?_; dsimp only [Option.toList_some, List.cons_append, List.nil_append]
      refine z_iald (pc := 138) (N := 560) C dX11_tanks_138 rfl (by omega) (by decide) rfl ?_
      refine z_istore (pc := 139) C dX11_tanks_139 (by rw [hE]; decide) ?_
      refine z_iload (pc := 141) C dX11_tanks_141 rfl ?_
      -- at 143: ifeq 
      refine z_if_eqF (pc := 143) (tgt := 167) C dX11_tanks_143 (by decide) (by omega) (by omega) ?_
      first | refine z_aload_n (pc := 146) C dX11_tanks_146 rfl ?_ | refine z_aload_nN (pc := 146) C dX11_tanks_146 rfl ?_
      refine z_getf (pc := 147) C dX11_tanks_147 zf_X11_65_10 rfl rfl ?_
      first | refine z_aload_n (pc := 150) C dX11_tanks_150 rfl ?_ | refine z_aload_nN (pc := 150) C dX11_tanks_150 rfl ?_
      refine z_iload_n (pc := 151) C dX11_tanks_151 rfl ?_
      refine z_iconst (pc := 152) (v := nI 0) C dX11_tanks_152 (by decide) ?_
      refine z_iload (pc := 153) C dX11_tanks_153 rfl ?_
      refine z_callV (pc := 155) (ci := 10) C dX11_tanks_155 zy_X11_outAt kw_739 kw_740 rfl kw_847 rfl (ct_X11_outAt l Ω _ _ _ _ _) rfl rfl ⟨⟨by decide, by decide⟩, by decide, by decide⟩ (Nat.le_of_ble_eq_true rfl) ?_; dsimp only [Option.toList_some, List.cons_append, List.nil_append]
      refine z_dup2 (pc := 158) C dX11_tanks_158 rfl rfl ?_
      refine z_iald (pc := 159) (N := 160) C dX11_tanks_159 rfl (by omega) (by decide) rfl ?_
      refine z_iload (pc := 160) C dX11_tanks_160 rfl ?_
      first | with_reducible refine z_iaddN (pc := 162) C dX11_tanks_162 ?_ | refine z_iadd (pc := 162) C dX11_tanks_162 ?_
      refine z_iast (pc := 163) (N := 160) C dX11_tanks_163 rfl (by omega) (by decide) (hp_m 18 (by decide) hn (by decide)) ?_
      refine z_goto (pc := 164) (tgt := 182) C dX11_tanks_164 (by decide) ?_
      first | refine z_iincN (pc := 182) C dX11_tanks_182 rfl (by rw [hE]; decide) ?_ | refine z_iinc (pc := 182) C dX11_tanks_182 rfl rfl (by rw [hE]; decide) ?_
      refine z_goto (pc := 185) (tgt := 118) C dX11_tanks_185 (by decide) ?_
      -- at 118
      refine z_pick [0, 1, 2, 3, 4, 5, 6, 7] rfl ?_
      exact ih (c + 1) (by omega)
  have inB : ∀ (ρ : Sg) (m i : Nat) (old : Int32), ρ.2.2.2 ≤ 10 → i < 7 → m < 7 → (ZV l Ω E 0 0 188 [(0, rfO Ω 6), (1, .int (nI u)), (2, .int (nI K)), (3, .int (nI m)), (4, .int (nI i)), (5, .int old), (6, .int (nI 0)), (7, .int (nI 8))] [] (hp Ω (itF (tkMv u i m) 8 ρ)) (hN σ)) → ∀ (j c : Nat), c + j = 8 → ZV l Ω E 0 0 118 [(0, rfO Ω 6), (1, .int (nI u)), (2, .int (nI K)), (3, .int (nI m)), (4, .int (nI i)), (5, .int old), (6, .int (nI 0)), (7, .int (nI c))] [] (hp Ω (itF (tkMv u i m) c ρ)) (hN σ) := by
    intro ρ m i old hρ hi hm cont j
    induction j with
    | zero =>
      intro c hc
      obtain rfl : c = 8 := by omega
      refine z_iload (pc := 118) C dX11_tanks_118 rfl ?_
      refine z_bipush (pc := 120) (v := nI 8) C dX11_tanks_120 (by decide) ?_
      -- at 122: if_icmpge 
      refine z_icmp_geT (pc := 122) (tgt := 188) C dX11_tanks_122 (by decide) (by omega) (by omega) (by omega) ?_
      exact cont
    | succ j ih =>
      intro c hc
      have hn : (itF (tkMv u i m) c ρ).2.2.2 ≤ 10 := by rw [itF_n (f := tkMv u i m) (fun _ _ => rfl)]; exact hρ
      refine z_iload (pc := 118) C dX11_tanks_118 rfl ?_
      refine z_bipush (pc := 120) (v := nI 8) C dX11_tanks_120 (by decide) ?_
      -- at 122: if_icmpge 
      refine z_icmp_geF (pc := 122) (tgt := 188) C dX11_tanks_122 (by decide) (by omega) (by omega) (by omega) ?_
      first | refine z_aload_n (pc := 125) C dX11_tanks_125 rfl ?_ | refine z_aload_nN (pc := 125) C dX11_tanks_125 rfl ?_
      refine z_getf (pc := 126) C dX11_tanks_126 zf_X11_53_10 rfl rfl ?_
      first | refine z_aload_n (pc := 129) C dX11_tanks_129 rfl ?_ | refine z_aload_nN (pc := 129) C dX11_tanks_129 rfl ?_
      refine z_iload_n (pc := 130) C dX11_tanks_130 rfl ?_
      refine z_iload (pc := 131) C dX11_tanks_131 rfl ?_
      refine z_iload (pc := 133) C dX11_tanks_133 rfl ?_
      refine z_callV (pc := 135) (ci := 10) C dX11_tanks_135 zy_X11_slotAt kw_752 kw_753 rfl kw_851 rfl (ct_X11_slotAt l Ω _ _ _ _ _) rfl rfl ⟨⟨by decide, by decide⟩, by decide, by decide⟩ (Nat.le_of_ble_eq_true rfl) ?_; dsimp only [Option.toList_some, List.cons_append, List.nil_append]
      refine z_iald (pc := 138) (N := 560) C dX11_tanks_138 rfl (by omega) (by decide) rfl ?_
      refine z_istore (pc := 139) C dX11_tanks_139 (by rw [hE]; decide) ?_
      refine z_iload (pc := 141) C dX11_tanks_141 rfl ?_
      -- at 143: ifeq 
      refine z_if_eqT (pc := 143) (tgt := 167) C dX11_tanks_143 (by decide) (by omega) ?_
      first | refine z_aload_n (pc := 167) C dX11_tanks_167 rfl ?_ | refine z_aload_nN (pc := 167) C dX11_tanks_167 rfl ?_
      refine z_getf (pc := 168) C dX11_tanks_168 zf_X11_53_10 rfl rfl ?_
      first | refine z_aload_n (pc := 171) C dX11_tanks_171 rfl ?_ | refine z_aload_nN (pc := 171) C dX11_tanks_171 rfl ?_
      refine z_iload_n (pc := 172) C dX11_tanks_172 rfl ?_
      refine z_iload_n (pc := 173) C dX11_tanks_173 rfl ?_
      refine z_iload (pc := 174) C dX11_tanks_174 rfl ?_
      refine z_callV (pc := 176) (ci := 10) C dX11_tanks_176 zy_X11_slotAt kw_752 kw_753 rfl kw_851 rfl (ct_X11_slotAt l Ω _ _ _ _ _) rfl rfl ⟨⟨by decide, by decide⟩, by decide, by decide⟩ (Nat.le_of_ble_eq_true rfl) ?_; dsimp only [Option.toList_some, List.cons_append, List.nil_append]
      refine z_iload (pc := 179) C dX11_tanks_179 rfl ?_
      refine z_iast (pc := 181) (N := 560) C dX11_tanks_181 rfl (by omega) (by decide) (hp_m 14 (by decide) hn (by decide)) ?_
      first | refine z_iincN (pc := 182) C dX11_tanks_182 rfl (by rw [hE]; decide) ?_ | refine z_iinc (pc := 182) C dX11_tanks_182 rfl rfl (by rw [hE]; decide) ?_
      refine z_goto (pc := 185) (tgt := 118) C dX11_tanks_185 (by decide) ?_
      -- at 118
      refine z_pick [0, 1, 2, 3, 4, 5, 6, 7] rfl ?_
      exact ih (c + 1) (by omega)
  have hB : (tkB σ u K).2.2.2 ≤ 10 := by
    show (itF (tkA u K) 8 σ).2.2.2 ≤ 10
    rw [itF_n (f := tkA u K) (fun _ _ => rfl)]
    exact hn0
  have outer : ∀ (j i : Nat), i + j = K + 1 → ZV l Ω E 0 0 70 [(0, rfO Ω 6), (1, .int (nI u)), (2, .int (nI K)), (3, .int (nI (tkL u i (tkB σ u K)).2)), (4, .int (nI i))] [] (hp Ω (tkL u i (tkB σ u K)).1) (hN σ) := by
    intro j
    induction j with
    | zero =>
      intro i hi
      obtain rfl : i = K + 1 := by omega
      have hle := tkL_le u (tkB σ u K) (K + 1)
      have hn : (tkL u (K + 1) (tkB σ u K)).1.2.2.2 ≤ 10 := by rw [tkL_n]; exact hB
      have e13 : (tkL u (K + 1) (tkB σ u K)).1.1 11 13 u = nI (K + 1) := by rw [tkL_13]; simp [tkB, sI]
      refine z_iload (pc := 70) C dX11_tanks_70 rfl ?_
      first | refine z_aload_n (pc := 72) C dX11_tanks_72 rfl ?_ | refine z_aload_nN (pc := 72) C dX11_tanks_72 rfl ?_
      refine z_getf (pc := 73) C dX11_tanks_73 zf_X11_50_10 rfl rfl ?_
      refine z_iload_n (pc := 76) C dX11_tanks_76 rfl ?_
      refine z_iald (pc := 77) (N := 10) C dX11_tanks_77 rfl (by omega) (by decide) rfl ?_; rw [e13]
      -- at 78: if_icmpge 
      refine z_icmp_geT (pc := 78) (tgt := 218) C dX11_tanks_78 (by decide) (by omega) (by omega) (by omega) ?_
      first | refine z_aload_n (pc := 218) C dX11_tanks_218 rfl ?_ | refine z_aload_nN (pc := 218) C dX11_tanks_218 rfl ?_
      refine z_getf (pc := 219) C dX11_tanks_219 zf_X11_50_10 rfl rfl ?_
      refine z_iload_n (pc := 222) C dX11_tanks_222 rfl ?_
      refine z_iload_n (pc := 223) C dX11_tanks_223 rfl ?_
      refine z_iast (pc := 224) (N := 10) C dX11_tanks_224 rfl (by omega) (by decide) (hp_m 13 (by decide) hn (by decide)) ?_
      -- at 225: return 
      exact z_vret (pc := 225) C hQ dX11_tanks_225 rfl rfl rfl (by decide) (by decide)
    | succ j ih =>
      intro i hi
      have hle := tkL_le u (tkB σ u K) i
      have hn : (tkL u i (tkB σ u K)).1.2.2.2 ≤ 10 := by rw [tkL_n]; exact hB
      have e13 : (tkL u i (tkB σ u K)).1.1 11 13 u = nI (K + 1) := by rw [tkL_13]; simp [tkB, sI]
      have h9 := ih (i + 1) (by omega)
      refine z_iload (pc := 70) C dX11_tanks_70 rfl ?_
      first | refine z_aload_n (pc := 72) C dX11_tanks_72 rfl ?_ | refine z_aload_nN (pc := 72) C dX11_tanks_72 rfl ?_
      refine z_getf (pc := 73) C dX11_tanks_73 zf_X11_50_10 rfl rfl ?_
      refine z_iload_n (pc := 76) C dX11_tanks_76 rfl ?_
      refine z_iald (pc := 77) (N := 10) C dX11_tanks_77 rfl (by omega) (by decide) rfl ?_; rw [e13]
      -- at 78: if_icmpge 
      refine z_icmp_geF (pc := 78) (tgt := 218) C dX11_tanks_78 (by decide) (by omega) (by omega) (by omega) ?_
      first | refine z_aload_n (pc := 81) C dX11_tanks_81 rfl ?_ | refine z_aload_nN (pc := 81) C dX11_tanks_81 rfl ?_
      refine z_getf (pc := 82) C dX11_tanks_82 zf_X11_56_10 rfl rfl ?_
      refine z_bipush (pc := 85) (v := nI 7) C dX11_tanks_85 (by decide) ?_
      refine z_iload_n (pc := 87) C dX11_tanks_87 rfl ?_
      first | with_reducible refine z_imulN (pc := 88) C dX11_tanks_88 ?_ | refine z_imul (pc := 88) C dX11_tanks_88 ?_
      refine z_iload (pc := 89) C dX11_tanks_89 rfl ?_
      first | with_reducible refine z_iaddN (pc := 91) C dX11_tanks_91 ?_ | refine z_iadd (pc := 91) C dX11_tanks_91 ?_
      refine z_iald (pc := 92) (N := 70) C dX11_tanks_92 rfl (by omega) (by decide) rfl ?_
      refine z_iconst (pc := 93) (v := nI 1) C dX11_tanks_93 (by decide) ?_
      first | with_reducible refine z_iaddN (pc := 94) C dX11_tanks_94 ?_ | refine z_iadd (pc := 94) C dX11_tanks_94 ?_
      refine z_istore (pc := 95) C dX11_tanks_95 (by rw [hE]; decide) ?_
      refine z_iload (pc := 97) C dX11_tanks_97 rfl ?_
      first | refine z_aload_n (pc := 99) C dX11_tanks_99 rfl ?_ | refine z_aload_nN (pc := 99) C dX11_tanks_99 rfl ?_
      refine z_getf (pc := 100) C dX11_tanks_100 zf_X11_31_10 rfl rfl ?_
      refine z_iload_n (pc := 103) C dX11_tanks_103 rfl ?_
      refine z_iald (pc := 104) (N := 10) C dX11_tanks_104 rfl (by omega) (by decide) rfl ?_
      -- at 105: if_icmplt 
      refine z_icmp_lt (pc := 105) (tgt := 112) C dX11_tanks_105 (by decide) (fun h => ?_) (fun h => ?_)
      · rw [show tkL u (i + 1) (tkB σ u K) = tkS u i (tkL u i (tkB σ u K)) from rfl] at h9
        unfold tkS at h9
        rw [if_pos h] at h9
        refine z_iconst (pc := 112) (v := nI 0) C dX11_tanks_112 (by decide) ?_
        refine z_istore (pc := 113) C dX11_tanks_113 (by rw [hE]; decide) ?_
        refine z_iconst (pc := 115) (v := nI 0) C dX11_tanks_115 (by decide) ?_
        refine z_istore (pc := 116) C dX11_tanks_116 (by rw [hE]; decide) ?_
        -- at 118: iload 
        refine inB (tkL u i (tkB σ u K)).1 (tkL u i (tkB σ u K)).2 i _ hn (by omega) (by omega) ?_ 8 0 rfl
        have hn : (itF (tkMv u i (tkL u i (tkB σ u K)).2) 8 (tkL u i (tkB σ u K)).1).2.2.2 ≤ 10 := by rw [itF_n (f := tkMv u i (tkL u i (tkB σ u K)).2) (fun _ _ => rfl)]; exact hn
        refine z_iload (pc := 188) C dX11_tanks_188 rfl ?_
        -- at 190: ifeq 
        refine z_if_eqT (pc := 190) (tgt := 196) C dX11_tanks_190 (by decide) (by omega) ?_
        first | refine z_aload_n (pc := 196) C dX11_tanks_196 rfl ?_ | refine z_aload_nN (pc := 196) C dX11_tanks_196 rfl ?_
        refine z_getf (pc := 197) C dX11_tanks_197 zf_X11_56_10 rfl rfl ?_
        refine z_bipush (pc := 200) (v := nI 7) C dX11_tanks_200 (by decide) ?_
        refine z_iload_n (pc := 202) C dX11_tanks_202 rfl ?_
        first | with_reducible refine z_imulN (pc := 203) C dX11_tanks_203 ?_ | refine z_imul (pc := 203) C dX11_tanks_203 ?_
        refine z_iload_n (pc := 204) C dX11_tanks_204 rfl ?_
        first | with_reducible refine z_iaddN (pc := 205) C dX11_tanks_205 ?_ | refine z_iadd (pc := 205) C dX11_tanks_205 ?_
        refine z_iload (pc := 206) C dX11_tanks_206 rfl ?_
        refine z_iast (pc := 208) (N := 70) C dX11_tanks_208 rfl (by omega) (by decide) (hp_m 15 (by decide) hn (by decide)) ?_
        first | refine z_iincN (pc := 209) C dX11_tanks_209 rfl (by rw [hE]; decide) ?_ | refine z_iinc (pc := 209) C dX11_tanks_209 rfl rfl (by rw [hE]; decide) ?_
        first | refine z_iincN (pc := 212) C dX11_tanks_212 rfl (by rw [hE]; decide) ?_ | refine z_iinc (pc := 212) C dX11_tanks_212 rfl rfl (by rw [hE]; decide) ?_
        refine z_goto (pc := 215) (tgt := 70) C dX11_tanks_215 (by decide) ?_
        -- at 70
        refine z_pick [0, 1, 2, 3, 4] rfl ?_
        exact h9
      · rw [show tkL u (i + 1) (tkB σ u K) = tkS u i (tkL u i (tkB σ u K)) from rfl] at h9
        unfold tkS at h9
        rw [if_neg h] at h9
        refine z_iconst (pc := 108) (v := nI 1) C dX11_tanks_108 (by decide) ?_
        refine z_goto (pc := 109) (tgt := 113) C dX11_tanks_109 (by decide) ?_
        refine z_istore (pc := 113) C dX11_tanks_113 (by rw [hE]; decide) ?_
        refine z_iconst (pc := 115) (v := nI 0) C dX11_tanks_115 (by decide) ?_
        refine z_istore (pc := 116) C dX11_tanks_116 (by rw [hE]; decide) ?_
        -- at 118: iload 
        refine inA (tkL u i (tkB σ u K)).1 (tkL u i (tkB σ u K)).2 i _ hn (by omega) ?_ 8 0 rfl
        refine z_iload (pc := 188) C dX11_tanks_188 rfl ?_
        -- at 190: ifeq 
        refine z_if_eqF (pc := 190) (tgt := 196) C dX11_tanks_190 (by decide) (by omega) (by omega) ?_
        refine z_goto (pc := 193) (tgt := 212) C dX11_tanks_193 (by decide) ?_
        first | refine z_iincN (pc := 212) C dX11_tanks_212 rfl (by rw [hE]; decide) ?_ | refine z_iinc (pc := 212) C dX11_tanks_212 rfl rfl (by rw [hE]; decide) ?_
        refine z_goto (pc := 215) (tgt := 70) C dX11_tanks_215 (by decide) ?_
        -- at 70
        refine z_pick [0, 1, 2, 3, 4] rfl ?_
        exact h9
  have first : ∀ (j c : Nat), c + j = 8 → ZV l Ω E 0 0 9 [(0, rfO Ω 6), (1, .int (nI u)), (2, .int (nI K)), (3, .int (nI c))] [] (hp Ω (itF (tkA u K) c σ)) (hN σ) := by
    intro j
    induction j with
    | zero =>
      intro c hc
      obtain rfl : c = 8 := by omega
      have hn : (itF (tkA u K) 8 σ).2.2.2 ≤ 10 := by rw [itF_n (f := tkA u K) (fun _ _ => rfl)]; exact hn0
      have e13 : (sI (itF (tkA u K) 8 σ) 11 15 (7 * u + K) (nI 0)).1 11 13 u = nI K := by
        rw [← eK]
        have := congrFun (itF_row (f := tkA u K) (fun τ => τ.1 11 13) (fun c τ => by funext j; simp [tkA, sI]) σ 8) u
        simpa [sI] using this
      refine z_iload_n (pc := 9) C dX11_tanks_9 rfl ?_
      refine z_bipush (pc := 10) (v := nI 8) C dX11_tanks_10 (by decide) ?_
      -- at 12: if_icmpge 
      refine z_icmp_geT (pc := 12) (tgt := 43) C dX11_tanks_12 (by decide) (by omega) (by omega) (by omega) ?_
      first | refine z_aload_n (pc := 43) C dX11_tanks_43 rfl ?_ | refine z_aload_nN (pc := 43) C dX11_tanks_43 rfl ?_
      refine z_getf (pc := 44) C dX11_tanks_44 zf_X11_56_10 rfl rfl ?_
      refine z_bipush (pc := 47) (v := nI 7) C dX11_tanks_47 (by decide) ?_
      refine z_iload_n (pc := 49) C dX11_tanks_49 rfl ?_
      first | with_reducible refine z_imulN (pc := 50) C dX11_tanks_50 ?_ | refine z_imul (pc := 50) C dX11_tanks_50 ?_
      refine z_iload_n (pc := 51) C dX11_tanks_51 rfl ?_
      first | with_reducible refine z_iaddN (pc := 52) C dX11_tanks_52 ?_ | refine z_iadd (pc := 52) C dX11_tanks_52 ?_
      refine z_iconst (pc := 53) (v := nI 0) C dX11_tanks_53 (by decide) ?_
      refine z_iast (pc := 54) (N := 70) C dX11_tanks_54 rfl (by omega) (by decide) (hp_m 15 (by decide) hn (by decide)) ?_
      first | refine z_aload_n (pc := 55) C dX11_tanks_55 rfl ?_ | refine z_aload_nN (pc := 55) C dX11_tanks_55 rfl ?_
      refine z_getf (pc := 56) C dX11_tanks_56 zf_X11_50_10 rfl rfl ?_
      refine z_iload_n (pc := 59) C dX11_tanks_59 rfl ?_
      refine z_dup2 (pc := 60) C dX11_tanks_60 rfl rfl ?_
      refine z_iald (pc := 61) (N := 10) C dX11_tanks_61 rfl (by omega) (by decide) rfl ?_; rw [e13]
      refine z_iconst (pc := 62) (v := nI 1) C dX11_tanks_62 (by decide) ?_
      first | with_reducible refine z_iaddN (pc := 63) C dX11_tanks_63 ?_ | refine z_iadd (pc := 63) C dX11_tanks_63 ?_
      refine z_iast (pc := 64) (N := 10) C dX11_tanks_64 rfl (by omega) (by decide) (hp_m 13 (by decide) hn (by decide)) ?_
      refine z_iconst (pc := 65) (v := nI 0) C dX11_tanks_65 (by decide) ?_
      refine z_istore_n (pc := 66) C dX11_tanks_66 (by rw [hE]; decide) ?_
      refine z_iconst (pc := 67) (v := nI 0) C dX11_tanks_67 (by decide) ?_
      refine z_istore (pc := 68) C dX11_tanks_68 (by rw [hE]; decide) ?_
      -- at 70: iload 
      exact outer (K + 1) 0 (by omega)
    | succ j ih =>
      intro c hc
      have hn : (itF (tkA u K) c σ).2.2.2 ≤ 10 := by rw [itF_n (f := tkA u K) (fun _ _ => rfl)]; exact hn0
      refine z_iload_n (pc := 9) C dX11_tanks_9 rfl ?_
      refine z_bipush (pc := 10) (v := nI 8) C dX11_tanks_10 (by decide) ?_
      -- at 12: if_icmpge 
      refine z_icmp_geF (pc := 12) (tgt := 43) C dX11_tanks_12 (by decide) (by omega) (by omega) (by omega) ?_
      first | refine z_aload_n (pc := 15) C dX11_tanks_15 rfl ?_ | refine z_aload_nN (pc := 15) C dX11_tanks_15 rfl ?_
      refine z_getf (pc := 16) C dX11_tanks_16 zf_X11_53_10 rfl rfl ?_
      first | refine z_aload_n (pc := 19) C dX11_tanks_19 rfl ?_ | refine z_aload_nN (pc := 19) C dX11_tanks_19 rfl ?_
      refine z_iload_n (pc := 20) C dX11_tanks_20 rfl ?_
      refine z_iload_n (pc := 21) C dX11_tanks_21 rfl ?_
      refine z_iload_n (pc := 22) C dX11_tanks_22 rfl ?_
      refine z_callV (pc := 23) (ci := 10) C dX11_tanks_23 zy_X11_slotAt kw_752 kw_753 rfl kw_851 rfl (ct_X11_slotAt l Ω _ _ _ _ _) rfl rfl ⟨⟨by decide, by decide⟩, by decide, by decide⟩ (Nat.le_of_ble_eq_true rfl) ?_; dsimp only [Option.toList_some, List.cons_append, List.nil_append]
      first | refine z_aload_n (pc := 26) C dX11_tanks_26 rfl ?_ | refine z_aload_nN (pc := 26) C dX11_tanks_26 rfl ?_
      refine z_getf (pc := 27) C dX11_tanks_27 zf_X11_16_10 rfl rfl ?_
      refine z_iload_n (pc := 30) C dX11_tanks_30 rfl ?_
      refine z_iload_n (pc := 31) C dX11_tanks_31 rfl ?_
      refine z_callS (pc := 32) C dX11_tanks_32 zy_X11_spot kw_717 kw_718 (ct_X11_spot l Ω _ _ _ _) rfl rfl ⟨⟨by decide, by decide⟩, by decide, by decide⟩ (Nat.le_of_ble_eq_true rfl) ?_; dsimp only [Option.toList_some, List.cons_append, List.nil_append]
      refine z_iald (pc := 35) (N := 80) C dX11_tanks_35 rfl (by omega) (by decide) rfl ?_
      refine z_iast (pc := 36) (N := 560) C dX11_tanks_36 rfl (by omega) (by decide) (hp_m 14 (by decide) hn (by decide)) ?_
      first | refine z_iincN (pc := 37) C dX11_tanks_37 rfl (by rw [hE]; decide) ?_ | refine z_iinc (pc := 37) C dX11_tanks_37 rfl rfl (by rw [hE]; decide) ?_
      refine z_goto (pc := 40) (tgt := 9) C dX11_tanks_40 (by decide) ?_
      -- at 9
      exact ih (c + 1) (by omega)
  first | refine z_aload_n (pc := 0) C dX11_tanks_0 rfl ?_ | refine z_aload_nN (pc := 0) C dX11_tanks_0 rfl ?_
  refine z_getf (pc := 1) C dX11_tanks_1 zf_X11_50_10 rfl rfl ?_
  refine z_iload_n (pc := 4) C dX11_tanks_4 rfl ?_
  refine z_iald (pc := 5) (N := 10) C dX11_tanks_5 rfl (by omega) (by decide) rfl ?_; rw [eK]
  refine z_istore_n (pc := 6) C dX11_tanks_6 (by rw [hE]; decide) ?_
  refine z_iconst (pc := 7) (v := nI 0) C dX11_tanks_7 (by decide) ?_
  refine z_istore_n (pc := 8) C dX11_tanks_8 (by rw [hE]; decide) ?_
  -- at 9: iload_3 
  exact first 8 0 rfl
