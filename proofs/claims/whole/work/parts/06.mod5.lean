/-! ===== the reference: table, unit, within, sum ===== -/
set_option maxHeartbeats 4000000 in
set_option maxRecDepth 100000 in
theorem ct_X11_table_n (l : Launch) (Ω : OmT) (σ : Sg) (hw : MW σ) (u i a b c : Int32) (hu : ¬ isU σ.2.2.2 u) : ZM l Ω yX11_table cX11_table 8 (some .int) rm_X11_table [rfO Ω 6, .int u, .int i, .int a, .int b, .int c] (hp Ω σ) (hN σ) (some (.int (-1))) (hp Ω σ) (hN σ) := by
  refine ZM_of (by decide) (Nat.le_of_ble_eq_true rfl) (fun E hE C hQ => ?_)
  first | refine z_aload_n (pc := 0) C dX11_table_0 rfl ?_ | refine z_aload_nN (pc := 0) C dX11_table_0 rfl ?_
  refine z_iload_n (pc := 1) C dX11_table_1 rfl ?_
  refine z_callV (pc := 2) (ci := 10) C dX11_table_2 zy_X11_isUnit kw_692 kw_693 rfl kw_842 rfl (ct_X11_isUnit l Ω σ hw u) rfl rfl ⟨⟨by decide, by decide⟩, by decide, by decide⟩ (Nat.le_of_ble_eq_true rfl) ?_; dsimp only [Option.toList_some, List.cons_append, List.nil_append]
  -- at 5: ifeq 
  refine z_ifeqB (pc := 5) (tgt := 17) C dX11_table_5 (by decide) (fun h5 => ?_) (fun h5 => absurd h5 hu)
  refine z_iconst (pc := 17) (v := (-1)) C dX11_table_17 (by decide) ?_
  -- at 18: ireturn 
  exact z_iret (pc := 18) C hQ dX11_table_18 rfl rfl rfl (by decide) (by decide)
set_option maxHeartbeats 4000000 in
set_option maxRecDepth 100000 in
theorem ct_X11_table (l : Launch) (Ω : OmT) (σ : Sg) (hw : MW σ) (k : Nat) (hk : k < σ.2.2.2) (i a b c : Int32) : ZM l Ω yX11_table cX11_table 8 (some .int) rm_X11_table [rfO Ω 6, .int (nI k), .int i, .int a, .int b, .int c] (hp Ω σ) (hN σ) (some (.int (r_table σ k i a b c))) (hp Ω (s_table σ k i a b c)) (hN σ) := by
  refine ZM_of (by decide) (Nat.le_of_ble_eq_true rfl) (fun E hE C hQ => ?_)
  have hn := hw.1
  have h0 : isU σ.2.2.2 (nI k) := isU_nI (by omega) hk
  obtain ⟨e1, e2⟩ := hw.2.2 k hk
  have t2 : ∀ p : Nat, p ≤ 3 → i = nI p → r_table σ k i a b c = nI 0 → s_table σ k i a b c = s_tableN σ k p a b c → ∀ v : Int32, ZV l Ω E 0 0 119 [(0, rfO Ω 6), (1, .int (nI k)), (2, .int (nI p)), (3, .int a), (4, .int b), (5, .int c), (6, .int v)] [] (hp Ω σ) (hN σ) := by
    intro p hp1 ei er es v
    rcases (show p = 0 ∨ p = 1 ∨ p = 2 ∨ p = 3 by omega) with rfl | rfl | rfl | rfl
    · refine z_bipush (pc := 119) (v := nI 16) C dX11_table_119 (by decide) ?_
      refine z_iload_n (pc := 121) C dX11_table_121 rfl ?_
      first | with_reducible refine z_imulN (pc := 122) C dX11_table_122 ?_ | refine z_imul (pc := 122) C dX11_table_122 ?_
      refine z_iconst (pc := 123) (v := nI 4) C dX11_table_123 (by decide) ?_
      refine z_iload_n (pc := 124) C dX11_table_124 rfl ?_
      first | with_reducible refine z_imulN (pc := 125) C dX11_table_125 ?_ | refine z_imul (pc := 125) C dX11_table_125 ?_
      first | with_reducible refine z_iaddN (pc := 126) C dX11_table_126 ?_ | refine z_iadd (pc := 126) C dX11_table_126 ?_
      refine z_istore (pc := 127) C dX11_table_127 (by rw [hE]; decide) ?_
      first | refine z_aload_n (pc := 129) C dX11_table_129 rfl ?_ | refine z_aload_nN (pc := 129) C dX11_table_129 rfl ?_
      refine z_getf (pc := 130) C dX11_table_130 zf_X11_22_10 rfl rfl ?_
      refine z_iload (pc := 133) C dX11_table_133 rfl ?_
      refine z_iload_n (pc := 135) C dX11_table_135 rfl ?_
      first | with_reducible refine z_iaddN (pc := 136) C dX11_table_136 ?_ | refine z_iadd (pc := 136) C dX11_table_136 ?_
      refine z_bipush (pc := 137) (v := nI 10) C dX11_table_137 (by decide) ?_
      refine z_iload_n (pc := 139) C dX11_table_139 rfl ?_
      first | with_reducible refine z_isubN (pc := 140) C dX11_table_140 (by omega) ?_ | refine z_isub (pc := 140) C dX11_table_140 ?_
      refine z_iload (pc := 141) C dX11_table_141 rfl ?_
      first | with_reducible refine z_isubN (pc := 143) C dX11_table_143 (by omega) ?_ | refine z_isub (pc := 143) C dX11_table_143 ?_
      refine z_iload (pc := 144) C dX11_table_144 rfl ?_
      first | with_reducible refine z_isubN (pc := 146) C dX11_table_146 (by omega) ?_ | refine z_isub (pc := 146) C dX11_table_146 ?_
      refine z_iast (pc := 147) (N := 160) C dX11_table_147 rfl (by omega) (by decide) (hp_m 4 (by decide) hn (by decide)) ?_
      refine z_iload_n (pc := 148) C dX11_table_148 rfl ?_
      refine z_iconst (pc := 149) (v := nI 3) C dX11_table_149 (by decide) ?_
      -- at 150: if_icmpge 
      refine z_icmp_geF (pc := 150) (tgt := 165) C dX11_table_150 (by decide) (by omega) (by omega) (by omega) ?_
      first | refine z_aload_n (pc := 153) C dX11_table_153 rfl ?_ | refine z_aload_nN (pc := 153) C dX11_table_153 rfl ?_
      refine z_getf (pc := 154) C dX11_table_154 zf_X11_22_10 rfl rfl ?_
      refine z_iload (pc := 157) C dX11_table_157 rfl ?_
      refine z_iload_n (pc := 159) C dX11_table_159 rfl ?_
      first | with_reducible refine z_iaddN (pc := 160) C dX11_table_160 ?_ | refine z_iadd (pc := 160) C dX11_table_160 ?_
      refine z_iconst (pc := 161) (v := nI 1) C dX11_table_161 (by decide) ?_
      first | with_reducible refine z_iaddN (pc := 162) C dX11_table_162 ?_ | refine z_iadd (pc := 162) C dX11_table_162 ?_
      refine z_iload_n (pc := 163) C dX11_table_163 rfl ?_
      refine z_iast (pc := 164) (N := 160) C dX11_table_164 rfl (by omega) (by decide) (hp_m 4 (by decide) hn (by decide)) ?_
      refine z_iload_n (pc := 165) C dX11_table_165 rfl ?_
      refine z_iconst (pc := 166) (v := nI 2) C dX11_table_166 (by decide) ?_
      -- at 167: if_icmpge 
      refine z_icmp_geF (pc := 167) (tgt := 183) C dX11_table_167 (by decide) (by omega) (by omega) (by omega) ?_
      first | refine z_aload_n (pc := 170) C dX11_table_170 rfl ?_ | refine z_aload_nN (pc := 170) C dX11_table_170 rfl ?_
      refine z_getf (pc := 171) C dX11_table_171 zf_X11_22_10 rfl rfl ?_
      refine z_iload (pc := 174) C dX11_table_174 rfl ?_
      refine z_iload_n (pc := 176) C dX11_table_176 rfl ?_
      first | with_reducible refine z_iaddN (pc := 177) C dX11_table_177 ?_ | refine z_iadd (pc := 177) C dX11_table_177 ?_
      refine z_iconst (pc := 178) (v := nI 2) C dX11_table_178 (by decide) ?_
      first | with_reducible refine z_iaddN (pc := 179) C dX11_table_179 ?_ | refine z_iadd (pc := 179) C dX11_table_179 ?_
      refine z_iload (pc := 180) C dX11_table_180 rfl ?_
      refine z_iast (pc := 182) (N := 160) C dX11_table_182 rfl (by omega) (by decide) (hp_m 4 (by decide) hn (by decide)) ?_
      refine z_iload_n (pc := 183) C dX11_table_183 rfl ?_
      refine z_iconst (pc := 184) (v := nI 1) C dX11_table_184 (by decide) ?_
      -- at 185: if_icmpge 
      refine z_icmp_geF (pc := 185) (tgt := 201) C dX11_table_185 (by decide) (by omega) (by omega) (by omega) ?_
      first | refine z_aload_n (pc := 188) C dX11_table_188 rfl ?_ | refine z_aload_nN (pc := 188) C dX11_table_188 rfl ?_
      refine z_getf (pc := 189) C dX11_table_189 zf_X11_22_10 rfl rfl ?_
      refine z_iload (pc := 192) C dX11_table_192 rfl ?_
      refine z_iload_n (pc := 194) C dX11_table_194 rfl ?_
      first | with_reducible refine z_iaddN (pc := 195) C dX11_table_195 ?_ | refine z_iadd (pc := 195) C dX11_table_195 ?_
      refine z_iconst (pc := 196) (v := nI 3) C dX11_table_196 (by decide) ?_
      first | with_reducible refine z_iaddN (pc := 197) C dX11_table_197 ?_ | refine z_iadd (pc := 197) C dX11_table_197 ?_
      refine z_iload (pc := 198) C dX11_table_198 rfl ?_
      refine z_iast (pc := 200) (N := 160) C dX11_table_200 rfl (by omega) (by decide) (hp_m 4 (by decide) hn (by decide)) ?_
      refine z_iconst (pc := 201) (v := nI 0) C dX11_table_201 (by decide) ?_
      -- at 202: ireturn 
      exact z_iret (pc := 202) C hQ dX11_table_202 (by rw [er]) (by rw [es]; rfl) rfl (by decide) (by decide)
    · refine z_bipush (pc := 119) (v := nI 16) C dX11_table_119 (by decide) ?_
      refine z_iload_n (pc := 121) C dX11_table_121 rfl ?_
      first | with_reducible refine z_imulN (pc := 122) C dX11_table_122 ?_ | refine z_imul (pc := 122) C dX11_table_122 ?_
      refine z_iconst (pc := 123) (v := nI 4) C dX11_table_123 (by decide) ?_
      refine z_iload_n (pc := 124) C dX11_table_124 rfl ?_
      first | with_reducible refine z_imulN (pc := 125) C dX11_table_125 ?_ | refine z_imul (pc := 125) C dX11_table_125 ?_
      first | with_reducible refine z_iaddN (pc := 126) C dX11_table_126 ?_ | refine z_iadd (pc := 126) C dX11_table_126 ?_
      refine z_istore (pc := 127) C dX11_table_127 (by rw [hE]; decide) ?_
      first | refine z_aload_n (pc := 129) C dX11_table_129 rfl ?_ | refine z_aload_nN (pc := 129) C dX11_table_129 rfl ?_
      refine z_getf (pc := 130) C dX11_table_130 zf_X11_22_10 rfl rfl ?_
      refine z_iload (pc := 133) C dX11_table_133 rfl ?_
      refine z_iload_n (pc := 135) C dX11_table_135 rfl ?_
      first | with_reducible refine z_iaddN (pc := 136) C dX11_table_136 ?_ | refine z_iadd (pc := 136) C dX11_table_136 ?_
      refine z_bipush (pc := 137) (v := nI 10) C dX11_table_137 (by decide) ?_
      refine z_iload_n (pc := 139) C dX11_table_139 rfl ?_
      first | with_reducible refine z_isubN (pc := 140) C dX11_table_140 (by omega) ?_ | refine z_isub (pc := 140) C dX11_table_140 ?_
      refine z_iload (pc := 141) C dX11_table_141 rfl ?_
      first | with_reducible refine z_isubN (pc := 143) C dX11_table_143 (by omega) ?_ | refine z_isub (pc := 143) C dX11_table_143 ?_
      refine z_iload (pc := 144) C dX11_table_144 rfl ?_
      first | with_reducible refine z_isubN (pc := 146) C dX11_table_146 (by omega) ?_ | refine z_isub (pc := 146) C dX11_table_146 ?_
      refine z_iast (pc := 147) (N := 160) C dX11_table_147 rfl (by omega) (by decide) (hp_m 4 (by decide) hn (by decide)) ?_
      refine z_iload_n (pc := 148) C dX11_table_148 rfl ?_
      refine z_iconst (pc := 149) (v := nI 3) C dX11_table_149 (by decide) ?_
      -- at 150: if_icmpge 
      refine z_icmp_geF (pc := 150) (tgt := 165) C dX11_table_150 (by decide) (by omega) (by omega) (by omega) ?_
      first | refine z_aload_n (pc := 153) C dX11_table_153 rfl ?_ | refine z_aload_nN (pc := 153) C dX11_table_153 rfl ?_
      refine z_getf (pc := 154) C dX11_table_154 zf_X11_22_10 rfl rfl ?_
      refine z_iload (pc := 157) C dX11_table_157 rfl ?_
      refine z_iload_n (pc := 159) C dX11_table_159 rfl ?_
      first | with_reducible refine z_iaddN (pc := 160) C dX11_table_160 ?_ | refine z_iadd (pc := 160) C dX11_table_160 ?_
      refine z_iconst (pc := 161) (v := nI 1) C dX11_table_161 (by decide) ?_
      first | with_reducible refine z_iaddN (pc := 162) C dX11_table_162 ?_ | refine z_iadd (pc := 162) C dX11_table_162 ?_
      refine z_iload_n (pc := 163) C dX11_table_163 rfl ?_
      refine z_iast (pc := 164) (N := 160) C dX11_table_164 rfl (by omega) (by decide) (hp_m 4 (by decide) hn (by decide)) ?_
      refine z_iload_n (pc := 165) C dX11_table_165 rfl ?_
      refine z_iconst (pc := 166) (v := nI 2) C dX11_table_166 (by decide) ?_
      -- at 167: if_icmpge 
      refine z_icmp_geF (pc := 167) (tgt := 183) C dX11_table_167 (by decide) (by omega) (by omega) (by omega) ?_
      first | refine z_aload_n (pc := 170) C dX11_table_170 rfl ?_ | refine z_aload_nN (pc := 170) C dX11_table_170 rfl ?_
      refine z_getf (pc := 171) C dX11_table_171 zf_X11_22_10 rfl rfl ?_
      refine z_iload (pc := 174) C dX11_table_174 rfl ?_
      refine z_iload_n (pc := 176) C dX11_table_176 rfl ?_
      first | with_reducible refine z_iaddN (pc := 177) C dX11_table_177 ?_ | refine z_iadd (pc := 177) C dX11_table_177 ?_
      refine z_iconst (pc := 178) (v := nI 2) C dX11_table_178 (by decide) ?_
      first | with_reducible refine z_iaddN (pc := 179) C dX11_table_179 ?_ | refine z_iadd (pc := 179) C dX11_table_179 ?_
      refine z_iload (pc := 180) C dX11_table_180 rfl ?_
      refine z_iast (pc := 182) (N := 160) C dX11_table_182 rfl (by omega) (by decide) (hp_m 4 (by decide) hn (by decide)) ?_
      refine z_iload_n (pc := 183) C dX11_table_183 rfl ?_
      refine z_iconst (pc := 184) (v := nI 1) C dX11_table_184 (by decide) ?_
      -- at 185: if_icmpge 
      refine z_icmp_geT (pc := 185) (tgt := 201) C dX11_table_185 (by decide) (by omega) (by omega) (by omega) ?_
      refine z_iconst (pc := 201) (v := nI 0) C dX11_table_201 (by decide) ?_
      -- at 202: ireturn 
      exact z_iret (pc := 202) C hQ dX11_table_202 (by rw [er]) (by rw [es]; rfl) rfl (by decide) (by decide)
    · refine z_bipush (pc := 119) (v := nI 16) C dX11_table_119 (by decide) ?_
      refine z_iload_n (pc := 121) C dX11_table_121 rfl ?_
      first | with_reducible refine z_imulN (pc := 122) C dX11_table_122 ?_ | refine z_imul (pc := 122) C dX11_table_122 ?_
      refine z_iconst (pc := 123) (v := nI 4) C dX11_table_123 (by decide) ?_
      refine z_iload_n (pc := 124) C dX11_table_124 rfl ?_
      first | with_reducible refine z_imulN (pc := 125) C dX11_table_125 ?_ | refine z_imul (pc := 125) C dX11_table_125 ?_
      first | with_reducible refine z_iaddN (pc := 126) C dX11_table_126 ?_ | refine z_iadd (pc := 126) C dX11_table_126 ?_
      refine z_istore (pc := 127) C dX11_table_127 (by rw [hE]; decide) ?_
      first | refine z_aload_n (pc := 129) C dX11_table_129 rfl ?_ | refine z_aload_nN (pc := 129) C dX11_table_129 rfl ?_
      refine z_getf (pc := 130) C dX11_table_130 zf_X11_22_10 rfl rfl ?_
      refine z_iload (pc := 133) C dX11_table_133 rfl ?_
      refine z_iload_n (pc := 135) C dX11_table_135 rfl ?_
      first | with_reducible refine z_iaddN (pc := 136) C dX11_table_136 ?_ | refine z_iadd (pc := 136) C dX11_table_136 ?_
      refine z_bipush (pc := 137) (v := nI 10) C dX11_table_137 (by decide) ?_
      refine z_iload_n (pc := 139) C dX11_table_139 rfl ?_
      first | with_reducible refine z_isubN (pc := 140) C dX11_table_140 (by omega) ?_ | refine z_isub (pc := 140) C dX11_table_140 ?_
      refine z_iload (pc := 141) C dX11_table_141 rfl ?_
      first | with_reducible refine z_isubN (pc := 143) C dX11_table_143 (by omega) ?_ | refine z_isub (pc := 143) C dX11_table_143 ?_
      refine z_iload (pc := 144) C dX11_table_144 rfl ?_
      first | with_reducible refine z_isubN (pc := 146) C dX11_table_146 (by omega) ?_ | refine z_isub (pc := 146) C dX11_table_146 ?_
      refine z_iast (pc := 147) (N := 160) C dX11_table_147 rfl (by omega) (by decide) (hp_m 4 (by decide) hn (by decide)) ?_
      refine z_iload_n (pc := 148) C dX11_table_148 rfl ?_
      refine z_iconst (pc := 149) (v := nI 3) C dX11_table_149 (by decide) ?_
      -- at 150: if_icmpge 
      refine z_icmp_geF (pc := 150) (tgt := 165) C dX11_table_150 (by decide) (by omega) (by omega) (by omega) ?_
      first | refine z_aload_n (pc := 153) C dX11_table_153 rfl ?_ | refine z_aload_nN (pc := 153) C dX11_table_153 rfl ?_
      refine z_getf (pc := 154) C dX11_table_154 zf_X11_22_10 rfl rfl ?_
      refine z_iload (pc := 157) C dX11_table_157 rfl ?_
      refine z_iload_n (pc := 159) C dX11_table_159 rfl ?_
      first | with_reducible refine z_iaddN (pc := 160) C dX11_table_160 ?_ | refine z_iadd (pc := 160) C dX11_table_160 ?_
      refine z_iconst (pc := 161) (v := nI 1) C dX11_table_161 (by decide) ?_
      first | with_reducible refine z_iaddN (pc := 162) C dX11_table_162 ?_ | refine z_iadd (pc := 162) C dX11_table_162 ?_
      refine z_iload_n (pc := 163) C dX11_table_163 rfl ?_
      refine z_iast (pc := 164) (N := 160) C dX11_table_164 rfl (by omega) (by decide) (hp_m 4 (by decide) hn (by decide)) ?_
      refine z_iload_n (pc := 165) C dX11_table_165 rfl ?_
      refine z_iconst (pc := 166) (v := nI 2) C dX11_table_166 (by decide) ?_
      -- at 167: if_icmpge 
      refine z_icmp_geT (pc := 167) (tgt := 183) C dX11_table_167 (by decide) (by omega) (by omega) (by omega) ?_
      refine z_iload_n (pc := 183) C dX11_table_183 rfl ?_
      refine z_iconst (pc := 184) (v := nI 1) C dX11_table_184 (by decide) ?_
      -- at 185: if_icmpge 
      refine z_icmp_geT (pc := 185) (tgt := 201) C dX11_table_185 (by decide) (by omega) (by omega) (by omega) ?_
      refine z_iconst (pc := 201) (v := nI 0) C dX11_table_201 (by decide) ?_
      -- at 202: ireturn 
      exact z_iret (pc := 202) C hQ dX11_table_202 (by rw [er]) (by rw [es]; rfl) rfl (by decide) (by decide)
    · refine z_bipush (pc := 119) (v := nI 16) C dX11_table_119 (by decide) ?_
      refine z_iload_n (pc := 121) C dX11_table_121 rfl ?_
      first | with_reducible refine z_imulN (pc := 122) C dX11_table_122 ?_ | refine z_imul (pc := 122) C dX11_table_122 ?_
      refine z_iconst (pc := 123) (v := nI 4) C dX11_table_123 (by decide) ?_
      refine z_iload_n (pc := 124) C dX11_table_124 rfl ?_
      first | with_reducible refine z_imulN (pc := 125) C dX11_table_125 ?_ | refine z_imul (pc := 125) C dX11_table_125 ?_
      first | with_reducible refine z_iaddN (pc := 126) C dX11_table_126 ?_ | refine z_iadd (pc := 126) C dX11_table_126 ?_
      refine z_istore (pc := 127) C dX11_table_127 (by rw [hE]; decide) ?_
      first | refine z_aload_n (pc := 129) C dX11_table_129 rfl ?_ | refine z_aload_nN (pc := 129) C dX11_table_129 rfl ?_
      refine z_getf (pc := 130) C dX11_table_130 zf_X11_22_10 rfl rfl ?_
      refine z_iload (pc := 133) C dX11_table_133 rfl ?_
      refine z_iload_n (pc := 135) C dX11_table_135 rfl ?_
      first | with_reducible refine z_iaddN (pc := 136) C dX11_table_136 ?_ | refine z_iadd (pc := 136) C dX11_table_136 ?_
      refine z_bipush (pc := 137) (v := nI 10) C dX11_table_137 (by decide) ?_
      refine z_iload_n (pc := 139) C dX11_table_139 rfl ?_
      first | with_reducible refine z_isubN (pc := 140) C dX11_table_140 (by omega) ?_ | refine z_isub (pc := 140) C dX11_table_140 ?_
      refine z_iload (pc := 141) C dX11_table_141 rfl ?_
      first | with_reducible refine z_isubN (pc := 143) C dX11_table_143 (by omega) ?_ | refine z_isub (pc := 143) C dX11_table_143 ?_
      refine z_iload (pc := 144) C dX11_table_144 rfl ?_
      first | with_reducible refine z_isubN (pc := 146) C dX11_table_146 (by omega) ?_ | refine z_isub (pc := 146) C dX11_table_146 ?_
      refine z_iast (pc := 147) (N := 160) C dX11_table_147 rfl (by omega) (by decide) (hp_m 4 (by decide) hn (by decide)) ?_
      refine z_iload_n (pc := 148) C dX11_table_148 rfl ?_
      refine z_iconst (pc := 149) (v := nI 3) C dX11_table_149 (by decide) ?_
      -- at 150: if_icmpge 
      refine z_icmp_geT (pc := 150) (tgt := 165) C dX11_table_150 (by decide) (by omega) (by omega) (by omega) ?_
      refine z_iload_n (pc := 165) C dX11_table_165 rfl ?_
      refine z_iconst (pc := 166) (v := nI 2) C dX11_table_166 (by decide) ?_
      -- at 167: if_icmpge 
      refine z_icmp_geT (pc := 167) (tgt := 183) C dX11_table_167 (by decide) (by omega) (by omega) (by omega) ?_
      refine z_iload_n (pc := 183) C dX11_table_183 rfl ?_
      refine z_iconst (pc := 184) (v := nI 1) C dX11_table_184 (by decide) ?_
      -- at 185: if_icmpge 
      refine z_icmp_geT (pc := 185) (tgt := 201) C dX11_table_185 (by decide) (by omega) (by omega) (by omega) ?_
      refine z_iconst (pc := 201) (v := nI 0) C dX11_table_201 (by decide) ?_
      -- at 202: ireturn 
      exact z_iret (pc := 202) C hQ dX11_table_202 (by rw [er]) (by rw [es]; rfl) rfl (by decide) (by decide)
  have tl : ∀ p : Nat, p ≤ 3 → i = nI p → inR 0 3 i → σ.2.2.1 k = 2 → ∀ v : Int32, (v = nI 1 ∧ n_table i a b c) ∨ (v = nI 0 ∧ ¬ n_table i a b c) → ZV l Ω E 0 0 65 [(0, rfO Ω 6), (1, .int (nI k)), (2, .int (nI p)), (3, .int a), (4, .int b), (5, .int c)] [.int v] (hp Ω σ) (hN σ) := by
    intro p hp1 ei hi hq v hv
    have bad : ¬ inR 0 10 a ∨ ¬ inR 0 10 b ∨ ¬ inR 0 10 c ∨ nI 10 < a + b + c ∨ n_table i a b c → r_table σ k i a b c = -2 ∧ s_table σ k i a b c = σ := by
      intro h
      exact ⟨by unfold r_table; rw [if_neg (fun z => z hi), if_neg (fun z => z hq), if_pos h], by unfold s_table; rw [if_neg (fun z => z hi), if_neg (fun z => z hq), if_pos h]⟩
    have good : ¬ (¬ inR 0 10 a ∨ ¬ inR 0 10 b ∨ ¬ inR 0 10 c ∨ nI 10 < a + b + c ∨ n_table i a b c) → r_table σ k i a b c = nI 0 ∧ s_table σ k i a b c = s_tableN σ k p a b c := by
      intro h
      exact ⟨by unfold r_table; rw [if_neg (fun z => z hi), if_neg (fun z => z hq), if_neg h], by unfold s_table; rw [if_neg (fun z => z hi), if_neg (fun z => z hq), if_neg h, ei, tn_nI (by omega)]⟩
    have be : ¬ inR 0 10 a ∨ ¬ inR 0 10 b ∨ ¬ inR 0 10 c ∨ nI 10 < a + b + c ∨ n_table i a b c → ZV l Ω E 0 0 116 [(0, rfO Ω 6), (1, .int (nI k)), (2, .int (nI p)), (3, .int a), (4, .int b), (5, .int c), (6, .int v)] [] (hp Ω σ) (hN σ) := by
      intro h
      obtain ⟨b1, b2⟩ := bad h
      refine z_bipush (pc := 116) (v := (-2)) C dX11_table_116 (by decide) ?_
      -- at 118: ireturn 
      exact z_iret (pc := 118) C hQ dX11_table_118 (by rw [b1]) (by rw [b2]) rfl (by decide) (by decide)
    have g9 : inR 0 10 a → inR 0 10 b → inR 0 10 c → ¬ nI 10 < a + b + c → v = 0 → ¬ (¬ inR 0 10 a ∨ ¬ inR 0 10 b ∨ ¬ inR 0 10 c ∨ nI 10 < a + b + c ∨ n_table i a b c) := by
      intro y1 y2 y3 y4 y5 z
      have y6 : ¬ n_table i a b c := by
        rcases hv with ⟨z1, z2⟩ | ⟨z1, z2⟩
        · rw [z1] at y5
          exact absurd y5 (by decide)
        · exact z2
      rcases z with z | z | z | z | z
      · exact z y1
      · exact z y2
      · exact z y3
      · exact y4 z
      · exact y6 z
    refine z_istore (pc := 65) C dX11_table_65 (by rw [hE]; decide) ?_
    refine z_iload_n (pc := 67) C dX11_table_67 rfl ?_
    refine z_iconst (pc := 68) (v := nI 0) C dX11_table_68 (by decide) ?_
    refine z_bipush (pc := 69) (v := nI 10) C dX11_table_69 (by decide) ?_
    refine z_callS (pc := 71) C dX11_table_71 zy_X11_isIn kw_685 kw_686 (ct_X11_isIn l Ω _ _ _ _ _) rfl rfl ⟨⟨by decide, by decide⟩, by decide, by decide⟩ (Nat.le_of_ble_eq_true rfl) ?_; dsimp only [Option.toList_some, List.cons_append, List.nil_append]
    refine z_ifeqB (pc := 74) (tgt := 116) C dX11_table_74 (by decide) (fun h74 => ?_) (fun h74 => ?_)
    · exact be (by first | exact Or.inl h74 | exact Or.inr (Or.inl h85) | exact Or.inr (Or.inr (Or.inl h96)) | exact Or.inr (Or.inr (Or.inr (Or.inl h108))) | exact Or.inr (Or.inr (Or.inr (Or.inr (hv.elim (fun z => z.2) (fun z => absurd z.1 h113))))))
    · refine z_iload (pc := 77) C dX11_table_77 rfl ?_
      refine z_iconst (pc := 79) (v := nI 0) C dX11_table_79 (by decide) ?_
      refine z_bipush (pc := 80) (v := nI 10) C dX11_table_80 (by decide) ?_
      refine z_callS (pc := 82) C dX11_table_82 zy_X11_isIn kw_685 kw_686 (ct_X11_isIn l Ω _ _ _ _ _) rfl rfl ⟨⟨by decide, by decide⟩, by decide, by decide⟩ (Nat.le_of_ble_eq_true rfl) ?_; dsimp only [Option.toList_some, List.cons_append, List.nil_append]
      refine z_ifeqB (pc := 85) (tgt := 116) C dX11_table_85 (by decide) (fun h85 => ?_) (fun h85 => ?_)
      · exact be (by first | exact Or.inl h74 | exact Or.inr (Or.inl h85) | exact Or.inr (Or.inr (Or.inl h96)) | exact Or.inr (Or.inr (Or.inr (Or.inl h108))) | exact Or.inr (Or.inr (Or.inr (Or.inr (hv.elim (fun z => z.2) (fun z => absurd z.1 h113))))))
      · refine z_iload (pc := 88) C dX11_table_88 rfl ?_
        refine z_iconst (pc := 90) (v := nI 0) C dX11_table_90 (by decide) ?_
        refine z_bipush (pc := 91) (v := nI 10) C dX11_table_91 (by decide) ?_
        refine z_callS (pc := 93) C dX11_table_93 zy_X11_isIn kw_685 kw_686 (ct_X11_isIn l Ω _ _ _ _ _) rfl rfl ⟨⟨by decide, by decide⟩, by decide, by decide⟩ (Nat.le_of_ble_eq_true rfl) ?_; dsimp only [Option.toList_some, List.cons_append, List.nil_append]
        refine z_ifeqB (pc := 96) (tgt := 116) C dX11_table_96 (by decide) (fun h96 => ?_) (fun h96 => ?_)
        · exact be (by first | exact Or.inl h74 | exact Or.inr (Or.inl h85) | exact Or.inr (Or.inr (Or.inl h96)) | exact Or.inr (Or.inr (Or.inr (Or.inl h108))) | exact Or.inr (Or.inr (Or.inr (Or.inr (hv.elim (fun z => z.2) (fun z => absurd z.1 h113))))))
        · refine z_iload_n (pc := 99) C dX11_table_99 rfl ?_
          refine z_iload (pc := 100) C dX11_table_100 rfl ?_
          first | with_reducible refine z_iaddN (pc := 102) C dX11_table_102 ?_ | refine z_iadd (pc := 102) C dX11_table_102 ?_
          refine z_iload (pc := 103) C dX11_table_103 rfl ?_
          first | with_reducible refine z_iaddN (pc := 105) C dX11_table_105 ?_ | refine z_iadd (pc := 105) C dX11_table_105 ?_
          refine z_bipush (pc := 106) (v := nI 10) C dX11_table_106 (by decide) ?_
          refine z_icmp_gt (pc := 108) (tgt := 116) C dX11_table_108 (by decide) (fun h108 => ?_) (fun h108 => ?_)
          · exact be (by first | exact Or.inl h74 | exact Or.inr (Or.inl h85) | exact Or.inr (Or.inr (Or.inl h96)) | exact Or.inr (Or.inr (Or.inr (Or.inl h108))) | exact Or.inr (Or.inr (Or.inr (Or.inr (hv.elim (fun z => z.2) (fun z => absurd z.1 h113))))))
          · refine z_iload (pc := 111) C dX11_table_111 rfl ?_
            first | with_reducible refine z_if_eqX (pc := 113) (tgt := 119) C dX11_table_113 (by decide) (by omega) (fun h113 => ?_) (fun h113 => ?_) | refine z_if_eq (pc := 113) (tgt := 119) C dX11_table_113 (by decide) (fun h113 => ?_) (fun h113 => ?_)
            · exact t2 p hp1 ei (good (g9 h74 h85 h96 h108 h113)).1 (good (g9 h74 h85 h96 h108 h113)).2 _
            · exact be (by first | exact Or.inl h74 | exact Or.inr (Or.inl h85) | exact Or.inr (Or.inr (Or.inl h96)) | exact Or.inr (Or.inr (Or.inr (Or.inl h108))) | exact Or.inr (Or.inr (Or.inr (Or.inr (hv.elim (fun z => z.2) (fun z => absurd z.1 h113))))))
  first | refine z_aload_n (pc := 0) C dX11_table_0 rfl ?_ | refine z_aload_nN (pc := 0) C dX11_table_0 rfl ?_
  refine z_iload_n (pc := 1) C dX11_table_1 rfl ?_
  refine z_callV (pc := 2) (ci := 10) C dX11_table_2 zy_X11_isUnit kw_692 kw_693 rfl kw_842 rfl (ct_X11_isUnit l Ω σ hw _) rfl rfl ⟨⟨by decide, by decide⟩, by decide, by decide⟩ (Nat.le_of_ble_eq_true rfl) ?_; dsimp only [Option.toList_some, List.cons_append, List.nil_append]
  refine z_ifeqB (pc := 5) (tgt := 17) C dX11_table_5 (by decide) (fun h5 => ?_) (fun h5 => ?_)
  · exact absurd h0 h5
  · refine z_iload_n (pc := 8) C dX11_table_8 rfl ?_
    refine z_iconst (pc := 9) (v := nI 0) C dX11_table_9 (by decide) ?_
    refine z_iconst (pc := 10) (v := nI 3) C dX11_table_10 (by decide) ?_
    refine z_callS (pc := 11) C dX11_table_11 zy_X11_isIn kw_685 kw_686 (ct_X11_isIn l Ω _ _ _ _ _) rfl rfl ⟨⟨by decide, by decide⟩, by decide, by decide⟩ (Nat.le_of_ble_eq_true rfl) ?_; dsimp only [Option.toList_some, List.cons_append, List.nil_append]
    refine z_ifneB (pc := 14) (tgt := 19) C dX11_table_14 (by decide) (fun h14 => ?_) (fun h14 => ?_)
    · obtain ⟨p, -, hp1, rfl⟩ := inR_of (by decide) (by decide) h14
      first | refine z_aload_n (pc := 19) C dX11_table_19 rfl ?_ | refine z_aload_nN (pc := 19) C dX11_table_19 rfl ?_
      refine z_getf (pc := 20) C dX11_table_20 zf_X11_9_10 rfl rfl ?_
      refine z_iload_n (pc := 23) C dX11_table_23 rfl ?_
      refine z_iald (pc := 24) (N := 10) C dX11_table_24 rfl (by omega) (by decide) rfl ?_; rw [e1]
      refine z_iconst (pc := 25) (v := nI 2) C dX11_table_25 (by decide) ?_
      first | with_reducible refine z_icmp_eqX (pc := 26) (tgt := 32) C dX11_table_26 (by decide) (by omega) (by omega) (fun h26 => ?_) (fun h26 => ?_) | refine z_icmp_eq (pc := 26) (tgt := 32) C dX11_table_26 (by decide) (fun h26 => ?_) (fun h26 => ?_)
      · refine z_iload_n (pc := 32) C dX11_table_32 rfl ?_
        refine z_iconst (pc := 33) (v := nI 2) C dX11_table_33 (by decide) ?_
        refine z_icmp_le (pc := 34) (tgt := 41) C dX11_table_34 (by decide) (fun h34 => ?_) (fun h34 => ?_)
        · refine z_iload_n (pc := 41) C dX11_table_41 rfl ?_
          refine z_iconst (pc := 42) (v := nI 1) C dX11_table_42 (by decide) ?_
          refine z_icmp_le (pc := 43) (tgt := 51) C dX11_table_43 (by decide) (fun h43 => ?_) (fun h43 => ?_)
          · refine z_iload_n (pc := 51) C dX11_table_51 rfl ?_
            refine z_if_le (pc := 52) (tgt := 64) C dX11_table_52 (by decide) (fun h52 => ?_) (fun h52 => ?_)
            · refine z_iconst (pc := 64) (v := nI 0) C dX11_table_64 (by decide) ?_
              exact tl p hp1 rfl h14 h26 _ (by first | exact Or.inl ⟨rfl, Or.inl ⟨Int32.not_le.mp h34, h38⟩⟩ | exact Or.inl ⟨rfl, Or.inr (Or.inl ⟨Int32.not_le.mp h43, h48⟩)⟩ | exact Or.inl ⟨rfl, Or.inr (Or.inr ⟨Int32.not_le.mp h52, h57⟩)⟩ | exact Or.inr ⟨rfl, by rintro (⟨x, y⟩ | ⟨x, y⟩ | ⟨x, y⟩) <;> first | exact absurd x (Int32.not_lt.mpr h34) | exact y h38 | exact absurd x (Int32.not_lt.mpr h43) | exact y h48 | exact absurd x (Int32.not_lt.mpr h52) | exact y h57⟩)
            · refine z_iload (pc := 55) C dX11_table_55 rfl ?_
              first | with_reducible refine z_if_eqX (pc := 57) (tgt := 64) C dX11_table_57 (by decide) (by omega) (fun h57 => ?_) (fun h57 => ?_) | refine z_if_eq (pc := 57) (tgt := 64) C dX11_table_57 (by decide) (fun h57 => ?_) (fun h57 => ?_)
              · refine z_iconst (pc := 64) (v := nI 0) C dX11_table_64 (by decide) ?_
                exact tl p hp1 rfl h14 h26 _ (by first | exact Or.inl ⟨rfl, Or.inl ⟨Int32.not_le.mp h34, h38⟩⟩ | exact Or.inl ⟨rfl, Or.inr (Or.inl ⟨Int32.not_le.mp h43, h48⟩)⟩ | exact Or.inl ⟨rfl, Or.inr (Or.inr ⟨Int32.not_le.mp h52, h57⟩)⟩ | exact Or.inr ⟨rfl, by rintro (⟨x, y⟩ | ⟨x, y⟩ | ⟨x, y⟩) <;> first | exact absurd x (Int32.not_lt.mpr h34) | exact y h38 | exact absurd x (Int32.not_lt.mpr h43) | exact y h48 | exact absurd x (Int32.not_lt.mpr h52) | exact y h57⟩)
              · refine z_iconst (pc := 60) (v := nI 1) C dX11_table_60 (by decide) ?_
                refine z_goto (pc := 61) (tgt := 65) C dX11_table_61 (by decide) ?_
                exact tl p hp1 rfl h14 h26 _ (by first | exact Or.inl ⟨rfl, Or.inl ⟨Int32.not_le.mp h34, h38⟩⟩ | exact Or.inl ⟨rfl, Or.inr (Or.inl ⟨Int32.not_le.mp h43, h48⟩)⟩ | exact Or.inl ⟨rfl, Or.inr (Or.inr ⟨Int32.not_le.mp h52, h57⟩)⟩ | exact Or.inr ⟨rfl, by rintro (⟨x, y⟩ | ⟨x, y⟩ | ⟨x, y⟩) <;> first | exact absurd x (Int32.not_lt.mpr h34) | exact y h38 | exact absurd x (Int32.not_lt.mpr h43) | exact y h48 | exact absurd x (Int32.not_lt.mpr h52) | exact y h57⟩)
          · refine z_iload (pc := 46) C dX11_table_46 rfl ?_
            first | with_reducible refine z_if_neX (pc := 48) (tgt := 60) C dX11_table_48 (by decide) (by omega) (fun h48 => ?_) (fun h48 => ?_) | refine z_if_ne (pc := 48) (tgt := 60) C dX11_table_48 (by decide) (fun h48 => ?_) (fun h48 => ?_)
            · refine z_iconst (pc := 60) (v := nI 1) C dX11_table_60 (by decide) ?_
              refine z_goto (pc := 61) (tgt := 65) C dX11_table_61 (by decide) ?_
              exact tl p hp1 rfl h14 h26 _ (by first | exact Or.inl ⟨rfl, Or.inl ⟨Int32.not_le.mp h34, h38⟩⟩ | exact Or.inl ⟨rfl, Or.inr (Or.inl ⟨Int32.not_le.mp h43, h48⟩)⟩ | exact Or.inl ⟨rfl, Or.inr (Or.inr ⟨Int32.not_le.mp h52, h57⟩)⟩ | exact Or.inr ⟨rfl, by rintro (⟨x, y⟩ | ⟨x, y⟩ | ⟨x, y⟩) <;> first | exact absurd x (Int32.not_lt.mpr h34) | exact y h38 | exact absurd x (Int32.not_lt.mpr h43) | exact y h48 | exact absurd x (Int32.not_lt.mpr h52) | exact y h57⟩)
            · refine z_iload_n (pc := 51) C dX11_table_51 rfl ?_
              refine z_if_le (pc := 52) (tgt := 64) C dX11_table_52 (by decide) (fun h52 => ?_) (fun h52 => ?_)
              · refine z_iconst (pc := 64) (v := nI 0) C dX11_table_64 (by decide) ?_
                exact tl p hp1 rfl h14 h26 _ (by first | exact Or.inl ⟨rfl, Or.inl ⟨Int32.not_le.mp h34, h38⟩⟩ | exact Or.inl ⟨rfl, Or.inr (Or.inl ⟨Int32.not_le.mp h43, h48⟩)⟩ | exact Or.inl ⟨rfl, Or.inr (Or.inr ⟨Int32.not_le.mp h52, h57⟩)⟩ | exact Or.inr ⟨rfl, by rintro (⟨x, y⟩ | ⟨x, y⟩ | ⟨x, y⟩) <;> first | exact absurd x (Int32.not_lt.mpr h34) | exact y h38 | exact absurd x (Int32.not_lt.mpr h43) | exact y h48 | exact absurd x (Int32.not_lt.mpr h52) | exact y h57⟩)
              · refine z_iload (pc := 55) C dX11_table_55 rfl ?_
                first | with_reducible refine z_if_eqX (pc := 57) (tgt := 64) C dX11_table_57 (by decide) (by omega) (fun h57 => ?_) (fun h57 => ?_) | refine z_if_eq (pc := 57) (tgt := 64) C dX11_table_57 (by decide) (fun h57 => ?_) (fun h57 => ?_)
                · refine z_iconst (pc := 64) (v := nI 0) C dX11_table_64 (by decide) ?_
                  exact tl p hp1 rfl h14 h26 _ (by first | exact Or.inl ⟨rfl, Or.inl ⟨Int32.not_le.mp h34, h38⟩⟩ | exact Or.inl ⟨rfl, Or.inr (Or.inl ⟨Int32.not_le.mp h43, h48⟩)⟩ | exact Or.inl ⟨rfl, Or.inr (Or.inr ⟨Int32.not_le.mp h52, h57⟩)⟩ | exact Or.inr ⟨rfl, by rintro (⟨x, y⟩ | ⟨x, y⟩ | ⟨x, y⟩) <;> first | exact absurd x (Int32.not_lt.mpr h34) | exact y h38 | exact absurd x (Int32.not_lt.mpr h43) | exact y h48 | exact absurd x (Int32.not_lt.mpr h52) | exact y h57⟩)
                · refine z_iconst (pc := 60) (v := nI 1) C dX11_table_60 (by decide) ?_
                  refine z_goto (pc := 61) (tgt := 65) C dX11_table_61 (by decide) ?_
                  exact tl p hp1 rfl h14 h26 _ (by first | exact Or.inl ⟨rfl, Or.inl ⟨Int32.not_le.mp h34, h38⟩⟩ | exact Or.inl ⟨rfl, Or.inr (Or.inl ⟨Int32.not_le.mp h43, h48⟩)⟩ | exact Or.inl ⟨rfl, Or.inr (Or.inr ⟨Int32.not_le.mp h52, h57⟩)⟩ | exact Or.inr ⟨rfl, by rintro (⟨x, y⟩ | ⟨x, y⟩ | ⟨x, y⟩) <;> first | exact absurd x (Int32.not_lt.mpr h34) | exact y h38 | exact absurd x (Int32.not_lt.mpr h43) | exact y h48 | exact absurd x (Int32.not_lt.mpr h52) | exact y h57⟩)
        · refine z_iload_n (pc := 37) C dX11_table_37 rfl ?_
          first | with_reducible refine z_if_neX (pc := 38) (tgt := 60) C dX11_table_38 (by decide) (by omega) (fun h38 => ?_) (fun h38 => ?_) | refine z_if_ne (pc := 38) (tgt := 60) C dX11_table_38 (by decide) (fun h38 => ?_) (fun h38 => ?_)
          · refine z_iconst (pc := 60) (v := nI 1) C dX11_table_60 (by decide) ?_
            refine z_goto (pc := 61) (tgt := 65) C dX11_table_61 (by decide) ?_
            exact tl p hp1 rfl h14 h26 _ (by first | exact Or.inl ⟨rfl, Or.inl ⟨Int32.not_le.mp h34, h38⟩⟩ | exact Or.inl ⟨rfl, Or.inr (Or.inl ⟨Int32.not_le.mp h43, h48⟩)⟩ | exact Or.inl ⟨rfl, Or.inr (Or.inr ⟨Int32.not_le.mp h52, h57⟩)⟩ | exact Or.inr ⟨rfl, by rintro (⟨x, y⟩ | ⟨x, y⟩ | ⟨x, y⟩) <;> first | exact absurd x (Int32.not_lt.mpr h34) | exact y h38 | exact absurd x (Int32.not_lt.mpr h43) | exact y h48 | exact absurd x (Int32.not_lt.mpr h52) | exact y h57⟩)
          · refine z_iload_n (pc := 41) C dX11_table_41 rfl ?_
            refine z_iconst (pc := 42) (v := nI 1) C dX11_table_42 (by decide) ?_
            refine z_icmp_le (pc := 43) (tgt := 51) C dX11_table_43 (by decide) (fun h43 => ?_) (fun h43 => ?_)
            · refine z_iload_n (pc := 51) C dX11_table_51 rfl ?_
              refine z_if_le (pc := 52) (tgt := 64) C dX11_table_52 (by decide) (fun h52 => ?_) (fun h52 => ?_)
              · refine z_iconst (pc := 64) (v := nI 0) C dX11_table_64 (by decide) ?_
                exact tl p hp1 rfl h14 h26 _ (by first | exact Or.inl ⟨rfl, Or.inl ⟨Int32.not_le.mp h34, h38⟩⟩ | exact Or.inl ⟨rfl, Or.inr (Or.inl ⟨Int32.not_le.mp h43, h48⟩)⟩ | exact Or.inl ⟨rfl, Or.inr (Or.inr ⟨Int32.not_le.mp h52, h57⟩)⟩ | exact Or.inr ⟨rfl, by rintro (⟨x, y⟩ | ⟨x, y⟩ | ⟨x, y⟩) <;> first | exact absurd x (Int32.not_lt.mpr h34) | exact y h38 | exact absurd x (Int32.not_lt.mpr h43) | exact y h48 | exact absurd x (Int32.not_lt.mpr h52) | exact y h57⟩)
              · refine z_iload (pc := 55) C dX11_table_55 rfl ?_
                first | with_reducible refine z_if_eqX (pc := 57) (tgt := 64) C dX11_table_57 (by decide) (by omega) (fun h57 => ?_) (fun h57 => ?_) | refine z_if_eq (pc := 57) (tgt := 64) C dX11_table_57 (by decide) (fun h57 => ?_) (fun h57 => ?_)
                · refine z_iconst (pc := 64) (v := nI 0) C dX11_table_64 (by decide) ?_
                  exact tl p hp1 rfl h14 h26 _ (by first | exact Or.inl ⟨rfl, Or.inl ⟨Int32.not_le.mp h34, h38⟩⟩ | exact Or.inl ⟨rfl, Or.inr (Or.inl ⟨Int32.not_le.mp h43, h48⟩)⟩ | exact Or.inl ⟨rfl, Or.inr (Or.inr ⟨Int32.not_le.mp h52, h57⟩)⟩ | exact Or.inr ⟨rfl, by rintro (⟨x, y⟩ | ⟨x, y⟩ | ⟨x, y⟩) <;> first | exact absurd x (Int32.not_lt.mpr h34) | exact y h38 | exact absurd x (Int32.not_lt.mpr h43) | exact y h48 | exact absurd x (Int32.not_lt.mpr h52) | exact y h57⟩)
                · refine z_iconst (pc := 60) (v := nI 1) C dX11_table_60 (by decide) ?_
                  refine z_goto (pc := 61) (tgt := 65) C dX11_table_61 (by decide) ?_
                  exact tl p hp1 rfl h14 h26 _ (by first | exact Or.inl ⟨rfl, Or.inl ⟨Int32.not_le.mp h34, h38⟩⟩ | exact Or.inl ⟨rfl, Or.inr (Or.inl ⟨Int32.not_le.mp h43, h48⟩)⟩ | exact Or.inl ⟨rfl, Or.inr (Or.inr ⟨Int32.not_le.mp h52, h57⟩)⟩ | exact Or.inr ⟨rfl, by rintro (⟨x, y⟩ | ⟨x, y⟩ | ⟨x, y⟩) <;> first | exact absurd x (Int32.not_lt.mpr h34) | exact y h38 | exact absurd x (Int32.not_lt.mpr h43) | exact y h48 | exact absurd x (Int32.not_lt.mpr h52) | exact y h57⟩)
            · refine z_iload (pc := 46) C dX11_table_46 rfl ?_
              first | with_reducible refine z_if_neX (pc := 48) (tgt := 60) C dX11_table_48 (by decide) (by omega) (fun h48 => ?_) (fun h48 => ?_) | refine z_if_ne (pc := 48) (tgt := 60) C dX11_table_48 (by decide) (fun h48 => ?_) (fun h48 => ?_)
              · refine z_iconst (pc := 60) (v := nI 1) C dX11_table_60 (by decide) ?_
                refine z_goto (pc := 61) (tgt := 65) C dX11_table_61 (by decide) ?_
                exact tl p hp1 rfl h14 h26 _ (by first | exact Or.inl ⟨rfl, Or.inl ⟨Int32.not_le.mp h34, h38⟩⟩ | exact Or.inl ⟨rfl, Or.inr (Or.inl ⟨Int32.not_le.mp h43, h48⟩)⟩ | exact Or.inl ⟨rfl, Or.inr (Or.inr ⟨Int32.not_le.mp h52, h57⟩)⟩ | exact Or.inr ⟨rfl, by rintro (⟨x, y⟩ | ⟨x, y⟩ | ⟨x, y⟩) <;> first | exact absurd x (Int32.not_lt.mpr h34) | exact y h38 | exact absurd x (Int32.not_lt.mpr h43) | exact y h48 | exact absurd x (Int32.not_lt.mpr h52) | exact y h57⟩)
              · refine z_iload_n (pc := 51) C dX11_table_51 rfl ?_
                refine z_if_le (pc := 52) (tgt := 64) C dX11_table_52 (by decide) (fun h52 => ?_) (fun h52 => ?_)
                · refine z_iconst (pc := 64) (v := nI 0) C dX11_table_64 (by decide) ?_
                  exact tl p hp1 rfl h14 h26 _ (by first | exact Or.inl ⟨rfl, Or.inl ⟨Int32.not_le.mp h34, h38⟩⟩ | exact Or.inl ⟨rfl, Or.inr (Or.inl ⟨Int32.not_le.mp h43, h48⟩)⟩ | exact Or.inl ⟨rfl, Or.inr (Or.inr ⟨Int32.not_le.mp h52, h57⟩)⟩ | exact Or.inr ⟨rfl, by rintro (⟨x, y⟩ | ⟨x, y⟩ | ⟨x, y⟩) <;> first | exact absurd x (Int32.not_lt.mpr h34) | exact y h38 | exact absurd x (Int32.not_lt.mpr h43) | exact y h48 | exact absurd x (Int32.not_lt.mpr h52) | exact y h57⟩)
                · refine z_iload (pc := 55) C dX11_table_55 rfl ?_
                  first | with_reducible refine z_if_eqX (pc := 57) (tgt := 64) C dX11_table_57 (by decide) (by omega) (fun h57 => ?_) (fun h57 => ?_) | refine z_if_eq (pc := 57) (tgt := 64) C dX11_table_57 (by decide) (fun h57 => ?_) (fun h57 => ?_)
                  · refine z_iconst (pc := 64) (v := nI 0) C dX11_table_64 (by decide) ?_
                    exact tl p hp1 rfl h14 h26 _ (by first | exact Or.inl ⟨rfl, Or.inl ⟨Int32.not_le.mp h34, h38⟩⟩ | exact Or.inl ⟨rfl, Or.inr (Or.inl ⟨Int32.not_le.mp h43, h48⟩)⟩ | exact Or.inl ⟨rfl, Or.inr (Or.inr ⟨Int32.not_le.mp h52, h57⟩)⟩ | exact Or.inr ⟨rfl, by rintro (⟨x, y⟩ | ⟨x, y⟩ | ⟨x, y⟩) <;> first | exact absurd x (Int32.not_lt.mpr h34) | exact y h38 | exact absurd x (Int32.not_lt.mpr h43) | exact y h48 | exact absurd x (Int32.not_lt.mpr h52) | exact y h57⟩)
                  · refine z_iconst (pc := 60) (v := nI 1) C dX11_table_60 (by decide) ?_
                    refine z_goto (pc := 61) (tgt := 65) C dX11_table_61 (by decide) ?_
                    exact tl p hp1 rfl h14 h26 _ (by first | exact Or.inl ⟨rfl, Or.inl ⟨Int32.not_le.mp h34, h38⟩⟩ | exact Or.inl ⟨rfl, Or.inr (Or.inl ⟨Int32.not_le.mp h43, h48⟩)⟩ | exact Or.inl ⟨rfl, Or.inr (Or.inr ⟨Int32.not_le.mp h52, h57⟩)⟩ | exact Or.inr ⟨rfl, by rintro (⟨x, y⟩ | ⟨x, y⟩ | ⟨x, y⟩) <;> first | exact absurd x (Int32.not_lt.mpr h34) | exact y h38 | exact absurd x (Int32.not_lt.mpr h43) | exact y h48 | exact absurd x (Int32.not_lt.mpr h52) | exact y h57⟩)
      · refine z_bipush (pc := 29) (v := (-3)) C dX11_table_29 (by decide) ?_
        exact z_iret (pc := 31) C hQ dX11_table_31 (by clear hQ C hE; first | rfl | (simp [r_table, s_table, h5, h14, h26]; done) | (simp_all [r_table, s_table]; done)) (by clear hQ C hE; first | rfl | (simp [r_table, s_table, h5, h14, h26]; done) | (simp_all [r_table, s_table]; done)) (by clear hQ C hE; first | rfl | (simp [r_table, s_table, h5, h14, h26]; done) | (simp_all [r_table, s_table]; done)) (by decide) (by decide)
    · refine z_iconst (pc := 17) (v := (-1)) C dX11_table_17 (by decide) ?_
      exact z_iret (pc := 18) C hQ dX11_table_18 (by clear hQ C hE; first | rfl | (simp [r_table, s_table, h5, h14]; done) | (simp_all [r_table, s_table]; done)) (by clear hQ C hE; first | rfl | (simp [r_table, s_table, h5, h14]; done) | (simp_all [r_table, s_table]; done)) (by clear hQ C hE; first | rfl | (simp [r_table, s_table, h5, h14]; done) | (simp_all [r_table, s_table]; done)) (by decide) (by decide)
set_option maxHeartbeats 4000000 in
set_option maxRecDepth 100000 in
theorem ct_X11_unit_n (l : Launch) (Ω : OmT) (σ : Sg) (q : Int32) (hq : ¬ inR 0 7 q) : ZM l Ω yX11_unit cX11_unit 4 (some .int) rm_X11_unit [rfO Ω 6, .int q] (hp Ω σ) (hN σ) (some (.int (-1))) (hp Ω σ) (hN σ) := by
  refine ZM_of (by decide) (Nat.le_of_ble_eq_true rfl) (fun E hE C hQ => ?_)
  refine z_iload_n (pc := 0) C dX11_unit_0 rfl ?_
  refine z_iconst (pc := 1) (v := nI 0) C dX11_unit_1 (by decide) ?_
  refine z_bipush (pc := 2) (v := nI 7) C dX11_unit_2 (by decide) ?_
  refine z_callS (pc := 4) C dX11_unit_4 zy_X11_isIn kw_685 kw_686 (ct_X11_isIn l Ω _ _ _ _ _) rfl rfl ⟨⟨by decide, by decide⟩, by decide, by decide⟩ (Nat.le_of_ble_eq_true rfl) ?_; dsimp only [Option.toList_some, List.cons_append, List.nil_append]
  -- at 7: ifne 
  refine z_ifneB (pc := 7) (tgt := 12) C dX11_unit_7 (by decide) (fun h => absurd h hq) (fun h => ?_)
  refine z_iconst (pc := 10) (v := (-1)) C dX11_unit_10 (by decide) ?_
  -- at 11: ireturn 
  exact z_iret (pc := 11) C hQ dX11_unit_11 rfl rfl rfl (by decide) (by decide)
set_option maxHeartbeats 4000000 in
set_option maxRecDepth 100000 in
theorem ct_X11_unit_f (l : Launch) (Ω : OmT) (σ : Sg) (q : Int32) (hq : inR 0 7 q) (eu : σ.1 11 30 0 = nI 10) : ZM l Ω yX11_unit cX11_unit 4 (some .int) rm_X11_unit [rfO Ω 6, .int q] (hp Ω σ) (hN σ) (some (.int (-4))) (hp Ω σ) (hN σ) := by
  refine ZM_of (by decide) (Nat.le_of_ble_eq_true rfl) (fun E hE C hQ => ?_)
  refine z_iload_n (pc := 0) C dX11_unit_0 rfl ?_
  refine z_iconst (pc := 1) (v := nI 0) C dX11_unit_1 (by decide) ?_
  refine z_bipush (pc := 2) (v := nI 7) C dX11_unit_2 (by decide) ?_
  refine z_callS (pc := 4) C dX11_unit_4 zy_X11_isIn kw_685 kw_686 (ct_X11_isIn l Ω _ _ _ _ _) rfl rfl ⟨⟨by decide, by decide⟩, by decide, by decide⟩ (Nat.le_of_ble_eq_true rfl) ?_; dsimp only [Option.toList_some, List.cons_append, List.nil_append]
  -- at 7: ifne 
  refine z_ifneB (pc := 7) (tgt := 12) C dX11_unit_7 (by decide) (fun h => ?_) (fun h => absurd hq h)
  first | refine z_aload_n (pc := 12) C dX11_unit_12 rfl ?_ | refine z_aload_nN (pc := 12) C dX11_unit_12 rfl ?_
  refine z_getf (pc := 13) C dX11_unit_13 zf_X11_93_10 rfl rfl ?_; rw [eu]
  refine z_bipush (pc := 16) (v := nI 10) C dX11_unit_16 (by decide) ?_
  -- at 18: if_icmpne 
  refine z_icmp_neF (pc := 18) (tgt := 24) C dX11_unit_18 (by decide) (by omega) (by omega) (by omega) ?_
  refine z_bipush (pc := 21) (v := (-4)) C dX11_unit_21 (by decide) ?_
  -- at 23: ireturn 
  exact z_iret (pc := 23) C hQ dX11_unit_23 rfl rfl rfl (by decide) (by decide)
set_option maxHeartbeats 4000000 in
set_option maxRecDepth 100000 in
theorem ct_X11_unit (l : Launch) (Ω : OmT) (σ : Sg) (u : Nat) (hn : σ.2.2.2 ≤ 10) (hu : u < 10) (eu : σ.1 11 30 0 = nI u) (q : Nat) (hq : q < 8) : ZM l Ω yX11_unit cX11_unit 4 (some .int) rm_X11_unit [rfO Ω 6, .int (nI q)] (hp Ω σ) (hN σ) (some (.int (nI u))) (hp Ω (s_unit σ u q)) (hN σ) := by
  refine ZM_of (by decide) (Nat.le_of_ble_eq_true rfl) (fun E hE C hQ => ?_)
  have loop2 : ∀ (j i : Nat), i + j = 3 → ∀ τ : Sg, τ.2.2 = σ.2.2 → s_unit σ u q = itF (s_unitD u) 3 τ → ZV l Ω E 0 0 144 [(0, rfO Ω 6), (1, .int (nI q)), (2, .int (nI u)), (3, .int (nI i))] [] (hp Ω (itF (s_unitD u) i τ)) (hN σ) := by
    intro j
    induction j with
    | zero =>
      intro i hi τ hτ e
      refine z_iload_n (pc := 144) C dX11_unit_144 rfl ?_
      refine z_iconst (pc := 145) (v := nI 3) C dX11_unit_145 (by decide) ?_
      -- at 146: if_icmpge 
      refine z_icmp_geT (pc := 146) (tgt := 166) C dX11_unit_146 (by decide) (by omega) (by omega) (by omega) ?_
      refine z_iload_n (pc := 166) C dX11_unit_166 rfl ?_
      -- at 167: ireturn 
      obtain rfl : i = 3 := by omega
      exact z_iret (pc := 167) C hQ dX11_unit_167 rfl (by rw [e]) rfl (by decide) (by decide)
    | succ j ih =>
      intro i hi τ hτ e
      have hn : (itF (s_unitD u) i τ).2.2.2 ≤ 10 := by rw [itF_n (f := s_unitD u) (fun _ _ => rfl), hτ]; exact hn
      refine z_iload_n (pc := 144) C dX11_unit_144 rfl ?_
      refine z_iconst (pc := 145) (v := nI 3) C dX11_unit_145 (by decide) ?_
      -- at 146: if_icmpge 
      refine z_icmp_geF (pc := 146) (tgt := 166) C dX11_unit_146 (by decide) (by omega) (by omega) (by omega) ?_
      first | refine z_aload_n (pc := 149) C dX11_unit_149 rfl ?_ | refine z_aload_nN (pc := 149) C dX11_unit_149 rfl ?_
      refine z_getf (pc := 150) C dX11_unit_150 zf_X11_81_10 rfl rfl ?_
      refine z_iconst (pc := 153) (v := nI 3) C dX11_unit_153 (by decide) ?_
      refine z_iload_n (pc := 154) C dX11_unit_154 rfl ?_
      first | with_reducible refine z_imulN (pc := 155) C dX11_unit_155 ?_ | refine z_imul (pc := 155) C dX11_unit_155 ?_
      refine z_iload_n (pc := 156) C dX11_unit_156 rfl ?_
      first | with_reducible refine z_iaddN (pc := 157) C dX11_unit_157 ?_ | refine z_iadd (pc := 157) C dX11_unit_157 ?_
      refine z_iconst (pc := 158) (v := nI 1) C dX11_unit_158 (by decide) ?_
      refine z_iast (pc := 159) (N := 30) C dX11_unit_159 rfl (by omega) (by decide) (hp_m 23 (by decide) hn (by decide)) ?_
      first | refine z_iincN (pc := 160) C dX11_unit_160 rfl (by rw [hE]; decide) ?_ | refine z_iinc (pc := 160) C dX11_unit_160 rfl rfl (by rw [hE]; decide) ?_
      refine z_goto (pc := 163) (tgt := 144) C dX11_unit_163 (by decide) ?_
      -- at 144
      exact ih (i + 1) (by omega) τ hτ e
  have loop1 : ∀ (j i : Nat), i + j = 4 → ZV l Ω E 0 0 83 [(0, rfO Ω 6), (1, .int (nI q)), (2, .int (nI u)), (3, .int (nI i))] [] (hp Ω (itF (s_unitB u) i (s_unitA σ u q))) (hN σ) := by
    intro j
    induction j with
    | zero =>
      intro i hi
      have hn : (itF (s_unitB u) i (s_unitA σ u q)).2.2.2 ≤ 10 := by rw [itF_n (f := s_unitB u) (fun _ _ => rfl)]; exact hn
      refine z_iload_n (pc := 83) C dX11_unit_83 rfl ?_
      refine z_iconst (pc := 84) (v := nI 4) C dX11_unit_84 (by decide) ?_
      -- at 85: if_icmpge 
      refine z_icmp_geT (pc := 85) (tgt := 120) C dX11_unit_85 (by decide) (by omega) (by omega) (by omega) ?_
      first | refine z_aload_n (pc := 120) C dX11_unit_120 rfl ?_ | refine z_aload_nN (pc := 120) C dX11_unit_120 rfl ?_
      refine z_getf (pc := 121) C dX11_unit_121 zf_X11_31_10 rfl rfl ?_
      refine z_iload_n (pc := 124) C dX11_unit_124 rfl ?_
      refine z_iconst (pc := 125) (v := nI 1) C dX11_unit_125 (by decide) ?_
      refine z_iast (pc := 126) (N := 10) C dX11_unit_126 rfl (by omega) (by decide) (hp_m 7 (by decide) hn (by decide)) ?_
      first | refine z_aload_n (pc := 127) C dX11_unit_127 rfl ?_ | refine z_aload_nN (pc := 127) C dX11_unit_127 rfl ?_
      refine z_getf (pc := 128) C dX11_unit_128 zf_X11_34_10 rfl rfl ?_
      refine z_iload_n (pc := 131) C dX11_unit_131 rfl ?_
      refine z_bipush (pc := 132) (v := nI 100) C dX11_unit_132 (by decide) ?_
      refine z_iast (pc := 134) (N := 10) C dX11_unit_134 rfl (by omega) (by decide) (hp_m 8 (by decide) hn (by decide)) ?_
      first | refine z_aload_n (pc := 135) C dX11_unit_135 rfl ?_ | refine z_aload_nN (pc := 135) C dX11_unit_135 rfl ?_
      refine z_getf (pc := 136) C dX11_unit_136 zf_X11_37_10 rfl rfl ?_
      refine z_iload_n (pc := 139) C dX11_unit_139 rfl ?_
      refine z_iconst (pc := 140) (v := (-1)) C dX11_unit_140 (by decide) ?_
      refine z_iast (pc := 141) (N := 10) C dX11_unit_141 rfl (by omega) (by decide) (hp_m 9 (by decide) hn (by decide)) ?_
      refine z_iconst (pc := 142) (v := nI 0) C dX11_unit_142 (by decide) ?_
      refine z_istore_n (pc := 143) C dX11_unit_143 (by rw [hE]; decide) ?_
      -- at 144: iload_3 
      obtain rfl : i = 4 := by omega
      exact loop2 3 0 rfl (s_unitC (itF (s_unitB u) 4 (s_unitA σ u q)) u) (itF_n (f := s_unitB u) (fun _ _ => rfl) (s_unitA σ u q) 4) rfl
    | succ j ih =>
      intro i hi
      have hn : (itF (s_unitB u) i (s_unitA σ u q)).2.2.2 ≤ 10 := by rw [itF_n (f := s_unitB u) (fun _ _ => rfl)]; exact hn
      refine z_iload_n (pc := 83) C dX11_unit_83 rfl ?_
      refine z_iconst (pc := 84) (v := nI 4) C dX11_unit_84 (by decide) ?_
      -- at 85: if_icmpge 
      refine z_icmp_geF (pc := 85) (tgt := 120) C dX11_unit_85 (by decide) (by omega) (by omega) (by omega) ?_
      first | refine z_aload_n (pc := 88) C dX11_unit_88 rfl ?_ | refine z_aload_nN (pc := 88) C dX11_unit_88 rfl ?_
      refine z_getf (pc := 89) C dX11_unit_89 zf_X11_22_10 rfl rfl ?_
      refine z_bipush (pc := 92) (v := nI 16) C dX11_unit_92 (by decide) ?_
      refine z_iload_n (pc := 94) C dX11_unit_94 rfl ?_
      first | with_reducible refine z_imulN (pc := 95) C dX11_unit_95 ?_ | refine z_imul (pc := 95) C dX11_unit_95 ?_
      refine z_iconst (pc := 96) (v := nI 5) C dX11_unit_96 (by decide) ?_
      refine z_iload_n (pc := 97) C dX11_unit_97 rfl ?_
      first | with_reducible refine z_imulN (pc := 98) C dX11_unit_98 ?_ | refine z_imul (pc := 98) C dX11_unit_98 ?_
      first | with_reducible refine z_iaddN (pc := 99) C dX11_unit_99 ?_ | refine z_iadd (pc := 99) C dX11_unit_99 ?_
      refine z_bipush (pc := 100) (v := nI 10) C dX11_unit_100 (by decide) ?_
      refine z_iast (pc := 102) (N := 160) C dX11_unit_102 rfl (by omega) (by decide) (hp_m 4 (by decide) hn (by decide)) ?_
      first | refine z_aload_n (pc := 103) C dX11_unit_103 rfl ?_ | refine z_aload_nN (pc := 103) C dX11_unit_103 rfl ?_
      refine z_getf (pc := 104) C dX11_unit_104 zf_X11_25_10 rfl rfl ?_
      refine z_iconst (pc := 107) (v := nI 4) C dX11_unit_107 (by decide) ?_
      refine z_iload_n (pc := 108) C dX11_unit_108 rfl ?_
      first | with_reducible refine z_imulN (pc := 109) C dX11_unit_109 ?_ | refine z_imul (pc := 109) C dX11_unit_109 ?_
      refine z_iload_n (pc := 110) C dX11_unit_110 rfl ?_
      first | with_reducible refine z_iaddN (pc := 111) C dX11_unit_111 ?_ | refine z_iadd (pc := 111) C dX11_unit_111 ?_
      refine z_iconst (pc := 112) (v := nI 5) C dX11_unit_112 (by decide) ?_
      refine z_iast (pc := 113) (N := 40) C dX11_unit_113 rfl (by omega) (by decide) (hp_m 5 (by decide) hn (by decide)) ?_
      first | refine z_iincN (pc := 114) C dX11_unit_114 rfl (by rw [hE]; decide) ?_ | refine z_iinc (pc := 114) C dX11_unit_114 rfl rfl (by rw [hE]; decide) ?_
      refine z_goto (pc := 117) (tgt := 83) C dX11_unit_117 (by decide) ?_
      -- at 83
      exact ih (i + 1) (by omega)
  have hq7 : inR 0 7 (nI q) := inR_nI (by omega) (by omega) (by decide)
  refine z_iload_n (pc := 0) C dX11_unit_0 rfl ?_
  refine z_iconst (pc := 1) (v := nI 0) C dX11_unit_1 (by decide) ?_
  refine z_bipush (pc := 2) (v := nI 7) C dX11_unit_2 (by decide) ?_
  refine z_callS (pc := 4) C dX11_unit_4 zy_X11_isIn kw_685 kw_686 (ct_X11_isIn l Ω _ _ _ _ _) rfl rfl ⟨⟨by decide, by decide⟩, by decide, by decide⟩ (Nat.le_of_ble_eq_true rfl) ?_; dsimp only [Option.toList_some, List.cons_append, List.nil_append]
  -- at 7: ifne 
  refine z_ifneB (pc := 7) (tgt := 12) C dX11_unit_7 (by decide) (fun h => ?_) (fun h => absurd hq7 h)
  first | refine z_aload_n (pc := 12) C dX11_unit_12 rfl ?_ | refine z_aload_nN (pc := 12) C dX11_unit_12 rfl ?_
  refine z_getf (pc := 13) C dX11_unit_13 zf_X11_93_10 rfl rfl ?_; rw [eu]
  refine z_bipush (pc := 16) (v := nI 10) C dX11_unit_16 (by decide) ?_
  -- at 18: if_icmpne 
  refine z_icmp_neT (pc := 18) (tgt := 24) C dX11_unit_18 (by decide) (by omega) (by omega) (by omega) ?_
  first | refine z_aload_n (pc := 24) C dX11_unit_24 rfl ?_ | refine z_aload_nN (pc := 24) C dX11_unit_24 rfl ?_
  refine z_getf (pc := 25) C dX11_unit_25 zf_X11_93_10 rfl rfl ?_; rw [eu]
  refine z_istore_n (pc := 28) C dX11_unit_28 (by rw [hE]; decide) ?_
  first | refine z_aload_n (pc := 29) C dX11_unit_29 rfl ?_ | refine z_aload_nN (pc := 29) C dX11_unit_29 rfl ?_
  refine z_dup (pc := 30) C dX11_unit_30 rfl ?_
  refine z_getf (pc := 31) C dX11_unit_31 zf_X11_93_10 rfl rfl ?_; rw [eu]
  refine z_iconst (pc := 34) (v := nI 1) C dX11_unit_34 (by decide) ?_
  first | with_reducible refine z_iaddN (pc := 35) C dX11_unit_35 ?_ | refine z_iadd (pc := 35) C dX11_unit_35 ?_
  refine z_putfI (pc := 36) C dX11_unit_36 zp_X11_93_10 rfl (Nat.le_of_ble_eq_true rfl) (hp_mf 0 (by decide) hn) ?_
  first | refine z_aload_n (pc := 39) C dX11_unit_39 rfl ?_ | refine z_aload_nN (pc := 39) C dX11_unit_39 rfl ?_
  refine z_getf (pc := 40) C dX11_unit_40 zf_X11_9_10 rfl rfl ?_
  refine z_iload_n (pc := 43) C dX11_unit_43 rfl ?_
  refine z_iload_n (pc := 44) C dX11_unit_44 rfl ?_
  refine z_iast (pc := 45) (N := 10) C dX11_unit_45 rfl (by omega) (by decide) (hp_m 0 (by decide) hn (by decide)) ?_
  first | refine z_aload_n (pc := 46) C dX11_unit_46 rfl ?_ | refine z_aload_nN (pc := 46) C dX11_unit_46 rfl ?_
  refine z_getf (pc := 47) C dX11_unit_47 zf_X11_13_10 rfl rfl ?_
  refine z_iconst (pc := 50) (v := nI 2) C dX11_unit_50 (by decide) ?_
  refine z_iload_n (pc := 51) C dX11_unit_51 rfl ?_
  first | with_reducible refine z_imulN (pc := 52) C dX11_unit_52 ?_ | refine z_imul (pc := 52) C dX11_unit_52 ?_
  refine z_iconst (pc := 53) (v := (-1)) C dX11_unit_53 (by decide) ?_
  refine z_iast (pc := 54) (N := 20) C dX11_unit_54 rfl (by omega) (by decide) (hp_m 1 (by decide) hn (by decide)) ?_
  first | refine z_aload_n (pc := 55) C dX11_unit_55 rfl ?_ | refine z_aload_nN (pc := 55) C dX11_unit_55 rfl ?_
  refine z_getf (pc := 56) C dX11_unit_56 zf_X11_13_10 rfl rfl ?_
  refine z_iconst (pc := 59) (v := nI 2) C dX11_unit_59 (by decide) ?_
  refine z_iload_n (pc := 60) C dX11_unit_60 rfl ?_
  first | with_reducible refine z_imulN (pc := 61) C dX11_unit_61 ?_ | refine z_imul (pc := 61) C dX11_unit_61 ?_
  refine z_iconst (pc := 62) (v := nI 1) C dX11_unit_62 (by decide) ?_
  first | with_reducible refine z_iaddN (pc := 63) C dX11_unit_63 ?_ | refine z_iadd (pc := 63) C dX11_unit_63 ?_
  refine z_iconst (pc := 64) (v := (-1)) C dX11_unit_64 (by decide) ?_
  refine z_iast (pc := 65) (N := 20) C dX11_unit_65 rfl (by omega) (by decide) (hp_m 1 (by decide) hn (by decide)) ?_
  first | refine z_aload_n (pc := 66) C dX11_unit_66 rfl ?_ | refine z_aload_nN (pc := 66) C dX11_unit_66 rfl ?_
  refine z_getf (pc := 67) C dX11_unit_67 zf_X11_46_10 rfl rfl ?_
  refine z_iload_n (pc := 70) C dX11_unit_70 rfl ?_
  refine z_iload_n (pc := 71) C dX11_unit_71 rfl ?_
  -- at 72: ifne 
  refine z_if_neX (pc := 72) (tgt := 79) C dX11_unit_72 (by decide) (by omega) (fun h => ?_) (fun h => ?_)
  · have h9 := loop1 4 0 rfl
    refine z_iconst (pc := 79) (v := nI 0) C dX11_unit_79 (by decide) ?_
    -- at 80: bastore 
    refine z_zast (pc := 80) (N := 10) C dX11_unit_80 rfl (by decide) (by omega) (by decide) (hp_m 12 (by decide) hn (by decide)) ?_
    refine z_iconst (pc := 81) (v := nI 0) C dX11_unit_81 (by decide) ?_
    refine z_istore_n (pc := 82) C dX11_unit_82 (by rw [hE]; decide) ?_
    -- at 83: iload_3 
    unfold itF s_unitA at h9
    rw [if_neg h] at h9
    exact h9
  · have h9 := loop1 4 0 rfl
    refine z_iconst (pc := 75) (v := nI 1) C dX11_unit_75 (by decide) ?_
    refine z_goto (pc := 76) (tgt := 80) C dX11_unit_76 (by decide) ?_
    -- at 80
    refine z_zast (pc := 80) (N := 10) C dX11_unit_80 rfl (by decide) (by omega) (by decide) (hp_m 12 (by decide) hn (by decide)) ?_
    refine z_iconst (pc := 81) (v := nI 0) C dX11_unit_81 (by decide) ?_
    refine z_istore_n (pc := 82) C dX11_unit_82 (by rw [hE]; decide) ?_
    -- at 83: iload_3 
    unfold itF s_unitA at h9
    rw [if_pos h] at h9
    exact h9
set_option maxHeartbeats 4000000 in
set_option maxRecDepth 100000 in
theorem ct_X11_within (l : Launch) (Ω : OmT) (σ : Sg) (u K L s : Nat) (hu : u < 10) (hK : K ≤ 7) (eK : σ.1 11 13 u = nI K) (hL : L ≤ 20) (eL : σ.1 11 16 u = nI L) (hs : s < 2) : ZM l Ω yX11_within cX11_within 7 (some .long) rm_X11_within [rfO Ω 6, .int (nI u), .int (nI s)] (hp Ω σ) (hN σ) (some (.long (mWithin σ u K L s))) (hp Ω σ) (hN σ) := by
  refine ZM_of (by decide) (Nat.le_of_ble_eq_true rfl) (fun E hE C hQ => ?_)
  have loop3 : ∀ (j k c : Nat) (w : Int64), k + j = L → c < 8 → (ZV l Ω E 0 0 103 [(0, rfO Ω 6), (1, .int (nI u)), (2, .int (nI s)), (3, .long (w + lSum (fun k => (σ.1 11 17 ((20 * u + k) * 8 + c)).toInt64) L)), (5, .int (nI c)), (6, .int (nI L))] [] (hp Ω σ) (hN σ)) → ZV l Ω E 0 0 68 [(0, rfO Ω 6), (1, .int (nI u)), (2, .int (nI s)), (3, .long (w + lSum (fun k => (σ.1 11 17 ((20 * u + k) * 8 + c)).toInt64) k)), (5, .int (nI c)), (6, .int (nI k))] [] (hp Ω σ) (hN σ) := by
    intro j
    induction j with
    | zero =>
      intro k c w hk hc cont
      refine z_iload (pc := 68) C dX11_within_68 rfl ?_
      first | refine z_aload_n (pc := 70) C dX11_within_70 rfl ?_ | refine z_aload_nN (pc := 70) C dX11_within_70 rfl ?_
      refine z_getf (pc := 71) C dX11_within_71 zf_X11_59_10 rfl rfl ?_
      refine z_iload_n (pc := 74) C dX11_within_74 rfl ?_
      refine z_iald (pc := 75) (N := 10) C dX11_within_75 rfl (by omega) (by decide) rfl ?_
      -- at 76: if_icmpge 
      rw [eL]
      refine z_icmp_geT (pc := 76) (tgt := 103) C dX11_within_76 (by decide) (by omega) (by omega) (by omega) ?_
      obtain rfl : k = L := by omega
      exact cont
    | succ j ih =>
      intro k c w hk hc cont
      refine z_iload (pc := 68) C dX11_within_68 rfl ?_
      first | refine z_aload_n (pc := 70) C dX11_within_70 rfl ?_ | refine z_aload_nN (pc := 70) C dX11_within_70 rfl ?_
      refine z_getf (pc := 71) C dX11_within_71 zf_X11_59_10 rfl rfl ?_
      refine z_iload_n (pc := 74) C dX11_within_74 rfl ?_
      refine z_iald (pc := 75) (N := 10) C dX11_within_75 rfl (by omega) (by decide) rfl ?_
      -- at 76: if_icmpge 
      rw [eL]
      refine z_icmp_geF (pc := 76) (tgt := 103) C dX11_within_76 (by decide) (by omega) (by omega) (by omega) ?_
      refine z_lload_n (pc := 79) C dX11_within_79 rfl ?_
      first | refine z_aload_n (pc := 80) C dX11_within_80 rfl ?_ | refine z_aload_nN (pc := 80) C dX11_within_80 rfl ?_
      refine z_getf (pc := 81) C dX11_within_81 zf_X11_62_10 rfl rfl ?_
      first | refine z_aload_n (pc := 84) C dX11_within_84 rfl ?_ | refine z_aload_nN (pc := 84) C dX11_within_84 rfl ?_
      refine z_iload_n (pc := 85) C dX11_within_85 rfl ?_
      refine z_iload (pc := 86) C dX11_within_86 rfl ?_
      refine z_iload (pc := 88) C dX11_within_88 rfl ?_
      refine z_callV (pc := 90) (ci := 10) C dX11_within_90 zy_X11_lotAt kw_761 kw_762 rfl kw_854 rfl (ct_X11_lotAt l Ω _ _ _ _ _) rfl rfl ⟨⟨by decide, by decide⟩, by decide, by decide⟩ (Nat.le_of_ble_eq_true rfl) ?_; dsimp only [Option.toList_some, List.cons_append, List.nil_append]
      refine z_iald (pc := 93) (N := 1600) C dX11_within_93 rfl (by omega) (by decide) rfl ?_
      refine z_i2l (pc := 94) C dX11_within_94 rfl ?_
      refine z_ladd (pc := 95) C dX11_within_95 ?_
      refine z_lstore_n (pc := 96) C dX11_within_96 (by rw [hE]; decide) ?_
      first | refine z_iincN (pc := 97) C dX11_within_97 rfl (by rw [hE]; decide) ?_ | refine z_iinc (pc := 97) C dX11_within_97 rfl rfl (by rw [hE]; decide) ?_
      refine z_goto (pc := 100) (tgt := 68) C dX11_within_100 (by decide) ?_
      -- at 68
      have h9 := ih (k + 1) c w (by omega) hc cont
      rw [show lSum (fun k => (σ.1 11 17 ((20 * u + k) * 8 + c)).toInt64) (k + 1) = lSum (fun k => (σ.1 11 17 ((20 * u + k) * 8 + c)).toInt64) k + (σ.1 11 17 ((20 * u + k) * 8 + c)).toInt64 from rfl, ← Int64.add_assoc] at h9
      exact h9
  have loop2 : ∀ (j k c : Nat) (w : Int64), k + j = K → c < 8 → (ZV l Ω E 0 0 65 [(0, rfO Ω 6), (1, .int (nI u)), (2, .int (nI s)), (3, .long (w + lSum (fun k => (σ.1 11 14 ((7 * u + k) * 8 + c)).toInt64) K)), (5, .int (nI c)), (6, .int (nI K))] [] (hp Ω σ) (hN σ)) → ZV l Ω E 0 0 30 [(0, rfO Ω 6), (1, .int (nI u)), (2, .int (nI s)), (3, .long (w + lSum (fun k => (σ.1 11 14 ((7 * u + k) * 8 + c)).toInt64) k)), (5, .int (nI c)), (6, .int (nI k))] [] (hp Ω σ) (hN σ) := by
    intro j
    induction j with
    | zero =>
      intro k c w hk hc cont
      refine z_iload (pc := 30) C dX11_within_30 rfl ?_
      first | refine z_aload_n (pc := 32) C dX11_within_32 rfl ?_ | refine z_aload_nN (pc := 32) C dX11_within_32 rfl ?_
      refine z_getf (pc := 33) C dX11_within_33 zf_X11_50_10 rfl rfl ?_
      refine z_iload_n (pc := 36) C dX11_within_36 rfl ?_
      refine z_iald (pc := 37) (N := 10) C dX11_within_37 rfl (by omega) (by decide) rfl ?_
      -- at 38: if_icmpge 
      rw [eK]
      refine z_icmp_geT (pc := 38) (tgt := 65) C dX11_within_38 (by decide) (by omega) (by omega) (by omega) ?_
      obtain rfl : k = K := by omega
      exact cont
    | succ j ih =>
      intro k c w hk hc cont
      refine z_iload (pc := 30) C dX11_within_30 rfl ?_
      first | refine z_aload_n (pc := 32) C dX11_within_32 rfl ?_ | refine z_aload_nN (pc := 32) C dX11_within_32 rfl ?_
      refine z_getf (pc := 33) C dX11_within_33 zf_X11_50_10 rfl rfl ?_
      refine z_iload_n (pc := 36) C dX11_within_36 rfl ?_
      refine z_iald (pc := 37) (N := 10) C dX11_within_37 rfl (by omega) (by decide) rfl ?_
      -- at 38: if_icmpge 
      rw [eK]
      refine z_icmp_geF (pc := 38) (tgt := 65) C dX11_within_38 (by decide) (by omega) (by omega) (by omega) ?_
      refine z_lload_n (pc := 41) C dX11_within_41 rfl ?_
      first | refine z_aload_n (pc := 42) C dX11_within_42 rfl ?_ | refine z_aload_nN (pc := 42) C dX11_within_42 rfl ?_
      refine z_getf (pc := 43) C dX11_within_43 zf_X11_53_10 rfl rfl ?_
      first | refine z_aload_n (pc := 46) C dX11_within_46 rfl ?_ | refine z_aload_nN (pc := 46) C dX11_within_46 rfl ?_
      refine z_iload_n (pc := 47) C dX11_within_47 rfl ?_
      refine z_iload (pc := 48) C dX11_within_48 rfl ?_
      refine z_iload (pc := 50) C dX11_within_50 rfl ?_
      refine z_callV (pc := 52) (ci := 10) C dX11_within_52 zy_X11_slotAt kw_752 kw_753 rfl kw_851 rfl (ct_X11_slotAt l Ω _ _ _ _ _) rfl rfl ⟨⟨by decide, by decide⟩, by decide, by decide⟩ (Nat.le_of_ble_eq_true rfl) ?_; dsimp only [Option.toList_some, List.cons_append, List.nil_append]
      refine z_iald (pc := 55) (N := 560) C dX11_within_55 rfl (by omega) (by decide) rfl ?_
      refine z_i2l (pc := 56) C dX11_within_56 rfl ?_
      refine z_ladd (pc := 57) C dX11_within_57 ?_
      refine z_lstore_n (pc := 58) C dX11_within_58 (by rw [hE]; decide) ?_
      first | refine z_iincN (pc := 59) C dX11_within_59 rfl (by rw [hE]; decide) ?_ | refine z_iinc (pc := 59) C dX11_within_59 rfl rfl (by rw [hE]; decide) ?_
      refine z_goto (pc := 62) (tgt := 30) C dX11_within_62 (by decide) ?_
      -- at 30
      have h9 := ih (k + 1) c w (by omega) hc cont
      rw [show lSum (fun k => (σ.1 11 14 ((7 * u + k) * 8 + c)).toInt64) (k + 1) = lSum (fun k => (σ.1 11 14 ((7 * u + k) * 8 + c)).toInt64) k + (σ.1 11 14 ((7 * u + k) * 8 + c)).toInt64 from rfl, ← Int64.add_assoc] at h9
      exact h9
  have loop1 : ∀ (j i : Nat), i + j = 4 → ∀ x6 : List (Nat × Value), x6 = [] ∨ x6 = [(6, .int (nI L))] → ZV l Ω E 0 0 5 ([(0, rfO Ω 6), (1, .int (nI u)), (2, .int (nI s)), (3, .long (lSum (fun i => mWt σ u K L (s + 2 * i)) i)), (5, .int (nI (s + 2 * i)))]) [] (hp Ω σ) (hN σ) := by
    intro j
    induction j with
    | zero =>
      intro i hi x6 hx
      refine z_iload (pc := 5) C dX11_within_5 rfl ?_
      refine z_bipush (pc := 7) (v := nI 8) C dX11_within_7 (by decide) ?_
      -- at 9: if_icmpge 
      refine z_icmp_geT (pc := 9) (tgt := 109) C dX11_within_9 (by decide) (by omega) (by omega) (by omega) ?_
      refine z_lload_n (pc := 109) C dX11_within_109 rfl ?_
      -- at 110: lreturn 
      obtain rfl : i = 4 := by omega
      exact z_lret (pc := 110) C hQ dX11_within_110 rfl rfl rfl (by decide) (by decide)
    | succ j ih =>
      intro i hi x6 hx
      refine z_iload (pc := 5) C dX11_within_5 rfl ?_
      refine z_bipush (pc := 7) (v := nI 8) C dX11_within_7 (by decide) ?_
      -- at 9: if_icmpge 
      refine z_icmp_geF (pc := 9) (tgt := 109) C dX11_within_9 (by decide) (by omega) (by omega) (by omega) ?_
      refine z_lload_n (pc := 12) C dX11_within_12 rfl ?_
      first | refine z_aload_n (pc := 13) C dX11_within_13 rfl ?_ | refine z_aload_nN (pc := 13) C dX11_within_13 rfl ?_
      refine z_getf (pc := 14) C dX11_within_14 zf_X11_16_10 rfl rfl ?_
      refine z_iload_n (pc := 17) C dX11_within_17 rfl ?_
      refine z_iload (pc := 18) C dX11_within_18 rfl ?_
      refine z_callS (pc := 20) C dX11_within_20 zy_X11_spot kw_717 kw_718 (ct_X11_spot l Ω _ _ _ _) rfl rfl ⟨⟨by decide, by decide⟩, by decide, by decide⟩ (Nat.le_of_ble_eq_true rfl) ?_; dsimp only [Option.toList_some, List.cons_append, List.nil_append]
      refine z_iald (pc := 23) (N := 80) C dX11_within_23 rfl (by omega) (by decide) rfl ?_
      refine z_i2l (pc := 24) C dX11_within_24 rfl ?_
      refine z_ladd (pc := 25) C dX11_within_25 ?_
      refine z_lstore_n (pc := 26) C dX11_within_26 (by rw [hE]; decide) ?_
      refine z_iconst (pc := 27) (v := nI 0) C dX11_within_27 (by decide) ?_
      refine z_istore (pc := 28) C dX11_within_28 (by rw [hE]; decide) ?_
      -- at 30: iload 
      have h9 := ih (i + 1) (by omega) [] (Or.inl rfl)
      rw [show lSum (fun i => mWt σ u K L (s + 2 * i)) (i + 1) = lSum (fun i => mWt σ u K L (s + 2 * i)) i + mWt σ u K L (s + 2 * i) from rfl] at h9
      have h8 := loop2 K 0 (s + 2 * i) (lSum (fun i => mWt σ u K L (s + 2 * i)) i + (σ.1 11 2 (8 * u + (s + 2 * i))).toInt64) (by omega) (by omega) (by
        refine z_iconst (pc := 65) (v := nI 0) C dX11_within_65 (by decide) ?_
        refine z_istore (pc := 66) C dX11_within_66 (by rw [hE]; decide) ?_
        -- at 68: iload 
        have h7 := loop3 L 0 (s + 2 * i) (lSum (fun i => mWt σ u K L (s + 2 * i)) i + (σ.1 11 2 (8 * u + (s + 2 * i))).toInt64 + lSum (fun k => (σ.1 11 14 ((7 * u + k) * 8 + (s + 2 * i))).toInt64) K) (by omega) (by omega) (by
          refine z_iinc (pc := 103) (v := nI (s + 2 * (i + 1))) C dX11_within_103 rfl ?_ (by rw [hE]; decide) ?_
          · show nI (s + 2 * i) + nI 2 = _
            rw [nI_add]
            rfl
          refine z_goto (pc := 106) (tgt := 5) C dX11_within_106 (by decide) ?_
          -- at 5
          refine z_pick [0, 1, 2, 3, 5] rfl ?_
          rw [show mWt σ u K L (s + 2 * i) = (σ.1 11 2 (8 * u + (s + 2 * i))).toInt64 + lSum (fun k => (σ.1 11 14 ((7 * u + k) * 8 + (s + 2 * i))).toInt64) K + lSum (fun k => (σ.1 11 17 ((20 * u + k) * 8 + (s + 2 * i))).toInt64) L from rfl, ← Int64.add_assoc, ← Int64.add_assoc] at h9
          exact h9)
        rw [show ∀ f : Nat → Int64, lSum f 0 = 0 from fun _ => rfl, Int64.add_zero] at h7
        exact h7)
      rw [show ∀ f : Nat → Int64, lSum f 0 = 0 from fun _ => rfl, Int64.add_zero] at h8
      exact h8
  refine z_lconst (pc := 0) (v := 0) C dX11_within_0 (by decide) ?_
  refine z_lstore_n (pc := 1) C dX11_within_1 (by rw [hE]; decide) ?_
  refine z_iload_n (pc := 2) C dX11_within_2 rfl ?_
  refine z_istore (pc := 3) C dX11_within_3 (by rw [hE]; decide) ?_
  -- at 5: iload 
  exact loop1 4 0 rfl [] (Or.inl rfl)
set_option maxHeartbeats 4000000 in
set_option maxRecDepth 100000 in
theorem ct_X11_sum_n (l : Launch) (Ω : OmT) (σ : Sg) (s w : Int32) (h : ¬ (inR 0 1 s ∧ inR 0 3 w)) : ZM l Ω yX11_sum cX11_sum 7 (some .long) rm_X11_sum [rfO Ω 6, .int s, .int w] (hp Ω σ) (hN σ) (some (.long (-9223372036854775808))) (hp Ω σ) (hN σ) := by
  refine ZM_of (by decide) (Nat.le_of_ble_eq_true rfl) (fun E hE C hQ => ?_)
  refine z_iload_n (pc := 0) C dX11_sum_0 rfl ?_
  refine z_iconst (pc := 1) (v := nI 0) C dX11_sum_1 (by decide) ?_
  refine z_iconst (pc := 2) (v := nI 1) C dX11_sum_2 (by decide) ?_
  refine z_callS (pc := 3) C dX11_sum_3 zy_X11_isIn kw_685 kw_686 (ct_X11_isIn l Ω _ _ _ _ _) rfl rfl ⟨⟨by decide, by decide⟩, by decide, by decide⟩ (Nat.le_of_ble_eq_true rfl) ?_; dsimp only [Option.toList_some, List.cons_append, List.nil_append]
  refine z_ifeqB (pc := 6) (tgt := 18) C dX11_sum_6 (by decide) (fun h6 => ?_) (fun h6 => ?_)
  · refine z_ldc2 (pc := 18) (v := -9223372036854775808) C dX11_sum_18 kw_795 ?_
    exact z_lret (pc := 21) C hQ dX11_sum_21 (by clear hQ C hE; first | rfl | (simp [h6]; done) | (simp_all []; done)) (by clear hQ C hE; first | rfl | (simp [h6]; done) | (simp_all []; done)) (by clear hQ C hE; first | rfl | (simp [h6]; done) | (simp_all []; done)) (by decide) (by decide)
  · refine z_iload_n (pc := 9) C dX11_sum_9 rfl ?_
    refine z_iconst (pc := 10) (v := nI 0) C dX11_sum_10 (by decide) ?_
    refine z_iconst (pc := 11) (v := nI 3) C dX11_sum_11 (by decide) ?_
    refine z_callS (pc := 12) C dX11_sum_12 zy_X11_isIn kw_685 kw_686 (ct_X11_isIn l Ω _ _ _ _ _) rfl rfl ⟨⟨by decide, by decide⟩, by decide, by decide⟩ (Nat.le_of_ble_eq_true rfl) ?_; dsimp only [Option.toList_some, List.cons_append, List.nil_append]
    refine z_ifneB (pc := 15) (tgt := 22) C dX11_sum_15 (by decide) (fun h15 => ?_) (fun h15 => ?_)
    · exact absurd ⟨h6, h15⟩ h
    · refine z_ldc2 (pc := 18) (v := -9223372036854775808) C dX11_sum_18 kw_795 ?_
      exact z_lret (pc := 21) C hQ dX11_sum_21 (by clear hQ C hE; first | rfl | (simp [h6, h15]; done) | (simp_all []; done)) (by clear hQ C hE; first | rfl | (simp [h6, h15]; done) | (simp_all []; done)) (by clear hQ C hE; first | rfl | (simp [h6, h15]; done) | (simp_all []; done)) (by decide) (by decide)
set_option maxHeartbeats 4000000 in
set_option maxRecDepth 100000 in
theorem ct_X11_sum (l : Launch) (Ω : OmT) (σ : Sg) (hw : MW σ) (K L : Nat → Nat) (hK : ∀ u, u < σ.2.2.2 → K u ≤ 7 ∧ σ.1 11 13 u = nI (K u)) (hL : ∀ u, u < σ.2.2.2 → L u ≤ 20 ∧ σ.1 11 16 u = nI (L u)) (s w : Nat) (hs : s < 2) (hw4 : w < 4) : ZM l Ω yX11_sum cX11_sum 7 (some .long) rm_X11_sum [rfO Ω 6, .int (nI s), .int (nI w)] (hp Ω σ) (hN σ) (some (.long (r_sum σ K L s w))) (hp Ω σ) (hN σ) := by
  refine ZM_of (by decide) (Nat.le_of_ble_eq_true rfl) (fun E hE C hQ => ?_)
  have hn := hw.1
  have step : ∀ (u : Nat) (acc : Int64), u < σ.2.2.2 → 0 < w → (ZV l Ω E 0 0 38 [(0, rfO Ω 6), (1, .int (nI s)), (2, .int (nI w)), (3, .long (r_sumU σ K L s w u acc)), (5, .int (nI (u + 1)))] [] (hp Ω σ) (hN σ)) → ZV l Ω E 0 0 83 [(0, rfO Ω 6), (1, .int (nI s)), (2, .int (nI w)), (3, .long acc), (5, .int (nI u))] [] (hp Ω σ) (hN σ) := by
    intro u acc hu hw0 cont
    obtain ⟨e1, e2⟩ := hw.2.2 u hu
    unfold r_sumU at cont
    refine z_iload_n (pc := 83) C dX11_sum_83 rfl ?_
    first | refine z_aload_n (pc := 84) C dX11_sum_84 rfl ?_ | refine z_aload_nN (pc := 84) C dX11_sum_84 rfl ?_
    refine z_getf (pc := 85) C dX11_sum_85 zf_X11_9_10 rfl rfl ?_
    refine z_iload (pc := 88) C dX11_sum_88 rfl ?_
    refine z_iald (pc := 90) (N := 10) C dX11_sum_90 rfl (by omega) (by decide) rfl ?_; rw [e1]
    refine z_bipush (pc := 91) (v := nI 7) C dX11_sum_91 (by decide) ?_
    -- at 93: if_icmpne 
    refine z_icmp_neX (pc := 93) (tgt := 100) C dX11_sum_93 (by decide) (by omega) (by decide) (fun h => ?_) (fun h => ?_)
    · refine z_iconst (pc := 100) (v := nI 3) C dX11_sum_100 (by decide) ?_
      -- at 101: if_icmpne 
      refine z_icmp_neX (pc := 101) (tgt := 114) C dX11_sum_101 (by decide) (by omega) (by decide) (fun h3 => ?_) (fun h3 => ?_)
      · rw [if_neg (by rw [if_neg h]; exact h3)] at cont
        first | refine z_iincN (pc := 114) C dX11_sum_114 rfl (by rw [hE]; decide) ?_ | refine z_iinc (pc := 114) C dX11_sum_114 rfl rfl (by rw [hE]; decide) ?_
        refine z_goto (pc := 117) (tgt := 38) C dX11_sum_117 (by decide) ?_
        -- at 38
        exact cont
      · rw [if_pos (by rw [if_neg h]; exact h3)] at cont
        refine z_lload_n (pc := 104) C dX11_sum_104 rfl ?_
        first | refine z_aload_n (pc := 105) C dX11_sum_105 rfl ?_ | refine z_aload_nN (pc := 105) C dX11_sum_105 rfl ?_
        refine z_iload (pc := 106) C dX11_sum_106 rfl ?_
        refine z_iload_n (pc := 108) C dX11_sum_108 rfl ?_
        refine z_callV (pc := 109) (ci := 10) C dX11_sum_109 zy_X11_within kw_796 kw_797 rfl kw_861 rfl (ct_X11_within l Ω σ u (K u) (L u) s (by omega) (hK u hu).1 (hK u hu).2 (hL u hu).1 (hL u hu).2 hs) rfl rfl ⟨⟨by decide, by decide⟩, by decide, by decide⟩ (Nat.le_of_ble_eq_true rfl) ?_; dsimp only [Option.toList_some, List.cons_append, List.nil_append]
        refine z_ladd (pc := 112) C dX11_sum_112 ?_
        refine z_lstore_n (pc := 113) C dX11_sum_113 (by rw [hE]; decide) ?_
        first | refine z_iincN (pc := 114) C dX11_sum_114 rfl (by rw [hE]; decide) ?_ | refine z_iinc (pc := 114) C dX11_sum_114 rfl rfl (by rw [hE]; decide) ?_
        refine z_goto (pc := 117) (tgt := 38) C dX11_sum_117 (by decide) ?_
        -- at 38
        exact cont
    · refine z_iconst (pc := 96) (v := nI 1) C dX11_sum_96 (by decide) ?_
      refine z_goto (pc := 97) (tgt := 101) C dX11_sum_97 (by decide) ?_
      -- at 101: if_icmpne 
      refine z_icmp_neX (pc := 101) (tgt := 114) C dX11_sum_101 (by decide) (by omega) (by decide) (fun h3 => ?_) (fun h3 => ?_)
      · rw [if_neg (by rw [if_pos h]; exact h3)] at cont
        first | refine z_iincN (pc := 114) C dX11_sum_114 rfl (by rw [hE]; decide) ?_ | refine z_iinc (pc := 114) C dX11_sum_114 rfl rfl (by rw [hE]; decide) ?_
        refine z_goto (pc := 117) (tgt := 38) C dX11_sum_117 (by decide) ?_
        -- at 38
        exact cont
      · rw [if_pos (by rw [if_pos h]; exact h3)] at cont
        refine z_lload_n (pc := 104) C dX11_sum_104 rfl ?_
        first | refine z_aload_n (pc := 105) C dX11_sum_105 rfl ?_ | refine z_aload_nN (pc := 105) C dX11_sum_105 rfl ?_
        refine z_iload (pc := 106) C dX11_sum_106 rfl ?_
        refine z_iload_n (pc := 108) C dX11_sum_108 rfl ?_
        refine z_callV (pc := 109) (ci := 10) C dX11_sum_109 zy_X11_within kw_796 kw_797 rfl kw_861 rfl (ct_X11_within l Ω σ u (K u) (L u) s (by omega) (hK u hu).1 (hK u hu).2 (hL u hu).1 (hL u hu).2 hs) rfl rfl ⟨⟨by decide, by decide⟩, by decide, by decide⟩ (Nat.le_of_ble_eq_true rfl) ?_; dsimp only [Option.toList_some, List.cons_append, List.nil_append]
        refine z_ladd (pc := 112) C dX11_sum_112 ?_
        refine z_lstore_n (pc := 113) C dX11_sum_113 (by rw [hE]; decide) ?_
        first | refine z_iincN (pc := 114) C dX11_sum_114 rfl (by rw [hE]; decide) ?_ | refine z_iinc (pc := 114) C dX11_sum_114 rfl rfl (by rw [hE]; decide) ?_
        refine z_goto (pc := 117) (tgt := 38) C dX11_sum_117 (by decide) ?_
        -- at 38
        exact cont
  have spl : ∀ (j i u : Nat) (acc : Int64), i + j = 4 → u < σ.2.2.2 → w = 2 → (ZV l Ω E 0 0 83 [(0, rfO Ω 6), (1, .int (nI s)), (2, .int (nI w)), (3, .long (acc + lSum (fun i => σ.2.1 20 (8 * u + (s + 2 * i))) 4)), (5, .int (nI u))] [] (hp Ω σ) (hN σ)) → ZV l Ω E 0 0 50 [(0, rfO Ω 6), (1, .int (nI s)), (2, .int (nI w)), (3, .long (acc + lSum (fun i => σ.2.1 20 (8 * u + (s + 2 * i))) i)), (5, .int (nI u)), (6, .int (nI (s + 2 * i)))] [] (hp Ω σ) (hN σ) := by
    intro j
    induction j with
    | zero =>
      intro i u acc hi hu h2 cont
      refine z_iload (pc := 50) C dX11_sum_50 rfl ?_
      refine z_bipush (pc := 52) (v := nI 8) C dX11_sum_52 (by decide) ?_
      -- at 54: if_icmpge 
      refine z_icmp_geT (pc := 54) (tgt := 83) C dX11_sum_54 (by decide) (by omega) (by omega) (by omega) ?_
      obtain rfl : i = 4 := by omega
      refine z_pick [0, 1, 2, 3, 5] rfl ?_
      exact cont
    | succ j ih =>
      intro i u acc hi hu h2 cont
      have h9 := ih (i + 1) u acc (by omega) hu h2 cont
      rw [show lSum (fun i => σ.2.1 20 (8 * u + (s + 2 * i))) (i + 1) = lSum (fun i => σ.2.1 20 (8 * u + (s + 2 * i))) i + σ.2.1 20 (8 * u + (s + 2 * i)) from rfl, ← Int64.add_assoc] at h9
      refine z_iload (pc := 50) C dX11_sum_50 rfl ?_
      refine z_bipush (pc := 52) (v := nI 8) C dX11_sum_52 (by decide) ?_
      -- at 54: if_icmpge 
      refine z_icmp_geF (pc := 54) (tgt := 83) C dX11_sum_54 (by decide) (by omega) (by omega) (by omega) ?_
      refine z_iload_n (pc := 57) C dX11_sum_57 rfl ?_
      refine z_iconst (pc := 58) (v := nI 2) C dX11_sum_58 (by decide) ?_
      -- at 59: if_icmpne 
      refine z_icmp_neF (pc := 59) (tgt := 83) C dX11_sum_59 (by decide) (by omega) (by omega) (by omega) ?_
      refine z_lload_n (pc := 62) C dX11_sum_62 rfl ?_
      first | refine z_aload_n (pc := 63) C dX11_sum_63 rfl ?_ | refine z_aload_nN (pc := 63) C dX11_sum_63 rfl ?_
      refine z_getf (pc := 64) C dX11_sum_64 zf_X11_72_10 rfl rfl ?_
      refine z_iload (pc := 67) C dX11_sum_67 rfl ?_
      refine z_iload (pc := 69) C dX11_sum_69 rfl ?_
      refine z_callS (pc := 71) C dX11_sum_71 zy_X11_spot kw_717 kw_718 (ct_X11_spot l Ω _ _ _ _) rfl rfl ⟨⟨by decide, by decide⟩, by decide, by decide⟩ (Nat.le_of_ble_eq_true rfl) ?_; dsimp only [Option.toList_some, List.cons_append, List.nil_append]
      refine z_lald (pc := 74) (N := 80) C dX11_sum_74 rfl (by omega) (by decide) rfl ?_
      refine z_ladd (pc := 75) C dX11_sum_75 ?_
      refine z_lstore_n (pc := 76) C dX11_sum_76 (by rw [hE]; decide) ?_
      -- at 77: iinc 
      refine z_iinc (pc := 77) (v := nI (s + 2 * (i + 1))) C dX11_sum_77 rfl ?_ (by rw [hE]; decide) ?_
      · show nI (s + 2 * i) + nI 2 = _
        rw [nI_add]
        rfl
      refine z_goto (pc := 80) (tgt := 50) C dX11_sum_80 (by decide) ?_
      -- at 50
      exact h9
  have loop : ∀ (j u : Nat), u + j = σ.2.2.2 → 0 < w → ZV l Ω E 0 0 38 [(0, rfO Ω 6), (1, .int (nI s)), (2, .int (nI w)), (3, .long (r_sumT σ K L s w u)), (5, .int (nI u))] [] (hp Ω σ) (hN σ) := by
    intro j
    induction j with
    | zero =>
      intro u hu hw0
      refine z_iload (pc := 38) C dX11_sum_38 rfl ?_
      first | refine z_aload_n (pc := 40) C dX11_sum_40 rfl ?_ | refine z_aload_nN (pc := 40) C dX11_sum_40 rfl ?_
      refine z_getf (pc := 41) C dX11_sum_41 zf_X11_93_10 rfl rfl ?_; rw [hw.2.1]
      -- at 44: if_icmpge 
      refine z_icmp_geT (pc := 44) (tgt := 120) C dX11_sum_44 (by decide) (by omega) (by omega) (by omega) ?_
      refine z_lload_n (pc := 120) C dX11_sum_120 rfl ?_
      -- at 121: lreturn 
      obtain rfl : u = σ.2.2.2 := by omega
      exact z_lret (pc := 121) C hQ dX11_sum_121 (by unfold r_sum; rw [if_neg (by omega)]) rfl rfl (by decide) (by decide)
    | succ j ih =>
      intro u hu hw0
      have h9 := ih (u + 1) (by omega) hw0
      refine z_iload (pc := 38) C dX11_sum_38 rfl ?_
      first | refine z_aload_n (pc := 40) C dX11_sum_40 rfl ?_ | refine z_aload_nN (pc := 40) C dX11_sum_40 rfl ?_
      refine z_getf (pc := 41) C dX11_sum_41 zf_X11_93_10 rfl rfl ?_; rw [hw.2.1]
      -- at 44: if_icmpge 
      refine z_icmp_geF (pc := 44) (tgt := 120) C dX11_sum_44 (by decide) (by omega) (by omega) (by omega) ?_
      refine z_iload_n (pc := 47) C dX11_sum_47 rfl ?_
      refine z_istore (pc := 48) C dX11_sum_48 (by rw [hE]; decide) ?_
      -- at 50: iload 
      by_cases h2 : w = 2
      · have h8 := step u (r_sumT σ K L s w u + lSum (fun i => σ.2.1 20 (8 * u + (s + 2 * i))) 4) (by omega) hw0 (by
          rw [show r_sumT σ K L s w (u + 1) = r_sumU σ K L s w u (if w = 2 then r_sumT σ K L s w u + lSum (fun i => σ.2.1 20 (8 * u + (s + 2 * i))) 4 else r_sumT σ K L s w u) from rfl, if_pos h2] at h9
          exact h9)
        have h7 := spl 4 0 u (r_sumT σ K L s w u) rfl (by omega) h2 h8
        rw [show ∀ f : Nat → Int64, lSum f 0 = 0 from fun _ => rfl, Int64.add_zero] at h7
        exact h7
      · have h8 := step u (r_sumT σ K L s w u) (by omega) hw0 (by
          rw [show r_sumT σ K L s w (u + 1) = r_sumU σ K L s w u (if w = 2 then r_sumT σ K L s w u + lSum (fun i => σ.2.1 20 (8 * u + (s + 2 * i))) 4 else r_sumT σ K L s w u) from rfl, if_neg h2] at h9
          exact h9)
        refine z_iload (pc := 50) C dX11_sum_50 rfl ?_
        refine z_bipush (pc := 52) (v := nI 8) C dX11_sum_52 (by decide) ?_
        -- at 54: if_icmpge 
        refine z_icmp_geF (pc := 54) (tgt := 83) C dX11_sum_54 (by decide) (by omega) (by omega) (by omega) ?_
        refine z_iload_n (pc := 57) C dX11_sum_57 rfl ?_
        refine z_iconst (pc := 58) (v := nI 2) C dX11_sum_58 (by decide) ?_
        -- at 59: if_icmpne 
        refine z_icmp_neT (pc := 59) (tgt := 83) C dX11_sum_59 (by decide) (by omega) (by omega) (by omega) ?_
        refine z_pick [0, 1, 2, 3, 5] rfl ?_
        exact h8
  have hs1 : inR 0 1 (nI s) := inR_nI (by omega) (by omega) (by decide)
  have hw1 : inR 0 3 (nI w) := inR_nI (by omega) (by omega) (by decide)
  refine z_iload_n (pc := 0) C dX11_sum_0 rfl ?_
  refine z_iconst (pc := 1) (v := nI 0) C dX11_sum_1 (by decide) ?_
  refine z_iconst (pc := 2) (v := nI 1) C dX11_sum_2 (by decide) ?_
  refine z_callS (pc := 3) C dX11_sum_3 zy_X11_isIn kw_685 kw_686 (ct_X11_isIn l Ω _ _ _ _ _) rfl rfl ⟨⟨by decide, by decide⟩, by decide, by decide⟩ (Nat.le_of_ble_eq_true rfl) ?_; dsimp only [Option.toList_some, List.cons_append, List.nil_append]
  -- at 6: ifeq 
  refine z_ifeqB (pc := 6) (tgt := 18) C dX11_sum_6 (by decide) (fun h => absurd hs1 h) (fun h => ?_)
  refine z_iload_n (pc := 9) C dX11_sum_9 rfl ?_
  refine z_iconst (pc := 10) (v := nI 0) C dX11_sum_10 (by decide) ?_
  refine z_iconst (pc := 11) (v := nI 3) C dX11_sum_11 (by decide) ?_
  refine z_callS (pc := 12) C dX11_sum_12 zy_X11_isIn kw_685 kw_686 (ct_X11_isIn l Ω _ _ _ _ _) rfl rfl ⟨⟨by decide, by decide⟩, by decide, by decide⟩ (Nat.le_of_ble_eq_true rfl) ?_; dsimp only [Option.toList_some, List.cons_append, List.nil_append]
  -- at 15: ifne 
  refine z_ifneB (pc := 15) (tgt := 22) C dX11_sum_15 (by decide) (fun h => ?_) (fun h => absurd hw1 h)
  refine z_iload_n (pc := 22) C dX11_sum_22 rfl ?_
  -- at 23: ifne 
  refine z_if_neX (pc := 23) (tgt := 33) C dX11_sum_23 (by decide) (by omega) (fun h => ?_) (fun h => ?_)
  · refine z_lconst (pc := 33) (v := 0) C dX11_sum_33 (by decide) ?_
    refine z_lstore_n (pc := 34) C dX11_sum_34 (by rw [hE]; decide) ?_
    refine z_iconst (pc := 35) (v := nI 0) C dX11_sum_35 (by decide) ?_
    refine z_istore (pc := 36) C dX11_sum_36 (by rw [hE]; decide) ?_
    -- at 38: iload 
    exact loop σ.2.2.2 0 (by omega) (by omega)
  · first | refine z_aload_n (pc := 26) C dX11_sum_26 rfl ?_ | refine z_aload_nN (pc := 26) C dX11_sum_26 rfl ?_
    refine z_getf (pc := 27) C dX11_sum_27 zf_X11_68_10 rfl rfl ?_
    refine z_iload_n (pc := 30) C dX11_sum_30 rfl ?_
    refine z_lald (pc := 31) (N := 2) C dX11_sum_31 rfl (by omega) (by decide) rfl ?_
    -- at 32: lreturn 
    exact z_lret (pc := 32) C hQ dX11_sum_32 (by unfold r_sum; rw [if_pos h]) rfl rfl (by decide) (by decide)
