/-! ===== the reference: piles ===== -/
set_option maxHeartbeats 4000000 in
set_option maxRecDepth 100000 in
theorem ct_X11_piles (l : Launch) (Ω : OmT) (σ : Sg) (u L : Nat) (hn : σ.2.2.2 ≤ 10) (hu : u < 10) (hL : L ≤ 20) (eL : σ.1 11 16 u = nI L) : ZM l Ω yX11_piles cX11_piles 7 none rm_X11_piles [rfO Ω 6, .int (nI u)] (hp Ω σ) (hN σ) (none) (hp Ω (mPile σ u L)) (hN σ) := by
  refine ZM_of (by decide) (Nat.le_of_ble_eq_true rfl) (fun E hE C hQ => ?_)
  have hn0 := hn
  have lastI : ∀ (ρ : Sg) (g k : Nat), ρ.2.2.2 ≤ 10 → k + g < 20 → (ZV l Ω E 0 0 286 [(0, rfO Ω 6), (1, .int (nI u)), (2, .int (nI g)), (5, .int (nI k)), (6, .int (nI 8))] [] (hp Ω (itF (plM u g k) 8 ρ)) (hN σ)) → ∀ (j c : Nat), c + j = 8 → ZV l Ω E 0 0 243 [(0, rfO Ω 6), (1, .int (nI u)), (2, .int (nI g)), (5, .int (nI k)), (6, .int (nI c))] [] (hp Ω (itF (plM u g k) c ρ)) (hN σ) := by
    intro ρ g k hρ hk cont j
    induction j with
    | zero =>
      intro c hc
      obtain rfl : c = 8 := by omega
      refine z_iload (pc := 243) C dX11_piles_243 rfl ?_
      refine z_bipush (pc := 245) (v := nI 8) C dX11_piles_245 (by decide) ?_
      -- at 247: if_icmpge 
      refine z_icmp_geT (pc := 247) (tgt := 286) C dX11_piles_247 (by decide) (by omega) (by omega) (by omega) ?_
      exact cont
    | succ j ih =>
      intro c hc
      have hn : (itF (plM u g k) c ρ).2.2.2 ≤ 10 := by rw [itF_n (f := plM u g k) (fun _ _ => rfl)]; exact hρ
      refine z_iload (pc := 243) C dX11_piles_243 rfl ?_
      refine z_bipush (pc := 245) (v := nI 8) C dX11_piles_245 (by decide) ?_
      -- at 247: if_icmpge 
      refine z_icmp_geF (pc := 247) (tgt := 286) C dX11_piles_247 (by decide) (by omega) (by omega) (by omega) ?_
      first | refine z_aload_n (pc := 250) C dX11_piles_250 rfl ?_ | refine z_aload_nN (pc := 250) C dX11_piles_250 rfl ?_
      refine z_getf (pc := 251) C dX11_piles_251 zf_X11_62_10 rfl rfl ?_
      first | refine z_aload_n (pc := 254) C dX11_piles_254 rfl ?_ | refine z_aload_nN (pc := 254) C dX11_piles_254 rfl ?_
      refine z_iload_n (pc := 255) C dX11_piles_255 rfl ?_
      refine z_iload (pc := 256) C dX11_piles_256 rfl ?_
      refine z_iload (pc := 258) C dX11_piles_258 rfl ?_
      refine z_callV (pc := 260) (ci := 10) C dX11_piles_260 zy_X11_lotAt kw_761 kw_762 rfl kw_854 rfl (ct_X11_lotAt l Ω _ _ _ _ _) rfl rfl ⟨⟨by decide, by decide⟩, by decide, by decide⟩ (Nat.le_of_ble_eq_true rfl) ?_; dsimp only [Option.toList_some, List.cons_append, List.nil_append]
      first | refine z_aload_n (pc := 263) C dX11_piles_263 rfl ?_ | refine z_aload_nN (pc := 263) C dX11_piles_263 rfl ?_
      refine z_getf (pc := 264) C dX11_piles_264 zf_X11_62_10 rfl rfl ?_
      first | refine z_aload_n (pc := 267) C dX11_piles_267 rfl ?_ | refine z_aload_nN (pc := 267) C dX11_piles_267 rfl ?_
      refine z_iload_n (pc := 268) C dX11_piles_268 rfl ?_
      refine z_iload (pc := 269) C dX11_piles_269 rfl ?_
      refine z_iload_n (pc := 271) C dX11_piles_271 rfl ?_
      first | with_reducible refine z_iaddN (pc := 272) C dX11_piles_272 ?_ | refine z_iadd (pc := 272) C dX11_piles_272 ?_
      refine z_iload (pc := 273) C dX11_piles_273 rfl ?_
      refine z_callV (pc := 275) (ci := 10) C dX11_piles_275 zy_X11_lotAt kw_761 kw_762 rfl kw_854 rfl (ct_X11_lotAt l Ω _ _ _ _ _) rfl rfl ⟨⟨by decide, by decide⟩, by decide, by decide⟩ (Nat.le_of_ble_eq_true rfl) ?_; dsimp only [Option.toList_some, List.cons_append, List.nil_append]
      refine z_iald (pc := 278) (N := 1600) C dX11_piles_278 rfl (by omega) (by decide) rfl ?_
      refine z_iast (pc := 279) (N := 1600) C dX11_piles_279 rfl (by omega) (by decide) (hp_m 17 (by decide) hn (by decide)) ?_
      first | refine z_iincN (pc := 280) C dX11_piles_280 rfl (by rw [hE]; decide) ?_ | refine z_iinc (pc := 280) C dX11_piles_280 rfl rfl (by rw [hE]; decide) ?_
      refine z_goto (pc := 283) (tgt := 243) C dX11_piles_283 (by decide) ?_
      -- at 243
      exact ih (c + 1) (by omega)
  have last : ∀ (τ : Sg) (g M : Nat), τ.2.2.2 ≤ 10 → g + M ≤ 20 → τ.1 11 16 u = nI M → mPile σ u L = itF (fun k τ => itF (plM u g k) 8 τ) M τ → ∀ (j k : Nat), k + j = M → ZV l Ω E 0 0 229 [(0, rfO Ω 6), (1, .int (nI u)), (2, .int (nI g)), (5, .int (nI k))] [] (hp Ω (itF (fun k τ => itF (plM u g k) 8 τ) k τ)) (hN σ) := by
    intro τ g M hτ hgM eM eP j
    induction j with
    | zero =>
      intro k hk
      obtain rfl : k = M := by omega
      have e16 : (itF (fun k τ => itF (plM u g k) 8 τ) k τ).1 11 16 = τ.1 11 16 := itF_row (f := fun k τ => itF (plM u g k) 8 τ) (fun τ => τ.1 11 16) (fun c τ => itF_row (f := plM u g c) (fun τ => τ.1 11 16) (fun c τ => by funext j; simp [plM, sI]) τ 8) τ k
      refine z_iload (pc := 229) C dX11_piles_229 rfl ?_
      first | refine z_aload_n (pc := 231) C dX11_piles_231 rfl ?_ | refine z_aload_nN (pc := 231) C dX11_piles_231 rfl ?_
      refine z_getf (pc := 232) C dX11_piles_232 zf_X11_59_10 rfl rfl ?_
      refine z_iload_n (pc := 235) C dX11_piles_235 rfl ?_
      refine z_iald (pc := 236) (N := 10) C dX11_piles_236 rfl (by omega) (by decide) rfl ?_; rw [e16, eM]
      -- at 237: if_icmpge 
      refine z_icmp_geT (pc := 237) (tgt := 292) C dX11_piles_237 (by decide) (by omega) (by omega) (by omega) ?_
      exact z_vret (pc := 292) C hQ dX11_piles_292 rfl (by rw [eP]) rfl (by decide) (by decide)
    | succ j ih =>
      intro k hk
      have h9 := ih (k + 1) (by omega)
      have e16 : (itF (fun k τ => itF (plM u g k) 8 τ) k τ).1 11 16 = τ.1 11 16 := itF_row (f := fun k τ => itF (plM u g k) 8 τ) (fun τ => τ.1 11 16) (fun c τ => itF_row (f := plM u g c) (fun τ => τ.1 11 16) (fun c τ => by funext j; simp [plM, sI]) τ 8) τ k
      have hn : (itF (fun k τ => itF (plM u g k) 8 τ) k τ).2.2.2 ≤ 10 := by rw [itF_n (f := fun k τ => itF (plM u g k) 8 τ) (fun c τ => itF_n (f := plM u g c) (fun _ _ => rfl) τ 8)]; exact hτ
      refine z_iload (pc := 229) C dX11_piles_229 rfl ?_
      first | refine z_aload_n (pc := 231) C dX11_piles_231 rfl ?_ | refine z_aload_nN (pc := 231) C dX11_piles_231 rfl ?_
      refine z_getf (pc := 232) C dX11_piles_232 zf_X11_59_10 rfl rfl ?_
      refine z_iload_n (pc := 235) C dX11_piles_235 rfl ?_
      refine z_iald (pc := 236) (N := 10) C dX11_piles_236 rfl (by omega) (by decide) rfl ?_; rw [e16, eM]
      -- at 237: if_icmpge 
      refine z_icmp_geF (pc := 237) (tgt := 292) C dX11_piles_237 (by decide) (by omega) (by omega) (by omega) ?_
      refine z_iconst (pc := 240) (v := nI 0) C dX11_piles_240 (by decide) ?_
      refine z_istore (pc := 241) C dX11_piles_241 (by rw [hE]; decide) ?_
      -- at 243: iload 
      refine lastI _ g k hn (by omega) ?_ 8 0 rfl
      first | refine z_iincN (pc := 286) C dX11_piles_286 rfl (by rw [hE]; decide) ?_ | refine z_iinc (pc := 286) C dX11_piles_286 rfl rfl (by rw [hE]; decide) ?_
      refine z_goto (pc := 289) (tgt := 229) C dX11_piles_289 (by decide) ?_
      -- at 229
      refine z_pick [0, 1, 2, 5] rfl ?_
      exact h9
  have outI : ∀ (ρ : Sg) (g : Nat) (s : Int64), ρ.2.2.2 ≤ 10 → g < 20 → (ZV l Ω E 0 0 210 [(0, rfO Ω 6), (1, .int (nI u)), (2, .int (nI g)), (3, .long s), (5, .int (nI 8))] [] (hp Ω (itF (plO u g) 8 ρ)) (hN σ)) → ∀ (j c : Nat), c + j = 8 → ZV l Ω E 0 0 168 [(0, rfO Ω 6), (1, .int (nI u)), (2, .int (nI g)), (3, .long s), (5, .int (nI c))] [] (hp Ω (itF (plO u g) c ρ)) (hN σ) := by
    intro ρ g s hρ hg cont j
    induction j with
    | zero =>
      intro c hc
      obtain rfl : c = 8 := by omega
      refine z_iload (pc := 168) C dX11_piles_168 rfl ?_
      refine z_bipush (pc := 170) (v := nI 8) C dX11_piles_170 (by decide) ?_
      -- at 172: if_icmpge 
      refine z_icmp_geT (pc := 172) (tgt := 210) C dX11_piles_172 (by decide) (by omega) (by omega) (by omega) ?_
      exact cont
    | succ j ih =>
      intro c hc
      have hn : (itF (plO u g) c ρ).2.2.2 ≤ 10 := by rw [itF_n (f := plO u g) (fun _ _ => rfl)]; exact hρ
      refine z_iload (pc := 168) C dX11_piles_168 rfl ?_
      refine z_bipush (pc := 170) (v := nI 8) C dX11_piles_170 (by decide) ?_
      -- at 172: if_icmpge 
      refine z_icmp_geF (pc := 172) (tgt := 210) C dX11_piles_172 (by decide) (by omega) (by omega) (by omega) ?_
      first | refine z_aload_n (pc := 175) C dX11_piles_175 rfl ?_ | refine z_aload_nN (pc := 175) C dX11_piles_175 rfl ?_
      refine z_getf (pc := 176) C dX11_piles_176 zf_X11_65_10 rfl rfl ?_
      first | refine z_aload_n (pc := 179) C dX11_piles_179 rfl ?_ | refine z_aload_nN (pc := 179) C dX11_piles_179 rfl ?_
      refine z_iload_n (pc := 180) C dX11_piles_180 rfl ?_
      refine z_iconst (pc := 181) (v := nI 0) C dX11_piles_181 (by decide) ?_
      refine z_iload (pc := 182) C dX11_piles_182 rfl ?_
      refine z_callV (pc := 184) (ci := 10) C dX11_piles_184 zy_X11_outAt kw_739 kw_740 rfl kw_847 rfl (ct_X11_outAt l Ω _ _ _ _ _) rfl rfl ⟨⟨by decide, by decide⟩, by decide, by decide⟩ (Nat.le_of_ble_eq_true rfl) ?_; dsimp only [Option.toList_some, List.cons_append, List.nil_append]
      refine z_dup2 (pc := 187) C dX11_piles_187 rfl rfl ?_
      refine z_iald (pc := 188) (N := 160) C dX11_piles_188 rfl (by omega) (by decide) rfl ?_
      first | refine z_aload_n (pc := 189) C dX11_piles_189 rfl ?_ | refine z_aload_nN (pc := 189) C dX11_piles_189 rfl ?_
      refine z_getf (pc := 190) C dX11_piles_190 zf_X11_62_10 rfl rfl ?_
      first | refine z_aload_n (pc := 193) C dX11_piles_193 rfl ?_ | refine z_aload_nN (pc := 193) C dX11_piles_193 rfl ?_
      refine z_iload_n (pc := 194) C dX11_piles_194 rfl ?_
      refine z_iload_n (pc := 195) C dX11_piles_195 rfl ?_
      refine z_iload (pc := 196) C dX11_piles_196 rfl ?_
      refine z_callV (pc := 198) (ci := 10) C dX11_piles_198 zy_X11_lotAt kw_761 kw_762 rfl kw_854 rfl (ct_X11_lotAt l Ω _ _ _ _ _) rfl rfl ⟨⟨by decide, by decide⟩, by decide, by decide⟩ (Nat.le_of_ble_eq_true rfl) ?_; dsimp only [Option.toList_some, List.cons_append, List.nil_append]
      refine z_iald (pc := 201) (N := 1600) C dX11_piles_201 rfl (by omega) (by decide) rfl ?_
      first | with_reducible refine z_iaddN (pc := 202) C dX11_piles_202 ?_ | refine z_iadd (pc := 202) C dX11_piles_202 ?_
      refine z_iast (pc := 203) (N := 160) C dX11_piles_203 rfl (by omega) (by decide) (hp_m 18 (by decide) hn (by decide)) ?_
      first | refine z_iincN (pc := 204) C dX11_piles_204 rfl (by rw [hE]; decide) ?_ | refine z_iinc (pc := 204) C dX11_piles_204 rfl rfl (by rw [hE]; decide) ?_
      refine z_goto (pc := 207) (tgt := 168) C dX11_piles_207 (by decide) ?_
      -- at 168
      exact ih (c + 1) (by omega)
  have while_ : ∀ (M f g : Nat) (s : Int64) (τ : Sg), g + f = M → M ≤ 20 → τ.2.2 = σ.2.2 → τ.1 11 16 u = nI M → mPile σ u L = plN u M (plW u M f g s τ) → ZV l Ω E 0 0 125 [(0, rfO Ω 6), (1, .int (nI u)), (2, .int (nI g)), (3, .long s)] [] (hp Ω τ) (hN σ) := by
    intro M f
    have fin : ∀ (g : Nat) (s : Int64) (τ : Sg) (x5 : Value), g ≤ M → M ≤ 20 → τ.2.2 = σ.2.2 → τ.1 11 16 u = nI M → mPile σ u L = plN u M (g, τ) → ZV l Ω E 0 0 216 [(0, rfO Ω 6), (1, .int (nI u)), (2, .int (nI g)), (3, .long s)] [] (hp Ω τ) (hN σ) := by
      intro g s τ x5 hg hM hτ e16 eP
      have hn : τ.2.2.2 ≤ 10 := by rw [hτ]; exact hn0
      first | refine z_aload_n (pc := 216) C dX11_piles_216 rfl ?_ | refine z_aload_nN (pc := 216) C dX11_piles_216 rfl ?_
      refine z_getf (pc := 217) C dX11_piles_217 zf_X11_59_10 rfl rfl ?_
      refine z_iload_n (pc := 220) C dX11_piles_220 rfl ?_
      refine z_dup2 (pc := 221) C dX11_piles_221 rfl rfl ?_
      refine z_iald (pc := 222) (N := 10) C dX11_piles_222 rfl (by omega) (by decide) rfl ?_; rw [e16]
      refine z_iload_n (pc := 223) C dX11_piles_223 rfl ?_
      first | with_reducible refine z_isubN (pc := 224) C dX11_piles_224 (by omega) ?_ | refine z_isub (pc := 224) C dX11_piles_224 ?_
      refine z_iast (pc := 225) (N := 10) C dX11_piles_225 rfl (by omega) (by decide) (hp_m 16 (by decide) hn (by decide)) ?_
      refine z_iconst (pc := 226) (v := nI 0) C dX11_piles_226 (by decide) ?_
      refine z_istore (pc := 227) C dX11_piles_227 (by rw [hE]; decide) ?_
      -- at 229: iload 
      refine z_pick [0, 1, 2, 5] rfl ?_
      exact last (sI τ 11 16 u (nI (M - g))) g (M - g) hn (by omega) (by simp [sI]) (by rw [eP]; rfl) (M - g) 0 (by omega)
    induction f with
    | zero =>
      intro g s τ hg hM hτ e16 eP
      obtain rfl : g = M := by omega
      refine z_iload_n (pc := 125) C dX11_piles_125 rfl ?_
      first | refine z_aload_n (pc := 126) C dX11_piles_126 rfl ?_ | refine z_aload_nN (pc := 126) C dX11_piles_126 rfl ?_
      refine z_getf (pc := 127) C dX11_piles_127 zf_X11_59_10 rfl rfl ?_
      refine z_iload_n (pc := 130) C dX11_piles_130 rfl ?_
      refine z_iald (pc := 131) (N := 10) C dX11_piles_131 rfl (by omega) (by decide) rfl ?_; rw [e16]
      -- at 132: if_icmpge 
      refine z_icmp_geT (pc := 132) (tgt := 216) C dX11_piles_132 (by decide) (by omega) (by omega) (by omega) ?_
      exact fin g s τ .null (Nat.le_refl _) hM hτ e16 eP
    | succ f ih =>
      intro g s τ hg hM hτ e16 eP
      have hn : τ.2.2.2 ≤ 10 := by rw [hτ]; exact hn0
      have hNe : hN σ = hN τ := by show bs σ.2.2.1 σ.2.2.2 = bs τ.2.2.1 τ.2.2.2; rw [hτ]
      rw [show plW u M (f + 1) g s τ = if g < M ∧ ¬ (τ.1 11 8 u).toInt64 < s + (mLot τ u g).toInt64 then plW u M f (g + 1) (s + (mLot τ u g).toInt64) (itF (plO u g) 8 τ) else (g, τ) from rfl] at eP
      refine z_iload_n (pc := 125) C dX11_piles_125 rfl ?_
      first | refine z_aload_n (pc := 126) C dX11_piles_126 rfl ?_ | refine z_aload_nN (pc := 126) C dX11_piles_126 rfl ?_
      refine z_getf (pc := 127) C dX11_piles_127 zf_X11_59_10 rfl rfl ?_
      refine z_iload_n (pc := 130) C dX11_piles_130 rfl ?_
      refine z_iald (pc := 131) (N := 10) C dX11_piles_131 rfl (by omega) (by decide) rfl ?_; rw [e16]
      -- at 132: if_icmpge 
      refine z_icmp_geF (pc := 132) (tgt := 216) C dX11_piles_132 (by decide) (by omega) (by omega) (by omega) ?_
      refine z_heap rfl hNe ?_
      refine z_lload_n (pc := 135) C dX11_piles_135 rfl ?_
      first | refine z_aload_n (pc := 136) C dX11_piles_136 rfl ?_ | refine z_aload_nN (pc := 136) C dX11_piles_136 rfl ?_
      refine z_iload_n (pc := 137) C dX11_piles_137 rfl ?_
      refine z_iload_n (pc := 138) C dX11_piles_138 rfl ?_
      refine z_callV (pc := 139) (ci := 10) C dX11_piles_139 zy_X11_lotSum kw_764 kw_765 rfl kw_855 rfl (ct_X11_lotSum l Ω τ u g hu (by omega)) rfl rfl ⟨⟨by decide, by decide⟩, by decide, by decide⟩ (Nat.le_of_ble_eq_true rfl) ?_; dsimp only [Option.toList_some, List.cons_append, List.nil_append]
      refine z_i2l (pc := 142) C dX11_piles_142 rfl ?_
      refine z_ladd (pc := 143) C dX11_piles_143 ?_
      first | refine z_aload_n (pc := 144) C dX11_piles_144 rfl ?_ | refine z_aload_nN (pc := 144) C dX11_piles_144 rfl ?_
      refine z_getf (pc := 145) C dX11_piles_145 zf_X11_34_10 rfl rfl ?_
      refine z_iload_n (pc := 148) C dX11_piles_148 rfl ?_
      refine z_iald (pc := 149) (N := 10) C dX11_piles_149 rfl (by omega) (by decide) rfl ?_
      refine z_i2l (pc := 150) C dX11_piles_150 rfl ?_
      refine z_lcmp (pc := 151) C dX11_piles_151 ?_
      -- at 152: ifgt 
      refine z_heap rfl hNe.symm ?_
      refine z_if_gt (pc := 152) (tgt := 216) C dX11_piles_152 (by decide) (fun h => ?_) (fun h => ?_)
      · have h2 := (lg_cmp_gt _ _).mp h
        rw [if_neg (fun z => z.2 h2)] at eP
        exact fin g s τ .null (by omega) hM hτ e16 eP
      · have h2 : ¬ (τ.1 11 8 u).toInt64 < s + (mLot τ u g).toInt64 := fun z => h ((lg_cmp_gt _ _).mpr z)
        rw [if_pos ⟨by omega, h2⟩] at eP
        refine z_heap rfl hNe ?_
        refine z_lload_n (pc := 155) C dX11_piles_155 rfl ?_
        first | refine z_aload_n (pc := 156) C dX11_piles_156 rfl ?_ | refine z_aload_nN (pc := 156) C dX11_piles_156 rfl ?_
        refine z_iload_n (pc := 157) C dX11_piles_157 rfl ?_
        refine z_iload_n (pc := 158) C dX11_piles_158 rfl ?_
        refine z_callV (pc := 159) (ci := 10) C dX11_piles_159 zy_X11_lotSum kw_764 kw_765 rfl kw_855 rfl (ct_X11_lotSum l Ω τ u g hu (by omega)) rfl rfl ⟨⟨by decide, by decide⟩, by decide, by decide⟩ (Nat.le_of_ble_eq_true rfl) ?_; dsimp only [Option.toList_some, List.cons_append, List.nil_append]
        refine z_i2l (pc := 162) C dX11_piles_162 rfl ?_
        refine z_ladd (pc := 163) C dX11_piles_163 ?_
        refine z_lstore_n (pc := 164) C dX11_piles_164 (by rw [hE]; decide) ?_
        refine z_iconst (pc := 165) (v := nI 0) C dX11_piles_165 (by decide) ?_
        refine z_istore (pc := 166) C dX11_piles_166 (by rw [hE]; decide) ?_
        -- at 168: iload 
        refine z_heap rfl hNe.symm ?_
        refine outI τ g _ hn (by omega) ?_ 8 0 rfl
        first | refine z_iincN (pc := 210) C dX11_piles_210 rfl (by rw [hE]; decide) ?_ | refine z_iinc (pc := 210) C dX11_piles_210 rfl rfl (by rw [hE]; decide) ?_
        refine z_goto (pc := 213) (tgt := 125) C dX11_piles_213 (by decide) ?_
        -- at 125
        refine z_pick [0, 1, 2, 3] rfl ?_
        have r16 : (itF (plO u g) 8 τ).1 11 16 = τ.1 11 16 := itF_row (f := plO u g) (fun τ => τ.1 11 16) (fun c τ => by funext j; simp [plO, sI]) τ 8
        exact ih (g + 1) _ (itF (plO u g) 8 τ) (by omega) hM (by rw [itF_n (f := plO u g) (fun _ _ => rfl)]; exact hτ) (by rw [r16]; exact e16) eP
  first | refine z_aload_n (pc := 0) C dX11_piles_0 rfl ?_ | refine z_aload_nN (pc := 0) C dX11_piles_0 rfl ?_
  refine z_iload_n (pc := 1) C dX11_piles_1 rfl ?_
  refine z_callV (pc := 2) (ci := 10) C dX11_piles_2 zy_X11_sumOf kw_758 kw_759 rfl kw_853 rfl (ct_X11_sumOf l Ω σ u hu) rfl rfl ⟨⟨by decide, by decide⟩, by decide, by decide⟩ (Nat.le_of_ble_eq_true rfl) ?_; dsimp only [Option.toList_some, List.cons_append, List.nil_append]
  -- at 5: ifle 
  refine z_if_le (pc := 5) (tgt := 121) C dX11_piles_5 (by decide) (fun h => ?_) (fun h => ?_)
  · refine z_iconst (pc := 121) (v := nI 0) C dX11_piles_121 (by decide) ?_
    refine z_istore_n (pc := 122) C dX11_piles_122 (by rw [hE]; decide) ?_
    refine z_lconst (pc := 123) (v := 0) C dX11_piles_123 (by decide) ?_
    refine z_lstore_n (pc := 124) C dX11_piles_124 (by rw [hE]; decide) ?_
    -- at 125: iload_2 
    exact while_ L L 0 0 σ (by omega) hL rfl eL (by unfold mPile; rw [if_neg (Int32.not_lt.mpr h)]; rfl)
  · have hpos : 0 < mHold σ u := Int32.not_le.mp h
    first | refine z_aload_n (pc := 8) C dX11_piles_8 rfl ?_ | refine z_aload_nN (pc := 8) C dX11_piles_8 rfl ?_
    refine z_getf (pc := 9) C dX11_piles_9 zf_X11_59_10 rfl rfl ?_
    refine z_iload_n (pc := 12) C dX11_piles_12 rfl ?_
    refine z_iald (pc := 13) (N := 10) C dX11_piles_13 rfl (by omega) (by decide) rfl ?_; rw [eL]
    refine z_bipush (pc := 14) (v := nI 20) C dX11_piles_14 (by decide) ?_
    -- at 16: if_icmpne 
    refine z_icmp_neX (pc := 16) (tgt := 23) C dX11_piles_16 (by decide) (by omega) (by decide) (fun h20 => ?_) (fun h20 => ?_)
    · have lp : ∀ (j c : Nat), c + j = 8 → ZV l Ω E 0 0 44 [(0, rfO Ω 6), (1, .int (nI u)), (2, .int (nI 0)), (3, .int (nI L)), (4, .int (nI c))] [] (hp Ω (itF (plB u L) c σ)) (hN σ) := by
        intro j
        induction j with
        | zero =>
          intro c hc
          obtain rfl : c = 8 := by omega
          have hn : (itF (plB u L) 8 σ).2.2.2 ≤ 10 := by rw [itF_n (f := plB u L) (fun _ _ => rfl)]; exact hn0
          have r16 : (itF (plB u L) 8 σ).1 11 16 = σ.1 11 16 := itF_row (f := plB u L) (fun τ => τ.1 11 16) (fun c τ => by funext j; simp [plB, sI]) σ 8
          refine z_iload (pc := 44) C dX11_piles_44 rfl ?_
          refine z_bipush (pc := 46) (v := nI 8) C dX11_piles_46 (by decide) ?_
          -- at 48: if_icmpge 
          refine z_icmp_geT (pc := 48) (tgt := 103) C dX11_piles_48 (by decide) (by omega) (by omega) (by omega) ?_
          first | refine z_aload_n (pc := 103) C dX11_piles_103 rfl ?_ | refine z_aload_nN (pc := 103) C dX11_piles_103 rfl ?_
          refine z_getf (pc := 104) C dX11_piles_104 zf_X11_59_10 rfl rfl ?_
          refine z_iload_n (pc := 107) C dX11_piles_107 rfl ?_
          refine z_dup2 (pc := 108) C dX11_piles_108 rfl rfl ?_
          refine z_iald (pc := 109) (N := 10) C dX11_piles_109 rfl (by omega) (by decide) rfl ?_; rw [r16, eL]
          refine z_iload_n (pc := 110) C dX11_piles_110 rfl ?_
          -- at 111: ifeq 
          refine z_if_eqT (pc := 111) (tgt := 118) C dX11_piles_111 (by decide) (by omega) ?_
          refine z_iconst (pc := 118) (v := nI 1) C dX11_piles_118 (by decide) ?_
          -- at 119: iadd 
          -- at 119: iadd 
          refine z_iaddN (pc := 119) C dX11_piles_119 ?_
          refine z_iast (pc := 120) (N := 10) C dX11_piles_120 rfl (by omega) (by decide) (hp_m 16 (by decide) hn (by decide)) ?_
          refine z_iconst (pc := 121) (v := nI 0) C dX11_piles_121 (by decide) ?_
          refine z_istore_n (pc := 122) C dX11_piles_122 (by rw [hE]; decide) ?_
          refine z_lconst (pc := 123) (v := 0) C dX11_piles_123 (by decide) ?_
          refine z_lstore_n (pc := 124) C dX11_piles_124 (by rw [hE]; decide) ?_
          -- at 125: iload_2 
          refine z_pick [0, 1, 2, 3] rfl ?_
          exact while_ (L + 1) (L + 1) 0 0 (sI (itF (plB u L) 8 σ) 11 16 u (nI (L + 1))) (by omega) (by omega) (itF_n (f := plB u L) (fun _ _ => rfl) σ 8) (by simp [sI]) (by unfold mPile mPut; rw [if_pos hpos, if_neg h20, if_neg h20]; rfl)
        | succ j ih =>
          intro c hc
          have hn : (itF (plB u L) c σ).2.2.2 ≤ 10 := by rw [itF_n (f := plB u L) (fun _ _ => rfl)]; exact hn0
          refine z_iload (pc := 44) C dX11_piles_44 rfl ?_
          refine z_bipush (pc := 46) (v := nI 8) C dX11_piles_46 (by decide) ?_
          -- at 48: if_icmpge 
          refine z_icmp_geF (pc := 48) (tgt := 103) C dX11_piles_48 (by decide) (by omega) (by omega) (by omega) ?_
          first | refine z_aload_n (pc := 51) C dX11_piles_51 rfl ?_ | refine z_aload_nN (pc := 51) C dX11_piles_51 rfl ?_
          refine z_getf (pc := 52) C dX11_piles_52 zf_X11_62_10 rfl rfl ?_
          first | refine z_aload_n (pc := 55) C dX11_piles_55 rfl ?_ | refine z_aload_nN (pc := 55) C dX11_piles_55 rfl ?_
          refine z_iload_n (pc := 56) C dX11_piles_56 rfl ?_
          refine z_iload_n (pc := 57) C dX11_piles_57 rfl ?_
          refine z_iload (pc := 58) C dX11_piles_58 rfl ?_
          refine z_callV (pc := 60) (ci := 10) C dX11_piles_60 zy_X11_lotAt kw_761 kw_762 rfl kw_854 rfl (ct_X11_lotAt l Ω _ _ _ _ _) rfl rfl ⟨⟨by decide, by decide⟩, by decide, by decide⟩ (Nat.le_of_ble_eq_true rfl) ?_; dsimp only [Option.toList_some, List.cons_append, List.nil_append]
          first | refine z_aload_n (pc := 63) C dX11_piles_63 rfl ?_ | refine z_aload_nN (pc := 63) C dX11_piles_63 rfl ?_
          refine z_getf (pc := 64) C dX11_piles_64 zf_X11_16_10 rfl rfl ?_
          refine z_iload_n (pc := 67) C dX11_piles_67 rfl ?_
          refine z_iload (pc := 68) C dX11_piles_68 rfl ?_
          refine z_callS (pc := 70) C dX11_piles_70 zy_X11_spot kw_717 kw_718 (ct_X11_spot l Ω _ _ _ _) rfl rfl ⟨⟨by decide, by decide⟩, by decide, by decide⟩ (Nat.le_of_ble_eq_true rfl) ?_; dsimp only [Option.toList_some, List.cons_append, List.nil_append]
          refine z_iald (pc := 73) (N := 80) C dX11_piles_73 rfl (by omega) (by decide) rfl ?_
          refine z_iload_n (pc := 74) C dX11_piles_74 rfl ?_
          -- at 75: ifeq 
          refine z_if_eqT (pc := 75) (tgt := 94) C dX11_piles_75 (by decide) (by omega) ?_
          refine z_iconst (pc := 94) (v := nI 0) C dX11_piles_94 (by decide) ?_
          refine z_iadd (pc := 95) C dX11_piles_95 ?_
          refine z_iast (pc := 96) (N := 1600) C dX11_piles_96 rfl (by omega) (by decide) (hp_m 17 (by decide) hn (by decide)) ?_
          first | refine z_iincN (pc := 97) C dX11_piles_97 rfl (by rw [hE]; decide) ?_ | refine z_iinc (pc := 97) C dX11_piles_97 rfl rfl (by rw [hE]; decide) ?_
          refine z_goto (pc := 100) (tgt := 44) C dX11_piles_100 (by decide) ?_
          -- at 44
          exact ih (c + 1) (by omega)
      refine z_iconst (pc := 23) (v := nI 0) C dX11_piles_23 (by decide) ?_
      refine z_istore_n (pc := 24) C dX11_piles_24 (by rw [hE]; decide) ?_
      refine z_iload_n (pc := 25) C dX11_piles_25 rfl ?_
      -- at 26: ifeq 
      refine z_if_eqT (pc := 26) (tgt := 34) C dX11_piles_26 (by decide) (by omega) ?_
      first | refine z_aload_n (pc := 34) C dX11_piles_34 rfl ?_ | refine z_aload_nN (pc := 34) C dX11_piles_34 rfl ?_
      refine z_getf (pc := 35) C dX11_piles_35 zf_X11_59_10 rfl rfl ?_
      refine z_iload_n (pc := 38) C dX11_piles_38 rfl ?_
      refine z_iald (pc := 39) (N := 10) C dX11_piles_39 rfl (by omega) (by decide) rfl ?_; rw [eL]
      refine z_istore_n (pc := 40) C dX11_piles_40 (by rw [hE]; decide) ?_
      refine z_iconst (pc := 41) (v := nI 0) C dX11_piles_41 (by decide) ?_
      refine z_istore (pc := 42) C dX11_piles_42 (by rw [hE]; decide) ?_
      -- at 44: iload 
      exact lp 8 0 rfl
    · subst h20
      have lp : ∀ (j c : Nat), c + j = 8 → ZV l Ω E 0 0 44 [(0, rfO Ω 6), (1, .int (nI u)), (2, .int (nI 1)), (3, .int (nI 19)), (4, .int (nI c))] [] (hp Ω (itF (plA u 19) c σ)) (hN σ) := by
        intro j
        induction j with
        | zero =>
          intro c hc
          obtain rfl : c = 8 := by omega
          have hn : (itF (plA u 19) 8 σ).2.2.2 ≤ 10 := by rw [itF_n (f := plA u 19) (fun _ _ => rfl)]; exact hn0
          have r16 : (itF (plA u 19) 8 σ).1 11 16 = σ.1 11 16 := itF_row (f := plA u 19) (fun τ => τ.1 11 16) (fun c τ => by funext j; simp [plA, sI]) σ 8
          refine z_iload (pc := 44) C dX11_piles_44 rfl ?_
          refine z_bipush (pc := 46) (v := nI 8) C dX11_piles_46 (by decide) ?_
          -- at 48: if_icmpge 
          refine z_icmp_geT (pc := 48) (tgt := 103) C dX11_piles_48 (by decide) (by omega) (by omega) (by omega) ?_
          first | refine z_aload_n (pc := 103) C dX11_piles_103 rfl ?_ | refine z_aload_nN (pc := 103) C dX11_piles_103 rfl ?_
          refine z_getf (pc := 104) C dX11_piles_104 zf_X11_59_10 rfl rfl ?_
          refine z_iload_n (pc := 107) C dX11_piles_107 rfl ?_
          refine z_dup2 (pc := 108) C dX11_piles_108 rfl rfl ?_
          refine z_iald (pc := 109) (N := 10) C dX11_piles_109 rfl (by omega) (by decide) rfl ?_; rw [r16, eL]
          refine z_iload_n (pc := 110) C dX11_piles_110 rfl ?_
          -- at 111: ifeq 
          refine z_if_eqF (pc := 111) (tgt := 118) C dX11_piles_111 (by decide) (by omega) (by omega) ?_
          refine z_iconst (pc := 114) (v := nI 0) C dX11_piles_114 (by decide) ?_
          refine z_goto (pc := 115) (tgt := 119) C dX11_piles_115 (by decide) ?_
          -- at 119
          refine z_iaddN (pc := 119) C dX11_piles_119 ?_
          refine z_iast (pc := 120) (N := 10) C dX11_piles_120 rfl (by omega) (by decide) (hp_m 16 (by decide) hn (by decide)) ?_
          refine z_iconst (pc := 121) (v := nI 0) C dX11_piles_121 (by decide) ?_
          refine z_istore_n (pc := 122) C dX11_piles_122 (by rw [hE]; decide) ?_
          refine z_lconst (pc := 123) (v := 0) C dX11_piles_123 (by decide) ?_
          refine z_lstore_n (pc := 124) C dX11_piles_124 (by rw [hE]; decide) ?_
          -- at 125: iload_2 
          refine z_pick [0, 1, 2, 3] rfl ?_
          exact while_ 20 20 0 0 (sI (itF (plA u 19) 8 σ) 11 16 u (nI 20)) (by omega) (by omega) (itF_n (f := plA u 19) (fun _ _ => rfl) σ 8) (by simp [sI]) (by unfold mPile mPut; rw [if_pos hpos, if_pos rfl, if_pos rfl]; rfl)
        | succ j ih =>
          intro c hc
          have hn : (itF (plA u 19) c σ).2.2.2 ≤ 10 := by rw [itF_n (f := plA u 19) (fun _ _ => rfl)]; exact hn0
          refine z_iload (pc := 44) C dX11_piles_44 rfl ?_
          refine z_bipush (pc := 46) (v := nI 8) C dX11_piles_46 (by decide) ?_
          -- at 48: if_icmpge 
          refine z_icmp_geF (pc := 48) (tgt := 103) C dX11_piles_48 (by decide) (by omega) (by omega) (by omega) ?_
          first | refine z_aload_n (pc := 51) C dX11_piles_51 rfl ?_ | refine z_aload_nN (pc := 51) C dX11_piles_51 rfl ?_
          refine z_getf (pc := 52) C dX11_piles_52 zf_X11_62_10 rfl rfl ?_
          first | refine z_aload_n (pc := 55) C dX11_piles_55 rfl ?_ | refine z_aload_nN (pc := 55) C dX11_piles_55 rfl ?_
          refine z_iload_n (pc := 56) C dX11_piles_56 rfl ?_
          refine z_iload_n (pc := 57) C dX11_piles_57 rfl ?_
          refine z_iload (pc := 58) C dX11_piles_58 rfl ?_
          refine z_callV (pc := 60) (ci := 10) C dX11_piles_60 zy_X11_lotAt kw_761 kw_762 rfl kw_854 rfl (ct_X11_lotAt l Ω _ _ _ _ _) rfl rfl ⟨⟨by decide, by decide⟩, by decide, by decide⟩ (Nat.le_of_ble_eq_true rfl) ?_; dsimp only [Option.toList_some, List.cons_append, List.nil_append]
          first | refine z_aload_n (pc := 63) C dX11_piles_63 rfl ?_ | refine z_aload_nN (pc := 63) C dX11_piles_63 rfl ?_
          refine z_getf (pc := 64) C dX11_piles_64 zf_X11_16_10 rfl rfl ?_
          refine z_iload_n (pc := 67) C dX11_piles_67 rfl ?_
          refine z_iload (pc := 68) C dX11_piles_68 rfl ?_
          refine z_callS (pc := 70) C dX11_piles_70 zy_X11_spot kw_717 kw_718 (ct_X11_spot l Ω _ _ _ _) rfl rfl ⟨⟨by decide, by decide⟩, by decide, by decide⟩ (Nat.le_of_ble_eq_true rfl) ?_; dsimp only [Option.toList_some, List.cons_append, List.nil_append]
          refine z_iald (pc := 73) (N := 80) C dX11_piles_73 rfl (by omega) (by decide) rfl ?_
          refine z_iload_n (pc := 74) C dX11_piles_74 rfl ?_
          -- at 75: ifeq 
          refine z_if_eqF (pc := 75) (tgt := 94) C dX11_piles_75 (by decide) (by omega) (by omega) ?_
          first | refine z_aload_n (pc := 78) C dX11_piles_78 rfl ?_ | refine z_aload_nN (pc := 78) C dX11_piles_78 rfl ?_
          refine z_getf (pc := 79) C dX11_piles_79 zf_X11_62_10 rfl rfl ?_
          first | refine z_aload_n (pc := 82) C dX11_piles_82 rfl ?_ | refine z_aload_nN (pc := 82) C dX11_piles_82 rfl ?_
          refine z_iload_n (pc := 83) C dX11_piles_83 rfl ?_
          refine z_iload_n (pc := 84) C dX11_piles_84 rfl ?_
          refine z_iload (pc := 85) C dX11_piles_85 rfl ?_
          refine z_callV (pc := 87) (ci := 10) C dX11_piles_87 zy_X11_lotAt kw_761 kw_762 rfl kw_854 rfl (ct_X11_lotAt l Ω _ _ _ _ _) rfl rfl ⟨⟨by decide, by decide⟩, by decide, by decide⟩ (Nat.le_of_ble_eq_true rfl) ?_; dsimp only [Option.toList_some, List.cons_append, List.nil_append]
          refine z_iald (pc := 90) (N := 1600) C dX11_piles_90 rfl (by omega) (by decide) rfl ?_
          refine z_goto (pc := 91) (tgt := 95) C dX11_piles_91 (by decide) ?_
          -- at 95
          refine z_iadd (pc := 95) C dX11_piles_95 ?_
          refine z_iast (pc := 96) (N := 1600) C dX11_piles_96 rfl (by omega) (by decide) (hp_m 17 (by decide) hn (by decide)) ?_
          first | refine z_iincN (pc := 97) C dX11_piles_97 rfl (by rw [hE]; decide) ?_ | refine z_iinc (pc := 97) C dX11_piles_97 rfl rfl (by rw [hE]; decide) ?_
          refine z_goto (pc := 100) (tgt := 44) C dX11_piles_100 (by decide) ?_
          -- at 44
          exact ih (c + 1) (by omega)
      refine z_iconst (pc := 19) (v := nI 1) C dX11_piles_19 (by decide) ?_
      refine z_goto (pc := 20) (tgt := 24) C dX11_piles_20 (by decide) ?_
      refine z_istore_n (pc := 24) C dX11_piles_24 (by rw [hE]; decide) ?_
      refine z_iload_n (pc := 25) C dX11_piles_25 rfl ?_
      -- at 26: ifeq 
      refine z_if_eqF (pc := 26) (tgt := 34) C dX11_piles_26 (by decide) (by omega) (by omega) ?_
      refine z_bipush (pc := 29) (v := nI 19) C dX11_piles_29 (by decide) ?_
      refine z_goto (pc := 31) (tgt := 40) C dX11_piles_31 (by decide) ?_
      refine z_istore_n (pc := 40) C dX11_piles_40 (by rw [hE]; decide) ?_
      refine z_iconst (pc := 41) (v := nI 0) C dX11_piles_41 (by decide) ?_
      refine z_istore (pc := 42) C dX11_piles_42 (by rw [hE]; decide) ?_
      -- at 44: iload 
      exact lp 8 0 rfl
