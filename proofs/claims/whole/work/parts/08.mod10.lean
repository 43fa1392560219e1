/-! ===== the reference: a minute, and run ===== -/
set_option maxHeartbeats 4000000 in
set_option maxRecDepth 100000 in
theorem ct_X11_minute (l : Launch) (Ω : OmT) (σ : Sg) (hg : MG σ) : ZM l Ω yX11_minute cX11_minute 3 none rm_X11_minute [rfO Ω 6] (hp Ω σ) (hN σ) (none) (hp Ω (mMinute σ)) (hN σ) := by
  refine ZM_of (by decide) (Nat.le_of_ble_eq_true rfl) (fun E hE C hQ => ?_)
  have hw := hg.1
  have hn0 := hw.1
  have eE : ∀ τ : Sg, τ.2.2 = σ.2.2 → hN τ = hN σ := fun τ h => hN_eq h
  have frA := fr_mA σ
  have hA2 : (mA σ).2.2 = σ.2.2 := frA.2
  have hwA : MW (mA σ) := hw.fr frA (fun j => by decide) (fun j => by decide)
  have cntA : ∀ u, u < (mA σ).2.2.2 → (∃ K, K ≤ 6 ∧ (mA σ).1 11 13 u = nI K) ∧ ∃ L, L ≤ 20 ∧ (mA σ).1 11 16 u = nI L := by
    intro u hu
    rw [hA2] at hu
    obtain ⟨⟨K, k1, k2⟩, ⟨L, l1, l2⟩, -, -⟩ := hg.2 u hu
    exact ⟨⟨K, k1, by rw [frA.1 11 13 u (by simp)]; exact k2⟩, ⟨L, l1, by rw [frA.1 11 16 u (by simp)]; exact l2⟩⟩
  -- the last loop
  have loopE : ∀ (τ : Sg), τ.2.2 = σ.2.2 → MW τ → (∀ u, u < σ.2.2.2 → (∃ K, K ≤ 7 ∧ τ.1 11 13 u = nI K) ∧ ∃ L, L ≤ 20 ∧ τ.1 11 16 u = nI L) → (∀ u, u < σ.2.2.2 → τ.1 11 9 u < 0 ∨ ∃ d, d < σ.2.2.2 ∧ τ.1 11 9 u = nI d) → mMinute σ = sI (itF (fun f τ => mCtl τ f) σ.2.2.2 τ) 11 30 1 ((itF (fun f τ => mCtl τ f) σ.2.2.2 τ).1 11 30 1 + nI 1) → ∀ (j f : Nat), f + j = σ.2.2.2 → ZV l Ω E 0 0 136 [(0, rfO Ω 6), (1, .int (nI f))] [] (hp Ω (itF (fun f τ => mCtl τ f) f τ)) (hN σ) := by
    intro τ hτ hwτ hcnt hby eM j
    induction j with
    | zero =>
      intro f hf
      obtain rfl : f = σ.2.2.2 := by omega
      have fr := fr_mE τ σ.2.2.2
      have hwf : MW (itF (fun f τ => mCtl τ f) σ.2.2.2 τ) := hwτ.fr fr (fun j => by decide) (fun j => by decide)
      have hn := hwf.1
      have hff : (itF (fun f τ => mCtl τ f) σ.2.2.2 τ).2.2 = σ.2.2 := fr.2.trans hτ
      have eu : (itF (fun f τ => mCtl τ f) σ.2.2.2 τ).1 11 30 0 = nI σ.2.2.2 := by rw [hwf.2.1, hff]
      refine z_iload_n (pc := 136) C dX11_minute_136 rfl ?_
      first | refine z_aload_n (pc := 137) C dX11_minute_137 rfl ?_ | refine z_aload_nN (pc := 137) C dX11_minute_137 rfl ?_
      refine z_getf (pc := 138) C dX11_minute_138 zf_X11_93_10 rfl rfl ?_; rw [eu]
      -- at 141: if_icmpge 
      refine z_icmp_geT (pc := 141) (tgt := 222) C dX11_minute_141 (by decide) (by omega) (by omega) (by omega) ?_
      refine z_aload_n (pc := 222) C dX11_minute_222 rfl ?_
      refine z_dup (pc := 223) C dX11_minute_223 rfl ?_
      refine z_getf (pc := 224) C dX11_minute_224 zf_X11_162_10 rfl rfl ?_
      refine z_iconst (pc := 227) (v := nI 1) C dX11_minute_227 (by decide) ?_
      first | with_reducible refine z_iaddN (pc := 228) C dX11_minute_228 ?_ | refine z_iadd (pc := 228) C dX11_minute_228 ?_
      refine z_putfI (pc := 229) C dX11_minute_229 zp_X11_162_10 rfl (Nat.le_of_ble_eq_true rfl) (hp_mf 1 (by decide) hn) ?_
      -- at 232: return 
      exact z_vret (pc := 232) C hQ dX11_minute_232 rfl (by rw [eM]) rfl (by decide) (by decide)
    | succ j ih =>
      intro f hf
      have h9 := ih (f + 1) (by omega)
      rw [show itF (fun f τ => mCtl τ f) (f + 1) τ = mCtl (itF (fun f τ => mCtl τ f) f τ) f from rfl] at h9
      have fr := fr_mE τ f
      generalize itF (fun f τ => mCtl τ f) f τ = ρ at h9 fr ⊢
      have hwρ : MW ρ := hwτ.fr fr (fun j => by decide) (fun j => by decide)
      have hn := hwρ.1
      have hρ : ρ.2.2 = σ.2.2 := fr.2.trans hτ
      have eu : ρ.1 11 30 0 = nI σ.2.2.2 := by rw [hwρ.2.1, hρ]
      obtain ⟨e1, e2⟩ := hwρ.2.2 f (by rw [hρ]; omega)
      have e9 : ρ.1 11 9 f = τ.1 11 9 f := fr.1 11 9 f (by simp)
      refine z_iload_n (pc := 136) C dX11_minute_136 rfl ?_
      first | refine z_aload_n (pc := 137) C dX11_minute_137 rfl ?_ | refine z_aload_nN (pc := 137) C dX11_minute_137 rfl ?_
      refine z_getf (pc := 138) C dX11_minute_138 zf_X11_93_10 rfl rfl ?_; rw [eu]
      -- at 141: if_icmpge 
      refine z_icmp_geF (pc := 141) (tgt := 222) C dX11_minute_141 (by decide) (by omega) (by omega) (by omega) ?_
      first | refine z_aload_n (pc := 144) C dX11_minute_144 rfl ?_ | refine z_aload_nN (pc := 144) C dX11_minute_144 rfl ?_
      refine z_getf (pc := 145) C dX11_minute_145 zf_X11_9_10 rfl rfl ?_
      refine z_iload_n (pc := 148) C dX11_minute_148 rfl ?_
      refine z_iald (pc := 149) (N := 10) C dX11_minute_149 rfl (by omega) (by decide) rfl ?_; rw [e1]
      -- at 150: ifne 
      unfold mCtl at h9
      refine z_if_neX (pc := 150) (tgt := 216) C dX11_minute_150 (by decide) (by omega) (fun h => ?_) (fun h => ?_)
      · rw [if_pos h] at h9
        first | refine z_iincN (pc := 216) C dX11_minute_216 rfl (by rw [hE]; decide) ?_ | refine z_iinc (pc := 216) C dX11_minute_216 rfl rfl (by rw [hE]; decide) ?_
        refine z_goto (pc := 219) (tgt := 136) C dX11_minute_219 (by decide) ?_
        -- at 136
        exact h9
      · rw [if_neg (fun z => z h)] at h9
        first | refine z_aload_n (pc := 153) C dX11_minute_153 rfl ?_ | refine z_aload_nN (pc := 153) C dX11_minute_153 rfl ?_
        refine z_getf (pc := 154) C dX11_minute_154 zf_X11_37_10 rfl rfl ?_
        refine z_iload_n (pc := 157) C dX11_minute_157 rfl ?_
        refine z_iald (pc := 158) (N := 10) C dX11_minute_158 rfl (by omega) (by decide) rfl ?_
        -- at 159: ifge 
        rcases hby f (by omega) with hb | ⟨d, hd, ed⟩
        · rw [if_pos (by rw [e9]; exact hb)] at h9
          refine z_if_ge (pc := 159) (tgt := 165) C dX11_minute_159 (by decide) (fun z => absurd (by rw [e9]; exact hb) (Int32.not_lt.mpr z)) (fun z => ?_)
          refine z_goto (pc := 162) (tgt := 216) C dX11_minute_162 (by decide) ?_
          first | refine z_iincN (pc := 216) C dX11_minute_216 rfl (by rw [hE]; decide) ?_ | refine z_iinc (pc := 216) C dX11_minute_216 rfl rfl (by rw [hE]; decide) ?_
          refine z_goto (pc := 219) (tgt := 136) C dX11_minute_219 (by decide) ?_
          -- at 136
          exact h9
        · have ed' : ρ.1 11 9 f = nI d := e9.trans ed
          rw [ed', if_neg (nI_pos (by omega)), tn_nI (by omega)] at h9
          obtain ⟨⟨K, k1, k2⟩, ⟨L, l1, l2⟩⟩ := hcnt d hd
          have k3 : ρ.1 11 13 d = nI K := (fr.1 11 13 d (by simp)).trans k2
          have l3 : ρ.1 11 16 d = nI L := (fr.1 11 16 d (by simp)).trans l2
          rw [k3, l3, tn_nI (by omega), tn_nI (by omega)] at h9
          rw [ed']
          refine z_if_geT (pc := 159) (tgt := 165) C dX11_minute_159 (by decide) (by omega) ?_
          first | refine z_aload_n (pc := 165) C dX11_minute_165 rfl ?_ | refine z_aload_nN (pc := 165) C dX11_minute_165 rfl ?_
          first | refine z_aload_n (pc := 166) C dX11_minute_166 rfl ?_ | refine z_aload_nN (pc := 166) C dX11_minute_166 rfl ?_
          refine z_getf (pc := 167) C dX11_minute_167 zf_X11_37_10 rfl rfl ?_
          refine z_iload_n (pc := 170) C dX11_minute_170 rfl ?_
          refine z_iald (pc := 171) (N := 10) C dX11_minute_171 rfl (by omega) (by decide) rfl ?_; rw [ed']
          refine z_callV (pc := 172) (ci := 10) C dX11_minute_172 zy_X11_levelOf kw_770 kw_771 rfl kw_857 rfl (zM_n (eE ρ hρ) (ct_X11_levelOf l Ω ρ d K L (by omega) k1 k3 l1 l3)) rfl rfl ⟨⟨by decide, by decide⟩, by decide, by decide⟩ (Nat.le_of_ble_eq_true rfl) ?_; dsimp only [Option.toList_some, List.cons_append, List.nil_append]
          refine z_istore_n (pc := 175) C dX11_minute_175 (by rw [hE]; decide) ?_
          first | refine z_aload_n (pc := 176) C dX11_minute_176 rfl ?_ | refine z_aload_nN (pc := 176) C dX11_minute_176 rfl ?_
          refine z_getf (pc := 177) C dX11_minute_177 zf_X11_46_10 rfl rfl ?_
          refine z_iload_n (pc := 180) C dX11_minute_180 rfl ?_
          refine z_iload_n (pc := 181) C dX11_minute_181 rfl ?_
          first | refine z_aload_n (pc := 182) C dX11_minute_182 rfl ?_ | refine z_aload_nN (pc := 182) C dX11_minute_182 rfl ?_
          refine z_getf (pc := 183) C dX11_minute_183 zf_X11_40_10 rfl rfl ?_
          refine z_iload_n (pc := 186) C dX11_minute_186 rfl ?_
          refine z_iald (pc := 187) (N := 10) C dX11_minute_187 rfl (by omega) (by decide) rfl ?_
          -- at 188: if_icmpgt 
          refine z_icmp_gt (pc := 188) (tgt := 214) C dX11_minute_188 (by decide) (fun z => ?_) (fun z => ?_)
          · rw [if_neg (fun y => absurd y.1 (Int32.not_le.mpr z))] at h9
            refine z_iconst (pc := 214) (v := nI 0) C dX11_minute_214 (by decide) ?_
            refine z_zast (pc := 215) (N := 10) C dX11_minute_215 rfl (by decide) (by omega) (by decide) (hp_m 12 (by decide) hn (by decide)) ?_
            first | refine z_iincN (pc := 216) C dX11_minute_216 rfl (by rw [hE]; decide) ?_ | refine z_iinc (pc := 216) C dX11_minute_216 rfl rfl (by rw [hE]; decide) ?_
            refine z_goto (pc := 219) (tgt := 136) C dX11_minute_219 (by decide) ?_
            -- at 136
            refine z_pick [0, 1] rfl ?_
            exact h9
          · refine z_iload_n (pc := 191) C dX11_minute_191 rfl ?_
            first | refine z_aload_n (pc := 192) C dX11_minute_192 rfl ?_ | refine z_aload_nN (pc := 192) C dX11_minute_192 rfl ?_
            refine z_getf (pc := 193) C dX11_minute_193 zf_X11_43_10 rfl rfl ?_
            refine z_iload_n (pc := 196) C dX11_minute_196 rfl ?_
            refine z_iald (pc := 197) (N := 10) C dX11_minute_197 rfl (by omega) (by decide) rfl ?_
            -- at 198: if_icmplt 
            refine z_icmp_lt (pc := 198) (tgt := 210) C dX11_minute_198 (by decide) (fun y => ?_) (fun y => ?_)
            · rw [if_pos ⟨Int32.not_lt.mp z, Or.inl y⟩] at h9
              refine z_iconst (pc := 210) (v := nI 1) C dX11_minute_210 (by decide) ?_
              refine z_goto (pc := 211) (tgt := 215) C dX11_minute_211 (by decide) ?_
              -- at 215
              refine z_zast (pc := 215) (N := 10) C dX11_minute_215 rfl (by decide) (by omega) (by decide) (hp_m 12 (by decide) hn (by decide)) ?_
              first | refine z_iincN (pc := 216) C dX11_minute_216 rfl (by rw [hE]; decide) ?_ | refine z_iinc (pc := 216) C dX11_minute_216 rfl rfl (by rw [hE]; decide) ?_
              refine z_goto (pc := 219) (tgt := 136) C dX11_minute_219 (by decide) ?_
              -- at 136
              refine z_pick [0, 1] rfl ?_
              exact h9
            · first | refine z_aload_n (pc := 201) C dX11_minute_201 rfl ?_ | refine z_aload_nN (pc := 201) C dX11_minute_201 rfl ?_
              refine z_getf (pc := 202) C dX11_minute_202 zf_X11_46_10 rfl rfl ?_
              refine z_iload_n (pc := 205) C dX11_minute_205 rfl ?_
              refine z_zald (pc := 206) (N := 10) C dX11_minute_206 rfl (by omega) (by decide) rfl ?_
              -- at 207: ifeq 
              refine z_if_eq (pc := 207) (tgt := 214) C dX11_minute_207 (by decide) (fun x => ?_) (fun x => ?_)
              · rw [if_neg (fun q => q.2.elim y (fun w => w x))] at h9
                refine z_iconst (pc := 214) (v := nI 0) C dX11_minute_214 (by decide) ?_
                refine z_zast (pc := 215) (N := 10) C dX11_minute_215 rfl (by decide) (by omega) (by decide) (hp_m 12 (by decide) hn (by decide)) ?_
                first | refine z_iincN (pc := 216) C dX11_minute_216 rfl (by rw [hE]; decide) ?_ | refine z_iinc (pc := 216) C dX11_minute_216 rfl rfl (by rw [hE]; decide) ?_
                refine z_goto (pc := 219) (tgt := 136) C dX11_minute_219 (by decide) ?_
                -- at 136
                refine z_pick [0, 1] rfl ?_
                exact h9
              · rw [if_pos ⟨Int32.not_lt.mp z, Or.inr x⟩] at h9
                refine z_iconst (pc := 210) (v := nI 1) C dX11_minute_210 (by decide) ?_
                refine z_goto (pc := 211) (tgt := 215) C dX11_minute_211 (by decide) ?_
                -- at 215
                refine z_zast (pc := 215) (N := 10) C dX11_minute_215 rfl (by decide) (by omega) (by decide) (hp_m 12 (by decide) hn (by decide)) ?_
                first | refine z_iincN (pc := 216) C dX11_minute_216 rfl (by rw [hE]; decide) ?_ | refine z_iinc (pc := 216) C dX11_minute_216 rfl rfl (by rw [hE]; decide) ?_
                refine z_goto (pc := 219) (tgt := 136) C dX11_minute_219 (by decide) ?_
                -- at 136
                refine z_pick [0, 1] rfl ?_
                exact h9
  -- what comes
  have loopD : ∀ (τ : Sg), τ.2.2 = σ.2.2 → MW τ → (∀ u, u < σ.2.2.2 → ∀ p, p < 2 → τ.1 11 1 (2 * u + p) < 0 ∨ ∃ d, d < σ.2.2.2 ∧ τ.1 11 1 (2 * u + p) = nI d) → (ZV l Ω E 0 0 134 [(0, rfO Ω 6)] [] (hp Ω (itF (fun u τ => itF (fun p τ => mCome τ u p) (upt (σ.2.2.1 u)) τ) σ.2.2.2 τ)) (hN σ)) → ∀ (j u : Nat), u + j = σ.2.2.2 → ZV l Ω E 0 0 97 [(0, rfO Ω 6), (1, .int (nI u))] [] (hp Ω (itF (fun u τ => itF (fun p τ => mCome τ u p) (upt (σ.2.2.1 u)) τ) u τ)) (hN σ) := by
    intro τ hτ hwτ hld cont j
    induction j with
    | zero =>
      intro u hu
      obtain rfl : u = σ.2.2.2 := by omega
      have fr := fr_mD τ σ.2.2.1 σ.2.2.2
      have hwf := hwτ.fr fr (fun j => by decide) (fun j => by decide)
      have eu := hwf.2.1
      rw [fr.2.trans hτ] at eu
      refine z_iload_n (pc := 97) C dX11_minute_97 rfl ?_
      first | refine z_aload_n (pc := 98) C dX11_minute_98 rfl ?_ | refine z_aload_nN (pc := 98) C dX11_minute_98 rfl ?_
      refine z_getf (pc := 99) C dX11_minute_99 zf_X11_93_10 rfl rfl ?_; rw [eu]
      -- at 102: if_icmpge 
      refine z_icmp_geT (pc := 102) (tgt := 134) C dX11_minute_102 (by decide) (by omega) (by omega) (by omega) ?_
      refine z_pick [0] rfl ?_
      exact cont
    | succ j ih =>
      intro u hu
      have h9 := ih (u + 1) (by omega)
      rw [show itF (fun u τ => itF (fun p τ => mCome τ u p) (upt (σ.2.2.1 u)) τ) (u + 1) τ = itF (fun p τ => mCome τ u p) (upt (σ.2.2.1 u)) (itF (fun u τ => itF (fun p τ => mCome τ u p) (upt (σ.2.2.1 u)) τ) u τ) from rfl] at h9
      have fr := fr_mD τ σ.2.2.1 u
      generalize itF (fun u τ => itF (fun p τ => mCome τ u p) (upt (σ.2.2.1 u)) τ) u τ = ρ at h9 fr ⊢
      have hwρ : MW ρ := hwτ.fr fr (fun j => by decide) (fun j => by decide)
      have hρ : ρ.2.2 = σ.2.2 := fr.2.trans hτ
      have eu := hwρ.2.1
      rw [hρ] at eu
      have hup := upt_le (σ.2.2.1 u)
      have inner : ∀ (k p : Nat), p + k = upt (σ.2.2.1 u) → ZV l Ω E 0 0 107 [(0, rfO Ω 6), (1, .int (nI u)), (2, .int (nI p))] [] (hp Ω (itF (fun p τ => mCome τ u p) p ρ)) (hN σ) := by
        intro k
        induction k with
        | zero =>
          intro p hp0
          obtain rfl : p = upt (σ.2.2.1 u) := by omega
          have fi := fr_mDi ρ u (upt (σ.2.2.1 u))
          have hwi : MW (itF (fun p τ => mCome τ u p) (upt (σ.2.2.1 u)) ρ) := hwρ.fr fi (fun j => by decide) (fun j => by decide)
          have hi2 : (itF (fun p τ => mCome τ u p) (upt (σ.2.2.1 u)) ρ).2.2 = σ.2.2 := fi.2.trans hρ
          have ct := zM_n (eE _ hi2) (ct_X11_ports l Ω _ hwi u (by rw [hi2]; omega))
          rw [hi2] at ct
          refine z_iload_n (pc := 107) C dX11_minute_107 rfl ?_
          first | refine z_aload_n (pc := 108) C dX11_minute_108 rfl ?_ | refine z_aload_nN (pc := 108) C dX11_minute_108 rfl ?_
          refine z_iload_n (pc := 109) C dX11_minute_109 rfl ?_
          refine z_callV (pc := 110) (ci := 10) C dX11_minute_110 zy_X11_ports kw_695 kw_696 rfl kw_843 rfl (ct) rfl rfl ⟨⟨by decide, by decide⟩, by decide, by decide⟩ (Nat.le_of_ble_eq_true rfl) ?_; dsimp only [Option.toList_some, List.cons_append, List.nil_append]
          -- at 113: if_icmpge 
          refine z_icmp_geT (pc := 113) (tgt := 128) C dX11_minute_113 (by decide) (by omega) (by omega) (by omega) ?_
          first | refine z_iincN (pc := 128) C dX11_minute_128 rfl (by rw [hE]; decide) ?_ | refine z_iinc (pc := 128) C dX11_minute_128 rfl rfl (by rw [hE]; decide) ?_
          refine z_goto (pc := 131) (tgt := 97) C dX11_minute_131 (by decide) ?_
          -- at 97
          refine z_pick [0, 1] rfl ?_
          exact h9
        | succ k ih2 =>
          intro p hp0
          have h8 := ih2 (p + 1) (by omega)
          rw [show itF (fun p τ => mCome τ u p) (p + 1) ρ = mCome (itF (fun p τ => mCome τ u p) p ρ) u p from rfl] at h8
          have fi := fr_mDi ρ u p
          generalize itF (fun p τ => mCome τ u p) p ρ = μ at h8 fi ⊢
          have hwi : MW μ := hwρ.fr fi (fun j => by decide) (fun j => by decide)
          have hi2 : μ.2.2 = σ.2.2 := fi.2.trans hρ
          have ct := zM_n (eE _ hi2) (ct_X11_ports l Ω _ hwi u (by rw [hi2]; omega))
          rw [hi2] at ct
          have e1 : μ.1 11 1 (2 * u + p) = τ.1 11 1 (2 * u + p) := (fi.1 11 1 (2 * u + p) (by simp)).trans (fr.1 11 1 (2 * u + p) (by simp))
          have hh := hld u (by omega) p (by omega)
          rw [← e1] at hh
          have cc2 := zM_n (eE _ hi2) (ct_X11_comes l Ω μ u p hwi (by omega) (by omega) (by rw [hi2]; exact hh))
          refine z_iload_n (pc := 107) C dX11_minute_107 rfl ?_
          first | refine z_aload_n (pc := 108) C dX11_minute_108 rfl ?_ | refine z_aload_nN (pc := 108) C dX11_minute_108 rfl ?_
          refine z_iload_n (pc := 109) C dX11_minute_109 rfl ?_
          refine z_callV (pc := 110) (ci := 10) C dX11_minute_110 zy_X11_ports kw_695 kw_696 rfl kw_843 rfl (ct) rfl rfl ⟨⟨by decide, by decide⟩, by decide, by decide⟩ (Nat.le_of_ble_eq_true rfl) ?_; dsimp only [Option.toList_some, List.cons_append, List.nil_append]
          -- at 113: if_icmpge 
          refine z_icmp_geF (pc := 113) (tgt := 128) C dX11_minute_113 (by decide) (by omega) (by omega) (by omega) ?_
          first | refine z_aload_n (pc := 116) C dX11_minute_116 rfl ?_ | refine z_aload_nN (pc := 116) C dX11_minute_116 rfl ?_
          refine z_iload_n (pc := 117) C dX11_minute_117 rfl ?_
          refine z_iload_n (pc := 118) C dX11_minute_118 rfl ?_
          refine z_callV (pc := 119) (ci := 10) C dX11_minute_119 zy_X11_comes kw_767 kw_768 rfl kw_856 rfl (cc2) rfl rfl ⟨⟨by decide, by decide⟩, by decide, by decide⟩ (Nat.le_of_ble_eq_true rfl) ?_; dsimp only [Option.toList_none, List.nil_append]
          first | refine z_iincN (pc := 122) C dX11_minute_122 rfl (by rw [hE]; decide) ?_ | refine z_iinc (pc := 122) C dX11_minute_122 rfl rfl (by rw [hE]; decide) ?_
          refine z_goto (pc := 125) (tgt := 107) C dX11_minute_125 (by decide) ?_
          -- at 107
          exact h8
      refine z_iload_n (pc := 97) C dX11_minute_97 rfl ?_
      first | refine z_aload_n (pc := 98) C dX11_minute_98 rfl ?_ | refine z_aload_nN (pc := 98) C dX11_minute_98 rfl ?_
      refine z_getf (pc := 99) C dX11_minute_99 zf_X11_93_10 rfl rfl ?_; rw [eu]
      -- at 102: if_icmpge 
      refine z_icmp_geF (pc := 102) (tgt := 134) C dX11_minute_102 (by decide) (by omega) (by omega) (by omega) ?_
      refine z_iconst (pc := 105) (v := nI 0) C dX11_minute_105 (by decide) ?_
      refine z_istore_n (pc := 106) C dX11_minute_106 (by rw [hE]; decide) ?_
      -- at 107: iload_2 
      exact inner (upt (σ.2.2.1 u)) 0 (by omega)
  -- what was held goes
  have loopC : ∀ (τ : Sg), τ.2.2 = σ.2.2 → MW τ → (ZV l Ω E 0 0 95 [(0, rfO Ω 6)] [] (hp Ω (itF (fun u τ => mZero τ u) σ.2.2.2 τ)) (hN σ)) → ∀ (j u : Nat), u + j = σ.2.2.2 → ZV l Ω E 0 0 45 [(0, rfO Ω 6), (1, .int (nI u))] [] (hp Ω (itF (fun u τ => mZero τ u) u τ)) (hN σ) := by
    intro τ hτ hwτ cont j
    induction j with
    | zero =>
      intro u hu
      obtain rfl : u = σ.2.2.2 := by omega
      have fr := fr_mC τ σ.2.2.2
      have eu := (hwτ.fr fr (fun j => by decide) (fun j => by decide)).2.1
      rw [fr.2.trans hτ] at eu
      refine z_iload_n (pc := 45) C dX11_minute_45 rfl ?_
      first | refine z_aload_n (pc := 46) C dX11_minute_46 rfl ?_ | refine z_aload_nN (pc := 46) C dX11_minute_46 rfl ?_
      refine z_getf (pc := 47) C dX11_minute_47 zf_X11_93_10 rfl rfl ?_; rw [eu]
      -- at 50: if_icmpge 
      refine z_icmp_geT (pc := 50) (tgt := 95) C dX11_minute_50 (by decide) (by omega) (by omega) (by omega) ?_
      refine z_pick [0] rfl ?_
      exact cont
    | succ j ih =>
      intro u hu
      have h9 := ih (u + 1) (by omega)
      rw [show itF (fun u τ => mZero τ u) (u + 1) τ = mZero (itF (fun u τ => mZero τ u) u τ) u from rfl] at h9
      have fr := fr_mC τ u
      generalize itF (fun u τ => mZero τ u) u τ = ρ at h9 fr ⊢
      have hwρ : MW ρ := hwτ.fr fr (fun j => by decide) (fun j => by decide)
      have hρ : ρ.2.2 = σ.2.2 := fr.2.trans hτ
      have eu := hwρ.2.1
      rw [hρ] at eu
      obtain ⟨e1, e2⟩ := hwρ.2.2 u (by rw [hρ]; omega)
      unfold mZero at h9
      refine z_iload_n (pc := 45) C dX11_minute_45 rfl ?_
      first | refine z_aload_n (pc := 46) C dX11_minute_46 rfl ?_ | refine z_aload_nN (pc := 46) C dX11_minute_46 rfl ?_
      refine z_getf (pc := 47) C dX11_minute_47 zf_X11_93_10 rfl rfl ?_; rw [eu]
      -- at 50: if_icmpge 
      refine z_icmp_geF (pc := 50) (tgt := 95) C dX11_minute_50 (by decide) (by omega) (by omega) (by omega) ?_
      refine z_iconst (pc := 53) (v := nI 0) C dX11_minute_53 (by decide) ?_
      refine z_istore_n (pc := 54) C dX11_minute_54 (by rw [hE]; decide) ?_
      -- at 55: iload_2 
      by_cases h7 : ρ.2.2.1 u = 7
      · rw [if_pos h7] at h9
        refine z_iload_n (pc := 55) C dX11_minute_55 rfl ?_
        refine z_bipush (pc := 56) (v := nI 8) C dX11_minute_56 (by decide) ?_
        -- at 58: if_icmpge 
        refine z_icmp_geF (pc := 58) (tgt := 89) C dX11_minute_58 (by decide) (by omega) (by omega) (by omega) ?_
        first | refine z_aload_n (pc := 61) C dX11_minute_61 rfl ?_ | refine z_aload_nN (pc := 61) C dX11_minute_61 rfl ?_
        refine z_getf (pc := 62) C dX11_minute_62 zf_X11_9_10 rfl rfl ?_
        refine z_iload_n (pc := 65) C dX11_minute_65 rfl ?_
        refine z_iald (pc := 66) (N := 10) C dX11_minute_66 rfl (by omega) (by decide) rfl ?_; rw [e1]
        refine z_bipush (pc := 67) (v := nI 7) C dX11_minute_67 (by decide) ?_
        -- at 69: if_icmpeq 
        refine z_icmp_eqT (pc := 69) (tgt := 89) C dX11_minute_69 (by decide) (by omega) (by omega) (by omega) ?_
        first | refine z_iincN (pc := 89) C dX11_minute_89 rfl (by rw [hE]; decide) ?_ | refine z_iinc (pc := 89) C dX11_minute_89 rfl rfl (by rw [hE]; decide) ?_
        refine z_goto (pc := 92) (tgt := 45) C dX11_minute_92 (by decide) ?_
        -- at 45
        refine z_pick [0, 1] rfl ?_
        exact h9
      · rw [if_neg h7] at h9
        have inner : ∀ (k c : Nat), c + k = 8 → ZV l Ω E 0 0 55 [(0, rfO Ω 6), (1, .int (nI u)), (2, .int (nI c))] [] (hp Ω (itF (fun c τ => sI τ 11 2 (8 * u + c) (nI 0)) c ρ)) (hN σ) := by
          intro k
          induction k with
          | zero =>
            intro c hc
            obtain rfl : c = 8 := by omega
            refine z_iload_n (pc := 55) C dX11_minute_55 rfl ?_
            refine z_bipush (pc := 56) (v := nI 8) C dX11_minute_56 (by decide) ?_
            -- at 58: if_icmpge 
            refine z_icmp_geT (pc := 58) (tgt := 89) C dX11_minute_58 (by decide) (by omega) (by omega) (by omega) ?_
            first | refine z_iincN (pc := 89) C dX11_minute_89 rfl (by rw [hE]; decide) ?_ | refine z_iinc (pc := 89) C dX11_minute_89 rfl rfl (by rw [hE]; decide) ?_
            refine z_goto (pc := 92) (tgt := 45) C dX11_minute_92 (by decide) ?_
            -- at 45
            refine z_pick [0, 1] rfl ?_
            exact h9
          | succ k ih2 =>
            intro c hc
            have hn : (itF (fun c τ => sI τ 11 2 (8 * u + c) (nI 0)) c ρ).2.2.2 ≤ 10 := by rw [itF_n (f := fun c τ => sI τ 11 2 (8 * u + c) (nI 0)) (fun _ _ => rfl)]; exact hwρ.1
            have r0 : (itF (fun c τ => sI τ 11 2 (8 * u + c) (nI 0)) c ρ).1 11 0 u = nI (ρ.2.2.1 u) := by
              rw [show (itF (fun c τ => sI τ 11 2 (8 * u + c) (nI 0)) c ρ).1 11 0 = ρ.1 11 0 from itF_row (f := fun c τ => sI τ 11 2 (8 * u + c) (nI 0)) (fun τ => τ.1 11 0) (fun c τ => by funext j; simp [sI]) ρ c]
              exact e1
            refine z_iload_n (pc := 55) C dX11_minute_55 rfl ?_
            refine z_bipush (pc := 56) (v := nI 8) C dX11_minute_56 (by decide) ?_
            -- at 58: if_icmpge 
            refine z_icmp_geF (pc := 58) (tgt := 89) C dX11_minute_58 (by decide) (by omega) (by omega) (by omega) ?_
            first | refine z_aload_n (pc := 61) C dX11_minute_61 rfl ?_ | refine z_aload_nN (pc := 61) C dX11_minute_61 rfl ?_
            refine z_getf (pc := 62) C dX11_minute_62 zf_X11_9_10 rfl rfl ?_
            refine z_iload_n (pc := 65) C dX11_minute_65 rfl ?_
            refine z_iald (pc := 66) (N := 10) C dX11_minute_66 rfl (by omega) (by decide) rfl ?_; rw [r0]
            refine z_bipush (pc := 67) (v := nI 7) C dX11_minute_67 (by decide) ?_
            -- at 69: if_icmpeq 
            refine z_icmp_eqF (pc := 69) (tgt := 89) C dX11_minute_69 (by decide) (by omega) (by omega) (by omega) ?_
            first | refine z_aload_n (pc := 72) C dX11_minute_72 rfl ?_ | refine z_aload_nN (pc := 72) C dX11_minute_72 rfl ?_
            refine z_getf (pc := 73) C dX11_minute_73 zf_X11_16_10 rfl rfl ?_
            refine z_iload_n (pc := 76) C dX11_minute_76 rfl ?_
            refine z_iload_n (pc := 77) C dX11_minute_77 rfl ?_
            refine z_callS (pc := 78) C dX11_minute_78 zy_X11_spot kw_717 kw_718 (ct_X11_spot l Ω _ _ _ _) rfl rfl ⟨⟨by decide, by decide⟩, by decide, by decide⟩ (Nat.le_of_ble_eq_true rfl) ?_; dsimp only [Option.toList_some, List.cons_append, List.nil_append]
            refine z_iconst (pc := 81) (v := nI 0) C dX11_minute_81 (by decide) ?_
            refine z_iast (pc := 82) (N := 80) C dX11_minute_82 rfl (by omega) (by decide) (hp_m 2 (by decide) hn (by decide)) ?_
            first | refine z_iincN (pc := 83) C dX11_minute_83 rfl (by rw [hE]; decide) ?_ | refine z_iinc (pc := 83) C dX11_minute_83 rfl rfl (by rw [hE]; decide) ?_
            refine z_goto (pc := 86) (tgt := 55) C dX11_minute_86 (by decide) ?_
            -- at 55
            exact ih2 (c + 1) (by omega)
        exact inner 8 0 rfl
  -- what is given
  have loopB : (ZV l Ω E 0 0 43 [(0, rfO Ω 6)] [] (hp Ω (itF (fun u τ => mGive τ u) σ.2.2.2 (mA σ))) (hN σ)) → ∀ (j u : Nat), u + j = σ.2.2.2 → ZV l Ω E 0 0 24 [(0, rfO Ω 6), (1, .int (nI u))] [] (hp Ω (itF (fun u τ => mGive τ u) u (mA σ))) (hN σ) := by
    intro cont j
    induction j with
    | zero =>
      intro u hu
      obtain rfl : u = σ.2.2.2 := by omega
      have fr := fr_mB (mA σ) σ.2.2.2
      have eu := (hwA.fr fr (fun j => by unfold bS; omega) (fun j => by unfold bS; omega)).2.1
      rw [fr.2.trans hA2] at eu
      refine z_iload_n (pc := 24) C dX11_minute_24 rfl ?_
      first | refine z_aload_n (pc := 25) C dX11_minute_25 rfl ?_ | refine z_aload_nN (pc := 25) C dX11_minute_25 rfl ?_
      refine z_getf (pc := 26) C dX11_minute_26 zf_X11_93_10 rfl rfl ?_; rw [eu]
      -- at 29: if_icmpge 
      refine z_icmp_geT (pc := 29) (tgt := 43) C dX11_minute_29 (by decide) (by omega) (by omega) (by omega) ?_
      refine z_pick [0] rfl ?_
      exact cont
    | succ j ih =>
      intro u hu
      have h9 := ih (u + 1) (by omega)
      rw [show itF (fun u τ => mGive τ u) (u + 1) (mA σ) = mGive (itF (fun u τ => mGive τ u) u (mA σ)) u from rfl] at h9
      have fr := fr_mB (mA σ) u
      generalize itF (fun u τ => mGive τ u) u (mA σ) = ρ at h9 fr ⊢
      have hwρ : MW ρ := hwA.fr fr (fun j => by unfold bS; omega) (fun j => by unfold bS; omega)
      have hρ : ρ.2.2 = σ.2.2 := fr.2.trans hA2
      have eu := hwρ.2.1
      rw [hρ] at eu
      obtain ⟨⟨K, k1, k2⟩, ⟨L, l1, l2⟩⟩ := cntA u (by rw [hA2]; omega)
      have ct := zM_n (eE _ hρ) (ct_X11_gives l Ω ρ u K L hwρ (by rw [hρ]; omega) k1 ((fr.1 11 13 u (by unfold bS; omega)).trans k2) l1 ((fr.1 11 16 u (by unfold bS; omega)).trans l2))
      refine z_iload_n (pc := 24) C dX11_minute_24 rfl ?_
      first | refine z_aload_n (pc := 25) C dX11_minute_25 rfl ?_ | refine z_aload_nN (pc := 25) C dX11_minute_25 rfl ?_
      refine z_getf (pc := 26) C dX11_minute_26 zf_X11_93_10 rfl rfl ?_; rw [eu]
      -- at 29: if_icmpge 
      refine z_icmp_geF (pc := 29) (tgt := 43) C dX11_minute_29 (by decide) (by omega) (by omega) (by omega) ?_
      first | refine z_aload_n (pc := 32) C dX11_minute_32 rfl ?_ | refine z_aload_nN (pc := 32) C dX11_minute_32 rfl ?_
      refine z_iload_n (pc := 33) C dX11_minute_33 rfl ?_
      refine z_callV (pc := 34) (ci := 10) C dX11_minute_34 zy_X11_gives kw_736 kw_737 rfl kw_846 rfl (ct) rfl rfl ⟨⟨by decide, by decide⟩, by decide, by decide⟩ (Nat.le_of_ble_eq_true rfl) ?_; dsimp only [Option.toList_none, List.nil_append]
      first | refine z_iincN (pc := 37) C dX11_minute_37 rfl (by rw [hE]; decide) ?_ | refine z_iinc (pc := 37) C dX11_minute_37 rfl rfl (by rw [hE]; decide) ?_
      refine z_goto (pc := 40) (tgt := 24) C dX11_minute_40 (by decide) ?_
      -- at 24
      exact h9
  have loopA : ∀ (j k : Nat), k + j = 160 → (ZV l Ω E 0 0 22 [(0, rfO Ω 6)] [] (hp Ω (mA σ)) (hN σ)) → ZV l Ω E 0 0 2 [(0, rfO Ω 6), (1, .int (nI k))] [] (hp Ω (itF (fun k τ => sI τ 11 18 k (nI 0)) k σ)) (hN σ) := by
    intro j
    induction j with
    | zero =>
      intro k hk cont
      obtain rfl : k = 160 := by omega
      refine z_iload_n (pc := 2) C dX11_minute_2 rfl ?_
      refine z_sipush (pc := 3) (v := nI 160) C dX11_minute_3 (by decide) ?_
      -- at 6: if_icmpge 
      refine z_icmp_geT (pc := 6) (tgt := 22) C dX11_minute_6 (by decide) (by omega) (by omega) (by omega) ?_
      refine z_pick [0] rfl ?_
      exact cont
    | succ j ih =>
      intro k hk cont
      have hn : (itF (fun k τ => sI τ 11 18 k (nI 0)) k σ).2.2.2 ≤ 10 := by rw [itF_n (f := fun k τ => sI τ 11 18 k (nI 0)) (fun _ _ => rfl)]; exact hn0
      refine z_iload_n (pc := 2) C dX11_minute_2 rfl ?_
      refine z_sipush (pc := 3) (v := nI 160) C dX11_minute_3 (by decide) ?_
      -- at 6: if_icmpge 
      refine z_icmp_geF (pc := 6) (tgt := 22) C dX11_minute_6 (by decide) (by omega) (by omega) (by omega) ?_
      first | refine z_aload_n (pc := 9) C dX11_minute_9 rfl ?_ | refine z_aload_nN (pc := 9) C dX11_minute_9 rfl ?_
      refine z_getf (pc := 10) C dX11_minute_10 zf_X11_65_10 rfl rfl ?_
      refine z_iload_n (pc := 13) C dX11_minute_13 rfl ?_
      refine z_iconst (pc := 14) (v := nI 0) C dX11_minute_14 (by decide) ?_
      refine z_iast (pc := 15) (N := 160) C dX11_minute_15 rfl (by omega) (by decide) (hp_m 18 (by decide) hn (by decide)) ?_
      first | refine z_iincN (pc := 16) C dX11_minute_16 rfl (by rw [hE]; decide) ?_ | refine z_iinc (pc := 16) C dX11_minute_16 rfl rfl (by rw [hE]; decide) ?_
      refine z_goto (pc := 19) (tgt := 2) C dX11_minute_19 (by decide) ?_
      -- at 2
      exact ih (k + 1) (by omega) cont
  -- the places between
  have frB := fr_mB (mA σ) σ.2.2.2
  have hB2 : (mB (mA σ)).2.2 = σ.2.2 := by
    unfold mB
    rw [hA2]
    exact frB.2.trans hA2
  have eB : mB (mA σ) = itF (fun u τ => mGive τ u) σ.2.2.2 (mA σ) := by unfold mB; rw [hA2]
  have hwB : MW (mB (mA σ)) := by rw [eB]; exact hwA.fr frB (fun j => by unfold bS; omega) (fun j => by unfold bS; omega)
  have eC : mC (mB (mA σ)) = itF (fun u τ => mZero τ u) σ.2.2.2 (mB (mA σ)) := by unfold mC; rw [hB2]
  have frC := fr_mC (mB (mA σ)) σ.2.2.2
  have hC2 : (mC (mB (mA σ))).2.2 = σ.2.2 := by rw [eC]; exact frC.2.trans hB2
  have hwC : MW (mC (mB (mA σ))) := by rw [eC]; exact hwB.fr frC (fun j => by decide) (fun j => by decide)
  have eD : mD (mC (mB (mA σ))) = itF (fun u τ => itF (fun p τ => mCome τ u p) (upt (σ.2.2.1 u)) τ) σ.2.2.2 (mC (mB (mA σ))) := by unfold mD; rw [hC2]
  have frD := fr_mD (mC (mB (mA σ))) σ.2.2.1 σ.2.2.2
  have hD2 : (mD (mC (mB (mA σ)))).2.2 = σ.2.2 := by rw [eD]; exact frD.2.trans hC2
  have hwD : MW (mD (mC (mB (mA σ)))) := by rw [eD]; exact hwC.fr frD (fun j => by decide) (fun j => by decide)
  have eE2 : mMinute σ = sI (itF (fun f τ => mCtl τ f) σ.2.2.2 (mD (mC (mB (mA σ))))) 11 30 1 ((itF (fun f τ => mCtl τ f) σ.2.2.2 (mD (mC (mB (mA σ))))).1 11 30 1 + nI 1) := by
    unfold mMinute mE
    rw [hD2]
  have rowD : ∀ a j, ¬ a = 2 → (mD (mC (mB (mA σ)))).1 11 a j = (mB (mA σ)).1 11 a j := by
    intro a j ha
    rw [eD, frD.1 11 a j (fun z => ha z.2), eC, frC.1 11 a j (fun z => ha z.2)]
  have rowC : ∀ a j, ¬ a = 2 → (mC (mB (mA σ))).1 11 a j = (mB (mA σ)).1 11 a j := by
    intro a j ha
    rw [eC, frC.1 11 a j (fun z => ha z.2)]
  have rowB : ∀ a j, a = 1 ∨ a = 9 → (mB (mA σ)).1 11 a j = σ.1 11 a j := by
    intro a j ha
    rw [eB, frB.1 11 a j (by unfold bS; omega), frA.1 11 a j (fun z => by have := z.2; omega)]
  refine z_iconst (pc := 0) (v := nI 0) C dX11_minute_0 (by decide) ?_
  refine z_istore_n (pc := 1) C dX11_minute_1 (by rw [hE]; decide) ?_
  -- at 2: iload_1 
  refine loopA 160 0 rfl ?_
  refine z_iconst (pc := 22) (v := nI 0) C dX11_minute_22 (by decide) ?_
  refine z_istore_n (pc := 23) C dX11_minute_23 (by rw [hE]; decide) ?_
  -- at 24: iload_1 
  refine loopB ?_ σ.2.2.2 0 (by omega)
  rw [← eB]
  refine z_iconst (pc := 43) (v := nI 0) C dX11_minute_43 (by decide) ?_
  refine z_istore_n (pc := 44) C dX11_minute_44 (by rw [hE]; decide) ?_
  -- at 45: iload_1 
  refine loopC (mB (mA σ)) hB2 hwB ?_ σ.2.2.2 0 (by omega)
  rw [← eC]
  refine z_iconst (pc := 95) (v := nI 0) C dX11_minute_95 (by decide) ?_
  refine z_istore_n (pc := 96) C dX11_minute_96 (by rw [hE]; decide) ?_
  -- at 97: iload_1 
  refine loopD (mC (mB (mA σ))) hC2 hwC (fun u hu p hp0 => by rw [rowC 1 _ (by decide), rowB 1 _ (Or.inl rfl)]; exact (hg.2 u hu).2.2.1 p hp0) ?_ σ.2.2.2 0 (by omega)
  rw [← eD]
  refine z_iconst (pc := 134) (v := nI 0) C dX11_minute_134 (by decide) ?_
  refine z_istore_n (pc := 135) C dX11_minute_135 (by rw [hE]; decide) ?_
  -- at 136: iload_1 
  refine loopE (mD (mC (mB (mA σ)))) hD2 hwD (fun u hu => ?_) (fun u hu => by rw [rowD 9 _ (by decide), rowB 9 _ (Or.inr rfl)]; exact (hg.2 u hu).2.2.2) eE2 σ.2.2.2 0 (by omega)
  rw [rowD 13 u (by decide), rowD 16 u (by decide), eB]
  exact mB_cnt (mA σ) cntA σ.2.2.2 (by rw [hA2]; omega) u hu
