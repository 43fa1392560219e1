theorem zcls : ∀ (ci : Nat) (q : vw_C), vwCl[ci]? = some q → (∃ ty0 : Nat → FieldType, ∀ k, k < q.2.2 → parseFieldDescriptor (q.2.1 k).2.2.1 = some (ty0 k)) ∧ (∀ a, a < q.2.2 → ∀ b, b < q.2.2 → a ≠ b → (q.2.1 a).2.1 ≠ (q.2.1 b).2.1) ∧ ∀ w ∈ u_ws q.1 q.2.1 q.2.2, w ∈ zTbl := by
  intro ci q h
  match ci, h with
  | 0, h => cases h; exact ⟨⟨tyX0, tyX0_ok⟩, nmX0, zin_0⟩
  | 1, h => cases h; exact ⟨⟨tyX1, tyX1_ok⟩, nmX1, zin_1⟩
  | 2, h => cases h; exact ⟨⟨tyX2, tyX2_ok⟩, nmX2, zin_2⟩
  | 3, h => cases h; exact ⟨⟨tyX3, tyX3_ok⟩, nmX3, zin_3⟩
  | 4, h => cases h; exact ⟨⟨tyX4, tyX4_ok⟩, nmX4, zin_4⟩
  | 5, h => cases h; exact ⟨⟨tyX5, tyX5_ok⟩, nmX5, zin_5⟩
  | 6, h => cases h; exact ⟨⟨tyX6, tyX6_ok⟩, nmX6, zin_6⟩
  | 7, h => cases h; exact ⟨⟨tyX7, tyX7_ok⟩, nmX7, zin_7⟩
  | 8, h => cases h; exact ⟨⟨tyX8, tyX8_ok⟩, nmX8, zin_8⟩
  | 9, h => cases h; exact ⟨⟨tyX10, tyX10_ok⟩, nmX10, zin_9⟩
  | 10, h => cases h; exact ⟨⟨tyX11, tyX11_ok⟩, nmX11, zin_10⟩
  | k + 11, h => simp at h
section ZVF
variable {l : Launch} {Ω : OmT} {E : ZE} {cells slots pc n : Nat} {lv : List (Nat × Value)} {st : List Value} {A : AHp} {cc : ByteArray} {own : String} {ret : Option FieldType} {rm : Room} {nm : String}
def ZF (own : String) (idx ci k : Nat) : Prop := ∃ (q : vw_C) (ref : String), vwCl[ci]? = some q ∧ k < q.2.2 ∧ ((Cond.fieldLink own idx ref (q.2.1 k).2.1 (q.2.1 k).2.2.1 ∈ zTbl) ∨ (own, idx, ref, (q.2.1 k).2.1, (q.2.1 k).2.2.1) ∈ zFn) ∧ (ref = (q.2.1 k).1 ∨ Cond.sameField ref (q.2.1 k).1 (q.2.1 k).2.1 (q.2.1 k).2.2.1 ∈ zTbl)
theorem z_getf (C : ZC Ω E cc own ret rm nm) {idx ci k0 a : Nat} {fs : List Value} {v : Value} (hd : decode cc pc = .ok (.getfield idx, 3)) (hF : ZF own idx ci k0) (ha : A a = some (.inl (ci, fs))) (hv : fs[k0]? = some v) (kk : ZV l Ω E cells slots (pc + 3) lv (v :: st) A n) : ZV l Ω E cells slots pc lv (.ref (Ω.2.2.1 + a) :: st) A n := by
  intro H locs ls hR hL hl
  obtain ⟨q, ref, hq, hk, hlk, hsm⟩ := hF
  obtain ⟨-, -, hin⟩ := zcls ci q hq
  obtain ⟨r, h1, cell, q1, q2, q3, q4⟩ := hR.2.2 _ _ ha
  cases h1.symm.trans hq
  have hts := C.2.2.2.2.1
  have hZ := C.2.2.2.2.2.2.2.2.2
  obtain ⟨hS, hfc, kC, hkC, hkind⟩ := hZ.1.1 ci _ hq
  obtain ⟨cf, kf, fi, f, hi, hsl⟩ := hS k0 hk
  have hsame : E.1.2.2.2.fieldFound? ref (q.2.1 k0).2.1 (q.2.1 k0).2.2.1 = some (cf, kf, fi, f) := by
    rcases hsm with h | h
    · rw [h]; exact hi
    · exact u_same (hts _ h) _ hi
  have hst := (u_facts hfc hkC (u_lays hts hin hk) hi).1
  have hv2 : cell.slots[f.slot]? = some v := by
    rw [hsl, q4 k0 hk]
    simp [vp_V, hv]
  have hkn : cell.vm ≠ .unknown := by rw [q3]; exact fun h => by cases h
  rcases hlk with h | h
  · exact W.getf C.1 C.2.1 C.2.2.2.1 (hts _ h) hsame hst q1 hkn hv2 rfl rfl hd (kk H locs ls hR hL hl)
  · exact va_Wgetf C.1 C.2.1 C.2.2.2.1 (va_Nw.use rfl (hZ.2.2.1 _ h)) hsame hst q1 hkn hv2 rfl rfl hd (kk H locs ls hR hL hl)
def ZFp (own : String) (idx ci k : Nat) (ty : FieldType) : Prop := ∃ (q : vw_C) (ref : String), vwCl[ci]? = some q ∧ k < q.2.2 ∧ (Cond.fieldLink own idx ref (q.2.1 k).2.1 (q.2.1 k).2.2.1 ∈ zTbl) ∧ (ref = (q.2.1 k).1 ∨ Cond.sameField ref (q.2.1 k).1 (q.2.1 k).2.1 (q.2.1 k).2.2.1 ∈ zTbl) ∧ (q.2.1 k).2.2.2 = false ∧ parseFieldDescriptor (q.2.1 k).2.2.1 = some ty
def ZFf (own : String) (idx ci k : Nat) (ty : FieldType) : Prop := ∃ q : vw_C, vwCl[ci]? = some q ∧ k < q.2.2 ∧ (Cond.fieldLink own idx (q.2.1 k).1 (q.2.1 k).2.1 (q.2.1 k).2.2.1 ∈ zTbl) ∧ (q.2.1 k).2.2.2 = true ∧ (q.2.1 k).1 = own ∧ parseFieldDescriptor (q.2.1 k).2.2.1 = some ty
theorem z_putf (C : ZC Ω E cc own ret rm nm) {idx ci k0 a : Nat} {fs fs' : List Value} {v : Value} {ty : FieldType} {A' : AHp} (hd : decode cc pc = .ok (.putfield idx, 3)) (hF : ZFp own idx ci k0 ty) (ha : A a = some (.inl (ci, fs))) (hl0 : k0 < fs.length) (hn : narrow ty v = v) (hfit : fits ty v = true) (hs : fs.set k0 v = fs') (hA : aup A a (.inl (ci, fs')) = A') (kk : ZV l Ω E cells slots (pc + 3) lv st A' n) : ZV l Ω E cells slots pc lv (v :: .ref (Ω.2.2.1 + a) :: st) A n := by
  intro H locs ls hR hL hl
  subst hA; subst hs
  obtain ⟨q, ref, hq, hk, hlk, hsm, hfin, hpd⟩ := hF
  obtain ⟨⟨ty0, hty⟩, hnm, hin⟩ := zcls ci q hq
  obtain ⟨r, h1, cell, q1, q2, q3, q4⟩ := hR.2.2 _ _ ha
  cases h1.symm.trans hq
  have hts := C.2.2.2.2.1
  have hZ := C.2.2.2.2.2.2.2.2.2
  have hap := va_apart (own := own) hts hin ty0 hty hnm hZ.1 hq
  obtain ⟨hS, hfc, kC, hkC, hkind⟩ := hZ.1.1 ci _ hq
  obtain ⟨cf, kf, fi, f, hi, hsl⟩ := hS k0 hk
  have hsame : E.1.2.2.2.fieldFound? ref (q.2.1 k0).2.1 (q.2.1 k0).2.2.1 = some (cf, kf, fi, f) := by
    rcases hsm with h | h
    · rw [h]; exact hi
    · exact u_same (hts _ h) _ hi
  have hst := (u_facts hfc hkC (u_lays hts hin hk) hi).1
  have hlay := hts _ (hin _ (u_in_lay hk))
  unfold u_lay at hlay
  rw [if_neg (by rw [hfin]; decide)] at hlay
  have h6 := u_store hfc hkC hkind hlay hi hpd hn hfit
  refine W.putK C.1 C.2.1 (f := f) ⟨C.2.2.2.1, hts _ hlk, ⟨_, _, _, hsame⟩, hst⟩ (by rw [q2]; exact h6) q1 q3 (by rw [hsl]; exact k2_hasslot (q4 k0 hk)) rfl rfl hd fun H1 e1 e2 e3 => ?_
  rw [hsl] at e1 ⊢
  exact kk H1 _ ls (hR.put e2 ⟨_, hq, t_OB.to (V := updV (vp_V fs) k0 v) ⟨_, e1, q2, q3, t_set q4 hap hk v⟩ (fun j _ => vp_updV_set hl0 v j)⟩ e3) (zLocs hL (Nat.le_add_right _ _)) hl
theorem z_putF (C : ZC Ω E cc own ret rm nm) (hnm0 : nm = "<init>") {idx ci k0 a : Nat} {fs fs' : List Value} {v : Value} {ty : FieldType} {A' : AHp} (hd : decode cc pc = .ok (.putfield idx, 3)) (hF : ZFf own idx ci k0 ty) (ha : A a = some (.inl (ci, fs))) (hl0 : k0 < fs.length) (hn : narrow ty v = v) (hfit : fits ty v = true) (hs : fs.set k0 v = fs') (hA : aup A a (.inl (ci, fs')) = A') (kk : ZV l Ω E cells slots (pc + 3) lv st A' n) : ZV l Ω E cells slots pc lv (v :: .ref (Ω.2.2.1 + a) :: st) A n := by
  intro H locs ls hR hL hl
  subst hA; subst hs
  obtain ⟨q, hq, hk, hlk, hfin, hdecl, hpd⟩ := hF
  obtain ⟨⟨ty0, hty⟩, hnm, hin⟩ := zcls ci q hq
  obtain ⟨r, h1, cell, q1, q2, q3, q4⟩ := hR.2.2 _ _ ha
  cases h1.symm.trans hq
  have hts := C.2.2.2.2.1
  have hZ := C.2.2.2.2.2.2.2.2.2
  have hap := va_apart (own := own) hts hin ty0 hty hnm hZ.1 hq
  obtain ⟨hS, hfc, kC, hkC, hkind⟩ := hZ.1.1 ci _ hq
  obtain ⟨cf, kf, fi, f, hi, hsl⟩ := hS k0 hk
  have hst := (u_facts hfc hkC (u_lays hts hin hk) hi).1
  have hlay := hts _ (hin _ (u_in_lay hk))
  unfold u_lay at hlay
  rw [if_pos hfin] at hlay
  have hcf : E.2.1.1.cls = cf := by
    obtain ⟨_, _, c', _, _, _, -, -, hf', -, -, -, hown2, -⟩ := Cond.laysFinal_spec hlay
    have e1 : c' = cf := by have := hi.symm.trans hf'; simp at this; exact this.1.symm
    rw [hdecl] at hown2
    rw [← e1]; exact Option.some.inj (C.2.2.2.1.symm.trans hown2)
  have h6 := u_fits hfc hkC hkind (Or.inr hlay) hi hpd hn hfit
  refine W.putFinK C.1 C.2.1 C.2.2.2.1 (hts _ hlk) hi hst hcf (C.2.2.2.2.2.2.2.1.trans hnm0) (by rw [q2]; exact h6) q1 q3 (by rw [hsl]; exact k2_hasslot (q4 k0 hk)) rfl rfl hd fun H1 e1 e2 e3 => ?_
  rw [hsl] at e1 ⊢
  exact kk H1 _ ls (hR.put e2 ⟨_, hq, t_OB.to (V := updV (vp_V fs) k0 v) ⟨_, e1, q2, q3, t_set q4 hap hk v⟩ (fun j _ => vp_updV_set hl0 v j)⟩ e3) (zLocs hL (Nat.le_add_right _ _)) hl
/-- a table of numbers, private in the outer -/
theorem z_gets (C : ZC Ω E cc own ret rm nm) {idx : Nat} (j : Nat) (hj : j < 5) (hd : decode cc pc = .ok (.getstatic idx, 3)) (hq : (own, idx, "GrindWorks", zSn j, "[I") ∈ zFn) (kk : ZV l Ω E cells slots (pc + 3) lv (.ref (Ω.2.2.2.2 j) :: st) A n) : ZV l Ω E cells slots pc lv st A n := by
  intro H locs ls hR hL hl
  have hZ := C.2.2.2.2.2.2.2.2.2
  obtain ⟨cf, kf, fi, f, a, cell, h1, h2, h3, h4, h5, h6, h7, h8⟩ := (hZ.2.2.2.2.2.2.1 j hj).1
  have ha : a < Ω.2.2.1 := Nat.not_le.mp h8
  exact va_WgetsN C.1 C.2.1 C.2.2.2.1 (va_Nw.use rfl (hZ.2.2.1 _ hq)) h1 h2 h3 h4 (by rw [hR.2.1 a ha]; exact h5) (fun e => by rw [e] at h6; cases h6) h7 rfl hd (kk H locs ls hR hL hl)
theorem z_tald (C : ZC Ω E cc own ret rm nm) {j k : Nat} (hj : j < 5) (hk : k < 8) (hd : decode cc pc = .ok (.iaload, 1)) (kk : ZV l Ω E cells slots (pc + 1) lv (.int (nI (zSv j k)) :: st) A n) : ZV l Ω E cells slots pc lv (.int (nI k) :: .ref (Ω.2.2.2.2 j) :: st) A n := by
  intro H locs ls hR hL hl
  have hZ := C.2.2.2.2.2.2.2.2.2
  obtain ⟨cell, h1, h2, h3, h4, h5, h6, h7⟩ := (hZ.2.2.2.2.2.2.1 j hj).2
  have ha : Ω.2.2.2.2 j < Ω.2.2.1 := Nat.not_le.mp h7
  have hc : (nI k).toNatClampNeg = k := nI_clamp (by omega)
  refine W.iald (v := .int (nI (zSv j k))) C.1 C.2.1 (by rw [hR.2.1 _ ha]; exact h1) h2 h3 ?_ (by rw [hc]; exact h6 k hk) rfl rfl hd (kk H locs ls hR hL hl)
  intro q
  rcases q with q | q
  · exact nI_pos (by omega) q
  · rw [hc] at q
    omega
/-! new cells -/
theorem z_newa (C : ZC Ω E cc own ret rm nm) {at0 : ArrayType} {t N : Nat} (hd : decode cc pc = .ok (.newarray at0, 2)) (ht : t < 3) (hty : newarray.typeOf at0 = tyA t) (harr : Cond.arrayClass (tyA t) ∈ zTbl) (hN : N < 60000000) (hc : cells + 1 ≤ rm.cells) (hs : slots + N ≤ rm.slots) (kk : ZV l Ω E (cells + 1) (slots + N) (pc + 2) lv (.ref (Ω.2.2.1 + n) :: st) (aup A n (.inr (t, N, fun _ => defaultValue (tyA t)))) (n + 1)) : ZV l Ω E cells slots pc lv (.int (nI N) :: st) A n := by
  intro H locs ls hR hL hl
  have hZ := C.2.2.2.2.2.2.2.2.2
  have hrm := C.2.2.2.2.2.2.2.2.1
  have hcl : (nI N).toNatClampNeg = N := nI_clamp (by omega)
  have hby : N * componentBytes (newarray.typeOf at0) ≤ 536870912 := by
    rw [hty]
    match t, ht with
    | 0, _ => show N * 4 ≤ _; omega
    | 1, _ => show N * 8 ≤ _; omega
    | 2, _ => show N * 1 ≤ _; omega
  refine va_newaK C.1 C.2.1 (by rw [hty]; exact C.2.2.2.2.1 _ harr) rfl hd rfl (nI_pos (by omega)) hcl hby (by rw [hrm]; exact hc) (by rw [hrm]; exact hs) rfl fun H1 cA e1 z1 o1 hAr hNm => ?_
  have hcA : cA = Ω.2.1 t := by
    rw [hty] at hNm
    match t, ht with
    | 0, _ => exact Option.some.inj (hNm.symm.trans (hZ.1.2 0 _ rfl).2)
    | 1, _ => exact Option.some.inj (hNm.symm.trans (hZ.1.2 1 _ rfl).2)
    | 2, _ => exact Option.some.inj (hNm.symm.trans (hZ.1.2 2 _ rfl).2)
  subst hcA
  rw [hty] at e1
  have h9 := kk H1 locs ls (hR.push z1 e1 o1) hL hl
  rw [← hR.1] at h9
  exact h9
theorem z_new (C : ZC Ω E cc own ret rm nm) {idx ci : Nat} {q : vw_C} {fs : List Value} (ty0 : Nat → FieldType) (hd : decode cc pc = .ok (.new idx, 3)) (hq : vwCl[ci]? = some q) (hty : ∀ k, k < q.2.2 → parseFieldDescriptor (q.2.1 k).2.2.1 = some (ty0 k)) (hw1 : Cond.classLink own idx q.1 ∈ zTbl) (hw2 : Cond.instantiable q.1 q.2.2 ∈ zTbl) (hw3 : Cond.initialized q.1 ∈ zTbl) (hfs : ∀ j, j < q.2.2 → defaultValue (ty0 j) = vp_V fs j) (hc : cells + 1 ≤ rm.cells) (hs : slots + q.2.2 ≤ rm.slots) (kk : ZV l Ω E (cells + 1) (slots + q.2.2) (pc + 3) lv (.ref (Ω.2.2.1 + n) :: st) (aup A n (.inl (ci, fs))) (n + 1)) : ZV l Ω E cells slots pc lv st A n := by
  intro H locs ls hR hL hl
  obtain ⟨-, -, hin⟩ := zcls ci q hq
  have hts := C.2.2.2.2.1
  have hZ := C.2.2.2.2.2.2.2.2.2
  have hrm := C.2.2.2.2.2.2.2.2.1
  have hKn := hZ.1.1 ci _ hq
  refine W.newcK C.1 C.2.1 C.2.2.2.1 (hts _ hw1) (hts _ hw2) (hts _ hw3) rfl hd (by rw [hrm]; exact hc) (by rw [hrm]; exact hs) hKn.2.1 rfl fun H1 kC hkC e1 z1 o1 => ?_
  have h9 := kk H1 locs ls (hR.push z1 ⟨_, hq, (u_born ty0 hts hin hKn hkC e1 hty).to hfs⟩ o1) hL hl
  rw [← hR.1] at h9
  exact h9
theorem z_anew (C : ZC Ω E cc own ret rm nm) {idx N : Nat} (hd : decode cc pc = .ok (.anewarray idx, 3)) (hw1 : Cond.classLink own idx "GrindWorks$Unit" ∈ zTbl) (hN : N < 60000000) (hc : cells + 1 ≤ rm.cells) (hs : slots + N ≤ rm.slots) (kk : ZV l Ω E (cells + 1) (slots + N) (pc + 3) lv (.ref (Ω.2.2.1 + n) :: st) (aup A n (.inr (3, N, fun _ => .null))) (n + 1)) : ZV l Ω E cells slots pc lv (.int (nI N) :: st) A n := by
  intro H locs ls hR hL hl
  have hZ := C.2.2.2.2.2.2.2.2.2
  have hrm := C.2.2.2.2.2.2.2.2.1
  have hcl : (nI N).toNatClampNeg = N := nI_clamp (by omega)
  refine W.anew C.1 C.2.1 C.2.2.2.1 (C.2.2.2.2.1 _ hw1) (va_AO.use hZ.2.2.2.2.2.2.2.1) rfl hd rfl (nI_pos (by omega)) (by rw [hcl]; omega) (by rw [hrm]; exact hc) (by rw [hrm, hcl]; exact hs) fun cA kA comp f1 f2 f3 f4 => ?_
  obtain ⟨kA', comp', g1, g2, g3, g4⟩ := (hZ.1.2 3 _ rfl).2
  have hcA : cA = Ω.2.1 3 := Option.some.inj (f1.symm.trans g4)
  subst hcA
  rw [hcl]
  generalize hH1 : H.push ({ cls := Ω.2.1 3, slots := Array.replicate N .null, vm := .none } : Cell) = H1
  have z1 : H1.size = H.size + 1 := by rw [← hH1, Array.size_push]
  have e1 : H1[H.size]? = some (arrV (Ω.2.1 3) N (fun _ => .null)) := by rw [← hH1, Array.getElem?_push_size, ← arrV_new]
  have o1 : ∀ q : Nat, q < H.size → H1[q]? = H[q]? := fun q hq => by rw [← hH1, Array.getElem?_push, if_neg (Nat.ne_of_lt hq)]
  have h9 := kk H1 locs ls (hR.push z1 e1 o1) hL hl
  rw [← hR.1] at h9
  exact h9
/-- an object's cell, as a receiver -/
theorem zRecv (hZ : ZK Ω E.1.2.2.2) {H : Heap} (hR : ZR Ω A n H) {a ci : Nat} {fs : List Value} {q : vw_C} (ha : A a = some (.inl (ci, fs))) (hq : vwCl[ci]? = some q) : ∃ cell : Cell, H[Ω.2.2.1 + a]? = some cell ∧ cell.vm.isStatics = false ∧ E.1.2.2.2.vm.findClass q.1 = some cell.cls := by
  obtain ⟨r, h1, cell, q1, q2, q3, q4⟩ := hR.2.2 _ _ ha
  exact ⟨cell, q1, by rw [q3]; rfl, by rw [q2]; exact (hZ.1.1 ci q hq).2.1⟩
theorem z_aast (C : ZC Ω E cc own ret rm nm) {a k N v ci : Nat} {f : Nat → Value} {fs : List Value} {q : vw_C} {A' : AHp} (hd : decode cc pc = .ok (.aastore, 1)) (ha : A a = some (.inr (3, N, f))) (hv : A v = some (.inl (ci, fs))) (hq : vwCl[ci]? = some q) (hca : (q.1, "GrindWorks$Unit") ∈ zCa) (hk : k < N) (hN : N < 2147483648) (hA : aup A a (.inr (3, N, updV f k (.ref (Ω.2.2.1 + v)))) = A') (kk : ZV l Ω E cells slots (pc + 1) lv st A' n) : ZV l Ω E cells slots pc lv (.ref (Ω.2.2.1 + v) :: .int (nI k) :: .ref (Ω.2.2.1 + a) :: st) A n := by
  intro H locs ls hR hL hl
  subst hA
  have hZ := C.2.2.2.2.2.2.2.2.2
  obtain ⟨cv, v1, v2, v3⟩ := zRecv hZ hR hv hq
  obtain ⟨kA, comp, g1, g2, g3, g4⟩ := (hZ.1.2 3 _ rfl).2
  obtain ⟨c0, t0, f1, f2, f3⟩ := Cond.castable_spec (va_Nw.use (A := E.2.1.2.1) rfl (hZ.2.2.2.1 _ hca))
  cases v3.symm.trans f1
  cases g3.symm.trans f2
  obtain ⟨kv, hkv, -⟩ := Vm.findClass_spec f1
  obtain ⟨kc, hkc, -⟩ := Vm.findClass_spec g3
  refine W.aast C.1 C.2.1 (hR.2.2 _ _ ha) (fun q h => by cases h) (fun h => by cases h) g1 g2 rfl hkc ⟨nI_pos (Nat.lt_trans hk hN), by rw [nI_clamp (Nat.lt_trans hk hN), arrV_size]; exact hk⟩ v1 (fun q h => by rw [h] at v2; cases v2) hkv f3 rfl rfl hd fun H1 e1 z1 o1 => ?_
  rw [zSt (Nat.lt_trans hk hN)] at e1
  exact kk H1 _ ls (hR.put z1 e1 o1) (zLocs hL (Nat.le_add_right _ _)) hl
/-! casts -/
theorem z_instY (C : ZC Ω E cc own ret rm nm) {idx a ci : Nat} {fs : List Value} {q : vw_C} (hd : decode cc pc = .ok (.instanceof idx, 3)) (ha : A a = some (.inl (ci, fs))) (hq : vwCl[ci]? = some q) (hw : Cond.classLink own idx q.1 ∈ zTbl) (kk : ZV l Ω E cells slots (pc + 3) lv (.int 1 :: st) A n) : ZV l Ω E cells slots pc lv (.ref (Ω.2.2.1 + a) :: st) A n := fun H locs ls hR hL hl =>
  va_instS C.1 C.2.1 C.2.2.2.1 (C.2.2.2.2.1 _ hw) (C.2.2.2.2.2.2.2.2.2.1.1 ci q hq).2 (zRecv C.2.2.2.2.2.2.2.2.2 hR ha hq) hd (kk H locs ls hR hL hl)
theorem z_instN (C : ZC Ω E cc own ret rm nm) {idx a ci : Nat} {fs : List Value} {q : vw_C} {T : String} (hd : decode cc pc = .ok (.instanceof idx, 3)) (ha : A a = some (.inl (ci, fs))) (hq : vwCl[ci]? = some q) (hw : Cond.classLink own idx T ∈ zTbl) (hn : (q.1, T) ∈ zNc) (kk : ZV l Ω E cells slots (pc + 3) lv (.int 0 :: st) A n) : ZV l Ω E cells slots pc lv (.ref (Ω.2.2.1 + a) :: st) A n := fun H locs ls hR hL hl =>
  va_instNo C.1 C.2.1 C.2.2.2.1 (C.2.2.2.2.1 _ hw) (C.2.2.2.2.2.2.2.2.2.2.2.2.2.1 _ hn) (zRecv C.2.2.2.2.2.2.2.2.2 hR ha hq) hd (kk H locs ls hR hL hl)
theorem z_instNull (C : ZC Ω E cc own ret rm nm) {idx : Nat} (hd : decode cc pc = .ok (.instanceof idx, 3)) (kk : ZV l Ω E cells slots (pc + 3) lv (.int 0 :: st) A n) : ZV l Ω E cells slots pc lv (.null :: st) A n := fun H locs ls hR hL hl =>
  lv_instN C.1 C.2.1 hd (kk H locs ls hR hL hl)
theorem z_cast (C : ZC Ω E cc own ret rm nm) {idx a ci : Nat} {fs : List Value} {q : vw_C} (hd : decode cc pc = .ok (.checkcast idx, 3)) (ha : A a = some (.inl (ci, fs))) (hq : vwCl[ci]? = some q) (hw : Cond.classLink own idx q.1 ∈ zTbl) (kk : ZV l Ω E cells slots (pc + 3) lv (.ref (Ω.2.2.1 + a) :: st) A n) : ZV l Ω E cells slots pc lv (.ref (Ω.2.2.1 + a) :: st) A n := fun H locs ls hR hL hl =>
  va_castS C.1 C.2.1 C.2.2.2.1 (C.2.2.2.2.1 _ hw) (C.2.2.2.2.2.2.2.2.2.1.1 ci q hq).2 (zRecv C.2.2.2.2.2.2.2.2.2 hR ha hq) hd (kk H locs ls hR hL hl)
/-! calls -/
theorem zBlind {av : List Value} : FrameBlind (va_Pc av (fun U => ZR Ω A n U.heap ∧ ZK Ω U)) := fun _ _ _ _ q => ⟨q.1, q.2.1, ZK.same rfl q.2.2⟩
theorem zGood {y : MethodName} {cy : ByteArray} {ny : Nat} {ry : Option FieldType} (h : Cond.code y cy ny ry ∈ zTbl) : GoodIn zTbl (.code y cy ny ry :: zTbl) := by
  intro w hw
  rcases List.mem_cons.mp hw with rfl | hw
  · exact ⟨h, zTbl_good h⟩
  · exact ⟨hw, zTbl_good hw⟩
/-- what a call asks of the callee's name -/
def ZY (y : MethodName) (cy : ByteArray) (ny : Nat) (ry : Option FieldType) (k : Nat) : Prop := Cond.code y cy ny ry ∈ zTbl ∧ Cond.initialized y.cls ∈ zTbl ∧ (y.cls ≠ "java/lang/invoke/MethodHandle" ∧ y.cls ≠ "java/lang/invoke/VarHandle" ∧ (parseMethodDescriptor y.desc).map (fun d => d.parameters.length) = some k)
def ZRm (rm ry : Room) (ny cells slots : Nat) : Prop := (ry.frames + 1 ≤ rm.frames ∧ 8 + (ny + 11) + ry.locals ≤ rm.locals) ∧ cells + ry.cells ≤ rm.cells ∧ slots + ry.slots ≤ rm.slots
theorem zAfter {Qa : State → Outcome → State → Prop} {mc ms : Nat} {r : Option Value} {A' : AHp} {n' : Nat} {rest st0 : List Value} {H : Heap} {locs : List Loc} {ls : Array Slot} (hr : va_Run E.1.1 l E.1.2.1 E.1.2.2.1 E.1.2.2.2 E.2.1.1 E.2.1.2.1 E.2.1.2.2.1 E.2.1.2.2.2.1 E.2.1.2.2.2.2 H locs cells slots mc ms (F0 E.2.1.1 pc ls st0) rest (fun st o t => o = .returned r ∧ ZR Ω A' n' t.heap) (fun q => Ω.2.2.1 ≤ q))
    (hL : ∀ x ∈ locs, Ω.2.2.1 ≤ x.base) (hl : lv_has ls E.2.2.1 lv) (kk : ZV l Ω E (cells + mc) (slots + ms) (pc + 3) lv (r.toList ++ rest) A' n') : ZW l E H locs cells slots (F0 E.2.1.1 pc ls st0) := by
  intro T hT X
  obtain ⟨v, st0, t, T1, L, h0, X1, hLL, e1, e2, ⟨hq1, hq2⟩, st⟩ := hr T hT X
  cases hq1
  obtain ⟨t2, a1, b1⟩ := kk T1.heap (locs ++ L) ls (by rw [e1]; exact hq2) (fun x hx => (List.mem_append.mp hx).elim (hL x) (hLL x)) hl T1 rfl X1
  exact ⟨t2, st t2 a1, b1⟩
theorem z_callS (C : ZC Ω E cc own ret rm nm) {y : MethodName} {cy : ByteArray} {ny kk0 idx : Nat} {ry : Option FieldType} {rmy : Room} {As rest : List Value} {r : Option Value} {A' : AHp} {n' : Nat} (hd : decode cc pc = .ok (.invokestatic idx, 3)) (hY : ZY y cy ny ry kk0) (hw : Cond.methodLink own idx y ∈ zTbl) (hs : Cond.static y ∈ zTbl) (hM : ZM l Ω y cy ny ry rmy As A n r A' n') (hst : st = As.reverse ++ rest) (hk : As.length = kk0) (hrm : ZRm rm rmy ny cells slots) (hcat : (rest.map fun v => v.category).sum ≤ 8) (kk : ZV l Ω E (cells + rmy.cells) (slots + rmy.slots) (pc + 3) lv (r.toList ++ rest) A' n') : ZV l Ω E cells slots pc lv st A n := by
  intro H locs ls hR hL hl
  subst hst
  have hts := C.2.2.2.2.1
  have hZ := C.2.2.2.2.2.2.2.2.2
  have hm := C.2.2.2.2.2.2.2.2.1
  exact zAfter (Qa := fun _ _ _ => True) (va_runS (As := As) (rest := rest) ⟨C.1, C.2.1, C.2.2.1, C.2.2.2.1, hts⟩ hM ⟨callB_of kk0 hts (zGood hY.1) rfl rfl rfl (hts _ hY.2.1) (hts _ hw) hY.2.2 (by rw [hm]; exact hrm.1), hts _ hs⟩ ⟨zBlind, fun U hU hW => ⟨rfl, by rw [hU]; exact hR, ZK.warm hW hZ⟩⟩ rfl hk hl.1 rfl (lv_room hcat) hd (by rw [hm]; exact hrm.2)) hL hl kk
theorem z_callSN (C : ZC Ω E cc own ret rm nm) {y : MethodName} {cy : ByteArray} {ny kk0 idx : Nat} {ry : Option FieldType} {rmy : Room} {As rest : List Value} {r : Option Value} {A' : AHp} {n' : Nat} (hd : decode cc pc = .ok (.invokestatic idx, 3)) (hY : ZY y cy ny ry kk0) (hw : (own, idx, y) ∈ zMn) (hs : Cond.static y ∈ zTbl) (hM : ZM l Ω y cy ny ry rmy As A n r A' n') (hst : st = As.reverse ++ rest) (hk : As.length = kk0) (hrm : ZRm rm rmy ny cells slots) (hcat : (rest.map fun v => v.category).sum ≤ 8) (kk : ZV l Ω E (cells + rmy.cells) (slots + rmy.slots) (pc + 3) lv (r.toList ++ rest) A' n') : ZV l Ω E cells slots pc lv st A n := by
  intro H locs ls hR hL hl
  subst hst
  have hts := C.2.2.2.2.1
  have hZ := C.2.2.2.2.2.2.2.2.2
  have hm := C.2.2.2.2.2.2.2.2.1
  exact zAfter (Qa := fun _ _ _ => True) (va_runSN (As := As) (rest := rest) ⟨C.1, C.2.1, C.2.2.1, C.2.2.2.1, hts⟩ hM ⟨va_cnB kk0 hts (zGood hY.1) rfl rfl rfl (hZ.2.1 _ hw) (hts _ hY.2.1) hY.2.2 (by rw [hm]; exact hrm.1), hts _ hs, trivial⟩ ⟨zBlind, fun U hU hW => ⟨rfl, by rw [hU]; exact hR, ZK.warm hW hZ⟩⟩ rfl hk hl.1 rfl (lv_room hcat) hd (by rw [hm]; exact hrm.2)) hL hl kk
theorem z_callV (C : ZC Ω E cc own ret rm nm) {y : MethodName} {cy : ByteArray} {ny kk0 idx a ci : Nat} {ry : Option FieldType} {rmy : Room} {fs : List Value} {q : vw_C} {As rest : List Value} {r : Option Value} {A' : AHp} {n' : Nat} (hd : decode cc pc = .ok (.invokevirtual idx, 3)) (hY : ZY y cy ny ry kk0) (hw : Cond.methodLink own idx y ∈ zTbl) (hi : Cond.instanceMethod y ∈ zTbl) (hq : vwCl[ci]? = some q) (hs : Cond.selects q.1 y y ∈ zTbl) (ha : A a = some (.inl (ci, fs))) (hM : ZM l Ω y cy ny ry rmy (.ref (Ω.2.2.1 + a) :: As) A n r A' n') (hst : st = As.reverse ++ .ref (Ω.2.2.1 + a) :: rest) (hk : As.length = kk0) (hrm : ZRm rm rmy ny cells slots) (hcat : (rest.map fun v => v.category).sum ≤ 8) (kk : ZV l Ω E (cells + rmy.cells) (slots + rmy.slots) (pc + 3) lv (r.toList ++ rest) A' n') : ZV l Ω E cells slots pc lv st A n := by
  intro H locs ls hR hL hl
  subst hst
  have hts := C.2.2.2.2.1
  have hZ := C.2.2.2.2.2.2.2.2.2
  have hm := C.2.2.2.2.2.2.2.2.1
  exact zAfter (Qa := fun _ _ _ => True) (va_runV (C := q.1) (As := As) (rest := rest) ⟨C.1, C.2.1, C.2.2.1, C.2.2.2.1, hts⟩ hM ⟨callB_of kk0 hts (zGood hY.1) rfl rfl rfl (hts _ hY.2.1) (hts _ hw) hY.2.2 (by rw [hm]; exact hrm.1), hts _ hi, hts _ hs⟩ ⟨zBlind, zRecv hZ hR ha hq, fun U hU hW => ⟨rfl, by rw [hU]; exact hR, ZK.warm hW hZ⟩⟩ rfl hk hl.1 rfl (lv_room hcat) hd (by rw [hm]; exact hrm.2)) hL hl kk
/-- a call by a name of the outer kind of unit; y is what the receiver's kind selects -/
theorem z_callU (C : ZC Ω E cc own ret rm nm) {x y : MethodName} {owner : String} {cy : ByteArray} {ny kk0 idx a ci : Nat} {ry : Option FieldType} {rmy : Room} {fs : List Value} {q : vw_C} {As rest : List Value} {r : Option Value} {A' : AHp} {n' : Nat} (hd : decode cc pc = .ok (.invokevirtual idx, 3)) (hY : ZY y cy ny ry kk0) (hx : owner ≠ "java/lang/invoke/MethodHandle" ∧ owner ≠ "java/lang/invoke/VarHandle" ∧ (parseMethodDescriptor x.desc).map (fun d => d.parameters.length) = some kk0) (hw : Cond.methodLink own idx x ∈ zTbl) (hsm : Cond.sameMethod x.cls owner x.name x.desc ∈ zTbl) (hdc : va_Decl E.1.2.2.2 ⟨owner, x.name, x.desc⟩) (hi : Cond.instanceMethod y ∈ zTbl) (hq : vwCl[ci]? = some q) (hs : Cond.selects q.1 x y ∈ zTbl) (ha : A a = some (.inl (ci, fs))) (hM : ZM l Ω y cy ny ry rmy (.ref (Ω.2.2.1 + a) :: As) A n r A' n') (hst : st = As.reverse ++ .ref (Ω.2.2.1 + a) :: rest) (hk : As.length = kk0) (hrm : ZRm rm rmy ny cells slots) (hcat : (rest.map fun v => v.category).sum ≤ 8) (kk : ZV l Ω E (cells + rmy.cells) (slots + rmy.slots) (pc + 3) lv (r.toList ++ rest) A' n') : ZV l Ω E cells slots pc lv st A n := by
  intro H locs ls hR hL hl
  subst hst
  have hts := C.2.2.2.2.1
  have hZ := C.2.2.2.2.2.2.2.2.2
  have hm := C.2.2.2.2.2.2.2.2.1
  have hlen : ∀ sig, parseMethodDescriptor x.desc = some sig → kk0 = sig.parameters.length := by
    intro sig h
    have h2 := hx.2.2
    rw [h] at h2
    exact (Option.some.inj h2).symm
  exact zAfter (Qa := fun _ _ _ => True) (va_runU (C := q.1) (owner := owner) (x := x) (bytes := cy) (maxL := ny) (ret := ry) (As := As) (rest := rest) ⟨C.1, C.2.1, C.2.2.1, C.2.2.2.1, hts⟩ hM ⟨⟨rfl, rfl, by rw [hm]; exact hrm.1.1, by rw [hm]; exact hrm.1.2, pay_in hts (zGood hY.1), List.mem_cons_self⟩, hts _ hY.1, hts _ hY.2.1, ⟨hx.1, hx.2.1⟩, hlen, hts _ hw, hts _ hsm, hdc, hts _ hs, hts _ hi⟩ ⟨zBlind, zRecv hZ hR ha hq, fun U hU hW => ⟨rfl, by rw [hU]; exact hR, ZK.warm hW hZ⟩⟩ rfl hk hl.1 rfl (lv_room hcat) hd (by rw [hm]; exact hrm.2)) hL hl kk
theorem z_callI (C : ZC Ω E cc own ret rm nm) {y : MethodName} {cy : ByteArray} {ny kk0 idx a : Nat} {rmy : Room} {As rest : List Value} {A' : AHp} {n' : Nat} (hd : decode cc pc = .ok (.invokespecial idx, 3)) (hY : ZY y cy ny none kk0) (hn : y.name = "<init>") (hw : Cond.methodLink own idx y ∈ zTbl) (hi : Cond.instanceMethod y ∈ zTbl) (hM : ZM l Ω y cy ny none rmy (.ref (Ω.2.2.1 + a) :: As) A n none A' n') (hst : st = As.reverse ++ .ref (Ω.2.2.1 + a) :: rest) (hk : As.length = kk0) (hrm : ZRm rm rmy ny cells slots) (hcat : (rest.map fun v => v.category).sum ≤ 8) (kk : ZV l Ω E (cells + rmy.cells) (slots + rmy.slots) (pc + 3) lv rest A' n') : ZV l Ω E cells slots pc lv st A n := by
  intro H locs ls hR hL hl
  subst hst
  have hts := C.2.2.2.2.1
  have hZ := C.2.2.2.2.2.2.2.2.2
  have hm := C.2.2.2.2.2.2.2.2.1
  exact zAfter (r := none) (Qa := fun _ _ _ => True) (va_runI (As := As) (rest := rest) ⟨C.1, C.2.1, C.2.2.1, C.2.2.2.1, hts⟩ hM ⟨callB_of kk0 hts (zGood hY.1) rfl rfl rfl (hts _ hY.2.1) (hts _ hw) hY.2.2 (by rw [hm]; exact hrm.1), hn, hts _ hi⟩ ⟨zBlind, fun U hU hW => ⟨rfl, by rw [hU]; exact hR, ZK.warm hW hZ⟩⟩ rfl hk hl.1 rfl (lv_room hcat) hd (by rw [hm]; exact hrm.2)) hL hl kk
theorem z_callIN (C : ZC Ω E cc own ret rm nm) {y : MethodName} {cy : ByteArray} {ny kk0 idx a : Nat} {rmy : Room} {As rest : List Value} {A' : AHp} {n' : Nat} (hd : decode cc pc = .ok (.invokespecial idx, 3)) (hY : ZY y cy ny none kk0) (hn : y.name = "<init>") (hw : (own, idx, y) ∈ zMn) (hi : Cond.instanceMethod y ∈ zTbl) (hM : ZM l Ω y cy ny none rmy (.ref (Ω.2.2.1 + a) :: As) A n none A' n') (hst : st = As.reverse ++ .ref (Ω.2.2.1 + a) :: rest) (hk : As.length = kk0) (hrm : ZRm rm rmy ny cells slots) (hcat : (rest.map fun v => v.category).sum ≤ 8) (kk : ZV l Ω E (cells + rmy.cells) (slots + rmy.slots) (pc + 3) lv rest A' n') : ZV l Ω E cells slots pc lv st A n := by
  intro H locs ls hR hL hl
  subst hst
  have hts := C.2.2.2.2.1
  have hZ := C.2.2.2.2.2.2.2.2.2
  have hm := C.2.2.2.2.2.2.2.2.1
  exact zAfter (r := none) (Qa := fun _ _ _ => True) (va_runIN (As := As) (rest := rest) ⟨C.1, C.2.1, C.2.2.1, C.2.2.2.1, hts⟩ hM ⟨va_cnB kk0 hts (zGood hY.1) rfl rfl rfl (hZ.2.1 _ hw) (hts _ hY.2.1) hY.2.2 (by rw [hm]; exact hrm.1), hn, hts _ hi⟩ ⟨zBlind, fun U hU hW => ⟨rfl, by rw [hU]; exact hR, ZK.warm hW hZ⟩⟩ rfl hk hl.1 rfl (lv_room hcat) hd (by rw [hm]; exact hrm.2)) hL hl kk
theorem z_oinit (C : ZC Ω E cc own ret rm nm) {idx a : Nat} (hd : decode cc pc = .ok (.invokespecial idx, 3)) (hw : Cond.methodLink own idx objectInit ∈ zTbl) (hi : Cond.instanceMethod objectInit ∈ zTbl) (hc : Cond.code objectInit ⟨#[0xb1]⟩ 1 none ∈ zTbl) (hf : 1 ≤ rm.frames) (hlo : (st.map fun v => v.category).sum + 12 ≤ rm.locals) (kk : ZV l Ω E cells slots (pc + 3) lv st A n) : ZV l Ω E cells slots pc lv (.ref a :: st) A n := by
  intro H locs ls hR hL hl
  have hts := C.2.2.2.2.1
  have hm := C.2.2.2.2.2.2.2.2.1
  exact W.objInit C.1 C.2.1 C.2.2.2.1 (hts _ hw) (hts _ hi) (hts _ hc) rfl (hl.1.trans C.2.2.1.symm) rfl hd (by rw [hm]; exact hf) (by rw [hm]; show 2 * 0 + _ + 12 ≤ _; omega) (kk H locs ls hR hL hl)
/-! ends -/
theorem z_iret (C : ZC Ω E cc own (some .int) rm nm) {r : Option Value} {A' : AHp} {n' mc ms : Nat} {v : Int32} (hQ : ZQ Ω E r A' n' mc ms) (hd : decode cc pc = .ok (.ireturn, 1)) (hr : r = some (.int v)) (hA : A = A') (hn : n = n') (hc : cells ≤ mc) (hs : slots ≤ ms) : ZV l Ω E cells slots pc lv [.int v] A n := by
  intro H locs ls hR hL hl
  subst hr; subst hA; subst hn
  refine W.widen hc hs ?_
  show W _ _ _ _ _ _ _ _ _ _ _ _ _ _ E.2.2.2 _
  rw [show E.2.2.2 = _ from hQ]
  exact W.iret C.1 C.2.1 C.2.2.2.2.2.1 (fun t ht hW => ⟨rfl, by rw [ht]; exact hR⟩) hL hd C.2.2.2.2.2.2.1
theorem z_lret (C : ZC Ω E cc own (some .long) rm nm) {r : Option Value} {A' : AHp} {n' mc ms : Nat} {v : Int64} (hQ : ZQ Ω E r A' n' mc ms) (hd : decode cc pc = .ok (.lreturn, 1)) (hr : r = some (.long v)) (hA : A = A') (hn : n = n') (hc : cells ≤ mc) (hs : slots ≤ ms) : ZV l Ω E cells slots pc lv [.long v] A n := by
  intro H locs ls hR hL hl
  subst hr; subst hA; subst hn
  refine W.widen hc hs ?_
  show W _ _ _ _ _ _ _ _ _ _ _ _ _ _ E.2.2.2 _
  rw [show E.2.2.2 = _ from hQ]
  exact W.lret C.1 C.2.1 C.2.2.2.2.2.1 (fun t ht hW => ⟨rfl, by rw [ht]; exact hR⟩) hL hd C.2.2.2.2.2.2.1
theorem z_zret (C : ZC Ω E cc own (some .boolean) rm nm) {r : Option Value} {A' : AHp} {n' mc ms : Nat} {v : Int32} (hQ : ZQ Ω E r A' n' mc ms) (hd : decode cc pc = .ok (.ireturn, 1)) (hv : narrow .boolean (.int v) = .int v) (hr : r = some (.int v)) (hA : A = A') (hn : n = n') (hc : cells ≤ mc) (hs : slots ≤ ms) : ZV l Ω E cells slots pc lv [.int v] A n := by
  intro H locs ls hR hL hl
  subst hr; subst hA; subst hn
  refine W.widen hc hs ?_
  show W _ _ _ _ _ _ _ _ _ _ _ _ _ _ E.2.2.2 _
  rw [show E.2.2.2 = _ from hQ]
  exact W.zret C.1 C.2.1 C.2.2.2.2.2.1 hv (fun t ht hW => ⟨rfl, by rw [ht]; exact hR⟩) hL hd C.2.2.2.2.2.2.1
theorem z_vret (C : ZC Ω E cc own none rm nm) {r : Option Value} {A' : AHp} {n' mc ms : Nat} (hQ : ZQ Ω E r A' n' mc ms) (hd : decode cc pc = .ok (.return_, 1)) (hr : r = none) (hA : A = A') (hn : n = n') (hc : cells ≤ mc) (hs : slots ≤ ms) : ZV l Ω E cells slots pc lv [] A n := by
  intro H locs ls hR hL hl
  subst hr; subst hA; subst hn
  refine W.widen hc hs ?_
  show W _ _ _ _ _ _ _ _ _ _ _ _ _ _ E.2.2.2 _
  rw [show E.2.2.2 = _ from hQ]
  exact W.vret C.1 C.2.1 C.2.2.2.2.2.1 (fun t ht hW => ⟨rfl, by rw [ht]; exact hR⟩) hL hd C.2.2.2.2.2.2.1
theorem z_aret (C : ZC Ω E cc own ret rm nm) {rt : FieldType} {r : Option Value} {A' : AHp} {n' mc ms : Nat} {v : Value} (hQ : ZQ Ω E r A' n' mc ms) (hret : ret = some rt) (hrt : (∃ n, rt = .object n) ∨ ∃ t, rt = .array t) (hv : v = .null ∨ ∃ a, v = .ref a) (hd : decode cc pc = .ok (.areturn, 1)) (hr : r = some v) (hA : A = A') (hn : n = n') (hc : cells ≤ mc) (hs : slots ≤ ms) : ZV l Ω E cells slots pc lv [v] A n := by
  intro H locs ls hR hL hl
  subst hr; subst hA; subst hn; subst hret
  refine W.widen hc hs ?_
  show W _ _ _ _ _ _ _ _ _ _ _ _ _ _ E.2.2.2 _
  rw [show E.2.2.2 = _ from hQ]
  exact W.aret C.1 C.2.1 C.2.2.2.2.2.1 hrt hv (fun t ht hW => ⟨rfl, by rw [ht]; exact hR⟩) hL hd C.2.2.2.2.2.2.1
end ZVF
/-- a contract out of the walk of its body -/
theorem ZM_of {l : Launch} {Ω : OmT} {y : MethodName} {cc : ByteArray} {nL : Nat} {ret : Option FieldType} {rm : Room} {av : List Value} {A : AHp} {n : Nat} {r : Option Value} {A' : AHp} {n' : Nat} (hy : plainName y.cls = true) (hav : (lg_sl av).length ≤ nL)
    (body : ∀ E : ZE, E.2.2.1 = nL → ZC Ω E cc y.cls ret rm y.name → ZQ Ω E r A' n' rm.cells rm.slots → ZV l Ω E 0 0 0 (lv_args 0 av) [] A n) : ZM l Ω y cc nL ret rm av A n r A' n' := by
  refine Met.ofW (cc := cc) (maxL := nL) (ret := ret) hy rfl ?_
  intro p e s m args below meth c s₁ B hml hv
  obtain ⟨rfl, hR, hK⟩ := hv
  have hts := atoms_spec (ws := .code y cc nL ret :: zTbl) B.pre
  have hown : s.vm.findClass y.cls = some m.cls := findClass_of_methodNamed B.named
  have hl := lv_entry av (n := nL) hav
  rw [lg_entry_eq]
  exact body ((p, e, rm, s), (m, av.toArray, below, meth, c), nL, MQ below (ZQc Ω r A' n') av.toArray s rm.cells rm.slots (fun q => Ω.2.2.1 ≤ q)) rfl ⟨B.exec, B.bytes, hml, hown, fun w hw => hts w (List.mem_cons_of_mem _ hw), B.returns, B.notSynchronized, (name_of_methodNamed B.named B.method).1, rfl, hK⟩ rfl s.heap [] _ hR (fun x hx => by cases hx) hl
