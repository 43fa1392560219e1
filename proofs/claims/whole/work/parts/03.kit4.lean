/-! ===== xor; System.arraycopy between rows of ints ===== -/
section ZVX
variable {l : Launch} {Ω : OmT} {E : ZE} {cells slots pc n : Nat} {lv : List (Nat × Value)} {st : List Value} {A : AHp} {cc : ByteArray} {own : String} {ret : Option FieldType} {rm : Room} {nm : String}
theorem z_ixor (C : ZC Ω E cc own ret rm nm) {x y : Int32} (hd : decode cc pc = .ok (.ixor, 1)) (k : ZV l Ω E cells slots (pc + 1) lv (.int (x ^^^ y) :: st) A n) : ZV l Ω E cells slots pc lv (.int y :: .int x :: st) A n :=
  fun H locs ls hR hL hl => lv_ixor C.1 C.2.1 hd (k H locs ls hR hL hl)
theorem z_copy (C : ZC Ω E cc own ret rm nm) {idx a b N M K : Nat} {f g : Nat → Int32} (hd : decode cc pc = .ok (.invokestatic idx, 3)) (hlink : Cond.methodLink own idx arraycopyName ∈ zTbl) (hnat : Cond.native arraycopyName ∈ zTbl) (hstat : Cond.static arraycopyName ∈ zTbl) (hini : Cond.initialized "java/lang/System" ∈ zTbl)
    (ha : A a = some (.inr (0, N, fun j => .int (f j)))) (hb : A b = some (.inr (0, M, fun j => .int (g j)))) (hK : K < 2147483648) (hKN : K ≤ N) (hKM : K ≤ M) (hfr : 1 ≤ rm.frames) (hlo : (st.map fun v => v.category).sum + (nativeFrameWords "java/lang/System" "arraycopy" 5 + 11) ≤ rm.locals)
    (kk : ZV l Ω E cells slots (pc + 3) lv st (aup A b (.inr (0, M, fun j => .int (if j < K then f j else g j)))) n) : ZV l Ω E cells slots pc lv (.int (nI K) :: .int (nI 0) :: .ref (Ω.2.2.1 + b) :: .int (nI 0) :: .ref (Ω.2.2.1 + a) :: st) A n := by
  intro H locs ls hR hL hl T hT X
  have hts := C.2.2.2.2.1
  have hc0 : H[Ω.2.2.1 + a]? = some (arrV (Ω.2.1 0) N (fun j => .int (f j))) := hR.2.2 _ _ ha
  have hc1 : H[Ω.2.2.1 + b]? = some (arrV (Ω.2.1 0) M (fun j => .int (g j))) := hR.2.2 _ _ hb
  obtain ⟨-, k0, hk0, cm0, hkk0⟩ := zArr C (t := 0) (by decide) N (fun j => .int (f j))
  obtain ⟨-, k1, hk1, cm1, hkk1⟩ := zArr C (t := 0) (by decide) M (fun j => .int (g j))
  have hm := C.2.2.2.2.2.2.2.2.1
  have cK : (nI K).toNatClampNeg = K := nI_clamp hK
  have c0 : (nI 0).toNatClampNeg = 0 := nI_clamp (by decide)
  have tK : (nI K).toInt = (K : Int) := nI_toInt hK
  have t0 : (nI 0).toInt = ((0 : Nat) : Int) := nI_toInt (by decide)
  obtain ⟨vm', X', step⟩ := X.arraycopy C.1 C.2.2.2.1 (hts _ hlink) (hts _ hnat) (hts _ hstat) (hts _ hini) (src := Ω.2.2.1 + a) (dst := Ω.2.2.1 + b) (cs := arrV (Ω.2.1 0) N (fun j => .int (f j))) (cd := arrV (Ω.2.1 0) M (fun j => .int (g j))) (srcPos := nI 0) (destPos := nI 0) (n := nI K) (by rw [hT]; exact hc0) (by rw [hT]; exact hc1)
    (fun _ h => by cases h) (fun _ h => by cases h) (fun h => by cases h) (fun h => by cases h) hk0 hk1 hkk0 hkk1 (by rfl) (nI_pos (by decide)) (nI_pos (by decide)) (nI_pos hK)
    (by rw [tK, t0, arrV_size]; omega)
    (by rw [tK, t0, arrV_size]; omega)
    (fun vm₁ _ i hi => by
      rw [cK] at hi
      have e : (arrV (Ω.2.1 0) N (fun j => .int (f j))).slots.getD ((nI 0).toNatClampNeg + i) .null = .int (f i) := by
        rw [c0, Nat.zero_add, Array.getD_eq_getD_getElem?, arrV_read _ _ (by omega)]
        rfl
      refine ⟨?_, ?_⟩
      · rw [e]; rfl
      · rw [e]; exact trivial)
    (g := F0 E.2.1.1 pc ls (.int (nI K) :: .int (nI 0) :: .ref (Ω.2.2.1 + b) :: .int (nI 0) :: .ref (Ω.2.2.1 + a) :: st)) rfl (by rw [C.2.2.1]; exact hl.1) (rest := st) rfl (by rw [C.2.1]; exact hd) (by rw [hm]; exact hfr) (by rw [hm]; show 2 * 0 + _ + _ ≤ _; omega)
  have e1 : copied (arrV (Ω.2.1 0) N (fun j => .int (f j))) (arrV (Ω.2.1 0) M (fun j => .int (g j))) (nI 0) (nI 0) (nI K) = arrV (Ω.2.1 0) M (fun j => .int (if j < K then f j else g j)) := by
    have h := va_copied (fun z => Value.int z) (Ω.2.1 0) (Ω.2.1 0) (n0 := N) (n1 := M) (sp := 0) (dp := 0) (n := K) f g (by omega)
    have e2 : (fun j => Value.int (va_cpy f g 0 0 K j)) = (fun j => .int (if j < K then f j else g j)) := by
      funext j
      unfold va_cpy
      by_cases hj : j < K
      · rw [if_pos (by omega), if_pos hj]; simp
      · rw [if_neg (by omega), if_neg hj]
    rw [e2] at h
    show (arrV _ _ _).storeRun (nI 0).toNatClampNeg ((arrV _ _ _).stretch (nI 0).toNatClampNeg (nI K).toNatClampNeg) = _
    rw [c0, cK]
    exact h
  rw [e1] at X' step
  have hl1 : Ω.2.2.1 + b < H.size := (Array.getElem?_eq_some_iff.mp hc1).1
  have hheap : ((T.setVm vm').setCell (Ω.2.2.1 + b) (arrV (Ω.2.1 0) M (fun j => .int (if j < K then f j else g j)))).heap = H.setIfInBounds (Ω.2.2.1 + b) (arrV (Ω.2.1 0) M (fun j => .int (if j < K then f j else g j))) := by rw [← hT]; rfl
  have oq : ∀ q : Nat, q ≠ Ω.2.2.1 + b → (H.setIfInBounds (Ω.2.2.1 + b) (arrV (Ω.2.1 0) M (fun j => .int (if j < K then f j else g j))))[q]? = H[q]? := fun q hq => by simp [Array.getElem?_setIfInBounds, Ne.symm hq]
  obtain ⟨t, a1, b1⟩ := kk _ _ ls (hR.put (c := .inr (0, M, fun j => .int (if j < K then f j else g j))) (by simp) (show (H.setIfInBounds _ _)[Ω.2.2.1 + b]? = some _ by simp [Array.getElem?_setIfInBounds, hl1]) oq) (fun x hx => by
      rcases List.mem_append.mp hx with h | h
      · exact hL x h
      · obtain ⟨z, -, hz⟩ := List.mem_map.mp h
        rw [← hz]
        exact Nat.le_add_right _ _) hl _ hheap X'
  exact ⟨t, step t a1, b1⟩
end ZVX
