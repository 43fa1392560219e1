/-! ===== rows of rows: N rows of M ints made at once (the rounds' library has no row for that instruction) ===== -/
def mnO (h i j : Nat) : Value := if j < i then .ref (h + 1 + j) else .null
def mnS (s : State) (cA comp : ClassId) (N M : Nat) : Nat → State
  | 0 => s.pushCell (arrV cA N (mnO s.heap.size 0))
  | i + 1 => ((mnS s cA comp N M i).pushCell (arrV comp M (fun _ => .int 0))).setCell s.heap.size (arrV cA N (mnO s.heap.size (i + 1)))
theorem mnO_up (h i : Nat) : updV (mnO h i) i (.ref (h + 1 + i)) = mnO h (i + 1) := by
  funext j
  unfold updV mnO
  by_cases e : j = i
  · subst e
    rw [if_pos rfl, if_pos (by omega)]
  · rw [if_neg e]
    by_cases h2 : j < i
    · rw [if_pos h2, if_pos (by omega)]
    · rw [if_neg h2, if_neg (by omega)]
theorem mnS_at (s : State) (cA comp : ClassId) (N M : Nat) : ∀ i, (mnS s cA comp N M i).heap.size = s.heap.size + 1 + i ∧ (mnS s cA comp N M i).vm = s.vm ∧ (mnS s cA comp N M i).slotsUsed = s.slotsUsed + N + i * M ∧ (mnS s cA comp N M i).heap[s.heap.size]? = some (arrV cA N (mnO s.heap.size i)) ∧ (∀ q, q < s.heap.size → (mnS s cA comp N M i).heap[q]? = s.heap[q]?) ∧ ∀ j, j < i → (mnS s cA comp N M i).heap[s.heap.size + 1 + j]? = some (arrV comp M (fun _ => .int 0))
  | 0 => by
    have e : mnS s cA comp N M 0 = s.pushCell (arrV cA N (mnO s.heap.size 0)) := rfl
    rw [e]
    refine ⟨by simp, rfl, by simp [arrV_size], by simp, fun q hq => ?_, fun j hj => absurd hj (by omega)⟩
    show (s.heap.push _)[q]? = _
    rw [Array.getElem?_push, if_neg (by omega)]
  | i + 1 => by
    obtain ⟨h1, h2, h3, h4, h5, h6⟩ := mnS_at s cA comp N M i
    have e : mnS s cA comp N M (i + 1) = ((mnS s cA comp N M i).pushCell (arrV comp M (fun _ => .int 0))).setCell s.heap.size (arrV cA N (mnO s.heap.size (i + 1))) := rfl
    rw [e]
    generalize mnS s cA comp N M i = u at h1 h2 h3 h4 h5 h6
    have hh : ((u.pushCell (arrV comp M (fun _ => .int 0))).setCell s.heap.size (arrV cA N (mnO s.heap.size (i + 1)))).heap = (u.heap.push (arrV comp M (fun _ => .int 0))).setIfInBounds s.heap.size (arrV cA N (mnO s.heap.size (i + 1))) := rfl
    rw [hh]
    refine ⟨by simp [h1]; omega, h2, ?_, ?_, fun q hq => ?_, fun j hj => ?_⟩
    · show u.slotsUsed + (arrV comp M (fun _ => .int 0)).slots.size = _
      rw [h3, arrV_size, Nat.succ_mul]
      omega
    · rw [Array.getElem?_setIfInBounds, if_pos rfl, if_pos (by rw [Array.size_push, h1]; omega)]
    · rw [Array.getElem?_setIfInBounds, if_neg (by omega), Array.getElem?_push, if_neg (by omega)]
      exact h5 q hq
    · rw [Array.getElem?_setIfInBounds, if_neg (by omega), Array.getElem?_push]
      by_cases e2 : j = i
      · rw [if_pos (by omega)]
      · rw [if_neg (by omega)]
        exact h6 j (by omega)
theorem mnS_top (s : State) (f : JFrame) (cA comp : ClassId) (N M : Nat) : ∀ i, mnS (s.setTop f) cA comp N M i = (mnS s cA comp N M i).setTop f
  | 0 => rfl
  | i + 1 => by
    show ((mnS (s.setTop f) cA comp N M i).pushCell _).setCell _ _ = _
    rw [mnS_top s f cA comp N M i]
    rfl
section MNW
variable {E : CtlPost} {e : Env} {d : Bool} {acts : List Action} {s : State}
theorem mn_one {comp cc : ClassId} {kC : Class} {M : Nat} (hkC : s.vm.classes[comp]? = some kC) (hC : kC.kind = .array cc .int) (hM : M < 1000) (hlim : ¬ 1000 > e.platform.arrayLengthLimit) (hhb : ¬ 8000 > e.platform.maxHeapBytes) (h1 : s.heap.size < e.platform.maxCells) (h2 : s.slotsUsed + M ≤ e.platform.maxSlots)
    {Q : Addr → Pre} (hq : ∀ acts', Q s.heap.size d acts' (s.pushCell (arrV comp M (fun _ => .int 0)))) : wp (multianewarray.make comp [nI M]) Q E e d acts s := by
  have pM : ¬ nI M < 0 := nI_pos (by omega)
  have cM : (nI M).toNatClampNeg = M := nI_clamp (by omega)
  rw [multianewarray.make]
  simp only [wp_bind', Jvm.W.ite, pM, if_false, wp_pure', Jvm.W.theClass, hkC, hC, Option.some.injEq, exists_eq_left', cM]
  refine Jvm.W.newArray_of hkC hC (by omega) (by show ¬ M * 4 > _; omega) h1 h2 rfl (fun acts' => ?_)
  have e9 := hq acts'
  rw [← arrV_new] at e9
  exact e9
theorem mn_make {cA comp cc : ClassId} {kA kC : Class} {N M : Nat} (hkA : s.vm.classes[cA]? = some kA) (hA : kA.kind = .array comp (.array .int)) (hkC : s.vm.classes[comp]? = some kC) (hC : kC.kind = .array cc .int) (hN : N < 1000) (hM : M < 1000) (hlim : ¬ 1000 > e.platform.arrayLengthLimit) (hhb : ¬ 8000 > e.platform.maxHeapBytes) (h1 : s.heap.size + 1 + N ≤ e.platform.maxCells) (h2 : s.slotsUsed + N + N * M ≤ e.platform.maxSlots)
    {Q : Addr → Pre} (hq : ∀ d' acts', Q s.heap.size d' acts' (mnS s cA comp N M N)) : wp (multianewarray.make cA [nI N, nI M]) Q E e d acts s := by
  have pN : ¬ nI N < 0 := nI_pos (by omega)
  have cN : (nI N).toNatClampNeg = N := nI_clamp (by omega)
  have pM : ¬ nI M < 0 := nI_pos (by omega)
  have fnd : ([nI M].find? (· < 0)) = none := by simp [pM]
  rw [multianewarray.make]
  simp only [wp_bind', Jvm.W.ite, pN, if_false, wp_pure', Jvm.W.theClass, hkA, hA, Option.some.injEq, exists_eq_left', cN]
  have hNM := Nat.zero_le (N * M)
  refine Jvm.W.newArray_of hkA hA (by omega) (by show ¬ N * 4 > _; omega) (by omega) (by omega) rfl (fun acts' => ?_)
  simp only [fnd]
  rw [ite_self, wp_bind', Std.Legacy.Range.forIn_eq_forIn_range']
  have hsz : ([:N] : Std.Legacy.Range).size = N := by simp [Std.Legacy.Range.size]
  rw [hsz]
  show wp (forIn (List.range' 0 N 1) PUnit.unit _) _ E e d acts' _
  refine wp_forIn_inv (fun rest u => ∃ i, i ≤ N ∧ rest = List.range' i (N - i) ∧ u = mnS s cA comp N M i) _ _ ⟨0, Nat.zero_le _, rfl, ?_⟩ ?_ ?_
  · show s.pushCell _ = s.pushCell _
    rw [show ({ cls := cA, slots := Array.replicate N .null } : Cell) = arrV cA N (fun _ => .null) from arrV_new cA N .null]
    congr 1
  · rintro x rest u d' a' Q' ⟨i, hi, hl, rfl⟩ hnext
    rcases Nat.lt_or_ge i N with hlt | hge
    · rw [show N - i = (N - (i + 1)) + 1 by omega, List.range'_succ] at hl
      obtain ⟨hx, hr⟩ := List.cons.inj hl
      subst hx
      obtain ⟨f1, f2, f3, f4, f5, f6⟩ := mnS_at s cA comp N M x
      have hmul : x * M + M ≤ N * M := by
        have := Nat.mul_le_mul_right M (show x + 1 ≤ N from hlt)
        rw [Nat.succ_mul] at this
        exact this
      simp only [wp_bind']
      refine mn_one (by rw [f2]; exact hkC) hC hM hlim hhb (by rw [f1]; omega) (by rw [f3]; omega) (fun acts9 => ?_)
      simp only [wp_bind', Jvm.W.writeLoc, wp_pure']
      have hlt0 : s.heap.size < (mnS s cA comp N M x).heap.size := by rw [f1]; omega
      have hold : ((mnS s cA comp N M x).pushCell (arrV comp M (fun _ => .int 0))).heap[s.heap.size]? = some (arrV cA N (mnO s.heap.size x)) := by
        rw [State.heap_pushCell_of_lt (h := hlt0)]
        exact f4
      refine ⟨_, hold, (fun h => by cases h), by rw [arrV_size]; exact hlt, ?_, hnext _ _ _ ⟨x + 1, hlt, hr, ?_⟩⟩
      · show State.fitsSlot _ cA .none x (.ref (mnS s cA comp N M x).heap.size) = true
        simp [State.fitsSlot, State.slotType?, f2, hkA, hA]
        rfl
      · rw [f1, arrV_store, mnO_up]
        rfl
    · rw [show N - i = 0 by omega] at hl
      cases hl
  · rintro u d' a' ⟨i, hi, hl, rfl⟩
    rcases Nat.lt_or_ge i N with hlt | hge
    · rw [show N - i = (N - (i + 1)) + 1 by omega, List.range'_succ] at hl
      cases hl
    · obtain rfl : i = N := by omega
      simp only [wp_pure']
      exact hq _ _
end MNW
section MNZ
variable {l : Launch} {Ω : OmT} {E : ZE} {cells slots pc n : Nat} {lv : List (Nat × Value)} {st : List Value} {A : AHp} {cc : ByteArray} {own : String} {ret : Option FieldType} {rm : Room} {nm : String}
theorem mn_stand {p : Program} {e : Env} {R : Room} {s : State} {m : MethodId} {args : Array Value} {below : List Frame} {meth : Method} {c : Code} {T : State} {locs : List Loc} (X : Stand p l e R s m args below meth c T locs cells slots) (cA comp : ClassId) (N M : Nat) : ∀ i, ∃ L : List Loc, (∀ x ∈ L, x.base = T.heap.size) ∧ Stand p l e R s m args below meth c (mnS T cA comp N M i) (locs ++ L) (cells + 1 + i) (slots + N + i * M)
  | 0 => by
    have h := X.pushed (arrV cA N (mnO T.heap.size 0))
    rw [arrV_size] at h
    refine ⟨[], (fun x hx => by cases hx), ?_⟩
    rw [List.append_nil, Nat.zero_mul]
    exact h
  | i + 1 => by
    obtain ⟨L, hL, Y⟩ := mn_stand X cA comp N M i
    obtain ⟨f1, f2, f3, f4, f5, f6⟩ := mnS_at T cA comp N M i
    have hlt0 : T.heap.size < (mnS T cA comp N M i).heap.size := by rw [f1]; omega
    have hold : ((mnS T cA comp N M i).pushCell (arrV comp M (fun _ => .int 0))).heap[T.heap.size]? = some (arrV cA N (mnO T.heap.size i)) := by
      rw [State.heap_pushCell_of_lt (h := hlt0)]
      exact f4
    have h := (Y.pushed (arrV comp M (fun _ => .int 0))).stored hold i (.ref (T.heap.size + 1 + i))
    rw [arrV_store, mnO_up, arrV_size, List.append_assoc] at h
    refine ⟨L ++ [⟨T.heap.size, i⟩], fun x hx => ?_, ?_⟩
    · rcases List.mem_append.mp hx with h | h
      · exact hL x h
      · rw [List.mem_singleton.mp h]
    · rw [show slots + N + (i + 1) * M = slots + N + i * M + M by rw [Nat.succ_mul]; omega]
      exact h
/-- what stands there then: the outer row at n, the inner ones behind it -/
def mnA (Ω : OmT) (A : AHp) (n N M : Nat) : AHp := fun x => if x = n then some (.inr (4, N, fun j => rfO Ω (n + 1 + j))) else if n < x ∧ x ≤ n + N then some (arI M (fun _ => 0)) else A x
theorem z_mnew (C : ZC Ω E cc own ret rm nm) {idx N M : Nat} (hd : decode cc pc = .ok (.multianewarray idx 2, 4)) (hw1 : Cond.classLink own idx "[[I" ∈ zTbl) (hw2 : Cond.arrayClass .int ∈ zTbl) (hN : N < 1000) (hM : M < 1000) (hc : cells + (1 + N) ≤ rm.cells) (hs : slots + (N + N * M) ≤ rm.slots) (kk : ZV l Ω E (cells + (1 + N)) (slots + (N + N * M)) (pc + 4) lv (.ref (Ω.2.2.1 + n) :: st) (mnA Ω A n N M) (n + (1 + N))) : ZV l Ω E cells slots pc lv (.int (nI M) :: .int (nI N) :: st) A n := by
  intro H locs ls hR hL hl T hT X
  obtain ⟨hexec, hbytes, -, hown, hts, -, -, -, hrm, hZ⟩ := C
  have hpl : E.1.2.1.platform.magicAccessors = ({} : Platform).magicAccessors := by rw [X.admits.platform]
  have hover : (Cond.arrayOver (.array .int)).before E.2.1.2.1 E.1.2.2.2 = true := hZ.2.2.2.2.2.2.2.2.1
  obtain ⟨comp, cA, kA, hcomp, -, hkA, hkindA, hnameA⟩ := arrayOverA_spec hover
  obtain ⟨comp', kC, cc', hcomp', hkC, hkindC⟩ := Cond.arrayClass_spec (hts _ hw2)
  cases hcomp'.symm.trans hcomp
  obtain ⟨c0, hfc0, hcl⟩ := Cond.classLink_spec hown (hts _ hw1) E.1.2.1.platform hpl
  cases hnameA.symm.trans hfc0
  have h0 : comp = Ω.2.1 0 := Option.some.inj (hcomp.symm.trans (hZ.1.2 0 _ rfl).2)
  have h4 : cA = Ω.2.1 4 := Option.some.inj (hnameA.symm.trans (hZ.1.2 4 _ rfl).2)
  subst h0
  subst h4
  obtain ⟨hg1, hwarm, hready⟩ := State.classEntry (e := E.1.2.1) X.warmed hcl
  generalize T.vm.noted E.2.1.1.cls idx (.cls (Ω.2.1 4)) = vm1 at hg1 hwarm hready
  obtain ⟨kA1, hkA1, heA⟩ := hwarm.alike.2.2 _ _ hkA
  obtain ⟨kC1, hkC1, heC⟩ := hwarm.alike.2.2 _ _ hkC
  have X1 := X.noted hwarm
  obtain ⟨L, hLb, Y⟩ := mn_stand X1 (Ω.2.1 4) (Ω.2.1 0) N M N
  obtain ⟨f1, f2, f3, f4, f5, f6⟩ := mnS_at (T.setVm vm1) (Ω.2.1 4) (Ω.2.1 0) N M N
  have eh : (T.setVm vm1).heap = H := hT
  rw [eh] at f1 f4 f5 f6
  have hsz : H.size = Ω.2.2.1 + n := hR.1
  have hRn : ZR Ω (mnA Ω A n N M) (n + (1 + N)) (mnS (T.setVm vm1) (Ω.2.1 4) (Ω.2.1 0) N M N).heap := by
    refine ⟨by rw [f1, hsz]; omega, fun q hq => (f5 q (by omega)).trans (hR.2.1 q hq), fun a c ha => ?_⟩
    unfold mnA at ha
    split at ha
    · next e =>
      cases ha
      subst e
      rw [hsz] at f4
      show _ = some _
      rw [f4]
      unfold arrV
      congr 3
      funext j
      show mnO (Ω.2.2.1 + a) N j.val = Value.ref (Ω.2.2.1 + (a + 1 + j.val))
      unfold mnO
      rw [if_pos j.isLt, show Ω.2.2.1 + a + 1 + j.val = Ω.2.2.1 + (a + 1 + j.val) by omega]
    · next e =>
      split at ha
      · next e2 =>
        cases ha
        have := f6 (a - (n + 1)) (by omega)
        rw [show H.size + 1 + (a - (n + 1)) = Ω.2.2.1 + a by omega] at this
        exact this
      · next e2 =>
        have h9 := hR.2.2 a c ha
        exact h9.kept (f5 _ h9.lt)
  obtain ⟨t, a1, b1⟩ := kk _ (locs ++ L) ls hRn (fun x hx => by
    rcases List.mem_append.mp hx with h | h
    · exact hL x h
    · rw [hLb x h, eh, hsz]; exact Nat.le_add_right _ _) hl _ rfl (by
      have h9 := Y
      rw [show cells + 1 + N = cells + (1 + N) by omega, show slots + N + N * M = slots + (N + N * M) by omega] at h9
      exact h9)
  refine ⟨t, ?_, b1⟩
  rw [← hrm] at hc hs
  obtain ⟨r1, r2⟩ := X.roomAbove hc hs
  have hlim : ¬ 1000 > E.1.2.1.platform.arrayLengthLimit := by rw [Launch.admits_arrayLengthLimit X.admits]; omega
  have hhb : ¬ 8000 > E.1.2.1.platform.maxHeapBytes := by rw [Launch.admits_maxHeapBytes X.admits]; omega
  have hd' : decode E.2.1.2.2.2.2.code pc = .ok (.multianewarray idx 2, 4) := by rw [hbytes]; exact hd
  jvm_step X.here [hexec, hd']
  simp only [multianewarray.sem, wp_bind', Jvm.W.resolveClassAt_links (State.method?_setTop (F0 E.2.1.1 pc ls (.int (nI M) :: .int (nI N) :: st)) X.here.top) hg1]
  rw [Jvm.W.popN, if_neg (by decide)]
  refine ⟨F0 E.2.1.1 pc ls (.int (nI M) :: .int (nI N) :: st), State.topJava?_setTop' (s := T.setVm vm1) _ X.here.top, [.int (nI N), .int (nI M)], st, rfl, rfl, ?_⟩
  simp only [List.mapM_cons, List.mapM_nil, wp_bind', wp_pure']
  refine mn_make (kA := kA1) (kC := kC1) (cc := cc') hkA1 (by rw [heA]; exact hkindA) hkC1 (by rw [heC]; exact hkindC) hN hM hlim hhb (by show T.heap.size + 1 + N ≤ _; omega) (by show T.slotsUsed + N + N * M ≤ _; omega) (fun d' acts' => ?_)
  have eS : ((T.setTop (F0 E.2.1.1 pc ls (.int (nI M) :: .int (nI N) :: st))).setVm vm1).setTop { (F0 E.2.1.1 pc ls (.int (nI M) :: .int (nI N) :: st)) with stack := st } = (T.setVm vm1).setTop { (F0 E.2.1.1 pc ls (.int (nI M) :: .int (nI N) :: st)) with stack := st } := by
    show ((T.setVm vm1).setTop _).setTop _ = _
    rw [State.setTop_setTop]
  rw [eS, mnS_top]
  simp only [wp_bind', Jvm.W.mark, Jvm.W.pushRef, State.topJava?_setTop' _ Y.here.top, Option.some.injEq, exists_eq_left', State.setTop_setTop, State.heap_setTop]
  intro acts
  simp [jvm, Y.here.top]
  have e9 : (T.setVm vm1).heap.size = Ω.2.2.1 + n := by rw [eh, hsz]
  first
    | exact a1
    | (rw [e9]; exact a1)
    | (rw [← hsz, ← hT] at a1; exact a1)
end MNZ
