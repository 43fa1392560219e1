/-! ===== my own: cells as a function of the address, judgements over it ===== -/
abbrev Cel : Type := (Nat × List Value) ⊕ (Nat × Nat × (Nat → Value))
abbrev AHp : Type := Nat → Option Cel
def aup (A : AHp) (a : Nat) (c : Cel) : AHp := fun x => if x = a then some c else A x
theorem aup_self (A : AHp) (a : Nat) (c : Cel) : aup A a c a = some c := if_pos rfl
theorem aup_ne {A : AHp} {a x : Nat} {c : Cel} (h : x ≠ a) : aup A a c x = A x := if_neg h
def tyA (t : Nat) : FieldType := match t with
  | 0 => .int
  | 1 => .long
  | 2 => .boolean
  | 3 => .object "GrindWorks$Unit"
  | _ => .array .int
/-- slots, array kinds, first address, the heap before the law, the addresses of the tables -/
abbrev OmT : Type := va_G × (Nat → ClassId) × Nat × Heap × (Nat → Nat)
abbrev zc (ci : Nat) : vw_C := vwCl.getD ci (RX0, TX0, 8)
def celAt (Ω : OmT) (q : Nat) (c : Cel) (H : Heap) : Prop := match c with
  | .inl o => ∃ r : vw_C, vwCl[o.1]? = some r ∧ t_OB q (Ω.1.1 o.1) r.2.2 (Ω.1.2 o.1) H (vp_V o.2)
  | .inr a => H[q]? = some (arrV (Ω.2.1 a.1) a.2.1 a.2.2)
def ZR (Ω : OmT) (A : AHp) (n : Nat) (H : Heap) : Prop :=
  H.size = Ω.2.2.1 + n ∧ (∀ q, q < Ω.2.2.1 → H[q]? = Ω.2.2.2.1[q]?) ∧ ∀ a c, A a = some c → celAt Ω (Ω.2.2.1 + a) c H
theorem celAt.lt {Ω : OmT} {q : Nat} {c : Cel} {H : Heap} (h : celAt Ω q c H) : q < H.size := by
  cases c with
  | inl o =>
    obtain ⟨r, -, cell, h2, -⟩ := h
    exact (Array.getElem?_eq_some_iff.mp h2).1
  | inr a => exact (Array.getElem?_eq_some_iff.mp h).1
theorem celAt.kept {Ω : OmT} {q : Nat} {c : Cel} {H H1 : Heap} (h : celAt Ω q c H) (e : H1[q]? = H[q]?) : celAt Ω q c H1 := by
  cases c with
  | inl o =>
    obtain ⟨r, h1, h2⟩ := h
    exact ⟨r, h1, h2.kept e⟩
  | inr a => exact e.trans h
/-- one cell is written -/
theorem ZR.put {Ω : OmT} {A : AHp} {n a : Nat} {c : Cel} {H H1 : Heap} (h : ZR Ω A n H) (hz : H1.size = H.size) (hc : celAt Ω (Ω.2.2.1 + a) c H1) (ho : ∀ q, q ≠ Ω.2.2.1 + a → H1[q]? = H[q]?) : ZR Ω (aup A a c) n H1 := by
  refine ⟨by rw [hz]; exact h.1, fun q hq => (ho q (by omega)).trans (h.2.1 q hq), fun x d hd => ?_⟩
  by_cases e : x = a
  · subst e
    rw [aup_self] at hd
    cases hd
    exact hc
  · rw [aup_ne e] at hd
    exact (h.2.2 x d hd).kept (ho _ (by omega))
/-- one cell comes -/
theorem ZR.push {Ω : OmT} {A : AHp} {n : Nat} {c : Cel} {H H1 : Heap} (h : ZR Ω A n H) (hz : H1.size = H.size + 1) (hc : celAt Ω H.size c H1) (ho : ∀ q, q < H.size → H1[q]? = H[q]?) : ZR Ω (aup A n c) (n + 1) H1 := by
  have hs := h.1
  refine ⟨by rw [hz, hs]; omega, fun q hq => (ho q (by omega)).trans (h.2.1 q hq), fun x d hd => ?_⟩
  by_cases e : x = n
  · subst e
    rw [aup_self] at hd
    cases hd
    rw [← hs]
    exact hc
  · rw [aup_ne e] at hd
    exact (h.2.2 x d hd).kept (ho _ (h.2.2 x d hd).lt)

def zMn : List (String × Nat × MethodName) := [("GrindWorks", 19, ⟨"GrindWorks$Loads", "<init>", "()V"⟩), ("GrindWorks$Mill", 19, ⟨"GrindWorks", "isSize", "(I)Z"⟩), ("GrindWorks$Feed", 48, ⟨"GrindWorks", "totalOfStuff", "([II)I"⟩), ("GrindWorks$Join", 25, ⟨"GrindWorks", "move", "([I[I)V"⟩), ("GrindWorks$Pile", 36, ⟨"GrindWorks", "total", "([I)I"⟩), ("GrindWorks$Pile", 47, ⟨"GrindWorks", "move", "([I[I)V"⟩), ("GrindWorks$Tank", 33, ⟨"GrindWorks", "move", "([I[I)V"⟩), ("GrindWorks$End", 20, ⟨"GrindWorks", "add", "([I[I)V"⟩), ("GrindWorks$Unit", 57, ⟨"GrindWorks", "add", "([I[I)V"⟩), ("GrindWorks$Tank", 50, ⟨"GrindWorks", "totalOfRows", "([[I)I"⟩), ("GrindWorks$Pile", 51, ⟨"GrindWorks", "totalOfRows", "([[I)I"⟩), ("GrindWorks$Unit", 71, ⟨"GrindWorks", "total", "([I)I"⟩), ("GrindWorks$Pile", 55, ⟨"GrindWorks", "totalOfStuffInRows", "([[II)I"⟩), ("GrindWorks$Tank", 54, ⟨"GrindWorks", "totalOfStuffInRows", "([[II)I"⟩), ("GrindWorks$End", 24, ⟨"GrindWorks", "isCell", "(I)Z"⟩), ("GrindWorks$Readings", 29, ⟨"GrindWorks", "total", "([I)I"⟩)]
def zFn : List (String × Nat × String × String × String) := [("GrindWorks", 176, "GrindWorks$Loads", "count", "I"), ("GrindWorks$Unit", 22, "GrindWorks", "PORTS_OF_KIND", "[I"), ("GrindWorks$Unit", 39, "GrindWorks", "NUMBERS_OF_KIND", "[I"), ("GrindWorks$Unit", 45, "GrindWorks", "FIRST_NUMBER_OF_KIND", "[I"), ("GrindWorks$Unit", 61, "GrindWorks", "LEAST_NUMBER_OF_KIND", "[I"), ("GrindWorks$Unit", 64, "GrindWorks", "GREATEST_NUMBER_OF_KIND", "[I")]
def zCa : List (String × String) := [("GrindWorks$Feed", "GrindWorks$Unit"), ("GrindWorks$Join", "GrindWorks$Unit"), ("GrindWorks$Mill", "GrindWorks$Unit"), ("GrindWorks$Parter", "GrindWorks$Unit"), ("GrindWorks$Tank", "GrindWorks$Unit"), ("GrindWorks$Pile", "GrindWorks$Unit"), ("GrindWorks$End", "GrindWorks$Unit")]
def zNc : List (String × String) := [("GrindWorks", "GrindWorks$Mill"), ("GrindWorks$Loads", "GrindWorks$Mill"), ("GrindWorksModel", "GrindWorks$Mill"), ("GrindWorks$Feed", "GrindWorks$Mill"), ("GrindWorks$Readings", "GrindWorks$Mill"), ("GrindWorks$Join", "GrindWorks$Mill"), ("GrindWorks$Parter", "GrindWorks$Mill"), ("GrindWorks$Tank", "GrindWorks$Mill"), ("GrindWorks$Pile", "GrindWorks$Mill"), ("GrindWorks$End", "GrindWorks$Mill"), ("GrindWorks", "GrindWorks$Feed"), ("GrindWorks$Loads", "GrindWorks$Feed"), ("GrindWorksModel", "GrindWorks$Feed"), ("GrindWorks$Readings", "GrindWorks$Feed"), ("GrindWorks$Join", "GrindWorks$Feed"), ("GrindWorks$Mill", "GrindWorks$Feed"), ("GrindWorks$Parter", "GrindWorks$Feed"), ("GrindWorks$Tank", "GrindWorks$Feed"), ("GrindWorks$Pile", "GrindWorks$Feed"), ("GrindWorks$End", "GrindWorks$Feed"), ("GrindWorks", "GrindWorks$End"), ("GrindWorks$Loads", "GrindWorks$End"), ("GrindWorksModel", "GrindWorks$End"), ("GrindWorks$Feed", "GrindWorks$End"), ("GrindWorks$Readings", "GrindWorks$End"), ("GrindWorks$Join", "GrindWorks$End"), ("GrindWorks$Mill", "GrindWorks$End"), ("GrindWorks$Parter", "GrindWorks$End"), ("GrindWorks$Tank", "GrindWorks$End"), ("GrindWorks$Pile", "GrindWorks$End"), ("[LGrindWorks$Unit;", "GrindWorks$Mill"), ("[I", "GrindWorks$Mill"), ("[[I", "GrindWorks$Mill"), ("[Z", "GrindWorks$Mill"), ("[J", "GrindWorks$Mill"), ("[LGrindWorks$Unit;", "GrindWorks$Feed"), ("[I", "GrindWorks$Feed"), ("[[I", "GrindWorks$Feed"), ("[Z", "GrindWorks$Feed"), ("[J", "GrindWorks$Feed"), ("[LGrindWorks$Unit;", "GrindWorks$End"), ("[I", "GrindWorks$End"), ("[[I", "GrindWorks$End"), ("[Z", "GrindWorks$End"), ("[J", "GrindWorks$End")]
def zSn (k : Nat) : String := match k with
  | 0 => "PORTS_OF_KIND"
  | 1 => "NUMBERS_OF_KIND"
  | 2 => "FIRST_NUMBER_OF_KIND"
  | 3 => "LEAST_NUMBER_OF_KIND"
  | _ => "GREATEST_NUMBER_OF_KIND"
def zSv (k j : Nat) : Nat := (([[1, 1, 1, 2, 2, 1, 1, 0], [8, 0, 16, 4, 2, 1, 1, 0], [0, 0, 0, 5, 5, 1, 100, 0], [0, 0, 0, 0, 0, 1, 0, 0], [1000, 0, 10, 10, 10, 6, 5000, 0]] : List (List Nat)).getD k []).getD j 0
abbrev zTy (Ω : OmT) : List (ClassId × FieldType) := [(Ω.2.1 0, .int), (Ω.2.1 1, .long), (Ω.2.1 2, .boolean), (Ω.2.1 3, .object "GrindWorks$Unit"), (Ω.2.1 4, .array .int)]
/-- what is known of the tables all along -/
def ZK (Ω : OmT) (U : State) : Prop :=
  va_K Ω.1 vwCl (zTy Ω) U ∧ (∀ q ∈ zMn, va_Nw (.methodLinkNest q.1 q.2.1 q.2.2 "GrindWorks") U) ∧ (∀ q ∈ zFn, va_Nw (.fieldLinkNest q.1 q.2.1 q.2.2.1 q.2.2.2.1 q.2.2.2.2 "GrindWorks") U) ∧ (∀ q ∈ zCa, va_Nw (.castable q.1 q.2) U) ∧ (∀ q ∈ zNc, va_Nc q.1 q.2 U) ∧ va_Nw (.declares ⟨"GrindWorks$Unit", "give", "()V"⟩) U ∧
  (∀ k, k < 5 → va_Z "GrindWorks" (zSn k) "[I" (.ref (Ω.2.2.2.2 k)) (fun q => Ω.2.2.1 ≤ q) U Ω.2.2.2.1 ∧ va_T .int (Ω.2.2.2.2 k) 8 (fun j => .int (nI (zSv k j))) (fun q => Ω.2.2.1 ≤ q) U Ω.2.2.2.1) ∧
  va_AO "GrindWorks$Unit" U ∧ va_Nw (.arrayOver (.array .int)) U ∧ Ω.2.2.2.1.size = Ω.2.2.1
theorem zArr_moved {u U : State} (hvm : u.vm.Alike U.vm) (h : va_Nw (.arrayOver (.array .int)) u) : va_Nw (.arrayOver (.array .int)) U := by
  have h1 : (Cond.arrayOver (.array .int)).before #[] (u.setVm U.vm) = true := by rw [Cond.arrayOver_setVmC hvm]; exact h
  exact h1
theorem ZK.warm {Ω : OmT} {s U : State} (hW : s.WarmedH U.vm) (h : ZK Ω s) : ZK Ω U := by
  obtain ⟨h1, h2, h3, h4, h5, h6, h7, h8, h9, h10⟩ := h
  exact ⟨va_K.moved hW.alike h1, fun q hq => va_Nw.warmM hW (h2 q hq), fun q hq => va_Nw.warmF hW (h3 q hq), fun q hq => va_Nw.warmC hW (h4 q hq), fun q hq => (h5 q hq).moved hW.alike, va_Nw.warmD hW h6,
    fun k hk => ⟨(h7 k hk).1.moved hW.alike, (h7 k hk).2.moved hW.alike⟩, h8.moved hW.alike, zArr_moved hW.alike h9, h10⟩
theorem ZK.same {Ω : OmT} {u U : State} (e : u.vm = U.vm) (h : ZK Ω u) : ZK Ω U := by
  obtain ⟨h1, h2, h3, h4, h5, h6, h7, h8, h9, h10⟩ := h
  have hvm : u.vm.Alike U.vm := by rw [e]; exact Vm.Alike.refl _
  exact ⟨va_K.moved hvm h1, fun q hq => (h2 q hq).same rfl e, fun q hq => (h3 q hq).same rfl e, fun q hq => (h4 q hq).same rfl e, fun q hq => (h5 q hq).moved hvm, h6.same rfl e,
    fun k hk => ⟨(h7 k hk).1.moved hvm, (h7 k hk).2.moved hvm⟩, h8.moved hvm, zArr_moved hvm h9, h10⟩
/-- a walk's fixed things -/
abbrev ZE : Type := (Program × Env × Room × State) × (MethodId × Array Value × List Frame × Method × Code) × Nat × (State → Prop)
abbrev ZW (l : Launch) (E : ZE) (H : Heap) (locs : List Loc) (cells slots : Nat) (g : JFrame) : Prop := W E.1.1 l E.1.2.1 E.1.2.2.1 E.1.2.2.2 E.2.1.1 E.2.1.2.1 E.2.1.2.2.1 E.2.1.2.2.2.1 E.2.1.2.2.2.2 H locs cells slots E.2.2.2 g
def ZV (l : Launch) (Ω : OmT) (E : ZE) (cells slots pc : Nat) (lv : List (Nat × Value)) (st : List Value) (A : AHp) (n : Nat) : Prop :=
  ∀ (H : Heap) (locs : List Loc) (ls : Array Slot), ZR Ω A n H → (∀ x ∈ locs, Ω.2.2.1 ≤ x.base) → lv_has ls E.2.2.1 lv → ZW l E H locs cells slots (F0 E.2.1.1 pc ls st)
def ZC (Ω : OmT) (E : ZE) (cc : ByteArray) (own : String) (ret : Option FieldType) (rm : Room) (nm : String) : Prop :=
  E.1.1.tables.exec = Jvm.exec ∧ E.2.1.2.2.2.2.code = cc ∧ E.2.1.2.2.2.2.maxLocals = E.2.2.1 ∧ E.1.2.2.2.vm.findClass own = some E.2.1.1.cls ∧ (∀ w ∈ zTbl, w.before E.2.1.2.1 E.1.2.2.2 = true) ∧ E.2.1.2.2.2.1.sig.returnType = ret ∧ E.2.1.2.2.2.1.locks = false ∧ E.2.1.2.2.2.1.name = nm ∧ E.1.2.2.1 = rm ∧ ZK Ω E.1.2.2.2
def ZQc (Ω : OmT) (r : Option Value) (A' : AHp) (n' : Nat) : Array Value → State → Outcome → State → Prop := fun _ _ oc t => oc = .returned r ∧ ZR Ω A' n' t.heap
def ZQ (Ω : OmT) (E : ZE) (r : Option Value) (A' : AHp) (n' : Nat) (mc ms : Nat) : Prop :=
  E.2.2.2 = MQ E.2.1.2.2.1 (ZQc Ω r A' n') E.2.1.2.1 E.1.2.2.2 mc ms (fun q => Ω.2.2.1 ≤ q)
/-- a method's contract: from these arguments and this heap it returns r, and the heap is that -/
def ZM (l : Launch) (Ω : OmT) (y : MethodName) (cc : ByteArray) (nL : Nat) (ret : Option FieldType) (rm : Room) (av : List Value) (A : AHp) (n : Nat) (r : Option Value) (A' : AHp) (n' : Nat) : Prop :=
  Met l y (.code y cc nL ret :: zTbl) rm (va_Pc av (fun U => ZR Ω A n U.heap ∧ ZK Ω U)) (ZQc Ω r A' n') rm.cells rm.slots (fun q => Ω.2.2.1 ≤ q)
/-! the locals -/
def lvGet : List (Nat × Value) → Nat → Option Value
  | [], _ => none
  | q :: r, k => if q.1 = k then some q.2 else lvGet r k
theorem lvGet_mem : ∀ {l : List (Nat × Value)} {k : Nat} {v : Value}, lvGet l k = some v → (k, v) ∈ l
  | [], _, _, h => by cases h
  | q :: r, k, v, h => by
    unfold lvGet at h
    split at h
    next e =>
      cases h
      rw [← e]
      exact List.mem_cons_self
    next => exact List.mem_cons_of_mem _ (lvGet_mem h)
theorem lvGet_at {ls : Array Slot} {nL : Nat} {l : List (Nat × Value)} (h : lv_has ls nL l) {k : Nat} {v : Value} (hk : lvGet l k = some v) : ls[k]? = some (.val v) := h.2.2 (k, v) (lvGet_mem hk)
/-- a value of one slot comes to i: what stands at i goes, and a long that began before i -/
def lvPut1 : List (Nat × Value) → Nat → Value → List (Nat × Value)
  | [], i, v => [(i, v)]
  | q :: r, i, v => if q.1 = i then (i, v) :: r.filter (fun q => !(q.1 == i) && !(q.1 + 1 == i && q.2.category == 2)) else if q.1 + 1 = i ∧ q.2.category = 2 then lvPut1 r i v else q :: lvPut1 r i v
def lvPut2 : List (Nat × Value) → Nat → Value → List (Nat × Value)
  | [], i, v => [(i, v)]
  | q :: r, i, v => if q.1 = i then (i, v) :: r.filter (fun q => !(q.1 == i) && (!(q.1 == i + 1) && !(q.1 + 1 == i && q.2.category == 2))) else if q.1 = i + 1 ∨ (q.1 + 1 = i ∧ q.2.category = 2) then lvPut2 r i v else q :: lvPut2 r i v
theorem lvPut1_sub (i : Nat) (v : Value) : ∀ (l : List (Nat × Value)) (q : Nat × Value), q ∈ lvPut1 l i v → q ∈ (i, v) :: l.filter (fun q => !(q.1 == i) && !(q.1 + 1 == i && q.2.category == 2))
  | [], q, h => by simpa [lvPut1] using h
  | a :: r, q, h => by
    unfold lvPut1 at h
    split at h
    next e =>
      rcases List.mem_cons.mp h with h | h
      · rw [h]; exact List.mem_cons_self
      · obtain ⟨h1, h2⟩ := List.mem_filter.mp h
        exact List.mem_cons_of_mem _ (List.mem_filter.mpr ⟨List.mem_cons_of_mem _ h1, h2⟩)
    next e =>
      split at h
      next e2 =>
        rcases List.mem_cons.mp (lvPut1_sub i v r q h) with h | h
        · rw [h]; exact List.mem_cons_self
        · obtain ⟨h1, h2⟩ := List.mem_filter.mp h
          exact List.mem_cons_of_mem _ (List.mem_filter.mpr ⟨List.mem_cons_of_mem _ h1, h2⟩)
      next e2 =>
        rcases List.mem_cons.mp h with h | h
        · subst h
          refine List.mem_cons_of_mem _ (List.mem_filter.mpr ⟨List.mem_cons_self, ?_⟩)
          simp only [Bool.and_eq_true, Bool.not_eq_true', beq_eq_false_iff_ne, ne_eq, Bool.and_eq_false_iff]
          refine ⟨e, ?_⟩
          by_cases e3 : q.1 + 1 = i
          · exact Or.inr (fun z => e2 ⟨e3, z⟩)
          · exact Or.inl e3
        · rcases List.mem_cons.mp (lvPut1_sub i v r q h) with h | h
          · rw [h]; exact List.mem_cons_self
          · obtain ⟨h1, h2⟩ := List.mem_filter.mp h
            exact List.mem_cons_of_mem _ (List.mem_filter.mpr ⟨List.mem_cons_of_mem _ h1, h2⟩)
theorem lvPut2_sub (i : Nat) (v : Value) : ∀ (l : List (Nat × Value)) (q : Nat × Value), q ∈ lvPut2 l i v → q ∈ (i, v) :: l.filter (fun q => !(q.1 == i) && (!(q.1 == i + 1) && !(q.1 + 1 == i && q.2.category == 2)))
  | [], q, h => by simpa [lvPut2] using h
  | a :: r, q, h => by
    unfold lvPut2 at h
    split at h
    next e =>
      rcases List.mem_cons.mp h with h | h
      · rw [h]; exact List.mem_cons_self
      · obtain ⟨h1, h2⟩ := List.mem_filter.mp h
        exact List.mem_cons_of_mem _ (List.mem_filter.mpr ⟨List.mem_cons_of_mem _ h1, h2⟩)
    next e =>
      split at h
      next e2 =>
        rcases List.mem_cons.mp (lvPut2_sub i v r q h) with h | h
        · rw [h]; exact List.mem_cons_self
        · obtain ⟨h1, h2⟩ := List.mem_filter.mp h
          exact List.mem_cons_of_mem _ (List.mem_filter.mpr ⟨List.mem_cons_of_mem _ h1, h2⟩)
      next e2 =>
        rcases List.mem_cons.mp h with h | h
        · subst h
          refine List.mem_cons_of_mem _ (List.mem_filter.mpr ⟨List.mem_cons_self, ?_⟩)
          simp only [Bool.and_eq_true, Bool.not_eq_true', beq_eq_false_iff_ne, ne_eq, Bool.and_eq_false_iff]
          refine ⟨e, fun z => e2 (Or.inl z), ?_⟩
          by_cases e3 : q.1 + 1 = i
          · exact Or.inr (fun z => e2 (Or.inr ⟨e3, z⟩))
          · exact Or.inl e3
        · rcases List.mem_cons.mp (lvPut2_sub i v r q h) with h | h
          · rw [h]; exact List.mem_cons_self
          · obtain ⟨h1, h2⟩ := List.mem_filter.mp h
            exact List.mem_cons_of_mem _ (List.mem_filter.mpr ⟨List.mem_cons_of_mem _ h1, h2⟩)
theorem lv_less {ls : Array Slot} {nL : Nat} {l l' : List (Nat × Value)} (h : lv_has ls nL l) (hs : ∀ q ∈ l', q ∈ l) : lv_has ls nL l' := ⟨h.1, h.2.1, fun q hq => h.2.2 q (hs q hq)⟩
section ZVR
variable {l : Launch} {Ω : OmT} {E : ZE} {cells slots pc n : Nat} {lv : List (Nat × Value)} {st : List Value} {A : AHp} {cc : ByteArray} {own : String} {ret : Option FieldType} {rm : Room} {nm : String}
/-- only these of the locals, by their numbers -/
theorem z_pick (ks : List Nat) {lv' : List (Nat × Value)} (h : ks.filterMap (fun k => (lvGet lv k).map (fun v => (k, v))) = lv') (k : ZV l Ω E cells slots pc lv' st A n) : ZV l Ω E cells slots pc lv st A n := by
  intro H locs ls hR hL hl
  refine k H locs ls hR hL (lv_less hl (fun q hq => ?_))
  rw [← h] at hq
  obtain ⟨k, -, hk⟩ := List.mem_filterMap.mp hq
  cases hg : lvGet lv k with
  | none => rw [hg] at hk; cases hk
  | some v =>
    rw [hg] at hk
    cases hk
    exact lvGet_mem hg
theorem z_heap {A' : AHp} {n' : Nat} (h : A = A') (hn : n = n') (k : ZV l Ω E cells slots pc lv st A' n') : ZV l Ω E cells slots pc lv st A n := by
  subst h; subst hn; exact k
theorem z_widen {k1 k2 : Nat} (h1 : cells ≤ k1) (h2 : slots ≤ k2) (k : ZV l Ω E k1 k2 pc lv st A n) : ZV l Ω E cells slots pc lv st A n :=
  fun H locs ls hR hL hl => W.widen h1 h2 (k H locs ls hR hL hl)
/-- a value on the stack under another name -/
theorem z_top {v v' : Value} (e : v = v') (k : ZV l Ω E cells slots pc lv (v' :: st) A n) : ZV l Ω E cells slots pc lv (v :: st) A n := by
  subst e; exact k
theorem z_iconst (C : ZC Ω E cc own ret rm nm) {i : Int} {v : Int32} (hd : decode cc pc = .ok (.iconst i, 1)) (hv : Int32.ofInt i = v) (k : ZV l Ω E cells slots (pc + 1) lv (.int v :: st) A n) : ZV l Ω E cells slots pc lv (st) A n :=
  fun H locs ls hR hL hl => lv_iconst C.1 C.2.1 hd hv (k H locs ls hR hL hl)
theorem z_bipush (C : ZC Ω E cc own ret rm nm) {i : Int} {v : Int32} (hd : decode cc pc = .ok (.bipush i, 2)) (hv : (Int8.ofInt i).toInt32 = v) (k : ZV l Ω E cells slots (pc + 2) lv (.int v :: st) A n) : ZV l Ω E cells slots pc lv (st) A n :=
  fun H locs ls hR hL hl => lv_bipush C.1 C.2.1 hd hv (k H locs ls hR hL hl)
theorem z_sipush (C : ZC Ω E cc own ret rm nm) {i : Int} {v : Int32} (hd : decode cc pc = .ok (.sipush i, 3)) (hv : (Int16.ofInt i).toInt32 = v) (k : ZV l Ω E cells slots (pc + 3) lv (.int v :: st) A n) : ZV l Ω E cells slots pc lv (st) A n :=
  fun H locs ls hR hL hl => lv_sipush C.1 C.2.1 hd hv (k H locs ls hR hL hl)
theorem z_lconst (C : ZC Ω E cc own ret rm nm) {i : Fin 2} {v : Int64} (hd : decode cc pc = .ok (.lconst i, 1)) (hv : Int64.ofNat (i : Nat) = v) (k : ZV l Ω E cells slots (pc + 1) lv (.long v :: st) A n) : ZV l Ω E cells slots pc lv (st) A n :=
  fun H locs ls hR hL hl => lv_lconst C.1 C.2.1 hd hv (k H locs ls hR hL hl)
theorem z_ldc (C : ZC Ω E cc own ret rm nm) {i : Nat} {v : Int32} (hd : decode cc pc = .ok (.ldc i, 2)) (hw : Cond.constant own i v ∈ zTbl) (k : ZV l Ω E cells slots (pc + 2) lv (.int v :: st) A n) : ZV l Ω E cells slots pc lv (st) A n :=
  fun H locs ls hR hL hl => W.ldc C.1 C.2.1 C.2.2.2.1 (C.2.2.2.2.1 _ hw) rfl hd (k H locs ls hR hL hl)
theorem z_ldc2 (C : ZC Ω E cc own ret rm nm) {i : Nat} {v : Int64} (hd : decode cc pc = .ok (.ldc2_w i, 3)) (hw : Cond.constantLong own i v ∈ zTbl) (k : ZV l Ω E cells slots (pc + 3) lv (.long v :: st) A n) : ZV l Ω E cells slots pc lv (st) A n :=
  fun H locs ls hR hL hl => W.ldc2 C.1 C.2.1 C.2.2.2.1 (C.2.2.2.2.1 _ hw) rfl hd (k H locs ls hR hL hl)
theorem z_null (C : ZC Ω E cc own ret rm nm)  (hd : decode cc pc = .ok (.aconst_null, 1))  (k : ZV l Ω E cells slots (pc + 1) lv (.null :: st) A n) : ZV l Ω E cells slots pc lv (st) A n :=
  fun H locs ls hR hL hl => lv_null C.1 C.2.1 hd (k H locs ls hR hL hl)
theorem z_iload_n (C : ZC Ω E cc own ret rm nm) {i : Fin 4} {x : Int32} (hd : decode cc pc = .ok (.iload_n i, 1)) (hl0 : lvGet lv (i : Nat) = some (.int x)) (k : ZV l Ω E cells slots (pc + 1) lv (.int x :: st) A n) : ZV l Ω E cells slots pc lv (st) A n :=
  fun H locs ls hR hL hl => lv_iload_n C.1 C.2.1 hd rfl (lvGet_at hl hl0) (k H locs ls hR hL hl)
theorem z_iload (C : ZC Ω E cc own ret rm nm) {i : Nat} {x : Int32} (hd : decode cc pc = .ok (.iload i, 2)) (hl0 : lvGet lv i = some (.int x)) (k : ZV l Ω E cells slots (pc + 2) lv (.int x :: st) A n) : ZV l Ω E cells slots pc lv (st) A n :=
  fun H locs ls hR hL hl => lv_iload C.1 C.2.1 hd (lvGet_at hl hl0) (k H locs ls hR hL hl)
theorem z_istore_n (C : ZC Ω E cc own ret rm nm) {i : Fin 4} {x : Int32} (hd : decode cc pc = .ok (.istore_n i, 1)) (hi : (i : Nat) < E.2.2.1) (k : ZV l Ω E cells slots (pc + 1) (lvPut1 lv (i : Nat) (.int x)) (st) A n) : ZV l Ω E cells slots pc lv (.int x :: st) A n :=
  fun H locs ls hR hL hl => lv_istore_n C.1 C.2.1 hd rfl hl hi rfl (fun ls1 hl1 => k H locs ls1 hR hL (lv_less hl1 (lvPut1_sub _ _ _)))
theorem z_istore (C : ZC Ω E cc own ret rm nm) {i : Nat} {x : Int32} (hd : decode cc pc = .ok (.istore i, 2)) (hi : i < E.2.2.1) (k : ZV l Ω E cells slots (pc + 2) (lvPut1 lv i (.int x)) (st) A n) : ZV l Ω E cells slots pc lv (.int x :: st) A n :=
  fun H locs ls hR hL hl => lv_istore C.1 C.2.1 hd hl hi rfl (fun ls1 hl1 => k H locs ls1 hR hL (lv_less hl1 (lvPut1_sub _ _ _)))
theorem z_lload_n (C : ZC Ω E cc own ret rm nm) {i : Fin 4} {x : Int64} (hd : decode cc pc = .ok (.lload_n i, 1)) (hl0 : lvGet lv (i : Nat) = some (.long x)) (k : ZV l Ω E cells slots (pc + 1) lv (.long x :: st) A n) : ZV l Ω E cells slots pc lv (st) A n :=
  fun H locs ls hR hL hl => lv_lload_n C.1 C.2.1 hd rfl (lvGet_at hl hl0) (k H locs ls hR hL hl)
theorem z_lload (C : ZC Ω E cc own ret rm nm) {i : Nat} {x : Int64} (hd : decode cc pc = .ok (.lload i, 2)) (hl0 : lvGet lv i = some (.long x)) (k : ZV l Ω E cells slots (pc + 2) lv (.long x :: st) A n) : ZV l Ω E cells slots pc lv (st) A n :=
  fun H locs ls hR hL hl => lv_lload C.1 C.2.1 hd (lvGet_at hl hl0) (k H locs ls hR hL hl)
theorem z_lstore_n (C : ZC Ω E cc own ret rm nm) {i : Fin 4} {x : Int64} (hd : decode cc pc = .ok (.lstore_n i, 1)) (hi : (i : Nat) + 1 < E.2.2.1) (k : ZV l Ω E cells slots (pc + 1) (lvPut2 lv (i : Nat) (.long x)) (st) A n) : ZV l Ω E cells slots pc lv (.long x :: st) A n :=
  fun H locs ls hR hL hl => lv_lstore_n C.1 C.2.1 hd rfl hl hi rfl (fun ls1 hl1 => k H locs ls1 hR hL (lv_less hl1 (lvPut2_sub _ _ _)))
theorem z_lstore (C : ZC Ω E cc own ret rm nm) {i : Nat} {x : Int64} (hd : decode cc pc = .ok (.lstore i, 2)) (hi : i + 1 < E.2.2.1) (k : ZV l Ω E cells slots (pc + 2) (lvPut2 lv i (.long x)) (st) A n) : ZV l Ω E cells slots pc lv (.long x :: st) A n :=
  fun H locs ls hR hL hl => lv_lstore C.1 C.2.1 hd hl hi rfl (fun ls1 hl1 => k H locs ls1 hR hL (lv_less hl1 (lvPut2_sub _ _ _)))
theorem z_aload_n (C : ZC Ω E cc own ret rm nm) {i : Fin 4} {x : Nat} (hd : decode cc pc = .ok (.aload_n i, 1)) (hl0 : lvGet lv (i : Nat) = some (.ref x)) (k : ZV l Ω E cells slots (pc + 1) lv (.ref x :: st) A n) : ZV l Ω E cells slots pc lv (st) A n :=
  fun H locs ls hR hL hl => lv_aload_n C.1 C.2.1 hd rfl (lvGet_at hl hl0) (k H locs ls hR hL hl)
theorem z_aload (C : ZC Ω E cc own ret rm nm) {i : Nat} {x : Nat} (hd : decode cc pc = .ok (.aload i, 2)) (hl0 : lvGet lv i = some (.ref x)) (k : ZV l Ω E cells slots (pc + 2) lv (.ref x :: st) A n) : ZV l Ω E cells slots pc lv (st) A n :=
  fun H locs ls hR hL hl => lv_aload C.1 C.2.1 hd (lvGet_at hl hl0) (k H locs ls hR hL hl)
theorem z_astore_n (C : ZC Ω E cc own ret rm nm) {i : Fin 4} {x : Nat} (hd : decode cc pc = .ok (.astore_n i, 1)) (hi : (i : Nat) < E.2.2.1) (k : ZV l Ω E cells slots (pc + 1) (lvPut1 lv (i : Nat) (.ref x)) (st) A n) : ZV l Ω E cells slots pc lv (.ref x :: st) A n :=
  fun H locs ls hR hL hl => lv_astore_n C.1 C.2.1 hd rfl hl hi rfl (fun ls1 hl1 => k H locs ls1 hR hL (lv_less hl1 (lvPut1_sub _ _ _)))
theorem z_astore (C : ZC Ω E cc own ret rm nm) {i : Nat} {x : Nat} (hd : decode cc pc = .ok (.astore i, 2)) (hi : i < E.2.2.1) (k : ZV l Ω E cells slots (pc + 2) (lvPut1 lv i (.ref x)) (st) A n) : ZV l Ω E cells slots pc lv (.ref x :: st) A n :=
  fun H locs ls hR hL hl => lv_astore C.1 C.2.1 hd hl hi rfl (fun ls1 hl1 => k H locs ls1 hR hL (lv_less hl1 (lvPut1_sub _ _ _)))
theorem z_aload_nN (C : ZC Ω E cc own ret rm nm) {i : Fin 4} (hd : decode cc pc = .ok (.aload_n i, 1)) (hl0 : lvGet lv (i : Nat) = some .null) (k : ZV l Ω E cells slots (pc + 1) lv (.null :: st) A n) : ZV l Ω E cells slots pc lv (st) A n :=
  fun H locs ls hR hL hl => lv_aload_nN C.1 C.2.1 hd rfl (lvGet_at hl hl0) (k H locs ls hR hL hl)
theorem z_aloadN (C : ZC Ω E cc own ret rm nm) {i : Nat} (hd : decode cc pc = .ok (.aload i, 2)) (hl0 : lvGet lv i = some .null) (k : ZV l Ω E cells slots (pc + 2) lv (.null :: st) A n) : ZV l Ω E cells slots pc lv (st) A n :=
  fun H locs ls hR hL hl => lv_aloadN C.1 C.2.1 hd (lvGet_at hl hl0) (k H locs ls hR hL hl)
theorem z_astore_nN (C : ZC Ω E cc own ret rm nm) {i : Fin 4} (hd : decode cc pc = .ok (.astore_n i, 1)) (hi : (i : Nat) < E.2.2.1) (k : ZV l Ω E cells slots (pc + 1) (lvPut1 lv (i : Nat) .null) (st) A n) : ZV l Ω E cells slots pc lv (.null :: st) A n :=
  fun H locs ls hR hL hl => lv_astore_nN C.1 C.2.1 hd rfl hl hi rfl (fun ls1 hl1 => k H locs ls1 hR hL (lv_less hl1 (lvPut1_sub _ _ _)))
theorem z_astoreN (C : ZC Ω E cc own ret rm nm) {i : Nat} (hd : decode cc pc = .ok (.astore i, 2)) (hi : i < E.2.2.1) (k : ZV l Ω E cells slots (pc + 2) (lvPut1 lv i .null) (st) A n) : ZV l Ω E cells slots pc lv (.null :: st) A n :=
  fun H locs ls hR hL hl => lv_astoreN C.1 C.2.1 hd hl hi rfl (fun ls1 hl1 => k H locs ls1 hR hL (lv_less hl1 (lvPut1_sub _ _ _)))
theorem lv_idx : ∀ {l : List (Nat × Value)} {k : Nat} {v : Value}, lvGet l k = some v → ∃ i : Nat, l[i]? = some (k, v) := fun h => List.getElem?_of_mem (lvGet_mem h)
theorem z_iinc (C : ZC Ω E cc own ret rm nm) {i : Nat} {d : Int} {x v : Int32} (hd : decode cc pc = .ok (.iinc i d, 3)) (hl0 : lvGet lv i = some (.int x)) (hv : x + Int32.ofInt d = v) (hi : i < E.2.2.1) (k : ZV l Ω E cells slots (pc + 3) (lvPut1 lv i (.int v)) st A n) : ZV l Ω E cells slots pc lv st A n := by
  intro H locs ls hR hL hl
  obtain ⟨j, hj⟩ := lv_idx hl0
  exact lv_iinc C.1 C.2.1 hd hl hj hv hi rfl (fun ls1 hl1 => k H locs ls1 hR hL (lv_less hl1 (lvPut1_sub _ _ _)))
theorem z_iadd (C : ZC Ω E cc own ret rm nm) {x y : Int32} (hd : decode cc pc = .ok (.iadd, 1))  (k : ZV l Ω E cells slots (pc + 1) lv (.int (x + y) :: st) A n) : ZV l Ω E cells slots pc lv (.int y :: .int x :: st) A n :=
  fun H locs ls hR hL hl => lv_iadd C.1 C.2.1 hd (k H locs ls hR hL hl)
theorem z_isub (C : ZC Ω E cc own ret rm nm) {x y : Int32} (hd : decode cc pc = .ok (.isub, 1))  (k : ZV l Ω E cells slots (pc + 1) lv (.int (x - y) :: st) A n) : ZV l Ω E cells slots pc lv (.int y :: .int x :: st) A n :=
  fun H locs ls hR hL hl => lv_isub C.1 C.2.1 hd (k H locs ls hR hL hl)
theorem z_imul (C : ZC Ω E cc own ret rm nm) {x y : Int32} (hd : decode cc pc = .ok (.imul, 1))  (k : ZV l Ω E cells slots (pc + 1) lv (.int (x * y) :: st) A n) : ZV l Ω E cells slots pc lv (.int y :: .int x :: st) A n :=
  fun H locs ls hR hL hl => lv_imul C.1 C.2.1 hd (k H locs ls hR hL hl)
theorem z_iand (C : ZC Ω E cc own ret rm nm) {x y : Int32} (hd : decode cc pc = .ok (.iand, 1))  (k : ZV l Ω E cells slots (pc + 1) lv (.int (x &&& y) :: st) A n) : ZV l Ω E cells slots pc lv (.int y :: .int x :: st) A n :=
  fun H locs ls hR hL hl => lv_iand C.1 C.2.1 hd (k H locs ls hR hL hl)
theorem z_ishl (C : ZC Ω E cc own ret rm nm) {x y : Int32} (hd : decode cc pc = .ok (.ishl, 1))  (k : ZV l Ω E cells slots (pc + 1) lv (.int (x <<< (y &&& 31)) :: st) A n) : ZV l Ω E cells slots pc lv (.int y :: .int x :: st) A n :=
  fun H locs ls hR hL hl => lv_ishl C.1 C.2.1 hd (k H locs ls hR hL hl)
theorem z_ishr (C : ZC Ω E cc own ret rm nm) {x y : Int32} (hd : decode cc pc = .ok (.ishr, 1))  (k : ZV l Ω E cells slots (pc + 1) lv (.int (x >>> (y &&& 31)) :: st) A n) : ZV l Ω E cells slots pc lv (.int y :: .int x :: st) A n :=
  fun H locs ls hR hL hl => lv_ishr C.1 C.2.1 hd (k H locs ls hR hL hl)
theorem z_idiv (C : ZC Ω E cc own ret rm nm) {x y : Int32} (hd : decode cc pc = .ok (.idiv, 1)) (hne : ¬ y = 0) (k : ZV l Ω E cells slots (pc + 1) lv (.int (x / y) :: st) A n) : ZV l Ω E cells slots pc lv (.int y :: .int x :: st) A n :=
  fun H locs ls hR hL hl => lv_idiv C.1 C.2.1 hd hne (k H locs ls hR hL hl)
theorem z_irem (C : ZC Ω E cc own ret rm nm) {x y : Int32} (hd : decode cc pc = .ok (.irem, 1)) (hne : ¬ y = 0) (k : ZV l Ω E cells slots (pc + 1) lv (.int (x - x / y * y) :: st) A n) : ZV l Ω E cells slots pc lv (.int y :: .int x :: st) A n :=
  fun H locs ls hR hL hl => lv_irem C.1 C.2.1 hd hne (k H locs ls hR hL hl)
theorem z_ladd (C : ZC Ω E cc own ret rm nm) {x y : Int64} (hd : decode cc pc = .ok (.ladd, 1))  (k : ZV l Ω E cells slots (pc + 1) lv (.long (x + y) :: st) A n) : ZV l Ω E cells slots pc lv (.long y :: .long x :: st) A n :=
  fun H locs ls hR hL hl => lv_ladd C.1 C.2.1 hd (k H locs ls hR hL hl)
theorem z_lsub (C : ZC Ω E cc own ret rm nm) {x y : Int64} (hd : decode cc pc = .ok (.lsub, 1))  (k : ZV l Ω E cells slots (pc + 1) lv (.long (x - y) :: st) A n) : ZV l Ω E cells slots pc lv (.long y :: .long x :: st) A n :=
  fun H locs ls hR hL hl => lv_lsub C.1 C.2.1 hd (k H locs ls hR hL hl)
theorem z_lmul (C : ZC Ω E cc own ret rm nm) {x y : Int64} (hd : decode cc pc = .ok (.lmul, 1))  (k : ZV l Ω E cells slots (pc + 1) lv (.long (x * y) :: st) A n) : ZV l Ω E cells slots pc lv (.long y :: .long x :: st) A n :=
  fun H locs ls hR hL hl => lv_lmul C.1 C.2.1 hd (k H locs ls hR hL hl)
theorem z_ldiv (C : ZC Ω E cc own ret rm nm) {x y : Int64} (hd : decode cc pc = .ok (.ldiv, 1)) (hne : ¬ y = 0) (k : ZV l Ω E cells slots (pc + 1) lv (.long (x / y) :: st) A n) : ZV l Ω E cells slots pc lv (.long y :: .long x :: st) A n :=
  fun H locs ls hR hL hl => lv_ldiv C.1 C.2.1 hd hne (k H locs ls hR hL hl)
theorem z_lrem (C : ZC Ω E cc own ret rm nm) {x y : Int64} (hd : decode cc pc = .ok (.lrem, 1)) (hne : ¬ y = 0) (k : ZV l Ω E cells slots (pc + 1) lv (.long (x - x / y * y) :: st) A n) : ZV l Ω E cells slots pc lv (.long y :: .long x :: st) A n :=
  fun H locs ls hR hL hl => lv_lrem C.1 C.2.1 hd hne (k H locs ls hR hL hl)
theorem z_lneg (C : ZC Ω E cc own ret rm nm) {x : Int64} (hd : decode cc pc = .ok (.lneg, 1))  (k : ZV l Ω E cells slots (pc + 1) lv (.long (-x) :: st) A n) : ZV l Ω E cells slots pc lv (.long x :: st) A n :=
  fun H locs ls hR hL hl => lv_lneg C.1 C.2.1 hd (k H locs ls hR hL hl)
theorem z_lcmp (C : ZC Ω E cc own ret rm nm) {x y : Int64} (hd : decode cc pc = .ok (.lcmp, 1))  (k : ZV l Ω E cells slots (pc + 1) lv (.int (lg_cmp x y) :: st) A n) : ZV l Ω E cells slots pc lv (.long y :: .long x :: st) A n :=
  fun H locs ls hR hL hl => W.lcmp C.1 C.2.1 hd (k H locs ls hR hL hl)
theorem z_i2l (C : ZC Ω E cc own ret rm nm) {x : Int32} {v : Int64} (hd : decode cc pc = .ok (.i2l, 1)) (hv : x.toInt64 = v) (k : ZV l Ω E cells slots (pc + 1) lv (.long v :: st) A n) : ZV l Ω E cells slots pc lv (.int x :: st) A n :=
  fun H locs ls hR hL hl => lv_i2l C.1 C.2.1 hd hv (k H locs ls hR hL hl)
theorem z_l2i (C : ZC Ω E cc own ret rm nm) {x : Int64} {v : Int32} (hd : decode cc pc = .ok (.l2i, 1)) (hv : x.toInt32 = v) (k : ZV l Ω E cells slots (pc + 1) lv (.int v :: st) A n) : ZV l Ω E cells slots pc lv (.long x :: st) A n :=
  fun H locs ls hR hL hl => lv_l2i C.1 C.2.1 hd hv (k H locs ls hR hL hl)
theorem z_dup (C : ZC Ω E cc own ret rm nm) {v : Value} (hd : decode cc pc = .ok (.dup, 1)) (hv : v.category = 1) (k : ZV l Ω E cells slots (pc + 1) lv (v :: v :: st) A n) : ZV l Ω E cells slots pc lv (v :: st) A n :=
  fun H locs ls hR hL hl => lv_dup C.1 C.2.1 hd hv (k H locs ls hR hL hl)
theorem z_dup2 (C : ZC Ω E cc own ret rm nm) {v u : Value} (hd : decode cc pc = .ok (.dup2, 1)) (hv : v.category = 1) (hu : u.category = 1) (k : ZV l Ω E cells slots (pc + 1) lv (v :: u :: v :: u :: st) A n) : ZV l Ω E cells slots pc lv (v :: u :: st) A n :=
  fun H locs ls hR hL hl => lv_dup2_11 C.1 C.2.1 hd hv hu (k H locs ls hR hL hl)
theorem z_iaddN (C : ZC Ω E cc own ret rm nm) {a b : Nat} (hd : decode cc pc = .ok (.iadd, 1)) (k : ZV l Ω E cells slots (pc + 1) lv (.int (nI (a + b)) :: st) A n) : ZV l Ω E cells slots pc lv (.int (nI b) :: .int (nI a) :: st) A n :=
  z_iadd C hd (by rw [nI_add]; exact k)
theorem z_imulN (C : ZC Ω E cc own ret rm nm) {a b : Nat} (hd : decode cc pc = .ok (.imul, 1)) (k : ZV l Ω E cells slots (pc + 1) lv (.int (nI (a * b)) :: st) A n) : ZV l Ω E cells slots pc lv (.int (nI b) :: .int (nI a) :: st) A n :=
  z_imul C hd (by rw [pk_mul]; exact k)
theorem z_isubN (C : ZC Ω E cc own ret rm nm) {a b : Nat} (hd : decode cc pc = .ok (.isub, 1)) (h : b ≤ a) (k : ZV l Ω E cells slots (pc + 1) lv (.int (nI (a - b)) :: st) A n) : ZV l Ω E cells slots pc lv (.int (nI b) :: .int (nI a) :: st) A n :=
  z_isub C hd (by rw [pk_sub h]; exact k)
theorem z_idivN (C : ZC Ω E cc own ret rm nm) {a b : Nat} (hd : decode cc pc = .ok (.idiv, 1)) (ha : a < 2147483648) (h0 : 0 < b) (hb : b < 2147483648) (k : ZV l Ω E cells slots (pc + 1) lv (.int (nI (a / b)) :: st) A n) : ZV l Ω E cells slots pc lv (.int (nI b) :: .int (nI a) :: st) A n :=
  z_idiv C hd (nI_ne0 h0 hb) (by rw [pk_div ha h0 hb]; exact k)
theorem z_iremN (C : ZC Ω E cc own ret rm nm) {a b : Nat} (hd : decode cc pc = .ok (.irem, 1)) (ha : a < 2147483648) (h0 : 0 < b) (hb : b < 2147483648) (k : ZV l Ω E cells slots (pc + 1) lv (.int (nI (a % b)) :: st) A n) : ZV l Ω E cells slots pc lv (.int (nI b) :: .int (nI a) :: st) A n :=
  z_irem C hd (nI_ne0 h0 hb) (by rw [pk_rem ha h0 hb]; exact k)
theorem z_iincN (C : ZC Ω E cc own ret rm nm) {i : Nat} {x : Nat} (hd : decode cc pc = .ok (.iinc i 1, 3)) (hl0 : lvGet lv i = some (.int (nI x))) (hi : i < E.2.2.1) (k : ZV l Ω E cells slots (pc + 3) (lvPut1 lv i (.int (nI (x + 1)))) st A n) : ZV l Ω E cells slots pc lv st A n :=
  z_iinc C hd hl0 (nI_1 x) hi k
theorem z_if_eq (C : ZC Ω E cc own ret rm nm) {x : Int32} {off : Int} {tgt : Nat} (hd : decode cc pc = .ok (.ifCond .eq off, 3)) (ht : (pc : Int) + off = (tgt : Int)) (kt : x = 0 → ZV l Ω E cells slots tgt lv st A n) (kf : ¬ (x = 0) → ZV l Ω E cells slots (pc + 3) lv st A n) : ZV l Ω E cells slots pc lv (.int x :: st) A n :=
  fun H locs ls hR hL hl => lv_if_eq C.1 C.2.1 hd ht (fun h => kt h H locs ls hR hL hl) (fun h => kf h H locs ls hR hL hl)
theorem z_icmp_eq (C : ZC Ω E cc own ret rm nm) {x y : Int32} {off : Int} {tgt : Nat} (hd : decode cc pc = .ok (.if_icmp .eq off, 3)) (ht : (pc : Int) + off = (tgt : Int)) (kt : x = y → ZV l Ω E cells slots tgt lv st A n) (kf : ¬ (x = y) → ZV l Ω E cells slots (pc + 3) lv st A n) : ZV l Ω E cells slots pc lv (.int y :: .int x :: st) A n :=
  fun H locs ls hR hL hl => lv_icmp_eq C.1 C.2.1 hd ht (fun h => kt h H locs ls hR hL hl) (fun h => kf h H locs ls hR hL hl)
theorem z_if_ne (C : ZC Ω E cc own ret rm nm) {x : Int32} {off : Int} {tgt : Nat} (hd : decode cc pc = .ok (.ifCond .ne off, 3)) (ht : (pc : Int) + off = (tgt : Int)) (kt : ¬ x = 0 → ZV l Ω E cells slots tgt lv st A n) (kf : x = 0 → ZV l Ω E cells slots (pc + 3) lv st A n) : ZV l Ω E cells slots pc lv (.int x :: st) A n :=
  fun H locs ls hR hL hl => lv_if_ne C.1 C.2.1 hd ht (fun h => kt h H locs ls hR hL hl) (fun h => kf h H locs ls hR hL hl)
theorem z_icmp_ne (C : ZC Ω E cc own ret rm nm) {x y : Int32} {off : Int} {tgt : Nat} (hd : decode cc pc = .ok (.if_icmp .ne off, 3)) (ht : (pc : Int) + off = (tgt : Int)) (kt : ¬ x = y → ZV l Ω E cells slots tgt lv st A n) (kf : x = y → ZV l Ω E cells slots (pc + 3) lv st A n) : ZV l Ω E cells slots pc lv (.int y :: .int x :: st) A n :=
  fun H locs ls hR hL hl => lv_icmp_ne C.1 C.2.1 hd ht (fun h => kt h H locs ls hR hL hl) (fun h => kf h H locs ls hR hL hl)
theorem z_if_lt (C : ZC Ω E cc own ret rm nm) {x : Int32} {off : Int} {tgt : Nat} (hd : decode cc pc = .ok (.ifCond .lt off, 3)) (ht : (pc : Int) + off = (tgt : Int)) (kt : x < 0 → ZV l Ω E cells slots tgt lv st A n) (kf : ¬ (x < 0) → ZV l Ω E cells slots (pc + 3) lv st A n) : ZV l Ω E cells slots pc lv (.int x :: st) A n :=
  fun H locs ls hR hL hl => lv_if_lt C.1 C.2.1 hd ht (fun h => kt h H locs ls hR hL hl) (fun h => kf h H locs ls hR hL hl)
theorem z_icmp_lt (C : ZC Ω E cc own ret rm nm) {x y : Int32} {off : Int} {tgt : Nat} (hd : decode cc pc = .ok (.if_icmp .lt off, 3)) (ht : (pc : Int) + off = (tgt : Int)) (kt : x < y → ZV l Ω E cells slots tgt lv st A n) (kf : ¬ (x < y) → ZV l Ω E cells slots (pc + 3) lv st A n) : ZV l Ω E cells slots pc lv (.int y :: .int x :: st) A n :=
  fun H locs ls hR hL hl => lv_icmp_lt C.1 C.2.1 hd ht (fun h => kt h H locs ls hR hL hl) (fun h => kf h H locs ls hR hL hl)
theorem z_if_ge (C : ZC Ω E cc own ret rm nm) {x : Int32} {off : Int} {tgt : Nat} (hd : decode cc pc = .ok (.ifCond .ge off, 3)) (ht : (pc : Int) + off = (tgt : Int)) (kt : 0 ≤ x → ZV l Ω E cells slots tgt lv st A n) (kf : ¬ (0 ≤ x) → ZV l Ω E cells slots (pc + 3) lv st A n) : ZV l Ω E cells slots pc lv (.int x :: st) A n :=
  fun H locs ls hR hL hl => lv_if_ge C.1 C.2.1 hd ht (fun h => kt h H locs ls hR hL hl) (fun h => kf h H locs ls hR hL hl)
theorem z_icmp_ge (C : ZC Ω E cc own ret rm nm) {x y : Int32} {off : Int} {tgt : Nat} (hd : decode cc pc = .ok (.if_icmp .ge off, 3)) (ht : (pc : Int) + off = (tgt : Int)) (kt : y ≤ x → ZV l Ω E cells slots tgt lv st A n) (kf : ¬ (y ≤ x) → ZV l Ω E cells slots (pc + 3) lv st A n) : ZV l Ω E cells slots pc lv (.int y :: .int x :: st) A n :=
  fun H locs ls hR hL hl => lv_icmp_ge C.1 C.2.1 hd ht (fun h => kt h H locs ls hR hL hl) (fun h => kf h H locs ls hR hL hl)
theorem z_if_gt (C : ZC Ω E cc own ret rm nm) {x : Int32} {off : Int} {tgt : Nat} (hd : decode cc pc = .ok (.ifCond .gt off, 3)) (ht : (pc : Int) + off = (tgt : Int)) (kt : 0 < x → ZV l Ω E cells slots tgt lv st A n) (kf : ¬ (0 < x) → ZV l Ω E cells slots (pc + 3) lv st A n) : ZV l Ω E cells slots pc lv (.int x :: st) A n :=
  fun H locs ls hR hL hl => lv_if_gt C.1 C.2.1 hd ht (fun h => kt h H locs ls hR hL hl) (fun h => kf h H locs ls hR hL hl)
theorem z_icmp_gt (C : ZC Ω E cc own ret rm nm) {x y : Int32} {off : Int} {tgt : Nat} (hd : decode cc pc = .ok (.if_icmp .gt off, 3)) (ht : (pc : Int) + off = (tgt : Int)) (kt : y < x → ZV l Ω E cells slots tgt lv st A n) (kf : ¬ (y < x) → ZV l Ω E cells slots (pc + 3) lv st A n) : ZV l Ω E cells slots pc lv (.int y :: .int x :: st) A n :=
  fun H locs ls hR hL hl => lv_icmp_gt C.1 C.2.1 hd ht (fun h => kt h H locs ls hR hL hl) (fun h => kf h H locs ls hR hL hl)
theorem z_if_le (C : ZC Ω E cc own ret rm nm) {x : Int32} {off : Int} {tgt : Nat} (hd : decode cc pc = .ok (.ifCond .le off, 3)) (ht : (pc : Int) + off = (tgt : Int)) (kt : x ≤ 0 → ZV l Ω E cells slots tgt lv st A n) (kf : ¬ (x ≤ 0) → ZV l Ω E cells slots (pc + 3) lv st A n) : ZV l Ω E cells slots pc lv (.int x :: st) A n :=
  fun H locs ls hR hL hl => lv_if_le C.1 C.2.1 hd ht (fun h => kt h H locs ls hR hL hl) (fun h => kf h H locs ls hR hL hl)
theorem z_icmp_le (C : ZC Ω E cc own ret rm nm) {x y : Int32} {off : Int} {tgt : Nat} (hd : decode cc pc = .ok (.if_icmp .le off, 3)) (ht : (pc : Int) + off = (tgt : Int)) (kt : x ≤ y → ZV l Ω E cells slots tgt lv st A n) (kf : ¬ (x ≤ y) → ZV l Ω E cells slots (pc + 3) lv st A n) : ZV l Ω E cells slots pc lv (.int y :: .int x :: st) A n :=
  fun H locs ls hR hL hl => lv_icmp_le C.1 C.2.1 hd ht (fun h => kt h H locs ls hR hL hl) (fun h => kf h H locs ls hR hL hl)
theorem z_goto (C : ZC Ω E cc own ret rm nm) {off : Int} {tgt : Nat} (hd : decode cc pc = .ok (.goto off, 3)) (ht : (pc : Int) + off = (tgt : Int)) (k : ZV l Ω E cells slots tgt lv st A n) : ZV l Ω E cells slots pc lv st A n :=
  fun H locs ls hR hL hl => lv_goto C.1 C.2.1 hd ht (k H locs ls hR hL hl)
theorem z_tabOut (C : ZC Ω E cc own ret rm nm) {dflt lo hi : Int} {offs : Array Int} {len : Nat} {x : Int32} {tgt : Nat} (hd : decode cc pc = .ok (.tableswitch dflt lo hi offs, len)) (h : x.toInt < lo ∨ hi < x.toInt) (ht : (pc : Int) + dflt = (tgt : Int)) (k : ZV l Ω E cells slots tgt lv st A n) : ZV l Ω E cells slots pc lv (.int x :: st) A n :=
  fun H locs ls hR hL hl => lv_tableOut C.1 C.2.1 hd h ht (k H locs ls hR hL hl)
theorem z_tabIn (C : ZC Ω E cc own ret rm nm) {dflt lo hi : Int} {offs : Array Int} {len : Nat} {x : Int32} {off : Int} {tgt : Nat} (hd : decode cc pc = .ok (.tableswitch dflt lo hi offs, len)) (h1 : ¬ x.toInt < lo) (h2 : ¬ hi < x.toInt) (ho : offs[(x.toInt - lo).toNat]? = some off) (ht : (pc : Int) + off = (tgt : Int)) (k : ZV l Ω E cells slots tgt lv st A n) : ZV l Ω E cells slots pc lv (.int x :: st) A n :=
  fun H locs ls hR hL hl => lv_tableIn C.1 C.2.1 hd h1 h2 ho ht (k H locs ls hR hL hl)
theorem z_ifnonnull (C : ZC Ω E cc own ret rm nm) {x : Nat} {off : Int} {tgt : Nat} (hd : decode cc pc = .ok (.ifnonnull off, 3)) (ht : (pc : Int) + off = (tgt : Int)) (k : ZV l Ω E cells slots tgt lv st A n) : ZV l Ω E cells slots pc lv (.ref x :: st) A n :=
  fun H locs ls hR hL hl => lv_ifnonnull C.1 C.2.1 hd ht (k H locs ls hR hL hl)
theorem z_ifnonnullN (C : ZC Ω E cc own ret rm nm) {off : Int} (hd : decode cc pc = .ok (.ifnonnull off, 3)) (k : ZV l Ω E cells slots (pc + 3) lv st A n) : ZV l Ω E cells slots pc lv (.null :: st) A n :=
  fun H locs ls hR hL hl => lv_ifnonnullN C.1 C.2.1 hd (k H locs ls hR hL hl)
theorem z_ifnull (C : ZC Ω E cc own ret rm nm) {x : Nat} {off : Int} (hd : decode cc pc = .ok (.ifnull off, 3)) (k : ZV l Ω E cells slots (pc + 3) lv st A n) : ZV l Ω E cells slots pc lv (.ref x :: st) A n :=
  fun H locs ls hR hL hl => lv_ifnull C.1 C.2.1 hd (k H locs ls hR hL hl)
theorem z_ifnullN (C : ZC Ω E cc own ret rm nm) {off : Int} {tgt : Nat} (hd : decode cc pc = .ok (.ifnull off, 3)) (ht : (pc : Int) + off = (tgt : Int)) (k : ZV l Ω E cells slots tgt lv st A n) : ZV l Ω E cells slots pc lv (.null :: st) A n :=
  fun H locs ls hR hL hl => lv_ifnullN C.1 C.2.1 hd ht (k H locs ls hR hL hl)
/-! arrays -/
theorem zArr (C : ZC Ω E cc own ret rm nm) {t : Nat} (ht : t < 5) : ArrOfT E.1.2.2.2 (Ω.2.1 t) (tyA t) := by
  have hK := C.2.2.2.2.2.2.2.2.2.1.2
  match t, ht with
  | 0, _ => exact (hK 0 _ rfl).1
  | 1, _ => exact (hK 1 _ rfl).1
  | 2, _ => exact (hK 2 _ rfl).1
  | 3, _ => exact (hK 3 _ rfl).1
  | 4, _ => exact (hK 4 _ rfl).1
theorem zIn {c0 : ClassId} {f : Nat → Value} {k N : Nat} (hk : k < N) (hN : N < 2147483648) : ¬ (nI k < 0 ∨ (arrV c0 N f).slots.size ≤ (nI k).toNatClampNeg) := by
  rw [arrV_size]
  exact vp_in_nI hk hN
theorem zRd {c0 : ClassId} {f : Nat → Value} {k N : Nat} (hk : k < N) (hN : N < 2147483648) : (arrV c0 N f).slots[(nI k).toNatClampNeg]? = some (f k) := by
  rw [nI_clamp (Nat.lt_trans hk hN), arrV_read _ _ hk]
theorem z_iald (C : ZC Ω E cc own ret rm nm) {a k N : Nat} {f : Nat → Value} {x : Int32} (hd : decode cc pc = .ok (.iaload, 1)) (ha : A a = some (.inr (0, N, f))) (hk : k < N) (hN : N < 2147483648) (hv : f k = .int x) (kk : ZV l Ω E cells slots (pc + 1) lv (.int x :: st) A n) : ZV l Ω E cells slots pc lv (.int (nI k) :: .ref (Ω.2.2.1 + a) :: st) A n :=
  fun H locs ls hR hL hl => W.iald C.1 C.2.1 (hR.2.2 _ _ ha) (zArr C (t := 0) (by decide) N f) (fun q => by cases q) (zIn hk hN) (by rw [← hv]; exact zRd hk hN) rfl rfl hd (kk H locs ls hR hL hl)
theorem z_lald (C : ZC Ω E cc own ret rm nm) {a k N : Nat} {f : Nat → Value} {x : Int64} (hd : decode cc pc = .ok (.laload, 1)) (ha : A a = some (.inr (1, N, f))) (hk : k < N) (hN : N < 2147483648) (hv : f k = .long x) (kk : ZV l Ω E cells slots (pc + 1) lv (.long x :: st) A n) : ZV l Ω E cells slots pc lv (.int (nI k) :: .ref (Ω.2.2.1 + a) :: st) A n :=
  fun H locs ls hR hL hl => W.lald C.1 C.2.1 (hR.2.2 _ _ ha) (zArr C (t := 1) (by decide) N f) (fun q => by cases q) (zIn hk hN) (by rw [← hv]; exact zRd hk hN) rfl rfl hd (kk H locs ls hR hL hl)
theorem z_zald (C : ZC Ω E cc own ret rm nm) {a k N : Nat} {f : Nat → Value} {x : Int32} (hd : decode cc pc = .ok (.baload, 1)) (ha : A a = some (.inr (2, N, f))) (hk : k < N) (hN : N < 2147483648) (hv : f k = .int x) (kk : ZV l Ω E cells slots (pc + 1) lv (.int x :: st) A n) : ZV l Ω E cells slots pc lv (.int (nI k) :: .ref (Ω.2.2.1 + a) :: st) A n :=
  fun H locs ls hR hL hl => W.zald C.1 C.2.1 (hR.2.2 _ _ ha) (zArr C (t := 2) (by decide) N f) (fun q => by cases q) (zIn hk hN) (by rw [← hv]; exact zRd hk hN) rfl rfl hd (kk H locs ls hR hL hl)
theorem z_aald (C : ZC Ω E cc own ret rm nm) {a k N t : Nat} {f : Nat → Value} (hd : decode cc pc = .ok (.aaload, 1)) (ha : A a = some (.inr (t, N, f))) (ht : t = 3 ∨ t = 4) (hk : k < N) (hN : N < 2147483648) (kk : ZV l Ω E cells slots (pc + 1) lv (f k :: st) A n) : ZV l Ω E cells slots pc lv (.int (nI k) :: .ref (Ω.2.2.1 + a) :: st) A n :=
  fun H locs ls hR hL hl => W.aald (ty := tyA t) C.1 C.2.1 (hR.2.2 _ _ ha) (zArr C (t := t) (by omega) N f) (by rcases ht with rfl | rfl <;> rfl) (fun q => by cases q) (zIn hk hN) (zRd hk hN) rfl rfl hd (kk H locs ls hR hL hl)
theorem z_alen (C : ZC Ω E cc own ret rm nm) {a N t : Nat} {f : Nat → Value} (hd : decode cc pc = .ok (.arraylength, 1)) (ha : A a = some (.inr (t, N, f))) (ht : t < 5) (kk : ZV l Ω E cells slots (pc + 1) lv (.int (nI N) :: st) A n) : ZV l Ω E cells slots pc lv (.ref (Ω.2.2.1 + a) :: st) A n :=
  fun H locs ls hR hL hl => W.alen (n := nI N) C.1 C.2.1 (hR.2.2 _ _ ha) (zArr C (t := t) ht N f) (by rw [arrV_size]; rfl) rfl rfl hd (kk H locs ls hR hL hl)
theorem zSt {f : Nat → Value} {c0 : ClassId} {k N : Nat} {x : Value} (hk : k < 2147483648) : (arrV c0 N f).setSlot (nI k).toNatClampNeg x = arrV c0 N (updV f k x) := by
  rw [nI_clamp hk, arrV_store]
theorem zLocs {locs : List Loc} {b q k : Nat} (hL : ∀ x ∈ locs, b ≤ x.base) (hq : b ≤ q) : ∀ x ∈ locs ++ [(⟨q, k⟩ : Loc)], b ≤ x.base := by
  intro x hx
  rcases List.mem_append.mp hx with h | h
  · exact hL x h
  · rw [List.mem_singleton.mp h]
    exact hq
theorem z_iast (C : ZC Ω E cc own ret rm nm) {a k N : Nat} {f : Nat → Value} {x : Int32} {A' : AHp} (hd : decode cc pc = .ok (.iastore, 1)) (ha : A a = some (.inr (0, N, f))) (hk : k < N) (hN : N < 2147483648) (hA : aup A a (.inr (0, N, updV f k (.int x))) = A') (kk : ZV l Ω E cells slots (pc + 1) lv st A' n) : ZV l Ω E cells slots pc lv (.int x :: .int (nI k) :: .ref (Ω.2.2.1 + a) :: st) A n := by
  intro H locs ls hR hL hl
  subst hA
  refine W.iast C.1 C.2.1 (hR.2.2 _ _ ha) (zArr C (t := 0) (by decide) N f) (fun q => by cases q) (zIn hk hN) rfl rfl hd fun H1 e1 z1 o1 => ?_
  rw [zSt (Nat.lt_trans hk hN)] at e1
  exact kk H1 _ ls (hR.put z1 e1 o1) (zLocs hL (Nat.le_add_right _ _)) hl
theorem z_last (C : ZC Ω E cc own ret rm nm) {a k N : Nat} {f : Nat → Value} {x : Int64} {A' : AHp} (hd : decode cc pc = .ok (.lastore, 1)) (ha : A a = some (.inr (1, N, f))) (hk : k < N) (hN : N < 2147483648) (hA : aup A a (.inr (1, N, updV f k (.long x))) = A') (kk : ZV l Ω E cells slots (pc + 1) lv st A' n) : ZV l Ω E cells slots pc lv (.long x :: .int (nI k) :: .ref (Ω.2.2.1 + a) :: st) A n := by
  intro H locs ls hR hL hl
  subst hA
  refine W.last C.1 C.2.1 (hR.2.2 _ _ ha) (zArr C (t := 1) (by decide) N f) (fun q => by cases q) (zIn hk hN) rfl rfl hd fun H1 e1 z1 o1 => ?_
  rw [zSt (Nat.lt_trans hk hN)] at e1
  exact kk H1 _ ls (hR.put z1 e1 o1) (zLocs hL (Nat.le_add_right _ _)) hl
theorem z_zast (C : ZC Ω E cc own ret rm nm) {a k N : Nat} {f : Nat → Value} {x : Int32} {A' : AHp} (hd : decode cc pc = .ok (.bastore, 1)) (ha : A a = some (.inr (2, N, f))) (hx : x = 0 ∨ x = 1) (hk : k < N) (hN : N < 2147483648) (hA : aup A a (.inr (2, N, updV f k (.int x))) = A') (kk : ZV l Ω E cells slots (pc + 1) lv st A' n) : ZV l Ω E cells slots pc lv (.int x :: .int (nI k) :: .ref (Ω.2.2.1 + a) :: st) A n := by
  intro H locs ls hR hL hl
  subst hA
  refine W.zast C.1 C.2.1 (hR.2.2 _ _ ha) (zArr C (t := 2) (by decide) N f) (fun q => by cases q) (zIn hk hN) rfl rfl hd fun H1 e1 z1 o1 => ?_
  have e9 : narrow .boolean (.int x) = .int x := by rcases hx with rfl | rfl <;> rfl
  rw [zSt (Nat.lt_trans hk hN), e9] at e1
  exact kk H1 _ ls (hR.put z1 e1 o1) (zLocs hL (Nat.le_add_right _ _)) hl
end ZVR
