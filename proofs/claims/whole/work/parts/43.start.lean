/-! ===== the law, from its entry on ===== -/
def R_law : String := "GrindWorksLaw"
def lw_P (b : Addr) (xs : List Int32) (args : Array Value) (s : State) : Prop := args = #[.ref b] ∧ s.IntsAt b xs ∧ xs.length ≤ 3072 ∧ (Jvm.Cond.and given_1 narrow_1).before args s = true
def lw_Q (_ : Array Value) (s : State) (o : Outcome) (t : State) : Prop := o = .returned (some (.int 1)) ∧ Framed s o t [] 703340 6992228
def lw_Z (below : List Frame) (a : Array Value) (s : State) : State → Prop := fun t => ∃ o, t.status = .running ∧ Ended t below o ∧ lw_Q a s o t
/-- the law's own end, with 1 on the stack, nothing written that was there before, its room as the claim has it -/
theorem lw_ret {p : Program} {l : Launch} {e : Env} {s : State} {m : MethodId} {below : List Frame} {meth : Method} {c : Code} {b : Nat} (hx : p.tables.exec = Jvm.exec) (hb : c.code = code) (hr : meth.sig.returnType = ret) (hlocks : meth.locks = false) {pc : Nat} {H : Heap} {ls : Array Slot} (hdg : decode code pc = .ok (.ireturn, 1)) : W p l e room_1 s m #[Value.ref b] below meth c H [] 703340 6992228 (lw_Z below #[Value.ref b] s) (F0 m pc ls [.int 1]) := by
  intro T hT X
  obtain ⟨fs, hret, hrun, hended, hW, hframe⟩ := X.leave (v := some (.int 1)) (hlocks := hlocks) (fun h => by rw [hr] at h; cases h)
  have hmeth' : T.vm.method? m = some meth := X.method'
  refine ⟨T.setFrames fs, ?_, .returned (some (.int 1)), hrun, hended, rfl, ⟨_, rfl⟩, hW, hframe⟩
  jvm_step X.here [X.here.top, hx, hb, hdg, hmeth', hr, ret, narrow_b1]
  (try refine ⟨rfl, ?_⟩); (try refine ⟨rfl, ?_⟩)
  first | (intro acts; rw [hret _ acts rfl rfl rfl]) | rw [hret _ _ rfl rfl rfl]
  exact Steps.refl _
/-- what holds at the law's entry: the machine, the code, the tables' words (any of lw_tbl by 'hts w (by decide +kernel)'), the script of L ints xs at the cell b, what the Statement gives of the start (any of its parts by flat_of_before) -/
def lw_At (p : Program) (s : State) (m : MethodId) (meth : Method) (c : Code) (b L : Nat) (xs : Nat → Int32) : Prop :=
  p.tables.exec = Jvm.exec ∧ c.code = code ∧ meth.sig.returnType = ret ∧ c.maxLocals = 4 ∧ s.vm.findClass R_law = some m.cls ∧ (∀ w ∈ lw_tbl, w.before #[Value.ref b] s = true) ∧ va_X b L xs s s.heap ∧ b < s.heap.size ∧ meth.locks = false ∧ (Jvm.Cond.and given_1 narrow_1).before #[Value.ref b] s = true
theorem zins : ∀ (ci : Nat) (q : vw_C), vwCl[ci]? = some q → Cond.instantiable q.1 q.2.2 ∈ zTbl := by
  intro ci q h
  match ci, h with
  | 0, h => cases h; exact kw_231
  | 1, h => cases h; exact kw_55
  | 2, h => cases h; exact kw_152
  | 3, h => cases h; exact kw_26
  | 4, h => cases h; exact kw_165
  | 5, h => cases h; exact kw_178
  | 6, h => cases h; exact kw_211
  | 7, h => cases h; exact kw_68
  | 8, h => cases h; exact kw_193
  | 9, h => cases h; exact kw_17
  | 10, h => cases h; exact kw_614
theorem wM : ∀ q ∈ zMn, Cond.methodLinkNest q.1 q.2.1 q.2.2 "GrindWorks" ∈ lw_tbl := by decide +kernel
theorem wF : ∀ q ∈ zFn, Cond.fieldLinkNest q.1 q.2.1 q.2.2.1 q.2.2.2.1 q.2.2.2.2 "GrindWorks" ∈ lw_tbl := by decide +kernel
theorem wCa : ∀ q ∈ zCa, Cond.castable q.1 q.2 ∈ lw_tbl := by decide +kernel
theorem wDc : Cond.declares ⟨"GrindWorks$Unit", "give", "()V"⟩ ∈ lw_tbl := by decide +kernel
theorem wAO : Cond.arrayOver (.object "GrindWorks$Unit") ∈ lw_tbl := by decide +kernel
theorem wAA : Cond.arrayOver (.array .int) ∈ lw_tbl := by decide +kernel
theorem wNc : ∀ q ∈ zNc, Cond.not (.castable q.1 q.2) ∈ flatC (Jvm.Cond.and given_1 narrow_1) := by decide +kernel
theorem wT1 : ∀ k, k < 5 → Cond.arrayOf (.static "GrindWorks" (zSn k) "[I") .int ∈ flatC (Jvm.Cond.and given_1 narrow_1) := by decide +kernel
theorem wT2 : ∀ k, k < 5 → Cond.eq (.length (.static "GrindWorks" (zSn k) "[I")) (.int (Int32.ofNat 8)) ∈ flatC (Jvm.Cond.and given_1 narrow_1) := by decide +kernel
theorem wT3 : ∀ k, k < 5 → ∀ j, j < 8 → Cond.eq (.elem (.static "GrindWorks" (zSn k) "[I") (.int (Int32.ofNat j))) (.int (nI (zSv k j))) ∈ flatC (Jvm.Cond.and given_1 narrow_1) := by decide +kernel
theorem wT4 : ∀ k, k < 5 → Cond.laysStatic "GrindWorks" (zSn k) "[I" ∈ lw_tbl := by decide +kernel
theorem arr_of {s : State} {ty : FieldType} {A : Array Value} (h : (Cond.arrayClass ty).before A s = true) : ∃ cA, ArrOfT s cA ty ∧ s.vm.findClass ("[" ++ ty.toString) = some cA := by
  obtain ⟨c, k, comp, h1, h2, h3⟩ := Cond.arrayClass_spec h
  exact ⟨c, fun n z => ⟨fun k h => (by cases h), k, h2, comp, h3⟩, h1⟩
/-- all that is known at the law's entry -/
theorem zk_start {s : State} {b : Nat} (k0 : ClassId) (hts : ∀ w ∈ lw_tbl, w.before #[Value.ref b] s = true) (hgv : (Jvm.Cond.and given_1 narrow_1).before #[Value.ref b] s = true) : ∃ Ω : OmT, Ω.2.2.1 = s.heap.size ∧ Ω.2.2.2.1 = s.heap ∧ ZK Ω s := by
  have hz : ∀ w ∈ zTbl, w.before #[Value.ref b] s = true := fun w hw => hts w (zTbl_in hw)
  have hs := flat_of_before _ hgv
  obtain ⟨f, hf⟩ := Classical.axiomOfChoice (r := fun (c : Nat) (p : ClassId × (Nat → Nat)) => ∀ q, vwCl[c]? = some q → u_Kn s q.1 q.2.1 q.2.2 p.1 p.2) (fun c => by
    cases h : vwCl[c]? with
    | none => exact ⟨(k0, fun _ => 0), fun q hq => by cases hq⟩
    | some q0 =>
      obtain ⟨-, -, hin⟩ := zcls c q0 h
      obtain ⟨cC, iS, hK⟩ := u_known hz hin (hz _ (zins c q0 h))
      exact ⟨(cC, iS), fun q hq => by cases hq; exact hK⟩)
  obtain ⟨c0, a0, n0⟩ := arr_of (hz _ kw_38)
  obtain ⟨c1, a1, n1⟩ := arr_of (hz _ kw_680)
  obtain ⟨c2, a2, n2⟩ := arr_of (hz _ kw_679)
  have hAO := hts _ wAO
  have hAA := hts _ wAA
  obtain ⟨comp3, c3, k3, g1, -, g2, g3, g4⟩ := Cond.arrayOver_spec hAO
  obtain ⟨comp4, c4, k4, -, -, g5, g6, g7⟩ := arrayOverA_spec hAA
  have hT : ∀ k, k < 5 → ∃ t, (Term.static "GrindWorks" (zSn k) "[I").eval #[Value.ref b] s none [] s = some (.ref t) ∧ va_T .int t 8 (fun j => .int (nI (zSv k j))) (fun q => s.heap.size ≤ q) s s.heap := fun k hk => va_Tof (by decide) (hs _ (wT1 k hk)) (va_eqt (hs _ (wT2 k hk))) (fun j hj => va_eqt (hs _ (wT3 k hk j hj))) (fun a ha => Nat.not_le.mpr ha)
  obtain ⟨g, hg⟩ := Classical.axiomOfChoice (r := fun (k : Nat) (t : Nat) => k < 5 → (Term.static "GrindWorks" (zSn k) "[I").eval #[Value.ref b] s none [] s = some (.ref t) ∧ va_T .int t 8 (fun j => .int (nI (zSv k j))) (fun q => s.heap.size ≤ q) s s.heap) (fun k => by
    by_cases h : k < 5
    · obtain ⟨t, ht⟩ := hT k h
      exact ⟨t, fun _ => ht⟩
    · exact ⟨0, fun z => absurd z h⟩)
  refine ⟨((fun c => (f c).1, fun c => (f c).2), (fun k => match k with | 0 => c0 | 1 => c1 | 2 => c2 | 3 => c3 | _ => c4), s.heap.size, s.heap, g), rfl, rfl, ⟨fun c q hq => hf c q hq, fun k q hk => ?_⟩, fun q hq => ?_, fun q hq => ?_, fun q hq => ?_, fun q hq => va_Nc.of (hs _ (wNc q hq)), ?_, fun k hk => ⟨va_Zref (hts _ (wT4 k hk)) (hz _ kw_1) (hg k hk).1 (fun a ha => Nat.not_le.mpr ha), (hg k hk).2⟩, va_AO.of hAO, hAA, rfl⟩
  · match k, hk with
    | 0, hk => cases hk; exact ⟨a0, n0⟩
    | 1, hk => cases hk; exact ⟨a1, n1⟩
    | 2, hk => cases hk; exact ⟨a2, n2⟩
    | 3, hk => cases hk; exact ⟨fun n z => ⟨fun k h => (by cases h), k3, g2, comp3, g3⟩, k3, comp3, g2, g3, g1, g4⟩
    | 4, hk => cases hk; exact ⟨fun n z => ⟨fun k h => (by cases h), k4, g5, comp4, g6⟩, g7⟩
  · exact va_tabs rfl rfl (hts _ (wM q hq))
  · exact va_tabs rfl rfl (hts _ (wF q hq))
  · exact va_tabs rfl rfl (hts _ (wCa q hq))
  · exact va_tabs rfl rfl (hts _ wDc)
set_option maxHeartbeats 4000000 in
set_option maxRecDepth 100000 in
/-- from the entry, for every script of at most 3072 ints, the law comes to its end with true -/
theorem whole_start {p : Program} {e : Env} {s : State} {m : MethodId} {below : List Frame} {meth : Method} {c : Code} (l : Launch) {b L : Nat} {xs : Nat → Int32} (hL : L ≤ 3072) (C0 : lw_At p s m meth c b L xs) : W p l e room_1 s m #[Value.ref b] below meth c s.heap [] 0 0 (lw_Z below #[Value.ref b] s) (entryFrame m ([Value.ref b] : List Value).toArray 4) := by
  obtain ⟨hx, hb, hr, hml, hown, hts, hX0, hbl, hlocks, hgv⟩ := id C0
  obtain ⟨Ω, o1, o2, hZK⟩ := zk_start m.cls hts hgv
  obtain ⟨E, hEe⟩ : ∃ E : ZE, E = ((p, e, room_1, s), (m, #[Value.ref b], below, meth, c), 4, lw_Z below #[Value.ref b] s) := ⟨_, rfl⟩
  have hE : E.2.2.1 = 4 := by rw [hEe]
  have C : ZC Ω E code "GrindWorksLaw" ret room_1 meth.name := by
    rw [hEe]
    exact ⟨hx, hb, hml, hown, fun w hw => hts w (zTbl_in hw), hr, hlocks, rfl, rfl, hZK⟩
  have hX : SX Ω E b L xs := by
    rw [hEe]
    unfold SX
    rw [o1, o2]
    exact ⟨hX0, hbl, hL⟩
  have fin : LwF l Ω E b := by
    intro τ c' s' i hc hs H locs ls hR hLo hl
    rw [hEe]
    exact va_forget (fun q hq => by have := hLo q hq; rw [o1] at this; exact this) (W.widen hc hs (lw_ret hx hb hr hlocks dL_861))
  have K : ZV l Ω E 0 0 0 [(0, .ref b)] [] (fun _ => none) 0 := by
    refine z_new (pc := 0) (ci := 9) (fs := [.null, .null, .int 0, .int 0]) C tyX10 dL_0 rfl tyX10_ok kw_16 kw_17 kw_1 (by decide +kernel) (Nat.le_of_ble_eq_true rfl) (Nat.le_of_ble_eq_true rfl) ?_
    refine z_heap (A' := uL (fun _ => none) 0 [.inl (9, [.null, .null, .int 0, .int 0])]) (n' := 0 + 1) (uL_first (fun _ _ => rfl)) rfl ?_
    refine z_dup (pc := 3) C dL_3 rfl ?_
    refine z_callI (pc := 4) C dL_4 zy_X10_init rfl kw_18 kw_19 (ct_X10_init_0 l Ω (fun _ => none) 0) rfl rfl ⟨⟨by decide, by decide⟩, by decide, by decide⟩ (Nat.le_of_ble_eq_true rfl) ?_
    refine z_heap (A' := uL (fun _ => none) 0 (h10 Ω)) (n' := 6) rfl rfl ?_
    refine z_astore_n (pc := 7) C dL_7 (by rw [hE]; decide) ?_
    refine z_new (pc := 8) (ci := 10) (fs := [.int 0, .int 0, .int 0, .null, .null, .null, .null, .null, .null, .null, .null, .null, .null, .null, .null, .null, .null, .null, .null, .null, .null, .null, .null, .null, .null, .null, .null, .null, .null, .null]) C tyX11 dL_8 rfl tyX11_ok kw_613 kw_614 kw_3 (by decide +kernel) (Nat.le_of_ble_eq_true rfl) (Nat.le_of_ble_eq_true rfl) ?_
    refine z_heap (A' := uL (uL (fun _ => none) 0 (h10 Ω)) 6 [.inl (10, [.int 0, .int 0, .int 0, .null, .null, .null, .null, .null, .null, .null, .null, .null, .null, .null, .null, .null, .null, .null, .null, .null, .null, .null, .null, .null, .null, .null, .null, .null, .null, .null])]) (n' := 6 + 1) (st_10 Ω _) rfl ?_
    refine z_dup (pc := 11) C dL_11 rfl ?_
    refine z_callI (pc := 12) C dL_12 zy_X11_init rfl kw_615 kw_616 (ct_X11_init_0 l Ω (uL (fun _ => none) 0 (h10 Ω)) 6) rfl rfl ⟨⟨by decide, by decide⟩, by decide, by decide⟩ (Nat.le_of_ble_eq_true rfl) ?_
    refine z_heap (A' := hp Ω sg0) (n' := hN sg0) (st_hp Ω) rfl ?_
    refine z_astore_n (pc := 15) C dL_15 (by rw [hE]; decide) ?_
    refine z_iconst (pc := 16) (v := nI 0) C dL_16 (by decide) ?_
    refine z_istore_n (pc := 17) C dL_17 (by rw [hE]; decide) ?_
    refine z_pick [0, 1, 2, 3] rfl ?_
    exact lw_loop hE C hX fin 513 0 _ _ sg0 inv_0 (by omega) (by omega) (Nat.le_of_ble_eq_true rfl) (Nat.le_of_ble_eq_true rfl)
  have hl := lv_entry ([.ref b]) (n := 4) (Nat.le_of_ble_eq_true rfl)
  rw [lg_entry_eq]
  generalize (lg_sl ([.ref b]) ++ List.replicate (4 - (lg_sl ([.ref b])).length) Slot.unset).toArray = ls at hl ⊢
  have hl : lv_has ls 4 [(0, .ref b)] := hl
  have h9 := K s.heap [] ls ⟨by rw [o1]; rfl, fun q _ => by rw [o2], fun a c h => by cases h⟩ (fun x hx => by cases hx) (by rw [hE]; exact hl)
  rw [hEe] at h9
  exact h9
