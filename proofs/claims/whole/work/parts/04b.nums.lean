/-! ===== numbers ===== -/
abbrev isU (N : Nat) (u : Int32) : Prop := nI 0 ≤ u ∧ u ≤ nI N - nI 1
theorem isU_of {N : Nat} {u : Int32} (hN : N < 1073741824) (h : isU N u) : ∃ k, k < N ∧ u = nI k := by
  obtain ⟨h1, h2⟩ := h
  have h0 : ¬ u < 0 := Int32.not_lt.mpr h1
  obtain ⟨j, hj, rfl⟩ := nI_of h0
  refine ⟨j, ?_, rfl⟩
  have e := Int32.le_iff_toInt_le.mp h2
  rw [pk_sub_toInt hN (by decide), nI_toInt hj] at e
  omega
theorem isU_nI {N k : Nat} (hN : N < 1073741824) (h : k < N) : isU N (nI k) := by
  refine ⟨nI_le (Nat.zero_le _) (by omega), Int32.le_iff_toInt_le.mpr ?_⟩
  rw [pk_sub_toInt hN (by decide), nI_toInt (by omega)]
  omega
theorem isU_nI_iff {N k : Nat} (hN : N < 1073741824) (hk : k < 2147483648) : isU N (nI k) ↔ k < N := by
  constructor
  · intro h
    obtain ⟨j, hj, e⟩ := isU_of hN h
    have := (nI_eq hk (by omega)).mp e
    omega
  · exact isU_nI hN
abbrev inR (a b : Nat) (x : Int32) : Prop := nI a ≤ x ∧ x ≤ nI b
theorem inR_of {a b : Nat} {x : Int32} (ha : a < 2147483648) (hb : b < 2147483648) (h : inR a b x) : ∃ k, a ≤ k ∧ k ≤ b ∧ x = nI k := by
  obtain ⟨h1, h2⟩ := h
  have h0 : ¬ x < 0 := by
    intro z
    have e1 := Int32.le_iff_toInt_le.mp h1
    have e2 := Int32.lt_iff_toInt_lt.mp z
    rw [nI_toInt ha] at e1
    have : (0 : Int32).toInt = 0 := by decide
    omega
  obtain ⟨j, hj, rfl⟩ := nI_of h0
  exact ⟨j, (nI_leI ha hj).mp h1, (nI_leI hj hb).mp h2, rfl⟩
theorem inR_nI {a b k : Nat} (h1 : a ≤ k) (h2 : k ≤ b) (hb : b < 2147483648) : inR a b (nI k) := ⟨nI_le h1 (by omega), nI_le h2 hb⟩
abbrev tn (x : Int32) : Nat := x.toNatClampNeg
theorem tn_nI {k : Nat} (h : k < 2147483648) : tn (nI k) = k := nI_clamp h
/-- what the reference's rows keep -/
def MW (σ : Sg) : Prop := σ.2.2.2 ≤ 10 ∧ σ.1 11 30 0 = nI σ.2.2.2 ∧ ∀ u, u < σ.2.2.2 → σ.1 11 0 u = nI (σ.2.2.1 u) ∧ σ.2.2.1 u < 8
theorem upt_1 {q : Nat} (h7 : ¬ q = 7) (h3 : ¬ q = 3) (h4 : ¬ q = 4) : upt q = 1 := by
  unfold upt; split <;> simp_all
/-- how many things can be set -/
def ust (κ : Nat) : Nat := match κ with
  | 3 => 4
  | 4 => 2
  | 5 => 1
  | 6 => 1
  | _ => 0
theorem ust_0 {q : Nat} (h3 : ¬ q = 3) (h4 : ¬ q = 4) (h5 : ¬ q = 5) (h6 : ¬ q = 6) : ust q = 0 := by
  unfold ust; split <;> simp_all
def lSum (b : Nat → Int64) : Nat → Int64
  | 0 => 0
  | k + 1 => lSum b k + b k
theorem sw_out {w : Int32} (m : Nat) (hm : m < 2147483648) (h : ∀ j, j ≤ m → ¬ w = nI j) : w.toInt < 0 ∨ (m : Int) < w.toInt := by
  by_cases h0 : w < 0
  · left
    have e := Int32.lt_iff_toInt_lt.mp h0
    have : (0 : Int32).toInt = 0 := by decide
    omega
  · right
    obtain ⟨j, hj, rfl⟩ := nI_of h0
    rw [nI_toInt hj]
    by_cases hjm : j ≤ m
    · exact absurd rfl (h j hjm)
    · omega
theorem nI_inj {a b : Nat} (ha : a < 2147483648) (hb : b < 2147483648) (h : nI a = nI b) : a = b := (nI_eq ha hb).mp h
section ZVN
variable {l : Launch} {Ω : OmT} {E : ZE} {cells slots pc n : Nat} {lv : List (Nat × Value)} {st : List Value} {A : AHp} {cc : ByteArray} {own : String} {ret : Option FieldType} {rm : Room} {nm : String}
theorem z_icmp_eqX (C : ZC Ω E cc own ret rm nm) {a b : Nat} {off : Int} {tgt : Nat} (hd : decode cc pc = .ok (.if_icmp .eq off, 3)) (ht : (pc : Int) + off = (tgt : Int)) (ha : a < 2147483648) (hb : b < 2147483648) (kt : a = b → ZV l Ω E cells slots tgt lv st A n) (kf : ¬ a = b → ZV l Ω E cells slots (pc + 3) lv st A n) : ZV l Ω E cells slots pc lv (.int (nI b) :: .int (nI a) :: st) A n :=
  z_icmp_eq C hd ht (fun h => kt ((nI_eq ha hb).mp h)) (fun h => kf (fun z => h ((nI_eq ha hb).mpr z)))
theorem z_icmp_neX (C : ZC Ω E cc own ret rm nm) {a b : Nat} {off : Int} {tgt : Nat} (hd : decode cc pc = .ok (.if_icmp .ne off, 3)) (ht : (pc : Int) + off = (tgt : Int)) (ha : a < 2147483648) (hb : b < 2147483648) (kt : ¬ a = b → ZV l Ω E cells slots tgt lv st A n) (kf : a = b → ZV l Ω E cells slots (pc + 3) lv st A n) : ZV l Ω E cells slots pc lv (.int (nI b) :: .int (nI a) :: st) A n :=
  z_icmp_ne C hd ht (fun h => kt (fun z => h ((nI_eq ha hb).mpr z))) (fun h => kf ((nI_eq ha hb).mp h))
theorem z_if_eqX (C : ZC Ω E cc own ret rm nm) {a : Nat} {off : Int} {tgt : Nat} (hd : decode cc pc = .ok (.ifCond .eq off, 3)) (ht : (pc : Int) + off = (tgt : Int)) (ha : a < 2147483648) (kt : a = 0 → ZV l Ω E cells slots tgt lv st A n) (kf : ¬ a = 0 → ZV l Ω E cells slots (pc + 3) lv st A n) : ZV l Ω E cells slots pc lv (.int (nI a) :: st) A n :=
  z_if_eq C hd ht (fun h => kt (Decidable.byContradiction fun z => nI_ne0 (Nat.pos_of_ne_zero z) ha h)) (fun h => kf (fun z => h (by rw [z]; rfl)))
theorem z_if_neX (C : ZC Ω E cc own ret rm nm) {a : Nat} {off : Int} {tgt : Nat} (hd : decode cc pc = .ok (.ifCond .ne off, 3)) (ht : (pc : Int) + off = (tgt : Int)) (ha : a < 2147483648) (kt : ¬ a = 0 → ZV l Ω E cells slots tgt lv st A n) (kf : a = 0 → ZV l Ω E cells slots (pc + 3) lv st A n) : ZV l Ω E cells slots pc lv (.int (nI a) :: st) A n :=
  z_if_ne C hd ht (fun h => kt (fun z => h (by rw [z]; rfl))) (fun h => kf (Decidable.byContradiction fun z => nI_ne0 (Nat.pos_of_ne_zero z) ha h))
theorem z_putfI (C : ZC Ω E cc own ret rm nm) {idx ci k0 a : Nat} {fs : List Value} {x : Int32} {A' : AHp} (hd : decode cc pc = .ok (.putfield idx, 3)) (hF : ZFp own idx ci k0 .int) (ha : A a = some (.inl (ci, fs))) (hl0 : k0 < fs.length) (hA : aup A a (.inl (ci, fs.set k0 (.int x))) = A') (kk : ZV l Ω E cells slots (pc + 3) lv st A' n) : ZV l Ω E cells slots pc lv (.int x :: .ref (Ω.2.2.1 + a) :: st) A n :=
  z_putf C hd hF ha hl0 rfl rfl rfl hA kk
end ZVN
