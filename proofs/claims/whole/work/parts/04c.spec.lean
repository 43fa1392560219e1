/-! ===== what each call answers, in the reference's rows; k is the unit's number ===== -/
theorem upt_le (q : Nat) : upt q ≤ 2 := by unfold upt; split <;> omega
theorem ust_le (q : Nat) : ust q ≤ 4 := by unfold ust; split <;> omega
def r_lead (σ : Sg) (k : Nat) (port to : Int32) : Int32 := if ¬ isU (upt (σ.2.2.1 k)) port then -1 else if ¬ to = -1 ∧ ¬ isU σ.2.2.2 to then -1 else if ¬ to < 0 ∧ σ.2.2.1 (tn to) = 0 then -2 else σ.1 11 1 (2 * k + tn port)
def c_lead (σ : Sg) (k : Nat) (port to : Int32) : Prop := isU (upt (σ.2.2.1 k)) port ∧ (to = -1 ∨ isU σ.2.2.2 to) ∧ (to < 0 ∨ ¬ σ.2.2.1 (tn to) = 0)
def s_lead (σ : Sg) (k : Nat) (port to : Int32) : Sg := if ¬ isU (upt (σ.2.2.1 k)) port then σ else if ¬ to = -1 ∧ ¬ isU σ.2.2.2 to then σ else if ¬ to < 0 ∧ σ.2.2.1 (tn to) = 0 then σ else sI σ 11 1 (2 * k + tn port) to
def r_rate (σ : Sg) (k : Nat) (c x : Int32) : Int32 := if ¬ inR 0 7 c then -1 else if ¬ σ.2.2.1 k = 0 then -3 else if ¬ inR 0 1000 x then -2 else σ.1 11 3 (8 * k + tn c)
def s_rate (σ : Sg) (k : Nat) (c x : Int32) : Sg := if ¬ inR 0 7 c then σ else if ¬ σ.2.2.1 k = 0 then σ else if ¬ inR 0 1000 x then σ else sI σ 11 3 (8 * k + tn c) x
abbrev n_table (i a b c : Int32) : Prop := (nI 2 < i ∧ ¬ a = 0) ∨ (nI 1 < i ∧ ¬ b = 0) ∨ (0 < i ∧ ¬ c = 0)
def r_told (σ : Sg) (k : Nat) (j : Int32) : Int32 := if σ.2.2.1 k = 0 then (if inR 0 7 j then σ.1 11 3 (8 * k + tn j) else -1) else if σ.2.2.1 k = 2 then (if inR 0 15 j then σ.1 11 4 (16 * k + tn j) else -1) else if ¬ isU (ust (σ.2.2.1 k)) j then -1 else if σ.2.2.1 k = 5 then σ.1 11 7 k else if σ.2.2.1 k = 6 then σ.1 11 8 k else σ.1 11 5 (4 * k + tn j)
def r_hold (σ : Sg) (k : Nat) (c : Int32) : Int32 := if inR 0 7 c then σ.1 11 2 (8 * k + tn c) else -1
def r_control (σ : Sg) (k : Nat) (u off on : Int32) : Int32 := if ¬ isU σ.2.2.2 u then -1 else if ¬ σ.2.2.1 k = 0 then -3 else if ¬ inR 0 100000 off ∨ ¬ inR 0 100000 on ∨ ¬ on ≤ off then -2 else nI 0
def s_control (σ : Sg) (k : Nat) (u off on : Int32) : Sg := if ¬ isU σ.2.2.2 u then σ else if ¬ σ.2.2.1 k = 0 then σ else if ¬ inR 0 100000 off ∨ ¬ inR 0 100000 on ∨ ¬ on ≤ off then σ else sI (sI (sI σ 11 9 k u) 11 10 k off) 11 11 k on
def r_turn (σ : Sg) (k : Nat) (on : Int32) : Int32 := if ¬ σ.2.2.1 k = 0 then -3 else if ¬ inR 0 1 on then -2 else if σ.1 11 12 k = 0 then nI 0 else nI 1
def s_turn (σ : Sg) (k : Nat) (on : Int32) : Sg := if ¬ σ.2.2.1 k = 0 then σ else if ¬ inR 0 1 on then σ else sI σ 11 12 k (if on = nI 1 then nI 1 else nI 0)
def r_ledBack (σ : Sg) (k : Nat) (u size stuff : Int32) : Int64 := if ¬ isU σ.2.2.2 u then -9223372036854775808 else if ¬ σ.2.2.1 k = 7 then -9223372036854775808 else if ¬ inR 0 3 size then -9223372036854775808 else if ¬ inR 0 1 stuff then -9223372036854775808 else σ.2.1 21 ((10 * k + tn u) * 8 + 2 * tn size + tn stuff)
def r_reading (σ : Sg) (k : Nat) (w x d : Int32) : Int32 := if ¬ inR 0 2 w then -1 else if ¬ (¬ σ.2.2.1 k = 0 ∧ ¬ σ.2.2.1 k = 7) then -3 else if ¬ w ≤ nI (upt (σ.2.2.1 k)) then -1 else if ¬ inR 0 100000 x ∨ ¬ inR 1 100 d then -2 else nI 0
def s_reading (σ : Sg) (k : Nat) (w x d : Int32) : Sg := if ¬ inR 0 2 w then σ else if ¬ (¬ σ.2.2.1 k = 0 ∧ ¬ σ.2.2.1 k = 7) then σ else if ¬ w ≤ nI (upt (σ.2.2.1 k)) then σ else if ¬ inR 0 100000 x ∨ ¬ inR 1 100 d then σ else sI (sI σ 11 22 (3 * k + tn w) x) 11 23 (3 * k + tn w) d
def r_load (L : Nat) (w g p : Int32) : Int32 := if ¬ inR 1 1000 w ∨ ¬ inR 0 100 g ∨ ¬ inR 0 1000 p then -2 else if L = 10 then -4 else nI L
def s_load (σ : Sg) (L : Nat) (w g p : Int32) : Sg := if ¬ inR 1 1000 w ∨ ¬ inR 0 100 g ∨ ¬ inR 0 1000 p then σ else if L = 10 then σ else sI (sI (sI (sI σ 11 24 L w) 11 25 L g) 11 26 L p) 11 30 2 (nI (L + 1))
