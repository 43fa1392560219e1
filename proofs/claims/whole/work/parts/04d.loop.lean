/-! ===== loops as numbers ===== -/
def itF (f : Nat → Sg → Sg) : Nat → Sg → Sg
  | 0, σ => σ
  | k + 1, σ => f k (itF f k σ)
theorem itF_pres {f : Nat → Sg → Sg} (P : Sg → Prop) (h : ∀ c τ, P τ → P (f c τ)) {σ : Sg} (h0 : P σ) : ∀ k, P (itF f k σ)
  | 0 => h0
  | k + 1 => h k _ (itF_pres P h h0 k)
/-- the rows that f leaves alone -/
theorem itF_row {f : Nat → Sg → Sg} {α : Type} (g : Sg → α) (h : ∀ c τ, g (f c τ) = g τ) (σ : Sg) (k : Nat) : g (itF f k σ) = g σ :=
  itF_pres (fun τ => g τ = g σ) (fun c τ z => (h c τ).trans z) rfl k
theorem l_sum_congr {f g : Nat → Int32} : ∀ {k : Nat}, (∀ j, j < k → f j = g j) → l_sum f k = l_sum g k
  | 0, _ => rfl
  | k + 1, h => by
    show l_sum f k + f k = l_sum g k + g k
    rw [l_sum_congr (fun j hj => h j (by omega)), h k (by omega)]
theorem lSum_congr {f g : Nat → Int64} : ∀ {k : Nat}, (∀ j, j < k → f j = g j) → lSum f k = lSum g k
  | 0, _ => rfl
  | k + 1, h => by
    show lSum f k + f k = lSum g k + g k
    rw [lSum_congr (fun j hj => h j (by omega)), h k (by omega)]
/-- the sums of a unit, by its number -/
abbrev mHold (σ : Sg) (u : Nat) : Int32 := l_sum (fun c => σ.1 11 2 (8 * u + c)) 8
abbrev mLot (σ : Sg) (u k : Nat) : Int32 := l_sum (fun c => σ.1 11 17 ((20 * u + k) * 8 + c)) 8
abbrev mSlot (σ : Sg) (u k : Nat) : Int32 := l_sum (fun c => σ.1 11 14 ((7 * u + k) * 8 + c)) 8
abbrev mLevel (σ : Sg) (u K L : Nat) : Int32 := mHold σ u + l_sum (fun k => mSlot σ u k) K + l_sum (fun k => mLot σ u k) L
abbrev mWt (σ : Sg) (u K L c : Nat) : Int64 := (σ.1 11 2 (8 * u + c)).toInt64 + lSum (fun k => (σ.1 11 14 ((7 * u + k) * 8 + c)).toInt64) K + lSum (fun k => (σ.1 11 17 ((20 * u + k) * 8 + c)).toInt64) L
abbrev mWithin (σ : Sg) (u K L s : Nat) : Int64 := lSum (fun i => mWt σ u K L (s + 2 * i)) 4
/-- a unit begins -/
def s_unitA (σ : Sg) (u q : Nat) : Sg := sI (sI (sI (sI (sI σ 11 30 0 (nI (u + 1))) 11 0 u (nI q)) 11 1 (2 * u) (-1)) 11 1 (2 * u + 1) (-1)) 11 12 u (if q = 0 then nI 1 else nI 0)
def s_unitB (u : Nat) (i : Nat) (τ : Sg) : Sg := sI (sI τ 11 4 (16 * u + 5 * i) (nI 10)) 11 5 (4 * u + i) (nI 5)
def s_unitC (τ : Sg) (u : Nat) : Sg := sI (sI (sI τ 11 7 u (nI 1)) 11 8 u (nI 100)) 11 9 u (-1)
def s_unitD (u : Nat) (i : Nat) (τ : Sg) : Sg := sI τ 11 23 (3 * u + i) (nI 1)
def s_unit (σ : Sg) (u q : Nat) : Sg := itF (s_unitD u) 3 (s_unitC (itF (s_unitB u) 4 (s_unitA σ u q)) u)
theorem itF_n {f : Nat → Sg → Sg} (h : ∀ c τ, (f c τ).2.2 = τ.2.2) (σ : Sg) (k : Nat) : (itF f k σ).2.2 = σ.2.2 := itF_row (fun τ => τ.2.2) h σ k
def r_table (σ : Sg) (k : Nat) (i a b c : Int32) : Int32 := if ¬ inR 0 3 i then -1 else if ¬ σ.2.2.1 k = 2 then -3 else if ¬ inR 0 10 a ∨ ¬ inR 0 10 b ∨ ¬ inR 0 10 c ∨ nI 10 < a + b + c ∨ n_table i a b c then -2 else nI 0
def s_tableN (σ : Sg) (k i : Nat) (a b c : Int32) : Sg :=
  let p := sI σ 11 4 (16 * k + 4 * i + i) (nI 10 - a - b - c)
  let q := if i < 3 then sI p 11 4 (16 * k + 4 * i + i + 1) a else p
  let r := if i < 2 then sI q 11 4 (16 * k + 4 * i + i + 2) b else q
  if i < 1 then sI r 11 4 (16 * k + 4 * i + i + 3) c else r
def s_table (σ : Sg) (k : Nat) (i a b c : Int32) : Sg := if ¬ inR 0 3 i then σ else if ¬ σ.2.2.1 k = 2 then σ else if ¬ inR 0 10 a ∨ ¬ inR 0 10 b ∨ ¬ inR 0 10 c ∨ nI 10 < a + b + c ∨ n_table i a b c then σ else s_tableN σ k (tn i) a b c
def lo_set (q : Nat) : Nat := if q = 5 then 1 else 0
def hi_set (q : Nat) : Nat := if q = 5 then 6 else if q = 6 then 5000 else 10
def r_set (σ : Sg) (k : Nat) (j x : Int32) : Int32 := if ust (σ.2.2.1 k) = 0 then -3 else if ¬ isU (ust (σ.2.2.1 k)) j then -1 else if ¬ inR (lo_set (σ.2.2.1 k)) (hi_set (σ.2.2.1 k)) x then -2 else r_told σ k j
def s_set (σ : Sg) (k : Nat) (j x : Int32) : Sg := if ust (σ.2.2.1 k) = 0 then σ else if ¬ isU (ust (σ.2.2.1 k)) j then σ else if ¬ inR (lo_set (σ.2.2.1 k)) (hi_set (σ.2.2.1 k)) x then σ else if σ.2.2.1 k = 5 then sI σ 11 7 k x else if σ.2.2.1 k = 6 then sI σ 11 8 k x else sI σ 11 5 (4 * k + tn j) x
def r_count (σ : Sg) (w : Int32) : Int32 := if w = nI 0 then σ.1 11 30 0 else if w = nI 1 then σ.1 11 30 1 else if w = nI 2 then σ.1 11 30 2 else if w = nI 3 then l_sum (fun u => if σ.1 11 12 u = 0 then nI 0 else nI 1) σ.2.2.2 else -1
def r_about (σ : Sg) (k K L : Nat) (w : Int32) : Int32 := if w = nI 0 then σ.1 11 0 k else if w = nI 1 then mHold σ k else if w = nI 2 then mLevel σ k K L - mHold σ k - l_sum (fun j => mLot σ k j) L else if w = nI 3 then l_sum (fun j => mLot σ k j) L else if w = nI 4 then σ.1 11 16 k else if w = nI 5 then σ.1 11 1 (2 * k) else if w = nI 6 then σ.1 11 1 (2 * k + 1) else if w = nI 7 then (if σ.1 11 12 k = 0 then nI 0 else nI 1) else if w = nI 8 then (lSum (fun c => σ.2.1 20 (8 * k + c)) 8).toInt32 else if w = nI 9 then l_sum (fun c => σ.1 11 18 ((2 * k + 0) * 8 + c)) 8 else if w = nI 10 then l_sum (fun c => σ.1 11 18 ((2 * k + 1) * 8 + c)) 8 else -1
def r_sumU (σ : Sg) (K L : Nat → Nat) (s w u : Nat) (acc : Int64) : Int64 := if w = (if σ.2.2.1 u = 7 then 1 else 3) then acc + mWithin σ u (K u) (L u) s else acc
def r_sumT (σ : Sg) (K L : Nat → Nat) (s w : Nat) : Nat → Int64
  | 0 => 0
  | u + 1 => r_sumU σ K L s w u (if w = 2 then r_sumT σ K L s w u + lSum (fun i => σ.2.1 20 (8 * u + (s + 2 * i))) 4 else r_sumT σ K L s w u)
def r_sum (σ : Sg) (K L : Nat → Nat) (s w : Nat) : Int64 := if w = 0 then σ.2.1 19 s else r_sumT σ K L s w σ.2.2.2
