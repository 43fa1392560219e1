theorem mMinute_n (σ : Sg) : (mMinute σ).2.2 = σ.2.2 := by
  unfold mMinute
  rw [sI_L]
  have hA : (mA σ).2.2 = σ.2.2 := (fr_mA σ).2
  have hB : (mB (mA σ)).2.2 = σ.2.2 := ((fr_mB (mA σ) _).2).trans hA
  have hC : (mC (mB (mA σ))).2.2 = σ.2.2 := ((fr_mC (mB (mA σ)) _).2).trans hB
  have hD : (mD (mC (mB (mA σ)))).2.2 = σ.2.2 := ((fr_mD (mC (mB (mA σ))) _ _).2).trans hC
  exact ((fr_mE (mD (mC (mB (mA σ)))) _).2).trans hD
def itM (k : Nat) (σ : Sg) : Sg := itF (fun _ τ => mMinute τ) k σ
theorem itM_n (k : Nat) (σ : Sg) : (itM k σ).2.2 = σ.2.2 := itF_n (f := fun _ τ => mMinute τ) (fun _ τ => mMinute_n τ) σ k
/-! closing -/
def clAll (σ : Sg) (u : Nat) : Nat → Int64 := lSum (fun k => (σ.1 11 23 (3 * u + k)).toInt64)
def clW (σ : Sg) (u : Nat) : Nat → Int64
  | 0 => (σ.1 11 22 (3 * u)).toInt64
  | k + 1 => clW σ u k - (if k = 0 then 0 else (σ.1 11 22 (3 * u + k)).toInt64)
def clUp (σ : Sg) (u w : Nat) (P : Nat) : Int64 := (σ.1 11 22 (3 * u + w)).toInt64 * clAll σ u (P + 1) + (if w = 0 then -1 else 1) * (σ.1 11 23 (3 * u + w)).toInt64 * clW σ u (P + 1)
/-! blends -/
theorem sh_1 : ∀ L : Nat, L < 11 → nI 1 <<< (nI L &&& 31) = nI (2 ^ L) := by decide +kernel
theorem sh_s : ∀ k : Nat, k < 11 → ((nI k &&& 31).toBitVec.smod 32).toNat = k := by decide +kernel
theorem bit_k {s k : Nat} (hs : s < 2147483648) (hk : k < 11) : (nI s >>> (nI k &&& 31)) &&& nI 1 = nI (s / 2 ^ k % 2) := by
  rw [pk_shrN hs _ k (sh_s k hk), pk_andN (Nat.lt_of_le_of_lt (Nat.div_le_self _ _) (by omega)) 1 (by decide)]
def blW (f : Nat → Int32) (s : Nat) : Nat → Int32
  | 0 => nI 0
  | k + 1 => if s / 2 ^ k % 2 = 0 then blW f s k else blW f s k + f k
abbrev blw (σ : Sg) (L s : Nat) : Int32 := blW (σ.1 11 24) s L
abbrev blg (σ : Sg) (L s : Nat) : Int32 := blW (fun k => σ.1 11 25 k * σ.1 11 24 k) s L
abbrev blp (σ : Sg) (L s : Nat) : Int32 := blW (σ.1 11 26) s L
def blOk (σ : Sg) (L : Nat) (lo hi g : Int32) (s : Nat) : Prop := ¬ blw σ L s < lo ∧ ¬ hi < blw σ L s ∧ ¬ blg σ L s < g * blw σ L s
def blS (σ : Sg) (L : Nat) (lo hi g : Int32) : Nat → Int32 × Int32
  | 0 => (-1, nI 0)
  | s + 1 => if blw σ L s < lo then blS σ L lo hi g s else if hi < blw σ L s then blS σ L lo hi g s else if blg σ L s < g * blw σ L s then blS σ L lo hi g s else if (blS σ L lo hi g s).1 = -1 then (nI s, blp σ L s) else if blp σ L s < (blS σ L lo hi g s).2 then (nI s, blp σ L s) else blS σ L lo hi g s
def r_blend (σ : Sg) (L : Nat) (lo hi g : Int32) : Int32 := if lo < 0 then -2 else if hi < lo then -2 else if ¬ inR 0 100 g then -2 else (blS σ L lo hi g (2 ^ L)).1
