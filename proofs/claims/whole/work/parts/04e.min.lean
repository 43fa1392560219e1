/-! ===== a minute of the reference, as it is written ===== -/
def mlGo (x t : Int32) : Int32 := (x.toInt64 * t.toInt64 / 10).toInt32
def mlStep (u i s : Nat) (x : Int32) (T : Nat → Int32) (q : Nat) (τ : Sg) : Sg := sI τ 11 18 ((2 * u + 0) * 8 + (2 * (i + 1 + q) + s)) (τ.1 11 18 ((2 * u + 0) * 8 + (2 * (i + 1 + q) + s)) + mlGo x (T (i + 1 + q)))
def mlLeft (i : Nat) (x : Int32) (T : Nat → Int32) : Nat → Int32
  | 0 => x
  | q + 1 => mlLeft i x T q - mlGo x (T (i + 1 + q))
def mMill (σ : Sg) (u i s : Nat) : Sg :=
  sI (itF (mlStep u i s (σ.1 11 2 (8 * u + (2 * i + s))) (fun j => σ.1 11 4 (16 * u + 4 * i + j))) (3 - i) σ) 11 18 ((2 * u + 0) * 8 + (2 * i + s)) ((itF (mlStep u i s (σ.1 11 2 (8 * u + (2 * i + s))) (fun j => σ.1 11 4 (16 * u + 4 * i + j))) (3 - i) σ).1 11 18 ((2 * u + 0) * 8 + (2 * i + s)) + mlLeft i (σ.1 11 2 (8 * u + (2 * i + s))) (fun j => σ.1 11 4 (16 * u + 4 * i + j)) (3 - i))
def pK (σ : Sg) (u c : Nat) : Int64 := (σ.1 11 2 (8 * u + c)).toInt64 * (σ.1 11 5 (4 * u + (if σ.2.2.1 u = 3 then c / 2 else c % 2))).toInt64 + (σ.1 11 6 (8 * u + c)).toInt64
def mPart (σ : Sg) (u c : Nat) : Sg := sI (sI (sI σ 11 6 (8 * u + c) (pK σ u c - pK σ u c / 10 * 10).toInt32) 11 18 ((2 * u + 0) * 8 + c) (pK σ u c / 10).toInt32) 11 18 ((2 * u + 1) * 8 + c) (σ.1 11 2 (8 * u + c) - (pK σ u c / 10).toInt32)
def tkA (u K c : Nat) (τ : Sg) : Sg := sI τ 11 14 ((7 * u + K) * 8 + c) (τ.1 11 2 (8 * u + c))
def tkOut (u i c : Nat) (τ : Sg) : Sg := sI τ 11 18 ((2 * u + 0) * 8 + c) (τ.1 11 18 ((2 * u + 0) * 8 + c) + τ.1 11 14 ((7 * u + i) * 8 + c))
def tkMv (u i m c : Nat) (τ : Sg) : Sg := sI τ 11 14 ((7 * u + m) * 8 + c) (τ.1 11 14 ((7 * u + i) * 8 + c))
def tkS (u i : Nat) (p : Sg × Nat) : Sg × Nat := if p.1.1 11 15 (7 * u + i) + nI 1 < p.1.1 11 7 u then (sI (itF (tkMv u i p.2) 8 p.1) 11 15 (7 * u + p.2) (p.1.1 11 15 (7 * u + i) + nI 1), p.2 + 1) else (itF (tkOut u i) 8 p.1, p.2)
def tkL (u : Nat) : Nat → Sg → Sg × Nat
  | 0, σ => (σ, 0)
  | i + 1, σ => tkS u i (tkL u i σ)
def tkB (σ : Sg) (u K : Nat) : Sg := sI (sI (itF (tkA u K) 8 σ) 11 15 (7 * u + K) (nI 0)) 11 13 u (nI (K + 1))
def mTank (σ : Sg) (u K : Nat) : Sg := sI (tkL u (K + 1) (tkB σ u K)).1 11 13 u (nI (tkL u (K + 1) (tkB σ u K)).2)
theorem tkL_le (u : Nat) (σ : Sg) : ∀ i, (tkL u i σ).2 ≤ i
  | 0 => Nat.le_refl _
  | i + 1 => by
    have h := tkL_le u σ i
    show (tkS u i (tkL u i σ)).2 ≤ _
    unfold tkS
    split <;> dsimp only <;> omega
theorem tkL_13 (u : Nat) (σ : Sg) : ∀ i, (tkL u i σ).1.1 11 13 = σ.1 11 13
  | 0 => rfl
  | i + 1 => by
    have h := tkL_13 u σ i
    show (tkS u i (tkL u i σ)).1.1 11 13 = _
    unfold tkS
    split
    · dsimp only
      rw [show (sI (itF (tkMv u i (tkL u i σ).2) 8 (tkL u i σ).1) 11 15 (7 * u + (tkL u i σ).2) ((tkL u i σ).1.1 11 15 (7 * u + i) + nI 1)).1 11 13 = (itF (tkMv u i (tkL u i σ).2) 8 (tkL u i σ).1).1 11 13 from by funext j; simp [sI]]
      rw [itF_row (f := tkMv u i (tkL u i σ).2) (fun τ => τ.1 11 13) (fun c τ => by funext j; simp [tkMv, sI])]
      exact h
    · dsimp only
      rw [itF_row (f := tkOut u i) (fun τ => τ.1 11 13) (fun c τ => by funext j; simp [tkOut, sI])]
      exact h
theorem tkL_n (u : Nat) (σ : Sg) : ∀ i, (tkL u i σ).1.2.2 = σ.2.2
  | 0 => rfl
  | i + 1 => by
    have h := tkL_n u σ i
    show (tkS u i (tkL u i σ)).1.2.2 = _
    unfold tkS
    split
    · dsimp only
      rw [sI_L, itF_n (f := tkMv u i (tkL u i σ).2) (fun _ _ => rfl)]
      exact h
    · dsimp only
      rw [itF_n (f := tkOut u i) (fun _ _ => rfl)]
      exact h
def cmSp (u p c : Nat) (τ : Sg) : Sg := sL τ 20 (8 * u + c) (τ.2.1 20 (8 * u + c) + (τ.1 11 18 ((2 * u + p) * 8 + c)).toInt64)
def cmHo (u p d c : Nat) (τ : Sg) : Sg := sI τ 11 2 (8 * d + c) (τ.1 11 2 (8 * d + c) + τ.1 11 18 ((2 * u + p) * 8 + c))
def cmLd (u p d c : Nat) (τ : Sg) : Sg := sL (cmHo u p d c τ) 21 ((10 * d + u) * 8 + c) ((cmHo u p d c τ).2.1 21 ((10 * d + u) * 8 + c) + (τ.1 11 18 ((2 * u + p) * 8 + c)).toInt64)
def mCome (σ : Sg) (u p : Nat) : Sg := if σ.1 11 1 (2 * u + p) < 0 then itF (cmSp u p) 8 σ else if σ.2.2.1 (tn (σ.1 11 1 (2 * u + p))) = 7 then itF (cmLd u p (tn (σ.1 11 1 (2 * u + p)))) 8 σ else itF (cmHo u p (tn (σ.1 11 1 (2 * u + p)))) 8 σ
def plA (u k c : Nat) (τ : Sg) : Sg := sI τ 11 17 ((20 * u + k) * 8 + c) (τ.1 11 2 (8 * u + c) + τ.1 11 17 ((20 * u + k) * 8 + c))
def plB (u k c : Nat) (τ : Sg) : Sg := sI τ 11 17 ((20 * u + k) * 8 + c) (τ.1 11 2 (8 * u + c) + nI 0)
def mPut (σ : Sg) (u L : Nat) : Sg := if L = 20 then sI (itF (plA u 19) 8 σ) 11 16 u (nI 20) else sI (itF (plB u L) 8 σ) 11 16 u (nI (L + 1))
def plO (u g c : Nat) (τ : Sg) : Sg := sI τ 11 18 ((2 * u + 0) * 8 + c) (τ.1 11 18 ((2 * u + 0) * 8 + c) + τ.1 11 17 ((20 * u + g) * 8 + c))
def plW (u L : Nat) : Nat → Nat → Int64 → Sg → Nat × Sg
  | 0, g, _, τ => (g, τ)
  | f + 1, g, s, τ => if g < L ∧ ¬ (τ.1 11 8 u).toInt64 < s + (mLot τ u g).toInt64 then plW u L f (g + 1) (s + (mLot τ u g).toInt64) (itF (plO u g) 8 τ) else (g, τ)
def plM (u g k c : Nat) (τ : Sg) : Sg := sI τ 11 17 ((20 * u + k) * 8 + c) (τ.1 11 17 ((20 * u + (k + g)) * 8 + c))
def plN (u L : Nat) (p : Nat × Sg) : Sg := itF (fun k τ => itF (plM u p.1 k) 8 τ) (L - p.1) (sI p.2 11 16 u (nI (L - p.1)))
def plG (τ : Sg) (u L : Nat) : Sg := plN u L (plW u L L 0 0 τ)
def mPile (σ : Sg) (u L : Nat) : Sg := if 0 < mHold σ u then plG (mPut σ u L) u (if L = 20 then 20 else L + 1) else plG σ u L
theorem zM_n {l : Launch} {Ω : OmT} {y : MethodName} {cc : ByteArray} {nL : Nat} {ret : Option FieldType} {rm : Room} {av : List Value} {A : AHp} {n n' : Nat} {r : Option Value} {A' : AHp} (h : n = n') (hM : ZM l Ω y cc nL ret rm av A n r A' n) : ZM l Ω y cc nL ret rm av A n' r A' n' := h ▸ hM
theorem hN_eq {σ τ : Sg} (h : τ.2.2 = σ.2.2) : hN τ = hN σ := by show bs τ.2.2.1 τ.2.2.2 = bs σ.2.2.1 σ.2.2.2; rw [h]
theorem mMill_n (σ : Sg) (u i s : Nat) : (mMill σ u i s).2.2 = σ.2.2 := by
  unfold mMill
  rw [sI_L, itF_n (f := mlStep u i s (σ.1 11 2 (8 * u + (2 * i + s))) (fun j => σ.1 11 4 (16 * u + 4 * i + j))) (fun _ _ => rfl)]
theorem mTank_n (σ : Sg) (u K : Nat) : (mTank σ u K).2.2 = σ.2.2 := by
  unfold mTank
  rw [sI_L, tkL_n]
  exact itF_n (f := tkA u K) (fun _ _ => rfl) σ 8
theorem plW_n (u L : Nat) : ∀ (f g : Nat) (s : Int64) (τ : Sg), (plW u L f g s τ).2.2.2 = τ.2.2
  | 0, _, _, _ => rfl
  | f + 1, g, s, τ => by
    unfold plW
    split
    · rw [plW_n u L f]
      exact itF_n (f := plO u g) (fun _ _ => rfl) τ 8
    · rfl
theorem plN_n (u L : Nat) (p : Nat × Sg) : (plN u L p).2.2 = p.2.2.2 := by
  unfold plN
  rw [itF_n (f := fun k τ => itF (plM u p.1 k) 8 τ) (fun c τ => itF_n (f := plM u p.1 c) (fun _ _ => rfl) τ 8)]
  rfl
theorem mPile_n (σ : Sg) (u L : Nat) : (mPile σ u L).2.2 = σ.2.2 := by
  unfold mPile plG
  split
  · rw [plN_n, plW_n]
    unfold mPut
    split
    · exact itF_n (f := plA u 19) (fun _ _ => rfl) σ 8
    · exact itF_n (f := plB u L) (fun _ _ => rfl) σ 8
  · rw [plN_n, plW_n]
def fdStep (u c : Nat) (τ : Sg) : Sg := sL (sI τ 11 18 ((2 * u + 0) * 8 + c) (τ.1 11 3 (8 * u + c))) 19 (c % 2) ((sI τ 11 18 ((2 * u + 0) * 8 + c) (τ.1 11 3 (8 * u + c))).2.1 19 (c % 2) + ((sI τ 11 18 ((2 * u + 0) * 8 + c) (τ.1 11 3 (8 * u + c))).1 11 3 (8 * u + c)).toInt64)
def joStep (u c : Nat) (τ : Sg) : Sg := sI τ 11 18 ((2 * u + 0) * 8 + c) (τ.1 11 2 (8 * u + c))
def mGive (σ : Sg) (u : Nat) : Sg := match σ.2.2.1 u with
  | 0 => if σ.1 11 12 u = 0 then σ else itF (fdStep u) 8 σ
  | 1 => itF (joStep u) 8 σ
  | 2 => itF (fun c τ => mMill τ u (c / 2) (c % 2)) 8 σ
  | 3 => itF (fun c τ => mPart τ u c) 8 σ
  | 4 => itF (fun c τ => mPart τ u c) 8 σ
  | 5 => mTank σ u (tn (σ.1 11 13 u))
  | 6 => mPile σ u (tn (σ.1 11 16 u))
  | _ => σ
theorem mGive_n (σ : Sg) (u : Nat) : (mGive σ u).2.2 = σ.2.2 := by
  unfold mGive
  split
  · split
    · rfl
    · exact itF_n (f := fdStep u) (fun _ _ => rfl) σ 8
  · exact itF_n (f := joStep u) (fun _ _ => rfl) σ 8
  · exact itF_n (f := fun c τ => mMill τ u (c / 2) (c % 2)) (fun c τ => mMill_n τ u (c / 2) (c % 2)) σ 8
  · exact itF_n (f := fun c τ => mPart τ u c) (fun _ _ => rfl) σ 8
  · exact itF_n (f := fun c τ => mPart τ u c) (fun _ _ => rfl) σ 8
  · exact mTank_n σ u _
  · exact mPile_n σ u _
  · rfl
/-- the rest of a minute -/
def mZero (σ : Sg) (u : Nat) : Sg := if σ.2.2.1 u = 7 then σ else itF (fun c τ => sI τ 11 2 (8 * u + c) (nI 0)) 8 σ
def mCtl (σ : Sg) (f : Nat) : Sg := if ¬ σ.2.2.1 f = 0 then σ else if σ.1 11 9 f < 0 then σ else
  sI σ 11 12 f (if mLevel σ (tn (σ.1 11 9 f)) (tn (σ.1 11 13 (tn (σ.1 11 9 f)))) (tn (σ.1 11 16 (tn (σ.1 11 9 f)))) ≤ σ.1 11 10 f ∧ (mLevel σ (tn (σ.1 11 9 f)) (tn (σ.1 11 13 (tn (σ.1 11 9 f)))) (tn (σ.1 11 16 (tn (σ.1 11 9 f)))) < σ.1 11 11 f ∨ ¬ σ.1 11 12 f = 0) then nI 1 else nI 0)
def mA (σ : Sg) : Sg := itF (fun k τ => sI τ 11 18 k (nI 0)) 160 σ
def mB (σ : Sg) : Sg := itF (fun u τ => mGive τ u) σ.2.2.2 σ
def mC (σ : Sg) : Sg := itF (fun u τ => mZero τ u) σ.2.2.2 σ
def mD (σ : Sg) : Sg := itF (fun u τ => itF (fun p τ => mCome τ u p) (upt (σ.2.2.1 u)) τ) σ.2.2.2 σ
def mE (σ : Sg) : Sg := itF (fun f τ => mCtl τ f) σ.2.2.2 σ
def mMinute (σ : Sg) : Sg := sI (mE (mD (mC (mB (mA σ))))) 11 30 1 ((mE (mD (mC (mB (mA σ))))).1 11 30 1 + nI 1)
theorem mZero_n (σ : Sg) (u : Nat) : (mZero σ u).2.2 = σ.2.2 := by
  unfold mZero; split
  · rfl
  · exact itF_n (f := fun c τ => sI τ 11 2 (8 * u + c) (nI 0)) (fun _ _ => rfl) σ 8
theorem mCome_n (σ : Sg) (u p : Nat) : (mCome σ u p).2.2 = σ.2.2 := by
  unfold mCome; split
  · exact itF_n (f := cmSp u p) (fun _ _ => rfl) σ 8
  · split
    · exact itF_n (f := cmLd u p _) (fun _ _ => rfl) σ 8
    · exact itF_n (f := cmHo u p _) (fun _ _ => rfl) σ 8
theorem mCtl_n (σ : Sg) (f : Nat) : (mCtl σ f).2.2 = σ.2.2 := by
  unfold mCtl; split
  · rfl
  · split <;> rfl
/-- what a minute needs: places of what is led, what controls, how many slots and lots -/
def MG (σ : Sg) : Prop := MW σ ∧ (∀ u, u < σ.2.2.2 → (∃ K, K ≤ 6 ∧ σ.1 11 13 u = nI K) ∧ (∃ L, L ≤ 20 ∧ σ.1 11 16 u = nI L) ∧ (∀ p, p < 2 → σ.1 11 1 (2 * u + p) < 0 ∨ ∃ d, d < σ.2.2.2 ∧ σ.1 11 1 (2 * u + p) = nI d) ∧ (σ.1 11 9 u < 0 ∨ ∃ d, d < σ.2.2.2 ∧ σ.1 11 9 u = nI d))
