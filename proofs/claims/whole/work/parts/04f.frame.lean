/-! ===== which rows a step may change ===== -/
def FrM (S : Nat → Nat → Prop) (σ τ : Sg) : Prop := (∀ s a j, ¬ (s = 11 ∧ S a j) → τ.1 s a j = σ.1 s a j) ∧ τ.2.2 = σ.2.2
theorem FrM.rf {S : Nat → Nat → Prop} {σ : Sg} : FrM S σ σ := ⟨fun _ _ _ _ => rfl, rfl⟩
theorem FrM.tr {S : Nat → Nat → Prop} {σ τ ρ : Sg} (h1 : FrM S σ τ) (h2 : FrM S τ ρ) : FrM S σ ρ := ⟨fun s a j h => (h2.1 s a j h).trans (h1.1 s a j h), h2.2.trans h1.2⟩
theorem FrM.mono {S S' : Nat → Nat → Prop} {σ τ : Sg} (h : FrM S σ τ) (hs : ∀ a j, S a j → S' a j) : FrM S' σ τ := ⟨fun s a j z => h.1 s a j (fun q => z ⟨q.1, hs a j q.2⟩), h.2⟩
theorem FrM.sI {S : Nat → Nat → Prop} {σ τ : Sg} {a j : Nat} {x : Int32} (h : FrM S σ τ) (hs : S a j) : FrM S σ (sI τ 11 a j x) := by
  refine ⟨fun s a' j' z => ?_, h.2⟩
  rw [sI_I, if_neg (fun q => z ⟨q.1, by rw [q.2.1, q.2.2]; exact hs⟩)]
  exact h.1 s a' j' z
theorem FrM.sL {S : Nat → Nat → Prop} {σ τ : Sg} {a j : Nat} {x : Int64} (h : FrM S σ τ) : FrM S σ (sL τ a j x) := h
theorem FrM.it {S : Nat → Nat → Prop} {f : Nat → Sg → Sg} {σ : Sg} : ∀ {k : Nat}, (∀ c τ, c < k → FrM S τ (f c τ)) → FrM S σ (itF f k σ)
  | 0, _ => FrM.rf
  | k + 1, h => (FrM.it (fun c τ hc => h c τ (by omega))).tr (h k _ (by omega))
/-- the rows of what is given, and of tenths left over; of slots; of lots -/
def oS (a _j : Nat) : Prop := a = 18 ∨ a = 6
def tS (u a j : Nat) : Prop := a = 18 ∨ a = 14 ∨ a = 15 ∨ (a = 13 ∧ j = u)
def pS (u a j : Nat) : Prop := a = 18 ∨ a = 17 ∨ (a = 16 ∧ j = u)
def gS (u a j : Nat) : Prop := oS a j ∨ tS u a j ∨ pS u a j
theorem fr_mMill (σ : Sg) (u i s : Nat) : FrM oS σ (mMill σ u i s) := by
  unfold mMill
  exact (FrM.it (fun c τ _ => FrM.rf.sI (Or.inl rfl))).sI (Or.inl rfl)
theorem fr_mPart (σ : Sg) (u c : Nat) : FrM oS σ (mPart σ u c) := by
  unfold mPart
  exact ((FrM.rf.sI (Or.inr rfl)).sI (Or.inl rfl)).sI (Or.inl rfl)
theorem fr_tkL (u : Nat) (σ : Sg) : ∀ i, FrM (tS u) σ (tkL u i σ).1
  | 0 => FrM.rf
  | i + 1 => by
    refine (fr_tkL u σ i).tr ?_
    show FrM (tS u) _ (tkS u i (tkL u i σ)).1
    unfold tkS
    split
    · exact (FrM.it (fun c τ _ => FrM.rf.sI (Or.inr (Or.inl rfl)))).sI (Or.inr (Or.inr (Or.inl rfl)))
    · exact FrM.it (fun c τ _ => FrM.rf.sI (Or.inl rfl))
theorem tS13 (u : Nat) : tS u 13 u := Or.inr (Or.inr (Or.inr ⟨rfl, rfl⟩))
theorem pS16 (u : Nat) : pS u 16 u := Or.inr (Or.inr ⟨rfl, rfl⟩)
theorem fr_mTank (σ : Sg) (u K : Nat) : FrM (tS u) σ (mTank σ u K) := by
  unfold mTank
  refine FrM.sI (FrM.tr ?_ (fr_tkL u (tkB σ u K) (K + 1))) (tS13 u)
  unfold tkB
  exact ((FrM.it (fun c τ _ => FrM.rf.sI (Or.inr (Or.inl rfl)))).sI (Or.inr (Or.inr (Or.inl rfl)))).sI (tS13 u)
theorem fr_plW (u L : Nat) : ∀ (f g : Nat) (s : Int64) (τ : Sg), FrM (pS u) τ (plW u L f g s τ).2
  | 0, _, _, _ => FrM.rf
  | f + 1, g, s, τ => by
    unfold plW
    split
    · exact (FrM.it (fun c τ _ => FrM.rf.sI (Or.inl rfl))).tr (fr_plW u L f _ _ _)
    · exact FrM.rf
theorem fr_plG (τ : Sg) (u L : Nat) : FrM (pS u) τ (plG τ u L) := by
  unfold plG plN
  exact ((fr_plW u L L 0 0 τ).sI (pS16 u)).tr (FrM.it (fun c τ _ => FrM.it (fun c τ _ => FrM.rf.sI (Or.inr (Or.inl rfl)))))
theorem fr_mPile (σ : Sg) (u L : Nat) : FrM (pS u) σ (mPile σ u L) := by
  unfold mPile
  split
  · refine FrM.tr ?_ (fr_plG _ u _)
    unfold mPut
    split
    · exact (FrM.it (fun c τ _ => FrM.rf.sI (Or.inr (Or.inl rfl)))).sI (pS16 u)
    · exact (FrM.it (fun c τ _ => FrM.rf.sI (Or.inr (Or.inl rfl)))).sI (pS16 u)
  · exact fr_plG σ u L
theorem fr_mGive_o (σ : Sg) (u : Nat) (h5 : ¬ σ.2.2.1 u = 5) (h6 : ¬ σ.2.2.1 u = 6) : FrM oS σ (mGive σ u) := by
  unfold mGive
  split
  · split
    · exact FrM.rf
    · exact FrM.it (fun c τ _ => (FrM.rf.sI (Or.inl rfl)).sL)
  · exact FrM.it (fun c τ _ => FrM.rf.sI (Or.inl rfl))
  · exact FrM.it (fun c τ _ => fr_mMill τ u _ _)
  · exact FrM.it (fun c τ _ => fr_mPart τ u c)
  · exact FrM.it (fun c τ _ => fr_mPart τ u c)
  · next h => exact absurd h h5
  · next h => exact absurd h h6
  · exact FrM.rf
theorem mGive_5 {σ : Sg} {u : Nat} (h : σ.2.2.1 u = 5) : mGive σ u = mTank σ u (tn (σ.1 11 13 u)) := by simp only [mGive, h]
theorem mGive_6 {σ : Sg} {u : Nat} (h : σ.2.2.1 u = 6) : mGive σ u = mPile σ u (tn (σ.1 11 16 u)) := by simp only [mGive, h]
theorem fr_mGive (σ : Sg) (u : Nat) : FrM (gS u) σ (mGive σ u) := by
  by_cases h5 : σ.2.2.1 u = 5
  · rw [mGive_5 h5]
    exact (fr_mTank σ u _).mono (fun a j h => Or.inr (Or.inl h))
  · by_cases h6 : σ.2.2.1 u = 6
    · rw [mGive_6 h6]
      exact (fr_mPile σ u _).mono (fun a j h => Or.inr (Or.inr h))
    · exact (fr_mGive_o σ u h5 h6).mono (fun a j h => Or.inl h)
theorem fr_mZero (σ : Sg) (u : Nat) : FrM (fun a _ => a = 2) σ (mZero σ u) := by
  unfold mZero
  split
  · exact FrM.rf
  · exact FrM.it (fun c τ _ => FrM.rf.sI rfl)
theorem fr_mCome (σ : Sg) (u p : Nat) : FrM (fun a _ => a = 2) σ (mCome σ u p) := by
  unfold mCome
  split
  · exact FrM.it (fun c τ _ => FrM.rf.sL)
  · split
    · exact FrM.it (fun c τ _ => FrM.sL (FrM.sI (S := fun a _ => a = 2) FrM.rf rfl))
    · exact FrM.it (fun c τ _ => FrM.rf.sI rfl)
theorem fr_mCtl (σ : Sg) (f : Nat) : FrM (fun a _ => a = 12) σ (mCtl σ f) := by
  unfold mCtl
  split
  · exact FrM.rf
  · split
    · exact FrM.rf
    · exact FrM.rf.sI rfl
/-- how many slots and lots there are behind it -/
theorem plN_16 (u L : Nat) (p : Nat × Sg) : (plN u L p).1 11 16 u = nI (L - p.1) := by
  unfold plN
  have h := itF_row (f := fun k τ => itF (plM u p.1 k) 8 τ) (fun τ => τ.1 11 16) (fun c τ => itF_row (f := plM u p.1 c) (fun τ => τ.1 11 16) (fun c τ => by funext j; simp [plM, sI]) τ 8) (sI p.2 11 16 u (nI (L - p.1))) (L - p.1)
  rw [show (itF (fun k τ => itF (plM u p.1 k) 8 τ) (L - p.1) (sI p.2 11 16 u (nI (L - p.1)))).1 11 16 = (sI p.2 11 16 u (nI (L - p.1))).1 11 16 from h]
  simp [sI]
theorem mGive_16 (σ : Sg) (u : Nat) (h : ∃ L, L ≤ 20 ∧ σ.1 11 16 u = nI L) : ∃ L, L ≤ 20 ∧ (mGive σ u).1 11 16 u = nI L := by
  obtain ⟨L, hL, eL⟩ := h
  by_cases h6 : σ.2.2.1 u = 6
  · rw [mGive_6 h6, eL, tn_nI (by omega)]
    unfold mPile plG
    split
    · refine ⟨_, ?_, plN_16 u _ _⟩
      split <;> omega
    · exact ⟨_, by omega, plN_16 u _ _⟩
  · refine ⟨L, hL, ?_⟩
    by_cases h5 : σ.2.2.1 u = 5
    · rw [mGive_5 h5, (fr_mTank σ u _).1 11 16 u (by unfold tS; omega)]
      exact eL
    · rw [(fr_mGive_o σ u h5 h6).1 11 16 u (by unfold oS; omega)]
      exact eL
theorem mGive_13 (σ : Sg) (u : Nat) (h : ∃ K, K ≤ 6 ∧ σ.1 11 13 u = nI K) : ∃ K, K ≤ 7 ∧ (mGive σ u).1 11 13 u = nI K := by
  obtain ⟨K, hK, eK⟩ := h
  by_cases h5 : σ.2.2.1 u = 5
  · rw [mGive_5 h5, eK, tn_nI (by omega)]
    have h := tkL_le u (tkB σ u K) (K + 1)
    exact ⟨(tkL u (K + 1) (tkB σ u K)).2, by omega, by unfold mTank; simp [sI]⟩
  · refine ⟨K, by omega, ?_⟩
    by_cases h6 : σ.2.2.1 u = 6
    · rw [mGive_6 h6, (fr_mPile σ u _).1 11 13 u (by unfold pS; omega)]
      exact eK
    · rw [(fr_mGive_o σ u h5 h6).1 11 13 u (by unfold oS; omega)]
      exact eK
theorem MW.fr {S : Nat → Nat → Prop} {σ τ : Sg} (h : MW σ) (f : FrM S σ τ) (h0 : ∀ j, ¬ S 0 j) (h30 : ∀ j, ¬ S 30 j) : MW τ := by
  refine ⟨by rw [f.2]; exact h.1, ?_, fun u hu => ?_⟩
  · rw [f.1 11 30 0 (fun z => h30 0 z.2), f.2]; exact h.2.1
  · rw [f.2] at hu ⊢
    rw [f.1 11 0 u (fun z => h0 u z.2)]
    exact h.2.2 u hu
theorem fr_mA (σ : Sg) : FrM (fun a _ => a = 18) σ (mA σ) := FrM.it (fun c τ _ => FrM.rf.sI rfl)
/-- after the units below u have given -/
def bS (u a j : Nat) : Prop := a = 18 ∨ a = 6 ∨ a = 14 ∨ a = 15 ∨ a = 17 ∨ ((a = 13 ∨ a = 16) ∧ j < u)
theorem gS_b {u a j : Nat} (h : gS u a j) : bS (u + 1) a j := by
  unfold gS oS tS pS at h
  unfold bS
  omega
theorem fr_mB (σ : Sg) : ∀ u, FrM (bS u) σ (itF (fun u τ => mGive τ u) u σ)
  | 0 => FrM.rf
  | u + 1 => ((fr_mB σ u).mono (fun a j h => by unfold bS at *; omega)).tr ((fr_mGive _ u).mono (fun a j h => gS_b h))
theorem mB_cnt (σ : Sg) (hK : ∀ u, u < σ.2.2.2 → (∃ K, K ≤ 6 ∧ σ.1 11 13 u = nI K) ∧ ∃ L, L ≤ 20 ∧ σ.1 11 16 u = nI L) : ∀ v, v ≤ σ.2.2.2 → ∀ u, u < v → (∃ K, K ≤ 7 ∧ (itF (fun u τ => mGive τ u) v σ).1 11 13 u = nI K) ∧ ∃ L, L ≤ 20 ∧ (itF (fun u τ => mGive τ u) v σ).1 11 16 u = nI L
  | 0, _, u, h => absurd h (by omega)
  | v + 1, hv, u, h => by
    have fr := fr_mGive (itF (fun u τ => mGive τ u) v σ) v
    have fb := fr_mB σ v
    show (∃ K, K ≤ 7 ∧ (mGive (itF (fun u τ => mGive τ u) v σ) v).1 11 13 u = nI K) ∧ ∃ L, L ≤ 20 ∧ (mGive (itF (fun u τ => mGive τ u) v σ) v).1 11 16 u = nI L
    rcases Nat.lt_or_ge u v with h1 | h1
    · obtain ⟨a, b⟩ := mB_cnt σ hK v (by omega) u h1
      rw [fr.1 11 13 u (by unfold gS oS tS pS; omega), fr.1 11 16 u (by unfold gS oS tS pS; omega)]
      exact ⟨a, b⟩
    · obtain rfl : u = v := by omega
      obtain ⟨⟨K, k1, k2⟩, ⟨L, l1, l2⟩⟩ := hK u (by omega)
      exact ⟨mGive_13 _ u ⟨K, k1, by rw [fb.1 11 13 u (by unfold bS; omega)]; exact k2⟩, mGive_16 _ u ⟨L, l1, by rw [fb.1 11 16 u (by unfold bS; omega)]; exact l2⟩⟩
theorem fr_mC (σ : Sg) (k : Nat) : FrM (fun a _ => a = 2) σ (itF (fun u τ => mZero τ u) k σ) := FrM.it (fun c τ _ => fr_mZero τ c)
theorem fr_mDi (σ : Sg) (u k : Nat) : FrM (fun a _ => a = 2) σ (itF (fun p τ => mCome τ u p) k σ) := FrM.it (fun c τ _ => fr_mCome τ u c)
theorem fr_mD (σ : Sg) (κ : Nat → Nat) (k : Nat) : FrM (fun a _ => a = 2) σ (itF (fun u τ => itF (fun p τ => mCome τ u p) (upt (κ u)) τ) k σ) := FrM.it (fun c τ _ => fr_mDi τ c _)
theorem fr_mE (σ : Sg) (k : Nat) : FrM (fun a _ => a = 12) σ (itF (fun f τ => mCtl τ f) k σ) := FrM.it (fun c τ _ => fr_mCtl τ c)
