/-! ===== loops side by side; which rows a giving changes ===== -/
theorem it2 (f g : Nat → Sg → Sg) (N : Nat) (D T : Nat → Sg → Sg → Prop) (I : Nat → Sg → Sg → Prop)
    (hI : ∀ k σ τ, k < N → I k σ τ → T k σ τ → I (k + 1) (f k σ) (g k τ))
    (h1 : ∀ k σ τ, k < N → I k σ τ → T k σ τ → D k (f k σ) (g k τ))
    (h2 : ∀ k c σ τ, k < N → c < N → ¬ c = k → I k σ τ → T k σ τ → D c σ τ → D c (f k σ) (g k τ))
    (h3 : ∀ k c σ τ, k < N → c < N → ¬ c = k → I k σ τ → T k σ τ → T c σ τ → T c (f k σ) (g k τ))
    {σ τ : Sg} (i0 : I 0 σ τ) (t0 : ∀ c, c < N → T c σ τ) : ∀ k, k ≤ N → I k (itF f k σ) (itF g k τ) ∧ (∀ c, c < k → D c (itF f k σ) (itF g k τ)) ∧ ∀ c, k ≤ c → c < N → T c (itF f k σ) (itF g k τ)
  | 0, _ => ⟨i0, fun c hc => absurd hc (by omega), fun c _ hc => t0 c hc⟩
  | k + 1, hk => by
    obtain ⟨a, b, c⟩ := it2 f g N D T I hI h1 h2 h3 i0 t0 k (by omega)
    have tk := c k (Nat.le_refl _) (by omega)
    refine ⟨hI k _ _ (by omega) a tk, fun j hj => ?_, fun j hj hjN => ?_⟩
    · by_cases e : j = k
      · subst e; exact h1 j _ _ (by omega) a tk
      · exact h2 k j _ _ (by omega) (by omega) e a tk (b j (by omega))
    · exact h3 k j _ _ (by omega) hjN (by omega) a tk (c j (by omega) hjN)
/-- the same with an invariant alone -/
theorem it2I (f g : Nat → Sg → Sg) (N : Nat) (I : Nat → Sg → Sg → Prop) (hI : ∀ k σ τ, k < N → I k σ τ → I (k + 1) (f k σ) (g k τ)) {σ τ : Sg} (i0 : I 0 σ τ) : ∀ k, k ≤ N → I k (itF f k σ) (itF g k τ)
  | 0, _ => i0
  | k + 1, hk => hI k _ _ (by omega) (it2I f g N I hI i0 k (by omega))
theorem it1I (f : Nat → Sg → Sg) (N : Nat) (I : Nat → Sg → Prop) (hI : ∀ k σ, k < N → I k σ → I (k + 1) (f k σ)) {σ : Sg} (i0 : I 0 σ) : ∀ k, k ≤ N → I k (itF f k σ)
  | 0, _ => i0
  | k + 1, hk => hI k _ (by omega) (it1I f N I hI i0 k (by omega))
theorem wt_upd {f g : Nat → Int32} {j : Nat} (hj : j < 8) (h : ∀ i, ¬ i = j → g i = f i) {s : Nat} (hs : s < 2) : wt s g + (if j % 2 = s then tn (f j) else 0) = wt s f + (if j % 2 = s then tn (g j) else 0) := by
  unfold wt
  by_cases e : j % 2 = s
  · rw [if_pos e, if_pos e]
    have h9 := nsum_upd (f := fun z => tn (f (2 * z + s))) (g := fun z => tn (g (2 * z + s))) (j := j / 2) (k := 4) (by omega) (fun i hi => by rw [h (2 * i + s) (by omega)])
    rw [show 2 * (j / 2) + s = j by omega] at h9
    exact h9
  · rw [if_neg e, if_neg e, nsum_congr (f := fun z => tn (g (2 * z + s))) (g := fun z => tn (f (2 * z + s))) (fun z hz => by rw [h (2 * z + s) (by omega)])]
/-- class: the rows and places of unit i in S may differ -/
def FrX (S : Nat → Nat → Prop) (i : Nat) (σ τ : Sg) : Prop := (∀ s a j, ¬ (s = i ∧ S a j) → τ.1 s a j = σ.1 s a j) ∧ τ.2 = σ.2
theorem FrX.rf {S : Nat → Nat → Prop} {i : Nat} {σ : Sg} : FrX S i σ σ := ⟨fun _ _ _ _ => rfl, rfl⟩
theorem FrX.tr {S : Nat → Nat → Prop} {i : Nat} {σ τ ρ : Sg} (h1 : FrX S i σ τ) (h2 : FrX S i τ ρ) : FrX S i σ ρ := ⟨fun s a j h => (h2.1 s a j h).trans (h1.1 s a j h), h2.2.trans h1.2⟩
theorem FrX.mono {S S' : Nat → Nat → Prop} {i : Nat} {σ τ : Sg} (h : FrX S i σ τ) (hs : ∀ a j, S a j → S' a j) : FrX S' i σ τ := ⟨fun s a j z => h.1 s a j (fun q => z ⟨q.1, hs a j q.2⟩), h.2⟩
theorem FrX.el {S : Nat → Nat → Prop} {i : Nat} {σ τ : Sg} {a j : Nat} {x : Int32} (h : FrX S i σ τ) (hs : S a j) : FrX S i σ (sI τ i a j x) := by
  refine ⟨fun s a' j' z => ?_, h.2⟩
  rw [sI_I, if_neg (fun q => z ⟨q.1, by rw [q.2.1, q.2.2]; exact hs⟩)]
  exact h.1 s a' j' z
theorem FrX.ro {S : Nat → Nat → Prop} {i : Nat} {σ τ : Sg} {a : Nat} {f : Nat → Int32} (h : FrX S i σ τ) (hs : ∀ j, S a j) : FrX S i σ (sR τ i a f) := by
  refine ⟨fun s a' j' z => ?_, h.2⟩
  rw [sR_I, if_neg (fun q => z ⟨q.1, by rw [q.2]; exact hs j'⟩)]
  exact h.1 s a' j' z
theorem FrX.mv {S : Nat → Nat → Prop} {i : Nat} {σ τ : Sg} {a N a' : Nat} (h : FrX S i σ τ) (hs : ∀ j, S a j) (hs' : ∀ j, S a' j) : FrX S i σ (mvR τ i a N i a') := (h.ro hs').ro hs
theorem FrX.it {S : Nat → Nat → Prop} {i : Nat} {f : Nat → Sg → Sg} {σ τ : Sg} (h : FrX S i σ τ) : ∀ {k : Nat}, (∀ c ρ, c < k → FrX S i ρ (f c ρ)) → FrX S i σ (itF f k τ)
  | 0, _ => h
  | k + 1, hf => (FrX.it h (fun c ρ hc => hf c ρ (by omega))).tr (hf k _ (by omega))
/-- what giving may change in the class -/
def xG (a j : Nat) : Prop := a = 0 ∨ a = 6 ∨ a = 7 ∨ a = 10 ∨ a = 11 ∨ (20 ≤ a ∧ a < 60) ∨ (a = 8 ∧ 4 ≤ j)
theorem frx_feed (σ : Sg) (i : Nat) : FrX (fun a _ => a = 10 ∨ a = 6) i σ (cFeed σ i) := by
  unfold cFeed
  split
  · exact FrX.rf.ro (fun _ => Or.inl rfl)
  · exact FrX.it (by unfold cFd1; exact FrX.rf.ro (fun _ => Or.inl rfl)) (fun c ρ _ => by unfold cFdS; exact FrX.rf.el (Or.inr rfl))
theorem frx_join (σ : Sg) (i : Nat) : FrX (fun a _ => a = 0 ∨ a = 10) i σ (cJoin σ i) := by
  unfold cJoin
  exact (FrX.rf.ro (fun _ => Or.inr rfl)).mv (fun _ => Or.inl rfl) (fun _ => Or.inr rfl)
theorem frx_grind (σ : Sg) (i z s : Nat) : FrX (fun a _ => a = 0 ∨ a = 10) i σ (cGrind σ i z s) := by
  unfold cGrind
  exact ((FrX.it FrX.rf (fun c ρ _ => by unfold cGrS; exact FrX.rf.el (Or.inr rfl))).el (Or.inr rfl)).el (Or.inl rfl)
theorem frx_mlS (σ : Sg) (i c : Nat) : FrX (fun a _ => a = 0 ∨ a = 10) i σ (cMlS i c σ) := by
  unfold cMlS
  split
  · exact FrX.rf
  · exact frx_grind σ i _ _
theorem frx_mill (σ : Sg) (i : Nat) : FrX (fun a _ => a = 0 ∨ a = 10) i σ (cMill σ i) := by
  unfold cMill
  exact FrX.it (FrX.rf.ro (fun _ => Or.inr rfl)) (fun c ρ _ => frx_mlS ρ i c)
theorem frx_pt3 (σ : Sg) (i c : Nat) : FrX (fun a j => (a = 0 ∨ a = 7 ∨ a = 10 ∨ a = 11) ∧ j = c) i σ (cPt3 i c σ) := by
  unfold cPt3
  exact (((FrX.rf.el ⟨by omega, rfl⟩).el ⟨by omega, rfl⟩).el ⟨by omega, rfl⟩).el ⟨by omega, rfl⟩
theorem frx_pt4 (σ : Sg) (i c : Nat) : FrX (fun a j => (a = 0 ∨ a = 7 ∨ a = 10 ∨ a = 11) ∧ j = c) i σ (cPt4 i c σ) := by
  unfold cPt4
  exact (((FrX.rf.el ⟨by omega, rfl⟩).el ⟨by omega, rfl⟩).el ⟨by omega, rfl⟩).el ⟨by omega, rfl⟩
def xT (a j : Nat) : Prop := a = 0 ∨ a = 10 ∨ (20 ≤ a ∧ a < 26) ∨ (a = 8 ∧ j = 4)
theorem frx_tank (σ : Sg) (i T t : Nat) (hT : T < 6) : FrX xT i σ (cTank σ i T t) := by
  unfold cTank
  refine FrX.it ?_ (fun c ρ _ => ?_)
  · unfold cTk0
    exact ((FrX.rf.ro (fun _ => by unfold xT; omega)).el (by unfold xT; omega)).mv (fun _ => by unfold xT; omega) (fun _ => by unfold xT; omega)
  · unfold cTkS
    exact FrX.rf.mv (fun _ => by unfold xT; omega) (fun _ => by unfold xT; omega)
def xP (a j : Nat) : Prop := a = 0 ∨ a = 10 ∨ (40 ≤ a ∧ a < 60) ∨ (a = 8 ∧ 5 ≤ j)
theorem frx_pl (i : Nat) : ∀ (f F L : Nat) (left : Int32) (τ : Sg), F < 20 → FrX xP i τ (cPl i f F L left τ)
  | 0, _, _, _, _, _ => FrX.rf
  | f + 1, F, L, left, τ, hF => by
    unfold cPl
    split
    · exact FrX.rf
    · split
      · exact FrX.rf
      · refine FrX.tr ?_ (frx_pl i f _ _ _ _ (by omega))
        unfold cPlS
        exact ((FrX.rf.mv (fun _ => by unfold xP; omega) (fun _ => by unfold xP; omega)).el (by unfold xP; omega)).el (by unfold xP; omega)
theorem frx_heap (σ : Sg) (i F L : Nat) : FrX xP i σ (cHeap σ i F L) := by
  unfold cHeap
  split
  · exact (FrX.rf.el (by unfold xP; omega)).mv (fun _ => by unfold xP; omega) (fun _ => by unfold xP; omega)
  · exact FrX.rf.mv (fun _ => by unfold xP; omega) (fun _ => by unfold xP; omega)
theorem frx_pile (σ : Sg) (i F L : Nat) (hF : F < 20) : FrX xP i σ (cPile σ i F L) := by
  unfold cPile
  have h0 : FrX xP i σ (cPile0 σ i) := by unfold cPile0; exact FrX.rf.ro (fun _ => by unfold xP; omega)
  split
  · exact h0.tr (frx_pl i _ _ _ _ _ hF)
  · exact (h0.tr (frx_heap _ i _ _)).tr (frx_pl i _ _ _ _ _ hF)
theorem frx_give (σ : Sg) (i : Nat) (hg : GW σ i) : FrX xG i σ (cGive σ i) := by
  unfold cGive
  split
  · exact (frx_feed σ i).mono (fun a j h => by unfold xG; omega)
  · exact (frx_join σ i).mono (fun a j h => by unfold xG; omega)
  · exact (frx_mill σ i).mono (fun a j h => by unfold xG; omega)
  · unfold cPart3
    exact FrX.it FrX.rf (fun c ρ _ => (frx_pt3 ρ i c).mono (fun a j h => by unfold xG; omega))
  · unfold cPart4
    exact FrX.it FrX.rf (fun c ρ _ => (frx_pt4 ρ i c).mono (fun a j h => by unfold xG; omega))
  · next h5 =>
    obtain ⟨⟨T, hT, eT⟩, -⟩ := hg.1 h5
    rw [eT, tn_nI (by omega)]
    exact (frx_tank σ i _ _ hT).mono (fun a j h => by unfold xG; unfold xT at h; omega)
  · next h6 =>
    obtain ⟨⟨F, hF, eF⟩, -⟩ := hg.2 h6
    rw [eF, tn_nI (k := F) (by omega)]
    exact (frx_pile σ i _ _ hF).mono (fun a j h => by unfold xG; unfold xP at h; omega)
  · exact FrX.rf
/-! the reference -/
theorem w18 {u j : Nat} (h1 : 16 * u ≤ j) (h2 : j < 16 * u + 16) : inW u 18 j := ⟨by omega, h1, h2⟩
theorem w6 {u j : Nat} (h1 : 8 * u ≤ j) (h2 : j < 8 * u + 8) : inW u 6 j := ⟨by omega, h1, h2⟩
theorem w14 {u j : Nat} (h1 : 56 * u ≤ j) (h2 : j < 56 * u + 56) : inW u 14 j := ⟨by omega, h1, h2⟩
theorem w15 {u j : Nat} (h1 : 7 * u ≤ j) (h2 : j < 7 * u + 7) : inW u 15 j := ⟨by omega, h1, h2⟩
theorem w17 {u j : Nat} (h1 : 160 * u ≤ j) (h2 : j < 160 * u + 160) : inW u 17 j := ⟨by omega, h1, h2⟩
theorem w13 (u : Nat) : inW u 13 u := ⟨by omega, by show 1 * u ≤ u; omega, by show u < 1 * u + 1; omega⟩
theorem w16 (u : Nat) : inW u 16 u := ⟨by omega, by show 1 * u ≤ u; omega, by show u < 1 * u + 1; omega⟩
theorem fw_mMill (σ : Sg) (u i s : Nat) (hi : i < 4) (hs : s < 2) : FrM (inW u) σ (mMill σ u i s) := by
  unfold mMill
  exact (FrM.it (fun c τ hc => FrM.rf.sI (w18 (by omega) (by omega)))).sI (w18 (by omega) (by omega))
theorem fw_mPart (σ : Sg) (u c : Nat) (hc : c < 8) : FrM (inW u) σ (mPart σ u c) := by
  unfold mPart
  exact ((FrM.rf.sI (w6 (by omega) (by omega))).sI (w18 (by omega) (by omega))).sI (w18 (by omega) (by omega))
theorem fw_tkL (u : Nat) (σ : Sg) : ∀ i, i ≤ 7 → FrM (inW u) σ (tkL u i σ).1
  | 0, _ => FrM.rf
  | i + 1, hi => by
    refine (fw_tkL u σ i (by omega)).tr ?_
    have hle := tkL_le u σ i
    show FrM (inW u) _ (tkS u i (tkL u i σ)).1
    unfold tkS
    split
    · exact (FrM.it (fun c τ hc => FrM.rf.sI (w14 (by omega) (by omega)))).sI (w15 (by omega) (by omega))
    · exact FrM.it (fun c τ hc => FrM.rf.sI (w18 (by omega) (by omega)))
theorem fw_mTank (σ : Sg) (u K : Nat) (hK : K ≤ 6) : FrM (inW u) σ (mTank σ u K) := by
  unfold mTank
  refine FrM.sI (FrM.tr ?_ (fw_tkL u (tkB σ u K) (K + 1) (by omega))) (w13 u)
  unfold tkB
  exact ((FrM.it (fun c τ hc => FrM.rf.sI (w14 (by omega) (by omega)))).sI (w15 (by omega) (by omega))).sI (w13 u)
theorem fw_plW (u L : Nat) : ∀ (f g : Nat) (s : Int64) (τ : Sg), FrM (inW u) τ (plW u L f g s τ).2
  | 0, _, _, _ => FrM.rf
  | f + 1, g, s, τ => by
    unfold plW
    split
    · exact (FrM.it (fun c τ hc => FrM.rf.sI (w18 (by omega) (by omega)))).tr (fw_plW u L f _ _ _)
    · exact FrM.rf
theorem fw_plG (τ : Sg) (u L : Nat) (hL : L ≤ 20) : FrM (inW u) τ (plG τ u L) := by
  unfold plG plN
  exact ((fw_plW u L L 0 0 τ).sI (w16 u)).tr (FrM.it (fun c τ hc => FrM.it (fun d τ hd => FrM.rf.sI (w17 (by omega) (by omega)))))
theorem fw_mPile (σ : Sg) (u L : Nat) (hL : L ≤ 20) : FrM (inW u) σ (mPile σ u L) := by
  unfold mPile
  split
  · refine FrM.tr ?_ (fw_plG _ u _ (by split <;> omega))
    unfold mPut
    split
    · exact (FrM.it (fun c τ hc => FrM.rf.sI (w17 (by omega) (by omega)))).sI (w16 u)
    · exact (FrM.it (fun c τ hc => FrM.rf.sI (w17 (by omega) (by omega)))).sI (w16 u)
  · exact fw_plG σ u L hL
theorem fw_mGive (σ : Sg) (u : Nat) (h5 : σ.2.2.1 u = 5 → tn (σ.1 11 13 u) ≤ 6) (h6 : σ.2.2.1 u = 6 → tn (σ.1 11 16 u) ≤ 20) : FrM (inW u) σ (mGive σ u) := by
  unfold mGive
  split
  · split
    · exact FrM.rf
    · exact FrM.it (fun c τ hc => (FrM.rf.sI (w18 (by omega) (by omega))).sL)
  · exact FrM.it (fun c τ hc => FrM.rf.sI (w18 (by omega) (by omega)))
  · exact FrM.it (fun c τ hc => fw_mMill τ u _ _ (by omega) (by omega))
  · exact FrM.it (fun c τ hc => fw_mPart τ u c hc)
  · exact FrM.it (fun c τ hc => fw_mPart τ u c hc)
  · next h => exact fw_mTank σ u _ (h5 h)
  · next h => exact fw_mPile σ u _ (h6 h)
  · exact FrM.rf
/-- of the longs only what all feeds gave -/
theorem itF_L {f : Nat → Sg → Sg} (h : ∀ c τ, (f c τ).2.1 = τ.2.1) (τ : Sg) (k : Nat) : (itF f k τ).2.1 = τ.2.1 := itF_row (fun τ => τ.2.1) h τ k
theorem tkL_L (u : Nat) (τ : Sg) : ∀ i, (tkL u i τ).1.2.1 = τ.2.1
  | 0 => rfl
  | i + 1 => by
    have ih := tkL_L u τ i
    show (tkS u i (tkL u i τ)).1.2.1 = _
    unfold tkS
    split
    · exact (itF_L (f := tkMv u i (tkL u i τ).2) (fun _ _ => rfl) _ 8).trans ih
    · exact (itF_L (f := tkOut u i) (fun _ _ => rfl) _ 8).trans ih
theorem plW_L (u L : Nat) : ∀ (f g : Nat) (s : Int64) (τ : Sg), (plW u L f g s τ).2.2.1 = τ.2.1
  | 0, _, _, _ => rfl
  | f + 1, g, s, τ => by
    unfold plW
    split
    · exact (plW_L u L f _ _ _).trans (itF_L (f := plO u g) (fun _ _ => rfl) τ 8)
    · rfl
theorem plN_L (u L : Nat) (p : Nat × Sg) : (plN u L p).2.1 = p.2.2.1 := by
  unfold plN
  exact itF_L (f := fun k τ => itF (plM u p.1 k) 8 τ) (fun c ρ => itF_L (f := plM u p.1 c) (fun _ _ => rfl) ρ 8) _ _
theorem mPut_L (σ : Sg) (u L : Nat) : (mPut σ u L).2.1 = σ.2.1 := by
  unfold mPut
  split
  · exact itF_L (f := plA u 19) (fun _ _ => rfl) σ 8
  · exact itF_L (f := plB u L) (fun _ _ => rfl) σ 8
theorem plG_L (τ : Sg) (u L : Nat) : (plG τ u L).2.1 = τ.2.1 := (plN_L u L (plW u L L 0 0 τ)).trans (plW_L u L L 0 0 τ)
theorem mPile_L (σ : Sg) (u L : Nat) : (mPile σ u L).2.1 = σ.2.1 := by
  unfold mPile
  split
  · exact (plG_L _ u _).trans (mPut_L σ u L)
  · exact plG_L σ u L
theorem mTank_L (σ : Sg) (u K : Nat) : (mTank σ u K).2.1 = σ.2.1 := by
  unfold mTank
  refine (tkL_L u (tkB σ u K) (K + 1)).trans ?_
  unfold tkB
  exact itF_L (f := tkA u K) (fun _ _ => rfl) σ 8
theorem mMill_L (σ : Sg) (u i s : Nat) : (mMill σ u i s).2.1 = σ.2.1 := by
  unfold mMill
  exact itF_L (f := mlStep u i s (σ.1 11 2 (8 * u + (2 * i + s))) (fun j => σ.1 11 4 (16 * u + 4 * i + j))) (fun _ _ => rfl) σ (3 - i)
theorem mGive_L (σ : Sg) (u : Nat) (h0 : ¬ σ.2.2.1 u = 0) : (mGive σ u).2.1 = σ.2.1 := by
  unfold mGive
  split
  · next h => exact absurd h h0
  · exact itF_L (f := joStep u) (fun _ _ => rfl) σ 8
  · exact itF_L (f := fun c τ => mMill τ u (c / 2) (c % 2)) (fun c τ => mMill_L τ u _ _) σ 8
  · exact itF_L (f := fun c τ => mPart τ u c) (fun _ _ => rfl) σ 8
  · exact itF_L (f := fun c τ => mPart τ u c) (fun _ _ => rfl) σ 8
  · exact mTank_L σ u _
  · exact mPile_L σ u _
  · rfl
