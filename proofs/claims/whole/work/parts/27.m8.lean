-- the data of a state: texts, events, faith and doubt
abbrev xDat : Type := (Nat × (Nat → Nat)) × (Nat × (Nat → Nat)) × (Nat × (Nat → Nat) × (Nat → Nat) × (Nat → Nat)) × (Nat × Nat)
def dN0 (D : xDat) : Nat := D.1.1
def dC0 (D : xDat) : Nat → Nat := D.1.2
def dN1 (D : xDat) : Nat := D.2.1.1
def dC1 (D : xDat) : Nat → Nat := D.2.1.2
def dN (D : xDat) : Nat := D.2.2.1.1
def dK (D : xDat) : Nat → Nat := D.2.2.1.2.1
def dM (D : xDat) : Nat → Nat := D.2.2.1.2.2.1
def dB (D : xDat) : Nat → Nat := D.2.2.1.2.2.2
def dF (D : xDat) : Nat := D.2.2.2.1
def dDb (D : xDat) : Nat := D.2.2.2.2
def dNb (D : xDat) : Nat := xNI 4 (xG0 (dC0 D)) (dN0 D)
def dKd (D : xDat) : Nat → Nat := xKd (dC0 D)
def dBg (D : xDat) : Nat → Nat := xBg (dC0 D)
def dSp (D : xDat) : Nat → Nat := xSp (dC0 D)
def dNl (D : xDat) : Nat := xNI 3 (xG1 (dC1 D)) (dN1 D)
def dLm (D : xDat) : Nat → Nat := xLm (dC1 D)
def dLb (D : xDat) : Nat → Nat := xLb (dC1 D)
/-- states, paint, what seems, belief, of a state's data, without the events of gn -/
def dS (D : xDat) (gn : Nat → Bool) : Nat → Nat → Nat := xS (dN D) (dK D) (dM D) (dB D) gn false (dNb D) (dKd D) (dBg D)
def dQ (D : xDat) (gn : Nat → Bool) : Nat → Nat → Bool := xP (dN D) (dK D) (dM D) (dB D) gn false (dNb D) (dKd D)
def gn0 : Nat → Bool := fun _ => false
def dBel (D : xDat) (om : Option Nat) (ob : Nat) : Nat → Nat := xBel (dN D) (dK D) (dM D) (dB D) gn0 (dNb D) (dNl D) (dLm D) (dLb D) (xSm (dS D gn0) (dQ D gn0)) (dSp D) om ob (dF D)
/-- the model's own state: what lasts from call to call -/
def mSt (σ : gS) (D : xDat) : Prop := (σ 6 0 = nI (dN0 D) ∧ dN0 D ≤ 39 ∧ ∀ i, i < dN0 D → σ 5 i = nI (dC0 D i) ∧ dC0 D i < 256) ∧ (σ 6 1 = nI (dN1 D) ∧ dN1 D ≤ 35 ∧ ∀ i, i < dN1 D → σ 5 (40 + i) = nI (dC1 D i) ∧ dC1 D i < 256) ∧ mEv σ (dN D) (dK D) (dM D) (dB D) ∧ (σ 0 11 = nI (dF D) ∧ dF D ≤ 100 ∧ σ 0 12 = nI (dDb D) ∧ dDb D ≤ 50) ∧ σ 0 15 = 0 ∧ σ 0 21 = 0 ∧ σ 0 22 = -1
/-- what a question of the model may write: its scratch -/
def mScr (q : Nat) : Prop := q = 4 ∨ q = 7 ∨ q = 8 ∨ q = 10 ∨ q = 11 ∨ q = 12 ∨ q = 13 ∨ q = 14 ∨ q = 16 ∨ q = 17
def mKeep (σ τ : gS) : Prop := (∀ q, q ≠ 0 → ¬ mScr q → τ q = σ q) ∧ ∀ s, s ≠ 7 → s ≠ 9 → s ≠ 23 → s ≠ 27 → τ 0 s = σ 0 s
theorem mKeep.rf (σ : gS) : mKeep σ σ := ⟨fun _ _ _ => rfl, fun _ _ _ _ _ => rfl⟩
theorem mKeep.tr {σ τ υ : gS} (h : mKeep σ τ) (h2 : mKeep τ υ) : mKeep σ υ := ⟨fun q a b => (h2.1 q a b).trans (h.1 q a b), fun s a b c d => (h2.2 s a b c d).trans (h.2 s a b c d)⟩
theorem mKeep.cell {σ τ : gS} (h : mKeep σ τ) (q : Nat) (h0 : q ≠ 0 := by decide) (h1 : ¬ (q = 4 ∨ q = 7 ∨ q = 8 ∨ q = 10 ∨ q = 11 ∨ q = 12 ∨ q = 13 ∨ q = 14 ∨ q = 16 ∨ q = 17) := by decide) : τ q = σ q := h.1 q h0 h1
theorem mEv_k {σ τ : gS} {n : Nat} {K M B : Nat → Nat} (h13 : τ 0 13 = σ 0 13) (h9 : τ 9 = σ 9) (h : mEv σ n K M B) : mEv τ n K M B := by
  unfold mEv at *
  rw [h13, h9]; exact h
theorem mSt.keep {σ τ : gS} {D : xDat} (h : mSt σ D) (hk : mKeep σ τ) : mSt τ D := by
  obtain ⟨h1, h2, h3, h4, h5, h6, h7⟩ := h
  unfold mSt
  rw [hk.cell 6, hk.cell 5, hk.2 11 (by decide) (by decide) (by decide) (by decide), hk.2 12 (by decide) (by decide) (by decide) (by decide), hk.2 15 (by decide) (by decide) (by decide) (by decide), hk.2 21 (by decide) (by decide) (by decide) (by decide), hk.2 22 (by decide) (by decide) (by decide) (by decide)]
  exact ⟨h1, h2, mEv_k (hk.2 13 (by decide) (by decide) (by decide) (by decide)) (hk.cell 9) h3, h4, h5, h6, h7⟩
theorem mGone_0 {σ : gS} (h : σ 0 15 = 0) : mGone σ gn0 := by
  intro e he
  rw [h]
  have : ∀ e : Nat, e < 8 → ¬ ((0 : Int32) >>> (nI e &&& 31)) &&& 1 = 1 := by decide
  exact ⟨fun z => absurd z (this e he), fun z => Bool.noConfusion z⟩
def mLvF (σ τ : gS) : Prop := ∀ q, q ≠ 10 → q ≠ 11 → q ≠ 12 → q ≠ 13 → q ≠ 14 → τ q = σ q
theorem mLvF.keep {σ τ : gS} (h : mLvF σ τ) : mKeep σ τ := ⟨fun q h0 hs => h q (fun z => hs (by unfold mScr; omega)) (fun z => hs (by unfold mScr; omega)) (fun z => hs (by unfold mScr; omega)) (fun z => hs (by unfold mScr; omega)) (fun z => hs (by unfold mScr; omega)), fun s _ _ _ _ => by rw [h 0 (by decide) (by decide) (by decide) (by decide) (by decide)]⟩
theorem mCells_of {σ τ : gS} {n : Nat} {K M B : Nat → Nat} {gn : Nat → Bool} {more : Bool} {nb : Nat} {kd bg sp : Nat → Nat} {Q : Nat → Nat → Bool} (h : ∀ m, m < 24 → mRow τ (xS n K M B gn more nb kd bg) Q sp nb m) : mCells τ (xS n K M B gn more nb kd bg) Q nb := fun m hm k hk => ⟨((h m hm).1 k hk).1, ((h m hm).1 k hk).2, xSt_lt _ _ _ _ _ _ _ _ _⟩
theorem mRow_of {σ τ : gS} {S : Nat → Nat → Nat} {Q : Nat → Nat → Bool} {sp : Nat → Nat} {nb m : Nat} (h10 : τ 10 = σ 10) (h11 : τ 11 = σ 11) (h12 : τ 12 = σ 12) (h14 : τ 14 = σ 14) (h : mRow σ S Q sp nb m) : mRow τ S Q sp nb m := by
  unfold mRow at *
  rw [h10, h11, h12, h14]; exact h
theorem mOdd_of {σ τ : gS} {nb : Nat} {om : Option Nat} {ob : Nat} (h0 : τ 0 = σ 0) (h : mOdd σ nb om ob) : mOdd τ nb om ob := by
  unfold mOdd at *
  rw [h0]; exact h
theorem s_X11_lives {d : Nat} (hd : 5 ≤ d) (σ : gS) (n : Nat) (K M B : Nat → Nat) (gn : Nat → Bool) (more : Bool) (nb : Nat) (kd bg sp : Nat → Nat) (nl : Nat) (lm lb : Nat → Nat) (om : Option Nat) (ob f0 : Nat) (hE : mEv σ n K M B) (hB : mBu σ nb kd bg sp) (hg : mGone σ gn) (hm : σ 0 21 = bI (more = true)) (hL : mLo σ nl lm lb) (hO : mOdd σ nb om ob) (hf : σ 0 11 = nI f0) (hf0 : f0 ≤ 100) : gC d 157 [.ref 0] σ (fun r τ => r = none ∧ mLvF σ τ ∧ (∀ m, m < 24 → mRow τ (xS n K M B gn more nb kd bg) (xP n K M B gn more nb kd) sp nb m) ∧ ∀ m, m < 24 → τ 13 m = nI (xBel n K M B gn nb nl lm lb (xSm (xS n K M B gn more nb kd bg) (xP n K M B gn more nb kd)) sp om ob f0 (m + 1))) := by
  obtain ⟨d, rfl⟩ : ∃ k, d = k + 1 := ⟨d - 1, by omega⟩
  refine gC.of (P := pX11_lives) (nL := 1) (rt := none) (lv := [some (.ref 0)]) (by decide +kernel) rfl rfl rfl (by simp [gEnt, Value.category]) rfl ?_
  refine gR.steps 1 (σ, (1, [some (.ref 0)], [.ref 0])) rfl ?_
  refine gR.call' rfl (s_X11_grows (by omega) σ n K M B gn more nb kd bg sp hE hB hg hm) ?_
  rintro _ τ1 ⟨rfl, hF, hrows⟩
  show gR _ _ _ τ1 (4, [some (.ref 0)], [])
  refine gR.steps 1 (τ1, (5, [some (.ref 0)], [.ref 0])) rfl ?_
  refine gR.call' rfl (s_X11_believes (by omega) τ1 n K M B gn nb kd bg sp nl lm lb (xS n K M B gn more nb kd bg) (xP n K M B gn more nb kd) om ob f0 (mEv_of (hF.c 0) (hF.c 9) hE) (mBu_of (hF.c 0) (hF.c 7) hB) (mGone_of (hF.c 0) hg) (mLo_of (hF.c 0) (hF.c 8) hL) (mCells_of (σ := σ) hrows) (mOdd_of (hF.c 0) hO) (by rw [hF.c 0]; exact hf) hf0) ?_
  rintro _ τ2 ⟨rfl, hF2, hbel⟩
  show gR _ _ _ τ2 (8, [some (.ref 0)], [])
  refine gR.ret rfl ?_
  exact ⟨trivial, rfl, fun q a b c d e => (hF2 q d).trans (hF q a b c e), fun m hm => mRow_of (hF2 10 (by decide)) (hF2 11 (by decide)) (hF2 12 (by decide)) (hF2 14 (by decide)) (hrows m hm), hbel⟩
/-- what find() leaves -/
def mFnd (τ : gS) (D : xDat) : Prop := mBu τ (dNb D) (dKd D) (dBg D) (dSp D) ∧ mLo τ (dNl D) (dLm D) (dLb D) ∧ (∀ m, m < 24 → mRow τ (dS D gn0) (dQ D gn0) (dSp D) (dNb D) m) ∧ ∀ m, m < 24 → τ 13 m = nI (dBel D none 0 (m + 1))
theorem mRdF0.keep {σ τ : gS} (h : mRdF0 σ τ) : mKeep σ τ := ⟨fun q h0 hs => h.1 q h0 (fun z => hs (by unfold mScr; omega)), fun s h7 _ _ _ => h.2 s h7⟩
theorem mRdF1.keep {σ τ : gS} (h : mRdF1 σ τ) : mKeep σ τ := ⟨fun q h0 hs => h.1 q h0 (fun z => hs (by unfold mScr; omega)), fun s _ h9 _ _ => h.2 s h9⟩
theorem mBu_k {σ τ : gS} {n : Nat} {kd bg sp : Nat → Nat} (h0 : τ 0 7 = σ 0 7) (h7 : τ 7 = σ 7) (h : mBu σ n kd bg sp) : mBu τ n kd bg sp := by
  unfold mBu at *
  rw [h0, h7]; exact h
theorem dNb_le (D : xDat) (h : dN0 D ≤ 39) : dNb D ≤ 10 := by
  unfold dNb xNI
  repeat' split
  all_goals omega
theorem dNl_le (D : xDat) (h : dN1 D ≤ 35) : dNl D ≤ 12 := by
  unfold dNl xNI
  repeat' split
  all_goals omega
theorem s_X11_find {d : Nat} (hd : 6 ≤ d) (σ : gS) (D : xDat) (hs : mSt σ D) : gC d 158 [.ref 0] σ (fun r τ => r = none ∧ mKeep σ τ ∧ mFnd τ D) := by
  obtain ⟨d, rfl⟩ : ∃ k, d = k + 1 := ⟨d - 1, by omega⟩
  refine gC.of (P := pX11_find) (nL := 1) (rt := none) (lv := [some (.ref 0)]) (by decide +kernel) rfl rfl rfl (by simp [gEnt, Value.category]) rfl ?_
  refine gR.steps 1 (σ, (1, [some (.ref 0)], [.ref 0])) rfl ?_
  refine gR.call' rfl (s_X11_readsBushes (by omega) σ (dN0 D) (dC0 D) hs.1.1 hs.1.2.1 hs.1.2.2) ?_
  rintro _ τ1 ⟨rfl, hF, hB⟩
  have hs1 := hs.keep hF.keep
  show gR _ _ _ τ1 (4, [some (.ref 0)], [.int (xFlt 4 (xG0 (dC0 D)) (dN0 D))])
  refine gR.steps 2 (τ1, (6, [some (.ref 0)], [.ref 0])) rfl ?_
  refine gR.call' rfl (s_X11_readsLooks (by omega) τ1 (dN1 D) (dC1 D) hs1.2.1.1 hs1.2.1.2.1 hs1.2.1.2.2) ?_
  rintro _ τ2 ⟨rfl, hF2, hL⟩
  have hs2 := hs1.keep hF2.keep
  show gR _ _ _ τ2 (9, [some (.ref 0)], [.int (xFlt 3 (xG1 (dC1 D)) (dN1 D))])
  refine gR.steps 2 (τ2, (11, [some (.ref 0)], [.ref 0])) rfl ?_
  refine gR.call' rfl (s_X11_lives (by omega) τ2 (dN D) (dK D) (dM D) (dB D) gn0 false (dNb D) (dKd D) (dBg D) (dSp D) (dNl D) (dLm D) (dLb D) none 0 (dF D) hs2.2.2.1 (mBu_k (hF2.2 7 (by decide)) (hF2.1 7 (by decide) (by decide)) hB) (mGone_0 hs2.2.2.2.2.1) (hs2.2.2.2.2.2.1.trans rfl) hL hs2.2.2.2.2.2.2 hs2.2.2.2.1.1 hs2.2.2.2.1.2.1) ?_
  rintro _ τ3 ⟨rfl, hF3, hrows, hbel⟩
  show gR _ _ _ τ3 (14, [some (.ref 0)], [])
  refine gR.ret rfl ?_
  have h0 := hF3 0 (by decide) (by decide) (by decide) (by decide) (by decide)
  exact ⟨trivial, rfl, (hF.keep.tr hF2.keep).tr hF3.keep, mBu_of h0 (hF3 7 (by decide) (by decide) (by decide) (by decide) (by decide)) (mBu_k (hF2.2 7 (by decide)) (hF2.1 7 (by decide) (by decide)) hB), mLo_of h0 (hF3 8 (by decide) (by decide) (by decide) (by decide) (by decide)) hL, hrows, hbel⟩
