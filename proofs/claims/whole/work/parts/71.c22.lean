/-- the state that both keep -/
abbrev xA : Type := xDat × xSig × xShe × Nat
def cAl (σ : gS) (A : xA) : Prop := cSt σ A.1 ∧ cSg σ A.2.1 ∧ cSh σ A.2.2.1 ∧ cLa σ A.2.2.2
def mAl (σ : gS) (A : xA) : Prop := mSt σ A.1 ∧ mSg σ A.2.1 ∧ mSh σ A.2.2.1 ∧ mLa σ A.2.2.2
def cLow (σ τ : gS) : Prop := ∀ q, q < 18 → τ q = σ q
def mHigh (σ τ : gS) : Prop := ∀ q, 18 ≤ q → τ q = σ q
theorem cSt.cells {σ τ : gS} {D : xDat} (h : cSt σ D) (k : ∀ p, p = 22 ∨ p = 23 ∨ p = 25 ∨ p = 26 ∨ p = 27 ∨ p = 28 ∨ p = 29 ∨ p = 30 → τ p = σ p) (k8 : τ 19 8 = σ 19 8) (k9 : τ 19 9 = σ 19 9) : cSt τ D := cStE.fr (e := 27) h (fun p hp => k p (by omega)) k8 k9
theorem cSg.cells {σ τ : gS} {G : xSig} (h : cSg σ G) (k : ∀ q, 37 ≤ q → q ≤ 40 → τ q = σ q) : cSg τ G := by
  unfold cSg at *
  rw [k 37 (by omega) (by omega), k 38 (by omega) (by omega), k 39 (by omega) (by omega), k 40 (by omega) (by omega)]
  exact h
theorem cLa.cell {σ τ : gS} {l : Nat} (h : cLa σ l) (k : τ 18 12 = σ 18 12) : cLa τ l := k.trans h
theorem mSt.cells {σ τ : gS} {D : xDat} (h : mSt σ D) (k : ∀ q, q = 5 ∨ q = 6 ∨ q = 9 → τ q = σ q) (s : ∀ s, s = 11 ∨ s = 12 ∨ s = 13 ∨ s = 15 ∨ s = 21 ∨ s = 22 → τ 0 s = σ 0 s) : mSt τ D := by
  unfold mSt mEv at *
  rw [k 5 (by omega), k 6 (by omega), k 9 (by omega), s 11 (by omega), s 12 (by omega), s 13 (by omega), s 15 (by omega), s 21 (by omega), s 22 (by omega)]
  exact h
theorem mSg.cells {σ τ : gS} {G : xSig} (h : mSg σ G) (k : τ 15 = σ 15) (s : τ 0 24 = σ 0 24) : mSg τ G := by
  unfold mSg mSi at *
  rw [k, s]; exact h
theorem mLa.cell {σ τ : gS} {l : Nat} (h : mLa σ l) (k : τ 0 4 = σ 0 4) : mLa τ l := k.trans h
theorem cAl.high {σ τ : gS} {A : xA} (h : cAl σ A) (k : mHigh σ τ) : cAl τ A := ⟨h.1.cells (fun p hp => k p (by omega)) (by rw [k 19 (by omega)]) (by rw [k 19 (by omega)]), h.2.1.cells (fun q a _ => k q (by omega)), h.2.2.1.keep (fun q a _ => k q (by omega)), h.2.2.2.cell (by rw [k 18 (by omega)])⟩
theorem mAl.low {σ τ : gS} {A : xA} (h : mAl σ A) (k : cLow σ τ) : mAl τ A := ⟨h.1.cells (fun q hq => k q (by omega)) (fun s _ => by rw [k 0 (by omega)]), h.2.1.cells (k 15 (by omega)) (by rw [k 0 (by omega)]), h.2.2.1.keep (k 1 (by omega)) (k 2 (by omega)) (k 3 (by omega)), h.2.2.2.cell (by rw [k 0 (by omega)])⟩
-- the class's frames
theorem cKeep.al {σ τ : gS} {A : xA} (k : cKeep σ τ) (h : cAl σ A) : cAl τ A ∧ cLow σ τ := ⟨⟨h.1.keep k, h.2.1.keep k, h.2.2.1.keep (fun q a b => k.cell q (by omega)), h.2.2.2.cell (by rw [k.cell 18 (by decide)])⟩, fun q hq => k.cell q (by omega)⟩
theorem cTxF.al {σ τ : gS} {A : xA} {D : xDat} (k : cTxF σ τ) (h : cAl σ A) (hD : cSt τ D) : cAl τ (D, A.2) ∧ cLow σ τ := ⟨⟨hD, h.2.1.cells (fun q a b => k q (by omega) (by omega) (by omega) (by omega)), h.2.2.1.keep (fun q a b => k q (by omega) (by omega) (by omega) (by omega)), h.2.2.2.cell (by rw [k 18 (by decide) (by decide) (by decide) (by decide)])⟩, fun q hq => k q (by omega) (by omega) (by omega) (by omega)⟩
theorem cFaF.al {σ τ : gS} {A : xA} {D : xDat} (k : cFaF σ τ) (h : cAl σ A) (hD : cSt τ D) : cAl τ (D, A.2) ∧ cLow σ τ := ⟨⟨hD, h.2.1.cells (fun q a b => k.1 q (by omega)), h.2.2.1.keep (fun q a b => k.1 q (by omega)), h.2.2.2.cell (by rw [k.1 18 (by decide)])⟩, fun q hq => k.1 q (by omega)⟩
theorem cEvF.al {σ τ : gS} {A : xA} {D : xDat} (k : cEvF σ τ) (h : cAl σ A) (hD : cSt τ D) : cAl τ (D, A.2) ∧ cLow σ τ := ⟨⟨hD, h.2.1.cells (fun q a b => k q (by omega) (by omega) (by omega) (by omega)), h.2.2.1.keep (fun q a b => k q (by omega) (by omega) (by omega) (by omega)), h.2.2.2.cell (by rw [k 18 (by decide) (by decide) (by decide) (by decide)])⟩, fun q hq => k q (by omega) (by omega) (by omega) (by omega)⟩
theorem cSiF.al {σ τ : gS} {A : xA} {G : xSig} (k : cSiF σ τ) (h : cAl σ A) (hG : cSg τ G) : cAl τ (A.1, G, A.2.2) ∧ cLow σ τ := ⟨⟨h.1.cells (fun q a => k q (by omega) (by omega) (by omega) (by omega)) (by rw [k 19 (by decide) (by decide) (by decide) (by decide)]) (by rw [k 19 (by decide) (by decide) (by decide) (by decide)]), hG, h.2.2.1.keep (fun q a b => k q (by omega) (by omega) (by omega) (by omega)), h.2.2.2.cell (by rw [k 18 (by decide) (by decide) (by decide) (by decide)])⟩, fun q hq => k q (by omega) (by omega) (by omega) (by omega)⟩
theorem cShF.al {σ τ : gS} {A : xA} {H : xShe} {l : Nat} (k : cShF σ τ) (h : cAl σ A) (hH : cSh τ H) (hl : cLa τ l) : cAl τ (A.1, A.2.1, H, l) ∧ cLow σ τ := ⟨⟨h.1.cells (fun q a => k.1 q (by omega) (by omega)) (by rw [k.1 19 (by decide) (by decide)]) (by rw [k.1 19 (by decide) (by decide)]), h.2.1.cells (fun q a b => k.1 q (by omega) (by omega)), hH, hl⟩, fun q hq => k.1 q (by omega) (by omega)⟩
theorem cReF.al {σ τ : gS} {A : xA} {D : xDat} {l : Nat} (k : cReF σ τ) (h : cAl σ A) (hD : cSt τ D) (hl : cLa τ l) : cAl τ (D, A.2.1, A.2.2.1, l) ∧ cLow σ τ := ⟨⟨hD, h.2.1.cells (fun q a b => k.1 q (by omega) (by omega) (by omega) (by omega) (by omega)), h.2.2.1.keep (fun q a b => k.1 q (by omega) (by omega) (by omega) (by omega) (by omega)), hl⟩, fun q hq => k.1 q (by omega) (by omega) (by omega) (by omega) (by omega)⟩
theorem cWrF.al {σ τ : gS} {A : xA} {H : xShe} {l : Nat} (k : cWrF σ τ) (h : cAl σ A) (hH : cSh τ H) (hl : cLa τ l) : cAl τ (A.1, A.2.1, H, l) ∧ cLow σ τ := ⟨⟨h.1.cells (fun q a => k.1 q (by omega) (by omega) (by unfold cScr; omega) (by omega)) (k.2.1 8 (by decide) (by decide)) (k.2.1 9 (by decide) (by decide)), h.2.1.cells (fun q a b => k.1 q (by omega) (by omega) (by unfold cScr; omega) (by omega)), hH, hl⟩, fun q hq => k.1 q (by omega) (by omega) (by unfold cScr; omega) (by omega)⟩
-- the model's frames
theorem mKeep.al {σ τ : gS} {A : xA} (k : mKeep σ τ) (h : mAl σ A) : mAl τ A ∧ mHigh σ τ := ⟨⟨h.1.keep k, h.2.1.keep k, h.2.2.1.keep (k.cell 1) (k.cell 2) (k.cell 3), h.2.2.2.cell (k.2 4 (by decide) (by decide) (by decide) (by decide))⟩, fun q hq => k.1 q (by omega) (by unfold mScr; omega)⟩
theorem mTxF.al {σ τ : gS} {A : xA} {D : xDat} (k : mTxF σ τ) (h : mAl σ A) (hD : mSt τ D) : mAl τ (D, A.2) ∧ mHigh σ τ := ⟨⟨hD, h.2.1.cells (k 15 (by decide) (by decide)) (by rw [k 0 (by decide) (by decide)]), h.2.2.1.keep (k 1 (by decide) (by decide)) (k 2 (by decide) (by decide)) (k 3 (by decide) (by decide)), h.2.2.2.cell (by rw [k 0 (by decide) (by decide)])⟩, fun q hq => k q (by omega) (by omega)⟩
theorem mObF.al {σ τ : gS} {A : xA} {D : xDat} (k : mObF 11 12 σ τ) (h : mAl σ A) (hD : mSt τ D) : mAl τ (D, A.2) ∧ mHigh σ τ := ⟨⟨hD, h.2.1.cells (k.1 15 (by decide)) (k.2 24 (by decide) (by decide)), h.2.2.1.keep (k.1 1 (by decide)) (k.1 2 (by decide)) (k.1 3 (by decide)), h.2.2.2.cell (k.2 4 (by decide) (by decide))⟩, fun q hq => k.1 q (by omega)⟩
theorem mEvF.al {σ τ : gS} {A : xA} {D : xDat} (k : mEvF σ τ) (h : mAl σ A) (hD : mSt τ D) : mAl τ (D, A.2) ∧ mHigh σ τ := ⟨⟨hD, h.2.1.cells (k.1 15 (by decide) (by decide)) (k.2 24 (by decide)), h.2.2.1.keep (k.1 1 (by decide) (by decide)) (k.1 2 (by decide) (by decide)) (k.1 3 (by decide) (by decide)), h.2.2.2.cell (k.2 4 (by decide))⟩, fun q hq => k.1 q (by omega) (by omega)⟩
theorem mSiF.al {σ τ : gS} {A : xA} {G : xSig} (k : mSiF σ τ) (h : mAl σ A) (hG : mSg τ G) : mAl τ (A.1, G, A.2.2) ∧ mHigh σ τ := ⟨⟨h.1.cells (fun q hq => k.1 q (by omega) (by omega)) (fun s hs => k.2 s (by omega)), hG, h.2.2.1.keep (k.1 1 (by decide) (by decide)) (k.1 2 (by decide) (by decide)) (k.1 3 (by decide) (by decide)), h.2.2.2.cell (k.2 4 (by decide))⟩, fun q hq => k.1 q (by omega) (by omega)⟩
theorem mShF.al {σ τ : gS} {A : xA} {H : xShe} {l : Nat} (k : mShF σ τ) (h : mAl σ A) (hH : mSh τ H) (hl : mLa τ l) : mAl τ (A.1, A.2.1, H, l) ∧ mHigh σ τ := ⟨⟨h.1.cells (fun q hq => k.1 q (by omega) (by omega) (by omega) (by omega) (by omega)) (fun s hs => k.2 s (by omega)), h.2.1.cells (k.1 15 (by decide) (by decide) (by decide) (by decide) (by decide)) (k.2 24 (by decide)), hH, hl⟩, fun q hq => k.1 q (by omega) (by omega) (by omega) (by omega) (by omega)⟩
theorem mReF.al {σ τ : gS} {A : xA} {D : xDat} {l : Nat} (k : mReF σ τ) (h : mAl σ A) (hD : mSt τ D) (hl : mLa τ l) : mAl τ (D, A.2.1, A.2.2.1, l) ∧ mHigh σ τ := ⟨⟨hD, h.2.1.cells (k.1 15 (by decide) (by decide)) (k.2 24 (by decide) (by decide)), h.2.2.1.keep (k.1 1 (by decide) (by decide)) (k.1 2 (by decide) (by decide)) (k.1 3 (by decide) (by decide)), hl⟩, fun q hq => k.1 q (by omega) (by omega)⟩
theorem mWrF.al {σ τ : gS} {A : xA} {H : xShe} {l : Nat} (k : mWrF σ τ) (h : mAl σ A) (hH : mSh τ H) (hl : mLa τ l) : mAl τ (A.1, A.2.1, H, l) ∧ mHigh σ τ := ⟨⟨h.1.cells (fun q hq => k.1 q (by omega) (by unfold mScr; omega) (by omega)) (fun s hs => k.2 s (by omega) (by omega) (by omega) (by omega) (by omega)), h.2.1.cells (k.1 15 (by decide) (by unfold mScr; decide) (by decide)) (k.2 24 (by decide) (by decide) (by decide) (by decide) (by decide)), hH, hl⟩, fun q hq => k.1 q (by omega) (by unfold mScr; omega) (by omega)⟩
theorem kc_type {d : Nat} (hd : 9 ≤ d) (σ : gS) (A : xA) (t b : Int32) (h : cAl σ A) : gC d 44 [.ref 18, .int t, .int b] σ (fun r τ => r = some (.int (aType A.1 t b)) ∧ cAl τ (sType A.1 t b, A.2) ∧ cLow σ τ) :=
  (s_X10_type (by omega) σ A.1 t b h.1).mono (fun r τ ⟨h1, h2⟩ => ⟨h1, h2.1.al h h2.2⟩)
theorem km_type {d : Nat} (hd : 9 ≤ d) (σ : gS) (A : xA) (t b : Int32) (h : mAl σ A) : gC d 128 [.ref 0, .int t, .int b] σ (fun r τ => r = some (.int (aType A.1 t b)) ∧ mAl τ (sType A.1 t b, A.2) ∧ mHigh σ τ) :=
  (s_X11_type (by omega) σ A.1 t b h.1).mono (fun r τ ⟨h1, h2⟩ => ⟨h1, h2.1.al h h2.2⟩)
theorem kc_wipe {d : Nat} (hd : 9 ≤ d) (σ : gS) (A : xA) (t : Int32) (h : cAl σ A) : gC d 45 [.ref 18, .int t] σ (fun r τ => r = some (.int (aWipe A.1 t)) ∧ cAl τ (sWipe A.1 t, A.2) ∧ cLow σ τ) :=
  (s_X10_wipe (by omega) σ A.1 t h.1).mono (fun r τ ⟨h1, h2⟩ => ⟨h1, h2.1.al h h2.2⟩)
theorem km_wipe {d : Nat} (hd : 9 ≤ d) (σ : gS) (A : xA) (t : Int32) (h : mAl σ A) : gC d 129 [.ref 0, .int t] σ (fun r τ => r = some (.int (aWipe A.1 t)) ∧ mAl τ (sWipe A.1 t, A.2) ∧ mHigh σ τ) :=
  (s_X11_wipe (by omega) σ A.1 t h.1).mono (fun r τ ⟨h1, h2⟩ => ⟨h1, h2.1.al h h2.2⟩)
theorem kc_undo {d : Nat} (hd : 9 ≤ d) (σ : gS) (A : xA) (t : Int32) (h : cAl σ A) : gC d 46 [.ref 18, .int t] σ (fun r τ => r = some (.int (aUndo A.1 t)) ∧ cAl τ (sUndo A.1 t, A.2) ∧ cLow σ τ) :=
  (s_X10_undo (by omega) σ A.1 t h.1).mono (fun r τ ⟨h1, h2⟩ => ⟨h1, h2.1.al h h2.2⟩)
theorem km_undo {d : Nat} (hd : 9 ≤ d) (σ : gS) (A : xA) (t : Int32) (h : mAl σ A) : gC d 130 [.ref 0, .int t] σ (fun r τ => r = some (.int (aUndo A.1 t)) ∧ mAl τ (sUndo A.1 t, A.2) ∧ mHigh σ τ) :=
  (s_X11_undo (by omega) σ A.1 t h.1).mono (fun r τ ⟨h1, h2⟩ => ⟨h1, h2.1.al h h2.2⟩)
theorem kc_fault {d : Nat} (hd : 9 ≤ d) (σ : gS) (A : xA) (t : Int32) (h : cAl σ A) : gC d 47 [.ref 18, .int t] σ (fun r τ => r = some (.int (aFault A.1 t)) ∧ cAl τ A ∧ cLow σ τ) :=
  (s_X10_fault (by omega) σ A.1 t h.1).mono (fun r τ ⟨h1, h2⟩ => ⟨h1, by subst h2; exact ⟨h, fun _ _ => rfl⟩⟩)
theorem km_fault {d : Nat} (hd : 9 ≤ d) (σ : gS) (A : xA) (t : Int32) (h : mAl σ A) : gC d 137 [.ref 0, .int t] σ (fun r τ => r = some (.int (aFault A.1 t)) ∧ mAl τ A ∧ mHigh σ τ) :=
  (s_X11_fault (by omega) σ A.1 t h.1).mono (fun r τ ⟨h1, h2⟩ => ⟨h1, h2.al h⟩)
theorem kc_bush {d : Nat} (hd : 9 ≤ d) (σ : gS) (A : xA) (k w : Int32) (h : cAl σ A) : gC d 48 [.ref 18, .int k, .int w] σ (fun r τ => r = some (.int (aBush A.1 k w)) ∧ cAl τ A ∧ cLow σ τ) :=
  (s_X10_bush (by omega) σ A.1 k w h.1).mono (fun r τ ⟨h1, h2⟩ => ⟨h1, by subst h2; exact ⟨h, fun _ _ => rfl⟩⟩)
theorem km_bush {d : Nat} (hd : 9 ≤ d) (σ : gS) (A : xA) (k w : Int32) (h : mAl σ A) : gC d 140 [.ref 0, .int k, .int w] σ (fun r τ => r = some (.int (aBush A.1 k w)) ∧ mAl τ A ∧ mHigh σ τ) :=
  (s_X11_bush (by omega) σ A.1 k w h.1).mono (fun r τ ⟨h1, h2⟩ => ⟨h1, h2.al h⟩)
theorem kc_look {d : Nat} (hd : 9 ≤ d) (σ : gS) (A : xA) (i w : Int32) (h : cAl σ A) : gC d 49 [.ref 18, .int i, .int w] σ (fun r τ => r = some (.int (aLook A.1 i w)) ∧ cAl τ A ∧ cLow σ τ) :=
  (s_X10_look (by omega) σ A.1 i w h.1).mono (fun r τ ⟨h1, h2⟩ => ⟨h1, by subst h2; exact ⟨h, fun _ _ => rfl⟩⟩)
theorem km_look {d : Nat} (hd : 9 ≤ d) (σ : gS) (A : xA) (i w : Int32) (h : mAl σ A) : gC d 142 [.ref 0, .int i, .int w] σ (fun r τ => r = some (.int (aLook A.1 i w)) ∧ mAl τ A ∧ mHigh σ τ) :=
  (s_X11_look (by omega) σ A.1 i w h.1).mono (fun r τ ⟨h1, h2⟩ => ⟨h1, h2.al h⟩)
theorem kc_set {d : Nat} (hd : 9 ≤ d) (σ : gS) (A : xA) (w v : Int32) (h : cAl σ A) : gC d 50 [.ref 18, .int w, .int v] σ (fun r τ => r = some (.int (aSet A.1 w v)) ∧ cAl τ (sSet A.1 w v, A.2) ∧ cLow σ τ) :=
  (s_X10_set (by omega) σ A.1 w v h.1).mono (fun r τ ⟨h1, h2⟩ => ⟨h1, h2.1.al h h2.2⟩)
theorem km_set {d : Nat} (hd : 9 ≤ d) (σ : gS) (A : xA) (w v : Int32) (h : mAl σ A) : gC d 143 [.ref 0, .int w, .int v] σ (fun r τ => r = some (.int (aSet A.1 w v)) ∧ mAl τ (sSet A.1 w v, A.2) ∧ mHigh σ τ) :=
  (s_X11_set (by omega) σ A.1 w v h.1).mono (fun r τ ⟨h1, h2⟩ => ⟨h1, h2.1.al h h2.2⟩)
theorem kc_event {d : Nat} (hd : 9 ≤ d) (σ : gS) (A : xA) (k m b : Int32) (h : cAl σ A) : gC d 51 [.ref 18, .int k, .int m, .int b] σ (fun r τ => r = some (.int (aEvent A.1 k m b)) ∧ cAl τ (sEvent A.1 k m b, A.2) ∧ cLow σ τ) :=
  (s_X10_event (by omega) σ A.1 k m b h.1).mono (fun r τ ⟨h1, h2⟩ => ⟨h1, h2.1.al h h2.2⟩)
theorem km_event {d : Nat} (hd : 9 ≤ d) (σ : gS) (A : xA) (k m b : Int32) (h : mAl σ A) : gC d 145 [.ref 0, .int k, .int m, .int b] σ (fun r τ => r = some (.int (aEvent A.1 k m b)) ∧ mAl τ (sEvent A.1 k m b, A.2) ∧ mHigh σ τ) :=
  (s_X11_event (by omega) σ A.1 k m b h.1).mono (fun r τ ⟨h1, h2⟩ => ⟨h1, h2.1.al h h2.2⟩)
theorem kc_back {d : Nat} (hd : 9 ≤ d) (σ : gS) (A : xA) (h : cAl σ A) : gC d 52 [.ref 18] σ (fun r τ => r = some (.int (aBack A.1)) ∧ cAl τ (sBack A.1, A.2) ∧ cLow σ τ) :=
  (s_X10_back (by omega) σ A.1 h.1).mono (fun r τ ⟨h1, h2⟩ => ⟨h1, h2.1.al h h2.2⟩)
theorem km_back {d : Nat} (hd : 9 ≤ d) (σ : gS) (A : xA) (h : mAl σ A) : gC d 146 [.ref 0] σ (fun r τ => r = some (.int (aBack A.1)) ∧ mAl τ (sBack A.1, A.2) ∧ mHigh σ τ) :=
  (s_X11_back (by omega) σ A.1 h.1).mono (fun r τ ⟨h1, h2⟩ => ⟨h1, h2.1.al h h2.2⟩)
theorem kc_read {d : Nat} (hd : 9 ≤ d) (σ : gS) (A : xA) (s : Int32) (h : cAl σ A) : gC d 53 [.ref 18, .int s] σ (fun r τ => r = some (.int (aRead A.1 A.2.2.1 s)) ∧ cAl τ (sRead A.1 A.2.2.1 s, A.2.1, A.2.2.1, lLose A.2.2.1 A.2.2.2 s) ∧ cLow σ τ) :=
  (s_X10_read (by omega) σ A.1 A.2.2.1 A.2.2.2 s h.1 h.2.2.1 h.2.2.2).mono (fun r τ ⟨h1, h2⟩ => ⟨h1, h2.1.al h h2.2.1 h2.2.2⟩)
theorem km_read {d : Nat} (hd : 9 ≤ d) (σ : gS) (A : xA) (s : Int32) (h : mAl σ A) : gC d 147 [.ref 0, .int s] σ (fun r τ => r = some (.int (aRead A.1 A.2.2.1 s)) ∧ mAl τ (sRead A.1 A.2.2.1 s, A.2.1, A.2.2.1, lLose A.2.2.1 A.2.2.2 s) ∧ mHigh σ τ) :=
  (s_X11_read (by omega) σ A.1 A.2.2.1 A.2.2.2 s h.1 h.2.2.1 h.2.2.2).mono (fun r τ ⟨h1, h2⟩ => ⟨h1, h2.1.al h h2.2.1 h2.2.2⟩)
theorem kc_at {d : Nat} (hd : 9 ≤ d) (σ : gS) (A : xA) (m k w : Int32) (h : cAl σ A) : gC d 54 [.ref 18, .int m, .int k, .int w] σ (fun r τ => r = some (.int (aAt A.1 m k w)) ∧ cAl τ A ∧ cLow σ τ) :=
  (s_X10_at (by omega) σ A.1 m k w h.1).mono (fun r τ ⟨h1, h2⟩ => ⟨h1, h2.al h⟩)
theorem km_at {d : Nat} (hd : 9 ≤ d) (σ : gS) (A : xA) (m k w : Int32) (h : mAl σ A) : gC d 160 [.ref 0, .int m, .int k, .int w] σ (fun r τ => r = some (.int (aAt A.1 m k w)) ∧ mAl τ A ∧ mHigh σ τ) :=
  (s_X11_at (by omega) σ A.1 m k w h.1).mono (fun r τ ⟨h1, h2⟩ => ⟨h1, h2.al h⟩)
theorem kc_hill {d : Nat} (hd : 9 ≤ d) (σ : gS) (A : xA) (m w : Int32) (h : cAl σ A) : gC d 55 [.ref 18, .int m, .int w] σ (fun r τ => r = some (.int (aHill A.1 m w)) ∧ cAl τ A ∧ cLow σ τ) :=
  (s_X10_hill (by omega) σ A.1 m w h.1).mono (fun r τ ⟨h1, h2⟩ => ⟨h1, h2.al h⟩)
theorem km_hill {d : Nat} (hd : 9 ≤ d) (σ : gS) (A : xA) (m w : Int32) (h : mAl σ A) : gC d 162 [.ref 0, .int m, .int w] σ (fun r τ => r = some (.int (aHill A.1 m w)) ∧ mAl τ A ∧ mHigh σ τ) :=
  (s_X11_hill (by omega) σ A.1 m w h.1).mono (fun r τ ⟨h1, h2⟩ => ⟨h1, h2.al h⟩)
theorem kc_bare {d : Nat} (hd : 9 ≤ d) (σ : gS) (A : xA) (h : cAl σ A) : gC d 56 [.ref 18] σ (fun r τ => r = some (.int (aBare A.1)) ∧ cAl τ A ∧ cLow σ τ) :=
  (s_X10_bare (by omega) σ A.1 h.1).mono (fun r τ ⟨h1, h2⟩ => ⟨h1, h2.al h⟩)
theorem km_bare {d : Nat} (hd : 9 ≤ d) (σ : gS) (A : xA) (h : mAl σ A) : gC d 164 [.ref 0] σ (fun r τ => r = some (.int (aBare A.1)) ∧ mAl τ A ∧ mHigh σ τ) :=
  (s_X11_bare (by omega) σ A.1 h.1).mono (fun r τ ⟨h1, h2⟩ => ⟨h1, h2.al h⟩)
theorem kc_run {d : Nat} (hd : 9 ≤ d) (σ : gS) (A : xA) (h : cAl σ A) : gC d 57 [.ref 18] σ (fun r τ => r = some (.int (aRun A.1)) ∧ cAl τ A ∧ cLow σ τ) :=
  (s_X10_run (by omega) σ A.1 h.1).mono (fun r τ ⟨h1, h2⟩ => ⟨h1, h2.al h⟩)
theorem km_run {d : Nat} (hd : 9 ≤ d) (σ : gS) (A : xA) (h : mAl σ A) : gC d 166 [.ref 0] σ (fun r τ => r = some (.int (aRun A.1)) ∧ mAl τ A ∧ mHigh σ τ) :=
  (s_X11_run (by omega) σ A.1 h.1).mono (fun r τ ⟨h1, h2⟩ => ⟨h1, h2.al h⟩)
theorem kc_fake {d : Nat} (hd : 9 ≤ d) (σ : gS) (A : xA) (h : cAl σ A) : gC d 58 [.ref 18] σ (fun r τ => r = some (.int (aFake A.1)) ∧ cAl τ A ∧ cLow σ τ) :=
  (s_X10_fake (by omega) σ A.1 h.1).mono (fun r τ ⟨h1, h2⟩ => ⟨h1, h2.al h⟩)
theorem km_fake {d : Nat} (hd : 9 ≤ d) (σ : gS) (A : xA) (h : mAl σ A) : gC d 168 [.ref 0] σ (fun r τ => r = some (.int (aFake A.1)) ∧ mAl τ A ∧ mHigh σ τ) :=
  (s_X11_fake (by omega) σ A.1 h.1).mono (fun r τ ⟨h1, h2⟩ => ⟨h1, h2.al h⟩)
theorem kc_last {d : Nat} (hd : 9 ≤ d) (σ : gS) (A : xA) (w : Int32) (h : cAl σ A) : gC d 59 [.ref 18, .int w] σ (fun r τ => r = some (.int (aLast A.1 w)) ∧ cAl τ A ∧ cLow σ τ) :=
  (s_X10_last (by omega) σ A.1 w h.1).mono (fun r τ ⟨h1, h2⟩ => ⟨h1, h2.al h⟩)
theorem km_last {d : Nat} (hd : 9 ≤ d) (σ : gS) (A : xA) (w : Int32) (h : mAl σ A) : gC d 170 [.ref 0, .int w] σ (fun r τ => r = some (.int (aLast A.1 w)) ∧ mAl τ A ∧ mHigh σ τ) :=
  (s_X11_last (by omega) σ A.1 w h.1).mono (fun r τ ⟨h1, h2⟩ => ⟨h1, h2.al h⟩)
theorem kc_plant {d : Nat} (hd : 9 ≤ d) (σ : gS) (A : xA) (w : Int32) (h : cAl σ A) : gC d 60 [.ref 18, .int w] σ (fun r τ => r = some (.int (aPlant A.1 w)) ∧ cAl τ A ∧ cLow σ τ) :=
  (s_X10_plant (by omega) σ A.1 w h.1).mono (fun r τ ⟨h1, h2⟩ => ⟨h1, h2.al h⟩)
theorem km_plant {d : Nat} (hd : 9 ≤ d) (σ : gS) (A : xA) (w : Int32) (h : mAl σ A) : gC d 172 [.ref 0, .int w] σ (fun r τ => r = some (.int (aPlant A.1 w)) ∧ mAl τ A ∧ mHigh σ τ) :=
  (s_X11_plant (by omega) σ A.1 w h.1).mono (fun r τ ⟨h1, h2⟩ => ⟨h1, h2.al h⟩)
theorem kc_send {d : Nat} (hd : 9 ≤ d) (σ : gS) (A : xA) (w : Int32) (h : cAl σ A) : gC d 61 [.ref 18, .int w] σ (fun r τ => r = some (.int (aSend A.1 w)) ∧ cAl τ A ∧ cLow σ τ) :=
  (s_X10_send (by omega) σ A.1 w h.1).mono (fun r τ ⟨h1, h2⟩ => ⟨h1, h2.al h⟩)
theorem km_send {d : Nat} (hd : 9 ≤ d) (σ : gS) (A : xA) (w : Int32) (h : mAl σ A) : gC d 174 [.ref 0, .int w] σ (fun r τ => r = some (.int (aSend A.1 w)) ∧ mAl τ A ∧ mHigh σ τ) :=
  (s_X11_send (by omega) σ A.1 w h.1).mono (fun r τ ⟨h1, h2⟩ => ⟨h1, h2.al h⟩)
theorem kc_save {d : Nat} (hd : 9 ≤ d) (σ : gS) (A : xA) (i : Int32) (h : cAl σ A) : gC d 62 [.ref 18, .int i] σ (fun r τ => r = some (.int (aSave A.1 i)) ∧ cAl τ A ∧ cLow σ τ) :=
  (s_X10_save (by omega) σ A.1 i h.1).mono (fun r τ ⟨h1, h2⟩ => ⟨h1, h2.al h⟩)
theorem km_save {d : Nat} (hd : 9 ≤ d) (σ : gS) (A : xA) (i : Int32) (h : mAl σ A) : gC d 177 [.ref 0, .int i] σ (fun r τ => r = some (.int (aSave A.1 i)) ∧ mAl τ A ∧ mHigh σ τ) :=
  (s_X11_save (by omega) σ A.1 i h.1).mono (fun r τ ⟨h1, h2⟩ => ⟨h1, h2.al h⟩)
theorem kc_deal {d : Nat} (hd : 9 ≤ d) (σ : gS) (A : xA) (w : Int32) (h : cAl σ A) : gC d 63 [.ref 18, .int w] σ (fun r τ => r = some (.int (aDeal A.1 w)) ∧ cAl τ A ∧ cLow σ τ) :=
  (s_X10_deal (by omega) σ A.1 w h.1).mono (fun r τ ⟨h1, h2⟩ => ⟨h1, h2.al h⟩)
theorem km_deal {d : Nat} (hd : 9 ≤ d) (σ : gS) (A : xA) (w : Int32) (h : mAl σ A) : gC d 179 [.ref 0, .int w] σ (fun r τ => r = some (.int (aDeal A.1 w)) ∧ mAl τ A ∧ mHigh σ τ) :=
  (s_X11_deal (by omega) σ A.1 w h.1).mono (fun r τ ⟨h1, h2⟩ => ⟨h1, h2.al h⟩)
theorem kc_seen {d : Nat} (hd : 9 ≤ d) (σ : gS) (A : xA) (m k s : Int32) (h : cAl σ A) : gC d 64 [.ref 18, .int m, .int k, .int s] σ (fun r τ => r = some (.int (aSeen A.2.1 m k s)) ∧ cAl τ (A.1, sSeen A.2.1 m k s, A.2.2) ∧ cLow σ τ) :=
  (s_X10_seen (by omega) σ A.2.1 m k s h.2.1).mono (fun r τ ⟨h1, h2⟩ => ⟨h1, h2.1.al h h2.2⟩)
theorem km_seen {d : Nat} (hd : 9 ≤ d) (σ : gS) (A : xA) (m k s : Int32) (h : mAl σ A) : gC d 180 [.ref 0, .int m, .int k, .int s] σ (fun r τ => r = some (.int (aSeen A.2.1 m k s)) ∧ mAl τ (A.1, sSeen A.2.1 m k s, A.2.2) ∧ mHigh σ τ) :=
  (s_X11_seen (by omega) σ A.2.1 m k s h.2.1).mono (fun r τ ⟨h1, h2⟩ => ⟨h1, h2.1.al h h2.2⟩)
theorem kc_forget {d : Nat} (hd : 9 ≤ d) (σ : gS) (A : xA) (h : cAl σ A) : gC d 65 [.ref 18] σ (fun r τ => r = some (.int (nI A.2.1.1)) ∧ cAl τ (A.1, (0, A.2.1.2), A.2.2) ∧ cLow σ τ) :=
  (s_X10_forget (by omega) σ A.2.1 h.2.1).mono (fun r τ ⟨h1, h2⟩ => ⟨h1, h2.1.al h h2.2⟩)
theorem km_forget {d : Nat} (hd : 9 ≤ d) (σ : gS) (A : xA) (h : mAl σ A) : gC d 181 [.ref 0] σ (fun r τ => r = some (.int (nI A.2.1.1)) ∧ mAl τ (A.1, (0, A.2.1.2), A.2.2) ∧ mHigh σ τ) :=
  (s_X11_forget (by omega) σ A.2.1 h.2.1).mono (fun r τ ⟨h1, h2⟩ => ⟨h1, h2.1.al h h2.2⟩)
theorem kc_never {d : Nat} (hd : 9 ≤ d) (σ : gS) (A : xA) (h : cAl σ A) : gC d 66 [.ref 18] σ (fun r τ => r = some (.int (aNever A.1 A.2.1)) ∧ cAl τ A ∧ cLow σ τ) :=
  (s_X10_never (by omega) σ A.1 A.2.1 h.1 h.2.1).mono (fun r τ ⟨h1, h2⟩ => ⟨h1, h2.al h⟩)
theorem km_never {d : Nat} (hd : 9 ≤ d) (σ : gS) (A : xA) (h : mAl σ A) : gC d 184 [.ref 0] σ (fun r τ => r = some (.int (aNever A.1 A.2.1)) ∧ mAl τ A ∧ mHigh σ τ) :=
  (s_X11_never (by omega) σ A.1 A.2.1 h.1 h.2.1).mono (fun r τ ⟨h1, h2⟩ => ⟨h1, h2.al h⟩)
theorem kc_was {d : Nat} (hd : 9 ≤ d) (σ : gS) (A : xA) (k w : Int32) (h : cAl σ A) : gC d 67 [.ref 18, .int k, .int w] σ (fun r τ => r = some (.int (aWas A.1 A.2.1 k w)) ∧ cAl τ A ∧ cLow σ τ) :=
  (s_X10_was (by omega) σ A.1 A.2.1 k w h.1 h.2.1).mono (fun r τ ⟨h1, h2⟩ => ⟨h1, h2.al h⟩)
theorem km_was {d : Nat} (hd : 9 ≤ d) (σ : gS) (A : xA) (k w : Int32) (h : mAl σ A) : gC d 188 [.ref 0, .int k, .int w] σ (fun r τ => r = some (.int (aWas A.1 A.2.1 k w)) ∧ mAl τ A ∧ mHigh σ τ) :=
  (s_X11_was (by omega) σ A.1 A.2.1 k w h.1 h.2.1).mono (fun r τ ⟨h1, h2⟩ => ⟨h1, h2.al h⟩)
theorem kc_ask {d : Nat} (hd : 9 ≤ d) (σ : gS) (A : xA) (k : Int32) (h : cAl σ A) : gC d 68 [.ref 18, .int k] σ (fun r τ => r = some (.int (aAsk A.1 A.2.1 k)) ∧ cAl τ A ∧ cLow σ τ) :=
  (s_X10_ask (by omega) σ A.1 A.2.1 k h.1 h.2.1).mono (fun r τ ⟨h1, h2⟩ => ⟨h1, h2.al h⟩)
theorem km_ask {d : Nat} (hd : 9 ≤ d) (σ : gS) (A : xA) (k : Int32) (h : mAl σ A) : gC d 190 [.ref 0, .int k] σ (fun r τ => r = some (.int (aAsk A.1 A.2.1 k)) ∧ mAl τ A ∧ mHigh σ τ) :=
  (s_X11_ask (by omega) σ A.1 A.2.1 k h.1 h.2.1).mono (fun r τ ⟨h1, h2⟩ => ⟨h1, h2.al h⟩)
theorem kc_luck {d : Nat} (hd : 9 ≤ d) (σ : gS) (A : xA) (c m w : Int32) (h : cAl σ A) : gC d 69 [.ref 18, .int c, .int m, .int w] σ (fun r τ => r = some (.long (aLuck A.1 c m w)) ∧ cAl τ A ∧ cLow σ τ) :=
  (s_X10_luck (by omega) σ A.1 c m w h.1).mono (fun r τ ⟨h1, h2⟩ => ⟨h1, h2.al h⟩)
theorem km_luck {d : Nat} (hd : 9 ≤ d) (σ : gS) (A : xA) (c m w : Int32) (h : mAl σ A) : gC d 192 [.ref 0, .int c, .int m, .int w] σ (fun r τ => r = some (.long (aLuck A.1 c m w)) ∧ mAl τ A ∧ mHigh σ τ) :=
  (s_X11_luck (by omega) σ A.1 c m w h.1).mono (fun r τ ⟨h1, h2⟩ => ⟨h1, h2.al h⟩)
theorem kc_century {d : Nat} (hd : 9 ≤ d) (σ : gS) (A : xA) (s n w : Int32) (h : cAl σ A) : gC d 70 [.ref 18, .int s, .int n, .int w] σ (fun r τ => r = some (.int (aCentury A.1 s n w)) ∧ cAl τ A ∧ cLow σ τ) :=
  (s_X10_century (by omega) σ A.1 s n w h.1).mono (fun r τ ⟨h1, h2⟩ => ⟨h1, h2.al h⟩)
theorem km_century {d : Nat} (hd : 9 ≤ d) (σ : gS) (A : xA) (s n w : Int32) (h : mAl σ A) : gC d 195 [.ref 0, .int s, .int n, .int w] σ (fun r τ => r = some (.int (aCentury A.1 s n w)) ∧ mAl τ A ∧ mHigh σ τ) :=
  (s_X11_century (by omega) σ A.1 s n w h.1).mono (fun r τ ⟨h1, h2⟩ => ⟨h1, h2.al h⟩)
theorem kc_sheet {d : Nat} (hd : 9 ≤ d) (σ : gS) (A : xA) (s f n : Int32) (h : cAl σ A) : gC d 71 [.ref 18, .int s, .int f, .int n] σ (fun r τ => r = some (.int (aSheet s f n)) ∧ cAl τ (A.1, A.2.1, sSheet A.2.2.1 s f n, lSheet A.2.2.2 s f n) ∧ cLow σ τ) :=
  (s_X10_sheet (by omega) σ A.2.2.1 A.2.2.2 s f n h.2.2.1 h.2.2.2).mono (fun r τ ⟨h1, h2⟩ => ⟨h1, h2.1.al h h2.2.1 h2.2.2⟩)
theorem km_sheet {d : Nat} (hd : 9 ≤ d) (σ : gS) (A : xA) (s f n : Int32) (h : mAl σ A) : gC d 121 [.ref 0, .int s, .int f, .int n] σ (fun r τ => r = some (.int (aSheet s f n)) ∧ mAl τ (A.1, A.2.1, sSheet A.2.2.1 s f n, lSheet A.2.2.2 s f n) ∧ mHigh σ τ) :=
  (s_X11_sheet (by omega) σ A.2.2.1 A.2.2.2 s f n h.2.2.1 h.2.2.2).mono (fun r τ ⟨h1, h2⟩ => ⟨h1, h2.1.al h h2.2.1 h2.2.2⟩)
theorem kc_lose {d : Nat} (hd : 9 ≤ d) (σ : gS) (A : xA) (s : Int32) (h : cAl σ A) : gC d 72 [.ref 18, .int s] σ (fun r τ => r = some (.int (aLose A.2.2.1 s)) ∧ cAl τ (A.1, A.2.1, sLose A.2.2.1 s, lLose A.2.2.1 A.2.2.2 s) ∧ cLow σ τ) :=
  (s_X10_lose (by omega) σ A.2.2.1 A.2.2.2 s h.2.2.1 h.2.2.2).mono (fun r τ ⟨h1, h2⟩ => ⟨h1, h2.1.al h h2.2.1 h2.2.2⟩)
theorem km_lose {d : Nat} (hd : 9 ≤ d) (σ : gS) (A : xA) (s : Int32) (h : mAl σ A) : gC d 122 [.ref 0, .int s] σ (fun r τ => r = some (.int (aLose A.2.2.1 s)) ∧ mAl τ (A.1, A.2.1, sLose A.2.2.1 s, lLose A.2.2.1 A.2.2.2 s) ∧ mHigh σ τ) :=
  (s_X11_lose (by omega) σ A.2.2.1 A.2.2.2 s h.2.2.1 h.2.2.2).mono (fun r τ ⟨h1, h2⟩ => ⟨h1, h2.1.al h h2.2.1 h2.2.2⟩)
theorem kc_lay {d : Nat} (hd : 9 ≤ d) (σ : gS) (A : xA) (s f i v : Int32) (h : cAl σ A) : gC d 73 [.ref 18, .int s, .int f, .int i, .int v] σ (fun r τ => r = some (.int (aLay A.2.2.1 s f i v)) ∧ cAl τ (A.1, A.2.1, sLay A.2.2.1 s f i v, lLay A.2.2.1 A.2.2.2 s f i) ∧ cLow σ τ) :=
  (s_X10_lay (by omega) σ A.2.2.1 A.2.2.2 s f i v h.2.2.1 h.2.2.2).mono (fun r τ ⟨h1, h2⟩ => ⟨h1, h2.1.al h h2.2.1 h2.2.2⟩)
theorem km_lay {d : Nat} (hd : 9 ≤ d) (σ : gS) (A : xA) (s f i v : Int32) (h : mAl σ A) : gC d 125 [.ref 0, .int s, .int f, .int i, .int v] σ (fun r τ => r = some (.int (aLay A.2.2.1 s f i v)) ∧ mAl τ (A.1, A.2.1, sLay A.2.2.1 s f i v, lLay A.2.2.1 A.2.2.2 s f i) ∧ mHigh σ τ) :=
  (s_X11_lay (by omega) σ A.2.2.1 A.2.2.2 s f i v h.2.2.1 h.2.2.2).mono (fun r τ ⟨h1, h2⟩ => ⟨h1, h2.1.al h h2.2.1 h2.2.2⟩)
theorem kc_get {d : Nat} (hd : 9 ≤ d) (σ : gS) (A : xA) (s f i : Int32) (h : cAl σ A) : gC d 74 [.ref 18, .int s, .int f, .int i] σ (fun r τ => r = some (.int (aGet A.2.2.1 s f i)) ∧ cAl τ (A.1, A.2.1, A.2.2.1, lLay A.2.2.1 A.2.2.2 s f i) ∧ cLow σ τ) :=
  (s_X10_get (by omega) σ A.2.2.1 A.2.2.2 s f i h.2.2.1 h.2.2.2).mono (fun r τ ⟨h1, h2⟩ => ⟨h1, h2.1.al h h2.2.1 h2.2.2⟩)
theorem km_get {d : Nat} (hd : 9 ≤ d) (σ : gS) (A : xA) (s f i : Int32) (h : mAl σ A) : gC d 126 [.ref 0, .int s, .int f, .int i] σ (fun r τ => r = some (.int (aGet A.2.2.1 s f i)) ∧ mAl τ (A.1, A.2.1, A.2.2.1, lLay A.2.2.1 A.2.2.2 s f i) ∧ mHigh σ τ) :=
  (s_X11_get (by omega) σ A.2.2.1 A.2.2.2 s f i h.2.2.1 h.2.2.2).mono (fun r τ ⟨h1, h2⟩ => ⟨h1, h2.1.al h h2.2.1 h2.2.2⟩)
theorem kc_copy {d : Nat} (hd : 9 ≤ d) (σ : gS) (A : xA) (s i t j n : Int32) (h : cAl σ A) : gC d 75 [.ref 18, .int s, .int i, .int t, .int j, .int n] σ (fun r τ => r = some (.int (aCopy A.2.2.1 s i t j n)) ∧ cAl τ (A.1, A.2.1, sCpy A.2.2.1 s i t j n, lCopy A.2.2.1 A.2.2.2 s i t j n) ∧ cLow σ τ) :=
  (s_X10_copy (by omega) σ A.2.2.1 A.2.2.2 s i t j n h.2.2.1 h.2.2.2).mono (fun r τ ⟨h1, h2⟩ => ⟨h1, h2.1.al h h2.2.1 h2.2.2⟩)
theorem km_copy {d : Nat} (hd : 9 ≤ d) (σ : gS) (A : xA) (s i t j n : Int32) (h : mAl σ A) : gC d 127 [.ref 0, .int s, .int i, .int t, .int j, .int n] σ (fun r τ => r = some (.int (aCopy A.2.2.1 s i t j n)) ∧ mAl τ (A.1, A.2.1, sCpy A.2.2.1 s i t j n, lCopy A.2.2.1 A.2.2.2 s i t j n) ∧ mHigh σ τ) :=
  (s_X11_copy (by omega) σ A.2.2.1 A.2.2.2 s i t j n h.2.2.1 h.2.2.2).mono (fun r τ ⟨h1, h2⟩ => ⟨h1, h2.1.al h h2.2.1 h2.2.2⟩)
theorem kc_write {d : Nat} (hd : 9 ≤ d) (σ : gS) (A : xA) (s : Int32) (h : cAl σ A) : gC d 76 [.ref 18, .int s] σ (fun r τ => r = some (.int (aWrite A.2.2.1 s)) ∧ cAl τ (A.1, A.2.1, sWrite A.1 A.2.2.1 s, lLose A.2.2.1 A.2.2.2 s) ∧ cLow σ τ) :=
  (s_X10_write (by omega) σ A.1 A.2.2.1 A.2.2.2 s h.1 h.2.2.1 h.2.2.2).mono (fun r τ ⟨h1, h2⟩ => ⟨h1, h2.1.al h h2.2.1 h2.2.2⟩)
theorem km_write {d : Nat} (hd : 9 ≤ d) (σ : gS) (A : xA) (s : Int32) (h : mAl σ A) : gC d 196 [.ref 0, .int s] σ (fun r τ => r = some (.int (aWrite A.2.2.1 s)) ∧ mAl τ (A.1, A.2.1, sWrite A.1 A.2.2.1 s, lLose A.2.2.1 A.2.2.2 s) ∧ mHigh σ τ) :=
  (s_X11_write (by omega) σ A.1 A.2.2.1 A.2.2.2 s h.1 h.2.2.1 h.2.2.2).mono (fun r τ ⟨h1, h2⟩ => ⟨h1, h2.1.al h h2.2.1 h2.2.2⟩)
theorem kc_count {d : Nat} (hd : 9 ≤ d) (σ : gS) (A : xA) (w : Int32) (h : cAl σ A) : gC d 77 [.ref 18, .int w] σ (fun r τ => r = some (.int (aCount A.1 A.2.1 A.2.2.2 w)) ∧ cAl τ A ∧ cLow σ τ) :=
  (s_X10_count (by omega) σ A.1 A.2.1 A.2.2.2 w h.1 h.2.1 h.2.2.2).mono (fun r τ ⟨h1, h2⟩ => ⟨h1, h2.al h⟩)
theorem km_count {d : Nat} (hd : 9 ≤ d) (σ : gS) (A : xA) (w : Int32) (h : mAl σ A) : gC d 198 [.ref 0, .int w] σ (fun r τ => r = some (.int (aCount A.1 A.2.1 A.2.2.2 w)) ∧ mAl τ A ∧ mHigh σ τ) :=
  (s_X11_count (by omega) σ A.1 A.2.1 A.2.2.2 w h.1 h.2.1 h.2.2.2).mono (fun r τ ⟨h1, h2⟩ => ⟨h1, h2.al h⟩)
theorem kc_digest {d : Nat} (hd : 9 ≤ d) (σ : gS) (A : xA) (h : cAl σ A) : gC d 78 [.ref 18] σ (fun r τ => r = some (.long (dDig A.1 A.2.1 A.2.2.2)) ∧ cAl τ A ∧ cLow σ τ) :=
  (s_X10_digest (by omega) σ A.1 A.2.1 A.2.2.2 ⟨h.1, h.2.1, h.2.2.2⟩).mono (fun r τ ⟨h1, h2⟩ => ⟨h1, h2.al h⟩)
theorem km_digest {d : Nat} (hd : 9 ≤ d) (σ : gS) (A : xA) (h : mAl σ A) : gC d 201 [.ref 0] σ (fun r τ => r = some (.long (dDig A.1 A.2.1 A.2.2.2)) ∧ mAl τ A ∧ mHigh σ τ) :=
  (s_X11_digest (by omega) σ A.1 A.2.1 A.2.2.2 h.1 h.2.1 h.2.2.2).mono (fun r τ ⟨h1, h2⟩ => ⟨h1, h2.al h⟩)
