/-- the model's memory, while it makes its digest -/
def mRg (τ : gS) (D : xDat) (G : xSig) : Prop := mSt τ D ∧ mSg τ G ∧ mRdyS τ D
def mDgF (σ τ : gS) (nb : Nat) : Prop := (∀ q, q ≠ 0 → q ≠ 7 → q ≠ 10 → q ≠ 11 → q ≠ 12 → q ≠ 13 → q ≠ 14 → q ≠ 16 → q ≠ 17 → τ q = σ q) ∧ (∀ j, j < 3 * nb → τ 7 j = σ 7 j) ∧ ∀ s, s ≠ 23 → s ≠ 27 → τ 0 s = σ 0 s
theorem mDgF.keep {σ τ : gS} {nb : Nat} (h : mDgF σ τ nb) : mKeep σ τ := ⟨fun q h0 hs => h.1 q h0 (fun z => hs (by unfold mScr; omega)) (fun z => hs (by unfold mScr; omega)) (fun z => hs (by unfold mScr; omega)) (fun z => hs (by unfold mScr; omega)) (fun z => hs (by unfold mScr; omega)) (fun z => hs (by unfold mScr; omega)) (fun z => hs (by unfold mScr; omega)) (fun z => hs (by unfold mScr; omega)), fun s _ _ c d => h.2.2 s c d⟩
theorem mRg.fr {σ τ : gS} {D : xDat} {G : xSig} (h : mRg σ D G) (hF : mDgF σ τ (dNb D)) : mRg τ D G := by
  have hs := h.1.keep hF.keep
  refine ⟨hs, h.2.1.keep hF.keep, ⟨hs.2.2.1, ?_, h.2.2.1.2.2.1, hs.2.2.2.2.1, hs.2.2.2.2.2.1⟩, ?_, hs.2.2.2.1, hs.2.2.2.2.2.2⟩
  · have hB := h.2.2.1.2.1
    refine ⟨(hF.2.2 7 (by decide) (by decide)).trans hB.1, hB.2.1, fun i hi => ?_⟩
    rw [hF.2.1 _ (by omega), hF.2.1 _ (by omega), hF.2.1 _ (by omega)]
    exact hB.2.2 i hi
  · have hL := h.2.2.2.1
    unfold mLo at *
    rw [hF.2.2 9 (by decide) (by decide), hF.1 8 (by decide) (by decide) (by decide) (by decide) (by decide) (by decide) (by decide) (by decide) (by decide)]
    exact hL
theorem mDg_pl {σ τ : gS} {nb : Nat} (h : mPlE σ τ nb) : mDgF σ τ nb := ⟨fun q _ a b c d _ f _ _ => h.1 q a b c d f, h.2, fun s _ _ => by rw [h.1 0 (by decide) (by decide) (by decide) (by decide) (by decide)]⟩
theorem mDg_sn {σ τ : gS} {nb : Nat} (h : mSnF σ τ) : mDgF σ τ nb := ⟨fun q a _ b c d e f _ _ => h.1 q a b c d e f, fun j _ => by rw [h.1 7 (by decide) (by decide) (by decide) (by decide) (by decide) (by decide)], fun s a _ => h.2 s a⟩
theorem mDg_gr {σ τ : gS} {nb : Nat} (h : mGrF σ τ) : mDgF σ τ nb := ⟨fun q _ _ b c d _ f _ _ => h q b c d f, fun j _ => by rw [h.c 7], fun s _ _ => by rw [h.c 0]⟩
theorem mDg_lv {σ τ : gS} {nb : Nat} (h : mLvF σ τ) : mDgF σ τ nb := ⟨fun q _ _ b c d e f _ _ => h q b c d e f, fun j _ => by rw [h 7 (by decide) (by decide) (by decide) (by decide) (by decide)], fun s _ _ => by rw [h 0 (by decide) (by decide) (by decide) (by decide) (by decide)]⟩
theorem mDg_ob {σ τ : gS} {nb : Nat} (h : mObF 15 15 σ τ) (h1 : τ 0 15 = σ 0 15) : mDgF σ τ nb := ⟨fun q a _ _ _ _ _ _ _ _ => h.1 q a, fun j _ => by rw [h.1 7 (by decide)], fun s _ _ => by
  by_cases hs : s = 15
  · rw [hs]; exact h1
  · exact h.2 s hs hs⟩
theorem mDg_cn {σ τ : gS} {nb : Nat} (h : mCnF σ τ) : mDgF σ τ nb := ⟨fun q a _ b c d e f _ g => h.1 q a b c d e f g, fun j _ => by rw [h.1 7 (by decide) (by decide) (by decide) (by decide) (by decide) (by decide) (by decide)], fun s _ b => h.2 s b⟩
theorem mAll.ak {σ τ : gS} {D : xDat} {G : xSig} (h : mAll σ D G) (hF : ∀ q, q ≠ 16 → τ q = σ q) : mAll τ D G := by
  unfold mAll mSt mFnd mSg mSi mEv mBu mLo mRow at *
  rw [hF 0 (by decide), hF 5 (by decide), hF 6 (by decide), hF 7 (by decide), hF 8 (by decide), hF 9 (by decide), hF 10 (by decide), hF 11 (by decide), hF 12 (by decide), hF 13 (by decide), hF 14 (by decide), hF 15 (by decide)]
  exact h
theorem xFo_0 (F : Int64 → Nat → Int64) (h : Int64) : h = xFo F h 0 := rfl
theorem mKp_16 {σ τ : gS} (h : ∀ q, q ≠ 16 → τ q = σ q) : mKeep σ τ := ⟨fun q _ b => h q (fun z => b (by unfold mScr; omega)), fun s _ _ _ _ => by rw [h 0 (by decide)]⟩
theorem mFnd.lives {σ τ : gS} {D : xDat} (hL : mLvF σ τ) (hB : mBu σ (dNb D) (dKd D) (dBg D) (dSp D)) (hl : mLo σ (dNl D) (dLm D) (dLb D)) (hrows : ∀ m, m < 24 → mRow τ (dS D gn0) (dQ D gn0) (dSp D) (dNb D) m) (hb : ∀ m, m < 24 → τ 13 m = nI (dBel D none 0 (m + 1))) : mFnd τ D := by
  have h0 := hL 0 (by decide) (by decide) (by decide) (by decide) (by decide)
  exact ⟨mBu_of h0 (hL 7 (by decide) (by decide) (by decide) (by decide) (by decide)) hB, mLo_of h0 (hL 8 (by decide) (by decide) (by decide) (by decide) (by decide)) hl, hrows, hb⟩
def dHl (D : xDat) (m w : Nat) : Int32 := if w = 0 then nI (dYel D m) else if w = 1 then nI (dBel D none 0 (m + 1)) else nI (dSee D m)
def dLk (D : xDat) (i w : Nat) : Int32 := if dNl D ≤ i then -1 else if w = 0 then nI (dLm D i) else nI (dLb D i)
def dLs (D : xDat) (w : Nat) : Int32 := if w = 0 then (xTop (fun k => xSum (fun m => if dS D gn0 m k = 1 then 1 else 0) 24) (dNb D)).1 else (xTop (fun k => xSum (fun m => if dS D gn0 m k = 1 then 1 else 0) 24) (dNb D)).2
def dPl (D : xDat) (w : Nat) : Int32 := if w = 0 then (dPlant D).1 / 12 else if w = 1 then (dPlant D).1 - (dPlant D).1 / 12 * 12 else (dPlant D).2
def dDl (D : xDat) (w : Nat) : Int32 := if w = 0 then (dDeal D).1 / 24 else if w = 1 then (dDeal D).1 - (dDeal D).1 / 24 * 24 else (dDeal D).2
def dg1 (D : xDat) (G : xSig) (l : Nat) (h : Int64) : Int64 := hh (hh (xFo (fun h z => hh h (aCount D G l (nI z))) h 8) (xFlt 4 (xG0 (dC0 D)) (dN0 D))) (xFlt 3 (xG1 (dC1 D)) (dN1 D))
def dg2 (D : xDat) (h : Int64) : Int64 := xFo (fun h z => xFo (fun h y => hh h (dHl D z y)) h 3) h 24
def dg3 (D : xDat) (h : Int64) : Int64 := xFo (fun h z => hh (hh h (dLk D z 0)) (dLk D z 1)) h 12
def dg4 (D : xDat) (G : xSig) (h : Int64) : Int64 := xFo (fun h z => dgBush D G h z) h (dNb D)
def dg5 (D : xDat) (h : Int64) : Int64 := hh (hh (hh (hh (hh h (aBare D)) (aRun D)) (aFake D)) (dLs D 0)) (dLs D 1)
def dg6 (D : xDat) (h : Int64) : Int64 := xFo (fun h z => hh h (dPl D z)) h 3
def dg7 (D : xDat) (h : Int64) : Int64 := xFo (fun h z => hh h (dSendBy D z)) h 3
def dg8 (D : xDat) (h : Int64) : Int64 := hh (hh h (dSave D (-1))) (dSave D 0)
def dg9 (D : xDat) (h : Int64) : Int64 := xFo (fun h z => hh h (dDl D z)) h 3
def dgA (D : xDat) (G : xSig) (h : Int64) : Int64 := 31 * (31 * (31 * (31 * hh h (aNever D G) + jL (dLuck D 5 6 0)) + jL (dLuck D 5 6 1)) + jL (dLuck D 5 13 0)) + jL (dLuck D 5 13 1)
def dgB (D : xDat) (h : Int64) : Int64 := hh (hh h (dCentury D 7 6 0)) (dCentury D 7 6 1)
def dDig (D : xDat) (G : xSig) (l : Nat) : Int64 := dgB D (dgA D G (dg9 D (dg8 D (dg7 D (dg6 D (dg5 D (dg4 D G (dg3 D (dg2 D (dg1 D G l 17))))))))))
set_option maxRecDepth 100000 in
theorem s_X11_digest {d : Nat} (hd : 8 ≤ d) (σ : gS) (D : xDat) (G : xSig) (l : Nat) (hs : mSt σ D) (hg : mSg σ G) (hl : mLa σ l) : gC d 201 [.ref 0] σ (fun r τ => r = some (.long (dDig D G l)) ∧ mKeep σ τ) := by
  obtain ⟨d, rfl⟩ : ∃ k, d = k + 1 := ⟨d - 1, by omega⟩
  refine gC.of (P := pX11_digest) (nL := 5) (rt := (some (.long))) (lv := [some (.ref 0), none, none, none, none]) (by decide +kernel) rfl rfl rfl (by simp [gEnt, Value.category]) rfl ?_
  have hn10 := dNb_le D hs.1.2.1
  refine gR.steps 4 (σ, (6, [some (.ref 0), some (.long 17), none, some (.int 0), none], [])) rfl ?_
  refine gR.forget [some (.ref 0), some (.long (xFo (fun h z => hh h (aCount D G l (nI z))) 17 0)), none, some (.int 0), none] ⟨rfl, ⟨gSomeL ((show 17 = (17 : Int64) from rfl).trans (xFo_0 _ _)), ⟨rfl, trivial⟩⟩⟩ ?_
  refine gR.loop (α := Nat × gS) (fun ⟨k, τ⟩ => k ≤ 8 ∧ mKeep σ τ) (fun ⟨k, τ⟩ => 8 - k) (fun ⟨k, τ⟩ => (τ, (6, [some (.ref 0), some (.long (xFo (fun h z => hh h (aCount D G l (nI z))) 17 k)), none, some (.int (nI k)), none], []))) ?_ ⟨0, σ⟩ ⟨Nat.zero_le 8, mKeep.rf σ⟩
  rintro ⟨k, τ⟩ ⟨hk8, hk⟩ ih
  show gR _ _ _ τ (6, [some (.ref 0), some (.long (xFo (fun h z => hh h (aCount D G l (nI z))) 17 k)), none, some (.int (nI k)), none], [])
  refine gR.steps 2 (τ, (9, [some (.ref 0), some (.long (xFo (fun h z => hh h (aCount D G l (nI z))) 17 k)), none, some (.int (nI k)), none], [.int 8, .int (nI k)])) rfl ?_
  refine gR.ifte rfl (fun zc9 => ?_) (fun zc9 => ?_)
  · rw [gN_le (x := 8) (y := nI k) (a := 8) (b := k) rfl rfl (by omega) (by omega)] at zc9
    obtain rfl : 8 = k := by omega
    refine gR.steps 5 (τ, (38, [some (.ref 0), some (.long (xFo (fun h z => hh h (aCount D G l (nI z))) 17 8)), none, some (.int (nI 8)), none], [.int 0, .ref 0, .long ((31 : Int64) * (xFo (fun h z => hh h (aCount D G l (nI z))) 17 8))])) rfl ?_
    refine gR.call' rfl (s_X11_readsText0 (by omega) τ D (hs.keep hk)) ?_
    rintro _ τ1 ⟨rfl, hk1, hB1, hF1⟩
    have hkA := hk.tr hk1
    show gR _ _ _ τ1 (41, [some (.ref 0), some (.long (xFo (fun h z => hh h (aCount D G l (nI z))) 17 8)), none, some (.int (nI 8)), none], [.int (xFlt 4 (xG0 (dC0 D)) (dN0 D)), .long ((31 : Int64) * (xFo (fun h z => hh h (aCount D G l (nI z))) 17 8))])
    refine gR.steps 8 (τ1, (51, [some (.ref 0), some (.long (((31 : Int64) * (xFo (fun h z => hh h (aCount D G l (nI z))) 17 8)) + (Int32.toInt64 (xFlt 4 (xG0 (dC0 D)) (dN0 D))))), none, some (.int (nI 8)), none], [.int 1, .ref 0, .long ((31 : Int64) * (((31 : Int64) * (xFo (fun h z => hh h (aCount D G l (nI z))) 17 8)) + (Int32.toInt64 (xFlt 4 (xG0 (dC0 D)) (dN0 D)))))])) rfl ?_
    refine gR.call' rfl (s_X11_readsText1 (by omega) τ1 D (hs.keep hkA)) ?_
    rintro _ τ2 ⟨rfl, hk2, hL2, hF2⟩
    have hkB := hkA.tr hk2
    have hB2 : mBu τ2 (dNb D) (dKd D) (dBg D) (dSp D) := mBu_k (hF2.2 7 (by decide)) (hF2.1 7 (by decide) (by decide)) hB1
    have hsB := hs.keep hkB
    show gR _ _ _ τ2 (54, [some (.ref 0), some (.long (((31 : Int64) * (xFo (fun h z => hh h (aCount D G l (nI z))) 17 8)) + (Int32.toInt64 (xFlt 4 (xG0 (dC0 D)) (dN0 D))))), none, some (.int (nI 8)), none], [.int (xFlt 3 (xG1 (dC1 D)) (dN1 D)), .long ((31 : Int64) * (((31 : Int64) * (xFo (fun h z => hh h (aCount D G l (nI z))) 17 8)) + (Int32.toInt64 (xFlt 4 (xG0 (dC0 D)) (dN0 D)))))])
    refine gR.steps 4 (τ2, (58, [some (.ref 0), some (.long (((31 : Int64) * (((31 : Int64) * (xFo (fun h z => hh h (aCount D G l (nI z))) 17 8)) + (Int32.toInt64 (xFlt 4 (xG0 (dC0 D)) (dN0 D))))) + (Int32.toInt64 (xFlt 3 (xG1 (dC1 D)) (dN1 D))))), none, some (.int (nI 8)), none], [.ref 0])) rfl ?_
    refine gR.call' rfl (s_X11_lives (by omega) τ2 (dN D) (dK D) (dM D) (dB D) gn0 false (dNb D) (dKd D) (dBg D) (dSp D) (dNl D) (dLm D) (dLb D) none 0 (dF D) hsB.2.2.1 hB2 (mGone_0 hsB.2.2.2.2.1) (hsB.2.2.2.2.2.1.trans rfl) hL2 hsB.2.2.2.2.2.2 hsB.2.2.2.1.1 hsB.2.2.2.1.2.1) ?_
    rintro _ τ3 ⟨rfl, hF3, hrows, hbel⟩
    have hk3 := hkB.tr (mDg_lv (nb := 0) hF3).keep
    have hf3 : mFnd τ3 D := mFnd.lives hF3 hB2 hL2 hrows hbel
    have hA3 : mAll τ3 D G := ⟨hs.keep hk3, hf3, hg.keep hk3⟩
    show gR _ _ _ τ3 (61, [some (.ref 0), some (.long (((31 : Int64) * (((31 : Int64) * (xFo (fun h z => hh h (aCount D G l (nI z))) 17 8)) + (Int32.toInt64 (xFlt 4 (xG0 (dC0 D)) (dN0 D))))) + (Int32.toInt64 (xFlt 3 (xG1 (dC1 D)) (dN1 D))))), none, some (.int (nI 8)), none], [])
    refine gR.steps 2 (τ3, (63, [some (.ref 0), some (.long (((31 : Int64) * (((31 : Int64) * (xFo (fun h z => hh h (aCount D G l (nI z))) 17 8)) + (Int32.toInt64 (xFlt 4 (xG0 (dC0 D)) (dN0 D))))) + (Int32.toInt64 (xFlt 3 (xG1 (dC1 D)) (dN1 D))))), none, some (.int 0), none], [])) rfl ?_
    refine gR.forget [some (.ref 0), some (.long (xFo (fun h z => xFo (fun h y => hh h (dHl D z y)) h 3) (dg1 D G l 17) 0)), none, some (.int 0), none] ⟨rfl, ⟨gSomeL ((show ((31 : Int64) * (((31 : Int64) * (xFo (fun h z => hh h (aCount D G l (nI z))) 17 8)) + (Int32.toInt64 (xFlt 4 (xG0 (dC0 D)) (dN0 D))))) + (Int32.toInt64 (xFlt 3 (xG1 (dC1 D)) (dN1 D))) = ((dg1 D G l 17) : Int64) from rfl).trans (xFo_0 _ _)), ⟨rfl, trivial⟩⟩⟩ ?_
    refine gR.loop (α := Nat) (fun m => m ≤ 24) (fun m => 24 - m) (fun m => (τ3, (63, [some (.ref 0), some (.long (xFo (fun h z => xFo (fun h y => hh h (dHl D z y)) h 3) (dg1 D G l 17) m)), none, some (.int (nI m)), none], []))) ?_ 0 (Nat.zero_le 24)
    rintro m hm ih2
    show gR _ _ _ τ3 (63, [some (.ref 0), some (.long (xFo (fun h z => xFo (fun h y => hh h (dHl D z y)) h 3) (dg1 D G l 17) m)), none, some (.int (nI m)), none], [])
    refine gR.steps 2 (τ3, (66, [some (.ref 0), some (.long (xFo (fun h z => xFo (fun h y => hh h (dHl D z y)) h 3) (dg1 D G l 17) m)), none, some (.int (nI m)), none], [.int 24, .int (nI m)])) rfl ?_
    refine gR.ifte rfl (fun zc66 => ?_) (fun zc66 => ?_)
    · rw [gN_le (x := 24) (y := nI m) (a := 24) (b := m) rfl rfl (by omega) (by omega)] at zc66
      obtain rfl : 24 = m := by omega
      rw [show xFo (fun h z => xFo (fun h y => hh h (dHl D z y)) h 3) (dg1 D G l 17) 24 = (dg2 D (dg1 D G l 17)) from rfl]
      refine gR.steps 2 (τ3, (107, [some (.ref 0), some (.long (dg2 D (dg1 D G l 17))), none, some (.int 0), none], [])) rfl ?_
      refine gR.forget [some (.ref 0), some (.long (xFo (fun h z => hh (hh h (dLk D z 0)) (dLk D z 1)) (dg2 D (dg1 D G l 17)) 0)), none, some (.int 0), none] ⟨rfl, ⟨gSomeL ((show dg2 D (dg1 D G l 17) = ((dg2 D (dg1 D G l 17)) : Int64) from rfl).trans (xFo_0 _ _)), ⟨rfl, trivial⟩⟩⟩ ?_
      refine gR.loop (α := Nat) (fun i => i ≤ 12) (fun i => 12 - i) (fun i => (τ3, (107, [some (.ref 0), some (.long (xFo (fun h z => hh (hh h (dLk D z 0)) (dLk D z 1)) (dg2 D (dg1 D G l 17)) i)), none, some (.int (nI i)), none], []))) ?_ 0 (Nat.zero_le 12)
      rintro i hi ih4
      show gR _ _ _ τ3 (107, [some (.ref 0), some (.long (xFo (fun h z => hh (hh h (dLk D z 0)) (dLk D z 1)) (dg2 D (dg1 D G l 17)) i)), none, some (.int (nI i)), none], [])
      refine gR.steps 2 (τ3, (110, [some (.ref 0), some (.long (xFo (fun h z => hh (hh h (dLk D z 0)) (dLk D z 1)) (dg2 D (dg1 D G l 17)) i)), none, some (.int (nI i)), none], [.int 12, .int (nI i)])) rfl ?_
      refine gR.ifte rfl (fun zc110 => ?_) (fun zc110 => ?_)
      · rw [gN_le (x := 12) (y := nI i) (a := 12) (b := i) rfl rfl (by omega) (by omega)] at zc110
        obtain rfl : 12 = i := by omega
        rw [show xFo (fun h z => hh (hh h (dLk D z 0)) (dLk D z 1)) (dg2 D (dg1 D G l 17)) 12 = (dg3 D (dg2 D (dg1 D G l 17))) from rfl]
        refine gR.steps 2 (τ3, (149, [some (.ref 0), some (.long (dg3 D (dg2 D (dg1 D G l 17)))), none, some (.int 0), none], [])) rfl ?_
        refine gR.forget [some (.ref 0), some (.long (xFo (fun h z => dgBush D G h z) (dg3 D (dg2 D (dg1 D G l 17))) 0)), none, some (.int 0), none] ⟨rfl, ⟨gSomeL ((show dg3 D (dg2 D (dg1 D G l 17)) = ((dg3 D (dg2 D (dg1 D G l 17))) : Int64) from rfl).trans (xFo_0 _ _)), ⟨rfl, trivial⟩⟩⟩ ?_
        refine gR.loop (α := Nat × gS) (fun ⟨k, τ4⟩ => k ≤ dNb D ∧ mKeep σ τ4 ∧ mAll τ4 D G) (fun ⟨k, τ4⟩ => dNb D - k) (fun ⟨k, τ4⟩ => (τ4, (149, [some (.ref 0), some (.long (xFo (fun h z => dgBush D G h z) (dg3 D (dg2 D (dg1 D G l 17))) k)), none, some (.int (nI k)), none], []))) ?_ ⟨0, τ3⟩ ⟨Nat.zero_le _, hk3, hA3⟩
        rintro ⟨k, τ4⟩ ⟨hkn, hk4, hA⟩ ih5
        show gR _ _ _ τ4 (149, [some (.ref 0), some (.long (xFo (fun h z => dgBush D G h z) (dg3 D (dg2 D (dg1 D G l 17))) k)), none, some (.int (nI k)), none], [])
        refine gR.steps 3 (τ4, (154, [some (.ref 0), some (.long (xFo (fun h z => dgBush D G h z) (dg3 D (dg2 D (dg1 D G l 17))) k)), none, some (.int (nI k)), none], [.int (τ4 0 7), .int (nI k)])) rfl ?_
        refine gR.topI (y := nI (dNb D)) hA.2.1.1.1 ?_
        refine gR.ifte rfl (fun zc154 => ?_) (fun zc154 => ?_)
        · rw [gN_le (x := nI (dNb D)) (y := nI k) (a := dNb D) (b := k) rfl rfl (by omega) (by omega)] at zc154
          have hkk : k = dNb D := by omega
          rw [hkk, show xFo (fun h z => dgBush D G h z) (dg3 D (dg2 D (dg1 D G l 17))) (dNb D) = (dg4 D G (dg3 D (dg2 D (dg1 D G l 17)))) from rfl]
          refine gR.steps 4 (τ4, (176, [some (.ref 0), some (.long (dg4 D G (dg3 D (dg2 D (dg1 D G l 17))))), none, some (.int (nI (dNb D))), none], [.ref 0, .long ((31 : Int64) * (dg4 D G (dg3 D (dg2 D (dg1 D G l 17)))))])) rfl ?_
          have hf := hA.2.1
          have hn10 := dNb_le D hs.1.2.1
          refine gR.callp (x := .int (aBare D)) rfl (s_X11_bareNow (by omega) τ4 (dYel D) (fun m hm => ⟨(hf.2.2.1 m hm).2.1, dYel_le hf.1.sp hn10 m⟩)) ?_
          refine gR.steps 7 (τ4, (188, [some (.ref 0), some (.long (((31 : Int64) * (dg4 D G (dg3 D (dg2 D (dg1 D G l 17))))) + (Int32.toInt64 (aBare D)))), none, some (.int (nI (dNb D))), none], [.ref 0, .long ((31 : Int64) * (((31 : Int64) * (dg4 D G (dg3 D (dg2 D (dg1 D G l 17))))) + (Int32.toInt64 (aBare D))))])) rfl ?_
          refine gR.callp (x := .int (aRun D)) rfl (s_X11_runNow (by omega) τ4 (fun m => dBel D none 0 (m + 1)) (dDb D) (fun m hm => ⟨hf.2.2.2 m hm, xBel_le hs.2.2.2.1.2.1 (m + 1)⟩) hA.1.2.2.2.1.2.2.1 hA.1.2.2.2.1.2.2.2) ?_
          refine gR.steps 7 (τ4, (200, [some (.ref 0), some (.long (((31 : Int64) * (((31 : Int64) * (dg4 D G (dg3 D (dg2 D (dg1 D G l 17))))) + (Int32.toInt64 (aBare D)))) + (Int32.toInt64 (aRun D)))), none, some (.int (nI (dNb D))), none], [.ref 0, .long ((31 : Int64) * (((31 : Int64) * (((31 : Int64) * (dg4 D G (dg3 D (dg2 D (dg1 D G l 17))))) + (Int32.toInt64 (aBare D)))) + (Int32.toInt64 (aRun D))))])) rfl ?_
          refine gR.callp (x := .int (aFake D)) rfl (s_X11_fakeNow (by omega) τ4 (dNb D) (dNl D) (dLm D) (dLb D) (dS D gn0) (dQ D gn0) hf.1.1 hn10 hf.2.1 hf.cells) ?_
          refine gR.steps 8 (τ4, (213, [some (.ref 0), some (.long (((31 : Int64) * (((31 : Int64) * (((31 : Int64) * (dg4 D G (dg3 D (dg2 D (dg1 D G l 17))))) + (Int32.toInt64 (aBare D)))) + (Int32.toInt64 (aRun D)))) + (Int32.toInt64 (aFake D)))), none, some (.int (nI (dNb D))), none], [.int 0, .ref 0, .long ((31 : Int64) * (((31 : Int64) * (((31 : Int64) * (((31 : Int64) * (dg4 D G (dg3 D (dg2 D (dg1 D G l 17))))) + (Int32.toInt64 (aBare D)))) + (Int32.toInt64 (aRun D)))) + (Int32.toInt64 (aFake D))))])) rfl ?_
          refine gR.callp (x := .int (dLs D 0)) rfl (s_X11_lastBy (by omega) τ4 (dNb D) (dS D gn0) (dQ D gn0) 0 hf.1.1 hn10 hf.cells (by omega)) ?_
          refine gR.steps 8 (τ4, (226, [some (.ref 0), some (.long (((31 : Int64) * (((31 : Int64) * (((31 : Int64) * (((31 : Int64) * (dg4 D G (dg3 D (dg2 D (dg1 D G l 17))))) + (Int32.toInt64 (aBare D)))) + (Int32.toInt64 (aRun D)))) + (Int32.toInt64 (aFake D)))) + (Int32.toInt64 (dLs D 0)))), none, some (.int (nI (dNb D))), none], [.int 1, .ref 0, .long ((31 : Int64) * (((31 : Int64) * (((31 : Int64) * (((31 : Int64) * (((31 : Int64) * (dg4 D G (dg3 D (dg2 D (dg1 D G l 17))))) + (Int32.toInt64 (aBare D)))) + (Int32.toInt64 (aRun D)))) + (Int32.toInt64 (aFake D)))) + (Int32.toInt64 (dLs D 0))))])) rfl ?_
          refine gR.callp (x := .int (dLs D 1)) rfl (s_X11_lastBy (by omega) τ4 (dNb D) (dS D gn0) (dQ D gn0) 1 hf.1.1 hn10 hf.cells (by omega)) ?_
          refine gR.steps 5 (τ4, (234, [some (.ref 0), some (.long (((31 : Int64) * (((31 : Int64) * (((31 : Int64) * (((31 : Int64) * (((31 : Int64) * (dg4 D G (dg3 D (dg2 D (dg1 D G l 17))))) + (Int32.toInt64 (aBare D)))) + (Int32.toInt64 (aRun D)))) + (Int32.toInt64 (aFake D)))) + (Int32.toInt64 (dLs D 0)))) + (Int32.toInt64 (dLs D 1)))), none, some (.int 0), none], [])) rfl ?_
          refine gR.forget [some (.ref 0), some (.long (xFo (fun h z => hh h (dPl D z)) (dg5 D (dg4 D G (dg3 D (dg2 D (dg1 D G l 17))))) 0)), none, some (.int 0), none] ⟨rfl, ⟨gSomeL ((show ((31 : Int64) * (((31 : Int64) * (((31 : Int64) * (((31 : Int64) * (((31 : Int64) * (dg4 D G (dg3 D (dg2 D (dg1 D G l 17))))) + (Int32.toInt64 (aBare D)))) + (Int32.toInt64 (aRun D)))) + (Int32.toInt64 (aFake D)))) + (Int32.toInt64 (dLs D 0)))) + (Int32.toInt64 (dLs D 1)) = ((dg5 D (dg4 D G (dg3 D (dg2 D (dg1 D G l 17))))) : Int64) from rfl).trans (xFo_0 _ _)), ⟨rfl, trivial⟩⟩⟩ ?_
          refine gR.loop (α := Nat × gS) (fun ⟨j, τ6⟩ => j ≤ 3 ∧ mKeep σ τ6 ∧ mRg τ6 D G) (fun ⟨j, τ6⟩ => 3 - j) (fun ⟨j, τ6⟩ => (τ6, (234, [some (.ref 0), some (.long (xFo (fun h z => hh h (dPl D z)) (dg5 D (dg4 D G (dg3 D (dg2 D (dg1 D G l 17))))) j)), none, some (.int (nI j)), none], []))) ?_ ⟨0, τ4⟩ ⟨Nat.zero_le 3, hk4, hA.1, hA.2.2, mRdyS.of hA.1 hA.2.1⟩
          rintro ⟨j, τ6⟩ ⟨hj, hk6, hR⟩ ih6
          show gR _ _ _ τ6 (234, [some (.ref 0), some (.long (xFo (fun h z => hh h (dPl D z)) (dg5 D (dg4 D G (dg3 D (dg2 D (dg1 D G l 17))))) j)), none, some (.int (nI j)), none], [])
          refine gR.steps 2 (τ6, (236, [some (.ref 0), some (.long (xFo (fun h z => hh h (dPl D z)) (dg5 D (dg4 D G (dg3 D (dg2 D (dg1 D G l 17))))) j)), none, some (.int (nI j)), none], [.int 3, .int (nI j)])) rfl ?_
          refine gR.ifte rfl (fun zc236 => ?_) (fun zc236 => ?_)
          · rw [gN_le (x := 3) (y := nI j) (a := 3) (b := j) rfl rfl (by omega) (by omega)] at zc236
            obtain rfl : 3 = j := by omega
            rw [show xFo (fun h z => hh h (dPl D z)) (dg5 D (dg4 D G (dg3 D (dg2 D (dg1 D G l 17))))) 3 = (dg6 D (dg5 D (dg4 D G (dg3 D (dg2 D (dg1 D G l 17)))))) from rfl]
            refine gR.steps 2 (τ6, (260, [some (.ref 0), some (.long (dg6 D (dg5 D (dg4 D G (dg3 D (dg2 D (dg1 D G l 17))))))), none, some (.int 0), none], [])) rfl ?_
            refine gR.forget [some (.ref 0), some (.long (xFo (fun h z => hh h (dSendBy D z)) (dg6 D (dg5 D (dg4 D G (dg3 D (dg2 D (dg1 D G l 17)))))) 0)), none, some (.int 0), none] ⟨rfl, ⟨gSomeL ((show dg6 D (dg5 D (dg4 D G (dg3 D (dg2 D (dg1 D G l 17))))) = ((dg6 D (dg5 D (dg4 D G (dg3 D (dg2 D (dg1 D G l 17)))))) : Int64) from rfl).trans (xFo_0 _ _)), ⟨rfl, trivial⟩⟩⟩ ?_
            refine gR.loop (α := Nat × gS) (fun ⟨j, τ7⟩ => j ≤ 3 ∧ mKeep σ τ7 ∧ mRg τ7 D G) (fun ⟨j, τ7⟩ => 3 - j) (fun ⟨j, τ7⟩ => (τ7, (260, [some (.ref 0), some (.long (xFo (fun h z => hh h (dSendBy D z)) (dg6 D (dg5 D (dg4 D G (dg3 D (dg2 D (dg1 D G l 17)))))) j)), none, some (.int (nI j)), none], []))) ?_ ⟨0, τ6⟩ ⟨Nat.zero_le 3, hk6, hR⟩
            rintro ⟨j, τ7⟩ ⟨hj7, hk7, hR7⟩ ih7
            show gR _ _ _ τ7 (260, [some (.ref 0), some (.long (xFo (fun h z => hh h (dSendBy D z)) (dg6 D (dg5 D (dg4 D G (dg3 D (dg2 D (dg1 D G l 17)))))) j)), none, some (.int (nI j)), none], [])
            refine gR.steps 2 (τ7, (262, [some (.ref 0), some (.long (xFo (fun h z => hh h (dSendBy D z)) (dg6 D (dg5 D (dg4 D G (dg3 D (dg2 D (dg1 D G l 17)))))) j)), none, some (.int (nI j)), none], [.int 3, .int (nI j)])) rfl ?_
            refine gR.ifte rfl (fun zc262 => ?_) (fun zc262 => ?_)
            · rw [gN_le (x := 3) (y := nI j) (a := 3) (b := j) rfl rfl (by omega) (by omega)] at zc262
              obtain rfl : 3 = j := by omega
              rw [show xFo (fun h z => hh h (dSendBy D z)) (dg6 D (dg5 D (dg4 D G (dg3 D (dg2 D (dg1 D G l 17)))))) 3 = (dg7 D (dg6 D (dg5 D (dg4 D G (dg3 D (dg2 D (dg1 D G l 17))))))) from rfl]
              refine gR.steps 5 (τ7, (291, [some (.ref 0), some (.long (dg7 D (dg6 D (dg5 D (dg4 D G (dg3 D (dg2 D (dg1 D G l 17)))))))), none, some (.int (nI 3)), none], [.int (-1), .ref 0, .long ((31 : Int64) * (dg7 D (dg6 D (dg5 D (dg4 D G (dg3 D (dg2 D (dg1 D G l 17))))))))])) rfl ?_
              refine gR.call' rfl (s_X11_saveOf (by omega) τ7 D (-1) hR7.2.2.1) ?_
              rintro _ τ8 ⟨rfl, hP8⟩
              have hk8 := hk7.tr (mDg_gr (nb := 0) hP8).keep
              have hR8 := hR7.fr (mDg_gr hP8)
              show gR _ _ _ τ8 (294, [some (.ref 0), some (.long (dg7 D (dg6 D (dg5 D (dg4 D G (dg3 D (dg2 D (dg1 D G l 17)))))))), none, some (.int (nI 3)), none], [.int (dSave D (-1)), .long ((31 : Int64) * (dg7 D (dg6 D (dg5 D (dg4 D G (dg3 D (dg2 D (dg1 D G l 17))))))))])
              refine gR.steps 8 (τ8, (304, [some (.ref 0), some (.long (((31 : Int64) * (dg7 D (dg6 D (dg5 D (dg4 D G (dg3 D (dg2 D (dg1 D G l 17)))))))) + (Int32.toInt64 (dSave D (-1))))), none, some (.int (nI 3)), none], [.int 0, .ref 0, .long ((31 : Int64) * (((31 : Int64) * (dg7 D (dg6 D (dg5 D (dg4 D G (dg3 D (dg2 D (dg1 D G l 17)))))))) + (Int32.toInt64 (dSave D (-1)))))])) rfl ?_
              refine gR.call' rfl (s_X11_saveOf (by omega) τ8 D 0 hR8.2.2.1) ?_
              rintro _ τ9 ⟨rfl, hP9⟩
              have hk9 := hk8.tr (mDg_gr (nb := 0) hP9).keep
              have hR9 := hR8.fr (mDg_gr hP9)
              have hs9 := hR9.1
              show gR _ _ _ τ9 (307, [some (.ref 0), some (.long (((31 : Int64) * (dg7 D (dg6 D (dg5 D (dg4 D G (dg3 D (dg2 D (dg1 D G l 17)))))))) + (Int32.toInt64 (dSave D (-1))))), none, some (.int (nI 3)), none], [.int (dSave D 0), .long ((31 : Int64) * (((31 : Int64) * (dg7 D (dg6 D (dg5 D (dg4 D G (dg3 D (dg2 D (dg1 D G l 17)))))))) + (Int32.toInt64 (dSave D (-1)))))])
              refine gR.steps 4 (τ9, (311, [some (.ref 0), some (.long (((31 : Int64) * (((31 : Int64) * (dg7 D (dg6 D (dg5 D (dg4 D G (dg3 D (dg2 D (dg1 D G l 17)))))))) + (Int32.toInt64 (dSave D (-1))))) + (Int32.toInt64 (dSave D 0)))), none, some (.int (nI 3)), none], [.ref 0])) rfl ?_
              refine gR.call' rfl (s_X11_lives (by omega) τ9 (dN D) (dK D) (dM D) (dB D) gn0 false (dNb D) (dKd D) (dBg D) (dSp D) (dNl D) (dLm D) (dLb D) none 0 (dF D) hs9.2.2.1 hR9.2.2.1.2.1 (mGone_0 hs9.2.2.2.2.1) (hs9.2.2.2.2.2.1.trans rfl) hR9.2.2.2.1 hs9.2.2.2.2.2.2 hs9.2.2.2.1.1 hs9.2.2.2.1.2.1) ?_
              rintro _ τa ⟨rfl, hFa, hrowsa, hbela⟩
              have hka := hk9.tr (mDg_lv (nb := 0) hFa).keep
              have hRa := hR9.fr (mDg_lv hFa)
              show gR _ _ _ τa (314, [some (.ref 0), some (.long (((31 : Int64) * (((31 : Int64) * (dg7 D (dg6 D (dg5 D (dg4 D G (dg3 D (dg2 D (dg1 D G l 17)))))))) + (Int32.toInt64 (dSave D (-1))))) + (Int32.toInt64 (dSave D 0)))), none, some (.int (nI 3)), none], [])
              refine gR.steps 2 (τa, (316, [some (.ref 0), some (.long (((31 : Int64) * (((31 : Int64) * (dg7 D (dg6 D (dg5 D (dg4 D G (dg3 D (dg2 D (dg1 D G l 17)))))))) + (Int32.toInt64 (dSave D (-1))))) + (Int32.toInt64 (dSave D 0)))), none, some (.int 0), none], [])) rfl ?_
              refine gR.forget [some (.ref 0), some (.long (xFo (fun h z => hh h (dDl D z)) (dg8 D (dg7 D (dg6 D (dg5 D (dg4 D G (dg3 D (dg2 D (dg1 D G l 17)))))))) 0)), none, some (.int 0), none] ⟨rfl, ⟨gSomeL ((show ((31 : Int64) * (((31 : Int64) * (dg7 D (dg6 D (dg5 D (dg4 D G (dg3 D (dg2 D (dg1 D G l 17)))))))) + (Int32.toInt64 (dSave D (-1))))) + (Int32.toInt64 (dSave D 0)) = ((dg8 D (dg7 D (dg6 D (dg5 D (dg4 D G (dg3 D (dg2 D (dg1 D G l 17)))))))) : Int64) from rfl).trans (xFo_0 _ _)), ⟨rfl, trivial⟩⟩⟩ ?_
              refine gR.loop (α := Nat) (fun j => j ≤ 3) (fun j => 3 - j) (fun j => (τa, (316, [some (.ref 0), some (.long (xFo (fun h z => hh h (dDl D z)) (dg8 D (dg7 D (dg6 D (dg5 D (dg4 D G (dg3 D (dg2 D (dg1 D G l 17)))))))) j)), none, some (.int (nI j)), none], []))) ?_ 0 (Nat.zero_le 3)
              rintro j hj9 ih8
              show gR _ _ _ τa (316, [some (.ref 0), some (.long (xFo (fun h z => hh h (dDl D z)) (dg8 D (dg7 D (dg6 D (dg5 D (dg4 D G (dg3 D (dg2 D (dg1 D G l 17)))))))) j)), none, some (.int (nI j)), none], [])
              refine gR.steps 2 (τa, (318, [some (.ref 0), some (.long (xFo (fun h z => hh h (dDl D z)) (dg8 D (dg7 D (dg6 D (dg5 D (dg4 D G (dg3 D (dg2 D (dg1 D G l 17)))))))) j)), none, some (.int (nI j)), none], [.int 3, .int (nI j)])) rfl ?_
              refine gR.ifte rfl (fun zc318 => ?_) (fun zc318 => ?_)
              · rw [gN_le (x := 3) (y := nI j) (a := 3) (b := j) rfl rfl (by omega) (by omega)] at zc318
                obtain rfl : 3 = j := by omega
                rw [show xFo (fun h z => hh h (dDl D z)) (dg8 D (dg7 D (dg6 D (dg5 D (dg4 D G (dg3 D (dg2 D (dg1 D G l 17)))))))) 3 = (dg9 D (dg8 D (dg7 D (dg6 D (dg5 D (dg4 D G (dg3 D (dg2 D (dg1 D G l 17))))))))) from rfl]
                refine gR.steps 4 (τa, (346, [some (.ref 0), some (.long (dg9 D (dg8 D (dg7 D (dg6 D (dg5 D (dg4 D G (dg3 D (dg2 D (dg1 D G l 17)))))))))), none, some (.int (nI 3)), none], [.ref 0, .long ((31 : Int64) * (dg9 D (dg8 D (dg7 D (dg6 D (dg5 D (dg4 D G (dg3 D (dg2 D (dg1 D G l 17))))))))))])) rfl ?_
                refine gR.call' rfl (s_X11_neverNow (by omega) τa (dN D) (dK D) (dM D) (dB D) (dNb D) (dKd D) (dBg D) (dSp D) G.1 G.2.1 G.2.2.1 G.2.2.2 hRa.1.2.2.1 hRa.2.2.1.2.1 hRa.1.2.2.2.2.2.1 hRa.2.1) ?_
                rintro _ τb ⟨rfl, hPb, hPb2⟩
                have hDb := mDg_ob (nb := dNb D) hPb (hPb2.trans hRa.1.2.2.2.2.1.symm)
                have hkb := hka.tr hDb.keep
                have hRb := hRa.fr hDb
                show gR _ _ _ τb (349, [some (.ref 0), some (.long (dg9 D (dg8 D (dg7 D (dg6 D (dg5 D (dg4 D G (dg3 D (dg2 D (dg1 D G l 17)))))))))), none, some (.int (nI 3)), none], [.int (aNever D G), .long ((31 : Int64) * (dg9 D (dg8 D (dg7 D (dg6 D (dg5 D (dg4 D G (dg3 D (dg2 D (dg1 D G l 17))))))))))])
                refine gR.steps 10 (τb, (362, [some (.ref 0), some (.long (((31 : Int64) * (dg9 D (dg8 D (dg7 D (dg6 D (dg5 D (dg4 D G (dg3 D (dg2 D (dg1 D G l 17)))))))))) + (Int32.toInt64 (aNever D G)))), none, some (.int (nI 3)), none], [.int 0, .int 6, .int 5, .ref 0, .long ((31 : Int64) * (((31 : Int64) * (dg9 D (dg8 D (dg7 D (dg6 D (dg5 D (dg4 D G (dg3 D (dg2 D (dg1 D G l 17)))))))))) + (Int32.toInt64 (aNever D G))))])) rfl ?_
                refine gR.call' rfl (s_X11_luckOf (by omega) τb D 5 6 0 hRb.2.2.1 (by omega) (by omega) (by omega)) ?_
                rintro _ τc ⟨rfl, hPc, hQc⟩
                have hDc := mDg_ob (nb := dNb D) hPc (hQc.trans hRb.1.2.2.2.2.1.symm)
                have hkc := hkb.tr hDc.keep
                have hRc := hRb.fr hDc
                show gR _ _ _ τc (365, [some (.ref 0), some (.long (((31 : Int64) * (dg9 D (dg8 D (dg7 D (dg6 D (dg5 D (dg4 D G (dg3 D (dg2 D (dg1 D G l 17)))))))))) + (Int32.toInt64 (aNever D G)))), none, some (.int (nI 3)), none], [.long (jL (dLuck D 5 6 0)), .long ((31 : Int64) * (((31 : Int64) * (dg9 D (dg8 D (dg7 D (dg6 D (dg5 D (dg4 D G (dg3 D (dg2 D (dg1 D G l 17)))))))))) + (Int32.toInt64 (aNever D G))))])
                refine gR.steps 9 (τc, (377, [some (.ref 0), some (.long (((31 : Int64) * (((31 : Int64) * (dg9 D (dg8 D (dg7 D (dg6 D (dg5 D (dg4 D G (dg3 D (dg2 D (dg1 D G l 17)))))))))) + (Int32.toInt64 (aNever D G)))) + (jL (dLuck D 5 6 0)))), none, some (.int (nI 3)), none], [.int 1, .int 6, .int 5, .ref 0, .long ((31 : Int64) * (((31 : Int64) * (((31 : Int64) * (dg9 D (dg8 D (dg7 D (dg6 D (dg5 D (dg4 D G (dg3 D (dg2 D (dg1 D G l 17)))))))))) + (Int32.toInt64 (aNever D G)))) + (jL (dLuck D 5 6 0))))])) rfl ?_
                refine gR.call' rfl (s_X11_luckOf (by omega) τc D 5 6 1 hRc.2.2.1 (by omega) (by omega) (by omega)) ?_
                rintro _ τd ⟨rfl, hPd, hQd⟩
                have hDd := mDg_ob (nb := dNb D) hPd (hQd.trans hRc.1.2.2.2.2.1.symm)
                have hkd := hkc.tr hDd.keep
                have hRd := hRc.fr hDd
                show gR _ _ _ τd (380, [some (.ref 0), some (.long (((31 : Int64) * (((31 : Int64) * (dg9 D (dg8 D (dg7 D (dg6 D (dg5 D (dg4 D G (dg3 D (dg2 D (dg1 D G l 17)))))))))) + (Int32.toInt64 (aNever D G)))) + (jL (dLuck D 5 6 0)))), none, some (.int (nI 3)), none], [.long (jL (dLuck D 5 6 1)), .long ((31 : Int64) * (((31 : Int64) * (((31 : Int64) * (dg9 D (dg8 D (dg7 D (dg6 D (dg5 D (dg4 D G (dg3 D (dg2 D (dg1 D G l 17)))))))))) + (Int32.toInt64 (aNever D G)))) + (jL (dLuck D 5 6 0))))])
                refine gR.steps 9 (τd, (392, [some (.ref 0), some (.long (((31 : Int64) * (((31 : Int64) * (((31 : Int64) * (dg9 D (dg8 D (dg7 D (dg6 D (dg5 D (dg4 D G (dg3 D (dg2 D (dg1 D G l 17)))))))))) + (Int32.toInt64 (aNever D G)))) + (jL (dLuck D 5 6 0)))) + (jL (dLuck D 5 6 1)))), none, some (.int (nI 3)), none], [.int 0, .int 13, .int 5, .ref 0, .long ((31 : Int64) * (((31 : Int64) * (((31 : Int64) * (((31 : Int64) * (dg9 D (dg8 D (dg7 D (dg6 D (dg5 D (dg4 D G (dg3 D (dg2 D (dg1 D G l 17)))))))))) + (Int32.toInt64 (aNever D G)))) + (jL (dLuck D 5 6 0)))) + (jL (dLuck D 5 6 1))))])) rfl ?_
                refine gR.call' rfl (s_X11_luckOf (by omega) τd D 5 13 0 hRd.2.2.1 (by omega) (by omega) (by omega)) ?_
                rintro _ τe ⟨rfl, hPe, hQe⟩
                have hDe := mDg_ob (nb := dNb D) hPe (hQe.trans hRd.1.2.2.2.2.1.symm)
                have hke := hkd.tr hDe.keep
                have hRe := hRd.fr hDe
                show gR _ _ _ τe (395, [some (.ref 0), some (.long (((31 : Int64) * (((31 : Int64) * (((31 : Int64) * (dg9 D (dg8 D (dg7 D (dg6 D (dg5 D (dg4 D G (dg3 D (dg2 D (dg1 D G l 17)))))))))) + (Int32.toInt64 (aNever D G)))) + (jL (dLuck D 5 6 0)))) + (jL (dLuck D 5 6 1)))), none, some (.int (nI 3)), none], [.long (jL (dLuck D 5 13 0)), .long ((31 : Int64) * (((31 : Int64) * (((31 : Int64) * (((31 : Int64) * (dg9 D (dg8 D (dg7 D (dg6 D (dg5 D (dg4 D G (dg3 D (dg2 D (dg1 D G l 17)))))))))) + (Int32.toInt64 (aNever D G)))) + (jL (dLuck D 5 6 0)))) + (jL (dLuck D 5 6 1))))])
                refine gR.steps 9 (τe, (407, [some (.ref 0), some (.long (((31 : Int64) * (((31 : Int64) * (((31 : Int64) * (((31 : Int64) * (dg9 D (dg8 D (dg7 D (dg6 D (dg5 D (dg4 D G (dg3 D (dg2 D (dg1 D G l 17)))))))))) + (Int32.toInt64 (aNever D G)))) + (jL (dLuck D 5 6 0)))) + (jL (dLuck D 5 6 1)))) + (jL (dLuck D 5 13 0)))), none, some (.int (nI 3)), none], [.int 1, .int 13, .int 5, .ref 0, .long ((31 : Int64) * (((31 : Int64) * (((31 : Int64) * (((31 : Int64) * (((31 : Int64) * (dg9 D (dg8 D (dg7 D (dg6 D (dg5 D (dg4 D G (dg3 D (dg2 D (dg1 D G l 17)))))))))) + (Int32.toInt64 (aNever D G)))) + (jL (dLuck D 5 6 0)))) + (jL (dLuck D 5 6 1)))) + (jL (dLuck D 5 13 0))))])) rfl ?_
                refine gR.call' rfl (s_X11_luckOf (by omega) τe D 5 13 1 hRe.2.2.1 (by omega) (by omega) (by omega)) ?_
                rintro _ τf ⟨rfl, hPf, hQf⟩
                have hDf := mDg_ob (nb := dNb D) hPf (hQf.trans hRe.1.2.2.2.2.1.symm)
                have hkf := hke.tr hDf.keep
                have hRf := hRe.fr hDf
                show gR _ _ _ τf (410, [some (.ref 0), some (.long (((31 : Int64) * (((31 : Int64) * (((31 : Int64) * (((31 : Int64) * (dg9 D (dg8 D (dg7 D (dg6 D (dg5 D (dg4 D G (dg3 D (dg2 D (dg1 D G l 17)))))))))) + (Int32.toInt64 (aNever D G)))) + (jL (dLuck D 5 6 0)))) + (jL (dLuck D 5 6 1)))) + (jL (dLuck D 5 13 0)))), none, some (.int (nI 3)), none], [.long (jL (dLuck D 5 13 1)), .long ((31 : Int64) * (((31 : Int64) * (((31 : Int64) * (((31 : Int64) * (((31 : Int64) * (dg9 D (dg8 D (dg7 D (dg6 D (dg5 D (dg4 D G (dg3 D (dg2 D (dg1 D G l 17)))))))))) + (Int32.toInt64 (aNever D G)))) + (jL (dLuck D 5 6 0)))) + (jL (dLuck D 5 6 1)))) + (jL (dLuck D 5 13 0))))])
                refine gR.steps 9 (τf, (423, [some (.ref 0), some (.long (((31 : Int64) * (((31 : Int64) * (((31 : Int64) * (((31 : Int64) * (((31 : Int64) * (dg9 D (dg8 D (dg7 D (dg6 D (dg5 D (dg4 D G (dg3 D (dg2 D (dg1 D G l 17)))))))))) + (Int32.toInt64 (aNever D G)))) + (jL (dLuck D 5 6 0)))) + (jL (dLuck D 5 6 1)))) + (jL (dLuck D 5 13 0)))) + (jL (dLuck D 5 13 1)))), none, some (.int (nI 3)), none], [.int 0, .int 6, .int 7, .ref 0, .long ((31 : Int64) * (((31 : Int64) * (((31 : Int64) * (((31 : Int64) * (((31 : Int64) * (((31 : Int64) * (dg9 D (dg8 D (dg7 D (dg6 D (dg5 D (dg4 D G (dg3 D (dg2 D (dg1 D G l 17)))))))))) + (Int32.toInt64 (aNever D G)))) + (jL (dLuck D 5 6 0)))) + (jL (dLuck D 5 6 1)))) + (jL (dLuck D 5 13 0)))) + (jL (dLuck D 5 13 1))))])) rfl ?_
                refine gR.call' rfl (s_X11_centuryOf (by omega) τf D 7 6 0 hRf.2.2 (by omega) (by omega)) ?_
                rintro _ τg ⟨rfl, hPg⟩
                have hkg := hkf.tr (mDg_cn (nb := 0) hPg).keep
                have hRg := hRf.fr (mDg_cn hPg)
                show gR _ _ _ τg (426, [some (.ref 0), some (.long (((31 : Int64) * (((31 : Int64) * (((31 : Int64) * (((31 : Int64) * (((31 : Int64) * (dg9 D (dg8 D (dg7 D (dg6 D (dg5 D (dg4 D G (dg3 D (dg2 D (dg1 D G l 17)))))))))) + (Int32.toInt64 (aNever D G)))) + (jL (dLuck D 5 6 0)))) + (jL (dLuck D 5 6 1)))) + (jL (dLuck D 5 13 0)))) + (jL (dLuck D 5 13 1)))), none, some (.int (nI 3)), none], [.int (dCentury D 7 6 0), .long ((31 : Int64) * (((31 : Int64) * (((31 : Int64) * (((31 : Int64) * (((31 : Int64) * (((31 : Int64) * (dg9 D (dg8 D (dg7 D (dg6 D (dg5 D (dg4 D G (dg3 D (dg2 D (dg1 D G l 17)))))))))) + (Int32.toInt64 (aNever D G)))) + (jL (dLuck D 5 6 0)))) + (jL (dLuck D 5 6 1)))) + (jL (dLuck D 5 13 0)))) + (jL (dLuck D 5 13 1))))])
                refine gR.steps 10 (τg, (440, [some (.ref 0), some (.long (((31 : Int64) * (((31 : Int64) * (((31 : Int64) * (((31 : Int64) * (((31 : Int64) * (((31 : Int64) * (dg9 D (dg8 D (dg7 D (dg6 D (dg5 D (dg4 D G (dg3 D (dg2 D (dg1 D G l 17)))))))))) + (Int32.toInt64 (aNever D G)))) + (jL (dLuck D 5 6 0)))) + (jL (dLuck D 5 6 1)))) + (jL (dLuck D 5 13 0)))) + (jL (dLuck D 5 13 1)))) + (Int32.toInt64 (dCentury D 7 6 0)))), none, some (.int (nI 3)), none], [.int 1, .int 6, .int 7, .ref 0, .long ((31 : Int64) * (((31 : Int64) * (((31 : Int64) * (((31 : Int64) * (((31 : Int64) * (((31 : Int64) * (((31 : Int64) * (dg9 D (dg8 D (dg7 D (dg6 D (dg5 D (dg4 D G (dg3 D (dg2 D (dg1 D G l 17)))))))))) + (Int32.toInt64 (aNever D G)))) + (jL (dLuck D 5 6 0)))) + (jL (dLuck D 5 6 1)))) + (jL (dLuck D 5 13 0)))) + (jL (dLuck D 5 13 1)))) + (Int32.toInt64 (dCentury D 7 6 0))))])) rfl ?_
                refine gR.call' rfl (s_X11_centuryOf (by omega) τg D 7 6 1 hRg.2.2 (by omega) (by omega)) ?_
                rintro _ τh ⟨rfl, hPh⟩
                have hkh := hkg.tr (mDg_cn (nb := 0) hPh).keep
                have hRh := hRg.fr (mDg_cn hPh)
                show gR _ _ _ τh (443, [some (.ref 0), some (.long (((31 : Int64) * (((31 : Int64) * (((31 : Int64) * (((31 : Int64) * (((31 : Int64) * (((31 : Int64) * (dg9 D (dg8 D (dg7 D (dg6 D (dg5 D (dg4 D G (dg3 D (dg2 D (dg1 D G l 17)))))))))) + (Int32.toInt64 (aNever D G)))) + (jL (dLuck D 5 6 0)))) + (jL (dLuck D 5 6 1)))) + (jL (dLuck D 5 13 0)))) + (jL (dLuck D 5 13 1)))) + (Int32.toInt64 (dCentury D 7 6 0)))), none, some (.int (nI 3)), none], [.int (dCentury D 7 6 1), .long ((31 : Int64) * (((31 : Int64) * (((31 : Int64) * (((31 : Int64) * (((31 : Int64) * (((31 : Int64) * (((31 : Int64) * (dg9 D (dg8 D (dg7 D (dg6 D (dg5 D (dg4 D G (dg3 D (dg2 D (dg1 D G l 17)))))))))) + (Int32.toInt64 (aNever D G)))) + (jL (dLuck D 5 6 0)))) + (jL (dLuck D 5 6 1)))) + (jL (dLuck D 5 13 0)))) + (jL (dLuck D 5 13 1)))) + (Int32.toInt64 (dCentury D 7 6 0))))])
                refine gR.steps 2 (τh, (445, [some (.ref 0), some (.long (((31 : Int64) * (((31 : Int64) * (((31 : Int64) * (((31 : Int64) * (((31 : Int64) * (((31 : Int64) * (dg9 D (dg8 D (dg7 D (dg6 D (dg5 D (dg4 D G (dg3 D (dg2 D (dg1 D G l 17)))))))))) + (Int32.toInt64 (aNever D G)))) + (jL (dLuck D 5 6 0)))) + (jL (dLuck D 5 6 1)))) + (jL (dLuck D 5 13 0)))) + (jL (dLuck D 5 13 1)))) + (Int32.toInt64 (dCentury D 7 6 0)))), none, some (.int (nI 3)), none], [.long (((31 : Int64) * (((31 : Int64) * (((31 : Int64) * (((31 : Int64) * (((31 : Int64) * (((31 : Int64) * (((31 : Int64) * (dg9 D (dg8 D (dg7 D (dg6 D (dg5 D (dg4 D G (dg3 D (dg2 D (dg1 D G l 17)))))))))) + (Int32.toInt64 (aNever D G)))) + (jL (dLuck D 5 6 0)))) + (jL (dLuck D 5 6 1)))) + (jL (dLuck D 5 13 0)))) + (jL (dLuck D 5 13 1)))) + (Int32.toInt64 (dCentury D 7 6 0)))) + (Int32.toInt64 (dCentury D 7 6 1)))])) rfl ?_
                refine gR.ret rfl ?_
                exact ⟨trivial, rfl, hkh⟩
              · rw [gN_le (x := 3) (y := nI j) (a := 3) (b := j) rfl rfl (by omega) (by omega)] at zc318
                refine gR.steps 5 (τa, (328, [some (.ref 0), some (.long (xFo (fun h z => hh h (dDl D z)) (dg8 D (dg7 D (dg6 D (dg5 D (dg4 D G (dg3 D (dg2 D (dg1 D G l 17)))))))) j)), none, some (.int (nI j)), none], [.int (nI j), .ref 0, .long ((31 : Int64) * (xFo (fun h z => hh h (dDl D z)) (dg8 D (dg7 D (dg6 D (dg5 D (dg4 D G (dg3 D (dg2 D (dg1 D G l 17)))))))) j))])) rfl ?_
                refine gR.callp (x := .int (dDl D j)) rfl (s_X11_dealBy (by omega) τa (fun m => dBel D none 0 (m + 1)) j (fun m hm => ⟨hbela m hm, xBel_le hs.2.2.2.1.2.1 (m + 1)⟩) (by omega)) ?_
                refine gR.steps 5 (τa, (316, [some (.ref 0), some (.long (((31 : Int64) * (xFo (fun h z => hh h (dDl D z)) (dg8 D (dg7 D (dg6 D (dg5 D (dg4 D G (dg3 D (dg2 D (dg1 D G l 17)))))))) j)) + (Int32.toInt64 (dDl D j)))), none, some (.int ((nI j) + 1)), none], [])) rfl ?_
                refine gR.forget [some (.ref 0), some (.long (xFo (fun h z => hh h (dDl D z)) (dg8 D (dg7 D (dg6 D (dg5 D (dg4 D G (dg3 D (dg2 D (dg1 D G l 17)))))))) (j + 1))), none, some (.int (nI (j + 1))), none] ⟨rfl, ⟨rfl, ⟨gSomeI (gN_add rfl rfl), trivial⟩⟩⟩ ?_
                exact ih8 (j + 1) (by omega) (by omega)
            · rw [gN_le (x := 3) (y := nI j) (a := 3) (b := j) rfl rfl (by omega) (by omega)] at zc262
              refine gR.steps 5 (τ7, (272, [some (.ref 0), some (.long (xFo (fun h z => hh h (dSendBy D z)) (dg6 D (dg5 D (dg4 D G (dg3 D (dg2 D (dg1 D G l 17)))))) j)), none, some (.int (nI j)), none], [.int (nI j), .ref 0, .long ((31 : Int64) * (xFo (fun h z => hh h (dSendBy D z)) (dg6 D (dg5 D (dg4 D G (dg3 D (dg2 D (dg1 D G l 17)))))) j))])) rfl ?_
              refine gR.call' rfl (s_X11_sendBy (by omega) τ7 D j hR7.2.2 (by omega)) ?_
              rintro _ τp ⟨rfl, hP⟩
              show gR _ _ _ τp (275, [some (.ref 0), some (.long (xFo (fun h z => hh h (dSendBy D z)) (dg6 D (dg5 D (dg4 D G (dg3 D (dg2 D (dg1 D G l 17)))))) j)), none, some (.int (nI j)), none], [.int (dSendBy D j), .long ((31 : Int64) * (xFo (fun h z => hh h (dSendBy D z)) (dg6 D (dg5 D (dg4 D G (dg3 D (dg2 D (dg1 D G l 17)))))) j))])
              refine gR.steps 5 (τp, (260, [some (.ref 0), some (.long (((31 : Int64) * (xFo (fun h z => hh h (dSendBy D z)) (dg6 D (dg5 D (dg4 D G (dg3 D (dg2 D (dg1 D G l 17)))))) j)) + (Int32.toInt64 (dSendBy D j)))), none, some (.int ((nI j) + 1)), none], [])) rfl ?_
              refine gR.forget [some (.ref 0), some (.long (xFo (fun h z => hh h (dSendBy D z)) (dg6 D (dg5 D (dg4 D G (dg3 D (dg2 D (dg1 D G l 17)))))) (j + 1))), none, some (.int (nI (j + 1))), none] ⟨rfl, ⟨rfl, ⟨gSomeI (gN_add rfl rfl), trivial⟩⟩⟩ ?_
              exact ih7 ⟨j + 1, _⟩ ⟨by omega, hk7.tr (mDg_sn (nb := dNb D) hP).keep, hR7.fr (mDg_sn hP)⟩ (by dsimp only; omega)
          · rw [gN_le (x := 3) (y := nI j) (a := 3) (b := j) rfl rfl (by omega) (by omega)] at zc236
            refine gR.steps 5 (τ6, (246, [some (.ref 0), some (.long (xFo (fun h z => hh h (dPl D z)) (dg5 D (dg4 D G (dg3 D (dg2 D (dg1 D G l 17))))) j)), none, some (.int (nI j)), none], [.int (nI j), .ref 0, .long ((31 : Int64) * (xFo (fun h z => hh h (dPl D z)) (dg5 D (dg4 D G (dg3 D (dg2 D (dg1 D G l 17))))) j))])) rfl ?_
            refine gR.call' rfl (s_X11_plantBy (by omega) τ6 D j hR.2.2.1 (by omega)) ?_
            rintro _ τp ⟨rfl, hP⟩
            show gR _ _ _ τp (249, [some (.ref 0), some (.long (xFo (fun h z => hh h (dPl D z)) (dg5 D (dg4 D G (dg3 D (dg2 D (dg1 D G l 17))))) j)), none, some (.int (nI j)), none], [.int (dPl D j), .long ((31 : Int64) * (xFo (fun h z => hh h (dPl D z)) (dg5 D (dg4 D G (dg3 D (dg2 D (dg1 D G l 17))))) j))])
            refine gR.steps 5 (τp, (234, [some (.ref 0), some (.long (((31 : Int64) * (xFo (fun h z => hh h (dPl D z)) (dg5 D (dg4 D G (dg3 D (dg2 D (dg1 D G l 17))))) j)) + (Int32.toInt64 (dPl D j)))), none, some (.int ((nI j) + 1)), none], [])) rfl ?_
            refine gR.forget [some (.ref 0), some (.long (xFo (fun h z => hh h (dPl D z)) (dg5 D (dg4 D G (dg3 D (dg2 D (dg1 D G l 17))))) (j + 1))), none, some (.int (nI (j + 1))), none] ⟨rfl, ⟨rfl, ⟨gSomeI (gN_add rfl rfl), trivial⟩⟩⟩ ?_
            exact ih6 ⟨j + 1, _⟩ ⟨by omega, hk6.tr (mDg_pl hP).keep, hR.fr (mDg_pl hP)⟩ (by dsimp only; omega)
        · rw [gN_le (x := nI (dNb D)) (y := nI k) (a := dNb D) (b := k) rfl rfl (by omega) (by omega)] at zc154
          refine gR.steps 3 (τ4, (160, [some (.ref 0), some (.long (xFo (fun h z => dgBush D G h z) (dg3 D (dg2 D (dg1 D G l 17))) k)), none, some (.int (nI k)), none], [.int (nI k), .long (xFo (fun h z => dgBush D G h z) (dg3 D (dg2 D (dg1 D G l 17))) k), .ref 0])) rfl ?_
          refine gR.call' rfl (s_X11_tellsBush (by omega) τ4 D G (xFo (fun h z => dgBush D G h z) (dg3 D (dg2 D (dg1 D G l 17))) k) k hA (by omega)) ?_
          rintro _ τ5 ⟨rfl, hG⟩
          show gR _ _ _ τ5 (163, [some (.ref 0), some (.long (xFo (fun h z => dgBush D G h z) (dg3 D (dg2 D (dg1 D G l 17))) k)), none, some (.int (nI k)), none], [.long (dgBush D G (xFo (fun h z => dgBush D G h z) (dg3 D (dg2 D (dg1 D G l 17))) k) k)])
          refine gR.steps 3 (τ5, (149, [some (.ref 0), some (.long (dgBush D G (xFo (fun h z => dgBush D G h z) (dg3 D (dg2 D (dg1 D G l 17))) k) k)), none, some (.int ((nI k) + 1)), none], [])) rfl ?_
          refine gR.forget [some (.ref 0), some (.long (xFo (fun h z => dgBush D G h z) (dg3 D (dg2 D (dg1 D G l 17))) (k + 1))), none, some (.int (nI (k + 1))), none] ⟨rfl, ⟨rfl, ⟨gSomeI (gN_add rfl rfl), trivial⟩⟩⟩ ?_
          exact ih5 ⟨k + 1, _⟩ ⟨by omega, hk4.tr (mKp_16 hG), hA.ak hG⟩ (by dsimp only; omega)
      · rw [gN_le (x := 12) (y := nI i) (a := 12) (b := i) rfl rfl (by omega) (by omega)] at zc110
        refine gR.steps 6 (τ3, (121, [some (.ref 0), some (.long (xFo (fun h z => hh (hh h (dLk D z 0)) (dLk D z 1)) (dg2 D (dg1 D G l 17)) i)), none, some (.int (nI i)), none], [.int 0, .int (nI i), .ref 0, .long ((31 : Int64) * (xFo (fun h z => hh (hh h (dLk D z 0)) (dLk D z 1)) (dg2 D (dg1 D G l 17)) i))])) rfl ?_
        refine gR.callp (x := .int (dLk D i 0)) rfl (s_X11_lookBy (by omega) τ3 (dNl D) (dLm D) (dLb D) i 0 hf3.2.1 (by omega) (by omega)) ?_
        refine gR.steps 9 (τ3, (135, [some (.ref 0), some (.long (((31 : Int64) * (xFo (fun h z => hh (hh h (dLk D z 0)) (dLk D z 1)) (dg2 D (dg1 D G l 17)) i)) + (Int32.toInt64 (dLk D i 0)))), none, some (.int (nI i)), none], [.int 1, .int (nI i), .ref 0, .long ((31 : Int64) * (((31 : Int64) * (xFo (fun h z => hh (hh h (dLk D z 0)) (dLk D z 1)) (dg2 D (dg1 D G l 17)) i)) + (Int32.toInt64 (dLk D i 0))))])) rfl ?_
        refine gR.callp (x := .int (dLk D i 1)) rfl (s_X11_lookBy (by omega) τ3 (dNl D) (dLm D) (dLb D) i 1 hf3.2.1 (by omega) (by omega)) ?_
        refine gR.steps 5 (τ3, (107, [some (.ref 0), some (.long (((31 : Int64) * (((31 : Int64) * (xFo (fun h z => hh (hh h (dLk D z 0)) (dLk D z 1)) (dg2 D (dg1 D G l 17)) i)) + (Int32.toInt64 (dLk D i 0)))) + (Int32.toInt64 (dLk D i 1)))), none, some (.int ((nI i) + 1)), none], [])) rfl ?_
        refine gR.forget [some (.ref 0), some (.long (xFo (fun h z => hh (hh h (dLk D z 0)) (dLk D z 1)) (dg2 D (dg1 D G l 17)) (i + 1))), none, some (.int (nI (i + 1))), none] ⟨rfl, ⟨rfl, ⟨gSomeI (gN_add rfl rfl), trivial⟩⟩⟩ ?_
        exact ih4 (i + 1) (by omega) (by omega)
    · rw [gN_le (x := 24) (y := nI m) (a := 24) (b := m) rfl rfl (by omega) (by omega)] at zc66
      refine gR.steps 2 (τ3, (72, [some (.ref 0), some (.long (xFo (fun h z => xFo (fun h y => hh h (dHl D z y)) h 3) (dg1 D G l 17) m)), none, some (.int (nI m)), some (.int 0)], [])) rfl ?_
      refine gR.forget [some (.ref 0), some (.long (xFo (fun h y => hh h (dHl D m y)) (xFo (fun h z => xFo (fun h y => hh h (dHl D z y)) h 3) (dg1 D G l 17) m) 0)), none, some (.int (nI m)), some (.int 0)] ⟨rfl, ⟨rfl, ⟨rfl, ⟨rfl, trivial⟩⟩⟩⟩ ?_
      refine gR.loop (α := Nat) (fun j => j ≤ 3) (fun j => 3 - j) (fun j => (τ3, (72, [some (.ref 0), some (.long (xFo (fun h y => hh h (dHl D m y)) (xFo (fun h z => xFo (fun h y => hh h (dHl D z y)) h 3) (dg1 D G l 17) m) j)), none, some (.int (nI m)), some (.int (nI j))], []))) ?_ 0 (Nat.zero_le 3)
      rintro j hj ih3
      show gR _ _ _ τ3 (72, [some (.ref 0), some (.long (xFo (fun h y => hh h (dHl D m y)) (xFo (fun h z => xFo (fun h y => hh h (dHl D z y)) h 3) (dg1 D G l 17) m) j)), none, some (.int (nI m)), some (.int (nI j))], [])
      refine gR.steps 2 (τ3, (75, [some (.ref 0), some (.long (xFo (fun h y => hh h (dHl D m y)) (xFo (fun h z => xFo (fun h y => hh h (dHl D z y)) h 3) (dg1 D G l 17) m) j)), none, some (.int (nI m)), some (.int (nI j))], [.int 3, .int (nI j)])) rfl ?_
      refine gR.ifte rfl (fun zc75 => ?_) (fun zc75 => ?_)
      · rw [gN_le (x := 3) (y := nI j) (a := 3) (b := j) rfl rfl (by omega) (by omega)] at zc75
        obtain rfl : 3 = j := by omega
        refine gR.steps 2 (τ3, (63, [some (.ref 0), some (.long (xFo (fun h y => hh h (dHl D m y)) (xFo (fun h z => xFo (fun h y => hh h (dHl D z y)) h 3) (dg1 D G l 17) m) 3)), none, some (.int ((nI m) + 1)), some (.int (nI 3))], [])) rfl ?_
        refine gR.forget [some (.ref 0), some (.long (xFo (fun h z => xFo (fun h y => hh h (dHl D z y)) h 3) (dg1 D G l 17) (m + 1))), none, some (.int (nI (m + 1))), none] ⟨rfl, ⟨rfl, ⟨gSomeI (gN_add rfl rfl), trivial⟩⟩⟩ ?_
        exact ih2 (m + 1) (by omega) (by omega)
      · rw [gN_le (x := 3) (y := nI j) (a := 3) (b := j) rfl rfl (by omega) (by omega)] at zc75
        refine gR.steps 6 (τ3, (87, [some (.ref 0), some (.long (xFo (fun h y => hh h (dHl D m y)) (xFo (fun h z => xFo (fun h y => hh h (dHl D z y)) h 3) (dg1 D G l 17) m) j)), none, some (.int (nI m)), some (.int (nI j))], [.int (nI j), .int (nI m), .ref 0, .long ((31 : Int64) * (xFo (fun h y => hh h (dHl D m y)) (xFo (fun h z => xFo (fun h y => hh h (dHl D z y)) h 3) (dg1 D G l 17) m) j))])) rfl ?_
        refine gR.callp (x := .int (dHl D m j)) rfl (s_X11_hillBy (by omega) τ3 m j (dYel D m) (dBel D none 0 (m + 1)) (dSee D m) (by omega) (by omega) (hf3.2.2.1 m (by omega)).2.1 (hf3.2.2.2 m (by omega)) (hf3.2.2.1 m (by omega)).2.2) ?_
        refine gR.steps 5 (τ3, (72, [some (.ref 0), some (.long (((31 : Int64) * (xFo (fun h y => hh h (dHl D m y)) (xFo (fun h z => xFo (fun h y => hh h (dHl D z y)) h 3) (dg1 D G l 17) m) j)) + (Int32.toInt64 (dHl D m j)))), none, some (.int (nI m)), some (.int ((nI j) + 1))], [])) rfl ?_
        refine gR.forget [some (.ref 0), some (.long (xFo (fun h y => hh h (dHl D m y)) (xFo (fun h z => xFo (fun h y => hh h (dHl D z y)) h 3) (dg1 D G l 17) m) (j + 1))), none, some (.int (nI m)), some (.int (nI (j + 1)))] ⟨rfl, ⟨rfl, ⟨rfl, ⟨gSomeI (gN_add rfl rfl), trivial⟩⟩⟩⟩ ?_
        exact ih3 (j + 1) (by omega) (by omega)
  · rw [gN_le (x := 8) (y := nI k) (a := 8) (b := k) rfl rfl (by omega) (by omega)] at zc9
    refine gR.steps 5 (τ, (19, [some (.ref 0), some (.long (xFo (fun h z => hh h (aCount D G l (nI z))) 17 k)), none, some (.int (nI k)), none], [.int (nI k), .ref 0, .long ((31 : Int64) * (xFo (fun h z => hh h (aCount D G l (nI z))) 17 k))])) rfl ?_
    refine gR.call' rfl (s_X11_count (by omega) τ D G l (nI k) (hs.keep hk) (hg.keep hk) ((hk.2 4 (by decide) (by decide) (by decide) (by decide)).trans hl)) ?_
    rintro _ τ2 ⟨rfl, hk2⟩
    show gR _ _ _ τ2 (22, [some (.ref 0), some (.long (xFo (fun h z => hh h (aCount D G l (nI z))) 17 k)), none, some (.int (nI k)), none], [.int (aCount D G l (nI k)), .long ((31 : Int64) * (xFo (fun h z => hh h (aCount D G l (nI z))) 17 k))])
    refine gR.steps 5 (τ2, (6, [some (.ref 0), some (.long (((31 : Int64) * (xFo (fun h z => hh h (aCount D G l (nI z))) 17 k)) + (Int32.toInt64 (aCount D G l (nI k))))), none, some (.int ((nI k) + 1)), none], [])) rfl ?_
    refine gR.forget [some (.ref 0), some (.long (xFo (fun h z => hh h (aCount D G l (nI z))) 17 (k + 1))), none, some (.int (nI (k + 1))), none] ⟨rfl, ⟨rfl, ⟨gSomeI (gN_add rfl rfl), trivial⟩⟩⟩ ?_
    exact ih ⟨k + 1, _⟩ ⟨by omega, hk.tr hk2⟩ (by dsimp only; omega)
