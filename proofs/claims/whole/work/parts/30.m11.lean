/-- behind a byte typed, a text wiped, a byte undone -/
def xPut (f : Nat → Nat) (n v : Nat) : Nat → Nat := fun i => if i = n then v else f i
def dSet0 (D : xDat) (n : Nat) (c : Nat → Nat) : xDat := ((n, c), D.2)
def dSet1 (D : xDat) (n : Nat) (c : Nat → Nat) : xDat := (D.1, (n, c), D.2.2)
def dSetE (D : xDat) (n : Nat) (K M B : Nat → Nat) : xDat := (D.1, D.2.1, (n, K, M, B), D.2.2.2)
def dSetF (D : xDat) (f db : Nat) : xDat := (D.1, D.2.1, D.2.2.1, (f, db))
def aType (D : xDat) (t b : Int32) : Int32 := if (0 ≤ t.toInt ∧ t.toInt ≤ 1) ∧ (0 ≤ b.toInt ∧ b.toInt ≤ 255) then (if t = 0 then (if dN0 D = 39 then -4 else nI (dN0 D + 1)) else (if dN1 D = 35 then -4 else nI (dN1 D + 1))) else -2
def sType (D : xDat) (t b : Int32) : xDat := if (0 ≤ t.toInt ∧ t.toInt ≤ 1) ∧ (0 ≤ b.toInt ∧ b.toInt ≤ 255) then (if t = 0 then (if dN0 D = 39 then D else dSet0 D (dN0 D + 1) (xPut (dC0 D) (dN0 D) b.toNatClampNeg)) else (if dN1 D = 35 then D else dSet1 D (dN1 D + 1) (xPut (dC1 D) (dN1 D) b.toNatClampNeg))) else D
def aWipe (D : xDat) (t : Int32) : Int32 := if 0 ≤ t.toInt ∧ t.toInt ≤ 1 then (if t = 0 then nI (dN0 D) else nI (dN1 D)) else -2
def sWipe (D : xDat) (t : Int32) : xDat := if 0 ≤ t.toInt ∧ t.toInt ≤ 1 then (if t = 0 then dSet0 D 0 (dC0 D) else dSet1 D 0 (dC1 D)) else D
def aUndo (D : xDat) (t : Int32) : Int32 := if 0 ≤ t.toInt ∧ t.toInt ≤ 1 then (if t = 0 then (if dN0 D = 0 then -3 else nI (dN0 D - 1)) else (if dN1 D = 0 then -3 else nI (dN1 D - 1))) else -2
def sUndo (D : xDat) (t : Int32) : xDat := if 0 ≤ t.toInt ∧ t.toInt ≤ 1 then (if t = 0 then (if dN0 D = 0 then D else dSet0 D (dN0 D - 1) (dC0 D)) else (if dN1 D = 0 then D else dSet1 D (dN1 D - 1) (dC1 D))) else D
def mTxF (σ τ : gS) : Prop := ∀ q, q ≠ 5 → q ≠ 6 → τ q = σ q
theorem mSt_tx {σ τ : gS} {D : xDat} (h : mSt σ D) (hF : mTxF σ τ) : mEv τ (dN D) (dK D) (dM D) (dB D) ∧ (τ 0 11 = nI (dF D) ∧ dF D ≤ 100 ∧ τ 0 12 = nI (dDb D) ∧ dDb D ≤ 50) ∧ τ 0 15 = 0 ∧ τ 0 21 = 0 ∧ τ 0 22 = -1 := by
  have h0 := hF 0 (by decide) (by decide)
  rw [h0]
  exact ⟨mEv_of h0 (hF 9 (by decide) (by decide)) h.2.2.1, h.2.2.2⟩
theorem mSt_type0 {σ : gS} {D : xDat} {b : Nat} {x y : Int32} (h : mSt σ D) (hn : dN0 D < 39) (hx : x = nI b) (hb : b < 256) (hy : y = nI (dN0 D + 1)) : mSt (gUp (gUp σ 5 (dN0 D) x) 6 0 y) (dSet0 D (dN0 D + 1) (xPut (dC0 D) (dN0 D) b)) := by
  refine ⟨⟨by rw [gUp_s]; exact hy, hn, fun i hi => ?_⟩, ⟨by rw [gUp_o (by omega), gUp_o (by omega)]; exact h.2.1.1, h.2.1.2.1, fun i hi => ?_⟩, mSt_tx (D := D) h (fun q h5 h6 => by rw [gUp_ne h6, gUp_ne h5])⟩
  · show gUp (gUp σ 5 (dN0 D) x) 6 0 y 5 i = nI (xPut (dC0 D) (dN0 D) b i) ∧ xPut (dC0 D) (dN0 D) b i < 256
    rw [gUp_o (by omega)]
    unfold xPut
    by_cases hi2 : i = dN0 D
    · rw [if_pos hi2, hi2, gUp_s]; exact ⟨hx, hb⟩
    · rw [if_neg hi2, gUp_o (by omega)]
      exact h.1.2.2 i (by have : i < dN0 D + 1 := hi; omega)
  · have := h.2.1.2.2 i hi
    have h35 : dN1 D ≤ 35 := h.2.1.2.1
    rw [gUp_o (by omega), gUp_o (by omega)]
    exact this
theorem mSt_type1 {σ : gS} {D : xDat} {b : Nat} {x y : Int32} (h : mSt σ D) (hn : dN1 D < 35) (hx : x = nI b) (hb : b < 256) (hy : y = nI (dN1 D + 1)) : mSt (gUp (gUp σ 5 (40 + dN1 D) x) 6 1 y) (dSet1 D (dN1 D + 1) (xPut (dC1 D) (dN1 D) b)) := by
  have h39 : dN0 D ≤ 39 := h.1.2.1
  refine ⟨⟨by rw [gUp_o (by omega), gUp_o (by omega)]; exact h.1.1, h.1.2.1, fun i hi => ?_⟩, ⟨by rw [gUp_s]; exact hy, hn, fun i hi => ?_⟩, mSt_tx (D := D) h (fun q h5 h6 => by rw [gUp_ne h6, gUp_ne h5])⟩
  · have h3 : i < dN0 D := hi
    rw [gUp_o (by omega), gUp_o (by omega)]
    exact h.1.2.2 i hi
  · show gUp (gUp σ 5 (40 + dN1 D) x) 6 1 y 5 (40 + i) = nI (xPut (dC1 D) (dN1 D) b i) ∧ xPut (dC1 D) (dN1 D) b i < 256
    rw [gUp_o (by omega)]
    unfold xPut
    by_cases hi2 : i = dN1 D
    · rw [if_pos hi2, hi2, gUp_s]; exact ⟨hx, hb⟩
    · rw [if_neg hi2, gUp_o (by omega)]
      exact h.2.1.2.2 i (by have : i < dN1 D + 1 := hi; omega)
theorem mSt_len0 {σ : gS} {D : xDat} {n : Nat} {y : Int32} (h : mSt σ D) (hn : n ≤ dN0 D) (hy : y = nI n) : mSt (gUp σ 6 0 y) (dSet0 D n (dC0 D)) := by
  refine ⟨⟨by rw [gUp_s]; exact hy, Nat.le_trans hn h.1.2.1, fun i hi => ?_⟩, ⟨by rw [gUp_o (by omega)]; exact h.2.1.1, h.2.1.2.1, fun i hi => ?_⟩, mSt_tx (D := D) h (fun q h5 h6 => by rw [gUp_ne h6])⟩
  · rw [gUp_o (by omega)]; exact h.1.2.2 i (Nat.lt_of_lt_of_le hi hn)
  · rw [gUp_o (by omega)]; exact h.2.1.2.2 i hi
theorem mSt_len1 {σ : gS} {D : xDat} {n : Nat} {y : Int32} (h : mSt σ D) (hn : n ≤ dN1 D) (hy : y = nI n) : mSt (gUp σ 6 1 y) (dSet1 D n (dC1 D)) := by
  refine ⟨⟨by rw [gUp_o (by omega)]; exact h.1.1, h.1.2.1, fun i hi => ?_⟩, ⟨by rw [gUp_s]; exact hy, Nat.le_trans hn h.2.1.2.1, fun i hi => ?_⟩, mSt_tx (D := D) h (fun q h5 h6 => by rw [gUp_ne h6])⟩
  · rw [gUp_o (by omega)]; exact h.1.2.2 i hi
  · rw [gUp_o (by omega)]; exact h.2.1.2.2 i (Nat.lt_of_lt_of_le hi hn)
theorem mTxF_up {σ τ : gS} {q k : Nat} {v : Int32} (hq : q = 5 ∨ q = 6) (h : mTxF σ τ) : mTxF σ (gUp τ q k v) := fun p h5 h6 => by
  rw [gUp_ne (by omega)]; exact h p h5 h6
theorem mTxF.rf (σ : gS) : mTxF σ σ := fun _ _ _ => rfl
theorem two_of {t : Int32} (h : 0 ≤ t.toInt ∧ t.toInt ≤ 1) : t = 0 ∨ t = 1 := by
  rcases (show t.toInt = 0 ∨ t.toInt = 1 by omega) with z | z
  · exact Or.inl (Int32.toInt_inj.mp (by rw [z]; decide))
  · exact Or.inr (Int32.toInt_inj.mp (by rw [z]; decide))
theorem s_X11_type0 {d : Nat} (hd : 3 ≤ d) (σ : gS) (D : xDat) (b : Int32) (hs : mSt σ D) : gC d 128 [.ref 0, .int 0, .int b] σ (fun r τ => r = some (.int (aType D 0 b)) ∧ mTxF σ τ ∧ mSt τ (sType D 0 b)) := by
  obtain ⟨d, rfl⟩ : ∃ k, d = k + 1 := ⟨d - 1, by omega⟩
  refine gC.of (P := pX11_type) (nL := 3) (rt := (some (.int))) (lv := [some (.ref 0), some (.int 0), some (.int b)]) (by decide +kernel) rfl rfl rfl (by simp [gEnt, Value.category]) rfl ?_
  have hn39 := hs.1.2.1
  have hn35 := hs.2.1.2.1
  refine gR.steps 1 (σ, (1, [some (.ref 0), some (.int 0), some (.int b)], [.int 0])) rfl ?_
  refine gR.callp rfl (s_X11_isTwo (by omega) σ 0) ?_
  refine gR.brF rfl (by rw [bI_eq0]; exact Decidable.not_not.mpr (by decide)) ?_
  refine gR.steps 4 (σ, (13, [some (.ref 0), some (.int 0), some (.int b)], [.long 255, .long 0, .long (Int32.toInt64 b)])) rfl ?_
  refine gR.callp rfl (s_X11_inI (by omega) σ b 0 255 0 255 (by decide) (by decide)) ?_
  refine gR.ifte rfl (fun zc16 => ?_) (fun zc16 => ?_)
  · rw [bI_ne0] at zc16
    obtain ⟨bb, hbb, rfl⟩ := gN_of (x := b) (n := 256) (by omega) (by omega) (by omega)
    refine gR.steps 3 (σ, (27, [some (.ref 0), some (.int 0), some (.int (nI bb))], [.int 0, .ref 6])) rfl ?_
    refine gR.ald (i := 0) (j := 0) (N := 2) (g := σ 6) rfl rfl (by omega) (by omega) ?_
    refine gR.topI (y := nI (dN0 D)) hs.1.1 ?_
    refine gR.steps 1 (σ, (29, [some (.ref 0), some (.int 0), some (.int (nI bb))], [.int 0, .int (nI (dN0 D))])) rfl ?_
    refine gR.brF rfl (by decide) ?_
    refine gR.steps 2 (σ, (39, [some (.ref 0), some (.int 0), some (.int (nI bb))], [.int 39, .int (nI (dN0 D))])) rfl ?_
    refine gR.ifte rfl (fun zc39 => ?_) (fun zc39 => ?_)
    · rw [gN_eq (x := nI (dN0 D)) (y := 39) (a := dN0 D) (b := 39) rfl rfl (by omega) (by omega)] at zc39
      refine gR.steps 8 (σ, (58, [some (.ref 0), some (.int 0), some (.int (nI bb))], [.int 0, .ref 6, .int ((40 : Int32) * 0), .ref 5])) rfl ?_
      refine gR.ald (i := 0) (j := 0) (N := 2) (g := σ 6) rfl rfl (by omega) (by omega) ?_
      refine gR.topI (y := nI (dN0 D)) hs.1.1 ?_
      refine gR.steps 2 (σ, (61, [some (.ref 0), some (.int 0), some (.int (nI bb))], [.int (nI bb), .int (((40 : Int32) * 0) + (nI (dN0 D))), .ref 5])) rfl ?_
      refine gR.ast (i := ((40 : Int32) * 0) + (nI (dN0 D))) (j := dN0 D) (N := 80) (q := 5) (x := nI bb) rfl (by rw [show (40 : Int32) * 0 = nI 0 from rfl]; exact (gN_add rfl rfl).trans (congrArg nI (by omega))) (by omega) (by omega) ?_
      refine gR.steps 4 (gUp σ 5 (dN0 D) (nI bb), (68, [some (.ref 0), some (.int 0), some (.int (nI bb))], [.int 0, .ref 6, .int 0, .ref 6])) rfl ?_
      refine gR.ald (i := 0) (j := 0) (N := 2) (g := (gUp σ 5 (dN0 D) (nI bb)) 6) rfl rfl (by omega) (by omega) ?_
      refine gR.topI (y := σ 6 0) (by rw [gUp_o (by omega)]) ?_
      refine gR.topI (y := nI (dN0 D)) hs.1.1 ?_
      refine gR.steps 2 (gUp σ 5 (dN0 D) (nI bb), (71, [some (.ref 0), some (.int 0), some (.int (nI bb))], [.int ((nI (dN0 D)) + 1), .int 0, .ref 6])) rfl ?_
      refine gR.ast (i := 0) (j := 0) (N := 2) (q := 6) (x := (nI (dN0 D)) + 1) rfl rfl (by omega) (by omega) ?_
      refine gR.steps 3 (gUp (gUp σ 5 (dN0 D) (nI bb)) 6 0 ((nI (dN0 D)) + 1), (77, [some (.ref 0), some (.int 0), some (.int (nI bb))], [.int 0, .ref 6])) rfl ?_
      refine gR.ald (i := 0) (j := 0) (N := 2) (g := (gUp (gUp σ 5 (dN0 D) (nI bb)) 6 0 ((nI (dN0 D)) + 1)) 6) rfl rfl (by omega) (by omega) ?_
      refine gR.topI (y := (nI (dN0 D)) + 1) (by rw [gUp_s]) ?_
      refine gR.topI (y := nI (dN0 D + 1)) (gN_add rfl rfl) ?_
      show gR _ _ _ (gUp (gUp σ 5 (dN0 D) (nI bb)) 6 0 ((nI (dN0 D)) + 1)) (78, [some (.ref 0), some (.int 0), some (.int (nI bb))], [.int (nI (dN0 D + 1))])
      refine gR.ret rfl ?_
      refine ⟨trivial, ?_, mTxF_up (by decide) (mTxF_up (by decide) (mTxF.rf σ)), ?_⟩
      · rw [show aType D 0 (nI bb) = _ from if_pos ⟨by decide, zc16⟩, if_pos rfl, if_neg zc39]
      · rw [show sType D 0 (nI bb) = _ from if_pos ⟨by decide, zc16⟩, if_pos rfl, if_neg zc39, nI_clamp (by omega)]; exact mSt_type0 hs (by omega) rfl hbb (gN_add rfl rfl)
    · rw [gN_eq (x := nI (dN0 D)) (y := 39) (a := dN0 D) (b := 39) rfl rfl (by omega) (by omega)] at zc39
      refine gR.steps 1 (σ, (44, [some (.ref 0), some (.int 0), some (.int (nI bb))], [.int (-4)])) rfl ?_
      refine gR.ret rfl ?_
      refine ⟨trivial, ?_, mTxF.rf σ, ?_⟩
      · rw [show aType D 0 (nI bb) = _ from if_pos ⟨by decide, zc16⟩, if_pos rfl, if_pos (Decidable.not_not.mp zc39)]
      · rw [show sType D 0 (nI bb) = _ from if_pos ⟨by decide, zc16⟩, if_pos rfl, if_pos (Decidable.not_not.mp zc39)]; exact hs
  · rw [bI_ne0] at zc16
    refine gR.steps 1 (σ, (21, [some (.ref 0), some (.int 0), some (.int b)], [.int (-2)])) rfl ?_
    refine gR.ret rfl ?_
    exact ⟨trivial, by rw [show aType D 0 b = -2 from if_neg (fun z => zc16 z.2)], mTxF.rf σ, by rw [show sType D 0 b = D from if_neg (fun z => zc16 z.2)]; exact hs⟩
theorem s_X11_wipe0 {d : Nat} (hd : 3 ≤ d) (σ : gS) (D : xDat) (hs : mSt σ D) : gC d 129 [.ref 0, .int 0] σ (fun r τ => r = some (.int (aWipe D 0)) ∧ mTxF σ τ ∧ mSt τ (sWipe D 0)) := by
  obtain ⟨d, rfl⟩ : ∃ k, d = k + 1 := ⟨d - 1, by omega⟩
  refine gC.of (P := pX11_wipe) (nL := 3) (rt := (some (.int))) (lv := [some (.ref 0), some (.int 0), none]) (by decide +kernel) rfl rfl rfl (by simp [gEnt, Value.category]) rfl ?_
  refine gR.steps 1 (σ, (1, [some (.ref 0), some (.int 0), none], [.int 0])) rfl ?_
  refine gR.callp rfl (s_X11_isTwo (by omega) σ 0) ?_
  refine gR.brT rfl (by rw [bI_eq0]; exact Decidable.not_not.mpr (by decide)) ?_
  refine gR.steps 3 (σ, (15, [some (.ref 0), some (.int 0), none], [.int 0, .ref 6])) rfl ?_
  refine gR.ald (i := 0) (j := 0) (N := 2) (g := σ 6) rfl rfl (by omega) (by omega) ?_
  refine gR.topI (y := nI (dN0 D)) hs.1.1 ?_
  refine gR.steps 5 (σ, (23, [some (.ref 0), some (.int 0), some (.int (nI (dN0 D)))], [.int 0, .int 0, .ref 6])) rfl ?_
  refine gR.ast (i := 0) (j := 0) (N := 2) (q := 6) (x := 0) rfl rfl (by omega) (by omega) ?_
  refine gR.steps 1 (gUp σ 6 0 0, (25, [some (.ref 0), some (.int 0), some (.int (nI (dN0 D)))], [.int (nI (dN0 D))])) rfl ?_
  show gR _ _ _ (gUp σ 6 0 0) (25, [some (.ref 0), some (.int 0), some (.int (nI (dN0 D)))], [.int (nI (dN0 D))])
  refine gR.ret rfl ?_
  refine ⟨trivial, ?_, mTxF_up (by decide) (mTxF.rf σ), ?_⟩
  · rw [show aWipe D 0 = _ from if_pos (by decide), if_pos rfl]
  · rw [show sWipe D 0 = _ from if_pos (by decide), if_pos rfl]; exact mSt_len0 hs (Nat.zero_le _) rfl
theorem s_X11_undo0 {d : Nat} (hd : 3 ≤ d) (σ : gS) (D : xDat) (hs : mSt σ D) : gC d 130 [.ref 0, .int 0] σ (fun r τ => r = some (.int (aUndo D 0)) ∧ mTxF σ τ ∧ mSt τ (sUndo D 0)) := by
  obtain ⟨d, rfl⟩ : ∃ k, d = k + 1 := ⟨d - 1, by omega⟩
  refine gC.of (P := pX11_undo) (nL := 2) (rt := (some (.int))) (lv := [some (.ref 0), some (.int 0)]) (by decide +kernel) rfl rfl rfl (by simp [gEnt, Value.category]) rfl ?_
  have hn39 := hs.1.2.1
  have hn35 := hs.2.1.2.1
  refine gR.steps 1 (σ, (1, [some (.ref 0), some (.int 0)], [.int 0])) rfl ?_
  refine gR.callp rfl (s_X11_isTwo (by omega) σ 0) ?_
  refine gR.brT rfl (by rw [bI_eq0]; exact Decidable.not_not.mpr (by decide)) ?_
  refine gR.steps 3 (σ, (15, [some (.ref 0), some (.int 0)], [.int 0, .ref 6])) rfl ?_
  refine gR.ald (i := 0) (j := 0) (N := 2) (g := σ 6) rfl rfl (by omega) (by omega) ?_
  refine gR.topI (y := nI (dN0 D)) hs.1.1 ?_
  refine gR.ifte rfl (fun zc16 => ?_) (fun zc16 => ?_)
  · rw [gN_eq (x := nI (dN0 D)) (y := 0) (a := dN0 D) (b := 0) rfl rfl (by omega) (by omega)] at zc16
    refine gR.steps 4 (σ, (28, [some (.ref 0), some (.int 0)], [.int 0, .ref 6, .int 0, .ref 6])) rfl ?_
    refine gR.ald (i := 0) (j := 0) (N := 2) (g := σ 6) rfl rfl (by omega) (by omega) ?_
    refine gR.topI (y := nI (dN0 D)) hs.1.1 ?_
    refine gR.steps 2 (σ, (31, [some (.ref 0), some (.int 0)], [.int ((nI (dN0 D)) - 1), .int 0, .ref 6])) rfl ?_
    refine gR.ast (i := 0) (j := 0) (N := 2) (q := 6) (x := (nI (dN0 D)) - 1) rfl rfl (by omega) (by omega) ?_
    refine gR.steps 3 (gUp σ 6 0 ((nI (dN0 D)) - 1), (37, [some (.ref 0), some (.int 0)], [.int 0, .ref 6])) rfl ?_
    refine gR.ald (i := 0) (j := 0) (N := 2) (g := (gUp σ 6 0 ((nI (dN0 D)) - 1)) 6) rfl rfl (by omega) (by omega) ?_
    refine gR.topI (y := (nI (dN0 D)) - 1) (by rw [gUp_s]) ?_
    show gR _ _ _ (gUp σ 6 0 ((nI (dN0 D)) - 1)) (38, [some (.ref 0), some (.int 0)], [.int ((nI (dN0 D)) - 1)])
    refine gR.ret rfl ?_
    refine ⟨trivial, ?_, mTxF_up (by decide) (mTxF.rf σ), ?_⟩
    · rw [show aUndo D 0 = _ from if_pos (by decide), if_pos rfl, if_neg zc16]; exact congrArg (fun z => some (Value.int z)) (gN_sub rfl rfl (by omega))
    · rw [show sUndo D 0 = _ from if_pos (by decide), if_pos rfl, if_neg zc16]; exact mSt_len0 hs (by omega) (gN_sub rfl rfl (by omega))
  · rw [gN_eq (x := nI (dN0 D)) (y := 0) (a := dN0 D) (b := 0) rfl rfl (by omega) (by omega)] at zc16
    refine gR.steps 1 (σ, (21, [some (.ref 0), some (.int 0)], [.int (-3)])) rfl ?_
    refine gR.ret rfl ?_
    refine ⟨trivial, ?_, mTxF.rf σ, ?_⟩
    · rw [show aUndo D 0 = _ from if_pos (by decide), if_pos rfl, if_pos (Decidable.not_not.mp zc16)]
    · rw [show sUndo D 0 = _ from if_pos (by decide), if_pos rfl, if_pos (Decidable.not_not.mp zc16)]; exact hs
theorem s_X11_type1 {d : Nat} (hd : 3 ≤ d) (σ : gS) (D : xDat) (b : Int32) (hs : mSt σ D) : gC d 128 [.ref 0, .int 1, .int b] σ (fun r τ => r = some (.int (aType D 1 b)) ∧ mTxF σ τ ∧ mSt τ (sType D 1 b)) := by
  obtain ⟨d, rfl⟩ : ∃ k, d = k + 1 := ⟨d - 1, by omega⟩
  refine gC.of (P := pX11_type) (nL := 3) (rt := (some (.int))) (lv := [some (.ref 0), some (.int 1), some (.int b)]) (by decide +kernel) rfl rfl rfl (by simp [gEnt, Value.category]) rfl ?_
  have hn39 := hs.1.2.1
  have hn35 := hs.2.1.2.1
  refine gR.steps 1 (σ, (1, [some (.ref 0), some (.int 1), some (.int b)], [.int 1])) rfl ?_
  refine gR.callp rfl (s_X11_isTwo (by omega) σ 1) ?_
  refine gR.brF rfl (by rw [bI_eq0]; exact Decidable.not_not.mpr (by decide)) ?_
  refine gR.steps 4 (σ, (13, [some (.ref 0), some (.int 1), some (.int b)], [.long 255, .long 0, .long (Int32.toInt64 b)])) rfl ?_
  refine gR.callp rfl (s_X11_inI (by omega) σ b 0 255 0 255 (by decide) (by decide)) ?_
  refine gR.ifte rfl (fun zc16 => ?_) (fun zc16 => ?_)
  · rw [bI_ne0] at zc16
    obtain ⟨bb, hbb, rfl⟩ := gN_of (x := b) (n := 256) (by omega) (by omega) (by omega)
    refine gR.steps 3 (σ, (27, [some (.ref 0), some (.int 1), some (.int (nI bb))], [.int 1, .ref 6])) rfl ?_
    refine gR.ald (i := 1) (j := 1) (N := 2) (g := σ 6) rfl rfl (by omega) (by omega) ?_
    refine gR.topI (y := nI (dN1 D)) hs.2.1.1 ?_
    refine gR.steps 1 (σ, (29, [some (.ref 0), some (.int 1), some (.int (nI bb))], [.int 1, .int (nI (dN1 D))])) rfl ?_
    refine gR.brT rfl (by decide) ?_
    refine gR.steps 1 (σ, (39, [some (.ref 0), some (.int 1), some (.int (nI bb))], [.int 35, .int (nI (dN1 D))])) rfl ?_
    refine gR.ifte rfl (fun zc39 => ?_) (fun zc39 => ?_)
    · rw [gN_eq (x := nI (dN1 D)) (y := 35) (a := dN1 D) (b := 35) rfl rfl (by omega) (by omega)] at zc39
      refine gR.steps 8 (σ, (58, [some (.ref 0), some (.int 1), some (.int (nI bb))], [.int 1, .ref 6, .int ((40 : Int32) * 1), .ref 5])) rfl ?_
      refine gR.ald (i := 1) (j := 1) (N := 2) (g := σ 6) rfl rfl (by omega) (by omega) ?_
      refine gR.topI (y := nI (dN1 D)) hs.2.1.1 ?_
      refine gR.steps 2 (σ, (61, [some (.ref 0), some (.int 1), some (.int (nI bb))], [.int (nI bb), .int (((40 : Int32) * 1) + (nI (dN1 D))), .ref 5])) rfl ?_
      refine gR.ast (i := ((40 : Int32) * 1) + (nI (dN1 D))) (j := 40 + dN1 D) (N := 80) (q := 5) (x := nI bb) rfl (by rw [show (40 : Int32) * 1 = nI 40 from rfl]; exact (gN_add rfl rfl).trans (congrArg nI (by omega))) (by omega) (by omega) ?_
      refine gR.steps 4 (gUp σ 5 (40 + dN1 D) (nI bb), (68, [some (.ref 0), some (.int 1), some (.int (nI bb))], [.int 1, .ref 6, .int 1, .ref 6])) rfl ?_
      refine gR.ald (i := 1) (j := 1) (N := 2) (g := (gUp σ 5 (40 + dN1 D) (nI bb)) 6) rfl rfl (by omega) (by omega) ?_
      refine gR.topI (y := σ 6 1) (by rw [gUp_o (by omega)]) ?_
      refine gR.topI (y := nI (dN1 D)) hs.2.1.1 ?_
      refine gR.steps 2 (gUp σ 5 (40 + dN1 D) (nI bb), (71, [some (.ref 0), some (.int 1), some (.int (nI bb))], [.int ((nI (dN1 D)) + 1), .int 1, .ref 6])) rfl ?_
      refine gR.ast (i := 1) (j := 1) (N := 2) (q := 6) (x := (nI (dN1 D)) + 1) rfl rfl (by omega) (by omega) ?_
      refine gR.steps 3 (gUp (gUp σ 5 (40 + dN1 D) (nI bb)) 6 1 ((nI (dN1 D)) + 1), (77, [some (.ref 0), some (.int 1), some (.int (nI bb))], [.int 1, .ref 6])) rfl ?_
      refine gR.ald (i := 1) (j := 1) (N := 2) (g := (gUp (gUp σ 5 (40 + dN1 D) (nI bb)) 6 1 ((nI (dN1 D)) + 1)) 6) rfl rfl (by omega) (by omega) ?_
      refine gR.topI (y := (nI (dN1 D)) + 1) (by rw [gUp_s]) ?_
      refine gR.topI (y := nI (dN1 D + 1)) (gN_add rfl rfl) ?_
      show gR _ _ _ (gUp (gUp σ 5 (40 + dN1 D) (nI bb)) 6 1 ((nI (dN1 D)) + 1)) (78, [some (.ref 0), some (.int 1), some (.int (nI bb))], [.int (nI (dN1 D + 1))])
      refine gR.ret rfl ?_
      refine ⟨trivial, ?_, mTxF_up (by decide) (mTxF_up (by decide) (mTxF.rf σ)), ?_⟩
      · rw [show aType D 1 (nI bb) = _ from if_pos ⟨by decide, zc16⟩, if_neg (by decide), if_neg zc39]
      · rw [show sType D 1 (nI bb) = _ from if_pos ⟨by decide, zc16⟩, if_neg (by decide), if_neg zc39, nI_clamp (by omega)]; exact mSt_type1 hs (by omega) rfl hbb (gN_add rfl rfl)
    · rw [gN_eq (x := nI (dN1 D)) (y := 35) (a := dN1 D) (b := 35) rfl rfl (by omega) (by omega)] at zc39
      refine gR.steps 1 (σ, (44, [some (.ref 0), some (.int 1), some (.int (nI bb))], [.int (-4)])) rfl ?_
      refine gR.ret rfl ?_
      refine ⟨trivial, ?_, mTxF.rf σ, ?_⟩
      · rw [show aType D 1 (nI bb) = _ from if_pos ⟨by decide, zc16⟩, if_neg (by decide), if_pos (Decidable.not_not.mp zc39)]
      · rw [show sType D 1 (nI bb) = _ from if_pos ⟨by decide, zc16⟩, if_neg (by decide), if_pos (Decidable.not_not.mp zc39)]; exact hs
  · rw [bI_ne0] at zc16
    refine gR.steps 1 (σ, (21, [some (.ref 0), some (.int 1), some (.int b)], [.int (-2)])) rfl ?_
    refine gR.ret rfl ?_
    exact ⟨trivial, by rw [show aType D 1 b = -2 from if_neg (fun z => zc16 z.2)], mTxF.rf σ, by rw [show sType D 1 b = D from if_neg (fun z => zc16 z.2)]; exact hs⟩
theorem s_X11_wipe1 {d : Nat} (hd : 3 ≤ d) (σ : gS) (D : xDat) (hs : mSt σ D) : gC d 129 [.ref 0, .int 1] σ (fun r τ => r = some (.int (aWipe D 1)) ∧ mTxF σ τ ∧ mSt τ (sWipe D 1)) := by
  obtain ⟨d, rfl⟩ : ∃ k, d = k + 1 := ⟨d - 1, by omega⟩
  refine gC.of (P := pX11_wipe) (nL := 3) (rt := (some (.int))) (lv := [some (.ref 0), some (.int 1), none]) (by decide +kernel) rfl rfl rfl (by simp [gEnt, Value.category]) rfl ?_
  refine gR.steps 1 (σ, (1, [some (.ref 0), some (.int 1), none], [.int 1])) rfl ?_
  refine gR.callp rfl (s_X11_isTwo (by omega) σ 1) ?_
  refine gR.brT rfl (by rw [bI_eq0]; exact Decidable.not_not.mpr (by decide)) ?_
  refine gR.steps 3 (σ, (15, [some (.ref 0), some (.int 1), none], [.int 1, .ref 6])) rfl ?_
  refine gR.ald (i := 1) (j := 1) (N := 2) (g := σ 6) rfl rfl (by omega) (by omega) ?_
  refine gR.topI (y := nI (dN1 D)) hs.2.1.1 ?_
  refine gR.steps 5 (σ, (23, [some (.ref 0), some (.int 1), some (.int (nI (dN1 D)))], [.int 0, .int 1, .ref 6])) rfl ?_
  refine gR.ast (i := 1) (j := 1) (N := 2) (q := 6) (x := 0) rfl rfl (by omega) (by omega) ?_
  refine gR.steps 1 (gUp σ 6 1 0, (25, [some (.ref 0), some (.int 1), some (.int (nI (dN1 D)))], [.int (nI (dN1 D))])) rfl ?_
  show gR _ _ _ (gUp σ 6 1 0) (25, [some (.ref 0), some (.int 1), some (.int (nI (dN1 D)))], [.int (nI (dN1 D))])
  refine gR.ret rfl ?_
  refine ⟨trivial, ?_, mTxF_up (by decide) (mTxF.rf σ), ?_⟩
  · rw [show aWipe D 1 = _ from if_pos (by decide), if_neg (by decide)]
  · rw [show sWipe D 1 = _ from if_pos (by decide), if_neg (by decide)]; exact mSt_len1 hs (Nat.zero_le _) rfl
theorem s_X11_undo1 {d : Nat} (hd : 3 ≤ d) (σ : gS) (D : xDat) (hs : mSt σ D) : gC d 130 [.ref 0, .int 1] σ (fun r τ => r = some (.int (aUndo D 1)) ∧ mTxF σ τ ∧ mSt τ (sUndo D 1)) := by
  obtain ⟨d, rfl⟩ : ∃ k, d = k + 1 := ⟨d - 1, by omega⟩
  refine gC.of (P := pX11_undo) (nL := 2) (rt := (some (.int))) (lv := [some (.ref 0), some (.int 1)]) (by decide +kernel) rfl rfl rfl (by simp [gEnt, Value.category]) rfl ?_
  have hn39 := hs.1.2.1
  have hn35 := hs.2.1.2.1
  refine gR.steps 1 (σ, (1, [some (.ref 0), some (.int 1)], [.int 1])) rfl ?_
  refine gR.callp rfl (s_X11_isTwo (by omega) σ 1) ?_
  refine gR.brT rfl (by rw [bI_eq0]; exact Decidable.not_not.mpr (by decide)) ?_
  refine gR.steps 3 (σ, (15, [some (.ref 0), some (.int 1)], [.int 1, .ref 6])) rfl ?_
  refine gR.ald (i := 1) (j := 1) (N := 2) (g := σ 6) rfl rfl (by omega) (by omega) ?_
  refine gR.topI (y := nI (dN1 D)) hs.2.1.1 ?_
  refine gR.ifte rfl (fun zc16 => ?_) (fun zc16 => ?_)
  · rw [gN_eq (x := nI (dN1 D)) (y := 0) (a := dN1 D) (b := 0) rfl rfl (by omega) (by omega)] at zc16
    refine gR.steps 4 (σ, (28, [some (.ref 0), some (.int 1)], [.int 1, .ref 6, .int 1, .ref 6])) rfl ?_
    refine gR.ald (i := 1) (j := 1) (N := 2) (g := σ 6) rfl rfl (by omega) (by omega) ?_
    refine gR.topI (y := nI (dN1 D)) hs.2.1.1 ?_
    refine gR.steps 2 (σ, (31, [some (.ref 0), some (.int 1)], [.int ((nI (dN1 D)) - 1), .int 1, .ref 6])) rfl ?_
    refine gR.ast (i := 1) (j := 1) (N := 2) (q := 6) (x := (nI (dN1 D)) - 1) rfl rfl (by omega) (by omega) ?_
    refine gR.steps 3 (gUp σ 6 1 ((nI (dN1 D)) - 1), (37, [some (.ref 0), some (.int 1)], [.int 1, .ref 6])) rfl ?_
    refine gR.ald (i := 1) (j := 1) (N := 2) (g := (gUp σ 6 1 ((nI (dN1 D)) - 1)) 6) rfl rfl (by omega) (by omega) ?_
    refine gR.topI (y := (nI (dN1 D)) - 1) (by rw [gUp_s]) ?_
    show gR _ _ _ (gUp σ 6 1 ((nI (dN1 D)) - 1)) (38, [some (.ref 0), some (.int 1)], [.int ((nI (dN1 D)) - 1)])
    refine gR.ret rfl ?_
    refine ⟨trivial, ?_, mTxF_up (by decide) (mTxF.rf σ), ?_⟩
    · rw [show aUndo D 1 = _ from if_pos (by decide), if_neg (by decide), if_neg zc16]; exact congrArg (fun z => some (Value.int z)) (gN_sub rfl rfl (by omega))
    · rw [show sUndo D 1 = _ from if_pos (by decide), if_neg (by decide), if_neg zc16]; exact mSt_len1 hs (by omega) (gN_sub rfl rfl (by omega))
  · rw [gN_eq (x := nI (dN1 D)) (y := 0) (a := dN1 D) (b := 0) rfl rfl (by omega) (by omega)] at zc16
    refine gR.steps 1 (σ, (21, [some (.ref 0), some (.int 1)], [.int (-3)])) rfl ?_
    refine gR.ret rfl ?_
    refine ⟨trivial, ?_, mTxF.rf σ, ?_⟩
    · rw [show aUndo D 1 = _ from if_pos (by decide), if_neg (by decide), if_pos (Decidable.not_not.mp zc16)]
    · rw [show sUndo D 1 = _ from if_pos (by decide), if_neg (by decide), if_pos (Decidable.not_not.mp zc16)]; exact hs
theorem s_X11_typeX {d : Nat} (hd : 3 ≤ d) (σ : gS) (D : xDat) (t b : Int32) (hs : mSt σ D) (ht : ¬ (0 ≤ t.toInt ∧ t.toInt ≤ 1)) : gC d 128 [.ref 0, .int t, .int b] σ (fun r τ => r = some (.int (aType D t b)) ∧ mTxF σ τ ∧ mSt τ (sType D t b)) := by
  obtain ⟨d, rfl⟩ : ∃ k, d = k + 1 := ⟨d - 1, by omega⟩
  refine gC.of (P := pX11_type) (nL := 3) (rt := (some (.int))) (lv := [some (.ref 0), some (.int t), some (.int b)]) (by decide +kernel) rfl rfl rfl (by simp [gEnt, Value.category]) rfl ?_
  refine gR.steps 1 (σ, (1, [some (.ref 0), some (.int t), some (.int b)], [.int t])) rfl ?_
  refine gR.callp rfl (s_X11_isTwo (by omega) σ t) ?_
  refine gR.brT rfl (bI_f ht) ?_
  refine gR.steps 1 (σ, (21, [some (.ref 0), some (.int t), some (.int b)], [.int (-2)])) rfl ?_
  refine gR.ret rfl ?_
  exact ⟨trivial, by rw [show aType D t b = -2 from if_neg (fun z => ht z.1)], mTxF.rf σ, by rw [show sType D t b = D from if_neg (fun z => ht z.1)]; exact hs⟩
theorem s_X11_type {d : Nat} (hd : 3 ≤ d) (σ : gS) (D : xDat) (t b : Int32) (hs : mSt σ D) : gC d 128 [.ref 0, .int t, .int b] σ (fun r τ => r = some (.int (aType D t b)) ∧ mTxF σ τ ∧ mSt τ (sType D t b)) := by
  by_cases ht : 0 ≤ t.toInt ∧ t.toInt ≤ 1
  · rcases two_of ht with rfl | rfl
    · exact s_X11_type0 hd σ D b hs
    · exact s_X11_type1 hd σ D b hs
  · exact s_X11_typeX hd σ D t b hs ht
theorem s_X11_wipeX {d : Nat} (hd : 3 ≤ d) (σ : gS) (D : xDat) (t : Int32) (hs : mSt σ D) (ht : ¬ (0 ≤ t.toInt ∧ t.toInt ≤ 1)) : gC d 129 [.ref 0, .int t] σ (fun r τ => r = some (.int (aWipe D t)) ∧ mTxF σ τ ∧ mSt τ (sWipe D t)) := by
  obtain ⟨d, rfl⟩ : ∃ k, d = k + 1 := ⟨d - 1, by omega⟩
  refine gC.of (P := pX11_wipe) (nL := 3) (rt := (some (.int))) (lv := [some (.ref 0), some (.int t), none]) (by decide +kernel) rfl rfl rfl (by simp [gEnt, Value.category]) rfl ?_
  refine gR.steps 1 (σ, (1, [some (.ref 0), some (.int t), none], [.int t])) rfl ?_
  refine gR.callp rfl (s_X11_isTwo (by omega) σ t) ?_
  refine gR.brF rfl (Decidable.not_not.mpr (bI_f ht)) ?_
  refine gR.steps 1 (σ, (9, [some (.ref 0), some (.int t), none], [.int (-2)])) rfl ?_
  refine gR.ret rfl ?_
  exact ⟨trivial, by rw [show aWipe D t = -2 from if_neg (ht)], mTxF.rf σ, by rw [show sWipe D t = D from if_neg (ht)]; exact hs⟩
theorem s_X11_wipe {d : Nat} (hd : 3 ≤ d) (σ : gS) (D : xDat) (t : Int32) (hs : mSt σ D) : gC d 129 [.ref 0, .int t] σ (fun r τ => r = some (.int (aWipe D t)) ∧ mTxF σ τ ∧ mSt τ (sWipe D t)) := by
  by_cases ht : 0 ≤ t.toInt ∧ t.toInt ≤ 1
  · rcases two_of ht with rfl | rfl
    · exact s_X11_wipe0 hd σ D  hs
    · exact s_X11_wipe1 hd σ D  hs
  · exact s_X11_wipeX hd σ D t hs ht
theorem s_X11_undoX {d : Nat} (hd : 3 ≤ d) (σ : gS) (D : xDat) (t : Int32) (hs : mSt σ D) (ht : ¬ (0 ≤ t.toInt ∧ t.toInt ≤ 1)) : gC d 130 [.ref 0, .int t] σ (fun r τ => r = some (.int (aUndo D t)) ∧ mTxF σ τ ∧ mSt τ (sUndo D t)) := by
  obtain ⟨d, rfl⟩ : ∃ k, d = k + 1 := ⟨d - 1, by omega⟩
  refine gC.of (P := pX11_undo) (nL := 2) (rt := (some (.int))) (lv := [some (.ref 0), some (.int t)]) (by decide +kernel) rfl rfl rfl (by simp [gEnt, Value.category]) rfl ?_
  refine gR.steps 1 (σ, (1, [some (.ref 0), some (.int t)], [.int t])) rfl ?_
  refine gR.callp rfl (s_X11_isTwo (by omega) σ t) ?_
  refine gR.brF rfl (Decidable.not_not.mpr (bI_f ht)) ?_
  refine gR.steps 1 (σ, (9, [some (.ref 0), some (.int t)], [.int (-2)])) rfl ?_
  refine gR.ret rfl ?_
  exact ⟨trivial, by rw [show aUndo D t = -2 from if_neg (ht)], mTxF.rf σ, by rw [show sUndo D t = D from if_neg (ht)]; exact hs⟩
theorem s_X11_undo {d : Nat} (hd : 3 ≤ d) (σ : gS) (D : xDat) (t : Int32) (hs : mSt σ D) : gC d 130 [.ref 0, .int t] σ (fun r τ => r = some (.int (aUndo D t)) ∧ mTxF σ τ ∧ mSt τ (sUndo D t)) := by
  by_cases ht : 0 ≤ t.toInt ∧ t.toInt ≤ 1
  · rcases two_of ht with rfl | rfl
    · exact s_X11_undo0 hd σ D  hs
    · exact s_X11_undo1 hd σ D  hs
  · exact s_X11_undoX hd σ D t hs ht
