def xLow (f : Nat → Nat) (s : Int32 × Int32) : Nat → Int32 × Int32
  | 0 => s
  | c + 1 => if nI (f c) < (xLow f s c).2 then (nI c, nI (f c)) else xLow f s c
/-- the hill with one bush more: kind c / 12, from month c % 12 on -/
def dSP (D : xDat) (c : Nat) : Nat → Nat → Nat := xS (dN D) (dK D) (dM D) (dB D) gn0 true (dNb D + 1) (xPut (dKd D) (dNb D) (c / 12)) (xPut (dBg D) (dNb D) (c % 12))
def dYelP (D : xDat) (c m : Nat) : Nat := xSum (fun k => if dSP D c m k = 1 then xPut (dSp D) (dNb D) 1 k else 0) (dNb D + 1)
def dBareP (D : xDat) (c : Nat) : Int32 := xMask (fun m => decide (dYelP D c m = 0)) 24
def dPlant (D : xDat) : Int32 × Int32 := xLow (fun c => xPop (dBareP D c)) (-1, 99) 36
/-- while planting is thought of -/
def mPl (σ τ : gS) (nb : Nat) : Prop := (∀ q, q ≠ 0 → q ≠ 7 → q ≠ 10 → q ≠ 11 → q ≠ 12 → q ≠ 14 → τ q = σ q) ∧ (∀ s, s ≠ 7 → s ≠ 21 → τ 0 s = σ 0 s) ∧ τ 0 7 = nI (nb + 1) ∧ τ 0 21 = 1 ∧ (∀ j, j < 3 * nb → τ 7 j = σ 7 j) ∧ τ 7 (3 * nb + 2) = 1
theorem mPl_up {σ τ : gS} {nb i : Nat} {v : Int32} (h : mPl σ τ nb) (h1 : 3 * nb ≤ i) (h2 : i ≠ 3 * nb + 2) : mPl σ (gUp τ 7 i v) nb :=
  ⟨fun q a b c d e f => by rw [gUp_ne b]; exact h.1 q a b c d e f, fun s a b => by rw [gUp_o (by omega)]; exact h.2.1 s a b, by rw [gUp_o (by omega)]; exact h.2.2.1, by rw [gUp_o (by omega)]; exact h.2.2.2.1, fun j hj => by rw [gUp_o (by omega)]; exact h.2.2.2.2.1 j hj, by rw [gUp_o (by omega)]; exact h.2.2.2.2.2⟩
theorem mPl_gr {σ τ υ : gS} {nb : Nat} (h : mPl σ τ nb) (hF : mGrF τ υ) : mPl σ υ nb := by
  have h0 := hF.c 0
  have h7 := hF.c 7
  refine ⟨fun q a b c d e f => (hF q c d e f).trans (h.1 q a b c d e f), ?_, ?_, ?_, ?_, ?_⟩
  · rw [h0]; exact h.2.1
  · rw [h0]; exact h.2.2.1
  · rw [h0]; exact h.2.2.2.1
  · rw [h7]; exact h.2.2.2.2.1
  · rw [h7]; exact h.2.2.2.2.2
theorem mBu_pl {σ τ : gS} {nb a b : Nat} {kd bg sp : Nat → Nat} (h : mPl σ τ nb) (hB : mBu σ nb kd bg sp) (hn : nb ≤ 10) (ha : a < 3) (hb : b < 12) (h1 : τ 7 (3 * nb) = nI a) (h2 : τ 7 (3 * nb + 1) = nI b) : mBu τ (nb + 1) (xPut kd nb a) (xPut bg nb b) (xPut sp nb 1) := by
  refine ⟨h.2.2.1, by omega, fun i hi => ?_⟩
  unfold xPut
  by_cases hin : i = nb
  · subst hin
    rw [if_pos rfl, if_pos rfl, if_pos rfl]
    exact ⟨h1, h2, h.2.2.2.2.2, ha, hb, by omega⟩
  · rw [if_neg hin, if_neg hin, if_neg hin, h.2.2.2.2.1 _ (by omega), h.2.2.2.2.1 _ (by omega), h.2.2.2.2.1 _ (by omega)]
    exact hB.2.2 i (by omega)
/-- behind plant: the bushes, and all that isn't scratch, as they were -/
def mPlE (σ τ : gS) (nb : Nat) : Prop := (∀ q, q ≠ 7 → q ≠ 10 → q ≠ 11 → q ≠ 12 → q ≠ 14 → τ q = σ q) ∧ ∀ j, j < 3 * nb → τ 7 j = σ 7 j
theorem mPl_end {σ τ : gS} {nb : Nat} {x : Int32} (h : mPl σ τ nb) (h7 : σ 0 7 = nI nb) (h21 : σ 0 21 = 0) (hx : x = nI nb) : mPlE σ (gUp (gUp τ 0 21 0) 0 7 x) nb := by
  refine ⟨fun q a b c d e => ?_, fun j hj => ?_⟩
  · by_cases hq : q = 0
    · subst hq
      funext j
      rw [gUp_app, gUp_app]
      by_cases hj : j = 7
      · rw [if_pos ⟨rfl, hj⟩, hx, hj, h7]
      · rw [if_neg (fun z => hj z.2)]
        by_cases hj2 : j = 21
        · rw [if_pos ⟨rfl, hj2⟩, hj2, h21]
        · rw [if_neg (fun z => hj2 z.2)]; exact h.2.1 j hj hj2
    · rw [gUp_ne hq, gUp_ne hq]; exact h.1 q hq a b c d e
  · rw [gUp_o (by omega), gUp_o (by omega)]; exact h.2.2.2.2.1 j hj
theorem mBu_e {σ τ : gS} {nb : Nat} {kd bg sp : Nat → Nat} (h : mPlE σ τ nb) (hB : mBu σ nb kd bg sp) : mBu τ nb kd bg sp := by
  refine ⟨by rw [h.1 0 (by decide) (by decide) (by decide) (by decide) (by decide)]; exact hB.1, hB.2.1, fun i hi => ?_⟩
  rw [h.2 _ (by omega), h.2 _ (by omega), h.2 _ (by omega)]
  exact hB.2.2 i hi
theorem mPlE.keep {σ τ : gS} {nb : Nat} (h : mPlE σ τ nb) : mKeep σ τ := ⟨fun q h0 hs => h.1 q (fun z => hs (by unfold mScr; omega)) (fun z => hs (by unfold mScr; omega)) (fun z => hs (by unfold mScr; omega)) (fun z => hs (by unfold mScr; omega)) (fun z => hs (by unfold mScr; omega)), fun s _ _ _ _ => by rw [h.1 0 (by decide) (by decide) (by decide) (by decide) (by decide)]⟩
theorem dYelP_le {D : xDat} (h : ∀ k, k < dNb D → dSp D k < 10) (hn : dNb D ≤ 10) (c m : Nat) : dYelP D c m < 1000 := by
  unfold dYelP
  have := xSum_le (f := fun k => if dSP D c m k = 1 then xPut (dSp D) (dNb D) 1 k else 0) (b := 9) (n := dNb D + 1) (fun i hi => by
    unfold xPut
    by_cases hin : i = dNb D
    · rw [if_pos hin]; split <;> omega
    · rw [if_neg hin]; have := h i (by omega); split <;> omega)
  omega
theorem s_X11_plantBy {d : Nat} (hd : 5 ≤ d) (σ : gS) (D : xDat) (w : Nat) (hR : mRdy σ D) (hw : w < 3) : gC d 171 [.ref 0, .int (nI w)] σ (fun r τ => r = some (.int (if w = 0 then (dPlant D).1 / 12 else if w = 1 then (dPlant D).1 - (dPlant D).1 / 12 * 12 else (dPlant D).2)) ∧ mPlE σ τ (dNb D)) := by
  obtain ⟨d, rfl⟩ : ∃ k, d = k + 1 := ⟨d - 1, by omega⟩
  refine gC.of (P := pX11_plantBy) (nL := 7) (rt := (some (.int))) (lv := [some (.ref 0), some (.int (nI w)), none, none, none, none, none]) (by decide +kernel) rfl rfl rfl (by simp [gEnt, Value.category]) rfl ?_
  have hn10 := hR.2.2.1
  refine gR.steps 7 (σ, (10, [some (.ref 0), some (.int (nI w)), some (.int (-1)), some (.int 99), none, none, none], [.int (σ 0 7), .int 3])) rfl ?_
  refine gR.topI (y := nI (dNb D)) hR.2.1.1 ?_
  refine gR.steps 5 (σ, (18, [some (.ref 0), some (.int (nI w)), some (.int (-1)), some (.int 99), some (.int (3 * (nI (dNb D)))), none, none], [.int (σ 0 7), .ref 0])) rfl ?_
  refine gR.topI (y := nI (dNb D)) hR.2.1.1 ?_
  refine gR.steps 5 (gUp σ 0 7 ((nI (dNb D)) + 1), (25, [some (.ref 0), some (.int (nI w)), some (.int (-1)), some (.int 99), some (.int (3 * (nI (dNb D)))), none, none], [.int 1, .ref 0])) rfl ?_
  refine gR.putz (x := 1) rfl (by decide) ?_
  refine gR.steps 6 (gUp (gUp σ 0 7 ((nI (dNb D)) + 1)) 0 21 1, (37, [some (.ref 0), some (.int (nI w)), some (.int (-1)), some (.int 99), some (.int (3 * (nI (dNb D)))), none, none], [.int 1, .int ((3 * (nI (dNb D))) + 2), .ref 7])) rfl ?_
  refine gR.ast (i := (3 * (nI (dNb D))) + 2) (j := 3 * dNb D + 2) (N := 33) (q := 7) (x := 1) rfl (gN_add (gN_mul rfl rfl) rfl) (by omega) (by omega) ?_
  refine gR.steps 2 (gUp (gUp (gUp σ 0 7 ((nI (dNb D)) + 1)) 0 21 1) 7 (3 * dNb D + 2) 1, (41, [some (.ref 0), some (.int (nI w)), some (.int (-1)), some (.int 99), some (.int (3 * (nI (dNb D)))), some (.int 0), none], [])) rfl ?_
  refine gR.forget [some (.ref 0), some (.int (nI w)), some (.int (xLow (fun c => xPop (dBareP D c)) (-1, 99) 0).1), some (.int (xLow (fun c => xPop (dBareP D c)) (-1, 99) 0).2), some (.int (nI (3 * dNb D))), some (.int 0), none] ⟨rfl, ⟨rfl, ⟨rfl, ⟨rfl, ⟨gSomeI (gN_mul rfl rfl), ⟨rfl, trivial⟩⟩⟩⟩⟩⟩ ?_
  refine gR.loop (α := Nat × gS) (fun ⟨c, τ⟩ => c ≤ 36 ∧ mPl σ τ (dNb D)) (fun ⟨c, τ⟩ => 36 - c) (fun ⟨c, τ⟩ => (τ, (41, [some (.ref 0), some (.int (nI w)), some (.int ((xLow (fun c => xPop (dBareP D c)) (-1, 99) c).1)), some (.int ((xLow (fun c => xPop (dBareP D c)) (-1, 99) c).2)), some (.int (nI (3 * dNb D))), some (.int (nI c)), none], []))) ?_ ⟨0, gUp (gUp (gUp σ 0 7 ((nI (dNb D)) + 1)) 0 21 1) 7 (3 * dNb D + 2) 1⟩ ⟨by omega, ⟨fun q a b _ _ _ _ => by rw [gUp_ne b, gUp_ne a, gUp_ne a], fun s a b => by rw [gUp_o (by omega), gUp_o (by omega), gUp_o (by omega)], by rw [gUp_o (by omega), gUp_o (by omega), gUp_s]; exact gN_add rfl rfl, by rw [gUp_o (by omega), gUp_s], fun j hj => by rw [gUp_o (by omega), gUp_o (by omega), gUp_o (by omega)], by rw [gUp_s]⟩⟩
  rintro ⟨c, τ⟩ ⟨hc36, hP⟩ ih
  show gR _ _ _ τ (41, [some (.ref 0), some (.int (nI w)), some (.int ((xLow (fun c => xPop (dBareP D c)) (-1, 99) c).1)), some (.int ((xLow (fun c => xPop (dBareP D c)) (-1, 99) c).2)), some (.int (nI (3 * dNb D))), some (.int (nI c)), none], [])
  refine gR.steps 2 (τ, (45, [some (.ref 0), some (.int (nI w)), some (.int ((xLow (fun c => xPop (dBareP D c)) (-1, 99) c).1)), some (.int ((xLow (fun c => xPop (dBareP D c)) (-1, 99) c).2)), some (.int (nI (3 * dNb D))), some (.int (nI c)), none], [.int 36, .int (nI c)])) rfl ?_
  refine gR.ifte rfl (fun zc45 => ?_) (fun zc45 => ?_)
  · rw [gN_le (x := 36) (y := nI c) (a := 36) (b := c) rfl rfl (by omega) (by omega)] at zc45
    refine gR.steps 2 (τ, (115, [some (.ref 0), some (.int (nI w)), some (.int ((xLow (fun c => xPop (dBareP D c)) (-1, 99) c).1)), some (.int ((xLow (fun c => xPop (dBareP D c)) (-1, 99) c).2)), some (.int (nI (3 * dNb D))), some (.int (nI c)), none], [.int 0, .ref 0])) rfl ?_
    refine gR.putz (x := 0) rfl (by decide) ?_
    refine gR.steps 3 (gUp τ 0 21 0, (123, [some (.ref 0), some (.int (nI w)), some (.int ((xLow (fun c => xPop (dBareP D c)) (-1, 99) c).1)), some (.int ((xLow (fun c => xPop (dBareP D c)) (-1, 99) c).2)), some (.int (nI (3 * dNb D))), some (.int (nI c)), none], [.int (τ 0 7), .ref 0])) rfl ?_
    refine gR.topI (y := nI (dNb D + 1)) hP.2.2.1 ?_
    refine gR.steps 4 (gUp (gUp τ 0 21 0) 0 7 ((nI (dNb D + 1)) - 1), (129, [some (.ref 0), some (.int (nI w)), some (.int ((xLow (fun c => xPop (dBareP D c)) (-1, 99) c).1)), some (.int ((xLow (fun c => xPop (dBareP D c)) (-1, 99) c).2)), some (.int (nI (3 * dNb D))), some (.int (nI c)), none], [.int (nI w)])) rfl ?_
    refine gR.ifte rfl (fun zc129 => ?_) (fun zc129 => ?_)
    · rw [gN_eq (x := nI w) (y := 0) (a := w) (b := 0) rfl rfl (by omega) (by omega)] at zc129
      refine gR.steps 2 (gUp (gUp τ 0 21 0) 0 7 ((nI (dNb D + 1)) - 1), (141, [some (.ref 0), some (.int (nI w)), some (.int ((xLow (fun c => xPop (dBareP D c)) (-1, 99) c).1)), some (.int ((xLow (fun c => xPop (dBareP D c)) (-1, 99) c).2)), some (.int (nI (3 * dNb D))), some (.int (nI c)), none], [.int 1, .int (nI w)])) rfl ?_
      refine gR.ifte rfl (fun zc141 => ?_) (fun zc141 => ?_)
      · rw [gN_eq (x := nI w) (y := 1) (a := w) (b := 1) rfl rfl (by omega) (by omega)] at zc141
        refine gR.steps 1 (gUp (gUp τ 0 21 0) 0 7 ((nI (dNb D + 1)) - 1), (152, [some (.ref 0), some (.int (nI w)), some (.int ((xLow (fun c => xPop (dBareP D c)) (-1, 99) c).1)), some (.int ((xLow (fun c => xPop (dBareP D c)) (-1, 99) c).2)), some (.int (nI (3 * dNb D))), some (.int (nI c)), none], [.int ((xLow (fun c => xPop (dBareP D c)) (-1, 99) c).2)])) rfl ?_
        show gR _ _ _ (gUp (gUp τ 0 21 0) 0 7 ((nI (dNb D + 1)) - 1)) (152, [some (.ref 0), some (.int (nI w)), some (.int ((xLow (fun c => xPop (dBareP D c)) (-1, 99) c).1)), some (.int ((xLow (fun c => xPop (dBareP D c)) (-1, 99) c).2)), some (.int (nI (3 * dNb D))), some (.int (nI c)), none], [.int ((xLow (fun c => xPop (dBareP D c)) (-1, 99) c).2)])
        refine gR.ret rfl ?_
        obtain rfl : c = 36 := by omega
        refine ⟨trivial, ?_, mPl_end hP hR.2.1.1 hR.2.2.2.2 (gN_sub (b := 1) rfl rfl (by omega))⟩
        first | (rw [if_pos (Decidable.not_not.mp zc129)]; rfl) | (rw [if_neg zc129, if_pos (Decidable.not_not.mp zc141)]; rfl) | (rw [if_neg zc129, if_neg zc141]; rfl)
      · rw [gN_eq (x := nI w) (y := 1) (a := w) (b := 1) rfl rfl (by omega) (by omega)] at zc141
        refine gR.steps 2 (gUp (gUp τ 0 21 0) 0 7 ((nI (dNb D + 1)) - 1), (147, [some (.ref 0), some (.int (nI w)), some (.int ((xLow (fun c => xPop (dBareP D c)) (-1, 99) c).1)), some (.int ((xLow (fun c => xPop (dBareP D c)) (-1, 99) c).2)), some (.int (nI (3 * dNb D))), some (.int (nI c)), none], [.int 12, .int ((xLow (fun c => xPop (dBareP D c)) (-1, 99) c).1)])) rfl ?_
        refine gR.brT (p := ¬ (12 : Int32) = 0) rfl (by decide) ?_
        refine gR.steps 1 (gUp (gUp τ 0 21 0) 0 7 ((nI (dNb D + 1)) - 1), (152, [some (.ref 0), some (.int (nI w)), some (.int ((xLow (fun c => xPop (dBareP D c)) (-1, 99) c).1)), some (.int ((xLow (fun c => xPop (dBareP D c)) (-1, 99) c).2)), some (.int (nI (3 * dNb D))), some (.int (nI c)), none], [.int (((xLow (fun c => xPop (dBareP D c)) (-1, 99) c).1) - ((xLow (fun c => xPop (dBareP D c)) (-1, 99) c).1) / 12 * 12)])) rfl ?_
        show gR _ _ _ (gUp (gUp τ 0 21 0) 0 7 ((nI (dNb D + 1)) - 1)) (152, [some (.ref 0), some (.int (nI w)), some (.int ((xLow (fun c => xPop (dBareP D c)) (-1, 99) c).1)), some (.int ((xLow (fun c => xPop (dBareP D c)) (-1, 99) c).2)), some (.int (nI (3 * dNb D))), some (.int (nI c)), none], [.int (((xLow (fun c => xPop (dBareP D c)) (-1, 99) c).1) - ((xLow (fun c => xPop (dBareP D c)) (-1, 99) c).1) / 12 * 12)])
        refine gR.ret rfl ?_
        obtain rfl : c = 36 := by omega
        refine ⟨trivial, ?_, mPl_end hP hR.2.1.1 hR.2.2.2.2 (gN_sub (b := 1) rfl rfl (by omega))⟩
        first | (rw [if_pos (Decidable.not_not.mp zc129)]; rfl) | (rw [if_neg zc129, if_pos (Decidable.not_not.mp zc141)]; rfl) | (rw [if_neg zc129, if_neg zc141]; rfl)
    · rw [gN_eq (x := nI w) (y := 0) (a := w) (b := 0) rfl rfl (by omega) (by omega)] at zc129
      refine gR.steps 2 (gUp (gUp τ 0 21 0) 0 7 ((nI (dNb D + 1)) - 1), (135, [some (.ref 0), some (.int (nI w)), some (.int ((xLow (fun c => xPop (dBareP D c)) (-1, 99) c).1)), some (.int ((xLow (fun c => xPop (dBareP D c)) (-1, 99) c).2)), some (.int (nI (3 * dNb D))), some (.int (nI c)), none], [.int 12, .int ((xLow (fun c => xPop (dBareP D c)) (-1, 99) c).1)])) rfl ?_
      refine gR.brT (p := ¬ (12 : Int32) = 0) rfl (by decide) ?_
      refine gR.steps 1 (gUp (gUp τ 0 21 0) 0 7 ((nI (dNb D + 1)) - 1), (152, [some (.ref 0), some (.int (nI w)), some (.int ((xLow (fun c => xPop (dBareP D c)) (-1, 99) c).1)), some (.int ((xLow (fun c => xPop (dBareP D c)) (-1, 99) c).2)), some (.int (nI (3 * dNb D))), some (.int (nI c)), none], [.int (((xLow (fun c => xPop (dBareP D c)) (-1, 99) c).1) / 12)])) rfl ?_
      show gR _ _ _ (gUp (gUp τ 0 21 0) 0 7 ((nI (dNb D + 1)) - 1)) (152, [some (.ref 0), some (.int (nI w)), some (.int ((xLow (fun c => xPop (dBareP D c)) (-1, 99) c).1)), some (.int ((xLow (fun c => xPop (dBareP D c)) (-1, 99) c).2)), some (.int (nI (3 * dNb D))), some (.int (nI c)), none], [.int (((xLow (fun c => xPop (dBareP D c)) (-1, 99) c).1) / 12)])
      refine gR.ret rfl ?_
      obtain rfl : c = 36 := by omega
      refine ⟨trivial, ?_, mPl_end hP hR.2.1.1 hR.2.2.2.2 (gN_sub (b := 1) rfl rfl (by omega))⟩
      first | (rw [if_pos (Decidable.not_not.mp zc129)]; rfl) | (rw [if_neg zc129, if_pos (Decidable.not_not.mp zc141)]; rfl) | (rw [if_neg zc129, if_neg zc141]; rfl)
  · rw [gN_le (x := 36) (y := nI c) (a := 36) (b := c) rfl rfl (by omega) (by omega)] at zc45
    refine gR.steps 5 (τ, (58, [some (.ref 0), some (.int (nI w)), some (.int ((xLow (fun c => xPop (dBareP D c)) (-1, 99) c).1)), some (.int ((xLow (fun c => xPop (dBareP D c)) (-1, 99) c).2)), some (.int (nI (3 * dNb D))), some (.int (nI c)), none], [.int 12, .int (nI c), .int (nI (3 * dNb D)), .ref 7])) rfl ?_
    refine gR.brT (p := ¬ (12 : Int32) = 0) rfl (by decide) ?_
    refine gR.ast (i := nI (3 * dNb D)) (j := 3 * dNb D) (N := 33) (q := 7) (x := nI c / 12) rfl rfl (by omega) (by omega) ?_
    refine gR.steps 7 (gUp τ 7 (3 * dNb D) (nI c / 12), (72, [some (.ref 0), some (.int (nI w)), some (.int ((xLow (fun c => xPop (dBareP D c)) (-1, 99) c).1)), some (.int ((xLow (fun c => xPop (dBareP D c)) (-1, 99) c).2)), some (.int (nI (3 * dNb D))), some (.int (nI c)), none], [.int 12, .int (nI c), .int ((nI (3 * dNb D)) + 1), .ref 7])) rfl ?_
    refine gR.brT (p := ¬ (12 : Int32) = 0) rfl (by decide) ?_
    refine gR.ast (i := (nI (3 * dNb D)) + 1) (j := 3 * dNb D + 1) (N := 33) (q := 7) (x := nI c - nI c / 12 * 12) rfl (gN_add rfl rfl) (by omega) (by omega) ?_
    refine gR.steps 1 (gUp (gUp τ 7 (3 * dNb D) (nI c / 12)) 7 (3 * dNb D + 1) (nI c - nI c / 12 * 12), (75, [some (.ref 0), some (.int (nI w)), some (.int ((xLow (fun c => xPop (dBareP D c)) (-1, 99) c).1)), some (.int ((xLow (fun c => xPop (dBareP D c)) (-1, 99) c).2)), some (.int (nI (3 * dNb D))), some (.int (nI c)), none], [.ref 0])) rfl ?_
    have hP1 := mPl_up (v := nI c - nI c / 12 * 12) (mPl_up (v := nI c / 12) hP (i := 3 * dNb D) (by omega) (by omega)) (i := 3 * dNb D + 1) (by omega) (by omega)
    refine gR.call' rfl (s_X11_grows (by omega) (gUp (gUp τ 7 (3 * dNb D) (nI c / 12)) 7 (3 * dNb D + 1) (nI c - nI c / 12 * 12)) (dN D) (dK D) (dM D) (dB D) gn0 true (dNb D + 1) (xPut (dKd D) (dNb D) (c / 12)) (xPut (dBg D) (dNb D) (c % 12)) (xPut (dSp D) (dNb D) 1) (mEv_k (hP1.2.1 13 (by decide) (by decide)) (hP1.1 9 (by decide) (by decide) (by decide) (by decide) (by decide) (by decide)) hR.1) (mBu_pl hP1 hR.2.1 hR.2.2.1 (by omega) (by omega) (by rw [gUp_o (by omega), gUp_s]; exact gN_div rfl rfl (by omega) (by omega) (by omega)) (by rw [gUp_s]; exact gN_rem rfl rfl (by omega) (by omega) (by omega))) (mGone_0 ((hP1.2.1 15 (by decide) (by decide)).trans hR.2.2.2.1)) hP1.2.2.2.1) ?_
    rintro _ υ ⟨rfl, hF, hrows⟩
    have hP2 := mPl_gr hP1 hF
    show gR _ _ _ υ (78, [some (.ref 0), some (.int (nI w)), some (.int ((xLow (fun c => xPop (dBareP D c)) (-1, 99) c).1)), some (.int ((xLow (fun c => xPop (dBareP D c)) (-1, 99) c).2)), some (.int (nI (3 * dNb D))), some (.int (nI c)), none], [])
    refine gR.steps 1 (υ, (79, [some (.ref 0), some (.int (nI w)), some (.int ((xLow (fun c => xPop (dBareP D c)) (-1, 99) c).1)), some (.int ((xLow (fun c => xPop (dBareP D c)) (-1, 99) c).2)), some (.int (nI (3 * dNb D))), some (.int (nI c)), none], [.ref 0])) rfl ?_
    refine gR.callp rfl (s_X11_bareNow (by omega) υ (dYelP D c) (fun m hm => ⟨(hrows m hm).2.1, dYelP_le hR.2.1.sp hR.2.2.1 c m⟩)) ?_
    refine gR.callp rfl (s_X11_ones (by omega) υ (dBareP D c)) ?_
    refine gR.steps 3 (υ, (90, [some (.ref 0), some (.int (nI w)), some (.int ((xLow (fun c => xPop (dBareP D c)) (-1, 99) c).1)), some (.int ((xLow (fun c => xPop (dBareP D c)) (-1, 99) c).2)), some (.int (nI (3 * dNb D))), some (.int (nI c)), some (.int (nI (xPop (dBareP D c))))], [.int ((xLow (fun c => xPop (dBareP D c)) (-1, 99) c).2), .int (nI (xPop (dBareP D c)))])) rfl ?_
    refine gR.ifte rfl (fun zc90 => ?_) (fun zc90 => ?_)
    · refine gR.steps 4 (υ, (103, [some (.ref 0), some (.int (nI w)), some (.int ((xLow (fun c => xPop (dBareP D c)) (-1, 99) c).1)), some (.int ((xLow (fun c => xPop (dBareP D c)) (-1, 99) c).2)), some (.int (nI (3 * dNb D))), some (.int (nI c)), some (.int (nI (xPop (dBareP D c))))], [.int ((xLow (fun c => xPop (dBareP D c)) (-1, 99) c).2), .int (nI (xPop (dBareP D c)))])) rfl ?_
      refine gR.callp rfl (s_X11_lesser (by omega) υ (nI (xPop (dBareP D c))) ((xLow (fun c => xPop (dBareP D c)) (-1, 99) c).2)) ?_
      refine gR.steps 3 (υ, (41, [some (.ref 0), some (.int (nI w)), some (.int ((xLow (fun c => xPop (dBareP D c)) (-1, 99) c).1)), some (.int (if (nI (xPop (dBareP D c))) < ((xLow (fun c => xPop (dBareP D c)) (-1, 99) c).2) then nI (xPop (dBareP D c)) else (xLow (fun c => xPop (dBareP D c)) (-1, 99) c).2)), some (.int (nI (3 * dNb D))), some (.int ((nI c) + 1)), some (.int (nI (xPop (dBareP D c))))], [])) rfl ?_
      refine gR.forget [some (.ref 0), some (.int (nI w)), some (.int ((xLow (fun c => xPop (dBareP D c)) (-1, 99) (c + 1)).1)), some (.int ((xLow (fun c => xPop (dBareP D c)) (-1, 99) (c + 1)).2)), some (.int (nI (3 * dNb D))), some (.int (nI (c + 1))), none] ⟨rfl, ⟨rfl, ⟨gSomeI (by simp only [xLow]; rw [if_neg (show ¬ nI (xPop (dBareP D c)) < (xLow (fun c => xPop (dBareP D c)) (-1, 99) c).2 from Int32.not_lt.mpr zc90)]), ⟨gSomeI (by rw [if_neg (show ¬ nI (xPop (dBareP D c)) < (xLow (fun c => xPop (dBareP D c)) (-1, 99) c).2 from Int32.not_lt.mpr zc90)]; simp only [xLow]; rw [if_neg (show ¬ nI (xPop (dBareP D c)) < (xLow (fun c => xPop (dBareP D c)) (-1, 99) c).2 from Int32.not_lt.mpr zc90)]), ⟨rfl, ⟨gSomeI (gN_add rfl rfl), trivial⟩⟩⟩⟩⟩⟩ ?_
      exact ih ⟨c + 1, _⟩ ⟨by omega, hP2⟩ (by dsimp only; omega)
    · refine gR.steps 5 (υ, (103, [some (.ref 0), some (.int (nI w)), some (.int (nI c)), some (.int ((xLow (fun c => xPop (dBareP D c)) (-1, 99) c).2)), some (.int (nI (3 * dNb D))), some (.int (nI c)), some (.int (nI (xPop (dBareP D c))))], [.int ((xLow (fun c => xPop (dBareP D c)) (-1, 99) c).2), .int (nI (xPop (dBareP D c)))])) rfl ?_
      refine gR.callp rfl (s_X11_lesser (by omega) υ (nI (xPop (dBareP D c))) ((xLow (fun c => xPop (dBareP D c)) (-1, 99) c).2)) ?_
      refine gR.steps 3 (υ, (41, [some (.ref 0), some (.int (nI w)), some (.int (nI c)), some (.int (if (nI (xPop (dBareP D c))) < ((xLow (fun c => xPop (dBareP D c)) (-1, 99) c).2) then nI (xPop (dBareP D c)) else (xLow (fun c => xPop (dBareP D c)) (-1, 99) c).2)), some (.int (nI (3 * dNb D))), some (.int ((nI c) + 1)), some (.int (nI (xPop (dBareP D c))))], [])) rfl ?_
      refine gR.forget [some (.ref 0), some (.int (nI w)), some (.int ((xLow (fun c => xPop (dBareP D c)) (-1, 99) (c + 1)).1)), some (.int ((xLow (fun c => xPop (dBareP D c)) (-1, 99) (c + 1)).2)), some (.int (nI (3 * dNb D))), some (.int (nI (c + 1))), none] ⟨rfl, ⟨rfl, ⟨gSomeI (by simp only [xLow]; rw [if_pos (show nI (xPop (dBareP D c)) < (xLow (fun c => xPop (dBareP D c)) (-1, 99) c).2 from Int32.not_le.mp zc90)]), ⟨gSomeI (by rw [if_pos (show nI (xPop (dBareP D c)) < (xLow (fun c => xPop (dBareP D c)) (-1, 99) c).2 from Int32.not_le.mp zc90)]; simp only [xLow]; rw [if_pos (show nI (xPop (dBareP D c)) < (xLow (fun c => xPop (dBareP D c)) (-1, 99) c).2 from Int32.not_le.mp zc90)]), ⟨rfl, ⟨gSomeI (gN_add rfl rfl), trivial⟩⟩⟩⟩⟩⟩ ?_
      exact ih ⟨c + 1, _⟩ ⟨by omega, hP2⟩ (by dsimp only; omega)
def aPlant (D : xDat) (w : Int32) : Int32 := if 0 ≤ w.toInt ∧ w.toInt ≤ 2 then xPick3 w ((dPlant D).1 / 12) ((dPlant D).1 - (dPlant D).1 / 12 * 12) (dPlant D).2 else -2
theorem s_X11_plant {d : Nat} (hd : 7 ≤ d) (σ : gS) (D : xDat) (w : Int32) (hs : mSt σ D) : gC d 172 [.ref 0, .int w] σ (fun r τ => r = some (.int (aPlant D w)) ∧ mKeep σ τ) := by
  obtain ⟨d, rfl⟩ : ∃ k, d = k + 1 := ⟨d - 1, by omega⟩
  refine gC.of (P := pX11_plant) (nL := 2) (rt := (some (.int))) (lv := [some (.ref 0), some (.int w)]) (by decide +kernel) rfl rfl rfl (by simp [gEnt, Value.category]) rfl ?_
  refine gR.steps 1 (σ, (1, [some (.ref 0), some (.int w)], [.ref 0])) rfl ?_
  refine gR.call' rfl (s_X11_find (by omega) σ D hs) ?_
  rintro _ τ ⟨rfl, hk, hf⟩
  show gR _ _ _ τ (4, [some (.ref 0), some (.int w)], [])
  refine gR.steps 4 (τ, (10, [some (.ref 0), some (.int w)], [.long 2, .long 0, .long (Int32.toInt64 w)])) rfl ?_
  refine gR.callp rfl (s_X11_inI (by omega) τ w 0 2 0 2 (by decide) (by decide)) ?_
  refine gR.ifte rfl (fun zc13 => ?_) (fun zc13 => ?_)
  · rw [bI_eq0] at zc13
    refine gR.steps 1 (τ, (26, [some (.ref 0), some (.int w)], [.int (-2)])) rfl ?_
    refine gR.ret rfl ?_
    exact ⟨trivial, by unfold aPlant; rw [if_neg zc13], hk⟩
  · rw [bI_eq0, Decidable.not_not] at zc13
    obtain ⟨ww, hww, rfl⟩ := gN_of (x := w) (n := 3) (by omega) (by omega) (by omega)
    refine gR.steps 2 (τ, (18, [some (.ref 0), some (.int (nI ww))], [.int (nI ww), .ref 0])) rfl ?_
    refine gR.call' rfl (s_X11_plantBy (by omega) τ D ww (mRdy.of (hs.keep hk) hf) hww) ?_
    rintro _ τ2 ⟨rfl, hG⟩
    show gR _ _ _ τ2 (21, [some (.ref 0), some (.int (nI ww))], [.int (if ww = 0 then (dPlant D).1 / 12 else if ww = 1 then (dPlant D).1 - (dPlant D).1 / 12 * 12 else (dPlant D).2)])
    refine gR.steps 1 (τ2, (26, [some (.ref 0), some (.int (nI ww))], [.int (if ww = 0 then (dPlant D).1 / 12 else if ww = 1 then (dPlant D).1 - (dPlant D).1 / 12 * 12 else (dPlant D).2)])) rfl ?_
    refine gR.ret rfl ?_
    refine ⟨trivial, ?_, hk.tr hG.keep⟩
    rw [show aPlant D (nI ww) = _ from if_pos zc13, xPick3_n hww]
