def xTopI (f : Nat → Int32) : Nat → Int32 × Int32
  | 0 => (-1, -1)
  | k + 1 => if (xTopI f k).2 < f k then (nI k, f k) else xTopI f k
def dSR (D : xDat) (c : Nat) : Int32 := if dRun (fun m => dBel D (some (c / dNb D)) (c % dNb D) (m + 1)) (dDb D) = -1 then 24 else dRun (fun m => dBel D (some (c / dNb D)) (c % dNb D) (m + 1)) (dDb D)
def dSend (D : xDat) : Int32 × Int32 := xTopI (dSR D) (24 * dNb D)
def dSendBy (D : xDat) (w : Nat) : Int32 := if (dSend D).1 = -1 then -1 else if w = 0 then (dSend D).1 / nI (dNb D) else if w = 1 then (dSend D).1 - (dSend D).1 / nI (dNb D) * nI (dNb D) else if (dSend D).2 = 24 then -1 else (dSend D).2
/-- while a look more is thought of -/
def mSe (σ τ : gS) : Prop := (∀ q, q ≠ 0 → q ≠ 13 → τ q = σ q) ∧ ∀ s, s ≠ 22 → s ≠ 23 → τ 0 s = σ 0 s
theorem mSe.rf (σ : gS) : mSe σ σ := ⟨fun _ _ _ => rfl, fun _ _ _ => rfl⟩
theorem mSe_up {σ τ : gS} {s : Nat} {v : Int32} (hs : s = 22 ∨ s = 23) (h : mSe σ τ) : mSe σ (gUp τ 0 s v) := ⟨fun q a b => by rw [gUp_ne a]; exact h.1 q a b, fun p a b => by rw [gUp_o (by omega)]; exact h.2 p a b⟩
theorem mSe_be {σ τ υ : gS} (h : mSe σ τ) (hF : mBeF τ υ) : mSe σ υ := ⟨fun q a b => (hF q b).trans (h.1 q a b), fun s a b => by rw [hF 0 (by decide)]; exact h.2 s a b⟩
def mSnF (σ τ : gS) : Prop := (∀ q, q ≠ 0 → q ≠ 10 → q ≠ 11 → q ≠ 12 → q ≠ 13 → q ≠ 14 → τ q = σ q) ∧ ∀ s, s ≠ 23 → τ 0 s = σ 0 s
theorem mSnF.keep {σ τ : gS} (h : mSnF σ τ) : mKeep σ τ := ⟨fun q h0 hs => h.1 q h0 (fun z => hs (by unfold mScr; omega)) (fun z => hs (by unfold mScr; omega)) (fun z => hs (by unfold mScr; omega)) (fun z => hs (by unfold mScr; omega)) (fun z => hs (by unfold mScr; omega)), fun s _ _ a _ => h.2 s a⟩
theorem mLo_k {σ τ : gS} {n : Nat} {lm lb : Nat → Nat} (h0 : τ 0 9 = σ 0 9) (h8 : τ 8 = σ 8) (h : mLo σ n lm lb) : mLo τ n lm lb := by
  unfold mLo at *
  rw [h0, h8]; exact h
theorem mCells_k {σ τ : gS} {S : Nat → Nat → Nat} {Q : Nat → Nat → Bool} {nb : Nat} (h10 : τ 10 = σ 10) (h11 : τ 11 = σ 11) (h : mCells σ S Q nb) : mCells τ S Q nb := by
  unfold mCells at *
  rw [h10, h11]; exact h
theorem mSe_end {σ ρ τ : gS} (hF : mGrF σ ρ) (h : mSe ρ τ) (h22 : σ 0 22 = -1) : mSnF σ (gUp τ 0 22 (-1)) := ⟨fun q a b c d e f => by rw [gUp_ne a, h.1 q a e]; exact hF q b c d f, fun s hs => by
  by_cases h2 : s = 22
  · rw [h2, gUp_s, h22]
  · rw [gUp_o (by omega), h.2 s h2 hs, hF.c 0]⟩
/-- what send needs beside -/
def mRdyS (σ : gS) (D : xDat) : Prop := mRdy σ D ∧ mLo σ (dNl D) (dLm D) (dLb D) ∧ (σ 0 11 = nI (dF D) ∧ dF D ≤ 100 ∧ σ 0 12 = nI (dDb D) ∧ dDb D ≤ 50) ∧ σ 0 22 = -1
theorem mRdyS.of {σ : gS} {D : xDat} (hs : mSt σ D) (hf : mFnd σ D) : mRdyS σ D := ⟨mRdy.of hs hf, hf.2.1, hs.2.2.2.1, hs.2.2.2.2.2.2⟩
theorem s_X11_sendBy {d : Nat} (hd : 5 ≤ d) (σ : gS) (D : xDat) (w : Nat) (hR : mRdyS σ D) (hw : w < 3) : gC d 173 [.ref 0, .int (nI w)] σ (fun r τ => r = some (.int (dSendBy D w)) ∧ mSnF σ τ) := by
  obtain ⟨d, rfl⟩ : ∃ k, d = k + 1 := ⟨d - 1, by omega⟩
  refine gC.of (P := pX11_sendBy) (nL := 6) (rt := (some (.int))) (lv := [some (.ref 0), some (.int (nI w)), none, none, none, none]) (by decide +kernel) rfl rfl rfl (by simp [gEnt, Value.category]) rfl ?_
  have hn10 := hR.1.2.2.1
  refine gR.steps 5 (σ, (5, [some (.ref 0), some (.int (nI w)), some (.int (-1)), some (.int (-1)), none, none], [.ref 0])) rfl ?_
  refine gR.call' rfl (s_X11_grows (by omega) σ (dN D) (dK D) (dM D) (dB D) gn0 false (dNb D) (dKd D) (dBg D) (dSp D) hR.1.1 hR.1.2.1 (mGone_0 hR.1.2.2.2.1) (hR.1.2.2.2.2.trans rfl)) ?_
  rintro _ ρ ⟨rfl, hF, hrows⟩
  show gR _ _ _ ρ (8, [some (.ref 0), some (.int (nI w)), some (.int (-1)), some (.int (-1)), none, none], [])
  refine gR.steps 2 (ρ, (11, [some (.ref 0), some (.int (nI w)), some (.int (-1)), some (.int (-1)), some (.int 0), none], [])) rfl ?_
  refine gR.forget [some (.ref 0), some (.int (nI w)), some (.int (xTopI (dSR D) 0).1), some (.int (xTopI (dSR D) 0).2), some (.int 0), none] ⟨rfl, ⟨rfl, ⟨rfl, ⟨rfl, ⟨rfl, trivial⟩⟩⟩⟩⟩ ?_
  refine gR.loop (α := Nat × gS) (fun ⟨c, τ⟩ => c ≤ 24 * dNb D ∧ mSe ρ τ) (fun ⟨c, τ⟩ => 24 * dNb D - c) (fun ⟨c, τ⟩ => (τ, (11, [some (.ref 0), some (.int (nI w)), some (.int ((xTopI (dSR D) c).1)), some (.int ((xTopI (dSR D) c).2)), some (.int (nI c)), none], []))) ?_ ⟨0, ρ⟩ ⟨Nat.zero_le _, mSe.rf ρ⟩
  rintro ⟨c, τ⟩ ⟨hc, hP⟩ ih
  show gR _ _ _ τ (11, [some (.ref 0), some (.int (nI w)), some (.int ((xTopI (dSR D) c).1)), some (.int ((xTopI (dSR D) c).2)), some (.int (nI c)), none], [])
  refine gR.steps 4 (τ, (19, [some (.ref 0), some (.int (nI w)), some (.int ((xTopI (dSR D) c).1)), some (.int ((xTopI (dSR D) c).2)), some (.int (nI c)), none], [.int (τ 0 7), .int 24, .int (nI c)])) rfl ?_
  refine gR.topI (y := nI (dNb D)) ((hP.2 7 (by decide) (by decide)).trans (by rw [hF.c 0]; exact hR.1.2.1.1)) ?_
  refine gR.steps 1 (τ, (20, [some (.ref 0), some (.int (nI w)), some (.int ((xTopI (dSR D) c).1)), some (.int ((xTopI (dSR D) c).2)), some (.int (nI c)), none], [.int (24 * (nI (dNb D))), .int (nI c)])) rfl ?_
  refine gR.ifte rfl (fun zc20 => ?_) (fun zc20 => ?_)
  · rw [gN_le (x := 24 * (nI (dNb D))) (y := nI c) (a := 24 * (dNb D)) (b := c) (gN_mul rfl rfl) rfl (by omega) (by omega)] at zc20
    have hc2 : c = 24 * dNb D := by omega
    subst hc2
    refine gR.steps 5 (gUp τ 0 22 (-1), (101, [some (.ref 0), some (.int (nI w)), some (.int ((xTopI (dSR D) (24 * dNb D)).1)), some (.int ((xTopI (dSR D) (24 * dNb D)).2)), some (.int (nI (24 * dNb D))), none], [.int (-1), .int ((xTopI (dSR D) (24 * dNb D)).1)])) rfl ?_
    refine gR.ifte rfl (fun zc101 => ?_) (fun zc101 => ?_)
    · have zc101 : ¬ (dSend D).1 = -1 := zc101
      have hnb0 : dNb D ≠ 0 := fun z => zc101 (by unfold dSend; rw [z]; rfl)
      refine gR.steps 1 (gUp τ 0 22 (-1), (109, [some (.ref 0), some (.int (nI w)), some (.int ((xTopI (dSR D) (24 * dNb D)).1)), some (.int ((xTopI (dSR D) (24 * dNb D)).2)), some (.int (nI (24 * dNb D))), none], [.int (nI w)])) rfl ?_
      refine gR.ifte rfl (fun zc109 => ?_) (fun zc109 => ?_)
      · rw [gN_eq (x := nI w) (y := 0) (a := w) (b := 0) rfl rfl (by omega) (by omega)] at zc109
        refine gR.steps 2 (gUp τ 0 22 (-1), (123, [some (.ref 0), some (.int (nI w)), some (.int ((xTopI (dSR D) (24 * dNb D)).1)), some (.int ((xTopI (dSR D) (24 * dNb D)).2)), some (.int (nI (24 * dNb D))), none], [.int 1, .int (nI w)])) rfl ?_
        refine gR.ifte rfl (fun zc123 => ?_) (fun zc123 => ?_)
        · rw [gN_eq (x := nI w) (y := 1) (a := w) (b := 1) rfl rfl (by omega) (by omega)] at zc123
          refine gR.steps 2 (gUp τ 0 22 (-1), (138, [some (.ref 0), some (.int (nI w)), some (.int ((xTopI (dSR D) (24 * dNb D)).1)), some (.int ((xTopI (dSR D) (24 * dNb D)).2)), some (.int (nI (24 * dNb D))), none], [.int 24, .int ((xTopI (dSR D) (24 * dNb D)).2)])) rfl ?_
          refine gR.ifte rfl (fun zc138 => ?_) (fun zc138 => ?_)
          · have zc138 : ¬ (dSend D).2 = 24 := zc138
            refine gR.steps 1 (gUp τ 0 22 (-1), (146, [some (.ref 0), some (.int (nI w)), some (.int ((xTopI (dSR D) (24 * dNb D)).1)), some (.int ((xTopI (dSR D) (24 * dNb D)).2)), some (.int (nI (24 * dNb D))), none], [.int ((xTopI (dSR D) (24 * dNb D)).2)])) rfl ?_
            show gR _ _ _ (gUp τ 0 22 (-1)) (146, [some (.ref 0), some (.int (nI w)), some (.int ((xTopI (dSR D) (24 * dNb D)).1)), some (.int ((xTopI (dSR D) (24 * dNb D)).2)), some (.int (nI (24 * dNb D))), none], [.int ((xTopI (dSR D) (24 * dNb D)).2)])
            refine gR.ret rfl ?_
            refine ⟨trivial, ?_, mSe_end hF hP hR.2.2.2⟩
            unfold dSendBy
            first | rw [show (dSend D).1 = -1 from Decidable.not_not.mp zc101, if_pos rfl] | (rw [if_neg zc101, if_pos (Decidable.not_not.mp zc109)]; rfl) | (rw [if_neg zc101, if_neg zc109, if_pos (Decidable.not_not.mp zc123)]; rfl) | (rw [if_neg zc101, if_neg zc109, if_neg zc123, if_pos (Decidable.not_not.mp zc138)]) | (rw [if_neg zc101, if_neg zc109, if_neg zc123, if_neg zc138]; rfl)
          · have zc138 : ¬ ¬ (dSend D).2 = 24 := zc138
            refine gR.steps 2 (gUp τ 0 22 (-1), (146, [some (.ref 0), some (.int (nI w)), some (.int ((xTopI (dSR D) (24 * dNb D)).1)), some (.int ((xTopI (dSR D) (24 * dNb D)).2)), some (.int (nI (24 * dNb D))), none], [.int (-1)])) rfl ?_
            show gR _ _ _ (gUp τ 0 22 (-1)) (146, [some (.ref 0), some (.int (nI w)), some (.int ((xTopI (dSR D) (24 * dNb D)).1)), some (.int ((xTopI (dSR D) (24 * dNb D)).2)), some (.int (nI (24 * dNb D))), none], [.int (-1)])
            refine gR.ret rfl ?_
            refine ⟨trivial, ?_, mSe_end hF hP hR.2.2.2⟩
            unfold dSendBy
            first | rw [show (dSend D).1 = -1 from Decidable.not_not.mp zc101, if_pos rfl] | (rw [if_neg zc101, if_pos (Decidable.not_not.mp zc109)]; rfl) | (rw [if_neg zc101, if_neg zc109, if_pos (Decidable.not_not.mp zc123)]; rfl) | (rw [if_neg zc101, if_neg zc109, if_neg zc123, if_pos (Decidable.not_not.mp zc138)]) | (rw [if_neg zc101, if_neg zc109, if_neg zc123, if_neg zc138]; rfl)
        · rw [gN_eq (x := nI w) (y := 1) (a := w) (b := 1) rfl rfl (by omega) (by omega)] at zc123
          refine gR.steps 3 (gUp τ 0 22 (-1), (131, [some (.ref 0), some (.int (nI w)), some (.int ((xTopI (dSR D) (24 * dNb D)).1)), some (.int ((xTopI (dSR D) (24 * dNb D)).2)), some (.int (nI (24 * dNb D))), none], [.int (τ 0 7), .int ((xTopI (dSR D) (24 * dNb D)).1)])) rfl ?_
          refine gR.topI (y := nI (dNb D)) ((hP.2 7 (by decide) (by decide)).trans (by rw [hF.c 0]; exact hR.1.2.1.1)) ?_
          refine gR.brT (p := ¬ (nI (dNb D)) = 0) rfl (gN_ne (a := dNb D) (b := 0) rfl rfl (by omega) (by omega) (by omega)) ?_
          refine gR.steps 1 (gUp τ 0 22 (-1), (146, [some (.ref 0), some (.int (nI w)), some (.int ((xTopI (dSR D) (24 * dNb D)).1)), some (.int ((xTopI (dSR D) (24 * dNb D)).2)), some (.int (nI (24 * dNb D))), none], [.int (((xTopI (dSR D) (24 * dNb D)).1) - ((xTopI (dSR D) (24 * dNb D)).1) / (nI (dNb D)) * (nI (dNb D)))])) rfl ?_
          show gR _ _ _ (gUp τ 0 22 (-1)) (146, [some (.ref 0), some (.int (nI w)), some (.int ((xTopI (dSR D) (24 * dNb D)).1)), some (.int ((xTopI (dSR D) (24 * dNb D)).2)), some (.int (nI (24 * dNb D))), none], [.int (((xTopI (dSR D) (24 * dNb D)).1) - ((xTopI (dSR D) (24 * dNb D)).1) / (nI (dNb D)) * (nI (dNb D)))])
          refine gR.ret rfl ?_
          refine ⟨trivial, ?_, mSe_end hF hP hR.2.2.2⟩
          unfold dSendBy
          first | rw [show (dSend D).1 = -1 from Decidable.not_not.mp zc101, if_pos rfl] | (rw [if_neg zc101, if_pos (Decidable.not_not.mp zc109)]; rfl) | (rw [if_neg zc101, if_neg zc109, if_pos (Decidable.not_not.mp zc123)]; rfl) | (rw [if_neg zc101, if_neg zc109, if_neg zc123, if_pos (Decidable.not_not.mp zc138)]) | (rw [if_neg zc101, if_neg zc109, if_neg zc123, if_neg zc138]; rfl)
      · rw [gN_eq (x := nI w) (y := 0) (a := w) (b := 0) rfl rfl (by omega) (by omega)] at zc109
        refine gR.steps 3 (gUp τ 0 22 (-1), (117, [some (.ref 0), some (.int (nI w)), some (.int ((xTopI (dSR D) (24 * dNb D)).1)), some (.int ((xTopI (dSR D) (24 * dNb D)).2)), some (.int (nI (24 * dNb D))), none], [.int (τ 0 7), .int ((xTopI (dSR D) (24 * dNb D)).1)])) rfl ?_
        refine gR.topI (y := nI (dNb D)) ((hP.2 7 (by decide) (by decide)).trans (by rw [hF.c 0]; exact hR.1.2.1.1)) ?_
        refine gR.brT (p := ¬ (nI (dNb D)) = 0) rfl (gN_ne (a := dNb D) (b := 0) rfl rfl (by omega) (by omega) (by omega)) ?_
        refine gR.steps 1 (gUp τ 0 22 (-1), (146, [some (.ref 0), some (.int (nI w)), some (.int ((xTopI (dSR D) (24 * dNb D)).1)), some (.int ((xTopI (dSR D) (24 * dNb D)).2)), some (.int (nI (24 * dNb D))), none], [.int (((xTopI (dSR D) (24 * dNb D)).1) / (nI (dNb D)))])) rfl ?_
        show gR _ _ _ (gUp τ 0 22 (-1)) (146, [some (.ref 0), some (.int (nI w)), some (.int ((xTopI (dSR D) (24 * dNb D)).1)), some (.int ((xTopI (dSR D) (24 * dNb D)).2)), some (.int (nI (24 * dNb D))), none], [.int (((xTopI (dSR D) (24 * dNb D)).1) / (nI (dNb D)))])
        refine gR.ret rfl ?_
        refine ⟨trivial, ?_, mSe_end hF hP hR.2.2.2⟩
        unfold dSendBy
        first | rw [show (dSend D).1 = -1 from Decidable.not_not.mp zc101, if_pos rfl] | (rw [if_neg zc101, if_pos (Decidable.not_not.mp zc109)]; rfl) | (rw [if_neg zc101, if_neg zc109, if_pos (Decidable.not_not.mp zc123)]; rfl) | (rw [if_neg zc101, if_neg zc109, if_neg zc123, if_pos (Decidable.not_not.mp zc138)]) | (rw [if_neg zc101, if_neg zc109, if_neg zc123, if_neg zc138]; rfl)
    · have zc101 : ¬ ¬ (dSend D).1 = -1 := zc101
      refine gR.steps 2 (gUp τ 0 22 (-1), (146, [some (.ref 0), some (.int (nI w)), some (.int ((xTopI (dSR D) (24 * dNb D)).1)), some (.int ((xTopI (dSR D) (24 * dNb D)).2)), some (.int (nI (24 * dNb D))), none], [.int (-1)])) rfl ?_
      show gR _ _ _ (gUp τ 0 22 (-1)) (146, [some (.ref 0), some (.int (nI w)), some (.int ((xTopI (dSR D) (24 * dNb D)).1)), some (.int ((xTopI (dSR D) (24 * dNb D)).2)), some (.int (nI (24 * dNb D))), none], [.int (-1)])
      refine gR.ret rfl ?_
      refine ⟨trivial, ?_, mSe_end hF hP hR.2.2.2⟩
      unfold dSendBy
      first | rw [show (dSend D).1 = -1 from Decidable.not_not.mp zc101, if_pos rfl] | (rw [if_neg zc101, if_pos (Decidable.not_not.mp zc109)]; rfl) | (rw [if_neg zc101, if_neg zc109, if_pos (Decidable.not_not.mp zc123)]; rfl) | (rw [if_neg zc101, if_neg zc109, if_neg zc123, if_pos (Decidable.not_not.mp zc138)]) | (rw [if_neg zc101, if_neg zc109, if_neg zc123, if_neg zc138]; rfl)
  · rw [gN_le (x := 24 * (nI (dNb D))) (y := nI c) (a := 24 * (dNb D)) (b := c) (gN_mul rfl rfl) rfl (by omega) (by omega)] at zc20
    refine gR.steps 4 (τ, (30, [some (.ref 0), some (.int (nI w)), some (.int ((xTopI (dSR D) c).1)), some (.int ((xTopI (dSR D) c).2)), some (.int (nI c)), none], [.int (τ 0 7), .int (nI c), .ref 0])) rfl ?_
    refine gR.topI (y := nI (dNb D)) ((hP.2 7 (by decide) (by decide)).trans (by rw [hF.c 0]; exact hR.1.2.1.1)) ?_
    refine gR.brT (p := ¬ (nI (dNb D)) = 0) rfl (gN_ne (a := dNb D) (b := 0) rfl rfl (by omega) (by omega) (by omega)) ?_
    refine gR.steps 5 (gUp τ 0 22 (nI c / nI (dNb D)), (41, [some (.ref 0), some (.int (nI w)), some (.int ((xTopI (dSR D) c).1)), some (.int ((xTopI (dSR D) c).2)), some (.int (nI c)), none], [.int (τ 0 7), .int (nI c), .ref 0])) rfl ?_
    refine gR.topI (y := nI (dNb D)) ((hP.2 7 (by decide) (by decide)).trans (by rw [hF.c 0]; exact hR.1.2.1.1)) ?_
    refine gR.brT (p := ¬ (nI (dNb D)) = 0) rfl (gN_ne (a := dNb D) (b := 0) rfl rfl (by omega) (by omega) (by omega)) ?_
    refine gR.steps 2 (gUp (gUp τ 0 22 (nI c / nI (dNb D))) 0 23 (nI c - nI c / nI (dNb D) * nI (dNb D)), (46, [some (.ref 0), some (.int (nI w)), some (.int ((xTopI (dSR D) c).1)), some (.int ((xTopI (dSR D) c).2)), some (.int (nI c)), none], [.ref 0])) rfl ?_
    have hnb0 : 0 < dNb D := by omega
    have hdiv : c / dNb D < 24 := by rw [Nat.div_lt_iff_lt_mul hnb0]; omega
    have hmod : c % dNb D < dNb D := Nat.mod_lt _ hnb0
    have hP1 := mSe_up (s := 23) (v := nI c - nI c / nI (dNb D) * nI (dNb D)) (by decide) (mSe_up (s := 22) (v := nI c / nI (dNb D)) (by decide) hP)
    refine gR.call' rfl (s_X11_believes (by omega) (gUp (gUp τ 0 22 (nI c / nI (dNb D))) 0 23 (nI c - nI c / nI (dNb D) * nI (dNb D))) (dN D) (dK D) (dM D) (dB D) gn0 (dNb D) (dKd D) (dBg D) (dSp D) (dNl D) (dLm D) (dLb D) (dS D gn0) (dQ D gn0) (some (c / dNb D)) (c % dNb D) (dF D) (mEv_k ((hP1.2 13 (by decide) (by decide)).trans (by rw [hF.c 0])) ((hP1.1 9 (by decide) (by decide)).trans (hF.c 9)) hR.1.1) (mBu_k ((hP1.2 7 (by decide) (by decide)).trans (by rw [hF.c 0])) ((hP1.1 7 (by decide) (by decide)).trans (hF.c 7)) hR.1.2.1) (mGone_0 ((hP1.2 15 (by decide) (by decide)).trans (by rw [hF.c 0]; exact hR.1.2.2.2.1))) (mLo_k ((hP1.2 9 (by decide) (by decide)).trans (by rw [hF.c 0])) ((hP1.1 8 (by decide) (by decide)).trans (hF.c 8)) hR.2.1) (mCells_k (hP1.1 10 (by decide) (by decide)) (hP1.1 11 (by decide) (by decide)) (mCells_of (σ := σ) hrows)) ⟨by rw [gUp_o (by omega), gUp_s]; exact gN_div rfl rfl (by omega) (by omega) (by omega), by rw [gUp_s]; exact gN_rem rfl rfl (by omega) (by omega) (by omega), hmod, hdiv⟩ ((hP1.2 11 (by decide) (by decide)).trans (by rw [hF.c 0]; exact hR.2.2.1.1)) hR.2.2.1.2.1) ?_
    rintro _ υ ⟨rfl, hB2, hbel⟩
    have hP2 := mSe_be hP1 hB2
    show gR _ _ _ υ (49, [some (.ref 0), some (.int (nI w)), some (.int ((xTopI (dSR D) c).1)), some (.int ((xTopI (dSR D) c).2)), some (.int (nI c)), none], [])
    refine gR.join (α := Int32) υ (fun zv => (66, [some (.ref 0), some (.int (nI w)), some (.int ((xTopI (dSR D) c).1)), some (.int ((xTopI (dSR D) c).2)), some (.int (nI c)), none], [.int zv])) (dSR D c) ?_ (fun zj66 => ?_)
    · refine gR.steps 3 (υ, (71, [some (.ref 0), some (.int (nI w)), some (.int ((xTopI (dSR D) c).1)), some (.int ((xTopI (dSR D) c).2)), some (.int (nI c)), some (.int (dSR D c))], [.int ((xTopI (dSR D) c).2), .int (dSR D c)])) rfl ?_
      refine gR.ifte rfl (fun zc71 => ?_) (fun zc71 => ?_)
      · refine gR.steps 4 (υ, (84, [some (.ref 0), some (.int (nI w)), some (.int ((xTopI (dSR D) c).1)), some (.int ((xTopI (dSR D) c).2)), some (.int (nI c)), some (.int (dSR D c))], [.int ((xTopI (dSR D) c).2), .int (dSR D c)])) rfl ?_
        refine gR.callp rfl (s_X11_greater (by omega) υ (dSR D c) ((xTopI (dSR D) c).2)) ?_
        refine gR.steps 3 (υ, (11, [some (.ref 0), some (.int (nI w)), some (.int ((xTopI (dSR D) c).1)), some (.int (if ((xTopI (dSR D) c).2) < (dSR D c) then dSR D c else (xTopI (dSR D) c).2)), some (.int ((nI c) + 1)), some (.int (dSR D c))], [])) rfl ?_
        refine gR.forget [some (.ref 0), some (.int (nI w)), some (.int ((xTopI (dSR D) (c + 1)).1)), some (.int ((xTopI (dSR D) (c + 1)).2)), some (.int (nI (c + 1))), none] ⟨rfl, ⟨rfl, ⟨gSomeI (by simp only [xTopI]; rw [if_neg (show ¬ (xTopI (dSR D) c).2 < dSR D c from Int32.not_lt.mpr zc71)]), ⟨gSomeI (by rw [if_neg (show ¬ (xTopI (dSR D) c).2 < dSR D c from Int32.not_lt.mpr zc71)]; simp only [xTopI]; rw [if_neg (show ¬ (xTopI (dSR D) c).2 < dSR D c from Int32.not_lt.mpr zc71)]), ⟨gSomeI (gN_add rfl rfl), trivial⟩⟩⟩⟩⟩ ?_
        exact ih ⟨c + 1, _⟩ ⟨by omega, hP2⟩ (by dsimp only; omega)
      · refine gR.steps 5 (υ, (84, [some (.ref 0), some (.int (nI w)), some (.int (nI c)), some (.int ((xTopI (dSR D) c).2)), some (.int (nI c)), some (.int (dSR D c))], [.int ((xTopI (dSR D) c).2), .int (dSR D c)])) rfl ?_
        refine gR.callp rfl (s_X11_greater (by omega) υ (dSR D c) ((xTopI (dSR D) c).2)) ?_
        refine gR.steps 3 (υ, (11, [some (.ref 0), some (.int (nI w)), some (.int (nI c)), some (.int (if ((xTopI (dSR D) c).2) < (dSR D c) then dSR D c else (xTopI (dSR D) c).2)), some (.int ((nI c) + 1)), some (.int (dSR D c))], [])) rfl ?_
        refine gR.forget [some (.ref 0), some (.int (nI w)), some (.int ((xTopI (dSR D) (c + 1)).1)), some (.int ((xTopI (dSR D) (c + 1)).2)), some (.int (nI (c + 1))), none] ⟨rfl, ⟨rfl, ⟨gSomeI (by simp only [xTopI]; rw [if_pos (show (xTopI (dSR D) c).2 < dSR D c from Int32.not_le.mp zc71)]), ⟨gSomeI (by rw [if_pos (show (xTopI (dSR D) c).2 < dSR D c from Int32.not_le.mp zc71)]; simp only [xTopI]; rw [if_pos (show (xTopI (dSR D) c).2 < dSR D c from Int32.not_le.mp zc71)]), ⟨gSomeI (gN_add rfl rfl), trivial⟩⟩⟩⟩⟩ ?_
        exact ih ⟨c + 1, _⟩ ⟨by omega, hP2⟩ (by dsimp only; omega)
    · refine gR.steps 1 (υ, (50, [some (.ref 0), some (.int (nI w)), some (.int ((xTopI (dSR D) c).1)), some (.int ((xTopI (dSR D) c).2)), some (.int (nI c)), none], [.ref 0])) rfl ?_
      refine gR.callp rfl (s_X11_runNow (by omega) υ (fun m => dBel D (some (c / dNb D)) (c % dNb D) (m + 1)) (dDb D) (fun m hm => ⟨hbel m hm, xBel_le hR.2.2.1.2.1 (m + 1)⟩) ((hP2.2 12 (by decide) (by decide)).trans (by rw [hF.c 0]; exact hR.2.2.1.2.2.1)) hR.2.2.1.2.2.2) ?_
      refine gR.steps 1 (υ, (54, [some (.ref 0), some (.int (nI w)), some (.int ((xTopI (dSR D) c).1)), some (.int ((xTopI (dSR D) c).2)), some (.int (nI c)), none], [.int (-1), .int (dRun (fun m => dBel D (some (c / dNb D)) (c % dNb D) (m + 1)) (dDb D))])) rfl ?_
      refine gR.ifte rfl (fun zc54 => ?_) (fun zc54 => ?_)
      · refine gR.steps 1 (υ, (63, [some (.ref 0), some (.int (nI w)), some (.int ((xTopI (dSR D) c).1)), some (.int ((xTopI (dSR D) c).2)), some (.int (nI c)), none], [.ref 0])) rfl ?_
        refine gR.callp rfl (s_X11_runNow (by omega) υ (fun m => dBel D (some (c / dNb D)) (c % dNb D) (m + 1)) (dDb D) (fun m hm => ⟨hbel m hm, xBel_le hR.2.2.1.2.1 (m + 1)⟩) ((hP2.2 12 (by decide) (by decide)).trans (by rw [hF.c 0]; exact hR.2.2.1.2.2.1)) hR.2.2.1.2.2.2) ?_
        exact zj66 _ (by unfold dSR; rw [if_neg zc54]; rfl)
      · refine gR.steps 2 (υ, (66, [some (.ref 0), some (.int (nI w)), some (.int ((xTopI (dSR D) c).1)), some (.int ((xTopI (dSR D) c).2)), some (.int (nI c)), none], [.int 24])) rfl ?_
        exact zj66 _ (by unfold dSR; rw [if_pos (Decidable.not_not.mp zc54)])
def aSend (D : xDat) (w : Int32) : Int32 := if 0 ≤ w.toInt ∧ w.toInt ≤ 2 then dSendBy D w.toNatClampNeg else -2
theorem s_X11_send {d : Nat} (hd : 7 ≤ d) (σ : gS) (D : xDat) (w : Int32) (hs : mSt σ D) : gC d 174 [.ref 0, .int w] σ (fun r τ => r = some (.int (aSend D w)) ∧ mKeep σ τ) := by
  obtain ⟨d, rfl⟩ : ∃ k, d = k + 1 := ⟨d - 1, by omega⟩
  refine gC.of (P := pX11_send) (nL := 2) (rt := (some (.int))) (lv := [some (.ref 0), some (.int w)]) (by decide +kernel) rfl rfl rfl (by simp [gEnt, Value.category]) rfl ?_
  refine gR.steps 1 (σ, (1, [some (.ref 0), some (.int w)], [.ref 0])) rfl ?_
  refine gR.call' rfl (s_X11_find (by omega) σ D hs) ?_
  rintro _ τ ⟨rfl, hk, hf⟩
  show gR _ _ _ τ (4, [some (.ref 0), some (.int w)], [])
  refine gR.steps 4 (τ, (10, [some (.ref 0), some (.int w)], [.long 2, .long 0, .long (Int32.toInt64 w)])) rfl ?_
  refine gR.callp rfl (s_X11_inI (by omega) τ w 0 2 0 2 (by decide) (by decide)) ?_
  refine gR.ifte rfl (fun zc13 => ?_) (fun zc13 => ?_)
  · rw [bI_eq0] at zc13
    refine gR.steps 1 (τ, (26, [some (.ref 0), some (.int w)], [.int (-2)])) rfl ?_
    refine gR.ret rfl ?_
    exact ⟨trivial, by unfold aSend; rw [if_neg zc13], hk⟩
  · rw [bI_eq0, Decidable.not_not] at zc13
    obtain ⟨ww, hww, rfl⟩ := gN_of (x := w) (n := 3) (by omega) (by omega) (by omega)
    refine gR.steps 2 (τ, (18, [some (.ref 0), some (.int (nI ww))], [.int (nI ww), .ref 0])) rfl ?_
    refine gR.call' rfl (s_X11_sendBy (by omega) τ D ww (mRdyS.of (hs.keep hk) hf) hww) ?_
    rintro _ τ2 ⟨rfl, hG⟩
    show gR _ _ _ τ2 (21, [some (.ref 0), some (.int (nI ww))], [.int (dSendBy D ww)])
    refine gR.steps 1 (τ2, (26, [some (.ref 0), some (.int (nI ww))], [.int (dSendBy D ww)])) rfl ?_
    refine gR.ret rfl ?_
    refine ⟨trivial, ?_, hk.tr hG.keep⟩
    rw [show aSend D (nI ww) = _ from if_pos zc13, nI_clamp (by omega)]
