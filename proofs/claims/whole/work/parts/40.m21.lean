/-- a sheet's data: form (-1: lost), size, items -/
abbrev xShe : Type := (Nat → Int32) × (Nat → Nat) × (Nat → Nat → Int32)
def shF (H : xShe) : Nat → Int32 := H.1
def shZ (H : xShe) : Nat → Nat := H.2.1
def shI (H : xShe) : Nat → Nat → Int32 := H.2.2
/-- the sheets, in the model's memory: a lost sheet's size and items are nobody's -/
def mSh (σ : gS) (H : xShe) : Prop := ∀ s, s < 4 → σ 1 s = shF H s ∧ (shF H s = -1 ∨ shF H s = 0 ∨ shF H s = 1 ∨ shF H s = 2) ∧ shZ H s ≤ 60 ∧ (∃ z, σ 2 s = nI z ∧ z ≤ 60) ∧ (¬ shF H s = -1 → σ 2 s = nI (shZ H s) ∧ ∀ i, i < shZ H s → σ 3 (60 * s + i) = shI H s i)
theorem mSh.keep {σ τ : gS} {H : xShe} (h : mSh σ H) (h1 : τ 1 = σ 1) (h2 : τ 2 = σ 2) (h3 : τ 3 = σ 3) : mSh τ H := by
  unfold mSh at *
  rw [h1, h2, h3]; exact h
def mFiF (σ τ : gS) : Prop := (∀ q, q ≠ 0 → τ q = σ q) ∧ ∀ s, s ≠ 4 → τ 0 s = σ 0 s
theorem mFiF_1 (σ : gS) (x : Int32) : mFiF σ (gUp σ 0 4 x) := ⟨fun q h => gUp_ne h, fun s h => gUp_o (by omega)⟩
/-- what a call on sheets leaves: sheets and latest finding as said, all else as it was -/
def mShF (σ τ : gS) : Prop := (∀ q, q ≠ 0 → q ≠ 1 → q ≠ 2 → q ≠ 3 → q ≠ 4 → τ q = σ q) ∧ ∀ s, s ≠ 4 → τ 0 s = σ 0 s
theorem mShF.rf (σ : gS) : mShF σ σ := ⟨fun _ _ _ _ _ _ => rfl, fun _ _ => rfl⟩
theorem mShF_up {σ τ : gS} {q k : Nat} {v : Int32} (hq : q = 1 ∨ q = 2 ∨ q = 3 ∨ q = 4) (h : mShF σ τ) : mShF σ (gUp τ q k v) := ⟨fun p a b c d e => by rw [gUp_ne (by omega)]; exact h.1 p a b c d e, fun s hs => by rw [gUp_o (by omega)]; exact h.2 s hs⟩
theorem mShF_fi {σ τ : gS} {v : Int32} (h : mShF σ τ) : mShF σ (gUp τ 0 4 v) := ⟨fun p a b c d e => by rw [gUp_ne a]; exact h.1 p a b c d e, fun s hs => by rw [gUp_o (by omega)]; exact h.2 s hs⟩
theorem mSh_fi {σ : gS} {H : xShe} {v : Int32} (h : mSh σ H) : mSh (gUp σ 0 4 v) H := h.keep (gUp_ne (by decide)) (gUp_ne (by decide)) (gUp_ne (by decide))
/-- the finding kept, the answer it gives -/
def xFi (x : Nat) : Int32 := -10 - nI x
def xCut (f v : Int32) : Int32 := if f = 0 then v.toInt8.toInt32 else if f = 1 then v.toInt16.toInt32 else v
theorem s_X11_cut {d : Nat} (hd : 1 ≤ d) (σ : gS) (f v : Int32) : gC d 124 [.int f, .int v] σ (fun r τ => r = some (.int (xCut f v)) ∧ τ = σ) := by
  obtain ⟨d, rfl⟩ : ∃ k, d = k + 1 := ⟨d - 1, by omega⟩
  refine gC.of (P := pX11_cut) (nL := 2) (rt := (some (.int))) (lv := [some (.int f), some (.int v)]) (by decide +kernel) rfl rfl rfl (by simp [gEnt, Value.category]) rfl ?_
  refine gR.steps 1 (σ, (1, [some (.int f), some (.int v)], [.int f])) rfl ?_
  refine gR.ifte rfl (fun zc1 => ?_) (fun zc1 => ?_)
  · refine gR.steps 2 (σ, (11, [some (.int f), some (.int v)], [.int 1, .int f])) rfl ?_
    refine gR.ifte rfl (fun zc11 => ?_) (fun zc11 => ?_)
    · refine gR.steps 1 (σ, (20, [some (.int f), some (.int v)], [.int v])) rfl ?_
      refine gR.ret rfl ?_
      exact ⟨trivial, by unfold xCut; first | rw [if_pos (Decidable.not_not.mp zc1)] | rw [if_neg zc1, if_pos (Decidable.not_not.mp zc11)] | rw [if_neg zc1, if_neg zc11], rfl⟩
    · refine gR.steps 3 (σ, (20, [some (.int f), some (.int v)], [.int ((Int32.toInt16 v).toInt32)])) rfl ?_
      refine gR.ret rfl ?_
      exact ⟨trivial, by unfold xCut; first | rw [if_pos (Decidable.not_not.mp zc1)] | rw [if_neg zc1, if_pos (Decidable.not_not.mp zc11)] | rw [if_neg zc1, if_neg zc11], rfl⟩
  · refine gR.steps 3 (σ, (20, [some (.int f), some (.int v)], [.int ((Int32.toInt8 v).toInt32)])) rfl ?_
    refine gR.ret rfl ?_
    exact ⟨trivial, by unfold xCut; first | rw [if_pos (Decidable.not_not.mp zc1)] | rw [if_neg zc1, if_pos (Decidable.not_not.mp zc11)] | rw [if_neg zc1, if_neg zc11], rfl⟩
def shNew (H : xShe) (s : Nat) (f : Int32) (n : Nat) : xShe := (fun i => if i = s then f else shF H i, fun i => if i = s then n else shZ H i, fun i => if i = s then fun _ => 0 else shI H i)
def shLose (H : xShe) (s : Nat) : xShe := (fun i => if i = s then -1 else shF H i, shZ H, shI H)
def shPut (H : xShe) (s i : Nat) (v : Int32) : xShe := (shF H, shZ H, fun j => if j = s then upd (shI H s) i v else shI H j)
def aSheet (s f n : Int32) : Int32 := if (0 ≤ s.toInt ∧ s.toInt ≤ 3) ∧ (0 ≤ f.toInt ∧ f.toInt ≤ 2) ∧ n.toInt ≤ 60 then (if n.toInt < 0 then xFi 5 else n) else -2
def sSheet (H : xShe) (s f n : Int32) : xShe := if ((0 ≤ s.toInt ∧ s.toInt ≤ 3) ∧ (0 ≤ f.toInt ∧ f.toInt ≤ 2) ∧ n.toInt ≤ 60) ∧ ¬ n.toInt < 0 then shNew H s.toNatClampNeg f n.toNatClampNeg else H
def lSheet (l : Nat) (s f n : Int32) : Nat := if ((0 ≤ s.toInt ∧ s.toInt ≤ 3) ∧ (0 ≤ f.toInt ∧ f.toInt ≤ 2) ∧ n.toInt ≤ 60) ∧ n.toInt < 0 then 5 else l
def mLa (σ : gS) (l : Nat) : Prop := σ 0 4 = nI l
/-- while a sheet is cleared -/
def mClr (σ τ : gS) (s i : Nat) : Prop := (∀ q, q ≠ 3 → τ q = σ q) ∧ (∀ j, j < i → τ 3 (60 * s + j) = 0) ∧ ∀ j, (j < 60 * s ∨ 60 * s + 60 ≤ j) → τ 3 j = σ 3 j
theorem mClr_up {σ τ : gS} {s i : Nat} (h : mClr σ τ s i) (hi : i < 60) : mClr σ (gUp τ 3 (60 * s + i) 0) s (i + 1) := ⟨fun q hq => by rw [gUp_ne hq]; exact h.1 q hq, fun j hj => by
  by_cases hji : j = i
  · rw [hji, gUp_s]
  · rw [gUp_o (by omega)]; exact h.2.1 j (by omega), fun j hj => by rw [gUp_o (by omega)]; exact h.2.2 j hj⟩
theorem mSh_new {σ τ : gS} {H : xShe} {s f n : Nat} (h : mSh σ H) (hs : s < 4) (hf : f < 3) (hn : n ≤ 60) (hC : mClr (gUp (gUp σ 1 s (nI f)) 2 s (nI n)) τ s n) : mSh τ (shNew H s (nI f) n) := by
  intro t ht
  have e1 : τ 1 = gUp (gUp σ 1 s (nI f)) 2 s (nI n) 1 := hC.1 1 (by decide)
  have e2 : τ 2 = gUp (gUp σ 1 s (nI f)) 2 s (nI n) 2 := hC.1 2 (by decide)
  rw [e1, e2]
  by_cases hts : t = s
  · subst hts
    rw [gUp_o (by omega), gUp_s, gUp_s]
    simp only [shNew, shF, shZ, shI, if_true]
    refine ⟨trivial, ?_, hn, ⟨n, rfl, hn⟩, fun _ => ⟨trivial, fun i hi => hC.2.1 i hi⟩⟩
    rcases (show f = 0 ∨ f = 1 ∨ f = 2 by omega) with rfl | rfl | rfl
    · exact Or.inr (Or.inl rfl)
    · exact Or.inr (Or.inr (Or.inl rfl))
    · exact Or.inr (Or.inr (Or.inr rfl))
  · rw [gUp_o (by omega), gUp_o (by omega), gUp_o (by omega), gUp_o (by omega)]
    obtain ⟨a1, a2, a3, a4, a5⟩ := h t ht
    simp only [shNew, shF, shZ, shI, if_neg hts]
    refine ⟨a1, a2, a3, a4, fun hz => ⟨(a5 hz).1, fun i hi => ?_⟩⟩
    have hz60 : shZ H t ≤ 60 := a3
    have hi2 : i < shZ H t := hi
    rw [hC.2.2 _ (by omega), gUp_o (by omega), gUp_o (by omega)]
    exact (a5 hz).2 i hi
theorem s_X11_sheet {d : Nat} (hd : 3 ≤ d) (σ : gS) (H : xShe) (l : Nat) (s f n : Int32) (hs : mSh σ H) (hl : mLa σ l) : gC d 121 [.ref 0, .int s, .int f, .int n] σ (fun r τ => r = some (.int (aSheet s f n)) ∧ mShF σ τ ∧ mSh τ (sSheet H s f n) ∧ mLa τ (lSheet l s f n)) := by
  obtain ⟨d, rfl⟩ : ∃ k, d = k + 1 := ⟨d - 1, by omega⟩
  refine gC.of (P := pX11_sheet) (nL := 5) (rt := (some (.int))) (lv := [some (.ref 0), some (.int s), some (.int f), some (.int n), none]) (by decide +kernel) rfl rfl rfl (by simp [gEnt, Value.category]) rfl ?_
  refine gR.steps 1 (σ, (1, [some (.ref 0), some (.int s), some (.int f), some (.int n), none], [.int s])) rfl ?_
  refine gR.callp rfl (s_X11_isSheet (by omega) σ s) ?_
  refine gR.ifte rfl (fun zc4 => ?_) (fun zc4 => ?_)
  · rw [bI_eq0] at zc4
    refine gR.steps 1 (σ, (27, [some (.ref 0), some (.int s), some (.int f), some (.int n), none], [.int (-2)])) rfl ?_
    refine gR.ret rfl ?_
    exact ⟨trivial, by rw [show aSheet s f n = -2 from if_neg (by omega)], mShF.rf σ, by rw [show sSheet H s f n = H from if_neg (by omega)]; exact hs, by rw [show lSheet l s f n = l from if_neg (by omega)]; exact hl⟩
  · rw [bI_eq0, Decidable.not_not] at zc4
    obtain ⟨ss, hss, rfl⟩ := gN_of (x := s) (n := 4) (by omega) (by omega) (by omega)
    refine gR.steps 4 (σ, (13, [some (.ref 0), some (.int (nI ss)), some (.int f), some (.int n), none], [.long 2, .long 0, .long (Int32.toInt64 f)])) rfl ?_
    refine gR.callp rfl (s_X11_inI (by omega) σ f 0 2 0 2 (by decide) (by decide)) ?_
    refine gR.ifte rfl (fun zc16 => ?_) (fun zc16 => ?_)
    · rw [bI_eq0] at zc16
      refine gR.steps 1 (σ, (27, [some (.ref 0), some (.int (nI ss)), some (.int f), some (.int n), none], [.int (-2)])) rfl ?_
      refine gR.ret rfl ?_
      exact ⟨trivial, by rw [show aSheet (nI ss) f n = -2 from if_neg (by omega)], mShF.rf σ, by rw [show sSheet H (nI ss) f n = H from if_neg (by omega)]; exact hs, by rw [show lSheet l (nI ss) f n = l from if_neg (by omega)]; exact hl⟩
    · rw [bI_eq0, Decidable.not_not] at zc16
      obtain ⟨ff, hff, rfl⟩ := gN_of (x := f) (n := 3) (by omega) (by omega) (by omega)
      refine gR.steps 2 (σ, (22, [some (.ref 0), some (.int (nI ss)), some (.int (nI ff)), some (.int n), none], [.int 60, .int n])) rfl ?_
      refine gR.ifte rfl (fun zc22 => ?_) (fun zc22 => ?_)
      · rw [Int32.le_iff_toInt_le, show (60 : Int32).toInt = 60 from by decide] at zc22
        refine gR.steps 1 (σ, (29, [some (.ref 0), some (.int (nI ss)), some (.int (nI ff)), some (.int n), none], [.int n])) rfl ?_
        refine gR.ifte rfl (fun zc29 => ?_) (fun zc29 => ?_)
        · rw [Int32.le_iff_toInt_le, Int32.toInt_zero] at zc29
          obtain ⟨nn, hnn, rfl⟩ := gN_of (x := n) (n := 61) zc29 (by omega) (by omega)
          refine gR.steps 4 (σ, (44, [some (.ref 0), some (.int (nI ss)), some (.int (nI ff)), some (.int (nI nn)), none], [.int (nI ff), .int (nI ss), .ref 1])) rfl ?_
          refine gR.ast (i := nI ss) (j := ss) (N := 4) (q := 1) (x := nI ff) rfl rfl (by omega) (by omega) ?_
          refine gR.steps 4 (gUp σ 1 ss (nI ff), (51, [some (.ref 0), some (.int (nI ss)), some (.int (nI ff)), some (.int (nI nn)), none], [.int (nI nn), .int (nI ss), .ref 2])) rfl ?_
          refine gR.ast (i := nI ss) (j := ss) (N := 4) (q := 2) (x := nI nn) rfl rfl (by omega) (by omega) ?_
          refine gR.steps 2 (gUp (gUp σ 1 ss (nI ff)) 2 ss (nI nn), (55, [some (.ref 0), some (.int (nI ss)), some (.int (nI ff)), some (.int (nI nn)), some (.int 0)], [])) rfl ?_
          refine gR.forget [some (.ref 0), some (.int (nI ss)), some (.int (nI ff)), some (.int (nI nn)), some (.int 0)] ⟨rfl, ⟨rfl, ⟨rfl, ⟨rfl, ⟨rfl, trivial⟩⟩⟩⟩⟩ ?_
          refine gR.loop (α := Nat × gS) (fun ⟨i, τ⟩ => i ≤ nn ∧ mClr (gUp (gUp σ 1 ss (nI ff)) 2 ss (nI nn)) τ ss i) (fun ⟨i, τ⟩ => nn - i) (fun ⟨i, τ⟩ => (τ, (55, [some (.ref 0), some (.int (nI ss)), some (.int (nI ff)), some (.int (nI nn)), some (.int (nI i))], []))) ?_ ⟨0, _⟩ ⟨Nat.zero_le nn, fun _ _ => rfl, fun j hj => absurd hj (Nat.not_lt_zero j), fun _ _ => rfl⟩
          rintro ⟨i, τ⟩ ⟨hi, hC⟩ ih
          show gR _ _ _ τ (55, [some (.ref 0), some (.int (nI ss)), some (.int (nI ff)), some (.int (nI nn)), some (.int (nI i))], [])
          refine gR.steps 2 (τ, (58, [some (.ref 0), some (.int (nI ss)), some (.int (nI ff)), some (.int (nI nn)), some (.int (nI i))], [.int (nI nn), .int (nI i)])) rfl ?_
          refine gR.ifte rfl (fun zc58 => ?_) (fun zc58 => ?_)
          · rw [gN_le (x := nI nn) (y := nI i) (a := nn) (b := i) rfl rfl (by omega) (by omega)] at zc58
            refine gR.steps 1 (τ, (81, [some (.ref 0), some (.int (nI ss)), some (.int (nI ff)), some (.int (nI nn)), some (.int (nI i))], [.int (nI nn)])) rfl ?_
            refine gR.ret rfl ?_
            obtain rfl : i = nn := by omega
            refine ⟨trivial, ?_, ⟨fun q a b c d e => by show τ q = _; rw [hC.1 q d, gUp_ne c, gUp_ne b], fun s hs => by show τ 0 s = _; rw [hC.1 0 (by decide), gUp_o (by omega), gUp_o (by omega)]⟩, ?_, ?_⟩
            · rw [show aSheet (nI ss) (nI ff) (nI i) = _ from if_pos ⟨zc4, zc16, zc22⟩, if_neg (by omega)]
            · rw [show sSheet H (nI ss) (nI ff) (nI i) = _ from if_pos ⟨⟨zc4, zc16, zc22⟩, by omega⟩, nI_clamp (by omega), nI_clamp (by omega)]; exact mSh_new hs hss hff (by omega) hC
            · rw [show lSheet l (nI ss) (nI ff) (nI i) = l from if_neg (by omega)]; show τ 0 4 = nI l; rw [hC.1 0 (by decide), gUp_o (by omega), gUp_o (by omega)]; exact hl
          · rw [gN_le (x := nI nn) (y := nI i) (a := nn) (b := i) rfl rfl (by omega) (by omega)] at zc58
            refine gR.steps 8 (τ, (73, [some (.ref 0), some (.int (nI ss)), some (.int (nI ff)), some (.int (nI nn)), some (.int (nI i))], [.int 0, .int ((60 * (nI ss)) + (nI i)), .ref 3])) rfl ?_
            refine gR.ast (i := (60 * (nI ss)) + (nI i)) (j := 60 * ss + i) (N := 240) (q := 3) (x := 0) rfl (gN_add (gN_mul rfl rfl) rfl) (by omega) (by omega) ?_
            refine gR.steps 2 (gUp τ 3 (60 * ss + i) 0, (55, [some (.ref 0), some (.int (nI ss)), some (.int (nI ff)), some (.int (nI nn)), some (.int ((nI i) + 1))], [])) rfl ?_
            refine gR.forget [some (.ref 0), some (.int (nI ss)), some (.int (nI ff)), some (.int (nI nn)), some (.int (nI (i + 1)))] ⟨rfl, ⟨rfl, ⟨rfl, ⟨rfl, ⟨gSomeI (gN_add rfl rfl), trivial⟩⟩⟩⟩⟩ ?_
            exact ih ⟨i + 1, _⟩ ⟨by omega, mClr_up hC (by omega)⟩ (by dsimp only; omega)
        · rw [Int32.le_iff_toInt_le, Int32.toInt_zero] at zc29
          refine gR.steps 2 (σ, (34, [some (.ref 0), some (.int (nI ss)), some (.int (nI ff)), some (.int n), none], [.int 5, .ref 0])) rfl ?_
          refine gR.call' rfl (s_X11_finds (by omega) σ 5 (by omega)) ?_
          rintro _ _ ⟨rfl, rfl⟩ 
          show gR _ _ _ (gUp σ 0 4 (nI 5)) (37, [some (.ref 0), some (.int (nI ss)), some (.int (nI ff)), some (.int n), none], [.int (-10 - nI 5)])
          show gR _ _ _ (gUp σ 0 4 (nI 5)) (37, [some (.ref 0), some (.int (nI ss)), some (.int (nI ff)), some (.int n), none], [.int (-10 - nI 5)])
          refine gR.ret rfl ?_
          exact ⟨trivial, by rw [show aSheet (nI ss) (nI ff) n = _ from if_pos ⟨zc4, zc16, zc22⟩, if_pos (by omega)]; rfl, mShF_fi (mShF.rf σ), by rw [show sSheet H (nI ss) (nI ff) n = H from if_neg (by omega)]; exact mSh_fi hs, by rw [show lSheet l (nI ss) (nI ff) n = 5 from if_pos ⟨⟨zc4, zc16, zc22⟩, by omega⟩]; exact gUp_s _ _ _ _⟩
      · rw [Int32.le_iff_toInt_le, show (60 : Int32).toInt = 60 from by decide] at zc22
        refine gR.steps 1 (σ, (27, [some (.ref 0), some (.int (nI ss)), some (.int (nI ff)), some (.int n), none], [.int (-2)])) rfl ?_
        refine gR.ret rfl ?_
        exact ⟨trivial, by rw [show aSheet (nI ss) (nI ff) n = -2 from if_neg (by omega)], mShF.rf σ, by rw [show sSheet H (nI ss) (nI ff) n = H from if_neg (by omega)]; exact hs, by rw [show lSheet l (nI ss) (nI ff) n = l from if_neg (by omega)]; exact hl⟩
