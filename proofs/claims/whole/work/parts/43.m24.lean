/-- events from a sheet: how many, and the data then -/
def xRd (f : Nat → Int32) (z : Nat) : Nat → Nat → xDat → Nat × xDat
  | 0, n, D => (n, D)
  | u + 1, n, D => if 3 * n + 3 ≤ z ∧ ¬ aEvent D (f (3 * n)) (f (3 * n + 1)) (f (3 * n + 2)) < 0 then xRd f z u (n + 1) (sEvent D (f (3 * n)) (f (3 * n + 1)) (f (3 * n + 2))) else (n, D)
theorem sEvent_neg {D : xDat} {k m b : Int32} (hn : dN D ≤ 8) (h : aEvent D k m b < 0) : sEvent D k m b = D := by
  unfold aEvent at h
  unfold sEvent
  split
  next h1 =>
    rw [if_pos h1] at h
    split
    next => rfl
    next h2 =>
      rw [if_neg h2] at h
      rw [Int32.lt_iff_toInt_lt, nI_toInt (by omega), Int32.toInt_zero] at h
      omega
  next => rfl
theorem xRd_stop {f : Nat → Int32} {z : Nat} {u n : Nat} {D : xDat} (h : ¬ 3 * n + 3 ≤ z) : xRd f z u n D = (n, D) := by
  cases u with
  | zero => rfl
  | succ u => exact if_neg (fun w => h w.1)
def aRead (D : xDat) (H : xShe) (s : Int32) : Int32 := if 0 ≤ s.toInt ∧ s.toInt ≤ 3 then (if shF H s.toNatClampNeg = -1 then xFi 1 else nI (xRd (shI H s.toNatClampNeg) (shZ H s.toNatClampNeg) 20 0 D).1) else -2
def sRead (D : xDat) (H : xShe) (s : Int32) : xDat := if (0 ≤ s.toInt ∧ s.toInt ≤ 3) ∧ ¬ shF H s.toNatClampNeg = -1 then (xRd (shI H s.toNatClampNeg) (shZ H s.toNatClampNeg) 20 0 D).2 else D
def mReF (σ τ : gS) : Prop := (∀ q, q ≠ 0 → q ≠ 9 → τ q = σ q) ∧ ∀ s, s ≠ 13 → s ≠ 4 → τ 0 s = σ 0 s
theorem mReF.tr {σ τ υ : gS} (h : mEvF σ τ) (k : mEvF τ υ) : mEvF σ υ := ⟨fun q a b => (k.1 q a b).trans (h.1 q a b), fun s a => (k.2 s a).trans (h.2 s a)⟩
theorem mEvF.re {σ τ : gS} (h : mEvF σ τ) : mReF σ τ := ⟨h.1, fun s a _ => h.2 s a⟩
theorem mSt_fi {σ : gS} {D : xDat} {v : Int32} (h : mSt σ D) : mSt (gUp σ 0 4 v) D := by
  have h0 : ∀ q, q ≠ 0 → gUp σ 0 4 v q = σ q := fun q hq => gUp_ne hq
  have h1 : ∀ s, s ≠ 4 → gUp σ 0 4 v 0 s = σ 0 s := fun s hs => gUp_o (by omega)
  unfold mSt mEv at *
  rw [h0 6 (by decide), h0 5 (by decide), h0 9 (by decide), h1 13 (by decide), h1 11 (by decide), h1 12 (by decide), h1 15 (by decide), h1 21 (by decide), h1 22 (by decide)]
  exact h
theorem s_X11_read {d : Nat} (hd : 4 ≤ d) (σ : gS) (D : xDat) (H : xShe) (l : Nat) (s : Int32) (hD : mSt σ D) (hs : mSh σ H) (hl : mLa σ l) : gC d 147 [.ref 0, .int s] σ (fun r τ => r = some (.int (aRead D H s)) ∧ mReF σ τ ∧ mSt τ (sRead D H s) ∧ mLa τ (lLose H l s)) := by
  obtain ⟨d, rfl⟩ : ∃ k, d = k + 1 := ⟨d - 1, by omega⟩
  refine gC.of (P := pX11_read) (nL := 5) (rt := (some (.int))) (lv := [some (.ref 0), some (.int s), none, none, none]) (by decide +kernel) rfl rfl rfl (by simp [gEnt, Value.category]) rfl ?_
  refine gR.steps 1 (σ, (1, [some (.ref 0), some (.int s), none, none, none], [.int s])) rfl ?_
  refine gR.callp rfl (s_X11_isSheet (by omega) σ s) ?_
  refine gR.ifte rfl (fun zc4 => ?_) (fun zc4 => ?_)
  · rw [bI_ne0] at zc4
    obtain ⟨ss, hss, rfl⟩ := gN_of (x := s) (n := 4) (by omega) (by omega) (by omega)
    refine gR.steps 3 (σ, (15, [some (.ref 0), some (.int (nI ss)), none, none, none], [.int (nI ss), .ref 1])) rfl ?_
    refine gR.ald (i := nI ss) (j := ss) (N := 4) (g := σ 1) rfl rfl (by omega) (by omega) ?_
    refine gR.ifte rfl (fun zc16 => ?_) (fun zc16 => ?_)
    · rw [(hs ss hss).1, shf_ge (hs ss hss).2.1] at zc16
      have hIs := (hs ss hss).2.2.2.2 zc16
      have hz := (hs ss hss).2.2.1
      refine gR.steps 4 (σ, (29, [some (.ref 0), some (.int (nI ss)), some (.int 0), some (.int 1), none], [])) rfl ?_
      refine gR.forget [some (.ref 0), some (.int (nI ss)), some (.int 0), some (.int (bI (true = true))), none] ⟨rfl, ⟨rfl, ⟨rfl, ⟨gSomeI (bI_t rfl).symm, trivial⟩⟩⟩⟩ ?_
      refine gR.loop (α := Nat × xDat × Bool × gS) (fun ⟨n, D2, more, τ⟩ => n ≤ 20 ∧ mEvF σ τ ∧ mSt τ D2 ∧ (more = true → xRd (shI H ss) (shZ H ss) (20 - n) n D2 = xRd (shI H ss) (shZ H ss) 20 0 D) ∧ (¬ more = true → (n, D2) = xRd (shI H ss) (shZ H ss) 20 0 D)) (fun ⟨n, D2, more, τ⟩ => (if more = true then 1 else 0) + 2 * (20 - n)) (fun ⟨n, D2, more, τ⟩ => (τ, (29, [some (.ref 0), some (.int (nI ss)), some (.int (nI n)), some (.int (bI (more = true))), none], []))) ?_ ⟨0, D, true, σ⟩ ⟨Nat.zero_le 20, ⟨fun _ _ _ => rfl, fun _ _ => rfl⟩, hD, fun _ => rfl, fun z => absurd rfl z⟩
      rintro ⟨n, D2, more, τ⟩ ⟨hn20, hF, hD, hI1, hI2⟩ ih
      show gR _ _ _ τ (29, [some (.ref 0), some (.int (nI ss)), some (.int (nI n)), some (.int (bI (more = true))), none], [])
      have h3 : τ 3 = σ 3 := hF.1 3 (by decide) (by decide)
      have h2 : τ 2 = σ 2 := hF.1 2 (by decide) (by decide)
      refine gR.steps 1 (τ, (30, [some (.ref 0), some (.int (nI ss)), some (.int (nI n)), some (.int (bI (more = true))), none], [.int (bI (more = true))])) rfl ?_
      refine gR.ifte rfl (fun zc30 => ?_) (fun zc30 => ?_)
      · rw [bI_eq0] at zc30
        refine gR.steps 1 (τ, (111, [some (.ref 0), some (.int (nI ss)), some (.int (nI n)), some (.int (bI (more = true))), none], [.int (nI n)])) rfl ?_
        refine gR.ret rfl ?_
        have hc : (nI ss).toNatClampNeg = ss := nI_clamp (by omega)
        have he : (n, D2) = xRd (shI H ss) (shZ H ss) 20 0 D := hI2 zc30
        refine ⟨trivial, ?_, mEvF.re hF, ?_, ?_⟩
        · rw [show aRead D H (nI ss) = _ from if_pos zc4, hc, if_neg zc16, ← he]
        · rw [show sRead D H (nI ss) = _ from if_pos ⟨zc4, by rw [hc]; exact zc16⟩, hc, ← he]; exact hD
        · rw [show lLose H l (nI ss) = l from if_neg (by rw [hc]; exact fun z => zc16 z.2)]; show τ 0 4 = nI l; rw [hF.2 4 (by decide)]; exact hl
      · rw [bI_eq0, Decidable.not_not] at zc30
        refine gR.steps 8 (τ, (43, [some (.ref 0), some (.int (nI ss)), some (.int (nI n)), some (.int (bI (more = true))), none], [.int (nI ss), .ref 2, .int ((3 * (nI n)) + 3)])) rfl ?_
        refine gR.ald (i := nI ss) (j := ss) (N := 4) (g := τ 2) rfl rfl (by omega) (by omega) ?_
        refine gR.topI (y := nI (shZ H ss)) (by rw [h2]; exact hIs.1) ?_
        refine gR.ifte rfl (fun zc44 => ?_) (fun zc44 => ?_)
        · rw [gN_lt (x := nI (shZ H ss)) (y := (3 * (nI n)) + 3) (a := shZ H ss) (b := 3 * n + 3) rfl (gN_add (gN_mul rfl rfl) rfl) (by omega) (by omega)] at zc44
          refine gR.steps 1 (τ, (111, [some (.ref 0), some (.int (nI ss)), some (.int (nI n)), some (.int (bI (more = true))), none], [.int (nI n)])) rfl ?_
          refine gR.ret rfl ?_
          have hc : (nI ss).toNatClampNeg = ss := nI_clamp (by omega)
          have he : (n, D2) = xRd (shI H ss) (shZ H ss) 20 0 D := ((xRd_stop (by omega)).symm.trans (hI1 zc30))
          refine ⟨trivial, ?_, mEvF.re hF, ?_, ?_⟩
          · rw [show aRead D H (nI ss) = _ from if_pos zc4, hc, if_neg zc16, ← he]
          · rw [show sRead D H (nI ss) = _ from if_pos ⟨zc4, by rw [hc]; exact zc16⟩, hc, ← he]; exact hD
          · rw [show lLose H l (nI ss) = l from if_neg (by rw [hc]; exact fun z => zc16 z.2)]; show τ 0 4 = nI l; rw [hF.2 4 (by decide)]; exact hl
        · rw [gN_lt (x := nI (shZ H ss)) (y := (3 * (nI n)) + 3) (a := shZ H ss) (b := 3 * n + 3) rfl (gN_add (gN_mul rfl rfl) rfl) (by omega) (by omega)] at zc44
          refine gR.steps 12 (τ, (64, [some (.ref 0), some (.int (nI ss)), some (.int (nI n)), some (.int (bI (more = true))), some (.int ((60 * (nI ss)) + (3 * (nI n))))], [.int ((60 * (nI ss)) + (3 * (nI n))), .ref 3, .ref 0])) rfl ?_
          refine gR.ald (i := (60 * (nI ss)) + (3 * (nI n))) (j := 60 * ss + 3 * n) (N := 240) (g := τ 3) rfl (gN_add (gN_mul rfl rfl) (gN_mul rfl rfl)) (by omega) (by omega) ?_
          refine gR.steps 5 (τ, (73, [some (.ref 0), some (.int (nI ss)), some (.int (nI n)), some (.int (bI (more = true))), some (.int ((60 * (nI ss)) + (3 * (nI n))))], [.int (((60 * (nI ss)) + (3 * (nI n))) + 1), .ref 3, .int (τ 3 (60 * ss + 3 * n)), .ref 0])) rfl ?_
          refine gR.ald (i := ((60 * (nI ss)) + (3 * (nI n))) + 1) (j := 60 * ss + 3 * n + 1) (N := 240) (g := τ 3) rfl (gN_add (gN_add (gN_mul rfl rfl) (gN_mul rfl rfl)) rfl) (by omega) (by omega) ?_
          refine gR.steps 5 (τ, (82, [some (.ref 0), some (.int (nI ss)), some (.int (nI n)), some (.int (bI (more = true))), some (.int ((60 * (nI ss)) + (3 * (nI n))))], [.int (((60 * (nI ss)) + (3 * (nI n))) + 2), .ref 3, .int (τ 3 (60 * ss + 3 * n + 1)), .int (τ 3 (60 * ss + 3 * n)), .ref 0])) rfl ?_
          refine gR.ald (i := ((60 * (nI ss)) + (3 * (nI n))) + 2) (j := 60 * ss + 3 * n + 2) (N := 240) (g := τ 3) rfl (gN_add (gN_add (gN_mul rfl rfl) (gN_mul rfl rfl)) rfl) (by omega) (by omega) ?_
          have e0 : τ 3 (60 * ss + 3 * n) = shI H ss (3 * n) := by rw [h3]; exact hIs.2 (3 * n) (by omega)
          have e1 : τ 3 (60 * ss + 3 * n + 1) = shI H ss (3 * n + 1) := by rw [h3]; exact hIs.2 (3 * n + 1) (by omega)
          have e2 : τ 3 (60 * ss + 3 * n + 2) = shI H ss (3 * n + 2) := by rw [h3]; exact hIs.2 (3 * n + 2) (by omega)
          rw [e0, e1, e2]
          refine gR.call' rfl (s_X11_event (by omega) τ D2 (shI H ss (3 * n)) (shI H ss (3 * n + 1)) (shI H ss (3 * n + 2)) hD) ?_
          rintro _ υ ⟨rfl, hF2, hD2⟩
          show gR _ _ _ υ (86, [some (.ref 0), some (.int (nI ss)), some (.int (nI n)), some (.int (bI (more = true))), some (.int ((60 * (nI ss)) + (3 * (nI n))))], [.int (aEvent D2 (shI H ss (3 * n)) (shI H ss (3 * n + 1)) (shI H ss (3 * n + 2)))])
          refine gR.ifte rfl (fun zc86 => ?_) (fun zc86 => ?_)
          · refine gR.steps 4 (υ, (97, [some (.ref 0), some (.int (nI ss)), some (.int (nI n)), some (.int 0), some (.int ((60 * (nI ss)) + (3 * (nI n))))], [.int 0, .int (nI n)])) rfl ?_
            refine gR.brT rfl (by decide) ?_
            refine gR.steps 4 (υ, (29, [some (.ref 0), some (.int (nI ss)), some (.int ((nI n) + 0)), some (.int 0), some (.int ((60 * (nI ss)) + (3 * (nI n))))], [])) rfl ?_
            refine gR.forget [some (.ref 0), some (.int (nI ss)), some (.int (nI n)), some (.int (bI (false = true))), none] ⟨rfl, ⟨rfl, ⟨gSomeI (gN_add rfl rfl), ⟨gSomeI (bI_f (by decide)).symm, trivial⟩⟩⟩⟩ ?_
            exact ih ⟨n, sEvent D2 (shI H ss (3 * n)) (shI H ss (3 * n + 1)) (shI H ss (3 * n + 2)), false, _⟩ ⟨by omega, mReF.tr hF hF2, hD2, fun z => absurd z (by decide), fun _ => by rw [← hI1 zc30, show 20 - n = 20 - (n + 1) + 1 by omega, sEvent_neg hD.2.2.1.2.1 zc86]; exact (if_neg (fun z => z.2 zc86)).symm⟩ (by simp only [if_pos zc30]; rw [if_neg (by decide)]; omega)
          · refine gR.steps 5 (υ, (97, [some (.ref 0), some (.int (nI ss)), some (.int (nI n)), some (.int 1), some (.int ((60 * (nI ss)) + (3 * (nI n))))], [.int 1, .int (nI n)])) rfl ?_
            refine gR.brF rfl (by decide) ?_
            refine gR.steps 5 (υ, (29, [some (.ref 0), some (.int (nI ss)), some (.int ((nI n) + 1)), some (.int 1), some (.int ((60 * (nI ss)) + (3 * (nI n))))], [])) rfl ?_
            refine gR.forget [some (.ref 0), some (.int (nI ss)), some (.int (nI (n + 1))), some (.int (bI (true = true))), none] ⟨rfl, ⟨rfl, ⟨gSomeI (gN_add rfl rfl), ⟨gSomeI (bI_t rfl).symm, trivial⟩⟩⟩⟩ ?_
            exact ih ⟨n + 1, sEvent D2 (shI H ss (3 * n)) (shI H ss (3 * n + 1)) (shI H ss (3 * n + 2)), true, _⟩ ⟨by omega, mReF.tr hF hF2, hD2, fun _ => by rw [← hI1 zc30, show 20 - n = 20 - (n + 1) + 1 by omega]; exact (if_pos ⟨by omega, zc86⟩).symm, fun z => absurd rfl z⟩ (by simp only [if_pos zc30, if_true]; omega)
    · rw [(hs ss hss).1, shf_ge (hs ss hss).2.1] at zc16
      refine gR.steps 2 (σ, (21, [some (.ref 0), some (.int (nI ss)), none, none, none], [.int 1, .ref 0])) rfl ?_
      refine gR.call' rfl (s_X11_finds (by omega) σ 1 (by omega)) ?_
      rintro _ _ ⟨rfl, rfl⟩ 
      show gR _ _ _ (gUp σ 0 4 (nI 1)) (24, [some (.ref 0), some (.int (nI ss)), none, none, none], [.int (-10 - nI 1)])
      show gR _ _ _ (gUp σ 0 4 (nI 1)) (24, [some (.ref 0), some (.int (nI ss)), none, none, none], [.int (-10 - nI 1)])
      refine gR.ret rfl ?_
      have hc : (nI ss).toNatClampNeg = ss := nI_clamp (by omega)
      have zd := Decidable.not_not.mp zc16
      exact ⟨trivial, by rw [show aRead D H (nI ss) = _ from if_pos zc4, hc, if_pos zd]; rfl, ⟨fun q a b => gUp_ne a, fun s a b => gUp_o (by omega)⟩, by rw [show sRead D H (nI ss) = D from if_neg (by rw [hc]; exact fun z => z.2 zd)]; exact mSt_fi hD, by rw [show lLose H l (nI ss) = 1 from if_pos ⟨zc4, by rw [hc]; exact zd⟩]; exact gUp_s _ _ _ _⟩
  · rw [bI_ne0] at zc4
    refine gR.steps 1 (σ, (9, [some (.ref 0), some (.int s), none, none, none], [.int (-2)])) rfl ?_
    refine gR.ret rfl ?_
    exact ⟨trivial, by rw [show aRead D H s = -2 from if_neg (by omega)], ⟨fun _ _ _ => rfl, fun _ _ _ => rfl⟩, by rw [show sRead D H s = D from if_neg (by omega)]; exact hD, by rw [show lLose H l s = l from if_neg (by omega)]; exact hl⟩
def shWr (H : xShe) (s : Nat) (f : Nat → Int32) (n : Nat) : xShe := (shF H, shZ H, fun q => if q = s then (fun x => if x < n then f x else shI H s x) else shI H q)
def wBel (D : xDat) (H : xShe) (s : Nat) : Nat → Int32 := fun m => xCut (shF H s) (nI (dBel D none 0 (m + 1)))
def aWrite (H : xShe) (s : Int32) : Int32 := if 0 ≤ s.toInt ∧ s.toInt ≤ 3 then (if shF H s.toNatClampNeg = -1 then xFi 1 else nI (min (shZ H s.toNatClampNeg) 24)) else -2
def sWrite (D : xDat) (H : xShe) (s : Int32) : xShe := if (0 ≤ s.toInt ∧ s.toInt ≤ 3) ∧ ¬ shF H s.toNatClampNeg = -1 then shWr H s.toNatClampNeg (wBel D H s.toNatClampNeg) (min (shZ H s.toNatClampNeg) 24) else H
def mWrF (σ τ : gS) : Prop := (∀ q, q ≠ 0 → ¬ mScr q → q ≠ 3 → τ q = σ q) ∧ ∀ s, s ≠ 7 → s ≠ 9 → s ≠ 23 → s ≠ 27 → s ≠ 4 → τ 0 s = σ 0 s
theorem mSh_wr {τ υ : gS} {H : xShe} {s n : Nat} {f : Nat → Int32} (h : mSh τ H) (hs : s < 4) (hn : n ≤ shZ H s) (hw : mMw τ υ f (60 * s) n) : mSh υ (shWr H s f n) := by
  intro q hq
  obtain ⟨a1, a2, a3, a4, a5⟩ := h q hq
  have at3 := (h s hs).2.2.1
  simp only [shWr, shF, shZ, shI]
  rw [hw.1 1 (by decide), hw.1 2 (by decide)]
  refine ⟨a1, a2, a3, a4, fun hz => ⟨(a5 hz).1, fun x hx => ?_⟩⟩
  have hx2 : x < shZ H q := hx
  have h60 : shZ H q ≤ 60 := a3
  by_cases hqt : q = s
  · subst hqt
    rw [if_pos rfl]
    by_cases hc : x < n
    · rw [if_pos hc]; exact hw.2.1 x hc
    · rw [if_neg hc, hw.2.2 _ (by omega)]; exact (a5 hz).2 x hx
  · rw [if_neg hqt, hw.2.2 _ (by omega)]; exact (a5 hz).2 x hx
theorem mWr_F {σ τ υ : gS} {f : Nat → Int32} {b n : Nat} (hk : mKeep σ τ) (hw : mMw τ υ f b n) : mWrF σ υ := ⟨fun q a b c => (hw.1 q c).trans (hk.1 q a b), fun s a b c d e => by rw [hw.1 0 (by decide)]; exact hk.2 s a b c d⟩
theorem lesser_min {d : Nat} (hd : 1 ≤ d) (σ : gS) (z : Nat) (hz : z ≤ 60) : gC d 116 [.int (nI z), .int 24] σ (fun r τ => r = some (.int (nI (min z 24))) ∧ τ = σ) :=
  (s_X11_lesser hd σ (nI z) 24).mono (fun r τ h => ⟨by
    rw [h.1]
    refine gSomeI ?_
    rw [show (24 : Int32) = nI 24 from rfl]
    by_cases h2 : z < 24
    · rw [if_pos ((nI_ltI (by omega) (by omega)).mpr h2), Nat.min_eq_left (by omega)]
    · rw [if_neg (fun y => h2 ((nI_ltI (by omega) (by omega)).mp y)), Nat.min_eq_right (by omega)], h.2⟩)
theorem s_X11_write {d : Nat} (hd : 7 ≤ d) (σ : gS) (D : xDat) (H : xShe) (l : Nat) (s : Int32) (hD : mSt σ D) (hs : mSh σ H) (hl : mLa σ l) : gC d 196 [.ref 0, .int s] σ (fun r τ => r = some (.int (aWrite H s)) ∧ mWrF σ τ ∧ mSh τ (sWrite D H s) ∧ mLa τ (lLose H l s)) := by
  obtain ⟨d, rfl⟩ : ∃ k, d = k + 1 := ⟨d - 1, by omega⟩
  refine gC.of (P := pX11_write) (nL := 4) (rt := (some (.int))) (lv := [some (.ref 0), some (.int s), none, none]) (by decide +kernel) rfl rfl rfl (by simp [gEnt, Value.category]) rfl ?_
  refine gR.steps 1 (σ, (1, [some (.ref 0), some (.int s), none, none], [.int s])) rfl ?_
  refine gR.callp rfl (s_X11_isSheet (by omega) σ s) ?_
  refine gR.ifte rfl (fun zc4 => ?_) (fun zc4 => ?_)
  · rw [bI_ne0] at zc4
    obtain ⟨ss, hss, rfl⟩ := gN_of (x := s) (n := 4) (by omega) (by omega) (by omega)
    refine gR.steps 3 (σ, (15, [some (.ref 0), some (.int (nI ss)), none, none], [.int (nI ss), .ref 1])) rfl ?_
    refine gR.ald (i := nI ss) (j := ss) (N := 4) (g := σ 1) rfl rfl (by omega) (by omega) ?_
    refine gR.ifte rfl (fun zc16 => ?_) (fun zc16 => ?_)
    · rw [(hs ss hss).1, shf_ge (hs ss hss).2.1] at zc16
      have hIs := (hs ss hss).2.2.2.2 zc16
      have hz := (hs ss hss).2.2.1
      refine gR.steps 1 (σ, (26, [some (.ref 0), some (.int (nI ss)), none, none], [.ref 0])) rfl ?_
      refine gR.call' rfl (s_X11_find (by omega) σ D hD) ?_
      rintro _ τ ⟨rfl, hk, hf⟩
      have hs2 := hs.keep (hk.1 1 (by decide) (by unfold mScr; omega)) (hk.1 2 (by decide) (by unfold mScr; omega)) (hk.1 3 (by decide) (by unfold mScr; omega))
      show gR _ _ _ τ (29, [some (.ref 0), some (.int (nI ss)), none, none], [])
      refine gR.steps 3 (τ, (34, [some (.ref 0), some (.int (nI ss)), none, none], [.int (nI ss), .ref 2])) rfl ?_
      refine gR.ald (i := nI ss) (j := ss) (N := 4) (g := τ 2) rfl rfl (by omega) (by omega) ?_
      refine gR.topI (y := nI (shZ H ss)) (by rw [hk.1 2 (by decide) (by unfold mScr; omega)]; exact hIs.1) ?_
      refine gR.steps 1 (τ, (37, [some (.ref 0), some (.int (nI ss)), none, none], [.int 24, .int (nI (shZ H ss))])) rfl ?_
      refine gR.callp rfl (lesser_min (by omega) τ (shZ H ss) hz) ?_
      refine gR.steps 3 (τ, (43, [some (.ref 0), some (.int (nI ss)), some (.int (nI (min (shZ H ss) 24))), some (.int 0)], [])) rfl ?_
      refine gR.forget [some (.ref 0), some (.int (nI ss)), some (.int (nI (min (shZ H ss) 24))), some (.int 0)] ⟨rfl, ⟨rfl, ⟨rfl, ⟨rfl, trivial⟩⟩⟩⟩ ?_
      refine gR.loop (α := Nat × gS) (fun ⟨m, υ⟩ => m ≤ min (shZ H ss) 24 ∧ mMw τ υ (wBel D H ss) (60 * ss) m) (fun ⟨m, υ⟩ => min (shZ H ss) 24 - m) (fun ⟨m, υ⟩ => (υ, (43, [some (.ref 0), some (.int (nI ss)), some (.int (nI (min (shZ H ss) 24))), some (.int (nI m))], []))) ?_ ⟨0, τ⟩ ⟨Nat.zero_le _, fun _ _ => rfl, fun x hx => absurd hx (Nat.not_lt_zero x), fun _ _ => rfl⟩
      rintro ⟨m, υ⟩ ⟨hm, hW⟩ ih
      show gR _ _ _ υ (43, [some (.ref 0), some (.int (nI ss)), some (.int (nI (min (shZ H ss) 24))), some (.int (nI m))], [])
      refine gR.steps 2 (υ, (45, [some (.ref 0), some (.int (nI ss)), some (.int (nI (min (shZ H ss) 24))), some (.int (nI m))], [.int (nI (min (shZ H ss) 24)), .int (nI m)])) rfl ?_
      refine gR.ifte rfl (fun zc45 => ?_) (fun zc45 => ?_)
      · rw [gN_le (x := nI (min (shZ H ss) 24)) (y := nI m) (a := min (shZ H ss) 24) (b := m) rfl rfl (by omega) (by omega)] at zc45
        refine gR.steps 1 (υ, (81, [some (.ref 0), some (.int (nI ss)), some (.int (nI (min (shZ H ss) 24))), some (.int (nI m))], [.int (nI (min (shZ H ss) 24))])) rfl ?_
        refine gR.ret rfl ?_
        have hc : (nI ss).toNatClampNeg = ss := nI_clamp (by omega)
        have hmn : m = min (shZ H ss) 24 := by omega
        rw [hmn] at hW
        refine ⟨trivial, ?_, mWr_F hk hW, ?_, ?_⟩
        · rw [show aWrite H (nI ss) = _ from if_pos zc4, hc, if_neg zc16]
        · rw [show sWrite D H (nI ss) = _ from if_pos ⟨zc4, by rw [hc]; exact zc16⟩, hc]; exact mSh_wr hs2 hss (by omega) hW
        · rw [show lLose H l (nI ss) = l from if_neg (by rw [hc]; exact fun z => zc16 z.2)]; show υ 0 4 = nI l; rw [hW.1 0 (by decide), hk.2 4 (by decide) (by decide) (by decide) (by decide)]; exact hl
      · rw [gN_le (x := nI (min (shZ H ss) 24)) (y := nI m) (a := min (shZ H ss) 24) (b := m) rfl rfl (by omega) (by omega)] at zc45
        refine gR.steps 10 (υ, (63, [some (.ref 0), some (.int (nI ss)), some (.int (nI (min (shZ H ss) 24))), some (.int (nI m))], [.int (nI ss), .ref 1, .int ((60 * (nI ss)) + (nI m)), .ref 3])) rfl ?_
        refine gR.ald (i := nI ss) (j := ss) (N := 4) (g := υ 1) rfl rfl (by omega) (by omega) ?_
        refine gR.steps 3 (υ, (69, [some (.ref 0), some (.int (nI ss)), some (.int (nI (min (shZ H ss) 24))), some (.int (nI m))], [.int (nI m), .ref 13, .int (υ 1 ss), .int ((60 * (nI ss)) + (nI m)), .ref 3])) rfl ?_
        refine gR.ald (i := nI m) (j := m) (N := 24) (g := υ 13) rfl rfl (by omega) (by omega) ?_
        refine gR.callp rfl (s_X11_cut (by omega) υ (υ 1 ss) (υ 13 m)) ?_
        refine gR.ast (i := (60 * (nI ss)) + (nI m)) (j := 60 * ss + m) (N := 240) (q := 3) (x := xCut (υ 1 ss) (υ 13 m)) rfl (gN_add (gN_mul rfl rfl) rfl) (by omega) (by omega) ?_
        refine gR.steps 2 (gUp υ 3 (60 * ss + m) (xCut (υ 1 ss) (υ 13 m)), (43, [some (.ref 0), some (.int (nI ss)), some (.int (nI (min (shZ H ss) 24))), some (.int ((nI m) + 1))], [])) rfl ?_
        refine gR.forget [some (.ref 0), some (.int (nI ss)), some (.int (nI (min (shZ H ss) 24))), some (.int (nI (m + 1)))] ⟨rfl, ⟨rfl, ⟨rfl, ⟨gSomeI (gN_add rfl rfl), trivial⟩⟩⟩⟩ ?_
        exact ih ⟨m + 1, _⟩ ⟨by omega, mMw_up hW (by rw [hW.1 1 (by decide), hW.1 13 (by decide), hf.2.2.2 m (by omega), (hs2 ss hss).1]; rfl)⟩ (by dsimp only; omega)
    · rw [(hs ss hss).1, shf_ge (hs ss hss).2.1] at zc16
      refine gR.steps 2 (σ, (21, [some (.ref 0), some (.int (nI ss)), none, none], [.int 1, .ref 0])) rfl ?_
      refine gR.call' rfl (s_X11_finds (by omega) σ 1 (by omega)) ?_
      rintro _ _ ⟨rfl, rfl⟩ 
      show gR _ _ _ (gUp σ 0 4 (nI 1)) (24, [some (.ref 0), some (.int (nI ss)), none, none], [.int (-10 - nI 1)])
      show gR _ _ _ (gUp σ 0 4 (nI 1)) (24, [some (.ref 0), some (.int (nI ss)), none, none], [.int (-10 - nI 1)])
      refine gR.ret rfl ?_
      have hc : (nI ss).toNatClampNeg = ss := nI_clamp (by omega)
      have zd := Decidable.not_not.mp zc16
      exact ⟨trivial, by rw [show aWrite H (nI ss) = _ from if_pos zc4, hc, if_pos zd]; rfl, ⟨fun q a b c => gUp_ne a, fun s _ _ _ _ e => gUp_o (by omega)⟩, by rw [show sWrite D H (nI ss) = H from if_neg (by rw [hc]; exact fun z => z.2 zd)]; exact mSh_fi hs, by rw [show lLose H l (nI ss) = 1 from if_pos ⟨zc4, by rw [hc]; exact zd⟩]; exact gUp_s _ _ _ _⟩
  · rw [bI_ne0] at zc4
    refine gR.steps 1 (σ, (9, [some (.ref 0), some (.int s), none, none], [.int (-2)])) rfl ?_
    refine gR.ret rfl ?_
    exact ⟨trivial, by rw [show aWrite H s = -2 from if_neg (by omega)], ⟨fun _ _ _ _ => rfl, fun _ _ _ _ _ _ => rfl⟩, by rw [show sWrite D H s = H from if_neg (by omega)]; exact hs, by rw [show lLose H l s = l from if_neg (by omega)]; exact hl⟩
