def dYelG (D : xDat) (gn : Nat → Bool) (m : Nat) : Nat := xSum (fun k => if dS D gn m k = 1 then dSp D k else 0) (dNb D)
def dBareG (D : xDat) (gn : Nat → Bool) : Int32 := xMask (fun m => decide (dYelG D gn m = 0)) 24
theorem mGrF.rf (σ : gS) : mGrF σ σ := fun _ _ _ _ _ => rfl
theorem mGrF.tr {σ τ υ : gS} (h : mGrF σ τ) (h2 : mGrF τ υ) : mGrF σ υ := fun q a b c d => (h2 q a b c d).trans (h q a b c d)
theorem mGrF.keep {σ τ : gS} (h : mGrF σ τ) : mKeep σ τ := ⟨fun q h0 hs => h q (fun z => hs (by unfold mScr; omega)) (fun z => hs (by unfold mScr; omega)) (fun z => hs (by unfold mScr; omega)) (fun z => hs (by unfold mScr; omega)), fun s _ _ _ _ => by rw [h.c 0]⟩
theorem dYelG_le {D : xDat} {gn : Nat → Bool} (h : ∀ k, k < dNb D → dSp D k < 10) (hn : dNb D ≤ 10) (m : Nat) : dYelG D gn m < 1000 := by
  unfold dYelG
  have := xSum_le (f := fun k => if dS D gn m k = 1 then dSp D k else 0) (b := 9) (n := dNb D) (fun i hi => by have := h i hi; split <;> omega)
  omega
/-- what save, send and plant need of the memory -/
def mRdy (σ : gS) (D : xDat) : Prop := mEv σ (dN D) (dK D) (dM D) (dB D) ∧ mBu σ (dNb D) (dKd D) (dBg D) (dSp D) ∧ dNb D ≤ 10 ∧ σ 0 15 = 0 ∧ σ 0 21 = 0
theorem mRdy.gr {σ τ : gS} {D : xDat} (h : mRdy σ D) (hF : mGrF σ τ) : mRdy τ D := ⟨mEv_of (hF.c 0) (hF.c 9) h.1, mBu_of (hF.c 0) (hF.c 7) h.2.1, h.2.2.1, by rw [hF.c 0]; exact h.2.2.2.1, by rw [hF.c 0]; exact h.2.2.2.2⟩
theorem mRdy.of {σ : gS} {D : xDat} (hs : mSt σ D) (hf : mFnd σ D) : mRdy σ D := ⟨hs.2.2.1, hf.1, dNb_le D hs.1.2.1, hs.2.2.2.2.1, hs.2.2.2.2.2.1⟩
def bGone (bits : Int32) (gn : Nat → Bool) : Prop := ∀ e, e < 8 → ((bits >>> (nI e &&& 31)) &&& 1 = 1 ↔ gn e = true)
theorem s_X11_isSaved {d : Nat} (hd : 5 ≤ d) (σ : gS) (D : xDat) (gn : Nat → Bool) (bits : Int32) (hR : mRdy σ D) (hb : bGone bits gn) : gC d 175 [.ref 0, .int bits] σ (fun r τ => r = some (.int (bI (dBareG D gn = 0))) ∧ mGrF σ τ) := by
  obtain ⟨d, rfl⟩ : ∃ k, d = k + 1 := ⟨d - 1, by omega⟩
  refine gC.of (P := pX11_isSaved) (nL := 2) (rt := (some (.boolean))) (lv := [some (.ref 0), some (.int bits)]) (by decide +kernel) rfl rfl rfl (by simp [gEnt, Value.category]) rfl ?_
  refine gR.steps 4 (gUp σ 0 15 bits, (6, [some (.ref 0), some (.int bits)], [.ref 0])) rfl ?_
  refine gR.call' rfl (s_X11_grows (by omega) (gUp σ 0 15 bits) (dN D) (dK D) (dM D) (dB D) gn false (dNb D) (dKd D) (dBg D) (dSp D) (mEv_k (gUp_o (by omega)) (gUp_ne (by decide)) hR.1) (mBu_k (gUp_o (by omega)) (gUp_ne (by decide)) hR.2.1) (fun e he => by rw [gUp_s]; exact hb e he) (by rw [gUp_o (by omega), hR.2.2.2.2]; rfl)) ?_
  rintro _ τ1 ⟨rfl, hF, hrows⟩
  show gR _ _ _ τ1 (9, [some (.ref 0), some (.int bits)], [])
  refine gR.steps 4 (gUp τ1 0 15 0, (15, [some (.ref 0), some (.int bits)], [.ref 0])) rfl ?_
  refine gR.callp rfl (s_X11_bareNow (by omega) (gUp τ1 0 15 0) (dYelG D gn) (fun m hm => ⟨by rw [gUp_ne (by decide)]; exact (hrows m hm).2.1, dYelG_le hR.2.1.sp hR.2.2.1 m⟩)) ?_
  refine gR.ifte rfl (fun zc18 => ?_) (fun zc18 => ?_)
  · refine gR.steps 1 (gUp τ1 0 15 0, (26, [some (.ref 0), some (.int bits)], [.int 0])) rfl ?_
    show gR _ _ _ (gUp τ1 0 15 0) (26, [some (.ref 0), some (.int bits)], [.int 0])
    refine gR.ret rfl ?_
    exact ⟨gOk0, by rw [show bI (dBareG D gn = 0) = 0 from bI_f zc18], (show mGrF σ (gUp τ1 0 15 0) from fun q h1 h2 h3 h4 => by
        by_cases hq : q = 0
        · subst hq
          funext j
          rw [gUp_app]
          by_cases hj : j = 15
          · rw [if_pos ⟨rfl, hj⟩, hj]; exact hR.2.2.2.1.symm
          · rw [if_neg (fun z => hj z.2), hF.c 0, gUp_o (fun z => hj z.2)]
        · rw [gUp_ne hq, hF q h1 h2 h3 h4, gUp_ne hq])⟩
  · refine gR.steps 2 (gUp τ1 0 15 0, (26, [some (.ref 0), some (.int bits)], [.int 1])) rfl ?_
    show gR _ _ _ (gUp τ1 0 15 0) (26, [some (.ref 0), some (.int bits)], [.int 1])
    refine gR.ret rfl ?_
    exact ⟨gOk1, by rw [show bI (dBareG D gn = 0) = 1 from bI_t (Decidable.not_not.mp zc18)], (show mGrF σ (gUp τ1 0 15 0) from fun q h1 h2 h3 h4 => by
        by_cases hq : q = 0
        · subst hq
          funext j
          rw [gUp_app]
          by_cases hj : j = 15
          · rw [if_pos ⟨rfl, hj⟩, hj]; exact hR.2.2.2.1.symm
          · rw [if_neg (fun z => hj z.2), hF.c 0, gUp_o (fun z => hj z.2)]
        · rw [gUp_ne hq, hF q h1 h2 h3 h4, gUp_ne hq])⟩
def gn1 (a : Nat) : Nat → Bool := fun j => decide (j = a)
def gn2 (a b : Nat) : Nat → Bool := fun j => decide (j = a) || decide (j = b)
theorem bGone_0 : bGone 0 gn0 := by
  intro e he
  have : ∀ e : Nat, e < 8 → ¬ ((0 : Int32) >>> (nI e &&& 31)) &&& 1 = 1 := by decide
  exact ⟨fun z => absurd z (this e he), fun z => Bool.noConfusion z⟩
theorem bGone_1 {a : Nat} (ha : a < 8) : bGone ((1 : Int32) <<< (nI a &&& 31)) (gn1 a) := fun e he => gone_1 a ha e he
theorem gone_2 : ∀ a, a < 8 → ∀ b, b < 8 → ∀ j, j < 8 → (((1 : Int32) <<< (nI a &&& 31) ||| (1 : Int32) <<< (nI b &&& 31)) >>> (nI j &&& 31) &&& 1 = 1 ↔ (decide (j = a) || decide (j = b)) = true) := by decide +kernel
theorem bGone_2 {a b : Nat} (ha : a < 8) (hb : b < 8) : bGone ((1 : Int32) <<< (nI a &&& 31) ||| (1 : Int32) <<< (nI b &&& 31)) (gn2 a b) := fun e he => gone_2 a ha b hb e he
def sv1 (D : xDat) (a : Nat) : Bool := !decide (dBareG D (gn1 a) = 0)
def sv2 (D : xDat) (c : Nat) : Bool := !(decide (c / 8 < c % 8) && decide (c % 8 < dN D) && decide (dBareG D (gn2 (c / 8) (c % 8)) = 0))
def dSv1 (D : xDat) : Nat := xFst (sv1 D) (dN D)
def dSv2 (D : xDat) : Nat := xFst (sv2 D) 64
def dSave (D : xDat) (i : Int32) : Int32 := if dBareG D gn0 = 0 then (if i = -1 then 0 else -1) else if dSv1 D < dN D then (if i = -1 then 1 else if i = 0 then nI (dSv1 D) else -1) else if dSv2 D < 64 then (if i = -1 then 2 else if i = 0 then nI (dSv2 D / 8) else nI (dSv2 D % 8)) else -1
theorem sv1_no {D : xDat} {a : Nat} (h : ¬ dBareG D (gn1 a) = 0) : sv1 D a = true := by unfold sv1; rw [decide_eq_false h]; rfl
theorem sv1_yes {D : xDat} {a : Nat} (h : dBareG D (gn1 a) = 0) : ¬ sv1 D a = true := by unfold sv1; rw [decide_eq_true h]; decide
theorem sv2_no {D : xDat} {c : Nat} (h : c / 8 < c % 8 → c % 8 < dN D → ¬ dBareG D (gn2 (c / 8) (c % 8)) = 0) : sv2 D c = true := by
  unfold sv2
  by_cases h1 : c / 8 < c % 8
  · by_cases h2 : c % 8 < dN D
    · rw [decide_eq_false (h h1 h2)]; simp
    · rw [decide_eq_false h2]; simp
  · rw [decide_eq_false h1]; simp
theorem sv2_yes {D : xDat} {a b : Nat} (h1 : a < b) (h2 : b < dN D) (h8 : dN D ≤ 8) (h : dBareG D (gn2 a b) = 0) : ¬ sv2 D (8 * a + b) = true := by
  unfold sv2
  rw [show (8 * a + b) / 8 = a by omega, show (8 * a + b) % 8 = b by omega, decide_eq_true h1, decide_eq_true h2, decide_eq_true h]; decide
theorem dSv1_at {D : xDat} {a : Nat} (hp : ∀ a2, a2 < a → ¬ dBareG D (gn1 a2) = 0) (h : dBareG D (gn1 a) = 0) (ha : a < dN D) : dSv1 D = a := xFst_at (g := sv1 D) (i := a) (fun j hj => sv1_no (hp j hj)) (sv1_yes h) (n := dN D) ha
theorem dSv1_no {D : xDat} (hp : ∀ a2, a2 < dN D → ¬ dBareG D (gn1 a2) = 0) : dSv1 D = dN D := xFst_all (g := sv1 D) (n := dN D) (fun j hj => sv1_no (hp j hj))
theorem dSv2_at {D : xDat} {a b : Nat} (h8 : dN D ≤ 8) (hab : a < b) (hbn : b < dN D) (h : dBareG D (gn2 a b) = 0) (hp2 : ∀ a2, a2 < a → ∀ b2, a2 < b2 → b2 < dN D → ¬ dBareG D (gn2 a2 b2) = 0) (hp3 : ∀ b2, a < b2 → b2 < b → ¬ dBareG D (gn2 a b2) = 0) : dSv2 D = 8 * a + b := by
  refine xFst_at (g := sv2 D) (i := 8 * a + b) (fun c hc => sv2_no (fun h1 h2 => ?_)) (sv2_yes hab hbn h8 h) (n := 64) (by omega)
  by_cases hca : c / 8 = a
  · rw [hca] at h1 ⊢; exact hp3 (c % 8) h1 (by omega)
  · exact hp2 (c / 8) (by omega) (c % 8) h1 h2
theorem dSv2_no {D : xDat} (hp2 : ∀ a2, a2 < dN D → ∀ b2, a2 < b2 → b2 < dN D → ¬ dBareG D (gn2 a2 b2) = 0) : dSv2 D = 64 := xFst_all (g := sv2 D) (n := 64) (fun c hc => sv2_no (fun h1 h2 => hp2 (c / 8) (by omega) (c % 8) h1 h2))
theorem s_X11_saveOf {d : Nat} (hd : 6 ≤ d) (σ : gS) (D : xDat) (i : Int32) (hR : mRdy σ D) : gC d 176 [.ref 0, .int i] σ (fun r τ => r = some (.int (dSave D i)) ∧ mGrF σ τ) := by
  obtain ⟨d, rfl⟩ : ∃ k, d = k + 1 := ⟨d - 1, by omega⟩
  refine gC.of (P := pX11_saveOf) (nL := 4) (rt := (some (.int))) (lv := [some (.ref 0), some (.int i), none, none]) (by decide +kernel) rfl rfl rfl (by simp [gEnt, Value.category]) rfl ?_
  have hn8 := hR.1.2.1
  refine gR.steps 2 (σ, (2, [some (.ref 0), some (.int i), none, none], [.int 0, .ref 0])) rfl ?_
  refine gR.call' rfl (s_X11_isSaved (by omega) σ D (gn0) (0) hR (bGone_0)) ?_
  rintro _ τ0 ⟨rfl, hG⟩
  have hG := hG
  show gR _ _ _ τ0 (5, [some (.ref 0), some (.int i), none, none], [.int (bI (dBareG D (gn0) = 0))])
  refine gR.ifte rfl (fun zc5 => ?_) (fun zc5 => ?_)
  · rw [bI_eq0] at zc5
    refine gR.steps 2 (τ0, (21, [some (.ref 0), some (.int i), some (.int 0), none], [])) rfl ?_
    refine gR.forget [some (.ref 0), some (.int i), some (.int 0), none] ⟨rfl, ⟨rfl, ⟨rfl, trivial⟩⟩⟩ ?_
    refine gR.loop (α := Nat × gS) (fun ⟨a, τ⟩ => a ≤ dN D ∧ mGrF σ τ ∧ (∀ a2, a2 < a → ¬ dBareG D (gn1 a2) = 0)) (fun ⟨a, τ⟩ => dN D - a) (fun ⟨a, τ⟩ => (τ, (21, [some (.ref 0), some (.int i), some (.int (nI a)), none], []))) ?_ ⟨0, τ0⟩ ⟨Nat.zero_le _, hG, fun a2 h => absurd h (Nat.not_lt_zero a2)⟩
    rintro ⟨a, τ⟩ ⟨ha, hF, hp1⟩ ih
    show gR _ _ _ τ (21, [some (.ref 0), some (.int i), some (.int (nI a)), none], [])
    refine gR.steps 3 (τ, (26, [some (.ref 0), some (.int i), some (.int (nI a)), none], [.int (τ 0 13), .int (nI a)])) rfl ?_
    refine gR.topI (y := nI (dN D)) (by rw [hF.c 0]; exact hR.1.1) ?_
    refine gR.ifte rfl (fun zc26 => ?_) (fun zc26 => ?_)
    · rw [gN_le (x := nI (dN D)) (y := nI a) (a := dN D) (b := a) rfl rfl (by omega) (by omega)] at zc26
      refine gR.steps 2 (τ, (66, [some (.ref 0), some (.int i), some (.int 0), none], [])) rfl ?_
      have hall : (∀ a2, a2 < dN D → ¬ dBareG D (gn1 a2) = 0) := fun a2 h2 => hp1 a2 (by omega)
      clear ih hp1
      refine gR.forget [some (.ref 0), some (.int i), some (.int 0), none] ⟨rfl, ⟨rfl, ⟨rfl, trivial⟩⟩⟩ ?_
      refine gR.loop (α := Nat × gS) (fun ⟨a, τ⟩ => a ≤ dN D ∧ mGrF σ τ ∧ (∀ a2, a2 < a → ∀ b2, a2 < b2 → b2 < dN D → ¬ dBareG D (gn2 a2 b2) = 0)) (fun ⟨a, τ⟩ => dN D - a) (fun ⟨a, τ⟩ => (τ, (66, [some (.ref 0), some (.int i), some (.int (nI a)), none], []))) ?_ ⟨0, τ⟩ ⟨Nat.zero_le _, hF, fun a2 h => absurd h (Nat.not_lt_zero a2)⟩
      rintro ⟨a, τ⟩ ⟨ha, hF, hp2⟩ ih2
      show gR _ _ _ τ (66, [some (.ref 0), some (.int i), some (.int (nI a)), none], [])
      refine gR.steps 3 (τ, (71, [some (.ref 0), some (.int i), some (.int (nI a)), none], [.int (τ 0 13), .int (nI a)])) rfl ?_
      refine gR.topI (y := nI (dN D)) (by rw [hF.c 0]; exact hR.1.1) ?_
      refine gR.ifte rfl (fun zc71 => ?_) (fun zc71 => ?_)
      · rw [gN_le (x := nI (dN D)) (y := nI a) (a := dN D) (b := a) rfl rfl (by omega) (by omega)] at zc71
        refine gR.steps 1 (τ, (132, [some (.ref 0), some (.int i), some (.int (nI a)), none], [.int (-1)])) rfl ?_
        refine gR.ret rfl ?_
        have hv1 : dSv1 D = dN D := dSv1_no hall
        have hv : dSv2 D = 64 := dSv2_no (fun a2 h2 => hp2 a2 (by omega))
        refine ⟨trivial, ?_, hF⟩
        unfold dSave
        rw [if_neg zc5, if_neg (by omega), if_neg (by omega)]
      · rw [gN_le (x := nI (dN D)) (y := nI a) (a := dN D) (b := a) rfl rfl (by omega) (by omega)] at zc71
        refine gR.steps 4 (τ, (78, [some (.ref 0), some (.int i), some (.int (nI a)), some (.int ((nI a) + 1))], [])) rfl ?_
        refine gR.forget [some (.ref 0), some (.int i), some (.int (nI a)), some (.int (nI (a + 1)))] ⟨rfl, ⟨rfl, ⟨rfl, ⟨gSomeI (gN_add rfl rfl), trivial⟩⟩⟩⟩ ?_
        refine gR.loop (α := Nat × gS) (fun ⟨b, τ⟩ => a < b ∧ b ≤ dN D ∧ mGrF σ τ ∧ (∀ b2, a < b2 → b2 < b → ¬ dBareG D (gn2 a b2) = 0)) (fun ⟨b, τ⟩ => dN D - b) (fun ⟨b, τ⟩ => (τ, (78, [some (.ref 0), some (.int i), some (.int (nI a)), some (.int (nI b))], []))) ?_ ⟨a + 1, τ⟩ ⟨by omega, by omega, hF, fun b2 h1 h2 => by omega⟩
        rintro ⟨b, τ⟩ ⟨hab, hbn, hF, hp3⟩ ih3
        show gR _ _ _ τ (78, [some (.ref 0), some (.int i), some (.int (nI a)), some (.int (nI b))], [])
        refine gR.steps 3 (τ, (83, [some (.ref 0), some (.int i), some (.int (nI a)), some (.int (nI b))], [.int (τ 0 13), .int (nI b)])) rfl ?_
        refine gR.topI (y := nI (dN D)) (by rw [hF.c 0]; exact hR.1.1) ?_
        refine gR.ifte rfl (fun zc83 => ?_) (fun zc83 => ?_)
        · rw [gN_le (x := nI (dN D)) (y := nI b) (a := dN D) (b := b) rfl rfl (by omega) (by omega)] at zc83
          refine gR.steps 2 (τ, (66, [some (.ref 0), some (.int i), some (.int ((nI a) + 1)), some (.int (nI b))], [])) rfl ?_
          refine gR.forget [some (.ref 0), some (.int i), some (.int (nI (a + 1))), none] ⟨rfl, ⟨rfl, ⟨gSomeI (gN_add rfl rfl), trivial⟩⟩⟩ ?_
          exact ih2 ⟨a + 1, _⟩ ⟨by omega, hF, lt_s hp2 (fun b2 h1 h2 => hp3 b2 h1 (by omega))⟩ (by dsimp only; omega)
        · rw [gN_le (x := nI (dN D)) (y := nI b) (a := dN D) (b := b) rfl rfl (by omega) (by omega)] at zc83
          refine gR.steps 8 (τ, (94, [some (.ref 0), some (.int i), some (.int (nI a)), some (.int (nI b))], [.int (((1 : Int32) <<< ((nI a) &&& 31)) ||| ((1 : Int32) <<< ((nI b) &&& 31))), .ref 0])) rfl ?_
          refine gR.call' rfl (s_X11_isSaved (by omega) τ D (gn2 a b) (((1 : Int32) <<< ((nI a) &&& 31)) ||| ((1 : Int32) <<< ((nI b) &&& 31))) (hR.gr hF) (bGone_2 (by omega) (by omega))) ?_
          rintro _ υ ⟨rfl, hG⟩
          have hG := hF.tr hG
          show gR _ _ _ υ (97, [some (.ref 0), some (.int i), some (.int (nI a)), some (.int (nI b))], [.int (bI (dBareG D (gn2 a b) = 0))])
          refine gR.ifte rfl (fun zc97 => ?_) (fun zc97 => ?_)
          · rw [bI_eq0] at zc97
            refine gR.steps 2 (υ, (78, [some (.ref 0), some (.int i), some (.int (nI a)), some (.int ((nI b) + 1))], [])) rfl ?_
            refine gR.forget [some (.ref 0), some (.int i), some (.int (nI a)), some (.int (nI (b + 1)))] ⟨rfl, ⟨rfl, ⟨rfl, ⟨gSomeI (gN_add rfl rfl), trivial⟩⟩⟩⟩ ?_
            exact ih3 ⟨b + 1, _⟩ ⟨by omega, by omega, hG, fun b2 h1 h2 => by
          by_cases hb2 : b2 = b
          · rw [hb2]; exact zc97
          · exact hp3 b2 h1 (by omega)⟩ (by dsimp only; omega)
          · rw [bI_eq0, Decidable.not_not] at zc97
            refine gR.steps 2 (υ, (102, [some (.ref 0), some (.int i), some (.int (nI a)), some (.int (nI b))], [.int (-1), .int i])) rfl ?_
            refine gR.ifte rfl (fun zc102 => ?_) (fun zc102 => ?_)
            · refine gR.steps 1 (υ, (110, [some (.ref 0), some (.int i), some (.int (nI a)), some (.int (nI b))], [.int i])) rfl ?_
              refine gR.ifte rfl (fun zc110 => ?_) (fun zc110 => ?_)
              · refine gR.steps 1 (υ, (118, [some (.ref 0), some (.int i), some (.int (nI a)), some (.int (nI b))], [.int (nI b)])) rfl ?_
                refine gR.ret rfl ?_
                have hv1 : dSv1 D = dN D := dSv1_no hall
                have hv : dSv2 D = 8 * a + b := dSv2_at hn8 hab (by omega) zc97 hp2 hp3
                refine ⟨trivial, ?_, hG⟩
                unfold dSave
                rw [if_neg zc5, if_neg (by omega), if_pos (by omega), hv, show (8 * a + b) / 8 = a by omega, show (8 * a + b) % 8 = b by omega]
                first | rw [if_pos (Decidable.not_not.mp zc102)] | rw [if_neg zc102, if_pos (Decidable.not_not.mp zc110)] | rw [if_neg zc102, if_neg zc110]
              · refine gR.steps 2 (υ, (118, [some (.ref 0), some (.int i), some (.int (nI a)), some (.int (nI b))], [.int (nI a)])) rfl ?_
                refine gR.ret rfl ?_
                have hv1 : dSv1 D = dN D := dSv1_no hall
                have hv : dSv2 D = 8 * a + b := dSv2_at hn8 hab (by omega) zc97 hp2 hp3
                refine ⟨trivial, ?_, hG⟩
                unfold dSave
                rw [if_neg zc5, if_neg (by omega), if_pos (by omega), hv, show (8 * a + b) / 8 = a by omega, show (8 * a + b) % 8 = b by omega]
                first | rw [if_pos (Decidable.not_not.mp zc102)] | rw [if_neg zc102, if_pos (Decidable.not_not.mp zc110)] | rw [if_neg zc102, if_neg zc110]
            · refine gR.steps 2 (υ, (118, [some (.ref 0), some (.int i), some (.int (nI a)), some (.int (nI b))], [.int 2])) rfl ?_
              refine gR.ret rfl ?_
              have hv1 : dSv1 D = dN D := dSv1_no hall
              have hv : dSv2 D = 8 * a + b := dSv2_at hn8 hab (by omega) zc97 hp2 hp3
              refine ⟨trivial, ?_, hG⟩
              unfold dSave
              rw [if_neg zc5, if_neg (by omega), if_pos (by omega), hv, show (8 * a + b) / 8 = a by omega, show (8 * a + b) % 8 = b by omega]
              first | rw [if_pos (Decidable.not_not.mp zc102)] | rw [if_neg zc102, if_pos (Decidable.not_not.mp zc110)] | rw [if_neg zc102, if_neg zc110]
    · rw [gN_le (x := nI (dN D)) (y := nI a) (a := dN D) (b := a) rfl rfl (by omega) (by omega)] at zc26
      refine gR.steps 4 (τ, (33, [some (.ref 0), some (.int i), some (.int (nI a)), none], [.int ((1 : Int32) <<< ((nI a) &&& 31)), .ref 0])) rfl ?_
      refine gR.call' rfl (s_X11_isSaved (by omega) τ D (gn1 a) ((1 : Int32) <<< ((nI a) &&& 31)) (hR.gr hF) (bGone_1 (by omega))) ?_
      rintro _ υ ⟨rfl, hG⟩
      have hG := hF.tr hG
      show gR _ _ _ υ (36, [some (.ref 0), some (.int i), some (.int (nI a)), none], [.int (bI (dBareG D (gn1 a) = 0))])
      refine gR.ifte rfl (fun zc36 => ?_) (fun zc36 => ?_)
      · rw [bI_eq0] at zc36
        refine gR.steps 2 (υ, (21, [some (.ref 0), some (.int i), some (.int ((nI a) + 1)), none], [])) rfl ?_
        refine gR.forget [some (.ref 0), some (.int i), some (.int (nI (a + 1))), none] ⟨rfl, ⟨rfl, ⟨gSomeI (gN_add rfl rfl), trivial⟩⟩⟩ ?_
        exact ih ⟨a + 1, _⟩ ⟨by omega, hG, lt_s hp1 zc36⟩ (by dsimp only; omega)
      · rw [bI_eq0, Decidable.not_not] at zc36
        refine gR.steps 2 (υ, (41, [some (.ref 0), some (.int i), some (.int (nI a)), none], [.int (-1), .int i])) rfl ?_
        refine gR.ifte rfl (fun zc41 => ?_) (fun zc41 => ?_)
        · refine gR.steps 1 (υ, (49, [some (.ref 0), some (.int i), some (.int (nI a)), none], [.int i])) rfl ?_
          refine gR.ifte rfl (fun zc49 => ?_) (fun zc49 => ?_)
          · refine gR.steps 1 (υ, (57, [some (.ref 0), some (.int i), some (.int (nI a)), none], [.int (-1)])) rfl ?_
            refine gR.ret rfl ?_
            have hv : dSv1 D = a := dSv1_at hp1 zc36 (by omega)
            refine ⟨trivial, ?_, hG⟩
            unfold dSave
            rw [if_neg zc5, if_pos (by omega)]
            first | rw [if_pos (Decidable.not_not.mp zc41)] | rw [if_neg zc41, if_pos (Decidable.not_not.mp zc49), hv] | rw [if_neg zc41, if_neg zc49]
          · refine gR.steps 2 (υ, (57, [some (.ref 0), some (.int i), some (.int (nI a)), none], [.int (nI a)])) rfl ?_
            refine gR.ret rfl ?_
            have hv : dSv1 D = a := dSv1_at hp1 zc36 (by omega)
            refine ⟨trivial, ?_, hG⟩
            unfold dSave
            rw [if_neg zc5, if_pos (by omega)]
            first | rw [if_pos (Decidable.not_not.mp zc41)] | rw [if_neg zc41, if_pos (Decidable.not_not.mp zc49), hv] | rw [if_neg zc41, if_neg zc49]
        · refine gR.steps 2 (υ, (57, [some (.ref 0), some (.int i), some (.int (nI a)), none], [.int 1])) rfl ?_
          refine gR.ret rfl ?_
          have hv : dSv1 D = a := dSv1_at hp1 zc36 (by omega)
          refine ⟨trivial, ?_, hG⟩
          unfold dSave
          rw [if_neg zc5, if_pos (by omega)]
          first | rw [if_pos (Decidable.not_not.mp zc41)] | rw [if_neg zc41, if_pos (Decidable.not_not.mp zc49), hv] | rw [if_neg zc41, if_neg zc49]
  · rw [bI_eq0, Decidable.not_not] at zc5
    refine gR.steps 2 (τ0, (10, [some (.ref 0), some (.int i), none, none], [.int (-1), .int i])) rfl ?_
    refine gR.ifte rfl (fun zc10 => ?_) (fun zc10 => ?_)
    · refine gR.steps 1 (τ0, (18, [some (.ref 0), some (.int i), none, none], [.int (-1)])) rfl ?_
      refine gR.ret rfl ?_
      refine ⟨trivial, ?_, hG⟩
      unfold dSave
      first | rw [if_pos zc5, if_pos (Decidable.not_not.mp zc10)] | rw [if_pos zc5, if_neg zc10]
    · refine gR.steps 2 (τ0, (18, [some (.ref 0), some (.int i), none, none], [.int 0])) rfl ?_
      refine gR.ret rfl ?_
      refine ⟨trivial, ?_, hG⟩
      unfold dSave
      first | rw [if_pos zc5, if_pos (Decidable.not_not.mp zc10)] | rw [if_pos zc5, if_neg zc10]
def aSave (D : xDat) (i : Int32) : Int32 := if -1 ≤ i.toInt ∧ i.toInt ≤ 1 then dSave D i else -2
theorem s_X11_save {d : Nat} (hd : 8 ≤ d) (σ : gS) (D : xDat) (i : Int32) (hs : mSt σ D) : gC d 177 [.ref 0, .int i] σ (fun r τ => r = some (.int (aSave D i)) ∧ mKeep σ τ) := by
  obtain ⟨d, rfl⟩ : ∃ k, d = k + 1 := ⟨d - 1, by omega⟩
  refine gC.of (P := pX11_save) (nL := 2) (rt := (some (.int))) (lv := [some (.ref 0), some (.int i)]) (by decide +kernel) rfl rfl rfl (by simp [gEnt, Value.category]) rfl ?_
  refine gR.steps 1 (σ, (1, [some (.ref 0), some (.int i)], [.ref 0])) rfl ?_
  refine gR.call' rfl (s_X11_find (by omega) σ D hs) ?_
  rintro _ τ ⟨rfl, hk, hf⟩
  show gR _ _ _ τ (4, [some (.ref 0), some (.int i)], [])
  refine gR.steps 4 (τ, (10, [some (.ref 0), some (.int i)], [.long 1, .long (-1), .long (Int32.toInt64 i)])) rfl ?_
  refine gR.callp rfl (s_X11_inI (by omega) τ i (-1) 1 (-1) 1 (by decide) (by decide)) ?_
  refine gR.ifte rfl (fun zc13 => ?_) (fun zc13 => ?_)
  · rw [bI_eq0] at zc13
    refine gR.steps 1 (τ, (26, [some (.ref 0), some (.int i)], [.int (-2)])) rfl ?_
    refine gR.ret rfl ?_
    exact ⟨trivial, by unfold aSave; rw [if_neg zc13], hk⟩
  · rw [bI_eq0, Decidable.not_not] at zc13
    refine gR.steps 2 (τ, (18, [some (.ref 0), some (.int i)], [.int i, .ref 0])) rfl ?_
    refine gR.call' rfl (s_X11_saveOf (by omega) τ D i (mRdy.of (hs.keep hk) hf)) ?_
    rintro _ τ2 ⟨rfl, hG⟩
    show gR _ _ _ τ2 (21, [some (.ref 0), some (.int i)], [.int (dSave D i)])
    refine gR.steps 1 (τ2, (26, [some (.ref 0), some (.int i)], [.int (dSave D i)])) rfl ?_
    refine gR.ret rfl ?_
    exact ⟨trivial, by unfold aSave; rw [if_pos zc13], hk.tr hG.keep⟩
