theorem xAll_iff (f : Nat → Bool) : ∀ n, xAll f n = true ↔ ∀ i, i < n → f i = true
  | 0 => ⟨fun _ i hi => absurd hi (Nat.not_lt_zero i), fun _ => rfl⟩
  | n + 1 => by
    simp only [xAll, Bool.and_eq_true, xAll_iff f n]
    constructor
    · rintro ⟨h1, h2⟩ i hi
      by_cases e : i = n
      · rw [e]; exact h2
      · exact h1 i (by omega)
    · intro h
      exact ⟨fun i hi => h i (by omega), h n (by omega)⟩
/-- the hill's courses, kinds and begins as told -/
def cHk (τ : gS) (D : xDat) (gn : Nat → Bool) (kd bg : Nat → Nat) : Prop := ∀ k, k < dNb D → cCo τ (50 + k) (60 + k) (fun a m => xOn (dN D) (dK D) (dM D) (dB D) gn a (some k) (kd k) m) (xSeason (kd k) (bg k))
def xSeeD (D : xDat) (gn : Nat → Bool) (kd bg : Nat → Nat) (G : xSig) : Bool := xAll (xSee (dN D) (dK D) (dM D) (dB D) gn false (dNb D) kd bg G.2.1 G.2.2.1 G.2.2.2) G.1
theorem xSee_iff {D : xDat} {gn : Nat → Bool} {kd bg : Nat → Nat} {G : xSig} {i : Nat} : (xSee (dN D) (dK D) (dM D) (dB D) gn false (dNb D) kd bg G.2.1 G.2.2.1 G.2.2.2 i = true ↔ (G.2.2.1 i < dNb D ∧ cStt (fun a m => xOn (dN D) (dK D) (dM D) (dB D) gn a (some (G.2.2.1 i)) (kd (G.2.2.1 i)) m) (xSeason (kd (G.2.2.1 i)) (bg (G.2.2.1 i))) (G.2.1 i) = G.2.2.2 i)) := decide_eq_true_iff
theorem cStt_lt (f : Nat → Nat → Bool) (sn : Nat → Bool) (m : Nat) : cStt f sn m < 5 := by
  unfold cStt
  repeat' split
  all_goals omega
theorem s_X7_comeOut {d : Nat} (hd : 4 ≤ d) (σ : gS) (D : xDat) (G : xSig) (gn : Nat → Bool) (kd bg : Nat → Nat) (hT : cT0 σ (dN0 D) (dC0 D)) (hg : cSg σ G) (hH : cHk σ D gn kd bg) : gC d 30 [.ref 37, .ref 20] σ (fun r τ => r = some (.int (bI (xSeeD D gn kd bg G = true))) ∧ τ = σ) := by
  obtain ⟨d, rfl⟩ : ∃ k, d = k + 1 := ⟨d - 1, by omega⟩
  refine gC.of (P := pX7_comeOut) (nL := 4) (rt := (some (.boolean))) (lv := [some (.ref 37), some (.ref 20), none, none]) (by decide +kernel) rfl rfl rfl (by simp [gEnt, Value.category]) rfl ?_
  have hg8 := hg.2.1
  have hnb := dNb_le D hT.1.2.2.2.1
  refine gR.steps 2 (σ, (2, [some (.ref 37), some (.ref 20), some (.int 0), none], [])) rfl ?_
  refine gR.forget [some (.ref 37), some (.ref 20), some (.int 0), none] ⟨rfl, ⟨rfl, ⟨rfl, trivial⟩⟩⟩ ?_
  refine gR.loop (α := Nat) (fun i => i ≤ G.1 ∧ ∀ j, j < i → xSee (dN D) (dK D) (dM D) (dB D) gn false (dNb D) kd bg G.2.1 G.2.2.1 G.2.2.2 j = true) (fun i => G.1 - i) (fun i => (σ, (2, [some (.ref 37), some (.ref 20), some (.int (nI i)), none], []))) ?_ 0 ⟨Nat.zero_le _, fun j hj => absurd hj (Nat.not_lt_zero j)⟩
  rintro i ⟨hi, hall⟩ ih
  show gR _ _ _ σ (2, [some (.ref 37), some (.ref 20), some (.int (nI i)), none], [])
  refine gR.steps 3 (σ, (7, [some (.ref 37), some (.ref 20), some (.int (nI i)), none], [.int (σ 37 3), .int (nI i)])) rfl ?_
  refine gR.topI (y := nI (G.1)) hg.1 ?_
  refine gR.ifte rfl (fun zc7 => ?_) (fun zc7 => ?_)
  · rw [gN_le (x := nI (G.1)) (y := nI i) (a := G.1) (b := i) rfl rfl (by omega) (by omega)] at zc7
    refine gR.steps 1 (σ, (61, [some (.ref 37), some (.ref 20), some (.int (nI i)), none], [.int 1])) rfl ?_
    show gR _ _ _ σ (61, [some (.ref 37), some (.ref 20), some (.int (nI i)), none], [.int 1])
    refine gR.ret rfl ?_
    obtain rfl : i = G.1 := by omega
    exact ⟨gOk1, gSomeI (bI_t (show xSeeD D gn kd bg G = true from (xAll_iff _ _).mpr hall)).symm, rfl⟩
  · rw [gN_le (x := nI (G.1)) (y := nI i) (a := G.1) (b := i) rfl rfl (by omega) (by omega)] at zc7
    have hgi := (hg.2.2 i (by omega)).2.2.2
    refine gR.steps 3 (σ, (15, [some (.ref 37), some (.ref 20), some (.int (nI i)), none], [.int (nI i), .ref 39])) rfl ?_
    refine gR.ald (i := nI i) (j := i) (N := 8) (g := σ 39) rfl rfl (by omega) (by omega) ?_
    refine gR.topI (y := nI (G.2.2.1 i)) (hg.2.2 i (by omega)).2.1 ?_
    refine gR.steps 4 (σ, (22, [some (.ref 37), some (.ref 20), some (.int (nI i)), some (.int (nI (G.2.2.1 i)))], [.int (nI (G.2.2.1 i)), .ref 21])) rfl ?_
    refine gR.callp rfl (s_X0_has (by omega) σ D (nI (G.2.2.1 i)) hT) ?_
    refine gR.ifte rfl (fun zc25 => ?_) (fun zc25 => ?_)
    · rw [bI_eq0] at zc25
      refine gR.steps 1 (σ, (53, [some (.ref 37), some (.ref 20), some (.int (nI i)), some (.int (nI (G.2.2.1 i)))], [.int 0])) rfl ?_
      show gR _ _ _ σ (53, [some (.ref 37), some (.ref 20), some (.int (nI i)), some (.int (nI (G.2.2.1 i)))], [.int 0])
      refine gR.ret rfl ?_
      refine ⟨gOk0, gSomeI (bI_f (p := xSeeD D gn kd bg G = true) (fun z => ?_)).symm, rfl⟩
      have hz := xSee_iff.mp ((xAll_iff _ _).mp z i (by omega))
      first | exact zc49 hz.2 | (rw [nI_toInt (by omega)] at zc25; omega)
    · rw [bI_eq0, Decidable.not_not] at zc25
      have hbn : G.2.2.1 i < dNb D := by rw [nI_toInt (by omega)] at zc25; omega
      have hst5 := cStt_lt (fun a m => xOn (dN D) (dK D) (dM D) (dB D) gn a (some (G.2.2.1 i)) (kd (G.2.2.1 i)) m) (xSeason (kd (G.2.2.1 i)) (bg (G.2.2.1 i))) (G.2.1 i)
      refine gR.steps 3 (σ, (33, [some (.ref 37), some (.ref 20), some (.int (nI i)), some (.int (nI (G.2.2.1 i)))], [.int (nI (G.2.2.1 i)), .ref 45])) rfl ?_
      refine gR.chk (b := gIn (nI (G.2.2.1 i)) 10) rfl (gN_in rfl (by omega) (by omega)) ?_
      rw [gN_cl rfl (by omega)]
      refine gR.steps 3 (σ, (39, [some (.ref 37), some (.ref 20), some (.int (nI i)), some (.int (nI (G.2.2.1 i)))], [.int (nI i), .ref 38, .ref (50 + (G.2.2.1 i))])) rfl ?_
      refine gR.ald (i := nI i) (j := i) (N := 8) (g := σ 38) rfl rfl (by omega) (by omega) ?_
      refine gR.topI (y := nI (G.2.1 i)) (hg.2.2 i (by omega)).1 ?_
      refine gR.callp (x := .int (nI (cStt (fun a m => xOn (dN D) (dK D) (dM D) (dB D) gn a (some (G.2.2.1 i)) (kd (G.2.2.1 i)) m) (xSeason (kd (G.2.2.1 i)) (bg (G.2.2.1 i))) (G.2.1 i)))) (gStep_callV rfl rfl (gSh_course (j := G.2.2.1 i) (by omega)) rfl) (s_X1_stateIn (by omega) σ (50 + G.2.2.1 i) (60 + G.2.2.1 i) _ _ (G.2.1 i) (Or.inr ⟨by omega, by omega, by omega⟩) (hH (G.2.2.1 i) hbn) (by omega)) ?_
      refine gR.steps 3 (σ, (48, [some (.ref 37), some (.ref 20), some (.int (nI i)), some (.int (nI (G.2.2.1 i)))], [.int (nI i), .ref 40, .int (nI (cStt (fun a m => xOn (dN D) (dK D) (dM D) (dB D) gn a (some (G.2.2.1 i)) (kd (G.2.2.1 i)) m) (xSeason (kd (G.2.2.1 i)) (bg (G.2.2.1 i))) (G.2.1 i)))])) rfl ?_
      refine gR.ald (i := nI i) (j := i) (N := 8) (g := σ 40) rfl rfl (by omega) (by omega) ?_
      refine gR.topI (y := nI (G.2.2.2 i)) (hg.2.2 i (by omega)).2.2.1 ?_
      refine gR.ifte rfl (fun zc49 => ?_) (fun zc49 => ?_)
      · rw [gN_eq (x := nI (cStt (fun a m => xOn (dN D) (dK D) (dM D) (dB D) gn a (some (G.2.2.1 i)) (kd (G.2.2.1 i)) m) (xSeason (kd (G.2.2.1 i)) (bg (G.2.2.1 i))) (G.2.1 i))) (y := nI (G.2.2.2 i)) (a := cStt (fun a m => xOn (dN D) (dK D) (dM D) (dB D) gn a (some (G.2.2.1 i)) (kd (G.2.2.1 i)) m) (xSeason (kd (G.2.2.1 i)) (bg (G.2.2.1 i))) (G.2.1 i)) (b := G.2.2.2 i) rfl rfl (by omega) (by omega)] at zc49
        refine gR.steps 2 (σ, (2, [some (.ref 37), some (.ref 20), some (.int ((nI i) + 1)), some (.int (nI (G.2.2.1 i)))], [])) rfl ?_
        refine gR.forget [some (.ref 37), some (.ref 20), some (.int (nI (i + 1))), none] ⟨rfl, ⟨rfl, ⟨gSomeI (gN_add rfl rfl), trivial⟩⟩⟩ ?_
        have hzz := ih (i + 1) ⟨by omega, lt_s hall (xSee_iff.mpr ⟨hbn, zc49⟩)⟩ (by omega)
        exact hzz
      · rw [gN_eq (x := nI (cStt (fun a m => xOn (dN D) (dK D) (dM D) (dB D) gn a (some (G.2.2.1 i)) (kd (G.2.2.1 i)) m) (xSeason (kd (G.2.2.1 i)) (bg (G.2.2.1 i))) (G.2.1 i))) (y := nI (G.2.2.2 i)) (a := cStt (fun a m => xOn (dN D) (dK D) (dM D) (dB D) gn a (some (G.2.2.1 i)) (kd (G.2.2.1 i)) m) (xSeason (kd (G.2.2.1 i)) (bg (G.2.2.1 i))) (G.2.1 i)) (b := G.2.2.2 i) rfl rfl (by omega) (by omega)] at zc49
        refine gR.steps 1 (σ, (53, [some (.ref 37), some (.ref 20), some (.int (nI i)), some (.int (nI (G.2.2.1 i)))], [.int 0])) rfl ?_
        show gR _ _ _ σ (53, [some (.ref 37), some (.ref 20), some (.int (nI i)), some (.int (nI (G.2.2.1 i)))], [.int 0])
        refine gR.ret rfl ?_
        refine ⟨gOk0, gSomeI (bI_f (p := xSeeD D gn kd bg G = true) (fun z => ?_)).symm, rfl⟩
        have hz := xSee_iff.mp ((xAll_iff _ _).mp z i (by omega))
        first | exact zc49 hz.2 | (rw [nI_toInt (by omega)] at zc25; omega)
theorem s_X10_never {d : Nat} (hd : 5 ≤ d) (σ : gS) (D : xDat) (G : xSig) (hs : cSt σ D) (hg : cSg σ G) : gC d 66 [.ref 18] σ (fun r τ => r = some (.int (aNever D G)) ∧ cKeep σ τ) := by
  obtain ⟨d, rfl⟩ : ∃ k, d = k + 1 := ⟨d - 1, by omega⟩
  refine gC.of (P := pX10_never) (nL := 3) (rt := (some (.int))) (lv := [some (.ref 18), none, none]) (by decide +kernel) rfl rfl rfl (by simp [gEnt, Value.category]) rfl ?_
  have hn8 := hs.2.2.1.2.1
  refine gR.steps 4 (σ, (4, [some (.ref 18), some (.int 0), some (.int 0)], [])) rfl ?_
  refine gR.forget [some (.ref 18), some (.int (xMask (fun e => xSeeD D (gn1 e) (dKd D) (dBg D) G) 0)), some (.int 0)] ⟨rfl, ⟨rfl, ⟨rfl, trivial⟩⟩⟩ ?_
  refine gR.loop (α := Nat × gS) (fun ⟨i, τ⟩ => i ≤ dN D ∧ cGrF σ τ) (fun ⟨i, τ⟩ => dN D - i) (fun ⟨i, τ⟩ => (τ, (4, [some (.ref 18), some (.int (xMask (fun e => xSeeD D (gn1 e) (dKd D) (dBg D) G) i)), some (.int (nI i))], []))) ?_ ⟨0, σ⟩ ⟨Nat.zero_le _, cGrF.rf σ⟩
  rintro ⟨i, τ⟩ ⟨hi, hF⟩ ih
  show gR _ _ _ τ (4, [some (.ref 18), some (.int (xMask (fun e => xSeeD D (gn1 e) (dKd D) (dBg D) G) i)), some (.int (nI i))], [])
  have hst := hs.keep hF.keep
  have hgt := hg.keep hF.keep
  refine gR.steps 4 (τ, (12, [some (.ref 18), some (.int (xMask (fun e => xSeeD D (gn1 e) (dKd D) (dBg D) G) i)), some (.int (nI i))], [.int (τ 27 3), .int (nI i)])) rfl ?_
  refine gR.topI (y := nI (dN D)) hst.2.2.1.1 ?_
  refine gR.ifte rfl (fun zc12 => ?_) (fun zc12 => ?_)
  · rw [gN_le (x := nI (dN D)) (y := nI i) (a := dN D) (b := i) rfl rfl (by omega) (by omega)] at zc12
    refine gR.steps 1 (τ, (57, [some (.ref 18), some (.int (xMask (fun e => xSeeD D (gn1 e) (dKd D) (dBg D) G) i)), some (.int (nI i))], [.int (xMask (fun e => xSeeD D (gn1 e) (dKd D) (dBg D) G) i)])) rfl ?_
    show gR _ _ _ τ (57, [some (.ref 18), some (.int (xMask (fun e => xSeeD D (gn1 e) (dKd D) (dBg D) G) i)), some (.int (nI i))], [.int (xMask (fun e => xSeeD D (gn1 e) (dKd D) (dBg D) G) i)])
    refine gR.ret rfl ?_
    obtain rfl : i = dN D := by omega
    exact ⟨trivial, rfl, hF.keep⟩
  · rw [gN_le (x := nI (dN D)) (y := nI i) (a := dN D) (b := i) rfl rfl (by omega) (by omega)] at zc12
    refine gR.steps 7 (τ, (26, [some (.ref 18), some (.int (xMask (fun e => xSeeD D (gn1 e) (dKd D) (dBg D) G) i)), some (.int (nI i))], [.int ((1 : Int32) <<< ((nI i) &&& 31)), .ref 27, .ref 20])) rfl ?_
    refine gR.call' rfl (s_X3_grow27 (by omega) τ D (gn1 i) ((1 : Int32) <<< (nI i &&& 31)) hst.1 hst.2.2.1 (bGone_1 (by omega))) ?_
    rintro _ υ ⟨rfl, hF2, hG⟩
    have hsu := hst.keep hF2.keep
    have hgu := hgt.keep hF2.keep
    show gR _ _ _ υ (29, [some (.ref 18), some (.int (xMask (fun e => xSeeD D (gn1 e) (dKd D) (dBg D) G) i)), some (.int (nI i))], [.int (dBareG D (gn1 i))])
    refine gR.steps 5 (υ, (38, [some (.ref 18), some (.int (xMask (fun e => xSeeD D (gn1 e) (dKd D) (dBg D) G) i)), some (.int (nI i))], [.ref 20, .ref 37])) rfl ?_
    refine gR.callp rfl (s_X7_comeOut (by omega) υ D G (gn1 i) (dKd D) (dBg D) hsu.1 hgu hG) ?_
    refine gR.ifte rfl (fun zc41 => ?_) (fun zc41 => ?_)
    · rw [bI_eq0] at zc41
      refine gR.steps 2 (υ, (4, [some (.ref 18), some (.int (xMask (fun e => xSeeD D (gn1 e) (dKd D) (dBg D) G) i)), some (.int ((nI i) + 1))], [])) rfl ?_
      refine gR.forget [some (.ref 18), some (.int (xMask (fun e => xSeeD D (gn1 e) (dKd D) (dBg D) G) (i + 1))), some (.int (nI (i + 1)))] ⟨rfl, ⟨gSomeI (mask_no (f := (fun e => xSeeD D (gn1 e) (dKd D) (dBg D) G)) zc41), ⟨gSomeI (gN_add rfl rfl), trivial⟩⟩⟩ ?_
      have hzz := ih ⟨i + 1, υ⟩ ⟨by omega, hF.tr hF2⟩ (by dsimp only; omega)
      exact hzz
    · rw [bI_eq0, Decidable.not_not] at zc41
      refine gR.steps 8 (υ, (4, [some (.ref 18), some (.int ((xMask (fun e => xSeeD D (gn1 e) (dKd D) (dBg D) G) i) ||| ((1 : Int32) <<< ((nI i) &&& 31)))), some (.int ((nI i) + 1))], [])) rfl ?_
      refine gR.forget [some (.ref 18), some (.int (xMask (fun e => xSeeD D (gn1 e) (dKd D) (dBg D) G) (i + 1))), some (.int (nI (i + 1)))] ⟨rfl, ⟨gSomeI (xMask_t (f := (fun e => xSeeD D (gn1 e) (dKd D) (dBg D) G)) zc41), ⟨gSomeI (gN_add rfl rfl), trivial⟩⟩⟩ ?_
      have hzz := ih ⟨i + 1, υ⟩ ⟨by omega, hF.tr hF2⟩ (by dsimp only; omega)
      exact hzz
def cOneF (k : Nat) (σ τ : gS) : Prop := ∀ p, p ≠ 50 + k → τ p = σ p
theorem cOneF.keep {k : Nat} {σ τ : gS} (h : cOneF k σ τ) (hk : k < 10) : cKeep σ τ := ⟨fun q a b => h q (fun z => b (by unfold cScr; omega)), fun s _ _ => by rw [h 19 (by omega)]⟩
theorem cHk_put {σ τ : gS} {D : xDat} {k v : Nat} (h : cGr σ D gn0) (hF : cOneF k σ τ) (hk : k < dNb D) (hb : dNb D ≤ 10) (hC : cCo τ (50 + k) (60 + k) (fun a m => xOn (dN D) (dK D) (dM D) (dB D) gn0 a (some k) (dKd D k) m) (xSeason (dKd D k) v)) : cHk τ D gn0 (dKd D) (xPut (dBg D) k v) := fun j hj => by
  unfold xPut
  by_cases e : j = k
  · rw [if_pos e, e]; exact hC
  · rw [if_neg e]
    exact (h j hj).fr (hF (50 + j) (by omega)) (hF (60 + j) (by omega))
theorem s_X10_beginsThatFit {d : Nat} (hd : 5 ≤ d) (σ : gS) (D : xDat) (G : xSig) (k : Nat) (hs : cSt σ D) (hg : cSg σ G) (hG : cGr σ D gn0) (hk : k < dNb D) : gC d 93 [.ref 18, .int (nI k)] σ (fun r τ => r = some (.int (dBegan D G k)) ∧ cOneF k σ τ ∧ cGr τ D gn0) := by
  obtain ⟨d, rfl⟩ : ∃ k, d = k + 1 := ⟨d - 1, by omega⟩
  refine gC.of (P := pX10_beginsThatFit) (nL := 6) (rt := (some (.int))) (lv := [some (.ref 18), some (.int (nI k)), none, none, none, none]) (by decide +kernel) rfl rfl rfl (by simp [gEnt, Value.category]) rfl ?_
  have hnb := dNb_le D hs.1.1.2.2.2.1
  have hnl := dNl_le D hs.2.1.1.2.2.2.1
  have hn8 := hs.2.2.1.2.1
  refine gR.steps 3 (σ, (5, [some (.ref 18), some (.int (nI k)), none, none, none, none], [.int (nI k), .ref 21])) rfl ?_
  refine gR.callp rfl (s_X0_kindOf (by omega) σ D k hs.1 (by omega)) ?_
  refine gR.steps 5 (σ, (17, [some (.ref 18), some (.int (nI k)), some (.int (nI (dKd D k))), none, none, none], [.int (nI k), .ref 45])) rfl ?_
  refine gR.chk (b := gIn (nI k) 10) rfl (gN_in rfl (by omega) (by omega)) ?_
  rw [gN_cl rfl (by omega)]
  refine gR.steps 5 (σ, (25, [some (.ref 18), some (.int (nI k)), some (.int (nI (dKd D k))), some (.ref (50 + k)), some (.int 0), some (.int 0)], [])) rfl ?_
  refine gR.forget [some (.ref 18), some (.int (nI k)), some (.int (nI (dKd D k))), some (.ref (50 + k)), some (.int (xMask (fun v => xSeeD D gn0 (dKd D) (xPut (dBg D) k v) G) 0)), some (.int 0)] ⟨rfl, ⟨rfl, ⟨rfl, ⟨rfl, ⟨rfl, ⟨rfl, trivial⟩⟩⟩⟩⟩⟩ ?_
  refine gR.loop (α := Nat × gS) (fun ⟨v, τ⟩ => v ≤ 12 ∧ cOneF k σ τ) (fun ⟨v, τ⟩ => 12 - v) (fun ⟨v, τ⟩ => (τ, (25, [some (.ref 18), some (.int (nI k)), some (.int (nI (dKd D k))), some (.ref (50 + k)), some (.int (xMask (fun v => xSeeD D gn0 (dKd D) (xPut (dBg D) k v) G) v)), some (.int (nI v))], []))) ?_ ⟨0, σ⟩ ⟨by omega, fun _ _ => rfl⟩
  rintro ⟨v, τ⟩ ⟨hv, hF⟩ ih
  show gR _ _ _ τ (25, [some (.ref 18), some (.int (nI k)), some (.int (nI (dKd D k))), some (.ref (50 + k)), some (.int (xMask (fun v => xSeeD D gn0 (dKd D) (xPut (dBg D) k v) G) v)), some (.int (nI v))], [])
  have hst := hs.keep (hF.keep (by omega))
  refine gR.steps 2 (τ, (29, [some (.ref 18), some (.int (nI k)), some (.int (nI (dKd D k))), some (.ref (50 + k)), some (.int (xMask (fun v => xSeeD D gn0 (dKd D) (xPut (dBg D) k v) G) v)), some (.int (nI v))], [.int 12, .int (nI v)])) rfl ?_
  refine gR.ifte rfl (fun zc29 => ?_) (fun zc29 => ?_)
  · rw [gN_le (x := 12) (y := nI v) (a := 12) (b := v) rfl rfl (by omega) (by omega)] at zc29
    refine gR.steps 4 (τ, (74, [some (.ref 18), some (.int (nI k)), some (.int (nI (dKd D k))), some (.ref (50 + k)), some (.int (xMask (fun v => xSeeD D gn0 (dKd D) (xPut (dBg D) k v) G) v)), some (.int (nI v))], [.int (nI k), .ref 21, .ref (50 + k)])) rfl ?_
    refine gR.callp rfl (s_X0_beginOf (by omega) τ D k hst.1 (by omega)) ?_
    refine gR.steps 1 (τ, (78, [some (.ref 18), some (.int (nI k)), some (.int (nI (dKd D k))), some (.ref (50 + k)), some (.int (xMask (fun v => xSeeD D gn0 (dKd D) (xPut (dBg D) k v) G) v)), some (.int (nI v))], [.int (nI (dKd D k)), .int (nI (dBg D k)), .ref (50 + k)])) rfl ?_
    refine gR.call' (gStep_callV rfl rfl (gSh_course (j := k) (by omega)) rfl) (s_X1_beginIn (by omega) τ (50 + k) (60 + k) (fun a m => xOn (dN D) (dK D) (dM D) (dB D) gn0 a (some k) (dKd D k) m) (dKd D k) (dBg D k) (Or.inr ⟨by omega, by omega, by omega⟩) (fun a ha => by rw [hF (60 + k) (by omega)]; exact (hG k hk).1 a ha) (dKd_lt hk) (dBg_lt hk)) ?_
    rintro _ υ ⟨rfl, hF2, hC⟩
    have hF3 : cOneF k σ υ := fun p hp => (hF2 p hp).trans (hF p hp)
    show gR _ _ _ υ (81, [some (.ref 18), some (.int (nI k)), some (.int (nI (dKd D k))), some (.ref (50 + k)), some (.int (xMask (fun v => xSeeD D gn0 (dKd D) (xPut (dBg D) k v) G) v)), some (.int (nI v))], [])
    refine gR.steps 1 (υ, (83, [some (.ref 18), some (.int (nI k)), some (.int (nI (dKd D k))), some (.ref (50 + k)), some (.int (xMask (fun v => xSeeD D gn0 (dKd D) (xPut (dBg D) k v) G) v)), some (.int (nI v))], [.int (xMask (fun v => xSeeD D gn0 (dKd D) (xPut (dBg D) k v) G) v)])) rfl ?_
    show gR _ _ _ υ (83, [some (.ref 18), some (.int (nI k)), some (.int (nI (dKd D k))), some (.ref (50 + k)), some (.int (xMask (fun v => xSeeD D gn0 (dKd D) (xPut (dBg D) k v) G) v)), some (.int (nI v))], [.int (xMask (fun v => xSeeD D gn0 (dKd D) (xPut (dBg D) k v) G) v)])
    refine gR.ret rfl ?_
    have hv12 : v = 12 := by omega
    refine ⟨trivial, ?_, hF3, fun j hj => ?_⟩
    · rw [hv12]; rfl
    · by_cases e : j = k
      · rw [e]; exact hC
      · exact (hG j hj).fr (hF3 (50 + j) (by omega)) (hF3 (60 + j) (by omega))
  · rw [gN_le (x := 12) (y := nI v) (a := 12) (b := v) rfl rfl (by omega) (by omega)] at zc29
    refine gR.steps 3 (τ, (36, [some (.ref 18), some (.int (nI k)), some (.int (nI (dKd D k))), some (.ref (50 + k)), some (.int (xMask (fun v => xSeeD D gn0 (dKd D) (xPut (dBg D) k v) G) v)), some (.int (nI v))], [.int (nI (dKd D k)), .int (nI v), .ref (50 + k)])) rfl ?_
    refine gR.call' (gStep_callV rfl rfl (gSh_course (j := k) (by omega)) rfl) (s_X1_beginIn (by omega) τ (50 + k) (60 + k) (fun a m => xOn (dN D) (dK D) (dM D) (dB D) gn0 a (some k) (dKd D k) m) (dKd D k) v (Or.inr ⟨by omega, by omega, by omega⟩) (fun a ha => by rw [hF (60 + k) (by omega)]; exact (hG k hk).1 a ha) (dKd_lt hk) (by omega)) ?_
    rintro _ υ ⟨rfl, hF2, hC⟩
    have hF3 : cOneF k σ υ := fun p hp => (hF2 p hp).trans (hF p hp)
    have hsu := hs.keep (hF3.keep (by omega))
    have hgu := hg.keep (hF3.keep (by omega))
    have hH := cHk_put hG hF3 hk hnb hC
    show gR _ _ _ υ (39, [some (.ref 18), some (.int (nI k)), some (.int (nI (dKd D k))), some (.ref (50 + k)), some (.int (xMask (fun v => xSeeD D gn0 (dKd D) (xPut (dBg D) k v) G) v)), some (.int (nI v))], [])
    refine gR.steps 4 (υ, (47, [some (.ref 18), some (.int (nI k)), some (.int (nI (dKd D k))), some (.ref (50 + k)), some (.int (xMask (fun v => xSeeD D gn0 (dKd D) (xPut (dBg D) k v) G) v)), some (.int (nI v))], [.ref 20, .ref 37])) rfl ?_
    refine gR.callp rfl (s_X7_comeOut (by omega) υ D G gn0 (dKd D) (xPut (dBg D) k v) hsu.1 hgu hH) ?_
    refine gR.ifte rfl (fun zc50 => ?_) (fun zc50 => ?_)
    · rw [bI_eq0] at zc50
      refine gR.steps 2 (υ, (25, [some (.ref 18), some (.int (nI k)), some (.int (nI (dKd D k))), some (.ref (50 + k)), some (.int (xMask (fun v => xSeeD D gn0 (dKd D) (xPut (dBg D) k v) G) v)), some (.int ((nI v) + 1))], [])) rfl ?_
      refine gR.forget [some (.ref 18), some (.int (nI k)), some (.int (nI (dKd D k))), some (.ref (50 + k)), some (.int (xMask (fun v => xSeeD D gn0 (dKd D) (xPut (dBg D) k v) G) (v + 1))), some (.int (nI (v + 1)))] ⟨rfl, ⟨rfl, ⟨rfl, ⟨rfl, ⟨gSomeI (mask_no (f := (fun v => xSeeD D gn0 (dKd D) (xPut (dBg D) k v) G)) zc50), ⟨gSomeI (gN_add rfl rfl), trivial⟩⟩⟩⟩⟩⟩ ?_
      have hzz := ih ⟨v + 1, υ⟩ ⟨by omega, hF3⟩ (by dsimp only; omega)
      exact hzz
    · rw [bI_eq0, Decidable.not_not] at zc50
      refine gR.steps 8 (υ, (25, [some (.ref 18), some (.int (nI k)), some (.int (nI (dKd D k))), some (.ref (50 + k)), some (.int ((xMask (fun v => xSeeD D gn0 (dKd D) (xPut (dBg D) k v) G) v) ||| ((1 : Int32) <<< ((nI v) &&& 31)))), some (.int ((nI v) + 1))], [])) rfl ?_
      refine gR.forget [some (.ref 18), some (.int (nI k)), some (.int (nI (dKd D k))), some (.ref (50 + k)), some (.int (xMask (fun v => xSeeD D gn0 (dKd D) (xPut (dBg D) k v) G) (v + 1))), some (.int (nI (v + 1)))] ⟨rfl, ⟨rfl, ⟨rfl, ⟨rfl, ⟨gSomeI (xMask_t (f := (fun v => xSeeD D gn0 (dKd D) (xPut (dBg D) k v) G)) zc50), ⟨gSomeI (gN_add rfl rfl), trivial⟩⟩⟩⟩⟩⟩ ?_
      have hzz := ih ⟨v + 1, υ⟩ ⟨by omega, hF3⟩ (by dsimp only; omega)
      exact hzz
theorem s_X10_kindsThatFit {d : Nat} (hd : 5 ≤ d) (σ : gS) (D : xDat) (G : xSig) (k : Nat) (hs : cSt σ D) (hg : cSg σ G) (hG : cGr σ D gn0) (hk : k < dNb D) : gC d 94 [.ref 18, .int (nI k)] σ (fun r τ => r = some (.int (dSort D G k)) ∧ cGrF σ τ) := by
  obtain ⟨d, rfl⟩ : ∃ k, d = k + 1 := ⟨d - 1, by omega⟩
  refine gC.of (P := pX10_kindsThatFit) (nL := 5) (rt := (some (.int))) (lv := [some (.ref 18), some (.int (nI k)), none, none, none]) (by decide +kernel) rfl rfl rfl (by simp [gEnt, Value.category]) rfl ?_
  have hnb := dNb_le D hs.1.1.2.2.2.1
  have hnl := dNl_le D hs.2.1.1.2.2.2.1
  have hn8 := hs.2.2.1.2.1
  refine gR.steps 3 (σ, (5, [some (.ref 18), some (.int (nI k)), none, none, none], [.int (nI k), .ref 21])) rfl ?_
  refine gR.callp rfl (s_X0_beginOf (by omega) σ D k hs.1 (by omega)) ?_
  refine gR.steps 5 (σ, (14, [some (.ref 18), some (.int (nI k)), some (.int (nI (dBg D k))), some (.int 0), some (.int 0)], [])) rfl ?_
  refine gR.forget [some (.ref 18), some (.int (nI k)), some (.int (nI (dBg D k))), some (.int (xMask (fun v => xSeeD D gn0 (xPut (dKd D) k v) (dBg D) G) 0)), some (.int 0)] ⟨rfl, ⟨rfl, ⟨rfl, ⟨rfl, ⟨rfl, trivial⟩⟩⟩⟩⟩ ?_
  refine gR.loop (α := Nat × gS) (fun ⟨v, τ⟩ => v ≤ 3 ∧ (∀ p, p ≠ 50 + k → p ≠ 60 + k → τ p = σ p)) (fun ⟨v, τ⟩ => 3 - v) (fun ⟨v, τ⟩ => (τ, (14, [some (.ref 18), some (.int (nI k)), some (.int (nI (dBg D k))), some (.int (xMask (fun v => xSeeD D gn0 (xPut (dKd D) k v) (dBg D) G) v)), some (.int (nI v))], []))) ?_ ⟨0, σ⟩ ⟨by omega, fun _ _ _ => rfl⟩
  rintro ⟨v, τ⟩ ⟨hv, hF⟩ ih
  show gR _ _ _ τ (14, [some (.ref 18), some (.int (nI k)), some (.int (nI (dBg D k))), some (.int (xMask (fun v => xSeeD D gn0 (xPut (dKd D) k v) (dBg D) G) v)), some (.int (nI v))], [])
  have hGF : cGrF σ τ := fun p hp => hF p (by omega) (by omega)
  have hst := hs.keep hGF.keep
  refine gR.steps 2 (τ, (17, [some (.ref 18), some (.int (nI k)), some (.int (nI (dBg D k))), some (.int (xMask (fun v => xSeeD D gn0 (xPut (dKd D) k v) (dBg D) G) v)), some (.int (nI v))], [.int 3, .int (nI v)])) rfl ?_
  refine gR.ifte rfl (fun zc17 => ?_) (fun zc17 => ?_)
  · rw [gN_le (x := 3) (y := nI v) (a := 3) (b := v) rfl rfl (by omega) (by omega)] at zc17
    refine gR.steps 1 (τ, (69, [some (.ref 18), some (.int (nI k)), some (.int (nI (dBg D k))), some (.int (xMask (fun v => xSeeD D gn0 (xPut (dKd D) k v) (dBg D) G) v)), some (.int (nI v))], [.int (xMask (fun v => xSeeD D gn0 (xPut (dKd D) k v) (dBg D) G) v)])) rfl ?_
    show gR _ _ _ τ (69, [some (.ref 18), some (.int (nI k)), some (.int (nI (dBg D k))), some (.int (xMask (fun v => xSeeD D gn0 (xPut (dKd D) k v) (dBg D) G) v)), some (.int (nI v))], [.int (xMask (fun v => xSeeD D gn0 (xPut (dKd D) k v) (dBg D) G) v)])
    refine gR.ret rfl ?_
    have hv3 : v = 3 := by omega
    refine ⟨trivial, ?_, hGF⟩
    rw [hv3]; rfl
  · rw [gN_le (x := 3) (y := nI v) (a := 3) (b := v) rfl rfl (by omega) (by omega)] at zc17
    refine gR.steps 4 (τ, (28, [some (.ref 18), some (.int (nI k)), some (.int (nI (dBg D k))), some (.int (xMask (fun v => xSeeD D gn0 (xPut (dKd D) k v) (dBg D) G) v)), some (.int (nI v))], [.int (nI k), .ref 45])) rfl ?_
    refine gR.chk (b := gIn (nI k) 10) rfl (gN_in rfl (by omega) (by omega)) ?_
    rw [gN_cl rfl (by omega)]
    refine gR.steps 6 (τ, (38, [some (.ref 18), some (.int (nI k)), some (.int (nI (dBg D k))), some (.int (xMask (fun v => xSeeD D gn0 (xPut (dKd D) k v) (dBg D) G) v)), some (.int (nI v))], [.int (nI (dBg D k)), .int (nI v), .int (nI k), .int 0, .ref 27, .ref (50 + k)])) rfl ?_
    refine gR.call' (gStep_callV rfl rfl (gSh_course (j := k) (by omega)) rfl) (s_X1_follow27 (by omega) τ (50 + k) (60 + k) (dN D) (dK D) (dM D) (dB D) gn0 0 (some k) v (dBg D k) (Or.inr ⟨by omega, by omega, by omega⟩) hst.2.2.1 bGone_0 (fun v hv => by cases hv; omega) (by omega) (dBg_lt hk)) ?_
    rintro _ υ ⟨rfl, hF2, hC⟩
    have hF3 : ∀ p, p ≠ 50 + k → p ≠ 60 + k → υ p = σ p := fun p a b => (hF2 p a b).trans (hF p a b)
    have hGF3 : cGrF σ υ := fun p hp => hF3 p (by omega) (by omega)
    have hsu := hs.keep hGF3.keep
    have hgu := hg.keep hGF3.keep
    have hH : cHk υ D gn0 (xPut (dKd D) k v) (dBg D) := fun j hj => by
      unfold xPut
      by_cases e : j = k
      · rw [if_pos e, e]; exact hC
      · rw [if_neg e]; exact (hG j hj).fr (hF3 (50 + j) (by omega) (by omega)) (hF3 (60 + j) (by omega) (by omega))
    show gR _ _ _ υ (41, [some (.ref 18), some (.int (nI k)), some (.int (nI (dBg D k))), some (.int (xMask (fun v => xSeeD D gn0 (xPut (dKd D) k v) (dBg D) G) v)), some (.int (nI v))], [])
    refine gR.steps 4 (υ, (49, [some (.ref 18), some (.int (nI k)), some (.int (nI (dBg D k))), some (.int (xMask (fun v => xSeeD D gn0 (xPut (dKd D) k v) (dBg D) G) v)), some (.int (nI v))], [.ref 20, .ref 37])) rfl ?_
    refine gR.callp rfl (s_X7_comeOut (by omega) υ D G gn0 (xPut (dKd D) k v) (dBg D) hsu.1 hgu hH) ?_
    refine gR.ifte rfl (fun zc52 => ?_) (fun zc52 => ?_)
    · rw [bI_eq0] at zc52
      refine gR.steps 2 (υ, (14, [some (.ref 18), some (.int (nI k)), some (.int (nI (dBg D k))), some (.int (xMask (fun v => xSeeD D gn0 (xPut (dKd D) k v) (dBg D) G) v)), some (.int ((nI v) + 1))], [])) rfl ?_
      refine gR.forget [some (.ref 18), some (.int (nI k)), some (.int (nI (dBg D k))), some (.int (xMask (fun v => xSeeD D gn0 (xPut (dKd D) k v) (dBg D) G) (v + 1))), some (.int (nI (v + 1)))] ⟨rfl, ⟨rfl, ⟨rfl, ⟨gSomeI (mask_no (f := (fun v => xSeeD D gn0 (xPut (dKd D) k v) (dBg D) G)) zc52), ⟨gSomeI (gN_add rfl rfl), trivial⟩⟩⟩⟩⟩ ?_
      have hzz := ih ⟨v + 1, υ⟩ ⟨by omega, hF3⟩ (by dsimp only; omega)
      exact hzz
    · rw [bI_eq0, Decidable.not_not] at zc52
      refine gR.steps 8 (υ, (14, [some (.ref 18), some (.int (nI k)), some (.int (nI (dBg D k))), some (.int ((xMask (fun v => xSeeD D gn0 (xPut (dKd D) k v) (dBg D) G) v) ||| ((1 : Int32) <<< ((nI v) &&& 31)))), some (.int ((nI v) + 1))], [])) rfl ?_
      refine gR.forget [some (.ref 18), some (.int (nI k)), some (.int (nI (dBg D k))), some (.int (xMask (fun v => xSeeD D gn0 (xPut (dKd D) k v) (dBg D) G) (v + 1))), some (.int (nI (v + 1)))] ⟨rfl, ⟨rfl, ⟨rfl, ⟨gSomeI (xMask_t (f := (fun v => xSeeD D gn0 (xPut (dKd D) k v) (dBg D) G)) zc52), ⟨gSomeI (gN_add rfl rfl), trivial⟩⟩⟩⟩⟩ ?_
      have hzz := ih ⟨v + 1, υ⟩ ⟨by omega, hF3⟩ (by dsimp only; omega)
      exact hzz
theorem s_X10_was {d : Nat} (hd : 6 ≤ d) (σ : gS) (D : xDat) (G : xSig) (k w : Int32) (hs : cSt σ D) (hg : cSg σ G) : gC d 67 [.ref 18, .int k, .int w] σ (fun r τ => r = some (.int (aWas D G k w)) ∧ cKeep σ τ) := by
  obtain ⟨d, rfl⟩ : ∃ k, d = k + 1 := ⟨d - 1, by omega⟩
  refine gC.of (P := pX10_was) (nL := 3) (rt := (some (.int))) (lv := [some (.ref 18), some (.int k), some (.int w)]) (by decide +kernel) rfl rfl rfl (by simp [gEnt, Value.category]) rfl ?_
  have hnb := dNb_le D hs.1.1.2.2.2.1
  have hnl := dNl_le D hs.2.1.1.2.2.2.1
  have hn8 := hs.2.2.1.2.1
  refine gR.steps 3 (σ, (5, [some (.ref 18), some (.int k), some (.int w)], [.int k, .ref 21])) rfl ?_
  refine gR.callp rfl (s_X0_has (by omega) σ D k hs.1) ?_
  refine gR.ifte rfl (fun zc8 => ?_) (fun zc8 => ?_)
  · rw [bI_eq0] at zc8
    refine gR.steps 1 (σ, (22, [some (.ref 18), some (.int k), some (.int w)], [.int (-2)])) rfl ?_
    show gR _ _ _ σ (22, [some (.ref 18), some (.int k), some (.int w)], [.int (-2)])
    refine gR.ret rfl ?_
    exact ⟨trivial, by rw [show aWas D G k w = -2 from if_neg (by omega)], cKeep.rf σ⟩
  · rw [bI_eq0, Decidable.not_not] at zc8
    obtain ⟨kk, hkk, rfl⟩ := gN_of (x := k) (n := dNb D) (by omega) (by omega) (by omega)
    refine gR.steps 3 (σ, (14, [some (.ref 18), some (.int (nI kk)), some (.int w)], [.int 1, .int 0, .int w])) rfl ?_
    refine gR.callp rfl (s_X10_withinI (by omega) σ w 0 1 0 1 (by decide) (by decide)) ?_
    refine gR.ifte rfl (fun zc17 => ?_) (fun zc17 => ?_)
    · rw [bI_ne0] at zc17
      obtain ⟨ww, hww, rfl⟩ := gN_of (x := w) (n := 2) (by omega) (by omega) (by omega)
      refine gR.steps 5 (σ, (32, [some (.ref 18), some (.int (nI kk)), some (.int (nI ww))], [.int 0, .ref 27, .ref 20])) rfl ?_
      refine gR.call' rfl (s_X3_grow27 (by omega) σ D gn0 0 hs.1 hs.2.2.1 bGone_0) ?_
      rintro _ τ ⟨rfl, hF, hG⟩
      have hst := hs.keep hF.keep
      have hgt := hg.keep hF.keep
      show gR _ _ _ τ (35, [some (.ref 18), some (.int (nI kk)), some (.int (nI ww))], [.int (dBareG D gn0)])
      refine gR.steps 2 (τ, (37, [some (.ref 18), some (.int (nI kk)), some (.int (nI ww))], [.int (nI ww)])) rfl ?_
      refine gR.ifte rfl (fun zc37 => ?_) (fun zc37 => ?_)
      · rw [gN_eq (x := nI ww) (y := 0) (a := ww) (b := 0) rfl rfl (by omega) (by omega)] at zc37
        refine gR.steps 2 (τ, (50, [some (.ref 18), some (.int (nI kk)), some (.int (nI ww))], [.int (nI kk), .ref 18])) rfl ?_
        refine gR.call' rfl (s_X10_kindsThatFit (by omega) τ D G kk hst hgt hG hkk) ?_
        rintro _ υ ⟨rfl, hF2⟩
        have hK := hF.keep.tr hF2.keep
        show gR _ _ _ υ (53, [some (.ref 18), some (.int (nI kk)), some (.int (nI ww))], [.int (dSort D G kk)])
        show gR _ _ _ υ (53, [some (.ref 18), some (.int (nI kk)), some (.int (nI ww))], [.int (dSort D G kk)])
        refine gR.ret rfl ?_
        exact ⟨trivial, by rw [show aWas D G (nI kk) (nI ww) = _ from if_pos ⟨zc8, zc17⟩, if_neg (show ¬ nI ww = 0 from gN_ne (a := ww) (b := 0) rfl rfl (by omega) (by omega) (by omega)), nI_clamp (by omega)], hK⟩
      · rw [gN_eq (x := nI ww) (y := 0) (a := ww) (b := 0) rfl rfl (by omega) (by omega)] at zc37
        refine gR.steps 2 (τ, (42, [some (.ref 18), some (.int (nI kk)), some (.int (nI ww))], [.int (nI kk), .ref 18])) rfl ?_
        refine gR.call' rfl (s_X10_beginsThatFit (by omega) τ D G kk hst hgt hG hkk) ?_
        rintro _ υ ⟨rfl, hF2, _⟩
        have hK := hF.keep.tr (hF2.keep (by omega))
        show gR _ _ _ υ (45, [some (.ref 18), some (.int (nI kk)), some (.int (nI ww))], [.int (dBegan D G kk)])
        refine gR.steps 1 (υ, (53, [some (.ref 18), some (.int (nI kk)), some (.int (nI ww))], [.int (dBegan D G kk)])) rfl ?_
        show gR _ _ _ υ (53, [some (.ref 18), some (.int (nI kk)), some (.int (nI ww))], [.int (dBegan D G kk)])
        refine gR.ret rfl ?_
        exact ⟨trivial, by rw [show aWas D G (nI kk) (nI ww) = _ from if_pos ⟨zc8, zc17⟩, if_pos (show nI ww = 0 by rw [show ww = 0 by omega]; rfl), nI_clamp (by omega)], hK⟩
    · rw [bI_ne0] at zc17
      refine gR.steps 1 (σ, (22, [some (.ref 18), some (.int (nI kk)), some (.int w)], [.int (-2)])) rfl ?_
      show gR _ _ _ σ (22, [some (.ref 18), some (.int (nI kk)), some (.int w)], [.int (-2)])
      refine gR.ret rfl ?_
      exact ⟨trivial, by rw [show aWas D G (nI kk) w = -2 from if_neg (by omega)], cKeep.rf σ⟩
