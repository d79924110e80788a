theorem pop_le (f : Nat → Bool) : xPop (xMask f 24) ≤ 24 := by
  rw [pop_mask f (by omega)]
  have := xSum_le (f := fun m => if f m = true then 1 else 0) (b := 1) (n := 24) (fun i _ => by split <;> omega)
  omega
theorem sum_one (x : Nat) (q : Prop) [Decidable q] : (decide (x = 0) && !decide q) = decide (x + (if q then 1 else 0) = 0) := by
  by_cases h : q
  · rw [if_pos h, decide_eq_true h, decide_eq_false (show ¬ x + 1 = 0 by omega)]; simp
  · rw [if_neg h, decide_eq_false h, Nat.add_zero]; simp
theorem yelP_eq (D : xDat) (c m : Nat) : dYelP D c m = dYelG D gn0 m + (if cStt (fun a m => xOn (dN D) (dK D) (dM D) (dB D) gn0 a none (c / 12) m) (xSeason (c / 12) (c % 12)) m = 1 then 1 else 0) := by
  unfold dYelP
  simp only [xSum]
  have e1 : xSum (fun k => if dSP D c m k = 1 then xPut (dSp D) (dNb D) 1 k else 0) (dNb D) = dYelG D gn0 m := xSum_congr (fun k hk => by
    have h1 : dSP D c m k = dS D gn0 m k := by
      unfold dSP dS xS xPut xWho
      rw [if_neg (show ¬ k = dNb D by omega), if_neg (show ¬ k = dNb D by omega), if_neg (show ¬ (true = true ∧ k + 1 = dNb D + 1) by omega), if_neg (show ¬ (false = true ∧ k + 1 = dNb D) from fun z => absurd z.1 (by decide))]
    rw [h1]
    unfold xPut
    rw [if_neg (show ¬ k = dNb D by omega)])
  rw [e1]
  congr 1
  have h2 : dSP D c m (dNb D) = cStt (fun a m => xOn (dN D) (dK D) (dM D) (dB D) gn0 a none (c / 12) m) (xSeason (c / 12) (c % 12)) m := by
    unfold dSP xS xPut xWho
    rw [if_pos rfl, if_pos rfl, if_pos ⟨rfl, rfl⟩]; rfl
  rw [h2]
  unfold xPut
  rw [if_pos rfl]
theorem bareP_eq (D : xDat) (c : Nat) : dBareG D gn0 &&& (xMask (fun m => decide (cStt (fun a m => xOn (dN D) (dK D) (dM D) (dB D) gn0 a none (c / 12) m) (xSeason (c / 12) (c % 12)) m = 1)) 24 ^^^ -1) = dBareP D c := by
  unfold dBareG dBareP
  rw [xMask_sub (by omega)]
  exact xMask_congr (fun m _ => by rw [yelP_eq]; exact sum_one _ _)
def cLnF (σ τ : gS) : Prop := ∀ p, p ≠ 35 → p ≠ 36 → τ p = σ p
theorem cLnF.rf (σ : gS) : cLnF σ σ := fun _ _ _ => rfl
theorem cLnF.tr {σ τ υ : gS} (h : cLnF σ τ) (k : cLnF τ υ) : cLnF σ υ := fun p a b => (k p a b).trans (h p a b)
theorem cLnF.keep {σ τ : gS} (h : cLnF σ τ) : cKeep σ τ := ⟨fun q a b => h q (fun z => b (by unfold cScr; omega)) (fun z => b (by unfold cScr; omega)), fun s _ _ => by rw [h 19 (by decide) (by decide)]⟩
theorem s_X10_bareIfPlanted {d : Nat} (hd : 5 ≤ d) (σ : gS) (D : xDat) (c : Nat) (hs : cSt σ D) (hc : c < 36) : gC d 88 [.ref 18, .int (dBareG D gn0), .int (nI (c / 12)), .int (nI (c % 12))] σ (fun r τ => r = some (.int (nI (xPop (dBareP D c)))) ∧ cLnF σ τ) := by
  obtain ⟨d, rfl⟩ : ∃ k, d = k + 1 := ⟨d - 1, by omega⟩
  refine gC.of (P := pX10_bareIfPlanted) (nL := 4) (rt := (some (.int))) (lv := [some (.ref 18), some (.int (dBareG D gn0)), some (.int (nI (c / 12))), some (.int (nI (c % 12)))]) (by decide +kernel) rfl rfl rfl (by simp [gEnt, Value.category]) rfl ?_
  refine gR.steps 8 (σ, (12, [some (.ref 18), some (.int (dBareG D gn0)), some (.int (nI (c / 12))), some (.int (nI (c % 12)))], [.int (nI (c % 12)), .int (nI (c / 12)), .int (-1), .int 0, .ref 27, .ref 35])) rfl ?_
  refine gR.call' rfl (s_X1_follow27 (by omega) σ 35 36 (dN D) (dK D) (dM D) (dB D) gn0 0 none (c / 12) (c % 12) (Or.inl ⟨rfl, rfl⟩) hs.2.2.1 bGone_0 (fun v hv => by cases hv) (by omega) (by omega)) ?_
  rintro _ τ ⟨rfl, hF, hC⟩
  show gR _ _ _ τ (15, [some (.ref 18), some (.int (dBareG D gn0)), some (.int (nI (c / 12))), some (.int (nI (c % 12)))], [])
  refine gR.steps 7 (τ, (26, [some (.ref 18), some (.int (dBareG D gn0)), some (.int (nI (c / 12))), some (.int (nI (c % 12)))], [.int ((dBareG D gn0) &&& ((τ 35 2) ^^^ (-1)))])) rfl ?_
  refine gR.callp (x := .int (nI (xPop (dBareP D c)))) rfl ((s_J6_bitCount_0f7a4 (by omega) τ (dBareG D gn0 &&& (τ 35 2 ^^^ -1))).mono (fun r υ h => ⟨h.1.trans (gSomeI (congrArg nI (by rw [hC.2.2.1, bareP_eq]))), h.2⟩)) ?_
  show gR _ _ _ τ (29, [some (.ref 18), some (.int (dBareG D gn0)), some (.int (nI (c / 12))), some (.int (nI (c % 12)))], [.int (nI (xPop (dBareP D c)))])
  refine gR.ret rfl ?_
  exact ⟨trivial, rfl, hF⟩
theorem xLow_s {f : Nat → Nat} (h : f 0 ≤ 24) : ∀ n, xLow f (0, 25) (n + 1) = xLow f (-1, 99) (n + 1)
  | 0 => by
    have e1 : xLow f (0, 25) 1 = (nI 0, nI (f 0)) := if_pos ((gN_lt (x := nI (f 0)) (y := 25) (a := f 0) (b := 25) rfl rfl (by omega) (by omega)).mpr (by omega))
    have e2 : xLow f (-1, 99) 1 = (nI 0, nI (f 0)) := if_pos ((gN_lt (x := nI (f 0)) (y := 99) (a := f 0) (b := 99) rfl rfl (by omega) (by omega)).mpr (by omega))
    exact e1.trans e2.symm
  | n + 1 => by
    have ih := xLow_s h n
    show (if nI (f (n + 1)) < (xLow f (0, 25) (n + 1)).2 then (nI (n + 1), nI (f (n + 1))) else xLow f (0, 25) (n + 1)) = _
    rw [ih]; rfl
theorem dPlant_s (D : xDat) : dPlant D = xLow (fun c => xPop (dBareP D c)) (0, 25) 36 := by
  unfold dPlant
  exact (xLow_s (f := fun c => xPop (dBareP D c)) (show xPop (dBareP D 0) ≤ 24 from pop_le (fun m => decide (dYelP D 0 m = 0))) 35).symm
theorem s_X10_plant {d : Nat} (hd : 6 ≤ d) (σ : gS) (D : xDat) (w : Int32) (hs : cSt σ D) : gC d 60 [.ref 18, .int w] σ (fun r τ => r = some (.int (aPlant D w)) ∧ cKeep σ τ) := by
  obtain ⟨d, rfl⟩ : ∃ k, d = k + 1 := ⟨d - 1, by omega⟩
  refine gC.of (P := pX10_plant) (nL := 7) (rt := (some (.int))) (lv := [some (.ref 18), some (.int w), none, none, none, none, none]) (by decide +kernel) rfl rfl rfl (by simp [gEnt, Value.category]) rfl ?_
  have hnb := dNb_le D hs.1.1.2.2.2.1
  have hnl := dNl_le D hs.2.1.1.2.2.2.1
  have hn8 := hs.2.2.1.2.1
  refine gR.steps 3 (σ, (3, [some (.ref 18), some (.int w), none, none, none, none, none], [.int 2, .int 0, .int w])) rfl ?_
  refine gR.callp rfl (s_X10_withinI (by omega) σ w 0 2 0 2 (by decide) (by decide)) ?_
  refine gR.ifte rfl (fun zc6 => ?_) (fun zc6 => ?_)
  · rw [bI_ne0] at zc6
    obtain ⟨ww, hww, rfl⟩ := gN_of (x := w) (n := 3) (by omega) (by omega) (by omega)
    refine gR.steps 5 (σ, (21, [some (.ref 18), some (.int (nI ww)), none, none, none, none, none], [.int 0, .ref 27, .ref 20])) rfl ?_
    refine gR.call' rfl (s_X3_grow27 (by omega) σ D gn0 0 hs.1 hs.2.2.1 bGone_0) ?_
    rintro _ τ0 ⟨rfl, hF0, _⟩
    have hst0 := hs.keep hF0.keep
    show gR _ _ _ τ0 (24, [some (.ref 18), some (.int (nI ww)), none, none, none, none, none], [.int (dBareG D gn0)])
    refine gR.steps 7 (τ0, (34, [some (.ref 18), some (.int (nI ww)), some (.int (dBareG D gn0)), some (.int 0), some (.int 25), some (.int 0), none], [])) rfl ?_
    refine gR.forget [some (.ref 18), some (.int (nI ww)), some (.int (dBareG D gn0)), some (.int (xLow (fun c => xPop (dBareP D c)) (0, 25) 0).1), some (.int (xLow (fun c => xPop (dBareP D c)) (0, 25) 0).2), some (.int 0), none] ⟨rfl, ⟨rfl, ⟨rfl, ⟨rfl, ⟨rfl, ⟨rfl, trivial⟩⟩⟩⟩⟩⟩ ?_
    refine gR.loop (α := Nat × gS) (fun ⟨c, τ⟩ => c ≤ 36 ∧ cLnF τ0 τ) (fun ⟨c, τ⟩ => 36 - c) (fun ⟨c, τ⟩ => (τ, (34, [some (.ref 18), some (.int (nI ww)), some (.int (dBareG D gn0)), some (.int ((xLow (fun c => xPop (dBareP D c)) (0, 25) c).1)), some (.int ((xLow (fun c => xPop (dBareP D c)) (0, 25) c).2)), some (.int (nI c)), none], []))) ?_ ⟨0, τ0⟩ ⟨by omega, cLnF.rf τ0⟩
    rintro ⟨c, τ⟩ ⟨hc, hF⟩ ih
    show gR _ _ _ τ (34, [some (.ref 18), some (.int (nI ww)), some (.int (dBareG D gn0)), some (.int ((xLow (fun c => xPop (dBareP D c)) (0, 25) c).1)), some (.int ((xLow (fun c => xPop (dBareP D c)) (0, 25) c).2)), some (.int (nI c)), none], [])
    have hst := hst0.keep hF.keep
    refine gR.steps 2 (τ, (38, [some (.ref 18), some (.int (nI ww)), some (.int (dBareG D gn0)), some (.int ((xLow (fun c => xPop (dBareP D c)) (0, 25) c).1)), some (.int ((xLow (fun c => xPop (dBareP D c)) (0, 25) c).2)), some (.int (nI c)), none], [.int 36, .int (nI c)])) rfl ?_
    refine gR.ifte rfl (fun zc38 => ?_) (fun zc38 => ?_)
    · rw [gN_le (x := 36) (y := nI c) (a := 36) (b := c) rfl rfl (by omega) (by omega)] at zc38
      refine gR.steps 2 (τ, (80, [some (.ref 18), some (.int (nI ww)), some (.int (dBareG D gn0)), some (.int ((xLow (fun c => xPop (dBareP D c)) (0, 25) c).1)), some (.int ((xLow (fun c => xPop (dBareP D c)) (0, 25) c).2)), some (.int (nI c)), none], [.int 2, .int (nI ww)])) rfl ?_
      refine gR.ifte rfl (fun zc80 => ?_) (fun zc80 => ?_)
      · rw [gN_eq (x := nI ww) (y := 2) (a := ww) (b := 2) rfl rfl (by omega) (by omega)] at zc80
        refine gR.steps 1 (τ, (87, [some (.ref 18), some (.int (nI ww)), some (.int (dBareG D gn0)), some (.int ((xLow (fun c => xPop (dBareP D c)) (0, 25) c).1)), some (.int ((xLow (fun c => xPop (dBareP D c)) (0, 25) c).2)), some (.int (nI c)), none], [.int (nI ww)])) rfl ?_
        refine gR.ifte rfl (fun zc87 => ?_) (fun zc87 => ?_)
        · rw [gN_eq (x := nI ww) (y := 0) (a := ww) (b := 0) rfl rfl (by omega) (by omega)] at zc87
          refine gR.steps 2 (τ, (100, [some (.ref 18), some (.int (nI ww)), some (.int (dBareG D gn0)), some (.int ((xLow (fun c => xPop (dBareP D c)) (0, 25) c).1)), some (.int ((xLow (fun c => xPop (dBareP D c)) (0, 25) c).2)), some (.int (nI c)), none], [.int 12, .int ((xLow (fun c => xPop (dBareP D c)) (0, 25) c).1)])) rfl ?_
          refine gR.brT (p := ¬ (12 : Int32) = 0) rfl (by decide) ?_
          show gR _ _ _ τ (101, [some (.ref 18), some (.int (nI ww)), some (.int (dBareG D gn0)), some (.int ((xLow (fun c => xPop (dBareP D c)) (0, 25) c).1)), some (.int ((xLow (fun c => xPop (dBareP D c)) (0, 25) c).2)), some (.int (nI c)), none], [.int (((xLow (fun c => xPop (dBareP D c)) (0, 25) c).1) - ((xLow (fun c => xPop (dBareP D c)) (0, 25) c).1) / 12 * 12)])
          show gR _ _ _ τ (101, [some (.ref 18), some (.int (nI ww)), some (.int (dBareG D gn0)), some (.int ((xLow (fun c => xPop (dBareP D c)) (0, 25) c).1)), some (.int ((xLow (fun c => xPop (dBareP D c)) (0, 25) c).2)), some (.int (nI c)), none], [.int (((xLow (fun c => xPop (dBareP D c)) (0, 25) c).1) - ((xLow (fun c => xPop (dBareP D c)) (0, 25) c).1) / 12 * 12)])
          refine gR.ret rfl ?_
          have hc36 : c = 36 := by omega
          refine ⟨trivial, ?_, hF0.keep.tr hF.keep⟩
          rw [hc36, show aPlant D (nI ww) = _ from if_pos zc6, xPick3_n hww, if_neg (show ¬ ww = 0 by omega), if_pos (show ww = 1 by omega), dPlant_s]
        · rw [gN_eq (x := nI ww) (y := 0) (a := ww) (b := 0) rfl rfl (by omega) (by omega)] at zc87
          refine gR.steps 2 (τ, (93, [some (.ref 18), some (.int (nI ww)), some (.int (dBareG D gn0)), some (.int ((xLow (fun c => xPop (dBareP D c)) (0, 25) c).1)), some (.int ((xLow (fun c => xPop (dBareP D c)) (0, 25) c).2)), some (.int (nI c)), none], [.int 12, .int ((xLow (fun c => xPop (dBareP D c)) (0, 25) c).1)])) rfl ?_
          refine gR.brT (p := ¬ (12 : Int32) = 0) rfl (by decide) ?_
          show gR _ _ _ τ (94, [some (.ref 18), some (.int (nI ww)), some (.int (dBareG D gn0)), some (.int ((xLow (fun c => xPop (dBareP D c)) (0, 25) c).1)), some (.int ((xLow (fun c => xPop (dBareP D c)) (0, 25) c).2)), some (.int (nI c)), none], [.int (((xLow (fun c => xPop (dBareP D c)) (0, 25) c).1) / 12)])
          refine gR.steps 1 (τ, (101, [some (.ref 18), some (.int (nI ww)), some (.int (dBareG D gn0)), some (.int ((xLow (fun c => xPop (dBareP D c)) (0, 25) c).1)), some (.int ((xLow (fun c => xPop (dBareP D c)) (0, 25) c).2)), some (.int (nI c)), none], [.int (((xLow (fun c => xPop (dBareP D c)) (0, 25) c).1) / 12)])) rfl ?_
          show gR _ _ _ τ (101, [some (.ref 18), some (.int (nI ww)), some (.int (dBareG D gn0)), some (.int ((xLow (fun c => xPop (dBareP D c)) (0, 25) c).1)), some (.int ((xLow (fun c => xPop (dBareP D c)) (0, 25) c).2)), some (.int (nI c)), none], [.int (((xLow (fun c => xPop (dBareP D c)) (0, 25) c).1) / 12)])
          refine gR.ret rfl ?_
          have hc36 : c = 36 := by omega
          refine ⟨trivial, ?_, hF0.keep.tr hF.keep⟩
          rw [hc36, show aPlant D (nI ww) = _ from if_pos zc6, xPick3_n hww, if_pos (show ww = 0 by omega), dPlant_s]
      · rw [gN_eq (x := nI ww) (y := 2) (a := ww) (b := 2) rfl rfl (by omega) (by omega)] at zc80
        refine gR.steps 1 (τ, (85, [some (.ref 18), some (.int (nI ww)), some (.int (dBareG D gn0)), some (.int ((xLow (fun c => xPop (dBareP D c)) (0, 25) c).1)), some (.int ((xLow (fun c => xPop (dBareP D c)) (0, 25) c).2)), some (.int (nI c)), none], [.int ((xLow (fun c => xPop (dBareP D c)) (0, 25) c).2)])) rfl ?_
        show gR _ _ _ τ (85, [some (.ref 18), some (.int (nI ww)), some (.int (dBareG D gn0)), some (.int ((xLow (fun c => xPop (dBareP D c)) (0, 25) c).1)), some (.int ((xLow (fun c => xPop (dBareP D c)) (0, 25) c).2)), some (.int (nI c)), none], [.int ((xLow (fun c => xPop (dBareP D c)) (0, 25) c).2)])
        refine gR.ret rfl ?_
        have hc36 : c = 36 := by omega
        refine ⟨trivial, ?_, hF0.keep.tr hF.keep⟩
        rw [hc36, show aPlant D (nI ww) = _ from if_pos zc6, xPick3_n hww, if_neg (show ¬ ww = 0 by omega), if_neg (show ¬ ww = 1 by omega), dPlant_s]
    · rw [gN_le (x := 36) (y := nI c) (a := 36) (b := c) rfl rfl (by omega) (by omega)] at zc38
      refine gR.steps 4 (τ, (47, [some (.ref 18), some (.int (nI ww)), some (.int (dBareG D gn0)), some (.int ((xLow (fun c => xPop (dBareP D c)) (0, 25) c).1)), some (.int ((xLow (fun c => xPop (dBareP D c)) (0, 25) c).2)), some (.int (nI c)), none], [.int 12, .int (nI c), .int (dBareG D gn0), .ref 18])) rfl ?_
      refine gR.brT (p := ¬ (12 : Int32) = 0) rfl (by decide) ?_
      show gR _ _ _ τ (48, [some (.ref 18), some (.int (nI ww)), some (.int (dBareG D gn0)), some (.int ((xLow (fun c => xPop (dBareP D c)) (0, 25) c).1)), some (.int ((xLow (fun c => xPop (dBareP D c)) (0, 25) c).2)), some (.int (nI c)), none], [.int ((nI c) / 12), .int (dBareG D gn0), .ref 18])
      refine gR.topI (y := nI (c / 12)) (gN_div rfl rfl (by omega) (by omega) (by omega)) ?_
      refine gR.steps 2 (τ, (52, [some (.ref 18), some (.int (nI ww)), some (.int (dBareG D gn0)), some (.int ((xLow (fun c => xPop (dBareP D c)) (0, 25) c).1)), some (.int ((xLow (fun c => xPop (dBareP D c)) (0, 25) c).2)), some (.int (nI c)), none], [.int 12, .int (nI c), .int (nI (c / 12)), .int (dBareG D gn0), .ref 18])) rfl ?_
      refine gR.brT (p := ¬ (12 : Int32) = 0) rfl (by decide) ?_
      show gR _ _ _ τ (53, [some (.ref 18), some (.int (nI ww)), some (.int (dBareG D gn0)), some (.int ((xLow (fun c => xPop (dBareP D c)) (0, 25) c).1)), some (.int ((xLow (fun c => xPop (dBareP D c)) (0, 25) c).2)), some (.int (nI c)), none], [.int ((nI c) - (nI c) / 12 * 12), .int (nI (c / 12)), .int (dBareG D gn0), .ref 18])
      refine gR.topI (y := nI (c % 12)) (gN_rem rfl rfl (by omega) (by omega) (by omega)) ?_
      refine gR.call' rfl (s_X10_bareIfPlanted (by omega) τ D c hst (by omega)) ?_
      rintro _ υ ⟨rfl, hF2⟩
      show gR _ _ _ υ (56, [some (.ref 18), some (.int (nI ww)), some (.int (dBareG D gn0)), some (.int ((xLow (fun c => xPop (dBareP D c)) (0, 25) c).1)), some (.int ((xLow (fun c => xPop (dBareP D c)) (0, 25) c).2)), some (.int (nI c)), none], [.int (nI (xPop (dBareP D c)))])
      refine gR.steps 3 (υ, (62, [some (.ref 18), some (.int (nI ww)), some (.int (dBareG D gn0)), some (.int ((xLow (fun c => xPop (dBareP D c)) (0, 25) c).1)), some (.int ((xLow (fun c => xPop (dBareP D c)) (0, 25) c).2)), some (.int (nI c)), some (.int (nI (xPop (dBareP D c))))], [.int ((xLow (fun c => xPop (dBareP D c)) (0, 25) c).2), .int (nI (xPop (dBareP D c)))])) rfl ?_
      refine gR.ifte rfl (fun zc62 => ?_) (fun zc62 => ?_)
      · refine gR.steps 2 (υ, (34, [some (.ref 18), some (.int (nI ww)), some (.int (dBareG D gn0)), some (.int ((xLow (fun c => xPop (dBareP D c)) (0, 25) c).1)), some (.int ((xLow (fun c => xPop (dBareP D c)) (0, 25) c).2)), some (.int ((nI c) + 1)), some (.int (nI (xPop (dBareP D c))))], [])) rfl ?_
        refine gR.forget [some (.ref 18), some (.int (nI ww)), some (.int (dBareG D gn0)), some (.int ((xLow (fun c => xPop (dBareP D c)) (0, 25) (c + 1)).1)), some (.int ((xLow (fun c => xPop (dBareP D c)) (0, 25) (c + 1)).2)), some (.int (nI (c + 1))), none] ⟨rfl, ⟨rfl, ⟨rfl, ⟨gSomeI (congrArg Prod.fst (show xLow (fun c => xPop (dBareP D c)) (0, 25) (c + 1) = xLow (fun c => xPop (dBareP D c)) (0, 25) c from if_neg (fun z => Int32.not_le.mpr z zc62))).symm, ⟨gSomeI (congrArg Prod.snd (show xLow (fun c => xPop (dBareP D c)) (0, 25) (c + 1) = xLow (fun c => xPop (dBareP D c)) (0, 25) c from if_neg (fun z => Int32.not_le.mpr z zc62))).symm, ⟨gSomeI (gN_add rfl rfl), trivial⟩⟩⟩⟩⟩⟩ ?_
        have hzz := ih ⟨c + 1, υ⟩ ⟨by omega, hF.tr hF2⟩ (by dsimp only; omega)
        exact hzz
      · refine gR.steps 6 (υ, (34, [some (.ref 18), some (.int (nI ww)), some (.int (dBareG D gn0)), some (.int (nI c)), some (.int (nI (xPop (dBareP D c)))), some (.int ((nI c) + 1)), some (.int (nI (xPop (dBareP D c))))], [])) rfl ?_
        refine gR.forget [some (.ref 18), some (.int (nI ww)), some (.int (dBareG D gn0)), some (.int ((xLow (fun c => xPop (dBareP D c)) (0, 25) (c + 1)).1)), some (.int ((xLow (fun c => xPop (dBareP D c)) (0, 25) (c + 1)).2)), some (.int (nI (c + 1))), none] ⟨rfl, ⟨rfl, ⟨rfl, ⟨gSomeI (congrArg Prod.fst (show xLow (fun c => xPop (dBareP D c)) (0, 25) (c + 1) = (nI c, nI ((fun c => xPop (dBareP D c)) c)) from if_pos (Int32.not_le.mp zc62))).symm, ⟨gSomeI (congrArg Prod.snd (show xLow (fun c => xPop (dBareP D c)) (0, 25) (c + 1) = (nI c, nI ((fun c => xPop (dBareP D c)) c)) from if_pos (Int32.not_le.mp zc62))).symm, ⟨gSomeI (gN_add rfl rfl), trivial⟩⟩⟩⟩⟩⟩ ?_
        have hzz := ih ⟨c + 1, υ⟩ ⟨by omega, hF.tr hF2⟩ (by dsimp only; omega)
        exact hzz
  · rw [bI_ne0] at zc6
    refine gR.steps 1 (σ, (11, [some (.ref 18), some (.int w), none, none, none, none, none], [.int (-2)])) rfl ?_
    show gR _ _ _ σ (11, [some (.ref 18), some (.int w), none, none, none, none, none], [.int (-2)])
    refine gR.ret rfl ?_
    exact ⟨trivial, by rw [show aPlant D w = -2 from if_neg zc6], cKeep.rf σ⟩
def fwL (D : xDat) : Int32 := if dBareG D gn0 = 0 then 0 else if dSv1 D < dN D then (1 : Int32) <<< (nI (dSv1 D) &&& 31) else if dSv2 D < 64 then (1 : Int32) <<< (nI (dSv2 D / 8) &&& 31) ||| (1 : Int32) <<< (nI (dSv2 D % 8) &&& 31) else -1
def xPl (x : Int32) : Nat → Int32 → Int32
  | 0, _ => -1
  | k + 1, l => if (x >>> (nI (7 - k) &&& 31)) &&& 1 = 1 then (if l = 0 then nI (7 - k) else xPl x k (l + -1)) else xPl x k l
theorem pl_0 : xPl 0 8 0 = -1 ∧ xPl 0 8 1 = -1 := by decide +kernel
theorem pl_1 : ∀ a, a < 8 → xPl ((1 : Int32) <<< (nI a &&& 31)) 8 0 = nI a ∧ xPl ((1 : Int32) <<< (nI a &&& 31)) 8 1 = -1 ∧ xPop ((1 : Int32) <<< (nI a &&& 31)) = 1 ∧ ¬ (1 : Int32) <<< (nI a &&& 31) = -1 := by decide +kernel
theorem pl_2 : ∀ a, a < 8 → ∀ b, b < 8 → a < b → xPl ((1 : Int32) <<< (nI a &&& 31) ||| (1 : Int32) <<< (nI b &&& 31)) 8 0 = nI a ∧ xPl ((1 : Int32) <<< (nI a &&& 31) ||| (1 : Int32) <<< (nI b &&& 31)) 8 1 = nI b ∧ xPop ((1 : Int32) <<< (nI a &&& 31) ||| (1 : Int32) <<< (nI b &&& 31)) = 2 ∧ ¬ (1 : Int32) <<< (nI a &&& 31) ||| (1 : Int32) <<< (nI b &&& 31) = -1 := by decide +kernel
theorem s_X10_placeOfBit {d : Nat} (hd : 2 ≤ d) (σ : gS) (x i : Int32) : gC d 92 [.int x, .int i] σ (fun r τ => r = some (.int (xPl x 8 i)) ∧ τ = σ) := by
  obtain ⟨d, rfl⟩ : ∃ k, d = k + 1 := ⟨d - 1, by omega⟩
  refine gC.of (P := pX10_placeOfBit) (nL := 4) (rt := (some (.int))) (lv := [some (.int x), some (.int i), none, none]) (by decide +kernel) rfl rfl rfl (by simp [gEnt, Value.category]) rfl ?_
  refine gR.steps 4 (σ, (4, [some (.int x), some (.int i), some (.int i), some (.int 0)], [])) rfl ?_
  refine gR.forget [some (.int x), some (.int i), some (.int i), some (.int 0)] ⟨rfl, ⟨rfl, ⟨rfl, ⟨rfl, trivial⟩⟩⟩⟩ ?_
  refine gR.loop (α := Nat × Int32) (fun ⟨p, l⟩ => p ≤ 8 ∧ xPl x (8 - p) l = xPl x 8 i) (fun ⟨p, l⟩ => 8 - p) (fun ⟨p, l⟩ => (σ, (4, [some (.int x), some (.int i), some (.int l), some (.int (nI p))], []))) ?_ ⟨0, i⟩ ⟨by omega, rfl⟩
  rintro ⟨p, l⟩ ⟨hp, hx⟩ ih
  show gR _ _ _ σ (4, [some (.int x), some (.int i), some (.int l), some (.int (nI p))], [])
  refine gR.steps 2 (σ, (7, [some (.int x), some (.int i), some (.int l), some (.int (nI p))], [.int 8, .int (nI p)])) rfl ?_
  refine gR.ifte rfl (fun zc7 => ?_) (fun zc7 => ?_)
  · rw [gN_le (x := 8) (y := nI p) (a := 8) (b := p) rfl rfl (by omega) (by omega)] at zc7
    refine gR.steps 1 (σ, (35, [some (.int x), some (.int i), some (.int l), some (.int (nI p))], [.int (-1)])) rfl ?_
    show gR _ _ _ σ (35, [some (.int x), some (.int i), some (.int l), some (.int (nI p))], [.int (-1)])
    refine gR.ret rfl ?_
    rw [show 8 - p = 0 by omega] at hx
    exact ⟨trivial, gSomeI hx, rfl⟩
  · rw [gN_le (x := 8) (y := nI p) (a := 8) (b := p) rfl rfl (by omega) (by omega)] at zc7
    refine gR.steps 2 (σ, (12, [some (.int x), some (.int i), some (.int l), some (.int (nI p))], [.int (nI p), .int x])) rfl ?_
    refine gR.callp rfl (s_X10_bit (by omega) σ x (nI p)) ?_
    refine gR.steps 1 (σ, (16, [some (.int x), some (.int i), some (.int l), some (.int (nI p))], [.int 1, .int ((x >>> ((nI p) &&& 31)) &&& 1)])) rfl ?_
    refine gR.ifte rfl (fun zc16 => ?_) (fun zc16 => ?_)
    · refine gR.steps 2 (σ, (4, [some (.int x), some (.int i), some (.int l), some (.int ((nI p) + 1))], [])) rfl ?_
      refine gR.forget [some (.int x), some (.int i), some (.int l), some (.int (nI (p + 1)))] ⟨rfl, ⟨rfl, ⟨rfl, ⟨gSomeI (gN_add rfl rfl), trivial⟩⟩⟩⟩ ?_
      have hzz := ih ⟨p + 1, l⟩ ⟨by omega, by show xPl x (8 - (p + 1)) l = _; rw [show 8 - p = (7 - p) + 1 by omega] at hx; simp only [xPl] at hx; rw [show 7 - (7 - p) = p by omega, if_neg zc16] at hx; rw [show 8 - (p + 1) = 7 - p by omega]; exact hx⟩ (by dsimp only; omega)
      exact hzz
    · rw [Decidable.not_not] at zc16
      refine gR.steps 1 (σ, (20, [some (.int x), some (.int i), some (.int l), some (.int (nI p))], [.int l])) rfl ?_
      refine gR.ifte rfl (fun zc20 => ?_) (fun zc20 => ?_)
      · refine gR.steps 3 (σ, (4, [some (.int x), some (.int i), some (.int (l + -1)), some (.int ((nI p) + 1))], [])) rfl ?_
        refine gR.forget [some (.int x), some (.int i), some (.int (l + -1)), some (.int (nI (p + 1)))] ⟨rfl, ⟨rfl, ⟨rfl, ⟨gSomeI (gN_add rfl rfl), trivial⟩⟩⟩⟩ ?_
        have hzz := ih ⟨p + 1, l + -1⟩ ⟨by omega, by show xPl x (8 - (p + 1)) (l + -1) = _; rw [show 8 - p = (7 - p) + 1 by omega] at hx; simp only [xPl] at hx; rw [show 7 - (7 - p) = p by omega, if_pos zc16, if_neg zc20] at hx; rw [show 8 - (p + 1) = 7 - p by omega]; exact hx⟩ (by dsimp only; omega)
        exact hzz
      · rw [Decidable.not_not] at zc20
        refine gR.steps 1 (σ, (24, [some (.int x), some (.int i), some (.int l), some (.int (nI p))], [.int (nI p)])) rfl ?_
        show gR _ _ _ σ (24, [some (.int x), some (.int i), some (.int l), some (.int (nI p))], [.int (nI p)])
        refine gR.ret rfl ?_
        rw [show 8 - p = (7 - p) + 1 by omega] at hx; simp only [xPl] at hx; rw [show 7 - (7 - p) = p by omega, if_pos zc16, if_pos zc20] at hx
        exact ⟨trivial, gSomeI hx, rfl⟩
theorem s_X10_fewestToLose {d : Nat} (hd : 5 ≤ d) (σ : gS) (D : xDat) (hs : cSt σ D) : gC d 91 [.ref 18] σ (fun r τ => r = some (.int (fwL D)) ∧ cGrF σ τ) := by
  obtain ⟨d, rfl⟩ : ∃ k, d = k + 1 := ⟨d - 1, by omega⟩
  refine gC.of (P := pX10_fewestToLose) (nL := 3) (rt := (some (.int))) (lv := [some (.ref 18), none, none]) (by decide +kernel) rfl rfl rfl (by simp [gEnt, Value.category]) rfl ?_
  have hn8 := hs.2.2.1.2.1
  refine gR.steps 5 (σ, (9, [some (.ref 18), none, none], [.int 0, .ref 27, .ref 20])) rfl ?_
  refine gR.call' rfl (s_X3_grow27 (by omega) σ D gn0 0 hs.1 hs.2.2.1 bGone_0) ?_
  rintro _ τ ⟨rfl, hFτ, _⟩
  have hsτ := hs.keep hFτ.keep
  show gR _ _ _ τ (12, [some (.ref 18), none, none], [.int (dBareG D gn0)])
  refine gR.ifte rfl (fun zc12 => ?_) (fun zc12 => ?_)
  · refine gR.steps 2 (τ, (19, [some (.ref 18), some (.int 0), none], [])) rfl ?_
    refine gR.forget [some (.ref 18), some (.int 0), none] ⟨rfl, ⟨rfl, trivial⟩⟩ ?_
    refine gR.loop (α := Nat × gS) (fun ⟨i, υ⟩ => i ≤ dN D ∧ cGrF σ υ ∧ ∀ a, a < i → ¬ dBareG D (gn1 a) = 0) (fun ⟨i, υ⟩ => dN D - i) (fun ⟨i, υ⟩ => (υ, (19, [some (.ref 18), some (.int (nI i)), none], []))) ?_ ⟨0, τ⟩ ⟨Nat.zero_le _, hFτ, fun a ha => absurd ha (Nat.not_lt_zero a)⟩
    rintro ⟨i, υ⟩ ⟨hi, hFυ, h1⟩ ih
    show gR _ _ _ υ (19, [some (.ref 18), some (.int (nI i)), none], [])
    have hsυ := hs.keep hFυ.keep
    refine gR.steps 4 (υ, (27, [some (.ref 18), some (.int (nI i)), none], [.int (υ 27 3), .int (nI i)])) rfl ?_
    refine gR.topI (y := nI (dN D)) hsυ.2.2.1.1 ?_
    refine gR.ifte rfl (fun zc27 => ?_) (fun zc27 => ?_)
    · rw [gN_le (x := nI (dN D)) (y := nI i) (a := dN D) (b := i) rfl rfl (by omega) (by omega)] at zc27
      have h1n : ∀ a, a < dN D → ¬ dBareG D (gn1 a) = 0 := fun a ha => h1 a (by omega)
      refine gR.steps 2 (υ, (59, [some (.ref 18), some (.int 0), none], [])) rfl ?_
      refine gR.forget [some (.ref 18), some (.int 0), none] ⟨rfl, ⟨rfl, trivial⟩⟩ ?_
      refine gR.loop (α := Nat × gS) (fun ⟨i, υ⟩ => i ≤ dN D ∧ cGrF σ υ ∧ ∀ a, a < i → ∀ b, a < b → b < dN D → ¬ dBareG D (gn2 a b) = 0) (fun ⟨i, υ⟩ => dN D - i) (fun ⟨i, υ⟩ => (υ, (59, [some (.ref 18), some (.int (nI i)), none], []))) ?_ ⟨0, υ⟩ ⟨Nat.zero_le _, hFυ, fun a ha => absurd ha (Nat.not_lt_zero a)⟩
      rintro ⟨i, υ⟩ ⟨hi2, hFυ, h2⟩ ih2
      show gR _ _ _ υ (59, [some (.ref 18), some (.int (nI i)), none], [])
      have hsυ := hs.keep hFυ.keep
      refine gR.steps 4 (υ, (67, [some (.ref 18), some (.int (nI i)), none], [.int (υ 27 3), .int (nI i)])) rfl ?_
      refine gR.topI (y := nI (dN D)) hsυ.2.2.1.1 ?_
      refine gR.ifte rfl (fun zc67 => ?_) (fun zc67 => ?_)
      · rw [gN_le (x := nI (dN D)) (y := nI i) (a := dN D) (b := i) rfl rfl (by omega) (by omega)] at zc67
        refine gR.steps 1 (υ, (127, [some (.ref 18), some (.int (nI i)), none], [.int (-1)])) rfl ?_
        show gR _ _ _ υ (127, [some (.ref 18), some (.int (nI i)), none], [.int (-1)])
        refine gR.ret rfl ?_
        refine ⟨trivial, gSomeI ?_, hFυ⟩
        obtain rfl : i = dN D := by omega
        unfold fwL
        rw [if_neg zc12, if_neg (by rw [dSv1_no h1n]; omega), if_neg (by rw [dSv2_no h2]; omega)]
      · rw [gN_le (x := nI (dN D)) (y := nI i) (a := dN D) (b := i) rfl rfl (by omega) (by omega)] at zc67
        refine gR.steps 4 (υ, (74, [some (.ref 18), some (.int (nI i)), some (.int ((nI i) + 1))], [])) rfl ?_
        refine gR.forget [some (.ref 18), some (.int (nI i)), some (.int (nI (i + 1)))] ⟨rfl, rfl, gSomeI (gN_add rfl rfl), trivial⟩ ?_
        refine gR.loop (α := Nat × gS) (fun ⟨j, ω⟩ => i < j ∧ j ≤ dN D ∧ cGrF σ ω ∧ ∀ b, i < b → b < j → ¬ dBareG D (gn2 i b) = 0) (fun ⟨j, ω⟩ => dN D - j) (fun ⟨j, ω⟩ => (ω, (74, [some (.ref 18), some (.int (nI i)), some (.int (nI j))], []))) ?_ ⟨i + 1, υ⟩ ⟨by omega, by omega, hFυ, fun b hb hb2 => by omega⟩
        rintro ⟨j, ω⟩ ⟨hij, hj, hFω, h3⟩ ih3
        show gR _ _ _ ω (74, [some (.ref 18), some (.int (nI i)), some (.int (nI j))], [])
        have hsω := hs.keep hFω.keep
        refine gR.steps 4 (ω, (82, [some (.ref 18), some (.int (nI i)), some (.int (nI j))], [.int (ω 27 3), .int (nI j)])) rfl ?_
        refine gR.topI (y := nI (dN D)) hsω.2.2.1.1 ?_
        refine gR.ifte rfl (fun zc82 => ?_) (fun zc82 => ?_)
        · rw [gN_le (x := nI (dN D)) (y := nI j) (a := dN D) (b := j) rfl rfl (by omega) (by omega)] at zc82
          refine gR.steps 2 (ω, (59, [some (.ref 18), some (.int ((nI i) + 1)), some (.int (nI j))], [])) rfl ?_
          refine gR.forget [some (.ref 18), some (.int (nI (i + 1))), none] ⟨rfl, ⟨gSomeI (gN_add rfl rfl), trivial⟩⟩ ?_
          have hzz := ih2 ⟨i + 1, ω⟩ ⟨by omega, hFω, lt_s h2 (fun b hb hb2 => h3 b hb (by omega))⟩ (by dsimp only; omega)
          exact hzz
        · rw [gN_le (x := nI (dN D)) (y := nI j) (a := dN D) (b := j) rfl rfl (by omega) (by omega)] at zc82
          refine gR.steps 11 (ω, (100, [some (.ref 18), some (.int (nI i)), some (.int (nI j))], [.int (((1 : Int32) <<< ((nI i) &&& 31)) ||| ((1 : Int32) <<< ((nI j) &&& 31))), .ref 27, .ref 20])) rfl ?_
          refine gR.call' rfl (s_X3_grow27 (by omega) ω D (gn2 i j) ((1 : Int32) <<< (nI i &&& 31) ||| (1 : Int32) <<< (nI j &&& 31)) hsω.1 hsω.2.2.1 (bGone_2 (by omega) (by omega))) ?_
          rintro _ ξ ⟨rfl, hFξ, _⟩
          have hsξ := hsω.keep hFξ.keep
          show gR _ _ _ ξ (103, [some (.ref 18), some (.int (nI i)), some (.int (nI j))], [.int (dBareG D (gn2 i j))])
          refine gR.ifte rfl (fun zc103 => ?_) (fun zc103 => ?_)
          · refine gR.steps 2 (ξ, (74, [some (.ref 18), some (.int (nI i)), some (.int ((nI j) + 1))], [])) rfl ?_
            refine gR.forget [some (.ref 18), some (.int (nI i)), some (.int (nI (j + 1)))] ⟨rfl, ⟨rfl, ⟨gSomeI (gN_add rfl rfl), trivial⟩⟩⟩ ?_
            have hzz := ih3 ⟨j + 1, ξ⟩ ⟨by omega, by omega, hFω.tr hFξ, fun b hb hb2 => by
            by_cases e : b = j
            · rw [e]; exact zc103
            · exact h3 b hb (by omega)⟩ (by dsimp only; omega)
            exact hzz
          · refine gR.steps 7 (ξ, (113, [some (.ref 18), some (.int (nI i)), some (.int (nI j))], [.int (((1 : Int32) <<< ((nI i) &&& 31)) ||| ((1 : Int32) <<< ((nI j) &&& 31)))])) rfl ?_
            show gR _ _ _ ξ (113, [some (.ref 18), some (.int (nI i)), some (.int (nI j))], [.int (((1 : Int32) <<< ((nI i) &&& 31)) ||| ((1 : Int32) <<< ((nI j) &&& 31)))])
            refine gR.ret rfl ?_
            refine ⟨trivial, gSomeI ?_, hFω.tr hFξ⟩
            have e2 := dSv2_at hn8 hij (by omega) (Decidable.not_not.mp zc103) h2 h3
            unfold fwL
            rw [if_neg zc12, if_neg (by rw [dSv1_no h1n]; omega), e2, if_pos (by omega), show (8 * i + j) / 8 = i by omega, show (8 * i + j) % 8 = j by omega]
    · rw [gN_le (x := nI (dN D)) (y := nI i) (a := dN D) (b := i) rfl rfl (by omega) (by omega)] at zc27
      refine gR.steps 7 (υ, (41, [some (.ref 18), some (.int (nI i)), none], [.int ((1 : Int32) <<< ((nI i) &&& 31)), .ref 27, .ref 20])) rfl ?_
      refine gR.call' rfl (s_X3_grow27 (by omega) υ D (gn1 i) ((1 : Int32) <<< (nI i &&& 31)) hsυ.1 hsυ.2.2.1 (bGone_1 (by omega))) ?_
      rintro _ ω ⟨rfl, hFω, _⟩
      have hsω := hsυ.keep hFω.keep
      show gR _ _ _ ω (44, [some (.ref 18), some (.int (nI i)), none], [.int (dBareG D (gn1 i))])
      refine gR.ifte rfl (fun zc44 => ?_) (fun zc44 => ?_)
      · refine gR.steps 2 (ω, (19, [some (.ref 18), some (.int ((nI i) + 1)), none], [])) rfl ?_
        refine gR.forget [some (.ref 18), some (.int (nI (i + 1))), none] ⟨rfl, ⟨gSomeI (gN_add rfl rfl), trivial⟩⟩ ?_
        have hzz := ih ⟨i + 1, ω⟩ ⟨by omega, hFυ.tr hFω, lt_s h1 zc44⟩ (by dsimp only; omega)
        exact hzz
      · refine gR.steps 3 (ω, (50, [some (.ref 18), some (.int (nI i)), none], [.int ((1 : Int32) <<< ((nI i) &&& 31))])) rfl ?_
        show gR _ _ _ ω (50, [some (.ref 18), some (.int (nI i)), none], [.int ((1 : Int32) <<< ((nI i) &&& 31))])
        refine gR.ret rfl ?_
        refine ⟨trivial, gSomeI ?_, hFυ.tr hFω⟩
        have e1 := dSv1_at h1 (Decidable.not_not.mp zc44) (by omega)
        unfold fwL
        rw [if_neg zc12, e1, if_pos (by omega)]
  · refine gR.steps 1 (τ, (16, [some (.ref 18), none, none], [.int 0])) rfl ?_
    show gR _ _ _ τ (16, [some (.ref 18), none, none], [.int 0])
    refine gR.ret rfl ?_
    exact ⟨trivial, gSomeI (if_pos (Decidable.not_not.mp zc12)).symm, hFτ⟩
