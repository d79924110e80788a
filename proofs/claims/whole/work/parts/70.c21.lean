theorem s_X10_digestOfPlans {d : Nat} (hd : 7 ≤ d) (σ : gS) (D : xDat) (G : xSig) (l : Nat) (h : Int64) (hQ : cQ σ D G l) : gC d 85 [.ref 18, .long h] σ (fun r τ => r = some (.long (dg9 D (dg8 D (dg7 D (dg6 D h))))) ∧ cKeep σ τ) := by
  obtain ⟨d, rfl⟩ : ∃ k, d = k + 1 := ⟨d - 1, by omega⟩
  refine gC.of (P := pX10_digestOfPlans) (nL := 4) (rt := (some (.long))) (lv := [some (.ref 18), some (.long h), none, none]) (by decide +kernel) rfl rfl rfl (by simp [gEnt, Value.category]) rfl ?_
  refine gR.steps 2 (σ, (2, [some (.ref 18), some (.long h), none, some (.int 0)], [])) rfl ?_
  refine gR.forget [some (.ref 18), some (.long (xFo (fun h z => hh h (dPl D z)) h 0)), none, some (.int 0)] ⟨rfl, ⟨rfl, ⟨rfl, trivial⟩⟩⟩ ?_
  refine gR.loop (α := Nat × gS) (fun ⟨z, τ⟩ => z ≤ 3 ∧ cQ τ D G l ∧ cKeep σ τ) (fun ⟨z, τ⟩ => 3 - z) (fun ⟨z, τ⟩ => (τ, (2, [some (.ref 18), some (.long (xFo (fun h z => hh h (dPl D z)) h z)), none, some (.int (nI z))], []))) ?_ ⟨0, σ⟩ ⟨Nat.zero_le _, hQ, (cKeep.rf σ)⟩
  rintro ⟨z, τ⟩ ⟨hz, hQt, hKt⟩ ih
  show gR _ _ _ τ (2, [some (.ref 18), some (.long (xFo (fun h z => hh h (dPl D z)) h z)), none, some (.int (nI z))], [])
  refine gR.steps 2 (τ, (4, [some (.ref 18), some (.long (xFo (fun h z => hh h (dPl D z)) h z)), none, some (.int (nI z))], [.int 2, .int (nI z)])) rfl ?_
  refine gR.ifte rfl (fun zc4 => ?_) (fun zc4 => ?_)
  · rw [gN_lt (x := 2) (y := nI z) (a := 2) (b := z) rfl rfl (by omega) (by omega)] at zc4
    have hze : z = 3 := by omega
    refine gR.steps 2 (τ, (28, [some (.ref 18), some (.long (xFo (fun h z => hh h (dPl D z)) h z)), none, some (.int 0)], [])) rfl ?_
    refine gR.forget [some (.ref 18), some (.long (xFo (fun h z => hh h (dSendBy D z)) (dg6 D h) 0)), none, some (.int 0)] ⟨rfl, ⟨gSomeL (by rw [hze, ← xFo_0]; rfl), ⟨rfl, trivial⟩⟩⟩ ?_
    refine gR.loop (α := Nat × gS) (fun ⟨z, τ⟩ => z ≤ 3 ∧ cQ τ D G l ∧ cKeep σ τ) (fun ⟨z, τ⟩ => 3 - z) (fun ⟨z, τ⟩ => (τ, (28, [some (.ref 18), some (.long (xFo (fun h z => hh h (dSendBy D z)) (dg6 D h) z)), none, some (.int (nI z))], []))) ?_ ⟨0, τ⟩ ⟨Nat.zero_le _, hQt, hKt⟩
    rintro ⟨z, τ⟩ ⟨hz, hQt, hKt⟩ ih2
    show gR _ _ _ τ (28, [some (.ref 18), some (.long (xFo (fun h z => hh h (dSendBy D z)) (dg6 D h) z)), none, some (.int (nI z))], [])
    refine gR.steps 2 (τ, (30, [some (.ref 18), some (.long (xFo (fun h z => hh h (dSendBy D z)) (dg6 D h) z)), none, some (.int (nI z))], [.int 2, .int (nI z)])) rfl ?_
    refine gR.ifte rfl (fun zc30 => ?_) (fun zc30 => ?_)
    · rw [gN_lt (x := 2) (y := nI z) (a := 2) (b := z) rfl rfl (by omega) (by omega)] at zc30
      have hze : z = 3 := by omega
      refine gR.steps 5 (τ, (59, [some (.ref 18), some (.long (xFo (fun h z => hh h (dSendBy D z)) (dg6 D h) z)), none, some (.int (nI z))], [.int (-1), .ref 18, .long ((31 : Int64) * (xFo (fun h z => hh h (dSendBy D z)) (dg6 D h) z))])) rfl ?_
      refine gR.call' rfl (s_X10_save (by omega) τ D (-1) hQt.1) ?_
      rintro _ τ62 ⟨rfl, hk62⟩
      have hQ62 := hQt.keep hk62
      have hK62 : cKeep σ τ62 := hKt.tr hk62
      rw [(aSave_d D).1]
      show gR _ _ _ τ62 (62, [some (.ref 18), some (.long (xFo (fun h z => hh h (dSendBy D z)) (dg6 D h) z)), none, some (.int (nI z))], [.int (dSave D (-1)), .long ((31 : Int64) * (xFo (fun h z => hh h (dSendBy D z)) (dg6 D h) z))])
      refine gR.steps 8 (τ62, (72, [some (.ref 18), some (.long (((31 : Int64) * (xFo (fun h z => hh h (dSendBy D z)) (dg6 D h) z)) + (Int32.toInt64 (dSave D (-1))))), none, some (.int (nI z))], [.int 0, .ref 18, .long ((31 : Int64) * (((31 : Int64) * (xFo (fun h z => hh h (dSendBy D z)) (dg6 D h) z)) + (Int32.toInt64 (dSave D (-1)))))])) rfl ?_
      refine gR.call' rfl (s_X10_save (by omega) τ62 D 0 hQ62.1) ?_
      rintro _ τ75 ⟨rfl, hk75⟩
      have hQ75 := hQ62.keep hk75
      have hK75 : cKeep σ τ75 := hK62.tr hk75
      rw [(aSave_d D).2]
      show gR _ _ _ τ75 (75, [some (.ref 18), some (.long (((31 : Int64) * (xFo (fun h z => hh h (dSendBy D z)) (dg6 D h) z)) + (Int32.toInt64 (dSave D (-1))))), none, some (.int (nI z))], [.int (dSave D 0), .long ((31 : Int64) * (((31 : Int64) * (xFo (fun h z => hh h (dSendBy D z)) (dg6 D h) z)) + (Int32.toInt64 (dSave D (-1)))))])
      refine gR.steps 5 (τ75, (80, [some (.ref 18), some (.long (((31 : Int64) * (((31 : Int64) * (xFo (fun h z => hh h (dSendBy D z)) (dg6 D h) z)) + (Int32.toInt64 (dSave D (-1))))) + (Int32.toInt64 (dSave D 0)))), none, some (.int 0)], [])) rfl ?_
      refine gR.forget [some (.ref 18), some (.long (xFo (fun h z => hh h (dDl D z)) (dg8 D (dg7 D (dg6 D h))) 0)), none, some (.int 0)] ⟨rfl, ⟨gSomeL (by rw [hze, ← xFo_0]; rfl), ⟨rfl, trivial⟩⟩⟩ ?_
      refine gR.loop (α := Nat × gS) (fun ⟨z, τ⟩ => z ≤ 3 ∧ cQ τ D G l ∧ cKeep σ τ) (fun ⟨z, τ⟩ => 3 - z) (fun ⟨z, τ⟩ => (τ, (80, [some (.ref 18), some (.long (xFo (fun h z => hh h (dDl D z)) (dg8 D (dg7 D (dg6 D h))) z)), none, some (.int (nI z))], []))) ?_ ⟨0, τ75⟩ ⟨Nat.zero_le _, hQ75, hK75⟩
      rintro ⟨z, τ⟩ ⟨hz, hQt, hKt⟩ ih3
      show gR _ _ _ τ (80, [some (.ref 18), some (.long (xFo (fun h z => hh h (dDl D z)) (dg8 D (dg7 D (dg6 D h))) z)), none, some (.int (nI z))], [])
      refine gR.steps 2 (τ, (82, [some (.ref 18), some (.long (xFo (fun h z => hh h (dDl D z)) (dg8 D (dg7 D (dg6 D h))) z)), none, some (.int (nI z))], [.int 2, .int (nI z)])) rfl ?_
      refine gR.ifte rfl (fun zc82 => ?_) (fun zc82 => ?_)
      · rw [gN_lt (x := 2) (y := nI z) (a := 2) (b := z) rfl rfl (by omega) (by omega)] at zc82
        have hze : z = 3 := by omega
        refine gR.steps 1 (τ, (105, [some (.ref 18), some (.long (xFo (fun h z => hh h (dDl D z)) (dg8 D (dg7 D (dg6 D h))) z)), none, some (.int (nI z))], [.long (xFo (fun h z => hh h (dDl D z)) (dg8 D (dg7 D (dg6 D h))) z)])) rfl ?_
        show gR _ _ _ τ (105, [some (.ref 18), some (.long (xFo (fun h z => hh h (dDl D z)) (dg8 D (dg7 D (dg6 D h))) z)), none, some (.int (nI z))], [.long (xFo (fun h z => hh h (dDl D z)) (dg8 D (dg7 D (dg6 D h))) z)])
        refine gR.ret rfl ?_
        exact ⟨trivial, by rw [hze]; rfl, hKt⟩
      · rw [gN_lt (x := 2) (y := nI z) (a := 2) (b := z) rfl rfl (by omega) (by omega)] at zc82
        refine gR.steps 5 (τ, (92, [some (.ref 18), some (.long (xFo (fun h z => hh h (dDl D z)) (dg8 D (dg7 D (dg6 D h))) z)), none, some (.int (nI z))], [.int (nI z), .ref 18, .long ((31 : Int64) * (xFo (fun h z => hh h (dDl D z)) (dg8 D (dg7 D (dg6 D h))) z))])) rfl ?_
        refine gR.call' rfl (s_X10_deal (by omega) τ D (nI z) hQt.1) ?_
        rintro _ τ95 ⟨rfl, hk95⟩
        have hQ95 := hQt.keep hk95
        have hK95 : cKeep σ τ95 := hKt.tr hk95
        rw [aDeal_d (show z < 3 by omega)]
        show gR _ _ _ τ95 (95, [some (.ref 18), some (.long (xFo (fun h z => hh h (dDl D z)) (dg8 D (dg7 D (dg6 D h))) z)), none, some (.int (nI z))], [.int (dDl D z), .long ((31 : Int64) * (xFo (fun h z => hh h (dDl D z)) (dg8 D (dg7 D (dg6 D h))) z))])
        refine gR.steps 5 (τ95, (80, [some (.ref 18), some (.long (((31 : Int64) * (xFo (fun h z => hh h (dDl D z)) (dg8 D (dg7 D (dg6 D h))) z)) + (Int32.toInt64 (dDl D z)))), none, some (.int ((nI z) + 1))], [])) rfl ?_
        refine gR.forget [some (.ref 18), some (.long (xFo (fun h z => hh h (dDl D z)) (dg8 D (dg7 D (dg6 D h))) (z + 1))), none, some (.int (nI (z + 1)))] ⟨rfl, ⟨gSomeL rfl, ⟨gSomeI (gN_add rfl rfl), trivial⟩⟩⟩ ?_
        have hzz := ih3 ⟨z + 1, τ95⟩ ⟨by omega, hQ95, hK95⟩ (by dsimp only; omega)
        exact hzz
    · rw [gN_lt (x := 2) (y := nI z) (a := 2) (b := z) rfl rfl (by omega) (by omega)] at zc30
      refine gR.steps 5 (τ, (40, [some (.ref 18), some (.long (xFo (fun h z => hh h (dSendBy D z)) (dg6 D h) z)), none, some (.int (nI z))], [.int (nI z), .ref 18, .long ((31 : Int64) * (xFo (fun h z => hh h (dSendBy D z)) (dg6 D h) z))])) rfl ?_
      refine gR.call' rfl (s_X10_send (by omega) τ D (nI z) hQt.1) ?_
      rintro _ τ43 ⟨rfl, hk43⟩
      have hQ43 := hQt.keep hk43
      have hK43 : cKeep σ τ43 := hKt.tr hk43
      rw [aSend_d (show z < 3 by omega)]
      show gR _ _ _ τ43 (43, [some (.ref 18), some (.long (xFo (fun h z => hh h (dSendBy D z)) (dg6 D h) z)), none, some (.int (nI z))], [.int (dSendBy D z), .long ((31 : Int64) * (xFo (fun h z => hh h (dSendBy D z)) (dg6 D h) z))])
      refine gR.steps 5 (τ43, (28, [some (.ref 18), some (.long (((31 : Int64) * (xFo (fun h z => hh h (dSendBy D z)) (dg6 D h) z)) + (Int32.toInt64 (dSendBy D z)))), none, some (.int ((nI z) + 1))], [])) rfl ?_
      refine gR.forget [some (.ref 18), some (.long (xFo (fun h z => hh h (dSendBy D z)) (dg6 D h) (z + 1))), none, some (.int (nI (z + 1)))] ⟨rfl, ⟨gSomeL rfl, ⟨gSomeI (gN_add rfl rfl), trivial⟩⟩⟩ ?_
      have hzz := ih2 ⟨z + 1, τ43⟩ ⟨by omega, hQ43, hK43⟩ (by dsimp only; omega)
      exact hzz
  · rw [gN_lt (x := 2) (y := nI z) (a := 2) (b := z) rfl rfl (by omega) (by omega)] at zc4
    refine gR.steps 5 (τ, (14, [some (.ref 18), some (.long (xFo (fun h z => hh h (dPl D z)) h z)), none, some (.int (nI z))], [.int (nI z), .ref 18, .long ((31 : Int64) * (xFo (fun h z => hh h (dPl D z)) h z))])) rfl ?_
    refine gR.call' rfl (s_X10_plant (by omega) τ D (nI z) hQt.1) ?_
    rintro _ τ17 ⟨rfl, hk17⟩
    have hQ17 := hQt.keep hk17
    have hK17 : cKeep σ τ17 := hKt.tr hk17
    rw [aPlant_d (show z < 3 by omega)]
    show gR _ _ _ τ17 (17, [some (.ref 18), some (.long (xFo (fun h z => hh h (dPl D z)) h z)), none, some (.int (nI z))], [.int (dPl D z), .long ((31 : Int64) * (xFo (fun h z => hh h (dPl D z)) h z))])
    refine gR.steps 5 (τ17, (2, [some (.ref 18), some (.long (((31 : Int64) * (xFo (fun h z => hh h (dPl D z)) h z)) + (Int32.toInt64 (dPl D z)))), none, some (.int ((nI z) + 1))], [])) rfl ?_
    refine gR.forget [some (.ref 18), some (.long (xFo (fun h z => hh h (dPl D z)) h (z + 1))), none, some (.int (nI (z + 1)))] ⟨rfl, ⟨gSomeL rfl, ⟨gSomeI (gN_add rfl rfl), trivial⟩⟩⟩ ?_
    have hzz := ih ⟨z + 1, τ17⟩ ⟨by omega, hQ17, hK17⟩ (by dsimp only; omega)
    exact hzz
theorem s_X10_digestOfLuck {d : Nat} (hd : 7 ≤ d) (σ : gS) (D : xDat) (G : xSig) (l : Nat) (h : Int64) (hQ : cQ σ D G l) : gC d 86 [.ref 18, .long h] σ (fun r τ => r = some (.long (dgB D (dgA D G h))) ∧ cKeep σ τ) := by
  obtain ⟨d, rfl⟩ : ∃ k, d = k + 1 := ⟨d - 1, by omega⟩
  refine gC.of (P := pX10_digestOfLuck) (nL := 3) (rt := (some (.long))) (lv := [some (.ref 18), some (.long h), none]) (by decide +kernel) rfl rfl rfl (by simp [gEnt, Value.category]) rfl ?_
  refine gR.steps 4 (σ, (6, [some (.ref 18), some (.long h), none], [.ref 18, .long ((31 : Int64) * h)])) rfl ?_
  refine gR.call' rfl (s_X10_never (by omega) σ D G hQ.1 hQ.2.1) ?_
  rintro _ τ9 ⟨rfl, hk9⟩
  have hQ9 := hQ.keep hk9
  have hK9 : cKeep σ τ9 := (cKeep.rf σ).tr hk9
  show gR _ _ _ τ9 (9, [some (.ref 18), some (.long h), none], [.int (aNever D G), .long ((31 : Int64) * h)])
  refine gR.steps 10 (τ9, (22, [some (.ref 18), some (.long (((31 : Int64) * h) + (Int32.toInt64 (aNever D G)))), none], [.int 0, .int 6, .int 5, .ref 18, .long ((31 : Int64) * (((31 : Int64) * h) + (Int32.toInt64 (aNever D G))))])) rfl ?_
  refine gR.call' rfl (s_X10_luck (by omega) τ9 D 5 6 0 hQ9.1) ?_
  rintro _ τ25 ⟨rfl, hk25⟩
  have hQ25 := hQ9.keep hk25
  have hK25 : cKeep σ τ25 := hK9.tr hk25
  rw [(aLuck_d D).1]
  show gR _ _ _ τ25 (25, [some (.ref 18), some (.long (((31 : Int64) * h) + (Int32.toInt64 (aNever D G)))), none], [.long (jL (dLuck D 5 6 0)), .long ((31 : Int64) * (((31 : Int64) * h) + (Int32.toInt64 (aNever D G))))])
  refine gR.steps 9 (τ25, (37, [some (.ref 18), some (.long (((31 : Int64) * (((31 : Int64) * h) + (Int32.toInt64 (aNever D G)))) + (jL (dLuck D 5 6 0)))), none], [.int 1, .int 6, .int 5, .ref 18, .long ((31 : Int64) * (((31 : Int64) * (((31 : Int64) * h) + (Int32.toInt64 (aNever D G)))) + (jL (dLuck D 5 6 0))))])) rfl ?_
  refine gR.call' rfl (s_X10_luck (by omega) τ25 D 5 6 1 hQ25.1) ?_
  rintro _ τ40 ⟨rfl, hk40⟩
  have hQ40 := hQ25.keep hk40
  have hK40 : cKeep σ τ40 := hK25.tr hk40
  rw [(aLuck_d D).2.1]
  show gR _ _ _ τ40 (40, [some (.ref 18), some (.long (((31 : Int64) * (((31 : Int64) * h) + (Int32.toInt64 (aNever D G)))) + (jL (dLuck D 5 6 0)))), none], [.long (jL (dLuck D 5 6 1)), .long ((31 : Int64) * (((31 : Int64) * (((31 : Int64) * h) + (Int32.toInt64 (aNever D G)))) + (jL (dLuck D 5 6 0))))])
  refine gR.steps 9 (τ40, (52, [some (.ref 18), some (.long (((31 : Int64) * (((31 : Int64) * (((31 : Int64) * h) + (Int32.toInt64 (aNever D G)))) + (jL (dLuck D 5 6 0)))) + (jL (dLuck D 5 6 1)))), none], [.int 0, .int 13, .int 5, .ref 18, .long ((31 : Int64) * (((31 : Int64) * (((31 : Int64) * (((31 : Int64) * h) + (Int32.toInt64 (aNever D G)))) + (jL (dLuck D 5 6 0)))) + (jL (dLuck D 5 6 1))))])) rfl ?_
  refine gR.call' rfl (s_X10_luck (by omega) τ40 D 5 13 0 hQ40.1) ?_
  rintro _ τ55 ⟨rfl, hk55⟩
  have hQ55 := hQ40.keep hk55
  have hK55 : cKeep σ τ55 := hK40.tr hk55
  rw [(aLuck_d D).2.2.1]
  show gR _ _ _ τ55 (55, [some (.ref 18), some (.long (((31 : Int64) * (((31 : Int64) * (((31 : Int64) * h) + (Int32.toInt64 (aNever D G)))) + (jL (dLuck D 5 6 0)))) + (jL (dLuck D 5 6 1)))), none], [.long (jL (dLuck D 5 13 0)), .long ((31 : Int64) * (((31 : Int64) * (((31 : Int64) * (((31 : Int64) * h) + (Int32.toInt64 (aNever D G)))) + (jL (dLuck D 5 6 0)))) + (jL (dLuck D 5 6 1))))])
  refine gR.steps 9 (τ55, (67, [some (.ref 18), some (.long (((31 : Int64) * (((31 : Int64) * (((31 : Int64) * (((31 : Int64) * h) + (Int32.toInt64 (aNever D G)))) + (jL (dLuck D 5 6 0)))) + (jL (dLuck D 5 6 1)))) + (jL (dLuck D 5 13 0)))), none], [.int 1, .int 13, .int 5, .ref 18, .long ((31 : Int64) * (((31 : Int64) * (((31 : Int64) * (((31 : Int64) * (((31 : Int64) * h) + (Int32.toInt64 (aNever D G)))) + (jL (dLuck D 5 6 0)))) + (jL (dLuck D 5 6 1)))) + (jL (dLuck D 5 13 0))))])) rfl ?_
  refine gR.call' rfl (s_X10_luck (by omega) τ55 D 5 13 1 hQ55.1) ?_
  rintro _ τ70 ⟨rfl, hk70⟩
  have hQ70 := hQ55.keep hk70
  have hK70 : cKeep σ τ70 := hK55.tr hk70
  rw [(aLuck_d D).2.2.2]
  show gR _ _ _ τ70 (70, [some (.ref 18), some (.long (((31 : Int64) * (((31 : Int64) * (((31 : Int64) * (((31 : Int64) * h) + (Int32.toInt64 (aNever D G)))) + (jL (dLuck D 5 6 0)))) + (jL (dLuck D 5 6 1)))) + (jL (dLuck D 5 13 0)))), none], [.long (jL (dLuck D 5 13 1)), .long ((31 : Int64) * (((31 : Int64) * (((31 : Int64) * (((31 : Int64) * (((31 : Int64) * h) + (Int32.toInt64 (aNever D G)))) + (jL (dLuck D 5 6 0)))) + (jL (dLuck D 5 6 1)))) + (jL (dLuck D 5 13 0))))])
  refine gR.steps 9 (τ70, (83, [some (.ref 18), some (.long (((31 : Int64) * (((31 : Int64) * (((31 : Int64) * (((31 : Int64) * (((31 : Int64) * h) + (Int32.toInt64 (aNever D G)))) + (jL (dLuck D 5 6 0)))) + (jL (dLuck D 5 6 1)))) + (jL (dLuck D 5 13 0)))) + (jL (dLuck D 5 13 1)))), none], [.int 0, .int 6, .int 7, .ref 18, .long ((31 : Int64) * (((31 : Int64) * (((31 : Int64) * (((31 : Int64) * (((31 : Int64) * (((31 : Int64) * h) + (Int32.toInt64 (aNever D G)))) + (jL (dLuck D 5 6 0)))) + (jL (dLuck D 5 6 1)))) + (jL (dLuck D 5 13 0)))) + (jL (dLuck D 5 13 1))))])) rfl ?_
  refine gR.call' rfl (s_X10_century (by omega) τ70 D 7 6 0 hQ70.1) ?_
  rintro _ τ86 ⟨rfl, hk86⟩
  have hQ86 := hQ70.keep hk86
  have hK86 : cKeep σ τ86 := hK70.tr hk86
  rw [(aCentury_d D).1]
  show gR _ _ _ τ86 (86, [some (.ref 18), some (.long (((31 : Int64) * (((31 : Int64) * (((31 : Int64) * (((31 : Int64) * (((31 : Int64) * h) + (Int32.toInt64 (aNever D G)))) + (jL (dLuck D 5 6 0)))) + (jL (dLuck D 5 6 1)))) + (jL (dLuck D 5 13 0)))) + (jL (dLuck D 5 13 1)))), none], [.int (dCentury D 7 6 0), .long ((31 : Int64) * (((31 : Int64) * (((31 : Int64) * (((31 : Int64) * (((31 : Int64) * (((31 : Int64) * h) + (Int32.toInt64 (aNever D G)))) + (jL (dLuck D 5 6 0)))) + (jL (dLuck D 5 6 1)))) + (jL (dLuck D 5 13 0)))) + (jL (dLuck D 5 13 1))))])
  refine gR.steps 10 (τ86, (100, [some (.ref 18), some (.long (((31 : Int64) * (((31 : Int64) * (((31 : Int64) * (((31 : Int64) * (((31 : Int64) * (((31 : Int64) * h) + (Int32.toInt64 (aNever D G)))) + (jL (dLuck D 5 6 0)))) + (jL (dLuck D 5 6 1)))) + (jL (dLuck D 5 13 0)))) + (jL (dLuck D 5 13 1)))) + (Int32.toInt64 (dCentury D 7 6 0)))), none], [.int 1, .int 6, .int 7, .ref 18, .long ((31 : Int64) * (((31 : Int64) * (((31 : Int64) * (((31 : Int64) * (((31 : Int64) * (((31 : Int64) * (((31 : Int64) * h) + (Int32.toInt64 (aNever D G)))) + (jL (dLuck D 5 6 0)))) + (jL (dLuck D 5 6 1)))) + (jL (dLuck D 5 13 0)))) + (jL (dLuck D 5 13 1)))) + (Int32.toInt64 (dCentury D 7 6 0))))])) rfl ?_
  refine gR.call' rfl (s_X10_century (by omega) τ86 D 7 6 1 hQ86.1) ?_
  rintro _ τ103 ⟨rfl, hk103⟩
  have hQ103 := hQ86.keep hk103
  have hK103 : cKeep σ τ103 := hK86.tr hk103
  rw [(aCentury_d D).2]
  show gR _ _ _ τ103 (103, [some (.ref 18), some (.long (((31 : Int64) * (((31 : Int64) * (((31 : Int64) * (((31 : Int64) * (((31 : Int64) * (((31 : Int64) * h) + (Int32.toInt64 (aNever D G)))) + (jL (dLuck D 5 6 0)))) + (jL (dLuck D 5 6 1)))) + (jL (dLuck D 5 13 0)))) + (jL (dLuck D 5 13 1)))) + (Int32.toInt64 (dCentury D 7 6 0)))), none], [.int (dCentury D 7 6 1), .long ((31 : Int64) * (((31 : Int64) * (((31 : Int64) * (((31 : Int64) * (((31 : Int64) * (((31 : Int64) * (((31 : Int64) * h) + (Int32.toInt64 (aNever D G)))) + (jL (dLuck D 5 6 0)))) + (jL (dLuck D 5 6 1)))) + (jL (dLuck D 5 13 0)))) + (jL (dLuck D 5 13 1)))) + (Int32.toInt64 (dCentury D 7 6 0))))])
  refine gR.steps 2 (τ103, (105, [some (.ref 18), some (.long (((31 : Int64) * (((31 : Int64) * (((31 : Int64) * (((31 : Int64) * (((31 : Int64) * (((31 : Int64) * h) + (Int32.toInt64 (aNever D G)))) + (jL (dLuck D 5 6 0)))) + (jL (dLuck D 5 6 1)))) + (jL (dLuck D 5 13 0)))) + (jL (dLuck D 5 13 1)))) + (Int32.toInt64 (dCentury D 7 6 0)))), none], [.long (((31 : Int64) * (((31 : Int64) * (((31 : Int64) * (((31 : Int64) * (((31 : Int64) * (((31 : Int64) * (((31 : Int64) * h) + (Int32.toInt64 (aNever D G)))) + (jL (dLuck D 5 6 0)))) + (jL (dLuck D 5 6 1)))) + (jL (dLuck D 5 13 0)))) + (jL (dLuck D 5 13 1)))) + (Int32.toInt64 (dCentury D 7 6 0)))) + (Int32.toInt64 (dCentury D 7 6 1)))])) rfl ?_
  show gR _ _ _ τ103 (105, [some (.ref 18), some (.long (((31 : Int64) * (((31 : Int64) * (((31 : Int64) * (((31 : Int64) * (((31 : Int64) * (((31 : Int64) * h) + (Int32.toInt64 (aNever D G)))) + (jL (dLuck D 5 6 0)))) + (jL (dLuck D 5 6 1)))) + (jL (dLuck D 5 13 0)))) + (jL (dLuck D 5 13 1)))) + (Int32.toInt64 (dCentury D 7 6 0)))), none], [.long (((31 : Int64) * (((31 : Int64) * (((31 : Int64) * (((31 : Int64) * (((31 : Int64) * (((31 : Int64) * (((31 : Int64) * h) + (Int32.toInt64 (aNever D G)))) + (jL (dLuck D 5 6 0)))) + (jL (dLuck D 5 6 1)))) + (jL (dLuck D 5 13 0)))) + (jL (dLuck D 5 13 1)))) + (Int32.toInt64 (dCentury D 7 6 0)))) + (Int32.toInt64 (dCentury D 7 6 1)))])
  refine gR.ret rfl ?_
  exact ⟨trivial, rfl, hK103⟩
theorem s_X10_digest {d : Nat} (hd : 9 ≤ d) (σ : gS) (D : xDat) (G : xSig) (l : Nat) (hQ : cQ σ D G l) : gC d 78 [.ref 18] σ (fun r τ => r = some (.long (dDig D G l)) ∧ cKeep σ τ) := by
  obtain ⟨d, rfl⟩ : ∃ k, d = k + 1 := ⟨d - 1, by omega⟩
  refine gC.of (P := pX10_digest) (nL := 4) (rt := (some (.long))) (lv := [some (.ref 18), none, none, none]) (by decide +kernel) rfl rfl rfl (by simp [gEnt, Value.category]) rfl ?_
  have hnb := dNb_le D hQ.1.1.1.2.2.2.1
  refine gR.steps 2 (σ, (4, [some (.ref 18), none, none, none], [.long 17, .ref 18])) rfl ?_
  refine gR.call' rfl (s_X10_digestOfCounts (by omega) σ D G l 17 hQ) ?_
  rintro _ τ7 ⟨rfl, hk7⟩
  have hQ7 := hQ.keep hk7
  have hK7 : cKeep σ τ7 := (cKeep.rf σ).tr hk7
  show gR _ _ _ τ7 (7, [some (.ref 18), none, none, none], [.long (dg1 D G l 17)])
  refine gR.steps 3 (τ7, (10, [some (.ref 18), some (.long (dg1 D G l 17)), none, none], [.long (dg1 D G l 17), .ref 18])) rfl ?_
  refine gR.call' rfl (s_X10_digestOfMonths (by omega) τ7 D G l (dg1 D G l 17) hQ7) ?_
  rintro _ τ13 ⟨rfl, hk13⟩
  have hQ13 := hQ7.keep hk13
  have hK13 : cKeep σ τ13 := hK7.tr hk13
  show gR _ _ _ τ13 (13, [some (.ref 18), some (.long (dg1 D G l 17)), none, none], [.long (dg2 D (dg1 D G l 17))])
  refine gR.steps 3 (τ13, (16, [some (.ref 18), some (.long (dg2 D (dg1 D G l 17))), none, none], [.long (dg2 D (dg1 D G l 17)), .ref 18])) rfl ?_
  refine gR.call' rfl (s_X10_digestOfLooks (by omega) τ13 D G l (dg2 D (dg1 D G l 17)) hQ13) ?_
  rintro _ τ19 ⟨rfl, hk19⟩
  have hQ19 := hQ13.keep hk19
  have hK19 : cKeep σ τ19 := hK13.tr hk19
  show gR _ _ _ τ19 (19, [some (.ref 18), some (.long (dg2 D (dg1 D G l 17))), none, none], [.long (dg3 D (dg2 D (dg1 D G l 17)))])
  refine gR.steps 3 (τ19, (22, [some (.ref 18), some (.long (dg3 D (dg2 D (dg1 D G l 17)))), none, some (.int 0)], [])) rfl ?_
  refine gR.forget [some (.ref 18), some (.long (xFo (fun h z => dgBush D G h z) (dg3 D (dg2 D (dg1 D G l 17))) 0)), none, some (.int 0)] ⟨rfl, ⟨gSomeL (xFo_0 _ _), ⟨rfl, trivial⟩⟩⟩ ?_
  refine gR.loop (α := Nat × gS) (fun ⟨z, τ⟩ => z ≤ dNb D ∧ cQ τ D G l ∧ cKeep σ τ) (fun ⟨z, τ⟩ => dNb D - z) (fun ⟨z, τ⟩ => (τ, (22, [some (.ref 18), some (.long (xFo (fun h z => dgBush D G h z) (dg3 D (dg2 D (dg1 D G l 17))) z)), none, some (.int (nI z))], []))) ?_ ⟨0, τ19⟩ ⟨Nat.zero_le _, hQ19, hK19⟩
  rintro ⟨z, τ⟩ ⟨hz, hQt, hKt⟩ ih
  show gR _ _ _ τ (22, [some (.ref 18), some (.long (xFo (fun h z => dgBush D G h z) (dg3 D (dg2 D (dg1 D G l 17))) z)), none, some (.int (nI z))], [])
  refine gR.steps 3 (τ, (27, [some (.ref 18), some (.long (xFo (fun h z => dgBush D G h z) (dg3 D (dg2 D (dg1 D G l 17))) z)), none, some (.int (nI z))], [.ref 21, .int (nI z)])) rfl ?_
  refine gR.callp rfl (s_X0_size (by omega) τ D hQt.1.1) ?_
  refine gR.ifte rfl (fun zc30 => ?_) (fun zc30 => ?_)
  · rw [gN_le (x := nI (dNb D)) (y := nI z) (a := dNb D) (b := z) rfl rfl (by omega) (by omega)] at zc30
    have hze : z = dNb D := by omega
    refine gR.steps 2 (τ, (48, [some (.ref 18), some (.long (xFo (fun h z => dgBush D G h z) (dg3 D (dg2 D (dg1 D G l 17))) z)), none, some (.int (nI z))], [.long (xFo (fun h z => dgBush D G h z) (dg3 D (dg2 D (dg1 D G l 17))) z), .ref 18])) rfl ?_
    refine gR.call' rfl (s_X10_digestOfHill (by omega) τ D G l (xFo (fun h z => dgBush D G h z) (dg3 D (dg2 D (dg1 D G l 17))) z) hQt) ?_
    rintro _ τ51 ⟨rfl, hk51⟩
    have hQ51 := hQt.keep hk51
    have hK51 : cKeep σ τ51 := hKt.tr hk51
    show gR _ _ _ τ51 (51, [some (.ref 18), some (.long (xFo (fun h z => dgBush D G h z) (dg3 D (dg2 D (dg1 D G l 17))) z)), none, some (.int (nI z))], [.long (dg5 D (xFo (fun h z => dgBush D G h z) (dg3 D (dg2 D (dg1 D G l 17))) z))])
    refine gR.steps 3 (τ51, (54, [some (.ref 18), some (.long (dg5 D (xFo (fun h z => dgBush D G h z) (dg3 D (dg2 D (dg1 D G l 17))) z))), none, some (.int (nI z))], [.long (dg5 D (xFo (fun h z => dgBush D G h z) (dg3 D (dg2 D (dg1 D G l 17))) z)), .ref 18])) rfl ?_
    refine gR.call' rfl (s_X10_digestOfPlans (by omega) τ51 D G l (dg5 D (xFo (fun h z => dgBush D G h z) (dg3 D (dg2 D (dg1 D G l 17))) z)) hQ51) ?_
    rintro _ τ57 ⟨rfl, hk57⟩
    have hQ57 := hQ51.keep hk57
    have hK57 : cKeep σ τ57 := hK51.tr hk57
    show gR _ _ _ τ57 (57, [some (.ref 18), some (.long (dg5 D (xFo (fun h z => dgBush D G h z) (dg3 D (dg2 D (dg1 D G l 17))) z))), none, some (.int (nI z))], [.long (dg9 D (dg8 D (dg7 D (dg6 D (dg5 D (xFo (fun h z => dgBush D G h z) (dg3 D (dg2 D (dg1 D G l 17))) z))))))])
    refine gR.steps 3 (τ57, (60, [some (.ref 18), some (.long (dg9 D (dg8 D (dg7 D (dg6 D (dg5 D (xFo (fun h z => dgBush D G h z) (dg3 D (dg2 D (dg1 D G l 17))) z))))))), none, some (.int (nI z))], [.long (dg9 D (dg8 D (dg7 D (dg6 D (dg5 D (xFo (fun h z => dgBush D G h z) (dg3 D (dg2 D (dg1 D G l 17))) z)))))), .ref 18])) rfl ?_
    refine gR.call' rfl (s_X10_digestOfLuck (by omega) τ57 D G l (dg9 D (dg8 D (dg7 D (dg6 D (dg5 D (xFo (fun h z => dgBush D G h z) (dg3 D (dg2 D (dg1 D G l 17))) z)))))) hQ57) ?_
    rintro _ τ63 ⟨rfl, hk63⟩
    have hQ63 := hQ57.keep hk63
    have hK63 : cKeep σ τ63 := hK57.tr hk63
    show gR _ _ _ τ63 (63, [some (.ref 18), some (.long (dg9 D (dg8 D (dg7 D (dg6 D (dg5 D (xFo (fun h z => dgBush D G h z) (dg3 D (dg2 D (dg1 D G l 17))) z))))))), none, some (.int (nI z))], [.long (dgB D (dgA D G (dg9 D (dg8 D (dg7 D (dg6 D (dg5 D (xFo (fun h z => dgBush D G h z) (dg3 D (dg2 D (dg1 D G l 17))) z))))))))])
    show gR _ _ _ τ63 (63, [some (.ref 18), some (.long (dg9 D (dg8 D (dg7 D (dg6 D (dg5 D (xFo (fun h z => dgBush D G h z) (dg3 D (dg2 D (dg1 D G l 17))) z))))))), none, some (.int (nI z))], [.long (dgB D (dgA D G (dg9 D (dg8 D (dg7 D (dg6 D (dg5 D (xFo (fun h z => dgBush D G h z) (dg3 D (dg2 D (dg1 D G l 17))) z))))))))])
    refine gR.ret rfl ?_
    exact ⟨trivial, gSomeL (by rw [hze]; unfold dDig dg4; rfl), hK63⟩
  · rw [gN_le (x := nI (dNb D)) (y := nI z) (a := dNb D) (b := z) rfl rfl (by omega) (by omega)] at zc30
    refine gR.steps 3 (τ, (36, [some (.ref 18), some (.long (xFo (fun h z => dgBush D G h z) (dg3 D (dg2 D (dg1 D G l 17))) z)), none, some (.int (nI z))], [.int (nI z), .long (xFo (fun h z => dgBush D G h z) (dg3 D (dg2 D (dg1 D G l 17))) z), .ref 18])) rfl ?_
    refine gR.call' rfl (s_X10_digestOfBush (by omega) τ D G l (xFo (fun h z => dgBush D G h z) (dg3 D (dg2 D (dg1 D G l 17))) z) z hQt (by omega)) ?_
    rintro _ τ39 ⟨rfl, hk39⟩
    have hQ39 := hQt.keep hk39
    have hK39 : cKeep σ τ39 := hKt.tr hk39
    show gR _ _ _ τ39 (39, [some (.ref 18), some (.long (xFo (fun h z => dgBush D G h z) (dg3 D (dg2 D (dg1 D G l 17))) z)), none, some (.int (nI z))], [.long (dgBush D G (xFo (fun h z => dgBush D G h z) (dg3 D (dg2 D (dg1 D G l 17))) z) z)])
    refine gR.steps 3 (τ39, (22, [some (.ref 18), some (.long (dgBush D G (xFo (fun h z => dgBush D G h z) (dg3 D (dg2 D (dg1 D G l 17))) z) z)), none, some (.int ((nI z) + 1))], [])) rfl ?_
    refine gR.forget [some (.ref 18), some (.long (xFo (fun h z => dgBush D G h z) (dg3 D (dg2 D (dg1 D G l 17))) (z + 1))), none, some (.int (nI (z + 1)))] ⟨rfl, ⟨gSomeL rfl, ⟨gSomeI (gN_add rfl rfl), trivial⟩⟩⟩ ?_
    have hzz := ih ⟨z + 1, τ39⟩ ⟨by omega, hQ39, hK39⟩ (by dsimp only; omega)
    exact hzz
