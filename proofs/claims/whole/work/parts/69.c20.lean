def cQ (σ : gS) (D : xDat) (G : xSig) (l : Nat) : Prop := cSt σ D ∧ cSg σ G ∧ cLa σ l
theorem cQ.keep {σ τ : gS} {D : xDat} {G : xSig} {l : Nat} (h : cQ σ D G l) (k : cKeep σ τ) : cQ τ D G l := ⟨h.1.keep k, h.2.1.keep k, by unfold cLa; rw [k.cell 18 (by decide)]; exact h.2.2⟩
theorem aFault_0 (D : xDat) : aFault D 0 = xFlt 4 (xG0 (dC0 D)) (dN0 D) := (if_pos (by decide)).trans (if_pos rfl)
theorem aFault_1 (D : xDat) : aFault D 1 = xFlt 3 (xG1 (dC1 D)) (dN1 D) := (if_pos (by decide)).trans (if_neg (by decide))
theorem in_nI {n b : Nat} (h : n ≤ b) (hb : b < 1000) : 0 ≤ (nI n).toInt ∧ (nI n).toInt ≤ b := by rw [nI_toInt (by omega)]; omega
theorem lt_nI {n b : Nat} (h : n < b) (hb : b < 1000) : 0 ≤ (nI n).toInt ∧ (nI n).toInt < b := by rw [nI_toInt (by omega)]; omega
theorem aHill_d {D : xDat} {m w : Nat} (hm : m < 24) (hw : w < 3) : aHill D (nI m) (nI w) = dHl D m w := by
  rw [show aHill D (nI m) (nI w) = _ from if_pos ⟨in_nI (b := 23) (by omega) (by omega), in_nI (b := 2) (by omega) (by omega)⟩, xPick3_n hw, nI_clamp (by omega)]; rfl
theorem aAt_d {D : xDat} {m k w : Nat} (hm : m < 24) (hk : k < dNb D) (hb : dNb D ≤ 10) (hw : w < 3) : aAt D (nI m) (nI k) (nI w) = dAt D m k w := by
  rw [show aAt D (nI m) (nI k) (nI w) = _ from if_pos ⟨⟨in_nI (b := 23) (by omega) (by omega), lt_nI hk (by omega)⟩, in_nI (b := 2) (by omega) (by omega)⟩, xPick3_n hw, nI_clamp (by omega), nI_clamp (by omega)]; rfl
theorem aBush_d {D : xDat} {k w : Nat} (hk : k < dNb D) (hb : dNb D ≤ 10) (hw : w < 3) : aBush D (nI k) (nI w) = nI (dBuN D k w) := by
  rw [show aBush D (nI k) (nI w) = _ from if_pos ⟨lt_nI hk (by omega), in_nI (b := 2) (by omega) (by omega)⟩, xPick3_n hw, nI_clamp (by omega)]
  unfold dBuN
  rcases (show w = 0 ∨ w = 1 ∨ w = 2 by omega) with rfl | rfl | rfl <;> rfl
theorem aLook_d {D : xDat} {i : Nat} (hi : i < 12) : aLook D (nI i) 0 = dLk D i 0 ∧ aLook D (nI i) 1 = dLk D i 1 := by
  constructor
  · rw [show aLook D (nI i) 0 = _ from if_pos ⟨in_nI (b := 11) (by omega) (by omega), by decide⟩, nI_clamp (by omega)]; rfl
  · rw [show aLook D (nI i) 1 = _ from if_pos ⟨in_nI (b := 11) (by omega) (by omega), by decide⟩, nI_clamp (by omega), if_neg (show ¬ (1 : Int32) = 0 by decide)]; rfl
theorem aWas_d {D : xDat} {G : xSig} {k : Nat} (hk : k < dNb D) (hb : dNb D ≤ 10) : aWas D G (nI k) 0 = dBegan D G k ∧ aWas D G (nI k) 1 = dSort D G k := by
  constructor
  · rw [show aWas D G (nI k) 0 = _ from if_pos ⟨lt_nI hk (by omega), by decide⟩, nI_clamp (by omega)]; rfl
  · rw [show aWas D G (nI k) 1 = _ from if_pos ⟨lt_nI hk (by omega), by decide⟩, nI_clamp (by omega), if_neg (show ¬ (1 : Int32) = 0 by decide)]
theorem aAsk_d {D : xDat} {G : xSig} {k : Nat} (hk : k < dNb D) (hb : dNb D ≤ 10) : aAsk D G (nI k) = dAsk D G k := by
  rw [show aAsk D G (nI k) = _ from if_pos (lt_nI hk (by omega)), nI_clamp (by omega)]
theorem aLast_d (D : xDat) : aLast D 0 = dLs D 0 ∧ aLast D 1 = dLs D 1 := ⟨(if_pos (by decide)).trans (if_pos rfl), (if_pos (by decide)).trans (if_neg (by decide))⟩
theorem aPlant_d {D : xDat} {w : Nat} (hw : w < 3) : aPlant D (nI w) = dPl D w := by
  rw [show aPlant D (nI w) = _ from if_pos (in_nI (b := 2) (by omega) (by omega)), xPick3_n hw]; rfl
theorem aDeal_d {D : xDat} {w : Nat} (hw : w < 3) : aDeal D (nI w) = dDl D w := by
  rw [show aDeal D (nI w) = _ from if_pos (in_nI (b := 2) (by omega) (by omega)), xPick3_n hw]; rfl
theorem aSend_d {D : xDat} {w : Nat} (hw : w < 3) : aSend D (nI w) = dSendBy D w := by
  rw [show aSend D (nI w) = _ from if_pos (in_nI (b := 2) (by omega) (by omega)), nI_clamp (by omega)]
theorem aSave_d (D : xDat) : aSave D (-1) = dSave D (-1) ∧ aSave D 0 = dSave D 0 := ⟨if_pos (by decide), if_pos (by decide)⟩
theorem aLuck_d (D : xDat) : aLuck D 5 6 0 = jL (dLuck D 5 6 0) ∧ aLuck D 5 6 1 = jL (dLuck D 5 6 1) ∧ aLuck D 5 13 0 = jL (dLuck D 5 13 0) ∧ aLuck D 5 13 1 = jL (dLuck D 5 13 1) := ⟨if_pos (by decide), if_pos (by decide), if_pos (by decide), if_pos (by decide)⟩
theorem aCentury_d (D : xDat) : aCentury D 7 6 0 = dCentury D 7 6 0 ∧ aCentury D 7 6 1 = dCentury D 7 6 1 := ⟨if_pos (by decide), if_pos (by decide)⟩
theorem s_X10_digestOfBushIn {d : Nat} (hd : 5 ≤ d) (σ : gS) (D : xDat) (G : xSig) (l : Nat) (h : Int64) (k m : Nat) (hQ : cQ σ D G l) (hk : k < dNb D) (hm : m < 24) : gC d 83 [.ref 18, .long h, .int (nI k), .int (nI m)] σ (fun r τ => r = some (.long (dgAt D m k h)) ∧ cKeep σ τ) := by
  obtain ⟨d, rfl⟩ : ∃ k, d = k + 1 := ⟨d - 1, by omega⟩
  refine gC.of (P := pX10_digestOfBushIn) (nL := 6) (rt := (some (.long))) (lv := [some (.ref 18), some (.long h), none, some (.int (nI k)), some (.int (nI m)), none]) (by decide +kernel) rfl rfl rfl (by simp [gEnt, Value.category]) rfl ?_
  have hnb := dNb_le D hQ.1.1.1.2.2.2.1
  refine gR.steps 2 (σ, (3, [some (.ref 18), some (.long h), none, some (.int (nI k)), some (.int (nI m)), some (.int 0)], [])) rfl ?_
  refine gR.forget [some (.ref 18), some (.long (xFo (fun h j => hh h (dAt D m k j)) h 0)), none, some (.int (nI k)), some (.int (nI m)), some (.int 0)] ⟨rfl, ⟨rfl, ⟨rfl, ⟨rfl, ⟨rfl, trivial⟩⟩⟩⟩⟩ ?_
  refine gR.loop (α := Nat × gS) (fun ⟨z, τ⟩ => z ≤ 3 ∧ cQ τ D G l ∧ cKeep σ τ) (fun ⟨z, τ⟩ => 3 - z) (fun ⟨z, τ⟩ => (τ, (3, [some (.ref 18), some (.long (xFo (fun h j => hh h (dAt D m k j)) h z)), none, some (.int (nI k)), some (.int (nI m)), some (.int (nI z))], []))) ?_ ⟨0, σ⟩ ⟨Nat.zero_le _, hQ, (cKeep.rf σ)⟩
  rintro ⟨z, τ⟩ ⟨hz, hQt, hKt⟩ ih
  show gR _ _ _ τ (3, [some (.ref 18), some (.long (xFo (fun h j => hh h (dAt D m k j)) h z)), none, some (.int (nI k)), some (.int (nI m)), some (.int (nI z))], [])
  refine gR.steps 2 (τ, (6, [some (.ref 18), some (.long (xFo (fun h j => hh h (dAt D m k j)) h z)), none, some (.int (nI k)), some (.int (nI m)), some (.int (nI z))], [.int 2, .int (nI z)])) rfl ?_
  refine gR.ifte rfl (fun zc6 => ?_) (fun zc6 => ?_)
  · rw [gN_lt (x := 2) (y := nI z) (a := 2) (b := z) rfl rfl (by omega) (by omega)] at zc6
    refine gR.steps 1 (τ, (33, [some (.ref 18), some (.long (xFo (fun h j => hh h (dAt D m k j)) h z)), none, some (.int (nI k)), some (.int (nI m)), some (.int (nI z))], [.long (xFo (fun h j => hh h (dAt D m k j)) h z)])) rfl ?_
    show gR _ _ _ τ (33, [some (.ref 18), some (.long (xFo (fun h j => hh h (dAt D m k j)) h z)), none, some (.int (nI k)), some (.int (nI m)), some (.int (nI z))], [.long (xFo (fun h j => hh h (dAt D m k j)) h z)])
    refine gR.ret rfl ?_
    have hze : z = 3 := by omega
    exact ⟨trivial, by rw [hze]; rfl, hKt⟩
  · rw [gN_lt (x := 2) (y := nI z) (a := 2) (b := z) rfl rfl (by omega) (by omega)] at zc6
    refine gR.steps 7 (τ, (20, [some (.ref 18), some (.long (xFo (fun h j => hh h (dAt D m k j)) h z)), none, some (.int (nI k)), some (.int (nI m)), some (.int (nI z))], [.int (nI z), .int (nI k), .int (nI m), .ref 18, .long ((31 : Int64) * (xFo (fun h j => hh h (dAt D m k j)) h z))])) rfl ?_
    refine gR.call' rfl (s_X10_at (by omega) τ D (nI m) (nI k) (nI z) hQt.1) ?_
    rintro _ τ23 ⟨rfl, hk23⟩
    have hQ23 := hQt.keep hk23
    have hK23 : cKeep σ τ23 := hKt.tr hk23
    rw [aAt_d hm hk hnb (by omega)]
    show gR _ _ _ τ23 (23, [some (.ref 18), some (.long (xFo (fun h j => hh h (dAt D m k j)) h z)), none, some (.int (nI k)), some (.int (nI m)), some (.int (nI z))], [.int (dAt D m k z), .long ((31 : Int64) * (xFo (fun h j => hh h (dAt D m k j)) h z))])
    refine gR.steps 5 (τ23, (3, [some (.ref 18), some (.long (((31 : Int64) * (xFo (fun h j => hh h (dAt D m k j)) h z)) + (Int32.toInt64 (dAt D m k z)))), none, some (.int (nI k)), some (.int (nI m)), some (.int ((nI z) + 1))], [])) rfl ?_
    refine gR.forget [some (.ref 18), some (.long (xFo (fun h j => hh h (dAt D m k j)) h (z + 1))), none, some (.int (nI k)), some (.int (nI m)), some (.int (nI (z + 1)))] ⟨rfl, ⟨gSomeL rfl, ⟨rfl, ⟨rfl, ⟨gSomeI (gN_add rfl rfl), trivial⟩⟩⟩⟩⟩ ?_
    have hzz := ih ⟨z + 1, τ23⟩ ⟨by omega, hQ23, hK23⟩ (by dsimp only; omega)
    exact hzz
theorem s_X10_digestOfBush {d : Nat} (hd : 7 ≤ d) (σ : gS) (D : xDat) (G : xSig) (l : Nat) (h : Int64) (k : Nat) (hQ : cQ σ D G l) (hk : k < dNb D) : gC d 82 [.ref 18, .long h, .int (nI k)] σ (fun r τ => r = some (.long (dgBush D G h k)) ∧ cKeep σ τ) := by
  obtain ⟨d, rfl⟩ : ∃ k, d = k + 1 := ⟨d - 1, by omega⟩
  refine gC.of (P := pX10_digestOfBush) (nL := 5) (rt := (some (.long))) (lv := [some (.ref 18), some (.long h), none, some (.int (nI k)), none]) (by decide +kernel) rfl rfl rfl (by simp [gEnt, Value.category]) rfl ?_
  have hnb := dNb_le D hQ.1.1.1.2.2.2.1
  refine gR.steps 2 (σ, (3, [some (.ref 18), some (.long h), none, some (.int (nI k)), some (.int 0)], [])) rfl ?_
  refine gR.forget [some (.ref 18), some (.long (xFo (fun h j => hh h (nI (dBuN D k j))) h 0)), none, some (.int (nI k)), some (.int 0)] ⟨rfl, ⟨rfl, ⟨rfl, ⟨rfl, trivial⟩⟩⟩⟩ ?_
  refine gR.loop (α := Nat × gS) (fun ⟨z, τ⟩ => z ≤ 3 ∧ cQ τ D G l ∧ cKeep σ τ) (fun ⟨z, τ⟩ => 3 - z) (fun ⟨z, τ⟩ => (τ, (3, [some (.ref 18), some (.long (xFo (fun h j => hh h (nI (dBuN D k j))) h z)), none, some (.int (nI k)), some (.int (nI z))], []))) ?_ ⟨0, σ⟩ ⟨Nat.zero_le _, hQ, (cKeep.rf σ)⟩
  rintro ⟨z, τ⟩ ⟨hz, hQt, hKt⟩ ih
  show gR _ _ _ τ (3, [some (.ref 18), some (.long (xFo (fun h j => hh h (nI (dBuN D k j))) h z)), none, some (.int (nI k)), some (.int (nI z))], [])
  refine gR.steps 2 (τ, (6, [some (.ref 18), some (.long (xFo (fun h j => hh h (nI (dBuN D k j))) h z)), none, some (.int (nI k)), some (.int (nI z))], [.int 2, .int (nI z)])) rfl ?_
  refine gR.ifte rfl (fun zc6 => ?_) (fun zc6 => ?_)
  · rw [gN_lt (x := 2) (y := nI z) (a := 2) (b := z) rfl rfl (by omega) (by omega)] at zc6
    refine gR.steps 4 (τ, (34, [some (.ref 18), some (.long (xFo (fun h j => hh h (nI (dBuN D k j))) h z)), none, some (.int (nI k)), some (.int (nI z))], [.int 0, .int (nI k), .long (xFo (fun h j => hh h (nI (dBuN D k j))) h z), .ref 18])) rfl ?_
    refine gR.call' rfl (s_X10_digestOfBushIn (by omega) τ D G l (xFo (fun h j => hh h (nI (dBuN D k j))) h z) k 0 hQt hk (by omega)) ?_
    rintro _ τ37 ⟨rfl, hk37⟩
    have hQ37 := hQt.keep hk37
    have hK37 : cKeep σ τ37 := hKt.tr hk37
    show gR _ _ _ τ37 (37, [some (.ref 18), some (.long (xFo (fun h j => hh h (nI (dBuN D k j))) h z)), none, some (.int (nI k)), some (.int (nI z))], [.long (dgAt D 0 k (xFo (fun h j => hh h (nI (dBuN D k j))) h z))])
    refine gR.steps 5 (τ37, (43, [some (.ref 18), some (.long (dgAt D 0 k (xFo (fun h j => hh h (nI (dBuN D k j))) h z))), none, some (.int (nI k)), some (.int (nI z))], [.int 6, .int (nI k), .long (dgAt D 0 k (xFo (fun h j => hh h (nI (dBuN D k j))) h z)), .ref 18])) rfl ?_
    refine gR.call' rfl (s_X10_digestOfBushIn (by omega) τ37 D G l (dgAt D 0 k (xFo (fun h j => hh h (nI (dBuN D k j))) h z)) k 6 hQ37 hk (by omega)) ?_
    rintro _ τ46 ⟨rfl, hk46⟩
    have hQ46 := hQ37.keep hk46
    have hK46 : cKeep σ τ46 := hK37.tr hk46
    show gR _ _ _ τ46 (46, [some (.ref 18), some (.long (dgAt D 0 k (xFo (fun h j => hh h (nI (dBuN D k j))) h z))), none, some (.int (nI k)), some (.int (nI z))], [.long (dgAt D 6 k (dgAt D 0 k (xFo (fun h j => hh h (nI (dBuN D k j))) h z)))])
    refine gR.steps 5 (τ46, (52, [some (.ref 18), some (.long (dgAt D 6 k (dgAt D 0 k (xFo (fun h j => hh h (nI (dBuN D k j))) h z)))), none, some (.int (nI k)), some (.int (nI z))], [.int 13, .int (nI k), .long (dgAt D 6 k (dgAt D 0 k (xFo (fun h j => hh h (nI (dBuN D k j))) h z))), .ref 18])) rfl ?_
    refine gR.call' rfl (s_X10_digestOfBushIn (by omega) τ46 D G l (dgAt D 6 k (dgAt D 0 k (xFo (fun h j => hh h (nI (dBuN D k j))) h z))) k 13 hQ46 hk (by omega)) ?_
    rintro _ τ55 ⟨rfl, hk55⟩
    have hQ55 := hQ46.keep hk55
    have hK55 : cKeep σ τ55 := hK46.tr hk55
    show gR _ _ _ τ55 (55, [some (.ref 18), some (.long (dgAt D 6 k (dgAt D 0 k (xFo (fun h j => hh h (nI (dBuN D k j))) h z)))), none, some (.int (nI k)), some (.int (nI z))], [.long (dgAt D 13 k (dgAt D 6 k (dgAt D 0 k (xFo (fun h j => hh h (nI (dBuN D k j))) h z))))])
    refine gR.steps 5 (τ55, (61, [some (.ref 18), some (.long (dgAt D 13 k (dgAt D 6 k (dgAt D 0 k (xFo (fun h j => hh h (nI (dBuN D k j))) h z))))), none, some (.int (nI k)), some (.int (nI z))], [.int 23, .int (nI k), .long (dgAt D 13 k (dgAt D 6 k (dgAt D 0 k (xFo (fun h j => hh h (nI (dBuN D k j))) h z)))), .ref 18])) rfl ?_
    refine gR.call' rfl (s_X10_digestOfBushIn (by omega) τ55 D G l (dgAt D 13 k (dgAt D 6 k (dgAt D 0 k (xFo (fun h j => hh h (nI (dBuN D k j))) h z)))) k 23 hQ55 hk (by omega)) ?_
    rintro _ τ64 ⟨rfl, hk64⟩
    have hQ64 := hQ55.keep hk64
    have hK64 : cKeep σ τ64 := hK55.tr hk64
    show gR _ _ _ τ64 (64, [some (.ref 18), some (.long (dgAt D 13 k (dgAt D 6 k (dgAt D 0 k (xFo (fun h j => hh h (nI (dBuN D k j))) h z))))), none, some (.int (nI k)), some (.int (nI z))], [.long (dgAt D 23 k (dgAt D 13 k (dgAt D 6 k (dgAt D 0 k (xFo (fun h j => hh h (nI (dBuN D k j))) h z)))))])
    refine gR.steps 7 (τ64, (73, [some (.ref 18), some (.long (dgAt D 23 k (dgAt D 13 k (dgAt D 6 k (dgAt D 0 k (xFo (fun h j => hh h (nI (dBuN D k j))) h z)))))), none, some (.int (nI k)), some (.int (nI z))], [.int 0, .int (nI k), .ref 18, .long ((31 : Int64) * (dgAt D 23 k (dgAt D 13 k (dgAt D 6 k (dgAt D 0 k (xFo (fun h j => hh h (nI (dBuN D k j))) h z))))))])) rfl ?_
    refine gR.call' rfl (s_X10_was (by omega) τ64 D G (nI k) 0 hQ64.1 hQ64.2.1) ?_
    rintro _ τ76 ⟨rfl, hk76⟩
    have hQ76 := hQ64.keep hk76
    have hK76 : cKeep σ τ76 := hK64.tr hk76
    rw [(aWas_d hk hnb).1]
    show gR _ _ _ τ76 (76, [some (.ref 18), some (.long (dgAt D 23 k (dgAt D 13 k (dgAt D 6 k (dgAt D 0 k (xFo (fun h j => hh h (nI (dBuN D k j))) h z)))))), none, some (.int (nI k)), some (.int (nI z))], [.int (dBegan D G k), .long ((31 : Int64) * (dgAt D 23 k (dgAt D 13 k (dgAt D 6 k (dgAt D 0 k (xFo (fun h j => hh h (nI (dBuN D k j))) h z))))))])
    refine gR.steps 9 (τ76, (87, [some (.ref 18), some (.long (((31 : Int64) * (dgAt D 23 k (dgAt D 13 k (dgAt D 6 k (dgAt D 0 k (xFo (fun h j => hh h (nI (dBuN D k j))) h z)))))) + (Int32.toInt64 (dBegan D G k)))), none, some (.int (nI k)), some (.int (nI z))], [.int 1, .int (nI k), .ref 18, .long ((31 : Int64) * (((31 : Int64) * (dgAt D 23 k (dgAt D 13 k (dgAt D 6 k (dgAt D 0 k (xFo (fun h j => hh h (nI (dBuN D k j))) h z)))))) + (Int32.toInt64 (dBegan D G k))))])) rfl ?_
    refine gR.call' rfl (s_X10_was (by omega) τ76 D G (nI k) 1 hQ76.1 hQ76.2.1) ?_
    rintro _ τ90 ⟨rfl, hk90⟩
    have hQ90 := hQ76.keep hk90
    have hK90 : cKeep σ τ90 := hK76.tr hk90
    rw [(aWas_d hk hnb).2]
    show gR _ _ _ τ90 (90, [some (.ref 18), some (.long (((31 : Int64) * (dgAt D 23 k (dgAt D 13 k (dgAt D 6 k (dgAt D 0 k (xFo (fun h j => hh h (nI (dBuN D k j))) h z)))))) + (Int32.toInt64 (dBegan D G k)))), none, some (.int (nI k)), some (.int (nI z))], [.int (dSort D G k), .long ((31 : Int64) * (((31 : Int64) * (dgAt D 23 k (dgAt D 13 k (dgAt D 6 k (dgAt D 0 k (xFo (fun h j => hh h (nI (dBuN D k j))) h z)))))) + (Int32.toInt64 (dBegan D G k))))])
    refine gR.steps 8 (τ90, (100, [some (.ref 18), some (.long (((31 : Int64) * (((31 : Int64) * (dgAt D 23 k (dgAt D 13 k (dgAt D 6 k (dgAt D 0 k (xFo (fun h j => hh h (nI (dBuN D k j))) h z)))))) + (Int32.toInt64 (dBegan D G k)))) + (Int32.toInt64 (dSort D G k)))), none, some (.int (nI k)), some (.int (nI z))], [.int (nI k), .ref 18, .long ((31 : Int64) * (((31 : Int64) * (((31 : Int64) * (dgAt D 23 k (dgAt D 13 k (dgAt D 6 k (dgAt D 0 k (xFo (fun h j => hh h (nI (dBuN D k j))) h z)))))) + (Int32.toInt64 (dBegan D G k)))) + (Int32.toInt64 (dSort D G k))))])) rfl ?_
    refine gR.call' rfl (s_X10_ask (by omega) τ90 D G (nI k) hQ90.1 hQ90.2.1) ?_
    rintro _ τ103 ⟨rfl, hk103⟩
    have hQ103 := hQ90.keep hk103
    have hK103 : cKeep σ τ103 := hK90.tr hk103
    rw [aAsk_d hk hnb]
    show gR _ _ _ τ103 (103, [some (.ref 18), some (.long (((31 : Int64) * (((31 : Int64) * (dgAt D 23 k (dgAt D 13 k (dgAt D 6 k (dgAt D 0 k (xFo (fun h j => hh h (nI (dBuN D k j))) h z)))))) + (Int32.toInt64 (dBegan D G k)))) + (Int32.toInt64 (dSort D G k)))), none, some (.int (nI k)), some (.int (nI z))], [.int (dAsk D G k), .long ((31 : Int64) * (((31 : Int64) * (((31 : Int64) * (dgAt D 23 k (dgAt D 13 k (dgAt D 6 k (dgAt D 0 k (xFo (fun h j => hh h (nI (dBuN D k j))) h z)))))) + (Int32.toInt64 (dBegan D G k)))) + (Int32.toInt64 (dSort D G k))))])
    refine gR.steps 2 (τ103, (105, [some (.ref 18), some (.long (((31 : Int64) * (((31 : Int64) * (dgAt D 23 k (dgAt D 13 k (dgAt D 6 k (dgAt D 0 k (xFo (fun h j => hh h (nI (dBuN D k j))) h z)))))) + (Int32.toInt64 (dBegan D G k)))) + (Int32.toInt64 (dSort D G k)))), none, some (.int (nI k)), some (.int (nI z))], [.long (((31 : Int64) * (((31 : Int64) * (((31 : Int64) * (dgAt D 23 k (dgAt D 13 k (dgAt D 6 k (dgAt D 0 k (xFo (fun h j => hh h (nI (dBuN D k j))) h z)))))) + (Int32.toInt64 (dBegan D G k)))) + (Int32.toInt64 (dSort D G k)))) + (Int32.toInt64 (dAsk D G k)))])) rfl ?_
    show gR _ _ _ τ103 (105, [some (.ref 18), some (.long (((31 : Int64) * (((31 : Int64) * (dgAt D 23 k (dgAt D 13 k (dgAt D 6 k (dgAt D 0 k (xFo (fun h j => hh h (nI (dBuN D k j))) h z)))))) + (Int32.toInt64 (dBegan D G k)))) + (Int32.toInt64 (dSort D G k)))), none, some (.int (nI k)), some (.int (nI z))], [.long (((31 : Int64) * (((31 : Int64) * (((31 : Int64) * (dgAt D 23 k (dgAt D 13 k (dgAt D 6 k (dgAt D 0 k (xFo (fun h j => hh h (nI (dBuN D k j))) h z)))))) + (Int32.toInt64 (dBegan D G k)))) + (Int32.toInt64 (dSort D G k)))) + (Int32.toInt64 (dAsk D G k)))])
    refine gR.ret rfl ?_
    have hze : z = 3 := by omega
    exact ⟨trivial, by rw [hze]; rfl, hK103⟩
  · rw [gN_lt (x := 2) (y := nI z) (a := 2) (b := z) rfl rfl (by omega) (by omega)] at zc6
    refine gR.steps 6 (τ, (18, [some (.ref 18), some (.long (xFo (fun h j => hh h (nI (dBuN D k j))) h z)), none, some (.int (nI k)), some (.int (nI z))], [.int (nI z), .int (nI k), .ref 18, .long ((31 : Int64) * (xFo (fun h j => hh h (nI (dBuN D k j))) h z))])) rfl ?_
    refine gR.callp (x := .int (nI (dBuN D k z))) rfl (by rw [← aBush_d hk hnb (show z < 3 by omega)]; exact s_X10_bush (by omega) τ D (nI k) (nI z) hQt.1) ?_
    refine gR.steps 5 (τ, (3, [some (.ref 18), some (.long (((31 : Int64) * (xFo (fun h j => hh h (nI (dBuN D k j))) h z)) + (Int32.toInt64 (nI (dBuN D k z))))), none, some (.int (nI k)), some (.int ((nI z) + 1))], [])) rfl ?_
    refine gR.forget [some (.ref 18), some (.long (xFo (fun h j => hh h (nI (dBuN D k j))) h (z + 1))), none, some (.int (nI k)), some (.int (nI (z + 1)))] ⟨rfl, ⟨gSomeL rfl, ⟨rfl, ⟨gSomeI (gN_add rfl rfl), trivial⟩⟩⟩⟩ ?_
    have hzz := ih ⟨z + 1, τ⟩ ⟨by omega, hQt, hKt⟩ (by dsimp only; omega)
    exact hzz
theorem s_X10_digestOfCounts {d : Nat} (hd : 7 ≤ d) (σ : gS) (D : xDat) (G : xSig) (l : Nat) (h : Int64) (hQ : cQ σ D G l) : gC d 79 [.ref 18, .long h] σ (fun r τ => r = some (.long (dg1 D G l h)) ∧ cKeep σ τ) := by
  obtain ⟨d, rfl⟩ : ∃ k, d = k + 1 := ⟨d - 1, by omega⟩
  refine gC.of (P := pX10_digestOfCounts) (nL := 4) (rt := (some (.long))) (lv := [some (.ref 18), some (.long h), none, none]) (by decide +kernel) rfl rfl rfl (by simp [gEnt, Value.category]) rfl ?_
  refine gR.steps 2 (σ, (2, [some (.ref 18), some (.long h), none, some (.int 0)], [])) rfl ?_
  refine gR.forget [some (.ref 18), some (.long (xFo (fun h z => hh h (aCount D G l (nI z))) h 0)), none, some (.int 0)] ⟨rfl, ⟨rfl, ⟨rfl, trivial⟩⟩⟩ ?_
  refine gR.loop (α := Nat × gS) (fun ⟨z, τ⟩ => z ≤ 8 ∧ cQ τ D G l ∧ cKeep σ τ) (fun ⟨z, τ⟩ => 8 - z) (fun ⟨z, τ⟩ => (τ, (2, [some (.ref 18), some (.long (xFo (fun h z => hh h (aCount D G l (nI z))) h z)), none, some (.int (nI z))], []))) ?_ ⟨0, σ⟩ ⟨Nat.zero_le _, hQ, (cKeep.rf σ)⟩
  rintro ⟨z, τ⟩ ⟨hz, hQt, hKt⟩ ih
  show gR _ _ _ τ (2, [some (.ref 18), some (.long (xFo (fun h z => hh h (aCount D G l (nI z))) h z)), none, some (.int (nI z))], [])
  refine gR.steps 2 (τ, (5, [some (.ref 18), some (.long (xFo (fun h z => hh h (aCount D G l (nI z))) h z)), none, some (.int (nI z))], [.int 7, .int (nI z)])) rfl ?_
  refine gR.ifte rfl (fun zc5 => ?_) (fun zc5 => ?_)
  · rw [gN_lt (x := 7) (y := nI z) (a := 7) (b := z) rfl rfl (by omega) (by omega)] at zc5
    refine gR.steps 5 (τ, (34, [some (.ref 18), some (.long (xFo (fun h z => hh h (aCount D G l (nI z))) h z)), none, some (.int (nI z))], [.int 0, .ref 18, .long ((31 : Int64) * (xFo (fun h z => hh h (aCount D G l (nI z))) h z))])) rfl ?_
    refine gR.callp (x := .int (xFlt 4 (xG0 (dC0 D)) (dN0 D))) rfl (by rw [← aFault_0]; exact s_X10_fault (by omega) τ D 0 hQt.1) ?_
    refine gR.steps 8 (τ, (47, [some (.ref 18), some (.long (((31 : Int64) * (xFo (fun h z => hh h (aCount D G l (nI z))) h z)) + (Int32.toInt64 (xFlt 4 (xG0 (dC0 D)) (dN0 D))))), none, some (.int (nI z))], [.int 1, .ref 18, .long ((31 : Int64) * (((31 : Int64) * (xFo (fun h z => hh h (aCount D G l (nI z))) h z)) + (Int32.toInt64 (xFlt 4 (xG0 (dC0 D)) (dN0 D)))))])) rfl ?_
    refine gR.callp (x := .int (xFlt 3 (xG1 (dC1 D)) (dN1 D))) rfl (by rw [← aFault_1]; exact s_X10_fault (by omega) τ D 1 hQt.1) ?_
    refine gR.steps 2 (τ, (52, [some (.ref 18), some (.long (((31 : Int64) * (xFo (fun h z => hh h (aCount D G l (nI z))) h z)) + (Int32.toInt64 (xFlt 4 (xG0 (dC0 D)) (dN0 D))))), none, some (.int (nI z))], [.long (((31 : Int64) * (((31 : Int64) * (xFo (fun h z => hh h (aCount D G l (nI z))) h z)) + (Int32.toInt64 (xFlt 4 (xG0 (dC0 D)) (dN0 D))))) + (Int32.toInt64 (xFlt 3 (xG1 (dC1 D)) (dN1 D))))])) rfl ?_
    show gR _ _ _ τ (52, [some (.ref 18), some (.long (((31 : Int64) * (xFo (fun h z => hh h (aCount D G l (nI z))) h z)) + (Int32.toInt64 (xFlt 4 (xG0 (dC0 D)) (dN0 D))))), none, some (.int (nI z))], [.long (((31 : Int64) * (((31 : Int64) * (xFo (fun h z => hh h (aCount D G l (nI z))) h z)) + (Int32.toInt64 (xFlt 4 (xG0 (dC0 D)) (dN0 D))))) + (Int32.toInt64 (xFlt 3 (xG1 (dC1 D)) (dN1 D))))])
    refine gR.ret rfl ?_
    have hze : z = 8 := by omega
    exact ⟨trivial, by rw [hze]; rfl, hKt⟩
  · rw [gN_lt (x := 7) (y := nI z) (a := 7) (b := z) rfl rfl (by omega) (by omega)] at zc5
    refine gR.steps 5 (τ, (15, [some (.ref 18), some (.long (xFo (fun h z => hh h (aCount D G l (nI z))) h z)), none, some (.int (nI z))], [.int (nI z), .ref 18, .long ((31 : Int64) * (xFo (fun h z => hh h (aCount D G l (nI z))) h z))])) rfl ?_
    refine gR.call' rfl (s_X10_count (by omega) τ D G l (nI z) hQt.1 hQt.2.1 hQt.2.2) ?_
    rintro _ τ18 ⟨rfl, hk18⟩
    have hQ18 := hQt.keep hk18
    have hK18 : cKeep σ τ18 := hKt.tr hk18
    show gR _ _ _ τ18 (18, [some (.ref 18), some (.long (xFo (fun h z => hh h (aCount D G l (nI z))) h z)), none, some (.int (nI z))], [.int (aCount D G l (nI z)), .long ((31 : Int64) * (xFo (fun h z => hh h (aCount D G l (nI z))) h z))])
    refine gR.steps 5 (τ18, (2, [some (.ref 18), some (.long (((31 : Int64) * (xFo (fun h z => hh h (aCount D G l (nI z))) h z)) + (Int32.toInt64 (aCount D G l (nI z))))), none, some (.int ((nI z) + 1))], [])) rfl ?_
    refine gR.forget [some (.ref 18), some (.long (xFo (fun h z => hh h (aCount D G l (nI z))) h (z + 1))), none, some (.int (nI (z + 1)))] ⟨rfl, ⟨gSomeL rfl, ⟨gSomeI (gN_add rfl rfl), trivial⟩⟩⟩ ?_
    have hzz := ih ⟨z + 1, τ18⟩ ⟨by omega, hQ18, hK18⟩ (by dsimp only; omega)
    exact hzz
theorem s_X10_digestOfMonths {d : Nat} (hd : 7 ≤ d) (σ : gS) (D : xDat) (G : xSig) (l : Nat) (h : Int64) (hQ : cQ σ D G l) : gC d 80 [.ref 18, .long h] σ (fun r τ => r = some (.long (dg2 D h)) ∧ cKeep σ τ) := by
  obtain ⟨d, rfl⟩ : ∃ k, d = k + 1 := ⟨d - 1, by omega⟩
  refine gC.of (P := pX10_digestOfMonths) (nL := 5) (rt := (some (.long))) (lv := [some (.ref 18), some (.long h), none, none, none]) (by decide +kernel) rfl rfl rfl (by simp [gEnt, Value.category]) rfl ?_
  refine gR.steps 2 (σ, (2, [some (.ref 18), some (.long h), none, some (.int 0), none], [])) rfl ?_
  refine gR.forget [some (.ref 18), some (.long (xFo (fun h z => xFo (fun h y => hh h (dHl D z y)) h 3) h 0)), none, some (.int 0), none] ⟨rfl, ⟨rfl, ⟨rfl, trivial⟩⟩⟩ ?_
  refine gR.loop (α := Nat × gS) (fun ⟨z, τ⟩ => z ≤ 24 ∧ cQ τ D G l ∧ cKeep σ τ) (fun ⟨z, τ⟩ => 24 - z) (fun ⟨z, τ⟩ => (τ, (2, [some (.ref 18), some (.long (xFo (fun h z => xFo (fun h y => hh h (dHl D z y)) h 3) h z)), none, some (.int (nI z)), none], []))) ?_ ⟨0, σ⟩ ⟨Nat.zero_le _, hQ, cKeep.rf σ⟩
  rintro ⟨z, τ⟩ ⟨hz, hQt, hKt⟩ ih
  show gR _ _ _ τ (2, [some (.ref 18), some (.long (xFo (fun h z => xFo (fun h y => hh h (dHl D z y)) h 3) h z)), none, some (.int (nI z)), none], [])
  refine gR.steps 2 (τ, (5, [some (.ref 18), some (.long (xFo (fun h z => xFo (fun h y => hh h (dHl D z y)) h 3) h z)), none, some (.int (nI z)), none], [.int 24, .int (nI z)])) rfl ?_
  refine gR.ifte rfl (fun zc5 => ?_) (fun zc5 => ?_)
  · rw [gN_le (x := 24) (y := nI z) (a := 24) (b := z) rfl rfl (by omega) (by omega)] at zc5
    refine gR.steps 1 (τ, (45, [some (.ref 18), some (.long (xFo (fun h z => xFo (fun h y => hh h (dHl D z y)) h 3) h z)), none, some (.int (nI z)), none], [.long (xFo (fun h z => xFo (fun h y => hh h (dHl D z y)) h 3) h z)])) rfl ?_
    show gR _ _ _ τ (45, [some (.ref 18), some (.long (xFo (fun h z => xFo (fun h y => hh h (dHl D z y)) h 3) h z)), none, some (.int (nI z)), none], [.long (xFo (fun h z => xFo (fun h y => hh h (dHl D z y)) h 3) h z)])
    refine gR.ret rfl ?_
    have hze : z = 24 := by omega
    exact ⟨trivial, by rw [hze]; rfl, hKt⟩
  · rw [gN_le (x := 24) (y := nI z) (a := 24) (b := z) rfl rfl (by omega) (by omega)] at zc5
    refine gR.steps 2 (τ, (11, [some (.ref 18), some (.long (xFo (fun h z => xFo (fun h y => hh h (dHl D z y)) h 3) h z)), none, some (.int (nI z)), some (.int 0)], [])) rfl ?_
    refine gR.forget [some (.ref 18), some (.long (xFo (fun h y => hh h (dHl D z y)) (xFo (fun h z => xFo (fun h y => hh h (dHl D z y)) h 3) h z) 0)), none, some (.int (nI z)), some (.int 0)] ⟨rfl, ⟨rfl, ⟨rfl, ⟨rfl, trivial⟩⟩⟩⟩ ?_
    refine gR.loop (α := Nat × gS) (fun ⟨y, υ⟩ => y ≤ 3 ∧ cQ υ D G l ∧ cKeep σ υ) (fun ⟨y, υ⟩ => 3 - y) (fun ⟨y, υ⟩ => (υ, (11, [some (.ref 18), some (.long (xFo (fun h y => hh h (dHl D z y)) (xFo (fun h z => xFo (fun h y => hh h (dHl D z y)) h 3) h z) y)), none, some (.int (nI z)), some (.int (nI y))], []))) ?_ ⟨0, τ⟩ ⟨Nat.zero_le _, hQt, hKt⟩
    rintro ⟨y, υ⟩ ⟨hy, hQu, hKu⟩ ih2
    show gR _ _ _ υ (11, [some (.ref 18), some (.long (xFo (fun h y => hh h (dHl D z y)) (xFo (fun h z => xFo (fun h y => hh h (dHl D z y)) h 3) h z) y)), none, some (.int (nI z)), some (.int (nI y))], [])
    refine gR.steps 2 (υ, (14, [some (.ref 18), some (.long (xFo (fun h y => hh h (dHl D z y)) (xFo (fun h z => xFo (fun h y => hh h (dHl D z y)) h 3) h z) y)), none, some (.int (nI z)), some (.int (nI y))], [.int 2, .int (nI y)])) rfl ?_
    refine gR.ifte rfl (fun zc14 => ?_) (fun zc14 => ?_)
    · rw [gN_lt (x := 2) (y := nI y) (a := 2) (b := y) rfl rfl (by omega) (by omega)] at zc14
      have hye : y = 3 := by omega
      refine gR.steps 2 (υ, (2, [some (.ref 18), some (.long (xFo (fun h y => hh h (dHl D z y)) (xFo (fun h z => xFo (fun h y => hh h (dHl D z y)) h 3) h z) y)), none, some (.int ((nI z) + 1)), some (.int (nI y))], [])) rfl ?_
      refine gR.forget [some (.ref 18), some (.long (xFo (fun h z => xFo (fun h y => hh h (dHl D z y)) h 3) h (z + 1))), none, some (.int (nI (z + 1))), none] ⟨rfl, ⟨gSomeL (by rw [hye]; rfl), ⟨gSomeI (gN_add rfl rfl), trivial⟩⟩⟩ ?_
      have hzz := ih ⟨z + 1, υ⟩ ⟨by omega, hQu, hKu⟩ (by dsimp only; omega)
      exact hzz
    · rw [gN_lt (x := 2) (y := nI y) (a := 2) (b := y) rfl rfl (by omega) (by omega)] at zc14
      refine gR.steps 6 (υ, (26, [some (.ref 18), some (.long (xFo (fun h y => hh h (dHl D z y)) (xFo (fun h z => xFo (fun h y => hh h (dHl D z y)) h 3) h z) y)), none, some (.int (nI z)), some (.int (nI y))], [.int (nI y), .int (nI z), .ref 18, .long ((31 : Int64) * (xFo (fun h y => hh h (dHl D z y)) (xFo (fun h z => xFo (fun h y => hh h (dHl D z y)) h 3) h z) y))])) rfl ?_
      refine gR.call' rfl (s_X10_hill (by omega) υ D (nI z) (nI y) hQu.1) ?_
      rintro _ ω ⟨rfl, hkw⟩
      have hQw := hQu.keep hkw
      have hKw : cKeep σ ω := hKu.tr hkw
      rw [aHill_d (show z < 24 by omega) (show y < 3 by omega)]
      show gR _ _ _ ω (29, [some (.ref 18), some (.long (xFo (fun h y => hh h (dHl D z y)) (xFo (fun h z => xFo (fun h y => hh h (dHl D z y)) h 3) h z) y)), none, some (.int (nI z)), some (.int (nI y))], [.int (dHl D z y), .long ((31 : Int64) * (xFo (fun h y => hh h (dHl D z y)) (xFo (fun h z => xFo (fun h y => hh h (dHl D z y)) h 3) h z) y))])
      refine gR.steps 5 (ω, (11, [some (.ref 18), some (.long (((31 : Int64) * (xFo (fun h y => hh h (dHl D z y)) (xFo (fun h z => xFo (fun h y => hh h (dHl D z y)) h 3) h z) y)) + (Int32.toInt64 (dHl D z y)))), none, some (.int (nI z)), some (.int ((nI y) + 1))], [])) rfl ?_
      refine gR.forget [some (.ref 18), some (.long (xFo (fun h y => hh h (dHl D z y)) (xFo (fun h z => xFo (fun h y => hh h (dHl D z y)) h 3) h z) (y + 1))), none, some (.int (nI z)), some (.int (nI (y + 1)))] ⟨rfl, ⟨gSomeL rfl, ⟨rfl, ⟨gSomeI (gN_add rfl rfl), trivial⟩⟩⟩⟩ ?_
      have hzz := ih2 ⟨y + 1, ω⟩ ⟨by omega, hQw, hKw⟩ (by dsimp only; omega)
      exact hzz
theorem s_X10_digestOfLooks {d : Nat} (hd : 5 ≤ d) (σ : gS) (D : xDat) (G : xSig) (l : Nat) (h : Int64) (hQ : cQ σ D G l) : gC d 81 [.ref 18, .long h] σ (fun r τ => r = some (.long (dg3 D h)) ∧ cKeep σ τ) := by
  obtain ⟨d, rfl⟩ : ∃ k, d = k + 1 := ⟨d - 1, by omega⟩
  refine gC.of (P := pX10_digestOfLooks) (nL := 4) (rt := (some (.long))) (lv := [some (.ref 18), some (.long h), none, none]) (by decide +kernel) rfl rfl rfl (by simp [gEnt, Value.category]) rfl ?_
  refine gR.steps 2 (σ, (2, [some (.ref 18), some (.long h), none, some (.int 0)], [])) rfl ?_
  refine gR.forget [some (.ref 18), some (.long (xFo (fun h z => hh (hh h (dLk D z 0)) (dLk D z 1)) h 0)), none, some (.int 0)] ⟨rfl, ⟨rfl, ⟨rfl, trivial⟩⟩⟩ ?_
  refine gR.loop (α := Nat × gS) (fun ⟨z, τ⟩ => z ≤ 12 ∧ cQ τ D G l ∧ cKeep σ τ) (fun ⟨z, τ⟩ => 12 - z) (fun ⟨z, τ⟩ => (τ, (2, [some (.ref 18), some (.long (xFo (fun h z => hh (hh h (dLk D z 0)) (dLk D z 1)) h z)), none, some (.int (nI z))], []))) ?_ ⟨0, σ⟩ ⟨Nat.zero_le _, hQ, (cKeep.rf σ)⟩
  rintro ⟨z, τ⟩ ⟨hz, hQt, hKt⟩ ih
  show gR _ _ _ τ (2, [some (.ref 18), some (.long (xFo (fun h z => hh (hh h (dLk D z 0)) (dLk D z 1)) h z)), none, some (.int (nI z))], [])
  refine gR.steps 2 (τ, (5, [some (.ref 18), some (.long (xFo (fun h z => hh (hh h (dLk D z 0)) (dLk D z 1)) h z)), none, some (.int (nI z))], [.int 12, .int (nI z)])) rfl ?_
  refine gR.ifte rfl (fun zc5 => ?_) (fun zc5 => ?_)
  · rw [gN_le (x := 12) (y := nI z) (a := 12) (b := z) rfl rfl (by omega) (by omega)] at zc5
    refine gR.steps 1 (τ, (43, [some (.ref 18), some (.long (xFo (fun h z => hh (hh h (dLk D z 0)) (dLk D z 1)) h z)), none, some (.int (nI z))], [.long (xFo (fun h z => hh (hh h (dLk D z 0)) (dLk D z 1)) h z)])) rfl ?_
    show gR _ _ _ τ (43, [some (.ref 18), some (.long (xFo (fun h z => hh (hh h (dLk D z 0)) (dLk D z 1)) h z)), none, some (.int (nI z))], [.long (xFo (fun h z => hh (hh h (dLk D z 0)) (dLk D z 1)) h z)])
    refine gR.ret rfl ?_
    have hze : z = 12 := by omega
    exact ⟨trivial, by rw [hze]; rfl, hKt⟩
  · rw [gN_le (x := 12) (y := nI z) (a := 12) (b := z) rfl rfl (by omega) (by omega)] at zc5
    refine gR.steps 6 (τ, (16, [some (.ref 18), some (.long (xFo (fun h z => hh (hh h (dLk D z 0)) (dLk D z 1)) h z)), none, some (.int (nI z))], [.int 0, .int (nI z), .ref 18, .long ((31 : Int64) * (xFo (fun h z => hh (hh h (dLk D z 0)) (dLk D z 1)) h z))])) rfl ?_
    refine gR.callp (x := .int (dLk D z 0)) rfl (by rw [← (aLook_d (D := D) (show z < 12 by omega)).1]; exact s_X10_look (by omega) τ D (nI z) 0 hQt.1) ?_
    refine gR.steps 9 (τ, (30, [some (.ref 18), some (.long (((31 : Int64) * (xFo (fun h z => hh (hh h (dLk D z 0)) (dLk D z 1)) h z)) + (Int32.toInt64 (dLk D z 0)))), none, some (.int (nI z))], [.int 1, .int (nI z), .ref 18, .long ((31 : Int64) * (((31 : Int64) * (xFo (fun h z => hh (hh h (dLk D z 0)) (dLk D z 1)) h z)) + (Int32.toInt64 (dLk D z 0))))])) rfl ?_
    refine gR.callp (x := .int (dLk D z 1)) rfl (by rw [← (aLook_d (D := D) (show z < 12 by omega)).2]; exact s_X10_look (by omega) τ D (nI z) 1 hQt.1) ?_
    refine gR.steps 5 (τ, (2, [some (.ref 18), some (.long (((31 : Int64) * (((31 : Int64) * (xFo (fun h z => hh (hh h (dLk D z 0)) (dLk D z 1)) h z)) + (Int32.toInt64 (dLk D z 0)))) + (Int32.toInt64 (dLk D z 1)))), none, some (.int ((nI z) + 1))], [])) rfl ?_
    refine gR.forget [some (.ref 18), some (.long (xFo (fun h z => hh (hh h (dLk D z 0)) (dLk D z 1)) h (z + 1))), none, some (.int (nI (z + 1)))] ⟨rfl, ⟨gSomeL rfl, ⟨gSomeI (gN_add rfl rfl), trivial⟩⟩⟩ ?_
    have hzz := ih ⟨z + 1, τ⟩ ⟨by omega, hQt, hKt⟩ (by dsimp only; omega)
    exact hzz
theorem s_X10_digestOfHill {d : Nat} (hd : 7 ≤ d) (σ : gS) (D : xDat) (G : xSig) (l : Nat) (h : Int64) (hQ : cQ σ D G l) : gC d 84 [.ref 18, .long h] σ (fun r τ => r = some (.long (dg5 D h)) ∧ cKeep σ τ) := by
  obtain ⟨d, rfl⟩ : ∃ k, d = k + 1 := ⟨d - 1, by omega⟩
  refine gC.of (P := pX10_digestOfHill) (nL := 3) (rt := (some (.long))) (lv := [some (.ref 18), some (.long h), none]) (by decide +kernel) rfl rfl rfl (by simp [gEnt, Value.category]) rfl ?_
  refine gR.steps 4 (σ, (6, [some (.ref 18), some (.long h), none], [.ref 18, .long ((31 : Int64) * h)])) rfl ?_
  refine gR.call' rfl (s_X10_bare (by omega) σ D hQ.1) ?_
  rintro _ τ9 ⟨rfl, hk9⟩
  have hQ9 := hQ.keep hk9
  have hK9 : cKeep σ τ9 := (cKeep.rf σ).tr hk9
  show gR _ _ _ τ9 (9, [some (.ref 18), some (.long h), none], [.int (aBare D), .long ((31 : Int64) * h)])
  refine gR.steps 7 (τ9, (18, [some (.ref 18), some (.long (((31 : Int64) * h) + (Int32.toInt64 (aBare D)))), none], [.ref 18, .long ((31 : Int64) * (((31 : Int64) * h) + (Int32.toInt64 (aBare D))))])) rfl ?_
  refine gR.call' rfl (s_X10_run (by omega) τ9 D hQ9.1) ?_
  rintro _ τ21 ⟨rfl, hk21⟩
  have hQ21 := hQ9.keep hk21
  have hK21 : cKeep σ τ21 := hK9.tr hk21
  show gR _ _ _ τ21 (21, [some (.ref 18), some (.long (((31 : Int64) * h) + (Int32.toInt64 (aBare D)))), none], [.int (aRun D), .long ((31 : Int64) * (((31 : Int64) * h) + (Int32.toInt64 (aBare D))))])
  refine gR.steps 7 (τ21, (30, [some (.ref 18), some (.long (((31 : Int64) * (((31 : Int64) * h) + (Int32.toInt64 (aBare D)))) + (Int32.toInt64 (aRun D)))), none], [.ref 18, .long ((31 : Int64) * (((31 : Int64) * (((31 : Int64) * h) + (Int32.toInt64 (aBare D)))) + (Int32.toInt64 (aRun D))))])) rfl ?_
  refine gR.call' rfl (s_X10_fake (by omega) τ21 D hQ21.1) ?_
  rintro _ τ33 ⟨rfl, hk33⟩
  have hQ33 := hQ21.keep hk33
  have hK33 : cKeep σ τ33 := hK21.tr hk33
  show gR _ _ _ τ33 (33, [some (.ref 18), some (.long (((31 : Int64) * (((31 : Int64) * h) + (Int32.toInt64 (aBare D)))) + (Int32.toInt64 (aRun D)))), none], [.int (aFake D), .long ((31 : Int64) * (((31 : Int64) * (((31 : Int64) * h) + (Int32.toInt64 (aBare D)))) + (Int32.toInt64 (aRun D))))])
  refine gR.steps 8 (τ33, (43, [some (.ref 18), some (.long (((31 : Int64) * (((31 : Int64) * (((31 : Int64) * h) + (Int32.toInt64 (aBare D)))) + (Int32.toInt64 (aRun D)))) + (Int32.toInt64 (aFake D)))), none], [.int 0, .ref 18, .long ((31 : Int64) * (((31 : Int64) * (((31 : Int64) * (((31 : Int64) * h) + (Int32.toInt64 (aBare D)))) + (Int32.toInt64 (aRun D)))) + (Int32.toInt64 (aFake D))))])) rfl ?_
  refine gR.call' rfl (s_X10_last (by omega) τ33 D 0 hQ33.1) ?_
  rintro _ τ46 ⟨rfl, hk46⟩
  have hQ46 := hQ33.keep hk46
  have hK46 : cKeep σ τ46 := hK33.tr hk46
  rw [(aLast_d D).1]
  show gR _ _ _ τ46 (46, [some (.ref 18), some (.long (((31 : Int64) * (((31 : Int64) * (((31 : Int64) * h) + (Int32.toInt64 (aBare D)))) + (Int32.toInt64 (aRun D)))) + (Int32.toInt64 (aFake D)))), none], [.int (dLs D 0), .long ((31 : Int64) * (((31 : Int64) * (((31 : Int64) * (((31 : Int64) * h) + (Int32.toInt64 (aBare D)))) + (Int32.toInt64 (aRun D)))) + (Int32.toInt64 (aFake D))))])
  refine gR.steps 8 (τ46, (56, [some (.ref 18), some (.long (((31 : Int64) * (((31 : Int64) * (((31 : Int64) * (((31 : Int64) * h) + (Int32.toInt64 (aBare D)))) + (Int32.toInt64 (aRun D)))) + (Int32.toInt64 (aFake D)))) + (Int32.toInt64 (dLs D 0)))), none], [.int 1, .ref 18, .long ((31 : Int64) * (((31 : Int64) * (((31 : Int64) * (((31 : Int64) * (((31 : Int64) * h) + (Int32.toInt64 (aBare D)))) + (Int32.toInt64 (aRun D)))) + (Int32.toInt64 (aFake D)))) + (Int32.toInt64 (dLs D 0))))])) rfl ?_
  refine gR.call' rfl (s_X10_last (by omega) τ46 D 1 hQ46.1) ?_
  rintro _ τ59 ⟨rfl, hk59⟩
  have hQ59 := hQ46.keep hk59
  have hK59 : cKeep σ τ59 := hK46.tr hk59
  rw [(aLast_d D).2]
  show gR _ _ _ τ59 (59, [some (.ref 18), some (.long (((31 : Int64) * (((31 : Int64) * (((31 : Int64) * (((31 : Int64) * h) + (Int32.toInt64 (aBare D)))) + (Int32.toInt64 (aRun D)))) + (Int32.toInt64 (aFake D)))) + (Int32.toInt64 (dLs D 0)))), none], [.int (dLs D 1), .long ((31 : Int64) * (((31 : Int64) * (((31 : Int64) * (((31 : Int64) * (((31 : Int64) * h) + (Int32.toInt64 (aBare D)))) + (Int32.toInt64 (aRun D)))) + (Int32.toInt64 (aFake D)))) + (Int32.toInt64 (dLs D 0))))])
  refine gR.steps 2 (τ59, (61, [some (.ref 18), some (.long (((31 : Int64) * (((31 : Int64) * (((31 : Int64) * (((31 : Int64) * h) + (Int32.toInt64 (aBare D)))) + (Int32.toInt64 (aRun D)))) + (Int32.toInt64 (aFake D)))) + (Int32.toInt64 (dLs D 0)))), none], [.long (((31 : Int64) * (((31 : Int64) * (((31 : Int64) * (((31 : Int64) * (((31 : Int64) * h) + (Int32.toInt64 (aBare D)))) + (Int32.toInt64 (aRun D)))) + (Int32.toInt64 (aFake D)))) + (Int32.toInt64 (dLs D 0)))) + (Int32.toInt64 (dLs D 1)))])) rfl ?_
  show gR _ _ _ τ59 (61, [some (.ref 18), some (.long (((31 : Int64) * (((31 : Int64) * (((31 : Int64) * (((31 : Int64) * h) + (Int32.toInt64 (aBare D)))) + (Int32.toInt64 (aRun D)))) + (Int32.toInt64 (aFake D)))) + (Int32.toInt64 (dLs D 0)))), none], [.long (((31 : Int64) * (((31 : Int64) * (((31 : Int64) * (((31 : Int64) * (((31 : Int64) * h) + (Int32.toInt64 (aBare D)))) + (Int32.toInt64 (aRun D)))) + (Int32.toInt64 (aFake D)))) + (Int32.toInt64 (dLs D 0)))) + (Int32.toInt64 (dLs D 1)))])
  refine gR.ret rfl ?_
  exact ⟨trivial, rfl, hK59⟩
