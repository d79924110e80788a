theorem s_X10_allYellow {d : Nat} (hd : 5 ≤ d) (σ : gS) (D : xDat) (hs : cSt σ D) : gC d 87 [.ref 18] σ (fun r τ => r = some (.int (nI (xSum (dYel D) 24))) ∧ cKeep σ τ) := by
  obtain ⟨d, rfl⟩ : ∃ k, d = k + 1 := ⟨d - 1, by omega⟩
  refine gC.of (P := pX10_allYellow) (nL := 3) (rt := (some (.int))) (lv := [some (.ref 18), none, none]) (by decide +kernel) rfl rfl rfl (by simp [gEnt, Value.category]) rfl ?_
  refine gR.steps 5 (σ, (9, [some (.ref 18), none, none], [.int 0, .ref 27, .ref 20])) rfl ?_
  refine gR.call' rfl (s_X3_grow27 (by omega) σ D gn0 0 hs.1 hs.2.2.1 bGone_0) ?_
  rintro _ τ ⟨rfl, hF, hG⟩
  have hst := hs.keep hF.keep
  show gR _ _ _ τ (12, [some (.ref 18), none, none], [.int (dBareG D gn0)])
  refine gR.steps 5 (τ, (17, [some (.ref 18), some (.int 0), some (.int 0)], [])) rfl ?_
  refine gR.forget [some (.ref 18), some (.int (nI (xSum (dYel D) 0))), some (.int 0)] ⟨rfl, ⟨rfl, ⟨rfl, trivial⟩⟩⟩ ?_
  refine gR.loop (α := Nat) (fun m => m ≤ 24) (fun m => 24 - m) (fun m => (τ, (17, [some (.ref 18), some (.int (nI (xSum (dYel D) m))), some (.int (nI m))], []))) ?_ 0 (by omega)
  rintro m hm ih
  show gR _ _ _ τ (17, [some (.ref 18), some (.int (nI (xSum (dYel D) m))), some (.int (nI m))], [])
  refine gR.steps 2 (τ, (20, [some (.ref 18), some (.int (nI (xSum (dYel D) m))), some (.int (nI m))], [.int 24, .int (nI m)])) rfl ?_
  refine gR.ifte rfl (fun zc20 => ?_) (fun zc20 => ?_)
  · rw [gN_le (x := 24) (y := nI m) (a := 24) (b := m) rfl rfl (by omega) (by omega)] at zc20
    refine gR.steps 1 (τ, (41, [some (.ref 18), some (.int (nI (xSum (dYel D) m))), some (.int (nI m))], [.int (nI (xSum (dYel D) m))])) rfl ?_
    show gR _ _ _ τ (41, [some (.ref 18), some (.int (nI (xSum (dYel D) m))), some (.int (nI m))], [.int (nI (xSum (dYel D) m))])
    refine gR.ret rfl ?_
    have hm24 : m = 24 := by omega
    exact ⟨trivial, by rw [hm24], hF.keep⟩
  · rw [gN_le (x := 24) (y := nI m) (a := 24) (b := m) rfl rfl (by omega) (by omega)] at zc20
    refine gR.steps 4 (τ, (29, [some (.ref 18), some (.int (nI (xSum (dYel D) m))), some (.int (nI m))], [.int (nI m), .ref 20, .int (nI (xSum (dYel D) m))])) rfl ?_
    refine gR.callp rfl (s_X3_yellowIn (by omega) τ D m hst.1 hG (by omega)) ?_
    refine gR.steps 4 (τ, (17, [some (.ref 18), some (.int ((nI (xSum (dYel D) m)) + (nI (dYel D m)))), some (.int ((nI m) + 1))], [])) rfl ?_
    refine gR.forget [some (.ref 18), some (.int (nI (xSum (dYel D) (m + 1)))), some (.int (nI (m + 1)))] ⟨rfl, ⟨gSomeI (gN_add rfl rfl), ⟨gSomeI (gN_add rfl rfl), trivial⟩⟩⟩ ?_
    have hzz := ih (m + 1) (by omega) (by omega)
    exact hzz
theorem tgt_c {w : Int32} (h : ¬ (0 ≤ w.toInt ∧ w.toInt ≤ 8)) : gTgt 0 [52, 60, 68, 79, 90, 98, 106, 111, 119] 124 w = 124 := by
  unfold gTgt
  by_cases h0 : w.toInt < 0
  · rw [if_pos h0]
  · rw [if_neg h0, show (w.toInt - 0).toNat = (w.toInt - 9).toNat + 9 by omega]
    rfl
theorem s_X10_count0 {d : Nat} (hd : 6 ≤ d) (σ : gS) (D : xDat) (G : xSig) (l : Nat) (hs : cSt σ D) (hg : cSg σ G) (hl : cLa σ l) : gC d 77 [.ref 18, .int 0] σ (fun r τ => r = some (.int (aCount D G l 0)) ∧ cKeep σ τ) := by
  obtain ⟨d, rfl⟩ : ∃ k, d = k + 1 := ⟨d - 1, by omega⟩
  refine gC.of (P := pX10_count) (nL := 2) (rt := (some (.int))) (lv := [some (.ref 18), some (.int 0)]) (by decide +kernel) rfl rfl rfl (by simp [gEnt, Value.category]) rfl ?_
  refine gR.steps 4 (σ, (56, [some (.ref 18), some (.int 0)], [.ref 21])) rfl ?_
  refine gR.callp rfl (s_X0_size (by omega) σ D hs.1) ?_
  show gR _ _ _ σ (59, [some (.ref 18), some (.int 0)], [.int (nI (dNb D))])
  refine gR.ret rfl ?_
  exact ⟨trivial, rfl, cKeep.rf σ⟩
theorem s_X10_count1 {d : Nat} (hd : 6 ≤ d) (σ : gS) (D : xDat) (G : xSig) (l : Nat) (hs : cSt σ D) (hg : cSg σ G) (hl : cLa σ l) : gC d 77 [.ref 18, .int 1] σ (fun r τ => r = some (.int (aCount D G l 1)) ∧ cKeep σ τ) := by
  obtain ⟨d, rfl⟩ : ∃ k, d = k + 1 := ⟨d - 1, by omega⟩
  refine gC.of (P := pX10_count) (nL := 2) (rt := (some (.int))) (lv := [some (.ref 18), some (.int 1)]) (by decide +kernel) rfl rfl rfl (by simp [gEnt, Value.category]) rfl ?_
  refine gR.steps 4 (σ, (64, [some (.ref 18), some (.int 1)], [.ref 24])) rfl ?_
  refine gR.callp rfl (s_X4_size (by omega) σ D hs.2.1) ?_
  show gR _ _ _ σ (67, [some (.ref 18), some (.int 1)], [.int (nI (dNl D))])
  refine gR.ret rfl ?_
  exact ⟨trivial, rfl, cKeep.rf σ⟩
theorem s_X10_count2 {d : Nat} (hd : 6 ≤ d) (σ : gS) (D : xDat) (G : xSig) (l : Nat) (hs : cSt σ D) (hg : cSg σ G) (hl : cLa σ l) : gC d 77 [.ref 18, .int 2] σ (fun r τ => r = some (.int (aCount D G l 2)) ∧ cKeep σ τ) := by
  obtain ⟨d, rfl⟩ : ∃ k, d = k + 1 := ⟨d - 1, by omega⟩
  refine gC.of (P := pX10_count) (nL := 2) (rt := (some (.int))) (lv := [some (.ref 18), some (.int 2)]) (by decide +kernel) rfl rfl rfl (by simp [gEnt, Value.category]) rfl ?_
  refine gR.steps 6 (σ, (78, [some (.ref 18), some (.int 2)], [.int (σ 22 5)])) rfl ?_
  refine gR.topI (y := nI (dN0 D)) hs.1.1.2.2.1 ?_
  show gR _ _ _ σ (78, [some (.ref 18), some (.int 2)], [.int (nI (dN0 D))])
  refine gR.ret rfl ?_
  exact ⟨trivial, rfl, cKeep.rf σ⟩
theorem s_X10_count3 {d : Nat} (hd : 6 ≤ d) (σ : gS) (D : xDat) (G : xSig) (l : Nat) (hs : cSt σ D) (hg : cSg σ G) (hl : cLa σ l) : gC d 77 [.ref 18, .int 3] σ (fun r τ => r = some (.int (aCount D G l 3)) ∧ cKeep σ τ) := by
  obtain ⟨d, rfl⟩ : ∃ k, d = k + 1 := ⟨d - 1, by omega⟩
  refine gC.of (P := pX10_count) (nL := 2) (rt := (some (.int))) (lv := [some (.ref 18), some (.int 3)]) (by decide +kernel) rfl rfl rfl (by simp [gEnt, Value.category]) rfl ?_
  refine gR.steps 6 (σ, (89, [some (.ref 18), some (.int 3)], [.int (σ 25 5)])) rfl ?_
  refine gR.topI (y := nI (dN1 D)) hs.2.1.1.2.2.1 ?_
  show gR _ _ _ σ (89, [some (.ref 18), some (.int 3)], [.int (nI (dN1 D))])
  refine gR.ret rfl ?_
  exact ⟨trivial, rfl, cKeep.rf σ⟩
theorem s_X10_count4 {d : Nat} (hd : 6 ≤ d) (σ : gS) (D : xDat) (G : xSig) (l : Nat) (hs : cSt σ D) (hg : cSg σ G) (hl : cLa σ l) : gC d 77 [.ref 18, .int 4] σ (fun r τ => r = some (.int (aCount D G l 4)) ∧ cKeep σ τ) := by
  obtain ⟨d, rfl⟩ : ∃ k, d = k + 1 := ⟨d - 1, by omega⟩
  refine gC.of (P := pX10_count) (nL := 2) (rt := (some (.int))) (lv := [some (.ref 18), some (.int 4)]) (by decide +kernel) rfl rfl rfl (by simp [gEnt, Value.category]) rfl ?_
  refine gR.steps 5 (σ, (97, [some (.ref 18), some (.int 4)], [.int (σ 27 3)])) rfl ?_
  refine gR.topI (y := nI (dN D)) hs.2.2.1.1 ?_
  show gR _ _ _ σ (97, [some (.ref 18), some (.int 4)], [.int (nI (dN D))])
  refine gR.ret rfl ?_
  exact ⟨trivial, rfl, cKeep.rf σ⟩
theorem s_X10_count5 {d : Nat} (hd : 6 ≤ d) (σ : gS) (D : xDat) (G : xSig) (l : Nat) (hs : cSt σ D) (hg : cSg σ G) (hl : cLa σ l) : gC d 77 [.ref 18, .int 5] σ (fun r τ => r = some (.int (aCount D G l 5)) ∧ cKeep σ τ) := by
  obtain ⟨d, rfl⟩ : ∃ k, d = k + 1 := ⟨d - 1, by omega⟩
  refine gC.of (P := pX10_count) (nL := 2) (rt := (some (.int))) (lv := [some (.ref 18), some (.int 5)]) (by decide +kernel) rfl rfl rfl (by simp [gEnt, Value.category]) rfl ?_
  refine gR.steps 3 (σ, (99, [some (.ref 18), some (.int 5)], [.ref 18])) rfl ?_
  refine gR.call' rfl (s_X10_bare (by omega) σ D hs) ?_
  rintro _ τ ⟨rfl, hK⟩
  show gR _ _ _ τ (102, [some (.ref 18), some (.int 5)], [.int (aBare D)])
  refine gR.callp rfl (s_J6_bitCount_0f7a4 (by omega) τ (aBare D)) ?_
  show gR _ _ _ τ (105, [some (.ref 18), some (.int 5)], [.int (nI (xPop (aBare D)))])
  refine gR.ret rfl ?_
  exact ⟨trivial, rfl, hK⟩
theorem s_X10_count6 {d : Nat} (hd : 6 ≤ d) (σ : gS) (D : xDat) (G : xSig) (l : Nat) (hs : cSt σ D) (hg : cSg σ G) (hl : cLa σ l) : gC d 77 [.ref 18, .int 6] σ (fun r τ => r = some (.int (aCount D G l 6)) ∧ cKeep σ τ) := by
  obtain ⟨d, rfl⟩ : ∃ k, d = k + 1 := ⟨d - 1, by omega⟩
  refine gC.of (P := pX10_count) (nL := 2) (rt := (some (.int))) (lv := [some (.ref 18), some (.int 6)]) (by decide +kernel) rfl rfl rfl (by simp [gEnt, Value.category]) rfl ?_
  refine gR.steps 3 (σ, (107, [some (.ref 18), some (.int 6)], [.ref 18])) rfl ?_
  refine gR.call' rfl (s_X10_allYellow (by omega) σ D hs) ?_
  rintro _ τ ⟨rfl, hK⟩
  show gR _ _ _ τ (110, [some (.ref 18), some (.int 6)], [.int (nI (xSum (dYel D) 24))])
  show gR _ _ _ τ (110, [some (.ref 18), some (.int 6)], [.int (nI (xSum (dYel D) 24))])
  refine gR.ret rfl ?_
  exact ⟨trivial, rfl, hK⟩
theorem s_X10_count7 {d : Nat} (hd : 6 ≤ d) (σ : gS) (D : xDat) (G : xSig) (l : Nat) (hs : cSt σ D) (hg : cSg σ G) (hl : cLa σ l) : gC d 77 [.ref 18, .int 7] σ (fun r τ => r = some (.int (aCount D G l 7)) ∧ cKeep σ τ) := by
  obtain ⟨d, rfl⟩ : ∃ k, d = k + 1 := ⟨d - 1, by omega⟩
  refine gC.of (P := pX10_count) (nL := 2) (rt := (some (.int))) (lv := [some (.ref 18), some (.int 7)]) (by decide +kernel) rfl rfl rfl (by simp [gEnt, Value.category]) rfl ?_
  refine gR.steps 5 (σ, (118, [some (.ref 18), some (.int 7)], [.int (σ 37 3)])) rfl ?_
  refine gR.topI (y := nI (G.1)) hg.1 ?_
  show gR _ _ _ σ (118, [some (.ref 18), some (.int 7)], [.int (nI (G.1))])
  refine gR.ret rfl ?_
  exact ⟨trivial, rfl, cKeep.rf σ⟩
theorem s_X10_count8 {d : Nat} (hd : 6 ≤ d) (σ : gS) (D : xDat) (G : xSig) (l : Nat) (hs : cSt σ D) (hg : cSg σ G) (hl : cLa σ l) : gC d 77 [.ref 18, .int 8] σ (fun r τ => r = some (.int (aCount D G l 8)) ∧ cKeep σ τ) := by
  obtain ⟨d, rfl⟩ : ∃ k, d = k + 1 := ⟨d - 1, by omega⟩
  refine gC.of (P := pX10_count) (nL := 2) (rt := (some (.int))) (lv := [some (.ref 18), some (.int 8)]) (by decide +kernel) rfl rfl rfl (by simp [gEnt, Value.category]) rfl ?_
  refine gR.steps 4 (σ, (123, [some (.ref 18), some (.int 8)], [.int (σ 18 12)])) rfl ?_
  refine gR.topI (y := nI (l)) hl ?_
  show gR _ _ _ σ (123, [some (.ref 18), some (.int 8)], [.int (nI l)])
  refine gR.ret rfl ?_
  exact ⟨trivial, rfl, cKeep.rf σ⟩
theorem s_X10_countX {d : Nat} (hd : 6 ≤ d) (σ : gS) (D : xDat) (G : xSig) (l : Nat) (w : Int32) (hs : cSt σ D) (hg : cSg σ G) (hl : cLa σ l) (hw : ¬ (0 ≤ w.toInt ∧ w.toInt ≤ 8)) : gC d 77 [.ref 18, .int w] σ (fun r τ => r = some (.int (aCount D G l w)) ∧ cKeep σ τ) := by
  obtain ⟨d, rfl⟩ : ∃ k, d = k + 1 := ⟨d - 1, by omega⟩
  refine gC.of (P := pX10_count) (nL := 2) (rt := (some (.int))) (lv := [some (.ref 18), some (.int w)]) (by decide +kernel) rfl rfl rfl (by simp [gEnt, Value.category]) rfl ?_
  refine gR.steps 1 (σ, (1, [some (.ref 18), some (.int w)], [.int w])) rfl ?_
  refine gR.sw (t := 124) rfl (tgt_c hw) ?_
  refine gR.steps 1 (σ, (126, [some (.ref 18), some (.int w)], [.int (-2)])) rfl ?_
  show gR _ _ _ σ (126, [some (.ref 18), some (.int w)], [.int (-2)])
  refine gR.ret rfl ?_
  exact ⟨trivial, by rw [show aCount D G l w = -2 from if_neg hw], cKeep.rf σ⟩
theorem s_X10_count {d : Nat} (hd : 6 ≤ d) (σ : gS) (D : xDat) (G : xSig) (l : Nat) (w : Int32) (hs : cSt σ D) (hg : cSg σ G) (hl : cLa σ l) : gC d 77 [.ref 18, .int w] σ (fun r τ => r = some (.int (aCount D G l w)) ∧ cKeep σ τ) := by
  by_cases hw : 0 ≤ w.toInt ∧ w.toInt ≤ 8
  · obtain ⟨j, hj, rfl⟩ := gN_of (x := w) (n := 9) (by omega) (by omega) (by omega)
    rcases (show j = 0 ∨ j = 1 ∨ j = 2 ∨ j = 3 ∨ j = 4 ∨ j = 5 ∨ j = 6 ∨ j = 7 ∨ j = 8 by omega) with rfl | rfl | rfl | rfl | rfl | rfl | rfl | rfl | rfl
    · exact s_X10_count0 hd σ D G l hs hg hl
    · exact s_X10_count1 hd σ D G l hs hg hl
    · exact s_X10_count2 hd σ D G l hs hg hl
    · exact s_X10_count3 hd σ D G l hs hg hl
    · exact s_X10_count4 hd σ D G l hs hg hl
    · exact s_X10_count5 hd σ D G l hs hg hl
    · exact s_X10_count6 hd σ D G l hs hg hl
    · exact s_X10_count7 hd σ D G l hs hg hl
    · exact s_X10_count8 hd σ D G l hs hg hl
  · exact s_X10_countX hd σ D G l w hs hg hl hw
theorem s_X2_clear31 {d : Nat} (hd : 1 ≤ d) (σ : gS) : gC d 10 [.ref 31] σ (fun r τ => r = none ∧ τ = gUp σ 31 3 0) := by
  obtain ⟨d, rfl⟩ : ∃ k, d = k + 1 := ⟨d - 1, by omega⟩
  refine gC.of (P := pX2_clear) (nL := 1) (rt := none) (lv := [some (.ref 31)]) (by decide +kernel) rfl rfl rfl (by simp [gEnt, Value.category]) rfl ?_
  refine gR.steps 3 (gUp σ 31 3 0, (5, [some (.ref 31)], [])) rfl ?_
  show gR _ _ _ (gUp σ 31 3 0) (5, [some (.ref 31)], [])
  refine gR.ret rfl ?_
  exact ⟨trivial, rfl, rfl⟩
theorem s_X5_draw {d : Nat} (hd : 1 ≤ d) (σ : gS) (s : Int32) (k : Nat) (hs : σ 41 0 = s) (hk : 0 < k) (hk2 : k < 100) : gC d 20 [.ref 41, .int (nI k)] σ (fun r τ => r = some (.int (nI (xU (xNx s) % k))) ∧ τ = gUp σ 41 0 (xNx s)) := by
  obtain ⟨d, rfl⟩ : ∃ k, d = k + 1 := ⟨d - 1, by omega⟩
  refine gC.of (P := pX5_draw) (nL := 2) (rt := (some (.int))) (lv := [some (.ref 41), some (.int (nI k))]) (by decide +kernel) rfl rfl rfl (by simp [gEnt, Value.category]) rfl ?_
  refine gR.steps 9 (gUp σ 41 0 ((1103515245 * (σ 41 0)) + 12345), (16, [some (.ref 41), some (.int (nI k))], [.int (nI k)])) rfl ?_
  refine gR.brF rfl (fun z => by have := (gN_le (x := nI k) (y := 0) (a := k) (b := 0) rfl rfl (by omega) (by omega)).mp z; omega) ?_
  refine gR.steps 5 (gUp σ 41 0 ((1103515245 * (σ 41 0)) + 12345), (27, [some (.ref 41), some (.int (nI k))], [.int (nI k), .int ((Int32.toUInt32 ((1103515245 * (σ 41 0)) + 12345) >>> (Int32.toUInt32 16 &&& Int32.toUInt32 31)).toInt32)])) rfl ?_
  refine gR.brT (p := ¬ (nI k) = 0) rfl (gN_ne (a := k) (b := 0) rfl rfl (by omega) (by omega) (by omega)) ?_
  show gR _ _ _ (gUp σ 41 0 ((1103515245 * (σ 41 0)) + 12345)) (28, [some (.ref 41), some (.int (nI k))], [.int (((Int32.toUInt32 ((1103515245 * (σ 41 0)) + 12345) >>> (Int32.toUInt32 16 &&& Int32.toUInt32 31)).toInt32) - ((Int32.toUInt32 ((1103515245 * (σ 41 0)) + 12345) >>> (Int32.toUInt32 16 &&& Int32.toUInt32 31)).toInt32) / (nI k) * (nI k))])
  refine gR.steps 1 (gUp σ 41 0 ((1103515245 * (σ 41 0)) + 12345), (32, [some (.ref 41), some (.int (nI k))], [.int (((Int32.toUInt32 ((1103515245 * (σ 41 0)) + 12345) >>> (Int32.toUInt32 16 &&& Int32.toUInt32 31)).toInt32) - ((Int32.toUInt32 ((1103515245 * (σ 41 0)) + 12345) >>> (Int32.toUInt32 16 &&& Int32.toUInt32 31)).toInt32) / (nI k) * (nI k))])) rfl ?_
  show gR _ _ _ (gUp σ 41 0 ((1103515245 * (σ 41 0)) + 12345)) (32, [some (.ref 41), some (.int (nI k))], [.int (((Int32.toUInt32 ((1103515245 * (σ 41 0)) + 12345) >>> (Int32.toUInt32 16 &&& Int32.toUInt32 31)).toInt32) - ((Int32.toUInt32 ((1103515245 * (σ 41 0)) + 12345) >>> (Int32.toUInt32 16 &&& Int32.toUInt32 31)).toInt32) / (nI k) * (nI k))])
  refine gR.ret rfl ?_
  subst hs
  exact ⟨trivial, gSomeI (gN_rem (xU_eq _) rfl (Nat.lt_trans (xU_lt _) (by decide)) (by omega) (by omega)), rfl⟩
theorem xPut_id (f : Nat → Nat) (n : Nat) : xPut f n (f n) = f := by
  funext i
  unfold xPut
  by_cases h : i = n
  · rw [if_pos h, h]
  · rw [if_neg h]
def cDrF (σ τ : gS) : Prop := ∀ p, p ≠ 31 → p ≠ 32 → p ≠ 33 → p ≠ 34 → p ≠ 41 → τ p = σ p
theorem cDrF.keep {σ τ : gS} (h : cDrF σ τ) : cKeep σ τ := ⟨fun q a b => h q (fun z => b (by unfold cScr; omega)) (fun z => b (by unfold cScr; omega)) (fun z => b (by unfold cScr; omega)) (fun z => b (by unfold cScr; omega)) (fun z => b (by unfold cScr; omega)), fun s _ _ => by rw [h 19 (by decide) (by decide) (by decide) (by decide) (by decide)]⟩
theorem s_X10_drawEvents {d : Nat} (hd : 3 ≤ d) (σ : gS) (D : xDat) (s : Int32) (n : Nat) (hT : cT0 σ (dN0 D) (dC0 D)) (hn : n ≤ 8) : gC d 100 [.ref 18, .int s, .int (nI n)] σ (fun r τ => r = none ∧ cDrF σ τ ∧ cEv τ 31 (if 0 < dNb D then n else 0) (cK s) (cM s) (cB s (dNb D))) := by
  obtain ⟨d, rfl⟩ : ∃ k, d = k + 1 := ⟨d - 1, by omega⟩
  refine gC.of (P := pX10_drawEvents) (nL := 7) (rt := none) (lv := [some (.ref 18), some (.int s), some (.int (nI n)), none, none, none, none]) (by decide +kernel) rfl rfl rfl (by simp [gEnt, Value.category]) rfl ?_
  have hnb := dNb_le D hT.1.2.2.2.1
  refine gR.steps 2 (σ, (4, [some (.ref 18), some (.int s), some (.int (nI n)), none, none, none, none], [.ref 31])) rfl ?_
  refine gR.call' rfl (s_X2_clear31 (by omega) σ) ?_
  rintro _ _ ⟨rfl, rfl⟩ 
  show gR _ _ _ (gUp σ 31 3 0) (7, [some (.ref 18), some (.int s), some (.int (nI n)), none, none, none, none], [])
  refine gR.steps 6 (gUp (gUp σ 31 3 0) 41 0 s, (19, [some (.ref 18), some (.int s), some (.int (nI n)), none, none, none, none], [.ref 21])) rfl ?_
  have hTT : cT0 (gUp (gUp σ 31 3 0) 41 0 s) (dN0 D) (dC0 D) := by
    have := hT; unfold cT0 at this ⊢; rw [gUp_ne (by decide), gUp_ne (by decide), gUp_ne (by decide), gUp_ne (by decide)]; exact this
  refine gR.callp rfl (s_X0_size (by omega) (gUp (gUp σ 31 3 0) 41 0 s) D hTT) ?_
  refine gR.steps 2 (gUp (gUp σ 31 3 0) 41 0 s, (24, [some (.ref 18), some (.int s), some (.int (nI n)), some (.int (nI (dNb D))), none, none, none], [.int (nI (dNb D))])) rfl ?_
  refine gR.ifte rfl (fun zc24 => ?_) (fun zc24 => ?_)
  · rw [gN_eq (x := nI (dNb D)) (y := 0) (a := dNb D) (b := 0) rfl rfl (by omega) (by omega)] at zc24
    refine gR.steps 2 (gUp (gUp σ 31 3 0) 41 0 s, (31, [some (.ref 18), some (.int s), some (.int (nI n)), some (.int (nI (dNb D))), some (.int 0), none, none], [])) rfl ?_
    refine gR.forget [some (.ref 18), some (.int s), some (.int (nI n)), some (.int (nI (dNb D))), some (.int 0), none, none] ⟨rfl, ⟨rfl, ⟨rfl, ⟨rfl, ⟨rfl, trivial⟩⟩⟩⟩⟩ ?_
    refine gR.loop (α := Nat × gS) (fun ⟨e, τ⟩ => e ≤ n ∧ cDrF σ τ ∧ cEv τ 31 e (cK s) (cM s) (cB s (dNb D)) ∧ τ 41 0 = xSq s (3 * e)) (fun ⟨e, τ⟩ => n - e) (fun ⟨e, τ⟩ => (τ, (31, [some (.ref 18), some (.int s), some (.int (nI n)), some (.int (nI (dNb D))), some (.int (nI e)), none, none], []))) ?_ ⟨0, gUp (gUp σ 31 3 0) 41 0 s⟩ ⟨Nat.zero_le n, fun p a b c k e => by rw [gUp_ne e, gUp_ne a], ⟨by rw [gUp_o (by omega), gUp_s]; rfl, by omega, fun i hi => absurd hi (Nat.not_lt_zero i)⟩, gUp_s _ _ _ _⟩
    rintro ⟨e, τ⟩ ⟨he, hF, hE, hS⟩ ih
    show gR _ _ _ τ (31, [some (.ref 18), some (.int s), some (.int (nI n)), some (.int (nI (dNb D))), some (.int (nI e)), none, none], [])
    refine gR.steps 2 (τ, (34, [some (.ref 18), some (.int s), some (.int (nI n)), some (.int (nI (dNb D))), some (.int (nI e)), none, none], [.int (nI n), .int (nI e)])) rfl ?_
    refine gR.ifte rfl (fun zc34 => ?_) (fun zc34 => ?_)
    · rw [gN_le (x := nI n) (y := nI e) (a := n) (b := e) rfl rfl (by omega) (by omega)] at zc34
      show gR _ _ _ τ (84, [some (.ref 18), some (.int s), some (.int (nI n)), some (.int (nI (dNb D))), some (.int (nI e)), none, none], [])
      refine gR.ret rfl ?_
      obtain rfl : e = n := by omega
      exact ⟨trivial, rfl, hF, by rw [if_pos (by omega)]; exact hE⟩
    · rw [gN_le (x := nI n) (y := nI e) (a := n) (b := e) rfl rfl (by omega) (by omega)] at zc34
      refine gR.steps 3 (τ, (42, [some (.ref 18), some (.int s), some (.int (nI n)), some (.int (nI (dNb D))), some (.int (nI e)), none, none], [.int 4, .ref 41])) rfl ?_
      refine gR.call' rfl (s_X5_draw (by omega) τ (xSq s (3 * e)) 4 hS (by omega) (by omega)) ?_
      rintro _ _ ⟨rfl, rfl⟩ 
      show gR _ _ _ (gUp τ 41 0 (xNx (xSq s (3 * e)))) (45, [some (.ref 18), some (.int s), some (.int (nI n)), some (.int (nI (dNb D))), some (.int (nI e)), none, none], [.int (nI (cK s e))])
      refine gR.steps 4 (gUp τ 41 0 (xNx (xSq s (3 * e))), (53, [some (.ref 18), some (.int s), some (.int (nI n)), some (.int (nI (dNb D))), some (.int (nI e)), some (.int (nI (cK s e))), none], [.int 24, .ref 41])) rfl ?_
      refine gR.call' rfl (s_X5_draw (by omega) (gUp τ 41 0 (xNx (xSq s (3 * e)))) (xSq s (3 * e + 1)) 24 (by rw [gUp_s]; rfl) (by omega) (by omega)) ?_
      rintro _ _ ⟨rfl, rfl⟩ 
      show gR _ _ _ (gUp (gUp τ 41 0 (xNx (xSq s (3 * e)))) 41 0 (xNx (xSq s (3 * e + 1)))) (56, [some (.ref 18), some (.int s), some (.int (nI n)), some (.int (nI (dNb D))), some (.int (nI e)), some (.int (nI (cK s e))), none], [.int (nI (cM s e))])
      refine gR.steps 8 (gUp (gUp τ 41 0 (xNx (xSq s (3 * e)))) 41 0 (xNx (xSq s (3 * e + 1))), (71, [some (.ref 18), some (.int s), some (.int (nI n)), some (.int (nI (dNb D))), some (.int (nI e)), some (.int (nI (cK s e))), some (.int (nI (cM s e)))], [.int (nI (dNb D)), .ref 41, .int (nI (cM s e)), .int (nI (cK s e)), .ref 31])) rfl ?_
      refine gR.call' rfl (s_X5_draw (by omega) (gUp (gUp τ 41 0 (xNx (xSq s (3 * e)))) 41 0 (xNx (xSq s (3 * e + 1)))) (xSq s (3 * e + 2)) (dNb D) (by rw [gUp_s]; rfl) (by omega) (by omega)) ?_
      rintro _ _ ⟨rfl, rfl⟩ 
      show gR _ _ _ (gUp (gUp (gUp τ 41 0 (xNx (xSq s (3 * e)))) 41 0 (xNx (xSq s (3 * e + 1)))) 41 0 (xNx (xSq s (3 * e + 2)))) (74, [some (.ref 18), some (.int s), some (.int (nI n)), some (.int (nI (dNb D))), some (.int (nI e)), some (.int (nI (cK s e))), some (.int (nI (cM s e)))], [.int (nI (cB s (dNb D) e)), .int (nI (cM s e)), .int (nI (cK s e)), .ref 31])
      have hE1 : cEv (gUp (gUp (gUp τ 41 0 (xNx (xSq s (3 * e)))) 41 0 (xNx (xSq s (3 * e + 1)))) 41 0 (xNx (xSq s (3 * e + 2)))) 31 e (cK s) (cM s) (cB s (dNb D)) := by
        have := hE; unfold cEv at this ⊢; rw [gUp_ne (by decide), gUp_ne (by decide), gUp_ne (by decide), gUp_ne (by decide), gUp_ne (by decide), gUp_ne (by decide), gUp_ne (by decide), gUp_ne (by decide), gUp_ne (by decide), gUp_ne (by decide), gUp_ne (by decide), gUp_ne (by decide)]; exact this
      refine gR.call' rfl (s_X2_add31 (by omega) (gUp (gUp (gUp τ 41 0 (xNx (xSq s (3 * e)))) 41 0 (xNx (xSq s (3 * e + 1)))) 41 0 (xNx (xSq s (3 * e + 2)))) e (cK s) (cM s) (cB s (dNb D)) (cK s e) (cM s e) (cB s (dNb D) e) hE1 (by omega) (Nat.mod_lt _ (by decide)) (Nat.mod_lt _ (by decide)) (Nat.lt_of_lt_of_le (Nat.mod_lt _ (by omega)) hnb)) ?_
      rintro _ υ ⟨rfl, hF2, hE2⟩
      show gR _ _ _ υ (77, [some (.ref 18), some (.int s), some (.int (nI n)), some (.int (nI (dNb D))), some (.int (nI e)), some (.int (nI (cK s e))), some (.int (nI (cM s e)))], [.int (nI (e + 1))])
      refine gR.steps 3 (υ, (31, [some (.ref 18), some (.int s), some (.int (nI n)), some (.int (nI (dNb D))), some (.int ((nI e) + 1)), some (.int (nI (cK s e))), some (.int (nI (cM s e)))], [])) rfl ?_
      refine gR.forget [some (.ref 18), some (.int s), some (.int (nI n)), some (.int (nI (dNb D))), some (.int (nI (e + 1))), none, none] ⟨rfl, ⟨rfl, ⟨rfl, ⟨rfl, ⟨gSomeI (gN_add rfl rfl), trivial⟩⟩⟩⟩⟩ ?_
      have hzz := ih ⟨e + 1, υ⟩ ⟨by omega, fun p a b c k e => by rw [hF2 p a b c k, gUp_ne e, gUp_ne e, gUp_ne e]; exact hF p a b c k e, by rw [xPut_id, xPut_id, xPut_id] at hE2; exact hE2, by rw [hF2 41 (by decide) (by decide) (by decide) (by decide), gUp_s]; rfl⟩ (by dsimp only; omega)
      exact hzz
  · rw [gN_eq (x := nI (dNb D)) (y := 0) (a := dNb D) (b := 0) rfl rfl (by omega) (by omega)] at zc24
    show gR _ _ _ (gUp (gUp σ 31 3 0) 41 0 s) (27, [some (.ref 18), some (.int s), some (.int (nI n)), some (.int (nI (dNb D))), none, none, none], [])
    refine gR.ret rfl ?_
    refine ⟨trivial, rfl, fun p a b c k e => by rw [gUp_ne e, gUp_ne a], ?_⟩
    rw [if_neg (by omega)]
    exact ⟨by rw [gUp_o (by omega), gUp_s]; rfl, by omega, fun i hi => absurd hi (Nat.not_lt_zero i)⟩
theorem s_X10_century {d : Nat} (hd : 6 ≤ d) (σ : gS) (D : xDat) (s n w : Int32) (hs : cSt σ D) : gC d 70 [.ref 18, .int s, .int n, .int w] σ (fun r τ => r = some (.int (aCentury D s n w)) ∧ cKeep σ τ) := by
  obtain ⟨d, rfl⟩ : ∃ k, d = k + 1 := ⟨d - 1, by omega⟩
  refine gC.of (P := pX10_century) (nL := 4) (rt := (some (.int))) (lv := [some (.ref 18), some (.int s), some (.int n), some (.int w)]) (by decide +kernel) rfl rfl rfl (by simp [gEnt, Value.category]) rfl ?_
  refine gR.steps 3 (σ, (4, [some (.ref 18), some (.int s), some (.int n), some (.int w)], [.int 8, .int 0, .int n])) rfl ?_
  refine gR.callp rfl (s_X10_withinI (by omega) σ n 0 8 0 8 (by decide) (by decide)) ?_
  refine gR.ifte rfl (fun zc7 => ?_) (fun zc7 => ?_)
  · rw [bI_eq0] at zc7
    refine gR.steps 1 (σ, (21, [some (.ref 18), some (.int s), some (.int n), some (.int w)], [.int (-2)])) rfl ?_
    show gR _ _ _ σ (21, [some (.ref 18), some (.int s), some (.int n), some (.int w)], [.int (-2)])
    refine gR.ret rfl ?_
    exact ⟨trivial, by rw [show aCentury D s n w = -2 from if_neg (by omega)], cKeep.rf σ⟩
  · rw [bI_eq0, Decidable.not_not] at zc7
    obtain ⟨nn, hnn, rfl⟩ := gN_of (x := n) (n := 9) (by omega) (by omega) (by omega)
    refine gR.steps 3 (σ, (13, [some (.ref 18), some (.int s), some (.int (nI nn)), some (.int w)], [.int 1, .int 0, .int w])) rfl ?_
    refine gR.callp rfl (s_X10_withinI (by omega) σ w 0 1 0 1 (by decide) (by decide)) ?_
    refine gR.ifte rfl (fun zc16 => ?_) (fun zc16 => ?_)
    · rw [bI_ne0] at zc16
      obtain ⟨ww, hww, rfl⟩ := gN_of (x := w) (n := 2) (by omega) (by omega) (by omega)
      refine gR.steps 3 (σ, (25, [some (.ref 18), some (.int s), some (.int (nI nn)), some (.int (nI ww))], [.int (nI nn), .int s, .ref 18])) rfl ?_
      refine gR.call' rfl (s_X10_drawEvents (by omega) σ D s nn hs.1 (by omega)) ?_
      rintro _ τ ⟨rfl, hF, hE⟩
      have hst := hs.keep hF.keep
      have hc : cStE τ 31 (dCen D s nn) := ⟨hst.1, hst.2.1, hE, hst.2.2.2⟩
      show gR _ _ _ τ (28, [some (.ref 18), some (.int s), some (.int (nI nn)), some (.int (nI ww))], [])
      refine gR.steps 1 (τ, (29, [some (.ref 18), some (.int s), some (.int (nI nn)), some (.int (nI ww))], [.int (nI ww)])) rfl ?_
      refine gR.ifte rfl (fun zc29 => ?_) (fun zc29 => ?_)
      · rw [gN_eq (x := nI ww) (y := 0) (a := ww) (b := 0) rfl rfl (by omega) (by omega)] at zc29
        refine gR.steps 4 (τ, (56, [some (.ref 18), some (.int s), some (.int (nI nn)), some (.int (nI ww))], [.ref 31, .ref 19])) rfl ?_
        refine gR.call' rfl (s_X6_reckon31 (by omega) τ (dCen D s nn) hc) ?_
        rintro _ υ ⟨rfl, hF2, hR⟩
        have hK := hF.keep.tr hF2.keep
        show gR _ _ _ υ (59, [some (.ref 18), some (.int s), some (.int (nI nn)), some (.int (nI ww))], [])
        refine gR.steps 3 (υ, (66, [some (.ref 18), some (.int s), some (.int (nI nn)), some (.int (nI ww))], [.int (υ 19 7)])) rfl ?_
        show gR _ _ _ υ (66, [some (.ref 18), some (.int s), some (.int (nI nn)), some (.int (nI ww))], [.int (υ 19 7)])
        refine gR.ret rfl ?_
        refine ⟨trivial, ?_, hK⟩
        rw [show aCentury D s (nI nn) (nI ww) = _ from if_pos ⟨zc7, zc16⟩, nI_clamp (by omega), nI_clamp (by omega)]
        unfold dCentury
        rw [if_neg (show ¬ ww = 0 by omega)]; exact gSomeI hR.2.2.2
      · rw [gN_eq (x := nI ww) (y := 0) (a := ww) (b := 0) rfl rfl (by omega) (by omega)] at zc29
        refine gR.steps 5 (τ, (41, [some (.ref 18), some (.int s), some (.int (nI nn)), some (.int (nI ww))], [.int 0, .ref 31, .ref 20])) rfl ?_
        refine gR.call' rfl (s_X3_grow31 (by omega) τ (dCen D s nn) gn0 0 hc.1 hc.2.2.1 bGone_0) ?_
        rintro _ υ ⟨rfl, hF2, _⟩
        have hK := hF.keep.tr hF2.keep
        show gR _ _ _ υ (44, [some (.ref 18), some (.int s), some (.int (nI nn)), some (.int (nI ww))], [.int (dBareG (dCen D s nn) gn0)])
        refine gR.callp rfl (s_J6_bitCount_0f7a4 (by omega) υ (dBareG (dCen D s nn) gn0)) ?_
        show gR _ _ _ υ (47, [some (.ref 18), some (.int s), some (.int (nI nn)), some (.int (nI ww))], [.int (nI (xPop (dBareG (dCen D s nn) gn0)))])
        refine gR.ret rfl ?_
        refine ⟨trivial, ?_, hK⟩
        rw [show aCentury D s (nI nn) (nI ww) = _ from if_pos ⟨zc7, zc16⟩, nI_clamp (by omega), nI_clamp (by omega)]
        unfold dCentury
        rw [if_pos (show ww = 0 by omega)]; rfl
    · rw [bI_ne0] at zc16
      refine gR.steps 1 (σ, (21, [some (.ref 18), some (.int s), some (.int (nI nn)), some (.int w)], [.int (-2)])) rfl ?_
      show gR _ _ _ σ (21, [some (.ref 18), some (.int s), some (.int (nI nn)), some (.int w)], [.int (-2)])
      refine gR.ret rfl ?_
      exact ⟨trivial, by rw [show aCentury D s (nI nn) w = -2 from if_neg (by omega)], cKeep.rf σ⟩
