theorem cStE.fr {σ τ : gS} {e : Nat} {D : xDat} (h : cStE σ e D) (k : ∀ p, p = 22 ∨ p = 23 ∨ p = 25 ∨ p = 26 ∨ p = e ∨ p = e + 1 ∨ p = e + 2 ∨ p = e + 3 → τ p = σ p) (k8 : τ 19 8 = σ 19 8) (k9 : τ 19 9 = σ 19 9) : cStE τ e D := by
  unfold cStE cT0 cT1 cEv at *
  rw [k 22 (by omega), k 23 (by omega), k 25 (by omega), k 26 (by omega), k e (by omega), k (e + 1) (by omega), k (e + 2) (by omega), k (e + 3) (by omega), k8, k9]
  exact h
def cRkF (σ τ : gS) : Prop := (∀ p, p ≠ 19 → ¬ (46 ≤ p ∧ p ≤ 69) → τ p = σ p) ∧ ∀ s, s ≠ 6 → s ≠ 7 → τ 19 s = σ 19 s
theorem cRkF.keep {σ τ : gS} (h : cRkF σ τ) : cKeep σ τ := ⟨fun q a b => h.1 q a (fun z => b (by unfold cScr; omega)), h.2⟩
def cRk (τ : gS) (D : xDat) : Prop := cGr τ D gn0 ∧ cMk τ D ∧ (∀ m, m < 24 → τ 49 m = nI (dBel D none 0 (m + 1))) ∧ τ 19 7 = aRun D
theorem cMk.fr {σ τ : gS} {D : xDat} (h : cMk σ D) (h1 : τ 46 = σ 46) (h2 : τ 47 = σ 47) (h3 : τ 48 = σ 48) (h4 : τ 19 6 = σ 19 6) : cMk τ D := by
  unfold cMk cLk at *
  rw [h1, h2, h3, h4]; exact h
theorem s_X6_reckon27 {d : Nat} (hd : 5 ≤ d) (σ : gS) (D : xDat) (hs : cStE σ 27 D) : gC d 21 [.ref 19, .ref 27] σ (fun r τ => r = none ∧ cRkF σ τ ∧ cRk τ D) := by
  obtain ⟨d, rfl⟩ : ∃ k, d = k + 1 := ⟨d - 1, by omega⟩
  refine gC.of (P := pX6_reckon) (nL := 4) (rt := none) (lv := [some (.ref 19), some (.ref 27), none, none]) (by decide +kernel) rfl rfl rfl (by simp [gEnt, Value.category]) rfl ?_
  have hnb := dNb_le D hs.1.1.2.2.2.1
  have hnl := dNl_le D hs.2.1.1.2.2.2.1
  have hn8 := hs.2.2.1.2.1
  have hf100 := hs.2.2.2.2.1
  have hd50 := hs.2.2.2.2.2.2
  refine gR.steps 4 (σ, (6, [some (.ref 19), some (.ref 27), none, none], [.int 0, .ref 27, .ref 20])) rfl ?_
  refine gR.call' rfl (s_X3_grow27 (by omega) σ D gn0 0 hs.1 hs.2.2.1 bGone_0) ?_
  rintro _ τa ⟨rfl, hFa, hG⟩
  have hsa : cStE τa 27 D := hs.fr (fun p hp => hFa p (by omega)) (by rw [hFa 19 (by decide)]) (by rw [hFa 19 (by decide)])
  show gR _ _ _ τa (9, [some (.ref 19), some (.ref 27), none, none], [.int (dBareG D gn0)])
  refine gR.steps 3 (τa, (12, [some (.ref 19), some (.ref 27), none, none], [.ref 27, .ref 19])) rfl ?_
  refine gR.call' rfl (s_X6_countFires27 (by omega) τa D hsa.1 hsa.2.2.1) ?_
  rintro _ τf ⟨rfl, hFf, hfi⟩
  have hsf : cStE τf 27 D := hsa.fr (fun p hp => hFf p (by omega)) (by rw [hFf 19 (by decide)]) (by rw [hFf 19 (by decide)])
  have hGf : cGr τf D gn0 := hG.fr hnb (fun p a b => hFf p (by omega))
  show gR _ _ _ τf (15, [some (.ref 19), some (.ref 27), none, none], [])
  refine gR.steps 1 (τf, (16, [some (.ref 19), some (.ref 27), none, none], [.ref 19])) rfl ?_
  refine gR.call' rfl (s_X6_gatherLooks (by omega) τf D hsf.1 hsf.2.1 hGf) ?_
  rintro _ τg ⟨rfl, hFg, P, hLg⟩
  have hMg : cMk τg D := ⟨fun m hm => by rw [hFg.1 46 (by decide) (by decide) (by decide)]; exact hfi m hm, P, hLg⟩
  have hGg : cGr τg D gn0 := hGf.fr hnb (fun p a b => hFg.1 p (by omega) (by omega) (by omega))
  have h8 : τg 19 8 = nI (dF D) := (hFg.2 8 (by decide)).trans hsf.2.2.2.1
  have h9 : τg 19 9 = nI (dDb D) := (hFg.2 9 (by decide)).trans hsf.2.2.2.2.2.1
  show gR _ _ _ τg (19, [some (.ref 19), some (.ref 27), none, none], [])
  refine gR.steps 5 (gUp τg 19 7 (-1), (28, [some (.ref 19), some (.ref 27), none, none], [.int (τg 19 8)])) rfl ?_
  refine gR.topI (y := nI (dF D)) h8 ?_
  refine gR.steps 3 (gUp τg 19 7 (-1), (31, [some (.ref 19), some (.ref 27), some (.int (nI (dF D))), some (.int 0)], [])) rfl ?_
  refine gR.forget [some (.ref 19), some (.ref 27), some (.int (nI (dBel D none 0 0))), some (.int 0)] ⟨rfl, ⟨rfl, ⟨rfl, ⟨rfl, trivial⟩⟩⟩⟩ ?_
  refine gR.loop (α := Nat × gS) (fun ⟨m, τ⟩ => m ≤ 24 ∧ (∀ p, p ≠ 19 → p ≠ 49 → τ p = τg p) ∧ (∀ s, s ≠ 7 → τ 19 s = τg 19 s) ∧ (∀ j, j < m → τ 49 j = nI (dBel D none 0 (j + 1))) ∧ τ 19 7 = xRu (fun z => decide (dBel D none 0 (z + 1) < dDb D)) m) (fun ⟨m, τ⟩ => 24 - m) (fun ⟨m, τ⟩ => (τ, (31, [some (.ref 19), some (.ref 27), some (.int (nI (dBel D none 0 m))), some (.int (nI m))], []))) ?_ ⟨0, gUp τg 19 7 (-1)⟩ ⟨by omega, fun p a b => gUp_ne a, fun s a => gUp_o (by omega), fun j hj => absurd hj (Nat.not_lt_zero j), gUp_s _ _ _ _⟩
  rintro ⟨m, τ⟩ ⟨hm, hA, hB, hv, hr⟩ ih
  show gR _ _ _ τ (31, [some (.ref 19), some (.ref 27), some (.int (nI (dBel D none 0 m))), some (.int (nI m))], [])
  have hM : cMk τ D := hMg.fr (hA 46 (by decide) (by decide)) (hA 47 (by decide) (by decide)) (hA 48 (by decide) (by decide)) (hB 6 (by decide))
  have hbl := dBelN_le hf100 m
  have hbl2 := dBelN_le hf100 (m + 1)
  refine gR.steps 2 (τ, (34, [some (.ref 19), some (.ref 27), some (.int (nI (dBel D none 0 m))), some (.int (nI m))], [.int 24, .int (nI m)])) rfl ?_
  refine gR.ifte rfl (fun zc34 => ?_) (fun zc34 => ?_)
  · rw [gN_le (x := 24) (y := nI m) (a := 24) (b := m) rfl rfl (by omega) (by omega)] at zc34
    show gR _ _ _ τ (79, [some (.ref 19), some (.ref 27), some (.int (nI (dBel D none 0 m))), some (.int (nI m))], [])
    refine gR.ret rfl ?_
    obtain rfl : m = 24 := by omega
    refine ⟨trivial, rfl, ⟨fun p a b => ?_, fun s a b => ?_⟩, hGg.fr hnb (fun p a b => hA p (by omega) (by omega)), hM, hv, ?_⟩
    · rw [hA p a (by omega), hFg.1 p a (by omega) (by omega), hFf p (by omega), hFa p (by omega)]
    · rw [hB s b, hFg.2 s a, hFf 19 (by decide), hFa 19 (by decide)]
    · rw [hr]; exact xRu_rd _
  · rw [gN_le (x := 24) (y := nI m) (a := 24) (b := m) rfl rfl (by omega) (by omega)] at zc34
    refine gR.steps 4 (τ, (41, [some (.ref 19), some (.ref 27), some (.int (nI (dBel D none 0 m))), some (.int (nI m))], [.int 0, .int (nI (dBel D none 0 m)), .int (nI m), .ref 19])) rfl ?_
    refine gR.callp (x := .int (nI (dBel D none 0 (m + 1)))) rfl (by rw [dBel_n]; exact s_X6_behind0 (by omega) τ D m (dBel D none 0 m) hM (by omega) hbl hn8 hnl) ?_
    refine gR.steps 5 (τ, (51, [some (.ref 19), some (.ref 27), some (.int (nI (dBel D none 0 (m + 1)))), some (.int (nI m))], [.int (nI (dBel D none 0 (m + 1))), .int (nI m), .ref 49])) rfl ?_
    refine gR.ast (i := nI m) (j := m) (N := 24) (q := 49) (x := nI (dBel D none 0 (m + 1))) rfl rfl (by omega) (by omega) ?_
    refine gR.steps 3 (gUp τ 49 m (nI (dBel D none 0 (m + 1))), (57, [some (.ref 19), some (.ref 27), some (.int (nI (dBel D none 0 (m + 1)))), some (.int (nI m))], [.int (-1), .int (τ 19 7)])) rfl ?_
    refine gR.ifte rfl (fun zc57 => ?_) (fun zc57 => ?_)
    · refine gR.steps 2 (gUp τ 49 m (nI (dBel D none 0 (m + 1))), (31, [some (.ref 19), some (.ref 27), some (.int (nI (dBel D none 0 (m + 1)))), some (.int ((nI m) + 1))], [])) rfl ?_
      refine gR.forget [some (.ref 19), some (.ref 27), some (.int (nI (dBel D none 0 (m + 1)))), some (.int (nI (m + 1)))] ⟨rfl, ⟨rfl, ⟨rfl, ⟨gSomeI (gN_add rfl rfl), trivial⟩⟩⟩⟩ ?_
      have hzz := ih ⟨m + 1, (gUp τ 49 m (nI (dBel D none 0 (m + 1))))⟩ ⟨by omega, fun p a b => by rw [gUp_ne b]; exact hA p a b, fun s a => by rw [gUp_o (by omega)]; exact hB s a, lt_s (fun j hj => by rw [gUp_o (by omega)]; exact hv j hj) (by exact gUp_s _ _ _ _), by rw [gUp_o (by omega), hr]; simp only [xRu]; first | rw [if_neg (fun z => zc57 (hr.trans z.1))] | rw [if_neg (fun z => absurd (of_decide_eq_true z.2) (by omega))]⟩ (by dsimp only; omega)
      exact hzz
    · rw [Decidable.not_not] at zc57
      refine gR.steps 3 (gUp τ 49 m (nI (dBel D none 0 (m + 1))), (65, [some (.ref 19), some (.ref 27), some (.int (nI (dBel D none 0 (m + 1)))), some (.int (nI m))], [.int (τ 19 9), .int (nI (dBel D none 0 (m + 1)))])) rfl ?_
      refine gR.topI (y := nI (dDb D)) ((hB 9 (by decide)).trans h9) ?_
      refine gR.ifte rfl (fun zc65 => ?_) (fun zc65 => ?_)
      · rw [gN_le (x := nI (dDb D)) (y := nI (dBel D none 0 (m + 1))) (a := dDb D) (b := dBel D none 0 (m + 1)) rfl rfl (by omega) (by omega)] at zc65
        refine gR.steps 2 (gUp τ 49 m (nI (dBel D none 0 (m + 1))), (31, [some (.ref 19), some (.ref 27), some (.int (nI (dBel D none 0 (m + 1)))), some (.int ((nI m) + 1))], [])) rfl ?_
        refine gR.forget [some (.ref 19), some (.ref 27), some (.int (nI (dBel D none 0 (m + 1)))), some (.int (nI (m + 1)))] ⟨rfl, ⟨rfl, ⟨rfl, ⟨gSomeI (gN_add rfl rfl), trivial⟩⟩⟩⟩ ?_
        have hzz := ih ⟨m + 1, (gUp τ 49 m (nI (dBel D none 0 (m + 1))))⟩ ⟨by omega, fun p a b => by rw [gUp_ne b]; exact hA p a b, fun s a => by rw [gUp_o (by omega)]; exact hB s a, lt_s (fun j hj => by rw [gUp_o (by omega)]; exact hv j hj) (by exact gUp_s _ _ _ _), by rw [gUp_o (by omega), hr]; simp only [xRu]; first | rw [if_neg (fun z => zc57 (hr.trans z.1))] | rw [if_neg (fun z => absurd (of_decide_eq_true z.2) (by omega))]⟩ (by dsimp only; omega)
        exact hzz
      · rw [gN_le (x := nI (dDb D)) (y := nI (dBel D none 0 (m + 1))) (a := dDb D) (b := dBel D none 0 (m + 1)) rfl rfl (by omega) (by omega)] at zc65
        refine gR.steps 5 (gUp (gUp τ 49 m (nI (dBel D none 0 (m + 1)))) 19 7 (nI m), (31, [some (.ref 19), some (.ref 27), some (.int (nI (dBel D none 0 (m + 1)))), some (.int ((nI m) + 1))], [])) rfl ?_
        refine gR.forget [some (.ref 19), some (.ref 27), some (.int (nI (dBel D none 0 (m + 1)))), some (.int (nI (m + 1)))] ⟨rfl, ⟨rfl, ⟨rfl, ⟨gSomeI (gN_add rfl rfl), trivial⟩⟩⟩⟩ ?_
        have hzz := ih ⟨m + 1, (gUp (gUp τ 49 m (nI (dBel D none 0 (m + 1)))) 19 7 (nI m))⟩ ⟨by omega, fun p a b => by rw [gUp_ne a, gUp_ne b]; exact hA p a b, fun s a => by rw [gUp_o (by omega), gUp_o (by omega)]; exact hB s a, lt_s (fun j hj => by rw [gUp_o (by omega)]; rw [gUp_o (by omega)]; exact hv j hj) (by rw [gUp_o (by omega)]; exact gUp_s _ _ _ _), by rw [gUp_s]; simp only [xRu]; rw [if_pos ⟨hr.symm.trans zc57, decide_eq_true (by omega)⟩]⟩ (by dsimp only; omega)
        exact hzz
theorem s_X6_reckon31 {d : Nat} (hd : 5 ≤ d) (σ : gS) (D : xDat) (hs : cStE σ 31 D) : gC d 21 [.ref 19, .ref 31] σ (fun r τ => r = none ∧ cRkF σ τ ∧ cRk τ D) := by
  obtain ⟨d, rfl⟩ : ∃ k, d = k + 1 := ⟨d - 1, by omega⟩
  refine gC.of (P := pX6_reckon) (nL := 4) (rt := none) (lv := [some (.ref 19), some (.ref 31), none, none]) (by decide +kernel) rfl rfl rfl (by simp [gEnt, Value.category]) rfl ?_
  have hnb := dNb_le D hs.1.1.2.2.2.1
  have hnl := dNl_le D hs.2.1.1.2.2.2.1
  have hn8 := hs.2.2.1.2.1
  have hf100 := hs.2.2.2.2.1
  have hd50 := hs.2.2.2.2.2.2
  refine gR.steps 4 (σ, (6, [some (.ref 19), some (.ref 31), none, none], [.int 0, .ref 31, .ref 20])) rfl ?_
  refine gR.call' rfl (s_X3_grow31 (by omega) σ D gn0 0 hs.1 hs.2.2.1 bGone_0) ?_
  rintro _ τa ⟨rfl, hFa, hG⟩
  have hsa : cStE τa 31 D := hs.fr (fun p hp => hFa p (by omega)) (by rw [hFa 19 (by decide)]) (by rw [hFa 19 (by decide)])
  show gR _ _ _ τa (9, [some (.ref 19), some (.ref 31), none, none], [.int (dBareG D gn0)])
  refine gR.steps 3 (τa, (12, [some (.ref 19), some (.ref 31), none, none], [.ref 31, .ref 19])) rfl ?_
  refine gR.call' rfl (s_X6_countFires31 (by omega) τa D hsa.1 hsa.2.2.1) ?_
  rintro _ τf ⟨rfl, hFf, hfi⟩
  have hsf : cStE τf 31 D := hsa.fr (fun p hp => hFf p (by omega)) (by rw [hFf 19 (by decide)]) (by rw [hFf 19 (by decide)])
  have hGf : cGr τf D gn0 := hG.fr hnb (fun p a b => hFf p (by omega))
  show gR _ _ _ τf (15, [some (.ref 19), some (.ref 31), none, none], [])
  refine gR.steps 1 (τf, (16, [some (.ref 19), some (.ref 31), none, none], [.ref 19])) rfl ?_
  refine gR.call' rfl (s_X6_gatherLooks (by omega) τf D hsf.1 hsf.2.1 hGf) ?_
  rintro _ τg ⟨rfl, hFg, P, hLg⟩
  have hMg : cMk τg D := ⟨fun m hm => by rw [hFg.1 46 (by decide) (by decide) (by decide)]; exact hfi m hm, P, hLg⟩
  have hGg : cGr τg D gn0 := hGf.fr hnb (fun p a b => hFg.1 p (by omega) (by omega) (by omega))
  have h8 : τg 19 8 = nI (dF D) := (hFg.2 8 (by decide)).trans hsf.2.2.2.1
  have h9 : τg 19 9 = nI (dDb D) := (hFg.2 9 (by decide)).trans hsf.2.2.2.2.2.1
  show gR _ _ _ τg (19, [some (.ref 19), some (.ref 31), none, none], [])
  refine gR.steps 5 (gUp τg 19 7 (-1), (28, [some (.ref 19), some (.ref 31), none, none], [.int (τg 19 8)])) rfl ?_
  refine gR.topI (y := nI (dF D)) h8 ?_
  refine gR.steps 3 (gUp τg 19 7 (-1), (31, [some (.ref 19), some (.ref 31), some (.int (nI (dF D))), some (.int 0)], [])) rfl ?_
  refine gR.forget [some (.ref 19), some (.ref 31), some (.int (nI (dBel D none 0 0))), some (.int 0)] ⟨rfl, ⟨rfl, ⟨rfl, ⟨rfl, trivial⟩⟩⟩⟩ ?_
  refine gR.loop (α := Nat × gS) (fun ⟨m, τ⟩ => m ≤ 24 ∧ (∀ p, p ≠ 19 → p ≠ 49 → τ p = τg p) ∧ (∀ s, s ≠ 7 → τ 19 s = τg 19 s) ∧ (∀ j, j < m → τ 49 j = nI (dBel D none 0 (j + 1))) ∧ τ 19 7 = xRu (fun z => decide (dBel D none 0 (z + 1) < dDb D)) m) (fun ⟨m, τ⟩ => 24 - m) (fun ⟨m, τ⟩ => (τ, (31, [some (.ref 19), some (.ref 31), some (.int (nI (dBel D none 0 m))), some (.int (nI m))], []))) ?_ ⟨0, gUp τg 19 7 (-1)⟩ ⟨by omega, fun p a b => gUp_ne a, fun s a => gUp_o (by omega), fun j hj => absurd hj (Nat.not_lt_zero j), gUp_s _ _ _ _⟩
  rintro ⟨m, τ⟩ ⟨hm, hA, hB, hv, hr⟩ ih
  show gR _ _ _ τ (31, [some (.ref 19), some (.ref 31), some (.int (nI (dBel D none 0 m))), some (.int (nI m))], [])
  have hM : cMk τ D := hMg.fr (hA 46 (by decide) (by decide)) (hA 47 (by decide) (by decide)) (hA 48 (by decide) (by decide)) (hB 6 (by decide))
  have hbl := dBelN_le hf100 m
  have hbl2 := dBelN_le hf100 (m + 1)
  refine gR.steps 2 (τ, (34, [some (.ref 19), some (.ref 31), some (.int (nI (dBel D none 0 m))), some (.int (nI m))], [.int 24, .int (nI m)])) rfl ?_
  refine gR.ifte rfl (fun zc34 => ?_) (fun zc34 => ?_)
  · rw [gN_le (x := 24) (y := nI m) (a := 24) (b := m) rfl rfl (by omega) (by omega)] at zc34
    show gR _ _ _ τ (79, [some (.ref 19), some (.ref 31), some (.int (nI (dBel D none 0 m))), some (.int (nI m))], [])
    refine gR.ret rfl ?_
    obtain rfl : m = 24 := by omega
    refine ⟨trivial, rfl, ⟨fun p a b => ?_, fun s a b => ?_⟩, hGg.fr hnb (fun p a b => hA p (by omega) (by omega)), hM, hv, ?_⟩
    · rw [hA p a (by omega), hFg.1 p a (by omega) (by omega), hFf p (by omega), hFa p (by omega)]
    · rw [hB s b, hFg.2 s a, hFf 19 (by decide), hFa 19 (by decide)]
    · rw [hr]; exact xRu_rd _
  · rw [gN_le (x := 24) (y := nI m) (a := 24) (b := m) rfl rfl (by omega) (by omega)] at zc34
    refine gR.steps 4 (τ, (41, [some (.ref 19), some (.ref 31), some (.int (nI (dBel D none 0 m))), some (.int (nI m))], [.int 0, .int (nI (dBel D none 0 m)), .int (nI m), .ref 19])) rfl ?_
    refine gR.callp (x := .int (nI (dBel D none 0 (m + 1)))) rfl (by rw [dBel_n]; exact s_X6_behind0 (by omega) τ D m (dBel D none 0 m) hM (by omega) hbl hn8 hnl) ?_
    refine gR.steps 5 (τ, (51, [some (.ref 19), some (.ref 31), some (.int (nI (dBel D none 0 (m + 1)))), some (.int (nI m))], [.int (nI (dBel D none 0 (m + 1))), .int (nI m), .ref 49])) rfl ?_
    refine gR.ast (i := nI m) (j := m) (N := 24) (q := 49) (x := nI (dBel D none 0 (m + 1))) rfl rfl (by omega) (by omega) ?_
    refine gR.steps 3 (gUp τ 49 m (nI (dBel D none 0 (m + 1))), (57, [some (.ref 19), some (.ref 31), some (.int (nI (dBel D none 0 (m + 1)))), some (.int (nI m))], [.int (-1), .int (τ 19 7)])) rfl ?_
    refine gR.ifte rfl (fun zc57 => ?_) (fun zc57 => ?_)
    · refine gR.steps 2 (gUp τ 49 m (nI (dBel D none 0 (m + 1))), (31, [some (.ref 19), some (.ref 31), some (.int (nI (dBel D none 0 (m + 1)))), some (.int ((nI m) + 1))], [])) rfl ?_
      refine gR.forget [some (.ref 19), some (.ref 31), some (.int (nI (dBel D none 0 (m + 1)))), some (.int (nI (m + 1)))] ⟨rfl, ⟨rfl, ⟨rfl, ⟨gSomeI (gN_add rfl rfl), trivial⟩⟩⟩⟩ ?_
      have hzz := ih ⟨m + 1, (gUp τ 49 m (nI (dBel D none 0 (m + 1))))⟩ ⟨by omega, fun p a b => by rw [gUp_ne b]; exact hA p a b, fun s a => by rw [gUp_o (by omega)]; exact hB s a, lt_s (fun j hj => by rw [gUp_o (by omega)]; exact hv j hj) (by exact gUp_s _ _ _ _), by rw [gUp_o (by omega), hr]; simp only [xRu]; first | rw [if_neg (fun z => zc57 (hr.trans z.1))] | rw [if_neg (fun z => absurd (of_decide_eq_true z.2) (by omega))]⟩ (by dsimp only; omega)
      exact hzz
    · rw [Decidable.not_not] at zc57
      refine gR.steps 3 (gUp τ 49 m (nI (dBel D none 0 (m + 1))), (65, [some (.ref 19), some (.ref 31), some (.int (nI (dBel D none 0 (m + 1)))), some (.int (nI m))], [.int (τ 19 9), .int (nI (dBel D none 0 (m + 1)))])) rfl ?_
      refine gR.topI (y := nI (dDb D)) ((hB 9 (by decide)).trans h9) ?_
      refine gR.ifte rfl (fun zc65 => ?_) (fun zc65 => ?_)
      · rw [gN_le (x := nI (dDb D)) (y := nI (dBel D none 0 (m + 1))) (a := dDb D) (b := dBel D none 0 (m + 1)) rfl rfl (by omega) (by omega)] at zc65
        refine gR.steps 2 (gUp τ 49 m (nI (dBel D none 0 (m + 1))), (31, [some (.ref 19), some (.ref 31), some (.int (nI (dBel D none 0 (m + 1)))), some (.int ((nI m) + 1))], [])) rfl ?_
        refine gR.forget [some (.ref 19), some (.ref 31), some (.int (nI (dBel D none 0 (m + 1)))), some (.int (nI (m + 1)))] ⟨rfl, ⟨rfl, ⟨rfl, ⟨gSomeI (gN_add rfl rfl), trivial⟩⟩⟩⟩ ?_
        have hzz := ih ⟨m + 1, (gUp τ 49 m (nI (dBel D none 0 (m + 1))))⟩ ⟨by omega, fun p a b => by rw [gUp_ne b]; exact hA p a b, fun s a => by rw [gUp_o (by omega)]; exact hB s a, lt_s (fun j hj => by rw [gUp_o (by omega)]; exact hv j hj) (by exact gUp_s _ _ _ _), by rw [gUp_o (by omega), hr]; simp only [xRu]; first | rw [if_neg (fun z => zc57 (hr.trans z.1))] | rw [if_neg (fun z => absurd (of_decide_eq_true z.2) (by omega))]⟩ (by dsimp only; omega)
        exact hzz
      · rw [gN_le (x := nI (dDb D)) (y := nI (dBel D none 0 (m + 1))) (a := dDb D) (b := dBel D none 0 (m + 1)) rfl rfl (by omega) (by omega)] at zc65
        refine gR.steps 5 (gUp (gUp τ 49 m (nI (dBel D none 0 (m + 1)))) 19 7 (nI m), (31, [some (.ref 19), some (.ref 31), some (.int (nI (dBel D none 0 (m + 1)))), some (.int ((nI m) + 1))], [])) rfl ?_
        refine gR.forget [some (.ref 19), some (.ref 31), some (.int (nI (dBel D none 0 (m + 1)))), some (.int (nI (m + 1)))] ⟨rfl, ⟨rfl, ⟨rfl, ⟨gSomeI (gN_add rfl rfl), trivial⟩⟩⟩⟩ ?_
        have hzz := ih ⟨m + 1, (gUp (gUp τ 49 m (nI (dBel D none 0 (m + 1)))) 19 7 (nI m))⟩ ⟨by omega, fun p a b => by rw [gUp_ne a, gUp_ne b]; exact hA p a b, fun s a => by rw [gUp_o (by omega), gUp_o (by omega)]; exact hB s a, lt_s (fun j hj => by rw [gUp_o (by omega)]; rw [gUp_o (by omega)]; exact hv j hj) (by rw [gUp_o (by omega)]; exact gUp_s _ _ _ _), by rw [gUp_s]; simp only [xRu]; rw [if_pos ⟨hr.symm.trans zc57, decide_eq_true (by omega)⟩]⟩ (by dsimp only; omega)
        exact hzz
theorem s_X6_runWithA {d : Nat} (hd : 4 ≤ d) (σ : gS) (D : xDat) (m0 b : Nat) (hs : cSt σ D) (hR : cRk σ D) (hm0 : m0 < 24) (hb : b < dNb D) (hr : aRun D = -1) (hno : ∀ j, j < 24 → ¬ dBel D none 0 (j + 1) < dDb D) : gC d 22 [.ref 19, .int (nI m0), .int (nI b)] σ (fun r τ => r = some (.int (dRun (fun m => dBel D (some m0) b (m + 1)) (dDb D))) ∧ τ = σ) := by
  obtain ⟨d, rfl⟩ : ∃ k, d = k + 1 := ⟨d - 1, by omega⟩
  refine gC.of (P := pX6_runWith) (nL := 6) (rt := (some (.int))) (lv := [some (.ref 19), some (.int (nI m0)), some (.int (nI b)), none, none, none]) (by decide +kernel) rfl rfl rfl (by simp [gEnt, Value.category]) rfl ?_
  have hn8 := hs.2.2.1.2.1
  have hf100 := hs.2.2.2.2.1
  have hd50 := hs.2.2.2.2.2.2
  have hnl := dNl_le D hs.2.1.1.2.2.2.1
  have hnb := dNb_le D hs.1.1.2.2.2.1
  have hbm := dBelN_le hf100 (m0 - 1 + 1)
  have hpre : ∀ j, j < m0 → ¬ dBel D (some m0) b (j + 1) < dDb D := fun j hj => by rw [dBel_p (by omega)]; exact hno j (by omega)
  refine gR.steps 3 (σ, (5, [some (.ref 19), some (.int (nI m0)), some (.int (nI b)), none, none, none], [.int (-1), .int (σ 19 7)])) rfl ?_
  refine gR.brT rfl (hR.2.2.2.trans hr) ?_
  refine gR.join (α := Int32) σ (fun zv => (40, [some (.ref 19), some (.int (nI m0)), some (.int (nI b)), none, none, none], [.int zv])) (nI (dBel D (some m0) b m0)) ?_ (fun zj40 => ?_)
  · refine gR.steps 4 (σ, (44, [some (.ref 19), some (.int (nI m0)), some (.int (nI b)), some (.int (nI (dBel D (some m0) b m0))), none, none], [.int (nI b), .int (nI m0), .ref 19])) rfl ?_
    refine gR.callp rfl (s_X6_worthOf (by omega) σ D m0 b hs.1 hR.1 hm0 hb) ?_
    refine gR.steps 3 (σ, (52, [some (.ref 19), some (.int (nI m0)), some (.int (nI b)), some (.int (nI (dBel D (some m0) b m0))), some (.int (dWo D m0 b)), some (.int (nI m0))], [])) rfl ?_
    refine gR.forget [some (.ref 19), some (.int (nI m0)), some (.int (nI b)), some (.int (nI (dBel D (some m0) b m0))), some (.int (dWo D m0 b)), some (.int (nI m0))] ⟨rfl, ⟨rfl, ⟨rfl, ⟨rfl, ⟨rfl, ⟨rfl, trivial⟩⟩⟩⟩⟩⟩ ?_
    refine gR.loop (α := Nat) (fun m => m0 ≤ m ∧ m ≤ 24 ∧ ∀ j, j < m → ¬ dBel D (some m0) b (j + 1) < dDb D) (fun m => 24 - m) (fun m => (σ, (52, [some (.ref 19), some (.int (nI m0)), some (.int (nI b)), some (.int (nI (dBel D (some m0) b m))), some (.int (dWo D m0 b)), some (.int (nI m))], []))) ?_ m0 ⟨Nat.le_refl _, by omega, hpre⟩
    rintro m ⟨hm1, hm2, hno2⟩ ih
    show gR _ _ _ σ (52, [some (.ref 19), some (.int (nI m0)), some (.int (nI b)), some (.int (nI (dBel D (some m0) b m))), some (.int (dWo D m0 b)), some (.int (nI m))], [])
    have hbl := dBelS_le (m0 := m0) (b := b) hf100 m
    have hbl2 := dBelS_le (m0 := m0) (b := b) hf100 (m + 1)
    refine gR.steps 2 (σ, (56, [some (.ref 19), some (.int (nI m0)), some (.int (nI b)), some (.int (nI (dBel D (some m0) b m))), some (.int (dWo D m0 b)), some (.int (nI m))], [.int 24, .int (nI m)])) rfl ?_
    refine gR.ifte rfl (fun zc56 => ?_) (fun zc56 => ?_)
    · rw [gN_le (x := 24) (y := nI m) (a := 24) (b := m) rfl rfl (by omega) (by omega)] at zc56
      refine gR.steps 1 (σ, (97, [some (.ref 19), some (.int (nI m0)), some (.int (nI b)), some (.int (nI (dBel D (some m0) b m))), some (.int (dWo D m0 b)), some (.int (nI m))], [.int (-1)])) rfl ?_
      show gR _ _ _ σ (97, [some (.ref 19), some (.int (nI m0)), some (.int (nI b)), some (.int (nI (dBel D (some m0) b m))), some (.int (dWo D m0 b)), some (.int (nI m))], [.int (-1)])
      refine gR.ret rfl ?_
      exact ⟨trivial, gSomeI (xRD_no (p := fun z => decide (dBel D (some m0) b (z + 1) < dDb D)) (fun j hj z => hno2 j (by omega) (of_decide_eq_true z)) 24 (by omega)).symm, rfl⟩
    · rw [gN_le (x := 24) (y := nI m) (a := 24) (b := m) rfl rfl (by omega) (by omega)] at zc56
      refine gR.steps 5 (σ, (66, [some (.ref 19), some (.int (nI m0)), some (.int (nI b)), some (.int (nI (dBel D (some m0) b m))), some (.int (dWo D m0 b)), some (.int (nI m))], [.int (nI m0), .int (nI m), .int (nI (dBel D (some m0) b m)), .int (nI m), .ref 19])) rfl ?_
      refine gR.ifte rfl (fun zc66 => ?_) (fun zc66 => ?_)
      · rw [gN_eq (x := nI m) (y := nI m0) (a := m) (b := m0) rfl rfl (by omega) (by omega)] at zc66
        refine gR.steps 1 (σ, (75, [some (.ref 19), some (.int (nI m0)), some (.int (nI b)), some (.int (nI (dBel D (some m0) b m))), some (.int (dWo D m0 b)), some (.int (nI m))], [.int 0, .int (nI (dBel D (some m0) b m)), .int (nI m), .ref 19])) rfl ?_
        refine gR.callp (x := .int (nI (dBel D (some m0) b (m + 1)))) rfl (by rw [dBel_o zc66]; exact s_X6_behind0 (by omega) σ D m (dBel D (some m0) b m) hR.2.1 (by omega) hbl hn8 hnl) ?_
        refine gR.steps 4 (σ, (84, [some (.ref 19), some (.int (nI m0)), some (.int (nI b)), some (.int (nI (dBel D (some m0) b (m + 1)))), some (.int (dWo D m0 b)), some (.int (nI m))], [.int (σ 19 9), .int (nI (dBel D (some m0) b (m + 1)))])) rfl ?_
        refine gR.topI (y := nI (dDb D)) hs.2.2.2.2.2.1 ?_
        refine gR.ifte rfl (fun zc84 => ?_) (fun zc84 => ?_)
        · rw [gN_le (x := nI (dDb D)) (y := nI (dBel D (some m0) b (m + 1))) (a := dDb D) (b := dBel D (some m0) b (m + 1)) rfl rfl (by omega) (by omega)] at zc84
          refine gR.steps 2 (σ, (52, [some (.ref 19), some (.int (nI m0)), some (.int (nI b)), some (.int (nI (dBel D (some m0) b (m + 1)))), some (.int (dWo D m0 b)), some (.int ((nI m) + 1))], [])) rfl ?_
          refine gR.forget [some (.ref 19), some (.int (nI m0)), some (.int (nI b)), some (.int (nI (dBel D (some m0) b (m + 1)))), some (.int (dWo D m0 b)), some (.int (nI (m + 1)))] ⟨rfl, ⟨rfl, ⟨rfl, ⟨rfl, ⟨rfl, ⟨gSomeI (gN_add rfl rfl), trivial⟩⟩⟩⟩⟩⟩ ?_
          have hzz := ih (m + 1) ⟨by omega, by omega, lt_s hno2 (by omega)⟩ (by omega)
          exact hzz
        · rw [gN_le (x := nI (dDb D)) (y := nI (dBel D (some m0) b (m + 1))) (a := dDb D) (b := dBel D (some m0) b (m + 1)) rfl rfl (by omega) (by omega)] at zc84
          refine gR.steps 1 (σ, (89, [some (.ref 19), some (.int (nI m0)), some (.int (nI b)), some (.int (nI (dBel D (some m0) b (m + 1)))), some (.int (dWo D m0 b)), some (.int (nI m))], [.int (nI m)])) rfl ?_
          show gR _ _ _ σ (89, [some (.ref 19), some (.int (nI m0)), some (.int (nI b)), some (.int (nI (dBel D (some m0) b (m + 1)))), some (.int (dWo D m0 b)), some (.int (nI m))], [.int (nI m)])
          refine gR.ret rfl ?_
          exact ⟨trivial, gSomeI (xRD_at (p := fun z => decide (dBel D (some m0) b (z + 1) < dDb D)) (by omega) (decide_eq_true (by omega)) (fun j hj z => hno2 j hj (of_decide_eq_true z)) 24 (by omega) (by omega)).symm, rfl⟩
      · rw [gN_eq (x := nI m) (y := nI m0) (a := m) (b := m0) rfl rfl (by omega) (by omega)] at zc66
        refine gR.steps 2 (σ, (75, [some (.ref 19), some (.int (nI m0)), some (.int (nI b)), some (.int (nI (dBel D (some m0) b m))), some (.int (dWo D m0 b)), some (.int (nI m))], [.int (dWo D m0 b), .int (nI (dBel D (some m0) b m)), .int (nI m), .ref 19])) rfl ?_
        refine gR.callp (x := .int (nI (dBel D (some m0) b (m + 1)))) rfl (by
        have e : m0 = m := by omega
        subst e
        rw [dBel_a]
        exact s_X6_behindW (by omega) σ D m0 (dBel D (some m0) b m0) b hR.2.1 (by omega) hbl hn8 hnl hb) ?_
        refine gR.steps 4 (σ, (84, [some (.ref 19), some (.int (nI m0)), some (.int (nI b)), some (.int (nI (dBel D (some m0) b (m + 1)))), some (.int (dWo D m0 b)), some (.int (nI m))], [.int (σ 19 9), .int (nI (dBel D (some m0) b (m + 1)))])) rfl ?_
        refine gR.topI (y := nI (dDb D)) hs.2.2.2.2.2.1 ?_
        refine gR.ifte rfl (fun zc84 => ?_) (fun zc84 => ?_)
        · rw [gN_le (x := nI (dDb D)) (y := nI (dBel D (some m0) b (m + 1))) (a := dDb D) (b := dBel D (some m0) b (m + 1)) rfl rfl (by omega) (by omega)] at zc84
          refine gR.steps 2 (σ, (52, [some (.ref 19), some (.int (nI m0)), some (.int (nI b)), some (.int (nI (dBel D (some m0) b (m + 1)))), some (.int (dWo D m0 b)), some (.int ((nI m) + 1))], [])) rfl ?_
          refine gR.forget [some (.ref 19), some (.int (nI m0)), some (.int (nI b)), some (.int (nI (dBel D (some m0) b (m + 1)))), some (.int (dWo D m0 b)), some (.int (nI (m + 1)))] ⟨rfl, ⟨rfl, ⟨rfl, ⟨rfl, ⟨rfl, ⟨gSomeI (gN_add rfl rfl), trivial⟩⟩⟩⟩⟩⟩ ?_
          have hzz := ih (m + 1) ⟨by omega, by omega, lt_s hno2 (by omega)⟩ (by omega)
          exact hzz
        · rw [gN_le (x := nI (dDb D)) (y := nI (dBel D (some m0) b (m + 1))) (a := dDb D) (b := dBel D (some m0) b (m + 1)) rfl rfl (by omega) (by omega)] at zc84
          refine gR.steps 1 (σ, (89, [some (.ref 19), some (.int (nI m0)), some (.int (nI b)), some (.int (nI (dBel D (some m0) b (m + 1)))), some (.int (dWo D m0 b)), some (.int (nI m))], [.int (nI m)])) rfl ?_
          show gR _ _ _ σ (89, [some (.ref 19), some (.int (nI m0)), some (.int (nI b)), some (.int (nI (dBel D (some m0) b (m + 1)))), some (.int (dWo D m0 b)), some (.int (nI m))], [.int (nI m)])
          refine gR.ret rfl ?_
          exact ⟨trivial, gSomeI (xRD_at (p := fun z => decide (dBel D (some m0) b (z + 1) < dDb D)) (by omega) (decide_eq_true (by omega)) (fun j hj z => hno2 j hj (of_decide_eq_true z)) 24 (by omega) (by omega)).symm, rfl⟩
  · refine gR.steps 1 (σ, (22, [some (.ref 19), some (.int (nI m0)), some (.int (nI b)), none, none, none], [.int (nI m0)])) rfl ?_
    refine gR.ifte rfl (fun zc22 => ?_) (fun zc22 => ?_)
    · rw [gN_le (x := nI m0) (y := 0) (a := m0) (b := 0) rfl rfl (by omega) (by omega)] at zc22
      refine gR.steps 2 (σ, (40, [some (.ref 19), some (.int (nI m0)), some (.int (nI b)), none, none, none], [.int (σ 19 8)])) rfl ?_
      refine gR.topI (y := nI (dF D)) hs.2.2.2.1 ?_
      exact zj40 _ (by rw [show m0 = 0 by omega]; rfl)
    · rw [gN_le (x := nI m0) (y := 0) (a := m0) (b := 0) rfl rfl (by omega) (by omega)] at zc22
      refine gR.steps 5 (σ, (32, [some (.ref 19), some (.int (nI m0)), some (.int (nI b)), none, none, none], [.int ((nI m0) - 1), .ref 49])) rfl ?_
      refine gR.ald (i := (nI m0) - 1) (j := m0 - 1) (N := 24) (g := σ 49) rfl (gN_sub rfl rfl (by omega)) (by omega) (by omega) ?_
      refine gR.topI (y := nI (dBel D none 0 (m0 - 1 + 1))) (hR.2.2.1 (m0 - 1) (by omega)) ?_
      refine gR.steps 1 (σ, (40, [some (.ref 19), some (.int (nI m0)), some (.int (nI b)), none, none, none], [.int (nI (dBel D none 0 (m0 - 1 + 1)))])) rfl ?_
      exact zj40 _ (by rw [dBel_p (Nat.le_refl _), show m0 - 1 + 1 = m0 by omega])
theorem s_X6_runWithB {d : Nat} (hd : 4 ≤ d) (σ : gS) (D : xDat) (m0 b : Nat) (j : Nat) (hs : cSt σ D) (hR : cRk σ D) (hm0 : m0 < 24) (hb : b < dNb D) (hr : aRun D = nI j) (hj : j < 24) (hpj : dBel D none 0 (j + 1) < dDb D) (hfi : ∀ i, i < j → ¬ dBel D none 0 (i + 1) < dDb D) : gC d 22 [.ref 19, .int (nI m0), .int (nI b)] σ (fun r τ => r = some (.int (dRun (fun m => dBel D (some m0) b (m + 1)) (dDb D))) ∧ τ = σ) := by
  obtain ⟨d, rfl⟩ : ∃ k, d = k + 1 := ⟨d - 1, by omega⟩
  refine gC.of (P := pX6_runWith) (nL := 6) (rt := (some (.int))) (lv := [some (.ref 19), some (.int (nI m0)), some (.int (nI b)), none, none, none]) (by decide +kernel) rfl rfl rfl (by simp [gEnt, Value.category]) rfl ?_
  have hn8 := hs.2.2.1.2.1
  have hf100 := hs.2.2.2.2.1
  have hd50 := hs.2.2.2.2.2.2
  have hnl := dNl_le D hs.2.1.1.2.2.2.1
  have hnb := dNb_le D hs.1.1.2.2.2.1
  have hbm := dBelN_le hf100 (m0 - 1 + 1)
  refine gR.steps 2 (σ, (4, [some (.ref 19), some (.int (nI m0)), some (.int (nI b)), none, none, none], [.int (σ 19 7)])) rfl ?_
  refine gR.topI (y := nI (j)) (hR.2.2.2.trans hr) ?_
  refine gR.steps 1 (σ, (5, [some (.ref 19), some (.int (nI m0)), some (.int (nI b)), none, none, none], [.int (-1), .int (nI j)])) rfl ?_
  refine gR.brF rfl (nI_m1 (by omega)) ?_
  refine gR.steps 2 (σ, (12, [some (.ref 19), some (.int (nI m0)), some (.int (nI b)), none, none, none], [.int (σ 19 7)])) rfl ?_
  refine gR.topI (y := nI (j)) (hR.2.2.2.trans hr) ?_
  refine gR.steps 1 (σ, (13, [some (.ref 19), some (.int (nI m0)), some (.int (nI b)), none, none, none], [.int (nI m0), .int (nI j)])) rfl ?_
  refine gR.ifte rfl (fun zc13 => ?_) (fun zc13 => ?_)
  · rw [gN_le (x := nI m0) (y := nI j) (a := m0) (b := j) rfl rfl (by omega) (by omega)] at zc13
    have hpre : ∀ j, j < m0 → ¬ dBel D (some m0) b (j + 1) < dDb D := fun j hj => by rw [dBel_p (by omega)]; exact hfi j (by omega)
    refine gR.join (α := Int32) σ (fun zv => (40, [some (.ref 19), some (.int (nI m0)), some (.int (nI b)), none, none, none], [.int zv])) (nI (dBel D (some m0) b m0)) ?_ (fun zj40 => ?_)
    · refine gR.steps 4 (σ, (44, [some (.ref 19), some (.int (nI m0)), some (.int (nI b)), some (.int (nI (dBel D (some m0) b m0))), none, none], [.int (nI b), .int (nI m0), .ref 19])) rfl ?_
      refine gR.callp rfl (s_X6_worthOf (by omega) σ D m0 b hs.1 hR.1 hm0 hb) ?_
      refine gR.steps 3 (σ, (52, [some (.ref 19), some (.int (nI m0)), some (.int (nI b)), some (.int (nI (dBel D (some m0) b m0))), some (.int (dWo D m0 b)), some (.int (nI m0))], [])) rfl ?_
      refine gR.forget [some (.ref 19), some (.int (nI m0)), some (.int (nI b)), some (.int (nI (dBel D (some m0) b m0))), some (.int (dWo D m0 b)), some (.int (nI m0))] ⟨rfl, ⟨rfl, ⟨rfl, ⟨rfl, ⟨rfl, ⟨rfl, trivial⟩⟩⟩⟩⟩⟩ ?_
      refine gR.loop (α := Nat) (fun m => m0 ≤ m ∧ m ≤ 24 ∧ ∀ j, j < m → ¬ dBel D (some m0) b (j + 1) < dDb D) (fun m => 24 - m) (fun m => (σ, (52, [some (.ref 19), some (.int (nI m0)), some (.int (nI b)), some (.int (nI (dBel D (some m0) b m))), some (.int (dWo D m0 b)), some (.int (nI m))], []))) ?_ m0 ⟨Nat.le_refl _, by omega, hpre⟩
      rintro m ⟨hm1, hm2, hno2⟩ ih
      show gR _ _ _ σ (52, [some (.ref 19), some (.int (nI m0)), some (.int (nI b)), some (.int (nI (dBel D (some m0) b m))), some (.int (dWo D m0 b)), some (.int (nI m))], [])
      have hbl := dBelS_le (m0 := m0) (b := b) hf100 m
      have hbl2 := dBelS_le (m0 := m0) (b := b) hf100 (m + 1)
      refine gR.steps 2 (σ, (56, [some (.ref 19), some (.int (nI m0)), some (.int (nI b)), some (.int (nI (dBel D (some m0) b m))), some (.int (dWo D m0 b)), some (.int (nI m))], [.int 24, .int (nI m)])) rfl ?_
      refine gR.ifte rfl (fun zc56 => ?_) (fun zc56 => ?_)
      · rw [gN_le (x := 24) (y := nI m) (a := 24) (b := m) rfl rfl (by omega) (by omega)] at zc56
        refine gR.steps 1 (σ, (97, [some (.ref 19), some (.int (nI m0)), some (.int (nI b)), some (.int (nI (dBel D (some m0) b m))), some (.int (dWo D m0 b)), some (.int (nI m))], [.int (-1)])) rfl ?_
        show gR _ _ _ σ (97, [some (.ref 19), some (.int (nI m0)), some (.int (nI b)), some (.int (nI (dBel D (some m0) b m))), some (.int (dWo D m0 b)), some (.int (nI m))], [.int (-1)])
        refine gR.ret rfl ?_
        exact ⟨trivial, gSomeI (xRD_no (p := fun z => decide (dBel D (some m0) b (z + 1) < dDb D)) (fun j hj z => hno2 j (by omega) (of_decide_eq_true z)) 24 (by omega)).symm, rfl⟩
      · rw [gN_le (x := 24) (y := nI m) (a := 24) (b := m) rfl rfl (by omega) (by omega)] at zc56
        refine gR.steps 5 (σ, (66, [some (.ref 19), some (.int (nI m0)), some (.int (nI b)), some (.int (nI (dBel D (some m0) b m))), some (.int (dWo D m0 b)), some (.int (nI m))], [.int (nI m0), .int (nI m), .int (nI (dBel D (some m0) b m)), .int (nI m), .ref 19])) rfl ?_
        refine gR.ifte rfl (fun zc66 => ?_) (fun zc66 => ?_)
        · rw [gN_eq (x := nI m) (y := nI m0) (a := m) (b := m0) rfl rfl (by omega) (by omega)] at zc66
          refine gR.steps 1 (σ, (75, [some (.ref 19), some (.int (nI m0)), some (.int (nI b)), some (.int (nI (dBel D (some m0) b m))), some (.int (dWo D m0 b)), some (.int (nI m))], [.int 0, .int (nI (dBel D (some m0) b m)), .int (nI m), .ref 19])) rfl ?_
          refine gR.callp (x := .int (nI (dBel D (some m0) b (m + 1)))) rfl (by rw [dBel_o zc66]; exact s_X6_behind0 (by omega) σ D m (dBel D (some m0) b m) hR.2.1 (by omega) hbl hn8 hnl) ?_
          refine gR.steps 4 (σ, (84, [some (.ref 19), some (.int (nI m0)), some (.int (nI b)), some (.int (nI (dBel D (some m0) b (m + 1)))), some (.int (dWo D m0 b)), some (.int (nI m))], [.int (σ 19 9), .int (nI (dBel D (some m0) b (m + 1)))])) rfl ?_
          refine gR.topI (y := nI (dDb D)) hs.2.2.2.2.2.1 ?_
          refine gR.ifte rfl (fun zc84 => ?_) (fun zc84 => ?_)
          · rw [gN_le (x := nI (dDb D)) (y := nI (dBel D (some m0) b (m + 1))) (a := dDb D) (b := dBel D (some m0) b (m + 1)) rfl rfl (by omega) (by omega)] at zc84
            refine gR.steps 2 (σ, (52, [some (.ref 19), some (.int (nI m0)), some (.int (nI b)), some (.int (nI (dBel D (some m0) b (m + 1)))), some (.int (dWo D m0 b)), some (.int ((nI m) + 1))], [])) rfl ?_
            refine gR.forget [some (.ref 19), some (.int (nI m0)), some (.int (nI b)), some (.int (nI (dBel D (some m0) b (m + 1)))), some (.int (dWo D m0 b)), some (.int (nI (m + 1)))] ⟨rfl, ⟨rfl, ⟨rfl, ⟨rfl, ⟨rfl, ⟨gSomeI (gN_add rfl rfl), trivial⟩⟩⟩⟩⟩⟩ ?_
            have hzz := ih (m + 1) ⟨by omega, by omega, lt_s hno2 (by omega)⟩ (by omega)
            exact hzz
          · rw [gN_le (x := nI (dDb D)) (y := nI (dBel D (some m0) b (m + 1))) (a := dDb D) (b := dBel D (some m0) b (m + 1)) rfl rfl (by omega) (by omega)] at zc84
            refine gR.steps 1 (σ, (89, [some (.ref 19), some (.int (nI m0)), some (.int (nI b)), some (.int (nI (dBel D (some m0) b (m + 1)))), some (.int (dWo D m0 b)), some (.int (nI m))], [.int (nI m)])) rfl ?_
            show gR _ _ _ σ (89, [some (.ref 19), some (.int (nI m0)), some (.int (nI b)), some (.int (nI (dBel D (some m0) b (m + 1)))), some (.int (dWo D m0 b)), some (.int (nI m))], [.int (nI m)])
            refine gR.ret rfl ?_
            exact ⟨trivial, gSomeI (xRD_at (p := fun z => decide (dBel D (some m0) b (z + 1) < dDb D)) (by omega) (decide_eq_true (by omega)) (fun j hj z => hno2 j hj (of_decide_eq_true z)) 24 (by omega) (by omega)).symm, rfl⟩
        · rw [gN_eq (x := nI m) (y := nI m0) (a := m) (b := m0) rfl rfl (by omega) (by omega)] at zc66
          refine gR.steps 2 (σ, (75, [some (.ref 19), some (.int (nI m0)), some (.int (nI b)), some (.int (nI (dBel D (some m0) b m))), some (.int (dWo D m0 b)), some (.int (nI m))], [.int (dWo D m0 b), .int (nI (dBel D (some m0) b m)), .int (nI m), .ref 19])) rfl ?_
          refine gR.callp (x := .int (nI (dBel D (some m0) b (m + 1)))) rfl (by
        have e : m0 = m := by omega
        subst e
        rw [dBel_a]
        exact s_X6_behindW (by omega) σ D m0 (dBel D (some m0) b m0) b hR.2.1 (by omega) hbl hn8 hnl hb) ?_
          refine gR.steps 4 (σ, (84, [some (.ref 19), some (.int (nI m0)), some (.int (nI b)), some (.int (nI (dBel D (some m0) b (m + 1)))), some (.int (dWo D m0 b)), some (.int (nI m))], [.int (σ 19 9), .int (nI (dBel D (some m0) b (m + 1)))])) rfl ?_
          refine gR.topI (y := nI (dDb D)) hs.2.2.2.2.2.1 ?_
          refine gR.ifte rfl (fun zc84 => ?_) (fun zc84 => ?_)
          · rw [gN_le (x := nI (dDb D)) (y := nI (dBel D (some m0) b (m + 1))) (a := dDb D) (b := dBel D (some m0) b (m + 1)) rfl rfl (by omega) (by omega)] at zc84
            refine gR.steps 2 (σ, (52, [some (.ref 19), some (.int (nI m0)), some (.int (nI b)), some (.int (nI (dBel D (some m0) b (m + 1)))), some (.int (dWo D m0 b)), some (.int ((nI m) + 1))], [])) rfl ?_
            refine gR.forget [some (.ref 19), some (.int (nI m0)), some (.int (nI b)), some (.int (nI (dBel D (some m0) b (m + 1)))), some (.int (dWo D m0 b)), some (.int (nI (m + 1)))] ⟨rfl, ⟨rfl, ⟨rfl, ⟨rfl, ⟨rfl, ⟨gSomeI (gN_add rfl rfl), trivial⟩⟩⟩⟩⟩⟩ ?_
            have hzz := ih (m + 1) ⟨by omega, by omega, lt_s hno2 (by omega)⟩ (by omega)
            exact hzz
          · rw [gN_le (x := nI (dDb D)) (y := nI (dBel D (some m0) b (m + 1))) (a := dDb D) (b := dBel D (some m0) b (m + 1)) rfl rfl (by omega) (by omega)] at zc84
            refine gR.steps 1 (σ, (89, [some (.ref 19), some (.int (nI m0)), some (.int (nI b)), some (.int (nI (dBel D (some m0) b (m + 1)))), some (.int (dWo D m0 b)), some (.int (nI m))], [.int (nI m)])) rfl ?_
            show gR _ _ _ σ (89, [some (.ref 19), some (.int (nI m0)), some (.int (nI b)), some (.int (nI (dBel D (some m0) b (m + 1)))), some (.int (dWo D m0 b)), some (.int (nI m))], [.int (nI m)])
            refine gR.ret rfl ?_
            exact ⟨trivial, gSomeI (xRD_at (p := fun z => decide (dBel D (some m0) b (z + 1) < dDb D)) (by omega) (decide_eq_true (by omega)) (fun j hj z => hno2 j hj (of_decide_eq_true z)) 24 (by omega) (by omega)).symm, rfl⟩
    · refine gR.steps 1 (σ, (22, [some (.ref 19), some (.int (nI m0)), some (.int (nI b)), none, none, none], [.int (nI m0)])) rfl ?_
      refine gR.ifte rfl (fun zc22 => ?_) (fun zc22 => ?_)
      · rw [gN_le (x := nI m0) (y := 0) (a := m0) (b := 0) rfl rfl (by omega) (by omega)] at zc22
        refine gR.steps 2 (σ, (40, [some (.ref 19), some (.int (nI m0)), some (.int (nI b)), none, none, none], [.int (σ 19 8)])) rfl ?_
        refine gR.topI (y := nI (dF D)) hs.2.2.2.1 ?_
        exact zj40 _ (by rw [show m0 = 0 by omega]; rfl)
      · rw [gN_le (x := nI m0) (y := 0) (a := m0) (b := 0) rfl rfl (by omega) (by omega)] at zc22
        refine gR.steps 5 (σ, (32, [some (.ref 19), some (.int (nI m0)), some (.int (nI b)), none, none, none], [.int ((nI m0) - 1), .ref 49])) rfl ?_
        refine gR.ald (i := (nI m0) - 1) (j := m0 - 1) (N := 24) (g := σ 49) rfl (gN_sub rfl rfl (by omega)) (by omega) (by omega) ?_
        refine gR.topI (y := nI (dBel D none 0 (m0 - 1 + 1))) (hR.2.2.1 (m0 - 1) (by omega)) ?_
        refine gR.steps 1 (σ, (40, [some (.ref 19), some (.int (nI m0)), some (.int (nI b)), none, none, none], [.int (nI (dBel D none 0 (m0 - 1 + 1)))])) rfl ?_
        exact zj40 _ (by rw [dBel_p (Nat.le_refl _), show m0 - 1 + 1 = m0 by omega])
  · rw [gN_le (x := nI m0) (y := nI j) (a := m0) (b := j) rfl rfl (by omega) (by omega)] at zc13
    refine gR.steps 2 (σ, (20, [some (.ref 19), some (.int (nI m0)), some (.int (nI b)), none, none, none], [.int (σ 19 7)])) rfl ?_
    refine gR.topI (y := nI (j)) (hR.2.2.2.trans hr) ?_
    show gR _ _ _ σ (20, [some (.ref 19), some (.int (nI m0)), some (.int (nI b)), none, none, none], [.int (nI j)])
    refine gR.ret rfl ?_
    exact ⟨trivial, gSomeI (xRD_at (p := fun z => decide (dBel D (some m0) b (z + 1) < dDb D)) hj (decide_eq_true (by rw [dBel_p (by omega)]; exact hpj)) (fun i hi z => hfi i hi (by rw [← dBel_p (m0 := m0) (b := b) (by omega)]; exact of_decide_eq_true z)) 24 (by omega) (by omega)).symm, rfl⟩
theorem aRun_cs (D : xDat) : (aRun D = -1 ∧ ∀ j, j < 24 → ¬ dBel D none 0 (j + 1) < dDb D) ∨ ∃ j, j < 24 ∧ aRun D = nI j ∧ dBel D none 0 (j + 1) < dDb D ∧ ∀ i, i < j → ¬ dBel D none 0 (i + 1) < dDb D := by
  have e : aRun D = xRu (fun z => decide (dBel D none 0 (z + 1) < dDb D)) 24 := by unfold aRun dRun; exact (xRu_rd _).symm
  rw [e]
  rcases xRu_cs (p := fun z => decide (dBel D none 0 (z + 1) < dDb D)) (m := 24) (by omega) with ⟨a, b⟩ | ⟨j, a, b, c, e⟩
  · exact Or.inl ⟨a, fun j hj z => b j hj (decide_eq_true z)⟩
  · exact Or.inr ⟨j, a, b, of_decide_eq_true c, fun i hi z => e i hi (decide_eq_true z)⟩
theorem s_X6_runWith {d : Nat} (hd : 4 ≤ d) (σ : gS) (D : xDat) (m0 b : Nat) (hs : cSt σ D) (hR : cRk σ D) (hm0 : m0 < 24) (hb : b < dNb D) : gC d 22 [.ref 19, .int (nI m0), .int (nI b)] σ (fun r τ => r = some (.int (dRun (fun m => dBel D (some m0) b (m + 1)) (dDb D))) ∧ τ = σ) := by
  rcases aRun_cs D with ⟨a, b2⟩ | ⟨j, a, b2, c, e⟩
  · exact s_X6_runWithA hd σ D m0 b hs hR hm0 hb a b2
  · exact s_X6_runWithB hd σ D m0 b j hs hR hm0 hb b2 a c e
theorem s_X10_at {d : Nat} (hd : 4 ≤ d) (σ : gS) (D : xDat) (m k w : Int32) (hs : cSt σ D) : gC d 54 [.ref 18, .int m, .int k, .int w] σ (fun r τ => r = some (.int (aAt D m k w)) ∧ cKeep σ τ) := by
  obtain ⟨d, rfl⟩ : ∃ k, d = k + 1 := ⟨d - 1, by omega⟩
  refine gC.of (P := pX10_at) (nL := 4) (rt := (some (.int))) (lv := [some (.ref 18), some (.int m), some (.int k), some (.int w)]) (by decide +kernel) rfl rfl rfl (by simp [gEnt, Value.category]) rfl ?_
  have hnb := dNb_le D hs.1.1.2.2.2.1
  have hnl := dNl_le D hs.2.1.1.2.2.2.1
  have hn8 := hs.2.2.1.2.1
  refine gR.steps 1 (σ, (1, [some (.ref 18), some (.int m), some (.int k), some (.int w)], [.int m])) rfl ?_
  refine gR.callp rfl (s_X10_isMonth (by omega) σ m) ?_
  refine gR.ifte rfl (fun zc4 => ?_) (fun zc4 => ?_)
  · rw [bI_eq0] at zc4
    refine gR.steps 1 (σ, (29, [some (.ref 18), some (.int m), some (.int k), some (.int w)], [.int (-2)])) rfl ?_
    show gR _ _ _ σ (29, [some (.ref 18), some (.int m), some (.int k), some (.int w)], [.int (-2)])
    refine gR.ret rfl ?_
    exact ⟨trivial, by rw [show aAt D m k w = -2 from if_neg (by omega)], cKeep.rf σ⟩
  · rw [bI_eq0, Decidable.not_not] at zc4
    obtain ⟨mm, hmm, rfl⟩ := gN_of (x := m) (n := 24) (by omega) (by omega) (by omega)
    refine gR.steps 3 (σ, (12, [some (.ref 18), some (.int (nI mm)), some (.int k), some (.int w)], [.int k, .ref 21])) rfl ?_
    refine gR.callp rfl (s_X0_has (by omega) σ D k hs.1) ?_
    refine gR.ifte rfl (fun zc15 => ?_) (fun zc15 => ?_)
    · rw [bI_eq0] at zc15
      refine gR.steps 1 (σ, (29, [some (.ref 18), some (.int (nI mm)), some (.int k), some (.int w)], [.int (-2)])) rfl ?_
      show gR _ _ _ σ (29, [some (.ref 18), some (.int (nI mm)), some (.int k), some (.int w)], [.int (-2)])
      refine gR.ret rfl ?_
      exact ⟨trivial, by rw [show aAt D (nI mm) k w = -2 from if_neg (by omega)], cKeep.rf σ⟩
    · rw [bI_eq0, Decidable.not_not] at zc15
      obtain ⟨kk, hkk, rfl⟩ := gN_of (x := k) (n := dNb D) (by omega) (by omega) (by omega)
      refine gR.steps 3 (σ, (21, [some (.ref 18), some (.int (nI mm)), some (.int (nI kk)), some (.int w)], [.int 2, .int 0, .int w])) rfl ?_
      refine gR.callp rfl (s_X10_withinI (by omega) σ w 0 2 0 2 (by decide) (by decide)) ?_
      refine gR.ifte rfl (fun zc24 => ?_) (fun zc24 => ?_)
      · rw [bI_ne0] at zc24
        obtain ⟨ww, hww, rfl⟩ := gN_of (x := w) (n := 3) (by omega) (by omega) (by omega)
        refine gR.steps 9 (σ, (45, [some (.ref 18), some (.int (nI mm)), some (.int (nI kk)), some (.int (nI ww))], [.int (nI kk), .ref 21, .int (nI kk), .int 0, .ref 27, .ref 35])) rfl ?_
        refine gR.callp rfl (s_X0_kindOf (by omega) σ D kk hs.1 (by omega)) ?_
        refine gR.steps 3 (σ, (53, [some (.ref 18), some (.int (nI mm)), some (.int (nI kk)), some (.int (nI ww))], [.int (nI kk), .ref 21, .int (nI (dKd D kk)), .int (nI kk), .int 0, .ref 27, .ref 35])) rfl ?_
        refine gR.callp rfl (s_X0_beginOf (by omega) σ D kk hs.1 (by omega)) ?_
        have hkd : kk < dNb D := hkk
        refine gR.call' rfl (s_X1_follow27 (by omega) σ 35 36 (dN D) (dK D) (dM D) (dB D) gn0 0 (some kk) (dKd D kk) (dBg D kk) (Or.inl ⟨rfl, rfl⟩) hs.2.2.1 bGone_0 (fun v hv => by cases hv; omega) (dKd_lt hkd) (dBg_lt hkd)) ?_
        rintro _ τ ⟨rfl, hF, hC⟩
        have hK : cKeep σ τ := ⟨fun q a b => hF q (fun z => b (by unfold cScr; omega)) (fun z => b (by unfold cScr; omega)), fun s _ _ => by rw [hF 19 (by decide) (by decide)]⟩
        show gR _ _ _ τ (59, [some (.ref 18), some (.int (nI mm)), some (.int (nI kk)), some (.int (nI ww))], [])
        refine gR.steps 1 (τ, (60, [some (.ref 18), some (.int (nI mm)), some (.int (nI kk)), some (.int (nI ww))], [.int (nI ww)])) rfl ?_
        refine gR.ifte rfl (fun zc60 => ?_) (fun zc60 => ?_)
        · rw [gN_eq (x := nI ww) (y := 0) (a := ww) (b := 0) rfl rfl (by omega) (by omega)] at zc60
          refine gR.steps 2 (τ, (74, [some (.ref 18), some (.int (nI mm)), some (.int (nI kk)), some (.int (nI ww))], [.int 1, .int (nI ww)])) rfl ?_
          refine gR.ifte rfl (fun zc74 => ?_) (fun zc74 => ?_)
          · rw [gN_eq (x := nI ww) (y := 1) (a := ww) (b := 1) rfl rfl (by omega) (by omega)] at zc74
            refine gR.steps 4 (τ, (95, [some (.ref 18), some (.int (nI mm)), some (.int (nI kk)), some (.int (nI ww))], [.int 3, .ref 36])) rfl ?_
            refine gR.ald (i := 3) (j := 3) (N := 4) (g := τ 36) rfl rfl (by omega) (by omega) ?_
            refine gR.steps 1 (τ, (97, [some (.ref 18), some (.int (nI mm)), some (.int (nI kk)), some (.int (nI ww))], [.int (nI mm), .int (τ 36 3)])) rfl ?_
            refine gR.callp (x := .int (bI (dQ D gn0 mm kk = true))) rfl (s_X10_bitM (by omega) τ (τ 36 3) (fun m => dQ D gn0 m kk) 24 mm (hC.1 3 (by omega)) (by omega) hmm) ?_
            show gR _ _ _ τ (100, [some (.ref 18), some (.int (nI mm)), some (.int (nI kk)), some (.int (nI ww))], [.int (bI (dQ D gn0 mm kk = true))])
            refine gR.ret rfl ?_
            exact ⟨trivial, by rw [show aAt D (nI mm) (nI kk) (nI ww) = _ from if_pos ⟨⟨zc4, zc15⟩, zc24⟩, xPick3_n hww, nI_clamp (by omega), nI_clamp (by omega), if_neg (show ¬ ww = 0 by omega), if_neg (show ¬ ww = 1 by omega)], hK⟩
          · rw [gN_eq (x := nI ww) (y := 1) (a := ww) (b := 1) rfl rfl (by omega) (by omega)] at zc74
            refine gR.steps 5 (τ, (97, [some (.ref 18), some (.int (nI mm)), some (.int (nI kk)), some (.int (nI ww))], [.int (nI mm), .int (τ 35 3)])) rfl ?_
            refine gR.callp (x := .int (bI (dS D gn0 mm kk = 1 ∨ dQ D gn0 mm kk = true))) rfl (s_X10_bitP (by omega) τ (τ 35 3) (fun m => dS D gn0 m kk = 1 ∨ dQ D gn0 m kk = true) 24 mm hC.2.2.2 (by omega) hmm) ?_
            show gR _ _ _ τ (100, [some (.ref 18), some (.int (nI mm)), some (.int (nI kk)), some (.int (nI ww))], [.int (bI (dS D gn0 mm kk = 1 ∨ dQ D gn0 mm kk = true))])
            refine gR.ret rfl ?_
            exact ⟨trivial, by rw [show aAt D (nI mm) (nI kk) (nI ww) = _ from if_pos ⟨⟨zc4, zc15⟩, zc24⟩, xPick3_n hww, nI_clamp (by omega), nI_clamp (by omega), if_neg (show ¬ ww = 0 by omega), if_pos (show ww = 1 by omega)], hK⟩
        · rw [gN_eq (x := nI ww) (y := 0) (a := ww) (b := 0) rfl rfl (by omega) (by omega)] at zc60
          refine gR.steps 3 (τ, (68, [some (.ref 18), some (.int (nI mm)), some (.int (nI kk)), some (.int (nI ww))], [.int (nI mm), .ref 35])) rfl ?_
          refine gR.callp (x := .int (nI (dS D gn0 mm kk))) rfl (s_X1_stateIn (by omega) τ 35 36 _ _ mm (Or.inl ⟨rfl, rfl⟩) hC hmm) ?_
          show gR _ _ _ τ (71, [some (.ref 18), some (.int (nI mm)), some (.int (nI kk)), some (.int (nI ww))], [.int (nI (dS D gn0 mm kk))])
          refine gR.ret rfl ?_
          exact ⟨trivial, by rw [show aAt D (nI mm) (nI kk) (nI ww) = _ from if_pos ⟨⟨zc4, zc15⟩, zc24⟩, xPick3_n hww, nI_clamp (by omega), nI_clamp (by omega), if_pos (show ww = 0 by omega)], hK⟩
      · rw [bI_ne0] at zc24
        refine gR.steps 1 (σ, (29, [some (.ref 18), some (.int (nI mm)), some (.int (nI kk)), some (.int w)], [.int (-2)])) rfl ?_
        show gR _ _ _ σ (29, [some (.ref 18), some (.int (nI mm)), some (.int (nI kk)), some (.int w)], [.int (-2)])
        refine gR.ret rfl ?_
        exact ⟨trivial, by rw [show aAt D (nI mm) (nI kk) w = -2 from if_neg (by omega)], cKeep.rf σ⟩
theorem s_X10_hill {d : Nat} (hd : 6 ≤ d) (σ : gS) (D : xDat) (m w : Int32) (hs : cSt σ D) : gC d 55 [.ref 18, .int m, .int w] σ (fun r τ => r = some (.int (aHill D m w)) ∧ cKeep σ τ) := by
  obtain ⟨d, rfl⟩ : ∃ k, d = k + 1 := ⟨d - 1, by omega⟩
  refine gC.of (P := pX10_hill) (nL := 3) (rt := (some (.int))) (lv := [some (.ref 18), some (.int m), some (.int w)]) (by decide +kernel) rfl rfl rfl (by simp [gEnt, Value.category]) rfl ?_
  have hnb := dNb_le D hs.1.1.2.2.2.1
  have hnl := dNl_le D hs.2.1.1.2.2.2.1
  have hn8 := hs.2.2.1.2.1
  have hf100 := hs.2.2.2.2.1
  refine gR.steps 1 (σ, (1, [some (.ref 18), some (.int m), some (.int w)], [.int m])) rfl ?_
  refine gR.callp rfl (s_X10_isMonth (by omega) σ m) ?_
  refine gR.ifte rfl (fun zc4 => ?_) (fun zc4 => ?_)
  · rw [bI_eq0] at zc4
    refine gR.steps 1 (σ, (18, [some (.ref 18), some (.int m), some (.int w)], [.int (-2)])) rfl ?_
    show gR _ _ _ σ (18, [some (.ref 18), some (.int m), some (.int w)], [.int (-2)])
    refine gR.ret rfl ?_
    exact ⟨trivial, by rw [show aHill D m w = -2 from if_neg (by omega)], cKeep.rf σ⟩
  · rw [bI_eq0, Decidable.not_not] at zc4
    obtain ⟨mm, hmm, rfl⟩ := gN_of (x := m) (n := 24) (by omega) (by omega) (by omega)
    refine gR.steps 3 (σ, (10, [some (.ref 18), some (.int (nI mm)), some (.int w)], [.int 2, .int 0, .int w])) rfl ?_
    refine gR.callp rfl (s_X10_withinI (by omega) σ w 0 2 0 2 (by decide) (by decide)) ?_
    refine gR.ifte rfl (fun zc13 => ?_) (fun zc13 => ?_)
    · rw [bI_ne0] at zc13
      obtain ⟨ww, hww, rfl⟩ := gN_of (x := w) (n := 3) (by omega) (by omega) (by omega)
      refine gR.steps 2 (σ, (21, [some (.ref 18), some (.int (nI mm)), some (.int (nI ww))], [.int 1, .int (nI ww)])) rfl ?_
      refine gR.ifte rfl (fun zc21 => ?_) (fun zc21 => ?_)
      · rw [gN_eq (x := nI ww) (y := 1) (a := ww) (b := 1) rfl rfl (by omega) (by omega)] at zc21
        refine gR.steps 5 (σ, (54, [some (.ref 18), some (.int (nI mm)), some (.int (nI ww))], [.int 0, .ref 27, .ref 20])) rfl ?_
        refine gR.call' rfl (s_X3_grow27 (by omega) σ D gn0 0 hs.1 hs.2.2.1 bGone_0) ?_
        rintro _ τ ⟨rfl, hF, hG⟩
        have hst := hs.keep hF.keep
        show gR _ _ _ τ (57, [some (.ref 18), some (.int (nI mm)), some (.int (nI ww))], [.int (dBareG D gn0)])
        refine gR.steps 2 (τ, (59, [some (.ref 18), some (.int (nI mm)), some (.int (nI ww))], [.int (nI ww)])) rfl ?_
        refine gR.ifte rfl (fun zc59 => ?_) (fun zc59 => ?_)
        · rw [gN_eq (x := nI ww) (y := 0) (a := ww) (b := 0) rfl rfl (by omega) (by omega)] at zc59
          refine gR.steps 3 (τ, (78, [some (.ref 18), some (.int (nI mm)), some (.int (nI ww))], [.int (nI mm), .ref 20])) rfl ?_
          refine gR.callp rfl (s_X3_seemingIn (by omega) τ D mm hst.1 hG hmm) ?_
          show gR _ _ _ τ (81, [some (.ref 18), some (.int (nI mm)), some (.int (nI ww))], [.int (nI (dSee D mm))])
          refine gR.ret rfl ?_
          exact ⟨trivial, by rw [show aHill D (nI mm) (nI ww) = _ from if_pos ⟨zc4, zc13⟩, xPick3_n hww, nI_clamp (by omega), if_neg (show ¬ ww = 0 by omega), if_neg (show ¬ ww = 1 by omega)], hF.keep⟩
        · rw [gN_eq (x := nI ww) (y := 0) (a := ww) (b := 0) rfl rfl (by omega) (by omega)] at zc59
          refine gR.steps 3 (τ, (67, [some (.ref 18), some (.int (nI mm)), some (.int (nI ww))], [.int (nI mm), .ref 20])) rfl ?_
          refine gR.callp rfl (s_X3_yellowIn (by omega) τ D mm hst.1 hG hmm) ?_
          refine gR.steps 1 (τ, (81, [some (.ref 18), some (.int (nI mm)), some (.int (nI ww))], [.int (nI (dYel D mm))])) rfl ?_
          show gR _ _ _ τ (81, [some (.ref 18), some (.int (nI mm)), some (.int (nI ww))], [.int (nI (dYel D mm))])
          refine gR.ret rfl ?_
          exact ⟨trivial, by rw [show aHill D (nI mm) (nI ww) = _ from if_pos ⟨zc4, zc13⟩, xPick3_n hww, nI_clamp (by omega), if_pos (show ww = 0 by omega)], hF.keep⟩
      · rw [gN_eq (x := nI ww) (y := 1) (a := ww) (b := 1) rfl rfl (by omega) (by omega)] at zc21
        refine gR.steps 4 (σ, (32, [some (.ref 18), some (.int (nI mm)), some (.int (nI ww))], [.ref 27, .ref 19])) rfl ?_
        refine gR.call' rfl (s_X6_reckon27 (by omega) σ D hs) ?_
        rintro _ τ ⟨rfl, hF, hR⟩
        have hst := hs.keep hF.keep
        show gR _ _ _ τ (35, [some (.ref 18), some (.int (nI mm)), some (.int (nI ww))], [])
        refine gR.steps 4 (τ, (43, [some (.ref 18), some (.int (nI mm)), some (.int (nI ww))], [.int (nI mm), .ref 49])) rfl ?_
        refine gR.ald (i := nI mm) (j := mm) (N := 24) (g := τ 49) rfl rfl (by omega) (by omega) ?_
        refine gR.topI (y := nI (dBel D none 0 (mm + 1))) (hR.2.2.1 mm hmm) ?_
        show gR _ _ _ τ (44, [some (.ref 18), some (.int (nI mm)), some (.int (nI ww))], [.int (nI (dBel D none 0 (mm + 1)))])
        refine gR.ret rfl ?_
        exact ⟨trivial, by rw [show aHill D (nI mm) (nI ww) = _ from if_pos ⟨zc4, zc13⟩, xPick3_n hww, nI_clamp (by omega), if_neg (show ¬ ww = 0 by omega), if_pos (show ww = 1 by omega)], hF.keep⟩
    · rw [bI_ne0] at zc13
      refine gR.steps 1 (σ, (18, [some (.ref 18), some (.int (nI mm)), some (.int w)], [.int (-2)])) rfl ?_
      show gR _ _ _ σ (18, [some (.ref 18), some (.int (nI mm)), some (.int w)], [.int (-2)])
      refine gR.ret rfl ?_
      exact ⟨trivial, by rw [show aHill D (nI mm) w = -2 from if_neg (by omega)], cKeep.rf σ⟩
theorem s_X10_bare {d : Nat} (hd : 5 ≤ d) (σ : gS) (D : xDat) (hs : cSt σ D) : gC d 56 [.ref 18] σ (fun r τ => r = some (.int (aBare D)) ∧ cKeep σ τ) := by
  obtain ⟨d, rfl⟩ : ∃ k, d = k + 1 := ⟨d - 1, by omega⟩
  refine gC.of (P := pX10_bare) (nL := 1) (rt := (some (.int))) (lv := [some (.ref 18)]) (by decide +kernel) rfl rfl rfl (by simp [gEnt, Value.category]) rfl ?_
  refine gR.steps 5 (σ, (9, [some (.ref 18)], [.int 0, .ref 27, .ref 20])) rfl ?_
  refine gR.call' rfl (s_X3_grow27 (by omega) σ D gn0 0 hs.1 hs.2.2.1 bGone_0) ?_
  rintro _ τ ⟨rfl, hF, hG⟩
  have hst := hs.keep hF.keep
  show gR _ _ _ τ (12, [some (.ref 18)], [.int (dBareG D gn0)])
  show gR _ _ _ τ (12, [some (.ref 18)], [.int (dBareG D gn0)])
  refine gR.ret rfl ?_
  exact ⟨trivial, rfl, hF.keep⟩
theorem s_X10_run {d : Nat} (hd : 6 ≤ d) (σ : gS) (D : xDat) (hs : cSt σ D) : gC d 57 [.ref 18] σ (fun r τ => r = some (.int (aRun D)) ∧ cKeep σ τ) := by
  obtain ⟨d, rfl⟩ : ∃ k, d = k + 1 := ⟨d - 1, by omega⟩
  refine gC.of (P := pX10_run) (nL := 1) (rt := (some (.int))) (lv := [some (.ref 18)]) (by decide +kernel) rfl rfl rfl (by simp [gEnt, Value.category]) rfl ?_
  refine gR.steps 4 (σ, (8, [some (.ref 18)], [.ref 27, .ref 19])) rfl ?_
  refine gR.call' rfl (s_X6_reckon27 (by omega) σ D hs) ?_
  rintro _ τ ⟨rfl, hF, hR⟩
  have hst := hs.keep hF.keep
  show gR _ _ _ τ (11, [some (.ref 18)], [])
  refine gR.steps 3 (τ, (18, [some (.ref 18)], [.int (τ 19 7)])) rfl ?_
  show gR _ _ _ τ (18, [some (.ref 18)], [.int (τ 19 7)])
  refine gR.ret rfl ?_
  exact ⟨trivial, gSomeI hR.2.2.2, hF.keep⟩
theorem shl0 {i : Nat} (hi : i < 32) : (0 : Int32) <<< (nI i &&& 31) = 0 := b_ext (fun j hj => by rw [b_shl i hi _ hj, b_0, b_0, Bool.and_false])
theorem mask_step {f : Nat → Bool} {i : Nat} {p : Prop} [Decidable p] (hi : i < 32) (h : p ↔ f i = true) : xMask f i ||| (bI p <<< (nI i &&& 31)) = xMask f (i + 1) := by
  by_cases hp : p
  · rw [bI_t hp]; exact xMask_t (h.mp hp)
  · rw [bI_f hp, shl0 hi]; exact xMask_f (fun z => hp (h.mpr z))
theorem or0 (x : Int32) : x ||| 0 = x := b_ext (fun j hj => by rw [b_or, b_0, Bool.or_false])
theorem mask_no {f : Nat → Bool} {i : Nat} (h : ¬ f i = true) : xMask f i = xMask f (i + 1) := (or0 _).symm.trans (xMask_f h)
theorem fake_p (a b : Prop) [Decidable a] [Decidable b] : (decide a && !decide b) = decide (a ∧ ¬ b) := by
  by_cases ha : a <;> by_cases hb : b <;> simp [ha, hb]
theorem s_X10_fake {d : Nat} (hd : 5 ≤ d) (σ : gS) (D : xDat) (hs : cSt σ D) : gC d 58 [.ref 18] σ (fun r τ => r = some (.int (aFake D)) ∧ cKeep σ τ) := by
  obtain ⟨d, rfl⟩ : ∃ k, d = k + 1 := ⟨d - 1, by omega⟩
  refine gC.of (P := pX10_fake) (nL := 5) (rt := (some (.int))) (lv := [some (.ref 18), none, none, none, none]) (by decide +kernel) rfl rfl rfl (by simp [gEnt, Value.category]) rfl ?_
  have hnb := dNb_le D hs.1.1.2.2.2.1
  have hnl := dNl_le D hs.2.1.1.2.2.2.1
  have hn8 := hs.2.2.1.2.1
  refine gR.steps 5 (σ, (9, [some (.ref 18), none, none, none, none], [.int 0, .ref 27, .ref 20])) rfl ?_
  refine gR.call' rfl (s_X3_grow27 (by omega) σ D gn0 0 hs.1 hs.2.2.1 bGone_0) ?_
  rintro _ τ ⟨rfl, hF, hG⟩
  have hst := hs.keep hF.keep
  show gR _ _ _ τ (12, [some (.ref 18), none, none, none, none], [.int (dBareG D gn0)])
  refine gR.steps 5 (τ, (17, [some (.ref 18), some (.int 0), some (.int 0), none, none], [])) rfl ?_
  refine gR.forget [some (.ref 18), some (.int (xMask (fun i => decide (dLb D i < dNb D ∧ (dS D gn0 (dLm D i) (dLb D i) = 1 ∨ dQ D gn0 (dLm D i) (dLb D i) = true) ∧ ¬ dS D gn0 (dLm D i) (dLb D i) = 1)) 0)), some (.int 0), none, none] ⟨rfl, ⟨rfl, ⟨rfl, trivial⟩⟩⟩ ?_
  refine gR.loop (α := Nat) (fun i => i ≤ dNl D) (fun i => dNl D - i) (fun i => (τ, (17, [some (.ref 18), some (.int (xMask (fun i => decide (dLb D i < dNb D ∧ (dS D gn0 (dLm D i) (dLb D i) = 1 ∨ dQ D gn0 (dLm D i) (dLb D i) = true) ∧ ¬ dS D gn0 (dLm D i) (dLb D i) = 1)) i)), some (.int (nI i)), none, none], []))) ?_ 0 (Nat.zero_le _)
  rintro i hi ih
  show gR _ _ _ τ (17, [some (.ref 18), some (.int (xMask (fun i => decide (dLb D i < dNb D ∧ (dS D gn0 (dLm D i) (dLb D i) = 1 ∨ dQ D gn0 (dLm D i) (dLb D i) = true) ∧ ¬ dS D gn0 (dLm D i) (dLb D i) = 1)) i)), some (.int (nI i)), none, none], [])
  refine gR.steps 3 (τ, (22, [some (.ref 18), some (.int (xMask (fun i => decide (dLb D i < dNb D ∧ (dS D gn0 (dLm D i) (dLb D i) = 1 ∨ dQ D gn0 (dLm D i) (dLb D i) = true) ∧ ¬ dS D gn0 (dLm D i) (dLb D i) = 1)) i)), some (.int (nI i)), none, none], [.ref 24, .int (nI i)])) rfl ?_
  refine gR.callp rfl (s_X4_size (by omega) τ D hst.2.1) ?_
  refine gR.ifte rfl (fun zc25 => ?_) (fun zc25 => ?_)
  · rw [gN_le (x := nI (dNl D)) (y := nI i) (a := dNl D) (b := i) rfl rfl (by omega) (by omega)] at zc25
    refine gR.steps 1 (τ, (95, [some (.ref 18), some (.int (xMask (fun i => decide (dLb D i < dNb D ∧ (dS D gn0 (dLm D i) (dLb D i) = 1 ∨ dQ D gn0 (dLm D i) (dLb D i) = true) ∧ ¬ dS D gn0 (dLm D i) (dLb D i) = 1)) i)), some (.int (nI i)), none, none], [.int (xMask (fun i => decide (dLb D i < dNb D ∧ (dS D gn0 (dLm D i) (dLb D i) = 1 ∨ dQ D gn0 (dLm D i) (dLb D i) = true) ∧ ¬ dS D gn0 (dLm D i) (dLb D i) = 1)) i)])) rfl ?_
    show gR _ _ _ τ (95, [some (.ref 18), some (.int (xMask (fun i => decide (dLb D i < dNb D ∧ (dS D gn0 (dLm D i) (dLb D i) = 1 ∨ dQ D gn0 (dLm D i) (dLb D i) = true) ∧ ¬ dS D gn0 (dLm D i) (dLb D i) = 1)) i)), some (.int (nI i)), none, none], [.int (xMask (fun i => decide (dLb D i < dNb D ∧ (dS D gn0 (dLm D i) (dLb D i) = 1 ∨ dQ D gn0 (dLm D i) (dLb D i) = true) ∧ ¬ dS D gn0 (dLm D i) (dLb D i) = 1)) i)])
    refine gR.ret rfl ?_
    obtain rfl : i = dNl D := by omega
    exact ⟨trivial, rfl, hF.keep⟩
  · rw [gN_le (x := nI (dNl D)) (y := nI i) (a := dNl D) (b := i) rfl rfl (by omega) (by omega)] at zc25
    have hlm := dLm_lt (D := D) (k := i) (by omega)
    have hlb := dLb_lt (D := D) (k := i) (by omega)
    refine gR.steps 3 (τ, (33, [some (.ref 18), some (.int (xMask (fun i => decide (dLb D i < dNb D ∧ (dS D gn0 (dLm D i) (dLb D i) = 1 ∨ dQ D gn0 (dLm D i) (dLb D i) = true) ∧ ¬ dS D gn0 (dLm D i) (dLb D i) = 1)) i)), some (.int (nI i)), none, none], [.int (nI i), .ref 24])) rfl ?_
    refine gR.callp rfl (s_X4_bushOf (by omega) τ D i hst.2.1 (by omega)) ?_
    refine gR.steps 4 (τ, (42, [some (.ref 18), some (.int (xMask (fun i => decide (dLb D i < dNb D ∧ (dS D gn0 (dLm D i) (dLb D i) = 1 ∨ dQ D gn0 (dLm D i) (dLb D i) = true) ∧ ¬ dS D gn0 (dLm D i) (dLb D i) = 1)) i)), some (.int (nI i)), some (.int (nI (dLb D i))), none], [.int (nI (dLb D i)), .ref 21])) rfl ?_
    refine gR.callp rfl (s_X0_has (by omega) τ D (nI (dLb D i)) hst.1) ?_
    refine gR.ifte rfl (fun zc45 => ?_) (fun zc45 => ?_)
    · rw [bI_eq0] at zc45
      refine gR.steps 2 (τ, (17, [some (.ref 18), some (.int (xMask (fun i => decide (dLb D i < dNb D ∧ (dS D gn0 (dLm D i) (dLb D i) = 1 ∨ dQ D gn0 (dLm D i) (dLb D i) = true) ∧ ¬ dS D gn0 (dLm D i) (dLb D i) = 1)) i)), some (.int ((nI i) + 1)), some (.int (nI (dLb D i))), none], [])) rfl ?_
      refine gR.forget [some (.ref 18), some (.int (xMask (fun i => decide (dLb D i < dNb D ∧ (dS D gn0 (dLm D i) (dLb D i) = 1 ∨ dQ D gn0 (dLm D i) (dLb D i) = true) ∧ ¬ dS D gn0 (dLm D i) (dLb D i) = 1)) (i + 1))), some (.int (nI (i + 1))), none, none] ⟨rfl, ⟨gSomeI (mask_no (fun z => by have := (of_decide_eq_true z).1; rw [nI_toInt (by omega)] at zc45; omega)), ⟨gSomeI (gN_add rfl rfl), trivial⟩⟩⟩ ?_
      have hzz := ih (i + 1) (by omega) (by omega)
      exact hzz
    · rw [bI_eq0, Decidable.not_not] at zc45
      have hbn : dLb D i < dNb D := by rw [nI_toInt (by omega)] at zc45; omega
      refine gR.steps 4 (τ, (56, [some (.ref 18), some (.int (xMask (fun i => decide (dLb D i < dNb D ∧ (dS D gn0 (dLm D i) (dLb D i) = 1 ∨ dQ D gn0 (dLm D i) (dLb D i) = true) ∧ ¬ dS D gn0 (dLm D i) (dLb D i) = 1)) i)), some (.int (nI i)), some (.int (nI (dLb D i))), none], [.int (nI (dLb D i)), .ref 45])) rfl ?_
      refine gR.chk (b := gIn (nI (dLb D i)) 10) rfl (gN_in rfl (by omega) (by omega)) ?_
      rw [gN_cl rfl (by omega)]
      refine gR.steps 3 (τ, (62, [some (.ref 18), some (.int (xMask (fun i => decide (dLb D i < dNb D ∧ (dS D gn0 (dLm D i) (dLb D i) = 1 ∨ dQ D gn0 (dLm D i) (dLb D i) = true) ∧ ¬ dS D gn0 (dLm D i) (dLb D i) = 1)) i)), some (.int (nI i)), some (.int (nI (dLb D i))), some (.ref (50 + (dLb D i)))], [.ref (50 + (dLb D i)), .int (xMask (fun i => decide (dLb D i < dNb D ∧ (dS D gn0 (dLm D i) (dLb D i) = 1 ∨ dQ D gn0 (dLm D i) (dLb D i) = true) ∧ ¬ dS D gn0 (dLm D i) (dLb D i) = 1)) i)])) rfl ?_
      refine gR.getI rfl (gSh_course (j := dLb D i) (by omega)) rfl ?_
      show gR _ _ _ τ (65, [some (.ref 18), some (.int (xMask (fun i => decide (dLb D i < dNb D ∧ (dS D gn0 (dLm D i) (dLb D i) = 1 ∨ dQ D gn0 (dLm D i) (dLb D i) = true) ∧ ¬ dS D gn0 (dLm D i) (dLb D i) = 1)) i)), some (.int (nI i)), some (.int (nI (dLb D i))), some (.ref (50 + (dLb D i)))], [.int (τ (50 + (dLb D i)) 3), .int (xMask (fun i => decide (dLb D i < dNb D ∧ (dS D gn0 (dLm D i) (dLb D i) = 1 ∨ dQ D gn0 (dLm D i) (dLb D i) = true) ∧ ¬ dS D gn0 (dLm D i) (dLb D i) = 1)) i)])
      refine gR.steps 1 (τ, (67, [some (.ref 18), some (.int (xMask (fun i => decide (dLb D i < dNb D ∧ (dS D gn0 (dLm D i) (dLb D i) = 1 ∨ dQ D gn0 (dLm D i) (dLb D i) = true) ∧ ¬ dS D gn0 (dLm D i) (dLb D i) = 1)) i)), some (.int (nI i)), some (.int (nI (dLb D i))), some (.ref (50 + (dLb D i)))], [.ref (50 + (dLb D i)), .int (τ (50 + (dLb D i)) 3), .int (xMask (fun i => decide (dLb D i < dNb D ∧ (dS D gn0 (dLm D i) (dLb D i) = 1 ∨ dQ D gn0 (dLm D i) (dLb D i) = true) ∧ ¬ dS D gn0 (dLm D i) (dLb D i) = 1)) i)])) rfl ?_
      refine gR.getI rfl (gSh_course (j := dLb D i) (by omega)) rfl ?_
      show gR _ _ _ τ (70, [some (.ref 18), some (.int (xMask (fun i => decide (dLb D i < dNb D ∧ (dS D gn0 (dLm D i) (dLb D i) = 1 ∨ dQ D gn0 (dLm D i) (dLb D i) = true) ∧ ¬ dS D gn0 (dLm D i) (dLb D i) = 1)) i)), some (.int (nI i)), some (.int (nI (dLb D i))), some (.ref (50 + (dLb D i)))], [.int (τ (50 + (dLb D i)) 2), .int (τ (50 + (dLb D i)) 3), .int (xMask (fun i => decide (dLb D i < dNb D ∧ (dS D gn0 (dLm D i) (dLb D i) = 1 ∨ dQ D gn0 (dLm D i) (dLb D i) = true) ∧ ¬ dS D gn0 (dLm D i) (dLb D i) = 1)) i)])
      refine gR.steps 6 (τ, (78, [some (.ref 18), some (.int (xMask (fun i => decide (dLb D i < dNb D ∧ (dS D gn0 (dLm D i) (dLb D i) = 1 ∨ dQ D gn0 (dLm D i) (dLb D i) = true) ∧ ¬ dS D gn0 (dLm D i) (dLb D i) = 1)) i)), some (.int (nI i)), some (.int (nI (dLb D i))), some (.ref (50 + (dLb D i)))], [.int (nI i), .ref 24, .int ((τ (50 + (dLb D i)) 3) &&& ((τ (50 + (dLb D i)) 2) ^^^ (-1))), .int (xMask (fun i => decide (dLb D i < dNb D ∧ (dS D gn0 (dLm D i) (dLb D i) = 1 ∨ dQ D gn0 (dLm D i) (dLb D i) = true) ∧ ¬ dS D gn0 (dLm D i) (dLb D i) = 1)) i)])) rfl ?_
      refine gR.callp rfl (s_X4_monthOf (by omega) τ D i hst.2.1 (by omega)) ?_
      refine gR.callp (x := .int (bI ((dS D gn0 (dLm D i) (dLb D i) = 1 ∨ dQ D gn0 (dLm D i) (dLb D i) = true) ∧ ¬ dS D gn0 (dLm D i) (dLb D i) = 1))) rfl (s_X10_bitP (by omega) τ _ (fun m => (dS D gn0 m (dLb D i) = 1 ∨ dQ D gn0 m (dLb D i) = true) ∧ ¬ dS D gn0 m (dLb D i) = 1) 24 (dLm D i) (by rw [(hG (dLb D i) hbn).se, (hG (dLb D i) hbn).bl, xMask_sub (by omega)]; exact xMask_congr (fun m _ => fake_p _ _)) (by omega) hlm) ?_
      refine gR.steps 6 (τ, (17, [some (.ref 18), some (.int ((xMask (fun i => decide (dLb D i < dNb D ∧ (dS D gn0 (dLm D i) (dLb D i) = 1 ∨ dQ D gn0 (dLm D i) (dLb D i) = true) ∧ ¬ dS D gn0 (dLm D i) (dLb D i) = 1)) i) ||| ((bI ((dS D gn0 (dLm D i) (dLb D i) = 1 ∨ dQ D gn0 (dLm D i) (dLb D i) = true) ∧ ¬ dS D gn0 (dLm D i) (dLb D i) = 1)) <<< ((nI i) &&& 31)))), some (.int ((nI i) + 1)), some (.int (nI (dLb D i))), some (.ref (50 + (dLb D i)))], [])) rfl ?_
      refine gR.forget [some (.ref 18), some (.int (xMask (fun i => decide (dLb D i < dNb D ∧ (dS D gn0 (dLm D i) (dLb D i) = 1 ∨ dQ D gn0 (dLm D i) (dLb D i) = true) ∧ ¬ dS D gn0 (dLm D i) (dLb D i) = 1)) (i + 1))), some (.int (nI (i + 1))), none, none] ⟨rfl, ⟨gSomeI (mask_step (by omega) ⟨fun z => decide_eq_true ⟨hbn, z⟩, fun z => (of_decide_eq_true z).2⟩), ⟨gSomeI (gN_add rfl rfl), trivial⟩⟩⟩ ?_
      have hzz := ih (i + 1) (by omega) (by omega)
      exact hzz
theorem xSum_sh (g : Nat → Nat) : ∀ n, xSum g (n + 1) = g 0 + xSum (fun i => g (i + 1)) n
  | 0 => by simp only [xSum]; omega
  | n + 1 => by
    have ih := xSum_sh g n
    simp only [xSum] at ih ⊢
    omega
theorem xPc_tb : ∀ f n, xPc f n = xSum (fun i => if n.testBit i = true then 1 else 0) f
  | 0, _ => rfl
  | f + 1, n => by
    rw [xSum_sh]
    simp only [xPc]
    rw [xPc_tb f (n / 2)]
    congr 1
    · rw [Nat.testBit_zero]
      rcases Nat.mod_two_eq_zero_or_one n with h | h <;> rw [h] <;> rfl
    · refine xSum_congr (fun i _ => ?_)
      rw [Nat.testBit_succ]
theorem xSum_end {g : Nat → Nat} {n : Nat} (h : ∀ i, n ≤ i → g i = 0) : ∀ k, xSum g (n + k) = xSum g n
  | 0 => rfl
  | k + 1 => by
    rw [← Nat.add_assoc]
    simp only [xSum]
    rw [xSum_end h k, h (n + k) (by omega)]; rfl
theorem pop_mask (f : Nat → Bool) {n : Nat} (hn : n ≤ 32) : xPop (xMask f n) = xSum (fun m => if f m = true then 1 else 0) n := by
  unfold xPop
  rw [xPc_tb]
  have h1 : xSum (fun i => if (xMask f n).toBitVec.toNat.testBit i = true then 1 else 0) 32 = xSum (fun i => if (decide (i < n) && f i) = true then 1 else 0) 32 := xSum_congr (fun i hi => by
    rw [show (xMask f n).toBitVec.toNat.testBit i = bt (xMask f n) i from rfl, xMask_bt f n hn i hi])
  rw [h1, show (32 : Nat) = n + (32 - n) by omega, xSum_end (fun i hi => by rw [decide_eq_false (by omega)]; rfl) (32 - n)]
  exact xSum_congr (fun i hi => by rw [decide_eq_true hi, Bool.true_and])
theorem s_X10_last {d : Nat} (hd : 6 ≤ d) (σ : gS) (D : xDat) (w : Int32) (hs : cSt σ D) : gC d 59 [.ref 18, .int w] σ (fun r τ => r = some (.int (aLast D w)) ∧ cKeep σ τ) := by
  obtain ⟨d, rfl⟩ : ∃ k, d = k + 1 := ⟨d - 1, by omega⟩
  refine gC.of (P := pX10_last) (nL := 6) (rt := (some (.int))) (lv := [some (.ref 18), some (.int w), none, none, none, none]) (by decide +kernel) rfl rfl rfl (by simp [gEnt, Value.category]) rfl ?_
  have hnb := dNb_le D hs.1.1.2.2.2.1
  have hnl := dNl_le D hs.2.1.1.2.2.2.1
  have hn8 := hs.2.2.1.2.1
  refine gR.steps 3 (σ, (3, [some (.ref 18), some (.int w), none, none, none, none], [.int 1, .int 0, .int w])) rfl ?_
  refine gR.callp rfl (s_X10_withinI (by omega) σ w 0 1 0 1 (by decide) (by decide)) ?_
  refine gR.ifte rfl (fun zc6 => ?_) (fun zc6 => ?_)
  · rw [bI_ne0] at zc6
    obtain ⟨ww, hww, rfl⟩ := gN_of (x := w) (n := 2) (by omega) (by omega) (by omega)
    refine gR.steps 5 (σ, (21, [some (.ref 18), some (.int (nI ww)), none, none, none, none], [.int 0, .ref 27, .ref 20])) rfl ?_
    refine gR.call' rfl (s_X3_grow27 (by omega) σ D gn0 0 hs.1 hs.2.2.1 bGone_0) ?_
    rintro _ τ ⟨rfl, hF, hG⟩
    have hst := hs.keep hF.keep
    show gR _ _ _ τ (24, [some (.ref 18), some (.int (nI ww)), none, none, none, none], [.int (dBareG D gn0)])
    refine gR.steps 7 (τ, (32, [some (.ref 18), some (.int (nI ww)), some (.int (-1)), some (.int (-1)), some (.int 0), none], [])) rfl ?_
    refine gR.forget [some (.ref 18), some (.int (nI ww)), some (.int (xTop (fun k => xSum (fun m => if dS D gn0 m k = 1 then 1 else 0) 24) 0).1), some (.int (xTop (fun k => xSum (fun m => if dS D gn0 m k = 1 then 1 else 0) 24) 0).2), some (.int 0), none] ⟨rfl, ⟨rfl, ⟨rfl, ⟨rfl, ⟨rfl, trivial⟩⟩⟩⟩⟩ ?_
    refine gR.loop (α := Nat) (fun j => j ≤ dNb D) (fun j => dNb D - j) (fun j => (τ, (32, [some (.ref 18), some (.int (nI ww)), some (.int ((xTop (fun k => xSum (fun m => if dS D gn0 m k = 1 then 1 else 0) 24) j).1)), some (.int ((xTop (fun k => xSum (fun m => if dS D gn0 m k = 1 then 1 else 0) 24) j).2)), some (.int (nI j)), none], []))) ?_ 0 (Nat.zero_le _)
    rintro j hj ih
    show gR _ _ _ τ (32, [some (.ref 18), some (.int (nI ww)), some (.int ((xTop (fun k => xSum (fun m => if dS D gn0 m k = 1 then 1 else 0) 24) j).1)), some (.int ((xTop (fun k => xSum (fun m => if dS D gn0 m k = 1 then 1 else 0) 24) j).2)), some (.int (nI j)), none], [])
    refine gR.steps 3 (τ, (38, [some (.ref 18), some (.int (nI ww)), some (.int ((xTop (fun k => xSum (fun m => if dS D gn0 m k = 1 then 1 else 0) 24) j).1)), some (.int ((xTop (fun k => xSum (fun m => if dS D gn0 m k = 1 then 1 else 0) 24) j).2)), some (.int (nI j)), none], [.ref 21, .int (nI j)])) rfl ?_
    refine gR.callp rfl (s_X0_size (by omega) τ D hst.1) ?_
    refine gR.ifte rfl (fun zc41 => ?_) (fun zc41 => ?_)
    · rw [gN_le (x := nI (dNb D)) (y := nI j) (a := dNb D) (b := j) rfl rfl (by omega) (by omega)] at zc41
      refine gR.steps 1 (τ, (81, [some (.ref 18), some (.int (nI ww)), some (.int ((xTop (fun k => xSum (fun m => if dS D gn0 m k = 1 then 1 else 0) 24) j).1)), some (.int ((xTop (fun k => xSum (fun m => if dS D gn0 m k = 1 then 1 else 0) 24) j).2)), some (.int (nI j)), none], [.int (nI ww)])) rfl ?_
      refine gR.ifte rfl (fun zc81 => ?_) (fun zc81 => ?_)
      · rw [gN_eq (x := nI ww) (y := 0) (a := ww) (b := 0) rfl rfl (by omega) (by omega)] at zc81
        refine gR.steps 1 (τ, (89, [some (.ref 18), some (.int (nI ww)), some (.int ((xTop (fun k => xSum (fun m => if dS D gn0 m k = 1 then 1 else 0) 24) j).1)), some (.int ((xTop (fun k => xSum (fun m => if dS D gn0 m k = 1 then 1 else 0) 24) j).2)), some (.int (nI j)), none], [.int ((xTop (fun k => xSum (fun m => if dS D gn0 m k = 1 then 1 else 0) 24) j).2)])) rfl ?_
        show gR _ _ _ τ (89, [some (.ref 18), some (.int (nI ww)), some (.int ((xTop (fun k => xSum (fun m => if dS D gn0 m k = 1 then 1 else 0) 24) j).1)), some (.int ((xTop (fun k => xSum (fun m => if dS D gn0 m k = 1 then 1 else 0) 24) j).2)), some (.int (nI j)), none], [.int ((xTop (fun k => xSum (fun m => if dS D gn0 m k = 1 then 1 else 0) 24) j).2)])
        refine gR.ret rfl ?_
        obtain rfl : j = dNb D := by omega
        refine ⟨trivial, ?_, hF.keep⟩
        rw [show aLast D (nI ww) = _ from if_pos zc6]
        rcases (show ww = 0 ∨ ww = 1 by omega) with rfl | rfl
        · exact absurd rfl zc81
        · rfl
      · rw [gN_eq (x := nI ww) (y := 0) (a := ww) (b := 0) rfl rfl (by omega) (by omega)] at zc81
        refine gR.steps 2 (τ, (89, [some (.ref 18), some (.int (nI ww)), some (.int ((xTop (fun k => xSum (fun m => if dS D gn0 m k = 1 then 1 else 0) 24) j).1)), some (.int ((xTop (fun k => xSum (fun m => if dS D gn0 m k = 1 then 1 else 0) 24) j).2)), some (.int (nI j)), none], [.int ((xTop (fun k => xSum (fun m => if dS D gn0 m k = 1 then 1 else 0) 24) j).1)])) rfl ?_
        show gR _ _ _ τ (89, [some (.ref 18), some (.int (nI ww)), some (.int ((xTop (fun k => xSum (fun m => if dS D gn0 m k = 1 then 1 else 0) 24) j).1)), some (.int ((xTop (fun k => xSum (fun m => if dS D gn0 m k = 1 then 1 else 0) 24) j).2)), some (.int (nI j)), none], [.int ((xTop (fun k => xSum (fun m => if dS D gn0 m k = 1 then 1 else 0) 24) j).1)])
        refine gR.ret rfl ?_
        obtain rfl : j = dNb D := by omega
        refine ⟨trivial, ?_, hF.keep⟩
        rw [show aLast D (nI ww) = _ from if_pos zc6]
        rcases (show ww = 0 ∨ ww = 1 by omega) with rfl | rfl
        · rfl
        · exact absurd zc81 (by decide)
    · rw [gN_le (x := nI (dNb D)) (y := nI j) (a := dNb D) (b := j) rfl rfl (by omega) (by omega)] at zc41
      refine gR.steps 4 (τ, (53, [some (.ref 18), some (.int (nI ww)), some (.int ((xTop (fun k => xSum (fun m => if dS D gn0 m k = 1 then 1 else 0) 24) j).1)), some (.int ((xTop (fun k => xSum (fun m => if dS D gn0 m k = 1 then 1 else 0) 24) j).2)), some (.int (nI j)), none], [.int (nI j), .ref 45])) rfl ?_
      refine gR.chk (b := gIn (nI j) 10) rfl (gN_in rfl (by omega) (by omega)) ?_
      rw [gN_cl rfl (by omega)]
      refine gR.getI rfl (gSh_course (j := j) (by omega)) rfl ?_
      show gR _ _ _ τ (57, [some (.ref 18), some (.int (nI ww)), some (.int ((xTop (fun k => xSum (fun m => if dS D gn0 m k = 1 then 1 else 0) 24) j).1)), some (.int ((xTop (fun k => xSum (fun m => if dS D gn0 m k = 1 then 1 else 0) 24) j).2)), some (.int (nI j)), none], [.int (τ (50 + j) 2)])
      refine gR.callp (x := .int (nI ((fun k => xSum (fun m => if dS D gn0 m k = 1 then 1 else 0) 24) j))) rfl ((s_J6_bitCount_0f7a4 (by omega) τ (τ (50 + j) 2)).mono (fun r υ h => ⟨h.1.trans (gSomeI (congrArg nI (by rw [(hG j (by omega)).bl, pop_mask _ (by omega)]; exact xSum_congr (fun m _ => by simp only [decide_eq_true_eq])))), h.2⟩)) ?_
      refine gR.steps 3 (τ, (65, [some (.ref 18), some (.int (nI ww)), some (.int ((xTop (fun k => xSum (fun m => if dS D gn0 m k = 1 then 1 else 0) 24) j).1)), some (.int ((xTop (fun k => xSum (fun m => if dS D gn0 m k = 1 then 1 else 0) 24) j).2)), some (.int (nI j)), some (.int (nI ((fun k => xSum (fun m => if dS D gn0 m k = 1 then 1 else 0) 24) j)))], [.int ((xTop (fun k => xSum (fun m => if dS D gn0 m k = 1 then 1 else 0) 24) j).2), .int (nI ((fun k => xSum (fun m => if dS D gn0 m k = 1 then 1 else 0) 24) j))])) rfl ?_
      refine gR.ifte rfl (fun zc65 => ?_) (fun zc65 => ?_)
      · refine gR.steps 2 (τ, (32, [some (.ref 18), some (.int (nI ww)), some (.int ((xTop (fun k => xSum (fun m => if dS D gn0 m k = 1 then 1 else 0) 24) j).1)), some (.int ((xTop (fun k => xSum (fun m => if dS D gn0 m k = 1 then 1 else 0) 24) j).2)), some (.int ((nI j) + 1)), some (.int (nI ((fun k => xSum (fun m => if dS D gn0 m k = 1 then 1 else 0) 24) j)))], [])) rfl ?_
        refine gR.forget [some (.ref 18), some (.int (nI ww)), some (.int ((xTop (fun k => xSum (fun m => if dS D gn0 m k = 1 then 1 else 0) 24) (j + 1)).1)), some (.int ((xTop (fun k => xSum (fun m => if dS D gn0 m k = 1 then 1 else 0) 24) (j + 1)).2)), some (.int (nI (j + 1))), none] ⟨rfl, ⟨rfl, ⟨gSomeI (congrArg Prod.fst (show xTop (fun k => xSum (fun m => if dS D gn0 m k = 1 then 1 else 0) 24) (j + 1) = xTop (fun k => xSum (fun m => if dS D gn0 m k = 1 then 1 else 0) 24) j from if_neg (fun z => Int32.not_le.mpr z zc65))).symm, ⟨gSomeI (congrArg Prod.snd (show xTop (fun k => xSum (fun m => if dS D gn0 m k = 1 then 1 else 0) 24) (j + 1) = xTop (fun k => xSum (fun m => if dS D gn0 m k = 1 then 1 else 0) 24) j from if_neg (fun z => Int32.not_le.mpr z zc65))).symm, ⟨gSomeI (gN_add rfl rfl), trivial⟩⟩⟩⟩⟩ ?_
        have hzz := ih (j + 1) (by omega) (by omega)
        exact hzz
      · refine gR.steps 6 (τ, (32, [some (.ref 18), some (.int (nI ww)), some (.int (nI j)), some (.int (nI ((fun k => xSum (fun m => if dS D gn0 m k = 1 then 1 else 0) 24) j))), some (.int ((nI j) + 1)), some (.int (nI ((fun k => xSum (fun m => if dS D gn0 m k = 1 then 1 else 0) 24) j)))], [])) rfl ?_
        refine gR.forget [some (.ref 18), some (.int (nI ww)), some (.int ((xTop (fun k => xSum (fun m => if dS D gn0 m k = 1 then 1 else 0) 24) (j + 1)).1)), some (.int ((xTop (fun k => xSum (fun m => if dS D gn0 m k = 1 then 1 else 0) 24) (j + 1)).2)), some (.int (nI (j + 1))), none] ⟨rfl, ⟨rfl, ⟨gSomeI (congrArg Prod.fst (show xTop (fun k => xSum (fun m => if dS D gn0 m k = 1 then 1 else 0) 24) (j + 1) = (nI j, nI ((fun k => xSum (fun m => if dS D gn0 m k = 1 then 1 else 0) 24) j)) from if_pos (Int32.not_le.mp zc65))).symm, ⟨gSomeI (congrArg Prod.snd (show xTop (fun k => xSum (fun m => if dS D gn0 m k = 1 then 1 else 0) 24) (j + 1) = (nI j, nI ((fun k => xSum (fun m => if dS D gn0 m k = 1 then 1 else 0) 24) j)) from if_pos (Int32.not_le.mp zc65))).symm, ⟨gSomeI (gN_add rfl rfl), trivial⟩⟩⟩⟩⟩ ?_
        have hzz := ih (j + 1) (by omega) (by omega)
        exact hzz
  · rw [bI_ne0] at zc6
    refine gR.steps 1 (σ, (11, [some (.ref 18), some (.int w), none, none, none, none], [.int (-2)])) rfl ?_
    show gR _ _ _ σ (11, [some (.ref 18), some (.int w), none, none, none, none], [.int (-2)])
    refine gR.ret rfl ?_
    exact ⟨trivial, by rw [show aLast D w = -2 from if_neg zc6], cKeep.rf σ⟩
