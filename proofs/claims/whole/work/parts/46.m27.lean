def dCnt (D : xDat) (G : xSig) (l w : Nat) : Int32 := if w = 0 then nI (dNb D) else if w = 1 then nI (dNl D) else if w = 2 then nI (dN0 D) else if w = 3 then nI (dN1 D) else if w = 4 then nI (dN D) else if w = 5 then nI (xPop (aBare D)) else if w = 6 then nI (xSum (dYel D) 24) else if w = 7 then nI G.1 else nI l
def aCount (D : xDat) (G : xSig) (l : Nat) (w : Int32) : Int32 := if 0 ≤ w.toInt ∧ w.toInt ≤ 8 then dCnt D G l w.toNatClampNeg else -2
theorem tgt_d {w : Int32} (h : ¬ (0 ≤ w.toInt ∧ w.toInt ≤ 8)) : gTgt 0 [56, 61, 66, 66, 75, 80, 88, 93, 98] 103 w = 103 := by
  unfold gTgt
  by_cases h0 : w.toInt < 0
  · rw [if_pos h0]
  · rw [if_neg h0, show (w.toInt - 0).toNat = (w.toInt - 9).toNat + 9 by omega]
    rfl
theorem i32_nine {w : Int32} (h : 0 ≤ w.toInt ∧ w.toInt ≤ 8) : w = 0 ∨ w = 1 ∨ w = 2 ∨ w = 3 ∨ w = 4 ∨ w = 5 ∨ w = 6 ∨ w = 7 ∨ w = 8 := by
  obtain ⟨j, hj, rfl⟩ := gN_of (x := w) (n := 9) (by omega) (by omega) (by omega)
  rcases (show j = 0 ∨ j = 1 ∨ j = 2 ∨ j = 3 ∨ j = 4 ∨ j = 5 ∨ j = 6 ∨ j = 7 ∨ j = 8 by omega) with rfl | rfl | rfl | rfl | rfl | rfl | rfl | rfl | rfl <;> decide
theorem s_X11_count0 {d : Nat} (hd : 7 ≤ d) (σ : gS) (D : xDat) (G : xSig) (l : Nat) (hs : mSt σ D) (hg : mSg σ G) (hl : mLa σ l) : gC d 198 [.ref 0, .int 0] σ (fun r τ => r = some (.int (aCount D G l 0)) ∧ mKeep σ τ) := by
  obtain ⟨d, rfl⟩ : ∃ k, d = k + 1 := ⟨d - 1, by omega⟩
  refine gC.of (P := pX11_count) (nL := 2) (rt := (some (.int))) (lv := [some (.ref 0), some (.int 0)]) (by decide +kernel) rfl rfl rfl (by simp [gEnt, Value.category]) rfl ?_
  refine gR.steps 1 (σ, (1, [some (.ref 0), some (.int 0)], [.ref 0])) rfl ?_
  refine gR.call' rfl (s_X11_find (by omega) σ D hs) ?_
  rintro _ τ ⟨rfl, hk, hf⟩
  show gR _ _ _ τ (4, [some (.ref 0), some (.int 0)], [])
  refine gR.steps 4 (τ, (60, [some (.ref 0), some (.int 0)], [.int (τ 0 7)])) rfl ?_
  refine gR.topI (y := nI (dNb D)) hf.1.1 ?_
  refine gR.ret rfl ?_
  exact ⟨trivial, rfl, hk⟩
theorem s_X11_count1 {d : Nat} (hd : 7 ≤ d) (σ : gS) (D : xDat) (G : xSig) (l : Nat) (hs : mSt σ D) (hg : mSg σ G) (hl : mLa σ l) : gC d 198 [.ref 0, .int 1] σ (fun r τ => r = some (.int (aCount D G l 1)) ∧ mKeep σ τ) := by
  obtain ⟨d, rfl⟩ : ∃ k, d = k + 1 := ⟨d - 1, by omega⟩
  refine gC.of (P := pX11_count) (nL := 2) (rt := (some (.int))) (lv := [some (.ref 0), some (.int 1)]) (by decide +kernel) rfl rfl rfl (by simp [gEnt, Value.category]) rfl ?_
  refine gR.steps 1 (σ, (1, [some (.ref 0), some (.int 1)], [.ref 0])) rfl ?_
  refine gR.call' rfl (s_X11_find (by omega) σ D hs) ?_
  rintro _ τ ⟨rfl, hk, hf⟩
  show gR _ _ _ τ (4, [some (.ref 0), some (.int 1)], [])
  refine gR.steps 4 (τ, (65, [some (.ref 0), some (.int 1)], [.int (τ 0 9)])) rfl ?_
  refine gR.topI (y := nI (dNl D)) hf.2.1.1 ?_
  refine gR.ret rfl ?_
  exact ⟨trivial, rfl, hk⟩
theorem s_X11_count2 {d : Nat} (hd : 7 ≤ d) (σ : gS) (D : xDat) (G : xSig) (l : Nat) (hs : mSt σ D) (hg : mSg σ G) (hl : mLa σ l) : gC d 198 [.ref 0, .int 2] σ (fun r τ => r = some (.int (aCount D G l 2)) ∧ mKeep σ τ) := by
  obtain ⟨d, rfl⟩ : ∃ k, d = k + 1 := ⟨d - 1, by omega⟩
  refine gC.of (P := pX11_count) (nL := 2) (rt := (some (.int))) (lv := [some (.ref 0), some (.int 2)]) (by decide +kernel) rfl rfl rfl (by simp [gEnt, Value.category]) rfl ?_
  refine gR.steps 1 (σ, (1, [some (.ref 0), some (.int 2)], [.ref 0])) rfl ?_
  refine gR.call' rfl (s_X11_find (by omega) σ D hs) ?_
  rintro _ τ ⟨rfl, hk, hf⟩
  show gR _ _ _ τ (4, [some (.ref 0), some (.int 2)], [])
  refine gR.steps 7 (τ, (73, [some (.ref 0), some (.int 2)], [.int ((2 : Int32) - 2), .ref 6])) rfl ?_
  refine gR.ald (i := (2 : Int32) - 2) (j := 0) (N := 2) (g := τ 6) rfl (by decide) (by omega) (by omega) ?_
  refine gR.topI (y := nI (dN0 D)) (hs.keep hk).1.1 ?_
  refine gR.ret rfl ?_
  exact ⟨trivial, rfl, hk⟩
theorem s_X11_count3 {d : Nat} (hd : 7 ≤ d) (σ : gS) (D : xDat) (G : xSig) (l : Nat) (hs : mSt σ D) (hg : mSg σ G) (hl : mLa σ l) : gC d 198 [.ref 0, .int 3] σ (fun r τ => r = some (.int (aCount D G l 3)) ∧ mKeep σ τ) := by
  obtain ⟨d, rfl⟩ : ∃ k, d = k + 1 := ⟨d - 1, by omega⟩
  refine gC.of (P := pX11_count) (nL := 2) (rt := (some (.int))) (lv := [some (.ref 0), some (.int 3)]) (by decide +kernel) rfl rfl rfl (by simp [gEnt, Value.category]) rfl ?_
  refine gR.steps 1 (σ, (1, [some (.ref 0), some (.int 3)], [.ref 0])) rfl ?_
  refine gR.call' rfl (s_X11_find (by omega) σ D hs) ?_
  rintro _ τ ⟨rfl, hk, hf⟩
  show gR _ _ _ τ (4, [some (.ref 0), some (.int 3)], [])
  refine gR.steps 7 (τ, (73, [some (.ref 0), some (.int 3)], [.int ((3 : Int32) - 2), .ref 6])) rfl ?_
  refine gR.ald (i := (3 : Int32) - 2) (j := 1) (N := 2) (g := τ 6) rfl (by decide) (by omega) (by omega) ?_
  refine gR.topI (y := nI (dN1 D)) (hs.keep hk).2.1.1 ?_
  refine gR.ret rfl ?_
  exact ⟨trivial, rfl, hk⟩
theorem s_X11_count4 {d : Nat} (hd : 7 ≤ d) (σ : gS) (D : xDat) (G : xSig) (l : Nat) (hs : mSt σ D) (hg : mSg σ G) (hl : mLa σ l) : gC d 198 [.ref 0, .int 4] σ (fun r τ => r = some (.int (aCount D G l 4)) ∧ mKeep σ τ) := by
  obtain ⟨d, rfl⟩ : ∃ k, d = k + 1 := ⟨d - 1, by omega⟩
  refine gC.of (P := pX11_count) (nL := 2) (rt := (some (.int))) (lv := [some (.ref 0), some (.int 4)]) (by decide +kernel) rfl rfl rfl (by simp [gEnt, Value.category]) rfl ?_
  refine gR.steps 1 (σ, (1, [some (.ref 0), some (.int 4)], [.ref 0])) rfl ?_
  refine gR.call' rfl (s_X11_find (by omega) σ D hs) ?_
  rintro _ τ ⟨rfl, hk, hf⟩
  show gR _ _ _ τ (4, [some (.ref 0), some (.int 4)], [])
  refine gR.steps 4 (τ, (79, [some (.ref 0), some (.int 4)], [.int (τ 0 13)])) rfl ?_
  refine gR.topI (y := nI (dN D)) (hs.keep hk).2.2.1.1 ?_
  refine gR.ret rfl ?_
  exact ⟨trivial, rfl, hk⟩
theorem s_X11_count5 {d : Nat} (hd : 7 ≤ d) (σ : gS) (D : xDat) (G : xSig) (l : Nat) (hs : mSt σ D) (hg : mSg σ G) (hl : mLa σ l) : gC d 198 [.ref 0, .int 5] σ (fun r τ => r = some (.int (aCount D G l 5)) ∧ mKeep σ τ) := by
  obtain ⟨d, rfl⟩ : ∃ k, d = k + 1 := ⟨d - 1, by omega⟩
  refine gC.of (P := pX11_count) (nL := 2) (rt := (some (.int))) (lv := [some (.ref 0), some (.int 5)]) (by decide +kernel) rfl rfl rfl (by simp [gEnt, Value.category]) rfl ?_
  refine gR.steps 1 (σ, (1, [some (.ref 0), some (.int 5)], [.ref 0])) rfl ?_
  refine gR.call' rfl (s_X11_find (by omega) σ D hs) ?_
  rintro _ τ ⟨rfl, hk, hf⟩
  show gR _ _ _ τ (4, [some (.ref 0), some (.int 5)], [])
  refine gR.steps 3 (τ, (81, [some (.ref 0), some (.int 5)], [.ref 0])) rfl ?_
  have hn10 := dNb_le D hs.1.2.1
  refine gR.callp (x := .int (aBare D)) rfl (s_X11_bareNow (by omega) τ (dYel D) (fun m hm => ⟨(hf.2.2.1 m hm).2.1, dYel_le hf.1.sp hn10 m⟩)) ?_
  refine gR.callp rfl (s_X11_ones (by omega) τ (aBare D)) ?_
  refine gR.ret rfl ?_
  exact ⟨trivial, rfl, hk⟩
theorem s_X11_count6 {d : Nat} (hd : 7 ≤ d) (σ : gS) (D : xDat) (G : xSig) (l : Nat) (hs : mSt σ D) (hg : mSg σ G) (hl : mLa σ l) : gC d 198 [.ref 0, .int 6] σ (fun r τ => r = some (.int (aCount D G l 6)) ∧ mKeep σ τ) := by
  obtain ⟨d, rfl⟩ : ∃ k, d = k + 1 := ⟨d - 1, by omega⟩
  refine gC.of (P := pX11_count) (nL := 2) (rt := (some (.int))) (lv := [some (.ref 0), some (.int 6)]) (by decide +kernel) rfl rfl rfl (by simp [gEnt, Value.category]) rfl ?_
  refine gR.steps 1 (σ, (1, [some (.ref 0), some (.int 6)], [.ref 0])) rfl ?_
  refine gR.call' rfl (s_X11_find (by omega) σ D hs) ?_
  rintro _ τ ⟨rfl, hk, hf⟩
  show gR _ _ _ τ (4, [some (.ref 0), some (.int 6)], [])
  refine gR.steps 3 (τ, (89, [some (.ref 0), some (.int 6)], [.ref 0])) rfl ?_
  refine gR.callp rfl (s_X11_allYellow (by omega) τ (dYel D) (fun m hm => (hf.2.2.1 m hm).2.1)) ?_
  refine gR.ret rfl ?_
  exact ⟨trivial, rfl, hk⟩
theorem s_X11_count7 {d : Nat} (hd : 7 ≤ d) (σ : gS) (D : xDat) (G : xSig) (l : Nat) (hs : mSt σ D) (hg : mSg σ G) (hl : mLa σ l) : gC d 198 [.ref 0, .int 7] σ (fun r τ => r = some (.int (aCount D G l 7)) ∧ mKeep σ τ) := by
  obtain ⟨d, rfl⟩ : ∃ k, d = k + 1 := ⟨d - 1, by omega⟩
  refine gC.of (P := pX11_count) (nL := 2) (rt := (some (.int))) (lv := [some (.ref 0), some (.int 7)]) (by decide +kernel) rfl rfl rfl (by simp [gEnt, Value.category]) rfl ?_
  refine gR.steps 1 (σ, (1, [some (.ref 0), some (.int 7)], [.ref 0])) rfl ?_
  refine gR.call' rfl (s_X11_find (by omega) σ D hs) ?_
  rintro _ τ ⟨rfl, hk, hf⟩
  show gR _ _ _ τ (4, [some (.ref 0), some (.int 7)], [])
  refine gR.steps 4 (τ, (97, [some (.ref 0), some (.int 7)], [.int (τ 0 24)])) rfl ?_
  refine gR.topI (y := nI (G.1)) (hg.keep hk).1 ?_
  refine gR.ret rfl ?_
  exact ⟨trivial, rfl, hk⟩
theorem s_X11_count8 {d : Nat} (hd : 7 ≤ d) (σ : gS) (D : xDat) (G : xSig) (l : Nat) (hs : mSt σ D) (hg : mSg σ G) (hl : mLa σ l) : gC d 198 [.ref 0, .int 8] σ (fun r τ => r = some (.int (aCount D G l 8)) ∧ mKeep σ τ) := by
  obtain ⟨d, rfl⟩ : ∃ k, d = k + 1 := ⟨d - 1, by omega⟩
  refine gC.of (P := pX11_count) (nL := 2) (rt := (some (.int))) (lv := [some (.ref 0), some (.int 8)]) (by decide +kernel) rfl rfl rfl (by simp [gEnt, Value.category]) rfl ?_
  refine gR.steps 1 (σ, (1, [some (.ref 0), some (.int 8)], [.ref 0])) rfl ?_
  refine gR.call' rfl (s_X11_find (by omega) σ D hs) ?_
  rintro _ τ ⟨rfl, hk, hf⟩
  show gR _ _ _ τ (4, [some (.ref 0), some (.int 8)], [])
  refine gR.steps 4 (τ, (102, [some (.ref 0), some (.int 8)], [.int (τ 0 4)])) rfl ?_
  refine gR.topI (y := nI (l)) ((hk.2 4 (by decide) (by decide) (by decide) (by decide)).trans hl) ?_
  refine gR.ret rfl ?_
  exact ⟨trivial, rfl, hk⟩
theorem s_X11_countX {d : Nat} (hd : 7 ≤ d) (σ : gS) (D : xDat) (G : xSig) (l : Nat) (w : Int32) (hs : mSt σ D) (hw : ¬ (0 ≤ w.toInt ∧ w.toInt ≤ 8)) : gC d 198 [.ref 0, .int w] σ (fun r τ => r = some (.int (aCount D G l w)) ∧ mKeep σ τ) := by
  obtain ⟨d, rfl⟩ : ∃ k, d = k + 1 := ⟨d - 1, by omega⟩
  refine gC.of (P := pX11_count) (nL := 2) (rt := (some (.int))) (lv := [some (.ref 0), some (.int w)]) (by decide +kernel) rfl rfl rfl (by simp [gEnt, Value.category]) rfl ?_
  refine gR.steps 1 (σ, (1, [some (.ref 0), some (.int w)], [.ref 0])) rfl ?_
  refine gR.call' rfl (s_X11_find (by omega) σ D hs) ?_
  rintro _ τ ⟨rfl, hk, hf⟩
  show gR _ _ _ τ (4, [some (.ref 0), some (.int w)], [])
  refine gR.steps 1 (τ, (5, [some (.ref 0), some (.int w)], [.int w])) rfl ?_
  refine gR.sw (t := 103) rfl (tgt_d hw) ?_
  refine gR.steps 1 (τ, (105, [some (.ref 0), some (.int w)], [.int (-2)])) rfl ?_
  refine gR.ret rfl ?_
  exact ⟨trivial, by rw [show aCount D G l w = -2 from if_neg hw], hk⟩
theorem s_X11_count {d : Nat} (hd : 7 ≤ d) (σ : gS) (D : xDat) (G : xSig) (l : Nat) (w : Int32) (hs : mSt σ D) (hg : mSg σ G) (hl : mLa σ l) : gC d 198 [.ref 0, .int w] σ (fun r τ => r = some (.int (aCount D G l w)) ∧ mKeep σ τ) := by
  by_cases h : 0 ≤ w.toInt ∧ w.toInt ≤ 8
  · rcases i32_nine h with rfl | rfl | rfl | rfl | rfl | rfl | rfl | rfl | rfl
    · exact s_X11_count0 hd σ D G l hs hg hl
    · exact s_X11_count1 hd σ D G l hs hg hl
    · exact s_X11_count2 hd σ D G l hs hg hl
    · exact s_X11_count3 hd σ D G l hs hg hl
    · exact s_X11_count4 hd σ D G l hs hg hl
    · exact s_X11_count5 hd σ D G l hs hg hl
    · exact s_X11_count6 hd σ D G l hs hg hl
    · exact s_X11_count7 hd σ D G l hs hg hl
    · exact s_X11_count8 hd σ D G l hs hg hl
  · exact s_X11_countX hd σ D G l w hs h
/-- the digest's step -/
def hh (h : Int64) (x : Int32) : Int64 := 31 * h + Int32.toInt64 x
def xFo (F : Int64 → Nat → Int64) (h : Int64) : Nat → Int64
  | 0 => h
  | n + 1 => F (xFo F h n) n
def dAt (D : xDat) (m k w : Nat) : Int32 := if w = 0 then nI (dS D gn0 m k) else if w = 1 then bI (dS D gn0 m k = 1 ∨ dQ D gn0 m k = true) else bI (dQ D gn0 m k = true)
def dgAt (D : xDat) (m k : Nat) (h : Int64) : Int64 := xFo (fun h j => hh h (dAt D m k j)) h 3
def dBuN (D : xDat) (k j : Nat) : Nat := if j = 0 then dKd D k else if j = 1 then dBg D k else dSp D k
theorem dBuN_at {σ : gS} {D : xDat} (h : mBu σ (dNb D) (dKd D) (dBg D) (dSp D)) {k j : Nat} (hk : k < dNb D) (hj : j < 3) : σ 7 (3 * k + j) = nI (dBuN D k j) := by
  have hb := h.2.2 k hk
  rcases (show j = 0 ∨ j = 1 ∨ j = 2 by omega) with rfl | rfl | rfl
  · exact hb.1
  · exact hb.2.1
  · exact hb.2.2.1
def dgBush (D : xDat) (G : xSig) (h : Int64) (k : Nat) : Int64 := hh (hh (hh (dgAt D 23 k (dgAt D 13 k (dgAt D 6 k (dgAt D 0 k (xFo (fun h j => hh h (nI (dBuN D k j))) h 3))))) (dBegan D G k)) (dSort D G k)) (dAsk D G k)
theorem s_X11_tellsMonth {d : Nat} (hd : 3 ≤ d) (σ : gS) (D : xDat) (h : Int64) (m k : Nat) (hf : mFnd σ D) (hm : m < 24) (hk : k < dNb D) : gC d 199 [.ref 0, .long h, .int (nI m), .int (nI k)] σ (fun r τ => r = some (.long (dgAt D m k h)) ∧ τ = σ) := by
  obtain ⟨d, rfl⟩ : ∃ k, d = k + 1 := ⟨d - 1, by omega⟩
  refine gC.of (P := pX11_tellsMonth) (nL := 8) (rt := (some (.long))) (lv := [some (.ref 0), some (.long h), none, some (.int (nI m)), some (.int (nI k)), none, none, none]) (by decide +kernel) rfl rfl rfl (by simp [gEnt, Value.category]) rfl ?_
  have hn11 := hf.1.2.1
  refine gR.steps 4 (σ, (6, [some (.ref 0), some (.long h), none, some (.int (nI m)), some (.int (nI k)), some (.long h), none, some (.int 0)], [])) rfl ?_
  refine gR.forget [some (.ref 0), some (.long h), none, some (.int (nI m)), some (.int (nI k)), some (.long (xFo (fun h j => hh h (dAt D m k j)) h 0)), none, some (.int 0)] ⟨rfl, ⟨rfl, ⟨rfl, ⟨rfl, ⟨rfl, ⟨rfl, trivial⟩⟩⟩⟩⟩⟩ ?_
  refine gR.loop (α := Nat) (fun j => j ≤ 3) (fun j => 3 - j) (fun j => (σ, (6, [some (.ref 0), some (.long h), none, some (.int (nI m)), some (.int (nI k)), some (.long (xFo (fun h j => hh h (dAt D m k j)) h j)), none, some (.int (nI j))], []))) ?_ 0 (Nat.zero_le 3)
  rintro j hj ih
  show gR _ _ _ σ (6, [some (.ref 0), some (.long h), none, some (.int (nI m)), some (.int (nI k)), some (.long (xFo (fun h j => hh h (dAt D m k j)) h j)), none, some (.int (nI j))], [])
  refine gR.steps 2 (σ, (9, [some (.ref 0), some (.long h), none, some (.int (nI m)), some (.int (nI k)), some (.long (xFo (fun h j => hh h (dAt D m k j)) h j)), none, some (.int (nI j))], [.int 3, .int (nI j)])) rfl ?_
  refine gR.ifte rfl (fun zc9 => ?_) (fun zc9 => ?_)
  · rw [gN_le (x := 3) (y := nI j) (a := 3) (b := j) rfl rfl (by omega) (by omega)] at zc9
    refine gR.steps 1 (σ, (39, [some (.ref 0), some (.long h), none, some (.int (nI m)), some (.int (nI k)), some (.long (xFo (fun h j => hh h (dAt D m k j)) h j)), none, some (.int (nI j))], [.long (xFo (fun h j => hh h (dAt D m k j)) h j)])) rfl ?_
    refine gR.ret rfl ?_
    exact ⟨trivial, by rw [show j = 3 by omega]; rfl, rfl⟩
  · rw [gN_le (x := 3) (y := nI j) (a := 3) (b := j) rfl rfl (by omega) (by omega)] at zc9
    refine gR.steps 7 (σ, (24, [some (.ref 0), some (.long h), none, some (.int (nI m)), some (.int (nI k)), some (.long (xFo (fun h j => hh h (dAt D m k j)) h j)), none, some (.int (nI j))], [.int (nI j), .int (nI k), .int (nI m), .ref 0, .long ((31 : Int64) * (xFo (fun h j => hh h (dAt D m k j)) h j))])) rfl ?_
    refine gR.callp (x := .int (dAt D m k j)) rfl (s_X11_atBy (by omega) σ m k j (dS D gn0 m k) (dQ D gn0 m k) ((hf.2.2.1 m hm).1 k hk).1 (xSt_lt _ _ _ _ _ _ _ _ _) ((hf.2.2.1 m hm).1 k hk).2 hm (by omega) (by omega)) ?_
    refine gR.steps 5 (σ, (6, [some (.ref 0), some (.long h), none, some (.int (nI m)), some (.int (nI k)), some (.long (((31 : Int64) * (xFo (fun h j => hh h (dAt D m k j)) h j)) + (Int32.toInt64 (dAt D m k j)))), none, some (.int ((nI j) + 1))], [])) rfl ?_
    refine gR.forget [some (.ref 0), some (.long h), none, some (.int (nI m)), some (.int (nI k)), some (.long (xFo (fun h j => hh h (dAt D m k j)) h (j + 1))), none, some (.int (nI (j + 1)))] ⟨rfl, ⟨rfl, ⟨rfl, ⟨rfl, ⟨rfl, ⟨gSomeI (gN_add rfl rfl), trivial⟩⟩⟩⟩⟩⟩ ?_
    exact ih (j + 1) (by omega) (by omega)
theorem s_X11_tellsBush {d : Nat} (hd : 7 ≤ d) (σ : gS) (D : xDat) (G : xSig) (h : Int64) (k : Nat) (hA : mAll σ D G) (hk : k < dNb D) : gC d 200 [.ref 0, .long h, .int (nI k)] σ (fun r τ => r = some (.long (dgBush D G h k)) ∧ ∀ q, q ≠ 16 → τ q = σ q) := by
  obtain ⟨d, rfl⟩ : ∃ k, d = k + 1 := ⟨d - 1, by omega⟩
  refine gC.of (P := pX11_tellsBush) (nL := 7) (rt := (some (.long))) (lv := [some (.ref 0), some (.long h), none, some (.int (nI k)), none, none, none]) (by decide +kernel) rfl rfl rfl (by simp [gEnt, Value.category]) rfl ?_
  have hn11 := hA.2.1.1.2.1
  refine gR.steps 4 (σ, (6, [some (.ref 0), some (.long h), none, some (.int (nI k)), some (.long h), none, some (.int 0)], [])) rfl ?_
  refine gR.forget [some (.ref 0), some (.long h), none, some (.int (nI k)), some (.long (xFo (fun h j => hh h (nI (dBuN D k j))) h 0)), none, some (.int 0)] ⟨rfl, ⟨rfl, ⟨rfl, ⟨rfl, ⟨rfl, trivial⟩⟩⟩⟩⟩ ?_
  refine gR.loop (α := Nat) (fun j => j ≤ 3) (fun j => 3 - j) (fun j => (σ, (6, [some (.ref 0), some (.long h), none, some (.int (nI k)), some (.long (xFo (fun h j => hh h (nI (dBuN D k j))) h j)), none, some (.int (nI j))], []))) ?_ 0 (Nat.zero_le 3)
  rintro j hj ih
  show gR _ _ _ σ (6, [some (.ref 0), some (.long h), none, some (.int (nI k)), some (.long (xFo (fun h j => hh h (nI (dBuN D k j))) h j)), none, some (.int (nI j))], [])
  refine gR.steps 2 (σ, (9, [some (.ref 0), some (.long h), none, some (.int (nI k)), some (.long (xFo (fun h j => hh h (nI (dBuN D k j))) h j)), none, some (.int (nI j))], [.int 3, .int (nI j)])) rfl ?_
  refine gR.ifte rfl (fun zc9 => ?_) (fun zc9 => ?_)
  · rw [gN_le (x := 3) (y := nI j) (a := 3) (b := j) rfl rfl (by omega) (by omega)] at zc9
    refine gR.steps 7 (σ, (47, [some (.ref 0), some (.long h), none, some (.int (nI k)), some (.long (xFo (fun h j => hh h (nI (dBuN D k j))) h j)), none, some (.int (nI j))], [.int (nI k), .int 0, .long (xFo (fun h j => hh h (nI (dBuN D k j))) h j), .ref 0, .ref 0, .ref 0, .ref 0])) rfl ?_
    refine gR.callp (x := .long (dgAt D 0 k (xFo (fun h j => hh h (nI (dBuN D k j))) h j))) rfl (s_X11_tellsMonth (by omega) σ D (xFo (fun h j => hh h (nI (dBuN D k j))) h j) 0 k hA.2.1 (by omega) hk) ?_
    refine gR.steps 2 (σ, (53, [some (.ref 0), some (.long h), none, some (.int (nI k)), some (.long (xFo (fun h j => hh h (nI (dBuN D k j))) h j)), none, some (.int (nI j))], [.int (nI k), .int 6, .long (dgAt D 0 k (xFo (fun h j => hh h (nI (dBuN D k j))) h j)), .ref 0, .ref 0, .ref 0])) rfl ?_
    refine gR.callp (x := .long (dgAt D 6 k (dgAt D 0 k (xFo (fun h j => hh h (nI (dBuN D k j))) h j)))) rfl (s_X11_tellsMonth (by omega) σ D (dgAt D 0 k (xFo (fun h j => hh h (nI (dBuN D k j))) h j)) 6 k hA.2.1 (by omega) hk) ?_
    refine gR.steps 2 (σ, (59, [some (.ref 0), some (.long h), none, some (.int (nI k)), some (.long (xFo (fun h j => hh h (nI (dBuN D k j))) h j)), none, some (.int (nI j))], [.int (nI k), .int 13, .long (dgAt D 6 k (dgAt D 0 k (xFo (fun h j => hh h (nI (dBuN D k j))) h j))), .ref 0, .ref 0])) rfl ?_
    refine gR.callp (x := .long (dgAt D 13 k (dgAt D 6 k (dgAt D 0 k (xFo (fun h j => hh h (nI (dBuN D k j))) h j))))) rfl (s_X11_tellsMonth (by omega) σ D (dgAt D 6 k (dgAt D 0 k (xFo (fun h j => hh h (nI (dBuN D k j))) h j))) 13 k hA.2.1 (by omega) hk) ?_
    refine gR.steps 2 (σ, (65, [some (.ref 0), some (.long h), none, some (.int (nI k)), some (.long (xFo (fun h j => hh h (nI (dBuN D k j))) h j)), none, some (.int (nI j))], [.int (nI k), .int 23, .long (dgAt D 13 k (dgAt D 6 k (dgAt D 0 k (xFo (fun h j => hh h (nI (dBuN D k j))) h j)))), .ref 0])) rfl ?_
    refine gR.callp (x := .long (dgAt D 23 k (dgAt D 13 k (dgAt D 6 k (dgAt D 0 k (xFo (fun h j => hh h (nI (dBuN D k j))) h j)))))) rfl (s_X11_tellsMonth (by omega) σ D (dgAt D 13 k (dgAt D 6 k (dgAt D 0 k (xFo (fun h j => hh h (nI (dBuN D k j))) h j)))) 23 k hA.2.1 (by omega) hk) ?_
    refine gR.steps 6 (σ, (78, [some (.ref 0), some (.long h), none, some (.int (nI k)), some (.long (dgAt D 23 k (dgAt D 13 k (dgAt D 6 k (dgAt D 0 k (xFo (fun h j => hh h (nI (dBuN D k j))) h j)))))), none, some (.int (nI j))], [.int (nI k), .ref 0, .long ((31 : Int64) * (dgAt D 23 k (dgAt D 13 k (dgAt D 6 k (dgAt D 0 k (xFo (fun h j => hh h (nI (dBuN D k j))) h j))))))])) rfl ?_
    refine gR.callp rfl (s_X11_began (by omega) σ D G k hA hk) ?_
    refine gR.steps 8 (σ, (93, [some (.ref 0), some (.long h), none, some (.int (nI k)), some (.long (((31 : Int64) * (dgAt D 23 k (dgAt D 13 k (dgAt D 6 k (dgAt D 0 k (xFo (fun h j => hh h (nI (dBuN D k j))) h j)))))) + (Int32.toInt64 (dBegan D G k)))), none, some (.int (nI j))], [.int (nI k), .ref 0, .long ((31 : Int64) * (((31 : Int64) * (dgAt D 23 k (dgAt D 13 k (dgAt D 6 k (dgAt D 0 k (xFo (fun h j => hh h (nI (dBuN D k j))) h j)))))) + (Int32.toInt64 (dBegan D G k))))])) rfl ?_
    refine gR.callp rfl (s_X11_sort (by omega) σ D G k hA hk) ?_
    refine gR.steps 8 (σ, (108, [some (.ref 0), some (.long h), none, some (.int (nI k)), some (.long (((31 : Int64) * (((31 : Int64) * (dgAt D 23 k (dgAt D 13 k (dgAt D 6 k (dgAt D 0 k (xFo (fun h j => hh h (nI (dBuN D k j))) h j)))))) + (Int32.toInt64 (dBegan D G k)))) + (Int32.toInt64 (dSort D G k)))), none, some (.int (nI j))], [.int (nI k), .ref 0, .long ((31 : Int64) * (((31 : Int64) * (((31 : Int64) * (dgAt D 23 k (dgAt D 13 k (dgAt D 6 k (dgAt D 0 k (xFo (fun h j => hh h (nI (dBuN D k j))) h j)))))) + (Int32.toInt64 (dBegan D G k)))) + (Int32.toInt64 (dSort D G k))))])) rfl ?_
    refine gR.call' rfl (s_X11_askOf (by omega) σ D G k hA hk) ?_
    rintro _ τ ⟨rfl, hG⟩
    show gR _ _ _ τ (111, [some (.ref 0), some (.long h), none, some (.int (nI k)), some (.long (((31 : Int64) * (((31 : Int64) * (dgAt D 23 k (dgAt D 13 k (dgAt D 6 k (dgAt D 0 k (xFo (fun h j => hh h (nI (dBuN D k j))) h j)))))) + (Int32.toInt64 (dBegan D G k)))) + (Int32.toInt64 (dSort D G k)))), none, some (.int (nI j))], [.int (dAsk D G k), .long ((31 : Int64) * (((31 : Int64) * (((31 : Int64) * (dgAt D 23 k (dgAt D 13 k (dgAt D 6 k (dgAt D 0 k (xFo (fun h j => hh h (nI (dBuN D k j))) h j)))))) + (Int32.toInt64 (dBegan D G k)))) + (Int32.toInt64 (dSort D G k))))])
    refine gR.steps 2 (τ, (113, [some (.ref 0), some (.long h), none, some (.int (nI k)), some (.long (((31 : Int64) * (((31 : Int64) * (dgAt D 23 k (dgAt D 13 k (dgAt D 6 k (dgAt D 0 k (xFo (fun h j => hh h (nI (dBuN D k j))) h j)))))) + (Int32.toInt64 (dBegan D G k)))) + (Int32.toInt64 (dSort D G k)))), none, some (.int (nI j))], [.long (((31 : Int64) * (((31 : Int64) * (((31 : Int64) * (dgAt D 23 k (dgAt D 13 k (dgAt D 6 k (dgAt D 0 k (xFo (fun h j => hh h (nI (dBuN D k j))) h j)))))) + (Int32.toInt64 (dBegan D G k)))) + (Int32.toInt64 (dSort D G k)))) + (Int32.toInt64 (dAsk D G k)))])) rfl ?_
    refine gR.ret rfl ?_
    exact ⟨trivial, by rw [show j = 3 by omega]; rfl, hG⟩
  · rw [gN_le (x := 3) (y := nI j) (a := 3) (b := j) rfl rfl (by omega) (by omega)] at zc9
    refine gR.steps 10 (σ, (28, [some (.ref 0), some (.long h), none, some (.int (nI k)), some (.long (xFo (fun h j => hh h (nI (dBuN D k j))) h j)), none, some (.int (nI j))], [.int ((3 * (nI k)) + (nI j)), .ref 7, .long ((31 : Int64) * (xFo (fun h j => hh h (nI (dBuN D k j))) h j))])) rfl ?_
    refine gR.ald (i := (3 * (nI k)) + (nI j)) (j := 3 * k + j) (N := 33) (g := σ 7) rfl (gN_add (gN_mul rfl rfl) rfl) (by omega) (by omega) ?_
    refine gR.topI (y := nI (dBuN D k j)) (dBuN_at hA.2.1.1 hk (by omega)) ?_
    refine gR.steps 5 (σ, (6, [some (.ref 0), some (.long h), none, some (.int (nI k)), some (.long (((31 : Int64) * (xFo (fun h j => hh h (nI (dBuN D k j))) h j)) + (Int32.toInt64 (nI (dBuN D k j))))), none, some (.int ((nI j) + 1))], [])) rfl ?_
    refine gR.forget [some (.ref 0), some (.long h), none, some (.int (nI k)), some (.long (xFo (fun h j => hh h (nI (dBuN D k j))) h (j + 1))), none, some (.int (nI (j + 1)))] ⟨rfl, ⟨rfl, ⟨rfl, ⟨rfl, ⟨gSomeI (gN_add rfl rfl), trivial⟩⟩⟩⟩⟩ ?_
    exact ih (j + 1) (by omega) (by omega)
