theorem s_X11_inI {d : Nat} (hd : 1 ≤ d) (σ : gS) (v : Int32) (lo hi : Int64) (a b : Int) (ha : lo.toInt = a) (hb : hi.toInt = b) : gC d 111 [.long (Int32.toInt64 v), .long lo, .long hi] σ (fun r τ => r = some (.int (bI (a ≤ v.toInt ∧ v.toInt ≤ b))) ∧ τ = σ) :=
  (s_X11_in hd σ (Int32.toInt64 v) lo hi).mono (fun r τ h => ⟨by rw [h.1, bI_congr (show (lo.toInt ≤ (Int32.toInt64 v).toInt ∧ (Int32.toInt64 v).toInt ≤ hi.toInt) ↔ (a ≤ v.toInt ∧ v.toInt ≤ b) by rw [iI64, ha, hb])], h.2⟩)
def xPick3 (w : Int32) (a b c : Int32) : Int32 := if w = 0 then a else if w = 1 then b else c
def aBush (D : xDat) (k w : Int32) : Int32 := if (0 ≤ k.toInt ∧ k.toInt < dNb D) ∧ (0 ≤ w.toInt ∧ w.toInt ≤ 2) then xPick3 w (nI (dKd D k.toNatClampNeg)) (nI (dBg D k.toNatClampNeg)) (nI (dSp D k.toNatClampNeg)) else -2
def aLook (D : xDat) (i w : Int32) : Int32 := if (0 ≤ i.toInt ∧ i.toInt ≤ 11) ∧ (0 ≤ w.toInt ∧ w.toInt ≤ 1) then (if dNl D ≤ i.toNatClampNeg then -1 else if w = 0 then nI (dLm D i.toNatClampNeg) else nI (dLb D i.toNatClampNeg)) else -2
def dYel (D : xDat) (m : Nat) : Nat := xSum (fun k => if dS D gn0 m k = 1 then dSp D k else 0) (dNb D)
def dSee (D : xDat) (m : Nat) : Nat := xSum (fun k => if dS D gn0 m k = 1 ∨ dQ D gn0 m k = true then dSp D k else 0) (dNb D)
def aHill (D : xDat) (m w : Int32) : Int32 := if (0 ≤ m.toInt ∧ m.toInt ≤ 23) ∧ (0 ≤ w.toInt ∧ w.toInt ≤ 2) then xPick3 w (nI (dYel D m.toNatClampNeg)) (nI (dBel D none 0 (m.toNatClampNeg + 1))) (nI (dSee D m.toNatClampNeg)) else -2
def aAt (D : xDat) (m k w : Int32) : Int32 := if ((0 ≤ m.toInt ∧ m.toInt ≤ 23) ∧ (0 ≤ k.toInt ∧ k.toInt < dNb D)) ∧ (0 ≤ w.toInt ∧ w.toInt ≤ 2) then xPick3 w (nI (dS D gn0 m.toNatClampNeg k.toNatClampNeg)) (bI (dS D gn0 m.toNatClampNeg k.toNatClampNeg = 1 ∨ dQ D gn0 m.toNatClampNeg k.toNatClampNeg = true)) (bI (dQ D gn0 m.toNatClampNeg k.toNatClampNeg = true)) else -2
theorem xPick3_n {w : Nat} (h : w < 3) (a b c : Int32) : xPick3 (nI w) a b c = if w = 0 then a else if w = 1 then b else c := by
  unfold xPick3
  rcases (show w = 0 ∨ w = 1 ∨ w = 2 by omega) with rfl | rfl | rfl <;> rfl
/-- the bushes, in the model's memory -/
def mBush (τ : gS) (D : xDat) : Prop := mBu τ (dNb D) (dKd D) (dBg D) (dSp D)
theorem s_X11_bush {d : Nat} (hd : 4 ≤ d) (σ : gS) (D : xDat) (k w : Int32) (hs : mSt σ D) : gC d 140 [.ref 0, .int k, .int w] σ (fun r τ => r = some (.int (aBush D k w)) ∧ mKeep σ τ) := by
  obtain ⟨d, rfl⟩ : ∃ k, d = k + 1 := ⟨d - 1, by omega⟩
  refine gC.of (P := pX11_bush) (nL := 3) (rt := (some (.int))) (lv := [some (.ref 0), some (.int k), some (.int w)]) (by decide +kernel) rfl rfl rfl (by simp [gEnt, Value.category]) rfl ?_
  refine gR.steps 1 (σ, (1, [some (.ref 0), some (.int k), some (.int w)], [.ref 0])) rfl ?_
  refine gR.call' rfl (s_X11_readsBushes (by omega) σ (dN0 D) (dC0 D) hs.1.1 hs.1.2.1 hs.1.2.2) ?_
  rintro _ τ ⟨rfl, hF, hB⟩
  have hB : mBu τ (dNb D) (dKd D) (dBg D) (dSp D) := hB
  have hnb := dNb_le D hs.1.2.1
  show gR _ _ _ τ (4, [some (.ref 0), some (.int k), some (.int w)], [.int (xFlt 4 (xG0 (dC0 D)) (dN0 D))])
  refine gR.steps 3 (τ, (7, [some (.ref 0), some (.int k), some (.int w)], [.int k, .ref 0])) rfl ?_
  refine gR.callp rfl (s_X11_isBush (by omega) τ k (dNb D) hB.1 (by omega)) ?_
  refine gR.ifte rfl (fun zc10 => ?_) (fun zc10 => ?_)
  · rw [bI_eq0] at zc10
    refine gR.steps 1 (τ, (40, [some (.ref 0), some (.int k), some (.int w)], [.int (-2)])) rfl ?_
    refine gR.ret rfl ?_
    exact ⟨trivial, by unfold aBush; rw [if_neg (by omega)], hF.keep⟩
  · rw [bI_eq0, Decidable.not_not] at zc10
    obtain ⟨kk, hkk, rfl⟩ := gN_of (x := k) (n := 11) (by omega) (by omega) (by omega)
    refine gR.steps 4 (τ, (19, [some (.ref 0), some (.int (nI kk)), some (.int w)], [.long 2, .long 0, .long (Int32.toInt64 w)])) rfl ?_
    refine gR.callp rfl (s_X11_inI (by omega) τ w 0 2 0 2 (by decide) (by decide)) ?_
    refine gR.ifte rfl (fun zc22 => ?_) (fun zc22 => ?_)
    · rw [bI_eq0] at zc22
      refine gR.steps 1 (τ, (40, [some (.ref 0), some (.int (nI kk)), some (.int w)], [.int (-2)])) rfl ?_
      refine gR.ret rfl ?_
      exact ⟨trivial, by unfold aBush; rw [if_neg (by omega)], hF.keep⟩
    · rw [bI_eq0, Decidable.not_not] at zc22
      obtain ⟨ww, hww, rfl⟩ := gN_of (x := w) (n := 3) (by omega) (by omega) (by omega)
      refine gR.steps 7 (τ, (34, [some (.ref 0), some (.int (nI kk)), some (.int (nI ww))], [.int ((3 * (nI kk)) + (nI ww)), .ref 7])) rfl ?_
      refine gR.ald (i := (3 * (nI kk)) + (nI ww)) (j := 3 * kk + ww) (N := 33) (g := τ 7) rfl (gN_add (gN_mul rfl rfl) rfl) (by omega) (by omega) ?_
      refine gR.steps 1 (τ, (40, [some (.ref 0), some (.int (nI kk)), some (.int (nI ww))], [.int (τ 7 (3 * kk + ww))])) rfl ?_
      refine gR.ret rfl ?_
      refine ⟨trivial, ?_, hF.keep⟩
      have hb3 := hB.2.2 kk (by rw [nI_toInt (by omega)] at zc10; omega)
      rw [show aBush D (nI kk) (nI ww) = _ from if_pos ⟨zc10, zc22⟩, xPick3_n hww, nI_clamp (by omega)]
      congr 2
      rcases (show ww = 0 ∨ ww = 1 ∨ ww = 2 by omega) with rfl | rfl | rfl
      · exact hb3.1
      · exact hb3.2.1
      · exact hb3.2.2.1
theorem s_X11_lookBy {d : Nat} (hd : 1 ≤ d) (σ : gS) (nl : Nat) (lm lb : Nat → Nat) (i w : Nat) (hL : mLo σ nl lm lb) (hi : i < 12) (hw : w < 2) : gC d 141 [.ref 0, .int (nI i), .int (nI w)] σ (fun r τ => r = some (.int (if nl ≤ i then -1 else if w = 0 then nI (lm i) else nI (lb i))) ∧ τ = σ) := by
  obtain ⟨d, rfl⟩ : ∃ k, d = k + 1 := ⟨d - 1, by omega⟩
  refine gC.of (P := pX11_lookBy) (nL := 3) (rt := (some (.int))) (lv := [some (.ref 0), some (.int (nI i)), some (.int (nI w))]) (by decide +kernel) rfl rfl rfl (by simp [gEnt, Value.category]) rfl ?_
  have hn12 := hL.2.1
  refine gR.steps 3 (σ, (5, [some (.ref 0), some (.int (nI i)), some (.int (nI w))], [.int (σ 0 9), .int (nI i)])) rfl ?_
  refine gR.topI (y := nI (nl)) hL.1 ?_
  refine gR.ifte rfl (fun zc5 => ?_) (fun zc5 => ?_)
  · rw [gN_le (x := nI nl) (y := nI i) (a := nl) (b := i) rfl rfl (by omega) (by omega)] at zc5
    refine gR.steps 1 (σ, (22, [some (.ref 0), some (.int (nI i)), some (.int (nI w))], [.int (-1)])) rfl ?_
    refine gR.ret rfl ?_
    exact ⟨trivial, by rw [if_pos zc5], rfl⟩
  · rw [gN_le (x := nI nl) (y := nI i) (a := nl) (b := i) rfl rfl (by omega) (by omega)] at zc5
    refine gR.steps 7 (σ, (17, [some (.ref 0), some (.int (nI i)), some (.int (nI w))], [.int ((2 * (nI i)) + (nI w)), .ref 8])) rfl ?_
    refine gR.ald (i := (2 * (nI i)) + (nI w)) (j := 2 * i + w) (N := 24) (g := σ 8) rfl (gN_add (gN_mul rfl rfl) rfl) (by omega) (by omega) ?_
    refine gR.steps 1 (σ, (22, [some (.ref 0), some (.int (nI i)), some (.int (nI w))], [.int (σ 8 (2 * i + w))])) rfl ?_
    refine gR.ret rfl ?_
    refine ⟨trivial, ?_, rfl⟩
    rw [if_neg zc5]
    congr 2
    rcases (show w = 0 ∨ w = 1 by omega) with rfl | rfl
    · exact (hL.2.2 i (by omega)).1
    · exact (hL.2.2 i (by omega)).2.1
theorem s_X11_look {d : Nat} (hd : 4 ≤ d) (σ : gS) (D : xDat) (i w : Int32) (hs : mSt σ D) : gC d 142 [.ref 0, .int i, .int w] σ (fun r τ => r = some (.int (aLook D i w)) ∧ mKeep σ τ) := by
  obtain ⟨d, rfl⟩ : ∃ k, d = k + 1 := ⟨d - 1, by omega⟩
  refine gC.of (P := pX11_look) (nL := 3) (rt := (some (.int))) (lv := [some (.ref 0), some (.int i), some (.int w)]) (by decide +kernel) rfl rfl rfl (by simp [gEnt, Value.category]) rfl ?_
  refine gR.steps 1 (σ, (1, [some (.ref 0), some (.int i), some (.int w)], [.ref 0])) rfl ?_
  refine gR.call' rfl (s_X11_readsLooks (by omega) σ (dN1 D) (dC1 D) hs.2.1.1 hs.2.1.2.1 hs.2.1.2.2) ?_
  rintro _ τ ⟨rfl, hF, hL⟩
  show gR _ _ _ τ (4, [some (.ref 0), some (.int i), some (.int w)], [.int (xFlt 3 (xG1 (dC1 D)) (dN1 D))])
  refine gR.steps 5 (τ, (11, [some (.ref 0), some (.int i), some (.int w)], [.long 11, .long 0, .long (Int32.toInt64 i)])) rfl ?_
  refine gR.callp rfl (s_X11_inI (by omega) τ i 0 11 0 11 (by decide) (by decide)) ?_
  refine gR.ifte rfl (fun zc14 => ?_) (fun zc14 => ?_)
  · rw [bI_eq0] at zc14
    refine gR.steps 1 (τ, (35, [some (.ref 0), some (.int i), some (.int w)], [.int (-2)])) rfl ?_
    refine gR.ret rfl ?_
    exact ⟨trivial, by unfold aLook; rw [if_neg (by omega)], hF.keep⟩
  · rw [bI_eq0, Decidable.not_not] at zc14
    obtain ⟨ii, hii, rfl⟩ := gN_of (x := i) (n := 12) (by omega) (by omega) (by omega)
    refine gR.steps 1 (τ, (18, [some (.ref 0), some (.int (nI ii)), some (.int w)], [.int w])) rfl ?_
    refine gR.callp rfl (s_X11_isTwo (by omega) τ w) ?_
    refine gR.ifte rfl (fun zc21 => ?_) (fun zc21 => ?_)
    · rw [bI_eq0] at zc21
      refine gR.steps 1 (τ, (35, [some (.ref 0), some (.int (nI ii)), some (.int w)], [.int (-2)])) rfl ?_
      refine gR.ret rfl ?_
      exact ⟨trivial, by unfold aLook; rw [if_neg (by omega)], hF.keep⟩
    · rw [bI_eq0, Decidable.not_not] at zc21
      obtain ⟨ww, hww, rfl⟩ := gN_of (x := w) (n := 2) (by omega) (by omega) (by omega)
      refine gR.steps 3 (τ, (27, [some (.ref 0), some (.int (nI ii)), some (.int (nI ww))], [.int (nI ww), .int (nI ii), .ref 0])) rfl ?_
      refine gR.callp rfl (s_X11_lookBy (by omega) τ (dNl D) (dLm D) (dLb D) ii ww hL (by omega) (by omega)) ?_
      refine gR.steps 1 (τ, (35, [some (.ref 0), some (.int (nI ii)), some (.int (nI ww))], [.int (if dNl D ≤ ii then -1 else if ww = 0 then nI (dLm D ii) else nI (dLb D ii))])) rfl ?_
      refine gR.ret rfl ?_
      refine ⟨trivial, ?_, hF.keep⟩
      rw [show aLook D (nI ii) (nI ww) = _ from if_pos ⟨zc14, zc21⟩, nI_clamp (by omega)]
      rcases (show ww = 0 ∨ ww = 1 by omega) with rfl | rfl <;> rfl
theorem s_X11_hillBy {d : Nat} (hd : 1 ≤ d) (σ : gS) (m w y b s : Nat) (hm : m < 24) (hw : w < 3) (h12 : σ 12 m = nI y) (h13 : σ 13 m = nI b) (h14 : σ 14 m = nI s) : gC d 161 [.ref 0, .int (nI m), .int (nI w)] σ (fun r τ => r = some (.int (if w = 0 then nI y else if w = 1 then nI b else nI s)) ∧ τ = σ) := by
  obtain ⟨d, rfl⟩ : ∃ k, d = k + 1 := ⟨d - 1, by omega⟩
  refine gC.of (P := pX11_hillBy) (nL := 3) (rt := (some (.int))) (lv := [some (.ref 0), some (.int (nI m)), some (.int (nI w))]) (by decide +kernel) rfl rfl rfl (by simp [gEnt, Value.category]) rfl ?_
  refine gR.steps 1 (σ, (1, [some (.ref 0), some (.int (nI m)), some (.int (nI w))], [.int (nI w)])) rfl ?_
  refine gR.ifte rfl (fun zc1 => ?_) (fun zc1 => ?_)
  · rw [gN_eq (x := nI w) (y := 0) (a := w) (b := 0) rfl rfl (by omega) (by omega)] at zc1
    refine gR.steps 2 (σ, (15, [some (.ref 0), some (.int (nI m)), some (.int (nI w))], [.int 1, .int (nI w)])) rfl ?_
    refine gR.ifte rfl (fun zc15 => ?_) (fun zc15 => ?_)
    · rw [gN_eq (x := nI w) (y := 1) (a := w) (b := 1) rfl rfl (by omega) (by omega)] at zc15
      refine gR.steps 3 (σ, (32, [some (.ref 0), some (.int (nI m)), some (.int (nI w))], [.int (nI m), .ref 14])) rfl ?_
      refine gR.ald (i := nI m) (j := m) (N := 24) (g := σ 14) rfl rfl (by omega) (by omega) ?_
      refine gR.topI (y := nI (s)) h14 ?_
      refine gR.ret rfl ?_
      refine ⟨trivial, ?_, rfl⟩
      congr 2
      first | rw [if_pos (Decidable.not_not.mp zc1)] | rw [if_neg zc1, if_pos (Decidable.not_not.mp zc15)] | rw [if_neg zc1, if_neg zc15]
    · rw [gN_eq (x := nI w) (y := 1) (a := w) (b := 1) rfl rfl (by omega) (by omega)] at zc15
      refine gR.steps 3 (σ, (23, [some (.ref 0), some (.int (nI m)), some (.int (nI w))], [.int (nI m), .ref 13])) rfl ?_
      refine gR.ald (i := nI m) (j := m) (N := 24) (g := σ 13) rfl rfl (by omega) (by omega) ?_
      refine gR.topI (y := nI (b)) h13 ?_
      refine gR.steps 1 (σ, (33, [some (.ref 0), some (.int (nI m)), some (.int (nI w))], [.int (nI b)])) rfl ?_
      refine gR.ret rfl ?_
      refine ⟨trivial, ?_, rfl⟩
      congr 2
      first | rw [if_pos (Decidable.not_not.mp zc1)] | rw [if_neg zc1, if_pos (Decidable.not_not.mp zc15)] | rw [if_neg zc1, if_neg zc15]
  · rw [gN_eq (x := nI w) (y := 0) (a := w) (b := 0) rfl rfl (by omega) (by omega)] at zc1
    refine gR.steps 3 (σ, (9, [some (.ref 0), some (.int (nI m)), some (.int (nI w))], [.int (nI m), .ref 12])) rfl ?_
    refine gR.ald (i := nI m) (j := m) (N := 24) (g := σ 12) rfl rfl (by omega) (by omega) ?_
    refine gR.topI (y := nI (y)) h12 ?_
    refine gR.steps 1 (σ, (33, [some (.ref 0), some (.int (nI m)), some (.int (nI w))], [.int (nI y)])) rfl ?_
    refine gR.ret rfl ?_
    refine ⟨trivial, ?_, rfl⟩
    congr 2
    first | rw [if_pos (Decidable.not_not.mp zc1)] | rw [if_neg zc1, if_pos (Decidable.not_not.mp zc15)] | rw [if_neg zc1, if_neg zc15]
theorem s_X11_hill {d : Nat} (hd : 7 ≤ d) (σ : gS) (D : xDat) (m w : Int32) (hs : mSt σ D) : gC d 162 [.ref 0, .int m, .int w] σ (fun r τ => r = some (.int (aHill D m w)) ∧ mKeep σ τ) := by
  obtain ⟨d, rfl⟩ : ∃ k, d = k + 1 := ⟨d - 1, by omega⟩
  refine gC.of (P := pX11_hill) (nL := 3) (rt := (some (.int))) (lv := [some (.ref 0), some (.int m), some (.int w)]) (by decide +kernel) rfl rfl rfl (by simp [gEnt, Value.category]) rfl ?_
  refine gR.steps 1 (σ, (1, [some (.ref 0), some (.int m), some (.int w)], [.ref 0])) rfl ?_
  refine gR.call' rfl (s_X11_find (by omega) σ D hs) ?_
  rintro _ τ ⟨rfl, hk, hf⟩
  show gR _ _ _ τ (4, [some (.ref 0), some (.int m), some (.int w)], [])
  refine gR.steps 1 (τ, (5, [some (.ref 0), some (.int m), some (.int w)], [.int m])) rfl ?_
  refine gR.callp rfl (s_X11_isMonth (by omega) τ m) ?_
  refine gR.ifte rfl (fun zc8 => ?_) (fun zc8 => ?_)
  · rw [bI_eq0] at zc8
    refine gR.steps 1 (τ, (34, [some (.ref 0), some (.int m), some (.int w)], [.int (-2)])) rfl ?_
    refine gR.ret rfl ?_
    exact ⟨trivial, by unfold aHill; rw [if_neg (by omega)], hk⟩
  · rw [bI_eq0, Decidable.not_not] at zc8
    obtain ⟨mm, hmm, rfl⟩ := gN_of (x := m) (n := 24) (by omega) (by omega) (by omega)
    refine gR.steps 4 (τ, (17, [some (.ref 0), some (.int (nI mm)), some (.int w)], [.long 2, .long 0, .long (Int32.toInt64 w)])) rfl ?_
    refine gR.callp rfl (s_X11_inI (by omega) τ w 0 2 0 2 (by decide) (by decide)) ?_
    refine gR.ifte rfl (fun zc20 => ?_) (fun zc20 => ?_)
    · rw [bI_eq0] at zc20
      refine gR.steps 1 (τ, (34, [some (.ref 0), some (.int (nI mm)), some (.int w)], [.int (-2)])) rfl ?_
      refine gR.ret rfl ?_
      exact ⟨trivial, by unfold aHill; rw [if_neg (by omega)], hk⟩
    · rw [bI_eq0, Decidable.not_not] at zc20
      obtain ⟨ww, hww, rfl⟩ := gN_of (x := w) (n := 3) (by omega) (by omega) (by omega)
      refine gR.steps 3 (τ, (26, [some (.ref 0), some (.int (nI mm)), some (.int (nI ww))], [.int (nI ww), .int (nI mm), .ref 0])) rfl ?_
      refine gR.callp rfl (s_X11_hillBy (by omega) τ mm ww (dYel D mm) (dBel D none 0 (mm + 1)) (dSee D mm) (by omega) (by omega) (hf.2.2.1 mm (by omega)).2.1 (hf.2.2.2 mm (by omega)) (hf.2.2.1 mm (by omega)).2.2) ?_
      refine gR.steps 1 (τ, (34, [some (.ref 0), some (.int (nI mm)), some (.int (nI ww))], [.int (if ww = 0 then nI (dYel D mm) else if ww = 1 then nI (dBel D none 0 (mm + 1)) else nI (dSee D mm))])) rfl ?_
      refine gR.ret rfl ?_
      refine ⟨trivial, ?_, hk⟩
      rw [show aHill D (nI mm) (nI ww) = _ from if_pos ⟨zc8, zc20⟩, xPick3_n hww, nI_clamp (by omega)]
theorem s_X11_atBy {d : Nat} (hd : 2 ≤ d) (σ : gS) (m k w sv : Nat) (pn : Bool) (hs : σ 10 (11 * m + k) = nI sv) (hs5 : sv < 5) (hp : σ 11 (11 * m + k) = bI (pn = true)) (hm : m < 24) (hk : k < 11) (hw : w < 3) : gC d 159 [.ref 0, .int (nI m), .int (nI k), .int (nI w)] σ (fun r τ => r = some (.int (if w = 0 then nI sv else if w = 1 then bI (sv = 1 ∨ pn = true) else bI (pn = true))) ∧ τ = σ) := by
  obtain ⟨d, rfl⟩ : ∃ k, d = k + 1 := ⟨d - 1, by omega⟩
  refine gC.of (P := pX11_atBy) (nL := 4) (rt := (some (.int))) (lv := [some (.ref 0), some (.int (nI m)), some (.int (nI k)), some (.int (nI w))]) (by decide +kernel) rfl rfl rfl (by simp [gEnt, Value.category]) rfl ?_
  refine gR.steps 1 (σ, (1, [some (.ref 0), some (.int (nI m)), some (.int (nI k)), some (.int (nI w))], [.int (nI w)])) rfl ?_
  refine gR.ifte rfl (fun zc1 => ?_) (fun zc1 => ?_)
  · rw [gN_eq (x := nI w) (y := 0) (a := w) (b := 0) rfl rfl (by omega) (by omega)] at zc1
    refine gR.steps 2 (σ, (20, [some (.ref 0), some (.int (nI m)), some (.int (nI k)), some (.int (nI w))], [.int 1, .int (nI w)])) rfl ?_
    refine gR.ifte rfl (fun zc20 => ?_) (fun zc20 => ?_)
    · rw [gN_eq (x := nI w) (y := 1) (a := w) (b := 1) rfl rfl (by omega) (by omega)] at zc20
      refine gR.steps 7 (σ, (50, [some (.ref 0), some (.int (nI m)), some (.int (nI k)), some (.int (nI w))], [.int ((11 * (nI m)) + (nI k)), .ref 11])) rfl ?_
      refine gR.ald (i := (11 * (nI m)) + (nI k)) (j := 11 * m + k) (N := 264) (g := σ 11) rfl (gN_add (gN_mul rfl rfl) rfl) (by omega) (by omega) ?_
      refine gR.ifte rfl (fun zc51 => ?_) (fun zc51 => ?_)
      · rw [hp, bI_eq0] at zc51
        refine gR.steps 1 (σ, (59, [some (.ref 0), some (.int (nI m)), some (.int (nI k)), some (.int (nI w))], [.int 0])) rfl ?_
        refine gR.ret rfl ?_
        refine ⟨trivial, ?_, rfl⟩
        congr 2
        first | rw [if_pos (Decidable.not_not.mp zc1)] | rw [if_neg zc1, if_pos (Decidable.not_not.mp zc20), bI_f zc29] | rw [if_neg zc1, if_pos (Decidable.not_not.mp zc20), bI_t zc29] | rw [if_neg zc1, if_neg zc20, bI_f zc51] | rw [if_neg zc1, if_neg zc20, bI_t zc51]
      · rw [hp, bI_eq0, Decidable.not_not] at zc51
        refine gR.steps 2 (σ, (59, [some (.ref 0), some (.int (nI m)), some (.int (nI k)), some (.int (nI w))], [.int 1])) rfl ?_
        refine gR.ret rfl ?_
        refine ⟨trivial, ?_, rfl⟩
        congr 2
        first | rw [if_pos (Decidable.not_not.mp zc1)] | rw [if_neg zc1, if_pos (Decidable.not_not.mp zc20), bI_f zc29] | rw [if_neg zc1, if_pos (Decidable.not_not.mp zc20), bI_t zc29] | rw [if_neg zc1, if_neg zc20, bI_f zc51] | rw [if_neg zc1, if_neg zc20, bI_t zc51]
    · rw [gN_eq (x := nI w) (y := 1) (a := w) (b := 1) rfl rfl (by omega) (by omega)] at zc20
      refine gR.steps 3 (σ, (26, [some (.ref 0), some (.int (nI m)), some (.int (nI k)), some (.int (nI w))], [.int (nI k), .int (nI m), .ref 0])) rfl ?_
      refine gR.callp rfl (s_X11_isSeeming (by omega) σ m k sv pn hs hs5 hp hm hk) ?_
      refine gR.ifte rfl (fun zc29 => ?_) (fun zc29 => ?_)
      · rw [bI_eq0] at zc29
        refine gR.steps 2 (σ, (59, [some (.ref 0), some (.int (nI m)), some (.int (nI k)), some (.int (nI w))], [.int 0])) rfl ?_
        refine gR.ret rfl ?_
        refine ⟨trivial, ?_, rfl⟩
        congr 2
        first | rw [if_pos (Decidable.not_not.mp zc1)] | rw [if_neg zc1, if_pos (Decidable.not_not.mp zc20), bI_f zc29] | rw [if_neg zc1, if_pos (Decidable.not_not.mp zc20), bI_t zc29] | rw [if_neg zc1, if_neg zc20, bI_f zc51] | rw [if_neg zc1, if_neg zc20, bI_t zc51]
      · rw [bI_eq0, Decidable.not_not] at zc29
        refine gR.steps 2 (σ, (59, [some (.ref 0), some (.int (nI m)), some (.int (nI k)), some (.int (nI w))], [.int 1])) rfl ?_
        refine gR.ret rfl ?_
        refine ⟨trivial, ?_, rfl⟩
        congr 2
        first | rw [if_pos (Decidable.not_not.mp zc1)] | rw [if_neg zc1, if_pos (Decidable.not_not.mp zc20), bI_f zc29] | rw [if_neg zc1, if_pos (Decidable.not_not.mp zc20), bI_t zc29] | rw [if_neg zc1, if_neg zc20, bI_f zc51] | rw [if_neg zc1, if_neg zc20, bI_t zc51]
  · rw [gN_eq (x := nI w) (y := 0) (a := w) (b := 0) rfl rfl (by omega) (by omega)] at zc1
    refine gR.steps 7 (σ, (14, [some (.ref 0), some (.int (nI m)), some (.int (nI k)), some (.int (nI w))], [.int ((11 * (nI m)) + (nI k)), .ref 10])) rfl ?_
    refine gR.ald (i := (11 * (nI m)) + (nI k)) (j := 11 * m + k) (N := 264) (g := σ 10) rfl (gN_add (gN_mul rfl rfl) rfl) (by omega) (by omega) ?_
    refine gR.topI (y := nI (sv)) hs ?_
    refine gR.steps 1 (σ, (59, [some (.ref 0), some (.int (nI m)), some (.int (nI k)), some (.int (nI w))], [.int (nI sv)])) rfl ?_
    refine gR.ret rfl ?_
    refine ⟨trivial, ?_, rfl⟩
    congr 2
    first | rw [if_pos (Decidable.not_not.mp zc1)] | rw [if_neg zc1, if_pos (Decidable.not_not.mp zc20), bI_f zc29] | rw [if_neg zc1, if_pos (Decidable.not_not.mp zc20), bI_t zc29] | rw [if_neg zc1, if_neg zc20, bI_f zc51] | rw [if_neg zc1, if_neg zc20, bI_t zc51]
theorem s_X11_at {d : Nat} (hd : 7 ≤ d) (σ : gS) (D : xDat) (m k w : Int32) (hs : mSt σ D) : gC d 160 [.ref 0, .int m, .int k, .int w] σ (fun r τ => r = some (.int (aAt D m k w)) ∧ mKeep σ τ) := by
  obtain ⟨d, rfl⟩ : ∃ k, d = k + 1 := ⟨d - 1, by omega⟩
  refine gC.of (P := pX11_at) (nL := 4) (rt := (some (.int))) (lv := [some (.ref 0), some (.int m), some (.int k), some (.int w)]) (by decide +kernel) rfl rfl rfl (by simp [gEnt, Value.category]) rfl ?_
  refine gR.steps 1 (σ, (1, [some (.ref 0), some (.int m), some (.int k), some (.int w)], [.ref 0])) rfl ?_
  refine gR.call' rfl (s_X11_find (by omega) σ D hs) ?_
  rintro _ τ ⟨rfl, hk, hf⟩
  show gR _ _ _ τ (4, [some (.ref 0), some (.int m), some (.int k), some (.int w)], [])
  refine gR.steps 1 (τ, (5, [some (.ref 0), some (.int m), some (.int k), some (.int w)], [.int m])) rfl ?_
  refine gR.callp rfl (s_X11_isMonth (by omega) τ m) ?_
  refine gR.ifte rfl (fun zc8 => ?_) (fun zc8 => ?_)
  · rw [bI_eq0] at zc8
    refine gR.steps 1 (τ, (43, [some (.ref 0), some (.int m), some (.int k), some (.int w)], [.int (-2)])) rfl ?_
    refine gR.ret rfl ?_
    exact ⟨trivial, by unfold aAt; rw [if_neg (by omega)], hk⟩
  · rw [bI_eq0, Decidable.not_not] at zc8
    obtain ⟨mm, hmm, rfl⟩ := gN_of (x := m) (n := 24) (by omega) (by omega) (by omega)
    refine gR.steps 2 (τ, (13, [some (.ref 0), some (.int (nI mm)), some (.int k), some (.int w)], [.int k, .ref 0])) rfl ?_
    have hnb := dNb_le D hs.1.2.1
    refine gR.callp rfl (s_X11_isBush (by omega) τ k (dNb D) hf.1.1 (by omega)) ?_
    refine gR.ifte rfl (fun zc16 => ?_) (fun zc16 => ?_)
    · rw [bI_eq0] at zc16
      refine gR.steps 1 (τ, (43, [some (.ref 0), some (.int (nI mm)), some (.int k), some (.int w)], [.int (-2)])) rfl ?_
      refine gR.ret rfl ?_
      exact ⟨trivial, by unfold aAt; rw [if_neg (by omega)], hk⟩
    · rw [bI_eq0, Decidable.not_not] at zc16
      obtain ⟨kk, hkk, rfl⟩ := gN_of (x := k) (n := 11) (by omega) (by omega) (by omega)
      refine gR.steps 4 (τ, (25, [some (.ref 0), some (.int (nI mm)), some (.int (nI kk)), some (.int w)], [.long 2, .long 0, .long (Int32.toInt64 w)])) rfl ?_
      refine gR.callp rfl (s_X11_inI (by omega) τ w 0 2 0 2 (by decide) (by decide)) ?_
      refine gR.ifte rfl (fun zc28 => ?_) (fun zc28 => ?_)
      · rw [bI_eq0] at zc28
        refine gR.steps 1 (τ, (43, [some (.ref 0), some (.int (nI mm)), some (.int (nI kk)), some (.int w)], [.int (-2)])) rfl ?_
        refine gR.ret rfl ?_
        exact ⟨trivial, by unfold aAt; rw [if_neg (by omega)], hk⟩
      · rw [bI_eq0, Decidable.not_not] at zc28
        obtain ⟨ww, hww, rfl⟩ := gN_of (x := w) (n := 3) (by omega) (by omega) (by omega)
        refine gR.steps 4 (τ, (35, [some (.ref 0), some (.int (nI mm)), some (.int (nI kk)), some (.int (nI ww))], [.int (nI ww), .int (nI kk), .int (nI mm), .ref 0])) rfl ?_
        have hkk3 : kk < dNb D := by rw [nI_toInt (by omega)] at zc16; omega
        refine gR.callp rfl (s_X11_atBy (by omega) τ mm kk ww (dS D gn0 mm kk) (dQ D gn0 mm kk) ((hf.2.2.1 mm (by omega)).1 kk (by omega)).1 (xSt_lt _ _ _ _ _ _ _ _ _) ((hf.2.2.1 mm (by omega)).1 kk (by omega)).2 (by omega) (by omega) (by omega)) ?_
        refine gR.steps 1 (τ, (43, [some (.ref 0), some (.int (nI mm)), some (.int (nI kk)), some (.int (nI ww))], [.int (if ww = 0 then nI (dS D gn0 mm kk) else if ww = 1 then bI (dS D gn0 mm kk = 1 ∨ dQ D gn0 mm kk = true) else bI (dQ D gn0 mm kk = true))])) rfl ?_
        refine gR.ret rfl ?_
        refine ⟨trivial, ?_, hk⟩
        rw [show aAt D (nI mm) (nI kk) (nI ww) = _ from if_pos ⟨⟨zc8, zc16⟩, zc28⟩, xPick3_n hww, nI_clamp (by omega), nI_clamp (by omega)]
