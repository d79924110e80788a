/-- a text of the class, with what its parse found -/
def cT0 (σ : gS) (n : Nat) (c : Nat → Nat) : Prop := (σ 22 3 = 10 ∧ σ 22 4 = 4 ∧ σ 22 5 = nI n ∧ n ≤ 39 ∧ ∀ i, i < n → σ 23 i = nI (c i) ∧ c i < 256) ∧ σ 22 6 = xFlt 4 (xG0 c) n ∧ σ 22 7 = nI (xNI 4 (xG0 c) n)
def cT1 (σ : gS) (n : Nat) (c : Nat → Nat) : Prop := (σ 25 3 = 12 ∧ σ 25 4 = 3 ∧ σ 25 5 = nI n ∧ n ≤ 35 ∧ ∀ i, i < n → σ 26 i = nI (c i) ∧ c i < 256) ∧ σ 25 6 = xFlt 3 (xG1 c) n ∧ σ 25 7 = nI (xNI 3 (xG1 c) n)
def cEv (σ : gS) (e n : Nat) (K M B : Nat → Nat) : Prop := σ e 3 = nI n ∧ n ≤ 8 ∧ ∀ i, i < n → σ (e + 1) i = nI (K i) ∧ σ (e + 2) i = nI (M i) ∧ σ (e + 3) i = nI (B i) ∧ K i < 4 ∧ M i < 24 ∧ B i < 10
def cSt (σ : gS) (D : xDat) : Prop := cT0 σ (dN0 D) (dC0 D) ∧ cT1 σ (dN1 D) (dC1 D) ∧ cEv σ 27 (dN D) (dK D) (dM D) (dB D) ∧ (σ 19 8 = nI (dF D) ∧ dF D ≤ 100 ∧ σ 19 9 = nI (dDb D) ∧ dDb D ≤ 50)
def cSg (σ : gS) (G : xSig) : Prop := σ 37 3 = nI G.1 ∧ G.1 ≤ 8 ∧ ∀ i, i < G.1 → σ 38 i = nI (G.2.1 i) ∧ σ 39 i = nI (G.2.2.1 i) ∧ σ 40 i = nI (G.2.2.2 i) ∧ G.2.1 i < 24 ∧ G.2.2.1 i < 10 ∧ G.2.2.2 i < 5
def cSh (σ : gS) (H : xShe) : Prop := ∀ s, s < 4 → σ (70 + s) 1 = shF H s ∧ (shF H s = -1 ∨ shF H s = 0 ∨ shF H s = 1 ∨ shF H s = 2) ∧ shZ H s ≤ 60 ∧ (∃ z, σ (70 + s) 2 = nI z ∧ z ≤ 60) ∧ (¬ shF H s = -1 → σ (70 + s) 2 = nI (shZ H s) ∧ ∀ i, i < shZ H s → σ (74 + s) i = shI H s i)
def cLa (σ : gS) (l : Nat) : Prop := σ 18 12 = nI l
/-- the class's scratch: lone, drawn, lots, hinderers, alike, the market's rows, courses -/
def cScr (q : Nat) : Prop := (31 ≤ q ∧ q ≤ 36) ∨ q = 41 ∨ q = 43 ∨ q = 44 ∨ (46 ≤ q ∧ q ≤ 69)
def cKeep (σ τ : gS) : Prop := (∀ q, q ≠ 19 → ¬ cScr q → τ q = σ q) ∧ ∀ s, s ≠ 6 → s ≠ 7 → τ 19 s = σ 19 s
theorem cKeep.rf (σ : gS) : cKeep σ σ := ⟨fun _ _ _ => rfl, fun _ _ _ => rfl⟩
theorem cKeep.tr {σ τ υ : gS} (h : cKeep σ τ) (k : cKeep τ υ) : cKeep σ υ := ⟨fun q a b => (k.1 q a b).trans (h.1 q a b), fun s a b => (k.2 s a b).trans (h.2 s a b)⟩
theorem cKeep.cell {σ τ : gS} (h : cKeep σ τ) (q : Nat) (h1 : q ≠ 19 ∧ ¬ ((31 ≤ q ∧ q ≤ 36) ∨ q = 41 ∨ q = 43 ∨ q = 44 ∨ (46 ≤ q ∧ q ≤ 69))) : τ q = σ q := h.1 q h1.1 h1.2
theorem cSt.keep {σ τ : gS} {D : xDat} (h : cSt σ D) (k : cKeep σ τ) : cSt τ D := by
  unfold cSt cT0 cT1 cEv at *
  rw [k.cell 22 (by decide), k.cell 23 (by decide), k.cell 25 (by decide), k.cell 26 (by decide), k.cell 27 (by decide), k.cell (27 + 1) (by decide), k.cell (27 + 2) (by decide), k.cell (27 + 3) (by decide), k.2 8 (by decide) (by decide), k.2 9 (by decide) (by decide)]
  exact h
theorem cSg.keep {σ τ : gS} {G : xSig} (h : cSg σ G) (k : cKeep σ τ) : cSg τ G := by
  unfold cSg at *
  rw [k.cell 37 (by decide), k.cell 38 (by decide), k.cell 39 (by decide), k.cell 40 (by decide)]
  exact h
theorem cSh.keep {σ τ : gS} {H : xShe} (h : cSh σ H) (k : ∀ q, 70 ≤ q → q ≤ 77 → τ q = σ q) : cSh τ H := by
  intro s hs
  rw [k (70 + s) (by omega) (by omega), k (74 + s) (by omega) (by omega)]
  exact h s hs
theorem s_X10_within {d : Nat} (hd : 1 ≤ d) (σ : gS) (v lo hi : Int32) : gC d 109 [.int v, .int lo, .int hi] σ (fun r τ => r = some (.int (bI (lo.toInt ≤ v.toInt ∧ v.toInt ≤ hi.toInt))) ∧ τ = σ) := by
  obtain ⟨d, rfl⟩ : ∃ k, d = k + 1 := ⟨d - 1, by omega⟩
  refine gC.of (P := pX10_within) (nL := 3) (rt := (some (.boolean))) (lv := [some (.int v), some (.int lo), some (.int hi)]) (by decide +kernel) rfl rfl rfl (by simp [gEnt, Value.category]) rfl ?_
  refine gR.steps 2 (σ, (2, [some (.int v), some (.int lo), some (.int hi)], [.int lo, .int v])) rfl ?_
  refine gR.ifte rfl (fun zc2 => ?_) (fun zc2 => ?_)
  · rw [Int32.lt_iff_toInt_lt] at zc2
    refine gR.steps 1 (σ, (15, [some (.int v), some (.int lo), some (.int hi)], [.int 0])) rfl ?_
    refine gR.ret rfl ?_
    exact ⟨gOk0, by rw [bI_f (by omega)], rfl⟩
  · rw [Int32.lt_iff_toInt_lt] at zc2
    refine gR.steps 2 (σ, (7, [some (.int v), some (.int lo), some (.int hi)], [.int hi, .int v])) rfl ?_
    refine gR.ifte rfl (fun zc7 => ?_) (fun zc7 => ?_)
    · rw [Int32.lt_iff_toInt_lt] at zc7
      refine gR.steps 1 (σ, (15, [some (.int v), some (.int lo), some (.int hi)], [.int 0])) rfl ?_
      refine gR.ret rfl ?_
      exact ⟨gOk0, by rw [bI_f (by omega)], rfl⟩
    · rw [Int32.lt_iff_toInt_lt] at zc7
      refine gR.steps 2 (σ, (15, [some (.int v), some (.int lo), some (.int hi)], [.int 1])) rfl ?_
      refine gR.ret rfl ?_
      exact ⟨gOk1, by rw [bI_t (by omega)], rfl⟩
theorem s_X10_withinI {d : Nat} (hd : 1 ≤ d) (σ : gS) (v lo hi : Int32) (a b : Int) (ha : lo.toInt = a) (hb : hi.toInt = b) : gC d 109 [.int v, .int lo, .int hi] σ (fun r τ => r = some (.int (bI (a ≤ v.toInt ∧ v.toInt ≤ b))) ∧ τ = σ) :=
  (s_X10_within hd σ v lo hi).mono (fun r τ h => ⟨by subst ha; subst hb; exact h.1, h.2⟩)
theorem s_X10_isText {d : Nat} (hd : 2 ≤ d) (σ : gS) (v : Int32) : gC d 104 [.int v] σ (fun r τ => r = some (.int (bI (0 ≤ v.toInt ∧ v.toInt ≤ 1))) ∧ τ = σ) := by
  obtain ⟨d, rfl⟩ : ∃ k, d = k + 1 := ⟨d - 1, by omega⟩
  refine gC.of (P := pX10_isText) (nL := 1) (rt := (some (.boolean))) (lv := [some (.int v)]) (by decide +kernel) rfl rfl rfl (by simp [gEnt, Value.category]) rfl ?_
  refine gR.steps 3 (σ, (3, [some (.int v)], [.int 1, .int 0, .int v])) rfl ?_
  refine gR.callp rfl (s_X10_withinI (by omega) σ v 0 1 0 1 (by decide) (by decide)) ?_
  refine gR.ret rfl ?_
  exact ⟨bI_ret _, rfl, rfl⟩
theorem s_X10_isMonth {d : Nat} (hd : 2 ≤ d) (σ : gS) (v : Int32) : gC d 105 [.int v] σ (fun r τ => r = some (.int (bI (0 ≤ v.toInt ∧ v.toInt ≤ 23))) ∧ τ = σ) := by
  obtain ⟨d, rfl⟩ : ∃ k, d = k + 1 := ⟨d - 1, by omega⟩
  refine gC.of (P := pX10_isMonth) (nL := 1) (rt := (some (.boolean))) (lv := [some (.int v)]) (by decide +kernel) rfl rfl rfl (by simp [gEnt, Value.category]) rfl ?_
  refine gR.steps 3 (σ, (4, [some (.int v)], [.int 23, .int 0, .int v])) rfl ?_
  refine gR.callp rfl (s_X10_withinI (by omega) σ v 0 23 0 23 (by decide) (by decide)) ?_
  refine gR.ret rfl ?_
  exact ⟨bI_ret _, rfl, rfl⟩
theorem s_X10_isSheet {d : Nat} (hd : 2 ≤ d) (σ : gS) (v : Int32) : gC d 106 [.int v] σ (fun r τ => r = some (.int (bI (0 ≤ v.toInt ∧ v.toInt ≤ 3))) ∧ τ = σ) := by
  obtain ⟨d, rfl⟩ : ∃ k, d = k + 1 := ⟨d - 1, by omega⟩
  refine gC.of (P := pX10_isSheet) (nL := 1) (rt := (some (.boolean))) (lv := [some (.int v)]) (by decide +kernel) rfl rfl rfl (by simp [gEnt, Value.category]) rfl ?_
  refine gR.steps 3 (σ, (3, [some (.int v)], [.int 3, .int 0, .int v])) rfl ?_
  refine gR.callp rfl (s_X10_withinI (by omega) σ v 0 3 0 3 (by decide) (by decide)) ?_
  refine gR.ret rfl ?_
  exact ⟨bI_ret _, rfl, rfl⟩
theorem s_X10_isForm {d : Nat} (hd : 2 ≤ d) (σ : gS) (v : Int32) : gC d 107 [.int v] σ (fun r τ => r = some (.int (bI (0 ≤ v.toInt ∧ v.toInt ≤ 2))) ∧ τ = σ) := by
  obtain ⟨d, rfl⟩ : ∃ k, d = k + 1 := ⟨d - 1, by omega⟩
  refine gC.of (P := pX10_isForm) (nL := 1) (rt := (some (.boolean))) (lv := [some (.int v)]) (by decide +kernel) rfl rfl rfl (by simp [gEnt, Value.category]) rfl ?_
  refine gR.steps 3 (σ, (3, [some (.int v)], [.int 2, .int 0, .int v])) rfl ?_
  refine gR.callp rfl (s_X10_withinI (by omega) σ v 0 2 0 2 (by decide) (by decide)) ?_
  refine gR.ret rfl ?_
  exact ⟨bI_ret _, rfl, rfl⟩
theorem s_X10_mayBeEvent {d : Nat} (hd : 3 ≤ d) (σ : gS) (k m b : Int32) : gC d 108 [.int k, .int m, .int b] σ (fun r τ => r = some (.int (bI ((0 ≤ k.toInt ∧ k.toInt ≤ 3) ∧ (0 ≤ m.toInt ∧ m.toInt ≤ 23) ∧ (0 ≤ b.toInt ∧ b.toInt ≤ 9)))) ∧ τ = σ) := by
  obtain ⟨d, rfl⟩ : ∃ k, d = k + 1 := ⟨d - 1, by omega⟩
  refine gC.of (P := pX10_mayBeEvent) (nL := 3) (rt := (some (.boolean))) (lv := [some (.int k), some (.int m), some (.int b)]) (by decide +kernel) rfl rfl rfl (by simp [gEnt, Value.category]) rfl ?_
  refine gR.steps 3 (σ, (3, [some (.int k), some (.int m), some (.int b)], [.int 3, .int 0, .int k])) rfl ?_
  refine gR.callp rfl (s_X10_withinI (by omega) σ k 0 3 0 3 (by decide) (by decide)) ?_
  refine gR.ifte rfl (fun zc6 => ?_) (fun zc6 => ?_)
  · rw [bI_eq0] at zc6
    refine gR.steps 1 (σ, (31, [some (.int k), some (.int m), some (.int b)], [.int 0])) rfl ?_
    refine gR.ret rfl ?_
    exact ⟨gOk0, by rw [bI_f (by omega)], rfl⟩
  · rw [bI_eq0, Decidable.not_not] at zc6
    refine gR.steps 1 (σ, (10, [some (.int k), some (.int m), some (.int b)], [.int m])) rfl ?_
    refine gR.callp rfl (s_X10_isMonth (by omega) σ m) ?_
    refine gR.ifte rfl (fun zc13 => ?_) (fun zc13 => ?_)
    · rw [bI_eq0] at zc13
      refine gR.steps 1 (σ, (31, [some (.int k), some (.int m), some (.int b)], [.int 0])) rfl ?_
      refine gR.ret rfl ?_
      exact ⟨gOk0, by rw [bI_f (by omega)], rfl⟩
    · rw [bI_eq0, Decidable.not_not] at zc13
      refine gR.steps 3 (σ, (20, [some (.int k), some (.int m), some (.int b)], [.int 9, .int 0, .int b])) rfl ?_
      refine gR.callp rfl (s_X10_withinI (by omega) σ b 0 9 0 9 (by decide) (by decide)) ?_
      refine gR.ifte rfl (fun zc23 => ?_) (fun zc23 => ?_)
      · rw [bI_eq0] at zc23
        refine gR.steps 1 (σ, (31, [some (.int k), some (.int m), some (.int b)], [.int 0])) rfl ?_
        refine gR.ret rfl ?_
        exact ⟨gOk0, by rw [bI_f (by omega)], rfl⟩
      · rw [bI_eq0, Decidable.not_not] at zc23
        refine gR.steps 2 (σ, (31, [some (.int k), some (.int m), some (.int b)], [.int 1])) rfl ?_
        refine gR.ret rfl ?_
        exact ⟨gOk1, by rw [bI_t (by omega)], rfl⟩
theorem s_X10_bit {d : Nat} (hd : 1 ≤ d) (σ : gS) (x y : Int32) : gC d 110 [.int x, .int y] σ (fun r τ => r = some (.int ((x >>> (y &&& 31)) &&& 1)) ∧ τ = σ) := by
  obtain ⟨d, rfl⟩ : ∃ k, d = k + 1 := ⟨d - 1, by omega⟩
  refine gC.of (P := pX10_bit) (nL := 2) (rt := (some (.int))) (lv := [some (.int x), some (.int y)]) (by decide +kernel) rfl rfl rfl (by simp [gEnt, Value.category]) rfl ?_
  refine gR.steps 5 (σ, (5, [some (.int x), some (.int y)], [.int ((x >>> (y &&& 31)) &&& 1)])) rfl ?_
  refine gR.ret rfl ?_
  exact ⟨trivial, rfl, rfl⟩
theorem isS_if {p : Prop} [Decidable p] {x : Nat} : ((if p then some x else none).isSome = true ↔ p) := by
  by_cases h : p
  · rw [if_pos h]; exact ⟨fun _ => h, fun _ => rfl⟩
  · rw [if_neg h]; exact ⟨fun z => absurd z (by decide), fun z => absurd z h⟩
theorem xV0_s0 (c : Nat) : (99 ≤ c ∧ c ≤ 101 ↔ (xV0 0 c).isSome = true) := by
  simp only [xV0]
  by_cases h1 : c = 99
  · rw [if_pos h1]; exact ⟨fun _ => rfl, fun _ => by omega⟩
  · rw [if_neg h1]
    by_cases h2 : c = 101
    · rw [if_pos h2]; exact ⟨fun _ => rfl, fun _ => by omega⟩
    · rw [if_neg h2, isS_if]; omega
theorem xV0_s1 (c : Nat) : (97 ≤ c ∧ c ≤ 108 ↔ (xV0 1 c).isSome = true) := isS_if.symm
theorem xV0_s2 (c : Nat) : (49 ≤ c ∧ c ≤ 57 ↔ (xV0 2 c).isSome = true) := isS_if.symm
theorem xV0_s3 (c : Nat) : (c = 59 ↔ (xV0 3 c).isSome = true) := isS_if.symm
theorem xV1_s0 (c : Nat) : (97 ≤ c ∧ c ≤ 120 ↔ (xV1 0 c).isSome = true) := isS_if.symm
theorem xV1_s1 (c : Nat) : (48 ≤ c ∧ c ≤ 57 ↔ (xV1 1 c).isSome = true) := isS_if.symm
theorem xV1_s2 (c : Nat) : (c = 59 ↔ (xV1 2 c).isSome = true) := isS_if.symm
theorem s_X9_mayStand0_0 {d : Nat} (hd : 1 ≤ d) (σ : gS) (c it : Nat) (hc : c < 256) (hit : it < 10) (hm : σ 22 3 = 10) : gC d 43 [.ref 22, .int (nI c), .int (nI it), .int 0] σ (fun r τ => r = some (.int (bI (99 ≤ c ∧ c ≤ 101))) ∧ τ = σ) := by
  obtain ⟨d, rfl⟩ : ∃ k, d = k + 1 := ⟨d - 1, by omega⟩
  refine gC.of (P := pX9_mayStand) (nL := 4) (rt := (some (.boolean))) (lv := [some (.ref 22), some (.int (nI c)), some (.int (nI it)), some (.int 0)]) (by decide +kernel) rfl rfl rfl (by simp [gEnt, Value.category]) rfl ?_
  refine gR.steps 4 (σ, (6, [some (.ref 22), some (.int (nI c)), some (.int (nI it)), some (.int 0)], [.int 3, .int 0])) rfl ?_
  refine gR.brT rfl (by decide) ?_
  refine gR.steps 3 (σ, (26, [some (.ref 22), some (.int (nI c)), some (.int (nI it)), some (.int 0)], [.int (σ 22 3), .int (nI it)])) rfl ?_
  refine gR.topI (y := nI (10)) hm ?_
  refine gR.ifte rfl (fun zc26 => ?_) (fun zc26 => ?_)
  · rw [gN_le (x := nI 10) (y := nI it) (a := 10) (b := it) rfl rfl (by omega) (by omega)] at zc26
    refine gR.steps 1 (σ, (54, [some (.ref 22), some (.int (nI c)), some (.int (nI it)), some (.int 0)], [.int 0])) rfl ?_
    refine gR.ret rfl ?_
    exact ⟨gOk0, by rw [bI_f (by omega)], rfl⟩
  · rw [gN_le (x := nI 10) (y := nI it) (a := 10) (b := it) rfl rfl (by omega) (by omega)] at zc26
    refine gR.steps 4 (σ, (35, [some (.ref 22), some (.int (nI c)), some (.int (nI it)), some (.int 0)], [.int 0, .ref 1000, .int (nI c)])) rfl ?_
    refine gR.ald (i := 0) (j := 0) (N := 3) (g := (fun i => ([99, 97, 49] : List Int32).getD i 0)) rfl rfl (by omega) (by omega) ?_
    refine gR.topI (y := 99) rfl ?_
    refine gR.ifte rfl (fun zc36 => ?_) (fun zc36 => ?_)
    · rw [gN_lt (x := nI c) (y := 99) (a := c) (b := 99) rfl rfl (by omega) (by omega)] at zc36
      refine gR.steps 1 (σ, (54, [some (.ref 22), some (.int (nI c)), some (.int (nI it)), some (.int 0)], [.int 0])) rfl ?_
      refine gR.ret rfl ?_
      exact ⟨gOk0, by rw [bI_f (by omega)], rfl⟩
    · rw [gN_lt (x := nI c) (y := 99) (a := c) (b := 99) rfl rfl (by omega) (by omega)] at zc36
      refine gR.steps 4 (σ, (45, [some (.ref 22), some (.int (nI c)), some (.int (nI it)), some (.int 0)], [.int 0, .ref 1001, .int (nI c)])) rfl ?_
      refine gR.ald (i := 0) (j := 0) (N := 3) (g := (fun i => ([101, 108, 57] : List Int32).getD i 0)) rfl rfl (by omega) (by omega) ?_
      refine gR.topI (y := 101) rfl ?_
      refine gR.ifte rfl (fun zc46 => ?_) (fun zc46 => ?_)
      · rw [gN_lt (x := 101) (y := nI c) (a := 101) (b := c) rfl rfl (by omega) (by omega)] at zc46
        refine gR.steps 1 (σ, (54, [some (.ref 22), some (.int (nI c)), some (.int (nI it)), some (.int 0)], [.int 0])) rfl ?_
        refine gR.ret rfl ?_
        exact ⟨gOk0, by rw [bI_f (by omega)], rfl⟩
      · rw [gN_lt (x := 101) (y := nI c) (a := 101) (b := c) rfl rfl (by omega) (by omega)] at zc46
        refine gR.steps 2 (σ, (54, [some (.ref 22), some (.int (nI c)), some (.int (nI it)), some (.int 0)], [.int 1])) rfl ?_
        refine gR.ret rfl ?_
        exact ⟨gOk1, by rw [bI_t (by omega)], rfl⟩
theorem s_X9_mayStand0_1 {d : Nat} (hd : 1 ≤ d) (σ : gS) (c it : Nat) (hc : c < 256) (hit : it < 10) (hm : σ 22 3 = 10) : gC d 43 [.ref 22, .int (nI c), .int (nI it), .int 1] σ (fun r τ => r = some (.int (bI (97 ≤ c ∧ c ≤ 108))) ∧ τ = σ) := by
  obtain ⟨d, rfl⟩ : ∃ k, d = k + 1 := ⟨d - 1, by omega⟩
  refine gC.of (P := pX9_mayStand) (nL := 4) (rt := (some (.boolean))) (lv := [some (.ref 22), some (.int (nI c)), some (.int (nI it)), some (.int 1)]) (by decide +kernel) rfl rfl rfl (by simp [gEnt, Value.category]) rfl ?_
  refine gR.steps 4 (σ, (6, [some (.ref 22), some (.int (nI c)), some (.int (nI it)), some (.int 1)], [.int 3, .int 1])) rfl ?_
  refine gR.brT rfl (by decide) ?_
  refine gR.steps 3 (σ, (26, [some (.ref 22), some (.int (nI c)), some (.int (nI it)), some (.int 1)], [.int (σ 22 3), .int (nI it)])) rfl ?_
  refine gR.topI (y := nI (10)) hm ?_
  refine gR.ifte rfl (fun zc26 => ?_) (fun zc26 => ?_)
  · rw [gN_le (x := nI 10) (y := nI it) (a := 10) (b := it) rfl rfl (by omega) (by omega)] at zc26
    refine gR.steps 1 (σ, (54, [some (.ref 22), some (.int (nI c)), some (.int (nI it)), some (.int 1)], [.int 0])) rfl ?_
    refine gR.ret rfl ?_
    exact ⟨gOk0, by rw [bI_f (by omega)], rfl⟩
  · rw [gN_le (x := nI 10) (y := nI it) (a := 10) (b := it) rfl rfl (by omega) (by omega)] at zc26
    refine gR.steps 4 (σ, (35, [some (.ref 22), some (.int (nI c)), some (.int (nI it)), some (.int 1)], [.int 1, .ref 1000, .int (nI c)])) rfl ?_
    refine gR.ald (i := 1) (j := 1) (N := 3) (g := (fun i => ([99, 97, 49] : List Int32).getD i 0)) rfl rfl (by omega) (by omega) ?_
    refine gR.topI (y := 97) rfl ?_
    refine gR.ifte rfl (fun zc36 => ?_) (fun zc36 => ?_)
    · rw [gN_lt (x := nI c) (y := 97) (a := c) (b := 97) rfl rfl (by omega) (by omega)] at zc36
      refine gR.steps 1 (σ, (54, [some (.ref 22), some (.int (nI c)), some (.int (nI it)), some (.int 1)], [.int 0])) rfl ?_
      refine gR.ret rfl ?_
      exact ⟨gOk0, by rw [bI_f (by omega)], rfl⟩
    · rw [gN_lt (x := nI c) (y := 97) (a := c) (b := 97) rfl rfl (by omega) (by omega)] at zc36
      refine gR.steps 4 (σ, (45, [some (.ref 22), some (.int (nI c)), some (.int (nI it)), some (.int 1)], [.int 1, .ref 1001, .int (nI c)])) rfl ?_
      refine gR.ald (i := 1) (j := 1) (N := 3) (g := (fun i => ([101, 108, 57] : List Int32).getD i 0)) rfl rfl (by omega) (by omega) ?_
      refine gR.topI (y := 108) rfl ?_
      refine gR.ifte rfl (fun zc46 => ?_) (fun zc46 => ?_)
      · rw [gN_lt (x := 108) (y := nI c) (a := 108) (b := c) rfl rfl (by omega) (by omega)] at zc46
        refine gR.steps 1 (σ, (54, [some (.ref 22), some (.int (nI c)), some (.int (nI it)), some (.int 1)], [.int 0])) rfl ?_
        refine gR.ret rfl ?_
        exact ⟨gOk0, by rw [bI_f (by omega)], rfl⟩
      · rw [gN_lt (x := 108) (y := nI c) (a := 108) (b := c) rfl rfl (by omega) (by omega)] at zc46
        refine gR.steps 2 (σ, (54, [some (.ref 22), some (.int (nI c)), some (.int (nI it)), some (.int 1)], [.int 1])) rfl ?_
        refine gR.ret rfl ?_
        exact ⟨gOk1, by rw [bI_t (by omega)], rfl⟩
theorem s_X9_mayStand0_2 {d : Nat} (hd : 1 ≤ d) (σ : gS) (c it : Nat) (hc : c < 256) (hit : it < 10) (hm : σ 22 3 = 10) : gC d 43 [.ref 22, .int (nI c), .int (nI it), .int 2] σ (fun r τ => r = some (.int (bI (49 ≤ c ∧ c ≤ 57))) ∧ τ = σ) := by
  obtain ⟨d, rfl⟩ : ∃ k, d = k + 1 := ⟨d - 1, by omega⟩
  refine gC.of (P := pX9_mayStand) (nL := 4) (rt := (some (.boolean))) (lv := [some (.ref 22), some (.int (nI c)), some (.int (nI it)), some (.int 2)]) (by decide +kernel) rfl rfl rfl (by simp [gEnt, Value.category]) rfl ?_
  refine gR.steps 4 (σ, (6, [some (.ref 22), some (.int (nI c)), some (.int (nI it)), some (.int 2)], [.int 3, .int 2])) rfl ?_
  refine gR.brT rfl (by decide) ?_
  refine gR.steps 3 (σ, (26, [some (.ref 22), some (.int (nI c)), some (.int (nI it)), some (.int 2)], [.int (σ 22 3), .int (nI it)])) rfl ?_
  refine gR.topI (y := nI (10)) hm ?_
  refine gR.ifte rfl (fun zc26 => ?_) (fun zc26 => ?_)
  · rw [gN_le (x := nI 10) (y := nI it) (a := 10) (b := it) rfl rfl (by omega) (by omega)] at zc26
    refine gR.steps 1 (σ, (54, [some (.ref 22), some (.int (nI c)), some (.int (nI it)), some (.int 2)], [.int 0])) rfl ?_
    refine gR.ret rfl ?_
    exact ⟨gOk0, by rw [bI_f (by omega)], rfl⟩
  · rw [gN_le (x := nI 10) (y := nI it) (a := 10) (b := it) rfl rfl (by omega) (by omega)] at zc26
    refine gR.steps 4 (σ, (35, [some (.ref 22), some (.int (nI c)), some (.int (nI it)), some (.int 2)], [.int 2, .ref 1000, .int (nI c)])) rfl ?_
    refine gR.ald (i := 2) (j := 2) (N := 3) (g := (fun i => ([99, 97, 49] : List Int32).getD i 0)) rfl rfl (by omega) (by omega) ?_
    refine gR.topI (y := 49) rfl ?_
    refine gR.ifte rfl (fun zc36 => ?_) (fun zc36 => ?_)
    · rw [gN_lt (x := nI c) (y := 49) (a := c) (b := 49) rfl rfl (by omega) (by omega)] at zc36
      refine gR.steps 1 (σ, (54, [some (.ref 22), some (.int (nI c)), some (.int (nI it)), some (.int 2)], [.int 0])) rfl ?_
      refine gR.ret rfl ?_
      exact ⟨gOk0, by rw [bI_f (by omega)], rfl⟩
    · rw [gN_lt (x := nI c) (y := 49) (a := c) (b := 49) rfl rfl (by omega) (by omega)] at zc36
      refine gR.steps 4 (σ, (45, [some (.ref 22), some (.int (nI c)), some (.int (nI it)), some (.int 2)], [.int 2, .ref 1001, .int (nI c)])) rfl ?_
      refine gR.ald (i := 2) (j := 2) (N := 3) (g := (fun i => ([101, 108, 57] : List Int32).getD i 0)) rfl rfl (by omega) (by omega) ?_
      refine gR.topI (y := 57) rfl ?_
      refine gR.ifte rfl (fun zc46 => ?_) (fun zc46 => ?_)
      · rw [gN_lt (x := 57) (y := nI c) (a := 57) (b := c) rfl rfl (by omega) (by omega)] at zc46
        refine gR.steps 1 (σ, (54, [some (.ref 22), some (.int (nI c)), some (.int (nI it)), some (.int 2)], [.int 0])) rfl ?_
        refine gR.ret rfl ?_
        exact ⟨gOk0, by rw [bI_f (by omega)], rfl⟩
      · rw [gN_lt (x := 57) (y := nI c) (a := 57) (b := c) rfl rfl (by omega) (by omega)] at zc46
        refine gR.steps 2 (σ, (54, [some (.ref 22), some (.int (nI c)), some (.int (nI it)), some (.int 2)], [.int 1])) rfl ?_
        refine gR.ret rfl ?_
        exact ⟨gOk1, by rw [bI_t (by omega)], rfl⟩
theorem s_X9_mayStand0_3 {d : Nat} (hd : 1 ≤ d) (σ : gS) (c it : Nat) (hc : c < 256) (hit : it < 10) (hm : σ 22 3 = 10) : gC d 43 [.ref 22, .int (nI c), .int (nI it), .int 3] σ (fun r τ => r = some (.int (bI (c = 59))) ∧ τ = σ) := by
  obtain ⟨d, rfl⟩ : ∃ k, d = k + 1 := ⟨d - 1, by omega⟩
  refine gC.of (P := pX9_mayStand) (nL := 4) (rt := (some (.boolean))) (lv := [some (.ref 22), some (.int (nI c)), some (.int (nI it)), some (.int 3)]) (by decide +kernel) rfl rfl rfl (by simp [gEnt, Value.category]) rfl ?_
  refine gR.steps 4 (σ, (6, [some (.ref 22), some (.int (nI c)), some (.int (nI it)), some (.int 3)], [.int 3, .int 3])) rfl ?_
  refine gR.brF rfl (by decide) ?_
  refine gR.steps 2 (σ, (12, [some (.ref 22), some (.int (nI c)), some (.int (nI it)), some (.int 3)], [.int 59, .int (nI c)])) rfl ?_
  refine gR.ifte rfl (fun zc12 => ?_) (fun zc12 => ?_)
  · rw [gN_eq (x := nI c) (y := 59) (a := c) (b := 59) rfl rfl (by omega) (by omega)] at zc12
    refine gR.steps 1 (σ, (20, [some (.ref 22), some (.int (nI c)), some (.int (nI it)), some (.int 3)], [.int 0])) rfl ?_
    refine gR.ret rfl ?_
    exact ⟨gOk0, by rw [bI_f (by omega)], rfl⟩
  · rw [gN_eq (x := nI c) (y := 59) (a := c) (b := 59) rfl rfl (by omega) (by omega)] at zc12
    refine gR.steps 2 (σ, (20, [some (.ref 22), some (.int (nI c)), some (.int (nI it)), some (.int 3)], [.int 1])) rfl ?_
    refine gR.ret rfl ?_
    exact ⟨gOk1, by rw [bI_t (by omega)], rfl⟩
theorem s_X9_mayStand0 {d : Nat} (hd : 1 ≤ d) (σ : gS) (c it p : Nat) (hc : c < 256) (hit : it < 10) (hm : σ 22 3 = 10) (hp : p < 4) : gC d 43 [.ref 22, .int (nI c), .int (nI it), .int (nI p)] σ (fun r τ => r = some (.int (bI ((xV0 p c).isSome = true))) ∧ τ = σ) := by
  rcases (show p = 0 ∨ p = 1 ∨ p = 2 ∨ p = 3 by omega) with rfl | rfl | rfl | rfl
  · exact (s_X9_mayStand0_0 hd σ c it hc hit hm).mono (fun r τ h => ⟨by rw [h.1]; exact gSomeI (bI_congr (xV0_s0 c)), h.2⟩)
  · exact (s_X9_mayStand0_1 hd σ c it hc hit hm).mono (fun r τ h => ⟨by rw [h.1]; exact gSomeI (bI_congr (xV0_s1 c)), h.2⟩)
  · exact (s_X9_mayStand0_2 hd σ c it hc hit hm).mono (fun r τ h => ⟨by rw [h.1]; exact gSomeI (bI_congr (xV0_s2 c)), h.2⟩)
  · exact (s_X9_mayStand0_3 hd σ c it hc hit hm).mono (fun r τ h => ⟨by rw [h.1]; exact gSomeI (bI_congr (xV0_s3 c)), h.2⟩)
theorem s_X9_mayStand1_0 {d : Nat} (hd : 1 ≤ d) (σ : gS) (c it : Nat) (hc : c < 256) (hit : it < 12) (hm : σ 25 3 = 12) : gC d 43 [.ref 25, .int (nI c), .int (nI it), .int 0] σ (fun r τ => r = some (.int (bI (97 ≤ c ∧ c ≤ 120))) ∧ τ = σ) := by
  obtain ⟨d, rfl⟩ : ∃ k, d = k + 1 := ⟨d - 1, by omega⟩
  refine gC.of (P := pX9_mayStand) (nL := 4) (rt := (some (.boolean))) (lv := [some (.ref 25), some (.int (nI c)), some (.int (nI it)), some (.int 0)]) (by decide +kernel) rfl rfl rfl (by simp [gEnt, Value.category]) rfl ?_
  refine gR.steps 4 (σ, (6, [some (.ref 25), some (.int (nI c)), some (.int (nI it)), some (.int 0)], [.int 2, .int 0])) rfl ?_
  refine gR.brT rfl (by decide) ?_
  refine gR.steps 3 (σ, (26, [some (.ref 25), some (.int (nI c)), some (.int (nI it)), some (.int 0)], [.int (σ 25 3), .int (nI it)])) rfl ?_
  refine gR.topI (y := nI (12)) hm ?_
  refine gR.ifte rfl (fun zc26 => ?_) (fun zc26 => ?_)
  · rw [gN_le (x := nI 12) (y := nI it) (a := 12) (b := it) rfl rfl (by omega) (by omega)] at zc26
    refine gR.steps 1 (σ, (54, [some (.ref 25), some (.int (nI c)), some (.int (nI it)), some (.int 0)], [.int 0])) rfl ?_
    refine gR.ret rfl ?_
    exact ⟨gOk0, by rw [bI_f (by omega)], rfl⟩
  · rw [gN_le (x := nI 12) (y := nI it) (a := 12) (b := it) rfl rfl (by omega) (by omega)] at zc26
    refine gR.steps 4 (σ, (35, [some (.ref 25), some (.int (nI c)), some (.int (nI it)), some (.int 0)], [.int 0, .ref 1002, .int (nI c)])) rfl ?_
    refine gR.ald (i := 0) (j := 0) (N := 2) (g := (fun i => ([97, 48] : List Int32).getD i 0)) rfl rfl (by omega) (by omega) ?_
    refine gR.topI (y := 97) rfl ?_
    refine gR.ifte rfl (fun zc36 => ?_) (fun zc36 => ?_)
    · rw [gN_lt (x := nI c) (y := 97) (a := c) (b := 97) rfl rfl (by omega) (by omega)] at zc36
      refine gR.steps 1 (σ, (54, [some (.ref 25), some (.int (nI c)), some (.int (nI it)), some (.int 0)], [.int 0])) rfl ?_
      refine gR.ret rfl ?_
      exact ⟨gOk0, by rw [bI_f (by omega)], rfl⟩
    · rw [gN_lt (x := nI c) (y := 97) (a := c) (b := 97) rfl rfl (by omega) (by omega)] at zc36
      refine gR.steps 4 (σ, (45, [some (.ref 25), some (.int (nI c)), some (.int (nI it)), some (.int 0)], [.int 0, .ref 1003, .int (nI c)])) rfl ?_
      refine gR.ald (i := 0) (j := 0) (N := 2) (g := (fun i => ([120, 57] : List Int32).getD i 0)) rfl rfl (by omega) (by omega) ?_
      refine gR.topI (y := 120) rfl ?_
      refine gR.ifte rfl (fun zc46 => ?_) (fun zc46 => ?_)
      · rw [gN_lt (x := 120) (y := nI c) (a := 120) (b := c) rfl rfl (by omega) (by omega)] at zc46
        refine gR.steps 1 (σ, (54, [some (.ref 25), some (.int (nI c)), some (.int (nI it)), some (.int 0)], [.int 0])) rfl ?_
        refine gR.ret rfl ?_
        exact ⟨gOk0, by rw [bI_f (by omega)], rfl⟩
      · rw [gN_lt (x := 120) (y := nI c) (a := 120) (b := c) rfl rfl (by omega) (by omega)] at zc46
        refine gR.steps 2 (σ, (54, [some (.ref 25), some (.int (nI c)), some (.int (nI it)), some (.int 0)], [.int 1])) rfl ?_
        refine gR.ret rfl ?_
        exact ⟨gOk1, by rw [bI_t (by omega)], rfl⟩
theorem s_X9_mayStand1_1 {d : Nat} (hd : 1 ≤ d) (σ : gS) (c it : Nat) (hc : c < 256) (hit : it < 12) (hm : σ 25 3 = 12) : gC d 43 [.ref 25, .int (nI c), .int (nI it), .int 1] σ (fun r τ => r = some (.int (bI (48 ≤ c ∧ c ≤ 57))) ∧ τ = σ) := by
  obtain ⟨d, rfl⟩ : ∃ k, d = k + 1 := ⟨d - 1, by omega⟩
  refine gC.of (P := pX9_mayStand) (nL := 4) (rt := (some (.boolean))) (lv := [some (.ref 25), some (.int (nI c)), some (.int (nI it)), some (.int 1)]) (by decide +kernel) rfl rfl rfl (by simp [gEnt, Value.category]) rfl ?_
  refine gR.steps 4 (σ, (6, [some (.ref 25), some (.int (nI c)), some (.int (nI it)), some (.int 1)], [.int 2, .int 1])) rfl ?_
  refine gR.brT rfl (by decide) ?_
  refine gR.steps 3 (σ, (26, [some (.ref 25), some (.int (nI c)), some (.int (nI it)), some (.int 1)], [.int (σ 25 3), .int (nI it)])) rfl ?_
  refine gR.topI (y := nI (12)) hm ?_
  refine gR.ifte rfl (fun zc26 => ?_) (fun zc26 => ?_)
  · rw [gN_le (x := nI 12) (y := nI it) (a := 12) (b := it) rfl rfl (by omega) (by omega)] at zc26
    refine gR.steps 1 (σ, (54, [some (.ref 25), some (.int (nI c)), some (.int (nI it)), some (.int 1)], [.int 0])) rfl ?_
    refine gR.ret rfl ?_
    exact ⟨gOk0, by rw [bI_f (by omega)], rfl⟩
  · rw [gN_le (x := nI 12) (y := nI it) (a := 12) (b := it) rfl rfl (by omega) (by omega)] at zc26
    refine gR.steps 4 (σ, (35, [some (.ref 25), some (.int (nI c)), some (.int (nI it)), some (.int 1)], [.int 1, .ref 1002, .int (nI c)])) rfl ?_
    refine gR.ald (i := 1) (j := 1) (N := 2) (g := (fun i => ([97, 48] : List Int32).getD i 0)) rfl rfl (by omega) (by omega) ?_
    refine gR.topI (y := 48) rfl ?_
    refine gR.ifte rfl (fun zc36 => ?_) (fun zc36 => ?_)
    · rw [gN_lt (x := nI c) (y := 48) (a := c) (b := 48) rfl rfl (by omega) (by omega)] at zc36
      refine gR.steps 1 (σ, (54, [some (.ref 25), some (.int (nI c)), some (.int (nI it)), some (.int 1)], [.int 0])) rfl ?_
      refine gR.ret rfl ?_
      exact ⟨gOk0, by rw [bI_f (by omega)], rfl⟩
    · rw [gN_lt (x := nI c) (y := 48) (a := c) (b := 48) rfl rfl (by omega) (by omega)] at zc36
      refine gR.steps 4 (σ, (45, [some (.ref 25), some (.int (nI c)), some (.int (nI it)), some (.int 1)], [.int 1, .ref 1003, .int (nI c)])) rfl ?_
      refine gR.ald (i := 1) (j := 1) (N := 2) (g := (fun i => ([120, 57] : List Int32).getD i 0)) rfl rfl (by omega) (by omega) ?_
      refine gR.topI (y := 57) rfl ?_
      refine gR.ifte rfl (fun zc46 => ?_) (fun zc46 => ?_)
      · rw [gN_lt (x := 57) (y := nI c) (a := 57) (b := c) rfl rfl (by omega) (by omega)] at zc46
        refine gR.steps 1 (σ, (54, [some (.ref 25), some (.int (nI c)), some (.int (nI it)), some (.int 1)], [.int 0])) rfl ?_
        refine gR.ret rfl ?_
        exact ⟨gOk0, by rw [bI_f (by omega)], rfl⟩
      · rw [gN_lt (x := 57) (y := nI c) (a := 57) (b := c) rfl rfl (by omega) (by omega)] at zc46
        refine gR.steps 2 (σ, (54, [some (.ref 25), some (.int (nI c)), some (.int (nI it)), some (.int 1)], [.int 1])) rfl ?_
        refine gR.ret rfl ?_
        exact ⟨gOk1, by rw [bI_t (by omega)], rfl⟩
theorem s_X9_mayStand1_2 {d : Nat} (hd : 1 ≤ d) (σ : gS) (c it : Nat) (hc : c < 256) (hit : it < 12) (hm : σ 25 3 = 12) : gC d 43 [.ref 25, .int (nI c), .int (nI it), .int 2] σ (fun r τ => r = some (.int (bI (c = 59))) ∧ τ = σ) := by
  obtain ⟨d, rfl⟩ : ∃ k, d = k + 1 := ⟨d - 1, by omega⟩
  refine gC.of (P := pX9_mayStand) (nL := 4) (rt := (some (.boolean))) (lv := [some (.ref 25), some (.int (nI c)), some (.int (nI it)), some (.int 2)]) (by decide +kernel) rfl rfl rfl (by simp [gEnt, Value.category]) rfl ?_
  refine gR.steps 4 (σ, (6, [some (.ref 25), some (.int (nI c)), some (.int (nI it)), some (.int 2)], [.int 2, .int 2])) rfl ?_
  refine gR.brF rfl (by decide) ?_
  refine gR.steps 2 (σ, (12, [some (.ref 25), some (.int (nI c)), some (.int (nI it)), some (.int 2)], [.int 59, .int (nI c)])) rfl ?_
  refine gR.ifte rfl (fun zc12 => ?_) (fun zc12 => ?_)
  · rw [gN_eq (x := nI c) (y := 59) (a := c) (b := 59) rfl rfl (by omega) (by omega)] at zc12
    refine gR.steps 1 (σ, (20, [some (.ref 25), some (.int (nI c)), some (.int (nI it)), some (.int 2)], [.int 0])) rfl ?_
    refine gR.ret rfl ?_
    exact ⟨gOk0, by rw [bI_f (by omega)], rfl⟩
  · rw [gN_eq (x := nI c) (y := 59) (a := c) (b := 59) rfl rfl (by omega) (by omega)] at zc12
    refine gR.steps 2 (σ, (20, [some (.ref 25), some (.int (nI c)), some (.int (nI it)), some (.int 2)], [.int 1])) rfl ?_
    refine gR.ret rfl ?_
    exact ⟨gOk1, by rw [bI_t (by omega)], rfl⟩
theorem s_X9_mayStand1 {d : Nat} (hd : 1 ≤ d) (σ : gS) (c it p : Nat) (hc : c < 256) (hit : it < 12) (hm : σ 25 3 = 12) (hp : p < 3) : gC d 43 [.ref 25, .int (nI c), .int (nI it), .int (nI p)] σ (fun r τ => r = some (.int (bI ((xV1 p c).isSome = true))) ∧ τ = σ) := by
  rcases (show p = 0 ∨ p = 1 ∨ p = 2 by omega) with rfl | rfl | rfl
  · exact (s_X9_mayStand1_0 hd σ c it hc hit hm).mono (fun r τ h => ⟨by rw [h.1]; exact gSomeI (bI_congr (xV1_s0 c)), h.2⟩)
  · exact (s_X9_mayStand1_1 hd σ c it hc hit hm).mono (fun r τ h => ⟨by rw [h.1]; exact gSomeI (bI_congr (xV1_s1 c)), h.2⟩)
  · exact (s_X9_mayStand1_2 hd σ c it hc hit hm).mono (fun r τ h => ⟨by rw [h.1]; exact gSomeI (bI_congr (xV1_s2 c)), h.2⟩)
theorem xFlt_at {st n i : Nat} {g : Nat → Bool} (h1 : ∀ j, j < i → g j = true) (h2 : ¬ g i = true) (hi : i < n) : xFlt st g n = nI i := by
  unfold xFlt
  rw [xFst_at h1 h2 hi, if_pos hi]
theorem xFlt_ok {st n : Nat} {g : Nat → Bool} (h1 : ∀ j, j < n → g j = true) (h2 : n = 0 ∨ n % st = st - 1) : xFlt st g n = -1 := by
  unfold xFlt
  rw [xFst_all h1, if_neg (Nat.lt_irrefl n), if_pos h2]
theorem xFlt_no {st n : Nat} {g : Nat → Bool} (h1 : ∀ j, j < n → g j = true) (h2 : ¬ (n = 0 ∨ n % st = st - 1)) : xFlt st g n = nI n := by
  unfold xFlt
  rw [xFst_all h1, if_neg (Nat.lt_irrefl n), if_neg h2]
theorem nI_m1 {n : Nat} (h : n < 2147483648) : ¬ nI n = -1 := fun z => by
  have := congrArg Int32.toInt z
  rw [nI_toInt h, show (-1 : Int32).toInt = -1 from by decide] at this
  omega
theorem xNI_y {st n : Nat} {g : Nat → Bool} (hn : n < 2147483648) (h : xFlt st g n = -1) : xNI st g n = (n + 1) / st := by
  unfold xFlt at h
  unfold xNI
  split
  next h1 => rw [if_pos h1] at h; exact absurd h (nI_m1 (by omega))
  next h1 =>
    rw [if_neg h1] at h
    split
    next => rfl
    next h2 => rw [if_neg h2] at h; exact absurd h (nI_m1 hn)
theorem xNI_n {st n : Nat} {g : Nat → Bool} (h : ¬ xFlt st g n = -1) : xNI st g n = 0 := by
  unfold xFlt at h
  unfold xNI
  split
  next => rfl
  next h1 =>
    rw [if_neg h1] at h
    split
    next h2 => rw [if_pos h2] at h; exact absurd rfl h
    next => rfl
theorem s_X9_firstFault0 {d : Nat} (hd : 2 ≤ d) (σ : gS) (n : Nat) (c : Nat → Nat) (h : (σ 22 3 = 10 ∧ σ 22 4 = 4 ∧ σ 22 5 = nI n ∧ n ≤ 39 ∧ ∀ i, i < n → σ 23 i = nI (c i) ∧ c i < 256)) : gC d 42 [.ref 22] σ (fun r τ => r = some (.int (xFlt 4 (xG0 c) n)) ∧ τ = σ) := by
  obtain ⟨d, rfl⟩ : ∃ k, d = k + 1 := ⟨d - 1, by omega⟩
  refine gC.of (P := pX9_firstFault) (nL := 2) (rt := (some (.int))) (lv := [some (.ref 22), none]) (by decide +kernel) rfl rfl rfl (by simp [gEnt, Value.category]) rfl ?_
  have hn := h.2.2.2.1
  refine gR.steps 2 (σ, (2, [some (.ref 22), some (.int 0)], [])) rfl ?_
  refine gR.forget [some (.ref 22), some (.int 0)] ⟨rfl, ⟨rfl, trivial⟩⟩ ?_
  refine gR.loop (α := Nat) (fun i => i ≤ n ∧ ∀ j, j < i → xG0 c j = true) (fun i => n - i) (fun i => (σ, (2, [some (.ref 22), some (.int (nI i))], []))) ?_ 0 ⟨Nat.zero_le n, fun j hj => absurd hj (Nat.not_lt_zero j)⟩
  rintro i ⟨hi, hg⟩ ih
  show gR _ _ _ σ (2, [some (.ref 22), some (.int (nI i))], [])
  refine gR.steps 3 (σ, (7, [some (.ref 22), some (.int (nI i))], [.int (σ 22 5), .int (nI i)])) rfl ?_
  refine gR.topI (y := nI (n)) h.2.2.1 ?_
  refine gR.ifte rfl (fun zc7 => ?_) (fun zc7 => ?_)
  · rw [gN_le (x := nI n) (y := nI i) (a := n) (b := i) rfl rfl (by omega) (by omega)] at zc7
    refine gR.steps 2 (σ, (47, [some (.ref 22), some (.int (nI i))], [.int (σ 22 5)])) rfl ?_
    refine gR.topI (y := nI (n)) h.2.2.1 ?_
    refine gR.ifte rfl (fun zc47 => ?_) (fun zc47 => ?_)
    · rw [gN_eq (x := nI n) (y := 0) (a := n) (b := 0) rfl rfl (by omega) (by omega)] at zc47
      refine gR.steps 4 (σ, (75, [some (.ref 22), some (.int 1)], [.int 1])) rfl ?_
      refine gR.brF rfl (by decide) ?_
      refine gR.steps 2 (σ, (86, [some (.ref 22), some (.int 1)], [.int (-1)])) rfl ?_
      refine gR.ret rfl ?_
      exact ⟨trivial, gSomeI (xFlt_ok (fun j hj => hg j (by omega)) (by omega)).symm, rfl⟩
    · rw [gN_eq (x := nI n) (y := 0) (a := n) (b := 0) rfl rfl (by omega) (by omega)] at zc47
      refine gR.steps 2 (σ, (54, [some (.ref 22), some (.int (nI i))], [.int (σ 22 5)])) rfl ?_
      refine gR.topI (y := nI (n)) h.2.2.1 ?_
      refine gR.steps 2 (σ, (58, [some (.ref 22), some (.int (nI i))], [.int (σ 22 4), .int (nI n)])) rfl ?_
      refine gR.topI (y := nI (4)) h.2.1 ?_
      refine gR.brT (p := ¬ (nI 4) = 0) rfl (gN_ne (a := 4) (b := 0) rfl rfl (by omega) (by omega) (by omega)) ?_
      show gR _ _ _ σ (59, [some (.ref 22), some (.int (nI i))], [.int ((nI n) - (nI n) / (nI 4) * (nI 4))])
      refine gR.topI (y := nI (n % 4)) (gN_rem rfl rfl (by omega) (by omega) (by omega)) ?_
      refine gR.steps 2 (σ, (63, [some (.ref 22), some (.int (nI i))], [.int (σ 22 4), .int (nI (n % 4))])) rfl ?_
      refine gR.topI (y := nI (4)) h.2.1 ?_
      refine gR.steps 2 (σ, (65, [some (.ref 22), some (.int (nI i))], [.int ((nI 4) - 1), .int (nI (n % 4))])) rfl ?_
      refine gR.ifte rfl (fun zc65 => ?_) (fun zc65 => ?_)
      · rw [gN_eq (x := nI (n % 4)) (y := (nI 4) - 1) (a := n % 4) (b := 3) rfl (by decide) (by omega) (by omega)] at zc65
        refine gR.steps 3 (σ, (75, [some (.ref 22), some (.int 0)], [.int 0])) rfl ?_
        refine gR.brT rfl (by decide) ?_
        refine gR.steps 2 (σ, (86, [some (.ref 22), some (.int 0)], [.int (σ 22 5)])) rfl ?_
        refine gR.topI (y := nI (n)) h.2.2.1 ?_
        refine gR.ret rfl ?_
        exact ⟨trivial, gSomeI (xFlt_no (fun j hj => hg j (by omega)) (by omega)).symm, rfl⟩
      · rw [gN_eq (x := nI (n % 4)) (y := (nI 4) - 1) (a := n % 4) (b := 3) rfl (by decide) (by omega) (by omega)] at zc65
        refine gR.steps 4 (σ, (75, [some (.ref 22), some (.int 1)], [.int 1])) rfl ?_
        refine gR.brF rfl (by decide) ?_
        refine gR.steps 2 (σ, (86, [some (.ref 22), some (.int 1)], [.int (-1)])) rfl ?_
        refine gR.ret rfl ?_
        exact ⟨trivial, gSomeI (xFlt_ok (fun j hj => hg j (by omega)) (by omega)).symm, rfl⟩
  · rw [gN_le (x := nI n) (y := nI i) (a := n) (b := i) rfl rfl (by omega) (by omega)] at zc7
    refine gR.steps 4 (σ, (16, [some (.ref 22), some (.int (nI i))], [.int (nI i), .ref 23, .ref 22])) rfl ?_
    refine gR.ald (i := nI i) (j := i) (N := 39) (g := σ 23) rfl rfl (by omega) (by omega) ?_
    refine gR.topI (y := nI (c i)) (h.2.2.2.2 i (by omega)).1 ?_
    refine gR.steps 3 (σ, (22, [some (.ref 22), some (.int (nI i))], [.int (σ 22 4), .int (nI i), .int (nI (c i)), .ref 22])) rfl ?_
    refine gR.topI (y := nI (4)) h.2.1 ?_
    refine gR.brT (p := ¬ (nI 4) = 0) rfl (gN_ne (a := 4) (b := 0) rfl rfl (by omega) (by omega) (by omega)) ?_
    show gR _ _ _ σ (23, [some (.ref 22), some (.int (nI i))], [.int ((nI i) / (nI 4)), .int (nI (c i)), .ref 22])
    refine gR.topI (y := nI (i / 4)) (gN_div rfl rfl (by omega) (by omega) (by omega)) ?_
    refine gR.steps 3 (σ, (28, [some (.ref 22), some (.int (nI i))], [.int (σ 22 4), .int (nI i), .int (nI (i / 4)), .int (nI (c i)), .ref 22])) rfl ?_
    refine gR.topI (y := nI (4)) h.2.1 ?_
    refine gR.brT (p := ¬ (nI 4) = 0) rfl (gN_ne (a := 4) (b := 0) rfl rfl (by omega) (by omega) (by omega)) ?_
    show gR _ _ _ σ (29, [some (.ref 22), some (.int (nI i))], [.int ((nI i) - (nI i) / (nI 4) * (nI 4)), .int (nI (i / 4)), .int (nI (c i)), .ref 22])
    refine gR.topI (y := nI (i % 4)) (gN_rem rfl rfl (by omega) (by omega) (by omega)) ?_
    have hci := (h.2.2.2.2 i (by omega)).2
    refine gR.callp (x := .int (bI (xG0 c i = true))) rfl (s_X9_mayStand0 (by omega) σ (c i) (i / 4) (i % 4) hci (by omega) h.1 (by omega)) ?_
    refine gR.ifte rfl (fun zc32 => ?_) (fun zc32 => ?_)
    · rw [bI_ne0] at zc32
      refine gR.steps 2 (σ, (2, [some (.ref 22), some (.int ((nI i) + 1))], [])) rfl ?_
      refine gR.forget [some (.ref 22), some (.int (nI (i + 1)))] ⟨rfl, ⟨gSomeI (gN_add rfl rfl), trivial⟩⟩ ?_
      have hzz := ih (i + 1) ⟨by omega, lt_s hg zc32⟩ (by omega)
      exact hzz
    · rw [bI_ne0] at zc32
      refine gR.steps 1 (σ, (36, [some (.ref 22), some (.int (nI i))], [.int (nI i)])) rfl ?_
      refine gR.ret rfl ?_
      exact ⟨trivial, gSomeI (xFlt_at hg zc32 (by omega)).symm, rfl⟩
theorem s_X9_parse0 {d : Nat} (hd : 3 ≤ d) (σ : gS) (n : Nat) (c : Nat → Nat) (h : (σ 22 3 = 10 ∧ σ 22 4 = 4 ∧ σ 22 5 = nI n ∧ n ≤ 39 ∧ ∀ i, i < n → σ 23 i = nI (c i) ∧ c i < 256)) : gC d 41 [.ref 22] σ (fun r τ => r = none ∧ τ = gUp (gUp σ 22 6 (xFlt 4 (xG0 c) n)) 22 7 (nI (xNI 4 (xG0 c) n))) := by
  obtain ⟨d, rfl⟩ : ∃ k, d = k + 1 := ⟨d - 1, by omega⟩
  refine gC.of (P := pX9_parse) (nL := 1) (rt := none) (lv := [some (.ref 22)]) (by decide +kernel) rfl rfl rfl (by simp [gEnt, Value.category]) rfl ?_
  have hn := h.2.2.2.1
  refine gR.steps 2 (σ, (2, [some (.ref 22)], [.ref 22, .ref 22])) rfl ?_
  refine gR.callp rfl (s_X9_firstFault0 (by omega) σ n c h) ?_
  refine gR.steps 5 (gUp σ 22 6 (xFlt 4 (xG0 c) n), (14, [some (.ref 22)], [.int (-1), .int (xFlt 4 (xG0 c) n), .ref 22])) rfl ?_
  refine gR.ifte rfl (fun zc14 => ?_) (fun zc14 => ?_)
  · refine gR.steps 2 (gUp (gUp σ 22 6 (xFlt 4 (xG0 c) n)) 22 7 0, (35, [some (.ref 22)], [])) rfl ?_
    show gR _ _ _ (gUp (gUp σ 22 6 (xFlt 4 (xG0 c) n)) 22 7 0) (35, [some (.ref 22)], [])
    refine gR.ret rfl ?_
    refine ⟨trivial, rfl, ?_⟩
    first | (rw [xNI_n zc14]; rfl) | (rw [xNI_y (by omega) (Decidable.not_not.mp zc14)])
  · refine gR.steps 2 (gUp σ 22 6 (xFlt 4 (xG0 c) n), (21, [some (.ref 22)], [.int (σ 22 5), .ref 22])) rfl ?_
    refine gR.topI (y := nI (n)) h.2.2.1 ?_
    refine gR.steps 4 (gUp σ 22 6 (xFlt 4 (xG0 c) n), (27, [some (.ref 22)], [.int (σ 22 4), .int ((nI n) + 1), .ref 22])) rfl ?_
    refine gR.topI (y := nI (4)) h.2.1 ?_
    refine gR.brT (p := ¬ (nI 4) = 0) rfl (gN_ne (a := 4) (b := 0) rfl rfl (by omega) (by omega) (by omega)) ?_
    show gR _ _ _ (gUp σ 22 6 (xFlt 4 (xG0 c) n)) (28, [some (.ref 22)], [.int (((nI n) + 1) / (nI 4)), .ref 22])
    refine gR.topI (y := nI ((n + 1) / 4)) (gN_div (gN_add rfl rfl) rfl (by omega) (by omega) (by omega)) ?_
    refine gR.steps 2 (gUp (gUp σ 22 6 (xFlt 4 (xG0 c) n)) 22 7 (nI ((n + 1) / 4)), (35, [some (.ref 22)], [])) rfl ?_
    show gR _ _ _ (gUp (gUp σ 22 6 (xFlt 4 (xG0 c) n)) 22 7 (nI ((n + 1) / 4))) (35, [some (.ref 22)], [])
    refine gR.ret rfl ?_
    refine ⟨trivial, rfl, ?_⟩
    first | (rw [xNI_n zc14]; rfl) | (rw [xNI_y (by omega) (Decidable.not_not.mp zc14)])
theorem s_X9_firstFault1 {d : Nat} (hd : 2 ≤ d) (σ : gS) (n : Nat) (c : Nat → Nat) (h : (σ 25 3 = 12 ∧ σ 25 4 = 3 ∧ σ 25 5 = nI n ∧ n ≤ 35 ∧ ∀ i, i < n → σ 26 i = nI (c i) ∧ c i < 256)) : gC d 42 [.ref 25] σ (fun r τ => r = some (.int (xFlt 3 (xG1 c) n)) ∧ τ = σ) := by
  obtain ⟨d, rfl⟩ : ∃ k, d = k + 1 := ⟨d - 1, by omega⟩
  refine gC.of (P := pX9_firstFault) (nL := 2) (rt := (some (.int))) (lv := [some (.ref 25), none]) (by decide +kernel) rfl rfl rfl (by simp [gEnt, Value.category]) rfl ?_
  have hn := h.2.2.2.1
  refine gR.steps 2 (σ, (2, [some (.ref 25), some (.int 0)], [])) rfl ?_
  refine gR.forget [some (.ref 25), some (.int 0)] ⟨rfl, ⟨rfl, trivial⟩⟩ ?_
  refine gR.loop (α := Nat) (fun i => i ≤ n ∧ ∀ j, j < i → xG1 c j = true) (fun i => n - i) (fun i => (σ, (2, [some (.ref 25), some (.int (nI i))], []))) ?_ 0 ⟨Nat.zero_le n, fun j hj => absurd hj (Nat.not_lt_zero j)⟩
  rintro i ⟨hi, hg⟩ ih
  show gR _ _ _ σ (2, [some (.ref 25), some (.int (nI i))], [])
  refine gR.steps 3 (σ, (7, [some (.ref 25), some (.int (nI i))], [.int (σ 25 5), .int (nI i)])) rfl ?_
  refine gR.topI (y := nI (n)) h.2.2.1 ?_
  refine gR.ifte rfl (fun zc7 => ?_) (fun zc7 => ?_)
  · rw [gN_le (x := nI n) (y := nI i) (a := n) (b := i) rfl rfl (by omega) (by omega)] at zc7
    refine gR.steps 2 (σ, (47, [some (.ref 25), some (.int (nI i))], [.int (σ 25 5)])) rfl ?_
    refine gR.topI (y := nI (n)) h.2.2.1 ?_
    refine gR.ifte rfl (fun zc47 => ?_) (fun zc47 => ?_)
    · rw [gN_eq (x := nI n) (y := 0) (a := n) (b := 0) rfl rfl (by omega) (by omega)] at zc47
      refine gR.steps 4 (σ, (75, [some (.ref 25), some (.int 1)], [.int 1])) rfl ?_
      refine gR.brF rfl (by decide) ?_
      refine gR.steps 2 (σ, (86, [some (.ref 25), some (.int 1)], [.int (-1)])) rfl ?_
      refine gR.ret rfl ?_
      exact ⟨trivial, gSomeI (xFlt_ok (fun j hj => hg j (by omega)) (by omega)).symm, rfl⟩
    · rw [gN_eq (x := nI n) (y := 0) (a := n) (b := 0) rfl rfl (by omega) (by omega)] at zc47
      refine gR.steps 2 (σ, (54, [some (.ref 25), some (.int (nI i))], [.int (σ 25 5)])) rfl ?_
      refine gR.topI (y := nI (n)) h.2.2.1 ?_
      refine gR.steps 2 (σ, (58, [some (.ref 25), some (.int (nI i))], [.int (σ 25 4), .int (nI n)])) rfl ?_
      refine gR.topI (y := nI (3)) h.2.1 ?_
      refine gR.brT (p := ¬ (nI 3) = 0) rfl (gN_ne (a := 3) (b := 0) rfl rfl (by omega) (by omega) (by omega)) ?_
      show gR _ _ _ σ (59, [some (.ref 25), some (.int (nI i))], [.int ((nI n) - (nI n) / (nI 3) * (nI 3))])
      refine gR.topI (y := nI (n % 3)) (gN_rem rfl rfl (by omega) (by omega) (by omega)) ?_
      refine gR.steps 2 (σ, (63, [some (.ref 25), some (.int (nI i))], [.int (σ 25 4), .int (nI (n % 3))])) rfl ?_
      refine gR.topI (y := nI (3)) h.2.1 ?_
      refine gR.steps 2 (σ, (65, [some (.ref 25), some (.int (nI i))], [.int ((nI 3) - 1), .int (nI (n % 3))])) rfl ?_
      refine gR.ifte rfl (fun zc65 => ?_) (fun zc65 => ?_)
      · rw [gN_eq (x := nI (n % 3)) (y := (nI 3) - 1) (a := n % 3) (b := 2) rfl (by decide) (by omega) (by omega)] at zc65
        refine gR.steps 3 (σ, (75, [some (.ref 25), some (.int 0)], [.int 0])) rfl ?_
        refine gR.brT rfl (by decide) ?_
        refine gR.steps 2 (σ, (86, [some (.ref 25), some (.int 0)], [.int (σ 25 5)])) rfl ?_
        refine gR.topI (y := nI (n)) h.2.2.1 ?_
        refine gR.ret rfl ?_
        exact ⟨trivial, gSomeI (xFlt_no (fun j hj => hg j (by omega)) (by omega)).symm, rfl⟩
      · rw [gN_eq (x := nI (n % 3)) (y := (nI 3) - 1) (a := n % 3) (b := 2) rfl (by decide) (by omega) (by omega)] at zc65
        refine gR.steps 4 (σ, (75, [some (.ref 25), some (.int 1)], [.int 1])) rfl ?_
        refine gR.brF rfl (by decide) ?_
        refine gR.steps 2 (σ, (86, [some (.ref 25), some (.int 1)], [.int (-1)])) rfl ?_
        refine gR.ret rfl ?_
        exact ⟨trivial, gSomeI (xFlt_ok (fun j hj => hg j (by omega)) (by omega)).symm, rfl⟩
  · rw [gN_le (x := nI n) (y := nI i) (a := n) (b := i) rfl rfl (by omega) (by omega)] at zc7
    refine gR.steps 4 (σ, (16, [some (.ref 25), some (.int (nI i))], [.int (nI i), .ref 26, .ref 25])) rfl ?_
    refine gR.ald (i := nI i) (j := i) (N := 35) (g := σ 26) rfl rfl (by omega) (by omega) ?_
    refine gR.topI (y := nI (c i)) (h.2.2.2.2 i (by omega)).1 ?_
    refine gR.steps 3 (σ, (22, [some (.ref 25), some (.int (nI i))], [.int (σ 25 4), .int (nI i), .int (nI (c i)), .ref 25])) rfl ?_
    refine gR.topI (y := nI (3)) h.2.1 ?_
    refine gR.brT (p := ¬ (nI 3) = 0) rfl (gN_ne (a := 3) (b := 0) rfl rfl (by omega) (by omega) (by omega)) ?_
    show gR _ _ _ σ (23, [some (.ref 25), some (.int (nI i))], [.int ((nI i) / (nI 3)), .int (nI (c i)), .ref 25])
    refine gR.topI (y := nI (i / 3)) (gN_div rfl rfl (by omega) (by omega) (by omega)) ?_
    refine gR.steps 3 (σ, (28, [some (.ref 25), some (.int (nI i))], [.int (σ 25 4), .int (nI i), .int (nI (i / 3)), .int (nI (c i)), .ref 25])) rfl ?_
    refine gR.topI (y := nI (3)) h.2.1 ?_
    refine gR.brT (p := ¬ (nI 3) = 0) rfl (gN_ne (a := 3) (b := 0) rfl rfl (by omega) (by omega) (by omega)) ?_
    show gR _ _ _ σ (29, [some (.ref 25), some (.int (nI i))], [.int ((nI i) - (nI i) / (nI 3) * (nI 3)), .int (nI (i / 3)), .int (nI (c i)), .ref 25])
    refine gR.topI (y := nI (i % 3)) (gN_rem rfl rfl (by omega) (by omega) (by omega)) ?_
    have hci := (h.2.2.2.2 i (by omega)).2
    refine gR.callp (x := .int (bI (xG1 c i = true))) rfl (s_X9_mayStand1 (by omega) σ (c i) (i / 3) (i % 3) hci (by omega) h.1 (by omega)) ?_
    refine gR.ifte rfl (fun zc32 => ?_) (fun zc32 => ?_)
    · rw [bI_ne0] at zc32
      refine gR.steps 2 (σ, (2, [some (.ref 25), some (.int ((nI i) + 1))], [])) rfl ?_
      refine gR.forget [some (.ref 25), some (.int (nI (i + 1)))] ⟨rfl, ⟨gSomeI (gN_add rfl rfl), trivial⟩⟩ ?_
      have hzz := ih (i + 1) ⟨by omega, lt_s hg zc32⟩ (by omega)
      exact hzz
    · rw [bI_ne0] at zc32
      refine gR.steps 1 (σ, (36, [some (.ref 25), some (.int (nI i))], [.int (nI i)])) rfl ?_
      refine gR.ret rfl ?_
      exact ⟨trivial, gSomeI (xFlt_at hg zc32 (by omega)).symm, rfl⟩
theorem s_X9_parse1 {d : Nat} (hd : 3 ≤ d) (σ : gS) (n : Nat) (c : Nat → Nat) (h : (σ 25 3 = 12 ∧ σ 25 4 = 3 ∧ σ 25 5 = nI n ∧ n ≤ 35 ∧ ∀ i, i < n → σ 26 i = nI (c i) ∧ c i < 256)) : gC d 41 [.ref 25] σ (fun r τ => r = none ∧ τ = gUp (gUp σ 25 6 (xFlt 3 (xG1 c) n)) 25 7 (nI (xNI 3 (xG1 c) n))) := by
  obtain ⟨d, rfl⟩ : ∃ k, d = k + 1 := ⟨d - 1, by omega⟩
  refine gC.of (P := pX9_parse) (nL := 1) (rt := none) (lv := [some (.ref 25)]) (by decide +kernel) rfl rfl rfl (by simp [gEnt, Value.category]) rfl ?_
  have hn := h.2.2.2.1
  refine gR.steps 2 (σ, (2, [some (.ref 25)], [.ref 25, .ref 25])) rfl ?_
  refine gR.callp rfl (s_X9_firstFault1 (by omega) σ n c h) ?_
  refine gR.steps 5 (gUp σ 25 6 (xFlt 3 (xG1 c) n), (14, [some (.ref 25)], [.int (-1), .int (xFlt 3 (xG1 c) n), .ref 25])) rfl ?_
  refine gR.ifte rfl (fun zc14 => ?_) (fun zc14 => ?_)
  · refine gR.steps 2 (gUp (gUp σ 25 6 (xFlt 3 (xG1 c) n)) 25 7 0, (35, [some (.ref 25)], [])) rfl ?_
    show gR _ _ _ (gUp (gUp σ 25 6 (xFlt 3 (xG1 c) n)) 25 7 0) (35, [some (.ref 25)], [])
    refine gR.ret rfl ?_
    refine ⟨trivial, rfl, ?_⟩
    first | (rw [xNI_n zc14]; rfl) | (rw [xNI_y (by omega) (Decidable.not_not.mp zc14)])
  · refine gR.steps 2 (gUp σ 25 6 (xFlt 3 (xG1 c) n), (21, [some (.ref 25)], [.int (σ 25 5), .ref 25])) rfl ?_
    refine gR.topI (y := nI (n)) h.2.2.1 ?_
    refine gR.steps 4 (gUp σ 25 6 (xFlt 3 (xG1 c) n), (27, [some (.ref 25)], [.int (σ 25 4), .int ((nI n) + 1), .ref 25])) rfl ?_
    refine gR.topI (y := nI (3)) h.2.1 ?_
    refine gR.brT (p := ¬ (nI 3) = 0) rfl (gN_ne (a := 3) (b := 0) rfl rfl (by omega) (by omega) (by omega)) ?_
    show gR _ _ _ (gUp σ 25 6 (xFlt 3 (xG1 c) n)) (28, [some (.ref 25)], [.int (((nI n) + 1) / (nI 3)), .ref 25])
    refine gR.topI (y := nI ((n + 1) / 3)) (gN_div (gN_add rfl rfl) rfl (by omega) (by omega) (by omega)) ?_
    refine gR.steps 2 (gUp (gUp σ 25 6 (xFlt 3 (xG1 c) n)) 25 7 (nI ((n + 1) / 3)), (35, [some (.ref 25)], [])) rfl ?_
    show gR _ _ _ (gUp (gUp σ 25 6 (xFlt 3 (xG1 c) n)) 25 7 (nI ((n + 1) / 3))) (35, [some (.ref 25)], [])
    refine gR.ret rfl ?_
    refine ⟨trivial, rfl, ?_⟩
    first | (rw [xNI_n zc14]; rfl) | (rw [xNI_y (by omega) (Decidable.not_not.mp zc14)])
