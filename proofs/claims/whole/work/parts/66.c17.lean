def cS1 (σ : gS) (H : xShe) (s : Nat) : Prop := σ (70 + s) 1 = shF H s ∧ (shF H s = -1 ∨ shF H s = 0 ∨ shF H s = 1 ∨ shF H s = 2) ∧ shZ H s ≤ 60 ∧ (∃ z, σ (70 + s) 2 = nI z ∧ z ≤ 60) ∧ (¬ shF H s = -1 → σ (70 + s) 2 = nI (shZ H s) ∧ ∀ i, i < shZ H s → σ (74 + s) i = shI H s i)
theorem cSh_one {σ τ : gS} {H H2 : xShe} {s : Nat} (h : cSh σ H) (hf : ∀ t, t < 4 → ¬ t = s → τ (70 + t) = σ (70 + t) ∧ τ (74 + t) = σ (74 + t)) (he : ∀ t, ¬ t = s → shF H2 t = shF H t ∧ shZ H2 t = shZ H t ∧ shI H2 t = shI H t) (h1 : cS1 τ H2 s) : cSh τ H2 := fun t ht => by
  by_cases e : t = s
  · rw [e]; exact h1
  · obtain ⟨a, b⟩ := hf t ht e
    obtain ⟨c, d, f⟩ := he t e
    rw [a, b, c, d, f]
    exact h t ht
def cShF (σ τ : gS) : Prop := (∀ p, p ≠ 18 → ¬ (70 ≤ p ∧ p ≤ 77) → τ p = σ p) ∧ ∀ s, s ≠ 12 → τ 18 s = σ 18 s
theorem cShF.rf (σ : gS) : cShF σ σ := ⟨fun _ _ _ => rfl, fun _ _ => rfl⟩
theorem cShF_fi (σ : gS) (x : Int32) : cShF σ (gUp σ 18 12 x) := ⟨fun p a b => gUp_ne a, fun s a => gUp_o (by omega)⟩
theorem cSh_fi {σ : gS} {H : xShe} {x : Int32} (h : cSh σ H) : cSh (gUp σ 18 12 x) H := h.keep (fun q a b => gUp_ne (by omega))
theorem s_X10_finding {d : Nat} (hd : 1 ≤ d) (σ : gS) (k : Nat) : gC d 101 [.ref 18, .int (nI k)] σ (fun r τ => r = some (.int (xFi k)) ∧ τ = gUp σ 18 12 (nI k)) := by
  obtain ⟨d, rfl⟩ : ∃ k, d = k + 1 := ⟨d - 1, by omega⟩
  refine gC.of (P := pX10_finding) (nL := 2) (rt := (some (.int))) (lv := [some (.ref 18), some (.int (nI k))]) (by decide +kernel) rfl rfl rfl (by simp [gEnt, Value.category]) rfl ?_
  refine gR.steps 6 (gUp σ 18 12 (nI k), (9, [some (.ref 18), some (.int (nI k))], [.int ((-10) - (nI k))])) rfl ?_
  show gR _ _ _ (gUp σ 18 12 (nI k)) (9, [some (.ref 18), some (.int (nI k))], [.int ((-10) - (nI k))])
  refine gR.ret rfl ?_
  exact ⟨trivial, rfl, rfl⟩
theorem s_X8_isLost {d : Nat} (hd : 1 ≤ d) (σ : gS) (s : Nat) (hs4 : s < 4) : gC d 31 [.ref (70 + s)] σ (fun r τ => r = some (.int (bI (σ (70 + s) 1 = -1))) ∧ τ = σ) := by
  obtain ⟨d, rfl⟩ : ∃ k, d = k + 1 := ⟨d - 1, by omega⟩
  refine gC.of (P := pX8_isLost) (nL := 1) (rt := (some (.boolean))) (lv := [some (.ref (70 + s))]) (by decide +kernel) rfl rfl rfl (by simp [gEnt, Value.category]) rfl ?_
  refine gR.steps 1 (σ, (1, [some (.ref (70 + s))], [.ref (70 + s)])) rfl ?_
  refine gR.getI rfl (gSh_sheet (j := s) hs4) rfl ?_
  show gR _ _ _ σ (4, [some (.ref (70 + s))], [.int (σ (70 + s) 1)])
  refine gR.steps 1 (σ, (5, [some (.ref (70 + s))], [.int (-1), .int (σ (70 + s) 1)])) rfl ?_
  refine gR.ifte rfl (fun zc5 => ?_) (fun zc5 => ?_)
  · refine gR.steps 1 (σ, (13, [some (.ref (70 + s))], [.int 0])) rfl ?_
    show gR _ _ _ σ (13, [some (.ref (70 + s))], [.int 0])
    refine gR.ret rfl ?_
    exact ⟨gOk0, by rw [bI_f (zc5)], rfl⟩
  · refine gR.steps 2 (σ, (13, [some (.ref (70 + s))], [.int 1])) rfl ?_
    show gR _ _ _ σ (13, [some (.ref (70 + s))], [.int 1])
    refine gR.ret rfl ?_
    exact ⟨gOk1, by rw [bI_t (Decidable.not_not.mp zc5)], rfl⟩
theorem s_X8_renew {d : Nat} (hd : 2 ≤ d) (σ : gS) (s : Nat) (f n : Int32) (hs4 : s < 4) : gC d 32 [.ref (70 + s), .int f, .int n] σ (fun r τ => r = none ∧ (∀ p, p ≠ 70 + s → p ≠ 74 + s → τ p = σ p) ∧ τ (70 + s) 1 = f ∧ τ (70 + s) 2 = n ∧ ∀ j, j < 60 → τ (74 + s) j = 0) := by
  obtain ⟨d, rfl⟩ : ∃ k, d = k + 1 := ⟨d - 1, by omega⟩
  refine gC.of (P := pX8_renew) (nL := 3) (rt := none) (lv := [some (.ref (70 + s)), some (.int f), some (.int n)]) (by decide +kernel) rfl rfl rfl (by simp [gEnt, Value.category]) rfl ?_
  refine gR.steps 2 (σ, (2, [some (.ref (70 + s)), some (.int f), some (.int n)], [.int f, .ref (70 + s)])) rfl ?_
  refine gR.putI rfl (gSh_sheet (j := s) hs4) rfl ?_
  show gR _ _ _ (gUp σ (70 + s) 1 f) (5, [some (.ref (70 + s)), some (.int f), some (.int n)], [])
  refine gR.steps 2 (gUp σ (70 + s) 1 f, (7, [some (.ref (70 + s)), some (.int f), some (.int n)], [.int n, .ref (70 + s)])) rfl ?_
  refine gR.putI rfl (gSh_sheet (j := s) hs4) rfl ?_
  show gR _ _ _ (gUp (gUp σ (70 + s) 1 f) (70 + s) 2 n) (10, [some (.ref (70 + s)), some (.int f), some (.int n)], [])
  refine gR.steps 1 (gUp (gUp σ (70 + s) 1 f) (70 + s) 2 n, (11, [some (.ref (70 + s)), some (.int f), some (.int n)], [.ref (70 + s)])) rfl ?_
  refine gR.getR rfl (gSh_sheet (j := s) hs4) rfl ?_
  show gR _ _ _ (gUp (gUp σ (70 + s) 1 f) (70 + s) 2 n) (14, [some (.ref (70 + s)), some (.int f), some (.int n)], [.ref (74 + s)])
  refine gR.steps 1 (gUp (gUp σ (70 + s) 1 f) (70 + s) 2 n, (15, [some (.ref (70 + s)), some (.int f), some (.int n)], [.int 0, .ref (74 + s)])) rfl ?_
  refine gR.call' rfl (s_J7_fill_53178 (by omega) (gUp (gUp σ (70 + s) 1 f) (70 + s) 2 n) (74 + s) 60 0 (gSh_items hs4) (by omega)) ?_
  rintro _ τ ⟨rfl, hF, hv, _⟩
  show gR _ _ _ τ (18, [some (.ref (70 + s)), some (.int f), some (.int n)], [])
  show gR _ _ _ τ (18, [some (.ref (70 + s)), some (.int f), some (.int n)], [])
  refine gR.ret rfl ?_
  exact ⟨trivial, rfl, fun p a b => by rw [hF p b, gUp_ne a, gUp_ne a], by rw [hF (70 + s) (by omega), gUp_o (by omega), gUp_s], by rw [hF (70 + s) (by omega), gUp_s], hv⟩
theorem s_X8_discard {d : Nat} (hd : 1 ≤ d) (σ : gS) (s : Nat) (hs4 : s < 4) : gC d 33 [.ref (70 + s)] σ (fun r τ => r = some (.int (σ (70 + s) 2)) ∧ τ = gUp (gUp σ (70 + s) 1 (-1)) (70 + s) 2 0) := by
  obtain ⟨d, rfl⟩ : ∃ k, d = k + 1 := ⟨d - 1, by omega⟩
  refine gC.of (P := pX8_discard) (nL := 2) (rt := (some (.int))) (lv := [some (.ref (70 + s)), none]) (by decide +kernel) rfl rfl rfl (by simp [gEnt, Value.category]) rfl ?_
  refine gR.steps 1 (σ, (1, [some (.ref (70 + s)), none], [.ref (70 + s)])) rfl ?_
  refine gR.getI rfl (gSh_sheet (j := s) hs4) rfl ?_
  show gR _ _ _ σ (4, [some (.ref (70 + s)), none], [.int (σ (70 + s) 2)])
  refine gR.steps 3 (σ, (7, [some (.ref (70 + s)), some (.int (σ (70 + s) 2))], [.int (-1), .ref (70 + s)])) rfl ?_
  refine gR.putI rfl (gSh_sheet (j := s) hs4) rfl ?_
  show gR _ _ _ (gUp σ (70 + s) 1 (-1)) (10, [some (.ref (70 + s)), some (.int (σ (70 + s) 2))], [])
  refine gR.steps 2 (gUp σ (70 + s) 1 (-1), (12, [some (.ref (70 + s)), some (.int (σ (70 + s) 2))], [.int 0, .ref (70 + s)])) rfl ?_
  refine gR.putI rfl (gSh_sheet (j := s) hs4) rfl ?_
  show gR _ _ _ (gUp (gUp σ (70 + s) 1 (-1)) (70 + s) 2 0) (15, [some (.ref (70 + s)), some (.int (σ (70 + s) 2))], [])
  refine gR.steps 1 (gUp (gUp σ (70 + s) 1 (-1)) (70 + s) 2 0, (16, [some (.ref (70 + s)), some (.int (σ (70 + s) 2))], [.int (σ (70 + s) 2)])) rfl ?_
  show gR _ _ _ (gUp (gUp σ (70 + s) 1 (-1)) (70 + s) 2 0) (16, [some (.ref (70 + s)), some (.int (σ (70 + s) 2))], [.int (σ (70 + s) 2)])
  refine gR.ret rfl ?_
  exact ⟨trivial, rfl, rfl⟩
theorem s_X8_hasItems {d : Nat} (hd : 1 ≤ d) (σ : gS) (s : Nat) (i n : Int32) (z : Nat) (hs4 : s < 4) (hz : σ (70 + s) 2 = nI z) (hz60 : z ≤ 60) : gC d 34 [.ref (70 + s), .int i, .int n] σ (fun r τ => r = some (.int (bI (0 ≤ i.toInt ∧ 0 ≤ n.toInt ∧ i.toInt + n.toInt ≤ z))) ∧ τ = σ) := by
  obtain ⟨d, rfl⟩ : ∃ k, d = k + 1 := ⟨d - 1, by omega⟩
  refine gC.of (P := pX8_hasItems) (nL := 3) (rt := (some (.boolean))) (lv := [some (.ref (70 + s)), some (.int i), some (.int n)]) (by decide +kernel) rfl rfl rfl (by simp [gEnt, Value.category]) rfl ?_
  refine gR.steps 1 (σ, (1, [some (.ref (70 + s)), some (.int i), some (.int n)], [.int i])) rfl ?_
  refine gR.ifte rfl (fun zc1 => ?_) (fun zc1 => ?_)
  · rw [Int32.lt_iff_toInt_lt, show (0 : Int32).toInt = 0 from rfl] at zc1
    refine gR.steps 1 (σ, (31, [some (.ref (70 + s)), some (.int i), some (.int n)], [.int 0])) rfl ?_
    show gR _ _ _ σ (31, [some (.ref (70 + s)), some (.int i), some (.int n)], [.int 0])
    refine gR.ret rfl ?_
    exact ⟨gOk0, by rw [bI_f (by omega)], rfl⟩
  · rw [Int32.lt_iff_toInt_lt, show (0 : Int32).toInt = 0 from rfl] at zc1
    refine gR.steps 1 (σ, (5, [some (.ref (70 + s)), some (.int i), some (.int n)], [.int n])) rfl ?_
    refine gR.ifte rfl (fun zc5 => ?_) (fun zc5 => ?_)
    · rw [Int32.lt_iff_toInt_lt, show (0 : Int32).toInt = 0 from rfl] at zc5
      refine gR.steps 1 (σ, (31, [some (.ref (70 + s)), some (.int i), some (.int n)], [.int 0])) rfl ?_
      show gR _ _ _ σ (31, [some (.ref (70 + s)), some (.int i), some (.int n)], [.int 0])
      refine gR.ret rfl ?_
      exact ⟨gOk0, by rw [bI_f (by omega)], rfl⟩
    · rw [Int32.lt_iff_toInt_lt, show (0 : Int32).toInt = 0 from rfl] at zc5
      refine gR.steps 2 (σ, (10, [some (.ref (70 + s)), some (.int i), some (.int n)], [.ref (70 + s), .int i])) rfl ?_
      refine gR.getI rfl (gSh_sheet (j := s) hs4) rfl ?_
      show gR _ _ _ σ (13, [some (.ref (70 + s)), some (.int i), some (.int n)], [.int (σ (70 + s) 2), .int i])
      refine gR.topI (y := nI (z)) hz ?_
      refine gR.ifte rfl (fun zc13 => ?_) (fun zc13 => ?_)
      · rw [Int32.lt_iff_toInt_lt, nI_toInt (by omega)] at zc13
        refine gR.steps 1 (σ, (31, [some (.ref (70 + s)), some (.int i), some (.int n)], [.int 0])) rfl ?_
        show gR _ _ _ σ (31, [some (.ref (70 + s)), some (.int i), some (.int n)], [.int 0])
        refine gR.ret rfl ?_
        exact ⟨gOk0, by rw [bI_f (by omega)], rfl⟩
      · rw [Int32.lt_iff_toInt_lt, nI_toInt (by omega)] at zc13
        obtain ⟨ii, hii, rfl⟩ := gN_of (x := i) (n := 61) (by omega) (by omega) (by omega)
        rw [nI_toInt (by omega)] at zc1 zc13
        refine gR.steps 2 (σ, (18, [some (.ref (70 + s)), some (.int (nI ii)), some (.int n)], [.ref (70 + s), .int n])) rfl ?_
        refine gR.getI rfl (gSh_sheet (j := s) hs4) rfl ?_
        show gR _ _ _ σ (21, [some (.ref (70 + s)), some (.int (nI ii)), some (.int n)], [.int (σ (70 + s) 2), .int n])
        refine gR.topI (y := nI (z)) hz ?_
        refine gR.steps 2 (σ, (23, [some (.ref (70 + s)), some (.int (nI ii)), some (.int n)], [.int ((nI z) - (nI ii)), .int n])) rfl ?_
        refine gR.ifte rfl (fun zc23 => ?_) (fun zc23 => ?_)
        · rw [Int32.lt_iff_toInt_lt, gN_toInt (gN_sub (a := z) (b := ii) rfl rfl (by omega)) (by omega)] at zc23
          refine gR.steps 1 (σ, (31, [some (.ref (70 + s)), some (.int (nI ii)), some (.int n)], [.int 0])) rfl ?_
          show gR _ _ _ σ (31, [some (.ref (70 + s)), some (.int (nI ii)), some (.int n)], [.int 0])
          refine gR.ret rfl ?_
          have e1 := nI_toInt (n := ii) (by omega)
          exact ⟨gOk0, by rw [bI_f (by omega)], rfl⟩
        · rw [Int32.lt_iff_toInt_lt, gN_toInt (gN_sub (a := z) (b := ii) rfl rfl (by omega)) (by omega)] at zc23
          refine gR.steps 2 (σ, (31, [some (.ref (70 + s)), some (.int (nI ii)), some (.int n)], [.int 1])) rfl ?_
          show gR _ _ _ σ (31, [some (.ref (70 + s)), some (.int (nI ii)), some (.int n)], [.int 1])
          refine gR.ret rfl ?_
          have e1 := nI_toInt (n := ii) (by omega)
          exact ⟨gOk1, by rw [bI_t (by omega)], rfl⟩
theorem s_X8_item {d : Nat} (hd : 2 ≤ d) (σ : gS) (s i z : Nat) (hs4 : s < 4) (hz : σ (70 + s) 2 = nI z) (hz60 : z ≤ 60) (hi : i < z) : gC d 35 [.ref (70 + s), .int (nI i)] σ (fun r τ => r = some (.int (σ (74 + s) i)) ∧ τ = σ) := by
  obtain ⟨d, rfl⟩ : ∃ k, d = k + 1 := ⟨d - 1, by omega⟩
  refine gC.of (P := pX8_item) (nL := 2) (rt := (some (.int))) (lv := [some (.ref (70 + s)), some (.int (nI i))]) (by decide +kernel) rfl rfl rfl (by simp [gEnt, Value.category]) rfl ?_
  refine gR.steps 3 (σ, (3, [some (.ref (70 + s)), some (.int (nI i))], [.int 1, .int (nI i), .ref (70 + s)])) rfl ?_
  refine gR.callp (gStep_callV rfl rfl (gSh_sheet (j := s) hs4) rfl) (s_X8_hasItems (by omega) σ s (nI i) 1 z hs4 hz hz60) ?_
  refine gR.brF rfl (by rw [bI_eq0]; exact Decidable.not_not.mpr ⟨by rw [nI_toInt (by omega)]; omega, by decide, by rw [nI_toInt (by omega), show Int32.toInt 1 = 1 from rfl]; omega⟩) ?_
  refine gR.steps 1 (σ, (10, [some (.ref (70 + s)), some (.int (nI i))], [.ref (70 + s)])) rfl ?_
  refine gR.getR rfl (gSh_sheet (j := s) hs4) rfl ?_
  show gR _ _ _ σ (13, [some (.ref (70 + s)), some (.int (nI i))], [.ref (74 + s)])
  refine gR.steps 1 (σ, (14, [some (.ref (70 + s)), some (.int (nI i))], [.int (nI i), .ref (74 + s)])) rfl ?_
  refine gR.aldq (i := nI i) (j := i) rfl (gSh_items (j := s) hs4) rfl (by omega) (by omega) ?_
  show gR _ _ _ σ (15, [some (.ref (70 + s)), some (.int (nI i))], [.int (σ (74 + s) i)])
  refine gR.steps 1 (σ, (19, [some (.ref (70 + s)), some (.int (nI i))], [.int (σ (74 + s) i)])) rfl ?_
  show gR _ _ _ σ (19, [some (.ref (70 + s)), some (.int (nI i))], [.int (σ (74 + s) i)])
  refine gR.ret rfl ?_
  exact ⟨trivial, rfl, rfl⟩
theorem s_X8_narrowed {d : Nat} (hd : 1 ≤ d) (σ : gS) (s : Nat) (v : Int32) (hs4 : s < 4) : gC d 37 [.ref (70 + s), .int v] σ (fun r τ => r = some (.int (xCut (σ (70 + s) 1) v)) ∧ τ = σ) := by
  obtain ⟨d, rfl⟩ : ∃ k, d = k + 1 := ⟨d - 1, by omega⟩
  refine gC.of (P := pX8_narrowed) (nL := 2) (rt := (some (.int))) (lv := [some (.ref (70 + s)), some (.int v)]) (by decide +kernel) rfl rfl rfl (by simp [gEnt, Value.category]) rfl ?_
  refine gR.steps 1 (σ, (1, [some (.ref (70 + s)), some (.int v)], [.ref (70 + s)])) rfl ?_
  refine gR.getI rfl (gSh_sheet (j := s) hs4) rfl ?_
  show gR _ _ _ σ (4, [some (.ref (70 + s)), some (.int v)], [.int (σ (70 + s) 1)])
  refine gR.ifte rfl (fun zc4 => ?_) (fun zc4 => ?_)
  · refine gR.steps 1 (σ, (11, [some (.ref (70 + s)), some (.int v)], [.ref (70 + s)])) rfl ?_
    refine gR.getI rfl (gSh_sheet (j := s) hs4) rfl ?_
    show gR _ _ _ σ (14, [some (.ref (70 + s)), some (.int v)], [.int (σ (70 + s) 1)])
    refine gR.steps 1 (σ, (15, [some (.ref (70 + s)), some (.int v)], [.int 1, .int (σ (70 + s) 1)])) rfl ?_
    refine gR.ifte rfl (fun zc15 => ?_) (fun zc15 => ?_)
    · refine gR.steps 1 (σ, (24, [some (.ref (70 + s)), some (.int v)], [.int v])) rfl ?_
      show gR _ _ _ σ (24, [some (.ref (70 + s)), some (.int v)], [.int v])
      refine gR.ret rfl ?_
      exact ⟨trivial, by unfold xCut; first | rw [if_pos (Decidable.not_not.mp zc4)] | rw [if_neg zc4, if_pos (Decidable.not_not.mp zc15)] | rw [if_neg zc4, if_neg zc15], rfl⟩
    · refine gR.steps 3 (σ, (24, [some (.ref (70 + s)), some (.int v)], [.int ((Int32.toInt16 v).toInt32)])) rfl ?_
      show gR _ _ _ σ (24, [some (.ref (70 + s)), some (.int v)], [.int ((Int32.toInt16 v).toInt32)])
      refine gR.ret rfl ?_
      exact ⟨trivial, by unfold xCut; first | rw [if_pos (Decidable.not_not.mp zc4)] | rw [if_neg zc4, if_pos (Decidable.not_not.mp zc15)] | rw [if_neg zc4, if_neg zc15], rfl⟩
  · refine gR.steps 2 (σ, (9, [some (.ref (70 + s)), some (.int v)], [.int ((Int32.toInt8 v).toInt32)])) rfl ?_
    show gR _ _ _ σ (9, [some (.ref (70 + s)), some (.int v)], [.int ((Int32.toInt8 v).toInt32)])
    refine gR.ret rfl ?_
    exact ⟨trivial, by unfold xCut; first | rw [if_pos (Decidable.not_not.mp zc4)] | rw [if_neg zc4, if_pos (Decidable.not_not.mp zc15)] | rw [if_neg zc4, if_neg zc15], rfl⟩
theorem s_X8_put {d : Nat} (hd : 2 ≤ d) (σ : gS) (s i z : Nat) (v : Int32) (hs4 : s < 4) (hz : σ (70 + s) 2 = nI z) (hz60 : z ≤ 60) (hi : i < z) : gC d 36 [.ref (70 + s), .int (nI i), .int v] σ (fun r τ => r = none ∧ τ = gUp σ (74 + s) i (xCut (σ (70 + s) 1) v)) := by
  obtain ⟨d, rfl⟩ : ∃ k, d = k + 1 := ⟨d - 1, by omega⟩
  refine gC.of (P := pX8_put) (nL := 3) (rt := none) (lv := [some (.ref (70 + s)), some (.int (nI i)), some (.int v)]) (by decide +kernel) rfl rfl rfl (by simp [gEnt, Value.category]) rfl ?_
  refine gR.steps 3 (σ, (3, [some (.ref (70 + s)), some (.int (nI i)), some (.int v)], [.int 1, .int (nI i), .ref (70 + s)])) rfl ?_
  refine gR.callp (gStep_callV rfl rfl (gSh_sheet (j := s) hs4) rfl) (s_X8_hasItems (by omega) σ s (nI i) 1 z hs4 hz hz60) ?_
  refine gR.brF rfl (by rw [bI_eq0]; exact Decidable.not_not.mpr ⟨by rw [nI_toInt (by omega)]; omega, by decide, by rw [nI_toInt (by omega), show Int32.toInt 1 = 1 from rfl]; omega⟩) ?_
  refine gR.steps 1 (σ, (10, [some (.ref (70 + s)), some (.int (nI i)), some (.int v)], [.ref (70 + s)])) rfl ?_
  refine gR.getR rfl (gSh_sheet (j := s) hs4) rfl ?_
  show gR _ _ _ σ (13, [some (.ref (70 + s)), some (.int (nI i)), some (.int v)], [.ref (74 + s)])
  refine gR.steps 3 (σ, (16, [some (.ref (70 + s)), some (.int (nI i)), some (.int v)], [.int v, .ref (70 + s), .int (nI i), .ref (74 + s)])) rfl ?_
  refine gR.callp (gStep_callV rfl rfl (gSh_sheet (j := s) hs4) rfl) (s_X8_narrowed (by omega) σ s v hs4) ?_
  refine gR.astq (i := nI i) (j := i) rfl (gSh_items (j := s) hs4) rfl (by omega) (by omega) ?_
  show gR _ _ _ (gUp σ (74 + s) i (xCut (σ (70 + s) 1) v)) (20, [some (.ref (70 + s)), some (.int (nI i)), some (.int v)], [])
  show gR _ _ _ (gUp σ (74 + s) i (xCut (σ (70 + s) 1) v)) (20, [some (.ref (70 + s)), some (.int (nI i)), some (.int v)], [])
  refine gR.ret rfl ?_
  exact ⟨trivial, rfl, rfl⟩
theorem s_X10_findingOfItem {d : Nat} (hd : 2 ≤ d) (σ : gS) (H : xShe) (s : Nat) (f i : Int32) (hs : cSh σ H) (hs4 : s < 4) : gC d 102 [.ref (70 + s), .int f, .int i] σ (fun r τ => r = some (.int (nI (xLack H s f i))) ∧ τ = σ) := by
  obtain ⟨d, rfl⟩ : ∃ k, d = k + 1 := ⟨d - 1, by omega⟩
  refine gC.of (P := pX10_findingOfItem) (nL := 3) (rt := (some (.int))) (lv := [some (.ref (70 + s)), some (.int f), some (.int i)]) (by decide +kernel) rfl rfl rfl (by simp [gEnt, Value.category]) rfl ?_
  refine gR.steps 1 (σ, (1, [some (.ref (70 + s)), some (.int f), some (.int i)], [.ref (70 + s)])) rfl ?_
  refine gR.callp (x := .int (bI (shF H s = -1))) (gStep_callV rfl rfl (gSh_sheet (j := s) hs4) rfl) (by have := s_X8_isLost (d := d) (by omega) σ s hs4; rw [(hs s hs4).1] at this; exact this) ?_
  refine gR.ifte rfl (fun zc4 => ?_) (fun zc4 => ?_)
  · rw [bI_eq0] at zc4
    refine gR.steps 1 (σ, (10, [some (.ref (70 + s)), some (.int f), some (.int i)], [.ref (70 + s)])) rfl ?_
    refine gR.getI rfl (gSh_sheet (j := s) hs4) rfl ?_
    show gR _ _ _ σ (13, [some (.ref (70 + s)), some (.int f), some (.int i)], [.int (σ (70 + s) 1)])
    refine gR.steps 1 (σ, (14, [some (.ref (70 + s)), some (.int f), some (.int i)], [.int f, .int (σ (70 + s) 1)])) rfl ?_
    refine gR.ifte rfl (fun zc14 => ?_) (fun zc14 => ?_)
    · refine gR.steps 3 (σ, (22, [some (.ref (70 + s)), some (.int f), some (.int i)], [.int 1, .int i, .ref (70 + s)])) rfl ?_
      refine gR.callp (gStep_callV rfl rfl (gSh_sheet (j := s) hs4) rfl) (s_X8_hasItems (by omega) σ s i 1 (shZ H s) hs4 ((hs s hs4).2.2.2.2 zc4).1 (hs s hs4).2.2.1) ?_
      refine gR.ifte rfl (fun zc25 => ?_) (fun zc25 => ?_)
      · rw [bI_eq0] at zc25
        refine gR.steps 1 (σ, (33, [some (.ref (70 + s)), some (.int f), some (.int i)], [.int 2])) rfl ?_
        show gR _ _ _ σ (33, [some (.ref (70 + s)), some (.int f), some (.int i)], [.int 2])
        refine gR.ret rfl ?_
        have hfe : shF H s = f := (hs s hs4).1.symm.trans zc14
        have o1 : (1 : Int32).toInt = 1 := rfl
        exact ⟨trivial, gSomeI (congrArg nI (a₁ := 2) (by unfold xLack; rw [if_neg zc4, if_neg (fun z => z hfe), if_neg (by omega)])), rfl⟩
      · rw [bI_eq0, Decidable.not_not] at zc25
        refine gR.steps 2 (σ, (33, [some (.ref (70 + s)), some (.int f), some (.int i)], [.int 0])) rfl ?_
        show gR _ _ _ σ (33, [some (.ref (70 + s)), some (.int f), some (.int i)], [.int 0])
        refine gR.ret rfl ?_
        have hfe : shF H s = f := (hs s hs4).1.symm.trans zc14
        have o1 : (1 : Int32).toInt = 1 := rfl
        exact ⟨trivial, gSomeI (congrArg nI (a₁ := 0) (by unfold xLack; rw [if_neg zc4, if_neg (fun z => z hfe), if_pos (by omega)])), rfl⟩
    · refine gR.steps 1 (σ, (18, [some (.ref (70 + s)), some (.int f), some (.int i)], [.int 3])) rfl ?_
      show gR _ _ _ σ (18, [some (.ref (70 + s)), some (.int f), some (.int i)], [.int 3])
      refine gR.ret rfl ?_
      exact ⟨trivial, gSomeI (congrArg nI (a₁ := 3) (by unfold xLack; rw [if_neg zc4, if_pos (fun z => zc14 ((hs s hs4).1.trans z))])), rfl⟩
  · rw [bI_eq0, Decidable.not_not] at zc4
    refine gR.steps 1 (σ, (8, [some (.ref (70 + s)), some (.int f), some (.int i)], [.int 1])) rfl ?_
    show gR _ _ _ σ (8, [some (.ref (70 + s)), some (.int f), some (.int i)], [.int 1])
    refine gR.ret rfl ?_
    exact ⟨trivial, gSomeI (congrArg nI (a₁ := 1) (by unfold xLack; rw [if_pos zc4])), rfl⟩
