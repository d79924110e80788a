theorem xFst_ge {g : Nat → Bool} : ∀ {n : Nat}, n ≤ xFst g n → ∀ j, j < n → g j = true
  | 0, _, j, hj => absurd hj (Nat.not_lt_zero j)
  | n + 1, h, j, hj => by
    simp only [xFst] at h
    split at h
    next h1 => omega
    next h1 =>
      split at h
      next h2 =>
        by_cases e : j = n
        · rw [e]; exact h2
        · exact xFst_ge (n := n) (by omega) j (by omega)
      next => omega
theorem xNI_lt4 {n k : Nat} {g : Nat → Bool} (h : k < xNI 4 g n) : 4 * k + 2 < n ∧ ∀ j, j < n → g j = true := by
  unfold xNI at h
  split at h
  · omega
  next h1 =>
    split at h
    next h2 => exact ⟨by omega, xFst_ge (by omega)⟩
    next => omega
theorem xNI_lt3 {n k : Nat} {g : Nat → Bool} (h : k < xNI 3 g n) : 3 * k + 1 < n ∧ ∀ j, j < n → g j = true := by
  unfold xNI at h
  split at h
  · omega
  next h1 =>
    split at h
    next h2 => exact ⟨by omega, xFst_ge (by omega)⟩
    next => omega
theorem dBu_at {D : xDat} {k : Nat} (h : k < dNb D) : 4 * k + 2 < dN0 D ∧ (99 ≤ dC0 D (4 * k) ∧ dC0 D (4 * k) ≤ 101) ∧ (97 ≤ dC0 D (4 * k + 1) ∧ dC0 D (4 * k + 1) ≤ 108) ∧ (49 ≤ dC0 D (4 * k + 2) ∧ dC0 D (4 * k + 2) ≤ 57) := by
  obtain ⟨h1, h2⟩ := xNI_lt4 h
  refine ⟨h1, ?_, ?_, ?_⟩
  · rw [xV0_s0]; have := h2 (4 * k) (by omega); unfold xG0 at this; rw [show 4 * k % 4 = 0 by omega] at this; exact this
  · rw [xV0_s1]; have := h2 (4 * k + 1) (by omega); unfold xG0 at this; rw [show (4 * k + 1) % 4 = 1 by omega] at this; exact this
  · rw [xV0_s2]; have := h2 (4 * k + 2) (by omega); unfold xG0 at this; rw [show (4 * k + 2) % 4 = 2 by omega] at this; exact this
theorem dLo_at {D : xDat} {k : Nat} (h : k < dNl D) : 3 * k + 1 < dN1 D ∧ (97 ≤ dC1 D (3 * k) ∧ dC1 D (3 * k) ≤ 120) ∧ (48 ≤ dC1 D (3 * k + 1) ∧ dC1 D (3 * k + 1) ≤ 57) := by
  obtain ⟨h1, h2⟩ := xNI_lt3 h
  refine ⟨h1, ?_, ?_⟩
  · rw [xV1_s0]; have := h2 (3 * k) (by omega); unfold xG1 at this; rw [show 3 * k % 3 = 0 by omega] at this; exact this
  · rw [xV1_s1]; have := h2 (3 * k + 1) (by omega); unfold xG1 at this; rw [show (3 * k + 1) % 3 = 1 by omega] at this; exact this
theorem dKd_tab : ∀ c, c < 3 → ([0, 2, 1] : List Int32).getD c 0 = nI ((xV0 0 (c + 99)).getD 0) := by decide +kernel
theorem dKd_eq {D : xDat} {k : Nat} (h : k < dNb D) : ([0, 2, 1] : List Int32).getD (dC0 D (4 * k) - 99) 0 = nI (dKd D k) := by
  have h1 := dBu_at h
  rw [dKd_tab (dC0 D (4 * k) - 99) (by omega), show dC0 D (4 * k) - 99 + 99 = dC0 D (4 * k) by omega]; rfl
theorem dKd_lt {D : xDat} {k : Nat} (h : k < dNb D) : dKd D k < 3 := by
  have h1 := (dBu_at h).2.1
  have ht : ∀ c, c < 3 → (xV0 0 (c + 99)).getD 0 < 3 := by decide +kernel
  have := ht (dC0 D (4 * k) - 99) (by omega)
  rw [show dC0 D (4 * k) - 99 + 99 = dC0 D (4 * k) by omega] at this; exact this
theorem dBg_eq {D : xDat} {k : Nat} (h : k < dNb D) : dBg D k = dC0 D (4 * k + 1) - 97 := by
  show (xV0 1 _).getD 0 = _
  rw [xV0_1, if_pos (dBu_at h).2.2.1]; rfl
theorem dBg_lt {D : xDat} {k : Nat} (h : k < dNb D) : dBg D k < 12 := by
  have := (dBu_at h).2.2.1
  rw [dBg_eq h]; omega
theorem dSp_eq {D : xDat} {k : Nat} (h : k < dNb D) : dSp D k = dC0 D (4 * k + 2) - 48 := by
  show (xV0 2 _).getD 0 = _
  rw [xV0_2, if_pos (dBu_at h).2.2.2]; rfl
theorem dSp_lt {D : xDat} {k : Nat} (h : k < dNb D) : 1 ≤ dSp D k ∧ dSp D k < 10 := by
  have := (dBu_at h).2.2.2
  rw [dSp_eq h]; omega
theorem dLm_eq {D : xDat} {k : Nat} (h : k < dNl D) : dLm D k = dC1 D (3 * k) - 97 := by
  show (xV1 0 _).getD 0 = _
  rw [xV1_0, if_pos (dLo_at h).2.1]; rfl
theorem dLm_lt {D : xDat} {k : Nat} (h : k < dNl D) : dLm D k < 24 := by
  have := (dLo_at h).2.1
  rw [dLm_eq h]; omega
theorem dLb_eq {D : xDat} {k : Nat} (h : k < dNl D) : dLb D k = dC1 D (3 * k + 1) - 48 := by
  show (xV1 1 _).getD 0 = _
  rw [xV1_1, if_pos (dLo_at h).2.2]; rfl
theorem dLb_lt {D : xDat} {k : Nat} (h : k < dNl D) : dLb D k < 10 := by
  have := (dLo_at h).2.2
  rw [dLb_eq h]; omega
theorem s_X0_size {d : Nat} (hd : 1 ≤ d) (σ : gS) (D : xDat) (hT : cT0 σ (dN0 D) (dC0 D)) : gC d 0 [.ref 21] σ (fun r τ => r = some (.int (nI (dNb D))) ∧ τ = σ) := by
  obtain ⟨d, rfl⟩ : ∃ k, d = k + 1 := ⟨d - 1, by omega⟩
  refine gC.of (P := pX0_size) (nL := 1) (rt := (some (.int))) (lv := [some (.ref 21)]) (by decide +kernel) rfl rfl rfl (by simp [gEnt, Value.category]) rfl ?_
  refine gR.steps 3 (σ, (7, [some (.ref 21)], [.int (σ 22 7)])) rfl ?_
  refine gR.topI (y := nI (dNb D)) hT.2.2 ?_
  refine gR.ret rfl ?_
  exact ⟨trivial, rfl, rfl⟩
theorem s_X0_has {d : Nat} (hd : 1 ≤ d) (σ : gS) (D : xDat) (b : Int32) (hT : cT0 σ (dN0 D) (dC0 D)) : gC d 1 [.ref 21, .int b] σ (fun r τ => r = some (.int (bI (0 ≤ b.toInt ∧ b.toInt < dNb D))) ∧ τ = σ) := by
  obtain ⟨d, rfl⟩ : ∃ k, d = k + 1 := ⟨d - 1, by omega⟩
  refine gC.of (P := pX0_has) (nL := 2) (rt := (some (.boolean))) (lv := [some (.ref 21), some (.int b)]) (by decide +kernel) rfl rfl rfl (by simp [gEnt, Value.category]) rfl ?_
  have hnb := dNb_le D hT.1.2.2.2.1
  refine gR.steps 1 (σ, (1, [some (.ref 21), some (.int b)], [.int b])) rfl ?_
  refine gR.ifte rfl (fun zc1 => ?_) (fun zc1 => ?_)
  · rw [Int32.lt_iff_toInt_lt, show (0 : Int32).toInt = 0 from rfl] at zc1
    refine gR.steps 1 (σ, (20, [some (.ref 21), some (.int b)], [.int 0])) rfl ?_
    refine gR.ret rfl ?_
    exact ⟨gOk0, by rw [bI_f (by omega)], rfl⟩
  · rw [Int32.lt_iff_toInt_lt, show (0 : Int32).toInt = 0 from rfl] at zc1
    refine gR.steps 4 (σ, (12, [some (.ref 21), some (.int b)], [.int (σ 22 7), .int b])) rfl ?_
    refine gR.topI (y := nI (dNb D)) hT.2.2 ?_
    refine gR.ifte rfl (fun zc12 => ?_) (fun zc12 => ?_)
    · rw [Int32.le_iff_toInt_le, nI_toInt (by omega)] at zc12
      refine gR.steps 1 (σ, (20, [some (.ref 21), some (.int b)], [.int 0])) rfl ?_
      refine gR.ret rfl ?_
      exact ⟨gOk0, by rw [bI_f (by omega)], rfl⟩
    · rw [Int32.le_iff_toInt_le, nI_toInt (by omega)] at zc12
      refine gR.steps 2 (σ, (20, [some (.ref 21), some (.int b)], [.int 1])) rfl ?_
      refine gR.ret rfl ?_
      exact ⟨gOk1, by rw [bI_t (by omega)], rfl⟩
theorem s_X4_size {d : Nat} (hd : 1 ≤ d) (σ : gS) (D : xDat) (hT : cT1 σ (dN1 D) (dC1 D)) : gC d 16 [.ref 24] σ (fun r τ => r = some (.int (nI (dNl D))) ∧ τ = σ) := by
  obtain ⟨d, rfl⟩ : ∃ k, d = k + 1 := ⟨d - 1, by omega⟩
  refine gC.of (P := pX4_size) (nL := 1) (rt := (some (.int))) (lv := [some (.ref 24)]) (by decide +kernel) rfl rfl rfl (by simp [gEnt, Value.category]) rfl ?_
  refine gR.steps 3 (σ, (7, [some (.ref 24)], [.int (σ 25 7)])) rfl ?_
  refine gR.topI (y := nI (dNl D)) hT.2.2 ?_
  refine gR.ret rfl ?_
  exact ⟨trivial, rfl, rfl⟩
theorem s_X4_has {d : Nat} (hd : 1 ≤ d) (σ : gS) (D : xDat) (b : Int32) (hT : cT1 σ (dN1 D) (dC1 D)) : gC d 17 [.ref 24, .int b] σ (fun r τ => r = some (.int (bI (0 ≤ b.toInt ∧ b.toInt < dNl D))) ∧ τ = σ) := by
  obtain ⟨d, rfl⟩ : ∃ k, d = k + 1 := ⟨d - 1, by omega⟩
  refine gC.of (P := pX4_has) (nL := 2) (rt := (some (.boolean))) (lv := [some (.ref 24), some (.int b)]) (by decide +kernel) rfl rfl rfl (by simp [gEnt, Value.category]) rfl ?_
  have hnb := dNl_le D hT.1.2.2.2.1
  refine gR.steps 1 (σ, (1, [some (.ref 24), some (.int b)], [.int b])) rfl ?_
  refine gR.ifte rfl (fun zc1 => ?_) (fun zc1 => ?_)
  · rw [Int32.lt_iff_toInt_lt, show (0 : Int32).toInt = 0 from rfl] at zc1
    refine gR.steps 1 (σ, (20, [some (.ref 24), some (.int b)], [.int 0])) rfl ?_
    refine gR.ret rfl ?_
    exact ⟨gOk0, by rw [bI_f (by omega)], rfl⟩
  · rw [Int32.lt_iff_toInt_lt, show (0 : Int32).toInt = 0 from rfl] at zc1
    refine gR.steps 4 (σ, (12, [some (.ref 24), some (.int b)], [.int (σ 25 7), .int b])) rfl ?_
    refine gR.topI (y := nI (dNl D)) hT.2.2 ?_
    refine gR.ifte rfl (fun zc12 => ?_) (fun zc12 => ?_)
    · rw [Int32.le_iff_toInt_le, nI_toInt (by omega)] at zc12
      refine gR.steps 1 (σ, (20, [some (.ref 24), some (.int b)], [.int 0])) rfl ?_
      refine gR.ret rfl ?_
      exact ⟨gOk0, by rw [bI_f (by omega)], rfl⟩
    · rw [Int32.le_iff_toInt_le, nI_toInt (by omega)] at zc12
      refine gR.steps 2 (σ, (20, [some (.ref 24), some (.int b)], [.int 1])) rfl ?_
      refine gR.ret rfl ?_
      exact ⟨gOk1, by rw [bI_t (by omega)], rfl⟩
theorem s_X0_kindOf {d : Nat} (hd : 2 ≤ d) (σ : gS) (D : xDat) (k : Nat) (hT : cT0 σ (dN0 D) (dC0 D)) (hk : k < dNb D) : gC d 2 [.ref 21, .int (nI k)] σ (fun r τ => r = some (.int (nI (dKd D k))) ∧ τ = σ) := by
  obtain ⟨d, rfl⟩ : ∃ k, d = k + 1 := ⟨d - 1, by omega⟩
  refine gC.of (P := pX0_kindOf) (nL := 2) (rt := (some (.int))) (lv := [some (.ref 21), some (.int (nI k))]) (by decide +kernel) rfl rfl rfl (by simp [gEnt, Value.category]) rfl ?_
  have hat := dBu_at hk
  have hn := hT.1.2.2.2.1
  have hnb := dNb_le D hn
  refine gR.steps 2 (σ, (2, [some (.ref 21), some (.int (nI k))], [.int (nI k), .ref 21])) rfl ?_
  refine gR.callp rfl (s_X0_has (by omega) σ D (nI k) hT) ?_
  refine gR.brF rfl (by rw [bI_eq0]; exact Decidable.not_not.mpr ⟨by rw [nI_toInt (by omega)]; omega, by rw [nI_toInt (by omega)]; omega⟩) ?_
  refine gR.steps 7 (σ, (21, [some (.ref 21), some (.int (nI k))], [.int (4 * (nI k)), .ref 23, .ref 1004])) rfl ?_
  refine gR.ald (i := 4 * (nI k)) (j := 4 * k) (N := 39) (g := σ 23) rfl (gN_mul rfl rfl) (by omega) (by omega) ?_
  refine gR.topI (y := nI (dC0 D (4 * k))) (hT.1.2.2.2.2 (4 * k) (by omega)).1 ?_
  refine gR.steps 2 (σ, (25, [some (.ref 21), some (.int (nI k))], [.int ((nI (dC0 D (4 * k))) - 99), .ref 1004])) rfl ?_
  refine gR.ald (i := (nI (dC0 D (4 * k))) - 99) (j := dC0 D (4 * k) - 99) (N := 3) (g := (fun i => ([0, 2, 1] : List Int32).getD i 0)) rfl (gN_sub rfl rfl (by omega)) (by omega) (by omega) ?_
  refine gR.steps 1 (σ, (30, [some (.ref 21), some (.int (nI k))], [.int (([0, 2, 1] : List Int32).getD (dC0 D (4 * k) - 99) 0)])) rfl ?_
  refine gR.ret rfl ?_
  exact ⟨trivial, gSomeI (dKd_eq hk), rfl⟩
theorem s_X0_beginOf {d : Nat} (hd : 2 ≤ d) (σ : gS) (D : xDat) (k : Nat) (hT : cT0 σ (dN0 D) (dC0 D)) (hk : k < dNb D) : gC d 3 [.ref 21, .int (nI k)] σ (fun r τ => r = some (.int (nI (dBg D k))) ∧ τ = σ) := by
  obtain ⟨d, rfl⟩ : ∃ k, d = k + 1 := ⟨d - 1, by omega⟩
  refine gC.of (P := pX0_beginOf) (nL := 2) (rt := (some (.int))) (lv := [some (.ref 21), some (.int (nI k))]) (by decide +kernel) rfl rfl rfl (by simp [gEnt, Value.category]) rfl ?_
  have hat := dBu_at hk
  have hn := hT.1.2.2.2.1
  have hnb := dNb_le D hn
  refine gR.steps 2 (σ, (2, [some (.ref 21), some (.int (nI k))], [.int (nI k), .ref 21])) rfl ?_
  refine gR.callp rfl (s_X0_has (by omega) σ D (nI k) hT) ?_
  refine gR.brF rfl (by rw [bI_eq0]; exact Decidable.not_not.mpr ⟨by rw [nI_toInt (by omega)]; omega, by rw [nI_toInt (by omega)]; omega⟩) ?_
  refine gR.steps 8 (σ, (20, [some (.ref 21), some (.int (nI k))], [.int ((4 * (nI k)) + 1), .ref 23])) rfl ?_
  refine gR.ald (i := (4 * (nI k)) + 1) (j := 4 * k + 1) (N := 39) (g := σ 23) rfl (gN_add (gN_mul rfl rfl) rfl) (by omega) (by omega) ?_
  refine gR.topI (y := nI (dC0 D (4 * k + 1))) (hT.1.2.2.2.2 (4 * k + 1) (by omega)).1 ?_
  refine gR.steps 3 (σ, (28, [some (.ref 21), some (.int (nI k))], [.int ((nI (dC0 D (4 * k + 1))) - 97)])) rfl ?_
  refine gR.ret rfl ?_
  exact ⟨trivial, gSomeI ((gN_sub (b := 97) rfl rfl (by omega)).trans (congrArg nI (dBg_eq hk).symm)), rfl⟩
theorem s_X0_sparksOf {d : Nat} (hd : 2 ≤ d) (σ : gS) (D : xDat) (k : Nat) (hT : cT0 σ (dN0 D) (dC0 D)) (hk : k < dNb D) : gC d 4 [.ref 21, .int (nI k)] σ (fun r τ => r = some (.int (nI (dSp D k))) ∧ τ = σ) := by
  obtain ⟨d, rfl⟩ : ∃ k, d = k + 1 := ⟨d - 1, by omega⟩
  refine gC.of (P := pX0_sparksOf) (nL := 2) (rt := (some (.int))) (lv := [some (.ref 21), some (.int (nI k))]) (by decide +kernel) rfl rfl rfl (by simp [gEnt, Value.category]) rfl ?_
  have hat := dBu_at hk
  have hn := hT.1.2.2.2.1
  have hnb := dNb_le D hn
  refine gR.steps 2 (σ, (2, [some (.ref 21), some (.int (nI k))], [.int (nI k), .ref 21])) rfl ?_
  refine gR.callp rfl (s_X0_has (by omega) σ D (nI k) hT) ?_
  refine gR.brF rfl (by rw [bI_eq0]; exact Decidable.not_not.mpr ⟨by rw [nI_toInt (by omega)]; omega, by rw [nI_toInt (by omega)]; omega⟩) ?_
  refine gR.steps 8 (σ, (20, [some (.ref 21), some (.int (nI k))], [.int ((4 * (nI k)) + 2), .ref 23])) rfl ?_
  refine gR.ald (i := (4 * (nI k)) + 2) (j := 4 * k + 2) (N := 39) (g := σ 23) rfl (gN_add (gN_mul rfl rfl) rfl) (by omega) (by omega) ?_
  refine gR.topI (y := nI (dC0 D (4 * k + 2))) (hT.1.2.2.2.2 (4 * k + 2) (by omega)).1 ?_
  refine gR.steps 3 (σ, (28, [some (.ref 21), some (.int (nI k))], [.int ((nI (dC0 D (4 * k + 2))) - 48)])) rfl ?_
  refine gR.ret rfl ?_
  exact ⟨trivial, gSomeI ((gN_sub (b := 48) rfl rfl (by omega)).trans (congrArg nI (dSp_eq hk).symm)), rfl⟩
theorem s_X4_monthOf {d : Nat} (hd : 2 ≤ d) (σ : gS) (D : xDat) (k : Nat) (hT : cT1 σ (dN1 D) (dC1 D)) (hk : k < dNl D) : gC d 18 [.ref 24, .int (nI k)] σ (fun r τ => r = some (.int (nI (dLm D k))) ∧ τ = σ) := by
  obtain ⟨d, rfl⟩ : ∃ k, d = k + 1 := ⟨d - 1, by omega⟩
  refine gC.of (P := pX4_monthOf) (nL := 2) (rt := (some (.int))) (lv := [some (.ref 24), some (.int (nI k))]) (by decide +kernel) rfl rfl rfl (by simp [gEnt, Value.category]) rfl ?_
  have hat := dLo_at hk
  have hn := hT.1.2.2.2.1
  have hnb := dNl_le D hn
  refine gR.steps 2 (σ, (2, [some (.ref 24), some (.int (nI k))], [.int (nI k), .ref 24])) rfl ?_
  refine gR.callp rfl (s_X4_has (by omega) σ D (nI k) hT) ?_
  refine gR.brF rfl (by rw [bI_eq0]; exact Decidable.not_not.mpr ⟨by rw [nI_toInt (by omega)]; omega, by rw [nI_toInt (by omega)]; omega⟩) ?_
  refine gR.steps 6 (σ, (18, [some (.ref 24), some (.int (nI k))], [.int (3 * (nI k)), .ref 26])) rfl ?_
  refine gR.ald (i := 3 * (nI k)) (j := 3 * k) (N := 35) (g := σ 26) rfl (gN_mul rfl rfl) (by omega) (by omega) ?_
  refine gR.topI (y := nI (dC1 D (3 * k))) (hT.1.2.2.2.2 (3 * k) (by omega)).1 ?_
  refine gR.steps 3 (σ, (26, [some (.ref 24), some (.int (nI k))], [.int ((nI (dC1 D (3 * k))) - 97)])) rfl ?_
  refine gR.ret rfl ?_
  exact ⟨trivial, gSomeI ((gN_sub (b := 97) rfl rfl (by omega)).trans (congrArg nI (dLm_eq hk).symm)), rfl⟩
theorem s_X4_bushOf {d : Nat} (hd : 2 ≤ d) (σ : gS) (D : xDat) (k : Nat) (hT : cT1 σ (dN1 D) (dC1 D)) (hk : k < dNl D) : gC d 19 [.ref 24, .int (nI k)] σ (fun r τ => r = some (.int (nI (dLb D k))) ∧ τ = σ) := by
  obtain ⟨d, rfl⟩ : ∃ k, d = k + 1 := ⟨d - 1, by omega⟩
  refine gC.of (P := pX4_bushOf) (nL := 2) (rt := (some (.int))) (lv := [some (.ref 24), some (.int (nI k))]) (by decide +kernel) rfl rfl rfl (by simp [gEnt, Value.category]) rfl ?_
  have hat := dLo_at hk
  have hn := hT.1.2.2.2.1
  have hnb := dNl_le D hn
  refine gR.steps 2 (σ, (2, [some (.ref 24), some (.int (nI k))], [.int (nI k), .ref 24])) rfl ?_
  refine gR.callp rfl (s_X4_has (by omega) σ D (nI k) hT) ?_
  refine gR.brF rfl (by rw [bI_eq0]; exact Decidable.not_not.mpr ⟨by rw [nI_toInt (by omega)]; omega, by rw [nI_toInt (by omega)]; omega⟩) ?_
  refine gR.steps 8 (σ, (20, [some (.ref 24), some (.int (nI k))], [.int ((3 * (nI k)) + 1), .ref 26])) rfl ?_
  refine gR.ald (i := (3 * (nI k)) + 1) (j := 3 * k + 1) (N := 35) (g := σ 26) rfl (gN_add (gN_mul rfl rfl) rfl) (by omega) (by omega) ?_
  refine gR.topI (y := nI (dC1 D (3 * k + 1))) (hT.1.2.2.2.2 (3 * k + 1) (by omega)).1 ?_
  refine gR.steps 3 (σ, (28, [some (.ref 24), some (.int (nI k))], [.int ((nI (dC1 D (3 * k + 1))) - 48)])) rfl ?_
  refine gR.ret rfl ?_
  exact ⟨trivial, gSomeI ((gN_sub (b := 48) rfl rfl (by omega)).trans (congrArg nI (dLb_eq hk).symm)), rfl⟩
theorem tgt_b {w : Int32} (h : ¬ (0 ≤ w.toInt ∧ w.toInt ≤ 2)) : gTgt 0 [40, 49, 58] 67 w = 67 := by
  unfold gTgt
  by_cases h0 : w.toInt < 0
  · rw [if_pos h0]
  · rw [if_neg h0]
    have : gAt [40, 49, 58] (w.toInt - 0).toNat = none := by
      obtain ⟨k, hk⟩ : ∃ k, (w.toInt - 0).toNat = k + 3 := ⟨(w.toInt - 0).toNat - 3, by omega⟩
      rw [hk]; rfl
    rw [this]
theorem three_of {t : Int32} (h : 0 ≤ t.toInt ∧ t.toInt ≤ 2) : t = 0 ∨ t = 1 ∨ t = 2 := by
  rcases (show t.toInt = 0 ∨ t.toInt = 1 ∨ t.toInt = 2 by omega) with z | z | z
  · exact Or.inl (Int32.toInt_inj.mp (by rw [z]; decide))
  · exact Or.inr (Or.inl (Int32.toInt_inj.mp (by rw [z]; decide)))
  · exact Or.inr (Or.inr (Int32.toInt_inj.mp (by rw [z]; decide)))
theorem s_X10_bush0 {d : Nat} (hd : 3 ≤ d) (σ : gS) (D : xDat) (k : Int32) (hs : cSt σ D) : gC d 48 [.ref 18, .int k, .int 0] σ (fun r τ => r = some (.int (aBush D k 0)) ∧ τ = σ) := by
  obtain ⟨d, rfl⟩ : ∃ k, d = k + 1 := ⟨d - 1, by omega⟩
  refine gC.of (P := pX10_bush) (nL := 3) (rt := (some (.int))) (lv := [some (.ref 18), some (.int k), some (.int 0)]) (by decide +kernel) rfl rfl rfl (by simp [gEnt, Value.category]) rfl ?_
  have hnb := dNb_le D hs.1.1.2.2.2.1
  refine gR.steps 3 (σ, (5, [some (.ref 18), some (.int k), some (.int 0)], [.int k, .ref 21])) rfl ?_
  refine gR.callp rfl (s_X0_has (by omega) σ D k hs.1) ?_
  refine gR.ifte rfl (fun zc8 => ?_) (fun zc8 => ?_)
  · rw [bI_ne0] at zc8
    obtain ⟨kk, hkk, rfl⟩ := gN_of (x := k) (n := dNb D) (by omega) (by omega) (by omega)
    refine gR.steps 5 (σ, (45, [some (.ref 18), some (.int (nI kk)), some (.int 0)], [.int (nI kk), .ref 21])) rfl ?_
    refine gR.callp rfl (s_X0_kindOf (by omega) σ D kk hs.1 (by omega)) ?_
    refine gR.ret rfl ?_
    exact ⟨trivial, by rw [show aBush D (nI kk) 0 = _ from if_pos ⟨zc8, by decide⟩, nI_clamp (by omega)]; rfl, rfl⟩
  · rw [bI_ne0] at zc8
    refine gR.steps 1 (σ, (13, [some (.ref 18), some (.int k), some (.int 0)], [.int (-2)])) rfl ?_
    refine gR.ret rfl ?_
    exact ⟨trivial, by rw [show aBush D k 0 = -2 from if_neg (fun z => zc8 z.1)], rfl⟩
theorem s_X10_bush1 {d : Nat} (hd : 3 ≤ d) (σ : gS) (D : xDat) (k : Int32) (hs : cSt σ D) : gC d 48 [.ref 18, .int k, .int 1] σ (fun r τ => r = some (.int (aBush D k 1)) ∧ τ = σ) := by
  obtain ⟨d, rfl⟩ : ∃ k, d = k + 1 := ⟨d - 1, by omega⟩
  refine gC.of (P := pX10_bush) (nL := 3) (rt := (some (.int))) (lv := [some (.ref 18), some (.int k), some (.int 1)]) (by decide +kernel) rfl rfl rfl (by simp [gEnt, Value.category]) rfl ?_
  have hnb := dNb_le D hs.1.1.2.2.2.1
  refine gR.steps 3 (σ, (5, [some (.ref 18), some (.int k), some (.int 1)], [.int k, .ref 21])) rfl ?_
  refine gR.callp rfl (s_X0_has (by omega) σ D k hs.1) ?_
  refine gR.ifte rfl (fun zc8 => ?_) (fun zc8 => ?_)
  · rw [bI_ne0] at zc8
    obtain ⟨kk, hkk, rfl⟩ := gN_of (x := k) (n := dNb D) (by omega) (by omega) (by omega)
    refine gR.steps 5 (σ, (54, [some (.ref 18), some (.int (nI kk)), some (.int 1)], [.int (nI kk), .ref 21])) rfl ?_
    refine gR.callp rfl (s_X0_beginOf (by omega) σ D kk hs.1 (by omega)) ?_
    refine gR.ret rfl ?_
    exact ⟨trivial, by rw [show aBush D (nI kk) 1 = _ from if_pos ⟨zc8, by decide⟩, nI_clamp (by omega)]; rfl, rfl⟩
  · rw [bI_ne0] at zc8
    refine gR.steps 1 (σ, (13, [some (.ref 18), some (.int k), some (.int 1)], [.int (-2)])) rfl ?_
    refine gR.ret rfl ?_
    exact ⟨trivial, by rw [show aBush D k 1 = -2 from if_neg (fun z => zc8 z.1)], rfl⟩
theorem s_X10_bush2 {d : Nat} (hd : 3 ≤ d) (σ : gS) (D : xDat) (k : Int32) (hs : cSt σ D) : gC d 48 [.ref 18, .int k, .int 2] σ (fun r τ => r = some (.int (aBush D k 2)) ∧ τ = σ) := by
  obtain ⟨d, rfl⟩ : ∃ k, d = k + 1 := ⟨d - 1, by omega⟩
  refine gC.of (P := pX10_bush) (nL := 3) (rt := (some (.int))) (lv := [some (.ref 18), some (.int k), some (.int 2)]) (by decide +kernel) rfl rfl rfl (by simp [gEnt, Value.category]) rfl ?_
  have hnb := dNb_le D hs.1.1.2.2.2.1
  refine gR.steps 3 (σ, (5, [some (.ref 18), some (.int k), some (.int 2)], [.int k, .ref 21])) rfl ?_
  refine gR.callp rfl (s_X0_has (by omega) σ D k hs.1) ?_
  refine gR.ifte rfl (fun zc8 => ?_) (fun zc8 => ?_)
  · rw [bI_ne0] at zc8
    obtain ⟨kk, hkk, rfl⟩ := gN_of (x := k) (n := dNb D) (by omega) (by omega) (by omega)
    refine gR.steps 5 (σ, (63, [some (.ref 18), some (.int (nI kk)), some (.int 2)], [.int (nI kk), .ref 21])) rfl ?_
    refine gR.callp rfl (s_X0_sparksOf (by omega) σ D kk hs.1 (by omega)) ?_
    refine gR.ret rfl ?_
    exact ⟨trivial, by rw [show aBush D (nI kk) 2 = _ from if_pos ⟨zc8, by decide⟩, nI_clamp (by omega)]; rfl, rfl⟩
  · rw [bI_ne0] at zc8
    refine gR.steps 1 (σ, (13, [some (.ref 18), some (.int k), some (.int 2)], [.int (-2)])) rfl ?_
    refine gR.ret rfl ?_
    exact ⟨trivial, by rw [show aBush D k 2 = -2 from if_neg (fun z => zc8 z.1)], rfl⟩
theorem s_X10_bushX {d : Nat} (hd : 3 ≤ d) (σ : gS) (D : xDat) (k w : Int32) (hs : cSt σ D) (hw : ¬ (0 ≤ w.toInt ∧ w.toInt ≤ 2)) : gC d 48 [.ref 18, .int k, .int w] σ (fun r τ => r = some (.int (aBush D k w)) ∧ τ = σ) := by
  obtain ⟨d, rfl⟩ : ∃ k, d = k + 1 := ⟨d - 1, by omega⟩
  refine gC.of (P := pX10_bush) (nL := 3) (rt := (some (.int))) (lv := [some (.ref 18), some (.int k), some (.int w)]) (by decide +kernel) rfl rfl rfl (by simp [gEnt, Value.category]) rfl ?_
  have hnb := dNb_le D hs.1.1.2.2.2.1
  refine gR.steps 3 (σ, (5, [some (.ref 18), some (.int k), some (.int w)], [.int k, .ref 21])) rfl ?_
  refine gR.callp rfl (s_X0_has (by omega) σ D k hs.1) ?_
  refine gR.ifte rfl (fun zc8 => ?_) (fun zc8 => ?_)
  · rw [bI_ne0] at zc8
    refine gR.steps 1 (σ, (15, [some (.ref 18), some (.int k), some (.int w)], [.int w])) rfl ?_
    refine gR.sw (t := 67) rfl (tgt_b hw) ?_
    refine gR.steps 1 (σ, (69, [some (.ref 18), some (.int k), some (.int w)], [.int (-2)])) rfl ?_
    refine gR.ret rfl ?_
    exact ⟨trivial, by rw [show aBush D k w = -2 from if_neg (fun z => hw z.2)], rfl⟩
  · rw [bI_ne0] at zc8
    refine gR.steps 1 (σ, (13, [some (.ref 18), some (.int k), some (.int w)], [.int (-2)])) rfl ?_
    refine gR.ret rfl ?_
    exact ⟨trivial, by rw [show aBush D k w = -2 from if_neg (fun z => hw z.2)], rfl⟩
theorem s_X10_bush {d : Nat} (hd : 3 ≤ d) (σ : gS) (D : xDat) (k w : Int32) (hs : cSt σ D) : gC d 48 [.ref 18, .int k, .int w] σ (fun r τ => r = some (.int (aBush D k w)) ∧ τ = σ) := by
  by_cases hw : 0 ≤ w.toInt ∧ w.toInt ≤ 2
  · rcases three_of hw with rfl | rfl | rfl
    · exact s_X10_bush0 hd σ D k hs
    · exact s_X10_bush1 hd σ D k hs
    · exact s_X10_bush2 hd σ D k hs
  · exact s_X10_bushX hd σ D k w hs hw
theorem s_X10_look {d : Nat} (hd : 3 ≤ d) (σ : gS) (D : xDat) (i w : Int32) (hs : cSt σ D) : gC d 49 [.ref 18, .int i, .int w] σ (fun r τ => r = some (.int (aLook D i w)) ∧ τ = σ) := by
  obtain ⟨d, rfl⟩ : ∃ k, d = k + 1 := ⟨d - 1, by omega⟩
  refine gC.of (P := pX10_look) (nL := 3) (rt := (some (.int))) (lv := [some (.ref 18), some (.int i), some (.int w)]) (by decide +kernel) rfl rfl rfl (by simp [gEnt, Value.category]) rfl ?_
  have hnl := dNl_le D hs.2.1.1.2.2.2.1
  refine gR.steps 3 (σ, (4, [some (.ref 18), some (.int i), some (.int w)], [.int 11, .int 0, .int i])) rfl ?_
  refine gR.callp rfl (s_X10_withinI (by omega) σ i 0 11 0 11 (by decide) (by decide)) ?_
  refine gR.ifte rfl (fun zc7 => ?_) (fun zc7 => ?_)
  · rw [bI_eq0] at zc7
    refine gR.steps 1 (σ, (21, [some (.ref 18), some (.int i), some (.int w)], [.int (-2)])) rfl ?_
    refine gR.ret rfl ?_
    exact ⟨trivial, by rw [show aLook D i w = -2 from if_neg (by omega)], rfl⟩
  · rw [bI_eq0, Decidable.not_not] at zc7
    obtain ⟨ii, hii, rfl⟩ := gN_of (x := i) (n := 12) (by omega) (by omega) (by omega)
    refine gR.steps 3 (σ, (13, [some (.ref 18), some (.int (nI ii)), some (.int w)], [.int 1, .int 0, .int w])) rfl ?_
    refine gR.callp rfl (s_X10_withinI (by omega) σ w 0 1 0 1 (by decide) (by decide)) ?_
    refine gR.ifte rfl (fun zc16 => ?_) (fun zc16 => ?_)
    · rw [bI_ne0] at zc16
      obtain ⟨ww, hww, rfl⟩ := gN_of (x := w) (n := 2) (by omega) (by omega) (by omega)
      refine gR.steps 3 (σ, (27, [some (.ref 18), some (.int (nI ii)), some (.int (nI ww))], [.ref 24, .int (nI ii)])) rfl ?_
      refine gR.callp rfl (s_X4_size (by omega) σ D hs.2.1) ?_
      refine gR.ifte rfl (fun zc30 => ?_) (fun zc30 => ?_)
      · rw [gN_lt (x := nI ii) (y := nI (dNl D)) (a := ii) (b := dNl D) rfl rfl (by omega) (by omega)] at zc30
        refine gR.steps 1 (σ, (36, [some (.ref 18), some (.int (nI ii)), some (.int (nI ww))], [.int (nI ww)])) rfl ?_
        refine gR.ifte rfl (fun zc36 => ?_) (fun zc36 => ?_)
        · rw [gN_eq (x := nI ww) (y := 0) (a := ww) (b := 0) rfl rfl (by omega) (by omega)] at zc36
          refine gR.steps 3 (σ, (55, [some (.ref 18), some (.int (nI ii)), some (.int (nI ww))], [.int (nI ii), .ref 24])) rfl ?_
          refine gR.callp rfl (s_X4_bushOf (by omega) σ D ii hs.2.1 (by omega)) ?_
          refine gR.ret rfl ?_
          exact ⟨trivial, by rw [show aLook D (nI ii) (nI ww) = _ from if_pos ⟨zc7, zc16⟩, nI_clamp (by omega), if_neg (by omega), if_neg (show ¬ nI ww = 0 from gN_ne (a := ww) (b := 0) rfl rfl (by omega) (by omega) (by omega))], rfl⟩
        · rw [gN_eq (x := nI ww) (y := 0) (a := ww) (b := 0) rfl rfl (by omega) (by omega)] at zc36
          refine gR.steps 3 (σ, (44, [some (.ref 18), some (.int (nI ii)), some (.int (nI ww))], [.int (nI ii), .ref 24])) rfl ?_
          refine gR.callp rfl (s_X4_monthOf (by omega) σ D ii hs.2.1 (by omega)) ?_
          refine gR.steps 1 (σ, (58, [some (.ref 18), some (.int (nI ii)), some (.int (nI ww))], [.int (nI (dLm D ii))])) rfl ?_
          refine gR.ret rfl ?_
          exact ⟨trivial, by rw [show aLook D (nI ii) (nI ww) = _ from if_pos ⟨zc7, zc16⟩, nI_clamp (by omega), if_neg (by omega), if_pos (show nI ww = 0 by rw [show ww = 0 by omega]; rfl)], rfl⟩
      · rw [gN_lt (x := nI ii) (y := nI (dNl D)) (a := ii) (b := dNl D) rfl rfl (by omega) (by omega)] at zc30
        refine gR.steps 1 (σ, (34, [some (.ref 18), some (.int (nI ii)), some (.int (nI ww))], [.int (-1)])) rfl ?_
        refine gR.ret rfl ?_
        exact ⟨trivial, by rw [show aLook D (nI ii) (nI ww) = _ from if_pos ⟨zc7, zc16⟩, nI_clamp (by omega), if_pos (by omega)], rfl⟩
    · rw [bI_ne0] at zc16
      refine gR.steps 1 (σ, (21, [some (.ref 18), some (.int (nI ii)), some (.int w)], [.int (-2)])) rfl ?_
      refine gR.ret rfl ?_
      exact ⟨trivial, by rw [show aLook D (nI ii) w = -2 from if_neg (by omega)], rfl⟩
def cFaF (σ τ : gS) : Prop := (∀ q, q ≠ 19 → τ q = σ q) ∧ ∀ s, s ≠ 8 → s ≠ 9 → τ 19 s = σ 19 s
theorem cFaF.rf (σ : gS) : cFaF σ σ := ⟨fun _ _ => rfl, fun _ _ _ => rfl⟩
theorem cSt_fa {σ τ : gS} {D : xDat} {f db : Nat} (h : cSt σ D) (hF : cFaF σ τ) (h1 : τ 19 8 = nI f) (hf : f ≤ 100) (h2 : τ 19 9 = nI db) (hdb : db ≤ 50) : cSt τ (dSetF D f db) := by
  have h0 := h
  unfold cSt cT0 cT1 cEv at h0 ⊢
  rw [hF.1 22 (by decide), hF.1 23 (by decide), hF.1 25 (by decide), hF.1 26 (by decide), hF.1 27 (by decide), hF.1 (27 + 1) (by decide), hF.1 (27 + 2) (by decide), hF.1 (27 + 3) (by decide)]
  exact ⟨h0.1, h0.2.1, h0.2.2.1, h1, hf, h2, hdb⟩
theorem s_X10_set0 {d : Nat} (hd : 2 ≤ d) (σ : gS) (D : xDat) (v : Int32) (hs : cSt σ D) : gC d 50 [.ref 18, .int 0, .int v] σ (fun r τ => r = some (.int (aSet D 0 v)) ∧ cFaF σ τ ∧ cSt τ (sSet D 0 v)) := by
  obtain ⟨d, rfl⟩ : ∃ k, d = k + 1 := ⟨d - 1, by omega⟩
  refine gC.of (P := pX10_set) (nL := 4) (rt := (some (.int))) (lv := [some (.ref 18), some (.int 0), some (.int v), none]) (by decide +kernel) rfl rfl rfl (by simp [gEnt, Value.category]) rfl ?_
  have hf100 := hs.2.2.2.2.1
  have hd50 := hs.2.2.2.2.2.2
  refine gR.steps 1 (σ, (1, [some (.ref 18), some (.int 0), some (.int v), none], [.int 0])) rfl ?_
  refine gR.brF rfl (by decide) ?_
  refine gR.steps 3 (σ, (8, [some (.ref 18), some (.int 0), some (.int v), none], [.int 100, .int 0, .int v])) rfl ?_
  refine gR.callp rfl (s_X10_withinI (by omega) σ v 0 100 0 100 (by decide) (by decide)) ?_
  refine gR.ifte rfl (fun zc11 => ?_) (fun zc11 => ?_)
  · rw [bI_eq0] at zc11
    refine gR.steps 2 (σ, (34, [some (.ref 18), some (.int 0), some (.int v), none], [.int 1, .int 0])) rfl ?_
    refine gR.brT rfl (by decide) ?_
    refine gR.steps 1 (σ, (67, [some (.ref 18), some (.int 0), some (.int v), none], [.int (-2)])) rfl ?_
    refine gR.ret rfl ?_
    exact ⟨trivial, by rw [show aSet D 0 v = -2 from (if_neg (fun z => zc11 z.2)).trans (if_neg (fun z => absurd z.1 (by decide)))], cFaF.rf σ, by rw [show sSet D 0 v = D from (if_neg (fun z => zc11 z.2)).trans (if_neg (fun z => absurd z.1 (by decide)))]; exact hs⟩
  · rw [bI_eq0, Decidable.not_not] at zc11
    obtain ⟨vv, hvv, rfl⟩ := gN_of (x := v) (n := 101) (by omega) (by omega) (by omega)
    refine gR.steps 3 (σ, (21, [some (.ref 18), some (.int 0), some (.int (nI vv)), none], [.int (σ 19 8)])) rfl ?_
    refine gR.topI (y := nI (dF D)) hs.2.2.2.1 ?_
    refine gR.steps 6 (gUp σ 19 8 (nI vv), (31, [some (.ref 18), some (.int 0), some (.int (nI vv)), some (.int (nI (dF D)))], [.int (nI (dF D))])) rfl ?_
    show gR _ _ _ (gUp σ 19 8 (nI vv)) (31, [some (.ref 18), some (.int 0), some (.int (nI vv)), some (.int (nI (dF D)))], [.int (nI (dF D))])
    refine gR.ret rfl ?_
    refine ⟨trivial, ?_, (⟨fun q h => gUp_ne h, fun s a b => gUp_o (by omega)⟩ : cFaF σ (gUp σ 19 8 (nI vv))), ?_⟩
    · rw [show aSet D 0 (nI vv) = _ from if_pos ⟨rfl, zc11⟩]
    · rw [show sSet D 0 (nI vv) = _ from if_pos ⟨rfl, zc11⟩, nI_clamp (by omega)]; exact cSt_fa hs (⟨fun q h => gUp_ne h, fun s a b => gUp_o (by omega)⟩ : cFaF σ (gUp σ 19 8 (nI vv))) (gUp_s _ _ _ _) (by omega) ((gUp_o (by omega)).trans hs.2.2.2.2.2.1) (by omega)
theorem s_X10_set1 {d : Nat} (hd : 2 ≤ d) (σ : gS) (D : xDat) (v : Int32) (hs : cSt σ D) : gC d 50 [.ref 18, .int 1, .int v] σ (fun r τ => r = some (.int (aSet D 1 v)) ∧ cFaF σ τ ∧ cSt τ (sSet D 1 v)) := by
  obtain ⟨d, rfl⟩ : ∃ k, d = k + 1 := ⟨d - 1, by omega⟩
  refine gC.of (P := pX10_set) (nL := 4) (rt := (some (.int))) (lv := [some (.ref 18), some (.int 1), some (.int v), none]) (by decide +kernel) rfl rfl rfl (by simp [gEnt, Value.category]) rfl ?_
  have hf100 := hs.2.2.2.2.1
  have hd50 := hs.2.2.2.2.2.2
  refine gR.steps 1 (σ, (1, [some (.ref 18), some (.int 1), some (.int v), none], [.int 1])) rfl ?_
  refine gR.brT rfl (by decide) ?_
  refine gR.steps 2 (σ, (34, [some (.ref 18), some (.int 1), some (.int v), none], [.int 1, .int 1])) rfl ?_
  refine gR.brF rfl (by decide) ?_
  refine gR.steps 3 (σ, (41, [some (.ref 18), some (.int 1), some (.int v), none], [.int 50, .int 0, .int v])) rfl ?_
  refine gR.callp rfl (s_X10_withinI (by omega) σ v 0 50 0 50 (by decide) (by decide)) ?_
  refine gR.ifte rfl (fun zc44 => ?_) (fun zc44 => ?_)
  · rw [bI_eq0] at zc44
    refine gR.steps 1 (σ, (67, [some (.ref 18), some (.int 1), some (.int v), none], [.int (-2)])) rfl ?_
    refine gR.ret rfl ?_
    exact ⟨trivial, by rw [show aSet D 1 v = -2 from (if_neg (fun z => absurd z.1 (by decide))).trans (if_neg (fun z => zc44 z.2))], cFaF.rf σ, by rw [show sSet D 1 v = D from (if_neg (fun z => absurd z.1 (by decide))).trans (if_neg (fun z => zc44 z.2))]; exact hs⟩
  · rw [bI_eq0, Decidable.not_not] at zc44
    obtain ⟨vv, hvv, rfl⟩ := gN_of (x := v) (n := 51) (by omega) (by omega) (by omega)
    refine gR.steps 3 (σ, (54, [some (.ref 18), some (.int 1), some (.int (nI vv)), none], [.int (σ 19 9)])) rfl ?_
    refine gR.topI (y := nI (dDb D)) hs.2.2.2.2.2.1 ?_
    refine gR.steps 6 (gUp σ 19 9 (nI vv), (64, [some (.ref 18), some (.int 1), some (.int (nI vv)), some (.int (nI (dDb D)))], [.int (nI (dDb D))])) rfl ?_
    show gR _ _ _ (gUp σ 19 9 (nI vv)) (64, [some (.ref 18), some (.int 1), some (.int (nI vv)), some (.int (nI (dDb D)))], [.int (nI (dDb D))])
    refine gR.ret rfl ?_
    refine ⟨trivial, ?_, (⟨fun q h => gUp_ne h, fun s a b => gUp_o (by omega)⟩ : cFaF σ (gUp σ 19 9 (nI vv))), ?_⟩
    · rw [show aSet D 1 (nI vv) = _ from (if_neg (fun z => absurd z.1 (by decide))).trans (if_pos ⟨rfl, zc44⟩)]
    · rw [show sSet D 1 (nI vv) = _ from (if_neg (fun z => absurd z.1 (by decide))).trans (if_pos ⟨rfl, zc44⟩), nI_clamp (by omega)]; exact cSt_fa hs (⟨fun q h => gUp_ne h, fun s a b => gUp_o (by omega)⟩ : cFaF σ (gUp σ 19 9 (nI vv))) ((gUp_o (by omega)).trans hs.2.2.2.1) (by omega) (gUp_s _ _ _ _) (by omega)
theorem s_X10_setX {d : Nat} (hd : 2 ≤ d) (σ : gS) (D : xDat) (w v : Int32) (hs : cSt σ D) (h0 : ¬ w = 0) (h1 : ¬ w = 1) : gC d 50 [.ref 18, .int w, .int v] σ (fun r τ => r = some (.int (aSet D w v)) ∧ cFaF σ τ ∧ cSt τ (sSet D w v)) := by
  obtain ⟨d, rfl⟩ : ∃ k, d = k + 1 := ⟨d - 1, by omega⟩
  refine gC.of (P := pX10_set) (nL := 4) (rt := (some (.int))) (lv := [some (.ref 18), some (.int w), some (.int v), none]) (by decide +kernel) rfl rfl rfl (by simp [gEnt, Value.category]) rfl ?_
  refine gR.steps 1 (σ, (1, [some (.ref 18), some (.int w), some (.int v), none], [.int w])) rfl ?_
  refine gR.brT rfl h0 ?_
  refine gR.steps 2 (σ, (34, [some (.ref 18), some (.int w), some (.int v), none], [.int 1, .int w])) rfl ?_
  refine gR.brT rfl h1 ?_
  refine gR.steps 1 (σ, (67, [some (.ref 18), some (.int w), some (.int v), none], [.int (-2)])) rfl ?_
  refine gR.ret rfl ?_
  exact ⟨trivial, by rw [show aSet D w v = -2 from (if_neg (fun z => h0 z.1)).trans (if_neg (fun z => h1 z.1))], cFaF.rf σ, by rw [show sSet D w v = D from (if_neg (fun z => h0 z.1)).trans (if_neg (fun z => h1 z.1))]; exact hs⟩
theorem s_X10_set {d : Nat} (hd : 2 ≤ d) (σ : gS) (D : xDat) (w v : Int32) (hs : cSt σ D) : gC d 50 [.ref 18, .int w, .int v] σ (fun r τ => r = some (.int (aSet D w v)) ∧ cFaF σ τ ∧ cSt τ (sSet D w v)) := by
  by_cases h0 : w = 0
  · subst h0; exact s_X10_set0 hd σ D v hs
  · by_cases h1 : w = 1
    · subst h1; exact s_X10_set1 hd σ D v hs
    · exact s_X10_setX hd σ D w v hs h0 h1
theorem s_X2_add27 {d : Nat} (hd : 1 ≤ d) (σ : gS) (n : Nat) (a b c : Nat → Nat) (x y z : Nat) (h : cEv σ 27 n a b c) (hn : n < 8) (hx : x < 4) (hy : y < 24) (hz : z < 10) : gC d 8 [.ref 27, .int (nI x), .int (nI y), .int (nI z)] σ (fun r τ => r = some (.int (nI (n + 1))) ∧ (∀ q, q ≠ 27 → q ≠ 28 → q ≠ 29 → q ≠ 30 → τ q = σ q) ∧ cEv τ 27 (n + 1) (xPut a n x) (xPut b n y) (xPut c n z)) := by
  obtain ⟨d, rfl⟩ : ∃ k, d = k + 1 := ⟨d - 1, by omega⟩
  refine gC.of (P := pX2_add) (nL := 4) (rt := (some (.int))) (lv := [some (.ref 27), some (.int (nI x)), some (.int (nI y)), some (.int (nI z))]) (by decide +kernel) rfl rfl rfl (by simp [gEnt, Value.category]) rfl ?_
  refine gR.steps 2 (σ, (4, [some (.ref 27), some (.int (nI x)), some (.int (nI y)), some (.int (nI z))], [.int (σ 27 3)])) rfl ?_
  refine gR.topI (y := nI (n)) h.1 ?_
  refine gR.steps 1 (σ, (6, [some (.ref 27), some (.int (nI x)), some (.int (nI y)), some (.int (nI z))], [.int 8, .int (nI n)])) rfl ?_
  refine gR.brT rfl ((gN_lt (a := n) (b := 8) rfl rfl (by omega) (by omega)).mpr hn) ?_
  refine gR.steps 4 (σ, (20, [some (.ref 27), some (.int (nI x)), some (.int (nI y)), some (.int (nI z))], [.int (σ 27 3), .ref 28])) rfl ?_
  refine gR.topI (y := nI (n)) h.1 ?_
  refine gR.steps 1 (σ, (21, [some (.ref 27), some (.int (nI x)), some (.int (nI y)), some (.int (nI z))], [.int (nI x), .int (nI n), .ref 28])) rfl ?_
  refine gR.ast (i := nI n) (j := n) (N := 8) (q := 28) (x := nI x) rfl rfl (by omega) (by omega) ?_
  refine gR.steps 4 (gUp σ 28 n (nI x), (30, [some (.ref 27), some (.int (nI x)), some (.int (nI y)), some (.int (nI z))], [.int (σ 27 3), .ref 29])) rfl ?_
  refine gR.topI (y := nI (n)) h.1 ?_
  refine gR.steps 1 (gUp σ 28 n (nI x), (31, [some (.ref 27), some (.int (nI x)), some (.int (nI y)), some (.int (nI z))], [.int (nI y), .int (nI n), .ref 29])) rfl ?_
  refine gR.ast (i := nI n) (j := n) (N := 8) (q := 29) (x := nI y) rfl rfl (by omega) (by omega) ?_
  refine gR.steps 4 (gUp (gUp σ 28 n (nI x)) 29 n (nI y), (40, [some (.ref 27), some (.int (nI x)), some (.int (nI y)), some (.int (nI z))], [.int (σ 27 3), .ref 30])) rfl ?_
  refine gR.topI (y := nI (n)) h.1 ?_
  refine gR.steps 1 (gUp (gUp σ 28 n (nI x)) 29 n (nI y), (41, [some (.ref 27), some (.int (nI x)), some (.int (nI y)), some (.int (nI z))], [.int (nI z), .int (nI n), .ref 30])) rfl ?_
  refine gR.ast (i := nI n) (j := n) (N := 8) (q := 30) (x := nI z) rfl rfl (by omega) (by omega) ?_
  refine gR.steps 3 (gUp (gUp (gUp σ 28 n (nI x)) 29 n (nI y)) 30 n (nI z), (47, [some (.ref 27), some (.int (nI x)), some (.int (nI y)), some (.int (nI z))], [.int (σ 27 3), .ref 27])) rfl ?_
  refine gR.topI (y := nI (n)) h.1 ?_
  refine gR.steps 5 (gUp (gUp (gUp (gUp σ 28 n (nI x)) 29 n (nI y)) 30 n (nI z)) 27 3 ((nI n) + 1), (56, [some (.ref 27), some (.int (nI x)), some (.int (nI y)), some (.int (nI z))], [.int ((nI n) + 1)])) rfl ?_
  refine gR.topI (y := nI (n + 1)) (gN_add rfl rfl) ?_
  show gR _ _ _ (gUp (gUp (gUp (gUp σ 28 n (nI x)) 29 n (nI y)) 30 n (nI z)) 27 3 ((nI n) + 1)) (56, [some (.ref 27), some (.int (nI x)), some (.int (nI y)), some (.int (nI z))], [.int (nI (n + 1))])
  refine gR.ret rfl ?_
  refine ⟨trivial, rfl, fun q a b c k => by rw [gUp_ne a, gUp_ne k, gUp_ne c, gUp_ne b], ?_⟩
  refine ⟨by rw [gUp_s]; exact gN_add rfl rfl, hn, fun i hi => ?_⟩
  unfold xPut
  by_cases hin : i = n
  · subst hin
    rw [if_pos rfl, if_pos rfl, if_pos rfl]
    exact ⟨by rw [gUp_o (by omega), gUp_o (by omega), gUp_o (by omega), gUp_s], by rw [gUp_o (by omega), gUp_o (by omega), gUp_s], by rw [gUp_o (by omega), gUp_s], hx, hy, hz⟩
  · rw [if_neg hin, if_neg hin, if_neg hin]
    obtain ⟨a1, a2, a3, a4⟩ := h.2.2 i (by omega)
    exact ⟨by rw [gUp_o (by omega), gUp_o (by omega), gUp_o (by omega), gUp_o (by omega)]; exact a1, by rw [gUp_o (by omega), gUp_o (by omega), gUp_o (by omega), gUp_o (by omega)]; exact a2, by rw [gUp_o (by omega), gUp_o (by omega), gUp_o (by omega), gUp_o (by omega)]; exact a3, a4⟩
theorem s_X2_add31 {d : Nat} (hd : 1 ≤ d) (σ : gS) (n : Nat) (a b c : Nat → Nat) (x y z : Nat) (h : cEv σ 31 n a b c) (hn : n < 8) (hx : x < 4) (hy : y < 24) (hz : z < 10) : gC d 8 [.ref 31, .int (nI x), .int (nI y), .int (nI z)] σ (fun r τ => r = some (.int (nI (n + 1))) ∧ (∀ q, q ≠ 31 → q ≠ 32 → q ≠ 33 → q ≠ 34 → τ q = σ q) ∧ cEv τ 31 (n + 1) (xPut a n x) (xPut b n y) (xPut c n z)) := by
  obtain ⟨d, rfl⟩ : ∃ k, d = k + 1 := ⟨d - 1, by omega⟩
  refine gC.of (P := pX2_add) (nL := 4) (rt := (some (.int))) (lv := [some (.ref 31), some (.int (nI x)), some (.int (nI y)), some (.int (nI z))]) (by decide +kernel) rfl rfl rfl (by simp [gEnt, Value.category]) rfl ?_
  refine gR.steps 2 (σ, (4, [some (.ref 31), some (.int (nI x)), some (.int (nI y)), some (.int (nI z))], [.int (σ 31 3)])) rfl ?_
  refine gR.topI (y := nI (n)) h.1 ?_
  refine gR.steps 1 (σ, (6, [some (.ref 31), some (.int (nI x)), some (.int (nI y)), some (.int (nI z))], [.int 8, .int (nI n)])) rfl ?_
  refine gR.brT rfl ((gN_lt (a := n) (b := 8) rfl rfl (by omega) (by omega)).mpr hn) ?_
  refine gR.steps 4 (σ, (20, [some (.ref 31), some (.int (nI x)), some (.int (nI y)), some (.int (nI z))], [.int (σ 31 3), .ref 32])) rfl ?_
  refine gR.topI (y := nI (n)) h.1 ?_
  refine gR.steps 1 (σ, (21, [some (.ref 31), some (.int (nI x)), some (.int (nI y)), some (.int (nI z))], [.int (nI x), .int (nI n), .ref 32])) rfl ?_
  refine gR.ast (i := nI n) (j := n) (N := 8) (q := 32) (x := nI x) rfl rfl (by omega) (by omega) ?_
  refine gR.steps 4 (gUp σ 32 n (nI x), (30, [some (.ref 31), some (.int (nI x)), some (.int (nI y)), some (.int (nI z))], [.int (σ 31 3), .ref 33])) rfl ?_
  refine gR.topI (y := nI (n)) h.1 ?_
  refine gR.steps 1 (gUp σ 32 n (nI x), (31, [some (.ref 31), some (.int (nI x)), some (.int (nI y)), some (.int (nI z))], [.int (nI y), .int (nI n), .ref 33])) rfl ?_
  refine gR.ast (i := nI n) (j := n) (N := 8) (q := 33) (x := nI y) rfl rfl (by omega) (by omega) ?_
  refine gR.steps 4 (gUp (gUp σ 32 n (nI x)) 33 n (nI y), (40, [some (.ref 31), some (.int (nI x)), some (.int (nI y)), some (.int (nI z))], [.int (σ 31 3), .ref 34])) rfl ?_
  refine gR.topI (y := nI (n)) h.1 ?_
  refine gR.steps 1 (gUp (gUp σ 32 n (nI x)) 33 n (nI y), (41, [some (.ref 31), some (.int (nI x)), some (.int (nI y)), some (.int (nI z))], [.int (nI z), .int (nI n), .ref 34])) rfl ?_
  refine gR.ast (i := nI n) (j := n) (N := 8) (q := 34) (x := nI z) rfl rfl (by omega) (by omega) ?_
  refine gR.steps 3 (gUp (gUp (gUp σ 32 n (nI x)) 33 n (nI y)) 34 n (nI z), (47, [some (.ref 31), some (.int (nI x)), some (.int (nI y)), some (.int (nI z))], [.int (σ 31 3), .ref 31])) rfl ?_
  refine gR.topI (y := nI (n)) h.1 ?_
  refine gR.steps 5 (gUp (gUp (gUp (gUp σ 32 n (nI x)) 33 n (nI y)) 34 n (nI z)) 31 3 ((nI n) + 1), (56, [some (.ref 31), some (.int (nI x)), some (.int (nI y)), some (.int (nI z))], [.int ((nI n) + 1)])) rfl ?_
  refine gR.topI (y := nI (n + 1)) (gN_add rfl rfl) ?_
  show gR _ _ _ (gUp (gUp (gUp (gUp σ 32 n (nI x)) 33 n (nI y)) 34 n (nI z)) 31 3 ((nI n) + 1)) (56, [some (.ref 31), some (.int (nI x)), some (.int (nI y)), some (.int (nI z))], [.int (nI (n + 1))])
  refine gR.ret rfl ?_
  refine ⟨trivial, rfl, fun q a b c k => by rw [gUp_ne a, gUp_ne k, gUp_ne c, gUp_ne b], ?_⟩
  refine ⟨by rw [gUp_s]; exact gN_add rfl rfl, hn, fun i hi => ?_⟩
  unfold xPut
  by_cases hin : i = n
  · subst hin
    rw [if_pos rfl, if_pos rfl, if_pos rfl]
    exact ⟨by rw [gUp_o (by omega), gUp_o (by omega), gUp_o (by omega), gUp_s], by rw [gUp_o (by omega), gUp_o (by omega), gUp_s], by rw [gUp_o (by omega), gUp_s], hx, hy, hz⟩
  · rw [if_neg hin, if_neg hin, if_neg hin]
    obtain ⟨a1, a2, a3, a4⟩ := h.2.2 i (by omega)
    exact ⟨by rw [gUp_o (by omega), gUp_o (by omega), gUp_o (by omega), gUp_o (by omega)]; exact a1, by rw [gUp_o (by omega), gUp_o (by omega), gUp_o (by omega), gUp_o (by omega)]; exact a2, by rw [gUp_o (by omega), gUp_o (by omega), gUp_o (by omega), gUp_o (by omega)]; exact a3, a4⟩
def cSi (σ : gS) (n : Nat) (a b c : Nat → Nat) : Prop := σ 37 3 = nI n ∧ n ≤ 8 ∧ ∀ i, i < n → σ 38 i = nI (a i) ∧ σ 39 i = nI (b i) ∧ σ 40 i = nI (c i) ∧ a i < 24 ∧ b i < 10 ∧ c i < 5
theorem s_X7_add37 {d : Nat} (hd : 1 ≤ d) (σ : gS) (n : Nat) (a b c : Nat → Nat) (x y z : Nat) (h : cSi σ n a b c) (hn : n < 8) (hx : x < 24) (hy : y < 10) (hz : z < 5) : gC d 28 [.ref 37, .int (nI x), .int (nI y), .int (nI z)] σ (fun r τ => r = some (.int (nI (n + 1))) ∧ (∀ q, q ≠ 37 → q ≠ 38 → q ≠ 39 → q ≠ 40 → τ q = σ q) ∧ cSi τ (n + 1) (xPut a n x) (xPut b n y) (xPut c n z)) := by
  obtain ⟨d, rfl⟩ : ∃ k, d = k + 1 := ⟨d - 1, by omega⟩
  refine gC.of (P := pX7_add) (nL := 4) (rt := (some (.int))) (lv := [some (.ref 37), some (.int (nI x)), some (.int (nI y)), some (.int (nI z))]) (by decide +kernel) rfl rfl rfl (by simp [gEnt, Value.category]) rfl ?_
  refine gR.steps 2 (σ, (4, [some (.ref 37), some (.int (nI x)), some (.int (nI y)), some (.int (nI z))], [.int (σ 37 3)])) rfl ?_
  refine gR.topI (y := nI (n)) h.1 ?_
  refine gR.steps 1 (σ, (6, [some (.ref 37), some (.int (nI x)), some (.int (nI y)), some (.int (nI z))], [.int 8, .int (nI n)])) rfl ?_
  refine gR.brT rfl ((gN_lt (a := n) (b := 8) rfl rfl (by omega) (by omega)).mpr hn) ?_
  refine gR.steps 4 (σ, (20, [some (.ref 37), some (.int (nI x)), some (.int (nI y)), some (.int (nI z))], [.int (σ 37 3), .ref 38])) rfl ?_
  refine gR.topI (y := nI (n)) h.1 ?_
  refine gR.steps 1 (σ, (21, [some (.ref 37), some (.int (nI x)), some (.int (nI y)), some (.int (nI z))], [.int (nI x), .int (nI n), .ref 38])) rfl ?_
  refine gR.ast (i := nI n) (j := n) (N := 8) (q := 38) (x := nI x) rfl rfl (by omega) (by omega) ?_
  refine gR.steps 4 (gUp σ 38 n (nI x), (30, [some (.ref 37), some (.int (nI x)), some (.int (nI y)), some (.int (nI z))], [.int (σ 37 3), .ref 39])) rfl ?_
  refine gR.topI (y := nI (n)) h.1 ?_
  refine gR.steps 1 (gUp σ 38 n (nI x), (31, [some (.ref 37), some (.int (nI x)), some (.int (nI y)), some (.int (nI z))], [.int (nI y), .int (nI n), .ref 39])) rfl ?_
  refine gR.ast (i := nI n) (j := n) (N := 8) (q := 39) (x := nI y) rfl rfl (by omega) (by omega) ?_
  refine gR.steps 4 (gUp (gUp σ 38 n (nI x)) 39 n (nI y), (40, [some (.ref 37), some (.int (nI x)), some (.int (nI y)), some (.int (nI z))], [.int (σ 37 3), .ref 40])) rfl ?_
  refine gR.topI (y := nI (n)) h.1 ?_
  refine gR.steps 1 (gUp (gUp σ 38 n (nI x)) 39 n (nI y), (41, [some (.ref 37), some (.int (nI x)), some (.int (nI y)), some (.int (nI z))], [.int (nI z), .int (nI n), .ref 40])) rfl ?_
  refine gR.ast (i := nI n) (j := n) (N := 8) (q := 40) (x := nI z) rfl rfl (by omega) (by omega) ?_
  refine gR.steps 3 (gUp (gUp (gUp σ 38 n (nI x)) 39 n (nI y)) 40 n (nI z), (47, [some (.ref 37), some (.int (nI x)), some (.int (nI y)), some (.int (nI z))], [.int (σ 37 3), .ref 37])) rfl ?_
  refine gR.topI (y := nI (n)) h.1 ?_
  refine gR.steps 5 (gUp (gUp (gUp (gUp σ 38 n (nI x)) 39 n (nI y)) 40 n (nI z)) 37 3 ((nI n) + 1), (56, [some (.ref 37), some (.int (nI x)), some (.int (nI y)), some (.int (nI z))], [.int ((nI n) + 1)])) rfl ?_
  refine gR.topI (y := nI (n + 1)) (gN_add rfl rfl) ?_
  show gR _ _ _ (gUp (gUp (gUp (gUp σ 38 n (nI x)) 39 n (nI y)) 40 n (nI z)) 37 3 ((nI n) + 1)) (56, [some (.ref 37), some (.int (nI x)), some (.int (nI y)), some (.int (nI z))], [.int (nI (n + 1))])
  refine gR.ret rfl ?_
  refine ⟨trivial, rfl, fun q a b c k => by rw [gUp_ne a, gUp_ne k, gUp_ne c, gUp_ne b], ?_⟩
  refine ⟨by rw [gUp_s]; exact gN_add rfl rfl, hn, fun i hi => ?_⟩
  unfold xPut
  by_cases hin : i = n
  · subst hin
    rw [if_pos rfl, if_pos rfl, if_pos rfl]
    exact ⟨by rw [gUp_o (by omega), gUp_o (by omega), gUp_o (by omega), gUp_s], by rw [gUp_o (by omega), gUp_o (by omega), gUp_s], by rw [gUp_o (by omega), gUp_s], hx, hy, hz⟩
  · rw [if_neg hin, if_neg hin, if_neg hin]
    obtain ⟨a1, a2, a3, a4⟩ := h.2.2 i (by omega)
    exact ⟨by rw [gUp_o (by omega), gUp_o (by omega), gUp_o (by omega), gUp_o (by omega)]; exact a1, by rw [gUp_o (by omega), gUp_o (by omega), gUp_o (by omega), gUp_o (by omega)]; exact a2, by rw [gUp_o (by omega), gUp_o (by omega), gUp_o (by omega), gUp_o (by omega)]; exact a3, a4⟩
theorem s_X2_add27F {d : Nat} (hd : 1 ≤ d) (σ : gS) (x y z : Int32) (h : σ 27 3 = 8) : gC d 8 [.ref 27, .int x, .int y, .int z] σ (fun r τ => r = some (.int (-4)) ∧ τ = σ) := by
  obtain ⟨d, rfl⟩ : ∃ k, d = k + 1 := ⟨d - 1, by omega⟩
  refine gC.of (P := pX2_add) (nL := 4) (rt := (some (.int))) (lv := [some (.ref 27), some (.int x), some (.int y), some (.int z)]) (by decide +kernel) rfl rfl rfl (by simp [gEnt, Value.category]) rfl ?_
  refine gR.steps 2 (σ, (4, [some (.ref 27), some (.int x), some (.int y), some (.int z)], [.int (σ 27 3)])) rfl ?_
  refine gR.topI (y := nI (8)) h ?_
  refine gR.steps 1 (σ, (6, [some (.ref 27), some (.int x), some (.int y), some (.int z)], [.int 8, .int (nI 8)])) rfl ?_
  refine gR.brF rfl (by decide) ?_
  refine gR.steps 1 (σ, (11, [some (.ref 27), some (.int x), some (.int y), some (.int z)], [.int (-4)])) rfl ?_
  refine gR.ret rfl ?_
  exact ⟨trivial, rfl, rfl⟩
theorem s_X7_add37F {d : Nat} (hd : 1 ≤ d) (σ : gS) (x y z : Int32) (h : σ 37 3 = 8) : gC d 28 [.ref 37, .int x, .int y, .int z] σ (fun r τ => r = some (.int (-4)) ∧ τ = σ) := by
  obtain ⟨d, rfl⟩ : ∃ k, d = k + 1 := ⟨d - 1, by omega⟩
  refine gC.of (P := pX7_add) (nL := 4) (rt := (some (.int))) (lv := [some (.ref 37), some (.int x), some (.int y), some (.int z)]) (by decide +kernel) rfl rfl rfl (by simp [gEnt, Value.category]) rfl ?_
  refine gR.steps 2 (σ, (4, [some (.ref 37), some (.int x), some (.int y), some (.int z)], [.int (σ 37 3)])) rfl ?_
  refine gR.topI (y := nI (8)) h ?_
  refine gR.steps 1 (σ, (6, [some (.ref 37), some (.int x), some (.int y), some (.int z)], [.int 8, .int (nI 8)])) rfl ?_
  refine gR.brF rfl (by decide) ?_
  refine gR.steps 1 (σ, (11, [some (.ref 37), some (.int x), some (.int y), some (.int z)], [.int (-4)])) rfl ?_
  refine gR.ret rfl ?_
  exact ⟨trivial, rfl, rfl⟩
def cEvF (σ τ : gS) : Prop := ∀ q, q ≠ 27 → q ≠ 28 → q ≠ 29 → q ≠ 30 → τ q = σ q
theorem cEvF.rf (σ : gS) : cEvF σ σ := fun _ _ _ _ _ => rfl
theorem cSt_ev {σ τ : gS} {D : xDat} {n : Nat} {K M B : Nat → Nat} (h : cSt σ D) (hF : cEvF σ τ) (hE : cEv τ 27 n K M B) : cSt τ (dSetE D n K M B) := by
  have h0 := h
  refine ⟨?_, ?_, hE, ?_⟩
  · have := h.1; unfold cT0 at this ⊢; rw [hF 22 (by decide) (by decide) (by decide) (by decide), hF 23 (by decide) (by decide) (by decide) (by decide)]; exact this
  · have := h.2.1; unfold cT1 at this ⊢; rw [hF 25 (by decide) (by decide) (by decide) (by decide), hF 26 (by decide) (by decide) (by decide) (by decide)]; exact this
  · have := h.2.2.2; rw [hF 19 (by decide) (by decide) (by decide) (by decide)]; exact this
def cSiF (σ τ : gS) : Prop := ∀ q, q ≠ 37 → q ≠ 38 → q ≠ 39 → q ≠ 40 → τ q = σ q
theorem cSiF.rf (σ : gS) : cSiF σ σ := fun _ _ _ _ _ => rfl
theorem s_X10_eventN {d : Nat} (hd : 4 ≤ d) (σ : gS) (D : xDat) (k m b : Int32) (hs : cSt σ D) (hn : ¬ dN D = 8) : gC d 51 [.ref 18, .int k, .int m, .int b] σ (fun r τ => r = some (.int (aEvent D k m b)) ∧ cEvF σ τ ∧ cSt τ (sEvent D k m b)) := by
  obtain ⟨d, rfl⟩ : ∃ k, d = k + 1 := ⟨d - 1, by omega⟩
  refine gC.of (P := pX10_event) (nL := 4) (rt := (some (.int))) (lv := [some (.ref 18), some (.int k), some (.int m), some (.int b)]) (by decide +kernel) rfl rfl rfl (by simp [gEnt, Value.category]) rfl ?_
  have hn8 := hs.2.2.1.2.1
  refine gR.steps 3 (σ, (3, [some (.ref 18), some (.int k), some (.int m), some (.int b)], [.int b, .int m, .int k])) rfl ?_
  refine gR.callp rfl (s_X10_mayBeEvent (by omega) σ k m b) ?_
  refine gR.ifte rfl (fun zc6 => ?_) (fun zc6 => ?_)
  · rw [bI_eq0] at zc6
    refine gR.steps 1 (σ, (24, [some (.ref 18), some (.int k), some (.int m), some (.int b)], [.int (-2)])) rfl ?_
    refine gR.ret rfl ?_
    exact ⟨trivial, by rw [show aEvent D k m b = -2 from if_neg zc6], cEvF.rf σ, by rw [show sEvent D k m b = D from if_neg zc6]; exact hs⟩
  · rw [bI_eq0, Decidable.not_not] at zc6
    obtain ⟨kk, hkk, rfl⟩ := gN_of (x := k) (n := 4) (by omega) (by omega) (by omega)
    obtain ⟨mm, hmm, rfl⟩ := gN_of (x := m) (n := 24) (by omega) (by omega) (by omega)
    obtain ⟨bb, hbb, rfl⟩ := gN_of (x := b) (n := 10) (by omega) (by omega) (by omega)
    refine gR.steps 5 (σ, (16, [some (.ref 18), some (.int (nI kk)), some (.int (nI mm)), some (.int (nI bb))], [.int (nI bb), .int (nI mm), .int (nI kk), .ref 27])) rfl ?_
    refine gR.call' rfl (s_X2_add27 (by omega) σ (dN D) (dK D) (dM D) (dB D) kk mm bb hs.2.2.1 (by omega) hkk hmm hbb) ?_
    rintro _ τ ⟨rfl, hF, hE⟩
    show gR _ _ _ τ (19, [some (.ref 18), some (.int (nI kk)), some (.int (nI mm)), some (.int (nI bb))], [.int (nI (dN D + 1))])
    refine gR.steps 1 (τ, (24, [some (.ref 18), some (.int (nI kk)), some (.int (nI mm)), some (.int (nI bb))], [.int (nI (dN D + 1))])) rfl ?_
    refine gR.ret rfl ?_
    exact ⟨trivial, by rw [show aEvent D (nI kk) (nI mm) (nI bb) = _ from if_pos zc6, if_neg hn], hF, by rw [show sEvent D (nI kk) (nI mm) (nI bb) = _ from if_pos zc6, if_neg hn, nI_clamp (by omega), nI_clamp (by omega), nI_clamp (by omega)]; exact cSt_ev hs hF hE⟩
theorem s_X10_eventF {d : Nat} (hd : 4 ≤ d) (σ : gS) (D : xDat) (k m b : Int32) (hs : cSt σ D) (hn :  dN D = 8) : gC d 51 [.ref 18, .int k, .int m, .int b] σ (fun r τ => r = some (.int (aEvent D k m b)) ∧ cEvF σ τ ∧ cSt τ (sEvent D k m b)) := by
  obtain ⟨d, rfl⟩ : ∃ k, d = k + 1 := ⟨d - 1, by omega⟩
  refine gC.of (P := pX10_event) (nL := 4) (rt := (some (.int))) (lv := [some (.ref 18), some (.int k), some (.int m), some (.int b)]) (by decide +kernel) rfl rfl rfl (by simp [gEnt, Value.category]) rfl ?_
  have hn8 := hs.2.2.1.2.1
  refine gR.steps 3 (σ, (3, [some (.ref 18), some (.int k), some (.int m), some (.int b)], [.int b, .int m, .int k])) rfl ?_
  refine gR.callp rfl (s_X10_mayBeEvent (by omega) σ k m b) ?_
  refine gR.ifte rfl (fun zc6 => ?_) (fun zc6 => ?_)
  · rw [bI_eq0] at zc6
    refine gR.steps 1 (σ, (24, [some (.ref 18), some (.int k), some (.int m), some (.int b)], [.int (-2)])) rfl ?_
    refine gR.ret rfl ?_
    exact ⟨trivial, by rw [show aEvent D k m b = -2 from if_neg zc6], cEvF.rf σ, by rw [show sEvent D k m b = D from if_neg zc6]; exact hs⟩
  · rw [bI_eq0, Decidable.not_not] at zc6
    obtain ⟨kk, hkk, rfl⟩ := gN_of (x := k) (n := 4) (by omega) (by omega) (by omega)
    obtain ⟨mm, hmm, rfl⟩ := gN_of (x := m) (n := 24) (by omega) (by omega) (by omega)
    obtain ⟨bb, hbb, rfl⟩ := gN_of (x := b) (n := 10) (by omega) (by omega) (by omega)
    refine gR.steps 5 (σ, (16, [some (.ref 18), some (.int (nI kk)), some (.int (nI mm)), some (.int (nI bb))], [.int (nI bb), .int (nI mm), .int (nI kk), .ref 27])) rfl ?_
    refine gR.callp rfl (s_X2_add27F (by omega) σ (nI kk) (nI mm) (nI bb) (by rw [hs.2.2.1.1, hn]; rfl)) ?_
    refine gR.steps 1 (σ, (24, [some (.ref 18), some (.int (nI kk)), some (.int (nI mm)), some (.int (nI bb))], [.int (-4)])) rfl ?_
    refine gR.ret rfl ?_
    exact ⟨trivial, by rw [show aEvent D (nI kk) (nI mm) (nI bb) = _ from if_pos zc6, if_pos hn], cEvF.rf σ, by rw [show sEvent D (nI kk) (nI mm) (nI bb) = _ from if_pos zc6, if_pos hn]; exact hs⟩
theorem s_X10_event {d : Nat} (hd : 4 ≤ d) (σ : gS) (D : xDat) (k m b : Int32) (hs : cSt σ D) : gC d 51 [.ref 18, .int k, .int m, .int b] σ (fun r τ => r = some (.int (aEvent D k m b)) ∧ cEvF σ τ ∧ cSt τ (sEvent D k m b)) := by
  by_cases hn : dN D = 8
  · exact s_X10_eventF hd σ D k m b hs hn
  · exact s_X10_eventN hd σ D k m b hs hn
theorem s_X2_dropLast {d : Nat} (hd : 1 ≤ d) (σ : gS) (n : Nat) (K M B : Nat → Nat) (h : cEv σ 27 n K M B) : gC d 9 [.ref 27] σ (fun r τ => r = some (.int (if n = 0 then -3 else nI (n - 1))) ∧ cEvF σ τ ∧ cEv τ 27 (n - 1) K M B) := by
  obtain ⟨d, rfl⟩ : ∃ k, d = k + 1 := ⟨d - 1, by omega⟩
  refine gC.of (P := pX2_dropLast) (nL := 1) (rt := (some (.int))) (lv := [some (.ref 27)]) (by decide +kernel) rfl rfl rfl (by simp [gEnt, Value.category]) rfl ?_
  have hn8 := h.2.1
  refine gR.steps 2 (σ, (4, [some (.ref 27)], [.int (σ 27 3)])) rfl ?_
  refine gR.topI (y := nI (n)) h.1 ?_
  refine gR.ifte rfl (fun zc4 => ?_) (fun zc4 => ?_)
  · rw [gN_eq (x := nI n) (y := 0) (a := n) (b := 0) rfl rfl (by omega) (by omega)] at zc4
    refine gR.steps 3 (σ, (15, [some (.ref 27)], [.int (σ 27 3), .ref 27])) rfl ?_
    refine gR.topI (y := nI (n)) h.1 ?_
    refine gR.steps 5 (gUp σ 27 3 ((nI n) - 1), (24, [some (.ref 27)], [.int ((nI n) - 1)])) rfl ?_
    show gR _ _ _ (gUp σ 27 3 ((nI n) - 1)) (24, [some (.ref 27)], [.int ((nI n) - 1)])
    refine gR.ret rfl ?_
    have hn0 : ¬ n = 0 := by omega
    refine ⟨trivial, by rw [if_neg hn0]; exact gSomeI (gN_sub rfl rfl (by omega)), fun q a b c k => gUp_ne a, ?_⟩
    exact ⟨by rw [gUp_s]; exact gN_sub rfl rfl (by omega), by omega, fun i hi => by rw [gUp_o (by omega), gUp_o (by omega), gUp_o (by omega)]; exact h.2.2 i (by omega)⟩
  · rw [gN_eq (x := nI n) (y := 0) (a := n) (b := 0) rfl rfl (by omega) (by omega)] at zc4
    refine gR.steps 1 (σ, (9, [some (.ref 27)], [.int (-3)])) rfl ?_
    refine gR.ret rfl ?_
    have hn0 : n = 0 := by omega
    exact ⟨trivial, by rw [if_pos hn0], cEvF.rf σ, by rw [show n - 1 = n by omega]; exact h⟩
theorem s_X10_back {d : Nat} (hd : 2 ≤ d) (σ : gS) (D : xDat) (hs : cSt σ D) : gC d 52 [.ref 18] σ (fun r τ => r = some (.int (aBack D)) ∧ cEvF σ τ ∧ cSt τ (sBack D)) := by
  obtain ⟨d, rfl⟩ : ∃ k, d = k + 1 := ⟨d - 1, by omega⟩
  refine gC.of (P := pX10_back) (nL := 1) (rt := (some (.int))) (lv := [some (.ref 18)]) (by decide +kernel) rfl rfl rfl (by simp [gEnt, Value.category]) rfl ?_
  refine gR.steps 2 (σ, (4, [some (.ref 18)], [.ref 27])) rfl ?_
  refine gR.call' rfl (s_X2_dropLast (by omega) σ (dN D) (dK D) (dM D) (dB D) hs.2.2.1) ?_
  rintro _ τ ⟨rfl, hF, hE⟩
  show gR _ _ _ τ (7, [some (.ref 18)], [.int (if dN D = 0 then -3 else nI (dN D - 1))])
  refine gR.ret rfl ?_
  refine ⟨trivial, rfl, hF, ?_⟩
  show cSt τ _
  unfold sBack
  by_cases hn : dN D = 0
  · rw [if_pos hn]; rw [show dN D - 1 = dN D by omega] at hE; exact cSt_ev hs hF hE
  · rw [if_neg hn]; exact cSt_ev hs hF hE
theorem s_X10_seenN {d : Nat} (hd : 3 ≤ d) (σ : gS) (G : xSig) (m k s : Int32) (hg : cSg σ G) (hn : ¬ G.1 = 8) : gC d 64 [.ref 18, .int m, .int k, .int s] σ (fun r τ => r = some (.int (aSeen G m k s)) ∧ cSiF σ τ ∧ cSg τ (sSeen G m k s)) := by
  obtain ⟨d, rfl⟩ : ∃ k, d = k + 1 := ⟨d - 1, by omega⟩
  refine gC.of (P := pX10_seen) (nL := 4) (rt := (some (.int))) (lv := [some (.ref 18), some (.int m), some (.int k), some (.int s)]) (by decide +kernel) rfl rfl rfl (by simp [gEnt, Value.category]) rfl ?_
  have hn8 : G.1 ≤ 8 := hg.2.1
  refine gR.steps 1 (σ, (1, [some (.ref 18), some (.int m), some (.int k), some (.int s)], [.int m])) rfl ?_
  refine gR.callp rfl (s_X10_isMonth (by omega) σ m) ?_
  refine gR.ifte rfl (fun zc4 => ?_) (fun zc4 => ?_)
  · rw [bI_eq0] at zc4
    refine gR.steps 1 (σ, (28, [some (.ref 18), some (.int m), some (.int k), some (.int s)], [.int (-2)])) rfl ?_
    refine gR.ret rfl ?_
    exact ⟨trivial, by rw [show aSeen G m k s = -2 from if_neg (by omega)], cSiF.rf σ, by rw [show sSeen G m k s = G from if_neg (by omega)]; exact hg⟩
  · rw [bI_eq0, Decidable.not_not] at zc4
    obtain ⟨mm, hmm, rfl⟩ := gN_of (x := m) (n := 24) (by omega) (by omega) (by omega)
    refine gR.steps 3 (σ, (11, [some (.ref 18), some (.int (nI mm)), some (.int k), some (.int s)], [.int 9, .int 0, .int k])) rfl ?_
    refine gR.callp rfl (s_X10_withinI (by omega) σ k 0 9 0 9 (by decide) (by decide)) ?_
    refine gR.ifte rfl (fun zc14 => ?_) (fun zc14 => ?_)
    · rw [bI_eq0] at zc14
      refine gR.steps 1 (σ, (28, [some (.ref 18), some (.int (nI mm)), some (.int k), some (.int s)], [.int (-2)])) rfl ?_
      refine gR.ret rfl ?_
      exact ⟨trivial, by rw [show aSeen G (nI mm) k s = -2 from if_neg (by omega)], cSiF.rf σ, by rw [show sSeen G (nI mm) k s = G from if_neg (by omega)]; exact hg⟩
    · rw [bI_eq0, Decidable.not_not] at zc14
      obtain ⟨kk, hkk, rfl⟩ := gN_of (x := k) (n := 10) (by omega) (by omega) (by omega)
      refine gR.steps 3 (σ, (20, [some (.ref 18), some (.int (nI mm)), some (.int (nI kk)), some (.int s)], [.int 4, .int 0, .int s])) rfl ?_
      refine gR.callp rfl (s_X10_withinI (by omega) σ s 0 4 0 4 (by decide) (by decide)) ?_
      refine gR.ifte rfl (fun zc23 => ?_) (fun zc23 => ?_)
      · rw [bI_ne0] at zc23
        obtain ⟨ss, hss, rfl⟩ := gN_of (x := s) (n := 5) (by omega) (by omega) (by omega)
        refine gR.steps 5 (σ, (36, [some (.ref 18), some (.int (nI mm)), some (.int (nI kk)), some (.int (nI ss))], [.int (nI ss), .int (nI kk), .int (nI mm), .ref 37])) rfl ?_
        refine gR.call' rfl (s_X7_add37 (by omega) σ G.1 G.2.1 G.2.2.1 G.2.2.2 mm kk ss hg (by omega) hmm hkk hss) ?_
        rintro _ τ ⟨rfl, hF, hE⟩
        show gR _ _ _ τ (39, [some (.ref 18), some (.int (nI mm)), some (.int (nI kk)), some (.int (nI ss))], [.int (nI (G.1 + 1))])
        refine gR.ret rfl ?_
        exact ⟨trivial, by rw [show aSeen G (nI mm) (nI kk) (nI ss) = _ from if_pos ⟨zc4, zc14, zc23⟩, if_neg hn], hF, by rw [show sSeen G (nI mm) (nI kk) (nI ss) = _ from if_pos ⟨zc4, zc14, zc23⟩, if_neg hn, nI_clamp (by omega), nI_clamp (by omega), nI_clamp (by omega)]; exact hE⟩
      · rw [bI_ne0] at zc23
        refine gR.steps 1 (σ, (28, [some (.ref 18), some (.int (nI mm)), some (.int (nI kk)), some (.int s)], [.int (-2)])) rfl ?_
        refine gR.ret rfl ?_
        exact ⟨trivial, by rw [show aSeen G (nI mm) (nI kk) s = -2 from if_neg (by omega)], cSiF.rf σ, by rw [show sSeen G (nI mm) (nI kk) s = G from if_neg (by omega)]; exact hg⟩
theorem s_X10_seenF {d : Nat} (hd : 3 ≤ d) (σ : gS) (G : xSig) (m k s : Int32) (hg : cSg σ G) (hn :  G.1 = 8) : gC d 64 [.ref 18, .int m, .int k, .int s] σ (fun r τ => r = some (.int (aSeen G m k s)) ∧ cSiF σ τ ∧ cSg τ (sSeen G m k s)) := by
  obtain ⟨d, rfl⟩ : ∃ k, d = k + 1 := ⟨d - 1, by omega⟩
  refine gC.of (P := pX10_seen) (nL := 4) (rt := (some (.int))) (lv := [some (.ref 18), some (.int m), some (.int k), some (.int s)]) (by decide +kernel) rfl rfl rfl (by simp [gEnt, Value.category]) rfl ?_
  have hn8 : G.1 ≤ 8 := hg.2.1
  refine gR.steps 1 (σ, (1, [some (.ref 18), some (.int m), some (.int k), some (.int s)], [.int m])) rfl ?_
  refine gR.callp rfl (s_X10_isMonth (by omega) σ m) ?_
  refine gR.ifte rfl (fun zc4 => ?_) (fun zc4 => ?_)
  · rw [bI_eq0] at zc4
    refine gR.steps 1 (σ, (28, [some (.ref 18), some (.int m), some (.int k), some (.int s)], [.int (-2)])) rfl ?_
    refine gR.ret rfl ?_
    exact ⟨trivial, by rw [show aSeen G m k s = -2 from if_neg (by omega)], cSiF.rf σ, by rw [show sSeen G m k s = G from if_neg (by omega)]; exact hg⟩
  · rw [bI_eq0, Decidable.not_not] at zc4
    obtain ⟨mm, hmm, rfl⟩ := gN_of (x := m) (n := 24) (by omega) (by omega) (by omega)
    refine gR.steps 3 (σ, (11, [some (.ref 18), some (.int (nI mm)), some (.int k), some (.int s)], [.int 9, .int 0, .int k])) rfl ?_
    refine gR.callp rfl (s_X10_withinI (by omega) σ k 0 9 0 9 (by decide) (by decide)) ?_
    refine gR.ifte rfl (fun zc14 => ?_) (fun zc14 => ?_)
    · rw [bI_eq0] at zc14
      refine gR.steps 1 (σ, (28, [some (.ref 18), some (.int (nI mm)), some (.int k), some (.int s)], [.int (-2)])) rfl ?_
      refine gR.ret rfl ?_
      exact ⟨trivial, by rw [show aSeen G (nI mm) k s = -2 from if_neg (by omega)], cSiF.rf σ, by rw [show sSeen G (nI mm) k s = G from if_neg (by omega)]; exact hg⟩
    · rw [bI_eq0, Decidable.not_not] at zc14
      obtain ⟨kk, hkk, rfl⟩ := gN_of (x := k) (n := 10) (by omega) (by omega) (by omega)
      refine gR.steps 3 (σ, (20, [some (.ref 18), some (.int (nI mm)), some (.int (nI kk)), some (.int s)], [.int 4, .int 0, .int s])) rfl ?_
      refine gR.callp rfl (s_X10_withinI (by omega) σ s 0 4 0 4 (by decide) (by decide)) ?_
      refine gR.ifte rfl (fun zc23 => ?_) (fun zc23 => ?_)
      · rw [bI_ne0] at zc23
        obtain ⟨ss, hss, rfl⟩ := gN_of (x := s) (n := 5) (by omega) (by omega) (by omega)
        refine gR.steps 5 (σ, (36, [some (.ref 18), some (.int (nI mm)), some (.int (nI kk)), some (.int (nI ss))], [.int (nI ss), .int (nI kk), .int (nI mm), .ref 37])) rfl ?_
        refine gR.callp rfl (s_X7_add37F (by omega) σ (nI mm) (nI kk) (nI ss) (by rw [hg.1, hn]; rfl)) ?_
        refine gR.ret rfl ?_
        exact ⟨trivial, by rw [show aSeen G (nI mm) (nI kk) (nI ss) = _ from if_pos ⟨zc4, zc14, zc23⟩, if_pos hn], cSiF.rf σ, by rw [show sSeen G (nI mm) (nI kk) (nI ss) = _ from if_pos ⟨zc4, zc14, zc23⟩, if_pos hn]; exact hg⟩
      · rw [bI_ne0] at zc23
        refine gR.steps 1 (σ, (28, [some (.ref 18), some (.int (nI mm)), some (.int (nI kk)), some (.int s)], [.int (-2)])) rfl ?_
        refine gR.ret rfl ?_
        exact ⟨trivial, by rw [show aSeen G (nI mm) (nI kk) s = -2 from if_neg (by omega)], cSiF.rf σ, by rw [show sSeen G (nI mm) (nI kk) s = G from if_neg (by omega)]; exact hg⟩
theorem s_X10_seen {d : Nat} (hd : 3 ≤ d) (σ : gS) (G : xSig) (m k s : Int32) (hg : cSg σ G) : gC d 64 [.ref 18, .int m, .int k, .int s] σ (fun r τ => r = some (.int (aSeen G m k s)) ∧ cSiF σ τ ∧ cSg τ (sSeen G m k s)) := by
  by_cases hn : G.1 = 8
  · exact s_X10_seenF hd σ G m k s hg hn
  · exact s_X10_seenN hd σ G m k s hg hn
theorem s_X7_clear {d : Nat} (hd : 1 ≤ d) (σ : gS) (G : xSig) (hg : cSg σ G) : gC d 29 [.ref 37] σ (fun r τ => r = some (.int (nI G.1)) ∧ τ = gUp σ 37 3 0) := by
  obtain ⟨d, rfl⟩ : ∃ k, d = k + 1 := ⟨d - 1, by omega⟩
  refine gC.of (P := pX7_clear) (nL := 2) (rt := (some (.int))) (lv := [some (.ref 37), none]) (by decide +kernel) rfl rfl rfl (by simp [gEnt, Value.category]) rfl ?_
  refine gR.steps 2 (σ, (4, [some (.ref 37), none], [.int (σ 37 3)])) rfl ?_
  refine gR.topI (y := nI (G.1)) hg.1 ?_
  refine gR.steps 5 (gUp σ 37 3 0, (11, [some (.ref 37), some (.int (nI (G.1)))], [.int (nI (G.1))])) rfl ?_
  show gR _ _ _ (gUp σ 37 3 0) (11, [some (.ref 37), some (.int (nI (G.1)))], [.int (nI (G.1))])
  refine gR.ret rfl ?_
  exact ⟨trivial, rfl, rfl⟩
theorem s_X10_forget {d : Nat} (hd : 2 ≤ d) (σ : gS) (G : xSig) (hg : cSg σ G) : gC d 65 [.ref 18] σ (fun r τ => r = some (.int (nI G.1)) ∧ cSiF σ τ ∧ cSg τ (0, G.2)) := by
  obtain ⟨d, rfl⟩ : ∃ k, d = k + 1 := ⟨d - 1, by omega⟩
  refine gC.of (P := pX10_forget) (nL := 1) (rt := (some (.int))) (lv := [some (.ref 18)]) (by decide +kernel) rfl rfl rfl (by simp [gEnt, Value.category]) rfl ?_
  refine gR.steps 2 (σ, (4, [some (.ref 18)], [.ref 37])) rfl ?_
  refine gR.call' rfl (s_X7_clear (by omega) σ G hg) ?_
  rintro _ _ ⟨rfl, rfl⟩ 
  show gR _ _ _ (gUp σ 37 3 0) (7, [some (.ref 18)], [.int (nI (G.1))])
  show gR _ _ _ (gUp σ 37 3 0) (7, [some (.ref 18)], [.int (nI (G.1))])
  refine gR.ret rfl ?_
  exact ⟨trivial, rfl, fun q a b c k => gUp_ne a, ⟨gUp_s _ _ _ _, by omega, fun i hi => absurd hi (Nat.not_lt_zero i)⟩⟩
