theorem lgc_lt (x y : Int64) : lg_cmp x y < 0 ↔ x.toInt < y.toInt := by
  unfold lg_cmp
  simp only [gt_iff_lt, Int64.lt_iff_toInt_lt, ← Int64.toInt_inj]
  by_cases h1 : y.toInt < x.toInt
  · rw [if_pos h1]; exact ⟨fun z => absurd z (by decide), fun z => by omega⟩
  · by_cases h2 : x.toInt = y.toInt
    · rw [if_neg h1, if_pos h2]; exact ⟨fun z => absurd z (by decide), fun z => by omega⟩
    · rw [if_neg h1, if_neg h2]; exact ⟨fun _ => by omega, fun _ => by decide⟩
theorem lgc_gt (x y : Int64) : 0 < lg_cmp x y ↔ y.toInt < x.toInt := by
  unfold lg_cmp
  simp only [gt_iff_lt, Int64.lt_iff_toInt_lt, ← Int64.toInt_inj]
  by_cases h1 : y.toInt < x.toInt
  · rw [if_pos h1]; exact ⟨fun _ => h1, fun _ => by decide⟩
  · by_cases h2 : x.toInt = y.toInt
    · rw [if_neg h1, if_pos h2]; exact ⟨fun z => absurd z (by decide), fun z => by omega⟩
    · rw [if_neg h1, if_neg h2]; exact ⟨fun z => absurd z (by decide), fun z => by omega⟩
theorem lgc_eq (x y : Int64) : lg_cmp x y = 0 ↔ x = y := by
  unfold lg_cmp
  simp only [gt_iff_lt, Int64.lt_iff_toInt_lt, ← Int64.toInt_inj]
  by_cases h1 : y.toInt < x.toInt
  · rw [if_pos h1]; exact ⟨fun z => absurd z (by decide), fun z => by omega⟩
  · by_cases h2 : x.toInt = y.toInt
    · rw [if_neg h1, if_pos h2]; exact ⟨fun _ => h2, fun _ => rfl⟩
    · rw [if_neg h1, if_neg h2]; exact ⟨fun z => absurd z (by decide), fun z => absurd z h2⟩
theorem iI64 (x : Int32) : (Int32.toInt64 x).toInt = x.toInt := Int32.toInt_toInt64 x
theorem gOk0 : gRetOk (some .boolean) (some (.int 0)) := Or.inl rfl
theorem gOk1 : gRetOk (some .boolean) (some (.int 1)) := Or.inr rfl
/-- a literal's Int -/
theorem iLit0 : (0 : Int64).toInt = 0 := by decide
theorem iLit1 : (1 : Int64).toInt = 1 := by decide
theorem s_X11_in {d : Nat} (hd : 1 ≤ d) (σ : gS) (v lo hi : Int64) : gC d 111 [.long v, .long lo, .long hi] σ (fun r τ => r = some (.int (bI (lo.toInt ≤ v.toInt ∧ v.toInt ≤ hi.toInt))) ∧ τ = σ) := by
  obtain ⟨d, rfl⟩ : ∃ k, d = k + 1 := ⟨d - 1, by omega⟩
  refine gC.of (P := pX11_in) (nL := 6) (rt := (some (.boolean))) (lv := [some (.long v), none, some (.long lo), none, some (.long hi), none]) (by decide +kernel) rfl rfl rfl (by simp [gEnt, Value.category]) rfl ?_
  refine gR.steps 3 (σ, (3, [some (.long v), none, some (.long lo), none, some (.long hi), none], [.int (lg_cmp v lo)])) rfl ?_
  refine gR.ifte rfl (fun zc3 => ?_) (fun zc3 => ?_)
  · refine gR.steps 1 (σ, (18, [some (.long v), none, some (.long lo), none, some (.long hi), none], [.int 0])) rfl ?_
    refine gR.ret rfl ?_
    exact ⟨gOk0, by rw [bI_f (by simp only [lgc_lt, lgc_gt] at *; omega)], rfl⟩
  · refine gR.steps 3 (σ, (10, [some (.long v), none, some (.long lo), none, some (.long hi), none], [.int (lg_cmp v hi)])) rfl ?_
    refine gR.ifte rfl (fun zc10 => ?_) (fun zc10 => ?_)
    · refine gR.steps 1 (σ, (18, [some (.long v), none, some (.long lo), none, some (.long hi), none], [.int 0])) rfl ?_
      refine gR.ret rfl ?_
      exact ⟨gOk0, by rw [bI_f (by simp only [lgc_lt, lgc_gt] at *; omega)], rfl⟩
    · refine gR.steps 2 (σ, (18, [some (.long v), none, some (.long lo), none, some (.long hi), none], [.int 1])) rfl ?_
      refine gR.ret rfl ?_
      exact ⟨gOk1, by rw [bI_t (by simp only [lgc_lt, lgc_gt] at *; omega)], rfl⟩
theorem s_X11_isTwo {d : Nat} (hd : 2 ≤ d) (σ : gS) (v : Int32) : gC d 113 [.int v] σ (fun r τ => r = some (.int (bI (0 ≤ v.toInt ∧ v.toInt ≤ 1))) ∧ τ = σ) := by
  obtain ⟨d, rfl⟩ : ∃ k, d = k + 1 := ⟨d - 1, by omega⟩
  refine gC.of (P := pX11_isTwo) (nL := 1) (rt := (some (.boolean))) (lv := [some (.int v)]) (by decide +kernel) rfl rfl rfl (by simp [gEnt, Value.category]) rfl ?_
  refine gR.steps 4 (σ, (4, [some (.int v)], [.long 1, .long 0, .long (Int32.toInt64 v)])) rfl ?_
  refine gR.callp rfl (s_X11_in (by omega) σ (Int32.toInt64 v) 0 1) ?_
  refine gR.ret rfl ?_
  exact ⟨bI_ret _, by rw [bI_congr (show (Int64.toInt 0 ≤ Int64.toInt (Int32.toInt64 v) ∧ Int64.toInt (Int32.toInt64 v) ≤ Int64.toInt 1) ↔ (0 ≤ v.toInt ∧ v.toInt ≤ 1) by simp only [iI64, iLit0, iLit1, Int64.reduceToInt]; try omega)], rfl⟩
theorem s_X11_isMonth {d : Nat} (hd : 2 ≤ d) (σ : gS) (v : Int32) : gC d 139 [.int v] σ (fun r τ => r = some (.int (bI (0 ≤ v.toInt ∧ v.toInt ≤ 23))) ∧ τ = σ) := by
  obtain ⟨d, rfl⟩ : ∃ k, d = k + 1 := ⟨d - 1, by omega⟩
  refine gC.of (P := pX11_isMonth) (nL := 1) (rt := (some (.boolean))) (lv := [some (.int v)]) (by decide +kernel) rfl rfl rfl (by simp [gEnt, Value.category]) rfl ?_
  refine gR.steps 4 (σ, (6, [some (.int v)], [.long 23, .long 0, .long (Int32.toInt64 v)])) rfl ?_
  refine gR.callp rfl (s_X11_in (by omega) σ (Int32.toInt64 v) 0 23) ?_
  refine gR.ret rfl ?_
  exact ⟨bI_ret _, by rw [bI_congr (show (Int64.toInt 0 ≤ Int64.toInt (Int32.toInt64 v) ∧ Int64.toInt (Int32.toInt64 v) ≤ Int64.toInt 23) ↔ (0 ≤ v.toInt ∧ v.toInt ≤ 23) by simp only [iI64, iLit0, iLit1, Int64.reduceToInt]; try omega)], rfl⟩
theorem s_X11_isSheet {d : Nat} (hd : 2 ≤ d) (σ : gS) (v : Int32) : gC d 120 [.int v] σ (fun r τ => r = some (.int (bI (0 ≤ v.toInt ∧ v.toInt ≤ 3))) ∧ τ = σ) := by
  obtain ⟨d, rfl⟩ : ∃ k, d = k + 1 := ⟨d - 1, by omega⟩
  refine gC.of (P := pX11_isSheet) (nL := 1) (rt := (some (.boolean))) (lv := [some (.int v)]) (by decide +kernel) rfl rfl rfl (by simp [gEnt, Value.category]) rfl ?_
  refine gR.steps 4 (σ, (6, [some (.int v)], [.long 3, .long 0, .long (Int32.toInt64 v)])) rfl ?_
  refine gR.callp rfl (s_X11_in (by omega) σ (Int32.toInt64 v) 0 3) ?_
  refine gR.ret rfl ?_
  exact ⟨bI_ret _, by rw [bI_congr (show (Int64.toInt 0 ≤ Int64.toInt (Int32.toInt64 v) ∧ Int64.toInt (Int32.toInt64 v) ≤ Int64.toInt 3) ↔ (0 ≤ v.toInt ∧ v.toInt ≤ 3) by simp only [iI64, iLit0, iLit1, Int64.reduceToInt]; try omega)], rfl⟩
