-- the mathematics: events (kinds K, months M, bushes B, n of them), what they do
def xLast (kind sort : Nat) : Nat := ([9, 12, 12, 2, 2, 3, 1, 2, 0, 3, 3, 3] : List Nat).getD (kind * 3 + sort) 0
def xHit (K M B : Nat → Nat) (kind : Nat) (who : Option Nat) (sort m e : Nat) : Bool := decide (K e = kind) && (decide (kind = 2) || decide (who = some (B e))) && decide (M e ≤ m) && decide (m < M e + xLast kind sort)
def xOn (n : Nat) (K M B : Nat → Nat) (gn : Nat → Bool) (kind : Nat) (who : Option Nat) (sort m : Nat) : Bool := xAny (fun e => !gn e && xHit K M B kind who sort m e) n
def xSeason (sort begin m : Nat) : Bool := decide ((m % 12 + 12 - begin) % 12 < ([6, 4, 3] : List Nat).getD sort 0)
/-- events in the model's memory -/
def mEv (σ : gS) (n : Nat) (K M B : Nat → Nat) : Prop := σ 0 13 = nI n ∧ n ≤ 8 ∧ ∀ i, i < n → σ 9 (3 * i) = nI (K i) ∧ σ 9 (3 * i + 1) = nI (M i) ∧ σ 9 (3 * i + 2) = nI (B i) ∧ K i < 4 ∧ M i < 24 ∧ B i < 10
/-- bushes in the model's memory -/
def mBu (σ : gS) (n : Nat) (kd bg sp : Nat → Nat) : Prop := σ 0 7 = nI n ∧ n ≤ 11 ∧ ∀ i, i < n → σ 7 (3 * i) = nI (kd i) ∧ σ 7 (3 * i + 1) = nI (bg i) ∧ σ 7 (3 * i + 2) = nI (sp i) ∧ kd i < 3 ∧ bg i < 12 ∧ sp i < 10
def mGone (σ : gS) (gn : Nat → Bool) : Prop := ∀ e, e < 8 → ((σ 0 15 >>> (nI e &&& 31)) &&& 1 = 1 ↔ gn e = true)
/-- who a bush is to the events: the last one is nobody where one more is thought of -/
def xWho (more : Bool) (n k : Nat) : Option Nat := if more = true ∧ k + 1 = n then none else some k
theorem s_X11_isIn {d : Nat} (hd : 1 ≤ d) (σ : gS) (bits k : Int32) : gC d 114 [.int bits, .int k] σ (fun r τ => r = some (.int (bI ((bits >>> (k &&& 31)) &&& 1 = 1))) ∧ τ = σ) := by
  obtain ⟨d, rfl⟩ : ∃ k, d = k + 1 := ⟨d - 1, by omega⟩
  refine gC.of (P := pX11_isIn) (nL := 2) (rt := (some (.boolean))) (lv := [some (.int bits), some (.int k)]) (by decide +kernel) rfl rfl rfl (by simp [gEnt, Value.category]) rfl ?_
  refine gR.steps 6 (σ, (6, [some (.int bits), some (.int k)], [.int 1, .int ((bits >>> (k &&& 31)) &&& 1)])) rfl ?_
  refine gR.ifte rfl (fun zc6 => ?_) (fun zc6 => ?_)
  · refine gR.steps 1 (σ, (14, [some (.int bits), some (.int k)], [.int 0])) rfl ?_
    refine gR.ret rfl ?_
    exact ⟨gOk0, by rw [bI_f (by first | assumption | exact Decidable.not_not.mp (by assumption))], rfl⟩
  · refine gR.steps 2 (σ, (14, [some (.int bits), some (.int k)], [.int 1])) rfl ?_
    refine gR.ret rfl ?_
    exact ⟨gOk1, by rw [bI_t (by first | assumption | exact Decidable.not_not.mp (by assumption))], rfl⟩
theorem s_X11_lesser {d : Nat} (hd : 1 ≤ d) (σ : gS) (a b : Int32) : gC d 116 [.int a, .int b] σ (fun r τ => r = some (.int (if a < b then a else b)) ∧ τ = σ) := by
  obtain ⟨d, rfl⟩ : ∃ k, d = k + 1 := ⟨d - 1, by omega⟩
  refine gC.of (P := pX11_lesser) (nL := 2) (rt := (some (.int))) (lv := [some (.int a), some (.int b)]) (by decide +kernel) rfl rfl rfl (by simp [gEnt, Value.category]) rfl ?_
  refine gR.steps 2 (σ, (2, [some (.int a), some (.int b)], [.int b, .int a])) rfl ?_
  refine gR.ifte rfl (fun zc2 => ?_) (fun zc2 => ?_)
  · refine gR.steps 1 (σ, (10, [some (.int a), some (.int b)], [.int b])) rfl ?_
    refine gR.ret rfl ?_
    exact ⟨trivial, by rw [if_neg (Int32.not_lt.mpr (by assumption))], rfl⟩
  · refine gR.steps 2 (σ, (10, [some (.int a), some (.int b)], [.int a])) rfl ?_
    refine gR.ret rfl ?_
    exact ⟨trivial, by rw [if_pos (Int32.not_le.mp (by assumption))], rfl⟩
theorem s_X11_greater {d : Nat} (hd : 1 ≤ d) (σ : gS) (a b : Int32) : gC d 117 [.int a, .int b] σ (fun r τ => r = some (.int (if b < a then a else b)) ∧ τ = σ) := by
  obtain ⟨d, rfl⟩ : ∃ k, d = k + 1 := ⟨d - 1, by omega⟩
  refine gC.of (P := pX11_greater) (nL := 2) (rt := (some (.int))) (lv := [some (.int a), some (.int b)]) (by decide +kernel) rfl rfl rfl (by simp [gEnt, Value.category]) rfl ?_
  refine gR.steps 2 (σ, (2, [some (.int a), some (.int b)], [.int b, .int a])) rfl ?_
  refine gR.ifte rfl (fun zc2 => ?_) (fun zc2 => ?_)
  · refine gR.steps 1 (σ, (10, [some (.int a), some (.int b)], [.int b])) rfl ?_
    refine gR.ret rfl ?_
    exact ⟨trivial, by rw [if_neg (Int32.not_lt.mpr (by assumption))], rfl⟩
  · refine gR.steps 2 (σ, (10, [some (.int a), some (.int b)], [.int a])) rfl ?_
    refine gR.ret rfl ?_
    exact ⟨trivial, by rw [if_pos (Int32.not_le.mp (by assumption))], rfl⟩
theorem s_X11_lasts {d : Nat} (hd : 1 ≤ d) (σ : gS) (kind sort : Nat) (hk : kind < 4) (hs : sort < 3) : gC d 148 [.int (nI kind), .int (nI sort)] σ (fun r τ => r = some (.int (nI (xLast kind sort))) ∧ τ = σ) := by
  obtain ⟨d, rfl⟩ : ∃ k, d = k + 1 := ⟨d - 1, by omega⟩
  have h00 : gC (d + 1) 148 [.int 0, .int 0] σ (fun r τ => r = some (.int (nI (xLast 0 0))) ∧ τ = σ) := by
    refine gC.of (P := pX11_lasts) (nL := 2) (rt := some .int) (lv := [some (.int 0), some (.int 0)]) (by decide +kernel) rfl rfl rfl (by simp [gEnt, Value.category]) rfl ?_
    refine gR.steps 3 (σ, (29, [some (.int 0), some (.int 0)], [.int 0])) rfl ?_
    refine gR.brF rfl (by decide) ?_
    refine gR.steps 2 (σ, (39, [some (.int 0), some (.int 0)], [.int 9])) rfl ?_
    refine gR.ret rfl ?_
    exact ⟨trivial, rfl, rfl⟩
  have h01 : gC (d + 1) 148 [.int 0, .int 1] σ (fun r τ => r = some (.int (nI (xLast 0 1))) ∧ τ = σ) := by
    refine gC.of (P := pX11_lasts) (nL := 2) (rt := some .int) (lv := [some (.int 0), some (.int 1)]) (by decide +kernel) rfl rfl rfl (by simp [gEnt, Value.category]) rfl ?_
    refine gR.steps 3 (σ, (29, [some (.int 0), some (.int 1)], [.int 1])) rfl ?_
    refine gR.brT rfl (by decide) ?_
    refine gR.steps 1 (σ, (39, [some (.int 0), some (.int 1)], [.int 12])) rfl ?_
    refine gR.ret rfl ?_
    exact ⟨trivial, rfl, rfl⟩
  have h02 : gC (d + 1) 148 [.int 0, .int 2] σ (fun r τ => r = some (.int (nI (xLast 0 2))) ∧ τ = σ) := by
    refine gC.of (P := pX11_lasts) (nL := 2) (rt := some .int) (lv := [some (.int 0), some (.int 2)]) (by decide +kernel) rfl rfl rfl (by simp [gEnt, Value.category]) rfl ?_
    refine gR.steps 3 (σ, (29, [some (.int 0), some (.int 2)], [.int 2])) rfl ?_
    refine gR.brT rfl (by decide) ?_
    refine gR.steps 1 (σ, (39, [some (.int 0), some (.int 2)], [.int 12])) rfl ?_
    refine gR.ret rfl ?_
    exact ⟨trivial, rfl, rfl⟩
  have h10 : gC (d + 1) 148 [.int 1, .int 0] σ (fun r τ => r = some (.int (nI (xLast 1 0))) ∧ τ = σ) := by
    refine gC.of (P := pX11_lasts) (nL := 2) (rt := some .int) (lv := [some (.int 1), some (.int 0)]) (by decide +kernel) rfl rfl rfl (by simp [gEnt, Value.category]) rfl ?_
    refine gR.steps 4 (σ, (42, [some (.int 1), some (.int 0)], [.int 2, .int 0])) rfl ?_
    refine gR.brT rfl (by decide) ?_
    refine gR.steps 1 (σ, (50, [some (.int 1), some (.int 0)], [.int 2])) rfl ?_
    refine gR.ret rfl ?_
    exact ⟨trivial, rfl, rfl⟩
  have h11 : gC (d + 1) 148 [.int 1, .int 1] σ (fun r τ => r = some (.int (nI (xLast 1 1))) ∧ τ = σ) := by
    refine gC.of (P := pX11_lasts) (nL := 2) (rt := some .int) (lv := [some (.int 1), some (.int 1)]) (by decide +kernel) rfl rfl rfl (by simp [gEnt, Value.category]) rfl ?_
    refine gR.steps 4 (σ, (42, [some (.int 1), some (.int 1)], [.int 2, .int 1])) rfl ?_
    refine gR.brT rfl (by decide) ?_
    refine gR.steps 1 (σ, (50, [some (.int 1), some (.int 1)], [.int 2])) rfl ?_
    refine gR.ret rfl ?_
    exact ⟨trivial, rfl, rfl⟩
  have h12 : gC (d + 1) 148 [.int 1, .int 2] σ (fun r τ => r = some (.int (nI (xLast 1 2))) ∧ τ = σ) := by
    refine gC.of (P := pX11_lasts) (nL := 2) (rt := some .int) (lv := [some (.int 1), some (.int 2)]) (by decide +kernel) rfl rfl rfl (by simp [gEnt, Value.category]) rfl ?_
    refine gR.steps 4 (σ, (42, [some (.int 1), some (.int 2)], [.int 2, .int 2])) rfl ?_
    refine gR.brF rfl (by decide) ?_
    refine gR.steps 2 (σ, (50, [some (.int 1), some (.int 2)], [.int 3])) rfl ?_
    refine gR.ret rfl ?_
    exact ⟨trivial, rfl, rfl⟩
  have h20 : gC (d + 1) 148 [.int 2, .int 0] σ (fun r τ => r = some (.int (nI (xLast 2 0))) ∧ τ = σ) := by
    refine gC.of (P := pX11_lasts) (nL := 2) (rt := some .int) (lv := [some (.int 2), some (.int 0)]) (by decide +kernel) rfl rfl rfl (by simp [gEnt, Value.category]) rfl ?_
    refine gR.steps 3 (σ, (52, [some (.int 2), some (.int 0)], [.int 0])) rfl ?_
    refine gR.brF rfl (by decide) ?_
    refine gR.steps 2 (σ, (69, [some (.int 2), some (.int 0)], [.int 1])) rfl ?_
    refine gR.ret rfl ?_
    exact ⟨trivial, rfl, rfl⟩
  have h21 : gC (d + 1) 148 [.int 2, .int 1] σ (fun r τ => r = some (.int (nI (xLast 2 1))) ∧ τ = σ) := by
    refine gC.of (P := pX11_lasts) (nL := 2) (rt := some .int) (lv := [some (.int 2), some (.int 1)]) (by decide +kernel) rfl rfl rfl (by simp [gEnt, Value.category]) rfl ?_
    refine gR.steps 3 (σ, (52, [some (.int 2), some (.int 1)], [.int 1])) rfl ?_
    refine gR.brT rfl (by decide) ?_
    refine gR.steps 2 (σ, (61, [some (.int 2), some (.int 1)], [.int 1, .int 1])) rfl ?_
    refine gR.brF rfl (by decide) ?_
    refine gR.steps 2 (σ, (69, [some (.int 2), some (.int 1)], [.int 2])) rfl ?_
    refine gR.ret rfl ?_
    exact ⟨trivial, rfl, rfl⟩
  have h22 : gC (d + 1) 148 [.int 2, .int 2] σ (fun r τ => r = some (.int (nI (xLast 2 2))) ∧ τ = σ) := by
    refine gC.of (P := pX11_lasts) (nL := 2) (rt := some .int) (lv := [some (.int 2), some (.int 2)]) (by decide +kernel) rfl rfl rfl (by simp [gEnt, Value.category]) rfl ?_
    refine gR.steps 3 (σ, (52, [some (.int 2), some (.int 2)], [.int 2])) rfl ?_
    refine gR.brT rfl (by decide) ?_
    refine gR.steps 2 (σ, (61, [some (.int 2), some (.int 2)], [.int 1, .int 2])) rfl ?_
    refine gR.brT rfl (by decide) ?_
    refine gR.steps 1 (σ, (69, [some (.int 2), some (.int 2)], [.int 0])) rfl ?_
    refine gR.ret rfl ?_
    exact ⟨trivial, rfl, rfl⟩
  have h30 : gC (d + 1) 148 [.int 3, .int 0] σ (fun r τ => r = some (.int (nI (xLast 3 0))) ∧ τ = σ) := by
    refine gC.of (P := pX11_lasts) (nL := 2) (rt := some .int) (lv := [some (.int 3), some (.int 0)]) (by decide +kernel) rfl rfl rfl (by simp [gEnt, Value.category]) rfl ?_
    refine gR.steps 3 (σ, (71, [some (.int 3), some (.int 0)], [.int 3])) rfl ?_
    refine gR.ret rfl ?_
    exact ⟨trivial, rfl, rfl⟩
  have h31 : gC (d + 1) 148 [.int 3, .int 1] σ (fun r τ => r = some (.int (nI (xLast 3 1))) ∧ τ = σ) := by
    refine gC.of (P := pX11_lasts) (nL := 2) (rt := some .int) (lv := [some (.int 3), some (.int 1)]) (by decide +kernel) rfl rfl rfl (by simp [gEnt, Value.category]) rfl ?_
    refine gR.steps 3 (σ, (71, [some (.int 3), some (.int 1)], [.int 3])) rfl ?_
    refine gR.ret rfl ?_
    exact ⟨trivial, rfl, rfl⟩
  have h32 : gC (d + 1) 148 [.int 3, .int 2] σ (fun r τ => r = some (.int (nI (xLast 3 2))) ∧ τ = σ) := by
    refine gC.of (P := pX11_lasts) (nL := 2) (rt := some .int) (lv := [some (.int 3), some (.int 2)]) (by decide +kernel) rfl rfl rfl (by simp [gEnt, Value.category]) rfl ?_
    refine gR.steps 3 (σ, (71, [some (.int 3), some (.int 2)], [.int 3])) rfl ?_
    refine gR.ret rfl ?_
    exact ⟨trivial, rfl, rfl⟩
  rcases (show kind = 0 ∨ kind = 1 ∨ kind = 2 ∨ kind = 3 by omega) with rfl | rfl | rfl | rfl <;> rcases (show sort = 0 ∨ sort = 1 ∨ sort = 2 by omega) with rfl | rfl | rfl <;> assumption
