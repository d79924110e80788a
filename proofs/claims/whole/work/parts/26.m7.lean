def xV0 (k c : Nat) : Option Nat := match k with
  | 0 => if c = 99 then some 0 else if c = 101 then some 1 else if c = 100 then some 2 else none
  | 1 => if 97 ≤ c ∧ c ≤ 108 then some (c - 97) else none
  | 2 => if 49 ≤ c ∧ c ≤ 57 then some (c - 48) else none
  | _ => if c = 59 then some 0 else none
def xV1 (k c : Nat) : Option Nat := match k with
  | 0 => if 97 ≤ c ∧ c ≤ 120 then some (c - 97) else none
  | 1 => if 48 ≤ c ∧ c ≤ 57 then some (c - 48) else none
  | _ => if c = 59 then some 0 else none
theorem xV0_1 (c : Nat) : xV0 1 c = if 97 ≤ c ∧ c ≤ 108 then some (c - 97) else none := rfl
theorem xV0_2 (c : Nat) : xV0 2 c = if 49 ≤ c ∧ c ≤ 57 then some (c - 48) else none := rfl
theorem xV0_3 (c : Nat) : xV0 3 c = if c = 59 then some 0 else none := rfl
theorem xV1_0 (c : Nat) : xV1 0 c = if 97 ≤ c ∧ c ≤ 120 then some (c - 97) else none := rfl
theorem xV1_1 (c : Nat) : xV1 1 c = if 48 ≤ c ∧ c ≤ 57 then some (c - 48) else none := rfl
theorem xV1_2 (c : Nat) : xV1 2 c = if c = 59 then some 0 else none := rfl
def xW : Option Nat → Int32
  | some v => nI v
  | none => -9
theorem xV0_lt {k c v : Nat} (h : xV0 k c = some v) : (k = 0 → v < 3) ∧ (k = 1 → v < 12) ∧ (k = 2 → v < 10) ∧ v < 12 := by
  unfold xV0 at h
  split at h
  · repeat' split at h
    all_goals first | (cases h; omega) | (cases h)
  · split at h
    · cases h; omega
    · cases h
  · split at h
    · cases h; omega
    · cases h
  · split at h
    · cases h; omega
    · cases h
theorem xV1_lt {k c v : Nat} (h : xV1 k c = some v) : (k = 0 → v < 24) ∧ (k = 1 → v < 10) ∧ v < 24 := by
  unfold xV1 at h
  split at h
  · split at h
    · cases h; omega
    · cases h
  · split at h
    · cases h; omega
    · cases h
  · split at h
    · cases h; omega
    · cases h
theorem nI_m9 {v : Nat} (h : v < 100) : ¬ nI v = -9 := by
  intro z
  have := congrArg Int32.toInt z
  rw [nI_toInt (by omega)] at this
  rw [show (-9 : Int32).toInt = -9 from by decide] at this
  omega
theorem xW_ne {o : Option Nat} (h : ¬ xW o = -9) : ∃ v, o = some v := by
  cases o with
  | none => exact absurd rfl h
  | some v => exact ⟨v, rfl⟩
theorem xW_eq {o : Option Nat} (hl : ∀ v, o = some v → v < 100) (h : xW o = -9) : o = none := by
  cases o with
  | none => rfl
  | some v => exact absurd h (nI_m9 (hl v rfl))
def xFst (g : Nat → Bool) : Nat → Nat
  | 0 => 0
  | n + 1 => if xFst g n < n then xFst g n else if g n = true then n + 1 else n
theorem xFst_all {g : Nat → Bool} : ∀ {n : Nat}, (∀ j, j < n → g j = true) → xFst g n = n
  | 0, _ => rfl
  | n + 1, h => by
    simp only [xFst]
    rw [xFst_all (n := n) (fun j hj => h j (by omega)), if_neg (by omega), if_pos (h n (by omega))]
theorem xFst_at {g : Nat → Bool} {i : Nat} (h1 : ∀ j, j < i → g j = true) (h2 : ¬ g i = true) : ∀ {n : Nat}, i < n → xFst g n = i
  | 0, h => absurd h (Nat.not_lt_zero _)
  | n + 1, h => by
    simp only [xFst]
    by_cases hi : i < n
    · rw [xFst_at h1 h2 hi, if_pos hi]
    · obtain rfl : i = n := by omega
      rw [xFst_all h1, if_neg (by omega), if_neg h2]
def xFlt (st : Nat) (g : Nat → Bool) (n : Nat) : Int32 := if xFst g n < n then nI (xFst g n) else if n = 0 ∨ n % st = st - 1 then -1 else nI n
def xNI (st : Nat) (g : Nat → Bool) (n : Nat) : Nat := if xFst g n < n then 0 else if n = 0 ∨ n % st = st - 1 then (n + 1) / st else 0
def xG0 (c : Nat → Nat) (j : Nat) : Bool := (xV0 (j % 4) (c j)).isSome
def xG1 (c : Nat → Nat) (j : Nat) : Bool := (xV1 (j % 3) (c j)).isSome
def xKd (c : Nat → Nat) (k : Nat) : Nat := (xV0 0 (c (4 * k))).getD 0
def xBg (c : Nat → Nat) (k : Nat) : Nat := (xV0 1 (c (4 * k + 1))).getD 0
def xSp (c : Nat → Nat) (k : Nat) : Nat := (xV0 2 (c (4 * k + 2))).getD 0
def xLm (c : Nat → Nat) (k : Nat) : Nat := (xV1 0 (c (3 * k))).getD 0
def xLb (c : Nat → Nat) (k : Nat) : Nat := (xV1 1 (c (3 * k + 1))).getD 0
theorem s_X11_kindOf {d : Nat} (hd : 1 ≤ d) (σ : gS) (c : Nat) (hc : c < 256) : gC d 131 [.int (nI c)] σ (fun r τ => r = some (.int (xW (xV0 0 c))) ∧ τ = σ) := by
  obtain ⟨d, rfl⟩ : ∃ k, d = k + 1 := ⟨d - 1, by omega⟩
  refine gC.of (P := pX11_kindOf) (nL := 1) (rt := (some (.int))) (lv := [some (.int (nI c))]) (by decide +kernel) rfl rfl rfl (by simp [gEnt, Value.category]) rfl ?_
  refine gR.steps 2 (σ, (3, [some (.int (nI c))], [.int 99, .int (nI c)])) rfl ?_
  refine gR.ifte rfl (fun zc3 => ?_) (fun zc3 => ?_)
  · rw [gN_eq (x := nI c) (y := 99) (a := c) (b := 99) rfl rfl (by omega) (by omega)] at zc3
    refine gR.steps 2 (σ, (13, [some (.int (nI c))], [.int 101, .int (nI c)])) rfl ?_
    refine gR.ifte rfl (fun zc13 => ?_) (fun zc13 => ?_)
    · rw [gN_eq (x := nI c) (y := 101) (a := c) (b := 101) rfl rfl (by omega) (by omega)] at zc13
      refine gR.steps 2 (σ, (23, [some (.int (nI c))], [.int 100, .int (nI c)])) rfl ?_
      refine gR.ifte rfl (fun zc23 => ?_) (fun zc23 => ?_)
      · rw [gN_eq (x := nI c) (y := 100) (a := c) (b := 100) rfl rfl (by omega) (by omega)] at zc23
        refine gR.steps 1 (σ, (32, [some (.int (nI c))], [.int (-9)])) rfl ?_
        refine gR.ret rfl ?_
        exact ⟨trivial, by unfold xV0; rw [if_neg zc3, if_neg zc13, if_neg zc23]; rfl, rfl⟩
      · rw [gN_eq (x := nI c) (y := 100) (a := c) (b := 100) rfl rfl (by omega) (by omega)] at zc23
        refine gR.steps 2 (σ, (32, [some (.int (nI c))], [.int 2])) rfl ?_
        refine gR.ret rfl ?_
        exact ⟨trivial, by unfold xV0; rw [if_neg zc3, if_neg zc13, if_pos (Decidable.not_not.mp zc23)]; rfl, rfl⟩
    · rw [gN_eq (x := nI c) (y := 101) (a := c) (b := 101) rfl rfl (by omega) (by omega)] at zc13
      refine gR.steps 2 (σ, (32, [some (.int (nI c))], [.int 1])) rfl ?_
      refine gR.ret rfl ?_
      exact ⟨trivial, by unfold xV0; rw [if_neg zc3, if_pos (Decidable.not_not.mp zc13)]; rfl, rfl⟩
  · rw [gN_eq (x := nI c) (y := 99) (a := c) (b := 99) rfl rfl (by omega) (by omega)] at zc3
    refine gR.steps 2 (σ, (32, [some (.int (nI c))], [.int 0])) rfl ?_
    refine gR.ret rfl ?_
    exact ⟨trivial, by unfold xV0; rw [if_pos (Decidable.not_not.mp zc3)]; rfl, rfl⟩
theorem s_X11_bushOf {d : Nat} (hd : 2 ≤ d) (σ : gS) (k c : Nat) (hk : k < 4) (hc : c < 256) : gC d 132 [.int (nI k), .int (nI c)] σ (fun r τ => r = some (.int (xW (xV0 k c))) ∧ τ = σ) := by
  obtain ⟨d, rfl⟩ : ∃ k, d = k + 1 := ⟨d - 1, by omega⟩
  have h0 : gC (d + 1) 132 [.int 0, .int (nI c)] σ (fun r τ => r = some (.int (xW (xV0 0 c))) ∧ τ = σ) := by
    refine gC.of (P := pX11_bushOf) (nL := 2) (rt := some .int) (lv := [some (.int 0), some (.int (nI c))]) (by decide +kernel) rfl rfl rfl (by simp [gEnt, Value.category]) rfl ?_
    refine gR.steps 3 (σ, (29, [some (.int 0), some (.int (nI c))], [.int (nI c)])) rfl ?_
    refine gR.callp rfl (s_X11_kindOf (by omega) σ c (by omega)) ?_
    refine gR.ret rfl ?_
    exact ⟨trivial, rfl, rfl⟩
  have h1 : gC (d + 1) 132 [.int 1, .int (nI c)] σ (fun r τ => r = some (.int (xW (xV0 1 c))) ∧ τ = σ) := by
    refine gC.of (P := pX11_bushOf) (nL := 2) (rt := some .int) (lv := [some (.int 1), some (.int (nI c))]) (by decide +kernel) rfl rfl rfl (by simp [gEnt, Value.category]) rfl ?_
    refine gR.steps 6 (σ, (41, [some (.int 1), some (.int (nI c))], [.long 108, .long 97, .long (Int32.toInt64 (nI c))])) rfl ?_
    refine gR.callp rfl (s_X11_in (by omega) σ (Int32.toInt64 (nI c)) 97 108) ?_
    refine gR.ifte rfl (fun zc44 => ?_) (fun zc44 => ?_)
    · rw [bI_eq0] at zc44
      simp only [iI64, nI_toInt (show c < 2147483648 by omega), Int64.reduceToInt] at zc44
      refine gR.steps 1 (σ, (56, [some (.int 1), some (.int (nI c))], [.int (-9)])) rfl ?_
      refine gR.ret rfl ?_
      exact ⟨trivial, by rw [xV0_1, if_neg (fun z => zc44 (by omega))]; rfl, rfl⟩
    · rw [bI_eq0, Decidable.not_not] at zc44
      simp only [iI64, nI_toInt (show c < 2147483648 by omega), Int64.reduceToInt] at zc44
      refine gR.steps 4 (σ, (56, [some (.int 1), some (.int (nI c))], [.int ((nI c) - 97)])) rfl ?_
      refine gR.ret rfl ?_
      exact ⟨trivial, by rw [xV0_1, if_pos (by omega), show (nI c - 97 : Int32) = nI (c - 97) from gN_sub rfl rfl (by omega)]; rfl, rfl⟩
  have h2 : gC (d + 1) 132 [.int 2, .int (nI c)] σ (fun r τ => r = some (.int (xW (xV0 2 c))) ∧ τ = σ) := by
    refine gC.of (P := pX11_bushOf) (nL := 2) (rt := some .int) (lv := [some (.int 2), some (.int (nI c))]) (by decide +kernel) rfl rfl rfl (by simp [gEnt, Value.category]) rfl ?_
    refine gR.steps 6 (σ, (65, [some (.int 2), some (.int (nI c))], [.long 57, .long 49, .long (Int32.toInt64 (nI c))])) rfl ?_
    refine gR.callp rfl (s_X11_in (by omega) σ (Int32.toInt64 (nI c)) 49 57) ?_
    refine gR.ifte rfl (fun zc68 => ?_) (fun zc68 => ?_)
    · rw [bI_eq0] at zc68
      simp only [iI64, nI_toInt (show c < 2147483648 by omega), Int64.reduceToInt] at zc68
      refine gR.steps 1 (σ, (80, [some (.int 2), some (.int (nI c))], [.int (-9)])) rfl ?_
      refine gR.ret rfl ?_
      exact ⟨trivial, by rw [xV0_2, if_neg (fun z => zc68 (by omega))]; rfl, rfl⟩
    · rw [bI_eq0, Decidable.not_not] at zc68
      simp only [iI64, nI_toInt (show c < 2147483648 by omega), Int64.reduceToInt] at zc68
      refine gR.steps 4 (σ, (80, [some (.int 2), some (.int (nI c))], [.int ((nI c) - 48)])) rfl ?_
      refine gR.ret rfl ?_
      exact ⟨trivial, by rw [xV0_2, if_pos (by omega), show (nI c - 48 : Int32) = nI (c - 48) from gN_sub rfl rfl (by omega)]; rfl, rfl⟩
  have h3 : gC (d + 1) 132 [.int 3, .int (nI c)] σ (fun r τ => r = some (.int (xW (xV0 3 c))) ∧ τ = σ) := by
    refine gC.of (P := pX11_bushOf) (nL := 2) (rt := some .int) (lv := [some (.int 3), some (.int (nI c))]) (by decide +kernel) rfl rfl rfl (by simp [gEnt, Value.category]) rfl ?_
    refine gR.steps 4 (σ, (84, [some (.int 3), some (.int (nI c))], [.int 59, .int (nI c)])) rfl ?_
    refine gR.ifte rfl (fun zc84 => ?_) (fun zc84 => ?_)
    · rw [gN_eq (x := nI c) (y := 59) (a := c) (b := 59) rfl rfl (by omega) (by omega)] at zc84
      refine gR.steps 1 (σ, (93, [some (.int 3), some (.int (nI c))], [.int (-9)])) rfl ?_
      refine gR.ret rfl ?_
      exact ⟨trivial, by rw [xV0_3, if_neg zc84]; rfl, rfl⟩
    · rw [gN_eq (x := nI c) (y := 59) (a := c) (b := 59) rfl rfl (by omega) (by omega)] at zc84
      refine gR.steps 2 (σ, (93, [some (.int 3), some (.int (nI c))], [.int 0])) rfl ?_
      refine gR.ret rfl ?_
      exact ⟨trivial, by rw [xV0_3, if_pos (Decidable.not_not.mp zc84)]; rfl, rfl⟩
  rcases (show k = 0 ∨ k = 1 ∨ k = 2 ∨ k = 3 by omega) with rfl | rfl | rfl | rfl <;> assumption
theorem s_X11_lookOf {d : Nat} (hd : 2 ≤ d) (σ : gS) (k c : Nat) (hk : k < 3) (hc : c < 256) : gC d 134 [.int (nI k), .int (nI c)] σ (fun r τ => r = some (.int (xW (xV1 k c))) ∧ τ = σ) := by
  obtain ⟨d, rfl⟩ : ∃ k, d = k + 1 := ⟨d - 1, by omega⟩
  have h0 : gC (d + 1) 134 [.int 0, .int (nI c)] σ (fun r τ => r = some (.int (xW (xV1 0 c))) ∧ τ = σ) := by
    refine gC.of (P := pX11_lookOf) (nL := 2) (rt := some .int) (lv := [some (.int 0), some (.int (nI c))]) (by decide +kernel) rfl rfl rfl (by simp [gEnt, Value.category]) rfl ?_
    refine gR.steps 1 (σ, (1, [some (.int 0), some (.int (nI c))], [.int 0])) rfl ?_
    refine gR.brF rfl (by decide) ?_
    refine gR.steps 4 (σ, (12, [some (.int 0), some (.int (nI c))], [.long 120, .long 97, .long (Int32.toInt64 (nI c))])) rfl ?_
    refine gR.callp rfl (s_X11_in (by omega) σ (Int32.toInt64 (nI c)) 97 120) ?_
    refine gR.ifte rfl (fun zc15 => ?_) (fun zc15 => ?_)
    · rw [bI_eq0] at zc15
      simp only [iI64, nI_toInt (show c < 2147483648 by omega), Int64.reduceToInt] at zc15
      refine gR.steps 2 (σ, (73, [some (.int 0), some (.int (nI c))], [.int (-9)])) rfl ?_
      refine gR.ret rfl ?_
      exact ⟨trivial, by rw [xV1_0, if_neg (fun z => zc15 (by omega))]; rfl, rfl⟩
    · rw [bI_eq0, Decidable.not_not] at zc15
      simp only [iI64, nI_toInt (show c < 2147483648 by omega), Int64.reduceToInt] at zc15
      refine gR.steps 4 (σ, (73, [some (.int 0), some (.int (nI c))], [.int ((nI c) - 97)])) rfl ?_
      refine gR.ret rfl ?_
      exact ⟨trivial, by rw [xV1_0, if_pos (by omega), show (nI c - 97 : Int32) = nI (c - 97) from gN_sub rfl rfl (by omega)]; rfl, rfl⟩
  have h1 : gC (d + 1) 134 [.int 1, .int (nI c)] σ (fun r τ => r = some (.int (xW (xV1 1 c))) ∧ τ = σ) := by
    refine gC.of (P := pX11_lookOf) (nL := 2) (rt := some .int) (lv := [some (.int 1), some (.int (nI c))]) (by decide +kernel) rfl rfl rfl (by simp [gEnt, Value.category]) rfl ?_
    refine gR.steps 1 (σ, (1, [some (.int 1), some (.int (nI c))], [.int 1])) rfl ?_
    refine gR.brT rfl (by decide) ?_
    refine gR.steps 2 (σ, (32, [some (.int 1), some (.int (nI c))], [.int 1, .int 1])) rfl ?_
    refine gR.brF rfl (by decide) ?_
    refine gR.steps 4 (σ, (43, [some (.int 1), some (.int (nI c))], [.long 57, .long 48, .long (Int32.toInt64 (nI c))])) rfl ?_
    refine gR.callp rfl (s_X11_in (by omega) σ (Int32.toInt64 (nI c)) 48 57) ?_
    refine gR.ifte rfl (fun zc46 => ?_) (fun zc46 => ?_)
    · rw [bI_eq0] at zc46
      simp only [iI64, nI_toInt (show c < 2147483648 by omega), Int64.reduceToInt] at zc46
      refine gR.steps 2 (σ, (73, [some (.int 1), some (.int (nI c))], [.int (-9)])) rfl ?_
      refine gR.ret rfl ?_
      exact ⟨trivial, by rw [xV1_1, if_neg (fun z => zc46 (by omega))]; rfl, rfl⟩
    · rw [bI_eq0, Decidable.not_not] at zc46
      simp only [iI64, nI_toInt (show c < 2147483648 by omega), Int64.reduceToInt] at zc46
      refine gR.steps 4 (σ, (73, [some (.int 1), some (.int (nI c))], [.int ((nI c) - 48)])) rfl ?_
      refine gR.ret rfl ?_
      exact ⟨trivial, by rw [xV1_1, if_pos (by omega), show (nI c - 48 : Int32) = nI (c - 48) from gN_sub rfl rfl (by omega)]; rfl, rfl⟩
  have h2 : gC (d + 1) 134 [.int 2, .int (nI c)] σ (fun r τ => r = some (.int (xW (xV1 2 c))) ∧ τ = σ) := by
    refine gC.of (P := pX11_lookOf) (nL := 2) (rt := some .int) (lv := [some (.int 2), some (.int (nI c))]) (by decide +kernel) rfl rfl rfl (by simp [gEnt, Value.category]) rfl ?_
    refine gR.steps 1 (σ, (1, [some (.int 2), some (.int (nI c))], [.int 2])) rfl ?_
    refine gR.brT rfl (by decide) ?_
    refine gR.steps 2 (σ, (32, [some (.int 2), some (.int (nI c))], [.int 1, .int 2])) rfl ?_
    refine gR.brT rfl (by decide) ?_
    refine gR.steps 2 (σ, (64, [some (.int 2), some (.int (nI c))], [.int 59, .int (nI c)])) rfl ?_
    refine gR.ifte rfl (fun zc64 => ?_) (fun zc64 => ?_)
    · rw [gN_eq (x := nI c) (y := 59) (a := c) (b := 59) rfl rfl (by omega) (by omega)] at zc64
      refine gR.steps 1 (σ, (73, [some (.int 2), some (.int (nI c))], [.int (-9)])) rfl ?_
      refine gR.ret rfl ?_
      exact ⟨trivial, by rw [xV1_2, if_neg zc64]; rfl, rfl⟩
    · rw [gN_eq (x := nI c) (y := 59) (a := c) (b := 59) rfl rfl (by omega) (by omega)] at zc64
      refine gR.steps 2 (σ, (73, [some (.int 2), some (.int (nI c))], [.int 0])) rfl ?_
      refine gR.ret rfl ?_
      exact ⟨trivial, by rw [xV1_2, if_pos (Decidable.not_not.mp zc64)]; rfl, rfl⟩
  rcases (show k = 0 ∨ k = 1 ∨ k = 2 by omega) with rfl | rfl | rfl <;> assumption
/-- while reading text 0: i bytes read, all good -/
def mRd0 (σ τ : gS) (c : Nat → Nat) (i : Nat) : Prop := ((∀ q, q ≠ 0 → q ≠ 7 → τ q = σ q) ∧ ∀ s, s ≠ 7 → τ 0 s = σ 0 s) ∧ τ 0 7 = nI ((i + 1) / 4) ∧ ∀ j, j < i → ∃ v, xV0 (j % 4) (c j) = some v ∧ (j % 4 < 3 → τ 7 (3 * (j / 4) + j % 4) = nI v)
theorem mRd0_next1 {σ τ : gS} {c : Nat → Nat} {i v : Nat} {x : Int32} (h : mRd0 σ τ c i) (hv : xV0 (i % 4) (c i) = some v) (hi : 3 ≤ i % 4) (hx : x = nI ((i + 1 + 1) / 4)) : mRd0 σ (gUp τ 0 7 x) c (i + 1) := by
  obtain ⟨⟨f1, f2⟩, hn, hj⟩ := h
  refine ⟨⟨fun q h0 h7 => by rw [gUp_ne h0]; exact f1 q h0 h7, fun s hs => by rw [gUp_o (by omega)]; exact f2 s hs⟩, by rw [gUp_s]; exact hx, fun j hji => ?_⟩
  rcases Nat.lt_or_ge j i with h1 | h1
  · obtain ⟨u, hu1, hu2⟩ := hj j h1
    exact ⟨u, hu1, fun h3 => by rw [gUp_o (by omega)]; exact hu2 h3⟩
  · obtain rfl : j = i := by omega
    exact ⟨v, hv, fun h3 => by omega⟩
theorem mRd0_next2 {σ τ : gS} {c : Nat → Nat} {i v : Nat} {x y : Int32} (h : mRd0 σ τ c i) (hv : xV0 (i % 4) (c i) = some v) (hy : y = nI v) (hi : i % 4 < 3) (hx : x = nI ((i + 1 + 1) / 4)) : mRd0 σ (gUp (gUp τ 7 (3 * (i / 4) + i % 4) y) 0 7 x) c (i + 1) := by
  obtain ⟨⟨f1, f2⟩, hn, hj⟩ := h
  refine ⟨⟨fun q h0 h7 => by rw [gUp_ne h0, gUp_ne h7]; exact f1 q h0 h7, fun s hs => by rw [gUp_o (by omega), gUp_o (by omega)]; exact f2 s hs⟩, by rw [gUp_s]; exact hx, fun j hji => ?_⟩
  rcases Nat.lt_or_ge j i with h1 | h1
  · obtain ⟨u, hu1, hu2⟩ := hj j h1
    refine ⟨u, hu1, fun h3 => ?_⟩
    rw [gUp_o (by omega), gUp_o (by omega)]; exact hu2 h3
  · obtain rfl : j = i := by omega
    exact ⟨v, hv, fun h3 => by rw [gUp_o (by omega), gUp_s]; exact hy⟩
theorem mRd0_g {σ τ : gS} {c : Nat → Nat} {i : Nat} (h : mRd0 σ τ c i) : ∀ j, j < i → xG0 c j = true := by
  intro j hj
  obtain ⟨v, h1, -⟩ := h.2.2 j hj
  unfold xG0
  rw [h1]; rfl
def mRdF0 (σ τ : gS) : Prop := (∀ q, q ≠ 0 → q ≠ 7 → τ q = σ q) ∧ ∀ s, s ≠ 7 → τ 0 s = σ 0 s
theorem mRdF0_up {σ τ : gS} {x : Int32} (h : mRdF0 σ τ) : mRdF0 σ (gUp τ 0 7 x) := ⟨fun q h0 h7 => by rw [gUp_ne h0]; exact h.1 q h0 h7, fun s hs => by rw [gUp_o (by omega)]; exact h.2 s hs⟩
/-- while reading text 1: i bytes read, all good -/
def mRd1 (σ τ : gS) (c : Nat → Nat) (i : Nat) : Prop := ((∀ q, q ≠ 0 → q ≠ 8 → τ q = σ q) ∧ ∀ s, s ≠ 9 → τ 0 s = σ 0 s) ∧ τ 0 9 = nI ((i + 1) / 3) ∧ ∀ j, j < i → ∃ v, xV1 (j % 3) (c j) = some v ∧ (j % 3 < 2 → τ 8 (2 * (j / 3) + j % 3) = nI v)
theorem mRd1_next1 {σ τ : gS} {c : Nat → Nat} {i v : Nat} {x : Int32} (h : mRd1 σ τ c i) (hv : xV1 (i % 3) (c i) = some v) (hi : 2 ≤ i % 3) (hx : x = nI ((i + 1 + 1) / 3)) : mRd1 σ (gUp τ 0 9 x) c (i + 1) := by
  obtain ⟨⟨f1, f2⟩, hn, hj⟩ := h
  refine ⟨⟨fun q h0 h7 => by rw [gUp_ne h0]; exact f1 q h0 h7, fun s hs => by rw [gUp_o (by omega)]; exact f2 s hs⟩, by rw [gUp_s]; exact hx, fun j hji => ?_⟩
  rcases Nat.lt_or_ge j i with h1 | h1
  · obtain ⟨u, hu1, hu2⟩ := hj j h1
    exact ⟨u, hu1, fun h3 => by rw [gUp_o (by omega)]; exact hu2 h3⟩
  · obtain rfl : j = i := by omega
    exact ⟨v, hv, fun h3 => by omega⟩
theorem mRd1_next2 {σ τ : gS} {c : Nat → Nat} {i v : Nat} {x y : Int32} (h : mRd1 σ τ c i) (hv : xV1 (i % 3) (c i) = some v) (hy : y = nI v) (hi : i % 3 < 2) (hx : x = nI ((i + 1 + 1) / 3)) : mRd1 σ (gUp (gUp τ 8 (2 * (i / 3) + i % 3) y) 0 9 x) c (i + 1) := by
  obtain ⟨⟨f1, f2⟩, hn, hj⟩ := h
  refine ⟨⟨fun q h0 h7 => by rw [gUp_ne h0, gUp_ne h7]; exact f1 q h0 h7, fun s hs => by rw [gUp_o (by omega), gUp_o (by omega)]; exact f2 s hs⟩, by rw [gUp_s]; exact hx, fun j hji => ?_⟩
  rcases Nat.lt_or_ge j i with h1 | h1
  · obtain ⟨u, hu1, hu2⟩ := hj j h1
    refine ⟨u, hu1, fun h3 => ?_⟩
    rw [gUp_o (by omega), gUp_o (by omega)]; exact hu2 h3
  · obtain rfl : j = i := by omega
    exact ⟨v, hv, fun h3 => by rw [gUp_o (by omega), gUp_s]; exact hy⟩
theorem mRd1_g {σ τ : gS} {c : Nat → Nat} {i : Nat} (h : mRd1 σ τ c i) : ∀ j, j < i → xG1 c j = true := by
  intro j hj
  obtain ⟨v, h1, -⟩ := h.2.2 j hj
  unfold xG1
  rw [h1]; rfl
def mRdF1 (σ τ : gS) : Prop := (∀ q, q ≠ 0 → q ≠ 8 → τ q = σ q) ∧ ∀ s, s ≠ 9 → τ 0 s = σ 0 s
theorem mRdF1_up {σ τ : gS} {x : Int32} (h : mRdF1 σ τ) : mRdF1 σ (gUp τ 0 9 x) := ⟨fun q h0 h7 => by rw [gUp_ne h0]; exact h.1 q h0 h7, fun s hs => by rw [gUp_o (by omega)]; exact h.2 s hs⟩
theorem mRd0_end {σ τ : gS} {c : Nat → Nat} {n : Nat} (h : mRd0 σ τ c n) (hn : n ≤ 39) (he : n = 0 ∨ n % 4 = 3) : mBu τ (xNI 4 (xG0 c) n) (xKd c) (xBg c) (xSp c) := by
  have e : xNI 4 (xG0 c) n = (n + 1) / 4 := by
    unfold xNI
    rw [xFst_all (mRd0_g h), if_neg (by omega), if_pos (by omega)]
  rw [e]
  refine ⟨h.2.1, by omega, fun k hk => ?_⟩
  obtain ⟨v0, a1, a2⟩ := h.2.2 (4 * k) (by omega)
  obtain ⟨v1, b1, b2⟩ := h.2.2 (4 * k + 1) (by omega)
  obtain ⟨v2, c1, c2⟩ := h.2.2 (4 * k + 2) (by omega)
  rw [show 4 * k % 4 = 0 by omega] at a1 a2
  rw [show (4 * k + 1) % 4 = 1 by omega] at b1 b2
  rw [show (4 * k + 2) % 4 = 2 by omega] at c1 c2
  rw [show 4 * k / 4 = k by omega] at a2
  rw [show (4 * k + 1) / 4 = k by omega] at b2
  rw [show (4 * k + 2) / 4 = k by omega] at c2
  have e0 : xKd c k = v0 := by unfold xKd; rw [a1]; rfl
  have e1 : xBg c k = v1 := by unfold xBg; rw [b1]; rfl
  have e2 : xSp c k = v2 := by unfold xSp; rw [c1]; rfl
  rw [e0, e1, e2]
  exact ⟨a2 (by omega), b2 (by omega), c2 (by omega), (xV0_lt a1).1 rfl, (xV0_lt b1).2.1 rfl, (xV0_lt c1).2.2.1 rfl⟩
theorem mRd1_end {σ τ : gS} {c : Nat → Nat} {n : Nat} (h : mRd1 σ τ c n) (hn : n ≤ 35) (he : n = 0 ∨ n % 3 = 2) : mLo τ (xNI 3 (xG1 c) n) (xLm c) (xLb c) := by
  have e : xNI 3 (xG1 c) n = (n + 1) / 3 := by
    unfold xNI
    rw [xFst_all (mRd1_g h), if_neg (by omega), if_pos (by omega)]
  rw [e]
  refine ⟨h.2.1, by omega, fun k hk => ?_⟩
  obtain ⟨v0, a1, a2⟩ := h.2.2 (3 * k) (by omega)
  obtain ⟨v1, b1, b2⟩ := h.2.2 (3 * k + 1) (by omega)
  rw [show 3 * k % 3 = 0 by omega] at a1 a2
  rw [show (3 * k + 1) % 3 = 1 by omega] at b1 b2
  rw [show 3 * k / 3 = k by omega] at a2
  rw [show (3 * k + 1) / 3 = k by omega] at b2
  have e0 : xLm c k = v0 := by unfold xLm; rw [a1]; rfl
  have e1 : xLb c k = v1 := by unfold xLb; rw [b1]; rfl
  rw [e0, e1]
  exact ⟨a2 (by omega), b2 (by omega), (xV1_lt a1).1 rfl, (xV1_lt b1).2.1 rfl⟩
theorem s_X11_readsBushes {d : Nat} (hd : 3 ≤ d) (σ : gS) (n : Nat) (c : Nat → Nat) (hn : σ 6 0 = nI n) (hn39 : n ≤ 39) (hc : ∀ i, i < n → σ 5 (i) = nI (c i) ∧ c i < 256) : gC d 133 [.ref 0] σ (fun r τ => r = some (.int (xFlt 4 (xG0 c) n)) ∧ mRdF0 σ τ ∧ mBu τ (xNI 4 (xG0 c) n) (xKd c) (xBg c) (xSp c)) := by
  obtain ⟨d, rfl⟩ : ∃ k, d = k + 1 := ⟨d - 1, by omega⟩
  refine gC.of (P := pX11_readsBushes) (nL := 5) (rt := (some (.int))) (lv := [some (.ref 0), none, none, none, none]) (by decide +kernel) rfl rfl rfl (by simp [gEnt, Value.category]) rfl ?_
  refine gR.steps 6 (gUp σ 0 7 0, (10, [some (.ref 0), none, none, none, none], [.int 0, .ref 6])) rfl ?_
  refine gR.ald (i := 0) (j := 0) (N := 2) (g := (gUp σ 0 7 0) 6) rfl rfl (by omega) (by omega) ?_
  refine gR.topI (y := σ 6 0) (by rw [gUp_o (by omega)]) ?_
  refine gR.topI (y := nI (n)) hn ?_
  refine gR.steps 3 (gUp σ 0 7 0, (14, [some (.ref 0), some (.int (nI n)), some (.int 0), none, none], [])) rfl ?_
  refine gR.forget [some (.ref 0), some (.int (nI n)), some (.int 0), none, none] ⟨rfl, ⟨rfl, ⟨rfl, trivial⟩⟩⟩ ?_
  refine gR.loop (α := Nat × gS) (fun ⟨i, τ⟩ => i ≤ n ∧ mRd0 σ τ c i) (fun ⟨i, τ⟩ => n - i) (fun ⟨i, τ⟩ => (τ, (14, [some (.ref 0), some (.int (nI n)), some (.int (nI i)), none, none], []))) ?_ ⟨0, gUp σ 0 7 0⟩ ⟨Nat.zero_le n, ⟨⟨fun q h0 _ => gUp_ne h0, fun s hs => gUp_o (by omega)⟩, by rw [gUp_s]; rfl, fun j hj => absurd hj (Nat.not_lt_zero j)⟩⟩
  rintro ⟨i, τ⟩ ⟨hin, hR⟩ ih
  show gR _ _ _ τ (14, [some (.ref 0), some (.int (nI n)), some (.int (nI i)), none, none], [])
  refine gR.steps 2 (τ, (16, [some (.ref 0), some (.int (nI n)), some (.int (nI i)), none, none], [.int (nI n), .int (nI i)])) rfl ?_
  refine gR.ifte rfl (fun zc16 => ?_) (fun zc16 => ?_)
  · rw [gN_le (x := nI n) (y := nI i) (a := n) (b := i) rfl rfl (by omega) (by omega)] at zc16
    refine gR.steps 1 (τ, (94, [some (.ref 0), some (.int (nI n)), some (.int (nI i)), none, none], [.int (nI n)])) rfl ?_
    refine gR.ifte rfl (fun zc94 => ?_) (fun zc94 => ?_)
    · rw [gN_le (x := nI n) (y := 0) (a := n) (b := 0) rfl rfl (by omega) (by omega)] at zc94
      refine gR.steps 1 (τ, (112, [some (.ref 0), some (.int (nI n)), some (.int (nI i)), none, none], [.int (-1)])) rfl ?_
      refine gR.ret rfl ?_
      obtain rfl : n = i := by omega
      have hf := xFst_all (mRd0_g hR)
      refine ⟨trivial, ?_, hR.1, mRd0_end hR (by omega) (by omega)⟩
      unfold xFlt; rw [hf, if_neg (by omega), if_pos (by omega)]
    · rw [gN_le (x := nI n) (y := 0) (a := n) (b := 0) rfl rfl (by omega) (by omega)] at zc94
      refine gR.steps 2 (τ, (99, [some (.ref 0), some (.int (nI n)), some (.int (nI i)), none, none], [.int 4, .int (nI n)])) rfl ?_
      refine gR.brT (p := ¬ (4 : Int32) = 0) rfl (by decide) ?_
      refine gR.steps 1 (τ, (101, [some (.ref 0), some (.int (nI n)), some (.int (nI i)), none, none], [.int 3, .int ((nI n) - (nI n) / 4 * 4)])) rfl ?_
      refine gR.ifte rfl (fun zc101 => ?_) (fun zc101 => ?_)
      · rw [gN_eq (x := (nI n) - (nI n) / 4 * 4) (y := 3) (a := n % 4) (b := 3) (gN_rem rfl rfl (by omega) (by omega) (by omega)) rfl (by omega) (by omega)] at zc101
        refine gR.steps 1 (τ, (112, [some (.ref 0), some (.int (nI n)), some (.int (nI i)), none, none], [.int (-1)])) rfl ?_
        refine gR.ret rfl ?_
        obtain rfl : n = i := by omega
        have hf := xFst_all (mRd0_g hR)
        refine ⟨trivial, ?_, hR.1, mRd0_end hR (by omega) (by omega)⟩
        unfold xFlt; rw [hf, if_neg (by omega), if_pos (by omega)]
      · rw [gN_eq (x := (nI n) - (nI n) / 4 * 4) (y := 3) (a := n % 4) (b := 3) (gN_rem rfl rfl (by omega) (by omega) (by omega)) rfl (by omega) (by omega)] at zc101
        refine gR.steps 4 (gUp τ 0 7 0, (110, [some (.ref 0), some (.int (nI n)), some (.int (nI i)), none, none], [.int (nI n)])) rfl ?_
        show gR _ _ _ (gUp τ 0 7 0) (110, [some (.ref 0), some (.int (nI n)), some (.int (nI i)), none, none], [.int (nI n)])
        refine gR.ret rfl ?_
        obtain rfl : n = i := by omega
        have hf := xFst_all (mRd0_g hR)
        refine ⟨trivial, ?_, mRdF0_up hR.1, ?_⟩
        · unfold xFlt; rw [hf, if_neg (by omega), if_neg (by omega)]
        · unfold xNI; rw [hf, if_neg (by omega), if_neg (by omega)]; exact ⟨gUp_s τ 0 7 0, by omega, fun k hk => absurd hk (Nat.not_lt_zero k)⟩
  · rw [gN_le (x := nI n) (y := nI i) (a := n) (b := i) rfl rfl (by omega) (by omega)] at zc16
    have hci := hc i (by omega)
    refine gR.steps 2 (τ, (21, [some (.ref 0), some (.int (nI n)), some (.int (nI i)), none, none], [.int 4, .int (nI i)])) rfl ?_
    refine gR.brT (p := ¬ (4 : Int32) = 0) rfl (by decide) ?_
    refine gR.steps 5 (τ, (29, [some (.ref 0), some (.int (nI n)), some (.int (nI i)), some (.int ((nI i) - (nI i) / 4 * 4)), none], [.int (nI i), .ref 5, .int ((nI i) - (nI i) / 4 * 4)])) rfl ?_
    refine gR.ald (i := nI i) (j := i) (N := 80) (g := τ 5) rfl rfl (by omega) (by omega) ?_
    refine gR.topI (y := nI (c i)) (by rw [hR.1.1 5 (by decide) (by decide)]; exact (hc i (by omega)).1) ?_
    rw [show ((nI i) - (nI i) / 4 * 4 : Int32) = nI (i % 4) from (gN_rem rfl rfl (by omega) (by omega) (by omega))]
    refine gR.callp rfl (s_X11_bushOf (by omega) τ (i % 4) (c i) (by omega) (by omega)) ?_
    refine gR.steps 3 (τ, (39, [some (.ref 0), some (.int (nI n)), some (.int (nI i)), some (.int (nI (i % 4))), some (.int (xW (xV0 (i % 4) (c i))))], [.int (-9), .int (xW (xV0 (i % 4) (c i)))])) rfl ?_
    refine gR.ifte rfl (fun zc39 => ?_) (fun zc39 => ?_)
    · obtain ⟨v, hv⟩ := xW_ne zc39
      rw [hv]
      have hv12 := (xV0_lt hv).2.2.2
      refine gR.steps 2 (τ, (51, [some (.ref 0), some (.int (nI n)), some (.int (nI i)), some (.int (nI (i % 4))), some (.int (xW (some v)))], [.int 3, .int (nI (i % 4))])) rfl ?_
      refine gR.ifte rfl (fun zc51 => ?_) (fun zc51 => ?_)
      · rw [gN_le (x := 3) (y := nI (i % 4)) (a := 3) (b := i % 4) rfl rfl (by omega) (by omega)] at zc51
        refine gR.steps 3 (τ, (73, [some (.ref 0), some (.int (nI n)), some (.int (nI i)), some (.int (nI (i % 4))), some (.int (xW (some v)))], [.int (τ 0 7), .ref 0])) rfl ?_
        refine gR.topI (y := nI ((i + 1) / 4)) hR.2.1 ?_
        refine gR.join (α := Int32) τ (fun zv => (83, [some (.ref 0), some (.int (nI n)), some (.int (nI i)), some (.int (nI (i % 4))), some (.int (xW (some v)))], [.int zv, .int (nI ((i + 1) / 4)), .ref 0])) (nI (if i % 4 = 2 then 1 else 0)) ?_ (fun zj83 => ?_)
        · refine gR.steps 4 (gUp τ 0 7 ((nI ((i + 1) / 4)) + (nI (if i % 4 = 2 then 1 else 0))), (14, [some (.ref 0), some (.int (nI n)), some (.int ((nI i) + 1)), some (.int (nI (i % 4))), some (.int (xW (some v)))], [])) rfl ?_
          refine gR.forget [some (.ref 0), some (.int (nI n)), some (.int (nI (i + 1))), none, none] ⟨rfl, ⟨rfl, ⟨gSomeI (gN_add rfl rfl), trivial⟩⟩⟩ ?_
          exact ih ⟨i + 1, _⟩ ⟨by omega, mRd0_next1 hR hv (by omega) (Eq.trans (gN_add rfl rfl) (congrArg nI (by split <;> omega)))⟩ (by dsimp only; omega)
        · refine gR.steps 2 (τ, (75, [some (.ref 0), some (.int (nI n)), some (.int (nI i)), some (.int (nI (i % 4))), some (.int (xW (some v)))], [.int 2, .int (nI (i % 4)), .int (nI ((i + 1) / 4)), .ref 0])) rfl ?_
          refine gR.ifte rfl (fun zc75 => ?_) (fun zc75 => ?_)
          · rw [gN_eq (x := nI (i % 4)) (y := 2) (a := i % 4) (b := 2) rfl rfl (by omega) (by omega)] at zc75
            refine gR.steps 1 (τ, (83, [some (.ref 0), some (.int (nI n)), some (.int (nI i)), some (.int (nI (i % 4))), some (.int (xW (some v)))], [.int 0, .int (nI ((i + 1) / 4)), .ref 0])) rfl ?_
            exact zj83 _ (by rw [if_neg zc75]; rfl)
          · rw [gN_eq (x := nI (i % 4)) (y := 2) (a := i % 4) (b := 2) rfl rfl (by omega) (by omega)] at zc75
            refine gR.steps 2 (τ, (83, [some (.ref 0), some (.int (nI n)), some (.int (nI i)), some (.int (nI (i % 4))), some (.int (xW (some v)))], [.int 1, .int (nI ((i + 1) / 4)), .ref 0])) rfl ?_
            exact zj83 _ (by rw [if_pos (Decidable.not_not.mp zc75)]; rfl)
      · rw [gN_le (x := 3) (y := nI (i % 4)) (a := 3) (b := i % 4) rfl rfl (by omega) (by omega)] at zc51
        refine gR.steps 5 (τ, (61, [some (.ref 0), some (.int (nI n)), some (.int (nI i)), some (.int (nI (i % 4))), some (.int (xW (some v)))], [.int 4, .int (nI i), .int 3, .ref 7])) rfl ?_
        refine gR.brT (p := ¬ (4 : Int32) = 0) rfl (by decide) ?_
        refine gR.steps 4 (τ, (67, [some (.ref 0), some (.int (nI n)), some (.int (nI i)), some (.int (nI (i % 4))), some (.int (xW (some v)))], [.int (xW (some v)), .int ((3 * ((nI i) / 4)) + (nI (i % 4))), .ref 7])) rfl ?_
        refine gR.ast (i := (3 * ((nI i) / 4)) + (nI (i % 4))) (j := 3 * (i / 4) + i % 4) (N := 33) (q := 7) (x := xW (some v)) rfl (gN_add (gN_mul rfl (gN_div rfl rfl (by omega) (by omega) (by omega))) rfl) (by omega) (by omega) ?_
        refine gR.steps 3 (gUp τ 7 (3 * (i / 4) + i % 4) (xW (some v)), (73, [some (.ref 0), some (.int (nI n)), some (.int (nI i)), some (.int (nI (i % 4))), some (.int (xW (some v)))], [.int (τ 0 7), .ref 0])) rfl ?_
        refine gR.topI (y := nI ((i + 1) / 4)) hR.2.1 ?_
        refine gR.join (α := Int32) (gUp τ 7 (3 * (i / 4) + i % 4) (xW (some v))) (fun zv => (83, [some (.ref 0), some (.int (nI n)), some (.int (nI i)), some (.int (nI (i % 4))), some (.int (xW (some v)))], [.int zv, .int (nI ((i + 1) / 4)), .ref 0])) (nI (if i % 4 = 2 then 1 else 0)) ?_ (fun zj83 => ?_)
        · refine gR.steps 4 (gUp (gUp τ 7 (3 * (i / 4) + i % 4) (xW (some v))) 0 7 ((nI ((i + 1) / 4)) + (nI (if i % 4 = 2 then 1 else 0))), (14, [some (.ref 0), some (.int (nI n)), some (.int ((nI i) + 1)), some (.int (nI (i % 4))), some (.int (xW (some v)))], [])) rfl ?_
          refine gR.forget [some (.ref 0), some (.int (nI n)), some (.int (nI (i + 1))), none, none] ⟨rfl, ⟨rfl, ⟨gSomeI (gN_add rfl rfl), trivial⟩⟩⟩ ?_
          exact ih ⟨i + 1, _⟩ ⟨by omega, mRd0_next2 hR hv rfl (by omega) (Eq.trans (gN_add rfl rfl) (congrArg nI (by split <;> omega)))⟩ (by dsimp only; omega)
        · refine gR.steps 2 (gUp τ 7 (3 * (i / 4) + i % 4) (xW (some v)), (75, [some (.ref 0), some (.int (nI n)), some (.int (nI i)), some (.int (nI (i % 4))), some (.int (xW (some v)))], [.int 2, .int (nI (i % 4)), .int (nI ((i + 1) / 4)), .ref 0])) rfl ?_
          refine gR.ifte rfl (fun zc75 => ?_) (fun zc75 => ?_)
          · rw [gN_eq (x := nI (i % 4)) (y := 2) (a := i % 4) (b := 2) rfl rfl (by omega) (by omega)] at zc75
            refine gR.steps 1 (gUp τ 7 (3 * (i / 4) + i % 4) (xW (some v)), (83, [some (.ref 0), some (.int (nI n)), some (.int (nI i)), some (.int (nI (i % 4))), some (.int (xW (some v)))], [.int 0, .int (nI ((i + 1) / 4)), .ref 0])) rfl ?_
            exact zj83 _ (by rw [if_neg zc75]; rfl)
          · rw [gN_eq (x := nI (i % 4)) (y := 2) (a := i % 4) (b := 2) rfl rfl (by omega) (by omega)] at zc75
            refine gR.steps 2 (gUp τ 7 (3 * (i / 4) + i % 4) (xW (some v)), (83, [some (.ref 0), some (.int (nI n)), some (.int (nI i)), some (.int (nI (i % 4))), some (.int (xW (some v)))], [.int 1, .int (nI ((i + 1) / 4)), .ref 0])) rfl ?_
            exact zj83 _ (by rw [if_pos (Decidable.not_not.mp zc75)]; rfl)
    · have hno := xW_eq (fun v z => by have := (xV0_lt z).2.2.2; omega) (Decidable.not_not.mp zc39)
      refine gR.steps 4 (gUp τ 0 7 0, (48, [some (.ref 0), some (.int (nI n)), some (.int (nI i)), some (.int (nI (i % 4))), some (.int (xW (xV0 (i % 4) (c i))))], [.int (nI i)])) rfl ?_
      show gR _ _ _ (gUp τ 0 7 0) (48, [some (.ref 0), some (.int (nI n)), some (.int (nI i)), some (.int (nI (i % 4))), some (.int (xW (xV0 (i % 4) (c i))))], [.int (nI i)])
      refine gR.ret rfl ?_
      have hg1 : ¬ (xG0 c) i = true := by unfold xG0; rw [hno]; decide
      have hf := xFst_at (mRd0_g hR) hg1 (n := n) (by omega)
      refine ⟨trivial, ?_, mRdF0_up hR.1, ?_⟩
      · unfold xFlt; rw [hf, if_pos (by omega)]
      · unfold xNI; rw [hf, if_pos (by omega)]; exact ⟨gUp_s τ 0 7 0, by omega, fun k hk => absurd hk (Nat.not_lt_zero k)⟩
theorem s_X11_readsLooks {d : Nat} (hd : 3 ≤ d) (σ : gS) (n : Nat) (c : Nat → Nat) (hn : σ 6 1 = nI n) (hn39 : n ≤ 35) (hc : ∀ i, i < n → σ 5 (40 + i) = nI (c i) ∧ c i < 256) : gC d 135 [.ref 0] σ (fun r τ => r = some (.int (xFlt 3 (xG1 c) n)) ∧ mRdF1 σ τ ∧ mLo τ (xNI 3 (xG1 c) n) (xLm c) (xLb c)) := by
  obtain ⟨d, rfl⟩ : ∃ k, d = k + 1 := ⟨d - 1, by omega⟩
  refine gC.of (P := pX11_readsLooks) (nL := 5) (rt := (some (.int))) (lv := [some (.ref 0), none, none, none, none]) (by decide +kernel) rfl rfl rfl (by simp [gEnt, Value.category]) rfl ?_
  refine gR.steps 6 (gUp σ 0 9 0, (10, [some (.ref 0), none, none, none, none], [.int 1, .ref 6])) rfl ?_
  refine gR.ald (i := 1) (j := 1) (N := 2) (g := (gUp σ 0 9 0) 6) rfl rfl (by omega) (by omega) ?_
  refine gR.topI (y := σ 6 1) (by rw [gUp_o (by omega)]) ?_
  refine gR.topI (y := nI (n)) hn ?_
  refine gR.steps 3 (gUp σ 0 9 0, (14, [some (.ref 0), some (.int (nI n)), some (.int 0), none, none], [])) rfl ?_
  refine gR.forget [some (.ref 0), some (.int (nI n)), some (.int 0), none, none] ⟨rfl, ⟨rfl, ⟨rfl, trivial⟩⟩⟩ ?_
  refine gR.loop (α := Nat × gS) (fun ⟨i, τ⟩ => i ≤ n ∧ mRd1 σ τ c i) (fun ⟨i, τ⟩ => n - i) (fun ⟨i, τ⟩ => (τ, (14, [some (.ref 0), some (.int (nI n)), some (.int (nI i)), none, none], []))) ?_ ⟨0, gUp σ 0 9 0⟩ ⟨Nat.zero_le n, ⟨⟨fun q h0 _ => gUp_ne h0, fun s hs => gUp_o (by omega)⟩, by rw [gUp_s]; rfl, fun j hj => absurd hj (Nat.not_lt_zero j)⟩⟩
  rintro ⟨i, τ⟩ ⟨hin, hR⟩ ih
  show gR _ _ _ τ (14, [some (.ref 0), some (.int (nI n)), some (.int (nI i)), none, none], [])
  refine gR.steps 2 (τ, (16, [some (.ref 0), some (.int (nI n)), some (.int (nI i)), none, none], [.int (nI n), .int (nI i)])) rfl ?_
  refine gR.ifte rfl (fun zc16 => ?_) (fun zc16 => ?_)
  · rw [gN_le (x := nI n) (y := nI i) (a := n) (b := i) rfl rfl (by omega) (by omega)] at zc16
    refine gR.steps 1 (τ, (97, [some (.ref 0), some (.int (nI n)), some (.int (nI i)), none, none], [.int (nI n)])) rfl ?_
    refine gR.ifte rfl (fun zc97 => ?_) (fun zc97 => ?_)
    · rw [gN_le (x := nI n) (y := 0) (a := n) (b := 0) rfl rfl (by omega) (by omega)] at zc97
      refine gR.steps 1 (τ, (115, [some (.ref 0), some (.int (nI n)), some (.int (nI i)), none, none], [.int (-1)])) rfl ?_
      refine gR.ret rfl ?_
      obtain rfl : n = i := by omega
      have hf := xFst_all (mRd1_g hR)
      refine ⟨trivial, ?_, hR.1, mRd1_end hR (by omega) (by omega)⟩
      unfold xFlt; rw [hf, if_neg (by omega), if_pos (by omega)]
    · rw [gN_le (x := nI n) (y := 0) (a := n) (b := 0) rfl rfl (by omega) (by omega)] at zc97
      refine gR.steps 2 (τ, (102, [some (.ref 0), some (.int (nI n)), some (.int (nI i)), none, none], [.int 3, .int (nI n)])) rfl ?_
      refine gR.brT (p := ¬ (3 : Int32) = 0) rfl (by decide) ?_
      refine gR.steps 1 (τ, (104, [some (.ref 0), some (.int (nI n)), some (.int (nI i)), none, none], [.int 2, .int ((nI n) - (nI n) / 3 * 3)])) rfl ?_
      refine gR.ifte rfl (fun zc104 => ?_) (fun zc104 => ?_)
      · rw [gN_eq (x := (nI n) - (nI n) / 3 * 3) (y := 2) (a := n % 3) (b := 2) (gN_rem rfl rfl (by omega) (by omega) (by omega)) rfl (by omega) (by omega)] at zc104
        refine gR.steps 1 (τ, (115, [some (.ref 0), some (.int (nI n)), some (.int (nI i)), none, none], [.int (-1)])) rfl ?_
        refine gR.ret rfl ?_
        obtain rfl : n = i := by omega
        have hf := xFst_all (mRd1_g hR)
        refine ⟨trivial, ?_, hR.1, mRd1_end hR (by omega) (by omega)⟩
        unfold xFlt; rw [hf, if_neg (by omega), if_pos (by omega)]
      · rw [gN_eq (x := (nI n) - (nI n) / 3 * 3) (y := 2) (a := n % 3) (b := 2) (gN_rem rfl rfl (by omega) (by omega) (by omega)) rfl (by omega) (by omega)] at zc104
        refine gR.steps 4 (gUp τ 0 9 0, (113, [some (.ref 0), some (.int (nI n)), some (.int (nI i)), none, none], [.int (nI n)])) rfl ?_
        show gR _ _ _ (gUp τ 0 9 0) (113, [some (.ref 0), some (.int (nI n)), some (.int (nI i)), none, none], [.int (nI n)])
        refine gR.ret rfl ?_
        obtain rfl : n = i := by omega
        have hf := xFst_all (mRd1_g hR)
        refine ⟨trivial, ?_, mRdF1_up hR.1, ?_⟩
        · unfold xFlt; rw [hf, if_neg (by omega), if_neg (by omega)]
        · unfold xNI; rw [hf, if_neg (by omega), if_neg (by omega)]; exact ⟨gUp_s τ 0 9 0, by omega, fun k hk => absurd hk (Nat.not_lt_zero k)⟩
  · rw [gN_le (x := nI n) (y := nI i) (a := n) (b := i) rfl rfl (by omega) (by omega)] at zc16
    have hci := hc i (by omega)
    refine gR.steps 2 (τ, (21, [some (.ref 0), some (.int (nI n)), some (.int (nI i)), none, none], [.int 3, .int (nI i)])) rfl ?_
    refine gR.brT (p := ¬ (3 : Int32) = 0) rfl (by decide) ?_
    refine gR.steps 7 (τ, (32, [some (.ref 0), some (.int (nI n)), some (.int (nI i)), some (.int ((nI i) - (nI i) / 3 * 3)), none], [.int (40 + (nI i)), .ref 5, .int ((nI i) - (nI i) / 3 * 3)])) rfl ?_
    refine gR.ald (i := 40 + (nI i)) (j := 40 + i) (N := 80) (g := τ 5) rfl (gN_add rfl rfl) (by omega) (by omega) ?_
    refine gR.topI (y := nI (c i)) (by rw [hR.1.1 5 (by decide) (by decide)]; exact (hc i (by omega)).1) ?_
    rw [show ((nI i) - (nI i) / 3 * 3 : Int32) = nI (i % 3) from (gN_rem rfl rfl (by omega) (by omega) (by omega))]
    refine gR.callp rfl (s_X11_lookOf (by omega) τ (i % 3) (c i) (by omega) (by omega)) ?_
    refine gR.steps 3 (τ, (42, [some (.ref 0), some (.int (nI n)), some (.int (nI i)), some (.int (nI (i % 3))), some (.int (xW (xV1 (i % 3) (c i))))], [.int (-9), .int (xW (xV1 (i % 3) (c i)))])) rfl ?_
    refine gR.ifte rfl (fun zc42 => ?_) (fun zc42 => ?_)
    · obtain ⟨v, hv⟩ := xW_ne zc42
      rw [hv]
      have hv12 := (xV1_lt hv).2.2
      refine gR.steps 2 (τ, (54, [some (.ref 0), some (.int (nI n)), some (.int (nI i)), some (.int (nI (i % 3))), some (.int (xW (some v)))], [.int 2, .int (nI (i % 3))])) rfl ?_
      refine gR.ifte rfl (fun zc54 => ?_) (fun zc54 => ?_)
      · rw [gN_le (x := 2) (y := nI (i % 3)) (a := 2) (b := i % 3) rfl rfl (by omega) (by omega)] at zc54
        refine gR.steps 3 (τ, (76, [some (.ref 0), some (.int (nI n)), some (.int (nI i)), some (.int (nI (i % 3))), some (.int (xW (some v)))], [.int (τ 0 9), .ref 0])) rfl ?_
        refine gR.topI (y := nI ((i + 1) / 3)) hR.2.1 ?_
        refine gR.join (α := Int32) τ (fun zv => (86, [some (.ref 0), some (.int (nI n)), some (.int (nI i)), some (.int (nI (i % 3))), some (.int (xW (some v)))], [.int zv, .int (nI ((i + 1) / 3)), .ref 0])) (nI (if i % 3 = 1 then 1 else 0)) ?_ (fun zj86 => ?_)
        · refine gR.steps 4 (gUp τ 0 9 ((nI ((i + 1) / 3)) + (nI (if i % 3 = 1 then 1 else 0))), (14, [some (.ref 0), some (.int (nI n)), some (.int ((nI i) + 1)), some (.int (nI (i % 3))), some (.int (xW (some v)))], [])) rfl ?_
          refine gR.forget [some (.ref 0), some (.int (nI n)), some (.int (nI (i + 1))), none, none] ⟨rfl, ⟨rfl, ⟨gSomeI (gN_add rfl rfl), trivial⟩⟩⟩ ?_
          exact ih ⟨i + 1, _⟩ ⟨by omega, mRd1_next1 hR hv (by omega) (Eq.trans (gN_add rfl rfl) (congrArg nI (by split <;> omega)))⟩ (by dsimp only; omega)
        · refine gR.steps 2 (τ, (78, [some (.ref 0), some (.int (nI n)), some (.int (nI i)), some (.int (nI (i % 3))), some (.int (xW (some v)))], [.int 1, .int (nI (i % 3)), .int (nI ((i + 1) / 3)), .ref 0])) rfl ?_
          refine gR.ifte rfl (fun zc78 => ?_) (fun zc78 => ?_)
          · rw [gN_eq (x := nI (i % 3)) (y := 1) (a := i % 3) (b := 1) rfl rfl (by omega) (by omega)] at zc78
            refine gR.steps 1 (τ, (86, [some (.ref 0), some (.int (nI n)), some (.int (nI i)), some (.int (nI (i % 3))), some (.int (xW (some v)))], [.int 0, .int (nI ((i + 1) / 3)), .ref 0])) rfl ?_
            exact zj86 _ (by rw [if_neg zc78]; rfl)
          · rw [gN_eq (x := nI (i % 3)) (y := 1) (a := i % 3) (b := 1) rfl rfl (by omega) (by omega)] at zc78
            refine gR.steps 2 (τ, (86, [some (.ref 0), some (.int (nI n)), some (.int (nI i)), some (.int (nI (i % 3))), some (.int (xW (some v)))], [.int 1, .int (nI ((i + 1) / 3)), .ref 0])) rfl ?_
            exact zj86 _ (by rw [if_pos (Decidable.not_not.mp zc78)]; rfl)
      · rw [gN_le (x := 2) (y := nI (i % 3)) (a := 2) (b := i % 3) rfl rfl (by omega) (by omega)] at zc54
        refine gR.steps 5 (τ, (64, [some (.ref 0), some (.int (nI n)), some (.int (nI i)), some (.int (nI (i % 3))), some (.int (xW (some v)))], [.int 3, .int (nI i), .int 2, .ref 8])) rfl ?_
        refine gR.brT (p := ¬ (3 : Int32) = 0) rfl (by decide) ?_
        refine gR.steps 4 (τ, (70, [some (.ref 0), some (.int (nI n)), some (.int (nI i)), some (.int (nI (i % 3))), some (.int (xW (some v)))], [.int (xW (some v)), .int ((2 * ((nI i) / 3)) + (nI (i % 3))), .ref 8])) rfl ?_
        refine gR.ast (i := (2 * ((nI i) / 3)) + (nI (i % 3))) (j := 2 * (i / 3) + i % 3) (N := 24) (q := 8) (x := xW (some v)) rfl (gN_add (gN_mul rfl (gN_div rfl rfl (by omega) (by omega) (by omega))) rfl) (by omega) (by omega) ?_
        refine gR.steps 3 (gUp τ 8 (2 * (i / 3) + i % 3) (xW (some v)), (76, [some (.ref 0), some (.int (nI n)), some (.int (nI i)), some (.int (nI (i % 3))), some (.int (xW (some v)))], [.int (τ 0 9), .ref 0])) rfl ?_
        refine gR.topI (y := nI ((i + 1) / 3)) hR.2.1 ?_
        refine gR.join (α := Int32) (gUp τ 8 (2 * (i / 3) + i % 3) (xW (some v))) (fun zv => (86, [some (.ref 0), some (.int (nI n)), some (.int (nI i)), some (.int (nI (i % 3))), some (.int (xW (some v)))], [.int zv, .int (nI ((i + 1) / 3)), .ref 0])) (nI (if i % 3 = 1 then 1 else 0)) ?_ (fun zj86 => ?_)
        · refine gR.steps 4 (gUp (gUp τ 8 (2 * (i / 3) + i % 3) (xW (some v))) 0 9 ((nI ((i + 1) / 3)) + (nI (if i % 3 = 1 then 1 else 0))), (14, [some (.ref 0), some (.int (nI n)), some (.int ((nI i) + 1)), some (.int (nI (i % 3))), some (.int (xW (some v)))], [])) rfl ?_
          refine gR.forget [some (.ref 0), some (.int (nI n)), some (.int (nI (i + 1))), none, none] ⟨rfl, ⟨rfl, ⟨gSomeI (gN_add rfl rfl), trivial⟩⟩⟩ ?_
          exact ih ⟨i + 1, _⟩ ⟨by omega, mRd1_next2 hR hv rfl (by omega) (Eq.trans (gN_add rfl rfl) (congrArg nI (by split <;> omega)))⟩ (by dsimp only; omega)
        · refine gR.steps 2 (gUp τ 8 (2 * (i / 3) + i % 3) (xW (some v)), (78, [some (.ref 0), some (.int (nI n)), some (.int (nI i)), some (.int (nI (i % 3))), some (.int (xW (some v)))], [.int 1, .int (nI (i % 3)), .int (nI ((i + 1) / 3)), .ref 0])) rfl ?_
          refine gR.ifte rfl (fun zc78 => ?_) (fun zc78 => ?_)
          · rw [gN_eq (x := nI (i % 3)) (y := 1) (a := i % 3) (b := 1) rfl rfl (by omega) (by omega)] at zc78
            refine gR.steps 1 (gUp τ 8 (2 * (i / 3) + i % 3) (xW (some v)), (86, [some (.ref 0), some (.int (nI n)), some (.int (nI i)), some (.int (nI (i % 3))), some (.int (xW (some v)))], [.int 0, .int (nI ((i + 1) / 3)), .ref 0])) rfl ?_
            exact zj86 _ (by rw [if_neg zc78]; rfl)
          · rw [gN_eq (x := nI (i % 3)) (y := 1) (a := i % 3) (b := 1) rfl rfl (by omega) (by omega)] at zc78
            refine gR.steps 2 (gUp τ 8 (2 * (i / 3) + i % 3) (xW (some v)), (86, [some (.ref 0), some (.int (nI n)), some (.int (nI i)), some (.int (nI (i % 3))), some (.int (xW (some v)))], [.int 1, .int (nI ((i + 1) / 3)), .ref 0])) rfl ?_
            exact zj86 _ (by rw [if_pos (Decidable.not_not.mp zc78)]; rfl)
    · have hno := xW_eq (fun v z => by have := (xV1_lt z).2.2; omega) (Decidable.not_not.mp zc42)
      refine gR.steps 4 (gUp τ 0 9 0, (51, [some (.ref 0), some (.int (nI n)), some (.int (nI i)), some (.int (nI (i % 3))), some (.int (xW (xV1 (i % 3) (c i))))], [.int (nI i)])) rfl ?_
      show gR _ _ _ (gUp τ 0 9 0) (51, [some (.ref 0), some (.int (nI n)), some (.int (nI i)), some (.int (nI (i % 3))), some (.int (xW (xV1 (i % 3) (c i))))], [.int (nI i)])
      refine gR.ret rfl ?_
      have hg1 : ¬ (xG1 c) i = true := by unfold xG1; rw [hno]; decide
      have hf := xFst_at (mRd1_g hR) hg1 (n := n) (by omega)
      refine ⟨trivial, ?_, mRdF1_up hR.1, ?_⟩
      · unfold xFlt; rw [hf, if_pos (by omega)]
      · unfold xNI; rw [hf, if_pos (by omega)]; exact ⟨gUp_s τ 0 9 0, by omega, fun k hk => absurd hk (Nat.not_lt_zero k)⟩
