def xWb : Option Nat → Int32
  | some k => nI k
  | none => -1
def cHit (K M B : Nat → Nat) (who : Option Nat) (sort e m : Nat) : Bool := (decide (K e = 2) || decide (who = some (B e))) && decide (M e ≤ m) && decide (m < M e + xLast (K e) sort)
theorem hold_mask : ∀ L, L < 13 → ∀ M, M < 24 → (((1 : Int32) <<< (nI L &&& 31)) - 1) <<< (nI M &&& 31) &&& 16777215 = xMask (fun m => decide (M ≤ m) && decide (m < M + L)) 24 := by decide +kernel
theorem last_tab : ∀ k, k < 4 → ∀ s, s < 3 → ([9, 12, 12, 2, 2, 3, 1, 2, 0, 3, 3, 3] : List Int32).getD (k * 3 + s) 0 = nI (xLast k s) := by decide +kernel
theorem last_lt : ∀ k, k < 4 → ∀ s, s < 3 → xLast k s < 13 := by decide +kernel
theorem season_mask : ∀ s, s < 3 → ∀ b, b < 12 → (((((1 : Int32) <<< ((([6, 4, 3] : List Int32).getD s 0) &&& 31)) - 1) <<< (nI b &&& 31) ||| ((((1 : Int32) <<< ((([6, 4, 3] : List Int32).getD s 0) &&& 31)) - 1) <<< (nI b &&& 31)) >>> ((12 : Int32) &&& 31)) &&& 4095) ||| (((((1 : Int32) <<< ((([6, 4, 3] : List Int32).getD s 0) &&& 31)) - 1) <<< (nI b &&& 31) ||| ((((1 : Int32) <<< ((([6, 4, 3] : List Int32).getD s 0) &&& 31)) - 1) <<< (nI b &&& 31)) >>> ((12 : Int32) &&& 31)) &&& 4095) <<< ((12 : Int32) &&& 31) = xMask (xSeason s b) 24 := by decide +kernel
theorem xWb_eq {b : Nat} {who : Option Nat} (hb : b < 10) (hw : ∀ v, who = some v → v < 10) : (nI b = xWb who ↔ who = some b) := by
  cases who with
  | none => exact ⟨fun z => absurd z (nI_m1 (by omega)), fun z => by cases z⟩
  | some v =>
    have := hw v rfl
    show nI b = nI v ↔ _
    rw [nI_eq (by omega) (by omega)]
    exact ⟨fun z => by rw [z], fun z => by cases z; rfl⟩
theorem all_mask : (16777215 : Int32) = xMask (fun _ => true) 24 := by decide +kernel
theorem mask0 (n : Nat) : xMask (fun _ => false) n = 0 := by
  induction n with
  | zero => rfl
  | succ n ih => simp only [xMask, ih]; rw [if_neg (by decide)]; decide
theorem s_X10_bitP {d : Nat} (hd : 1 ≤ d) (σ : gS) (x : Int32) (p : Nat → Prop) [DecidablePred p] (n m : Nat) (hx : x = xMask (fun i => decide (p i)) n) (hn : n < 31) (hm : m < n) : gC d 110 [.int x, .int (nI m)] σ (fun r τ => r = some (.int (bI (p m))) ∧ τ = σ) :=
  (s_X10_bit hd σ x (nI m)).mono (fun r τ h => ⟨by rw [h.1, hx, bit_mask (by omega) hm (by omega)]; exact gSomeI (bI_congr decide_eq_true_iff), h.2⟩)
theorem s_X10_bitM {d : Nat} (hd : 1 ≤ d) (σ : gS) (x : Int32) (g : Nat → Bool) (n m : Nat) (hx : x = xMask g n) (hn : n < 31) (hm : m < n) : gC d 110 [.int x, .int (nI m)] σ (fun r τ => r = some (.int (bI (g m = true))) ∧ τ = σ) :=
  (s_X10_bit hd σ x (nI m)).mono (fun r τ h => ⟨by rw [h.1, hx, bit_mask (by omega) hm (by omega)], h.2⟩)
theorem s_X10_bitG {d : Nat} (hd : 1 ≤ d) (σ : gS) (x : Int32) (gn : Nat → Bool) (m : Nat) (hx : bGone x gn) (hm : m < 8) : gC d 110 [.int x, .int (nI m)] σ (fun r τ => r = some (.int (bI (gn m = true))) ∧ τ = σ) :=
  (s_X10_bit hd σ x (nI m)).mono (fun r τ h => ⟨by rw [h.1, bit_bt x (by omega)]; exact gSomeI (bI_congr ((xBit_bt x (by omega)).symm.trans (hx m hm))), h.2⟩)
theorem s_X2_holding27 {d : Nat} (hd : 1 ≤ d) (σ : gS) (n : Nat) (K M B : Nat → Nat) (i : Nat) (who : Option Nat) (sort : Nat) (hE : cEv σ 27 n K M B) (hi : i < n) (hs : sort < 3) (hw : ∀ v, who = some v → v < 10) : gC d 11 [.ref 27, .int (nI i), .int (xWb who), .int (nI sort)] σ (fun r τ => r = some (.int (xMask (cHit K M B who sort i) 24)) ∧ τ = σ) := by
  obtain ⟨d, rfl⟩ : ∃ k, d = k + 1 := ⟨d - 1, by omega⟩
  refine gC.of (P := pX2_holding) (nL := 5) (rt := (some (.int))) (lv := [some (.ref 27), some (.int (nI i)), some (.int (xWb who)), some (.int (nI sort)), none]) (by decide +kernel) rfl rfl rfl (by simp [gEnt, Value.category]) rfl ?_
  have hn8 := hE.2.1
  have hKi := (hE.2.2 i hi).2.2.2
  refine gR.steps 3 (σ, (5, [some (.ref 27), some (.int (nI i)), some (.int (xWb who)), some (.int (nI sort)), none], [.int (nI i), .ref 28])) rfl ?_
  refine gR.ald (i := nI i) (j := i) (N := 8) (g := σ 28) rfl rfl (by omega) (by omega) ?_
  refine gR.topI (y := nI (K i)) (hE.2.2 i hi).1 ?_
  refine gR.steps 1 (σ, (7, [some (.ref 27), some (.int (nI i)), some (.int (xWb who)), some (.int (nI sort)), none], [.int 2, .int (nI (K i))])) rfl ?_
  refine gR.ifte rfl (fun zc7 => ?_) (fun zc7 => ?_)
  · rw [gN_eq (x := nI (K i)) (y := 2) (a := K i) (b := 2) rfl rfl (by omega) (by omega)] at zc7
    refine gR.steps 4 (σ, (30, [some (.ref 27), some (.int (nI i)), some (.int (xWb who)), some (.int (nI sort)), none], [.int (nI i), .ref 28, .ref 1006])) rfl ?_
    refine gR.ald (i := nI i) (j := i) (N := 8) (g := σ 28) rfl rfl (by omega) (by omega) ?_
    refine gR.topI (y := nI (K i)) (hE.2.2 i hi).1 ?_
    refine gR.steps 4 (σ, (35, [some (.ref 27), some (.int (nI i)), some (.int (xWb who)), some (.int (nI sort)), none], [.int (((nI (K i)) * 3) + (nI sort)), .ref 1006])) rfl ?_
    refine gR.ald (i := ((nI (K i)) * 3) + (nI sort)) (j := (K i) * 3 + sort) (N := 12) (g := (fun i => ([9, 12, 12, 2, 2, 3, 1, 2, 0, 3, 3, 3] : List Int32).getD i 0)) rfl (gN_add (gN_mul rfl rfl) rfl) (by omega) (by omega) ?_
    refine gR.topI (y := nI (xLast (K i) sort)) (last_tab (K i) (by omega) sort (by omega)) ?_
    refine gR.steps 9 (σ, (49, [some (.ref 27), some (.int (nI i)), some (.int (xWb who)), some (.int (nI sort)), some (.int (nI (xLast (K i) sort)))], [.int (nI i), .ref 29, .int (((1 : Int32) <<< ((nI (xLast (K i) sort)) &&& 31)) - 1)])) rfl ?_
    refine gR.ald (i := nI i) (j := i) (N := 8) (g := σ 29) rfl rfl (by omega) (by omega) ?_
    refine gR.topI (y := nI (M i)) (hE.2.2 i hi).2.1 ?_
    refine gR.steps 3 (σ, (54, [some (.ref 27), some (.int (nI i)), some (.int (xWb who)), some (.int (nI sort)), some (.int (nI (xLast (K i) sort)))], [.int (((((1 : Int32) <<< ((nI (xLast (K i) sort)) &&& 31)) - 1) <<< ((nI (M i)) &&& 31)) &&& 16777215)])) rfl ?_
    refine gR.ret rfl ?_
    refine ⟨trivial, gSomeI ?_, rfl⟩
    refine (hold_mask (xLast (K i) sort) (last_lt (K i) (by omega) sort hs) (M i) (by omega)).trans (xMask_congr (fun m hm => ?_))
    unfold cHit
    first | rw [decide_eq_true zc7]; rfl | rw [decide_eq_true ((xWb_eq (by omega) hw).mp zc17), Bool.or_true]; rfl
  · rw [gN_eq (x := nI (K i)) (y := 2) (a := K i) (b := 2) rfl rfl (by omega) (by omega)] at zc7
    refine gR.steps 3 (σ, (15, [some (.ref 27), some (.int (nI i)), some (.int (xWb who)), some (.int (nI sort)), none], [.int (nI i), .ref 30])) rfl ?_
    refine gR.ald (i := nI i) (j := i) (N := 8) (g := σ 30) rfl rfl (by omega) (by omega) ?_
    refine gR.topI (y := nI (B i)) (hE.2.2 i hi).2.2.1 ?_
    refine gR.steps 1 (σ, (17, [some (.ref 27), some (.int (nI i)), some (.int (xWb who)), some (.int (nI sort)), none], [.int (xWb who), .int (nI (B i))])) rfl ?_
    refine gR.ifte rfl (fun zc17 => ?_) (fun zc17 => ?_)
    · refine gR.steps 4 (σ, (30, [some (.ref 27), some (.int (nI i)), some (.int (xWb who)), some (.int (nI sort)), none], [.int (nI i), .ref 28, .ref 1006])) rfl ?_
      refine gR.ald (i := nI i) (j := i) (N := 8) (g := σ 28) rfl rfl (by omega) (by omega) ?_
      refine gR.topI (y := nI (K i)) (hE.2.2 i hi).1 ?_
      refine gR.steps 4 (σ, (35, [some (.ref 27), some (.int (nI i)), some (.int (xWb who)), some (.int (nI sort)), none], [.int (((nI (K i)) * 3) + (nI sort)), .ref 1006])) rfl ?_
      refine gR.ald (i := ((nI (K i)) * 3) + (nI sort)) (j := (K i) * 3 + sort) (N := 12) (g := (fun i => ([9, 12, 12, 2, 2, 3, 1, 2, 0, 3, 3, 3] : List Int32).getD i 0)) rfl (gN_add (gN_mul rfl rfl) rfl) (by omega) (by omega) ?_
      refine gR.topI (y := nI (xLast (K i) sort)) (last_tab (K i) (by omega) sort (by omega)) ?_
      refine gR.steps 9 (σ, (49, [some (.ref 27), some (.int (nI i)), some (.int (xWb who)), some (.int (nI sort)), some (.int (nI (xLast (K i) sort)))], [.int (nI i), .ref 29, .int (((1 : Int32) <<< ((nI (xLast (K i) sort)) &&& 31)) - 1)])) rfl ?_
      refine gR.ald (i := nI i) (j := i) (N := 8) (g := σ 29) rfl rfl (by omega) (by omega) ?_
      refine gR.topI (y := nI (M i)) (hE.2.2 i hi).2.1 ?_
      refine gR.steps 3 (σ, (54, [some (.ref 27), some (.int (nI i)), some (.int (xWb who)), some (.int (nI sort)), some (.int (nI (xLast (K i) sort)))], [.int (((((1 : Int32) <<< ((nI (xLast (K i) sort)) &&& 31)) - 1) <<< ((nI (M i)) &&& 31)) &&& 16777215)])) rfl ?_
      refine gR.ret rfl ?_
      refine ⟨trivial, gSomeI ?_, rfl⟩
      refine (hold_mask (xLast (K i) sort) (last_lt (K i) (by omega) sort hs) (M i) (by omega)).trans (xMask_congr (fun m hm => ?_))
      unfold cHit
      first | rw [decide_eq_true zc7]; rfl | rw [decide_eq_true ((xWb_eq (by omega) hw).mp zc17), Bool.or_true]; rfl
    · refine gR.steps 1 (σ, (21, [some (.ref 27), some (.int (nI i)), some (.int (xWb who)), some (.int (nI sort)), none], [.int 0])) rfl ?_
      refine gR.ret rfl ?_
      refine ⟨trivial, gSomeI ?_, rfl⟩
      rw [← mask0 24]
      refine xMask_congr (fun m hm => ?_)
      unfold cHit
      rw [decide_eq_false zc7, decide_eq_false (fun z => zc17 ((xWb_eq (by omega) hw).mpr z))]; rfl
theorem s_X2_holding31 {d : Nat} (hd : 1 ≤ d) (σ : gS) (n : Nat) (K M B : Nat → Nat) (i : Nat) (who : Option Nat) (sort : Nat) (hE : cEv σ 31 n K M B) (hi : i < n) (hs : sort < 3) (hw : ∀ v, who = some v → v < 10) : gC d 11 [.ref 31, .int (nI i), .int (xWb who), .int (nI sort)] σ (fun r τ => r = some (.int (xMask (cHit K M B who sort i) 24)) ∧ τ = σ) := by
  obtain ⟨d, rfl⟩ : ∃ k, d = k + 1 := ⟨d - 1, by omega⟩
  refine gC.of (P := pX2_holding) (nL := 5) (rt := (some (.int))) (lv := [some (.ref 31), some (.int (nI i)), some (.int (xWb who)), some (.int (nI sort)), none]) (by decide +kernel) rfl rfl rfl (by simp [gEnt, Value.category]) rfl ?_
  have hn8 := hE.2.1
  have hKi := (hE.2.2 i hi).2.2.2
  refine gR.steps 3 (σ, (5, [some (.ref 31), some (.int (nI i)), some (.int (xWb who)), some (.int (nI sort)), none], [.int (nI i), .ref 32])) rfl ?_
  refine gR.ald (i := nI i) (j := i) (N := 8) (g := σ 32) rfl rfl (by omega) (by omega) ?_
  refine gR.topI (y := nI (K i)) (hE.2.2 i hi).1 ?_
  refine gR.steps 1 (σ, (7, [some (.ref 31), some (.int (nI i)), some (.int (xWb who)), some (.int (nI sort)), none], [.int 2, .int (nI (K i))])) rfl ?_
  refine gR.ifte rfl (fun zc7 => ?_) (fun zc7 => ?_)
  · rw [gN_eq (x := nI (K i)) (y := 2) (a := K i) (b := 2) rfl rfl (by omega) (by omega)] at zc7
    refine gR.steps 4 (σ, (30, [some (.ref 31), some (.int (nI i)), some (.int (xWb who)), some (.int (nI sort)), none], [.int (nI i), .ref 32, .ref 1006])) rfl ?_
    refine gR.ald (i := nI i) (j := i) (N := 8) (g := σ 32) rfl rfl (by omega) (by omega) ?_
    refine gR.topI (y := nI (K i)) (hE.2.2 i hi).1 ?_
    refine gR.steps 4 (σ, (35, [some (.ref 31), some (.int (nI i)), some (.int (xWb who)), some (.int (nI sort)), none], [.int (((nI (K i)) * 3) + (nI sort)), .ref 1006])) rfl ?_
    refine gR.ald (i := ((nI (K i)) * 3) + (nI sort)) (j := (K i) * 3 + sort) (N := 12) (g := (fun i => ([9, 12, 12, 2, 2, 3, 1, 2, 0, 3, 3, 3] : List Int32).getD i 0)) rfl (gN_add (gN_mul rfl rfl) rfl) (by omega) (by omega) ?_
    refine gR.topI (y := nI (xLast (K i) sort)) (last_tab (K i) (by omega) sort (by omega)) ?_
    refine gR.steps 9 (σ, (49, [some (.ref 31), some (.int (nI i)), some (.int (xWb who)), some (.int (nI sort)), some (.int (nI (xLast (K i) sort)))], [.int (nI i), .ref 33, .int (((1 : Int32) <<< ((nI (xLast (K i) sort)) &&& 31)) - 1)])) rfl ?_
    refine gR.ald (i := nI i) (j := i) (N := 8) (g := σ 33) rfl rfl (by omega) (by omega) ?_
    refine gR.topI (y := nI (M i)) (hE.2.2 i hi).2.1 ?_
    refine gR.steps 3 (σ, (54, [some (.ref 31), some (.int (nI i)), some (.int (xWb who)), some (.int (nI sort)), some (.int (nI (xLast (K i) sort)))], [.int (((((1 : Int32) <<< ((nI (xLast (K i) sort)) &&& 31)) - 1) <<< ((nI (M i)) &&& 31)) &&& 16777215)])) rfl ?_
    refine gR.ret rfl ?_
    refine ⟨trivial, gSomeI ?_, rfl⟩
    refine (hold_mask (xLast (K i) sort) (last_lt (K i) (by omega) sort hs) (M i) (by omega)).trans (xMask_congr (fun m hm => ?_))
    unfold cHit
    first | rw [decide_eq_true zc7]; rfl | rw [decide_eq_true ((xWb_eq (by omega) hw).mp zc17), Bool.or_true]; rfl
  · rw [gN_eq (x := nI (K i)) (y := 2) (a := K i) (b := 2) rfl rfl (by omega) (by omega)] at zc7
    refine gR.steps 3 (σ, (15, [some (.ref 31), some (.int (nI i)), some (.int (xWb who)), some (.int (nI sort)), none], [.int (nI i), .ref 34])) rfl ?_
    refine gR.ald (i := nI i) (j := i) (N := 8) (g := σ 34) rfl rfl (by omega) (by omega) ?_
    refine gR.topI (y := nI (B i)) (hE.2.2 i hi).2.2.1 ?_
    refine gR.steps 1 (σ, (17, [some (.ref 31), some (.int (nI i)), some (.int (xWb who)), some (.int (nI sort)), none], [.int (xWb who), .int (nI (B i))])) rfl ?_
    refine gR.ifte rfl (fun zc17 => ?_) (fun zc17 => ?_)
    · refine gR.steps 4 (σ, (30, [some (.ref 31), some (.int (nI i)), some (.int (xWb who)), some (.int (nI sort)), none], [.int (nI i), .ref 32, .ref 1006])) rfl ?_
      refine gR.ald (i := nI i) (j := i) (N := 8) (g := σ 32) rfl rfl (by omega) (by omega) ?_
      refine gR.topI (y := nI (K i)) (hE.2.2 i hi).1 ?_
      refine gR.steps 4 (σ, (35, [some (.ref 31), some (.int (nI i)), some (.int (xWb who)), some (.int (nI sort)), none], [.int (((nI (K i)) * 3) + (nI sort)), .ref 1006])) rfl ?_
      refine gR.ald (i := ((nI (K i)) * 3) + (nI sort)) (j := (K i) * 3 + sort) (N := 12) (g := (fun i => ([9, 12, 12, 2, 2, 3, 1, 2, 0, 3, 3, 3] : List Int32).getD i 0)) rfl (gN_add (gN_mul rfl rfl) rfl) (by omega) (by omega) ?_
      refine gR.topI (y := nI (xLast (K i) sort)) (last_tab (K i) (by omega) sort (by omega)) ?_
      refine gR.steps 9 (σ, (49, [some (.ref 31), some (.int (nI i)), some (.int (xWb who)), some (.int (nI sort)), some (.int (nI (xLast (K i) sort)))], [.int (nI i), .ref 33, .int (((1 : Int32) <<< ((nI (xLast (K i) sort)) &&& 31)) - 1)])) rfl ?_
      refine gR.ald (i := nI i) (j := i) (N := 8) (g := σ 33) rfl rfl (by omega) (by omega) ?_
      refine gR.topI (y := nI (M i)) (hE.2.2 i hi).2.1 ?_
      refine gR.steps 3 (σ, (54, [some (.ref 31), some (.int (nI i)), some (.int (xWb who)), some (.int (nI sort)), some (.int (nI (xLast (K i) sort)))], [.int (((((1 : Int32) <<< ((nI (xLast (K i) sort)) &&& 31)) - 1) <<< ((nI (M i)) &&& 31)) &&& 16777215)])) rfl ?_
      refine gR.ret rfl ?_
      refine ⟨trivial, gSomeI ?_, rfl⟩
      refine (hold_mask (xLast (K i) sort) (last_lt (K i) (by omega) sort hs) (M i) (by omega)).trans (xMask_congr (fun m hm => ?_))
      unfold cHit
      first | rw [decide_eq_true zc7]; rfl | rw [decide_eq_true ((xWb_eq (by omega) hw).mp zc17), Bool.or_true]; rfl
    · refine gR.steps 1 (σ, (21, [some (.ref 31), some (.int (nI i)), some (.int (xWb who)), some (.int (nI sort)), none], [.int 0])) rfl ?_
      refine gR.ret rfl ?_
      refine ⟨trivial, gSomeI ?_, rfl⟩
      rw [← mask0 24]
      refine xMask_congr (fun m hm => ?_)
      unfold cHit
      rw [decide_eq_false zc7, decide_eq_false (fun z => zc17 ((xWb_eq (by omega) hw).mpr z))]; rfl
def cStt (f : Nat → Nat → Bool) (sn : Nat → Bool) (m : Nat) : Nat := if f 0 m = true then 2 else if f 1 m = true then 3 else if f 2 m = true then 4 else if sn m = true then 1 else 0
/-- a course: the months of each kind of event, the season, bloom, what seems so -/
def cCo (τ : gS) (q h : Nat) (f : Nat → Nat → Bool) (sn : Nat → Bool) : Prop := (∀ k, k < 4 → τ h k = xMask (f k) 24) ∧ τ q 1 = xMask sn 24 ∧ τ q 2 = xMask (fun m => decide (cStt f sn m = 1)) 24 ∧ τ q 3 = xMask (fun m => decide (cStt f sn m = 1 ∨ f 3 m = true)) 24
def cAd (q h : Nat) : Prop := q = 35 ∧ h = 36 ∨ 50 ≤ q ∧ q < 60 ∧ h = q + 10
theorem cAd.q {q h : Nat} (H : cAd q h) : gShape q = some (.inl (1, [some h, none, none, none])) := by
  rcases H with ⟨rfl, rfl⟩ | ⟨a, b, rfl⟩
  · rfl
  · obtain ⟨j, rfl⟩ : ∃ j, q = 50 + j := ⟨q - 50, by omega⟩
    rw [gSh_course (by omega), show 50 + j + 10 = 60 + j by omega]
theorem cAd.h {q h : Nat} (H : cAd q h) : gShape h = some (.inr (.inl (0, 4))) := by
  rcases H with ⟨rfl, rfl⟩ | ⟨a, b, rfl⟩
  · rfl
  · obtain ⟨j, rfl⟩ : ∃ j, q = 50 + j := ⟨q - 50, by omega⟩
    rw [show 50 + j + 10 = 60 + j by omega, gSh_held (by omega)]
theorem bloom_b : ∀ a b c s : Bool, (s && !((a || b) || c)) = decide ((if a = true then 2 else if b = true then 3 else if c = true then 4 else if s = true then 1 else 0) = 1) := by decide
theorem seem_b (p : Prop) [Decidable p] (b : Bool) : (decide p || b) = decide (p ∨ b = true) := by
  by_cases h : p
  · rw [decide_eq_true h, decide_eq_true (Or.inl h)]; rfl
  · rw [decide_eq_false h]; cases b
    · rw [decide_eq_false (fun z => z.elim h (by decide))]; rfl
    · rw [decide_eq_true (Or.inr rfl)]; rfl
theorem dS_st (D : xDat) (gn : Nat → Bool) (m k : Nat) : dS D gn m k = cStt (fun a m => xOn (dN D) (dK D) (dM D) (dB D) gn a (some k) (dKd D k) m) (xSeason (dKd D k) (dBg D k)) m := rfl
theorem dQ_st (D : xDat) (gn : Nat → Bool) (m k : Nat) : dQ D gn m k = xOn (dN D) (dK D) (dM D) (dB D) gn 3 (some k) (dKd D k) m := rfl
theorem s_X1_beginIn {d : Nat} (hd : 1 ≤ d) (σ : gS) (q h : Nat) (f : Nat → Nat → Bool) (sort bg : Nat) (hA : cAd q h) (hh : ∀ k, k < 4 → σ h k = xMask (f k) 24) (hs : sort < 3) (hb : bg < 12) : gC d 6 [.ref q, .int (nI bg), .int (nI sort)] σ (fun r τ => r = none ∧ (∀ p, p ≠ q → τ p = σ p) ∧ cCo τ q h f (xSeason sort bg)) := by
  obtain ⟨d, rfl⟩ : ∃ k, d = k + 1 := ⟨d - 1, by omega⟩
  refine gC.of (P := pX1_beginIn) (nL := 5) (rt := none) (lv := [some (.ref q), some (.int (nI bg)), some (.int (nI sort)), none, none]) (by decide +kernel) rfl rfl rfl (by simp [gEnt, Value.category]) rfl ?_
  have hA2 : q = 35 ∧ h = 36 ∨ 50 ≤ q ∧ q < 60 ∧ h = q + 10 := hA
  refine gR.steps 3 (σ, (5, [some (.ref q), some (.int (nI bg)), some (.int (nI sort)), none, none], [.int (nI sort), .ref 1005, .int 1])) rfl ?_
  refine gR.ald (i := nI sort) (j := sort) (N := 3) (g := (fun i => ([6, 4, 3] : List Int32).getD i 0)) rfl rfl (by omega) (by omega) ?_
  refine gR.steps 20 (σ, (33, [some (.ref q), some (.int (nI bg)), some (.int (nI sort)), some (.int ((((1 : Int32) <<< ((([6, 4, 3] : List Int32).getD sort 0) &&& 31)) - 1) <<< ((nI bg) &&& 31))), some (.int ((((((1 : Int32) <<< ((([6, 4, 3] : List Int32).getD sort 0) &&& 31)) - 1) <<< ((nI bg) &&& 31)) ||| (((((1 : Int32) <<< ((([6, 4, 3] : List Int32).getD sort 0) &&& 31)) - 1) <<< ((nI bg) &&& 31)) >>> ((12 : Int32) &&& 31))) &&& 4095))], [.int (((((((1 : Int32) <<< ((([6, 4, 3] : List Int32).getD sort 0) &&& 31)) - 1) <<< ((nI bg) &&& 31)) ||| (((((1 : Int32) <<< ((([6, 4, 3] : List Int32).getD sort 0) &&& 31)) - 1) <<< ((nI bg) &&& 31)) >>> ((12 : Int32) &&& 31))) &&& 4095) ||| (((((((1 : Int32) <<< ((([6, 4, 3] : List Int32).getD sort 0) &&& 31)) - 1) <<< ((nI bg) &&& 31)) ||| (((((1 : Int32) <<< ((([6, 4, 3] : List Int32).getD sort 0) &&& 31)) - 1) <<< ((nI bg) &&& 31)) >>> ((12 : Int32) &&& 31))) &&& 4095) <<< ((12 : Int32) &&& 31))), .ref q])) rfl ?_
  refine gR.putI rfl hA.q rfl ?_
  show gR _ _ _ (gUp σ q 1 (((((((1 : Int32) <<< ((([6, 4, 3] : List Int32).getD sort 0) &&& 31)) - 1) <<< ((nI bg) &&& 31)) ||| (((((1 : Int32) <<< ((([6, 4, 3] : List Int32).getD sort 0) &&& 31)) - 1) <<< ((nI bg) &&& 31)) >>> ((12 : Int32) &&& 31))) &&& 4095) ||| (((((((1 : Int32) <<< ((([6, 4, 3] : List Int32).getD sort 0) &&& 31)) - 1) <<< ((nI bg) &&& 31)) ||| (((((1 : Int32) <<< ((([6, 4, 3] : List Int32).getD sort 0) &&& 31)) - 1) <<< ((nI bg) &&& 31)) >>> ((12 : Int32) &&& 31))) &&& 4095) <<< ((12 : Int32) &&& 31)))) (36, [some (.ref q), some (.int (nI bg)), some (.int (nI sort)), some (.int ((((1 : Int32) <<< ((([6, 4, 3] : List Int32).getD sort 0) &&& 31)) - 1) <<< ((nI bg) &&& 31))), some (.int ((((((1 : Int32) <<< ((([6, 4, 3] : List Int32).getD sort 0) &&& 31)) - 1) <<< ((nI bg) &&& 31)) ||| (((((1 : Int32) <<< ((([6, 4, 3] : List Int32).getD sort 0) &&& 31)) - 1) <<< ((nI bg) &&& 31)) >>> ((12 : Int32) &&& 31))) &&& 4095))], [])
  refine gR.steps 2 (gUp σ q 1 (((((((1 : Int32) <<< ((([6, 4, 3] : List Int32).getD sort 0) &&& 31)) - 1) <<< ((nI bg) &&& 31)) ||| (((((1 : Int32) <<< ((([6, 4, 3] : List Int32).getD sort 0) &&& 31)) - 1) <<< ((nI bg) &&& 31)) >>> ((12 : Int32) &&& 31))) &&& 4095) ||| (((((((1 : Int32) <<< ((([6, 4, 3] : List Int32).getD sort 0) &&& 31)) - 1) <<< ((nI bg) &&& 31)) ||| (((((1 : Int32) <<< ((([6, 4, 3] : List Int32).getD sort 0) &&& 31)) - 1) <<< ((nI bg) &&& 31)) >>> ((12 : Int32) &&& 31))) &&& 4095) <<< ((12 : Int32) &&& 31))), (38, [some (.ref q), some (.int (nI bg)), some (.int (nI sort)), some (.int ((((1 : Int32) <<< ((([6, 4, 3] : List Int32).getD sort 0) &&& 31)) - 1) <<< ((nI bg) &&& 31))), some (.int ((((((1 : Int32) <<< ((([6, 4, 3] : List Int32).getD sort 0) &&& 31)) - 1) <<< ((nI bg) &&& 31)) ||| (((((1 : Int32) <<< ((([6, 4, 3] : List Int32).getD sort 0) &&& 31)) - 1) <<< ((nI bg) &&& 31)) >>> ((12 : Int32) &&& 31))) &&& 4095))], [.ref q, .ref q])) rfl ?_
  refine gR.getI rfl hA.q rfl ?_
  show gR _ _ _ (gUp σ q 1 (((((((1 : Int32) <<< ((([6, 4, 3] : List Int32).getD sort 0) &&& 31)) - 1) <<< ((nI bg) &&& 31)) ||| (((((1 : Int32) <<< ((([6, 4, 3] : List Int32).getD sort 0) &&& 31)) - 1) <<< ((nI bg) &&& 31)) >>> ((12 : Int32) &&& 31))) &&& 4095) ||| (((((((1 : Int32) <<< ((([6, 4, 3] : List Int32).getD sort 0) &&& 31)) - 1) <<< ((nI bg) &&& 31)) ||| (((((1 : Int32) <<< ((([6, 4, 3] : List Int32).getD sort 0) &&& 31)) - 1) <<< ((nI bg) &&& 31)) >>> ((12 : Int32) &&& 31))) &&& 4095) <<< ((12 : Int32) &&& 31)))) (41, [some (.ref q), some (.int (nI bg)), some (.int (nI sort)), some (.int ((((1 : Int32) <<< ((([6, 4, 3] : List Int32).getD sort 0) &&& 31)) - 1) <<< ((nI bg) &&& 31))), some (.int ((((((1 : Int32) <<< ((([6, 4, 3] : List Int32).getD sort 0) &&& 31)) - 1) <<< ((nI bg) &&& 31)) ||| (((((1 : Int32) <<< ((([6, 4, 3] : List Int32).getD sort 0) &&& 31)) - 1) <<< ((nI bg) &&& 31)) >>> ((12 : Int32) &&& 31))) &&& 4095))], [.int ((gUp σ q 1 (((((((1 : Int32) <<< ((([6, 4, 3] : List Int32).getD sort 0) &&& 31)) - 1) <<< ((nI bg) &&& 31)) ||| (((((1 : Int32) <<< ((([6, 4, 3] : List Int32).getD sort 0) &&& 31)) - 1) <<< ((nI bg) &&& 31)) >>> ((12 : Int32) &&& 31))) &&& 4095) ||| (((((((1 : Int32) <<< ((([6, 4, 3] : List Int32).getD sort 0) &&& 31)) - 1) <<< ((nI bg) &&& 31)) ||| (((((1 : Int32) <<< ((([6, 4, 3] : List Int32).getD sort 0) &&& 31)) - 1) <<< ((nI bg) &&& 31)) >>> ((12 : Int32) &&& 31))) &&& 4095) <<< ((12 : Int32) &&& 31)))) q 1), .ref q])
  refine gR.topI (y := ((((((1 : Int32) <<< ((([6, 4, 3] : List Int32).getD sort 0) &&& 31)) - 1) <<< ((nI bg) &&& 31)) ||| (((((1 : Int32) <<< ((([6, 4, 3] : List Int32).getD sort 0) &&& 31)) - 1) <<< ((nI bg) &&& 31)) >>> ((12 : Int32) &&& 31))) &&& 4095) ||| (((((((1 : Int32) <<< ((([6, 4, 3] : List Int32).getD sort 0) &&& 31)) - 1) <<< ((nI bg) &&& 31)) ||| (((((1 : Int32) <<< ((([6, 4, 3] : List Int32).getD sort 0) &&& 31)) - 1) <<< ((nI bg) &&& 31)) >>> ((12 : Int32) &&& 31))) &&& 4095) <<< ((12 : Int32) &&& 31))) (by rw [gUp_s]) ?_
  refine gR.steps 1 (gUp σ q 1 (((((((1 : Int32) <<< ((([6, 4, 3] : List Int32).getD sort 0) &&& 31)) - 1) <<< ((nI bg) &&& 31)) ||| (((((1 : Int32) <<< ((([6, 4, 3] : List Int32).getD sort 0) &&& 31)) - 1) <<< ((nI bg) &&& 31)) >>> ((12 : Int32) &&& 31))) &&& 4095) ||| (((((((1 : Int32) <<< ((([6, 4, 3] : List Int32).getD sort 0) &&& 31)) - 1) <<< ((nI bg) &&& 31)) ||| (((((1 : Int32) <<< ((([6, 4, 3] : List Int32).getD sort 0) &&& 31)) - 1) <<< ((nI bg) &&& 31)) >>> ((12 : Int32) &&& 31))) &&& 4095) <<< ((12 : Int32) &&& 31))), (42, [some (.ref q), some (.int (nI bg)), some (.int (nI sort)), some (.int ((((1 : Int32) <<< ((([6, 4, 3] : List Int32).getD sort 0) &&& 31)) - 1) <<< ((nI bg) &&& 31))), some (.int ((((((1 : Int32) <<< ((([6, 4, 3] : List Int32).getD sort 0) &&& 31)) - 1) <<< ((nI bg) &&& 31)) ||| (((((1 : Int32) <<< ((([6, 4, 3] : List Int32).getD sort 0) &&& 31)) - 1) <<< ((nI bg) &&& 31)) >>> ((12 : Int32) &&& 31))) &&& 4095))], [.ref q, .int (((((((1 : Int32) <<< ((([6, 4, 3] : List Int32).getD sort 0) &&& 31)) - 1) <<< ((nI bg) &&& 31)) ||| (((((1 : Int32) <<< ((([6, 4, 3] : List Int32).getD sort 0) &&& 31)) - 1) <<< ((nI bg) &&& 31)) >>> ((12 : Int32) &&& 31))) &&& 4095) ||| (((((((1 : Int32) <<< ((([6, 4, 3] : List Int32).getD sort 0) &&& 31)) - 1) <<< ((nI bg) &&& 31)) ||| (((((1 : Int32) <<< ((([6, 4, 3] : List Int32).getD sort 0) &&& 31)) - 1) <<< ((nI bg) &&& 31)) >>> ((12 : Int32) &&& 31))) &&& 4095) <<< ((12 : Int32) &&& 31))), .ref q])) rfl ?_
  refine gR.getR rfl hA.q rfl ?_
  show gR _ _ _ (gUp σ q 1 (((((((1 : Int32) <<< ((([6, 4, 3] : List Int32).getD sort 0) &&& 31)) - 1) <<< ((nI bg) &&& 31)) ||| (((((1 : Int32) <<< ((([6, 4, 3] : List Int32).getD sort 0) &&& 31)) - 1) <<< ((nI bg) &&& 31)) >>> ((12 : Int32) &&& 31))) &&& 4095) ||| (((((((1 : Int32) <<< ((([6, 4, 3] : List Int32).getD sort 0) &&& 31)) - 1) <<< ((nI bg) &&& 31)) ||| (((((1 : Int32) <<< ((([6, 4, 3] : List Int32).getD sort 0) &&& 31)) - 1) <<< ((nI bg) &&& 31)) >>> ((12 : Int32) &&& 31))) &&& 4095) <<< ((12 : Int32) &&& 31)))) (45, [some (.ref q), some (.int (nI bg)), some (.int (nI sort)), some (.int ((((1 : Int32) <<< ((([6, 4, 3] : List Int32).getD sort 0) &&& 31)) - 1) <<< ((nI bg) &&& 31))), some (.int ((((((1 : Int32) <<< ((([6, 4, 3] : List Int32).getD sort 0) &&& 31)) - 1) <<< ((nI bg) &&& 31)) ||| (((((1 : Int32) <<< ((([6, 4, 3] : List Int32).getD sort 0) &&& 31)) - 1) <<< ((nI bg) &&& 31)) >>> ((12 : Int32) &&& 31))) &&& 4095))], [.ref h, .int (((((((1 : Int32) <<< ((([6, 4, 3] : List Int32).getD sort 0) &&& 31)) - 1) <<< ((nI bg) &&& 31)) ||| (((((1 : Int32) <<< ((([6, 4, 3] : List Int32).getD sort 0) &&& 31)) - 1) <<< ((nI bg) &&& 31)) >>> ((12 : Int32) &&& 31))) &&& 4095) ||| (((((((1 : Int32) <<< ((([6, 4, 3] : List Int32).getD sort 0) &&& 31)) - 1) <<< ((nI bg) &&& 31)) ||| (((((1 : Int32) <<< ((([6, 4, 3] : List Int32).getD sort 0) &&& 31)) - 1) <<< ((nI bg) &&& 31)) >>> ((12 : Int32) &&& 31))) &&& 4095) <<< ((12 : Int32) &&& 31))), .ref q])
  refine gR.steps 1 (gUp σ q 1 (((((((1 : Int32) <<< ((([6, 4, 3] : List Int32).getD sort 0) &&& 31)) - 1) <<< ((nI bg) &&& 31)) ||| (((((1 : Int32) <<< ((([6, 4, 3] : List Int32).getD sort 0) &&& 31)) - 1) <<< ((nI bg) &&& 31)) >>> ((12 : Int32) &&& 31))) &&& 4095) ||| (((((((1 : Int32) <<< ((([6, 4, 3] : List Int32).getD sort 0) &&& 31)) - 1) <<< ((nI bg) &&& 31)) ||| (((((1 : Int32) <<< ((([6, 4, 3] : List Int32).getD sort 0) &&& 31)) - 1) <<< ((nI bg) &&& 31)) >>> ((12 : Int32) &&& 31))) &&& 4095) <<< ((12 : Int32) &&& 31))), (46, [some (.ref q), some (.int (nI bg)), some (.int (nI sort)), some (.int ((((1 : Int32) <<< ((([6, 4, 3] : List Int32).getD sort 0) &&& 31)) - 1) <<< ((nI bg) &&& 31))), some (.int ((((((1 : Int32) <<< ((([6, 4, 3] : List Int32).getD sort 0) &&& 31)) - 1) <<< ((nI bg) &&& 31)) ||| (((((1 : Int32) <<< ((([6, 4, 3] : List Int32).getD sort 0) &&& 31)) - 1) <<< ((nI bg) &&& 31)) >>> ((12 : Int32) &&& 31))) &&& 4095))], [.int 0, .ref h, .int (((((((1 : Int32) <<< ((([6, 4, 3] : List Int32).getD sort 0) &&& 31)) - 1) <<< ((nI bg) &&& 31)) ||| (((((1 : Int32) <<< ((([6, 4, 3] : List Int32).getD sort 0) &&& 31)) - 1) <<< ((nI bg) &&& 31)) >>> ((12 : Int32) &&& 31))) &&& 4095) ||| (((((((1 : Int32) <<< ((([6, 4, 3] : List Int32).getD sort 0) &&& 31)) - 1) <<< ((nI bg) &&& 31)) ||| (((((1 : Int32) <<< ((([6, 4, 3] : List Int32).getD sort 0) &&& 31)) - 1) <<< ((nI bg) &&& 31)) >>> ((12 : Int32) &&& 31))) &&& 4095) <<< ((12 : Int32) &&& 31))), .ref q])) rfl ?_
  refine gR.aldq (i := 0) (j := 0) rfl hA.h rfl (by omega) (by omega) ?_
  show gR _ _ _ (gUp σ q 1 (((((((1 : Int32) <<< ((([6, 4, 3] : List Int32).getD sort 0) &&& 31)) - 1) <<< ((nI bg) &&& 31)) ||| (((((1 : Int32) <<< ((([6, 4, 3] : List Int32).getD sort 0) &&& 31)) - 1) <<< ((nI bg) &&& 31)) >>> ((12 : Int32) &&& 31))) &&& 4095) ||| (((((((1 : Int32) <<< ((([6, 4, 3] : List Int32).getD sort 0) &&& 31)) - 1) <<< ((nI bg) &&& 31)) ||| (((((1 : Int32) <<< ((([6, 4, 3] : List Int32).getD sort 0) &&& 31)) - 1) <<< ((nI bg) &&& 31)) >>> ((12 : Int32) &&& 31))) &&& 4095) <<< ((12 : Int32) &&& 31)))) (47, [some (.ref q), some (.int (nI bg)), some (.int (nI sort)), some (.int ((((1 : Int32) <<< ((([6, 4, 3] : List Int32).getD sort 0) &&& 31)) - 1) <<< ((nI bg) &&& 31))), some (.int ((((((1 : Int32) <<< ((([6, 4, 3] : List Int32).getD sort 0) &&& 31)) - 1) <<< ((nI bg) &&& 31)) ||| (((((1 : Int32) <<< ((([6, 4, 3] : List Int32).getD sort 0) &&& 31)) - 1) <<< ((nI bg) &&& 31)) >>> ((12 : Int32) &&& 31))) &&& 4095))], [.int ((gUp σ q 1 (((((((1 : Int32) <<< ((([6, 4, 3] : List Int32).getD sort 0) &&& 31)) - 1) <<< ((nI bg) &&& 31)) ||| (((((1 : Int32) <<< ((([6, 4, 3] : List Int32).getD sort 0) &&& 31)) - 1) <<< ((nI bg) &&& 31)) >>> ((12 : Int32) &&& 31))) &&& 4095) ||| (((((((1 : Int32) <<< ((([6, 4, 3] : List Int32).getD sort 0) &&& 31)) - 1) <<< ((nI bg) &&& 31)) ||| (((((1 : Int32) <<< ((([6, 4, 3] : List Int32).getD sort 0) &&& 31)) - 1) <<< ((nI bg) &&& 31)) >>> ((12 : Int32) &&& 31))) &&& 4095) <<< ((12 : Int32) &&& 31)))) h 0), .int (((((((1 : Int32) <<< ((([6, 4, 3] : List Int32).getD sort 0) &&& 31)) - 1) <<< ((nI bg) &&& 31)) ||| (((((1 : Int32) <<< ((([6, 4, 3] : List Int32).getD sort 0) &&& 31)) - 1) <<< ((nI bg) &&& 31)) >>> ((12 : Int32) &&& 31))) &&& 4095) ||| (((((((1 : Int32) <<< ((([6, 4, 3] : List Int32).getD sort 0) &&& 31)) - 1) <<< ((nI bg) &&& 31)) ||| (((((1 : Int32) <<< ((([6, 4, 3] : List Int32).getD sort 0) &&& 31)) - 1) <<< ((nI bg) &&& 31)) >>> ((12 : Int32) &&& 31))) &&& 4095) <<< ((12 : Int32) &&& 31))), .ref q])
  refine gR.topI (y := σ h 0) (by rw [gUp_o (by omega)]) ?_
  refine gR.steps 1 (gUp σ q 1 (((((((1 : Int32) <<< ((([6, 4, 3] : List Int32).getD sort 0) &&& 31)) - 1) <<< ((nI bg) &&& 31)) ||| (((((1 : Int32) <<< ((([6, 4, 3] : List Int32).getD sort 0) &&& 31)) - 1) <<< ((nI bg) &&& 31)) >>> ((12 : Int32) &&& 31))) &&& 4095) ||| (((((((1 : Int32) <<< ((([6, 4, 3] : List Int32).getD sort 0) &&& 31)) - 1) <<< ((nI bg) &&& 31)) ||| (((((1 : Int32) <<< ((([6, 4, 3] : List Int32).getD sort 0) &&& 31)) - 1) <<< ((nI bg) &&& 31)) >>> ((12 : Int32) &&& 31))) &&& 4095) <<< ((12 : Int32) &&& 31))), (48, [some (.ref q), some (.int (nI bg)), some (.int (nI sort)), some (.int ((((1 : Int32) <<< ((([6, 4, 3] : List Int32).getD sort 0) &&& 31)) - 1) <<< ((nI bg) &&& 31))), some (.int ((((((1 : Int32) <<< ((([6, 4, 3] : List Int32).getD sort 0) &&& 31)) - 1) <<< ((nI bg) &&& 31)) ||| (((((1 : Int32) <<< ((([6, 4, 3] : List Int32).getD sort 0) &&& 31)) - 1) <<< ((nI bg) &&& 31)) >>> ((12 : Int32) &&& 31))) &&& 4095))], [.ref q, .int (σ h 0), .int (((((((1 : Int32) <<< ((([6, 4, 3] : List Int32).getD sort 0) &&& 31)) - 1) <<< ((nI bg) &&& 31)) ||| (((((1 : Int32) <<< ((([6, 4, 3] : List Int32).getD sort 0) &&& 31)) - 1) <<< ((nI bg) &&& 31)) >>> ((12 : Int32) &&& 31))) &&& 4095) ||| (((((((1 : Int32) <<< ((([6, 4, 3] : List Int32).getD sort 0) &&& 31)) - 1) <<< ((nI bg) &&& 31)) ||| (((((1 : Int32) <<< ((([6, 4, 3] : List Int32).getD sort 0) &&& 31)) - 1) <<< ((nI bg) &&& 31)) >>> ((12 : Int32) &&& 31))) &&& 4095) <<< ((12 : Int32) &&& 31))), .ref q])) rfl ?_
  refine gR.getR rfl hA.q rfl ?_
  show gR _ _ _ (gUp σ q 1 (((((((1 : Int32) <<< ((([6, 4, 3] : List Int32).getD sort 0) &&& 31)) - 1) <<< ((nI bg) &&& 31)) ||| (((((1 : Int32) <<< ((([6, 4, 3] : List Int32).getD sort 0) &&& 31)) - 1) <<< ((nI bg) &&& 31)) >>> ((12 : Int32) &&& 31))) &&& 4095) ||| (((((((1 : Int32) <<< ((([6, 4, 3] : List Int32).getD sort 0) &&& 31)) - 1) <<< ((nI bg) &&& 31)) ||| (((((1 : Int32) <<< ((([6, 4, 3] : List Int32).getD sort 0) &&& 31)) - 1) <<< ((nI bg) &&& 31)) >>> ((12 : Int32) &&& 31))) &&& 4095) <<< ((12 : Int32) &&& 31)))) (51, [some (.ref q), some (.int (nI bg)), some (.int (nI sort)), some (.int ((((1 : Int32) <<< ((([6, 4, 3] : List Int32).getD sort 0) &&& 31)) - 1) <<< ((nI bg) &&& 31))), some (.int ((((((1 : Int32) <<< ((([6, 4, 3] : List Int32).getD sort 0) &&& 31)) - 1) <<< ((nI bg) &&& 31)) ||| (((((1 : Int32) <<< ((([6, 4, 3] : List Int32).getD sort 0) &&& 31)) - 1) <<< ((nI bg) &&& 31)) >>> ((12 : Int32) &&& 31))) &&& 4095))], [.ref h, .int (σ h 0), .int (((((((1 : Int32) <<< ((([6, 4, 3] : List Int32).getD sort 0) &&& 31)) - 1) <<< ((nI bg) &&& 31)) ||| (((((1 : Int32) <<< ((([6, 4, 3] : List Int32).getD sort 0) &&& 31)) - 1) <<< ((nI bg) &&& 31)) >>> ((12 : Int32) &&& 31))) &&& 4095) ||| (((((((1 : Int32) <<< ((([6, 4, 3] : List Int32).getD sort 0) &&& 31)) - 1) <<< ((nI bg) &&& 31)) ||| (((((1 : Int32) <<< ((([6, 4, 3] : List Int32).getD sort 0) &&& 31)) - 1) <<< ((nI bg) &&& 31)) >>> ((12 : Int32) &&& 31))) &&& 4095) <<< ((12 : Int32) &&& 31))), .ref q])
  refine gR.steps 1 (gUp σ q 1 (((((((1 : Int32) <<< ((([6, 4, 3] : List Int32).getD sort 0) &&& 31)) - 1) <<< ((nI bg) &&& 31)) ||| (((((1 : Int32) <<< ((([6, 4, 3] : List Int32).getD sort 0) &&& 31)) - 1) <<< ((nI bg) &&& 31)) >>> ((12 : Int32) &&& 31))) &&& 4095) ||| (((((((1 : Int32) <<< ((([6, 4, 3] : List Int32).getD sort 0) &&& 31)) - 1) <<< ((nI bg) &&& 31)) ||| (((((1 : Int32) <<< ((([6, 4, 3] : List Int32).getD sort 0) &&& 31)) - 1) <<< ((nI bg) &&& 31)) >>> ((12 : Int32) &&& 31))) &&& 4095) <<< ((12 : Int32) &&& 31))), (52, [some (.ref q), some (.int (nI bg)), some (.int (nI sort)), some (.int ((((1 : Int32) <<< ((([6, 4, 3] : List Int32).getD sort 0) &&& 31)) - 1) <<< ((nI bg) &&& 31))), some (.int ((((((1 : Int32) <<< ((([6, 4, 3] : List Int32).getD sort 0) &&& 31)) - 1) <<< ((nI bg) &&& 31)) ||| (((((1 : Int32) <<< ((([6, 4, 3] : List Int32).getD sort 0) &&& 31)) - 1) <<< ((nI bg) &&& 31)) >>> ((12 : Int32) &&& 31))) &&& 4095))], [.int 1, .ref h, .int (σ h 0), .int (((((((1 : Int32) <<< ((([6, 4, 3] : List Int32).getD sort 0) &&& 31)) - 1) <<< ((nI bg) &&& 31)) ||| (((((1 : Int32) <<< ((([6, 4, 3] : List Int32).getD sort 0) &&& 31)) - 1) <<< ((nI bg) &&& 31)) >>> ((12 : Int32) &&& 31))) &&& 4095) ||| (((((((1 : Int32) <<< ((([6, 4, 3] : List Int32).getD sort 0) &&& 31)) - 1) <<< ((nI bg) &&& 31)) ||| (((((1 : Int32) <<< ((([6, 4, 3] : List Int32).getD sort 0) &&& 31)) - 1) <<< ((nI bg) &&& 31)) >>> ((12 : Int32) &&& 31))) &&& 4095) <<< ((12 : Int32) &&& 31))), .ref q])) rfl ?_
  refine gR.aldq (i := 1) (j := 1) rfl hA.h rfl (by omega) (by omega) ?_
  show gR _ _ _ (gUp σ q 1 (((((((1 : Int32) <<< ((([6, 4, 3] : List Int32).getD sort 0) &&& 31)) - 1) <<< ((nI bg) &&& 31)) ||| (((((1 : Int32) <<< ((([6, 4, 3] : List Int32).getD sort 0) &&& 31)) - 1) <<< ((nI bg) &&& 31)) >>> ((12 : Int32) &&& 31))) &&& 4095) ||| (((((((1 : Int32) <<< ((([6, 4, 3] : List Int32).getD sort 0) &&& 31)) - 1) <<< ((nI bg) &&& 31)) ||| (((((1 : Int32) <<< ((([6, 4, 3] : List Int32).getD sort 0) &&& 31)) - 1) <<< ((nI bg) &&& 31)) >>> ((12 : Int32) &&& 31))) &&& 4095) <<< ((12 : Int32) &&& 31)))) (53, [some (.ref q), some (.int (nI bg)), some (.int (nI sort)), some (.int ((((1 : Int32) <<< ((([6, 4, 3] : List Int32).getD sort 0) &&& 31)) - 1) <<< ((nI bg) &&& 31))), some (.int ((((((1 : Int32) <<< ((([6, 4, 3] : List Int32).getD sort 0) &&& 31)) - 1) <<< ((nI bg) &&& 31)) ||| (((((1 : Int32) <<< ((([6, 4, 3] : List Int32).getD sort 0) &&& 31)) - 1) <<< ((nI bg) &&& 31)) >>> ((12 : Int32) &&& 31))) &&& 4095))], [.int ((gUp σ q 1 (((((((1 : Int32) <<< ((([6, 4, 3] : List Int32).getD sort 0) &&& 31)) - 1) <<< ((nI bg) &&& 31)) ||| (((((1 : Int32) <<< ((([6, 4, 3] : List Int32).getD sort 0) &&& 31)) - 1) <<< ((nI bg) &&& 31)) >>> ((12 : Int32) &&& 31))) &&& 4095) ||| (((((((1 : Int32) <<< ((([6, 4, 3] : List Int32).getD sort 0) &&& 31)) - 1) <<< ((nI bg) &&& 31)) ||| (((((1 : Int32) <<< ((([6, 4, 3] : List Int32).getD sort 0) &&& 31)) - 1) <<< ((nI bg) &&& 31)) >>> ((12 : Int32) &&& 31))) &&& 4095) <<< ((12 : Int32) &&& 31)))) h 1), .int (σ h 0), .int (((((((1 : Int32) <<< ((([6, 4, 3] : List Int32).getD sort 0) &&& 31)) - 1) <<< ((nI bg) &&& 31)) ||| (((((1 : Int32) <<< ((([6, 4, 3] : List Int32).getD sort 0) &&& 31)) - 1) <<< ((nI bg) &&& 31)) >>> ((12 : Int32) &&& 31))) &&& 4095) ||| (((((((1 : Int32) <<< ((([6, 4, 3] : List Int32).getD sort 0) &&& 31)) - 1) <<< ((nI bg) &&& 31)) ||| (((((1 : Int32) <<< ((([6, 4, 3] : List Int32).getD sort 0) &&& 31)) - 1) <<< ((nI bg) &&& 31)) >>> ((12 : Int32) &&& 31))) &&& 4095) <<< ((12 : Int32) &&& 31))), .ref q])
  refine gR.topI (y := σ h 1) (by rw [gUp_o (by omega)]) ?_
  refine gR.steps 2 (gUp σ q 1 (((((((1 : Int32) <<< ((([6, 4, 3] : List Int32).getD sort 0) &&& 31)) - 1) <<< ((nI bg) &&& 31)) ||| (((((1 : Int32) <<< ((([6, 4, 3] : List Int32).getD sort 0) &&& 31)) - 1) <<< ((nI bg) &&& 31)) >>> ((12 : Int32) &&& 31))) &&& 4095) ||| (((((((1 : Int32) <<< ((([6, 4, 3] : List Int32).getD sort 0) &&& 31)) - 1) <<< ((nI bg) &&& 31)) ||| (((((1 : Int32) <<< ((([6, 4, 3] : List Int32).getD sort 0) &&& 31)) - 1) <<< ((nI bg) &&& 31)) >>> ((12 : Int32) &&& 31))) &&& 4095) <<< ((12 : Int32) &&& 31))), (55, [some (.ref q), some (.int (nI bg)), some (.int (nI sort)), some (.int ((((1 : Int32) <<< ((([6, 4, 3] : List Int32).getD sort 0) &&& 31)) - 1) <<< ((nI bg) &&& 31))), some (.int ((((((1 : Int32) <<< ((([6, 4, 3] : List Int32).getD sort 0) &&& 31)) - 1) <<< ((nI bg) &&& 31)) ||| (((((1 : Int32) <<< ((([6, 4, 3] : List Int32).getD sort 0) &&& 31)) - 1) <<< ((nI bg) &&& 31)) >>> ((12 : Int32) &&& 31))) &&& 4095))], [.ref q, .int ((σ h 0) ||| (σ h 1)), .int (((((((1 : Int32) <<< ((([6, 4, 3] : List Int32).getD sort 0) &&& 31)) - 1) <<< ((nI bg) &&& 31)) ||| (((((1 : Int32) <<< ((([6, 4, 3] : List Int32).getD sort 0) &&& 31)) - 1) <<< ((nI bg) &&& 31)) >>> ((12 : Int32) &&& 31))) &&& 4095) ||| (((((((1 : Int32) <<< ((([6, 4, 3] : List Int32).getD sort 0) &&& 31)) - 1) <<< ((nI bg) &&& 31)) ||| (((((1 : Int32) <<< ((([6, 4, 3] : List Int32).getD sort 0) &&& 31)) - 1) <<< ((nI bg) &&& 31)) >>> ((12 : Int32) &&& 31))) &&& 4095) <<< ((12 : Int32) &&& 31))), .ref q])) rfl ?_
  refine gR.getR rfl hA.q rfl ?_
  show gR _ _ _ (gUp σ q 1 (((((((1 : Int32) <<< ((([6, 4, 3] : List Int32).getD sort 0) &&& 31)) - 1) <<< ((nI bg) &&& 31)) ||| (((((1 : Int32) <<< ((([6, 4, 3] : List Int32).getD sort 0) &&& 31)) - 1) <<< ((nI bg) &&& 31)) >>> ((12 : Int32) &&& 31))) &&& 4095) ||| (((((((1 : Int32) <<< ((([6, 4, 3] : List Int32).getD sort 0) &&& 31)) - 1) <<< ((nI bg) &&& 31)) ||| (((((1 : Int32) <<< ((([6, 4, 3] : List Int32).getD sort 0) &&& 31)) - 1) <<< ((nI bg) &&& 31)) >>> ((12 : Int32) &&& 31))) &&& 4095) <<< ((12 : Int32) &&& 31)))) (58, [some (.ref q), some (.int (nI bg)), some (.int (nI sort)), some (.int ((((1 : Int32) <<< ((([6, 4, 3] : List Int32).getD sort 0) &&& 31)) - 1) <<< ((nI bg) &&& 31))), some (.int ((((((1 : Int32) <<< ((([6, 4, 3] : List Int32).getD sort 0) &&& 31)) - 1) <<< ((nI bg) &&& 31)) ||| (((((1 : Int32) <<< ((([6, 4, 3] : List Int32).getD sort 0) &&& 31)) - 1) <<< ((nI bg) &&& 31)) >>> ((12 : Int32) &&& 31))) &&& 4095))], [.ref h, .int ((σ h 0) ||| (σ h 1)), .int (((((((1 : Int32) <<< ((([6, 4, 3] : List Int32).getD sort 0) &&& 31)) - 1) <<< ((nI bg) &&& 31)) ||| (((((1 : Int32) <<< ((([6, 4, 3] : List Int32).getD sort 0) &&& 31)) - 1) <<< ((nI bg) &&& 31)) >>> ((12 : Int32) &&& 31))) &&& 4095) ||| (((((((1 : Int32) <<< ((([6, 4, 3] : List Int32).getD sort 0) &&& 31)) - 1) <<< ((nI bg) &&& 31)) ||| (((((1 : Int32) <<< ((([6, 4, 3] : List Int32).getD sort 0) &&& 31)) - 1) <<< ((nI bg) &&& 31)) >>> ((12 : Int32) &&& 31))) &&& 4095) <<< ((12 : Int32) &&& 31))), .ref q])
  refine gR.steps 1 (gUp σ q 1 (((((((1 : Int32) <<< ((([6, 4, 3] : List Int32).getD sort 0) &&& 31)) - 1) <<< ((nI bg) &&& 31)) ||| (((((1 : Int32) <<< ((([6, 4, 3] : List Int32).getD sort 0) &&& 31)) - 1) <<< ((nI bg) &&& 31)) >>> ((12 : Int32) &&& 31))) &&& 4095) ||| (((((((1 : Int32) <<< ((([6, 4, 3] : List Int32).getD sort 0) &&& 31)) - 1) <<< ((nI bg) &&& 31)) ||| (((((1 : Int32) <<< ((([6, 4, 3] : List Int32).getD sort 0) &&& 31)) - 1) <<< ((nI bg) &&& 31)) >>> ((12 : Int32) &&& 31))) &&& 4095) <<< ((12 : Int32) &&& 31))), (59, [some (.ref q), some (.int (nI bg)), some (.int (nI sort)), some (.int ((((1 : Int32) <<< ((([6, 4, 3] : List Int32).getD sort 0) &&& 31)) - 1) <<< ((nI bg) &&& 31))), some (.int ((((((1 : Int32) <<< ((([6, 4, 3] : List Int32).getD sort 0) &&& 31)) - 1) <<< ((nI bg) &&& 31)) ||| (((((1 : Int32) <<< ((([6, 4, 3] : List Int32).getD sort 0) &&& 31)) - 1) <<< ((nI bg) &&& 31)) >>> ((12 : Int32) &&& 31))) &&& 4095))], [.int 2, .ref h, .int ((σ h 0) ||| (σ h 1)), .int (((((((1 : Int32) <<< ((([6, 4, 3] : List Int32).getD sort 0) &&& 31)) - 1) <<< ((nI bg) &&& 31)) ||| (((((1 : Int32) <<< ((([6, 4, 3] : List Int32).getD sort 0) &&& 31)) - 1) <<< ((nI bg) &&& 31)) >>> ((12 : Int32) &&& 31))) &&& 4095) ||| (((((((1 : Int32) <<< ((([6, 4, 3] : List Int32).getD sort 0) &&& 31)) - 1) <<< ((nI bg) &&& 31)) ||| (((((1 : Int32) <<< ((([6, 4, 3] : List Int32).getD sort 0) &&& 31)) - 1) <<< ((nI bg) &&& 31)) >>> ((12 : Int32) &&& 31))) &&& 4095) <<< ((12 : Int32) &&& 31))), .ref q])) rfl ?_
  refine gR.aldq (i := 2) (j := 2) rfl hA.h rfl (by omega) (by omega) ?_
  show gR _ _ _ (gUp σ q 1 (((((((1 : Int32) <<< ((([6, 4, 3] : List Int32).getD sort 0) &&& 31)) - 1) <<< ((nI bg) &&& 31)) ||| (((((1 : Int32) <<< ((([6, 4, 3] : List Int32).getD sort 0) &&& 31)) - 1) <<< ((nI bg) &&& 31)) >>> ((12 : Int32) &&& 31))) &&& 4095) ||| (((((((1 : Int32) <<< ((([6, 4, 3] : List Int32).getD sort 0) &&& 31)) - 1) <<< ((nI bg) &&& 31)) ||| (((((1 : Int32) <<< ((([6, 4, 3] : List Int32).getD sort 0) &&& 31)) - 1) <<< ((nI bg) &&& 31)) >>> ((12 : Int32) &&& 31))) &&& 4095) <<< ((12 : Int32) &&& 31)))) (60, [some (.ref q), some (.int (nI bg)), some (.int (nI sort)), some (.int ((((1 : Int32) <<< ((([6, 4, 3] : List Int32).getD sort 0) &&& 31)) - 1) <<< ((nI bg) &&& 31))), some (.int ((((((1 : Int32) <<< ((([6, 4, 3] : List Int32).getD sort 0) &&& 31)) - 1) <<< ((nI bg) &&& 31)) ||| (((((1 : Int32) <<< ((([6, 4, 3] : List Int32).getD sort 0) &&& 31)) - 1) <<< ((nI bg) &&& 31)) >>> ((12 : Int32) &&& 31))) &&& 4095))], [.int ((gUp σ q 1 (((((((1 : Int32) <<< ((([6, 4, 3] : List Int32).getD sort 0) &&& 31)) - 1) <<< ((nI bg) &&& 31)) ||| (((((1 : Int32) <<< ((([6, 4, 3] : List Int32).getD sort 0) &&& 31)) - 1) <<< ((nI bg) &&& 31)) >>> ((12 : Int32) &&& 31))) &&& 4095) ||| (((((((1 : Int32) <<< ((([6, 4, 3] : List Int32).getD sort 0) &&& 31)) - 1) <<< ((nI bg) &&& 31)) ||| (((((1 : Int32) <<< ((([6, 4, 3] : List Int32).getD sort 0) &&& 31)) - 1) <<< ((nI bg) &&& 31)) >>> ((12 : Int32) &&& 31))) &&& 4095) <<< ((12 : Int32) &&& 31)))) h 2), .int ((σ h 0) ||| (σ h 1)), .int (((((((1 : Int32) <<< ((([6, 4, 3] : List Int32).getD sort 0) &&& 31)) - 1) <<< ((nI bg) &&& 31)) ||| (((((1 : Int32) <<< ((([6, 4, 3] : List Int32).getD sort 0) &&& 31)) - 1) <<< ((nI bg) &&& 31)) >>> ((12 : Int32) &&& 31))) &&& 4095) ||| (((((((1 : Int32) <<< ((([6, 4, 3] : List Int32).getD sort 0) &&& 31)) - 1) <<< ((nI bg) &&& 31)) ||| (((((1 : Int32) <<< ((([6, 4, 3] : List Int32).getD sort 0) &&& 31)) - 1) <<< ((nI bg) &&& 31)) >>> ((12 : Int32) &&& 31))) &&& 4095) <<< ((12 : Int32) &&& 31))), .ref q])
  refine gR.topI (y := σ h 2) (by rw [gUp_o (by omega)]) ?_
  refine gR.steps 4 (gUp σ q 1 (((((((1 : Int32) <<< ((([6, 4, 3] : List Int32).getD sort 0) &&& 31)) - 1) <<< ((nI bg) &&& 31)) ||| (((((1 : Int32) <<< ((([6, 4, 3] : List Int32).getD sort 0) &&& 31)) - 1) <<< ((nI bg) &&& 31)) >>> ((12 : Int32) &&& 31))) &&& 4095) ||| (((((((1 : Int32) <<< ((([6, 4, 3] : List Int32).getD sort 0) &&& 31)) - 1) <<< ((nI bg) &&& 31)) ||| (((((1 : Int32) <<< ((([6, 4, 3] : List Int32).getD sort 0) &&& 31)) - 1) <<< ((nI bg) &&& 31)) >>> ((12 : Int32) &&& 31))) &&& 4095) <<< ((12 : Int32) &&& 31))), (64, [some (.ref q), some (.int (nI bg)), some (.int (nI sort)), some (.int ((((1 : Int32) <<< ((([6, 4, 3] : List Int32).getD sort 0) &&& 31)) - 1) <<< ((nI bg) &&& 31))), some (.int ((((((1 : Int32) <<< ((([6, 4, 3] : List Int32).getD sort 0) &&& 31)) - 1) <<< ((nI bg) &&& 31)) ||| (((((1 : Int32) <<< ((([6, 4, 3] : List Int32).getD sort 0) &&& 31)) - 1) <<< ((nI bg) &&& 31)) >>> ((12 : Int32) &&& 31))) &&& 4095))], [.int ((((((((1 : Int32) <<< ((([6, 4, 3] : List Int32).getD sort 0) &&& 31)) - 1) <<< ((nI bg) &&& 31)) ||| (((((1 : Int32) <<< ((([6, 4, 3] : List Int32).getD sort 0) &&& 31)) - 1) <<< ((nI bg) &&& 31)) >>> ((12 : Int32) &&& 31))) &&& 4095) ||| (((((((1 : Int32) <<< ((([6, 4, 3] : List Int32).getD sort 0) &&& 31)) - 1) <<< ((nI bg) &&& 31)) ||| (((((1 : Int32) <<< ((([6, 4, 3] : List Int32).getD sort 0) &&& 31)) - 1) <<< ((nI bg) &&& 31)) >>> ((12 : Int32) &&& 31))) &&& 4095) <<< ((12 : Int32) &&& 31))) &&& ((((σ h 0) ||| (σ h 1)) ||| (σ h 2)) ^^^ (-1))), .ref q])) rfl ?_
  refine gR.putI rfl hA.q rfl ?_
  show gR _ _ _ (gUp (gUp σ q 1 (((((((1 : Int32) <<< ((([6, 4, 3] : List Int32).getD sort 0) &&& 31)) - 1) <<< ((nI bg) &&& 31)) ||| (((((1 : Int32) <<< ((([6, 4, 3] : List Int32).getD sort 0) &&& 31)) - 1) <<< ((nI bg) &&& 31)) >>> ((12 : Int32) &&& 31))) &&& 4095) ||| (((((((1 : Int32) <<< ((([6, 4, 3] : List Int32).getD sort 0) &&& 31)) - 1) <<< ((nI bg) &&& 31)) ||| (((((1 : Int32) <<< ((([6, 4, 3] : List Int32).getD sort 0) &&& 31)) - 1) <<< ((nI bg) &&& 31)) >>> ((12 : Int32) &&& 31))) &&& 4095) <<< ((12 : Int32) &&& 31)))) q 2 ((((((((1 : Int32) <<< ((([6, 4, 3] : List Int32).getD sort 0) &&& 31)) - 1) <<< ((nI bg) &&& 31)) ||| (((((1 : Int32) <<< ((([6, 4, 3] : List Int32).getD sort 0) &&& 31)) - 1) <<< ((nI bg) &&& 31)) >>> ((12 : Int32) &&& 31))) &&& 4095) ||| (((((((1 : Int32) <<< ((([6, 4, 3] : List Int32).getD sort 0) &&& 31)) - 1) <<< ((nI bg) &&& 31)) ||| (((((1 : Int32) <<< ((([6, 4, 3] : List Int32).getD sort 0) &&& 31)) - 1) <<< ((nI bg) &&& 31)) >>> ((12 : Int32) &&& 31))) &&& 4095) <<< ((12 : Int32) &&& 31))) &&& ((((σ h 0) ||| (σ h 1)) ||| (σ h 2)) ^^^ (-1)))) (67, [some (.ref q), some (.int (nI bg)), some (.int (nI sort)), some (.int ((((1 : Int32) <<< ((([6, 4, 3] : List Int32).getD sort 0) &&& 31)) - 1) <<< ((nI bg) &&& 31))), some (.int ((((((1 : Int32) <<< ((([6, 4, 3] : List Int32).getD sort 0) &&& 31)) - 1) <<< ((nI bg) &&& 31)) ||| (((((1 : Int32) <<< ((([6, 4, 3] : List Int32).getD sort 0) &&& 31)) - 1) <<< ((nI bg) &&& 31)) >>> ((12 : Int32) &&& 31))) &&& 4095))], [])
  refine gR.steps 2 (gUp (gUp σ q 1 (((((((1 : Int32) <<< ((([6, 4, 3] : List Int32).getD sort 0) &&& 31)) - 1) <<< ((nI bg) &&& 31)) ||| (((((1 : Int32) <<< ((([6, 4, 3] : List Int32).getD sort 0) &&& 31)) - 1) <<< ((nI bg) &&& 31)) >>> ((12 : Int32) &&& 31))) &&& 4095) ||| (((((((1 : Int32) <<< ((([6, 4, 3] : List Int32).getD sort 0) &&& 31)) - 1) <<< ((nI bg) &&& 31)) ||| (((((1 : Int32) <<< ((([6, 4, 3] : List Int32).getD sort 0) &&& 31)) - 1) <<< ((nI bg) &&& 31)) >>> ((12 : Int32) &&& 31))) &&& 4095) <<< ((12 : Int32) &&& 31)))) q 2 ((((((((1 : Int32) <<< ((([6, 4, 3] : List Int32).getD sort 0) &&& 31)) - 1) <<< ((nI bg) &&& 31)) ||| (((((1 : Int32) <<< ((([6, 4, 3] : List Int32).getD sort 0) &&& 31)) - 1) <<< ((nI bg) &&& 31)) >>> ((12 : Int32) &&& 31))) &&& 4095) ||| (((((((1 : Int32) <<< ((([6, 4, 3] : List Int32).getD sort 0) &&& 31)) - 1) <<< ((nI bg) &&& 31)) ||| (((((1 : Int32) <<< ((([6, 4, 3] : List Int32).getD sort 0) &&& 31)) - 1) <<< ((nI bg) &&& 31)) >>> ((12 : Int32) &&& 31))) &&& 4095) <<< ((12 : Int32) &&& 31))) &&& ((((σ h 0) ||| (σ h 1)) ||| (σ h 2)) ^^^ (-1))), (69, [some (.ref q), some (.int (nI bg)), some (.int (nI sort)), some (.int ((((1 : Int32) <<< ((([6, 4, 3] : List Int32).getD sort 0) &&& 31)) - 1) <<< ((nI bg) &&& 31))), some (.int ((((((1 : Int32) <<< ((([6, 4, 3] : List Int32).getD sort 0) &&& 31)) - 1) <<< ((nI bg) &&& 31)) ||| (((((1 : Int32) <<< ((([6, 4, 3] : List Int32).getD sort 0) &&& 31)) - 1) <<< ((nI bg) &&& 31)) >>> ((12 : Int32) &&& 31))) &&& 4095))], [.ref q, .ref q])) rfl ?_
  refine gR.getI rfl hA.q rfl ?_
  show gR _ _ _ (gUp (gUp σ q 1 (((((((1 : Int32) <<< ((([6, 4, 3] : List Int32).getD sort 0) &&& 31)) - 1) <<< ((nI bg) &&& 31)) ||| (((((1 : Int32) <<< ((([6, 4, 3] : List Int32).getD sort 0) &&& 31)) - 1) <<< ((nI bg) &&& 31)) >>> ((12 : Int32) &&& 31))) &&& 4095) ||| (((((((1 : Int32) <<< ((([6, 4, 3] : List Int32).getD sort 0) &&& 31)) - 1) <<< ((nI bg) &&& 31)) ||| (((((1 : Int32) <<< ((([6, 4, 3] : List Int32).getD sort 0) &&& 31)) - 1) <<< ((nI bg) &&& 31)) >>> ((12 : Int32) &&& 31))) &&& 4095) <<< ((12 : Int32) &&& 31)))) q 2 ((((((((1 : Int32) <<< ((([6, 4, 3] : List Int32).getD sort 0) &&& 31)) - 1) <<< ((nI bg) &&& 31)) ||| (((((1 : Int32) <<< ((([6, 4, 3] : List Int32).getD sort 0) &&& 31)) - 1) <<< ((nI bg) &&& 31)) >>> ((12 : Int32) &&& 31))) &&& 4095) ||| (((((((1 : Int32) <<< ((([6, 4, 3] : List Int32).getD sort 0) &&& 31)) - 1) <<< ((nI bg) &&& 31)) ||| (((((1 : Int32) <<< ((([6, 4, 3] : List Int32).getD sort 0) &&& 31)) - 1) <<< ((nI bg) &&& 31)) >>> ((12 : Int32) &&& 31))) &&& 4095) <<< ((12 : Int32) &&& 31))) &&& ((((σ h 0) ||| (σ h 1)) ||| (σ h 2)) ^^^ (-1)))) (72, [some (.ref q), some (.int (nI bg)), some (.int (nI sort)), some (.int ((((1 : Int32) <<< ((([6, 4, 3] : List Int32).getD sort 0) &&& 31)) - 1) <<< ((nI bg) &&& 31))), some (.int ((((((1 : Int32) <<< ((([6, 4, 3] : List Int32).getD sort 0) &&& 31)) - 1) <<< ((nI bg) &&& 31)) ||| (((((1 : Int32) <<< ((([6, 4, 3] : List Int32).getD sort 0) &&& 31)) - 1) <<< ((nI bg) &&& 31)) >>> ((12 : Int32) &&& 31))) &&& 4095))], [.int ((gUp (gUp σ q 1 (((((((1 : Int32) <<< ((([6, 4, 3] : List Int32).getD sort 0) &&& 31)) - 1) <<< ((nI bg) &&& 31)) ||| (((((1 : Int32) <<< ((([6, 4, 3] : List Int32).getD sort 0) &&& 31)) - 1) <<< ((nI bg) &&& 31)) >>> ((12 : Int32) &&& 31))) &&& 4095) ||| (((((((1 : Int32) <<< ((([6, 4, 3] : List Int32).getD sort 0) &&& 31)) - 1) <<< ((nI bg) &&& 31)) ||| (((((1 : Int32) <<< ((([6, 4, 3] : List Int32).getD sort 0) &&& 31)) - 1) <<< ((nI bg) &&& 31)) >>> ((12 : Int32) &&& 31))) &&& 4095) <<< ((12 : Int32) &&& 31)))) q 2 ((((((((1 : Int32) <<< ((([6, 4, 3] : List Int32).getD sort 0) &&& 31)) - 1) <<< ((nI bg) &&& 31)) ||| (((((1 : Int32) <<< ((([6, 4, 3] : List Int32).getD sort 0) &&& 31)) - 1) <<< ((nI bg) &&& 31)) >>> ((12 : Int32) &&& 31))) &&& 4095) ||| (((((((1 : Int32) <<< ((([6, 4, 3] : List Int32).getD sort 0) &&& 31)) - 1) <<< ((nI bg) &&& 31)) ||| (((((1 : Int32) <<< ((([6, 4, 3] : List Int32).getD sort 0) &&& 31)) - 1) <<< ((nI bg) &&& 31)) >>> ((12 : Int32) &&& 31))) &&& 4095) <<< ((12 : Int32) &&& 31))) &&& ((((σ h 0) ||| (σ h 1)) ||| (σ h 2)) ^^^ (-1)))) q 2), .ref q])
  refine gR.topI (y := (((((((1 : Int32) <<< ((([6, 4, 3] : List Int32).getD sort 0) &&& 31)) - 1) <<< ((nI bg) &&& 31)) ||| (((((1 : Int32) <<< ((([6, 4, 3] : List Int32).getD sort 0) &&& 31)) - 1) <<< ((nI bg) &&& 31)) >>> ((12 : Int32) &&& 31))) &&& 4095) ||| (((((((1 : Int32) <<< ((([6, 4, 3] : List Int32).getD sort 0) &&& 31)) - 1) <<< ((nI bg) &&& 31)) ||| (((((1 : Int32) <<< ((([6, 4, 3] : List Int32).getD sort 0) &&& 31)) - 1) <<< ((nI bg) &&& 31)) >>> ((12 : Int32) &&& 31))) &&& 4095) <<< ((12 : Int32) &&& 31))) &&& ((((σ h 0) ||| (σ h 1)) ||| (σ h 2)) ^^^ (-1))) (by rw [gUp_s]) ?_
  refine gR.steps 1 (gUp (gUp σ q 1 (((((((1 : Int32) <<< ((([6, 4, 3] : List Int32).getD sort 0) &&& 31)) - 1) <<< ((nI bg) &&& 31)) ||| (((((1 : Int32) <<< ((([6, 4, 3] : List Int32).getD sort 0) &&& 31)) - 1) <<< ((nI bg) &&& 31)) >>> ((12 : Int32) &&& 31))) &&& 4095) ||| (((((((1 : Int32) <<< ((([6, 4, 3] : List Int32).getD sort 0) &&& 31)) - 1) <<< ((nI bg) &&& 31)) ||| (((((1 : Int32) <<< ((([6, 4, 3] : List Int32).getD sort 0) &&& 31)) - 1) <<< ((nI bg) &&& 31)) >>> ((12 : Int32) &&& 31))) &&& 4095) <<< ((12 : Int32) &&& 31)))) q 2 ((((((((1 : Int32) <<< ((([6, 4, 3] : List Int32).getD sort 0) &&& 31)) - 1) <<< ((nI bg) &&& 31)) ||| (((((1 : Int32) <<< ((([6, 4, 3] : List Int32).getD sort 0) &&& 31)) - 1) <<< ((nI bg) &&& 31)) >>> ((12 : Int32) &&& 31))) &&& 4095) ||| (((((((1 : Int32) <<< ((([6, 4, 3] : List Int32).getD sort 0) &&& 31)) - 1) <<< ((nI bg) &&& 31)) ||| (((((1 : Int32) <<< ((([6, 4, 3] : List Int32).getD sort 0) &&& 31)) - 1) <<< ((nI bg) &&& 31)) >>> ((12 : Int32) &&& 31))) &&& 4095) <<< ((12 : Int32) &&& 31))) &&& ((((σ h 0) ||| (σ h 1)) ||| (σ h 2)) ^^^ (-1))), (73, [some (.ref q), some (.int (nI bg)), some (.int (nI sort)), some (.int ((((1 : Int32) <<< ((([6, 4, 3] : List Int32).getD sort 0) &&& 31)) - 1) <<< ((nI bg) &&& 31))), some (.int ((((((1 : Int32) <<< ((([6, 4, 3] : List Int32).getD sort 0) &&& 31)) - 1) <<< ((nI bg) &&& 31)) ||| (((((1 : Int32) <<< ((([6, 4, 3] : List Int32).getD sort 0) &&& 31)) - 1) <<< ((nI bg) &&& 31)) >>> ((12 : Int32) &&& 31))) &&& 4095))], [.ref q, .int ((((((((1 : Int32) <<< ((([6, 4, 3] : List Int32).getD sort 0) &&& 31)) - 1) <<< ((nI bg) &&& 31)) ||| (((((1 : Int32) <<< ((([6, 4, 3] : List Int32).getD sort 0) &&& 31)) - 1) <<< ((nI bg) &&& 31)) >>> ((12 : Int32) &&& 31))) &&& 4095) ||| (((((((1 : Int32) <<< ((([6, 4, 3] : List Int32).getD sort 0) &&& 31)) - 1) <<< ((nI bg) &&& 31)) ||| (((((1 : Int32) <<< ((([6, 4, 3] : List Int32).getD sort 0) &&& 31)) - 1) <<< ((nI bg) &&& 31)) >>> ((12 : Int32) &&& 31))) &&& 4095) <<< ((12 : Int32) &&& 31))) &&& ((((σ h 0) ||| (σ h 1)) ||| (σ h 2)) ^^^ (-1))), .ref q])) rfl ?_
  refine gR.getR rfl hA.q rfl ?_
  show gR _ _ _ (gUp (gUp σ q 1 (((((((1 : Int32) <<< ((([6, 4, 3] : List Int32).getD sort 0) &&& 31)) - 1) <<< ((nI bg) &&& 31)) ||| (((((1 : Int32) <<< ((([6, 4, 3] : List Int32).getD sort 0) &&& 31)) - 1) <<< ((nI bg) &&& 31)) >>> ((12 : Int32) &&& 31))) &&& 4095) ||| (((((((1 : Int32) <<< ((([6, 4, 3] : List Int32).getD sort 0) &&& 31)) - 1) <<< ((nI bg) &&& 31)) ||| (((((1 : Int32) <<< ((([6, 4, 3] : List Int32).getD sort 0) &&& 31)) - 1) <<< ((nI bg) &&& 31)) >>> ((12 : Int32) &&& 31))) &&& 4095) <<< ((12 : Int32) &&& 31)))) q 2 ((((((((1 : Int32) <<< ((([6, 4, 3] : List Int32).getD sort 0) &&& 31)) - 1) <<< ((nI bg) &&& 31)) ||| (((((1 : Int32) <<< ((([6, 4, 3] : List Int32).getD sort 0) &&& 31)) - 1) <<< ((nI bg) &&& 31)) >>> ((12 : Int32) &&& 31))) &&& 4095) ||| (((((((1 : Int32) <<< ((([6, 4, 3] : List Int32).getD sort 0) &&& 31)) - 1) <<< ((nI bg) &&& 31)) ||| (((((1 : Int32) <<< ((([6, 4, 3] : List Int32).getD sort 0) &&& 31)) - 1) <<< ((nI bg) &&& 31)) >>> ((12 : Int32) &&& 31))) &&& 4095) <<< ((12 : Int32) &&& 31))) &&& ((((σ h 0) ||| (σ h 1)) ||| (σ h 2)) ^^^ (-1)))) (76, [some (.ref q), some (.int (nI bg)), some (.int (nI sort)), some (.int ((((1 : Int32) <<< ((([6, 4, 3] : List Int32).getD sort 0) &&& 31)) - 1) <<< ((nI bg) &&& 31))), some (.int ((((((1 : Int32) <<< ((([6, 4, 3] : List Int32).getD sort 0) &&& 31)) - 1) <<< ((nI bg) &&& 31)) ||| (((((1 : Int32) <<< ((([6, 4, 3] : List Int32).getD sort 0) &&& 31)) - 1) <<< ((nI bg) &&& 31)) >>> ((12 : Int32) &&& 31))) &&& 4095))], [.ref h, .int ((((((((1 : Int32) <<< ((([6, 4, 3] : List Int32).getD sort 0) &&& 31)) - 1) <<< ((nI bg) &&& 31)) ||| (((((1 : Int32) <<< ((([6, 4, 3] : List Int32).getD sort 0) &&& 31)) - 1) <<< ((nI bg) &&& 31)) >>> ((12 : Int32) &&& 31))) &&& 4095) ||| (((((((1 : Int32) <<< ((([6, 4, 3] : List Int32).getD sort 0) &&& 31)) - 1) <<< ((nI bg) &&& 31)) ||| (((((1 : Int32) <<< ((([6, 4, 3] : List Int32).getD sort 0) &&& 31)) - 1) <<< ((nI bg) &&& 31)) >>> ((12 : Int32) &&& 31))) &&& 4095) <<< ((12 : Int32) &&& 31))) &&& ((((σ h 0) ||| (σ h 1)) ||| (σ h 2)) ^^^ (-1))), .ref q])
  refine gR.steps 1 (gUp (gUp σ q 1 (((((((1 : Int32) <<< ((([6, 4, 3] : List Int32).getD sort 0) &&& 31)) - 1) <<< ((nI bg) &&& 31)) ||| (((((1 : Int32) <<< ((([6, 4, 3] : List Int32).getD sort 0) &&& 31)) - 1) <<< ((nI bg) &&& 31)) >>> ((12 : Int32) &&& 31))) &&& 4095) ||| (((((((1 : Int32) <<< ((([6, 4, 3] : List Int32).getD sort 0) &&& 31)) - 1) <<< ((nI bg) &&& 31)) ||| (((((1 : Int32) <<< ((([6, 4, 3] : List Int32).getD sort 0) &&& 31)) - 1) <<< ((nI bg) &&& 31)) >>> ((12 : Int32) &&& 31))) &&& 4095) <<< ((12 : Int32) &&& 31)))) q 2 ((((((((1 : Int32) <<< ((([6, 4, 3] : List Int32).getD sort 0) &&& 31)) - 1) <<< ((nI bg) &&& 31)) ||| (((((1 : Int32) <<< ((([6, 4, 3] : List Int32).getD sort 0) &&& 31)) - 1) <<< ((nI bg) &&& 31)) >>> ((12 : Int32) &&& 31))) &&& 4095) ||| (((((((1 : Int32) <<< ((([6, 4, 3] : List Int32).getD sort 0) &&& 31)) - 1) <<< ((nI bg) &&& 31)) ||| (((((1 : Int32) <<< ((([6, 4, 3] : List Int32).getD sort 0) &&& 31)) - 1) <<< ((nI bg) &&& 31)) >>> ((12 : Int32) &&& 31))) &&& 4095) <<< ((12 : Int32) &&& 31))) &&& ((((σ h 0) ||| (σ h 1)) ||| (σ h 2)) ^^^ (-1))), (77, [some (.ref q), some (.int (nI bg)), some (.int (nI sort)), some (.int ((((1 : Int32) <<< ((([6, 4, 3] : List Int32).getD sort 0) &&& 31)) - 1) <<< ((nI bg) &&& 31))), some (.int ((((((1 : Int32) <<< ((([6, 4, 3] : List Int32).getD sort 0) &&& 31)) - 1) <<< ((nI bg) &&& 31)) ||| (((((1 : Int32) <<< ((([6, 4, 3] : List Int32).getD sort 0) &&& 31)) - 1) <<< ((nI bg) &&& 31)) >>> ((12 : Int32) &&& 31))) &&& 4095))], [.int 3, .ref h, .int ((((((((1 : Int32) <<< ((([6, 4, 3] : List Int32).getD sort 0) &&& 31)) - 1) <<< ((nI bg) &&& 31)) ||| (((((1 : Int32) <<< ((([6, 4, 3] : List Int32).getD sort 0) &&& 31)) - 1) <<< ((nI bg) &&& 31)) >>> ((12 : Int32) &&& 31))) &&& 4095) ||| (((((((1 : Int32) <<< ((([6, 4, 3] : List Int32).getD sort 0) &&& 31)) - 1) <<< ((nI bg) &&& 31)) ||| (((((1 : Int32) <<< ((([6, 4, 3] : List Int32).getD sort 0) &&& 31)) - 1) <<< ((nI bg) &&& 31)) >>> ((12 : Int32) &&& 31))) &&& 4095) <<< ((12 : Int32) &&& 31))) &&& ((((σ h 0) ||| (σ h 1)) ||| (σ h 2)) ^^^ (-1))), .ref q])) rfl ?_
  refine gR.aldq (i := 3) (j := 3) rfl hA.h rfl (by omega) (by omega) ?_
  show gR _ _ _ (gUp (gUp σ q 1 (((((((1 : Int32) <<< ((([6, 4, 3] : List Int32).getD sort 0) &&& 31)) - 1) <<< ((nI bg) &&& 31)) ||| (((((1 : Int32) <<< ((([6, 4, 3] : List Int32).getD sort 0) &&& 31)) - 1) <<< ((nI bg) &&& 31)) >>> ((12 : Int32) &&& 31))) &&& 4095) ||| (((((((1 : Int32) <<< ((([6, 4, 3] : List Int32).getD sort 0) &&& 31)) - 1) <<< ((nI bg) &&& 31)) ||| (((((1 : Int32) <<< ((([6, 4, 3] : List Int32).getD sort 0) &&& 31)) - 1) <<< ((nI bg) &&& 31)) >>> ((12 : Int32) &&& 31))) &&& 4095) <<< ((12 : Int32) &&& 31)))) q 2 ((((((((1 : Int32) <<< ((([6, 4, 3] : List Int32).getD sort 0) &&& 31)) - 1) <<< ((nI bg) &&& 31)) ||| (((((1 : Int32) <<< ((([6, 4, 3] : List Int32).getD sort 0) &&& 31)) - 1) <<< ((nI bg) &&& 31)) >>> ((12 : Int32) &&& 31))) &&& 4095) ||| (((((((1 : Int32) <<< ((([6, 4, 3] : List Int32).getD sort 0) &&& 31)) - 1) <<< ((nI bg) &&& 31)) ||| (((((1 : Int32) <<< ((([6, 4, 3] : List Int32).getD sort 0) &&& 31)) - 1) <<< ((nI bg) &&& 31)) >>> ((12 : Int32) &&& 31))) &&& 4095) <<< ((12 : Int32) &&& 31))) &&& ((((σ h 0) ||| (σ h 1)) ||| (σ h 2)) ^^^ (-1)))) (78, [some (.ref q), some (.int (nI bg)), some (.int (nI sort)), some (.int ((((1 : Int32) <<< ((([6, 4, 3] : List Int32).getD sort 0) &&& 31)) - 1) <<< ((nI bg) &&& 31))), some (.int ((((((1 : Int32) <<< ((([6, 4, 3] : List Int32).getD sort 0) &&& 31)) - 1) <<< ((nI bg) &&& 31)) ||| (((((1 : Int32) <<< ((([6, 4, 3] : List Int32).getD sort 0) &&& 31)) - 1) <<< ((nI bg) &&& 31)) >>> ((12 : Int32) &&& 31))) &&& 4095))], [.int ((gUp (gUp σ q 1 (((((((1 : Int32) <<< ((([6, 4, 3] : List Int32).getD sort 0) &&& 31)) - 1) <<< ((nI bg) &&& 31)) ||| (((((1 : Int32) <<< ((([6, 4, 3] : List Int32).getD sort 0) &&& 31)) - 1) <<< ((nI bg) &&& 31)) >>> ((12 : Int32) &&& 31))) &&& 4095) ||| (((((((1 : Int32) <<< ((([6, 4, 3] : List Int32).getD sort 0) &&& 31)) - 1) <<< ((nI bg) &&& 31)) ||| (((((1 : Int32) <<< ((([6, 4, 3] : List Int32).getD sort 0) &&& 31)) - 1) <<< ((nI bg) &&& 31)) >>> ((12 : Int32) &&& 31))) &&& 4095) <<< ((12 : Int32) &&& 31)))) q 2 ((((((((1 : Int32) <<< ((([6, 4, 3] : List Int32).getD sort 0) &&& 31)) - 1) <<< ((nI bg) &&& 31)) ||| (((((1 : Int32) <<< ((([6, 4, 3] : List Int32).getD sort 0) &&& 31)) - 1) <<< ((nI bg) &&& 31)) >>> ((12 : Int32) &&& 31))) &&& 4095) ||| (((((((1 : Int32) <<< ((([6, 4, 3] : List Int32).getD sort 0) &&& 31)) - 1) <<< ((nI bg) &&& 31)) ||| (((((1 : Int32) <<< ((([6, 4, 3] : List Int32).getD sort 0) &&& 31)) - 1) <<< ((nI bg) &&& 31)) >>> ((12 : Int32) &&& 31))) &&& 4095) <<< ((12 : Int32) &&& 31))) &&& ((((σ h 0) ||| (σ h 1)) ||| (σ h 2)) ^^^ (-1)))) h 3), .int ((((((((1 : Int32) <<< ((([6, 4, 3] : List Int32).getD sort 0) &&& 31)) - 1) <<< ((nI bg) &&& 31)) ||| (((((1 : Int32) <<< ((([6, 4, 3] : List Int32).getD sort 0) &&& 31)) - 1) <<< ((nI bg) &&& 31)) >>> ((12 : Int32) &&& 31))) &&& 4095) ||| (((((((1 : Int32) <<< ((([6, 4, 3] : List Int32).getD sort 0) &&& 31)) - 1) <<< ((nI bg) &&& 31)) ||| (((((1 : Int32) <<< ((([6, 4, 3] : List Int32).getD sort 0) &&& 31)) - 1) <<< ((nI bg) &&& 31)) >>> ((12 : Int32) &&& 31))) &&& 4095) <<< ((12 : Int32) &&& 31))) &&& ((((σ h 0) ||| (σ h 1)) ||| (σ h 2)) ^^^ (-1))), .ref q])
  refine gR.topI (y := σ h 3) (by rw [gUp_o (by omega), gUp_o (by omega)]) ?_
  refine gR.steps 1 (gUp (gUp σ q 1 (((((((1 : Int32) <<< ((([6, 4, 3] : List Int32).getD sort 0) &&& 31)) - 1) <<< ((nI bg) &&& 31)) ||| (((((1 : Int32) <<< ((([6, 4, 3] : List Int32).getD sort 0) &&& 31)) - 1) <<< ((nI bg) &&& 31)) >>> ((12 : Int32) &&& 31))) &&& 4095) ||| (((((((1 : Int32) <<< ((([6, 4, 3] : List Int32).getD sort 0) &&& 31)) - 1) <<< ((nI bg) &&& 31)) ||| (((((1 : Int32) <<< ((([6, 4, 3] : List Int32).getD sort 0) &&& 31)) - 1) <<< ((nI bg) &&& 31)) >>> ((12 : Int32) &&& 31))) &&& 4095) <<< ((12 : Int32) &&& 31)))) q 2 ((((((((1 : Int32) <<< ((([6, 4, 3] : List Int32).getD sort 0) &&& 31)) - 1) <<< ((nI bg) &&& 31)) ||| (((((1 : Int32) <<< ((([6, 4, 3] : List Int32).getD sort 0) &&& 31)) - 1) <<< ((nI bg) &&& 31)) >>> ((12 : Int32) &&& 31))) &&& 4095) ||| (((((((1 : Int32) <<< ((([6, 4, 3] : List Int32).getD sort 0) &&& 31)) - 1) <<< ((nI bg) &&& 31)) ||| (((((1 : Int32) <<< ((([6, 4, 3] : List Int32).getD sort 0) &&& 31)) - 1) <<< ((nI bg) &&& 31)) >>> ((12 : Int32) &&& 31))) &&& 4095) <<< ((12 : Int32) &&& 31))) &&& ((((σ h 0) ||| (σ h 1)) ||| (σ h 2)) ^^^ (-1))), (79, [some (.ref q), some (.int (nI bg)), some (.int (nI sort)), some (.int ((((1 : Int32) <<< ((([6, 4, 3] : List Int32).getD sort 0) &&& 31)) - 1) <<< ((nI bg) &&& 31))), some (.int ((((((1 : Int32) <<< ((([6, 4, 3] : List Int32).getD sort 0) &&& 31)) - 1) <<< ((nI bg) &&& 31)) ||| (((((1 : Int32) <<< ((([6, 4, 3] : List Int32).getD sort 0) &&& 31)) - 1) <<< ((nI bg) &&& 31)) >>> ((12 : Int32) &&& 31))) &&& 4095))], [.int (((((((((1 : Int32) <<< ((([6, 4, 3] : List Int32).getD sort 0) &&& 31)) - 1) <<< ((nI bg) &&& 31)) ||| (((((1 : Int32) <<< ((([6, 4, 3] : List Int32).getD sort 0) &&& 31)) - 1) <<< ((nI bg) &&& 31)) >>> ((12 : Int32) &&& 31))) &&& 4095) ||| (((((((1 : Int32) <<< ((([6, 4, 3] : List Int32).getD sort 0) &&& 31)) - 1) <<< ((nI bg) &&& 31)) ||| (((((1 : Int32) <<< ((([6, 4, 3] : List Int32).getD sort 0) &&& 31)) - 1) <<< ((nI bg) &&& 31)) >>> ((12 : Int32) &&& 31))) &&& 4095) <<< ((12 : Int32) &&& 31))) &&& ((((σ h 0) ||| (σ h 1)) ||| (σ h 2)) ^^^ (-1))) ||| (σ h 3)), .ref q])) rfl ?_
  refine gR.putI rfl hA.q rfl ?_
  show gR _ _ _ (gUp (gUp (gUp σ q 1 (((((((1 : Int32) <<< ((([6, 4, 3] : List Int32).getD sort 0) &&& 31)) - 1) <<< ((nI bg) &&& 31)) ||| (((((1 : Int32) <<< ((([6, 4, 3] : List Int32).getD sort 0) &&& 31)) - 1) <<< ((nI bg) &&& 31)) >>> ((12 : Int32) &&& 31))) &&& 4095) ||| (((((((1 : Int32) <<< ((([6, 4, 3] : List Int32).getD sort 0) &&& 31)) - 1) <<< ((nI bg) &&& 31)) ||| (((((1 : Int32) <<< ((([6, 4, 3] : List Int32).getD sort 0) &&& 31)) - 1) <<< ((nI bg) &&& 31)) >>> ((12 : Int32) &&& 31))) &&& 4095) <<< ((12 : Int32) &&& 31)))) q 2 ((((((((1 : Int32) <<< ((([6, 4, 3] : List Int32).getD sort 0) &&& 31)) - 1) <<< ((nI bg) &&& 31)) ||| (((((1 : Int32) <<< ((([6, 4, 3] : List Int32).getD sort 0) &&& 31)) - 1) <<< ((nI bg) &&& 31)) >>> ((12 : Int32) &&& 31))) &&& 4095) ||| (((((((1 : Int32) <<< ((([6, 4, 3] : List Int32).getD sort 0) &&& 31)) - 1) <<< ((nI bg) &&& 31)) ||| (((((1 : Int32) <<< ((([6, 4, 3] : List Int32).getD sort 0) &&& 31)) - 1) <<< ((nI bg) &&& 31)) >>> ((12 : Int32) &&& 31))) &&& 4095) <<< ((12 : Int32) &&& 31))) &&& ((((σ h 0) ||| (σ h 1)) ||| (σ h 2)) ^^^ (-1)))) q 3 (((((((((1 : Int32) <<< ((([6, 4, 3] : List Int32).getD sort 0) &&& 31)) - 1) <<< ((nI bg) &&& 31)) ||| (((((1 : Int32) <<< ((([6, 4, 3] : List Int32).getD sort 0) &&& 31)) - 1) <<< ((nI bg) &&& 31)) >>> ((12 : Int32) &&& 31))) &&& 4095) ||| (((((((1 : Int32) <<< ((([6, 4, 3] : List Int32).getD sort 0) &&& 31)) - 1) <<< ((nI bg) &&& 31)) ||| (((((1 : Int32) <<< ((([6, 4, 3] : List Int32).getD sort 0) &&& 31)) - 1) <<< ((nI bg) &&& 31)) >>> ((12 : Int32) &&& 31))) &&& 4095) <<< ((12 : Int32) &&& 31))) &&& ((((σ h 0) ||| (σ h 1)) ||| (σ h 2)) ^^^ (-1))) ||| (σ h 3))) (82, [some (.ref q), some (.int (nI bg)), some (.int (nI sort)), some (.int ((((1 : Int32) <<< ((([6, 4, 3] : List Int32).getD sort 0) &&& 31)) - 1) <<< ((nI bg) &&& 31))), some (.int ((((((1 : Int32) <<< ((([6, 4, 3] : List Int32).getD sort 0) &&& 31)) - 1) <<< ((nI bg) &&& 31)) ||| (((((1 : Int32) <<< ((([6, 4, 3] : List Int32).getD sort 0) &&& 31)) - 1) <<< ((nI bg) &&& 31)) >>> ((12 : Int32) &&& 31))) &&& 4095))], [])
  show gR _ _ _ (gUp (gUp (gUp σ q 1 (((((((1 : Int32) <<< ((([6, 4, 3] : List Int32).getD sort 0) &&& 31)) - 1) <<< ((nI bg) &&& 31)) ||| (((((1 : Int32) <<< ((([6, 4, 3] : List Int32).getD sort 0) &&& 31)) - 1) <<< ((nI bg) &&& 31)) >>> ((12 : Int32) &&& 31))) &&& 4095) ||| (((((((1 : Int32) <<< ((([6, 4, 3] : List Int32).getD sort 0) &&& 31)) - 1) <<< ((nI bg) &&& 31)) ||| (((((1 : Int32) <<< ((([6, 4, 3] : List Int32).getD sort 0) &&& 31)) - 1) <<< ((nI bg) &&& 31)) >>> ((12 : Int32) &&& 31))) &&& 4095) <<< ((12 : Int32) &&& 31)))) q 2 ((((((((1 : Int32) <<< ((([6, 4, 3] : List Int32).getD sort 0) &&& 31)) - 1) <<< ((nI bg) &&& 31)) ||| (((((1 : Int32) <<< ((([6, 4, 3] : List Int32).getD sort 0) &&& 31)) - 1) <<< ((nI bg) &&& 31)) >>> ((12 : Int32) &&& 31))) &&& 4095) ||| (((((((1 : Int32) <<< ((([6, 4, 3] : List Int32).getD sort 0) &&& 31)) - 1) <<< ((nI bg) &&& 31)) ||| (((((1 : Int32) <<< ((([6, 4, 3] : List Int32).getD sort 0) &&& 31)) - 1) <<< ((nI bg) &&& 31)) >>> ((12 : Int32) &&& 31))) &&& 4095) <<< ((12 : Int32) &&& 31))) &&& ((((σ h 0) ||| (σ h 1)) ||| (σ h 2)) ^^^ (-1)))) q 3 (((((((((1 : Int32) <<< ((([6, 4, 3] : List Int32).getD sort 0) &&& 31)) - 1) <<< ((nI bg) &&& 31)) ||| (((((1 : Int32) <<< ((([6, 4, 3] : List Int32).getD sort 0) &&& 31)) - 1) <<< ((nI bg) &&& 31)) >>> ((12 : Int32) &&& 31))) &&& 4095) ||| (((((((1 : Int32) <<< ((([6, 4, 3] : List Int32).getD sort 0) &&& 31)) - 1) <<< ((nI bg) &&& 31)) ||| (((((1 : Int32) <<< ((([6, 4, 3] : List Int32).getD sort 0) &&& 31)) - 1) <<< ((nI bg) &&& 31)) >>> ((12 : Int32) &&& 31))) &&& 4095) <<< ((12 : Int32) &&& 31))) &&& ((((σ h 0) ||| (σ h 1)) ||| (σ h 2)) ^^^ (-1))) ||| (σ h 3))) (82, [some (.ref q), some (.int (nI bg)), some (.int (nI sort)), some (.int ((((1 : Int32) <<< ((([6, 4, 3] : List Int32).getD sort 0) &&& 31)) - 1) <<< ((nI bg) &&& 31))), some (.int ((((((1 : Int32) <<< ((([6, 4, 3] : List Int32).getD sort 0) &&& 31)) - 1) <<< ((nI bg) &&& 31)) ||| (((((1 : Int32) <<< ((([6, 4, 3] : List Int32).getD sort 0) &&& 31)) - 1) <<< ((nI bg) &&& 31)) >>> ((12 : Int32) &&& 31))) &&& 4095))], [])
  refine gR.ret rfl ?_
  refine ⟨trivial, rfl, fun p hp => by rw [gUp_ne hp, gUp_ne hp, gUp_ne hp], ?_⟩
  rw [season_mask sort hs bg hb]
  have e2 : xMask (xSeason sort bg) 24 &&& ((σ h 0 ||| σ h 1 ||| σ h 2) ^^^ -1) = xMask (fun m => decide (cStt f (xSeason sort bg) m = 1)) 24 := by
    rw [hh 0 (by omega), hh 1 (by omega), hh 2 (by omega), xMask_or (by omega), xMask_or (by omega), xMask_sub (by omega)]
    exact xMask_congr (fun m _ => bloom_b _ _ _ _)
  rw [e2]
  refine ⟨fun k hk => by rw [gUp_o (by omega), gUp_o (by omega), gUp_o (by omega)]; exact hh k hk, by rw [gUp_o (by omega), gUp_o (by omega), gUp_s], by rw [gUp_o (by omega), gUp_s], ?_⟩
  rw [gUp_s, hh 3 (by omega), xMask_or (by omega)]
  exact xMask_congr (fun m _ => seem_b _ _)
theorem xOn_skip {i : Nat} {K M B : Nat → Nat} {gn : Nat → Bool} {kd : Nat} {who : Option Nat} {sort : Nat} (h : gn i = true) (m : Nat) : xOn i K M B gn kd who sort m = xOn (i + 1) K M B gn kd who sort m := by
  unfold xOn
  simp only [xAny, h, Bool.not_true, Bool.false_and, Bool.or_false]
theorem xOn_hit {i : Nat} {K M B : Nat → Nat} {gn : Nat → Bool} {who : Option Nat} {sort : Nat} (h : ¬ gn i = true) (m : Nat) : (xOn i K M B gn (K i) who sort m || cHit K M B who sort i m) = xOn (i + 1) K M B gn (K i) who sort m := by
  have h2 : gn i = false := by simpa using h
  unfold xOn
  simp only [xAny, h2, Bool.not_false, Bool.true_and]
  congr 1
  unfold cHit xHit
  rw [decide_eq_true (rfl : K i = K i), Bool.true_and]
theorem xOn_not {i : Nat} {K M B : Nat → Nat} {gn : Nat → Bool} {kd : Nat} {who : Option Nat} {sort : Nat} (h : ¬ kd = K i) (m : Nat) : xOn i K M B gn kd who sort m = xOn (i + 1) K M B gn kd who sort m := by
  unfold xOn
  simp only [xAny]
  have : xHit K M B kd who sort m i = false := by
    unfold xHit
    rw [decide_eq_false (fun z => h z.symm)]; rfl
  rw [this, Bool.and_false, Bool.or_false]
theorem s_X1_follow27 {d : Nat} (hd : 3 ≤ d) (σ : gS) (q h : Nat) (n : Nat) (K M B : Nat → Nat) (gn : Nat → Bool) (W : Int32) (who : Option Nat) (sort bg : Nat) (hA : cAd q h) (hE : cEv σ 27 n K M B) (hW : bGone W gn) (hw : ∀ v, who = some v → v < 10) (hs : sort < 3) (hb : bg < 12) : gC d 5 [.ref q, .ref 27, .int W, .int (xWb who), .int (nI sort), .int (nI bg)] σ (fun r τ => r = none ∧ (∀ p, p ≠ q → p ≠ h → τ p = σ p) ∧ cCo τ q h (fun k m => xOn n K M B gn k who sort m) (xSeason sort bg)) := by
  obtain ⟨d, rfl⟩ : ∃ k, d = k + 1 := ⟨d - 1, by omega⟩
  refine gC.of (P := pX1_follow) (nL := 7) (rt := none) (lv := [some (.ref q), some (.ref 27), some (.int W), some (.int (xWb who)), some (.int (nI sort)), some (.int (nI bg)), none]) (by decide +kernel) rfl rfl rfl (by simp [gEnt, Value.category]) rfl ?_
  have hA2 : q = 35 ∧ h = 36 ∨ 50 ≤ q ∧ q < 60 ∧ h = q + 10 := hA
  have hn8 := hE.2.1
  refine gR.steps 1 (σ, (1, [some (.ref q), some (.ref 27), some (.int W), some (.int (xWb who)), some (.int (nI sort)), some (.int (nI bg)), none], [.ref q])) rfl ?_
  refine gR.getR rfl hA.q rfl ?_
  show gR _ _ _ σ (4, [some (.ref q), some (.ref 27), some (.int W), some (.int (xWb who)), some (.int (nI sort)), some (.int (nI bg)), none], [.ref h])
  refine gR.steps 1 (σ, (5, [some (.ref q), some (.ref 27), some (.int W), some (.int (xWb who)), some (.int (nI sort)), some (.int (nI bg)), none], [.int 0, .ref h])) rfl ?_
  refine gR.call' rfl (s_J7_fill_53178 (by omega) σ h 4 0 hA.h (by omega)) ?_
  rintro _ τ0 ⟨rfl, hF0, hv0, _⟩
  show gR _ _ _ τ0 (8, [some (.ref q), some (.ref 27), some (.int W), some (.int (xWb who)), some (.int (nI sort)), some (.int (nI bg)), none], [])
  refine gR.steps 2 (τ0, (11, [some (.ref q), some (.ref 27), some (.int W), some (.int (xWb who)), some (.int (nI sort)), some (.int (nI bg)), some (.int 0)], [])) rfl ?_
  refine gR.forget [some (.ref q), some (.ref 27), some (.int W), some (.int (xWb who)), some (.int (nI sort)), some (.int (nI bg)), some (.int 0)] ⟨rfl, ⟨rfl, ⟨rfl, ⟨rfl, ⟨rfl, ⟨rfl, ⟨rfl, trivial⟩⟩⟩⟩⟩⟩⟩ ?_
  refine gR.loop (α := Nat × gS) (fun ⟨i, τ⟩ => i ≤ n ∧ (∀ p, p ≠ h → τ p = σ p) ∧ ∀ k, k < 4 → τ h k = xMask (xOn i K M B gn k who sort) 24) (fun ⟨i, τ⟩ => n - i) (fun ⟨i, τ⟩ => (τ, (11, [some (.ref q), some (.ref 27), some (.int W), some (.int (xWb who)), some (.int (nI sort)), some (.int (nI bg)), some (.int (nI i))], []))) ?_ ⟨0, τ0⟩ ⟨Nat.zero_le n, hF0, fun k hk => (hv0 k hk).trans (mask0 24).symm⟩
  rintro ⟨i, τ⟩ ⟨hi, hF, hh⟩ ih
  show gR _ _ _ τ (11, [some (.ref q), some (.ref 27), some (.int W), some (.int (xWb who)), some (.int (nI sort)), some (.int (nI bg)), some (.int (nI i))], [])
  refine gR.steps 3 (τ, (17, [some (.ref q), some (.ref 27), some (.int W), some (.int (xWb who)), some (.int (nI sort)), some (.int (nI bg)), some (.int (nI i))], [.int (τ 27 3), .int (nI i)])) rfl ?_
  refine gR.topI (y := nI (n)) (by rw [hF 27 (by omega)]; exact hE.1) ?_
  refine gR.ifte rfl (fun zc17 => ?_) (fun zc17 => ?_)
  · rw [gN_le (x := nI n) (y := nI i) (a := n) (b := i) rfl rfl (by omega) (by omega)] at zc17
    refine gR.steps 3 (τ, (64, [some (.ref q), some (.ref 27), some (.int W), some (.int (xWb who)), some (.int (nI sort)), some (.int (nI bg)), some (.int (nI i))], [.int (nI sort), .int (nI bg), .ref q])) rfl ?_
    refine gR.call' (gStep_callV rfl rfl hA.q rfl) (s_X1_beginIn (by omega) τ q h (fun k m => xOn n K M B gn k who sort m) sort bg hA (fun k hk => by rw [hh k hk, show i = n by omega]) hs hb) ?_
    rintro _ υ ⟨rfl, hF2, hC⟩
    show gR _ _ _ υ (67, [some (.ref q), some (.ref 27), some (.int W), some (.int (xWb who)), some (.int (nI sort)), some (.int (nI bg)), some (.int (nI i))], [])
    refine gR.ret rfl ?_
    exact ⟨trivial, rfl, fun p a b => (hF2 p a).trans (hF p b), hC⟩
  · rw [gN_le (x := nI n) (y := nI i) (a := n) (b := i) rfl rfl (by omega) (by omega)] at zc17
    have hKi := hE.2.2 i (by omega)
    refine gR.steps 2 (τ, (23, [some (.ref q), some (.ref 27), some (.int W), some (.int (xWb who)), some (.int (nI sort)), some (.int (nI bg)), some (.int (nI i))], [.int (nI i), .int W])) rfl ?_
    refine gR.callp rfl (s_X10_bitG (by omega) τ W gn i hW (by omega)) ?_
    refine gR.ifte rfl (fun zc26 => ?_) (fun zc26 => ?_)
    · rw [bI_ne0] at zc26
      refine gR.steps 2 (τ, (11, [some (.ref q), some (.ref 27), some (.int W), some (.int (xWb who)), some (.int (nI sort)), some (.int (nI bg)), some (.int ((nI i) + 1))], [])) rfl ?_
      refine gR.forget [some (.ref q), some (.ref 27), some (.int W), some (.int (xWb who)), some (.int (nI sort)), some (.int (nI bg)), some (.int (nI (i + 1)))] ⟨rfl, ⟨rfl, ⟨rfl, ⟨rfl, ⟨rfl, ⟨rfl, ⟨gSomeI (gN_add rfl rfl), trivial⟩⟩⟩⟩⟩⟩⟩ ?_
      have hzz := ih ⟨i + 1, τ⟩ ⟨by omega, hF, fun k hk => (hh k hk).trans (xMask_congr (fun m _ => xOn_skip zc26 m))⟩ (by dsimp only; omega)
      exact hzz
    · rw [bI_ne0] at zc26
      refine gR.steps 1 (τ, (30, [some (.ref q), some (.ref 27), some (.int W), some (.int (xWb who)), some (.int (nI sort)), some (.int (nI bg)), some (.int (nI i))], [.ref q])) rfl ?_
      refine gR.getR rfl hA.q rfl ?_
      show gR _ _ _ τ (33, [some (.ref q), some (.ref 27), some (.int W), some (.int (xWb who)), some (.int (nI sort)), some (.int (nI bg)), some (.int (nI i))], [.ref h])
      refine gR.steps 3 (τ, (39, [some (.ref q), some (.ref 27), some (.int W), some (.int (xWb who)), some (.int (nI sort)), some (.int (nI bg)), some (.int (nI i))], [.int (nI i), .ref 28, .ref h])) rfl ?_
      refine gR.ald (i := nI i) (j := i) (N := 8) (g := τ 28) rfl rfl (by omega) (by omega) ?_
      refine gR.topI (y := nI (K i)) (by rw [hF 28 (by omega)]; exact (hE.2.2 i (by omega)).1) ?_
      refine gR.steps 1 (τ, (41, [some (.ref q), some (.ref 27), some (.int W), some (.int (xWb who)), some (.int (nI sort)), some (.int (nI bg)), some (.int (nI i))], [.int (nI (K i)), .ref h, .int (nI (K i)), .ref h])) rfl ?_
      refine gR.aldq (i := nI (K i)) (j := K i) rfl hA.h rfl (by omega) (by omega) ?_
      show gR _ _ _ τ (42, [some (.ref q), some (.ref 27), some (.int W), some (.int (xWb who)), some (.int (nI sort)), some (.int (nI bg)), some (.int (nI i))], [.int (τ h (K i)), .int (nI (K i)), .ref h])
      refine gR.steps 4 (τ, (48, [some (.ref q), some (.ref 27), some (.int W), some (.int (xWb who)), some (.int (nI sort)), some (.int (nI bg)), some (.int (nI i))], [.int (nI sort), .int (xWb who), .int (nI i), .ref 27, .int (τ h (K i)), .int (nI (K i)), .ref h])) rfl ?_
      have hE2 : cEv τ 27 n K M B := by
        unfold cEv; rw [hF 27 (by omega), hF (27 + 1) (by omega), hF (27 + 2) (by omega), hF (27 + 3) (by omega)]; exact hE
      refine gR.callp rfl (s_X2_holding27 (by omega) τ n K M B i who sort hE2 (by omega) hs hw) ?_
      refine gR.steps 1 (τ, (52, [some (.ref q), some (.ref 27), some (.int W), some (.int (xWb who)), some (.int (nI sort)), some (.int (nI bg)), some (.int (nI i))], [.int ((τ h (K i)) ||| (xMask (cHit K M B who sort i) 24)), .int (nI (K i)), .ref h])) rfl ?_
      refine gR.astq (i := nI (K i)) (j := K i) rfl hA.h rfl (by omega) (by omega) ?_
      show gR _ _ _ (gUp τ h (K i) ((τ h (K i)) ||| (xMask (cHit K M B who sort i) 24))) (53, [some (.ref q), some (.ref 27), some (.int W), some (.int (xWb who)), some (.int (nI sort)), some (.int (nI bg)), some (.int (nI i))], [])
      refine gR.steps 2 (gUp τ h (K i) ((τ h (K i)) ||| (xMask (cHit K M B who sort i) 24)), (11, [some (.ref q), some (.ref 27), some (.int W), some (.int (xWb who)), some (.int (nI sort)), some (.int (nI bg)), some (.int ((nI i) + 1))], [])) rfl ?_
      refine gR.forget [some (.ref q), some (.ref 27), some (.int W), some (.int (xWb who)), some (.int (nI sort)), some (.int (nI bg)), some (.int (nI (i + 1)))] ⟨rfl, ⟨rfl, ⟨rfl, ⟨rfl, ⟨rfl, ⟨rfl, ⟨gSomeI (gN_add rfl rfl), trivial⟩⟩⟩⟩⟩⟩⟩ ?_
      have hzz := ih ⟨i + 1, (gUp τ h (K i) ((τ h (K i)) ||| (xMask (cHit K M B who sort i) 24)))⟩ ⟨by omega, fun p hp => by rw [gUp_ne hp]; exact hF p hp, fun k hk => by
      rw [gUp_app]
      by_cases hk2 : k = K i
      · rw [if_pos ⟨rfl, hk2⟩, hh (K i) (by omega), xMask_or (by omega), hk2]; exact xMask_congr (fun m _ => xOn_hit zc26 m)
      · rw [if_neg (fun z => hk2 z.2), hh k hk]; exact xMask_congr (fun m _ => xOn_not hk2 m)⟩ (by dsimp only; omega)
      exact hzz
theorem s_X1_follow31 {d : Nat} (hd : 3 ≤ d) (σ : gS) (q h : Nat) (n : Nat) (K M B : Nat → Nat) (gn : Nat → Bool) (W : Int32) (who : Option Nat) (sort bg : Nat) (hA : cAd q h) (hE : cEv σ 31 n K M B) (hW : bGone W gn) (hw : ∀ v, who = some v → v < 10) (hs : sort < 3) (hb : bg < 12) : gC d 5 [.ref q, .ref 31, .int W, .int (xWb who), .int (nI sort), .int (nI bg)] σ (fun r τ => r = none ∧ (∀ p, p ≠ q → p ≠ h → τ p = σ p) ∧ cCo τ q h (fun k m => xOn n K M B gn k who sort m) (xSeason sort bg)) := by
  obtain ⟨d, rfl⟩ : ∃ k, d = k + 1 := ⟨d - 1, by omega⟩
  refine gC.of (P := pX1_follow) (nL := 7) (rt := none) (lv := [some (.ref q), some (.ref 31), some (.int W), some (.int (xWb who)), some (.int (nI sort)), some (.int (nI bg)), none]) (by decide +kernel) rfl rfl rfl (by simp [gEnt, Value.category]) rfl ?_
  have hA2 : q = 35 ∧ h = 36 ∨ 50 ≤ q ∧ q < 60 ∧ h = q + 10 := hA
  have hn8 := hE.2.1
  refine gR.steps 1 (σ, (1, [some (.ref q), some (.ref 31), some (.int W), some (.int (xWb who)), some (.int (nI sort)), some (.int (nI bg)), none], [.ref q])) rfl ?_
  refine gR.getR rfl hA.q rfl ?_
  show gR _ _ _ σ (4, [some (.ref q), some (.ref 31), some (.int W), some (.int (xWb who)), some (.int (nI sort)), some (.int (nI bg)), none], [.ref h])
  refine gR.steps 1 (σ, (5, [some (.ref q), some (.ref 31), some (.int W), some (.int (xWb who)), some (.int (nI sort)), some (.int (nI bg)), none], [.int 0, .ref h])) rfl ?_
  refine gR.call' rfl (s_J7_fill_53178 (by omega) σ h 4 0 hA.h (by omega)) ?_
  rintro _ τ0 ⟨rfl, hF0, hv0, _⟩
  show gR _ _ _ τ0 (8, [some (.ref q), some (.ref 31), some (.int W), some (.int (xWb who)), some (.int (nI sort)), some (.int (nI bg)), none], [])
  refine gR.steps 2 (τ0, (11, [some (.ref q), some (.ref 31), some (.int W), some (.int (xWb who)), some (.int (nI sort)), some (.int (nI bg)), some (.int 0)], [])) rfl ?_
  refine gR.forget [some (.ref q), some (.ref 31), some (.int W), some (.int (xWb who)), some (.int (nI sort)), some (.int (nI bg)), some (.int 0)] ⟨rfl, ⟨rfl, ⟨rfl, ⟨rfl, ⟨rfl, ⟨rfl, ⟨rfl, trivial⟩⟩⟩⟩⟩⟩⟩ ?_
  refine gR.loop (α := Nat × gS) (fun ⟨i, τ⟩ => i ≤ n ∧ (∀ p, p ≠ h → τ p = σ p) ∧ ∀ k, k < 4 → τ h k = xMask (xOn i K M B gn k who sort) 24) (fun ⟨i, τ⟩ => n - i) (fun ⟨i, τ⟩ => (τ, (11, [some (.ref q), some (.ref 31), some (.int W), some (.int (xWb who)), some (.int (nI sort)), some (.int (nI bg)), some (.int (nI i))], []))) ?_ ⟨0, τ0⟩ ⟨Nat.zero_le n, hF0, fun k hk => (hv0 k hk).trans (mask0 24).symm⟩
  rintro ⟨i, τ⟩ ⟨hi, hF, hh⟩ ih
  show gR _ _ _ τ (11, [some (.ref q), some (.ref 31), some (.int W), some (.int (xWb who)), some (.int (nI sort)), some (.int (nI bg)), some (.int (nI i))], [])
  refine gR.steps 3 (τ, (17, [some (.ref q), some (.ref 31), some (.int W), some (.int (xWb who)), some (.int (nI sort)), some (.int (nI bg)), some (.int (nI i))], [.int (τ 31 3), .int (nI i)])) rfl ?_
  refine gR.topI (y := nI (n)) (by rw [hF 31 (by omega)]; exact hE.1) ?_
  refine gR.ifte rfl (fun zc17 => ?_) (fun zc17 => ?_)
  · rw [gN_le (x := nI n) (y := nI i) (a := n) (b := i) rfl rfl (by omega) (by omega)] at zc17
    refine gR.steps 3 (τ, (64, [some (.ref q), some (.ref 31), some (.int W), some (.int (xWb who)), some (.int (nI sort)), some (.int (nI bg)), some (.int (nI i))], [.int (nI sort), .int (nI bg), .ref q])) rfl ?_
    refine gR.call' (gStep_callV rfl rfl hA.q rfl) (s_X1_beginIn (by omega) τ q h (fun k m => xOn n K M B gn k who sort m) sort bg hA (fun k hk => by rw [hh k hk, show i = n by omega]) hs hb) ?_
    rintro _ υ ⟨rfl, hF2, hC⟩
    show gR _ _ _ υ (67, [some (.ref q), some (.ref 31), some (.int W), some (.int (xWb who)), some (.int (nI sort)), some (.int (nI bg)), some (.int (nI i))], [])
    refine gR.ret rfl ?_
    exact ⟨trivial, rfl, fun p a b => (hF2 p a).trans (hF p b), hC⟩
  · rw [gN_le (x := nI n) (y := nI i) (a := n) (b := i) rfl rfl (by omega) (by omega)] at zc17
    have hKi := hE.2.2 i (by omega)
    refine gR.steps 2 (τ, (23, [some (.ref q), some (.ref 31), some (.int W), some (.int (xWb who)), some (.int (nI sort)), some (.int (nI bg)), some (.int (nI i))], [.int (nI i), .int W])) rfl ?_
    refine gR.callp rfl (s_X10_bitG (by omega) τ W gn i hW (by omega)) ?_
    refine gR.ifte rfl (fun zc26 => ?_) (fun zc26 => ?_)
    · rw [bI_ne0] at zc26
      refine gR.steps 2 (τ, (11, [some (.ref q), some (.ref 31), some (.int W), some (.int (xWb who)), some (.int (nI sort)), some (.int (nI bg)), some (.int ((nI i) + 1))], [])) rfl ?_
      refine gR.forget [some (.ref q), some (.ref 31), some (.int W), some (.int (xWb who)), some (.int (nI sort)), some (.int (nI bg)), some (.int (nI (i + 1)))] ⟨rfl, ⟨rfl, ⟨rfl, ⟨rfl, ⟨rfl, ⟨rfl, ⟨gSomeI (gN_add rfl rfl), trivial⟩⟩⟩⟩⟩⟩⟩ ?_
      have hzz := ih ⟨i + 1, τ⟩ ⟨by omega, hF, fun k hk => (hh k hk).trans (xMask_congr (fun m _ => xOn_skip zc26 m))⟩ (by dsimp only; omega)
      exact hzz
    · rw [bI_ne0] at zc26
      refine gR.steps 1 (τ, (30, [some (.ref q), some (.ref 31), some (.int W), some (.int (xWb who)), some (.int (nI sort)), some (.int (nI bg)), some (.int (nI i))], [.ref q])) rfl ?_
      refine gR.getR rfl hA.q rfl ?_
      show gR _ _ _ τ (33, [some (.ref q), some (.ref 31), some (.int W), some (.int (xWb who)), some (.int (nI sort)), some (.int (nI bg)), some (.int (nI i))], [.ref h])
      refine gR.steps 3 (τ, (39, [some (.ref q), some (.ref 31), some (.int W), some (.int (xWb who)), some (.int (nI sort)), some (.int (nI bg)), some (.int (nI i))], [.int (nI i), .ref 32, .ref h])) rfl ?_
      refine gR.ald (i := nI i) (j := i) (N := 8) (g := τ 32) rfl rfl (by omega) (by omega) ?_
      refine gR.topI (y := nI (K i)) (by rw [hF 32 (by omega)]; exact (hE.2.2 i (by omega)).1) ?_
      refine gR.steps 1 (τ, (41, [some (.ref q), some (.ref 31), some (.int W), some (.int (xWb who)), some (.int (nI sort)), some (.int (nI bg)), some (.int (nI i))], [.int (nI (K i)), .ref h, .int (nI (K i)), .ref h])) rfl ?_
      refine gR.aldq (i := nI (K i)) (j := K i) rfl hA.h rfl (by omega) (by omega) ?_
      show gR _ _ _ τ (42, [some (.ref q), some (.ref 31), some (.int W), some (.int (xWb who)), some (.int (nI sort)), some (.int (nI bg)), some (.int (nI i))], [.int (τ h (K i)), .int (nI (K i)), .ref h])
      refine gR.steps 4 (τ, (48, [some (.ref q), some (.ref 31), some (.int W), some (.int (xWb who)), some (.int (nI sort)), some (.int (nI bg)), some (.int (nI i))], [.int (nI sort), .int (xWb who), .int (nI i), .ref 31, .int (τ h (K i)), .int (nI (K i)), .ref h])) rfl ?_
      have hE2 : cEv τ 31 n K M B := by
        unfold cEv; rw [hF 31 (by omega), hF (31 + 1) (by omega), hF (31 + 2) (by omega), hF (31 + 3) (by omega)]; exact hE
      refine gR.callp rfl (s_X2_holding31 (by omega) τ n K M B i who sort hE2 (by omega) hs hw) ?_
      refine gR.steps 1 (τ, (52, [some (.ref q), some (.ref 31), some (.int W), some (.int (xWb who)), some (.int (nI sort)), some (.int (nI bg)), some (.int (nI i))], [.int ((τ h (K i)) ||| (xMask (cHit K M B who sort i) 24)), .int (nI (K i)), .ref h])) rfl ?_
      refine gR.astq (i := nI (K i)) (j := K i) rfl hA.h rfl (by omega) (by omega) ?_
      show gR _ _ _ (gUp τ h (K i) ((τ h (K i)) ||| (xMask (cHit K M B who sort i) 24))) (53, [some (.ref q), some (.ref 31), some (.int W), some (.int (xWb who)), some (.int (nI sort)), some (.int (nI bg)), some (.int (nI i))], [])
      refine gR.steps 2 (gUp τ h (K i) ((τ h (K i)) ||| (xMask (cHit K M B who sort i) 24)), (11, [some (.ref q), some (.ref 31), some (.int W), some (.int (xWb who)), some (.int (nI sort)), some (.int (nI bg)), some (.int ((nI i) + 1))], [])) rfl ?_
      refine gR.forget [some (.ref q), some (.ref 31), some (.int W), some (.int (xWb who)), some (.int (nI sort)), some (.int (nI bg)), some (.int (nI (i + 1)))] ⟨rfl, ⟨rfl, ⟨rfl, ⟨rfl, ⟨rfl, ⟨rfl, ⟨gSomeI (gN_add rfl rfl), trivial⟩⟩⟩⟩⟩⟩⟩ ?_
      have hzz := ih ⟨i + 1, (gUp τ h (K i) ((τ h (K i)) ||| (xMask (cHit K M B who sort i) 24)))⟩ ⟨by omega, fun p hp => by rw [gUp_ne hp]; exact hF p hp, fun k hk => by
      rw [gUp_app]
      by_cases hk2 : k = K i
      · rw [if_pos ⟨rfl, hk2⟩, hh (K i) (by omega), xMask_or (by omega), hk2]; exact xMask_congr (fun m _ => xOn_hit zc26 m)
      · rw [if_neg (fun z => hk2 z.2), hh k hk]; exact xMask_congr (fun m _ => xOn_not hk2 m)⟩ (by dsimp only; omega)
      exact hzz
theorem s_X1_stateIn {d : Nat} (hd : 2 ≤ d) (σ : gS) (q h : Nat) (f : Nat → Nat → Bool) (sn : Nat → Bool) (m : Nat) (hA : cAd q h) (hC : cCo σ q h f sn) (hm : m < 24) : gC d 7 [.ref q, .int (nI m)] σ (fun r τ => r = some (.int (nI (cStt f sn m))) ∧ τ = σ) := by
  obtain ⟨d, rfl⟩ : ∃ k, d = k + 1 := ⟨d - 1, by omega⟩
  refine gC.of (P := pX1_stateIn) (nL := 3) (rt := (some (.int))) (lv := [some (.ref q), some (.int (nI m)), none]) (by decide +kernel) rfl rfl rfl (by simp [gEnt, Value.category]) rfl ?_
  have hA2 : q = 35 ∧ h = 36 ∨ 50 ≤ q ∧ q < 60 ∧ h = q + 10 := hA
  refine gR.steps 2 (σ, (2, [some (.ref q), some (.int (nI m)), some (.int 0)], [])) rfl ?_
  refine gR.forget [some (.ref q), some (.int (nI m)), some (.int 0)] ⟨rfl, ⟨rfl, ⟨rfl, trivial⟩⟩⟩ ?_
  refine gR.loop (α := Nat) (fun k => k ≤ 3 ∧ ∀ j, j < k → ¬ f j m = true) (fun k => 3 - k) (fun k => (σ, (2, [some (.ref q), some (.int (nI m)), some (.int (nI k))], []))) ?_ 0 ⟨by omega, fun j hj => absurd hj (Nat.not_lt_zero j)⟩
  rintro k ⟨hk, hk2⟩ ih
  show gR _ _ _ σ (2, [some (.ref q), some (.int (nI m)), some (.int (nI k))], [])
  refine gR.steps 2 (σ, (4, [some (.ref q), some (.int (nI m)), some (.int (nI k))], [.int 2, .int (nI k)])) rfl ?_
  refine gR.ifte rfl (fun zc4 => ?_) (fun zc4 => ?_)
  · rw [gN_lt (x := 2) (y := nI k) (a := 2) (b := k) rfl rfl (by omega) (by omega)] at zc4
    refine gR.steps 1 (σ, (32, [some (.ref q), some (.int (nI m)), some (.int (nI k))], [.ref q])) rfl ?_
    refine gR.getI rfl hA.q rfl ?_
    show gR _ _ _ σ (35, [some (.ref q), some (.int (nI m)), some (.int (nI k))], [.int (σ q 1)])
    refine gR.steps 1 (σ, (36, [some (.ref q), some (.int (nI m)), some (.int (nI k))], [.int (nI m), .int (σ q 1)])) rfl ?_
    refine gR.callp rfl (s_X10_bitM (by omega) σ (σ q 1) sn 24 m hC.2.1 (by omega) hm) ?_
    refine gR.steps 1 (σ, (40, [some (.ref q), some (.int (nI m)), some (.int (nI k))], [.int 1, .int (bI (sn m = true))])) rfl ?_
    refine gR.ifte rfl (fun zc40 => ?_) (fun zc40 => ?_)
    · rw [bI_eq1] at zc40
      refine gR.steps 1 (σ, (48, [some (.ref q), some (.int (nI m)), some (.int (nI k))], [.int 0])) rfl ?_
      refine gR.ret rfl ?_
      refine ⟨trivial, gSomeI (congrArg nI (a₁ := 0) ?_), rfl⟩
      unfold cStt
      rw [if_neg (hk2 0 (by omega)), if_neg (hk2 1 (by omega)), if_neg (hk2 2 (by omega)), if_neg zc40]
    · rw [bI_eq1, Decidable.not_not] at zc40
      refine gR.steps 2 (σ, (48, [some (.ref q), some (.int (nI m)), some (.int (nI k))], [.int 1])) rfl ?_
      refine gR.ret rfl ?_
      refine ⟨trivial, gSomeI (congrArg nI (a₁ := 1) ?_), rfl⟩
      unfold cStt
      rw [if_neg (hk2 0 (by omega)), if_neg (hk2 1 (by omega)), if_neg (hk2 2 (by omega)), if_pos zc40]
  · rw [gN_lt (x := 2) (y := nI k) (a := 2) (b := k) rfl rfl (by omega) (by omega)] at zc4
    refine gR.steps 1 (σ, (8, [some (.ref q), some (.int (nI m)), some (.int (nI k))], [.ref q])) rfl ?_
    refine gR.getR rfl hA.q rfl ?_
    show gR _ _ _ σ (11, [some (.ref q), some (.int (nI m)), some (.int (nI k))], [.ref h])
    refine gR.steps 1 (σ, (12, [some (.ref q), some (.int (nI m)), some (.int (nI k))], [.int (nI k), .ref h])) rfl ?_
    refine gR.aldq (i := nI k) (j := k) rfl hA.h rfl (by omega) (by omega) ?_
    show gR _ _ _ σ (13, [some (.ref q), some (.int (nI m)), some (.int (nI k))], [.int (σ h k)])
    refine gR.steps 1 (σ, (14, [some (.ref q), some (.int (nI m)), some (.int (nI k))], [.int (nI m), .int (σ h k)])) rfl ?_
    refine gR.callp rfl (s_X10_bitM (by omega) σ (σ h k) (f k) 24 m (hC.1 k (by omega)) (by omega) hm) ?_
    refine gR.steps 1 (σ, (18, [some (.ref q), some (.int (nI m)), some (.int (nI k))], [.int 1, .int (bI (f k m = true))])) rfl ?_
    refine gR.ifte rfl (fun zc18 => ?_) (fun zc18 => ?_)
    · rw [bI_eq1] at zc18
      refine gR.steps 2 (σ, (2, [some (.ref q), some (.int (nI m)), some (.int ((nI k) + 1))], [])) rfl ?_
      refine gR.forget [some (.ref q), some (.int (nI m)), some (.int (nI (k + 1)))] ⟨rfl, ⟨rfl, ⟨gSomeI (gN_add rfl rfl), trivial⟩⟩⟩ ?_
      have hzz := ih (k + 1) ⟨by omega, lt_s hk2 zc18⟩ (by omega)
      exact hzz
    · rw [bI_eq1, Decidable.not_not] at zc18
      refine gR.steps 3 (σ, (24, [some (.ref q), some (.int (nI m)), some (.int (nI k))], [.int (2 + (nI k))])) rfl ?_
      refine gR.ret rfl ?_
      refine ⟨trivial, gSomeI ((gN_add rfl rfl).trans (congrArg nI ?_)), rfl⟩
      unfold cStt
      rcases (show k = 0 ∨ k = 1 ∨ k = 2 by omega) with rfl | rfl | rfl
      · rw [if_pos zc18]
      · rw [if_neg (hk2 0 (by omega)), if_pos zc18]
      · rw [if_neg (hk2 0 (by omega)), if_neg (hk2 1 (by omega)), if_pos zc18]
/-- bush k's course on the hill, grown by the events of D but those of gn -/
def dCo (τ : gS) (D : xDat) (gn : Nat → Bool) (k : Nat) : Prop := cCo τ (50 + k) (60 + k) (fun a m => xOn (dN D) (dK D) (dM D) (dB D) gn a (some k) (dKd D k) m) (xSeason (dKd D k) (dBg D k))
theorem dCo.bl {τ : gS} {D : xDat} {gn : Nat → Bool} {k : Nat} (h : dCo τ D gn k) : τ (50 + k) 2 = xMask (fun m => decide (dS D gn m k = 1)) 24 := h.2.2.1
theorem dCo.se {τ : gS} {D : xDat} {gn : Nat → Bool} {k : Nat} (h : dCo τ D gn k) : τ (50 + k) 3 = xMask (fun m => decide (dS D gn m k = 1 ∨ dQ D gn m k = true)) 24 := h.2.2.2
theorem dCo.fr {σ τ : gS} {D : xDat} {gn : Nat → Bool} {k : Nat} (h : dCo σ D gn k) (h1 : τ (50 + k) = σ (50 + k)) (h2 : τ (60 + k) = σ (60 + k)) : dCo τ D gn k := by
  unfold dCo cCo at h ⊢
  rw [h1, h2]; exact h
def cGrF (σ τ : gS) : Prop := ∀ p, ¬ (50 ≤ p ∧ p ≤ 69) → τ p = σ p
theorem cGrF.rf (σ : gS) : cGrF σ σ := fun _ _ => rfl
theorem cGrF.tr {σ τ υ : gS} (h : cGrF σ τ) (k : cGrF τ υ) : cGrF σ υ := fun p hp => (k p hp).trans (h p hp)
theorem cGrF.keep {σ τ : gS} (h : cGrF σ τ) : cKeep σ τ := ⟨fun q a b => h q (fun z => b (by unfold cScr; omega)), fun s _ _ => by rw [h 19 (by decide)]⟩
/-- all that asking needs, over the events at e -/
def cStE (σ : gS) (e : Nat) (D : xDat) : Prop := cT0 σ (dN0 D) (dC0 D) ∧ cT1 σ (dN1 D) (dC1 D) ∧ cEv σ e (dN D) (dK D) (dM D) (dB D) ∧ (σ 19 8 = nI (dF D) ∧ dF D ≤ 100 ∧ σ 19 9 = nI (dDb D) ∧ dDb D ≤ 50)
def cGr (τ : gS) (D : xDat) (gn : Nat → Bool) : Prop := ∀ k, k < dNb D → dCo τ D gn k
theorem cGr.fr {σ τ : gS} {D : xDat} {gn : Nat → Bool} (h : cGr σ D gn) (hb : dNb D ≤ 10) (hf : ∀ p, 50 ≤ p → p ≤ 69 → τ p = σ p) : cGr τ D gn := fun k hk => (h k hk).fr (hf _ (by omega) (by omega)) (hf _ (by omega) (by omega))
theorem xSum_0 {f : Nat → Nat} : ∀ {n : Nat}, (xSum f n = 0 ↔ ∀ k, k < n → f k = 0)
  | 0 => ⟨fun _ k hk => absurd hk (Nat.not_lt_zero k), fun _ => rfl⟩
  | n + 1 => by
    have ih := xSum_0 (f := f) (n := n)
    simp only [xSum]
    constructor
    · intro z k hk
      by_cases e : k = n
      · rw [e]; omega
      · exact ih.mp (by omega) k (by omega)
    · intro z
      have := ih.mpr (fun k hk => z k (by omega))
      have := z n (by omega)
      omega
theorem bare_eq (D : xDat) (gn : Nat → Bool) : xMask (fun _ => true) 24 &&& (xMask (fun m => xAny (fun k => decide (dS D gn m k = 1)) (dNb D)) 24 ^^^ -1) = dBareG D gn := by
  rw [xMask_sub (by omega)]
  refine xMask_congr (fun m _ => ?_)
  rw [Bool.true_and]
  by_cases h : xAny (fun k => decide (dS D gn m k = 1)) (dNb D) = true
  · rw [h]
    obtain ⟨k, hk, h2⟩ := (xAny_iff _ _).mp h
    refine (decide_eq_false (fun z => ?_)).symm
    have := (xSum_0.mp z) k hk
    rw [if_pos (of_decide_eq_true h2)] at this
    have := (dSp_lt hk).1
    omega
  · have h2 : xAny (fun k => decide (dS D gn m k = 1)) (dNb D) = false := by simpa using h
    rw [h2]
    refine (decide_eq_true (xSum_0.mpr (fun k hk => if_neg (fun z => h ((xAny_iff _ _).mpr ⟨k, hk, decide_eq_true z⟩))))).symm
theorem s_X3_grow27 {d : Nat} (hd : 4 ≤ d) (σ : gS) (D : xDat) (gn : Nat → Bool) (W : Int32) (hT0 : cT0 σ (dN0 D) (dC0 D)) (hE : cEv σ 27 (dN D) (dK D) (dM D) (dB D)) (hW : bGone W gn) : gC d 13 [.ref 20, .ref 27, .int W] σ (fun r τ => r = some (.int (dBareG D gn)) ∧ cGrF σ τ ∧ cGr τ D gn) := by
  obtain ⟨d, rfl⟩ : ∃ k, d = k + 1 := ⟨d - 1, by omega⟩
  refine gC.of (P := pX3_grow) (nL := 6) (rt := (some (.int))) (lv := [some (.ref 20), some (.ref 27), some (.int W), none, none, none]) (by decide +kernel) rfl rfl rfl (by simp [gEnt, Value.category]) rfl ?_
  have hnb := dNb_le D hT0.1.2.2.2.1
  refine gR.steps 4 (σ, (5, [some (.ref 20), some (.ref 27), some (.int W), some (.int 0), some (.int 0), none], [])) rfl ?_
  refine gR.forget [some (.ref 20), some (.ref 27), some (.int W), some (.int (xMask (fun m => xAny (fun k => decide (dS D gn m k = 1)) 0) 24)), some (.int 0), none] ⟨rfl, rfl, rfl, gSomeI (mask0 24).symm, rfl, trivial⟩ ?_
  refine gR.loop (α := Nat × gS) (fun ⟨j, τ⟩ => j ≤ dNb D ∧ cGrF σ τ ∧ ∀ k, k < j → dCo τ D gn k) (fun ⟨j, τ⟩ => dNb D - j) (fun ⟨j, τ⟩ => (τ, (5, [some (.ref 20), some (.ref 27), some (.int W), some (.int (xMask (fun m => xAny (fun k => decide (dS D gn m k = 1)) j) 24)), some (.int (nI j)), none], []))) ?_ ⟨0, σ⟩ ⟨Nat.zero_le _, cGrF.rf σ, fun k hk => absurd hk (Nat.not_lt_zero k)⟩
  rintro ⟨j, τ⟩ ⟨hj, hF, hC⟩ ih
  show gR _ _ _ τ (5, [some (.ref 20), some (.ref 27), some (.int W), some (.int (xMask (fun m => xAny (fun k => decide (dS D gn m k = 1)) j) 24)), some (.int (nI j)), none], [])
  have hT : cT0 τ (dN0 D) (dC0 D) := by
    have := hT0; unfold cT0 at this ⊢; rw [hF 22 (by decide), hF 23 (by decide)]; exact this
  refine gR.steps 3 (τ, (11, [some (.ref 20), some (.ref 27), some (.int W), some (.int (xMask (fun m => xAny (fun k => decide (dS D gn m k = 1)) j) 24)), some (.int (nI j)), none], [.ref 21, .int (nI j)])) rfl ?_
  refine gR.callp rfl (s_X0_size (by omega) τ D hT) ?_
  refine gR.ifte rfl (fun zc14 => ?_) (fun zc14 => ?_)
  · rw [gN_le (x := nI (dNb D)) (y := nI j) (a := dNb D) (b := j) rfl rfl (by omega) (by omega)] at zc14
    refine gR.steps 5 (τ, (73, [some (.ref 20), some (.ref 27), some (.int W), some (.int (xMask (fun m => xAny (fun k => decide (dS D gn m k = 1)) j) 24)), some (.int (nI j)), none], [.int (16777215 &&& ((xMask (fun m => xAny (fun k => decide (dS D gn m k = 1)) j) 24) ^^^ (-1)))])) rfl ?_
    refine gR.ret rfl ?_
    obtain rfl : j = dNb D := by omega
    exact ⟨trivial, gSomeI (by rw [all_mask, bare_eq]), hF, hC⟩
  · rw [gN_le (x := nI (dNb D)) (y := nI j) (a := dNb D) (b := j) rfl rfl (by omega) (by omega)] at zc14
    refine gR.steps 3 (τ, (23, [some (.ref 20), some (.ref 27), some (.int W), some (.int (xMask (fun m => xAny (fun k => decide (dS D gn m k = 1)) j) 24)), some (.int (nI j)), none], [.int (nI j), .ref 45])) rfl ?_
    refine gR.chk (b := gIn (nI j) 10) rfl (gN_in rfl (by omega) (by omega)) ?_
    rw [gN_cl rfl (by omega)]
    refine gR.steps 8 (τ, (38, [some (.ref 20), some (.ref 27), some (.int W), some (.int (xMask (fun m => xAny (fun k => decide (dS D gn m k = 1)) j) 24)), some (.int (nI j)), some (.ref (50 + j))], [.int (nI j), .ref 21, .int (nI j), .int W, .ref 27, .ref (50 + j)])) rfl ?_
    refine gR.callp rfl (s_X0_kindOf (by omega) τ D j hT (by omega)) ?_
    refine gR.steps 3 (τ, (47, [some (.ref 20), some (.ref 27), some (.int W), some (.int (xMask (fun m => xAny (fun k => decide (dS D gn m k = 1)) j) 24)), some (.int (nI j)), some (.ref (50 + j))], [.int (nI j), .ref 21, .int (nI (dKd D j)), .int (nI j), .int W, .ref 27, .ref (50 + j)])) rfl ?_
    refine gR.callp rfl (s_X0_beginOf (by omega) τ D j hT (by omega)) ?_
    have hk3 := dKd_lt (D := D) (k := j) (by omega)
    have hb12 := dBg_lt (D := D) (k := j) (by omega)
    have hE2 : cEv τ 27 (dN D) (dK D) (dM D) (dB D) := by
      have := hE; unfold cEv at this ⊢; rw [hF 27 (by decide), hF (27 + 1) (by decide), hF (27 + 2) (by decide), hF (27 + 3) (by decide)]; exact this
    refine gR.call' (gStep_callV rfl rfl (gSh_course (j := j) (by omega)) rfl) (s_X1_follow27 (by omega) τ (50 + j) (60 + j) (dN D) (dK D) (dM D) (dB D) gn W (some j) (dKd D j) (dBg D j) (Or.inr ⟨by omega, by omega, by omega⟩) hE2 hW (fun v hv => by cases hv; omega) hk3 hb12) ?_
    rintro _ υ ⟨rfl, hF2, hC2⟩
    have hC2 : dCo υ D gn j := hC2
    have hF3 : cGrF σ υ := fun p hp => (hF2 p (by omega) (by omega)).trans (hF p hp)
    have hC3 : ∀ k, k < j + 1 → dCo υ D gn k := fun k hk => by
      by_cases e : k = j
      · rw [e]; exact hC2
      · exact (hC k (by omega)).fr (hF2 (50 + k) (by omega) (by omega)) (hF2 (60 + k) (by omega) (by omega))
    show gR _ _ _ υ (53, [some (.ref 20), some (.ref 27), some (.int W), some (.int (xMask (fun m => xAny (fun k => decide (dS D gn m k = 1)) j) 24)), some (.int (nI j)), some (.ref (50 + j))], [])
    refine gR.steps 2 (υ, (56, [some (.ref 20), some (.ref 27), some (.int W), some (.int (xMask (fun m => xAny (fun k => decide (dS D gn m k = 1)) j) 24)), some (.int (nI j)), some (.ref (50 + j))], [.ref (50 + j), .int (xMask (fun m => xAny (fun k => decide (dS D gn m k = 1)) j) 24)])) rfl ?_
    refine gR.getI rfl (gSh_course (j := j) (by omega)) rfl ?_
    show gR _ _ _ υ (59, [some (.ref 20), some (.ref 27), some (.int W), some (.int (xMask (fun m => xAny (fun k => decide (dS D gn m k = 1)) j) 24)), some (.int (nI j)), some (.ref (50 + j))], [.int (υ (50 + j) 2), .int (xMask (fun m => xAny (fun k => decide (dS D gn m k = 1)) j) 24)])
    refine gR.steps 4 (υ, (5, [some (.ref 20), some (.ref 27), some (.int W), some (.int ((xMask (fun m => xAny (fun k => decide (dS D gn m k = 1)) j) 24) ||| (υ (50 + j) 2))), some (.int ((nI j) + 1)), some (.ref (50 + j))], [])) rfl ?_
    refine gR.forget [some (.ref 20), some (.ref 27), some (.int W), some (.int (xMask (fun m => xAny (fun k => decide (dS D gn m k = 1)) (j + 1)) 24)), some (.int (nI (j + 1))), none] ⟨rfl, ⟨rfl, ⟨rfl, ⟨gSomeI (by rw [hC2.bl, xMask_or (by omega)]; rfl), ⟨gSomeI (gN_add rfl rfl), trivial⟩⟩⟩⟩⟩ ?_
    have hzz := ih ⟨j + 1, υ⟩ ⟨by omega, hF3, hC3⟩ (by dsimp only; omega)
    exact hzz
theorem s_X3_grow31 {d : Nat} (hd : 4 ≤ d) (σ : gS) (D : xDat) (gn : Nat → Bool) (W : Int32) (hT0 : cT0 σ (dN0 D) (dC0 D)) (hE : cEv σ 31 (dN D) (dK D) (dM D) (dB D)) (hW : bGone W gn) : gC d 13 [.ref 20, .ref 31, .int W] σ (fun r τ => r = some (.int (dBareG D gn)) ∧ cGrF σ τ ∧ cGr τ D gn) := by
  obtain ⟨d, rfl⟩ : ∃ k, d = k + 1 := ⟨d - 1, by omega⟩
  refine gC.of (P := pX3_grow) (nL := 6) (rt := (some (.int))) (lv := [some (.ref 20), some (.ref 31), some (.int W), none, none, none]) (by decide +kernel) rfl rfl rfl (by simp [gEnt, Value.category]) rfl ?_
  have hnb := dNb_le D hT0.1.2.2.2.1
  refine gR.steps 4 (σ, (5, [some (.ref 20), some (.ref 31), some (.int W), some (.int 0), some (.int 0), none], [])) rfl ?_
  refine gR.forget [some (.ref 20), some (.ref 31), some (.int W), some (.int (xMask (fun m => xAny (fun k => decide (dS D gn m k = 1)) 0) 24)), some (.int 0), none] ⟨rfl, rfl, rfl, gSomeI (mask0 24).symm, rfl, trivial⟩ ?_
  refine gR.loop (α := Nat × gS) (fun ⟨j, τ⟩ => j ≤ dNb D ∧ cGrF σ τ ∧ ∀ k, k < j → dCo τ D gn k) (fun ⟨j, τ⟩ => dNb D - j) (fun ⟨j, τ⟩ => (τ, (5, [some (.ref 20), some (.ref 31), some (.int W), some (.int (xMask (fun m => xAny (fun k => decide (dS D gn m k = 1)) j) 24)), some (.int (nI j)), none], []))) ?_ ⟨0, σ⟩ ⟨Nat.zero_le _, cGrF.rf σ, fun k hk => absurd hk (Nat.not_lt_zero k)⟩
  rintro ⟨j, τ⟩ ⟨hj, hF, hC⟩ ih
  show gR _ _ _ τ (5, [some (.ref 20), some (.ref 31), some (.int W), some (.int (xMask (fun m => xAny (fun k => decide (dS D gn m k = 1)) j) 24)), some (.int (nI j)), none], [])
  have hT : cT0 τ (dN0 D) (dC0 D) := by
    have := hT0; unfold cT0 at this ⊢; rw [hF 22 (by decide), hF 23 (by decide)]; exact this
  refine gR.steps 3 (τ, (11, [some (.ref 20), some (.ref 31), some (.int W), some (.int (xMask (fun m => xAny (fun k => decide (dS D gn m k = 1)) j) 24)), some (.int (nI j)), none], [.ref 21, .int (nI j)])) rfl ?_
  refine gR.callp rfl (s_X0_size (by omega) τ D hT) ?_
  refine gR.ifte rfl (fun zc14 => ?_) (fun zc14 => ?_)
  · rw [gN_le (x := nI (dNb D)) (y := nI j) (a := dNb D) (b := j) rfl rfl (by omega) (by omega)] at zc14
    refine gR.steps 5 (τ, (73, [some (.ref 20), some (.ref 31), some (.int W), some (.int (xMask (fun m => xAny (fun k => decide (dS D gn m k = 1)) j) 24)), some (.int (nI j)), none], [.int (16777215 &&& ((xMask (fun m => xAny (fun k => decide (dS D gn m k = 1)) j) 24) ^^^ (-1)))])) rfl ?_
    refine gR.ret rfl ?_
    obtain rfl : j = dNb D := by omega
    exact ⟨trivial, gSomeI (by rw [all_mask, bare_eq]), hF, hC⟩
  · rw [gN_le (x := nI (dNb D)) (y := nI j) (a := dNb D) (b := j) rfl rfl (by omega) (by omega)] at zc14
    refine gR.steps 3 (τ, (23, [some (.ref 20), some (.ref 31), some (.int W), some (.int (xMask (fun m => xAny (fun k => decide (dS D gn m k = 1)) j) 24)), some (.int (nI j)), none], [.int (nI j), .ref 45])) rfl ?_
    refine gR.chk (b := gIn (nI j) 10) rfl (gN_in rfl (by omega) (by omega)) ?_
    rw [gN_cl rfl (by omega)]
    refine gR.steps 8 (τ, (38, [some (.ref 20), some (.ref 31), some (.int W), some (.int (xMask (fun m => xAny (fun k => decide (dS D gn m k = 1)) j) 24)), some (.int (nI j)), some (.ref (50 + j))], [.int (nI j), .ref 21, .int (nI j), .int W, .ref 31, .ref (50 + j)])) rfl ?_
    refine gR.callp rfl (s_X0_kindOf (by omega) τ D j hT (by omega)) ?_
    refine gR.steps 3 (τ, (47, [some (.ref 20), some (.ref 31), some (.int W), some (.int (xMask (fun m => xAny (fun k => decide (dS D gn m k = 1)) j) 24)), some (.int (nI j)), some (.ref (50 + j))], [.int (nI j), .ref 21, .int (nI (dKd D j)), .int (nI j), .int W, .ref 31, .ref (50 + j)])) rfl ?_
    refine gR.callp rfl (s_X0_beginOf (by omega) τ D j hT (by omega)) ?_
    have hk3 := dKd_lt (D := D) (k := j) (by omega)
    have hb12 := dBg_lt (D := D) (k := j) (by omega)
    have hE2 : cEv τ 31 (dN D) (dK D) (dM D) (dB D) := by
      have := hE; unfold cEv at this ⊢; rw [hF 31 (by decide), hF (31 + 1) (by decide), hF (31 + 2) (by decide), hF (31 + 3) (by decide)]; exact this
    refine gR.call' (gStep_callV rfl rfl (gSh_course (j := j) (by omega)) rfl) (s_X1_follow31 (by omega) τ (50 + j) (60 + j) (dN D) (dK D) (dM D) (dB D) gn W (some j) (dKd D j) (dBg D j) (Or.inr ⟨by omega, by omega, by omega⟩) hE2 hW (fun v hv => by cases hv; omega) hk3 hb12) ?_
    rintro _ υ ⟨rfl, hF2, hC2⟩
    have hC2 : dCo υ D gn j := hC2
    have hF3 : cGrF σ υ := fun p hp => (hF2 p (by omega) (by omega)).trans (hF p hp)
    have hC3 : ∀ k, k < j + 1 → dCo υ D gn k := fun k hk => by
      by_cases e : k = j
      · rw [e]; exact hC2
      · exact (hC k (by omega)).fr (hF2 (50 + k) (by omega) (by omega)) (hF2 (60 + k) (by omega) (by omega))
    show gR _ _ _ υ (53, [some (.ref 20), some (.ref 31), some (.int W), some (.int (xMask (fun m => xAny (fun k => decide (dS D gn m k = 1)) j) 24)), some (.int (nI j)), some (.ref (50 + j))], [])
    refine gR.steps 2 (υ, (56, [some (.ref 20), some (.ref 31), some (.int W), some (.int (xMask (fun m => xAny (fun k => decide (dS D gn m k = 1)) j) 24)), some (.int (nI j)), some (.ref (50 + j))], [.ref (50 + j), .int (xMask (fun m => xAny (fun k => decide (dS D gn m k = 1)) j) 24)])) rfl ?_
    refine gR.getI rfl (gSh_course (j := j) (by omega)) rfl ?_
    show gR _ _ _ υ (59, [some (.ref 20), some (.ref 31), some (.int W), some (.int (xMask (fun m => xAny (fun k => decide (dS D gn m k = 1)) j) 24)), some (.int (nI j)), some (.ref (50 + j))], [.int (υ (50 + j) 2), .int (xMask (fun m => xAny (fun k => decide (dS D gn m k = 1)) j) 24)])
    refine gR.steps 4 (υ, (5, [some (.ref 20), some (.ref 31), some (.int W), some (.int ((xMask (fun m => xAny (fun k => decide (dS D gn m k = 1)) j) 24) ||| (υ (50 + j) 2))), some (.int ((nI j) + 1)), some (.ref (50 + j))], [])) rfl ?_
    refine gR.forget [some (.ref 20), some (.ref 31), some (.int W), some (.int (xMask (fun m => xAny (fun k => decide (dS D gn m k = 1)) (j + 1)) 24)), some (.int (nI (j + 1))), none] ⟨rfl, ⟨rfl, ⟨rfl, ⟨gSomeI (by rw [hC2.bl, xMask_or (by omega)]; rfl), ⟨gSomeI (gN_add rfl rfl), trivial⟩⟩⟩⟩⟩ ?_
    have hzz := ih ⟨j + 1, υ⟩ ⟨by omega, hF3, hC3⟩ (by dsimp only; omega)
    exact hzz
theorem bI_mul (p : Prop) [Decidable p] (n : Nat) : bI p * nI n = nI (if p then n else 0) := by
  by_cases h : p
  · rw [bI_t h, if_pos h]; exact (gN_mul (a := 1) rfl rfl).trans (congrArg nI (Nat.one_mul n))
  · rw [bI_f h, if_neg h]; exact (gN_mul (a := 0) rfl rfl).trans (congrArg nI (Nat.zero_mul n))
theorem s_X3_yellowIn {d : Nat} (hd : 3 ≤ d) (σ : gS) (D : xDat) (m : Nat) (hT : cT0 σ (dN0 D) (dC0 D)) (hC : cGr σ D gn0) (hm : m < 24) : gC d 14 [.ref 20, .int (nI m)] σ (fun r τ => r = some (.int (nI (dYel D m))) ∧ τ = σ) := by
  obtain ⟨d, rfl⟩ : ∃ k, d = k + 1 := ⟨d - 1, by omega⟩
  refine gC.of (P := pX3_yellowIn) (nL := 4) (rt := (some (.int))) (lv := [some (.ref 20), some (.int (nI m)), none, none]) (by decide +kernel) rfl rfl rfl (by simp [gEnt, Value.category]) rfl ?_
  have hnb := dNb_le D hT.1.2.2.2.1
  refine gR.steps 4 (σ, (4, [some (.ref 20), some (.int (nI m)), some (.int 0), some (.int 0)], [])) rfl ?_
  refine gR.forget [some (.ref 20), some (.int (nI m)), some (.int 0), some (.int 0)] ⟨rfl, ⟨rfl, ⟨rfl, ⟨rfl, trivial⟩⟩⟩⟩ ?_
  refine gR.loop (α := Nat) (fun j => j ≤ dNb D) (fun j => dNb D - j) (fun j => (σ, (4, [some (.ref 20), some (.int (nI m)), some (.int (nI (xSum (fun k => if dS D gn0 m k = 1 then dSp D k else 0) j))), some (.int (nI j))], []))) ?_ 0 (Nat.zero_le _)
  rintro j hj ih
  show gR _ _ _ σ (4, [some (.ref 20), some (.int (nI m)), some (.int (nI (xSum (fun k => if dS D gn0 m k = 1 then dSp D k else 0) j))), some (.int (nI j))], [])
  refine gR.steps 3 (σ, (9, [some (.ref 20), some (.int (nI m)), some (.int (nI (xSum (fun k => if dS D gn0 m k = 1 then dSp D k else 0) j))), some (.int (nI j))], [.ref 21, .int (nI j)])) rfl ?_
  refine gR.callp rfl (s_X0_size (by omega) σ D hT) ?_
  refine gR.ifte rfl (fun zc12 => ?_) (fun zc12 => ?_)
  · rw [gN_le (x := nI (dNb D)) (y := nI j) (a := dNb D) (b := j) rfl rfl (by omega) (by omega)] at zc12
    refine gR.steps 1 (σ, (47, [some (.ref 20), some (.int (nI m)), some (.int (nI (xSum (fun k => if dS D gn0 m k = 1 then dSp D k else 0) j))), some (.int (nI j))], [.int (nI (xSum (fun k => if dS D gn0 m k = 1 then dSp D k else 0) j))])) rfl ?_
    refine gR.ret rfl ?_
    obtain rfl : j = dNb D := by omega
    exact ⟨trivial, rfl, rfl⟩
  · rw [gN_le (x := nI (dNb D)) (y := nI j) (a := dNb D) (b := j) rfl rfl (by omega) (by omega)] at zc12
    refine gR.steps 4 (σ, (21, [some (.ref 20), some (.int (nI m)), some (.int (nI (xSum (fun k => if dS D gn0 m k = 1 then dSp D k else 0) j))), some (.int (nI j))], [.int (nI j), .ref 45, .int (nI (xSum (fun k => if dS D gn0 m k = 1 then dSp D k else 0) j))])) rfl ?_
    refine gR.chk (b := gIn (nI j) 10) rfl (gN_in rfl (by omega) (by omega)) ?_
    rw [gN_cl rfl (by omega)]
    refine gR.getI rfl (gSh_course (j := j) (by omega)) rfl ?_
    show gR _ _ _ σ (25, [some (.ref 20), some (.int (nI m)), some (.int (nI (xSum (fun k => if dS D gn0 m k = 1 then dSp D k else 0) j))), some (.int (nI j))], [.int (σ (50 + j) 2), .int (nI (xSum (fun k => if dS D gn0 m k = 1 then dSp D k else 0) j))])
    refine gR.steps 1 (σ, (26, [some (.ref 20), some (.int (nI m)), some (.int (nI (xSum (fun k => if dS D gn0 m k = 1 then dSp D k else 0) j))), some (.int (nI j))], [.int (nI m), .int (σ (50 + j) 2), .int (nI (xSum (fun k => if dS D gn0 m k = 1 then dSp D k else 0) j))])) rfl ?_
    refine gR.callp rfl (s_X10_bitP (by omega) σ (σ (50 + j) 2) (fun m => dS D gn0 m j = 1) 24 m (hC j (by omega)).bl (by omega) hm) ?_
    refine gR.steps 3 (σ, (34, [some (.ref 20), some (.int (nI m)), some (.int (nI (xSum (fun k => if dS D gn0 m k = 1 then dSp D k else 0) j))), some (.int (nI j))], [.int (nI j), .ref 21, .int (bI (dS D gn0 m j = 1)), .int (nI (xSum (fun k => if dS D gn0 m k = 1 then dSp D k else 0) j))])) rfl ?_
    refine gR.callp rfl (s_X0_sparksOf (by omega) σ D j hT (by omega)) ?_
    refine gR.steps 5 (σ, (4, [some (.ref 20), some (.int (nI m)), some (.int ((nI (xSum (fun k => if dS D gn0 m k = 1 then dSp D k else 0) j)) + (bI (dS D gn0 m j = 1) * nI (dSp D j)))), some (.int ((nI j) + 1))], [])) rfl ?_
    refine gR.forget [some (.ref 20), some (.int (nI m)), some (.int (nI (xSum (fun k => if dS D gn0 m k = 1 then dSp D k else 0) (j + 1)))), some (.int (nI (j + 1)))] ⟨rfl, ⟨rfl, ⟨gSomeI (gN_add rfl (bI_mul _ _)), ⟨gSomeI (gN_add rfl rfl), trivial⟩⟩⟩⟩ ?_
    have hzz := ih (j + 1) (by omega) (by omega)
    exact hzz
theorem s_X3_seemingIn {d : Nat} (hd : 3 ≤ d) (σ : gS) (D : xDat) (m : Nat) (hT : cT0 σ (dN0 D) (dC0 D)) (hC : cGr σ D gn0) (hm : m < 24) : gC d 15 [.ref 20, .int (nI m)] σ (fun r τ => r = some (.int (nI (dSee D m))) ∧ τ = σ) := by
  obtain ⟨d, rfl⟩ : ∃ k, d = k + 1 := ⟨d - 1, by omega⟩
  refine gC.of (P := pX3_seemingIn) (nL := 4) (rt := (some (.int))) (lv := [some (.ref 20), some (.int (nI m)), none, none]) (by decide +kernel) rfl rfl rfl (by simp [gEnt, Value.category]) rfl ?_
  have hnb := dNb_le D hT.1.2.2.2.1
  refine gR.steps 4 (σ, (4, [some (.ref 20), some (.int (nI m)), some (.int 0), some (.int 0)], [])) rfl ?_
  refine gR.forget [some (.ref 20), some (.int (nI m)), some (.int 0), some (.int 0)] ⟨rfl, ⟨rfl, ⟨rfl, ⟨rfl, trivial⟩⟩⟩⟩ ?_
  refine gR.loop (α := Nat) (fun j => j ≤ dNb D) (fun j => dNb D - j) (fun j => (σ, (4, [some (.ref 20), some (.int (nI m)), some (.int (nI (xSum (fun k => if dS D gn0 m k = 1 ∨ dQ D gn0 m k = true then dSp D k else 0) j))), some (.int (nI j))], []))) ?_ 0 (Nat.zero_le _)
  rintro j hj ih
  show gR _ _ _ σ (4, [some (.ref 20), some (.int (nI m)), some (.int (nI (xSum (fun k => if dS D gn0 m k = 1 ∨ dQ D gn0 m k = true then dSp D k else 0) j))), some (.int (nI j))], [])
  refine gR.steps 3 (σ, (9, [some (.ref 20), some (.int (nI m)), some (.int (nI (xSum (fun k => if dS D gn0 m k = 1 ∨ dQ D gn0 m k = true then dSp D k else 0) j))), some (.int (nI j))], [.ref 21, .int (nI j)])) rfl ?_
  refine gR.callp rfl (s_X0_size (by omega) σ D hT) ?_
  refine gR.ifte rfl (fun zc12 => ?_) (fun zc12 => ?_)
  · rw [gN_le (x := nI (dNb D)) (y := nI j) (a := dNb D) (b := j) rfl rfl (by omega) (by omega)] at zc12
    refine gR.steps 1 (σ, (47, [some (.ref 20), some (.int (nI m)), some (.int (nI (xSum (fun k => if dS D gn0 m k = 1 ∨ dQ D gn0 m k = true then dSp D k else 0) j))), some (.int (nI j))], [.int (nI (xSum (fun k => if dS D gn0 m k = 1 ∨ dQ D gn0 m k = true then dSp D k else 0) j))])) rfl ?_
    refine gR.ret rfl ?_
    obtain rfl : j = dNb D := by omega
    exact ⟨trivial, rfl, rfl⟩
  · rw [gN_le (x := nI (dNb D)) (y := nI j) (a := dNb D) (b := j) rfl rfl (by omega) (by omega)] at zc12
    refine gR.steps 4 (σ, (21, [some (.ref 20), some (.int (nI m)), some (.int (nI (xSum (fun k => if dS D gn0 m k = 1 ∨ dQ D gn0 m k = true then dSp D k else 0) j))), some (.int (nI j))], [.int (nI j), .ref 45, .int (nI (xSum (fun k => if dS D gn0 m k = 1 ∨ dQ D gn0 m k = true then dSp D k else 0) j))])) rfl ?_
    refine gR.chk (b := gIn (nI j) 10) rfl (gN_in rfl (by omega) (by omega)) ?_
    rw [gN_cl rfl (by omega)]
    refine gR.getI rfl (gSh_course (j := j) (by omega)) rfl ?_
    show gR _ _ _ σ (25, [some (.ref 20), some (.int (nI m)), some (.int (nI (xSum (fun k => if dS D gn0 m k = 1 ∨ dQ D gn0 m k = true then dSp D k else 0) j))), some (.int (nI j))], [.int (σ (50 + j) 3), .int (nI (xSum (fun k => if dS D gn0 m k = 1 ∨ dQ D gn0 m k = true then dSp D k else 0) j))])
    refine gR.steps 1 (σ, (26, [some (.ref 20), some (.int (nI m)), some (.int (nI (xSum (fun k => if dS D gn0 m k = 1 ∨ dQ D gn0 m k = true then dSp D k else 0) j))), some (.int (nI j))], [.int (nI m), .int (σ (50 + j) 3), .int (nI (xSum (fun k => if dS D gn0 m k = 1 ∨ dQ D gn0 m k = true then dSp D k else 0) j))])) rfl ?_
    refine gR.callp rfl (s_X10_bitP (by omega) σ (σ (50 + j) 3) (fun m => dS D gn0 m j = 1 ∨ dQ D gn0 m j = true) 24 m (hC j (by omega)).se (by omega) hm) ?_
    refine gR.steps 3 (σ, (34, [some (.ref 20), some (.int (nI m)), some (.int (nI (xSum (fun k => if dS D gn0 m k = 1 ∨ dQ D gn0 m k = true then dSp D k else 0) j))), some (.int (nI j))], [.int (nI j), .ref 21, .int (bI (dS D gn0 m j = 1 ∨ dQ D gn0 m j = true)), .int (nI (xSum (fun k => if dS D gn0 m k = 1 ∨ dQ D gn0 m k = true then dSp D k else 0) j))])) rfl ?_
    refine gR.callp rfl (s_X0_sparksOf (by omega) σ D j hT (by omega)) ?_
    refine gR.steps 5 (σ, (4, [some (.ref 20), some (.int (nI m)), some (.int ((nI (xSum (fun k => if dS D gn0 m k = 1 ∨ dQ D gn0 m k = true then dSp D k else 0) j)) + (bI (dS D gn0 m j = 1 ∨ dQ D gn0 m j = true) * nI (dSp D j)))), some (.int ((nI j) + 1))], [])) rfl ?_
    refine gR.forget [some (.ref 20), some (.int (nI m)), some (.int (nI (xSum (fun k => if dS D gn0 m k = 1 ∨ dQ D gn0 m k = true then dSp D k else 0) (j + 1)))), some (.int (nI (j + 1)))] ⟨rfl, ⟨rfl, ⟨gSomeI (gN_add rfl (bI_mul _ _)), ⟨gSomeI (gN_add rfl rfl), trivial⟩⟩⟩⟩ ?_
    have hzz := ih (j + 1) (by omega) (by omega)
    exact hzz
