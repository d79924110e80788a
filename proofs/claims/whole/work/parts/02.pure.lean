/-! THE PURE MACHINE: memory is a function of cell and slot; a method is a list of its instructions' meanings. -/
abbrev gS : Type := Nat → Nat → Int32
abbrev gL : Type := List (Option Value)
abbrev gF : Type := Nat × gL × List Value
abbrev gRes : Type := (Bool × (gS × gF) × Option (gS × gF)) ⊕ ((Nat × List Value × gF) ⊕ Option Value)
abbrev gSem : Type := gS → Nat → gL → List Value → Option gRes
/-- a cell's shape: an object (class, its fields: a fixed reference or an int), an array of ints or booleans, an array of fixed references -/
abbrev gShp : Type := (Nat × List (Option Nat)) ⊕ ((Nat × Nat) ⊕ (Nat × Nat × (Nat → Option Nat)))
def gAt {α : Type} : List α → Nat → Option α
  | [], _ => none
  | a :: _, 0 => some a
  | _ :: l, n + 1 => gAt l n
theorem gAt_eq {α : Type} : ∀ (l : List α) (n : Nat), gAt l n = l[n]?
  | [], _ => by simp [gAt]
  | a :: l, 0 => by simp [gAt]
  | a :: l, n + 1 => by simp [gAt, gAt_eq l n]
def gCourse (j : Nat) : gShp := .inl (1, [some (60 + j), none, none, none])
def gSheet (j : Nat) : gShp := .inl (8, [some (74 + j), none, none])
def gInts (n : Nat) : gShp := .inr (.inl (0, n))
def gShapes : List gShp := [
  .inl (11, [some 1, some 2, some 3, some 4, none, some 5, some 6, none, some 7, none, some 8, none, none, none, some 9, none, some 10, some 11, some 12, some 13, some 14, none, none, none, none, some 15, some 16, none, some 17]),
  gInts 4, gInts 4, gInts 240, gInts 60, gInts 80, gInts 2, gInts 33, gInts 24, gInts 24, gInts 264, .inr (.inl (1, 264)), gInts 24, gInts 24, gInts 24, gInts 24, gInts 120, gInts 24,
  .inl (10, [some 19, some 20, some 21, some 24, some 27, some 31, some 35, some 37, some 41, some 42, some 43, some 44, none]),
  .inl (6, [some 20, some 24, some 46, some 47, some 48, some 49, none, none, none, none]),
  .inl (3, [some 21, some 45]),
  .inl (0, [some 22]),
  .inl (9, [some 23, some 1000, some 1001, none, none, none, none, none]),
  gInts 39,
  .inl (4, [some 25]),
  .inl (9, [some 26, some 1002, some 1003, none, none, none, none, none]),
  gInts 35,
  .inl (2, [some 28, some 29, some 30, none]), gInts 8, gInts 8, gInts 8,
  .inl (2, [some 32, some 33, some 34, none]), gInts 8, gInts 8, gInts 8,
  .inl (1, [some 36, none, none, none]), gInts 4,
  .inl (7, [some 38, some 39, some 40, none]), gInts 8, gInts 8, gInts 8,
  .inl (5, [none]),
  .inr (.inr (3, 4, fun j => some (70 + j))),
  gInts 10, gInts 5,
  .inr (.inr (2, 10, fun j => some (50 + j))),
  gInts 24, gInts 12, gInts 12, gInts 24,
  gCourse 0, gCourse 1, gCourse 2, gCourse 3, gCourse 4, gCourse 5, gCourse 6, gCourse 7, gCourse 8, gCourse 9,
  gInts 4, gInts 4, gInts 4, gInts 4, gInts 4, gInts 4, gInts 4, gInts 4, gInts 4, gInts 4,
  gSheet 0, gSheet 1, gSheet 2, gSheet 3,
  gInts 60, gInts 60, gInts 60, gInts 60]
def gNC : Nat := 78
theorem gShapes_len : gShapes.length = gNC := by decide +kernel
def gShape (q : Nat) : Option gShp := gAt gShapes q
/-- the fixed tables of the class -/
def gRoL : List (Nat × String × List Int32) := [(3, "BUSH_LOWS", [99, 97, 49]), (3, "BUSH_HIGHS", [101, 108, 57]), (2, "LOOK_LOWS", [97, 48]), (2, "LOOK_HIGHS", [120, 57]), (3, "KIND_OF_SIGN", [0, 2, 1]), (3, "SEASON_OF_KIND", [6, 4, 3]), (12, "LASTING", [9, 12, 12, 2, 2, 3, 1, 2, 0, 3, 3, 3])]
def gRo (q : Nat) : Option (Nat × String × List Int32) := bif Nat.ble 1000 q then gAt gRoL (q - 1000) else none
def gUp (σ : gS) (q k : Nat) (v : Int32) : gS := fun q' => if q' = q then upd (σ q) k v else σ q'
def gUpA (σ : gS) (q : Nat) (f : Nat → Int32) : gS := fun q' => if q' = q then f else σ q'
def gIn (i : Int32) (n : Nat) : Bool := !(decide (i < 0) || decide (n ≤ i.toNatClampNeg))
theorem gIn_in {i : Int32} {n : Nat} (h : gIn i n = true) : vp_in i n := by
  simpa [gIn, vp_in] using h
theorem gIn_of {i : Int32} {n : Nat} (h : vp_in i n) : gIn i n = true := by
  simpa [gIn, vp_in] using h
def gCats : List Value → Nat
  | [] => 0
  | v :: l => v.category + gCats l
theorem gCats_eq : ∀ l : List Value, gCats l = (l.map fun v => v.category).sum
  | [] => rfl
  | v :: l => by simp [gCats, gCats_eq l]
/-- locals -/
def gNth (l : gL) (i : Nat) : Option Value := match gAt l i with
  | some (some v) => some v
  | _ => none
def gPrev (l : gL) : Nat → Bool
  | 0 => true
  | j + 1 => match gAt l j with
    | some (some (.long _)) => false
    | some (some (.double _)) => false
    | _ => true
def gGo (σ : gS) (pc : Nat) (lv : gL) (st : List Value) : Option gRes := some (.inl (true, (σ, pc, lv, st), none))
def gChk (b : Bool) (σ : gS) (pc : Nat) (lv : gL) (st : List Value) : Option gRes := some (.inl (b, (σ, pc, lv, st), none))
def gBr (b : Bool) (σ : gS) (pc1 pc2 : Nat) (lv : gL) (st : List Value) : Option gRes := some (.inl (b, (σ, pc1, lv, st), some (σ, pc2, lv, st)))
-- the meanings
def sPush (v : Value) (len : Nat) : gSem := fun σ pc lv st => gGo σ (pc + len) lv (v :: st)
def sLdI (i len : Nat) : gSem := fun σ pc lv st => match gNth lv i with
  | some (.int x) => gGo σ (pc + len) lv (.int x :: st)
  | _ => none
def sLdL (i len : Nat) : gSem := fun σ pc lv st => match gNth lv i with
  | some (.long x) => gGo σ (pc + len) lv (.long x :: st)
  | _ => none
def sLdA (i len : Nat) : gSem := fun σ pc lv st => match gNth lv i with
  | some (.ref x) => gGo σ (pc + len) lv (.ref x :: st)
  | _ => none
def sStI (i len : Nat) : gSem := fun σ pc lv st => match st with
  | .int x :: r => bif Nat.blt i lv.length && gPrev lv i then gGo σ (pc + len) (lv.set i (some (.int x))) r else none
  | _ => none
def sStA (i len : Nat) : gSem := fun σ pc lv st => match st with
  | .ref x :: r => bif Nat.blt i lv.length && gPrev lv i then gGo σ (pc + len) (lv.set i (some (.ref x))) r else none
  | _ => none
def sStL (i len : Nat) : gSem := fun σ pc lv st => match st with
  | .long x :: r => bif Nat.blt (i + 1) lv.length && gPrev lv i then gGo σ (pc + len) ((lv.set i (some (.long x))).set (i + 1) none) r else none
  | _ => none
def sInc (i : Nat) (n : Int32) : gSem := fun σ pc lv _st => match gNth lv i with
  | some (.int x) => bif Nat.blt i lv.length && gPrev lv i then gGo σ (pc + 3) (lv.set i (some (.int (x + n)))) _st else none
  | _ => none
def sBin (f : Int32 → Int32 → Int32) : gSem := fun σ pc lv st => match st with
  | .int y :: .int x :: r => gGo σ (pc + 1) lv (.int (f x y) :: r)
  | _ => none
def sBinL (f : Int64 → Int64 → Int64) : gSem := fun σ pc lv st => match st with
  | .long y :: .long x :: r => gGo σ (pc + 1) lv (.long (f x y) :: r)
  | _ => none
def sShL (f : Int64 → Int32 → Int64) : gSem := fun σ pc lv st => match st with
  | .int y :: .long x :: r => gGo σ (pc + 1) lv (.long (f x y) :: r)
  | _ => none
def sDiv (f : Int32 → Int32 → Int32) : gSem := fun σ pc lv st => match st with
  | .int y :: .int x :: r => gChk (decide (¬ y = 0)) σ (pc + 1) lv (.int (f x y) :: r)
  | _ => none
def sDivL (f : Int64 → Int64 → Int64) : gSem := fun σ pc lv st => match st with
  | .long y :: .long x :: r => gChk (decide (¬ y = 0)) σ (pc + 1) lv (.long (f x y) :: r)
  | _ => none
def sUn (f : Int32 → Int32) : gSem := fun σ pc lv st => match st with
  | .int x :: r => gGo σ (pc + 1) lv (.int (f x) :: r)
  | _ => none
def sI2L : gSem := fun σ pc lv st => match st with
  | .int x :: r => gGo σ (pc + 1) lv (.long x.toInt64 :: r)
  | _ => none
def sLcmp : gSem := fun σ pc lv st => match st with
  | .long y :: .long x :: r => gGo σ (pc + 1) lv (.int (lg_cmp x y) :: r)
  | _ => none
def sDup : gSem := fun σ pc lv st => match st with
  | v :: r => bif Nat.beq v.category 1 then gGo σ (pc + 1) lv (v :: v :: r) else none
  | _ => none
def sPop : gSem := fun σ pc lv st => match st with
  | v :: r => bif Nat.beq v.category 1 then gGo σ (pc + 1) lv r else none
  | _ => none
def sDup2 : gSem := fun σ pc lv st => match st with
  | v :: w :: r => bif Nat.beq v.category 1 && Nat.beq w.category 1 then gGo σ (pc + 1) lv (v :: w :: v :: w :: r) else none
  | _ => none
def sIf1 (t : Int32 → Bool) (tgt : Nat) : gSem := fun σ pc lv st => match st with
  | .int x :: r => gBr (t x) σ tgt (pc + 3) lv r
  | _ => none
def sIf2 (t : Int32 → Int32 → Bool) (tgt : Nat) : gSem := fun σ pc lv st => match st with
  | .int y :: .int x :: r => gBr (t x y) σ tgt (pc + 3) lv r
  | _ => none
def sGoto (tgt : Nat) : gSem := fun σ _ lv st => gGo σ tgt lv st
/-- a table of targets from lo on, and the target elsewhere -/
def gTgt (lo : Int) (ts : List Nat) (dflt : Nat) (x : Int32) : Nat := if x.toInt < lo then dflt else match gAt ts (x.toInt - lo).toNat with
  | some t => t
  | none => dflt
def sSw (lo : Int) (ts : List Nat) (dflt : Nat) : gSem := fun σ _ lv st => match st with
  | .int x :: r => gGo σ (gTgt lo ts dflt x) lv r
  | _ => none
def sGet (ci k : Nat) : gSem := fun σ pc lv st => match st with
  | .ref q :: r => match gShape q with
    | some (.inl (cj, ks)) => bif Nat.beq ci cj then (match gAt ks k with
      | some (some t) => gGo σ (pc + 3) lv (.ref t :: r)
      | some none => gGo σ (pc + 3) lv (.int (σ q k) :: r)
      | none => none) else none
    | _ => none
  | _ => none
def sPut (ci k : Nat) : gSem := fun σ pc lv st => match st with
  | .int v :: .ref q :: r => match gShape q with
    | some (.inl (cj, ks)) => bif Nat.beq ci cj then (match gAt ks k with
      | some none => gGo (gUp σ q k v) (pc + 3) lv r
      | _ => none) else none
    | _ => none
  | _ => none
def sPutZ (ci k : Nat) : gSem := fun σ pc lv st => match st with
  | .int v :: .ref q :: r => match gShape q with
    | some (.inl (cj, ks)) => bif Nat.beq ci cj then (match gAt ks k with
      | some none => gChk (decide (v = 0) || decide (v = 1)) (gUp σ q k v) (pc + 3) lv r
      | _ => none) else none
    | _ => none
  | _ => none
def sRo (q : Nat) : gSem := fun σ pc lv st => gGo σ (pc + 3) lv (.ref q :: st)
def sIald : gSem := fun σ pc lv st => match st with
  | .int i :: .ref q :: r => match gShape q with
    | some (.inr (.inl (0, n))) => gChk (gIn i n) σ (pc + 1) lv (.int (σ q i.toNatClampNeg) :: r)
    | none => match gRo q with
      | some (n, _, xs) => gChk (gIn i n) σ (pc + 1) lv (.int (xs.getD i.toNatClampNeg 0) :: r)
      | none => none
    | _ => none
  | _ => none
def sZald : gSem := fun σ pc lv st => match st with
  | .int i :: .ref q :: r => match gShape q with
    | some (.inr (.inl (1, n))) => gChk (gIn i n) σ (pc + 1) lv (.int (σ q i.toNatClampNeg) :: r)
    | _ => none
  | _ => none
def sAald : gSem := fun σ pc lv st => match st with
  | .int i :: .ref q :: r => match gShape q with
    | some (.inr (.inr (_, n, f))) => match f i.toNatClampNeg with
      | some t => gChk (gIn i n) σ (pc + 1) lv (.ref t :: r)
      | none => none
    | _ => none
  | _ => none
def sIast : gSem := fun σ pc lv st => match st with
  | .int x :: .int i :: .ref q :: r => match gShape q with
    | some (.inr (.inl (0, n))) => gChk (gIn i n) (gUp σ q i.toNatClampNeg x) (pc + 1) lv r
    | _ => none
  | _ => none
def sZast : gSem := fun σ pc lv st => match st with
  | .int x :: .int i :: .ref q :: r => match gShape q with
    | some (.inr (.inl (1, n))) => gChk (gIn i n && (decide (x = 0) || decide (x = 1))) (gUp σ q i.toNatClampNeg x) (pc + 1) lv r
    | _ => none
  | _ => none
def sAlen : gSem := fun σ pc lv st => match st with
  | .ref q :: r => match gShape q with
    | some (.inr (.inl (_, n))) => gGo σ (pc + 1) lv (.int (Int32.ofNat n) :: r)
    | none => match gRo q with
      | some (n, _, _) => gGo σ (pc + 1) lv (.int (Int32.ofNat n) :: r)
      | none => none
    | _ => none
  | _ => none
/-- the script, in the law alone -/
def sScrLd (L : Nat) (xs : Nat → Int32) : gSem := fun σ pc lv st => match st with
  | .int i :: .ref q :: r => bif Nat.beq q 1007 then gChk (gIn i L) σ (pc + 1) lv (.int (xs i.toNatClampNeg) :: r) else none
  | _ => none
def sScrLen (L : Nat) : gSem := fun σ pc lv st => match st with
  | .ref q :: r => bif Nat.beq q 1007 then gGo σ (pc + 1) lv (.int (Int32.ofNat L) :: r) else none
  | _ => none
def sCopy : gSem := fun σ pc lv st => match st with
  | .int n :: .int dp :: .ref b :: .int sp :: .ref a :: r => match gShape a, gShape b with
    | some (.inr (.inl (0, n0))), some (.inr (.inl (0, n1))) => bif Nat.ble (gCats r) 8 then gChk (!decide (sp < 0) && !decide (dp < 0) && !decide (n < 0) && decide (sp.toNatClampNeg + n.toNatClampNeg ≤ n0) && decide (dp.toNatClampNeg + n.toNatClampNeg ≤ n1)) (gUpA σ b (va_cpy (σ a) (σ b) sp.toNatClampNeg dp.toNatClampNeg n.toNatClampNeg)) (pc + 3) lv r else none
    | _, _ => none
  | _ => none
def sMM (f : Int32 → Int32 → Int32) : gSem := fun σ pc lv st => match st with
  | .int y :: .int x :: r => bif Nat.ble (gCats r) 8 then gGo σ (pc + 3) lv (.int (f x y) :: r) else none
  | _ => none
def sCallS (mid n : Nat) : gSem := fun _ pc lv st => bif Nat.ble n st.length && Nat.ble (gCats (st.drop n)) 8 then some (.inr (.inl (mid, (st.take n).reverse, (pc + 3, lv, st.drop n)))) else none
def gIsO (ci : Nat) (v : Value) : Bool := match v with
  | .ref q => (match gShape q with
    | some (.inl (cj, _)) => Nat.beq ci cj
    | _ => false)
  | _ => false
def sCallV (mid ci n : Nat) : gSem := fun _ pc lv st => match st.drop n with
  | v :: r => bif gIsO ci v && Nat.ble n st.length && Nat.ble (gCats r) 8 then some (.inr (.inl (mid, v :: (st.take n).reverse, (pc + 3, lv, r)))) else none
  | [] => none
def sRetV : gSem := fun _ _ _ st => match st with
  | [] => some (.inr (.inr none))
  | _ => none
def sRetI : gSem := fun _ _ _ st => match st with
  | [.int v] => some (.inr (.inr (some (.int v))))
  | _ => none
def sRetL : gSem := fun _ _ _ st => match st with
  | [.long v] => some (.inr (.inr (some (.long v))))
  | _ => none
def sRetA : gSem := fun _ _ _ st => match st with
  | [.ref v] => some (.inr (.inr (some (.ref v))))
  | _ => none
abbrev gProg : Type := List (Nat × gSem)
def gFind : gProg → Nat → Option gSem
  | [], _ => none
  | (a, s) :: l, n => bif Nat.beq n a then some s else gFind l n
def gStep (P : gProg) (σ : gS) (f : gF) : Option gRes := match gFind P f.1 with
  | some sem => sem σ f.1 f.2.1 f.2.2
  | none => none
/-- fewer locals known -/
def gLe : gL → gL → Prop
  | [], [] => True
  | none :: a, _ :: b => gLe a b
  | some v :: a, w :: b => w = some v ∧ gLe a b
  | _, _ => False
abbrev gE : Type := Nat → List Value → gS → Option Value → gS → Prop
def gNext (WP : gS → gF → Prop) (E : gE) (Fin : Option Value → gS → Prop) (σ : gS) (r : Option gRes) : Prop := match r with
  | none => False
  | some (.inl (b, s1, o)) => (b = true → WP s1.1 s1.2) ∧ (b = false → match o with
    | none => False
    | some s2 => WP s2.1 s2.2)
  | some (.inr (.inl (mid, as, f))) => ∃ (v : Option Value) (σ' : gS), E mid as σ v σ' ∧ WP σ' (f.1, f.2.1, v.toList ++ f.2.2)
  | some (.inr (.inr v)) => Fin v σ
def gRn (P : gProg) (E : gE) (Fin : Option Value → gS → Prop) : Nat → gS → gF → Prop
  | 0, _, _ => False
  | n + 1, σ, f => (∃ lv' : gL, gLe lv' f.2.1 ∧ gRn P E Fin n σ (f.1, lv', f.2.2)) ∨ gNext (gRn P E Fin n) E Fin σ (gStep P σ f)
/-- from memory σ and frame f the program ends, with Fin of its answer and the memory then -/
def gR (P : gProg) (E : gE) (Fin : Option Value → gS → Prop) (σ : gS) (f : gF) : Prop := ∃ n, gRn P E Fin n σ f
/-- several plain steps at once -/
def gSteps (P : gProg) : Nat → gS × gF → Option (gS × gF)
  | 0, s => some s
  | n + 1, s => match gStep P s.1 s.2 with
    | some (.inl (true, s1, _)) => gSteps P n s1
    | _ => none
section GRULES
variable {P : gProg} {E : gE} {Fin : Option Value → gS → Prop} {σ σ1 σ2 : gS} {f f1 f2 : gF}
theorem gR.of {r : Option gRes} (h : gStep P σ f = r) (hn : ∃ n, gNext (gRn P E Fin n) E Fin σ r) : gR P E Fin σ f := by
  obtain ⟨n, hn⟩ := hn
  exact ⟨n + 1, Or.inr (by rw [h]; exact hn)⟩
theorem gR.steps (k : Nat) (s1 : gS × gF) (h : gSteps P k (σ, f) = some s1) (hn : gR P E Fin s1.1 s1.2) : gR P E Fin σ f := by
  induction k generalizing σ f with
  | zero =>
    cases h
    exact hn
  | succ k ih =>
    simp only [gSteps] at h
    split at h
    next s2 o e1 =>
      obtain ⟨n, h2⟩ := ih (σ := s2.1) (f := s2.2) h
      exact gR.of e1 ⟨n, fun _ => h2, (fun z => Bool.noConfusion z)⟩
    next => cases h
theorem gR.go {o : Option (gS × gF)} (h : gStep P σ f = some (.inl (true, (σ1, f1), o))) (hn : gR P E Fin σ1 f1) : gR P E Fin σ f := by
  obtain ⟨n, hn⟩ := hn
  exact gR.of h ⟨n, fun _ => hn, (fun z => Bool.noConfusion z)⟩
theorem gR.chk {b : Bool} {o : Option (gS × gF)} (h : gStep P σ f = some (.inl (b, (σ1, f1), o))) (hb : b = true) (hn : gR P E Fin σ1 f1) : gR P E Fin σ f := by
  subst hb
  exact gR.go h hn
theorem gR.br {b : Bool} (h : gStep P σ f = some (.inl (b, (σ1, f1), some (σ2, f2)))) (h1 : b = true → gR P E Fin σ1 f1) (h2 : b = false → gR P E Fin σ2 f2) : gR P E Fin σ f := by
  cases b with
  | true => exact gR.go h (h1 rfl)
  | false =>
    obtain ⟨n, hn⟩ := h2 rfl
    exact gR.of h ⟨n, (fun z => Bool.noConfusion z), fun _ => hn⟩
theorem gR.call {mid : Nat} {as : List Value} {v : Option Value} (h : gStep P σ f = some (.inr (.inl (mid, as, f1)))) (he : E mid as σ v σ1) (hn : gR P E Fin σ1 (f1.1, f1.2.1, v.toList ++ f1.2.2)) : gR P E Fin σ f := by
  obtain ⟨n, hn⟩ := hn
  exact gR.of h ⟨n, v, σ1, he, hn⟩
theorem gR.ret {v : Option Value} (h : gStep P σ f = some (.inr (.inr v))) (hn : Fin v σ) : gR P E Fin σ f := gR.of h ⟨0, hn⟩
theorem gR.forget {pc : Nat} {lv : gL} {st : List Value} (lv' : gL) (h : gLe lv' lv) (hn : gR P E Fin σ (pc, lv', st)) : gR P E Fin σ (pc, lv, st) := by
  obtain ⟨n, hn⟩ := hn
  exact ⟨n + 1, Or.inl ⟨lv', h, hn⟩⟩
end GRULES
/-- a run's end is one -/
theorem gRn.ends {P : gProg} {E : gE} {Fin : Option Value → gS → Prop} : ∀ (n : Nat) (σ : gS) (f : gF), gRn P E Fin n σ f → ∃ (v : Option Value) (σ' : gS), Fin v σ' ∧ gRn P E (fun w τ => w = v ∧ τ = σ') n σ f
  | 0, _, _, h => h.elim
  | n + 1, σ, f, h => by
    rcases h with ⟨lv', h1, h2⟩ | h
    · obtain ⟨v, σ', hf, hr⟩ := gRn.ends n _ _ h2
      exact ⟨v, σ', hf, Or.inl ⟨lv', h1, hr⟩⟩
    · match hr : gStep P σ f with
      | none => rw [hr] at h; exact h.elim
      | some (.inl (b, s1, o)) =>
        rw [hr] at h
        cases b with
        | true =>
          obtain ⟨v, σ', hf, h2⟩ := gRn.ends n _ _ (h.1 rfl)
          exact ⟨v, σ', hf, Or.inr (by rw [hr]; exact ⟨fun _ => h2, (fun z => Bool.noConfusion z)⟩)⟩
        | false =>
          cases o with
          | none => exact (h.2 rfl).elim
          | some s2 =>
            obtain ⟨v, σ', hf, h2⟩ := gRn.ends n _ _ (h.2 rfl)
            exact ⟨v, σ', hf, Or.inr (by rw [hr]; exact ⟨(fun z => Bool.noConfusion z), fun _ => h2⟩)⟩
      | some (.inr (.inl (mid, as, f'))) =>
        rw [hr] at h
        obtain ⟨w, τ, he, h1⟩ := h
        obtain ⟨v, σ', hf, h2⟩ := gRn.ends n _ _ h1
        exact ⟨v, σ', hf, Or.inr (by rw [hr]; exact ⟨w, τ, he, h2⟩)⟩
      | some (.inr (.inr v)) =>
        rw [hr] at h
        exact ⟨v, σ, h, Or.inr (by rw [hr]; exact ⟨rfl, rfl⟩)⟩
