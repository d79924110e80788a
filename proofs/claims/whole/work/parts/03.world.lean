/-! SOUNDNESS: the pure machine's runs are the machine's. The world: 78 cells at addresses ad 0 .. ad 77 (ad 1000 .. : the class's tables, ad 1007 the script). -/
def gv (ad : Nat → Nat) : Value → Value
  | .ref i => .ref (ad i)
  | v => v
theorem gv_cat (ad : Nat → Nat) (v : Value) : (gv ad v).category = v.category := by cases v <;> rfl
def gAs (ad : Nat → Nat) : Nat → gL → List (Nat × Value)
  | _, [] => []
  | k, none :: l => gAs ad (k + 1) l
  | k, some v :: l => (k, gv ad v) :: gAs ad (k + 1) l
theorem gAs_mem (ad : Nat → Nat) : ∀ (l : gL) (k : Nat) (q : Nat × Value), q ∈ gAs ad k l ↔ ∃ (j : Nat) (v : Value), l[j]? = some (some v) ∧ q = (k + j, gv ad v)
  | [], k, q => by simp [gAs]
  | none :: l, k, q => by
    rw [gAs, gAs_mem ad l (k + 1) q]
    constructor
    · rintro ⟨j, v, h1, h2⟩
      exact ⟨j + 1, v, by simpa using h1, by rw [h2]; congr 1; omega⟩
    · rintro ⟨j, v, h1, h2⟩
      cases j with
      | zero => simp at h1
      | succ j => exact ⟨j, v, by simpa using h1, by rw [h2]; congr 1; omega⟩
  | some w :: l, k, q => by
    rw [gAs, List.mem_cons, gAs_mem ad l (k + 1) q]
    constructor
    · rintro (h | ⟨j, v, h1, h2⟩)
      · exact ⟨0, w, by simp, by rw [h]; rfl⟩
      · exact ⟨j + 1, v, by simpa using h1, by rw [h2]; congr 1; omega⟩
    · rintro ⟨j, v, h1, h2⟩
      cases j with
      | zero =>
        simp at h1
        subst h1
        exact Or.inl (by rw [h2]; rfl)
      | succ j => exact Or.inr ⟨j, v, by simpa using h1, by rw [h2]; congr 1; omega⟩
theorem gNth_at {l : gL} {i : Nat} {v : Value} (h : gNth l i = some v) : l[i]? = some (some v) := by
  unfold gNth at h
  split at h
  next w e => cases h; rw [← gAt_eq, e]
  next => cases h
theorem gAs_get {ad : Nat → Nat} {ls : Array Slot} {nL : Nat} {lv : gL} {i : Nat} {v : Value} (hl : lv_has ls nL (gAs ad 0 lv)) (h : gNth lv i = some v) : ls[i]? = some (.val (gv ad v)) :=
  hl.2.2 (i, gv ad v) ((gAs_mem ad lv 0 _).mpr ⟨i, v, gNth_at h, by simp⟩)
theorem gPrev_ok {l : gL} {i j : Nat} {v : Value} (h : gPrev l i = true) (hj : l[j]? = some (some v)) (hi : j + 1 = i) : v.category = 1 := by
  subst hi
  simp only [gPrev] at h
  rw [gAt_eq, hj] at h
  cases v <;> first | rfl | (simp at h)
theorem gAs_set1 {ad : Nat → Nat} {ls : Array Slot} {nL : Nat} {lv : gL} {i : Nat} {v : Value} (hi : i < lv.length) (hp : gPrev lv i = true)
    (hl : lv_has ls nL ((i, gv ad v) :: (gAs ad 0 lv).filter (fun q => !(q.1 == i) && !(q.1 + 1 == i && q.2.category == 2)))) : lv_has ls nL (gAs ad 0 (lv.set i (some v))) := by
  refine ⟨hl.1, hl.2.1, fun q hq => hl.2.2 q ?_⟩
  obtain ⟨j, w, h1, h2⟩ := (gAs_mem ad _ 0 q).mp hq
  by_cases hj : i = j
  · subst hj
    rw [List.getElem?_set_self hi] at h1
    cases h1
    subst h2
    exact List.mem_cons.mpr (Or.inl (by simp))
  · rw [List.getElem?_set_ne hj] at h1
    refine List.mem_cons.mpr (Or.inr (List.mem_filter.mpr ⟨(gAs_mem ad lv 0 q).mpr ⟨j, w, h1, h2⟩, ?_⟩))
    subst h2
    have hc : j + 1 = i → w.category = 1 := fun z => gPrev_ok hp h1 z
    have hj' : ¬ j = i := fun z => hj z.symm
    by_cases hz : j + 1 = i
    · simp [gv_cat, hj', hc hz]
    · simp [hj', hz]
theorem gAs_set2 {ad : Nat → Nat} {ls : Array Slot} {nL : Nat} {lv : gL} {i : Nat} {v : Value} (hi : i + 1 < lv.length) (hp : gPrev lv i = true)
    (hl : lv_has ls nL ((i, gv ad v) :: (gAs ad 0 lv).filter (fun q => !(q.1 == i) && (!(q.1 == i + 1) && !(q.1 + 1 == i && q.2.category == 2))))) : lv_has ls nL (gAs ad 0 ((lv.set i (some v)).set (i + 1) none)) := by
  refine ⟨hl.1, hl.2.1, fun q hq => hl.2.2 q ?_⟩
  obtain ⟨j, w, h1, h2⟩ := (gAs_mem ad _ 0 q).mp hq
  by_cases hk : i + 1 = j
  · subst hk
    rw [List.getElem?_set_self (by rw [List.length_set]; exact hi)] at h1
    cases h1
  rw [List.getElem?_set_ne hk] at h1
  by_cases hj : i = j
  · subst hj
    rw [List.getElem?_set_self (by omega)] at h1
    cases h1
    subst h2
    exact List.mem_cons.mpr (Or.inl (by simp))
  · rw [List.getElem?_set_ne hj] at h1
    refine List.mem_cons.mpr (Or.inr (List.mem_filter.mpr ⟨(gAs_mem ad lv 0 q).mpr ⟨j, w, h1, h2⟩, ?_⟩))
    subst h2
    have hc : j + 1 = i → w.category = 1 := fun z => gPrev_ok hp h1 z
    have hj' : ¬ j = i := fun z => hj z.symm
    have hk' : ¬ j = i + 1 := fun z => hk z.symm
    by_cases hz : j + 1 = i
    · simp [gv_cat, hj', hk', hc hz]
    · simp [hj', hk', hz]
theorem gLe_at : ∀ {a b : gL}, gLe a b → a.length = b.length ∧ ∀ (j : Nat) (v : Value), a[j]? = some (some v) → b[j]? = some (some v)
  | [], [], _ => ⟨rfl, fun j v h => by simp at h⟩
  | none :: a, w :: b, h => by
    obtain ⟨h1, h2⟩ := gLe_at (a := a) (b := b) h
    refine ⟨by simp [h1], fun j v hj => ?_⟩
    cases j with
    | zero => simp at hj
    | succ j => simpa using h2 j v (by simpa using hj)
  | some v :: a, w :: b, h => by
    obtain ⟨h1, h2⟩ := gLe_at (a := a) (b := b) h.2
    have h0 : w = some v := h.1
    refine ⟨by simp [h1], fun j u hj => ?_⟩
    cases j with
    | zero => subst h0; simpa using hj
    | succ j => simpa using h2 j u (by simpa using hj)
  | [], _ :: _, h => h.elim
  | none :: _, [], h => h.elim
  | some _ :: _, [], h => h.elim
-- the world
def gTys (tc : Nat → ClassId) : List (ClassId × FieldType) := [(tc 0, .int), (tc 1, .boolean), (tc 2, .object "GorseGold$Course"), (tc 3, .object "GorseGold$Sheet")]
def gFs (ad : Nat → Nat) (g : Nat → Int32) : Nat → List (Option Nat) → List Value
  | _, [] => []
  | k, some r :: l => .ref (ad r) :: gFs ad g (k + 1) l
  | k, none :: l => .int (g k) :: gFs ad g (k + 1) l
theorem gFs_len (ad : Nat → Nat) (g : Nat → Int32) : ∀ (l : List (Option Nat)) (k : Nat), (gFs ad g k l).length = l.length
  | [], _ => rfl
  | some _ :: l, k => by simp [gFs, gFs_len ad g l (k + 1)]
  | none :: l, k => by simp [gFs, gFs_len ad g l (k + 1)]
theorem gFs_ref (ad : Nat → Nat) (g : Nat → Int32) : ∀ (l : List (Option Nat)) (k j r : Nat), l[j]? = some (some r) → (gFs ad g k l)[j]? = some (.ref (ad r))
  | [], _, j, r, h => by simp at h
  | o :: l, k, 0, r, h => by
    simp at h; subst h; rfl
  | some _ :: l, k, j + 1, r, h => by simpa [gFs] using gFs_ref ad g l (k + 1) j r (by simpa using h)
  | none :: l, k, j + 1, r, h => by simpa [gFs] using gFs_ref ad g l (k + 1) j r (by simpa using h)
theorem gFs_int (ad : Nat → Nat) (g : Nat → Int32) : ∀ (l : List (Option Nat)) (k j : Nat), l[j]? = some none → (gFs ad g k l)[j]? = some (.int (g (k + j)))
  | [], _, j, h => by simp at h
  | o :: l, k, 0, h => by
    simp at h; subst h; rfl
  | some _ :: l, k, j + 1, h => by
    have := gFs_int ad g l (k + 1) j (by simpa using h)
    simpa [gFs, Nat.add_assoc, Nat.add_comm 1 j] using this
  | none :: l, k, j + 1, h => by
    have := gFs_int ad g l (k + 1) j (by simpa using h)
    simpa [gFs, Nat.add_assoc, Nat.add_comm 1 j] using this
theorem gFs_same (ad : Nat → Nat) (g g' : Nat → Int32) : ∀ (l : List (Option Nat)) (k : Nat), (∀ j, k ≤ j → g' j = g j) → gFs ad g' k l = gFs ad g k l
  | [], _, _ => rfl
  | some _ :: l, k, h => by simp [gFs, gFs_same ad g g' l (k + 1) (fun j hj => h j (by omega))]
  | none :: l, k, h => by simp [gFs, gFs_same ad g g' l (k + 1) (fun j hj => h j (by omega)), h k (Nat.le_refl k)]
theorem gFs_set (ad : Nat → Nat) (g : Nat → Int32) (v : Int32) : ∀ (l : List (Option Nat)) (k j : Nat), l[j]? = some none → (gFs ad g k l).set j (.int v) = gFs ad (upd g (k + j) v) k l
  | [], _, j, h => by simp at h
  | o :: l, k, 0, h => by
    simp at h; subst h
    simp only [gFs, List.set_cons_zero, Nat.add_zero]
    rw [gFs_same ad g (upd g k v) l (k + 1) (fun j hj => by simp only [upd]; rw [if_neg (by omega)])]
    simp [upd]
  | some _ :: l, k, j + 1, h => by
    have := gFs_set ad g v l (k + 1) j (by simpa using h)
    simp only [gFs, List.set_cons_succ, this]
    congr 3; omega
  | none :: l, k, j + 1, h => by
    have := gFs_set ad g v l (k + 1) j (by simpa using h)
    simp only [gFs, List.set_cons_succ, this]
    have e : k + 1 + j = k + (j + 1) := by omega
    rw [e]
    congr 1
    simp only [upd]; rw [if_neg (by omega)]
def gCell (ad : Nat → Nat) (tc : Nat → ClassId) (σ : gS) (i : Nat) : va_E := match gShape i with
  | some (.inl (ci, ks)) => .inr (ci, gFs ad (σ i) 0 ks)
  | some (.inr (.inl (t, n))) => .inl (tc t, n, .inl (σ i))
  | some (.inr (.inr (t, n, f))) => .inl (tc t, n, .inr (.inr (.inr (.inr (fun j => (f j).map ad)))))
  | none => .inr (0, [])
def gWs (ad : Nat → Nat) (tc : Nat → ClassId) (σ : gS) : va_W := (List.range gNC).map (fun i => (ad i, gCell ad tc σ i))
theorem gShape_lt {q : Nat} {x : gShp} (h : gShape q = some x) : q < gNC := by
  rw [gShape, gAt_eq] at h
  have := (List.getElem?_eq_some_iff.mp h).1
  rw [gShapes_len] at this
  exact this
theorem gWs_at {ad : Nat → Nat} {tc : Nat → ClassId} {σ : gS} {i : Nat} (h : i < gNC) : (gWs ad tc σ)[i]? = some (ad i, gCell ad tc σ i) := by
  simp [gWs, h]
theorem gWs_set {ad : Nat → Nat} {tc : Nat → ClassId} {σ σ' : gS} {q : Nat} {e : va_E} (hq : q < gNC) (he : gCell ad tc σ' q = e) (ho : ∀ i, i ≠ q → σ' i = σ i) : (gWs ad tc σ).set q (ad q, e) = gWs ad tc σ' := by
  apply List.ext_getElem?
  intro i
  by_cases h : q = i
  · subst h
    rw [List.getElem?_set_self (by simpa [gWs] using hq), gWs_at hq, he]
  · rw [List.getElem?_set_ne h]
    by_cases hi : i < gNC
    · rw [gWs_at hi, gWs_at hi]
      congr 2
      simp only [gCell, ho i (fun z => h z.symm)]
    · simp [gWs, hi]
def gApart (ad : Nat → Nat) (A : Nat → Prop) : Prop := (∀ i j, i < gNC → j < gNC → ad i = ad j → i = j) ∧ ∀ i, i < gNC → A (ad i)
theorem gApart.D {ad : Nat → Nat} {A : Nat → Prop} (h : gApart ad A) (tc : Nat → ClassId) (σ : gS) : va_D A (gWs ad tc σ) := by
  have key : ∀ (k : Nat) (q : Nat × va_E), (gWs ad tc σ)[k]? = some q → k < gNC ∧ q.1 = ad k := by
    intro k q hk
    have hl : k < gNC := by simpa [gWs] using (List.getElem?_eq_some_iff.mp hk).1
    rw [gWs_at hl] at hk
    cases hk
    exact ⟨hl, rfl⟩
  refine ⟨fun i j x y hi hj hxy => ?_, fun k q hk => ?_⟩
  · obtain ⟨a1, a2⟩ := key i x hi
    obtain ⟨b1, b2⟩ := key j y hj
    exact h.1 i j a1 b1 (by rw [← a2, ← b2]; exact hxy)
  · obtain ⟨a1, a2⟩ := key k q hk
    rw [a2]
    exact h.2 k a1
theorem gApart.of {ad : Nat → Nat} {A : Nat → Prop} {tc : Nat → ClassId} {σ : gS} (h : va_D A (gWs ad tc σ)) : gApart ad A :=
  ⟨fun i j hi hj e => h.1 i j _ _ (gWs_at hi) (gWs_at hj) e, fun i hi => h.2 i _ (gWs_at hi)⟩
theorem gWs_A {ad : Nat → Nat} {tc : Nat → ClassId} {σ : gS} {sz q : Nat} : va_A (gWs ad tc σ) sz q ↔ (∃ i, i < gNC ∧ q = ad i) ∨ sz ≤ q := by
  unfold va_A
  constructor
  · rintro (⟨k, e, h⟩ | h)
    · have hl : k < gNC := by simpa [gWs] using (List.getElem?_eq_some_iff.mp h).1
      rw [gWs_at hl] at h
      cases h
      exact Or.inl ⟨k, hl, rfl⟩
    · exact Or.inr h
  · rintro (⟨i, h1, h2⟩ | h)
    · exact Or.inl ⟨i, _, by rw [gWs_at h1, h2]⟩
    · exact Or.inr h
-- words
def gW : List Cond := lw_tbl.filter goodWord
def gIsNest : Cond → Bool
  | .fieldLinkNest .. => true
  | .methodLinkNest .. => true
  | _ => false
def gNest : List Cond := lw_tbl.filter gIsNest
theorem gNest_warm {s U : State} (hW : s.WarmedH U.vm) (h : ∀ w ∈ gNest, va_Nw w s) : ∀ w ∈ gNest, va_Nw w U := by
  intro w hw
  have h1 := h w hw
  have h2 := (List.mem_filter.mp hw).2
  cases w <;> first | exact va_Nw.warmF hW h1 | exact va_Nw.warmM hW h1 | (simp [gIsNest] at h2)
theorem gNest_same {s U : State} (hW : s.vm = U.vm) (h : ∀ w ∈ gNest, va_Nw w s) : ∀ w ∈ gNest, va_Nw w U := by
  intro w hw
  have h1 := h w hw
  have h2 := (List.mem_filter.mp hw).2
  cases w <;> first | exact va_Nw.same rfl hW h1 | (simp [gIsNest] at h2)
theorem gNest_use {w : Cond} {args : Array Value} {s : State} (h : va_Nw w s) (hw : gIsNest w = true) : w.before args s = true := by
  cases w <;> first | exact va_Nw.use rfl h | (simp [gIsNest] at hw)
theorem gW_good : GoodIn gW gW := fun w hw => ⟨hw, good_of_word (List.mem_filter.mp hw).2⟩
/-- the class's tables, untouched -/
def gRoH (ad : Nat → Nat) (A : Nat → Prop) (U : State) (H : Heap) : Prop := ∀ (j n : Nat) (nm : String) (xs : List Int32), gAt gRoL j = some (n, nm, xs) → va_X (ad (1000 + j)) n (fun i => xs.getD i 0) U H ∧ ad (1000 + j) < H.size ∧ ¬ A (ad (1000 + j)) ∧ va_Z "GorseGold" nm "[I" (.ref (ad (1000 + j))) A U H
def gScr (scr : Option (Nat × (Nat → Int32))) (ad : Nat → Nat) (A : Nat → Prop) (U : State) (H : Heap) : Prop := match scr with
  | none => True
  | some x => va_X (ad 1007) x.1 x.2 U H ∧ ad 1007 < H.size ∧ ¬ A (ad 1007)
def gCtx (own : String) (cc : ByteArray) (nL : Nat) (scr : Option (Nat × (Nat → Int32))) (p : Program) (R : Room) (s : State) (m : MethodId) (args : Array Value) (c : Code) (cells slots : Nat) (ad : Nat → Nat) (dC : Nat → ClassId) (dI : Nat → Nat → Nat) (tc : Nat → ClassId) (A : Nat → Prop) (d : Nat) : Prop :=
  p.tables.exec = Jvm.exec ∧ c.code = cc ∧ c.maxLocals = nL ∧ s.vm.findClass own = some m.cls ∧ (∀ w ∈ gW, w.before args s = true) ∧ (∀ w ∈ gNest, va_Nw w s) ∧ va_K (dC, dI) vwCl (gTys tc) s ∧ (∀ q, s.heap.size ≤ q → A q) ∧ gApart ad A ∧ gRoH ad A s s.heap ∧ gScr scr ad A s s.heap ∧ d + 1 ≤ R.frames ∧ 40 * (d + 1) ≤ R.locals ∧ cells ≤ R.cells ∧ slots ≤ R.slots
def gWP (p : Program) (l : Launch) (e : Env) (R : Room) (s : State) (m : MethodId) (args : Array Value) (below : List Frame) (meth : Method) (c : Code) (cells slots : Nat) (Q : State → Prop) (ad : Nat → Nat) (dC : Nat → ClassId) (dI : Nat → Nat → Nat) (tc : Nat → ClassId) (A : Nat → Prop) (nL : Nat) (σ : gS) (f : gF) : Prop :=
  ∀ (H : Heap) (locs : List Loc) (ls : Array Slot), va_P (dC, dI) vwCl (gWs ad tc σ) H → va_S A s.heap H locs → f.2.1.length = nL → lv_has ls nL (gAs ad 0 f.2.1) → W p l e R s m args below meth c H locs cells slots Q (F0 m f.1 ls (f.2.2.map (gv ad)))
def gRetI : Option Value → Instr
  | none => .return_
  | some (.int _) => .ireturn
  | some (.long _) => .lreturn
  | some _ => .areturn
def gFin (cc : ByteArray) (p : Program) (l : Launch) (e : Env) (R : Room) (s : State) (m : MethodId) (args : Array Value) (below : List Frame) (meth : Method) (c : Code) (cells slots : Nat) (Q : State → Prop) (ad : Nat → Nat) (dC : Nat → ClassId) (dI : Nat → Nat → Nat) (tc : Nat → ClassId) (A : Nat → Prop) (v : Option Value) (σ : gS) : Prop :=
  ∀ (pc : Nat) (H : Heap) (locs : List Loc) (ls : Array Slot), va_P (dC, dI) vwCl (gWs ad tc σ) H → va_S A s.heap H locs → decode cc pc = .ok (gRetI v, 1) → W p l e R s m args below meth c H locs cells slots Q (F0 m pc ls (v.toList.map (gv ad)))
def gPc (ad : Nat → Nat) (dC : Nat → ClassId) (dI : Nat → Nat → Nat) (tc : Nat → ClassId) (σ : gS) (sz : Nat) (as : List Value) : Array Value → State → Prop :=
  va_Pc (as.map (gv ad)) (fun U => U.heap.size = sz ∧ va_P (dC, dI) vwCl (gWs ad tc σ) U.heap ∧ va_K (dC, dI) vwCl (gTys tc) U ∧ va_D (fun _ => True) (gWs ad tc σ) ∧ gRoH ad (va_A (gWs ad tc σ) sz) U U.heap ∧ ∀ w ∈ gNest, va_Nw w U)
def gQc (ad : Nat → Nat) (dC : Nat → ClassId) (dI : Nat → Nat → Nat) (tc : Nat → ClassId) (σ' : gS) (A1 : Nat → Prop) (v : Option Value) : Array Value → State → Outcome → State → Prop :=
  fun _ st oc t => oc = .returned (v.map (gv ad)) ∧ va_P (dC, dI) vwCl (gWs ad tc σ') t.heap ∧ va_F A1 st t
