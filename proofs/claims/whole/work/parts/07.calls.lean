theorem gNext_mono {WP WP' : gS → gF → Prop} {E : gE} {F F' : Option Value → gS → Prop} {σ : gS} {r : Option gRes} (h1 : ∀ σ f, WP σ f → WP' σ f) (h2 : ∀ v σ, F v σ → F' v σ) (h : gNext WP E F σ r) : gNext WP' E F' σ r := by
  match r, h with
  | none, h => exact h.elim
  | some (.inl (b, s1, none)), h => exact ⟨fun z => h1 _ _ (h.1 z), h.2⟩
  | some (.inl (b, s1, some s2)), h => exact ⟨fun z => h1 _ _ (h.1 z), fun z => h1 _ _ (h.2 z)⟩
  | some (.inr (.inl (mid, as, f))), h =>
    obtain ⟨v, σ', he, hw⟩ := h
    exact ⟨v, σ', he, h1 _ _ hw⟩
  | some (.inr (.inr v)), h => exact h2 _ _ h
theorem gRoH.next {ad : Nat → Nat} {A A1 : Nat → Prop} {s U : State} {H : Heap} {locs : List Loc} (h : gRoH ad A s s.heap) (hS : va_S A s.heap H locs) (hA1 : ∀ q, A1 q → A q) (hU : U.heap = H) (hW : s.vm.Alike U.vm) : gRoH ad A1 U U.heap := by
  intro j n nm xs hj
  obtain ⟨h1, h2, h3, h4⟩ := h j n nm xs hj
  subst hU
  exact ⟨(h1.kept (hS.2.1 _ h2 h3)).moved hW, Nat.lt_of_lt_of_le h2 hS.1, fun z => h3 (hA1 _ z), ((h4.kept hS.2.1).narrow hA1).moved hW⟩
theorem gRoH.same {ad : Nat → Nat} {A : Nat → Prop} {s U : State} {H : Heap} (h : gRoH ad A s H) (hW : s.vm.Alike U.vm) : gRoH ad A U H := by
  intro j n nm xs hj
  obtain ⟨h1, h2, h3, h4⟩ := h j n nm xs hj
  exact ⟨h1.moved hW, h2, h3, h4.moved hW⟩
theorem gPc.blind {ad : Nat → Nat} {dC : Nat → ClassId} {dI : Nat → Nat → Nat} {tc : Nat → ClassId} {σ : gS} {sz : Nat} {as : List Value} : FrameBlind (gPc ad dC dI tc σ sz as) := by
  intro a U g mk q
  obtain ⟨q0, q1, qP, qK, qD, qR, qN⟩ := q
  exact ⟨q0, q1, qP, va_K.moved (u := U) (U := U.calling g mk a) (Vm.Alike.refl U.vm) qK, qD, gRoH.same (s := U) (U := U.calling g mk a) qR (Vm.Alike.refl U.vm), gNest_same (s := U) (U := U.calling g mk a) rfl qN⟩
theorem gW_wsapp {pre : List Cond} {c : Cond} (h1 : ∀ w ∈ pre, w ∈ gW) (hc : c ∈ gW) : GoodIn gW (pre ++ (c :: gW)) := by
  intro w hw
  have : w ∈ gW := by
    rcases List.mem_append.mp hw with h | h
    · exact h1 w h
    · rcases List.mem_cons.mp h with h | h
      · rw [h]; exact hc
      · exact h
  exact gW_good w this
theorem gW_wscode {c : Cond} (hc : c ∈ gW) : GoodIn gW (c :: gW) := gW_wsapp (pre := []) (by simp) hc
section GCALL
variable {p : Program} {l : Launch} {e : Env} {R : Room} {s : State} {m : MethodId} {args : Array Value} {below : List Frame} {meth : Method} {c : Code} {cells slots : Nat} {Q : State → Prop} {H : Heap} {locs : List Loc} {ad : Nat → Nat} {dC : Nat → ClassId} {dI : Nat → Nat → Nat} {tc : Nat → ClassId} {A : Nat → Prop}
theorem g_after {A1 free : Nat → Prop} {pc : Nat} {ls : Array Slot} {st0 rest : List Value} {a : Array Value} {σ' : gS} {v : Option Value} (hr : va_Run p l e R s m args below meth c H locs cells slots 0 0 (F0 m pc ls st0) rest (gQc ad dC dI tc σ' A1 v a) free) (hS : va_S A s.heap H locs) (hA : ∀ q, A1 q → A q) (hf : ∀ q, free q → A q)
    (kk : ∀ (H1 : Heap) (locs1 : List Loc), va_P (dC, dI) vwCl (gWs ad tc σ') H1 → va_S A s.heap H1 locs1 → W p l e R s m args below meth c H1 locs1 cells slots Q (F0 m (pc + 3) ls ((v.map (gv ad)).toList ++ rest))) : W p l e R s m args below meth c H locs cells slots Q (F0 m pc ls st0) := by
  intro T hT X
  obtain ⟨v', st₀, t, T', L, h0, X', hL, e1, e2, ⟨hv, hp, hz, hk⟩, st⟩ := hr T hT X
  cases hv
  rw [h0] at hz hk
  obtain ⟨t2, a1, b1⟩ := kk T'.heap (locs ++ L) (by rw [e1]; exact hp)
    ⟨Nat.le_trans hS.1 (by rw [e1]; exact hz), fun q h1 h2 => by rw [e1, hk q (Nat.lt_of_lt_of_le h1 hS.1) (fun z => h2 (hA q z))]; exact hS.2.1 q h1 h2, fun q hq => by
      rcases List.mem_append.mp hq with h | h
      · exact hS.2.2 q h
      · exact hf _ (hL q h)⟩ T' rfl X'
  exact ⟨t2, st t2 a1, b1⟩
theorem g_pre {σ : gS} {as : List Value} (hP : va_P (dC, dI) vwCl (gWs ad tc σ) H) (hS : va_S A s.heap H locs) (hK : va_K (dC, dI) vwCl (gTys tc) s) (hap : gApart ad A) (hro : gRoH ad A s s.heap) (hnw : ∀ w ∈ gNest, va_Nw w s) (hA1 : ∀ q, va_A (gWs ad tc σ) H.size q → A q) : ∀ U : State, U.heap = H → s.WarmedH U.vm → gPc ad dC dI tc σ H.size as (as.map (gv ad)).toArray U :=
  fun U hU hW => ⟨rfl, by rw [hU], by rw [hU]; exact hP, va_K.moved hW.alike hK, (hap.D tc σ).weaken (fun _ _ _ _ => trivial), gRoH.next hro hS hA1 hU hW.alike, gNest_warm hW hnw⟩
theorem g_A1 {σ : gS} (hS : va_S A s.heap H locs) (hap : gApart ad A) (hA : ∀ q, s.heap.size ≤ q → A q) : ∀ q, va_A (gWs ad tc σ) H.size q → A q := by
  intro q hq
  rcases gWs_A.mp hq with ⟨i, h1, h2⟩ | h
  · rw [h2]; exact hap.2 i h1
  · exact hA q (Nat.le_trans hS.1 h)
end GCALL
theorem g_stack (ad : Nat → Nat) (st : List Value) (n : Nat) : st.map (gv ad) = (((st.take n).reverse).map (gv ad)).reverse ++ (st.drop n).map (gv ad) := by
  rw [← List.map_reverse, List.reverse_reverse, ← List.map_append, List.take_append_drop]
theorem g_toList (ad : Nat → Nat) (v : Option Value) (r : List Value) : (v.map (gv ad)).toList ++ r.map (gv ad) = (v.toList ++ r).map (gv ad) := by
  cases v <;> simp
section GCALLS
variable {own : String} {cc : ByteArray} {nL : Nat} {scr : Option (Nat × (Nat → Int32))} {pc : Nat}
theorem gs_callS {mid n idx ml : Nat} {y : MethodName} {cb : ByteArray} {rt : Option FieldType} (hd : decode cc pc = .ok (.invokestatic idx, 3)) (hm : gM mid = (y, cb, ml, rt)) (hl : Cond.methodLink own idx y ∈ gW) (hcd : Cond.code y cb ml rt ∈ gW) (hst : Cond.static y ∈ gW) (hin : Cond.initialized y.cls ∈ gW)
    (hp : y.cls ≠ "java/lang/invoke/MethodHandle" ∧ y.cls ≠ "java/lang/invoke/VarHandle" ∧ (parseMethodDescriptor y.desc).map (fun d => d.parameters.length) = some n) (hmx : ml ≤ 21) : gSnd own cc nL scr pc (sCallS mid n) := by
  intro p l e R s m args below meth c cells slots Q ad dC dI tc A d E C hE σ lv st h H locs ls hP hS hlen hlv
  obtain ⟨hx, hb, hml, hown, hts, hnw, hK, hA, hap, hro, hsc, hfr, hlo, hce, hsl⟩ := C
  simp only [sCallS] at h
  cases hq : (Nat.ble n st.length && Nat.ble (gCats (st.drop n)) 8) with
  | false => rw [hq] at h; exact h.elim
  | true =>
    rw [hq] at h
    simp only [Bool.and_eq_true] at hq
    obtain ⟨v, σ', he, hw⟩ := h
    have hn := Nat.le_of_ble_eq_true hq.1
    have hg := Nat.le_of_ble_eq_true hq.2
    have hM := hE mid _ σ v σ' he ad dC dI tc H.size
    rw [hm] at hM
    have hA1 := g_A1 (tc := tc) (σ := σ) hS hap hA
    refine g_after (va_runS (As := ((st.take n).reverse).map (gv ad)) (rest := (st.drop n).map (gv ad)) ⟨hx, hb, hml, hown, hts⟩ hM (va_cwS n hts (gW_wsapp (pre := [.methodLink own idx y, .static y, .initialized y.cls]) ?_ hcd) rfl rfl rfl hp ⟨hfr, ?_⟩) ⟨gPc.blind, g_pre hP hS hK hap hro hnw hA1⟩ rfl ?_ hlv.1 (g_stack ad st n) (lv_room ?_) hd ⟨by omega, by omega⟩) hS hA1 hA1 (fun H1 locs1 hP1 hS1 => ?_)
    · intro w hw
      simp only [List.mem_cons, List.not_mem_nil, or_false] at hw
      rcases hw with rfl | rfl | rfl
      · exact hl
      · exact hst
      · exact hin
    · show 8 + (ml + 11) + 40 * d ≤ R.locals
      omega
    · simp; omega
    · rw [gCats_gv]; exact hg
    · rw [g_toList]
      exact hw H1 locs1 ls hP1 hS1 hlen hlv
theorem gs_callSN {mid n idx ml : Nat} {y : MethodName} {cb : ByteArray} {rt : Option FieldType} {host : String} (hd : decode cc pc = .ok (.invokestatic idx, 3)) (hm : gM mid = (y, cb, ml, rt)) (hl : Cond.methodLinkNest own idx y host ∈ gNest) (hcd : Cond.code y cb ml rt ∈ gW) (hst : Cond.static y ∈ gW) (hin : Cond.initialized y.cls ∈ gW)
    (hp : y.cls ≠ "java/lang/invoke/MethodHandle" ∧ y.cls ≠ "java/lang/invoke/VarHandle" ∧ (parseMethodDescriptor y.desc).map (fun d => d.parameters.length) = some n) (hmx : ml ≤ 21) : gSnd own cc nL scr pc (sCallS mid n) := by
  intro p l e R s m args below meth c cells slots Q ad dC dI tc A d E C hE σ lv st h H locs ls hP hS hlen hlv
  obtain ⟨hx, hb, hml, hown, hts, hnw, hK, hA, hap, hro, hsc, hfr, hlo, hce, hsl⟩ := C
  simp only [sCallS] at h
  cases hq : (Nat.ble n st.length && Nat.ble (gCats (st.drop n)) 8) with
  | false => rw [hq] at h; exact h.elim
  | true =>
    rw [hq] at h
    simp only [Bool.and_eq_true] at hq
    obtain ⟨v, σ', he, hw⟩ := h
    have hn := Nat.le_of_ble_eq_true hq.1
    have hg := Nat.le_of_ble_eq_true hq.2
    have hM := hE mid _ σ v σ' he ad dC dI tc H.size
    rw [hm] at hM
    have hA1 := g_A1 (tc := tc) (σ := σ) hS hap hA
    refine g_after (va_runSN (As := ((st.take n).reverse).map (gv ad)) (rest := (st.drop n).map (gv ad)) ⟨hx, hb, hml, hown, hts⟩ hM ⟨va_cnB n hts (gW_wscode hcd) rfl rfl rfl (hnw _ hl) (hts _ hin) hp ⟨hfr, ?_⟩, hts _ hst, trivial⟩ ⟨gPc.blind, g_pre hP hS hK hap hro hnw hA1⟩ rfl ?_ hlv.1 (g_stack ad st n) (lv_room ?_) hd ⟨by omega, by omega⟩) hS hA1 hA1 (fun H1 locs1 hP1 hS1 => ?_)
    · show 8 + (ml + 11) + 40 * d ≤ R.locals
      omega
    · simp; omega
    · rw [gCats_gv]; exact hg
    · rw [g_toList]
      exact hw H1 locs1 ls hP1 hS1 hlen hlv
theorem gs_callV {mid ci n idx ml N : Nat} {y : MethodName} {cb : ByteArray} {rt : Option FieldType} {T : u_T} (hd : decode cc pc = .ok (.invokevirtual idx, 3)) (hm : gM mid = (y, cb, ml, rt)) (hc : vwCl[ci]? = some (y.cls, T, N)) (hl : Cond.methodLink own idx y ∈ gW) (hcd : Cond.code y cb ml rt ∈ gW) (hst : Cond.instanceMethod y ∈ gW) (hse : Cond.selects y.cls y y ∈ gW) (hin : Cond.initialized y.cls ∈ gW)
    (hp : y.cls ≠ "java/lang/invoke/MethodHandle" ∧ y.cls ≠ "java/lang/invoke/VarHandle" ∧ (parseMethodDescriptor y.desc).map (fun d => d.parameters.length) = some n) (hmx : ml ≤ 21) : gSnd own cc nL scr pc (sCallV mid ci n) := by
  intro p l e R s m args below meth c cells slots Q ad dC dI tc A d E C hE σ lv st h H locs ls hP hS hlen hlv
  obtain ⟨hx, hb, hml, hown, hts, hnw, hK, hA, hap, hro, hsc, hfr, hlo, hce, hsl⟩ := C
  simp only [sCallV] at h
  split at h
  next v0 r hdr =>
    cases hq : (gIsO ci v0 && Nat.ble n st.length && Nat.ble (gCats r) 8) with
    | false => rw [hq] at h; exact h.elim
    | true =>
      rw [hq] at h
      simp only [Bool.and_eq_true] at hq
      obtain ⟨v, σ', he, hw⟩ := h
      obtain ⟨⟨ho, hn0⟩, hg0⟩ := hq
      have hn := Nat.le_of_ble_eq_true hn0
      have hg := Nat.le_of_ble_eq_true hg0
      have hM := hE mid _ σ v σ' he ad dC dI tc H.size
      rw [hm] at hM
      have hA1 := g_A1 (tc := tc) (σ := σ) hS hap hA
      unfold gIsO at ho
      split at ho
      next q =>
        split at ho
        next cj ks hs =>
          have hcc := Nat.eq_of_beq_eq_true ho
          subst hcc
          refine g_after (va_runV (C := y.cls) (b := ad q) (As := ((st.take n).reverse).map (gv ad)) (rest := r.map (gv ad)) ⟨hx, hb, hml, hown, hts⟩ hM (cwV n hts (gW_wsapp (pre := [.methodLink own idx y, .instanceMethod y, .selects y.cls y y, .initialized y.cls]) ?_ hcd) rfl rfl rfl ⟨rfl, hp⟩ ⟨hfr, ?_⟩) ⟨gPc.blind, va_recv hK hP hc (gShape_obj hs), g_pre (as := .ref q :: (st.take n).reverse) hP hS hK hap hro hnw hA1⟩ rfl ?_ hlv.1 ?_ (lv_room ?_) hd ⟨by omega, by omega⟩) hS hA1 hA1 (fun H1 locs1 hP1 hS1 => ?_)
          · intro w hw
            simp only [List.mem_cons, List.not_mem_nil, or_false] at hw
            rcases hw with rfl | rfl | rfl | rfl
            · exact hl
            · exact hst
            · exact hse
            · exact hin
          · show 8 + (ml + 11) + 40 * d ≤ R.locals
            omega
          · simp; omega
          · show st.map (gv ad) = _
            rw [g_stack ad st n, hdr]; rfl
          · rw [gCats_gv]; exact hg
          · rw [g_toList]
            exact hw H1 locs1 ls hP1 hS1 hlen hlv
        next => cases ho
      next => cases ho
  next => exact h.elim
end GCALLS
-- a run of the pure machine is one of the machine
section GRUN
variable {p : Program} {l : Launch} {e : Env} {R : Room} {s : State} {m : MethodId} {args : Array Value} {below : List Frame} {meth : Method} {c : Code} {cells slots : Nat} {Q : State → Prop} {ad : Nat → Nat} {dC : Nat → ClassId} {dI : Nat → Nat → Nat} {tc : Nat → ClassId} {A : Nat → Prop} {own : String} {cc : ByteArray} {nL d : Nat} {scr : Option (Nat × (Nat → Int32))} {E : gE} {P : gProg} {Fin : Option Value → gS → Prop}
theorem gRun_sound (C : gCtx own cc nL scr p R s m args c cells slots ad dC dI tc A d) (hE : gCallOK l d E) (hP : ∀ pc sem, gFind P pc = some sem → gSnd own cc nL scr pc sem) (hF : ∀ v τ, Fin v τ → gFin cc p l e R s m args below meth c cells slots Q ad dC dI tc A v τ) : ∀ (n : Nat) (σ : gS) (f : gF), gRn P E Fin n σ f → gWP p l e R s m args below meth c cells slots Q ad dC dI tc A nL σ f := by
  intro n
  induction n with
  | zero => intro σ f h; exact h.elim
  | succ n ih =>
    intro σ f h
    obtain ⟨pc, lv, st⟩ := f
    rcases h with ⟨lv', h1, h2⟩ | h
    · have hw := ih _ _ h2
      intro H locs ls hP1 hS hlen hlv
      obtain ⟨hl1, hl2⟩ := gLe_at h1
      refine hw H locs ls hP1 hS (hl1.trans hlen) ⟨hlv.1, hlv.2.1, fun q hq => hlv.2.2 q ?_⟩
      obtain ⟨j, v, a1, a2⟩ := (gAs_mem ad lv' 0 q).mp hq
      exact (gAs_mem ad lv 0 q).mpr ⟨j, v, hl2 j v a1, a2⟩
    · simp only [gStep] at h
      split at h
      next sem hs => exact hP pc sem hs p l e R s m args below meth c cells slots Q ad dC dI tc A d E C hE σ lv st (gNext_mono ih hF h)
      next => exact h.elim
end GRUN
def gRetOk : Option FieldType → Option Value → Prop
  | none, none => True
  | some .int, some (.int _) => True
  | some .boolean, some (.int x) => x = 0 ∨ x = 1
  | some .long, some (.long _) => True
  | some (.object _), some (.ref _) => True
  | _, _ => False
def gEnt : List Value → gL
  | [] => []
  | v :: l => if v.category = 2 then some v :: none :: gEnt l else some v :: gEnt l
def gEntry (nL : Nat) (as : List Value) : gL := gEnt as ++ List.replicate (nL - (gEnt as).length) none
theorem gEnt_len (ad : Nat → Nat) : ∀ as : List Value, (lg_sl (as.map (gv ad))).length = (gEnt as).length
  | [] => rfl
  | v :: l => by
    have ih := gEnt_len ad l
    simp only [lg_sl] at ih
    simp only [List.map_cons, lg_sl, List.flatMap_cons, List.length_append, gv_cat, gEnt, ih]
    split <;> simp <;> omega
theorem gAs_none (ad : Nat → Nat) (n : Nat) : ∀ k : Nat, gAs ad k (List.replicate n none) = [] := by
  induction n with
  | zero => intro k; rfl
  | succ n ih => intro k; exact ih (k + 1)
theorem gAs_ent (ad : Nat → Nat) (n : Nat) : ∀ (as : List Value) (k : Nat), gAs ad k (gEnt as ++ List.replicate n none) = lv_args k (as.map (gv ad))
  | [], k => gAs_none ad n k
  | v :: l, k => by
    simp only [gEnt, List.map_cons, lv_args, gv_cat]
    split
    next => simp only [List.cons_append, gAs]; rw [gAs_ent ad n l (k + 2)]
    next => simp only [List.cons_append, gAs]; rw [gAs_ent ad n l (k + 1)]
/-- a call of method mid, at most d deep -/
def gEV (PT : Nat → gProg) : Nat → gE
  | 0 => fun _ _ _ _ _ => False
  | d + 1 => fun mid as σ v σ' => mid < gMs.length ∧ gRetOk (gM mid).2.2.2 v ∧ (gEnt as).length ≤ (gM mid).2.2.1 ∧ gR (PT mid) (gEV PT d) (fun w τ => w = v ∧ τ = σ') σ (0, gEntry (gM mid).2.2.1 as, [])
def gProgOK (PT : Nat → gProg) : Prop := ∀ mid, mid < gMs.length → ∀ pc sem, gFind (PT mid) pc = some sem → gSnd (gM mid).1.cls (gM mid).2.1 (gM mid).2.2.1 none pc sem
theorem gPlain : ∀ x ∈ gMs, plainName x.1.cls = true := by decide +kernel
theorem gPlain_at {mid : Nat} (h : mid < gMs.length) : plainName (gM mid).1.cls = true := by
  apply gPlain
  unfold gM
  rw [gAt_eq, List.getElem?_eq_getElem h]
  exact List.getElem_mem h
theorem gEV_sound {PT : Nat → gProg} (hPT : gProgOK PT) (l : Launch) : ∀ d, gCallOK l d (gEV PT d)
  | 0 => fun _ _ _ _ _ h => h.elim
  | d + 1 => by
    have hE := gEV_sound hPT l d
    intro mid as σ v σ' h ad dC dI tc sz
    obtain ⟨hmid, hrt, hen, n, hrun⟩ := h
    have hpl := gPlain_at hmid
    have hprog := hPT mid hmid
    revert hrt hen hrun hpl hprog
    obtain ⟨y, cb, ml, rt⟩ := gM mid
    intro hrt hen hrun hpl hprog
    refine Met.ofW (cc := cb) (maxL := ml) (ret := rt) hpl rfl ?_
    intro p e s m args below meth c s₁ B hml hv
    obtain ⟨rfl, hsz, hP, hK, hD0, hro, hnw⟩ := hv
    have hx := B.exec
    have hb := B.bytes
    have hr := B.returns
    have hts := atoms_spec (ws := Cond.code y cb ml rt :: gW) B.pre
    have hown : s.vm.findClass y.cls = some m.cls := findClass_of_methodNamed B.named
    have hlocks := B.notSynchronized
    subst hsz
    have hap : gApart ad (va_A (gWs ad tc σ) s.heap.size) := gApart.of (hD0.self (sz := s.heap.size))
    generalize hAe : va_A (gWs ad tc σ) s.heap.size = A at hap hro ⊢
    have hA : ∀ q : Nat, s.heap.size ≤ q → A q := fun q h => by rw [← hAe]; exact Or.inr h
    have hS : va_S A s.heap s.heap [] := va_S.rf
    have C : gCtx y.cls cb ml none p ({ frames := d + 1, cells := 0, slots := 0, locals := 40 * (d + 1) } : Room) s m (as.map (gv ad)).toArray c 0 0 ad dC dI tc A d :=
      ⟨hx, hb, hml, hown, fun w hw => hts w (List.mem_cons_of_mem _ hw), hnw, hK, hA, hap, hro, trivial, Nat.le_refl _, Nat.le_refl _, Nat.le_refl _, Nat.le_refl _⟩
    have key := gRun_sound (Q := MQ below (gQc ad dC dI tc σ' A v) (as.map (gv ad)).toArray s 0 0 A) (e := e) (below := below) (meth := meth) C hE hprog (Fin := fun w τ => w = v ∧ τ = σ') ?_ n σ _ hrun
    · have hl := lv_entry (as.map (gv ad)) (n := ml) (by rw [gEnt_len]; exact hen)
      rw [lg_entry_eq]
      refine key s.heap [] _ hP hS ?_ ?_
      · have hen' : (gEnt as).length ≤ ml := hen
        simp [gEntry]; omega
      · show lv_has _ ml (gAs ad 0 (gEnt as ++ List.replicate (ml - (gEnt as).length) none))
        rw [gAs_ent]
        exact hl
    · rintro w τ ⟨rfl, rfl⟩ pc H locs ls hP1 hS1 hd
      match rt, w, hrt with
      | none, none, _ => exact W.vret hx hb hr (fun t ht hW => ⟨rfl, by rw [ht]; exact hP1, hS1.F ht⟩) hS1.2.2 hd
      | some .int, some (.int z), _ => exact W.iret (v := z) hx hb hr (fun t ht hW => ⟨rfl, by rw [ht]; exact hP1, hS1.F ht⟩) hS1.2.2 hd
      | some .boolean, some (.int z), hz => exact W.zret (v := z) (ty := .boolean) hx hb hr (by rcases hz with rfl | rfl <;> rfl) (fun t ht hW => ⟨rfl, by rw [ht]; exact hP1, hS1.F ht⟩) hS1.2.2 hd
      | some .long, some (.long z), _ => exact W.lret (v := z) hx hb hr (fun t ht hW => ⟨rfl, by rw [ht]; exact hP1, hS1.F ht⟩) hS1.2.2 hd
      | some (.object nm), some (.ref z), _ => exact W.aret (v := .ref (ad z)) (rt := .object nm) hx hb hr (Or.inl ⟨nm, rfl⟩) (Or.inr ⟨_, rfl⟩) (fun t ht hW => ⟨rfl, by rw [ht]; exact hP1, hS1.F ht⟩) hS1.2.2 hd
