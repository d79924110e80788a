theorem gShape_obj {ad : Nat → Nat} {tc : Nat → ClassId} {σ : gS} {q ci : Nat} {ks : List (Option Nat)} (h : gShape q = some (.inl (ci, ks))) : (gWs ad tc σ)[q]? = some (ad q, .inr (ci, gFs ad (σ q) 0 ks)) := by
  rw [gWs_at (gShape_lt h), gCell, h]
theorem gShape_arr {ad : Nat → Nat} {tc : Nat → ClassId} {σ : gS} {q t n : Nat} (h : gShape q = some (.inr (.inl (t, n)))) : (gWs ad tc σ)[q]? = some (ad q, .inl (tc t, n, .inl (σ q))) := by
  rw [gWs_at (gShape_lt h), gCell, h]
theorem gShape_refs {ad : Nat → Nat} {tc : Nat → ClassId} {σ : gS} {q t n : Nat} {f : Nat → Option Nat} (h : gShape q = some (.inr (.inr (t, n, f)))) : (gWs ad tc σ)[q]? = some (ad q, .inl (tc t, n, .inr (.inr (.inr (.inr (fun j => (f j).map ad)))))) := by
  rw [gWs_at (gShape_lt h), gCell, h]
theorem gUp_ne {σ : gS} {q k : Nat} {v : Int32} {i : Nat} (h : i ≠ q) : gUp σ q k v i = σ i := by
  simp [gUp, h]
theorem gUp_eq {σ : gS} {q k : Nat} {v : Int32} : gUp σ q k v q = upd (σ q) k v := by
  simp [gUp]
theorem gUpA_ne {σ : gS} {q : Nat} {f : Nat → Int32} {i : Nat} (h : i ≠ q) : gUpA σ q f i = σ i := by
  simp [gUpA, h]
theorem gUpA_eq {σ : gS} {q : Nat} {f : Nat → Int32} : gUpA σ q f q = f := by
  simp [gUpA]
theorem gWs_put {ad : Nat → Nat} {tc : Nat → ClassId} {σ : gS} {q ci k : Nat} {ks : List (Option Nat)} {v : Int32} (h : gShape q = some (.inl (ci, ks))) (hk : ks[k]? = some none) : (gWs ad tc σ).set q (ad q, .inr (ci, (gFs ad (σ q) 0 ks).set k (.int v))) = gWs ad tc (gUp σ q k v) := by
  refine gWs_set (gShape_lt h) ?_ (fun i hi => gUp_ne hi)
  rw [gCell, h]
  show Sum.inr (ci, gFs ad (gUp σ q k v q) 0 ks) = _
  rw [gUp_eq, gFs_set ad (σ q) v ks 0 k hk, Nat.zero_add]
theorem gWs_ast {ad : Nat → Nat} {tc : Nat → ClassId} {σ : gS} {q t n : Nat} {f : Nat → Int32} (h : gShape q = some (.inr (.inl (t, n)))) : (gWs ad tc σ).set q (ad q, .inl (tc t, n, .inl f)) = gWs ad tc (gUpA σ q f) := by
  refine gWs_set (gShape_lt h) ?_ (fun i hi => gUpA_ne hi)
  rw [gCell, h]
  show Sum.inl (tc t, n, Sum.inl (gUpA σ q f q)) = _
  rw [gUpA_eq]
theorem gUp_A (σ : gS) (q k : Nat) (v : Int32) : gUp σ q k v = gUpA σ q (upd (σ q) k v) := rfl
theorem gPD_I : parseFieldDescriptor "I" = some .int := by decide +kernel
theorem gPD_Z : parseFieldDescriptor "Z" = some .boolean := by decide +kernel
section GHEAP
variable {own : String} {cc : ByteArray} {nL : Nat} {scr : Option (Nat × (Nat → Int32))} {pc : Nat}
theorem gs_get {ci k idx N : Nat} {Cn nm ds : String} {T : u_T} (hd : decode cc pc = .ok (.getfield idx, 3)) (hc : vwCl[ci]? = some (Cn, T, N)) (hk : k < N) (hin : ∀ w ∈ u_ws Cn T N, w ∈ gW) (hT : T k = (Cn, nm, ds, (T k).2.2.2)) (hl : Cond.fieldLink own idx Cn nm ds ∈ gW) : gSnd own cc nL scr pc (sGet ci k) := by
  intro p l e R s m args below meth c cells slots Q ad dC dI tc A d E C hE σ lv st h H locs ls hP hS hlen hlv
  obtain ⟨hx, hb, hml, hown, hts, hnw, hK, hA, hap, hro, hsc, hfr, hlo, hce, hsl⟩ := C
  have h1 : (T k).1 = Cn := by rw [hT]
  have h2 : (T k).2.1 = nm := by rw [hT]
  have h3 : (T k).2.2.1 = ds := by rw [hT]
  have hlk : (Cond.fieldLink own idx Cn (T k).2.1 (T k).2.2.1).before args s = true := by rw [h2, h3]; exact hts _ hl
  have hsm : ∀ x, s.fieldFound? (T k).1 (T k).2.1 (T k).2.2.1 = some x → s.fieldFound? Cn (T k).2.1 (T k).2.2.1 = some x := fun x hx => by rw [h1] at hx; exact hx
  simp only [sGet] at h
  split at h
  next q r =>
    split at h
    next cj ks hs =>
      cases hq : Nat.beq ci cj with
      | false => rw [hq] at h; exact h.elim
      | true =>
        rw [hq] at h
        have hcc := Nat.eq_of_beq_eq_true hq
        subst hcc
        have he : (gWs ad tc σ)[q]? = some (ad q, .inr (ci, gFs ad (σ q) 0 ks)) := gShape_obj hs
        simp only [cond_true] at h
        split at h
        next t ht => exact va_get hx hb hts hin hown hK hP q he hc k hk hlk hsm (gFs_ref ad (σ q) ks 0 k t (by rw [← gAt_eq]; exact ht)) hd (h.1 rfl H locs ls hP hS hlen hlv)
        next ht => exact va_get hx hb hts hin hown hK hP q he hc k hk hlk hsm (by have := gFs_int ad (σ q) ks 0 k (by rw [← gAt_eq]; exact ht); rwa [Nat.zero_add] at this) hd (h.1 rfl H locs ls hP hS hlen hlv)
        next => exact h.elim
    next => exact h.elim
  next => exact h.elim
theorem gs_getN {ci k idx N : Nat} {Cn nm ds host : String} {T : u_T} (hd : decode cc pc = .ok (.getfield idx, 3)) (hc : vwCl[ci]? = some (Cn, T, N)) (hk : k < N) (hin : ∀ w ∈ u_ws Cn T N, w ∈ gW) (hT : T k = (Cn, nm, ds, (T k).2.2.2)) (hl : Cond.fieldLinkNest own idx Cn nm ds host ∈ gNest) : gSnd own cc nL scr pc (sGet ci k) := by
  intro p l e R s m args below meth c cells slots Q ad dC dI tc A d E C hE σ lv st h H locs ls hP hS hlen hlv
  obtain ⟨hx, hb, hml, hown, hts, hnw, hK, hA, hap, hro, hsc, hfr, hlo, hce, hsl⟩ := C
  have h1 : (T k).1 = Cn := by rw [hT]
  have h2 : (T k).2.1 = nm := by rw [hT]
  have h3 : (T k).2.2.1 = ds := by rw [hT]
  have hlk : (Cond.fieldLinkNest own idx Cn (T k).2.1 (T k).2.2.1 host).before args s = true := by rw [h2, h3]; exact gNest_use (hnw _ hl) rfl
  have hsm : ∀ x, s.fieldFound? (T k).1 (T k).2.1 (T k).2.2.1 = some x → s.fieldFound? Cn (T k).2.1 (T k).2.2.1 = some x := fun x hx => by rw [h1] at hx; exact hx
  simp only [sGet] at h
  split at h
  next q r =>
    split at h
    next cj ks hs =>
      cases hq : Nat.beq ci cj with
      | false => rw [hq] at h; exact h.elim
      | true =>
        rw [hq] at h
        have hcc := Nat.eq_of_beq_eq_true hq
        subst hcc
        have he : (gWs ad tc σ)[q]? = some (ad q, .inr (ci, gFs ad (σ q) 0 ks)) := gShape_obj hs
        simp only [cond_true] at h
        split at h
        next t ht => exact va_getN hx hb hts hin hown hK hP q he hc k hk hlk hsm (gFs_ref ad (σ q) ks 0 k t (by rw [← gAt_eq]; exact ht)) hd (h.1 rfl H locs ls hP hS hlen hlv)
        next ht => exact va_getN hx hb hts hin hown hK hP q he hc k hk hlk hsm (by have := gFs_int ad (σ q) ks 0 k (by rw [← gAt_eq]; exact ht); rwa [Nat.zero_add] at this) hd (h.1 rfl H locs ls hP hS hlen hlv)
        next => exact h.elim
    next => exact h.elim
  next => exact h.elim
theorem gs_put {ci k idx N : Nat} {Cn nm : String} {T : u_T} {ty0 : Nat → FieldType} (hd : decode cc pc = .ok (.putfield idx, 3)) (hc : vwCl[ci]? = some (Cn, T, N)) (hk : k < N) (hin : ∀ w ∈ u_ws Cn T N, w ∈ gW) (hty : ∀ k, k < N → parseFieldDescriptor (T k).2.2.1 = some (ty0 k)) (hnm : ∀ a, a < N → ∀ b, b < N → a ≠ b → (T a).2.1 ≠ (T b).2.1) (hT : T k = (Cn, nm, "I", false)) (hl : Cond.fieldLink own idx Cn nm "I" ∈ gW) : gSnd own cc nL scr pc (sPut ci k) := by
  intro p l e R s m args below meth c cells slots Q ad dC dI tc A d E C hE σ lv st h H locs ls hP hS hlen hlv
  obtain ⟨hx, hb, hml, hown, hts, hnw, hK, hA, hap, hro, hsc, hfr, hlo, hce, hsl⟩ := C
  have hlk : (Cond.fieldLink own idx Cn (T k).2.1 (T k).2.2.1).before args s = true := by rw [hT]; exact hts _ hl
  have hsm : ∀ x, s.fieldFound? (T k).1 (T k).2.1 (T k).2.2.1 = some x → s.fieldFound? Cn (T k).2.1 (T k).2.2.1 = some x := fun x hx => by rw [hT] at hx ⊢; exact hx
  simp only [sPut] at h
  split at h
  next v q r =>
    split at h
    next cj ks hs =>
      cases hq : Nat.beq ci cj with
      | false => rw [hq] at h; exact h.elim
      | true =>
        rw [hq] at h
        have hcc := Nat.eq_of_beq_eq_true hq
        subst hcc
        have he : (gWs ad tc σ)[q]? = some (ad q, .inr (ci, gFs ad (σ q) 0 ks)) := gShape_obj hs
        simp only [cond_true] at h
        split at h
        next ht =>
          rw [gAt_eq] at ht
          refine va_put (ty := .int) (v := .int v) hx hb hts hin ty0 hty hnm hown hK hP (hap.D tc σ) hS q he hc k hk hlk hsm (by rw [hT]) (by rw [hT]; exact gPD_I) rfl rfl (by rw [gFs_len]; exact (List.getElem?_eq_some_iff.mp ht).1) hd (fun H1 locs1 hP1 _ hS1 => ?_)
          rw [gWs_put hs ht] at hP1
          exact h.1 rfl H1 locs1 ls hP1 hS1 hlen hlv
        next => exact h.elim
    next => exact h.elim
  next => exact h.elim
theorem gs_putN {ci k idx N : Nat} {Cn nm host : String} {T : u_T} {ty0 : Nat → FieldType} (hd : decode cc pc = .ok (.putfield idx, 3)) (hc : vwCl[ci]? = some (Cn, T, N)) (hk : k < N) (hin : ∀ w ∈ u_ws Cn T N, w ∈ gW) (hty : ∀ k, k < N → parseFieldDescriptor (T k).2.2.1 = some (ty0 k)) (hnm : ∀ a, a < N → ∀ b, b < N → a ≠ b → (T a).2.1 ≠ (T b).2.1) (hT : T k = (Cn, nm, "I", false)) (hl : Cond.fieldLinkNest own idx Cn nm "I" host ∈ gNest) : gSnd own cc nL scr pc (sPut ci k) := by
  intro p l e R s m args below meth c cells slots Q ad dC dI tc A d E C hE σ lv st h H locs ls hP hS hlen hlv
  obtain ⟨hx, hb, hml, hown, hts, hnw, hK, hA, hap, hro, hsc, hfr, hlo, hce, hsl⟩ := C
  have hlk : (Cond.fieldLinkNest own idx Cn (T k).2.1 (T k).2.2.1 host).before args s = true := by rw [hT]; exact gNest_use (hnw _ hl) rfl
  have hsm : ∀ x, s.fieldFound? (T k).1 (T k).2.1 (T k).2.2.1 = some x → s.fieldFound? Cn (T k).2.1 (T k).2.2.1 = some x := fun x hx => by rw [hT] at hx ⊢; exact hx
  simp only [sPut] at h
  split at h
  next v q r =>
    split at h
    next cj ks hs =>
      cases hq : Nat.beq ci cj with
      | false => rw [hq] at h; exact h.elim
      | true =>
        rw [hq] at h
        have hcc := Nat.eq_of_beq_eq_true hq
        subst hcc
        have he : (gWs ad tc σ)[q]? = some (ad q, .inr (ci, gFs ad (σ q) 0 ks)) := gShape_obj hs
        simp only [cond_true] at h
        split at h
        next ht =>
          rw [gAt_eq] at ht
          refine va_putN (ty := .int) (v := .int v) hx hb hts hin ty0 hty hnm hown hK hP (hap.D tc σ) hS q he hc k hk hlk hsm (by rw [hT]) (by rw [hT]; exact gPD_I) rfl rfl (by rw [gFs_len]; exact (List.getElem?_eq_some_iff.mp ht).1) hd (fun H1 locs1 hP1 _ hS1 => ?_)
          rw [gWs_put hs ht] at hP1
          exact h.1 rfl H1 locs1 ls hP1 hS1 hlen hlv
        next => exact h.elim
    next => exact h.elim
  next => exact h.elim
theorem gs_putZ {ci k idx N : Nat} {Cn nm : String} {T : u_T} {ty0 : Nat → FieldType} (hd : decode cc pc = .ok (.putfield idx, 3)) (hc : vwCl[ci]? = some (Cn, T, N)) (hk : k < N) (hin : ∀ w ∈ u_ws Cn T N, w ∈ gW) (hty : ∀ k, k < N → parseFieldDescriptor (T k).2.2.1 = some (ty0 k)) (hnm : ∀ a, a < N → ∀ b, b < N → a ≠ b → (T a).2.1 ≠ (T b).2.1) (hT : T k = (Cn, nm, "Z", false)) (hl : Cond.fieldLink own idx Cn nm "Z" ∈ gW) : gSnd own cc nL scr pc (sPutZ ci k) := by
  intro p l e R s m args below meth c cells slots Q ad dC dI tc A d E C hE σ lv st h H locs ls hP hS hlen hlv
  obtain ⟨hx, hb, hml, hown, hts, hnw, hK, hA, hap, hro, hsc, hfr, hlo, hce, hsl⟩ := C
  have hlk : (Cond.fieldLink own idx Cn (T k).2.1 (T k).2.2.1).before args s = true := by rw [hT]; exact hts _ hl
  have hsm : ∀ x, s.fieldFound? (T k).1 (T k).2.1 (T k).2.2.1 = some x → s.fieldFound? Cn (T k).2.1 (T k).2.2.1 = some x := fun x hx => by rw [hT] at hx ⊢; exact hx
  simp only [sPutZ] at h
  split at h
  next v q r =>
    split at h
    next cj ks hs =>
      cases hq : Nat.beq ci cj with
      | false => rw [hq] at h; exact h.elim
      | true =>
        rw [hq] at h
        have hcc := Nat.eq_of_beq_eq_true hq
        subst hcc
        have he : (gWs ad tc σ)[q]? = some (ad q, .inr (ci, gFs ad (σ q) 0 ks)) := gShape_obj hs
        simp only [cond_true] at h
        split at h
        next ht =>
          rw [gAt_eq] at ht
          cases hz : (decide (v = 0) || decide (v = 1)) with
          | false => rw [hz] at h; exact (h.2 rfl).elim
          | true =>
            rw [hz] at h
            have hv : v = 0 ∨ v = 1 := by simpa using hz
            refine va_put (ty := .boolean) (v := .int v) hx hb hts hin ty0 hty hnm hown hK hP (hap.D tc σ) hS q he hc k hk hlk hsm (by rw [hT]) (by rw [hT]; exact gPD_Z) (by rcases hv with rfl | rfl <;> rfl) (by rcases hv with rfl | rfl <;> rfl) (by rw [gFs_len]; exact (List.getElem?_eq_some_iff.mp ht).1) hd (fun H1 locs1 hP1 _ hS1 => ?_)
            rw [gWs_put hs ht] at hP1
            exact h.1 rfl H1 locs1 ls hP1 hS1 hlen hlv
        next => exact h.elim
    next => exact h.elim
  next => exact h.elim
theorem gs_ro {j n idx : Nat} {nm : String} {xs : List Int32} (hd : decode cc pc = .ok (.getstatic idx, 3)) (hj : gAt gRoL j = some (n, nm, xs)) (hl : Cond.fieldLink own idx "GorseGold" nm "[I" ∈ gW) : gSnd own cc nL scr pc (sRo (1000 + j)) := by
  intro p l e R s m args below meth c cells slots Q ad dC dI tc A d E C hE σ lv st h H locs ls hP hS hlen hlv
  obtain ⟨hx, hb, hml, hown, hts, hnw, hK, hA, hap, hro, hsc, hfr, hlo, hce, hsl⟩ := C
  obtain ⟨-, -, -, hZ⟩ := hro j n nm xs hj
  exact va_gets hx hb hZ hS hown (hts _ hl) (fun _ h => h) hd (h.1 rfl H locs ls hP hS hlen hlv)
theorem gs_roN {j n idx : Nat} {nm host : String} {xs : List Int32} (hd : decode cc pc = .ok (.getstatic idx, 3)) (hj : gAt gRoL j = some (n, nm, xs)) (hl : Cond.fieldLinkNest own idx "GorseGold" nm "[I" host ∈ gNest) : gSnd own cc nL scr pc (sRo (1000 + j)) := by
  intro p l e R s m args below meth c cells slots Q ad dC dI tc A d E C hE σ lv st h H locs ls hP hS hlen hlv
  obtain ⟨hx, hb, hml, hown, hts, hnw, hK, hA, hap, hro, hsc, hfr, hlo, hce, hsl⟩ := C
  obtain ⟨-, -, -, hZ⟩ := hro j n nm xs hj
  exact va_getsN hx hb hZ hS hown (gNest_use (hnw _ hl) rfl) (fun _ h => h) hd (h.1 rfl H locs ls hP hS hlen hlv)
theorem gRo_at {q n : Nat} {nm : String} {xs : List Int32} (h : gRo q = some (n, nm, xs)) : ∃ j, q = 1000 + j ∧ gAt gRoL j = some (n, nm, xs) := by
  unfold gRo at h
  cases hq : Nat.ble 1000 q with
  | false => rw [hq] at h; cases h
  | true =>
    rw [hq] at h
    simp only [cond_true] at h
    exact ⟨q - 1000, (Nat.add_sub_cancel' (Nat.le_of_ble_eq_true hq)).symm, h⟩
theorem gs_iaload (hd : decode cc pc = .ok (.iaload, 1)) : gSnd own cc nL scr pc sIald := by
  intro p l e R s m args below meth c cells slots Q ad dC dI tc A d E C hE σ lv st h H locs ls hP hS hlen hlv
  obtain ⟨hx, hb, hml, hown, hts, hnw, hK, hA, hap, hro, hsc, hfr, hlo, hce, hsl⟩ := C
  simp only [sIald] at h
  split at h
  next i q r =>
    split at h
    next n hs =>
      cases hi : gIn i n with
      | false => rw [hi] at h; exact (h.2 rfl).elim
      | true => rw [hi] at h; exact va_iald hx hb hK hP q 0 (gShape_arr hs) rfl (gIn_in hi) hd (h.1 rfl H locs ls hP hS hlen hlv)
    next hs =>
      split at h
      next n nm xs hr =>
        cases hi : gIn i n with
        | false => rw [hi] at h; exact (h.2 rfl).elim
        | true =>
          rw [hi] at h
          obtain ⟨j, rfl, hj⟩ := gRo_at hr
          obtain ⟨hX, hbl, hbA, -⟩ := hro j n nm xs hj
          exact va_sld hx hb hX hbl hbA hS (gIn_in hi) hd (h.1 rfl H locs ls hP hS hlen hlv)
      next => exact h.elim
    next => exact h.elim
  next => exact h.elim
theorem gs_zaload (hd : decode cc pc = .ok (.baload, 1)) : gSnd own cc nL scr pc sZald := by
  intro p l e R s m args below meth c cells slots Q ad dC dI tc A d E C hE σ lv st h H locs ls hP hS hlen hlv
  obtain ⟨hx, hb, hml, hown, hts, hnw, hK, hA, hap, hro, hsc, hfr, hlo, hce, hsl⟩ := C
  simp only [sZald] at h
  split at h
  next i q r =>
    split at h
    next n hs =>
      cases hi : gIn i n with
      | false => rw [hi] at h; exact (h.2 rfl).elim
      | true => rw [hi] at h; exact va_zald hx hb hK hP q 1 (gShape_arr hs) rfl (gIn_in hi) hd (h.1 rfl H locs ls hP hS hlen hlv)
    next => exact h.elim
  next => exact h.elim
/-- an array of references is the courses' or the sheets' -/
theorem gShape_rt {q t n : Nat} {f : Nat → Option Nat} (h : gShape q = some (.inr (.inr (t, n, f)))) : t = 2 ∨ t = 3 := by
  have key : ∀ x ∈ gShapes, (match x with | .inr (.inr (t, _, _)) => t = 2 ∨ t = 3 | _ => True) := by
    simp [gShapes, gCourse, gSheet, gInts]
  rw [gShape, gAt_eq] at h
  exact key _ (List.mem_of_getElem? h)
theorem gs_aaload (hd : decode cc pc = .ok (.aaload, 1)) : gSnd own cc nL scr pc sAald := by
  intro p l e R s m args below meth c cells slots Q ad dC dI tc A d E C hE σ lv st h H locs ls hP hS hlen hlv
  obtain ⟨hx, hb, hml, hown, hts, hnw, hK, hA, hap, hro, hsc, hfr, hlo, hce, hsl⟩ := C
  simp only [sAald] at h
  split at h
  next i q r =>
    split at h
    next t n f hs =>
      split at h
      next t2 hf =>
        cases hi : gIn i n with
        | false => rw [hi] at h; exact (h.2 rfl).elim
        | true =>
          rw [hi] at h
          have hk := h.1 rfl H locs ls hP hS hlen hlv
          have e : va_rf ((fun j => (f j).map ad) i.toNatClampNeg) = .ref (ad t2) := by
            show va_rf ((f i.toNatClampNeg).map ad) = _
            rw [hf]; rfl
          rcases gShape_rt hs with rfl | rfl
          · exact va_aldq hx hb hK hP q 2 (gShape_refs hs) rfl (gIn_in hi) hd (by rw [e]; exact hk)
          · exact va_aldq hx hb hK hP q 3 (gShape_refs hs) rfl (gIn_in hi) hd (by rw [e]; exact hk)
      next => exact h.elim
    next => exact h.elim
  next => exact h.elim
theorem gs_iastore (hd : decode cc pc = .ok (.iastore, 1)) : gSnd own cc nL scr pc sIast := by
  intro p l e R s m args below meth c cells slots Q ad dC dI tc A d E C hE σ lv st h H locs ls hP hS hlen hlv
  obtain ⟨hx, hb, hml, hown, hts, hnw, hK, hA, hap, hro, hsc, hfr, hlo, hce, hsl⟩ := C
  simp only [sIast] at h
  split at h
  next x i q r =>
    split at h
    next n hs =>
      cases hi : gIn i n with
      | false => rw [hi] at h; exact (h.2 rfl).elim
      | true =>
        rw [hi] at h
        refine va_iast hx hb hK hP (hap.D tc σ) hS q 0 (gShape_arr hs) rfl (gIn_in hi) hd (fun H1 locs1 hP1 _ hS1 => ?_)
        rw [gWs_ast hs] at hP1
        exact h.1 rfl H1 locs1 ls hP1 hS1 hlen hlv
    next => exact h.elim
  next => exact h.elim
theorem gs_zastore (hd : decode cc pc = .ok (.bastore, 1)) : gSnd own cc nL scr pc sZast := by
  intro p l e R s m args below meth c cells slots Q ad dC dI tc A d E C hE σ lv st h H locs ls hP hS hlen hlv
  obtain ⟨hx, hb, hml, hown, hts, hnw, hK, hA, hap, hro, hsc, hfr, hlo, hce, hsl⟩ := C
  simp only [sZast] at h
  split at h
  next x i q r =>
    split at h
    next n hs =>
      cases hi : (gIn i n && (decide (x = 0) || decide (x = 1))) with
      | false => rw [hi] at h; exact (h.2 rfl).elim
      | true =>
        rw [hi] at h
        simp only [Bool.and_eq_true, Bool.or_eq_true, decide_eq_true_eq] at hi
        refine va_zast hx hb hK hP (hap.D tc σ) hS q 1 (gShape_arr hs) rfl (gIn_in hi.1) hd (fun H1 locs1 hP1 _ hS1 => ?_)
        have e : vp_nar .boolean x = x := by rcases hi.2 with rfl | rfl <;> rfl
        rw [gWs_ast hs, e] at hP1
        exact h.1 rfl H1 locs1 ls hP1 hS1 hlen hlv
    next => exact h.elim
  next => exact h.elim
theorem gShape_at {q t n : Nat} (h : gShape q = some (.inr (.inl (t, n)))) : t = 0 ∨ t = 1 := by
  have key : ∀ x ∈ gShapes, (match x with | .inr (.inl (t, _)) => t = 0 ∨ t = 1 | _ => True) := by
    simp [gShapes, gCourse, gSheet, gInts]
  rw [gShape, gAt_eq] at h
  exact key _ (List.mem_of_getElem? h)
theorem gs_alen (hd : decode cc pc = .ok (.arraylength, 1)) : gSnd own cc nL scr pc sAlen := by
  intro p l e R s m args below meth c cells slots Q ad dC dI tc A d E C hE σ lv st h H locs ls hP hS hlen hlv
  obtain ⟨hx, hb, hml, hown, hts, hnw, hK, hA, hap, hro, hsc, hfr, hlo, hce, hsl⟩ := C
  simp only [sAlen] at h
  split at h
  next q r =>
    split at h
    next t n hs =>
      rcases gShape_at hs with rfl | rfl
      · exact va_alen hx hb hK hP q 0 (gShape_arr hs) (ty := .int) rfl rfl hd (h.1 rfl H locs ls hP hS hlen hlv)
      · exact va_alen hx hb hK hP q 1 (gShape_arr hs) (ty := .boolean) rfl rfl hd (h.1 rfl H locs ls hP hS hlen hlv)
    next hs =>
      split at h
      next n nm xs hr =>
        obtain ⟨j, rfl, hj⟩ := gRo_at hr
        obtain ⟨hX, hbl, hbA, -⟩ := hro j n nm xs hj
        exact va_slen hx hb hX hbl hbA hS hd (h.1 rfl H locs ls hP hS hlen hlv)
      next => exact h.elim
    next => exact h.elim
  next => exact h.elim
theorem gs_scrLd {L : Nat} {xs : Nat → Int32} (hs : scr = some (L, xs)) (hd : decode cc pc = .ok (.iaload, 1)) : gSnd own cc nL scr pc (sScrLd L xs) := by
  intro p l e R s m args below meth c cells slots Q ad dC dI tc A d E C hE σ lv st h H locs ls hP hS hlen hlv
  obtain ⟨hx, hb, hml, hown, hts, hnw, hK, hA, hap, hro, hsc, hfr, hlo, hce, hsl⟩ := C
  subst hs
  simp only [sScrLd] at h
  split at h
  next i q r =>
    cases hq : Nat.beq q 1007 with
    | false => rw [hq] at h; exact h.elim
    | true =>
      rw [hq] at h
      have hqq := Nat.eq_of_beq_eq_true hq
      subst hqq
      obtain ⟨hX, hbl, hbA⟩ := hsc
      cases hi : gIn i L with
      | false => rw [hi] at h; exact (h.2 rfl).elim
      | true => rw [hi] at h; exact va_sld hx hb hX hbl hbA hS (gIn_in hi) hd (h.1 rfl H locs ls hP hS hlen hlv)
  next => exact h.elim
theorem gs_scrLen {L : Nat} {xs : Nat → Int32} (hs : scr = some (L, xs)) (hd : decode cc pc = .ok (.arraylength, 1)) : gSnd own cc nL scr pc (sScrLen L) := by
  intro p l e R s m args below meth c cells slots Q ad dC dI tc A d E C hE σ lv st h H locs ls hP hS hlen hlv
  obtain ⟨hx, hb, hml, hown, hts, hnw, hK, hA, hap, hro, hsc, hfr, hlo, hce, hsl⟩ := C
  subst hs
  simp only [sScrLen] at h
  split at h
  next q r =>
    cases hq : Nat.beq q 1007 with
    | false => rw [hq] at h; exact h.elim
    | true =>
      rw [hq] at h
      have hqq := Nat.eq_of_beq_eq_true hq
      subst hqq
      obtain ⟨hX, hbl, hbA⟩ := hsc
      exact va_slen hx hb hX hbl hbA hS hd (h.1 rfl H locs ls hP hS hlen hlv)
  next => exact h.elim
theorem gCats_gv (ad : Nat → Nat) (l : List Value) : ((l.map (gv ad)).map fun v => v.category).sum = gCats l := by
  rw [gCats_eq, List.map_map]
  congr 1
  apply List.map_congr_left
  intro v _
  exact gv_cat ad v
theorem gs_copy {idx : Nat} (hd : decode cc pc = .ok (.invokestatic idx, 3)) (hl : Cond.methodLink own idx arraycopyName ∈ gW) (hn : Cond.native arraycopyName ∈ gW) (hst : Cond.static arraycopyName ∈ gW) (hi : Cond.initialized "java/lang/System" ∈ gW) : gSnd own cc nL scr pc sCopy := by
  intro p l e R s m args below meth c cells slots Q ad dC dI tc A d E C hE σ lv st h H locs ls hP hS hlen hlv
  obtain ⟨hx, hb, hml, hown, hts, hnw, hK, hA, hap, hro, hsc, hfr, hlo, hce, hsl⟩ := C
  simp only [sCopy] at h
  split at h
  next n dp b sp a r =>
    split at h
    next n0 n1 hs1 hs2 =>
      cases hq : Nat.ble (gCats r) 8 with
      | false => rw [hq] at h; exact h.elim
      | true =>
        rw [hq] at h
        simp only [cond_true] at h
        cases hi2 : (!decide (sp < 0) && !decide (dp < 0) && !decide (n < 0) && decide (sp.toNatClampNeg + n.toNatClampNeg ≤ n0) && decide (dp.toNatClampNeg + n.toNatClampNeg ≤ n1)) with
        | false => rw [hi2] at h; exact (h.2 rfl).elim
        | true =>
          rw [hi2] at h
          simp only [Bool.and_eq_true, Bool.not_eq_true', decide_eq_false_iff_not, decide_eq_true_eq] at hi2
          obtain ⟨⟨⟨⟨h1, h2⟩, h3⟩, h4⟩, h5⟩ := hi2
          have hg := Nat.le_of_ble_eq_true hq
          refine va_copyi hx hb (by rw [hml]; exact hlv.1.symm) hown (hts _ hl) (hts _ hn) (hts _ hst) (hts _ hi) hK hP (hap.D tc σ) hS a b 0 0 (ty := .int) (gShape_arr hs1) (gShape_arr hs2) rfl rfl rfl h1 h2 h3 h4 h5 (fun _ _ => rfl) (by omega) ?_ hd (fun H1 locs1 hP1 _ hS1 => ?_)
          · rw [gCats_gv]
            have : nativeFrameWords "java/lang/System" "arraycopy" 5 ≤ 21 := by decide +kernel
            omega
          · rw [gWs_ast hs2] at hP1
            exact h.1 rfl H1 locs1 ls hP1 hS1 hlen hlv
    next => exact h.elim
  next => exact h.elim
theorem gs_mmax {idx : Nat} (hd : decode cc pc = .ok (.invokestatic idx, 3)) (hl : Cond.methodLink own idx Lib.Math.max.name ∈ gW) (hst : Cond.static Lib.Math.max.name ∈ gW) (hi : Cond.initialized "java/lang/Math" ∈ gW) (hcd : Cond.code Lib.Math.max.name Lib.Math.max.code 2 (some .int) ∈ gW) : gSnd own cc nL scr pc (sMM (fun x y => if x < y then y else x)) := by
  intro p l e R s m args below meth c cells slots Q ad dC dI tc A d E C hE σ lv st h H locs ls hP hS hlen hlv
  obtain ⟨hx, hb, hml, hown, hts, hnw, hK, hA, hap, hro, hsc, hfr, hlo, hce, hsl⟩ := C
  simp only [sMM] at h
  split at h
  next y x r =>
    cases hq : Nat.ble (gCats r) 8 with
    | false => rw [hq] at h; exact h.elim
    | true =>
      rw [hq] at h
      have hg := Nat.le_of_ble_eq_true hq
      exact va_mmax hx hb (by rw [hml]; exact hlv.1.symm) hown (hts _ hl) (hts _ hst) (hts _ hi) (hts _ hcd) (by omega) (by rw [gCats_gv]; omega) hce hsl hd (h.1 rfl H locs ls hP hS hlen hlv)
  next => exact h.elim
theorem gs_mmin {idx : Nat} (hd : decode cc pc = .ok (.invokestatic idx, 3)) (hl : Cond.methodLink own idx Lib.Math.min.name ∈ gW) (hst : Cond.static Lib.Math.min.name ∈ gW) (hi : Cond.initialized "java/lang/Math" ∈ gW) (hcd : Cond.code Lib.Math.min.name Lib.Math.min.code 2 (some .int) ∈ gW) : gSnd own cc nL scr pc (sMM (fun x y => if y < x then y else x)) := by
  intro p l e R s m args below meth c cells slots Q ad dC dI tc A d E C hE σ lv st h H locs ls hP hS hlen hlv
  obtain ⟨hx, hb, hml, hown, hts, hnw, hK, hA, hap, hro, hsc, hfr, hlo, hce, hsl⟩ := C
  simp only [sMM] at h
  split at h
  next y x r =>
    cases hq : Nat.ble (gCats r) 8 with
    | false => rw [hq] at h; exact h.elim
    | true =>
      rw [hq] at h
      have hg := Nat.le_of_ble_eq_true hq
      exact va_mmin hx hb (by rw [hml]; exact hlv.1.symm) hown (hts _ hl) (hts _ hst) (hts _ hi) (hts _ hcd) (by omega) (by rw [gCats_gv]; omega) hce hsl hd (h.1 rfl H locs ls hP hS hlen hlv)
  next => exact h.elim
end GHEAP
