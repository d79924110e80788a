section GSOUND
variable {own : String} {cc : ByteArray} {nL : Nat} {scr : Option (Nat × (Nat → Int32))} {pc : Nat}
theorem gs_iconst {n : Int} {v : Int32} (hd : decode cc pc = .ok (.iconst n, 1)) (hv : Int32.ofInt n = v) : gSnd own cc nL scr pc (sPush (.int v) 1) := by
  intro p l e R s m args below meth c cells slots Q ad dC dI tc A d E C hE σ lv st h H locs ls hP hS hlen hl
  obtain ⟨hx, hb, hml, hown, hts, hnw, hK, hA, hap, hro, hsc, hfr, hlo, hce, hsl⟩ := C
  exact lv_iconst hx hb hd hv (h.1 rfl H locs ls hP hS hlen hl)
theorem gs_bipush {n : Int} {v : Int32} (hd : decode cc pc = .ok (.bipush n, 2)) (hv : (Int8.ofInt n).toInt32 = v) : gSnd own cc nL scr pc (sPush (.int v) 2) := by
  intro p l e R s m args below meth c cells slots Q ad dC dI tc A d E C hE σ lv st h H locs ls hP hS hlen hl
  obtain ⟨hx, hb, hml, hown, hts, hnw, hK, hA, hap, hro, hsc, hfr, hlo, hce, hsl⟩ := C
  exact lv_bipush hx hb hd hv (h.1 rfl H locs ls hP hS hlen hl)
theorem gs_sipush {n : Int} {v : Int32} (hd : decode cc pc = .ok (.sipush n, 3)) (hv : (Int16.ofInt n).toInt32 = v) : gSnd own cc nL scr pc (sPush (.int v) 3) := by
  intro p l e R s m args below meth c cells slots Q ad dC dI tc A d E C hE σ lv st h H locs ls hP hS hlen hl
  obtain ⟨hx, hb, hml, hown, hts, hnw, hK, hA, hap, hro, hsc, hfr, hlo, hce, hsl⟩ := C
  exact lv_sipush hx hb hd hv (h.1 rfl H locs ls hP hS hlen hl)
theorem gs_lconst {n : _root_.Fin 2} {v : Int64} (hd : decode cc pc = .ok (.lconst n, 1)) (hv : Int64.ofNat (n : Nat) = v) : gSnd own cc nL scr pc (sPush (.long v) 1) := by
  intro p l e R s m args below meth c cells slots Q ad dC dI tc A d E C hE σ lv st h H locs ls hP hS hlen hl
  obtain ⟨hx, hb, hml, hown, hts, hnw, hK, hA, hap, hro, hsc, hfr, hlo, hce, hsl⟩ := C
  exact lv_lconst hx hb hd hv (h.1 rfl H locs ls hP hS hlen hl)
theorem gs_ldc {idx : Nat} {v : Int32} (hd : decode cc pc = .ok (.ldc idx, 2)) (hv : Cond.constant own idx v ∈ gW) : gSnd own cc nL scr pc (sPush (.int v) 2) := by
  intro p l e R s m args below meth c cells slots Q ad dC dI tc A d E C hE σ lv st h H locs ls hP hS hlen hl
  obtain ⟨hx, hb, hml, hown, hts, hnw, hK, hA, hap, hro, hsc, hfr, hlo, hce, hsl⟩ := C
  exact lv_ldc hx hb hown (hts _ hv) hd (h.1 rfl H locs ls hP hS hlen hl)
theorem gs_ldcw {idx : Nat} {v : Int32} (hd : decode cc pc = .ok (.ldc_w idx, 3)) (hv : Cond.constant own idx v ∈ gW) : gSnd own cc nL scr pc (sPush (.int v) 3) := by
  intro p l e R s m args below meth c cells slots Q ad dC dI tc A d E C hE σ lv st h H locs ls hP hS hlen hl
  obtain ⟨hx, hb, hml, hown, hts, hnw, hK, hA, hap, hro, hsc, hfr, hlo, hce, hsl⟩ := C
  exact lv_ldcw hx hb hown (hts _ hv) hd (h.1 rfl H locs ls hP hS hlen hl)
theorem gs_ldc2 {idx : Nat} {v : Int64} (hd : decode cc pc = .ok (.ldc2_w idx, 3)) (hv : Cond.constantLong own idx v ∈ gW) : gSnd own cc nL scr pc (sPush (.long v) 3) := by
  intro p l e R s m args below meth c cells slots Q ad dC dI tc A d E C hE σ lv st h H locs ls hP hS hlen hl
  obtain ⟨hx, hb, hml, hown, hts, hnw, hK, hA, hap, hro, hsc, hfr, hlo, hce, hsl⟩ := C
  exact lv_ldc2 hx hb hown (hts _ hv) hd (h.1 rfl H locs ls hP hS hlen hl)
theorem gs_iload_n {k : _root_.Fin 4} {i : Nat} (hd : decode cc pc = .ok (.iload_n k, 1)) (hi : (k : Nat) = i) : gSnd own cc nL scr pc (sLdI i 1) := by
  intro p l e R s m args below meth c cells slots Q ad dC dI tc A d E C hE σ lv st h H locs ls hP hS hlen hl
  obtain ⟨hx, hb, hml, hown, hts, hnw, hK, hA, hap, hro, hsc, hfr, hlo, hce, hsl⟩ := C
  simp only [sLdI] at h
  split at h
  next x hq => exact lv_iload_n hx hb hd hi (gAs_get hl hq) (h.1 rfl H locs ls hP hS hlen hl)
  next => exact h.elim
theorem gs_iload {i : Nat} (hd : decode cc pc = .ok (.iload i, 2)) : gSnd own cc nL scr pc (sLdI i 2) := by
  intro p l e R s m args below meth c cells slots Q ad dC dI tc A d E C hE σ lv st h H locs ls hP hS hlen hl
  obtain ⟨hx, hb, hml, hown, hts, hnw, hK, hA, hap, hro, hsc, hfr, hlo, hce, hsl⟩ := C
  simp only [sLdI] at h
  split at h
  next x hq => exact lv_iload hx hb hd (gAs_get hl hq) (h.1 rfl H locs ls hP hS hlen hl)
  next => exact h.elim
theorem gs_lload_n {k : _root_.Fin 4} {i : Nat} (hd : decode cc pc = .ok (.lload_n k, 1)) (hi : (k : Nat) = i) : gSnd own cc nL scr pc (sLdL i 1) := by
  intro p l e R s m args below meth c cells slots Q ad dC dI tc A d E C hE σ lv st h H locs ls hP hS hlen hl
  obtain ⟨hx, hb, hml, hown, hts, hnw, hK, hA, hap, hro, hsc, hfr, hlo, hce, hsl⟩ := C
  simp only [sLdL] at h
  split at h
  next x hq => exact lv_lload_n hx hb hd hi (gAs_get hl hq) (h.1 rfl H locs ls hP hS hlen hl)
  next => exact h.elim
theorem gs_lload {i : Nat} (hd : decode cc pc = .ok (.lload i, 2)) : gSnd own cc nL scr pc (sLdL i 2) := by
  intro p l e R s m args below meth c cells slots Q ad dC dI tc A d E C hE σ lv st h H locs ls hP hS hlen hl
  obtain ⟨hx, hb, hml, hown, hts, hnw, hK, hA, hap, hro, hsc, hfr, hlo, hce, hsl⟩ := C
  simp only [sLdL] at h
  split at h
  next x hq => exact lv_lload hx hb hd (gAs_get hl hq) (h.1 rfl H locs ls hP hS hlen hl)
  next => exact h.elim
theorem gs_aload_n {k : _root_.Fin 4} {i : Nat} (hd : decode cc pc = .ok (.aload_n k, 1)) (hi : (k : Nat) = i) : gSnd own cc nL scr pc (sLdA i 1) := by
  intro p l e R s m args below meth c cells slots Q ad dC dI tc A d E C hE σ lv st h H locs ls hP hS hlen hl
  obtain ⟨hx, hb, hml, hown, hts, hnw, hK, hA, hap, hro, hsc, hfr, hlo, hce, hsl⟩ := C
  simp only [sLdA] at h
  split at h
  next x hq => exact lv_aload_n hx hb hd hi (gAs_get hl hq) (h.1 rfl H locs ls hP hS hlen hl)
  next => exact h.elim
theorem gs_aload {i : Nat} (hd : decode cc pc = .ok (.aload i, 2)) : gSnd own cc nL scr pc (sLdA i 2) := by
  intro p l e R s m args below meth c cells slots Q ad dC dI tc A d E C hE σ lv st h H locs ls hP hS hlen hl
  obtain ⟨hx, hb, hml, hown, hts, hnw, hK, hA, hap, hro, hsc, hfr, hlo, hce, hsl⟩ := C
  simp only [sLdA] at h
  split at h
  next x hq => exact lv_aload hx hb hd (gAs_get hl hq) (h.1 rfl H locs ls hP hS hlen hl)
  next => exact h.elim
theorem gs_istore_n {k : _root_.Fin 4} {i : Nat} (hd : decode cc pc = .ok (.istore_n k, 1)) (hi : (k : Nat) = i) : gSnd own cc nL scr pc (sStI i 1) := by
  intro p l e R s m args below meth c cells slots Q ad dC dI tc A d E C hE σ lv st h H locs ls hP hS hlen hl
  obtain ⟨hx, hb, hml, hown, hts, hnw, hK, hA, hap, hro, hsc, hfr, hlo, hce, hsl⟩ := C
  simp only [sStI] at h
  split at h
  next x r =>
    cases hq : (Nat.blt i lv.length && gPrev lv i) with
    | false => rw [hq] at h; exact h.elim
    | true =>
      rw [hq] at h
      simp only [Bool.and_eq_true, Nat.blt_eq] at hq
      exact lv_istore_n hx hb hd hi hl (by rw [← hlen]; exact hq.1) rfl (fun ls' hl' => h.1 rfl H locs ls' hP hS (by simpa using hlen) (gAs_set1 (v := .int x) hq.1 hq.2 hl'))
  next => exact h.elim
theorem gs_istore {i : Nat} (hd : decode cc pc = .ok (.istore i, 2)) : gSnd own cc nL scr pc (sStI i 2) := by
  intro p l e R s m args below meth c cells slots Q ad dC dI tc A d E C hE σ lv st h H locs ls hP hS hlen hl
  obtain ⟨hx, hb, hml, hown, hts, hnw, hK, hA, hap, hro, hsc, hfr, hlo, hce, hsl⟩ := C
  simp only [sStI] at h
  split at h
  next x r =>
    cases hq : (Nat.blt i lv.length && gPrev lv i) with
    | false => rw [hq] at h; exact h.elim
    | true =>
      rw [hq] at h
      simp only [Bool.and_eq_true, Nat.blt_eq] at hq
      exact lv_istore hx hb hd hl (by rw [← hlen]; exact hq.1) rfl (fun ls' hl' => h.1 rfl H locs ls' hP hS (by simpa using hlen) (gAs_set1 (v := .int x) hq.1 hq.2 hl'))
  next => exact h.elim
theorem gs_astore_n {k : _root_.Fin 4} {i : Nat} (hd : decode cc pc = .ok (.astore_n k, 1)) (hi : (k : Nat) = i) : gSnd own cc nL scr pc (sStA i 1) := by
  intro p l e R s m args below meth c cells slots Q ad dC dI tc A d E C hE σ lv st h H locs ls hP hS hlen hl
  obtain ⟨hx, hb, hml, hown, hts, hnw, hK, hA, hap, hro, hsc, hfr, hlo, hce, hsl⟩ := C
  simp only [sStA] at h
  split at h
  next x r =>
    cases hq : (Nat.blt i lv.length && gPrev lv i) with
    | false => rw [hq] at h; exact h.elim
    | true =>
      rw [hq] at h
      simp only [Bool.and_eq_true, Nat.blt_eq] at hq
      exact lv_astore_n hx hb hd hi hl (by rw [← hlen]; exact hq.1) rfl (fun ls' hl' => h.1 rfl H locs ls' hP hS (by simpa using hlen) (gAs_set1 (v := .ref x) hq.1 hq.2 hl'))
  next => exact h.elim
theorem gs_astore {i : Nat} (hd : decode cc pc = .ok (.astore i, 2)) : gSnd own cc nL scr pc (sStA i 2) := by
  intro p l e R s m args below meth c cells slots Q ad dC dI tc A d E C hE σ lv st h H locs ls hP hS hlen hl
  obtain ⟨hx, hb, hml, hown, hts, hnw, hK, hA, hap, hro, hsc, hfr, hlo, hce, hsl⟩ := C
  simp only [sStA] at h
  split at h
  next x r =>
    cases hq : (Nat.blt i lv.length && gPrev lv i) with
    | false => rw [hq] at h; exact h.elim
    | true =>
      rw [hq] at h
      simp only [Bool.and_eq_true, Nat.blt_eq] at hq
      exact lv_astore hx hb hd hl (by rw [← hlen]; exact hq.1) rfl (fun ls' hl' => h.1 rfl H locs ls' hP hS (by simpa using hlen) (gAs_set1 (v := .ref x) hq.1 hq.2 hl'))
  next => exact h.elim
theorem gs_lstore_n {k : _root_.Fin 4} {i : Nat} (hd : decode cc pc = .ok (.lstore_n k, 1)) (hi : (k : Nat) = i) : gSnd own cc nL scr pc (sStL i 1) := by
  intro p l e R s m args below meth c cells slots Q ad dC dI tc A d E C hE σ lv st h H locs ls hP hS hlen hl
  obtain ⟨hx, hb, hml, hown, hts, hnw, hK, hA, hap, hro, hsc, hfr, hlo, hce, hsl⟩ := C
  simp only [sStL] at h
  split at h
  next x r =>
    cases hq : (Nat.blt (i + 1) lv.length && gPrev lv i) with
    | false => rw [hq] at h; exact h.elim
    | true =>
      rw [hq] at h
      simp only [Bool.and_eq_true, Nat.blt_eq] at hq
      exact lv_lstore_n hx hb hd hi hl (by rw [← hlen]; exact hq.1) rfl (fun ls' hl' => h.1 rfl H locs ls' hP hS (by simpa using hlen) (gAs_set2 (v := .long x) hq.1 hq.2 hl'))
  next => exact h.elim
theorem gs_lstore {i : Nat} (hd : decode cc pc = .ok (.lstore i, 2)) : gSnd own cc nL scr pc (sStL i 2) := by
  intro p l e R s m args below meth c cells slots Q ad dC dI tc A d E C hE σ lv st h H locs ls hP hS hlen hl
  obtain ⟨hx, hb, hml, hown, hts, hnw, hK, hA, hap, hro, hsc, hfr, hlo, hce, hsl⟩ := C
  simp only [sStL] at h
  split at h
  next x r =>
    cases hq : (Nat.blt (i + 1) lv.length && gPrev lv i) with
    | false => rw [hq] at h; exact h.elim
    | true =>
      rw [hq] at h
      simp only [Bool.and_eq_true, Nat.blt_eq] at hq
      exact lv_lstore hx hb hd hl (by rw [← hlen]; exact hq.1) rfl (fun ls' hl' => h.1 rfl H locs ls' hP hS (by simpa using hlen) (gAs_set2 (v := .long x) hq.1 hq.2 hl'))
  next => exact h.elim
theorem gs_iinc {i : Nat} {n : Int} {v : Int32} (hd : decode cc pc = .ok (.iinc i n, 3)) (hv : Int32.ofInt n = v) : gSnd own cc nL scr pc (sInc i v) := by
  intro p l e R s m args below meth c cells slots Q ad dC dI tc A d E C hE σ lv st h H locs ls hP hS hlen hl
  obtain ⟨hx, hb, hml, hown, hts, hnw, hK, hA, hap, hro, hsc, hfr, hlo, hce, hsl⟩ := C
  simp only [sInc] at h
  split at h
  next x hx2 =>
    cases hq : (Nat.blt i lv.length && gPrev lv i) with
    | false => rw [hq] at h; exact h.elim
    | true =>
      rw [hq] at h
      simp only [Bool.and_eq_true, Nat.blt_eq] at hq
      obtain ⟨k, hk⟩ := List.getElem?_of_mem ((gAs_mem ad lv 0 (i, Value.int x)).mpr ⟨i, .int x, gNth_at hx2, by simp [gv]⟩)
      exact lv_iinc hx hb hd hl hk (by rw [hv]) (by rw [← hlen]; exact hq.1) rfl (fun ls' hl' => h.1 rfl H locs ls' hP hS (by simpa using hlen) (gAs_set1 (v := .int (x + v)) hq.1 hq.2 hl'))
  next => exact h.elim
theorem gs_iadd (hd : decode cc pc = .ok (.iadd, 1)) : gSnd own cc nL scr pc (sBin (fun x y => x + y)) := by
  intro p l e R s m args below meth c cells slots Q ad dC dI tc A d E C hE σ lv st h H locs ls hP hS hlen hl
  obtain ⟨hx, hb, hml, hown, hts, hnw, hK, hA, hap, hro, hsc, hfr, hlo, hce, hsl⟩ := C
  simp only [sBin] at h
  split at h
  · exact lv_iadd hx hb hd (h.1 rfl H locs ls hP hS hlen hl)
  · exact h.elim
theorem gs_isub (hd : decode cc pc = .ok (.isub, 1)) : gSnd own cc nL scr pc (sBin (fun x y => x - y)) := by
  intro p l e R s m args below meth c cells slots Q ad dC dI tc A d E C hE σ lv st h H locs ls hP hS hlen hl
  obtain ⟨hx, hb, hml, hown, hts, hnw, hK, hA, hap, hro, hsc, hfr, hlo, hce, hsl⟩ := C
  simp only [sBin] at h
  split at h
  · exact lv_isub hx hb hd (h.1 rfl H locs ls hP hS hlen hl)
  · exact h.elim
theorem gs_imul (hd : decode cc pc = .ok (.imul, 1)) : gSnd own cc nL scr pc (sBin (fun x y => x * y)) := by
  intro p l e R s m args below meth c cells slots Q ad dC dI tc A d E C hE σ lv st h H locs ls hP hS hlen hl
  obtain ⟨hx, hb, hml, hown, hts, hnw, hK, hA, hap, hro, hsc, hfr, hlo, hce, hsl⟩ := C
  simp only [sBin] at h
  split at h
  · exact lv_imul hx hb hd (h.1 rfl H locs ls hP hS hlen hl)
  · exact h.elim
theorem gs_iand (hd : decode cc pc = .ok (.iand, 1)) : gSnd own cc nL scr pc (sBin (fun x y => x &&& y)) := by
  intro p l e R s m args below meth c cells slots Q ad dC dI tc A d E C hE σ lv st h H locs ls hP hS hlen hl
  obtain ⟨hx, hb, hml, hown, hts, hnw, hK, hA, hap, hro, hsc, hfr, hlo, hce, hsl⟩ := C
  simp only [sBin] at h
  split at h
  · exact lv_iand hx hb hd (h.1 rfl H locs ls hP hS hlen hl)
  · exact h.elim
theorem gs_ior (hd : decode cc pc = .ok (.ior, 1)) : gSnd own cc nL scr pc (sBin (fun x y => x ||| y)) := by
  intro p l e R s m args below meth c cells slots Q ad dC dI tc A d E C hE σ lv st h H locs ls hP hS hlen hl
  obtain ⟨hx, hb, hml, hown, hts, hnw, hK, hA, hap, hro, hsc, hfr, hlo, hce, hsl⟩ := C
  simp only [sBin] at h
  split at h
  · exact lv_ior hx hb hd (h.1 rfl H locs ls hP hS hlen hl)
  · exact h.elim
theorem gs_ixor (hd : decode cc pc = .ok (.ixor, 1)) : gSnd own cc nL scr pc (sBin (fun x y => x ^^^ y)) := by
  intro p l e R s m args below meth c cells slots Q ad dC dI tc A d E C hE σ lv st h H locs ls hP hS hlen hl
  obtain ⟨hx, hb, hml, hown, hts, hnw, hK, hA, hap, hro, hsc, hfr, hlo, hce, hsl⟩ := C
  simp only [sBin] at h
  split at h
  · exact lv_ixor hx hb hd (h.1 rfl H locs ls hP hS hlen hl)
  · exact h.elim
theorem gs_ishl (hd : decode cc pc = .ok (.ishl, 1)) : gSnd own cc nL scr pc (sBin (fun x y => x <<< (y &&& 31))) := by
  intro p l e R s m args below meth c cells slots Q ad dC dI tc A d E C hE σ lv st h H locs ls hP hS hlen hl
  obtain ⟨hx, hb, hml, hown, hts, hnw, hK, hA, hap, hro, hsc, hfr, hlo, hce, hsl⟩ := C
  simp only [sBin] at h
  split at h
  · exact lv_ishl hx hb hd (h.1 rfl H locs ls hP hS hlen hl)
  · exact h.elim
theorem gs_ishr (hd : decode cc pc = .ok (.ishr, 1)) : gSnd own cc nL scr pc (sBin (fun x y => x >>> (y &&& 31))) := by
  intro p l e R s m args below meth c cells slots Q ad dC dI tc A d E C hE σ lv st h H locs ls hP hS hlen hl
  obtain ⟨hx, hb, hml, hown, hts, hnw, hK, hA, hap, hro, hsc, hfr, hlo, hce, hsl⟩ := C
  simp only [sBin] at h
  split at h
  · exact lv_ishr hx hb hd (h.1 rfl H locs ls hP hS hlen hl)
  · exact h.elim
theorem gs_iushr (hd : decode cc pc = .ok (.iushr, 1)) : gSnd own cc nL scr pc (sBin (fun x y => (x.toUInt32 >>> (y.toUInt32 &&& Int32.toUInt32 31)).toInt32)) := by
  intro p l e R s m args below meth c cells slots Q ad dC dI tc A d E C hE σ lv st h H locs ls hP hS hlen hl
  obtain ⟨hx, hb, hml, hown, hts, hnw, hK, hA, hap, hro, hsc, hfr, hlo, hce, hsl⟩ := C
  simp only [sBin] at h
  split at h
  · exact lv_iushr hx hb hd rfl (h.1 rfl H locs ls hP hS hlen hl)
  · exact h.elim
theorem gs_ladd (hd : decode cc pc = .ok (.ladd, 1)) : gSnd own cc nL scr pc (sBinL (fun x y => x + y)) := by
  intro p l e R s m args below meth c cells slots Q ad dC dI tc A d E C hE σ lv st h H locs ls hP hS hlen hl
  obtain ⟨hx, hb, hml, hown, hts, hnw, hK, hA, hap, hro, hsc, hfr, hlo, hce, hsl⟩ := C
  simp only [sBinL] at h
  split at h
  · exact lv_ladd hx hb hd (h.1 rfl H locs ls hP hS hlen hl)
  · exact h.elim
theorem gs_lsub (hd : decode cc pc = .ok (.lsub, 1)) : gSnd own cc nL scr pc (sBinL (fun x y => x - y)) := by
  intro p l e R s m args below meth c cells slots Q ad dC dI tc A d E C hE σ lv st h H locs ls hP hS hlen hl
  obtain ⟨hx, hb, hml, hown, hts, hnw, hK, hA, hap, hro, hsc, hfr, hlo, hce, hsl⟩ := C
  simp only [sBinL] at h
  split at h
  · exact lv_lsub hx hb hd (h.1 rfl H locs ls hP hS hlen hl)
  · exact h.elim
theorem gs_lmul (hd : decode cc pc = .ok (.lmul, 1)) : gSnd own cc nL scr pc (sBinL (fun x y => x * y)) := by
  intro p l e R s m args below meth c cells slots Q ad dC dI tc A d E C hE σ lv st h H locs ls hP hS hlen hl
  obtain ⟨hx, hb, hml, hown, hts, hnw, hK, hA, hap, hro, hsc, hfr, hlo, hce, hsl⟩ := C
  simp only [sBinL] at h
  split at h
  · exact lv_lmul hx hb hd (h.1 rfl H locs ls hP hS hlen hl)
  · exact h.elim
theorem gs_land (hd : decode cc pc = .ok (.land, 1)) : gSnd own cc nL scr pc (sBinL (fun x y => x &&& y)) := by
  intro p l e R s m args below meth c cells slots Q ad dC dI tc A d E C hE σ lv st h H locs ls hP hS hlen hl
  obtain ⟨hx, hb, hml, hown, hts, hnw, hK, hA, hap, hro, hsc, hfr, hlo, hce, hsl⟩ := C
  simp only [sBinL] at h
  split at h
  · exact lv_land hx hb hd (h.1 rfl H locs ls hP hS hlen hl)
  · exact h.elim
theorem gs_lor (hd : decode cc pc = .ok (.lor, 1)) : gSnd own cc nL scr pc (sBinL (fun x y => x ||| y)) := by
  intro p l e R s m args below meth c cells slots Q ad dC dI tc A d E C hE σ lv st h H locs ls hP hS hlen hl
  obtain ⟨hx, hb, hml, hown, hts, hnw, hK, hA, hap, hro, hsc, hfr, hlo, hce, hsl⟩ := C
  simp only [sBinL] at h
  split at h
  · exact lv_lor hx hb hd (h.1 rfl H locs ls hP hS hlen hl)
  · exact h.elim
theorem gs_lshl (hd : decode cc pc = .ok (.lshl, 1)) : gSnd own cc nL scr pc (sShL (fun x y => x <<< (y.toInt64 &&& 63))) := by
  intro p l e R s m args below meth c cells slots Q ad dC dI tc A d E C hE σ lv st h H locs ls hP hS hlen hl
  obtain ⟨hx, hb, hml, hown, hts, hnw, hK, hA, hap, hro, hsc, hfr, hlo, hce, hsl⟩ := C
  simp only [sShL] at h
  split at h
  · exact lv_lshl hx hb hd rfl (h.1 rfl H locs ls hP hS hlen hl)
  · exact h.elim
theorem gs_lshr (hd : decode cc pc = .ok (.lshr, 1)) : gSnd own cc nL scr pc (sShL (fun x y => x >>> (y.toInt64 &&& 63))) := by
  intro p l e R s m args below meth c cells slots Q ad dC dI tc A d E C hE σ lv st h H locs ls hP hS hlen hl
  obtain ⟨hx, hb, hml, hown, hts, hnw, hK, hA, hap, hro, hsc, hfr, hlo, hce, hsl⟩ := C
  simp only [sShL] at h
  split at h
  · exact lv_lshr hx hb hd rfl (h.1 rfl H locs ls hP hS hlen hl)
  · exact h.elim
theorem gs_idiv (hd : decode cc pc = .ok (.idiv, 1)) : gSnd own cc nL scr pc (sDiv (fun x y => x / y)) := by
  intro p l e R s m args below meth c cells slots Q ad dC dI tc A d E C hE σ lv st h H locs ls hP hS hlen hl
  obtain ⟨hx, hb, hml, hown, hts, hnw, hK, hA, hap, hro, hsc, hfr, hlo, hce, hsl⟩ := C
  simp only [sDiv] at h
  split at h
  next y x r =>
    by_cases hz : y = 0
    · exact (h.2 (decide_eq_false (fun z => z hz))).elim
    · exact lv_idiv hx hb hd hz (h.1 (decide_eq_true hz) H locs ls hP hS hlen hl)
  next => exact h.elim
theorem gs_irem (hd : decode cc pc = .ok (.irem, 1)) : gSnd own cc nL scr pc (sDiv (fun x y => x - x / y * y)) := by
  intro p l e R s m args below meth c cells slots Q ad dC dI tc A d E C hE σ lv st h H locs ls hP hS hlen hl
  obtain ⟨hx, hb, hml, hown, hts, hnw, hK, hA, hap, hro, hsc, hfr, hlo, hce, hsl⟩ := C
  simp only [sDiv] at h
  split at h
  next y x r =>
    by_cases hz : y = 0
    · exact (h.2 (decide_eq_false (fun z => z hz))).elim
    · exact lv_irem hx hb hd hz (h.1 (decide_eq_true hz) H locs ls hP hS hlen hl)
  next => exact h.elim
theorem gs_ldiv (hd : decode cc pc = .ok (.ldiv, 1)) : gSnd own cc nL scr pc (sDivL (fun x y => x / y)) := by
  intro p l e R s m args below meth c cells slots Q ad dC dI tc A d E C hE σ lv st h H locs ls hP hS hlen hl
  obtain ⟨hx, hb, hml, hown, hts, hnw, hK, hA, hap, hro, hsc, hfr, hlo, hce, hsl⟩ := C
  simp only [sDivL] at h
  split at h
  next y x r =>
    by_cases hz : y = 0
    · exact (h.2 (decide_eq_false (fun z => z hz))).elim
    · exact lv_ldiv hx hb hd hz (h.1 (decide_eq_true hz) H locs ls hP hS hlen hl)
  next => exact h.elim
theorem gs_lrem (hd : decode cc pc = .ok (.lrem, 1)) : gSnd own cc nL scr pc (sDivL (fun x y => x - x / y * y)) := by
  intro p l e R s m args below meth c cells slots Q ad dC dI tc A d E C hE σ lv st h H locs ls hP hS hlen hl
  obtain ⟨hx, hb, hml, hown, hts, hnw, hK, hA, hap, hro, hsc, hfr, hlo, hce, hsl⟩ := C
  simp only [sDivL] at h
  split at h
  next y x r =>
    by_cases hz : y = 0
    · exact (h.2 (decide_eq_false (fun z => z hz))).elim
    · exact lv_lrem hx hb hd hz (h.1 (decide_eq_true hz) H locs ls hP hS hlen hl)
  next => exact h.elim
theorem gs_i2b (hd : decode cc pc = .ok (.i2b, 1)) : gSnd own cc nL scr pc (sUn (fun x => x.toInt8.toInt32)) := by
  intro p l e R s m args below meth c cells slots Q ad dC dI tc A d E C hE σ lv st h H locs ls hP hS hlen hl
  obtain ⟨hx, hb, hml, hown, hts, hnw, hK, hA, hap, hro, hsc, hfr, hlo, hce, hsl⟩ := C
  simp only [sUn] at h
  split at h
  · exact lv_i2b hx hb hd rfl (h.1 rfl H locs ls hP hS hlen hl)
  · exact h.elim
theorem gs_i2s (hd : decode cc pc = .ok (.i2s, 1)) : gSnd own cc nL scr pc (sUn (fun x => x.toInt16.toInt32)) := by
  intro p l e R s m args below meth c cells slots Q ad dC dI tc A d E C hE σ lv st h H locs ls hP hS hlen hl
  obtain ⟨hx, hb, hml, hown, hts, hnw, hK, hA, hap, hro, hsc, hfr, hlo, hce, hsl⟩ := C
  simp only [sUn] at h
  split at h
  · exact lv_i2s hx hb hd rfl (h.1 rfl H locs ls hP hS hlen hl)
  · exact h.elim
theorem gs_i2l (hd : decode cc pc = .ok (.i2l, 1)) : gSnd own cc nL scr pc (sI2L) := by
  intro p l e R s m args below meth c cells slots Q ad dC dI tc A d E C hE σ lv st h H locs ls hP hS hlen hl
  obtain ⟨hx, hb, hml, hown, hts, hnw, hK, hA, hap, hro, hsc, hfr, hlo, hce, hsl⟩ := C
  simp only [sI2L] at h
  split at h
  · exact lv_i2l hx hb hd rfl (h.1 rfl H locs ls hP hS hlen hl)
  · exact h.elim
theorem gs_lcmp (hd : decode cc pc = .ok (.lcmp, 1)) : gSnd own cc nL scr pc (sLcmp) := by
  intro p l e R s m args below meth c cells slots Q ad dC dI tc A d E C hE σ lv st h H locs ls hP hS hlen hl
  obtain ⟨hx, hb, hml, hown, hts, hnw, hK, hA, hap, hro, hsc, hfr, hlo, hce, hsl⟩ := C
  simp only [sLcmp] at h
  split at h
  · exact W.lcmp hx hb hd (h.1 rfl H locs ls hP hS hlen hl)
  · exact h.elim
theorem gs_dup (hd : decode cc pc = .ok (.dup, 1)) : gSnd own cc nL scr pc (sDup) := by
  intro p l e R s m args below meth c cells slots Q ad dC dI tc A d E C hE σ lv st h H locs ls hP hS hlen hl
  obtain ⟨hx, hb, hml, hown, hts, hnw, hK, hA, hap, hro, hsc, hfr, hlo, hce, hsl⟩ := C
  simp only [sDup] at h
  split at h
  next v r =>
    cases hq : Nat.beq v.category 1 with
    | false => rw [hq] at h; exact h.elim
    | true => rw [hq] at h; exact lv_dup hx hb hd (by rw [gv_cat]; exact Nat.eq_of_beq_eq_true hq) (h.1 rfl H locs ls hP hS hlen hl)
  next => exact h.elim
theorem gs_pop (hd : decode cc pc = .ok (.pop, 1)) : gSnd own cc nL scr pc (sPop) := by
  intro p l e R s m args below meth c cells slots Q ad dC dI tc A d E C hE σ lv st h H locs ls hP hS hlen hl
  obtain ⟨hx, hb, hml, hown, hts, hnw, hK, hA, hap, hro, hsc, hfr, hlo, hce, hsl⟩ := C
  simp only [sPop] at h
  split at h
  next v r =>
    cases hq : Nat.beq v.category 1 with
    | false => rw [hq] at h; exact h.elim
    | true => rw [hq] at h; exact lv_pop hx hb hd (by rw [gv_cat]; exact Nat.eq_of_beq_eq_true hq) (h.1 rfl H locs ls hP hS hlen hl)
  next => exact h.elim
theorem gs_dup2 (hd : decode cc pc = .ok (.dup2, 1)) : gSnd own cc nL scr pc (sDup2) := by
  intro p l e R s m args below meth c cells slots Q ad dC dI tc A d E C hE σ lv st h H locs ls hP hS hlen hl
  obtain ⟨hx, hb, hml, hown, hts, hnw, hK, hA, hap, hro, hsc, hfr, hlo, hce, hsl⟩ := C
  simp only [sDup2] at h
  split at h
  next v w r =>
    cases hq : (Nat.beq v.category 1 && Nat.beq w.category 1) with
    | false => rw [hq] at h; exact h.elim
    | true =>
      rw [hq] at h
      simp only [Bool.and_eq_true] at hq
      exact lv_dup2_11 hx hb hd (by rw [gv_cat]; exact Nat.eq_of_beq_eq_true hq.1) (by rw [gv_cat]; exact Nat.eq_of_beq_eq_true hq.2) (h.1 rfl H locs ls hP hS hlen hl)
  next => exact h.elim
theorem gs_if_eq {off : Int} {tgt : Nat} (hd : decode cc pc = .ok (.ifCond .eq off, 3)) (ht : (pc : Int) + off = (tgt : Int)) : gSnd own cc nL scr pc (sIf1 (fun x => decide (x = 0)) tgt) := by
  intro p l e R s m args below meth c cells slots Q ad dC dI tc A d E C hE σ lv st h H locs ls hP hS hlen hl
  obtain ⟨hx, hb, hml, hown, hts, hnw, hK, hA, hap, hro, hsc, hfr, hlo, hce, hsl⟩ := C
  simp only [sIf1] at h
  split at h
  · exact lv_if_eq hx hb hd ht (fun z => h.1 (decide_eq_true z) H locs ls hP hS hlen hl) (fun z => h.2 (decide_eq_false z) H locs ls hP hS hlen hl)
  · exact h.elim
theorem gs_icmp_eq {off : Int} {tgt : Nat} (hd : decode cc pc = .ok (.if_icmp .eq off, 3)) (ht : (pc : Int) + off = (tgt : Int)) : gSnd own cc nL scr pc (sIf2 (fun x y => decide (x = y)) tgt) := by
  intro p l e R s m args below meth c cells slots Q ad dC dI tc A d E C hE σ lv st h H locs ls hP hS hlen hl
  obtain ⟨hx, hb, hml, hown, hts, hnw, hK, hA, hap, hro, hsc, hfr, hlo, hce, hsl⟩ := C
  simp only [sIf2] at h
  split at h
  · exact lv_icmp_eq hx hb hd ht (fun z => h.1 (decide_eq_true z) H locs ls hP hS hlen hl) (fun z => h.2 (decide_eq_false z) H locs ls hP hS hlen hl)
  · exact h.elim
theorem gs_if_ne {off : Int} {tgt : Nat} (hd : decode cc pc = .ok (.ifCond .ne off, 3)) (ht : (pc : Int) + off = (tgt : Int)) : gSnd own cc nL scr pc (sIf1 (fun x => decide (¬ x = 0)) tgt) := by
  intro p l e R s m args below meth c cells slots Q ad dC dI tc A d E C hE σ lv st h H locs ls hP hS hlen hl
  obtain ⟨hx, hb, hml, hown, hts, hnw, hK, hA, hap, hro, hsc, hfr, hlo, hce, hsl⟩ := C
  simp only [sIf1] at h
  split at h
  · exact lv_if_ne hx hb hd ht (fun z => h.1 (decide_eq_true z) H locs ls hP hS hlen hl) (fun z => h.2 (decide_eq_false (fun w => w z)) H locs ls hP hS hlen hl)
  · exact h.elim
theorem gs_icmp_ne {off : Int} {tgt : Nat} (hd : decode cc pc = .ok (.if_icmp .ne off, 3)) (ht : (pc : Int) + off = (tgt : Int)) : gSnd own cc nL scr pc (sIf2 (fun x y => decide (¬ x = y)) tgt) := by
  intro p l e R s m args below meth c cells slots Q ad dC dI tc A d E C hE σ lv st h H locs ls hP hS hlen hl
  obtain ⟨hx, hb, hml, hown, hts, hnw, hK, hA, hap, hro, hsc, hfr, hlo, hce, hsl⟩ := C
  simp only [sIf2] at h
  split at h
  · exact lv_icmp_ne hx hb hd ht (fun z => h.1 (decide_eq_true z) H locs ls hP hS hlen hl) (fun z => h.2 (decide_eq_false (fun w => w z)) H locs ls hP hS hlen hl)
  · exact h.elim
theorem gs_if_lt {off : Int} {tgt : Nat} (hd : decode cc pc = .ok (.ifCond .lt off, 3)) (ht : (pc : Int) + off = (tgt : Int)) : gSnd own cc nL scr pc (sIf1 (fun x => decide (x < 0)) tgt) := by
  intro p l e R s m args below meth c cells slots Q ad dC dI tc A d E C hE σ lv st h H locs ls hP hS hlen hl
  obtain ⟨hx, hb, hml, hown, hts, hnw, hK, hA, hap, hro, hsc, hfr, hlo, hce, hsl⟩ := C
  simp only [sIf1] at h
  split at h
  · exact lv_if_lt hx hb hd ht (fun z => h.1 (decide_eq_true z) H locs ls hP hS hlen hl) (fun z => h.2 (decide_eq_false z) H locs ls hP hS hlen hl)
  · exact h.elim
theorem gs_icmp_lt {off : Int} {tgt : Nat} (hd : decode cc pc = .ok (.if_icmp .lt off, 3)) (ht : (pc : Int) + off = (tgt : Int)) : gSnd own cc nL scr pc (sIf2 (fun x y => decide (x < y)) tgt) := by
  intro p l e R s m args below meth c cells slots Q ad dC dI tc A d E C hE σ lv st h H locs ls hP hS hlen hl
  obtain ⟨hx, hb, hml, hown, hts, hnw, hK, hA, hap, hro, hsc, hfr, hlo, hce, hsl⟩ := C
  simp only [sIf2] at h
  split at h
  · exact lv_icmp_lt hx hb hd ht (fun z => h.1 (decide_eq_true z) H locs ls hP hS hlen hl) (fun z => h.2 (decide_eq_false z) H locs ls hP hS hlen hl)
  · exact h.elim
theorem gs_if_ge {off : Int} {tgt : Nat} (hd : decode cc pc = .ok (.ifCond .ge off, 3)) (ht : (pc : Int) + off = (tgt : Int)) : gSnd own cc nL scr pc (sIf1 (fun x => decide (0 ≤ x)) tgt) := by
  intro p l e R s m args below meth c cells slots Q ad dC dI tc A d E C hE σ lv st h H locs ls hP hS hlen hl
  obtain ⟨hx, hb, hml, hown, hts, hnw, hK, hA, hap, hro, hsc, hfr, hlo, hce, hsl⟩ := C
  simp only [sIf1] at h
  split at h
  · exact lv_if_ge hx hb hd ht (fun z => h.1 (decide_eq_true z) H locs ls hP hS hlen hl) (fun z => h.2 (decide_eq_false z) H locs ls hP hS hlen hl)
  · exact h.elim
theorem gs_icmp_ge {off : Int} {tgt : Nat} (hd : decode cc pc = .ok (.if_icmp .ge off, 3)) (ht : (pc : Int) + off = (tgt : Int)) : gSnd own cc nL scr pc (sIf2 (fun x y => decide (y ≤ x)) tgt) := by
  intro p l e R s m args below meth c cells slots Q ad dC dI tc A d E C hE σ lv st h H locs ls hP hS hlen hl
  obtain ⟨hx, hb, hml, hown, hts, hnw, hK, hA, hap, hro, hsc, hfr, hlo, hce, hsl⟩ := C
  simp only [sIf2] at h
  split at h
  · exact lv_icmp_ge hx hb hd ht (fun z => h.1 (decide_eq_true z) H locs ls hP hS hlen hl) (fun z => h.2 (decide_eq_false z) H locs ls hP hS hlen hl)
  · exact h.elim
theorem gs_if_gt {off : Int} {tgt : Nat} (hd : decode cc pc = .ok (.ifCond .gt off, 3)) (ht : (pc : Int) + off = (tgt : Int)) : gSnd own cc nL scr pc (sIf1 (fun x => decide (0 < x)) tgt) := by
  intro p l e R s m args below meth c cells slots Q ad dC dI tc A d E C hE σ lv st h H locs ls hP hS hlen hl
  obtain ⟨hx, hb, hml, hown, hts, hnw, hK, hA, hap, hro, hsc, hfr, hlo, hce, hsl⟩ := C
  simp only [sIf1] at h
  split at h
  · exact lv_if_gt hx hb hd ht (fun z => h.1 (decide_eq_true z) H locs ls hP hS hlen hl) (fun z => h.2 (decide_eq_false z) H locs ls hP hS hlen hl)
  · exact h.elim
theorem gs_icmp_gt {off : Int} {tgt : Nat} (hd : decode cc pc = .ok (.if_icmp .gt off, 3)) (ht : (pc : Int) + off = (tgt : Int)) : gSnd own cc nL scr pc (sIf2 (fun x y => decide (y < x)) tgt) := by
  intro p l e R s m args below meth c cells slots Q ad dC dI tc A d E C hE σ lv st h H locs ls hP hS hlen hl
  obtain ⟨hx, hb, hml, hown, hts, hnw, hK, hA, hap, hro, hsc, hfr, hlo, hce, hsl⟩ := C
  simp only [sIf2] at h
  split at h
  · exact lv_icmp_gt hx hb hd ht (fun z => h.1 (decide_eq_true z) H locs ls hP hS hlen hl) (fun z => h.2 (decide_eq_false z) H locs ls hP hS hlen hl)
  · exact h.elim
theorem gs_if_le {off : Int} {tgt : Nat} (hd : decode cc pc = .ok (.ifCond .le off, 3)) (ht : (pc : Int) + off = (tgt : Int)) : gSnd own cc nL scr pc (sIf1 (fun x => decide (x ≤ 0)) tgt) := by
  intro p l e R s m args below meth c cells slots Q ad dC dI tc A d E C hE σ lv st h H locs ls hP hS hlen hl
  obtain ⟨hx, hb, hml, hown, hts, hnw, hK, hA, hap, hro, hsc, hfr, hlo, hce, hsl⟩ := C
  simp only [sIf1] at h
  split at h
  · exact lv_if_le hx hb hd ht (fun z => h.1 (decide_eq_true z) H locs ls hP hS hlen hl) (fun z => h.2 (decide_eq_false z) H locs ls hP hS hlen hl)
  · exact h.elim
theorem gs_icmp_le {off : Int} {tgt : Nat} (hd : decode cc pc = .ok (.if_icmp .le off, 3)) (ht : (pc : Int) + off = (tgt : Int)) : gSnd own cc nL scr pc (sIf2 (fun x y => decide (x ≤ y)) tgt) := by
  intro p l e R s m args below meth c cells slots Q ad dC dI tc A d E C hE σ lv st h H locs ls hP hS hlen hl
  obtain ⟨hx, hb, hml, hown, hts, hnw, hK, hA, hap, hro, hsc, hfr, hlo, hce, hsl⟩ := C
  simp only [sIf2] at h
  split at h
  · exact lv_icmp_le hx hb hd ht (fun z => h.1 (decide_eq_true z) H locs ls hP hS hlen hl) (fun z => h.2 (decide_eq_false z) H locs ls hP hS hlen hl)
  · exact h.elim
theorem gs_goto {off : Int} {tgt : Nat} (hd : decode cc pc = .ok (.goto off, 3)) (ht : (pc : Int) + off = (tgt : Int)) : gSnd own cc nL scr pc (sGoto tgt) := by
  intro p l e R s m args below meth c cells slots Q ad dC dI tc A d E C hE σ lv st h H locs ls hP hS hlen hl
  obtain ⟨hx, hb, hml, hown, hts, hnw, hK, hA, hap, hro, hsc, hfr, hlo, hce, hsl⟩ := C
  exact lv_goto hx hb hd ht (h.1 rfl H locs ls hP hS hlen hl)
theorem gs_table {dflt lo hi : Int} {offs : Array Int} {len : Nat} {ts : List Nat} {dt : Nat} (hd : decode cc pc = .ok (.tableswitch dflt lo hi offs, len)) (h0 : (pc : Int) + dflt = (dt : Int)) (h1 : hi - lo + 1 = (ts.length : Int)) (h2 : offs.toList.map (fun o => (pc : Int) + o) = ts.map (fun t : Nat => (t : Int))) : gSnd own cc nL scr pc (sSw lo ts dt) := by
  intro p l e R s m args below meth c cells slots Q ad dC dI tc A d E C hE σ lv st h H locs ls hP hS hlen hl
  obtain ⟨hx, hb, hml, hown, hts, hnw, hK, hA, hap, hro, hsc, hfr, hlo, hce, hsl⟩ := C
  simp only [sSw] at h
  split at h
  next x r =>
    have hk := h.1 rfl H locs ls hP hS hlen hl
    unfold gTgt at hk
    by_cases hlo' : x.toInt < lo
    · exact lv_tableOut hx hb hd (Or.inl hlo') h0 (by simpa [hlo'] using hk)
    · by_cases hhi : hi < x.toInt
      · have e : gAt ts (x.toInt - lo).toNat = none := by
          rw [gAt_eq]
          exact List.getElem?_eq_none (by omega)
        exact lv_tableOut hx hb hd (Or.inr hhi) h0 (by simpa [hlo', e] using hk)
      · have hlt : (x.toInt - lo).toNat < ts.length := by omega
        have hlo2 : (x.toInt - lo).toNat < offs.toList.length := by
          have := congrArg List.length h2
          simp only [List.length_map] at this
          omega
        have e : gAt ts (x.toInt - lo).toNat = some ts[(x.toInt - lo).toNat] := by
          rw [gAt_eq]
          exact List.getElem?_eq_getElem hlt
        have e2 : (offs.toList.map (fun o => (pc : Int) + o))[(x.toInt - lo).toNat]? = (ts.map (fun t : Nat => (t : Int)))[(x.toInt - lo).toNat]? := by rw [h2]
        rw [List.getElem?_map, List.getElem?_map, List.getElem?_eq_getElem hlo2, List.getElem?_eq_getElem hlt] at e2
        refine lv_tableIn hx hb hd hlo' hhi (off := offs.toList[(x.toInt - lo).toNat]) (by rw [← Array.getElem?_toList]; exact List.getElem?_eq_getElem hlo2) (Option.some.inj e2) (by simpa [hlo', e] using hk)
  next => exact h.elim
theorem gs_vret (hd : decode cc pc = .ok (.return_, 1)) : gSnd own cc nL scr pc (sRetV) := by
  intro p l e R s m args below meth c cells slots Q ad dC dI tc A d E C hE σ lv st h H locs ls hP hS hlen hl
  obtain ⟨hx, hb, hml, hown, hts, hnw, hK, hA, hap, hro, hsc, hfr, hlo, hce, hsl⟩ := C
  simp only [sRetV] at h
  split at h
  · exact h pc H locs ls hP hS hd
  · exact h.elim
theorem gs_iret (hd : decode cc pc = .ok (.ireturn, 1)) : gSnd own cc nL scr pc (sRetI) := by
  intro p l e R s m args below meth c cells slots Q ad dC dI tc A d E C hE σ lv st h H locs ls hP hS hlen hl
  obtain ⟨hx, hb, hml, hown, hts, hnw, hK, hA, hap, hro, hsc, hfr, hlo, hce, hsl⟩ := C
  simp only [sRetI] at h
  split at h
  · exact h pc H locs ls hP hS hd
  · exact h.elim
theorem gs_lret (hd : decode cc pc = .ok (.lreturn, 1)) : gSnd own cc nL scr pc (sRetL) := by
  intro p l e R s m args below meth c cells slots Q ad dC dI tc A d E C hE σ lv st h H locs ls hP hS hlen hl
  obtain ⟨hx, hb, hml, hown, hts, hnw, hK, hA, hap, hro, hsc, hfr, hlo, hce, hsl⟩ := C
  simp only [sRetL] at h
  split at h
  · exact h pc H locs ls hP hS hd
  · exact h.elim
theorem gs_aret (hd : decode cc pc = .ok (.areturn, 1)) : gSnd own cc nL scr pc (sRetA) := by
  intro p l e R s m args below meth c cells slots Q ad dC dI tc A d E C hE σ lv st h H locs ls hP hS hlen hl
  obtain ⟨hx, hb, hml, hown, hts, hnw, hK, hA, hap, hro, hsc, hfr, hlo, hce, hsl⟩ := C
  simp only [sRetA] at h
  split at h
  · exact h pc H locs ls hP hS hd
  · exact h.elim
end GSOUND
