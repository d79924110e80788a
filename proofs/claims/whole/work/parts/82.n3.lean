theorem wd_52 : Cond.methodLink RX9 3 objectInit ∈ gW := List.mem_filter.mpr ⟨List.mem_of_getElem? (i := 123) (by decide +kernel), by decide +kernel⟩
theorem wd_42 : Cond.methodLink RX0 3 objectInit ∈ gW := List.mem_filter.mpr ⟨List.mem_of_getElem? (i := 113) (by decide +kernel), by decide +kernel⟩
theorem wd_43 : Cond.classLink RX0 9 RX9 ∈ gW := List.mem_filter.mpr ⟨List.mem_of_getElem? (i := 114) (by decide +kernel), by decide +kernel⟩
theorem wd_44 : Cond.instantiable RX9 8 ∈ gW := List.mem_filter.mpr ⟨List.mem_of_getElem? (i := 115) (by decide +kernel), by decide +kernel⟩
theorem wn_45 : Cond.fieldLinkNest RX0 11 "GorseGold" "BUSH_LOWS" "[I" "GorseGold" ∈ gNest := List.mem_filter.mpr ⟨List.mem_of_getElem? (i := 116) (by decide +kernel), by decide +kernel⟩
theorem wn_47 : Cond.fieldLinkNest RX0 15 "GorseGold" "BUSH_HIGHS" "[I" "GorseGold" ∈ gNest := List.mem_filter.mpr ⟨List.mem_of_getElem? (i := 118) (by decide +kernel), by decide +kernel⟩
theorem wd_51 : Cond.code yX9_init cX9_init 5 none ∈ gW := List.mem_filter.mpr ⟨List.mem_of_getElem? (i := 122) (by decide +kernel), by decide +kernel⟩
theorem wd_49 : Cond.methodLink RX0 18 yX9_init ∈ gW := List.mem_filter.mpr ⟨List.mem_of_getElem? (i := 120) (by decide +kernel), by decide +kernel⟩
theorem wd_50 : Cond.instanceMethod yX9_init ∈ gW := List.mem_filter.mpr ⟨List.mem_of_getElem? (i := 121) (by decide +kernel), by decide +kernel⟩
theorem wd_135 : Cond.methodLink RX4 3 objectInit ∈ gW := List.mem_filter.mpr ⟨List.mem_of_getElem? (i := 206) (by decide +kernel), by decide +kernel⟩
theorem wd_136 : Cond.classLink RX4 9 RX9 ∈ gW := List.mem_filter.mpr ⟨List.mem_of_getElem? (i := 207) (by decide +kernel), by decide +kernel⟩
theorem wn_137 : Cond.fieldLinkNest RX4 11 "GorseGold" "LOOK_LOWS" "[I" "GorseGold" ∈ gNest := List.mem_filter.mpr ⟨List.mem_of_getElem? (i := 208) (by decide +kernel), by decide +kernel⟩
theorem wn_139 : Cond.fieldLinkNest RX4 15 "GorseGold" "LOOK_HIGHS" "[I" "GorseGold" ∈ gNest := List.mem_filter.mpr ⟨List.mem_of_getElem? (i := 210) (by decide +kernel), by decide +kernel⟩
theorem wd_141 : Cond.methodLink RX4 18 yX9_init ∈ gW := List.mem_filter.mpr ⟨List.mem_of_getElem? (i := 212) (by decide +kernel), by decide +kernel⟩
theorem d_X9_B_0 : decode cX9_init 0 = .ok (.aload_n 0, 1) := by decide +kernel
theorem d_X9_B_1 : decode cX9_init 1 = .ok (.invokespecial 3, 3) := by decide +kernel
theorem d_X9_B_4 : decode cX9_init 4 = .ok (.aload_n 0, 1) := by decide +kernel
theorem d_X9_B_5 : decode cX9_init 5 = .ok (.iload_n 1, 1) := by decide +kernel
theorem d_X9_B_6 : decode cX9_init 6 = .ok (.newarray .int, 2) := by decide +kernel
theorem d_X9_B_8 : decode cX9_init 8 = .ok (.putfield 9, 3) := by decide +kernel
theorem d_X9_B_11 : decode cX9_init 11 = .ok (.aload_n 0, 1) := by decide +kernel
theorem d_X9_B_12 : decode cX9_init 12 = .ok (.aload_n 3, 1) := by decide +kernel
theorem d_X9_B_13 : decode cX9_init 13 = .ok (.putfield 15, 3) := by decide +kernel
theorem d_X9_B_16 : decode cX9_init 16 = .ok (.aload_n 0, 1) := by decide +kernel
theorem d_X9_B_17 : decode cX9_init 17 = .ok (.aload 4, 2) := by decide +kernel
theorem d_X9_B_19 : decode cX9_init 19 = .ok (.putfield 18, 3) := by decide +kernel
theorem d_X9_B_22 : decode cX9_init 22 = .ok (.aload_n 0, 1) := by decide +kernel
theorem d_X9_B_23 : decode cX9_init 23 = .ok (.iload_n 2, 1) := by decide +kernel
theorem d_X9_B_24 : decode cX9_init 24 = .ok (.putfield 21, 3) := by decide +kernel
theorem d_X9_B_27 : decode cX9_init 27 = .ok (.aload_n 0, 1) := by decide +kernel
theorem d_X9_B_28 : decode cX9_init 28 = .ok (.aload_n 3, 1) := by decide +kernel
theorem d_X9_B_29 : decode cX9_init 29 = .ok (.arraylength, 1) := by decide +kernel
theorem d_X9_B_30 : decode cX9_init 30 = .ok (.iconst 1, 1) := by decide +kernel
theorem d_X9_B_31 : decode cX9_init 31 = .ok (.iadd, 1) := by decide +kernel
theorem d_X9_B_32 : decode cX9_init 32 = .ok (.putfield 25, 3) := by decide +kernel
theorem d_X9_B_35 : decode cX9_init 35 = .ok (.aload_n 0, 1) := by decide +kernel
theorem d_X9_B_36 : decode cX9_init 36 = .ok (.iconst 0, 1) := by decide +kernel
theorem d_X9_B_37 : decode cX9_init 37 = .ok (.putfield 28, 3) := by decide +kernel
theorem d_X9_B_40 : decode cX9_init 40 = .ok (.aload_n 0, 1) := by decide +kernel
theorem d_X9_B_41 : decode cX9_init 41 = .ok (.iconst (-1), 1) := by decide +kernel
theorem d_X9_B_42 : decode cX9_init 42 = .ok (.putfield 31, 3) := by decide +kernel
theorem d_X9_B_45 : decode cX9_init 45 = .ok (.aload_n 0, 1) := by decide +kernel
theorem d_X9_B_46 : decode cX9_init 46 = .ok (.iconst 0, 1) := by decide +kernel
theorem d_X9_B_47 : decode cX9_init 47 = .ok (.putfield 34, 3) := by decide +kernel
theorem d_X9_B_50 : decode cX9_init 50 = .ok (.return_, 1) := by decide +kernel
def w_X9_B (ad : Nat → Nat) (tc : Nat → ClassId) (h0 : Nat) (g : Nat → Nat) : va_W := [(h0, .inr (9, [.ref (g 0), .ref (ad 1000), .ref (ad 1001), .int 10, .int 4, .int 0, .int (-1), .int 0])), (g 0, .inl (tc 0, 39, .inl (fun _ => 0)))]
set_option maxHeartbeats 4000000 in
set_option maxRecDepth 100000 in
theorem n_X9_B (l : Launch) (ad : Nat → Nat) (dC : Nat → ClassId) (dI : Nat → Nat → Nat) (tc : Nat → ClassId) (h0 sz : Nat) : Met l yX9_init (Cond.code yX9_init cX9_init 5 none :: gW) ({ frames := 1, cells := 1, slots := 39, locals := 80 }) (nPre ad dC dI tc h0 sz 9 [.null, .null, .null, .int 0, .int 0, .int 0, .int 0, .int 0] [.ref h0, .int 39, .int 10, .ref (ad 1000), .ref (ad 1001)]) (nPost dC dI (w_X9_B ad tc h0) (va_A [(h0, .inr (9, [.null, .null, .null, .int 0, .int 0, .int 0, .int 0, .int 0]))] sz)) 1 39 (va_A [(h0, .inr (9, [.null, .null, .null, .int 0, .int 0, .int 0, .int 0, .int 0]))] sz) := by
  refine Met.ofW (cc := cX9_init) (maxL := 5) (ret := none) (by decide) rfl ?_
  intro p e s m args below meth c s₁ B hml hv
  obtain ⟨rfl, hsz, hP, hK, hD0, hro, hnw, hao1, hao2⟩ := hv
  have hx := B.exec
  have hb := B.bytes
  have hr := B.returns
  have hts0 := atoms_spec (ws := Cond.code yX9_init cX9_init 5 none :: gW) B.pre
  have hts : ∀ w ∈ gW, w.before _ s = true := fun w h => hts0 w (List.mem_cons_of_mem _ h)
  have hown : s.vm.findClass RX9 = some m.cls := findClass_of_methodNamed B.named
  have hin : meth.name = "<init>" := (name_of_methodNamed B.named B.method).1
  subst hsz
  have hD := hD0.self (sz := s.heap.size)
  generalize hAe : va_A [(h0, .inr (9, [.null, .null, .null, .int 0, .int 0, .int 0, .int 0, .int 0]))] s.heap.size = A at hD hro ⊢
  have hA : ∀ q : Nat, s.heap.size ≤ q → A q := fun q h => by rw [← hAe]; exact Or.inr h
  have hS : va_S A s.heap s.heap [] := va_S.rf
  have hl := lv_entry ([.ref h0, .int 39, .int 10, .ref (ad 1000), .ref (ad 1001)]) (n := 5) (Nat.le_of_ble_eq_true rfl)
  rw [lg_entry_eq]
  generalize (lg_sl ([.ref h0, .int 39, .int 10, .ref (ad 1000), .ref (ad 1001)]) ++ List.replicate (5 - (lg_sl ([.ref h0, .int 39, .int 10, .ref (ad 1000), .ref (ad 1001)])).length) Slot.unset).toArray = ls at hl ⊢
  have hl : lv_has ls 5 [(0, .ref h0), (1, .int 39), (2, .int 10), (3, .ref (ad 1000)), (4, .ref (ad 1001))] := hl
  have hP : va_P (dC, dI) vwCl [(h0, .inr (9, [.null, .null, .null, .int 0, .int 0, .int 0, .int 0, .int 0]))] s.heap := hP
  refine lv_aload_n hx hb d_X9_B_0 rfl (lv_at hl 0 rfl) ?_
  refine W.objInit hx hb hown (hts _ wd_52) (hts _ wd_23) (hts _ wd_24) rfl (by rw [hml]; exact hl.1) rfl d_X9_B_1 (Nat.le_of_ble_eq_true rfl) (Nat.le_of_ble_eq_true rfl) ?_
  refine W.eq (g2 := F0 m 4 ls []) rfl ?_
  refine lv_aload_n hx hb d_X9_B_4 rfl (lv_at hl 0 rfl) ?_
  refine lv_iload_n hx hb d_X9_B_5 rfl (lv_at hl 1 rfl) ?_
  refine va_newa (atype := .int) (a0 := (39, .inl (fun _ => 0))) hx hb (hts _ wd_84) rfl hK hP hD hS hA (fun _ => rfl) (by decide) (by decide) (by decide) (Nat.le_of_ble_eq_true rfl) (Nat.le_of_ble_eq_true rfl) d_X9_B_6 (fun q0 cA H hK2 hP hD hS => ?_)
  obtain rfl : cA = tc 0 := gTc0 hK2
  have hP : va_P (dC, dI) vwCl [(h0, .inr (9, [.null, .null, .null, .int 0, .int 0, .int 0, .int 0, .int 0])), (q0, .inl (tc 0, 39, .inl (fun _ => 0)))] H := hP
  have hD : va_D A [(h0, .inr (9, [.null, .null, .null, .int 0, .int 0, .int 0, .int 0, .int 0])), (q0, .inl (tc 0, 39, .inl (fun _ => 0)))] := hD
  refine W.widen (k := 1) (n := 39) (by decide) (by decide) ?_
  refine va_putF (D := (dC, dI)) (ci := 9) (v := .ref q0) (ty := .array .int) (C := RX9) (T := TX9) (N := 8) hx hb hts inW9 tyX9 tyX9_ok nmX9 hown hK hP hD hS 0 rfl rfl 0 (by decide) (hts _ wd_53) (fun _ h9 => h9) rfl hin rfl (by decide +kernel) rfl rfl (Nat.le_of_ble_eq_true rfl) d_X9_B_8 (fun H locs hP hD hS => ?_)
  have hP : va_P (dC, dI) vwCl [(h0, .inr (9, [.ref q0, .null, .null, .int 0, .int 0, .int 0, .int 0, .int 0])), (q0, .inl (tc 0, 39, .inl (fun _ => 0)))] H := hP
  have hD : va_D A [(h0, .inr (9, [.ref q0, .null, .null, .int 0, .int 0, .int 0, .int 0, .int 0])), (q0, .inl (tc 0, 39, .inl (fun _ => 0)))] := hD
  refine lv_aload_n hx hb d_X9_B_11 rfl (lv_at hl 0 rfl) ?_
  refine lv_aload_n hx hb d_X9_B_12 rfl (lv_at hl 3 rfl) ?_
  refine va_putF (D := (dC, dI)) (ci := 9) (v := .ref (ad 1000)) (ty := .array .int) (C := RX9) (T := TX9) (N := 8) hx hb hts inW9 tyX9 tyX9_ok nmX9 hown hK hP hD hS 0 rfl rfl 1 (by decide) (hts _ wd_56) (fun _ h9 => h9) rfl hin rfl (by decide +kernel) rfl rfl (Nat.le_of_ble_eq_true rfl) d_X9_B_13 (fun H locs hP hD hS => ?_)
  have hP : va_P (dC, dI) vwCl [(h0, .inr (9, [.ref q0, .ref (ad 1000), .null, .int 0, .int 0, .int 0, .int 0, .int 0])), (q0, .inl (tc 0, 39, .inl (fun _ => 0)))] H := hP
  have hD : va_D A [(h0, .inr (9, [.ref q0, .ref (ad 1000), .null, .int 0, .int 0, .int 0, .int 0, .int 0])), (q0, .inl (tc 0, 39, .inl (fun _ => 0)))] := hD
  refine lv_aload_n hx hb d_X9_B_16 rfl (lv_at hl 0 rfl) ?_
  refine lv_aload hx hb d_X9_B_17 (lv_at hl 4 rfl) ?_
  refine va_putF (D := (dC, dI)) (ci := 9) (v := .ref (ad 1001)) (ty := .array .int) (C := RX9) (T := TX9) (N := 8) hx hb hts inW9 tyX9 tyX9_ok nmX9 hown hK hP hD hS 0 rfl rfl 2 (by decide) (hts _ wd_57) (fun _ h9 => h9) rfl hin rfl (by decide +kernel) rfl rfl (Nat.le_of_ble_eq_true rfl) d_X9_B_19 (fun H locs hP hD hS => ?_)
  have hP : va_P (dC, dI) vwCl [(h0, .inr (9, [.ref q0, .ref (ad 1000), .ref (ad 1001), .int 0, .int 0, .int 0, .int 0, .int 0])), (q0, .inl (tc 0, 39, .inl (fun _ => 0)))] H := hP
  have hD : va_D A [(h0, .inr (9, [.ref q0, .ref (ad 1000), .ref (ad 1001), .int 0, .int 0, .int 0, .int 0, .int 0])), (q0, .inl (tc 0, 39, .inl (fun _ => 0)))] := hD
  refine lv_aload_n hx hb d_X9_B_22 rfl (lv_at hl 0 rfl) ?_
  refine lv_iload_n hx hb d_X9_B_23 rfl (lv_at hl 2 rfl) ?_
  refine va_putF (D := (dC, dI)) (ci := 9) (v := .int 10) (ty := .int) (C := RX9) (T := TX9) (N := 8) hx hb hts inW9 tyX9 tyX9_ok nmX9 hown hK hP hD hS 0 rfl rfl 3 (by decide) (hts _ wd_58) (fun _ h9 => h9) rfl hin rfl (by decide +kernel) rfl rfl (Nat.le_of_ble_eq_true rfl) d_X9_B_24 (fun H locs hP hD hS => ?_)
  have hP : va_P (dC, dI) vwCl [(h0, .inr (9, [.ref q0, .ref (ad 1000), .ref (ad 1001), .int 10, .int 0, .int 0, .int 0, .int 0])), (q0, .inl (tc 0, 39, .inl (fun _ => 0)))] H := hP
  have hD : va_D A [(h0, .inr (9, [.ref q0, .ref (ad 1000), .ref (ad 1001), .int 10, .int 0, .int 0, .int 0, .int 0])), (q0, .inl (tc 0, 39, .inl (fun _ => 0)))] := hD
  refine lv_aload_n hx hb d_X9_B_27 rfl (lv_at hl 0 rfl) ?_
  refine lv_aload_n hx hb d_X9_B_28 rfl (lv_at hl 3 rfl) ?_
  refine va_slen hx hb (hro 0 _ _ _ rfl).1 (hro 0 _ _ _ rfl).2.1 (hro 0 _ _ _ rfl).2.2.1 hS d_X9_B_29 ?_
  refine W.eq (g2 := F0 m 30 ls [.int 3, .ref h0]) rfl ?_
  refine lv_iconst (v := 1) hx hb d_X9_B_30 (by decide) ?_
  refine lv_iadd hx hb d_X9_B_31 ?_
  refine W.eq (g2 := F0 m 32 ls [.int 4, .ref h0]) rfl ?_
  refine va_putF (D := (dC, dI)) (ci := 9) (v := .int 4) (ty := .int) (C := RX9) (T := TX9) (N := 8) hx hb hts inW9 tyX9 tyX9_ok nmX9 hown hK hP hD hS 0 rfl rfl 4 (by decide) (hts _ wd_59) (fun _ h9 => h9) rfl hin rfl (by decide +kernel) rfl rfl (Nat.le_of_ble_eq_true rfl) d_X9_B_32 (fun H locs hP hD hS => ?_)
  have hP : va_P (dC, dI) vwCl [(h0, .inr (9, [.ref q0, .ref (ad 1000), .ref (ad 1001), .int 10, .int 4, .int 0, .int 0, .int 0])), (q0, .inl (tc 0, 39, .inl (fun _ => 0)))] H := hP
  have hD : va_D A [(h0, .inr (9, [.ref q0, .ref (ad 1000), .ref (ad 1001), .int 10, .int 4, .int 0, .int 0, .int 0])), (q0, .inl (tc 0, 39, .inl (fun _ => 0)))] := hD
  refine lv_aload_n hx hb d_X9_B_35 rfl (lv_at hl 0 rfl) ?_
  refine lv_iconst (v := 0) hx hb d_X9_B_36 (by decide) ?_
  refine va_put (D := (dC, dI)) (ci := 9) (v := .int 0) (ty := .int) (C := RX9) (T := TX9) (N := 8) hx hb hts inW9 tyX9 tyX9_ok nmX9 hown hK hP hD hS 0 rfl rfl 5 (by decide) (hts _ wd_60) (fun _ h9 => h9) rfl (by decide +kernel) rfl rfl (Nat.le_of_ble_eq_true rfl) d_X9_B_37 (fun H locs hP hD hS => ?_)
  have hP : va_P (dC, dI) vwCl [(h0, .inr (9, [.ref q0, .ref (ad 1000), .ref (ad 1001), .int 10, .int 4, .int 0, .int 0, .int 0])), (q0, .inl (tc 0, 39, .inl (fun _ => 0)))] H := hP
  have hD : va_D A [(h0, .inr (9, [.ref q0, .ref (ad 1000), .ref (ad 1001), .int 10, .int 4, .int 0, .int 0, .int 0])), (q0, .inl (tc 0, 39, .inl (fun _ => 0)))] := hD
  refine lv_aload_n hx hb d_X9_B_40 rfl (lv_at hl 0 rfl) ?_
  refine lv_iconst (v := -1) hx hb d_X9_B_41 (by decide) ?_
  refine va_put (D := (dC, dI)) (ci := 9) (v := .int (-1)) (ty := .int) (C := RX9) (T := TX9) (N := 8) hx hb hts inW9 tyX9 tyX9_ok nmX9 hown hK hP hD hS 0 rfl rfl 6 (by decide) (hts _ wd_62) (fun _ h9 => h9) rfl (by decide +kernel) rfl rfl (Nat.le_of_ble_eq_true rfl) d_X9_B_42 (fun H locs hP hD hS => ?_)
  have hP : va_P (dC, dI) vwCl [(h0, .inr (9, [.ref q0, .ref (ad 1000), .ref (ad 1001), .int 10, .int 4, .int 0, .int (-1), .int 0])), (q0, .inl (tc 0, 39, .inl (fun _ => 0)))] H := hP
  have hD : va_D A [(h0, .inr (9, [.ref q0, .ref (ad 1000), .ref (ad 1001), .int 10, .int 4, .int 0, .int (-1), .int 0])), (q0, .inl (tc 0, 39, .inl (fun _ => 0)))] := hD
  refine lv_aload_n hx hb d_X9_B_45 rfl (lv_at hl 0 rfl) ?_
  refine lv_iconst (v := 0) hx hb d_X9_B_46 (by decide) ?_
  refine va_put (D := (dC, dI)) (ci := 9) (v := .int 0) (ty := .int) (C := RX9) (T := TX9) (N := 8) hx hb hts inW9 tyX9 tyX9_ok nmX9 hown hK hP hD hS 0 rfl rfl 7 (by decide) (hts _ wd_64) (fun _ h9 => h9) rfl (by decide +kernel) rfl rfl (Nat.le_of_ble_eq_true rfl) d_X9_B_47 (fun H locs hP hD hS => ?_)
  have hP : va_P (dC, dI) vwCl [(h0, .inr (9, [.ref q0, .ref (ad 1000), .ref (ad 1001), .int 10, .int 4, .int 0, .int (-1), .int 0])), (q0, .inl (tc 0, 39, .inl (fun _ => 0)))] H := hP
  have hD : va_D A [(h0, .inr (9, [.ref q0, .ref (ad 1000), .ref (ad 1001), .int 10, .int 4, .int 0, .int (-1), .int 0])), (q0, .inl (tc 0, 39, .inl (fun _ => 0)))] := hD
  have hP9 : va_P (dC, dI) vwCl (w_X9_B ad tc h0 (fun i => ([q0] : List Nat).getD i 0)) _ := hP.sub [0, 1] rfl
  have hD9 : va_D A (w_X9_B ad tc h0 (fun i => ([q0] : List Nat).getD i 0)) := hD.sub [0, 1] (by decide) rfl
  exact W.vret hx hb hr (fun t ht hW => ⟨⟨(fun i => ([q0] : List Nat).getD i 0), rfl, trivial, by rw [ht]; exact hP9, hD9⟩, hS.F ht⟩) hS.2.2 d_X9_B_50
theorem d_X9_L_0 : decode cX9_init 0 = .ok (.aload_n 0, 1) := by decide +kernel
theorem d_X9_L_1 : decode cX9_init 1 = .ok (.invokespecial 3, 3) := by decide +kernel
theorem d_X9_L_4 : decode cX9_init 4 = .ok (.aload_n 0, 1) := by decide +kernel
theorem d_X9_L_5 : decode cX9_init 5 = .ok (.iload_n 1, 1) := by decide +kernel
theorem d_X9_L_6 : decode cX9_init 6 = .ok (.newarray .int, 2) := by decide +kernel
theorem d_X9_L_8 : decode cX9_init 8 = .ok (.putfield 9, 3) := by decide +kernel
theorem d_X9_L_11 : decode cX9_init 11 = .ok (.aload_n 0, 1) := by decide +kernel
theorem d_X9_L_12 : decode cX9_init 12 = .ok (.aload_n 3, 1) := by decide +kernel
theorem d_X9_L_13 : decode cX9_init 13 = .ok (.putfield 15, 3) := by decide +kernel
theorem d_X9_L_16 : decode cX9_init 16 = .ok (.aload_n 0, 1) := by decide +kernel
theorem d_X9_L_17 : decode cX9_init 17 = .ok (.aload 4, 2) := by decide +kernel
theorem d_X9_L_19 : decode cX9_init 19 = .ok (.putfield 18, 3) := by decide +kernel
theorem d_X9_L_22 : decode cX9_init 22 = .ok (.aload_n 0, 1) := by decide +kernel
theorem d_X9_L_23 : decode cX9_init 23 = .ok (.iload_n 2, 1) := by decide +kernel
theorem d_X9_L_24 : decode cX9_init 24 = .ok (.putfield 21, 3) := by decide +kernel
theorem d_X9_L_27 : decode cX9_init 27 = .ok (.aload_n 0, 1) := by decide +kernel
theorem d_X9_L_28 : decode cX9_init 28 = .ok (.aload_n 3, 1) := by decide +kernel
theorem d_X9_L_29 : decode cX9_init 29 = .ok (.arraylength, 1) := by decide +kernel
theorem d_X9_L_30 : decode cX9_init 30 = .ok (.iconst 1, 1) := by decide +kernel
theorem d_X9_L_31 : decode cX9_init 31 = .ok (.iadd, 1) := by decide +kernel
theorem d_X9_L_32 : decode cX9_init 32 = .ok (.putfield 25, 3) := by decide +kernel
theorem d_X9_L_35 : decode cX9_init 35 = .ok (.aload_n 0, 1) := by decide +kernel
theorem d_X9_L_36 : decode cX9_init 36 = .ok (.iconst 0, 1) := by decide +kernel
theorem d_X9_L_37 : decode cX9_init 37 = .ok (.putfield 28, 3) := by decide +kernel
theorem d_X9_L_40 : decode cX9_init 40 = .ok (.aload_n 0, 1) := by decide +kernel
theorem d_X9_L_41 : decode cX9_init 41 = .ok (.iconst (-1), 1) := by decide +kernel
theorem d_X9_L_42 : decode cX9_init 42 = .ok (.putfield 31, 3) := by decide +kernel
theorem d_X9_L_45 : decode cX9_init 45 = .ok (.aload_n 0, 1) := by decide +kernel
theorem d_X9_L_46 : decode cX9_init 46 = .ok (.iconst 0, 1) := by decide +kernel
theorem d_X9_L_47 : decode cX9_init 47 = .ok (.putfield 34, 3) := by decide +kernel
theorem d_X9_L_50 : decode cX9_init 50 = .ok (.return_, 1) := by decide +kernel
def w_X9_L (ad : Nat → Nat) (tc : Nat → ClassId) (h0 : Nat) (g : Nat → Nat) : va_W := [(h0, .inr (9, [.ref (g 0), .ref (ad 1002), .ref (ad 1003), .int 12, .int 3, .int 0, .int (-1), .int 0])), (g 0, .inl (tc 0, 35, .inl (fun _ => 0)))]
set_option maxHeartbeats 4000000 in
set_option maxRecDepth 100000 in
theorem n_X9_L (l : Launch) (ad : Nat → Nat) (dC : Nat → ClassId) (dI : Nat → Nat → Nat) (tc : Nat → ClassId) (h0 sz : Nat) : Met l yX9_init (Cond.code yX9_init cX9_init 5 none :: gW) ({ frames := 1, cells := 1, slots := 35, locals := 80 }) (nPre ad dC dI tc h0 sz 9 [.null, .null, .null, .int 0, .int 0, .int 0, .int 0, .int 0] [.ref h0, .int 35, .int 12, .ref (ad 1002), .ref (ad 1003)]) (nPost dC dI (w_X9_L ad tc h0) (va_A [(h0, .inr (9, [.null, .null, .null, .int 0, .int 0, .int 0, .int 0, .int 0]))] sz)) 1 35 (va_A [(h0, .inr (9, [.null, .null, .null, .int 0, .int 0, .int 0, .int 0, .int 0]))] sz) := by
  refine Met.ofW (cc := cX9_init) (maxL := 5) (ret := none) (by decide) rfl ?_
  intro p e s m args below meth c s₁ B hml hv
  obtain ⟨rfl, hsz, hP, hK, hD0, hro, hnw, hao1, hao2⟩ := hv
  have hx := B.exec
  have hb := B.bytes
  have hr := B.returns
  have hts0 := atoms_spec (ws := Cond.code yX9_init cX9_init 5 none :: gW) B.pre
  have hts : ∀ w ∈ gW, w.before _ s = true := fun w h => hts0 w (List.mem_cons_of_mem _ h)
  have hown : s.vm.findClass RX9 = some m.cls := findClass_of_methodNamed B.named
  have hin : meth.name = "<init>" := (name_of_methodNamed B.named B.method).1
  subst hsz
  have hD := hD0.self (sz := s.heap.size)
  generalize hAe : va_A [(h0, .inr (9, [.null, .null, .null, .int 0, .int 0, .int 0, .int 0, .int 0]))] s.heap.size = A at hD hro ⊢
  have hA : ∀ q : Nat, s.heap.size ≤ q → A q := fun q h => by rw [← hAe]; exact Or.inr h
  have hS : va_S A s.heap s.heap [] := va_S.rf
  have hl := lv_entry ([.ref h0, .int 35, .int 12, .ref (ad 1002), .ref (ad 1003)]) (n := 5) (Nat.le_of_ble_eq_true rfl)
  rw [lg_entry_eq]
  generalize (lg_sl ([.ref h0, .int 35, .int 12, .ref (ad 1002), .ref (ad 1003)]) ++ List.replicate (5 - (lg_sl ([.ref h0, .int 35, .int 12, .ref (ad 1002), .ref (ad 1003)])).length) Slot.unset).toArray = ls at hl ⊢
  have hl : lv_has ls 5 [(0, .ref h0), (1, .int 35), (2, .int 12), (3, .ref (ad 1002)), (4, .ref (ad 1003))] := hl
  have hP : va_P (dC, dI) vwCl [(h0, .inr (9, [.null, .null, .null, .int 0, .int 0, .int 0, .int 0, .int 0]))] s.heap := hP
  refine lv_aload_n hx hb d_X9_L_0 rfl (lv_at hl 0 rfl) ?_
  refine W.objInit hx hb hown (hts _ wd_52) (hts _ wd_23) (hts _ wd_24) rfl (by rw [hml]; exact hl.1) rfl d_X9_L_1 (Nat.le_of_ble_eq_true rfl) (Nat.le_of_ble_eq_true rfl) ?_
  refine W.eq (g2 := F0 m 4 ls []) rfl ?_
  refine lv_aload_n hx hb d_X9_L_4 rfl (lv_at hl 0 rfl) ?_
  refine lv_iload_n hx hb d_X9_L_5 rfl (lv_at hl 1 rfl) ?_
  refine va_newa (atype := .int) (a0 := (35, .inl (fun _ => 0))) hx hb (hts _ wd_84) rfl hK hP hD hS hA (fun _ => rfl) (by decide) (by decide) (by decide) (Nat.le_of_ble_eq_true rfl) (Nat.le_of_ble_eq_true rfl) d_X9_L_6 (fun q0 cA H hK2 hP hD hS => ?_)
  obtain rfl : cA = tc 0 := gTc0 hK2
  have hP : va_P (dC, dI) vwCl [(h0, .inr (9, [.null, .null, .null, .int 0, .int 0, .int 0, .int 0, .int 0])), (q0, .inl (tc 0, 35, .inl (fun _ => 0)))] H := hP
  have hD : va_D A [(h0, .inr (9, [.null, .null, .null, .int 0, .int 0, .int 0, .int 0, .int 0])), (q0, .inl (tc 0, 35, .inl (fun _ => 0)))] := hD
  refine W.widen (k := 1) (n := 35) (by decide) (by decide) ?_
  refine va_putF (D := (dC, dI)) (ci := 9) (v := .ref q0) (ty := .array .int) (C := RX9) (T := TX9) (N := 8) hx hb hts inW9 tyX9 tyX9_ok nmX9 hown hK hP hD hS 0 rfl rfl 0 (by decide) (hts _ wd_53) (fun _ h9 => h9) rfl hin rfl (by decide +kernel) rfl rfl (Nat.le_of_ble_eq_true rfl) d_X9_L_8 (fun H locs hP hD hS => ?_)
  have hP : va_P (dC, dI) vwCl [(h0, .inr (9, [.ref q0, .null, .null, .int 0, .int 0, .int 0, .int 0, .int 0])), (q0, .inl (tc 0, 35, .inl (fun _ => 0)))] H := hP
  have hD : va_D A [(h0, .inr (9, [.ref q0, .null, .null, .int 0, .int 0, .int 0, .int 0, .int 0])), (q0, .inl (tc 0, 35, .inl (fun _ => 0)))] := hD
  refine lv_aload_n hx hb d_X9_L_11 rfl (lv_at hl 0 rfl) ?_
  refine lv_aload_n hx hb d_X9_L_12 rfl (lv_at hl 3 rfl) ?_
  refine va_putF (D := (dC, dI)) (ci := 9) (v := .ref (ad 1002)) (ty := .array .int) (C := RX9) (T := TX9) (N := 8) hx hb hts inW9 tyX9 tyX9_ok nmX9 hown hK hP hD hS 0 rfl rfl 1 (by decide) (hts _ wd_56) (fun _ h9 => h9) rfl hin rfl (by decide +kernel) rfl rfl (Nat.le_of_ble_eq_true rfl) d_X9_L_13 (fun H locs hP hD hS => ?_)
  have hP : va_P (dC, dI) vwCl [(h0, .inr (9, [.ref q0, .ref (ad 1002), .null, .int 0, .int 0, .int 0, .int 0, .int 0])), (q0, .inl (tc 0, 35, .inl (fun _ => 0)))] H := hP
  have hD : va_D A [(h0, .inr (9, [.ref q0, .ref (ad 1002), .null, .int 0, .int 0, .int 0, .int 0, .int 0])), (q0, .inl (tc 0, 35, .inl (fun _ => 0)))] := hD
  refine lv_aload_n hx hb d_X9_L_16 rfl (lv_at hl 0 rfl) ?_
  refine lv_aload hx hb d_X9_L_17 (lv_at hl 4 rfl) ?_
  refine va_putF (D := (dC, dI)) (ci := 9) (v := .ref (ad 1003)) (ty := .array .int) (C := RX9) (T := TX9) (N := 8) hx hb hts inW9 tyX9 tyX9_ok nmX9 hown hK hP hD hS 0 rfl rfl 2 (by decide) (hts _ wd_57) (fun _ h9 => h9) rfl hin rfl (by decide +kernel) rfl rfl (Nat.le_of_ble_eq_true rfl) d_X9_L_19 (fun H locs hP hD hS => ?_)
  have hP : va_P (dC, dI) vwCl [(h0, .inr (9, [.ref q0, .ref (ad 1002), .ref (ad 1003), .int 0, .int 0, .int 0, .int 0, .int 0])), (q0, .inl (tc 0, 35, .inl (fun _ => 0)))] H := hP
  have hD : va_D A [(h0, .inr (9, [.ref q0, .ref (ad 1002), .ref (ad 1003), .int 0, .int 0, .int 0, .int 0, .int 0])), (q0, .inl (tc 0, 35, .inl (fun _ => 0)))] := hD
  refine lv_aload_n hx hb d_X9_L_22 rfl (lv_at hl 0 rfl) ?_
  refine lv_iload_n hx hb d_X9_L_23 rfl (lv_at hl 2 rfl) ?_
  refine va_putF (D := (dC, dI)) (ci := 9) (v := .int 12) (ty := .int) (C := RX9) (T := TX9) (N := 8) hx hb hts inW9 tyX9 tyX9_ok nmX9 hown hK hP hD hS 0 rfl rfl 3 (by decide) (hts _ wd_58) (fun _ h9 => h9) rfl hin rfl (by decide +kernel) rfl rfl (Nat.le_of_ble_eq_true rfl) d_X9_L_24 (fun H locs hP hD hS => ?_)
  have hP : va_P (dC, dI) vwCl [(h0, .inr (9, [.ref q0, .ref (ad 1002), .ref (ad 1003), .int 12, .int 0, .int 0, .int 0, .int 0])), (q0, .inl (tc 0, 35, .inl (fun _ => 0)))] H := hP
  have hD : va_D A [(h0, .inr (9, [.ref q0, .ref (ad 1002), .ref (ad 1003), .int 12, .int 0, .int 0, .int 0, .int 0])), (q0, .inl (tc 0, 35, .inl (fun _ => 0)))] := hD
  refine lv_aload_n hx hb d_X9_L_27 rfl (lv_at hl 0 rfl) ?_
  refine lv_aload_n hx hb d_X9_L_28 rfl (lv_at hl 3 rfl) ?_
  refine va_slen hx hb (hro 2 _ _ _ rfl).1 (hro 2 _ _ _ rfl).2.1 (hro 2 _ _ _ rfl).2.2.1 hS d_X9_L_29 ?_
  refine W.eq (g2 := F0 m 30 ls [.int 2, .ref h0]) rfl ?_
  refine lv_iconst (v := 1) hx hb d_X9_L_30 (by decide) ?_
  refine lv_iadd hx hb d_X9_L_31 ?_
  refine W.eq (g2 := F0 m 32 ls [.int 3, .ref h0]) rfl ?_
  refine va_putF (D := (dC, dI)) (ci := 9) (v := .int 3) (ty := .int) (C := RX9) (T := TX9) (N := 8) hx hb hts inW9 tyX9 tyX9_ok nmX9 hown hK hP hD hS 0 rfl rfl 4 (by decide) (hts _ wd_59) (fun _ h9 => h9) rfl hin rfl (by decide +kernel) rfl rfl (Nat.le_of_ble_eq_true rfl) d_X9_L_32 (fun H locs hP hD hS => ?_)
  have hP : va_P (dC, dI) vwCl [(h0, .inr (9, [.ref q0, .ref (ad 1002), .ref (ad 1003), .int 12, .int 3, .int 0, .int 0, .int 0])), (q0, .inl (tc 0, 35, .inl (fun _ => 0)))] H := hP
  have hD : va_D A [(h0, .inr (9, [.ref q0, .ref (ad 1002), .ref (ad 1003), .int 12, .int 3, .int 0, .int 0, .int 0])), (q0, .inl (tc 0, 35, .inl (fun _ => 0)))] := hD
  refine lv_aload_n hx hb d_X9_L_35 rfl (lv_at hl 0 rfl) ?_
  refine lv_iconst (v := 0) hx hb d_X9_L_36 (by decide) ?_
  refine va_put (D := (dC, dI)) (ci := 9) (v := .int 0) (ty := .int) (C := RX9) (T := TX9) (N := 8) hx hb hts inW9 tyX9 tyX9_ok nmX9 hown hK hP hD hS 0 rfl rfl 5 (by decide) (hts _ wd_60) (fun _ h9 => h9) rfl (by decide +kernel) rfl rfl (Nat.le_of_ble_eq_true rfl) d_X9_L_37 (fun H locs hP hD hS => ?_)
  have hP : va_P (dC, dI) vwCl [(h0, .inr (9, [.ref q0, .ref (ad 1002), .ref (ad 1003), .int 12, .int 3, .int 0, .int 0, .int 0])), (q0, .inl (tc 0, 35, .inl (fun _ => 0)))] H := hP
  have hD : va_D A [(h0, .inr (9, [.ref q0, .ref (ad 1002), .ref (ad 1003), .int 12, .int 3, .int 0, .int 0, .int 0])), (q0, .inl (tc 0, 35, .inl (fun _ => 0)))] := hD
  refine lv_aload_n hx hb d_X9_L_40 rfl (lv_at hl 0 rfl) ?_
  refine lv_iconst (v := -1) hx hb d_X9_L_41 (by decide) ?_
  refine va_put (D := (dC, dI)) (ci := 9) (v := .int (-1)) (ty := .int) (C := RX9) (T := TX9) (N := 8) hx hb hts inW9 tyX9 tyX9_ok nmX9 hown hK hP hD hS 0 rfl rfl 6 (by decide) (hts _ wd_62) (fun _ h9 => h9) rfl (by decide +kernel) rfl rfl (Nat.le_of_ble_eq_true rfl) d_X9_L_42 (fun H locs hP hD hS => ?_)
  have hP : va_P (dC, dI) vwCl [(h0, .inr (9, [.ref q0, .ref (ad 1002), .ref (ad 1003), .int 12, .int 3, .int 0, .int (-1), .int 0])), (q0, .inl (tc 0, 35, .inl (fun _ => 0)))] H := hP
  have hD : va_D A [(h0, .inr (9, [.ref q0, .ref (ad 1002), .ref (ad 1003), .int 12, .int 3, .int 0, .int (-1), .int 0])), (q0, .inl (tc 0, 35, .inl (fun _ => 0)))] := hD
  refine lv_aload_n hx hb d_X9_L_45 rfl (lv_at hl 0 rfl) ?_
  refine lv_iconst (v := 0) hx hb d_X9_L_46 (by decide) ?_
  refine va_put (D := (dC, dI)) (ci := 9) (v := .int 0) (ty := .int) (C := RX9) (T := TX9) (N := 8) hx hb hts inW9 tyX9 tyX9_ok nmX9 hown hK hP hD hS 0 rfl rfl 7 (by decide) (hts _ wd_64) (fun _ h9 => h9) rfl (by decide +kernel) rfl rfl (Nat.le_of_ble_eq_true rfl) d_X9_L_47 (fun H locs hP hD hS => ?_)
  have hP : va_P (dC, dI) vwCl [(h0, .inr (9, [.ref q0, .ref (ad 1002), .ref (ad 1003), .int 12, .int 3, .int 0, .int (-1), .int 0])), (q0, .inl (tc 0, 35, .inl (fun _ => 0)))] H := hP
  have hD : va_D A [(h0, .inr (9, [.ref q0, .ref (ad 1002), .ref (ad 1003), .int 12, .int 3, .int 0, .int (-1), .int 0])), (q0, .inl (tc 0, 35, .inl (fun _ => 0)))] := hD
  have hP9 : va_P (dC, dI) vwCl (w_X9_L ad tc h0 (fun i => ([q0] : List Nat).getD i 0)) _ := hP.sub [0, 1] rfl
  have hD9 : va_D A (w_X9_L ad tc h0 (fun i => ([q0] : List Nat).getD i 0)) := hD.sub [0, 1] (by decide) rfl
  exact W.vret hx hb hr (fun t ht hW => ⟨⟨(fun i => ([q0] : List Nat).getD i 0), rfl, trivial, by rw [ht]; exact hP9, hD9⟩, hS.F ht⟩) hS.2.2 d_X9_L_50
theorem d_X0_0 : decode cX0_init 0 = .ok (.aload_n 0, 1) := by decide +kernel
theorem d_X0_1 : decode cX0_init 1 = .ok (.invokespecial 3, 3) := by decide +kernel
theorem d_X0_4 : decode cX0_init 4 = .ok (.aload_n 0, 1) := by decide +kernel
theorem d_X0_5 : decode cX0_init 5 = .ok (.new 9, 3) := by decide +kernel
theorem d_X0_8 : decode cX0_init 8 = .ok (.dup, 1) := by decide +kernel
theorem d_X0_9 : decode cX0_init 9 = .ok (.bipush 39, 2) := by decide +kernel
theorem d_X0_11 : decode cX0_init 11 = .ok (.bipush 10, 2) := by decide +kernel
theorem d_X0_13 : decode cX0_init 13 = .ok (.getstatic 11, 3) := by decide +kernel
theorem d_X0_16 : decode cX0_init 16 = .ok (.getstatic 15, 3) := by decide +kernel
theorem d_X0_19 : decode cX0_init 19 = .ok (.invokespecial 18, 3) := by decide +kernel
theorem d_X0_22 : decode cX0_init 22 = .ok (.putfield 21, 3) := by decide +kernel
theorem d_X0_25 : decode cX0_init 25 = .ok (.return_, 1) := by decide +kernel
def w_X0 (ad : Nat → Nat) (tc : Nat → ClassId) (h0 : Nat) (g : Nat → Nat) : va_W := [(h0, .inr (0, [.ref (g 0)])), (g 0, .inr (9, [.ref (g 1), .ref (ad 1000), .ref (ad 1001), .int 10, .int 4, .int 0, .int (-1), .int 0])), (g 1, .inl (tc 0, 39, .inl (fun _ => 0)))]
set_option maxHeartbeats 4000000 in
set_option maxRecDepth 100000 in
theorem n_X0 (l : Launch) (ad : Nat → Nat) (dC : Nat → ClassId) (dI : Nat → Nat → Nat) (tc : Nat → ClassId) (h0 sz : Nat) : Met l yX0_init (Cond.code yX0_init cX0_init 1 none :: gW) ({ frames := 2, cells := 2, slots := 47, locals := 120 }) (nPre ad dC dI tc h0 sz 0 [.null] [.ref h0]) (nPost dC dI (w_X0 ad tc h0) (va_A [(h0, .inr (0, [.null]))] sz)) 2 47 (va_A [(h0, .inr (0, [.null]))] sz) := by
  refine Met.ofW (cc := cX0_init) (maxL := 1) (ret := none) (by decide) rfl ?_
  intro p e s m args below meth c s₁ B hml hv
  obtain ⟨rfl, hsz, hP, hK, hD0, hro, hnw, hao1, hao2⟩ := hv
  have hx := B.exec
  have hb := B.bytes
  have hr := B.returns
  have hts0 := atoms_spec (ws := Cond.code yX0_init cX0_init 1 none :: gW) B.pre
  have hts : ∀ w ∈ gW, w.before _ s = true := fun w h => hts0 w (List.mem_cons_of_mem _ h)
  have hown : s.vm.findClass RX0 = some m.cls := findClass_of_methodNamed B.named
  have hin : meth.name = "<init>" := (name_of_methodNamed B.named B.method).1
  subst hsz
  have hD := hD0.self (sz := s.heap.size)
  generalize hAe : va_A [(h0, .inr (0, [.null]))] s.heap.size = A at hD hro ⊢
  have hA : ∀ q : Nat, s.heap.size ≤ q → A q := fun q h => by rw [← hAe]; exact Or.inr h
  have hS : va_S A s.heap s.heap [] := va_S.rf
  have hl := lv_entry ([.ref h0]) (n := 1) (Nat.le_of_ble_eq_true rfl)
  rw [lg_entry_eq]
  generalize (lg_sl ([.ref h0]) ++ List.replicate (1 - (lg_sl ([.ref h0])).length) Slot.unset).toArray = ls at hl ⊢
  have hl : lv_has ls 1 [(0, .ref h0)] := hl
  have hP : va_P (dC, dI) vwCl [(h0, .inr (0, [.null]))] s.heap := hP
  refine lv_aload_n hx hb d_X0_0 rfl (lv_at hl 0 rfl) ?_
  refine W.objInit hx hb hown (hts _ wd_42) (hts _ wd_23) (hts _ wd_24) rfl (by rw [hml]; exact hl.1) rfl d_X0_1 (Nat.le_of_ble_eq_true rfl) (Nat.le_of_ble_eq_true rfl) ?_
  refine W.eq (g2 := F0 m 4 ls []) rfl ?_
  refine lv_aload_n hx hb d_X0_4 rfl (lv_at hl 0 rfl) ?_
  refine va_new (ci := 9) (fs := [.null, .null, .null, .int 0, .int 0, .int 0, .int 0, .int 0]) (C := RX9) (T := TX9) (N := 8) hx hb hts inW9 tyX9 tyX9_ok hown (hts _ wd_43) (hts _ wd_44) (hts _ wd_5) hK hP hD hS hA rfl (fun j hj => by rcases (show j = 0 ∨ j = 1 ∨ j = 2 ∨ j = 3 ∨ j = 4 ∨ j = 5 ∨ j = 6 ∨ j = 7 by omega) with rfl | rfl | rfl | rfl | rfl | rfl | rfl | rfl <;> rfl) (Nat.le_of_ble_eq_true rfl) (Nat.le_of_ble_eq_true rfl) d_X0_5 (fun q0 H hP hD hS => ?_)
  have hP : va_P (dC, dI) vwCl [(h0, .inr (0, [.null])), (q0, .inr (9, [.null, .null, .null, .int 0, .int 0, .int 0, .int 0, .int 0]))] H := hP
  have hD : va_D A [(h0, .inr (0, [.null])), (q0, .inr (9, [.null, .null, .null, .int 0, .int 0, .int 0, .int 0, .int 0]))] := hD
  refine W.widen (k := 1) (n := 8) (by decide) (by decide) ?_
  refine lv_dup hx hb d_X0_8 rfl ?_
  refine lv_bipush (v := 39) hx hb d_X0_9 (by decide) ?_
  refine lv_bipush (v := 10) hx hb d_X0_11 (by decide) ?_
  refine va_getsN hx hb (hro 0 _ _ _ rfl).2.2.2 hS hown (gNest_use (hnw _ wn_45) rfl) (fun _ h => h) d_X0_13 ?_
  refine va_getsN hx hb (hro 1 _ _ _ rfl).2.2.2 hS hown (gNest_use (hnw _ wn_47) rfl) (fun _ h => h) d_X0_16 ?_
  have hPc := hP.sub (ws' := [(q0, .inr (9, [.null, .null, .null, .int 0, .int 0, .int 0, .int 0, .int 0]))]) [1] rfl
  have hDc := hD.sub (ws' := [(q0, .inr (9, [.null, .null, .null, .int 0, .int 0, .int 0, .int 0, .int 0]))]) [1] (by decide) rfl
  have hFc := va_free (wc := [(q0, .inr (9, [.null, .null, .null, .int 0, .int 0, .int 0, .int 0, .int 0]))]) hD hS hA [1] rfl
  refine va_callv (va_runI (As := [.int 39, .int 10, .ref (ad 1000), .ref (ad 1001)]) (rest := [.ref q0, .ref h0]) ⟨hx, hb, hml, hown, hts⟩ (n_X9_B l ad dC dI tc q0 H.size) (cwI 4 hts (gW_wscode wd_51) rfl rfl rfl (hts _ wd_5) (hts _ wd_49) (hts _ wd_50) rfl (by decide +kernel) ⟨(Nat.le_of_ble_eq_true rfl), (Nat.le_of_ble_eq_true rfl)⟩) ⟨nPre.blind, fun U hU hW => ⟨rfl, by rw [hU], by rw [hU]; exact hPc, va_K.moved hW.alike hK, hDc.weaken (fun _ _ _ _ => trivial), gRoH.next hro hS hFc hU hW.alike, gNest_warm hW hnw, va_AO.moved hW.alike hao1, va_AO.moved hW.alike hao2⟩⟩ rfl rfl hl.1 rfl (lv_room (Nat.le_of_ble_eq_true rfl)) d_X0_19 ⟨(Nat.le_of_ble_eq_true rfl), (Nat.le_of_ble_eq_true rfl)⟩) hS (fun q _ h => hFc q h) hFc (fun g1 t H1 locs ht hvm hw hB hz1 hk1 hS => ?_)
  obtain ⟨hP1, hD1⟩ := hB
  rw [ht] at hP1
  obtain ⟨hP, hD⟩ := va_join (wr := [(h0, .inr (0, [.null]))]) (w1 := w_X9_B ad tc q0 g1) hP hD [1] [0] rfl rfl (by decide) (by decide) hk1 hFc hP1 hD1
  generalize H1 = H at hP hS ⊢
  have hP : va_P (dC, dI) vwCl [(h0, .inr (0, [.null])), (q0, .inr (9, [.ref (g1 0), .ref (ad 1000), .ref (ad 1001), .int 10, .int 4, .int 0, .int (-1), .int 0])), (g1 0, .inl (tc 0, 39, .inl (fun _ => 0)))] H := hP
  have hD : va_D A [(h0, .inr (0, [.null])), (q0, .inr (9, [.ref (g1 0), .ref (ad 1000), .ref (ad 1001), .int 10, .int 4, .int 0, .int (-1), .int 0])), (g1 0, .inl (tc 0, 39, .inl (fun _ => 0)))] := hD
  refine W.widen (k := 2) (n := 47) (by decide) (by decide) ?_
  refine va_putF (D := (dC, dI)) (ci := 0) (v := .ref q0) (ty := .object "GorseGold$Text") (C := RX0) (T := TX0) (N := 1) hx hb hts inW0 tyX0 tyX0_ok nmX0 hown hK hP hD hS 0 rfl rfl 0 (by decide) (hts _ wd_85) (fun _ h9 => h9) rfl hin rfl (by decide +kernel) rfl rfl (Nat.le_of_ble_eq_true rfl) d_X0_22 (fun H locs hP hD hS => ?_)
  have hP : va_P (dC, dI) vwCl [(h0, .inr (0, [.ref q0])), (q0, .inr (9, [.ref (g1 0), .ref (ad 1000), .ref (ad 1001), .int 10, .int 4, .int 0, .int (-1), .int 0])), (g1 0, .inl (tc 0, 39, .inl (fun _ => 0)))] H := hP
  have hD : va_D A [(h0, .inr (0, [.ref q0])), (q0, .inr (9, [.ref (g1 0), .ref (ad 1000), .ref (ad 1001), .int 10, .int 4, .int 0, .int (-1), .int 0])), (g1 0, .inl (tc 0, 39, .inl (fun _ => 0)))] := hD
  have hP9 : va_P (dC, dI) vwCl (w_X0 ad tc h0 (fun i => ([q0, g1 0] : List Nat).getD i 0)) _ := hP.sub [0, 1, 2] rfl
  have hD9 : va_D A (w_X0 ad tc h0 (fun i => ([q0, g1 0] : List Nat).getD i 0)) := hD.sub [0, 1, 2] (by decide) rfl
  exact W.vret hx hb hr (fun t ht hW => ⟨⟨(fun i => ([q0, g1 0] : List Nat).getD i 0), rfl, trivial, by rw [ht]; exact hP9, hD9⟩, hS.F ht⟩) hS.2.2 d_X0_25
theorem d_X4_0 : decode cX4_init 0 = .ok (.aload_n 0, 1) := by decide +kernel
theorem d_X4_1 : decode cX4_init 1 = .ok (.invokespecial 3, 3) := by decide +kernel
theorem d_X4_4 : decode cX4_init 4 = .ok (.aload_n 0, 1) := by decide +kernel
theorem d_X4_5 : decode cX4_init 5 = .ok (.new 9, 3) := by decide +kernel
theorem d_X4_8 : decode cX4_init 8 = .ok (.dup, 1) := by decide +kernel
theorem d_X4_9 : decode cX4_init 9 = .ok (.bipush 35, 2) := by decide +kernel
theorem d_X4_11 : decode cX4_init 11 = .ok (.bipush 12, 2) := by decide +kernel
theorem d_X4_13 : decode cX4_init 13 = .ok (.getstatic 11, 3) := by decide +kernel
theorem d_X4_16 : decode cX4_init 16 = .ok (.getstatic 15, 3) := by decide +kernel
theorem d_X4_19 : decode cX4_init 19 = .ok (.invokespecial 18, 3) := by decide +kernel
theorem d_X4_22 : decode cX4_init 22 = .ok (.putfield 21, 3) := by decide +kernel
theorem d_X4_25 : decode cX4_init 25 = .ok (.return_, 1) := by decide +kernel
def w_X4 (ad : Nat → Nat) (tc : Nat → ClassId) (h0 : Nat) (g : Nat → Nat) : va_W := [(h0, .inr (4, [.ref (g 0)])), (g 0, .inr (9, [.ref (g 1), .ref (ad 1002), .ref (ad 1003), .int 12, .int 3, .int 0, .int (-1), .int 0])), (g 1, .inl (tc 0, 35, .inl (fun _ => 0)))]
set_option maxHeartbeats 4000000 in
set_option maxRecDepth 100000 in
theorem n_X4 (l : Launch) (ad : Nat → Nat) (dC : Nat → ClassId) (dI : Nat → Nat → Nat) (tc : Nat → ClassId) (h0 sz : Nat) : Met l yX4_init (Cond.code yX4_init cX4_init 1 none :: gW) ({ frames := 2, cells := 2, slots := 43, locals := 120 }) (nPre ad dC dI tc h0 sz 4 [.null] [.ref h0]) (nPost dC dI (w_X4 ad tc h0) (va_A [(h0, .inr (4, [.null]))] sz)) 2 43 (va_A [(h0, .inr (4, [.null]))] sz) := by
  refine Met.ofW (cc := cX4_init) (maxL := 1) (ret := none) (by decide) rfl ?_
  intro p e s m args below meth c s₁ B hml hv
  obtain ⟨rfl, hsz, hP, hK, hD0, hro, hnw, hao1, hao2⟩ := hv
  have hx := B.exec
  have hb := B.bytes
  have hr := B.returns
  have hts0 := atoms_spec (ws := Cond.code yX4_init cX4_init 1 none :: gW) B.pre
  have hts : ∀ w ∈ gW, w.before _ s = true := fun w h => hts0 w (List.mem_cons_of_mem _ h)
  have hown : s.vm.findClass RX4 = some m.cls := findClass_of_methodNamed B.named
  have hin : meth.name = "<init>" := (name_of_methodNamed B.named B.method).1
  subst hsz
  have hD := hD0.self (sz := s.heap.size)
  generalize hAe : va_A [(h0, .inr (4, [.null]))] s.heap.size = A at hD hro ⊢
  have hA : ∀ q : Nat, s.heap.size ≤ q → A q := fun q h => by rw [← hAe]; exact Or.inr h
  have hS : va_S A s.heap s.heap [] := va_S.rf
  have hl := lv_entry ([.ref h0]) (n := 1) (Nat.le_of_ble_eq_true rfl)
  rw [lg_entry_eq]
  generalize (lg_sl ([.ref h0]) ++ List.replicate (1 - (lg_sl ([.ref h0])).length) Slot.unset).toArray = ls at hl ⊢
  have hl : lv_has ls 1 [(0, .ref h0)] := hl
  have hP : va_P (dC, dI) vwCl [(h0, .inr (4, [.null]))] s.heap := hP
  refine lv_aload_n hx hb d_X4_0 rfl (lv_at hl 0 rfl) ?_
  refine W.objInit hx hb hown (hts _ wd_135) (hts _ wd_23) (hts _ wd_24) rfl (by rw [hml]; exact hl.1) rfl d_X4_1 (Nat.le_of_ble_eq_true rfl) (Nat.le_of_ble_eq_true rfl) ?_
  refine W.eq (g2 := F0 m 4 ls []) rfl ?_
  refine lv_aload_n hx hb d_X4_4 rfl (lv_at hl 0 rfl) ?_
  refine va_new (ci := 9) (fs := [.null, .null, .null, .int 0, .int 0, .int 0, .int 0, .int 0]) (C := RX9) (T := TX9) (N := 8) hx hb hts inW9 tyX9 tyX9_ok hown (hts _ wd_136) (hts _ wd_44) (hts _ wd_5) hK hP hD hS hA rfl (fun j hj => by rcases (show j = 0 ∨ j = 1 ∨ j = 2 ∨ j = 3 ∨ j = 4 ∨ j = 5 ∨ j = 6 ∨ j = 7 by omega) with rfl | rfl | rfl | rfl | rfl | rfl | rfl | rfl <;> rfl) (Nat.le_of_ble_eq_true rfl) (Nat.le_of_ble_eq_true rfl) d_X4_5 (fun q0 H hP hD hS => ?_)
  have hP : va_P (dC, dI) vwCl [(h0, .inr (4, [.null])), (q0, .inr (9, [.null, .null, .null, .int 0, .int 0, .int 0, .int 0, .int 0]))] H := hP
  have hD : va_D A [(h0, .inr (4, [.null])), (q0, .inr (9, [.null, .null, .null, .int 0, .int 0, .int 0, .int 0, .int 0]))] := hD
  refine W.widen (k := 1) (n := 8) (by decide) (by decide) ?_
  refine lv_dup hx hb d_X4_8 rfl ?_
  refine lv_bipush (v := 35) hx hb d_X4_9 (by decide) ?_
  refine lv_bipush (v := 12) hx hb d_X4_11 (by decide) ?_
  refine va_getsN hx hb (hro 2 _ _ _ rfl).2.2.2 hS hown (gNest_use (hnw _ wn_137) rfl) (fun _ h => h) d_X4_13 ?_
  refine va_getsN hx hb (hro 3 _ _ _ rfl).2.2.2 hS hown (gNest_use (hnw _ wn_139) rfl) (fun _ h => h) d_X4_16 ?_
  have hPc := hP.sub (ws' := [(q0, .inr (9, [.null, .null, .null, .int 0, .int 0, .int 0, .int 0, .int 0]))]) [1] rfl
  have hDc := hD.sub (ws' := [(q0, .inr (9, [.null, .null, .null, .int 0, .int 0, .int 0, .int 0, .int 0]))]) [1] (by decide) rfl
  have hFc := va_free (wc := [(q0, .inr (9, [.null, .null, .null, .int 0, .int 0, .int 0, .int 0, .int 0]))]) hD hS hA [1] rfl
  refine va_callv (va_runI (As := [.int 35, .int 12, .ref (ad 1002), .ref (ad 1003)]) (rest := [.ref q0, .ref h0]) ⟨hx, hb, hml, hown, hts⟩ (n_X9_L l ad dC dI tc q0 H.size) (cwI 4 hts (gW_wscode wd_51) rfl rfl rfl (hts _ wd_5) (hts _ wd_141) (hts _ wd_50) rfl (by decide +kernel) ⟨(Nat.le_of_ble_eq_true rfl), (Nat.le_of_ble_eq_true rfl)⟩) ⟨nPre.blind, fun U hU hW => ⟨rfl, by rw [hU], by rw [hU]; exact hPc, va_K.moved hW.alike hK, hDc.weaken (fun _ _ _ _ => trivial), gRoH.next hro hS hFc hU hW.alike, gNest_warm hW hnw, va_AO.moved hW.alike hao1, va_AO.moved hW.alike hao2⟩⟩ rfl rfl hl.1 rfl (lv_room (Nat.le_of_ble_eq_true rfl)) d_X4_19 ⟨(Nat.le_of_ble_eq_true rfl), (Nat.le_of_ble_eq_true rfl)⟩) hS (fun q _ h => hFc q h) hFc (fun g1 t H1 locs ht hvm hw hB hz1 hk1 hS => ?_)
  obtain ⟨hP1, hD1⟩ := hB
  rw [ht] at hP1
  obtain ⟨hP, hD⟩ := va_join (wr := [(h0, .inr (4, [.null]))]) (w1 := w_X9_L ad tc q0 g1) hP hD [1] [0] rfl rfl (by decide) (by decide) hk1 hFc hP1 hD1
  generalize H1 = H at hP hS ⊢
  have hP : va_P (dC, dI) vwCl [(h0, .inr (4, [.null])), (q0, .inr (9, [.ref (g1 0), .ref (ad 1002), .ref (ad 1003), .int 12, .int 3, .int 0, .int (-1), .int 0])), (g1 0, .inl (tc 0, 35, .inl (fun _ => 0)))] H := hP
  have hD : va_D A [(h0, .inr (4, [.null])), (q0, .inr (9, [.ref (g1 0), .ref (ad 1002), .ref (ad 1003), .int 12, .int 3, .int 0, .int (-1), .int 0])), (g1 0, .inl (tc 0, 35, .inl (fun _ => 0)))] := hD
  refine W.widen (k := 2) (n := 43) (by decide) (by decide) ?_
  refine va_putF (D := (dC, dI)) (ci := 4) (v := .ref q0) (ty := .object "GorseGold$Text") (C := RX4) (T := TX4) (N := 1) hx hb hts inW4 tyX4 tyX4_ok nmX4 hown hK hP hD hS 0 rfl rfl 0 (by decide) (hts _ wd_142) (fun _ h9 => h9) rfl hin rfl (by decide +kernel) rfl rfl (Nat.le_of_ble_eq_true rfl) d_X4_22 (fun H locs hP hD hS => ?_)
  have hP : va_P (dC, dI) vwCl [(h0, .inr (4, [.ref q0])), (q0, .inr (9, [.ref (g1 0), .ref (ad 1002), .ref (ad 1003), .int 12, .int 3, .int 0, .int (-1), .int 0])), (g1 0, .inl (tc 0, 35, .inl (fun _ => 0)))] H := hP
  have hD : va_D A [(h0, .inr (4, [.ref q0])), (q0, .inr (9, [.ref (g1 0), .ref (ad 1002), .ref (ad 1003), .int 12, .int 3, .int 0, .int (-1), .int 0])), (g1 0, .inl (tc 0, 35, .inl (fun _ => 0)))] := hD
  have hP9 : va_P (dC, dI) vwCl (w_X4 ad tc h0 (fun i => ([q0, g1 0] : List Nat).getD i 0)) _ := hP.sub [0, 1, 2] rfl
  have hD9 : va_D A (w_X4 ad tc h0 (fun i => ([q0, g1 0] : List Nat).getD i 0)) := hD.sub [0, 1, 2] (by decide) rfl
  exact W.vret hx hb hr (fun t ht hW => ⟨⟨(fun i => ([q0, g1 0] : List Nat).getD i 0), rfl, trivial, by rw [ht]; exact hP9, hD9⟩, hS.F ht⟩) hS.2.2 d_X4_25
