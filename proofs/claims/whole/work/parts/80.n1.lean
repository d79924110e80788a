theorem gTc0 {D : va_G} {tc : Nat → ClassId} {cA : ClassId} {s : State} (h : va_K D vwCl (gTys tc ++ [(cA, .int)]) s) : cA = tc 0 := Option.some.inj ((h.2 4 (cA, .int) rfl).2.symm.trans (h.2 0 (tc 0, .int) rfl).2)
theorem gTc1 {D : va_G} {tc : Nat → ClassId} {cA : ClassId} {s : State} (h : va_K D vwCl (gTys tc ++ [(cA, .boolean)]) s) : cA = tc 1 := Option.some.inj ((h.2 4 (cA, .boolean) rfl).2.symm.trans (h.2 1 (tc 1, .boolean) rfl).2)
theorem gTc2 {D : va_G} {tc : Nat → ClassId} {cA : ClassId} {s : State} (h : va_K D vwCl (gTys tc ++ [(cA, .object "GorseGold$Course")]) s) : cA = tc 2 := by
  obtain ⟨_, _, _, _, _, h1⟩ := (h.2 4 (cA, .object "GorseGold$Course") rfl).2
  obtain ⟨_, _, _, _, _, h2⟩ := (h.2 2 (tc 2, .object "GorseGold$Course") rfl).2
  exact Option.some.inj (h1.symm.trans h2)
theorem gTc3 {D : va_G} {tc : Nat → ClassId} {cA : ClassId} {s : State} (h : va_K D vwCl (gTys tc ++ [(cA, .object "GorseGold$Sheet")]) s) : cA = tc 3 := by
  obtain ⟨_, _, _, _, _, h1⟩ := (h.2 4 (cA, .object "GorseGold$Sheet") rfl).2
  obtain ⟨_, _, _, _, _, h2⟩ := (h.2 3 (tc 3, .object "GorseGold$Sheet") rfl).2
  exact Option.some.inj (h1.symm.trans h2)
/-- what a constructor begins with: its object's cell, as new made it -/
def nPre (ad : Nat → Nat) (dC : Nat → ClassId) (dI : Nat → Nat → Nat) (tc : Nat → ClassId) (h0 sz ci : Nat) (fs as : List Value) : Array Value → State → Prop := va_Pc as (fun U => U.heap.size = sz ∧ va_P (dC, dI) vwCl [(h0, .inr (ci, fs))] U.heap ∧ va_K (dC, dI) vwCl (gTys tc) U ∧ va_D (fun _ => True) [(h0, .inr (ci, fs))] ∧ gRoH ad (va_A [(h0, .inr (ci, fs))] sz) U U.heap ∧ (∀ w ∈ gNest, va_Nw w U) ∧ va_AO "GorseGold$Course" U ∧ va_AO "GorseGold$Sheet" U)
def nPost (dC : Nat → ClassId) (dI : Nat → Nat → Nat) (F : (Nat → Nat) → va_W) (A : Nat → Prop) : Array Value → State → Outcome → State → Prop := va_Qv (fun _ : Nat → Nat => True) (fun g t => va_P (dC, dI) vwCl (F g) t.heap ∧ va_D A (F g)) A
theorem nPre.blind {ad : Nat → Nat} {dC : Nat → ClassId} {dI : Nat → Nat → Nat} {tc : Nat → ClassId} {h0 sz ci : Nat} {fs as : List Value} : FrameBlind (nPre ad dC dI tc h0 sz ci fs as) := by
  intro a U g mk q
  obtain ⟨q0, q1, qP, qK, qD, qR, qN, q2, q3⟩ := q
  exact ⟨q0, q1, qP, va_K.moved (u := U) (U := U.calling g mk a) (Vm.Alike.refl U.vm) qK, qD, gRoH.same (s := U) (U := U.calling g mk a) qR (Vm.Alike.refl U.vm), gNest_same (s := U) (U := U.calling g mk a) rfl qN, va_AO.moved (Vm.Alike.refl U.vm) q2, va_AO.moved (Vm.Alike.refl U.vm) q3⟩
theorem wd_237 : Cond.methodLink RX5 1 objectInit ∈ gW := List.mem_filter.mpr ⟨List.mem_of_getElem? (i := 308) (by decide +kernel), by decide +kernel⟩
theorem wd_23 : Cond.instanceMethod objectInit ∈ gW := List.mem_filter.mpr ⟨List.mem_of_getElem? (i := 94) (by decide +kernel), by decide +kernel⟩
theorem wd_24 : Cond.code objectInit ⟨#[0xb1]⟩ 1 none ∈ gW := List.mem_filter.mpr ⟨List.mem_of_getElem? (i := 95) (by decide +kernel), by decide +kernel⟩
theorem wd_96 : Cond.methodLink RX1 3 objectInit ∈ gW := List.mem_filter.mpr ⟨List.mem_of_getElem? (i := 167) (by decide +kernel), by decide +kernel⟩
theorem wd_84 : Cond.arrayClass .int ∈ gW := List.mem_filter.mpr ⟨List.mem_of_getElem? (i := 155) (by decide +kernel), by decide +kernel⟩
theorem wd_189 : Cond.methodLink RX2 3 objectInit ∈ gW := List.mem_filter.mpr ⟨List.mem_of_getElem? (i := 260) (by decide +kernel), by decide +kernel⟩
theorem wd_217 : Cond.methodLink RX7 3 objectInit ∈ gW := List.mem_filter.mpr ⟨List.mem_of_getElem? (i := 288) (by decide +kernel), by decide +kernel⟩
theorem wd_249 : Cond.methodLink RX8 3 objectInit ∈ gW := List.mem_filter.mpr ⟨List.mem_of_getElem? (i := 320) (by decide +kernel), by decide +kernel⟩
theorem d_X5_0 : decode cX5_init 0 = .ok (.aload_n 0, 1) := by decide +kernel
theorem d_X5_1 : decode cX5_init 1 = .ok (.invokespecial 1, 3) := by decide +kernel
theorem d_X5_4 : decode cX5_init 4 = .ok (.aload_n 0, 1) := by decide +kernel
theorem d_X5_5 : decode cX5_init 5 = .ok (.iconst 0, 1) := by decide +kernel
theorem d_X5_6 : decode cX5_init 6 = .ok (.putfield 7, 3) := by decide +kernel
theorem d_X5_9 : decode cX5_init 9 = .ok (.return_, 1) := by decide +kernel
def w_X5 (ad : Nat → Nat) (tc : Nat → ClassId) (h0 : Nat) (g : Nat → Nat) : va_W := [(h0, .inr (5, [.int 0]))]
set_option maxHeartbeats 4000000 in
set_option maxRecDepth 100000 in
theorem n_X5 (l : Launch) (ad : Nat → Nat) (dC : Nat → ClassId) (dI : Nat → Nat → Nat) (tc : Nat → ClassId) (h0 sz : Nat) : Met l yX5_init (Cond.code yX5_init cX5_init 1 none :: gW) ({ frames := 1, cells := 0, slots := 0, locals := 80 }) (nPre ad dC dI tc h0 sz 5 [.int 0] [.ref h0]) (nPost dC dI (w_X5 ad tc h0) (va_A [(h0, .inr (5, [.int 0]))] sz)) 0 0 (va_A [(h0, .inr (5, [.int 0]))] sz) := by
  refine Met.ofW (cc := cX5_init) (maxL := 1) (ret := none) (by decide) rfl ?_
  intro p e s m args below meth c s₁ B hml hv
  obtain ⟨rfl, hsz, hP, hK, hD0, hro, hnw, hao1, hao2⟩ := hv
  have hx := B.exec
  have hb := B.bytes
  have hr := B.returns
  have hts0 := atoms_spec (ws := Cond.code yX5_init cX5_init 1 none :: gW) B.pre
  have hts : ∀ w ∈ gW, w.before _ s = true := fun w h => hts0 w (List.mem_cons_of_mem _ h)
  have hown : s.vm.findClass RX5 = some m.cls := findClass_of_methodNamed B.named
  have hin : meth.name = "<init>" := (name_of_methodNamed B.named B.method).1
  subst hsz
  have hD := hD0.self (sz := s.heap.size)
  generalize hAe : va_A [(h0, .inr (5, [.int 0]))] s.heap.size = A at hD hro ⊢
  have hA : ∀ q : Nat, s.heap.size ≤ q → A q := fun q h => by rw [← hAe]; exact Or.inr h
  have hS : va_S A s.heap s.heap [] := va_S.rf
  have hl := lv_entry ([.ref h0]) (n := 1) (Nat.le_of_ble_eq_true rfl)
  rw [lg_entry_eq]
  generalize (lg_sl ([.ref h0]) ++ List.replicate (1 - (lg_sl ([.ref h0])).length) Slot.unset).toArray = ls at hl ⊢
  have hl : lv_has ls 1 [(0, .ref h0)] := hl
  have hP : va_P (dC, dI) vwCl [(h0, .inr (5, [.int 0]))] s.heap := hP
  refine lv_aload_n hx hb d_X5_0 rfl (lv_at hl 0 rfl) ?_
  refine W.objInit hx hb hown (hts _ wd_237) (hts _ wd_23) (hts _ wd_24) rfl (by rw [hml]; exact hl.1) rfl d_X5_1 (Nat.le_of_ble_eq_true rfl) (Nat.le_of_ble_eq_true rfl) ?_
  refine W.eq (g2 := F0 m 4 ls []) rfl ?_
  refine lv_aload_n hx hb d_X5_4 rfl (lv_at hl 0 rfl) ?_
  refine lv_iconst (v := 0) hx hb d_X5_5 (by decide) ?_
  refine va_put (D := (dC, dI)) (ci := 5) (v := .int 0) (ty := .int) (C := RX5) (T := TX5) (N := 1) hx hb hts inW5 tyX5 tyX5_ok nmX5 hown hK hP hD hS 0 rfl rfl 0 (by decide) (hts _ wd_238) (fun _ h9 => h9) rfl (by decide +kernel) rfl rfl (Nat.le_of_ble_eq_true rfl) d_X5_6 (fun H locs hP hD hS => ?_)
  have hP : va_P (dC, dI) vwCl [(h0, .inr (5, [.int 0]))] H := hP
  have hD : va_D A [(h0, .inr (5, [.int 0]))] := hD
  have hP9 : va_P (dC, dI) vwCl (w_X5 ad tc h0 (fun i => ([] : List Nat).getD i 0)) _ := hP.sub [0] rfl
  have hD9 : va_D A (w_X5 ad tc h0 (fun i => ([] : List Nat).getD i 0)) := hD.sub [0] (by decide) rfl
  exact W.vret hx hb hr (fun t ht hW => ⟨⟨(fun i => ([] : List Nat).getD i 0), rfl, trivial, by rw [ht]; exact hP9, hD9⟩, hS.F ht⟩) hS.2.2 d_X5_9
theorem d_X1_0 : decode cX1_init 0 = .ok (.aload_n 0, 1) := by decide +kernel
theorem d_X1_1 : decode cX1_init 1 = .ok (.invokespecial 3, 3) := by decide +kernel
theorem d_X1_4 : decode cX1_init 4 = .ok (.aload_n 0, 1) := by decide +kernel
theorem d_X1_5 : decode cX1_init 5 = .ok (.iconst 4, 1) := by decide +kernel
theorem d_X1_6 : decode cX1_init 6 = .ok (.newarray .int, 2) := by decide +kernel
theorem d_X1_8 : decode cX1_init 8 = .ok (.putfield 9, 3) := by decide +kernel
theorem d_X1_11 : decode cX1_init 11 = .ok (.aload_n 0, 1) := by decide +kernel
theorem d_X1_12 : decode cX1_init 12 = .ok (.iconst 0, 1) := by decide +kernel
theorem d_X1_13 : decode cX1_init 13 = .ok (.putfield 15, 3) := by decide +kernel
theorem d_X1_16 : decode cX1_init 16 = .ok (.aload_n 0, 1) := by decide +kernel
theorem d_X1_17 : decode cX1_init 17 = .ok (.iconst 0, 1) := by decide +kernel
theorem d_X1_18 : decode cX1_init 18 = .ok (.putfield 19, 3) := by decide +kernel
theorem d_X1_21 : decode cX1_init 21 = .ok (.aload_n 0, 1) := by decide +kernel
theorem d_X1_22 : decode cX1_init 22 = .ok (.iconst 0, 1) := by decide +kernel
theorem d_X1_23 : decode cX1_init 23 = .ok (.putfield 22, 3) := by decide +kernel
theorem d_X1_26 : decode cX1_init 26 = .ok (.return_, 1) := by decide +kernel
def w_X1 (ad : Nat → Nat) (tc : Nat → ClassId) (h0 : Nat) (g : Nat → Nat) : va_W := [(h0, .inr (1, [.ref (g 0), .int 0, .int 0, .int 0])), (g 0, .inl (tc 0, 4, .inl (fun _ => 0)))]
set_option maxHeartbeats 4000000 in
set_option maxRecDepth 100000 in
theorem n_X1 (l : Launch) (ad : Nat → Nat) (dC : Nat → ClassId) (dI : Nat → Nat → Nat) (tc : Nat → ClassId) (h0 sz : Nat) : Met l yX1_init (Cond.code yX1_init cX1_init 1 none :: gW) ({ frames := 1, cells := 1, slots := 4, locals := 80 }) (nPre ad dC dI tc h0 sz 1 [.null, .int 0, .int 0, .int 0] [.ref h0]) (nPost dC dI (w_X1 ad tc h0) (va_A [(h0, .inr (1, [.null, .int 0, .int 0, .int 0]))] sz)) 1 4 (va_A [(h0, .inr (1, [.null, .int 0, .int 0, .int 0]))] sz) := by
  refine Met.ofW (cc := cX1_init) (maxL := 1) (ret := none) (by decide) rfl ?_
  intro p e s m args below meth c s₁ B hml hv
  obtain ⟨rfl, hsz, hP, hK, hD0, hro, hnw, hao1, hao2⟩ := hv
  have hx := B.exec
  have hb := B.bytes
  have hr := B.returns
  have hts0 := atoms_spec (ws := Cond.code yX1_init cX1_init 1 none :: gW) B.pre
  have hts : ∀ w ∈ gW, w.before _ s = true := fun w h => hts0 w (List.mem_cons_of_mem _ h)
  have hown : s.vm.findClass RX1 = some m.cls := findClass_of_methodNamed B.named
  have hin : meth.name = "<init>" := (name_of_methodNamed B.named B.method).1
  subst hsz
  have hD := hD0.self (sz := s.heap.size)
  generalize hAe : va_A [(h0, .inr (1, [.null, .int 0, .int 0, .int 0]))] s.heap.size = A at hD hro ⊢
  have hA : ∀ q : Nat, s.heap.size ≤ q → A q := fun q h => by rw [← hAe]; exact Or.inr h
  have hS : va_S A s.heap s.heap [] := va_S.rf
  have hl := lv_entry ([.ref h0]) (n := 1) (Nat.le_of_ble_eq_true rfl)
  rw [lg_entry_eq]
  generalize (lg_sl ([.ref h0]) ++ List.replicate (1 - (lg_sl ([.ref h0])).length) Slot.unset).toArray = ls at hl ⊢
  have hl : lv_has ls 1 [(0, .ref h0)] := hl
  have hP : va_P (dC, dI) vwCl [(h0, .inr (1, [.null, .int 0, .int 0, .int 0]))] s.heap := hP
  refine lv_aload_n hx hb d_X1_0 rfl (lv_at hl 0 rfl) ?_
  refine W.objInit hx hb hown (hts _ wd_96) (hts _ wd_23) (hts _ wd_24) rfl (by rw [hml]; exact hl.1) rfl d_X1_1 (Nat.le_of_ble_eq_true rfl) (Nat.le_of_ble_eq_true rfl) ?_
  refine W.eq (g2 := F0 m 4 ls []) rfl ?_
  refine lv_aload_n hx hb d_X1_4 rfl (lv_at hl 0 rfl) ?_
  refine lv_iconst (v := 4) hx hb d_X1_5 (by decide) ?_
  refine va_newa (atype := .int) (a0 := (4, .inl (fun _ => 0))) hx hb (hts _ wd_84) rfl hK hP hD hS hA (fun _ => rfl) (by decide) (by decide) (by decide) (Nat.le_of_ble_eq_true rfl) (Nat.le_of_ble_eq_true rfl) d_X1_6 (fun q0 cA H hK2 hP hD hS => ?_)
  obtain rfl : cA = tc 0 := gTc0 hK2
  have hP : va_P (dC, dI) vwCl [(h0, .inr (1, [.null, .int 0, .int 0, .int 0])), (q0, .inl (tc 0, 4, .inl (fun _ => 0)))] H := hP
  have hD : va_D A [(h0, .inr (1, [.null, .int 0, .int 0, .int 0])), (q0, .inl (tc 0, 4, .inl (fun _ => 0)))] := hD
  refine W.widen (k := 1) (n := 4) (by decide) (by decide) ?_
  refine va_putF (D := (dC, dI)) (ci := 1) (v := .ref q0) (ty := .array .int) (C := RX1) (T := TX1) (N := 4) hx hb hts inW1 tyX1 tyX1_ok nmX1 hown hK hP hD hS 0 rfl rfl 0 (by decide) (hts _ wd_97) (fun _ h9 => h9) rfl hin rfl (by decide +kernel) rfl rfl (Nat.le_of_ble_eq_true rfl) d_X1_8 (fun H locs hP hD hS => ?_)
  have hP : va_P (dC, dI) vwCl [(h0, .inr (1, [.ref q0, .int 0, .int 0, .int 0])), (q0, .inl (tc 0, 4, .inl (fun _ => 0)))] H := hP
  have hD : va_D A [(h0, .inr (1, [.ref q0, .int 0, .int 0, .int 0])), (q0, .inl (tc 0, 4, .inl (fun _ => 0)))] := hD
  refine lv_aload_n hx hb d_X1_11 rfl (lv_at hl 0 rfl) ?_
  refine lv_iconst (v := 0) hx hb d_X1_12 (by decide) ?_
  refine va_put (D := (dC, dI)) (ci := 1) (v := .int 0) (ty := .int) (C := RX1) (T := TX1) (N := 4) hx hb hts inW1 tyX1 tyX1_ok nmX1 hown hK hP hD hS 0 rfl rfl 1 (by decide) (hts _ wd_99) (fun _ h9 => h9) rfl (by decide +kernel) rfl rfl (Nat.le_of_ble_eq_true rfl) d_X1_13 (fun H locs hP hD hS => ?_)
  have hP : va_P (dC, dI) vwCl [(h0, .inr (1, [.ref q0, .int 0, .int 0, .int 0])), (q0, .inl (tc 0, 4, .inl (fun _ => 0)))] H := hP
  have hD : va_D A [(h0, .inr (1, [.ref q0, .int 0, .int 0, .int 0])), (q0, .inl (tc 0, 4, .inl (fun _ => 0)))] := hD
  refine lv_aload_n hx hb d_X1_16 rfl (lv_at hl 0 rfl) ?_
  refine lv_iconst (v := 0) hx hb d_X1_17 (by decide) ?_
  refine va_put (D := (dC, dI)) (ci := 1) (v := .int 0) (ty := .int) (C := RX1) (T := TX1) (N := 4) hx hb hts inW1 tyX1 tyX1_ok nmX1 hown hK hP hD hS 0 rfl rfl 2 (by decide) (hts _ wd_101) (fun _ h9 => h9) rfl (by decide +kernel) rfl rfl (Nat.le_of_ble_eq_true rfl) d_X1_18 (fun H locs hP hD hS => ?_)
  have hP : va_P (dC, dI) vwCl [(h0, .inr (1, [.ref q0, .int 0, .int 0, .int 0])), (q0, .inl (tc 0, 4, .inl (fun _ => 0)))] H := hP
  have hD : va_D A [(h0, .inr (1, [.ref q0, .int 0, .int 0, .int 0])), (q0, .inl (tc 0, 4, .inl (fun _ => 0)))] := hD
  refine lv_aload_n hx hb d_X1_21 rfl (lv_at hl 0 rfl) ?_
  refine lv_iconst (v := 0) hx hb d_X1_22 (by decide) ?_
  refine va_put (D := (dC, dI)) (ci := 1) (v := .int 0) (ty := .int) (C := RX1) (T := TX1) (N := 4) hx hb hts inW1 tyX1 tyX1_ok nmX1 hown hK hP hD hS 0 rfl rfl 3 (by decide) (hts _ wd_104) (fun _ h9 => h9) rfl (by decide +kernel) rfl rfl (Nat.le_of_ble_eq_true rfl) d_X1_23 (fun H locs hP hD hS => ?_)
  have hP : va_P (dC, dI) vwCl [(h0, .inr (1, [.ref q0, .int 0, .int 0, .int 0])), (q0, .inl (tc 0, 4, .inl (fun _ => 0)))] H := hP
  have hD : va_D A [(h0, .inr (1, [.ref q0, .int 0, .int 0, .int 0])), (q0, .inl (tc 0, 4, .inl (fun _ => 0)))] := hD
  have hP9 : va_P (dC, dI) vwCl (w_X1 ad tc h0 (fun i => ([q0] : List Nat).getD i 0)) _ := hP.sub [0, 1] rfl
  have hD9 : va_D A (w_X1 ad tc h0 (fun i => ([q0] : List Nat).getD i 0)) := hD.sub [0, 1] (by decide) rfl
  exact W.vret hx hb hr (fun t ht hW => ⟨⟨(fun i => ([q0] : List Nat).getD i 0), rfl, trivial, by rw [ht]; exact hP9, hD9⟩, hS.F ht⟩) hS.2.2 d_X1_26
theorem d_X2_0 : decode cX2_init 0 = .ok (.aload_n 0, 1) := by decide +kernel
theorem d_X2_1 : decode cX2_init 1 = .ok (.invokespecial 3, 3) := by decide +kernel
theorem d_X2_4 : decode cX2_init 4 = .ok (.aload_n 0, 1) := by decide +kernel
theorem d_X2_5 : decode cX2_init 5 = .ok (.bipush 8, 2) := by decide +kernel
theorem d_X2_7 : decode cX2_init 7 = .ok (.newarray .int, 2) := by decide +kernel
theorem d_X2_9 : decode cX2_init 9 = .ok (.putfield 9, 3) := by decide +kernel
theorem d_X2_12 : decode cX2_init 12 = .ok (.aload_n 0, 1) := by decide +kernel
theorem d_X2_13 : decode cX2_init 13 = .ok (.bipush 8, 2) := by decide +kernel
theorem d_X2_15 : decode cX2_init 15 = .ok (.newarray .int, 2) := by decide +kernel
theorem d_X2_17 : decode cX2_init 17 = .ok (.putfield 15, 3) := by decide +kernel
theorem d_X2_20 : decode cX2_init 20 = .ok (.aload_n 0, 1) := by decide +kernel
theorem d_X2_21 : decode cX2_init 21 = .ok (.bipush 8, 2) := by decide +kernel
theorem d_X2_23 : decode cX2_init 23 = .ok (.newarray .int, 2) := by decide +kernel
theorem d_X2_25 : decode cX2_init 25 = .ok (.putfield 18, 3) := by decide +kernel
theorem d_X2_28 : decode cX2_init 28 = .ok (.aload_n 0, 1) := by decide +kernel
theorem d_X2_29 : decode cX2_init 29 = .ok (.iconst 0, 1) := by decide +kernel
theorem d_X2_30 : decode cX2_init 30 = .ok (.putfield 21, 3) := by decide +kernel
theorem d_X2_33 : decode cX2_init 33 = .ok (.return_, 1) := by decide +kernel
def w_X2 (ad : Nat → Nat) (tc : Nat → ClassId) (h0 : Nat) (g : Nat → Nat) : va_W := [(h0, .inr (2, [.ref (g 0), .ref (g 1), .ref (g 2), .int 0])), (g 0, .inl (tc 0, 8, .inl (fun _ => 0))), (g 1, .inl (tc 0, 8, .inl (fun _ => 0))), (g 2, .inl (tc 0, 8, .inl (fun _ => 0)))]
set_option maxHeartbeats 4000000 in
set_option maxRecDepth 100000 in
theorem n_X2 (l : Launch) (ad : Nat → Nat) (dC : Nat → ClassId) (dI : Nat → Nat → Nat) (tc : Nat → ClassId) (h0 sz : Nat) : Met l yX2_init (Cond.code yX2_init cX2_init 1 none :: gW) ({ frames := 1, cells := 3, slots := 24, locals := 80 }) (nPre ad dC dI tc h0 sz 2 [.null, .null, .null, .int 0] [.ref h0]) (nPost dC dI (w_X2 ad tc h0) (va_A [(h0, .inr (2, [.null, .null, .null, .int 0]))] sz)) 3 24 (va_A [(h0, .inr (2, [.null, .null, .null, .int 0]))] sz) := by
  refine Met.ofW (cc := cX2_init) (maxL := 1) (ret := none) (by decide) rfl ?_
  intro p e s m args below meth c s₁ B hml hv
  obtain ⟨rfl, hsz, hP, hK, hD0, hro, hnw, hao1, hao2⟩ := hv
  have hx := B.exec
  have hb := B.bytes
  have hr := B.returns
  have hts0 := atoms_spec (ws := Cond.code yX2_init cX2_init 1 none :: gW) B.pre
  have hts : ∀ w ∈ gW, w.before _ s = true := fun w h => hts0 w (List.mem_cons_of_mem _ h)
  have hown : s.vm.findClass RX2 = some m.cls := findClass_of_methodNamed B.named
  have hin : meth.name = "<init>" := (name_of_methodNamed B.named B.method).1
  subst hsz
  have hD := hD0.self (sz := s.heap.size)
  generalize hAe : va_A [(h0, .inr (2, [.null, .null, .null, .int 0]))] s.heap.size = A at hD hro ⊢
  have hA : ∀ q : Nat, s.heap.size ≤ q → A q := fun q h => by rw [← hAe]; exact Or.inr h
  have hS : va_S A s.heap s.heap [] := va_S.rf
  have hl := lv_entry ([.ref h0]) (n := 1) (Nat.le_of_ble_eq_true rfl)
  rw [lg_entry_eq]
  generalize (lg_sl ([.ref h0]) ++ List.replicate (1 - (lg_sl ([.ref h0])).length) Slot.unset).toArray = ls at hl ⊢
  have hl : lv_has ls 1 [(0, .ref h0)] := hl
  have hP : va_P (dC, dI) vwCl [(h0, .inr (2, [.null, .null, .null, .int 0]))] s.heap := hP
  refine lv_aload_n hx hb d_X2_0 rfl (lv_at hl 0 rfl) ?_
  refine W.objInit hx hb hown (hts _ wd_189) (hts _ wd_23) (hts _ wd_24) rfl (by rw [hml]; exact hl.1) rfl d_X2_1 (Nat.le_of_ble_eq_true rfl) (Nat.le_of_ble_eq_true rfl) ?_
  refine W.eq (g2 := F0 m 4 ls []) rfl ?_
  refine lv_aload_n hx hb d_X2_4 rfl (lv_at hl 0 rfl) ?_
  refine lv_bipush (v := 8) hx hb d_X2_5 (by decide) ?_
  refine va_newa (atype := .int) (a0 := (8, .inl (fun _ => 0))) hx hb (hts _ wd_84) rfl hK hP hD hS hA (fun _ => rfl) (by decide) (by decide) (by decide) (Nat.le_of_ble_eq_true rfl) (Nat.le_of_ble_eq_true rfl) d_X2_7 (fun q0 cA H hK2 hP hD hS => ?_)
  obtain rfl : cA = tc 0 := gTc0 hK2
  have hP : va_P (dC, dI) vwCl [(h0, .inr (2, [.null, .null, .null, .int 0])), (q0, .inl (tc 0, 8, .inl (fun _ => 0)))] H := hP
  have hD : va_D A [(h0, .inr (2, [.null, .null, .null, .int 0])), (q0, .inl (tc 0, 8, .inl (fun _ => 0)))] := hD
  refine W.widen (k := 1) (n := 8) (by decide) (by decide) ?_
  refine va_putF (D := (dC, dI)) (ci := 2) (v := .ref q0) (ty := .array .int) (C := RX2) (T := TX2) (N := 4) hx hb hts inW2 tyX2 tyX2_ok nmX2 hown hK hP hD hS 0 rfl rfl 0 (by decide) (hts _ wd_190) (fun _ h9 => h9) rfl hin rfl (by decide +kernel) rfl rfl (Nat.le_of_ble_eq_true rfl) d_X2_9 (fun H locs hP hD hS => ?_)
  have hP : va_P (dC, dI) vwCl [(h0, .inr (2, [.ref q0, .null, .null, .int 0])), (q0, .inl (tc 0, 8, .inl (fun _ => 0)))] H := hP
  have hD : va_D A [(h0, .inr (2, [.ref q0, .null, .null, .int 0])), (q0, .inl (tc 0, 8, .inl (fun _ => 0)))] := hD
  refine lv_aload_n hx hb d_X2_12 rfl (lv_at hl 0 rfl) ?_
  refine lv_bipush (v := 8) hx hb d_X2_13 (by decide) ?_
  refine va_newa (atype := .int) (a0 := (8, .inl (fun _ => 0))) hx hb (hts _ wd_84) rfl hK hP hD hS hA (fun _ => rfl) (by decide) (by decide) (by decide) (Nat.le_of_ble_eq_true rfl) (Nat.le_of_ble_eq_true rfl) d_X2_15 (fun q1 cA H hK2 hP hD hS => ?_)
  obtain rfl : cA = tc 0 := gTc0 hK2
  have hP : va_P (dC, dI) vwCl [(h0, .inr (2, [.ref q0, .null, .null, .int 0])), (q0, .inl (tc 0, 8, .inl (fun _ => 0))), (q1, .inl (tc 0, 8, .inl (fun _ => 0)))] H := hP
  have hD : va_D A [(h0, .inr (2, [.ref q0, .null, .null, .int 0])), (q0, .inl (tc 0, 8, .inl (fun _ => 0))), (q1, .inl (tc 0, 8, .inl (fun _ => 0)))] := hD
  refine W.widen (k := 2) (n := 16) (by decide) (by decide) ?_
  refine va_putF (D := (dC, dI)) (ci := 2) (v := .ref q1) (ty := .array .int) (C := RX2) (T := TX2) (N := 4) hx hb hts inW2 tyX2 tyX2_ok nmX2 hown hK hP hD hS 0 rfl rfl 1 (by decide) (hts _ wd_193) (fun _ h9 => h9) rfl hin rfl (by decide +kernel) rfl rfl (Nat.le_of_ble_eq_true rfl) d_X2_17 (fun H locs hP hD hS => ?_)
  have hP : va_P (dC, dI) vwCl [(h0, .inr (2, [.ref q0, .ref q1, .null, .int 0])), (q0, .inl (tc 0, 8, .inl (fun _ => 0))), (q1, .inl (tc 0, 8, .inl (fun _ => 0)))] H := hP
  have hD : va_D A [(h0, .inr (2, [.ref q0, .ref q1, .null, .int 0])), (q0, .inl (tc 0, 8, .inl (fun _ => 0))), (q1, .inl (tc 0, 8, .inl (fun _ => 0)))] := hD
  refine lv_aload_n hx hb d_X2_20 rfl (lv_at hl 0 rfl) ?_
  refine lv_bipush (v := 8) hx hb d_X2_21 (by decide) ?_
  refine va_newa (atype := .int) (a0 := (8, .inl (fun _ => 0))) hx hb (hts _ wd_84) rfl hK hP hD hS hA (fun _ => rfl) (by decide) (by decide) (by decide) (Nat.le_of_ble_eq_true rfl) (Nat.le_of_ble_eq_true rfl) d_X2_23 (fun q2 cA H hK2 hP hD hS => ?_)
  obtain rfl : cA = tc 0 := gTc0 hK2
  have hP : va_P (dC, dI) vwCl [(h0, .inr (2, [.ref q0, .ref q1, .null, .int 0])), (q0, .inl (tc 0, 8, .inl (fun _ => 0))), (q1, .inl (tc 0, 8, .inl (fun _ => 0))), (q2, .inl (tc 0, 8, .inl (fun _ => 0)))] H := hP
  have hD : va_D A [(h0, .inr (2, [.ref q0, .ref q1, .null, .int 0])), (q0, .inl (tc 0, 8, .inl (fun _ => 0))), (q1, .inl (tc 0, 8, .inl (fun _ => 0))), (q2, .inl (tc 0, 8, .inl (fun _ => 0)))] := hD
  refine W.widen (k := 3) (n := 24) (by decide) (by decide) ?_
  refine va_putF (D := (dC, dI)) (ci := 2) (v := .ref q2) (ty := .array .int) (C := RX2) (T := TX2) (N := 4) hx hb hts inW2 tyX2 tyX2_ok nmX2 hown hK hP hD hS 0 rfl rfl 2 (by decide) (hts _ wd_195) (fun _ h9 => h9) rfl hin rfl (by decide +kernel) rfl rfl (Nat.le_of_ble_eq_true rfl) d_X2_25 (fun H locs hP hD hS => ?_)
  have hP : va_P (dC, dI) vwCl [(h0, .inr (2, [.ref q0, .ref q1, .ref q2, .int 0])), (q0, .inl (tc 0, 8, .inl (fun _ => 0))), (q1, .inl (tc 0, 8, .inl (fun _ => 0))), (q2, .inl (tc 0, 8, .inl (fun _ => 0)))] H := hP
  have hD : va_D A [(h0, .inr (2, [.ref q0, .ref q1, .ref q2, .int 0])), (q0, .inl (tc 0, 8, .inl (fun _ => 0))), (q1, .inl (tc 0, 8, .inl (fun _ => 0))), (q2, .inl (tc 0, 8, .inl (fun _ => 0)))] := hD
  refine lv_aload_n hx hb d_X2_28 rfl (lv_at hl 0 rfl) ?_
  refine lv_iconst (v := 0) hx hb d_X2_29 (by decide) ?_
  refine va_put (D := (dC, dI)) (ci := 2) (v := .int 0) (ty := .int) (C := RX2) (T := TX2) (N := 4) hx hb hts inW2 tyX2 tyX2_ok nmX2 hown hK hP hD hS 0 rfl rfl 3 (by decide) (hts _ wd_197) (fun _ h9 => h9) rfl (by decide +kernel) rfl rfl (Nat.le_of_ble_eq_true rfl) d_X2_30 (fun H locs hP hD hS => ?_)
  have hP : va_P (dC, dI) vwCl [(h0, .inr (2, [.ref q0, .ref q1, .ref q2, .int 0])), (q0, .inl (tc 0, 8, .inl (fun _ => 0))), (q1, .inl (tc 0, 8, .inl (fun _ => 0))), (q2, .inl (tc 0, 8, .inl (fun _ => 0)))] H := hP
  have hD : va_D A [(h0, .inr (2, [.ref q0, .ref q1, .ref q2, .int 0])), (q0, .inl (tc 0, 8, .inl (fun _ => 0))), (q1, .inl (tc 0, 8, .inl (fun _ => 0))), (q2, .inl (tc 0, 8, .inl (fun _ => 0)))] := hD
  have hP9 : va_P (dC, dI) vwCl (w_X2 ad tc h0 (fun i => ([q0, q1, q2] : List Nat).getD i 0)) _ := hP.sub [0, 1, 2, 3] rfl
  have hD9 : va_D A (w_X2 ad tc h0 (fun i => ([q0, q1, q2] : List Nat).getD i 0)) := hD.sub [0, 1, 2, 3] (by decide) rfl
  exact W.vret hx hb hr (fun t ht hW => ⟨⟨(fun i => ([q0, q1, q2] : List Nat).getD i 0), rfl, trivial, by rw [ht]; exact hP9, hD9⟩, hS.F ht⟩) hS.2.2 d_X2_33
theorem d_X7_0 : decode cX7_init 0 = .ok (.aload_n 0, 1) := by decide +kernel
theorem d_X7_1 : decode cX7_init 1 = .ok (.invokespecial 3, 3) := by decide +kernel
theorem d_X7_4 : decode cX7_init 4 = .ok (.aload_n 0, 1) := by decide +kernel
theorem d_X7_5 : decode cX7_init 5 = .ok (.bipush 8, 2) := by decide +kernel
theorem d_X7_7 : decode cX7_init 7 = .ok (.newarray .int, 2) := by decide +kernel
theorem d_X7_9 : decode cX7_init 9 = .ok (.putfield 9, 3) := by decide +kernel
theorem d_X7_12 : decode cX7_init 12 = .ok (.aload_n 0, 1) := by decide +kernel
theorem d_X7_13 : decode cX7_init 13 = .ok (.bipush 8, 2) := by decide +kernel
theorem d_X7_15 : decode cX7_init 15 = .ok (.newarray .int, 2) := by decide +kernel
theorem d_X7_17 : decode cX7_init 17 = .ok (.putfield 15, 3) := by decide +kernel
theorem d_X7_20 : decode cX7_init 20 = .ok (.aload_n 0, 1) := by decide +kernel
theorem d_X7_21 : decode cX7_init 21 = .ok (.bipush 8, 2) := by decide +kernel
theorem d_X7_23 : decode cX7_init 23 = .ok (.newarray .int, 2) := by decide +kernel
theorem d_X7_25 : decode cX7_init 25 = .ok (.putfield 18, 3) := by decide +kernel
theorem d_X7_28 : decode cX7_init 28 = .ok (.aload_n 0, 1) := by decide +kernel
theorem d_X7_29 : decode cX7_init 29 = .ok (.iconst 0, 1) := by decide +kernel
theorem d_X7_30 : decode cX7_init 30 = .ok (.putfield 21, 3) := by decide +kernel
theorem d_X7_33 : decode cX7_init 33 = .ok (.return_, 1) := by decide +kernel
def w_X7 (ad : Nat → Nat) (tc : Nat → ClassId) (h0 : Nat) (g : Nat → Nat) : va_W := [(h0, .inr (7, [.ref (g 0), .ref (g 1), .ref (g 2), .int 0])), (g 0, .inl (tc 0, 8, .inl (fun _ => 0))), (g 1, .inl (tc 0, 8, .inl (fun _ => 0))), (g 2, .inl (tc 0, 8, .inl (fun _ => 0)))]
set_option maxHeartbeats 4000000 in
set_option maxRecDepth 100000 in
theorem n_X7 (l : Launch) (ad : Nat → Nat) (dC : Nat → ClassId) (dI : Nat → Nat → Nat) (tc : Nat → ClassId) (h0 sz : Nat) : Met l yX7_init (Cond.code yX7_init cX7_init 1 none :: gW) ({ frames := 1, cells := 3, slots := 24, locals := 80 }) (nPre ad dC dI tc h0 sz 7 [.null, .null, .null, .int 0] [.ref h0]) (nPost dC dI (w_X7 ad tc h0) (va_A [(h0, .inr (7, [.null, .null, .null, .int 0]))] sz)) 3 24 (va_A [(h0, .inr (7, [.null, .null, .null, .int 0]))] sz) := by
  refine Met.ofW (cc := cX7_init) (maxL := 1) (ret := none) (by decide) rfl ?_
  intro p e s m args below meth c s₁ B hml hv
  obtain ⟨rfl, hsz, hP, hK, hD0, hro, hnw, hao1, hao2⟩ := hv
  have hx := B.exec
  have hb := B.bytes
  have hr := B.returns
  have hts0 := atoms_spec (ws := Cond.code yX7_init cX7_init 1 none :: gW) B.pre
  have hts : ∀ w ∈ gW, w.before _ s = true := fun w h => hts0 w (List.mem_cons_of_mem _ h)
  have hown : s.vm.findClass RX7 = some m.cls := findClass_of_methodNamed B.named
  have hin : meth.name = "<init>" := (name_of_methodNamed B.named B.method).1
  subst hsz
  have hD := hD0.self (sz := s.heap.size)
  generalize hAe : va_A [(h0, .inr (7, [.null, .null, .null, .int 0]))] s.heap.size = A at hD hro ⊢
  have hA : ∀ q : Nat, s.heap.size ≤ q → A q := fun q h => by rw [← hAe]; exact Or.inr h
  have hS : va_S A s.heap s.heap [] := va_S.rf
  have hl := lv_entry ([.ref h0]) (n := 1) (Nat.le_of_ble_eq_true rfl)
  rw [lg_entry_eq]
  generalize (lg_sl ([.ref h0]) ++ List.replicate (1 - (lg_sl ([.ref h0])).length) Slot.unset).toArray = ls at hl ⊢
  have hl : lv_has ls 1 [(0, .ref h0)] := hl
  have hP : va_P (dC, dI) vwCl [(h0, .inr (7, [.null, .null, .null, .int 0]))] s.heap := hP
  refine lv_aload_n hx hb d_X7_0 rfl (lv_at hl 0 rfl) ?_
  refine W.objInit hx hb hown (hts _ wd_217) (hts _ wd_23) (hts _ wd_24) rfl (by rw [hml]; exact hl.1) rfl d_X7_1 (Nat.le_of_ble_eq_true rfl) (Nat.le_of_ble_eq_true rfl) ?_
  refine W.eq (g2 := F0 m 4 ls []) rfl ?_
  refine lv_aload_n hx hb d_X7_4 rfl (lv_at hl 0 rfl) ?_
  refine lv_bipush (v := 8) hx hb d_X7_5 (by decide) ?_
  refine va_newa (atype := .int) (a0 := (8, .inl (fun _ => 0))) hx hb (hts _ wd_84) rfl hK hP hD hS hA (fun _ => rfl) (by decide) (by decide) (by decide) (Nat.le_of_ble_eq_true rfl) (Nat.le_of_ble_eq_true rfl) d_X7_7 (fun q0 cA H hK2 hP hD hS => ?_)
  obtain rfl : cA = tc 0 := gTc0 hK2
  have hP : va_P (dC, dI) vwCl [(h0, .inr (7, [.null, .null, .null, .int 0])), (q0, .inl (tc 0, 8, .inl (fun _ => 0)))] H := hP
  have hD : va_D A [(h0, .inr (7, [.null, .null, .null, .int 0])), (q0, .inl (tc 0, 8, .inl (fun _ => 0)))] := hD
  refine W.widen (k := 1) (n := 8) (by decide) (by decide) ?_
  refine va_putF (D := (dC, dI)) (ci := 7) (v := .ref q0) (ty := .array .int) (C := RX7) (T := TX7) (N := 4) hx hb hts inW7 tyX7 tyX7_ok nmX7 hown hK hP hD hS 0 rfl rfl 0 (by decide) (hts _ wd_218) (fun _ h9 => h9) rfl hin rfl (by decide +kernel) rfl rfl (Nat.le_of_ble_eq_true rfl) d_X7_9 (fun H locs hP hD hS => ?_)
  have hP : va_P (dC, dI) vwCl [(h0, .inr (7, [.ref q0, .null, .null, .int 0])), (q0, .inl (tc 0, 8, .inl (fun _ => 0)))] H := hP
  have hD : va_D A [(h0, .inr (7, [.ref q0, .null, .null, .int 0])), (q0, .inl (tc 0, 8, .inl (fun _ => 0)))] := hD
  refine lv_aload_n hx hb d_X7_12 rfl (lv_at hl 0 rfl) ?_
  refine lv_bipush (v := 8) hx hb d_X7_13 (by decide) ?_
  refine va_newa (atype := .int) (a0 := (8, .inl (fun _ => 0))) hx hb (hts _ wd_84) rfl hK hP hD hS hA (fun _ => rfl) (by decide) (by decide) (by decide) (Nat.le_of_ble_eq_true rfl) (Nat.le_of_ble_eq_true rfl) d_X7_15 (fun q1 cA H hK2 hP hD hS => ?_)
  obtain rfl : cA = tc 0 := gTc0 hK2
  have hP : va_P (dC, dI) vwCl [(h0, .inr (7, [.ref q0, .null, .null, .int 0])), (q0, .inl (tc 0, 8, .inl (fun _ => 0))), (q1, .inl (tc 0, 8, .inl (fun _ => 0)))] H := hP
  have hD : va_D A [(h0, .inr (7, [.ref q0, .null, .null, .int 0])), (q0, .inl (tc 0, 8, .inl (fun _ => 0))), (q1, .inl (tc 0, 8, .inl (fun _ => 0)))] := hD
  refine W.widen (k := 2) (n := 16) (by decide) (by decide) ?_
  refine va_putF (D := (dC, dI)) (ci := 7) (v := .ref q1) (ty := .array .int) (C := RX7) (T := TX7) (N := 4) hx hb hts inW7 tyX7 tyX7_ok nmX7 hown hK hP hD hS 0 rfl rfl 1 (by decide) (hts _ wd_219) (fun _ h9 => h9) rfl hin rfl (by decide +kernel) rfl rfl (Nat.le_of_ble_eq_true rfl) d_X7_17 (fun H locs hP hD hS => ?_)
  have hP : va_P (dC, dI) vwCl [(h0, .inr (7, [.ref q0, .ref q1, .null, .int 0])), (q0, .inl (tc 0, 8, .inl (fun _ => 0))), (q1, .inl (tc 0, 8, .inl (fun _ => 0)))] H := hP
  have hD : va_D A [(h0, .inr (7, [.ref q0, .ref q1, .null, .int 0])), (q0, .inl (tc 0, 8, .inl (fun _ => 0))), (q1, .inl (tc 0, 8, .inl (fun _ => 0)))] := hD
  refine lv_aload_n hx hb d_X7_20 rfl (lv_at hl 0 rfl) ?_
  refine lv_bipush (v := 8) hx hb d_X7_21 (by decide) ?_
  refine va_newa (atype := .int) (a0 := (8, .inl (fun _ => 0))) hx hb (hts _ wd_84) rfl hK hP hD hS hA (fun _ => rfl) (by decide) (by decide) (by decide) (Nat.le_of_ble_eq_true rfl) (Nat.le_of_ble_eq_true rfl) d_X7_23 (fun q2 cA H hK2 hP hD hS => ?_)
  obtain rfl : cA = tc 0 := gTc0 hK2
  have hP : va_P (dC, dI) vwCl [(h0, .inr (7, [.ref q0, .ref q1, .null, .int 0])), (q0, .inl (tc 0, 8, .inl (fun _ => 0))), (q1, .inl (tc 0, 8, .inl (fun _ => 0))), (q2, .inl (tc 0, 8, .inl (fun _ => 0)))] H := hP
  have hD : va_D A [(h0, .inr (7, [.ref q0, .ref q1, .null, .int 0])), (q0, .inl (tc 0, 8, .inl (fun _ => 0))), (q1, .inl (tc 0, 8, .inl (fun _ => 0))), (q2, .inl (tc 0, 8, .inl (fun _ => 0)))] := hD
  refine W.widen (k := 3) (n := 24) (by decide) (by decide) ?_
  refine va_putF (D := (dC, dI)) (ci := 7) (v := .ref q2) (ty := .array .int) (C := RX7) (T := TX7) (N := 4) hx hb hts inW7 tyX7 tyX7_ok nmX7 hown hK hP hD hS 0 rfl rfl 2 (by decide) (hts _ wd_220) (fun _ h9 => h9) rfl hin rfl (by decide +kernel) rfl rfl (Nat.le_of_ble_eq_true rfl) d_X7_25 (fun H locs hP hD hS => ?_)
  have hP : va_P (dC, dI) vwCl [(h0, .inr (7, [.ref q0, .ref q1, .ref q2, .int 0])), (q0, .inl (tc 0, 8, .inl (fun _ => 0))), (q1, .inl (tc 0, 8, .inl (fun _ => 0))), (q2, .inl (tc 0, 8, .inl (fun _ => 0)))] H := hP
  have hD : va_D A [(h0, .inr (7, [.ref q0, .ref q1, .ref q2, .int 0])), (q0, .inl (tc 0, 8, .inl (fun _ => 0))), (q1, .inl (tc 0, 8, .inl (fun _ => 0))), (q2, .inl (tc 0, 8, .inl (fun _ => 0)))] := hD
  refine lv_aload_n hx hb d_X7_28 rfl (lv_at hl 0 rfl) ?_
  refine lv_iconst (v := 0) hx hb d_X7_29 (by decide) ?_
  refine va_put (D := (dC, dI)) (ci := 7) (v := .int 0) (ty := .int) (C := RX7) (T := TX7) (N := 4) hx hb hts inW7 tyX7 tyX7_ok nmX7 hown hK hP hD hS 0 rfl rfl 3 (by decide) (hts _ wd_221) (fun _ h9 => h9) rfl (by decide +kernel) rfl rfl (Nat.le_of_ble_eq_true rfl) d_X7_30 (fun H locs hP hD hS => ?_)
  have hP : va_P (dC, dI) vwCl [(h0, .inr (7, [.ref q0, .ref q1, .ref q2, .int 0])), (q0, .inl (tc 0, 8, .inl (fun _ => 0))), (q1, .inl (tc 0, 8, .inl (fun _ => 0))), (q2, .inl (tc 0, 8, .inl (fun _ => 0)))] H := hP
  have hD : va_D A [(h0, .inr (7, [.ref q0, .ref q1, .ref q2, .int 0])), (q0, .inl (tc 0, 8, .inl (fun _ => 0))), (q1, .inl (tc 0, 8, .inl (fun _ => 0))), (q2, .inl (tc 0, 8, .inl (fun _ => 0)))] := hD
  have hP9 : va_P (dC, dI) vwCl (w_X7 ad tc h0 (fun i => ([q0, q1, q2] : List Nat).getD i 0)) _ := hP.sub [0, 1, 2, 3] rfl
  have hD9 : va_D A (w_X7 ad tc h0 (fun i => ([q0, q1, q2] : List Nat).getD i 0)) := hD.sub [0, 1, 2, 3] (by decide) rfl
  exact W.vret hx hb hr (fun t ht hW => ⟨⟨(fun i => ([q0, q1, q2] : List Nat).getD i 0), rfl, trivial, by rw [ht]; exact hP9, hD9⟩, hS.F ht⟩) hS.2.2 d_X7_33
theorem d_X8_0 : decode cX8_init 0 = .ok (.aload_n 0, 1) := by decide +kernel
theorem d_X8_1 : decode cX8_init 1 = .ok (.invokespecial 3, 3) := by decide +kernel
theorem d_X8_4 : decode cX8_init 4 = .ok (.aload_n 0, 1) := by decide +kernel
theorem d_X8_5 : decode cX8_init 5 = .ok (.bipush 60, 2) := by decide +kernel
theorem d_X8_7 : decode cX8_init 7 = .ok (.newarray .int, 2) := by decide +kernel
theorem d_X8_9 : decode cX8_init 9 = .ok (.putfield 9, 3) := by decide +kernel
theorem d_X8_12 : decode cX8_init 12 = .ok (.aload_n 0, 1) := by decide +kernel
theorem d_X8_13 : decode cX8_init 13 = .ok (.iconst (-1), 1) := by decide +kernel
theorem d_X8_14 : decode cX8_init 14 = .ok (.putfield 15, 3) := by decide +kernel
theorem d_X8_17 : decode cX8_init 17 = .ok (.aload_n 0, 1) := by decide +kernel
theorem d_X8_18 : decode cX8_init 18 = .ok (.iconst 0, 1) := by decide +kernel
theorem d_X8_19 : decode cX8_init 19 = .ok (.putfield 19, 3) := by decide +kernel
theorem d_X8_22 : decode cX8_init 22 = .ok (.return_, 1) := by decide +kernel
def w_X8 (ad : Nat → Nat) (tc : Nat → ClassId) (h0 : Nat) (g : Nat → Nat) : va_W := [(h0, .inr (8, [.ref (g 0), .int (-1), .int 0])), (g 0, .inl (tc 0, 60, .inl (fun _ => 0)))]
set_option maxHeartbeats 4000000 in
set_option maxRecDepth 100000 in
theorem n_X8 (l : Launch) (ad : Nat → Nat) (dC : Nat → ClassId) (dI : Nat → Nat → Nat) (tc : Nat → ClassId) (h0 sz : Nat) : Met l yX8_init (Cond.code yX8_init cX8_init 1 none :: gW) ({ frames := 1, cells := 1, slots := 60, locals := 80 }) (nPre ad dC dI tc h0 sz 8 [.null, .int 0, .int 0] [.ref h0]) (nPost dC dI (w_X8 ad tc h0) (va_A [(h0, .inr (8, [.null, .int 0, .int 0]))] sz)) 1 60 (va_A [(h0, .inr (8, [.null, .int 0, .int 0]))] sz) := by
  refine Met.ofW (cc := cX8_init) (maxL := 1) (ret := none) (by decide) rfl ?_
  intro p e s m args below meth c s₁ B hml hv
  obtain ⟨rfl, hsz, hP, hK, hD0, hro, hnw, hao1, hao2⟩ := hv
  have hx := B.exec
  have hb := B.bytes
  have hr := B.returns
  have hts0 := atoms_spec (ws := Cond.code yX8_init cX8_init 1 none :: gW) B.pre
  have hts : ∀ w ∈ gW, w.before _ s = true := fun w h => hts0 w (List.mem_cons_of_mem _ h)
  have hown : s.vm.findClass RX8 = some m.cls := findClass_of_methodNamed B.named
  have hin : meth.name = "<init>" := (name_of_methodNamed B.named B.method).1
  subst hsz
  have hD := hD0.self (sz := s.heap.size)
  generalize hAe : va_A [(h0, .inr (8, [.null, .int 0, .int 0]))] s.heap.size = A at hD hro ⊢
  have hA : ∀ q : Nat, s.heap.size ≤ q → A q := fun q h => by rw [← hAe]; exact Or.inr h
  have hS : va_S A s.heap s.heap [] := va_S.rf
  have hl := lv_entry ([.ref h0]) (n := 1) (Nat.le_of_ble_eq_true rfl)
  rw [lg_entry_eq]
  generalize (lg_sl ([.ref h0]) ++ List.replicate (1 - (lg_sl ([.ref h0])).length) Slot.unset).toArray = ls at hl ⊢
  have hl : lv_has ls 1 [(0, .ref h0)] := hl
  have hP : va_P (dC, dI) vwCl [(h0, .inr (8, [.null, .int 0, .int 0]))] s.heap := hP
  refine lv_aload_n hx hb d_X8_0 rfl (lv_at hl 0 rfl) ?_
  refine W.objInit hx hb hown (hts _ wd_249) (hts _ wd_23) (hts _ wd_24) rfl (by rw [hml]; exact hl.1) rfl d_X8_1 (Nat.le_of_ble_eq_true rfl) (Nat.le_of_ble_eq_true rfl) ?_
  refine W.eq (g2 := F0 m 4 ls []) rfl ?_
  refine lv_aload_n hx hb d_X8_4 rfl (lv_at hl 0 rfl) ?_
  refine lv_bipush (v := 60) hx hb d_X8_5 (by decide) ?_
  refine va_newa (atype := .int) (a0 := (60, .inl (fun _ => 0))) hx hb (hts _ wd_84) rfl hK hP hD hS hA (fun _ => rfl) (by decide) (by decide) (by decide) (Nat.le_of_ble_eq_true rfl) (Nat.le_of_ble_eq_true rfl) d_X8_7 (fun q0 cA H hK2 hP hD hS => ?_)
  obtain rfl : cA = tc 0 := gTc0 hK2
  have hP : va_P (dC, dI) vwCl [(h0, .inr (8, [.null, .int 0, .int 0])), (q0, .inl (tc 0, 60, .inl (fun _ => 0)))] H := hP
  have hD : va_D A [(h0, .inr (8, [.null, .int 0, .int 0])), (q0, .inl (tc 0, 60, .inl (fun _ => 0)))] := hD
  refine W.widen (k := 1) (n := 60) (by decide) (by decide) ?_
  refine va_putF (D := (dC, dI)) (ci := 8) (v := .ref q0) (ty := .array .int) (C := RX8) (T := TX8) (N := 3) hx hb hts inW8 tyX8 tyX8_ok nmX8 hown hK hP hD hS 0 rfl rfl 0 (by decide) (hts _ wd_250) (fun _ h9 => h9) rfl hin rfl (by decide +kernel) rfl rfl (Nat.le_of_ble_eq_true rfl) d_X8_9 (fun H locs hP hD hS => ?_)
  have hP : va_P (dC, dI) vwCl [(h0, .inr (8, [.ref q0, .int 0, .int 0])), (q0, .inl (tc 0, 60, .inl (fun _ => 0)))] H := hP
  have hD : va_D A [(h0, .inr (8, [.ref q0, .int 0, .int 0])), (q0, .inl (tc 0, 60, .inl (fun _ => 0)))] := hD
  refine lv_aload_n hx hb d_X8_12 rfl (lv_at hl 0 rfl) ?_
  refine lv_iconst (v := -1) hx hb d_X8_13 (by decide) ?_
  refine va_put (D := (dC, dI)) (ci := 8) (v := .int (-1)) (ty := .int) (C := RX8) (T := TX8) (N := 3) hx hb hts inW8 tyX8 tyX8_ok nmX8 hown hK hP hD hS 0 rfl rfl 1 (by decide) (hts _ wd_252) (fun _ h9 => h9) rfl (by decide +kernel) rfl rfl (Nat.le_of_ble_eq_true rfl) d_X8_14 (fun H locs hP hD hS => ?_)
  have hP : va_P (dC, dI) vwCl [(h0, .inr (8, [.ref q0, .int (-1), .int 0])), (q0, .inl (tc 0, 60, .inl (fun _ => 0)))] H := hP
  have hD : va_D A [(h0, .inr (8, [.ref q0, .int (-1), .int 0])), (q0, .inl (tc 0, 60, .inl (fun _ => 0)))] := hD
  refine lv_aload_n hx hb d_X8_17 rfl (lv_at hl 0 rfl) ?_
  refine lv_iconst (v := 0) hx hb d_X8_18 (by decide) ?_
  refine va_put (D := (dC, dI)) (ci := 8) (v := .int 0) (ty := .int) (C := RX8) (T := TX8) (N := 3) hx hb hts inW8 tyX8 tyX8_ok nmX8 hown hK hP hD hS 0 rfl rfl 2 (by decide) (hts _ wd_254) (fun _ h9 => h9) rfl (by decide +kernel) rfl rfl (Nat.le_of_ble_eq_true rfl) d_X8_19 (fun H locs hP hD hS => ?_)
  have hP : va_P (dC, dI) vwCl [(h0, .inr (8, [.ref q0, .int (-1), .int 0])), (q0, .inl (tc 0, 60, .inl (fun _ => 0)))] H := hP
  have hD : va_D A [(h0, .inr (8, [.ref q0, .int (-1), .int 0])), (q0, .inl (tc 0, 60, .inl (fun _ => 0)))] := hD
  have hP9 : va_P (dC, dI) vwCl (w_X8 ad tc h0 (fun i => ([q0] : List Nat).getD i 0)) _ := hP.sub [0, 1] rfl
  have hD9 : va_D A (w_X8 ad tc h0 (fun i => ([q0] : List Nat).getD i 0)) := hD.sub [0, 1] (by decide) rfl
  exact W.vret hx hb hr (fun t ht hW => ⟨⟨(fun i => ([q0] : List Nat).getD i 0), rfl, trivial, by rw [ht]; exact hP9, hD9⟩, hS.F ht⟩) hS.2.2 d_X8_22
