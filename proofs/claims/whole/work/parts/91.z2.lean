set_option maxHeartbeats 4000000 in
set_option maxRecDepth 100000 in
/-- the class's tables at the start -/
theorem ro_start {s : State} {b : Nat} {A : Nat → Prop} (hts : ∀ w ∈ lw_tbl, w.before #[Value.ref b] s = true) (hgv : (Jvm.Cond.and given_1 narrow_1).before #[Value.ref b] s = true) (hAn : ∀ a : Nat, a < s.heap.size → ¬ A a) : ∃ r : Nat → Nat, r 1007 = b ∧ gRoH r A s s.heap := by
  have hs := flat_of_before _ hgv
  obtain ⟨t0, e0, X0, l0⟩ := ro_X (tm := (Term.static "GorseGold" "BUSH_LOWS" "[I")) (N := 3) (xs := [99, 97, 49]) (by decide) (hs (Cond.arrayOf (Term.static "GorseGold" "BUSH_LOWS" "[I") .int) (by decide +kernel)) (va_eqt (hs (Cond.eq (.length (Term.static "GorseGold" "BUSH_LOWS" "[I")) (.int 3)) (by decide +kernel))) (fun j hj => by
    rcases (show j = 0 ∨ j = 1 ∨ j = 2 by omega) with rfl | rfl | rfl
    · exact va_eqt (hs (Cond.eq (.elem (Term.static "GorseGold" "BUSH_LOWS" "[I") (.int 0)) (.int 99)) (by decide +kernel))
    · exact va_eqt (hs (Cond.eq (.elem (Term.static "GorseGold" "BUSH_LOWS" "[I") (.int 1)) (.int 97)) (by decide +kernel))
    · exact va_eqt (hs (Cond.eq (.elem (Term.static "GorseGold" "BUSH_LOWS" "[I") (.int 2)) (.int 49)) (by decide +kernel)))
  have Z0 : va_Z "GorseGold" "BUSH_LOWS" "[I" (.ref t0) A s s.heap := va_Zref (hts (Cond.laysStatic "GorseGold" "BUSH_LOWS" "[I") (List.mem_of_getElem? (i := 117) (by decide +kernel))) (hts (Cond.initialized "GorseGold") (List.mem_of_getElem? (i := 72) (by decide +kernel))) e0 hAn
  obtain ⟨t1, e1, X1, l1⟩ := ro_X (tm := (Term.static "GorseGold" "BUSH_HIGHS" "[I")) (N := 3) (xs := [101, 108, 57]) (by decide) (hs (Cond.arrayOf (Term.static "GorseGold" "BUSH_HIGHS" "[I") .int) (by decide +kernel)) (va_eqt (hs (Cond.eq (.length (Term.static "GorseGold" "BUSH_HIGHS" "[I")) (.int 3)) (by decide +kernel))) (fun j hj => by
    rcases (show j = 0 ∨ j = 1 ∨ j = 2 by omega) with rfl | rfl | rfl
    · exact va_eqt (hs (Cond.eq (.elem (Term.static "GorseGold" "BUSH_HIGHS" "[I") (.int 0)) (.int 101)) (by decide +kernel))
    · exact va_eqt (hs (Cond.eq (.elem (Term.static "GorseGold" "BUSH_HIGHS" "[I") (.int 1)) (.int 108)) (by decide +kernel))
    · exact va_eqt (hs (Cond.eq (.elem (Term.static "GorseGold" "BUSH_HIGHS" "[I") (.int 2)) (.int 57)) (by decide +kernel)))
  have Z1 : va_Z "GorseGold" "BUSH_HIGHS" "[I" (.ref t1) A s s.heap := va_Zref (hts (Cond.laysStatic "GorseGold" "BUSH_HIGHS" "[I") (List.mem_of_getElem? (i := 119) (by decide +kernel))) (hts (Cond.initialized "GorseGold") (List.mem_of_getElem? (i := 72) (by decide +kernel))) e1 hAn
  obtain ⟨t2, e2, X2, l2⟩ := ro_X (tm := (Term.static "GorseGold" "LOOK_LOWS" "[I")) (N := 2) (xs := [97, 48]) (by decide) (hs (Cond.arrayOf (Term.static "GorseGold" "LOOK_LOWS" "[I") .int) (by decide +kernel)) (va_eqt (hs (Cond.eq (.length (Term.static "GorseGold" "LOOK_LOWS" "[I")) (.int 2)) (by decide +kernel))) (fun j hj => by
    rcases (show j = 0 ∨ j = 1 by omega) with rfl | rfl
    · exact va_eqt (hs (Cond.eq (.elem (Term.static "GorseGold" "LOOK_LOWS" "[I") (.int 0)) (.int 97)) (by decide +kernel))
    · exact va_eqt (hs (Cond.eq (.elem (Term.static "GorseGold" "LOOK_LOWS" "[I") (.int 1)) (.int 48)) (by decide +kernel)))
  have Z2 : va_Z "GorseGold" "LOOK_LOWS" "[I" (.ref t2) A s s.heap := va_Zref (hts (Cond.laysStatic "GorseGold" "LOOK_LOWS" "[I") (List.mem_of_getElem? (i := 209) (by decide +kernel))) (hts (Cond.initialized "GorseGold") (List.mem_of_getElem? (i := 72) (by decide +kernel))) e2 hAn
  obtain ⟨t3, e3, X3, l3⟩ := ro_X (tm := (Term.static "GorseGold" "LOOK_HIGHS" "[I")) (N := 2) (xs := [120, 57]) (by decide) (hs (Cond.arrayOf (Term.static "GorseGold" "LOOK_HIGHS" "[I") .int) (by decide +kernel)) (va_eqt (hs (Cond.eq (.length (Term.static "GorseGold" "LOOK_HIGHS" "[I")) (.int 2)) (by decide +kernel))) (fun j hj => by
    rcases (show j = 0 ∨ j = 1 by omega) with rfl | rfl
    · exact va_eqt (hs (Cond.eq (.elem (Term.static "GorseGold" "LOOK_HIGHS" "[I") (.int 0)) (.int 120)) (by decide +kernel))
    · exact va_eqt (hs (Cond.eq (.elem (Term.static "GorseGold" "LOOK_HIGHS" "[I") (.int 1)) (.int 57)) (by decide +kernel)))
  have Z3 : va_Z "GorseGold" "LOOK_HIGHS" "[I" (.ref t3) A s s.heap := va_Zref (hts (Cond.laysStatic "GorseGold" "LOOK_HIGHS" "[I") (List.mem_of_getElem? (i := 211) (by decide +kernel))) (hts (Cond.initialized "GorseGold") (List.mem_of_getElem? (i := 72) (by decide +kernel))) e3 hAn
  obtain ⟨t4, e4, X4, l4⟩ := ro_X (tm := (Term.static "GorseGold" "KIND_OF_SIGN" "[I")) (N := 3) (xs := [0, 2, 1]) (by decide) (hs (Cond.arrayOf (Term.static "GorseGold" "KIND_OF_SIGN" "[I") .int) (by decide +kernel)) (va_eqt (hs (Cond.eq (.length (Term.static "GorseGold" "KIND_OF_SIGN" "[I")) (.int 3)) (by decide +kernel))) (fun j hj => by
    rcases (show j = 0 ∨ j = 1 ∨ j = 2 by omega) with rfl | rfl | rfl
    · exact va_eqt (hs (Cond.eq (.elem (Term.static "GorseGold" "KIND_OF_SIGN" "[I") (.int 0)) (.int 0)) (by decide +kernel))
    · exact va_eqt (hs (Cond.eq (.elem (Term.static "GorseGold" "KIND_OF_SIGN" "[I") (.int 1)) (.int 2)) (by decide +kernel))
    · exact va_eqt (hs (Cond.eq (.elem (Term.static "GorseGold" "KIND_OF_SIGN" "[I") (.int 2)) (.int 1)) (by decide +kernel)))
  have Z4 : va_Z "GorseGold" "KIND_OF_SIGN" "[I" (.ref t4) A s s.heap := va_Zref (hts (Cond.laysStatic "GorseGold" "KIND_OF_SIGN" "[I") (List.mem_of_getElem? (i := 438) (by decide +kernel))) (hts (Cond.initialized "GorseGold") (List.mem_of_getElem? (i := 72) (by decide +kernel))) e4 hAn
  obtain ⟨t5, e5, X5, l5⟩ := ro_X (tm := (Term.static "GorseGold" "SEASON_OF_KIND" "[I")) (N := 3) (xs := [6, 4, 3]) (by decide) (hs (Cond.arrayOf (Term.static "GorseGold" "SEASON_OF_KIND" "[I") .int) (by decide +kernel)) (va_eqt (hs (Cond.eq (.length (Term.static "GorseGold" "SEASON_OF_KIND" "[I")) (.int 3)) (by decide +kernel))) (fun j hj => by
    rcases (show j = 0 ∨ j = 1 ∨ j = 2 by omega) with rfl | rfl | rfl
    · exact va_eqt (hs (Cond.eq (.elem (Term.static "GorseGold" "SEASON_OF_KIND" "[I") (.int 0)) (.int 6)) (by decide +kernel))
    · exact va_eqt (hs (Cond.eq (.elem (Term.static "GorseGold" "SEASON_OF_KIND" "[I") (.int 1)) (.int 4)) (by decide +kernel))
    · exact va_eqt (hs (Cond.eq (.elem (Term.static "GorseGold" "SEASON_OF_KIND" "[I") (.int 2)) (.int 3)) (by decide +kernel)))
  have Z5 : va_Z "GorseGold" "SEASON_OF_KIND" "[I" (.ref t5) A s s.heap := va_Zref (hts (Cond.laysStatic "GorseGold" "SEASON_OF_KIND" "[I") (List.mem_of_getElem? (i := 542) (by decide +kernel))) (hts (Cond.initialized "GorseGold") (List.mem_of_getElem? (i := 72) (by decide +kernel))) e5 hAn
  obtain ⟨t6, e6, X6, l6⟩ := ro_X (tm := (Term.static "GorseGold" "LASTING" "[I")) (N := 12) (xs := [9, 12, 12, 2, 2, 3, 1, 2, 0, 3, 3, 3]) (by decide) (hs (Cond.arrayOf (Term.static "GorseGold" "LASTING" "[I") .int) (by decide +kernel)) (va_eqt (hs (Cond.eq (.length (Term.static "GorseGold" "LASTING" "[I")) (.int 12)) (by decide +kernel))) (fun j hj => by
    rcases (show j = 0 ∨ j = 1 ∨ j = 2 ∨ j = 3 ∨ j = 4 ∨ j = 5 ∨ j = 6 ∨ j = 7 ∨ j = 8 ∨ j = 9 ∨ j = 10 ∨ j = 11 by omega) with rfl | rfl | rfl | rfl | rfl | rfl | rfl | rfl | rfl | rfl | rfl | rfl
    · exact va_eqt (hs (Cond.eq (.elem (Term.static "GorseGold" "LASTING" "[I") (.int 0)) (.int 9)) (by decide +kernel))
    · exact va_eqt (hs (Cond.eq (.elem (Term.static "GorseGold" "LASTING" "[I") (.int 1)) (.int 12)) (by decide +kernel))
    · exact va_eqt (hs (Cond.eq (.elem (Term.static "GorseGold" "LASTING" "[I") (.int 2)) (.int 12)) (by decide +kernel))
    · exact va_eqt (hs (Cond.eq (.elem (Term.static "GorseGold" "LASTING" "[I") (.int 3)) (.int 2)) (by decide +kernel))
    · exact va_eqt (hs (Cond.eq (.elem (Term.static "GorseGold" "LASTING" "[I") (.int 4)) (.int 2)) (by decide +kernel))
    · exact va_eqt (hs (Cond.eq (.elem (Term.static "GorseGold" "LASTING" "[I") (.int 5)) (.int 3)) (by decide +kernel))
    · exact va_eqt (hs (Cond.eq (.elem (Term.static "GorseGold" "LASTING" "[I") (.int 6)) (.int 1)) (by decide +kernel))
    · exact va_eqt (hs (Cond.eq (.elem (Term.static "GorseGold" "LASTING" "[I") (.int 7)) (.int 2)) (by decide +kernel))
    · exact va_eqt (hs (Cond.eq (.elem (Term.static "GorseGold" "LASTING" "[I") (.int 8)) (.int 0)) (by decide +kernel))
    · exact va_eqt (hs (Cond.eq (.elem (Term.static "GorseGold" "LASTING" "[I") (.int 9)) (.int 3)) (by decide +kernel))
    · exact va_eqt (hs (Cond.eq (.elem (Term.static "GorseGold" "LASTING" "[I") (.int 10)) (.int 3)) (by decide +kernel))
    · exact va_eqt (hs (Cond.eq (.elem (Term.static "GorseGold" "LASTING" "[I") (.int 11)) (.int 3)) (by decide +kernel)))
  have Z6 : va_Z "GorseGold" "LASTING" "[I" (.ref t6) A s s.heap := va_Zref (hts (Cond.laysStatic "GorseGold" "LASTING" "[I") (List.mem_of_getElem? (i := 535) (by decide +kernel))) (hts (Cond.initialized "GorseGold") (List.mem_of_getElem? (i := 72) (by decide +kernel))) e6 hAn
  refine ⟨fun i => ([t0, t1, t2, t3, t4, t5, t6] : List Nat).getD (i - 1000) b, rfl, ?_⟩
  intro j n nm xs hj
  match j, hj with
  | 0, hj => cases hj; exact ⟨X0, l0, hAn _ l0, Z0⟩
  | 1, hj => cases hj; exact ⟨X1, l1, hAn _ l1, Z1⟩
  | 2, hj => cases hj; exact ⟨X2, l2, hAn _ l2, Z2⟩
  | 3, hj => cases hj; exact ⟨X3, l3, hAn _ l3, Z3⟩
  | 4, hj => cases hj; exact ⟨X4, l4, hAn _ l4, Z4⟩
  | 5, hj => cases hj; exact ⟨X5, l5, hAn _ l5, Z5⟩
  | 6, hj => cases hj; exact ⟨X6, l6, hAn _ l6, Z6⟩
  | j + 7, hj => cases hj
theorem tc_start {s : State} {b : Nat} (hts : ∀ w ∈ lw_tbl, w.before #[Value.ref b] s = true) : ∃ tc : Nat → ClassId, ∀ (k : Nat) (q : ClassId × FieldType), (gTys tc)[k]? = some q → ArrOfT s q.1 q.2 ∧ va_RA s q.1 q.2 := by
  obtain ⟨c0, k0, p0, a0, b0, d0⟩ := Cond.arrayClass_spec (args := #[Value.ref b]) (first := s) (o := none) (s := s) (idx := []) (type := .int) (hts (Cond.arrayClass .int) (List.mem_of_getElem? (i := 155) (by decide +kernel)))
  obtain ⟨c1, k1, p1, a1, b1, d1⟩ := Cond.arrayClass_spec (args := #[Value.ref b]) (first := s) (o := none) (s := s) (idx := []) (type := .boolean) (hts (Cond.arrayClass .boolean) (List.mem_of_getElem? (i := 978) (by decide +kernel)))
  obtain ⟨p2, c2, k2, a2, -, b2, d2, f2⟩ := Cond.arrayOver_spec (args := #[Value.ref b]) (first := s) (o := none) (s := s) (idx := []) (n := "GorseGold$Course") (hts (Cond.arrayOver (.object "GorseGold$Course")) (List.mem_of_getElem? (i := 162) (by decide +kernel)))
  obtain ⟨p3, c3, k3, a3, -, b3, d3, f3⟩ := Cond.arrayOver_spec (args := #[Value.ref b]) (first := s) (o := none) (s := s) (idx := []) (n := "GorseGold$Sheet") (hts (Cond.arrayOver (.object "GorseGold$Sheet")) (List.mem_of_getElem? (i := 315) (by decide +kernel)))
  refine ⟨fun i => ([c0, c1, c2, c3] : List ClassId).getD i c0, ?_⟩
  intro k q hq
  match k, hq with
  | 0, hq => cases hq; exact ⟨fun n z => ⟨fun k h => (by cases h), k0, b0, p0, d0⟩, a0⟩
  | 1, hq => cases hq; exact ⟨fun n z => ⟨fun k h => (by cases h), k1, b1, p1, d1⟩, a1⟩
  | 2, hq => cases hq; exact ⟨fun n z => ⟨fun k h => (by cases h), k2, b2, p2, d2⟩, k2, p2, b2, d2, a2, f2⟩
  | 3, hq => cases hq; exact ⟨fun n z => ⟨fun k h => (by cases h), k3, b3, p3, d3⟩, k3, p3, b3, d3, a3, f3⟩
  | k + 4, hq => cases hq
theorem dc_start {s : State} {b : Nat} (hts : ∀ w ∈ lw_tbl, w.before #[Value.ref b] s = true) : ∃ (dC : Nat → ClassId) (dI : Nat → Nat → Nat), ∀ (k : Nat) (q : vw_C), vwCl[k]? = some q → u_Kn s q.1 q.2.1 q.2.2 (dC k) (dI k) := by
  have htw : ∀ w ∈ gW, w.before #[Value.ref b] s = true := fun w h => hts w (List.mem_filter.mp h).1
  obtain ⟨c0, i0, h0⟩ := u_known (C := RX0) (T := TX0) (N := 1) (n := 1) htw inW0 (hts (Cond.instantiable RX0 1) (List.mem_of_getElem? (i := 109) (by decide +kernel)))
  obtain ⟨c1, i1, h1⟩ := u_known (C := RX1) (T := TX1) (N := 4) (n := 4) htw inW1 (hts (Cond.instantiable RX1 4) (List.mem_of_getElem? (i := 163) (by decide +kernel)))
  obtain ⟨c2, i2, h2⟩ := u_known (C := RX2) (T := TX2) (N := 4) (n := 4) htw inW2 (hts (Cond.instantiable RX2 4) (List.mem_of_getElem? (i := 256) (by decide +kernel)))
  obtain ⟨c3, i3, h3⟩ := u_known (C := RX3) (T := TX3) (N := 2) (n := 2) htw inW3 (hts (Cond.instantiable RX3 2) (List.mem_of_getElem? (i := 103) (by decide +kernel)))
  obtain ⟨c4, i4, h4⟩ := u_known (C := RX4) (T := TX4) (N := 1) (n := 1) htw inW4 (hts (Cond.instantiable RX4 1) (List.mem_of_getElem? (i := 202) (by decide +kernel)))
  obtain ⟨c5, i5, h5⟩ := u_known (C := RX5) (T := TX5) (N := 1) (n := 1) htw inW5 (hts (Cond.instantiable RX5 1) (List.mem_of_getElem? (i := 304) (by decide +kernel)))
  obtain ⟨c6, i6, h6⟩ := u_known (C := RX6) (T := TX6) (N := 10) (n := 10) htw inW6 (hts (Cond.instantiable RX6 10) (List.mem_of_getElem? (i := 97) (by decide +kernel)))
  obtain ⟨c7, i7, h7⟩ := u_known (C := RX7) (T := TX7) (N := 4) (n := 4) htw inW7 (hts (Cond.instantiable RX7 4) (List.mem_of_getElem? (i := 284) (by decide +kernel)))
  obtain ⟨c8, i8, h8⟩ := u_known (C := RX8) (T := TX8) (N := 3) (n := 3) htw inW8 (hts (Cond.instantiable RX8 3) (List.mem_of_getElem? (i := 316) (by decide +kernel)))
  obtain ⟨c9, i9, h9⟩ := u_known (C := RX9) (T := TX9) (N := 8) (n := 8) htw inW9 (hts (Cond.instantiable RX9 8) (List.mem_of_getElem? (i := 115) (by decide +kernel)))
  obtain ⟨c10, i10, h10⟩ := u_known (C := RX10) (T := TX10) (N := 13) (n := 13) htw inW10 (hts (Cond.instantiable RX10 13) (List.mem_of_getElem? (i := 89) (by decide +kernel)))
  obtain ⟨c11, i11, h11⟩ := u_known (C := RX11) (T := TX11) (N := 29) (n := 29) htw inW11 (hts (Cond.instantiable RX11 29) (List.mem_of_getElem? (i := 885) (by decide +kernel)))
  refine ⟨fun k => ([c0, c1, c2, c3, c4, c5, c6, c7, c8, c9, c10, c11] : List ClassId).getD k c0, fun k => ([i0, i1, i2, i3, i4, i5, i6, i7, i8, i9, i10, i11] : List (Nat → Nat)).getD k i0, ?_⟩
  intro k q hq
  match k, hq with
  | 0, hq => cases hq; exact h0
  | 1, hq => cases hq; exact h1
  | 2, hq => cases hq; exact h2
  | 3, hq => cases hq; exact h3
  | 4, hq => cases hq; exact h4
  | 5, hq => cases hq; exact h5
  | 6, hq => cases hq; exact h6
  | 7, hq => cases hq; exact h7
  | 8, hq => cases hq; exact h8
  | 9, hq => cases hq; exact h9
  | 10, hq => cases hq; exact h10
  | 11, hq => cases hq; exact h11
  | k + 12, hq => cases hq
