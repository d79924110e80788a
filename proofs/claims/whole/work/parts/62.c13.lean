theorem xMx_ge {g : Nat → Nat} {j : Nat} : ∀ {n : Nat}, j < n → g j ≤ xMx g n
  | 0, h => absurd h (Nat.not_lt_zero j)
  | n + 1, h => by
    simp only [xMx]
    by_cases e : j = n
    · rw [e]; split <;> omega
    · have := xMx_ge (g := g) (j := j) (n := n) (by omega)
      split <;> omega
theorem xMx_ub {g : Nat → Nat} {b : Nat} : ∀ {n : Nat}, (∀ j, j < n → g j ≤ b) → xMx g n ≤ b
  | 0, _ => Nat.zero_le b
  | n + 1, h => by
    have h1 := xMx_ub (n := n) (fun j hj => h j (by omega))
    have h2 := h n (by omega)
    simp only [xMx]
    split <;> omega
theorem xMx_up {g g2 : Nat → Nat} {n s : Nat} (hs : s < n) (h1 : ∀ j, j < n → ¬ j = s → g2 j = g j) (h2 : g s ≤ g2 s) : (if nI (xMx g n) < nI (g2 s) then nI (g2 s) else nI (xMx g n)) = nI (xMx g2 n) ∨ 2147483648 ≤ xMx g n ∨ 2147483648 ≤ g2 s := by
  by_cases ha : 2147483648 ≤ xMx g n
  · exact Or.inr (Or.inl ha)
  by_cases hb : 2147483648 ≤ g2 s
  · exact Or.inr (Or.inr hb)
  left
  have a1 : xMx g n ≤ xMx g2 n := xMx_ub (fun j hj => by
    have := xMx_ge (g := g2) hj
    by_cases e : j = s
    · rw [e] at this ⊢; omega
    · rw [h1 j hj e] at this; exact this)
  have a2 := xMx_ge (g := g2) hs
  have a3 : xMx g2 n ≤ max (xMx g n) (g2 s) := xMx_ub (fun j hj => by
    by_cases e : j = s
    · rw [e]; omega
    · rw [h1 j hj e]; have := xMx_ge (g := g) hj; omega)
  by_cases h : xMx g n < g2 s
  · rw [if_pos ((gN_lt (a := xMx g n) (b := g2 s) rfl rfl (by omega) (by omega)).mpr h)]; congr 1; omega
  · rw [if_neg (fun z => h ((gN_lt (a := xMx g n) (b := g2 s) rfl rfl (by omega) (by omega)).mp z))]; congr 1; omega
theorem dStB_st (D : xDat) (k v m : Nat) : dStB D k v m = cStt (fun a m => xOn (dN D) (dK D) (dM D) (dB D) gn0 a (some k) (dKd D k) m) (xSeason (dKd D k) v) m := rfl
theorem dStB_lt (D : xDat) (k v m : Nat) : dStB D k v m < 5 := by rw [dStB_st]; exact cStt_lt _ _ _
def cAkF (k : Nat) (σ τ : gS) : Prop := ∀ p, p ≠ 44 → p ≠ 50 + k → τ p = σ p
theorem cAkF.keep {k : Nat} {σ τ : gS} (h : cAkF k σ τ) (hk : k < 10) : cKeep σ τ := ⟨fun q a b => h q (fun z => b (by unfold cScr; omega)) (fun z => b (by unfold cScr; omega)), fun s _ _ => by rw [h 19 (by omega) (by omega)]⟩
theorem cAkF.tr {k : Nat} {σ τ υ : gS} (h : cAkF k σ τ) (h2 : cAkF k τ υ) : cAkF k σ υ := fun p a b => (h2 p a b).trans (h p a b)
theorem s_X10_greatestAlike {d : Nat} (hd : 4 ≤ d) (σ : gS) (D : xDat) (G : xSig) (k m : Nat) (hT : cT0 σ (dN0 D) (dC0 D)) (hh : ∀ a, a < 4 → σ (60 + k) a = xMask (fun m => xOn (dN D) (dK D) (dM D) (dB D) gn0 a (some k) (dKd D k) m) 24) (hk : k < dNb D) (hm : m < 24) : gC d 95 [.ref 18, .int (nI k), .int (dBegan D G k), .int (nI m)] σ (fun r τ => r = some (.int (nI (dMost D G k m))) ∧ cAkF k σ τ) := by
  obtain ⟨d, rfl⟩ : ∃ k, d = k + 1 := ⟨d - 1, by omega⟩
  refine gC.of (P := pX10_greatestAlike) (nL := 9) (rt := (some (.int))) (lv := [some (.ref 18), some (.int (nI k)), some (.int (dBegan D G k)), some (.int (nI m)), none, none, none, none, none]) (by decide +kernel) rfl rfl rfl (by simp [gEnt, Value.category]) rfl ?_
  have hnb := dNb_le D hT.1.2.2.2.1
  refine gR.steps 3 (σ, (5, [some (.ref 18), some (.int (nI k)), some (.int (dBegan D G k)), some (.int (nI m)), none, none, none, none, none], [.int (nI k), .ref 21])) rfl ?_
  refine gR.callp rfl (s_X0_kindOf (by omega) σ D k hT (by omega)) ?_
  refine gR.steps 5 (σ, (18, [some (.ref 18), some (.int (nI k)), some (.int (dBegan D G k)), some (.int (nI m)), some (.int (nI (dKd D k))), none, none, none, none], [.int (nI k), .ref 45])) rfl ?_
  refine gR.chk (b := gIn (nI k) 10) rfl (gN_in rfl (by omega) (by omega)) ?_
  rw [gN_cl rfl (by omega)]
  refine gR.steps 4 (σ, (26, [some (.ref 18), some (.int (nI k)), some (.int (dBegan D G k)), some (.int (nI m)), some (.int (nI (dKd D k))), some (.ref (50 + k)), none, none, none], [.int 0, .ref 44])) rfl ?_
  refine gR.call' rfl (s_J7_fill_53178 (by omega) σ 44 5 0 rfl (by omega)) ?_
  rintro _ τ0 ⟨rfl, hF0, hv0, _⟩
  show gR _ _ _ τ0 (29, [some (.ref 18), some (.int (nI k)), some (.int (dBegan D G k)), some (.int (nI m)), some (.int (nI (dKd D k))), some (.ref (50 + k)), none, none, none], [])
  refine gR.steps 4 (τ0, (35, [some (.ref 18), some (.int (nI k)), some (.int (dBegan D G k)), some (.int (nI m)), some (.int (nI (dKd D k))), some (.ref (50 + k)), some (.int 0), some (.int 0), none], [])) rfl ?_
  refine gR.forget [some (.ref 18), some (.int (nI k)), some (.int (dBegan D G k)), some (.int (nI m)), some (.int (nI (dKd D k))), some (.ref (50 + k)), some (.int (nI (xMx (fun j => dAk D G k m j 0) 5))), some (.int 0), none] ⟨rfl, ⟨rfl, ⟨rfl, ⟨rfl, ⟨rfl, ⟨rfl, ⟨rfl, ⟨rfl, trivial⟩⟩⟩⟩⟩⟩⟩⟩ ?_
  refine gR.loop (α := Nat × gS) (fun ⟨v, τ⟩ => v ≤ 12 ∧ cAkF k σ τ ∧ ∀ j, j < 5 → τ 44 j = nI (dAk D G k m j v)) (fun ⟨v, τ⟩ => 12 - v) (fun ⟨v, τ⟩ => (τ, (35, [some (.ref 18), some (.int (nI k)), some (.int (dBegan D G k)), some (.int (nI m)), some (.int (nI (dKd D k))), some (.ref (50 + k)), some (.int (nI (xMx (fun j => dAk D G k m j v) 5))), some (.int (nI v)), none], []))) ?_ ⟨0, τ0⟩ ⟨by omega, fun p a b => hF0 p a, fun j hj => hv0 j hj⟩
  rintro ⟨v, τ⟩ ⟨hv, hF, ha⟩ ih
  show gR _ _ _ τ (35, [some (.ref 18), some (.int (nI k)), some (.int (dBegan D G k)), some (.int (nI m)), some (.int (nI (dKd D k))), some (.ref (50 + k)), some (.int (nI (xMx (fun j => dAk D G k m j v) 5))), some (.int (nI v)), none], [])
  refine gR.steps 2 (τ, (39, [some (.ref 18), some (.int (nI k)), some (.int (dBegan D G k)), some (.int (nI m)), some (.int (nI (dKd D k))), some (.ref (50 + k)), some (.int (nI (xMx (fun j => dAk D G k m j v) 5))), some (.int (nI v)), none], [.int 12, .int (nI v)])) rfl ?_
  refine gR.ifte rfl (fun zc39 => ?_) (fun zc39 => ?_)
  · rw [gN_le (x := 12) (y := nI v) (a := 12) (b := v) rfl rfl (by omega) (by omega)] at zc39
    refine gR.steps 1 (τ, (102, [some (.ref 18), some (.int (nI k)), some (.int (dBegan D G k)), some (.int (nI m)), some (.int (nI (dKd D k))), some (.ref (50 + k)), some (.int (nI (xMx (fun j => dAk D G k m j v) 5))), some (.int (nI v)), none], [.int (nI (xMx (fun j => dAk D G k m j v) 5))])) rfl ?_
    show gR _ _ _ τ (102, [some (.ref 18), some (.int (nI k)), some (.int (dBegan D G k)), some (.int (nI m)), some (.int (nI (dKd D k))), some (.ref (50 + k)), some (.int (nI (xMx (fun j => dAk D G k m j v) 5))), some (.int (nI v)), none], [.int (nI (xMx (fun j => dAk D G k m j v) 5))])
    refine gR.ret rfl ?_
    have hv12 : v = 12 := by omega
    refine ⟨trivial, ?_, hF⟩
    rw [hv12]; rfl
  · rw [gN_le (x := 12) (y := nI v) (a := 12) (b := v) rfl rfl (by omega) (by omega)] at zc39
    refine gR.steps 2 (τ, (45, [some (.ref 18), some (.int (nI k)), some (.int (dBegan D G k)), some (.int (nI m)), some (.int (nI (dKd D k))), some (.ref (50 + k)), some (.int (nI (xMx (fun j => dAk D G k m j v) 5))), some (.int (nI v)), none], [.int (nI v), .int (dBegan D G k)])) rfl ?_
    refine gR.callp rfl (s_X10_bit (by omega) τ (dBegan D G k) (nI v)) ?_
    refine gR.steps 1 (τ, (49, [some (.ref 18), some (.int (nI k)), some (.int (dBegan D G k)), some (.int (nI m)), some (.int (nI (dKd D k))), some (.ref (50 + k)), some (.int (nI (xMx (fun j => dAk D G k m j v) 5))), some (.int (nI v)), none], [.int 1, .int (((dBegan D G k) >>> ((nI v) &&& 31)) &&& 1)])) rfl ?_
    refine gR.ifte rfl (fun zc49 => ?_) (fun zc49 => ?_)
    · refine gR.steps 2 (τ, (35, [some (.ref 18), some (.int (nI k)), some (.int (dBegan D G k)), some (.int (nI m)), some (.int (nI (dKd D k))), some (.ref (50 + k)), some (.int (nI (xMx (fun j => dAk D G k m j v) 5))), some (.int ((nI v) + 1)), none], [])) rfl ?_
      refine gR.forget [some (.ref 18), some (.int (nI k)), some (.int (dBegan D G k)), some (.int (nI m)), some (.int (nI (dKd D k))), some (.ref (50 + k)), some (.int (nI (xMx (fun j => dAk D G k m j (v + 1)) 5))), some (.int (nI (v + 1))), none] ⟨rfl, ⟨rfl, ⟨rfl, ⟨rfl, ⟨rfl, ⟨rfl, ⟨gSomeI (congrArg nI (congrArg (fun g => xMx g 5) (funext (fun j => dAk_n (fun z => zc49 z.1))))), ⟨gSomeI (gN_add rfl rfl), trivial⟩⟩⟩⟩⟩⟩⟩⟩ ?_
      have hzz := ih ⟨v + 1, τ⟩ ⟨by omega, hF, fun j hj => (ha j hj).trans (congrArg nI (dAk_n (fun z => zc49 z.1)))⟩ (by dsimp only; omega)
      exact hzz
    · rw [Decidable.not_not] at zc49
      refine gR.steps 3 (τ, (58, [some (.ref 18), some (.int (nI k)), some (.int (dBegan D G k)), some (.int (nI m)), some (.int (nI (dKd D k))), some (.ref (50 + k)), some (.int (nI (xMx (fun j => dAk D G k m j v) 5))), some (.int (nI v)), none], [.int (nI (dKd D k)), .int (nI v), .ref (50 + k)])) rfl ?_
      refine gR.call' (gStep_callV rfl rfl (gSh_course (j := k) (by omega)) rfl) (s_X1_beginIn (by omega) τ (50 + k) (60 + k) (fun a m => xOn (dN D) (dK D) (dM D) (dB D) gn0 a (some k) (dKd D k) m) (dKd D k) v (Or.inr ⟨by omega, by omega, by omega⟩) (fun a ha => by rw [hF (60 + k) (by omega) (by omega)]; exact hh a ha) (dKd_lt hk) (by omega)) ?_
      rintro _ υ ⟨rfl, hF2, hC⟩
      have hF3 : cAkF k σ υ := fun p a b => (hF2 p b).trans (hF p a b)
      have hu44 : ∀ j, j < 5 → υ 44 j = nI (dAk D G k m j v) := fun j hj => by rw [hF2 44 (by omega)]; exact ha j hj
      have hs5 := dStB_lt D k v m
      show gR _ _ _ υ (61, [some (.ref 18), some (.int (nI k)), some (.int (dBegan D G k)), some (.int (nI m)), some (.int (nI (dKd D k))), some (.ref (50 + k)), some (.int (nI (xMx (fun j => dAk D G k m j v) 5))), some (.int (nI v)), none], [])
      refine gR.steps 2 (υ, (64, [some (.ref 18), some (.int (nI k)), some (.int (dBegan D G k)), some (.int (nI m)), some (.int (nI (dKd D k))), some (.ref (50 + k)), some (.int (nI (xMx (fun j => dAk D G k m j v) 5))), some (.int (nI v)), none], [.int (nI m), .ref (50 + k)])) rfl ?_
      refine gR.callp (x := .int (nI (dStB D k v m))) (gStep_callV rfl rfl (gSh_course (j := k) (by omega)) rfl) (s_X1_stateIn (by omega) υ (50 + k) (60 + k) _ _ m (Or.inr ⟨by omega, by omega, by omega⟩) hC hm) ?_
      refine gR.steps 5 (υ, (76, [some (.ref 18), some (.int (nI k)), some (.int (dBegan D G k)), some (.int (nI m)), some (.int (nI (dKd D k))), some (.ref (50 + k)), some (.int (nI (xMx (fun j => dAk D G k m j v) 5))), some (.int (nI v)), some (.int (nI (dStB D k v m)))], [.int (nI (dStB D k v m)), .ref 44, .int (nI (dStB D k v m)), .ref 44])) rfl ?_
      refine gR.ald (i := nI (dStB D k v m)) (j := dStB D k v m) (N := 5) (g := υ 44) rfl rfl (by omega) (by omega) ?_
      refine gR.topI (y := nI (dAk D G k m (dStB D k v m) v)) (hu44 (dStB D k v m) (by omega)) ?_
      refine gR.steps 2 (υ, (79, [some (.ref 18), some (.int (nI k)), some (.int (dBegan D G k)), some (.int (nI m)), some (.int (nI (dKd D k))), some (.ref (50 + k)), some (.int (nI (xMx (fun j => dAk D G k m j v) 5))), some (.int (nI v)), some (.int (nI (dStB D k v m)))], [.int ((nI (dAk D G k m (dStB D k v m) v)) + 1), .int (nI (dStB D k v m)), .ref 44])) rfl ?_
      refine gR.ast (i := nI (dStB D k v m)) (j := dStB D k v m) (N := 5) (q := 44) (x := (nI (dAk D G k m (dStB D k v m) v)) + 1) rfl rfl (by omega) (by omega) ?_
      refine gR.steps 4 (gUp υ 44 (dStB D k v m) ((nI (dAk D G k m (dStB D k v m) v)) + 1), (88, [some (.ref 18), some (.int (nI k)), some (.int (dBegan D G k)), some (.int (nI m)), some (.int (nI (dKd D k))), some (.ref (50 + k)), some (.int (nI (xMx (fun j => dAk D G k m j v) 5))), some (.int (nI v)), some (.int (nI (dStB D k v m)))], [.int (nI (dStB D k v m)), .ref 44, .int (nI (xMx (fun j => dAk D G k m j v) 5))])) rfl ?_
      refine gR.ald (i := nI (dStB D k v m)) (j := dStB D k v m) (N := 5) (g := (gUp υ 44 (dStB D k v m) ((nI (dAk D G k m (dStB D k v m) v)) + 1)) 44) rfl rfl (by omega) (by omega) ?_
      refine gR.topI (y := (nI (dAk D G k m (dStB D k v m) v)) + 1) (by rw [gUp_s]) ?_
      refine gR.topI (y := nI (dAk D G k m (dStB D k v m) v + 1)) (gN_add rfl rfl) ?_
      refine gR.steps 4 (gUp υ 44 (dStB D k v m) ((nI (dAk D G k m (dStB D k v m) v)) + 1), (35, [some (.ref 18), some (.int (nI k)), some (.int (dBegan D G k)), some (.int (nI m)), some (.int (nI (dKd D k))), some (.ref (50 + k)), some (.int (if nI (xMx (fun j => dAk D G k m j v) 5) < nI (dAk D G k m (dStB D k v m) v + 1) then nI (dAk D G k m (dStB D k v m) v + 1) else nI (xMx (fun j => dAk D G k m j v) 5))), some (.int ((nI v) + 1)), some (.int (nI (dStB D k v m)))], [])) rfl ?_
      have hmx : (if nI (xMx (fun j => dAk D G k m j v) 5) < nI (dAk D G k m (dStB D k v m) v + 1) then nI (dAk D G k m (dStB D k v m) v + 1) else nI (xMx (fun j => dAk D G k m j v) 5)) = nI (xMx (fun j => dAk D G k m j (v + 1)) 5) := by
        have e1 := dAk_s (D := D) (G := G) (k := k) (m := m) (v := v) zc49 rfl
        have b1 := dAk_le D G k m (dStB D k v m) (v + 1)
        have b2 : xMx (fun j => dAk D G k m j v) 5 ≤ v := xMx_le (fun j => dAk_le D G k m j v) 5
        rw [e1]
        rcases xMx_up (g := fun j => dAk D G k m j v) (g2 := fun j => dAk D G k m j (v + 1)) (n := 5) (s := dStB D k v m) hs5 (fun j hj e => (dAk_n (fun z => e z.2.symm)).symm) (by omega) with z | z | z
        · exact z
        · omega
        · omega
      refine gR.forget [some (.ref 18), some (.int (nI k)), some (.int (dBegan D G k)), some (.int (nI m)), some (.int (nI (dKd D k))), some (.ref (50 + k)), some (.int (nI (xMx (fun j => dAk D G k m j (v + 1)) 5))), some (.int (nI (v + 1))), none] ⟨rfl, ⟨rfl, ⟨rfl, ⟨rfl, ⟨rfl, ⟨rfl, ⟨gSomeI hmx, ⟨gSomeI (gN_add rfl rfl), trivial⟩⟩⟩⟩⟩⟩⟩⟩ ?_
      have hzz := ih ⟨v + 1, (gUp υ 44 (dStB D k v m) ((nI (dAk D G k m (dStB D k v m) v)) + 1))⟩ ⟨by omega, fun p a b => by rw [gUp_ne a]; exact hF3 p a b, fun j hj => by
        rw [gUp_app]
        by_cases e : j = dStB D k v m
        · rw [if_pos ⟨rfl, e⟩, e]; exact (gN_add (b := 1) rfl rfl).trans (congrArg nI (dAk_s zc49 rfl))
        · rw [if_neg (fun z => e z.2)]; exact (hu44 j hj).trans (congrArg nI (dAk_n (fun z => e z.2.symm)))⟩ (by dsimp only; omega)
      exact hzz
def xAc (g : Nat → Nat) : Nat → Int32 × Nat
  | 0 => (0, 13)
  | m + 1 => if g m < (xAc g m).2 then (nI m, g m) else xAc g m
theorem xAc_as {g : Nat → Nat} (h : ∀ j, g j ≤ 12) : ∀ n, n < 100 → xAc g (n + 1) = xAs g (n + 1) ∧ ∃ j, j ≤ n ∧ (xAs g (n + 1)).1 = nI j
  | 0, _ => by
    have h0 := h 0
    have e1 : xAc g 1 = (nI 0, g 0) := if_pos (show g 0 < 13 by omega)
    have e2 : xAs g 1 = (nI 0, g 0) := if_pos (Or.inl rfl)
    exact ⟨e1.trans e2.symm, 0, Nat.le_refl 0, by rw [e2]⟩
  | n + 1, hn => by
    obtain ⟨ih, j, hj, hj2⟩ := xAc_as h n (by omega)
    have e : xAs g (n + 1 + 1) = if g (n + 1) < (xAs g (n + 1)).2 then (nI (n + 1), g (n + 1)) else xAs g (n + 1) := by
      show (if (xAs g (n + 1)).1 = -1 ∨ g (n + 1) < (xAs g (n + 1)).2 then _ else _) = _
      by_cases z : g (n + 1) < (xAs g (n + 1)).2
      · rw [if_pos (Or.inr z), if_pos z]
      · rw [if_neg (fun y => y.elim (fun y => nI_m1 (n := j) (by omega) (hj2.symm.trans y)) z), if_neg z]
    refine ⟨?_, ?_⟩
    · rw [e, ← ih]; rfl
    · rw [e]
      split
      · exact ⟨n + 1, Nat.le_refl _, rfl⟩
      · exact ⟨j, by omega, hj2⟩
theorem xAc_le {g : Nat → Nat} (h : ∀ j, g j ≤ 12) : ∀ n, (xAc g n).2 ≤ 13
  | 0 => Nat.le_refl 13
  | n + 1 => by
    have := xAc_le h n
    have := h n
    simp only [xAc]
    split
    · dsimp only; omega
    · assumption
theorem s_X10_ask {d : Nat} (hd : 6 ≤ d) (σ : gS) (D : xDat) (G : xSig) (k : Int32) (hs : cSt σ D) (hg : cSg σ G) : gC d 68 [.ref 18, .int k] σ (fun r τ => r = some (.int (aAsk D G k)) ∧ cKeep σ τ) := by
  obtain ⟨d, rfl⟩ : ∃ k, d = k + 1 := ⟨d - 1, by omega⟩
  refine gC.of (P := pX10_ask) (nL := 7) (rt := (some (.int))) (lv := [some (.ref 18), some (.int k), none, none, none, none, none]) (by decide +kernel) rfl rfl rfl (by simp [gEnt, Value.category]) rfl ?_
  have hnb := dNb_le D hs.1.1.2.2.2.1
  have hnl := dNl_le D hs.2.1.1.2.2.2.1
  have hn8 := hs.2.2.1.2.1
  refine gR.steps 3 (σ, (5, [some (.ref 18), some (.int k), none, none, none, none, none], [.int k, .ref 21])) rfl ?_
  refine gR.callp rfl (s_X0_has (by omega) σ D k hs.1) ?_
  refine gR.ifte rfl (fun zc8 => ?_) (fun zc8 => ?_)
  · rw [bI_ne0] at zc8
    obtain ⟨kk, hkk, rfl⟩ := gN_of (x := k) (n := dNb D) (by omega) (by omega) (by omega)
    refine gR.steps 5 (σ, (23, [some (.ref 18), some (.int (nI kk)), none, none, none, none, none], [.int 0, .ref 27, .ref 20])) rfl ?_
    refine gR.call' rfl (s_X3_grow27 (by omega) σ D gn0 0 hs.1 hs.2.2.1 bGone_0) ?_
    rintro _ τ ⟨rfl, hF, hG⟩
    have hst := hs.keep hF.keep
    have hgt := hg.keep hF.keep
    show gR _ _ _ τ (26, [some (.ref 18), some (.int (nI kk)), none, none, none, none, none], [.int (dBareG D gn0)])
    refine gR.steps 3 (τ, (29, [some (.ref 18), some (.int (nI kk)), none, none, none, none, none], [.int (nI kk), .ref 18])) rfl ?_
    refine gR.call' rfl (s_X10_beginsThatFit (by omega) τ D G kk hst hgt hG hkk) ?_
    rintro _ υ ⟨rfl, hF2, hGu⟩
    have hK := hF.keep.tr (hF2.keep (by omega))
    have hsu := hs.keep hK
    show gR _ _ _ υ (32, [some (.ref 18), some (.int (nI kk)), none, none, none, none, none], [.int (dBegan D G kk)])
    refine gR.steps 7 (υ, (42, [some (.ref 18), some (.int (nI kk)), some (.int (dBegan D G kk)), some (.int 0), some (.int 13), some (.int 0), none], [])) rfl ?_
    refine gR.forget [some (.ref 18), some (.int (nI kk)), some (.int (dBegan D G kk)), some (.int (xAc (dMost D G kk) 0).1), some (.int (nI (xAc (dMost D G kk) 0).2)), some (.int 0), none] ⟨rfl, ⟨rfl, ⟨rfl, ⟨rfl, ⟨rfl, ⟨rfl, trivial⟩⟩⟩⟩⟩⟩ ?_
    refine gR.loop (α := Nat × gS) (fun ⟨m, ξ⟩ => m ≤ 24 ∧ cAkF kk υ ξ) (fun ⟨m, ξ⟩ => 24 - m) (fun ⟨m, ξ⟩ => (ξ, (42, [some (.ref 18), some (.int (nI kk)), some (.int (dBegan D G kk)), some (.int ((xAc (dMost D G kk) m).1)), some (.int (nI ((xAc (dMost D G kk) m).2))), some (.int (nI m)), none], []))) ?_ ⟨0, υ⟩ ⟨by omega, fun _ _ _ => rfl⟩
    rintro ⟨m, ξ⟩ ⟨hm, hF3⟩ ih
    show gR _ _ _ ξ (42, [some (.ref 18), some (.int (nI kk)), some (.int (dBegan D G kk)), some (.int ((xAc (dMost D G kk) m).1)), some (.int (nI ((xAc (dMost D G kk) m).2))), some (.int (nI m)), none], [])
    have hsx := hsu.keep (hF3.keep (by omega))
    have hm12 := dMost_le D G kk m
    have hac := xAc_le (fun j => dMost_le D G kk j) m
    refine gR.steps 2 (ξ, (46, [some (.ref 18), some (.int (nI kk)), some (.int (dBegan D G kk)), some (.int ((xAc (dMost D G kk) m).1)), some (.int (nI ((xAc (dMost D G kk) m).2))), some (.int (nI m)), none], [.int 24, .int (nI m)])) rfl ?_
    refine gR.ifte rfl (fun zc46 => ?_) (fun zc46 => ?_)
    · rw [gN_le (x := 24) (y := nI m) (a := 24) (b := m) rfl rfl (by omega) (by omega)] at zc46
      refine gR.steps 1 (ξ, (80, [some (.ref 18), some (.int (nI kk)), some (.int (dBegan D G kk)), some (.int ((xAc (dMost D G kk) m).1)), some (.int (nI ((xAc (dMost D G kk) m).2))), some (.int (nI m)), none], [.int ((xAc (dMost D G kk) m).1)])) rfl ?_
      show gR _ _ _ ξ (80, [some (.ref 18), some (.int (nI kk)), some (.int (dBegan D G kk)), some (.int ((xAc (dMost D G kk) m).1)), some (.int (nI ((xAc (dMost D G kk) m).2))), some (.int (nI m)), none], [.int ((xAc (dMost D G kk) m).1)])
      refine gR.ret rfl ?_
      have hm24 : m = 24 := by omega
      refine ⟨trivial, ?_, hK.tr (hF3.keep (by omega))⟩
      rw [show aAsk D G (nI kk) = _ from if_pos zc8, nI_clamp (by omega), hm24]
      exact gSomeI (congrArg Prod.fst (xAc_as (fun j => dMost_le D G kk j) 23 (by omega)).1)
    · rw [gN_le (x := 24) (y := nI m) (a := 24) (b := m) rfl rfl (by omega) (by omega)] at zc46
      refine gR.steps 4 (ξ, (54, [some (.ref 18), some (.int (nI kk)), some (.int (dBegan D G kk)), some (.int ((xAc (dMost D G kk) m).1)), some (.int (nI ((xAc (dMost D G kk) m).2))), some (.int (nI m)), none], [.int (nI m), .int (dBegan D G kk), .int (nI kk), .ref 18])) rfl ?_
      refine gR.call' rfl (s_X10_greatestAlike (by omega) ξ D G kk m hsx.1 (fun a ha => by rw [hF3 (60 + kk) (by omega) (by omega)]; exact (hGu kk hkk).1 a ha) hkk (by omega)) ?_
      rintro _ ω ⟨rfl, hF4⟩
      show gR _ _ _ ω (57, [some (.ref 18), some (.int (nI kk)), some (.int (dBegan D G kk)), some (.int ((xAc (dMost D G kk) m).1)), some (.int (nI ((xAc (dMost D G kk) m).2))), some (.int (nI m)), none], [.int (nI (dMost D G kk m))])
      refine gR.steps 3 (ω, (63, [some (.ref 18), some (.int (nI kk)), some (.int (dBegan D G kk)), some (.int ((xAc (dMost D G kk) m).1)), some (.int (nI ((xAc (dMost D G kk) m).2))), some (.int (nI m)), some (.int (nI (dMost D G kk m)))], [.int (nI ((xAc (dMost D G kk) m).2)), .int (nI (dMost D G kk m))])) rfl ?_
      refine gR.ifte rfl (fun zc63 => ?_) (fun zc63 => ?_)
      · rw [gN_le (x := nI ((xAc (dMost D G kk) m).2)) (y := nI (dMost D G kk m)) (a := (xAc (dMost D G kk) m).2) (b := dMost D G kk m) rfl rfl (by omega) (by omega)] at zc63
        refine gR.steps 2 (ω, (42, [some (.ref 18), some (.int (nI kk)), some (.int (dBegan D G kk)), some (.int ((xAc (dMost D G kk) m).1)), some (.int (nI ((xAc (dMost D G kk) m).2))), some (.int ((nI m) + 1)), some (.int (nI (dMost D G kk m)))], [])) rfl ?_
        refine gR.forget [some (.ref 18), some (.int (nI kk)), some (.int (dBegan D G kk)), some (.int ((xAc (dMost D G kk) (m + 1)).1)), some (.int (nI ((xAc (dMost D G kk) (m + 1)).2))), some (.int (nI (m + 1))), none] ⟨rfl, ⟨rfl, ⟨rfl, ⟨gSomeI (congrArg Prod.fst (show xAc (dMost D G kk) (m + 1) = xAc (dMost D G kk) m from if_neg (by omega))).symm, ⟨gSomeI (congrArg nI (congrArg Prod.snd (show xAc (dMost D G kk) (m + 1) = xAc (dMost D G kk) m from if_neg (by omega))).symm), ⟨gSomeI (gN_add rfl rfl), trivial⟩⟩⟩⟩⟩⟩ ?_
        have hzz := ih ⟨m + 1, ω⟩ ⟨by omega, hF3.tr hF4⟩ (by dsimp only; omega)
        exact hzz
      · rw [gN_le (x := nI ((xAc (dMost D G kk) m).2)) (y := nI (dMost D G kk m)) (a := (xAc (dMost D G kk) m).2) (b := dMost D G kk m) rfl rfl (by omega) (by omega)] at zc63
        refine gR.steps 6 (ω, (42, [some (.ref 18), some (.int (nI kk)), some (.int (dBegan D G kk)), some (.int (nI m)), some (.int (nI (dMost D G kk m))), some (.int ((nI m) + 1)), some (.int (nI (dMost D G kk m)))], [])) rfl ?_
        refine gR.forget [some (.ref 18), some (.int (nI kk)), some (.int (dBegan D G kk)), some (.int ((xAc (dMost D G kk) (m + 1)).1)), some (.int (nI ((xAc (dMost D G kk) (m + 1)).2))), some (.int (nI (m + 1))), none] ⟨rfl, ⟨rfl, ⟨rfl, ⟨gSomeI (congrArg Prod.fst (show xAc (dMost D G kk) (m + 1) = (nI m, (dMost D G kk) m) from if_pos (by omega))).symm, ⟨gSomeI (congrArg nI (congrArg Prod.snd (show xAc (dMost D G kk) (m + 1) = (nI m, (dMost D G kk) m) from if_pos (by omega))).symm), ⟨gSomeI (gN_add rfl rfl), trivial⟩⟩⟩⟩⟩⟩ ?_
        have hzz := ih ⟨m + 1, ω⟩ ⟨by omega, hF3.tr hF4⟩ (by dsimp only; omega)
        exact hzz
  · rw [bI_ne0] at zc8
    refine gR.steps 1 (σ, (13, [some (.ref 18), some (.int k), none, none, none, none, none], [.int (-2)])) rfl ?_
    show gR _ _ _ σ (13, [some (.ref 18), some (.int k), none, none, none, none, none], [.int (-2)])
    refine gR.ret rfl ?_
    exact ⟨trivial, by rw [show aAsk D G k = -2 from if_neg zc8], cKeep.rf σ⟩
