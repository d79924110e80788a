/-- outside the cells that grow() writes nothing changed -/
def mGrF (σ τ : gS) : Prop := ∀ q, q ≠ 10 → q ≠ 11 → q ≠ 12 → q ≠ 14 → τ q = σ q
theorem mGrF_up {σ τ : gS} {q k : Nat} {v : Int32} (hq : q = 10 ∨ q = 11 ∨ q = 12 ∨ q = 14) (h : mGrF σ τ) : mGrF σ (gUp τ q k v) := by
  intro p h1 h2 h3 h4
  rw [gUp_ne (by omega)]
  exact h p h1 h2 h3 h4
theorem mEv_of {σ τ : gS} {n : Nat} {K M B : Nat → Nat} (h0 : τ 0 = σ 0) (h9 : τ 9 = σ 9) (h : mEv σ n K M B) : mEv τ n K M B := by
  unfold mEv at *
  rw [h0, h9]; exact h
theorem mBu_of {σ τ : gS} {n : Nat} {kd bg sp : Nat → Nat} (h0 : τ 0 = σ 0) (h7 : τ 7 = σ 7) (h : mBu σ n kd bg sp) : mBu τ n kd bg sp := by
  unfold mBu at *
  rw [h0, h7]; exact h
theorem mGone_of {σ τ : gS} {gn : Nat → Bool} (h0 : τ 0 = σ 0) (h : mGone σ gn) : mGone τ gn := by
  unfold mGone at *
  rw [h0]; exact h
theorem mGrF.c {σ τ : gS} (h : mGrF σ τ) (q : Nat) (hq : q < 10 := by decide) : τ q = σ q := h q (by omega) (by omega) (by omega) (by omega)
/-- row m of what grow() leaves, for the first j bushes: states S, painted Q, sparks sp -/
def mRow (τ : gS) (S : Nat → Nat → Nat) (Q : Nat → Nat → Bool) (sp : Nat → Nat) (j m : Nat) : Prop := (∀ k, k < j → τ 10 (11 * m + k) = nI (S m k) ∧ τ 11 (11 * m + k) = bI (Q m k = true)) ∧ τ 12 m = nI (xSum (fun k => if S m k = 1 then sp k else 0) j) ∧ τ 14 m = nI (xSum (fun k => if S m k = 1 ∨ Q m k = true then sp k else 0) j)
theorem mRow_next {τ : gS} {S : Nat → Nat → Nat} {Q : Nat → Nat → Bool} {sp : Nat → Nat} {k m : Nat} {v1 v2 : Int32} (h : mRow τ S Q sp k m) (h1 : v1 = nI (xSum (fun k => if S m k = 1 then sp k else 0) (k + 1))) (h2 : v2 = nI (xSum (fun k => if S m k = 1 ∨ Q m k = true then sp k else 0) (k + 1))) : mRow (gUp (gUp (gUp (gUp τ 10 (11 * m + k) (nI (S m k))) 11 (11 * m + k) (bI (Q m k = true))) 12 m v1) 14 m v2) S Q sp (k + 1) m := by
  refine ⟨fun j hj => ?_, ?_, ?_⟩
  · by_cases hjk : j = k
    · subst hjk
      exact ⟨by rw [gUp_o (by omega), gUp_o (by omega), gUp_o (by omega), gUp_s], by rw [gUp_o (by omega), gUp_o (by omega), gUp_s]⟩
    · have := h.1 j (by omega)
      exact ⟨by rw [gUp_o (by omega), gUp_o (by omega), gUp_o (by omega), gUp_o (by omega)]; exact this.1, by rw [gUp_o (by omega), gUp_o (by omega), gUp_o (by omega), gUp_o (by omega)]; exact this.2⟩
  · rw [gUp_o (by omega), gUp_s]; exact h1
  · rw [gUp_s]; exact h2
theorem mRow_keep {τ : gS} {S : Nat → Nat → Nat} {Q : Nat → Nat → Bool} {sp : Nat → Nat} {k m j m' : Nat} {a b v1 v2 : Int32} (hk : k < 11) (hj : j ≤ 11) (hm : m' < m) (h : mRow τ S Q sp j m') : mRow (gUp (gUp (gUp (gUp τ 10 (11 * m + k) a) 11 (11 * m + k) b) 12 m v1) 14 m v2) S Q sp j m' := by
  refine ⟨fun i hi => ?_, ?_, ?_⟩
  · have := h.1 i hi
    exact ⟨by rw [gUp_o (by omega), gUp_o (by omega), gUp_o (by omega), gUp_o (by omega)]; exact this.1, by rw [gUp_o (by omega), gUp_o (by omega), gUp_o (by omega), gUp_o (by omega)]; exact this.2⟩
  · rw [gUp_o (by omega), gUp_o (by omega), gUp_o (by omega), gUp_o (by omega)]; exact h.2.1
  · rw [gUp_o (by omega), gUp_o (by omega), gUp_o (by omega), gUp_o (by omega)]; exact h.2.2
theorem mRow_keep0 {τ : gS} {S : Nat → Nat → Nat} {Q : Nat → Nat → Bool} {sp : Nat → Nat} {m j m' : Nat} {v1 v2 : Int32} (hm : m' < m) (h : mRow τ S Q sp j m') : mRow (gUp (gUp τ 12 m v1) 14 m v2) S Q sp j m' := by
  refine ⟨fun i hi => ?_, ?_, ?_⟩
  · have := h.1 i hi
    exact ⟨by rw [gUp_o (by omega), gUp_o (by omega)]; exact this.1, by rw [gUp_o (by omega), gUp_o (by omega)]; exact this.2⟩
  · rw [gUp_o (by omega), gUp_o (by omega)]; exact h.2.1
  · rw [gUp_o (by omega), gUp_o (by omega)]; exact h.2.2
theorem mRow_0 {τ : gS} {S : Nat → Nat → Nat} {Q : Nat → Nat → Bool} {sp : Nat → Nat} {m : Nat} : mRow (gUp (gUp τ 12 m 0) 14 m 0) S Q sp 0 m :=
  ⟨fun i hi => absurd hi (Nat.not_lt_zero _), by rw [gUp_o (by omega), gUp_s]; rfl, by rw [gUp_s]; rfl⟩
/-- states and paint of all bushes in all months -/
def xS (n : Nat) (K M B : Nat → Nat) (gn : Nat → Bool) (more : Bool) (nb : Nat) (kd bg : Nat → Nat) : Nat → Nat → Nat := fun m k => xSt n K M B gn (xWho more nb k) (kd k) (bg k) m
def xP (n : Nat) (K M B : Nat → Nat) (gn : Nat → Bool) (more : Bool) (nb : Nat) (kd : Nat → Nat) : Nat → Nat → Bool := fun m k => xOn n K M B gn 3 (xWho more nb k) (kd k) m
theorem s_X11_grows {d : Nat} (hd : 4 ≤ d) (σ : gS) (n : Nat) (K M B : Nat → Nat) (gn : Nat → Bool) (more : Bool) (nb : Nat) (kd bg sp : Nat → Nat) (hE : mEv σ n K M B) (hB : mBu σ nb kd bg sp) (hg : mGone σ gn) (hm : σ 0 21 = bI (more = true)) : gC d 152 [.ref 0] σ (fun r τ => r = none ∧ mGrF σ τ ∧ ∀ m, m < 24 → mRow τ (xS n K M B gn more nb kd bg) (xP n K M B gn more nb kd) sp nb m) := by
  obtain ⟨d, rfl⟩ : ∃ k, d = k + 1 := ⟨d - 1, by omega⟩
  refine gC.of (P := pX11_grows) (nL := 4) (rt := none) (lv := [some (.ref 0), none, none, none]) (by decide +kernel) rfl rfl rfl (by simp [gEnt, Value.category]) rfl ?_
  have hn8 := hE.2.1
  have hn11 := hB.2.1
  refine gR.steps 2 (σ, (2, [some (.ref 0), some (.int 0), none, none], [])) rfl ?_
  refine gR.forget [some (.ref 0), some (.int 0), none, none] ⟨rfl, ⟨rfl, trivial⟩⟩ ?_
  refine gR.loop (α := Nat × gS) (fun ⟨m, τ⟩ => m ≤ 24 ∧ mGrF σ τ ∧ ∀ m2, m2 < m → mRow τ (xS n K M B gn more nb kd bg) (xP n K M B gn more nb kd) sp nb m2) (fun ⟨m, τ⟩ => 24 - m) (fun ⟨m, τ⟩ => (τ, (2, [some (.ref 0), some (.int (nI m)), none, none], []))) ?_ ⟨0, σ⟩ ⟨Nat.zero_le 24, fun _ _ _ _ _ => rfl, fun m2 h => absurd h (Nat.not_lt_zero m2)⟩
  rintro ⟨m, τ⟩ ⟨hm24, hF, hrows⟩ ih
  show gR _ _ _ τ (2, [some (.ref 0), some (.int (nI m)), none, none], [])
  refine gR.steps 2 (τ, (5, [some (.ref 0), some (.int (nI m)), none, none], [.int 24, .int (nI m)])) rfl ?_
  refine gR.ifte rfl (fun zc5 => ?_) (fun zc5 => ?_)
  · rw [gN_le (x := 24) (y := nI m) (a := 24) (b := m) rfl rfl (by omega) (by omega)] at zc5
    refine gR.ret rfl ?_
    exact ⟨trivial, rfl, hF, fun m2 h2 => hrows m2 (by omega)⟩
  · rw [gN_le (x := 24) (y := nI m) (a := 24) (b := m) rfl rfl (by omega) (by omega)] at zc5
    refine gR.steps 4 (τ, (14, [some (.ref 0), some (.int (nI m)), none, none], [.int 0, .int (nI m), .ref 12])) rfl ?_
    refine gR.ast (i := nI m) (j := m) (N := 24) (q := 12) (x := 0) rfl rfl (by omega) (by omega) ?_
    refine gR.steps 4 (gUp τ 12 m 0, (21, [some (.ref 0), some (.int (nI m)), none, none], [.int 0, .int (nI m), .ref 14])) rfl ?_
    refine gR.ast (i := nI m) (j := m) (N := 24) (q := 14) (x := 0) rfl rfl (by omega) (by omega) ?_
    refine gR.steps 2 (gUp (gUp τ 12 m 0) 14 m 0, (24, [some (.ref 0), some (.int (nI m)), some (.int 0), none], [])) rfl ?_
    refine gR.forget [some (.ref 0), some (.int (nI m)), some (.int 0), none] ⟨rfl, ⟨rfl, ⟨rfl, trivial⟩⟩⟩ ?_
    refine gR.loop (α := Nat × gS) (fun ⟨k, τ⟩ => k ≤ nb ∧ mGrF σ τ ∧ (∀ m2, m2 < m → mRow τ (xS n K M B gn more nb kd bg) (xP n K M B gn more nb kd) sp nb m2) ∧ mRow τ (xS n K M B gn more nb kd bg) (xP n K M B gn more nb kd) sp k m) (fun ⟨k, τ⟩ => nb - k) (fun ⟨k, τ⟩ => (τ, (24, [some (.ref 0), some (.int (nI m)), some (.int (nI k)), none], []))) ?_ ⟨0, gUp (gUp τ 12 m 0) 14 m 0⟩ ⟨Nat.zero_le nb, mGrF_up (by decide) (mGrF_up (by decide) hF), fun m2 h2 => mRow_keep0 h2 (hrows m2 h2), mRow_0⟩
    rintro ⟨k, τ⟩ ⟨hknb, hF, hrows, hrow⟩ ih2
    show gR _ _ _ τ (24, [some (.ref 0), some (.int (nI m)), some (.int (nI k)), none], [])
    refine gR.steps 3 (τ, (29, [some (.ref 0), some (.int (nI m)), some (.int (nI k)), none], [.int (τ 0 7), .int (nI k)])) rfl ?_
    refine gR.topI (y := nI (nb)) (by rw [hF.c 0]; exact hB.1) ?_
    refine gR.ifte rfl (fun zc29 => ?_) (fun zc29 => ?_)
    · rw [gN_le (x := nI nb) (y := nI k) (a := nb) (b := k) rfl rfl (by omega) (by omega)] at zc29
      refine gR.steps 2 (τ, (2, [some (.ref 0), some (.int ((nI m) + 1)), some (.int (nI k)), none], [])) rfl ?_
      refine gR.forget [some (.ref 0), some (.int (nI (m + 1))), none, none] ⟨rfl, ⟨gSomeI (gN_add rfl rfl), trivial⟩⟩ ?_
      exact ih ⟨m + 1, τ⟩ ⟨by omega, hF, lt_s hrows ((show k = nb by omega) ▸ hrow)⟩ (by dsimp only; omega)
    · rw [gN_le (x := nI nb) (y := nI k) (a := nb) (b := k) rfl rfl (by omega) (by omega)] at zc29
      have hkk := hB.2.2 k (by omega)
      have hx5 := xSt_lt n K M B gn (xWho more nb k) (kd k) (bg k) m
      refine gR.steps 12 (τ, (47, [some (.ref 0), some (.int (nI m)), some (.int (nI k)), some (.int ((11 * (nI m)) + (nI k)))], [.int (nI k), .int (nI m), .ref 0, .int ((11 * (nI m)) + (nI k)), .ref 10])) rfl ?_
      refine gR.callp rfl (s_X11_stateOf (by omega) τ n K M B gn more nb kd bg sp m k (mEv_of (hF.c 0) (hF.c 9) hE) (mBu_of (hF.c 0) (hF.c 7) hB) (mGone_of (hF.c 0) hg) (by rw [hF.c 0]; exact hm) (by omega) (by omega)) ?_
      refine gR.ast (i := (11 * (nI m)) + (nI k)) (j := 11 * m + k) (N := 264) (q := 10) (x := nI (xSt n K M B gn (xWho more nb k) (kd k) (bg k) m)) rfl (gN_add (gN_mul rfl rfl) rfl) (by omega) (by omega) ?_
      refine gR.steps 7 (gUp τ 10 (11 * m + k) (nI (xSt n K M B gn (xWho more nb k) (kd k) (bg k) m)), (60, [some (.ref 0), some (.int (nI m)), some (.int (nI k)), some (.int ((11 * (nI m)) + (nI k)))], [.int (nI k), .int (nI m), .int 3, .ref 0, .int ((11 * (nI m)) + (nI k)), .ref 11])) rfl ?_
      refine gR.callp rfl (s_X11_isOn (by omega) (gUp τ 10 (11 * m + k) (nI (xSt n K M B gn (xWho more nb k) (kd k) (bg k) m))) n K M B gn more nb kd bg sp 3 m k (mEv_of ((mGrF_up (by decide) hF).c 0) ((mGrF_up (by decide) hF).c 9) hE) (mBu_of ((mGrF_up (by decide) hF).c 0) ((mGrF_up (by decide) hF).c 7) hB) (mGone_of ((mGrF_up (by decide) hF).c 0) hg) (by rw [(mGrF_up (by decide) hF).c 0]; exact hm) (by omega) (by omega) (by omega)) ?_
      refine gR.zst (i := (11 * (nI m)) + (nI k)) (j := 11 * m + k) (N := 264) (q := 11) (x := bI (xOn n K M B gn 3 (xWho more nb k) (kd k) m = true)) rfl (gN_add (gN_mul rfl rfl) rfl) (by omega) (by omega) (bI_01 _) ?_
      refine gR.steps 4 (gUp (gUp τ 10 (11 * m + k) (nI (xSt n K M B gn (xWho more nb k) (kd k) (bg k) m))) 11 (11 * m + k) (bI (xOn n K M B gn 3 (xWho more nb k) (kd k) m = true)), (70, [some (.ref 0), some (.int (nI m)), some (.int (nI k)), some (.int ((11 * (nI m)) + (nI k)))], [.int (nI m), .ref 12, .int (nI m), .ref 12])) rfl ?_
      refine gR.ald (i := nI m) (j := m) (N := 24) (g := (gUp (gUp τ 10 (11 * m + k) (nI (xSt n K M B gn (xWho more nb k) (kd k) (bg k) m))) 11 (11 * m + k) (bI (xOn n K M B gn 3 (xWho more nb k) (kd k) m = true))) 12) rfl rfl (by omega) (by omega) ?_
      refine gR.topI (y := τ 12 m) (by rw [gUp_o (by omega), gUp_o (by omega)]) ?_
      refine gR.topI (y := nI (xSum (fun k => if (xS n K M B gn more nb kd bg) m k = 1 then sp k else 0) k)) hrow.2.1 ?_
      refine gR.join (α := Int32) (gUp (gUp τ 10 (11 * m + k) (nI (xSt n K M B gn (xWho more nb k) (kd k) (bg k) m))) 11 (11 * m + k) (bI (xOn n K M B gn 3 (xWho more nb k) (kd k) m = true))) (fun zv => (95, [some (.ref 0), some (.int (nI m)), some (.int (nI k)), some (.int ((11 * (nI m)) + (nI k)))], [.int zv, .int (nI (xSum (fun k => if (xS n K M B gn more nb kd bg) m k = 1 then sp k else 0) k)), .int (nI m), .ref 12])) (nI (if (xS n K M B gn more nb kd bg) m k = 1 then sp k else 0)) ?_ (fun zj95 => ?_)
      · refine gR.steps 1 (gUp (gUp τ 10 (11 * m + k) (nI (xSt n K M B gn (xWho more nb k) (kd k) (bg k) m))) 11 (11 * m + k) (bI (xOn n K M B gn 3 (xWho more nb k) (kd k) m = true)), (96, [some (.ref 0), some (.int (nI m)), some (.int (nI k)), some (.int ((11 * (nI m)) + (nI k)))], [.int ((nI (xSum (fun k => if (xS n K M B gn more nb kd bg) m k = 1 then sp k else 0) k)) + (nI (if (xS n K M B gn more nb kd bg) m k = 1 then sp k else 0))), .int (nI m), .ref 12])) rfl ?_
        refine gR.ast (i := nI m) (j := m) (N := 24) (q := 12) (x := (nI (xSum (fun k => if (xS n K M B gn more nb kd bg) m k = 1 then sp k else 0) k)) + (nI (if (xS n K M B gn more nb kd bg) m k = 1 then sp k else 0))) rfl rfl (by omega) (by omega) ?_
        refine gR.steps 4 (gUp (gUp (gUp τ 10 (11 * m + k) (nI (xSt n K M B gn (xWho more nb k) (kd k) (bg k) m))) 11 (11 * m + k) (bI (xOn n K M B gn 3 (xWho more nb k) (kd k) m = true))) 12 m ((nI (xSum (fun k => if (xS n K M B gn more nb kd bg) m k = 1 then sp k else 0) k)) + (nI (if (xS n K M B gn more nb kd bg) m k = 1 then sp k else 0))), (103, [some (.ref 0), some (.int (nI m)), some (.int (nI k)), some (.int ((11 * (nI m)) + (nI k)))], [.int (nI m), .ref 14, .int (nI m), .ref 14])) rfl ?_
        refine gR.ald (i := nI m) (j := m) (N := 24) (g := (gUp (gUp (gUp τ 10 (11 * m + k) (nI (xSt n K M B gn (xWho more nb k) (kd k) (bg k) m))) 11 (11 * m + k) (bI (xOn n K M B gn 3 (xWho more nb k) (kd k) m = true))) 12 m ((nI (xSum (fun k => if (xS n K M B gn more nb kd bg) m k = 1 then sp k else 0) k)) + (nI (if (xS n K M B gn more nb kd bg) m k = 1 then sp k else 0)))) 14) rfl rfl (by omega) (by omega) ?_
        refine gR.topI (y := τ 14 m) (by rw [gUp_o (by omega), gUp_o (by omega), gUp_o (by omega)]) ?_
        refine gR.topI (y := nI (xSum (fun k => if (xS n K M B gn more nb kd bg) m k = 1 ∨ (xP n K M B gn more nb kd) m k = true then sp k else 0) k)) hrow.2.2 ?_
        refine gR.join (α := Int32) (gUp (gUp (gUp τ 10 (11 * m + k) (nI (xSt n K M B gn (xWho more nb k) (kd k) (bg k) m))) 11 (11 * m + k) (bI (xOn n K M B gn 3 (xWho more nb k) (kd k) m = true))) 12 m ((nI (xSum (fun k => if (xS n K M B gn more nb kd bg) m k = 1 then sp k else 0) k)) + (nI (if (xS n K M B gn more nb kd bg) m k = 1 then sp k else 0)))) (fun zv => (127, [some (.ref 0), some (.int (nI m)), some (.int (nI k)), some (.int ((11 * (nI m)) + (nI k)))], [.int zv, .int (nI (xSum (fun k => if (xS n K M B gn more nb kd bg) m k = 1 ∨ (xP n K M B gn more nb kd) m k = true then sp k else 0) k)), .int (nI m), .ref 14])) (nI (if (xS n K M B gn more nb kd bg) m k = 1 ∨ (xP n K M B gn more nb kd) m k = true then sp k else 0)) ?_ (fun zj127 => ?_)
        · refine gR.steps 1 (gUp (gUp (gUp τ 10 (11 * m + k) (nI (xSt n K M B gn (xWho more nb k) (kd k) (bg k) m))) 11 (11 * m + k) (bI (xOn n K M B gn 3 (xWho more nb k) (kd k) m = true))) 12 m ((nI (xSum (fun k => if (xS n K M B gn more nb kd bg) m k = 1 then sp k else 0) k)) + (nI (if (xS n K M B gn more nb kd bg) m k = 1 then sp k else 0))), (128, [some (.ref 0), some (.int (nI m)), some (.int (nI k)), some (.int ((11 * (nI m)) + (nI k)))], [.int ((nI (xSum (fun k => if (xS n K M B gn more nb kd bg) m k = 1 ∨ (xP n K M B gn more nb kd) m k = true then sp k else 0) k)) + (nI (if (xS n K M B gn more nb kd bg) m k = 1 ∨ (xP n K M B gn more nb kd) m k = true then sp k else 0))), .int (nI m), .ref 14])) rfl ?_
          refine gR.ast (i := nI m) (j := m) (N := 24) (q := 14) (x := (nI (xSum (fun k => if (xS n K M B gn more nb kd bg) m k = 1 ∨ (xP n K M B gn more nb kd) m k = true then sp k else 0) k)) + (nI (if (xS n K M B gn more nb kd bg) m k = 1 ∨ (xP n K M B gn more nb kd) m k = true then sp k else 0))) rfl rfl (by omega) (by omega) ?_
          refine gR.steps 2 (gUp (gUp (gUp (gUp τ 10 (11 * m + k) (nI (xSt n K M B gn (xWho more nb k) (kd k) (bg k) m))) 11 (11 * m + k) (bI (xOn n K M B gn 3 (xWho more nb k) (kd k) m = true))) 12 m ((nI (xSum (fun k => if (xS n K M B gn more nb kd bg) m k = 1 then sp k else 0) k)) + (nI (if (xS n K M B gn more nb kd bg) m k = 1 then sp k else 0)))) 14 m ((nI (xSum (fun k => if (xS n K M B gn more nb kd bg) m k = 1 ∨ (xP n K M B gn more nb kd) m k = true then sp k else 0) k)) + (nI (if (xS n K M B gn more nb kd bg) m k = 1 ∨ (xP n K M B gn more nb kd) m k = true then sp k else 0))), (24, [some (.ref 0), some (.int (nI m)), some (.int ((nI k) + 1)), some (.int ((11 * (nI m)) + (nI k)))], [])) rfl ?_
          refine gR.forget [some (.ref 0), some (.int (nI m)), some (.int (nI (k + 1))), none] ⟨rfl, ⟨rfl, ⟨gSomeI (gN_add rfl rfl), trivial⟩⟩⟩ ?_
          exact ih2 ⟨k + 1, _⟩ ⟨by omega, mGrF_up (by decide) (mGrF_up (by decide) (mGrF_up (by decide) (mGrF_up (by decide) hF))), fun m2 h2 => mRow_keep (by omega) (by omega) h2 (hrows m2 h2), mRow_next hrow (gN_add rfl rfl) (gN_add rfl rfl)⟩ (by dsimp only; omega)
        · refine gR.steps 3 (gUp (gUp (gUp τ 10 (11 * m + k) (nI (xSt n K M B gn (xWho more nb k) (kd k) (bg k) m))) 11 (11 * m + k) (bI (xOn n K M B gn 3 (xWho more nb k) (kd k) m = true))) 12 m ((nI (xSum (fun k => if (xS n K M B gn more nb kd bg) m k = 1 then sp k else 0) k)) + (nI (if (xS n K M B gn more nb kd bg) m k = 1 then sp k else 0))), (107, [some (.ref 0), some (.int (nI m)), some (.int (nI k)), some (.int ((11 * (nI m)) + (nI k)))], [.int (nI k), .int (nI m), .ref 0, .int (nI (xSum (fun k => if (xS n K M B gn more nb kd bg) m k = 1 ∨ (xP n K M B gn more nb kd) m k = true then sp k else 0) k)), .int (nI m), .ref 14])) rfl ?_
          refine gR.callp rfl (s_X11_isSeeming (by omega) (gUp (gUp (gUp τ 10 (11 * m + k) (nI (xSt n K M B gn (xWho more nb k) (kd k) (bg k) m))) 11 (11 * m + k) (bI (xOn n K M B gn 3 (xWho more nb k) (kd k) m = true))) 12 m ((nI (xSum (fun k => if (xS n K M B gn more nb kd bg) m k = 1 then sp k else 0) k)) + (nI (if (xS n K M B gn more nb kd bg) m k = 1 then sp k else 0)))) m k (xSt n K M B gn (xWho more nb k) (kd k) (bg k) m) (xOn n K M B gn 3 (xWho more nb k) (kd k) m) (by rw [gUp_o (by omega), gUp_o (by omega), gUp_s]) (xSt_lt _ _ _ _ _ _ _ _ _) (by rw [gUp_o (by omega), gUp_s]) (by omega) (by omega)) ?_
          refine gR.ifte rfl (fun zc110 => ?_) (fun zc110 => ?_)
          · rw [bI_eq0] at zc110
            refine gR.steps 1 (gUp (gUp (gUp τ 10 (11 * m + k) (nI (xSt n K M B gn (xWho more nb k) (kd k) (bg k) m))) 11 (11 * m + k) (bI (xOn n K M B gn 3 (xWho more nb k) (kd k) m = true))) 12 m ((nI (xSum (fun k => if (xS n K M B gn more nb kd bg) m k = 1 then sp k else 0) k)) + (nI (if (xS n K M B gn more nb kd bg) m k = 1 then sp k else 0))), (127, [some (.ref 0), some (.int (nI m)), some (.int (nI k)), some (.int ((11 * (nI m)) + (nI k)))], [.int 0, .int (nI (xSum (fun k => if (xS n K M B gn more nb kd bg) m k = 1 ∨ (xP n K M B gn more nb kd) m k = true then sp k else 0) k)), .int (nI m), .ref 14])) rfl ?_
            exact zj127 _ (by rw [if_neg (show ¬ ((xS n K M B gn more nb kd bg) m k = 1 ∨ (xP n K M B gn more nb kd) m k = true) from zc110)]; rfl)
          · rw [bI_eq0, Decidable.not_not] at zc110
            refine gR.steps 7 (gUp (gUp (gUp τ 10 (11 * m + k) (nI (xSt n K M B gn (xWho more nb k) (kd k) (bg k) m))) 11 (11 * m + k) (bI (xOn n K M B gn 3 (xWho more nb k) (kd k) m = true))) 12 m ((nI (xSum (fun k => if (xS n K M B gn more nb kd bg) m k = 1 then sp k else 0) k)) + (nI (if (xS n K M B gn more nb kd bg) m k = 1 then sp k else 0))), (122, [some (.ref 0), some (.int (nI m)), some (.int (nI k)), some (.int ((11 * (nI m)) + (nI k)))], [.int ((3 * (nI k)) + 2), .ref 7, .int (nI (xSum (fun k => if (xS n K M B gn more nb kd bg) m k = 1 ∨ (xP n K M B gn more nb kd) m k = true then sp k else 0) k)), .int (nI m), .ref 14])) rfl ?_
            refine gR.ald (i := (3 * (nI k)) + 2) (j := 3 * k + 2) (N := 33) (g := (gUp (gUp (gUp τ 10 (11 * m + k) (nI (xSt n K M B gn (xWho more nb k) (kd k) (bg k) m))) 11 (11 * m + k) (bI (xOn n K M B gn 3 (xWho more nb k) (kd k) m = true))) 12 m ((nI (xSum (fun k => if (xS n K M B gn more nb kd bg) m k = 1 then sp k else 0) k)) + (nI (if (xS n K M B gn more nb kd bg) m k = 1 then sp k else 0)))) 7) rfl (gN_add (gN_mul rfl rfl) rfl) (by omega) (by omega) ?_
            refine gR.topI (y := τ 7 (3 * k + 2)) (by rw [gUp_o (by omega), gUp_o (by omega), gUp_o (by omega)]) ?_
            refine gR.topI (y := nI (sp k)) (by rw [hF.c 7]; exact (hB.2.2 k (by omega)).2.2.1) ?_
            refine gR.steps 1 (gUp (gUp (gUp τ 10 (11 * m + k) (nI (xSt n K M B gn (xWho more nb k) (kd k) (bg k) m))) 11 (11 * m + k) (bI (xOn n K M B gn 3 (xWho more nb k) (kd k) m = true))) 12 m ((nI (xSum (fun k => if (xS n K M B gn more nb kd bg) m k = 1 then sp k else 0) k)) + (nI (if (xS n K M B gn more nb kd bg) m k = 1 then sp k else 0))), (127, [some (.ref 0), some (.int (nI m)), some (.int (nI k)), some (.int ((11 * (nI m)) + (nI k)))], [.int (nI (sp k)), .int (nI (xSum (fun k => if (xS n K M B gn more nb kd bg) m k = 1 ∨ (xP n K M B gn more nb kd) m k = true then sp k else 0) k)), .int (nI m), .ref 14])) rfl ?_
            exact zj127 _ (by rw [if_pos (show (xS n K M B gn more nb kd bg) m k = 1 ∨ (xP n K M B gn more nb kd) m k = true from zc110)])
      · refine gR.steps 3 (gUp (gUp τ 10 (11 * m + k) (nI (xSt n K M B gn (xWho more nb k) (kd k) (bg k) m))) 11 (11 * m + k) (bI (xOn n K M B gn 3 (xWho more nb k) (kd k) m = true)), (76, [some (.ref 0), some (.int (nI m)), some (.int (nI k)), some (.int ((11 * (nI m)) + (nI k)))], [.int ((11 * (nI m)) + (nI k)), .ref 10, .int (nI (xSum (fun k => if (xS n K M B gn more nb kd bg) m k = 1 then sp k else 0) k)), .int (nI m), .ref 12])) rfl ?_
        refine gR.ald (i := (11 * (nI m)) + (nI k)) (j := 11 * m + k) (N := 264) (g := (gUp (gUp τ 10 (11 * m + k) (nI (xSt n K M B gn (xWho more nb k) (kd k) (bg k) m))) 11 (11 * m + k) (bI (xOn n K M B gn 3 (xWho more nb k) (kd k) m = true))) 10) rfl (gN_add (gN_mul rfl rfl) rfl) (by omega) (by omega) ?_
        refine gR.topI (y := nI (xSt n K M B gn (xWho more nb k) (kd k) (bg k) m)) (by rw [gUp_o (by omega), gUp_s]) ?_
        refine gR.steps 1 (gUp (gUp τ 10 (11 * m + k) (nI (xSt n K M B gn (xWho more nb k) (kd k) (bg k) m))) 11 (11 * m + k) (bI (xOn n K M B gn 3 (xWho more nb k) (kd k) m = true)), (78, [some (.ref 0), some (.int (nI m)), some (.int (nI k)), some (.int ((11 * (nI m)) + (nI k)))], [.int 1, .int (nI (xSt n K M B gn (xWho more nb k) (kd k) (bg k) m)), .int (nI (xSum (fun k => if (xS n K M B gn more nb kd bg) m k = 1 then sp k else 0) k)), .int (nI m), .ref 12])) rfl ?_
        refine gR.ifte rfl (fun zc78 => ?_) (fun zc78 => ?_)
        · rw [gN_eq (x := nI (xSt n K M B gn (xWho more nb k) (kd k) (bg k) m)) (y := 1) (a := xSt n K M B gn (xWho more nb k) (kd k) (bg k) m) (b := 1) rfl rfl (by omega) (by omega)] at zc78
          refine gR.steps 1 (gUp (gUp τ 10 (11 * m + k) (nI (xSt n K M B gn (xWho more nb k) (kd k) (bg k) m))) 11 (11 * m + k) (bI (xOn n K M B gn 3 (xWho more nb k) (kd k) m = true)), (95, [some (.ref 0), some (.int (nI m)), some (.int (nI k)), some (.int ((11 * (nI m)) + (nI k)))], [.int 0, .int (nI (xSum (fun k => if (xS n K M B gn more nb kd bg) m k = 1 then sp k else 0) k)), .int (nI m), .ref 12])) rfl ?_
          exact zj95 _ (by rw [if_neg (show ¬ (xS n K M B gn more nb kd bg) m k = 1 from zc78)]; rfl)
        · rw [gN_eq (x := nI (xSt n K M B gn (xWho more nb k) (kd k) (bg k) m)) (y := 1) (a := xSt n K M B gn (xWho more nb k) (kd k) (bg k) m) (b := 1) rfl rfl (by omega) (by omega)] at zc78
          refine gR.steps 7 (gUp (gUp τ 10 (11 * m + k) (nI (xSt n K M B gn (xWho more nb k) (kd k) (bg k) m))) 11 (11 * m + k) (bI (xOn n K M B gn 3 (xWho more nb k) (kd k) m = true)), (90, [some (.ref 0), some (.int (nI m)), some (.int (nI k)), some (.int ((11 * (nI m)) + (nI k)))], [.int ((3 * (nI k)) + 2), .ref 7, .int (nI (xSum (fun k => if (xS n K M B gn more nb kd bg) m k = 1 then sp k else 0) k)), .int (nI m), .ref 12])) rfl ?_
          refine gR.ald (i := (3 * (nI k)) + 2) (j := 3 * k + 2) (N := 33) (g := (gUp (gUp τ 10 (11 * m + k) (nI (xSt n K M B gn (xWho more nb k) (kd k) (bg k) m))) 11 (11 * m + k) (bI (xOn n K M B gn 3 (xWho more nb k) (kd k) m = true))) 7) rfl (gN_add (gN_mul rfl rfl) rfl) (by omega) (by omega) ?_
          refine gR.topI (y := τ 7 (3 * k + 2)) (by rw [gUp_o (by omega), gUp_o (by omega)]) ?_
          refine gR.topI (y := nI (sp k)) (by rw [hF.c 7]; exact (hB.2.2 k (by omega)).2.2.1) ?_
          refine gR.steps 1 (gUp (gUp τ 10 (11 * m + k) (nI (xSt n K M B gn (xWho more nb k) (kd k) (bg k) m))) 11 (11 * m + k) (bI (xOn n K M B gn 3 (xWho more nb k) (kd k) m = true)), (95, [some (.ref 0), some (.int (nI m)), some (.int (nI k)), some (.int ((11 * (nI m)) + (nI k)))], [.int (nI (sp k)), .int (nI (xSum (fun k => if (xS n K M B gn more nb kd bg) m k = 1 then sp k else 0) k)), .int (nI m), .ref 12])) rfl ?_
          exact zj95 _ (by rw [if_pos (show (xS n K M B gn more nb kd bg) m k = 1 from Decidable.not_not.mp zc78)])
