def dRw (D : xDat) (m b : Nat) : Int32 := dRun (fun z => dBel D (some m) b (z + 1)) (dDb D)
theorem dRun_cs (b : Nat → Nat) (db : Nat) : dRun b db = -1 ∨ ∃ j, j < 24 ∧ dRun b db = nI j := by
  have e : dRun b db = xRu (fun m => decide (b m < db)) 24 := by unfold dRun; exact (xRu_rd _).symm
  rw [e]
  rcases xRu_cs (p := fun m => decide (b m < db)) (m := 24) (by omega) with ⟨a, _⟩ | ⟨j, a, b, _, _⟩
  · exact Or.inl a
  · exact Or.inr ⟨j, a, b⟩
theorem dSR_at {D : xDat} {m b : Nat} (hb : b < dNb D) : dSR D (m * dNb D + b) = if dRw D m b = -1 then 24 else dRw D m b := by
  have h1 : (m * dNb D + b) / dNb D = m := by
    rw [Nat.mul_comm, Nat.mul_add_div (by omega), Nat.div_eq_of_lt hb, Nat.add_zero]
  have h2 : (m * dNb D + b) % dNb D = b := by
    rw [Nat.mul_comm, Nat.mul_add_mod, Nat.mod_eq_of_lt hb]
  unfold dSR dRw
  rw [h1, h2]
theorem dSR_le (D : xDat) (c : Nat) : ¬ (24 : Int32) < dSR D c := by
  unfold dSR
  rcases dRun_cs (fun m => dBel D (some (c / dNb D)) (c % dNb D) (m + 1)) (dDb D) with h | ⟨j, hj, h⟩
  · rw [if_pos h]; decide
  · rw [if_neg (by rw [h]; exact nI_m1 (by omega)), h]
    intro z
    have := (gN_lt (x := 24) (y := nI j) (a := 24) (b := j) rfl rfl (by omega) (by omega)).mp z
    omega
theorem top24 {f : Nat → Int32} {c : Nat} (h24 : f c = 24) (hle : ∀ k, ¬ 24 < f k) (hlt : (xTopI f c).2 < 24) : ∀ n, xTopI f (c + 1 + n) = (nI c, 24)
  | 0 => by
    show (if (xTopI f c).2 < f c then (nI c, f c) else xTopI f c) = _
    rw [h24, if_pos hlt]
  | n + 1 => by
    have ih := top24 h24 hle hlt n
    show (if (xTopI f (c + 1 + n)).2 < f (c + 1 + n) then _ else xTopI f (c + 1 + n)) = _
    rw [ih, if_neg (hle _)]
/-- what bestSend has found among the first c -/
def sdI (D : xDat) (c c0 : Nat) (lt : Int32) : Prop := (xTopI (dSR D) c).2 = lt ∧ lt < 24 ∧ (c = 0 ∧ c0 = 0 ∨ c0 < c ∧ xTopI (dSR D) c = (nI c0, dSR D c0))
theorem sdI_y {D : xDat} {m b c0 : Nat} {lt : Int32} (h : sdI D (m * dNb D + b) c0 lt) (hb : b < dNb D) (hn : ¬ dRw D m b = -1) (hl : lt < dRw D m b) : sdI D (m * dNb D + (b + 1)) (m * dNb D + b) (dRw D m b) := by
  have e := dSR_at (m := m) hb
  rw [if_neg hn] at e
  have e2 : xTopI (dSR D) (m * dNb D + (b + 1)) = (nI (m * dNb D + b), dSR D (m * dNb D + b)) := by
    show (if (xTopI (dSR D) (m * dNb D + b)).2 < dSR D (m * dNb D + b) then _ else _) = _
    rw [if_pos (by rw [h.1, e]; exact hl)]; rfl
  refine ⟨by rw [e2, ← e], ?_, Or.inr ⟨by omega, e2⟩⟩
  rcases dRun_cs (fun z => dBel D (some m) b (z + 1)) (dDb D) with h2 | ⟨j, hj, h2⟩
  · exact absurd h2 hn
  · show dRun _ _ < 24
    rw [h2]; exact (gN_lt (x := nI j) (y := 24) (a := j) (b := 24) rfl rfl (by omega) (by omega)).mpr hj
theorem sdI_n {D : xDat} {m b c0 : Nat} {lt : Int32} (h : sdI D (m * dNb D + b) c0 lt) (hb : b < dNb D) (hn : ¬ dRw D m b = -1) (hl : ¬ lt < dRw D m b) : sdI D (m * dNb D + (b + 1)) c0 lt := by
  have e := dSR_at (m := m) hb
  rw [if_neg hn] at e
  have e2 : xTopI (dSR D) (m * dNb D + (b + 1)) = xTopI (dSR D) (m * dNb D + b) := by
    show (if (xTopI (dSR D) (m * dNb D + b)).2 < dSR D (m * dNb D + b) then _ else _) = _
    rw [if_neg (by rw [h.1, e]; exact hl)]; rfl
  refine ⟨by rw [e2]; exact h.1, h.2.1, ?_⟩
  rcases h.2.2 with ⟨h1, h2⟩ | ⟨h1, h2⟩
  · exfalso
    have hx := h.1
    rw [h1] at hx
    have : lt = -1 := hx.symm
    rcases dRun_cs (fun z => dBel D (some m) b (z + 1)) (dDb D) with h3 | ⟨j, hj, h3⟩
    · exact hn h3
    · apply hl
      rw [this]
      show (-1 : Int32) < dRun _ _
      rw [h3, Int32.lt_iff_toInt_lt, nI_toInt (by omega), show (-1 : Int32).toInt = -1 from rfl]; omega
  · exact Or.inr ⟨by omega, by rw [e2]; exact h2⟩
theorem sdI_e {D : xDat} {m b c0 : Nat} {lt : Int32} (h : sdI D (m * dNb D + b) c0 lt) (hb : b < dNb D) (hm : m < 24) (hn : dRw D m b = -1) : dSend D = (nI (m * dNb D + b), dSR D (m * dNb D + b)) := by
  have e := dSR_at (m := m) hb
  rw [if_pos hn] at e
  have hle : m * dNb D + dNb D ≤ 24 * dNb D := by
    have := Nat.mul_le_mul_right (dNb D) (show m + 1 ≤ 24 by omega)
    rw [Nat.succ_mul] at this; exact this
  have := top24 e (dSR_le D) (by rw [h.1]; exact h.2.1) (24 * dNb D - (m * dNb D + b + 1))
  rw [show m * dNb D + b + 1 + (24 * dNb D - (m * dNb D + b + 1)) = 24 * dNb D by omega] at this
  unfold dSend
  rw [this, e]
theorem bs_q {D : xDat} {m b : Nat} (hb : b < dNb D) : (m * dNb D + b) / dNb D = m ∧ (m * dNb D + b) % dNb D = b := ⟨by rw [Nat.mul_comm, Nat.mul_add_div (by omega), Nat.div_eq_of_lt hb, Nat.add_zero], by rw [Nat.mul_comm, Nat.mul_add_mod, Nat.mod_eq_of_lt hb]⟩
theorem s_X10_bestSend {d : Nat} (hd : 5 ≤ d) (σ : gS) (D : xDat) (hs : cSt σ D) (hR : cRk σ D) (hnp : 0 < dNb D) : gC d 89 [.ref 18] σ (fun r τ => ∃ c0, c0 < 24 * dNb D ∧ r = some (.int (nI (c0 / dNb D * 10 + c0 % dNb D))) ∧ dSend D = (nI c0, dSR D c0) ∧ τ = σ) := by
  obtain ⟨d, rfl⟩ : ∃ k, d = k + 1 := ⟨d - 1, by omega⟩
  refine gC.of (P := pX10_bestSend) (nL := 6) (rt := (some (.int))) (lv := [some (.ref 18), none, none, none, none, none]) (by decide +kernel) rfl rfl rfl (by simp [gEnt, Value.category]) rfl ?_
  have hnb := dNb_le D hs.1.1.2.2.2.1
  have hnl := dNl_le D hs.2.1.1.2.2.2.1
  have hn8 := hs.2.2.1.2.1
  refine gR.steps 6 (σ, (6, [some (.ref 18), some (.int 0), some (.int (-1)), some (.int 0), none, none], [])) rfl ?_
  refine gR.forget [some (.ref 18), some (.int (nI (0 / dNb D * 10 + 0 % dNb D))), some (.int (-1)), some (.int 0), none, none] ⟨rfl, gSomeI (by rw [Nat.zero_div, Nat.zero_mod]; rfl), rfl, rfl, trivial⟩ ?_
  refine gR.loop (α := Nat × Nat × Int32) (fun ⟨m, c0, lt⟩ => m ≤ 24 ∧ sdI D (m * dNb D) c0 lt) (fun ⟨m, c0, lt⟩ => 24 - m) (fun ⟨m, c0, lt⟩ => (σ, (6, [some (.ref 18), some (.int (nI (c0 / dNb D * 10 + c0 % dNb D))), some (.int lt), some (.int (nI m)), none, none], []))) ?_ ⟨0, 0, -1⟩ ⟨by omega, by rw [Nat.zero_mul]; exact ⟨rfl, by decide, Or.inl ⟨rfl, rfl⟩⟩⟩
  rintro ⟨m, c0, lt⟩ ⟨hm, hI1⟩ ih
  show gR _ _ _ σ (6, [some (.ref 18), some (.int (nI (c0 / dNb D * 10 + c0 % dNb D))), some (.int lt), some (.int (nI m)), none, none], [])
  refine gR.steps 2 (σ, (9, [some (.ref 18), some (.int (nI (c0 / dNb D * 10 + c0 % dNb D))), some (.int lt), some (.int (nI m)), none, none], [.int 24, .int (nI m)])) rfl ?_
  refine gR.ifte rfl (fun zc9 => ?_) (fun zc9 => ?_)
  · rw [gN_le (x := 24) (y := nI m) (a := 24) (b := m) rfl rfl (by omega) (by omega)] at zc9
    refine gR.steps 1 (σ, (83, [some (.ref 18), some (.int (nI (c0 / dNb D * 10 + c0 % dNb D))), some (.int lt), some (.int (nI m)), none, none], [.int (nI (c0 / dNb D * 10 + c0 % dNb D))])) rfl ?_
    show gR _ _ _ σ (83, [some (.ref 18), some (.int (nI (c0 / dNb D * 10 + c0 % dNb D))), some (.int lt), some (.int (nI m)), none, none], [.int (nI (c0 / dNb D * 10 + c0 % dNb D))])
    refine gR.ret rfl ?_
    rcases hI1.2.2 with ⟨h1, h2⟩ | ⟨h1, h2⟩
    · exfalso; have := Nat.mul_pos (show 0 < m by omega) hnp; omega
    · rw [show m * dNb D = 24 * dNb D by rw [show m = 24 by omega]] at h1 h2
      exact ⟨trivial, c0, h1, rfl, h2, rfl⟩
  · rw [gN_le (x := 24) (y := nI m) (a := 24) (b := m) rfl rfl (by omega) (by omega)] at zc9
    refine gR.steps 2 (σ, (15, [some (.ref 18), some (.int (nI (c0 / dNb D * 10 + c0 % dNb D))), some (.int lt), some (.int (nI m)), some (.int 0), none], [])) rfl ?_
    refine gR.forget [some (.ref 18), some (.int (nI (c0 / dNb D * 10 + c0 % dNb D))), some (.int lt), some (.int (nI m)), some (.int 0), none] ⟨rfl, ⟨rfl, ⟨rfl, ⟨rfl, ⟨rfl, trivial⟩⟩⟩⟩⟩ ?_
    refine gR.loop (α := Nat × Nat × Int32) (fun ⟨b, c1, lu⟩ => b ≤ dNb D ∧ sdI D (m * dNb D + b) c1 lu) (fun ⟨b, c1, lu⟩ => dNb D - b) (fun ⟨b, c1, lu⟩ => (σ, (15, [some (.ref 18), some (.int (nI (c1 / dNb D * 10 + c1 % dNb D))), some (.int lu), some (.int (nI m)), some (.int (nI b)), none], []))) ?_ ⟨0, c0, lt⟩ ⟨Nat.zero_le _, by rw [Nat.add_zero]; exact hI1⟩
    rintro ⟨b, c1, lu⟩ ⟨hb, hI2⟩ ih2
    show gR _ _ _ σ (15, [some (.ref 18), some (.int (nI (c1 / dNb D * 10 + c1 % dNb D))), some (.int lu), some (.int (nI m)), some (.int (nI b)), none], [])
    refine gR.steps 3 (σ, (21, [some (.ref 18), some (.int (nI (c1 / dNb D * 10 + c1 % dNb D))), some (.int lu), some (.int (nI m)), some (.int (nI b)), none], [.ref 21, .int (nI b)])) rfl ?_
    refine gR.callp rfl (s_X0_size (by omega) σ D hs.1) ?_
    refine gR.ifte rfl (fun zc24 => ?_) (fun zc24 => ?_)
    · rw [gN_le (x := nI (dNb D)) (y := nI b) (a := dNb D) (b := b) rfl rfl (by omega) (by omega)] at zc24
      have hI3 : sdI D ((m + 1) * dNb D) c1 lu := by
        rw [show (m + 1) * dNb D = m * dNb D + b by rw [Nat.succ_mul]; omega]; exact hI2
      refine gR.steps 2 (σ, (6, [some (.ref 18), some (.int (nI (c1 / dNb D * 10 + c1 % dNb D))), some (.int lu), some (.int ((nI m) + 1)), some (.int (nI b)), none], [])) rfl ?_
      refine gR.forget [some (.ref 18), some (.int (nI (c1 / dNb D * 10 + c1 % dNb D))), some (.int lu), some (.int (nI (m + 1))), none, none] ⟨rfl, ⟨rfl, ⟨rfl, ⟨gSomeI (gN_add rfl rfl), trivial⟩⟩⟩⟩ ?_
      have hzz := ih ⟨m + 1, c1, lu⟩ ⟨by omega, hI3⟩ (by dsimp only; omega)
      exact hzz
    · rw [gN_le (x := nI (dNb D)) (y := nI b) (a := dNb D) (b := b) rfl rfl (by omega) (by omega)] at zc24
      refine gR.steps 4 (σ, (34, [some (.ref 18), some (.int (nI (c1 / dNb D * 10 + c1 % dNb D))), some (.int lu), some (.int (nI m)), some (.int (nI b)), none], [.int (nI b), .int (nI m), .ref 19])) rfl ?_
      refine gR.callp (x := .int (dRw D m b)) rfl (s_X6_runWith (by omega) σ D m b hs hR (by omega) (by omega)) ?_
      refine gR.steps 3 (σ, (42, [some (.ref 18), some (.int (nI (c1 / dNb D * 10 + c1 % dNb D))), some (.int lu), some (.int (nI m)), some (.int (nI b)), some (.int (dRw D m b))], [.int (-1), .int (dRw D m b)])) rfl ?_
      refine gR.ifte rfl (fun zc42 => ?_) (fun zc42 => ?_)
      · refine gR.steps 2 (σ, (56, [some (.ref 18), some (.int (nI (c1 / dNb D * 10 + c1 % dNb D))), some (.int lu), some (.int (nI m)), some (.int (nI b)), some (.int (dRw D m b))], [.int lu, .int (dRw D m b)])) rfl ?_
        refine gR.ifte rfl (fun zc56 => ?_) (fun zc56 => ?_)
        · refine gR.steps 2 (σ, (15, [some (.ref 18), some (.int (nI (c1 / dNb D * 10 + c1 % dNb D))), some (.int lu), some (.int (nI m)), some (.int ((nI b) + 1)), some (.int (dRw D m b))], [])) rfl ?_
          refine gR.forget [some (.ref 18), some (.int (nI (c1 / dNb D * 10 + c1 % dNb D))), some (.int lu), some (.int (nI m)), some (.int (nI (b + 1))), none] ⟨rfl, ⟨rfl, ⟨rfl, ⟨rfl, ⟨gSomeI (gN_add rfl rfl), trivial⟩⟩⟩⟩⟩ ?_
          have hzz := ih2 ⟨b + 1, c1, lu⟩ ⟨by omega, sdI_n hI2 (by omega) zc42 (fun z => Int32.not_le.mpr z zc56)⟩ (by dsimp only; omega)
          exact hzz
        · refine gR.steps 10 (σ, (15, [some (.ref 18), some (.int (((nI m) * 10) + (nI b))), some (.int (dRw D m b)), some (.int (nI m)), some (.int ((nI b) + 1)), some (.int (dRw D m b))], [])) rfl ?_
          refine gR.forget [some (.ref 18), some (.int (nI ((m * dNb D + b) / dNb D * 10 + (m * dNb D + b) % dNb D))), some (.int (dRw D m b)), some (.int (nI m)), some (.int (nI (b + 1))), none] ⟨rfl, ⟨gSomeI ((gN_add (gN_mul (b := 10) rfl rfl) rfl).trans (congrArg nI (by rw [(bs_q (m := m) (show b < dNb D by omega)).1, (bs_q (m := m) (show b < dNb D by omega)).2]))), ⟨rfl, ⟨rfl, ⟨gSomeI (gN_add rfl rfl), trivial⟩⟩⟩⟩⟩ ?_
          have hzz := ih2 ⟨b + 1, m * dNb D + b, dRw D m b⟩ ⟨by omega, sdI_y hI2 (by omega) zc42 (Int32.not_le.mp zc56)⟩ (by dsimp only; omega)
          exact hzz
      · rw [Decidable.not_not] at zc42
        refine gR.steps 5 (σ, (52, [some (.ref 18), some (.int (nI (c1 / dNb D * 10 + c1 % dNb D))), some (.int lu), some (.int (nI m)), some (.int (nI b)), some (.int (dRw D m b))], [.int (((nI m) * 10) + (nI b))])) rfl ?_
        show gR _ _ _ σ (52, [some (.ref 18), some (.int (nI (c1 / dNb D * 10 + c1 % dNb D))), some (.int lu), some (.int (nI m)), some (.int (nI b)), some (.int (dRw D m b))], [.int (((nI m) * 10) + (nI b))])
        refine gR.ret rfl ?_
        have hlt : m * dNb D + b < 24 * dNb D := by
          have := Nat.mul_le_mul_right (dNb D) (show m + 1 ≤ 24 by omega)
          rw [Nat.succ_mul] at this; omega
        refine ⟨trivial, m * dNb D + b, hlt, ?_, sdI_e hI2 (by omega) (by omega) zc42, rfl⟩
        exact gSomeI ((gN_add (gN_mul (b := 10) rfl rfl) rfl).trans (congrArg nI (by rw [(bs_q (m := m) (show b < dNb D by omega)).1, (bs_q (m := m) (show b < dNb D by omega)).2])))
theorem s_X10_send {d : Nat} (hd : 6 ≤ d) (σ : gS) (D : xDat) (w : Int32) (hs : cSt σ D) : gC d 61 [.ref 18, .int w] σ (fun r τ => r = some (.int (aSend D w)) ∧ cKeep σ τ) := by
  obtain ⟨d, rfl⟩ : ∃ k, d = k + 1 := ⟨d - 1, by omega⟩
  refine gC.of (P := pX10_send) (nL := 5) (rt := (some (.int))) (lv := [some (.ref 18), some (.int w), none, none, none]) (by decide +kernel) rfl rfl rfl (by simp [gEnt, Value.category]) rfl ?_
  have hnb := dNb_le D hs.1.1.2.2.2.1
  have hnl := dNl_le D hs.2.1.1.2.2.2.1
  have hn8 := hs.2.2.1.2.1
  refine gR.steps 3 (σ, (3, [some (.ref 18), some (.int w), none, none, none], [.int 2, .int 0, .int w])) rfl ?_
  refine gR.callp rfl (s_X10_withinI (by omega) σ w 0 2 0 2 (by decide) (by decide)) ?_
  refine gR.ifte rfl (fun zc6 => ?_) (fun zc6 => ?_)
  · rw [bI_ne0] at zc6
    obtain ⟨ww, hww, rfl⟩ := gN_of (x := w) (n := 3) (by omega) (by omega) (by omega)
    refine gR.steps 2 (σ, (16, [some (.ref 18), some (.int (nI ww)), none, none, none], [.ref 21])) rfl ?_
    refine gR.callp rfl (s_X0_size (by omega) σ D hs.1) ?_
    refine gR.ifte rfl (fun zc19 => ?_) (fun zc19 => ?_)
    · rw [gN_eq (x := nI (dNb D)) (y := 0) (a := dNb D) (b := 0) rfl rfl (by omega) (by omega)] at zc19
      refine gR.steps 4 (σ, (32, [some (.ref 18), some (.int (nI ww)), none, none, none], [.ref 27, .ref 19])) rfl ?_
      refine gR.call' rfl (s_X6_reckon27 (by omega) σ D hs) ?_
      rintro _ τ ⟨rfl, hF, hR⟩
      have hst := hs.keep hF.keep
      show gR _ _ _ τ (35, [some (.ref 18), some (.int (nI ww)), none, none, none], [])
      refine gR.steps 1 (τ, (36, [some (.ref 18), some (.int (nI ww)), none, none, none], [.ref 18])) rfl ?_
      refine gR.call' rfl (s_X10_bestSend (by omega) τ D hst hR (by omega)) ?_
      rintro _ υ ⟨c0, hc0, rfl, hdl, he⟩
      rw [he]
      have hq : c0 / dNb D < 24 := Nat.div_lt_of_lt_mul (by rw [Nat.mul_comm]; exact hc0)
      have hr : c0 % dNb D < dNb D := Nat.mod_lt _ (by omega)
      have hqq : (c0 / dNb D * 10 + c0 % dNb D) / 10 = c0 / dNb D := by omega
      have hrr : (c0 / dNb D * 10 + c0 % dNb D) % 10 = c0 % dNb D := by omega
      refine gR.steps 3 (τ, (43, [some (.ref 18), some (.int (nI ww)), some (.int (nI (c0 / dNb D * 10 + c0 % dNb D))), none, none], [.int 10, .int (nI (c0 / dNb D * 10 + c0 % dNb D))])) rfl ?_
      refine gR.brT (p := ¬ (10 : Int32) = 0) rfl (by decide) ?_
      show gR _ _ _ τ (44, [some (.ref 18), some (.int (nI ww)), some (.int (nI (c0 / dNb D * 10 + c0 % dNb D))), none, none], [.int ((nI (c0 / dNb D * 10 + c0 % dNb D)) / 10)])
      refine gR.topI (y := nI ((c0 / dNb D * 10 + c0 % dNb D) / 10)) (gN_div rfl rfl (by omega) (by omega) (by omega)) ?_
      refine gR.steps 3 (τ, (48, [some (.ref 18), some (.int (nI ww)), some (.int (nI (c0 / dNb D * 10 + c0 % dNb D))), some (.int (nI ((c0 / dNb D * 10 + c0 % dNb D) / 10))), none], [.int 10, .int (nI (c0 / dNb D * 10 + c0 % dNb D))])) rfl ?_
      refine gR.brT (p := ¬ (10 : Int32) = 0) rfl (by decide) ?_
      show gR _ _ _ τ (49, [some (.ref 18), some (.int (nI ww)), some (.int (nI (c0 / dNb D * 10 + c0 % dNb D))), some (.int (nI ((c0 / dNb D * 10 + c0 % dNb D) / 10))), none], [.int ((nI (c0 / dNb D * 10 + c0 % dNb D)) - (nI (c0 / dNb D * 10 + c0 % dNb D)) / 10 * 10)])
      refine gR.topI (y := nI ((c0 / dNb D * 10 + c0 % dNb D) % 10)) (gN_rem rfl rfl (by omega) (by omega) (by omega)) ?_
      refine gR.steps 3 (τ, (53, [some (.ref 18), some (.int (nI ww)), some (.int (nI (c0 / dNb D * 10 + c0 % dNb D))), some (.int (nI ((c0 / dNb D * 10 + c0 % dNb D) / 10))), some (.int (nI ((c0 / dNb D * 10 + c0 % dNb D) % 10)))], [.int 2, .int (nI ww)])) rfl ?_
      refine gR.ifte rfl (fun zc53 => ?_) (fun zc53 => ?_)
      · rw [gN_eq (x := nI ww) (y := 2) (a := ww) (b := 2) rfl rfl (by omega) (by omega)] at zc53
        refine gR.steps 1 (τ, (68, [some (.ref 18), some (.int (nI ww)), some (.int (nI (c0 / dNb D * 10 + c0 % dNb D))), some (.int (nI ((c0 / dNb D * 10 + c0 % dNb D) / 10))), some (.int (nI ((c0 / dNb D * 10 + c0 % dNb D) % 10)))], [.int (nI ww)])) rfl ?_
        refine gR.ifte rfl (fun zc68 => ?_) (fun zc68 => ?_)
        · rw [gN_eq (x := nI ww) (y := 0) (a := ww) (b := 0) rfl rfl (by omega) (by omega)] at zc68
          refine gR.steps 1 (τ, (77, [some (.ref 18), some (.int (nI ww)), some (.int (nI (c0 / dNb D * 10 + c0 % dNb D))), some (.int (nI ((c0 / dNb D * 10 + c0 % dNb D) / 10))), some (.int (nI ((c0 / dNb D * 10 + c0 % dNb D) % 10)))], [.int (nI ((c0 / dNb D * 10 + c0 % dNb D) % 10))])) rfl ?_
          show gR _ _ _ τ (77, [some (.ref 18), some (.int (nI ww)), some (.int (nI (c0 / dNb D * 10 + c0 % dNb D))), some (.int (nI ((c0 / dNb D * 10 + c0 % dNb D) / 10))), some (.int (nI ((c0 / dNb D * 10 + c0 % dNb D) % 10)))], [.int (nI ((c0 / dNb D * 10 + c0 % dNb D) % 10))])
          refine gR.ret rfl ?_
          refine ⟨trivial, ?_, hF.keep⟩
          rw [show aSend D (nI ww) = _ from if_pos zc6, nI_clamp (by omega)]
          unfold dSendBy
          rw [hdl, if_neg (nI_m1 (n := c0) (by omega))]
          rw [if_neg (show ¬ ww = 0 by omega), if_pos (show ww = 1 by omega), hrr]
          exact gSomeI (gN_rem rfl rfl (by omega) (by omega) (by omega)).symm
        · rw [gN_eq (x := nI ww) (y := 0) (a := ww) (b := 0) rfl rfl (by omega) (by omega)] at zc68
          refine gR.steps 2 (τ, (77, [some (.ref 18), some (.int (nI ww)), some (.int (nI (c0 / dNb D * 10 + c0 % dNb D))), some (.int (nI ((c0 / dNb D * 10 + c0 % dNb D) / 10))), some (.int (nI ((c0 / dNb D * 10 + c0 % dNb D) % 10)))], [.int (nI ((c0 / dNb D * 10 + c0 % dNb D) / 10))])) rfl ?_
          show gR _ _ _ τ (77, [some (.ref 18), some (.int (nI ww)), some (.int (nI (c0 / dNb D * 10 + c0 % dNb D))), some (.int (nI ((c0 / dNb D * 10 + c0 % dNb D) / 10))), some (.int (nI ((c0 / dNb D * 10 + c0 % dNb D) % 10)))], [.int (nI ((c0 / dNb D * 10 + c0 % dNb D) / 10))])
          refine gR.ret rfl ?_
          refine ⟨trivial, ?_, hF.keep⟩
          rw [show aSend D (nI ww) = _ from if_pos zc6, nI_clamp (by omega)]
          unfold dSendBy
          rw [hdl, if_neg (nI_m1 (n := c0) (by omega))]
          rw [if_pos (show ww = 0 by omega), hqq]
          exact gSomeI (gN_div rfl rfl (by omega) (by omega) (by omega)).symm
      · rw [gN_eq (x := nI ww) (y := 2) (a := ww) (b := 2) rfl rfl (by omega) (by omega)] at zc53
        refine gR.steps 4 (τ, (63, [some (.ref 18), some (.int (nI ww)), some (.int (nI (c0 / dNb D * 10 + c0 % dNb D))), some (.int (nI ((c0 / dNb D * 10 + c0 % dNb D) / 10))), some (.int (nI ((c0 / dNb D * 10 + c0 % dNb D) % 10)))], [.int (nI ((c0 / dNb D * 10 + c0 % dNb D) % 10)), .int (nI ((c0 / dNb D * 10 + c0 % dNb D) / 10)), .ref 19])) rfl ?_
        refine gR.callp (x := .int (dRw D (c0 / dNb D) (c0 % dNb D))) rfl (by rw [hqq, hrr]; exact s_X6_runWith (by omega) τ D (c0 / dNb D) (c0 % dNb D) hst hR hq hr) ?_
        show gR _ _ _ τ (66, [some (.ref 18), some (.int (nI ww)), some (.int (nI (c0 / dNb D * 10 + c0 % dNb D))), some (.int (nI ((c0 / dNb D * 10 + c0 % dNb D) / 10))), some (.int (nI ((c0 / dNb D * 10 + c0 % dNb D) % 10)))], [.int (dRw D (c0 / dNb D) (c0 % dNb D))])
        refine gR.ret rfl ?_
        refine ⟨trivial, ?_, hF.keep⟩
        rw [show aSend D (nI ww) = _ from if_pos zc6, nI_clamp (by omega)]
        unfold dSendBy
        rw [hdl, if_neg (nI_m1 (n := c0) (by omega))]
        rw [if_neg (show ¬ ww = 0 by omega), if_neg (show ¬ ww = 1 by omega)]
        show _ = some (Value.int (if dSR D c0 = 24 then -1 else dSR D c0))
        have e : dSR D c0 = if dRw D (c0 / dNb D) (c0 % dNb D) = -1 then 24 else dRw D (c0 / dNb D) (c0 % dNb D) := rfl
        rw [e]
        rcases dRun_cs (fun z => dBel D (some (c0 / dNb D)) (c0 % dNb D) (z + 1)) (dDb D) with h | ⟨j, hj, h⟩
        · have h : dRw D (c0 / dNb D) (c0 % dNb D) = -1 := h
          rw [h]; rfl
        · have h : dRw D (c0 / dNb D) (c0 % dNb D) = nI j := h
          rw [h, if_neg (nI_m1 (by omega)), if_neg (show ¬ nI j = 24 from gN_ne (a := j) (b := 24) rfl rfl (by omega) (by omega) (by omega))]
    · rw [gN_eq (x := nI (dNb D)) (y := 0) (a := dNb D) (b := 0) rfl rfl (by omega) (by omega)] at zc19
      refine gR.steps 1 (σ, (23, [some (.ref 18), some (.int (nI ww)), none, none, none], [.int (-1)])) rfl ?_
      show gR _ _ _ σ (23, [some (.ref 18), some (.int (nI ww)), none, none, none], [.int (-1)])
      refine gR.ret rfl ?_
      refine ⟨trivial, ?_, cKeep.rf σ⟩
      rw [show aSend D (nI ww) = _ from if_pos zc6, nI_clamp (by omega)]
      unfold dSendBy dSend
      rw [show dNb D = 0 by omega]; rfl
  · rw [bI_ne0] at zc6
    refine gR.steps 1 (σ, (11, [some (.ref 18), some (.int w), none, none, none], [.int (-2)])) rfl ?_
    show gR _ _ _ σ (11, [some (.ref 18), some (.int w), none, none, none], [.int (-2)])
    refine gR.ret rfl ?_
    exact ⟨trivial, by rw [show aSend D w = -2 from if_neg zc6], cKeep.rf σ⟩
