theorem mCe_0 {σ τ : gS} {s : Int32} {nb : Nat} (h : mTo σ τ 24) : mCe σ (gUp (gUp τ 0 27 s) 0 13 0) s nb 0 := by
  refine ⟨fun q a b c => by rw [gUp_ne a, gUp_ne a]; exact h.1 q c, fun p a b => by rw [gUp_o (by omega), gUp_o (by omega), h.1 0 (by decide)], fun j hj => by rw [gUp_o (by omega), gUp_o (by omega), h.1 9 (by decide)], fun j hj => by rw [gUp_o (by omega), gUp_o (by omega)]; exact h.2 j hj, ⟨by rw [gUp_s]; rfl, by omega, fun i hi => absurd hi (Nat.not_lt_zero i)⟩, by rw [gUp_o (by omega), gUp_s]; rfl, fun _ => rfl⟩
/-- while the told events come back -/
def mCb (τ υ : gS) (i : Nat) : Prop := (∀ q, q ≠ 9 → υ q = τ q) ∧ (∀ j, j < i → υ 9 j = τ 17 j) ∧ ∀ j, i ≤ j → υ 9 j = τ 9 j
theorem mCb_up {τ υ : gS} {i : Nat} {x : Int32} (h : mCb τ υ i) (hx : x = τ 17 i) : mCb τ (gUp υ 9 i x) (i + 1) := ⟨fun q hq => by rw [gUp_ne hq]; exact h.1 q hq, fun j hj => by
  by_cases hji : j = i
  · rw [hji, gUp_s]; exact hx
  · rw [gUp_o (fun z => hji z.2)]; exact h.2.1 j (by omega), fun j hj => by rw [gUp_o (by omega)]; exact h.2.2 j (by omega)⟩
def mCnF (σ τ : gS) : Prop := (∀ q, q ≠ 0 → q ≠ 10 → q ≠ 11 → q ≠ 12 → q ≠ 13 → q ≠ 14 → q ≠ 17 → τ q = σ q) ∧ ∀ s, s ≠ 27 → τ 0 s = σ 0 s
theorem mCnF.keep {σ τ : gS} (h : mCnF σ τ) : mKeep σ τ := ⟨fun q h0 hs => h.1 q h0 (fun z => hs (by unfold mScr; omega)) (fun z => hs (by unfold mScr; omega)) (fun z => hs (by unfold mScr; omega)) (fun z => hs (by unfold mScr; omega)) (fun z => hs (by unfold mScr; omega)) (fun z => hs (by unfold mScr; omega)), fun s _ _ _ d => h.2 s d⟩
theorem mCb_end {σ τ ρ υ : gS} {s x : Int32} {nb e n : Nat} (hC : mCe σ τ s nb e) (hL : mLvF τ ρ) (hb : mCb ρ υ 24) (h13 : σ 0 13 = nI n) (hx : x = nI n) : mCnF σ (gUp υ 0 13 x) := by
  refine ⟨fun q h0 a b c d e f => ?_, fun p d => ?_⟩
  · rw [gUp_ne h0]
    by_cases h9 : q = 9
    · subst h9
      funext j
      by_cases hj : j < 24
      · rw [hb.2.1 j hj, hL 17 (by decide) (by decide) (by decide) (by decide) (by decide)]; exact hC.2.2.2.1 j hj
      · rw [hb.2.2 j (by omega), hL 9 (by decide) (by decide) (by decide) (by decide) (by decide)]; exact hC.2.2.1 j (by omega)
    · rw [hb.1 q h9, hL q a b c d e]
      exact hC.1 q h0 h9 f
  · by_cases h : p = 13
    · rw [h, gUp_s, hx, h13]
    · rw [gUp_o (by omega), hb.1 0 (by decide), hL 0 (by decide) (by decide) (by decide) (by decide) (by decide)]; exact hC.2.1 p h d
theorem dNb_cen (D : xDat) (s : Int32) (n : Nat) : dNb (dCen D s n) = dNb D := rfl
theorem s_X11_centuryOf {d : Nat} (hd : 6 ≤ d) (σ : gS) (D : xDat) (s : Int32) (n w : Nat) (hR : mRdyS σ D) (hn : n ≤ 8) (hw : w < 2) : gC d 194 [.ref 0, .int s, .int (nI n), .int (nI w)] σ (fun r τ => r = some (.int (dCentury D s n w)) ∧ mCnF σ τ) := by
  obtain ⟨d, rfl⟩ : ∃ k, d = k + 1 := ⟨d - 1, by omega⟩
  refine gC.of (P := pX11_centuryOf) (nL := 8) (rt := (some (.int))) (lv := [some (.ref 0), some (.int s), some (.int (nI n)), some (.int (nI w)), none, none, none, none]) (by decide +kernel) rfl rfl rfl (by simp [gEnt, Value.category]) rfl ?_
  have hn10 := hR.1.2.2.1
  refine gR.steps 2 (σ, (4, [some (.ref 0), some (.int s), some (.int (nI n)), some (.int (nI w)), none, none, none, none], [.int (σ 0 13)])) rfl ?_
  refine gR.topI (y := nI (dN D)) hR.1.1.1 ?_
  refine gR.steps 3 (σ, (9, [some (.ref 0), some (.int s), some (.int (nI n)), some (.int (nI w)), some (.int (nI (dN D))), some (.int 0), none, none], [])) rfl ?_
  refine gR.forget [some (.ref 0), some (.int s), some (.int (nI n)), some (.int (nI w)), some (.int (nI (dN D))), some (.int 0), none, none] ⟨rfl, ⟨rfl, ⟨rfl, ⟨rfl, ⟨rfl, ⟨rfl, trivial⟩⟩⟩⟩⟩⟩ ?_
  refine gR.loop (α := Nat × gS) (fun ⟨i, τ⟩ => i ≤ 24 ∧ mTo σ τ i) (fun ⟨i, τ⟩ => 24 - i) (fun ⟨i, τ⟩ => (τ, (9, [some (.ref 0), some (.int s), some (.int (nI n)), some (.int (nI w)), some (.int (nI (dN D))), some (.int (nI i)), none, none], []))) ?_ ⟨0, σ⟩ ⟨Nat.zero_le 24, fun _ _ => rfl, fun j hj => absurd hj (Nat.not_lt_zero j)⟩
  rintro ⟨i, τ⟩ ⟨hi, hT⟩ ih
  show gR _ _ _ τ (9, [some (.ref 0), some (.int s), some (.int (nI n)), some (.int (nI w)), some (.int (nI (dN D))), some (.int (nI i)), none, none], [])
  refine gR.steps 2 (τ, (13, [some (.ref 0), some (.int s), some (.int (nI n)), some (.int (nI w)), some (.int (nI (dN D))), some (.int (nI i)), none, none], [.int 24, .int (nI i)])) rfl ?_
  refine gR.ifte rfl (fun zc13 => ?_) (fun zc13 => ?_)
  · rw [gN_le (x := 24) (y := nI i) (a := 24) (b := i) rfl rfl (by omega) (by omega)] at zc13
    have hi24 : i = 24 := by omega
    refine gR.steps 8 (gUp (gUp τ 0 27 s) 0 13 0, (49, [some (.ref 0), some (.int s), some (.int (nI n)), some (.int (nI w)), some (.int (nI (dN D))), some (.int 0), none, none], [])) rfl ?_
    refine gR.forget [some (.ref 0), some (.int s), some (.int (nI n)), some (.int (nI w)), some (.int (nI (dN D))), some (.int 0), none, none] ⟨rfl, ⟨rfl, ⟨rfl, ⟨rfl, ⟨rfl, ⟨rfl, trivial⟩⟩⟩⟩⟩⟩ ?_
    refine gR.loop (α := Nat × gS) (fun ⟨e, τ⟩ => e ≤ n ∧ mCe σ τ s (dNb D) e) (fun ⟨e, τ⟩ => n - e) (fun ⟨e, τ⟩ => (τ, (49, [some (.ref 0), some (.int s), some (.int (nI n)), some (.int (nI w)), some (.int (nI (dN D))), some (.int (nI e)), none, none], []))) ?_ ⟨0, _⟩ ⟨Nat.zero_le n, mCe_0 ((show i = 24 by omega) ▸ hT)⟩
    rintro ⟨e, τ⟩ ⟨hen, hC⟩ ih2
    show gR _ _ _ τ (49, [some (.ref 0), some (.int s), some (.int (nI n)), some (.int (nI w)), some (.int (nI (dN D))), some (.int (nI e)), none, none], [])
    refine gR.steps 2 (τ, (52, [some (.ref 0), some (.int s), some (.int (nI n)), some (.int (nI w)), some (.int (nI (dN D))), some (.int (nI e)), none, none], [.int (nI n), .int (nI e)])) rfl ?_
    refine gR.ifte rfl (fun zc52 => ?_) (fun zc52 => ?_)
    · rw [gN_le (x := nI n) (y := nI e) (a := n) (b := e) rfl rfl (by omega) (by omega)] at zc52
      refine gR.steps 1 (τ, (100, [some (.ref 0), some (.int s), some (.int (nI n)), some (.int (nI w)), some (.int (nI (dN D))), some (.int (nI e)), none, none], [.ref 0])) rfl ?_
      have he : e = (if 0 < dNb D then n else 0) := by
        by_cases h : 0 < dNb D
        · rw [if_pos h]; omega
        · rw [if_neg h]; exact hC.2.2.2.2.2.2 (by omega)
      refine gR.call' rfl (s_X11_lives (by omega) τ e (cK s) (cM s) (cB s (dNb D)) gn0 false (dNb D) (dKd D) (dBg D) (dSp D) (dNl D) (dLm D) (dLb D) none 0 (dF D) hC.2.2.2.2.1 (mBu_k (hC.2.1 7 (by decide) (by decide)) (hC.1 7 (by decide) (by decide) (by decide)) hR.1.2.1) (mGone_0 ((hC.2.1 15 (by decide) (by decide)).trans hR.1.2.2.2.1)) ((hC.2.1 21 (by decide) (by decide)).trans hR.1.2.2.2.2) (mLo_k (hC.2.1 9 (by decide) (by decide)) (hC.1 8 (by decide) (by decide) (by decide)) hR.2.1) ((hC.2.1 22 (by decide) (by decide)).trans hR.2.2.2) ((hC.2.1 11 (by decide) (by decide)).trans hR.2.2.1.1) hR.2.2.1.2.1) ?_
      rintro _ ρ ⟨rfl, hL, hrows, hbel⟩
      rw [he] at hrows hbel
      show gR _ _ _ ρ (103, [some (.ref 0), some (.int s), some (.int (nI n)), some (.int (nI w)), some (.int (nI (dN D))), some (.int (nI e)), none, none], [])
      refine gR.steps 2 (ρ, (106, [some (.ref 0), some (.int s), some (.int (nI n)), some (.int (nI w)), some (.int (nI (dN D))), some (.int 0), none, none], [])) rfl ?_
      refine gR.forget [some (.ref 0), some (.int s), some (.int (nI n)), some (.int (nI w)), some (.int (nI (dN D))), some (.int 0), none, none] ⟨rfl, ⟨rfl, ⟨rfl, ⟨rfl, ⟨rfl, ⟨rfl, trivial⟩⟩⟩⟩⟩⟩ ?_
      refine gR.loop (α := Nat × gS) (fun ⟨i, υ⟩ => i ≤ 24 ∧ mCb ρ υ i) (fun ⟨i, υ⟩ => 24 - i) (fun ⟨i, υ⟩ => (υ, (106, [some (.ref 0), some (.int s), some (.int (nI n)), some (.int (nI w)), some (.int (nI (dN D))), some (.int (nI i)), none, none], []))) ?_ ⟨0, ρ⟩ ⟨Nat.zero_le 24, fun _ _ => rfl, fun j hj => absurd hj (Nat.not_lt_zero j), fun _ _ => rfl⟩
      rintro ⟨i, υ⟩ ⟨hi2, hb⟩ ih3
      show gR _ _ _ υ (106, [some (.ref 0), some (.int s), some (.int (nI n)), some (.int (nI w)), some (.int (nI (dN D))), some (.int (nI i)), none, none], [])
      refine gR.steps 2 (υ, (110, [some (.ref 0), some (.int s), some (.int (nI n)), some (.int (nI w)), some (.int (nI (dN D))), some (.int (nI i)), none, none], [.int 24, .int (nI i)])) rfl ?_
      refine gR.ifte rfl (fun zc110 => ?_) (fun zc110 => ?_)
      · rw [gN_le (x := 24) (y := nI i) (a := 24) (b := i) rfl rfl (by omega) (by omega)] at zc110
        have hi24 : i = 24 := by omega
        refine gR.steps 4 (gUp υ 0 13 (nI (dN D)), (140, [some (.ref 0), some (.int s), some (.int (nI n)), some (.int (nI w)), some (.int (nI (dN D))), some (.int (nI i)), none, none], [.int (nI w)])) rfl ?_
        refine gR.ifte rfl (fun zc140 => ?_) (fun zc140 => ?_)
        · rw [gN_eq (x := nI w) (y := 0) (a := w) (b := 0) rfl rfl (by omega) (by omega)] at zc140
          refine gR.steps 1 (gUp υ 0 13 (nI (dN D)), (154, [some (.ref 0), some (.int s), some (.int (nI n)), some (.int (nI w)), some (.int (nI (dN D))), some (.int (nI i)), none, none], [.ref 0])) rfl ?_
          refine gR.callp rfl (s_X11_runNow (by omega) (gUp υ 0 13 (nI (dN D))) (fun m => dBel (dCen D s n) none 0 (m + 1)) (dDb D) (fun m hm => ⟨by rw [gUp_ne (by decide), hb.1 13 (by decide)]; exact hbel m hm, xBel_le hR.2.2.1.2.1 (m + 1)⟩) (by rw [gUp_o (by omega), hb.1 0 (by decide), hL 0 (by decide) (by decide) (by decide) (by decide) (by decide), hC.2.1 12 (by decide) (by decide)]; exact hR.2.2.1.2.2.1) hR.2.2.1.2.2.2) ?_
          show gR _ _ _ (gUp υ 0 13 (nI (dN D))) (157, [some (.ref 0), some (.int s), some (.int (nI n)), some (.int (nI w)), some (.int (nI (dN D))), some (.int (nI i)), none, none], [.int (aRun (dCen D s n))])
          refine gR.ret rfl ?_
          refine ⟨trivial, ?_, mCb_end hC hL ((show i = 24 by omega) ▸ hb) hR.1.1.1 rfl⟩
          unfold dCentury
          first | rw [if_pos (Decidable.not_not.mp zc140)] | rw [if_neg zc140]
        · rw [gN_eq (x := nI w) (y := 0) (a := w) (b := 0) rfl rfl (by omega) (by omega)] at zc140
          refine gR.steps 1 (gUp υ 0 13 (nI (dN D)), (144, [some (.ref 0), some (.int s), some (.int (nI n)), some (.int (nI w)), some (.int (nI (dN D))), some (.int (nI i)), none, none], [.ref 0])) rfl ?_
          refine gR.callp rfl (s_X11_bareNow (by omega) (gUp υ 0 13 (nI (dN D))) (dYel (dCen D s n)) (fun m hm => ⟨by rw [gUp_ne (by decide), hb.1 12 (by decide)]; exact (hrows m hm).2.1, dYel_le (D := (dCen D s n)) hR.1.2.1.sp hR.1.2.2.1 m⟩)) ?_
          refine gR.callp rfl (s_X11_ones (by omega) (gUp υ 0 13 (nI (dN D))) (aBare (dCen D s n))) ?_
          refine gR.steps 1 (gUp υ 0 13 (nI (dN D)), (157, [some (.ref 0), some (.int s), some (.int (nI n)), some (.int (nI w)), some (.int (nI (dN D))), some (.int (nI i)), none, none], [.int (nI (xPop (aBare (dCen D s n))))])) rfl ?_
          show gR _ _ _ (gUp υ 0 13 (nI (dN D))) (157, [some (.ref 0), some (.int s), some (.int (nI n)), some (.int (nI w)), some (.int (nI (dN D))), some (.int (nI i)), none, none], [.int (nI (xPop (aBare (dCen D s n))))])
          refine gR.ret rfl ?_
          refine ⟨trivial, ?_, mCb_end hC hL ((show i = 24 by omega) ▸ hb) hR.1.1.1 rfl⟩
          unfold dCentury
          first | rw [if_pos (Decidable.not_not.mp zc140)] | rw [if_neg zc140]
      · rw [gN_le (x := 24) (y := nI i) (a := 24) (b := i) rfl rfl (by omega) (by omega)] at zc110
        refine gR.steps 6 (υ, (125, [some (.ref 0), some (.int s), some (.int (nI n)), some (.int (nI w)), some (.int (nI (dN D))), some (.int (nI i)), none, none], [.int (nI i), .ref 17, .int (nI i), .ref 9])) rfl ?_
        refine gR.ald (i := nI i) (j := i) (N := 24) (g := υ 17) rfl rfl (by omega) (by omega) ?_
        refine gR.ast (i := nI i) (j := i) (N := 24) (q := 9) (x := υ 17 i) rfl rfl (by omega) (by omega) ?_
        refine gR.steps 2 (gUp υ 9 i (υ 17 i), (106, [some (.ref 0), some (.int s), some (.int (nI n)), some (.int (nI w)), some (.int (nI (dN D))), some (.int ((nI i) + 1)), none, none], [])) rfl ?_
        refine gR.forget [some (.ref 0), some (.int s), some (.int (nI n)), some (.int (nI w)), some (.int (nI (dN D))), some (.int (nI (i + 1))), none, none] ⟨rfl, ⟨rfl, ⟨rfl, ⟨rfl, ⟨rfl, ⟨gSomeI (gN_add rfl rfl), trivial⟩⟩⟩⟩⟩⟩ ?_
        exact ih3 ⟨i + 1, _⟩ ⟨by omega, mCb_up hb (by rw [hb.1 17 (by decide)])⟩ (by dsimp only; omega)
    · rw [gN_le (x := nI n) (y := nI e) (a := n) (b := e) rfl rfl (by omega) (by omega)] at zc52
      refine gR.steps 2 (τ, (59, [some (.ref 0), some (.int s), some (.int (nI n)), some (.int (nI w)), some (.int (nI (dN D))), some (.int (nI e)), none, none], [.int (τ 0 7)])) rfl ?_
      refine gR.topI (y := nI (dNb D)) ((hC.2.1 7 (by decide) (by decide)).trans hR.1.2.1.1) ?_
      refine gR.ifte rfl (fun zc59 => ?_) (fun zc59 => ?_)
      · rw [gN_le (x := nI (dNb D)) (y := 0) (a := dNb D) (b := 0) rfl rfl (by omega) (by omega)] at zc59
        refine gR.steps 1 (τ, (100, [some (.ref 0), some (.int s), some (.int (nI n)), some (.int (nI w)), some (.int (nI (dN D))), some (.int (nI e)), none, none], [.ref 0])) rfl ?_
        have he : e = (if 0 < dNb D then n else 0) := by
          by_cases h : 0 < dNb D
          · rw [if_pos h]; omega
          · rw [if_neg h]; exact hC.2.2.2.2.2.2 (by omega)
        refine gR.call' rfl (s_X11_lives (by omega) τ e (cK s) (cM s) (cB s (dNb D)) gn0 false (dNb D) (dKd D) (dBg D) (dSp D) (dNl D) (dLm D) (dLb D) none 0 (dF D) hC.2.2.2.2.1 (mBu_k (hC.2.1 7 (by decide) (by decide)) (hC.1 7 (by decide) (by decide) (by decide)) hR.1.2.1) (mGone_0 ((hC.2.1 15 (by decide) (by decide)).trans hR.1.2.2.2.1)) ((hC.2.1 21 (by decide) (by decide)).trans hR.1.2.2.2.2) (mLo_k (hC.2.1 9 (by decide) (by decide)) (hC.1 8 (by decide) (by decide) (by decide)) hR.2.1) ((hC.2.1 22 (by decide) (by decide)).trans hR.2.2.2) ((hC.2.1 11 (by decide) (by decide)).trans hR.2.2.1.1) hR.2.2.1.2.1) ?_
        rintro _ ρ ⟨rfl, hL, hrows, hbel⟩
        rw [he] at hrows hbel
        show gR _ _ _ ρ (103, [some (.ref 0), some (.int s), some (.int (nI n)), some (.int (nI w)), some (.int (nI (dN D))), some (.int (nI e)), none, none], [])
        refine gR.steps 2 (ρ, (106, [some (.ref 0), some (.int s), some (.int (nI n)), some (.int (nI w)), some (.int (nI (dN D))), some (.int 0), none, none], [])) rfl ?_
        refine gR.forget [some (.ref 0), some (.int s), some (.int (nI n)), some (.int (nI w)), some (.int (nI (dN D))), some (.int 0), none, none] ⟨rfl, ⟨rfl, ⟨rfl, ⟨rfl, ⟨rfl, ⟨rfl, trivial⟩⟩⟩⟩⟩⟩ ?_
        refine gR.loop (α := Nat × gS) (fun ⟨i, υ⟩ => i ≤ 24 ∧ mCb ρ υ i) (fun ⟨i, υ⟩ => 24 - i) (fun ⟨i, υ⟩ => (υ, (106, [some (.ref 0), some (.int s), some (.int (nI n)), some (.int (nI w)), some (.int (nI (dN D))), some (.int (nI i)), none, none], []))) ?_ ⟨0, ρ⟩ ⟨Nat.zero_le 24, fun _ _ => rfl, fun j hj => absurd hj (Nat.not_lt_zero j), fun _ _ => rfl⟩
        rintro ⟨i, υ⟩ ⟨hi2, hb⟩ ih3
        show gR _ _ _ υ (106, [some (.ref 0), some (.int s), some (.int (nI n)), some (.int (nI w)), some (.int (nI (dN D))), some (.int (nI i)), none, none], [])
        refine gR.steps 2 (υ, (110, [some (.ref 0), some (.int s), some (.int (nI n)), some (.int (nI w)), some (.int (nI (dN D))), some (.int (nI i)), none, none], [.int 24, .int (nI i)])) rfl ?_
        refine gR.ifte rfl (fun zc110 => ?_) (fun zc110 => ?_)
        · rw [gN_le (x := 24) (y := nI i) (a := 24) (b := i) rfl rfl (by omega) (by omega)] at zc110
          have hi24 : i = 24 := by omega
          refine gR.steps 4 (gUp υ 0 13 (nI (dN D)), (140, [some (.ref 0), some (.int s), some (.int (nI n)), some (.int (nI w)), some (.int (nI (dN D))), some (.int (nI i)), none, none], [.int (nI w)])) rfl ?_
          refine gR.ifte rfl (fun zc140 => ?_) (fun zc140 => ?_)
          · rw [gN_eq (x := nI w) (y := 0) (a := w) (b := 0) rfl rfl (by omega) (by omega)] at zc140
            refine gR.steps 1 (gUp υ 0 13 (nI (dN D)), (154, [some (.ref 0), some (.int s), some (.int (nI n)), some (.int (nI w)), some (.int (nI (dN D))), some (.int (nI i)), none, none], [.ref 0])) rfl ?_
            refine gR.callp rfl (s_X11_runNow (by omega) (gUp υ 0 13 (nI (dN D))) (fun m => dBel (dCen D s n) none 0 (m + 1)) (dDb D) (fun m hm => ⟨by rw [gUp_ne (by decide), hb.1 13 (by decide)]; exact hbel m hm, xBel_le hR.2.2.1.2.1 (m + 1)⟩) (by rw [gUp_o (by omega), hb.1 0 (by decide), hL 0 (by decide) (by decide) (by decide) (by decide) (by decide), hC.2.1 12 (by decide) (by decide)]; exact hR.2.2.1.2.2.1) hR.2.2.1.2.2.2) ?_
            show gR _ _ _ (gUp υ 0 13 (nI (dN D))) (157, [some (.ref 0), some (.int s), some (.int (nI n)), some (.int (nI w)), some (.int (nI (dN D))), some (.int (nI i)), none, none], [.int (aRun (dCen D s n))])
            refine gR.ret rfl ?_
            refine ⟨trivial, ?_, mCb_end hC hL ((show i = 24 by omega) ▸ hb) hR.1.1.1 rfl⟩
            unfold dCentury
            first | rw [if_pos (Decidable.not_not.mp zc140)] | rw [if_neg zc140]
          · rw [gN_eq (x := nI w) (y := 0) (a := w) (b := 0) rfl rfl (by omega) (by omega)] at zc140
            refine gR.steps 1 (gUp υ 0 13 (nI (dN D)), (144, [some (.ref 0), some (.int s), some (.int (nI n)), some (.int (nI w)), some (.int (nI (dN D))), some (.int (nI i)), none, none], [.ref 0])) rfl ?_
            refine gR.callp rfl (s_X11_bareNow (by omega) (gUp υ 0 13 (nI (dN D))) (dYel (dCen D s n)) (fun m hm => ⟨by rw [gUp_ne (by decide), hb.1 12 (by decide)]; exact (hrows m hm).2.1, dYel_le (D := (dCen D s n)) hR.1.2.1.sp hR.1.2.2.1 m⟩)) ?_
            refine gR.callp rfl (s_X11_ones (by omega) (gUp υ 0 13 (nI (dN D))) (aBare (dCen D s n))) ?_
            refine gR.steps 1 (gUp υ 0 13 (nI (dN D)), (157, [some (.ref 0), some (.int s), some (.int (nI n)), some (.int (nI w)), some (.int (nI (dN D))), some (.int (nI i)), none, none], [.int (nI (xPop (aBare (dCen D s n))))])) rfl ?_
            show gR _ _ _ (gUp υ 0 13 (nI (dN D))) (157, [some (.ref 0), some (.int s), some (.int (nI n)), some (.int (nI w)), some (.int (nI (dN D))), some (.int (nI i)), none, none], [.int (nI (xPop (aBare (dCen D s n))))])
            refine gR.ret rfl ?_
            refine ⟨trivial, ?_, mCb_end hC hL ((show i = 24 by omega) ▸ hb) hR.1.1.1 rfl⟩
            unfold dCentury
            first | rw [if_pos (Decidable.not_not.mp zc140)] | rw [if_neg zc140]
        · rw [gN_le (x := 24) (y := nI i) (a := 24) (b := i) rfl rfl (by omega) (by omega)] at zc110
          refine gR.steps 6 (υ, (125, [some (.ref 0), some (.int s), some (.int (nI n)), some (.int (nI w)), some (.int (nI (dN D))), some (.int (nI i)), none, none], [.int (nI i), .ref 17, .int (nI i), .ref 9])) rfl ?_
          refine gR.ald (i := nI i) (j := i) (N := 24) (g := υ 17) rfl rfl (by omega) (by omega) ?_
          refine gR.ast (i := nI i) (j := i) (N := 24) (q := 9) (x := υ 17 i) rfl rfl (by omega) (by omega) ?_
          refine gR.steps 2 (gUp υ 9 i (υ 17 i), (106, [some (.ref 0), some (.int s), some (.int (nI n)), some (.int (nI w)), some (.int (nI (dN D))), some (.int ((nI i) + 1)), none, none], [])) rfl ?_
          refine gR.forget [some (.ref 0), some (.int s), some (.int (nI n)), some (.int (nI w)), some (.int (nI (dN D))), some (.int (nI (i + 1))), none, none] ⟨rfl, ⟨rfl, ⟨rfl, ⟨rfl, ⟨rfl, ⟨gSomeI (gN_add rfl rfl), trivial⟩⟩⟩⟩⟩⟩ ?_
          exact ih3 ⟨i + 1, _⟩ ⟨by omega, mCb_up hb (by rw [hb.1 17 (by decide)])⟩ (by dsimp only; omega)
      · rw [gN_le (x := nI (dNb D)) (y := 0) (a := dNb D) (b := 0) rfl rfl (by omega) (by omega)] at zc59
        refine gR.steps 2 (τ, (64, [some (.ref 0), some (.int s), some (.int (nI n)), some (.int (nI w)), some (.int (nI (dN D))), some (.int (nI e)), none, none], [.int 4, .ref 0])) rfl ?_
        refine gR.call' rfl (s_X11_lot (by omega) τ 4 (by omega) (by omega)) ?_
        rintro _ _ ⟨rfl, rfl⟩ 
        show gR _ _ _ (gUp τ 0 27 (xNx (τ 0 27))) (67, [some (.ref 0), some (.int s), some (.int (nI n)), some (.int (nI w)), some (.int (nI (dN D))), some (.int (nI e)), none, none], [.int (nI (xU (xNx (τ 0 27)) % 4))])
        refine gR.steps 3 (gUp τ 0 27 (xNx (τ 0 27)), (72, [some (.ref 0), some (.int s), some (.int (nI n)), some (.int (nI w)), some (.int (nI (dN D))), some (.int (nI e)), some (.int (nI (xU (xNx (τ 0 27)) % 4))), none], [.int 24, .ref 0])) rfl ?_
        refine gR.call' rfl (s_X11_lot (by omega) (gUp τ 0 27 (xNx (τ 0 27))) 24 (by omega) (by omega)) ?_
        rintro _ _ ⟨rfl, rfl⟩ 
        show gR _ _ _ (gUp (gUp τ 0 27 (xNx (τ 0 27))) 0 27 (xNx (xNx (τ 0 27)))) (75, [some (.ref 0), some (.int s), some (.int (nI n)), some (.int (nI w)), some (.int (nI (dN D))), some (.int (nI e)), some (.int (nI (xU (xNx (τ 0 27)) % 4))), none], [.int (nI (xU (xNx (xNx (τ 0 27))) % 24))])
        refine gR.steps 7 (gUp (gUp τ 0 27 (xNx (τ 0 27))) 0 27 (xNx (xNx (τ 0 27))), (87, [some (.ref 0), some (.int s), some (.int (nI n)), some (.int (nI w)), some (.int (nI (dN D))), some (.int (nI e)), some (.int (nI (xU (xNx (τ 0 27)) % 4))), some (.int (nI (xU (xNx (xNx (τ 0 27))) % 24)))], [.int (τ 0 7), .ref 0, .int (nI (xU (xNx (xNx (τ 0 27))) % 24)), .int (nI (xU (xNx (τ 0 27)) % 4)), .ref 0])) rfl ?_
        refine gR.topI (y := nI (dNb D)) ((hC.2.1 7 (by decide) (by decide)).trans hR.1.2.1.1) ?_
        refine gR.call' rfl (s_X11_lot (by omega) (gUp (gUp τ 0 27 (xNx (τ 0 27))) 0 27 (xNx (xNx (τ 0 27)))) (dNb D) (by omega) (by omega)) ?_
        rintro _ _ ⟨rfl, rfl⟩ 
        show gR _ _ _ (gUp (gUp (gUp τ 0 27 (xNx (τ 0 27))) 0 27 (xNx (xNx (τ 0 27)))) 0 27 (xNx (xNx (xNx (τ 0 27))))) (90, [some (.ref 0), some (.int s), some (.int (nI n)), some (.int (nI w)), some (.int (nI (dN D))), some (.int (nI e)), some (.int (nI (xU (xNx (τ 0 27)) % 4))), some (.int (nI (xU (xNx (xNx (τ 0 27))) % 24)))], [.int (nI (xU (xNx (xNx (xNx (τ 0 27)))) % (dNb D))), .int (nI (xU (xNx (xNx (τ 0 27))) % 24)), .int (nI (xU (xNx (τ 0 27)) % 4)), .ref 0])
        refine gR.call' rfl (s_X11_putsE (by omega) (gUp (gUp (gUp τ 0 27 (xNx (τ 0 27))) 0 27 (xNx (xNx (τ 0 27)))) 0 27 (xNx (xNx (xNx (τ 0 27))))) e (xU (xNx (τ 0 27)) % 4) (xU (xNx (xNx (τ 0 27))) % 24) (xU (xNx (xNx (xNx (τ 0 27)))) % (dNb D)) (by rw [gUp_o (by omega), gUp_o (by omega), gUp_o (by omega)]; exact hC.2.2.2.2.1.1) (by omega)) ?_
        rintro _ _ ⟨rfl, rfl⟩ 
        show gR _ _ _ (gUp (gUp (gUp (gUp (gUp (gUp (gUp τ 0 27 (xNx (τ 0 27))) 0 27 (xNx (xNx (τ 0 27)))) 0 27 (xNx (xNx (xNx (τ 0 27))))) 9 (3 * e) (nI (xU (xNx (τ 0 27)) % 4))) 9 (3 * e + 1) (nI (xU (xNx (xNx (τ 0 27))) % 24))) 9 (3 * e + 2) (nI (xU (xNx (xNx (xNx (τ 0 27)))) % (dNb D)))) 0 13 (nI e + 1)) (93, [some (.ref 0), some (.int s), some (.int (nI n)), some (.int (nI w)), some (.int (nI (dN D))), some (.int (nI e)), some (.int (nI (xU (xNx (τ 0 27)) % 4))), some (.int (nI (xU (xNx (xNx (τ 0 27))) % 24)))], [])
        refine gR.steps 2 (gUp (gUp (gUp (gUp (gUp (gUp (gUp τ 0 27 (xNx (τ 0 27))) 0 27 (xNx (xNx (τ 0 27)))) 0 27 (xNx (xNx (xNx (τ 0 27))))) 9 (3 * e) (nI (xU (xNx (τ 0 27)) % 4))) 9 (3 * e + 1) (nI (xU (xNx (xNx (τ 0 27))) % 24))) 9 (3 * e + 2) (nI (xU (xNx (xNx (xNx (τ 0 27)))) % (dNb D)))) 0 13 (nI e + 1), (49, [some (.ref 0), some (.int s), some (.int (nI n)), some (.int (nI w)), some (.int (nI (dN D))), some (.int ((nI e) + 1)), some (.int (nI (xU (xNx (τ 0 27)) % 4))), some (.int (nI (xU (xNx (xNx (τ 0 27))) % 24)))], [])) rfl ?_
        refine gR.forget [some (.ref 0), some (.int s), some (.int (nI n)), some (.int (nI w)), some (.int (nI (dN D))), some (.int (nI (e + 1))), none, none] ⟨rfl, ⟨rfl, ⟨rfl, ⟨rfl, ⟨rfl, ⟨gSomeI (gN_add rfl rfl), trivial⟩⟩⟩⟩⟩⟩ ?_
        exact ih2 ⟨e + 1, _⟩ ⟨by omega, mCe_next hC (by omega) (by omega) (by omega) (gN_add rfl rfl)⟩ (by dsimp only; omega)
  · rw [gN_le (x := 24) (y := nI i) (a := 24) (b := i) rfl rfl (by omega) (by omega)] at zc13
    refine gR.steps 6 (τ, (28, [some (.ref 0), some (.int s), some (.int (nI n)), some (.int (nI w)), some (.int (nI (dN D))), some (.int (nI i)), none, none], [.int (nI i), .ref 9, .int (nI i), .ref 17])) rfl ?_
    refine gR.ald (i := nI i) (j := i) (N := 24) (g := τ 9) rfl rfl (by omega) (by omega) ?_
    refine gR.ast (i := nI i) (j := i) (N := 24) (q := 17) (x := τ 9 i) rfl rfl (by omega) (by omega) ?_
    refine gR.steps 2 (gUp τ 17 i (τ 9 i), (9, [some (.ref 0), some (.int s), some (.int (nI n)), some (.int (nI w)), some (.int (nI (dN D))), some (.int ((nI i) + 1)), none, none], [])) rfl ?_
    refine gR.forget [some (.ref 0), some (.int s), some (.int (nI n)), some (.int (nI w)), some (.int (nI (dN D))), some (.int (nI (i + 1))), none, none] ⟨rfl, ⟨rfl, ⟨rfl, ⟨rfl, ⟨rfl, ⟨gSomeI (gN_add rfl rfl), trivial⟩⟩⟩⟩⟩⟩ ?_
    exact ih ⟨i + 1, _⟩ ⟨by omega, mTo_up hT (by rw [hT.1 9 (by decide)])⟩ (by dsimp only; omega)
def aCentury (D : xDat) (s n w : Int32) : Int32 := if (0 ≤ n.toInt ∧ n.toInt ≤ 8) ∧ (0 ≤ w.toInt ∧ w.toInt ≤ 1) then dCentury D s n.toNatClampNeg w.toNatClampNeg else -2
theorem s_X11_century {d : Nat} (hd : 7 ≤ d) (σ : gS) (D : xDat) (s n w : Int32) (hs : mSt σ D) : gC d 195 [.ref 0, .int s, .int n, .int w] σ (fun r τ => r = some (.int (aCentury D s n w)) ∧ mKeep σ τ) := by
  obtain ⟨d, rfl⟩ : ∃ k, d = k + 1 := ⟨d - 1, by omega⟩
  refine gC.of (P := pX11_century) (nL := 4) (rt := (some (.int))) (lv := [some (.ref 0), some (.int s), some (.int n), some (.int w)]) (by decide +kernel) rfl rfl rfl (by simp [gEnt, Value.category]) rfl ?_
  refine gR.steps 1 (σ, (1, [some (.ref 0), some (.int s), some (.int n), some (.int w)], [.ref 0])) rfl ?_
  refine gR.call' rfl (s_X11_find (by omega) σ D hs) ?_
  rintro _ τ ⟨rfl, hk, hf⟩
  show gR _ _ _ τ (4, [some (.ref 0), some (.int s), some (.int n), some (.int w)], [])
  refine gR.steps 4 (τ, (10, [some (.ref 0), some (.int s), some (.int n), some (.int w)], [.long 8, .long 0, .long (Int32.toInt64 n)])) rfl ?_
  refine gR.callp rfl (s_X11_inI (by omega) τ n 0 8 0 8 (by decide) (by decide)) ?_
  refine gR.ifte rfl (fun zc13 => ?_) (fun zc13 => ?_)
  · rw [bI_eq0] at zc13
    refine gR.steps 1 (τ, (35, [some (.ref 0), some (.int s), some (.int n), some (.int w)], [.int (-2)])) rfl ?_
    refine gR.ret rfl ?_
    exact ⟨trivial, by unfold aCentury; rw [if_neg (by omega)], hk⟩
  · rw [bI_eq0, Decidable.not_not] at zc13
    obtain ⟨nn, hnn, rfl⟩ := gN_of (x := n) (n := 9) (by omega) (by omega) (by omega)
    refine gR.steps 1 (τ, (17, [some (.ref 0), some (.int s), some (.int (nI nn)), some (.int w)], [.int w])) rfl ?_
    refine gR.callp rfl (s_X11_isTwo (by omega) τ w) ?_
    refine gR.ifte rfl (fun zc20 => ?_) (fun zc20 => ?_)
    · rw [bI_eq0] at zc20
      refine gR.steps 1 (τ, (35, [some (.ref 0), some (.int s), some (.int (nI nn)), some (.int w)], [.int (-2)])) rfl ?_
      refine gR.ret rfl ?_
      exact ⟨trivial, by unfold aCentury; rw [if_neg (by omega)], hk⟩
    · rw [bI_eq0, Decidable.not_not] at zc20
      obtain ⟨ww, hww, rfl⟩ := gN_of (x := w) (n := 2) (by omega) (by omega) (by omega)
      refine gR.steps 4 (τ, (27, [some (.ref 0), some (.int s), some (.int (nI nn)), some (.int (nI ww))], [.int (nI ww), .int (nI nn), .int s, .ref 0])) rfl ?_
      refine gR.call' rfl (s_X11_centuryOf (by omega) τ D s nn ww (mRdyS.of (hs.keep hk) hf) (by omega) hww) ?_
      rintro _ τ2 ⟨rfl, hG⟩
      show gR _ _ _ τ2 (30, [some (.ref 0), some (.int s), some (.int (nI nn)), some (.int (nI ww))], [.int (dCentury D s nn ww)])
      refine gR.steps 1 (τ2, (35, [some (.ref 0), some (.int s), some (.int (nI nn)), some (.int (nI ww))], [.int (dCentury D s nn ww)])) rfl ?_
      refine gR.ret rfl ?_
      refine ⟨trivial, ?_, hk.tr hG.keep⟩
      rw [show aCentury D s (nI nn) (nI ww) = _ from if_pos ⟨zc13, zc20⟩, nI_clamp (by omega), nI_clamp (by omega)]
