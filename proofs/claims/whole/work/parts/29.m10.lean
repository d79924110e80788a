/-- bits of those i < n with f i -/
def xMask (f : Nat → Bool) : Nat → Int32
  | 0 => 0
  | n + 1 => xMask f n ||| (if f n = true then (1 : Int32) <<< (nI n &&& 31) else 0)
theorem xMask_t {f : Nat → Bool} {n : Nat} (h : f n = true) : xMask f n ||| (1 : Int32) <<< (nI n &&& 31) = xMask f (n + 1) := by
  simp only [xMask, if_pos h]
theorem xMask_f {f : Nat → Bool} {n : Nat} (h : ¬ f n = true) : xMask f n ||| 0 = xMask f (n + 1) := by
  simp only [xMask, if_neg h]
theorem xMask_congr {f g : Nat → Bool} : ∀ {n : Nat}, (∀ i, i < n → f i = g i) → xMask f n = xMask g n
  | 0, _ => rfl
  | n + 1, h => by simp only [xMask, xMask_congr (n := n) (fun i hi => h i (by omega)), h n (by omega)]
/-- the least m of t .. 23 with p, downward: k months from the end -/
def xRD (p : Nat → Bool) : Nat → Int32
  | 0 => -1
  | k + 1 => if p (23 - k) = true then nI (23 - k) else xRD p k
/-- the first greatest, and how much -/
def xTop (f : Nat → Nat) : Nat → Int32 × Int32
  | 0 => (-1, -1)
  | k + 1 => if (xTop f k).2 < nI (f k) then (nI k, nI (f k)) else xTop f k
theorem s_X11_bareNow {d : Nat} (hd : 1 ≤ d) (σ : gS) (y : Nat → Nat) (hy : ∀ m, m < 24 → σ 12 m = nI (y m) ∧ y m < 1000) : gC d 163 [.ref 0] σ (fun r τ => r = some (.int (xMask (fun m => decide (y m = 0)) 24)) ∧ τ = σ) := by
  obtain ⟨d, rfl⟩ : ∃ k, d = k + 1 := ⟨d - 1, by omega⟩
  refine gC.of (P := pX11_bareNow) (nL := 3) (rt := (some (.int))) (lv := [some (.ref 0), none, none]) (by decide +kernel) rfl rfl rfl (by simp [gEnt, Value.category]) rfl ?_
  refine gR.steps 4 (σ, (4, [some (.ref 0), some (.int 0), some (.int 0)], [])) rfl ?_
  refine gR.forget [some (.ref 0), some (.int (xMask (fun m => decide (y m = 0)) 0)), some (.int 0)] ⟨rfl, ⟨rfl, ⟨rfl, trivial⟩⟩⟩ ?_
  refine gR.loop (α := Nat) (fun m => m ≤ 24) (fun m => 24 - m) (fun m => (σ, (4, [some (.ref 0), some (.int (xMask (fun m => decide (y m = 0)) m)), some (.int (nI m))], []))) ?_ 0 (Nat.zero_le 24)
  rintro m hm24 ih
  show gR _ _ _ σ (4, [some (.ref 0), some (.int (xMask (fun m => decide (y m = 0)) m)), some (.int (nI m))], [])
  refine gR.steps 2 (σ, (7, [some (.ref 0), some (.int (xMask (fun m => decide (y m = 0)) m)), some (.int (nI m))], [.int 24, .int (nI m)])) rfl ?_
  refine gR.ifte rfl (fun zc7 => ?_) (fun zc7 => ?_)
  · rw [gN_le (x := 24) (y := nI m) (a := 24) (b := m) rfl rfl (by omega) (by omega)] at zc7
    refine gR.steps 1 (σ, (36, [some (.ref 0), some (.int (xMask (fun m => decide (y m = 0)) m)), some (.int (nI m))], [.int (xMask (fun m => decide (y m = 0)) m)])) rfl ?_
    refine gR.ret rfl ?_
    exact ⟨trivial, by rw [show m = 24 by omega], rfl⟩
  · rw [gN_le (x := 24) (y := nI m) (a := 24) (b := m) rfl rfl (by omega) (by omega)] at zc7
    have hym := hy m (by omega)
    refine gR.steps 4 (σ, (16, [some (.ref 0), some (.int (xMask (fun m => decide (y m = 0)) m)), some (.int (nI m))], [.int (nI m), .ref 12, .int (xMask (fun m => decide (y m = 0)) m)])) rfl ?_
    refine gR.ald (i := nI m) (j := m) (N := 24) (g := σ 12) rfl rfl (by omega) (by omega) ?_
    refine gR.topI (y := nI (y m)) (hy m (by omega)).1 ?_
    refine gR.ifte rfl (fun zc17 => ?_) (fun zc17 => ?_)
    · rw [gN_eq (x := nI (y m)) (y := 0) (a := y m) (b := 0) rfl rfl (by omega) (by omega)] at zc17
      refine gR.steps 5 (σ, (4, [some (.ref 0), some (.int ((xMask (fun m => decide (y m = 0)) m) ||| 0)), some (.int ((nI m) + 1))], [])) rfl ?_
      refine gR.forget [some (.ref 0), some (.int (xMask (fun m => decide (y m = 0)) (m + 1))), some (.int (nI (m + 1)))] ⟨rfl, ⟨gSomeI (xMask_f (f := (fun m => decide (y m = 0))) (fun z => zc17 (of_decide_eq_true z))), ⟨gSomeI (gN_add rfl rfl), trivial⟩⟩⟩ ?_
      exact ih (m + 1) (by omega) (by omega)
    · rw [gN_eq (x := nI (y m)) (y := 0) (a := y m) (b := 0) rfl rfl (by omega) (by omega)] at zc17
      refine gR.steps 8 (σ, (4, [some (.ref 0), some (.int ((xMask (fun m => decide (y m = 0)) m) ||| ((1 : Int32) <<< ((nI m) &&& 31)))), some (.int ((nI m) + 1))], [])) rfl ?_
      refine gR.forget [some (.ref 0), some (.int (xMask (fun m => decide (y m = 0)) (m + 1))), some (.int (nI (m + 1)))] ⟨rfl, ⟨gSomeI (xMask_t (f := (fun m => decide (y m = 0))) (decide_eq_true (Decidable.not_not.mp zc17))), ⟨gSomeI (gN_add rfl rfl), trivial⟩⟩⟩ ?_
      exact ih (m + 1) (by omega) (by omega)
theorem s_X11_runNow {d : Nat} (hd : 1 ≤ d) (σ : gS) (b : Nat → Nat) (db : Nat) (hb : ∀ m, m < 24 → σ 13 m = nI (b m) ∧ b m ≤ 100) (hdb : σ 0 12 = nI db) (hd50 : db ≤ 50) : gC d 165 [.ref 0] σ (fun r τ => r = some (.int (xRD (fun m => decide (b m < db)) 24)) ∧ τ = σ) := by
  obtain ⟨d, rfl⟩ : ∃ k, d = k + 1 := ⟨d - 1, by omega⟩
  refine gC.of (P := pX11_runNow) (nL := 3) (rt := (some (.int))) (lv := [some (.ref 0), none, none]) (by decide +kernel) rfl rfl rfl (by simp [gEnt, Value.category]) rfl ?_
  refine gR.steps 4 (σ, (5, [some (.ref 0), some (.int (-1)), some (.int 23)], [])) rfl ?_
  refine gR.forget [some (.ref 0), some (.int (xRD (fun m => decide (b m < db)) (24 - 24))), some (.int (nI 24 + -1))] ⟨rfl, ⟨rfl, ⟨gSomeI (by decide), trivial⟩⟩⟩ ?_
  refine gR.loop (α := Nat) (fun t => t ≤ 24) (fun t => t) (fun t => (σ, (5, [some (.ref 0), some (.int (xRD (fun m => decide (b m < db)) (24 - t))), some (.int (nI t + -1))], []))) ?_ 24 (Nat.le_refl 24)
  rintro t ht ih
  show gR _ _ _ σ (5, [some (.ref 0), some (.int (xRD (fun m => decide (b m < db)) (24 - t))), some (.int (nI t + -1))], [])
  refine gR.steps 1 (σ, (6, [some (.ref 0), some (.int (xRD (fun m => decide (b m < db)) (24 - t))), some (.int (nI t + -1))], [.int (nI t + -1)])) rfl ?_
  refine gR.ifte rfl (fun zc6 => ?_) (fun zc6 => ?_)
  · have ht0 : t = 0 := by
      rcases Nat.eq_zero_or_pos t with z | z
      · exact z
      · exfalso; obtain ⟨u, rfl⟩ : ∃ u, t = u + 1 := ⟨t - 1, by omega⟩; rw [pk_m1] at zc6; exact nI_pos (by omega) zc6
    refine gR.steps 1 (σ, (35, [some (.ref 0), some (.int (xRD (fun m => decide (b m < db)) (24 - t))), some (.int (nI t + -1))], [.int (xRD (fun m => decide (b m < db)) (24 - t))])) rfl ?_
    refine gR.ret rfl ?_
    exact ⟨trivial, by rw [ht0], rfl⟩
  · obtain ⟨u, rfl⟩ : ∃ u, t = u + 1 := by
      refine ⟨t - 1, ?_⟩
      rcases Nat.eq_zero_or_pos t with z | z
      · exfalso; apply zc6; rw [z]; decide
      · omega
    rw [pk_m1]
    have hbu := hb u (by omega)
    refine gR.steps 3 (σ, (14, [some (.ref 0), some (.int (xRD (fun m => decide (b m < db)) (24 - (u + 1)))), some (.int (nI u))], [.int (nI u), .ref 13])) rfl ?_
    refine gR.ald (i := nI u) (j := u) (N := 24) (g := σ 13) rfl rfl (by omega) (by omega) ?_
    refine gR.topI (y := nI (b u)) (hb u (by omega)).1 ?_
    refine gR.steps 2 (σ, (19, [some (.ref 0), some (.int (xRD (fun m => decide (b m < db)) (24 - (u + 1)))), some (.int (nI u))], [.int (σ 0 12), .int (nI (b u))])) rfl ?_
    refine gR.topI (y := nI (db)) hdb ?_
    refine gR.ifte rfl (fun zc19 => ?_) (fun zc19 => ?_)
    · rw [gN_le (x := nI db) (y := nI (b u)) (a := db) (b := b u) rfl rfl (by omega) (by omega)] at zc19
      refine gR.steps 4 (σ, (5, [some (.ref 0), some (.int (xRD (fun m => decide (b m < db)) (24 - (u + 1)))), some (.int ((nI u) + -1))], [])) rfl ?_
      refine gR.forget [some (.ref 0), some (.int (xRD (fun m => decide (b m < db)) (24 - u))), some (.int (nI u + -1))] ⟨rfl, ⟨gSomeI (by rw [show 24 - u = (24 - (u + 1)) + 1 by omega]; simp only [xRD]; rw [show 23 - (24 - (u + 1)) = u by omega, if_neg (fun z => absurd (of_decide_eq_true z) (Nat.not_lt.mpr zc19))]), ⟨rfl, trivial⟩⟩⟩ ?_
      exact ih u (by omega) (by omega)
    · rw [gN_le (x := nI db) (y := nI (b u)) (a := db) (b := b u) rfl rfl (by omega) (by omega)] at zc19
      refine gR.steps 5 (σ, (5, [some (.ref 0), some (.int (nI u)), some (.int ((nI u) + -1))], [])) rfl ?_
      refine gR.forget [some (.ref 0), some (.int (xRD (fun m => decide (b m < db)) (24 - u))), some (.int (nI u + -1))] ⟨rfl, ⟨gSomeI (by rw [show 24 - u = (24 - (u + 1)) + 1 by omega]; simp only [xRD]; rw [show 23 - (24 - (u + 1)) = u by omega, if_pos (decide_eq_true (Nat.not_le.mp zc19))]), ⟨rfl, trivial⟩⟩⟩ ?_
      exact ih u (by omega) (by omega)
theorem s_X11_allYellow {d : Nat} (hd : 1 ≤ d) (σ : gS) (y : Nat → Nat) (hy : ∀ m, m < 24 → σ 12 m = nI (y m)) : gC d 197 [.ref 0] σ (fun r τ => r = some (.int (nI (xSum y 24))) ∧ τ = σ) := by
  obtain ⟨d, rfl⟩ : ∃ k, d = k + 1 := ⟨d - 1, by omega⟩
  refine gC.of (P := pX11_allYellow) (nL := 3) (rt := (some (.int))) (lv := [some (.ref 0), none, none]) (by decide +kernel) rfl rfl rfl (by simp [gEnt, Value.category]) rfl ?_
  refine gR.steps 4 (σ, (4, [some (.ref 0), some (.int 0), some (.int 0)], [])) rfl ?_
  refine gR.forget [some (.ref 0), some (.int (nI (xSum y 0))), some (.int 0)] ⟨rfl, ⟨rfl, ⟨rfl, trivial⟩⟩⟩ ?_
  refine gR.loop (α := Nat) (fun m => m ≤ 24) (fun m => 24 - m) (fun m => (σ, (4, [some (.ref 0), some (.int (nI (xSum y m))), some (.int (nI m))], []))) ?_ 0 (Nat.zero_le 24)
  rintro m hm24 ih
  show gR _ _ _ σ (4, [some (.ref 0), some (.int (nI (xSum y m))), some (.int (nI m))], [])
  refine gR.steps 2 (σ, (7, [some (.ref 0), some (.int (nI (xSum y m))), some (.int (nI m))], [.int 24, .int (nI m)])) rfl ?_
  refine gR.ifte rfl (fun zc7 => ?_) (fun zc7 => ?_)
  · rw [gN_le (x := 24) (y := nI m) (a := 24) (b := m) rfl rfl (by omega) (by omega)] at zc7
    refine gR.steps 1 (σ, (26, [some (.ref 0), some (.int (nI (xSum y m))), some (.int (nI m))], [.int (nI (xSum y m))])) rfl ?_
    refine gR.ret rfl ?_
    exact ⟨trivial, by rw [show m = 24 by omega], rfl⟩
  · rw [gN_le (x := 24) (y := nI m) (a := 24) (b := m) rfl rfl (by omega) (by omega)] at zc7
    refine gR.steps 4 (σ, (16, [some (.ref 0), some (.int (nI (xSum y m))), some (.int (nI m))], [.int (nI m), .ref 12, .int (nI (xSum y m))])) rfl ?_
    refine gR.ald (i := nI m) (j := m) (N := 24) (g := σ 12) rfl rfl (by omega) (by omega) ?_
    refine gR.topI (y := nI (y m)) (hy m (by omega)) ?_
    refine gR.steps 4 (σ, (4, [some (.ref 0), some (.int ((nI (xSum y m)) + (nI (y m)))), some (.int ((nI m) + 1))], [])) rfl ?_
    refine gR.forget [some (.ref 0), some (.int (nI (xSum y (m + 1)))), some (.int (nI (m + 1)))] ⟨rfl, ⟨gSomeI (gN_add rfl rfl), ⟨gSomeI (gN_add rfl rfl), trivial⟩⟩⟩ ?_
    exact ih (m + 1) (by omega) (by omega)
def aBare (D : xDat) : Int32 := xMask (fun m => decide (dYel D m = 0)) 24
def dRun (b : Nat → Nat) (db : Nat) : Int32 := xRD (fun m => decide (b m < db)) 24
def aRun (D : xDat) : Int32 := dRun (fun m => dBel D none 0 (m + 1)) (dDb D)
theorem dYel_le {D : xDat} (h : ∀ k, k < dNb D → dSp D k < 10) (hn : dNb D ≤ 10) (m : Nat) : dYel D m < 1000 := by
  unfold dYel
  have := xSum_le (f := fun k => if dS D gn0 m k = 1 then dSp D k else 0) (b := 9) (n := dNb D) (fun i hi => by have := h i hi; split <;> omega)
  omega
theorem mBu.sp {σ : gS} {n : Nat} {kd bg sp : Nat → Nat} (h : mBu σ n kd bg sp) : ∀ k, k < n → sp k < 10 := fun k hk => (h.2.2 k hk).2.2.2.2.2
theorem s_X11_bare {d : Nat} (hd : 7 ≤ d) (σ : gS) (D : xDat) (hs : mSt σ D) : gC d 164 [.ref 0] σ (fun r τ => r = some (.int (aBare D)) ∧ mKeep σ τ) := by
  obtain ⟨d, rfl⟩ : ∃ k, d = k + 1 := ⟨d - 1, by omega⟩
  refine gC.of (P := pX11_bare) (nL := 1) (rt := (some (.int))) (lv := [some (.ref 0)]) (by decide +kernel) rfl rfl rfl (by simp [gEnt, Value.category]) rfl ?_
  refine gR.steps 1 (σ, (1, [some (.ref 0)], [.ref 0])) rfl ?_
  refine gR.call' rfl (s_X11_find (by omega) σ D hs) ?_
  rintro _ τ ⟨rfl, hk, hf⟩
  show gR _ _ _ τ (4, [some (.ref 0)], [])
  refine gR.steps 1 (τ, (5, [some (.ref 0)], [.ref 0])) rfl ?_
  refine gR.callp rfl (s_X11_bareNow (by omega) τ (dYel D) (fun m hm => ⟨(hf.2.2.1 m hm).2.1, dYel_le hf.1.sp (dNb_le D hs.1.2.1) m⟩)) ?_
  refine gR.ret rfl ?_
  exact ⟨trivial, rfl, hk⟩
theorem s_X11_run {d : Nat} (hd : 7 ≤ d) (σ : gS) (D : xDat) (hs : mSt σ D) : gC d 166 [.ref 0] σ (fun r τ => r = some (.int (aRun D)) ∧ mKeep σ τ) := by
  obtain ⟨d, rfl⟩ : ∃ k, d = k + 1 := ⟨d - 1, by omega⟩
  refine gC.of (P := pX11_run) (nL := 1) (rt := (some (.int))) (lv := [some (.ref 0)]) (by decide +kernel) rfl rfl rfl (by simp [gEnt, Value.category]) rfl ?_
  refine gR.steps 1 (σ, (1, [some (.ref 0)], [.ref 0])) rfl ?_
  refine gR.call' rfl (s_X11_find (by omega) σ D hs) ?_
  rintro _ τ ⟨rfl, hk, hf⟩
  show gR _ _ _ τ (4, [some (.ref 0)], [])
  refine gR.steps 1 (τ, (5, [some (.ref 0)], [.ref 0])) rfl ?_
  refine gR.callp rfl (s_X11_runNow (by omega) τ (fun m => dBel D none 0 (m + 1)) (dDb D) (fun m hm => ⟨hf.2.2.2 m hm, xBel_le hs.2.2.2.1.2.1 (m + 1)⟩) (hs.keep hk).2.2.2.1.2.2.1 hs.2.2.2.1.2.2.2) ?_
  refine gR.ret rfl ?_
  exact ⟨trivial, rfl, hk⟩
theorem s_X11_fakeNow {d : Nat} (hd : 3 ≤ d) (σ : gS) (nb nl : Nat) (lm lb : Nat → Nat) (S : Nat → Nat → Nat) (Q : Nat → Nat → Bool) (hB : σ 0 7 = nI nb) (hnb : nb ≤ 10) (hL : mLo σ nl lm lb) (hC : mCells σ S Q nb) : gC d 167 [.ref 0] σ (fun r τ => r = some (.int (xMask (fun i => decide (lb i < nb ∧ (S (lm i) (lb i) = 1 ∨ Q (lm i) (lb i) = true) ∧ ¬ S (lm i) (lb i) = 1)) nl)) ∧ τ = σ) := by
  obtain ⟨d, rfl⟩ : ∃ k, d = k + 1 := ⟨d - 1, by omega⟩
  refine gC.of (P := pX11_fakeNow) (nL := 5) (rt := (some (.int))) (lv := [some (.ref 0), none, none, none, none]) (by decide +kernel) rfl rfl rfl (by simp [gEnt, Value.category]) rfl ?_
  have hn12 := hL.2.1
  refine gR.steps 4 (σ, (4, [some (.ref 0), some (.int 0), some (.int 0), none, none], [])) rfl ?_
  refine gR.forget [some (.ref 0), some (.int (xMask (fun i => decide (lb i < nb ∧ (S (lm i) (lb i) = 1 ∨ Q (lm i) (lb i) = true) ∧ ¬ S (lm i) (lb i) = 1)) 0)), some (.int 0), none, none] ⟨rfl, ⟨rfl, ⟨rfl, trivial⟩⟩⟩ ?_
  refine gR.loop (α := Nat) (fun i => i ≤ nl) (fun i => nl - i) (fun i => (σ, (4, [some (.ref 0), some (.int (xMask (fun i => decide (lb i < nb ∧ (S (lm i) (lb i) = 1 ∨ Q (lm i) (lb i) = true) ∧ ¬ S (lm i) (lb i) = 1)) i)), some (.int (nI i)), none, none], []))) ?_ 0 (Nat.zero_le nl)
  rintro i hil ih
  show gR _ _ _ σ (4, [some (.ref 0), some (.int (xMask (fun i => decide (lb i < nb ∧ (S (lm i) (lb i) = 1 ∨ Q (lm i) (lb i) = true) ∧ ¬ S (lm i) (lb i) = 1)) i)), some (.int (nI i)), none, none], [])
  refine gR.steps 3 (σ, (9, [some (.ref 0), some (.int (xMask (fun i => decide (lb i < nb ∧ (S (lm i) (lb i) = 1 ∨ Q (lm i) (lb i) = true) ∧ ¬ S (lm i) (lb i) = 1)) i)), some (.int (nI i)), none, none], [.int (σ 0 9), .int (nI i)])) rfl ?_
  refine gR.topI (y := nI (nl)) hL.1 ?_
  refine gR.ifte rfl (fun zc9 => ?_) (fun zc9 => ?_)
  · rw [gN_le (x := nI nl) (y := nI i) (a := nl) (b := i) rfl rfl (by omega) (by omega)] at zc9
    refine gR.steps 1 (σ, (85, [some (.ref 0), some (.int (xMask (fun i => decide (lb i < nb ∧ (S (lm i) (lb i) = 1 ∨ Q (lm i) (lb i) = true) ∧ ¬ S (lm i) (lb i) = 1)) i)), some (.int (nI i)), none, none], [.int (xMask (fun i => decide (lb i < nb ∧ (S (lm i) (lb i) = 1 ∨ Q (lm i) (lb i) = true) ∧ ¬ S (lm i) (lb i) = 1)) i)])) rfl ?_
    refine gR.ret rfl ?_
    exact ⟨trivial, by rw [show i = nl by omega], rfl⟩
  · rw [gN_le (x := nI nl) (y := nI i) (a := nl) (b := i) rfl rfl (by omega) (by omega)] at zc9
    have hll := hL.2.2 i (by omega)
    refine gR.steps 5 (σ, (19, [some (.ref 0), some (.int (xMask (fun i => decide (lb i < nb ∧ (S (lm i) (lb i) = 1 ∨ Q (lm i) (lb i) = true) ∧ ¬ S (lm i) (lb i) = 1)) i)), some (.int (nI i)), none, none], [.int (2 * (nI i)), .ref 8])) rfl ?_
    refine gR.ald (i := 2 * (nI i)) (j := 2 * i) (N := 24) (g := σ 8) rfl (gN_mul rfl rfl) (by omega) (by omega) ?_
    refine gR.topI (y := nI (lm i)) (hL.2.2 i (by omega)).1 ?_
    refine gR.steps 8 (σ, (30, [some (.ref 0), some (.int (xMask (fun i => decide (lb i < nb ∧ (S (lm i) (lb i) = 1 ∨ Q (lm i) (lb i) = true) ∧ ¬ S (lm i) (lb i) = 1)) i)), some (.int (nI i)), some (.int (nI (lm i))), none], [.int ((2 * (nI i)) + 1), .ref 8])) rfl ?_
    refine gR.ald (i := (2 * (nI i)) + 1) (j := 2 * i + 1) (N := 24) (g := σ 8) rfl (gN_add (gN_mul rfl rfl) rfl) (by omega) (by omega) ?_
    refine gR.topI (y := nI (lb i)) (hL.2.2 i (by omega)).2.1 ?_
    refine gR.steps 4 (σ, (37, [some (.ref 0), some (.int (xMask (fun i => decide (lb i < nb ∧ (S (lm i) (lb i) = 1 ∨ Q (lm i) (lb i) = true) ∧ ¬ S (lm i) (lb i) = 1)) i)), some (.int (nI i)), some (.int (nI (lm i))), some (.int (nI (lb i)))], [.int (nI (lb i)), .ref 0, .int (xMask (fun i => decide (lb i < nb ∧ (S (lm i) (lb i) = 1 ∨ Q (lm i) (lb i) = true) ∧ ¬ S (lm i) (lb i) = 1)) i)])) rfl ?_
    refine gR.callp rfl (s_X11_isBushN (by omega) σ (lb i) nb hB (by omega) (by omega)) ?_
    refine gR.ifte rfl (fun zc40 => ?_) (fun zc40 => ?_)
    · rw [bI_eq0] at zc40
      refine gR.steps 5 (σ, (4, [some (.ref 0), some (.int ((xMask (fun i => decide (lb i < nb ∧ (S (lm i) (lb i) = 1 ∨ Q (lm i) (lb i) = true) ∧ ¬ S (lm i) (lb i) = 1)) i) ||| 0)), some (.int ((nI i) + 1)), some (.int (nI (lm i))), some (.int (nI (lb i)))], [])) rfl ?_
      refine gR.forget [some (.ref 0), some (.int (xMask (fun i => decide (lb i < nb ∧ (S (lm i) (lb i) = 1 ∨ Q (lm i) (lb i) = true) ∧ ¬ S (lm i) (lb i) = 1)) (i + 1))), some (.int (nI (i + 1))), none, none] ⟨rfl, ⟨gSomeI (xMask_f (f := (fun i => decide (lb i < nb ∧ (S (lm i) (lb i) = 1 ∨ Q (lm i) (lb i) = true) ∧ ¬ S (lm i) (lb i) = 1))) (fun z => by have z := of_decide_eq_true z; first | exact zc40 z.1 | exact zc50 z.2.1 | exact z.2.2 zc66)), ⟨gSomeI (gN_add rfl rfl), trivial⟩⟩⟩ ?_
      exact ih (i + 1) (by omega) (by omega)
    · rw [bI_eq0, Decidable.not_not] at zc40
      refine gR.steps 3 (σ, (47, [some (.ref 0), some (.int (xMask (fun i => decide (lb i < nb ∧ (S (lm i) (lb i) = 1 ∨ Q (lm i) (lb i) = true) ∧ ¬ S (lm i) (lb i) = 1)) i)), some (.int (nI i)), some (.int (nI (lm i))), some (.int (nI (lb i)))], [.int (nI (lb i)), .int (nI (lm i)), .ref 0, .int (xMask (fun i => decide (lb i < nb ∧ (S (lm i) (lb i) = 1 ∨ Q (lm i) (lb i) = true) ∧ ¬ S (lm i) (lb i) = 1)) i)])) rfl ?_
      refine gR.callp rfl (s_X11_isSeeming (by omega) σ (lm i) (lb i) (S (lm i) (lb i)) (Q (lm i) (lb i)) (hC (lm i) (by omega) (lb i) (by omega)).1 (hC (lm i) (by omega) (lb i) (by omega)).2.2 (hC (lm i) (by omega) (lb i) (by omega)).2.1 (by omega) (by omega)) ?_
      refine gR.ifte rfl (fun zc50 => ?_) (fun zc50 => ?_)
      · rw [bI_eq0] at zc50
        refine gR.steps 5 (σ, (4, [some (.ref 0), some (.int ((xMask (fun i => decide (lb i < nb ∧ (S (lm i) (lb i) = 1 ∨ Q (lm i) (lb i) = true) ∧ ¬ S (lm i) (lb i) = 1)) i) ||| 0)), some (.int ((nI i) + 1)), some (.int (nI (lm i))), some (.int (nI (lb i)))], [])) rfl ?_
        refine gR.forget [some (.ref 0), some (.int (xMask (fun i => decide (lb i < nb ∧ (S (lm i) (lb i) = 1 ∨ Q (lm i) (lb i) = true) ∧ ¬ S (lm i) (lb i) = 1)) (i + 1))), some (.int (nI (i + 1))), none, none] ⟨rfl, ⟨gSomeI (xMask_f (f := (fun i => decide (lb i < nb ∧ (S (lm i) (lb i) = 1 ∨ Q (lm i) (lb i) = true) ∧ ¬ S (lm i) (lb i) = 1))) (fun z => by have z := of_decide_eq_true z; first | exact zc40 z.1 | exact zc50 z.2.1 | exact z.2.2 zc66)), ⟨gSomeI (gN_add rfl rfl), trivial⟩⟩⟩ ?_
        exact ih (i + 1) (by omega) (by omega)
      · rw [bI_eq0, Decidable.not_not] at zc50
        have hc5 := (hC (lm i) (by omega) (lb i) (by omega)).2.2
        refine gR.steps 7 (σ, (64, [some (.ref 0), some (.int (xMask (fun i => decide (lb i < nb ∧ (S (lm i) (lb i) = 1 ∨ Q (lm i) (lb i) = true) ∧ ¬ S (lm i) (lb i) = 1)) i)), some (.int (nI i)), some (.int (nI (lm i))), some (.int (nI (lb i)))], [.int ((11 * (nI (lm i))) + (nI (lb i))), .ref 10, .int (xMask (fun i => decide (lb i < nb ∧ (S (lm i) (lb i) = 1 ∨ Q (lm i) (lb i) = true) ∧ ¬ S (lm i) (lb i) = 1)) i)])) rfl ?_
        refine gR.ald (i := (11 * (nI (lm i))) + (nI (lb i))) (j := 11 * (lm i) + lb i) (N := 264) (g := σ 10) rfl (gN_add (gN_mul rfl rfl) rfl) (by omega) (by omega) ?_
        refine gR.topI (y := nI (S (lm i) (lb i))) (hC (lm i) (by omega) (lb i) (by omega)).1 ?_
        refine gR.steps 1 (σ, (66, [some (.ref 0), some (.int (xMask (fun i => decide (lb i < nb ∧ (S (lm i) (lb i) = 1 ∨ Q (lm i) (lb i) = true) ∧ ¬ S (lm i) (lb i) = 1)) i)), some (.int (nI i)), some (.int (nI (lm i))), some (.int (nI (lb i)))], [.int 1, .int (nI (S (lm i) (lb i))), .int (xMask (fun i => decide (lb i < nb ∧ (S (lm i) (lb i) = 1 ∨ Q (lm i) (lb i) = true) ∧ ¬ S (lm i) (lb i) = 1)) i)])) rfl ?_
        refine gR.ifte rfl (fun zc66 => ?_) (fun zc66 => ?_)
        · rw [gN_eq (x := nI (S (lm i) (lb i))) (y := 1) (a := S (lm i) (lb i)) (b := 1) rfl rfl (by omega) (by omega)] at zc66
          refine gR.steps 5 (σ, (4, [some (.ref 0), some (.int ((xMask (fun i => decide (lb i < nb ∧ (S (lm i) (lb i) = 1 ∨ Q (lm i) (lb i) = true) ∧ ¬ S (lm i) (lb i) = 1)) i) ||| 0)), some (.int ((nI i) + 1)), some (.int (nI (lm i))), some (.int (nI (lb i)))], [])) rfl ?_
          refine gR.forget [some (.ref 0), some (.int (xMask (fun i => decide (lb i < nb ∧ (S (lm i) (lb i) = 1 ∨ Q (lm i) (lb i) = true) ∧ ¬ S (lm i) (lb i) = 1)) (i + 1))), some (.int (nI (i + 1))), none, none] ⟨rfl, ⟨gSomeI (xMask_f (f := (fun i => decide (lb i < nb ∧ (S (lm i) (lb i) = 1 ∨ Q (lm i) (lb i) = true) ∧ ¬ S (lm i) (lb i) = 1))) (fun z => by have z := of_decide_eq_true z; first | exact zc40 z.1 | exact zc50 z.2.1 | exact z.2.2 zc66)), ⟨gSomeI (gN_add rfl rfl), trivial⟩⟩⟩ ?_
          exact ih (i + 1) (by omega) (by omega)
        · rw [gN_eq (x := nI (S (lm i) (lb i))) (y := 1) (a := S (lm i) (lb i)) (b := 1) rfl rfl (by omega) (by omega)] at zc66
          refine gR.steps 8 (σ, (4, [some (.ref 0), some (.int ((xMask (fun i => decide (lb i < nb ∧ (S (lm i) (lb i) = 1 ∨ Q (lm i) (lb i) = true) ∧ ¬ S (lm i) (lb i) = 1)) i) ||| ((1 : Int32) <<< ((nI i) &&& 31)))), some (.int ((nI i) + 1)), some (.int (nI (lm i))), some (.int (nI (lb i)))], [])) rfl ?_
          refine gR.forget [some (.ref 0), some (.int (xMask (fun i => decide (lb i < nb ∧ (S (lm i) (lb i) = 1 ∨ Q (lm i) (lb i) = true) ∧ ¬ S (lm i) (lb i) = 1)) (i + 1))), some (.int (nI (i + 1))), none, none] ⟨rfl, ⟨gSomeI (xMask_t (f := (fun i => decide (lb i < nb ∧ (S (lm i) (lb i) = 1 ∨ Q (lm i) (lb i) = true) ∧ ¬ S (lm i) (lb i) = 1))) (decide_eq_true ⟨zc40, zc50, zc66⟩)), ⟨gSomeI (gN_add rfl rfl), trivial⟩⟩⟩ ?_
          exact ih (i + 1) (by omega) (by omega)
def aFake (D : xDat) : Int32 := xMask (fun i => decide (dLb D i < dNb D ∧ (dS D gn0 (dLm D i) (dLb D i) = 1 ∨ dQ D gn0 (dLm D i) (dLb D i) = true) ∧ ¬ dS D gn0 (dLm D i) (dLb D i) = 1)) (dNl D)
theorem mFnd.cells {τ : gS} {D : xDat} (h : mFnd τ D) : mCells τ (dS D gn0) (dQ D gn0) (dNb D) := mCells_of (σ := τ) h.2.2.1
theorem s_X11_fake {d : Nat} (hd : 7 ≤ d) (σ : gS) (D : xDat) (hs : mSt σ D) : gC d 168 [.ref 0] σ (fun r τ => r = some (.int (aFake D)) ∧ mKeep σ τ) := by
  obtain ⟨d, rfl⟩ : ∃ k, d = k + 1 := ⟨d - 1, by omega⟩
  refine gC.of (P := pX11_fake) (nL := 1) (rt := (some (.int))) (lv := [some (.ref 0)]) (by decide +kernel) rfl rfl rfl (by simp [gEnt, Value.category]) rfl ?_
  refine gR.steps 1 (σ, (1, [some (.ref 0)], [.ref 0])) rfl ?_
  refine gR.call' rfl (s_X11_find (by omega) σ D hs) ?_
  rintro _ τ ⟨rfl, hk, hf⟩
  show gR _ _ _ τ (4, [some (.ref 0)], [])
  refine gR.steps 1 (τ, (5, [some (.ref 0)], [.ref 0])) rfl ?_
  refine gR.callp rfl (s_X11_fakeNow (by omega) τ (dNb D) (dNl D) (dLm D) (dLb D) (dS D gn0) (dQ D gn0) hf.1.1 (dNb_le D hs.1.2.1) hf.2.1 hf.cells) ?_
  refine gR.ret rfl ?_
  exact ⟨trivial, rfl, hk⟩
