def xMx (g : Nat → Nat) : Nat → Nat
  | 0 => 0
  | n + 1 => if xMx g n < g n then g n else xMx g n
theorem xMx_le {g : Nat → Nat} {b : Nat} (h : ∀ j, g j ≤ b) : ∀ n, xMx g n ≤ b
  | 0 => Nat.zero_le b
  | n + 1 => by
    simp only [xMx]; split
    · exact h n
    · exact xMx_le h n
def xAs (g : Nat → Nat) : Nat → Int32 × Nat
  | 0 => (-1, 0)
  | m + 1 => if (xAs g m).1 = -1 ∨ g m < (xAs g m).2 then (nI m, g m) else xAs g m
theorem xAs_le {g : Nat → Nat} {b : Nat} (h : ∀ j, g j ≤ b) : ∀ n, (xAs g n).2 ≤ b
  | 0 => Nat.zero_le b
  | n + 1 => by
    simp only [xAs]; split
    · exact h n
    · exact xAs_le h n
def dStB (D : xDat) (k v m : Nat) : Nat := xSt (dN D) (dK D) (dM D) (dB D) gn0 (xWho false (dNb D) k) (dKd D k) v m
abbrev xBit (x : Int32) (v : Nat) : Prop := (x >>> (nI v &&& 31)) &&& 1 = 1
def dAk (D : xDat) (G : xSig) (k m j : Nat) : Nat → Nat := xSum (fun v => if xBit (dBegan D G k) v ∧ dStB D k v m = j then 1 else 0)
theorem dAk_le (D : xDat) (G : xSig) (k m j n : Nat) : dAk D G k m j n ≤ n := by
  have h := xSum_le (f := fun v => if xBit (dBegan D G k) v ∧ dStB D k v m = j then 1 else 0) (b := 1) (n := n) (fun i _ => by split <;> omega)
  unfold dAk; omega
theorem dAk_s {D : xDat} {G : xSig} {k m j v : Nat} (h : xBit (dBegan D G k) v) (hj : dStB D k v m = j) : dAk D G k m j v + 1 = dAk D G k m j (v + 1) := by
  simp only [dAk, xSum, if_pos (And.intro h hj)]
theorem dAk_n {D : xDat} {G : xSig} {k m j v : Nat} (h : ¬ (xBit (dBegan D G k) v ∧ dStB D k v m = j)) : dAk D G k m j v = dAk D G k m j (v + 1) := by
  simp only [dAk, xSum, if_neg h]; rfl
theorem mx_if {a b : Nat} (ha : a < 2147483648) (hb : b < 2147483648) : (if nI a < nI b then nI b else nI a) = nI (if a < b then b else a) := by
  by_cases h : a < b
  · rw [if_pos h, if_pos ((nI_ltI ha hb).mpr h)]
  · rw [if_neg h, if_neg (fun z => h ((nI_ltI ha hb).mp z))]
def dMost (D : xDat) (G : xSig) (k m : Nat) : Nat := xMx (fun j => dAk D G k m j 12) 5
theorem dMost_le (D : xDat) (G : xSig) (k m : Nat) : dMost D G k m ≤ 12 := xMx_le (fun j => dAk_le D G k m j 12) 5
def dAsk (D : xDat) (G : xSig) (k : Nat) : Int32 := (xAs (dMost D G k) 24).1
def aAsk (D : xDat) (G : xSig) (k : Int32) : Int32 := if 0 ≤ k.toInt ∧ k.toInt < dNb D then dAsk D G k.toNatClampNeg else -2
def mAsk (σ τ : gS) (k : Nat) : Prop := (∀ q, q ≠ 7 → q ≠ 16 → τ q = σ q) ∧ ∀ j, j ≠ 3 * k + 1 → τ 7 j = σ 7 j
theorem mBu_bg2 {σ τ : gS} {nb k v : Nat} {kd bg sp : Nat → Nat} {x : Int32} (h : mAsk σ τ k) (hB : mBu σ nb kd bg sp) (hk : k < nb) (hv : v < 12) (hx : x = nI v) : mBu (gUp τ 7 (3 * k + 1) x) nb kd (xPut bg k v) sp := by
  refine ⟨by rw [gUp_o (by omega), h.1 0 (by decide) (by decide)]; exact hB.1, hB.2.1, fun i hi => ?_⟩
  have hb := hB.2.2 i hi
  unfold xPut
  refine ⟨by rw [gUp_o (by omega), h.2 _ (by omega)]; exact hb.1, ?_, by rw [gUp_o (by omega), h.2 _ (by omega)]; exact hb.2.2.1, hb.2.2.2.1, ?_, hb.2.2.2.2.2⟩
  · by_cases hik : i = k
    · subst hik; rw [if_pos rfl, gUp_s]; exact hx
    · rw [if_neg hik, gUp_o (by omega), h.2 _ (by omega)]; exact hb.2.1
  · split
    · exact hv
    · exact hb.2.2.2.2.1
/-- the counts, while month m of begin v is reckoned -/
def mAkR (υ : gS) (D : xDat) (G : xSig) (k v m : Nat) : Prop := ∀ m2, m2 < 24 → ∀ j, j < 5 → υ 16 (5 * m2 + j) = nI (dAk D G k m2 j (if m2 < m then v + 1 else v))
theorem mAkR_0 {υ : gS} {D : xDat} {G : xSig} {k v : Nat} (h : ∀ m, m < 24 → ∀ j, j < 5 → υ 16 (5 * m + j) = nI (dAk D G k m j v)) : mAkR υ D G k v 0 := fun m2 h2 j hj => by rw [if_neg (Nat.not_lt_zero m2)]; exact h m2 h2 j hj
theorem mAkR_up {υ : gS} {D : xDat} {G : xSig} {k v m : Nat} {x : Int32} (h : mAkR υ D G k v m) (hm : m < 24) (hS : dStB D k v m < 5) (hx : x = nI (dAk D G k m (dStB D k v m) (v + 1))) : mAkR (gUp υ 16 (5 * m + dStB D k v m) x) D G k v (m + 1) := fun m2 h2 j hj => by
  by_cases hmm : m2 = m
  · subst hmm
    rw [if_pos (by omega)]
    by_cases hjj : j = dStB D k v m2
    · rw [← hjj] at hx ⊢; rw [gUp_s]; exact hx
    · rw [gUp_o (by omega), h m2 h2 j hj, if_neg (by omega)]
      exact congrArg nI (dAk_n (fun z => hjj z.2.symm))
  · rw [gUp_o (by omega), h m2 h2 j hj]
    by_cases hlt : m2 < m
    · rw [if_pos hlt, if_pos (by omega)]
    · rw [if_neg hlt, if_neg (by omega)]
theorem mAll.put {σ : gS} {D : xDat} {G : xSig} (h : mAll σ D G) : mEv σ (dN D) (dK D) (dM D) (dB D) ∧ mBu σ (dNb D) (dKd D) (dBg D) (dSp D) := ⟨h.1.2.2.1, h.2.1.1⟩
theorem s_X11_askOf {d : Nat} (hd : 6 ≤ d) (σ : gS) (D : xDat) (G : xSig) (k : Nat) (hAll : mAll σ D G) (hk : k < dNb D) : gC d 189 [.ref 0, .int (nI k)] σ (fun r τ => r = some (.int (dAsk D G k)) ∧ ∀ q, q ≠ 16 → τ q = σ q) := by
  obtain ⟨d, rfl⟩ : ∃ k, d = k + 1 := ⟨d - 1, by omega⟩
  refine gC.of (P := pX11_askOf) (nL := 9) (rt := (some (.int))) (lv := [some (.ref 0), some (.int (nI k)), none, none, none, none, none, none, none]) (by decide +kernel) rfl rfl rfl (by simp [gEnt, Value.category]) rfl ?_
  have hnb := dNb_le D hAll.1.1.2.1
  have hbgk := (hAll.2.1.1.2.2 k hk).2.2.2.2.1
  refine gR.steps 2 (σ, (2, [some (.ref 0), some (.int (nI k)), none, none, none, none, none, none, none], [.int (nI k), .ref 0])) rfl ?_
  refine gR.callp rfl (s_X11_began (by omega) σ D G k hAll hk) ?_
  refine gR.steps 8 (σ, (15, [some (.ref 0), some (.int (nI k)), some (.int (dBegan D G k)), none, none, none, none, none, none], [.int ((3 * (nI k)) + 1), .ref 7])) rfl ?_
  refine gR.ald (i := (3 * (nI k)) + 1) (j := 3 * k + 1) (N := 33) (g := σ 7) rfl (gN_add (gN_mul rfl rfl) rfl) (by omega) (by omega) ?_
  refine gR.topI (y := nI (dBg D k)) (hAll.2.1.1.2.2 k hk).2.1 ?_
  refine gR.steps 3 (σ, (20, [some (.ref 0), some (.int (nI k)), some (.int (dBegan D G k)), some (.int (nI (dBg D k))), some (.int 0), none, none, none, none], [])) rfl ?_
  refine gR.forget [some (.ref 0), some (.int (nI k)), some (.int (dBegan D G k)), some (.int (nI (dBg D k))), some (.int 0), none, none, none, none] ⟨rfl, ⟨rfl, ⟨rfl, ⟨rfl, ⟨rfl, trivial⟩⟩⟩⟩⟩ ?_
  refine gR.loop (α := Nat × gS) (fun ⟨i, τ⟩ => i ≤ 120 ∧ (∀ q, q ≠ 16 → τ q = σ q) ∧ ∀ j, j < i → τ 16 j = 0) (fun ⟨i, τ⟩ => 120 - i) (fun ⟨i, τ⟩ => (τ, (20, [some (.ref 0), some (.int (nI k)), some (.int (dBegan D G k)), some (.int (nI (dBg D k))), some (.int (nI i)), none, none, none, none], []))) ?_ ⟨0, σ⟩ ⟨Nat.zero_le 120, fun _ _ => rfl, fun j hj => absurd hj (Nat.not_lt_zero j)⟩
  rintro ⟨i, τ⟩ ⟨hi, h1, h2⟩ ih
  show gR _ _ _ τ (20, [some (.ref 0), some (.int (nI k)), some (.int (dBegan D G k)), some (.int (nI (dBg D k))), some (.int (nI i)), none, none, none, none], [])
  refine gR.steps 2 (τ, (24, [some (.ref 0), some (.int (nI k)), some (.int (dBegan D G k)), some (.int (nI (dBg D k))), some (.int (nI i)), none, none, none, none], [.int 120, .int (nI i)])) rfl ?_
  refine gR.ifte rfl (fun zc24 => ?_) (fun zc24 => ?_)
  · rw [gN_le (x := 120) (y := nI i) (a := 120) (b := i) rfl rfl (by omega) (by omega)] at zc24
    refine gR.steps 2 (τ, (44, [some (.ref 0), some (.int (nI k)), some (.int (dBegan D G k)), some (.int (nI (dBg D k))), some (.int 0), none, none, none, none], [])) rfl ?_
    refine gR.forget [some (.ref 0), some (.int (nI k)), some (.int (dBegan D G k)), some (.int (nI (dBg D k))), some (.int 0), none, none, none, none] ⟨rfl, ⟨rfl, ⟨rfl, ⟨rfl, ⟨rfl, trivial⟩⟩⟩⟩⟩ ?_
    refine gR.loop (α := Nat × gS) (fun ⟨v, ρ⟩ => v ≤ 12 ∧ mAsk σ ρ k ∧ ∀ m, m < 24 → ∀ j, j < 5 → ρ 16 (5 * m + j) = nI (dAk D G k m j v)) (fun ⟨v, ρ⟩ => 12 - v) (fun ⟨v, ρ⟩ => (ρ, (44, [some (.ref 0), some (.int (nI k)), some (.int (dBegan D G k)), some (.int (nI (dBg D k))), some (.int (nI v)), none, none, none, none], []))) ?_ ⟨0, τ⟩ ⟨Nat.zero_le 12, ⟨fun q a b => h1 q b, fun j _ => by rw [h1 7 (by decide)]⟩, fun m hm j hj => h2 _ (by omega)⟩
    rintro ⟨v, ρ⟩ ⟨hv, hA, hK⟩ ih2
    show gR _ _ _ ρ (44, [some (.ref 0), some (.int (nI k)), some (.int (dBegan D G k)), some (.int (nI (dBg D k))), some (.int (nI v)), none, none, none, none], [])
    refine gR.steps 2 (ρ, (48, [some (.ref 0), some (.int (nI k)), some (.int (dBegan D G k)), some (.int (nI (dBg D k))), some (.int (nI v)), none, none, none, none], [.int 12, .int (nI v)])) rfl ?_
    refine gR.ifte rfl (fun zc48 => ?_) (fun zc48 => ?_)
    · rw [gN_le (x := 12) (y := nI v) (a := 12) (b := v) rfl rfl (by omega) (by omega)] at zc48
      refine gR.steps 8 (ρ, (129, [some (.ref 0), some (.int (nI k)), some (.int (dBegan D G k)), some (.int (nI (dBg D k))), some (.int (nI v)), none, none, none, none], [.int (nI (dBg D k)), .int ((3 * (nI k)) + 1), .ref 7])) rfl ?_
      refine gR.ast (i := (3 * (nI k)) + 1) (j := 3 * k + 1) (N := 33) (q := 7) (x := nI (dBg D k)) rfl (gN_add (gN_mul rfl rfl) rfl) (by omega) (by omega) ?_
      refine gR.steps 6 (gUp ρ 7 (3 * k + 1) (nI (dBg D k)), (139, [some (.ref 0), some (.int (nI k)), some (.int (dBegan D G k)), some (.int (nI (dBg D k))), some (.int (-1)), some (.int 0), some (.int 0), none, none], [])) rfl ?_
      refine gR.forget [some (.ref 0), some (.int (nI k)), some (.int (dBegan D G k)), some (.int (nI (dBg D k))), some (.int (xAs (dMost D G k) 0).1), some (.int (nI (xAs (dMost D G k) 0).2)), some (.int 0), none, none] ⟨rfl, ⟨rfl, ⟨rfl, ⟨rfl, ⟨rfl, ⟨rfl, ⟨rfl, trivial⟩⟩⟩⟩⟩⟩⟩ ?_
      refine gR.loop (α := Nat) (fun m => m ≤ 24) (fun m => 24 - m) (fun m => (gUp ρ 7 (3 * k + 1) (nI (dBg D k)), (139, [some (.ref 0), some (.int (nI k)), some (.int (dBegan D G k)), some (.int (nI (dBg D k))), some (.int ((xAs (dMost D G k) m).1)), some (.int (nI ((xAs (dMost D G k) m).2))), some (.int (nI m)), none, none], []))) ?_ 0 (Nat.zero_le 24)
      rintro m hm ih4
      show gR _ _ _ (gUp ρ 7 (3 * k + 1) (nI (dBg D k))) (139, [some (.ref 0), some (.int (nI k)), some (.int (dBegan D G k)), some (.int (nI (dBg D k))), some (.int ((xAs (dMost D G k) m).1)), some (.int (nI ((xAs (dMost D G k) m).2))), some (.int (nI m)), none, none], [])
      have hl2 := xAs_le (dMost_le D G k) m
      have hl3 := dMost_le D G k m
      refine gR.steps 2 (gUp ρ 7 (3 * k + 1) (nI (dBg D k)), (143, [some (.ref 0), some (.int (nI k)), some (.int (dBegan D G k)), some (.int (nI (dBg D k))), some (.int ((xAs (dMost D G k) m).1)), some (.int (nI ((xAs (dMost D G k) m).2))), some (.int (nI m)), none, none], [.int 24, .int (nI m)])) rfl ?_
      refine gR.ifte rfl (fun zc143 => ?_) (fun zc143 => ?_)
      · rw [gN_le (x := 24) (y := nI m) (a := 24) (b := m) rfl rfl (by omega) (by omega)] at zc143
        refine gR.steps 1 (gUp ρ 7 (3 * k + 1) (nI (dBg D k)), (239, [some (.ref 0), some (.int (nI k)), some (.int (dBegan D G k)), some (.int (nI (dBg D k))), some (.int ((xAs (dMost D G k) m).1)), some (.int (nI ((xAs (dMost D G k) m).2))), some (.int (nI m)), none, none], [.int ((xAs (dMost D G k) m).1)])) rfl ?_
        show gR _ _ _ (gUp ρ 7 (3 * k + 1) (nI (dBg D k))) (239, [some (.ref 0), some (.int (nI k)), some (.int (dBegan D G k)), some (.int (nI (dBg D k))), some (.int ((xAs (dMost D G k) m).1)), some (.int (nI ((xAs (dMost D G k) m).2))), some (.int (nI m)), none, none], [.int ((xAs (dMost D G k) m).1)])
        refine gR.ret rfl ?_
        exact ⟨trivial, by rw [show m = 24 by omega]; rfl, fun q hq => by
          by_cases h7 : q = 7
          · subst h7
            funext j
            by_cases hj : j = 3 * k + 1
            · rw [hj, gUp_s]; exact (hAll.2.1.1.2.2 k hk).2.1.symm
            · rw [gUp_o (by omega)]; exact hA.2 j hj
          · rw [gUp_ne h7]; exact hA.1 q h7 hq⟩
      · rw [gN_le (x := 24) (y := nI m) (a := 24) (b := m) rfl rfl (by omega) (by omega)] at zc143
        refine gR.steps 4 (gUp ρ 7 (3 * k + 1) (nI (dBg D k)), (152, [some (.ref 0), some (.int (nI k)), some (.int (dBegan D G k)), some (.int (nI (dBg D k))), some (.int ((xAs (dMost D G k) m).1)), some (.int (nI ((xAs (dMost D G k) m).2))), some (.int (nI m)), some (.int 0), some (.int 0)], [])) rfl ?_
        refine gR.forget [some (.ref 0), some (.int (nI k)), some (.int (dBegan D G k)), some (.int (nI (dBg D k))), some (.int ((xAs (dMost D G k) m).1)), some (.int (nI ((xAs (dMost D G k) m).2))), some (.int (nI m)), some (.int (nI (xMx (fun j => dAk D G k m j 12) 0))), some (.int 0)] ⟨rfl, ⟨rfl, ⟨rfl, ⟨rfl, ⟨rfl, ⟨rfl, ⟨rfl, ⟨rfl, ⟨rfl, trivial⟩⟩⟩⟩⟩⟩⟩⟩⟩ ?_
        refine gR.loop (α := Nat) (fun j => j ≤ 5) (fun j => 5 - j) (fun j => (gUp ρ 7 (3 * k + 1) (nI (dBg D k)), (152, [some (.ref 0), some (.int (nI k)), some (.int (dBegan D G k)), some (.int (nI (dBg D k))), some (.int ((xAs (dMost D G k) m).1)), some (.int (nI ((xAs (dMost D G k) m).2))), some (.int (nI m)), some (.int (nI (xMx (fun j => dAk D G k m j 12) j))), some (.int (nI j))], []))) ?_ 0 (Nat.zero_le 5)
        rintro j hj ih5
        show gR _ _ _ (gUp ρ 7 (3 * k + 1) (nI (dBg D k))) (152, [some (.ref 0), some (.int (nI k)), some (.int (dBegan D G k)), some (.int (nI (dBg D k))), some (.int ((xAs (dMost D G k) m).1)), some (.int (nI ((xAs (dMost D G k) m).2))), some (.int (nI m)), some (.int (nI (xMx (fun j => dAk D G k m j 12) j))), some (.int (nI j))], [])
        refine gR.steps 2 (gUp ρ 7 (3 * k + 1) (nI (dBg D k)), (155, [some (.ref 0), some (.int (nI k)), some (.int (dBegan D G k)), some (.int (nI (dBg D k))), some (.int ((xAs (dMost D G k) m).1)), some (.int (nI ((xAs (dMost D G k) m).2))), some (.int (nI m)), some (.int (nI (xMx (fun j => dAk D G k m j 12) j))), some (.int (nI j))], [.int 5, .int (nI j)])) rfl ?_
        refine gR.ifte rfl (fun zc155 => ?_) (fun zc155 => ?_)
        · rw [gN_le (x := 5) (y := nI j) (a := 5) (b := j) rfl rfl (by omega) (by omega)] at zc155
          have hmo : xMx (fun j => dAk D G k m j 12) j = dMost D G k m := by rw [show j = 5 by omega]; rfl
          have hmx : xMx (fun j => dAk D G k m j 12) j ≤ 12 := by omega
          refine gR.steps 2 (gUp ρ 7 (3 * k + 1) (nI (dBg D k)), (186, [some (.ref 0), some (.int (nI k)), some (.int (dBegan D G k)), some (.int (nI (dBg D k))), some (.int ((xAs (dMost D G k) m).1)), some (.int (nI ((xAs (dMost D G k) m).2))), some (.int (nI m)), some (.int (nI (xMx (fun j => dAk D G k m j 12) j))), some (.int (nI j))], [.int (-1), .int ((xAs (dMost D G k) m).1)])) rfl ?_
          refine gR.ifte rfl (fun zc186 => ?_) (fun zc186 => ?_)
          · refine gR.steps 4 (gUp ρ 7 (3 * k + 1) (nI (dBg D k)), (205, [some (.ref 0), some (.int (nI k)), some (.int (dBegan D G k)), some (.int (nI (dBg D k))), some (.int ((xAs (dMost D G k) m).1)), some (.int (nI ((xAs (dMost D G k) m).2))), some (.int (nI m)), some (.int (nI (xMx (fun j => dAk D G k m j 12) j))), some (.int 1)], [.int 1])) rfl ?_
            refine gR.brF rfl (by decide) ?_
            refine gR.steps 4 (gUp ρ 7 (3 * k + 1) (nI (dBg D k)), (219, [some (.ref 0), some (.int (nI k)), some (.int (dBegan D G k)), some (.int (nI (dBg D k))), some (.int (nI m)), some (.int (nI ((xAs (dMost D G k) m).2))), some (.int (nI m)), some (.int (nI (xMx (fun j => dAk D G k m j 12) j))), some (.int 1)], [.int 1])) rfl ?_
            refine gR.brF rfl (by decide) ?_
            refine gR.steps 5 (gUp ρ 7 (3 * k + 1) (nI (dBg D k)), (139, [some (.ref 0), some (.int (nI k)), some (.int (dBegan D G k)), some (.int (nI (dBg D k))), some (.int (nI m)), some (.int (nI (xMx (fun j => dAk D G k m j 12) j))), some (.int ((nI m) + 1)), some (.int (nI (xMx (fun j => dAk D G k m j 12) j))), some (.int 1)], [])) rfl ?_
            refine gR.forget [some (.ref 0), some (.int (nI k)), some (.int (dBegan D G k)), some (.int (nI (dBg D k))), some (.int ((xAs (dMost D G k) (m + 1)).1)), some (.int (nI ((xAs (dMost D G k) (m + 1)).2))), some (.int (nI (m + 1))), none, none] ⟨rfl, ⟨rfl, ⟨rfl, ⟨rfl, ⟨gSomeI (congrArg Prod.fst (show xAs (dMost D G k) (m + 1) = (nI m, dMost D G k m) from if_pos (Or.inl zc186))).symm, ⟨gSomeI (congrArg nI (hmo.trans (congrArg Prod.snd (show xAs (dMost D G k) (m + 1) = (nI m, dMost D G k m) from if_pos (Or.inl zc186))).symm)), ⟨gSomeI (gN_add rfl rfl), trivial⟩⟩⟩⟩⟩⟩⟩ ?_
            exact ih4 (m + 1) (by omega) (by omega)
          · refine gR.steps 2 (gUp ρ 7 (3 * k + 1) (nI (dBg D k)), (193, [some (.ref 0), some (.int (nI k)), some (.int (dBegan D G k)), some (.int (nI (dBg D k))), some (.int ((xAs (dMost D G k) m).1)), some (.int (nI ((xAs (dMost D G k) m).2))), some (.int (nI m)), some (.int (nI (xMx (fun j => dAk D G k m j 12) j))), some (.int (nI j))], [.int (nI ((xAs (dMost D G k) m).2)), .int (nI (xMx (fun j => dAk D G k m j 12) j))])) rfl ?_
            refine gR.ifte rfl (fun zc193 => ?_) (fun zc193 => ?_)
            · rw [gN_le (x := nI ((xAs (dMost D G k) m).2)) (y := nI (xMx (fun j => dAk D G k m j 12) j)) (a := (xAs (dMost D G k) m).2) (b := xMx (fun j => dAk D G k m j 12) j) rfl rfl (by omega) (by omega)] at zc193
              refine gR.steps 3 (gUp ρ 7 (3 * k + 1) (nI (dBg D k)), (205, [some (.ref 0), some (.int (nI k)), some (.int (dBegan D G k)), some (.int (nI (dBg D k))), some (.int ((xAs (dMost D G k) m).1)), some (.int (nI ((xAs (dMost D G k) m).2))), some (.int (nI m)), some (.int (nI (xMx (fun j => dAk D G k m j 12) j))), some (.int 0)], [.int 0])) rfl ?_
              refine gR.brT rfl (by decide) ?_
              refine gR.steps 3 (gUp ρ 7 (3 * k + 1) (nI (dBg D k)), (219, [some (.ref 0), some (.int (nI k)), some (.int (dBegan D G k)), some (.int (nI (dBg D k))), some (.int ((xAs (dMost D G k) m).1)), some (.int (nI ((xAs (dMost D G k) m).2))), some (.int (nI m)), some (.int (nI (xMx (fun j => dAk D G k m j 12) j))), some (.int 0)], [.int 0])) rfl ?_
              refine gR.brT rfl (by decide) ?_
              refine gR.steps 4 (gUp ρ 7 (3 * k + 1) (nI (dBg D k)), (139, [some (.ref 0), some (.int (nI k)), some (.int (dBegan D G k)), some (.int (nI (dBg D k))), some (.int ((xAs (dMost D G k) m).1)), some (.int (nI ((xAs (dMost D G k) m).2))), some (.int ((nI m) + 1)), some (.int (nI (xMx (fun j => dAk D G k m j 12) j))), some (.int 0)], [])) rfl ?_
              refine gR.forget [some (.ref 0), some (.int (nI k)), some (.int (dBegan D G k)), some (.int (nI (dBg D k))), some (.int ((xAs (dMost D G k) (m + 1)).1)), some (.int (nI ((xAs (dMost D G k) (m + 1)).2))), some (.int (nI (m + 1))), none, none] ⟨rfl, ⟨rfl, ⟨rfl, ⟨rfl, ⟨gSomeI (congrArg Prod.fst (show xAs (dMost D G k) (m + 1) = xAs (dMost D G k) m from if_neg (fun z => z.elim zc186 (fun y => absurd y (Nat.not_lt.mpr (hmo ▸ zc193)))))).symm, ⟨gSomeI (congrArg nI (congrArg Prod.snd (show xAs (dMost D G k) (m + 1) = xAs (dMost D G k) m from if_neg (fun z => z.elim zc186 (fun y => absurd y (Nat.not_lt.mpr (hmo ▸ zc193)))))).symm), ⟨gSomeI (gN_add rfl rfl), trivial⟩⟩⟩⟩⟩⟩⟩ ?_
              exact ih4 (m + 1) (by omega) (by omega)
            · rw [gN_le (x := nI ((xAs (dMost D G k) m).2)) (y := nI (xMx (fun j => dAk D G k m j 12) j)) (a := (xAs (dMost D G k) m).2) (b := xMx (fun j => dAk D G k m j 12) j) rfl rfl (by omega) (by omega)] at zc193
              refine gR.steps 4 (gUp ρ 7 (3 * k + 1) (nI (dBg D k)), (205, [some (.ref 0), some (.int (nI k)), some (.int (dBegan D G k)), some (.int (nI (dBg D k))), some (.int ((xAs (dMost D G k) m).1)), some (.int (nI ((xAs (dMost D G k) m).2))), some (.int (nI m)), some (.int (nI (xMx (fun j => dAk D G k m j 12) j))), some (.int 1)], [.int 1])) rfl ?_
              refine gR.brF rfl (by decide) ?_
              refine gR.steps 4 (gUp ρ 7 (3 * k + 1) (nI (dBg D k)), (219, [some (.ref 0), some (.int (nI k)), some (.int (dBegan D G k)), some (.int (nI (dBg D k))), some (.int (nI m)), some (.int (nI ((xAs (dMost D G k) m).2))), some (.int (nI m)), some (.int (nI (xMx (fun j => dAk D G k m j 12) j))), some (.int 1)], [.int 1])) rfl ?_
              refine gR.brF rfl (by decide) ?_
              refine gR.steps 5 (gUp ρ 7 (3 * k + 1) (nI (dBg D k)), (139, [some (.ref 0), some (.int (nI k)), some (.int (dBegan D G k)), some (.int (nI (dBg D k))), some (.int (nI m)), some (.int (nI (xMx (fun j => dAk D G k m j 12) j))), some (.int ((nI m) + 1)), some (.int (nI (xMx (fun j => dAk D G k m j 12) j))), some (.int 1)], [])) rfl ?_
              refine gR.forget [some (.ref 0), some (.int (nI k)), some (.int (dBegan D G k)), some (.int (nI (dBg D k))), some (.int ((xAs (dMost D G k) (m + 1)).1)), some (.int (nI ((xAs (dMost D G k) (m + 1)).2))), some (.int (nI (m + 1))), none, none] ⟨rfl, ⟨rfl, ⟨rfl, ⟨rfl, ⟨gSomeI (congrArg Prod.fst (show xAs (dMost D G k) (m + 1) = (nI m, dMost D G k m) from if_pos (Or.inr (hmo ▸ (Nat.not_le.mp zc193))))).symm, ⟨gSomeI (congrArg nI (hmo.trans (congrArg Prod.snd (show xAs (dMost D G k) (m + 1) = (nI m, dMost D G k m) from if_pos (Or.inr (hmo ▸ (Nat.not_le.mp zc193))))).symm)), ⟨gSomeI (gN_add rfl rfl), trivial⟩⟩⟩⟩⟩⟩⟩ ?_
              exact ih4 (m + 1) (by omega) (by omega)
        · rw [gN_le (x := 5) (y := nI j) (a := 5) (b := j) rfl rfl (by omega) (by omega)] at zc155
          refine gR.steps 7 (gUp ρ 7 (3 * k + 1) (nI (dBg D k)), (169, [some (.ref 0), some (.int (nI k)), some (.int (dBegan D G k)), some (.int (nI (dBg D k))), some (.int ((xAs (dMost D G k) m).1)), some (.int (nI ((xAs (dMost D G k) m).2))), some (.int (nI m)), some (.int (nI (xMx (fun j => dAk D G k m j 12) j))), some (.int (nI j))], [.int ((5 * (nI m)) + (nI j)), .ref 16])) rfl ?_
          refine gR.ald (i := (5 * (nI m)) + (nI j)) (j := 5 * m + j) (N := 120) (g := (gUp ρ 7 (3 * k + 1) (nI (dBg D k))) 16) rfl (gN_add (gN_mul rfl rfl) rfl) (by omega) (by omega) ?_
          refine gR.topI (y := ρ 16 (5 * m + j)) (by rw [gUp_o (by omega)]) ?_
          refine gR.topI (y := nI (dAk D G k m j 12)) ((show v = 12 by omega) ▸ hK m (by omega) j (by omega)) ?_
          refine gR.steps 1 (gUp ρ 7 (3 * k + 1) (nI (dBg D k)), (172, [some (.ref 0), some (.int (nI k)), some (.int (dBegan D G k)), some (.int (nI (dBg D k))), some (.int ((xAs (dMost D G k) m).1)), some (.int (nI ((xAs (dMost D G k) m).2))), some (.int (nI m)), some (.int (nI (xMx (fun j => dAk D G k m j 12) j))), some (.int (nI j))], [.int (nI (xMx (fun j => dAk D G k m j 12) j)), .int (nI (dAk D G k m j 12))])) rfl ?_
          have hl4 := dAk_le D G k m j 12
          have hl5 := xMx_le (g := fun j => dAk D G k m j 12) (fun j => dAk_le D G k m j 12) j
          refine gR.callp (x := .int (nI (xMx (fun j => dAk D G k m j 12) (j + 1)))) rfl ((s_X11_greater (by omega) (gUp ρ 7 (3 * k + 1) (nI (dBg D k))) (nI (dAk D G k m j 12)) (nI (xMx (fun j => dAk D G k m j 12) j))).mono (fun r τ h => ⟨by rw [h.1, mx_if (by omega) (by omega)]; rfl, h.2⟩)) ?_
          refine gR.steps 3 (gUp ρ 7 (3 * k + 1) (nI (dBg D k)), (152, [some (.ref 0), some (.int (nI k)), some (.int (dBegan D G k)), some (.int (nI (dBg D k))), some (.int ((xAs (dMost D G k) m).1)), some (.int (nI ((xAs (dMost D G k) m).2))), some (.int (nI m)), some (.int (nI (xMx (fun j => dAk D G k m j 12) (j + 1)))), some (.int ((nI j) + 1))], [])) rfl ?_
          refine gR.forget [some (.ref 0), some (.int (nI k)), some (.int (dBegan D G k)), some (.int (nI (dBg D k))), some (.int ((xAs (dMost D G k) m).1)), some (.int (nI ((xAs (dMost D G k) m).2))), some (.int (nI m)), some (.int (nI (xMx (fun j => dAk D G k m j 12) (j + 1)))), some (.int (nI (j + 1)))] ⟨rfl, ⟨rfl, ⟨rfl, ⟨rfl, ⟨rfl, ⟨rfl, ⟨rfl, ⟨rfl, ⟨gSomeI (gN_add rfl rfl), trivial⟩⟩⟩⟩⟩⟩⟩⟩⟩ ?_
          exact ih5 (j + 1) (by omega) (by omega)
    · rw [gN_le (x := 12) (y := nI v) (a := 12) (b := v) rfl rfl (by omega) (by omega)] at zc48
      refine gR.steps 8 (ρ, (62, [some (.ref 0), some (.int (nI k)), some (.int (dBegan D G k)), some (.int (nI (dBg D k))), some (.int (nI v)), none, none, none, none], [.int (nI v), .int ((3 * (nI k)) + 1), .ref 7])) rfl ?_
      refine gR.ast (i := (3 * (nI k)) + 1) (j := 3 * k + 1) (N := 33) (q := 7) (x := nI v) rfl (gN_add (gN_mul rfl rfl) rfl) (by omega) (by omega) ?_
      refine gR.steps 2 (gUp ρ 7 (3 * k + 1) (nI v), (66, [some (.ref 0), some (.int (nI k)), some (.int (dBegan D G k)), some (.int (nI (dBg D k))), some (.int (nI v)), some (.int 0), none, none, none], [])) rfl ?_
      refine gR.forget [some (.ref 0), some (.int (nI k)), some (.int (dBegan D G k)), some (.int (nI (dBg D k))), some (.int (nI v)), some (.int 0), none, none, none] ⟨rfl, ⟨rfl, ⟨rfl, ⟨rfl, ⟨rfl, ⟨rfl, trivial⟩⟩⟩⟩⟩⟩ ?_
      refine gR.loop (α := Nat × gS) (fun ⟨m, υ⟩ => m ≤ 24 ∧ (∀ q, q ≠ 16 → υ q = gUp ρ 7 (3 * k + 1) (nI v) q) ∧ mAkR υ D G k v m) (fun ⟨m, υ⟩ => 24 - m) (fun ⟨m, υ⟩ => (υ, (66, [some (.ref 0), some (.int (nI k)), some (.int (dBegan D G k)), some (.int (nI (dBg D k))), some (.int (nI v)), some (.int (nI m)), none, none, none], []))) ?_ ⟨0, _⟩ ⟨Nat.zero_le 24, fun _ _ => rfl, mAkR_0 (fun m hm j hj => by rw [gUp_o (by omega)]; exact hK m hm j hj)⟩
      rintro ⟨m, υ⟩ ⟨hm, h4, h5⟩ ih3
      show gR _ _ _ υ (66, [some (.ref 0), some (.int (nI k)), some (.int (dBegan D G k)), some (.int (nI (dBg D k))), some (.int (nI v)), some (.int (nI m)), none, none, none], [])
      refine gR.steps 2 (υ, (70, [some (.ref 0), some (.int (nI k)), some (.int (dBegan D G k)), some (.int (nI (dBg D k))), some (.int (nI v)), some (.int (nI m)), none, none, none], [.int 24, .int (nI m)])) rfl ?_
      refine gR.ifte rfl (fun zc70 => ?_) (fun zc70 => ?_)
      · rw [gN_le (x := 24) (y := nI m) (a := 24) (b := m) rfl rfl (by omega) (by omega)] at zc70
        refine gR.steps 2 (υ, (44, [some (.ref 0), some (.int (nI k)), some (.int (dBegan D G k)), some (.int (nI (dBg D k))), some (.int ((nI v) + 1)), some (.int (nI m)), none, none, none], [])) rfl ?_
        refine gR.forget [some (.ref 0), some (.int (nI k)), some (.int (dBegan D G k)), some (.int (nI (dBg D k))), some (.int (nI (v + 1))), none, none, none, none] ⟨rfl, ⟨rfl, ⟨rfl, ⟨rfl, ⟨gSomeI (gN_add rfl rfl), trivial⟩⟩⟩⟩⟩ ?_
        exact ih2 ⟨v + 1, _⟩ ⟨by omega, ⟨fun q a b => (h4 q b).trans ((gUp_ne a).trans (hA.1 q a b)), fun j hj => by rw [h4 7 (by decide), gUp_o (by omega)]; exact hA.2 j hj⟩, fun m2 h2 j hj => by rw [h5 m2 h2 j hj, if_pos (by omega)]⟩ (by dsimp only; omega)
      · rw [gN_le (x := 24) (y := nI m) (a := 24) (b := m) rfl rfl (by omega) (by omega)] at zc70
        refine gR.steps 8 (υ, (85, [some (.ref 0), some (.int (nI k)), some (.int (dBegan D G k)), some (.int (nI (dBg D k))), some (.int (nI v)), some (.int (nI m)), none, none, none], [.int (nI k), .int (nI m), .ref 0, .int (5 * (nI m)), .ref 16])) rfl ?_
        have h40 : υ 0 = σ 0 := (h4 0 (by decide)).trans ((gUp_ne (by decide)).trans (hA.1 0 (by decide) (by decide)))
        have h49 : υ 9 = σ 9 := (h4 9 (by decide)).trans ((gUp_ne (by decide)).trans (hA.1 9 (by decide) (by decide)))
        have hS5 : dStB D k v m < 5 := xSt_lt _ _ _ _ _ _ _ _ _
        refine gR.callp (x := .int (nI (dStB D k v m))) rfl ((s_X11_stateOf (by omega) υ (dN D) (dK D) (dM D) (dB D) gn0 false (dNb D) (dKd D) (xPut (dBg D) k v) (dSp D) m k (mEv_of h40 h49 hAll.1.2.2.1) (mBu_of (h4 0 (by decide)) (h4 7 (by decide)) (mBu_bg2 hA hAll.2.1.1 hk (by omega) rfl)) (mGone_0 (by rw [h40]; exact hAll.1.2.2.2.2.1)) (by rw [h40]; exact hAll.1.2.2.2.2.2.1) (by omega) hk).mono (fun r τ h => ⟨by rw [h.1]; unfold dStB; rw [show xPut (dBg D) k v k = v from if_pos rfl], h.2⟩)) ?_
        refine gR.steps 2 (υ, (90, [some (.ref 0), some (.int (nI k)), some (.int (dBegan D G k)), some (.int (nI (dBg D k))), some (.int (nI v)), some (.int (nI m)), none, none, none], [.int ((5 * (nI m)) + (nI (dStB D k v m))), .ref 16, .int ((5 * (nI m)) + (nI (dStB D k v m))), .ref 16])) rfl ?_
        refine gR.ald (i := (5 * (nI m)) + (nI (dStB D k v m))) (j := 5 * m + dStB D k v m) (N := 120) (g := υ 16) rfl (gN_add (gN_mul rfl rfl) rfl) (by omega) (by omega) ?_
        refine gR.topI (y := nI (dAk D G k m (dStB D k v m) v)) (by rw [h5 m (by omega) _ hS5, if_neg (by omega)]) ?_
        refine gR.steps 2 (υ, (94, [some (.ref 0), some (.int (nI k)), some (.int (dBegan D G k)), some (.int (nI (dBg D k))), some (.int (nI v)), some (.int (nI m)), none, none, none], [.int (nI v), .int (dBegan D G k), .int (nI (dAk D G k m (dStB D k v m) v)), .int ((5 * (nI m)) + (nI (dStB D k v m))), .ref 16])) rfl ?_
        refine gR.callp rfl (s_X11_isIn (by omega) υ (dBegan D G k) (nI v)) ?_
        refine gR.ifte rfl (fun zc97 => ?_) (fun zc97 => ?_)
        · rw [bI_eq0] at zc97
          refine gR.steps 2 (υ, (106, [some (.ref 0), some (.int (nI k)), some (.int (dBegan D G k)), some (.int (nI (dBg D k))), some (.int (nI v)), some (.int (nI m)), none, none, none], [.int ((nI (dAk D G k m (dStB D k v m) v)) + 0), .int ((5 * (nI m)) + (nI (dStB D k v m))), .ref 16])) rfl ?_
          refine gR.ast (i := (5 * (nI m)) + (nI (dStB D k v m))) (j := 5 * m + dStB D k v m) (N := 120) (q := 16) (x := (nI (dAk D G k m (dStB D k v m) v)) + 0) rfl (gN_add (gN_mul rfl rfl) rfl) (by omega) (by omega) ?_
          refine gR.steps 2 (gUp υ 16 (5 * m + dStB D k v m) ((nI (dAk D G k m (dStB D k v m) v)) + 0), (66, [some (.ref 0), some (.int (nI k)), some (.int (dBegan D G k)), some (.int (nI (dBg D k))), some (.int (nI v)), some (.int ((nI m) + 1)), none, none, none], [])) rfl ?_
          refine gR.forget [some (.ref 0), some (.int (nI k)), some (.int (dBegan D G k)), some (.int (nI (dBg D k))), some (.int (nI v)), some (.int (nI (m + 1))), none, none, none] ⟨rfl, ⟨rfl, ⟨rfl, ⟨rfl, ⟨rfl, ⟨gSomeI (gN_add rfl rfl), trivial⟩⟩⟩⟩⟩⟩ ?_
          exact ih3 ⟨m + 1, _⟩ ⟨by omega, fun q hq => by rw [gUp_ne hq]; exact h4 q hq, mAkR_up h5 (by omega) hS5 (gN_add rfl rfl |>.trans (congrArg nI (dAk_n (fun z => zc97 z.1))))⟩ (by dsimp only; omega)
        · rw [bI_eq0, Decidable.not_not] at zc97
          refine gR.steps 3 (υ, (106, [some (.ref 0), some (.int (nI k)), some (.int (dBegan D G k)), some (.int (nI (dBg D k))), some (.int (nI v)), some (.int (nI m)), none, none, none], [.int ((nI (dAk D G k m (dStB D k v m) v)) + 1), .int ((5 * (nI m)) + (nI (dStB D k v m))), .ref 16])) rfl ?_
          refine gR.ast (i := (5 * (nI m)) + (nI (dStB D k v m))) (j := 5 * m + dStB D k v m) (N := 120) (q := 16) (x := (nI (dAk D G k m (dStB D k v m) v)) + 1) rfl (gN_add (gN_mul rfl rfl) rfl) (by omega) (by omega) ?_
          refine gR.steps 2 (gUp υ 16 (5 * m + dStB D k v m) ((nI (dAk D G k m (dStB D k v m) v)) + 1), (66, [some (.ref 0), some (.int (nI k)), some (.int (dBegan D G k)), some (.int (nI (dBg D k))), some (.int (nI v)), some (.int ((nI m) + 1)), none, none, none], [])) rfl ?_
          refine gR.forget [some (.ref 0), some (.int (nI k)), some (.int (dBegan D G k)), some (.int (nI (dBg D k))), some (.int (nI v)), some (.int (nI (m + 1))), none, none, none] ⟨rfl, ⟨rfl, ⟨rfl, ⟨rfl, ⟨rfl, ⟨gSomeI (gN_add rfl rfl), trivial⟩⟩⟩⟩⟩⟩ ?_
          exact ih3 ⟨m + 1, _⟩ ⟨by omega, fun q hq => by rw [gUp_ne hq]; exact h4 q hq, mAkR_up h5 (by omega) hS5 (gN_add rfl rfl |>.trans (congrArg nI (dAk_s zc97 rfl)))⟩ (by dsimp only; omega)
  · rw [gN_le (x := 120) (y := nI i) (a := 120) (b := i) rfl rfl (by omega) (by omega)] at zc24
    refine gR.steps 4 (τ, (34, [some (.ref 0), some (.int (nI k)), some (.int (dBegan D G k)), some (.int (nI (dBg D k))), some (.int (nI i)), none, none, none, none], [.int 0, .int (nI i), .ref 16])) rfl ?_
    refine gR.ast (i := nI i) (j := i) (N := 120) (q := 16) (x := 0) rfl rfl (by omega) (by omega) ?_
    refine gR.steps 2 (gUp τ 16 i 0, (20, [some (.ref 0), some (.int (nI k)), some (.int (dBegan D G k)), some (.int (nI (dBg D k))), some (.int ((nI i) + 1)), none, none, none, none], [])) rfl ?_
    refine gR.forget [some (.ref 0), some (.int (nI k)), some (.int (dBegan D G k)), some (.int (nI (dBg D k))), some (.int (nI (i + 1))), none, none, none, none] ⟨rfl, ⟨rfl, ⟨rfl, ⟨rfl, ⟨gSomeI (gN_add rfl rfl), trivial⟩⟩⟩⟩⟩ ?_
    exact ih ⟨i + 1, _⟩ ⟨by omega, fun q hq => by rw [gUp_ne hq]; exact h1 q hq, lt_s (fun j hj => by rw [gUp_o (by omega)]; exact h2 j hj) (gUp_s _ _ _ _)⟩ (by dsimp only; omega)
theorem s_X11_ask {d : Nat} (hd : 7 ≤ d) (σ : gS) (D : xDat) (G : xSig) (k : Int32) (hs : mSt σ D) (hg : mSg σ G) : gC d 190 [.ref 0, .int k] σ (fun r τ => r = some (.int (aAsk D G k)) ∧ mKeep σ τ) := by
  obtain ⟨d, rfl⟩ : ∃ k, d = k + 1 := ⟨d - 1, by omega⟩
  refine gC.of (P := pX11_ask) (nL := 2) (rt := (some (.int))) (lv := [some (.ref 0), some (.int k)]) (by decide +kernel) rfl rfl rfl (by simp [gEnt, Value.category]) rfl ?_
  refine gR.steps 1 (σ, (1, [some (.ref 0), some (.int k)], [.ref 0])) rfl ?_
  refine gR.call' rfl (s_X11_find (by omega) σ D hs) ?_
  rintro _ τ ⟨rfl, hk, hf⟩
  show gR _ _ _ τ (4, [some (.ref 0), some (.int k)], [])
  refine gR.steps 2 (τ, (6, [some (.ref 0), some (.int k)], [.int k, .ref 0])) rfl ?_
  have hnb := dNb_le D hs.1.2.1
  refine gR.callp rfl (s_X11_isBush (by omega) τ k (dNb D) hf.1.1 (by omega)) ?_
  refine gR.ifte rfl (fun zc9 => ?_) (fun zc9 => ?_)
  · rw [bI_eq0] at zc9
    refine gR.steps 1 (τ, (22, [some (.ref 0), some (.int k)], [.int (-2)])) rfl ?_
    refine gR.ret rfl ?_
    exact ⟨trivial, by unfold aAsk; rw [if_neg (by omega)], hk⟩
  · rw [bI_eq0, Decidable.not_not] at zc9
    obtain ⟨kk, hkk, rfl⟩ := gN_of (x := k) (n := 11) (by omega) (by omega) (by omega)
    refine gR.steps 2 (τ, (14, [some (.ref 0), some (.int (nI kk))], [.int (nI kk), .ref 0])) rfl ?_
    have hkk3 : kk < dNb D := by rw [nI_toInt (by omega)] at zc9; omega
    refine gR.call' rfl (s_X11_askOf (by omega) τ D G kk ⟨hs.keep hk, hf, hg.keep hk⟩ hkk3) ?_
    rintro _ τ2 ⟨rfl, hG⟩
    show gR _ _ _ τ2 (17, [some (.ref 0), some (.int (nI kk))], [.int (dAsk D G kk)])
    refine gR.steps 1 (τ2, (22, [some (.ref 0), some (.int (nI kk))], [.int (dAsk D G kk)])) rfl ?_
    refine gR.ret rfl ?_
    refine ⟨trivial, ?_, hk.tr ⟨fun q a b => hG q (fun z => b (by unfold mScr; omega)), fun s _ _ _ _ => by show τ2 0 s = _; rw [hG 0 (by decide)]⟩⟩
    rw [show aAsk D G (nI kk) = _ from if_pos zc9, nI_clamp (by omega)]
