theorem s_X11_isBush {d : Nat} (hd : 2 ≤ d) (σ : gS) (k : Int32) (nb : Nat) (hb : σ 0 7 = nI nb) (hnb : nb ≤ 11) : gC d 138 [.ref 0, .int k] σ (fun r τ => r = some (.int (bI (0 ≤ k.toInt ∧ k.toInt < nb))) ∧ τ = σ) := by
  obtain ⟨d, rfl⟩ : ∃ k, d = k + 1 := ⟨d - 1, by omega⟩
  refine gC.of (P := pX11_isBush) (nL := 2) (rt := (some (.boolean))) (lv := [some (.ref 0), some (.int k)]) (by decide +kernel) rfl rfl rfl (by simp [gEnt, Value.category]) rfl ?_
  refine gR.steps 5 (σ, (7, [some (.ref 0), some (.int k)], [.int (σ 0 7), .long 0, .long (Int32.toInt64 k)])) rfl ?_
  refine gR.topI (y := nI (nb)) hb ?_
  refine gR.steps 3 (σ, (10, [some (.ref 0), some (.int k)], [.long (Int32.toInt64 ((nI nb) - 1)), .long 0, .long (Int32.toInt64 k)])) rfl ?_
  refine gR.callp rfl (s_X11_in (by omega) σ (Int32.toInt64 k) 0 (Int32.toInt64 ((nI nb) - 1))) ?_
  refine gR.ret rfl ?_
  exact ⟨bI_ret _, by rw [bI_congr (show (Int64.toInt 0 ≤ Int64.toInt (Int32.toInt64 k) ∧ Int64.toInt (Int32.toInt64 k) ≤ Int64.toInt (Int32.toInt64 ((nI nb) - 1))) ↔ (0 ≤ k.toInt ∧ k.toInt < nb) by simp only [iI64, iLit0]; rw [show (1 : Int32) = nI 1 from rfl, pk_sub_toInt (by omega) (by omega)]; omega)], rfl⟩
theorem s_X11_isBushN {d : Nat} (hd : 2 ≤ d) (σ : gS) (k nb : Nat) (hb : σ 0 7 = nI nb) (hnb : nb ≤ 11) (hk : k < 2147483648) : gC d 138 [.ref 0, .int (nI k)] σ (fun r τ => r = some (.int (bI (k < nb))) ∧ τ = σ) :=
  (s_X11_isBush hd σ (nI k) nb hb hnb).mono (fun v τ h => ⟨by rw [h.1, bI_congr (show (0 ≤ (nI k).toInt ∧ (nI k).toInt < nb) ↔ k < nb by rw [nI_toInt hk]; omega)], h.2⟩)
/-- looks in the model's memory -/
def mLo (σ : gS) (n : Nat) (lm lb : Nat → Nat) : Prop := σ 0 9 = nI n ∧ n ≤ 12 ∧ ∀ i, i < n → σ 8 (2 * i) = nI (lm i) ∧ σ 8 (2 * i + 1) = nI (lb i) ∧ lm i < 24 ∧ lb i < 10
def xFire (K M B : Nat → Nat) (gn : Nat → Bool) (nb m : Nat) : Nat → Nat := xSum (fun e => if K e = 0 ∧ M e = m ∧ B e < nb ∧ ¬ gn e = true then 1 else 0)
def xLk (lm lb : Nat → Nat) (nb : Nat) (sm : Nat → Nat → Bool) (sp : Nat → Nat) (m a : Nat) : Nat → Nat
  | 0 => a
  | i + 1 => if lm i = m ∧ lb i < nb then xLook (xLk lm lb nb sm sp m a i) (sm m (lb i)) (sp (lb i)) else xLk lm lb nb sm sp m a i
def xLkAny (lm lb : Nat → Nat) (nb m : Nat) : Nat → Bool := xAny (fun i => decide (lm i = m ∧ lb i < nb))
/-- belief behind a month: fires, looks, one look more (od), or nothing seen -/
def xMon (n : Nat) (K M B : Nat → Nat) (gn : Nat → Bool) (nb : Nat) (nl : Nat) (lm lb : Nat → Nat) (sm : Nat → Nat → Bool) (sp : Nat → Nat) (om : Option Nat) (ob : Nat) (m a : Nat) : Nat :=
  if om = some m then xLook (xLk lm lb nb sm sp m (a - 10 * xFire K M B gn nb m n) nl) (sm m ob) (sp ob)
  else if xLkAny lm lb nb m nl = true then xLk lm lb nb sm sp m (a - 10 * xFire K M B gn nb m n) nl
  else xLk lm lb nb sm sp m (a - 10 * xFire K M B gn nb m n) nl - 2
def xBel (n : Nat) (K M B : Nat → Nat) (gn : Nat → Bool) (nb : Nat) (nl : Nat) (lm lb : Nat → Nat) (sm : Nat → Nat → Bool) (sp : Nat → Nat) (om : Option Nat) (ob : Nat) (f0 : Nat) : Nat → Nat
  | 0 => f0
  | m + 1 => xMon n K M B gn nb nl lm lb sm sp om ob m (xBel n K M B gn nb nl lm lb sm sp om ob f0 m)
theorem xLook_le {a p : Nat} {s : Bool} (h : a ≤ 100) : xLook a s p ≤ 100 := by
  unfold xLook; split <;> omega
theorem xLk_le {lm lb : Nat → Nat} {nb : Nat} {sm : Nat → Nat → Bool} {sp : Nat → Nat} {m a : Nat} (h : a ≤ 100) : ∀ i, xLk lm lb nb sm sp m a i ≤ 100
  | 0 => h
  | i + 1 => by
    simp only [xLk]
    split
    · exact xLook_le (xLk_le h i)
    · exact xLk_le h i
theorem xMon_le {n : Nat} {K M B : Nat → Nat} {gn : Nat → Bool} {nb : Nat} {nl : Nat} {lm lb : Nat → Nat} {sm : Nat → Nat → Bool} {sp : Nat → Nat} {om : Option Nat} {ob : Nat} {m a : Nat} (h : a ≤ 100) : xMon n K M B gn nb nl lm lb sm sp om ob m a ≤ 100 := by
  have h1 := xLk_le (lm := lm) (lb := lb) (nb := nb) (sm := sm) (sp := sp) (m := m) (a := a - 10 * xFire K M B gn nb m n) (by omega) nl
  unfold xMon
  split
  · exact xLook_le h1
  · split <;> omega
theorem xBel_le {n : Nat} {K M B : Nat → Nat} {gn : Nat → Bool} {nb : Nat} {nl : Nat} {lm lb : Nat → Nat} {sm : Nat → Nat → Bool} {sp : Nat → Nat} {om : Option Nat} {ob : Nat} {f0 : Nat} (h : f0 ≤ 100) : ∀ m, xBel n K M B gn nb nl lm lb sm sp om ob f0 m ≤ 100
  | 0 => h
  | m + 1 => xMon_le (xBel_le h m)
theorem xFire_s {K M B : Nat → Nat} {gn : Nat → Bool} {nb m e : Nat} (h : K e = 0 ∧ M e = m ∧ B e < nb ∧ ¬ gn e = true) : xFire K M B gn nb m (e + 1) = xFire K M B gn nb m e + 1 := by
  simp only [xFire, xSum, if_pos h]
theorem xFire_n {K M B : Nat → Nat} {gn : Nat → Bool} {nb m e : Nat} (h : ¬ (K e = 0 ∧ M e = m ∧ B e < nb ∧ ¬ gn e = true)) : xFire K M B gn nb m (e + 1) = xFire K M B gn nb m e := by
  simp only [xFire, xSum, if_neg h]; rfl
def mLo_of {σ τ : gS} {n : Nat} {lm lb : Nat → Nat} (h0 : τ 0 = σ 0) (h8 : τ 8 = σ 8) (h : mLo σ n lm lb) : mLo τ n lm lb := by
  unfold mLo at *
  rw [h0, h8]; exact h
/-- one look more that is thought of -/
def mOdd (σ : gS) (nb : Nat) (om : Option Nat) (ob : Nat) : Prop := match om with
  | none => σ 0 22 = -1
  | some x => σ 0 22 = nI x ∧ σ 0 23 = nI ob ∧ ob < nb ∧ x < 24
def mCells (σ : gS) (S : Nat → Nat → Nat) (Q : Nat → Nat → Bool) (nb : Nat) : Prop := ∀ m, m < 24 → ∀ k, k < nb → σ 10 (11 * m + k) = nI (S m k) ∧ σ 11 (11 * m + k) = bI (Q m k = true) ∧ S m k < 5
def xSm (S : Nat → Nat → Nat) (Q : Nat → Nat → Bool) : Nat → Nat → Bool := fun m k => decide (S m k = 1) || Q m k
def mBeF (σ τ : gS) : Prop := ∀ q, q ≠ 13 → τ q = σ q
theorem mBeF_up {σ τ : gS} {k : Nat} {v : Int32} (h : mBeF σ τ) : mBeF σ (gUp τ 13 k v) := by
  intro q hq
  rw [gUp_ne hq]; exact h q hq
theorem s_X11_believes {d : Nat} (hd : 3 ≤ d) (σ : gS) (n : Nat) (K M B : Nat → Nat) (gn : Nat → Bool) (nb : Nat) (kd bg sp : Nat → Nat) (nl : Nat) (lm lb : Nat → Nat) (S : Nat → Nat → Nat) (Q : Nat → Nat → Bool) (om : Option Nat) (ob f0 : Nat) (hE : mEv σ n K M B) (hB : mBu σ nb kd bg sp) (hg : mGone σ gn) (hL : mLo σ nl lm lb) (hC : mCells σ S Q nb) (hO : mOdd σ nb om ob) (hf : σ 0 11 = nI f0) (hf0 : f0 ≤ 100) : gC d 156 [.ref 0] σ (fun r τ => r = none ∧ mBeF σ τ ∧ ∀ m, m < 24 → τ 13 m = nI (xBel n K M B gn nb nl lm lb (xSm S Q) sp om ob f0 (m + 1))) := by
  obtain ⟨d, rfl⟩ : ∃ k, d = k + 1 := ⟨d - 1, by omega⟩
  refine gC.of (P := pX11_believes) (nL := 5) (rt := none) (lv := [some (.ref 0), none, none, none, none]) (by decide +kernel) rfl rfl rfl (by simp [gEnt, Value.category]) rfl ?_
  have hn8 := hE.2.1
  have hn11 := hB.2.1
  have hn12 := hL.2.1
  refine gR.steps 2 (σ, (4, [some (.ref 0), none, none, none, none], [.int (σ 0 11)])) rfl ?_
  refine gR.topI (y := nI (f0)) hf ?_
  refine gR.steps 3 (σ, (7, [some (.ref 0), some (.int (nI f0)), some (.int 0), none, none], [])) rfl ?_
  refine gR.forget [some (.ref 0), some (.int (nI (xBel n K M B gn nb nl lm lb (xSm S Q) sp om ob f0 0))), some (.int 0), none, none] ⟨rfl, ⟨rfl, ⟨rfl, trivial⟩⟩⟩ ?_
  refine gR.loop (α := Nat × gS) (fun ⟨m, τ⟩ => m ≤ 24 ∧ mBeF σ τ ∧ ∀ m2, m2 < m → τ 13 m2 = nI (xBel n K M B gn nb nl lm lb (xSm S Q) sp om ob f0 (m2 + 1))) (fun ⟨m, τ⟩ => 24 - m) (fun ⟨m, τ⟩ => (τ, (7, [some (.ref 0), some (.int (nI (xBel n K M B gn nb nl lm lb (xSm S Q) sp om ob f0 m))), some (.int (nI m)), none, none], []))) ?_ ⟨0, σ⟩ ⟨Nat.zero_le 24, fun _ _ => rfl, fun m2 h => absurd h (Nat.not_lt_zero m2)⟩
  rintro ⟨m, τ⟩ ⟨hm24, hF, hrows⟩ ih
  show gR _ _ _ τ (7, [some (.ref 0), some (.int (nI (xBel n K M B gn nb nl lm lb (xSm S Q) sp om ob f0 m))), some (.int (nI m)), none, none], [])
  have hle := xBel_le (n := n) (K := K) (M := M) (B := B) (gn := gn) (nb := nb) (nl := nl) (lm := lm) (lb := lb) (sm := xSm S Q) (sp := sp) (om := om) (ob := ob) hf0 m
  refine gR.steps 2 (τ, (10, [some (.ref 0), some (.int (nI (xBel n K M B gn nb nl lm lb (xSm S Q) sp om ob f0 m))), some (.int (nI m)), none, none], [.int 24, .int (nI m)])) rfl ?_
  refine gR.ifte rfl (fun zc10 => ?_) (fun zc10 => ?_)
  · rw [gN_le (x := 24) (y := nI m) (a := 24) (b := m) rfl rfl (by omega) (by omega)] at zc10
    refine gR.ret rfl ?_
    exact ⟨trivial, rfl, hF, fun m2 h2 => hrows m2 (by omega)⟩
  · rw [gN_le (x := 24) (y := nI m) (a := 24) (b := m) rfl rfl (by omega) (by omega)] at zc10
    refine gR.steps 2 (τ, (15, [some (.ref 0), some (.int (nI (xBel n K M B gn nb nl lm lb (xSm S Q) sp om ob f0 m))), some (.int (nI m)), some (.int 0), none], [])) rfl ?_
    refine gR.forget [some (.ref 0), some (.int (nI (xBel n K M B gn nb nl lm lb (xSm S Q) sp om ob f0 m - 10 * xFire K M B gn nb m 0))), some (.int (nI m)), some (.int 0), none] ⟨rfl, ⟨rfl, ⟨rfl, ⟨rfl, trivial⟩⟩⟩⟩ ?_
    refine gR.loop (α := Nat) (fun e => e ≤ n) (fun e => n - e) (fun e => (τ, (15, [some (.ref 0), some (.int (nI (xBel n K M B gn nb nl lm lb (xSm S Q) sp om ob f0 m - 10 * xFire K M B gn nb m e))), some (.int (nI m)), some (.int (nI e)), none], []))) ?_ 0 (Nat.zero_le n)
    rintro e hen ih2
    show gR _ _ _ τ (15, [some (.ref 0), some (.int (nI (xBel n K M B gn nb nl lm lb (xSm S Q) sp om ob f0 m - 10 * xFire K M B gn nb m e))), some (.int (nI m)), some (.int (nI e)), none], [])
    refine gR.steps 3 (τ, (20, [some (.ref 0), some (.int (nI (xBel n K M B gn nb nl lm lb (xSm S Q) sp om ob f0 m - 10 * xFire K M B gn nb m e))), some (.int (nI m)), some (.int (nI e)), none], [.int (τ 0 13), .int (nI e)])) rfl ?_
    refine gR.topI (y := nI (n)) (by rw [hF 0 (by decide)]; exact hE.1) ?_
    refine gR.ifte rfl (fun zc20 => ?_) (fun zc20 => ?_)
    · rw [gN_le (x := nI n) (y := nI e) (a := n) (b := e) rfl rfl (by omega) (by omega)] at zc20
      refine gR.steps 4 (τ, (111, [some (.ref 0), some (.int (nI (xBel n K M B gn nb nl lm lb (xSm S Q) sp om ob f0 m - 10 * xFire K M B gn nb m e))), some (.int (nI m)), some (.int 0), some (.int 0)], [])) rfl ?_
      obtain rfl : n = e := by omega
      refine gR.forget [some (.ref 0), some (.int (nI (xLk lm lb nb (xSm S Q) sp m (xBel n K M B gn nb nl lm lb (xSm S Q) sp om ob f0 m - 10 * xFire K M B gn nb m n) 0))), some (.int (nI m)), some (.int (bI (xLkAny lm lb nb m 0 = true))), some (.int 0)] ⟨rfl, ⟨rfl, ⟨rfl, ⟨gSomeI (bI_f (p := xLkAny lm lb nb m 0 = true) (by simp [xLkAny, xAny])).symm, ⟨rfl, trivial⟩⟩⟩⟩⟩ ?_
      refine gR.loop (α := Nat) (fun i => i ≤ nl) (fun i => nl - i) (fun i => (τ, (111, [some (.ref 0), some (.int (nI (xLk lm lb nb (xSm S Q) sp m (xBel n K M B gn nb nl lm lb (xSm S Q) sp om ob f0 m - 10 * xFire K M B gn nb m n) i))), some (.int (nI m)), some (.int (bI (xLkAny lm lb nb m i = true))), some (.int (nI i))], []))) ?_ 0 (Nat.zero_le nl)
      rintro i hin ih3
      show gR _ _ _ τ (111, [some (.ref 0), some (.int (nI (xLk lm lb nb (xSm S Q) sp m (xBel n K M B gn nb nl lm lb (xSm S Q) sp om ob f0 m - 10 * xFire K M B gn nb m n) i))), some (.int (nI m)), some (.int (bI (xLkAny lm lb nb m i = true))), some (.int (nI i))], [])
      have hlk := xLk_le (lm := lm) (lb := lb) (nb := nb) (sm := xSm S Q) (sp := sp) (m := m) (a := xBel n K M B gn nb nl lm lb (xSm S Q) sp om ob f0 m - 10 * xFire K M B gn nb m n) (by omega) i
      refine gR.steps 3 (τ, (117, [some (.ref 0), some (.int (nI (xLk lm lb nb (xSm S Q) sp m (xBel n K M B gn nb nl lm lb (xSm S Q) sp om ob f0 m - 10 * xFire K M B gn nb m n) i))), some (.int (nI m)), some (.int (bI (xLkAny lm lb nb m i = true))), some (.int (nI i))], [.int (τ 0 9), .int (nI i)])) rfl ?_
      refine gR.topI (y := nI (nl)) (by rw [hF 0 (by decide)]; exact hL.1) ?_
      refine gR.ifte rfl (fun zc117 => ?_) (fun zc117 => ?_)
      · rw [gN_le (x := nI nl) (y := nI i) (a := nl) (b := i) rfl rfl (by omega) (by omega)] at zc117
        obtain rfl : nl = i := by omega
        refine gR.steps 3 (τ, (182, [some (.ref 0), some (.int (nI (xLk lm lb nb (xSm S Q) sp m (xBel n K M B gn nb nl lm lb (xSm S Q) sp om ob f0 m - 10 * xFire K M B gn nb m n) nl))), some (.int (nI m)), some (.int (bI (xLkAny lm lb nb m nl = true))), some (.int (nI nl))], [.int (nI m), .int (τ 0 22)])) rfl ?_
        refine gR.ifte rfl (fun zc182 => ?_) (fun zc182 => ?_)
        · have hom : ¬ om = some m := fun z => by rw [z] at hO; exact zc182 (by rw [hF 0 (by decide)]; exact hO.1)
          refine gR.steps 4 (τ, (204, [some (.ref 0), some (.int (nI (xLk lm lb nb (xSm S Q) sp m (xBel n K M B gn nb nl lm lb (xSm S Q) sp om ob f0 m - 10 * xFire K M B gn nb m n) nl))), some (.int (nI m)), some (.int (bI (xLkAny lm lb nb m nl = true))), some (.int (nI nl))], [.int (bI (xLkAny lm lb nb m nl = true)), .int (nI m), .ref 13])) rfl ?_
          refine gR.ifte rfl (fun zc204 => ?_) (fun zc204 => ?_)
          · rw [bI_eq0] at zc204
            refine gR.steps 3 (τ, (214, [some (.ref 0), some (.int (nI (xLk lm lb nb (xSm S Q) sp m (xBel n K M B gn nb nl lm lb (xSm S Q) sp om ob f0 m - 10 * xFire K M B gn nb m n) nl))), some (.int (nI m)), some (.int (bI (xLkAny lm lb nb m nl = true))), some (.int (nI nl))], [.int ((nI (xLk lm lb nb (xSm S Q) sp m (xBel n K M B gn nb nl lm lb (xSm S Q) sp om ob f0 m - 10 * xFire K M B gn nb m n) nl)) - 2), .int (nI m), .ref 13])) rfl ?_
            refine gR.callp rfl (s_X11_kept (by omega) τ ((nI (xLk lm lb nb (xSm S Q) sp m (xBel n K M B gn nb nl lm lb (xSm S Q) sp om ob f0 m - 10 * xFire K M B gn nb m n) nl)) - 2)) ?_
            have hnew : xKept (Int32.toInt ((nI (xLk lm lb nb (xSm S Q) sp m (xBel n K M B gn nb nl lm lb (xSm S Q) sp om ob f0 m - 10 * xFire K M B gn nb m n) nl)) - 2)) = xBel n K M B gn nb nl lm lb (xSm S Q) sp om ob f0 (m + 1) := by
              show _ = xMon n K M B gn nb nl lm lb (xSm S Q) sp om ob m (xBel n K M B gn nb nl lm lb (xSm S Q) sp om ob f0 m)
              unfold xMon
              rw [if_neg hom, if_neg zc204, xKept_sub rfl (show (2 : Int32) = nI 2 from rfl) (xLk_le (by omega) nl) (by omega)]
            refine gR.ast (i := nI m) (j := m) (N := 24) (q := 13) (x := nI (xKept (Int32.toInt ((nI (xLk lm lb nb (xSm S Q) sp m (xBel n K M B gn nb nl lm lb (xSm S Q) sp om ob f0 m - 10 * xFire K M B gn nb m n) nl)) - 2)))) rfl rfl (by omega) (by omega) ?_
            refine gR.steps 3 (gUp τ 13 m (nI (xKept (Int32.toInt ((nI (xLk lm lb nb (xSm S Q) sp m (xBel n K M B gn nb nl lm lb (xSm S Q) sp om ob f0 m - 10 * xFire K M B gn nb m n) nl)) - 2)))), (223, [some (.ref 0), some (.int (nI (xLk lm lb nb (xSm S Q) sp m (xBel n K M B gn nb nl lm lb (xSm S Q) sp om ob f0 m - 10 * xFire K M B gn nb m n) nl))), some (.int (nI m)), some (.int (bI (xLkAny lm lb nb m nl = true))), some (.int (nI nl))], [.int (nI m), .ref 13])) rfl ?_
            refine gR.ald (i := nI m) (j := m) (N := 24) (g := (gUp τ 13 m (nI (xKept (Int32.toInt ((nI (xLk lm lb nb (xSm S Q) sp m (xBel n K M B gn nb nl lm lb (xSm S Q) sp om ob f0 m - 10 * xFire K M B gn nb m n) nl)) - 2))))) 13) rfl rfl (by omega) (by omega) ?_
            refine gR.topI (y := nI (xKept (Int32.toInt ((nI (xLk lm lb nb (xSm S Q) sp m (xBel n K M B gn nb nl lm lb (xSm S Q) sp om ob f0 m - 10 * xFire K M B gn nb m n) nl)) - 2)))) (by rw [gUp_s]) ?_
            refine gR.steps 3 (gUp τ 13 m (nI (xKept (Int32.toInt ((nI (xLk lm lb nb (xSm S Q) sp m (xBel n K M B gn nb nl lm lb (xSm S Q) sp om ob f0 m - 10 * xFire K M B gn nb m n) nl)) - 2)))), (7, [some (.ref 0), some (.int (nI (xKept (Int32.toInt ((nI (xLk lm lb nb (xSm S Q) sp m (xBel n K M B gn nb nl lm lb (xSm S Q) sp om ob f0 m - 10 * xFire K M B gn nb m n) nl)) - 2))))), some (.int ((nI m) + 1)), some (.int (bI (xLkAny lm lb nb m nl = true))), some (.int (nI nl))], [])) rfl ?_
            refine gR.forget [some (.ref 0), some (.int (nI (xBel n K M B gn nb nl lm lb (xSm S Q) sp om ob f0 (m + 1)))), some (.int (nI (m + 1))), none, none] ⟨rfl, ⟨gSomeI (congrArg nI (show _ = xBel n K M B gn nb nl lm lb (xSm S Q) sp om ob f0 (m + 1) from hnew)), ⟨gSomeI (gN_add rfl rfl), trivial⟩⟩⟩ ?_
            exact ih ⟨m + 1, _⟩ ⟨by omega, mBeF_up hF, lt_s (fun m2 h2 => by rw [gUp_o (by omega)]; exact hrows m2 h2) (by rw [gUp_s]; exact congrArg nI (show _ = xBel n K M B gn nb nl lm lb (xSm S Q) sp om ob f0 (m + 1) from hnew))⟩ (by dsimp only; omega)
          · rw [bI_eq0, Decidable.not_not] at zc204
            refine gR.steps 2 (τ, (214, [some (.ref 0), some (.int (nI (xLk lm lb nb (xSm S Q) sp m (xBel n K M B gn nb nl lm lb (xSm S Q) sp om ob f0 m - 10 * xFire K M B gn nb m n) nl))), some (.int (nI m)), some (.int (bI (xLkAny lm lb nb m nl = true))), some (.int (nI nl))], [.int (nI (xLk lm lb nb (xSm S Q) sp m (xBel n K M B gn nb nl lm lb (xSm S Q) sp om ob f0 m - 10 * xFire K M B gn nb m n) nl)), .int (nI m), .ref 13])) rfl ?_
            refine gR.callp rfl (s_X11_kept (by omega) τ (nI (xLk lm lb nb (xSm S Q) sp m (xBel n K M B gn nb nl lm lb (xSm S Q) sp om ob f0 m - 10 * xFire K M B gn nb m n) nl))) ?_
            have hnew : xKept (Int32.toInt (nI (xLk lm lb nb (xSm S Q) sp m (xBel n K M B gn nb nl lm lb (xSm S Q) sp om ob f0 m - 10 * xFire K M B gn nb m n) nl))) = xBel n K M B gn nb nl lm lb (xSm S Q) sp om ob f0 (m + 1) := by
              show _ = xMon n K M B gn nb nl lm lb (xSm S Q) sp om ob m (xBel n K M B gn nb nl lm lb (xSm S Q) sp om ob f0 m)
              unfold xMon
              rw [if_neg hom, if_pos zc204, xKept_id rfl (xLk_le (by omega) nl)]
            refine gR.ast (i := nI m) (j := m) (N := 24) (q := 13) (x := nI (xKept (Int32.toInt (nI (xLk lm lb nb (xSm S Q) sp m (xBel n K M B gn nb nl lm lb (xSm S Q) sp om ob f0 m - 10 * xFire K M B gn nb m n) nl))))) rfl rfl (by omega) (by omega) ?_
            refine gR.steps 3 (gUp τ 13 m (nI (xKept (Int32.toInt (nI (xLk lm lb nb (xSm S Q) sp m (xBel n K M B gn nb nl lm lb (xSm S Q) sp om ob f0 m - 10 * xFire K M B gn nb m n) nl))))), (223, [some (.ref 0), some (.int (nI (xLk lm lb nb (xSm S Q) sp m (xBel n K M B gn nb nl lm lb (xSm S Q) sp om ob f0 m - 10 * xFire K M B gn nb m n) nl))), some (.int (nI m)), some (.int (bI (xLkAny lm lb nb m nl = true))), some (.int (nI nl))], [.int (nI m), .ref 13])) rfl ?_
            refine gR.ald (i := nI m) (j := m) (N := 24) (g := (gUp τ 13 m (nI (xKept (Int32.toInt (nI (xLk lm lb nb (xSm S Q) sp m (xBel n K M B gn nb nl lm lb (xSm S Q) sp om ob f0 m - 10 * xFire K M B gn nb m n) nl)))))) 13) rfl rfl (by omega) (by omega) ?_
            refine gR.topI (y := nI (xKept (Int32.toInt (nI (xLk lm lb nb (xSm S Q) sp m (xBel n K M B gn nb nl lm lb (xSm S Q) sp om ob f0 m - 10 * xFire K M B gn nb m n) nl))))) (by rw [gUp_s]) ?_
            refine gR.steps 3 (gUp τ 13 m (nI (xKept (Int32.toInt (nI (xLk lm lb nb (xSm S Q) sp m (xBel n K M B gn nb nl lm lb (xSm S Q) sp om ob f0 m - 10 * xFire K M B gn nb m n) nl))))), (7, [some (.ref 0), some (.int (nI (xKept (Int32.toInt (nI (xLk lm lb nb (xSm S Q) sp m (xBel n K M B gn nb nl lm lb (xSm S Q) sp om ob f0 m - 10 * xFire K M B gn nb m n) nl)))))), some (.int ((nI m) + 1)), some (.int (bI (xLkAny lm lb nb m nl = true))), some (.int (nI nl))], [])) rfl ?_
            refine gR.forget [some (.ref 0), some (.int (nI (xBel n K M B gn nb nl lm lb (xSm S Q) sp om ob f0 (m + 1)))), some (.int (nI (m + 1))), none, none] ⟨rfl, ⟨gSomeI (congrArg nI (show _ = xBel n K M B gn nb nl lm lb (xSm S Q) sp om ob f0 (m + 1) from hnew)), ⟨gSomeI (gN_add rfl rfl), trivial⟩⟩⟩ ?_
            exact ih ⟨m + 1, _⟩ ⟨by omega, mBeF_up hF, lt_s (fun m2 h2 => by rw [gUp_o (by omega)]; exact hrows m2 h2) (by rw [gUp_s]; exact congrArg nI (show _ = xBel n K M B gn nb nl lm lb (xSm S Q) sp om ob f0 (m + 1) from hnew))⟩ (by dsimp only; omega)
        · have hom : om = some m := by
            cases om with
            | none => exact absurd ((Decidable.not_not.mp zc182).symm.trans ((congrFun (hF 0 (by decide)) 22).trans hO)) (by intro z; have := congrArg Int32.toInt z; rw [nI_toInt (by omega)] at this; exact absurd this (by rw [show (-1 : Int32).toInt = -1 from by decide]; omega))
            | some x =>
              have h1 := (congrFun (hF 0 (by decide)) 22).trans hO.1
              rw [Decidable.not_not.mp zc182] at h1
              rw [(nI_eq (by omega) (by have := hO.2.2.2; omega)).mp h1]
          rw [hom] at hO
          have hob2 := hO.2.2.1
          refine gR.steps 5 (τ, (192, [some (.ref 0), some (.int (nI (xLk lm lb nb (xSm S Q) sp m (xBel n K M B gn nb nl lm lb (xSm S Q) sp om ob f0 m - 10 * xFire K M B gn nb m n) nl))), some (.int (nI m)), some (.int (bI (xLkAny lm lb nb m nl = true))), some (.int (nI nl))], [.int (τ 0 23), .int (nI m), .int (nI (xLk lm lb nb (xSm S Q) sp m (xBel n K M B gn nb nl lm lb (xSm S Q) sp om ob f0 m - 10 * xFire K M B gn nb m n) nl)), .ref 0])) rfl ?_
          refine gR.topI (y := nI (ob)) ((congrFun (hF 0 (by decide)) 23).trans hO.2.1) ?_
          refine gR.callp rfl (s_X11_looked (by omega) τ (xLk lm lb nb (xSm S Q) sp m (xBel n K M B gn nb nl lm lb (xSm S Q) sp om ob f0 m - 10 * xFire K M B gn nb m n) nl) m ob nb kd bg sp (S m ob) (Q m ob) (by omega) (mBu_of (hF 0 (by decide)) (hF 7 (by decide)) hB) (by rw [hF 10 (by decide)]; exact (hC m (by omega) ob (by omega)).1) (hC m (by omega) ob (by omega)).2.2 (by rw [hF 11 (by decide)]; exact (hC m (by omega) ob (by omega)).2.1) (by omega) (by omega)) ?_
          refine gR.steps 7 (τ, (204, [some (.ref 0), some (.int (nI (xLook (xLk lm lb nb (xSm S Q) sp m (xBel n K M B gn nb nl lm lb (xSm S Q) sp om ob f0 m - 10 * xFire K M B gn nb m n) nl) (decide (S m ob = 1) || Q m ob) (sp ob)))), some (.int (nI m)), some (.int 1), some (.int (nI nl))], [.int 1, .int (nI m), .ref 13])) rfl ?_
          refine gR.brF rfl (by decide) ?_
          refine gR.steps 2 (τ, (214, [some (.ref 0), some (.int (nI (xLook (xLk lm lb nb (xSm S Q) sp m (xBel n K M B gn nb nl lm lb (xSm S Q) sp om ob f0 m - 10 * xFire K M B gn nb m n) nl) (decide (S m ob = 1) || Q m ob) (sp ob)))), some (.int (nI m)), some (.int 1), some (.int (nI nl))], [.int (nI (xLook (xLk lm lb nb (xSm S Q) sp m (xBel n K M B gn nb nl lm lb (xSm S Q) sp om ob f0 m - 10 * xFire K M B gn nb m n) nl) (decide (S m ob = 1) || Q m ob) (sp ob))), .int (nI m), .ref 13])) rfl ?_
          refine gR.callp rfl (s_X11_kept (by omega) τ (nI (xLook (xLk lm lb nb (xSm S Q) sp m (xBel n K M B gn nb nl lm lb (xSm S Q) sp om ob f0 m - 10 * xFire K M B gn nb m n) nl) (decide (S m ob = 1) || Q m ob) (sp ob)))) ?_
          have hnew : xKept (Int32.toInt (nI (xLook (xLk lm lb nb (xSm S Q) sp m (xBel n K M B gn nb nl lm lb (xSm S Q) sp om ob f0 m - 10 * xFire K M B gn nb m n) nl) (decide (S m ob = 1) || Q m ob) (sp ob)))) = xBel n K M B gn nb nl lm lb (xSm S Q) sp om ob f0 (m + 1) := by
            show _ = xMon n K M B gn nb nl lm lb (xSm S Q) sp om ob m (xBel n K M B gn nb nl lm lb (xSm S Q) sp om ob f0 m)
            unfold xMon
            rw [if_pos hom, xKept_id rfl (xLook_le (xLk_le (by omega) nl))]
            rfl
          refine gR.ast (i := nI m) (j := m) (N := 24) (q := 13) (x := nI (xKept (Int32.toInt (nI (xLook (xLk lm lb nb (xSm S Q) sp m (xBel n K M B gn nb nl lm lb (xSm S Q) sp om ob f0 m - 10 * xFire K M B gn nb m n) nl) (decide (S m ob = 1) || Q m ob) (sp ob)))))) rfl rfl (by omega) (by omega) ?_
          refine gR.steps 3 (gUp τ 13 m (nI (xKept (Int32.toInt (nI (xLook (xLk lm lb nb (xSm S Q) sp m (xBel n K M B gn nb nl lm lb (xSm S Q) sp om ob f0 m - 10 * xFire K M B gn nb m n) nl) (decide (S m ob = 1) || Q m ob) (sp ob)))))), (223, [some (.ref 0), some (.int (nI (xLook (xLk lm lb nb (xSm S Q) sp m (xBel n K M B gn nb nl lm lb (xSm S Q) sp om ob f0 m - 10 * xFire K M B gn nb m n) nl) (decide (S m ob = 1) || Q m ob) (sp ob)))), some (.int (nI m)), some (.int 1), some (.int (nI nl))], [.int (nI m), .ref 13])) rfl ?_
          refine gR.ald (i := nI m) (j := m) (N := 24) (g := (gUp τ 13 m (nI (xKept (Int32.toInt (nI (xLook (xLk lm lb nb (xSm S Q) sp m (xBel n K M B gn nb nl lm lb (xSm S Q) sp om ob f0 m - 10 * xFire K M B gn nb m n) nl) (decide (S m ob = 1) || Q m ob) (sp ob))))))) 13) rfl rfl (by omega) (by omega) ?_
          refine gR.topI (y := nI (xKept (Int32.toInt (nI (xLook (xLk lm lb nb (xSm S Q) sp m (xBel n K M B gn nb nl lm lb (xSm S Q) sp om ob f0 m - 10 * xFire K M B gn nb m n) nl) (decide (S m ob = 1) || Q m ob) (sp ob)))))) (by rw [gUp_s]) ?_
          refine gR.steps 3 (gUp τ 13 m (nI (xKept (Int32.toInt (nI (xLook (xLk lm lb nb (xSm S Q) sp m (xBel n K M B gn nb nl lm lb (xSm S Q) sp om ob f0 m - 10 * xFire K M B gn nb m n) nl) (decide (S m ob = 1) || Q m ob) (sp ob)))))), (7, [some (.ref 0), some (.int (nI (xKept (Int32.toInt (nI (xLook (xLk lm lb nb (xSm S Q) sp m (xBel n K M B gn nb nl lm lb (xSm S Q) sp om ob f0 m - 10 * xFire K M B gn nb m n) nl) (decide (S m ob = 1) || Q m ob) (sp ob))))))), some (.int ((nI m) + 1)), some (.int 1), some (.int (nI nl))], [])) rfl ?_
          refine gR.forget [some (.ref 0), some (.int (nI (xBel n K M B gn nb nl lm lb (xSm S Q) sp om ob f0 (m + 1)))), some (.int (nI (m + 1))), none, none] ⟨rfl, ⟨gSomeI (congrArg nI (show _ = xBel n K M B gn nb nl lm lb (xSm S Q) sp om ob f0 (m + 1) from hnew)), ⟨gSomeI (gN_add rfl rfl), trivial⟩⟩⟩ ?_
          exact ih ⟨m + 1, _⟩ ⟨by omega, mBeF_up hF, lt_s (fun m2 h2 => by rw [gUp_o (by omega)]; exact hrows m2 h2) (by rw [gUp_s]; exact congrArg nI (show _ = xBel n K M B gn nb nl lm lb (xSm S Q) sp om ob f0 (m + 1) from hnew))⟩ (by dsimp only; omega)
      · rw [gN_le (x := nI nl) (y := nI i) (a := nl) (b := i) rfl rfl (by omega) (by omega)] at zc117
        have hll := hL.2.2 i (by omega)
        refine gR.steps 5 (τ, (128, [some (.ref 0), some (.int (nI (xLk lm lb nb (xSm S Q) sp m (xBel n K M B gn nb nl lm lb (xSm S Q) sp om ob f0 m - 10 * xFire K M B gn nb m n) i))), some (.int (nI m)), some (.int (bI (xLkAny lm lb nb m i = true))), some (.int (nI i))], [.int (2 * (nI i)), .ref 8])) rfl ?_
        refine gR.ald (i := 2 * (nI i)) (j := 2 * i) (N := 24) (g := τ 8) rfl (gN_mul rfl rfl) (by omega) (by omega) ?_
        refine gR.topI (y := nI (lm i)) (by rw [hF 8 (by decide)]; exact (hL.2.2 i (by omega)).1) ?_
        refine gR.steps 1 (τ, (130, [some (.ref 0), some (.int (nI (xLk lm lb nb (xSm S Q) sp m (xBel n K M B gn nb nl lm lb (xSm S Q) sp om ob f0 m - 10 * xFire K M B gn nb m n) i))), some (.int (nI m)), some (.int (bI (xLkAny lm lb nb m i = true))), some (.int (nI i))], [.int (nI m), .int (nI (lm i))])) rfl ?_
        refine gR.ifte rfl (fun zc130 => ?_) (fun zc130 => ?_)
        · rw [gN_eq (x := nI (lm i)) (y := nI m) (a := lm i) (b := m) rfl rfl (by omega) (by omega)] at zc130
          refine gR.steps 2 (τ, (111, [some (.ref 0), some (.int (nI (xLk lm lb nb (xSm S Q) sp m (xBel n K M B gn nb nl lm lb (xSm S Q) sp om ob f0 m - 10 * xFire K M B gn nb m n) i))), some (.int (nI m)), some (.int (bI (xLkAny lm lb nb m i = true))), some (.int ((nI i) + 1))], [])) rfl ?_
          refine gR.forget [some (.ref 0), some (.int (nI (xLk lm lb nb (xSm S Q) sp m (xBel n K M B gn nb nl lm lb (xSm S Q) sp om ob f0 m - 10 * xFire K M B gn nb m n) (i + 1)))), some (.int (nI m)), some (.int (bI (xLkAny lm lb nb m (i + 1) = true))), some (.int (nI (i + 1)))] ⟨rfl, ⟨gSomeI (congrArg nI (by simp only [xLk]; rw [if_neg (fun z => zc130 z.1)])), ⟨rfl, ⟨gSomeI (bI_congr (by unfold xLkAny; simp only [xAny, Bool.or_eq_true, decide_eq_true_eq]; exact ⟨Or.inl, fun z => z.elim id (fun y => absurd y (fun z => zc130 z.1))⟩)), ⟨gSomeI (gN_add rfl rfl), trivial⟩⟩⟩⟩⟩ ?_
          exact ih3 (i + 1) (by omega) (by omega)
        · rw [gN_eq (x := nI (lm i)) (y := nI m) (a := lm i) (b := m) rfl rfl (by omega) (by omega)] at zc130
          refine gR.steps 8 (τ, (144, [some (.ref 0), some (.int (nI (xLk lm lb nb (xSm S Q) sp m (xBel n K M B gn nb nl lm lb (xSm S Q) sp om ob f0 m - 10 * xFire K M B gn nb m n) i))), some (.int (nI m)), some (.int (bI (xLkAny lm lb nb m i = true))), some (.int (nI i))], [.int ((2 * (nI i)) + 1), .ref 8, .ref 0])) rfl ?_
          refine gR.ald (i := (2 * (nI i)) + 1) (j := 2 * i + 1) (N := 24) (g := τ 8) rfl (gN_add (gN_mul rfl rfl) rfl) (by omega) (by omega) ?_
          refine gR.topI (y := nI (lb i)) (by rw [hF 8 (by decide)]; exact (hL.2.2 i (by omega)).2.1) ?_
          refine gR.callp rfl (s_X11_isBushN (by omega) τ (lb i) nb (by rw [hF 0 (by decide)]; exact hB.1) (by omega) (by omega)) ?_
          refine gR.ifte rfl (fun zc148 => ?_) (fun zc148 => ?_)
          · rw [bI_eq0] at zc148
            refine gR.steps 2 (τ, (111, [some (.ref 0), some (.int (nI (xLk lm lb nb (xSm S Q) sp m (xBel n K M B gn nb nl lm lb (xSm S Q) sp om ob f0 m - 10 * xFire K M B gn nb m n) i))), some (.int (nI m)), some (.int (bI (xLkAny lm lb nb m i = true))), some (.int ((nI i) + 1))], [])) rfl ?_
            refine gR.forget [some (.ref 0), some (.int (nI (xLk lm lb nb (xSm S Q) sp m (xBel n K M B gn nb nl lm lb (xSm S Q) sp om ob f0 m - 10 * xFire K M B gn nb m n) (i + 1)))), some (.int (nI m)), some (.int (bI (xLkAny lm lb nb m (i + 1) = true))), some (.int (nI (i + 1)))] ⟨rfl, ⟨gSomeI (congrArg nI (by simp only [xLk]; rw [if_neg (fun z => zc148 z.2)])), ⟨rfl, ⟨gSomeI (bI_congr (by unfold xLkAny; simp only [xAny, Bool.or_eq_true, decide_eq_true_eq]; exact ⟨Or.inl, fun z => z.elim id (fun y => absurd y (fun z => zc148 z.2))⟩)), ⟨gSomeI (gN_add rfl rfl), trivial⟩⟩⟩⟩⟩ ?_
            exact ih3 (i + 1) (by omega) (by omega)
          · rw [bI_eq0, Decidable.not_not] at zc148
            refine gR.steps 10 (τ, (164, [some (.ref 0), some (.int (nI (xLk lm lb nb (xSm S Q) sp m (xBel n K M B gn nb nl lm lb (xSm S Q) sp om ob f0 m - 10 * xFire K M B gn nb m n) i))), some (.int (nI m)), some (.int (bI (xLkAny lm lb nb m i = true))), some (.int (nI i))], [.int ((2 * (nI i)) + 1), .ref 8, .int (nI m), .int (nI (xLk lm lb nb (xSm S Q) sp m (xBel n K M B gn nb nl lm lb (xSm S Q) sp om ob f0 m - 10 * xFire K M B gn nb m n) i)), .ref 0])) rfl ?_
            refine gR.ald (i := (2 * (nI i)) + 1) (j := 2 * i + 1) (N := 24) (g := τ 8) rfl (gN_add (gN_mul rfl rfl) rfl) (by omega) (by omega) ?_
            refine gR.topI (y := nI (lb i)) (by rw [hF 8 (by decide)]; exact (hL.2.2 i (by omega)).2.1) ?_
            refine gR.callp rfl (s_X11_looked (by omega) τ (xLk lm lb nb (xSm S Q) sp m (xBel n K M B gn nb nl lm lb (xSm S Q) sp om ob f0 m - 10 * xFire K M B gn nb m n) i) m (lb i) nb kd bg sp (S m (lb i)) (Q m (lb i)) (by omega) (mBu_of (hF 0 (by decide)) (hF 7 (by decide)) hB) (by rw [hF 10 (by decide)]; exact (hC m (by omega) (lb i) (by omega)).1) (hC m (by omega) (lb i) (by omega)).2.2 (by rw [hF 11 (by decide)]; exact (hC m (by omega) (lb i) (by omega)).2.1) (by omega) (by omega)) ?_
            refine gR.steps 5 (τ, (111, [some (.ref 0), some (.int (nI (xLook (xLk lm lb nb (xSm S Q) sp m (xBel n K M B gn nb nl lm lb (xSm S Q) sp om ob f0 m - 10 * xFire K M B gn nb m n) i) (decide (S m (lb i) = 1) || Q m (lb i)) (sp (lb i))))), some (.int (nI m)), some (.int 1), some (.int ((nI i) + 1))], [])) rfl ?_
            refine gR.forget [some (.ref 0), some (.int (nI (xLk lm lb nb (xSm S Q) sp m (xBel n K M B gn nb nl lm lb (xSm S Q) sp om ob f0 m - 10 * xFire K M B gn nb m n) (i + 1)))), some (.int (nI m)), some (.int (bI (xLkAny lm lb nb m (i + 1) = true))), some (.int (nI (i + 1)))] ⟨rfl, ⟨gSomeI (congrArg nI (by simp only [xLk]; rw [if_pos ⟨Decidable.not_not.mp zc130, zc148⟩]; rfl)), ⟨rfl, ⟨gSomeI (bI_t (p := xLkAny lm lb nb m (i + 1) = true) (by unfold xLkAny; simp only [xAny, Bool.or_eq_true, decide_eq_true_eq]; exact Or.inr ⟨Decidable.not_not.mp zc130, zc148⟩)).symm, ⟨gSomeI (gN_add rfl rfl), trivial⟩⟩⟩⟩⟩ ?_
            exact ih3 (i + 1) (by omega) (by omega)
    · rw [gN_le (x := nI n) (y := nI e) (a := n) (b := e) rfl rfl (by omega) (by omega)] at zc20
      have hee := hE.2.2 e (by omega)
      refine gR.join (α := Int32) τ (fun zv => (81, [some (.ref 0), some (.int (nI (xBel n K M B gn nb nl lm lb (xSm S Q) sp om ob f0 m - 10 * xFire K M B gn nb m e))), some (.int (nI m)), some (.int (nI e)), none], [.int zv])) (bI (K e = 0 ∧ M e = m ∧ B e < nb ∧ ¬ gn e = true)) ?_ (fun zj81 => ?_)
      · refine gR.steps 2 (τ, (85, [some (.ref 0), some (.int (nI (xBel n K M B gn nb nl lm lb (xSm S Q) sp om ob f0 m - 10 * xFire K M B gn nb m e))), some (.int (nI m)), some (.int (nI e)), some (.int (bI (K e = 0 ∧ M e = m ∧ B e < nb ∧ ¬ gn e = true)))], [.int (bI (K e = 0 ∧ M e = m ∧ B e < nb ∧ ¬ gn e = true))])) rfl ?_
        refine gR.ifte rfl (fun zc85 => ?_) (fun zc85 => ?_)
        · rw [bI_eq0] at zc85
          refine gR.steps 1 (τ, (96, [some (.ref 0), some (.int (nI (xBel n K M B gn nb nl lm lb (xSm S Q) sp om ob f0 m - 10 * xFire K M B gn nb m e))), some (.int (nI m)), some (.int (nI e)), some (.int (bI (K e = 0 ∧ M e = m ∧ B e < nb ∧ ¬ gn e = true)))], [.int (nI (xBel n K M B gn nb nl lm lb (xSm S Q) sp om ob f0 m - 10 * xFire K M B gn nb m e))])) rfl ?_
          refine gR.callp rfl (s_X11_kept (by omega) τ (nI (xBel n K M B gn nb nl lm lb (xSm S Q) sp om ob f0 m - 10 * xFire K M B gn nb m e))) ?_
          refine gR.steps 3 (τ, (15, [some (.ref 0), some (.int (nI (xKept (Int32.toInt (nI (xBel n K M B gn nb nl lm lb (xSm S Q) sp om ob f0 m - 10 * xFire K M B gn nb m e)))))), some (.int (nI m)), some (.int ((nI e) + 1)), some (.int (bI (K e = 0 ∧ M e = m ∧ B e < nb ∧ ¬ gn e = true)))], [])) rfl ?_
          refine gR.forget [some (.ref 0), some (.int (nI (xBel n K M B gn nb nl lm lb (xSm S Q) sp om ob f0 m - 10 * xFire K M B gn nb m (e + 1)))), some (.int (nI m)), some (.int (nI (e + 1))), none] ⟨rfl, ⟨gSomeI (congrArg nI (by rw [xKept_id rfl (by omega), xFire_n zc85])), ⟨rfl, ⟨gSomeI (gN_add rfl rfl), trivial⟩⟩⟩⟩ ?_
          exact ih2 (e + 1) (by omega) (by omega)
        · rw [bI_eq0, Decidable.not_not] at zc85
          refine gR.steps 4 (τ, (96, [some (.ref 0), some (.int (nI (xBel n K M B gn nb nl lm lb (xSm S Q) sp om ob f0 m - 10 * xFire K M B gn nb m e))), some (.int (nI m)), some (.int (nI e)), some (.int (bI (K e = 0 ∧ M e = m ∧ B e < nb ∧ ¬ gn e = true)))], [.int ((nI (xBel n K M B gn nb nl lm lb (xSm S Q) sp om ob f0 m - 10 * xFire K M B gn nb m e)) - 10)])) rfl ?_
          refine gR.callp rfl (s_X11_kept (by omega) τ ((nI (xBel n K M B gn nb nl lm lb (xSm S Q) sp om ob f0 m - 10 * xFire K M B gn nb m e)) - 10)) ?_
          refine gR.steps 3 (τ, (15, [some (.ref 0), some (.int (nI (xKept (Int32.toInt ((nI (xBel n K M B gn nb nl lm lb (xSm S Q) sp om ob f0 m - 10 * xFire K M B gn nb m e)) - 10))))), some (.int (nI m)), some (.int ((nI e) + 1)), some (.int (bI (K e = 0 ∧ M e = m ∧ B e < nb ∧ ¬ gn e = true)))], [])) rfl ?_
          refine gR.forget [some (.ref 0), some (.int (nI (xBel n K M B gn nb nl lm lb (xSm S Q) sp om ob f0 m - 10 * xFire K M B gn nb m (e + 1)))), some (.int (nI m)), some (.int (nI (e + 1))), none] ⟨rfl, ⟨gSomeI (congrArg nI (by rw [xKept_sub rfl (show (10 : Int32) = nI 10 from rfl) (by omega) (by omega), xFire_s zc85]; omega)), ⟨rfl, ⟨gSomeI (gN_add rfl rfl), trivial⟩⟩⟩⟩ ?_
          exact ih2 (e + 1) (by omega) (by omega)
      · refine gR.steps 5 (τ, (30, [some (.ref 0), some (.int (nI (xBel n K M B gn nb nl lm lb (xSm S Q) sp om ob f0 m - 10 * xFire K M B gn nb m e))), some (.int (nI m)), some (.int (nI e)), none], [.int (3 * (nI e)), .ref 9])) rfl ?_
        refine gR.ald (i := 3 * (nI e)) (j := 3 * e) (N := 24) (g := τ 9) rfl (gN_mul rfl rfl) (by omega) (by omega) ?_
        refine gR.topI (y := nI (K e)) (by rw [hF 9 (by decide)]; exact (hE.2.2 e (by omega)).1) ?_
        refine gR.ifte rfl (fun zc31 => ?_) (fun zc31 => ?_)
        · rw [gN_eq (x := nI (K e)) (y := 0) (a := K e) (b := 0) rfl rfl (by omega) (by omega)] at zc31
          refine gR.steps 1 (τ, (81, [some (.ref 0), some (.int (nI (xBel n K M B gn nb nl lm lb (xSm S Q) sp om ob f0 m - 10 * xFire K M B gn nb m e))), some (.int (nI m)), some (.int (nI e)), none], [.int 0])) rfl ?_
          exact zj81 _ (bI_f (p := K e = 0 ∧ M e = m ∧ B e < nb ∧ ¬ gn e = true) (fun z => zc31 z.1)).symm
        · rw [gN_eq (x := nI (K e)) (y := 0) (a := K e) (b := 0) rfl rfl (by omega) (by omega)] at zc31
          refine gR.steps 7 (τ, (43, [some (.ref 0), some (.int (nI (xBel n K M B gn nb nl lm lb (xSm S Q) sp om ob f0 m - 10 * xFire K M B gn nb m e))), some (.int (nI m)), some (.int (nI e)), none], [.int ((3 * (nI e)) + 1), .ref 9])) rfl ?_
          refine gR.ald (i := (3 * (nI e)) + 1) (j := 3 * e + 1) (N := 24) (g := τ 9) rfl (gN_add (gN_mul rfl rfl) rfl) (by omega) (by omega) ?_
          refine gR.topI (y := nI (M e)) (by rw [hF 9 (by decide)]; exact (hE.2.2 e (by omega)).2.1) ?_
          refine gR.steps 1 (τ, (45, [some (.ref 0), some (.int (nI (xBel n K M B gn nb nl lm lb (xSm S Q) sp om ob f0 m - 10 * xFire K M B gn nb m e))), some (.int (nI m)), some (.int (nI e)), none], [.int (nI m), .int (nI (M e))])) rfl ?_
          refine gR.ifte rfl (fun zc45 => ?_) (fun zc45 => ?_)
          · rw [gN_eq (x := nI (M e)) (y := nI m) (a := M e) (b := m) rfl rfl (by omega) (by omega)] at zc45
            refine gR.steps 1 (τ, (81, [some (.ref 0), some (.int (nI (xBel n K M B gn nb nl lm lb (xSm S Q) sp om ob f0 m - 10 * xFire K M B gn nb m e))), some (.int (nI m)), some (.int (nI e)), none], [.int 0])) rfl ?_
            exact zj81 _ (bI_f (p := K e = 0 ∧ M e = m ∧ B e < nb ∧ ¬ gn e = true) (fun z => zc45 z.2.1)).symm
          · rw [gN_eq (x := nI (M e)) (y := nI m) (a := M e) (b := m) rfl rfl (by omega) (by omega)] at zc45
            refine gR.steps 8 (τ, (58, [some (.ref 0), some (.int (nI (xBel n K M B gn nb nl lm lb (xSm S Q) sp om ob f0 m - 10 * xFire K M B gn nb m e))), some (.int (nI m)), some (.int (nI e)), none], [.int ((3 * (nI e)) + 2), .ref 9, .ref 0])) rfl ?_
            refine gR.ald (i := (3 * (nI e)) + 2) (j := 3 * e + 2) (N := 24) (g := τ 9) rfl (gN_add (gN_mul rfl rfl) rfl) (by omega) (by omega) ?_
            refine gR.topI (y := nI (B e)) (by rw [hF 9 (by decide)]; exact (hE.2.2 e (by omega)).2.2.1) ?_
            refine gR.callp rfl (s_X11_isBushN (by omega) τ (B e) nb (by rw [hF 0 (by decide)]; exact hB.1) (by omega) (by omega)) ?_
            refine gR.ifte rfl (fun zc62 => ?_) (fun zc62 => ?_)
            · rw [bI_eq0] at zc62
              refine gR.steps 1 (τ, (81, [some (.ref 0), some (.int (nI (xBel n K M B gn nb nl lm lb (xSm S Q) sp om ob f0 m - 10 * xFire K M B gn nb m e))), some (.int (nI m)), some (.int (nI e)), none], [.int 0])) rfl ?_
              exact zj81 _ (bI_f (p := K e = 0 ∧ M e = m ∧ B e < nb ∧ ¬ gn e = true) (fun z => zc62 z.2.2.1)).symm
            · rw [bI_eq0, Decidable.not_not] at zc62
              refine gR.steps 3 (τ, (70, [some (.ref 0), some (.int (nI (xBel n K M B gn nb nl lm lb (xSm S Q) sp om ob f0 m - 10 * xFire K M B gn nb m e))), some (.int (nI m)), some (.int (nI e)), none], [.int (nI e), .int (τ 0 15)])) rfl ?_
              refine gR.callp rfl (s_X11_isIn (by omega) τ (τ 0 15) (nI e)) ?_
              refine gR.ifte rfl (fun zc73 => ?_) (fun zc73 => ?_)
              · rw [bI_ne0] at zc73
                refine gR.steps 1 (τ, (81, [some (.ref 0), some (.int (nI (xBel n K M B gn nb nl lm lb (xSm S Q) sp om ob f0 m - 10 * xFire K M B gn nb m e))), some (.int (nI m)), some (.int (nI e)), none], [.int 0])) rfl ?_
                exact zj81 _ (bI_f (p := K e = 0 ∧ M e = m ∧ B e < nb ∧ ¬ gn e = true) (fun z => z.2.2.2 ((hg e (by omega)).mp (by rw [← hF 0 (by decide)]; exact zc73)))).symm
              · rw [bI_ne0] at zc73
                refine gR.steps 2 (τ, (81, [some (.ref 0), some (.int (nI (xBel n K M B gn nb nl lm lb (xSm S Q) sp om ob f0 m - 10 * xFire K M B gn nb m e))), some (.int (nI m)), some (.int (nI e)), none], [.int 1])) rfl ?_
                exact zj81 _ (bI_t (p := K e = 0 ∧ M e = m ∧ B e < nb ∧ ¬ gn e = true) ⟨Decidable.not_not.mp zc31, Decidable.not_not.mp zc45, zc62, fun z => zc73 (by rw [hF 0 (by decide)]; exact (hg e (by omega)).mpr z)⟩).symm
