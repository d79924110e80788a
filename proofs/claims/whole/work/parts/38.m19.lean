def xU (s : Int32) : Nat := s.toBitVec.toNat / 65536
def xNx (s : Int32) : Int32 := 1103515245 * s + 12345
def xSq (s : Int32) : Nat → Int32
  | 0 => s
  | n + 1 => xNx (xSq s n)
theorem xU_lt (s : Int32) : xU s < 65536 := by
  have := s.toBitVec.isLt
  unfold xU
  omega
theorem xU_eq (s : Int32) : (Int32.toUInt32 s >>> (Int32.toUInt32 16 &&& Int32.toUInt32 31)).toInt32 = nI (xU s) := by
  apply Int32.toBitVec_inj.mp
  apply BitVec.eq_of_toNat_eq
  rw [pk_ushr s 16 16 (by decide), pk_tn (by have := xU_lt s; omega)]
  rfl
theorem s_X11_lot {d : Nat} (hd : 1 ≤ d) (σ : gS) (k : Nat) (hk : 0 < k) (hk2 : k < 100) : gC d 193 [.ref 0, .int (nI k)] σ (fun r τ => r = some (.int (nI (xU (xNx (σ 0 27)) % k))) ∧ τ = gUp σ 0 27 (xNx (σ 0 27))) := by
  obtain ⟨d, rfl⟩ : ∃ k, d = k + 1 := ⟨d - 1, by omega⟩
  refine gC.of (P := pX11_lot) (nL := 2) (rt := (some (.int))) (lv := [some (.ref 0), some (.int (nI k))]) (by decide +kernel) rfl rfl rfl (by simp [gEnt, Value.category]) rfl ?_
  refine gR.steps 13 (gUp σ 0 27 ((1103515245 * (σ 0 27)) + 12345), (24, [some (.ref 0), some (.int (nI k))], [.int (nI k), .int ((Int32.toUInt32 ((1103515245 * (σ 0 27)) + 12345) >>> (Int32.toUInt32 16 &&& Int32.toUInt32 31)).toInt32)])) rfl ?_
  refine gR.brT (p := ¬ (nI k) = 0) rfl (gN_ne (a := k) (b := 0) rfl rfl (by omega) (by omega) (by omega)) ?_
  show gR _ _ _ (gUp σ 0 27 ((1103515245 * (σ 0 27)) + 12345)) (25, [some (.ref 0), some (.int (nI k))], [.int (((Int32.toUInt32 ((1103515245 * (σ 0 27)) + 12345) >>> (Int32.toUInt32 16 &&& Int32.toUInt32 31)).toInt32) - ((Int32.toUInt32 ((1103515245 * (σ 0 27)) + 12345) >>> (Int32.toUInt32 16 &&& Int32.toUInt32 31)).toInt32) / (nI k) * (nI k))])
  refine gR.ret rfl ?_
  have hu := xU_lt (xNx (σ 0 27))
  exact ⟨trivial, congrArg (fun z => some (Value.int z)) (by rw [show (Int32.toUInt32 (1103515245 * (σ 0 27) + 12345) >>> (Int32.toUInt32 16 &&& Int32.toUInt32 31)).toInt32 = nI (xU (xNx (σ 0 27))) from xU_eq _]; exact gN_rem rfl rfl (by omega) (by omega) (by omega)), rfl⟩
theorem s_X11_putsE {d : Nat} (hd : 1 ≤ d) (σ : gS) (n : Nat) (k m b : Nat) (hE : σ 0 13 = nI n) (hn : n < 8) : gC d 144 [.ref 0, .int (nI k), .int (nI m), .int (nI b)] σ (fun r τ => r = none ∧ τ = gUp (gUp (gUp (gUp σ 9 (3 * n) (nI k)) 9 (3 * n + 1) (nI m)) 9 (3 * n + 2) (nI b)) 0 13 (nI n + 1)) := by
  obtain ⟨d, rfl⟩ : ∃ k, d = k + 1 := ⟨d - 1, by omega⟩
  refine gC.of (P := pX11_puts) (nL := 4) (rt := none) (lv := [some (.ref 0), some (.int (nI k)), some (.int (nI m)), some (.int (nI b))]) (by decide +kernel) rfl rfl rfl (by simp [gEnt, Value.category]) rfl ?_
  refine gR.steps 5 (σ, (9, [some (.ref 0), some (.int (nI k)), some (.int (nI m)), some (.int (nI b))], [.int (σ 0 13), .int 3, .ref 9])) rfl ?_
  refine gR.topI (y := nI (n)) hE ?_
  refine gR.steps 2 (σ, (11, [some (.ref 0), some (.int (nI k)), some (.int (nI m)), some (.int (nI b))], [.int (nI k), .int (3 * (nI n)), .ref 9])) rfl ?_
  refine gR.ast (i := 3 * (nI n)) (j := 3 * n) (N := 24) (q := 9) (x := nI k) rfl (gN_mul rfl rfl) (by omega) (by omega) ?_
  refine gR.steps 5 (gUp σ 9 (3 * n) (nI k), (21, [some (.ref 0), some (.int (nI k)), some (.int (nI m)), some (.int (nI b))], [.int (σ 0 13), .int 3, .ref 9])) rfl ?_
  refine gR.topI (y := nI (n)) hE ?_
  refine gR.steps 4 (gUp σ 9 (3 * n) (nI k), (25, [some (.ref 0), some (.int (nI k)), some (.int (nI m)), some (.int (nI b))], [.int (nI m), .int ((3 * (nI n)) + 1), .ref 9])) rfl ?_
  refine gR.ast (i := (3 * (nI n)) + 1) (j := 3 * n + 1) (N := 24) (q := 9) (x := nI m) rfl (gN_add (gN_mul rfl rfl) rfl) (by omega) (by omega) ?_
  refine gR.steps 5 (gUp (gUp σ 9 (3 * n) (nI k)) 9 (3 * n + 1) (nI m), (35, [some (.ref 0), some (.int (nI k)), some (.int (nI m)), some (.int (nI b))], [.int (σ 0 13), .int 3, .ref 9])) rfl ?_
  refine gR.topI (y := nI (n)) hE ?_
  refine gR.steps 4 (gUp (gUp σ 9 (3 * n) (nI k)) 9 (3 * n + 1) (nI m), (39, [some (.ref 0), some (.int (nI k)), some (.int (nI m)), some (.int (nI b))], [.int (nI b), .int ((3 * (nI n)) + 2), .ref 9])) rfl ?_
  refine gR.ast (i := (3 * (nI n)) + 2) (j := 3 * n + 2) (N := 24) (q := 9) (x := nI b) rfl (gN_add (gN_mul rfl rfl) rfl) (by omega) (by omega) ?_
  refine gR.steps 3 (gUp (gUp (gUp σ 9 (3 * n) (nI k)) 9 (3 * n + 1) (nI m)) 9 (3 * n + 2) (nI b), (45, [some (.ref 0), some (.int (nI k)), some (.int (nI m)), some (.int (nI b))], [.int (σ 0 13), .ref 0])) rfl ?_
  refine gR.topI (y := nI (n)) hE ?_
  refine gR.steps 3 (gUp (gUp (gUp (gUp σ 9 (3 * n) (nI k)) 9 (3 * n + 1) (nI m)) 9 (3 * n + 2) (nI b)) 0 13 ((nI n) + 1), (50, [some (.ref 0), some (.int (nI k)), some (.int (nI m)), some (.int (nI b))], [])) rfl ?_
  show gR _ _ _ (gUp (gUp (gUp (gUp σ 9 (3 * n) (nI k)) 9 (3 * n + 1) (nI m)) 9 (3 * n + 2) (nI b)) 0 13 ((nI n) + 1)) (50, [some (.ref 0), some (.int (nI k)), some (.int (nI m)), some (.int (nI b))], [])
  refine gR.ret rfl ?_
  exact ⟨trivial, rfl, rfl⟩
/-- the drawn events -/
def cK (s : Int32) (e : Nat) : Nat := xU (xSq s (3 * e + 1)) % 4
def cM (s : Int32) (e : Nat) : Nat := xU (xSq s (3 * e + 2)) % 24
def cB (s : Int32) (nb e : Nat) : Nat := xU (xSq s (3 * e + 3)) % nb
def dCen (D : xDat) (s : Int32) (n : Nat) : xDat := dSetE D (if 0 < dNb D then n else 0) (cK s) (cM s) (cB s (dNb D))
def dCentury (D : xDat) (s : Int32) (n w : Nat) : Int32 := if w = 0 then nI (xPop (aBare (dCen D s n))) else aRun (dCen D s n)
/-- while the told events are kept aside -/
def mTo (σ τ : gS) (i : Nat) : Prop := (∀ q, q ≠ 17 → τ q = σ q) ∧ ∀ j, j < i → τ 17 j = σ 9 j
theorem mTo_up {σ τ : gS} {i : Nat} {x : Int32} (h : mTo σ τ i) (hx : x = σ 9 i) : mTo σ (gUp τ 17 i x) (i + 1) := ⟨fun q hq => by rw [gUp_ne hq]; exact h.1 q hq, fun j hj => by
  by_cases hji : j = i
  · rw [hji, gUp_s]; exact hx
  · rw [gUp_o (fun z => hji z.2)]; exact h.2 j (by omega)⟩
/-- while events are drawn: e of them -/
def mCe (σ τ : gS) (s : Int32) (nb e : Nat) : Prop := (∀ q, q ≠ 0 → q ≠ 9 → q ≠ 17 → τ q = σ q) ∧ (∀ p, p ≠ 13 → p ≠ 27 → τ 0 p = σ 0 p) ∧ (∀ j, 24 ≤ j → τ 9 j = σ 9 j) ∧ (∀ j, j < 24 → τ 17 j = σ 9 j) ∧ mEv τ e (cK s) (cM s) (cB s nb) ∧ τ 0 27 = xSq s (3 * e) ∧ (nb = 0 → e = 0)
theorem mCe_next {σ τ : gS} {s : Int32} {nb e : Nat} {y : Int32} (h : mCe σ τ s nb e) (h8 : e < 8) (hnb : 0 < nb) (hn10 : nb ≤ 10) (hy : y = nI (e + 1)) : mCe σ (gUp (gUp (gUp (gUp (gUp (gUp (gUp τ 0 27 (xNx (τ 0 27))) 0 27 (xNx (xNx (τ 0 27)))) 0 27 (xNx (xNx (xNx (τ 0 27))))) 9 (3 * e) (nI (xU (xNx (τ 0 27)) % 4))) 9 (3 * e + 1) (nI (xU (xNx (xNx (τ 0 27))) % 24))) 9 (3 * e + 2) (nI (xU (xNx (xNx (xNx (τ 0 27)))) % nb))) 0 13 y) s nb (e + 1) := by
  obtain ⟨h1, h2, h3, h4, h5, h6, h7⟩ := h
  refine ⟨fun q a b c => ?_, fun p a b => ?_, fun j hj => ?_, fun j hj => ?_, ⟨by rw [gUp_s]; exact hy, by omega, fun i hi => ?_⟩, ?_, fun z => by omega⟩
  · rw [gUp_ne a, gUp_ne b, gUp_ne b, gUp_ne b, gUp_ne a, gUp_ne a, gUp_ne a]; exact h1 q a b c
  · rw [gUp_o (by omega), gUp_o (by omega), gUp_o (by omega), gUp_o (by omega), gUp_o (by omega), gUp_o (by omega), gUp_o (by omega)]; exact h2 p a b
  · rw [gUp_o (by omega), gUp_o (by omega), gUp_o (by omega), gUp_o (by omega), gUp_o (by omega), gUp_o (by omega), gUp_o (by omega)]; exact h3 j hj
  · rw [gUp_o (by omega), gUp_o (by omega), gUp_o (by omega), gUp_o (by omega), gUp_o (by omega), gUp_o (by omega), gUp_o (by omega)]; exact h4 j hj
  · by_cases hie : i = e
    · subst hie
      refine ⟨?_, ?_, ?_, Nat.mod_lt _ (by decide), Nat.mod_lt _ (by decide), Nat.lt_of_lt_of_le (Nat.mod_lt _ hnb) hn10⟩
      · rw [gUp_o (by omega), gUp_o (by omega), gUp_o (by omega), gUp_s, h6]; rfl
      · rw [gUp_o (by omega), gUp_o (by omega), gUp_s, h6]; rfl
      · rw [gUp_o (by omega), gUp_s, h6]; rfl
    · obtain ⟨a1, a2, a3, a4⟩ := h5.2.2 i (by omega)
      exact ⟨by rw [gUp_o (by omega), gUp_o (by omega), gUp_o (by omega), gUp_o (by omega), gUp_o (by omega), gUp_o (by omega), gUp_o (by omega)]; exact a1, by rw [gUp_o (by omega), gUp_o (by omega), gUp_o (by omega), gUp_o (by omega), gUp_o (by omega), gUp_o (by omega), gUp_o (by omega)]; exact a2, by rw [gUp_o (by omega), gUp_o (by omega), gUp_o (by omega), gUp_o (by omega), gUp_o (by omega), gUp_o (by omega), gUp_o (by omega)]; exact a3, a4⟩
  · rw [gUp_o (by omega), gUp_o (by omega), gUp_o (by omega), gUp_o (by omega), gUp_s, h6]; rfl
