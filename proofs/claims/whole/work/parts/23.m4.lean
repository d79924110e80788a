theorem gN_sba {x y z : Int32} {a b c : Nat} (p : x = nI a) (q : y = nI b) (r : z = nI c) (h : b ≤ a + c) : x - y + z = nI (a + c - b) := by
  rw [p, q, r, ← pk_sub h, ← nI_add, Int32.sub_eq_add_neg, Int32.sub_eq_add_neg, Int32.add_assoc, Int32.add_comm (-nI b) (nI c), ← Int32.add_assoc]
/-- what a bush is in a month: 0 green, 1 bloom, 2 burnt, 3 eaten, 4 black -/
def xSt (n : Nat) (K M B : Nat → Nat) (gn : Nat → Bool) (who : Option Nat) (sort begin m : Nat) : Nat := if xOn n K M B gn 0 who sort m = true then 2 else if xOn n K M B gn 1 who sort m = true then 3 else if xOn n K M B gn 2 who sort m = true then 4 else if xSeason sort begin m = true then 1 else 0
theorem xSt_lt (n : Nat) (K M B : Nat → Nat) (gn : Nat → Bool) (who : Option Nat) (sort begin m : Nat) : xSt n K M B gn who sort begin m < 5 := by
  unfold xSt
  repeat' split
  all_goals omega
def xKept (z : Int) : Nat := if z < 0 then 0 else if 100 < z then 100 else z.toNat
def xLook (a : Nat) (s : Bool) (p : Nat) : Nat := if s = true then min 100 (a + p) else a - 5
theorem s_X11_isSeason {d : Nat} (hd : 1 ≤ d) (σ : gS) (nb : Nat) (kd bg sp : Nat → Nat) (m k : Nat) (hB : mBu σ nb kd bg sp) (hmm : m < 24) (hk : k < nb) : gC d 150 [.ref 0, .int (nI m), .int (nI k)] σ (fun r τ => r = some (.int (bI (xSeason (kd k) (bg k) m = true))) ∧ τ = σ) := by
  obtain ⟨d, rfl⟩ : ∃ k, d = k + 1 := ⟨d - 1, by omega⟩
  refine gC.of (P := pX11_isSeason) (nL := 4) (rt := (some (.boolean))) (lv := [some (.ref 0), some (.int (nI m)), some (.int (nI k)), none]) (by decide +kernel) rfl rfl rfl (by simp [gEnt, Value.category]) rfl ?_
  have hn11 := hB.2.1
  have hkk := hB.2.2 k hk
  have hl6 : ([6, 4, 3] : List Nat).getD (kd k) 0 ≤ 6 := by
    rcases (show kd k = 0 ∨ kd k = 1 ∨ kd k = 2 by omega) with h | h | h <;> rw [h] <;> decide
  refine gR.steps 2 (σ, (3, [some (.ref 0), some (.int (nI m)), some (.int (nI k)), none], [.int 12, .int (nI m)])) rfl ?_
  refine gR.brT (p := ¬ (12 : Int32) = 0) rfl (by decide) ?_
  refine gR.steps 7 (σ, (13, [some (.ref 0), some (.int (nI m)), some (.int (nI k)), none], [.int ((3 * (nI k)) + 1), .ref 7, .int ((nI m) - (nI m) / 12 * 12)])) rfl ?_
  refine gR.ald (i := (3 * (nI k)) + 1) (j := 3 * k + 1) (N := 33) (g := σ 7) rfl (gN_add (gN_mul rfl rfl) rfl) (by omega) (by omega) ?_
  refine gR.topI (y := nI (bg k)) (hB.2.2 k (by omega)).2.1 ?_
  refine gR.steps 4 (σ, (20, [some (.ref 0), some (.int (nI m)), some (.int (nI k)), none], [.int 12, .int ((((nI m) - (nI m) / 12 * 12) - (nI (bg k))) + 12)])) rfl ?_
  refine gR.brT (p := ¬ (12 : Int32) = 0) rfl (by decide) ?_
  refine gR.steps 2 (σ, (23, [some (.ref 0), some (.int (nI m)), some (.int (nI k)), some (.int (((((nI m) - (nI m) / 12 * 12) - (nI (bg k))) + 12) - ((((nI m) - (nI m) / 12 * 12) - (nI (bg k))) + 12) / 12 * 12))], [.int (((((nI m) - (nI m) / 12 * 12) - (nI (bg k))) + 12) - ((((nI m) - (nI m) / 12 * 12) - (nI (bg k))) + 12) / 12 * 12)])) rfl ?_
  refine gR.join (α := Int32) σ (fun zv => (56, [some (.ref 0), some (.int (nI m)), some (.int (nI k)), some (.int (((((nI m) - (nI m) / 12 * 12) - (nI (bg k))) + 12) - ((((nI m) - (nI m) / 12 * 12) - (nI (bg k))) + 12) / 12 * 12))], [.int zv, .int (((((nI m) - (nI m) / 12 * 12) - (nI (bg k))) + 12) - ((((nI m) - (nI m) / 12 * 12) - (nI (bg k))) + 12) / 12 * 12)])) (nI (([6, 4, 3] : List Nat).getD (kd k) 0)) ?_ (fun zj56 => ?_)
  · refine gR.ifte rfl (fun zc56 => ?_) (fun zc56 => ?_)
    · rw [gN_le (x := nI (([6, 4, 3] : List Nat).getD (kd k) 0)) (y := ((((nI m) - (nI m) / 12 * 12) - (nI (bg k))) + 12) - ((((nI m) - (nI m) / 12 * 12) - (nI (bg k))) + 12) / 12 * 12) (a := ([6, 4, 3] : List Nat).getD (kd k) 0) (b := (m % 12 + 12 - bg k) % 12) rfl (gN_rem (gN_sba (gN_rem rfl rfl (by omega) (by omega) (by omega)) rfl rfl (by omega)) rfl (by omega) (by omega) (by omega)) (by omega) (by omega)] at zc56
      refine gR.steps 1 (σ, (64, [some (.ref 0), some (.int (nI m)), some (.int (nI k)), some (.int (((((nI m) - (nI m) / 12 * 12) - (nI (bg k))) + 12) - ((((nI m) - (nI m) / 12 * 12) - (nI (bg k))) + 12) / 12 * 12))], [.int 0])) rfl ?_
      refine gR.ret rfl ?_
      exact ⟨gOk0, by rw [bI_f (by unfold xSeason; exact fun z => absurd (of_decide_eq_true z) (Nat.not_lt.mpr zc56))], rfl⟩
    · rw [gN_le (x := nI (([6, 4, 3] : List Nat).getD (kd k) 0)) (y := ((((nI m) - (nI m) / 12 * 12) - (nI (bg k))) + 12) - ((((nI m) - (nI m) / 12 * 12) - (nI (bg k))) + 12) / 12 * 12) (a := ([6, 4, 3] : List Nat).getD (kd k) 0) (b := (m % 12 + 12 - bg k) % 12) rfl (gN_rem (gN_sba (gN_rem rfl rfl (by omega) (by omega) (by omega)) rfl rfl (by omega)) rfl (by omega) (by omega) (by omega)) (by omega) (by omega)] at zc56
      refine gR.steps 2 (σ, (64, [some (.ref 0), some (.int (nI m)), some (.int (nI k)), some (.int (((((nI m) - (nI m) / 12 * 12) - (nI (bg k))) + 12) - ((((nI m) - (nI m) / 12 * 12) - (nI (bg k))) + 12) / 12 * 12))], [.int 1])) rfl ?_
      refine gR.ret rfl ?_
      exact ⟨gOk1, by rw [bI_t (by unfold xSeason; exact decide_eq_true (Nat.not_le.mp zc56))], rfl⟩
  · refine gR.steps 5 (σ, (30, [some (.ref 0), some (.int (nI m)), some (.int (nI k)), some (.int (((((nI m) - (nI m) / 12 * 12) - (nI (bg k))) + 12) - ((((nI m) - (nI m) / 12 * 12) - (nI (bg k))) + 12) / 12 * 12))], [.int (3 * (nI k)), .ref 7, .int (((((nI m) - (nI m) / 12 * 12) - (nI (bg k))) + 12) - ((((nI m) - (nI m) / 12 * 12) - (nI (bg k))) + 12) / 12 * 12)])) rfl ?_
    refine gR.ald (i := 3 * (nI k)) (j := 3 * k) (N := 33) (g := σ 7) rfl (gN_mul rfl rfl) (by omega) (by omega) ?_
    refine gR.topI (y := nI (kd k)) (hB.2.2 k (by omega)).1 ?_
    refine gR.ifte rfl (fun zc31 => ?_) (fun zc31 => ?_)
    · rw [gN_eq (x := nI (kd k)) (y := 0) (a := kd k) (b := 0) rfl rfl (by omega) (by omega)] at zc31
      refine gR.steps 5 (σ, (46, [some (.ref 0), some (.int (nI m)), some (.int (nI k)), some (.int (((((nI m) - (nI m) / 12 * 12) - (nI (bg k))) + 12) - ((((nI m) - (nI m) / 12 * 12) - (nI (bg k))) + 12) / 12 * 12))], [.int (3 * (nI k)), .ref 7, .int (((((nI m) - (nI m) / 12 * 12) - (nI (bg k))) + 12) - ((((nI m) - (nI m) / 12 * 12) - (nI (bg k))) + 12) / 12 * 12)])) rfl ?_
      refine gR.ald (i := 3 * (nI k)) (j := 3 * k) (N := 33) (g := σ 7) rfl (gN_mul rfl rfl) (by omega) (by omega) ?_
      refine gR.topI (y := nI (kd k)) (hB.2.2 k (by omega)).1 ?_
      refine gR.steps 1 (σ, (48, [some (.ref 0), some (.int (nI m)), some (.int (nI k)), some (.int (((((nI m) - (nI m) / 12 * 12) - (nI (bg k))) + 12) - ((((nI m) - (nI m) / 12 * 12) - (nI (bg k))) + 12) / 12 * 12))], [.int 1, .int (nI (kd k)), .int (((((nI m) - (nI m) / 12 * 12) - (nI (bg k))) + 12) - ((((nI m) - (nI m) / 12 * 12) - (nI (bg k))) + 12) / 12 * 12)])) rfl ?_
      refine gR.ifte rfl (fun zc48 => ?_) (fun zc48 => ?_)
      · rw [gN_eq (x := nI (kd k)) (y := 1) (a := kd k) (b := 1) rfl rfl (by omega) (by omega)] at zc48
        refine gR.steps 1 (σ, (56, [some (.ref 0), some (.int (nI m)), some (.int (nI k)), some (.int (((((nI m) - (nI m) / 12 * 12) - (nI (bg k))) + 12) - ((((nI m) - (nI m) / 12 * 12) - (nI (bg k))) + 12) / 12 * 12))], [.int 3, .int (((((nI m) - (nI m) / 12 * 12) - (nI (bg k))) + 12) - ((((nI m) - (nI m) / 12 * 12) - (nI (bg k))) + 12) / 12 * 12)])) rfl ?_
        exact zj56 _ (by rw [show kd k = 2 by omega]; rfl)
      · rw [gN_eq (x := nI (kd k)) (y := 1) (a := kd k) (b := 1) rfl rfl (by omega) (by omega)] at zc48
        refine gR.steps 2 (σ, (56, [some (.ref 0), some (.int (nI m)), some (.int (nI k)), some (.int (((((nI m) - (nI m) / 12 * 12) - (nI (bg k))) + 12) - ((((nI m) - (nI m) / 12 * 12) - (nI (bg k))) + 12) / 12 * 12))], [.int 4, .int (((((nI m) - (nI m) / 12 * 12) - (nI (bg k))) + 12) - ((((nI m) - (nI m) / 12 * 12) - (nI (bg k))) + 12) / 12 * 12)])) rfl ?_
        exact zj56 _ (by rw [Decidable.not_not.mp zc48]; rfl)
    · rw [gN_eq (x := nI (kd k)) (y := 0) (a := kd k) (b := 0) rfl rfl (by omega) (by omega)] at zc31
      refine gR.steps 2 (σ, (56, [some (.ref 0), some (.int (nI m)), some (.int (nI k)), some (.int (((((nI m) - (nI m) / 12 * 12) - (nI (bg k))) + 12) - ((((nI m) - (nI m) / 12 * 12) - (nI (bg k))) + 12) / 12 * 12))], [.int 6, .int (((((nI m) - (nI m) / 12 * 12) - (nI (bg k))) + 12) - ((((nI m) - (nI m) / 12 * 12) - (nI (bg k))) + 12) / 12 * 12)])) rfl ?_
      exact zj56 _ (by rw [Decidable.not_not.mp zc31]; rfl)
theorem s_X11_stateOf {d : Nat} (hd : 3 ≤ d) (σ : gS) (n : Nat) (K M B : Nat → Nat) (gn : Nat → Bool) (more : Bool) (nb : Nat) (kd bg sp : Nat → Nat) (m k : Nat) (hE : mEv σ n K M B) (hB : mBu σ nb kd bg sp) (hg : mGone σ gn) (hm : σ 0 21 = bI (more = true)) (hmm : m < 24) (hk : k < nb) : gC d 151 [.ref 0, .int (nI m), .int (nI k)] σ (fun r τ => r = some (.int (nI (xSt n K M B gn (xWho more nb k) (kd k) (bg k) m))) ∧ τ = σ) := by
  obtain ⟨d, rfl⟩ : ∃ k, d = k + 1 := ⟨d - 1, by omega⟩
  refine gC.of (P := pX11_stateOf) (nL := 3) (rt := (some (.int))) (lv := [some (.ref 0), some (.int (nI m)), some (.int (nI k))]) (by decide +kernel) rfl rfl rfl (by simp [gEnt, Value.category]) rfl ?_
  refine gR.steps 4 (σ, (4, [some (.ref 0), some (.int (nI m)), some (.int (nI k))], [.int (nI k), .int (nI m), .int 0, .ref 0])) rfl ?_
  refine gR.callp rfl (s_X11_isOn (by omega) σ n K M B gn more nb kd bg sp 0 m k hE hB hg hm (by omega) (by omega) (by omega)) ?_
  refine gR.ifte rfl (fun zc7 => ?_) (fun zc7 => ?_)
  · rw [bI_eq0] at zc7
    refine gR.steps 4 (σ, (18, [some (.ref 0), some (.int (nI m)), some (.int (nI k))], [.int (nI k), .int (nI m), .int 1, .ref 0])) rfl ?_
    refine gR.callp rfl (s_X11_isOn (by omega) σ n K M B gn more nb kd bg sp 1 m k hE hB hg hm (by omega) (by omega) (by omega)) ?_
    refine gR.ifte rfl (fun zc21 => ?_) (fun zc21 => ?_)
    · rw [bI_eq0] at zc21
      refine gR.steps 4 (σ, (32, [some (.ref 0), some (.int (nI m)), some (.int (nI k))], [.int (nI k), .int (nI m), .int 2, .ref 0])) rfl ?_
      refine gR.callp rfl (s_X11_isOn (by omega) σ n K M B gn more nb kd bg sp 2 m k hE hB hg hm (by omega) (by omega) (by omega)) ?_
      refine gR.ifte rfl (fun zc35 => ?_) (fun zc35 => ?_)
      · rw [bI_eq0] at zc35
        refine gR.steps 3 (σ, (45, [some (.ref 0), some (.int (nI m)), some (.int (nI k))], [.int (nI k), .int (nI m), .ref 0])) rfl ?_
        refine gR.callp rfl (s_X11_isSeason (by omega) σ nb kd bg sp m k hB (by omega) (by omega)) ?_
        refine gR.ifte rfl (fun zc48 => ?_) (fun zc48 => ?_)
        · rw [bI_eq0] at zc48
          refine gR.steps 1 (σ, (56, [some (.ref 0), some (.int (nI m)), some (.int (nI k))], [.int 0])) rfl ?_
          refine gR.ret rfl ?_
          exact ⟨trivial, by unfold xSt; rw [if_neg zc7, if_neg zc21, if_neg zc35, if_neg zc48]; rfl, rfl⟩
        · rw [bI_eq0, Decidable.not_not] at zc48
          refine gR.steps 2 (σ, (56, [some (.ref 0), some (.int (nI m)), some (.int (nI k))], [.int 1])) rfl ?_
          refine gR.ret rfl ?_
          exact ⟨trivial, by unfold xSt; rw [if_neg zc7, if_neg zc21, if_neg zc35, if_pos zc48]; rfl, rfl⟩
      · rw [bI_eq0, Decidable.not_not] at zc35
        refine gR.steps 2 (σ, (56, [some (.ref 0), some (.int (nI m)), some (.int (nI k))], [.int 4])) rfl ?_
        refine gR.ret rfl ?_
        exact ⟨trivial, by unfold xSt; rw [if_neg zc7, if_neg zc21, if_pos zc35]; rfl, rfl⟩
    · rw [bI_eq0, Decidable.not_not] at zc21
      refine gR.steps 2 (σ, (56, [some (.ref 0), some (.int (nI m)), some (.int (nI k))], [.int 3])) rfl ?_
      refine gR.ret rfl ?_
      exact ⟨trivial, by unfold xSt; rw [if_neg zc7, if_pos zc21]; rfl, rfl⟩
  · rw [bI_eq0, Decidable.not_not] at zc7
    refine gR.steps 2 (σ, (56, [some (.ref 0), some (.int (nI m)), some (.int (nI k))], [.int 2])) rfl ?_
    refine gR.ret rfl ?_
    exact ⟨trivial, by unfold xSt; rw [if_pos zc7]; rfl, rfl⟩
theorem s_X11_isSeeming {d : Nat} (hd : 1 ≤ d) (σ : gS) (m k : Nat) (sv : Nat) (pn : Bool) (hs : σ 10 (11 * m + k) = nI sv) (hs5 : sv < 5) (hp : σ 11 (11 * m + k) = bI (pn = true)) (hmm : m < 24) (hk : k < 11) : gC d 153 [.ref 0, .int (nI m), .int (nI k)] σ (fun r τ => r = some (.int (bI (sv = 1 ∨ pn = true))) ∧ τ = σ) := by
  obtain ⟨d, rfl⟩ : ∃ k, d = k + 1 := ⟨d - 1, by omega⟩
  refine gC.of (P := pX11_isSeeming) (nL := 3) (rt := (some (.boolean))) (lv := [some (.ref 0), some (.int (nI m)), some (.int (nI k))]) (by decide +kernel) rfl rfl rfl (by simp [gEnt, Value.category]) rfl ?_
  refine gR.steps 7 (σ, (10, [some (.ref 0), some (.int (nI m)), some (.int (nI k))], [.int ((11 * (nI m)) + (nI k)), .ref 10])) rfl ?_
  refine gR.ald (i := (11 * (nI m)) + (nI k)) (j := 11 * m + k) (N := 264) (g := σ 10) rfl (gN_add (gN_mul rfl rfl) rfl) (by omega) (by omega) ?_
  refine gR.topI (y := nI (sv)) hs ?_
  refine gR.steps 1 (σ, (12, [some (.ref 0), some (.int (nI m)), some (.int (nI k))], [.int 1, .int (nI sv)])) rfl ?_
  refine gR.ifte rfl (fun zc12 => ?_) (fun zc12 => ?_)
  · rw [gN_eq (x := nI sv) (y := 1) (a := sv) (b := 1) rfl rfl (by omega) (by omega)] at zc12
    refine gR.steps 2 (σ, (34, [some (.ref 0), some (.int (nI m)), some (.int (nI k))], [.int 1])) rfl ?_
    refine gR.ret rfl ?_
    exact ⟨gOk1, by rw [bI_t (by first | exact Or.inl zc12 | exact Or.inr zc26)], rfl⟩
  · rw [gN_eq (x := nI sv) (y := 1) (a := sv) (b := 1) rfl rfl (by omega) (by omega)] at zc12
    refine gR.steps 7 (σ, (25, [some (.ref 0), some (.int (nI m)), some (.int (nI k))], [.int ((11 * (nI m)) + (nI k)), .ref 11])) rfl ?_
    refine gR.ald (i := (11 * (nI m)) + (nI k)) (j := 11 * m + k) (N := 264) (g := σ 11) rfl (gN_add (gN_mul rfl rfl) rfl) (by omega) (by omega) ?_
    refine gR.ifte rfl (fun zc26 => ?_) (fun zc26 => ?_)
    · rw [hp, bI_eq0] at zc26
      refine gR.steps 1 (σ, (34, [some (.ref 0), some (.int (nI m)), some (.int (nI k))], [.int 0])) rfl ?_
      refine gR.ret rfl ?_
      exact ⟨gOk0, by rw [bI_f (by rintro (z | z); exact zc12 z; exact zc26 z)], rfl⟩
    · rw [hp, bI_eq0, Decidable.not_not] at zc26
      refine gR.steps 2 (σ, (34, [some (.ref 0), some (.int (nI m)), some (.int (nI k))], [.int 1])) rfl ?_
      refine gR.ret rfl ?_
      exact ⟨gOk1, by rw [bI_t (by first | exact Or.inl zc12 | exact Or.inr zc26)], rfl⟩
theorem s_X11_kept {d : Nat} (hd : 1 ≤ d) (σ : gS) (v : Int32) : gC d 154 [.int v] σ (fun r τ => r = some (.int (nI (xKept v.toInt))) ∧ τ = σ) := by
  obtain ⟨d, rfl⟩ : ∃ k, d = k + 1 := ⟨d - 1, by omega⟩
  refine gC.of (P := pX11_kept) (nL := 1) (rt := (some (.int))) (lv := [some (.int v)]) (by decide +kernel) rfl rfl rfl (by simp [gEnt, Value.category]) rfl ?_
  refine gR.steps 1 (σ, (1, [some (.int v)], [.int v])) rfl ?_
  refine gR.ifte rfl (fun zc1 => ?_) (fun zc1 => ?_)
  · refine gR.steps 2 (σ, (11, [some (.int v)], [.int 100, .int v])) rfl ?_
    refine gR.ifte rfl (fun zc11 => ?_) (fun zc11 => ?_)
    · refine gR.steps 1 (σ, (20, [some (.int v)], [.int v])) rfl ?_
      refine gR.ret rfl ?_
      rw [Int32.le_iff_toInt_le] at zc1 zc11
      refine ⟨trivial, ?_, rfl⟩
      have h100 : (100 : Int32).toInt = 100 := by decide
      simp only [Int32.toInt_zero] at zc1
      unfold xKept
      rw [if_neg (by omega), if_neg (by omega)]
      congr 2
      apply Int32.toInt_inj.mp
      rw [nI_toInt (by omega)]
      omega
    · refine gR.steps 2 (σ, (20, [some (.int v)], [.int 100])) rfl ?_
      refine gR.ret rfl ?_
      rw [Int32.le_iff_toInt_le] at zc1 zc11
      refine ⟨trivial, ?_, rfl⟩
      have h100 : (100 : Int32).toInt = 100 := by decide
      unfold xKept
      rw [if_neg (by simp only [Int32.toInt_zero] at zc1; omega), if_pos (by omega)]; rfl
  · refine gR.steps 2 (σ, (20, [some (.int v)], [.int 0])) rfl ?_
    refine gR.ret rfl ?_
    rw [Int32.le_iff_toInt_le] at zc1
    refine ⟨trivial, ?_, rfl⟩
    unfold xKept
    rw [if_pos (by simp only [Int32.toInt_zero] at zc1; omega)]; rfl
theorem xKept_n {a : Nat} (ha : a < 2147483648) : xKept (nI a).toInt = min 100 a := by
  rw [nI_toInt ha]
  unfold xKept
  rw [if_neg (by omega)]
  split <;> omega
theorem xKept_add {x y : Int32} {a b : Nat} (p : x = nI a) (q : y = nI b) (ha : a ≤ 100) (hb : b ≤ 100) : xKept (x + y).toInt = min 100 (a + b) := by
  rw [gN_add p q, nI_toInt (by omega)]
  unfold xKept
  rw [if_neg (by omega)]
  split <;> omega
theorem xKept_sub {x y : Int32} {a b : Nat} (p : x = nI a) (q : y = nI b) (ha : a ≤ 100) (hb : b ≤ 100) : xKept (x - y).toInt = a - b := by
  rw [p, q, pk_sub_toInt (by omega) (by omega)]
  unfold xKept
  split
  · omega
  · rw [if_neg (by omega)]; omega
theorem xKept_id {x : Int32} {a : Nat} (p : x = nI a) (ha : a ≤ 100) : xKept x.toInt = a := by
  rw [p, nI_toInt (by omega)]
  unfold xKept
  rw [if_neg (by omega), if_neg (by omega)]
  omega
theorem s_X11_looked {d : Nat} (hd : 2 ≤ d) (σ : gS) (a m k nb : Nat) (kd bg sp : Nat → Nat) (sv : Nat) (pn : Bool) (ha : a ≤ 100) (hB : mBu σ nb kd bg sp) (hs : σ 10 (11 * m + k) = nI sv) (hs5 : sv < 5) (hp : σ 11 (11 * m + k) = bI (pn = true)) (hmm : m < 24) (hk : k < nb) : gC d 155 [.ref 0, .int (nI a), .int (nI m), .int (nI k)] σ (fun r τ => r = some (.int (nI (xLook a (decide (sv = 1) || pn) (sp k)))) ∧ τ = σ) := by
  obtain ⟨d, rfl⟩ : ∃ k, d = k + 1 := ⟨d - 1, by omega⟩
  refine gC.of (P := pX11_looked) (nL := 4) (rt := (some (.int))) (lv := [some (.ref 0), some (.int (nI a)), some (.int (nI m)), some (.int (nI k))]) (by decide +kernel) rfl rfl rfl (by simp [gEnt, Value.category]) rfl ?_
  have hn11 := hB.2.1
  have hkk := hB.2.2 k hk
  refine gR.steps 3 (σ, (3, [some (.ref 0), some (.int (nI a)), some (.int (nI m)), some (.int (nI k))], [.int (nI k), .int (nI m), .ref 0])) rfl ?_
  refine gR.callp rfl (s_X11_isSeeming (by omega) σ m k sv pn hs hs5 hp hmm (by omega)) ?_
  refine gR.ifte rfl (fun zc6 => ?_) (fun zc6 => ?_)
  · rw [bI_eq0] at zc6
    refine gR.steps 3 (σ, (27, [some (.ref 0), some (.int (nI a)), some (.int (nI m)), some (.int (nI k))], [.int ((nI a) - 5)])) rfl ?_
    refine gR.callp rfl (s_X11_kept (by omega) σ ((nI a) - 5)) ?_
    refine gR.ret rfl ?_
    refine ⟨trivial, ?_, rfl⟩
    congr 2
    unfold xLook
    first | (rw [xKept_n (by omega), if_pos (by simpa using zc6)]) | (rw [xKept_sub rfl (show (5 : Int32) = nI 5 from rfl) ha (by omega), if_neg (by simpa using zc6)])
  · rw [bI_eq0, Decidable.not_not] at zc6
    refine gR.steps 8 (σ, (19, [some (.ref 0), some (.int (nI a)), some (.int (nI m)), some (.int (nI k))], [.int ((3 * (nI k)) + 2), .ref 7, .int (nI a)])) rfl ?_
    refine gR.ald (i := (3 * (nI k)) + 2) (j := 3 * k + 2) (N := 33) (g := σ 7) rfl (gN_add (gN_mul rfl rfl) rfl) (by omega) (by omega) ?_
    refine gR.topI (y := nI (sp k)) (hB.2.2 k (by omega)).2.2.1 ?_
    refine gR.steps 2 (σ, (27, [some (.ref 0), some (.int (nI a)), some (.int (nI m)), some (.int (nI k))], [.int ((nI a) + (nI (sp k)))])) rfl ?_
    rw [show ((nI a) + (nI (sp k)) : Int32) = nI (a + sp k) from (gN_add rfl rfl)]
    refine gR.callp rfl (s_X11_kept (by omega) σ (nI (a + sp k))) ?_
    refine gR.ret rfl ?_
    refine ⟨trivial, ?_, rfl⟩
    congr 2
    unfold xLook
    first | (rw [xKept_n (by omega), if_pos (by simpa using zc6)]) | (rw [xKept_sub rfl (show (5 : Int32) = nI 5 from rfl) ha (by omega), if_neg (by simpa using zc6)])
