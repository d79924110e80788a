/-- how many of the low f bits of n are set -/
def xPc : Nat → Nat → Nat
  | 0, _ => 0
  | f + 1, n => n % 2 + xPc f (n / 2)
theorem xPc_0 : ∀ f, xPc f 0 = 0
  | 0 => rfl
  | f + 1 => by simp only [xPc]; rw [Nat.zero_div, xPc_0 f]
theorem xPc_low : ∀ (f n : Nat), 0 < n → n < 2 ^ f → xPc f (n &&& (n - 1)) + 1 = xPc f n
  | 0, n, h0, h => by simp at h; omega
  | f + 1, n, h0, h => by
    simp only [xPc]
    rw [Nat.and_div_two]
    have hp : 2 ^ (f + 1) = 2 * 2 ^ f := by rw [Nat.pow_succ]; omega
    by_cases ho : n % 2 = 1
    · have e1 : (n - 1) / 2 = n / 2 := by omega
      have e2 : ¬ (n &&& (n - 1)) % 2 = 1 := by rw [Nat.and_mod_two_eq_one]; omega
      rw [e1, Nat.and_self]
      omega
    · have e1 : (n - 1) / 2 = n / 2 - 1 := by omega
      have e2 : ¬ (n &&& (n - 1)) % 2 = 1 := by rw [Nat.and_mod_two_eq_one]; omega
      have ih := xPc_low f (n / 2) (by omega) (by omega)
      rw [e1]
      omega
def xPop (x : Int32) : Nat := xPc 32 x.toBitVec.toNat
theorem xPop_low {x : Int32} (h : ¬ x = 0) : xPop (x &&& (x - 1)) + 1 = xPop x := by
  have h0 : 0 < x.toBitVec.toNat := by
    rcases Nat.eq_zero_or_pos x.toBitVec.toNat with z | z
    · exact absurd (Int32.toBitVec_inj.mp (BitVec.eq_of_toNat_eq z)) h
    · exact z
  have e : (x &&& (x - 1)).toBitVec.toNat = x.toBitVec.toNat &&& (x.toBitVec.toNat - 1) := by
    rw [Int32.toBitVec_and, BitVec.toNat_and]
    congr 1
    show (x.toBitVec - 1#32).toNat = _
    rw [BitVec.toNat_sub_of_le (by rw [BitVec.le_def]; exact h0)]
    rfl
  unfold xPop
  rw [e]
  exact xPc_low 32 _ h0 x.toBitVec.isLt
theorem xPc_le : ∀ f n, xPc f n ≤ f
  | 0, _ => Nat.le_refl 0
  | f + 1, n => by
    have := xPc_le f (n / 2)
    simp only [xPc]
    omega
theorem xPop_le (x : Int32) : xPop x ≤ 32 := xPc_le 32 _
theorem xPop_0 : xPop 0 = 0 := xPc_0 32
theorem s_X11_ones {d : Nat} (hd : 1 ≤ d) (σ : gS) (bits : Int32) : gC d 115 [.int bits] σ (fun r τ => r = some (.int (nI (xPop bits))) ∧ τ = σ) := by
  obtain ⟨d, rfl⟩ : ∃ k, d = k + 1 := ⟨d - 1, by omega⟩
  refine gC.of (P := pX11_ones) (nL := 3) (rt := (some (.int))) (lv := [some (.int bits), none, none]) (by decide +kernel) rfl rfl rfl (by simp [gEnt, Value.category]) rfl ?_
  refine gR.steps 4 (σ, (4, [some (.int bits), some (.int 0), some (.int bits)], [])) rfl ?_
  refine gR.forget [some (.int bits), some (.int 0), some (.int bits)] ⟨rfl, ⟨rfl, ⟨rfl, trivial⟩⟩⟩ ?_
  refine gR.loop (α := Nat × Int32) (fun ⟨t, x⟩ => t + xPop x = xPop bits) (fun ⟨t, x⟩ => xPop x) (fun ⟨t, x⟩ => (σ, (4, [some (.int bits), some (.int (nI t)), some (.int x)], []))) ?_ ⟨0, bits⟩ (Nat.zero_add _)
  rintro ⟨t, x⟩ hx ih
  show gR _ _ _ σ (4, [some (.int bits), some (.int (nI t)), some (.int x)], [])
  refine gR.steps 1 (σ, (5, [some (.int bits), some (.int (nI t)), some (.int x)], [.int x])) rfl ?_
  refine gR.ifte rfl (fun zc5 => ?_) (fun zc5 => ?_)
  · refine gR.steps 1 (σ, (21, [some (.int bits), some (.int (nI t)), some (.int x)], [.int (nI t)])) rfl ?_
    refine gR.ret rfl ?_
    have h0 := xPop_0
    rw [zc5] at hx
    exact ⟨trivial, by rw [show t = xPop bits by omega], rfl⟩
  · refine gR.steps 8 (σ, (4, [some (.int bits), some (.int ((nI t) + 1)), some (.int (x &&& (x - 1)))], [])) rfl ?_
    refine gR.forget [some (.int bits), some (.int (nI (t + 1))), some (.int (x &&& (x - 1)))] ⟨rfl, ⟨gSomeI (gN_add rfl rfl), ⟨rfl, trivial⟩⟩⟩ ?_
    exact ih ⟨t + 1, x &&& (x - 1)⟩ (by have := xPop_low zc5; dsimp only; omega) (by have := xPop_low zc5; dsimp only; omega)
def xDi (f : Nat → Int32) (a : Nat) (s : Int32 × Int32) : Nat → Int32 × Int32
  | 0 => s
  | t + 1 => if (xDi f a s t).2 < f (a + t) - f a then (nI (24 * a + (a + t)), f (a + t) - f a) else xDi f a s t
def xDo (f : Nat → Int32) (s : Int32 × Int32) : Nat → Int32 × Int32
  | 0 => s
  | a + 1 => xDi f a (xDo f s a) (24 - a)
theorem s_X11_dealBy {d : Nat} (hd : 2 ≤ d) (σ : gS) (b : Nat → Nat) (w : Nat) (hb : ∀ m, m < 24 → σ 13 m = nI (b m) ∧ b m ≤ 100) (hw : w < 3) : gC d 178 [.ref 0, .int (nI w)] σ (fun r τ => r = some (.int (if w = 0 then (xDo (fun z => nI (b z)) (-1, -1) 24).1 / 24 else if w = 1 then (xDo (fun z => nI (b z)) (-1, -1) 24).1 - (xDo (fun z => nI (b z)) (-1, -1) 24).1 / 24 * 24 else (xDo (fun z => nI (b z)) (-1, -1) 24).2)) ∧ τ = σ) := by
  obtain ⟨d, rfl⟩ : ∃ k, d = k + 1 := ⟨d - 1, by omega⟩
  refine gC.of (P := pX11_dealBy) (nL := 7) (rt := (some (.int))) (lv := [some (.ref 0), some (.int (nI w)), none, none, none, none, none]) (by decide +kernel) rfl rfl rfl (by simp [gEnt, Value.category]) rfl ?_
  refine gR.steps 6 (σ, (7, [some (.ref 0), some (.int (nI w)), some (.int (-1)), some (.int (-1)), some (.int 0), none, none], [])) rfl ?_
  refine gR.forget [some (.ref 0), some (.int (nI w)), some (.int (xDo (fun z => nI (b z)) (-1, -1) 0).1), some (.int (xDo (fun z => nI (b z)) (-1, -1) 0).2), some (.int 0), none, none] ⟨rfl, ⟨rfl, ⟨rfl, ⟨rfl, ⟨rfl, trivial⟩⟩⟩⟩⟩ ?_
  refine gR.loop (α := Nat) (fun a => a ≤ 24) (fun a => 24 - a) (fun a => (σ, (7, [some (.ref 0), some (.int (nI w)), some (.int ((xDo (fun z => nI (b z)) (-1, -1) a).1)), some (.int ((xDo (fun z => nI (b z)) (-1, -1) a).2)), some (.int (nI a)), none, none], []))) ?_ 0 (Nat.zero_le 24)
  rintro a ha ih
  show gR _ _ _ σ (7, [some (.ref 0), some (.int (nI w)), some (.int ((xDo (fun z => nI (b z)) (-1, -1) a).1)), some (.int ((xDo (fun z => nI (b z)) (-1, -1) a).2)), some (.int (nI a)), none, none], [])
  refine gR.steps 2 (σ, (11, [some (.ref 0), some (.int (nI w)), some (.int ((xDo (fun z => nI (b z)) (-1, -1) a).1)), some (.int ((xDo (fun z => nI (b z)) (-1, -1) a).2)), some (.int (nI a)), none, none], [.int 24, .int (nI a)])) rfl ?_
  refine gR.ifte rfl (fun zc11 => ?_) (fun zc11 => ?_)
  · rw [gN_le (x := 24) (y := nI a) (a := 24) (b := a) rfl rfl (by omega) (by omega)] at zc11
    refine gR.steps 1 (σ, (81, [some (.ref 0), some (.int (nI w)), some (.int ((xDo (fun z => nI (b z)) (-1, -1) a).1)), some (.int ((xDo (fun z => nI (b z)) (-1, -1) a).2)), some (.int (nI a)), none, none], [.int (nI w)])) rfl ?_
    refine gR.ifte rfl (fun zc81 => ?_) (fun zc81 => ?_)
    · rw [gN_eq (x := nI w) (y := 0) (a := w) (b := 0) rfl rfl (by omega) (by omega)] at zc81
      refine gR.steps 2 (σ, (93, [some (.ref 0), some (.int (nI w)), some (.int ((xDo (fun z => nI (b z)) (-1, -1) a).1)), some (.int ((xDo (fun z => nI (b z)) (-1, -1) a).2)), some (.int (nI a)), none, none], [.int 1, .int (nI w)])) rfl ?_
      refine gR.ifte rfl (fun zc93 => ?_) (fun zc93 => ?_)
      · rw [gN_eq (x := nI w) (y := 1) (a := w) (b := 1) rfl rfl (by omega) (by omega)] at zc93
        refine gR.steps 1 (σ, (104, [some (.ref 0), some (.int (nI w)), some (.int ((xDo (fun z => nI (b z)) (-1, -1) a).1)), some (.int ((xDo (fun z => nI (b z)) (-1, -1) a).2)), some (.int (nI a)), none, none], [.int ((xDo (fun z => nI (b z)) (-1, -1) a).2)])) rfl ?_
        refine gR.ret rfl ?_
        obtain rfl : a = 24 := by omega
        exact ⟨trivial, by first | rw [if_pos (Decidable.not_not.mp zc81)] | rw [if_neg zc81, if_pos (Decidable.not_not.mp zc93)] | rw [if_neg zc81, if_neg zc93], rfl⟩
      · rw [gN_eq (x := nI w) (y := 1) (a := w) (b := 1) rfl rfl (by omega) (by omega)] at zc93
        refine gR.steps 2 (σ, (99, [some (.ref 0), some (.int (nI w)), some (.int ((xDo (fun z => nI (b z)) (-1, -1) a).1)), some (.int ((xDo (fun z => nI (b z)) (-1, -1) a).2)), some (.int (nI a)), none, none], [.int 24, .int ((xDo (fun z => nI (b z)) (-1, -1) a).1)])) rfl ?_
        refine gR.brT (p := ¬ (24 : Int32) = 0) rfl (by decide) ?_
        refine gR.steps 1 (σ, (104, [some (.ref 0), some (.int (nI w)), some (.int ((xDo (fun z => nI (b z)) (-1, -1) a).1)), some (.int ((xDo (fun z => nI (b z)) (-1, -1) a).2)), some (.int (nI a)), none, none], [.int (((xDo (fun z => nI (b z)) (-1, -1) a).1) - ((xDo (fun z => nI (b z)) (-1, -1) a).1) / 24 * 24)])) rfl ?_
        refine gR.ret rfl ?_
        obtain rfl : a = 24 := by omega
        exact ⟨trivial, by first | rw [if_pos (Decidable.not_not.mp zc81)] | rw [if_neg zc81, if_pos (Decidable.not_not.mp zc93)] | rw [if_neg zc81, if_neg zc93], rfl⟩
    · rw [gN_eq (x := nI w) (y := 0) (a := w) (b := 0) rfl rfl (by omega) (by omega)] at zc81
      refine gR.steps 2 (σ, (87, [some (.ref 0), some (.int (nI w)), some (.int ((xDo (fun z => nI (b z)) (-1, -1) a).1)), some (.int ((xDo (fun z => nI (b z)) (-1, -1) a).2)), some (.int (nI a)), none, none], [.int 24, .int ((xDo (fun z => nI (b z)) (-1, -1) a).1)])) rfl ?_
      refine gR.brT (p := ¬ (24 : Int32) = 0) rfl (by decide) ?_
      refine gR.steps 1 (σ, (104, [some (.ref 0), some (.int (nI w)), some (.int ((xDo (fun z => nI (b z)) (-1, -1) a).1)), some (.int ((xDo (fun z => nI (b z)) (-1, -1) a).2)), some (.int (nI a)), none, none], [.int (((xDo (fun z => nI (b z)) (-1, -1) a).1) / 24)])) rfl ?_
      refine gR.ret rfl ?_
      obtain rfl : a = 24 := by omega
      exact ⟨trivial, by first | rw [if_pos (Decidable.not_not.mp zc81)] | rw [if_neg zc81, if_pos (Decidable.not_not.mp zc93)] | rw [if_neg zc81, if_neg zc93], rfl⟩
  · rw [gN_le (x := 24) (y := nI a) (a := 24) (b := a) rfl rfl (by omega) (by omega)] at zc11
    refine gR.steps 2 (σ, (18, [some (.ref 0), some (.int (nI w)), some (.int ((xDo (fun z => nI (b z)) (-1, -1) a).1)), some (.int ((xDo (fun z => nI (b z)) (-1, -1) a).2)), some (.int (nI a)), some (.int (nI a)), none], [])) rfl ?_
    refine gR.forget [some (.ref 0), some (.int (nI w)), some (.int (xDi (fun z => nI (b z)) a (xDo (fun z => nI (b z)) (-1, -1) a) 0).1), some (.int (xDi (fun z => nI (b z)) a (xDo (fun z => nI (b z)) (-1, -1) a) 0).2), some (.int (nI a)), some (.int (nI (a + 0))), none] ⟨rfl, ⟨rfl, ⟨rfl, ⟨rfl, ⟨rfl, ⟨rfl, trivial⟩⟩⟩⟩⟩⟩ ?_
    refine gR.loop (α := Nat) (fun t => a + t ≤ 24) (fun t => 24 - (a + t)) (fun t => (σ, (18, [some (.ref 0), some (.int (nI w)), some (.int ((xDi (fun z => nI (b z)) a (xDo (fun z => nI (b z)) (-1, -1) a) t).1)), some (.int ((xDi (fun z => nI (b z)) a (xDo (fun z => nI (b z)) (-1, -1) a) t).2)), some (.int (nI a)), some (.int (nI (a + t))), none], []))) ?_ 0 (by omega)
    rintro t hat ih2
    show gR _ _ _ σ (18, [some (.ref 0), some (.int (nI w)), some (.int ((xDi (fun z => nI (b z)) a (xDo (fun z => nI (b z)) (-1, -1) a) t).1)), some (.int ((xDi (fun z => nI (b z)) a (xDo (fun z => nI (b z)) (-1, -1) a) t).2)), some (.int (nI a)), some (.int (nI (a + t))), none], [])
    refine gR.steps 2 (σ, (22, [some (.ref 0), some (.int (nI w)), some (.int ((xDi (fun z => nI (b z)) a (xDo (fun z => nI (b z)) (-1, -1) a) t).1)), some (.int ((xDi (fun z => nI (b z)) a (xDo (fun z => nI (b z)) (-1, -1) a) t).2)), some (.int (nI a)), some (.int (nI (a + t))), none], [.int 24, .int (nI (a + t))])) rfl ?_
    refine gR.ifte rfl (fun zc22 => ?_) (fun zc22 => ?_)
    · rw [gN_le (x := 24) (y := nI (a + t)) (a := 24) (b := a + t) rfl rfl (by omega) (by omega)] at zc22
      refine gR.steps 2 (σ, (7, [some (.ref 0), some (.int (nI w)), some (.int ((xDi (fun z => nI (b z)) a (xDo (fun z => nI (b z)) (-1, -1) a) t).1)), some (.int ((xDi (fun z => nI (b z)) a (xDo (fun z => nI (b z)) (-1, -1) a) t).2)), some (.int ((nI a) + 1)), some (.int (nI (a + t))), none], [])) rfl ?_
      refine gR.forget [some (.ref 0), some (.int (nI w)), some (.int ((xDo (fun z => nI (b z)) (-1, -1) (a + 1)).1)), some (.int ((xDo (fun z => nI (b z)) (-1, -1) (a + 1)).2)), some (.int (nI (a + 1))), none, none] ⟨rfl, ⟨rfl, ⟨gSomeI (by rw [show t = 24 - a by omega]; rfl), ⟨gSomeI (by rw [show t = 24 - a by omega]; rfl), ⟨gSomeI (gN_add rfl rfl), trivial⟩⟩⟩⟩⟩ ?_
      exact ih (a + 1) (by omega) (by omega)
    · rw [gN_le (x := 24) (y := nI (a + t)) (a := 24) (b := a + t) rfl rfl (by omega) (by omega)] at zc22
      have hb1 := hb (a + t) (by omega)
      have hb2 := hb a (by omega)
      refine gR.steps 3 (σ, (31, [some (.ref 0), some (.int (nI w)), some (.int ((xDi (fun z => nI (b z)) a (xDo (fun z => nI (b z)) (-1, -1) a) t).1)), some (.int ((xDi (fun z => nI (b z)) a (xDo (fun z => nI (b z)) (-1, -1) a) t).2)), some (.int (nI a)), some (.int (nI (a + t))), none], [.int (nI (a + t)), .ref 13])) rfl ?_
      refine gR.ald (i := nI (a + t)) (j := a + t) (N := 24) (g := σ 13) rfl rfl (by omega) (by omega) ?_
      refine gR.topI (y := nI (b (a + t))) (hb (a + t) (by omega)).1 ?_
      refine gR.steps 3 (σ, (38, [some (.ref 0), some (.int (nI w)), some (.int ((xDi (fun z => nI (b z)) a (xDo (fun z => nI (b z)) (-1, -1) a) t).1)), some (.int ((xDi (fun z => nI (b z)) a (xDo (fun z => nI (b z)) (-1, -1) a) t).2)), some (.int (nI a)), some (.int (nI (a + t))), none], [.int (nI a), .ref 13, .int (nI (b (a + t)))])) rfl ?_
      refine gR.ald (i := nI a) (j := a) (N := 24) (g := σ 13) rfl rfl (by omega) (by omega) ?_
      refine gR.topI (y := nI (b a)) (hb a (by omega)).1 ?_
      refine gR.steps 4 (σ, (45, [some (.ref 0), some (.int (nI w)), some (.int ((xDi (fun z => nI (b z)) a (xDo (fun z => nI (b z)) (-1, -1) a) t).1)), some (.int ((xDi (fun z => nI (b z)) a (xDo (fun z => nI (b z)) (-1, -1) a) t).2)), some (.int (nI a)), some (.int (nI (a + t))), some (.int (nI (b (a + t)) - nI (b a)))], [.int ((xDi (fun z => nI (b z)) a (xDo (fun z => nI (b z)) (-1, -1) a) t).2), .int (nI (b (a + t)) - nI (b a))])) rfl ?_
      refine gR.ifte rfl (fun zc45 => ?_) (fun zc45 => ?_)
      · refine gR.steps 4 (σ, (64, [some (.ref 0), some (.int (nI w)), some (.int ((xDi (fun z => nI (b z)) a (xDo (fun z => nI (b z)) (-1, -1) a) t).1)), some (.int ((xDi (fun z => nI (b z)) a (xDo (fun z => nI (b z)) (-1, -1) a) t).2)), some (.int (nI a)), some (.int (nI (a + t))), some (.int (nI (b (a + t)) - nI (b a)))], [.int ((xDi (fun z => nI (b z)) a (xDo (fun z => nI (b z)) (-1, -1) a) t).2), .int (nI (b (a + t)) - nI (b a))])) rfl ?_
        refine gR.callp rfl (s_X11_greater (by omega) σ (nI (b (a + t)) - nI (b a)) ((xDi (fun z => nI (b z)) a (xDo (fun z => nI (b z)) (-1, -1) a) t).2)) ?_
        refine gR.steps 3 (σ, (18, [some (.ref 0), some (.int (nI w)), some (.int ((xDi (fun z => nI (b z)) a (xDo (fun z => nI (b z)) (-1, -1) a) t).1)), some (.int (if ((xDi (fun z => nI (b z)) a (xDo (fun z => nI (b z)) (-1, -1) a) t).2) < (nI (b (a + t)) - nI (b a)) then nI (b (a + t)) - nI (b a) else (xDi (fun z => nI (b z)) a (xDo (fun z => nI (b z)) (-1, -1) a) t).2)), some (.int (nI a)), some (.int ((nI (a + t)) + 1)), some (.int (nI (b (a + t)) - nI (b a)))], [])) rfl ?_
        refine gR.forget [some (.ref 0), some (.int (nI w)), some (.int ((xDi (fun z => nI (b z)) a (xDo (fun z => nI (b z)) (-1, -1) a) (t + 1)).1)), some (.int ((xDi (fun z => nI (b z)) a (xDo (fun z => nI (b z)) (-1, -1) a) (t + 1)).2)), some (.int (nI a)), some (.int (nI (a + (t + 1)))), none] ⟨rfl, ⟨rfl, ⟨gSomeI (by simp only [xDi]; rw [if_neg (show ¬ (xDi (fun z => nI (b z)) a (xDo (fun z => nI (b z)) (-1, -1) a) t).2 < (fun z => nI (b z)) (a + t) - (fun z => nI (b z)) a from Int32.not_lt.mpr zc45)]), ⟨gSomeI (by rw [if_neg (show ¬ (xDi (fun z => nI (b z)) a (xDo (fun z => nI (b z)) (-1, -1) a) t).2 < (fun z => nI (b z)) (a + t) - (fun z => nI (b z)) a from Int32.not_lt.mpr zc45)]; simp only [xDi]; rw [if_neg (show ¬ (xDi (fun z => nI (b z)) a (xDo (fun z => nI (b z)) (-1, -1) a) t).2 < (fun z => nI (b z)) (a + t) - (fun z => nI (b z)) a from Int32.not_lt.mpr zc45)]), ⟨rfl, ⟨gSomeI ((gN_add (a := a + t) (b := 1) rfl rfl).trans (congrArg nI (by omega))), trivial⟩⟩⟩⟩⟩⟩ ?_
        exact ih2 (t + 1) (by omega) (by omega)
      · refine gR.steps 9 (σ, (64, [some (.ref 0), some (.int (nI w)), some (.int ((24 * (nI a)) + (nI (a + t)))), some (.int ((xDi (fun z => nI (b z)) a (xDo (fun z => nI (b z)) (-1, -1) a) t).2)), some (.int (nI a)), some (.int (nI (a + t))), some (.int (nI (b (a + t)) - nI (b a)))], [.int ((xDi (fun z => nI (b z)) a (xDo (fun z => nI (b z)) (-1, -1) a) t).2), .int (nI (b (a + t)) - nI (b a))])) rfl ?_
        refine gR.callp rfl (s_X11_greater (by omega) σ (nI (b (a + t)) - nI (b a)) ((xDi (fun z => nI (b z)) a (xDo (fun z => nI (b z)) (-1, -1) a) t).2)) ?_
        refine gR.steps 3 (σ, (18, [some (.ref 0), some (.int (nI w)), some (.int ((24 * (nI a)) + (nI (a + t)))), some (.int (if ((xDi (fun z => nI (b z)) a (xDo (fun z => nI (b z)) (-1, -1) a) t).2) < (nI (b (a + t)) - nI (b a)) then nI (b (a + t)) - nI (b a) else (xDi (fun z => nI (b z)) a (xDo (fun z => nI (b z)) (-1, -1) a) t).2)), some (.int (nI a)), some (.int ((nI (a + t)) + 1)), some (.int (nI (b (a + t)) - nI (b a)))], [])) rfl ?_
        refine gR.forget [some (.ref 0), some (.int (nI w)), some (.int ((xDi (fun z => nI (b z)) a (xDo (fun z => nI (b z)) (-1, -1) a) (t + 1)).1)), some (.int ((xDi (fun z => nI (b z)) a (xDo (fun z => nI (b z)) (-1, -1) a) (t + 1)).2)), some (.int (nI a)), some (.int (nI (a + (t + 1)))), none] ⟨rfl, ⟨rfl, ⟨gSomeI (by simp only [xDi]; rw [if_pos (show (xDi (fun z => nI (b z)) a (xDo (fun z => nI (b z)) (-1, -1) a) t).2 < (fun z => nI (b z)) (a + t) - (fun z => nI (b z)) a from Int32.not_le.mp zc45)]; exact gN_add (gN_mul rfl rfl) rfl), ⟨gSomeI (by rw [if_pos (show (xDi (fun z => nI (b z)) a (xDo (fun z => nI (b z)) (-1, -1) a) t).2 < (fun z => nI (b z)) (a + t) - (fun z => nI (b z)) a from Int32.not_le.mp zc45)]; simp only [xDi]; rw [if_pos (show (xDi (fun z => nI (b z)) a (xDo (fun z => nI (b z)) (-1, -1) a) t).2 < (fun z => nI (b z)) (a + t) - (fun z => nI (b z)) a from Int32.not_le.mp zc45)]), ⟨rfl, ⟨gSomeI ((gN_add (a := a + t) (b := 1) rfl rfl).trans (congrArg nI (by omega))), trivial⟩⟩⟩⟩⟩⟩ ?_
        exact ih2 (t + 1) (by omega) (by omega)
def dDeal (D : xDat) : Int32 × Int32 := xDo (fun z => nI (dBel D none 0 (z + 1))) (-1, -1) 24
def aDeal (D : xDat) (w : Int32) : Int32 := if 0 ≤ w.toInt ∧ w.toInt ≤ 2 then xPick3 w ((dDeal D).1 / 24) ((dDeal D).1 - (dDeal D).1 / 24 * 24) (dDeal D).2 else -2
theorem s_X11_deal {d : Nat} (hd : 7 ≤ d) (σ : gS) (D : xDat) (w : Int32) (hs : mSt σ D) : gC d 179 [.ref 0, .int w] σ (fun r τ => r = some (.int (aDeal D w)) ∧ mKeep σ τ) := by
  obtain ⟨d, rfl⟩ : ∃ k, d = k + 1 := ⟨d - 1, by omega⟩
  refine gC.of (P := pX11_deal) (nL := 2) (rt := (some (.int))) (lv := [some (.ref 0), some (.int w)]) (by decide +kernel) rfl rfl rfl (by simp [gEnt, Value.category]) rfl ?_
  refine gR.steps 1 (σ, (1, [some (.ref 0), some (.int w)], [.ref 0])) rfl ?_
  refine gR.call' rfl (s_X11_find (by omega) σ D hs) ?_
  rintro _ τ ⟨rfl, hk, hf⟩
  show gR _ _ _ τ (4, [some (.ref 0), some (.int w)], [])
  refine gR.steps 4 (τ, (10, [some (.ref 0), some (.int w)], [.long 2, .long 0, .long (Int32.toInt64 w)])) rfl ?_
  refine gR.callp rfl (s_X11_inI (by omega) τ w 0 2 0 2 (by decide) (by decide)) ?_
  refine gR.ifte rfl (fun zc13 => ?_) (fun zc13 => ?_)
  · rw [bI_eq0] at zc13
    refine gR.steps 1 (τ, (26, [some (.ref 0), some (.int w)], [.int (-2)])) rfl ?_
    refine gR.ret rfl ?_
    exact ⟨trivial, by unfold aDeal; rw [if_neg zc13], hk⟩
  · rw [bI_eq0, Decidable.not_not] at zc13
    obtain ⟨ww, hww, rfl⟩ := gN_of (x := w) (n := 3) (by omega) (by omega) (by omega)
    refine gR.steps 2 (τ, (18, [some (.ref 0), some (.int (nI ww))], [.int (nI ww), .ref 0])) rfl ?_
    refine gR.callp rfl (s_X11_dealBy (by omega) τ (fun z => dBel D none 0 (z + 1)) ww (fun m hm => ⟨hf.2.2.2 m hm, xBel_le hs.2.2.2.1.2.1 (m + 1)⟩) hww) ?_
    refine gR.steps 1 (τ, (26, [some (.ref 0), some (.int (nI ww))], [.int (if ww = 0 then (dDeal D).1 / 24 else if ww = 1 then (dDeal D).1 - (dDeal D).1 / 24 * 24 else (dDeal D).2)])) rfl ?_
    refine gR.ret rfl ?_
    refine ⟨trivial, ?_, hk⟩
    rw [show aDeal D (nI ww) = _ from if_pos zc13, xPick3_n hww]
