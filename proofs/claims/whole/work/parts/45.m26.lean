def jL (n : Nat) : Int64 := Int64.ofNat n
theorem jL_mul (a b : Nat) : jL a * jL b = jL (a * b) := (Int64.ofNat_mul a b).symm
theorem jL_add (a b : Nat) : jL a + jL b = jL (a + b) := (Int64.ofNat_add a b).symm
theorem jL_toInt {n : Nat} (h : n < 9223372036854775808) : (jL n).toInt = n := Int64.toInt_ofNat_of_lt (by omega)
theorem jL_div {a b : Nat} (ha : a < 9223372036854775808) (hb : b < 9223372036854775808) : jL a / jL b = jL (a / b) := by
  apply Int64.toInt_inj.mp
  have h1 : a / b ≤ a := Nat.div_le_self a b
  rw [Int64.toInt_div, jL_toInt ha, jL_toInt hb, jL_toInt (by omega)]
  rw [show (a : Int).tdiv b = ((a / b : Nat) : Int) from (Int.ofNat_tdiv a b).symm]
  generalize a / b = c at h1 ⊢
  exact Int.bmod_eq_of_le (by omega) (by omega)
theorem jL_sub {a b : Nat} (h : b ≤ a) : jL a - jL b = jL (a - b) := by
  have e : jL a = jL (a - b) + jL b := by rw [jL_add]; congr 1; omega
  rw [e, Int64.add_sub_cancel]
theorem jL_rem {a b : Nat} (ha : a < 9223372036854775808) (hb : b < 9223372036854775808) : jL a - jL a / jL b * jL b = jL (a % b) := by
  rw [jL_div ha hb, jL_mul, jL_sub (Nat.div_mul_le_self a b)]
  have := Nat.div_add_mod a b
  rw [Nat.mul_comm] at this
  congr 1; omega
theorem jL_0 {n : Nat} (h : n < 9223372036854775808) : (jL n = 0 ↔ n = 0) := by
  rw [← Int64.toInt_inj, jL_toInt h, iLit0]; omega
theorem jL_i {n : Nat} (h : n < 2147483648) : Int32.toInt64 (nI n) = jL n := by
  apply Int64.toInt_inj.mp
  rw [iI64, nI_toInt h, jL_toInt (by omega)]
theorem s_X11_part {d : Nat} (hd : 1 ≤ d) (σ : gS) (a b w : Nat) (ha : a < 9223372036854775808) (hb : b < 9223372036854775808) (hb0 : 0 < b) (hw : w < 2) : gC d 118 [.long (jL a), .long (jL b), .int (nI w)] σ (fun r τ => r = some (.long (jL ((if w = 0 then a else b) / Nat.gcd a b))) ∧ τ = σ) := by
  obtain ⟨d, rfl⟩ : ∃ k, d = k + 1 := ⟨d - 1, by omega⟩
  refine gC.of (P := pX11_part) (nL := 11) (rt := (some (.long))) (lv := [some (.long (jL a)), none, some (.long (jL b)), none, some (.int (nI w)), none, none, none, none, none, none]) (by decide +kernel) rfl rfl rfl (by simp [gEnt, Value.category]) rfl ?_
  refine gR.steps 4 (σ, (6, [some (.long (jL a)), none, some (.long (jL b)), none, some (.int (nI w)), some (.long (jL a)), none, some (.long (jL b)), none, none, none], [])) rfl ?_
  refine gR.forget [some (.long (jL a)), none, some (.long (jL b)), none, some (.int (nI w)), some (.long (jL a)), none, some (.long (jL b)), none, none, none] ⟨rfl, ⟨rfl, ⟨rfl, ⟨rfl, ⟨rfl, trivial⟩⟩⟩⟩⟩ ?_
  refine gR.loop (α := Nat × Nat) (fun ⟨x, y⟩ => x < 9223372036854775808 ∧ y < 9223372036854775808 ∧ Nat.gcd x y = Nat.gcd a b) (fun ⟨x, y⟩ => y) (fun ⟨x, y⟩ => (σ, (6, [some (.long (jL a)), none, some (.long (jL b)), none, some (.int (nI w)), some (.long (jL x)), none, some (.long (jL y)), none, none, none], []))) ?_ ⟨a, b⟩ ⟨ha, hb, rfl⟩
  rintro ⟨x, y⟩ ⟨hx, hy, hg⟩ ih
  show gR _ _ _ σ (6, [some (.long (jL a)), none, some (.long (jL b)), none, some (.int (nI w)), some (.long (jL x)), none, some (.long (jL y)), none, none, none], [])
  refine gR.steps 3 (σ, (10, [some (.long (jL a)), none, some (.long (jL b)), none, some (.int (nI w)), some (.long (jL x)), none, some (.long (jL y)), none, none, none], [.int (lg_cmp (jL y) 0)])) rfl ?_
  refine gR.ifte rfl (fun zc10 => ?_) (fun zc10 => ?_)
  · rw [lgc_eq, jL_0 hy] at zc10
    have hgx : x = Nat.gcd a b := by rw [← hg, zc10, Nat.gcd_zero_right]
    have hx0 : 0 < x := by rw [hgx]; exact Nat.gcd_pos_of_pos_right a hb0
    refine gR.steps 1 (σ, (33, [some (.long (jL a)), none, some (.long (jL b)), none, some (.int (nI w)), some (.long (jL x)), none, some (.long (jL y)), none, none, none], [.int (nI w)])) rfl ?_
    refine gR.ifte rfl (fun zc33 => ?_) (fun zc33 => ?_)
    · rw [gN_eq (x := nI w) (y := 0) (a := w) (b := 0) rfl rfl (by omega) (by omega)] at zc33
      refine gR.steps 2 (σ, (43, [some (.long (jL a)), none, some (.long (jL b)), none, some (.int (nI w)), some (.long (jL x)), none, some (.long (jL y)), none, none, none], [.long (jL x), .long (jL b)])) rfl ?_
      refine gR.brT (p := ¬ (jL x) = 0) rfl (fun z => absurd ((jL_0 hx).mp z) (by omega)) ?_
      refine gR.ret rfl ?_
      refine ⟨trivial, ?_, rfl⟩
      first | (show some (Value.long (jL a / jL x)) = _; rw [if_pos (Decidable.not_not.mp zc33), jL_div ha hx, hgx]) | (show some (Value.long (jL b / jL x)) = _; rw [if_neg zc33, jL_div hb hx, hgx])
    · rw [gN_eq (x := nI w) (y := 0) (a := w) (b := 0) rfl rfl (by omega) (by omega)] at zc33
      refine gR.steps 3 (σ, (43, [some (.long (jL a)), none, some (.long (jL b)), none, some (.int (nI w)), some (.long (jL x)), none, some (.long (jL y)), none, none, none], [.long (jL x), .long (jL a)])) rfl ?_
      refine gR.brT (p := ¬ (jL x) = 0) rfl (fun z => absurd ((jL_0 hx).mp z) (by omega)) ?_
      refine gR.ret rfl ?_
      refine ⟨trivial, ?_, rfl⟩
      first | (show some (Value.long (jL a / jL x)) = _; rw [if_pos (Decidable.not_not.mp zc33), jL_div ha hx, hgx]) | (show some (Value.long (jL b / jL x)) = _; rw [if_neg zc33, jL_div hb hx, hgx])
  · rw [lgc_eq, jL_0 hy] at zc10
    refine gR.steps 2 (σ, (17, [some (.long (jL a)), none, some (.long (jL b)), none, some (.int (nI w)), some (.long (jL x)), none, some (.long (jL y)), none, none, none], [.long (jL y), .long (jL x)])) rfl ?_
    refine gR.brT (p := ¬ (jL y) = 0) rfl (fun z => zc10 ((jL_0 hy).mp z)) ?_
    refine gR.steps 6 (σ, (6, [some (.long (jL a)), none, some (.long (jL b)), none, some (.int (nI w)), some (.long (jL y)), none, some (.long ((jL x) - (jL x) / (jL y) * (jL y))), none, some (.long ((jL x) - (jL x) / (jL y) * (jL y))), none], [])) rfl ?_
    refine gR.forget [some (.long (jL a)), none, some (.long (jL b)), none, some (.int (nI w)), some (.long (jL y)), none, some (.long (jL (x % y))), none, none, none] ⟨rfl, ⟨rfl, ⟨rfl, ⟨rfl, ⟨gSomeL (jL_rem hx hy), trivial⟩⟩⟩⟩⟩ ?_
    exact ih ⟨y, x % y⟩ ⟨hy, Nat.lt_of_le_of_lt (Nat.mod_le x y) hx, by rw [← hg, Nat.gcd_comm x y, Nat.gcd_rec y x, Nat.gcd_comm]⟩ (Nat.mod_lt x (by omega))
def xPr (f : Nat → Nat) : Nat → Nat
  | 0 => 1
  | n + 1 => xPr f n * f n
theorem xPr_le {f : Nat → Nat} {b : Nat} : ∀ {n : Nat}, (∀ i, i < n → f i ≤ b) → xPr f n ≤ b ^ n
  | 0, _ => Nat.le_refl 1
  | n + 1, h => by
    simp only [xPr]
    rw [Nat.pow_succ]
    exact Nat.mul_le_mul (xPr_le (fun i hi => h i (by omega))) (h n (by omega))
def gnB (s : Nat) : Nat → Bool := fun e => decide (s / 2 ^ e % 2 = 1)
theorem gnB_bit : ∀ s, s < 256 → ∀ e, e < 8 → (xBit (nI s) e ↔ gnB s e = true) := by decide +kernel
theorem shl1 : ∀ n, n < 9 → (1 : Int32) <<< (nI n &&& 31) = nI (2 ^ n) := by decide +kernel
theorem shl1L : ∀ n, n < 9 → (1 : Int64) <<< (Int32.toInt64 (4 * nI n) &&& 63) = jL (2 ^ (4 * n)) := by decide +kernel
theorem pow_le8 : ∀ n, n < 9 → 2 ^ n ≤ 256 ∧ 16 ^ n ≤ 4294967296 ∧ 2 ^ (4 * n) ≤ 4294967296 := by decide +kernel
/-- which bushes are bare without the events of s, and what that weighs -/
def lkB (D : xDat) (m s : Nat) : Nat → Bool := xAll (fun k => !decide (dS D (gnB s) m k = 1))
def lkP (c s : Nat) : Nat → Nat := xPr (fun e => if gnB s e = true then 16 - c else c)
def lkW (D : xDat) (c m s : Nat) : Nat := (if lkB D m s (dNb D) = true then 1 else 0) * lkP c s (dN D)
def dAbv (D : xDat) (c m : Nat) : Nat := xSum (lkW D c m) (2 ^ dN D)
def dLuck (D : xDat) (c m w : Nat) : Nat := (if w = 0 then dAbv D c m else 2 ^ (4 * dN D)) / Nat.gcd (dAbv D c m) (2 ^ (4 * dN D))
def aLuck (D : xDat) (c m w : Int32) : Int64 := if ((0 ≤ c.toInt ∧ c.toInt ≤ 16) ∧ (0 ≤ m.toInt ∧ m.toInt ≤ 23)) ∧ (0 ≤ w.toInt ∧ w.toInt ≤ 1) then jL (dLuck D c.toNatClampNeg m.toNatClampNeg w.toNatClampNeg) else -9223372036854775806
theorem lkP_le {c s n : Nat} (hc : c ≤ 16) : lkP c s n ≤ 16 ^ n := xPr_le (fun i _ => by split <;> omega)
theorem dAbv_le {D : xDat} {c m : Nat} (hc : c ≤ 16) (hn : dN D ≤ 8) : dAbv D c m ≤ 1099511627776 := by
  have hp := pow_le8 (dN D) (by omega)
  have h := xSum_le (f := lkW D c m) (b := 4294967296) (n := 2 ^ dN D) (fun i _ => by
    have := lkP_le (s := i) (n := dN D) hc
    unfold lkW
    split <;> omega)
  unfold dAbv
  have h2 : 2 ^ dN D * 4294967296 ≤ 256 * 4294967296 := Nat.mul_le_mul_right _ hp.1
  omega
theorem s_X11_luckOf {d : Nat} (hd : 4 ≤ d) (σ : gS) (D : xDat) (c m w : Nat) (hR : mRdy σ D) (hc : c ≤ 16) (hm : m < 24) (hw : w < 2) : gC d 191 [.ref 0, .int (nI c), .int (nI m), .int (nI w)] σ (fun r τ => r = some (.long (jL (dLuck D c m w))) ∧ mObF 15 15 σ τ ∧ τ 0 15 = 0) := by
  obtain ⟨d, rfl⟩ : ∃ k, d = k + 1 := ⟨d - 1, by omega⟩
  refine gC.of (P := pX11_luckOf) (nL := 11) (rt := (some (.long))) (lv := [some (.ref 0), some (.int (nI c)), some (.int (nI m)), some (.int (nI w)), none, none, none, none, none, none, none]) (by decide +kernel) rfl rfl rfl (by simp [gEnt, Value.category]) rfl ?_
  have hn8 := hR.1.2.1
  have hn10 := hR.2.2.1
  have hpw := pow_le8 (dN D) (by omega)
  refine gR.steps 4 (σ, (6, [some (.ref 0), some (.int (nI c)), some (.int (nI m)), some (.int (nI w)), some (.long 0), none, some (.int 0), none, none, none, none], [])) rfl ?_
  refine gR.forget [some (.ref 0), some (.int (nI c)), some (.int (nI m)), some (.int (nI w)), some (.long (jL (xSum (lkW D c m) 0))), none, some (.int 0), none, none, none, none] ⟨rfl, ⟨rfl, ⟨rfl, ⟨rfl, ⟨rfl, ⟨rfl, trivial⟩⟩⟩⟩⟩⟩ ?_
  refine gR.loop (α := Nat × gS) (fun ⟨s, τ⟩ => s ≤ 2 ^ dN D ∧ mObF 15 15 σ τ) (fun ⟨s, τ⟩ => 2 ^ dN D - s) (fun ⟨s, τ⟩ => (τ, (6, [some (.ref 0), some (.int (nI c)), some (.int (nI m)), some (.int (nI w)), some (.long (jL (xSum (lkW D c m) s))), none, some (.int (nI s)), none, none, none, none], []))) ?_ ⟨0, σ⟩ ⟨Nat.zero_le _, ⟨fun _ _ => rfl, fun _ _ _ => rfl⟩⟩
  rintro ⟨s, τ⟩ ⟨hs, hF⟩ ih
  show gR _ _ _ τ (6, [some (.ref 0), some (.int (nI c)), some (.int (nI m)), some (.int (nI w)), some (.long (jL (xSum (lkW D c m) s))), none, some (.int (nI s)), none, none, none, none], [])
  have hn2 : τ 0 13 = nI (dN D) := (hF.one 13 (by decide)).trans hR.1.1
  refine gR.steps 4 (τ, (13, [some (.ref 0), some (.int (nI c)), some (.int (nI m)), some (.int (nI w)), some (.long (jL (xSum (lkW D c m) s))), none, some (.int (nI s)), none, none, none, none], [.int (τ 0 13), .int 1, .int (nI s)])) rfl ?_
  refine gR.topI (y := nI (dN D)) hn2 ?_
  refine gR.steps 1 (τ, (14, [some (.ref 0), some (.int (nI c)), some (.int (nI m)), some (.int (nI w)), some (.long (jL (xSum (lkW D c m) s))), none, some (.int (nI s)), none, none, none, none], [.int ((1 : Int32) <<< ((nI (dN D)) &&& 31)), .int (nI s)])) rfl ?_
  refine gR.ifte rfl (fun zc14 => ?_) (fun zc14 => ?_)
  · rw [gN_le (x := (1 : Int32) <<< ((nI (dN D)) &&& 31)) (y := nI s) (a := 2 ^ dN D) (b := s) (shl1 (dN D) (by omega)) rfl (by omega) (by omega)] at zc14
    refine gR.steps 8 (gUp τ 0 15 0, (148, [some (.ref 0), some (.int (nI c)), some (.int (nI m)), some (.int (nI w)), some (.long (jL (xSum (lkW D c m) s))), none, some (.int (nI s)), none, none, none, none], [.int (τ 0 13), .int 4, .long 1, .long (jL (xSum (lkW D c m) s))])) rfl ?_
    refine gR.topI (y := nI (dN D)) hn2 ?_
    refine gR.steps 3 (gUp τ 0 15 0, (151, [some (.ref 0), some (.int (nI c)), some (.int (nI m)), some (.int (nI w)), some (.long (jL (xSum (lkW D c m) s))), none, some (.int (nI s)), none, none, none, none], [.int (nI w), .long ((1 : Int64) <<< (Int32.toInt64 (4 * (nI (dN D))) &&& 63)), .long (jL (xSum (lkW D c m) s))])) rfl ?_
    have hA := dAbv_le (D := D) (m := m) hc hR.1.2.1
    have he2 : s = 2 ^ dN D := by omega
    rw [he2, shl1L (dN D) (by omega)]
    refine gR.callp (x := .long (jL (dLuck D c m w))) rfl (s_X11_part (by omega) (gUp τ 0 15 0) (dAbv D c m) (2 ^ (4 * dN D)) w (by omega) (by omega) (Nat.pos_of_ne_zero (by simp)) hw) ?_
    show gR _ _ _ (gUp τ 0 15 0) (154, [some (.ref 0), some (.int (nI c)), some (.int (nI m)), some (.int (nI w)), some (.long (jL (xSum (lkW D c m) (2 ^ dN D)))), none, some (.int (nI (2 ^ dN D))), none, none, none, none], [.long (jL (dLuck D c m w))])
    refine gR.ret rfl ?_
    exact ⟨trivial, rfl, mObF_up (by decide) hF, gUp_s _ _ _ _⟩
  · rw [gN_le (x := (1 : Int32) <<< ((nI (dN D)) &&& 31)) (y := nI s) (a := 2 ^ dN D) (b := s) (shl1 (dN D) (by omega)) rfl (by omega) (by omega)] at zc14
    refine gR.steps 7 (gUp τ 0 15 (nI s), (29, [some (.ref 0), some (.int (nI c)), some (.int (nI m)), some (.int (nI w)), some (.long (jL (xSum (lkW D c m) s))), none, some (.int (nI s)), some (.int 1), some (.int 0), none, none], [])) rfl ?_
    refine gR.forget [some (.ref 0), some (.int (nI c)), some (.int (nI m)), some (.int (nI w)), some (.long (jL (xSum (lkW D c m) s))), none, some (.int (nI s)), some (.int (bI (lkB D m s 0 = true))), some (.int 0), none, none] ⟨rfl, ⟨rfl, ⟨rfl, ⟨rfl, ⟨rfl, ⟨rfl, ⟨gSomeI (bI_t (p := lkB D m s 0 = true) rfl).symm, ⟨rfl, trivial⟩⟩⟩⟩⟩⟩⟩⟩ ?_
    refine gR.loop (α := Nat) (fun k => k ≤ dNb D) (fun k => dNb D - k) (fun k => (gUp τ 0 15 (nI s), (29, [some (.ref 0), some (.int (nI c)), some (.int (nI m)), some (.int (nI w)), some (.long (jL (xSum (lkW D c m) s))), none, some (.int (nI s)), some (.int (bI (lkB D m s k = true))), some (.int (nI k)), none, none], []))) ?_ 0 (Nat.zero_le _)
    rintro k hkn ih2
    show gR _ _ _ (gUp τ 0 15 (nI s)) (29, [some (.ref 0), some (.int (nI c)), some (.int (nI m)), some (.int (nI w)), some (.long (jL (xSum (lkW D c m) s))), none, some (.int (nI s)), some (.int (bI (lkB D m s k = true))), some (.int (nI k)), none, none], [])
    refine gR.steps 3 (gUp τ 0 15 (nI s), (35, [some (.ref 0), some (.int (nI c)), some (.int (nI m)), some (.int (nI w)), some (.long (jL (xSum (lkW D c m) s))), none, some (.int (nI s)), some (.int (bI (lkB D m s k = true))), some (.int (nI k)), none, none], [.int (τ 0 7), .int (nI k)])) rfl ?_
    refine gR.topI (y := nI (dNb D)) ((hF.one 7 (by decide)).trans hR.2.1.1) ?_
    refine gR.ifte rfl (fun zc35 => ?_) (fun zc35 => ?_)
    · rw [gN_le (x := nI (dNb D)) (y := nI k) (a := dNb D) (b := k) rfl rfl (by omega) (by omega)] at zc35
      have hkk : k = dNb D := by omega
      rw [hkk]
      refine gR.steps 1 (gUp τ 0 15 (nI s), (69, [some (.ref 0), some (.int (nI c)), some (.int (nI m)), some (.int (nI w)), some (.long (jL (xSum (lkW D c m) s))), none, some (.int (nI s)), some (.int (bI (lkB D m s (dNb D) = true))), some (.int (nI (dNb D))), none, none], [.int (bI (lkB D m s (dNb D) = true))])) rfl ?_
      refine gR.ifte rfl (fun zc69 => ?_) (fun zc69 => ?_)
      · rw [bI_eq0] at zc69
        refine gR.steps 4 (gUp τ 0 15 (nI s), (82, [some (.ref 0), some (.int (nI c)), some (.int (nI m)), some (.int (nI w)), some (.long (jL (xSum (lkW D c m) s))), none, some (.int (nI s)), some (.int (bI (lkB D m s (dNb D) = true))), some (.long 0), none, some (.int 0)], [])) rfl ?_
        refine gR.forget [some (.ref 0), some (.int (nI c)), some (.int (nI m)), some (.int (nI w)), some (.long (jL (xSum (lkW D c m) s))), none, some (.int (nI s)), none, some (.long (jL ((if lkB D m s (dNb D) = true then 1 else 0) * lkP c s 0))), none, some (.int 0)] ⟨rfl, ⟨rfl, ⟨rfl, ⟨rfl, ⟨rfl, ⟨rfl, ⟨gSomeL (show _ = jL ((if lkB D m s (dNb D) = true then 1 else 0) * 1) by rw [if_neg zc69]; rfl), ⟨rfl, trivial⟩⟩⟩⟩⟩⟩⟩⟩ ?_
        refine gR.loop (α := Nat) (fun e => e ≤ dN D) (fun e => dN D - e) (fun e => (gUp τ 0 15 (nI s), (82, [some (.ref 0), some (.int (nI c)), some (.int (nI m)), some (.int (nI w)), some (.long (jL (xSum (lkW D c m) s))), none, some (.int (nI s)), none, some (.long (jL ((if lkB D m s (dNb D) = true then 1 else 0) * lkP c s e))), none, some (.int (nI e))], []))) ?_ 0 (Nat.zero_le _)
        rintro e hen ih3
        show gR _ _ _ (gUp τ 0 15 (nI s)) (82, [some (.ref 0), some (.int (nI c)), some (.int (nI m)), some (.int (nI w)), some (.long (jL (xSum (lkW D c m) s))), none, some (.int (nI s)), none, some (.long (jL ((if lkB D m s (dNb D) = true then 1 else 0) * lkP c s e))), none, some (.int (nI e))], [])
        refine gR.steps 3 (gUp τ 0 15 (nI s), (88, [some (.ref 0), some (.int (nI c)), some (.int (nI m)), some (.int (nI w)), some (.long (jL (xSum (lkW D c m) s))), none, some (.int (nI s)), none, some (.long (jL ((if lkB D m s (dNb D) = true then 1 else 0) * lkP c s e))), none, some (.int (nI e))], [.int (τ 0 13), .int (nI e)])) rfl ?_
        refine gR.topI (y := nI (dN D)) hn2 ?_
        refine gR.ifte rfl (fun zc88 => ?_) (fun zc88 => ?_)
        · rw [gN_le (x := nI (dN D)) (y := nI e) (a := dN D) (b := e) rfl rfl (by omega) (by omega)] at zc88
          refine gR.steps 6 (gUp τ 0 15 (nI s), (6, [some (.ref 0), some (.int (nI c)), some (.int (nI m)), some (.int (nI w)), some (.long ((jL (xSum (lkW D c m) s)) + (jL ((if lkB D m s (dNb D) = true then 1 else 0) * lkP c s e)))), none, some (.int ((nI s) + 1)), none, some (.long (jL ((if lkB D m s (dNb D) = true then 1 else 0) * lkP c s e))), none, some (.int (nI e))], [])) rfl ?_
          refine gR.forget [some (.ref 0), some (.int (nI c)), some (.int (nI m)), some (.int (nI w)), some (.long (jL (xSum (lkW D c m) (s + 1)))), none, some (.int (nI (s + 1))), none, none, none, none] ⟨rfl, ⟨rfl, ⟨rfl, ⟨rfl, ⟨gSomeL ((congrArg _ (show _ = jL (lkW D c m s) by rw [show e = dN D by omega]; rfl)).trans (jL_add _ _)), ⟨gSomeI (gN_add rfl rfl), trivial⟩⟩⟩⟩⟩⟩ ?_
          exact ih ⟨s + 1, _⟩ ⟨by omega, mObF_up (by decide) hF⟩ (by dsimp only; omega)
        · rw [gN_le (x := nI (dN D)) (y := nI e) (a := dN D) (b := e) rfl rfl (by omega) (by omega)] at zc88
          refine gR.steps 3 (gUp τ 0 15 (nI s), (97, [some (.ref 0), some (.int (nI c)), some (.int (nI m)), some (.int (nI w)), some (.long (jL (xSum (lkW D c m) s))), none, some (.int (nI s)), none, some (.long (jL ((if lkB D m s (dNb D) = true then 1 else 0) * lkP c s e))), none, some (.int (nI e))], [.int (nI e), .int (nI s), .long (jL ((if lkB D m s (dNb D) = true then 1 else 0) * lkP c s e))])) rfl ?_
          refine gR.callp rfl (s_X11_isIn (by omega) (gUp τ 0 15 (nI s)) (nI s) (nI e)) ?_
          refine gR.ifte rfl (fun zc100 => ?_) (fun zc100 => ?_)
          · rw [bI_eq0] at zc100
            refine gR.steps 6 (gUp τ 0 15 (nI s), (82, [some (.ref 0), some (.int (nI c)), some (.int (nI m)), some (.int (nI w)), some (.long (jL (xSum (lkW D c m) s))), none, some (.int (nI s)), none, some (.long ((jL ((if lkB D m s (dNb D) = true then 1 else 0) * lkP c s e)) * (Int32.toInt64 (nI c)))), none, some (.int ((nI e) + 1))], [])) rfl ?_
            refine gR.forget [some (.ref 0), some (.int (nI c)), some (.int (nI m)), some (.int (nI w)), some (.long (jL (xSum (lkW D c m) s))), none, some (.int (nI s)), none, some (.long (jL ((if lkB D m s (dNb D) = true then 1 else 0) * lkP c s (e + 1)))), none, some (.int (nI (e + 1)))] ⟨rfl, ⟨rfl, ⟨rfl, ⟨rfl, ⟨rfl, ⟨rfl, ⟨gSomeL (by rw [jL_i (by omega), jL_mul, Nat.mul_assoc]; simp only [lkP, xPr, if_neg (fun z => zc100 ((gnB_bit s (by omega) e (by omega)).mpr z))]), ⟨gSomeI (gN_add rfl rfl), trivial⟩⟩⟩⟩⟩⟩⟩⟩ ?_
            exact ih3 (e + 1) (by omega) (by omega)
          · rw [bI_eq0, Decidable.not_not] at zc100
            refine gR.steps 9 (gUp τ 0 15 (nI s), (82, [some (.ref 0), some (.int (nI c)), some (.int (nI m)), some (.int (nI w)), some (.long (jL (xSum (lkW D c m) s))), none, some (.int (nI s)), none, some (.long ((jL ((if lkB D m s (dNb D) = true then 1 else 0) * lkP c s e)) * (Int32.toInt64 (16 - nI c)))), none, some (.int ((nI e) + 1))], [])) rfl ?_
            refine gR.forget [some (.ref 0), some (.int (nI c)), some (.int (nI m)), some (.int (nI w)), some (.long (jL (xSum (lkW D c m) s))), none, some (.int (nI s)), none, some (.long (jL ((if lkB D m s (dNb D) = true then 1 else 0) * lkP c s (e + 1)))), none, some (.int (nI (e + 1)))] ⟨rfl, ⟨rfl, ⟨rfl, ⟨rfl, ⟨rfl, ⟨rfl, ⟨gSomeL (by rw [gN_sub (show (16 : Int32) = nI 16 from rfl) rfl hc, jL_i (by omega), jL_mul, Nat.mul_assoc]; simp only [lkP, xPr, if_pos ((gnB_bit s (by omega) e (by omega)).mp zc100)]), ⟨gSomeI (gN_add rfl rfl), trivial⟩⟩⟩⟩⟩⟩⟩⟩ ?_
            exact ih3 (e + 1) (by omega) (by omega)
      · rw [bI_eq0, Decidable.not_not] at zc69
        refine gR.steps 5 (gUp τ 0 15 (nI s), (82, [some (.ref 0), some (.int (nI c)), some (.int (nI m)), some (.int (nI w)), some (.long (jL (xSum (lkW D c m) s))), none, some (.int (nI s)), some (.int (bI (lkB D m s (dNb D) = true))), some (.long 1), none, some (.int 0)], [])) rfl ?_
        refine gR.forget [some (.ref 0), some (.int (nI c)), some (.int (nI m)), some (.int (nI w)), some (.long (jL (xSum (lkW D c m) s))), none, some (.int (nI s)), none, some (.long (jL ((if lkB D m s (dNb D) = true then 1 else 0) * lkP c s 0))), none, some (.int 0)] ⟨rfl, ⟨rfl, ⟨rfl, ⟨rfl, ⟨rfl, ⟨rfl, ⟨gSomeL (show _ = jL ((if lkB D m s (dNb D) = true then 1 else 0) * 1) by rw [if_pos zc69]; rfl), ⟨rfl, trivial⟩⟩⟩⟩⟩⟩⟩⟩ ?_
        refine gR.loop (α := Nat) (fun e => e ≤ dN D) (fun e => dN D - e) (fun e => (gUp τ 0 15 (nI s), (82, [some (.ref 0), some (.int (nI c)), some (.int (nI m)), some (.int (nI w)), some (.long (jL (xSum (lkW D c m) s))), none, some (.int (nI s)), none, some (.long (jL ((if lkB D m s (dNb D) = true then 1 else 0) * lkP c s e))), none, some (.int (nI e))], []))) ?_ 0 (Nat.zero_le _)
        rintro e hen ih3
        show gR _ _ _ (gUp τ 0 15 (nI s)) (82, [some (.ref 0), some (.int (nI c)), some (.int (nI m)), some (.int (nI w)), some (.long (jL (xSum (lkW D c m) s))), none, some (.int (nI s)), none, some (.long (jL ((if lkB D m s (dNb D) = true then 1 else 0) * lkP c s e))), none, some (.int (nI e))], [])
        refine gR.steps 3 (gUp τ 0 15 (nI s), (88, [some (.ref 0), some (.int (nI c)), some (.int (nI m)), some (.int (nI w)), some (.long (jL (xSum (lkW D c m) s))), none, some (.int (nI s)), none, some (.long (jL ((if lkB D m s (dNb D) = true then 1 else 0) * lkP c s e))), none, some (.int (nI e))], [.int (τ 0 13), .int (nI e)])) rfl ?_
        refine gR.topI (y := nI (dN D)) hn2 ?_
        refine gR.ifte rfl (fun zc88 => ?_) (fun zc88 => ?_)
        · rw [gN_le (x := nI (dN D)) (y := nI e) (a := dN D) (b := e) rfl rfl (by omega) (by omega)] at zc88
          refine gR.steps 6 (gUp τ 0 15 (nI s), (6, [some (.ref 0), some (.int (nI c)), some (.int (nI m)), some (.int (nI w)), some (.long ((jL (xSum (lkW D c m) s)) + (jL ((if lkB D m s (dNb D) = true then 1 else 0) * lkP c s e)))), none, some (.int ((nI s) + 1)), none, some (.long (jL ((if lkB D m s (dNb D) = true then 1 else 0) * lkP c s e))), none, some (.int (nI e))], [])) rfl ?_
          refine gR.forget [some (.ref 0), some (.int (nI c)), some (.int (nI m)), some (.int (nI w)), some (.long (jL (xSum (lkW D c m) (s + 1)))), none, some (.int (nI (s + 1))), none, none, none, none] ⟨rfl, ⟨rfl, ⟨rfl, ⟨rfl, ⟨gSomeL ((congrArg _ (show _ = jL (lkW D c m s) by rw [show e = dN D by omega]; rfl)).trans (jL_add _ _)), ⟨gSomeI (gN_add rfl rfl), trivial⟩⟩⟩⟩⟩⟩ ?_
          exact ih ⟨s + 1, _⟩ ⟨by omega, mObF_up (by decide) hF⟩ (by dsimp only; omega)
        · rw [gN_le (x := nI (dN D)) (y := nI e) (a := dN D) (b := e) rfl rfl (by omega) (by omega)] at zc88
          refine gR.steps 3 (gUp τ 0 15 (nI s), (97, [some (.ref 0), some (.int (nI c)), some (.int (nI m)), some (.int (nI w)), some (.long (jL (xSum (lkW D c m) s))), none, some (.int (nI s)), none, some (.long (jL ((if lkB D m s (dNb D) = true then 1 else 0) * lkP c s e))), none, some (.int (nI e))], [.int (nI e), .int (nI s), .long (jL ((if lkB D m s (dNb D) = true then 1 else 0) * lkP c s e))])) rfl ?_
          refine gR.callp rfl (s_X11_isIn (by omega) (gUp τ 0 15 (nI s)) (nI s) (nI e)) ?_
          refine gR.ifte rfl (fun zc100 => ?_) (fun zc100 => ?_)
          · rw [bI_eq0] at zc100
            refine gR.steps 6 (gUp τ 0 15 (nI s), (82, [some (.ref 0), some (.int (nI c)), some (.int (nI m)), some (.int (nI w)), some (.long (jL (xSum (lkW D c m) s))), none, some (.int (nI s)), none, some (.long ((jL ((if lkB D m s (dNb D) = true then 1 else 0) * lkP c s e)) * (Int32.toInt64 (nI c)))), none, some (.int ((nI e) + 1))], [])) rfl ?_
            refine gR.forget [some (.ref 0), some (.int (nI c)), some (.int (nI m)), some (.int (nI w)), some (.long (jL (xSum (lkW D c m) s))), none, some (.int (nI s)), none, some (.long (jL ((if lkB D m s (dNb D) = true then 1 else 0) * lkP c s (e + 1)))), none, some (.int (nI (e + 1)))] ⟨rfl, ⟨rfl, ⟨rfl, ⟨rfl, ⟨rfl, ⟨rfl, ⟨gSomeL (by rw [jL_i (by omega), jL_mul, Nat.mul_assoc]; simp only [lkP, xPr, if_neg (fun z => zc100 ((gnB_bit s (by omega) e (by omega)).mpr z))]), ⟨gSomeI (gN_add rfl rfl), trivial⟩⟩⟩⟩⟩⟩⟩⟩ ?_
            exact ih3 (e + 1) (by omega) (by omega)
          · rw [bI_eq0, Decidable.not_not] at zc100
            refine gR.steps 9 (gUp τ 0 15 (nI s), (82, [some (.ref 0), some (.int (nI c)), some (.int (nI m)), some (.int (nI w)), some (.long (jL (xSum (lkW D c m) s))), none, some (.int (nI s)), none, some (.long ((jL ((if lkB D m s (dNb D) = true then 1 else 0) * lkP c s e)) * (Int32.toInt64 (16 - nI c)))), none, some (.int ((nI e) + 1))], [])) rfl ?_
            refine gR.forget [some (.ref 0), some (.int (nI c)), some (.int (nI m)), some (.int (nI w)), some (.long (jL (xSum (lkW D c m) s))), none, some (.int (nI s)), none, some (.long (jL ((if lkB D m s (dNb D) = true then 1 else 0) * lkP c s (e + 1)))), none, some (.int (nI (e + 1)))] ⟨rfl, ⟨rfl, ⟨rfl, ⟨rfl, ⟨rfl, ⟨rfl, ⟨gSomeL (by rw [gN_sub (show (16 : Int32) = nI 16 from rfl) rfl hc, jL_i (by omega), jL_mul, Nat.mul_assoc]; simp only [lkP, xPr, if_pos ((gnB_bit s (by omega) e (by omega)).mp zc100)]), ⟨gSomeI (gN_add rfl rfl), trivial⟩⟩⟩⟩⟩⟩⟩⟩ ?_
            exact ih3 (e + 1) (by omega) (by omega)
    · rw [gN_le (x := nI (dNb D)) (y := nI k) (a := dNb D) (b := k) rfl rfl (by omega) (by omega)] at zc35
      refine gR.steps 1 (gUp τ 0 15 (nI s), (40, [some (.ref 0), some (.int (nI c)), some (.int (nI m)), some (.int (nI w)), some (.long (jL (xSum (lkW D c m) s))), none, some (.int (nI s)), some (.int (bI (lkB D m s k = true))), some (.int (nI k)), none, none], [.int (bI (lkB D m s k = true))])) rfl ?_
      refine gR.ifte rfl (fun zc40 => ?_) (fun zc40 => ?_)
      · rw [bI_eq0] at zc40
        refine gR.steps 4 (gUp τ 0 15 (nI s), (29, [some (.ref 0), some (.int (nI c)), some (.int (nI m)), some (.int (nI w)), some (.long (jL (xSum (lkW D c m) s))), none, some (.int (nI s)), some (.int 0), some (.int ((nI k) + 1)), none, none], [])) rfl ?_
        refine gR.forget [some (.ref 0), some (.int (nI c)), some (.int (nI m)), some (.int (nI w)), some (.long (jL (xSum (lkW D c m) s))), none, some (.int (nI s)), some (.int (bI (lkB D m s (k + 1) = true))), some (.int (nI (k + 1))), none, none] ⟨rfl, ⟨rfl, ⟨rfl, ⟨rfl, ⟨rfl, ⟨rfl, ⟨gSomeI (all_f (f := (fun k => !decide (dS D (gnB s) m k = 1))) (Or.inl zc40)), ⟨gSomeI (gN_add rfl rfl), trivial⟩⟩⟩⟩⟩⟩⟩⟩ ?_
        exact ih2 (k + 1) (by omega) (by omega)
      · rw [bI_eq0, Decidable.not_not] at zc40
        refine gR.steps 3 (gUp τ 0 15 (nI s), (47, [some (.ref 0), some (.int (nI c)), some (.int (nI m)), some (.int (nI w)), some (.long (jL (xSum (lkW D c m) s))), none, some (.int (nI s)), some (.int (bI (lkB D m s k = true))), some (.int (nI k)), none, none], [.int (nI k), .int (nI m), .ref 0])) rfl ?_
        have hF2 : mObF 15 15 σ (gUp τ 0 15 (nI s)) := mObF_up (by decide) hF
        have hs256 : s < 256 := by omega
        refine gR.callp (x := .int (nI (dS D (gnB s) m k))) rfl (s_X11_stateOf (by omega) (gUp τ 0 15 (nI s)) (dN D) (dK D) (dM D) (dB D) (gnB s) false (dNb D) (dKd D) (dBg D) (dSp D) m k (mEv_ob hF2 hR.1) (mBu_ob hF2 hR.2.1) (fun e he => by rw [gUp_s]; exact gnB_bit s (by omega) e he) ((hF2.one 21 (by decide)).trans hR.2.2.2.2) hm (by omega)) ?_
        have hS5 : dS D (gnB s) m k < 5 := xSt_lt _ _ _ _ _ _ _ _ _
        refine gR.steps 1 (gUp τ 0 15 (nI s), (51, [some (.ref 0), some (.int (nI c)), some (.int (nI m)), some (.int (nI w)), some (.long (jL (xSum (lkW D c m) s))), none, some (.int (nI s)), some (.int (bI (lkB D m s k = true))), some (.int (nI k)), none, none], [.int 1, .int (nI (dS D (gnB s) m k))])) rfl ?_
        refine gR.ifte rfl (fun zc51 => ?_) (fun zc51 => ?_)
        · rw [gN_eq (x := nI (dS D (gnB s) m k)) (y := 1) (a := dS D (gnB s) m k) (b := 1) rfl rfl (by omega) (by omega)] at zc51
          refine gR.steps 4 (gUp τ 0 15 (nI s), (29, [some (.ref 0), some (.int (nI c)), some (.int (nI m)), some (.int (nI w)), some (.long (jL (xSum (lkW D c m) s))), none, some (.int (nI s)), some (.int 0), some (.int ((nI k) + 1)), none, none], [])) rfl ?_
          refine gR.forget [some (.ref 0), some (.int (nI c)), some (.int (nI m)), some (.int (nI w)), some (.long (jL (xSum (lkW D c m) s))), none, some (.int (nI s)), some (.int (bI (lkB D m s (k + 1) = true))), some (.int (nI (k + 1))), none, none] ⟨rfl, ⟨rfl, ⟨rfl, ⟨rfl, ⟨rfl, ⟨rfl, ⟨gSomeI (all_f (f := (fun k => !decide (dS D (gnB s) m k = 1))) (Or.inr (by rw [decide_eq_true zc51]; decide))), ⟨gSomeI (gN_add rfl rfl), trivial⟩⟩⟩⟩⟩⟩⟩⟩ ?_
          exact ih2 (k + 1) (by omega) (by omega)
        · rw [gN_eq (x := nI (dS D (gnB s) m k)) (y := 1) (a := dS D (gnB s) m k) (b := 1) rfl rfl (by omega) (by omega)] at zc51
          refine gR.steps 5 (gUp τ 0 15 (nI s), (29, [some (.ref 0), some (.int (nI c)), some (.int (nI m)), some (.int (nI w)), some (.long (jL (xSum (lkW D c m) s))), none, some (.int (nI s)), some (.int 1), some (.int ((nI k) + 1)), none, none], [])) rfl ?_
          refine gR.forget [some (.ref 0), some (.int (nI c)), some (.int (nI m)), some (.int (nI w)), some (.long (jL (xSum (lkW D c m) s))), none, some (.int (nI s)), some (.int (bI (lkB D m s (k + 1) = true))), some (.int (nI (k + 1))), none, none] ⟨rfl, ⟨rfl, ⟨rfl, ⟨rfl, ⟨rfl, ⟨rfl, ⟨gSomeI (all_t (f := (fun k => !decide (dS D (gnB s) m k = 1))) zc40 (by rw [decide_eq_false zc51]; rfl)), ⟨gSomeI (gN_add rfl rfl), trivial⟩⟩⟩⟩⟩⟩⟩⟩ ?_
          exact ih2 (k + 1) (by omega) (by omega)
theorem s_X11_no {d : Nat} (hd : 1 ≤ d) (σ : gS) : gC d 112 [.int (-2)] σ (fun r τ => r = some (.long (-9223372036854775806)) ∧ τ = σ) := by
  obtain ⟨d, rfl⟩ : ∃ k, d = k + 1 := ⟨d - 1, by omega⟩
  refine gC.of (P := pX11_no) (nL := 1) (rt := (some (.long))) (lv := [some (.int (-2))]) (by decide +kernel) rfl rfl rfl (by simp [gEnt, Value.category]) rfl ?_
  refine gR.steps 4 (σ, (6, [some (.int (-2))], [.long ((-9223372036854775808 : Int64) - (Int32.toInt64 (-2)))])) rfl ?_
  refine gR.ret rfl ?_
  exact ⟨trivial, by decide, rfl⟩
theorem s_X11_luck {d : Nat} (hd : 7 ≤ d) (σ : gS) (D : xDat) (c m w : Int32) (hs : mSt σ D) : gC d 192 [.ref 0, .int c, .int m, .int w] σ (fun r τ => r = some (.long (aLuck D c m w)) ∧ mKeep σ τ) := by
  obtain ⟨d, rfl⟩ : ∃ k, d = k + 1 := ⟨d - 1, by omega⟩
  refine gC.of (P := pX11_luck) (nL := 4) (rt := (some (.long))) (lv := [some (.ref 0), some (.int c), some (.int m), some (.int w)]) (by decide +kernel) rfl rfl rfl (by simp [gEnt, Value.category]) rfl ?_
  refine gR.steps 1 (σ, (1, [some (.ref 0), some (.int c), some (.int m), some (.int w)], [.ref 0])) rfl ?_
  refine gR.call' rfl (s_X11_find (by omega) σ D hs) ?_
  rintro _ τ ⟨rfl, hk, hf⟩
  show gR _ _ _ τ (4, [some (.ref 0), some (.int c), some (.int m), some (.int w)], [])
  refine gR.steps 4 (τ, (10, [some (.ref 0), some (.int c), some (.int m), some (.int w)], [.long 16, .long 0, .long (Int32.toInt64 c)])) rfl ?_
  refine gR.callp rfl (s_X11_inI (by omega) τ c 0 16 0 16 (by decide) (by decide)) ?_
  refine gR.ifte rfl (fun zc13 => ?_) (fun zc13 => ?_)
  · rw [bI_eq0] at zc13
    refine gR.steps 1 (τ, (42, [some (.ref 0), some (.int c), some (.int m), some (.int w)], [.int (-2)])) rfl ?_
    refine gR.callp (x := .long (-9223372036854775806)) rfl (s_X11_no (by omega) τ) ?_
    refine gR.ret rfl ?_
    exact ⟨trivial, by unfold aLuck; rw [if_neg (by omega)], hk⟩
  · rw [bI_eq0, Decidable.not_not] at zc13
    obtain ⟨cc, hcc, rfl⟩ := gN_of (x := c) (n := 17) (by omega) (by omega) (by omega)
    refine gR.steps 1 (τ, (17, [some (.ref 0), some (.int (nI cc)), some (.int m), some (.int w)], [.int m])) rfl ?_
    refine gR.callp rfl (s_X11_isMonth (by omega) τ m) ?_
    refine gR.ifte rfl (fun zc20 => ?_) (fun zc20 => ?_)
    · rw [bI_eq0] at zc20
      refine gR.steps 1 (τ, (42, [some (.ref 0), some (.int (nI cc)), some (.int m), some (.int w)], [.int (-2)])) rfl ?_
      refine gR.callp (x := .long (-9223372036854775806)) rfl (s_X11_no (by omega) τ) ?_
      refine gR.ret rfl ?_
      exact ⟨trivial, by unfold aLuck; rw [if_neg (by omega)], hk⟩
    · rw [bI_eq0, Decidable.not_not] at zc20
      obtain ⟨mm, hmm, rfl⟩ := gN_of (x := m) (n := 24) (by omega) (by omega) (by omega)
      refine gR.steps 1 (τ, (24, [some (.ref 0), some (.int (nI cc)), some (.int (nI mm)), some (.int w)], [.int w])) rfl ?_
      refine gR.callp rfl (s_X11_isTwo (by omega) τ w) ?_
      refine gR.ifte rfl (fun zc27 => ?_) (fun zc27 => ?_)
      · rw [bI_eq0] at zc27
        refine gR.steps 1 (τ, (42, [some (.ref 0), some (.int (nI cc)), some (.int (nI mm)), some (.int w)], [.int (-2)])) rfl ?_
        refine gR.callp (x := .long (-9223372036854775806)) rfl (s_X11_no (by omega) τ) ?_
        refine gR.ret rfl ?_
        exact ⟨trivial, by unfold aLuck; rw [if_neg (by omega)], hk⟩
      · rw [bI_eq0, Decidable.not_not] at zc27
        obtain ⟨ww, hww, rfl⟩ := gN_of (x := w) (n := 2) (by omega) (by omega) (by omega)
        refine gR.steps 4 (τ, (34, [some (.ref 0), some (.int (nI cc)), some (.int (nI mm)), some (.int (nI ww))], [.int (nI ww), .int (nI mm), .int (nI cc), .ref 0])) rfl ?_
        refine gR.call' rfl (s_X11_luckOf (by omega) τ D cc mm ww (mRdy.of (hs.keep hk) hf) (by omega) (by omega) hww) ?_
        rintro _ τ2 ⟨rfl, hG, h15⟩
        show gR _ _ _ τ2 (37, [some (.ref 0), some (.int (nI cc)), some (.int (nI mm)), some (.int (nI ww))], [.long (jL (dLuck D cc mm ww))])
        refine gR.steps 1 (τ2, (45, [some (.ref 0), some (.int (nI cc)), some (.int (nI mm)), some (.int (nI ww))], [.long (jL (dLuck D cc mm ww))])) rfl ?_
        refine gR.ret rfl ?_
        refine ⟨trivial, ?_, hk.tr (hG.keep15 (h15.trans (hs.keep hk).2.2.2.2.1.symm))⟩
        rw [show aLuck D (nI cc) (nI mm) (nI ww) = _ from if_pos ⟨⟨zc13, zc20⟩, zc27⟩, nI_clamp (by omega), nI_clamp (by omega), nI_clamp (by omega)]
