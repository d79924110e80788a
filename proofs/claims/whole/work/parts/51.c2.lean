theorem land_split {a b c e : Nat} (hb : b < 256) (he : e < 256) : (256 * a + b) &&& (256 * c + e) = 256 * (a &&& c) + (b &&& e) := by
  have h8 : (256 : Nat) = 2 ^ 8 := by decide
  have hbe : b &&& e < 2 ^ 8 := Nat.lt_of_le_of_lt Nat.and_le_left (by omega)
  rw [h8] at *
  apply Nat.eq_of_testBit_eq
  intro i
  rw [Nat.testBit_and, Nat.testBit_two_pow_mul_add a hb, Nat.testBit_two_pow_mul_add c he, Nat.testBit_two_pow_mul_add (a &&& c) hbe]
  by_cases h : i < 8
  · rw [if_pos h, if_pos h, if_pos h, Nat.testBit_and]
  · rw [if_neg h, if_neg h, if_neg h, Nat.testBit_and]
def pA (m x : Nat) : Nat := x - (x / 2 &&& m)
def pB (m x : Nat) : Nat := (x &&& m) + (x / 4 &&& m)
def pC (m x : Nat) : Nat := (x + x / 16) &&& m
theorem pA_low : ∀ b, b < 256 → ∀ t, t < 2 → (128 * t + b / 2) &&& 85 = b / 2 &&& 85 := by decide +kernel
theorem pB_low : ∀ b, b < 256 → ∀ t, t < 4 → (64 * t + b / 4) &&& 51 = b / 4 &&& 51 := by decide +kernel
theorem pA_split {m H b : Nat} (hb : b < 256) : pA (256 * m + 85) (256 * H + b) = 256 * pA m H + pA 85 b := by
  unfold pA
  have e : (256 * H + b) / 2 = 256 * (H / 2) + (128 * (H % 2) + b / 2) := by omega
  rw [e, land_split (by omega) (by omega), pA_low b hb (H % 2) (by omega)]
  have h1 : H / 2 &&& m ≤ H / 2 := Nat.and_le_left
  have h2 : b / 2 &&& 85 ≤ b / 2 := Nat.and_le_left
  omega
theorem pB_split {m H b : Nat} (hb : b < 256) : pB (256 * m + 51) (256 * H + b) = 256 * pB m H + pB 51 b := by
  unfold pB
  have e : (256 * H + b) / 4 = 256 * (H / 4) + (64 * (H % 4) + b / 4) := by omega
  rw [e, land_split (by omega) (by omega), land_split (by omega) (by omega), pB_low b hb (H % 4) (by omega)]
  omega
theorem pC_low : ∀ t, t < 5 → ∀ b, b < 69 → (b + b / 16 + 16 * t) &&& 15 = (b + b / 16) &&& 15 := by decide +kernel
theorem pC_split {m H b : Nat} (hb : b < 69) (hH : H % 16 < 5) : pC (256 * m + 15) (256 * H + b) = 256 * pC m H + pC 15 b := by
  unfold pC
  have e : 256 * H + b + (256 * H + b) / 16 = 256 * (H + H / 16) + (b + b / 16 + 16 * (H % 16)) := by omega
  rw [e, land_split (by omega) (by omega), pC_low (H % 16) hH b hb]
theorem pByte : ∀ b, b < 256 → pA 85 b < 256 ∧ pB 51 (pA 85 b) < 69 ∧ pB 51 (pA 85 b) % 16 < 5 ∧ pC 15 (pB 51 (pA 85 b)) = xPc 8 b := by decide +kernel
/-- four bytes -/
theorem pAll {a b c e : Nat} (ha : a < 256) (hb : b < 256) (hc : c < 256) (he : e < 256) : pC 252645135 (pB 858993459 (pA 1431655765 (256 * (256 * (256 * e + c) + b) + a))) = 256 * (256 * (256 * xPc 8 e + xPc 8 c) + xPc 8 b) + xPc 8 a := by
  have h1 := pByte a ha
  have h2 := pByte b hb
  have h3 := pByte c hc
  have h4 := pByte e he
  rw [show (1431655765 : Nat) = 256 * (256 * (256 * 85 + 85) + 85) + 85 by decide, pA_split ha, pA_split hb, pA_split hc]
  rw [show (858993459 : Nat) = 256 * (256 * (256 * 51 + 51) + 51) + 51 by decide, pB_split h1.1, pB_split h2.1, pB_split h3.1]
  rw [show (252645135 : Nat) = 256 * (256 * (256 * 15 + 15) + 15) + 15 by decide, pC_split h1.2.1 (by omega), pC_split h2.2.1 (by omega), pC_split h3.2.1 (by omega)]
  rw [h1.2.2.2, h2.2.2.2, h3.2.2.2, h4.2.2.2]
theorem xPc_8 (k H : Nat) : ∀ b, b < 256 → xPc (k + 8) (256 * H + b) = xPc 8 b + xPc k H := by
  intro b hb
  simp only [xPc]
  have e : ∀ x y : Nat, (256 * H + b) / 2 / 2 / 2 / 2 / 2 / 2 / 2 / 2 = H := fun _ _ => by omega
  rw [e 0 0]
  omega
theorem xPc_32 {a b c e : Nat} (ha : a < 256) (hb : b < 256) (hc : c < 256) (he : e < 256) : xPc 32 (256 * (256 * (256 * e + c) + b) + a) = xPc 8 a + (xPc 8 b + (xPc 8 c + xPc 8 e)) := by
  rw [show (32 : Nat) = 24 + 8 by decide, xPc_8 24 _ a ha, show (24 : Nat) = 16 + 8 by decide, xPc_8 16 _ b hb, show (16 : Nat) = 8 + 8 by decide, xPc_8 8 _ c hc]
def uN (x : Int32) : Nat := x.toBitVec.toNat
theorem uN_and (x y : Int32) : uN (x &&& y) = uN x &&& uN y := by unfold uN; rw [Int32.toBitVec_and, BitVec.toNat_and]
theorem uN_add {x y : Int32} (h : uN x + uN y < 4294967296) : uN (x + y) = uN x + uN y := by
  unfold uN at *
  show (x.toBitVec + y.toBitVec).toNat = _
  rw [BitVec.toNat_add]
  exact Nat.mod_eq_of_lt (by omega)
theorem uN_sub {x y : Int32} (h : uN y ≤ uN x) : uN (x - y) = uN x - uN y := by
  unfold uN at *
  show (x.toBitVec - y.toBitVec).toNat = _
  exact BitVec.toNat_sub_of_le (by rw [BitVec.le_def]; exact h)
theorem uN_shr (n : Nat) (hn : n < 32) (x : Int32) : uN ((Int32.toUInt32 x >>> (Int32.toUInt32 (nI n) &&& Int32.toUInt32 31)).toInt32) = uN x / 2 ^ n := by
  show (Int32.toUInt32 x >>> (Int32.toUInt32 (nI n) &&& Int32.toUInt32 31)).toBitVec.toNat = x.toUInt32.toBitVec.toNat / 2 ^ n
  rw [UInt32.toBitVec_shiftRight]
  show (x.toUInt32.toBitVec >>> (((nI n).toUInt32 &&& Int32.toUInt32 31).toBitVec % 32).toNat).toNat = _
  rw [s_u n hn, BitVec.toNat_ushiftRight, Nat.shiftRight_eq_div_pow]
theorem uN_lt (x : Int32) : uN x < 4294967296 := x.toBitVec.isLt
theorem uN_inj {x y : Int32} (h : uN x = uN y) : x = y := Int32.toBitVec_inj.mp (BitVec.eq_of_toNat_eq h)
theorem uN_nI {n : Nat} (h : n < 2147483648) : uN (nI n) = n := by
  unfold uN
  show (BitVec.ofNat 32 n).toNat = n
  rw [BitVec.toNat_ofNat]; exact Nat.mod_eq_of_lt (by omega)
def sh32 (n x : Int32) : Int32 := (Int32.toUInt32 x >>> (Int32.toUInt32 n &&& Int32.toUInt32 31)).toInt32
def bc1 (x : Int32) : Int32 := x - (sh32 1 x &&& 1431655765)
def bc2 (x : Int32) : Int32 := (x &&& 858993459) + (sh32 2 x &&& 858993459)
def bc3 (x : Int32) : Int32 := (x + sh32 4 x) &&& 252645135
def bc4 (x : Int32) : Int32 := x + sh32 8 x
def bc5 (x : Int32) : Int32 := x + sh32 16 x
theorem uN_bc1 (x : Int32) : uN (bc1 x) = pA 1431655765 (uN x) := by
  unfold bc1 pA
  have e : uN (sh32 1 x &&& 1431655765) = uN x / 2 &&& 1431655765 := by
    have e0 : uN (sh32 1 x) = uN x / 2 := uN_shr 1 (by decide) x
    rw [uN_and, e0]; rfl
  have h : uN x / 2 &&& 1431655765 ≤ uN x / 2 := Nat.and_le_left
  rw [uN_sub (by rw [e]; omega), e]
theorem uN_bc2 (x : Int32) : uN (bc2 x) = pB 858993459 (uN x) := by
  unfold bc2 pB
  have e1 : uN (x &&& 858993459) = uN x &&& 858993459 := uN_and x _
  have e : uN (sh32 2 x &&& 858993459) = uN x / 4 &&& 858993459 := by
    have e0 : uN (sh32 2 x) = uN x / 4 := uN_shr 2 (by decide) x
    rw [uN_and, e0]; rfl
  have h : uN x / 4 &&& 858993459 ≤ 858993459 := Nat.and_le_right
  have h2 : uN x &&& 858993459 ≤ 858993459 := Nat.and_le_right
  rw [uN_add (by rw [e, e1]; omega), e, e1]
theorem uN_bc3 {x : Int32} (h : uN x < 2000000000) : uN (bc3 x) = pC 252645135 (uN x) := by
  unfold bc3 pC
  have e : uN (sh32 4 x) = uN x / 16 := uN_shr 4 (by decide) x
  rw [uN_and, uN_add (by rw [e]; omega), e]; rfl
theorem uN_bc4 {x : Int32} (h : uN x < 2000000000) : uN (bc4 x) = uN x + uN x / 256 := by
  unfold bc4
  have e : uN (sh32 8 x) = uN x / 256 := uN_shr 8 (by decide) x
  rw [uN_add (by rw [e]; omega), e]
theorem uN_bc5 {x : Int32} (h : uN x < 2000000000) : uN (bc5 x) = uN x + uN x / 65536 := by
  unfold bc5
  have e : uN (sh32 16 x) = uN x / 65536 := uN_shr 16 (by decide) x
  rw [uN_add (by rw [e]; omega), e]
theorem bc_pop (x : Int32) : bc5 (bc4 (bc3 (bc2 (bc1 x)))) &&& 63 = nI (xPop x) := by
  have hx := uN_lt x
  have ha := pAll (a := uN x % 256) (b := uN x / 256 % 256) (c := uN x / 65536 % 256) (e := uN x / 16777216 % 256) (by omega) (by omega) (by omega) (by omega)
  have hp := xPc_32 (a := uN x % 256) (b := uN x / 256 % 256) (c := uN x / 65536 % 256) (e := uN x / 16777216 % 256) (by omega) (by omega) (by omega) (by omega)
  rw [show 256 * (256 * (256 * (uN x / 16777216 % 256) + uN x / 65536 % 256) + uN x / 256 % 256) + uN x % 256 = uN x by omega] at ha hp
  have l1 := xPc_le 8 (uN x % 256)
  have l2 := xPc_le 8 (uN x / 256 % 256)
  have l3 := xPc_le 8 (uN x / 65536 % 256)
  have l4 := xPc_le 8 (uN x / 16777216 % 256)
  have e2 : uN (bc2 (bc1 x)) = pB 858993459 (pA 1431655765 (uN x)) := by rw [uN_bc2, uN_bc1]
  have l5 : uN (bc2 (bc1 x)) < 2000000000 := by
    rw [e2]
    unfold pB
    have h : pA 1431655765 (uN x) / 4 &&& 858993459 ≤ 858993459 := Nat.and_le_right
    have h2 : pA 1431655765 (uN x) &&& 858993459 ≤ 858993459 := Nat.and_le_right
    omega
  have e3 : uN (bc3 (bc2 (bc1 x))) = _ := (uN_bc3 l5).trans ((congrArg (pC 252645135) e2).trans ha)
  have e4 := uN_bc4 (x := bc3 (bc2 (bc1 x))) (by omega)
  have e5 := uN_bc5 (x := bc4 (bc3 (bc2 (bc1 x)))) (by omega)
  apply uN_inj
  rw [uN_and, uN_nI (by have := xPop_le x; omega)]
  show _ &&& 63 = xPop x
  rw [show xPop x = xPc 32 (uN x) from rfl, hp, show (63 : Nat) = 2 ^ 6 - 1 by decide, Nat.and_two_pow_sub_one_eq_mod, e5, e4, e3]
  generalize xPc 8 (uN x % 256) = p1 at *
  generalize xPc 8 (uN x / 256 % 256) = p2 at *
  generalize xPc 8 (uN x / 65536 % 256) = p3 at *
  generalize xPc 8 (uN x / 16777216 % 256) = p4 at *
  clear e5 e4 e3 e2 l5 ha hp hx
  have k1 : (256 * (256 * (256 * p4 + p3) + p2) + p1) / 256 = 256 * (256 * p4 + p3) + p2 := by omega
  rw [k1]
  have k2 : (256 * (256 * (256 * p4 + p3) + p2) + p1 + (256 * (256 * p4 + p3) + p2)) / 65536 = 256 * p4 + (p3 + p4) := by omega
  rw [k2]
  omega
theorem s_J6_bitCount_0f7a4 {d : Nat} (hd : 1 ≤ d) (σ : gS) (x : Int32) : gC d 202 [.int x] σ (fun r τ => r = some (.int (nI (xPop x))) ∧ τ = σ) := by
  obtain ⟨d, rfl⟩ : ∃ k, d = k + 1 := ⟨d - 1, by omega⟩
  refine gC.of (P := pJ6_bitCount_0f7a4) (nL := 1) (rt := (some (.int))) (lv := [some (.int x)]) (by decide +kernel) rfl rfl rfl (by simp [gEnt, Value.category]) rfl ?_
  refine gR.steps 41 (σ, (52, [some (.int (((((((x - (((Int32.toUInt32 x >>> (Int32.toUInt32 1 &&& Int32.toUInt32 31)).toInt32) &&& 1431655765)) &&& 858993459) + (((Int32.toUInt32 (x - (((Int32.toUInt32 x >>> (Int32.toUInt32 1 &&& Int32.toUInt32 31)).toInt32) &&& 1431655765)) >>> (Int32.toUInt32 2 &&& Int32.toUInt32 31)).toInt32) &&& 858993459)) + ((Int32.toUInt32 (((x - (((Int32.toUInt32 x >>> (Int32.toUInt32 1 &&& Int32.toUInt32 31)).toInt32) &&& 1431655765)) &&& 858993459) + (((Int32.toUInt32 (x - (((Int32.toUInt32 x >>> (Int32.toUInt32 1 &&& Int32.toUInt32 31)).toInt32) &&& 1431655765)) >>> (Int32.toUInt32 2 &&& Int32.toUInt32 31)).toInt32) &&& 858993459)) >>> (Int32.toUInt32 4 &&& Int32.toUInt32 31)).toInt32)) &&& 252645135) + ((Int32.toUInt32 (((((x - (((Int32.toUInt32 x >>> (Int32.toUInt32 1 &&& Int32.toUInt32 31)).toInt32) &&& 1431655765)) &&& 858993459) + (((Int32.toUInt32 (x - (((Int32.toUInt32 x >>> (Int32.toUInt32 1 &&& Int32.toUInt32 31)).toInt32) &&& 1431655765)) >>> (Int32.toUInt32 2 &&& Int32.toUInt32 31)).toInt32) &&& 858993459)) + ((Int32.toUInt32 (((x - (((Int32.toUInt32 x >>> (Int32.toUInt32 1 &&& Int32.toUInt32 31)).toInt32) &&& 1431655765)) &&& 858993459) + (((Int32.toUInt32 (x - (((Int32.toUInt32 x >>> (Int32.toUInt32 1 &&& Int32.toUInt32 31)).toInt32) &&& 1431655765)) >>> (Int32.toUInt32 2 &&& Int32.toUInt32 31)).toInt32) &&& 858993459)) >>> (Int32.toUInt32 4 &&& Int32.toUInt32 31)).toInt32)) &&& 252645135) >>> (Int32.toUInt32 8 &&& Int32.toUInt32 31)).toInt32)) + ((Int32.toUInt32 ((((((x - (((Int32.toUInt32 x >>> (Int32.toUInt32 1 &&& Int32.toUInt32 31)).toInt32) &&& 1431655765)) &&& 858993459) + (((Int32.toUInt32 (x - (((Int32.toUInt32 x >>> (Int32.toUInt32 1 &&& Int32.toUInt32 31)).toInt32) &&& 1431655765)) >>> (Int32.toUInt32 2 &&& Int32.toUInt32 31)).toInt32) &&& 858993459)) + ((Int32.toUInt32 (((x - (((Int32.toUInt32 x >>> (Int32.toUInt32 1 &&& Int32.toUInt32 31)).toInt32) &&& 1431655765)) &&& 858993459) + (((Int32.toUInt32 (x - (((Int32.toUInt32 x >>> (Int32.toUInt32 1 &&& Int32.toUInt32 31)).toInt32) &&& 1431655765)) >>> (Int32.toUInt32 2 &&& Int32.toUInt32 31)).toInt32) &&& 858993459)) >>> (Int32.toUInt32 4 &&& Int32.toUInt32 31)).toInt32)) &&& 252645135) + ((Int32.toUInt32 (((((x - (((Int32.toUInt32 x >>> (Int32.toUInt32 1 &&& Int32.toUInt32 31)).toInt32) &&& 1431655765)) &&& 858993459) + (((Int32.toUInt32 (x - (((Int32.toUInt32 x >>> (Int32.toUInt32 1 &&& Int32.toUInt32 31)).toInt32) &&& 1431655765)) >>> (Int32.toUInt32 2 &&& Int32.toUInt32 31)).toInt32) &&& 858993459)) + ((Int32.toUInt32 (((x - (((Int32.toUInt32 x >>> (Int32.toUInt32 1 &&& Int32.toUInt32 31)).toInt32) &&& 1431655765)) &&& 858993459) + (((Int32.toUInt32 (x - (((Int32.toUInt32 x >>> (Int32.toUInt32 1 &&& Int32.toUInt32 31)).toInt32) &&& 1431655765)) >>> (Int32.toUInt32 2 &&& Int32.toUInt32 31)).toInt32) &&& 858993459)) >>> (Int32.toUInt32 4 &&& Int32.toUInt32 31)).toInt32)) &&& 252645135) >>> (Int32.toUInt32 8 &&& Int32.toUInt32 31)).toInt32)) >>> (Int32.toUInt32 16 &&& Int32.toUInt32 31)).toInt32)))], [.int ((((((((x - (((Int32.toUInt32 x >>> (Int32.toUInt32 1 &&& Int32.toUInt32 31)).toInt32) &&& 1431655765)) &&& 858993459) + (((Int32.toUInt32 (x - (((Int32.toUInt32 x >>> (Int32.toUInt32 1 &&& Int32.toUInt32 31)).toInt32) &&& 1431655765)) >>> (Int32.toUInt32 2 &&& Int32.toUInt32 31)).toInt32) &&& 858993459)) + ((Int32.toUInt32 (((x - (((Int32.toUInt32 x >>> (Int32.toUInt32 1 &&& Int32.toUInt32 31)).toInt32) &&& 1431655765)) &&& 858993459) + (((Int32.toUInt32 (x - (((Int32.toUInt32 x >>> (Int32.toUInt32 1 &&& Int32.toUInt32 31)).toInt32) &&& 1431655765)) >>> (Int32.toUInt32 2 &&& Int32.toUInt32 31)).toInt32) &&& 858993459)) >>> (Int32.toUInt32 4 &&& Int32.toUInt32 31)).toInt32)) &&& 252645135) + ((Int32.toUInt32 (((((x - (((Int32.toUInt32 x >>> (Int32.toUInt32 1 &&& Int32.toUInt32 31)).toInt32) &&& 1431655765)) &&& 858993459) + (((Int32.toUInt32 (x - (((Int32.toUInt32 x >>> (Int32.toUInt32 1 &&& Int32.toUInt32 31)).toInt32) &&& 1431655765)) >>> (Int32.toUInt32 2 &&& Int32.toUInt32 31)).toInt32) &&& 858993459)) + ((Int32.toUInt32 (((x - (((Int32.toUInt32 x >>> (Int32.toUInt32 1 &&& Int32.toUInt32 31)).toInt32) &&& 1431655765)) &&& 858993459) + (((Int32.toUInt32 (x - (((Int32.toUInt32 x >>> (Int32.toUInt32 1 &&& Int32.toUInt32 31)).toInt32) &&& 1431655765)) >>> (Int32.toUInt32 2 &&& Int32.toUInt32 31)).toInt32) &&& 858993459)) >>> (Int32.toUInt32 4 &&& Int32.toUInt32 31)).toInt32)) &&& 252645135) >>> (Int32.toUInt32 8 &&& Int32.toUInt32 31)).toInt32)) + ((Int32.toUInt32 ((((((x - (((Int32.toUInt32 x >>> (Int32.toUInt32 1 &&& Int32.toUInt32 31)).toInt32) &&& 1431655765)) &&& 858993459) + (((Int32.toUInt32 (x - (((Int32.toUInt32 x >>> (Int32.toUInt32 1 &&& Int32.toUInt32 31)).toInt32) &&& 1431655765)) >>> (Int32.toUInt32 2 &&& Int32.toUInt32 31)).toInt32) &&& 858993459)) + ((Int32.toUInt32 (((x - (((Int32.toUInt32 x >>> (Int32.toUInt32 1 &&& Int32.toUInt32 31)).toInt32) &&& 1431655765)) &&& 858993459) + (((Int32.toUInt32 (x - (((Int32.toUInt32 x >>> (Int32.toUInt32 1 &&& Int32.toUInt32 31)).toInt32) &&& 1431655765)) >>> (Int32.toUInt32 2 &&& Int32.toUInt32 31)).toInt32) &&& 858993459)) >>> (Int32.toUInt32 4 &&& Int32.toUInt32 31)).toInt32)) &&& 252645135) + ((Int32.toUInt32 (((((x - (((Int32.toUInt32 x >>> (Int32.toUInt32 1 &&& Int32.toUInt32 31)).toInt32) &&& 1431655765)) &&& 858993459) + (((Int32.toUInt32 (x - (((Int32.toUInt32 x >>> (Int32.toUInt32 1 &&& Int32.toUInt32 31)).toInt32) &&& 1431655765)) >>> (Int32.toUInt32 2 &&& Int32.toUInt32 31)).toInt32) &&& 858993459)) + ((Int32.toUInt32 (((x - (((Int32.toUInt32 x >>> (Int32.toUInt32 1 &&& Int32.toUInt32 31)).toInt32) &&& 1431655765)) &&& 858993459) + (((Int32.toUInt32 (x - (((Int32.toUInt32 x >>> (Int32.toUInt32 1 &&& Int32.toUInt32 31)).toInt32) &&& 1431655765)) >>> (Int32.toUInt32 2 &&& Int32.toUInt32 31)).toInt32) &&& 858993459)) >>> (Int32.toUInt32 4 &&& Int32.toUInt32 31)).toInt32)) &&& 252645135) >>> (Int32.toUInt32 8 &&& Int32.toUInt32 31)).toInt32)) >>> (Int32.toUInt32 16 &&& Int32.toUInt32 31)).toInt32)) &&& 63)])) rfl ?_
  refine gR.ret rfl ?_
  exact ⟨trivial, gSomeI (bc_pop x), rfl⟩
