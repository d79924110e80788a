theorem jL_bv (x : Nat) : (jL x).toBitVec = BitVec.ofNat 64 x := rfl
theorem jL_or1 {x y : Nat} (hx : x < 9223372036854775808) (hy : y < 9223372036854775808) : ((jL x ||| jL y) &&& 1 = 0 ↔ x % 2 = 0 ∧ y % 2 = 0) := by
  have e : (jL x ||| jL y) &&& 1 = jL ((x ||| y) &&& 1) := by
    apply Int64.toBitVec_inj.mp
    rw [Int64.toBitVec_and, Int64.toBitVec_or, jL_bv, jL_bv, jL_bv, BitVec.ofNat_and, BitVec.ofNat_or]; rfl
  have h1 : (x ||| y) &&& 1 = (x ||| y) % 2 := Nat.and_one_is_mod _
  have h2 : (x ||| y) % 2 = 1 ↔ x % 2 = 1 ∨ y % 2 = 1 := Nat.or_mod_two_eq_one
  rw [e, h1, jL_0 (by omega)]
  omega
theorem jL_shr {x : Nat} (hx : x < 9223372036854775808) : jL x >>> (Int32.toInt64 1 &&& 63) = jL (x / 2) := by
  apply Int64.toBitVec_inj.mp
  rw [Int64.toBitVec_shiftRight]
  show ((jL x).toBitVec.sshiftRight ((Int32.toInt64 1 &&& 63).toBitVec.smod 64).toNat) = _
  rw [show ((Int32.toInt64 1 &&& 63).toBitVec.smod 64).toNat = 1 by decide +kernel, jL_bv, jL_bv]
  have hm : (BitVec.ofNat 64 x).msb = false := by
    rw [BitVec.msb_eq_decide]
    refine decide_eq_false ?_
    rw [BitVec.toNat_ofNat, Nat.mod_eq_of_lt (by omega)]; omega
  rw [BitVec.sshiftRight_eq_of_msb_false hm]
  apply BitVec.eq_of_toNat_eq
  rw [BitVec.toNat_ushiftRight, BitVec.toNat_ofNat, BitVec.toNat_ofNat, Nat.mod_eq_of_lt (by omega), Nat.mod_eq_of_lt (by omega), Nat.shiftRight_eq_div_pow]
theorem odd_gcd {x : Nat} (h : x % 2 = 1) : ∀ k, Nat.gcd x (2 ^ k) = 1
  | 0 => by rw [Nat.pow_zero, Nat.gcd_one_right]
  | k + 1 => by
    have h2 : Nat.Coprime x 2 := by
      show Nat.gcd x 2 = 1
      rw [Nat.gcd_comm, Nat.gcd_rec, h]; decide
    have ih : Nat.Coprime x (2 ^ k) := odd_gcd h k
    rw [Nat.pow_succ]
    exact Nat.Coprime.mul_right ih h2
theorem luck_end {a x t N : Nat} (ha : a = x * 2 ^ t) (ht : t ≤ N) (h : x % 2 = 1 ∨ N - t = 0) : a / Nat.gcd a (2 ^ N) = x ∧ 2 ^ N / Nat.gcd a (2 ^ N) = 2 ^ (N - t) := by
  have e : 2 ^ N = 2 ^ (N - t) * 2 ^ t := by rw [← Nat.pow_add]; congr 1; omega
  have g : Nat.gcd x (2 ^ (N - t)) = 1 := by
    rcases h with h | h
    · exact odd_gcd h _
    · rw [h, Nat.pow_zero, Nat.gcd_one_right]
  have hp : 0 < 2 ^ t := Nat.pow_pos (by omega)
  have hg : Nat.gcd a (2 ^ N) = 2 ^ t := by rw [ha, e, Nat.gcd_mul_right, g, Nat.one_mul]
  rw [hg]
  refine ⟨by rw [ha, Nat.mul_div_cancel _ hp], ?_⟩
  rw [e, Nat.mul_div_cancel _ hp]
theorem pow_odd {k : Nat} (h : ¬ 2 ^ k % 2 = 0) : k = 0 := by
  cases k with
  | zero => rfl
  | succ k => rw [Nat.pow_succ, Nat.mul_mod_left] at h; exact absurd rfl h
theorem pow_half {k : Nat} (h : ¬ k = 0) : 2 ^ k / 2 = 2 ^ (k - 1) := by
  obtain ⟨j, rfl⟩ : ∃ j, k = j + 1 := ⟨k - 1, by omega⟩
  rw [Nat.pow_succ, Nat.mul_div_cancel _ (by omega)]; rfl
theorem lkW_y {D : xDat} {c m s : Nat} (hn : dN D ≤ 8) (hs : s < 2 ^ dN D) (hc : c ≤ 16) (h : lkB D m (2 ^ dN D - 1 - s) (dNb D) = true) : xPr (fun i => if i < xPop (nI s) then c else 16 - c) (dN D) = lkW D c m (2 ^ dN D - 1 - s) := by
  have hp := pow_le8 (dN D) (by omega)
  unfold lkW
  rw [if_pos h, Nat.one_mul, lkP_c (dN D) (by omega) s (by omega) hs c (by omega), pop_8 s (by omega)]
theorem lkW_n {D : xDat} {c m s : Nat} (h : ¬ lkB D m s (dNb D) = true) : lkW D c m s = 0 := by
  unfold lkW
  rw [if_neg h, Nat.zero_mul]
theorem s_X10_bareShares {d : Nat} (hd : 5 ≤ d) (σ : gS) (D : xDat) (c m : Nat) (hs : cSt σ D) (hG : cGr σ D gn0) (hc : c ≤ 16) (hm : m < 24) : gC d 96 [.ref 18, .int (nI c), .int (nI m)] σ (fun r τ => r = some (.long (jL (dAbv D c m))) ∧ (∀ p, p ≠ 43 → τ p = σ p)) := by
  obtain ⟨d, rfl⟩ : ∃ k, d = k + 1 := ⟨d - 1, by omega⟩
  refine gC.of (P := pX10_bareShares) (nL := 7) (rt := (some (.long))) (lv := [some (.ref 18), some (.int (nI c)), some (.int (nI m)), none, none, none, none]) (by decide +kernel) rfl rfl rfl (by simp [gEnt, Value.category]) rfl ?_
  have hnb := dNb_le D hs.1.1.2.2.2.1
  have hnl := dNl_le D hs.2.1.1.2.2.2.1
  have hn8 := hs.2.2.1.2.1
  have hp := pow_le8 (dN D) (by omega)
  have hK : ∀ e, e < dN D → dK D e < 4 := fun e he => (hs.2.2.1.2.2 e he).2.2.2.1
  refine gR.steps 2 (σ, (2, [some (.ref 18), some (.int (nI c)), some (.int (nI m)), none, none, none, none], [.int (nI m), .ref 18])) rfl ?_
  refine gR.call' rfl (s_X10_gatherHinderers (by omega) σ D m hs hG hm) ?_
  rintro _ τ ⟨rfl, hF, P, hH⟩
  have hN : τ 27 3 = nI (dN D) := by rw [hF 27 (by decide)]; exact hs.2.2.1.1
  have hcn : xCnt (dSn D m) (dNb D) ≤ dNb D := xCnt_le _ _
  show gR _ _ _ τ (5, [some (.ref 18), some (.int (nI c)), some (.int (nI m)), none, none, none, none], [.int (nI (xCnt (dSn D m) (dNb D)))])
  refine gR.steps 5 (τ, (12, [some (.ref 18), some (.int (nI c)), some (.int (nI m)), some (.int (nI (xCnt (dSn D m) (dNb D)))), some (.long 0), none, some (.int 0)], [])) rfl ?_
  refine gR.forget [some (.ref 18), some (.int (nI c)), some (.int (nI m)), some (.int (nI (xCnt (dSn D m) (dNb D)))), some (.long (jL (xSum (fun s => lkW D c m (2 ^ dN D - 1 - s)) 0))), none, some (.int 0)] ⟨rfl, ⟨rfl, ⟨rfl, ⟨rfl, ⟨rfl, ⟨rfl, trivial⟩⟩⟩⟩⟩⟩ ?_
  refine gR.loop (α := Nat) (fun s => s ≤ 2 ^ dN D) (fun s => 2 ^ dN D - s) (fun s => (τ, (12, [some (.ref 18), some (.int (nI c)), some (.int (nI m)), some (.int (nI (xCnt (dSn D m) (dNb D)))), some (.long (jL (xSum (fun s => lkW D c m (2 ^ dN D - 1 - s)) s))), none, some (.int (nI s))], []))) ?_ 0 (Nat.zero_le _)
  rintro s hs2 ih
  show gR _ _ _ τ (12, [some (.ref 18), some (.int (nI c)), some (.int (nI m)), some (.int (nI (xCnt (dSn D m) (dNb D)))), some (.long (jL (xSum (fun s => lkW D c m (2 ^ dN D - 1 - s)) s))), none, some (.int (nI s))], [])
  refine gR.steps 5 (τ, (22, [some (.ref 18), some (.int (nI c)), some (.int (nI m)), some (.int (nI (xCnt (dSn D m) (dNb D)))), some (.long (jL (xSum (fun s => lkW D c m (2 ^ dN D - 1 - s)) s))), none, some (.int (nI s))], [.int (τ 27 3), .int 1, .int (nI s)])) rfl ?_
  refine gR.topI (y := nI (dN D)) hN ?_
  refine gR.steps 1 (τ, (23, [some (.ref 18), some (.int (nI c)), some (.int (nI m)), some (.int (nI (xCnt (dSn D m) (dNb D)))), some (.long (jL (xSum (fun s => lkW D c m (2 ^ dN D - 1 - s)) s))), none, some (.int (nI s))], [.int ((1 : Int32) <<< ((nI (dN D)) &&& 31)), .int (nI s)])) rfl ?_
  refine gR.ifte rfl (fun zc23 => ?_) (fun zc23 => ?_)
  · rw [gN_le (x := (1 : Int32) <<< ((nI (dN D)) &&& 31)) (y := nI s) (a := 2 ^ dN D) (b := s) (shl1 (dN D) (by omega)) rfl (by omega) (by omega)] at zc23
    refine gR.steps 1 (τ, (59, [some (.ref 18), some (.int (nI c)), some (.int (nI m)), some (.int (nI (xCnt (dSn D m) (dNb D)))), some (.long (jL (xSum (fun s => lkW D c m (2 ^ dN D - 1 - s)) s))), none, some (.int (nI s))], [.long (jL (xSum (fun s => lkW D c m (2 ^ dN D - 1 - s)) s))])) rfl ?_
    show gR _ _ _ τ (59, [some (.ref 18), some (.int (nI c)), some (.int (nI m)), some (.int (nI (xCnt (dSn D m) (dNb D)))), some (.long (jL (xSum (fun s => lkW D c m (2 ^ dN D - 1 - s)) s))), none, some (.int (nI s))], [.long (jL (xSum (fun s => lkW D c m (2 ^ dN D - 1 - s)) s))])
    refine gR.ret rfl ?_
    have hse : s = 2 ^ dN D := by omega
    refine ⟨trivial, gSomeL (congrArg jL ?_), hF⟩
    rw [hse]; exact xSum_rev (lkW D c m) (2 ^ dN D)
  · rw [gN_le (x := (1 : Int32) <<< ((nI (dN D)) &&& 31)) (y := nI s) (a := 2 ^ dN D) (b := s) (shl1 (dN D) (by omega)) rfl (by omega) (by omega)] at zc23
    refine gR.steps 3 (τ, (30, [some (.ref 18), some (.int (nI c)), some (.int (nI m)), some (.int (nI (xCnt (dSn D m) (dNb D)))), some (.long (jL (xSum (fun s => lkW D c m (2 ^ dN D - 1 - s)) s))), none, some (.int (nI s))], [.int (nI (xCnt (dSn D m) (dNb D))), .int (nI s), .ref 18])) rfl ?_
    refine gR.callp rfl (s_X10_hindersAll (by omega) τ s (xCnt (dSn D m) (dNb D)) (by omega)) ?_
    refine gR.ifte rfl (fun zc33 => ?_) (fun zc33 => ?_)
    · rw [bI_eq0] at zc33
      refine gR.steps 2 (τ, (12, [some (.ref 18), some (.int (nI c)), some (.int (nI m)), some (.int (nI (xCnt (dSn D m) (dNb D)))), some (.long (jL (xSum (fun s => lkW D c m (2 ^ dN D - 1 - s)) s))), none, some (.int ((nI s) + 1))], [])) rfl ?_
      refine gR.forget [some (.ref 18), some (.int (nI c)), some (.int (nI m)), some (.int (nI (xCnt (dSn D m) (dNb D)))), some (.long (jL (xSum (fun s => lkW D c m (2 ^ dN D - 1 - s)) (s + 1)))), none, some (.int (nI (s + 1)))] ⟨rfl, ⟨rfl, ⟨rfl, ⟨rfl, ⟨gSomeL (congrArg jL (by simp only [xSum]; rw [lkW_n (fun z => zc33 ((lk_eq hH hn8 hK (by omega)).mpr z))]; rfl)), ⟨gSomeI (gN_add rfl rfl), trivial⟩⟩⟩⟩⟩⟩ ?_
      have hzz := ih (s + 1) (by omega) (by omega)
      exact hzz
    · rw [bI_eq0, Decidable.not_not] at zc33
      refine gR.steps 4 (τ, (42, [some (.ref 18), some (.int (nI c)), some (.int (nI m)), some (.int (nI (xCnt (dSn D m) (dNb D)))), some (.long (jL (xSum (fun s => lkW D c m (2 ^ dN D - 1 - s)) s))), none, some (.int (nI s))], [.int (nI s), .int (nI c), .ref 18, .long (jL (xSum (fun s => lkW D c m (2 ^ dN D - 1 - s)) s))])) rfl ?_
      refine gR.callp rfl (s_J6_bitCount_0f7a4 (by omega) τ (nI s)) ?_
      have hpl := xPop_le (nI s)
      refine gR.callp rfl (s_X10_shareOf (by omega) τ (dN D) c (xPop (nI s)) hN hn8 hc hpl) ?_
      refine gR.steps 4 (τ, (12, [some (.ref 18), some (.int (nI c)), some (.int (nI m)), some (.int (nI (xCnt (dSn D m) (dNb D)))), some (.long ((jL (xSum (fun s => lkW D c m (2 ^ dN D - 1 - s)) s)) + (jL (xPr (fun i => if i < xPop (nI s) then c else 16 - c) (dN D))))), none, some (.int ((nI s) + 1))], [])) rfl ?_
      refine gR.forget [some (.ref 18), some (.int (nI c)), some (.int (nI m)), some (.int (nI (xCnt (dSn D m) (dNb D)))), some (.long (jL (xSum (fun s => lkW D c m (2 ^ dN D - 1 - s)) (s + 1)))), none, some (.int (nI (s + 1)))] ⟨rfl, ⟨rfl, ⟨rfl, ⟨rfl, ⟨gSomeL (by rw [jL_add, lkW_y hn8 (by omega) hc ((lk_eq hH hn8 hK (by omega)).mp zc33)]; rfl), ⟨gSomeI (gN_add rfl rfl), trivial⟩⟩⟩⟩⟩⟩ ?_
      have hzz := ih (s + 1) (by omega) (by omega)
      exact hzz
theorem s_X10_luck {d : Nat} (hd : 6 ≤ d) (σ : gS) (D : xDat) (c m w : Int32) (hs : cSt σ D) : gC d 69 [.ref 18, .int c, .int m, .int w] σ (fun r τ => r = some (.long (aLuck D c m w)) ∧ cKeep σ τ) := by
  obtain ⟨d, rfl⟩ : ∃ k, d = k + 1 := ⟨d - 1, by omega⟩
  refine gC.of (P := pX10_luck) (nL := 9) (rt := (some (.long))) (lv := [some (.ref 18), some (.int c), some (.int m), some (.int w), none, none, none, none, none]) (by decide +kernel) rfl rfl rfl (by simp [gEnt, Value.category]) rfl ?_
  have hnb := dNb_le D hs.1.1.2.2.2.1
  have hnl := dNl_le D hs.2.1.1.2.2.2.1
  have hn8 := hs.2.2.1.2.1
  have hp := pow_le8 (dN D) (by omega)
  refine gR.steps 3 (σ, (4, [some (.ref 18), some (.int c), some (.int m), some (.int w), none, none, none, none, none], [.int 16, .int 0, .int c])) rfl ?_
  refine gR.callp rfl (s_X10_withinI (by omega) σ c 0 16 0 16 (by decide) (by decide)) ?_
  refine gR.ifte rfl (fun zc7 => ?_) (fun zc7 => ?_)
  · rw [bI_eq0] at zc7
    refine gR.steps 1 (σ, (29, [some (.ref 18), some (.int c), some (.int m), some (.int w), none, none, none, none, none], [.long (-9223372036854775806)])) rfl ?_
    show gR _ _ _ σ (29, [some (.ref 18), some (.int c), some (.int m), some (.int w), none, none, none, none, none], [.long (-9223372036854775806)])
    refine gR.ret rfl ?_
    exact ⟨trivial, by rw [show aLuck D c m w = -9223372036854775806 from if_neg (by omega)], cKeep.rf σ⟩
  · rw [bI_eq0, Decidable.not_not] at zc7
    obtain ⟨cc, hcc, rfl⟩ := gN_of (x := c) (n := 17) (by omega) (by omega) (by omega)
    refine gR.steps 1 (σ, (11, [some (.ref 18), some (.int (nI cc)), some (.int m), some (.int w), none, none, none, none, none], [.int m])) rfl ?_
    refine gR.callp rfl (s_X10_isMonth (by omega) σ m) ?_
    refine gR.ifte rfl (fun zc14 => ?_) (fun zc14 => ?_)
    · rw [bI_eq0] at zc14
      refine gR.steps 1 (σ, (29, [some (.ref 18), some (.int (nI cc)), some (.int m), some (.int w), none, none, none, none, none], [.long (-9223372036854775806)])) rfl ?_
      show gR _ _ _ σ (29, [some (.ref 18), some (.int (nI cc)), some (.int m), some (.int w), none, none, none, none, none], [.long (-9223372036854775806)])
      refine gR.ret rfl ?_
      exact ⟨trivial, by rw [show aLuck D (nI cc) m w = -9223372036854775806 from if_neg (by omega)], cKeep.rf σ⟩
    · rw [bI_eq0, Decidable.not_not] at zc14
      obtain ⟨mm, hmm, rfl⟩ := gN_of (x := m) (n := 24) (by omega) (by omega) (by omega)
      refine gR.steps 3 (σ, (20, [some (.ref 18), some (.int (nI cc)), some (.int (nI mm)), some (.int w), none, none, none, none, none], [.int 1, .int 0, .int w])) rfl ?_
      refine gR.callp rfl (s_X10_withinI (by omega) σ w 0 1 0 1 (by decide) (by decide)) ?_
      refine gR.ifte rfl (fun zc23 => ?_) (fun zc23 => ?_)
      · rw [bI_ne0] at zc23
        obtain ⟨ww, hww, rfl⟩ := gN_of (x := w) (n := 2) (by omega) (by omega) (by omega)
        refine gR.steps 5 (σ, (39, [some (.ref 18), some (.int (nI cc)), some (.int (nI mm)), some (.int (nI ww)), none, none, none, none, none], [.int 0, .ref 27, .ref 20])) rfl ?_
        refine gR.call' rfl (s_X3_grow27 (by omega) σ D gn0 0 hs.1 hs.2.2.1 bGone_0) ?_
        rintro _ τ0 ⟨rfl, hF0, hG⟩
        have hst := hs.keep hF0.keep
        show gR _ _ _ τ0 (42, [some (.ref 18), some (.int (nI cc)), some (.int (nI mm)), some (.int (nI ww)), none, none, none, none, none], [.int (dBareG D gn0)])
        refine gR.steps 4 (τ0, (46, [some (.ref 18), some (.int (nI cc)), some (.int (nI mm)), some (.int (nI ww)), none, none, none, none, none], [.int (nI mm), .int (nI cc), .ref 18])) rfl ?_
        refine gR.call' rfl (s_X10_bareShares (by omega) τ0 D cc mm hst hG (by omega) hmm) ?_
        rintro _ τ ⟨rfl, hF⟩
        have hK : cKeep σ τ := hF0.keep.tr ⟨fun q a b => hF q (fun z => b (by unfold cScr; omega)), fun s _ _ => by rw [hF 19 (by decide)]⟩
        have hN : τ 27 3 = nI (dN D) := by rw [hF 27 (by decide)]; exact hst.2.2.1.1
        have hal := dAbv_le (D := D) (c := cc) (m := mm) (by omega) hn8
        show gR _ _ _ τ (49, [some (.ref 18), some (.int (nI cc)), some (.int (nI mm)), some (.int (nI ww)), none, none, none, none, none], [.long (jL (dAbv D cc mm))])
        refine gR.steps 4 (τ, (55, [some (.ref 18), some (.int (nI cc)), some (.int (nI mm)), some (.int (nI ww)), some (.long (jL (dAbv D cc mm))), none, none, none, none], [.int (lg_cmp (jL (dAbv D cc mm)) 0)])) rfl ?_
        refine gR.ifte rfl (fun zc55 => ?_) (fun zc55 => ?_)
        · rw [lgc_eq, jL_0 (by omega)] at zc55
          refine gR.steps 5 (τ, (70, [some (.ref 18), some (.int (nI cc)), some (.int (nI mm)), some (.int (nI ww)), some (.long (jL (dAbv D cc mm))), none, none, none, none], [.int (τ 27 3), .int 4, .long 1])) rfl ?_
          refine gR.topI (y := nI (dN D)) hN ?_
          refine gR.steps 5 (τ, (77, [some (.ref 18), some (.int (nI cc)), some (.int (nI mm)), some (.int (nI ww)), some (.long (jL (dAbv D cc mm))), none, some (.long ((1 : Int64) <<< (Int32.toInt64 (4 * (nI (dN D))) &&& 63))), none, some (.int 0)], [])) rfl ?_
          refine gR.forget [some (.ref 18), some (.int (nI cc)), some (.int (nI mm)), some (.int (nI ww)), some (.long (jL (dAbv D cc mm))), none, some (.long (jL (2 ^ (4 * dN D - 0)))), none, some (.int 0)] ⟨rfl, rfl, rfl, rfl, rfl, gSomeL (shl1L (dN D) (by omega)), rfl, trivial⟩ ?_
          refine gR.loop (α := Nat × Nat) (fun ⟨t, x⟩ => t ≤ 4 * dN D ∧ dAbv D cc mm = x * 2 ^ t ∧ 0 < x) (fun ⟨t, x⟩ => 32 - t) (fun ⟨t, x⟩ => (τ, (77, [some (.ref 18), some (.int (nI cc)), some (.int (nI mm)), some (.int (nI ww)), some (.long (jL x)), none, some (.long (jL (2 ^ (4 * dN D - t)))), none, some (.int (nI t))], []))) ?_ ⟨0, dAbv D cc mm⟩ ⟨by omega, by rw [Nat.pow_zero, Nat.mul_one], by omega⟩
          rintro ⟨t, x⟩ ⟨ht, hx, hx0⟩ ih
          show gR _ _ _ τ (77, [some (.ref 18), some (.int (nI cc)), some (.int (nI mm)), some (.int (nI ww)), some (.long (jL x)), none, some (.long (jL (2 ^ (4 * dN D - t)))), none, some (.int (nI t))], [])
          have hxl : x < 9223372036854775808 := by
            have := Nat.le_mul_of_pos_right x (Nat.pow_pos (n := t) (show 0 < 2 by omega))
            omega
          have hyl : 2 ^ (4 * dN D - t) < 9223372036854775808 := Nat.lt_of_le_of_lt (Nat.pow_le_pow_right (by omega) (show 4 * dN D - t ≤ 4 * dN D by omega)) (by omega)
          refine gR.steps 2 (τ, (81, [some (.ref 18), some (.int (nI cc)), some (.int (nI mm)), some (.int (nI ww)), some (.long (jL x)), none, some (.long (jL (2 ^ (4 * dN D - t)))), none, some (.int (nI t))], [.int 32, .int (nI t)])) rfl ?_
          refine gR.ifte rfl (fun zc81 => ?_) (fun zc81 => ?_)
          · rw [gN_le (x := 32) (y := nI t) (a := 32) (b := t) rfl rfl (by omega) (by omega)] at zc81
            refine gR.steps 1 (τ, (115, [some (.ref 18), some (.int (nI cc)), some (.int (nI mm)), some (.int (nI ww)), some (.long (jL x)), none, some (.long (jL (2 ^ (4 * dN D - t)))), none, some (.int (nI t))], [.int (nI ww)])) rfl ?_
            refine gR.ifte rfl (fun zc115 => ?_) (fun zc115 => ?_)
            · rw [gN_eq (x := nI ww) (y := 0) (a := ww) (b := 0) rfl rfl (by omega) (by omega)] at zc115
              refine gR.steps 1 (τ, (125, [some (.ref 18), some (.int (nI cc)), some (.int (nI mm)), some (.int (nI ww)), some (.long (jL x)), none, some (.long (jL (2 ^ (4 * dN D - t)))), none, some (.int (nI t))], [.long (jL (2 ^ (4 * dN D - t)))])) rfl ?_
              show gR _ _ _ τ (125, [some (.ref 18), some (.int (nI cc)), some (.int (nI mm)), some (.int (nI ww)), some (.long (jL x)), none, some (.long (jL (2 ^ (4 * dN D - t)))), none, some (.int (nI t))], [.long (jL (2 ^ (4 * dN D - t)))])
              refine gR.ret rfl ?_
              have hend := luck_end (N := 4 * dN D) hx ht (by
                  first
                  | (right; omega)
                  | (by_cases z : 2 ^ (4 * dN D - t) % 2 = 0
                     · left; omega
                     · right; exact pow_odd z))
              refine ⟨trivial, ?_, hK⟩
              rw [show aLuck D (nI cc) (nI mm) (nI ww) = _ from if_pos ⟨⟨zc7, zc14⟩, zc23⟩, nI_clamp (by omega), nI_clamp (by omega), nI_clamp (by omega)]
              refine gSomeL (congrArg jL ?_)
              unfold dLuck
              first
              | (rw [if_pos (show ww = 0 by omega)]; exact hend.1.symm)
              | (rw [if_neg (show ¬ ww = 0 by omega)]; exact hend.2.symm)
            · rw [gN_eq (x := nI ww) (y := 0) (a := ww) (b := 0) rfl rfl (by omega) (by omega)] at zc115
              refine gR.steps 2 (τ, (125, [some (.ref 18), some (.int (nI cc)), some (.int (nI mm)), some (.int (nI ww)), some (.long (jL x)), none, some (.long (jL (2 ^ (4 * dN D - t)))), none, some (.int (nI t))], [.long (jL x)])) rfl ?_
              show gR _ _ _ τ (125, [some (.ref 18), some (.int (nI cc)), some (.int (nI mm)), some (.int (nI ww)), some (.long (jL x)), none, some (.long (jL (2 ^ (4 * dN D - t)))), none, some (.int (nI t))], [.long (jL x)])
              refine gR.ret rfl ?_
              have hend := luck_end (N := 4 * dN D) hx ht (by
                  first
                  | (right; omega)
                  | (by_cases z : 2 ^ (4 * dN D - t) % 2 = 0
                     · left; omega
                     · right; exact pow_odd z))
              refine ⟨trivial, ?_, hK⟩
              rw [show aLuck D (nI cc) (nI mm) (nI ww) = _ from if_pos ⟨⟨zc7, zc14⟩, zc23⟩, nI_clamp (by omega), nI_clamp (by omega), nI_clamp (by omega)]
              refine gSomeL (congrArg jL ?_)
              unfold dLuck
              first
              | (rw [if_pos (show ww = 0 by omega)]; exact hend.1.symm)
              | (rw [if_neg (show ¬ ww = 0 by omega)]; exact hend.2.symm)
          · rw [gN_le (x := 32) (y := nI t) (a := 32) (b := t) rfl rfl (by omega) (by omega)] at zc81
            refine gR.steps 7 (τ, (93, [some (.ref 18), some (.int (nI cc)), some (.int (nI mm)), some (.int (nI ww)), some (.long (jL x)), none, some (.long (jL (2 ^ (4 * dN D - t)))), none, some (.int (nI t))], [.int (lg_cmp (((jL x) ||| (jL (2 ^ (4 * dN D - t)))) &&& 1) 0)])) rfl ?_
            refine gR.ifte rfl (fun zc93 => ?_) (fun zc93 => ?_)
            · rw [lgc_eq, jL_or1 hxl hyl] at zc93
              refine gR.steps 1 (τ, (115, [some (.ref 18), some (.int (nI cc)), some (.int (nI mm)), some (.int (nI ww)), some (.long (jL x)), none, some (.long (jL (2 ^ (4 * dN D - t)))), none, some (.int (nI t))], [.int (nI ww)])) rfl ?_
              refine gR.ifte rfl (fun zc115 => ?_) (fun zc115 => ?_)
              · rw [gN_eq (x := nI ww) (y := 0) (a := ww) (b := 0) rfl rfl (by omega) (by omega)] at zc115
                refine gR.steps 1 (τ, (125, [some (.ref 18), some (.int (nI cc)), some (.int (nI mm)), some (.int (nI ww)), some (.long (jL x)), none, some (.long (jL (2 ^ (4 * dN D - t)))), none, some (.int (nI t))], [.long (jL (2 ^ (4 * dN D - t)))])) rfl ?_
                show gR _ _ _ τ (125, [some (.ref 18), some (.int (nI cc)), some (.int (nI mm)), some (.int (nI ww)), some (.long (jL x)), none, some (.long (jL (2 ^ (4 * dN D - t)))), none, some (.int (nI t))], [.long (jL (2 ^ (4 * dN D - t)))])
                refine gR.ret rfl ?_
                have hend := luck_end (N := 4 * dN D) hx ht (by
                    first
                    | (right; omega)
                    | (by_cases z : 2 ^ (4 * dN D - t) % 2 = 0
                       · left; omega
                       · right; exact pow_odd z))
                refine ⟨trivial, ?_, hK⟩
                rw [show aLuck D (nI cc) (nI mm) (nI ww) = _ from if_pos ⟨⟨zc7, zc14⟩, zc23⟩, nI_clamp (by omega), nI_clamp (by omega), nI_clamp (by omega)]
                refine gSomeL (congrArg jL ?_)
                unfold dLuck
                first
                | (rw [if_pos (show ww = 0 by omega)]; exact hend.1.symm)
                | (rw [if_neg (show ¬ ww = 0 by omega)]; exact hend.2.symm)
              · rw [gN_eq (x := nI ww) (y := 0) (a := ww) (b := 0) rfl rfl (by omega) (by omega)] at zc115
                refine gR.steps 2 (τ, (125, [some (.ref 18), some (.int (nI cc)), some (.int (nI mm)), some (.int (nI ww)), some (.long (jL x)), none, some (.long (jL (2 ^ (4 * dN D - t)))), none, some (.int (nI t))], [.long (jL x)])) rfl ?_
                show gR _ _ _ τ (125, [some (.ref 18), some (.int (nI cc)), some (.int (nI mm)), some (.int (nI ww)), some (.long (jL x)), none, some (.long (jL (2 ^ (4 * dN D - t)))), none, some (.int (nI t))], [.long (jL x)])
                refine gR.ret rfl ?_
                have hend := luck_end (N := 4 * dN D) hx ht (by
                    first
                    | (right; omega)
                    | (by_cases z : 2 ^ (4 * dN D - t) % 2 = 0
                       · left; omega
                       · right; exact pow_odd z))
                refine ⟨trivial, ?_, hK⟩
                rw [show aLuck D (nI cc) (nI mm) (nI ww) = _ from if_pos ⟨⟨zc7, zc14⟩, zc23⟩, nI_clamp (by omega), nI_clamp (by omega), nI_clamp (by omega)]
                refine gSomeL (congrArg jL ?_)
                unfold dLuck
                first
                | (rw [if_pos (show ww = 0 by omega)]; exact hend.1.symm)
                | (rw [if_neg (show ¬ ww = 0 by omega)]; exact hend.2.symm)
            · rw [lgc_eq, jL_or1 hxl hyl, Decidable.not_not] at zc93
              have hnt : ¬ 4 * dN D - t = 0 := fun z => by rw [z] at zc93; exact absurd zc93.2 (by decide)
              refine gR.steps 10 (τ, (77, [some (.ref 18), some (.int (nI cc)), some (.int (nI mm)), some (.int (nI ww)), some (.long ((jL x) >>> (Int32.toInt64 1 &&& 63))), none, some (.long ((jL (2 ^ (4 * dN D - t))) >>> (Int32.toInt64 1 &&& 63))), none, some (.int ((nI t) + 1))], [])) rfl ?_
              refine gR.forget [some (.ref 18), some (.int (nI cc)), some (.int (nI mm)), some (.int (nI ww)), some (.long (jL (x / 2))), none, some (.long (jL (2 ^ (4 * dN D - (t + 1))))), none, some (.int (nI (t + 1)))] ⟨rfl, ⟨rfl, ⟨rfl, ⟨rfl, ⟨gSomeL (jL_shr hxl), ⟨gSomeL (by rw [jL_shr hyl, pow_half hnt]; rfl), ⟨gSomeI (gN_add rfl rfl), trivial⟩⟩⟩⟩⟩⟩⟩ ?_
              have hzz := ih ⟨t + 1, x / 2⟩ ⟨by omega, by show dAbv D cc mm = x / 2 * 2 ^ (t + 1); rw [Nat.pow_succ, Nat.mul_comm (2 ^ t) 2, ← Nat.mul_assoc, show x / 2 * 2 = x by omega]; exact hx, by omega⟩ (by dsimp only; omega)
              exact hzz
        · rw [lgc_eq, jL_0 (by omega), Decidable.not_not] at zc55
          refine gR.steps 2 (τ, (60, [some (.ref 18), some (.int (nI cc)), some (.int (nI mm)), some (.int (nI ww)), some (.long (jL (dAbv D cc mm))), none, none, none, none], [.long (Int32.toInt64 (nI ww))])) rfl ?_
          show gR _ _ _ τ (60, [some (.ref 18), some (.int (nI cc)), some (.int (nI mm)), some (.int (nI ww)), some (.long (jL (dAbv D cc mm))), none, none, none, none], [.long (Int32.toInt64 (nI ww))])
          refine gR.ret rfl ?_
          refine ⟨trivial, ?_, hK⟩
          rw [show aLuck D (nI cc) (nI mm) (nI ww) = _ from if_pos ⟨⟨zc7, zc14⟩, zc23⟩, nI_clamp (by omega), nI_clamp (by omega), nI_clamp (by omega)]
          rw [jL_i (by omega)]
          refine gSomeL (congrArg jL ?_)
          unfold dLuck
          rw [zc55, Nat.gcd_zero_left]
          rcases (show ww = 0 ∨ ww = 1 by omega) with rfl | rfl
          · rw [if_pos rfl, Nat.zero_div]
          · rw [if_neg (by decide), Nat.div_self (Nat.pow_pos (by omega))]
      · rw [bI_ne0] at zc23
        refine gR.steps 1 (σ, (29, [some (.ref 18), some (.int (nI cc)), some (.int (nI mm)), some (.int w), none, none, none, none, none], [.long (-9223372036854775806)])) rfl ?_
        show gR _ _ _ σ (29, [some (.ref 18), some (.int (nI cc)), some (.int (nI mm)), some (.int w), none, none, none, none, none], [.long (-9223372036854775806)])
        refine gR.ret rfl ?_
        exact ⟨trivial, by rw [show aLuck D (nI cc) (nI mm) w = -9223372036854775806 from if_neg (by omega)], cKeep.rf σ⟩
