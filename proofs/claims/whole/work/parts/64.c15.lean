def hB (D : xDat) (m k e : Nat) : Bool := !decide (dK D e = 3) && cHit (dK D) (dM D) (dB D) (some k) (dKd D k) e m
theorem gnB_c : ∀ n, n < 9 → ∀ s, s < 256 → s < 2 ^ n → ∀ e, e < 8 → e < n → gnB (2 ^ n - 1 - s) e = !gnB s e := by decide +kernel
theorem pop_8 : ∀ s, s < 256 → xPop (nI s) = xPc 8 s := by decide +kernel
theorem lkP_c : ∀ n, n < 9 → ∀ s, s < 256 → s < 2 ^ n → ∀ c, c < 17 → lkP c (2 ^ n - 1 - s) n = xPr (fun i => if i < xPc 8 s then c else 16 - c) n := by decide +kernel
theorem and_0 {h : Nat → Bool} {n s : Nat} (hn : n ≤ 8) (hs : s < 256) : (xMask h n &&& nI s = 0 ↔ ∀ e, e < n → ¬ (h e = true ∧ gnB s e = true)) := by
  have hb : ∀ e, e < 8 → (bt (nI s) e = true ↔ gnB s e = true) := fun e he => (xBit_bt (nI s) (by omega)).symm.trans (gnB_bit s hs e he)
  constructor
  · intro z e he hh
    have := congrArg (fun x => bt x e) z
    simp only [b_and, b_0, xMask_bt h n (by omega) e (by omega), decide_eq_true he, Bool.true_and, hh.1, (hb e (by omega)).mpr hh.2] at this
    exact absurd this (by decide)
  · intro z
    refine b_ext (fun i hi => ?_)
    rw [b_and, b_0, xMask_bt h n (by omega) i hi]
    by_cases hin : i < n
    · rw [decide_eq_true hin, Bool.true_and]
      by_cases h1 : h i = true
      · have h2 : ¬ bt (nI s) i = true := fun y => z i hin ⟨h1, (hb i (by omega)).mp y⟩
        rw [h1, Bool.true_and]; simpa using h2
      · rw [show h i = false by simpa using h1, Bool.false_and]
    · rw [decide_eq_false hin, Bool.false_and, Bool.false_and]
theorem cStt_1 {f : Nat → Nat → Bool} {sn : Nat → Bool} {m : Nat} : (cStt f sn m = 1 ↔ (sn m = true ∧ ∀ a, a < 3 → ¬ f a m = true)) := by
  unfold cStt
  by_cases h0 : f 0 m = true
  · rw [if_pos h0]; exact ⟨fun z => absurd z (by decide), fun z => absurd h0 (z.2 0 (by omega))⟩
  · rw [if_neg h0]
    by_cases h1 : f 1 m = true
    · rw [if_pos h1]; exact ⟨fun z => absurd z (by decide), fun z => absurd h1 (z.2 1 (by omega))⟩
    · rw [if_neg h1]
      by_cases h2 : f 2 m = true
      · rw [if_pos h2]; exact ⟨fun z => absurd z (by decide), fun z => absurd h2 (z.2 2 (by omega))⟩
      · rw [if_neg h2]
        by_cases h3 : sn m = true
        · rw [if_pos h3]
          exact ⟨fun _ => ⟨h3, fun a ha => by rcases (show a = 0 ∨ a = 1 ∨ a = 2 by omega) with rfl | rfl | rfl <;> assumption⟩, fun _ => rfl⟩
        · rw [if_neg h3]; exact ⟨fun z => absurd z (by decide), fun z => absurd z.1 h3⟩
theorem bloom_iff {D : xDat} {gn : Nat → Bool} {m k : Nat} (hK : ∀ e, e < dN D → dK D e < 4) : (dS D gn m k = 1 ↔ (xSeason (dKd D k) (dBg D k) m = true ∧ ∀ e, e < dN D → ¬ gn e = true → ¬ hB D m k e = true)) := by
  rw [dS_st, cStt_1]
  refine and_congr_right (fun _ => ⟨fun z e he hg hh => ?_, fun z a ha hf => ?_⟩)
  · unfold hB at hh
    rw [Bool.and_eq_true] at hh
    have h3 : ¬ dK D e = 3 := fun y => by rw [decide_eq_true y] at hh; exact absurd hh.1 (by decide)
    have := hK e he
    refine z (dK D e) (by omega) ((xAny_iff _ _).mpr ⟨e, he, ?_⟩)
    have hg2 : gn e = false := by simpa using hg
    rw [hg2]
    have h4 := hh.2
    unfold cHit at h4
    unfold xHit
    rw [decide_eq_true (rfl : dK D e = dK D e), Bool.true_and]
    exact h4
  · obtain ⟨e, he, h1⟩ := (xAny_iff _ _).mp hf
    rw [Bool.and_eq_true] at h1
    have h2 := h1.2
    unfold xHit at h2
    have hk : dK D e = a := by
      by_cases y : dK D e = a
      · exact y
      · rw [decide_eq_false y] at h2; exact absurd h2 (by simp)
    refine z e he (fun y => by rw [y] at h1; exact absurd h1.1 (by decide)) ?_
    unfold hB cHit
    rw [decide_eq_false (show ¬ dK D e = 3 by omega)]
    rw [← hk] at h2
    rw [decide_eq_true (rfl : dK D e = dK D e), Bool.true_and] at h2
    exact h2
def dSn (D : xDat) (m k : Nat) : Bool := xSeason (dKd D k) (dBg D k) m
/-- the bushes in season, gathered of the first i; P tells which each is -/
def cHi (τ : gS) (D : xDat) (m : Nat) (P : Nat → Nat) (i : Nat) : Prop := (∀ c, c < xCnt (dSn D m) i → P c < i ∧ dSn D m (P c) = true ∧ τ 43 c = xMask (hB D m (P c)) (dN D)) ∧ ∀ k, k < i → dSn D m k = true → P (xCnt (dSn D m) k) = k
theorem cHi_n {τ : gS} {D : xDat} {m i : Nat} {P : Nat → Nat} (h : cHi τ D m P i) (hb : ¬ dSn D m i = true) : cHi τ D m P (i + 1) := by
  have e : xCnt (dSn D m) (i + 1) = xCnt (dSn D m) i := if_neg hb
  unfold cHi
  rw [e]
  exact ⟨fun c hc => ⟨by have := (h.1 c hc).1; omega, (h.1 c hc).2⟩, fun j hj hl => h.2 j (by
    by_cases z : j = i
    · rw [z] at hl; exact absurd hl hb
    · omega) hl⟩
theorem cHi_y {τ : gS} {D : xDat} {m i : Nat} {P : Nat → Nat} (h : cHi τ D m P i) (hb : dSn D m i = true) : cHi (gUp τ 43 (xCnt (dSn D m) i) (xMask (hB D m i) (dN D))) D m (xPut P (xCnt (dSn D m) i) i) (i + 1) := by
  have e : xCnt (dSn D m) (i + 1) = xCnt (dSn D m) i + 1 := if_pos hb
  unfold cHi
  rw [e]
  refine ⟨fun c hc => ?_, fun j hj hl => ?_⟩
  · unfold xPut
    by_cases hci : c = xCnt (dSn D m) i
    · rw [if_pos hci, hci]
      exact ⟨by omega, hb, by rw [gUp_s]⟩
    · rw [if_neg hci]
      obtain ⟨a, b, c1⟩ := h.1 c (by omega)
      exact ⟨by omega, b, by rw [gUp_o (by omega)]; exact c1⟩
  · unfold xPut
    by_cases hji : j = i
    · rw [hji, if_pos rfl]
    · have : xCnt (dSn D m) j < xCnt (dSn D m) i := xCnt_lt (by omega) hl
      rw [if_neg (by omega)]
      exact h.2 j (by omega) hl
theorem lk_eq {τ : gS} {D : xDat} {m s : Nat} {P : Nat → Nat} (h : cHi τ D m P (dNb D)) (hn : dN D ≤ 8) (hK : ∀ e, e < dN D → dK D e < 4) (hs : s < 2 ^ dN D) : (xAll (fun c => !decide (τ 43 c &&& nI s = 0)) (xCnt (dSn D m) (dNb D)) = true ↔ lkB D m (2 ^ dN D - 1 - s) (dNb D) = true) := by
  have hp := pow_le8 (dN D) (by omega)
  unfold lkB
  rw [xAll_iff, xAll_iff]
  have key : ∀ k, k < dNb D → (¬ dS D (gnB (2 ^ dN D - 1 - s)) m k = 1 ↔ (dSn D m k = true → ¬ xMask (hB D m k) (dN D) &&& nI s = 0)) := fun k hk => by
    rw [bloom_iff hK, and_0 hn (by omega)]
    constructor
    · intro z h1 h2
      refine z ⟨h1, fun e he hg hh => h2 e he ⟨hh, ?_⟩⟩
      rw [gnB_c (dN D) (by omega) s (by omega) hs e (by omega) he] at hg
      simpa using hg
    · intro z h1
      refine z h1.1 (fun e he hh => h1.2 e he ?_ hh.1)
      rw [gnB_c (dN D) (by omega) s (by omega) hs e (by omega) he, hh.2]; decide
  constructor
  · intro z k hk
    have hq := (key k hk).mpr (fun h1 h2 => by
      have hc := xCnt_lt hk h1
      have h3 := z _ hc
      rw [(h.1 _ hc).2.2, h.2 k hk h1, decide_eq_true h2] at h3
      exact absurd h3 (by decide))
    rw [decide_eq_false hq]; rfl
  · intro z c hc
    obtain ⟨h1, h2, h3⟩ := h.1 c hc
    have h4 := z (P c) h1
    have hq := (key (P c) h1).mp (fun y => by rw [decide_eq_true y] at h4; exact absurd h4 (by decide)) h2
    rw [h3, decide_eq_false hq]; rfl
theorem xSum_rev (f : Nat → Nat) : ∀ n, xSum (fun i => f (n - 1 - i)) n = xSum f n
  | 0 => rfl
  | n + 1 => by
    rw [xSum_sh]
    have e : xSum (fun i => f (n + 1 - 1 - (i + 1))) n = xSum (fun i => f (n - 1 - i)) n := xSum_congr (fun i hi => by congr 1; omega)
    rw [e, xSum_rev f n]
    simp only [xSum]
    rw [show n + 1 - 1 - 0 = n by omega]; omega
def hBs (D : xDat) (m k sort e : Nat) : Bool := !decide (dK D e = 3) && cHit (dK D) (dM D) (dB D) (some k) sort e m
theorem s_X2_hindering {d : Nat} (hd : 2 ≤ d) (σ : gS) (D : xDat) (k sort m : Nat) (hE : cEv σ 27 (dN D) (dK D) (dM D) (dB D)) (hk : k < 10) (hs : sort < 3) (hm : m < 24) : gC d 12 [.ref 27, .int (nI k), .int (nI sort), .int (nI m)] σ (fun r τ => r = some (.int (xMask (hBs D m k sort) (dN D))) ∧ τ = σ) := by
  obtain ⟨d, rfl⟩ : ∃ k, d = k + 1 := ⟨d - 1, by omega⟩
  refine gC.of (P := pX2_hindering) (nL := 6) (rt := (some (.int))) (lv := [some (.ref 27), some (.int (nI k)), some (.int (nI sort)), some (.int (nI m)), none, none]) (by decide +kernel) rfl rfl rfl (by simp [gEnt, Value.category]) rfl ?_
  have hn8 := hE.2.1
  refine gR.steps 4 (σ, (6, [some (.ref 27), some (.int (nI k)), some (.int (nI sort)), some (.int (nI m)), some (.int 0), some (.int 0)], [])) rfl ?_
  refine gR.forget [some (.ref 27), some (.int (nI k)), some (.int (nI sort)), some (.int (nI m)), some (.int (xMask (hBs D m k sort) 0)), some (.int 0)] ⟨rfl, ⟨rfl, ⟨rfl, ⟨rfl, ⟨rfl, ⟨rfl, trivial⟩⟩⟩⟩⟩⟩ ?_
  refine gR.loop (α := Nat) (fun i => i ≤ dN D) (fun i => dN D - i) (fun i => (σ, (6, [some (.ref 27), some (.int (nI k)), some (.int (nI sort)), some (.int (nI m)), some (.int (xMask (hBs D m k sort) i)), some (.int (nI i))], []))) ?_ 0 (Nat.zero_le _)
  rintro i hi ih
  show gR _ _ _ σ (6, [some (.ref 27), some (.int (nI k)), some (.int (nI sort)), some (.int (nI m)), some (.int (xMask (hBs D m k sort) i)), some (.int (nI i))], [])
  refine gR.steps 3 (σ, (12, [some (.ref 27), some (.int (nI k)), some (.int (nI sort)), some (.int (nI m)), some (.int (xMask (hBs D m k sort) i)), some (.int (nI i))], [.int (σ 27 3), .int (nI i)])) rfl ?_
  refine gR.topI (y := nI (dN D)) hE.1 ?_
  refine gR.ifte rfl (fun zc12 => ?_) (fun zc12 => ?_)
  · rw [gN_le (x := nI (dN D)) (y := nI i) (a := dN D) (b := i) rfl rfl (by omega) (by omega)] at zc12
    refine gR.steps 1 (σ, (54, [some (.ref 27), some (.int (nI k)), some (.int (nI sort)), some (.int (nI m)), some (.int (xMask (hBs D m k sort) i)), some (.int (nI i))], [.int (xMask (hBs D m k sort) i)])) rfl ?_
    show gR _ _ _ σ (54, [some (.ref 27), some (.int (nI k)), some (.int (nI sort)), some (.int (nI m)), some (.int (xMask (hBs D m k sort) i)), some (.int (nI i))], [.int (xMask (hBs D m k sort) i)])
    refine gR.ret rfl ?_
    obtain rfl : i = dN D := by omega
    exact ⟨trivial, rfl, rfl⟩
  · rw [gN_le (x := nI (dN D)) (y := nI i) (a := dN D) (b := i) rfl rfl (by omega) (by omega)] at zc12
    have hKi := (hE.2.2 i (by omega)).2.2.2
    refine gR.steps 3 (σ, (21, [some (.ref 27), some (.int (nI k)), some (.int (nI sort)), some (.int (nI m)), some (.int (xMask (hBs D m k sort) i)), some (.int (nI i))], [.int (nI i), .ref 28])) rfl ?_
    refine gR.ald (i := nI i) (j := i) (N := 8) (g := σ 28) rfl rfl (by omega) (by omega) ?_
    refine gR.topI (y := nI (dK D i)) (hE.2.2 i (by omega)).1 ?_
    refine gR.steps 1 (σ, (23, [some (.ref 27), some (.int (nI k)), some (.int (nI sort)), some (.int (nI m)), some (.int (xMask (hBs D m k sort) i)), some (.int (nI i))], [.int 3, .int (nI (dK D i))])) rfl ?_
    refine gR.ifte rfl (fun zc23 => ?_) (fun zc23 => ?_)
    · rw [gN_eq (x := nI (dK D i)) (y := 3) (a := dK D i) (b := 3) rfl rfl (by omega) (by omega)] at zc23
      refine gR.steps 2 (σ, (6, [some (.ref 27), some (.int (nI k)), some (.int (nI sort)), some (.int (nI m)), some (.int (xMask (hBs D m k sort) i)), some (.int ((nI i) + 1))], [])) rfl ?_
      refine gR.forget [some (.ref 27), some (.int (nI k)), some (.int (nI sort)), some (.int (nI m)), some (.int (xMask (hBs D m k sort) (i + 1))), some (.int (nI (i + 1)))] ⟨rfl, ⟨rfl, ⟨rfl, ⟨rfl, ⟨gSomeI (mask_no (f := (hBs D m k sort)) (by unfold hBs; rw [decide_eq_true zc23]; simp)), ⟨gSomeI (gN_add rfl rfl), trivial⟩⟩⟩⟩⟩⟩ ?_
      have hzz := ih (i + 1) (by omega) (by omega)
      exact hzz
    · rw [gN_eq (x := nI (dK D i)) (y := 3) (a := dK D i) (b := 3) rfl rfl (by omega) (by omega)] at zc23
      refine gR.steps 5 (σ, (33, [some (.ref 27), some (.int (nI k)), some (.int (nI sort)), some (.int (nI m)), some (.int (xMask (hBs D m k sort) i)), some (.int (nI i))], [.int (nI sort), .int (nI k), .int (nI i), .ref 27, .int (xMask (hBs D m k sort) i)])) rfl ?_
      refine gR.callp rfl (s_X2_holding27 (by omega) σ (dN D) (dK D) (dM D) (dB D) i (some k) sort hE (by omega) hs (fun v hv => by cases hv; omega)) ?_
      refine gR.steps 1 (σ, (37, [some (.ref 27), some (.int (nI k)), some (.int (nI sort)), some (.int (nI m)), some (.int (xMask (hBs D m k sort) i)), some (.int (nI i))], [.int (nI m), .int (xMask (cHit (dK D) (dM D) (dB D) (some k) sort i) 24), .int (xMask (hBs D m k sort) i)])) rfl ?_
      refine gR.callp rfl (s_X10_bitM (by omega) σ _ (cHit (dK D) (dM D) (dB D) (some k) sort i) 24 m rfl (by omega) hm) ?_
      refine gR.steps 6 (σ, (6, [some (.ref 27), some (.int (nI k)), some (.int (nI sort)), some (.int (nI m)), some (.int ((xMask (hBs D m k sort) i) ||| ((bI (cHit (dK D) (dM D) (dB D) (some k) sort i m = true)) <<< ((nI i) &&& 31)))), some (.int ((nI i) + 1))], [])) rfl ?_
      refine gR.forget [some (.ref 27), some (.int (nI k)), some (.int (nI sort)), some (.int (nI m)), some (.int (xMask (hBs D m k sort) (i + 1))), some (.int (nI (i + 1)))] ⟨rfl, ⟨rfl, ⟨rfl, ⟨rfl, ⟨gSomeI (mask_step (f := (hBs D m k sort)) (by omega) (by unfold hBs; rw [decide_eq_false zc23]; exact Iff.rfl)), ⟨gSomeI (gN_add rfl rfl), trivial⟩⟩⟩⟩⟩⟩ ?_
      have hzz := ih (i + 1) (by omega) (by omega)
      exact hzz
theorem s_X10_gatherHinderers {d : Nat} (hd : 4 ≤ d) (σ : gS) (D : xDat) (m : Nat) (hs : cSt σ D) (hG : cGr σ D gn0) (hm : m < 24) : gC d 97 [.ref 18, .int (nI m)] σ (fun r τ => r = some (.int (nI (xCnt (dSn D m) (dNb D)))) ∧ (∀ p, p ≠ 43 → τ p = σ p) ∧ ∃ P, cHi τ D m P (dNb D)) := by
  obtain ⟨d, rfl⟩ : ∃ k, d = k + 1 := ⟨d - 1, by omega⟩
  refine gC.of (P := pX10_gatherHinderers) (nL := 4) (rt := (some (.int))) (lv := [some (.ref 18), some (.int (nI m)), none, none]) (by decide +kernel) rfl rfl rfl (by simp [gEnt, Value.category]) rfl ?_
  have hnb := dNb_le D hs.1.1.2.2.2.1
  have hnl := dNl_le D hs.2.1.1.2.2.2.1
  have hn8 := hs.2.2.1.2.1
  refine gR.steps 4 (σ, (4, [some (.ref 18), some (.int (nI m)), some (.int 0), some (.int 0)], [])) rfl ?_
  refine gR.forget [some (.ref 18), some (.int (nI m)), some (.int (nI (xCnt (dSn D m) 0))), some (.int 0)] ⟨rfl, ⟨rfl, ⟨rfl, ⟨rfl, trivial⟩⟩⟩⟩ ?_
  refine gR.loop (α := Nat × gS × (Nat → Nat)) (fun ⟨i, τ, P⟩ => i ≤ dNb D ∧ (∀ p, p ≠ 43 → τ p = σ p) ∧ cHi τ D m P i) (fun ⟨i, τ, P⟩ => dNb D - i) (fun ⟨i, τ, P⟩ => (τ, (4, [some (.ref 18), some (.int (nI m)), some (.int (nI (xCnt (dSn D m) i))), some (.int (nI i))], []))) ?_ ⟨0, σ, id⟩ ⟨Nat.zero_le _, fun _ _ => rfl, fun c hc => absurd hc (Nat.not_lt_zero c), fun k hk => absurd hk (Nat.not_lt_zero k)⟩
  rintro ⟨i, τ, P⟩ ⟨hi, hF, hH⟩ ih
  show gR _ _ _ τ (4, [some (.ref 18), some (.int (nI m)), some (.int (nI (xCnt (dSn D m) i))), some (.int (nI i))], [])
  have hK : cKeep σ τ := ⟨fun q a b => hF q (fun z => b (by unfold cScr; omega)), fun s _ _ => by rw [hF 19 (by decide)]⟩
  have hst := hs.keep hK
  have hG2 : cGr τ D gn0 := hG.fr hnb (fun p a b => hF p (by omega))
  have hci : xCnt (dSn D m) i ≤ i := xCnt_le _ i
  refine gR.steps 3 (τ, (9, [some (.ref 18), some (.int (nI m)), some (.int (nI (xCnt (dSn D m) i))), some (.int (nI i))], [.ref 21, .int (nI i)])) rfl ?_
  refine gR.callp rfl (s_X0_size (by omega) τ D hst.1) ?_
  refine gR.ifte rfl (fun zc12 => ?_) (fun zc12 => ?_)
  · rw [gN_le (x := nI (dNb D)) (y := nI i) (a := dNb D) (b := i) rfl rfl (by omega) (by omega)] at zc12
    refine gR.steps 1 (τ, (68, [some (.ref 18), some (.int (nI m)), some (.int (nI (xCnt (dSn D m) i))), some (.int (nI i))], [.int (nI (xCnt (dSn D m) i))])) rfl ?_
    show gR _ _ _ τ (68, [some (.ref 18), some (.int (nI m)), some (.int (nI (xCnt (dSn D m) i))), some (.int (nI i))], [.int (nI (xCnt (dSn D m) i))])
    refine gR.ret rfl ?_
    obtain rfl : i = dNb D := by omega
    exact ⟨trivial, rfl, hF, P, hH⟩
  · rw [gN_le (x := nI (dNb D)) (y := nI i) (a := dNb D) (b := i) rfl rfl (by omega) (by omega)] at zc12
    refine gR.steps 4 (τ, (23, [some (.ref 18), some (.int (nI m)), some (.int (nI (xCnt (dSn D m) i))), some (.int (nI i))], [.int (nI i), .ref 45])) rfl ?_
    refine gR.chk (b := gIn (nI i) 10) rfl (gN_in rfl (by omega) (by omega)) ?_
    rw [gN_cl rfl (by omega)]
    refine gR.getI rfl (gSh_course (j := i) (by omega)) rfl ?_
    show gR _ _ _ τ (27, [some (.ref 18), some (.int (nI m)), some (.int (nI (xCnt (dSn D m) i))), some (.int (nI i))], [.int (τ (50 + i) 1)])
    refine gR.steps 1 (τ, (28, [some (.ref 18), some (.int (nI m)), some (.int (nI (xCnt (dSn D m) i))), some (.int (nI i))], [.int (nI m), .int (τ (50 + i) 1)])) rfl ?_
    refine gR.callp (x := .int (bI (dSn D m i = true))) rfl (s_X10_bitM (by omega) τ (τ (50 + i) 1) (xSeason (dKd D i) (dBg D i)) 24 m (hG2 i (by omega)).2.1 (by omega) hm) ?_
    refine gR.steps 1 (τ, (32, [some (.ref 18), some (.int (nI m)), some (.int (nI (xCnt (dSn D m) i))), some (.int (nI i))], [.int 1, .int (bI (dSn D m i = true))])) rfl ?_
    refine gR.ifte rfl (fun zc32 => ?_) (fun zc32 => ?_)
    · rw [bI_eq1] at zc32
      refine gR.steps 2 (τ, (4, [some (.ref 18), some (.int (nI m)), some (.int (nI (xCnt (dSn D m) i))), some (.int ((nI i) + 1))], [])) rfl ?_
      refine gR.forget [some (.ref 18), some (.int (nI m)), some (.int (nI (xCnt (dSn D m) (i + 1)))), some (.int (nI (i + 1)))] ⟨rfl, ⟨rfl, ⟨gSomeI (congrArg nI (if_neg zc32).symm), ⟨gSomeI (gN_add rfl rfl), trivial⟩⟩⟩⟩ ?_
      have hzz := ih ⟨i + 1, τ, P⟩ ⟨by omega, hF, cHi_n hH zc32⟩ (by dsimp only; omega)
      exact hzz
    · rw [bI_eq1, Decidable.not_not] at zc32
      refine gR.steps 9 (τ, (50, [some (.ref 18), some (.int (nI m)), some (.int (nI (xCnt (dSn D m) i))), some (.int (nI i))], [.int (nI i), .ref 21, .int (nI i), .ref 27, .int (nI (xCnt (dSn D m) i)), .ref 43])) rfl ?_
      refine gR.callp rfl (s_X0_kindOf (by omega) τ D i hst.1 (by omega)) ?_
      refine gR.steps 1 (τ, (54, [some (.ref 18), some (.int (nI m)), some (.int (nI (xCnt (dSn D m) i))), some (.int (nI i))], [.int (nI m), .int (nI (dKd D i)), .int (nI i), .ref 27, .int (nI (xCnt (dSn D m) i)), .ref 43])) rfl ?_
      refine gR.callp (x := .int (xMask (hB D m i) (dN D))) rfl (s_X2_hindering (by omega) τ D i (dKd D i) m hst.2.2.1 (by omega) (dKd_lt (by omega)) hm) ?_
      refine gR.ast (i := nI (xCnt (dSn D m) i)) (j := xCnt (dSn D m) i) (N := 10) (q := 43) (x := xMask (hB D m i) (dN D)) rfl rfl (by omega) (by omega) ?_
      refine gR.steps 3 (gUp τ 43 (xCnt (dSn D m) i) (xMask (hB D m i) (dN D)), (4, [some (.ref 18), some (.int (nI m)), some (.int ((nI (xCnt (dSn D m) i)) + 1)), some (.int ((nI i) + 1))], [])) rfl ?_
      refine gR.forget [some (.ref 18), some (.int (nI m)), some (.int (nI (xCnt (dSn D m) (i + 1)))), some (.int (nI (i + 1)))] ⟨rfl, ⟨rfl, ⟨gSomeI ((gN_add (b := 1) rfl rfl).trans (congrArg nI (if_pos zc32).symm)), ⟨gSomeI (gN_add rfl rfl), trivial⟩⟩⟩⟩ ?_
      have hzz := ih ⟨i + 1, (gUp τ 43 (xCnt (dSn D m) i) (xMask (hB D m i) (dN D))), xPut P (xCnt (dSn D m) i) i⟩ ⟨by omega, fun p hp => by rw [gUp_ne hp]; exact hF p hp, cHi_y hH zc32⟩ (by dsimp only; omega)
      exact hzz
theorem s_X10_hindersAll {d : Nat} (hd : 1 ≤ d) (σ : gS) (s n : Nat) (hn : n ≤ 10) : gC d 98 [.ref 18, .int (nI s), .int (nI n)] σ (fun r τ => r = some (.int (bI (xAll (fun c => !decide (σ 43 c &&& nI s = 0)) n = true))) ∧ τ = σ) := by
  obtain ⟨d, rfl⟩ : ∃ k, d = k + 1 := ⟨d - 1, by omega⟩
  refine gC.of (P := pX10_hindersAll) (nL := 4) (rt := (some (.boolean))) (lv := [some (.ref 18), some (.int (nI s)), some (.int (nI n)), none]) (by decide +kernel) rfl rfl rfl (by simp [gEnt, Value.category]) rfl ?_
  refine gR.steps 2 (σ, (2, [some (.ref 18), some (.int (nI s)), some (.int (nI n)), some (.int 0)], [])) rfl ?_
  refine gR.forget [some (.ref 18), some (.int (nI s)), some (.int (nI n)), some (.int 0)] ⟨rfl, ⟨rfl, ⟨rfl, ⟨rfl, trivial⟩⟩⟩⟩ ?_
  refine gR.loop (α := Nat) (fun c => c ≤ n ∧ ∀ j, j < c → (fun c => !decide (σ 43 c &&& nI s = 0)) j = true) (fun c => n - c) (fun c => (σ, (2, [some (.ref 18), some (.int (nI s)), some (.int (nI n)), some (.int (nI c))], []))) ?_ 0 ⟨Nat.zero_le _, fun j hj => absurd hj (Nat.not_lt_zero j)⟩
  rintro c ⟨hc, hc2⟩ ih
  show gR _ _ _ σ (2, [some (.ref 18), some (.int (nI s)), some (.int (nI n)), some (.int (nI c))], [])
  refine gR.steps 2 (σ, (4, [some (.ref 18), some (.int (nI s)), some (.int (nI n)), some (.int (nI c))], [.int (nI n), .int (nI c)])) rfl ?_
  refine gR.ifte rfl (fun zc4 => ?_) (fun zc4 => ?_)
  · rw [gN_le (x := nI n) (y := nI c) (a := n) (b := c) rfl rfl (by omega) (by omega)] at zc4
    refine gR.steps 1 (σ, (27, [some (.ref 18), some (.int (nI s)), some (.int (nI n)), some (.int (nI c))], [.int 1])) rfl ?_
    show gR _ _ _ σ (27, [some (.ref 18), some (.int (nI s)), some (.int (nI n)), some (.int (nI c))], [.int 1])
    refine gR.ret rfl ?_
    obtain rfl : c = n := by omega
    exact ⟨gOk1, gSomeI (bI_t ((xAll_iff _ _).mpr hc2)).symm, rfl⟩
  · rw [gN_le (x := nI n) (y := nI c) (a := n) (b := c) rfl rfl (by omega) (by omega)] at zc4
    refine gR.steps 3 (σ, (12, [some (.ref 18), some (.int (nI s)), some (.int (nI n)), some (.int (nI c))], [.int (nI c), .ref 43])) rfl ?_
    refine gR.ald (i := nI c) (j := c) (N := 10) (g := σ 43) rfl rfl (by omega) (by omega) ?_
    refine gR.steps 2 (σ, (15, [some (.ref 18), some (.int (nI s)), some (.int (nI n)), some (.int (nI c))], [.int ((σ 43 c) &&& (nI s))])) rfl ?_
    refine gR.ifte rfl (fun zc15 => ?_) (fun zc15 => ?_)
    · refine gR.steps 2 (σ, (2, [some (.ref 18), some (.int (nI s)), some (.int (nI n)), some (.int ((nI c) + 1))], [])) rfl ?_
      refine gR.forget [some (.ref 18), some (.int (nI s)), some (.int (nI n)), some (.int (nI (c + 1)))] ⟨rfl, ⟨rfl, ⟨rfl, ⟨gSomeI (gN_add rfl rfl), trivial⟩⟩⟩⟩ ?_
      have hzz := ih (c + 1) ⟨by omega, lt_s hc2 (by show (!decide (σ 43 c &&& nI s = 0)) = true; rw [decide_eq_false zc15]; rfl)⟩ (by omega)
      exact hzz
    · refine gR.steps 1 (σ, (19, [some (.ref 18), some (.int (nI s)), some (.int (nI n)), some (.int (nI c))], [.int 0])) rfl ?_
      show gR _ _ _ σ (19, [some (.ref 18), some (.int (nI s)), some (.int (nI n)), some (.int (nI c))], [.int 0])
      refine gR.ret rfl ?_
      refine ⟨gOk0, gSomeI (bI_f (fun z => ?_)).symm, rfl⟩
      have h1 : (!decide (σ 43 c &&& nI s = 0)) = true := (xAll_iff _ _).mp z c (by omega)
      rw [decide_eq_true (Decidable.not_not.mp zc15)] at h1; exact absurd h1 (by decide)
theorem s_X10_shareOf {d : Nat} (hd : 1 ≤ d) (σ : gS) (n c h : Nat) (hN : σ 27 3 = nI n) (hn : n ≤ 8) (hc : c ≤ 16) (hh : h ≤ 32) : gC d 99 [.ref 18, .int (nI c), .int (nI h)] σ (fun r τ => r = some (.long (jL (xPr (fun i => if i < h then c else 16 - c) n))) ∧ τ = σ) := by
  obtain ⟨d, rfl⟩ : ∃ k, d = k + 1 := ⟨d - 1, by omega⟩
  refine gC.of (P := pX10_shareOf) (nL := 6) (rt := (some (.long))) (lv := [some (.ref 18), some (.int (nI c)), some (.int (nI h)), none, none, none]) (by decide +kernel) rfl rfl rfl (by simp [gEnt, Value.category]) rfl ?_
  refine gR.steps 4 (σ, (5, [some (.ref 18), some (.int (nI c)), some (.int (nI h)), some (.long 1), none, some (.int 0)], [])) rfl ?_
  refine gR.forget [some (.ref 18), some (.int (nI c)), some (.int (nI h)), some (.long (jL (xPr (fun i => if i < h then c else 16 - c) 0))), none, some (.int 0)] ⟨rfl, ⟨rfl, ⟨rfl, ⟨rfl, ⟨rfl, trivial⟩⟩⟩⟩⟩ ?_
  refine gR.loop (α := Nat) (fun i => i ≤ n) (fun i => n - i) (fun i => (σ, (5, [some (.ref 18), some (.int (nI c)), some (.int (nI h)), some (.long (jL (xPr (fun i => if i < h then c else 16 - c) i))), none, some (.int (nI i))], []))) ?_ 0 (Nat.zero_le _)
  rintro i hi ih
  show gR _ _ _ σ (5, [some (.ref 18), some (.int (nI c)), some (.int (nI h)), some (.long (jL (xPr (fun i => if i < h then c else 16 - c) i))), none, some (.int (nI i))], [])
  refine gR.steps 4 (σ, (14, [some (.ref 18), some (.int (nI c)), some (.int (nI h)), some (.long (jL (xPr (fun i => if i < h then c else 16 - c) i))), none, some (.int (nI i))], [.int (σ 27 3), .int (nI i)])) rfl ?_
  refine gR.topI (y := nI (n)) hN ?_
  refine gR.ifte rfl (fun zc14 => ?_) (fun zc14 => ?_)
  · rw [gN_le (x := nI n) (y := nI i) (a := n) (b := i) rfl rfl (by omega) (by omega)] at zc14
    refine gR.steps 1 (σ, (43, [some (.ref 18), some (.int (nI c)), some (.int (nI h)), some (.long (jL (xPr (fun i => if i < h then c else 16 - c) i))), none, some (.int (nI i))], [.long (jL (xPr (fun i => if i < h then c else 16 - c) i))])) rfl ?_
    show gR _ _ _ σ (43, [some (.ref 18), some (.int (nI c)), some (.int (nI h)), some (.long (jL (xPr (fun i => if i < h then c else 16 - c) i))), none, some (.int (nI i))], [.long (jL (xPr (fun i => if i < h then c else 16 - c) i))])
    refine gR.ret rfl ?_
    obtain rfl : i = n := by omega
    exact ⟨trivial, rfl, rfl⟩
  · rw [gN_le (x := nI n) (y := nI i) (a := n) (b := i) rfl rfl (by omega) (by omega)] at zc14
    refine gR.steps 3 (σ, (21, [some (.ref 18), some (.int (nI c)), some (.int (nI h)), some (.long (jL (xPr (fun i => if i < h then c else 16 - c) i))), none, some (.int (nI i))], [.int (nI h), .int (nI i), .long (jL (xPr (fun i => if i < h then c else 16 - c) i))])) rfl ?_
    refine gR.ifte rfl (fun zc21 => ?_) (fun zc21 => ?_)
    · rw [gN_le (x := nI h) (y := nI i) (a := h) (b := i) rfl rfl (by omega) (by omega)] at zc21
      refine gR.steps 8 (σ, (5, [some (.ref 18), some (.int (nI c)), some (.int (nI h)), some (.long ((jL (xPr (fun i => if i < h then c else 16 - c) i)) * (Int32.toInt64 (16 - (nI c))))), none, some (.int ((nI i) + 1))], [])) rfl ?_
      refine gR.forget [some (.ref 18), some (.int (nI c)), some (.int (nI h)), some (.long (jL (xPr (fun i => if i < h then c else 16 - c) (i + 1)))), none, some (.int (nI (i + 1)))] ⟨rfl, ⟨rfl, ⟨rfl, ⟨gSomeL (by rw [show Int32.toInt64 (16 - nI c) = jL (16 - c) from (congrArg Int32.toInt64 (gN_sub (a := 16) rfl rfl (by omega))).trans (jL_i (by omega)), jL_mul]; simp only [xPr]; rw [if_neg (by omega)]), ⟨gSomeI (gN_add rfl rfl), trivial⟩⟩⟩⟩⟩ ?_
      have hzz := ih (i + 1) (by omega) (by omega)
      exact hzz
    · rw [gN_le (x := nI h) (y := nI i) (a := h) (b := i) rfl rfl (by omega) (by omega)] at zc21
      refine gR.steps 7 (σ, (5, [some (.ref 18), some (.int (nI c)), some (.int (nI h)), some (.long ((jL (xPr (fun i => if i < h then c else 16 - c) i)) * (Int32.toInt64 (nI c)))), none, some (.int ((nI i) + 1))], [])) rfl ?_
      refine gR.forget [some (.ref 18), some (.int (nI c)), some (.int (nI h)), some (.long (jL (xPr (fun i => if i < h then c else 16 - c) (i + 1)))), none, some (.int (nI (i + 1)))] ⟨rfl, ⟨rfl, ⟨rfl, ⟨gSomeL (by rw [show Int32.toInt64 (nI c) = jL c from jL_i (by omega), jL_mul]; simp only [xPr]; rw [if_pos (by omega)]), ⟨gSomeI (gN_add rfl rfl), trivial⟩⟩⟩⟩⟩ ?_
      have hzz := ih (i + 1) (by omega) (by omega)
      exact hzz
