def xWo (s : Bool) (p : Nat) : Int32 := if s = true then nI p else -5
def dSm (D : xDat) : Nat → Nat → Bool := xSm (dS D gn0) (dQ D gn0)
def dWo (D : xDat) (m b : Nat) : Int32 := xWo (dSm D m b) (dSp D b)
theorem dSm_iff {D : xDat} {m b : Nat} : (dSm D m b = true ↔ (dS D gn0 m b = 1 ∨ dQ D gn0 m b = true)) := by
  unfold dSm xSm
  rw [Bool.or_eq_true, decide_eq_true_iff]
theorem bnd_eq (v : Int32) : (if (0 : Int32) < (if v < 100 then v else 100) then (if v < 100 then v else 100) else 0) = nI (xKept v.toInt) := by
  unfold xKept
  have h0 : (0 : Int32).toInt = 0 := rfl
  have h1 : (100 : Int32).toInt = 100 := rfl
  by_cases a : v < 100
  · rw [if_pos a]
    rw [Int32.lt_iff_toInt_lt, h1] at a
    by_cases b : (0 : Int32) < v
    · rw [if_pos b]
      rw [Int32.lt_iff_toInt_lt, h0] at b
      rw [if_neg (by omega), if_neg (by omega)]
      obtain ⟨j, hj, rfl⟩ := gN_of (x := v) (n := 101) (by omega) (by omega) (by omega)
      rw [nI_toInt (by omega)]; rfl
    · rw [if_neg b]
      rw [Int32.lt_iff_toInt_lt, h0] at b
      by_cases c : v.toInt < 0
      · rw [if_pos c]; rfl
      · rw [if_neg c, if_neg (by omega), show v.toInt = 0 by omega]; rfl
  · rw [if_neg a, if_pos (by decide)]
    rw [Int32.lt_iff_toInt_lt, h1] at a
    rw [if_neg (by omega)]
    by_cases c : 100 < v.toInt
    · rw [if_pos c]; rfl
    · rw [if_neg c, show v.toInt = 100 by omega]; rfl
theorem wo_kept {a p : Nat} {s : Bool} (ha : a ≤ 100) (hp : p ≤ 100) : xKept (nI a + xWo s p).toInt = xLook a s p := by
  unfold xWo xLook
  by_cases h : s = true
  · rw [if_pos h, if_pos h]; exact xKept_add rfl rfl ha hp
  · rw [if_neg h, if_neg h, show nI a + -5 = nI a - 5 from (Int32.sub_eq_add_neg _ _).symm]; exact xKept_sub (b := 5) rfl rfl ha (by omega)
theorem wo_ne {p : Nat} {s : Bool} (h1 : 1 ≤ p) (h2 : p < 10) : ¬ xWo s p = 0 := by
  unfold xWo
  by_cases h : s = true
  · rw [if_pos h]; exact gN_ne (a := p) (b := 0) rfl rfl (by omega) (by omega) (by omega)
  · rw [if_neg h]; decide
theorem xFire_le (K M B : Nat → Nat) (gn : Nat → Bool) (nb m n : Nat) : xFire K M B gn nb m n ≤ n := by
  have := xSum_le (f := fun e => if K e = 0 ∧ M e = m ∧ B e < nb ∧ ¬ gn e = true then 1 else 0) (b := 1) (n := n) (fun i _ => by split <;> omega)
  unfold xFire; omega
def dFi (D : xDat) (m : Nat) : Nat := xFire (dK D) (dM D) (dB D) gn0 (dNb D) m (dN D)
theorem xRD_at {p : Nat → Bool} {m : Nat} (hm : m < 24) (h : p m = true) (h1 : ∀ j, j < m → ¬ p j = true) : ∀ k, 24 - m ≤ k → k ≤ 24 → xRD p k = nI m
  | 0, a, _ => by omega
  | k + 1, a, b => by
    simp only [xRD]
    by_cases e : 23 - k = m
    · rw [e, if_pos h]
    · rw [if_neg (h1 (23 - k) (by omega))]; exact xRD_at hm h h1 k (by omega) (by omega)
theorem xRD_no {p : Nat → Bool} (h1 : ∀ j, j < 24 → ¬ p j = true) : ∀ k, k ≤ 24 → xRD p k = -1
  | 0, _ => rfl
  | k + 1, b => by
    simp only [xRD]
    rw [if_neg (h1 (23 - k) (by omega))]; exact xRD_no h1 k (by omega)
def xRu (p : Nat → Bool) : Nat → Int32
  | 0 => -1
  | m + 1 => if xRu p m = -1 ∧ p m = true then nI m else xRu p m
theorem xRu_cs {p : Nat → Bool} : ∀ {m : Nat}, m ≤ 24 → (xRu p m = -1 ∧ ∀ j, j < m → ¬ p j = true) ∨ ∃ j, j < m ∧ xRu p m = nI j ∧ p j = true ∧ ∀ i, i < j → ¬ p i = true
  | 0, _ => Or.inl ⟨rfl, fun j hj => absurd hj (Nat.not_lt_zero j)⟩
  | m + 1, hm => by
    simp only [xRu]
    rcases xRu_cs (p := p) (m := m) (by omega) with ⟨a, b⟩ | ⟨j, a, b, c, e⟩
    · by_cases h : p m = true
      · rw [if_pos ⟨a, h⟩]; exact Or.inr ⟨m, by omega, rfl, h, b⟩
      · rw [if_neg (fun z => h z.2)]; exact Or.inl ⟨a, lt_s b h⟩
    · rw [if_neg (fun z => nI_m1 (n := j) (by omega) (b.symm.trans z.1))]; exact Or.inr ⟨j, by omega, b, c, e⟩
theorem xRu_rd (p : Nat → Bool) : xRu p 24 = xRD p 24 := by
  rcases xRu_cs (p := p) (m := 24) (by omega) with ⟨a, b⟩ | ⟨j, a, b, c, e⟩
  · rw [a, xRD_no b 24 (by omega)]
  · rw [b, xRD_at a c e 24 (by omega) (by omega)]
/-- how many of the first are so -/
def xCnt (f : Nat → Bool) : Nat → Nat
  | 0 => 0
  | n + 1 => if f n = true then xCnt f n + 1 else xCnt f n
theorem xCnt_le (f : Nat → Bool) : ∀ n, xCnt f n ≤ n
  | 0 => Nat.le_refl 0
  | n + 1 => by have := xCnt_le f n; simp only [xCnt]; split <;> omega
theorem xCnt_mono (f : Nat → Bool) {i : Nat} : ∀ {n}, i ≤ n → xCnt f i ≤ xCnt f n
  | 0, h => by rw [show i = 0 by omega]; exact Nat.le_refl _
  | n + 1, h => by
    by_cases e : i = n + 1
    · rw [e]; exact Nat.le_refl _
    · have := xCnt_mono f (i := i) (n := n) (by omega)
      simp only [xCnt]; split <;> omega
theorem xCnt_lt {f : Nat → Bool} {i n : Nat} (h : i < n) (hf : f i = true) : xCnt f i < xCnt f n := by
  have := xCnt_mono f (i := i + 1) (n := n) (by omega)
  simp only [xCnt, if_pos hf] at this
  omega
def dCl (D : xDat) : Nat → Nat := xCnt (fun i => decide (dLb D i < dNb D))
/-- the looks that count, gathered of the first i; P tells which each is -/
def cLk (τ : gS) (D : xDat) (P : Nat → Nat) (i : Nat) : Prop := τ 19 6 = nI (dCl D i) ∧ (∀ c, c < dCl D i → P c < i ∧ dLb D (P c) < dNb D ∧ τ 47 c = nI (dLm D (P c)) ∧ τ 48 c = dWo D (dLm D (P c)) (dLb D (P c))) ∧ ∀ j, j < i → dLb D j < dNb D → P (dCl D j) = j
def xLf (D : xDat) (P : Nat → Nat) (m a : Nat) : Nat → Nat
  | 0 => a
  | c + 1 => if dLm D (P c) = m then xLook (xLf D P m a c) (dSm D m (dLb D (P c))) (dSp D (dLb D (P c))) else xLf D P m a c
theorem xLf_le {D : xDat} {P : Nat → Nat} {m a : Nat} (h : a ≤ 100) : ∀ c, xLf D P m a c ≤ 100
  | 0 => h
  | c + 1 => by
    have := xLf_le (D := D) (P := P) (m := m) h c
    simp only [xLf]
    split
    · exact xLook_le this
    · exact this
theorem xLf_eq {D : xDat} {P : Nat → Nat} {m a : Nat} : ∀ {i : Nat}, (∀ j, j < i → dLb D j < dNb D → P (dCl D j) = j) → xLf D P m a (dCl D i) = xLk (dLm D) (dLb D) (dNb D) (dSm D) (dSp D) m a i
  | 0, _ => rfl
  | i + 1, h => by
    have ih := xLf_eq (m := m) (a := a) (i := i) (fun j hj => h j (by omega))
    simp only [xLk]
    by_cases hb : dLb D i < dNb D
    · rw [show dCl D (i + 1) = dCl D i + 1 from if_pos (decide_eq_true hb)]
      simp only [xLf]
      rw [h i (by omega) hb, ih]
      by_cases hm : dLm D i = m
      · rw [if_pos hm, if_pos ⟨hm, hb⟩]
      · rw [if_neg hm, if_neg (fun z => hm z.1)]
    · rw [show dCl D (i + 1) = dCl D i from if_neg (fun z => hb (of_decide_eq_true z)), if_neg (fun z => hb z.2), ih]
theorem xLa_eq {D : xDat} {P : Nat → Nat} {m : Nat} : ∀ {i : Nat}, (∀ j, j < i → dLb D j < dNb D → P (dCl D j) = j) → xAny (fun c => decide (dLm D (P c) = m)) (dCl D i) = xLkAny (dLm D) (dLb D) (dNb D) m i
  | 0, _ => rfl
  | i + 1, h => by
    have ih := xLa_eq (m := m) (i := i) (fun j hj => h j (by omega))
    unfold xLkAny at ih ⊢
    by_cases hb : dLb D i < dNb D
    · rw [show dCl D (i + 1) = dCl D i + 1 from if_pos (decide_eq_true hb)]
      simp only [xAny]
      rw [h i (by omega) hb, ih]
      congr 1
      exact decide_eq_decide.mpr ⟨fun z => ⟨z, hb⟩, fun z => z.1⟩
    · rw [show dCl D (i + 1) = dCl D i from if_neg (fun z => hb (of_decide_eq_true z)), ih]
      simp only [xAny]
      rw [decide_eq_false (fun z => hb z.2), Bool.or_false]
def bhL (D : xDat) (m a : Nat) : Nat := xLk (dLm D) (dLb D) (dNb D) (dSm D) (dSp D) m (a - 10 * dFi D m) (dNl D)
def bh0 (D : xDat) (m a : Nat) : Nat := if xLkAny (dLm D) (dLb D) (dNb D) m (dNl D) = true then bhL D m a else bhL D m a - 2
def bhW (D : xDat) (m a b : Nat) : Nat := xLook (bhL D m a) (dSm D m b) (dSp D b)
theorem bhL_le {D : xDat} {m a : Nat} (h : a ≤ 100) : bhL D m a ≤ 100 := xLk_le (by omega) _
theorem bh0_le {D : xDat} {m a : Nat} (h : a ≤ 100) : bh0 D m a ≤ 100 := by
  have := bhL_le (D := D) (m := m) h
  unfold bh0; split <;> omega
theorem dBel_n (D : xDat) (m : Nat) : dBel D none 0 (m + 1) = bh0 D m (dBel D none 0 m) := by
  unfold dBel
  simp only [xBel]
  unfold xMon
  rw [if_neg (fun z => by cases z)]; rfl
theorem dBel_o {D : xDat} {m m0 b : Nat} (h : ¬ m = m0) : dBel D (some m0) b (m + 1) = bh0 D m (dBel D (some m0) b m) := by
  unfold dBel
  simp only [xBel]
  unfold xMon
  rw [if_neg (fun z => by cases z; exact h rfl)]; rfl
theorem dBel_a (D : xDat) (m0 b : Nat) : dBel D (some m0) b (m0 + 1) = bhW D m0 (dBel D (some m0) b m0) b := by
  unfold dBel
  simp only [xBel]
  unfold xMon
  rw [if_pos rfl]; rfl
theorem dBel_p {D : xDat} {m0 b : Nat} : ∀ {m : Nat}, m ≤ m0 → dBel D (some m0) b m = dBel D none 0 m
  | 0, _ => rfl
  | m + 1, h => by rw [dBel_o (by omega), dBel_n, dBel_p (m := m) (by omega)]
theorem bhW_le {D : xDat} {m a b : Nat} (h : a ≤ 100) : bhW D m a b ≤ 100 := xLook_le (bhL_le h)
theorem dBelN_le {D : xDat} (h : dF D ≤ 100) : ∀ m, dBel D none 0 m ≤ 100
  | 0 => h
  | m + 1 => by rw [dBel_n]; exact bh0_le (dBelN_le h m)
theorem dBelS_le {D : xDat} {m0 b : Nat} (h : dF D ≤ 100) : ∀ m, dBel D (some m0) b m ≤ 100
  | 0 => h
  | m + 1 => by
    by_cases e : m = m0
    · subst e; rw [dBel_a]; exact bhW_le (dBelS_le h m)
    · rw [dBel_o e]; exact bh0_le (dBelS_le h m)
theorem s_X6_bounded {d : Nat} (hd : 1 ≤ d) (σ : gS) (v : Int32) : gC d 27 [.int v] σ (fun r τ => r = some (.int (nI (xKept v.toInt))) ∧ τ = σ) := by
  obtain ⟨d, rfl⟩ : ∃ k, d = k + 1 := ⟨d - 1, by omega⟩
  refine gC.of (P := pX6_bounded) (nL := 1) (rt := (some (.int))) (lv := [some (.int v)]) (by decide +kernel) rfl rfl rfl (by simp [gEnt, Value.category]) rfl ?_
  refine gR.steps 5 (σ, (10, [some (.int v)], [.int (if (0 : Int32) < (if v < 100 then v else 100) then (if v < 100 then v else 100) else 0)])) rfl ?_
  refine gR.ret rfl ?_
  exact ⟨trivial, gSomeI (bnd_eq v), rfl⟩
theorem s_X6_boundedK {d : Nat} (hd : 1 ≤ d) (σ : gS) (v : Int32) (n : Nat) (h : xKept v.toInt = n) : gC d 27 [.int v] σ (fun r τ => r = some (.int (nI n)) ∧ τ = σ) := by subst h; exact s_X6_bounded hd σ v
theorem fire_y {K M B : Nat → Nat} {nb m i : Nat} (h0 : K i = 0) (h1 : M i = m) (h2 : B i < nb) : xFire K M B gn0 nb m i + 1 = xFire K M B gn0 nb m (i + 1) := by
  unfold xFire
  simp only [xSum]
  rw [if_pos ⟨h0, h1, h2, fun z => Bool.noConfusion z⟩]
theorem fire_n {K M B : Nat → Nat} {nb m i : Nat} (h : ¬ (K i = 0 ∧ M i = m ∧ B i < nb)) : xFire K M B gn0 nb m i = xFire K M B gn0 nb m (i + 1) := by
  unfold xFire
  simp only [xSum]
  rw [if_neg (fun z => h ⟨z.1, z.2.1, z.2.2.1⟩)]; rfl
theorem s_X6_countFires27 {d : Nat} (hd : 3 ≤ d) (σ : gS) (D : xDat) (hT0 : cT0 σ (dN0 D) (dC0 D)) (hE : cEv σ 27 (dN D) (dK D) (dM D) (dB D)) : gC d 23 [.ref 19, .ref 27] σ (fun r τ => r = none ∧ (∀ p, p ≠ 46 → τ p = σ p) ∧ ∀ m, m < 24 → τ 46 m = nI (dFi D m)) := by
  obtain ⟨d, rfl⟩ : ∃ k, d = k + 1 := ⟨d - 1, by omega⟩
  refine gC.of (P := pX6_countFires) (nL := 3) (rt := none) (lv := [some (.ref 19), some (.ref 27), none]) (by decide +kernel) rfl rfl rfl (by simp [gEnt, Value.category]) rfl ?_
  have hn8 := hE.2.1
  have hnb := dNb_le D hT0.1.2.2.2.1
  refine gR.steps 3 (σ, (5, [some (.ref 19), some (.ref 27), none], [.int 0, .ref 46])) rfl ?_
  refine gR.call' rfl (s_J7_fill_53178 (by omega) σ 46 24 0 rfl (by omega)) ?_
  rintro _ τ0 ⟨rfl, hF0, hv0, _⟩
  show gR _ _ _ τ0 (8, [some (.ref 19), some (.ref 27), none], [])
  refine gR.steps 2 (τ0, (10, [some (.ref 19), some (.ref 27), some (.int 0)], [])) rfl ?_
  refine gR.forget [some (.ref 19), some (.ref 27), some (.int 0)] ⟨rfl, ⟨rfl, ⟨rfl, trivial⟩⟩⟩ ?_
  refine gR.loop (α := Nat × gS) (fun ⟨i, τ⟩ => i ≤ dN D ∧ (∀ p, p ≠ 46 → τ p = σ p) ∧ ∀ m, m < 24 → τ 46 m = nI (xFire (dK D) (dM D) (dB D) gn0 (dNb D) m i)) (fun ⟨i, τ⟩ => dN D - i) (fun ⟨i, τ⟩ => (τ, (10, [some (.ref 19), some (.ref 27), some (.int (nI i))], []))) ?_ ⟨0, τ0⟩ ⟨Nat.zero_le _, hF0, fun m hm => hv0 m hm⟩
  rintro ⟨i, τ⟩ ⟨hi, hF, hv⟩ ih
  show gR _ _ _ τ (10, [some (.ref 19), some (.ref 27), some (.int (nI i))], [])
  have hT : cT0 τ (dN0 D) (dC0 D) := by
    have := hT0; unfold cT0 at this ⊢; rw [hF 22 (by decide), hF 23 (by decide)]; exact this
  refine gR.steps 3 (τ, (15, [some (.ref 19), some (.ref 27), some (.int (nI i))], [.int (τ 27 3), .int (nI i)])) rfl ?_
  refine gR.topI (y := nI (dN D)) (by rw [hF 27 (by decide)]; exact hE.1) ?_
  refine gR.ifte rfl (fun zc15 => ?_) (fun zc15 => ?_)
  · rw [gN_le (x := nI (dN D)) (y := nI i) (a := dN D) (b := i) rfl rfl (by omega) (by omega)] at zc15
    refine gR.ret rfl ?_
    obtain rfl : i = dN D := by omega
    exact ⟨trivial, rfl, hF, hv⟩
  · rw [gN_le (x := nI (dN D)) (y := nI i) (a := dN D) (b := i) rfl rfl (by omega) (by omega)] at zc15
    have hKi := hE.2.2 i (by omega)
    refine gR.steps 3 (τ, (23, [some (.ref 19), some (.ref 27), some (.int (nI i))], [.int (nI i), .ref 28])) rfl ?_
    refine gR.ald (i := nI i) (j := i) (N := 8) (g := τ 28) rfl rfl (by omega) (by omega) ?_
    refine gR.topI (y := nI (dK D i)) (by rw [hF 28 (by decide)]; exact (hE.2.2 i (by omega)).1) ?_
    refine gR.ifte rfl (fun zc24 => ?_) (fun zc24 => ?_)
    · rw [gN_eq (x := nI (dK D i)) (y := 0) (a := dK D i) (b := 0) rfl rfl (by omega) (by omega)] at zc24
      refine gR.steps 2 (τ, (10, [some (.ref 19), some (.ref 27), some (.int ((nI i) + 1))], [])) rfl ?_
      refine gR.forget [some (.ref 19), some (.ref 27), some (.int (nI (i + 1)))] ⟨rfl, ⟨rfl, ⟨gSomeI (gN_add rfl rfl), trivial⟩⟩⟩ ?_
      have hzz := ih ⟨i + 1, τ⟩ ⟨by omega, hF, fun m hm => (hv m hm).trans (congrArg nI (fire_n (by first | exact fun z => zc24 z.1 | (rw [nI_toInt (by omega)] at zc43; omega))))⟩ (by dsimp only; omega)
      exact hzz
    · rw [gN_eq (x := nI (dK D i)) (y := 0) (a := dK D i) (b := 0) rfl rfl (by omega) (by omega)] at zc24
      refine gR.steps 6 (τ, (39, [some (.ref 19), some (.ref 27), some (.int (nI i))], [.int (nI i), .ref 30, .ref 21])) rfl ?_
      refine gR.ald (i := nI i) (j := i) (N := 8) (g := τ 30) rfl rfl (by omega) (by omega) ?_
      refine gR.topI (y := nI (dB D i)) (by rw [hF 30 (by decide)]; exact (hE.2.2 i (by omega)).2.2.1) ?_
      refine gR.callp rfl (s_X0_has (by omega) τ D (nI (dB D i)) hT) ?_
      refine gR.ifte rfl (fun zc43 => ?_) (fun zc43 => ?_)
      · rw [bI_eq0] at zc43
        refine gR.steps 2 (τ, (10, [some (.ref 19), some (.ref 27), some (.int ((nI i) + 1))], [])) rfl ?_
        refine gR.forget [some (.ref 19), some (.ref 27), some (.int (nI (i + 1)))] ⟨rfl, ⟨rfl, ⟨gSomeI (gN_add rfl rfl), trivial⟩⟩⟩ ?_
        have hzz := ih ⟨i + 1, τ⟩ ⟨by omega, hF, fun m hm => (hv m hm).trans (congrArg nI (fire_n (by first | exact fun z => zc24 z.1 | (rw [nI_toInt (by omega)] at zc43; omega))))⟩ (by dsimp only; omega)
        exact hzz
      · rw [bI_eq0, Decidable.not_not] at zc43
        refine gR.steps 5 (τ, (55, [some (.ref 19), some (.ref 27), some (.int (nI i))], [.int (nI i), .ref 29, .ref 46])) rfl ?_
        refine gR.ald (i := nI i) (j := i) (N := 8) (g := τ 29) rfl rfl (by omega) (by omega) ?_
        refine gR.topI (y := nI (dM D i)) (by rw [hF 29 (by decide)]; exact (hE.2.2 i (by omega)).2.1) ?_
        refine gR.steps 1 (τ, (57, [some (.ref 19), some (.ref 27), some (.int (nI i))], [.int (nI (dM D i)), .ref 46, .int (nI (dM D i)), .ref 46])) rfl ?_
        refine gR.ald (i := nI (dM D i)) (j := dM D i) (N := 24) (g := τ 46) rfl rfl (by omega) (by omega) ?_
        refine gR.steps 2 (τ, (60, [some (.ref 19), some (.ref 27), some (.int (nI i))], [.int ((τ 46 (dM D i)) + 1), .int (nI (dM D i)), .ref 46])) rfl ?_
        refine gR.ast (i := nI (dM D i)) (j := dM D i) (N := 24) (q := 46) (x := (τ 46 (dM D i)) + 1) rfl rfl (by omega) (by omega) ?_
        refine gR.steps 2 (gUp τ 46 (dM D i) ((τ 46 (dM D i)) + 1), (10, [some (.ref 19), some (.ref 27), some (.int ((nI i) + 1))], [])) rfl ?_
        refine gR.forget [some (.ref 19), some (.ref 27), some (.int (nI (i + 1)))] ⟨rfl, ⟨rfl, ⟨gSomeI (gN_add rfl rfl), trivial⟩⟩⟩ ?_
        have hzz := ih ⟨i + 1, (gUp τ 46 (dM D i) ((τ 46 (dM D i)) + 1))⟩ ⟨by omega, fun p hp => by rw [gUp_ne hp]; exact hF p hp, fun m hm => by
      rw [gUp_app]
      by_cases hk2 : m = dM D i
      · rw [if_pos ⟨rfl, hk2⟩, hv (dM D i) (by omega), hk2]; exact (gN_add (b := 1) rfl rfl).trans (congrArg nI (fire_y (by omega) rfl (by rw [nI_toInt (by omega)] at zc43; omega)))
      · rw [if_neg (fun z => hk2 z.2), hv m hm]; exact congrArg nI (fire_n (fun z => hk2 z.2.1.symm))⟩ (by dsimp only; omega)
        exact hzz
theorem s_X6_countFires31 {d : Nat} (hd : 3 ≤ d) (σ : gS) (D : xDat) (hT0 : cT0 σ (dN0 D) (dC0 D)) (hE : cEv σ 31 (dN D) (dK D) (dM D) (dB D)) : gC d 23 [.ref 19, .ref 31] σ (fun r τ => r = none ∧ (∀ p, p ≠ 46 → τ p = σ p) ∧ ∀ m, m < 24 → τ 46 m = nI (dFi D m)) := by
  obtain ⟨d, rfl⟩ : ∃ k, d = k + 1 := ⟨d - 1, by omega⟩
  refine gC.of (P := pX6_countFires) (nL := 3) (rt := none) (lv := [some (.ref 19), some (.ref 31), none]) (by decide +kernel) rfl rfl rfl (by simp [gEnt, Value.category]) rfl ?_
  have hn8 := hE.2.1
  have hnb := dNb_le D hT0.1.2.2.2.1
  refine gR.steps 3 (σ, (5, [some (.ref 19), some (.ref 31), none], [.int 0, .ref 46])) rfl ?_
  refine gR.call' rfl (s_J7_fill_53178 (by omega) σ 46 24 0 rfl (by omega)) ?_
  rintro _ τ0 ⟨rfl, hF0, hv0, _⟩
  show gR _ _ _ τ0 (8, [some (.ref 19), some (.ref 31), none], [])
  refine gR.steps 2 (τ0, (10, [some (.ref 19), some (.ref 31), some (.int 0)], [])) rfl ?_
  refine gR.forget [some (.ref 19), some (.ref 31), some (.int 0)] ⟨rfl, ⟨rfl, ⟨rfl, trivial⟩⟩⟩ ?_
  refine gR.loop (α := Nat × gS) (fun ⟨i, τ⟩ => i ≤ dN D ∧ (∀ p, p ≠ 46 → τ p = σ p) ∧ ∀ m, m < 24 → τ 46 m = nI (xFire (dK D) (dM D) (dB D) gn0 (dNb D) m i)) (fun ⟨i, τ⟩ => dN D - i) (fun ⟨i, τ⟩ => (τ, (10, [some (.ref 19), some (.ref 31), some (.int (nI i))], []))) ?_ ⟨0, τ0⟩ ⟨Nat.zero_le _, hF0, fun m hm => hv0 m hm⟩
  rintro ⟨i, τ⟩ ⟨hi, hF, hv⟩ ih
  show gR _ _ _ τ (10, [some (.ref 19), some (.ref 31), some (.int (nI i))], [])
  have hT : cT0 τ (dN0 D) (dC0 D) := by
    have := hT0; unfold cT0 at this ⊢; rw [hF 22 (by decide), hF 23 (by decide)]; exact this
  refine gR.steps 3 (τ, (15, [some (.ref 19), some (.ref 31), some (.int (nI i))], [.int (τ 31 3), .int (nI i)])) rfl ?_
  refine gR.topI (y := nI (dN D)) (by rw [hF 31 (by decide)]; exact hE.1) ?_
  refine gR.ifte rfl (fun zc15 => ?_) (fun zc15 => ?_)
  · rw [gN_le (x := nI (dN D)) (y := nI i) (a := dN D) (b := i) rfl rfl (by omega) (by omega)] at zc15
    refine gR.ret rfl ?_
    obtain rfl : i = dN D := by omega
    exact ⟨trivial, rfl, hF, hv⟩
  · rw [gN_le (x := nI (dN D)) (y := nI i) (a := dN D) (b := i) rfl rfl (by omega) (by omega)] at zc15
    have hKi := hE.2.2 i (by omega)
    refine gR.steps 3 (τ, (23, [some (.ref 19), some (.ref 31), some (.int (nI i))], [.int (nI i), .ref 32])) rfl ?_
    refine gR.ald (i := nI i) (j := i) (N := 8) (g := τ 32) rfl rfl (by omega) (by omega) ?_
    refine gR.topI (y := nI (dK D i)) (by rw [hF 32 (by decide)]; exact (hE.2.2 i (by omega)).1) ?_
    refine gR.ifte rfl (fun zc24 => ?_) (fun zc24 => ?_)
    · rw [gN_eq (x := nI (dK D i)) (y := 0) (a := dK D i) (b := 0) rfl rfl (by omega) (by omega)] at zc24
      refine gR.steps 2 (τ, (10, [some (.ref 19), some (.ref 31), some (.int ((nI i) + 1))], [])) rfl ?_
      refine gR.forget [some (.ref 19), some (.ref 31), some (.int (nI (i + 1)))] ⟨rfl, ⟨rfl, ⟨gSomeI (gN_add rfl rfl), trivial⟩⟩⟩ ?_
      have hzz := ih ⟨i + 1, τ⟩ ⟨by omega, hF, fun m hm => (hv m hm).trans (congrArg nI (fire_n (by first | exact fun z => zc24 z.1 | (rw [nI_toInt (by omega)] at zc43; omega))))⟩ (by dsimp only; omega)
      exact hzz
    · rw [gN_eq (x := nI (dK D i)) (y := 0) (a := dK D i) (b := 0) rfl rfl (by omega) (by omega)] at zc24
      refine gR.steps 6 (τ, (39, [some (.ref 19), some (.ref 31), some (.int (nI i))], [.int (nI i), .ref 34, .ref 21])) rfl ?_
      refine gR.ald (i := nI i) (j := i) (N := 8) (g := τ 34) rfl rfl (by omega) (by omega) ?_
      refine gR.topI (y := nI (dB D i)) (by rw [hF 34 (by decide)]; exact (hE.2.2 i (by omega)).2.2.1) ?_
      refine gR.callp rfl (s_X0_has (by omega) τ D (nI (dB D i)) hT) ?_
      refine gR.ifte rfl (fun zc43 => ?_) (fun zc43 => ?_)
      · rw [bI_eq0] at zc43
        refine gR.steps 2 (τ, (10, [some (.ref 19), some (.ref 31), some (.int ((nI i) + 1))], [])) rfl ?_
        refine gR.forget [some (.ref 19), some (.ref 31), some (.int (nI (i + 1)))] ⟨rfl, ⟨rfl, ⟨gSomeI (gN_add rfl rfl), trivial⟩⟩⟩ ?_
        have hzz := ih ⟨i + 1, τ⟩ ⟨by omega, hF, fun m hm => (hv m hm).trans (congrArg nI (fire_n (by first | exact fun z => zc24 z.1 | (rw [nI_toInt (by omega)] at zc43; omega))))⟩ (by dsimp only; omega)
        exact hzz
      · rw [bI_eq0, Decidable.not_not] at zc43
        refine gR.steps 5 (τ, (55, [some (.ref 19), some (.ref 31), some (.int (nI i))], [.int (nI i), .ref 33, .ref 46])) rfl ?_
        refine gR.ald (i := nI i) (j := i) (N := 8) (g := τ 33) rfl rfl (by omega) (by omega) ?_
        refine gR.topI (y := nI (dM D i)) (by rw [hF 33 (by decide)]; exact (hE.2.2 i (by omega)).2.1) ?_
        refine gR.steps 1 (τ, (57, [some (.ref 19), some (.ref 31), some (.int (nI i))], [.int (nI (dM D i)), .ref 46, .int (nI (dM D i)), .ref 46])) rfl ?_
        refine gR.ald (i := nI (dM D i)) (j := dM D i) (N := 24) (g := τ 46) rfl rfl (by omega) (by omega) ?_
        refine gR.steps 2 (τ, (60, [some (.ref 19), some (.ref 31), some (.int (nI i))], [.int ((τ 46 (dM D i)) + 1), .int (nI (dM D i)), .ref 46])) rfl ?_
        refine gR.ast (i := nI (dM D i)) (j := dM D i) (N := 24) (q := 46) (x := (τ 46 (dM D i)) + 1) rfl rfl (by omega) (by omega) ?_
        refine gR.steps 2 (gUp τ 46 (dM D i) ((τ 46 (dM D i)) + 1), (10, [some (.ref 19), some (.ref 31), some (.int ((nI i) + 1))], [])) rfl ?_
        refine gR.forget [some (.ref 19), some (.ref 31), some (.int (nI (i + 1)))] ⟨rfl, ⟨rfl, ⟨gSomeI (gN_add rfl rfl), trivial⟩⟩⟩ ?_
        have hzz := ih ⟨i + 1, (gUp τ 46 (dM D i) ((τ 46 (dM D i)) + 1))⟩ ⟨by omega, fun p hp => by rw [gUp_ne hp]; exact hF p hp, fun m hm => by
      rw [gUp_app]
      by_cases hk2 : m = dM D i
      · rw [if_pos ⟨rfl, hk2⟩, hv (dM D i) (by omega), hk2]; exact (gN_add (b := 1) rfl rfl).trans (congrArg nI (fire_y (by omega) rfl (by rw [nI_toInt (by omega)] at zc43; omega)))
      · rw [if_neg (fun z => hk2 z.2), hv m hm]; exact congrArg nI (fire_n (fun z => hk2 z.2.1.symm))⟩ (by dsimp only; omega)
        exact hzz
theorem s_X6_worthOf {d : Nat} (hd : 3 ≤ d) (σ : gS) (D : xDat) (m b : Nat) (hT : cT0 σ (dN0 D) (dC0 D)) (hC : cGr σ D gn0) (hm : m < 24) (hb : b < dNb D) : gC d 25 [.ref 19, .int (nI m), .int (nI b)] σ (fun r τ => r = some (.int (dWo D m b)) ∧ τ = σ) := by
  obtain ⟨d, rfl⟩ : ∃ k, d = k + 1 := ⟨d - 1, by omega⟩
  refine gC.of (P := pX6_worthOf) (nL := 4) (rt := (some (.int))) (lv := [some (.ref 19), some (.int (nI m)), some (.int (nI b)), none]) (by decide +kernel) rfl rfl rfl (by simp [gEnt, Value.category]) rfl ?_
  have hnb := dNb_le D hT.1.2.2.2.1
  refine gR.steps 4 (σ, (8, [some (.ref 19), some (.int (nI m)), some (.int (nI b)), none], [.int (nI b), .ref 45])) rfl ?_
  refine gR.chk (b := gIn (nI b) 10) rfl (gN_in rfl (by omega) (by omega)) ?_
  rw [gN_cl rfl (by omega)]
  refine gR.getI rfl (gSh_course (j := b) (by omega)) rfl ?_
  show gR _ _ _ σ (12, [some (.ref 19), some (.int (nI m)), some (.int (nI b)), none], [.int (σ (50 + b) 3)])
  refine gR.steps 1 (σ, (13, [some (.ref 19), some (.int (nI m)), some (.int (nI b)), none], [.int (nI m), .int (σ (50 + b) 3)])) rfl ?_
  refine gR.callp rfl (s_X10_bitP (by omega) σ (σ (50 + b) 3) (fun m => dS D gn0 m b = 1 ∨ dQ D gn0 m b = true) 24 m (hC b hb).se (by omega) hm) ?_
  refine gR.steps 1 (σ, (17, [some (.ref 19), some (.int (nI m)), some (.int (nI b)), none], [.int 1, .int (bI (dS D gn0 m b = 1 ∨ dQ D gn0 m b = true))])) rfl ?_
  refine gR.ifte rfl (fun zc17 => ?_) (fun zc17 => ?_)
  · rw [bI_eq1] at zc17
    refine gR.steps 3 (σ, (27, [some (.ref 19), some (.int (nI m)), some (.int (nI b)), some (.int 0)], [.int 0])) rfl ?_
    refine gR.brT rfl (by decide) ?_
    refine gR.steps 1 (σ, (46, [some (.ref 19), some (.int (nI m)), some (.int (nI b)), some (.int 0)], [.int (-5)])) rfl ?_
    refine gR.ret rfl ?_
    exact ⟨trivial, gSomeI (if_neg (fun z => zc17 (dSm_iff.mp z))).symm, rfl⟩
  · rw [bI_eq1, Decidable.not_not] at zc17
    refine gR.steps 4 (σ, (27, [some (.ref 19), some (.int (nI m)), some (.int (nI b)), some (.int 1)], [.int 1])) rfl ?_
    refine gR.brF rfl (by decide) ?_
    refine gR.steps 4 (σ, (38, [some (.ref 19), some (.int (nI m)), some (.int (nI b)), some (.int 1)], [.int (nI b), .ref 21])) rfl ?_
    refine gR.callp rfl (s_X0_sparksOf (by omega) σ D b hT (by omega)) ?_
    refine gR.steps 1 (σ, (46, [some (.ref 19), some (.int (nI m)), some (.int (nI b)), some (.int 1)], [.int (nI (dSp D b))])) rfl ?_
    refine gR.ret rfl ?_
    exact ⟨trivial, gSomeI (if_pos (dSm_iff.mpr zc17)).symm, rfl⟩
theorem look_n {τ : gS} {D : xDat} {P : Nat → Nat} {i : Nat} (h : cLk τ D P i) (hb : ¬ dLb D i < dNb D) : cLk τ D P (i + 1) := by
  have e : dCl D (i + 1) = dCl D i := if_neg (fun z => hb (of_decide_eq_true z))
  unfold cLk
  rw [e]
  exact ⟨h.1, fun c hc => ⟨by have := (h.2.1 c hc).1; omega, (h.2.1 c hc).2⟩, fun j hj hl => h.2.2 j (by
    by_cases z : j = i
    · rw [z] at hl; exact absurd hl hb
    · omega) hl⟩
theorem look_y {τ : gS} {D : xDat} {P : Nat → Nat} {i : Nat} {y : Int32} (h : cLk τ D P i) (hb : dLb D i < dNb D) (hy : y = nI (dCl D i + 1)) : cLk (gUp (gUp (gUp τ 47 (dCl D i) (nI (dLm D i))) 48 (dCl D i) (dWo D (dLm D i) (dLb D i))) 19 6 y) D (xPut P (dCl D i) i) (i + 1) := by
  have e : dCl D (i + 1) = dCl D i + 1 := if_pos (decide_eq_true hb)
  unfold cLk
  rw [e]
  refine ⟨by rw [gUp_s]; exact hy, fun c hc => ?_, fun j hj hl => ?_⟩
  · unfold xPut
    by_cases hci : c = dCl D i
    · rw [if_pos hci, hci]
      exact ⟨by omega, hb, by rw [gUp_o (by omega), gUp_o (by omega), gUp_s], by rw [gUp_o (by omega), gUp_s]⟩
    · rw [if_neg hci]
      obtain ⟨a, b, c1, c2⟩ := h.2.1 c (by omega)
      exact ⟨by omega, b, by rw [gUp_o (by omega), gUp_o (by omega), gUp_o (by omega)]; exact c1, by rw [gUp_o (by omega), gUp_o (by omega), gUp_o (by omega)]; exact c2⟩
  · unfold xPut
    by_cases hji : j = i
    · rw [hji, if_pos rfl]
    · have : dCl D j < dCl D i := xCnt_lt (by omega) (decide_eq_true hl)
      rw [if_neg (by omega)]
      exact h.2.2 j (by omega) hl
theorem s_X6_gatherLooks {d : Nat} (hd : 4 ≤ d) (σ : gS) (D : xDat) (hT0 : cT0 σ (dN0 D) (dC0 D)) (hT1 : cT1 σ (dN1 D) (dC1 D)) (hC : cGr σ D gn0) : gC d 24 [.ref 19] σ (fun r τ => r = none ∧ ((∀ p, p ≠ 19 → p ≠ 47 → p ≠ 48 → τ p = σ p) ∧ (∀ s, s ≠ 6 → τ 19 s = σ 19 s)) ∧ ∃ P, cLk τ D P (dNl D)) := by
  obtain ⟨d, rfl⟩ : ∃ k, d = k + 1 := ⟨d - 1, by omega⟩
  refine gC.of (P := pX6_gatherLooks) (nL := 4) (rt := none) (lv := [some (.ref 19), none, none, none]) (by decide +kernel) rfl rfl rfl (by simp [gEnt, Value.category]) rfl ?_
  have hnb := dNb_le D hT0.1.2.2.2.1
  have hnl := dNl_le D hT1.1.2.2.2.1
  refine gR.steps 5 (gUp σ 19 6 0, (7, [some (.ref 19), some (.int 0), none, none], [])) rfl ?_
  refine gR.forget [some (.ref 19), some (.int 0), none, none] ⟨rfl, ⟨rfl, trivial⟩⟩ ?_
  refine gR.loop (α := Nat × gS × (Nat → Nat)) (fun ⟨i, τ, P⟩ => i ≤ dNl D ∧ ((∀ p, p ≠ 19 → p ≠ 47 → p ≠ 48 → τ p = σ p) ∧ (∀ s, s ≠ 6 → τ 19 s = σ 19 s)) ∧ cLk τ D P i) (fun ⟨i, τ, P⟩ => dNl D - i) (fun ⟨i, τ, P⟩ => (τ, (7, [some (.ref 19), some (.int (nI i)), none, none], []))) ?_ ⟨0, gUp σ 19 6 0, id⟩ ⟨Nat.zero_le _, ⟨fun p a b c => gUp_ne a, fun s a => gUp_o (by omega)⟩, gUp_s _ _ _ _, fun c hc => absurd hc (Nat.not_lt_zero c), fun j hj => absurd hj (Nat.not_lt_zero j)⟩
  rintro ⟨i, τ, P⟩ ⟨hi, hF, hL⟩ ih
  show gR _ _ _ τ (7, [some (.ref 19), some (.int (nI i)), none, none], [])
  have hT : cT0 τ (dN0 D) (dC0 D) := by
    have := hT0; unfold cT0 at this ⊢; rw [hF.1 22 (by decide) (by decide) (by decide), hF.1 23 (by decide) (by decide) (by decide)]; exact this
  have hU : cT1 τ (dN1 D) (dC1 D) := by
    have := hT1; unfold cT1 at this ⊢; rw [hF.1 25 (by decide) (by decide) (by decide), hF.1 26 (by decide) (by decide) (by decide)]; exact this
  have hG : cGr τ D gn0 := hC.fr hnb (fun p a b => hF.1 p (by omega) (by omega) (by omega))
  have hcl : dCl D i ≤ i := xCnt_le _ i
  refine gR.steps 3 (τ, (12, [some (.ref 19), some (.int (nI i)), none, none], [.ref 24, .int (nI i)])) rfl ?_
  refine gR.callp rfl (s_X4_size (by omega) τ D hU) ?_
  refine gR.ifte rfl (fun zc15 => ?_) (fun zc15 => ?_)
  · rw [gN_le (x := nI (dNl D)) (y := nI i) (a := dNl D) (b := i) rfl rfl (by omega) (by omega)] at zc15
    refine gR.ret rfl ?_
    obtain rfl : i = dNl D := by omega
    exact ⟨trivial, rfl, hF, P, hL⟩
  · rw [gN_le (x := nI (dNl D)) (y := nI i) (a := dNl D) (b := i) rfl rfl (by omega) (by omega)] at zc15
    have hlm := dLm_lt (D := D) (k := i) (by omega)
    have hlb := dLb_lt (D := D) (k := i) (by omega)
    refine gR.steps 3 (τ, (23, [some (.ref 19), some (.int (nI i)), none, none], [.int (nI i), .ref 24])) rfl ?_
    refine gR.callp rfl (s_X4_monthOf (by omega) τ D i hU (by omega)) ?_
    refine gR.steps 4 (τ, (32, [some (.ref 19), some (.int (nI i)), some (.int (nI (dLm D i))), none], [.int (nI i), .ref 24])) rfl ?_
    refine gR.callp rfl (s_X4_bushOf (by omega) τ D i hU (by omega)) ?_
    refine gR.steps 5 (τ, (44, [some (.ref 19), some (.int (nI i)), some (.int (nI (dLm D i))), some (.int (nI (dLb D i)))], [.int (nI (dLb D i)), .ref 21])) rfl ?_
    refine gR.callp rfl (s_X0_has (by omega) τ D (nI (dLb D i)) hT) ?_
    refine gR.ifte rfl (fun zc47 => ?_) (fun zc47 => ?_)
    · rw [bI_eq0] at zc47
      refine gR.steps 2 (τ, (7, [some (.ref 19), some (.int ((nI i) + 1)), some (.int (nI (dLm D i))), some (.int (nI (dLb D i)))], [])) rfl ?_
      refine gR.forget [some (.ref 19), some (.int (nI (i + 1))), none, none] ⟨rfl, ⟨gSomeI (gN_add rfl rfl), trivial⟩⟩ ?_
      have hzz := ih ⟨i + 1, τ, P⟩ ⟨by omega, hF, look_n hL (by rw [nI_toInt (by omega)] at zc47; omega)⟩ (by dsimp only; omega)
      exact hzz
    · rw [bI_eq0, Decidable.not_not] at zc47
      refine gR.steps 4 (τ, (58, [some (.ref 19), some (.int (nI i)), some (.int (nI (dLm D i))), some (.int (nI (dLb D i)))], [.int (τ 19 6), .ref 47])) rfl ?_
      refine gR.topI (y := nI (dCl D i)) hL.1 ?_
      refine gR.steps 1 (τ, (59, [some (.ref 19), some (.int (nI i)), some (.int (nI (dLm D i))), some (.int (nI (dLb D i)))], [.int (nI (dLm D i)), .int (nI (dCl D i)), .ref 47])) rfl ?_
      refine gR.ast (i := nI (dCl D i)) (j := dCl D i) (N := 12) (q := 47) (x := nI (dLm D i)) rfl rfl (by omega) (by omega) ?_
      refine gR.steps 4 (gUp τ 47 (dCl D i) (nI (dLm D i)), (68, [some (.ref 19), some (.int (nI i)), some (.int (nI (dLm D i))), some (.int (nI (dLb D i)))], [.int (τ 19 6), .ref 48])) rfl ?_
      refine gR.topI (y := nI (dCl D i)) hL.1 ?_
      refine gR.steps 3 (gUp τ 47 (dCl D i) (nI (dLm D i)), (71, [some (.ref 19), some (.int (nI i)), some (.int (nI (dLm D i))), some (.int (nI (dLb D i)))], [.int (nI (dLb D i)), .int (nI (dLm D i)), .ref 19, .int (nI (dCl D i)), .ref 48])) rfl ?_
      have hbn : dLb D i < dNb D := by rw [nI_toInt (by omega)] at zc47; omega
      have hTT : cT0 (gUp τ 47 (dCl D i) (nI (dLm D i))) (dN0 D) (dC0 D) := by
        have := hT; unfold cT0 at this ⊢; rw [gUp_ne (by decide), gUp_ne (by decide)]; exact this
      have hGG : cGr (gUp τ 47 (dCl D i) (nI (dLm D i))) D gn0 := hG.fr hnb (fun p a b => gUp_ne (by omega))
      refine gR.callp rfl (s_X6_worthOf (by omega) (gUp τ 47 (dCl D i) (nI (dLm D i))) D (dLm D i) (dLb D i) hTT hGG hlm hbn) ?_
      refine gR.ast (i := nI (dCl D i)) (j := dCl D i) (N := 12) (q := 48) (x := dWo D (dLm D i) (dLb D i)) rfl rfl (by omega) (by omega) ?_
      refine gR.steps 3 (gUp (gUp τ 47 (dCl D i) (nI (dLm D i))) 48 (dCl D i) (dWo D (dLm D i) (dLb D i)), (80, [some (.ref 19), some (.int (nI i)), some (.int (nI (dLm D i))), some (.int (nI (dLb D i)))], [.int (τ 19 6), .ref 19])) rfl ?_
      refine gR.topI (y := nI (dCl D i)) hL.1 ?_
      refine gR.steps 5 (gUp (gUp (gUp τ 47 (dCl D i) (nI (dLm D i))) 48 (dCl D i) (dWo D (dLm D i) (dLb D i))) 19 6 ((nI (dCl D i)) + 1), (7, [some (.ref 19), some (.int ((nI i) + 1)), some (.int (nI (dLm D i))), some (.int (nI (dLb D i)))], [])) rfl ?_
      refine gR.forget [some (.ref 19), some (.int (nI (i + 1))), none, none] ⟨rfl, ⟨gSomeI (gN_add rfl rfl), trivial⟩⟩ ?_
      have hzz := ih ⟨i + 1, (gUp (gUp (gUp τ 47 (dCl D i) (nI (dLm D i))) 48 (dCl D i) (dWo D (dLm D i) (dLb D i))) 19 6 ((nI (dCl D i)) + 1)), xPut P (dCl D i) i⟩ ⟨by omega, ⟨fun p a b c => by rw [gUp_ne a, gUp_ne c, gUp_ne b]; exact hF.1 p a b c, fun s a => by rw [gUp_o (by omega), gUp_o (by omega), gUp_o (by omega)]; exact hF.2 s a⟩, look_y hL (by rw [nI_toInt (by omega)] at zc47; omega) (gN_add rfl rfl)⟩ (by dsimp only; omega)
      exact hzz
def cMk (τ : gS) (D : xDat) : Prop := (∀ m, m < 24 → τ 46 m = nI (dFi D m)) ∧ ∃ P, cLk τ D P (dNl D)
theorem dFi_le {D : xDat} {m : Nat} (h : dN D ≤ 8) : dFi D m ≤ 8 := Nat.le_trans (xFire_le _ _ _ _ _ _ _) h
theorem s_X6_behind0 {d : Nat} (hd : 2 ≤ d) (σ : gS) (D : xDat) (m a : Nat) (hM : cMk σ D) (hm : m < 24) (ha : a ≤ 100) (hn8 : dN D ≤ 8) (hnl : dNl D ≤ 12) : gC d 26 [.ref 19, .int (nI m), .int (nI a), .int 0] σ (fun r τ => r = some (.int (nI (bh0 D m a))) ∧ τ = σ) := by
  obtain ⟨d, rfl⟩ : ∃ k, d = k + 1 := ⟨d - 1, by omega⟩
  refine gC.of (P := pX6_behind) (nL := 7) (rt := (some (.int))) (lv := [some (.ref 19), some (.int (nI m)), some (.int (nI a)), some (.int 0), none, none, none]) (by decide +kernel) rfl rfl rfl (by simp [gEnt, Value.category]) rfl ?_
  obtain ⟨hM1, P, hL⟩ := hM
  have hfi := dFi_le (D := D) (m := m) hn8
  have hcl : dCl D (dNl D) ≤ dNl D := xCnt_le _ _
  refine gR.steps 5 (σ, (8, [some (.ref 19), some (.int (nI m)), some (.int (nI a)), some (.int 0), none, none, none], [.int (nI m), .ref 46, .int 10, .int (nI a)])) rfl ?_
  refine gR.ald (i := nI m) (j := m) (N := 24) (g := σ 46) rfl rfl (by omega) (by omega) ?_
  refine gR.topI (y := nI (dFi D m)) (hM1 m hm) ?_
  refine gR.steps 2 (σ, (11, [some (.ref 19), some (.int (nI m)), some (.int (nI a)), some (.int 0), none, none, none], [.int ((nI a) - (10 * (nI (dFi D m))))])) rfl ?_
  refine gR.callp rfl (s_X6_boundedK (by omega) σ _ (a - 10 * dFi D m) (xKept_sub (b := 10 * dFi D m) rfl (gN_mul (a := 10) rfl rfl) (by omega) (by omega))) ?_
  refine gR.steps 5 (σ, (22, [some (.ref 19), some (.int (nI m)), some (.int (nI a)), some (.int 0), some (.int (nI (a - 10 * dFi D m))), some (.int 0), some (.int 0)], [])) rfl ?_
  refine gR.forget [some (.ref 19), some (.int (nI m)), some (.int (nI a)), some (.int 0), some (.int (nI (xLf D P m (a - 10 * dFi D m) 0))), some (.int (bI (xAny (fun z => decide (dLm D (P z) = m)) 0 = true))), some (.int 0)] ⟨rfl, ⟨rfl, ⟨rfl, ⟨rfl, ⟨rfl, ⟨rfl, ⟨rfl, trivial⟩⟩⟩⟩⟩⟩⟩ ?_
  refine gR.loop (α := Nat) (fun c => c ≤ dCl D (dNl D)) (fun c => dCl D (dNl D) - c) (fun c => (σ, (22, [some (.ref 19), some (.int (nI m)), some (.int (nI a)), some (.int 0), some (.int (nI (xLf D P m (a - 10 * dFi D m) c))), some (.int (bI (xAny (fun z => decide (dLm D (P z) = m)) c = true))), some (.int (nI c))], []))) ?_ 0 (Nat.zero_le _)
  rintro c hc ih
  show gR _ _ _ σ (22, [some (.ref 19), some (.int (nI m)), some (.int (nI a)), some (.int 0), some (.int (nI (xLf D P m (a - 10 * dFi D m) c))), some (.int (bI (xAny (fun z => decide (dLm D (P z) = m)) c = true))), some (.int (nI c))], [])
  have hle := xLf_le (D := D) (P := P) (m := m) (a := a - 10 * dFi D m) (by omega) c
  refine gR.steps 3 (σ, (28, [some (.ref 19), some (.int (nI m)), some (.int (nI a)), some (.int 0), some (.int (nI (xLf D P m (a - 10 * dFi D m) c))), some (.int (bI (xAny (fun z => decide (dLm D (P z) = m)) c = true))), some (.int (nI c))], [.int (σ 19 6), .int (nI c)])) rfl ?_
  refine gR.topI (y := nI (dCl D (dNl D))) hL.1 ?_
  refine gR.ifte rfl (fun zc28 => ?_) (fun zc28 => ?_)
  · rw [gN_le (x := nI (dCl D (dNl D))) (y := nI c) (a := dCl D (dNl D)) (b := c) rfl rfl (by omega) (by omega)] at zc28
    obtain rfl : c = dCl D (dNl D) := by omega
    have hend : xLf D P m (a - 10 * dFi D m) (dCl D (dNl D)) = bhL D m a := xLf_eq hL.2.2
    have hany : xAny (fun z => decide (dLm D (P z) = m)) (dCl D (dNl D)) = xLkAny (dLm D) (dLb D) (dNb D) m (dNl D) := xLa_eq hL.2.2
    refine gR.steps 1 (σ, (67, [some (.ref 19), some (.int (nI m)), some (.int (nI a)), some (.int 0), some (.int (nI (xLf D P m (a - 10 * dFi D m) (dCl D (dNl D))))), some (.int (bI (xAny (fun z => decide (dLm D (P z) = m)) (dCl D (dNl D)) = true))), some (.int (nI (dCl D (dNl D))))], [.int 0])) rfl ?_
    refine gR.brT rfl (by decide) ?_
    refine gR.steps 1 (σ, (80, [some (.ref 19), some (.int (nI m)), some (.int (nI a)), some (.int 0), some (.int (nI (xLf D P m (a - 10 * dFi D m) (dCl D (dNl D))))), some (.int (bI (xAny (fun z => decide (dLm D (P z) = m)) (dCl D (dNl D)) = true))), some (.int (nI (dCl D (dNl D))))], [.int (bI (xAny (fun z => decide (dLm D (P z) = m)) (dCl D (dNl D)) = true))])) rfl ?_
    refine gR.ifte rfl (fun zc80 => ?_) (fun zc80 => ?_)
    · rw [bI_eq0] at zc80
      refine gR.steps 3 (σ, (92, [some (.ref 19), some (.int (nI m)), some (.int (nI a)), some (.int 0), some (.int (nI (xLf D P m (a - 10 * dFi D m) (dCl D (dNl D))))), some (.int (bI (xAny (fun z => decide (dLm D (P z) = m)) (dCl D (dNl D)) = true))), some (.int (nI (dCl D (dNl D))))], [.int ((nI (xLf D P m (a - 10 * dFi D m) (dCl D (dNl D)))) - 2)])) rfl ?_
      refine gR.callp rfl (s_X6_boundedK (by omega) σ _ (bhL D m a - 2) (by rw [hend]; exact xKept_sub (b := 2) rfl rfl (bhL_le (by omega)) (by omega))) ?_
      refine gR.ret rfl ?_
      rw [hany] at zc80
      exact ⟨trivial, gSomeI (congrArg nI (if_neg zc80).symm), rfl⟩
    · rw [bI_eq0, Decidable.not_not] at zc80
      refine gR.steps 2 (σ, (95, [some (.ref 19), some (.int (nI m)), some (.int (nI a)), some (.int 0), some (.int (nI (xLf D P m (a - 10 * dFi D m) (dCl D (dNl D))))), some (.int (bI (xAny (fun z => decide (dLm D (P z) = m)) (dCl D (dNl D)) = true))), some (.int (nI (dCl D (dNl D))))], [.int (nI (xLf D P m (a - 10 * dFi D m) (dCl D (dNl D))))])) rfl ?_
      refine gR.ret rfl ?_
      rw [hany] at zc80
      exact ⟨trivial, gSomeI (congrArg nI (hend.trans (if_pos zc80).symm)), rfl⟩
  · rw [gN_le (x := nI (dCl D (dNl D))) (y := nI c) (a := dCl D (dNl D)) (b := c) rfl rfl (by omega) (by omega)] at zc28
    have hlm := dLm_lt (D := D) (k := P c) (hL.2.1 c (by omega)).1
    refine gR.steps 3 (σ, (37, [some (.ref 19), some (.int (nI m)), some (.int (nI a)), some (.int 0), some (.int (nI (xLf D P m (a - 10 * dFi D m) c))), some (.int (bI (xAny (fun z => decide (dLm D (P z) = m)) c = true))), some (.int (nI c))], [.int (nI c), .ref 47])) rfl ?_
    refine gR.ald (i := nI c) (j := c) (N := 12) (g := σ 47) rfl rfl (by omega) (by omega) ?_
    refine gR.topI (y := nI (dLm D (P c))) (hL.2.1 c (by omega)).2.2.1 ?_
    refine gR.steps 1 (σ, (39, [some (.ref 19), some (.int (nI m)), some (.int (nI a)), some (.int 0), some (.int (nI (xLf D P m (a - 10 * dFi D m) c))), some (.int (bI (xAny (fun z => decide (dLm D (P z) = m)) c = true))), some (.int (nI c))], [.int (nI m), .int (nI (dLm D (P c)))])) rfl ?_
    refine gR.ifte rfl (fun zc39 => ?_) (fun zc39 => ?_)
    · rw [gN_eq (x := nI (dLm D (P c))) (y := nI m) (a := dLm D (P c)) (b := m) rfl rfl (by omega) (by omega)] at zc39
      refine gR.steps 2 (σ, (22, [some (.ref 19), some (.int (nI m)), some (.int (nI a)), some (.int 0), some (.int (nI (xLf D P m (a - 10 * dFi D m) c))), some (.int (bI (xAny (fun z => decide (dLm D (P z) = m)) c = true))), some (.int ((nI c) + 1))], [])) rfl ?_
      refine gR.forget [some (.ref 19), some (.int (nI m)), some (.int (nI a)), some (.int 0), some (.int (nI (xLf D P m (a - 10 * dFi D m) (c + 1)))), some (.int (bI (xAny (fun z => decide (dLm D (P z) = m)) (c + 1) = true))), some (.int (nI (c + 1)))] ⟨rfl, ⟨rfl, ⟨rfl, ⟨rfl, ⟨gSomeI (congrArg nI (if_neg zc39).symm), ⟨gSomeI (bI_congr (by simp only [xAny]; rw [decide_eq_false zc39, Bool.or_false])), ⟨gSomeI (gN_add rfl rfl), trivial⟩⟩⟩⟩⟩⟩⟩ ?_
      have hzz := ih (c + 1) (by omega) (by omega)
      exact hzz
    · rw [gN_eq (x := nI (dLm D (P c))) (y := nI m) (a := dLm D (P c)) (b := m) rfl rfl (by omega) (by omega)] at zc39
      rw [Decidable.not_not] at zc39
      refine gR.steps 4 (σ, (50, [some (.ref 19), some (.int (nI m)), some (.int (nI a)), some (.int 0), some (.int (nI (xLf D P m (a - 10 * dFi D m) c))), some (.int (bI (xAny (fun z => decide (dLm D (P z) = m)) c = true))), some (.int (nI c))], [.int (nI c), .ref 48, .int (nI (xLf D P m (a - 10 * dFi D m) c))])) rfl ?_
      refine gR.ald (i := nI c) (j := c) (N := 12) (g := σ 48) rfl rfl (by omega) (by omega) ?_
      refine gR.steps 1 (σ, (52, [some (.ref 19), some (.int (nI m)), some (.int (nI a)), some (.int 0), some (.int (nI (xLf D P m (a - 10 * dFi D m) c))), some (.int (bI (xAny (fun z => decide (dLm D (P z) = m)) c = true))), some (.int (nI c))], [.int ((nI (xLf D P m (a - 10 * dFi D m) c)) + (σ 48 c))])) rfl ?_
      obtain ⟨hP1, hP2, hP3, hP4⟩ := hL.2.1 c (by omega)
      have hsp := dSp_lt hP2
      refine gR.callp rfl (s_X6_boundedK (by omega) σ _ (xLook (xLf D P m (a - 10 * dFi D m) c) (dSm D m (dLb D (P c))) (dSp D (dLb D (P c)))) (by rw [hP4, zc39]; exact wo_kept hle (by omega))) ?_
      refine gR.steps 5 (σ, (22, [some (.ref 19), some (.int (nI m)), some (.int (nI a)), some (.int 0), some (.int (nI (xLook (xLf D P m (a - 10 * dFi D m) c) (dSm D m (dLb D (P c))) (dSp D (dLb D (P c)))))), some (.int 1), some (.int ((nI c) + 1))], [])) rfl ?_
      refine gR.forget [some (.ref 19), some (.int (nI m)), some (.int (nI a)), some (.int 0), some (.int (nI (xLf D P m (a - 10 * dFi D m) (c + 1)))), some (.int (bI (xAny (fun z => decide (dLm D (P z) = m)) (c + 1) = true))), some (.int (nI (c + 1)))] ⟨rfl, ⟨rfl, ⟨rfl, ⟨rfl, ⟨gSomeI (congrArg nI (if_pos zc39).symm), ⟨gSomeI (bI_t (by simp only [xAny]; rw [decide_eq_true zc39, Bool.or_true])).symm, ⟨gSomeI (gN_add rfl rfl), trivial⟩⟩⟩⟩⟩⟩⟩ ?_
      have hzz := ih (c + 1) (by omega) (by omega)
      exact hzz
theorem s_X6_behindW {d : Nat} (hd : 2 ≤ d) (σ : gS) (D : xDat) (m a b : Nat) (hM : cMk σ D) (hm : m < 24) (ha : a ≤ 100) (hn8 : dN D ≤ 8) (hnl : dNl D ≤ 12) (hb : b < dNb D) : gC d 26 [.ref 19, .int (nI m), .int (nI a), .int (dWo D m b)] σ (fun r τ => r = some (.int (nI (bhW D m a b))) ∧ τ = σ) := by
  obtain ⟨d, rfl⟩ : ∃ k, d = k + 1 := ⟨d - 1, by omega⟩
  refine gC.of (P := pX6_behind) (nL := 7) (rt := (some (.int))) (lv := [some (.ref 19), some (.int (nI m)), some (.int (nI a)), some (.int (dWo D m b)), none, none, none]) (by decide +kernel) rfl rfl rfl (by simp [gEnt, Value.category]) rfl ?_
  obtain ⟨hM1, P, hL⟩ := hM
  have hfi := dFi_le (D := D) (m := m) hn8
  have hcl : dCl D (dNl D) ≤ dNl D := xCnt_le _ _
  have hsp := dSp_lt hb
  refine gR.steps 5 (σ, (8, [some (.ref 19), some (.int (nI m)), some (.int (nI a)), some (.int (dWo D m b)), none, none, none], [.int (nI m), .ref 46, .int 10, .int (nI a)])) rfl ?_
  refine gR.ald (i := nI m) (j := m) (N := 24) (g := σ 46) rfl rfl (by omega) (by omega) ?_
  refine gR.topI (y := nI (dFi D m)) (hM1 m hm) ?_
  refine gR.steps 2 (σ, (11, [some (.ref 19), some (.int (nI m)), some (.int (nI a)), some (.int (dWo D m b)), none, none, none], [.int ((nI a) - (10 * (nI (dFi D m))))])) rfl ?_
  refine gR.callp rfl (s_X6_boundedK (by omega) σ _ (a - 10 * dFi D m) (xKept_sub (b := 10 * dFi D m) rfl (gN_mul (a := 10) rfl rfl) (by omega) (by omega))) ?_
  refine gR.steps 5 (σ, (22, [some (.ref 19), some (.int (nI m)), some (.int (nI a)), some (.int (dWo D m b)), some (.int (nI (a - 10 * dFi D m))), some (.int 0), some (.int 0)], [])) rfl ?_
  refine gR.forget [some (.ref 19), some (.int (nI m)), some (.int (nI a)), some (.int (dWo D m b)), some (.int (nI (xLf D P m (a - 10 * dFi D m) 0))), some (.int (bI (xAny (fun z => decide (dLm D (P z) = m)) 0 = true))), some (.int 0)] ⟨rfl, ⟨rfl, ⟨rfl, ⟨rfl, ⟨rfl, ⟨rfl, ⟨rfl, trivial⟩⟩⟩⟩⟩⟩⟩ ?_
  refine gR.loop (α := Nat) (fun c => c ≤ dCl D (dNl D)) (fun c => dCl D (dNl D) - c) (fun c => (σ, (22, [some (.ref 19), some (.int (nI m)), some (.int (nI a)), some (.int (dWo D m b)), some (.int (nI (xLf D P m (a - 10 * dFi D m) c))), some (.int (bI (xAny (fun z => decide (dLm D (P z) = m)) c = true))), some (.int (nI c))], []))) ?_ 0 (Nat.zero_le _)
  rintro c hc ih
  show gR _ _ _ σ (22, [some (.ref 19), some (.int (nI m)), some (.int (nI a)), some (.int (dWo D m b)), some (.int (nI (xLf D P m (a - 10 * dFi D m) c))), some (.int (bI (xAny (fun z => decide (dLm D (P z) = m)) c = true))), some (.int (nI c))], [])
  have hle := xLf_le (D := D) (P := P) (m := m) (a := a - 10 * dFi D m) (by omega) c
  refine gR.steps 3 (σ, (28, [some (.ref 19), some (.int (nI m)), some (.int (nI a)), some (.int (dWo D m b)), some (.int (nI (xLf D P m (a - 10 * dFi D m) c))), some (.int (bI (xAny (fun z => decide (dLm D (P z) = m)) c = true))), some (.int (nI c))], [.int (σ 19 6), .int (nI c)])) rfl ?_
  refine gR.topI (y := nI (dCl D (dNl D))) hL.1 ?_
  refine gR.ifte rfl (fun zc28 => ?_) (fun zc28 => ?_)
  · rw [gN_le (x := nI (dCl D (dNl D))) (y := nI c) (a := dCl D (dNl D)) (b := c) rfl rfl (by omega) (by omega)] at zc28
    obtain rfl : c = dCl D (dNl D) := by omega
    have hend : xLf D P m (a - 10 * dFi D m) (dCl D (dNl D)) = bhL D m a := xLf_eq hL.2.2
    have hany : xAny (fun z => decide (dLm D (P z) = m)) (dCl D (dNl D)) = xLkAny (dLm D) (dLb D) (dNb D) m (dNl D) := xLa_eq hL.2.2
    refine gR.steps 1 (σ, (67, [some (.ref 19), some (.int (nI m)), some (.int (nI a)), some (.int (dWo D m b)), some (.int (nI (xLf D P m (a - 10 * dFi D m) (dCl D (dNl D))))), some (.int (bI (xAny (fun z => decide (dLm D (P z) = m)) (dCl D (dNl D)) = true))), some (.int (nI (dCl D (dNl D))))], [.int (dWo D m b)])) rfl ?_
    refine gR.brF rfl (wo_ne (by omega) (by omega)) ?_
    refine gR.steps 3 (σ, (74, [some (.ref 19), some (.int (nI m)), some (.int (nI a)), some (.int (dWo D m b)), some (.int (nI (xLf D P m (a - 10 * dFi D m) (dCl D (dNl D))))), some (.int (bI (xAny (fun z => decide (dLm D (P z) = m)) (dCl D (dNl D)) = true))), some (.int (nI (dCl D (dNl D))))], [.int ((nI (xLf D P m (a - 10 * dFi D m) (dCl D (dNl D)))) + (dWo D m b))])) rfl ?_
    refine gR.callp rfl (s_X6_boundedK (by omega) σ _ (bhW D m a b) (by rw [hend]; exact wo_kept (bhL_le (by omega)) (by omega))) ?_
    refine gR.ret rfl ?_
    exact ⟨trivial, rfl, rfl⟩
  · rw [gN_le (x := nI (dCl D (dNl D))) (y := nI c) (a := dCl D (dNl D)) (b := c) rfl rfl (by omega) (by omega)] at zc28
    have hlm := dLm_lt (D := D) (k := P c) (hL.2.1 c (by omega)).1
    refine gR.steps 3 (σ, (37, [some (.ref 19), some (.int (nI m)), some (.int (nI a)), some (.int (dWo D m b)), some (.int (nI (xLf D P m (a - 10 * dFi D m) c))), some (.int (bI (xAny (fun z => decide (dLm D (P z) = m)) c = true))), some (.int (nI c))], [.int (nI c), .ref 47])) rfl ?_
    refine gR.ald (i := nI c) (j := c) (N := 12) (g := σ 47) rfl rfl (by omega) (by omega) ?_
    refine gR.topI (y := nI (dLm D (P c))) (hL.2.1 c (by omega)).2.2.1 ?_
    refine gR.steps 1 (σ, (39, [some (.ref 19), some (.int (nI m)), some (.int (nI a)), some (.int (dWo D m b)), some (.int (nI (xLf D P m (a - 10 * dFi D m) c))), some (.int (bI (xAny (fun z => decide (dLm D (P z) = m)) c = true))), some (.int (nI c))], [.int (nI m), .int (nI (dLm D (P c)))])) rfl ?_
    refine gR.ifte rfl (fun zc39 => ?_) (fun zc39 => ?_)
    · rw [gN_eq (x := nI (dLm D (P c))) (y := nI m) (a := dLm D (P c)) (b := m) rfl rfl (by omega) (by omega)] at zc39
      refine gR.steps 2 (σ, (22, [some (.ref 19), some (.int (nI m)), some (.int (nI a)), some (.int (dWo D m b)), some (.int (nI (xLf D P m (a - 10 * dFi D m) c))), some (.int (bI (xAny (fun z => decide (dLm D (P z) = m)) c = true))), some (.int ((nI c) + 1))], [])) rfl ?_
      refine gR.forget [some (.ref 19), some (.int (nI m)), some (.int (nI a)), some (.int (dWo D m b)), some (.int (nI (xLf D P m (a - 10 * dFi D m) (c + 1)))), some (.int (bI (xAny (fun z => decide (dLm D (P z) = m)) (c + 1) = true))), some (.int (nI (c + 1)))] ⟨rfl, ⟨rfl, ⟨rfl, ⟨rfl, ⟨gSomeI (congrArg nI (if_neg zc39).symm), ⟨gSomeI (bI_congr (by simp only [xAny]; rw [decide_eq_false zc39, Bool.or_false])), ⟨gSomeI (gN_add rfl rfl), trivial⟩⟩⟩⟩⟩⟩⟩ ?_
      have hzz := ih (c + 1) (by omega) (by omega)
      exact hzz
    · rw [gN_eq (x := nI (dLm D (P c))) (y := nI m) (a := dLm D (P c)) (b := m) rfl rfl (by omega) (by omega)] at zc39
      rw [Decidable.not_not] at zc39
      refine gR.steps 4 (σ, (50, [some (.ref 19), some (.int (nI m)), some (.int (nI a)), some (.int (dWo D m b)), some (.int (nI (xLf D P m (a - 10 * dFi D m) c))), some (.int (bI (xAny (fun z => decide (dLm D (P z) = m)) c = true))), some (.int (nI c))], [.int (nI c), .ref 48, .int (nI (xLf D P m (a - 10 * dFi D m) c))])) rfl ?_
      refine gR.ald (i := nI c) (j := c) (N := 12) (g := σ 48) rfl rfl (by omega) (by omega) ?_
      refine gR.steps 1 (σ, (52, [some (.ref 19), some (.int (nI m)), some (.int (nI a)), some (.int (dWo D m b)), some (.int (nI (xLf D P m (a - 10 * dFi D m) c))), some (.int (bI (xAny (fun z => decide (dLm D (P z) = m)) c = true))), some (.int (nI c))], [.int ((nI (xLf D P m (a - 10 * dFi D m) c)) + (σ 48 c))])) rfl ?_
      obtain ⟨hP1, hP2, hP3, hP4⟩ := hL.2.1 c (by omega)
      have hsp := dSp_lt hP2
      refine gR.callp rfl (s_X6_boundedK (by omega) σ _ (xLook (xLf D P m (a - 10 * dFi D m) c) (dSm D m (dLb D (P c))) (dSp D (dLb D (P c)))) (by rw [hP4, zc39]; exact wo_kept hle (by omega))) ?_
      refine gR.steps 5 (σ, (22, [some (.ref 19), some (.int (nI m)), some (.int (nI a)), some (.int (dWo D m b)), some (.int (nI (xLook (xLf D P m (a - 10 * dFi D m) c) (dSm D m (dLb D (P c))) (dSp D (dLb D (P c)))))), some (.int 1), some (.int ((nI c) + 1))], [])) rfl ?_
      refine gR.forget [some (.ref 19), some (.int (nI m)), some (.int (nI a)), some (.int (dWo D m b)), some (.int (nI (xLf D P m (a - 10 * dFi D m) (c + 1)))), some (.int (bI (xAny (fun z => decide (dLm D (P z) = m)) (c + 1) = true))), some (.int (nI (c + 1)))] ⟨rfl, ⟨rfl, ⟨rfl, ⟨rfl, ⟨gSomeI (congrArg nI (if_pos zc39).symm), ⟨gSomeI (bI_t (by simp only [xAny]; rw [decide_eq_true zc39, Bool.or_true])).symm, ⟨gSomeI (gN_add rfl rfl), trivial⟩⟩⟩⟩⟩⟩⟩ ?_
      have hzz := ih (c + 1) (by omega) (by omega)
      exact hzz
