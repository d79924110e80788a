section GQ
variable {P : gProg} {E : gE} {Fin : Option Value → gS → Prop} {σ : gS} {lv : gL} {st : List Value} {pc : Nat}
theorem gR.getI {ci k q : Nat} {ks : List (Option Nat)} (hf : gFind P pc = some (sGet ci k)) (hq : gShape q = some (.inl (ci, ks))) (hk : gAt ks k = some none) (hn : gR P E Fin σ (pc + 3, lv, .int (σ q k) :: st)) : gR P E Fin σ (pc, lv, .ref q :: st) := by
  refine gR.go (o := none) (σ1 := σ) (f1 := (pc + 3, lv, .int (σ q k) :: st)) ?_ hn
  unfold gStep
  simp only [hf, sGet, hq, hk, Nat.beq_refl, cond_true]
  rfl
theorem gR.getR {ci k q t : Nat} {ks : List (Option Nat)} (hf : gFind P pc = some (sGet ci k)) (hq : gShape q = some (.inl (ci, ks))) (hk : gAt ks k = some (some t)) (hn : gR P E Fin σ (pc + 3, lv, .ref t :: st)) : gR P E Fin σ (pc, lv, .ref q :: st) := by
  refine gR.go (o := none) (σ1 := σ) (f1 := (pc + 3, lv, .ref t :: st)) ?_ hn
  unfold gStep
  simp only [hf, sGet, hq, hk, Nat.beq_refl, cond_true]
  rfl
theorem gR.putI {ci k q : Nat} {v : Int32} {ks : List (Option Nat)} (hf : gFind P pc = some (sPut ci k)) (hq : gShape q = some (.inl (ci, ks))) (hk : gAt ks k = some none) (hn : gR P E Fin (gUp σ q k v) (pc + 3, lv, st)) : gR P E Fin σ (pc, lv, .int v :: .ref q :: st) := by
  refine gR.go (o := none) (σ1 := gUp σ q k v) (f1 := (pc + 3, lv, st)) ?_ hn
  unfold gStep
  simp only [hf, sPut, hq, hk, Nat.beq_refl, cond_true]
  rfl
theorem gR.aldq {i : Int32} {q j n : Nat} (hf : gFind P pc = some sIald) (hq : gShape q = some (.inr (.inl (0, n)))) (p : i = nI j) (hj : j < n) (hN : n < 2147483648) (hn : gR P E Fin σ (pc + 1, lv, .int (σ q j) :: st)) : gR P E Fin σ (pc, lv, .int i :: .ref q :: st) := by
  refine gR.chk (b := gIn i n) (o := none) (σ1 := σ) (f1 := (pc + 1, lv, .int (σ q i.toNatClampNeg) :: st)) ?_ (gN_in p hj hN) (by rw [gN_cl p (by omega)]; exact hn)
  unfold gStep
  simp only [hf, sIald, hq]
  rfl
theorem gR.astq {i x : Int32} {q j n : Nat} (hf : gFind P pc = some sIast) (hq : gShape q = some (.inr (.inl (0, n)))) (p : i = nI j) (hj : j < n) (hN : n < 2147483648) (hn : gR P E Fin (gUp σ q j x) (pc + 1, lv, st)) : gR P E Fin σ (pc, lv, .int x :: .int i :: .ref q :: st) := by
  refine gR.chk (b := gIn i n) (o := none) (σ1 := gUp σ q i.toNatClampNeg x) (f1 := (pc + 1, lv, st)) ?_ (gN_in p hj hN) (by rw [gN_cl p (by omega)]; exact hn)
  unfold gStep
  simp only [hf, sIast, hq]
  rfl
theorem gR.alenq {q n : Nat} (hf : gFind P pc = some sAlen) (hq : gShape q = some (.inr (.inl (0, n)))) (hn : gR P E Fin σ (pc + 1, lv, .int (Int32.ofNat n) :: st)) : gR P E Fin σ (pc, lv, .ref q :: st) := by
  refine gR.go (o := none) (σ1 := σ) (f1 := (pc + 1, lv, .int (Int32.ofNat n) :: st)) ?_ hn
  unfold gStep
  simp only [hf, sAlen, hq]
  rfl
theorem gStep_callV {mid ci n q : Nat} {ks : List (Option Nat)} {r : List Value} (hf : gFind P pc = some (sCallV mid ci n)) (hd : st.drop n = .ref q :: r) (hq : gShape q = some (.inl (ci, ks))) (hb : (Nat.ble n st.length && Nat.ble (gCats r) 8) = true) : gStep P σ (pc, lv, st) = some (.inr (.inl (mid, .ref q :: (st.take n).reverse, (pc + 3, lv, r)))) := by
  unfold gStep
  simp only [hf, sCallV, hd, gIsO, hq, Nat.beq_refl, Bool.true_and]
  rw [hb]
  rfl
end GQ
theorem gSh_course {j : Nat} (h : j < 10) : gShape (50 + j) = some (.inl (1, [some (60 + j), none, none, none])) := by
  rcases (show j = 0 ∨ j = 1 ∨ j = 2 ∨ j = 3 ∨ j = 4 ∨ j = 5 ∨ j = 6 ∨ j = 7 ∨ j = 8 ∨ j = 9 by omega) with rfl | rfl | rfl | rfl | rfl | rfl | rfl | rfl | rfl | rfl <;> rfl
theorem gSh_held {j : Nat} (h : j < 10) : gShape (60 + j) = some (.inr (.inl (0, 4))) := by
  rcases (show j = 0 ∨ j = 1 ∨ j = 2 ∨ j = 3 ∨ j = 4 ∨ j = 5 ∨ j = 6 ∨ j = 7 ∨ j = 8 ∨ j = 9 by omega) with rfl | rfl | rfl | rfl | rfl | rfl | rfl | rfl | rfl | rfl <;> rfl
theorem gSh_sheet {j : Nat} (h : j < 4) : gShape (70 + j) = some (.inl (8, [some (74 + j), none, none])) := by
  rcases (show j = 0 ∨ j = 1 ∨ j = 2 ∨ j = 3 by omega) with rfl | rfl | rfl | rfl <;> rfl
theorem gSh_items {j : Nat} (h : j < 4) : gShape (74 + j) = some (.inr (.inl (0, 60))) := by
  rcases (show j = 0 ∨ j = 1 ∨ j = 2 ∨ j = 3 by omega) with rfl | rfl | rfl | rfl <;> rfl
-- masks
theorem one_bt : ∀ n, n < 32 → ∀ i, i < 32 → bt ((1 : Int32) <<< (nI n &&& 31)) i = decide (i = n) := by decide +kernel
theorem xMask_bt (f : Nat → Bool) : ∀ n, n ≤ 32 → ∀ i, i < 32 → bt (xMask f n) i = (decide (i < n) && f i)
  | 0, _, i, _ => by rw [show xMask f 0 = 0 from rfl, b_0, decide_eq_false (Nat.not_lt_zero i)]; rfl
  | n + 1, hn, i, hi => by
    have ih := xMask_bt f n (by omega) i hi
    simp only [xMask]
    rw [b_or, ih]
    by_cases h : i = n
    · subst h
      rw [decide_eq_false (Nat.lt_irrefl i), decide_eq_true (Nat.lt_succ_self i)]
      by_cases hf : f i = true
      · rw [if_pos hf, one_bt i hi i hi, hf]; simp
      · rw [if_neg hf, b_0]; simp at hf; rw [hf]; rfl
    · have e : decide (i < n + 1) = decide (i < n) := decide_eq_decide.mpr (by omega)
      rw [e]
      by_cases hf : f n = true
      · rw [if_pos hf, one_bt n (by omega) i hi, decide_eq_false h, Bool.or_false]
      · rw [if_neg hf, b_0, Bool.or_false]
theorem xMask_or {f g : Nat → Bool} {n : Nat} (hn : n ≤ 32) : xMask f n ||| xMask g n = xMask (fun i => f i || g i) n := b_ext (fun i hi => by
  rw [b_or, xMask_bt f n hn i hi, xMask_bt g n hn i hi, xMask_bt _ n hn i hi]
  by_cases h : i < n
  · rw [decide_eq_true h]; rfl
  · rw [decide_eq_false h]; rfl)
theorem xMask_and {f g : Nat → Bool} {n : Nat} (hn : n ≤ 32) : xMask f n &&& xMask g n = xMask (fun i => f i && g i) n := b_ext (fun i hi => by
  rw [b_and, xMask_bt f n hn i hi, xMask_bt g n hn i hi, xMask_bt _ n hn i hi]
  by_cases h : i < n
  · rw [decide_eq_true h]; rfl
  · rw [decide_eq_false h]; rfl)
theorem xMask_andn {f : Nat → Bool} {n : Nat} {x : Int32} (hn : n ≤ 32) : xMask f n &&& (x ^^^ -1) = xMask (fun i => f i && !bt x i) n := b_ext (fun i hi => by
  rw [b_and, xMask_bt f n hn i hi, xMask_bt _ n hn i hi, b_xor, b_m1 i hi]
  by_cases h : i < n
  · rw [decide_eq_true h]; simp
  · rw [decide_eq_false h]; rfl)
theorem xMask_sub {f g : Nat → Bool} {n : Nat} (hn : n ≤ 32) : xMask f n &&& (xMask g n ^^^ -1) = xMask (fun i => f i && !g i) n := by
  rw [xMask_andn hn]
  exact xMask_congr (fun i hi => by rw [xMask_bt g n hn i (by omega), decide_eq_true hi]; rfl)
theorem bit_bt (x : Int32) {m : Nat} (hm : m < 31) : (x >>> (nI m &&& 31)) &&& 1 = bI (bt x m = true) := by
  apply b_ext
  intro i hi
  rw [b_and, b_sshr m (by omega) x hi]
  have h1 : ∀ i, i < 32 → bt 1 i = decide (i = 0) := by decide +kernel
  rw [h1 i hi]
  by_cases h0 : i = 0
  · subst h0
    rw [if_pos (by omega), Nat.add_zero, decide_eq_true rfl, Bool.and_true]
    by_cases hb : bt x m = true
    · rw [bI_t hb, hb]; rfl
    · rw [bI_f hb, b_0]; simpa using hb
  · rw [decide_eq_false h0, Bool.and_false]
    by_cases hb : bt x m = true
    · rw [bI_t hb, h1 i hi, decide_eq_false h0]
    · rw [bI_f hb, b_0]
theorem bit_mask {f : Nat → Bool} {n m : Nat} (hn : n ≤ 32) (hm : m < n) (hm2 : m < 31) : (xMask f n >>> (nI m &&& 31)) &&& 1 = bI (f m = true) := by
  rw [bit_bt _ hm2, xMask_bt f n hn m (by omega), decide_eq_true hm, Bool.true_and]
theorem xBit_bt (x : Int32) {m : Nat} (hm : m < 31) : (xBit x m ↔ bt x m = true) := by
  show _ = (1 : Int32) ↔ _
  rw [bit_bt x hm, bI_eq1]
theorem s_J7_fill_53178 {d : Nat} (hd : 1 ≤ d) (σ : gS) (q n : Nat) (v : Int32) (hq : gShape q = some (.inr (.inl (0, n)))) (hn : n < 2147483648) : gC d 203 [.ref q, .int v] σ (fun r τ => r = none ∧ (∀ p, p ≠ q → τ p = σ p) ∧ (∀ j, j < n → τ q j = v) ∧ ∀ j, n ≤ j → τ q j = σ q j) := by
  obtain ⟨d, rfl⟩ : ∃ k, d = k + 1 := ⟨d - 1, by omega⟩
  refine gC.of (P := pJ7_fill_53178) (nL := 4) (rt := none) (lv := [some (.ref q), some (.int v), none, none]) (by decide +kernel) rfl rfl rfl (by simp [gEnt, Value.category]) rfl ?_
  refine gR.steps 3 (σ, (3, [some (.ref q), some (.int v), some (.int 0), none], [.ref q])) rfl ?_
  refine gR.alenq rfl hq ?_
  show gR _ _ _ σ (4, [some (.ref q), some (.int v), some (.int 0), none], [.int (Int32.ofNat n)])
  refine gR.steps 1 (σ, (5, [some (.ref q), some (.int v), some (.int 0), some (.int (Int32.ofNat n))], [])) rfl ?_
  refine gR.forget [some (.ref q), some (.int v), some (.int 0), some (.int (Int32.ofNat n))] ⟨rfl, ⟨rfl, ⟨rfl, ⟨rfl, trivial⟩⟩⟩⟩ ?_
  refine gR.loop (α := Nat × gS) (fun ⟨i, τ⟩ => i ≤ n ∧ (∀ p, p ≠ q → τ p = σ p) ∧ (∀ j, j < i → τ q j = v) ∧ ∀ j, i ≤ j → τ q j = σ q j) (fun ⟨i, τ⟩ => n - i) (fun ⟨i, τ⟩ => (τ, (5, [some (.ref q), some (.int v), some (.int (nI i)), some (.int (Int32.ofNat n))], []))) ?_ ⟨0, σ⟩ ⟨Nat.zero_le n, fun _ _ => rfl, fun j hj => absurd hj (Nat.not_lt_zero j), fun _ _ => rfl⟩
  rintro ⟨i, τ⟩ ⟨hi, h1, h2, h3⟩ ih
  show gR _ _ _ τ (5, [some (.ref q), some (.int v), some (.int (nI i)), some (.int (Int32.ofNat n))], [])
  refine gR.steps 2 (τ, (7, [some (.ref q), some (.int v), some (.int (nI i)), some (.int (Int32.ofNat n))], [.int (Int32.ofNat n), .int (nI i)])) rfl ?_
  refine gR.ifte rfl (fun zc7 => ?_) (fun zc7 => ?_)
  · rw [gN_le (x := Int32.ofNat n) (y := nI i) (a := n) (b := i) rfl rfl (by omega) (by omega)] at zc7
    refine gR.ret rfl ?_
    exact ⟨trivial, rfl, h1, fun j hj => h2 j (by omega), fun j hj => h3 j (by omega)⟩
  · rw [gN_le (x := Int32.ofNat n) (y := nI i) (a := n) (b := i) rfl rfl (by omega) (by omega)] at zc7
    refine gR.steps 3 (τ, (13, [some (.ref q), some (.int v), some (.int (nI i)), some (.int (Int32.ofNat n))], [.int v, .int (nI i), .ref q])) rfl ?_
    refine gR.astq (i := nI i) (j := i) rfl hq rfl (by omega) (by omega) ?_
    show gR _ _ _ (gUp τ q i v) (14, [some (.ref q), some (.int v), some (.int (nI i)), some (.int (Int32.ofNat n))], [])
    refine gR.steps 2 (gUp τ q i v, (5, [some (.ref q), some (.int v), some (.int ((nI i) + 1)), some (.int (Int32.ofNat n))], [])) rfl ?_
    refine gR.forget [some (.ref q), some (.int v), some (.int (nI (i + 1))), some (.int (Int32.ofNat n))] ⟨rfl, ⟨rfl, ⟨gSomeI (gN_add rfl rfl), ⟨rfl, trivial⟩⟩⟩⟩ ?_
    have hzz := ih ⟨i + 1, (gUp τ q i v)⟩ ⟨by omega, fun p hp => by rw [gUp_ne hp]; exact h1 p hp, lt_s (fun j hj => by rw [gUp_o (by omega)]; exact h2 j hj) (gUp_s _ _ _ _), fun j hj => by rw [gUp_o (by omega)]; exact h3 j (by omega)⟩ (by dsimp only; omega)
    exact hzz
