/-! rules for walks in the pure machine, numbers as naturals (nI) -/
def bI (p : Prop) [Decidable p] : Int32 := if p then 1 else 0
theorem bI_t {p : Prop} [Decidable p] (h : p) : bI p = 1 := if_pos h
theorem bI_f {p : Prop} [Decidable p] (h : ¬ p) : bI p = 0 := if_neg h
theorem bI_01 (p : Prop) [Decidable p] : bI p = 0 ∨ bI p = 1 := by
  by_cases h : p
  · exact Or.inr (bI_t h)
  · exact Or.inl (bI_f h)
theorem bI_eq0 {p : Prop} [Decidable p] : bI p = 0 ↔ ¬ p := by
  by_cases h : p
  · rw [bI_t h]; exact ⟨fun z => absurd z (by decide), fun z => absurd h z⟩
  · rw [bI_f h]; exact ⟨fun _ => h, fun _ => rfl⟩
theorem bI_ne0 {p : Prop} [Decidable p] : ¬ bI p = 0 ↔ p := by
  rw [bI_eq0]; exact Decidable.not_not
theorem bI_eq1 {p : Prop} [Decidable p] : bI p = 1 ↔ p := by
  by_cases h : p
  · rw [bI_t h]; exact ⟨fun _ => h, fun _ => rfl⟩
  · rw [bI_f h]; exact ⟨fun z => absurd z (by decide), fun z => absurd z h⟩
theorem bI_congr {p q : Prop} [Decidable p] [Decidable q] (h : p ↔ q) : bI p = bI q := by
  by_cases hp : p
  · rw [bI_t hp, bI_t (h.mp hp)]
  · rw [bI_f hp, bI_f (fun z => hp (h.mpr z))]
theorem bI_ret (p : Prop) [Decidable p] : gRetOk (some .boolean) (some (.int (bI p))) := bI_01 p
theorem gN_add {x y : Int32} {a b : Nat} (p : x = nI a) (q : y = nI b) : x + y = nI (a + b) := by rw [p, q]; exact nI_add a b
theorem gN_mul {x y : Int32} {a b : Nat} (p : x = nI a) (q : y = nI b) : x * y = nI (a * b) := by rw [p, q]; exact pk_mul a b
theorem gN_sub {x y : Int32} {a b : Nat} (p : x = nI a) (q : y = nI b) (h : b ≤ a) : x - y = nI (a - b) := by rw [p, q]; exact pk_sub h
theorem gN_div {x y : Int32} {a b : Nat} (p : x = nI a) (q : y = nI b) (ha : a < 2147483648) (h0 : 0 < b) (hb : b < 2147483648) : x / y = nI (a / b) := by rw [p, q]; exact pk_div ha h0 hb
theorem gN_rem {x y : Int32} {a b : Nat} (p : x = nI a) (q : y = nI b) (ha : a < 2147483648) (h0 : 0 < b) (hb : b < 2147483648) : x - x / y * y = nI (a % b) := by rw [p, q]; exact pk_rem ha h0 hb
theorem gN_le {x y : Int32} {a b : Nat} (p : x = nI a) (q : y = nI b) (ha : a < 2147483648) (hb : b < 2147483648) : (x ≤ y ↔ a ≤ b) := by rw [p, q]; exact nI_leI ha hb
theorem gN_lt {x y : Int32} {a b : Nat} (p : x = nI a) (q : y = nI b) (ha : a < 2147483648) (hb : b < 2147483648) : (x < y ↔ a < b) := by rw [p, q]; exact nI_ltI ha hb
theorem gN_eq {x y : Int32} {a b : Nat} (p : x = nI a) (q : y = nI b) (ha : a < 2147483648) (hb : b < 2147483648) : (x = y ↔ a = b) := by rw [p, q]; exact nI_eq ha hb
theorem gN_cl {x : Int32} {a : Nat} (p : x = nI a) (ha : a < 2147483648) : x.toNatClampNeg = a := by rw [p]; exact nI_clamp ha
theorem gN_in {x : Int32} {a n : Nat} (p : x = nI a) (h : a < n) (hn : n < 2147483648) : gIn x n = true := by rw [p]; exact gIn_of (vp_in_nI h hn)
theorem gN_toInt {x : Int32} {a : Nat} (p : x = nI a) (ha : a < 2147483648) : x.toInt = a := by rw [p]; exact nI_toInt ha
theorem gN_ne {x y : Int32} {a b : Nat} (p : x = nI a) (q : y = nI b) (ha : a < 2147483648) (hb : b < 2147483648) (h : a ≠ b) : ¬ x = y := fun z => h ((gN_eq p q ha hb).mp z)
theorem gN_of {x : Int32} {n : Nat} (h0 : 0 ≤ x.toInt) (h1 : x.toInt < n) (hn : n ≤ 2147483648) : ∃ j : Nat, j < n ∧ x = nI j := by
  refine ⟨x.toInt.toNat, by omega, ?_⟩
  apply Int32.toInt_inj.mp
  rw [nI_toInt (by omega)]
  omega
section GR2
variable {P : gProg} {E : gE} {Fin : Option Value → gS → Prop} {σ σ1 σ2 : gS} {f f1 f2 : gF}
theorem gR.ifte {p : Prop} {ip : Decidable p} (h : gStep P σ f = some (.inl (@decide p ip, (σ1, f1), some (σ2, f2)))) (h1 : p → gR P E Fin σ1 f1) (h2 : ¬ p → gR P E Fin σ2 f2) : gR P E Fin σ f :=
  gR.br h (fun z => h1 (of_decide_eq_true z)) (fun z => h2 (of_decide_eq_false z))
theorem gR.brT {p : Prop} {ip : Decidable p} {o : Option (gS × gF)} (h : gStep P σ f = some (.inl (@decide p ip, (σ1, f1), o))) (hp : p) (h1 : gR P E Fin σ1 f1) : gR P E Fin σ f :=
  gR.chk h (decide_eq_true hp) h1
theorem gR.brF {p : Prop} {ip : Decidable p} (h : gStep P σ f = some (.inl (@decide p ip, (σ1, f1), some (σ2, f2)))) (hp : ¬ p) (h2 : gR P E Fin σ2 f2) : gR P E Fin σ f :=
  gR.br h (fun z => absurd (of_decide_eq_true z) hp) (fun _ => h2)
theorem gR.ald {i : Int32} {j N : Nat} {g : Nat → Int32} {pc : Nat} {lv : gL} {st : List Value} {o : Option (gS × gF)} (h : gStep P σ f = some (.inl (gIn i N, (σ, (pc, lv, .int (g i.toNatClampNeg) :: st)), o))) (p : i = nI j) (hj : j < N) (hN : N < 2147483648) (hn : gR P E Fin σ (pc, lv, .int (g j) :: st)) : gR P E Fin σ f :=
  gR.chk h (gN_in p hj hN) (by rw [gN_cl p (by omega)]; exact hn)
theorem gR.ast {i x : Int32} {q j N : Nat} {pc : Nat} {lv : gL} {st : List Value} {o : Option (gS × gF)} (h : gStep P σ f = some (.inl (gIn i N, (gUp σ q i.toNatClampNeg x, (pc, lv, st)), o))) (p : i = nI j) (hj : j < N) (hN : N < 2147483648) (hn : gR P E Fin (gUp σ q j x) (pc, lv, st)) : gR P E Fin σ f :=
  gR.chk h (gN_in p hj hN) (by rw [gN_cl p (by omega)]; exact hn)
theorem gR.zst {i x : Int32} {q j N : Nat} {pc : Nat} {lv : gL} {st : List Value} {o : Option (gS × gF)} (h : gStep P σ f = some (.inl (gIn i N && (decide (x = 0) || decide (x = 1)), (gUp σ q i.toNatClampNeg x, (pc, lv, st)), o))) (p : i = nI j) (hj : j < N) (hN : N < 2147483648) (hx : x = 0 ∨ x = 1) (hn : gR P E Fin (gUp σ q j x) (pc, lv, st)) : gR P E Fin σ f :=
  gR.chk h (by rw [gN_in p hj hN]; rcases hx with rfl | rfl <;> rfl) (by rw [gN_cl p (by omega)]; exact hn)
theorem gR.putz {x : Int32} {o : Option (gS × gF)} (h : gStep P σ f = some (.inl (decide (x = 0) || decide (x = 1), (σ1, f1), o))) (hx : x = 0 ∨ x = 1) (hn : gR P E Fin σ1 f1) : gR P E Fin σ f :=
  gR.chk h (by rcases hx with rfl | rfl <;> rfl) hn
theorem gR.castF {f' : gF} (h : f = f') (hn : gR P E Fin σ f') : gR P E Fin σ f := h ▸ hn
theorem gR.topI {x y : Int32} {pc : Nat} {lv : gL} {st : List Value} (h : x = y) (hn : gR P E Fin σ (pc, lv, .int y :: st)) : gR P E Fin σ (pc, lv, .int x :: st) := h ▸ hn
theorem gR.mono {Fin' : Option Value → gS → Prop} (h : gR P E Fin σ f) (hm : ∀ v τ, Fin v τ → Fin' v τ) : gR P E Fin' σ f := by
  obtain ⟨n, h⟩ := h
  have key : ∀ (n : Nat) (σ : gS) (f : gF), gRn P E Fin n σ f → gRn P E Fin' n σ f := by
    intro n
    induction n with
    | zero => intro σ f h; exact h
    | succ n ih =>
      intro σ f h
      rcases h with ⟨lv', a, b⟩ | h
      · exact Or.inl ⟨lv', a, ih _ _ b⟩
      · exact Or.inr (gNext_mono ih hm h)
  exact ⟨n, key n σ f h⟩
end GR2
theorem gUp_s (σ : gS) (q k : Nat) (v : Int32) : gUp σ q k v q k = v := by simp [gUp, upd]
theorem gUp_o {σ : gS} {q k q' k' : Nat} {v : Int32} (h : ¬ (q' = q ∧ k' = k)) : gUp σ q k v q' k' = σ q' k' := by
  unfold gUp
  by_cases hq : q' = q
  · subst hq
    rw [if_pos rfl]
    unfold upd
    rw [if_neg (fun z => h ⟨rfl, z⟩)]
  · rw [if_neg hq]
theorem gUp_app (σ : gS) (q k q' k' : Nat) (v : Int32) : gUp σ q k v q' k' = if q' = q ∧ k' = k then v else σ q' k' := by
  by_cases h : q' = q ∧ k' = k
  · rw [if_pos h, h.1, h.2, gUp_s]
  · rw [if_neg h, gUp_o h]
theorem gSomeI {x y : Int32} (h : x = y) : some (Value.int x) = some (Value.int y) := by rw [h]
theorem gSomeL {x y : Int64} (h : x = y) : some (Value.long x) = some (Value.long y) := by rw [h]
/-- a loop: an invariant, and a measure that falls -/
theorem gR.loop {P : gProg} {E : gE} {Fin : Option Value → gS → Prop} {α : Type} (I : α → Prop) (μ : α → Nat) (F : α → gS × gF) (h : ∀ a, I a → (∀ b, I b → μ b < μ a → gR P E Fin (F b).1 (F b).2) → gR P E Fin (F a).1 (F a).2) (a : α) (ha : I a) : gR P E Fin (F a).1 (F a).2 := by
  have key : ∀ (n : Nat) (a : α), μ a < n → I a → gR P E Fin (F a).1 (F a).2 := by
    intro n
    induction n with
    | zero => intro a hn; exact absurd hn (Nat.not_lt_zero _)
    | succ n ih => intro a hn ha; exact h a ha (fun b hb hlt => ih b (by omega) hb)
  exact key (μ a + 1) a (Nat.lt_succ_self _) ha
/-- a switch with a known target -/
theorem gR.sw {P : gProg} {E : gE} {Fin : Option Value → gS → Prop} {σ σ1 : gS} {f : gF} {u t : Nat} {lv : gL} {st : List Value} {o : Option (gS × gF)} (h : gStep P σ f = some (.inl (true, (σ1, (u, lv, st)), o))) (hu : u = t) (hn : gR P E Fin σ1 (t, lv, st)) : gR P E Fin σ f := by
  subst hu
  exact gR.go h hn
-- loops of naturals
def xAny (f : Nat → Bool) : Nat → Bool
  | 0 => false
  | n + 1 => xAny f n || f n
theorem xAny_iff (f : Nat → Bool) : ∀ n, xAny f n = true ↔ ∃ i, i < n ∧ f i = true
  | 0 => by simp [xAny]
  | n + 1 => by
    simp only [xAny, Bool.or_eq_true, xAny_iff f n]
    constructor
    · rintro (⟨i, h1, h2⟩ | h)
      · exact ⟨i, by omega, h2⟩
      · exact ⟨n, by omega, h⟩
    · rintro ⟨i, h1, h2⟩
      by_cases hi : i = n
      · subst hi; exact Or.inr h2
      · exact Or.inl ⟨i, by omega, h2⟩
theorem xAny_congr {f g : Nat → Bool} : ∀ {n : Nat}, (∀ i, i < n → f i = g i) → xAny f n = xAny g n
  | 0, _ => rfl
  | n + 1, h => by simp only [xAny, xAny_congr (n := n) (fun i hi => h i (by omega)), h n (by omega)]
def xSum (f : Nat → Nat) : Nat → Nat
  | 0 => 0
  | n + 1 => xSum f n + f n
theorem xSum_congr {f g : Nat → Nat} : ∀ {n : Nat}, (∀ i, i < n → f i = g i) → xSum f n = xSum g n
  | 0, _ => rfl
  | n + 1, h => by simp only [xSum, xSum_congr (n := n) (fun i hi => h i (by omega)), h n (by omega)]
theorem xSum_le {f : Nat → Nat} {b : Nat} : ∀ {n : Nat}, (∀ i, i < n → f i ≤ b) → xSum f n ≤ n * b
  | 0, _ => by simp [xSum]
  | n + 1, h => by
    have h1 := xSum_le (n := n) (fun i hi => h i (by omega))
    have h2 := h n (by omega)
    simp only [xSum]
    rw [Nat.succ_mul]
    omega
theorem gR.callp {P : gProg} {d mid : Nat} {as : List Value} {Fin : Option Value → gS → Prop} {σ : gS} {f f1 : gF} {x : Value} (h : gStep P σ f = some (.inr (.inl (mid, as, f1)))) (he : gC d mid as σ (fun r τ => r = some x ∧ τ = σ)) (hn : gR P (gEV gPT d) Fin σ (f1.1, f1.2.1, x :: f1.2.2)) : gR P (gEV gPT d) Fin σ f :=
  gR.call' h he (by rintro v τ ⟨rfl, h2⟩; rw [h2]; exact hn)
theorem gR.join {P : gProg} {E : gE} {Fin : Option Value → gS → Prop} {σ : gS} {f : gF} {α : Type} (σ' : gS) (F : α → gF) (x : α) (h1 : gR P E Fin σ' (F x)) (h2 : (∀ v, v = x → gR P E Fin σ' (F v)) → gR P E Fin σ f) : gR P E Fin σ f := h2 (fun v hv => by subst hv; exact h1)
