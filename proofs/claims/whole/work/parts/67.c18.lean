theorem lack_0 {H : xShe} {s : Nat} {f i : Int32} (h : xLack H s f i = 0) : ¬ shF H s = -1 ∧ shF H s = f ∧ 0 ≤ i.toInt ∧ i.toInt < shZ H s := by
  unfold xLack at h
  split at h
  · omega
  next h1 =>
    split at h
    · omega
    next h2 =>
      split at h
      next h3 => exact ⟨h1, Decidable.not_not.mp h2, h3⟩
      · omega
theorem f3_of {f : Nat} (h : f < 3) : nI f = -1 ∨ nI f = 0 ∨ nI f = 1 ∨ nI f = 2 := by
  rcases (show f = 0 ∨ f = 1 ∨ f = 2 by omega) with rfl | rfl | rfl
  · exact Or.inr (Or.inl rfl)
  · exact Or.inr (Or.inr (Or.inl rfl))
  · exact Or.inr (Or.inr (Or.inr rfl))
theorem cSh_new {σ τ : gS} {H : xShe} {s f n : Nat} (h : cSh σ H) (hf : f < 3) (hn : n ≤ 60) (h1 : ∀ p, p ≠ 70 + s → p ≠ 74 + s → τ p = σ p) (hs : s < 4) (e1 : τ (70 + s) 1 = nI f) (e2 : τ (70 + s) 2 = nI n) (e3 : ∀ j, j < 60 → τ (74 + s) j = 0) : cSh τ (shNew H s (nI f) n) := by
  refine cSh_one (s := s) h (fun t ht e => ⟨h1 _ (by omega) (by omega), h1 _ (by omega) (by omega)⟩) (fun t e => ?_) ?_
  · simp only [shNew, shF, shZ, shI, if_neg e, and_self]
  · unfold cS1
    simp only [shNew, shF, shZ, shI, if_true]
    exact ⟨e1, f3_of hf, hn, ⟨n, e2, hn⟩, fun _ => ⟨e2, fun i hi => e3 i (by omega)⟩⟩
theorem cSh_lose {σ : gS} {H : xShe} {s : Nat} (h : cSh σ H) (hs : s < 4) : cSh (gUp (gUp σ (70 + s) 1 (-1)) (70 + s) 2 0) (shLose H s) := by
  refine cSh_one (s := s) h (fun t ht e => ⟨by rw [gUp_ne (by omega), gUp_ne (by omega)], by rw [gUp_ne (by omega), gUp_ne (by omega)]⟩) (fun t e => ?_) ?_
  · simp only [shLose, shF, shZ, shI, if_neg e, and_self]
  · have h3 := (h s hs).2.2.1
    unfold cS1
    simp only [shLose, shF, shZ, shI, if_true]
    exact ⟨by rw [gUp_o (by omega), gUp_s], Or.inl trivial, h3, ⟨0, gUp_s _ _ _ _, by omega⟩, fun z => absurd trivial z⟩
theorem cSh_put {σ : gS} {H : xShe} {s i : Nat} {v : Int32} (h : cSh σ H) (hs : s < 4) : cSh (gUp σ (74 + s) i v) (shPut H s i v) := by
  refine cSh_one (s := s) h (fun t ht e => ⟨gUp_ne (by omega), gUp_ne (by omega)⟩) (fun t e => ?_) ?_
  · simp only [shPut, shF, shZ, shI, if_neg e, and_self]
  · obtain ⟨a1, a2, a3, a4, a5⟩ := h s hs
    unfold cS1
    simp only [shPut, shF, shZ, shI, if_true]
    rw [gUp_ne (show 70 + s ≠ 74 + s by omega)]
    refine ⟨a1, a2, a3, a4, fun z => ⟨(a5 z).1, fun j hj => ?_⟩⟩
    unfold upd
    by_cases e : j = i
    · rw [if_pos e, e, gUp_s]
    · rw [if_neg e, gUp_o (by omega)]; exact (a5 z).2 j hj
theorem cSh_move {σ : gS} {H : xShe} {s t i j n : Nat} (h : cSh σ H) (hs : s < 4) (ht : t < 4) (hz : ¬ shF H s = -1) (h1 : i + n ≤ shZ H s) : cSh (gUpA σ (74 + t) (va_cpy (σ (74 + s)) (σ (74 + t)) i j n)) (shMove H s i t j n) := by
  refine cSh_one (s := t) h (fun u hu e => ⟨gUpA_ne (by omega), gUpA_ne (by omega)⟩) (fun u e => ?_) ?_
  · simp only [shMove, shF, shZ, shI, if_neg e, and_self]
  · obtain ⟨a1, a2, a3, a4, a5⟩ := h t ht
    obtain ⟨b1, b2, b3, b4, b5⟩ := h s hs
    unfold cS1
    simp only [shMove, shF, shZ, shI, if_true]
    rw [gUpA_ne (show 70 + t ≠ 74 + t by omega), gUpA_eq]
    refine ⟨a1, a2, a3, a4, fun z => ⟨(a5 z).1, fun x hx => ?_⟩⟩
    show (if j ≤ x ∧ x < j + n then _ else _) = _
    by_cases e : j ≤ x ∧ x < j + n
    · rw [if_pos e, if_pos e]; exact (b5 hz).2 _ (by have : shZ H s = H.2.1 s := rfl; omega)
    · rw [if_neg e, if_neg e]; exact (a5 z).2 x hx
section GC2
variable {P : gProg} {E : gE} {Fin : Option Value → gS → Prop} {σ : gS} {lv : gL} {st : List Value} {pc : Nat}
theorem gR.copyq {a b n0 n1 x y k : Nat} (hf : gFind P pc = some sCopy) (ha : gShape a = some (.inr (.inl (0, n0)))) (hb : gShape b = some (.inr (.inl (0, n1)))) (hx : x + k ≤ n0) (hy : y + k ≤ n1) (h0 : n0 < 2147483648) (h1 : n1 < 2147483648) (hc : Nat.ble (gCats st) 8 = true) (hn : gR P E Fin (gUpA σ b (va_cpy (σ a) (σ b) x y k)) (pc + 3, lv, st)) : gR P E Fin σ (pc, lv, .int (nI k) :: .int (nI y) :: .ref b :: .int (nI x) :: .ref a :: st) := by
  have nx : ∀ z, z < 2147483648 → ¬ nI z < 0 := fun z hz q => by
    rw [Int32.lt_iff_toInt_lt, nI_toInt hz, Int32.toInt_zero] at q; omega
  have cx := nI_clamp (n := x) (by omega)
  have cy := nI_clamp (n := y) (by omega)
  have ck := nI_clamp (n := k) (by omega)
  refine gR.chk (b := !decide (nI x < 0) && !decide (nI y < 0) && !decide (nI k < 0) && decide ((nI x).toNatClampNeg + (nI k).toNatClampNeg ≤ n0) && decide ((nI y).toNatClampNeg + (nI k).toNatClampNeg ≤ n1)) (o := none) (σ1 := gUpA σ b (va_cpy (σ a) (σ b) (nI x).toNatClampNeg (nI y).toNatClampNeg (nI k).toNatClampNeg)) (f1 := (pc + 3, lv, st)) ?_ ?_ ?_
  · unfold gStep
    simp only [hf, sCopy, ha, hb, hc, cond_true]
    rfl
  · rw [cx, cy, ck, decide_eq_false (nx x (by omega)), decide_eq_false (nx y (by omega)), decide_eq_false (nx k (by omega)), decide_eq_true hx, decide_eq_true hy]; rfl
  · rw [cx, cy, ck]; exact hn
end GC2
theorem s_X10_sheet {d : Nat} (hd : 3 ≤ d) (σ : gS) (H : xShe) (l : Nat) (s f n : Int32) (hs : cSh σ H) (hl : cLa σ l) : gC d 71 [.ref 18, .int s, .int f, .int n] σ (fun r τ => r = some (.int (aSheet s f n)) ∧ cShF σ τ ∧ cSh τ (sSheet H s f n) ∧ cLa τ (lSheet l s f n)) := by
  obtain ⟨d, rfl⟩ : ∃ k, d = k + 1 := ⟨d - 1, by omega⟩
  refine gC.of (P := pX10_sheet) (nL := 4) (rt := (some (.int))) (lv := [some (.ref 18), some (.int s), some (.int f), some (.int n)]) (by decide +kernel) rfl rfl rfl (by simp [gEnt, Value.category]) rfl ?_
  refine gR.steps 1 (σ, (1, [some (.ref 18), some (.int s), some (.int f), some (.int n)], [.int s])) rfl ?_
  refine gR.callp rfl (s_X10_isSheet (by omega) σ s) ?_
  refine gR.ifte rfl (fun zc4 => ?_) (fun zc4 => ?_)
  · rw [bI_eq0] at zc4
    refine gR.steps 1 (σ, (22, [some (.ref 18), some (.int s), some (.int f), some (.int n)], [.int (-2)])) rfl ?_
    show gR _ _ _ σ (22, [some (.ref 18), some (.int s), some (.int f), some (.int n)], [.int (-2)])
    refine gR.ret rfl ?_
    exact ⟨trivial, by rw [show aSheet s f n = -2 from if_neg (by omega)], cShF.rf σ, by rw [show sSheet H s f n = H from if_neg (by omega)]; exact hs, by rw [show lSheet l s f n = l from if_neg (by omega)]; exact hl⟩
  · rw [bI_eq0, Decidable.not_not] at zc4
    obtain ⟨ss, hss, rfl⟩ := gN_of (x := s) (n := 4) (by omega) (by omega) (by omega)
    refine gR.steps 1 (σ, (8, [some (.ref 18), some (.int (nI ss)), some (.int f), some (.int n)], [.int f])) rfl ?_
    refine gR.callp rfl (s_X10_isForm (by omega) σ f) ?_
    refine gR.ifte rfl (fun zc11 => ?_) (fun zc11 => ?_)
    · rw [bI_eq0] at zc11
      refine gR.steps 1 (σ, (22, [some (.ref 18), some (.int (nI ss)), some (.int f), some (.int n)], [.int (-2)])) rfl ?_
      show gR _ _ _ σ (22, [some (.ref 18), some (.int (nI ss)), some (.int f), some (.int n)], [.int (-2)])
      refine gR.ret rfl ?_
      exact ⟨trivial, by rw [show aSheet (nI ss) f n = -2 from if_neg (by omega)], cShF.rf σ, by rw [show sSheet H (nI ss) f n = H from if_neg (by omega)]; exact hs, by rw [show lSheet l (nI ss) f n = l from if_neg (by omega)]; exact hl⟩
    · rw [bI_eq0, Decidable.not_not] at zc11
      obtain ⟨ff, hff, rfl⟩ := gN_of (x := f) (n := 3) (by omega) (by omega) (by omega)
      refine gR.steps 2 (σ, (17, [some (.ref 18), some (.int (nI ss)), some (.int (nI ff)), some (.int n)], [.int 60, .int n])) rfl ?_
      refine gR.ifte rfl (fun zc17 => ?_) (fun zc17 => ?_)
      · rw [Int32.le_iff_toInt_le, show (60 : Int32).toInt = 60 from by decide] at zc17
        refine gR.steps 1 (σ, (24, [some (.ref 18), some (.int (nI ss)), some (.int (nI ff)), some (.int n)], [.int n])) rfl ?_
        refine gR.ifte rfl (fun zc24 => ?_) (fun zc24 => ?_)
        · rw [Int32.le_iff_toInt_le, Int32.toInt_zero] at zc24
          obtain ⟨nn, hnn, rfl⟩ := gN_of (x := n) (n := 61) zc24 (by omega) (by omega)
          refine gR.steps 3 (σ, (38, [some (.ref 18), some (.int (nI ss)), some (.int (nI ff)), some (.int (nI nn))], [.int (nI ss), .ref 42])) rfl ?_
          refine gR.chk (b := gIn (nI ss) 4) rfl (gN_in rfl (by omega) (by omega)) ?_
          rw [gN_cl rfl (by omega)]
          refine gR.steps 2 (σ, (41, [some (.ref 18), some (.int (nI ss)), some (.int (nI ff)), some (.int (nI nn))], [.int (nI nn), .int (nI ff), .ref (70 + ss)])) rfl ?_
          refine gR.call' (gStep_callV rfl rfl (gSh_sheet (j := ss) (by omega)) rfl) (s_X8_renew (by omega) σ ss (nI ff) (nI nn) hss) ?_
          rintro _ τ ⟨rfl, hF, h1, h2, h3⟩
          show gR _ _ _ τ (44, [some (.ref 18), some (.int (nI ss)), some (.int (nI ff)), some (.int (nI nn))], [])
          refine gR.steps 1 (τ, (45, [some (.ref 18), some (.int (nI ss)), some (.int (nI ff)), some (.int (nI nn))], [.int (nI nn)])) rfl ?_
          show gR _ _ _ τ (45, [some (.ref 18), some (.int (nI ss)), some (.int (nI ff)), some (.int (nI nn))], [.int (nI nn)])
          refine gR.ret rfl ?_
          refine ⟨trivial, ?_, ⟨fun p a b => hF p (by omega) (by omega), fun s a => by rw [hF 18 (by omega) (by omega)]⟩, ?_, ?_⟩
          · rw [show aSheet (nI ss) (nI ff) (nI nn) = _ from if_pos ⟨zc4, zc11, zc17⟩, if_neg (by omega)]
          · rw [show sSheet H (nI ss) (nI ff) (nI nn) = _ from if_pos ⟨⟨zc4, zc11, zc17⟩, by omega⟩, nI_clamp (by omega), nI_clamp (by omega)]; exact cSh_new hs hff (by omega) hF hss h1 h2 h3
          · rw [show lSheet l (nI ss) (nI ff) (nI nn) = l from if_neg (by omega)]; show τ 18 12 = nI l; rw [hF 18 (by omega) (by omega)]; exact hl
        · rw [Int32.le_iff_toInt_le, Int32.toInt_zero] at zc24
          refine gR.steps 2 (σ, (29, [some (.ref 18), some (.int (nI ss)), some (.int (nI ff)), some (.int n)], [.int 5, .ref 18])) rfl ?_
          refine gR.call' rfl (s_X10_finding (by omega) σ 5) ?_
          rintro _ _ ⟨rfl, rfl⟩ 
          show gR _ _ _ (gUp σ 18 12 (nI 5)) (32, [some (.ref 18), some (.int (nI ss)), some (.int (nI ff)), some (.int n)], [.int (xFi 5)])
          show gR _ _ _ (gUp σ 18 12 (nI 5)) (32, [some (.ref 18), some (.int (nI ss)), some (.int (nI ff)), some (.int n)], [.int (xFi 5)])
          refine gR.ret rfl ?_
          exact ⟨trivial, by rw [show aSheet (nI ss) (nI ff) n = _ from if_pos ⟨zc4, zc11, zc17⟩, if_pos (by omega)], cShF_fi σ _, by rw [show sSheet H (nI ss) (nI ff) n = H from if_neg (by omega)]; exact cSh_fi hs, by rw [show lSheet l (nI ss) (nI ff) n = 5 from if_pos ⟨⟨zc4, zc11, zc17⟩, by omega⟩]; exact gUp_s _ _ _ _⟩
      · rw [Int32.le_iff_toInt_le, show (60 : Int32).toInt = 60 from by decide] at zc17
        refine gR.steps 1 (σ, (22, [some (.ref 18), some (.int (nI ss)), some (.int (nI ff)), some (.int n)], [.int (-2)])) rfl ?_
        show gR _ _ _ σ (22, [some (.ref 18), some (.int (nI ss)), some (.int (nI ff)), some (.int n)], [.int (-2)])
        refine gR.ret rfl ?_
        exact ⟨trivial, by rw [show aSheet (nI ss) (nI ff) n = -2 from if_neg (by omega)], cShF.rf σ, by rw [show sSheet H (nI ss) (nI ff) n = H from if_neg (by omega)]; exact hs, by rw [show lSheet l (nI ss) (nI ff) n = l from if_neg (by omega)]; exact hl⟩
theorem s_X10_lose {d : Nat} (hd : 3 ≤ d) (σ : gS) (H : xShe) (l : Nat) (s : Int32) (hs : cSh σ H) (hl : cLa σ l) : gC d 72 [.ref 18, .int s] σ (fun r τ => r = some (.int (aLose H s)) ∧ cShF σ τ ∧ cSh τ (sLose H s) ∧ cLa τ (lLose H l s)) := by
  obtain ⟨d, rfl⟩ : ∃ k, d = k + 1 := ⟨d - 1, by omega⟩
  refine gC.of (P := pX10_lose) (nL := 2) (rt := (some (.int))) (lv := [some (.ref 18), some (.int s)]) (by decide +kernel) rfl rfl rfl (by simp [gEnt, Value.category]) rfl ?_
  refine gR.steps 1 (σ, (1, [some (.ref 18), some (.int s)], [.int s])) rfl ?_
  refine gR.callp rfl (s_X10_isSheet (by omega) σ s) ?_
  refine gR.ifte rfl (fun zc4 => ?_) (fun zc4 => ?_)
  · rw [bI_ne0] at zc4
    obtain ⟨ss, hss, rfl⟩ := gN_of (x := s) (n := 4) (by omega) (by omega) (by omega)
    refine gR.steps 3 (σ, (15, [some (.ref 18), some (.int (nI ss))], [.int (nI ss), .ref 42])) rfl ?_
    refine gR.chk (b := gIn (nI ss) 4) rfl (gN_in rfl (by omega) (by omega)) ?_
    rw [gN_cl rfl (by omega)]
    refine gR.callp (x := .int (bI (shF H ss = -1))) (gStep_callV rfl rfl (gSh_sheet (j := ss) (by omega)) rfl) (by have := s_X8_isLost (d := d) (by omega) σ ss hss; rw [(hs ss hss).1] at this; exact this) ?_
    refine gR.ifte rfl (fun zc19 => ?_) (fun zc19 => ?_)
    · rw [bI_eq0] at zc19
      refine gR.steps 3 (σ, (33, [some (.ref 18), some (.int (nI ss))], [.int (nI ss), .ref 42])) rfl ?_
      refine gR.chk (b := gIn (nI ss) 4) rfl (gN_in rfl (by omega) (by omega)) ?_
      rw [gN_cl rfl (by omega)]
      refine gR.call' (gStep_callV rfl rfl (gSh_sheet (j := ss) (by omega)) rfl) (s_X8_discard (by omega) σ ss hss) ?_
      rintro _ _ ⟨rfl, rfl⟩ 
      show gR _ _ _ (gUp (gUp σ (70 + ss) 1 (-1)) (70 + ss) 2 0) (37, [some (.ref 18), some (.int (nI ss))], [.int (σ (70 + ss) 2)])
      show gR _ _ _ (gUp (gUp σ (70 + ss) 1 (-1)) (70 + ss) 2 0) (37, [some (.ref 18), some (.int (nI ss))], [.int (σ (70 + ss) 2)])
      refine gR.ret rfl ?_
      have hc : (nI ss).toNatClampNeg = ss := nI_clamp (by omega)
      refine ⟨trivial, ?_, ⟨fun p a b => by rw [gUp_ne (by omega), gUp_ne (by omega)], fun s a => by rw [gUp_ne (by omega), gUp_ne (by omega)]⟩, ?_, ?_⟩
      · rw [show aLose H (nI ss) = _ from if_pos zc4, hc, if_neg zc19]; exact gSomeI ((hs ss hss).2.2.2.2 zc19).1
      · rw [show sLose H (nI ss) = _ from if_pos ⟨zc4, by rw [hc]; exact zc19⟩, hc]; exact cSh_lose hs hss
      · rw [show lLose H l (nI ss) = l from if_neg (by rw [hc]; exact fun z => zc19 z.2)]; show gUp (gUp σ (70 + ss) 1 (-1)) (70 + ss) 2 0 18 12 = nI l; rw [gUp_ne (by omega), gUp_ne (by omega)]; exact hl
    · rw [bI_eq0, Decidable.not_not] at zc19
      refine gR.steps 2 (σ, (24, [some (.ref 18), some (.int (nI ss))], [.int 1, .ref 18])) rfl ?_
      refine gR.call' rfl (s_X10_finding (by omega) σ 1) ?_
      rintro _ _ ⟨rfl, rfl⟩ 
      show gR _ _ _ (gUp σ 18 12 (nI 1)) (27, [some (.ref 18), some (.int (nI ss))], [.int (xFi 1)])
      show gR _ _ _ (gUp σ 18 12 (nI 1)) (27, [some (.ref 18), some (.int (nI ss))], [.int (xFi 1)])
      refine gR.ret rfl ?_
      have hc : (nI ss).toNatClampNeg = ss := nI_clamp (by omega)
      exact ⟨trivial, by rw [show aLose H (nI ss) = _ from if_pos zc4, hc, if_pos zc19], cShF_fi σ _, by rw [show sLose H (nI ss) = H from if_neg (by rw [hc]; exact fun z => z.2 zc19)]; exact cSh_fi hs, by rw [show lLose H l (nI ss) = 1 from if_pos ⟨zc4, by rw [hc]; exact zc19⟩]; exact gUp_s _ _ _ _⟩
  · rw [bI_ne0] at zc4
    refine gR.steps 1 (σ, (9, [some (.ref 18), some (.int s)], [.int (-2)])) rfl ?_
    show gR _ _ _ σ (9, [some (.ref 18), some (.int s)], [.int (-2)])
    refine gR.ret rfl ?_
    exact ⟨trivial, by rw [show aLose H s = -2 from if_neg (by omega)], cShF.rf σ, by rw [show sLose H s = H from if_neg (by omega)]; exact hs, by rw [show lLose H l s = l from if_neg (by omega)]; exact hl⟩
theorem s_X10_lay {d : Nat} (hd : 3 ≤ d) (σ : gS) (H : xShe) (l : Nat) (s f i v : Int32) (hs : cSh σ H) (hl : cLa σ l) : gC d 73 [.ref 18, .int s, .int f, .int i, .int v] σ (fun r τ => r = some (.int (aLay H s f i v)) ∧ cShF σ τ ∧ cSh τ (sLay H s f i v) ∧ cLa τ (lLay H l s f i)) := by
  obtain ⟨d, rfl⟩ : ∃ k, d = k + 1 := ⟨d - 1, by omega⟩
  refine gC.of (P := pX10_lay) (nL := 6) (rt := (some (.int))) (lv := [some (.ref 18), some (.int s), some (.int f), some (.int i), some (.int v), none]) (by decide +kernel) rfl rfl rfl (by simp [gEnt, Value.category]) rfl ?_
  refine gR.steps 1 (σ, (1, [some (.ref 18), some (.int s), some (.int f), some (.int i), some (.int v), none], [.int s])) rfl ?_
  refine gR.callp rfl (s_X10_isSheet (by omega) σ s) ?_
  refine gR.ifte rfl (fun zc4 => ?_) (fun zc4 => ?_)
  · rw [bI_eq0] at zc4
    refine gR.steps 1 (σ, (16, [some (.ref 18), some (.int s), some (.int f), some (.int i), some (.int v), none], [.int (-2)])) rfl ?_
    show gR _ _ _ σ (16, [some (.ref 18), some (.int s), some (.int f), some (.int i), some (.int v), none], [.int (-2)])
    refine gR.ret rfl ?_
    exact ⟨trivial, by rw [show aLay H s f i v = -2 from if_neg (by omega)], cShF.rf σ, by rw [show sLay H s f i v = H from if_neg (by omega)]; exact hs, by rw [show lLay H l s f i = l from if_neg (by omega)]; exact hl⟩
  · rw [bI_eq0, Decidable.not_not] at zc4
    obtain ⟨ss, hss, rfl⟩ := gN_of (x := s) (n := 4) (by omega) (by omega) (by omega)
    refine gR.steps 1 (σ, (8, [some (.ref 18), some (.int (nI ss)), some (.int f), some (.int i), some (.int v), none], [.int f])) rfl ?_
    refine gR.callp rfl (s_X10_isForm (by omega) σ f) ?_
    refine gR.ifte rfl (fun zc11 => ?_) (fun zc11 => ?_)
    · rw [bI_ne0] at zc11
      obtain ⟨ff, hff, rfl⟩ := gN_of (x := f) (n := 3) (by omega) (by omega) (by omega)
      refine gR.steps 3 (σ, (22, [some (.ref 18), some (.int (nI ss)), some (.int (nI ff)), some (.int i), some (.int v), none], [.int (nI ss), .ref 42])) rfl ?_
      refine gR.chk (b := gIn (nI ss) 4) rfl (gN_in rfl (by omega) (by omega)) ?_
      rw [gN_cl rfl (by omega)]
      refine gR.steps 2 (σ, (25, [some (.ref 18), some (.int (nI ss)), some (.int (nI ff)), some (.int i), some (.int v), none], [.int i, .int (nI ff), .ref (70 + ss)])) rfl ?_
      have hxl := xLack_le H ss (nI ff) i
      refine gR.callp rfl (s_X10_findingOfItem (by omega) σ H ss (nI ff) i hs hss) ?_
      refine gR.steps 2 (σ, (32, [some (.ref 18), some (.int (nI ss)), some (.int (nI ff)), some (.int i), some (.int v), some (.int (nI (xLack H ss (nI ff) i)))], [.int (nI (xLack H ss (nI ff) i))])) rfl ?_
      refine gR.ifte rfl (fun zc32 => ?_) (fun zc32 => ?_)
      · rw [gN_eq (x := nI (xLack H ss (nI ff) i)) (y := 0) (a := xLack H ss (nI ff) i) (b := 0) rfl rfl (by omega) (by omega)] at zc32
        obtain ⟨hz1, hz2, hz3, hz4⟩ := lack_0 zc32
        have hz60 := (hs ss hss).2.2.1
        have hzz5 := ((hs ss hss).2.2.2.2 hz1).1
        obtain ⟨ii, hii, rfl⟩ := gN_of (x := i) (n := shZ H ss) hz3 hz4 (by omega)
        refine gR.steps 3 (σ, (47, [some (.ref 18), some (.int (nI ss)), some (.int (nI ff)), some (.int (nI ii)), some (.int v), some (.int (nI (xLack H ss (nI ff) (nI ii))))], [.int (nI ss), .ref 42])) rfl ?_
        refine gR.chk (b := gIn (nI ss) 4) rfl (gN_in rfl (by omega) (by omega)) ?_
        rw [gN_cl rfl (by omega)]
        refine gR.steps 2 (σ, (51, [some (.ref 18), some (.int (nI ss)), some (.int (nI ff)), some (.int (nI ii)), some (.int v), some (.int (nI (xLack H ss (nI ff) (nI ii))))], [.int v, .int (nI ii), .ref (70 + ss)])) rfl ?_
        refine gR.call' (gStep_callV rfl rfl (gSh_sheet (j := ss) (by omega)) rfl) (s_X8_put (by omega) σ ss ii (shZ H ss) v hss hzz5 hz60 hii) ?_
        rintro _ _ ⟨rfl, rfl⟩ 
        show gR _ _ _ (gUp σ (74 + ss) ii (xCut (σ (70 + ss) 1) v)) (54, [some (.ref 18), some (.int (nI ss)), some (.int (nI ff)), some (.int (nI ii)), some (.int v), some (.int (nI (xLack H ss (nI ff) (nI ii))))], [])
        refine gR.steps 1 (gUp σ (74 + ss) ii (xCut (σ (70 + ss) 1) v), (55, [some (.ref 18), some (.int (nI ss)), some (.int (nI ff)), some (.int (nI ii)), some (.int v), some (.int (nI (xLack H ss (nI ff) (nI ii))))], [.int 1])) rfl ?_
        show gR _ _ _ (gUp σ (74 + ss) ii (xCut (σ (70 + ss) 1) v)) (55, [some (.ref 18), some (.int (nI ss)), some (.int (nI ff)), some (.int (nI ii)), some (.int v), some (.int (nI (xLack H ss (nI ff) (nI ii))))], [.int 1])
        refine gR.ret rfl ?_
        have hc : (nI ss).toNatClampNeg = ss := nI_clamp (by omega)
        have hci : (nI ii).toNatClampNeg = ii := nI_clamp (by omega)
        refine ⟨trivial, ?_, ⟨fun p a b => gUp_ne (by omega), fun s a => by rw [gUp_ne (by omega)]⟩, ?_, ?_⟩
        · rw [show aLay H (nI ss) (nI ff) (nI ii) v = _ from if_pos ⟨zc4, zc11⟩, hc, if_pos zc32]
        · rw [show sLay H (nI ss) (nI ff) (nI ii) v = _ from if_pos ⟨⟨zc4, zc11⟩, by rw [hc]; exact zc32⟩, hc, hci, (hs ss hss).1, hz2]; exact cSh_put hs hss
        · rw [show lLay H l (nI ss) (nI ff) (nI ii) = l from if_neg (by rw [hc]; exact fun z => z.2 zc32)]; show gUp σ (74 + ss) ii _ 18 12 = nI l; rw [gUp_ne (by omega)]; exact hl
      · rw [gN_eq (x := nI (xLack H ss (nI ff) i)) (y := 0) (a := xLack H ss (nI ff) i) (b := 0) rfl rfl (by omega) (by omega)] at zc32
        refine gR.steps 2 (σ, (38, [some (.ref 18), some (.int (nI ss)), some (.int (nI ff)), some (.int i), some (.int v), some (.int (nI (xLack H ss (nI ff) i)))], [.int (nI (xLack H ss (nI ff) i)), .ref 18])) rfl ?_
        refine gR.call' rfl (s_X10_finding (by omega) σ (xLack H ss (nI ff) i)) ?_
        rintro _ _ ⟨rfl, rfl⟩ 
        show gR _ _ _ (gUp σ 18 12 (nI (xLack H ss (nI ff) i))) (41, [some (.ref 18), some (.int (nI ss)), some (.int (nI ff)), some (.int i), some (.int v), some (.int (nI (xLack H ss (nI ff) i)))], [.int (xFi (xLack H ss (nI ff) i))])
        show gR _ _ _ (gUp σ 18 12 (nI (xLack H ss (nI ff) i))) (41, [some (.ref 18), some (.int (nI ss)), some (.int (nI ff)), some (.int i), some (.int v), some (.int (nI (xLack H ss (nI ff) i)))], [.int (xFi (xLack H ss (nI ff) i))])
        refine gR.ret rfl ?_
        have hc : (nI ss).toNatClampNeg = ss := nI_clamp (by omega)
        exact ⟨trivial, by rw [show aLay H (nI ss) (nI ff) i v = _ from if_pos ⟨zc4, zc11⟩, hc, if_neg zc32], cShF_fi σ _, by rw [show sLay H (nI ss) (nI ff) i v = H from if_neg (by rw [hc]; exact fun z => zc32 z.2)]; exact cSh_fi hs, by rw [show lLay H l (nI ss) (nI ff) i = _ from if_pos ⟨⟨zc4, zc11⟩, by rw [hc]; exact zc32⟩, hc]; exact gUp_s _ _ _ _⟩
    · rw [bI_ne0] at zc11
      refine gR.steps 1 (σ, (16, [some (.ref 18), some (.int (nI ss)), some (.int f), some (.int i), some (.int v), none], [.int (-2)])) rfl ?_
      show gR _ _ _ σ (16, [some (.ref 18), some (.int (nI ss)), some (.int f), some (.int i), some (.int v), none], [.int (-2)])
      refine gR.ret rfl ?_
      exact ⟨trivial, by rw [show aLay H (nI ss) f i v = -2 from if_neg (by omega)], cShF.rf σ, by rw [show sLay H (nI ss) f i v = H from if_neg (by omega)]; exact hs, by rw [show lLay H l (nI ss) f i = l from if_neg (by omega)]; exact hl⟩
theorem s_X10_get {d : Nat} (hd : 3 ≤ d) (σ : gS) (H : xShe) (l : Nat) (s f i : Int32) (hs : cSh σ H) (hl : cLa σ l) : gC d 74 [.ref 18, .int s, .int f, .int i] σ (fun r τ => r = some (.int (aGet H s f i)) ∧ cShF σ τ ∧ cSh τ H ∧ cLa τ (lLay H l s f i)) := by
  obtain ⟨d, rfl⟩ : ∃ k, d = k + 1 := ⟨d - 1, by omega⟩
  refine gC.of (P := pX10_get) (nL := 5) (rt := (some (.int))) (lv := [some (.ref 18), some (.int s), some (.int f), some (.int i), none]) (by decide +kernel) rfl rfl rfl (by simp [gEnt, Value.category]) rfl ?_
  refine gR.steps 1 (σ, (1, [some (.ref 18), some (.int s), some (.int f), some (.int i), none], [.int s])) rfl ?_
  refine gR.callp rfl (s_X10_isSheet (by omega) σ s) ?_
  refine gR.ifte rfl (fun zc4 => ?_) (fun zc4 => ?_)
  · rw [bI_eq0] at zc4
    refine gR.steps 1 (σ, (17, [some (.ref 18), some (.int s), some (.int f), some (.int i), none], [.int (-2147483648)])) rfl ?_
    show gR _ _ _ σ (17, [some (.ref 18), some (.int s), some (.int f), some (.int i), none], [.int (-2147483648)])
    refine gR.ret rfl ?_
    exact ⟨trivial, by rw [show aGet H s f i = -2147483648 from if_neg (fun z => absurd z.1 (by omega))], cShF.rf σ, hs, by rw [show lLay H l s f i = l from if_neg (fun z => absurd z.1 (by omega))]; exact hl⟩
  · rw [bI_eq0, Decidable.not_not] at zc4
    obtain ⟨ss, hss, rfl⟩ := gN_of (x := s) (n := 4) (by omega) (by omega) (by omega)
    refine gR.steps 1 (σ, (8, [some (.ref 18), some (.int (nI ss)), some (.int f), some (.int i), none], [.int f])) rfl ?_
    refine gR.callp rfl (s_X10_isForm (by omega) σ f) ?_
    refine gR.ifte rfl (fun zc11 => ?_) (fun zc11 => ?_)
    · rw [bI_ne0] at zc11
      obtain ⟨ff, hff, rfl⟩ := gN_of (x := f) (n := 3) (by omega) (by omega) (by omega)
      refine gR.steps 3 (σ, (23, [some (.ref 18), some (.int (nI ss)), some (.int (nI ff)), some (.int i), none], [.int (nI ss), .ref 42])) rfl ?_
      refine gR.chk (b := gIn (nI ss) 4) rfl (gN_in rfl (by omega) (by omega)) ?_
      rw [gN_cl rfl (by omega)]
      refine gR.steps 2 (σ, (26, [some (.ref 18), some (.int (nI ss)), some (.int (nI ff)), some (.int i), none], [.int i, .int (nI ff), .ref (70 + ss)])) rfl ?_
      have hxl := xLack_le H ss (nI ff) i
      refine gR.callp rfl (s_X10_findingOfItem (by omega) σ H ss (nI ff) i hs hss) ?_
      refine gR.steps 2 (σ, (33, [some (.ref 18), some (.int (nI ss)), some (.int (nI ff)), some (.int i), some (.int (nI (xLack H ss (nI ff) i)))], [.int (nI (xLack H ss (nI ff) i))])) rfl ?_
      refine gR.ifte rfl (fun zc33 => ?_) (fun zc33 => ?_)
      · rw [gN_eq (x := nI (xLack H ss (nI ff) i)) (y := 0) (a := xLack H ss (nI ff) i) (b := 0) rfl rfl (by omega) (by omega)] at zc33
        obtain ⟨hz1, hz2, hz3, hz4⟩ := lack_0 zc33
        have hz60 := (hs ss hss).2.2.1
        have hzz5 := ((hs ss hss).2.2.2.2 hz1).1
        obtain ⟨ii, hii, rfl⟩ := gN_of (x := i) (n := shZ H ss) hz3 hz4 (by omega)
        refine gR.steps 3 (σ, (51, [some (.ref 18), some (.int (nI ss)), some (.int (nI ff)), some (.int (nI ii)), some (.int (nI (xLack H ss (nI ff) (nI ii))))], [.int (nI ss), .ref 42])) rfl ?_
        refine gR.chk (b := gIn (nI ss) 4) rfl (gN_in rfl (by omega) (by omega)) ?_
        rw [gN_cl rfl (by omega)]
        refine gR.steps 1 (σ, (53, [some (.ref 18), some (.int (nI ss)), some (.int (nI ff)), some (.int (nI ii)), some (.int (nI (xLack H ss (nI ff) (nI ii))))], [.int (nI ii), .ref (70 + ss)])) rfl ?_
        refine gR.callp (gStep_callV rfl rfl (gSh_sheet (j := ss) (by omega)) rfl) (s_X8_item (by omega) σ ss ii (shZ H ss) hss hzz5 hz60 hii) ?_
        show gR _ _ _ σ (56, [some (.ref 18), some (.int (nI ss)), some (.int (nI ff)), some (.int (nI ii)), some (.int (nI (xLack H ss (nI ff) (nI ii))))], [.int (σ (74 + ss) ii)])
        refine gR.ret rfl ?_
        have hc : (nI ss).toNatClampNeg = ss := nI_clamp (by omega)
        have hci : (nI ii).toNatClampNeg = ii := nI_clamp (by omega)
        exact ⟨trivial, by rw [show aGet H (nI ss) (nI ff) (nI ii) = _ from if_pos ⟨⟨zc4, zc11⟩, by rw [hc]; exact zc33⟩, hc, hci]; exact gSomeI (((hs ss hss).2.2.2.2 hz1).2 ii hii), cShF.rf σ, hs, by rw [show lLay H l (nI ss) (nI ff) (nI ii) = l from if_neg (by rw [hc]; exact fun z => z.2 zc33)]; exact hl⟩
      · rw [gN_eq (x := nI (xLack H ss (nI ff) i)) (y := 0) (a := xLack H ss (nI ff) i) (b := 0) rfl rfl (by omega) (by omega)] at zc33
        refine gR.steps 4 (gUp σ 18 12 (nI (xLack H ss (nI ff) i)), (45, [some (.ref 18), some (.int (nI ss)), some (.int (nI ff)), some (.int i), some (.int (nI (xLack H ss (nI ff) i)))], [.int (-2147483648)])) rfl ?_
        show gR _ _ _ (gUp σ 18 12 (nI (xLack H ss (nI ff) i))) (45, [some (.ref 18), some (.int (nI ss)), some (.int (nI ff)), some (.int i), some (.int (nI (xLack H ss (nI ff) i)))], [.int (-2147483648)])
        refine gR.ret rfl ?_
        have hc : (nI ss).toNatClampNeg = ss := nI_clamp (by omega)
        exact ⟨trivial, by rw [show aGet H (nI ss) (nI ff) i = -2147483648 from if_neg (by rw [hc]; exact fun z => zc33 z.2)], cShF_fi σ _, cSh_fi hs, by rw [show lLay H l (nI ss) (nI ff) i = _ from if_pos ⟨⟨zc4, zc11⟩, by rw [hc]; exact zc33⟩, hc]; exact gUp_s _ _ _ _⟩
    · rw [bI_ne0] at zc11
      refine gR.steps 1 (σ, (17, [some (.ref 18), some (.int (nI ss)), some (.int f), some (.int i), none], [.int (-2147483648)])) rfl ?_
      show gR _ _ _ σ (17, [some (.ref 18), some (.int (nI ss)), some (.int f), some (.int i), none], [.int (-2147483648)])
      refine gR.ret rfl ?_
      exact ⟨trivial, by rw [show aGet H (nI ss) f i = -2147483648 from if_neg (fun z => absurd z.1 (by omega))], cShF.rf σ, hs, by rw [show lLay H l (nI ss) f i = l from if_neg (fun z => absurd z.1 (by omega))]; exact hl⟩
