theorem shf_ge {f : Int32} (h : f = -1 ∨ f = 0 ∨ f = 1 ∨ f = 2) : (0 ≤ f ↔ ¬ f = -1) := by
  rcases h with rfl | rfl | rfl | rfl <;> decide
theorem shf_lt {f : Int32} (h : f = -1 ∨ f = 0 ∨ f = 1 ∨ f = 2) : (f < 0 ↔ f = -1) := by
  rcases h with rfl | rfl | rfl | rfl <;> decide
def aLose (H : xShe) (s : Int32) : Int32 := if 0 ≤ s.toInt ∧ s.toInt ≤ 3 then (if shF H s.toNatClampNeg = -1 then xFi 1 else nI (shZ H s.toNatClampNeg)) else -2
def sLose (H : xShe) (s : Int32) : xShe := if (0 ≤ s.toInt ∧ s.toInt ≤ 3) ∧ ¬ shF H s.toNatClampNeg = -1 then shLose H s.toNatClampNeg else H
def lLose (H : xShe) (l : Nat) (s : Int32) : Nat := if (0 ≤ s.toInt ∧ s.toInt ≤ 3) ∧ shF H s.toNatClampNeg = -1 then 1 else l
theorem mSh_lose {σ : gS} {H : xShe} {s : Nat} (h : mSh σ H) (hs : s < 4) : mSh (gUp σ 1 s (-1)) (shLose H s) := by
  intro t ht
  obtain ⟨a1, a2, a3, a4, a5⟩ := h t ht
  by_cases hts : t = s
  · subst hts
    simp only [shLose, shF, shZ, shI, if_true]
    refine ⟨gUp_s _ _ _ _, Or.inl trivial, a3, ?_, fun z => absurd trivial z⟩
    rw [gUp_o (by omega)]; exact a4
  · simp only [shLose, shF, shZ, shI, if_neg hts]
    rw [gUp_o (by omega), gUp_o (by omega)]
    refine ⟨a1, a2, a3, a4, fun hz => ⟨(a5 hz).1, fun i hi => ?_⟩⟩
    rw [gUp_o (by omega)]; exact (a5 hz).2 i hi
theorem s_X11_lose {d : Nat} (hd : 3 ≤ d) (σ : gS) (H : xShe) (l : Nat) (s : Int32) (hs : mSh σ H) (hl : mLa σ l) : gC d 122 [.ref 0, .int s] σ (fun r τ => r = some (.int (aLose H s)) ∧ mShF σ τ ∧ mSh τ (sLose H s) ∧ mLa τ (lLose H l s)) := by
  obtain ⟨d, rfl⟩ : ∃ k, d = k + 1 := ⟨d - 1, by omega⟩
  refine gC.of (P := pX11_lose) (nL := 2) (rt := (some (.int))) (lv := [some (.ref 0), some (.int s)]) (by decide +kernel) rfl rfl rfl (by simp [gEnt, Value.category]) rfl ?_
  refine gR.steps 1 (σ, (1, [some (.ref 0), some (.int s)], [.int s])) rfl ?_
  refine gR.callp rfl (s_X11_isSheet (by omega) σ s) ?_
  refine gR.ifte rfl (fun zc4 => ?_) (fun zc4 => ?_)
  · rw [bI_ne0] at zc4
    obtain ⟨ss, hss, rfl⟩ := gN_of (x := s) (n := 4) (by omega) (by omega) (by omega)
    refine gR.steps 3 (σ, (15, [some (.ref 0), some (.int (nI ss))], [.int (nI ss), .ref 1])) rfl ?_
    refine gR.ald (i := nI ss) (j := ss) (N := 4) (g := σ 1) rfl rfl (by omega) (by omega) ?_
    refine gR.ifte rfl (fun zc16 => ?_) (fun zc16 => ?_)
    · rw [(hs ss hss).1, shf_ge (hs ss hss).2.1] at zc16
      refine gR.steps 4 (σ, (31, [some (.ref 0), some (.int (nI ss))], [.int (-1), .int (nI ss), .ref 1])) rfl ?_
      refine gR.ast (i := nI ss) (j := ss) (N := 4) (q := 1) (x := -1) rfl rfl (by omega) (by omega) ?_
      refine gR.steps 3 (gUp σ 1 ss (-1), (37, [some (.ref 0), some (.int (nI ss))], [.int (nI ss), .ref 2])) rfl ?_
      refine gR.ald (i := nI ss) (j := ss) (N := 4) (g := (gUp σ 1 ss (-1)) 2) rfl rfl (by omega) (by omega) ?_
      refine gR.topI (y := σ 2 ss) (by rw [gUp_o (by omega)]) ?_
      show gR _ _ _ (gUp σ 1 ss (-1)) (38, [some (.ref 0), some (.int (nI ss))], [.int (σ 2 ss)])
      refine gR.ret rfl ?_
      have hc : (nI ss).toNatClampNeg = ss := nI_clamp (by omega)
      refine ⟨trivial, ?_, mShF_up (by omega) (mShF.rf σ), ?_, ?_⟩
      · rw [show aLose H (nI ss) = _ from if_pos zc4, hc, if_neg zc16]; exact gSomeI ((hs ss hss).2.2.2.2 zc16).1
      · rw [show sLose H (nI ss) = _ from if_pos ⟨zc4, by rw [hc]; exact zc16⟩, hc]; exact mSh_lose hs hss
      · rw [show lLose H l (nI ss) = l from if_neg (by rw [hc]; exact fun z => zc16 z.2)]; show gUp σ 1 ss (-1) 0 4 = nI l; rw [gUp_o (by omega)]; exact hl
    · rw [(hs ss hss).1, shf_ge (hs ss hss).2.1] at zc16
      refine gR.steps 2 (σ, (21, [some (.ref 0), some (.int (nI ss))], [.int 1, .ref 0])) rfl ?_
      refine gR.call' rfl (s_X11_finds (by omega) σ 1 (by omega)) ?_
      rintro _ _ ⟨rfl, rfl⟩ 
      show gR _ _ _ (gUp σ 0 4 (nI 1)) (24, [some (.ref 0), some (.int (nI ss))], [.int (-10 - nI 1)])
      show gR _ _ _ (gUp σ 0 4 (nI 1)) (24, [some (.ref 0), some (.int (nI ss))], [.int (-10 - nI 1)])
      refine gR.ret rfl ?_
      have hc : (nI ss).toNatClampNeg = ss := nI_clamp (by omega)
      have zd := Decidable.not_not.mp zc16
      exact ⟨trivial, by rw [show aLose H (nI ss) = _ from if_pos zc4, hc, if_pos zd]; rfl, mShF_fi (mShF.rf σ), by rw [show sLose H (nI ss) = H from if_neg (by rw [hc]; exact fun z => z.2 zd)]; exact mSh_fi hs, by rw [show lLose H l (nI ss) = 1 from if_pos ⟨zc4, by rw [hc]; exact zd⟩]; exact gUp_s _ _ _ _⟩
  · rw [bI_ne0] at zc4
    refine gR.steps 1 (σ, (9, [some (.ref 0), some (.int s)], [.int (-2)])) rfl ?_
    refine gR.ret rfl ?_
    exact ⟨trivial, by rw [show aLose H s = -2 from if_neg (by omega)], mShF.rf σ, by rw [show sLose H s = H from if_neg (by omega)]; exact hs, by rw [show lLose H l s = l from if_neg (by omega)]; exact hl⟩
def xLack (H : xShe) (s : Nat) (f i : Int32) : Nat := if shF H s = -1 then 1 else if ¬ shF H s = f then 3 else if 0 ≤ i.toInt ∧ i.toInt < shZ H s then 0 else 2
def xLackA (x : Nat) : Int32 := if x = 0 then 0 else xFi x
def xLackM (x : Nat) (σ : gS) : gS := if x = 0 then σ else gUp σ 0 4 (nI x)
theorem xLack_le (H : xShe) (s : Nat) (f i : Int32) : xLack H s f i ≤ 3 := by
  unfold xLack; repeat' split
  all_goals omega
theorem s_X11_lacks {d : Nat} (hd : 2 ≤ d) (σ : gS) (H : xShe) (s : Nat) (f i : Int32) (hs : mSh σ H) (hss : s < 4) : gC d 123 [.ref 0, .int (nI s), .int f, .int i] σ (fun r τ => r = some (.int (xLackA (xLack H s f i))) ∧ τ = xLackM (xLack H s f i) σ) := by
  obtain ⟨d, rfl⟩ : ∃ k, d = k + 1 := ⟨d - 1, by omega⟩
  refine gC.of (P := pX11_lacks) (nL := 4) (rt := (some (.int))) (lv := [some (.ref 0), some (.int (nI s)), some (.int f), some (.int i)]) (by decide +kernel) rfl rfl rfl (by simp [gEnt, Value.category]) rfl ?_
  refine gR.steps 3 (σ, (5, [some (.ref 0), some (.int (nI s)), some (.int f), some (.int i)], [.int (nI s), .ref 1])) rfl ?_
  refine gR.ald (i := nI s) (j := s) (N := 4) (g := σ 1) rfl rfl (by omega) (by omega) ?_
  refine gR.ifte rfl (fun zc6 => ?_) (fun zc6 => ?_)
  · rw [(hs s hss).1, shf_ge (hs s hss).2.1] at zc6
    refine gR.steps 3 (σ, (20, [some (.ref 0), some (.int (nI s)), some (.int f), some (.int i)], [.int (nI s), .ref 1])) rfl ?_
    refine gR.ald (i := nI s) (j := s) (N := 4) (g := σ 1) rfl rfl (by omega) (by omega) ?_
    refine gR.steps 1 (σ, (22, [some (.ref 0), some (.int (nI s)), some (.int f), some (.int i)], [.int f, .int (σ 1 s)])) rfl ?_
    refine gR.ifte rfl (fun zc22 => ?_) (fun zc22 => ?_)
    · rw [(hs s hss).1] at zc22
      refine gR.steps 6 (σ, (39, [some (.ref 0), some (.int (nI s)), some (.int f), some (.int i)], [.int (nI s), .ref 2, .long 0, .long (Int32.toInt64 i)])) rfl ?_
      refine gR.ald (i := nI s) (j := s) (N := 4) (g := σ 2) rfl rfl (by omega) (by omega) ?_
      refine gR.steps 3 (σ, (43, [some (.ref 0), some (.int (nI s)), some (.int f), some (.int i)], [.long (Int32.toInt64 ((σ 2 s) - 1)), .long 0, .long (Int32.toInt64 i)])) rfl ?_
      have hz := hs s hss
      have hz2 := (hz.2.2.2.2 zc6).1
      refine gR.callp (x := .int (bI (0 ≤ i.toInt ∧ i.toInt < shZ H s))) rfl ((s_X11_in (by omega) σ _ _ _).mono (fun r τ h => ⟨by rw [h.1, bI_congr (show _ ↔ (0 ≤ i.toInt ∧ i.toInt < shZ H s) by simp only [iI64, iLit0]; rw [hz2, show (1 : Int32) = nI 1 from rfl, pk_sub_toInt (by omega) (by omega)]; omega)], h.2⟩)) ?_
      refine gR.ifte rfl (fun zc46 => ?_) (fun zc46 => ?_)
      · rw [bI_eq0] at zc46
        refine gR.steps 2 (σ, (55, [some (.ref 0), some (.int (nI s)), some (.int f), some (.int i)], [.int 2, .ref 0])) rfl ?_
        refine gR.call' rfl (s_X11_finds (by omega) σ 2 (by omega)) ?_
        rintro _ _ ⟨rfl, rfl⟩ 
        show gR _ _ _ (gUp σ 0 4 (nI 2)) (58, [some (.ref 0), some (.int (nI s)), some (.int f), some (.int i)], [.int (-10 - nI 2)])
        show gR _ _ _ (gUp σ 0 4 (nI 2)) (58, [some (.ref 0), some (.int (nI s)), some (.int f), some (.int i)], [.int (-10 - nI 2)])
        refine gR.ret rfl ?_
        have hx : xLack H s f i = 2 := (if_neg zc6).trans ((if_neg (Decidable.not_not.mpr zc22)).trans (if_neg zc46))
        rw [hx]
        exact ⟨trivial, rfl, rfl⟩
      · rw [bI_eq0, Decidable.not_not] at zc46
        refine gR.steps 2 (σ, (58, [some (.ref 0), some (.int (nI s)), some (.int f), some (.int i)], [.int 0])) rfl ?_
        refine gR.ret rfl ?_
        have hx : xLack H s f i = 0 := (if_neg zc6).trans ((if_neg (Decidable.not_not.mpr zc22)).trans (if_pos zc46))
        rw [hx]
        exact ⟨trivial, rfl, rfl⟩
    · rw [(hs s hss).1] at zc22
      refine gR.steps 2 (σ, (27, [some (.ref 0), some (.int (nI s)), some (.int f), some (.int i)], [.int 3, .ref 0])) rfl ?_
      refine gR.call' rfl (s_X11_finds (by omega) σ 3 (by omega)) ?_
      rintro _ _ ⟨rfl, rfl⟩ 
      show gR _ _ _ (gUp σ 0 4 (nI 3)) (30, [some (.ref 0), some (.int (nI s)), some (.int f), some (.int i)], [.int (-10 - nI 3)])
      show gR _ _ _ (gUp σ 0 4 (nI 3)) (30, [some (.ref 0), some (.int (nI s)), some (.int f), some (.int i)], [.int (-10 - nI 3)])
      refine gR.ret rfl ?_
      have hx : xLack H s f i = 3 := (if_neg zc6).trans (if_pos zc22)
      rw [hx]
      exact ⟨trivial, rfl, rfl⟩
  · rw [(hs s hss).1, shf_ge (hs s hss).2.1] at zc6
    refine gR.steps 2 (σ, (11, [some (.ref 0), some (.int (nI s)), some (.int f), some (.int i)], [.int 1, .ref 0])) rfl ?_
    refine gR.call' rfl (s_X11_finds (by omega) σ 1 (by omega)) ?_
    rintro _ _ ⟨rfl, rfl⟩ 
    show gR _ _ _ (gUp σ 0 4 (nI 1)) (14, [some (.ref 0), some (.int (nI s)), some (.int f), some (.int i)], [.int (-10 - nI 1)])
    show gR _ _ _ (gUp σ 0 4 (nI 1)) (14, [some (.ref 0), some (.int (nI s)), some (.int f), some (.int i)], [.int (-10 - nI 1)])
    refine gR.ret rfl ?_
    have hx : xLack H s f i = 1 := if_pos (Decidable.not_not.mp zc6)
    rw [hx]
    exact ⟨trivial, rfl, rfl⟩
theorem xLackA_0 {x : Nat} (h : x ≤ 3) : (xLackA x = 0 ↔ x = 0) := by
  rcases (show x = 0 ∨ x = 1 ∨ x = 2 ∨ x = 3 by omega) with rfl | rfl | rfl | rfl <;> decide
def aLay (H : xShe) (s f i v : Int32) : Int32 := if (0 ≤ s.toInt ∧ s.toInt ≤ 3) ∧ (0 ≤ f.toInt ∧ f.toInt ≤ 2) then (if xLack H s.toNatClampNeg f i = 0 then 1 else xFi (xLack H s.toNatClampNeg f i)) else -2
def sLay (H : xShe) (s f i v : Int32) : xShe := if ((0 ≤ s.toInt ∧ s.toInt ≤ 3) ∧ (0 ≤ f.toInt ∧ f.toInt ≤ 2)) ∧ xLack H s.toNatClampNeg f i = 0 then shPut H s.toNatClampNeg i.toNatClampNeg (xCut f v) else H
def lLay (H : xShe) (l : Nat) (s f i : Int32) : Nat := if ((0 ≤ s.toInt ∧ s.toInt ≤ 3) ∧ (0 ≤ f.toInt ∧ f.toInt ≤ 2)) ∧ ¬ xLack H s.toNatClampNeg f i = 0 then xLack H s.toNatClampNeg f i else l
def aGet (H : xShe) (s f i : Int32) : Int32 := if ((0 ≤ s.toInt ∧ s.toInt ≤ 3) ∧ (0 ≤ f.toInt ∧ f.toInt ≤ 2)) ∧ xLack H s.toNatClampNeg f i = 0 then shI H s.toNatClampNeg i.toNatClampNeg else -2147483648
theorem xLack_0 {H : xShe} {s : Nat} {f i : Int32} (h : xLack H s f i = 0) : ¬ shF H s = -1 ∧ shF H s = f ∧ 0 ≤ i.toInt ∧ i.toInt < shZ H s := by
  unfold xLack at h
  repeat' split at h
  all_goals first | omega | skip
  next h1 h2 h3 => exact ⟨h1, Decidable.not_not.mp h2, h3⟩
theorem mSh_put {σ : gS} {H : xShe} {s i : Nat} {v : Int32} (h : mSh σ H) (hs : s < 4) (hi : i < 60) : mSh (gUp σ 3 (60 * s + i) v) (shPut H s i v) := by
  intro t ht
  obtain ⟨a1, a2, a3, a4, a5⟩ := h t ht
  simp only [shPut, shF, shZ, shI]
  rw [gUp_o (by omega), gUp_o (by omega)]
  refine ⟨a1, a2, a3, a4, fun hz => ⟨(a5 hz).1, fun j hj => ?_⟩⟩
  have hj2 : j < shZ H t := hj
  have h60 : shZ H t ≤ 60 := a3
  by_cases hts : t = s
  · subst hts
    rw [if_pos rfl]
    unfold upd
    by_cases hji : j = i
    · subst hji; rw [gUp_s, if_pos rfl]
    · rw [gUp_o (by omega), if_neg hji]; exact (a5 hz).2 j hj
  · rw [if_neg hts, gUp_o (by omega)]; exact (a5 hz).2 j hj
theorem xLackM_F {σ : gS} {x : Nat} : mShF σ (xLackM x σ) := by
  unfold xLackM; split
  · exact mShF.rf σ
  · exact mShF_fi (mShF.rf σ)
theorem xLackM_H {σ : gS} {x : Nat} {H : xShe} (h : mSh σ H) : mSh (xLackM x σ) H := by
  unfold xLackM; split
  · exact h
  · exact mSh_fi h
theorem xLackM_L {σ : gS} {x : Nat} (h : ¬ x = 0) : mLa (xLackM x σ) x := by
  unfold xLackM; rw [if_neg h]; exact gUp_s _ _ _ _
theorem s_X11_lay {d : Nat} (hd : 3 ≤ d) (σ : gS) (H : xShe) (l : Nat) (s f i v : Int32) (hs : mSh σ H) (hl : mLa σ l) : gC d 125 [.ref 0, .int s, .int f, .int i, .int v] σ (fun r τ => r = some (.int (aLay H s f i v)) ∧ mShF σ τ ∧ mSh τ (sLay H s f i v) ∧ mLa τ (lLay H l s f i)) := by
  obtain ⟨d, rfl⟩ : ∃ k, d = k + 1 := ⟨d - 1, by omega⟩
  refine gC.of (P := pX11_lay) (nL := 6) (rt := (some (.int))) (lv := [some (.ref 0), some (.int s), some (.int f), some (.int i), some (.int v), none]) (by decide +kernel) rfl rfl rfl (by simp [gEnt, Value.category]) rfl ?_
  refine gR.steps 1 (σ, (1, [some (.ref 0), some (.int s), some (.int f), some (.int i), some (.int v), none], [.int s])) rfl ?_
  refine gR.callp rfl (s_X11_isSheet (by omega) σ s) ?_
  refine gR.ifte rfl (fun zc4 => ?_) (fun zc4 => ?_)
  · rw [bI_eq0] at zc4
    refine gR.steps 1 (σ, (21, [some (.ref 0), some (.int s), some (.int f), some (.int i), some (.int v), none], [.int (-2)])) rfl ?_
    refine gR.ret rfl ?_
    exact ⟨trivial, by rw [show aLay H s f i v = -2 from if_neg (by omega)], mShF.rf σ, by rw [show sLay H s f i v = H from if_neg (by omega)]; exact hs, by rw [show lLay H l s f i = l from if_neg (by omega)]; exact hl⟩
  · rw [bI_eq0, Decidable.not_not] at zc4
    obtain ⟨ss, hss, rfl⟩ := gN_of (x := s) (n := 4) (by omega) (by omega) (by omega)
    refine gR.steps 4 (σ, (13, [some (.ref 0), some (.int (nI ss)), some (.int f), some (.int i), some (.int v), none], [.long 2, .long 0, .long (Int32.toInt64 f)])) rfl ?_
    refine gR.callp rfl (s_X11_inI (by omega) σ f 0 2 0 2 (by decide) (by decide)) ?_
    refine gR.ifte rfl (fun zc16 => ?_) (fun zc16 => ?_)
    · rw [bI_ne0] at zc16
      obtain ⟨ff, hff, rfl⟩ := gN_of (x := f) (n := 3) (by omega) (by omega) (by omega)
      refine gR.steps 4 (σ, (26, [some (.ref 0), some (.int (nI ss)), some (.int (nI ff)), some (.int i), some (.int v), none], [.int i, .int (nI ff), .int (nI ss), .ref 0])) rfl ?_
      refine gR.call' rfl (s_X11_lacks (by omega) σ H ss (nI ff) i hs hss) ?_
      rintro _ _ ⟨rfl, rfl⟩ 
      have hc : (nI ss).toNatClampNeg = ss := nI_clamp (by omega)
      show gR _ _ _ (xLackM (xLack H ss (nI ff) i) σ) (29, [some (.ref 0), some (.int (nI ss)), some (.int (nI ff)), some (.int i), some (.int v), none], [.int (xLackA (xLack H ss (nI ff) i))])
      refine gR.steps 2 (xLackM (xLack H ss (nI ff) i) σ, (33, [some (.ref 0), some (.int (nI ss)), some (.int (nI ff)), some (.int i), some (.int v), some (.int (xLackA (xLack H ss (nI ff) i)))], [.int (xLackA (xLack H ss (nI ff) i))])) rfl ?_
      refine gR.ifte rfl (fun zc33 => ?_) (fun zc33 => ?_)
      · rw [xLackA_0 (xLack_le H ss (nI ff) i)] at zc33
        obtain ⟨q1, q2, q3, q4⟩ := xLack_0 zc33
        have qz := (hs ss hss).2.2.1
        rw [show xLackM (xLack H ss (nI ff) i) σ = σ from if_pos zc33]
        obtain ⟨ii, hii, rfl⟩ := gN_of (x := i) (n := shZ H ss) q3 q4 (by omega)
        refine gR.steps 9 (σ, (52, [some (.ref 0), some (.int (nI ss)), some (.int (nI ff)), some (.int (nI ii)), some (.int v), some (.int (xLackA (xLack H ss (nI ff) (nI ii))))], [.int v, .int (nI ff), .int ((60 * (nI ss)) + (nI ii)), .ref 3])) rfl ?_
        refine gR.callp rfl (s_X11_cut (by omega) σ (nI ff) v) ?_
        refine gR.ast (i := (60 * (nI ss)) + (nI ii)) (j := 60 * ss + ii) (N := 240) (q := 3) (x := xCut (nI ff) v) rfl (gN_add (gN_mul rfl rfl) rfl) (by omega) (by omega) ?_
        refine gR.steps 1 (gUp σ 3 (60 * ss + ii) (xCut (nI ff) v), (57, [some (.ref 0), some (.int (nI ss)), some (.int (nI ff)), some (.int (nI ii)), some (.int v), some (.int (xLackA (xLack H ss (nI ff) (nI ii))))], [.int 1])) rfl ?_
        show gR _ _ _ (gUp σ 3 (60 * ss + ii) (xCut (nI ff) v)) (57, [some (.ref 0), some (.int (nI ss)), some (.int (nI ff)), some (.int (nI ii)), some (.int v), some (.int (xLackA (xLack H ss (nI ff) (nI ii))))], [.int 1])
        refine gR.ret rfl ?_
        refine ⟨trivial, ?_, mShF_up (by omega) (mShF.rf σ), ?_, ?_⟩
        · rw [show aLay H (nI ss) (nI ff) (nI ii) v = _ from if_pos ⟨zc4, zc16⟩, hc, if_pos zc33]
        · rw [show sLay H (nI ss) (nI ff) (nI ii) v = _ from if_pos ⟨⟨zc4, zc16⟩, by rw [hc]; exact zc33⟩, hc, nI_clamp (by omega)]; exact mSh_put hs hss (by omega)
        · rw [show lLay H l (nI ss) (nI ff) (nI ii) = l from if_neg (by rw [hc]; exact fun z => z.2 zc33)]; exact (gUp_o (by omega)).trans hl
      · rw [xLackA_0 (xLack_le H ss (nI ff) i)] at zc33
        refine gR.steps 1 (xLackM (xLack H ss (nI ff) i) σ, (38, [some (.ref 0), some (.int (nI ss)), some (.int (nI ff)), some (.int i), some (.int v), some (.int (xLackA (xLack H ss (nI ff) i)))], [.int (xLackA (xLack H ss (nI ff) i))])) rfl ?_
        refine gR.ret rfl ?_
        refine ⟨trivial, ?_, xLackM_F, ?_, ?_⟩
        · rw [show aLay H (nI ss) (nI ff) i v = _ from if_pos ⟨zc4, zc16⟩, hc, if_neg zc33]; exact gSomeI (if_neg zc33)
        · rw [show sLay H (nI ss) (nI ff) i v = H from if_neg (by rw [hc]; exact fun z => zc33 z.2)]; exact xLackM_H hs
        · rw [show lLay H l (nI ss) (nI ff) i = _ from if_pos ⟨⟨zc4, zc16⟩, by rw [hc]; exact zc33⟩, hc]; exact xLackM_L zc33
    · rw [bI_ne0] at zc16
      refine gR.steps 1 (σ, (21, [some (.ref 0), some (.int (nI ss)), some (.int f), some (.int i), some (.int v), none], [.int (-2)])) rfl ?_
      refine gR.ret rfl ?_
      exact ⟨trivial, by rw [show aLay H (nI ss) f i v = -2 from if_neg (by omega)], mShF.rf σ, by rw [show sLay H (nI ss) f i v = H from if_neg (by omega)]; exact hs, by rw [show lLay H l (nI ss) f i = l from if_neg (by omega)]; exact hl⟩
theorem s_X11_get {d : Nat} (hd : 3 ≤ d) (σ : gS) (H : xShe) (l : Nat) (s f i : Int32) (hs : mSh σ H) (hl : mLa σ l) : gC d 126 [.ref 0, .int s, .int f, .int i] σ (fun r τ => r = some (.int (aGet H s f i)) ∧ mShF σ τ ∧ mSh τ H ∧ mLa τ (lLay H l s f i)) := by
  obtain ⟨d, rfl⟩ : ∃ k, d = k + 1 := ⟨d - 1, by omega⟩
  refine gC.of (P := pX11_get) (nL := 4) (rt := (some (.int))) (lv := [some (.ref 0), some (.int s), some (.int f), some (.int i)]) (by decide +kernel) rfl rfl rfl (by simp [gEnt, Value.category]) rfl ?_
  refine gR.steps 1 (σ, (1, [some (.ref 0), some (.int s), some (.int f), some (.int i)], [.int s])) rfl ?_
  refine gR.callp rfl (s_X11_isSheet (by omega) σ s) ?_
  refine gR.ifte rfl (fun zc4 => ?_) (fun zc4 => ?_)
  · rw [bI_eq0] at zc4
    refine gR.steps 1 (σ, (31, [some (.ref 0), some (.int s), some (.int f), some (.int i)], [.int (-2147483648)])) rfl ?_
    refine gR.ret rfl ?_
    exact ⟨trivial, by rw [show aGet H s f i = -2147483648 from if_neg (by omega)], mShF.rf σ, hs, by rw [show lLay H l s f i = l from if_neg (by omega)]; exact hl⟩
  · rw [bI_eq0, Decidable.not_not] at zc4
    obtain ⟨ss, hss, rfl⟩ := gN_of (x := s) (n := 4) (by omega) (by omega) (by omega)
    refine gR.steps 4 (σ, (13, [some (.ref 0), some (.int (nI ss)), some (.int f), some (.int i)], [.long 2, .long 0, .long (Int32.toInt64 f)])) rfl ?_
    refine gR.callp rfl (s_X11_inI (by omega) σ f 0 2 0 2 (by decide) (by decide)) ?_
    refine gR.ifte rfl (fun zc16 => ?_) (fun zc16 => ?_)
    · rw [bI_eq0] at zc16
      refine gR.steps 1 (σ, (31, [some (.ref 0), some (.int (nI ss)), some (.int f), some (.int i)], [.int (-2147483648)])) rfl ?_
      refine gR.ret rfl ?_
      exact ⟨trivial, by rw [show aGet H (nI ss) f i = -2147483648 from if_neg (by omega)], mShF.rf σ, hs, by rw [show lLay H l (nI ss) f i = l from if_neg (by omega)]; exact hl⟩
    · rw [bI_eq0, Decidable.not_not] at zc16
      obtain ⟨ff, hff, rfl⟩ := gN_of (x := f) (n := 3) (by omega) (by omega) (by omega)
      refine gR.steps 4 (σ, (23, [some (.ref 0), some (.int (nI ss)), some (.int (nI ff)), some (.int i)], [.int i, .int (nI ff), .int (nI ss), .ref 0])) rfl ?_
      refine gR.call' rfl (s_X11_lacks (by omega) σ H ss (nI ff) i hs hss) ?_
      rintro _ _ ⟨rfl, rfl⟩ 
      have hc : (nI ss).toNatClampNeg = ss := nI_clamp (by omega)
      show gR _ _ _ (xLackM (xLack H ss (nI ff) i) σ) (26, [some (.ref 0), some (.int (nI ss)), some (.int (nI ff)), some (.int i)], [.int (xLackA (xLack H ss (nI ff) i))])
      refine gR.ifte rfl (fun zc26 => ?_) (fun zc26 => ?_)
      · rw [xLackA_0 (xLack_le H ss (nI ff) i)] at zc26
        obtain ⟨q1, q2, q3, q4⟩ := xLack_0 zc26
        have qz := (hs ss hss).2.2.1
        rw [show xLackM (xLack H ss (nI ff) i) σ = σ from if_pos zc26]
        obtain ⟨ii, hii, rfl⟩ := gN_of (x := i) (n := shZ H ss) q3 q4 (by omega)
        refine gR.steps 7 (σ, (42, [some (.ref 0), some (.int (nI ss)), some (.int (nI ff)), some (.int (nI ii))], [.int ((60 * (nI ss)) + (nI ii)), .ref 3])) rfl ?_
        refine gR.ald (i := (60 * (nI ss)) + (nI ii)) (j := 60 * ss + ii) (N := 240) (g := σ 3) rfl (gN_add (gN_mul rfl rfl) rfl) (by omega) (by omega) ?_
        refine gR.ret rfl ?_
        refine ⟨trivial, ?_, mShF.rf σ, hs, ?_⟩
        · rw [show aGet H (nI ss) (nI ff) (nI ii) = _ from if_pos ⟨⟨zc4, zc16⟩, by rw [hc]; exact zc26⟩, hc, nI_clamp (by omega)]; exact gSomeI (((hs ss hss).2.2.2.2 q1).2 ii hii)
        · rw [show lLay H l (nI ss) (nI ff) (nI ii) = l from if_neg (by rw [hc]; exact fun z => z.2 zc26)]; exact hl
      · rw [xLackA_0 (xLack_le H ss (nI ff) i)] at zc26
        refine gR.steps 1 (xLackM (xLack H ss (nI ff) i) σ, (31, [some (.ref 0), some (.int (nI ss)), some (.int (nI ff)), some (.int i)], [.int (-2147483648)])) rfl ?_
        refine gR.ret rfl ?_
        refine ⟨trivial, ?_, xLackM_F, xLackM_H hs, ?_⟩
        · rw [show aGet H (nI ss) (nI ff) i = _ from if_neg (by rw [hc]; exact fun z => zc26 z.2)]
        · rw [show lLay H l (nI ss) (nI ff) i = _ from if_pos ⟨⟨zc4, zc16⟩, by rw [hc]; exact zc26⟩, hc]; exact xLackM_L zc26
