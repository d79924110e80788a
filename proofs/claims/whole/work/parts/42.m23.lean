theorem cpI64 (a b : Int32) : (Int32.toInt64 a + Int32.toInt64 b).toInt = a.toInt + b.toInt := by
  rw [Int64.toInt_add, iI64, iI64]
  have h1 := Int32.le_toInt a
  have h2 := Int32.toInt_lt a
  have h3 := Int32.le_toInt b
  have h4 := Int32.toInt_lt b
  exact Int.bmod_eq_of_le (by omega) (by omega)
theorem lgc_le (x y : Int64) : lg_cmp x y ≤ 0 ↔ x.toInt ≤ y.toInt := by
  rw [← Int32.not_lt, lgc_gt]; omega
def xCp (H : xShe) (s t : Nat) (i j n : Int32) : Nat := if shF H s = -1 ∨ shF H t = -1 then 1 else if ¬ shF H s = shF H t then 4 else if i.toInt < 0 ∨ j.toInt < 0 ∨ n.toInt < 0 ∨ shZ H s < i.toInt + n.toInt ∨ shZ H t < j.toInt + n.toInt then 2 else 0
def shMove (H : xShe) (s i t j n : Nat) : xShe := (shF H, shZ H, fun q => if q = t then (fun x => if j ≤ x ∧ x < j + n then shI H s (i + (x - j)) else shI H t x) else shI H q)
def aCopy (H : xShe) (s i t j n : Int32) : Int32 := if (0 ≤ s.toInt ∧ s.toInt ≤ 3) ∧ (0 ≤ t.toInt ∧ t.toInt ≤ 3) then (if xCp H s.toNatClampNeg t.toNatClampNeg i j n = 0 then 1 else xFi (xCp H s.toNatClampNeg t.toNatClampNeg i j n)) else -2
def sCpy (H : xShe) (s i t j n : Int32) : xShe := if ((0 ≤ s.toInt ∧ s.toInt ≤ 3) ∧ (0 ≤ t.toInt ∧ t.toInt ≤ 3)) ∧ xCp H s.toNatClampNeg t.toNatClampNeg i j n = 0 then shMove H s.toNatClampNeg i.toNatClampNeg t.toNatClampNeg j.toNatClampNeg n.toNatClampNeg else H
def lCopy (H : xShe) (l : Nat) (s i t j n : Int32) : Nat := if ((0 ≤ s.toInt ∧ s.toInt ≤ 3) ∧ (0 ≤ t.toInt ∧ t.toInt ≤ 3)) ∧ ¬ xCp H s.toNatClampNeg t.toNatClampNeg i j n = 0 then xCp H s.toNatClampNeg t.toNatClampNeg i j n else l
def mMv (σ τ : gS) (f : Nat → Int32) (a : Nat) : Prop := (∀ q, q ≠ 4 → τ q = σ q) ∧ ∀ x, x < a → τ 4 x = f x
theorem mMv_up {σ τ : gS} {f : Nat → Int32} {a : Nat} {v : Int32} (h : mMv σ τ f a) (hv : v = f a) : mMv σ (gUp τ 4 a v) f (a + 1) := ⟨fun q hq => by rw [gUp_ne hq]; exact h.1 q hq, fun x hx => by
  by_cases hxa : x = a
  · rw [hxa, gUp_s]; exact hv
  · rw [gUp_o (by omega)]; exact h.2 x (by omega)⟩
def mMw (τ υ : gS) (f : Nat → Int32) (b a : Nat) : Prop := (∀ q, q ≠ 3 → υ q = τ q) ∧ (∀ x, x < a → υ 3 (b + x) = f x) ∧ ∀ x, (x < b ∨ b + a ≤ x) → υ 3 x = τ 3 x
theorem mMw_up {τ υ : gS} {f : Nat → Int32} {b a : Nat} {v : Int32} (h : mMw τ υ f b a) (hv : v = f a) : mMw τ (gUp υ 3 (b + a) v) f b (a + 1) := ⟨fun q hq => by rw [gUp_ne hq]; exact h.1 q hq, fun x hx => by
  by_cases hxa : x = a
  · rw [hxa, gUp_s]; exact hv
  · rw [gUp_o (by omega)]; exact h.2.1 x (by omega), fun x hx => by rw [gUp_o (by omega)]; exact h.2.2 x (by omega)⟩
theorem mSh_move {σ τ υ : gS} {H : xShe} {s i t j n : Nat} (h : mSh σ H) (ht : t < 4) (hf : ¬ shF H t = -1) (hj : j + n ≤ shZ H t) (hτ : ∀ q, q ≠ 4 → τ q = σ q) (hw : mMw τ υ (fun x => shI H s (i + x)) (60 * t + j) n) : mSh υ (shMove H s i t j n) := by
  intro q hq
  obtain ⟨a1, a2, a3, a4, a5⟩ := h q hq
  have at3 := (h t ht).2.2.1
  simp only [shMove, shF, shZ, shI]
  rw [hw.1 1 (by decide), hw.1 2 (by decide), hτ 1 (by decide), hτ 2 (by decide)]
  refine ⟨a1, a2, a3, a4, fun hz => ⟨(a5 hz).1, fun x hx => ?_⟩⟩
  have hx2 : x < shZ H q := hx
  have h60 : shZ H q ≤ 60 := a3
  by_cases hqt : q = t
  · subst hqt
    rw [if_pos rfl]
    by_cases hc : j ≤ x ∧ x < j + n
    · rw [if_pos hc]
      have e := hw.2.1 (x - j) (by omega)
      rw [show 60 * q + x = 60 * q + j + (x - j) by omega]; exact e
    · rw [if_neg hc, hw.2.2 _ (by omega), hτ 3 (by decide)]; exact (a5 hz).2 x hx
  · rw [if_neg hqt, hw.2.2 _ (by omega), hτ 3 (by decide)]; exact (a5 hz).2 x hx
theorem mMw_F {σ τ υ : gS} {f g : Nat → Int32} {a b c : Nat} (h1 : mMv σ τ f a) (h2 : mMw τ υ g b c) : mShF σ υ := ⟨fun q _ _ _ d e => (h2.1 q d).trans (h1.1 q e), fun s _ => by rw [h2.1 0 (by decide), h1.1 0 (by decide)]⟩
theorem s_X11_copy {d : Nat} (hd : 3 ≤ d) (σ : gS) (H : xShe) (l : Nat) (s i t j n : Int32) (hs : mSh σ H) (hl : mLa σ l) : gC d 127 [.ref 0, .int s, .int i, .int t, .int j, .int n] σ (fun r τ => r = some (.int (aCopy H s i t j n)) ∧ mShF σ τ ∧ mSh τ (sCpy H s i t j n) ∧ mLa τ (lCopy H l s i t j n)) := by
  obtain ⟨d, rfl⟩ : ∃ k, d = k + 1 := ⟨d - 1, by omega⟩
  refine gC.of (P := pX11_copy) (nL := 7) (rt := (some (.int))) (lv := [some (.ref 0), some (.int s), some (.int i), some (.int t), some (.int j), some (.int n), none]) (by decide +kernel) rfl rfl rfl (by simp [gEnt, Value.category]) rfl ?_
  refine gR.steps 1 (σ, (1, [some (.ref 0), some (.int s), some (.int i), some (.int t), some (.int j), some (.int n), none], [.int s])) rfl ?_
  refine gR.callp rfl (s_X11_isSheet (by omega) σ s) ?_
  refine gR.ifte rfl (fun zc4 => ?_) (fun zc4 => ?_)
  · rw [bI_eq0] at zc4
    refine gR.steps 1 (σ, (16, [some (.ref 0), some (.int s), some (.int i), some (.int t), some (.int j), some (.int n), none], [.int (-2)])) rfl ?_
    refine gR.ret rfl ?_
    exact ⟨trivial, by rw [show aCopy H s i t j n = -2 from if_neg (by omega)], mShF.rf σ, by rw [show sCpy H s i t j n = H from if_neg (by omega)]; exact hs, by rw [show lCopy H l s i t j n = l from if_neg (by omega)]; exact hl⟩
  · rw [bI_eq0, Decidable.not_not] at zc4
    obtain ⟨ss, hss, rfl⟩ := gN_of (x := s) (n := 4) (by omega) (by omega) (by omega)
    refine gR.steps 1 (σ, (8, [some (.ref 0), some (.int (nI ss)), some (.int i), some (.int t), some (.int j), some (.int n), none], [.int t])) rfl ?_
    refine gR.callp rfl (s_X11_isSheet (by omega) σ t) ?_
    refine gR.ifte rfl (fun zc11 => ?_) (fun zc11 => ?_)
    · rw [bI_ne0] at zc11
      obtain ⟨tt, htt, rfl⟩ := gN_of (x := t) (n := 4) (by omega) (by omega) (by omega)
      refine gR.steps 3 (σ, (22, [some (.ref 0), some (.int (nI ss)), some (.int i), some (.int (nI tt)), some (.int j), some (.int n), none], [.int (nI ss), .ref 1])) rfl ?_
      refine gR.ald (i := nI ss) (j := ss) (N := 4) (g := σ 1) rfl rfl (by omega) (by omega) ?_
      refine gR.ifte rfl (fun zc23 => ?_) (fun zc23 => ?_)
      · rw [(hs ss hss).1, shf_lt (hs ss hss).2.1] at zc23
        refine gR.steps 2 (σ, (37, [some (.ref 0), some (.int (nI ss)), some (.int i), some (.int (nI tt)), some (.int j), some (.int n), none], [.int 1, .ref 0])) rfl ?_
        refine gR.call' rfl (s_X11_finds (by omega) σ 1 (by omega)) ?_
        rintro _ _ ⟨rfl, rfl⟩ 
        show gR _ _ _ (gUp σ 0 4 (nI 1)) (40, [some (.ref 0), some (.int (nI ss)), some (.int i), some (.int (nI tt)), some (.int j), some (.int n), none], [.int (-10 - nI 1)])
        show gR _ _ _ (gUp σ 0 4 (nI 1)) (40, [some (.ref 0), some (.int (nI ss)), some (.int i), some (.int (nI tt)), some (.int j), some (.int n), none], [.int (-10 - nI 1)])
        refine gR.ret rfl ?_
        have hc : (nI ss).toNatClampNeg = ss := nI_clamp (by omega)
        have hd : (nI tt).toNatClampNeg = tt := nI_clamp (by omega)
        have hx : xCp H ss tt i j n = 1 := if_pos (by first | exact Or.inl zc23 | exact Or.inr (Decidable.not_not.mp zc32))
        refine ⟨trivial, ?_, mShF_fi (mShF.rf σ), ?_, ?_⟩
        · rw [show aCopy H (nI ss) i (nI tt) j n = _ from if_pos ⟨zc4, zc11⟩, hc, hd, hx]; rfl
        · rw [show sCpy H (nI ss) i (nI tt) j n = H from if_neg (by rw [hc, hd, hx]; exact fun z => absurd z.2 (by decide))]; exact mSh_fi hs
        · rw [show lCopy H l (nI ss) i (nI tt) j n = _ from if_pos ⟨⟨zc4, zc11⟩, by rw [hc, hd, hx]; decide⟩, hc, hd, hx]; exact gUp_s _ _ _ _
      · rw [(hs ss hss).1, shf_lt (hs ss hss).2.1] at zc23
        refine gR.steps 3 (σ, (31, [some (.ref 0), some (.int (nI ss)), some (.int i), some (.int (nI tt)), some (.int j), some (.int n), none], [.int (nI tt), .ref 1])) rfl ?_
        refine gR.ald (i := nI tt) (j := tt) (N := 4) (g := σ 1) rfl rfl (by omega) (by omega) ?_
        refine gR.ifte rfl (fun zc32 => ?_) (fun zc32 => ?_)
        · rw [(hs tt htt).1, shf_ge (hs tt htt).2.1] at zc32
          have hFs := zc23
          have hFt := zc32
          refine gR.steps 3 (σ, (46, [some (.ref 0), some (.int (nI ss)), some (.int i), some (.int (nI tt)), some (.int j), some (.int n), none], [.int (nI ss), .ref 1])) rfl ?_
          refine gR.ald (i := nI ss) (j := ss) (N := 4) (g := σ 1) rfl rfl (by omega) (by omega) ?_
          refine gR.steps 3 (σ, (52, [some (.ref 0), some (.int (nI ss)), some (.int i), some (.int (nI tt)), some (.int j), some (.int n), none], [.int (nI tt), .ref 1, .int (σ 1 ss)])) rfl ?_
          refine gR.ald (i := nI tt) (j := tt) (N := 4) (g := σ 1) rfl rfl (by omega) (by omega) ?_
          refine gR.ifte rfl (fun zc53 => ?_) (fun zc53 => ?_)
          · rw [(hs ss hss).1, (hs tt htt).1] at zc53
            refine gR.steps 1 (σ, (63, [some (.ref 0), some (.int (nI ss)), some (.int i), some (.int (nI tt)), some (.int j), some (.int n), none], [.int i])) rfl ?_
            refine gR.ifte rfl (fun zc63 => ?_) (fun zc63 => ?_)
            · rw [Int32.lt_iff_toInt_lt, Int32.toInt_zero] at zc63
              refine gR.steps 2 (σ, (113, [some (.ref 0), some (.int (nI ss)), some (.int i), some (.int (nI tt)), some (.int j), some (.int n), none], [.int 2, .ref 0])) rfl ?_
              refine gR.call' rfl (s_X11_finds (by omega) σ 2 (by omega)) ?_
              rintro _ _ ⟨rfl, rfl⟩ 
              show gR _ _ _ (gUp σ 0 4 (nI 2)) (116, [some (.ref 0), some (.int (nI ss)), some (.int i), some (.int (nI tt)), some (.int j), some (.int n), none], [.int (-10 - nI 2)])
              show gR _ _ _ (gUp σ 0 4 (nI 2)) (116, [some (.ref 0), some (.int (nI ss)), some (.int i), some (.int (nI tt)), some (.int j), some (.int n), none], [.int (-10 - nI 2)])
              refine gR.ret rfl ?_
              have hc : (nI ss).toNatClampNeg = ss := nI_clamp (by omega)
              have hd : (nI tt).toNatClampNeg = tt := nI_clamp (by omega)
              have hx : xCp H ss tt i j n = 2 := (if_neg (fun z => z.elim hFs hFt)).trans ((if_neg (Decidable.not_not.mpr zc53)).trans (if_pos (by omega)))
              refine ⟨trivial, ?_, mShF_fi (mShF.rf σ), ?_, ?_⟩
              · rw [show aCopy H (nI ss) i (nI tt) j n = _ from if_pos ⟨zc4, zc11⟩, hc, hd, hx]; rfl
              · rw [show sCpy H (nI ss) i (nI tt) j n = H from if_neg (by rw [hc, hd, hx]; exact fun z => absurd z.2 (by decide))]; exact mSh_fi hs
              · rw [show lCopy H l (nI ss) i (nI tt) j n = _ from if_pos ⟨⟨zc4, zc11⟩, by rw [hc, hd, hx]; decide⟩, hc, hd, hx]; exact gUp_s _ _ _ _
            · rw [Int32.lt_iff_toInt_lt, Int32.toInt_zero] at zc63
              refine gR.steps 1 (σ, (68, [some (.ref 0), some (.int (nI ss)), some (.int i), some (.int (nI tt)), some (.int j), some (.int n), none], [.int j])) rfl ?_
              refine gR.ifte rfl (fun zc68 => ?_) (fun zc68 => ?_)
              · rw [Int32.lt_iff_toInt_lt, Int32.toInt_zero] at zc68
                refine gR.steps 2 (σ, (113, [some (.ref 0), some (.int (nI ss)), some (.int i), some (.int (nI tt)), some (.int j), some (.int n), none], [.int 2, .ref 0])) rfl ?_
                refine gR.call' rfl (s_X11_finds (by omega) σ 2 (by omega)) ?_
                rintro _ _ ⟨rfl, rfl⟩ 
                show gR _ _ _ (gUp σ 0 4 (nI 2)) (116, [some (.ref 0), some (.int (nI ss)), some (.int i), some (.int (nI tt)), some (.int j), some (.int n), none], [.int (-10 - nI 2)])
                show gR _ _ _ (gUp σ 0 4 (nI 2)) (116, [some (.ref 0), some (.int (nI ss)), some (.int i), some (.int (nI tt)), some (.int j), some (.int n), none], [.int (-10 - nI 2)])
                refine gR.ret rfl ?_
                have hc : (nI ss).toNatClampNeg = ss := nI_clamp (by omega)
                have hd : (nI tt).toNatClampNeg = tt := nI_clamp (by omega)
                have hx : xCp H ss tt i j n = 2 := (if_neg (fun z => z.elim hFs hFt)).trans ((if_neg (Decidable.not_not.mpr zc53)).trans (if_pos (by omega)))
                refine ⟨trivial, ?_, mShF_fi (mShF.rf σ), ?_, ?_⟩
                · rw [show aCopy H (nI ss) i (nI tt) j n = _ from if_pos ⟨zc4, zc11⟩, hc, hd, hx]; rfl
                · rw [show sCpy H (nI ss) i (nI tt) j n = H from if_neg (by rw [hc, hd, hx]; exact fun z => absurd z.2 (by decide))]; exact mSh_fi hs
                · rw [show lCopy H l (nI ss) i (nI tt) j n = _ from if_pos ⟨⟨zc4, zc11⟩, by rw [hc, hd, hx]; decide⟩, hc, hd, hx]; exact gUp_s _ _ _ _
              · rw [Int32.lt_iff_toInt_lt, Int32.toInt_zero] at zc68
                refine gR.steps 1 (σ, (73, [some (.ref 0), some (.int (nI ss)), some (.int i), some (.int (nI tt)), some (.int j), some (.int n), none], [.int n])) rfl ?_
                refine gR.ifte rfl (fun zc73 => ?_) (fun zc73 => ?_)
                · rw [Int32.lt_iff_toInt_lt, Int32.toInt_zero] at zc73
                  refine gR.steps 2 (σ, (113, [some (.ref 0), some (.int (nI ss)), some (.int i), some (.int (nI tt)), some (.int j), some (.int n), none], [.int 2, .ref 0])) rfl ?_
                  refine gR.call' rfl (s_X11_finds (by omega) σ 2 (by omega)) ?_
                  rintro _ _ ⟨rfl, rfl⟩ 
                  show gR _ _ _ (gUp σ 0 4 (nI 2)) (116, [some (.ref 0), some (.int (nI ss)), some (.int i), some (.int (nI tt)), some (.int j), some (.int n), none], [.int (-10 - nI 2)])
                  show gR _ _ _ (gUp σ 0 4 (nI 2)) (116, [some (.ref 0), some (.int (nI ss)), some (.int i), some (.int (nI tt)), some (.int j), some (.int n), none], [.int (-10 - nI 2)])
                  refine gR.ret rfl ?_
                  have hc : (nI ss).toNatClampNeg = ss := nI_clamp (by omega)
                  have hd : (nI tt).toNatClampNeg = tt := nI_clamp (by omega)
                  have hx : xCp H ss tt i j n = 2 := (if_neg (fun z => z.elim hFs hFt)).trans ((if_neg (Decidable.not_not.mpr zc53)).trans (if_pos (by omega)))
                  refine ⟨trivial, ?_, mShF_fi (mShF.rf σ), ?_, ?_⟩
                  · rw [show aCopy H (nI ss) i (nI tt) j n = _ from if_pos ⟨zc4, zc11⟩, hc, hd, hx]; rfl
                  · rw [show sCpy H (nI ss) i (nI tt) j n = H from if_neg (by rw [hc, hd, hx]; exact fun z => absurd z.2 (by decide))]; exact mSh_fi hs
                  · rw [show lCopy H l (nI ss) i (nI tt) j n = _ from if_pos ⟨⟨zc4, zc11⟩, by rw [hc, hd, hx]; decide⟩, hc, hd, hx]; exact gUp_s _ _ _ _
                · rw [Int32.lt_iff_toInt_lt, Int32.toInt_zero] at zc73
                  obtain ⟨ii, hii, rfl⟩ := gN_of (x := i) (n := 2147483648) (by omega) (by have := Int32.toInt_lt i; omega) (by omega)
                  obtain ⟨jj, hjj, rfl⟩ := gN_of (x := j) (n := 2147483648) (by omega) (by have := Int32.toInt_lt j; omega) (by omega)
                  obtain ⟨nn, hnn, rfl⟩ := gN_of (x := n) (n := 2147483648) (by omega) (by have := Int32.toInt_lt n; omega) (by omega)
                  refine gR.steps 8 (σ, (87, [some (.ref 0), some (.int (nI ss)), some (.int (nI ii)), some (.int (nI tt)), some (.int (nI jj)), some (.int (nI nn)), none], [.int (nI ss), .ref 2, .long ((Int32.toInt64 (nI ii)) + (Int32.toInt64 (nI nn)))])) rfl ?_
                  refine gR.ald (i := nI ss) (j := ss) (N := 4) (g := σ 2) rfl rfl (by omega) (by omega) ?_
                  refine gR.steps 2 (σ, (90, [some (.ref 0), some (.int (nI ss)), some (.int (nI ii)), some (.int (nI tt)), some (.int (nI jj)), some (.int (nI nn)), none], [.int (lg_cmp ((Int32.toInt64 (nI ii)) + (Int32.toInt64 (nI nn))) (Int32.toInt64 (σ 2 ss)))])) rfl ?_
                  refine gR.ifte rfl (fun zc90 => ?_) (fun zc90 => ?_)
                  · have hzs := (hs ss hss).2.2.1
                    rw [lgc_gt, cpI64, iI64, ((hs ss hss).2.2.2.2 hFs).1, show (nI (shZ H ss)).toInt = shZ H ss from nI_toInt (by omega)] at zc90
                    refine gR.steps 2 (σ, (113, [some (.ref 0), some (.int (nI ss)), some (.int (nI ii)), some (.int (nI tt)), some (.int (nI jj)), some (.int (nI nn)), none], [.int 2, .ref 0])) rfl ?_
                    refine gR.call' rfl (s_X11_finds (by omega) σ 2 (by omega)) ?_
                    rintro _ _ ⟨rfl, rfl⟩ 
                    show gR _ _ _ (gUp σ 0 4 (nI 2)) (116, [some (.ref 0), some (.int (nI ss)), some (.int (nI ii)), some (.int (nI tt)), some (.int (nI jj)), some (.int (nI nn)), none], [.int (-10 - nI 2)])
                    show gR _ _ _ (gUp σ 0 4 (nI 2)) (116, [some (.ref 0), some (.int (nI ss)), some (.int (nI ii)), some (.int (nI tt)), some (.int (nI jj)), some (.int (nI nn)), none], [.int (-10 - nI 2)])
                    refine gR.ret rfl ?_
                    have hc : (nI ss).toNatClampNeg = ss := nI_clamp (by omega)
                    have hd : (nI tt).toNatClampNeg = tt := nI_clamp (by omega)
                    have hx : xCp H ss tt (nI ii) (nI jj) (nI nn) = 2 := (if_neg (fun z => z.elim hFs hFt)).trans ((if_neg (Decidable.not_not.mpr zc53)).trans (if_pos (by omega)))
                    refine ⟨trivial, ?_, mShF_fi (mShF.rf σ), ?_, ?_⟩
                    · rw [show aCopy H (nI ss) (nI ii) (nI tt) (nI jj) (nI nn) = _ from if_pos ⟨zc4, zc11⟩, hc, hd, hx]; rfl
                    · rw [show sCpy H (nI ss) (nI ii) (nI tt) (nI jj) (nI nn) = H from if_neg (by rw [hc, hd, hx]; exact fun z => absurd z.2 (by decide))]; exact mSh_fi hs
                    · rw [show lCopy H l (nI ss) (nI ii) (nI tt) (nI jj) (nI nn) = _ from if_pos ⟨⟨zc4, zc11⟩, by rw [hc, hd, hx]; decide⟩, hc, hd, hx]; exact gUp_s _ _ _ _
                  · have hzs := (hs ss hss).2.2.1
                    rw [lgc_gt, cpI64, iI64, ((hs ss hss).2.2.2.2 hFs).1, show (nI (shZ H ss)).toInt = shZ H ss from nI_toInt (by omega)] at zc90
                    refine gR.steps 8 (σ, (105, [some (.ref 0), some (.int (nI ss)), some (.int (nI ii)), some (.int (nI tt)), some (.int (nI jj)), some (.int (nI nn)), none], [.int (nI tt), .ref 2, .long ((Int32.toInt64 (nI jj)) + (Int32.toInt64 (nI nn)))])) rfl ?_
                    refine gR.ald (i := nI tt) (j := tt) (N := 4) (g := σ 2) rfl rfl (by omega) (by omega) ?_
                    refine gR.steps 2 (σ, (108, [some (.ref 0), some (.int (nI ss)), some (.int (nI ii)), some (.int (nI tt)), some (.int (nI jj)), some (.int (nI nn)), none], [.int (lg_cmp ((Int32.toInt64 (nI jj)) + (Int32.toInt64 (nI nn))) (Int32.toInt64 (σ 2 tt)))])) rfl ?_
                    refine gR.ifte rfl (fun zc108 => ?_) (fun zc108 => ?_)
                    · have hzt := (hs tt htt).2.2.1
                      rw [lgc_le, cpI64, iI64, ((hs tt htt).2.2.2.2 hFt).1, show (nI (shZ H tt)).toInt = shZ H tt from nI_toInt (by omega)] at zc108
                      have hIs := (hs ss hss).2.2.2.2 hFs
                      rw [nI_toInt (by omega), nI_toInt (by omega)] at zc90
                      rw [nI_toInt (by omega), nI_toInt (by omega)] at zc108
                      refine gR.steps 2 (σ, (120, [some (.ref 0), some (.int (nI ss)), some (.int (nI ii)), some (.int (nI tt)), some (.int (nI jj)), some (.int (nI nn)), some (.int 0)], [])) rfl ?_
                      refine gR.forget [some (.ref 0), some (.int (nI ss)), some (.int (nI ii)), some (.int (nI tt)), some (.int (nI jj)), some (.int (nI nn)), some (.int 0)] ⟨rfl, ⟨rfl, ⟨rfl, ⟨rfl, ⟨rfl, ⟨rfl, ⟨rfl, trivial⟩⟩⟩⟩⟩⟩⟩ ?_
                      refine gR.loop (α := Nat × gS) (fun ⟨a, τ⟩ => a ≤ nn ∧ mMv σ τ (fun x => shI H ss (ii + x)) a) (fun ⟨a, τ⟩ => nn - a) (fun ⟨a, τ⟩ => (τ, (120, [some (.ref 0), some (.int (nI ss)), some (.int (nI ii)), some (.int (nI tt)), some (.int (nI jj)), some (.int (nI nn)), some (.int (nI a))], []))) ?_ ⟨0, σ⟩ ⟨Nat.zero_le nn, fun _ _ => rfl, fun x hx => absurd hx (Nat.not_lt_zero x)⟩
                      rintro ⟨a, τ⟩ ⟨ha, hM⟩ ih
                      show gR _ _ _ τ (120, [some (.ref 0), some (.int (nI ss)), some (.int (nI ii)), some (.int (nI tt)), some (.int (nI jj)), some (.int (nI nn)), some (.int (nI a))], [])
                      refine gR.steps 2 (τ, (124, [some (.ref 0), some (.int (nI ss)), some (.int (nI ii)), some (.int (nI tt)), some (.int (nI jj)), some (.int (nI nn)), some (.int (nI a))], [.int (nI nn), .int (nI a)])) rfl ?_
                      refine gR.ifte rfl (fun zc124 => ?_) (fun zc124 => ?_)
                      · rw [gN_le (x := nI nn) (y := nI a) (a := nn) (b := a) rfl rfl (by omega) (by omega)] at zc124
                        refine gR.steps 2 (τ, (157, [some (.ref 0), some (.int (nI ss)), some (.int (nI ii)), some (.int (nI tt)), some (.int (nI jj)), some (.int (nI nn)), some (.int 0)], [])) rfl ?_
                        refine gR.forget [some (.ref 0), some (.int (nI ss)), some (.int (nI ii)), some (.int (nI tt)), some (.int (nI jj)), some (.int (nI nn)), some (.int 0)] ⟨rfl, ⟨rfl, ⟨rfl, ⟨rfl, ⟨rfl, ⟨rfl, ⟨rfl, trivial⟩⟩⟩⟩⟩⟩⟩ ?_
                        refine gR.loop (α := Nat × gS) (fun ⟨a, υ⟩ => a ≤ nn ∧ mMw τ υ (fun x => shI H ss (ii + x)) (60 * tt + jj) a) (fun ⟨a, υ⟩ => nn - a) (fun ⟨a, υ⟩ => (υ, (157, [some (.ref 0), some (.int (nI ss)), some (.int (nI ii)), some (.int (nI tt)), some (.int (nI jj)), some (.int (nI nn)), some (.int (nI a))], []))) ?_ ⟨0, τ⟩ ⟨Nat.zero_le nn, fun _ _ => rfl, fun x hx => absurd hx (Nat.not_lt_zero x), fun _ _ => rfl⟩
                        rintro ⟨a, υ⟩ ⟨ha2, hW⟩ ih2
                        show gR _ _ _ υ (157, [some (.ref 0), some (.int (nI ss)), some (.int (nI ii)), some (.int (nI tt)), some (.int (nI jj)), some (.int (nI nn)), some (.int (nI a))], [])
                        refine gR.steps 2 (υ, (161, [some (.ref 0), some (.int (nI ss)), some (.int (nI ii)), some (.int (nI tt)), some (.int (nI jj)), some (.int (nI nn)), some (.int (nI a))], [.int (nI nn), .int (nI a)])) rfl ?_
                        refine gR.ifte rfl (fun zc161 => ?_) (fun zc161 => ?_)
                        · rw [gN_le (x := nI nn) (y := nI a) (a := nn) (b := a) rfl rfl (by omega) (by omega)] at zc161
                          refine gR.steps 1 (υ, (193, [some (.ref 0), some (.int (nI ss)), some (.int (nI ii)), some (.int (nI tt)), some (.int (nI jj)), some (.int (nI nn)), some (.int (nI a))], [.int 1])) rfl ?_
                          refine gR.ret rfl ?_
                          obtain rfl : a = nn := by omega
                          have hc : (nI ss).toNatClampNeg = ss := nI_clamp (by omega)
                          have hd : (nI tt).toNatClampNeg = tt := nI_clamp (by omega)
                          have hx : xCp H ss tt (nI ii) (nI jj) (nI a) = 0 := (if_neg (fun z => z.elim hFs hFt)).trans ((if_neg (Decidable.not_not.mpr zc53)).trans (if_neg (by rw [nI_toInt (by omega), nI_toInt (by omega), nI_toInt (by omega)]; omega)))
                          refine ⟨trivial, ?_, mMw_F hM hW, ?_, ?_⟩
                          · rw [show aCopy H (nI ss) (nI ii) (nI tt) (nI jj) (nI a) = _ from if_pos ⟨zc4, zc11⟩, hc, hd, hx]; rfl
                          · rw [show sCpy H (nI ss) (nI ii) (nI tt) (nI jj) (nI a) = _ from if_pos ⟨⟨zc4, zc11⟩, by rw [hc, hd]; exact hx⟩, hc, hd, nI_clamp (by omega), nI_clamp (by omega), nI_clamp (by omega)]; exact mSh_move hs htt hFt (by omega) hM.1 hW
                          · rw [show lCopy H l (nI ss) (nI ii) (nI tt) (nI jj) (nI a) = l from if_neg (by rw [hc, hd, hx]; exact fun z => z.2 rfl)]; show υ 0 4 = nI l; rw [hW.1 0 (by decide), hM.1 0 (by decide)]; exact hl
                        · rw [gN_le (x := nI nn) (y := nI a) (a := nn) (b := a) rfl rfl (by omega) (by omega)] at zc161
                          refine gR.steps 12 (υ, (184, [some (.ref 0), some (.int (nI ss)), some (.int (nI ii)), some (.int (nI tt)), some (.int (nI jj)), some (.int (nI nn)), some (.int (nI a))], [.int (nI a), .ref 4, .int (((60 * (nI tt)) + (nI jj)) + (nI a)), .ref 3])) rfl ?_
                          refine gR.ald (i := nI a) (j := a) (N := 60) (g := υ 4) rfl rfl (by omega) (by omega) ?_
                          refine gR.ast (i := ((60 * (nI tt)) + (nI jj)) + (nI a)) (j := 60 * tt + jj + a) (N := 240) (q := 3) (x := υ 4 a) rfl (gN_add (gN_add (gN_mul rfl rfl) rfl) rfl) (by omega) (by omega) ?_
                          refine gR.steps 2 (gUp υ 3 (60 * tt + jj + a) (υ 4 a), (157, [some (.ref 0), some (.int (nI ss)), some (.int (nI ii)), some (.int (nI tt)), some (.int (nI jj)), some (.int (nI nn)), some (.int ((nI a) + 1))], [])) rfl ?_
                          refine gR.forget [some (.ref 0), some (.int (nI ss)), some (.int (nI ii)), some (.int (nI tt)), some (.int (nI jj)), some (.int (nI nn)), some (.int (nI (a + 1)))] ⟨rfl, ⟨rfl, ⟨rfl, ⟨rfl, ⟨rfl, ⟨rfl, ⟨gSomeI (gN_add rfl rfl), trivial⟩⟩⟩⟩⟩⟩⟩ ?_
                          exact ih2 ⟨a + 1, _⟩ ⟨by omega, mMw_up hW (by rw [hW.1 4 (by decide)]; exact hM.2 a (by omega))⟩ (by dsimp only; omega)
                      · rw [gN_le (x := nI nn) (y := nI a) (a := nn) (b := a) rfl rfl (by omega) (by omega)] at zc124
                        refine gR.steps 12 (τ, (146, [some (.ref 0), some (.int (nI ss)), some (.int (nI ii)), some (.int (nI tt)), some (.int (nI jj)), some (.int (nI nn)), some (.int (nI a))], [.int (((60 * (nI ss)) + (nI ii)) + (nI a)), .ref 3, .int (nI a), .ref 4])) rfl ?_
                        refine gR.ald (i := ((60 * (nI ss)) + (nI ii)) + (nI a)) (j := 60 * ss + ii + a) (N := 240) (g := τ 3) rfl (gN_add (gN_add (gN_mul rfl rfl) rfl) rfl) (by omega) (by omega) ?_
                        refine gR.ast (i := nI a) (j := a) (N := 60) (q := 4) (x := τ 3 (60 * ss + ii + a)) rfl rfl (by omega) (by omega) ?_
                        refine gR.steps 2 (gUp τ 4 a (τ 3 (60 * ss + ii + a)), (120, [some (.ref 0), some (.int (nI ss)), some (.int (nI ii)), some (.int (nI tt)), some (.int (nI jj)), some (.int (nI nn)), some (.int ((nI a) + 1))], [])) rfl ?_
                        refine gR.forget [some (.ref 0), some (.int (nI ss)), some (.int (nI ii)), some (.int (nI tt)), some (.int (nI jj)), some (.int (nI nn)), some (.int (nI (a + 1)))] ⟨rfl, ⟨rfl, ⟨rfl, ⟨rfl, ⟨rfl, ⟨rfl, ⟨gSomeI (gN_add rfl rfl), trivial⟩⟩⟩⟩⟩⟩⟩ ?_
                        exact ih ⟨a + 1, _⟩ ⟨by omega, mMv_up hM (by rw [hM.1 3 (by decide), Nat.add_assoc]; exact hIs.2 (ii + a) (by omega))⟩ (by dsimp only; omega)
                    · have hzt := (hs tt htt).2.2.1
                      rw [lgc_le, cpI64, iI64, ((hs tt htt).2.2.2.2 hFt).1, show (nI (shZ H tt)).toInt = shZ H tt from nI_toInt (by omega)] at zc108
                      refine gR.steps 2 (σ, (113, [some (.ref 0), some (.int (nI ss)), some (.int (nI ii)), some (.int (nI tt)), some (.int (nI jj)), some (.int (nI nn)), none], [.int 2, .ref 0])) rfl ?_
                      refine gR.call' rfl (s_X11_finds (by omega) σ 2 (by omega)) ?_
                      rintro _ _ ⟨rfl, rfl⟩ 
                      show gR _ _ _ (gUp σ 0 4 (nI 2)) (116, [some (.ref 0), some (.int (nI ss)), some (.int (nI ii)), some (.int (nI tt)), some (.int (nI jj)), some (.int (nI nn)), none], [.int (-10 - nI 2)])
                      show gR _ _ _ (gUp σ 0 4 (nI 2)) (116, [some (.ref 0), some (.int (nI ss)), some (.int (nI ii)), some (.int (nI tt)), some (.int (nI jj)), some (.int (nI nn)), none], [.int (-10 - nI 2)])
                      refine gR.ret rfl ?_
                      have hc : (nI ss).toNatClampNeg = ss := nI_clamp (by omega)
                      have hd : (nI tt).toNatClampNeg = tt := nI_clamp (by omega)
                      have hx : xCp H ss tt (nI ii) (nI jj) (nI nn) = 2 := (if_neg (fun z => z.elim hFs hFt)).trans ((if_neg (Decidable.not_not.mpr zc53)).trans (if_pos (by omega)))
                      refine ⟨trivial, ?_, mShF_fi (mShF.rf σ), ?_, ?_⟩
                      · rw [show aCopy H (nI ss) (nI ii) (nI tt) (nI jj) (nI nn) = _ from if_pos ⟨zc4, zc11⟩, hc, hd, hx]; rfl
                      · rw [show sCpy H (nI ss) (nI ii) (nI tt) (nI jj) (nI nn) = H from if_neg (by rw [hc, hd, hx]; exact fun z => absurd z.2 (by decide))]; exact mSh_fi hs
                      · rw [show lCopy H l (nI ss) (nI ii) (nI tt) (nI jj) (nI nn) = _ from if_pos ⟨⟨zc4, zc11⟩, by rw [hc, hd, hx]; decide⟩, hc, hd, hx]; exact gUp_s _ _ _ _
          · rw [(hs ss hss).1, (hs tt htt).1] at zc53
            refine gR.steps 2 (σ, (58, [some (.ref 0), some (.int (nI ss)), some (.int i), some (.int (nI tt)), some (.int j), some (.int n), none], [.int 4, .ref 0])) rfl ?_
            refine gR.call' rfl (s_X11_finds (by omega) σ 4 (by omega)) ?_
            rintro _ _ ⟨rfl, rfl⟩ 
            show gR _ _ _ (gUp σ 0 4 (nI 4)) (61, [some (.ref 0), some (.int (nI ss)), some (.int i), some (.int (nI tt)), some (.int j), some (.int n), none], [.int (-10 - nI 4)])
            show gR _ _ _ (gUp σ 0 4 (nI 4)) (61, [some (.ref 0), some (.int (nI ss)), some (.int i), some (.int (nI tt)), some (.int j), some (.int n), none], [.int (-10 - nI 4)])
            refine gR.ret rfl ?_
            have hc : (nI ss).toNatClampNeg = ss := nI_clamp (by omega)
            have hd : (nI tt).toNatClampNeg = tt := nI_clamp (by omega)
            have hx : xCp H ss tt i j n = 4 := (if_neg (fun z => z.elim hFs hFt)).trans (if_pos zc53)
            refine ⟨trivial, ?_, mShF_fi (mShF.rf σ), ?_, ?_⟩
            · rw [show aCopy H (nI ss) i (nI tt) j n = _ from if_pos ⟨zc4, zc11⟩, hc, hd, hx]; rfl
            · rw [show sCpy H (nI ss) i (nI tt) j n = H from if_neg (by rw [hc, hd, hx]; exact fun z => absurd z.2 (by decide))]; exact mSh_fi hs
            · rw [show lCopy H l (nI ss) i (nI tt) j n = _ from if_pos ⟨⟨zc4, zc11⟩, by rw [hc, hd, hx]; decide⟩, hc, hd, hx]; exact gUp_s _ _ _ _
        · rw [(hs tt htt).1, shf_ge (hs tt htt).2.1] at zc32
          refine gR.steps 2 (σ, (37, [some (.ref 0), some (.int (nI ss)), some (.int i), some (.int (nI tt)), some (.int j), some (.int n), none], [.int 1, .ref 0])) rfl ?_
          refine gR.call' rfl (s_X11_finds (by omega) σ 1 (by omega)) ?_
          rintro _ _ ⟨rfl, rfl⟩ 
          show gR _ _ _ (gUp σ 0 4 (nI 1)) (40, [some (.ref 0), some (.int (nI ss)), some (.int i), some (.int (nI tt)), some (.int j), some (.int n), none], [.int (-10 - nI 1)])
          show gR _ _ _ (gUp σ 0 4 (nI 1)) (40, [some (.ref 0), some (.int (nI ss)), some (.int i), some (.int (nI tt)), some (.int j), some (.int n), none], [.int (-10 - nI 1)])
          refine gR.ret rfl ?_
          have hc : (nI ss).toNatClampNeg = ss := nI_clamp (by omega)
          have hd : (nI tt).toNatClampNeg = tt := nI_clamp (by omega)
          have hx : xCp H ss tt i j n = 1 := if_pos (by first | exact Or.inl zc23 | exact Or.inr (Decidable.not_not.mp zc32))
          refine ⟨trivial, ?_, mShF_fi (mShF.rf σ), ?_, ?_⟩
          · rw [show aCopy H (nI ss) i (nI tt) j n = _ from if_pos ⟨zc4, zc11⟩, hc, hd, hx]; rfl
          · rw [show sCpy H (nI ss) i (nI tt) j n = H from if_neg (by rw [hc, hd, hx]; exact fun z => absurd z.2 (by decide))]; exact mSh_fi hs
          · rw [show lCopy H l (nI ss) i (nI tt) j n = _ from if_pos ⟨⟨zc4, zc11⟩, by rw [hc, hd, hx]; decide⟩, hc, hd, hx]; exact gUp_s _ _ _ _
    · rw [bI_ne0] at zc11
      refine gR.steps 1 (σ, (16, [some (.ref 0), some (.int (nI ss)), some (.int i), some (.int t), some (.int j), some (.int n), none], [.int (-2)])) rfl ?_
      refine gR.ret rfl ?_
      exact ⟨trivial, by rw [show aCopy H (nI ss) i t j n = -2 from if_neg (by omega)], mShF.rf σ, by rw [show sCpy H (nI ss) i t j n = H from if_neg (by omega)]; exact hs, by rw [show lCopy H l (nI ss) i t j n = l from if_neg (by omega)]; exact hl⟩
