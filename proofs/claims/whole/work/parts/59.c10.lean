theorem xFst_is {g : Nat → Bool} : ∀ {n : Nat}, xFst g n < n → ¬ g (xFst g n) = true
  | 0, h => absurd h (Nat.not_lt_zero _)
  | n + 1, h => by
    simp only [xFst] at h ⊢
    by_cases h1 : xFst g n < n
    · rw [if_pos h1]; exact xFst_is h1
    · rw [if_neg h1] at h ⊢
      by_cases h2 : g n = true
      · rw [if_pos h2] at h; omega
      · rw [if_neg h2]; exact h2
theorem m1_of {t : Int32} (h : -1 ≤ t.toInt ∧ t.toInt ≤ 1) : t = -1 ∨ t = 0 ∨ t = 1 := by
  rcases (show t.toInt = -1 ∨ t.toInt = 0 ∨ t.toInt = 1 by omega) with z | z | z
  · exact Or.inl (Int32.toInt_inj.mp (by rw [z]; decide))
  · exact Or.inr (Or.inl (Int32.toInt_inj.mp (by rw [z]; decide)))
  · exact Or.inr (Or.inr (Int32.toInt_inj.mp (by rw [z]; decide)))
theorem fw_cs (D : xDat) (h8 : dN D ≤ 8) : (fwL D = -1 ∧ ∀ i, dSave D i = (-1 : Int32)) ∨ (¬ fwL D = -1 ∧ dSave D (-1) = nI (xPop (fwL D)) ∧ dSave D 0 = xPl (fwL D) 8 0 ∧ dSave D 1 = xPl (fwL D) 8 1) := by
  unfold fwL dSave
  have n1 : ¬ (0 : Int32) = -1 := by decide
  have n2 : ¬ (1 : Int32) = -1 := by decide
  have n3 : ¬ (1 : Int32) = 0 := by decide
  by_cases h0 : dBareG D gn0 = 0
  · right
    simp only [if_pos h0, if_pos rfl, if_neg n1, if_neg n2]
    exact ⟨n1, by rw [xPop_0]; rfl, pl_0.1.symm, pl_0.2.symm⟩
  · by_cases h1 : dSv1 D < dN D
    · right
      obtain ⟨a1, a2, a3, a4⟩ := pl_1 (dSv1 D) (by omega)
      simp only [if_neg h0, if_pos h1, if_pos rfl, if_neg n1, if_neg n2, if_neg n3]
      exact ⟨a4, by rw [a3]; rfl, a1.symm, a2.symm⟩
    · by_cases h2 : dSv2 D < 64
      · right
        have hab : dSv2 D / 8 < dSv2 D % 8 := by
          have : ¬ sv2 D (dSv2 D) = true := xFst_is h2
          unfold sv2 at this
          by_cases z : dSv2 D / 8 < dSv2 D % 8
          · exact z
          · rw [decide_eq_false z] at this; exact absurd rfl this
        obtain ⟨a1, a2, a3, a4⟩ := pl_2 (dSv2 D / 8) (by omega) (dSv2 D % 8) (by omega) hab
        simp only [if_neg h0, if_neg h1, if_pos h2, if_pos rfl, if_neg n1, if_neg n2, if_neg n3]
        exact ⟨a4, by rw [a3]; rfl, a1.symm, a2.symm⟩
      · left
        simp only [if_neg h0, if_neg h1, if_neg h2]
        exact ⟨trivial, fun _ => trivial⟩
theorem s_X10_saveM {d : Nat} (hd : 6 ≤ d) (σ : gS) (D : xDat) (hs : cSt σ D) : gC d 62 [.ref 18, .int (-1)] σ (fun r τ => r = some (.int (aSave D (-1))) ∧ cKeep σ τ) := by
  obtain ⟨d, rfl⟩ : ∃ k, d = k + 1 := ⟨d - 1, by omega⟩
  refine gC.of (P := pX10_save) (nL := 3) (rt := (some (.int))) (lv := [some (.ref 18), some (.int (-1)), none]) (by decide +kernel) rfl rfl rfl (by simp [gEnt, Value.category]) rfl ?_
  refine gR.steps 3 (σ, (3, [some (.ref 18), some (.int (-1)), none], [.int 1, .int (-1), .int (-1)])) rfl ?_
  refine gR.callp rfl (s_X10_withinI (by omega) σ (-1) (-1) 1 (-1) 1 (by decide) (by decide)) ?_
  refine gR.brT rfl (by rw [bI_ne0]; decide) ?_
  refine gR.steps 1 (σ, (13, [some (.ref 18), some (.int (-1)), none], [.ref 18])) rfl ?_
  refine gR.call' rfl (s_X10_fewestToLose (by omega) σ D hs) ?_
  rintro _ τ ⟨rfl, hF⟩
  have hcs := fw_cs D hs.2.2.1.2.1
  show gR _ _ _ τ (16, [some (.ref 18), some (.int (-1)), none], [.int (fwL D)])
  refine gR.steps 3 (τ, (19, [some (.ref 18), some (.int (-1)), some (.int (fwL D))], [.int (-1), .int (fwL D)])) rfl ?_
  refine gR.ifte rfl (fun zc19 => ?_) (fun zc19 => ?_)
  · refine gR.steps 2 (τ, (26, [some (.ref 18), some (.int (-1)), some (.int (fwL D))], [.int (-1), .int (-1)])) rfl ?_
    refine gR.brF rfl (by decide) ?_
    refine gR.steps 1 (τ, (30, [some (.ref 18), some (.int (-1)), some (.int (fwL D))], [.int (fwL D)])) rfl ?_
    refine gR.callp rfl (s_J6_bitCount_0f7a4 (by omega) τ (fwL D)) ?_
    show gR _ _ _ τ (33, [some (.ref 18), some (.int (-1)), some (.int (fwL D))], [.int (nI (xPop (fwL D)))])
    refine gR.ret rfl ?_
    rcases hcs with ⟨h1, h2⟩ | h2
    · exact absurd h1 zc19
    · exact ⟨trivial, by rw [show aSave D (-1) = _ from if_pos (by decide), h2.2.1], hF.keep⟩
  · refine gR.steps 1 (τ, (23, [some (.ref 18), some (.int (-1)), some (.int (fwL D))], [.int (-1)])) rfl ?_
    show gR _ _ _ τ (23, [some (.ref 18), some (.int (-1)), some (.int (fwL D))], [.int (-1)])
    refine gR.ret rfl ?_
    rcases hcs with ⟨h1, h2⟩ | h2
    · exact ⟨trivial, by rw [show aSave D (-1) = _ from if_pos (by decide), h2], hF.keep⟩
    · exact absurd (Decidable.not_not.mp zc19) h2.1
theorem s_X10_save0 {d : Nat} (hd : 6 ≤ d) (σ : gS) (D : xDat) (hs : cSt σ D) : gC d 62 [.ref 18, .int 0] σ (fun r τ => r = some (.int (aSave D 0)) ∧ cKeep σ τ) := by
  obtain ⟨d, rfl⟩ : ∃ k, d = k + 1 := ⟨d - 1, by omega⟩
  refine gC.of (P := pX10_save) (nL := 3) (rt := (some (.int))) (lv := [some (.ref 18), some (.int 0), none]) (by decide +kernel) rfl rfl rfl (by simp [gEnt, Value.category]) rfl ?_
  refine gR.steps 3 (σ, (3, [some (.ref 18), some (.int 0), none], [.int 1, .int (-1), .int 0])) rfl ?_
  refine gR.callp rfl (s_X10_withinI (by omega) σ 0 (-1) 1 (-1) 1 (by decide) (by decide)) ?_
  refine gR.brT rfl (by rw [bI_ne0]; decide) ?_
  refine gR.steps 1 (σ, (13, [some (.ref 18), some (.int 0), none], [.ref 18])) rfl ?_
  refine gR.call' rfl (s_X10_fewestToLose (by omega) σ D hs) ?_
  rintro _ τ ⟨rfl, hF⟩
  have hcs := fw_cs D hs.2.2.1.2.1
  show gR _ _ _ τ (16, [some (.ref 18), some (.int 0), none], [.int (fwL D)])
  refine gR.steps 3 (τ, (19, [some (.ref 18), some (.int 0), some (.int (fwL D))], [.int (-1), .int (fwL D)])) rfl ?_
  refine gR.ifte rfl (fun zc19 => ?_) (fun zc19 => ?_)
  · refine gR.steps 2 (τ, (26, [some (.ref 18), some (.int 0), some (.int (fwL D))], [.int (-1), .int 0])) rfl ?_
    refine gR.brT rfl (by decide) ?_
    refine gR.steps 2 (τ, (36, [some (.ref 18), some (.int 0), some (.int (fwL D))], [.int 0, .int (fwL D)])) rfl ?_
    refine gR.callp rfl (s_X10_placeOfBit (by omega) τ (fwL D) 0) ?_
    show gR _ _ _ τ (39, [some (.ref 18), some (.int 0), some (.int (fwL D))], [.int (xPl (fwL D) 8 0)])
    refine gR.ret rfl ?_
    rcases hcs with ⟨h1, h2⟩ | h2
    · exact absurd h1 zc19
    · exact ⟨trivial, by rw [show aSave D 0 = _ from if_pos (by decide), h2.2.2.1], hF.keep⟩
  · refine gR.steps 1 (τ, (23, [some (.ref 18), some (.int 0), some (.int (fwL D))], [.int (-1)])) rfl ?_
    show gR _ _ _ τ (23, [some (.ref 18), some (.int 0), some (.int (fwL D))], [.int (-1)])
    refine gR.ret rfl ?_
    rcases hcs with ⟨h1, h2⟩ | h2
    · exact ⟨trivial, by rw [show aSave D 0 = _ from if_pos (by decide), h2], hF.keep⟩
    · exact absurd (Decidable.not_not.mp zc19) h2.1
theorem s_X10_save1 {d : Nat} (hd : 6 ≤ d) (σ : gS) (D : xDat) (hs : cSt σ D) : gC d 62 [.ref 18, .int 1] σ (fun r τ => r = some (.int (aSave D 1)) ∧ cKeep σ τ) := by
  obtain ⟨d, rfl⟩ : ∃ k, d = k + 1 := ⟨d - 1, by omega⟩
  refine gC.of (P := pX10_save) (nL := 3) (rt := (some (.int))) (lv := [some (.ref 18), some (.int 1), none]) (by decide +kernel) rfl rfl rfl (by simp [gEnt, Value.category]) rfl ?_
  refine gR.steps 3 (σ, (3, [some (.ref 18), some (.int 1), none], [.int 1, .int (-1), .int 1])) rfl ?_
  refine gR.callp rfl (s_X10_withinI (by omega) σ 1 (-1) 1 (-1) 1 (by decide) (by decide)) ?_
  refine gR.brT rfl (by rw [bI_ne0]; decide) ?_
  refine gR.steps 1 (σ, (13, [some (.ref 18), some (.int 1), none], [.ref 18])) rfl ?_
  refine gR.call' rfl (s_X10_fewestToLose (by omega) σ D hs) ?_
  rintro _ τ ⟨rfl, hF⟩
  have hcs := fw_cs D hs.2.2.1.2.1
  show gR _ _ _ τ (16, [some (.ref 18), some (.int 1), none], [.int (fwL D)])
  refine gR.steps 3 (τ, (19, [some (.ref 18), some (.int 1), some (.int (fwL D))], [.int (-1), .int (fwL D)])) rfl ?_
  refine gR.ifte rfl (fun zc19 => ?_) (fun zc19 => ?_)
  · refine gR.steps 2 (τ, (26, [some (.ref 18), some (.int 1), some (.int (fwL D))], [.int (-1), .int 1])) rfl ?_
    refine gR.brT rfl (by decide) ?_
    refine gR.steps 2 (τ, (36, [some (.ref 18), some (.int 1), some (.int (fwL D))], [.int 1, .int (fwL D)])) rfl ?_
    refine gR.callp rfl (s_X10_placeOfBit (by omega) τ (fwL D) 1) ?_
    show gR _ _ _ τ (39, [some (.ref 18), some (.int 1), some (.int (fwL D))], [.int (xPl (fwL D) 8 1)])
    refine gR.ret rfl ?_
    rcases hcs with ⟨h1, h2⟩ | h2
    · exact absurd h1 zc19
    · exact ⟨trivial, by rw [show aSave D 1 = _ from if_pos (by decide), h2.2.2.2], hF.keep⟩
  · refine gR.steps 1 (τ, (23, [some (.ref 18), some (.int 1), some (.int (fwL D))], [.int (-1)])) rfl ?_
    show gR _ _ _ τ (23, [some (.ref 18), some (.int 1), some (.int (fwL D))], [.int (-1)])
    refine gR.ret rfl ?_
    rcases hcs with ⟨h1, h2⟩ | h2
    · exact ⟨trivial, by rw [show aSave D 1 = _ from if_pos (by decide), h2], hF.keep⟩
    · exact absurd (Decidable.not_not.mp zc19) h2.1
theorem s_X10_saveX {d : Nat} (hd : 6 ≤ d) (σ : gS) (D : xDat) (i : Int32) (hs : cSt σ D) (hi : ¬ (-1 ≤ i.toInt ∧ i.toInt ≤ 1)) : gC d 62 [.ref 18, .int i] σ (fun r τ => r = some (.int (aSave D i)) ∧ cKeep σ τ) := by
  obtain ⟨d, rfl⟩ : ∃ k, d = k + 1 := ⟨d - 1, by omega⟩
  refine gC.of (P := pX10_save) (nL := 3) (rt := (some (.int))) (lv := [some (.ref 18), some (.int i), none]) (by decide +kernel) rfl rfl rfl (by simp [gEnt, Value.category]) rfl ?_
  refine gR.steps 3 (σ, (3, [some (.ref 18), some (.int i), none], [.int 1, .int (-1), .int i])) rfl ?_
  refine gR.callp rfl (s_X10_withinI (by omega) σ i (-1) 1 (-1) 1 (by decide) (by decide)) ?_
  refine gR.brF rfl (fun z => z (bI_f hi)) ?_
  refine gR.steps 1 (σ, (11, [some (.ref 18), some (.int i), none], [.int (-2)])) rfl ?_
  show gR _ _ _ σ (11, [some (.ref 18), some (.int i), none], [.int (-2)])
  refine gR.ret rfl ?_
  exact ⟨trivial, by rw [show aSave D i = -2 from if_neg hi], cKeep.rf σ⟩
theorem s_X10_save {d : Nat} (hd : 6 ≤ d) (σ : gS) (D : xDat) (i : Int32) (hs : cSt σ D) : gC d 62 [.ref 18, .int i] σ (fun r τ => r = some (.int (aSave D i)) ∧ cKeep σ τ) := by
  by_cases hi : -1 ≤ i.toInt ∧ i.toInt ≤ 1
  · rcases m1_of hi with rfl | rfl | rfl
    · exact s_X10_saveM hd σ D hs
    · exact s_X10_save0 hd σ D hs
    · exact s_X10_save1 hd σ D hs
  · exact s_X10_saveX hd σ D i hs hi
def fBl (D : xDat) : Nat → Int32 := fun z => nI (dBel D none 0 (z + 1))
theorem xDi_c {f : Nat → Int32} {a : Nat} {s s2 : Int32 × Int32} (h : xDi f a s 1 = xDi f a s2 1) : ∀ t, xDi f a s (t + 1) = xDi f a s2 (t + 1)
  | 0 => h
  | t + 1 => by
    have ih := xDi_c h t
    show (if (xDi f a s (t + 1)).2 < f (a + (t + 1)) - f a then _ else xDi f a s (t + 1)) = _
    rw [ih]; rfl
theorem xDo_c (f : Nat → Int32) : ∀ n, xDo f (0, 0) (n + 1) = xDo f (-1, -1) (n + 1)
  | 0 => by
    have e1 : xDi f 0 (0, 0) 1 = (0, 0) := by
      show (if (0 : Int32) < f (0 + 0) - f 0 then (nI (24 * 0 + (0 + 0)), f (0 + 0) - f 0) else ((0 : Int32), (0 : Int32))) = _
      rw [if_neg (by rw [Nat.add_zero, Int32.sub_self]; decide)]
    have e2 : xDi f 0 (-1, -1) 1 = (0, 0) := by
      show (if (-1 : Int32) < f (0 + 0) - f 0 then (nI (24 * 0 + (0 + 0)), f (0 + 0) - f 0) else ((-1 : Int32), (-1 : Int32))) = _
      rw [if_pos (by rw [Nat.add_zero, Int32.sub_self]; decide), Nat.add_zero, Int32.sub_self]; rfl
    exact xDi_c (e1.trans e2.symm) 23
  | n + 1 => by
    have ih := xDo_c f n
    show xDi f (n + 1) (xDo f (0, 0) (n + 1)) (24 - (n + 1)) = xDi f (n + 1) (xDo f (-1, -1) (n + 1)) (24 - (n + 1))
    rw [ih]
theorem dDeal_c (D : xDat) : dDeal D = xDo (fBl D) (0, 0) 24 := (xDo_c (fBl D) 23).symm
theorem s_X10_bestDeal {d : Nat} (hd : 1 ≤ d) (σ : gS) (D : xDat) (hv : ∀ m, m < 24 → σ 49 m = nI (dBel D none 0 (m + 1))) : gC d 90 [.ref 18] σ (fun r τ => ∃ a0 s0, a0 < 24 ∧ s0 < 24 ∧ r = some (.int (nI (24 * a0 + s0))) ∧ dDeal D = (nI (24 * a0 + s0), fBl D s0 - fBl D a0) ∧ τ = σ) := by
  obtain ⟨d, rfl⟩ : ∃ k, d = k + 1 := ⟨d - 1, by omega⟩
  refine gC.of (P := pX10_bestDeal) (nL := 6) (rt := (some (.int))) (lv := [some (.ref 18), none, none, none, none, none]) (by decide +kernel) rfl rfl rfl (by simp [gEnt, Value.category]) rfl ?_
  refine gR.steps 6 (σ, (6, [some (.ref 18), some (.int 0), some (.int 0), some (.int 0), none, none], [])) rfl ?_
  refine gR.forget [some (.ref 18), some (.int (nI (24 * 0 + 0))), some (.int (fBl D 0 - fBl D 0)), some (.int 0), none, none] ⟨rfl, rfl, gSomeI (Int32.sub_self _).symm, rfl, trivial⟩ ?_
  refine gR.loop (α := Nat × Nat × Nat) (fun ⟨a, a0, s0⟩ => a ≤ 24 ∧ a0 < 24 ∧ s0 < 24 ∧ xDo (fBl D) (0, 0) a = (nI (24 * a0 + s0), fBl D s0 - fBl D a0)) (fun ⟨a, a0, s0⟩ => 24 - a) (fun ⟨a, a0, s0⟩ => (σ, (6, [some (.ref 18), some (.int (nI (24 * a0 + s0))), some (.int (fBl D s0 - fBl D a0)), some (.int (nI a)), none, none], []))) ?_ ⟨0, 0, 0⟩ ⟨by omega, by omega, by omega, by rw [Int32.sub_self]; rfl⟩
  rintro ⟨a, a0, s0⟩ ⟨ha, ha0, hs0, hx⟩ ih
  show gR _ _ _ σ (6, [some (.ref 18), some (.int (nI (24 * a0 + s0))), some (.int (fBl D s0 - fBl D a0)), some (.int (nI a)), none, none], [])
  refine gR.steps 2 (σ, (9, [some (.ref 18), some (.int (nI (24 * a0 + s0))), some (.int (fBl D s0 - fBl D a0)), some (.int (nI a)), none, none], [.int 24, .int (nI a)])) rfl ?_
  refine gR.ifte rfl (fun zc9 => ?_) (fun zc9 => ?_)
  · rw [gN_le (x := 24) (y := nI a) (a := 24) (b := a) rfl rfl (by omega) (by omega)] at zc9
    refine gR.steps 1 (σ, (74, [some (.ref 18), some (.int (nI (24 * a0 + s0))), some (.int (fBl D s0 - fBl D a0)), some (.int (nI a)), none, none], [.int (nI (24 * a0 + s0))])) rfl ?_
    show gR _ _ _ σ (74, [some (.ref 18), some (.int (nI (24 * a0 + s0))), some (.int (fBl D s0 - fBl D a0)), some (.int (nI a)), none, none], [.int (nI (24 * a0 + s0))])
    refine gR.ret rfl ?_
    have ha24 : a = 24 := by omega
    refine ⟨trivial, a0, s0, ha0, hs0, rfl, ?_, rfl⟩
    rw [ha24] at hx
    rw [dDeal_c]; exact hx
  · rw [gN_le (x := 24) (y := nI a) (a := 24) (b := a) rfl rfl (by omega) (by omega)] at zc9
    refine gR.steps 2 (σ, (15, [some (.ref 18), some (.int (nI (24 * a0 + s0))), some (.int (fBl D s0 - fBl D a0)), some (.int (nI a)), some (.int (nI a)), none], [])) rfl ?_
    refine gR.forget [some (.ref 18), some (.int (nI (24 * a0 + s0))), some (.int (fBl D s0 - fBl D a0)), some (.int (nI a)), some (.int (nI (a + 0))), none] ⟨rfl, ⟨rfl, ⟨rfl, ⟨rfl, ⟨rfl, trivial⟩⟩⟩⟩⟩ ?_
    refine gR.loop (α := Nat × Nat × Nat) (fun ⟨t, a1, s1⟩ => a + t ≤ 24 ∧ a1 < 24 ∧ s1 < 24 ∧ xDi (fBl D) a (xDo (fBl D) (0, 0) a) t = (nI (24 * a1 + s1), fBl D s1 - fBl D a1)) (fun ⟨t, a1, s1⟩ => 24 - t) (fun ⟨t, a1, s1⟩ => (σ, (15, [some (.ref 18), some (.int (nI (24 * a1 + s1))), some (.int (fBl D s1 - fBl D a1)), some (.int (nI a)), some (.int (nI (a + t))), none], []))) ?_ ⟨0, a0, s0⟩ ⟨by omega, ha0, hs0, hx⟩
    rintro ⟨t, a1, s1⟩ ⟨ht, ha1, hs1, hx1⟩ ih2
    show gR _ _ _ σ (15, [some (.ref 18), some (.int (nI (24 * a1 + s1))), some (.int (fBl D s1 - fBl D a1)), some (.int (nI a)), some (.int (nI (a + t))), none], [])
    refine gR.steps 2 (σ, (19, [some (.ref 18), some (.int (nI (24 * a1 + s1))), some (.int (fBl D s1 - fBl D a1)), some (.int (nI a)), some (.int (nI (a + t))), none], [.int 24, .int (nI (a + t))])) rfl ?_
    refine gR.ifte rfl (fun zc19 => ?_) (fun zc19 => ?_)
    · rw [gN_le (x := 24) (y := nI (a + t)) (a := 24) (b := a + t) rfl rfl (by omega) (by omega)] at zc19
      refine gR.steps 2 (σ, (6, [some (.ref 18), some (.int (nI (24 * a1 + s1))), some (.int (fBl D s1 - fBl D a1)), some (.int ((nI a) + 1)), some (.int (nI (a + t))), none], [])) rfl ?_
      refine gR.forget [some (.ref 18), some (.int (nI (24 * a1 + s1))), some (.int (fBl D s1 - fBl D a1)), some (.int (nI (a + 1))), none, none] ⟨rfl, ⟨rfl, ⟨rfl, ⟨gSomeI (gN_add rfl rfl), trivial⟩⟩⟩⟩ ?_
      have hzz := ih ⟨a + 1, a1, s1⟩ ⟨by omega, ha1, hs1, by show xDi (fBl D) a (xDo (fBl D) (0, 0) a) (24 - a) = _; rw [← hx1, show 24 - a = t by omega]⟩ (by dsimp only; omega)
      exact hzz
    · rw [gN_le (x := 24) (y := nI (a + t)) (a := 24) (b := a + t) rfl rfl (by omega) (by omega)] at zc19
      refine gR.steps 4 (σ, (31, [some (.ref 18), some (.int (nI (24 * a1 + s1))), some (.int (fBl D s1 - fBl D a1)), some (.int (nI a)), some (.int (nI (a + t))), none], [.int (nI (a + t)), .ref 49])) rfl ?_
      refine gR.ald (i := nI (a + t)) (j := a + t) (N := 24) (g := σ 49) rfl rfl (by omega) (by omega) ?_
      refine gR.topI (y := nI (dBel D none 0 (a + t + 1))) (hv (a + t) (by omega)) ?_
      refine gR.steps 4 (σ, (40, [some (.ref 18), some (.int (nI (24 * a1 + s1))), some (.int (fBl D s1 - fBl D a1)), some (.int (nI a)), some (.int (nI (a + t))), none], [.int (nI a), .ref 49, .int (nI (dBel D none 0 (a + t + 1)))])) rfl ?_
      refine gR.ald (i := nI a) (j := a) (N := 24) (g := σ 49) rfl rfl (by omega) (by omega) ?_
      refine gR.topI (y := nI (dBel D none 0 (a + 1))) (hv (a) (by omega)) ?_
      refine gR.steps 4 (σ, (47, [some (.ref 18), some (.int (nI (24 * a1 + s1))), some (.int (fBl D s1 - fBl D a1)), some (.int (nI a)), some (.int (nI (a + t))), some (.int (fBl D (a + t) - fBl D a))], [.int (fBl D s1 - fBl D a1), .int (fBl D (a + t) - fBl D a)])) rfl ?_
      refine gR.ifte rfl (fun zc47 => ?_) (fun zc47 => ?_)
      · refine gR.steps 2 (σ, (15, [some (.ref 18), some (.int (nI (24 * a1 + s1))), some (.int (fBl D s1 - fBl D a1)), some (.int (nI a)), some (.int ((nI (a + t)) + 1)), some (.int (fBl D (a + t) - fBl D a))], [])) rfl ?_
        refine gR.forget [some (.ref 18), some (.int (nI (24 * a1 + s1))), some (.int (fBl D s1 - fBl D a1)), some (.int (nI a)), some (.int (nI (a + (t + 1)))), none] ⟨rfl, ⟨rfl, ⟨rfl, ⟨rfl, ⟨gSomeI ((gN_add (b := 1) rfl rfl).trans (congrArg nI (by omega))), trivial⟩⟩⟩⟩⟩ ?_
        have hzz := ih2 ⟨t + 1, a1, s1⟩ ⟨by omega, ha1, hs1, by show (if (xDi (fBl D) a (xDo (fBl D) (0, 0) a) t).2 < fBl D (a + t) - fBl D a then _ else xDi (fBl D) a (xDo (fBl D) (0, 0) a) t) = _; rw [hx1, if_neg (fun z => Int32.not_le.mpr z zc47)]⟩ (by dsimp only; omega)
        exact hzz
      · refine gR.steps 10 (σ, (15, [some (.ref 18), some (.int (((nI a) * 24) + (nI (a + t)))), some (.int (fBl D (a + t) - fBl D a)), some (.int (nI a)), some (.int ((nI (a + t)) + 1)), some (.int (fBl D (a + t) - fBl D a))], [])) rfl ?_
        refine gR.forget [some (.ref 18), some (.int (nI (24 * a + (a + t)))), some (.int (fBl D (a + t) - fBl D a)), some (.int (nI a)), some (.int (nI (a + (t + 1)))), none] ⟨rfl, ⟨gSomeI ((gN_add (gN_mul (b := 24) rfl rfl) rfl).trans (congrArg nI (by omega))), ⟨rfl, ⟨rfl, ⟨gSomeI ((gN_add (b := 1) rfl rfl).trans (congrArg nI (by omega))), trivial⟩⟩⟩⟩⟩ ?_
        have hzz := ih2 ⟨t + 1, a, a + t⟩ ⟨by omega, by omega, by omega, by show (if (xDi (fBl D) a (xDo (fBl D) (0, 0) a) t).2 < fBl D (a + t) - fBl D a then (nI (24 * a + (a + t)), fBl D (a + t) - fBl D a) else _) = _; rw [hx1, if_pos (Int32.not_le.mp zc47)]⟩ (by dsimp only; omega)
        exact hzz
theorem s_X10_deal {d : Nat} (hd : 6 ≤ d) (σ : gS) (D : xDat) (w : Int32) (hs : cSt σ D) : gC d 63 [.ref 18, .int w] σ (fun r τ => r = some (.int (aDeal D w)) ∧ cKeep σ τ) := by
  obtain ⟨d, rfl⟩ : ∃ k, d = k + 1 := ⟨d - 1, by omega⟩
  refine gC.of (P := pX10_deal) (nL := 5) (rt := (some (.int))) (lv := [some (.ref 18), some (.int w), none, none, none]) (by decide +kernel) rfl rfl rfl (by simp [gEnt, Value.category]) rfl ?_
  have hnb := dNb_le D hs.1.1.2.2.2.1
  have hnl := dNl_le D hs.2.1.1.2.2.2.1
  have hn8 := hs.2.2.1.2.1
  refine gR.steps 3 (σ, (3, [some (.ref 18), some (.int w), none, none, none], [.int 2, .int 0, .int w])) rfl ?_
  refine gR.callp rfl (s_X10_withinI (by omega) σ w 0 2 0 2 (by decide) (by decide)) ?_
  refine gR.ifte rfl (fun zc6 => ?_) (fun zc6 => ?_)
  · rw [bI_ne0] at zc6
    obtain ⟨ww, hww, rfl⟩ := gN_of (x := w) (n := 3) (by omega) (by omega) (by omega)
    refine gR.steps 4 (σ, (20, [some (.ref 18), some (.int (nI ww)), none, none, none], [.ref 27, .ref 19])) rfl ?_
    refine gR.call' rfl (s_X6_reckon27 (by omega) σ D hs) ?_
    rintro _ τ ⟨rfl, hF, hR⟩
    have hst := hs.keep hF.keep
    show gR _ _ _ τ (23, [some (.ref 18), some (.int (nI ww)), none, none, none], [])
    refine gR.steps 1 (τ, (24, [some (.ref 18), some (.int (nI ww)), none, none, none], [.ref 18])) rfl ?_
    refine gR.call' rfl (s_X10_bestDeal (by omega) τ D hR.2.2.1) ?_
    rintro _ υ ⟨a0, s0, ha0, hs0, rfl, hdl, he⟩
    rw [he]
    refine gR.steps 3 (τ, (31, [some (.ref 18), some (.int (nI ww)), some (.int (nI (24 * a0 + s0))), none, none], [.int 24, .int (nI (24 * a0 + s0))])) rfl ?_
    refine gR.brT (p := ¬ (24 : Int32) = 0) rfl (by decide) ?_
    show gR _ _ _ τ (32, [some (.ref 18), some (.int (nI ww)), some (.int (nI (24 * a0 + s0))), none, none], [.int ((nI (24 * a0 + s0)) / 24)])
    refine gR.topI (y := nI ((24 * a0 + s0) / 24)) (gN_div rfl rfl (by omega) (by omega) (by omega)) ?_
    refine gR.steps 3 (τ, (36, [some (.ref 18), some (.int (nI ww)), some (.int (nI (24 * a0 + s0))), some (.int (nI ((24 * a0 + s0) / 24))), none], [.int 24, .int (nI (24 * a0 + s0))])) rfl ?_
    refine gR.brT (p := ¬ (24 : Int32) = 0) rfl (by decide) ?_
    show gR _ _ _ τ (37, [some (.ref 18), some (.int (nI ww)), some (.int (nI (24 * a0 + s0))), some (.int (nI ((24 * a0 + s0) / 24))), none], [.int ((nI (24 * a0 + s0)) - (nI (24 * a0 + s0)) / 24 * 24)])
    refine gR.topI (y := nI ((24 * a0 + s0) % 24)) (gN_rem rfl rfl (by omega) (by omega) (by omega)) ?_
    refine gR.steps 3 (τ, (41, [some (.ref 18), some (.int (nI ww)), some (.int (nI (24 * a0 + s0))), some (.int (nI ((24 * a0 + s0) / 24))), some (.int (nI ((24 * a0 + s0) % 24)))], [.int 2, .int (nI ww)])) rfl ?_
    refine gR.ifte rfl (fun zc41 => ?_) (fun zc41 => ?_)
    · rw [gN_eq (x := nI ww) (y := 2) (a := ww) (b := 2) rfl rfl (by omega) (by omega)] at zc41
      refine gR.steps 1 (τ, (66, [some (.ref 18), some (.int (nI ww)), some (.int (nI (24 * a0 + s0))), some (.int (nI ((24 * a0 + s0) / 24))), some (.int (nI ((24 * a0 + s0) % 24)))], [.int (nI ww)])) rfl ?_
      refine gR.ifte rfl (fun zc66 => ?_) (fun zc66 => ?_)
      · rw [gN_eq (x := nI ww) (y := 0) (a := ww) (b := 0) rfl rfl (by omega) (by omega)] at zc66
        refine gR.steps 1 (τ, (75, [some (.ref 18), some (.int (nI ww)), some (.int (nI (24 * a0 + s0))), some (.int (nI ((24 * a0 + s0) / 24))), some (.int (nI ((24 * a0 + s0) % 24)))], [.int (nI ((24 * a0 + s0) % 24))])) rfl ?_
        show gR _ _ _ τ (75, [some (.ref 18), some (.int (nI ww)), some (.int (nI (24 * a0 + s0))), some (.int (nI ((24 * a0 + s0) / 24))), some (.int (nI ((24 * a0 + s0) % 24)))], [.int (nI ((24 * a0 + s0) % 24))])
        refine gR.ret rfl ?_
        refine ⟨trivial, ?_, hF.keep⟩
        rw [show aDeal D (nI ww) = _ from if_pos zc6, xPick3_n hww, hdl, if_neg (show ¬ ww = 0 by omega), if_pos (show ww = 1 by omega)]
        exact gSomeI (gN_rem (b := 24) rfl rfl (by omega) (by omega) (by omega)).symm
      · rw [gN_eq (x := nI ww) (y := 0) (a := ww) (b := 0) rfl rfl (by omega) (by omega)] at zc66
        refine gR.steps 2 (τ, (75, [some (.ref 18), some (.int (nI ww)), some (.int (nI (24 * a0 + s0))), some (.int (nI ((24 * a0 + s0) / 24))), some (.int (nI ((24 * a0 + s0) % 24)))], [.int (nI ((24 * a0 + s0) / 24))])) rfl ?_
        show gR _ _ _ τ (75, [some (.ref 18), some (.int (nI ww)), some (.int (nI (24 * a0 + s0))), some (.int (nI ((24 * a0 + s0) / 24))), some (.int (nI ((24 * a0 + s0) % 24)))], [.int (nI ((24 * a0 + s0) / 24))])
        refine gR.ret rfl ?_
        refine ⟨trivial, ?_, hF.keep⟩
        rw [show aDeal D (nI ww) = _ from if_pos zc6, xPick3_n hww, hdl, if_pos (show ww = 0 by omega)]
        exact gSomeI (gN_div (b := 24) rfl rfl (by omega) (by omega) (by omega)).symm
    · rw [gN_eq (x := nI ww) (y := 2) (a := ww) (b := 2) rfl rfl (by omega) (by omega)] at zc41
      refine gR.steps 4 (τ, (53, [some (.ref 18), some (.int (nI ww)), some (.int (nI (24 * a0 + s0))), some (.int (nI ((24 * a0 + s0) / 24))), some (.int (nI ((24 * a0 + s0) % 24)))], [.int (nI ((24 * a0 + s0) % 24)), .ref 49])) rfl ?_
      refine gR.ald (i := nI ((24 * a0 + s0) % 24)) (j := (24 * a0 + s0) % 24) (N := 24) (g := τ 49) rfl rfl (by omega) (by omega) ?_
      refine gR.topI (y := nI (dBel D none 0 ((24 * a0 + s0) % 24 + 1))) (hR.2.2.1 ((24 * a0 + s0) % 24) (by omega)) ?_
      refine gR.steps 4 (τ, (62, [some (.ref 18), some (.int (nI ww)), some (.int (nI (24 * a0 + s0))), some (.int (nI ((24 * a0 + s0) / 24))), some (.int (nI ((24 * a0 + s0) % 24)))], [.int (nI ((24 * a0 + s0) / 24)), .ref 49, .int (nI (dBel D none 0 ((24 * a0 + s0) % 24 + 1)))])) rfl ?_
      refine gR.ald (i := nI ((24 * a0 + s0) / 24)) (j := (24 * a0 + s0) / 24) (N := 24) (g := τ 49) rfl rfl (by omega) (by omega) ?_
      refine gR.topI (y := nI (dBel D none 0 ((24 * a0 + s0) / 24 + 1))) (hR.2.2.1 ((24 * a0 + s0) / 24) (by omega)) ?_
      refine gR.steps 1 (τ, (64, [some (.ref 18), some (.int (nI ww)), some (.int (nI (24 * a0 + s0))), some (.int (nI ((24 * a0 + s0) / 24))), some (.int (nI ((24 * a0 + s0) % 24)))], [.int ((nI (dBel D none 0 ((24 * a0 + s0) % 24 + 1))) - (nI (dBel D none 0 ((24 * a0 + s0) / 24 + 1))))])) rfl ?_
      show gR _ _ _ τ (64, [some (.ref 18), some (.int (nI ww)), some (.int (nI (24 * a0 + s0))), some (.int (nI ((24 * a0 + s0) / 24))), some (.int (nI ((24 * a0 + s0) % 24)))], [.int ((nI (dBel D none 0 ((24 * a0 + s0) % 24 + 1))) - (nI (dBel D none 0 ((24 * a0 + s0) / 24 + 1))))])
      refine gR.ret rfl ?_
      refine ⟨trivial, ?_, hF.keep⟩
      rw [show aDeal D (nI ww) = _ from if_pos zc6, xPick3_n hww, hdl, if_neg (show ¬ ww = 0 by omega), if_neg (show ¬ ww = 1 by omega)]
      show _ = some (Value.int (nI (dBel D none 0 (s0 + 1)) - nI (dBel D none 0 (a0 + 1))))
      rw [show (24 * a0 + s0) % 24 = s0 by omega, show (24 * a0 + s0) / 24 = a0 by omega]
  · rw [bI_ne0] at zc6
    refine gR.steps 1 (σ, (11, [some (.ref 18), some (.int w), none, none, none], [.int (-2)])) rfl ?_
    show gR _ _ _ σ (11, [some (.ref 18), some (.int w), none, none, none], [.int (-2)])
    refine gR.ret rfl ?_
    exact ⟨trivial, by rw [show aDeal D w = -2 from if_neg zc6], cKeep.rf σ⟩
