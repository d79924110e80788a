def aFault (D : xDat) (t : Int32) : Int32 := if 0 ≤ t.toInt ∧ t.toInt ≤ 1 then (if t = 0 then xFlt 4 (xG0 (dC0 D)) (dN0 D) else xFlt 3 (xG1 (dC1 D)) (dN1 D)) else -2
theorem s_X11_readsText0 {d : Nat} (hd : 4 ≤ d) (σ : gS) (D : xDat) (hs : mSt σ D) : gC d 136 [.ref 0, .int 0] σ (fun r τ => r = some (.int (xFlt 4 (xG0 (dC0 D)) (dN0 D))) ∧ mKeep σ τ ∧ mBu τ (dNb D) (dKd D) (dBg D) (dSp D) ∧ mRdF0 σ τ) := by
  obtain ⟨d, rfl⟩ : ∃ k, d = k + 1 := ⟨d - 1, by omega⟩
  refine gC.of (P := pX11_readsText) (nL := 2) (rt := (some (.int))) (lv := [some (.ref 0), some (.int 0)]) (by decide +kernel) rfl rfl rfl (by simp [gEnt, Value.category]) rfl ?_
  refine gR.steps 1 (σ, (1, [some (.ref 0), some (.int 0)], [.int 0])) rfl ?_
  refine gR.brF rfl (by decide) ?_
  refine gR.steps 1 (σ, (5, [some (.ref 0), some (.int 0)], [.ref 0])) rfl ?_
  refine gR.call' rfl (s_X11_readsBushes (by omega) σ (dN0 D) (dC0 D) hs.1.1 hs.1.2.1 hs.1.2.2) ?_
  rintro _ τ ⟨rfl, hF, hB⟩
  show gR _ _ _ τ (8, [some (.ref 0), some (.int 0)], [.int (xFlt 4 (xG0 (dC0 D)) (dN0 D))])
  refine gR.steps 1 (τ, (15, [some (.ref 0), some (.int 0)], [.int (xFlt 4 (xG0 (dC0 D)) (dN0 D))])) rfl ?_
  refine gR.ret rfl ?_
  exact ⟨trivial, rfl, hF.keep, hB, hF⟩
theorem s_X11_fault0 {d : Nat} (hd : 5 ≤ d) (σ : gS) (D : xDat) (hs : mSt σ D) : gC d 137 [.ref 0, .int 0] σ (fun r τ => r = some (.int (aFault D 0)) ∧ mKeep σ τ) := by
  obtain ⟨d, rfl⟩ : ∃ k, d = k + 1 := ⟨d - 1, by omega⟩
  refine gC.of (P := pX11_fault) (nL := 2) (rt := (some (.int))) (lv := [some (.ref 0), some (.int 0)]) (by decide +kernel) rfl rfl rfl (by simp [gEnt, Value.category]) rfl ?_
  refine gR.steps 1 (σ, (1, [some (.ref 0), some (.int 0)], [.int 0])) rfl ?_
  refine gR.callp rfl (s_X11_isTwo (by omega) σ 0) ?_
  refine gR.brF rfl (by rw [bI_eq0]; exact Decidable.not_not.mpr (by decide)) ?_
  refine gR.steps 2 (σ, (9, [some (.ref 0), some (.int 0)], [.int 0, .ref 0])) rfl ?_
  refine gR.call' rfl (s_X11_readsText0 (by omega) σ D hs) ?_
  rintro _ τ ⟨rfl, hk, -, -⟩
  show gR _ _ _ τ (12, [some (.ref 0), some (.int 0)], [.int (xFlt 4 (xG0 (dC0 D)) (dN0 D))])
  refine gR.steps 1 (τ, (17, [some (.ref 0), some (.int 0)], [.int (xFlt 4 (xG0 (dC0 D)) (dN0 D))])) rfl ?_
  refine gR.ret rfl ?_
  exact ⟨trivial, by rw [show aFault D 0 = _ from if_pos (by decide), if_pos rfl], hk⟩
theorem s_X11_readsText1 {d : Nat} (hd : 4 ≤ d) (σ : gS) (D : xDat) (hs : mSt σ D) : gC d 136 [.ref 0, .int 1] σ (fun r τ => r = some (.int (xFlt 3 (xG1 (dC1 D)) (dN1 D))) ∧ mKeep σ τ ∧ mLo τ (dNl D) (dLm D) (dLb D) ∧ mRdF1 σ τ) := by
  obtain ⟨d, rfl⟩ : ∃ k, d = k + 1 := ⟨d - 1, by omega⟩
  refine gC.of (P := pX11_readsText) (nL := 2) (rt := (some (.int))) (lv := [some (.ref 0), some (.int 1)]) (by decide +kernel) rfl rfl rfl (by simp [gEnt, Value.category]) rfl ?_
  refine gR.steps 1 (σ, (1, [some (.ref 0), some (.int 1)], [.int 1])) rfl ?_
  refine gR.brT rfl (by decide) ?_
  refine gR.steps 1 (σ, (12, [some (.ref 0), some (.int 1)], [.ref 0])) rfl ?_
  refine gR.call' rfl (s_X11_readsLooks (by omega) σ (dN1 D) (dC1 D) hs.2.1.1 hs.2.1.2.1 hs.2.1.2.2) ?_
  rintro _ τ ⟨rfl, hF, hL⟩
  show gR _ _ _ τ (15, [some (.ref 0), some (.int 1)], [.int (xFlt 3 (xG1 (dC1 D)) (dN1 D))])
  refine gR.ret rfl ?_
  exact ⟨trivial, rfl, hF.keep, hL, hF⟩
theorem s_X11_fault1 {d : Nat} (hd : 5 ≤ d) (σ : gS) (D : xDat) (hs : mSt σ D) : gC d 137 [.ref 0, .int 1] σ (fun r τ => r = some (.int (aFault D 1)) ∧ mKeep σ τ) := by
  obtain ⟨d, rfl⟩ : ∃ k, d = k + 1 := ⟨d - 1, by omega⟩
  refine gC.of (P := pX11_fault) (nL := 2) (rt := (some (.int))) (lv := [some (.ref 0), some (.int 1)]) (by decide +kernel) rfl rfl rfl (by simp [gEnt, Value.category]) rfl ?_
  refine gR.steps 1 (σ, (1, [some (.ref 0), some (.int 1)], [.int 1])) rfl ?_
  refine gR.callp rfl (s_X11_isTwo (by omega) σ 1) ?_
  refine gR.brF rfl (by rw [bI_eq0]; exact Decidable.not_not.mpr (by decide)) ?_
  refine gR.steps 2 (σ, (9, [some (.ref 0), some (.int 1)], [.int 1, .ref 0])) rfl ?_
  refine gR.call' rfl (s_X11_readsText1 (by omega) σ D hs) ?_
  rintro _ τ ⟨rfl, hk, -, -⟩
  show gR _ _ _ τ (12, [some (.ref 0), some (.int 1)], [.int (xFlt 3 (xG1 (dC1 D)) (dN1 D))])
  refine gR.steps 1 (τ, (17, [some (.ref 0), some (.int 1)], [.int (xFlt 3 (xG1 (dC1 D)) (dN1 D))])) rfl ?_
  refine gR.ret rfl ?_
  exact ⟨trivial, by rw [show aFault D 1 = _ from if_pos (by decide), if_neg (by decide)], hk⟩
theorem s_X11_faultX {d : Nat} (hd : 5 ≤ d) (σ : gS) (D : xDat) (t : Int32) (hs : mSt σ D) (ht : ¬ (0 ≤ t.toInt ∧ t.toInt ≤ 1)) : gC d 137 [.ref 0, .int t] σ (fun r τ => r = some (.int (aFault D t)) ∧ mKeep σ τ) := by
  obtain ⟨d, rfl⟩ : ∃ k, d = k + 1 := ⟨d - 1, by omega⟩
  refine gC.of (P := pX11_fault) (nL := 2) (rt := (some (.int))) (lv := [some (.ref 0), some (.int t)]) (by decide +kernel) rfl rfl rfl (by simp [gEnt, Value.category]) rfl ?_
  refine gR.steps 1 (σ, (1, [some (.ref 0), some (.int t)], [.int t])) rfl ?_
  refine gR.callp rfl (s_X11_isTwo (by omega) σ t) ?_
  refine gR.brT rfl (bI_f ht) ?_
  refine gR.steps 1 (σ, (17, [some (.ref 0), some (.int t)], [.int (-2)])) rfl ?_
  refine gR.ret rfl ?_
  exact ⟨trivial, by rw [show aFault D t = -2 from if_neg ht], mKeep.rf σ⟩
theorem s_X11_fault {d : Nat} (hd : 5 ≤ d) (σ : gS) (D : xDat) (t : Int32) (hs : mSt σ D) : gC d 137 [.ref 0, .int t] σ (fun r τ => r = some (.int (aFault D t)) ∧ mKeep σ τ) := by
  by_cases ht : 0 ≤ t.toInt ∧ t.toInt ≤ 1
  · rcases two_of ht with rfl | rfl
    · exact s_X11_fault0 hd σ D hs
    · exact s_X11_fault1 hd σ D hs
  · exact s_X11_faultX hd σ D t hs ht
def aSet (D : xDat) (w v : Int32) : Int32 := if w = 0 ∧ (0 ≤ v.toInt ∧ v.toInt ≤ 100) then nI (dF D) else if w = 1 ∧ (0 ≤ v.toInt ∧ v.toInt ≤ 50) then nI (dDb D) else -2
def sSet (D : xDat) (w v : Int32) : xDat := if w = 0 ∧ (0 ≤ v.toInt ∧ v.toInt ≤ 100) then dSetF D v.toNatClampNeg (dDb D) else if w = 1 ∧ (0 ≤ v.toInt ∧ v.toInt ≤ 50) then dSetF D (dF D) v.toNatClampNeg else D
/-- two slots of the model's object may change -/
def mObF (s1 s2 : Nat) (σ τ : gS) : Prop := (∀ q, q ≠ 0 → τ q = σ q) ∧ ∀ s, s ≠ s1 → s ≠ s2 → τ 0 s = σ 0 s
theorem mObF.rf (s1 s2 : Nat) (σ : gS) : mObF s1 s2 σ σ := ⟨fun _ _ => rfl, fun _ _ _ => rfl⟩
theorem mObF_up {s1 s2 : Nat} {σ τ : gS} {s : Nat} {v : Int32} (hq : s = s1 ∨ s = s2) (h : mObF s1 s2 σ τ) : mObF s1 s2 σ (gUp τ 0 s v) := ⟨fun q hq => by rw [gUp_ne hq]; exact h.1 q hq, fun p h1 h2 => by rw [gUp_o (by omega)]; exact h.2 p h1 h2⟩
theorem mSt_set {σ τ : gS} {D : xDat} {f db : Nat} (h : mSt σ D) (hF : mObF 11 12 σ τ) (h1 : τ 0 11 = nI f) (hf : f ≤ 100) (h2 : τ 0 12 = nI db) (hdb : db ≤ 50) : mSt τ (dSetF D f db) := by
  refine ⟨?_, ?_, mEv_k (hF.2 13 (by decide) (by decide)) (hF.1 9 (by decide)) h.2.2.1, ⟨h1, hf, h2, hdb⟩, ?_⟩
  · rw [hF.1 6 (by decide), hF.1 5 (by decide)]; exact h.1
  · rw [hF.1 6 (by decide), hF.1 5 (by decide)]; exact h.2.1
  · rw [hF.2 15 (by decide) (by decide), hF.2 21 (by decide) (by decide), hF.2 22 (by decide) (by decide)]; exact h.2.2.2.2
theorem s_X11_set0 {d : Nat} (hd : 3 ≤ d) (σ : gS) (D : xDat) (v : Int32) (hs : mSt σ D) : gC d 143 [.ref 0, .int 0, .int v] σ (fun r τ => r = some (.int (aSet D 0 v)) ∧ mObF 11 12 σ τ ∧ mSt τ (sSet D 0 v)) := by
  obtain ⟨d, rfl⟩ : ∃ k, d = k + 1 := ⟨d - 1, by omega⟩
  refine gC.of (P := pX11_set) (nL := 4) (rt := (some (.int))) (lv := [some (.ref 0), some (.int 0), some (.int v), none]) (by decide +kernel) rfl rfl rfl (by simp [gEnt, Value.category]) rfl ?_
  have hf100 := hs.2.2.2.1.2.1
  have hd50 := hs.2.2.2.1.2.2.2
  refine gR.steps 1 (σ, (1, [some (.ref 0), some (.int 0), some (.int v), none], [.int 0])) rfl ?_
  refine gR.callp rfl (s_X11_isTwo (by omega) σ 0) ?_
  refine gR.brF rfl (by rw [bI_eq0]; exact Decidable.not_not.mpr (by decide)) ?_
  refine gR.steps 4 (σ, (11, [some (.ref 0), some (.int 0), some (.int v), none], [.int 0, .long 0, .long (Int32.toInt64 v)])) rfl ?_
  refine gR.brF rfl (by decide) ?_
  refine gR.steps 2 (σ, (23, [some (.ref 0), some (.int 0), some (.int v), none], [.long 100, .long 0, .long (Int32.toInt64 v)])) rfl ?_
  refine gR.callp rfl (s_X11_inI (by omega) σ v 0 100 0 100 (by decide) (by decide)) ?_
  refine gR.ifte rfl (fun zc26 => ?_) (fun zc26 => ?_)
  · rw [bI_ne0] at zc26
    obtain ⟨vv, hvv, rfl⟩ := gN_of (x := v) (n := 101) (by omega) (by omega) (by omega)
    refine gR.steps 1 (σ, (33, [some (.ref 0), some (.int 0), some (.int (nI vv)), none], [.int 0])) rfl ?_
    refine gR.brF rfl (by decide) ?_
    refine gR.steps 2 (σ, (40, [some (.ref 0), some (.int 0), some (.int (nI vv)), none], [.int (σ 0 11)])) rfl ?_
    refine gR.topI (y := nI (dF D)) hs.2.2.2.1.1 ?_
    refine gR.steps 4 (σ, (50, [some (.ref 0), some (.int 0), some (.int (nI vv)), some (.int (nI (dF D)))], [.int 0, .ref 0])) rfl ?_
    refine gR.brF rfl (by decide) ?_
    refine gR.steps 5 (gUp σ 0 11 (nI vv), (66, [some (.ref 0), some (.int 0), some (.int (nI vv)), some (.int (nI (dF D)))], [.int 0, .ref 0])) rfl ?_
    refine gR.brF rfl (by decide) ?_
    refine gR.steps 2 (gUp σ 0 11 (nI vv), (73, [some (.ref 0), some (.int 0), some (.int (nI vv)), some (.int (nI (dF D)))], [.int (σ 0 12), .ref 0])) rfl ?_
    refine gR.topI (y := nI (dDb D)) hs.2.2.2.1.2.2.1 ?_
    refine gR.steps 3 (gUp (gUp σ 0 11 (nI vv)) 0 12 (nI (dDb D)), (81, [some (.ref 0), some (.int 0), some (.int (nI vv)), some (.int (nI (dF D)))], [.int (nI (dF D))])) rfl ?_
    show gR _ _ _ (gUp (gUp σ 0 11 (nI vv)) 0 12 (nI (dDb D))) (81, [some (.ref 0), some (.int 0), some (.int (nI vv)), some (.int (nI (dF D)))], [.int (nI (dF D))])
    refine gR.ret rfl ?_
    refine ⟨trivial, ?_, mObF_up (by decide) (mObF_up (by decide) (mObF.rf 11 12 σ)), ?_⟩
    · rw [show aSet D 0 (nI vv) = _ from if_pos ⟨rfl, zc26⟩]
    · rw [show sSet D 0 (nI vv) = _ from if_pos ⟨rfl, zc26⟩, nI_clamp (by omega)]; exact mSt_set hs (mObF_up (by decide) (mObF_up (by decide) (mObF.rf 11 12 σ))) (by rw [gUp_o (by omega), gUp_s]) (by omega) (by rw [gUp_s]) (by omega)
  · rw [bI_ne0] at zc26
    refine gR.steps 1 (σ, (31, [some (.ref 0), some (.int 0), some (.int v), none], [.int (-2)])) rfl ?_
    refine gR.ret rfl ?_
    refine ⟨trivial, ?_, mObF.rf _ _ σ, ?_⟩
    · rw [show aSet D 0 v = -2 from (if_neg (fun z => zc26 z.2)).trans (if_neg (fun z => absurd z.1 (by decide)))]
    · rw [show sSet D 0 v = D from (if_neg (fun z => zc26 z.2)).trans (if_neg (fun z => absurd z.1 (by decide)))]; exact hs
theorem s_X11_set1 {d : Nat} (hd : 3 ≤ d) (σ : gS) (D : xDat) (v : Int32) (hs : mSt σ D) : gC d 143 [.ref 0, .int 1, .int v] σ (fun r τ => r = some (.int (aSet D 1 v)) ∧ mObF 11 12 σ τ ∧ mSt τ (sSet D 1 v)) := by
  obtain ⟨d, rfl⟩ : ∃ k, d = k + 1 := ⟨d - 1, by omega⟩
  refine gC.of (P := pX11_set) (nL := 4) (rt := (some (.int))) (lv := [some (.ref 0), some (.int 1), some (.int v), none]) (by decide +kernel) rfl rfl rfl (by simp [gEnt, Value.category]) rfl ?_
  have hf100 := hs.2.2.2.1.2.1
  have hd50 := hs.2.2.2.1.2.2.2
  refine gR.steps 1 (σ, (1, [some (.ref 0), some (.int 1), some (.int v), none], [.int 1])) rfl ?_
  refine gR.callp rfl (s_X11_isTwo (by omega) σ 1) ?_
  refine gR.brF rfl (by rw [bI_eq0]; exact Decidable.not_not.mpr (by decide)) ?_
  refine gR.steps 4 (σ, (11, [some (.ref 0), some (.int 1), some (.int v), none], [.int 1, .long 0, .long (Int32.toInt64 v)])) rfl ?_
  refine gR.brT rfl (by decide) ?_
  refine gR.steps 1 (σ, (23, [some (.ref 0), some (.int 1), some (.int v), none], [.long 50, .long 0, .long (Int32.toInt64 v)])) rfl ?_
  refine gR.callp rfl (s_X11_inI (by omega) σ v 0 50 0 50 (by decide) (by decide)) ?_
  refine gR.ifte rfl (fun zc26 => ?_) (fun zc26 => ?_)
  · rw [bI_ne0] at zc26
    obtain ⟨vv, hvv, rfl⟩ := gN_of (x := v) (n := 51) (by omega) (by omega) (by omega)
    refine gR.steps 1 (σ, (33, [some (.ref 0), some (.int 1), some (.int (nI vv)), none], [.int 1])) rfl ?_
    refine gR.brT rfl (by decide) ?_
    refine gR.steps 2 (σ, (47, [some (.ref 0), some (.int 1), some (.int (nI vv)), none], [.int (σ 0 12)])) rfl ?_
    refine gR.topI (y := nI (dDb D)) hs.2.2.2.1.2.2.1 ?_
    refine gR.steps 3 (σ, (50, [some (.ref 0), some (.int 1), some (.int (nI vv)), some (.int (nI (dDb D)))], [.int 1, .ref 0])) rfl ?_
    refine gR.brT rfl (by decide) ?_
    refine gR.steps 2 (σ, (61, [some (.ref 0), some (.int 1), some (.int (nI vv)), some (.int (nI (dDb D)))], [.int (σ 0 11), .ref 0])) rfl ?_
    refine gR.topI (y := nI (dF D)) hs.2.2.2.1.1 ?_
    refine gR.steps 3 (gUp σ 0 11 (nI (dF D)), (66, [some (.ref 0), some (.int 1), some (.int (nI vv)), some (.int (nI (dDb D)))], [.int 1, .ref 0])) rfl ?_
    refine gR.brT rfl (by decide) ?_
    refine gR.steps 3 (gUp (gUp σ 0 11 (nI (dF D))) 0 12 (nI vv), (81, [some (.ref 0), some (.int 1), some (.int (nI vv)), some (.int (nI (dDb D)))], [.int (nI (dDb D))])) rfl ?_
    show gR _ _ _ (gUp (gUp σ 0 11 (nI (dF D))) 0 12 (nI vv)) (81, [some (.ref 0), some (.int 1), some (.int (nI vv)), some (.int (nI (dDb D)))], [.int (nI (dDb D))])
    refine gR.ret rfl ?_
    refine ⟨trivial, ?_, mObF_up (by decide) (mObF_up (by decide) (mObF.rf 11 12 σ)), ?_⟩
    · rw [show aSet D 1 (nI vv) = _ from (if_neg (fun z => absurd z.1 (by decide))).trans (if_pos ⟨rfl, zc26⟩)]
    · rw [show sSet D 1 (nI vv) = _ from (if_neg (fun z => absurd z.1 (by decide))).trans (if_pos ⟨rfl, zc26⟩), nI_clamp (by omega)]; exact mSt_set hs (mObF_up (by decide) (mObF_up (by decide) (mObF.rf 11 12 σ))) (by rw [gUp_o (by omega), gUp_s]) (by omega) (by rw [gUp_s]) (by omega)
  · rw [bI_ne0] at zc26
    refine gR.steps 1 (σ, (31, [some (.ref 0), some (.int 1), some (.int v), none], [.int (-2)])) rfl ?_
    refine gR.ret rfl ?_
    refine ⟨trivial, ?_, mObF.rf _ _ σ, ?_⟩
    · rw [show aSet D 1 v = -2 from (if_neg (fun z => absurd z.1 (by decide))).trans (if_neg (fun z => zc26 z.2))]
    · rw [show sSet D 1 v = D from (if_neg (fun z => absurd z.1 (by decide))).trans (if_neg (fun z => zc26 z.2))]; exact hs
theorem s_X11_setX {d : Nat} (hd : 3 ≤ d) (σ : gS) (D : xDat) (w v : Int32) (hs : mSt σ D) (ht : ¬ (0 ≤ w.toInt ∧ w.toInt ≤ 1)) : gC d 143 [.ref 0, .int w, .int v] σ (fun r τ => r = some (.int (aSet D w v)) ∧ mObF 11 12 σ τ ∧ mSt τ (sSet D w v)) := by
  obtain ⟨d, rfl⟩ : ∃ k, d = k + 1 := ⟨d - 1, by omega⟩
  refine gC.of (P := pX11_set) (nL := 4) (rt := (some (.int))) (lv := [some (.ref 0), some (.int w), some (.int v), none]) (by decide +kernel) rfl rfl rfl (by simp [gEnt, Value.category]) rfl ?_
  refine gR.steps 1 (σ, (1, [some (.ref 0), some (.int w), some (.int v), none], [.int w])) rfl ?_
  refine gR.callp rfl (s_X11_isTwo (by omega) σ w) ?_
  refine gR.brT rfl (bI_f ht) ?_
  refine gR.steps 1 (σ, (31, [some (.ref 0), some (.int w), some (.int v), none], [.int (-2)])) rfl ?_
  refine gR.ret rfl ?_
  have h0 : ¬ w = 0 := fun z => ht (by rw [z]; decide)
  have h1 : ¬ w = 1 := fun z => ht (by rw [z]; decide)
  exact ⟨trivial, by rw [show aSet D w v = -2 from (if_neg (fun z => h0 z.1)).trans (if_neg (fun z => h1 z.1))], mObF.rf _ _ σ, by rw [show sSet D w v = D from (if_neg (fun z => h0 z.1)).trans (if_neg (fun z => h1 z.1))]; exact hs⟩
theorem s_X11_set {d : Nat} (hd : 3 ≤ d) (σ : gS) (D : xDat) (w v : Int32) (hs : mSt σ D) : gC d 143 [.ref 0, .int w, .int v] σ (fun r τ => r = some (.int (aSet D w v)) ∧ mObF 11 12 σ τ ∧ mSt τ (sSet D w v)) := by
  by_cases ht : 0 ≤ w.toInt ∧ w.toInt ≤ 1
  · rcases two_of ht with rfl | rfl
    · exact s_X11_set0 hd σ D v hs
    · exact s_X11_set1 hd σ D v hs
  · exact s_X11_setX hd σ D w v hs ht
def mEvF (σ τ : gS) : Prop := (∀ q, q ≠ 0 → q ≠ 9 → τ q = σ q) ∧ ∀ s, s ≠ 13 → τ 0 s = σ 0 s
theorem mEvF.rf (σ : gS) : mEvF σ σ := ⟨fun _ _ _ => rfl, fun _ _ => rfl⟩
theorem mSt_ev {σ τ : gS} {D : xDat} {n : Nat} {K M B : Nat → Nat} (h : mSt σ D) (hF : mEvF σ τ) (hE : mEv τ n K M B) : mSt τ (dSetE D n K M B) := by
  refine ⟨?_, ?_, hE, ?_, ?_⟩
  · rw [hF.1 6 (by decide) (by decide), hF.1 5 (by decide) (by decide)]; exact h.1
  · rw [hF.1 6 (by decide) (by decide), hF.1 5 (by decide) (by decide)]; exact h.2.1
  · rw [hF.2 11 (by decide), hF.2 12 (by decide)]; exact h.2.2.2.1
  · rw [hF.2 15 (by decide), hF.2 21 (by decide), hF.2 22 (by decide)]; exact h.2.2.2.2
theorem mEv_put {σ : gS} {n : Nat} {K M B : Nat → Nat} {k m b : Nat} {x1 x2 x3 y : Int32} (h : mEv σ n K M B) (hn : n < 8) (hk : k < 4) (hm : m < 24) (hb : b < 10) (h1 : x1 = nI k) (h2 : x2 = nI m) (h3 : x3 = nI b) (hy : y = nI (n + 1)) : mEv (gUp (gUp (gUp (gUp σ 9 (3 * n) x1) 9 (3 * n + 1) x2) 9 (3 * n + 2) x3) 0 13 y) (n + 1) (xPut K n k) (xPut M n m) (xPut B n b) := by
  refine ⟨by rw [gUp_s]; exact hy, by omega, fun i hi => ?_⟩
  unfold xPut
  by_cases hin : i = n
  · subst hin
    rw [if_pos rfl, if_pos rfl, if_pos rfl]
    exact ⟨by rw [gUp_o (by omega), gUp_o (by omega), gUp_o (by omega), gUp_s]; exact h1, by rw [gUp_o (by omega), gUp_o (by omega), gUp_s]; exact h2, by rw [gUp_o (by omega), gUp_s]; exact h3, hk, hm, hb⟩
  · rw [if_neg hin, if_neg hin, if_neg hin]
    obtain ⟨a1, a2, a3, a4⟩ := h.2.2 i (by omega)
    exact ⟨by rw [gUp_o (by omega), gUp_o (by omega), gUp_o (by omega), gUp_o (by omega)]; exact a1, by rw [gUp_o (by omega), gUp_o (by omega), gUp_o (by omega), gUp_o (by omega)]; exact a2, by rw [gUp_o (by omega), gUp_o (by omega), gUp_o (by omega), gUp_o (by omega)]; exact a3, a4⟩
theorem mEvF_put {σ : gS} {a b c : Nat} {x1 x2 x3 y : Int32} : mEvF σ (gUp (gUp (gUp (gUp σ 9 a x1) 9 b x2) 9 c x3) 0 13 y) := ⟨fun q h0 h9 => by rw [gUp_ne h0, gUp_ne h9, gUp_ne h9, gUp_ne h9], fun s hs => by rw [gUp_o (by omega), gUp_o (by omega), gUp_o (by omega), gUp_o (by omega)]⟩
theorem s_X11_puts {d : Nat} (hd : 1 ≤ d) (σ : gS) (n : Nat) (K M B : Nat → Nat) (k m b : Nat) (hE : mEv σ n K M B) (hn : n < 8) (hk : k < 4) (hm : m < 24) (hb : b < 10) : gC d 144 [.ref 0, .int (nI k), .int (nI m), .int (nI b)] σ (fun r τ => r = none ∧ mEvF σ τ ∧ mEv τ (n + 1) (xPut K n k) (xPut M n m) (xPut B n b)) := by
  obtain ⟨d, rfl⟩ : ∃ k, d = k + 1 := ⟨d - 1, by omega⟩
  refine gC.of (P := pX11_puts) (nL := 4) (rt := none) (lv := [some (.ref 0), some (.int (nI k)), some (.int (nI m)), some (.int (nI b))]) (by decide +kernel) rfl rfl rfl (by simp [gEnt, Value.category]) rfl ?_
  refine gR.steps 5 (σ, (9, [some (.ref 0), some (.int (nI k)), some (.int (nI m)), some (.int (nI b))], [.int (σ 0 13), .int 3, .ref 9])) rfl ?_
  refine gR.topI (y := nI (n)) hE.1 ?_
  refine gR.steps 2 (σ, (11, [some (.ref 0), some (.int (nI k)), some (.int (nI m)), some (.int (nI b))], [.int (nI k), .int (3 * (nI n)), .ref 9])) rfl ?_
  refine gR.ast (i := 3 * (nI n)) (j := 3 * n) (N := 24) (q := 9) (x := nI k) rfl (gN_mul rfl rfl) (by omega) (by omega) ?_
  refine gR.steps 5 (gUp σ 9 (3 * n) (nI k), (21, [some (.ref 0), some (.int (nI k)), some (.int (nI m)), some (.int (nI b))], [.int (σ 0 13), .int 3, .ref 9])) rfl ?_
  refine gR.topI (y := nI (n)) hE.1 ?_
  refine gR.steps 4 (gUp σ 9 (3 * n) (nI k), (25, [some (.ref 0), some (.int (nI k)), some (.int (nI m)), some (.int (nI b))], [.int (nI m), .int ((3 * (nI n)) + 1), .ref 9])) rfl ?_
  refine gR.ast (i := (3 * (nI n)) + 1) (j := 3 * n + 1) (N := 24) (q := 9) (x := nI m) rfl (gN_add (gN_mul rfl rfl) rfl) (by omega) (by omega) ?_
  refine gR.steps 5 (gUp (gUp σ 9 (3 * n) (nI k)) 9 (3 * n + 1) (nI m), (35, [some (.ref 0), some (.int (nI k)), some (.int (nI m)), some (.int (nI b))], [.int (σ 0 13), .int 3, .ref 9])) rfl ?_
  refine gR.topI (y := nI (n)) hE.1 ?_
  refine gR.steps 4 (gUp (gUp σ 9 (3 * n) (nI k)) 9 (3 * n + 1) (nI m), (39, [some (.ref 0), some (.int (nI k)), some (.int (nI m)), some (.int (nI b))], [.int (nI b), .int ((3 * (nI n)) + 2), .ref 9])) rfl ?_
  refine gR.ast (i := (3 * (nI n)) + 2) (j := 3 * n + 2) (N := 24) (q := 9) (x := nI b) rfl (gN_add (gN_mul rfl rfl) rfl) (by omega) (by omega) ?_
  refine gR.steps 3 (gUp (gUp (gUp σ 9 (3 * n) (nI k)) 9 (3 * n + 1) (nI m)) 9 (3 * n + 2) (nI b), (45, [some (.ref 0), some (.int (nI k)), some (.int (nI m)), some (.int (nI b))], [.int (σ 0 13), .ref 0])) rfl ?_
  refine gR.topI (y := nI (n)) hE.1 ?_
  refine gR.steps 3 (gUp (gUp (gUp (gUp σ 9 (3 * n) (nI k)) 9 (3 * n + 1) (nI m)) 9 (3 * n + 2) (nI b)) 0 13 ((nI n) + 1), (50, [some (.ref 0), some (.int (nI k)), some (.int (nI m)), some (.int (nI b))], [])) rfl ?_
  show gR _ _ _ (gUp (gUp (gUp (gUp σ 9 (3 * n) (nI k)) 9 (3 * n + 1) (nI m)) 9 (3 * n + 2) (nI b)) 0 13 ((nI n) + 1)) (50, [some (.ref 0), some (.int (nI k)), some (.int (nI m)), some (.int (nI b))], [])
  refine gR.ret rfl ?_
  exact ⟨trivial, rfl, mEvF_put, mEv_put hE hn hk hm hb rfl rfl rfl (gN_add rfl rfl)⟩
/-- may (k, m, b) be an event -/
def xMay (k m b : Int32) : Prop := (0 ≤ k.toInt ∧ k.toInt ≤ 3) ∧ (0 ≤ m.toInt ∧ m.toInt ≤ 23) ∧ (0 ≤ b.toInt ∧ b.toInt ≤ 9)
def xMayD (k m b : Int32) : Decidable (xMay k m b) := inferInstanceAs (Decidable (_ ∧ _ ∧ _))
def aEvent (D : xDat) (k m b : Int32) : Int32 := if (0 ≤ k.toInt ∧ k.toInt ≤ 3) ∧ (0 ≤ m.toInt ∧ m.toInt ≤ 23) ∧ (0 ≤ b.toInt ∧ b.toInt ≤ 9) then (if dN D = 8 then -4 else nI (dN D + 1)) else -2
def sEvent (D : xDat) (k m b : Int32) : xDat := if (0 ≤ k.toInt ∧ k.toInt ≤ 3) ∧ (0 ≤ m.toInt ∧ m.toInt ≤ 23) ∧ (0 ≤ b.toInt ∧ b.toInt ≤ 9) then (if dN D = 8 then D else dSetE D (dN D + 1) (xPut (dK D) (dN D) k.toNatClampNeg) (xPut (dM D) (dN D) m.toNatClampNeg) (xPut (dB D) (dN D) b.toNatClampNeg)) else D
def aBack (D : xDat) : Int32 := if dN D = 0 then -3 else nI (dN D - 1)
def sBack (D : xDat) : xDat := if dN D = 0 then D else dSetE D (dN D - 1) (dK D) (dM D) (dB D)
theorem s_X11_event {d : Nat} (hd : 3 ≤ d) (σ : gS) (D : xDat) (k m b : Int32) (hs : mSt σ D) : gC d 145 [.ref 0, .int k, .int m, .int b] σ (fun r τ => r = some (.int (aEvent D k m b)) ∧ mEvF σ τ ∧ mSt τ (sEvent D k m b)) := by
  obtain ⟨d, rfl⟩ : ∃ k, d = k + 1 := ⟨d - 1, by omega⟩
  refine gC.of (P := pX11_event) (nL := 4) (rt := (some (.int))) (lv := [some (.ref 0), some (.int k), some (.int m), some (.int b)]) (by decide +kernel) rfl rfl rfl (by simp [gEnt, Value.category]) rfl ?_
  have hn8 := hs.2.2.1.2.1
  refine gR.steps 4 (σ, (6, [some (.ref 0), some (.int k), some (.int m), some (.int b)], [.long 3, .long 0, .long (Int32.toInt64 k)])) rfl ?_
  refine gR.callp rfl (s_X11_inI (by omega) σ k 0 3 0 3 (by decide) (by decide)) ?_
  refine gR.ifte rfl (fun zc9 => ?_) (fun zc9 => ?_)
  · rw [bI_eq0] at zc9
    refine gR.steps 1 (σ, (33, [some (.ref 0), some (.int k), some (.int m), some (.int b)], [.int (-2)])) rfl ?_
    refine gR.ret rfl ?_
    exact ⟨trivial, by rw [show aEvent D k m b = -2 from if_neg (by omega)], mEvF.rf σ, by rw [show sEvent D k m b = D from if_neg (by omega)]; exact hs⟩
  · rw [bI_eq0, Decidable.not_not] at zc9
    obtain ⟨kk, hkk, rfl⟩ := gN_of (x := k) (n := 4) (by omega) (by omega) (by omega)
    refine gR.steps 1 (σ, (13, [some (.ref 0), some (.int (nI kk)), some (.int m), some (.int b)], [.int m])) rfl ?_
    refine gR.callp rfl (s_X11_isMonth (by omega) σ m) ?_
    refine gR.ifte rfl (fun zc16 => ?_) (fun zc16 => ?_)
    · rw [bI_eq0] at zc16
      refine gR.steps 1 (σ, (33, [some (.ref 0), some (.int (nI kk)), some (.int m), some (.int b)], [.int (-2)])) rfl ?_
      refine gR.ret rfl ?_
      exact ⟨trivial, by rw [show aEvent D (nI kk) m b = -2 from if_neg (by omega)], mEvF.rf σ, by rw [show sEvent D (nI kk) m b = D from if_neg (by omega)]; exact hs⟩
    · rw [bI_eq0, Decidable.not_not] at zc16
      obtain ⟨mm, hmm, rfl⟩ := gN_of (x := m) (n := 24) (by omega) (by omega) (by omega)
      refine gR.steps 4 (σ, (25, [some (.ref 0), some (.int (nI kk)), some (.int (nI mm)), some (.int b)], [.long 9, .long 0, .long (Int32.toInt64 b)])) rfl ?_
      refine gR.callp rfl (s_X11_inI (by omega) σ b 0 9 0 9 (by decide) (by decide)) ?_
      refine gR.ifte rfl (fun zc28 => ?_) (fun zc28 => ?_)
      · rw [bI_ne0] at zc28
        obtain ⟨bb, hbb, rfl⟩ := gN_of (x := b) (n := 10) (by omega) (by omega) (by omega)
        refine gR.steps 2 (σ, (38, [some (.ref 0), some (.int (nI kk)), some (.int (nI mm)), some (.int (nI bb))], [.int (σ 0 13)])) rfl ?_
        refine gR.topI (y := nI (dN D)) hs.2.2.1.1 ?_
        refine gR.steps 1 (σ, (40, [some (.ref 0), some (.int (nI kk)), some (.int (nI mm)), some (.int (nI bb))], [.int 8, .int (nI (dN D))])) rfl ?_
        refine gR.ifte rfl (fun zc40 => ?_) (fun zc40 => ?_)
        · rw [gN_eq (x := nI (dN D)) (y := 8) (a := dN D) (b := 8) rfl rfl (by omega) (by omega)] at zc40
          refine gR.steps 4 (σ, (50, [some (.ref 0), some (.int (nI kk)), some (.int (nI mm)), some (.int (nI bb))], [.int (nI bb), .int (nI mm), .int (nI kk), .ref 0])) rfl ?_
          refine gR.call' rfl (s_X11_puts (by omega) σ (dN D) (dK D) (dM D) (dB D) kk mm bb hs.2.2.1 (by omega) (by omega) (by omega) (by omega)) ?_
          rintro _ τ ⟨rfl, hF, hE2⟩
          show gR _ _ _ τ (53, [some (.ref 0), some (.int (nI kk)), some (.int (nI mm)), some (.int (nI bb))], [])
          refine gR.steps 2 (τ, (57, [some (.ref 0), some (.int (nI kk)), some (.int (nI mm)), some (.int (nI bb))], [.int (τ 0 13)])) rfl ?_
          refine gR.topI (y := nI (dN D + 1)) hE2.1 ?_
          refine gR.ret rfl ?_
          exact ⟨trivial, by rw [show aEvent D (nI kk) (nI mm) (nI bb) = _ from if_pos ⟨zc9, zc16, zc28⟩, if_neg zc40], hF, by rw [show sEvent D (nI kk) (nI mm) (nI bb) = _ from if_pos ⟨zc9, zc16, zc28⟩, if_neg zc40, nI_clamp (by omega), nI_clamp (by omega), nI_clamp (by omega)]; exact mSt_ev hs hF hE2⟩
        · rw [gN_eq (x := nI (dN D)) (y := 8) (a := dN D) (b := 8) rfl rfl (by omega) (by omega)] at zc40
          refine gR.steps 1 (σ, (45, [some (.ref 0), some (.int (nI kk)), some (.int (nI mm)), some (.int (nI bb))], [.int (-4)])) rfl ?_
          refine gR.ret rfl ?_
          exact ⟨trivial, by rw [show aEvent D (nI kk) (nI mm) (nI bb) = _ from if_pos ⟨zc9, zc16, zc28⟩, if_pos (Decidable.not_not.mp zc40)], mEvF.rf σ, by rw [show sEvent D (nI kk) (nI mm) (nI bb) = _ from if_pos ⟨zc9, zc16, zc28⟩, if_pos (Decidable.not_not.mp zc40)]; exact hs⟩
      · rw [bI_ne0] at zc28
        refine gR.steps 1 (σ, (33, [some (.ref 0), some (.int (nI kk)), some (.int (nI mm)), some (.int b)], [.int (-2)])) rfl ?_
        refine gR.ret rfl ?_
        exact ⟨trivial, by rw [show aEvent D (nI kk) (nI mm) b = -2 from if_neg (by omega)], mEvF.rf σ, by rw [show sEvent D (nI kk) (nI mm) b = D from if_neg (by omega)]; exact hs⟩
theorem s_X11_back {d : Nat} (hd : 1 ≤ d) (σ : gS) (D : xDat) (hs : mSt σ D) : gC d 146 [.ref 0] σ (fun r τ => r = some (.int (aBack D)) ∧ mEvF σ τ ∧ mSt τ (sBack D)) := by
  obtain ⟨d, rfl⟩ : ∃ k, d = k + 1 := ⟨d - 1, by omega⟩
  refine gC.of (P := pX11_back) (nL := 1) (rt := (some (.int))) (lv := [some (.ref 0)]) (by decide +kernel) rfl rfl rfl (by simp [gEnt, Value.category]) rfl ?_
  have hn8 := hs.2.2.1.2.1
  refine gR.steps 2 (σ, (4, [some (.ref 0)], [.int (σ 0 13)])) rfl ?_
  refine gR.topI (y := nI (dN D)) hs.2.2.1.1 ?_
  refine gR.ifte rfl (fun zc4 => ?_) (fun zc4 => ?_)
  · rw [gN_eq (x := nI (dN D)) (y := 0) (a := dN D) (b := 0) rfl rfl (by omega) (by omega)] at zc4
    refine gR.steps 3 (σ, (15, [some (.ref 0)], [.int (σ 0 13), .ref 0])) rfl ?_
    refine gR.topI (y := nI (dN D)) hs.2.2.1.1 ?_
    refine gR.steps 5 (gUp σ 0 13 ((nI (dN D)) - 1), (24, [some (.ref 0)], [.int ((nI (dN D)) - 1)])) rfl ?_
    show gR _ _ _ (gUp σ 0 13 ((nI (dN D)) - 1)) (24, [some (.ref 0)], [.int ((nI (dN D)) - 1)])
    refine gR.ret rfl ?_
    exact ⟨trivial, by rw [show aBack D = _ from if_neg zc4]; exact congrArg (fun z => some (Value.int z)) (gN_sub rfl rfl (by omega)), (show mEvF σ (gUp σ 0 13 (nI (dN D) - 1)) from ⟨fun q h0 h9 => gUp_ne h0, fun s hs => gUp_o (by omega)⟩), by rw [show sBack D = _ from if_neg zc4]; exact mSt_ev hs (show mEvF σ (gUp σ 0 13 (nI (dN D) - 1)) from ⟨fun q h0 h9 => gUp_ne h0, fun s hs => gUp_o (by omega)⟩) ⟨by rw [gUp_s]; exact gN_sub rfl rfl (by omega), by omega, fun i hi => by rw [gUp_o (by omega), gUp_o (by omega), gUp_o (by omega)]; exact hs.2.2.1.2.2 i (by omega)⟩⟩
  · rw [gN_eq (x := nI (dN D)) (y := 0) (a := dN D) (b := 0) rfl rfl (by omega) (by omega)] at zc4
    refine gR.steps 1 (σ, (9, [some (.ref 0)], [.int (-3)])) rfl ?_
    refine gR.ret rfl ?_
    exact ⟨trivial, by rw [show aBack D = -3 from if_pos (Decidable.not_not.mp zc4)], mEvF.rf σ, by rw [show sBack D = D from if_pos (Decidable.not_not.mp zc4)]; exact hs⟩
theorem s_X11_finds {d : Nat} (hd : 1 ≤ d) (σ : gS) (x : Nat) (hx : x < 10) : gC d 119 [.ref 0, .int (nI x)] σ (fun r τ => r = some (.int (-10 - nI x)) ∧ τ = gUp σ 0 4 (nI x)) := by
  obtain ⟨d, rfl⟩ : ∃ k, d = k + 1 := ⟨d - 1, by omega⟩
  refine gC.of (P := pX11_finds) (nL := 2) (rt := (some (.int))) (lv := [some (.ref 0), some (.int (nI x))]) (by decide +kernel) rfl rfl rfl (by simp [gEnt, Value.category]) rfl ?_
  refine gR.steps 6 (gUp σ 0 4 (nI x), (9, [some (.ref 0), some (.int (nI x))], [.int ((-10) - (nI x))])) rfl ?_
  show gR _ _ _ (gUp σ 0 4 (nI x)) (9, [some (.ref 0), some (.int (nI x))], [.int ((-10) - (nI x))])
  refine gR.ret rfl ?_
  exact ⟨trivial, rfl, rfl⟩
