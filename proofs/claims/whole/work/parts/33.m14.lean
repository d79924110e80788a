def gSet (G : xSig) (n : Nat) (a b c : Nat → Nat) : xSig := (n, a, b, c)
def aSeen (G : xSig) (m k s : Int32) : Int32 := if (0 ≤ m.toInt ∧ m.toInt ≤ 23) ∧ (0 ≤ k.toInt ∧ k.toInt ≤ 9) ∧ (0 ≤ s.toInt ∧ s.toInt ≤ 4) then (if G.1 = 8 then -4 else nI (G.1 + 1)) else -2
def sSeen (G : xSig) (m k s : Int32) : xSig := if (0 ≤ m.toInt ∧ m.toInt ≤ 23) ∧ (0 ≤ k.toInt ∧ k.toInt ≤ 9) ∧ (0 ≤ s.toInt ∧ s.toInt ≤ 4) then (if G.1 = 8 then G else (G.1 + 1, xPut G.2.1 G.1 m.toNatClampNeg, xPut G.2.2.1 G.1 k.toNatClampNeg, xPut G.2.2.2 G.1 s.toNatClampNeg)) else G
def mSiF (σ τ : gS) : Prop := (∀ q, q ≠ 0 → q ≠ 15 → τ q = σ q) ∧ ∀ s, s ≠ 24 → τ 0 s = σ 0 s
theorem mSiF.rf (σ : gS) : mSiF σ σ := ⟨fun _ _ _ => rfl, fun _ _ => rfl⟩
theorem mSi_put {σ : gS} {n : Nat} {SM SB SS : Nat → Nat} {m k s : Nat} {x1 x2 x3 y : Int32} (h : mSi σ n SM SB SS) (hn : n < 8) (hm : m < 24) (hk : k < 10) (hs : s < 5) (h1 : x1 = nI m) (h2 : x2 = nI k) (h3 : x3 = nI s) (hy : y = nI (n + 1)) : mSi (gUp (gUp (gUp (gUp σ 15 (3 * n) x1) 15 (3 * n + 1) x2) 15 (3 * n + 2) x3) 0 24 y) (n + 1) (xPut SM n m) (xPut SB n k) (xPut SS n s) := by
  refine ⟨by rw [gUp_s]; exact hy, by omega, fun i hi => ?_⟩
  unfold xPut
  by_cases hin : i = n
  · subst hin
    rw [if_pos rfl, if_pos rfl, if_pos rfl]
    exact ⟨by rw [gUp_o (by omega), gUp_o (by omega), gUp_o (by omega), gUp_s]; exact h1, by rw [gUp_o (by omega), gUp_o (by omega), gUp_s]; exact h2, by rw [gUp_o (by omega), gUp_s]; exact h3, hm, hk, hs⟩
  · rw [if_neg hin, if_neg hin, if_neg hin]
    obtain ⟨a1, a2, a3, a4⟩ := h.2.2 i (by omega)
    exact ⟨by rw [gUp_o (by omega), gUp_o (by omega), gUp_o (by omega), gUp_o (by omega)]; exact a1, by rw [gUp_o (by omega), gUp_o (by omega), gUp_o (by omega), gUp_o (by omega)]; exact a2, by rw [gUp_o (by omega), gUp_o (by omega), gUp_o (by omega), gUp_o (by omega)]; exact a3, a4⟩
theorem mSiF_put {σ : gS} {a b c : Nat} {x1 x2 x3 y : Int32} : mSiF σ (gUp (gUp (gUp (gUp σ 15 a x1) 15 b x2) 15 c x3) 0 24 y) := ⟨fun q h0 h9 => by rw [gUp_ne h0, gUp_ne h9, gUp_ne h9, gUp_ne h9], fun s hs => by rw [gUp_o (by omega), gUp_o (by omega), gUp_o (by omega), gUp_o (by omega)]⟩
theorem s_X11_seen {d : Nat} (hd : 3 ≤ d) (σ : gS) (G : xSig) (m k s : Int32) (hg : mSg σ G) : gC d 180 [.ref 0, .int m, .int k, .int s] σ (fun r τ => r = some (.int (aSeen G m k s)) ∧ mSiF σ τ ∧ mSg τ (sSeen G m k s)) := by
  obtain ⟨d, rfl⟩ : ∃ k, d = k + 1 := ⟨d - 1, by omega⟩
  refine gC.of (P := pX11_seen) (nL := 4) (rt := (some (.int))) (lv := [some (.ref 0), some (.int m), some (.int k), some (.int s)]) (by decide +kernel) rfl rfl rfl (by simp [gEnt, Value.category]) rfl ?_
  have hn8 : G.1 ≤ 8 := hg.2.1
  refine gR.steps 1 (σ, (1, [some (.ref 0), some (.int m), some (.int k), some (.int s)], [.int m])) rfl ?_
  refine gR.callp rfl (s_X11_isMonth (by omega) σ m) ?_
  refine gR.ifte rfl (fun zc4 => ?_) (fun zc4 => ?_)
  · rw [bI_eq0] at zc4
    refine gR.steps 1 (σ, (33, [some (.ref 0), some (.int m), some (.int k), some (.int s)], [.int (-2)])) rfl ?_
    refine gR.ret rfl ?_
    exact ⟨trivial, by rw [show aSeen G m k s = -2 from if_neg (by omega)], mSiF.rf σ, by rw [show sSeen G m k s = G from if_neg (by omega)]; exact hg⟩
  · rw [bI_eq0, Decidable.not_not] at zc4
    obtain ⟨mm, hmm, rfl⟩ := gN_of (x := m) (n := 24) (by omega) (by omega) (by omega)
    refine gR.steps 4 (σ, (13, [some (.ref 0), some (.int (nI mm)), some (.int k), some (.int s)], [.long 9, .long 0, .long (Int32.toInt64 k)])) rfl ?_
    refine gR.callp rfl (s_X11_inI (by omega) σ k 0 9 0 9 (by decide) (by decide)) ?_
    refine gR.ifte rfl (fun zc16 => ?_) (fun zc16 => ?_)
    · rw [bI_eq0] at zc16
      refine gR.steps 1 (σ, (33, [some (.ref 0), some (.int (nI mm)), some (.int k), some (.int s)], [.int (-2)])) rfl ?_
      refine gR.ret rfl ?_
      exact ⟨trivial, by rw [show aSeen G (nI mm) k s = -2 from if_neg (by omega)], mSiF.rf σ, by rw [show sSeen G (nI mm) k s = G from if_neg (by omega)]; exact hg⟩
    · rw [bI_eq0, Decidable.not_not] at zc16
      obtain ⟨kk, hkk, rfl⟩ := gN_of (x := k) (n := 10) (by omega) (by omega) (by omega)
      refine gR.steps 4 (σ, (25, [some (.ref 0), some (.int (nI mm)), some (.int (nI kk)), some (.int s)], [.long 4, .long 0, .long (Int32.toInt64 s)])) rfl ?_
      refine gR.callp rfl (s_X11_inI (by omega) σ s 0 4 0 4 (by decide) (by decide)) ?_
      refine gR.ifte rfl (fun zc28 => ?_) (fun zc28 => ?_)
      · rw [bI_ne0] at zc28
        obtain ⟨ss, hss, rfl⟩ := gN_of (x := s) (n := 5) (by omega) (by omega) (by omega)
        refine gR.steps 2 (σ, (38, [some (.ref 0), some (.int (nI mm)), some (.int (nI kk)), some (.int (nI ss))], [.int (σ 0 24)])) rfl ?_
        refine gR.topI (y := nI (G.1)) hg.1 ?_
        refine gR.steps 1 (σ, (40, [some (.ref 0), some (.int (nI mm)), some (.int (nI kk)), some (.int (nI ss))], [.int 8, .int (nI (G.1))])) rfl ?_
        refine gR.ifte rfl (fun zc40 => ?_) (fun zc40 => ?_)
        · rw [gN_eq (x := nI (G.1)) (y := 8) (a := G.1) (b := 8) rfl rfl (by omega) (by omega)] at zc40
          refine gR.steps 5 (σ, (55, [some (.ref 0), some (.int (nI mm)), some (.int (nI kk)), some (.int (nI ss))], [.int (σ 0 24), .int 3, .ref 15])) rfl ?_
          refine gR.topI (y := nI (G.1)) hg.1 ?_
          refine gR.steps 2 (σ, (57, [some (.ref 0), some (.int (nI mm)), some (.int (nI kk)), some (.int (nI ss))], [.int (nI mm), .int (3 * (nI (G.1))), .ref 15])) rfl ?_
          refine gR.ast (i := 3 * (nI (G.1))) (j := 3 * G.1) (N := 24) (q := 15) (x := nI mm) rfl (gN_mul rfl rfl) (by omega) (by omega) ?_
          refine gR.steps 5 (gUp σ 15 (3 * G.1) (nI mm), (67, [some (.ref 0), some (.int (nI mm)), some (.int (nI kk)), some (.int (nI ss))], [.int (σ 0 24), .int 3, .ref 15])) rfl ?_
          refine gR.topI (y := nI (G.1)) hg.1 ?_
          refine gR.steps 4 (gUp σ 15 (3 * G.1) (nI mm), (71, [some (.ref 0), some (.int (nI mm)), some (.int (nI kk)), some (.int (nI ss))], [.int (nI kk), .int ((3 * (nI (G.1))) + 1), .ref 15])) rfl ?_
          refine gR.ast (i := (3 * (nI (G.1))) + 1) (j := 3 * G.1 + 1) (N := 24) (q := 15) (x := nI kk) rfl (gN_add (gN_mul rfl rfl) rfl) (by omega) (by omega) ?_
          refine gR.steps 5 (gUp (gUp σ 15 (3 * G.1) (nI mm)) 15 (3 * G.1 + 1) (nI kk), (81, [some (.ref 0), some (.int (nI mm)), some (.int (nI kk)), some (.int (nI ss))], [.int (σ 0 24), .int 3, .ref 15])) rfl ?_
          refine gR.topI (y := nI (G.1)) hg.1 ?_
          refine gR.steps 4 (gUp (gUp σ 15 (3 * G.1) (nI mm)) 15 (3 * G.1 + 1) (nI kk), (85, [some (.ref 0), some (.int (nI mm)), some (.int (nI kk)), some (.int (nI ss))], [.int (nI ss), .int ((3 * (nI (G.1))) + 2), .ref 15])) rfl ?_
          refine gR.ast (i := (3 * (nI (G.1))) + 2) (j := 3 * G.1 + 2) (N := 24) (q := 15) (x := nI ss) rfl (gN_add (gN_mul rfl rfl) rfl) (by omega) (by omega) ?_
          refine gR.steps 3 (gUp (gUp (gUp σ 15 (3 * G.1) (nI mm)) 15 (3 * G.1 + 1) (nI kk)) 15 (3 * G.1 + 2) (nI ss), (91, [some (.ref 0), some (.int (nI mm)), some (.int (nI kk)), some (.int (nI ss))], [.int (σ 0 24), .ref 0])) rfl ?_
          refine gR.topI (y := nI (G.1)) hg.1 ?_
          refine gR.steps 5 (gUp (gUp (gUp (gUp σ 15 (3 * G.1) (nI mm)) 15 (3 * G.1 + 1) (nI kk)) 15 (3 * G.1 + 2) (nI ss)) 0 24 ((nI (G.1)) + 1), (100, [some (.ref 0), some (.int (nI mm)), some (.int (nI kk)), some (.int (nI ss))], [.int ((nI (G.1)) + 1)])) rfl ?_
          refine gR.topI (y := nI (G.1 + 1)) (gN_add rfl rfl) ?_
          show gR _ _ _ (gUp (gUp (gUp (gUp σ 15 (3 * G.1) (nI mm)) 15 (3 * G.1 + 1) (nI kk)) 15 (3 * G.1 + 2) (nI ss)) 0 24 ((nI (G.1)) + 1)) (100, [some (.ref 0), some (.int (nI mm)), some (.int (nI kk)), some (.int (nI ss))], [.int (nI (G.1 + 1))])
          refine gR.ret rfl ?_
          refine ⟨trivial, ?_, mSiF_put, ?_⟩
          · rw [show aSeen G (nI mm) (nI kk) (nI ss) = _ from if_pos ⟨zc4, zc16, zc28⟩, if_neg zc40]
          · rw [show sSeen G (nI mm) (nI kk) (nI ss) = _ from if_pos ⟨zc4, zc16, zc28⟩, if_neg zc40, nI_clamp (by omega), nI_clamp (by omega), nI_clamp (by omega)]; exact mSi_put hg (by omega) hmm hkk hss rfl rfl rfl (gN_add rfl rfl)
        · rw [gN_eq (x := nI (G.1)) (y := 8) (a := G.1) (b := 8) rfl rfl (by omega) (by omega)] at zc40
          refine gR.steps 1 (σ, (45, [some (.ref 0), some (.int (nI mm)), some (.int (nI kk)), some (.int (nI ss))], [.int (-4)])) rfl ?_
          refine gR.ret rfl ?_
          exact ⟨trivial, by rw [show aSeen G (nI mm) (nI kk) (nI ss) = _ from if_pos ⟨zc4, zc16, zc28⟩, if_pos (Decidable.not_not.mp zc40)], mSiF.rf σ, by rw [show sSeen G (nI mm) (nI kk) (nI ss) = _ from if_pos ⟨zc4, zc16, zc28⟩, if_pos (Decidable.not_not.mp zc40)]; exact hg⟩
      · rw [bI_ne0] at zc28
        refine gR.steps 1 (σ, (33, [some (.ref 0), some (.int (nI mm)), some (.int (nI kk)), some (.int s)], [.int (-2)])) rfl ?_
        refine gR.ret rfl ?_
        exact ⟨trivial, by rw [show aSeen G (nI mm) (nI kk) s = -2 from if_neg (by omega)], mSiF.rf σ, by rw [show sSeen G (nI mm) (nI kk) s = G from if_neg (by omega)]; exact hg⟩
theorem s_X11_forget {d : Nat} (hd : 1 ≤ d) (σ : gS) (G : xSig) (hg : mSg σ G) : gC d 181 [.ref 0] σ (fun r τ => r = some (.int (nI G.1)) ∧ mSiF σ τ ∧ mSg τ (0, G.2)) := by
  obtain ⟨d, rfl⟩ : ∃ k, d = k + 1 := ⟨d - 1, by omega⟩
  refine gC.of (P := pX11_forget) (nL := 2) (rt := (some (.int))) (lv := [some (.ref 0), none]) (by decide +kernel) rfl rfl rfl (by simp [gEnt, Value.category]) rfl ?_
  refine gR.steps 2 (σ, (4, [some (.ref 0), none], [.int (σ 0 24)])) rfl ?_
  refine gR.topI (y := nI (G.1)) hg.1 ?_
  refine gR.steps 5 (gUp σ 0 24 0, (11, [some (.ref 0), some (.int (nI (G.1)))], [.int (nI (G.1))])) rfl ?_
  show gR _ _ _ (gUp σ 0 24 0) (11, [some (.ref 0), some (.int (nI (G.1)))], [.int (nI (G.1))])
  refine gR.ret rfl ?_
  exact ⟨trivial, rfl, ⟨fun q h0 _ => gUp_ne h0, fun s hs => gUp_o (by omega)⟩, ⟨gUp_s _ _ _ _, by omega, fun i hi => absurd hi (Nat.not_lt_zero i)⟩⟩
def dBegan (D : xDat) (G : xSig) (k : Nat) : Int32 := xMask (fun v => xAll (xSee (dN D) (dK D) (dM D) (dB D) gn0 false (dNb D) (dKd D) (xPut (dBg D) k v) G.2.1 G.2.2.1 G.2.2.2) G.1) 12
def dSort (D : xDat) (G : xSig) (k : Nat) : Int32 := xMask (fun v => xAll (xSee (dN D) (dK D) (dM D) (dB D) gn0 false (dNb D) (xPut (dKd D) k v) (dBg D) G.2.1 G.2.2.1 G.2.2.2) G.1) 3
def aWas (D : xDat) (G : xSig) (k w : Int32) : Int32 := if (0 ≤ k.toInt ∧ k.toInt < dNb D) ∧ (0 ≤ w.toInt ∧ w.toInt ≤ 1) then (if w = 0 then dBegan D G k.toNatClampNeg else dSort D G k.toNatClampNeg) else -2
/-- found, and the state of the data: what the model's helpers need -/
def mAll (τ : gS) (D : xDat) (G : xSig) : Prop := mSt τ D ∧ mFnd τ D ∧ mSg τ G
theorem s_X11_began {d : Nat} (hd : 5 ≤ d) (σ : gS) (D : xDat) (G : xSig) (k : Nat) (h : mAll σ D G) (hk : k < dNb D) : gC d 185 [.ref 0, .int (nI k)] σ (fun r τ => r = some (.int (dBegan D G k)) ∧ τ = σ) :=
  s_X11_beganOf hd σ (dN D) (dK D) (dM D) (dB D) gn0 false (dNb D) (dKd D) (dBg D) (dSp D) G.1 G.2.1 G.2.2.1 G.2.2.2 k h.1.2.2.1 h.2.1.1 (mGone_0 h.1.2.2.2.2.1) (h.1.2.2.2.2.2.1.trans rfl) h.2.2 hk
theorem s_X11_sort {d : Nat} (hd : 5 ≤ d) (σ : gS) (D : xDat) (G : xSig) (k : Nat) (h : mAll σ D G) (hk : k < dNb D) : gC d 186 [.ref 0, .int (nI k)] σ (fun r τ => r = some (.int (dSort D G k)) ∧ τ = σ) :=
  s_X11_sortOf hd σ (dN D) (dK D) (dM D) (dB D) gn0 false (dNb D) (dKd D) (dBg D) (dSp D) G.1 G.2.1 G.2.2.1 G.2.2.2 k h.1.2.2.1 h.2.1.1 (mGone_0 h.1.2.2.2.2.1) (h.1.2.2.2.2.2.1.trans rfl) h.2.2 hk
theorem s_X11_wasOf {d : Nat} (hd : 6 ≤ d) (σ : gS) (D : xDat) (G : xSig) (k w : Nat) (hA : mAll σ D G) (hk : k < dNb D) (hw : w < 2) : gC d 187 [.ref 0, .int (nI k), .int (nI w)] σ (fun r τ => r = some (.int (if w = 0 then dBegan D G k else dSort D G k)) ∧ τ = σ) := by
  obtain ⟨d, rfl⟩ : ∃ k, d = k + 1 := ⟨d - 1, by omega⟩
  refine gC.of (P := pX11_wasOf) (nL := 3) (rt := (some (.int))) (lv := [some (.ref 0), some (.int (nI k)), some (.int (nI w))]) (by decide +kernel) rfl rfl rfl (by simp [gEnt, Value.category]) rfl ?_
  refine gR.steps 1 (σ, (1, [some (.ref 0), some (.int (nI k)), some (.int (nI w))], [.int (nI w)])) rfl ?_
  refine gR.ifte rfl (fun zc1 => ?_) (fun zc1 => ?_)
  · rw [gN_eq (x := nI w) (y := 0) (a := w) (b := 0) rfl rfl (by omega) (by omega)] at zc1
    refine gR.steps 2 (σ, (14, [some (.ref 0), some (.int (nI k)), some (.int (nI w))], [.int (nI k), .ref 0])) rfl ?_
    refine gR.callp rfl (s_X11_sort (by omega) σ D G k hA (by omega)) ?_
    refine gR.ret rfl ?_
    exact ⟨trivial, by rw [if_neg zc1], rfl⟩
  · rw [gN_eq (x := nI w) (y := 0) (a := w) (b := 0) rfl rfl (by omega) (by omega)] at zc1
    refine gR.steps 2 (σ, (6, [some (.ref 0), some (.int (nI k)), some (.int (nI w))], [.int (nI k), .ref 0])) rfl ?_
    refine gR.callp rfl (s_X11_began (by omega) σ D G k hA (by omega)) ?_
    refine gR.steps 1 (σ, (17, [some (.ref 0), some (.int (nI k)), some (.int (nI w))], [.int (dBegan D G k)])) rfl ?_
    refine gR.ret rfl ?_
    exact ⟨trivial, by rw [if_pos (Decidable.not_not.mp zc1)], rfl⟩
theorem s_X11_was {d : Nat} (hd : 7 ≤ d) (σ : gS) (D : xDat) (G : xSig) (k w : Int32) (hs : mSt σ D) (hg : mSg σ G) : gC d 188 [.ref 0, .int k, .int w] σ (fun r τ => r = some (.int (aWas D G k w)) ∧ mKeep σ τ) := by
  obtain ⟨d, rfl⟩ : ∃ k, d = k + 1 := ⟨d - 1, by omega⟩
  refine gC.of (P := pX11_was) (nL := 3) (rt := (some (.int))) (lv := [some (.ref 0), some (.int k), some (.int w)]) (by decide +kernel) rfl rfl rfl (by simp [gEnt, Value.category]) rfl ?_
  refine gR.steps 1 (σ, (1, [some (.ref 0), some (.int k), some (.int w)], [.ref 0])) rfl ?_
  refine gR.call' rfl (s_X11_find (by omega) σ D hs) ?_
  rintro _ τ ⟨rfl, hk, hf⟩
  show gR _ _ _ τ (4, [some (.ref 0), some (.int k), some (.int w)], [])
  refine gR.steps 2 (τ, (6, [some (.ref 0), some (.int k), some (.int w)], [.int k, .ref 0])) rfl ?_
  have hnb := dNb_le D hs.1.2.1
  refine gR.callp rfl (s_X11_isBush (by omega) τ k (dNb D) hf.1.1 (by omega)) ?_
  refine gR.ifte rfl (fun zc9 => ?_) (fun zc9 => ?_)
  · rw [bI_eq0] at zc9
    refine gR.steps 1 (τ, (30, [some (.ref 0), some (.int k), some (.int w)], [.int (-2)])) rfl ?_
    refine gR.ret rfl ?_
    exact ⟨trivial, by unfold aWas; rw [if_neg (by omega)], hk⟩
  · rw [bI_eq0, Decidable.not_not] at zc9
    obtain ⟨kk, hkk, rfl⟩ := gN_of (x := k) (n := 11) (by omega) (by omega) (by omega)
    refine gR.steps 1 (τ, (13, [some (.ref 0), some (.int (nI kk)), some (.int w)], [.int w])) rfl ?_
    refine gR.callp rfl (s_X11_isTwo (by omega) τ w) ?_
    refine gR.ifte rfl (fun zc16 => ?_) (fun zc16 => ?_)
    · rw [bI_eq0] at zc16
      refine gR.steps 1 (τ, (30, [some (.ref 0), some (.int (nI kk)), some (.int w)], [.int (-2)])) rfl ?_
      refine gR.ret rfl ?_
      exact ⟨trivial, by unfold aWas; rw [if_neg (by omega)], hk⟩
    · rw [bI_eq0, Decidable.not_not] at zc16
      obtain ⟨ww, hww, rfl⟩ := gN_of (x := w) (n := 2) (by omega) (by omega) (by omega)
      refine gR.steps 3 (τ, (22, [some (.ref 0), some (.int (nI kk)), some (.int (nI ww))], [.int (nI ww), .int (nI kk), .ref 0])) rfl ?_
      have hkk3 : kk < dNb D := by rw [nI_toInt (by omega)] at zc9; omega
      refine gR.callp rfl (s_X11_wasOf (by omega) τ D G kk ww ⟨hs.keep hk, hf, hg.keep hk⟩ hkk3 hww) ?_
      refine gR.steps 1 (τ, (30, [some (.ref 0), some (.int (nI kk)), some (.int (nI ww))], [.int (if ww = 0 then dBegan D G kk else dSort D G kk)])) rfl ?_
      refine gR.ret rfl ?_
      refine ⟨trivial, ?_, hk⟩
      rw [show aWas D G (nI kk) (nI ww) = _ from if_pos ⟨zc9, zc16⟩, nI_clamp (by omega)]
      rcases (show ww = 0 ∨ ww = 1 by omega) with rfl | rfl <;> rfl
theorem s_X11_lastBy {d : Nat} (hd : 2 ≤ d) (σ : gS) (nb : Nat) (S : Nat → Nat → Nat) (Q : Nat → Nat → Bool) (w : Nat) (hB : σ 0 7 = nI nb) (hnb : nb ≤ 10) (hC : mCells σ S Q nb) (hw : w < 2) : gC d 169 [.ref 0, .int (nI w)] σ (fun r τ => r = some (.int (if w = 0 then (xTop (fun k => xSum (fun z => if S z k = 1 then 1 else 0) 24) nb).1 else (xTop (fun k => xSum (fun z => if S z k = 1 then 1 else 0) 24) nb).2)) ∧ τ = σ) := by
  obtain ⟨d, rfl⟩ : ∃ k, d = k + 1 := ⟨d - 1, by omega⟩
  refine gC.of (P := pX11_lastBy) (nL := 7) (rt := (some (.int))) (lv := [some (.ref 0), some (.int (nI w)), none, none, none, none, none]) (by decide +kernel) rfl rfl rfl (by simp [gEnt, Value.category]) rfl ?_
  refine gR.steps 6 (σ, (7, [some (.ref 0), some (.int (nI w)), some (.int (-1)), some (.int (-1)), some (.int 0), none, none], [])) rfl ?_
  refine gR.forget [some (.ref 0), some (.int (nI w)), some (.int (xTop (fun k => xSum (fun z => if S z k = 1 then 1 else 0) 24) 0).1), some (.int (xTop (fun k => xSum (fun z => if S z k = 1 then 1 else 0) 24) 0).2), some (.int 0), none, none] ⟨rfl, ⟨rfl, ⟨rfl, ⟨rfl, ⟨rfl, trivial⟩⟩⟩⟩⟩ ?_
  refine gR.loop (α := Nat) (fun k => k ≤ nb) (fun k => nb - k) (fun k => (σ, (7, [some (.ref 0), some (.int (nI w)), some (.int ((xTop (fun k => xSum (fun z => if S z k = 1 then 1 else 0) 24) k).1)), some (.int ((xTop (fun k => xSum (fun z => if S z k = 1 then 1 else 0) 24) k).2)), some (.int (nI k)), none, none], []))) ?_ 0 (Nat.zero_le nb)
  rintro k hkn ih
  show gR _ _ _ σ (7, [some (.ref 0), some (.int (nI w)), some (.int ((xTop (fun k => xSum (fun z => if S z k = 1 then 1 else 0) 24) k).1)), some (.int ((xTop (fun k => xSum (fun z => if S z k = 1 then 1 else 0) 24) k).2)), some (.int (nI k)), none, none], [])
  refine gR.steps 3 (σ, (13, [some (.ref 0), some (.int (nI w)), some (.int ((xTop (fun k => xSum (fun z => if S z k = 1 then 1 else 0) 24) k).1)), some (.int ((xTop (fun k => xSum (fun z => if S z k = 1 then 1 else 0) 24) k).2)), some (.int (nI k)), none, none], [.int (σ 0 7), .int (nI k)])) rfl ?_
  refine gR.topI (y := nI (nb)) hB ?_
  refine gR.ifte rfl (fun zc13 => ?_) (fun zc13 => ?_)
  · rw [gN_le (x := nI nb) (y := nI k) (a := nb) (b := k) rfl rfl (by omega) (by omega)] at zc13
    refine gR.steps 1 (σ, (89, [some (.ref 0), some (.int (nI w)), some (.int ((xTop (fun k => xSum (fun z => if S z k = 1 then 1 else 0) 24) k).1)), some (.int ((xTop (fun k => xSum (fun z => if S z k = 1 then 1 else 0) 24) k).2)), some (.int (nI k)), none, none], [.int (nI w)])) rfl ?_
    refine gR.ifte rfl (fun zc89 => ?_) (fun zc89 => ?_)
    · rw [gN_eq (x := nI w) (y := 0) (a := w) (b := 0) rfl rfl (by omega) (by omega)] at zc89
      refine gR.steps 1 (σ, (97, [some (.ref 0), some (.int (nI w)), some (.int ((xTop (fun k => xSum (fun z => if S z k = 1 then 1 else 0) 24) k).1)), some (.int ((xTop (fun k => xSum (fun z => if S z k = 1 then 1 else 0) 24) k).2)), some (.int (nI k)), none, none], [.int ((xTop (fun k => xSum (fun z => if S z k = 1 then 1 else 0) 24) k).2)])) rfl ?_
      refine gR.ret rfl ?_
      obtain rfl : k = nb := by omega
      exact ⟨trivial, by rw [if_neg zc89], rfl⟩
    · rw [gN_eq (x := nI w) (y := 0) (a := w) (b := 0) rfl rfl (by omega) (by omega)] at zc89
      refine gR.steps 2 (σ, (97, [some (.ref 0), some (.int (nI w)), some (.int ((xTop (fun k => xSum (fun z => if S z k = 1 then 1 else 0) 24) k).1)), some (.int ((xTop (fun k => xSum (fun z => if S z k = 1 then 1 else 0) 24) k).2)), some (.int (nI k)), none, none], [.int ((xTop (fun k => xSum (fun z => if S z k = 1 then 1 else 0) 24) k).1)])) rfl ?_
      refine gR.ret rfl ?_
      obtain rfl : k = nb := by omega
      exact ⟨trivial, by rw [if_pos (Decidable.not_not.mp zc89)], rfl⟩
  · rw [gN_le (x := nI nb) (y := nI k) (a := nb) (b := k) rfl rfl (by omega) (by omega)] at zc13
    refine gR.steps 4 (σ, (22, [some (.ref 0), some (.int (nI w)), some (.int ((xTop (fun k => xSum (fun z => if S z k = 1 then 1 else 0) 24) k).1)), some (.int ((xTop (fun k => xSum (fun z => if S z k = 1 then 1 else 0) 24) k).2)), some (.int (nI k)), some (.int 0), some (.int 0)], [])) rfl ?_
    refine gR.forget [some (.ref 0), some (.int (nI w)), some (.int ((xTop (fun k => xSum (fun z => if S z k = 1 then 1 else 0) 24) k).1)), some (.int ((xTop (fun k => xSum (fun z => if S z k = 1 then 1 else 0) 24) k).2)), some (.int (nI k)), some (.int (nI (xSum (fun z => if S z k = 1 then 1 else 0) 0))), some (.int 0)] ⟨rfl, ⟨rfl, ⟨rfl, ⟨rfl, ⟨rfl, ⟨rfl, ⟨rfl, trivial⟩⟩⟩⟩⟩⟩⟩ ?_
    refine gR.loop (α := Nat) (fun m => m ≤ 24) (fun m => 24 - m) (fun m => (σ, (22, [some (.ref 0), some (.int (nI w)), some (.int ((xTop (fun k => xSum (fun z => if S z k = 1 then 1 else 0) 24) k).1)), some (.int ((xTop (fun k => xSum (fun z => if S z k = 1 then 1 else 0) 24) k).2)), some (.int (nI k)), some (.int (nI (xSum (fun z => if S z k = 1 then 1 else 0) m))), some (.int (nI m))], []))) ?_ 0 (Nat.zero_le 24)
    rintro m hm24 ih2
    show gR _ _ _ σ (22, [some (.ref 0), some (.int (nI w)), some (.int ((xTop (fun k => xSum (fun z => if S z k = 1 then 1 else 0) 24) k).1)), some (.int ((xTop (fun k => xSum (fun z => if S z k = 1 then 1 else 0) 24) k).2)), some (.int (nI k)), some (.int (nI (xSum (fun z => if S z k = 1 then 1 else 0) m))), some (.int (nI m))], [])
    refine gR.steps 2 (σ, (26, [some (.ref 0), some (.int (nI w)), some (.int ((xTop (fun k => xSum (fun z => if S z k = 1 then 1 else 0) 24) k).1)), some (.int ((xTop (fun k => xSum (fun z => if S z k = 1 then 1 else 0) 24) k).2)), some (.int (nI k)), some (.int (nI (xSum (fun z => if S z k = 1 then 1 else 0) m))), some (.int (nI m))], [.int 24, .int (nI m)])) rfl ?_
    refine gR.ifte rfl (fun zc26 => ?_) (fun zc26 => ?_)
    · rw [gN_le (x := 24) (y := nI m) (a := 24) (b := m) rfl rfl (by omega) (by omega)] at zc26
      have hm2 : m = 24 := by omega
      subst hm2
      refine gR.steps 2 (σ, (65, [some (.ref 0), some (.int (nI w)), some (.int ((xTop (fun k => xSum (fun z => if S z k = 1 then 1 else 0) 24) k).1)), some (.int ((xTop (fun k => xSum (fun z => if S z k = 1 then 1 else 0) 24) k).2)), some (.int (nI k)), some (.int (nI (xSum (fun z => if S z k = 1 then 1 else 0) 24))), some (.int (nI 24))], [.int ((xTop (fun k => xSum (fun z => if S z k = 1 then 1 else 0) 24) k).2), .int (nI (xSum (fun z => if S z k = 1 then 1 else 0) 24))])) rfl ?_
      refine gR.ifte rfl (fun zc65 => ?_) (fun zc65 => ?_)
      · refine gR.steps 4 (σ, (78, [some (.ref 0), some (.int (nI w)), some (.int ((xTop (fun k => xSum (fun z => if S z k = 1 then 1 else 0) 24) k).1)), some (.int ((xTop (fun k => xSum (fun z => if S z k = 1 then 1 else 0) 24) k).2)), some (.int (nI k)), some (.int (nI (xSum (fun z => if S z k = 1 then 1 else 0) 24))), some (.int (nI 24))], [.int ((xTop (fun k => xSum (fun z => if S z k = 1 then 1 else 0) 24) k).2), .int (nI (xSum (fun z => if S z k = 1 then 1 else 0) 24))])) rfl ?_
        refine gR.callp rfl (s_X11_greater (by omega) σ (nI (xSum (fun z => if S z k = 1 then 1 else 0) 24)) ((xTop (fun k => xSum (fun z => if S z k = 1 then 1 else 0) 24) k).2)) ?_
        refine gR.steps 3 (σ, (7, [some (.ref 0), some (.int (nI w)), some (.int ((xTop (fun k => xSum (fun z => if S z k = 1 then 1 else 0) 24) k).1)), some (.int (if ((xTop (fun k => xSum (fun z => if S z k = 1 then 1 else 0) 24) k).2) < (nI (xSum (fun z => if S z k = 1 then 1 else 0) 24)) then nI (xSum (fun z => if S z k = 1 then 1 else 0) 24) else (xTop (fun k => xSum (fun z => if S z k = 1 then 1 else 0) 24) k).2)), some (.int ((nI k) + 1)), some (.int (nI (xSum (fun z => if S z k = 1 then 1 else 0) 24))), some (.int (nI 24))], [])) rfl ?_
        refine gR.forget [some (.ref 0), some (.int (nI w)), some (.int ((xTop (fun k => xSum (fun z => if S z k = 1 then 1 else 0) 24) (k + 1)).1)), some (.int ((xTop (fun k => xSum (fun z => if S z k = 1 then 1 else 0) 24) (k + 1)).2)), some (.int (nI (k + 1))), none, none] ⟨rfl, ⟨rfl, ⟨gSomeI (by simp only [xTop]; rw [if_neg (show ¬ (xTop (fun k => xSum (fun z => if S z k = 1 then 1 else 0) 24) k).2 < nI ((fun k => xSum (fun z => if S z k = 1 then 1 else 0) 24) k) from Int32.not_lt.mpr zc65)]), ⟨gSomeI (by rw [if_neg (show ¬ (xTop (fun k => xSum (fun z => if S z k = 1 then 1 else 0) 24) k).2 < nI ((fun k => xSum (fun z => if S z k = 1 then 1 else 0) 24) k) from Int32.not_lt.mpr zc65)]; simp only [xTop]; rw [if_neg (show ¬ (xTop (fun k => xSum (fun z => if S z k = 1 then 1 else 0) 24) k).2 < nI ((fun k => xSum (fun z => if S z k = 1 then 1 else 0) 24) k) from Int32.not_lt.mpr zc65)]), ⟨gSomeI (gN_add rfl rfl), trivial⟩⟩⟩⟩⟩ ?_
        exact ih (k + 1) (by omega) (by omega)
      · refine gR.steps 5 (σ, (78, [some (.ref 0), some (.int (nI w)), some (.int (nI k)), some (.int ((xTop (fun k => xSum (fun z => if S z k = 1 then 1 else 0) 24) k).2)), some (.int (nI k)), some (.int (nI (xSum (fun z => if S z k = 1 then 1 else 0) 24))), some (.int (nI 24))], [.int ((xTop (fun k => xSum (fun z => if S z k = 1 then 1 else 0) 24) k).2), .int (nI (xSum (fun z => if S z k = 1 then 1 else 0) 24))])) rfl ?_
        refine gR.callp rfl (s_X11_greater (by omega) σ (nI (xSum (fun z => if S z k = 1 then 1 else 0) 24)) ((xTop (fun k => xSum (fun z => if S z k = 1 then 1 else 0) 24) k).2)) ?_
        refine gR.steps 3 (σ, (7, [some (.ref 0), some (.int (nI w)), some (.int (nI k)), some (.int (if ((xTop (fun k => xSum (fun z => if S z k = 1 then 1 else 0) 24) k).2) < (nI (xSum (fun z => if S z k = 1 then 1 else 0) 24)) then nI (xSum (fun z => if S z k = 1 then 1 else 0) 24) else (xTop (fun k => xSum (fun z => if S z k = 1 then 1 else 0) 24) k).2)), some (.int ((nI k) + 1)), some (.int (nI (xSum (fun z => if S z k = 1 then 1 else 0) 24))), some (.int (nI 24))], [])) rfl ?_
        refine gR.forget [some (.ref 0), some (.int (nI w)), some (.int ((xTop (fun k => xSum (fun z => if S z k = 1 then 1 else 0) 24) (k + 1)).1)), some (.int ((xTop (fun k => xSum (fun z => if S z k = 1 then 1 else 0) 24) (k + 1)).2)), some (.int (nI (k + 1))), none, none] ⟨rfl, ⟨rfl, ⟨gSomeI (by simp only [xTop]; rw [if_pos (show (xTop (fun k => xSum (fun z => if S z k = 1 then 1 else 0) 24) k).2 < nI ((fun k => xSum (fun z => if S z k = 1 then 1 else 0) 24) k) from Int32.not_le.mp zc65)]), ⟨gSomeI (by rw [if_pos (show (xTop (fun k => xSum (fun z => if S z k = 1 then 1 else 0) 24) k).2 < nI ((fun k => xSum (fun z => if S z k = 1 then 1 else 0) 24) k) from Int32.not_le.mp zc65)]; simp only [xTop]; rw [if_pos (show (xTop (fun k => xSum (fun z => if S z k = 1 then 1 else 0) 24) k).2 < nI ((fun k => xSum (fun z => if S z k = 1 then 1 else 0) 24) k) from Int32.not_le.mp zc65)]), ⟨gSomeI (gN_add rfl rfl), trivial⟩⟩⟩⟩⟩ ?_
        exact ih (k + 1) (by omega) (by omega)
    · rw [gN_le (x := 24) (y := nI m) (a := 24) (b := m) rfl rfl (by omega) (by omega)] at zc26
      have hc5 := (hC m (by omega) k (by omega)).2.2
      refine gR.steps 1 (σ, (31, [some (.ref 0), some (.int (nI w)), some (.int ((xTop (fun k => xSum (fun z => if S z k = 1 then 1 else 0) 24) k).1)), some (.int ((xTop (fun k => xSum (fun z => if S z k = 1 then 1 else 0) 24) k).2)), some (.int (nI k)), some (.int (nI (xSum (fun z => if S z k = 1 then 1 else 0) m))), some (.int (nI m))], [.int (nI (xSum (fun z => if S z k = 1 then 1 else 0) m))])) rfl ?_
      refine gR.join (α := Int32) σ (fun zv => (53, [some (.ref 0), some (.int (nI w)), some (.int ((xTop (fun k => xSum (fun z => if S z k = 1 then 1 else 0) 24) k).1)), some (.int ((xTop (fun k => xSum (fun z => if S z k = 1 then 1 else 0) 24) k).2)), some (.int (nI k)), some (.int (nI (xSum (fun z => if S z k = 1 then 1 else 0) m))), some (.int (nI m))], [.int zv, .int (nI (xSum (fun z => if S z k = 1 then 1 else 0) m))])) (nI (if S m k = 1 then 1 else 0)) ?_ (fun zj53 => ?_)
      · refine gR.steps 4 (σ, (22, [some (.ref 0), some (.int (nI w)), some (.int ((xTop (fun k => xSum (fun z => if S z k = 1 then 1 else 0) 24) k).1)), some (.int ((xTop (fun k => xSum (fun z => if S z k = 1 then 1 else 0) 24) k).2)), some (.int (nI k)), some (.int ((nI (xSum (fun z => if S z k = 1 then 1 else 0) m)) + (nI (if S m k = 1 then 1 else 0)))), some (.int ((nI m) + 1))], [])) rfl ?_
        refine gR.forget [some (.ref 0), some (.int (nI w)), some (.int ((xTop (fun k => xSum (fun z => if S z k = 1 then 1 else 0) 24) k).1)), some (.int ((xTop (fun k => xSum (fun z => if S z k = 1 then 1 else 0) 24) k).2)), some (.int (nI k)), some (.int (nI (xSum (fun z => if S z k = 1 then 1 else 0) (m + 1)))), some (.int (nI (m + 1)))] ⟨rfl, ⟨rfl, ⟨rfl, ⟨rfl, ⟨rfl, ⟨gSomeI (gN_add rfl rfl), ⟨gSomeI (gN_add rfl rfl), trivial⟩⟩⟩⟩⟩⟩⟩ ?_
        exact ih2 (m + 1) (by omega) (by omega)
      · refine gR.steps 7 (σ, (43, [some (.ref 0), some (.int (nI w)), some (.int ((xTop (fun k => xSum (fun z => if S z k = 1 then 1 else 0) 24) k).1)), some (.int ((xTop (fun k => xSum (fun z => if S z k = 1 then 1 else 0) 24) k).2)), some (.int (nI k)), some (.int (nI (xSum (fun z => if S z k = 1 then 1 else 0) m))), some (.int (nI m))], [.int ((11 * (nI m)) + (nI k)), .ref 10, .int (nI (xSum (fun z => if S z k = 1 then 1 else 0) m))])) rfl ?_
        refine gR.ald (i := (11 * (nI m)) + (nI k)) (j := 11 * m + k) (N := 264) (g := σ 10) rfl (gN_add (gN_mul rfl rfl) rfl) (by omega) (by omega) ?_
        refine gR.topI (y := nI (S m k)) (hC m (by omega) k (by omega)).1 ?_
        refine gR.steps 1 (σ, (45, [some (.ref 0), some (.int (nI w)), some (.int ((xTop (fun k => xSum (fun z => if S z k = 1 then 1 else 0) 24) k).1)), some (.int ((xTop (fun k => xSum (fun z => if S z k = 1 then 1 else 0) 24) k).2)), some (.int (nI k)), some (.int (nI (xSum (fun z => if S z k = 1 then 1 else 0) m))), some (.int (nI m))], [.int 1, .int (nI (S m k)), .int (nI (xSum (fun z => if S z k = 1 then 1 else 0) m))])) rfl ?_
        refine gR.ifte rfl (fun zc45 => ?_) (fun zc45 => ?_)
        · rw [gN_eq (x := nI (S m k)) (y := 1) (a := S m k) (b := 1) rfl rfl (by omega) (by omega)] at zc45
          refine gR.steps 1 (σ, (53, [some (.ref 0), some (.int (nI w)), some (.int ((xTop (fun k => xSum (fun z => if S z k = 1 then 1 else 0) 24) k).1)), some (.int ((xTop (fun k => xSum (fun z => if S z k = 1 then 1 else 0) 24) k).2)), some (.int (nI k)), some (.int (nI (xSum (fun z => if S z k = 1 then 1 else 0) m))), some (.int (nI m))], [.int 0, .int (nI (xSum (fun z => if S z k = 1 then 1 else 0) m))])) rfl ?_
          exact zj53 _ (by rw [if_neg zc45]; rfl)
        · rw [gN_eq (x := nI (S m k)) (y := 1) (a := S m k) (b := 1) rfl rfl (by omega) (by omega)] at zc45
          refine gR.steps 2 (σ, (53, [some (.ref 0), some (.int (nI w)), some (.int ((xTop (fun k => xSum (fun z => if S z k = 1 then 1 else 0) 24) k).1)), some (.int ((xTop (fun k => xSum (fun z => if S z k = 1 then 1 else 0) 24) k).2)), some (.int (nI k)), some (.int (nI (xSum (fun z => if S z k = 1 then 1 else 0) m))), some (.int (nI m))], [.int 1, .int (nI (xSum (fun z => if S z k = 1 then 1 else 0) m))])) rfl ?_
          exact zj53 _ (by rw [if_pos (Decidable.not_not.mp zc45)]; rfl)
def aLast (D : xDat) (w : Int32) : Int32 := if 0 ≤ w.toInt ∧ w.toInt ≤ 1 then (if w = 0 then (xTop (fun k => xSum (fun m => if dS D gn0 m k = 1 then 1 else 0) 24) (dNb D)).1 else (xTop (fun k => xSum (fun m => if dS D gn0 m k = 1 then 1 else 0) 24) (dNb D)).2) else -2
theorem s_X11_last {d : Nat} (hd : 7 ≤ d) (σ : gS) (D : xDat) (w : Int32) (hs : mSt σ D) : gC d 170 [.ref 0, .int w] σ (fun r τ => r = some (.int (aLast D w)) ∧ mKeep σ τ) := by
  obtain ⟨d, rfl⟩ : ∃ k, d = k + 1 := ⟨d - 1, by omega⟩
  refine gC.of (P := pX11_last) (nL := 2) (rt := (some (.int))) (lv := [some (.ref 0), some (.int w)]) (by decide +kernel) rfl rfl rfl (by simp [gEnt, Value.category]) rfl ?_
  refine gR.steps 1 (σ, (1, [some (.ref 0), some (.int w)], [.ref 0])) rfl ?_
  refine gR.call' rfl (s_X11_find (by omega) σ D hs) ?_
  rintro _ τ ⟨rfl, hk, hf⟩
  show gR _ _ _ τ (4, [some (.ref 0), some (.int w)], [])
  refine gR.steps 1 (τ, (5, [some (.ref 0), some (.int w)], [.int w])) rfl ?_
  refine gR.callp rfl (s_X11_isTwo (by omega) τ w) ?_
  refine gR.ifte rfl (fun zc8 => ?_) (fun zc8 => ?_)
  · rw [bI_eq0] at zc8
    refine gR.steps 1 (τ, (21, [some (.ref 0), some (.int w)], [.int (-2)])) rfl ?_
    refine gR.ret rfl ?_
    exact ⟨trivial, by unfold aLast; rw [if_neg zc8], hk⟩
  · rw [bI_eq0, Decidable.not_not] at zc8
    obtain ⟨ww, hww, rfl⟩ := gN_of (x := w) (n := 2) (by omega) (by omega) (by omega)
    refine gR.steps 2 (τ, (13, [some (.ref 0), some (.int (nI ww))], [.int (nI ww), .ref 0])) rfl ?_
    refine gR.callp rfl (s_X11_lastBy (by omega) τ (dNb D) (dS D gn0) (dQ D gn0) ww hf.1.1 (dNb_le D hs.1.2.1) hf.cells hww) ?_
    refine gR.steps 1 (τ, (21, [some (.ref 0), some (.int (nI ww))], [.int (if ww = 0 then (xTop (fun k => xSum (fun m => if dS D gn0 m k = 1 then 1 else 0) 24) (dNb D)).1 else (xTop (fun k => xSum (fun m => if dS D gn0 m k = 1 then 1 else 0) 24) (dNb D)).2)])) rfl ?_
    refine gR.ret rfl ?_
    refine ⟨trivial, ?_, hk⟩
    rw [show aLast D (nI ww) = _ from if_pos zc8]
    rcases (show ww = 0 ∨ ww = 1 by omega) with rfl | rfl <;> rfl
