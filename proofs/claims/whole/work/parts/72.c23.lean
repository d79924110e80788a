theorem and63 (x : Int32) : ∃ w, w < 64 ∧ x &&& 63 = nI w := by
  have h63 : ∀ i, i < 32 → bt 63 i = decide (i < 6) := by decide +kernel
  have h : (x &&& 63).toBitVec.toNat < 64 := by
    rw [Int32.toBitVec_and, BitVec.toNat_and]
    exact Nat.lt_of_le_of_lt Nat.and_le_right (by decide)
  refine ⟨(x &&& 63).toBitVec.toNat, h, ?_⟩
  apply Int32.toBitVec_inj.mp
  apply BitVec.eq_of_toNat_eq
  rw [pk_tn (by omega)]
theorem sw_cs {w : Nat} (h : w < 64) : 35 ≤ w ∨ w = 0 ∨ w = 1 ∨ w = 2 ∨ w = 3 ∨ w = 4 ∨ w = 5 ∨ w = 6 ∨ w = 7 ∨ w = 8 ∨ w = 9 ∨ w = 10 ∨ w = 11 ∨ w = 12 ∨ w = 13 ∨ w = 14 ∨ w = 15 ∨ w = 16 ∨ w = 17 ∨ w = 18 ∨ w = 19 ∨ w = 20 ∨ w = 21 ∨ w = 22 ∨ w = 23 ∨ w = 24 ∨ w = 25 ∨ w = 26 ∨ w = 27 ∨ w = 28 ∨ w = 29 ∨ w = 30 ∨ w = 31 ∨ w = 32 ∨ w = 33 ∨ w = 34 := by omega
theorem tgt_law {w : Nat} (h : 35 ≤ w) (h2 : w < 64) : gTgt 0 [188, 221, 244, 267, 290, 323, 356, 389, 432, 445, 468, 511, 544, 557, 570, 583, 606, 629, 652, 675, 698, 741, 754, 767, 800, 823, 867, 910, 953, 976, 1029, 1072, 1135, 1158, 1181] 1195 (nI w) = 1195 := by
  unfold gTgt
  rw [nI_toInt (by omega), if_neg (by omega), show ((w : Int) - 0).toNat = (w - 35) + 35 by omega]
  rfl
theorem lawL {L : Nat} (h : L < 2147483648) : (Int32.ofNat L - 6).toInt = (L : Int) - 6 := by
  show (nI L - nI 6).toInt = _
  by_cases h6 : 6 ≤ L
  · rw [pk_sub h6, nI_toInt (by omega)]; omega
  · rcases (show L = 0 ∨ L = 1 ∨ L = 2 ∨ L = 3 ∨ L = 4 ∨ L = 5 by omega) with rfl | rfl | rfl | rfl | rfl | rfl <;> decide
/-- both at once -/
def cmA (σ : gS) (A : xA) : Prop := cAl σ A ∧ mAl σ A
def lFin (v : Option Value) (_ : gS) : Prop := v = some (.int 1)
set_option maxRecDepth 100000 in
theorem law_type {d L : Nat} {xs : Nat → Int32} (hd : 9 ≤ d) (hL : L < 2147483648) (σ : gS) (A : xA) (i : Nat) (hi : i + 6 ≤ L) (hA : cmA σ A) (hk : ∀ (υ : gS) (B : xA), cmA υ B → gR (pLaw L xs) (gEV gPT d) lFin υ (1195, [some (.ref 1007), some (.ref 18), some (.ref 0), some (.int (nI i))], [])) : gR (pLaw L xs) (gEV gPT d) lFin σ (188, [some (.ref 1007), some (.ref 18), some (.ref 0), some (.int (nI i))], []) := by
  refine gR.steps 5 (σ, (193, [some (.ref 1007), some (.ref 18), some (.ref 0), some (.int (nI i))], [.int ((nI i) + 1), .ref 1007, .ref 18])) rfl ?_
  refine gR.ald (i := (nI i) + 1) (j := i + 1) (N := L) (g := xs) rfl (gN_add rfl rfl) (by omega) (by omega) ?_
  refine gR.steps 4 (σ, (198, [some (.ref 1007), some (.ref 18), some (.ref 0), some (.int (nI i))], [.int ((nI i) + 2), .ref 1007, .int (xs (i + 1)), .ref 18])) rfl ?_
  refine gR.ald (i := (nI i) + 2) (j := i + 2) (N := L) (g := xs) rfl (gN_add rfl rfl) (by omega) (by omega) ?_
  refine gR.call' rfl (kc_type (by omega) σ A (xs (i + 1)) (xs (i + 2)) hA.1) ?_
  rintro _ τ ⟨rfl, hc, hlo⟩
  have hm := hA.2.low hlo
  show gR _ _ _ τ (202, [some (.ref 1007), some (.ref 18), some (.ref 0), some (.int (nI i))], [.int (aType A.1 (xs (i + 1)) (xs (i + 2)))])
  refine gR.steps 5 (τ, (207, [some (.ref 1007), some (.ref 18), some (.ref 0), some (.int (nI i))], [.int ((nI i) + 1), .ref 1007, .ref 0, .int (aType A.1 (xs (i + 1)) (xs (i + 2)))])) rfl ?_
  refine gR.ald (i := (nI i) + 1) (j := i + 1) (N := L) (g := xs) rfl (gN_add rfl rfl) (by omega) (by omega) ?_
  refine gR.steps 4 (τ, (212, [some (.ref 1007), some (.ref 18), some (.ref 0), some (.int (nI i))], [.int ((nI i) + 2), .ref 1007, .int (xs (i + 1)), .ref 0, .int (aType A.1 (xs (i + 1)) (xs (i + 2)))])) rfl ?_
  refine gR.ald (i := (nI i) + 2) (j := i + 2) (N := L) (g := xs) rfl (gN_add rfl rfl) (by omega) (by omega) ?_
  refine gR.call' rfl (km_type (by omega) τ A (xs (i + 1)) (xs (i + 2)) hm) ?_
  rintro _ υ ⟨rfl, hm2, hhi⟩
  show gR _ _ _ υ (216, [some (.ref 1007), some (.ref 18), some (.ref 0), some (.int (nI i))], [.int (aType A.1 (xs (i + 1)) (xs (i + 2))), .int (aType A.1 (xs (i + 1)) (xs (i + 2)))])
  refine gR.brT rfl rfl ?_
  exact hk υ (sType A.1 (xs (i + 1)) (xs (i + 2)), A.2) ⟨hc.high hhi, hm2⟩
set_option maxRecDepth 100000 in
theorem law_wipe {d L : Nat} {xs : Nat → Int32} (hd : 9 ≤ d) (hL : L < 2147483648) (σ : gS) (A : xA) (i : Nat) (hi : i + 6 ≤ L) (hA : cmA σ A) (hk : ∀ (υ : gS) (B : xA), cmA υ B → gR (pLaw L xs) (gEV gPT d) lFin υ (1195, [some (.ref 1007), some (.ref 18), some (.ref 0), some (.int (nI i))], [])) : gR (pLaw L xs) (gEV gPT d) lFin σ (221, [some (.ref 1007), some (.ref 18), some (.ref 0), some (.int (nI i))], []) := by
  refine gR.steps 5 (σ, (226, [some (.ref 1007), some (.ref 18), some (.ref 0), some (.int (nI i))], [.int ((nI i) + 1), .ref 1007, .ref 18])) rfl ?_
  refine gR.ald (i := (nI i) + 1) (j := i + 1) (N := L) (g := xs) rfl (gN_add rfl rfl) (by omega) (by omega) ?_
  refine gR.call' rfl (kc_wipe (by omega) σ A (xs (i + 1)) hA.1) ?_
  rintro _ τ ⟨rfl, hc, hlo⟩
  have hm := hA.2.low hlo
  show gR _ _ _ τ (230, [some (.ref 1007), some (.ref 18), some (.ref 0), some (.int (nI i))], [.int (aWipe A.1 (xs (i + 1)))])
  refine gR.steps 5 (τ, (235, [some (.ref 1007), some (.ref 18), some (.ref 0), some (.int (nI i))], [.int ((nI i) + 1), .ref 1007, .ref 0, .int (aWipe A.1 (xs (i + 1)))])) rfl ?_
  refine gR.ald (i := (nI i) + 1) (j := i + 1) (N := L) (g := xs) rfl (gN_add rfl rfl) (by omega) (by omega) ?_
  refine gR.call' rfl (km_wipe (by omega) τ A (xs (i + 1)) hm) ?_
  rintro _ υ ⟨rfl, hm2, hhi⟩
  show gR _ _ _ υ (239, [some (.ref 1007), some (.ref 18), some (.ref 0), some (.int (nI i))], [.int (aWipe A.1 (xs (i + 1))), .int (aWipe A.1 (xs (i + 1)))])
  refine gR.brT rfl rfl ?_
  exact hk υ (sWipe A.1 (xs (i + 1)), A.2) ⟨hc.high hhi, hm2⟩
set_option maxRecDepth 100000 in
theorem law_undo {d L : Nat} {xs : Nat → Int32} (hd : 9 ≤ d) (hL : L < 2147483648) (σ : gS) (A : xA) (i : Nat) (hi : i + 6 ≤ L) (hA : cmA σ A) (hk : ∀ (υ : gS) (B : xA), cmA υ B → gR (pLaw L xs) (gEV gPT d) lFin υ (1195, [some (.ref 1007), some (.ref 18), some (.ref 0), some (.int (nI i))], [])) : gR (pLaw L xs) (gEV gPT d) lFin σ (244, [some (.ref 1007), some (.ref 18), some (.ref 0), some (.int (nI i))], []) := by
  refine gR.steps 5 (σ, (249, [some (.ref 1007), some (.ref 18), some (.ref 0), some (.int (nI i))], [.int ((nI i) + 1), .ref 1007, .ref 18])) rfl ?_
  refine gR.ald (i := (nI i) + 1) (j := i + 1) (N := L) (g := xs) rfl (gN_add rfl rfl) (by omega) (by omega) ?_
  refine gR.call' rfl (kc_undo (by omega) σ A (xs (i + 1)) hA.1) ?_
  rintro _ τ ⟨rfl, hc, hlo⟩
  have hm := hA.2.low hlo
  show gR _ _ _ τ (253, [some (.ref 1007), some (.ref 18), some (.ref 0), some (.int (nI i))], [.int (aUndo A.1 (xs (i + 1)))])
  refine gR.steps 5 (τ, (258, [some (.ref 1007), some (.ref 18), some (.ref 0), some (.int (nI i))], [.int ((nI i) + 1), .ref 1007, .ref 0, .int (aUndo A.1 (xs (i + 1)))])) rfl ?_
  refine gR.ald (i := (nI i) + 1) (j := i + 1) (N := L) (g := xs) rfl (gN_add rfl rfl) (by omega) (by omega) ?_
  refine gR.call' rfl (km_undo (by omega) τ A (xs (i + 1)) hm) ?_
  rintro _ υ ⟨rfl, hm2, hhi⟩
  show gR _ _ _ υ (262, [some (.ref 1007), some (.ref 18), some (.ref 0), some (.int (nI i))], [.int (aUndo A.1 (xs (i + 1))), .int (aUndo A.1 (xs (i + 1)))])
  refine gR.brT rfl rfl ?_
  exact hk υ (sUndo A.1 (xs (i + 1)), A.2) ⟨hc.high hhi, hm2⟩
set_option maxRecDepth 100000 in
theorem law_fault {d L : Nat} {xs : Nat → Int32} (hd : 9 ≤ d) (hL : L < 2147483648) (σ : gS) (A : xA) (i : Nat) (hi : i + 6 ≤ L) (hA : cmA σ A) (hk : ∀ (υ : gS) (B : xA), cmA υ B → gR (pLaw L xs) (gEV gPT d) lFin υ (1195, [some (.ref 1007), some (.ref 18), some (.ref 0), some (.int (nI i))], [])) : gR (pLaw L xs) (gEV gPT d) lFin σ (267, [some (.ref 1007), some (.ref 18), some (.ref 0), some (.int (nI i))], []) := by
  refine gR.steps 5 (σ, (272, [some (.ref 1007), some (.ref 18), some (.ref 0), some (.int (nI i))], [.int ((nI i) + 1), .ref 1007, .ref 18])) rfl ?_
  refine gR.ald (i := (nI i) + 1) (j := i + 1) (N := L) (g := xs) rfl (gN_add rfl rfl) (by omega) (by omega) ?_
  refine gR.call' rfl (kc_fault (by omega) σ A (xs (i + 1)) hA.1) ?_
  rintro _ τ ⟨rfl, hc, hlo⟩
  have hm := hA.2.low hlo
  show gR _ _ _ τ (276, [some (.ref 1007), some (.ref 18), some (.ref 0), some (.int (nI i))], [.int (aFault A.1 (xs (i + 1)))])
  refine gR.steps 5 (τ, (281, [some (.ref 1007), some (.ref 18), some (.ref 0), some (.int (nI i))], [.int ((nI i) + 1), .ref 1007, .ref 0, .int (aFault A.1 (xs (i + 1)))])) rfl ?_
  refine gR.ald (i := (nI i) + 1) (j := i + 1) (N := L) (g := xs) rfl (gN_add rfl rfl) (by omega) (by omega) ?_
  refine gR.call' rfl (km_fault (by omega) τ A (xs (i + 1)) hm) ?_
  rintro _ υ ⟨rfl, hm2, hhi⟩
  show gR _ _ _ υ (285, [some (.ref 1007), some (.ref 18), some (.ref 0), some (.int (nI i))], [.int (aFault A.1 (xs (i + 1))), .int (aFault A.1 (xs (i + 1)))])
  refine gR.brT rfl rfl ?_
  exact hk υ A ⟨hc.high hhi, hm2⟩
set_option maxRecDepth 100000 in
theorem law_bush {d L : Nat} {xs : Nat → Int32} (hd : 9 ≤ d) (hL : L < 2147483648) (σ : gS) (A : xA) (i : Nat) (hi : i + 6 ≤ L) (hA : cmA σ A) (hk : ∀ (υ : gS) (B : xA), cmA υ B → gR (pLaw L xs) (gEV gPT d) lFin υ (1195, [some (.ref 1007), some (.ref 18), some (.ref 0), some (.int (nI i))], [])) : gR (pLaw L xs) (gEV gPT d) lFin σ (290, [some (.ref 1007), some (.ref 18), some (.ref 0), some (.int (nI i))], []) := by
  refine gR.steps 5 (σ, (295, [some (.ref 1007), some (.ref 18), some (.ref 0), some (.int (nI i))], [.int ((nI i) + 1), .ref 1007, .ref 18])) rfl ?_
  refine gR.ald (i := (nI i) + 1) (j := i + 1) (N := L) (g := xs) rfl (gN_add rfl rfl) (by omega) (by omega) ?_
  refine gR.steps 4 (σ, (300, [some (.ref 1007), some (.ref 18), some (.ref 0), some (.int (nI i))], [.int ((nI i) + 2), .ref 1007, .int (xs (i + 1)), .ref 18])) rfl ?_
  refine gR.ald (i := (nI i) + 2) (j := i + 2) (N := L) (g := xs) rfl (gN_add rfl rfl) (by omega) (by omega) ?_
  refine gR.call' rfl (kc_bush (by omega) σ A (xs (i + 1)) (xs (i + 2)) hA.1) ?_
  rintro _ τ ⟨rfl, hc, hlo⟩
  have hm := hA.2.low hlo
  show gR _ _ _ τ (304, [some (.ref 1007), some (.ref 18), some (.ref 0), some (.int (nI i))], [.int (aBush A.1 (xs (i + 1)) (xs (i + 2)))])
  refine gR.steps 5 (τ, (309, [some (.ref 1007), some (.ref 18), some (.ref 0), some (.int (nI i))], [.int ((nI i) + 1), .ref 1007, .ref 0, .int (aBush A.1 (xs (i + 1)) (xs (i + 2)))])) rfl ?_
  refine gR.ald (i := (nI i) + 1) (j := i + 1) (N := L) (g := xs) rfl (gN_add rfl rfl) (by omega) (by omega) ?_
  refine gR.steps 4 (τ, (314, [some (.ref 1007), some (.ref 18), some (.ref 0), some (.int (nI i))], [.int ((nI i) + 2), .ref 1007, .int (xs (i + 1)), .ref 0, .int (aBush A.1 (xs (i + 1)) (xs (i + 2)))])) rfl ?_
  refine gR.ald (i := (nI i) + 2) (j := i + 2) (N := L) (g := xs) rfl (gN_add rfl rfl) (by omega) (by omega) ?_
  refine gR.call' rfl (km_bush (by omega) τ A (xs (i + 1)) (xs (i + 2)) hm) ?_
  rintro _ υ ⟨rfl, hm2, hhi⟩
  show gR _ _ _ υ (318, [some (.ref 1007), some (.ref 18), some (.ref 0), some (.int (nI i))], [.int (aBush A.1 (xs (i + 1)) (xs (i + 2))), .int (aBush A.1 (xs (i + 1)) (xs (i + 2)))])
  refine gR.brT rfl rfl ?_
  exact hk υ A ⟨hc.high hhi, hm2⟩
set_option maxRecDepth 100000 in
theorem law_look {d L : Nat} {xs : Nat → Int32} (hd : 9 ≤ d) (hL : L < 2147483648) (σ : gS) (A : xA) (i : Nat) (hi : i + 6 ≤ L) (hA : cmA σ A) (hk : ∀ (υ : gS) (B : xA), cmA υ B → gR (pLaw L xs) (gEV gPT d) lFin υ (1195, [some (.ref 1007), some (.ref 18), some (.ref 0), some (.int (nI i))], [])) : gR (pLaw L xs) (gEV gPT d) lFin σ (323, [some (.ref 1007), some (.ref 18), some (.ref 0), some (.int (nI i))], []) := by
  refine gR.steps 5 (σ, (328, [some (.ref 1007), some (.ref 18), some (.ref 0), some (.int (nI i))], [.int ((nI i) + 1), .ref 1007, .ref 18])) rfl ?_
  refine gR.ald (i := (nI i) + 1) (j := i + 1) (N := L) (g := xs) rfl (gN_add rfl rfl) (by omega) (by omega) ?_
  refine gR.steps 4 (σ, (333, [some (.ref 1007), some (.ref 18), some (.ref 0), some (.int (nI i))], [.int ((nI i) + 2), .ref 1007, .int (xs (i + 1)), .ref 18])) rfl ?_
  refine gR.ald (i := (nI i) + 2) (j := i + 2) (N := L) (g := xs) rfl (gN_add rfl rfl) (by omega) (by omega) ?_
  refine gR.call' rfl (kc_look (by omega) σ A (xs (i + 1)) (xs (i + 2)) hA.1) ?_
  rintro _ τ ⟨rfl, hc, hlo⟩
  have hm := hA.2.low hlo
  show gR _ _ _ τ (337, [some (.ref 1007), some (.ref 18), some (.ref 0), some (.int (nI i))], [.int (aLook A.1 (xs (i + 1)) (xs (i + 2)))])
  refine gR.steps 5 (τ, (342, [some (.ref 1007), some (.ref 18), some (.ref 0), some (.int (nI i))], [.int ((nI i) + 1), .ref 1007, .ref 0, .int (aLook A.1 (xs (i + 1)) (xs (i + 2)))])) rfl ?_
  refine gR.ald (i := (nI i) + 1) (j := i + 1) (N := L) (g := xs) rfl (gN_add rfl rfl) (by omega) (by omega) ?_
  refine gR.steps 4 (τ, (347, [some (.ref 1007), some (.ref 18), some (.ref 0), some (.int (nI i))], [.int ((nI i) + 2), .ref 1007, .int (xs (i + 1)), .ref 0, .int (aLook A.1 (xs (i + 1)) (xs (i + 2)))])) rfl ?_
  refine gR.ald (i := (nI i) + 2) (j := i + 2) (N := L) (g := xs) rfl (gN_add rfl rfl) (by omega) (by omega) ?_
  refine gR.call' rfl (km_look (by omega) τ A (xs (i + 1)) (xs (i + 2)) hm) ?_
  rintro _ υ ⟨rfl, hm2, hhi⟩
  show gR _ _ _ υ (351, [some (.ref 1007), some (.ref 18), some (.ref 0), some (.int (nI i))], [.int (aLook A.1 (xs (i + 1)) (xs (i + 2))), .int (aLook A.1 (xs (i + 1)) (xs (i + 2)))])
  refine gR.brT rfl rfl ?_
  exact hk υ A ⟨hc.high hhi, hm2⟩
set_option maxRecDepth 100000 in
theorem law_set {d L : Nat} {xs : Nat → Int32} (hd : 9 ≤ d) (hL : L < 2147483648) (σ : gS) (A : xA) (i : Nat) (hi : i + 6 ≤ L) (hA : cmA σ A) (hk : ∀ (υ : gS) (B : xA), cmA υ B → gR (pLaw L xs) (gEV gPT d) lFin υ (1195, [some (.ref 1007), some (.ref 18), some (.ref 0), some (.int (nI i))], [])) : gR (pLaw L xs) (gEV gPT d) lFin σ (356, [some (.ref 1007), some (.ref 18), some (.ref 0), some (.int (nI i))], []) := by
  refine gR.steps 5 (σ, (361, [some (.ref 1007), some (.ref 18), some (.ref 0), some (.int (nI i))], [.int ((nI i) + 1), .ref 1007, .ref 18])) rfl ?_
  refine gR.ald (i := (nI i) + 1) (j := i + 1) (N := L) (g := xs) rfl (gN_add rfl rfl) (by omega) (by omega) ?_
  refine gR.steps 4 (σ, (366, [some (.ref 1007), some (.ref 18), some (.ref 0), some (.int (nI i))], [.int ((nI i) + 2), .ref 1007, .int (xs (i + 1)), .ref 18])) rfl ?_
  refine gR.ald (i := (nI i) + 2) (j := i + 2) (N := L) (g := xs) rfl (gN_add rfl rfl) (by omega) (by omega) ?_
  refine gR.call' rfl (kc_set (by omega) σ A (xs (i + 1)) (xs (i + 2)) hA.1) ?_
  rintro _ τ ⟨rfl, hc, hlo⟩
  have hm := hA.2.low hlo
  show gR _ _ _ τ (370, [some (.ref 1007), some (.ref 18), some (.ref 0), some (.int (nI i))], [.int (aSet A.1 (xs (i + 1)) (xs (i + 2)))])
  refine gR.steps 5 (τ, (375, [some (.ref 1007), some (.ref 18), some (.ref 0), some (.int (nI i))], [.int ((nI i) + 1), .ref 1007, .ref 0, .int (aSet A.1 (xs (i + 1)) (xs (i + 2)))])) rfl ?_
  refine gR.ald (i := (nI i) + 1) (j := i + 1) (N := L) (g := xs) rfl (gN_add rfl rfl) (by omega) (by omega) ?_
  refine gR.steps 4 (τ, (380, [some (.ref 1007), some (.ref 18), some (.ref 0), some (.int (nI i))], [.int ((nI i) + 2), .ref 1007, .int (xs (i + 1)), .ref 0, .int (aSet A.1 (xs (i + 1)) (xs (i + 2)))])) rfl ?_
  refine gR.ald (i := (nI i) + 2) (j := i + 2) (N := L) (g := xs) rfl (gN_add rfl rfl) (by omega) (by omega) ?_
  refine gR.call' rfl (km_set (by omega) τ A (xs (i + 1)) (xs (i + 2)) hm) ?_
  rintro _ υ ⟨rfl, hm2, hhi⟩
  show gR _ _ _ υ (384, [some (.ref 1007), some (.ref 18), some (.ref 0), some (.int (nI i))], [.int (aSet A.1 (xs (i + 1)) (xs (i + 2))), .int (aSet A.1 (xs (i + 1)) (xs (i + 2)))])
  refine gR.brT rfl rfl ?_
  exact hk υ (sSet A.1 (xs (i + 1)) (xs (i + 2)), A.2) ⟨hc.high hhi, hm2⟩
set_option maxRecDepth 100000 in
theorem law_event {d L : Nat} {xs : Nat → Int32} (hd : 9 ≤ d) (hL : L < 2147483648) (σ : gS) (A : xA) (i : Nat) (hi : i + 6 ≤ L) (hA : cmA σ A) (hk : ∀ (υ : gS) (B : xA), cmA υ B → gR (pLaw L xs) (gEV gPT d) lFin υ (1195, [some (.ref 1007), some (.ref 18), some (.ref 0), some (.int (nI i))], [])) : gR (pLaw L xs) (gEV gPT d) lFin σ (389, [some (.ref 1007), some (.ref 18), some (.ref 0), some (.int (nI i))], []) := by
  refine gR.steps 5 (σ, (394, [some (.ref 1007), some (.ref 18), some (.ref 0), some (.int (nI i))], [.int ((nI i) + 1), .ref 1007, .ref 18])) rfl ?_
  refine gR.ald (i := (nI i) + 1) (j := i + 1) (N := L) (g := xs) rfl (gN_add rfl rfl) (by omega) (by omega) ?_
  refine gR.steps 4 (σ, (399, [some (.ref 1007), some (.ref 18), some (.ref 0), some (.int (nI i))], [.int ((nI i) + 2), .ref 1007, .int (xs (i + 1)), .ref 18])) rfl ?_
  refine gR.ald (i := (nI i) + 2) (j := i + 2) (N := L) (g := xs) rfl (gN_add rfl rfl) (by omega) (by omega) ?_
  refine gR.steps 4 (σ, (404, [some (.ref 1007), some (.ref 18), some (.ref 0), some (.int (nI i))], [.int ((nI i) + 3), .ref 1007, .int (xs (i + 2)), .int (xs (i + 1)), .ref 18])) rfl ?_
  refine gR.ald (i := (nI i) + 3) (j := i + 3) (N := L) (g := xs) rfl (gN_add rfl rfl) (by omega) (by omega) ?_
  refine gR.call' rfl (kc_event (by omega) σ A (xs (i + 1)) (xs (i + 2)) (xs (i + 3)) hA.1) ?_
  rintro _ τ ⟨rfl, hc, hlo⟩
  have hm := hA.2.low hlo
  show gR _ _ _ τ (408, [some (.ref 1007), some (.ref 18), some (.ref 0), some (.int (nI i))], [.int (aEvent A.1 (xs (i + 1)) (xs (i + 2)) (xs (i + 3)))])
  refine gR.steps 5 (τ, (413, [some (.ref 1007), some (.ref 18), some (.ref 0), some (.int (nI i))], [.int ((nI i) + 1), .ref 1007, .ref 0, .int (aEvent A.1 (xs (i + 1)) (xs (i + 2)) (xs (i + 3)))])) rfl ?_
  refine gR.ald (i := (nI i) + 1) (j := i + 1) (N := L) (g := xs) rfl (gN_add rfl rfl) (by omega) (by omega) ?_
  refine gR.steps 4 (τ, (418, [some (.ref 1007), some (.ref 18), some (.ref 0), some (.int (nI i))], [.int ((nI i) + 2), .ref 1007, .int (xs (i + 1)), .ref 0, .int (aEvent A.1 (xs (i + 1)) (xs (i + 2)) (xs (i + 3)))])) rfl ?_
  refine gR.ald (i := (nI i) + 2) (j := i + 2) (N := L) (g := xs) rfl (gN_add rfl rfl) (by omega) (by omega) ?_
  refine gR.steps 4 (τ, (423, [some (.ref 1007), some (.ref 18), some (.ref 0), some (.int (nI i))], [.int ((nI i) + 3), .ref 1007, .int (xs (i + 2)), .int (xs (i + 1)), .ref 0, .int (aEvent A.1 (xs (i + 1)) (xs (i + 2)) (xs (i + 3)))])) rfl ?_
  refine gR.ald (i := (nI i) + 3) (j := i + 3) (N := L) (g := xs) rfl (gN_add rfl rfl) (by omega) (by omega) ?_
  refine gR.call' rfl (km_event (by omega) τ A (xs (i + 1)) (xs (i + 2)) (xs (i + 3)) hm) ?_
  rintro _ υ ⟨rfl, hm2, hhi⟩
  show gR _ _ _ υ (427, [some (.ref 1007), some (.ref 18), some (.ref 0), some (.int (nI i))], [.int (aEvent A.1 (xs (i + 1)) (xs (i + 2)) (xs (i + 3))), .int (aEvent A.1 (xs (i + 1)) (xs (i + 2)) (xs (i + 3)))])
  refine gR.brT rfl rfl ?_
  exact hk υ (sEvent A.1 (xs (i + 1)) (xs (i + 2)) (xs (i + 3)), A.2) ⟨hc.high hhi, hm2⟩
set_option maxRecDepth 100000 in
theorem law_back {d L : Nat} {xs : Nat → Int32} (hd : 9 ≤ d) (hL : L < 2147483648) (σ : gS) (A : xA) (i : Nat) (hi : i + 6 ≤ L) (hA : cmA σ A) (hk : ∀ (υ : gS) (B : xA), cmA υ B → gR (pLaw L xs) (gEV gPT d) lFin υ (1195, [some (.ref 1007), some (.ref 18), some (.ref 0), some (.int (nI i))], [])) : gR (pLaw L xs) (gEV gPT d) lFin σ (432, [some (.ref 1007), some (.ref 18), some (.ref 0), some (.int (nI i))], []) := by
  refine gR.steps 1 (σ, (433, [some (.ref 1007), some (.ref 18), some (.ref 0), some (.int (nI i))], [.ref 18])) rfl ?_
  refine gR.call' rfl (kc_back (by omega) σ A  hA.1) ?_
  rintro _ τ ⟨rfl, hc, hlo⟩
  have hm := hA.2.low hlo
  show gR _ _ _ τ (436, [some (.ref 1007), some (.ref 18), some (.ref 0), some (.int (nI i))], [.int (aBack A.1)])
  refine gR.steps 1 (τ, (437, [some (.ref 1007), some (.ref 18), some (.ref 0), some (.int (nI i))], [.ref 0, .int (aBack A.1)])) rfl ?_
  refine gR.call' rfl (km_back (by omega) τ A  hm) ?_
  rintro _ υ ⟨rfl, hm2, hhi⟩
  show gR _ _ _ υ (440, [some (.ref 1007), some (.ref 18), some (.ref 0), some (.int (nI i))], [.int (aBack A.1), .int (aBack A.1)])
  refine gR.brT rfl rfl ?_
  exact hk υ (sBack A.1, A.2) ⟨hc.high hhi, hm2⟩
set_option maxRecDepth 100000 in
theorem law_read {d L : Nat} {xs : Nat → Int32} (hd : 9 ≤ d) (hL : L < 2147483648) (σ : gS) (A : xA) (i : Nat) (hi : i + 6 ≤ L) (hA : cmA σ A) (hk : ∀ (υ : gS) (B : xA), cmA υ B → gR (pLaw L xs) (gEV gPT d) lFin υ (1195, [some (.ref 1007), some (.ref 18), some (.ref 0), some (.int (nI i))], [])) : gR (pLaw L xs) (gEV gPT d) lFin σ (445, [some (.ref 1007), some (.ref 18), some (.ref 0), some (.int (nI i))], []) := by
  refine gR.steps 5 (σ, (450, [some (.ref 1007), some (.ref 18), some (.ref 0), some (.int (nI i))], [.int ((nI i) + 1), .ref 1007, .ref 18])) rfl ?_
  refine gR.ald (i := (nI i) + 1) (j := i + 1) (N := L) (g := xs) rfl (gN_add rfl rfl) (by omega) (by omega) ?_
  refine gR.call' rfl (kc_read (by omega) σ A (xs (i + 1)) hA.1) ?_
  rintro _ τ ⟨rfl, hc, hlo⟩
  have hm := hA.2.low hlo
  show gR _ _ _ τ (454, [some (.ref 1007), some (.ref 18), some (.ref 0), some (.int (nI i))], [.int (aRead A.1 A.2.2.1 (xs (i + 1)))])
  refine gR.steps 5 (τ, (459, [some (.ref 1007), some (.ref 18), some (.ref 0), some (.int (nI i))], [.int ((nI i) + 1), .ref 1007, .ref 0, .int (aRead A.1 A.2.2.1 (xs (i + 1)))])) rfl ?_
  refine gR.ald (i := (nI i) + 1) (j := i + 1) (N := L) (g := xs) rfl (gN_add rfl rfl) (by omega) (by omega) ?_
  refine gR.call' rfl (km_read (by omega) τ A (xs (i + 1)) hm) ?_
  rintro _ υ ⟨rfl, hm2, hhi⟩
  show gR _ _ _ υ (463, [some (.ref 1007), some (.ref 18), some (.ref 0), some (.int (nI i))], [.int (aRead A.1 A.2.2.1 (xs (i + 1))), .int (aRead A.1 A.2.2.1 (xs (i + 1)))])
  refine gR.brT rfl rfl ?_
  exact hk υ (sRead A.1 A.2.2.1 (xs (i + 1)), A.2.1, A.2.2.1, lLose A.2.2.1 A.2.2.2 (xs (i + 1))) ⟨hc.high hhi, hm2⟩
set_option maxRecDepth 100000 in
theorem law_at {d L : Nat} {xs : Nat → Int32} (hd : 9 ≤ d) (hL : L < 2147483648) (σ : gS) (A : xA) (i : Nat) (hi : i + 6 ≤ L) (hA : cmA σ A) (hk : ∀ (υ : gS) (B : xA), cmA υ B → gR (pLaw L xs) (gEV gPT d) lFin υ (1195, [some (.ref 1007), some (.ref 18), some (.ref 0), some (.int (nI i))], [])) : gR (pLaw L xs) (gEV gPT d) lFin σ (468, [some (.ref 1007), some (.ref 18), some (.ref 0), some (.int (nI i))], []) := by
  refine gR.steps 5 (σ, (473, [some (.ref 1007), some (.ref 18), some (.ref 0), some (.int (nI i))], [.int ((nI i) + 1), .ref 1007, .ref 18])) rfl ?_
  refine gR.ald (i := (nI i) + 1) (j := i + 1) (N := L) (g := xs) rfl (gN_add rfl rfl) (by omega) (by omega) ?_
  refine gR.steps 4 (σ, (478, [some (.ref 1007), some (.ref 18), some (.ref 0), some (.int (nI i))], [.int ((nI i) + 2), .ref 1007, .int (xs (i + 1)), .ref 18])) rfl ?_
  refine gR.ald (i := (nI i) + 2) (j := i + 2) (N := L) (g := xs) rfl (gN_add rfl rfl) (by omega) (by omega) ?_
  refine gR.steps 4 (σ, (483, [some (.ref 1007), some (.ref 18), some (.ref 0), some (.int (nI i))], [.int ((nI i) + 3), .ref 1007, .int (xs (i + 2)), .int (xs (i + 1)), .ref 18])) rfl ?_
  refine gR.ald (i := (nI i) + 3) (j := i + 3) (N := L) (g := xs) rfl (gN_add rfl rfl) (by omega) (by omega) ?_
  refine gR.call' rfl (kc_at (by omega) σ A (xs (i + 1)) (xs (i + 2)) (xs (i + 3)) hA.1) ?_
  rintro _ τ ⟨rfl, hc, hlo⟩
  have hm := hA.2.low hlo
  show gR _ _ _ τ (487, [some (.ref 1007), some (.ref 18), some (.ref 0), some (.int (nI i))], [.int (aAt A.1 (xs (i + 1)) (xs (i + 2)) (xs (i + 3)))])
  refine gR.steps 5 (τ, (492, [some (.ref 1007), some (.ref 18), some (.ref 0), some (.int (nI i))], [.int ((nI i) + 1), .ref 1007, .ref 0, .int (aAt A.1 (xs (i + 1)) (xs (i + 2)) (xs (i + 3)))])) rfl ?_
  refine gR.ald (i := (nI i) + 1) (j := i + 1) (N := L) (g := xs) rfl (gN_add rfl rfl) (by omega) (by omega) ?_
  refine gR.steps 4 (τ, (497, [some (.ref 1007), some (.ref 18), some (.ref 0), some (.int (nI i))], [.int ((nI i) + 2), .ref 1007, .int (xs (i + 1)), .ref 0, .int (aAt A.1 (xs (i + 1)) (xs (i + 2)) (xs (i + 3)))])) rfl ?_
  refine gR.ald (i := (nI i) + 2) (j := i + 2) (N := L) (g := xs) rfl (gN_add rfl rfl) (by omega) (by omega) ?_
  refine gR.steps 4 (τ, (502, [some (.ref 1007), some (.ref 18), some (.ref 0), some (.int (nI i))], [.int ((nI i) + 3), .ref 1007, .int (xs (i + 2)), .int (xs (i + 1)), .ref 0, .int (aAt A.1 (xs (i + 1)) (xs (i + 2)) (xs (i + 3)))])) rfl ?_
  refine gR.ald (i := (nI i) + 3) (j := i + 3) (N := L) (g := xs) rfl (gN_add rfl rfl) (by omega) (by omega) ?_
  refine gR.call' rfl (km_at (by omega) τ A (xs (i + 1)) (xs (i + 2)) (xs (i + 3)) hm) ?_
  rintro _ υ ⟨rfl, hm2, hhi⟩
  show gR _ _ _ υ (506, [some (.ref 1007), some (.ref 18), some (.ref 0), some (.int (nI i))], [.int (aAt A.1 (xs (i + 1)) (xs (i + 2)) (xs (i + 3))), .int (aAt A.1 (xs (i + 1)) (xs (i + 2)) (xs (i + 3)))])
  refine gR.brT rfl rfl ?_
  exact hk υ A ⟨hc.high hhi, hm2⟩
set_option maxRecDepth 100000 in
theorem law_hill {d L : Nat} {xs : Nat → Int32} (hd : 9 ≤ d) (hL : L < 2147483648) (σ : gS) (A : xA) (i : Nat) (hi : i + 6 ≤ L) (hA : cmA σ A) (hk : ∀ (υ : gS) (B : xA), cmA υ B → gR (pLaw L xs) (gEV gPT d) lFin υ (1195, [some (.ref 1007), some (.ref 18), some (.ref 0), some (.int (nI i))], [])) : gR (pLaw L xs) (gEV gPT d) lFin σ (511, [some (.ref 1007), some (.ref 18), some (.ref 0), some (.int (nI i))], []) := by
  refine gR.steps 5 (σ, (516, [some (.ref 1007), some (.ref 18), some (.ref 0), some (.int (nI i))], [.int ((nI i) + 1), .ref 1007, .ref 18])) rfl ?_
  refine gR.ald (i := (nI i) + 1) (j := i + 1) (N := L) (g := xs) rfl (gN_add rfl rfl) (by omega) (by omega) ?_
  refine gR.steps 4 (σ, (521, [some (.ref 1007), some (.ref 18), some (.ref 0), some (.int (nI i))], [.int ((nI i) + 2), .ref 1007, .int (xs (i + 1)), .ref 18])) rfl ?_
  refine gR.ald (i := (nI i) + 2) (j := i + 2) (N := L) (g := xs) rfl (gN_add rfl rfl) (by omega) (by omega) ?_
  refine gR.call' rfl (kc_hill (by omega) σ A (xs (i + 1)) (xs (i + 2)) hA.1) ?_
  rintro _ τ ⟨rfl, hc, hlo⟩
  have hm := hA.2.low hlo
  show gR _ _ _ τ (525, [some (.ref 1007), some (.ref 18), some (.ref 0), some (.int (nI i))], [.int (aHill A.1 (xs (i + 1)) (xs (i + 2)))])
  refine gR.steps 5 (τ, (530, [some (.ref 1007), some (.ref 18), some (.ref 0), some (.int (nI i))], [.int ((nI i) + 1), .ref 1007, .ref 0, .int (aHill A.1 (xs (i + 1)) (xs (i + 2)))])) rfl ?_
  refine gR.ald (i := (nI i) + 1) (j := i + 1) (N := L) (g := xs) rfl (gN_add rfl rfl) (by omega) (by omega) ?_
  refine gR.steps 4 (τ, (535, [some (.ref 1007), some (.ref 18), some (.ref 0), some (.int (nI i))], [.int ((nI i) + 2), .ref 1007, .int (xs (i + 1)), .ref 0, .int (aHill A.1 (xs (i + 1)) (xs (i + 2)))])) rfl ?_
  refine gR.ald (i := (nI i) + 2) (j := i + 2) (N := L) (g := xs) rfl (gN_add rfl rfl) (by omega) (by omega) ?_
  refine gR.call' rfl (km_hill (by omega) τ A (xs (i + 1)) (xs (i + 2)) hm) ?_
  rintro _ υ ⟨rfl, hm2, hhi⟩
  show gR _ _ _ υ (539, [some (.ref 1007), some (.ref 18), some (.ref 0), some (.int (nI i))], [.int (aHill A.1 (xs (i + 1)) (xs (i + 2))), .int (aHill A.1 (xs (i + 1)) (xs (i + 2)))])
  refine gR.brT rfl rfl ?_
  exact hk υ A ⟨hc.high hhi, hm2⟩
set_option maxRecDepth 100000 in
theorem law_bare {d L : Nat} {xs : Nat → Int32} (hd : 9 ≤ d) (hL : L < 2147483648) (σ : gS) (A : xA) (i : Nat) (hi : i + 6 ≤ L) (hA : cmA σ A) (hk : ∀ (υ : gS) (B : xA), cmA υ B → gR (pLaw L xs) (gEV gPT d) lFin υ (1195, [some (.ref 1007), some (.ref 18), some (.ref 0), some (.int (nI i))], [])) : gR (pLaw L xs) (gEV gPT d) lFin σ (544, [some (.ref 1007), some (.ref 18), some (.ref 0), some (.int (nI i))], []) := by
  refine gR.steps 1 (σ, (545, [some (.ref 1007), some (.ref 18), some (.ref 0), some (.int (nI i))], [.ref 18])) rfl ?_
  refine gR.call' rfl (kc_bare (by omega) σ A  hA.1) ?_
  rintro _ τ ⟨rfl, hc, hlo⟩
  have hm := hA.2.low hlo
  show gR _ _ _ τ (548, [some (.ref 1007), some (.ref 18), some (.ref 0), some (.int (nI i))], [.int (aBare A.1)])
  refine gR.steps 1 (τ, (549, [some (.ref 1007), some (.ref 18), some (.ref 0), some (.int (nI i))], [.ref 0, .int (aBare A.1)])) rfl ?_
  refine gR.call' rfl (km_bare (by omega) τ A  hm) ?_
  rintro _ υ ⟨rfl, hm2, hhi⟩
  show gR _ _ _ υ (552, [some (.ref 1007), some (.ref 18), some (.ref 0), some (.int (nI i))], [.int (aBare A.1), .int (aBare A.1)])
  refine gR.brT rfl rfl ?_
  exact hk υ A ⟨hc.high hhi, hm2⟩
set_option maxRecDepth 100000 in
theorem law_run {d L : Nat} {xs : Nat → Int32} (hd : 9 ≤ d) (hL : L < 2147483648) (σ : gS) (A : xA) (i : Nat) (hi : i + 6 ≤ L) (hA : cmA σ A) (hk : ∀ (υ : gS) (B : xA), cmA υ B → gR (pLaw L xs) (gEV gPT d) lFin υ (1195, [some (.ref 1007), some (.ref 18), some (.ref 0), some (.int (nI i))], [])) : gR (pLaw L xs) (gEV gPT d) lFin σ (557, [some (.ref 1007), some (.ref 18), some (.ref 0), some (.int (nI i))], []) := by
  refine gR.steps 1 (σ, (558, [some (.ref 1007), some (.ref 18), some (.ref 0), some (.int (nI i))], [.ref 18])) rfl ?_
  refine gR.call' rfl (kc_run (by omega) σ A  hA.1) ?_
  rintro _ τ ⟨rfl, hc, hlo⟩
  have hm := hA.2.low hlo
  show gR _ _ _ τ (561, [some (.ref 1007), some (.ref 18), some (.ref 0), some (.int (nI i))], [.int (aRun A.1)])
  refine gR.steps 1 (τ, (562, [some (.ref 1007), some (.ref 18), some (.ref 0), some (.int (nI i))], [.ref 0, .int (aRun A.1)])) rfl ?_
  refine gR.call' rfl (km_run (by omega) τ A  hm) ?_
  rintro _ υ ⟨rfl, hm2, hhi⟩
  show gR _ _ _ υ (565, [some (.ref 1007), some (.ref 18), some (.ref 0), some (.int (nI i))], [.int (aRun A.1), .int (aRun A.1)])
  refine gR.brT rfl rfl ?_
  exact hk υ A ⟨hc.high hhi, hm2⟩
set_option maxRecDepth 100000 in
theorem law_fake {d L : Nat} {xs : Nat → Int32} (hd : 9 ≤ d) (hL : L < 2147483648) (σ : gS) (A : xA) (i : Nat) (hi : i + 6 ≤ L) (hA : cmA σ A) (hk : ∀ (υ : gS) (B : xA), cmA υ B → gR (pLaw L xs) (gEV gPT d) lFin υ (1195, [some (.ref 1007), some (.ref 18), some (.ref 0), some (.int (nI i))], [])) : gR (pLaw L xs) (gEV gPT d) lFin σ (570, [some (.ref 1007), some (.ref 18), some (.ref 0), some (.int (nI i))], []) := by
  refine gR.steps 1 (σ, (571, [some (.ref 1007), some (.ref 18), some (.ref 0), some (.int (nI i))], [.ref 18])) rfl ?_
  refine gR.call' rfl (kc_fake (by omega) σ A  hA.1) ?_
  rintro _ τ ⟨rfl, hc, hlo⟩
  have hm := hA.2.low hlo
  show gR _ _ _ τ (574, [some (.ref 1007), some (.ref 18), some (.ref 0), some (.int (nI i))], [.int (aFake A.1)])
  refine gR.steps 1 (τ, (575, [some (.ref 1007), some (.ref 18), some (.ref 0), some (.int (nI i))], [.ref 0, .int (aFake A.1)])) rfl ?_
  refine gR.call' rfl (km_fake (by omega) τ A  hm) ?_
  rintro _ υ ⟨rfl, hm2, hhi⟩
  show gR _ _ _ υ (578, [some (.ref 1007), some (.ref 18), some (.ref 0), some (.int (nI i))], [.int (aFake A.1), .int (aFake A.1)])
  refine gR.brT rfl rfl ?_
  exact hk υ A ⟨hc.high hhi, hm2⟩
set_option maxRecDepth 100000 in
theorem law_last {d L : Nat} {xs : Nat → Int32} (hd : 9 ≤ d) (hL : L < 2147483648) (σ : gS) (A : xA) (i : Nat) (hi : i + 6 ≤ L) (hA : cmA σ A) (hk : ∀ (υ : gS) (B : xA), cmA υ B → gR (pLaw L xs) (gEV gPT d) lFin υ (1195, [some (.ref 1007), some (.ref 18), some (.ref 0), some (.int (nI i))], [])) : gR (pLaw L xs) (gEV gPT d) lFin σ (583, [some (.ref 1007), some (.ref 18), some (.ref 0), some (.int (nI i))], []) := by
  refine gR.steps 5 (σ, (588, [some (.ref 1007), some (.ref 18), some (.ref 0), some (.int (nI i))], [.int ((nI i) + 1), .ref 1007, .ref 18])) rfl ?_
  refine gR.ald (i := (nI i) + 1) (j := i + 1) (N := L) (g := xs) rfl (gN_add rfl rfl) (by omega) (by omega) ?_
  refine gR.call' rfl (kc_last (by omega) σ A (xs (i + 1)) hA.1) ?_
  rintro _ τ ⟨rfl, hc, hlo⟩
  have hm := hA.2.low hlo
  show gR _ _ _ τ (592, [some (.ref 1007), some (.ref 18), some (.ref 0), some (.int (nI i))], [.int (aLast A.1 (xs (i + 1)))])
  refine gR.steps 5 (τ, (597, [some (.ref 1007), some (.ref 18), some (.ref 0), some (.int (nI i))], [.int ((nI i) + 1), .ref 1007, .ref 0, .int (aLast A.1 (xs (i + 1)))])) rfl ?_
  refine gR.ald (i := (nI i) + 1) (j := i + 1) (N := L) (g := xs) rfl (gN_add rfl rfl) (by omega) (by omega) ?_
  refine gR.call' rfl (km_last (by omega) τ A (xs (i + 1)) hm) ?_
  rintro _ υ ⟨rfl, hm2, hhi⟩
  show gR _ _ _ υ (601, [some (.ref 1007), some (.ref 18), some (.ref 0), some (.int (nI i))], [.int (aLast A.1 (xs (i + 1))), .int (aLast A.1 (xs (i + 1)))])
  refine gR.brT rfl rfl ?_
  exact hk υ A ⟨hc.high hhi, hm2⟩
set_option maxRecDepth 100000 in
theorem law_plant {d L : Nat} {xs : Nat → Int32} (hd : 9 ≤ d) (hL : L < 2147483648) (σ : gS) (A : xA) (i : Nat) (hi : i + 6 ≤ L) (hA : cmA σ A) (hk : ∀ (υ : gS) (B : xA), cmA υ B → gR (pLaw L xs) (gEV gPT d) lFin υ (1195, [some (.ref 1007), some (.ref 18), some (.ref 0), some (.int (nI i))], [])) : gR (pLaw L xs) (gEV gPT d) lFin σ (606, [some (.ref 1007), some (.ref 18), some (.ref 0), some (.int (nI i))], []) := by
  refine gR.steps 5 (σ, (611, [some (.ref 1007), some (.ref 18), some (.ref 0), some (.int (nI i))], [.int ((nI i) + 1), .ref 1007, .ref 18])) rfl ?_
  refine gR.ald (i := (nI i) + 1) (j := i + 1) (N := L) (g := xs) rfl (gN_add rfl rfl) (by omega) (by omega) ?_
  refine gR.call' rfl (kc_plant (by omega) σ A (xs (i + 1)) hA.1) ?_
  rintro _ τ ⟨rfl, hc, hlo⟩
  have hm := hA.2.low hlo
  show gR _ _ _ τ (615, [some (.ref 1007), some (.ref 18), some (.ref 0), some (.int (nI i))], [.int (aPlant A.1 (xs (i + 1)))])
  refine gR.steps 5 (τ, (620, [some (.ref 1007), some (.ref 18), some (.ref 0), some (.int (nI i))], [.int ((nI i) + 1), .ref 1007, .ref 0, .int (aPlant A.1 (xs (i + 1)))])) rfl ?_
  refine gR.ald (i := (nI i) + 1) (j := i + 1) (N := L) (g := xs) rfl (gN_add rfl rfl) (by omega) (by omega) ?_
  refine gR.call' rfl (km_plant (by omega) τ A (xs (i + 1)) hm) ?_
  rintro _ υ ⟨rfl, hm2, hhi⟩
  show gR _ _ _ υ (624, [some (.ref 1007), some (.ref 18), some (.ref 0), some (.int (nI i))], [.int (aPlant A.1 (xs (i + 1))), .int (aPlant A.1 (xs (i + 1)))])
  refine gR.brT rfl rfl ?_
  exact hk υ A ⟨hc.high hhi, hm2⟩
set_option maxRecDepth 100000 in
theorem law_send {d L : Nat} {xs : Nat → Int32} (hd : 9 ≤ d) (hL : L < 2147483648) (σ : gS) (A : xA) (i : Nat) (hi : i + 6 ≤ L) (hA : cmA σ A) (hk : ∀ (υ : gS) (B : xA), cmA υ B → gR (pLaw L xs) (gEV gPT d) lFin υ (1195, [some (.ref 1007), some (.ref 18), some (.ref 0), some (.int (nI i))], [])) : gR (pLaw L xs) (gEV gPT d) lFin σ (629, [some (.ref 1007), some (.ref 18), some (.ref 0), some (.int (nI i))], []) := by
  refine gR.steps 5 (σ, (634, [some (.ref 1007), some (.ref 18), some (.ref 0), some (.int (nI i))], [.int ((nI i) + 1), .ref 1007, .ref 18])) rfl ?_
  refine gR.ald (i := (nI i) + 1) (j := i + 1) (N := L) (g := xs) rfl (gN_add rfl rfl) (by omega) (by omega) ?_
  refine gR.call' rfl (kc_send (by omega) σ A (xs (i + 1)) hA.1) ?_
  rintro _ τ ⟨rfl, hc, hlo⟩
  have hm := hA.2.low hlo
  show gR _ _ _ τ (638, [some (.ref 1007), some (.ref 18), some (.ref 0), some (.int (nI i))], [.int (aSend A.1 (xs (i + 1)))])
  refine gR.steps 5 (τ, (643, [some (.ref 1007), some (.ref 18), some (.ref 0), some (.int (nI i))], [.int ((nI i) + 1), .ref 1007, .ref 0, .int (aSend A.1 (xs (i + 1)))])) rfl ?_
  refine gR.ald (i := (nI i) + 1) (j := i + 1) (N := L) (g := xs) rfl (gN_add rfl rfl) (by omega) (by omega) ?_
  refine gR.call' rfl (km_send (by omega) τ A (xs (i + 1)) hm) ?_
  rintro _ υ ⟨rfl, hm2, hhi⟩
  show gR _ _ _ υ (647, [some (.ref 1007), some (.ref 18), some (.ref 0), some (.int (nI i))], [.int (aSend A.1 (xs (i + 1))), .int (aSend A.1 (xs (i + 1)))])
  refine gR.brT rfl rfl ?_
  exact hk υ A ⟨hc.high hhi, hm2⟩
set_option maxRecDepth 100000 in
theorem law_save {d L : Nat} {xs : Nat → Int32} (hd : 9 ≤ d) (hL : L < 2147483648) (σ : gS) (A : xA) (i : Nat) (hi : i + 6 ≤ L) (hA : cmA σ A) (hk : ∀ (υ : gS) (B : xA), cmA υ B → gR (pLaw L xs) (gEV gPT d) lFin υ (1195, [some (.ref 1007), some (.ref 18), some (.ref 0), some (.int (nI i))], [])) : gR (pLaw L xs) (gEV gPT d) lFin σ (652, [some (.ref 1007), some (.ref 18), some (.ref 0), some (.int (nI i))], []) := by
  refine gR.steps 5 (σ, (657, [some (.ref 1007), some (.ref 18), some (.ref 0), some (.int (nI i))], [.int ((nI i) + 1), .ref 1007, .ref 18])) rfl ?_
  refine gR.ald (i := (nI i) + 1) (j := i + 1) (N := L) (g := xs) rfl (gN_add rfl rfl) (by omega) (by omega) ?_
  refine gR.call' rfl (kc_save (by omega) σ A (xs (i + 1)) hA.1) ?_
  rintro _ τ ⟨rfl, hc, hlo⟩
  have hm := hA.2.low hlo
  show gR _ _ _ τ (661, [some (.ref 1007), some (.ref 18), some (.ref 0), some (.int (nI i))], [.int (aSave A.1 (xs (i + 1)))])
  refine gR.steps 5 (τ, (666, [some (.ref 1007), some (.ref 18), some (.ref 0), some (.int (nI i))], [.int ((nI i) + 1), .ref 1007, .ref 0, .int (aSave A.1 (xs (i + 1)))])) rfl ?_
  refine gR.ald (i := (nI i) + 1) (j := i + 1) (N := L) (g := xs) rfl (gN_add rfl rfl) (by omega) (by omega) ?_
  refine gR.call' rfl (km_save (by omega) τ A (xs (i + 1)) hm) ?_
  rintro _ υ ⟨rfl, hm2, hhi⟩
  show gR _ _ _ υ (670, [some (.ref 1007), some (.ref 18), some (.ref 0), some (.int (nI i))], [.int (aSave A.1 (xs (i + 1))), .int (aSave A.1 (xs (i + 1)))])
  refine gR.brT rfl rfl ?_
  exact hk υ A ⟨hc.high hhi, hm2⟩
set_option maxRecDepth 100000 in
theorem law_deal {d L : Nat} {xs : Nat → Int32} (hd : 9 ≤ d) (hL : L < 2147483648) (σ : gS) (A : xA) (i : Nat) (hi : i + 6 ≤ L) (hA : cmA σ A) (hk : ∀ (υ : gS) (B : xA), cmA υ B → gR (pLaw L xs) (gEV gPT d) lFin υ (1195, [some (.ref 1007), some (.ref 18), some (.ref 0), some (.int (nI i))], [])) : gR (pLaw L xs) (gEV gPT d) lFin σ (675, [some (.ref 1007), some (.ref 18), some (.ref 0), some (.int (nI i))], []) := by
  refine gR.steps 5 (σ, (680, [some (.ref 1007), some (.ref 18), some (.ref 0), some (.int (nI i))], [.int ((nI i) + 1), .ref 1007, .ref 18])) rfl ?_
  refine gR.ald (i := (nI i) + 1) (j := i + 1) (N := L) (g := xs) rfl (gN_add rfl rfl) (by omega) (by omega) ?_
  refine gR.call' rfl (kc_deal (by omega) σ A (xs (i + 1)) hA.1) ?_
  rintro _ τ ⟨rfl, hc, hlo⟩
  have hm := hA.2.low hlo
  show gR _ _ _ τ (684, [some (.ref 1007), some (.ref 18), some (.ref 0), some (.int (nI i))], [.int (aDeal A.1 (xs (i + 1)))])
  refine gR.steps 5 (τ, (689, [some (.ref 1007), some (.ref 18), some (.ref 0), some (.int (nI i))], [.int ((nI i) + 1), .ref 1007, .ref 0, .int (aDeal A.1 (xs (i + 1)))])) rfl ?_
  refine gR.ald (i := (nI i) + 1) (j := i + 1) (N := L) (g := xs) rfl (gN_add rfl rfl) (by omega) (by omega) ?_
  refine gR.call' rfl (km_deal (by omega) τ A (xs (i + 1)) hm) ?_
  rintro _ υ ⟨rfl, hm2, hhi⟩
  show gR _ _ _ υ (693, [some (.ref 1007), some (.ref 18), some (.ref 0), some (.int (nI i))], [.int (aDeal A.1 (xs (i + 1))), .int (aDeal A.1 (xs (i + 1)))])
  refine gR.brT rfl rfl ?_
  exact hk υ A ⟨hc.high hhi, hm2⟩
set_option maxRecDepth 100000 in
theorem law_seen {d L : Nat} {xs : Nat → Int32} (hd : 9 ≤ d) (hL : L < 2147483648) (σ : gS) (A : xA) (i : Nat) (hi : i + 6 ≤ L) (hA : cmA σ A) (hk : ∀ (υ : gS) (B : xA), cmA υ B → gR (pLaw L xs) (gEV gPT d) lFin υ (1195, [some (.ref 1007), some (.ref 18), some (.ref 0), some (.int (nI i))], [])) : gR (pLaw L xs) (gEV gPT d) lFin σ (698, [some (.ref 1007), some (.ref 18), some (.ref 0), some (.int (nI i))], []) := by
  refine gR.steps 5 (σ, (703, [some (.ref 1007), some (.ref 18), some (.ref 0), some (.int (nI i))], [.int ((nI i) + 1), .ref 1007, .ref 18])) rfl ?_
  refine gR.ald (i := (nI i) + 1) (j := i + 1) (N := L) (g := xs) rfl (gN_add rfl rfl) (by omega) (by omega) ?_
  refine gR.steps 4 (σ, (708, [some (.ref 1007), some (.ref 18), some (.ref 0), some (.int (nI i))], [.int ((nI i) + 2), .ref 1007, .int (xs (i + 1)), .ref 18])) rfl ?_
  refine gR.ald (i := (nI i) + 2) (j := i + 2) (N := L) (g := xs) rfl (gN_add rfl rfl) (by omega) (by omega) ?_
  refine gR.steps 4 (σ, (713, [some (.ref 1007), some (.ref 18), some (.ref 0), some (.int (nI i))], [.int ((nI i) + 3), .ref 1007, .int (xs (i + 2)), .int (xs (i + 1)), .ref 18])) rfl ?_
  refine gR.ald (i := (nI i) + 3) (j := i + 3) (N := L) (g := xs) rfl (gN_add rfl rfl) (by omega) (by omega) ?_
  refine gR.call' rfl (kc_seen (by omega) σ A (xs (i + 1)) (xs (i + 2)) (xs (i + 3)) hA.1) ?_
  rintro _ τ ⟨rfl, hc, hlo⟩
  have hm := hA.2.low hlo
  show gR _ _ _ τ (717, [some (.ref 1007), some (.ref 18), some (.ref 0), some (.int (nI i))], [.int (aSeen A.2.1 (xs (i + 1)) (xs (i + 2)) (xs (i + 3)))])
  refine gR.steps 5 (τ, (722, [some (.ref 1007), some (.ref 18), some (.ref 0), some (.int (nI i))], [.int ((nI i) + 1), .ref 1007, .ref 0, .int (aSeen A.2.1 (xs (i + 1)) (xs (i + 2)) (xs (i + 3)))])) rfl ?_
  refine gR.ald (i := (nI i) + 1) (j := i + 1) (N := L) (g := xs) rfl (gN_add rfl rfl) (by omega) (by omega) ?_
  refine gR.steps 4 (τ, (727, [some (.ref 1007), some (.ref 18), some (.ref 0), some (.int (nI i))], [.int ((nI i) + 2), .ref 1007, .int (xs (i + 1)), .ref 0, .int (aSeen A.2.1 (xs (i + 1)) (xs (i + 2)) (xs (i + 3)))])) rfl ?_
  refine gR.ald (i := (nI i) + 2) (j := i + 2) (N := L) (g := xs) rfl (gN_add rfl rfl) (by omega) (by omega) ?_
  refine gR.steps 4 (τ, (732, [some (.ref 1007), some (.ref 18), some (.ref 0), some (.int (nI i))], [.int ((nI i) + 3), .ref 1007, .int (xs (i + 2)), .int (xs (i + 1)), .ref 0, .int (aSeen A.2.1 (xs (i + 1)) (xs (i + 2)) (xs (i + 3)))])) rfl ?_
  refine gR.ald (i := (nI i) + 3) (j := i + 3) (N := L) (g := xs) rfl (gN_add rfl rfl) (by omega) (by omega) ?_
  refine gR.call' rfl (km_seen (by omega) τ A (xs (i + 1)) (xs (i + 2)) (xs (i + 3)) hm) ?_
  rintro _ υ ⟨rfl, hm2, hhi⟩
  show gR _ _ _ υ (736, [some (.ref 1007), some (.ref 18), some (.ref 0), some (.int (nI i))], [.int (aSeen A.2.1 (xs (i + 1)) (xs (i + 2)) (xs (i + 3))), .int (aSeen A.2.1 (xs (i + 1)) (xs (i + 2)) (xs (i + 3)))])
  refine gR.brT rfl rfl ?_
  exact hk υ (A.1, sSeen A.2.1 (xs (i + 1)) (xs (i + 2)) (xs (i + 3)), A.2.2) ⟨hc.high hhi, hm2⟩
set_option maxRecDepth 100000 in
theorem law_forget {d L : Nat} {xs : Nat → Int32} (hd : 9 ≤ d) (hL : L < 2147483648) (σ : gS) (A : xA) (i : Nat) (hi : i + 6 ≤ L) (hA : cmA σ A) (hk : ∀ (υ : gS) (B : xA), cmA υ B → gR (pLaw L xs) (gEV gPT d) lFin υ (1195, [some (.ref 1007), some (.ref 18), some (.ref 0), some (.int (nI i))], [])) : gR (pLaw L xs) (gEV gPT d) lFin σ (741, [some (.ref 1007), some (.ref 18), some (.ref 0), some (.int (nI i))], []) := by
  refine gR.steps 1 (σ, (742, [some (.ref 1007), some (.ref 18), some (.ref 0), some (.int (nI i))], [.ref 18])) rfl ?_
  refine gR.call' rfl (kc_forget (by omega) σ A  hA.1) ?_
  rintro _ τ ⟨rfl, hc, hlo⟩
  have hm := hA.2.low hlo
  show gR _ _ _ τ (745, [some (.ref 1007), some (.ref 18), some (.ref 0), some (.int (nI i))], [.int (nI A.2.1.1)])
  refine gR.steps 1 (τ, (746, [some (.ref 1007), some (.ref 18), some (.ref 0), some (.int (nI i))], [.ref 0, .int (nI A.2.1.1)])) rfl ?_
  refine gR.call' rfl (km_forget (by omega) τ A  hm) ?_
  rintro _ υ ⟨rfl, hm2, hhi⟩
  show gR _ _ _ υ (749, [some (.ref 1007), some (.ref 18), some (.ref 0), some (.int (nI i))], [.int (nI A.2.1.1), .int (nI A.2.1.1)])
  refine gR.brT rfl rfl ?_
  exact hk υ (A.1, (0, A.2.1.2), A.2.2) ⟨hc.high hhi, hm2⟩
set_option maxRecDepth 100000 in
theorem law_never {d L : Nat} {xs : Nat → Int32} (hd : 9 ≤ d) (hL : L < 2147483648) (σ : gS) (A : xA) (i : Nat) (hi : i + 6 ≤ L) (hA : cmA σ A) (hk : ∀ (υ : gS) (B : xA), cmA υ B → gR (pLaw L xs) (gEV gPT d) lFin υ (1195, [some (.ref 1007), some (.ref 18), some (.ref 0), some (.int (nI i))], [])) : gR (pLaw L xs) (gEV gPT d) lFin σ (754, [some (.ref 1007), some (.ref 18), some (.ref 0), some (.int (nI i))], []) := by
  refine gR.steps 1 (σ, (755, [some (.ref 1007), some (.ref 18), some (.ref 0), some (.int (nI i))], [.ref 18])) rfl ?_
  refine gR.call' rfl (kc_never (by omega) σ A  hA.1) ?_
  rintro _ τ ⟨rfl, hc, hlo⟩
  have hm := hA.2.low hlo
  show gR _ _ _ τ (758, [some (.ref 1007), some (.ref 18), some (.ref 0), some (.int (nI i))], [.int (aNever A.1 A.2.1)])
  refine gR.steps 1 (τ, (759, [some (.ref 1007), some (.ref 18), some (.ref 0), some (.int (nI i))], [.ref 0, .int (aNever A.1 A.2.1)])) rfl ?_
  refine gR.call' rfl (km_never (by omega) τ A  hm) ?_
  rintro _ υ ⟨rfl, hm2, hhi⟩
  show gR _ _ _ υ (762, [some (.ref 1007), some (.ref 18), some (.ref 0), some (.int (nI i))], [.int (aNever A.1 A.2.1), .int (aNever A.1 A.2.1)])
  refine gR.brT rfl rfl ?_
  exact hk υ A ⟨hc.high hhi, hm2⟩
set_option maxRecDepth 100000 in
theorem law_was {d L : Nat} {xs : Nat → Int32} (hd : 9 ≤ d) (hL : L < 2147483648) (σ : gS) (A : xA) (i : Nat) (hi : i + 6 ≤ L) (hA : cmA σ A) (hk : ∀ (υ : gS) (B : xA), cmA υ B → gR (pLaw L xs) (gEV gPT d) lFin υ (1195, [some (.ref 1007), some (.ref 18), some (.ref 0), some (.int (nI i))], [])) : gR (pLaw L xs) (gEV gPT d) lFin σ (767, [some (.ref 1007), some (.ref 18), some (.ref 0), some (.int (nI i))], []) := by
  refine gR.steps 5 (σ, (772, [some (.ref 1007), some (.ref 18), some (.ref 0), some (.int (nI i))], [.int ((nI i) + 1), .ref 1007, .ref 18])) rfl ?_
  refine gR.ald (i := (nI i) + 1) (j := i + 1) (N := L) (g := xs) rfl (gN_add rfl rfl) (by omega) (by omega) ?_
  refine gR.steps 4 (σ, (777, [some (.ref 1007), some (.ref 18), some (.ref 0), some (.int (nI i))], [.int ((nI i) + 2), .ref 1007, .int (xs (i + 1)), .ref 18])) rfl ?_
  refine gR.ald (i := (nI i) + 2) (j := i + 2) (N := L) (g := xs) rfl (gN_add rfl rfl) (by omega) (by omega) ?_
  refine gR.call' rfl (kc_was (by omega) σ A (xs (i + 1)) (xs (i + 2)) hA.1) ?_
  rintro _ τ ⟨rfl, hc, hlo⟩
  have hm := hA.2.low hlo
  show gR _ _ _ τ (781, [some (.ref 1007), some (.ref 18), some (.ref 0), some (.int (nI i))], [.int (aWas A.1 A.2.1 (xs (i + 1)) (xs (i + 2)))])
  refine gR.steps 5 (τ, (786, [some (.ref 1007), some (.ref 18), some (.ref 0), some (.int (nI i))], [.int ((nI i) + 1), .ref 1007, .ref 0, .int (aWas A.1 A.2.1 (xs (i + 1)) (xs (i + 2)))])) rfl ?_
  refine gR.ald (i := (nI i) + 1) (j := i + 1) (N := L) (g := xs) rfl (gN_add rfl rfl) (by omega) (by omega) ?_
  refine gR.steps 4 (τ, (791, [some (.ref 1007), some (.ref 18), some (.ref 0), some (.int (nI i))], [.int ((nI i) + 2), .ref 1007, .int (xs (i + 1)), .ref 0, .int (aWas A.1 A.2.1 (xs (i + 1)) (xs (i + 2)))])) rfl ?_
  refine gR.ald (i := (nI i) + 2) (j := i + 2) (N := L) (g := xs) rfl (gN_add rfl rfl) (by omega) (by omega) ?_
  refine gR.call' rfl (km_was (by omega) τ A (xs (i + 1)) (xs (i + 2)) hm) ?_
  rintro _ υ ⟨rfl, hm2, hhi⟩
  show gR _ _ _ υ (795, [some (.ref 1007), some (.ref 18), some (.ref 0), some (.int (nI i))], [.int (aWas A.1 A.2.1 (xs (i + 1)) (xs (i + 2))), .int (aWas A.1 A.2.1 (xs (i + 1)) (xs (i + 2)))])
  refine gR.brT rfl rfl ?_
  exact hk υ A ⟨hc.high hhi, hm2⟩
set_option maxRecDepth 100000 in
theorem law_ask {d L : Nat} {xs : Nat → Int32} (hd : 9 ≤ d) (hL : L < 2147483648) (σ : gS) (A : xA) (i : Nat) (hi : i + 6 ≤ L) (hA : cmA σ A) (hk : ∀ (υ : gS) (B : xA), cmA υ B → gR (pLaw L xs) (gEV gPT d) lFin υ (1195, [some (.ref 1007), some (.ref 18), some (.ref 0), some (.int (nI i))], [])) : gR (pLaw L xs) (gEV gPT d) lFin σ (800, [some (.ref 1007), some (.ref 18), some (.ref 0), some (.int (nI i))], []) := by
  refine gR.steps 5 (σ, (805, [some (.ref 1007), some (.ref 18), some (.ref 0), some (.int (nI i))], [.int ((nI i) + 1), .ref 1007, .ref 18])) rfl ?_
  refine gR.ald (i := (nI i) + 1) (j := i + 1) (N := L) (g := xs) rfl (gN_add rfl rfl) (by omega) (by omega) ?_
  refine gR.call' rfl (kc_ask (by omega) σ A (xs (i + 1)) hA.1) ?_
  rintro _ τ ⟨rfl, hc, hlo⟩
  have hm := hA.2.low hlo
  show gR _ _ _ τ (809, [some (.ref 1007), some (.ref 18), some (.ref 0), some (.int (nI i))], [.int (aAsk A.1 A.2.1 (xs (i + 1)))])
  refine gR.steps 5 (τ, (814, [some (.ref 1007), some (.ref 18), some (.ref 0), some (.int (nI i))], [.int ((nI i) + 1), .ref 1007, .ref 0, .int (aAsk A.1 A.2.1 (xs (i + 1)))])) rfl ?_
  refine gR.ald (i := (nI i) + 1) (j := i + 1) (N := L) (g := xs) rfl (gN_add rfl rfl) (by omega) (by omega) ?_
  refine gR.call' rfl (km_ask (by omega) τ A (xs (i + 1)) hm) ?_
  rintro _ υ ⟨rfl, hm2, hhi⟩
  show gR _ _ _ υ (818, [some (.ref 1007), some (.ref 18), some (.ref 0), some (.int (nI i))], [.int (aAsk A.1 A.2.1 (xs (i + 1))), .int (aAsk A.1 A.2.1 (xs (i + 1)))])
  refine gR.brT rfl rfl ?_
  exact hk υ A ⟨hc.high hhi, hm2⟩
set_option maxRecDepth 100000 in
theorem law_luck {d L : Nat} {xs : Nat → Int32} (hd : 9 ≤ d) (hL : L < 2147483648) (σ : gS) (A : xA) (i : Nat) (hi : i + 6 ≤ L) (hA : cmA σ A) (hk : ∀ (υ : gS) (B : xA), cmA υ B → gR (pLaw L xs) (gEV gPT d) lFin υ (1195, [some (.ref 1007), some (.ref 18), some (.ref 0), some (.int (nI i))], [])) : gR (pLaw L xs) (gEV gPT d) lFin σ (823, [some (.ref 1007), some (.ref 18), some (.ref 0), some (.int (nI i))], []) := by
  refine gR.steps 5 (σ, (828, [some (.ref 1007), some (.ref 18), some (.ref 0), some (.int (nI i))], [.int ((nI i) + 1), .ref 1007, .ref 18])) rfl ?_
  refine gR.ald (i := (nI i) + 1) (j := i + 1) (N := L) (g := xs) rfl (gN_add rfl rfl) (by omega) (by omega) ?_
  refine gR.steps 4 (σ, (833, [some (.ref 1007), some (.ref 18), some (.ref 0), some (.int (nI i))], [.int ((nI i) + 2), .ref 1007, .int (xs (i + 1)), .ref 18])) rfl ?_
  refine gR.ald (i := (nI i) + 2) (j := i + 2) (N := L) (g := xs) rfl (gN_add rfl rfl) (by omega) (by omega) ?_
  refine gR.steps 4 (σ, (838, [some (.ref 1007), some (.ref 18), some (.ref 0), some (.int (nI i))], [.int ((nI i) + 3), .ref 1007, .int (xs (i + 2)), .int (xs (i + 1)), .ref 18])) rfl ?_
  refine gR.ald (i := (nI i) + 3) (j := i + 3) (N := L) (g := xs) rfl (gN_add rfl rfl) (by omega) (by omega) ?_
  refine gR.call' rfl (kc_luck (by omega) σ A (xs (i + 1)) (xs (i + 2)) (xs (i + 3)) hA.1) ?_
  rintro _ τ ⟨rfl, hc, hlo⟩
  have hm := hA.2.low hlo
  show gR _ _ _ τ (842, [some (.ref 1007), some (.ref 18), some (.ref 0), some (.int (nI i))], [.long (aLuck A.1 (xs (i + 1)) (xs (i + 2)) (xs (i + 3)))])
  refine gR.steps 5 (τ, (847, [some (.ref 1007), some (.ref 18), some (.ref 0), some (.int (nI i))], [.int ((nI i) + 1), .ref 1007, .ref 0, .long (aLuck A.1 (xs (i + 1)) (xs (i + 2)) (xs (i + 3)))])) rfl ?_
  refine gR.ald (i := (nI i) + 1) (j := i + 1) (N := L) (g := xs) rfl (gN_add rfl rfl) (by omega) (by omega) ?_
  refine gR.steps 4 (τ, (852, [some (.ref 1007), some (.ref 18), some (.ref 0), some (.int (nI i))], [.int ((nI i) + 2), .ref 1007, .int (xs (i + 1)), .ref 0, .long (aLuck A.1 (xs (i + 1)) (xs (i + 2)) (xs (i + 3)))])) rfl ?_
  refine gR.ald (i := (nI i) + 2) (j := i + 2) (N := L) (g := xs) rfl (gN_add rfl rfl) (by omega) (by omega) ?_
  refine gR.steps 4 (τ, (857, [some (.ref 1007), some (.ref 18), some (.ref 0), some (.int (nI i))], [.int ((nI i) + 3), .ref 1007, .int (xs (i + 2)), .int (xs (i + 1)), .ref 0, .long (aLuck A.1 (xs (i + 1)) (xs (i + 2)) (xs (i + 3)))])) rfl ?_
  refine gR.ald (i := (nI i) + 3) (j := i + 3) (N := L) (g := xs) rfl (gN_add rfl rfl) (by omega) (by omega) ?_
  refine gR.call' rfl (km_luck (by omega) τ A (xs (i + 1)) (xs (i + 2)) (xs (i + 3)) hm) ?_
  rintro _ υ ⟨rfl, hm2, hhi⟩
  show gR _ _ _ υ (861, [some (.ref 1007), some (.ref 18), some (.ref 0), some (.int (nI i))], [.long (aLuck A.1 (xs (i + 1)) (xs (i + 2)) (xs (i + 3))), .long (aLuck A.1 (xs (i + 1)) (xs (i + 2)) (xs (i + 3)))])
  refine gR.steps 1 (υ, (862, [some (.ref 1007), some (.ref 18), some (.ref 0), some (.int (nI i))], [.int (lg_cmp (aLuck A.1 (xs (i + 1)) (xs (i + 2)) (xs (i + 3))) (aLuck A.1 (xs (i + 1)) (xs (i + 2)) (xs (i + 3))))])) rfl ?_
  refine gR.brT rfl ((lgc_eq _ _).mpr rfl) ?_
  exact hk υ A ⟨hc.high hhi, hm2⟩
set_option maxRecDepth 100000 in
theorem law_century {d L : Nat} {xs : Nat → Int32} (hd : 9 ≤ d) (hL : L < 2147483648) (σ : gS) (A : xA) (i : Nat) (hi : i + 6 ≤ L) (hA : cmA σ A) (hk : ∀ (υ : gS) (B : xA), cmA υ B → gR (pLaw L xs) (gEV gPT d) lFin υ (1195, [some (.ref 1007), some (.ref 18), some (.ref 0), some (.int (nI i))], [])) : gR (pLaw L xs) (gEV gPT d) lFin σ (867, [some (.ref 1007), some (.ref 18), some (.ref 0), some (.int (nI i))], []) := by
  refine gR.steps 5 (σ, (872, [some (.ref 1007), some (.ref 18), some (.ref 0), some (.int (nI i))], [.int ((nI i) + 1), .ref 1007, .ref 18])) rfl ?_
  refine gR.ald (i := (nI i) + 1) (j := i + 1) (N := L) (g := xs) rfl (gN_add rfl rfl) (by omega) (by omega) ?_
  refine gR.steps 4 (σ, (877, [some (.ref 1007), some (.ref 18), some (.ref 0), some (.int (nI i))], [.int ((nI i) + 2), .ref 1007, .int (xs (i + 1)), .ref 18])) rfl ?_
  refine gR.ald (i := (nI i) + 2) (j := i + 2) (N := L) (g := xs) rfl (gN_add rfl rfl) (by omega) (by omega) ?_
  refine gR.steps 4 (σ, (882, [some (.ref 1007), some (.ref 18), some (.ref 0), some (.int (nI i))], [.int ((nI i) + 3), .ref 1007, .int (xs (i + 2)), .int (xs (i + 1)), .ref 18])) rfl ?_
  refine gR.ald (i := (nI i) + 3) (j := i + 3) (N := L) (g := xs) rfl (gN_add rfl rfl) (by omega) (by omega) ?_
  refine gR.call' rfl (kc_century (by omega) σ A (xs (i + 1)) (xs (i + 2)) (xs (i + 3)) hA.1) ?_
  rintro _ τ ⟨rfl, hc, hlo⟩
  have hm := hA.2.low hlo
  show gR _ _ _ τ (886, [some (.ref 1007), some (.ref 18), some (.ref 0), some (.int (nI i))], [.int (aCentury A.1 (xs (i + 1)) (xs (i + 2)) (xs (i + 3)))])
  refine gR.steps 5 (τ, (891, [some (.ref 1007), some (.ref 18), some (.ref 0), some (.int (nI i))], [.int ((nI i) + 1), .ref 1007, .ref 0, .int (aCentury A.1 (xs (i + 1)) (xs (i + 2)) (xs (i + 3)))])) rfl ?_
  refine gR.ald (i := (nI i) + 1) (j := i + 1) (N := L) (g := xs) rfl (gN_add rfl rfl) (by omega) (by omega) ?_
  refine gR.steps 4 (τ, (896, [some (.ref 1007), some (.ref 18), some (.ref 0), some (.int (nI i))], [.int ((nI i) + 2), .ref 1007, .int (xs (i + 1)), .ref 0, .int (aCentury A.1 (xs (i + 1)) (xs (i + 2)) (xs (i + 3)))])) rfl ?_
  refine gR.ald (i := (nI i) + 2) (j := i + 2) (N := L) (g := xs) rfl (gN_add rfl rfl) (by omega) (by omega) ?_
  refine gR.steps 4 (τ, (901, [some (.ref 1007), some (.ref 18), some (.ref 0), some (.int (nI i))], [.int ((nI i) + 3), .ref 1007, .int (xs (i + 2)), .int (xs (i + 1)), .ref 0, .int (aCentury A.1 (xs (i + 1)) (xs (i + 2)) (xs (i + 3)))])) rfl ?_
  refine gR.ald (i := (nI i) + 3) (j := i + 3) (N := L) (g := xs) rfl (gN_add rfl rfl) (by omega) (by omega) ?_
  refine gR.call' rfl (km_century (by omega) τ A (xs (i + 1)) (xs (i + 2)) (xs (i + 3)) hm) ?_
  rintro _ υ ⟨rfl, hm2, hhi⟩
  show gR _ _ _ υ (905, [some (.ref 1007), some (.ref 18), some (.ref 0), some (.int (nI i))], [.int (aCentury A.1 (xs (i + 1)) (xs (i + 2)) (xs (i + 3))), .int (aCentury A.1 (xs (i + 1)) (xs (i + 2)) (xs (i + 3)))])
  refine gR.brT rfl rfl ?_
  exact hk υ A ⟨hc.high hhi, hm2⟩
set_option maxRecDepth 100000 in
theorem law_sheet {d L : Nat} {xs : Nat → Int32} (hd : 9 ≤ d) (hL : L < 2147483648) (σ : gS) (A : xA) (i : Nat) (hi : i + 6 ≤ L) (hA : cmA σ A) (hk : ∀ (υ : gS) (B : xA), cmA υ B → gR (pLaw L xs) (gEV gPT d) lFin υ (1195, [some (.ref 1007), some (.ref 18), some (.ref 0), some (.int (nI i))], [])) : gR (pLaw L xs) (gEV gPT d) lFin σ (910, [some (.ref 1007), some (.ref 18), some (.ref 0), some (.int (nI i))], []) := by
  refine gR.steps 5 (σ, (915, [some (.ref 1007), some (.ref 18), some (.ref 0), some (.int (nI i))], [.int ((nI i) + 1), .ref 1007, .ref 18])) rfl ?_
  refine gR.ald (i := (nI i) + 1) (j := i + 1) (N := L) (g := xs) rfl (gN_add rfl rfl) (by omega) (by omega) ?_
  refine gR.steps 4 (σ, (920, [some (.ref 1007), some (.ref 18), some (.ref 0), some (.int (nI i))], [.int ((nI i) + 2), .ref 1007, .int (xs (i + 1)), .ref 18])) rfl ?_
  refine gR.ald (i := (nI i) + 2) (j := i + 2) (N := L) (g := xs) rfl (gN_add rfl rfl) (by omega) (by omega) ?_
  refine gR.steps 4 (σ, (925, [some (.ref 1007), some (.ref 18), some (.ref 0), some (.int (nI i))], [.int ((nI i) + 3), .ref 1007, .int (xs (i + 2)), .int (xs (i + 1)), .ref 18])) rfl ?_
  refine gR.ald (i := (nI i) + 3) (j := i + 3) (N := L) (g := xs) rfl (gN_add rfl rfl) (by omega) (by omega) ?_
  refine gR.call' rfl (kc_sheet (by omega) σ A (xs (i + 1)) (xs (i + 2)) (xs (i + 3)) hA.1) ?_
  rintro _ τ ⟨rfl, hc, hlo⟩
  have hm := hA.2.low hlo
  show gR _ _ _ τ (929, [some (.ref 1007), some (.ref 18), some (.ref 0), some (.int (nI i))], [.int (aSheet (xs (i + 1)) (xs (i + 2)) (xs (i + 3)))])
  refine gR.steps 5 (τ, (934, [some (.ref 1007), some (.ref 18), some (.ref 0), some (.int (nI i))], [.int ((nI i) + 1), .ref 1007, .ref 0, .int (aSheet (xs (i + 1)) (xs (i + 2)) (xs (i + 3)))])) rfl ?_
  refine gR.ald (i := (nI i) + 1) (j := i + 1) (N := L) (g := xs) rfl (gN_add rfl rfl) (by omega) (by omega) ?_
  refine gR.steps 4 (τ, (939, [some (.ref 1007), some (.ref 18), some (.ref 0), some (.int (nI i))], [.int ((nI i) + 2), .ref 1007, .int (xs (i + 1)), .ref 0, .int (aSheet (xs (i + 1)) (xs (i + 2)) (xs (i + 3)))])) rfl ?_
  refine gR.ald (i := (nI i) + 2) (j := i + 2) (N := L) (g := xs) rfl (gN_add rfl rfl) (by omega) (by omega) ?_
  refine gR.steps 4 (τ, (944, [some (.ref 1007), some (.ref 18), some (.ref 0), some (.int (nI i))], [.int ((nI i) + 3), .ref 1007, .int (xs (i + 2)), .int (xs (i + 1)), .ref 0, .int (aSheet (xs (i + 1)) (xs (i + 2)) (xs (i + 3)))])) rfl ?_
  refine gR.ald (i := (nI i) + 3) (j := i + 3) (N := L) (g := xs) rfl (gN_add rfl rfl) (by omega) (by omega) ?_
  refine gR.call' rfl (km_sheet (by omega) τ A (xs (i + 1)) (xs (i + 2)) (xs (i + 3)) hm) ?_
  rintro _ υ ⟨rfl, hm2, hhi⟩
  show gR _ _ _ υ (948, [some (.ref 1007), some (.ref 18), some (.ref 0), some (.int (nI i))], [.int (aSheet (xs (i + 1)) (xs (i + 2)) (xs (i + 3))), .int (aSheet (xs (i + 1)) (xs (i + 2)) (xs (i + 3)))])
  refine gR.brT rfl rfl ?_
  exact hk υ (A.1, A.2.1, sSheet A.2.2.1 (xs (i + 1)) (xs (i + 2)) (xs (i + 3)), lSheet A.2.2.2 (xs (i + 1)) (xs (i + 2)) (xs (i + 3))) ⟨hc.high hhi, hm2⟩
set_option maxRecDepth 100000 in
theorem law_lose {d L : Nat} {xs : Nat → Int32} (hd : 9 ≤ d) (hL : L < 2147483648) (σ : gS) (A : xA) (i : Nat) (hi : i + 6 ≤ L) (hA : cmA σ A) (hk : ∀ (υ : gS) (B : xA), cmA υ B → gR (pLaw L xs) (gEV gPT d) lFin υ (1195, [some (.ref 1007), some (.ref 18), some (.ref 0), some (.int (nI i))], [])) : gR (pLaw L xs) (gEV gPT d) lFin σ (953, [some (.ref 1007), some (.ref 18), some (.ref 0), some (.int (nI i))], []) := by
  refine gR.steps 5 (σ, (958, [some (.ref 1007), some (.ref 18), some (.ref 0), some (.int (nI i))], [.int ((nI i) + 1), .ref 1007, .ref 18])) rfl ?_
  refine gR.ald (i := (nI i) + 1) (j := i + 1) (N := L) (g := xs) rfl (gN_add rfl rfl) (by omega) (by omega) ?_
  refine gR.call' rfl (kc_lose (by omega) σ A (xs (i + 1)) hA.1) ?_
  rintro _ τ ⟨rfl, hc, hlo⟩
  have hm := hA.2.low hlo
  show gR _ _ _ τ (962, [some (.ref 1007), some (.ref 18), some (.ref 0), some (.int (nI i))], [.int (aLose A.2.2.1 (xs (i + 1)))])
  refine gR.steps 5 (τ, (967, [some (.ref 1007), some (.ref 18), some (.ref 0), some (.int (nI i))], [.int ((nI i) + 1), .ref 1007, .ref 0, .int (aLose A.2.2.1 (xs (i + 1)))])) rfl ?_
  refine gR.ald (i := (nI i) + 1) (j := i + 1) (N := L) (g := xs) rfl (gN_add rfl rfl) (by omega) (by omega) ?_
  refine gR.call' rfl (km_lose (by omega) τ A (xs (i + 1)) hm) ?_
  rintro _ υ ⟨rfl, hm2, hhi⟩
  show gR _ _ _ υ (971, [some (.ref 1007), some (.ref 18), some (.ref 0), some (.int (nI i))], [.int (aLose A.2.2.1 (xs (i + 1))), .int (aLose A.2.2.1 (xs (i + 1)))])
  refine gR.brT rfl rfl ?_
  exact hk υ (A.1, A.2.1, sLose A.2.2.1 (xs (i + 1)), lLose A.2.2.1 A.2.2.2 (xs (i + 1))) ⟨hc.high hhi, hm2⟩
set_option maxRecDepth 100000 in
theorem law_lay {d L : Nat} {xs : Nat → Int32} (hd : 9 ≤ d) (hL : L < 2147483648) (σ : gS) (A : xA) (i : Nat) (hi : i + 6 ≤ L) (hA : cmA σ A) (hk : ∀ (υ : gS) (B : xA), cmA υ B → gR (pLaw L xs) (gEV gPT d) lFin υ (1195, [some (.ref 1007), some (.ref 18), some (.ref 0), some (.int (nI i))], [])) : gR (pLaw L xs) (gEV gPT d) lFin σ (976, [some (.ref 1007), some (.ref 18), some (.ref 0), some (.int (nI i))], []) := by
  refine gR.steps 5 (σ, (981, [some (.ref 1007), some (.ref 18), some (.ref 0), some (.int (nI i))], [.int ((nI i) + 1), .ref 1007, .ref 18])) rfl ?_
  refine gR.ald (i := (nI i) + 1) (j := i + 1) (N := L) (g := xs) rfl (gN_add rfl rfl) (by omega) (by omega) ?_
  refine gR.steps 4 (σ, (986, [some (.ref 1007), some (.ref 18), some (.ref 0), some (.int (nI i))], [.int ((nI i) + 2), .ref 1007, .int (xs (i + 1)), .ref 18])) rfl ?_
  refine gR.ald (i := (nI i) + 2) (j := i + 2) (N := L) (g := xs) rfl (gN_add rfl rfl) (by omega) (by omega) ?_
  refine gR.steps 4 (σ, (991, [some (.ref 1007), some (.ref 18), some (.ref 0), some (.int (nI i))], [.int ((nI i) + 3), .ref 1007, .int (xs (i + 2)), .int (xs (i + 1)), .ref 18])) rfl ?_
  refine gR.ald (i := (nI i) + 3) (j := i + 3) (N := L) (g := xs) rfl (gN_add rfl rfl) (by omega) (by omega) ?_
  refine gR.steps 4 (σ, (996, [some (.ref 1007), some (.ref 18), some (.ref 0), some (.int (nI i))], [.int ((nI i) + 4), .ref 1007, .int (xs (i + 3)), .int (xs (i + 2)), .int (xs (i + 1)), .ref 18])) rfl ?_
  refine gR.ald (i := (nI i) + 4) (j := i + 4) (N := L) (g := xs) rfl (gN_add rfl rfl) (by omega) (by omega) ?_
  refine gR.call' rfl (kc_lay (by omega) σ A (xs (i + 1)) (xs (i + 2)) (xs (i + 3)) (xs (i + 4)) hA.1) ?_
  rintro _ τ ⟨rfl, hc, hlo⟩
  have hm := hA.2.low hlo
  show gR _ _ _ τ (1000, [some (.ref 1007), some (.ref 18), some (.ref 0), some (.int (nI i))], [.int (aLay A.2.2.1 (xs (i + 1)) (xs (i + 2)) (xs (i + 3)) (xs (i + 4)))])
  refine gR.steps 5 (τ, (1005, [some (.ref 1007), some (.ref 18), some (.ref 0), some (.int (nI i))], [.int ((nI i) + 1), .ref 1007, .ref 0, .int (aLay A.2.2.1 (xs (i + 1)) (xs (i + 2)) (xs (i + 3)) (xs (i + 4)))])) rfl ?_
  refine gR.ald (i := (nI i) + 1) (j := i + 1) (N := L) (g := xs) rfl (gN_add rfl rfl) (by omega) (by omega) ?_
  refine gR.steps 4 (τ, (1010, [some (.ref 1007), some (.ref 18), some (.ref 0), some (.int (nI i))], [.int ((nI i) + 2), .ref 1007, .int (xs (i + 1)), .ref 0, .int (aLay A.2.2.1 (xs (i + 1)) (xs (i + 2)) (xs (i + 3)) (xs (i + 4)))])) rfl ?_
  refine gR.ald (i := (nI i) + 2) (j := i + 2) (N := L) (g := xs) rfl (gN_add rfl rfl) (by omega) (by omega) ?_
  refine gR.steps 4 (τ, (1015, [some (.ref 1007), some (.ref 18), some (.ref 0), some (.int (nI i))], [.int ((nI i) + 3), .ref 1007, .int (xs (i + 2)), .int (xs (i + 1)), .ref 0, .int (aLay A.2.2.1 (xs (i + 1)) (xs (i + 2)) (xs (i + 3)) (xs (i + 4)))])) rfl ?_
  refine gR.ald (i := (nI i) + 3) (j := i + 3) (N := L) (g := xs) rfl (gN_add rfl rfl) (by omega) (by omega) ?_
  refine gR.steps 4 (τ, (1020, [some (.ref 1007), some (.ref 18), some (.ref 0), some (.int (nI i))], [.int ((nI i) + 4), .ref 1007, .int (xs (i + 3)), .int (xs (i + 2)), .int (xs (i + 1)), .ref 0, .int (aLay A.2.2.1 (xs (i + 1)) (xs (i + 2)) (xs (i + 3)) (xs (i + 4)))])) rfl ?_
  refine gR.ald (i := (nI i) + 4) (j := i + 4) (N := L) (g := xs) rfl (gN_add rfl rfl) (by omega) (by omega) ?_
  refine gR.call' rfl (km_lay (by omega) τ A (xs (i + 1)) (xs (i + 2)) (xs (i + 3)) (xs (i + 4)) hm) ?_
  rintro _ υ ⟨rfl, hm2, hhi⟩
  show gR _ _ _ υ (1024, [some (.ref 1007), some (.ref 18), some (.ref 0), some (.int (nI i))], [.int (aLay A.2.2.1 (xs (i + 1)) (xs (i + 2)) (xs (i + 3)) (xs (i + 4))), .int (aLay A.2.2.1 (xs (i + 1)) (xs (i + 2)) (xs (i + 3)) (xs (i + 4)))])
  refine gR.brT rfl rfl ?_
  exact hk υ (A.1, A.2.1, sLay A.2.2.1 (xs (i + 1)) (xs (i + 2)) (xs (i + 3)) (xs (i + 4)), lLay A.2.2.1 A.2.2.2 (xs (i + 1)) (xs (i + 2)) (xs (i + 3))) ⟨hc.high hhi, hm2⟩
set_option maxRecDepth 100000 in
theorem law_get {d L : Nat} {xs : Nat → Int32} (hd : 9 ≤ d) (hL : L < 2147483648) (σ : gS) (A : xA) (i : Nat) (hi : i + 6 ≤ L) (hA : cmA σ A) (hk : ∀ (υ : gS) (B : xA), cmA υ B → gR (pLaw L xs) (gEV gPT d) lFin υ (1195, [some (.ref 1007), some (.ref 18), some (.ref 0), some (.int (nI i))], [])) : gR (pLaw L xs) (gEV gPT d) lFin σ (1029, [some (.ref 1007), some (.ref 18), some (.ref 0), some (.int (nI i))], []) := by
  refine gR.steps 5 (σ, (1034, [some (.ref 1007), some (.ref 18), some (.ref 0), some (.int (nI i))], [.int ((nI i) + 1), .ref 1007, .ref 18])) rfl ?_
  refine gR.ald (i := (nI i) + 1) (j := i + 1) (N := L) (g := xs) rfl (gN_add rfl rfl) (by omega) (by omega) ?_
  refine gR.steps 4 (σ, (1039, [some (.ref 1007), some (.ref 18), some (.ref 0), some (.int (nI i))], [.int ((nI i) + 2), .ref 1007, .int (xs (i + 1)), .ref 18])) rfl ?_
  refine gR.ald (i := (nI i) + 2) (j := i + 2) (N := L) (g := xs) rfl (gN_add rfl rfl) (by omega) (by omega) ?_
  refine gR.steps 4 (σ, (1044, [some (.ref 1007), some (.ref 18), some (.ref 0), some (.int (nI i))], [.int ((nI i) + 3), .ref 1007, .int (xs (i + 2)), .int (xs (i + 1)), .ref 18])) rfl ?_
  refine gR.ald (i := (nI i) + 3) (j := i + 3) (N := L) (g := xs) rfl (gN_add rfl rfl) (by omega) (by omega) ?_
  refine gR.call' rfl (kc_get (by omega) σ A (xs (i + 1)) (xs (i + 2)) (xs (i + 3)) hA.1) ?_
  rintro _ τ ⟨rfl, hc, hlo⟩
  have hm := hA.2.low hlo
  show gR _ _ _ τ (1048, [some (.ref 1007), some (.ref 18), some (.ref 0), some (.int (nI i))], [.int (aGet A.2.2.1 (xs (i + 1)) (xs (i + 2)) (xs (i + 3)))])
  refine gR.steps 5 (τ, (1053, [some (.ref 1007), some (.ref 18), some (.ref 0), some (.int (nI i))], [.int ((nI i) + 1), .ref 1007, .ref 0, .int (aGet A.2.2.1 (xs (i + 1)) (xs (i + 2)) (xs (i + 3)))])) rfl ?_
  refine gR.ald (i := (nI i) + 1) (j := i + 1) (N := L) (g := xs) rfl (gN_add rfl rfl) (by omega) (by omega) ?_
  refine gR.steps 4 (τ, (1058, [some (.ref 1007), some (.ref 18), some (.ref 0), some (.int (nI i))], [.int ((nI i) + 2), .ref 1007, .int (xs (i + 1)), .ref 0, .int (aGet A.2.2.1 (xs (i + 1)) (xs (i + 2)) (xs (i + 3)))])) rfl ?_
  refine gR.ald (i := (nI i) + 2) (j := i + 2) (N := L) (g := xs) rfl (gN_add rfl rfl) (by omega) (by omega) ?_
  refine gR.steps 4 (τ, (1063, [some (.ref 1007), some (.ref 18), some (.ref 0), some (.int (nI i))], [.int ((nI i) + 3), .ref 1007, .int (xs (i + 2)), .int (xs (i + 1)), .ref 0, .int (aGet A.2.2.1 (xs (i + 1)) (xs (i + 2)) (xs (i + 3)))])) rfl ?_
  refine gR.ald (i := (nI i) + 3) (j := i + 3) (N := L) (g := xs) rfl (gN_add rfl rfl) (by omega) (by omega) ?_
  refine gR.call' rfl (km_get (by omega) τ A (xs (i + 1)) (xs (i + 2)) (xs (i + 3)) hm) ?_
  rintro _ υ ⟨rfl, hm2, hhi⟩
  show gR _ _ _ υ (1067, [some (.ref 1007), some (.ref 18), some (.ref 0), some (.int (nI i))], [.int (aGet A.2.2.1 (xs (i + 1)) (xs (i + 2)) (xs (i + 3))), .int (aGet A.2.2.1 (xs (i + 1)) (xs (i + 2)) (xs (i + 3)))])
  refine gR.brT rfl rfl ?_
  exact hk υ (A.1, A.2.1, A.2.2.1, lLay A.2.2.1 A.2.2.2 (xs (i + 1)) (xs (i + 2)) (xs (i + 3))) ⟨hc.high hhi, hm2⟩
set_option maxRecDepth 100000 in
theorem law_copy {d L : Nat} {xs : Nat → Int32} (hd : 9 ≤ d) (hL : L < 2147483648) (σ : gS) (A : xA) (i : Nat) (hi : i + 6 ≤ L) (hA : cmA σ A) (hk : ∀ (υ : gS) (B : xA), cmA υ B → gR (pLaw L xs) (gEV gPT d) lFin υ (1195, [some (.ref 1007), some (.ref 18), some (.ref 0), some (.int (nI i))], [])) : gR (pLaw L xs) (gEV gPT d) lFin σ (1072, [some (.ref 1007), some (.ref 18), some (.ref 0), some (.int (nI i))], []) := by
  refine gR.steps 5 (σ, (1077, [some (.ref 1007), some (.ref 18), some (.ref 0), some (.int (nI i))], [.int ((nI i) + 1), .ref 1007, .ref 18])) rfl ?_
  refine gR.ald (i := (nI i) + 1) (j := i + 1) (N := L) (g := xs) rfl (gN_add rfl rfl) (by omega) (by omega) ?_
  refine gR.steps 4 (σ, (1082, [some (.ref 1007), some (.ref 18), some (.ref 0), some (.int (nI i))], [.int ((nI i) + 2), .ref 1007, .int (xs (i + 1)), .ref 18])) rfl ?_
  refine gR.ald (i := (nI i) + 2) (j := i + 2) (N := L) (g := xs) rfl (gN_add rfl rfl) (by omega) (by omega) ?_
  refine gR.steps 4 (σ, (1087, [some (.ref 1007), some (.ref 18), some (.ref 0), some (.int (nI i))], [.int ((nI i) + 3), .ref 1007, .int (xs (i + 2)), .int (xs (i + 1)), .ref 18])) rfl ?_
  refine gR.ald (i := (nI i) + 3) (j := i + 3) (N := L) (g := xs) rfl (gN_add rfl rfl) (by omega) (by omega) ?_
  refine gR.steps 4 (σ, (1092, [some (.ref 1007), some (.ref 18), some (.ref 0), some (.int (nI i))], [.int ((nI i) + 4), .ref 1007, .int (xs (i + 3)), .int (xs (i + 2)), .int (xs (i + 1)), .ref 18])) rfl ?_
  refine gR.ald (i := (nI i) + 4) (j := i + 4) (N := L) (g := xs) rfl (gN_add rfl rfl) (by omega) (by omega) ?_
  refine gR.steps 4 (σ, (1097, [some (.ref 1007), some (.ref 18), some (.ref 0), some (.int (nI i))], [.int ((nI i) + 5), .ref 1007, .int (xs (i + 4)), .int (xs (i + 3)), .int (xs (i + 2)), .int (xs (i + 1)), .ref 18])) rfl ?_
  refine gR.ald (i := (nI i) + 5) (j := i + 5) (N := L) (g := xs) rfl (gN_add rfl rfl) (by omega) (by omega) ?_
  refine gR.call' rfl (kc_copy (by omega) σ A (xs (i + 1)) (xs (i + 2)) (xs (i + 3)) (xs (i + 4)) (xs (i + 5)) hA.1) ?_
  rintro _ τ ⟨rfl, hc, hlo⟩
  have hm := hA.2.low hlo
  show gR _ _ _ τ (1101, [some (.ref 1007), some (.ref 18), some (.ref 0), some (.int (nI i))], [.int (aCopy A.2.2.1 (xs (i + 1)) (xs (i + 2)) (xs (i + 3)) (xs (i + 4)) (xs (i + 5)))])
  refine gR.steps 5 (τ, (1106, [some (.ref 1007), some (.ref 18), some (.ref 0), some (.int (nI i))], [.int ((nI i) + 1), .ref 1007, .ref 0, .int (aCopy A.2.2.1 (xs (i + 1)) (xs (i + 2)) (xs (i + 3)) (xs (i + 4)) (xs (i + 5)))])) rfl ?_
  refine gR.ald (i := (nI i) + 1) (j := i + 1) (N := L) (g := xs) rfl (gN_add rfl rfl) (by omega) (by omega) ?_
  refine gR.steps 4 (τ, (1111, [some (.ref 1007), some (.ref 18), some (.ref 0), some (.int (nI i))], [.int ((nI i) + 2), .ref 1007, .int (xs (i + 1)), .ref 0, .int (aCopy A.2.2.1 (xs (i + 1)) (xs (i + 2)) (xs (i + 3)) (xs (i + 4)) (xs (i + 5)))])) rfl ?_
  refine gR.ald (i := (nI i) + 2) (j := i + 2) (N := L) (g := xs) rfl (gN_add rfl rfl) (by omega) (by omega) ?_
  refine gR.steps 4 (τ, (1116, [some (.ref 1007), some (.ref 18), some (.ref 0), some (.int (nI i))], [.int ((nI i) + 3), .ref 1007, .int (xs (i + 2)), .int (xs (i + 1)), .ref 0, .int (aCopy A.2.2.1 (xs (i + 1)) (xs (i + 2)) (xs (i + 3)) (xs (i + 4)) (xs (i + 5)))])) rfl ?_
  refine gR.ald (i := (nI i) + 3) (j := i + 3) (N := L) (g := xs) rfl (gN_add rfl rfl) (by omega) (by omega) ?_
  refine gR.steps 4 (τ, (1121, [some (.ref 1007), some (.ref 18), some (.ref 0), some (.int (nI i))], [.int ((nI i) + 4), .ref 1007, .int (xs (i + 3)), .int (xs (i + 2)), .int (xs (i + 1)), .ref 0, .int (aCopy A.2.2.1 (xs (i + 1)) (xs (i + 2)) (xs (i + 3)) (xs (i + 4)) (xs (i + 5)))])) rfl ?_
  refine gR.ald (i := (nI i) + 4) (j := i + 4) (N := L) (g := xs) rfl (gN_add rfl rfl) (by omega) (by omega) ?_
  refine gR.steps 4 (τ, (1126, [some (.ref 1007), some (.ref 18), some (.ref 0), some (.int (nI i))], [.int ((nI i) + 5), .ref 1007, .int (xs (i + 4)), .int (xs (i + 3)), .int (xs (i + 2)), .int (xs (i + 1)), .ref 0, .int (aCopy A.2.2.1 (xs (i + 1)) (xs (i + 2)) (xs (i + 3)) (xs (i + 4)) (xs (i + 5)))])) rfl ?_
  refine gR.ald (i := (nI i) + 5) (j := i + 5) (N := L) (g := xs) rfl (gN_add rfl rfl) (by omega) (by omega) ?_
  refine gR.call' rfl (km_copy (by omega) τ A (xs (i + 1)) (xs (i + 2)) (xs (i + 3)) (xs (i + 4)) (xs (i + 5)) hm) ?_
  rintro _ υ ⟨rfl, hm2, hhi⟩
  show gR _ _ _ υ (1130, [some (.ref 1007), some (.ref 18), some (.ref 0), some (.int (nI i))], [.int (aCopy A.2.2.1 (xs (i + 1)) (xs (i + 2)) (xs (i + 3)) (xs (i + 4)) (xs (i + 5))), .int (aCopy A.2.2.1 (xs (i + 1)) (xs (i + 2)) (xs (i + 3)) (xs (i + 4)) (xs (i + 5)))])
  refine gR.brT rfl rfl ?_
  exact hk υ (A.1, A.2.1, sCpy A.2.2.1 (xs (i + 1)) (xs (i + 2)) (xs (i + 3)) (xs (i + 4)) (xs (i + 5)), lCopy A.2.2.1 A.2.2.2 (xs (i + 1)) (xs (i + 2)) (xs (i + 3)) (xs (i + 4)) (xs (i + 5))) ⟨hc.high hhi, hm2⟩
set_option maxRecDepth 100000 in
theorem law_write {d L : Nat} {xs : Nat → Int32} (hd : 9 ≤ d) (hL : L < 2147483648) (σ : gS) (A : xA) (i : Nat) (hi : i + 6 ≤ L) (hA : cmA σ A) (hk : ∀ (υ : gS) (B : xA), cmA υ B → gR (pLaw L xs) (gEV gPT d) lFin υ (1195, [some (.ref 1007), some (.ref 18), some (.ref 0), some (.int (nI i))], [])) : gR (pLaw L xs) (gEV gPT d) lFin σ (1135, [some (.ref 1007), some (.ref 18), some (.ref 0), some (.int (nI i))], []) := by
  refine gR.steps 5 (σ, (1140, [some (.ref 1007), some (.ref 18), some (.ref 0), some (.int (nI i))], [.int ((nI i) + 1), .ref 1007, .ref 18])) rfl ?_
  refine gR.ald (i := (nI i) + 1) (j := i + 1) (N := L) (g := xs) rfl (gN_add rfl rfl) (by omega) (by omega) ?_
  refine gR.call' rfl (kc_write (by omega) σ A (xs (i + 1)) hA.1) ?_
  rintro _ τ ⟨rfl, hc, hlo⟩
  have hm := hA.2.low hlo
  show gR _ _ _ τ (1144, [some (.ref 1007), some (.ref 18), some (.ref 0), some (.int (nI i))], [.int (aWrite A.2.2.1 (xs (i + 1)))])
  refine gR.steps 5 (τ, (1149, [some (.ref 1007), some (.ref 18), some (.ref 0), some (.int (nI i))], [.int ((nI i) + 1), .ref 1007, .ref 0, .int (aWrite A.2.2.1 (xs (i + 1)))])) rfl ?_
  refine gR.ald (i := (nI i) + 1) (j := i + 1) (N := L) (g := xs) rfl (gN_add rfl rfl) (by omega) (by omega) ?_
  refine gR.call' rfl (km_write (by omega) τ A (xs (i + 1)) hm) ?_
  rintro _ υ ⟨rfl, hm2, hhi⟩
  show gR _ _ _ υ (1153, [some (.ref 1007), some (.ref 18), some (.ref 0), some (.int (nI i))], [.int (aWrite A.2.2.1 (xs (i + 1))), .int (aWrite A.2.2.1 (xs (i + 1)))])
  refine gR.brT rfl rfl ?_
  exact hk υ (A.1, A.2.1, sWrite A.1 A.2.2.1 (xs (i + 1)), lLose A.2.2.1 A.2.2.2 (xs (i + 1))) ⟨hc.high hhi, hm2⟩
set_option maxRecDepth 100000 in
theorem law_count {d L : Nat} {xs : Nat → Int32} (hd : 9 ≤ d) (hL : L < 2147483648) (σ : gS) (A : xA) (i : Nat) (hi : i + 6 ≤ L) (hA : cmA σ A) (hk : ∀ (υ : gS) (B : xA), cmA υ B → gR (pLaw L xs) (gEV gPT d) lFin υ (1195, [some (.ref 1007), some (.ref 18), some (.ref 0), some (.int (nI i))], [])) : gR (pLaw L xs) (gEV gPT d) lFin σ (1158, [some (.ref 1007), some (.ref 18), some (.ref 0), some (.int (nI i))], []) := by
  refine gR.steps 5 (σ, (1163, [some (.ref 1007), some (.ref 18), some (.ref 0), some (.int (nI i))], [.int ((nI i) + 1), .ref 1007, .ref 18])) rfl ?_
  refine gR.ald (i := (nI i) + 1) (j := i + 1) (N := L) (g := xs) rfl (gN_add rfl rfl) (by omega) (by omega) ?_
  refine gR.call' rfl (kc_count (by omega) σ A (xs (i + 1)) hA.1) ?_
  rintro _ τ ⟨rfl, hc, hlo⟩
  have hm := hA.2.low hlo
  show gR _ _ _ τ (1167, [some (.ref 1007), some (.ref 18), some (.ref 0), some (.int (nI i))], [.int (aCount A.1 A.2.1 A.2.2.2 (xs (i + 1)))])
  refine gR.steps 5 (τ, (1172, [some (.ref 1007), some (.ref 18), some (.ref 0), some (.int (nI i))], [.int ((nI i) + 1), .ref 1007, .ref 0, .int (aCount A.1 A.2.1 A.2.2.2 (xs (i + 1)))])) rfl ?_
  refine gR.ald (i := (nI i) + 1) (j := i + 1) (N := L) (g := xs) rfl (gN_add rfl rfl) (by omega) (by omega) ?_
  refine gR.call' rfl (km_count (by omega) τ A (xs (i + 1)) hm) ?_
  rintro _ υ ⟨rfl, hm2, hhi⟩
  show gR _ _ _ υ (1176, [some (.ref 1007), some (.ref 18), some (.ref 0), some (.int (nI i))], [.int (aCount A.1 A.2.1 A.2.2.2 (xs (i + 1))), .int (aCount A.1 A.2.1 A.2.2.2 (xs (i + 1)))])
  refine gR.brT rfl rfl ?_
  exact hk υ A ⟨hc.high hhi, hm2⟩
set_option maxRecDepth 100000 in
theorem law_digest {d L : Nat} {xs : Nat → Int32} (hd : 9 ≤ d) (hL : L < 2147483648) (σ : gS) (A : xA) (i : Nat) (hi : i + 6 ≤ L) (hA : cmA σ A) (hk : ∀ (υ : gS) (B : xA), cmA υ B → gR (pLaw L xs) (gEV gPT d) lFin υ (1195, [some (.ref 1007), some (.ref 18), some (.ref 0), some (.int (nI i))], [])) : gR (pLaw L xs) (gEV gPT d) lFin σ (1181, [some (.ref 1007), some (.ref 18), some (.ref 0), some (.int (nI i))], []) := by
  refine gR.steps 1 (σ, (1182, [some (.ref 1007), some (.ref 18), some (.ref 0), some (.int (nI i))], [.ref 18])) rfl ?_
  refine gR.call' rfl (kc_digest (by omega) σ A  hA.1) ?_
  rintro _ τ ⟨rfl, hc, hlo⟩
  have hm := hA.2.low hlo
  show gR _ _ _ τ (1185, [some (.ref 1007), some (.ref 18), some (.ref 0), some (.int (nI i))], [.long (dDig A.1 A.2.1 A.2.2.2)])
  refine gR.steps 1 (τ, (1186, [some (.ref 1007), some (.ref 18), some (.ref 0), some (.int (nI i))], [.ref 0, .long (dDig A.1 A.2.1 A.2.2.2)])) rfl ?_
  refine gR.call' rfl (km_digest (by omega) τ A  hm) ?_
  rintro _ υ ⟨rfl, hm2, hhi⟩
  show gR _ _ _ υ (1189, [some (.ref 1007), some (.ref 18), some (.ref 0), some (.int (nI i))], [.long (dDig A.1 A.2.1 A.2.2.2), .long (dDig A.1 A.2.1 A.2.2.2)])
  refine gR.steps 1 (υ, (1190, [some (.ref 1007), some (.ref 18), some (.ref 0), some (.int (nI i))], [.int (lg_cmp (dDig A.1 A.2.1 A.2.2.2) (dDig A.1 A.2.1 A.2.2.2))])) rfl ?_
  refine gR.brT rfl ((lgc_eq _ _).mpr rfl) ?_
  exact hk υ A ⟨hc.high hhi, hm2⟩
set_option maxRecDepth 100000 in
theorem law_loop {d L : Nat} {xs : Nat → Int32} (hd : 9 ≤ d) (hL : L < 2147483648) (σ : gS) (A : xA) (v3 : Option Value) (hA : cmA σ A) : gR (pLaw L xs) (gEV gPT d) lFin σ (16, [some (.ref 1007), some (.ref 18), some (.ref 0), v3], []) := by
  refine gR.steps 2 (σ, (18, [some (.ref 1007), some (.ref 18), some (.ref 0), some (.int 0)], [])) rfl ?_
  refine gR.forget [some (.ref 1007), some (.ref 18), some (.ref 0), some (.int 0)] ⟨rfl, ⟨rfl, ⟨rfl, ⟨rfl, trivial⟩⟩⟩⟩ ?_
  refine gR.loop (α := Nat × xA × gS) (fun ⟨i, A, τ⟩ => i ≤ L ∧ cmA τ A) (fun ⟨i, A, τ⟩ => L - i) (fun ⟨i, A, τ⟩ => (τ, (18, [some (.ref 1007), some (.ref 18), some (.ref 0), some (.int (nI i))], []))) ?_ ⟨0, A, σ⟩ ⟨Nat.zero_le _, hA⟩
  rintro ⟨i, A, τ⟩ ⟨hi, hA⟩ ih
  show gR _ _ _ τ (18, [some (.ref 1007), some (.ref 18), some (.ref 0), some (.int (nI i))], [])
  refine gR.steps 5 (τ, (24, [some (.ref 1007), some (.ref 18), some (.ref 0), some (.int (nI i))], [.int ((Int32.ofNat L) - 6), .int (nI i)])) rfl ?_
  refine gR.ifte rfl (fun zc24 => ?_) (fun zc24 => ?_)
  · rw [Int32.lt_iff_toInt_lt, nI_toInt (by omega), lawL hL] at zc24
    refine gR.steps 1 (τ, (1202, [some (.ref 1007), some (.ref 18), some (.ref 0), some (.int (nI i))], [.int 1])) rfl ?_
    show gR _ _ _ τ (1202, [some (.ref 1007), some (.ref 18), some (.ref 0), some (.int (nI i))], [.int 1])
    refine gR.ret rfl ?_
    exact rfl
  · rw [Int32.lt_iff_toInt_lt, nI_toInt (by omega), lawL hL] at zc24
    have hback : ∀ (υ : gS) (B : xA), cmA υ B → gR (pLaw L xs) (gEV gPT d) lFin υ (1195, [some (.ref 1007), some (.ref 18), some (.ref 0), some (.int (nI i))], []) := by
      intro υ B hB
      refine gR.steps 2 (υ, (18, [some (.ref 1007), some (.ref 18), some (.ref 0), some (.int ((nI i) + 6))], [])) rfl ?_
      refine gR.forget [some (.ref 1007), some (.ref 18), some (.ref 0), some (.int (nI (i + 6)))] ⟨rfl, ⟨rfl, ⟨rfl, ⟨gSomeI (gN_add (b := 6) rfl rfl), trivial⟩⟩⟩⟩ ?_
      have hzz := ih ⟨i + 6, B, υ⟩ ⟨by omega, hB⟩ (by dsimp only; omega)
      exact hzz
    refine gR.steps 2 (τ, (29, [some (.ref 1007), some (.ref 18), some (.ref 0), some (.int (nI i))], [.int (nI i), .ref 1007])) rfl ?_
    refine gR.ald (i := nI i) (j := i) (N := L) (g := xs) rfl rfl (by omega) (by omega) ?_
    refine gR.steps 2 (τ, (33, [some (.ref 1007), some (.ref 18), some (.ref 0), some (.int (nI i))], [.int ((xs i) &&& 63)])) rfl ?_
    obtain ⟨ww, hww, ew⟩ := and63 (xs i)
    refine gR.topI (y := nI ww) ew ?_
    rcases sw_cs hww with h35 | rfl | rfl | rfl | rfl | rfl | rfl | rfl | rfl | rfl | rfl | rfl | rfl | rfl | rfl | rfl | rfl | rfl | rfl | rfl | rfl | rfl | rfl | rfl | rfl | rfl | rfl | rfl | rfl | rfl | rfl | rfl | rfl | rfl | rfl | rfl
    · refine gR.sw (t := 1195) rfl (tgt_law h35 hww) ?_
      exact hback τ A hA
    · refine gR.sw (t := 188) rfl rfl ?_
      exact law_type hd hL τ A i (by omega) hA hback
    · refine gR.sw (t := 221) rfl rfl ?_
      exact law_wipe hd hL τ A i (by omega) hA hback
    · refine gR.sw (t := 244) rfl rfl ?_
      exact law_undo hd hL τ A i (by omega) hA hback
    · refine gR.sw (t := 267) rfl rfl ?_
      exact law_fault hd hL τ A i (by omega) hA hback
    · refine gR.sw (t := 290) rfl rfl ?_
      exact law_bush hd hL τ A i (by omega) hA hback
    · refine gR.sw (t := 323) rfl rfl ?_
      exact law_look hd hL τ A i (by omega) hA hback
    · refine gR.sw (t := 356) rfl rfl ?_
      exact law_set hd hL τ A i (by omega) hA hback
    · refine gR.sw (t := 389) rfl rfl ?_
      exact law_event hd hL τ A i (by omega) hA hback
    · refine gR.sw (t := 432) rfl rfl ?_
      exact law_back hd hL τ A i (by omega) hA hback
    · refine gR.sw (t := 445) rfl rfl ?_
      exact law_read hd hL τ A i (by omega) hA hback
    · refine gR.sw (t := 468) rfl rfl ?_
      exact law_at hd hL τ A i (by omega) hA hback
    · refine gR.sw (t := 511) rfl rfl ?_
      exact law_hill hd hL τ A i (by omega) hA hback
    · refine gR.sw (t := 544) rfl rfl ?_
      exact law_bare hd hL τ A i (by omega) hA hback
    · refine gR.sw (t := 557) rfl rfl ?_
      exact law_run hd hL τ A i (by omega) hA hback
    · refine gR.sw (t := 570) rfl rfl ?_
      exact law_fake hd hL τ A i (by omega) hA hback
    · refine gR.sw (t := 583) rfl rfl ?_
      exact law_last hd hL τ A i (by omega) hA hback
    · refine gR.sw (t := 606) rfl rfl ?_
      exact law_plant hd hL τ A i (by omega) hA hback
    · refine gR.sw (t := 629) rfl rfl ?_
      exact law_send hd hL τ A i (by omega) hA hback
    · refine gR.sw (t := 652) rfl rfl ?_
      exact law_save hd hL τ A i (by omega) hA hback
    · refine gR.sw (t := 675) rfl rfl ?_
      exact law_deal hd hL τ A i (by omega) hA hback
    · refine gR.sw (t := 698) rfl rfl ?_
      exact law_seen hd hL τ A i (by omega) hA hback
    · refine gR.sw (t := 741) rfl rfl ?_
      exact law_forget hd hL τ A i (by omega) hA hback
    · refine gR.sw (t := 754) rfl rfl ?_
      exact law_never hd hL τ A i (by omega) hA hback
    · refine gR.sw (t := 767) rfl rfl ?_
      exact law_was hd hL τ A i (by omega) hA hback
    · refine gR.sw (t := 800) rfl rfl ?_
      exact law_ask hd hL τ A i (by omega) hA hback
    · refine gR.sw (t := 823) rfl rfl ?_
      exact law_luck hd hL τ A i (by omega) hA hback
    · refine gR.sw (t := 867) rfl rfl ?_
      exact law_century hd hL τ A i (by omega) hA hback
    · refine gR.sw (t := 910) rfl rfl ?_
      exact law_sheet hd hL τ A i (by omega) hA hback
    · refine gR.sw (t := 953) rfl rfl ?_
      exact law_lose hd hL τ A i (by omega) hA hback
    · refine gR.sw (t := 976) rfl rfl ?_
      exact law_lay hd hL τ A i (by omega) hA hback
    · refine gR.sw (t := 1029) rfl rfl ?_
      exact law_get hd hL τ A i (by omega) hA hback
    · refine gR.sw (t := 1072) rfl rfl ?_
      exact law_copy hd hL τ A i (by omega) hA hback
    · refine gR.sw (t := 1135) rfl rfl ?_
      exact law_write hd hL τ A i (by omega) hA hback
    · refine gR.sw (t := 1158) rfl rfl ?_
      exact law_count hd hL τ A i (by omega) hA hback
    · refine gR.sw (t := 1181) rfl rfl ?_
      exact law_digest hd hL τ A i (by omega) hA hback
