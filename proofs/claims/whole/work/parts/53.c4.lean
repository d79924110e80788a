def cB0 (σ : gS) (n : Nat) (c : Nat → Nat) : Prop := (σ 22 3 = 10 ∧ σ 22 4 = 4 ∧ σ 22 5 = nI n ∧ n ≤ 39 ∧ ∀ i, i < n → σ 23 i = nI (c i) ∧ c i < 256)
theorem cT0_parse {σ : gS} {n : Nat} {c : Nat → Nat} (h : cB0 σ n c) : cT0 (gUp (gUp σ 22 6 (xFlt 4 (xG0 c) n)) 22 7 (nI (xNI 4 (xG0 c) n))) n c := by
  unfold cB0 at h
  refine ⟨?_, by rw [gUp_o (by omega), gUp_s], gUp_s _ _ _ _⟩
  rw [gUp_o (by omega), gUp_o (by omega), gUp_o (by omega), gUp_o (by omega), gUp_o (by omega), gUp_o (by omega), gUp_ne (by decide), gUp_ne (by decide)]
  exact h
theorem cB0_put {σ : gS} {n b : Nat} {c : Nat → Nat} {x y : Int32} (h : cB0 σ n c) (hn : n < 39) (hx : x = nI b) (hb : b < 256) (hy : y = nI (n + 1)) : cB0 (gUp (gUp σ 23 n x) 22 5 y) (n + 1) (xPut c n b) := by
  refine ⟨by rw [gUp_o (by omega), gUp_o (by omega)]; exact h.1, by rw [gUp_o (by omega), gUp_o (by omega)]; exact h.2.1, by rw [gUp_s]; exact hy, hn, fun i hi => ?_⟩
  rw [gUp_o (by omega)]
  unfold xPut
  by_cases hi2 : i = n
  · rw [if_pos hi2, hi2, gUp_s]; exact ⟨hx, hb⟩
  · rw [if_neg hi2, gUp_o (by omega)]; exact h.2.2.2.2 i (by omega)
theorem cB0_len {σ : gS} {n n' : Nat} {c : Nat → Nat} {y : Int32} (h : cB0 σ n c) (hn : n' ≤ n) (hy : y = nI n') : cB0 (gUp σ 22 5 y) n' c := by
  refine ⟨by rw [gUp_o (by omega)]; exact h.1, by rw [gUp_o (by omega)]; exact h.2.1, by rw [gUp_s]; exact hy, Nat.le_trans hn h.2.2.2.1, fun i hi => ?_⟩
  rw [gUp_o (by omega)]; exact h.2.2.2.2 i (by omega)
theorem s_X9_put0 {d : Nat} (hd : 4 ≤ d) (σ : gS) (n : Nat) (c : Nat → Nat) (b : Nat) (h : cT0 σ n c) (hb : b < 256) : gC d 38 [.ref 22, .int (nI b)] σ (fun r τ => r = some (.int (if n = 39 then -4 else nI (n + 1))) ∧ (∀ q, q ≠ 22 → q ≠ 23 → τ q = σ q) ∧ cT0 τ (if n = 39 then n else n + 1) (if n = 39 then c else xPut c n b)) := by
  obtain ⟨d, rfl⟩ : ∃ k, d = k + 1 := ⟨d - 1, by omega⟩
  refine gC.of (P := pX9_put) (nL := 2) (rt := (some (.int))) (lv := [some (.ref 22), some (.int (nI b))]) (by decide +kernel) rfl rfl rfl (by simp [gEnt, Value.category]) rfl ?_
  have hn := h.1.2.2.2.1
  refine gR.steps 2 (σ, (4, [some (.ref 22), some (.int (nI b))], [.int (σ 22 5)])) rfl ?_
  refine gR.topI (y := nI (n)) h.1.2.2.1 ?_
  refine gR.steps 3 (σ, (9, [some (.ref 22), some (.int (nI b))], [.int 39, .int (nI n)])) rfl ?_
  refine gR.ifte rfl (fun zc9 => ?_) (fun zc9 => ?_)
  · rw [gN_lt (x := nI n) (y := 39) (a := n) (b := 39) rfl rfl (by omega) (by omega)] at zc9
    refine gR.steps 4 (σ, (23, [some (.ref 22), some (.int (nI b))], [.int (σ 22 5), .ref 23])) rfl ?_
    refine gR.topI (y := nI (n)) h.1.2.2.1 ?_
    refine gR.steps 1 (σ, (24, [some (.ref 22), some (.int (nI b))], [.int (nI b), .int (nI n), .ref 23])) rfl ?_
    refine gR.ast (i := nI n) (j := n) (N := 39) (q := 23) (x := nI b) rfl rfl (by omega) (by omega) ?_
    refine gR.steps 3 (gUp σ 23 n (nI b), (30, [some (.ref 22), some (.int (nI b))], [.int (σ 22 5), .ref 22])) rfl ?_
    refine gR.topI (y := nI (n)) h.1.2.2.1 ?_
    refine gR.steps 4 (gUp (gUp σ 23 n (nI b)) 22 5 ((nI n) + 1), (36, [some (.ref 22), some (.int (nI b))], [.ref 22])) rfl ?_
    have hb2 : cB0 (gUp (gUp σ 23 n (nI b)) 22 5 ((nI n) + 1)) (n + 1) (xPut c n b) := cB0_put h.1 (by omega) rfl hb (gN_add rfl rfl)
    refine gR.call' rfl (s_X9_parse0 (by omega) (gUp (gUp σ 23 n (nI b)) 22 5 ((nI n) + 1)) (n + 1) (xPut c n b) hb2) ?_
    rintro _ _ ⟨rfl, rfl⟩ 
    show gR _ _ _ (gUp (gUp (gUp (gUp σ 23 n (nI b)) 22 5 ((nI n) + 1)) 22 6 (xFlt 4 (xG0 (xPut c n b)) (n + 1))) 22 7 (nI (xNI 4 (xG0 (xPut c n b)) (n + 1)))) (39, [some (.ref 22), some (.int (nI b))], [])
    refine gR.steps 2 (gUp (gUp (gUp (gUp σ 23 n (nI b)) 22 5 ((nI n) + 1)) 22 6 (xFlt 4 (xG0 (xPut c n b)) (n + 1))) 22 7 (nI (xNI 4 (xG0 (xPut c n b)) (n + 1))), (43, [some (.ref 22), some (.int (nI b))], [.int ((nI n) + 1)])) rfl ?_
    refine gR.topI (y := nI (n + 1)) (gN_add rfl rfl) ?_
    show gR _ _ _ (gUp (gUp (gUp (gUp σ 23 n (nI b)) 22 5 ((nI n) + 1)) 22 6 (xFlt 4 (xG0 (xPut c n b)) (n + 1))) 22 7 (nI (xNI 4 (xG0 (xPut c n b)) (n + 1)))) (43, [some (.ref 22), some (.int (nI b))], [.int (nI (n + 1))])
    refine gR.ret rfl ?_
    have hnr : ¬ n = 39 := by omega
    refine ⟨trivial, by rw [if_neg hnr], fun q a b => ?_, ?_⟩
    · rw [gUp_ne a, gUp_ne a, gUp_ne a, gUp_ne b]
    · rw [if_neg hnr, if_neg hnr]; exact cT0_parse hb2
  · rw [gN_lt (x := nI n) (y := 39) (a := n) (b := 39) rfl rfl (by omega) (by omega)] at zc9
    refine gR.steps 1 (σ, (14, [some (.ref 22), some (.int (nI b))], [.int (-4)])) rfl ?_
    refine gR.ret rfl ?_
    have hnr : n = 39 := by omega
    exact ⟨trivial, by rw [if_pos hnr], fun _ _ _ => rfl, by rw [if_pos hnr, if_pos hnr]; exact h⟩
theorem s_X9_clear0 {d : Nat} (hd : 4 ≤ d) (σ : gS) (n : Nat) (c : Nat → Nat) (h : cT0 σ n c) : gC d 39 [.ref 22] σ (fun r τ => r = some (.int (nI n)) ∧ (∀ q, q ≠ 22 → q ≠ 23 → τ q = σ q) ∧ cT0 τ 0 c) := by
  obtain ⟨d, rfl⟩ : ∃ k, d = k + 1 := ⟨d - 1, by omega⟩
  refine gC.of (P := pX9_clear) (nL := 2) (rt := (some (.int))) (lv := [some (.ref 22), none]) (by decide +kernel) rfl rfl rfl (by simp [gEnt, Value.category]) rfl ?_
  refine gR.steps 2 (σ, (4, [some (.ref 22), none], [.int (σ 22 5)])) rfl ?_
  refine gR.topI (y := nI (n)) h.1.2.2.1 ?_
  refine gR.steps 5 (gUp σ 22 5 0, (11, [some (.ref 22), some (.int (nI n))], [.ref 22])) rfl ?_
  have hb2 : cB0 (gUp σ 22 5 0) (0) c := cB0_len h.1 (Nat.zero_le n) rfl
  refine gR.call' rfl (s_X9_parse0 (by omega) (gUp σ 22 5 0) (0) c hb2) ?_
  rintro _ _ ⟨rfl, rfl⟩ 
  show gR _ _ _ (gUp (gUp (gUp σ 22 5 0) 22 6 (xFlt 4 (xG0 c) (0))) 22 7 (nI (xNI 4 (xG0 c) (0)))) (14, [some (.ref 22), some (.int (nI n))], [])
  refine gR.steps 1 (gUp (gUp (gUp σ 22 5 0) 22 6 (xFlt 4 (xG0 c) (0))) 22 7 (nI (xNI 4 (xG0 c) (0))), (15, [some (.ref 22), some (.int (nI n))], [.int (nI n)])) rfl ?_
  show gR _ _ _ (gUp (gUp (gUp σ 22 5 0) 22 6 (xFlt 4 (xG0 c) (0))) 22 7 (nI (xNI 4 (xG0 c) (0)))) (15, [some (.ref 22), some (.int (nI n))], [.int (nI n)])
  refine gR.ret rfl ?_
  exact ⟨trivial, rfl, fun q a b => by rw [gUp_ne a, gUp_ne a, gUp_ne a], cT0_parse hb2⟩
theorem s_X9_drop0 {d : Nat} (hd : 4 ≤ d) (σ : gS) (n : Nat) (c : Nat → Nat) (h : cT0 σ n c) : gC d 40 [.ref 22] σ (fun r τ => r = some (.int (if n = 0 then -3 else nI (n - 1))) ∧ (∀ q, q ≠ 22 → q ≠ 23 → τ q = σ q) ∧ cT0 τ (n - 1) c) := by
  obtain ⟨d, rfl⟩ : ∃ k, d = k + 1 := ⟨d - 1, by omega⟩
  refine gC.of (P := pX9_drop) (nL := 1) (rt := (some (.int))) (lv := [some (.ref 22)]) (by decide +kernel) rfl rfl rfl (by simp [gEnt, Value.category]) rfl ?_
  have hn := h.1.2.2.2.1
  refine gR.steps 2 (σ, (4, [some (.ref 22)], [.int (σ 22 5)])) rfl ?_
  refine gR.topI (y := nI (n)) h.1.2.2.1 ?_
  refine gR.ifte rfl (fun zc4 => ?_) (fun zc4 => ?_)
  · rw [gN_eq (x := nI n) (y := 0) (a := n) (b := 0) rfl rfl (by omega) (by omega)] at zc4
    refine gR.steps 3 (σ, (15, [some (.ref 22)], [.int (σ 22 5), .ref 22])) rfl ?_
    refine gR.topI (y := nI (n)) h.1.2.2.1 ?_
    refine gR.steps 4 (gUp σ 22 5 ((nI n) - 1), (21, [some (.ref 22)], [.ref 22])) rfl ?_
    have hb2 : cB0 (gUp σ 22 5 ((nI n) - 1)) (n - 1) c := cB0_len h.1 (by omega) (gN_sub rfl rfl (by omega))
    refine gR.call' rfl (s_X9_parse0 (by omega) (gUp σ 22 5 ((nI n) - 1)) (n - 1) c hb2) ?_
    rintro _ _ ⟨rfl, rfl⟩ 
    show gR _ _ _ (gUp (gUp (gUp σ 22 5 ((nI n) - 1)) 22 6 (xFlt 4 (xG0 c) (n - 1))) 22 7 (nI (xNI 4 (xG0 c) (n - 1)))) (24, [some (.ref 22)], [])
    refine gR.steps 2 (gUp (gUp (gUp σ 22 5 ((nI n) - 1)) 22 6 (xFlt 4 (xG0 c) (n - 1))) 22 7 (nI (xNI 4 (xG0 c) (n - 1))), (28, [some (.ref 22)], [.int ((nI n) - 1)])) rfl ?_
    show gR _ _ _ (gUp (gUp (gUp σ 22 5 ((nI n) - 1)) 22 6 (xFlt 4 (xG0 c) (n - 1))) 22 7 (nI (xNI 4 (xG0 c) (n - 1)))) (28, [some (.ref 22)], [.int ((nI n) - 1)])
    refine gR.ret rfl ?_
    have hn0 : ¬ n = 0 := by omega
    exact ⟨trivial, by rw [if_neg hn0]; exact gSomeI (gN_sub rfl rfl (by omega)), fun q a b => by rw [gUp_ne a, gUp_ne a, gUp_ne a], cT0_parse hb2⟩
  · rw [gN_eq (x := nI n) (y := 0) (a := n) (b := 0) rfl rfl (by omega) (by omega)] at zc4
    refine gR.steps 1 (σ, (9, [some (.ref 22)], [.int (-3)])) rfl ?_
    refine gR.ret rfl ?_
    have hn0 : n = 0 := by omega
    exact ⟨trivial, by rw [if_pos hn0], fun _ _ _ => rfl, by rw [show n - 1 = n by omega]; exact h⟩
theorem s_X10_textOf0 {d : Nat} (hd : 1 ≤ d) (σ : gS) : gC d 103 [.ref 18, .int 0] σ (fun r τ => r = some (.ref 22) ∧ τ = σ) := by
  obtain ⟨d, rfl⟩ : ∃ k, d = k + 1 := ⟨d - 1, by omega⟩
  refine gC.of (P := pX10_textOf) (nL := 2) (rt := (some (.object "GorseGold$Text"))) (lv := [some (.ref 18), some (.int 0)]) (by decide +kernel) rfl rfl rfl (by simp [gEnt, Value.category]) rfl ?_
  refine gR.steps 1 (σ, (1, [some (.ref 18), some (.int 0)], [.int 0])) rfl ?_
  refine gR.brF rfl (by decide) ?_
  refine gR.steps 4 (σ, (21, [some (.ref 18), some (.int 0)], [.ref 22])) rfl ?_
  refine gR.ret rfl ?_
  exact ⟨trivial, rfl, rfl⟩
def cB1 (σ : gS) (n : Nat) (c : Nat → Nat) : Prop := (σ 25 3 = 12 ∧ σ 25 4 = 3 ∧ σ 25 5 = nI n ∧ n ≤ 35 ∧ ∀ i, i < n → σ 26 i = nI (c i) ∧ c i < 256)
theorem cT1_parse {σ : gS} {n : Nat} {c : Nat → Nat} (h : cB1 σ n c) : cT1 (gUp (gUp σ 25 6 (xFlt 3 (xG1 c) n)) 25 7 (nI (xNI 3 (xG1 c) n))) n c := by
  unfold cB1 at h
  refine ⟨?_, by rw [gUp_o (by omega), gUp_s], gUp_s _ _ _ _⟩
  rw [gUp_o (by omega), gUp_o (by omega), gUp_o (by omega), gUp_o (by omega), gUp_o (by omega), gUp_o (by omega), gUp_ne (by decide), gUp_ne (by decide)]
  exact h
theorem cB1_put {σ : gS} {n b : Nat} {c : Nat → Nat} {x y : Int32} (h : cB1 σ n c) (hn : n < 35) (hx : x = nI b) (hb : b < 256) (hy : y = nI (n + 1)) : cB1 (gUp (gUp σ 26 n x) 25 5 y) (n + 1) (xPut c n b) := by
  refine ⟨by rw [gUp_o (by omega), gUp_o (by omega)]; exact h.1, by rw [gUp_o (by omega), gUp_o (by omega)]; exact h.2.1, by rw [gUp_s]; exact hy, hn, fun i hi => ?_⟩
  rw [gUp_o (by omega)]
  unfold xPut
  by_cases hi2 : i = n
  · rw [if_pos hi2, hi2, gUp_s]; exact ⟨hx, hb⟩
  · rw [if_neg hi2, gUp_o (by omega)]; exact h.2.2.2.2 i (by omega)
theorem cB1_len {σ : gS} {n n' : Nat} {c : Nat → Nat} {y : Int32} (h : cB1 σ n c) (hn : n' ≤ n) (hy : y = nI n') : cB1 (gUp σ 25 5 y) n' c := by
  refine ⟨by rw [gUp_o (by omega)]; exact h.1, by rw [gUp_o (by omega)]; exact h.2.1, by rw [gUp_s]; exact hy, Nat.le_trans hn h.2.2.2.1, fun i hi => ?_⟩
  rw [gUp_o (by omega)]; exact h.2.2.2.2 i (by omega)
theorem s_X9_put1 {d : Nat} (hd : 4 ≤ d) (σ : gS) (n : Nat) (c : Nat → Nat) (b : Nat) (h : cT1 σ n c) (hb : b < 256) : gC d 38 [.ref 25, .int (nI b)] σ (fun r τ => r = some (.int (if n = 35 then -4 else nI (n + 1))) ∧ (∀ q, q ≠ 25 → q ≠ 26 → τ q = σ q) ∧ cT1 τ (if n = 35 then n else n + 1) (if n = 35 then c else xPut c n b)) := by
  obtain ⟨d, rfl⟩ : ∃ k, d = k + 1 := ⟨d - 1, by omega⟩
  refine gC.of (P := pX9_put) (nL := 2) (rt := (some (.int))) (lv := [some (.ref 25), some (.int (nI b))]) (by decide +kernel) rfl rfl rfl (by simp [gEnt, Value.category]) rfl ?_
  have hn := h.1.2.2.2.1
  refine gR.steps 2 (σ, (4, [some (.ref 25), some (.int (nI b))], [.int (σ 25 5)])) rfl ?_
  refine gR.topI (y := nI (n)) h.1.2.2.1 ?_
  refine gR.steps 3 (σ, (9, [some (.ref 25), some (.int (nI b))], [.int 35, .int (nI n)])) rfl ?_
  refine gR.ifte rfl (fun zc9 => ?_) (fun zc9 => ?_)
  · rw [gN_lt (x := nI n) (y := 35) (a := n) (b := 35) rfl rfl (by omega) (by omega)] at zc9
    refine gR.steps 4 (σ, (23, [some (.ref 25), some (.int (nI b))], [.int (σ 25 5), .ref 26])) rfl ?_
    refine gR.topI (y := nI (n)) h.1.2.2.1 ?_
    refine gR.steps 1 (σ, (24, [some (.ref 25), some (.int (nI b))], [.int (nI b), .int (nI n), .ref 26])) rfl ?_
    refine gR.ast (i := nI n) (j := n) (N := 35) (q := 26) (x := nI b) rfl rfl (by omega) (by omega) ?_
    refine gR.steps 3 (gUp σ 26 n (nI b), (30, [some (.ref 25), some (.int (nI b))], [.int (σ 25 5), .ref 25])) rfl ?_
    refine gR.topI (y := nI (n)) h.1.2.2.1 ?_
    refine gR.steps 4 (gUp (gUp σ 26 n (nI b)) 25 5 ((nI n) + 1), (36, [some (.ref 25), some (.int (nI b))], [.ref 25])) rfl ?_
    have hb2 : cB1 (gUp (gUp σ 26 n (nI b)) 25 5 ((nI n) + 1)) (n + 1) (xPut c n b) := cB1_put h.1 (by omega) rfl hb (gN_add rfl rfl)
    refine gR.call' rfl (s_X9_parse1 (by omega) (gUp (gUp σ 26 n (nI b)) 25 5 ((nI n) + 1)) (n + 1) (xPut c n b) hb2) ?_
    rintro _ _ ⟨rfl, rfl⟩ 
    show gR _ _ _ (gUp (gUp (gUp (gUp σ 26 n (nI b)) 25 5 ((nI n) + 1)) 25 6 (xFlt 3 (xG1 (xPut c n b)) (n + 1))) 25 7 (nI (xNI 3 (xG1 (xPut c n b)) (n + 1)))) (39, [some (.ref 25), some (.int (nI b))], [])
    refine gR.steps 2 (gUp (gUp (gUp (gUp σ 26 n (nI b)) 25 5 ((nI n) + 1)) 25 6 (xFlt 3 (xG1 (xPut c n b)) (n + 1))) 25 7 (nI (xNI 3 (xG1 (xPut c n b)) (n + 1))), (43, [some (.ref 25), some (.int (nI b))], [.int ((nI n) + 1)])) rfl ?_
    refine gR.topI (y := nI (n + 1)) (gN_add rfl rfl) ?_
    show gR _ _ _ (gUp (gUp (gUp (gUp σ 26 n (nI b)) 25 5 ((nI n) + 1)) 25 6 (xFlt 3 (xG1 (xPut c n b)) (n + 1))) 25 7 (nI (xNI 3 (xG1 (xPut c n b)) (n + 1)))) (43, [some (.ref 25), some (.int (nI b))], [.int (nI (n + 1))])
    refine gR.ret rfl ?_
    have hnr : ¬ n = 35 := by omega
    refine ⟨trivial, by rw [if_neg hnr], fun q a b => ?_, ?_⟩
    · rw [gUp_ne a, gUp_ne a, gUp_ne a, gUp_ne b]
    · rw [if_neg hnr, if_neg hnr]; exact cT1_parse hb2
  · rw [gN_lt (x := nI n) (y := 35) (a := n) (b := 35) rfl rfl (by omega) (by omega)] at zc9
    refine gR.steps 1 (σ, (14, [some (.ref 25), some (.int (nI b))], [.int (-4)])) rfl ?_
    refine gR.ret rfl ?_
    have hnr : n = 35 := by omega
    exact ⟨trivial, by rw [if_pos hnr], fun _ _ _ => rfl, by rw [if_pos hnr, if_pos hnr]; exact h⟩
theorem s_X9_clear1 {d : Nat} (hd : 4 ≤ d) (σ : gS) (n : Nat) (c : Nat → Nat) (h : cT1 σ n c) : gC d 39 [.ref 25] σ (fun r τ => r = some (.int (nI n)) ∧ (∀ q, q ≠ 25 → q ≠ 26 → τ q = σ q) ∧ cT1 τ 0 c) := by
  obtain ⟨d, rfl⟩ : ∃ k, d = k + 1 := ⟨d - 1, by omega⟩
  refine gC.of (P := pX9_clear) (nL := 2) (rt := (some (.int))) (lv := [some (.ref 25), none]) (by decide +kernel) rfl rfl rfl (by simp [gEnt, Value.category]) rfl ?_
  refine gR.steps 2 (σ, (4, [some (.ref 25), none], [.int (σ 25 5)])) rfl ?_
  refine gR.topI (y := nI (n)) h.1.2.2.1 ?_
  refine gR.steps 5 (gUp σ 25 5 0, (11, [some (.ref 25), some (.int (nI n))], [.ref 25])) rfl ?_
  have hb2 : cB1 (gUp σ 25 5 0) (0) c := cB1_len h.1 (Nat.zero_le n) rfl
  refine gR.call' rfl (s_X9_parse1 (by omega) (gUp σ 25 5 0) (0) c hb2) ?_
  rintro _ _ ⟨rfl, rfl⟩ 
  show gR _ _ _ (gUp (gUp (gUp σ 25 5 0) 25 6 (xFlt 3 (xG1 c) (0))) 25 7 (nI (xNI 3 (xG1 c) (0)))) (14, [some (.ref 25), some (.int (nI n))], [])
  refine gR.steps 1 (gUp (gUp (gUp σ 25 5 0) 25 6 (xFlt 3 (xG1 c) (0))) 25 7 (nI (xNI 3 (xG1 c) (0))), (15, [some (.ref 25), some (.int (nI n))], [.int (nI n)])) rfl ?_
  show gR _ _ _ (gUp (gUp (gUp σ 25 5 0) 25 6 (xFlt 3 (xG1 c) (0))) 25 7 (nI (xNI 3 (xG1 c) (0)))) (15, [some (.ref 25), some (.int (nI n))], [.int (nI n)])
  refine gR.ret rfl ?_
  exact ⟨trivial, rfl, fun q a b => by rw [gUp_ne a, gUp_ne a, gUp_ne a], cT1_parse hb2⟩
theorem s_X9_drop1 {d : Nat} (hd : 4 ≤ d) (σ : gS) (n : Nat) (c : Nat → Nat) (h : cT1 σ n c) : gC d 40 [.ref 25] σ (fun r τ => r = some (.int (if n = 0 then -3 else nI (n - 1))) ∧ (∀ q, q ≠ 25 → q ≠ 26 → τ q = σ q) ∧ cT1 τ (n - 1) c) := by
  obtain ⟨d, rfl⟩ : ∃ k, d = k + 1 := ⟨d - 1, by omega⟩
  refine gC.of (P := pX9_drop) (nL := 1) (rt := (some (.int))) (lv := [some (.ref 25)]) (by decide +kernel) rfl rfl rfl (by simp [gEnt, Value.category]) rfl ?_
  have hn := h.1.2.2.2.1
  refine gR.steps 2 (σ, (4, [some (.ref 25)], [.int (σ 25 5)])) rfl ?_
  refine gR.topI (y := nI (n)) h.1.2.2.1 ?_
  refine gR.ifte rfl (fun zc4 => ?_) (fun zc4 => ?_)
  · rw [gN_eq (x := nI n) (y := 0) (a := n) (b := 0) rfl rfl (by omega) (by omega)] at zc4
    refine gR.steps 3 (σ, (15, [some (.ref 25)], [.int (σ 25 5), .ref 25])) rfl ?_
    refine gR.topI (y := nI (n)) h.1.2.2.1 ?_
    refine gR.steps 4 (gUp σ 25 5 ((nI n) - 1), (21, [some (.ref 25)], [.ref 25])) rfl ?_
    have hb2 : cB1 (gUp σ 25 5 ((nI n) - 1)) (n - 1) c := cB1_len h.1 (by omega) (gN_sub rfl rfl (by omega))
    refine gR.call' rfl (s_X9_parse1 (by omega) (gUp σ 25 5 ((nI n) - 1)) (n - 1) c hb2) ?_
    rintro _ _ ⟨rfl, rfl⟩ 
    show gR _ _ _ (gUp (gUp (gUp σ 25 5 ((nI n) - 1)) 25 6 (xFlt 3 (xG1 c) (n - 1))) 25 7 (nI (xNI 3 (xG1 c) (n - 1)))) (24, [some (.ref 25)], [])
    refine gR.steps 2 (gUp (gUp (gUp σ 25 5 ((nI n) - 1)) 25 6 (xFlt 3 (xG1 c) (n - 1))) 25 7 (nI (xNI 3 (xG1 c) (n - 1))), (28, [some (.ref 25)], [.int ((nI n) - 1)])) rfl ?_
    show gR _ _ _ (gUp (gUp (gUp σ 25 5 ((nI n) - 1)) 25 6 (xFlt 3 (xG1 c) (n - 1))) 25 7 (nI (xNI 3 (xG1 c) (n - 1)))) (28, [some (.ref 25)], [.int ((nI n) - 1)])
    refine gR.ret rfl ?_
    have hn0 : ¬ n = 0 := by omega
    exact ⟨trivial, by rw [if_neg hn0]; exact gSomeI (gN_sub rfl rfl (by omega)), fun q a b => by rw [gUp_ne a, gUp_ne a, gUp_ne a], cT1_parse hb2⟩
  · rw [gN_eq (x := nI n) (y := 0) (a := n) (b := 0) rfl rfl (by omega) (by omega)] at zc4
    refine gR.steps 1 (σ, (9, [some (.ref 25)], [.int (-3)])) rfl ?_
    refine gR.ret rfl ?_
    have hn0 : n = 0 := by omega
    exact ⟨trivial, by rw [if_pos hn0], fun _ _ _ => rfl, by rw [show n - 1 = n by omega]; exact h⟩
theorem s_X10_textOf1 {d : Nat} (hd : 1 ≤ d) (σ : gS) : gC d 103 [.ref 18, .int 1] σ (fun r τ => r = some (.ref 25) ∧ τ = σ) := by
  obtain ⟨d, rfl⟩ : ∃ k, d = k + 1 := ⟨d - 1, by omega⟩
  refine gC.of (P := pX10_textOf) (nL := 2) (rt := (some (.object "GorseGold$Text"))) (lv := [some (.ref 18), some (.int 1)]) (by decide +kernel) rfl rfl rfl (by simp [gEnt, Value.category]) rfl ?_
  refine gR.steps 1 (σ, (1, [some (.ref 18), some (.int 1)], [.int 1])) rfl ?_
  refine gR.brT rfl (by decide) ?_
  refine gR.steps 3 (σ, (21, [some (.ref 18), some (.int 1)], [.ref 25])) rfl ?_
  refine gR.ret rfl ?_
  exact ⟨trivial, rfl, rfl⟩
theorem cSt_t0 {σ τ : gS} {D : xDat} {n : Nat} {c : Nat → Nat} (h : cSt σ D) (hF : ∀ q, q ≠ 22 → q ≠ 23 → τ q = σ q) (hT : cT0 τ n c) : cSt τ (dSet0 D n c) := by
  refine ⟨hT, ?_⟩
  have h2 := h.2
  unfold cT1 cEv at *
  rw [hF 25 (by decide) (by decide), hF 26 (by decide) (by decide), hF 27 (by decide) (by decide), hF (27 + 1) (by decide) (by decide), hF (27 + 2) (by decide) (by decide), hF (27 + 3) (by decide) (by decide), hF 19 (by decide) (by decide)]
  exact h2
theorem cSt_t1 {σ τ : gS} {D : xDat} {n : Nat} {c : Nat → Nat} (h : cSt σ D) (hF : ∀ q, q ≠ 25 → q ≠ 26 → τ q = σ q) (hT : cT1 τ n c) : cSt τ (dSet1 D n c) := by
  have h2 := h.2.2
  refine ⟨?_, hT, ?_⟩
  · have h1 := h.1
    unfold cT0 at *
    rw [hF 22 (by decide) (by decide), hF 23 (by decide) (by decide)]
    exact h1
  · unfold cEv at *
    rw [hF 27 (by decide) (by decide), hF (27 + 1) (by decide) (by decide), hF (27 + 2) (by decide) (by decide), hF (27 + 3) (by decide) (by decide), hF 19 (by decide) (by decide)]
    exact h2
def cTxF (σ τ : gS) : Prop := ∀ q, q ≠ 22 → q ≠ 23 → q ≠ 25 → q ≠ 26 → τ q = σ q
theorem cTxF.rf (σ : gS) : cTxF σ σ := fun _ _ _ _ _ => rfl
theorem dSet0_id (D : xDat) : dSet0 D (dN0 D) (dC0 D) = D := rfl
theorem dSet1_id (D : xDat) : dSet1 D (dN1 D) (dC1 D) = D := rfl
theorem s_X10_type0 {d : Nat} (hd : 5 ≤ d) (σ : gS) (D : xDat) (b : Int32) (hs : cSt σ D) : gC d 44 [.ref 18, .int 0, .int b] σ (fun r τ => r = some (.int (aType D 0 b)) ∧ cTxF σ τ ∧ cSt τ (sType D 0 b)) := by
  obtain ⟨d, rfl⟩ : ∃ k, d = k + 1 := ⟨d - 1, by omega⟩
  refine gC.of (P := pX10_type) (nL := 3) (rt := (some (.int))) (lv := [some (.ref 18), some (.int 0), some (.int b)]) (by decide +kernel) rfl rfl rfl (by simp [gEnt, Value.category]) rfl ?_
  refine gR.steps 1 (σ, (1, [some (.ref 18), some (.int 0), some (.int b)], [.int 0])) rfl ?_
  refine gR.callp rfl (s_X10_isText (by omega) σ 0) ?_
  refine gR.brF rfl (by rw [bI_eq0]; exact Decidable.not_not.mpr (by decide)) ?_
  refine gR.steps 3 (σ, (12, [some (.ref 18), some (.int 0), some (.int b)], [.int 255, .int 0, .int b])) rfl ?_
  refine gR.callp rfl (s_X10_withinI (by omega) σ b 0 255 0 255 (by decide) (by decide)) ?_
  refine gR.ifte rfl (fun zc15 => ?_) (fun zc15 => ?_)
  · rw [bI_ne0] at zc15
    obtain ⟨bb, hbb, rfl⟩ := gN_of (x := b) (n := 256) (by omega) (by omega) (by omega)
    refine gR.steps 2 (σ, (23, [some (.ref 18), some (.int 0), some (.int (nI bb))], [.int 0, .ref 18])) rfl ?_
    refine gR.callp (x := .ref 22) rfl (s_X10_textOf0 (by omega) σ) ?_
    refine gR.steps 1 (σ, (27, [some (.ref 18), some (.int 0), some (.int (nI bb))], [.int (nI bb), .ref 22])) rfl ?_
    refine gR.call' rfl (s_X9_put0 (by omega) σ (dN0 D) (dC0 D) bb hs.1 hbb) ?_
    rintro _ τ ⟨rfl, hF, hT⟩
    show gR _ _ _ τ (30, [some (.ref 18), some (.int 0), some (.int (nI bb))], [.int (if dN0 D = 39 then -4 else nI (dN0 D + 1))])
    refine gR.ret rfl ?_
    refine ⟨trivial, ?_, fun q a b c e => hF q a b, ?_⟩
    · rw [show aType D 0 (nI bb) = _ from if_pos ⟨by decide, zc15⟩, if_pos rfl]
    · rw [show sType D 0 (nI bb) = _ from if_pos ⟨by decide, zc15⟩, if_pos rfl, nI_clamp (by omega)]
      show cSt τ _
      by_cases hnr : dN0 D = 39
      · rw [if_pos hnr]; rw [if_pos hnr, if_pos hnr] at hT; exact cSt_t0 hs hF hT
      · rw [if_neg hnr]; rw [if_neg hnr, if_neg hnr] at hT; exact cSt_t0 hs hF hT
  · rw [bI_ne0] at zc15
    refine gR.steps 1 (σ, (20, [some (.ref 18), some (.int 0), some (.int b)], [.int (-2)])) rfl ?_
    refine gR.ret rfl ?_
    exact ⟨trivial, by rw [show aType D 0 b = -2 from if_neg (fun z => zc15 z.2)], cTxF.rf σ, by rw [show sType D 0 b = D from if_neg (fun z => zc15 z.2)]; exact hs⟩
theorem s_X10_wipe0 {d : Nat} (hd : 5 ≤ d) (σ : gS) (D : xDat) (hs : cSt σ D) : gC d 45 [.ref 18, .int 0] σ (fun r τ => r = some (.int (aWipe D 0)) ∧ cTxF σ τ ∧ cSt τ (sWipe D 0)) := by
  obtain ⟨d, rfl⟩ : ∃ k, d = k + 1 := ⟨d - 1, by omega⟩
  refine gC.of (P := pX10_wipe) (nL := 2) (rt := (some (.int))) (lv := [some (.ref 18), some (.int 0)]) (by decide +kernel) rfl rfl rfl (by simp [gEnt, Value.category]) rfl ?_
  refine gR.steps 1 (σ, (1, [some (.ref 18), some (.int 0)], [.int 0])) rfl ?_
  refine gR.callp rfl (s_X10_isText (by omega) σ 0) ?_
  refine gR.brF rfl (by rw [bI_eq0]; exact Decidable.not_not.mpr (by decide)) ?_
  refine gR.steps 2 (σ, (9, [some (.ref 18), some (.int 0)], [.int 0, .ref 18])) rfl ?_
  refine gR.callp (x := .ref 22) rfl (s_X10_textOf0 (by omega) σ) ?_
  refine gR.call' rfl (s_X9_clear0 (by omega) σ (dN0 D) (dC0 D) hs.1) ?_
  rintro _ τ ⟨rfl, hF, hT⟩
  show gR _ _ _ τ (15, [some (.ref 18), some (.int 0)], [.int (nI (dN0 D))])
  refine gR.steps 1 (τ, (20, [some (.ref 18), some (.int 0)], [.int (nI (dN0 D))])) rfl ?_
  refine gR.ret rfl ?_
  refine ⟨trivial, ?_, fun q a b c e => hF q a b, ?_⟩
  · rw [show aWipe D 0 = _ from if_pos (by decide), if_pos rfl]
  · rw [show sWipe D 0 = _ from if_pos (by decide), if_pos rfl]; exact cSt_t0 hs hF hT
theorem s_X10_undo0 {d : Nat} (hd : 5 ≤ d) (σ : gS) (D : xDat) (hs : cSt σ D) : gC d 46 [.ref 18, .int 0] σ (fun r τ => r = some (.int (aUndo D 0)) ∧ cTxF σ τ ∧ cSt τ (sUndo D 0)) := by
  obtain ⟨d, rfl⟩ : ∃ k, d = k + 1 := ⟨d - 1, by omega⟩
  refine gC.of (P := pX10_undo) (nL := 2) (rt := (some (.int))) (lv := [some (.ref 18), some (.int 0)]) (by decide +kernel) rfl rfl rfl (by simp [gEnt, Value.category]) rfl ?_
  refine gR.steps 1 (σ, (1, [some (.ref 18), some (.int 0)], [.int 0])) rfl ?_
  refine gR.callp rfl (s_X10_isText (by omega) σ 0) ?_
  refine gR.brF rfl (by rw [bI_eq0]; exact Decidable.not_not.mpr (by decide)) ?_
  refine gR.steps 2 (σ, (9, [some (.ref 18), some (.int 0)], [.int 0, .ref 18])) rfl ?_
  refine gR.callp (x := .ref 22) rfl (s_X10_textOf0 (by omega) σ) ?_
  refine gR.call' rfl (s_X9_drop0 (by omega) σ (dN0 D) (dC0 D) hs.1) ?_
  rintro _ τ ⟨rfl, hF, hT⟩
  show gR _ _ _ τ (15, [some (.ref 18), some (.int 0)], [.int (if dN0 D = 0 then -3 else nI (dN0 D - 1))])
  refine gR.steps 1 (τ, (20, [some (.ref 18), some (.int 0)], [.int (if dN0 D = 0 then -3 else nI (dN0 D - 1))])) rfl ?_
  refine gR.ret rfl ?_
  refine ⟨trivial, ?_, fun q a b c e => hF q a b, ?_⟩
  · rw [show aUndo D 0 = _ from if_pos (by decide), if_pos rfl]
  · rw [show sUndo D 0 = _ from if_pos (by decide), if_pos rfl]
    show cSt τ _
    by_cases hn0 : dN0 D = 0
    · rw [if_pos hn0]; rw [show dN0 D - 1 = dN0 D by omega] at hT; exact cSt_t0 hs hF hT
    · rw [if_neg hn0]; exact cSt_t0 hs hF hT
theorem s_X10_fault0 {d : Nat} (hd : 3 ≤ d) (σ : gS) (D : xDat) (hs : cSt σ D) : gC d 47 [.ref 18, .int 0] σ (fun r τ => r = some (.int (aFault D 0)) ∧ τ = σ) := by
  obtain ⟨d, rfl⟩ : ∃ k, d = k + 1 := ⟨d - 1, by omega⟩
  refine gC.of (P := pX10_fault) (nL := 2) (rt := (some (.int))) (lv := [some (.ref 18), some (.int 0)]) (by decide +kernel) rfl rfl rfl (by simp [gEnt, Value.category]) rfl ?_
  refine gR.steps 1 (σ, (1, [some (.ref 18), some (.int 0)], [.int 0])) rfl ?_
  refine gR.callp rfl (s_X10_isText (by omega) σ 0) ?_
  refine gR.brF rfl (by rw [bI_eq0]; exact Decidable.not_not.mpr (by decide)) ?_
  refine gR.steps 2 (σ, (9, [some (.ref 18), some (.int 0)], [.int 0, .ref 18])) rfl ?_
  refine gR.callp (x := .ref 22) rfl (s_X10_textOf0 (by omega) σ) ?_
  refine gR.steps 2 (σ, (20, [some (.ref 18), some (.int 0)], [.int (σ 22 6)])) rfl ?_
  refine gR.ret rfl ?_
  exact ⟨trivial, gSomeI (by rw [show aFault D 0 = _ from if_pos (by decide), if_pos rfl]; exact hs.1.2.1), rfl⟩
theorem s_X10_type1 {d : Nat} (hd : 5 ≤ d) (σ : gS) (D : xDat) (b : Int32) (hs : cSt σ D) : gC d 44 [.ref 18, .int 1, .int b] σ (fun r τ => r = some (.int (aType D 1 b)) ∧ cTxF σ τ ∧ cSt τ (sType D 1 b)) := by
  obtain ⟨d, rfl⟩ : ∃ k, d = k + 1 := ⟨d - 1, by omega⟩
  refine gC.of (P := pX10_type) (nL := 3) (rt := (some (.int))) (lv := [some (.ref 18), some (.int 1), some (.int b)]) (by decide +kernel) rfl rfl rfl (by simp [gEnt, Value.category]) rfl ?_
  refine gR.steps 1 (σ, (1, [some (.ref 18), some (.int 1), some (.int b)], [.int 1])) rfl ?_
  refine gR.callp rfl (s_X10_isText (by omega) σ 1) ?_
  refine gR.brF rfl (by rw [bI_eq0]; exact Decidable.not_not.mpr (by decide)) ?_
  refine gR.steps 3 (σ, (12, [some (.ref 18), some (.int 1), some (.int b)], [.int 255, .int 0, .int b])) rfl ?_
  refine gR.callp rfl (s_X10_withinI (by omega) σ b 0 255 0 255 (by decide) (by decide)) ?_
  refine gR.ifte rfl (fun zc15 => ?_) (fun zc15 => ?_)
  · rw [bI_ne0] at zc15
    obtain ⟨bb, hbb, rfl⟩ := gN_of (x := b) (n := 256) (by omega) (by omega) (by omega)
    refine gR.steps 2 (σ, (23, [some (.ref 18), some (.int 1), some (.int (nI bb))], [.int 1, .ref 18])) rfl ?_
    refine gR.callp (x := .ref 25) rfl (s_X10_textOf1 (by omega) σ) ?_
    refine gR.steps 1 (σ, (27, [some (.ref 18), some (.int 1), some (.int (nI bb))], [.int (nI bb), .ref 25])) rfl ?_
    refine gR.call' rfl (s_X9_put1 (by omega) σ (dN1 D) (dC1 D) bb hs.2.1 hbb) ?_
    rintro _ τ ⟨rfl, hF, hT⟩
    show gR _ _ _ τ (30, [some (.ref 18), some (.int 1), some (.int (nI bb))], [.int (if dN1 D = 35 then -4 else nI (dN1 D + 1))])
    refine gR.ret rfl ?_
    refine ⟨trivial, ?_, fun q a b c e => hF q c e, ?_⟩
    · rw [show aType D 1 (nI bb) = _ from if_pos ⟨by decide, zc15⟩, if_neg (show ¬ (1 : Int32) = 0 by decide)]
    · rw [show sType D 1 (nI bb) = _ from if_pos ⟨by decide, zc15⟩, if_neg (show ¬ (1 : Int32) = 0 by decide), nI_clamp (by omega)]
      show cSt τ _
      by_cases hnr : dN1 D = 35
      · rw [if_pos hnr]; rw [if_pos hnr, if_pos hnr] at hT; exact cSt_t1 hs hF hT
      · rw [if_neg hnr]; rw [if_neg hnr, if_neg hnr] at hT; exact cSt_t1 hs hF hT
  · rw [bI_ne0] at zc15
    refine gR.steps 1 (σ, (20, [some (.ref 18), some (.int 1), some (.int b)], [.int (-2)])) rfl ?_
    refine gR.ret rfl ?_
    exact ⟨trivial, by rw [show aType D 1 b = -2 from if_neg (fun z => zc15 z.2)], cTxF.rf σ, by rw [show sType D 1 b = D from if_neg (fun z => zc15 z.2)]; exact hs⟩
theorem s_X10_wipe1 {d : Nat} (hd : 5 ≤ d) (σ : gS) (D : xDat) (hs : cSt σ D) : gC d 45 [.ref 18, .int 1] σ (fun r τ => r = some (.int (aWipe D 1)) ∧ cTxF σ τ ∧ cSt τ (sWipe D 1)) := by
  obtain ⟨d, rfl⟩ : ∃ k, d = k + 1 := ⟨d - 1, by omega⟩
  refine gC.of (P := pX10_wipe) (nL := 2) (rt := (some (.int))) (lv := [some (.ref 18), some (.int 1)]) (by decide +kernel) rfl rfl rfl (by simp [gEnt, Value.category]) rfl ?_
  refine gR.steps 1 (σ, (1, [some (.ref 18), some (.int 1)], [.int 1])) rfl ?_
  refine gR.callp rfl (s_X10_isText (by omega) σ 1) ?_
  refine gR.brF rfl (by rw [bI_eq0]; exact Decidable.not_not.mpr (by decide)) ?_
  refine gR.steps 2 (σ, (9, [some (.ref 18), some (.int 1)], [.int 1, .ref 18])) rfl ?_
  refine gR.callp (x := .ref 25) rfl (s_X10_textOf1 (by omega) σ) ?_
  refine gR.call' rfl (s_X9_clear1 (by omega) σ (dN1 D) (dC1 D) hs.2.1) ?_
  rintro _ τ ⟨rfl, hF, hT⟩
  show gR _ _ _ τ (15, [some (.ref 18), some (.int 1)], [.int (nI (dN1 D))])
  refine gR.steps 1 (τ, (20, [some (.ref 18), some (.int 1)], [.int (nI (dN1 D))])) rfl ?_
  refine gR.ret rfl ?_
  refine ⟨trivial, ?_, fun q a b c e => hF q c e, ?_⟩
  · rw [show aWipe D 1 = _ from if_pos (by decide), if_neg (show ¬ (1 : Int32) = 0 by decide)]
  · rw [show sWipe D 1 = _ from if_pos (by decide), if_neg (show ¬ (1 : Int32) = 0 by decide)]; exact cSt_t1 hs hF hT
theorem s_X10_undo1 {d : Nat} (hd : 5 ≤ d) (σ : gS) (D : xDat) (hs : cSt σ D) : gC d 46 [.ref 18, .int 1] σ (fun r τ => r = some (.int (aUndo D 1)) ∧ cTxF σ τ ∧ cSt τ (sUndo D 1)) := by
  obtain ⟨d, rfl⟩ : ∃ k, d = k + 1 := ⟨d - 1, by omega⟩
  refine gC.of (P := pX10_undo) (nL := 2) (rt := (some (.int))) (lv := [some (.ref 18), some (.int 1)]) (by decide +kernel) rfl rfl rfl (by simp [gEnt, Value.category]) rfl ?_
  refine gR.steps 1 (σ, (1, [some (.ref 18), some (.int 1)], [.int 1])) rfl ?_
  refine gR.callp rfl (s_X10_isText (by omega) σ 1) ?_
  refine gR.brF rfl (by rw [bI_eq0]; exact Decidable.not_not.mpr (by decide)) ?_
  refine gR.steps 2 (σ, (9, [some (.ref 18), some (.int 1)], [.int 1, .ref 18])) rfl ?_
  refine gR.callp (x := .ref 25) rfl (s_X10_textOf1 (by omega) σ) ?_
  refine gR.call' rfl (s_X9_drop1 (by omega) σ (dN1 D) (dC1 D) hs.2.1) ?_
  rintro _ τ ⟨rfl, hF, hT⟩
  show gR _ _ _ τ (15, [some (.ref 18), some (.int 1)], [.int (if dN1 D = 0 then -3 else nI (dN1 D - 1))])
  refine gR.steps 1 (τ, (20, [some (.ref 18), some (.int 1)], [.int (if dN1 D = 0 then -3 else nI (dN1 D - 1))])) rfl ?_
  refine gR.ret rfl ?_
  refine ⟨trivial, ?_, fun q a b c e => hF q c e, ?_⟩
  · rw [show aUndo D 1 = _ from if_pos (by decide), if_neg (show ¬ (1 : Int32) = 0 by decide)]
  · rw [show sUndo D 1 = _ from if_pos (by decide), if_neg (show ¬ (1 : Int32) = 0 by decide)]
    show cSt τ _
    by_cases hn0 : dN1 D = 0
    · rw [if_pos hn0]; rw [show dN1 D - 1 = dN1 D by omega] at hT; exact cSt_t1 hs hF hT
    · rw [if_neg hn0]; exact cSt_t1 hs hF hT
theorem s_X10_fault1 {d : Nat} (hd : 3 ≤ d) (σ : gS) (D : xDat) (hs : cSt σ D) : gC d 47 [.ref 18, .int 1] σ (fun r τ => r = some (.int (aFault D 1)) ∧ τ = σ) := by
  obtain ⟨d, rfl⟩ : ∃ k, d = k + 1 := ⟨d - 1, by omega⟩
  refine gC.of (P := pX10_fault) (nL := 2) (rt := (some (.int))) (lv := [some (.ref 18), some (.int 1)]) (by decide +kernel) rfl rfl rfl (by simp [gEnt, Value.category]) rfl ?_
  refine gR.steps 1 (σ, (1, [some (.ref 18), some (.int 1)], [.int 1])) rfl ?_
  refine gR.callp rfl (s_X10_isText (by omega) σ 1) ?_
  refine gR.brF rfl (by rw [bI_eq0]; exact Decidable.not_not.mpr (by decide)) ?_
  refine gR.steps 2 (σ, (9, [some (.ref 18), some (.int 1)], [.int 1, .ref 18])) rfl ?_
  refine gR.callp (x := .ref 25) rfl (s_X10_textOf1 (by omega) σ) ?_
  refine gR.steps 2 (σ, (20, [some (.ref 18), some (.int 1)], [.int (σ 25 6)])) rfl ?_
  refine gR.ret rfl ?_
  exact ⟨trivial, gSomeI (by rw [show aFault D 1 = _ from if_pos (by decide), if_neg (show ¬ (1 : Int32) = 0 by decide)]; exact hs.2.1.2.1), rfl⟩
theorem s_X10_typeX {d : Nat} (hd : 5 ≤ d) (σ : gS) (D : xDat) (t b : Int32) (hs : cSt σ D) (ht : ¬ (0 ≤ t.toInt ∧ t.toInt ≤ 1)) : gC d 44 [.ref 18, .int t, .int b] σ (fun r τ => r = some (.int (aType D t b)) ∧ cTxF σ τ ∧ cSt τ (sType D t b)) := by
  obtain ⟨d, rfl⟩ : ∃ k, d = k + 1 := ⟨d - 1, by omega⟩
  refine gC.of (P := pX10_type) (nL := 3) (rt := (some (.int))) (lv := [some (.ref 18), some (.int t), some (.int b)]) (by decide +kernel) rfl rfl rfl (by simp [gEnt, Value.category]) rfl ?_
  refine gR.steps 1 (σ, (1, [some (.ref 18), some (.int t), some (.int b)], [.int t])) rfl ?_
  refine gR.callp rfl (s_X10_isText (by omega) σ t) ?_
  refine gR.brT rfl (bI_f ht) ?_
  refine gR.steps 1 (σ, (20, [some (.ref 18), some (.int t), some (.int b)], [.int (-2)])) rfl ?_
  refine gR.ret rfl ?_
  exact ⟨trivial, by rw [show aType D t b = -2 from if_neg (fun z => ht z.1)], cTxF.rf σ, by rw [show sType D t b = D from if_neg (fun z => ht z.1)]; exact hs⟩
theorem s_X10_type {d : Nat} (hd : 5 ≤ d) (σ : gS) (D : xDat) (t b : Int32) (hs : cSt σ D) : gC d 44 [.ref 18, .int t, .int b] σ (fun r τ => r = some (.int (aType D t b)) ∧ cTxF σ τ ∧ cSt τ (sType D t b)) := by
  by_cases ht : 0 ≤ t.toInt ∧ t.toInt ≤ 1
  · rcases two_of ht with rfl | rfl
    · exact s_X10_type0 hd σ D b hs
    · exact s_X10_type1 hd σ D b hs
  · exact s_X10_typeX hd σ D t b hs ht
theorem s_X10_wipeX {d : Nat} (hd : 5 ≤ d) (σ : gS) (D : xDat) (t : Int32) (hs : cSt σ D) (ht : ¬ (0 ≤ t.toInt ∧ t.toInt ≤ 1)) : gC d 45 [.ref 18, .int t] σ (fun r τ => r = some (.int (aWipe D t)) ∧ cTxF σ τ ∧ cSt τ (sWipe D t)) := by
  obtain ⟨d, rfl⟩ : ∃ k, d = k + 1 := ⟨d - 1, by omega⟩
  refine gC.of (P := pX10_wipe) (nL := 2) (rt := (some (.int))) (lv := [some (.ref 18), some (.int t)]) (by decide +kernel) rfl rfl rfl (by simp [gEnt, Value.category]) rfl ?_
  refine gR.steps 1 (σ, (1, [some (.ref 18), some (.int t)], [.int t])) rfl ?_
  refine gR.callp rfl (s_X10_isText (by omega) σ t) ?_
  refine gR.brT rfl (bI_f ht) ?_
  refine gR.steps 1 (σ, (20, [some (.ref 18), some (.int t)], [.int (-2)])) rfl ?_
  refine gR.ret rfl ?_
  exact ⟨trivial, by rw [show aWipe D t = -2 from if_neg (ht)], cTxF.rf σ, by rw [show sWipe D t = D from if_neg (ht)]; exact hs⟩
theorem s_X10_wipe {d : Nat} (hd : 5 ≤ d) (σ : gS) (D : xDat) (t : Int32) (hs : cSt σ D) : gC d 45 [.ref 18, .int t] σ (fun r τ => r = some (.int (aWipe D t)) ∧ cTxF σ τ ∧ cSt τ (sWipe D t)) := by
  by_cases ht : 0 ≤ t.toInt ∧ t.toInt ≤ 1
  · rcases two_of ht with rfl | rfl
    · exact s_X10_wipe0 hd σ D  hs
    · exact s_X10_wipe1 hd σ D  hs
  · exact s_X10_wipeX hd σ D t hs ht
theorem s_X10_undoX {d : Nat} (hd : 5 ≤ d) (σ : gS) (D : xDat) (t : Int32) (hs : cSt σ D) (ht : ¬ (0 ≤ t.toInt ∧ t.toInt ≤ 1)) : gC d 46 [.ref 18, .int t] σ (fun r τ => r = some (.int (aUndo D t)) ∧ cTxF σ τ ∧ cSt τ (sUndo D t)) := by
  obtain ⟨d, rfl⟩ : ∃ k, d = k + 1 := ⟨d - 1, by omega⟩
  refine gC.of (P := pX10_undo) (nL := 2) (rt := (some (.int))) (lv := [some (.ref 18), some (.int t)]) (by decide +kernel) rfl rfl rfl (by simp [gEnt, Value.category]) rfl ?_
  refine gR.steps 1 (σ, (1, [some (.ref 18), some (.int t)], [.int t])) rfl ?_
  refine gR.callp rfl (s_X10_isText (by omega) σ t) ?_
  refine gR.brT rfl (bI_f ht) ?_
  refine gR.steps 1 (σ, (20, [some (.ref 18), some (.int t)], [.int (-2)])) rfl ?_
  refine gR.ret rfl ?_
  exact ⟨trivial, by rw [show aUndo D t = -2 from if_neg (ht)], cTxF.rf σ, by rw [show sUndo D t = D from if_neg (ht)]; exact hs⟩
theorem s_X10_undo {d : Nat} (hd : 5 ≤ d) (σ : gS) (D : xDat) (t : Int32) (hs : cSt σ D) : gC d 46 [.ref 18, .int t] σ (fun r τ => r = some (.int (aUndo D t)) ∧ cTxF σ τ ∧ cSt τ (sUndo D t)) := by
  by_cases ht : 0 ≤ t.toInt ∧ t.toInt ≤ 1
  · rcases two_of ht with rfl | rfl
    · exact s_X10_undo0 hd σ D  hs
    · exact s_X10_undo1 hd σ D  hs
  · exact s_X10_undoX hd σ D t hs ht
theorem s_X10_faultX {d : Nat} (hd : 3 ≤ d) (σ : gS) (D : xDat) (t : Int32) (hs : cSt σ D) (ht : ¬ (0 ≤ t.toInt ∧ t.toInt ≤ 1)) : gC d 47 [.ref 18, .int t] σ (fun r τ => r = some (.int (aFault D t)) ∧ τ = σ) := by
  obtain ⟨d, rfl⟩ : ∃ k, d = k + 1 := ⟨d - 1, by omega⟩
  refine gC.of (P := pX10_fault) (nL := 2) (rt := (some (.int))) (lv := [some (.ref 18), some (.int t)]) (by decide +kernel) rfl rfl rfl (by simp [gEnt, Value.category]) rfl ?_
  refine gR.steps 1 (σ, (1, [some (.ref 18), some (.int t)], [.int t])) rfl ?_
  refine gR.callp rfl (s_X10_isText (by omega) σ t) ?_
  refine gR.brT rfl (bI_f ht) ?_
  refine gR.steps 1 (σ, (20, [some (.ref 18), some (.int t)], [.int (-2)])) rfl ?_
  refine gR.ret rfl ?_
  exact ⟨trivial, by rw [show aFault D t = -2 from if_neg (ht)], rfl⟩
theorem s_X10_fault {d : Nat} (hd : 3 ≤ d) (σ : gS) (D : xDat) (t : Int32) (hs : cSt σ D) : gC d 47 [.ref 18, .int t] σ (fun r τ => r = some (.int (aFault D t)) ∧ τ = σ) := by
  by_cases ht : 0 ≤ t.toInt ∧ t.toInt ≤ 1
  · rcases two_of ht with rfl | rfl
    · exact s_X10_fault0 hd σ D  hs
    · exact s_X10_fault1 hd σ D  hs
  · exact s_X10_faultX hd σ D t hs ht
