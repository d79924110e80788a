theorem its_1 {kind : Nat} {who : Option Nat} {b : Nat} (h : kind = 2) : (1 : Int32) = bI (kind = 2 ∨ who = some b) := (bI_t (Or.inl h)).symm
theorem its_2 {kind k b nb : Nat} {more : Bool} (h0 : ¬ kind = 2) (h : ¬ b = k) : (0 : Int32) = bI (kind = 2 ∨ xWho more nb k = some b) := by
  refine (bI_f ?_).symm
  rintro (z | z)
  · exact h0 z
  · unfold xWho at z
    split at z
    · cases z
    · exact h (Option.some.inj z).symm
theorem its_3 {kind k b nb : Nat} {more : Bool} (h : b = k) (hm : ¬ more = true) : (1 : Int32) = bI (kind = 2 ∨ xWho more nb k = some b) := by
  refine (bI_t (Or.inr ?_)).symm
  unfold xWho
  rw [if_neg (fun z => hm z.1), h]
theorem its_4 {kind k b nb : Nat} {more : Bool} (h0 : ¬ kind = 2) (hm : more = true) (hk : k = nb - 1) (hn : k < nb) : (0 : Int32) = bI (kind = 2 ∨ xWho more nb k = some b) := by
  refine (bI_f ?_).symm
  rintro (z | z)
  · exact h0 z
  · unfold xWho at z
    rw [if_pos ⟨hm, by omega⟩] at z
    cases z
theorem its_5 {kind k b nb : Nat} {more : Bool} (h : b = k) (hk : ¬ k = nb - 1) : (1 : Int32) = bI (kind = 2 ∨ xWho more nb k = some b) := by
  refine (bI_t (Or.inr ?_)).symm
  unfold xWho
  rw [if_neg (fun z => hk (by omega)), h]
theorem any_t {f : Nat → Bool} {e : Nat} (h : xAny f e = true ∨ f e = true) : (1 : Int32) = bI (xAny f (e + 1) = true) := (bI_t (by simpa [xAny] using h)).symm
theorem any_f {f : Nat → Bool} {e : Nat} (h1 : ¬ xAny f e = true) (h2 : ¬ f e = true) : (0 : Int32) = bI (xAny f (e + 1) = true) := (bI_f (by simp only [xAny, Bool.or_eq_true]; rintro (z | z); exact h1 z; exact h2 z)).symm
theorem xLast_le (kind sort : Nat) : xLast kind sort ≤ 12 := by
  unfold xLast
  by_cases h : kind * 3 + sort < 12
  · generalize kind * 3 + sort = i at h ⊢
    revert i; decide
  · rw [List.getD_eq_getElem?_getD, List.getElem?_eq_none (by simp; omega)]; simp
theorem s_X11_isOn {d : Nat} (hd : 2 ≤ d) (σ : gS) (n : Nat) (K M B : Nat → Nat) (gn : Nat → Bool) (more : Bool) (nb : Nat) (kd bg sp : Nat → Nat) (kind m k : Nat) (hE : mEv σ n K M B) (hB : mBu σ nb kd bg sp) (hg : mGone σ gn) (hm : σ 0 21 = bI (more = true)) (hkind : kind < 4) (hmm : m < 24) (hk : k < nb) : gC d 149 [.ref 0, .int (nI kind), .int (nI m), .int (nI k)] σ (fun r τ => r = some (.int (bI (xOn n K M B gn kind (xWho more nb k) (kd k) m = true))) ∧ τ = σ) := by
  obtain ⟨d, rfl⟩ : ∃ k, d = k + 1 := ⟨d - 1, by omega⟩
  refine gC.of (P := pX11_isOn) (nL := 8) (rt := (some (.boolean))) (lv := [some (.ref 0), some (.int (nI kind)), some (.int (nI m)), some (.int (nI k)), none, none, none, none]) (by decide +kernel) rfl rfl rfl (by simp [gEnt, Value.category]) rfl ?_
  have hn8 := hE.2.1
  have hn11 := hB.2.1
  have hkk := hB.2.2 k hk
  unfold xOn
  refine gR.steps 4 (σ, (6, [some (.ref 0), some (.int (nI kind)), some (.int (nI m)), some (.int (nI k)), some (.int 0), some (.int 0), none, none], [])) rfl ?_
  refine gR.forget [some (.ref 0), some (.int (nI kind)), some (.int (nI m)), some (.int (nI k)), some (.int (bI (xAny (fun e => !gn e && xHit K M B kind (xWho more nb k) (kd k) m e) 0 = true))), some (.int 0), none, none] ⟨rfl, ⟨rfl, ⟨rfl, ⟨rfl, ⟨gSomeI (bI_f (p := xAny (fun e => !gn e && xHit K M B kind (xWho more nb k) (kd k) m e) 0 = true) (by simp [xAny])).symm, ⟨rfl, trivial⟩⟩⟩⟩⟩⟩ ?_
  refine gR.loop (α := Nat) (fun e => e ≤ n) (fun e => n - e) (fun e => (σ, (6, [some (.ref 0), some (.int (nI kind)), some (.int (nI m)), some (.int (nI k)), some (.int (bI (xAny (fun e => !gn e && xHit K M B kind (xWho more nb k) (kd k) m e) e = true))), some (.int (nI e)), none, none], []))) ?_ 0 (Nat.zero_le n)
  rintro e hI ih
  show gR _ _ _ σ (6, [some (.ref 0), some (.int (nI kind)), some (.int (nI m)), some (.int (nI k)), some (.int (bI (xAny (fun e => !gn e && xHit K M B kind (xWho more nb k) (kd k) m e) e = true))), some (.int (nI e)), none, none], [])
  refine gR.steps 3 (σ, (12, [some (.ref 0), some (.int (nI kind)), some (.int (nI m)), some (.int (nI k)), some (.int (bI (xAny (fun e => !gn e && xHit K M B kind (xWho more nb k) (kd k) m e) e = true))), some (.int (nI e)), none, none], [.int (σ 0 13), .int (nI e)])) rfl ?_
  refine gR.topI (y := nI (n)) hE.1 ?_
  refine gR.ifte rfl (fun zc12 => ?_) (fun zc12 => ?_)
  · rw [gN_le (x := nI n) (y := nI e) (a := n) (b := e) rfl rfl (by omega) (by omega)] at zc12
    refine gR.steps 1 (σ, (149, [some (.ref 0), some (.int (nI kind)), some (.int (nI m)), some (.int (nI k)), some (.int (bI (xAny (fun e => !gn e && xHit K M B kind (xWho more nb k) (kd k) m e) e = true))), some (.int (nI e)), none, none], [.int (bI (xAny (fun e => !gn e && xHit K M B kind (xWho more nb k) (kd k) m e) e = true))])) rfl ?_
    refine gR.ret rfl ?_
    obtain rfl : e = n := by omega
    exact ⟨bI_ret _, rfl, rfl⟩
  · rw [gN_le (x := nI n) (y := nI e) (a := n) (b := e) rfl rfl (by omega) (by omega)] at zc12
    have hee := hE.2.2 e (by omega)
    refine gR.join (α := Int32) σ (fun zv => (57, [some (.ref 0), some (.int (nI kind)), some (.int (nI m)), some (.int (nI k)), some (.int (bI (xAny (fun e => !gn e && xHit K M B kind (xWho more nb k) (kd k) m e) e = true))), some (.int (nI e)), none, none], [.int zv])) (bI (kind = 2 ∨ xWho more nb k = some (B e))) ?_ (fun zj57 => ?_)
    · refine gR.steps 1 (σ, (59, [some (.ref 0), some (.int (nI kind)), some (.int (nI m)), some (.int (nI k)), some (.int (bI (xAny (fun e => !gn e && xHit K M B kind (xWho more nb k) (kd k) m e) e = true))), some (.int (nI e)), some (.int (bI (kind = 2 ∨ xWho more nb k = some (B e)))), none], [])) rfl ?_
      refine gR.join (α := Int32) σ (fun zv => (139, [some (.ref 0), some (.int (nI kind)), some (.int (nI m)), some (.int (nI k)), none, some (.int (nI e)), none, none], [.int zv])) (bI (xAny (fun e => !gn e && xHit K M B kind (xWho more nb k) (kd k) m e) (e + 1) = true)) ?_ (fun zj139 => ?_)
      · refine gR.steps 3 (σ, (6, [some (.ref 0), some (.int (nI kind)), some (.int (nI m)), some (.int (nI k)), some (.int (bI (xAny (fun e => !gn e && xHit K M B kind (xWho more nb k) (kd k) m e) (e + 1) = true))), some (.int ((nI e) + 1)), none, none], [])) rfl ?_
        refine gR.forget [some (.ref 0), some (.int (nI kind)), some (.int (nI m)), some (.int (nI k)), some (.int (bI (xAny (fun e => !gn e && xHit K M B kind (xWho more nb k) (kd k) m e) (e + 1) = true))), some (.int (nI (e + 1))), none, none] ⟨rfl, ⟨rfl, ⟨rfl, ⟨rfl, ⟨rfl, ⟨gSomeI (gN_add rfl rfl), trivial⟩⟩⟩⟩⟩⟩ ?_
        exact ih (e + 1) (by omega) (by omega)
      · refine gR.steps 8 (σ, (70, [some (.ref 0), some (.int (nI kind)), some (.int (nI m)), some (.int (nI k)), some (.int (bI (xAny (fun e => !gn e && xHit K M B kind (xWho more nb k) (kd k) m e) e = true))), some (.int (nI e)), some (.int (bI (kind = 2 ∨ xWho more nb k = some (B e)))), none], [.int ((3 * (nI e)) + 1), .ref 9, .int (nI m)])) rfl ?_
        refine gR.ald (i := (3 * (nI e)) + 1) (j := 3 * e + 1) (N := 24) (g := σ 9) rfl (gN_add (gN_mul rfl rfl) rfl) (by omega) (by omega) ?_
        refine gR.topI (y := nI (M e)) (hE.2.2 e (by omega)).2.1 ?_
        refine gR.steps 3 (σ, (76, [some (.ref 0), some (.int (nI kind)), some (.int (nI m)), some (.int (nI k)), some (.int (bI (xAny (fun e => !gn e && xHit K M B kind (xWho more nb k) (kd k) m e) e = true))), some (.int (nI e)), some (.int (bI (kind = 2 ∨ xWho more nb k = some (B e)))), some (.int (nI m - nI (M e)))], [.int (bI (xAny (fun e => !gn e && xHit K M B kind (xWho more nb k) (kd k) m e) e = true))])) rfl ?_
        refine gR.ifte rfl (fun zc76 => ?_) (fun zc76 => ?_)
        · rw [bI_ne0] at zc76
          refine gR.steps 2 (σ, (139, [some (.ref 0), some (.int (nI kind)), some (.int (nI m)), some (.int (nI k)), some (.int (bI (xAny (fun e => !gn e && xHit K M B kind (xWho more nb k) (kd k) m e) e = true))), some (.int (nI e)), some (.int (bI (kind = 2 ∨ xWho more nb k = some (B e)))), some (.int (nI m - nI (M e)))], [.int 1])) rfl ?_
          refine gR.forget [some (.ref 0), some (.int (nI kind)), some (.int (nI m)), some (.int (nI k)), none, some (.int (nI e)), none, none] ⟨rfl, ⟨rfl, ⟨rfl, ⟨rfl, ⟨rfl, trivial⟩⟩⟩⟩⟩ ?_
          exact zj139 _ (any_t (Or.inl zc76))
        · rw [bI_ne0] at zc76
          refine gR.steps 3 (σ, (85, [some (.ref 0), some (.int (nI kind)), some (.int (nI m)), some (.int (nI k)), some (.int (bI (xAny (fun e => !gn e && xHit K M B kind (xWho more nb k) (kd k) m e) e = true))), some (.int (nI e)), some (.int (bI (kind = 2 ∨ xWho more nb k = some (B e)))), some (.int (nI m - nI (M e)))], [.int (nI e), .int (σ 0 15)])) rfl ?_
          refine gR.callp rfl (s_X11_isIn (by omega) σ (σ 0 15) (nI e)) ?_
          refine gR.ifte rfl (fun zc88 => ?_) (fun zc88 => ?_)
          · rw [bI_ne0] at zc88
            refine gR.steps 1 (σ, (139, [some (.ref 0), some (.int (nI kind)), some (.int (nI m)), some (.int (nI k)), some (.int (bI (xAny (fun e => !gn e && xHit K M B kind (xWho more nb k) (kd k) m e) e = true))), some (.int (nI e)), some (.int (bI (kind = 2 ∨ xWho more nb k = some (B e)))), some (.int (nI m - nI (M e)))], [.int 0])) rfl ?_
            refine gR.forget [some (.ref 0), some (.int (nI kind)), some (.int (nI m)), some (.int (nI k)), none, some (.int (nI e)), none, none] ⟨rfl, ⟨rfl, ⟨rfl, ⟨rfl, ⟨rfl, trivial⟩⟩⟩⟩⟩ ?_
            exact zj139 _ (any_f zc76 (by simp only [xHit, Bool.and_eq_true, Bool.not_eq_true']; rintro ⟨z, -⟩; rw [(hg e (by omega)).mp zc88] at z; cases z))
          · rw [bI_ne0] at zc88
            refine gR.steps 5 (σ, (99, [some (.ref 0), some (.int (nI kind)), some (.int (nI m)), some (.int (nI k)), some (.int (bI (xAny (fun e => !gn e && xHit K M B kind (xWho more nb k) (kd k) m e) e = true))), some (.int (nI e)), some (.int (bI (kind = 2 ∨ xWho more nb k = some (B e)))), some (.int (nI m - nI (M e)))], [.int (3 * (nI e)), .ref 9])) rfl ?_
            refine gR.ald (i := 3 * (nI e)) (j := 3 * e) (N := 24) (g := σ 9) rfl (gN_mul rfl rfl) (by omega) (by omega) ?_
            refine gR.topI (y := nI (K e)) (hE.2.2 e (by omega)).1 ?_
            refine gR.steps 1 (σ, (101, [some (.ref 0), some (.int (nI kind)), some (.int (nI m)), some (.int (nI k)), some (.int (bI (xAny (fun e => !gn e && xHit K M B kind (xWho more nb k) (kd k) m e) e = true))), some (.int (nI e)), some (.int (bI (kind = 2 ∨ xWho more nb k = some (B e)))), some (.int (nI m - nI (M e)))], [.int (nI kind), .int (nI (K e))])) rfl ?_
            refine gR.ifte rfl (fun zc101 => ?_) (fun zc101 => ?_)
            · rw [gN_eq (x := nI (K e)) (y := nI kind) (a := K e) (b := kind) rfl rfl (by omega) (by omega)] at zc101
              refine gR.steps 1 (σ, (139, [some (.ref 0), some (.int (nI kind)), some (.int (nI m)), some (.int (nI k)), some (.int (bI (xAny (fun e => !gn e && xHit K M B kind (xWho more nb k) (kd k) m e) e = true))), some (.int (nI e)), some (.int (bI (kind = 2 ∨ xWho more nb k = some (B e)))), some (.int (nI m - nI (M e)))], [.int 0])) rfl ?_
              refine gR.forget [some (.ref 0), some (.int (nI kind)), some (.int (nI m)), some (.int (nI k)), none, some (.int (nI e)), none, none] ⟨rfl, ⟨rfl, ⟨rfl, ⟨rfl, ⟨rfl, trivial⟩⟩⟩⟩⟩ ?_
              exact zj139 _ (any_f zc76 (by simp only [xHit, Bool.and_eq_true, decide_eq_true_eq]; rintro ⟨-, ⟨⟨⟨z, -⟩, -⟩, -⟩⟩; exact zc101 z))
            · rw [gN_eq (x := nI (K e)) (y := nI kind) (a := K e) (b := kind) rfl rfl (by omega) (by omega)] at zc101
              refine gR.steps 1 (σ, (106, [some (.ref 0), some (.int (nI kind)), some (.int (nI m)), some (.int (nI k)), some (.int (bI (xAny (fun e => !gn e && xHit K M B kind (xWho more nb k) (kd k) m e) e = true))), some (.int (nI e)), some (.int (bI (kind = 2 ∨ xWho more nb k = some (B e)))), some (.int (nI m - nI (M e)))], [.int (bI (kind = 2 ∨ xWho more nb k = some (B e)))])) rfl ?_
              refine gR.ifte rfl (fun zc106 => ?_) (fun zc106 => ?_)
              · rw [bI_eq0] at zc106
                refine gR.steps 1 (σ, (139, [some (.ref 0), some (.int (nI kind)), some (.int (nI m)), some (.int (nI k)), some (.int (bI (xAny (fun e => !gn e && xHit K M B kind (xWho more nb k) (kd k) m e) e = true))), some (.int (nI e)), some (.int (bI (kind = 2 ∨ xWho more nb k = some (B e)))), some (.int (nI m - nI (M e)))], [.int 0])) rfl ?_
                refine gR.forget [some (.ref 0), some (.int (nI kind)), some (.int (nI m)), some (.int (nI k)), none, some (.int (nI e)), none, none] ⟨rfl, ⟨rfl, ⟨rfl, ⟨rfl, ⟨rfl, trivial⟩⟩⟩⟩⟩ ?_
                exact zj139 _ (any_f zc76 (by simp only [xHit, Bool.and_eq_true, Bool.or_eq_true, decide_eq_true_eq]; rintro ⟨-, ⟨⟨⟨-, z⟩, -⟩, -⟩⟩; exact zc106 z))
              · rw [bI_eq0, Decidable.not_not] at zc106
                refine gR.steps 9 (σ, (121, [some (.ref 0), some (.int (nI kind)), some (.int (nI m)), some (.int (nI k)), some (.int (bI (xAny (fun e => !gn e && xHit K M B kind (xWho more nb k) (kd k) m e) e = true))), some (.int (nI e)), some (.int (bI (kind = 2 ∨ xWho more nb k = some (B e)))), some (.int (nI m - nI (M e)))], [.int (3 * (nI k)), .ref 7, .int (nI kind), .long 0, .long (Int32.toInt64 (nI m - nI (M e)))])) rfl ?_
                refine gR.ald (i := 3 * (nI k)) (j := 3 * k) (N := 33) (g := σ 7) rfl (gN_mul rfl rfl) (by omega) (by omega) ?_
                refine gR.topI (y := nI (kd k)) (hB.2.2 k (by omega)).1 ?_
                refine gR.callp rfl (s_X11_lasts (by omega) σ kind (kd k) (by omega) (by omega)) ?_
                refine gR.steps 3 (σ, (128, [some (.ref 0), some (.int (nI kind)), some (.int (nI m)), some (.int (nI k)), some (.int (bI (xAny (fun e => !gn e && xHit K M B kind (xWho more nb k) (kd k) m e) e = true))), some (.int (nI e)), some (.int (bI (kind = 2 ∨ xWho more nb k = some (B e)))), some (.int (nI m - nI (M e)))], [.long (Int32.toInt64 (nI (xLast kind (kd k)) - 1)), .long 0, .long (Int32.toInt64 (nI m - nI (M e)))])) rfl ?_
                refine gR.callp rfl (s_X11_in (by omega) σ (Int32.toInt64 (nI m - nI (M e))) 0 (Int32.toInt64 (nI (xLast kind (kd k)) - 1))) ?_
                have hsince : (Int64.toInt 0 ≤ Int64.toInt (Int32.toInt64 (nI m - nI (M e))) ∧ Int64.toInt (Int32.toInt64 (nI m - nI (M e))) ≤ Int64.toInt (Int32.toInt64 (nI (xLast kind (kd k)) - 1))) ↔ (M e ≤ m ∧ m < M e + xLast kind (kd k)) := by
                  have hm1 := (hE.2.2 e (by omega)).2.2.2.2.1
                  have hl1 := xLast_le kind (kd k)
                  simp only [iI64, iLit0]
                  rw [pk_sub_toInt (by omega) (by omega), show (1 : Int32) = nI 1 from rfl, pk_sub_toInt (by omega) (by omega)]
                  omega
                refine gR.ifte rfl (fun zc131 => ?_) (fun zc131 => ?_)
                · rw [bI_eq0] at zc131
                  refine gR.steps 1 (σ, (139, [some (.ref 0), some (.int (nI kind)), some (.int (nI m)), some (.int (nI k)), some (.int (bI (xAny (fun e => !gn e && xHit K M B kind (xWho more nb k) (kd k) m e) e = true))), some (.int (nI e)), some (.int (bI (kind = 2 ∨ xWho more nb k = some (B e)))), some (.int (nI m - nI (M e)))], [.int 0])) rfl ?_
                  refine gR.forget [some (.ref 0), some (.int (nI kind)), some (.int (nI m)), some (.int (nI k)), none, some (.int (nI e)), none, none] ⟨rfl, ⟨rfl, ⟨rfl, ⟨rfl, ⟨rfl, trivial⟩⟩⟩⟩⟩ ?_
                  exact zj139 _ (any_f zc76 (by simp only [xHit, Bool.and_eq_true, decide_eq_true_eq]; rintro ⟨-, ⟨⟨⟨-, -⟩, z1⟩, z2⟩⟩; exact zc131 (hsince.mpr ⟨z1, z2⟩)))
                · rw [bI_eq0, Decidable.not_not] at zc131
                  refine gR.steps 2 (σ, (139, [some (.ref 0), some (.int (nI kind)), some (.int (nI m)), some (.int (nI k)), some (.int (bI (xAny (fun e => !gn e && xHit K M B kind (xWho more nb k) (kd k) m e) e = true))), some (.int (nI e)), some (.int (bI (kind = 2 ∨ xWho more nb k = some (B e)))), some (.int (nI m - nI (M e)))], [.int 1])) rfl ?_
                  refine gR.forget [some (.ref 0), some (.int (nI kind)), some (.int (nI m)), some (.int (nI k)), none, some (.int (nI e)), none, none] ⟨rfl, ⟨rfl, ⟨rfl, ⟨rfl, ⟨rfl, trivial⟩⟩⟩⟩⟩ ?_
                  exact zj139 _ (any_t (Or.inr (by simp only [xHit, Bool.and_eq_true, Bool.or_eq_true, Bool.not_eq_true', decide_eq_true_eq]; exact ⟨by cases hz : gn e with | false => rfl | true => exact absurd ((hg e (by omega)).mpr hz) zc88, ⟨⟨⟨Decidable.not_not.mp zc101, zc106⟩, (hsince.mp zc131).1⟩, (hsince.mp zc131).2⟩⟩)))
    · refine gR.steps 2 (σ, (17, [some (.ref 0), some (.int (nI kind)), some (.int (nI m)), some (.int (nI k)), some (.int (bI (xAny (fun e => !gn e && xHit K M B kind (xWho more nb k) (kd k) m e) e = true))), some (.int (nI e)), none, none], [.int 2, .int (nI kind)])) rfl ?_
      refine gR.ifte rfl (fun zc17 => ?_) (fun zc17 => ?_)
      · rw [gN_eq (x := nI kind) (y := 2) (a := kind) (b := 2) rfl rfl (by omega) (by omega)] at zc17
        refine gR.steps 2 (σ, (57, [some (.ref 0), some (.int (nI kind)), some (.int (nI m)), some (.int (nI k)), some (.int (bI (xAny (fun e => !gn e && xHit K M B kind (xWho more nb k) (kd k) m e) e = true))), some (.int (nI e)), none, none], [.int 1])) rfl ?_
        exact zj57 _ (its_1 (by assumption))
      · rw [gN_eq (x := nI kind) (y := 2) (a := kind) (b := 2) rfl rfl (by omega) (by omega)] at zc17
        refine gR.steps 7 (σ, (30, [some (.ref 0), some (.int (nI kind)), some (.int (nI m)), some (.int (nI k)), some (.int (bI (xAny (fun e => !gn e && xHit K M B kind (xWho more nb k) (kd k) m e) e = true))), some (.int (nI e)), none, none], [.int ((3 * (nI e)) + 2), .ref 9])) rfl ?_
        refine gR.ald (i := (3 * (nI e)) + 2) (j := 3 * e + 2) (N := 24) (g := σ 9) rfl (gN_add (gN_mul rfl rfl) rfl) (by omega) (by omega) ?_
        refine gR.topI (y := nI (B e)) (hE.2.2 e (by omega)).2.2.1 ?_
        refine gR.steps 1 (σ, (32, [some (.ref 0), some (.int (nI kind)), some (.int (nI m)), some (.int (nI k)), some (.int (bI (xAny (fun e => !gn e && xHit K M B kind (xWho more nb k) (kd k) m e) e = true))), some (.int (nI e)), none, none], [.int (nI k), .int (nI (B e))])) rfl ?_
        refine gR.ifte rfl (fun zc32 => ?_) (fun zc32 => ?_)
        · rw [gN_eq (x := nI (B e)) (y := nI k) (a := B e) (b := k) rfl rfl (by omega) (by omega)] at zc32
          refine gR.steps 1 (σ, (57, [some (.ref 0), some (.int (nI kind)), some (.int (nI m)), some (.int (nI k)), some (.int (bI (xAny (fun e => !gn e && xHit K M B kind (xWho more nb k) (kd k) m e) e = true))), some (.int (nI e)), none, none], [.int 0])) rfl ?_
          exact zj57 _ (its_2 (by assumption) zc32)
        · rw [gN_eq (x := nI (B e)) (y := nI k) (a := B e) (b := k) rfl rfl (by omega) (by omega)] at zc32
          refine gR.steps 2 (σ, (39, [some (.ref 0), some (.int (nI kind)), some (.int (nI m)), some (.int (nI k)), some (.int (bI (xAny (fun e => !gn e && xHit K M B kind (xWho more nb k) (kd k) m e) e = true))), some (.int (nI e)), none, none], [.int (σ 0 21)])) rfl ?_
          refine gR.ifte rfl (fun zc39 => ?_) (fun zc39 => ?_)
          · rw [hm, bI_eq0] at zc39
            refine gR.steps 2 (σ, (57, [some (.ref 0), some (.int (nI kind)), some (.int (nI m)), some (.int (nI k)), some (.int (bI (xAny (fun e => !gn e && xHit K M B kind (xWho more nb k) (kd k) m e) e = true))), some (.int (nI e)), none, none], [.int 1])) rfl ?_
            exact zj57 _ (its_3 (Decidable.not_not.mp zc32) zc39)
          · rw [hm, bI_eq0] at zc39
            refine gR.steps 3 (σ, (47, [some (.ref 0), some (.int (nI kind)), some (.int (nI m)), some (.int (nI k)), some (.int (bI (xAny (fun e => !gn e && xHit K M B kind (xWho more nb k) (kd k) m e) e = true))), some (.int (nI e)), none, none], [.int (σ 0 7), .int (nI k)])) rfl ?_
            refine gR.topI (y := nI (nb)) hB.1 ?_
            refine gR.steps 2 (σ, (49, [some (.ref 0), some (.int (nI kind)), some (.int (nI m)), some (.int (nI k)), some (.int (bI (xAny (fun e => !gn e && xHit K M B kind (xWho more nb k) (kd k) m e) e = true))), some (.int (nI e)), none, none], [.int ((nI nb) - 1), .int (nI k)])) rfl ?_
            refine gR.ifte rfl (fun zc49 => ?_) (fun zc49 => ?_)
            · rw [gN_eq (x := nI k) (y := (nI nb) - 1) (a := k) (b := nb - 1) rfl (gN_sub rfl rfl (by omega)) (by omega) (by omega)] at zc49
              refine gR.steps 1 (σ, (57, [some (.ref 0), some (.int (nI kind)), some (.int (nI m)), some (.int (nI k)), some (.int (bI (xAny (fun e => !gn e && xHit K M B kind (xWho more nb k) (kd k) m e) e = true))), some (.int (nI e)), none, none], [.int 0])) rfl ?_
              exact zj57 _ (its_4 (by assumption) (Decidable.not_not.mp zc39) zc49 (by omega))
            · rw [gN_eq (x := nI k) (y := (nI nb) - 1) (a := k) (b := nb - 1) rfl (gN_sub rfl rfl (by omega)) (by omega) (by omega)] at zc49
              refine gR.steps 2 (σ, (57, [some (.ref 0), some (.int (nI kind)), some (.int (nI m)), some (.int (nI k)), some (.int (bI (xAny (fun e => !gn e && xHit K M B kind (xWho more nb k) (kd k) m e) e = true))), some (.int (nI e)), none, none], [.int 1])) rfl ?_
              exact zj57 _ (its_5 (Decidable.not_not.mp zc32) zc49)
