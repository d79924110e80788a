theorem s_X11_in (d : Nat) (σ : gS) (v lo hi : Int64) : gC (d + 1) 111 [.long v, .long lo, .long hi] σ (fun r τ => r = some (.int (if lo ≤ v ∧ v ≤ hi then 1 else 0)) ∧ τ = σ) := by
  refine gC.of (P := pX11_in) (nL := 6) (rt := some .boolean) (lv := [some (.long v), none, some (.long lo), none, some (.long hi), none]) (by decide +kernel) rfl rfl rfl (by simp [gEnt, Value.category]) rfl ?_
  refine gR.steps 3 (σ, (3, [some (.long v), none, some (.long lo), none, some (.long hi), none], [.int (lg_cmp v lo)])) rfl ?_
  refine gR.br rfl (fun c1 => ?_) (fun c1 => ?_)
  · refine gR.steps 1 (σ, (18, [some (.long v), none, some (.long lo), none, some (.long hi), none], [.int 0])) rfl ?_
    refine gR.ret rfl ?_
    sorry
  · refine gR.steps 3 (σ, (10, [some (.long v), none, some (.long lo), none, some (.long hi), none], [.int (lg_cmp v hi)])) rfl ?_
    refine gR.br rfl (fun c2 => ?_) (fun c2 => ?_)
    · refine gR.steps 1 (σ, (18, [some (.long v), none, some (.long lo), none, some (.long hi), none], [.int 0])) rfl ?_
      refine gR.ret rfl ?_
      sorry
    · refine gR.steps 2 (σ, (18, [some (.long v), none, some (.long lo), none, some (.long hi), none], [.int 1])) rfl ?_
      refine gR.ret rfl ?_
      sorry
theorem s_test_isOn (d : Nat) (σ : gS) (kind m k : Int32) (Fin : Option Value → gS → Prop) : gR pX11_isOn (gEV gPT d) Fin σ (0, [some (.ref 0), some (.int kind), some (.int m), some (.int k), none, none, none, none], []) := by
  refine gR.steps 7 (σ, (12, [some (.ref 0), some (.int kind), some (.int m), some (.int k), some (.int 0), some (.int 0), none, none], [.int (σ 0 13), .int 0])) rfl ?_
  refine gR.br rfl (fun c1 => ?_) (fun c1 => ?_)
  · sorry
  · refine gR.steps 2 (σ, (17, [some (.ref 0), some (.int kind), some (.int m), some (.int k), some (.int 0), some (.int 0), none, none], [.int 2, .int kind])) rfl ?_
    refine gR.br rfl (fun c1 => ?_) (fun c1 => ?_)
    · sorry
    · refine gR.steps 7 (σ, (30, [some (.ref 0), some (.int kind), some (.int m), some (.int k), some (.int 0), some (.int 0), none, none], [.int (3 * 0 + 2), .ref 9])) rfl ?_
      refine gR.chk rfl ?_ ?_
      · sorry
      · sorry
