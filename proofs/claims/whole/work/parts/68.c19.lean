theorem s_X10_copy {d : Nat} (hd : 3 ≤ d) (σ : gS) (H : xShe) (l : Nat) (s i t j n : Int32) (hs : cSh σ H) (hl : cLa σ l) : gC d 75 [.ref 18, .int s, .int i, .int t, .int j, .int n] σ (fun r τ => r = some (.int (aCopy H s i t j n)) ∧ cShF σ τ ∧ cSh τ (sCpy H s i t j n) ∧ cLa τ (lCopy H l s i t j n)) := by
  obtain ⟨d, rfl⟩ : ∃ k, d = k + 1 := ⟨d - 1, by omega⟩
  refine gC.of (P := pX10_copy) (nL := 8) (rt := (some (.int))) (lv := [some (.ref 18), some (.int s), some (.int i), some (.int t), some (.int j), some (.int n), none, none]) (by decide +kernel) rfl rfl rfl (by simp [gEnt, Value.category]) rfl ?_
  refine gR.steps 1 (σ, (1, [some (.ref 18), some (.int s), some (.int i), some (.int t), some (.int j), some (.int n), none, none], [.int s])) rfl ?_
  refine gR.callp rfl (s_X10_isSheet (by omega) σ s) ?_
  refine gR.ifte rfl (fun zc4 => ?_) (fun zc4 => ?_)
  · rw [bI_eq0] at zc4
    refine gR.steps 1 (σ, (16, [some (.ref 18), some (.int s), some (.int i), some (.int t), some (.int j), some (.int n), none, none], [.int (-2)])) rfl ?_
    show gR _ _ _ σ (16, [some (.ref 18), some (.int s), some (.int i), some (.int t), some (.int j), some (.int n), none, none], [.int (-2)])
    refine gR.ret rfl ?_
    exact ⟨trivial, by rw [show aCopy H s i t j n = -2 from if_neg (by omega)], cShF.rf σ, by rw [show sCpy H s i t j n = H from if_neg (fun z => absurd z.1 (by omega))]; exact hs, by rw [show lCopy H l s i t j n = l from if_neg (fun z => absurd z.1 (by omega))]; exact hl⟩
  · rw [bI_eq0, Decidable.not_not] at zc4
    obtain ⟨ss, hss, rfl⟩ := gN_of (x := s) (n := 4) (by omega) (by omega) (by omega)
    refine gR.steps 1 (σ, (8, [some (.ref 18), some (.int (nI ss)), some (.int i), some (.int t), some (.int j), some (.int n), none, none], [.int t])) rfl ?_
    refine gR.callp rfl (s_X10_isSheet (by omega) σ t) ?_
    refine gR.ifte rfl (fun zc11 => ?_) (fun zc11 => ?_)
    · rw [bI_ne0] at zc11
      obtain ⟨tt, htt, rfl⟩ := gN_of (x := t) (n := 4) (by omega) (by omega) (by omega)
      refine gR.steps 3 (σ, (22, [some (.ref 18), some (.int (nI ss)), some (.int i), some (.int (nI tt)), some (.int j), some (.int n), none, none], [.int (nI ss), .ref 42])) rfl ?_
      refine gR.chk (b := gIn (nI ss) 4) rfl (gN_in rfl (by omega) (by omega)) ?_
      rw [gN_cl rfl (by omega)]
      refine gR.steps 4 (σ, (30, [some (.ref 18), some (.int (nI ss)), some (.int i), some (.int (nI tt)), some (.int j), some (.int n), some (.ref (70 + ss)), none], [.int (nI tt), .ref 42])) rfl ?_
      refine gR.chk (b := gIn (nI tt) 4) rfl (gN_in rfl (by omega) (by omega)) ?_
      rw [gN_cl rfl (by omega)]
      refine gR.steps 2 (σ, (35, [some (.ref 18), some (.int (nI ss)), some (.int i), some (.int (nI tt)), some (.int j), some (.int n), some (.ref (70 + ss)), some (.ref (70 + tt))], [.ref (70 + ss)])) rfl ?_
      refine gR.callp (x := .int (bI (shF H ss = -1))) (gStep_callV rfl rfl (gSh_sheet (j := ss) (by omega)) rfl) (by have := s_X8_isLost (d := d) (by omega) σ ss hss; rw [(hs ss hss).1] at this; exact this) ?_
      refine gR.ifte rfl (fun zc38 => ?_) (fun zc38 => ?_)
      · rw [bI_ne0] at zc38
        refine gR.steps 2 (σ, (51, [some (.ref 18), some (.int (nI ss)), some (.int i), some (.int (nI tt)), some (.int j), some (.int n), some (.ref (70 + ss)), some (.ref (70 + tt))], [.int 1, .ref 18])) rfl ?_
        refine gR.call' rfl (s_X10_finding (by omega) σ 1) ?_
        rintro _ _ ⟨rfl, rfl⟩ 
        show gR _ _ _ (gUp σ 18 12 (nI 1)) (54, [some (.ref 18), some (.int (nI ss)), some (.int i), some (.int (nI tt)), some (.int j), some (.int n), some (.ref (70 + ss)), some (.ref (70 + tt))], [.int (xFi 1)])
        show gR _ _ _ (gUp σ 18 12 (nI 1)) (54, [some (.ref 18), some (.int (nI ss)), some (.int i), some (.int (nI tt)), some (.int j), some (.int n), some (.ref (70 + ss)), some (.ref (70 + tt))], [.int (xFi 1)])
        refine gR.ret rfl ?_
        have hcs : (nI ss).toNatClampNeg = ss := nI_clamp (by omega)
        have hct : (nI tt).toNatClampNeg = tt := nI_clamp (by omega)
        have hx : xCp H ss tt i j n = 1 := by
          unfold xCp
          first | rw [if_pos (Or.inl zc38)] | rw [if_pos (Or.inr zc46)]
        exact ⟨trivial, by rw [show aCopy H (nI ss) i (nI tt) j n = _ from if_pos ⟨zc4, zc11⟩, hcs, hct, if_neg (by rw [hx]; decide), hx], cShF_fi σ _, by rw [show sCpy H (nI ss) i (nI tt) j n = H from if_neg (by rw [hcs, hct, hx]; exact fun z => absurd z.2 (by decide))]; exact cSh_fi hs, by rw [show lCopy H l (nI ss) i (nI tt) j n = _ from if_pos ⟨⟨zc4, zc11⟩, by rw [hcs, hct, hx]; decide⟩, hcs, hct, hx]; exact gUp_s _ _ _ _⟩
      · rw [bI_ne0] at zc38
        refine gR.steps 1 (σ, (43, [some (.ref 18), some (.int (nI ss)), some (.int i), some (.int (nI tt)), some (.int j), some (.int n), some (.ref (70 + ss)), some (.ref (70 + tt))], [.ref (70 + tt)])) rfl ?_
        refine gR.callp (x := .int (bI (shF H tt = -1))) (gStep_callV rfl rfl (gSh_sheet (j := tt) (by omega)) rfl) (by have := s_X8_isLost (d := d) (by omega) σ tt htt; rw [(hs tt htt).1] at this; exact this) ?_
        refine gR.ifte rfl (fun zc46 => ?_) (fun zc46 => ?_)
        · rw [bI_eq0] at zc46
          refine gR.steps 1 (σ, (57, [some (.ref 18), some (.int (nI ss)), some (.int i), some (.int (nI tt)), some (.int j), some (.int n), some (.ref (70 + ss)), some (.ref (70 + tt))], [.ref (70 + ss)])) rfl ?_
          refine gR.getI rfl (gSh_sheet (j := ss) (by omega)) rfl ?_
          show gR _ _ _ σ (60, [some (.ref 18), some (.int (nI ss)), some (.int i), some (.int (nI tt)), some (.int j), some (.int n), some (.ref (70 + ss)), some (.ref (70 + tt))], [.int (σ (70 + ss) 1)])
          refine gR.steps 1 (σ, (62, [some (.ref 18), some (.int (nI ss)), some (.int i), some (.int (nI tt)), some (.int j), some (.int n), some (.ref (70 + ss)), some (.ref (70 + tt))], [.ref (70 + tt), .int (σ (70 + ss) 1)])) rfl ?_
          refine gR.getI rfl (gSh_sheet (j := tt) (by omega)) rfl ?_
          show gR _ _ _ σ (65, [some (.ref 18), some (.int (nI ss)), some (.int i), some (.int (nI tt)), some (.int j), some (.int n), some (.ref (70 + ss)), some (.ref (70 + tt))], [.int (σ (70 + tt) 1), .int (σ (70 + ss) 1)])
          refine gR.ifte rfl (fun zc65 => ?_) (fun zc65 => ?_)
          · rw [(hs ss hss).1, (hs tt htt).1] at zc65
            refine gR.steps 3 (σ, (79, [some (.ref 18), some (.int (nI ss)), some (.int i), some (.int (nI tt)), some (.int j), some (.int n), some (.ref (70 + ss)), some (.ref (70 + tt))], [.int n, .int i, .ref (70 + ss)])) rfl ?_
            refine gR.callp (gStep_callV rfl rfl (gSh_sheet (j := ss) (by omega)) rfl) (s_X8_hasItems (by omega) σ ss i n (shZ H ss) hss ((hs ss hss).2.2.2.2 zc38).1 (hs ss hss).2.2.1) ?_
            refine gR.ifte rfl (fun zc82 => ?_) (fun zc82 => ?_)
            · rw [bI_eq0] at zc82
              refine gR.steps 2 (σ, (99, [some (.ref 18), some (.int (nI ss)), some (.int i), some (.int (nI tt)), some (.int j), some (.int n), some (.ref (70 + ss)), some (.ref (70 + tt))], [.int 2, .ref 18])) rfl ?_
              refine gR.call' rfl (s_X10_finding (by omega) σ 2) ?_
              rintro _ _ ⟨rfl, rfl⟩ 
              show gR _ _ _ (gUp σ 18 12 (nI 2)) (102, [some (.ref 18), some (.int (nI ss)), some (.int i), some (.int (nI tt)), some (.int j), some (.int n), some (.ref (70 + ss)), some (.ref (70 + tt))], [.int (xFi 2)])
              show gR _ _ _ (gUp σ 18 12 (nI 2)) (102, [some (.ref 18), some (.int (nI ss)), some (.int i), some (.int (nI tt)), some (.int j), some (.int n), some (.ref (70 + ss)), some (.ref (70 + tt))], [.int (xFi 2)])
              refine gR.ret rfl ?_
              have hcs : (nI ss).toNatClampNeg = ss := nI_clamp (by omega)
              have hct : (nI tt).toNatClampNeg = tt := nI_clamp (by omega)
              have hx : xCp H ss tt i j n = 2 := by
                unfold xCp
                rw [if_neg (fun z => z.elim zc38 zc46), if_neg (fun z => z zc65), if_pos (by omega)]
              exact ⟨trivial, by rw [show aCopy H (nI ss) i (nI tt) j n = _ from if_pos ⟨zc4, zc11⟩, hcs, hct, if_neg (by rw [hx]; decide), hx], cShF_fi σ _, by rw [show sCpy H (nI ss) i (nI tt) j n = H from if_neg (by rw [hcs, hct, hx]; exact fun z => absurd z.2 (by decide))]; exact cSh_fi hs, by rw [show lCopy H l (nI ss) i (nI tt) j n = _ from if_pos ⟨⟨zc4, zc11⟩, by rw [hcs, hct, hx]; decide⟩, hcs, hct, hx]; exact gUp_s _ _ _ _⟩
            · rw [bI_eq0, Decidable.not_not] at zc82
              refine gR.steps 3 (σ, (91, [some (.ref 18), some (.int (nI ss)), some (.int i), some (.int (nI tt)), some (.int j), some (.int n), some (.ref (70 + ss)), some (.ref (70 + tt))], [.int n, .int j, .ref (70 + tt)])) rfl ?_
              refine gR.callp (gStep_callV rfl rfl (gSh_sheet (j := tt) (by omega)) rfl) (s_X8_hasItems (by omega) σ tt j n (shZ H tt) htt ((hs tt htt).2.2.2.2 zc46).1 (hs tt htt).2.2.1) ?_
              refine gR.ifte rfl (fun zc94 => ?_) (fun zc94 => ?_)
              · rw [bI_ne0] at zc94
                have hzs := (hs ss hss).2.2.1
                have hzt := (hs tt htt).2.2.1
                obtain ⟨ii, hii, rfl⟩ := gN_of (x := i) (n := 61) (by omega) (by omega) (by omega)
                obtain ⟨jj, hjj, rfl⟩ := gN_of (x := j) (n := 61) (by omega) (by omega) (by omega)
                obtain ⟨kk, hkk, rfl⟩ := gN_of (x := n) (n := 61) (by omega) (by omega) (by omega)
                have t1 := nI_toInt (n := ii) (by omega)
                have t2 := nI_toInt (n := jj) (by omega)
                have t3 := nI_toInt (n := kk) (by omega)
                refine gR.steps 1 (σ, (105, [some (.ref 18), some (.int (nI ss)), some (.int (nI ii)), some (.int (nI tt)), some (.int (nI jj)), some (.int (nI kk)), some (.ref (70 + ss)), some (.ref (70 + tt))], [.ref (70 + ss)])) rfl ?_
                refine gR.getR rfl (gSh_sheet (j := ss) (by omega)) rfl ?_
                show gR _ _ _ σ (108, [some (.ref 18), some (.int (nI ss)), some (.int (nI ii)), some (.int (nI tt)), some (.int (nI jj)), some (.int (nI kk)), some (.ref (70 + ss)), some (.ref (70 + tt))], [.ref (74 + ss)])
                refine gR.steps 2 (σ, (111, [some (.ref 18), some (.int (nI ss)), some (.int (nI ii)), some (.int (nI tt)), some (.int (nI jj)), some (.int (nI kk)), some (.ref (70 + ss)), some (.ref (70 + tt))], [.ref (70 + tt), .int (nI ii), .ref (74 + ss)])) rfl ?_
                refine gR.getR rfl (gSh_sheet (j := tt) (by omega)) rfl ?_
                show gR _ _ _ σ (114, [some (.ref 18), some (.int (nI ss)), some (.int (nI ii)), some (.int (nI tt)), some (.int (nI jj)), some (.int (nI kk)), some (.ref (70 + ss)), some (.ref (70 + tt))], [.ref (74 + tt), .int (nI ii), .ref (74 + ss)])
                refine gR.steps 2 (σ, (118, [some (.ref 18), some (.int (nI ss)), some (.int (nI ii)), some (.int (nI tt)), some (.int (nI jj)), some (.int (nI kk)), some (.ref (70 + ss)), some (.ref (70 + tt))], [.int (nI kk), .int (nI jj), .ref (74 + tt), .int (nI ii), .ref (74 + ss)])) rfl ?_
                refine gR.copyq (x := ii) (y := jj) (k := kk) rfl (gSh_items hss) (gSh_items htt) (by omega) (by omega) (by omega) (by omega) rfl ?_
                refine gR.steps 1 (gUpA σ (74 + tt) (va_cpy (σ (74 + ss)) (σ (74 + tt)) ii jj kk), (122, [some (.ref 18), some (.int (nI ss)), some (.int (nI ii)), some (.int (nI tt)), some (.int (nI jj)), some (.int (nI kk)), some (.ref (70 + ss)), some (.ref (70 + tt))], [.int 1])) rfl ?_
                show gR _ _ _ (gUpA σ (74 + tt) (va_cpy (σ (74 + ss)) (σ (74 + tt)) ii jj kk)) (122, [some (.ref 18), some (.int (nI ss)), some (.int (nI ii)), some (.int (nI tt)), some (.int (nI jj)), some (.int (nI kk)), some (.ref (70 + ss)), some (.ref (70 + tt))], [.int 1])
                refine gR.ret rfl ?_
                have hcs : (nI ss).toNatClampNeg = ss := nI_clamp (by omega)
                have hct : (nI tt).toNatClampNeg = tt := nI_clamp (by omega)
                have hx : xCp H ss tt (nI ii) (nI jj) (nI kk) = 0 := by
                  unfold xCp
                  rw [if_neg (fun z => z.elim zc38 zc46), if_neg (fun z => z zc65), if_neg (by omega)]
                have hci : (nI ii).toNatClampNeg = ii := nI_clamp (by omega)
                have hcj : (nI jj).toNatClampNeg = jj := nI_clamp (by omega)
                have hck : (nI kk).toNatClampNeg = kk := nI_clamp (by omega)
                refine ⟨trivial, ?_, ⟨fun p a b => gUpA_ne (by omega), fun s a => by rw [gUpA_ne (by omega)]⟩, ?_, ?_⟩
                · rw [show aCopy H (nI ss) (nI ii) (nI tt) (nI jj) (nI kk) = _ from if_pos ⟨zc4, zc11⟩, hcs, hct, if_pos hx]
                · rw [show sCpy H (nI ss) (nI ii) (nI tt) (nI jj) (nI kk) = _ from if_pos ⟨⟨zc4, zc11⟩, by rw [hcs, hct]; exact hx⟩, hcs, hct, hci, hcj, hck]; exact cSh_move hs hss htt zc38 (by omega)
                · rw [show lCopy H l (nI ss) (nI ii) (nI tt) (nI jj) (nI kk) = l from if_neg (by rw [hcs, hct]; exact fun z => z.2 hx)]; show gUpA σ (74 + tt) _ 18 12 = nI l; rw [gUpA_ne (by omega)]; exact hl
              · rw [bI_ne0] at zc94
                refine gR.steps 2 (σ, (99, [some (.ref 18), some (.int (nI ss)), some (.int i), some (.int (nI tt)), some (.int j), some (.int n), some (.ref (70 + ss)), some (.ref (70 + tt))], [.int 2, .ref 18])) rfl ?_
                refine gR.call' rfl (s_X10_finding (by omega) σ 2) ?_
                rintro _ _ ⟨rfl, rfl⟩ 
                show gR _ _ _ (gUp σ 18 12 (nI 2)) (102, [some (.ref 18), some (.int (nI ss)), some (.int i), some (.int (nI tt)), some (.int j), some (.int n), some (.ref (70 + ss)), some (.ref (70 + tt))], [.int (xFi 2)])
                show gR _ _ _ (gUp σ 18 12 (nI 2)) (102, [some (.ref 18), some (.int (nI ss)), some (.int i), some (.int (nI tt)), some (.int j), some (.int n), some (.ref (70 + ss)), some (.ref (70 + tt))], [.int (xFi 2)])
                refine gR.ret rfl ?_
                have hcs : (nI ss).toNatClampNeg = ss := nI_clamp (by omega)
                have hct : (nI tt).toNatClampNeg = tt := nI_clamp (by omega)
                have hx : xCp H ss tt i j n = 2 := by
                  unfold xCp
                  rw [if_neg (fun z => z.elim zc38 zc46), if_neg (fun z => z zc65), if_pos (by omega)]
                exact ⟨trivial, by rw [show aCopy H (nI ss) i (nI tt) j n = _ from if_pos ⟨zc4, zc11⟩, hcs, hct, if_neg (by rw [hx]; decide), hx], cShF_fi σ _, by rw [show sCpy H (nI ss) i (nI tt) j n = H from if_neg (by rw [hcs, hct, hx]; exact fun z => absurd z.2 (by decide))]; exact cSh_fi hs, by rw [show lCopy H l (nI ss) i (nI tt) j n = _ from if_pos ⟨⟨zc4, zc11⟩, by rw [hcs, hct, hx]; decide⟩, hcs, hct, hx]; exact gUp_s _ _ _ _⟩
          · rw [(hs ss hss).1, (hs tt htt).1] at zc65
            refine gR.steps 2 (σ, (70, [some (.ref 18), some (.int (nI ss)), some (.int i), some (.int (nI tt)), some (.int j), some (.int n), some (.ref (70 + ss)), some (.ref (70 + tt))], [.int 4, .ref 18])) rfl ?_
            refine gR.call' rfl (s_X10_finding (by omega) σ 4) ?_
            rintro _ _ ⟨rfl, rfl⟩ 
            show gR _ _ _ (gUp σ 18 12 (nI 4)) (73, [some (.ref 18), some (.int (nI ss)), some (.int i), some (.int (nI tt)), some (.int j), some (.int n), some (.ref (70 + ss)), some (.ref (70 + tt))], [.int (xFi 4)])
            show gR _ _ _ (gUp σ 18 12 (nI 4)) (73, [some (.ref 18), some (.int (nI ss)), some (.int i), some (.int (nI tt)), some (.int j), some (.int n), some (.ref (70 + ss)), some (.ref (70 + tt))], [.int (xFi 4)])
            refine gR.ret rfl ?_
            have hcs : (nI ss).toNatClampNeg = ss := nI_clamp (by omega)
            have hct : (nI tt).toNatClampNeg = tt := nI_clamp (by omega)
            have hx : xCp H ss tt i j n = 4 := by
              unfold xCp
              rw [if_neg (fun z => z.elim zc38 zc46), if_pos zc65]
            exact ⟨trivial, by rw [show aCopy H (nI ss) i (nI tt) j n = _ from if_pos ⟨zc4, zc11⟩, hcs, hct, if_neg (by rw [hx]; decide), hx], cShF_fi σ _, by rw [show sCpy H (nI ss) i (nI tt) j n = H from if_neg (by rw [hcs, hct, hx]; exact fun z => absurd z.2 (by decide))]; exact cSh_fi hs, by rw [show lCopy H l (nI ss) i (nI tt) j n = _ from if_pos ⟨⟨zc4, zc11⟩, by rw [hcs, hct, hx]; decide⟩, hcs, hct, hx]; exact gUp_s _ _ _ _⟩
        · rw [bI_eq0, Decidable.not_not] at zc46
          refine gR.steps 2 (σ, (51, [some (.ref 18), some (.int (nI ss)), some (.int i), some (.int (nI tt)), some (.int j), some (.int n), some (.ref (70 + ss)), some (.ref (70 + tt))], [.int 1, .ref 18])) rfl ?_
          refine gR.call' rfl (s_X10_finding (by omega) σ 1) ?_
          rintro _ _ ⟨rfl, rfl⟩ 
          show gR _ _ _ (gUp σ 18 12 (nI 1)) (54, [some (.ref 18), some (.int (nI ss)), some (.int i), some (.int (nI tt)), some (.int j), some (.int n), some (.ref (70 + ss)), some (.ref (70 + tt))], [.int (xFi 1)])
          show gR _ _ _ (gUp σ 18 12 (nI 1)) (54, [some (.ref 18), some (.int (nI ss)), some (.int i), some (.int (nI tt)), some (.int j), some (.int n), some (.ref (70 + ss)), some (.ref (70 + tt))], [.int (xFi 1)])
          refine gR.ret rfl ?_
          have hcs : (nI ss).toNatClampNeg = ss := nI_clamp (by omega)
          have hct : (nI tt).toNatClampNeg = tt := nI_clamp (by omega)
          have hx : xCp H ss tt i j n = 1 := by
            unfold xCp
            first | rw [if_pos (Or.inl zc38)] | rw [if_pos (Or.inr zc46)]
          exact ⟨trivial, by rw [show aCopy H (nI ss) i (nI tt) j n = _ from if_pos ⟨zc4, zc11⟩, hcs, hct, if_neg (by rw [hx]; decide), hx], cShF_fi σ _, by rw [show sCpy H (nI ss) i (nI tt) j n = H from if_neg (by rw [hcs, hct, hx]; exact fun z => absurd z.2 (by decide))]; exact cSh_fi hs, by rw [show lCopy H l (nI ss) i (nI tt) j n = _ from if_pos ⟨⟨zc4, zc11⟩, by rw [hcs, hct, hx]; decide⟩, hcs, hct, hx]; exact gUp_s _ _ _ _⟩
    · rw [bI_ne0] at zc11
      refine gR.steps 1 (σ, (16, [some (.ref 18), some (.int (nI ss)), some (.int i), some (.int t), some (.int j), some (.int n), none, none], [.int (-2)])) rfl ?_
      show gR _ _ _ σ (16, [some (.ref 18), some (.int (nI ss)), some (.int i), some (.int t), some (.int j), some (.int n), none, none], [.int (-2)])
      refine gR.ret rfl ?_
      exact ⟨trivial, by rw [show aCopy H (nI ss) i t j n = -2 from if_neg (by omega)], cShF.rf σ, by rw [show sCpy H (nI ss) i t j n = H from if_neg (fun z => absurd z.1 (by omega))]; exact hs, by rw [show lCopy H l (nI ss) i t j n = l from if_neg (fun z => absurd z.1 (by omega))]; exact hl⟩
theorem s_X2_addI {d : Nat} (hd : 1 ≤ d) (σ : gS) (n : Nat) (a b c : Nat → Nat) (k m q : Int32) (h : cEv σ 27 n a b c) (hn : n < 8) (hm : (0 ≤ k.toInt ∧ k.toInt ≤ 3) ∧ (0 ≤ m.toInt ∧ m.toInt ≤ 23) ∧ (0 ≤ q.toInt ∧ q.toInt ≤ 9)) : gC d 8 [.ref 27, .int k, .int m, .int q] σ (fun r τ => r = some (.int (nI (n + 1))) ∧ (∀ q, q ≠ 27 → q ≠ 28 → q ≠ 29 → q ≠ 30 → τ q = σ q) ∧ cEv τ 27 (n + 1) (xPut a n k.toNatClampNeg) (xPut b n m.toNatClampNeg) (xPut c n q.toNatClampNeg)) := by
  obtain ⟨kk, hkk, rfl⟩ := gN_of (x := k) (n := 4) (by omega) (by omega) (by omega)
  obtain ⟨mm, hmm, rfl⟩ := gN_of (x := m) (n := 24) (by omega) (by omega) (by omega)
  obtain ⟨qq, hqq, rfl⟩ := gN_of (x := q) (n := 10) (by omega) (by omega) (by omega)
  rw [nI_clamp (by omega), nI_clamp (by omega), nI_clamp (by omega)]
  exact s_X2_add27 hd σ n a b c kk mm qq h hn hkk hmm hqq
theorem xRd_neg {f : Nat → Int32} {z : Nat} {u n : Nat} {D : xDat} (h : aEvent D (f (3 * n)) (f (3 * n + 1)) (f (3 * n + 2)) < 0) : xRd f z u n D = (n, D) := by
  cases u with
  | zero => rfl
  | succ u => exact if_neg (fun w => w.2 h)
theorem aEv_bad {D : xDat} {k m b : Int32} (h : ¬ ((0 ≤ k.toInt ∧ k.toInt ≤ 3) ∧ (0 ≤ m.toInt ∧ m.toInt ≤ 23) ∧ (0 ≤ b.toInt ∧ b.toInt ≤ 9))) : aEvent D k m b < 0 := by
  rw [show aEvent D k m b = -2 from if_neg h]; decide
theorem aEv_full {D : xDat} {k m b : Int32} (h : dN D = 8) : aEvent D k m b < 0 := by
  unfold aEvent
  split
  all_goals first | decide | (rw [if_pos h]; decide)
theorem aEv_ok {D : xDat} {k m b : Int32} (hn : dN D < 8) (h : (0 ≤ k.toInt ∧ k.toInt ≤ 3) ∧ (0 ≤ m.toInt ∧ m.toInt ≤ 23) ∧ (0 ≤ b.toInt ∧ b.toInt ≤ 9)) : ¬ aEvent D k m b < 0 := by
  rw [show aEvent D k m b = _ from if_pos h, if_neg (by omega), Int32.lt_iff_toInt_lt, nI_toInt (by omega), Int32.toInt_zero]; omega
def cReF (σ τ : gS) : Prop := (∀ q, q ≠ 18 → q ≠ 27 → q ≠ 28 → q ≠ 29 → q ≠ 30 → τ q = σ q) ∧ ∀ s, s ≠ 12 → τ 18 s = σ 18 s
theorem cSt_fi {σ : gS} {D : xDat} {v : Int32} (h : cSt σ D) : cSt (gUp σ 18 12 v) D := by
  unfold cSt cT0 cT1 cEv at *
  rw [gUp_ne (by decide), gUp_ne (by decide), gUp_ne (by decide), gUp_ne (by decide), gUp_ne (by decide), gUp_ne (by decide), gUp_ne (by decide), gUp_ne (by decide), gUp_ne (by decide)]
  exact h
theorem s_X10_read {d : Nat} (hd : 4 ≤ d) (σ : gS) (D : xDat) (H : xShe) (l : Nat) (s : Int32) (hD : cSt σ D) (hs : cSh σ H) (hl : cLa σ l) : gC d 53 [.ref 18, .int s] σ (fun r τ => r = some (.int (aRead D H s)) ∧ cReF σ τ ∧ cSt τ (sRead D H s) ∧ cLa τ (lLose H l s)) := by
  obtain ⟨d, rfl⟩ : ∃ k, d = k + 1 := ⟨d - 1, by omega⟩
  refine gC.of (P := pX10_read) (nL := 8) (rt := (some (.int))) (lv := [some (.ref 18), some (.int s), none, none, none, none, none, none]) (by decide +kernel) rfl rfl rfl (by simp [gEnt, Value.category]) rfl ?_
  have hd80 := hD.2.2.1.2.1
  refine gR.steps 1 (σ, (1, [some (.ref 18), some (.int s), none, none, none, none, none, none], [.int s])) rfl ?_
  refine gR.callp rfl (s_X10_isSheet (by omega) σ s) ?_
  refine gR.ifte rfl (fun zc4 => ?_) (fun zc4 => ?_)
  · rw [bI_ne0] at zc4
    obtain ⟨ss, hss, rfl⟩ := gN_of (x := s) (n := 4) (by omega) (by omega) (by omega)
    refine gR.steps 3 (σ, (15, [some (.ref 18), some (.int (nI ss)), none, none, none, none, none, none], [.int (nI ss), .ref 42])) rfl ?_
    refine gR.chk (b := gIn (nI ss) 4) rfl (gN_in rfl (by omega) (by omega)) ?_
    rw [gN_cl rfl (by omega)]
    refine gR.steps 2 (σ, (18, [some (.ref 18), some (.int (nI ss)), some (.ref (70 + ss)), none, none, none, none, none], [.ref (70 + ss)])) rfl ?_
    refine gR.callp (x := .int (bI (shF H ss = -1))) (gStep_callV rfl rfl (gSh_sheet (j := ss) (by omega)) rfl) (by have := s_X8_isLost (d := d) (by omega) σ ss hss; rw [(hs ss hss).1] at this; exact this) ?_
    refine gR.ifte rfl (fun zc21 => ?_) (fun zc21 => ?_)
    · rw [bI_eq0] at zc21
      refine gR.steps 3 (σ, (37, [some (.ref 18), some (.int (nI ss)), some (.ref (70 + ss)), none, none, none, none, none], [.int (σ 27 3)])) rfl ?_
      refine gR.topI (y := nI (dN D)) hD.2.2.1.1 ?_
      refine gR.steps 3 (σ, (41, [some (.ref 18), some (.int (nI ss)), some (.ref (70 + ss)), some (.int (nI (dN D))), some (.int 0), none, none, none], [])) rfl ?_
      refine gR.forget [some (.ref 18), some (.int (nI ss)), some (.ref (70 + ss)), some (.int (nI (dN D))), some (.int (nI (3 * 0))), none, none, none] ⟨rfl, ⟨rfl, ⟨rfl, ⟨rfl, ⟨rfl, trivial⟩⟩⟩⟩⟩ ?_
      refine gR.loop (α := Nat × xDat × gS) (fun ⟨n, D2, τ⟩ => n ≤ 20 ∧ cEvF σ τ ∧ cSt τ D2 ∧ xRd (shI H ss) (shZ H ss) (20 - n) n D2 = xRd (shI H ss) (shZ H ss) 20 0 D ∧ dN D2 = dN D + n) (fun ⟨n, D2, τ⟩ => 20 - n) (fun ⟨n, D2, τ⟩ => (τ, (41, [some (.ref 18), some (.int (nI ss)), some (.ref (70 + ss)), some (.int (nI (dN D))), some (.int (nI (3 * n))), none, none, none], []))) ?_ ⟨0, D, σ⟩ ⟨by omega, fun _ _ _ _ _ => rfl, hD, rfl, rfl⟩
      rintro ⟨n, D2, τ⟩ ⟨hn20, hF, hD2, hX, hN⟩ ih
      show gR _ _ _ τ (41, [some (.ref 18), some (.int (nI ss)), some (.ref (70 + ss)), some (.int (nI (dN D))), some (.int (nI (3 * n))), none, none, none], [])
      have hst : cSh τ H := hs.keep (fun q a b => hF q (by omega) (by omega) (by omega) (by omega))
      have hIs := (hst ss hss).2.2.2.2 zc21
      have hz := (hst ss hss).2.2.1
      have hd8 := hD2.2.2.1.2.1
      refine gR.steps 4 (τ, (46, [some (.ref 18), some (.int (nI ss)), some (.ref (70 + ss)), some (.int (nI (dN D))), some (.int (nI (3 * n))), none, none, none], [.ref (70 + ss), .int ((nI (3 * n)) + 2)])) rfl ?_
      refine gR.getI rfl (gSh_sheet (j := ss) (by omega)) rfl ?_
      show gR _ _ _ τ (49, [some (.ref 18), some (.int (nI ss)), some (.ref (70 + ss)), some (.int (nI (dN D))), some (.int (nI (3 * n))), none, none, none], [.int (τ (70 + ss) 2), .int ((nI (3 * n)) + 2)])
      refine gR.topI (y := nI (shZ H ss)) hIs.1 ?_
      refine gR.ifte rfl (fun zc49 => ?_) (fun zc49 => ?_)
      · rw [gN_le (x := nI (shZ H ss)) (y := (nI (3 * n)) + 2) (a := shZ H ss) (b := 3 * n + 2) rfl (gN_add rfl rfl) (by omega) (by omega)] at zc49
        refine gR.steps 3 (τ, (134, [some (.ref 18), some (.int (nI ss)), some (.ref (70 + ss)), some (.int (nI (dN D))), some (.int (nI (3 * n))), none, none, none], [.int (τ 27 3)])) rfl ?_
        refine gR.topI (y := nI (dN D2)) hD2.2.2.1.1 ?_
        refine gR.steps 2 (τ, (136, [some (.ref 18), some (.int (nI ss)), some (.ref (70 + ss)), some (.int (nI (dN D))), some (.int (nI (3 * n))), none, none, none], [.int ((nI (dN D2)) - (nI (dN D)))])) rfl ?_
        show gR _ _ _ τ (136, [some (.ref 18), some (.int (nI ss)), some (.ref (70 + ss)), some (.int (nI (dN D))), some (.int (nI (3 * n))), none, none, none], [.int ((nI (dN D2)) - (nI (dN D)))])
        refine gR.ret rfl ?_
        have hc : (nI ss).toNatClampNeg = ss := nI_clamp (by omega)
        have hXe : xRd (shI H ss) (shZ H ss) 20 0 D = (n, D2) := by
          rw [← hX]
          first
          | exact xRd_neg (aEv_bad zc101)
          | exact xRd_neg (aEv_full (by omega))
          | exact xRd_stop (by omega)
        refine ⟨trivial, ?_, ⟨fun q _ b c e f => hF q b c e f, fun s _ => by rw [hF 18 (by decide) (by decide) (by decide) (by decide)]⟩, ?_, ?_⟩
        · rw [show aRead D H (nI ss) = _ from if_pos zc4, hc, if_neg zc21, hXe]
          exact gSomeI ((gN_sub rfl rfl (by omega)).trans (congrArg nI (by omega)))
        · rw [show sRead D H (nI ss) = _ from if_pos ⟨zc4, by rw [hc]; exact zc21⟩, hc, hXe]; exact hD2
        · rw [show lLose H l (nI ss) = l from if_neg (by rw [hc]; exact fun z => zc21 z.2)]; show τ 18 12 = nI l; rw [hF 18 (by decide) (by decide) (by decide) (by decide)]; exact hl
      · rw [gN_le (x := nI (shZ H ss)) (y := (nI (3 * n)) + 2) (a := shZ H ss) (b := 3 * n + 2) rfl (gN_add rfl rfl) (by omega) (by omega)] at zc49
        refine gR.steps 3 (τ, (59, [some (.ref 18), some (.int (nI ss)), some (.ref (70 + ss)), some (.int (nI (dN D))), some (.int (nI (3 * n))), none, none, none], [.int (τ 27 3)])) rfl ?_
        refine gR.topI (y := nI (dN D2)) hD2.2.2.1.1 ?_
        refine gR.steps 1 (τ, (61, [some (.ref 18), some (.int (nI ss)), some (.ref (70 + ss)), some (.int (nI (dN D))), some (.int (nI (3 * n))), none, none, none], [.int 8, .int (nI (dN D2))])) rfl ?_
        refine gR.ifte rfl (fun zc61 => ?_) (fun zc61 => ?_)
        · rw [gN_le (x := 8) (y := nI (dN D2)) (a := 8) (b := dN D2) rfl rfl (by omega) (by omega)] at zc61
          refine gR.steps 3 (τ, (134, [some (.ref 18), some (.int (nI ss)), some (.ref (70 + ss)), some (.int (nI (dN D))), some (.int (nI (3 * n))), none, none, none], [.int (τ 27 3)])) rfl ?_
          refine gR.topI (y := nI (dN D2)) hD2.2.2.1.1 ?_
          refine gR.steps 2 (τ, (136, [some (.ref 18), some (.int (nI ss)), some (.ref (70 + ss)), some (.int (nI (dN D))), some (.int (nI (3 * n))), none, none, none], [.int ((nI (dN D2)) - (nI (dN D)))])) rfl ?_
          show gR _ _ _ τ (136, [some (.ref 18), some (.int (nI ss)), some (.ref (70 + ss)), some (.int (nI (dN D))), some (.int (nI (3 * n))), none, none, none], [.int ((nI (dN D2)) - (nI (dN D)))])
          refine gR.ret rfl ?_
          have hc : (nI ss).toNatClampNeg = ss := nI_clamp (by omega)
          have hXe : xRd (shI H ss) (shZ H ss) 20 0 D = (n, D2) := by
            rw [← hX]
            first
            | exact xRd_neg (aEv_bad zc101)
            | exact xRd_neg (aEv_full (by omega))
            | exact xRd_stop (by omega)
          refine ⟨trivial, ?_, ⟨fun q _ b c e f => hF q b c e f, fun s _ => by rw [hF 18 (by decide) (by decide) (by decide) (by decide)]⟩, ?_, ?_⟩
          · rw [show aRead D H (nI ss) = _ from if_pos zc4, hc, if_neg zc21, hXe]
            exact gSomeI ((gN_sub rfl rfl (by omega)).trans (congrArg nI (by omega)))
          · rw [show sRead D H (nI ss) = _ from if_pos ⟨zc4, by rw [hc]; exact zc21⟩, hc, hXe]; exact hD2
          · rw [show lLose H l (nI ss) = l from if_neg (by rw [hc]; exact fun z => zc21 z.2)]; show τ 18 12 = nI l; rw [hF 18 (by decide) (by decide) (by decide) (by decide)]; exact hl
        · rw [gN_le (x := 8) (y := nI (dN D2)) (a := 8) (b := dN D2) rfl rfl (by omega) (by omega)] at zc61
          refine gR.steps 2 (τ, (67, [some (.ref 18), some (.int (nI ss)), some (.ref (70 + ss)), some (.int (nI (dN D))), some (.int (nI (3 * n))), none, none, none], [.int (nI (3 * n)), .ref (70 + ss)])) rfl ?_
          refine gR.callp (x := .int (shI H ss (3 * n))) (gStep_callV rfl rfl (gSh_sheet (j := ss) (by omega)) rfl) (by have := s_X8_item (d := d) (by omega) τ ss (3 * n) (shZ H ss) hss hIs.1 hz (by omega); rw [hIs.2 (3 * n) (by omega)] at this; exact this) ?_
          refine gR.steps 5 (τ, (77, [some (.ref 18), some (.int (nI ss)), some (.ref (70 + ss)), some (.int (nI (dN D))), some (.int (nI (3 * n))), some (.int (shI H ss (3 * n))), none, none], [.int ((nI (3 * n)) + 1), .ref (70 + ss)])) rfl ?_
          rw [show ((nI (3 * n)) + 1 : Int32) = nI (3 * n + 1) from (gN_add rfl rfl)]
          refine gR.callp (x := .int (shI H ss (3 * n + 1))) (gStep_callV rfl rfl (gSh_sheet (j := ss) (by omega)) rfl) (by have := s_X8_item (d := d) (by omega) τ ss (3 * n + 1) (shZ H ss) hss hIs.1 hz (by omega); rw [hIs.2 (3 * n + 1) (by omega)] at this; exact this) ?_
          refine gR.steps 5 (τ, (87, [some (.ref 18), some (.int (nI ss)), some (.ref (70 + ss)), some (.int (nI (dN D))), some (.int (nI (3 * n))), some (.int (shI H ss (3 * n))), some (.int (shI H ss (3 * n + 1))), none], [.int ((nI (3 * n)) + 2), .ref (70 + ss)])) rfl ?_
          rw [show ((nI (3 * n)) + 2 : Int32) = nI (3 * n + 2) from (gN_add rfl rfl)]
          refine gR.callp (x := .int (shI H ss (3 * n + 2))) (gStep_callV rfl rfl (gSh_sheet (j := ss) (by omega)) rfl) (by have := s_X8_item (d := d) (by omega) τ ss (3 * n + 2) (shZ H ss) hss hIs.1 hz (by omega); rw [hIs.2 (3 * n + 2) (by omega)] at this; exact this) ?_
          refine gR.steps 4 (τ, (98, [some (.ref 18), some (.int (nI ss)), some (.ref (70 + ss)), some (.int (nI (dN D))), some (.int (nI (3 * n))), some (.int (shI H ss (3 * n))), some (.int (shI H ss (3 * n + 1))), some (.int (shI H ss (3 * n + 2)))], [.int (shI H ss (3 * n + 2)), .int (shI H ss (3 * n + 1)), .int (shI H ss (3 * n))])) rfl ?_
          refine gR.callp rfl (s_X10_mayBeEvent (by omega) τ (shI H ss (3 * n)) (shI H ss (3 * n + 1)) (shI H ss (3 * n + 2))) ?_
          refine gR.ifte rfl (fun zc101 => ?_) (fun zc101 => ?_)
          · rw [bI_ne0] at zc101
            refine gR.steps 5 (τ, (117, [some (.ref 18), some (.int (nI ss)), some (.ref (70 + ss)), some (.int (nI (dN D))), some (.int (nI (3 * n))), some (.int (shI H ss (3 * n))), some (.int (shI H ss (3 * n + 1))), some (.int (shI H ss (3 * n + 2)))], [.int (shI H ss (3 * n + 2)), .int (shI H ss (3 * n + 1)), .int (shI H ss (3 * n)), .ref 27])) rfl ?_
            refine gR.call' rfl (s_X2_addI (by omega) τ (dN D2) (dK D2) (dM D2) (dB D2) _ _ _ hD2.2.2.1 (by omega) zc101) ?_
            rintro _ υ ⟨rfl, hF2, hE⟩
            have hse : sEvent D2 (shI H ss (3 * n)) (shI H ss (3 * n + 1)) (shI H ss (3 * n + 2)) = _ := (if_pos zc101).trans (if_neg (show ¬ dN D2 = 8 by omega))
            have hD3 : cSt υ (sEvent D2 (shI H ss (3 * n)) (shI H ss (3 * n + 1)) (shI H ss (3 * n + 2))) := by rw [hse]; exact cSt_ev hD2 hF2 hE
            show gR _ _ _ υ (120, [some (.ref 18), some (.int (nI ss)), some (.ref (70 + ss)), some (.int (nI (dN D))), some (.int (nI (3 * n))), some (.int (shI H ss (3 * n))), some (.int (shI H ss (3 * n + 1))), some (.int (shI H ss (3 * n + 2)))], [.int (nI (dN D2 + 1))])
            refine gR.steps 3 (υ, (41, [some (.ref 18), some (.int (nI ss)), some (.ref (70 + ss)), some (.int (nI (dN D))), some (.int ((nI (3 * n)) + 3)), some (.int (shI H ss (3 * n))), some (.int (shI H ss (3 * n + 1))), some (.int (shI H ss (3 * n + 2)))], [])) rfl ?_
            refine gR.forget [some (.ref 18), some (.int (nI ss)), some (.ref (70 + ss)), some (.int (nI (dN D))), some (.int (nI (3 * (n + 1)))), none, none, none] ⟨rfl, ⟨rfl, ⟨rfl, ⟨rfl, ⟨gSomeI ((gN_add (b := 3) rfl rfl).trans (congrArg nI (by omega))), trivial⟩⟩⟩⟩⟩ ?_
            have hzz := ih ⟨n + 1, sEvent D2 (shI H ss (3 * n)) (shI H ss (3 * n + 1)) (shI H ss (3 * n + 2)), υ⟩ ⟨by omega, fun q a b c e => (hF2 q a b c e).trans (hF q a b c e), hD3, by rw [← hX, show 20 - n = 20 - (n + 1) + 1 by omega]; exact (if_pos ⟨by omega, aEv_ok (by omega) zc101⟩).symm, by rw [hse]; show dN D2 + 1 = _; omega⟩ (by dsimp only; omega)
            exact hzz
          · rw [bI_ne0] at zc101
            refine gR.steps 4 (τ, (134, [some (.ref 18), some (.int (nI ss)), some (.ref (70 + ss)), some (.int (nI (dN D))), some (.int (nI (3 * n))), some (.int (shI H ss (3 * n))), some (.int (shI H ss (3 * n + 1))), some (.int (shI H ss (3 * n + 2)))], [.int (τ 27 3)])) rfl ?_
            refine gR.topI (y := nI (dN D2)) hD2.2.2.1.1 ?_
            refine gR.steps 2 (τ, (136, [some (.ref 18), some (.int (nI ss)), some (.ref (70 + ss)), some (.int (nI (dN D))), some (.int (nI (3 * n))), some (.int (shI H ss (3 * n))), some (.int (shI H ss (3 * n + 1))), some (.int (shI H ss (3 * n + 2)))], [.int ((nI (dN D2)) - (nI (dN D)))])) rfl ?_
            show gR _ _ _ τ (136, [some (.ref 18), some (.int (nI ss)), some (.ref (70 + ss)), some (.int (nI (dN D))), some (.int (nI (3 * n))), some (.int (shI H ss (3 * n))), some (.int (shI H ss (3 * n + 1))), some (.int (shI H ss (3 * n + 2)))], [.int ((nI (dN D2)) - (nI (dN D)))])
            refine gR.ret rfl ?_
            have hc : (nI ss).toNatClampNeg = ss := nI_clamp (by omega)
            have hXe : xRd (shI H ss) (shZ H ss) 20 0 D = (n, D2) := by
              rw [← hX]
              first
              | exact xRd_neg (aEv_bad zc101)
              | exact xRd_neg (aEv_full (by omega))
              | exact xRd_stop (by omega)
            refine ⟨trivial, ?_, ⟨fun q _ b c e f => hF q b c e f, fun s _ => by rw [hF 18 (by decide) (by decide) (by decide) (by decide)]⟩, ?_, ?_⟩
            · rw [show aRead D H (nI ss) = _ from if_pos zc4, hc, if_neg zc21, hXe]
              exact gSomeI ((gN_sub rfl rfl (by omega)).trans (congrArg nI (by omega)))
            · rw [show sRead D H (nI ss) = _ from if_pos ⟨zc4, by rw [hc]; exact zc21⟩, hc, hXe]; exact hD2
            · rw [show lLose H l (nI ss) = l from if_neg (by rw [hc]; exact fun z => zc21 z.2)]; show τ 18 12 = nI l; rw [hF 18 (by decide) (by decide) (by decide) (by decide)]; exact hl
    · rw [bI_eq0, Decidable.not_not] at zc21
      refine gR.steps 2 (σ, (26, [some (.ref 18), some (.int (nI ss)), some (.ref (70 + ss)), none, none, none, none, none], [.int 1, .ref 18])) rfl ?_
      refine gR.call' rfl (s_X10_finding (by omega) σ 1) ?_
      rintro _ _ ⟨rfl, rfl⟩ 
      show gR _ _ _ (gUp σ 18 12 (nI 1)) (29, [some (.ref 18), some (.int (nI ss)), some (.ref (70 + ss)), none, none, none, none, none], [.int (xFi 1)])
      show gR _ _ _ (gUp σ 18 12 (nI 1)) (29, [some (.ref 18), some (.int (nI ss)), some (.ref (70 + ss)), none, none, none, none, none], [.int (xFi 1)])
      refine gR.ret rfl ?_
      have hc : (nI ss).toNatClampNeg = ss := nI_clamp (by omega)
      exact ⟨trivial, by rw [show aRead D H (nI ss) = _ from if_pos zc4, hc, if_pos zc21], ⟨fun q a b c e f => gUp_ne a, fun s a => gUp_o (by omega)⟩, by rw [show sRead D H (nI ss) = D from if_neg (by rw [hc]; exact fun z => z.2 zc21)]; exact cSt_fi hD, by rw [show lLose H l (nI ss) = 1 from if_pos ⟨zc4, by rw [hc]; exact zc21⟩]; exact gUp_s _ _ _ _⟩
  · rw [bI_ne0] at zc4
    refine gR.steps 1 (σ, (9, [some (.ref 18), some (.int s), none, none, none, none, none, none], [.int (-2)])) rfl ?_
    show gR _ _ _ σ (9, [some (.ref 18), some (.int s), none, none, none, none, none, none], [.int (-2)])
    refine gR.ret rfl ?_
    exact ⟨trivial, by rw [show aRead D H s = -2 from if_neg (by omega)], ⟨fun _ _ _ _ _ _ => rfl, fun _ _ => rfl⟩, by rw [show sRead D H s = D from if_neg (by omega)]; exact hD, by rw [show lLose H l s = l from if_neg (by omega)]; exact hl⟩
theorem min_eq (z : Nat) (hz : z ≤ 60) : (if (24 : Int32) < nI z then (24 : Int32) else nI z) = nI (min z 24) := by
  by_cases h : 24 < z
  · rw [if_pos ((gN_lt (x := 24) (y := nI z) (a := 24) (b := z) rfl rfl (by omega) (by omega)).mpr h), show min z 24 = 24 by omega]; rfl
  · rw [if_neg (fun q => h ((gN_lt (x := 24) (y := nI z) (a := 24) (b := z) rfl rfl (by omega) (by omega)).mp q)), show min z 24 = z by omega]
def cWrF (σ τ : gS) : Prop := (∀ q, q ≠ 18 → q ≠ 19 → ¬ cScr q → ¬ (70 ≤ q ∧ q ≤ 77) → τ q = σ q) ∧ (∀ s, s ≠ 6 → s ≠ 7 → τ 19 s = σ 19 s) ∧ ∀ s, s ≠ 12 → τ 18 s = σ 18 s
theorem cSh_wr {σ τ : gS} {H : xShe} {s n : Nat} {f : Nat → Int32} (h : cSh σ H) (hs : s < 4) (h1 : ∀ p, p ≠ 74 + s → τ p = σ p) (h2 : ∀ j, j < n → τ (74 + s) j = f j) (h3 : ∀ j, n ≤ j → τ (74 + s) j = σ (74 + s) j) : cSh τ (shWr H s f n) := by
  refine cSh_one (s := s) h (fun t ht e => ⟨h1 _ (by omega), h1 _ (by omega)⟩) (fun t e => ?_) ?_
  · simp only [shWr, shF, shZ, shI, if_neg e, and_self]
  · obtain ⟨a1, a2, a3, a4, a5⟩ := h s hs
    unfold cS1
    simp only [shWr, shF, shZ, shI, if_true]
    rw [h1 (70 + s) (by omega)]
    refine ⟨a1, a2, a3, a4, fun z => ⟨(a5 z).1, fun x hx => ?_⟩⟩
    by_cases e : x < n
    · rw [if_pos e]; exact h2 x e
    · rw [if_neg e, h3 x (by omega)]; exact (a5 z).2 x hx
theorem s_X10_write {d : Nat} (hd : 6 ≤ d) (σ : gS) (D : xDat) (H : xShe) (l : Nat) (s : Int32) (hD : cSt σ D) (hs : cSh σ H) (hl : cLa σ l) : gC d 76 [.ref 18, .int s] σ (fun r τ => r = some (.int (aWrite H s)) ∧ cWrF σ τ ∧ cSh τ (sWrite D H s) ∧ cLa τ (lLose H l s)) := by
  obtain ⟨d, rfl⟩ : ∃ k, d = k + 1 := ⟨d - 1, by omega⟩
  refine gC.of (P := pX10_write) (nL := 5) (rt := (some (.int))) (lv := [some (.ref 18), some (.int s), none, none, none]) (by decide +kernel) rfl rfl rfl (by simp [gEnt, Value.category]) rfl ?_
  refine gR.steps 1 (σ, (1, [some (.ref 18), some (.int s), none, none, none], [.int s])) rfl ?_
  refine gR.callp rfl (s_X10_isSheet (by omega) σ s) ?_
  refine gR.ifte rfl (fun zc4 => ?_) (fun zc4 => ?_)
  · rw [bI_ne0] at zc4
    obtain ⟨ss, hss, rfl⟩ := gN_of (x := s) (n := 4) (by omega) (by omega) (by omega)
    refine gR.steps 3 (σ, (15, [some (.ref 18), some (.int (nI ss)), none, none, none], [.int (nI ss), .ref 42])) rfl ?_
    refine gR.chk (b := gIn (nI ss) 4) rfl (gN_in rfl (by omega) (by omega)) ?_
    rw [gN_cl rfl (by omega)]
    refine gR.steps 2 (σ, (18, [some (.ref 18), some (.int (nI ss)), some (.ref (70 + ss)), none, none], [.ref (70 + ss)])) rfl ?_
    refine gR.callp (x := .int (bI (shF H ss = -1))) (gStep_callV rfl rfl (gSh_sheet (j := ss) (by omega)) rfl) (by have := s_X8_isLost (d := d) (by omega) σ ss hss; rw [(hs ss hss).1] at this; exact this) ?_
    refine gR.ifte rfl (fun zc21 => ?_) (fun zc21 => ?_)
    · rw [bI_eq0] at zc21
      refine gR.steps 4 (σ, (38, [some (.ref 18), some (.int (nI ss)), some (.ref (70 + ss)), none, none], [.ref 27, .ref 19])) rfl ?_
      refine gR.call' rfl (s_X6_reckon27 (by omega) σ D hD) ?_
      rintro _ τ ⟨rfl, hF, hR⟩
      have hst : cSh τ H := hs.keep (fun q a b => hF.1 q (by omega) (by omega))
      have hIs := (hst ss hss).2.2.2.2 zc21
      have hz := (hst ss hss).2.2.1
      show gR _ _ _ τ (41, [some (.ref 18), some (.int (nI ss)), some (.ref (70 + ss)), none, none], [])
      refine gR.steps 1 (τ, (42, [some (.ref 18), some (.int (nI ss)), some (.ref (70 + ss)), none, none], [.ref (70 + ss)])) rfl ?_
      refine gR.getI rfl (gSh_sheet (j := ss) (by omega)) rfl ?_
      show gR _ _ _ τ (45, [some (.ref 18), some (.int (nI ss)), some (.ref (70 + ss)), none, none], [.int (τ (70 + ss) 2)])
      refine gR.topI (y := nI (shZ H ss)) hIs.1 ?_
      refine gR.steps 5 (τ, (54, [some (.ref 18), some (.int (nI ss)), some (.ref (70 + ss)), some (.int (if (24 : Int32) < nI (shZ H ss) then (24 : Int32) else nI (shZ H ss))), some (.int 0)], [])) rfl ?_
      refine gR.forget [some (.ref 18), some (.int (nI ss)), some (.ref (70 + ss)), some (.int (nI (min (shZ H ss) 24))), some (.int 0)] ⟨rfl, rfl, rfl, gSomeI (min_eq _ hz), rfl, trivial⟩ ?_
      refine gR.loop (α := Nat × gS) (fun ⟨m, υ⟩ => m ≤ min (shZ H ss) 24 ∧ (∀ p, p ≠ 74 + ss → υ p = τ p) ∧ (∀ j, j < m → υ (74 + ss) j = wBel D H ss j) ∧ ∀ j, m ≤ j → υ (74 + ss) j = τ (74 + ss) j) (fun ⟨m, υ⟩ => 24 - m) (fun ⟨m, υ⟩ => (υ, (54, [some (.ref 18), some (.int (nI ss)), some (.ref (70 + ss)), some (.int (nI (min (shZ H ss) 24))), some (.int (nI m))], []))) ?_ ⟨0, τ⟩ ⟨Nat.zero_le _, fun _ _ => rfl, fun j hj => absurd hj (Nat.not_lt_zero j), fun _ _ => rfl⟩
      rintro ⟨m, υ⟩ ⟨hm, hF2, hv, hw2⟩ ih
      show gR _ _ _ υ (54, [some (.ref 18), some (.int (nI ss)), some (.ref (70 + ss)), some (.int (nI (min (shZ H ss) 24))), some (.int (nI m))], [])
      refine gR.steps 2 (υ, (57, [some (.ref 18), some (.int (nI ss)), some (.ref (70 + ss)), some (.int (nI (min (shZ H ss) 24))), some (.int (nI m))], [.int (nI (min (shZ H ss) 24)), .int (nI m)])) rfl ?_
      refine gR.ifte rfl (fun zc57 => ?_) (fun zc57 => ?_)
      · rw [gN_le (x := nI (min (shZ H ss) 24)) (y := nI m) (a := min (shZ H ss) 24) (b := m) rfl rfl (by omega) (by omega)] at zc57
        refine gR.steps 1 (υ, (83, [some (.ref 18), some (.int (nI ss)), some (.ref (70 + ss)), some (.int (nI (min (shZ H ss) 24))), some (.int (nI m))], [.int (nI (min (shZ H ss) 24))])) rfl ?_
        show gR _ _ _ υ (83, [some (.ref 18), some (.int (nI ss)), some (.ref (70 + ss)), some (.int (nI (min (shZ H ss) 24))), some (.int (nI m))], [.int (nI (min (shZ H ss) 24))])
        refine gR.ret rfl ?_
        have hc : (nI ss).toNatClampNeg = ss := nI_clamp (by omega)
        obtain rfl : m = min (shZ H ss) 24 := by omega
        refine ⟨trivial, ?_, ⟨fun q a b c e => by rw [hF2 q (by omega), hF.1 q b (fun z => c (by unfold cScr; omega))], fun s a b => by rw [hF2 19 (by omega)]; exact hF.2 s a b, fun s _ => by rw [hF2 18 (by omega), hF.1 18 (by omega) (by omega)]⟩, ?_, ?_⟩
        · rw [show aWrite H (nI ss) = _ from if_pos zc4, hc, if_neg zc21]
        · rw [show sWrite D H (nI ss) = _ from if_pos ⟨zc4, by rw [hc]; exact zc21⟩, hc]; exact cSh_wr hst hss hF2 hv hw2
        · rw [show lLose H l (nI ss) = l from if_neg (by rw [hc]; exact fun z => zc21 z.2)]; show υ 18 12 = nI l; rw [hF2 18 (by omega), hF.1 18 (by omega) (by omega)]; exact hl
      · rw [gN_le (x := nI (min (shZ H ss) 24)) (y := nI m) (a := min (shZ H ss) 24) (b := m) rfl rfl (by omega) (by omega)] at zc57
        refine gR.steps 6 (υ, (72, [some (.ref 18), some (.int (nI ss)), some (.ref (70 + ss)), some (.int (nI (min (shZ H ss) 24))), some (.int (nI m))], [.int (nI m), .ref 49, .int (nI m), .ref (70 + ss)])) rfl ?_
        refine gR.ald (i := nI m) (j := m) (N := 24) (g := υ 49) rfl rfl (by omega) (by omega) ?_
        refine gR.topI (y := nI (dBel D none 0 (m + 1))) (by rw [hF2 49 (by omega)]; exact hR.2.2.1 (m) (by omega)) ?_
        refine gR.call' (gStep_callV rfl rfl (gSh_sheet (j := ss) (by omega)) rfl) (s_X8_put (by omega) υ ss m (shZ H ss) (nI (dBel D none 0 (m + 1))) hss (by rw [hF2 (70 + ss) (by omega)]; exact hIs.1) hz (by omega)) ?_
        rintro _ _ ⟨rfl, rfl⟩ 
        show gR _ _ _ (gUp υ (74 + ss) m (xCut (υ (70 + ss) 1) (nI (dBel D none 0 (m + 1))))) (76, [some (.ref 18), some (.int (nI ss)), some (.ref (70 + ss)), some (.int (nI (min (shZ H ss) 24))), some (.int (nI m))], [])
        refine gR.steps 2 (gUp υ (74 + ss) m (xCut (υ (70 + ss) 1) (nI (dBel D none 0 (m + 1)))), (54, [some (.ref 18), some (.int (nI ss)), some (.ref (70 + ss)), some (.int (nI (min (shZ H ss) 24))), some (.int ((nI m) + 1))], [])) rfl ?_
        refine gR.forget [some (.ref 18), some (.int (nI ss)), some (.ref (70 + ss)), some (.int (nI (min (shZ H ss) 24))), some (.int (nI (m + 1)))] ⟨rfl, ⟨rfl, ⟨rfl, ⟨rfl, ⟨gSomeI (gN_add rfl rfl), trivial⟩⟩⟩⟩⟩ ?_
        have hzz := ih ⟨m + 1, (gUp υ (74 + ss) m (xCut (υ (70 + ss) 1) (nI (dBel D none 0 (m + 1)))))⟩ ⟨by omega, fun p hp => by rw [gUp_ne hp]; exact hF2 p hp, lt_s (fun j hj => by rw [gUp_o (by omega)]; exact hv j hj) (by rw [gUp_s, hF2 (70 + ss) (by omega), (hst ss hss).1]; rfl), fun j hj => by rw [gUp_o (by omega)]; exact hw2 j (by omega)⟩ (by dsimp only; omega)
        exact hzz
    · rw [bI_eq0, Decidable.not_not] at zc21
      refine gR.steps 2 (σ, (26, [some (.ref 18), some (.int (nI ss)), some (.ref (70 + ss)), none, none], [.int 1, .ref 18])) rfl ?_
      refine gR.call' rfl (s_X10_finding (by omega) σ 1) ?_
      rintro _ _ ⟨rfl, rfl⟩ 
      show gR _ _ _ (gUp σ 18 12 (nI 1)) (29, [some (.ref 18), some (.int (nI ss)), some (.ref (70 + ss)), none, none], [.int (xFi 1)])
      show gR _ _ _ (gUp σ 18 12 (nI 1)) (29, [some (.ref 18), some (.int (nI ss)), some (.ref (70 + ss)), none, none], [.int (xFi 1)])
      refine gR.ret rfl ?_
      have hc : (nI ss).toNatClampNeg = ss := nI_clamp (by omega)
      exact ⟨trivial, by rw [show aWrite H (nI ss) = _ from if_pos zc4, hc, if_pos zc21], ⟨fun q a b c e => gUp_ne a, fun s a b => by rw [gUp_ne (by decide)], fun s a => gUp_o (by omega)⟩, by rw [show sWrite D H (nI ss) = H from if_neg (by rw [hc]; exact fun z => z.2 zc21)]; exact cSh_fi hs, by rw [show lLose H l (nI ss) = 1 from if_pos ⟨zc4, by rw [hc]; exact zc21⟩]; exact gUp_s _ _ _ _⟩
  · rw [bI_ne0] at zc4
    refine gR.steps 1 (σ, (9, [some (.ref 18), some (.int s), none, none, none], [.int (-2)])) rfl ?_
    show gR _ _ _ σ (9, [some (.ref 18), some (.int s), none, none, none], [.int (-2)])
    refine gR.ret rfl ?_
    exact ⟨trivial, by rw [show aWrite H s = -2 from if_neg (by omega)], ⟨fun _ _ _ _ _ => rfl, fun _ _ _ => rfl, fun _ _ => rfl⟩, by rw [show sWrite D H s = H from if_neg (by omega)]; exact hs, by rw [show lLose H l s = l from if_neg (by omega)]; exact hl⟩
