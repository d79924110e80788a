theorem gFind_mem : ∀ {P : gProg} {pc : Nat} {sem : gSem}, gFind P pc = some sem → (pc, sem) ∈ P
  | [], pc, sem, h => by simp [gFind] at h
  | (a, t) :: P, pc, sem, h => by
    simp only [gFind] at h
    cases hq : Nat.beq pc a with
    | true =>
      rw [hq] at h
      have := Nat.eq_of_beq_eq_true hq
      subst this
      simp only [cond_true, Option.some.injEq] at h
      subst h
      exact List.mem_cons_self
    | false =>
      rw [hq] at h
      exact List.mem_cons_of_mem _ (gFind_mem (P := P) h)
def gPs0 : List gProg := [pX0_size, pX0_has, pX0_kindOf, pX0_beginOf, pX0_sparksOf, pX1_follow, pX1_beginIn, pX1_stateIn, pX2_add, pX2_dropLast, pX2_clear, pX2_holding, pX2_hindering, pX3_grow, pX3_yellowIn, pX3_seemingIn, pX4_size, pX4_has, pX4_monthOf, pX4_bushOf, pX5_draw, pX6_reckon, pX6_runWith, pX6_countFires, pX6_gatherLooks, pX6_worthOf, pX6_behind, pX6_bounded, pX7_add, pX7_clear, pX7_comeOut, pX8_isLost, pX8_renew, pX8_discard, pX8_hasItems, pX8_item, pX8_put, pX8_narrowed, pX9_put, pX9_clear]
set_option maxRecDepth 100000 in
theorem kAll0 : ∀ x ∈ gMs0.zip gPs0, ∀ q ∈ x.2, gSnd x.1.1.cls x.1.2.1 x.1.2.2.1 none q.1 q.2 := by
  simp only [gMs0, gPs0, List.zip_cons_cons, List.zip_nil_left, List.forall_mem_cons]
  exact ⟨kX0_size, kX0_has, kX0_kindOf, kX0_beginOf, kX0_sparksOf, kX1_follow, kX1_beginIn, kX1_stateIn, kX2_add, kX2_dropLast, kX2_clear, kX2_holding, kX2_hindering, kX3_grow, kX3_yellowIn, kX3_seemingIn, kX4_size, kX4_has, kX4_monthOf, kX4_bushOf, kX5_draw, kX6_reckon, kX6_runWith, kX6_countFires, kX6_gatherLooks, kX6_worthOf, kX6_behind, kX6_bounded, kX7_add, kX7_clear, kX7_comeOut, kX8_isLost, kX8_renew, kX8_discard, kX8_hasItems, kX8_item, kX8_put, kX8_narrowed, kX9_put, kX9_clear, fun _ h => absurd h List.not_mem_nil⟩
def gPs1 : List gProg := [pX9_drop, pX9_parse, pX9_firstFault, pX9_mayStand, pX10_type, pX10_wipe, pX10_undo, pX10_fault, pX10_bush, pX10_look, pX10_set, pX10_event, pX10_back, pX10_read, pX10_at, pX10_hill, pX10_bare, pX10_run, pX10_fake, pX10_last, pX10_plant, pX10_send, pX10_save, pX10_deal, pX10_seen, pX10_forget, pX10_never, pX10_was, pX10_ask, pX10_luck, pX10_century, pX10_sheet, pX10_lose, pX10_lay, pX10_get, pX10_copy, pX10_write, pX10_count, pX10_digest, pX10_digestOfCounts]
set_option maxRecDepth 100000 in
theorem kAll1 : ∀ x ∈ gMs1.zip gPs1, ∀ q ∈ x.2, gSnd x.1.1.cls x.1.2.1 x.1.2.2.1 none q.1 q.2 := by
  simp only [gMs1, gPs1, List.zip_cons_cons, List.zip_nil_left, List.forall_mem_cons]
  exact ⟨kX9_drop, kX9_parse, kX9_firstFault, kX9_mayStand, kX10_type, kX10_wipe, kX10_undo, kX10_fault, kX10_bush, kX10_look, kX10_set, kX10_event, kX10_back, kX10_read, kX10_at, kX10_hill, kX10_bare, kX10_run, kX10_fake, kX10_last, kX10_plant, kX10_send, kX10_save, kX10_deal, kX10_seen, kX10_forget, kX10_never, kX10_was, kX10_ask, kX10_luck, kX10_century, kX10_sheet, kX10_lose, kX10_lay, kX10_get, kX10_copy, kX10_write, kX10_count, kX10_digest, kX10_digestOfCounts, fun _ h => absurd h List.not_mem_nil⟩
def gPs2 : List gProg := [pX10_digestOfMonths, pX10_digestOfLooks, pX10_digestOfBush, pX10_digestOfBushIn, pX10_digestOfHill, pX10_digestOfPlans, pX10_digestOfLuck, pX10_allYellow, pX10_bareIfPlanted, pX10_bestSend, pX10_bestDeal, pX10_fewestToLose, pX10_placeOfBit, pX10_beginsThatFit, pX10_kindsThatFit, pX10_greatestAlike, pX10_bareShares, pX10_gatherHinderers, pX10_hindersAll, pX10_shareOf, pX10_drawEvents, pX10_finding, pX10_findingOfItem, pX10_textOf, pX10_isText, pX10_isMonth, pX10_isSheet, pX10_isForm, pX10_mayBeEvent, pX10_within, pX10_bit, pX11_in, pX11_no, pX11_isTwo, pX11_isIn, pX11_ones, pX11_lesser, pX11_greater, pX11_part, pX11_finds]
set_option maxRecDepth 100000 in
theorem kAll2 : ∀ x ∈ gMs2.zip gPs2, ∀ q ∈ x.2, gSnd x.1.1.cls x.1.2.1 x.1.2.2.1 none q.1 q.2 := by
  simp only [gMs2, gPs2, List.zip_cons_cons, List.zip_nil_left, List.forall_mem_cons]
  exact ⟨kX10_digestOfMonths, kX10_digestOfLooks, kX10_digestOfBush, kX10_digestOfBushIn, kX10_digestOfHill, kX10_digestOfPlans, kX10_digestOfLuck, kX10_allYellow, kX10_bareIfPlanted, kX10_bestSend, kX10_bestDeal, kX10_fewestToLose, kX10_placeOfBit, kX10_beginsThatFit, kX10_kindsThatFit, kX10_greatestAlike, kX10_bareShares, kX10_gatherHinderers, kX10_hindersAll, kX10_shareOf, kX10_drawEvents, kX10_finding, kX10_findingOfItem, kX10_textOf, kX10_isText, kX10_isMonth, kX10_isSheet, kX10_isForm, kX10_mayBeEvent, kX10_within, kX10_bit, kX11_in, kX11_no, kX11_isTwo, kX11_isIn, kX11_ones, kX11_lesser, kX11_greater, kX11_part, kX11_finds, fun _ h => absurd h List.not_mem_nil⟩
def gPs3 : List gProg := [pX11_isSheet, pX11_sheet, pX11_lose, pX11_lacks, pX11_cut, pX11_lay, pX11_get, pX11_copy, pX11_type, pX11_wipe, pX11_undo, pX11_kindOf, pX11_bushOf, pX11_readsBushes, pX11_lookOf, pX11_readsLooks, pX11_readsText, pX11_fault, pX11_isBush, pX11_isMonth, pX11_bush, pX11_lookBy, pX11_look, pX11_set, pX11_puts, pX11_event, pX11_back, pX11_read, pX11_lasts, pX11_isOn, pX11_isSeason, pX11_stateOf, pX11_grows, pX11_isSeeming, pX11_kept, pX11_looked, pX11_believes, pX11_lives, pX11_find, pX11_atBy]
set_option maxRecDepth 100000 in
theorem kAll3 : ∀ x ∈ gMs3.zip gPs3, ∀ q ∈ x.2, gSnd x.1.1.cls x.1.2.1 x.1.2.2.1 none q.1 q.2 := by
  simp only [gMs3, gPs3, List.zip_cons_cons, List.zip_nil_left, List.forall_mem_cons]
  exact ⟨kX11_isSheet, kX11_sheet, kX11_lose, kX11_lacks, kX11_cut, kX11_lay, kX11_get, kX11_copy, kX11_type, kX11_wipe, kX11_undo, kX11_kindOf, kX11_bushOf, kX11_readsBushes, kX11_lookOf, kX11_readsLooks, kX11_readsText, kX11_fault, kX11_isBush, kX11_isMonth, kX11_bush, kX11_lookBy, kX11_look, kX11_set, kX11_puts, kX11_event, kX11_back, kX11_read, kX11_lasts, kX11_isOn, kX11_isSeason, kX11_stateOf, kX11_grows, kX11_isSeeming, kX11_kept, kX11_looked, kX11_believes, kX11_lives, kX11_find, kX11_atBy, fun _ h => absurd h List.not_mem_nil⟩
def gPs4 : List gProg := [pX11_at, pX11_hillBy, pX11_hill, pX11_bareNow, pX11_bare, pX11_runNow, pX11_run, pX11_fakeNow, pX11_fake, pX11_lastBy, pX11_last, pX11_plantBy, pX11_plant, pX11_sendBy, pX11_send, pX11_isSaved, pX11_saveOf, pX11_save, pX11_dealBy, pX11_deal, pX11_seen, pX11_forget, pX11_isSeen, pX11_neverNow, pX11_never, pX11_beganOf, pX11_sortOf, pX11_wasOf, pX11_was, pX11_askOf, pX11_ask, pX11_luckOf, pX11_luck, pX11_lot, pX11_centuryOf, pX11_century, pX11_write, pX11_allYellow, pX11_count, pX11_tellsMonth]
set_option maxRecDepth 100000 in
theorem kAll4 : ∀ x ∈ gMs4.zip gPs4, ∀ q ∈ x.2, gSnd x.1.1.cls x.1.2.1 x.1.2.2.1 none q.1 q.2 := by
  simp only [gMs4, gPs4, List.zip_cons_cons, List.zip_nil_left, List.forall_mem_cons]
  exact ⟨kX11_at, kX11_hillBy, kX11_hill, kX11_bareNow, kX11_bare, kX11_runNow, kX11_run, kX11_fakeNow, kX11_fake, kX11_lastBy, kX11_last, kX11_plantBy, kX11_plant, kX11_sendBy, kX11_send, kX11_isSaved, kX11_saveOf, kX11_save, kX11_dealBy, kX11_deal, kX11_seen, kX11_forget, kX11_isSeen, kX11_neverNow, kX11_never, kX11_beganOf, kX11_sortOf, kX11_wasOf, kX11_was, kX11_askOf, kX11_ask, kX11_luckOf, kX11_luck, kX11_lot, kX11_centuryOf, kX11_century, kX11_write, kX11_allYellow, kX11_count, kX11_tellsMonth, fun _ h => absurd h List.not_mem_nil⟩
def gPs5 : List gProg := [pX11_tellsBush, pX11_digest, pJ6_bitCount_0f7a4, pJ7_fill_53178]
set_option maxRecDepth 100000 in
theorem kAll5 : ∀ x ∈ gMs5.zip gPs5, ∀ q ∈ x.2, gSnd x.1.1.cls x.1.2.1 x.1.2.2.1 none q.1 q.2 := by
  simp only [gMs5, gPs5, List.zip_cons_cons, List.zip_nil_left, List.forall_mem_cons]
  exact ⟨kX11_tellsBush, kX11_digest, kJ6_bitCount_0f7a4, kJ7_fill_53178, fun _ h => absurd h List.not_mem_nil⟩
def gPs : List gProg := gPs0 ++ (gPs1 ++ (gPs2 ++ (gPs3 ++ (gPs4 ++ (gPs5)))))
def gPT (mid : Nat) : gProg := (gAt gPs mid).getD []
theorem gZip_app {α β : Type} {Φ : α × β → Prop} {a c : List α} {b d : List β} (h : a.length = b.length) (h1 : ∀ x ∈ a.zip b, Φ x) (h2 : ∀ x ∈ c.zip d, Φ x) : ∀ x ∈ (a ++ c).zip (b ++ d), Φ x := by
  rw [List.zip_append h]
  intro x hx
  rcases List.mem_append.mp hx with h | h
  · exact h1 x h
  · exact h2 x h
theorem kAll : ∀ x ∈ gMs.zip gPs, ∀ q ∈ x.2, gSnd x.1.1.cls x.1.2.1 x.1.2.2.1 none q.1 q.2 := gZip_app rfl kAll0 (gZip_app rfl kAll1 (gZip_app rfl kAll2 (gZip_app rfl kAll3 (gZip_app rfl kAll4 (kAll5)))))
theorem gPT_len : gMs.length = gPs.length := by decide +kernel
theorem gPT_ok : gProgOK gPT := by
  intro mid hmid pc sem h
  have h1 := gFind_mem h
  have hz : (gM mid, gPT mid) ∈ gMs.zip gPs := by
    have e1 : gMs[mid]? = some (gM mid) := by
      unfold gM
      rw [gAt_eq, List.getElem?_eq_getElem hmid]; rfl
    have hp : mid < gPs.length := by rw [← gPT_len]; exact hmid
    have e2 : gPs[mid]? = some (gPT mid) := by
      unfold gPT
      rw [gAt_eq, List.getElem?_eq_getElem hp]; rfl
    refine List.mem_of_getElem? (i := mid) ?_
    rw [List.getElem?_zip_eq_some]
    exact ⟨e1, e2⟩
  exact kAll _ hz _ h1
/-- what a call comes to -/
def gC (d mid : Nat) (as : List Value) (σ : gS) (Φ : Option Value → gS → Prop) : Prop := ∃ (v : Option Value) (σ' : gS), gEV gPT d mid as σ v σ' ∧ Φ v σ'
theorem gEV_up {PT : Nat → gProg} : ∀ (d : Nat) (mid : Nat) (as : List Value) (σ : gS) (v : Option Value) (σ' : gS), gEV PT d mid as σ v σ' → gEV PT (d + 1) mid as σ v σ'
  | 0, _, _, _, _, _, h => h.elim
  | d + 1, mid, as, σ, v, σ', h => by
    obtain ⟨h1, h2, h3, n, h4⟩ := h
    refine ⟨h1, h2, h3, n, ?_⟩
    have key : ∀ (n : Nat) (σ : gS) (f : gF), gRn (PT mid) (gEV PT d) (fun w τ => w = v ∧ τ = σ') n σ f → gRn (PT mid) (gEV PT (d + 1)) (fun w τ => w = v ∧ τ = σ') n σ f := by
      intro n
      induction n with
      | zero => intro σ f h; exact h
      | succ n ih =>
        intro σ f h
        rcases h with ⟨lv', a, b⟩ | h
        · exact Or.inl ⟨lv', a, ih _ _ b⟩
        · refine Or.inr ?_
          match hr : gStep (PT mid) σ f with
          | none => rw [hr] at h; exact h.elim
          | some (.inl (b, s1, none)) => rw [hr] at h; exact ⟨fun z => ih _ _ (h.1 z), h.2⟩
          | some (.inl (b, s1, some s2)) => rw [hr] at h; exact ⟨fun z => ih _ _ (h.1 z), fun z => ih _ _ (h.2 z)⟩
          | some (.inr (.inl (mid2, as2, f2))) =>
            rw [hr] at h
            obtain ⟨w, τ, he, hw⟩ := h
            exact ⟨w, τ, gEV_up d _ _ _ _ _ he, ih _ _ hw⟩
          | some (.inr (.inr w)) => rw [hr] at h; exact h
    exact key n _ _ h4
theorem gC.up {d d' mid : Nat} {as : List Value} {σ : gS} {Φ : Option Value → gS → Prop} (h : gC d mid as σ Φ) (hd : d ≤ d') : gC d' mid as σ Φ := by
  obtain ⟨v, σ', h1, h2⟩ := h
  refine ⟨v, σ', ?_, h2⟩
  obtain ⟨k, rfl⟩ := Nat.exists_eq_add_of_le hd
  clear h2 hd
  induction k with
  | zero => exact h1
  | succ k ih => exact gEV_up _ _ _ _ _ _ ih
/-- a method's law out of a run of its program -/
theorem gC.of {d mid : Nat} {as : List Value} {σ : gS} {Φ : Option Value → gS → Prop} {P : gProg} {nL : Nat} {rt : Option FieldType} {lv : gL} (hm : mid < gMs.length) (hP : gPT mid = P) (hn : (gM mid).2.2.1 = nL) (hr : (gM mid).2.2.2 = rt) (he : (gEnt as).length ≤ nL) (hl : gEntry nL as = lv)
    (h : gR P (gEV gPT d) (fun v τ => gRetOk rt v ∧ Φ v τ) σ (0, lv, [])) : gC (d + 1) mid as σ Φ := by
  obtain ⟨n, h⟩ := h
  obtain ⟨v, σ', ⟨h1, h2⟩, h3⟩ := gRn.ends n _ _ h
  subst hP; subst hn; subst hr; subst hl
  exact ⟨v, σ', ⟨hm, h1, he, n, h3⟩, h2⟩
theorem gR.call' {P : gProg} {d mid : Nat} {as : List Value} {Fin : Option Value → gS → Prop} {Φ : Option Value → gS → Prop} {σ : gS} {f f1 : gF} (h : gStep P σ f = some (.inr (.inl (mid, as, f1)))) (he : gC d mid as σ Φ) (hn : ∀ v σ1, Φ v σ1 → gR P (gEV gPT d) Fin σ1 (f1.1, f1.2.1, v.toList ++ f1.2.2)) : gR P (gEV gPT d) Fin σ f := by
  obtain ⟨v, σ1, h1, h2⟩ := he
  exact gR.call h h1 (hn v σ1 h2)
theorem gC.mono {d mid : Nat} {as : List Value} {σ : gS} {Φ Ψ : Option Value → gS → Prop} (h : gC d mid as σ Φ) (hm : ∀ v τ, Φ v τ → Ψ v τ) : gC d mid as σ Ψ := by
  obtain ⟨v, σ', h1, h2⟩ := h
  exact ⟨v, σ', h1, hm _ _ h2⟩
def pLaw (L : Nat) (xs : Nat → Int32) : gProg := pLaw0 L xs ++ (pLaw1 L xs ++ (pLaw2 L xs ++ (pLaw3 L xs ++ (pLaw4 L xs ++ (pLaw5 L xs ++ (pLaw6 L xs ++ (pLaw7 L xs ++ (pLaw8 L xs))))))))
theorem kLaw (L : Nat) (xs : Nat → Int32) : ∀ q ∈ pLaw L xs, gSnd R_law code 4 (some (L, xs)) q.1 q.2 := List.forall_mem_append.mpr ⟨kLaw0 L xs, List.forall_mem_append.mpr ⟨kLaw1 L xs, List.forall_mem_append.mpr ⟨kLaw2 L xs, List.forall_mem_append.mpr ⟨kLaw3 L xs, List.forall_mem_append.mpr ⟨kLaw4 L xs, List.forall_mem_append.mpr ⟨kLaw5 L xs, List.forall_mem_append.mpr ⟨kLaw6 L xs, List.forall_mem_append.mpr ⟨kLaw7 L xs, kLaw8 L xs⟩⟩⟩⟩⟩⟩⟩⟩
theorem kLaw_ok (L : Nat) (xs : Nat → Int32) : ∀ pc sem, gFind (pLaw L xs) pc = some sem → gSnd R_law code 4 (some (L, xs)) pc sem := fun _ _ h => kLaw L xs _ (gFind_mem h)
