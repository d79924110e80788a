/-- what was seen, in the model's memory -/
def mSi (σ : gS) (n : Nat) (SM SB SS : Nat → Nat) : Prop := σ 0 24 = nI n ∧ n ≤ 8 ∧ ∀ i, i < n → σ 15 (3 * i) = nI (SM i) ∧ σ 15 (3 * i + 1) = nI (SB i) ∧ σ 15 (3 * i + 2) = nI (SS i) ∧ SM i < 24 ∧ SB i < 10 ∧ SS i < 5
def xAll (f : Nat → Bool) : Nat → Bool
  | 0 => true
  | n + 1 => xAll f n && f n
theorem xAll_congr {f g : Nat → Bool} : ∀ {n : Nat}, (∀ i, i < n → f i = g i) → xAll f n = xAll g n
  | 0, _ => rfl
  | n + 1, h => by simp only [xAll, xAll_congr (n := n) (fun i hi => h i (by omega)), h n (by omega)]
theorem all_t {f : Nat → Bool} {i : Nat} (h1 : xAll f i = true) (h2 : f i = true) : (1 : Int32) = bI (xAll f (i + 1) = true) := (bI_t (by simp only [xAll, h1, h2]; rfl)).symm
theorem all_f {f : Nat → Bool} {i : Nat} (h : ¬ xAll f i = true ∨ ¬ f i = true) : (0 : Int32) = bI (xAll f (i + 1) = true) := (bI_f (by simp only [xAll, Bool.and_eq_true]; rintro ⟨z1, z2⟩; rcases h with h | h; exact h z1; exact h z2)).symm
/-- does a sighting come out -/
def xSee (n : Nat) (K M B : Nat → Nat) (gn : Nat → Bool) (more : Bool) (nb : Nat) (kd bg : Nat → Nat) (SM SB SS : Nat → Nat) (i : Nat) : Bool := decide (SB i < nb ∧ xSt n K M B gn (xWho more nb (SB i)) (kd (SB i)) (bg (SB i)) (SM i) = SS i)
theorem s_X11_isSeen {d : Nat} (hd : 4 ≤ d) (σ : gS) (n : Nat) (K M B : Nat → Nat) (gn : Nat → Bool) (more : Bool) (nb : Nat) (kd bg sp : Nat → Nat) (ns : Nat) (SM SB SS : Nat → Nat) (hE : mEv σ n K M B) (hB : mBu σ nb kd bg sp) (hg : mGone σ gn) (hm : σ 0 21 = bI (more = true)) (hS : mSi σ ns SM SB SS) : gC d 182 [.ref 0] σ (fun r τ => r = some (.int (bI (xAll (xSee n K M B gn more nb kd bg SM SB SS) ns = true))) ∧ τ = σ) := by
  obtain ⟨d, rfl⟩ : ∃ k, d = k + 1 := ⟨d - 1, by omega⟩
  refine gC.of (P := pX11_isSeen) (nL := 4) (rt := (some (.boolean))) (lv := [some (.ref 0), none, none, none]) (by decide +kernel) rfl rfl rfl (by simp [gEnt, Value.category]) rfl ?_
  have hn11 := hB.2.1
  have hs8 := hS.2.1
  refine gR.steps 4 (σ, (4, [some (.ref 0), some (.int 1), some (.int 0), none], [])) rfl ?_
  refine gR.forget [some (.ref 0), some (.int (bI (xAll (xSee n K M B gn more nb kd bg SM SB SS) 0 = true))), some (.int 0), none] ⟨rfl, ⟨gSomeI (bI_t (p := xAll (xSee n K M B gn more nb kd bg SM SB SS) 0 = true) rfl).symm, ⟨rfl, trivial⟩⟩⟩ ?_
  refine gR.loop (α := Nat) (fun i => i ≤ ns) (fun i => ns - i) (fun i => (σ, (4, [some (.ref 0), some (.int (bI (xAll (xSee n K M B gn more nb kd bg SM SB SS) i = true))), some (.int (nI i)), none], []))) ?_ 0 (Nat.zero_le ns)
  rintro i hin ih
  show gR _ _ _ σ (4, [some (.ref 0), some (.int (bI (xAll (xSee n K M B gn more nb kd bg SM SB SS) i = true))), some (.int (nI i)), none], [])
  refine gR.steps 3 (σ, (9, [some (.ref 0), some (.int (bI (xAll (xSee n K M B gn more nb kd bg SM SB SS) i = true))), some (.int (nI i)), none], [.int (σ 0 24), .int (nI i)])) rfl ?_
  refine gR.topI (y := nI (ns)) hS.1 ?_
  refine gR.ifte rfl (fun zc9 => ?_) (fun zc9 => ?_)
  · rw [gN_le (x := nI ns) (y := nI i) (a := ns) (b := i) rfl rfl (by omega) (by omega)] at zc9
    refine gR.steps 1 (σ, (74, [some (.ref 0), some (.int (bI (xAll (xSee n K M B gn more nb kd bg SM SB SS) i = true))), some (.int (nI i)), none], [.int (bI (xAll (xSee n K M B gn more nb kd bg SM SB SS) i = true))])) rfl ?_
    refine gR.ret rfl ?_
    exact ⟨bI_ret _, by rw [show i = ns by omega], rfl⟩
  · rw [gN_le (x := nI ns) (y := nI i) (a := ns) (b := i) rfl rfl (by omega) (by omega)] at zc9
    have hss := hS.2.2 i (by omega)
    refine gR.steps 7 (σ, (21, [some (.ref 0), some (.int (bI (xAll (xSee n K M B gn more nb kd bg SM SB SS) i = true))), some (.int (nI i)), none], [.int ((3 * (nI i)) + 1), .ref 15])) rfl ?_
    refine gR.ald (i := (3 * (nI i)) + 1) (j := 3 * i + 1) (N := 24) (g := σ 15) rfl (gN_add (gN_mul rfl rfl) rfl) (by omega) (by omega) ?_
    refine gR.topI (y := nI (SB i)) (hS.2.2 i (by omega)).2.1 ?_
    refine gR.steps 1 (σ, (23, [some (.ref 0), some (.int (bI (xAll (xSee n K M B gn more nb kd bg SM SB SS) i = true))), some (.int (nI i)), some (.int (nI (SB i)))], [])) rfl ?_
    refine gR.join (α := Int32) σ (fun zv => (66, [some (.ref 0), none, some (.int (nI i)), none], [.int zv])) (bI (xAll (xSee n K M B gn more nb kd bg SM SB SS) (i + 1) = true)) ?_ (fun zj66 => ?_)
    · refine gR.steps 3 (σ, (4, [some (.ref 0), some (.int (bI (xAll (xSee n K M B gn more nb kd bg SM SB SS) (i + 1) = true))), some (.int ((nI i) + 1)), none], [])) rfl ?_
      refine gR.forget [some (.ref 0), some (.int (bI (xAll (xSee n K M B gn more nb kd bg SM SB SS) (i + 1) = true))), some (.int (nI (i + 1))), none] ⟨rfl, ⟨rfl, ⟨gSomeI (gN_add rfl rfl), trivial⟩⟩⟩ ?_
      exact ih (i + 1) (by omega) (by omega)
    · refine gR.steps 1 (σ, (24, [some (.ref 0), some (.int (bI (xAll (xSee n K M B gn more nb kd bg SM SB SS) i = true))), some (.int (nI i)), some (.int (nI (SB i)))], [.int (bI (xAll (xSee n K M B gn more nb kd bg SM SB SS) i = true))])) rfl ?_
      refine gR.ifte rfl (fun zc24 => ?_) (fun zc24 => ?_)
      · rw [bI_eq0] at zc24
        refine gR.steps 1 (σ, (66, [some (.ref 0), some (.int (bI (xAll (xSee n K M B gn more nb kd bg SM SB SS) i = true))), some (.int (nI i)), some (.int (nI (SB i)))], [.int 0])) rfl ?_
        refine gR.forget [some (.ref 0), none, some (.int (nI i)), none] ⟨rfl, ⟨rfl, trivial⟩⟩ ?_
        exact zj66 _ (all_f (Or.inl zc24))
      · rw [bI_eq0, Decidable.not_not] at zc24
        refine gR.steps 2 (σ, (29, [some (.ref 0), some (.int (bI (xAll (xSee n K M B gn more nb kd bg SM SB SS) i = true))), some (.int (nI i)), some (.int (nI (SB i)))], [.int (nI (SB i)), .ref 0])) rfl ?_
        refine gR.callp rfl (s_X11_isBushN (by omega) σ (SB i) nb hB.1 (by omega) (by omega)) ?_
        refine gR.ifte rfl (fun zc32 => ?_) (fun zc32 => ?_)
        · rw [bI_eq0] at zc32
          refine gR.steps 1 (σ, (66, [some (.ref 0), some (.int (bI (xAll (xSee n K M B gn more nb kd bg SM SB SS) i = true))), some (.int (nI i)), some (.int (nI (SB i)))], [.int 0])) rfl ?_
          refine gR.forget [some (.ref 0), none, some (.int (nI i)), none] ⟨rfl, ⟨rfl, trivial⟩⟩ ?_
          exact zj66 _ (all_f (Or.inr (fun z => zc32 (of_decide_eq_true z).1)))
        · rw [bI_eq0, Decidable.not_not] at zc32
          have hx5 := xSt_lt n K M B gn (xWho more nb (SB i)) (kd (SB i)) (bg (SB i)) (SM i)
          refine gR.steps 6 (σ, (43, [some (.ref 0), some (.int (bI (xAll (xSee n K M B gn more nb kd bg SM SB SS) i = true))), some (.int (nI i)), some (.int (nI (SB i)))], [.int (3 * (nI i)), .ref 15, .ref 0])) rfl ?_
          refine gR.ald (i := 3 * (nI i)) (j := 3 * i) (N := 24) (g := σ 15) rfl (gN_mul rfl rfl) (by omega) (by omega) ?_
          refine gR.topI (y := nI (SM i)) (hS.2.2 i (by omega)).1 ?_
          refine gR.steps 1 (σ, (45, [some (.ref 0), some (.int (bI (xAll (xSee n K M B gn more nb kd bg SM SB SS) i = true))), some (.int (nI i)), some (.int (nI (SB i)))], [.int (nI (SB i)), .int (nI (SM i)), .ref 0])) rfl ?_
          refine gR.callp rfl (s_X11_stateOf (by omega) σ n K M B gn more nb kd bg sp (SM i) (SB i) hE hB hg hm (by omega) (by omega)) ?_
          refine gR.steps 7 (σ, (57, [some (.ref 0), some (.int (bI (xAll (xSee n K M B gn more nb kd bg SM SB SS) i = true))), some (.int (nI i)), some (.int (nI (SB i)))], [.int ((3 * (nI i)) + 2), .ref 15, .int (nI (xSt n K M B gn (xWho more nb (SB i)) (kd (SB i)) (bg (SB i)) (SM i)))])) rfl ?_
          refine gR.ald (i := (3 * (nI i)) + 2) (j := 3 * i + 2) (N := 24) (g := σ 15) rfl (gN_add (gN_mul rfl rfl) rfl) (by omega) (by omega) ?_
          refine gR.topI (y := nI (SS i)) (hS.2.2 i (by omega)).2.2.1 ?_
          refine gR.ifte rfl (fun zc58 => ?_) (fun zc58 => ?_)
          · rw [gN_eq (x := nI (xSt n K M B gn (xWho more nb (SB i)) (kd (SB i)) (bg (SB i)) (SM i))) (y := nI (SS i)) (a := xSt n K M B gn (xWho more nb (SB i)) (kd (SB i)) (bg (SB i)) (SM i)) (b := SS i) rfl rfl (by omega) (by omega)] at zc58
            refine gR.steps 1 (σ, (66, [some (.ref 0), some (.int (bI (xAll (xSee n K M B gn more nb kd bg SM SB SS) i = true))), some (.int (nI i)), some (.int (nI (SB i)))], [.int 0])) rfl ?_
            refine gR.forget [some (.ref 0), none, some (.int (nI i)), none] ⟨rfl, ⟨rfl, trivial⟩⟩ ?_
            exact zj66 _ (all_f (Or.inr (fun z => zc58 (of_decide_eq_true z).2)))
          · rw [gN_eq (x := nI (xSt n K M B gn (xWho more nb (SB i)) (kd (SB i)) (bg (SB i)) (SM i))) (y := nI (SS i)) (a := xSt n K M B gn (xWho more nb (SB i)) (kd (SB i)) (bg (SB i)) (SM i)) (b := SS i) rfl rfl (by omega) (by omega)] at zc58
            refine gR.steps 2 (σ, (66, [some (.ref 0), some (.int (bI (xAll (xSee n K M B gn more nb kd bg SM SB SS) i = true))), some (.int (nI i)), some (.int (nI (SB i)))], [.int 1])) rfl ?_
            refine gR.forget [some (.ref 0), none, some (.int (nI i)), none] ⟨rfl, ⟨rfl, trivial⟩⟩ ?_
            exact zj66 _ (all_t zc24 (decide_eq_true ⟨zc32, Decidable.not_not.mp zc58⟩))
theorem gone_1 : ∀ e, e < 8 → ∀ j, j < 8 → (((1 : Int32) <<< (nI e &&& 31)) >>> (nI j &&& 31) &&& 1 = 1 ↔ decide (j = e) = true) := by decide +kernel
theorem mObF.one {σ τ : gS} {s : Nat} (h : mObF s s σ τ) (p : Nat) (hp : p ≠ s) : τ 0 p = σ 0 p := h.2 p hp hp
theorem mEv_ob {σ τ : gS} {n : Nat} {K M B : Nat → Nat} (h : mObF 15 15 σ τ) (hE : mEv σ n K M B) : mEv τ n K M B := mEv_k (h.2 13 (by decide) (by decide)) (h.1 9 (by decide)) hE
theorem mBu_ob {σ τ : gS} {n : Nat} {kd bg sp : Nat → Nat} (h : mObF 15 15 σ τ) (hB : mBu σ n kd bg sp) : mBu τ n kd bg sp := mBu_k (h.2 7 (by decide) (by decide)) (h.1 7 (by decide)) hB
theorem mSi_k {σ τ : gS} {n : Nat} {SM SB SS : Nat → Nat} (h0 : τ 0 24 = σ 0 24) (h15 : τ 15 = σ 15) (h : mSi σ n SM SB SS) : mSi τ n SM SB SS := by
  unfold mSi at *
  rw [h0, h15]; exact h
theorem s_X11_neverNow {d : Nat} (hd : 5 ≤ d) (σ : gS) (n : Nat) (K M B : Nat → Nat) (nb : Nat) (kd bg sp : Nat → Nat) (ns : Nat) (SM SB SS : Nat → Nat) (hE : mEv σ n K M B) (hB : mBu σ nb kd bg sp) (hm : σ 0 21 = 0) (hS : mSi σ ns SM SB SS) : gC d 183 [.ref 0] σ (fun r τ => r = some (.int (xMask (fun e => xAll (xSee n K M B (fun j => decide (j = e)) false nb kd bg SM SB SS) ns) n)) ∧ mObF 15 15 σ τ ∧ τ 0 15 = 0) := by
  obtain ⟨d, rfl⟩ : ∃ k, d = k + 1 := ⟨d - 1, by omega⟩
  refine gC.of (P := pX11_neverNow) (nL := 3) (rt := (some (.int))) (lv := [some (.ref 0), none, none]) (by decide +kernel) rfl rfl rfl (by simp [gEnt, Value.category]) rfl ?_
  have hn8 := hE.2.1
  refine gR.steps 4 (σ, (4, [some (.ref 0), some (.int 0), some (.int 0)], [])) rfl ?_
  refine gR.forget [some (.ref 0), some (.int (xMask (fun e => xAll (xSee n K M B (fun j => decide (j = e)) false nb kd bg SM SB SS) ns) 0)), some (.int 0)] ⟨rfl, ⟨rfl, ⟨rfl, trivial⟩⟩⟩ ?_
  refine gR.loop (α := Nat × gS) (fun ⟨e, τ⟩ => e ≤ n ∧ mObF 15 15 σ τ) (fun ⟨e, τ⟩ => n - e) (fun ⟨e, τ⟩ => (τ, (4, [some (.ref 0), some (.int (xMask (fun e => xAll (xSee n K M B (fun j => decide (j = e)) false nb kd bg SM SB SS) ns) e)), some (.int (nI e))], []))) ?_ ⟨0, σ⟩ ⟨Nat.zero_le n, mObF.rf 15 15 σ⟩
  rintro ⟨e, τ⟩ ⟨hen, hF⟩ ih
  show gR _ _ _ τ (4, [some (.ref 0), some (.int (xMask (fun e => xAll (xSee n K M B (fun j => decide (j = e)) false nb kd bg SM SB SS) ns) e)), some (.int (nI e))], [])
  refine gR.steps 3 (τ, (9, [some (.ref 0), some (.int (xMask (fun e => xAll (xSee n K M B (fun j => decide (j = e)) false nb kd bg SM SB SS) ns) e)), some (.int (nI e))], [.int (τ 0 13), .int (nI e)])) rfl ?_
  refine gR.topI (y := nI (n)) (by rw [hF.one 13 (by decide)]; exact hE.1) ?_
  refine gR.ifte rfl (fun zc9 => ?_) (fun zc9 => ?_)
  · rw [gN_le (x := nI n) (y := nI e) (a := n) (b := e) rfl rfl (by omega) (by omega)] at zc9
    refine gR.steps 4 (gUp τ 0 15 0, (48, [some (.ref 0), some (.int (xMask (fun e => xAll (xSee n K M B (fun j => decide (j = e)) false nb kd bg SM SB SS) ns) e)), some (.int (nI e))], [.int (xMask (fun e => xAll (xSee n K M B (fun j => decide (j = e)) false nb kd bg SM SB SS) ns) e)])) rfl ?_
    show gR _ _ _ (gUp τ 0 15 0) (48, [some (.ref 0), some (.int (xMask (fun e => xAll (xSee n K M B (fun j => decide (j = e)) false nb kd bg SM SB SS) ns) e)), some (.int (nI e))], [.int (xMask (fun e => xAll (xSee n K M B (fun j => decide (j = e)) false nb kd bg SM SB SS) ns) e)])
    refine gR.ret rfl ?_
    exact ⟨trivial, by rw [show e = n by omega], mObF_up (by decide) hF, gUp_s _ _ _ _⟩
  · rw [gN_le (x := nI n) (y := nI e) (a := n) (b := e) rfl rfl (by omega) (by omega)] at zc9
    refine gR.steps 7 (gUp τ 0 15 ((1 : Int32) <<< ((nI e) &&& 31)), (21, [some (.ref 0), some (.int (xMask (fun e => xAll (xSee n K M B (fun j => decide (j = e)) false nb kd bg SM SB SS) ns) e)), some (.int (nI e))], [.ref 0, .int (xMask (fun e => xAll (xSee n K M B (fun j => decide (j = e)) false nb kd bg SM SB SS) ns) e)])) rfl ?_
    have hF2 := mObF_up (s := 15) (v := (1 : Int32) <<< (nI e &&& 31)) (by decide) hF
    refine gR.callp rfl (s_X11_isSeen (by omega) (gUp τ 0 15 ((1 : Int32) <<< ((nI e) &&& 31))) n K M B (fun j => decide (j = e)) false nb kd bg sp ns SM SB SS (mEv_ob hF2 hE) (mBu_ob hF2 hB) (fun j hj => by rw [gUp_s]; exact gone_1 e (by omega) j hj) (by rw [hF2.one 21 (by decide), hm]; rfl) (mSi_k (hF2.one 24 (by decide)) (hF2.1 15 (by decide)) hS)) ?_
    refine gR.ifte rfl (fun zc24 => ?_) (fun zc24 => ?_)
    · rw [bI_eq0] at zc24
      refine gR.steps 5 (gUp τ 0 15 ((1 : Int32) <<< ((nI e) &&& 31)), (4, [some (.ref 0), some (.int ((xMask (fun e => xAll (xSee n K M B (fun j => decide (j = e)) false nb kd bg SM SB SS) ns) e) ||| 0)), some (.int ((nI e) + 1))], [])) rfl ?_
      refine gR.forget [some (.ref 0), some (.int (xMask (fun e => xAll (xSee n K M B (fun j => decide (j = e)) false nb kd bg SM SB SS) ns) (e + 1))), some (.int (nI (e + 1)))] ⟨rfl, ⟨gSomeI (xMask_f (f := (fun e => xAll (xSee n K M B (fun j => decide (j = e)) false nb kd bg SM SB SS) ns)) zc24), ⟨gSomeI (gN_add rfl rfl), trivial⟩⟩⟩ ?_
      exact ih ⟨e + 1, _⟩ ⟨by omega, mObF_up (by decide) hF⟩ (by dsimp only; omega)
    · rw [bI_eq0, Decidable.not_not] at zc24
      refine gR.steps 8 (gUp τ 0 15 ((1 : Int32) <<< ((nI e) &&& 31)), (4, [some (.ref 0), some (.int ((xMask (fun e => xAll (xSee n K M B (fun j => decide (j = e)) false nb kd bg SM SB SS) ns) e) ||| ((1 : Int32) <<< ((nI e) &&& 31)))), some (.int ((nI e) + 1))], [])) rfl ?_
      refine gR.forget [some (.ref 0), some (.int (xMask (fun e => xAll (xSee n K M B (fun j => decide (j = e)) false nb kd bg SM SB SS) ns) (e + 1))), some (.int (nI (e + 1)))] ⟨rfl, ⟨gSomeI (xMask_t (f := (fun e => xAll (xSee n K M B (fun j => decide (j = e)) false nb kd bg SM SB SS) ns)) zc24), ⟨gSomeI (gN_add rfl rfl), trivial⟩⟩⟩ ?_
      exact ih ⟨e + 1, _⟩ ⟨by omega, mObF_up (by decide) hF⟩ (by dsimp only; omega)
theorem mObF.keep15 {σ τ : gS} (h : mObF 15 15 σ τ) (h0 : τ 0 15 = σ 0 15) : mKeep σ τ := ⟨fun q hq _ => h.1 q hq, fun s _ _ _ _ => by
  by_cases hs : s = 15
  · rw [hs]; exact h0
  · exact h.2 s hs hs⟩
/-- the sightings' data -/
abbrev xSig : Type := Nat × (Nat → Nat) × (Nat → Nat) × (Nat → Nat)
def mSg (σ : gS) (G : xSig) : Prop := mSi σ G.1 G.2.1 G.2.2.1 G.2.2.2
theorem mSg.keep {σ τ : gS} {G : xSig} (h : mSg σ G) (hk : mKeep σ τ) : mSg τ G := mSi_k (hk.2 24 (by decide) (by decide) (by decide) (by decide)) (hk.cell 15) h
def aNever (D : xDat) (G : xSig) : Int32 := xMask (fun e => xAll (xSee (dN D) (dK D) (dM D) (dB D) (fun j => decide (j = e)) false (dNb D) (dKd D) (dBg D) G.2.1 G.2.2.1 G.2.2.2) G.1) (dN D)
theorem s_X11_never {d : Nat} (hd : 7 ≤ d) (σ : gS) (D : xDat) (G : xSig) (hs : mSt σ D) (hg : mSg σ G) : gC d 184 [.ref 0] σ (fun r τ => r = some (.int (aNever D G)) ∧ mKeep σ τ) := by
  obtain ⟨d, rfl⟩ : ∃ k, d = k + 1 := ⟨d - 1, by omega⟩
  refine gC.of (P := pX11_never) (nL := 1) (rt := (some (.int))) (lv := [some (.ref 0)]) (by decide +kernel) rfl rfl rfl (by simp [gEnt, Value.category]) rfl ?_
  refine gR.steps 1 (σ, (1, [some (.ref 0)], [.ref 0])) rfl ?_
  refine gR.call' rfl (s_X11_find (by omega) σ D hs) ?_
  rintro _ τ ⟨rfl, hk, hf⟩
  show gR _ _ _ τ (4, [some (.ref 0)], [])
  refine gR.steps 1 (τ, (5, [some (.ref 0)], [.ref 0])) rfl ?_
  refine gR.call' rfl (s_X11_neverNow (by omega) τ (dN D) (dK D) (dM D) (dB D) (dNb D) (dKd D) (dBg D) (dSp D) G.1 G.2.1 G.2.2.1 G.2.2.2 (hs.keep hk).2.2.1 hf.1 (hs.keep hk).2.2.2.2.2.1 (hg.keep hk)) ?_
  rintro _ τ2 ⟨rfl, hF2, h15⟩
  show gR _ _ _ τ2 (8, [some (.ref 0)], [.int (aNever D G)])
  refine gR.ret rfl ?_
  exact ⟨trivial, rfl, hk.tr (hF2.keep15 (h15.trans (hs.keep hk).2.2.2.2.1.symm))⟩
theorem gUp_back {σ τ : gS} {q i : Nat} (h1 : ∀ p, p ≠ q → τ p = σ p) (h2 : ∀ j, j ≠ i → τ q j = σ q j) : gUp τ q i (σ q i) = σ := by
  funext p j
  rw [gUp_app]
  by_cases hp : p = q
  · subst hp
    by_cases hj : j = i
    · rw [if_pos ⟨rfl, hj⟩, hj]
    · rw [if_neg (fun z => hj z.2)]; exact h2 j hj
  · rw [if_neg (fun z => hp z.1), h1 p hp]
def mOne (q i : Nat) (σ τ : gS) : Prop := (∀ p, p ≠ q → τ p = σ p) ∧ ∀ j, j ≠ i → τ q j = σ q j
theorem mOne.rf (q i : Nat) (σ : gS) : mOne q i σ σ := ⟨fun _ _ => rfl, fun _ _ => rfl⟩
theorem mOne_up {q i : Nat} {σ τ : gS} {v : Int32} (h : mOne q i σ τ) : mOne q i σ (gUp τ q i v) := ⟨fun p hp => by rw [gUp_ne hp]; exact h.1 p hp, fun j hj => by rw [gUp_o (fun z => hj z.2)]; exact h.2 j hj⟩
theorem mBu_bg {σ τ : gS} {nb k v : Nat} {kd bg sp : Nat → Nat} {x : Int32} (h : mOne 7 (3 * k + 1) σ τ) (hB : mBu σ nb kd bg sp) (hk : k < nb) (hv : v < 12) (hx : x = nI v) : mBu (gUp τ 7 (3 * k + 1) x) nb kd (xPut bg k v) sp := by
  refine ⟨by rw [gUp_o (by omega), h.1 0 (by decide)]; exact hB.1, hB.2.1, fun i hi => ?_⟩
  have hb := hB.2.2 i hi
  unfold xPut
  refine ⟨by rw [gUp_o (by omega), h.2 _ (by omega)]; exact hb.1, ?_, by rw [gUp_o (by omega), h.2 _ (by omega)]; exact hb.2.2.1, hb.2.2.2.1, ?_, hb.2.2.2.2.2⟩
  · by_cases hik : i = k
    · subst hik; rw [if_pos rfl, gUp_s]; exact hx
    · rw [if_neg hik, gUp_o (by omega), h.2 _ (by omega)]; exact hb.2.1
  · split
    · exact hv
    · exact hb.2.2.2.2.1
theorem mBu_kd {σ τ : gS} {nb k v : Nat} {kd bg sp : Nat → Nat} {x : Int32} (h : mOne 7 (3 * k) σ τ) (hB : mBu σ nb kd bg sp) (hk : k < nb) (hv : v < 3) (hx : x = nI v) : mBu (gUp τ 7 (3 * k) x) nb (xPut kd k v) bg sp := by
  refine ⟨by rw [gUp_o (by omega), h.1 0 (by decide)]; exact hB.1, hB.2.1, fun i hi => ?_⟩
  have hb := hB.2.2 i hi
  unfold xPut
  refine ⟨?_, by rw [gUp_o (by omega), h.2 _ (by omega)]; exact hb.2.1, by rw [gUp_o (by omega), h.2 _ (by omega)]; exact hb.2.2.1, ?_, hb.2.2.2.2⟩
  · by_cases hik : i = k
    · subst hik; rw [if_pos rfl, gUp_s]; exact hx
    · rw [if_neg hik, gUp_o (by omega), h.2 _ (by omega)]; exact hb.1
  · split
    · exact hv
    · exact hb.2.2.2.1
theorem s_X11_beganOf {d : Nat} (hd : 5 ≤ d) (σ : gS) (n : Nat) (K M B : Nat → Nat) (gn : Nat → Bool) (more : Bool) (nb : Nat) (kd bg sp : Nat → Nat) (ns : Nat) (SM SB SS : Nat → Nat) (k : Nat) (hE : mEv σ n K M B) (hB : mBu σ nb kd bg sp) (hg : mGone σ gn) (hm : σ 0 21 = bI (more = true)) (hS : mSi σ ns SM SB SS) (hk : k < nb) : gC d 185 [.ref 0, .int (nI k)] σ (fun r τ => r = some (.int (xMask (fun v => xAll (xSee n K M B gn more nb kd (xPut bg k v) SM SB SS) ns) 12)) ∧ τ = σ) := by
  obtain ⟨d, rfl⟩ : ∃ k, d = k + 1 := ⟨d - 1, by omega⟩
  refine gC.of (P := pX11_beganOf) (nL := 5) (rt := (some (.int))) (lv := [some (.ref 0), some (.int (nI k)), none, none, none]) (by decide +kernel) rfl rfl rfl (by simp [gEnt, Value.category]) rfl ?_
  have hn11 := hB.2.1
  have hkk := hB.2.2 k hk
  refine gR.steps 7 (σ, (9, [some (.ref 0), some (.int (nI k)), none, none, none], [.int ((3 * (nI k)) + 1), .ref 7])) rfl ?_
  refine gR.ald (i := (3 * (nI k)) + 1) (j := 3 * k + 1) (N := 33) (g := σ 7) rfl (gN_add (gN_mul rfl rfl) rfl) (by omega) (by omega) ?_
  refine gR.topI (y := nI (bg k)) (hB.2.2 k hk).2.1 ?_
  refine gR.steps 5 (σ, (16, [some (.ref 0), some (.int (nI k)), some (.int (nI (bg k))), some (.int 0), some (.int 0)], [])) rfl ?_
  refine gR.forget [some (.ref 0), some (.int (nI k)), some (.int (nI (bg k))), some (.int (xMask (fun v => xAll (xSee n K M B gn more nb kd (xPut bg k v) SM SB SS) ns) 0)), some (.int 0)] ⟨rfl, ⟨rfl, ⟨rfl, ⟨rfl, ⟨rfl, trivial⟩⟩⟩⟩⟩ ?_
  refine gR.loop (α := Nat × gS) (fun ⟨v, τ⟩ => v ≤ 12 ∧ mOne 7 (3 * k + 1) σ τ) (fun ⟨v, τ⟩ => 12 - v) (fun ⟨v, τ⟩ => (τ, (16, [some (.ref 0), some (.int (nI k)), some (.int (nI (bg k))), some (.int (xMask (fun v => xAll (xSee n K M B gn more nb kd (xPut bg k v) SM SB SS) ns) v)), some (.int (nI v))], []))) ?_ ⟨0, σ⟩ ⟨Nat.zero_le 12, mOne.rf 7 (3 * k + 1) σ⟩
  rintro ⟨v, τ⟩ ⟨hv, hF⟩ ih
  show gR _ _ _ τ (16, [some (.ref 0), some (.int (nI k)), some (.int (nI (bg k))), some (.int (xMask (fun v => xAll (xSee n K M B gn more nb kd (xPut bg k v) SM SB SS) ns) v)), some (.int (nI v))], [])
  refine gR.steps 2 (τ, (20, [some (.ref 0), some (.int (nI k)), some (.int (nI (bg k))), some (.int (xMask (fun v => xAll (xSee n K M B gn more nb kd (xPut bg k v) SM SB SS) ns) v)), some (.int (nI v))], [.int 12, .int (nI v)])) rfl ?_
  refine gR.ifte rfl (fun zc20 => ?_) (fun zc20 => ?_)
  · rw [gN_le (x := 12) (y := nI v) (a := 12) (b := v) rfl rfl (by omega) (by omega)] at zc20
    refine gR.steps 8 (τ, (69, [some (.ref 0), some (.int (nI k)), some (.int (nI (bg k))), some (.int (xMask (fun v => xAll (xSee n K M B gn more nb kd (xPut bg k v) SM SB SS) ns) v)), some (.int (nI v))], [.int (nI (bg k)), .int ((3 * (nI k)) + 1), .ref 7])) rfl ?_
    refine gR.ast (i := (3 * (nI k)) + 1) (j := 3 * k + 1) (N := 33) (q := 7) (x := nI (bg k)) rfl (gN_add (gN_mul rfl rfl) rfl) (by omega) (by omega) ?_
    refine gR.steps 1 (gUp τ 7 (3 * k + 1) (nI (bg k)), (71, [some (.ref 0), some (.int (nI k)), some (.int (nI (bg k))), some (.int (xMask (fun v => xAll (xSee n K M B gn more nb kd (xPut bg k v) SM SB SS) ns) v)), some (.int (nI v))], [.int (xMask (fun v => xAll (xSee n K M B gn more nb kd (xPut bg k v) SM SB SS) ns) v)])) rfl ?_
    show gR _ _ _ (gUp τ 7 (3 * k + 1) (nI (bg k))) (71, [some (.ref 0), some (.int (nI k)), some (.int (nI (bg k))), some (.int (xMask (fun v => xAll (xSee n K M B gn more nb kd (xPut bg k v) SM SB SS) ns) v)), some (.int (nI v))], [.int (xMask (fun v => xAll (xSee n K M B gn more nb kd (xPut bg k v) SM SB SS) ns) v)])
    refine gR.ret rfl ?_
    exact ⟨trivial, by rw [show v = 12 by omega], by rw [← (hB.2.2 k hk).2.1]; exact gUp_back hF.1 hF.2⟩
  · rw [gN_le (x := 12) (y := nI v) (a := 12) (b := v) rfl rfl (by omega) (by omega)] at zc20
    refine gR.steps 8 (τ, (34, [some (.ref 0), some (.int (nI k)), some (.int (nI (bg k))), some (.int (xMask (fun v => xAll (xSee n K M B gn more nb kd (xPut bg k v) SM SB SS) ns) v)), some (.int (nI v))], [.int (nI v), .int ((3 * (nI k)) + 1), .ref 7])) rfl ?_
    refine gR.ast (i := (3 * (nI k)) + 1) (j := 3 * k + 1) (N := 33) (q := 7) (x := nI v) rfl (gN_add (gN_mul rfl rfl) rfl) (by omega) (by omega) ?_
    refine gR.steps 2 (gUp τ 7 (3 * k + 1) (nI v), (37, [some (.ref 0), some (.int (nI k)), some (.int (nI (bg k))), some (.int (xMask (fun v => xAll (xSee n K M B gn more nb kd (xPut bg k v) SM SB SS) ns) v)), some (.int (nI v))], [.ref 0, .int (xMask (fun v => xAll (xSee n K M B gn more nb kd (xPut bg k v) SM SB SS) ns) v)])) rfl ?_
    have hF2 := mOne_up (v := nI v) hF
    refine gR.callp rfl (s_X11_isSeen (by omega) (gUp τ 7 (3 * k + 1) (nI v)) n K M B gn more nb kd (xPut bg k v) sp ns SM SB SS (mEv_of (hF2.1 0 (by decide)) (hF2.1 9 (by decide)) hE) (mBu_bg hF hB hk (by omega) rfl) (mGone_of (hF2.1 0 (by decide)) hg) (by rw [hF2.1 0 (by decide)]; exact hm) (mSi_k (by rw [hF2.1 0 (by decide)]) (hF2.1 15 (by decide)) hS)) ?_
    refine gR.ifte rfl (fun zc40 => ?_) (fun zc40 => ?_)
    · rw [bI_eq0] at zc40
      refine gR.steps 5 (gUp τ 7 (3 * k + 1) (nI v), (16, [some (.ref 0), some (.int (nI k)), some (.int (nI (bg k))), some (.int ((xMask (fun v => xAll (xSee n K M B gn more nb kd (xPut bg k v) SM SB SS) ns) v) ||| 0)), some (.int ((nI v) + 1))], [])) rfl ?_
      refine gR.forget [some (.ref 0), some (.int (nI k)), some (.int (nI (bg k))), some (.int (xMask (fun v => xAll (xSee n K M B gn more nb kd (xPut bg k v) SM SB SS) ns) (v + 1))), some (.int (nI (v + 1)))] ⟨rfl, ⟨rfl, ⟨rfl, ⟨gSomeI (xMask_f (f := (fun v => xAll (xSee n K M B gn more nb kd (xPut bg k v) SM SB SS) ns)) zc40), ⟨gSomeI (gN_add rfl rfl), trivial⟩⟩⟩⟩⟩ ?_
      exact ih ⟨v + 1, _⟩ ⟨by omega, mOne_up hF⟩ (by dsimp only; omega)
    · rw [bI_eq0, Decidable.not_not] at zc40
      refine gR.steps 8 (gUp τ 7 (3 * k + 1) (nI v), (16, [some (.ref 0), some (.int (nI k)), some (.int (nI (bg k))), some (.int ((xMask (fun v => xAll (xSee n K M B gn more nb kd (xPut bg k v) SM SB SS) ns) v) ||| ((1 : Int32) <<< ((nI v) &&& 31)))), some (.int ((nI v) + 1))], [])) rfl ?_
      refine gR.forget [some (.ref 0), some (.int (nI k)), some (.int (nI (bg k))), some (.int (xMask (fun v => xAll (xSee n K M B gn more nb kd (xPut bg k v) SM SB SS) ns) (v + 1))), some (.int (nI (v + 1)))] ⟨rfl, ⟨rfl, ⟨rfl, ⟨gSomeI (xMask_t (f := (fun v => xAll (xSee n K M B gn more nb kd (xPut bg k v) SM SB SS) ns)) zc40), ⟨gSomeI (gN_add rfl rfl), trivial⟩⟩⟩⟩⟩ ?_
      exact ih ⟨v + 1, _⟩ ⟨by omega, mOne_up hF⟩ (by dsimp only; omega)
theorem s_X11_sortOf {d : Nat} (hd : 5 ≤ d) (σ : gS) (n : Nat) (K M B : Nat → Nat) (gn : Nat → Bool) (more : Bool) (nb : Nat) (kd bg sp : Nat → Nat) (ns : Nat) (SM SB SS : Nat → Nat) (k : Nat) (hE : mEv σ n K M B) (hB : mBu σ nb kd bg sp) (hg : mGone σ gn) (hm : σ 0 21 = bI (more = true)) (hS : mSi σ ns SM SB SS) (hk : k < nb) : gC d 186 [.ref 0, .int (nI k)] σ (fun r τ => r = some (.int (xMask (fun v => xAll (xSee n K M B gn more nb (xPut kd k v) bg SM SB SS) ns) 3)) ∧ τ = σ) := by
  obtain ⟨d, rfl⟩ : ∃ k, d = k + 1 := ⟨d - 1, by omega⟩
  refine gC.of (P := pX11_sortOf) (nL := 5) (rt := (some (.int))) (lv := [some (.ref 0), some (.int (nI k)), none, none, none]) (by decide +kernel) rfl rfl rfl (by simp [gEnt, Value.category]) rfl ?_
  have hn11 := hB.2.1
  have hkk := hB.2.2 k hk
  refine gR.steps 5 (σ, (7, [some (.ref 0), some (.int (nI k)), none, none, none], [.int (3 * (nI k)), .ref 7])) rfl ?_
  refine gR.ald (i := 3 * (nI k)) (j := 3 * k) (N := 33) (g := σ 7) rfl (gN_mul rfl rfl) (by omega) (by omega) ?_
  refine gR.topI (y := nI (kd k)) (hB.2.2 k hk).1 ?_
  refine gR.steps 5 (σ, (14, [some (.ref 0), some (.int (nI k)), some (.int (nI (kd k))), some (.int 0), some (.int 0)], [])) rfl ?_
  refine gR.forget [some (.ref 0), some (.int (nI k)), some (.int (nI (kd k))), some (.int (xMask (fun v => xAll (xSee n K M B gn more nb (xPut kd k v) bg SM SB SS) ns) 0)), some (.int 0)] ⟨rfl, ⟨rfl, ⟨rfl, ⟨rfl, ⟨rfl, trivial⟩⟩⟩⟩⟩ ?_
  refine gR.loop (α := Nat × gS) (fun ⟨v, τ⟩ => v ≤ 3 ∧ mOne 7 (3 * k) σ τ) (fun ⟨v, τ⟩ => 3 - v) (fun ⟨v, τ⟩ => (τ, (14, [some (.ref 0), some (.int (nI k)), some (.int (nI (kd k))), some (.int (xMask (fun v => xAll (xSee n K M B gn more nb (xPut kd k v) bg SM SB SS) ns) v)), some (.int (nI v))], []))) ?_ ⟨0, σ⟩ ⟨Nat.zero_le 3, mOne.rf 7 (3 * k) σ⟩
  rintro ⟨v, τ⟩ ⟨hv, hF⟩ ih
  show gR _ _ _ τ (14, [some (.ref 0), some (.int (nI k)), some (.int (nI (kd k))), some (.int (xMask (fun v => xAll (xSee n K M B gn more nb (xPut kd k v) bg SM SB SS) ns) v)), some (.int (nI v))], [])
  refine gR.steps 2 (τ, (17, [some (.ref 0), some (.int (nI k)), some (.int (nI (kd k))), some (.int (xMask (fun v => xAll (xSee n K M B gn more nb (xPut kd k v) bg SM SB SS) ns) v)), some (.int (nI v))], [.int 3, .int (nI v)])) rfl ?_
  refine gR.ifte rfl (fun zc17 => ?_) (fun zc17 => ?_)
  · rw [gN_le (x := 3) (y := nI v) (a := 3) (b := v) rfl rfl (by omega) (by omega)] at zc17
    refine gR.steps 6 (τ, (62, [some (.ref 0), some (.int (nI k)), some (.int (nI (kd k))), some (.int (xMask (fun v => xAll (xSee n K M B gn more nb (xPut kd k v) bg SM SB SS) ns) v)), some (.int (nI v))], [.int (nI (kd k)), .int (3 * (nI k)), .ref 7])) rfl ?_
    refine gR.ast (i := 3 * (nI k)) (j := 3 * k) (N := 33) (q := 7) (x := nI (kd k)) rfl (gN_mul rfl rfl) (by omega) (by omega) ?_
    refine gR.steps 1 (gUp τ 7 (3 * k) (nI (kd k)), (64, [some (.ref 0), some (.int (nI k)), some (.int (nI (kd k))), some (.int (xMask (fun v => xAll (xSee n K M B gn more nb (xPut kd k v) bg SM SB SS) ns) v)), some (.int (nI v))], [.int (xMask (fun v => xAll (xSee n K M B gn more nb (xPut kd k v) bg SM SB SS) ns) v)])) rfl ?_
    show gR _ _ _ (gUp τ 7 (3 * k) (nI (kd k))) (64, [some (.ref 0), some (.int (nI k)), some (.int (nI (kd k))), some (.int (xMask (fun v => xAll (xSee n K M B gn more nb (xPut kd k v) bg SM SB SS) ns) v)), some (.int (nI v))], [.int (xMask (fun v => xAll (xSee n K M B gn more nb (xPut kd k v) bg SM SB SS) ns) v)])
    refine gR.ret rfl ?_
    exact ⟨trivial, by rw [show v = 3 by omega], by rw [← (hB.2.2 k hk).1]; exact gUp_back hF.1 hF.2⟩
  · rw [gN_le (x := 3) (y := nI v) (a := 3) (b := v) rfl rfl (by omega) (by omega)] at zc17
    refine gR.steps 6 (τ, (29, [some (.ref 0), some (.int (nI k)), some (.int (nI (kd k))), some (.int (xMask (fun v => xAll (xSee n K M B gn more nb (xPut kd k v) bg SM SB SS) ns) v)), some (.int (nI v))], [.int (nI v), .int (3 * (nI k)), .ref 7])) rfl ?_
    refine gR.ast (i := 3 * (nI k)) (j := 3 * k) (N := 33) (q := 7) (x := nI v) rfl (gN_mul rfl rfl) (by omega) (by omega) ?_
    refine gR.steps 2 (gUp τ 7 (3 * k) (nI v), (32, [some (.ref 0), some (.int (nI k)), some (.int (nI (kd k))), some (.int (xMask (fun v => xAll (xSee n K M B gn more nb (xPut kd k v) bg SM SB SS) ns) v)), some (.int (nI v))], [.ref 0, .int (xMask (fun v => xAll (xSee n K M B gn more nb (xPut kd k v) bg SM SB SS) ns) v)])) rfl ?_
    have hF2 := mOne_up (v := nI v) hF
    refine gR.callp rfl (s_X11_isSeen (by omega) (gUp τ 7 (3 * k) (nI v)) n K M B gn more nb (xPut kd k v) bg sp ns SM SB SS (mEv_of (hF2.1 0 (by decide)) (hF2.1 9 (by decide)) hE) (mBu_kd hF hB hk (by omega) rfl) (mGone_of (hF2.1 0 (by decide)) hg) (by rw [hF2.1 0 (by decide)]; exact hm) (mSi_k (by rw [hF2.1 0 (by decide)]) (hF2.1 15 (by decide)) hS)) ?_
    refine gR.ifte rfl (fun zc35 => ?_) (fun zc35 => ?_)
    · rw [bI_eq0] at zc35
      refine gR.steps 5 (gUp τ 7 (3 * k) (nI v), (14, [some (.ref 0), some (.int (nI k)), some (.int (nI (kd k))), some (.int ((xMask (fun v => xAll (xSee n K M B gn more nb (xPut kd k v) bg SM SB SS) ns) v) ||| 0)), some (.int ((nI v) + 1))], [])) rfl ?_
      refine gR.forget [some (.ref 0), some (.int (nI k)), some (.int (nI (kd k))), some (.int (xMask (fun v => xAll (xSee n K M B gn more nb (xPut kd k v) bg SM SB SS) ns) (v + 1))), some (.int (nI (v + 1)))] ⟨rfl, ⟨rfl, ⟨rfl, ⟨gSomeI (xMask_f (f := (fun v => xAll (xSee n K M B gn more nb (xPut kd k v) bg SM SB SS) ns)) zc35), ⟨gSomeI (gN_add rfl rfl), trivial⟩⟩⟩⟩⟩ ?_
      exact ih ⟨v + 1, _⟩ ⟨by omega, mOne_up hF⟩ (by dsimp only; omega)
    · rw [bI_eq0, Decidable.not_not] at zc35
      refine gR.steps 8 (gUp τ 7 (3 * k) (nI v), (14, [some (.ref 0), some (.int (nI k)), some (.int (nI (kd k))), some (.int ((xMask (fun v => xAll (xSee n K M B gn more nb (xPut kd k v) bg SM SB SS) ns) v) ||| ((1 : Int32) <<< ((nI v) &&& 31)))), some (.int ((nI v) + 1))], [])) rfl ?_
      refine gR.forget [some (.ref 0), some (.int (nI k)), some (.int (nI (kd k))), some (.int (xMask (fun v => xAll (xSee n K M B gn more nb (xPut kd k v) bg SM SB SS) ns) (v + 1))), some (.int (nI (v + 1)))] ⟨rfl, ⟨rfl, ⟨rfl, ⟨gSomeI (xMask_t (f := (fun v => xAll (xSee n K M B gn more nb (xPut kd k v) bg SM SB SS) ns)) zc35), ⟨gSomeI (gN_add rfl rfl), trivial⟩⟩⟩⟩⟩ ?_
      exact ih ⟨v + 1, _⟩ ⟨by omega, mOne_up hF⟩ (by dsimp only; omega)
