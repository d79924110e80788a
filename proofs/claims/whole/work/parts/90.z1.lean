/-- the memory behind both constructors -/
def s0 : gS := fun q => match q with
  | 0 => fun k => if k = 11 then 50 else if k = 12 then 20 else if k = 22 then -1 else 0
  | 1 => upd (upd (upd (upd (fun _ => 0) 0 (-1)) 1 (-1)) 2 (-1)) 3 (-1)
  | 19 => fun k => if k = 7 then -1 else if k = 8 then 50 else if k = 9 then 20 else 0
  | 22 => fun k => if k = 3 then 10 else if k = 4 then 4 else if k = 6 then -1 else 0
  | 25 => fun k => if k = 3 then 12 else if k = 4 then 3 else if k = 6 then -1 else 0
  | 70 => fun k => if k = 1 then -1 else 0
  | 71 => fun k => if k = 1 then -1 else 0
  | 72 => fun k => if k = 1 then -1 else 0
  | 73 => fun k => if k = 1 then -1 else 0
  | _ => fun _ => 0
def z0 : Nat → Nat := fun _ => 0
def A0 : xA := (((0, z0), (0, z0), (0, z0, z0, z0), (50, 20)), (0, z0, z0, z0), (fun _ => -1, fun _ => 0, fun _ _ => 0), 0)
theorem cm0 : cmA s0 A0 := by
  refine ⟨⟨⟨⟨⟨rfl, rfl, rfl, by decide, fun i h => absurd h (Nat.not_lt_zero i)⟩, rfl, rfl⟩, ⟨⟨rfl, rfl, rfl, by decide, fun i h => absurd h (Nat.not_lt_zero i)⟩, rfl, rfl⟩, ⟨rfl, by decide, fun i h => absurd h (Nat.not_lt_zero i)⟩, rfl, by decide, rfl, by decide⟩, ⟨rfl, by decide, fun i h => absurd h (Nat.not_lt_zero i)⟩, ?_, rfl⟩, ⟨⟨rfl, by decide, fun i h => absurd h (Nat.not_lt_zero i)⟩, ⟨rfl, by decide, fun i h => absurd h (Nat.not_lt_zero i)⟩, ⟨rfl, by decide, fun i h => absurd h (Nat.not_lt_zero i)⟩, ⟨rfl, by decide, rfl, by decide⟩, rfl, rfl, rfl⟩, ⟨rfl, by decide, fun i h => absurd h (Nat.not_lt_zero i)⟩, ?_, rfl⟩
  · intro s hs
    rcases (show s = 0 ∨ s = 1 ∨ s = 2 ∨ s = 3 by omega) with rfl | rfl | rfl | rfl
    all_goals exact ⟨rfl, Or.inl rfl, by decide, ⟨0, rfl, by decide⟩, fun z => absurd rfl z⟩
  · intro s hs
    rcases (show s = 0 ∨ s = 1 ∨ s = 2 ∨ s = 3 by omega) with rfl | rfl | rfl | rfl
    all_goals exact ⟨rfl, Or.inl rfl, by decide, ⟨0, rfl, by decide⟩, fun z => absurd rfl z⟩
theorem arrV_cg {cA : ClassId} {n : Nat} {f g : Nat → Value} (h : ∀ j, j < n → f j = g j) : arrV cA n f = arrV cA n g := by
  unfold arrV
  congr 1
  apply Array.ext
  · simp
  · intro i h1 h2
    simp at h1 ⊢
    exact h i h1
theorem ro_X {args : Array Value} {s : State} {tm : Term} {N : Nat} {xs : List Int32} (hN : N < 2 ^ 31) (harr : (Cond.arrayOf tm .int).before args s = true) (hlen : (Term.length tm).eval args s none [] s = some (.int (Int32.ofNat N))) (hel : ∀ j : Nat, j < N → (Term.elem tm (.int (Int32.ofNat j))).eval args s none [] s = some (.int (xs.getD j 0))) : ∃ t : Nat, tm.eval args s none [] s = some (.ref t) ∧ va_X t N (fun i => xs.getD i 0) s s.heap ∧ t < s.heap.size := by
  obtain ⟨t, cell, ht, hat, hv⟩ := Term.length_spec hlen
  obtain ⟨hcell, hkn, -, -⟩ := State.arrayAt?_spec hat
  obtain ⟨hof, -⟩ := Cond.arrayOf_spec harr ht hcell
  have hsz : cell.slots.size < 2 ^ 31 := by
    have hl := hlen
    simp only [Term.eval, ht, hat, Option.bind_eq_bind, Option.bind_some] at hl
    by_cases hlt : cell.slots.size < 2147483648
    · exact hlt
    · simp [hlt] at hl
  have hs : cell.slots.size = N := by
    have e : Int32.ofNat cell.slots.size = Int32.ofNat N := (Value.int.inj hv).symm
    exact (nI_eq hsz hN).mp e
  obtain ⟨t2, ht2, cell2, h1, h2, h3, h4, h5, h6, h7⟩ := va_Tof (A := fun _ => False) (f := fun j => .int (xs.getD j 0)) hN harr hlen hel (fun _ _ => id)
  cases ht.symm.trans ht2
  cases hcell.symm.trans h1
  exact ⟨t, ht, ⟨cell, hcell, hof, hkn, hs, h6⟩, (Array.getElem?_eq_some_iff.mp hcell).1⟩
theorem va_P_refs {D : va_G} {cl : List vw_C} {ws : va_W} {H : Heap} {k a n : Nat} {cA : ClassId} {f g : Nat → Option Nat} (hP : va_P D cl (ws.set k (a, .inl (cA, n, .inr (.inr (.inr (.inr f)))))) H) (hk : ws[k]? = some (a, .inl (cA, n, .inr (.inr (.inr (.inr g)))))) (h : ∀ j, j < n → f j = g j) : va_P D cl ws H := by
  have hlt : k < ws.length := (List.getElem?_eq_some_iff.mp hk).1
  intro i q hq
  by_cases e : i = k
  · subst e
    cases hk.symm.trans hq
    have h1 := hP i (a, .inl (cA, n, .inr (.inr (.inr (.inr f))))) (by rw [List.getElem?_set_self hlt])
    show H[a]? = some (vp_cell cA (n, .inr (.inr (.inr (.inr g)))))
    have h2 : H[a]? = some (vp_cell cA (n, .inr (.inr (.inr (.inr f))))) := h1
    rw [h2]
    exact congrArg some (show arrV cA n (fun j => va_rf (f j)) = arrV cA n (fun j => va_rf (g j)) from arrV_cg (fun j hj => by rw [h j hj]))
  · exact hP i q (by rw [List.getElem?_set_ne (fun z => e z.symm)]; exact hq)
theorem va_D_set {A : Nat → Prop} {ws : va_W} {k a : Nat} {e e2 : va_E} (hD : va_D A (ws.set k (a, e))) (hk : ws[k]? = some (a, e2)) : va_D A ws := by
  have hlt : k < ws.length := (List.getElem?_eq_some_iff.mp hk).1
  have key : ∀ (i : Nat) (q : Nat × va_E), ws[i]? = some q → ∃ q2, (ws.set k (a, e))[i]? = some q2 ∧ q2.1 = q.1 := by
    intro i q hq
    by_cases z : i = k
    · subst z
      cases hk.symm.trans hq
      exact ⟨(a, e), by rw [List.getElem?_set_self hlt], rfl⟩
    · exact ⟨q, by rw [List.getElem?_set_ne (fun y => z y.symm)]; exact hq, rfl⟩
  refine ⟨fun i j p q hp hq hpq => ?_, fun i q hq => ?_⟩
  · obtain ⟨p2, a1, a2⟩ := key i p hp
    obtain ⟨q2, b1, b2⟩ := key j q hq
    exact hD.1 i j p2 q2 a1 b1 (by rw [a2, b2, hpq])
  · obtain ⟨q2, b1, b2⟩ := key i q hq
    rw [← b2]; exact hD.2 i q2 b1
