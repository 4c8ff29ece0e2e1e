/-! cells go out of the world and come into it -/
theorem k_N.close {X : kX} {n n' : Nat → Nat → Nat} {ad L ad' L' : Nat → Nat → Nat → Nat} {C C' : Nat → Nat → Nat → Nat → Int32} {fr : Nat → Option Cell} {ws : va_W} {H : Heap} (h : k_N X n ad L C fr ws H) (J : Nat → Nat → Nat → Option Nat)
    (hJ : ∀ g r i, k_v n' g r i → (k_v n g r i ∧ J g r i = none ∧ ad' g r i = ad g r i ∧ k_e X n' ad' L' g r i (C' g r i) = k_e X n ad L g r i (C g r i)) ∨ ∃ k, J g r i = some k ∧ ws[k]? = some (ad' g r i, k_e X n' ad' L' g r i (C' g r i)))
    (hi : ∀ g r i g' r' i' k, J g r i = some k → J g' r' i' = some k → g = g' ∧ r = r' ∧ i = i') (hc : k_cap n' L') : k_W X n' ad' L' C' fr H := by
  obtain ⟨⟨h1, h2, h3, h4, h5, h6⟩, hP, hD⟩ := h
  refine ⟨fun g r i hv => ?_, fun g r i g' r' i' hv hv' he => ?_, fun g r i hv => ?_, fun q c hq => ⟨(h4 q c hq).1, (h4 q c hq).2.1, fun g r i hv z => ?_⟩, h5, hc⟩
  · rcases hJ g r i hv with ⟨a1, -, a3, a4⟩ | ⟨k, -, b2⟩
    · rw [a3, a4]
      exact h1 g r i a1
    · exact hP k _ b2
  · rcases hJ g r i hv with ⟨a1, a2, a3, -⟩ | ⟨k, b1, b2⟩ <;> rcases hJ g' r' i' hv' with ⟨c1, c2, c3, -⟩ | ⟨k', d1, d2⟩
    · rw [a3, c3] at he
      exact h2 _ _ _ _ _ _ a1 c1 he
    · have := (hD.2 k' _ d2).2.2 g r i a1
      exact absurd (a3.symm.trans he) this
    · have := (hD.2 k _ b2).2.2 g' r' i' c1
      exact absurd (c3.symm.trans he.symm) this
    · have hk := hD.1 k k' _ _ b2 d2 he
      subst hk
      exact hi _ _ _ _ _ _ k b1 d1
  · rcases hJ g r i hv with ⟨a1, -, a3, -⟩ | ⟨k, -, b2⟩
    · rw [a3]
      exact h3 g r i a1
    · exact (hD.2 k _ b2).1
  · rcases hJ g r i hv with ⟨a1, -, a3, -⟩ | ⟨k, -, b2⟩
    · rw [a3] at z
      exact (h4 q c hq).2.2 g r i a1 z
    · have := (hD.2 k _ b2).2.1
      have e : (ad' g r i, k_e X n' ad' L' g r i (C' g r i)).1 = q := z
      rw [e, hq] at this
      cases this
def k_pl (X : kX) (n : Nat → Nat → Nat) (ad L : Nat → Nat → Nat → Nat) (C : Nat → Nat → Nat → Nat → Int32) (p : Nat × Nat × Nat) : Nat × va_E := (ad p.1 p.2.1 p.2.2, k_e X n ad L p.1 p.2.1 p.2.2 (C p.1 p.2.1 p.2.2))
theorem k_W.takeOut {X : kX} {n n' : Nat → Nat → Nat} {ad L : Nat → Nat → Nat → Nat} {C : Nat → Nat → Nat → Nat → Int32} {fr : Nat → Option Cell} {H : Heap} (h : k_W X n ad L C fr H) (P : List (Nat × Nat × Nat)) (hs : ∀ g r i, k_v n' g r i → k_v n g r i ∧ k_e X n' ad L g r i = k_e X n ad L g r i) (hP : ∀ p ∈ P, k_v n p.1 p.2.1 p.2.2 ∧ ¬ k_v n' p.1 p.2.1 p.2.2) (hn : P.Nodup) (hc : k_cap n' L) : k_N X n' ad L C fr (P.map (k_pl X n ad L C)) H := by
  obtain ⟨h1, h2, h3, h4, h5, h6⟩ := h
  have key : ∀ (k : Nat) (q : Nat × va_E), (P.map (k_pl X n ad L C))[k]? = some q → ∃ p, P[k]? = some p ∧ p ∈ P ∧ q = k_pl X n ad L C p := by
    intro k q hq
    rw [List.getElem?_map] at hq
    cases hp : P[k]? with
    | none => rw [hp] at hq; cases hq
    | some p => rw [hp] at hq; exact ⟨p, rfl, List.mem_of_getElem? hp, (Option.some.inj hq).symm⟩
  refine ⟨⟨fun g r i hv => ?_, fun g r i g' r' i' hv hv' he => h2 _ _ _ _ _ _ (hs _ _ _ hv).1 (hs _ _ _ hv').1 he, fun g r i hv => h3 g r i (hs _ _ _ hv).1, fun q c hq => ⟨(h4 q c hq).1, (h4 q c hq).2.1, fun g r i hv => (h4 q c hq).2.2 g r i (hs _ _ _ hv).1⟩, h5, hc⟩, fun k q hq => ?_, ⟨fun i j x y hx hy hxy => ?_, fun k q hq => ?_⟩⟩
  · obtain ⟨a1, a2⟩ := hs g r i hv
    rw [a2]
    exact h1 g r i a1
  · obtain ⟨p, -, b2, rfl⟩ := key k q hq
    exact h1 _ _ _ (hP p b2).1
  · obtain ⟨p, a1, a2, rfl⟩ := key i x hx
    obtain ⟨p', b1, b2, rfl⟩ := key j y hy
    have e := h2 _ _ _ _ _ _ (hP p a2).1 (hP p' b2).1 hxy
    have ep : p = p' := Prod.ext e.1 (Prod.ext e.2.1 e.2.2)
    subst ep
    exact (List.getElem?_inj (List.getElem?_eq_some_iff.mp a1).1 hn).mp (a1.trans b1.symm)
  · obtain ⟨p, -, b2, rfl⟩ := key k q hq
    obtain ⟨c1, c2⟩ := hP p b2
    refine ⟨h3 _ _ _ c1, ?_, fun g r i hv z => ?_⟩
    · cases hf : fr (k_pl X n ad L C p).1 with
      | none => rfl
      | some c => exact absurd rfl ((h4 _ c hf).2.2 _ _ _ c1)
    · have e := h2 _ _ _ _ _ _ (hs _ _ _ hv).1 c1 z
      rw [e.1, e.2.1, e.2.2] at hv
      exact c2 hv
