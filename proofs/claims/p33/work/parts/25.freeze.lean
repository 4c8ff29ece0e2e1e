/-- pending cells kept over a call that doesn't know them -/
theorem k_N.freeze {X : kX} {n : Nat → Nat → Nat} {ad L : Nat → Nat → Nat → Nat} {C : Nat → Nat → Nat → Nat → Int32} {fr : Nat → Option Cell} {ws : va_W} {H : Heap} (h : k_N X n ad L C fr ws H) : ∃ fr' : Nat → Option Cell, k_W X n ad L C fr' H ∧ ∀ (n' : Nat → Nat → Nat) (ad' L' : Nat → Nat → Nat → Nat) (C' : Nat → Nat → Nat → Nat → Int32) (H1 : Heap), k_W X n' ad' L' C' fr' H1 → k_N X n' ad' L' C' fr ws H1 := by
  classical
  obtain ⟨⟨h1, h2, h3, h4, h5, h6⟩, hP, hD⟩ := h
  have hp : ∀ (k : Nat) (x : Nat × va_E), ws[k]? = some x → (fun q => if ∃ (k : Nat) (x : Nat × va_E), ws[k]? = some x ∧ x.1 = q then H[q]? else fr q) x.1 = H[x.1]? := fun k x hx => if_pos ⟨k, x, hx, rfl⟩
  refine ⟨fun q => if ∃ (k : Nat) (x : Nat × va_E), ws[k]? = some x ∧ x.1 = q then H[q]? else fr q, ⟨h1, h2, h3, fun q c hq => ?_, h5, h6⟩, fun n' ad' L' C' H1 h' => ?_⟩
  · by_cases hw : ∃ (k : Nat) (x : Nat × va_E), ws[k]? = some x ∧ x.1 = q
    · have e : H[q]? = some c := by rw [← hq]; exact (if_pos hw).symm
      obtain ⟨k, x, hx, rfl⟩ := hw
      exact ⟨e, (hD.2 k x hx).1, (hD.2 k x hx).2.2⟩
    · exact h4 q c (by rw [← hq]; exact (if_neg hw).symm)
  · obtain ⟨g1, g2, g3, g4, g5, g6⟩ := h'
    have cell : ∀ (k : Nat) (x : Nat × va_E), ws[k]? = some x → H1[x.1]? = H[x.1]? ∧ ∀ g r i, k_v n' g r i → ad' g r i ≠ x.1 := by
      intro k x hx
      have hlt : x.1 < H.size := (hP k x hx).lt
      have e : H[x.1]? = some (H[x.1]'hlt) := Array.getElem?_eq_getElem hlt
      have q := g4 x.1 (H[x.1]'hlt) ((hp k x hx).trans e)
      exact ⟨q.1.trans e.symm, q.2.2⟩
    refine ⟨⟨g1, g2, g3, fun q c hq => ?_, g5, g6⟩, fun k x hx => (hP k x hx).kept (cell k x hx).1, ⟨hD.1, fun k x hx => ⟨(hD.2 k x hx).1, (hD.2 k x hx).2.1, (cell k x hx).2⟩⟩⟩
    refine g4 q c ?_
    have hw : ¬ ∃ (k : Nat) (x : Nat × va_E), ws[k]? = some x ∧ x.1 = q := by
      rintro ⟨k, x, hx, rfl⟩
      have := (hD.2 k x hx).2.1
      rw [this] at hq
      cases hq
    exact (if_neg hw).trans hq
