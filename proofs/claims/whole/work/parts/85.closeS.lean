/-! THE START: what the constructors made comes into the world -/
def k_nS : Nat → Nat → Nat := fun g r => if g = 0 then k_nD r else if g = 2 then (if r = 14 then 1 else if r = 15 then 27 else 0) else if g = 5 then (if r = 16 then 1 else if r = 17 then 1 else 0) else 0
def k_aS (x0 d1 d2 d3 d4 d5 d6 m0 : Nat) (qs : List Nat) : Nat → Nat → Nat → Nat := fun g r i => if g = 0 then k_aD d2 d3 d4 d5 d1 r i else if g = 2 then (if r = 14 then m0 else qs.getD i 0) else if r = 16 then x0 else d6
def k_ES : KD := fun r i => if r = 15 ∧ i = 23 then (upd (upd (upd (upd (fun _ => 0) 0 (-1)) 1 (-1)) 2 (-1)) 3 (-1)) else fun _ => 0
def k_CS : Nat → Nat → Nat → Nat → Int32 := fun g => if g = 0 then k_D0 else if g = 2 then k_ES else fun _ _ _ => 0
def k_kS (k : Nat) : Nat × Nat × Nat := if k < 27 then (2, 15, 26 - k) else if k = 27 then (2, 14, 0) else if k = 28 then (5, 17, 0) else if k = 29 then (0, 3, 0) else if k = 30 then (0, 1, 2) else if k = 31 then (0, 1, 1) else if k = 32 then (0, 1, 0) else if k = 33 then (0, 0, 0) else (5, 16, 0)
def k_xS (g r i : Nat) : Nat := if g = 0 then (if r = 0 then 33 else if r = 3 then 29 else 32 - i) else if g = 2 then (if r = 14 then 27 else 26 - i) else if r = 16 then 34 else 28
def k_jS (g r i : Nat) : Option Nat := if k_kS (k_xS g r i) = (g, r, i) then some (k_xS g r i) else none
theorem k_jS_k {g r i k : Nat} (h : k_jS g r i = some k) : k_kS k = (g, r, i) := by
  unfold k_jS at h
  split at h
  · next q => cases h; exact q
  · cases h
theorem k_jS_15 {i : Nat} (hi : i < 27) : k_jS 2 15 i = some (26 - i) := by
  have e : k_xS 2 15 i = 26 - i := rfl
  unfold k_jS
  rw [e, if_pos]
  unfold k_kS
  rw [if_pos (by omega), show 26 - (26 - i) = i by omega]
/-- no place without a count -/
theorem k_vz {n : Nat → Nat → Nat} {g r i : Nat} (hn : ∀ r, n g r = 0) : ¬ k_v n g r i := by
  intro hv
  unfold k_v at hv
  split at hv
  · rw [hn] at hv; exact absurd hv.1 (Nat.not_lt_zero _)
  · rw [hn] at hv; exact absurd hv.1 (Nat.not_lt_zero _)
  · rw [hn] at hv; exact absurd hv (Nat.not_lt_zero _)
  · rw [hn] at hv; exact absurd hv (Nat.not_lt_zero _)
  · rw [hn] at hv; exact absurd hv.1 (Nat.not_lt_zero _)
  · rw [hn] at hv; exact absurd hv.1 (Nat.not_lt_zero _)
  · rw [hn] at hv; exact absurd hv (Nat.not_lt_zero _)
theorem k_vS {g r i : Nat} (hv : k_v k_nS g r i) : (g = 0 ∧ ((r = 0 ∧ i = 0) ∨ (r = 3 ∧ i = 0) ∨ (r = 1 ∧ i < 3))) ∨ (g = 2 ∧ ((r = 14 ∧ i = 0) ∨ (r = 15 ∧ i < 27))) ∨ (g = 5 ∧ ((r = 16 ∧ i = 0) ∨ (r = 17 ∧ i = 0))) := by
  by_cases h0 : g = 0
  · subst h0
    exact Or.inl ⟨rfl, k_vD (n := k_nS) (fun _ => rfl) hv⟩
  · by_cases h2 : g = 2
    · subst h2
      refine Or.inr (Or.inl ⟨rfl, ?_⟩)
      have e : ∀ r, k_nS 2 r = if r = 14 then 1 else if r = 15 then 27 else 0 := fun _ => rfl
      unfold k_v at hv
      split at hv
      · exact absurd hv.1 (Nat.not_lt_zero _)
      · exact absurd hv.1 (Nat.not_lt_zero _)
      · exact absurd hv (Nat.not_lt_zero _)
      · exact absurd hv (Nat.not_lt_zero _)
      · exact absurd hv.1 (Nat.not_lt_zero _)
      · exact absurd hv.1 (Nat.not_lt_zero _)
      · rw [e] at hv
        by_cases r14 : r = 14
        · rw [if_pos r14] at hv; exact Or.inl ⟨r14, by omega⟩
        · rw [if_neg r14] at hv
          by_cases r15 : r = 15
          · rw [if_pos r15] at hv; exact Or.inr ⟨r15, hv⟩
          · rw [if_neg r15] at hv; exact absurd hv (Nat.not_lt_zero _)
    · by_cases h5 : g = 5
      · subst h5
        refine Or.inr (Or.inr ⟨rfl, ?_⟩)
        have e : ∀ r, k_nS 5 r = if r = 16 then 1 else if r = 17 then 1 else 0 := fun _ => rfl
        unfold k_v at hv
        split at hv
        · exact absurd hv.1 (Nat.not_lt_zero _)
        · exact absurd hv.1 (Nat.not_lt_zero _)
        · exact absurd hv (Nat.not_lt_zero _)
        · exact absurd hv (Nat.not_lt_zero _)
        · have h1 : i < 1 := hv.1
          exact Or.inr ⟨rfl, by omega⟩
        · exact absurd hv.2.1 (Nat.not_lt_zero _)
        · rw [e] at hv
          by_cases r16 : r = 16
          · rw [if_pos r16] at hv; exact Or.inl ⟨r16, by omega⟩
          · rw [if_neg r16] at hv
            by_cases r17 : r = 17
            · rw [if_pos r17] at hv; exact Or.inr ⟨r17, by omega⟩
            · rw [if_neg r17] at hv; exact absurd hv (Nat.not_lt_zero _)
      · exact absurd hv (k_vz (fun r => by unfold k_nS; rw [if_neg h0, if_neg h2, if_neg h5]))
theorem k_W0 {X : kX} {H : Heap} {ad L : Nat → Nat → Nat → Nat} {C : Nat → Nat → Nat → Nat → Int32} (h : k_H0 X = H) : k_W X (fun _ _ => 0) ad L C (fun _ => none) H := by
  have no : ∀ g r i, ¬ k_v (fun _ _ => 0) g r i := fun g r i => k_vz (fun _ => rfl)
  refine ⟨fun g r i hv => absurd hv (no g r i), fun g r i _ _ _ hv => absurd hv (no g r i), fun g r i hv => absurd hv (no g r i), (fun q c hq => by cases hq), ⟨?_, fun q _ => by rw [h]⟩, fun g i hv => absurd hv (no g 2 i), fun g i hv => absurd hv (no g 18 i)⟩
  show (k_H0 X).size ≤ H.size
  rw [h]
  exact Nat.le_refl _
set_option maxHeartbeats 1000000 in
theorem k_closeS {X : kX} {H : Heap} {x0 d1 d2 d3 d4 d5 d6 m0 q1 q2 q3 q4 q5 q6 q7 q8 q9 q10 q11 q12 q13 q14 q15 q16 q17 q18 q19 q20 q21 q22 q23 q24 q25 q26 q27 : Nat} (h : k_N X (fun _ _ => 0) (fun _ _ _ => 0) (fun _ _ _ => 0) (fun _ _ _ _ => 0) (fun _ => none) [(q27, .inl (X.2.1 0, 8, .inl (fun _ => 0))), (q26, .inl (X.2.1 0, 8, .inl (fun _ => 0))), (q25, .inl (X.2.1 0, 72, .inl (fun _ => 0))), (q24, .inl (X.2.1 0, 4, .inl (upd (upd (upd (upd (fun _ => 0) 0 (-1)) 1 (-1)) 2 (-1)) 3 (-1)))), (q23, .inl (X.2.1 0, 4, .inl (fun _ => 0))), (q22, .inl (X.2.1 0, 4, .inl (fun _ => 0))), (q21, .inl (X.2.1 0, 4, .inl (fun _ => 0))), (q20, .inl (X.2.1 0, 4, .inl (fun _ => 0))), (q19, .inl (X.2.1 0, 64, .inl (fun _ => 0))), (q18, .inl (X.2.1 0, 16, .inl (fun _ => 0))), (q17, .inl (X.2.1 0, 16, .inl (fun _ => 0))), (q16, .inl (X.2.1 0, 16, .inl (fun _ => 0))), (q15, .inl (X.2.1 0, 16, .inl (fun _ => 0))), (q14, .inl (X.2.1 0, 16, .inl (fun _ => 0))), (q13, .inl (X.2.1 0, 16, .inl (fun _ => 0))), (q12, .inl (X.2.1 2, 8, .inl (fun _ => 0))), (q11, .inl (X.2.1 0, 8, .inl (fun _ => 0))), (q10, .inl (X.2.1 0, 8, .inl (fun _ => 0))), (q9, .inl (X.2.1 0, 8, .inl (fun _ => 0))), (q8, .inl (X.2.1 0, 8, .inl (fun _ => 0))), (q7, .inl (X.2.1 0, 8, .inl (fun _ => 0))), (q6, .inl (X.2.1 0, 8, .inl (fun _ => 0))), (q5, .inl (X.2.1 0, 8, .inl (fun _ => 0))), (q4, .inl (X.2.1 0, 8, .inl (fun _ => 0))), (q3, .inl (X.2.1 0, 8, .inl (fun _ => 0))), (q2, .inl (X.2.1 1, 8, .inl (fun _ => 0))), (q1, .inl (X.2.1 1, 8, .inl (fun _ => 0))), (m0, .inr (10, [.int 0, .int 0, .int 0, .int 0, .int 0, .int 0, .int 0, .ref q1, .ref q2, .ref q3, .ref q4, .ref q5, .ref q6, .ref q7, .ref q8, .ref q9, .ref q10, .ref q11, .ref q12, .ref q13, .ref q14, .ref q15, .ref q16, .ref q17, .ref q18, .ref q19, .ref q20, .ref q21, .ref q22, .ref q23, .ref q24, .ref q25, .ref q26, .ref q27])), (d6, .inr (2, [.int 0, .ref X.2.2.2, .int 0])), (d5, .inl (X.2.1 3, 4, .inr (.inr (.inr (.inr (fun _ => none)))))), (d4, .inr (2, [.int 0, .ref X.2.2.2, .int 0])), (d3, .inr (2, [.int 0, .ref X.2.2.2, .int 0])), (d2, .inr (2, [.int 0, .ref X.2.2.2, .int 0])), (d1, .inr (3, [.ref d2, .ref d3, .ref d4, .ref d5, .int 0])), (x0, .inr (9, [.ref d1, .ref d6]))] H) : k_W X k_nS (k_aS x0 d1 d2 d3 d4 d5 d6 m0 [q1, q2, q3, q4, q5, q6, q7, q8, q9, q10, q11, q12, q13, q14, q15, q16, q17, q18, q19, q20, q21, q22, q23, q24, q25, q26, q27]) (fun _ _ _ => 0) k_CS (fun _ => none) H := by
  refine h.close k_jS (fun g r i hv => Or.inr ?_) (fun g1 r1 i1 g2 r2 i2 k e1 e2 => ?_) ⟨fun g i hv => ?_, fun g i hv => ?_⟩
  · rcases k_vS hv with ⟨rfl, hp⟩ | ⟨rfl, ⟨rfl, rfl⟩ | ⟨rfl, hi⟩⟩ | ⟨rfl, ⟨rfl, rfl⟩ | ⟨rfl, rfl⟩⟩
    · have ee := k_eD (X := X) (n := k_nS) (L := fun _ _ _ => 0) (g := 0) (ad := k_aS x0 d1 d2 d3 d4 d5 d6 m0 [q1, q2, q3, q4, q5, q6, q7, q8, q9, q10, q11, q12, q13, q14, q15, q16, q17, q18, q19, q20, q21, q22, q23, q24, q25, q26, q27]) (q1 := d2) (q2 := d3) (q3 := d4) (q4 := d5) (a := d1) (fun _ => rfl) (fun _ _ => rfl) hp
      have e0 : k_CS 0 = k_D0 := rfl
      rw [e0, ee]
      rcases hp with ⟨rfl, rfl⟩ | ⟨rfl, rfl⟩ | ⟨rfl, hi⟩
      · exact ⟨33, by decide, rfl⟩
      · exact ⟨29, by decide, rfl⟩
      · rcases (by omega : i = 0 ∨ i = 1 ∨ i = 2) with rfl | rfl | rfl
        · exact ⟨32, by decide, rfl⟩
        · exact ⟨31, by decide, rfl⟩
        · exact ⟨30, by decide, rfl⟩
    · exact ⟨27, by decide, rfl⟩
    · refine ⟨26 - i, k_jS_15 hi, ?_⟩
      exact match i, hi with
        | 0, _ => rfl
        | 1, _ => rfl
        | 2, _ => rfl
        | 3, _ => rfl
        | 4, _ => rfl
        | 5, _ => rfl
        | 6, _ => rfl
        | 7, _ => rfl
        | 8, _ => rfl
        | 9, _ => rfl
        | 10, _ => rfl
        | 11, _ => rfl
        | 12, _ => rfl
        | 13, _ => rfl
        | 14, _ => rfl
        | 15, _ => rfl
        | 16, _ => rfl
        | 17, _ => rfl
        | 18, _ => rfl
        | 19, _ => rfl
        | 20, _ => rfl
        | 21, _ => rfl
        | 22, _ => rfl
        | 23, _ => rfl
        | 24, _ => rfl
        | 25, _ => rfl
        | 26, _ => rfl
        | j + 27, hj => absurd hj (by omega)
    · exact ⟨34, by decide, rfl⟩
    · exact ⟨28, by decide, rfl⟩
  · have := (k_jS_k e1).symm.trans (k_jS_k e2)
    simp only [Prod.mk.injEq] at this
    exact this
  · rcases k_vS hv with ⟨_, h⟩ | ⟨_, h⟩ | ⟨_, h⟩ <;> omega
  · rcases k_vS hv with ⟨_, h⟩ | ⟨_, h⟩ | ⟨_, h⟩ <;> omega
theorem lw_V0 : q_V (k_CS 0) (k_CS 2) 0 0 0 := by
  refine q_V0 (E := k_ES) (fun k => rfl) (fun d hd => ?_) (fun j i hj => ?_)
  · rcases (by omega : d = 0 ∨ d = 1 ∨ d = 2 ∨ d = 3) with rfl | rfl | rfl | rfl <;> decide
  · show k_ES 15 j i = 0
    unfold k_ES
    rw [if_neg (fun q => hj q.2)]
