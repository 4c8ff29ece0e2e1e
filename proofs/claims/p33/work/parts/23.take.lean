/-! a list of the dock taken out of the world -/
def k_n1 (n : Nat → Nat → Nat) (g x : Nat) : Nat → Nat → Nat := fun g' r' => if g' = g ∧ r' = 2 then x else n g' r'
theorem k_n1_r {n : Nat → Nat → Nat} {g x : Nat} (g' : Nat) {r' : Nat} (h : r' ≠ 2) : k_n1 n g x g' r' = n g' r' := if_neg (fun z => h z.2)
theorem k_n1_g {n : Nat → Nat → Nat} {g x : Nat} {g' : Nat} (r' : Nat) (h : g' ≠ g) : k_n1 n g x g' r' = n g' r' := if_neg (fun z => h z.1)
theorem k_n1_2 {n : Nat → Nat → Nat} {g x : Nat} : k_n1 n g x g 2 = x := if_pos ⟨rfl, rfl⟩
theorem k_n1_e (X : kX) (n : Nat → Nat → Nat) (ad L : Nat → Nat → Nat → Nat) (g x g' r' i' : Nat) : k_e X (k_n1 n g x) ad L g' r' i' = k_e X n ad L g' r' i' := by
  funext c
  unfold k_e
  split <;> first | rfl | (simp only [k_n1_r g' (show 4 + i' ≠ 2 by omega), k_n1_r g' (show 19 ≠ 2 by decide)])
theorem k_n1_v {n : Nat → Nat → Nat} {g x : Nat} (h0 : n g 2 = 0) {g' r' i' : Nat} (hv : k_v (k_n1 n g x) g' r' i') : k_v n g' r' i' := by
  have h2 : ∀ y, y ≠ 0 → k_n1 n g x g' 2 ≠ y → n g' 2 ≠ y := by
    intro y hy hz
    by_cases q : g' = g
    · subst q
      rw [h0]
      exact Ne.symm hy
    · rw [k_n1_g 2 q] at hz
      exact hz
  unfold k_v at hv ⊢
  split at hv
  · rw [k_n1_r g' (by decide)] at hv
    exact ⟨hv.1, h2 _ (by omega) hv.2⟩
  · rw [k_n1_r g' (by decide), k_n1_r g' (by omega)] at hv
    exact ⟨hv.1, hv.2.1, h2 _ (by omega) hv.2.2⟩
  · rw [k_n1_r g' (by decide)] at hv
    exact hv
  · rw [k_n1_r g' (by decide)] at hv
    exact hv
  · rw [k_n1_r g' (by decide)] at hv
    exact ⟨hv.1, h2 _ (by omega) hv.2⟩
  · rw [k_n1_r g' (by decide), k_n1_r g' (by decide)] at hv
    exact ⟨hv.1, hv.2.1, h2 _ (by omega) hv.2.2⟩
  · rename_i r9 q1 q2 q3 q4 q5 q6
    rw [k_n1_r g' (fun z => q2 z)] at hv
    exact hv
theorem k_n1_cap {n : Nat → Nat → Nat} {L : Nat → Nat → Nat → Nat} {g x : Nat} (h0 : n g 2 = 0) (h : k_cap n L) : k_cap (k_n1 n g x) L := by
  refine ⟨fun g' i hv => ?_, fun g' i hv => ?_⟩
  · rw [k_n1_r g' (by omega)]
    exact h.1 g' i (k_n1_v h0 hv)
  · rw [k_n1_r g' (by decide)]
    exact h.2 g' i (k_n1_v h0 hv)
theorem k_out0 {X : kX} {n : Nat → Nat → Nat} {ad L : Nat → Nat → Nat → Nat} {C : Nat → Nat → Nat → Nat → Int32} {fr : Nat → Option Cell} {H : Heap} {g nl nt ng : Nat} (h : k_W X n ad L C fr H) (hd : kDk n g nl nt ng) {i : Nat} (hi : i < 3) : k_N X (k_n1 n g (i + 1)) ad L C fr [k_pl X n ad L C (g, 1, i)] H := by
  refine h.takeOut [(g, 1, i)] (fun g' r' i' hv => ⟨k_n1_v hd.no hv, k_n1_e X n ad L g (i + 1) g' r' i'⟩) (fun p hp => ?_) (by simp) (k_n1_cap hd.no h.cap)
  rw [List.mem_singleton.mp hp]
  refine ⟨hd.li hi, fun z => ?_⟩
  have z2 : k_n1 n g (i + 1) g 2 ≠ i + 1 := z.2
  exact z2 k_n1_2
theorem k_out1 {X : kX} {n : Nat → Nat → Nat} {ad L : Nat → Nat → Nat → Nat} {C : Nat → Nat → Nat → Nat → Int32} {fr : Nat → Option Cell} {H : Heap} {g nl nt ng : Nat} (h : k_W X n ad L C fr H) (hd : kDk n g nl nt ng) {i : Nat} (hi : i < 3) (hv : k_v n g 2 i) : k_N X (k_n1 n g (i + 1)) ad L C fr [k_pl X n ad L C (g, 1, i), k_pl X n ad L C (g, 2, i)] H := by
  refine h.takeOut [(g, 1, i), (g, 2, i)] (fun g' r' i' hv => ⟨k_n1_v hd.no hv, k_n1_e X n ad L g (i + 1) g' r' i'⟩) (fun p hp => ?_) (by simp) (k_n1_cap hd.no h.cap)
  rcases List.mem_cons.mp hp with q | q
  · rw [q]
    refine ⟨hd.li hi, fun z => ?_⟩
    have z2 : k_n1 n g (i + 1) g 2 ≠ i + 1 := z.2
    exact z2 k_n1_2
  · rw [List.mem_singleton.mp q]
    refine ⟨hv, fun z => ?_⟩
    have z2 : k_n1 n g (i + 1) g 2 ≠ i + 1 := z.2.2
    exact z2 k_n1_2
