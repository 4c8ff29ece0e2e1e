/-- a new dock, a new reference -/
theorem q_V0 {E : KD} (h14 : ∀ k, E 14 0 k = 0) (h23 : ∀ d, d < 4 → E 15 23 d = -1) (h15 : ∀ j i, j ≠ 23 → E 15 j i = 0) : q_V k_D0 E 0 0 0 := by
  have no : ∀ {p : Prop} {l : Nat}, l < 0 → p := fun q => absurd q (Nat.not_lt_zero _)
  refine ⟨⟨fun l hl => no hl, fun l hl => no hl, fun l hl => no hl, fun l hl => no hl, fun l hl => no hl, ?_⟩, fun d hd => ?_, fun l hl => no hl, ⟨fun l hl => no hl, ?_, fun l hl => no hl⟩, ⟨⟨h14 1, by omega⟩, ⟨h14 2, by omega⟩, ⟨h14 3, by omega⟩, fun l hl => no hl, fun l hl => no hl, fun l hl => no hl, fun d hd => Or.inl (h23 d hd), fun l hl => no hl, fun l hl => no hl⟩, fun l hl => no hl, ⟨0, by omega, h14 4⟩, fun l hl => no hl, fun l hl => no hl, ⟨fun l hl => no hl, fun l hl => no hl⟩, ⟨fun l hl => ⟨h15 1 l (by omega), h15 5 l (by omega), h15 6 l (by omega), h15 7 l (by omega), h15 8 l (by omega), fun _ p _ => h15 24 _ (by omega)⟩, fun j h1 h2 i _ => h15 j i (by omega), fun i _ => h15 18 i (by omega)⟩⟩
  · exact (h14 4).symm
  · exact (h23 d hd).symm
  · exact h14 5
