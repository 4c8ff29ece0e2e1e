/-! the minute is counted -/
def q_Rw (D E : KD) (nl nt ng k : Nat) (x y : KD) : Prop :=
  q_C x y nl nt ng ∧ q_H E x y nl ∧ q_M x y nl ∧ mWF y nl nt ng ∧ ((∀ j, j ≠ 5 → y 14 0 j = E 14 0 j) ∧ ∀ j, j ≠ 6 → j ≠ 7 → j ≠ 9 → j ≠ 10 → j ≠ 24 → y 15 j = E 15 j) ∧
  ((∀ r, r ≠ 4 → r ≠ 7 → x r = D r) ∧ ∀ l k', k' ≠ 8 → k' ≠ 9 → k' ≠ 11 → k' ≠ 12 → x 4 l k' = D 4 l k') ∧
  (∀ l, l < k → (x 4 l 11 = 1 ∧ y 15 10 l = E 14 0 4 ∧ x 4 l 12 = y 15 9 l) ∨ (x 4 l 11 = 0 ∧ y 15 10 l = E 15 10 l)) ∧ (∀ l, k ≤ l → y 15 10 l = E 15 10 l) ∧
  ∀ l, nl ≤ l → y 15 6 l = E 15 6 l ∧ y 15 7 l = E 15 7 l ∧ (l < 8 → ∀ p, p < 9 → y 15 24 (8 * p + l) = E 15 24 (8 * p + l))
section
variable {D E x y : KD} {nl nt ng k : Nat}
/-- a lorry that doesn't wait -/
theorem q_w0 (hk : k < nl) (h : q_Rw D E nl nt ng k x y) : q_Rw D E nl nt ng (k + 1) (k_d x 4 k 11 0) y := by
  obtain ⟨rC, rH, rM, rW, rF, rX, rJ, rK, rZ⟩ := h
  refine ⟨rC.offD (Or.inr (Or.inr ⟨rfl, by omega⟩)), fun l hl => ?_, ⟨fun l hl p hp => ?_, ?_, fun l hl => ?_⟩, rW, rF, ⟨fun r h1 h2 => ?_, fun l k' h1 h2 h3 h4 => ?_⟩, fun l hl => ?_, fun l hl => rK l (by omega), rZ⟩
  · rw [k_dk rfl]; exact rH l hl
  · rw [k_dr rfl, k_dk rfl]; exact rM.1 l hl p hp
  · rw [k_d_r _ (by omega)]; exact rM.2.1
  · rw [k_dk rfl, k_dk rfl, k_d_r _ (by omega)]; exact rM.2.2 l hl
  · rw [k_d_r _ h1]; exact rX.1 r h1 h2
  · rw [k_dn (by omega)]; exact rX.2 l k' h1 h2 h3 h4
  · by_cases hlk : l = k
    · subst hlk
      rw [k_ds]
      exact Or.inr ⟨rfl, rK l (by omega)⟩
    · rw [k_dn (by omega), k_dn (by omega)]; exact rJ l (by omega)
/-- a lorry that waits on its own -/
theorem q_wA (hk : k < nl) (h : q_Rw D E nl nt ng k x y) : q_Rw D E nl nt ng (k + 1) (k_d (k_d (k_d (k_d x 4 k 11 1) 4 k 8 (x 4 k 8 + 1)) 4 k 12 (-2)) 4 k 9 (x 4 k 9 + 1)) (k_d (k_d (k_d (k_d y 15 6 k (y 15 6 k + 1)) 15 10 k (y 14 0 4)) 15 9 k (-2)) 15 7 k (y 15 7 k + 1)) := by
  obtain ⟨rC, rH, rM, rW, rF, rX, rJ, rK, rZ⟩ := h
  refine ⟨?_, fun l hl => ?_, ⟨fun l hl p hp => ?_, ?_, fun l hl => ?_⟩, ?_, ⟨fun j hj => ?_, fun j h1 h2 h3 h4 h5 => ?_⟩, ⟨fun r h1 h2 => ?_, fun l k' h1 h2 h3 h4 => ?_⟩, fun l hl => ?_, fun l hl => ?_, fun l hl => ⟨?_, ?_, fun h8 p hp => ?_⟩⟩
  · exact (((((rC.offD (Or.inr (Or.inr ⟨rfl, by omega⟩))).putL (8, 6) (by decide) k (by rw [rC.l8 hk])).offE (r := 15) (i := 10) (Or.inr ⟨rfl, by omega⟩)).offD (r := 4) (k := 12) (Or.inr (Or.inr ⟨rfl, by omega⟩))).offE (r := 15) (i := 9) (Or.inr ⟨rfl, by omega⟩)).putL (9, 7) (by decide) k (by rw [rC.l9 hk])
  · rw [k_dk rfl, k_dk rfl, k_dk rfl, k_dk rfl, k_di rfl, k_di rfl, k_di rfl, k_di rfl]; exact rH l hl
  · rw [k_di rfl, k_di rfl, k_di rfl, k_di rfl, k_dr rfl, k_dr rfl, k_dr rfl, k_dr rfl, k_dk rfl, k_dk rfl, k_dk rfl, k_dk rfl]; exact rM.1 l hl p hp
  · rw [k_dr rfl, k_dr rfl, k_dr rfl, k_dr rfl, k_d_r _ (by omega), k_d_r _ (by omega), k_d_r _ (by omega), k_d_r _ (by omega)]; exact rM.2.1
  · have h7 : k_d (k_d (k_d (k_d x 4 k 11 1) 4 k 8 (x 4 k 8 + 1)) 4 k 12 (-2)) 4 k 9 (x 4 k 9 + 1) 7 = x 7 := by rw [k_d_r _ (by decide), k_d_r _ (by decide), k_d_r _ (by decide), k_d_r _ (by decide)]
    rw [h7]
    have e := rM.2.2 l hl
    by_cases hlk : l = k
    · subst hlk
      rw [k_dk rfl, k_dk rfl, k_ds, k_ds, e, Int32.add_assoc, Int32.add_assoc, Int32.add_comm 1]
    · rw [k_dn (by omega), k_dn (by omega), k_dn (by omega), k_dn (by omega), k_dn (by omega), k_dn (by omega), k_dn (by omega), k_dn (by omega)]; exact e
  · exact (((rW.put15 (by decide)).put15 (by decide)).put15 (by decide)).put15 (by decide)
  · rw [k_dr rfl, k_dr rfl, k_dr rfl, k_dr rfl]; exact rF.1 j hj
  · rw [k_d_off _ _ (by omega), k_d_off _ _ (by omega), k_d_off _ _ (by omega), k_d_off _ _ (by omega)]; exact rF.2 j h1 h2 h3 h4 h5
  · rw [k_d_r _ h1, k_d_r _ h1, k_d_r _ h1, k_d_r _ h1]; exact rX.1 r h1 h2
  · rw [k_dn (by omega), k_dn (by omega), k_dn (by omega), k_dn (by omega)]; exact rX.2 l k' h1 h2 h3 h4
  · by_cases hlk : l = k
    · subst hlk
      refine Or.inl ⟨?_, ?_, ?_⟩
      · rw [k_dk rfl, k_dk rfl, k_dk rfl, k_ds]
      · rw [k_di rfl, k_di rfl, k_ds]; exact rF.1 4 (by omega)
      · rw [k_dk rfl, k_ds, k_di rfl, k_ds]
    · rw [k_dn (by omega), k_dn (by omega), k_dn (by omega), k_dn (by omega), k_dn (by omega), k_dn (by omega), k_dn (by omega), k_dn (by omega), k_dn (by omega), k_dn (by omega), k_dn (by omega), k_dn (by omega), k_dn (by omega), k_dn (by omega), k_dn (by omega), k_dn (by omega)]; exact rJ l (by omega)
  · rw [k_di rfl, k_di rfl, k_dn (by omega), k_di rfl]; exact rK l (by omega)
  · rw [k_di rfl, k_di rfl, k_di rfl, k_dn (by omega)]; exact (rZ l hl).1
  · rw [k_dn (by omega), k_di rfl, k_di rfl, k_di rfl]; exact (rZ l hl).2.1
  · rw [k_di rfl, k_di rfl, k_di rfl, k_di rfl]; exact (rZ l hl).2.2 h8 p hp
end
