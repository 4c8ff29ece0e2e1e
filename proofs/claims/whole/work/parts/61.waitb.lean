section
variable {D E x y : KD} {nl nt ng k : Nat}
/-- a lorry that waits and is owed for it -/
theorem q_wB (hk : k < nl) (h : q_Rw D E nl nt ng k x y) {w : Int32} {p : Nat} (hp : p < 9) {y' : KD} (h15 : ∀ j, y' 15 j = k_d (k_d (k_d (k_d y 15 6 k (y 15 6 k + 1)) 15 10 k (y 14 0 4)) 15 9 k w) 15 24 (8 * p + k) (y 15 24 (8 * p + k) + y 15 3 k) 15 j) (h14 : ∀ j, j ≠ 5 → y' 14 0 j = y 14 0 j) (h5 : y' 14 0 5 = if p = 0 then y 14 0 5 + 1 else y 14 0 5) :
    q_Rw D E nl nt ng (k + 1) (k_d (k_d (k_d (k_d x 4 k 11 1) 4 k 8 (x 4 k 8 + 1)) 4 k 12 w) 7 k p (x 7 k p + 1)) y' := by
  obtain ⟨rC, rH, rM, rW, rF, rX, rJ, rK, rZ⟩ := h
  have h8 := rW.l8
  have e15 : ∀ j, j ≠ 6 → j ≠ 9 → j ≠ 10 → j ≠ 24 → y' 15 j = y 15 j := fun j h1 h2 h3 h4 => by
    rw [h15, k_d_off _ _ (by omega), k_d_off _ _ (by omega), k_d_off _ _ (by omega), k_d_off _ _ (by omega)]
  have cC : q_C (k_d (k_d (k_d (k_d x 4 k 11 1) 4 k 8 (x 4 k 8 + 1)) 4 k 12 w) 7 k p (x 7 k p + 1)) (k_d (k_d (k_d (k_d y 15 6 k (y 15 6 k + 1)) 15 10 k (y 14 0 4)) 15 9 k w) 15 24 (8 * p + k) (y 15 24 (8 * p + k) + y 15 3 k)) nl nt ng :=
    (((((rC.offD (Or.inr (Or.inr ⟨rfl, by omega⟩))).putL (8, 6) (by decide) k (by rw [rC.l8 hk])).offE (r := 15) (i := 10) (Or.inr ⟨rfl, by omega⟩)).offD (r := 4) (k := 12) (Or.inr (Or.inr ⟨rfl, by omega⟩))).offE (r := 15) (i := 9) (Or.inr ⟨rfl, by omega⟩)).offE (r := 15) (i := 24) (Or.inr ⟨rfl, by omega⟩) |>.offD (r := 7) (Or.inr (Or.inl rfl))
  have hx4 : k_d (k_d (k_d (k_d x 4 k 11 1) 4 k 8 (x 4 k 8 + 1)) 4 k 12 w) 7 k p (x 7 k p + 1) 4 = k_d (k_d (k_d x 4 k 11 1) 4 k 8 (x 4 k 8 + 1)) 4 k 12 w 4 := k_d_r _ (by decide)
  have hx7 : ∀ l q, k_d (k_d (k_d (k_d x 4 k 11 1) 4 k 8 (x 4 k 8 + 1)) 4 k 12 w) 7 k p (x 7 k p + 1) 7 l q = if l = k ∧ q = p then x 7 k p + 1 else x 7 l q := fun l q => by
    by_cases hc : l = k ∧ q = p
    · rw [if_pos hc, hc.1, hc.2, k_ds]
    · rw [if_neg hc, k_dn (by omega), k_dr rfl, k_dr rfl, k_dr rfl]
  refine ⟨⟨cC.1, fun l hl p' hp' => ?_, fun t ht p' hp' => ?_, fun g hg p' hp' => ?_, fun t ht k' hk' => ?_, ?_⟩, fun l hl => ?_, ⟨fun l hl q hq => ?_, ?_, fun l hl => ?_⟩, ?_, ⟨fun j hj => ?_, fun j h1 h2 h3 h4 h5 => ?_⟩, ⟨fun r h1 h2 => ?_, fun l k' h1 h2 h3 h4 => ?_⟩, fun l hl => ?_, fun l hl => ?_, fun l hl => ⟨?_, ?_, fun h8' q hq => ?_⟩⟩
  · rw [h15]; exact cC.2.1 l hl p' hp'
  · rw [h15]; exact cC.2.2.1 t ht p' hp'
  · rw [h15]; exact cC.2.2.2.1 g hg p' hp'
  · rw [h15]; exact cC.s ht hk'
  · rw [h14 4 (by omega), ← rC.now]; first | done | rfl
  · rw [hx4, k_dk rfl, k_dk rfl, k_dk rfl, e15 1 (by omega) (by omega) (by omega) (by omega)]; exact rH l hl
  · rw [h15, hx7, hx4]
    by_cases hc : l = k ∧ q = p
    · rw [if_pos hc, hc.1, hc.2, k_ds, rM.1 k hk p hp, k_dk rfl, k_dk rfl, k_dk rfl, Int32.add_mul, Int32.one_mul, rC.l3 hk]
    · rw [if_neg hc, k_dn (by omega), k_di rfl, k_di rfl, k_di rfl, k_dk rfl, k_dk rfl, k_dk rfl]; exact rM.1 l hl q hq
  · rw [h5]
    by_cases hp0 : p = 0
    · rw [if_pos hp0, q_sum1 (fun l => x 7 l 0) _ k nl (fun l hl => by
        show k_d (k_d (k_d (k_d x 4 k 11 1) 4 k 8 (x 4 k 8 + 1)) 4 k 12 w) 7 k p (x 7 k p + 1) 7 l 0 = _
        rw [hx7, if_neg (fun q => hl q.1)]) (by
        show k_d (k_d (k_d (k_d x 4 k 11 1) 4 k 8 (x 4 k 8 + 1)) 4 k 12 w) 7 k p (x 7 k p + 1) 7 k 0 = _
        rw [hx7, if_pos ⟨rfl, hp0.symm⟩, hp0]), if_pos hk, ← rM.2.1]
    · rw [if_neg hp0, rM.2.1]
      refine it_cong (fun l hl z => ?_) 0
      show z + x 7 l 0 = z + k_d (k_d (k_d (k_d x 4 k 11 1) 4 k 8 (x 4 k 8 + 1)) 4 k 12 w) 7 k p (x 7 k p + 1) 7 l 0
      rw [hx7, if_neg (fun q => hp0 q.2.symm)]
  · rw [hx4]
    have e := rM.2.2 l hl
    by_cases hlk : l = k
    · subst hlk
      rw [q_sum1 (fun q => x 7 l q) _ p 9 (fun q hq => by
        show k_d (k_d (k_d (k_d x 4 l 11 1) 4 l 8 (x 4 l 8 + 1)) 4 l 12 w) 7 l p (x 7 l p + 1) 7 l q = _
        rw [hx7, if_neg (fun z => hq z.2)]) (by
        show k_d (k_d (k_d (k_d x 4 l 11 1) 4 l 8 (x 4 l 8 + 1)) 4 l 12 w) 7 l p (x 7 l p + 1) 7 l p = _
        rw [hx7, if_pos ⟨rfl, rfl⟩]), if_pos hp, k_dk rfl, k_ds, k_dk rfl, k_dk rfl, k_dk rfl, e, Int32.add_assoc]
    · have hs : it (fun q z => z + k_d (k_d (k_d (k_d x 4 k 11 1) 4 k 8 (x 4 k 8 + 1)) 4 k 12 w) 7 k p (x 7 k p + 1) 7 l q) 9 (0 : Int32) = it (fun q z => z + x 7 l q) 9 0 := it_cong (fun q hq z => by rw [hx7, if_neg (fun q => hlk q.1)]) 0
      rw [hs, k_dn (by omega), k_dn (by omega), k_dn (by omega), k_dn (by omega), k_dn (by omega), k_dn (by omega)]; exact e
  · have e4 := e15 4 (by omega) (by omega) (by omega) (by omega)
    have e11 := e15 11 (by omega) (by omega) (by omega) (by omega)
    have e12 := e15 12 (by omega) (by omega) (by omega) (by omega)
    have e13 := e15 13 (by omega) (by omega) (by omega) (by omega)
    have e23 := e15 23 (by omega) (by omega) (by omega) (by omega)
    unfold mWF at rW ⊢
    rw [e4, e11, e12, e13, e23, h14 1 (by omega), h14 2 (by omega), h14 3 (by omega)]
    exact rW
  · rw [h14 j hj]; exact rF.1 j hj
  · rw [e15 j h1 h3 h4 h5]; exact rF.2 j h1 h2 h3 h4 h5
  · rw [k_d_r _ h2, k_d_r _ h1, k_d_r _ h1, k_d_r _ h1]; exact rX.1 r h1 h2
  · rw [hx4, k_dn (by omega), k_dn (by omega), k_dn (by omega)]; exact rX.2 l k' h1 h2 h3 h4
  · rw [hx4, h15, h15]
    by_cases hlk : l = k
    · subst hlk
      refine Or.inl ⟨?_, ?_, ?_⟩
      · rw [k_dk rfl, k_dk rfl, k_ds]
      · rw [k_di rfl, k_di rfl, k_ds]; exact rF.1 4 (by omega)
      · rw [k_ds, k_di rfl, k_ds]
    · rw [k_dn (by omega), k_dn (by omega), k_dn (by omega), k_dn (by omega), k_dn (by omega), k_dn (by omega), k_dn (by omega), k_dn (by omega), k_dn (by omega), k_dn (by omega), k_dn (by omega), k_dn (by omega), k_dn (by omega), k_dn (by omega)]; exact rJ l (by omega)
  · rw [h15, k_di rfl, k_di rfl, k_dn (by omega), k_di rfl]; exact rK l (by omega)
  · rw [h15, k_di rfl, k_di rfl, k_di rfl, k_dn (by omega)]; exact (rZ l hl).1
  · rw [e15 7 (by omega) (by omega) (by omega) (by omega)]; exact (rZ l hl).2.1
  · rw [h15, k_dn (by omega), k_di rfl, k_di rfl, k_di rfl]; exact (rZ l hl).2.2 h8' q hq
end
