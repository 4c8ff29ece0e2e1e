section
variable {D E x y : KD} {nl nt ng k : Nat}
theorem q_wtA {ah : Int32} (hk : k < 8) (how : s_X7_owes y nl nt ng (nI k) ah = -2) : s_X7_waits y nl nt ng (nI k) ah = k_d (k_d (k_d (k_d y 15 6 k (y 15 6 k + 1)) 15 10 k (y 14 0 4)) 15 9 k (-2)) 15 7 k (y 15 7 k + 1) := by
  unfold s_X7_waits
  rw [how, if_pos rfl, if_neg (by decide), nI_clamp (by omega)]
theorem q_wcA (hk : k < 8) : s_X3_waitOwedBy (k_d x 4 k 11 1) k (-2) = k_d (k_d (k_d (k_d x 4 k 11 1) 4 k 8 (x 4 k 8 + 1)) 4 k 12 (-2)) 4 k 9 (x 4 k 9 + 1) := by
  unfold s_X3_waitOwedBy
  rw [if_pos rfl, k_dk rfl, k_dk rfl]
theorem q_wcB {w : Int32} {p : Nat} (h2 : ¬ w = -2) (hw : w + 1 = nI p) (hp : p < 9) : s_X3_waitOwedBy (k_d x 4 k 11 1) k w = k_d (k_d (k_d (k_d x 4 k 11 1) 4 k 8 (x 4 k 8 + 1)) 4 k 12 w) 7 k p (x 7 k p + 1) := by
  unfold s_X3_waitOwedBy
  rw [if_neg h2, hw, if_neg (nI_pos (by omega)), if_neg (show ¬ nI p ≥ 9 from fun q => absurd ((nI_leI (a := 9) (b := p) (by omega) (by omega)).mp q) (by omega)), nI_clamp (by omega), k_dk rfl, k_dr rfl]
theorem q_wtB {ah w : Int32} {p : Nat} (hk : k < 8) (how : s_X7_owes y nl nt ng (nI k) ah = w) (h2 : ¬ w = -2) (hw : w + 1 = nI p) (hp : p < 9) (h1 : w = -1 ↔ p = 0) :
    (∀ j, s_X7_waits y nl nt ng (nI k) ah 15 j = k_d (k_d (k_d (k_d y 15 6 k (y 15 6 k + 1)) 15 10 k (y 14 0 4)) 15 9 k w) 15 24 (8 * p + k) (y 15 24 (8 * p + k) + y 15 3 k) 15 j) ∧ (∀ j, j ≠ 5 → s_X7_waits y nl nt ng (nI k) ah 14 0 j = y 14 0 j) ∧ s_X7_waits y nl nt ng (nI k) ah 14 0 5 = if p = 0 then y 14 0 5 + 1 else y 14 0 5 := by
  have ei : (8 * (w + 1) + nI k).toNatClampNeg = 8 * p + k := by
    rw [hw, show (8 : Int32) = nI 8 from rfl, pk_mul, nI_add, nI_clamp (by omega)]
  unfold s_X7_waits
  rw [how, if_neg h2, nI_clamp (by omega), ei]
  by_cases hp0 : p = 0
  · rw [if_pos (h1.mpr hp0), if_pos hp0]
    refine ⟨fun j => k_d_off _ _ (by omega), fun j hj => ?_, k_ds⟩
    rw [k_dn (by omega), k_dr rfl, k_dr rfl, k_dr rfl, k_dr rfl]
  · rw [if_neg (mt h1.mp hp0), if_neg hp0]
    refine ⟨fun j => rfl, fun j hj => ?_, ?_⟩
    · rw [k_dr rfl, k_dr rfl, k_dr rfl, k_dr rfl]
    · rw [k_dr rfl, k_dr rfl, k_dr rfl, k_dr rfl]
theorem q_wait (hw : mWF E nl nt ng) (hC : q_C D E nl nt ng) (hH : q_H E D E nl) (hM : q_M D E nl)
    (hA : ∀ l, l < nl → E 15 11 l = 121 → ∃ a, a < nl ∧ D 3 0 (E 15 4 l).toNatClampNeg = nI a ∧ E 15 25 (E 15 4 l).toNatClampNeg = nI a ∧ D 4 a 13 = s_X7_owesAtDoor E nl nt ng (nI a)) (hB : ∀ l, l < nl → E 15 11 l = 100 → D 4 l 13 = s_X7_owesAtDoor E nl nt ng (nI l)) (D1 E1 : KD) :
    q_Rw D E nl nt ng nl (it (f_X0_letWait_2 D1 nl nt ng) nl D) (it (f_X7_passes_217 E1 nl nt ng) nl E) := by
  have h8 := hw.l8
  refine it_sim (q_Rw D E nl nt ng) ⟨hC, hH, hM, hw, ⟨fun _ _ => rfl, fun _ _ _ _ _ _ => rfl⟩, ⟨fun _ _ _ => rfl, fun _ _ _ _ _ _ => rfl⟩, fun l hl => absurd hl (by omega), fun _ _ => rfl, fun _ _ => ⟨rfl, rfl, fun _ _ _ => rfl⟩⟩ (fun k hk x y hR => ?_)
  have hR' := hR
  obtain ⟨rC, rH, rM, rW, rF, rX, rJ, rK, rZ⟩ := hR'
  have e5 : x 4 k 5 = y 15 11 k := rC.l5 hk
  unfold f_X0_letWait_2 f_X7_passes_217 j_X0_letWait_45 s_X3_isPresent
  rw [e5]
  by_cases c0 : y 15 11 k = 121 ∨ y 15 11 k = 100
  · have ep : (if y 15 11 k = 121 then (1 : Int32) else if y 15 11 k = 100 then 1 else 0) = 1 := by
      rcases c0 with c | c
      · rw [if_pos c]
      · rw [c]; decide
    have e10 : x 4 k 10 = y 15 1 k := rH k hk (by
      rw [← rF.2 11 (by omega) (by omega) (by omega) (by omega) (by omega)]
      rcases c0 with c | c
      · exact Or.inl c
      · exact Or.inr (Or.inl c))
    rw [ep, e10, if_neg (by decide : ¬ (1 : Int32) = 0)]
    by_cases c1 : y 15 1 k = 0
    · rw [if_pos c1, if_neg (by decide : ¬ (1 : Int32) = 0)]
      have er : (if y 15 11 k = 121 then (if y 15 1 k = 0 then s_X7_waits y nl nt ng (nI k) (j_X7_passes_284 E1 nl nt ng k y) else y) else if y 15 11 k = 100 then (if y 15 1 k = 0 then s_X7_waits y nl nt ng (nI k) (j_X7_passes_284 E1 nl nt ng k y) else y) else y) = s_X7_waits y nl nt ng (nI k) (j_X7_passes_284 E1 nl nt ng k y) := by
        rw [if_pos c1]
        rcases c0 with c | c
        · rw [if_pos c]
        · rw [if_pos c, c]; first | done | rfl
      have g15 : ∀ j, j ≠ 6 → j ≠ 7 → j ≠ 9 → j ≠ 10 → j ≠ 24 → y 15 j = E 15 j := rF.2
      have eO : ∀ l, s_X7_owesAtDoor y nl nt ng l = s_X7_owesAtDoor E nl nt ng l := fun l => q_oadC (rF.1 4 (by omega)) (g15 19 (by omega) (by omega) (by omega) (by omega) (by omega)) (g15 20 (by omega) (by omega) (by omega) (by omega) (by omega)) (g15 21 (by omega) (by omega) (by omega) (by omega) (by omega)) (g15 22 (by omega) (by omega) (by omega) (by omega) (by omega)) (g15 4 (by omega) (by omega) (by omega) (by omega) (by omega)) (g15 0 (by omega) (by omega) (by omega) (by omega) (by omega)) (g15 13 (by omega) (by omega) (by omega) (by omega) (by omega)) (g15 15 (by omega) (by omega) (by omega) (by omega) (by omega)) (g15 14 (by omega) (by omega) (by omega) (by omega) (by omega)) (g15 12 (by omega) (by omega) (by omega) (by omega) (by omega)) (g15 11 (by omega) (by omega) (by omega) (by omega) (by omega)) (g15 2 (by omega) (by omega) (by omega) (by omega) (by omega)) l
      have g4 := g15 4 (by omega) (by omega) (by omega) (by omega) (by omega)
      have g11 := g15 11 (by omega) (by omega) (by omega) (by omega) (by omega)
      have g25 := g15 25 (by omega) (by omega) (by omega) (by omega) (by omega)
      have x3 : k_d x 4 k 11 1 3 = D 3 := by rw [k_d_r _ (by decide)]; exact rX.1 3 (by omega) (by omega)
      have x13 : ∀ a, k_d x 4 k 11 1 4 a 13 = D 4 a 13 := fun a => by rw [k_dk rfl]; exact rX.2 a 13 (by omega) (by omega) (by omega) (by omega)
      have hA' : y 15 11 k = 121 → ∃ a, a < nl ∧ k_d x 4 k 11 1 3 0 (y 15 4 k).toNatClampNeg = nI a ∧ y 15 25 (y 15 4 k).toNatClampNeg = nI a ∧ k_d x 4 k 11 1 4 a 13 = s_X7_owesAtDoor y nl nt ng (nI a) := fun q => by
        obtain ⟨a, a1, a2, a3, a4⟩ := hA k hk (by rw [← g11]; exact q)
        refine ⟨a, a1, ?_, ?_, ?_⟩
        · rw [x3, g4]; exact a2
        · rw [g25, g4]; exact a3
        · rw [x13, eO]; exact a4
      have hB' : y 15 11 k = 100 → k_d x 4 k 11 1 4 k 13 = s_X7_owesAtDoor y nl nt ng (nI k) := fun q => by
        rw [x13, eO]; exact hB k hk (by rw [← g11]; exact q)
      have hd : s_X0_debtorOf (k_d x 4 k 11 1) k = s_X7_owes y nl nt ng (nI k) (j_X7_passes_284 E1 nl nt ng k y) := q_owe (D := k_d x 4 k 11 1) rW (rC.offD (Or.inr (Or.inr ⟨rfl, by omega⟩))) (fun l hl hq => by rw [k_dk rfl]; exact rH l hl (by rw [← g11, ← g25]; exact hq)) hk c0 hA' hB'
      have hah : vp_in (j_X7_passes_284 E1 nl nt ng k y) nl := by
        unfold j_X7_passes_284
        split
        · next q =>
          obtain ⟨a, a1, a2, a3, a4⟩ := hA' q
          rw [a3]; exact vp_in_nI a1 (by omega)
        · exact vp_in_nI hk (by omega)
      have hr := mOwes_in rW (nI k) (j_X7_passes_284 E1 nl nt ng k y) hah
      rw [hd]
      have gB : ∀ (w : Int32) (p : Nat), s_X7_owes y nl nt ng (nI k) (j_X7_passes_284 E1 nl nt ng k y) = w → ¬ w = -2 → w + 1 = nI p → p < 9 → (w = -1 ↔ p = 0) → q_Rw D E nl nt ng (k + 1) (s_X3_waitOwedBy (k_d x 4 k 11 1) k (s_X7_owes y nl nt ng (nI k) (j_X7_passes_284 E1 nl nt ng k y))) (s_X7_waits y nl nt ng (nI k) (j_X7_passes_284 E1 nl nt ng k y)) := fun w p how h2 hwp hp h1 => by
        obtain ⟨t1, t2, t3⟩ := q_wtB (by omega) how h2 hwp hp h1
        rw [how, q_wcB h2 hwp hp]
        exact q_wB hk hR hp t1 t2 t3
      rcases c0 with c0 | c0
      all_goals
        rw [c0] at er ⊢
        refine Eq.mp (congrArg (q_Rw D E nl nt ng (k + 1) _) er.symm) ?_
        rcases hr with how | how | hv
        · rw [how, q_wcA (by omega), q_wtA (by omega) how]
          exact q_wA hk hR
        · exact gB (-1) 0 how (by decide) (by decide) (by omega) ⟨fun _ => rfl, fun _ => rfl⟩
        · obtain ⟨a, ha, ea⟩ := vp_in_of hv (by omega)
          exact gB (nI a) (a + 1) ea (fun q => absurd (q ▸ vp_in_nI ha (by omega) : vp_in (-2) nl) (fun z => z (Or.inl (by decide)))) (nI_1 a) (by omega) ⟨fun q => absurd q (nI_nm1 (by omega)), fun q => absurd q (by omega)⟩
    · rw [if_neg c1, if_pos (rfl : (0 : Int32) = 0)]
      have er : (if y 15 11 k = 121 then (if y 15 1 k = 0 then s_X7_waits y nl nt ng (nI k) (j_X7_passes_284 E1 nl nt ng k y) else y) else if y 15 11 k = 100 then (if y 15 1 k = 0 then s_X7_waits y nl nt ng (nI k) (j_X7_passes_284 E1 nl nt ng k y) else y) else y) = y := by
        rw [if_neg c1]
        split <;> first | rfl | (split <;> rfl)
      refine Eq.mp (congrArg (q_Rw D E nl nt ng (k + 1) _) ?_) (q_w0 hk hR)
      first | exact er.symm | (rw [if_neg c1] at er; exact er.symm)
  · have c2 : ¬ y 15 11 k = 121 := fun q => c0 (Or.inl q)
    have c3 : ¬ y 15 11 k = 100 := fun q => c0 (Or.inr q)
    rw [if_neg c2, if_neg c3, if_neg c2, if_neg c3, if_pos (rfl : (0 : Int32) = 0), if_pos (rfl : (0 : Int32) = 0)]
    exact q_w0 hk hR
end
