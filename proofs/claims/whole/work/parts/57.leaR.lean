/-! lorries leave: the class by doors, the reference by lorries -/
section
variable {D E : KD} {nl nt ng : Nat}
theorem q_missC {E y : KD} (h0 : y 15 0 = E 15 0) (h12 : y 15 12 = E 15 12) (h13 : y 15 13 = E 15 13) (h14 : y 15 14 = E 15 14) (h15 : y 15 15 = E 15 15) (h17 : y 15 17 = E 15 17) (l : Int32) : s_X7_missing y nl nt ng l = s_X7_missing E nl nt ng l := by
  unfold s_X7_missing l_X7_missing_4 f_X7_missing_4 j_X7_missing_36 j_X7_missing_71
  rw [h0, h12, h13, h14, h15, h17]
theorem q_openC {D x : KD} (h5 : x 5 = D 5) (h4 : ∀ l, x 4 l 1 = D 4 l 1) (i : Nat) : s_X0_openUnits x nl nt ng i = s_X0_openUnits D nl nt ng i := by
  unfold s_X0_openUnits l_X0_openUnits_4 f_X0_openUnits_4 s_X5_isOf s_X5_openFor
  rw [h5, h4]
/-- who leaves -/
def q_L (E : KD) (nl nt ng : Nat) (l : Nat) : Prop := E 15 11 l = 100 ∧ s_X7_missing E nl nt ng (nI l) = 0
theorem q_leaR (hw : mWF E nl nt ng) (hU : q_U E nt) (E1 : KD) :
    let z := it (f_X7_passes_165 E1 nl nt ng) nl (E, (0 : Int32))
    z.1 14 = E 14 ∧ (∀ j, j ≠ 8 → j ≠ 11 → j ≠ 23 → z.1 15 j = E 15 j) ∧ (∀ l, z.1 15 11 l = q_i (l < nl ∧ q_L E nl nt ng l) 108 (E 15 11 l)) ∧ (∀ l, z.1 15 8 l = q_i (l < nl ∧ q_L E nl nt ng l) (E 14 0 4 + 1) (E 15 8 l)) ∧ (∀ d, d < 4 → z.1 15 23 d = q_i (E 15 23 d ≠ -1 ∧ s_X7_missing E nl nt ng (E 15 23 d) = 0) (-1) (E 15 23 d)) ∧ z.2 = nI (q_S (fun l => q_b (q_L E nl nt ng l)) nl) := by
  have h8 := hw.l8
  have key := it_indk (f := f_X7_passes_165 E1 nl nt ng) (a := (E, (0 : Int32))) (n := nl) (P := fun k z => z.1 14 = E 14 ∧ (∀ j, j ≠ 8 → j ≠ 11 → j ≠ 23 → z.1 15 j = E 15 j) ∧ (∀ l, z.1 15 11 l = q_i (l < k ∧ q_L E nl nt ng l) 108 (E 15 11 l)) ∧ (∀ l, z.1 15 8 l = q_i (l < k ∧ q_L E nl nt ng l) (E 14 0 4 + 1) (E 15 8 l)) ∧ (∀ d, d < 4 → z.1 15 23 d = q_i (∃ l, l < k ∧ q_L E nl nt ng l ∧ E 15 23 d = nI l) (-1) (E 15 23 d)) ∧ z.2 = nI (q_S (fun l => q_b (q_L E nl nt ng l)) k)) ⟨rfl, fun _ _ _ _ => rfl, fun l => (q_i0 (fun q => absurd q.1 (by omega))).symm, fun l => (q_i0 (fun q => absurd q.1 (by omega))).symm, fun d _ => (q_i0 (fun ⟨l, q, _⟩ => absurd q (by omega))).symm, rfl⟩ (fun k hk z => by
    rintro ⟨r14, rj, r11, r8, r23, rc⟩
    have ems : s_X7_missing z.1 nl nt ng (nI k) = s_X7_missing E nl nt ng (nI k) := q_missC (rj 0 (by omega) (by omega) (by omega)) (rj 12 (by omega) (by omega) (by omega)) (rj 13 (by omega) (by omega) (by omega)) (rj 14 (by omega) (by omega) (by omega)) (rj 15 (by omega) (by omega) (by omega)) (rj 17 (by omega) (by omega) (by omega)) _
    have es : z.1 15 11 k = E 15 11 k := by rw [r11 k, q_i0 (fun q => absurd q.1 (by omega))]
    have no : ¬ q_L E nl nt ng k → z.1 14 = E 14 ∧ (∀ j, j ≠ 8 → j ≠ 11 → j ≠ 23 → z.1 15 j = E 15 j) ∧ (∀ l, z.1 15 11 l = q_i (l < k + 1 ∧ q_L E nl nt ng l) 108 (E 15 11 l)) ∧ (∀ l, z.1 15 8 l = q_i (l < k + 1 ∧ q_L E nl nt ng l) (E 14 0 4 + 1) (E 15 8 l)) ∧ (∀ d, d < 4 → z.1 15 23 d = q_i (∃ l, l < k + 1 ∧ q_L E nl nt ng l ∧ E 15 23 d = nI l) (-1) (E 15 23 d)) ∧ z.2 = nI (q_S (fun l => q_b (q_L E nl nt ng l)) (k + 1)) := by
      intro hn
      have e1 : ∀ l, (l < k + 1 ∧ q_L E nl nt ng l) = (l < k ∧ q_L E nl nt ng l) := fun l => propext ⟨fun q => ⟨by
        rcases Nat.lt_or_ge l k with w | w
        · exact w
        · exact absurd ((show l = k by omega) ▸ q.2) hn, q.2⟩, fun q => ⟨by omega, q.2⟩⟩
      have e2 : ∀ d, (∃ l, l < k + 1 ∧ q_L E nl nt ng l ∧ E 15 23 d = nI l) = (∃ l, l < k ∧ q_L E nl nt ng l ∧ E 15 23 d = nI l) := fun d => propext ⟨fun ⟨l, a, b, c⟩ => ⟨l, by
        rcases Nat.lt_or_ge l k with w | w
        · exact w
        · exact absurd ((show l = k by omega) ▸ b) hn, b, c⟩, fun ⟨l, a, b, c⟩ => ⟨l, by omega, b, c⟩⟩
      refine ⟨r14, rj, fun l => ?_, fun l => ?_, fun d hd => ?_, ?_⟩
      · rw [r11 l, e1]
      · rw [r8 l, e1]
      · rw [r23 d hd, e2]
      · rw [rc, q_S_s, q_b0 hn]; first | done | rfl
    unfold f_X7_passes_165
    by_cases c1 : z.1 15 11 k = 100
    · rw [if_pos c1]
      by_cases c2 : s_X7_missing E nl nt ng (nI k) = 0
      · have hL : q_L E nl nt ng k := ⟨es.symm.trans c1, c2⟩
        rw [if_pos (by rw [ems]; exact (q_miss0 hU hw.t16 _).mpr c2)]
        have hs := hw.2.2.2.2.2.2.2.1 k hk hL.1
        obtain ⟨d0, hd0, ed0⟩ := vp_in_of (hw.sdr hk (Or.inr hL.1)) (by omega)
        rw [ed0, nI_clamp (by omega)] at hs
        have el : s_X7_leaves z.1 nl nt ng (nI k) (z.1 14 0 4 + 1) = k_d (k_d (k_d z.1 15 23 d0 (-1)) 15 11 k 108) 15 8 k (E 14 0 4 + 1) := by
          unfold s_X7_leaves
          rw [nI_clamp (by omega), if_pos c1, rj 4 (by omega) (by omega) (by omega), ed0, nI_clamp (by omega), r14]
        rw [el]
        refine ⟨?_, fun j h1 h2 h3 => ?_, fun l => ?_, fun l => ?_, fun d hd => ?_, ?_⟩
        · dsimp only
          rw [k_d_r _ (by omega), k_d_r _ (by omega), k_d_r _ (by omega)]; exact r14
        · dsimp only
          rw [k_d_off _ _ (by omega), k_d_off _ _ (by omega), k_d_off _ _ (by omega)]; exact rj j h1 h2 h3
        · dsimp only
          rw [k_di rfl]
          by_cases hlk : l = k
          · subst hlk; rw [k_ds, q_i1 ⟨by omega, hL⟩]
          · rw [k_dn (by omega), k_di rfl, r11 l]
            have e1 : (l < k + 1 ∧ q_L E nl nt ng l) = (l < k ∧ q_L E nl nt ng l) := propext ⟨fun q => ⟨by omega, q.2⟩, fun q => ⟨by omega, q.2⟩⟩
            rw [e1]
        · dsimp only
          by_cases hlk : l = k
          · subst hlk; rw [k_ds, q_i1 ⟨by omega, hL⟩]
          · rw [k_dn (by omega), k_di rfl, k_di rfl, r8 l]
            have e1 : (l < k + 1 ∧ q_L E nl nt ng l) = (l < k ∧ q_L E nl nt ng l) := propext ⟨fun q => ⟨by omega, q.2⟩, fun q => ⟨by omega, q.2⟩⟩
            rw [e1]
        · dsimp only
          rw [k_di rfl, k_di rfl]
          by_cases hdd : d = d0
          · subst hdd; rw [k_ds, q_i1 ⟨k, by omega, hL, hs⟩]
          · rw [k_dn (by omega), r23 d hd]
            have e2 : (∃ l, l < k + 1 ∧ q_L E nl nt ng l ∧ E 15 23 d = nI l) = (∃ l, l < k ∧ q_L E nl nt ng l ∧ E 15 23 d = nI l) := propext ⟨fun ⟨l, a, b, c⟩ => ⟨l, by
              rcases Nat.lt_or_ge l k with w | w
              · exact w
              · exfalso
                have hl : l = k := by omega
                subst hl
                obtain ⟨v1, v2, v3⟩ := hw.ind hd (by rw [c]; exact nI_nm1 (by omega))
                rw [c, nI_clamp (by omega), ed0] at v3
                exact hdd ((nI_eq (by omega) (by omega)).mp v3).symm, b, c⟩, fun ⟨l, a, b, c⟩ => ⟨l, by omega, b, c⟩⟩
            rw [e2]
        · show z.2 + 1 = _
          rw [rc, q_S_s, q_b1 hL, nI_1]
      · rw [if_neg (by rw [ems]; exact mt (q_miss0 hU hw.t16 _).mp c2)]
        exact no (fun q => c2 q.2)
    · rw [if_neg c1]
      exact no (fun q => c1 (es.trans q.1)))
  obtain ⟨r14, rj, r11, r8, r23, rc⟩ := key
  refine ⟨r14, rj, r11, r8, fun d hd => ?_, rc⟩
  rw [r23 d hd]
  have e : (∃ l, l < nl ∧ q_L E nl nt ng l ∧ E 15 23 d = nI l) = (E 15 23 d ≠ -1 ∧ s_X7_missing E nl nt ng (E 15 23 d) = 0) := propext ⟨fun ⟨l, a, b, c⟩ => ⟨by rw [c]; exact nI_nm1 (by omega), by rw [c]; exact b.2⟩, fun ⟨a, b⟩ => by
    obtain ⟨v1, v2, v3⟩ := hw.ind hd a
    obtain ⟨l, hl, el⟩ := vp_in_of v1 (by omega)
    rw [el, nI_clamp (by omega)] at v2
    rw [el] at b
    exact ⟨l, hl, ⟨v2, b⟩, el⟩⟩
  rw [e]
end
