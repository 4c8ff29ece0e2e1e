section
variable {D E x : KD} {nl nt ng : Nat}
theorem q_cArrive (h : q_V D E nl nt ng) (lo : Int32) : q_chg D E nl nt ng (s_x_arrive D nl nt ng lo) (s_X7_arrive E nl nt ng lo) (k_fe 3 lo 0 0) := by
  have h8 := h.wf.l8
  unfold q_chg s_x_arrive s_X7_arrive
  rw [q_noL h.wf]
  by_cases c1 : lo < 0 ∨ nl ≤ lo.toNatClampNeg
  · simp only [if_pos c1]
    rw [if_neg (by decide : ¬ (1 : Int32) = 0)]
    exact ⟨(k_ds : k_d E 14 0 0 1 14 0 0 = 1), fun q => absurd q (by decide), fun _ => h.thr 1⟩
  · obtain ⟨l, hl, rfl⟩ := vp_in_of (q_inOf c1) (by omega)
    simp only [if_neg c1, if_true]
    rw [nI_clamp (by omega), h.C.l5 hl, h.C.l4 hl]
    by_cases c2 : E 15 11 l = 101
    · rw [if_pos c2, if_pos c2]
      by_cases c3 : E 15 4 l = -1
      · rw [if_pos c3, if_pos c3]
        exact ⟨(k_ds : k_d (k_d E 14 0 0 0) 14 0 0 3 14 0 0 = 3), fun q => absurd q (by decide), fun _ => (h.thr 0).thr 3⟩
      · rw [if_neg c3, if_neg c3]
        have hV := h.thr 0
        have eD : s_und (D, nl, nt, ng) (k_fe 3 (nI l) 0 0) = ((k_d (k_d D 4 l 5 121) 4 l 6 (D 0 0 4), nl, nt, ng), s_X0_lorriesInYard (k_d (k_d D 4 l 5 121) 4 l 6 (D 0 0 4)) nl nt ng) := by
          rw [s_und_3 rfl]
          show ((s_X3_comeIn D (nI l).toNatClampNeg (D 0 0 4), nl, nt, ng), s_X0_lorriesInYard (s_X3_comeIn D (nI l).toNatClampNeg (D 0 0 4)) nl nt ng) = _
          rw [nI_clamp (by omega)]; first | done | rfl
        have hw2 : mWF (k_d (k_d E 14 0 0 0) 15 11 l 121) nl nt ng := hV.wf.come hl (by rw [k_dr rfl]; exact c2) (by rw [k_dr rfl]; exact c3)
        have vw : q_Vw (k_d (k_d D 4 l 5 121) 4 l 6 (D 0 0 4)) (k_d (k_d (k_d E 14 0 0 0) 15 11 l 121) 15 5 l (E 14 0 4)) nl nt ng := (hV.w.put (5, 11) (by decide) (by decide) hl rfl (Or.inr (Or.inr ((h.C.l5 hl).trans c2)))).put (6, 5) (by decide) (by decide) hl h.C.now (Or.inl (by decide))
        rw [eD]
        refine ⟨?_, fun _ => ⟨vw.V ((hV.d.off (by decide) (by decide)).off (by decide) (by decide)) (hw2.put15 (by decide)), ?_, Or.inr (Or.inr (Or.inr (Or.inl ⟨rfl, q_inOf c1⟩)))⟩, fun q => absurd rfl q⟩
        · show k_d (k_d (k_d E 14 0 0 0) 15 11 l 121) 15 5 l (E 14 0 4) 14 0 0 = 0
          rw [k_dr rfl, k_dr rfl, k_ds]
        · show s_X0_lorriesInYard (k_d (k_d D 4 l 5 121) 4 l 6 (D 0 0 4)) nl nt ng = l_X7_arrive_65 E nl nt ng (nI l)
          unfold s_X0_lorriesInYard l_X0_lorriesInYard_4 l_X7_arrive_65
          refine it_cong (fun k hk z => ?_) 0
          unfold f_X0_lorriesInYard_4 f_X7_arrive_65 j_X7_arrive_90
          rw [vw.1.l5 hk, nI_clamp (by omega), k_di rfl, q_noL h.wf, if_neg c1]
          split
          · rfl
          · exact (Int32.add_zero z).symm
    · rw [if_neg c2, if_neg c2]
      exact ⟨(k_ds : k_d (k_d E 14 0 0 0) 14 0 0 2 14 0 0 = 2), fun q => absurd q (by decide), fun _ => (h.thr 0).thr 2⟩
theorem q_cSend (h : q_V D E nl nt ng) (lo : Int32) : q_chg D E nl nt ng (s_x_sendOff D nl nt ng lo) (s_X7_sendOff E nl nt ng lo) (k_fe 4 lo 0 0) := by
  have h8 := h.wf.l8
  unfold q_chg s_x_sendOff s_X7_sendOff
  rw [q_noL h.wf]
  by_cases c1 : lo < 0 ∨ nl ≤ lo.toNatClampNeg
  · simp only [if_pos c1]
    rw [if_neg (by decide : ¬ (1 : Int32) = 0)]
    exact ⟨(k_ds : k_d E 14 0 0 1 14 0 0 = 1), fun q => absurd q (by decide), fun _ => h.thr 1⟩
  · obtain ⟨l, hl, rfl⟩ := vp_in_of (q_inOf c1) (by omega)
    simp only [if_neg c1, if_true]
    rw [nI_clamp (by omega)]
    unfold s_X3_isPresent
    rw [h.C.l5 hl]
    have hV := h.thr 0
    have main : (E 15 11 l = 121 ∨ E 15 11 l = 100) → (s_X7_leaves (k_d E 14 0 0 0) nl nt ng (nI l) (E 14 0 4), s_X7_missing (s_X7_leaves (k_d E 14 0 0 0) nl nt ng (nI l) (E 14 0 4)) nl nt ng (nI l)).1 14 0 0 = 0 ∧ ((0 : Int32) = 0 → q_V (s_und (D, nl, nt, ng) (k_fe 4 (nI l) 0 0)).1.1 (s_X7_leaves (k_d E 14 0 0 0) nl nt ng (nI l) (E 14 0 4), s_X7_missing (s_X7_leaves (k_d E 14 0 0 0) nl nt ng (nI l) (E 14 0 4)) nl nt ng (nI l)).1 (s_und (D, nl, nt, ng) (k_fe 4 (nI l) 0 0)).1.2.1 (s_und (D, nl, nt, ng) (k_fe 4 (nI l) 0 0)).1.2.2.1 (s_und (D, nl, nt, ng) (k_fe 4 (nI l) 0 0)).1.2.2.2 ∧ (s_und (D, nl, nt, ng) (k_fe 4 (nI l) 0 0)).2 = (s_X7_leaves (k_d E 14 0 0 0) nl nt ng (nI l) (E 14 0 4), s_X7_missing (s_X7_leaves (k_d E 14 0 0 0) nl nt ng (nI l) (E 14 0 4)) nl nt ng (nI l)).2 ∧ kOk (D, nl, nt, ng) (k_fe 4 (nI l) 0 0)) ∧ ((0 : Int32) ≠ 0 → q_V D (s_X7_leaves (k_d E 14 0 0 0) nl nt ng (nI l) (E 14 0 4), s_X7_missing (s_X7_leaves (k_d E 14 0 0 0) nl nt ng (nI l) (E 14 0 4)) nl nt ng (nI l)).1 nl nt ng) := by
      intro hs
      have eD : s_und (D, nl, nt, ng) (k_fe 4 (nI l) 0 0) = ((s_X0_freeDoors (k_d (k_d D 4 l 5 108) 4 l 7 (D 0 0 4)) nl nt ng, nl, nt, ng), s_X0_openUnits (s_X0_freeDoors (k_d (k_d D 4 l 5 108) 4 l 7 (D 0 0 4)) nl nt ng) nl nt ng l) := by
        rw [s_und_4 rfl]
        show (((s_X0_sendAway D nl nt ng (nI l).toNatClampNeg).1, nl, nt, ng), (s_X0_sendAway D nl nt ng (nI l).toNatClampNeg).2) = _
        rw [nI_clamp (by omega)]; first | done | rfl
      have hw' : mWF (s_X7_leaves (k_d E 14 0 0 0) nl nt ng (nI l) (E 14 0 4)) nl nt ng := mWF_leaves2 hV.wf (q_inOf c1) (by rw [nI_clamp (by omega), k_dr rfl]; exact hs) _
      have hz : s_X7_leaves (k_d E 14 0 0 0) nl nt ng (nI l) (E 14 0 4) 14 0 0 = 0 := by
        unfold s_X7_leaves
        split
        · rw [k_dr rfl, k_dr rfl, k_dr rfl, k_ds]
        · rw [k_dr rfl, k_dr rfl, k_ds]
      have vw1 : q_Vw (k_d (k_d D 4 l 5 108) 4 l 7 (D 0 0 4)) (s_X7_leaves (k_d E 14 0 0 0) nl nt ng (nI l) (E 14 0 4)) nl nt ng := by
        unfold s_X7_leaves
        rw [nI_clamp (by omega)]
        split
        · exact ((hV.w.off23 _ _).put (5, 11) (by decide) (by decide) hl rfl (Or.inr (Or.inl rfl))).put (7, 8) (by decide) (by decide) hl h.C.now (Or.inl (by decide))
        · exact (hV.w.put (5, 11) (by decide) (by decide) hl rfl (Or.inr (Or.inl rfl))).put (7, 8) (by decide) (by decide) hl h.C.now (Or.inl (by decide))
      obtain ⟨f1, f2⟩ := q_free (nl := nl) (nt := nt) (ng := ng) (k_d (k_d D 4 l 5 108) 4 l 7 (D 0 0 4)) (k_d (k_d D 4 l 5 108) 4 l 7 (D 0 0 4))
      have ef : it (f_X0_freeDoors_2 (k_d (k_d D 4 l 5 108) 4 l 7 (D 0 0 4)) nl nt ng) 4 (k_d (k_d D 4 l 5 108) 4 l 7 (D 0 0 4)) = s_X0_freeDoors (k_d (k_d D 4 l 5 108) 4 l 7 (D 0 0 4)) nl nt ng := rfl
      rw [ef] at f1 f2
      have vw2 := vw1.cp3 f1
      have hd : q_D (s_X0_freeDoors (k_d (k_d D 4 l 5 108) 4 l 7 (D 0 0 4)) nl nt ng) (s_X7_leaves (k_d E 14 0 0 0) nl nt ng (nI l) (E 14 0 4)) := fun d hd => by
        rw [f2 d hd, k_dr rfl, k_dr rfl, h.d d hd]
        have e23 : s_X7_leaves (k_d E 14 0 0 0) nl nt ng (nI l) (E 14 0 4) 15 23 d = if E 15 11 l = 100 ∧ E 15 4 l = nI d then -1 else E 15 23 d := by
          unfold s_X7_leaves
          rw [nI_clamp (by omega), k_dr rfl, k_dr rfl]
          by_cases c : E 15 11 l = 100
          · obtain ⟨d0, hd0, ed0⟩ := vp_in_of (h.wf.sdr hl (Or.inr c)) (by omega)
            rw [if_pos c, k_di rfl, k_di rfl, ed0, nI_clamp (by omega)]
            by_cases c2 : d = d0
            · rw [c2, k_ds, if_pos ⟨c, rfl⟩]
            · rw [k_dn (by omega), k_dr rfl, if_neg (fun q => c2 ((nI_eq (by omega) (by omega)).mp q.2).symm)]
          · rw [if_neg c, k_di rfl, k_di rfl, k_dr rfl, if_neg (fun q => c q.1)]
        rw [e23]
        by_cases c : E 15 23 d = -1
        · rw [if_pos c]
          split
          · rfl
          · exact c.symm
        · rw [if_neg c]
          obtain ⟨v1, v2, v3⟩ := h.wf.ind hd c
          obtain ⟨i, hi, ei⟩ := vp_in_of v1 (by omega)
          rw [ei, nI_clamp (by omega)] at v2 v3
          rw [ei, nI_clamp (by omega), k_dk rfl]
          by_cases ci : i = l
          · subst ci
            rw [k_ds, if_pos rfl, if_pos ⟨v2, v3⟩]
          · rw [k_dn (by omega), h.C.l5 hi, v2, if_neg (by decide), if_neg]
            rintro ⟨q1, q2⟩
            have := h.wf.2.2.2.2.2.2.2.1 l hl q1
            rw [q2, nI_clamp (by omega), ei] at this
            exact ci ((nI_eq (by omega) (by omega)).mp this)
      rw [eD]
      refine ⟨hz, fun _ => ⟨vw2.V hd hw', ?_, Or.inr (Or.inr (Or.inr (Or.inr (Or.inl ⟨rfl, q_inOf c1⟩))))⟩, fun q => absurd rfl q⟩
      exact q_miss vw2.1 vw2.2.2.2.2.2.1 hw' hl
    by_cases c2 : E 15 11 l = 121
    · rw [if_pos c2, if_pos c2, if_neg (by decide : ¬ (1 : Int32) = 0)]
      exact main (Or.inl c2)
    · rw [if_neg c2, if_neg c2]
      by_cases c3 : E 15 11 l = 100
      · rw [if_pos c3, if_pos c3, if_neg (by decide : ¬ (1 : Int32) = 0)]
        exact main (Or.inr c3)
      · rw [if_neg c3, if_neg c3, if_pos (rfl : (0 : Int32) = 0)]
        exact ⟨(k_ds : k_d (k_d E 14 0 0 0) 14 0 0 2 14 0 0 = 2), fun q => absurd q (by decide), fun _ => (h.thr 0).thr 2⟩
end
