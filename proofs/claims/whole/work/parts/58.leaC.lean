section
variable {D E : KD} {nl nt ng : Nat}
theorem q_dL (hw : mWF E nl nt ng) {l : Nat} (hl : l < nl) : (∃ d, d < 4 ∧ E 15 23 d = nI l ∧ s_X7_missing E nl nt ng (nI l) = 0) ↔ q_L E nl nt ng l := by
  have h8 := hw.l8
  constructor
  · rintro ⟨d, hd, e, hm⟩
    obtain ⟨v1, v2, v3⟩ := hw.ind hd (by rw [e]; exact nI_nm1 (by omega))
    rw [e, nI_clamp (by omega)] at v2
    exact ⟨v2, hm⟩
  · rintro ⟨h1, h2⟩
    have hs := hw.2.2.2.2.2.2.2.1 l hl h1
    exact ⟨_, (hw.sdr hl (Or.inr h1)).lt, hs, h2⟩
theorem q_lD (hw : mWF E nl nt ng) {d : Nat} (hd : d < 4) : (∃ l, l < nl ∧ E 15 23 d = nI l ∧ s_X7_missing E nl nt ng (nI l) = 0) ↔ (E 15 23 d ≠ -1 ∧ s_X7_missing E nl nt ng (E 15 23 d) = 0) := by
  have h8 := hw.l8
  constructor
  · rintro ⟨l, hl, e, hm⟩
    exact ⟨by rw [e]; exact nI_nm1 (by omega), by rw [e]; exact hm⟩
  · rintro ⟨h1, h2⟩
    obtain ⟨v1, v2, v3⟩ := hw.ind hd h1
    obtain ⟨l, hl, el⟩ := vp_in_of v1 (by omega)
    exact ⟨l, hl, el, by rw [← el]; exact h2⟩
theorem q_cntL (hw : mWF E nl nt ng) : q_S (fun l => q_b (q_L E nl nt ng l)) nl = q_S (fun d => q_b (E 15 23 d ≠ -1 ∧ s_X7_missing E nl nt ng (E 15 23 d) = 0)) 4 := by
  have h8 := hw.l8
  rw [← q_S_cg (fun l hl => q_b_cg (q_dL hw hl)), ← q_S_cg (fun d hd => q_b_cg (q_lD hw hd))]
  refine q_S_bij (fun d l => E 15 23 d = nI l ∧ s_X7_missing E nl nt ng (nI l) = 0) nl 4 (fun l hl d d' hd hd' a b => ?_) (fun d hd l l' hl hl' a b => ?_)
  · obtain ⟨v1, v2, v3⟩ := hw.ind hd (by rw [a.1]; exact nI_nm1 (by omega))
    obtain ⟨u1, u2, u3⟩ := hw.ind hd' (by rw [b.1]; exact nI_nm1 (by omega))
    rw [a.1] at v3
    rw [b.1, v3] at u3
    exact (nI_eq (by omega) (by omega)).mp u3
  · exact (nI_eq (by omega) (by omega)).mp (a.1.symm.trans b.1)
theorem q_leaC (hw : mWF E nl nt ng) (hC : q_C D E nl nt ng) (hD : q_D D E) (hK : q_K E nt) (D1 : KD) :
    let z := it (f_X0_letLeave_4 D1 nl nt ng) 4 (D, (0 : Int32))
    (∀ r, r ≠ 4 → z.1 r = D r) ∧ (∀ l k, k ≠ 5 → k ≠ 7 → z.1 4 l k = D 4 l k) ∧ (∀ l, l < nl → z.1 4 l 5 = q_i (q_L E nl nt ng l) 108 (D 4 l 5)) ∧ (∀ l, l < nl → z.1 4 l 7 = q_i (q_L E nl nt ng l) (E 14 0 4 + 1) (D 4 l 7)) ∧ z.2 = nI (q_S (fun l => q_b (q_L E nl nt ng l)) nl) := by
  have h8 := hw.l8
  have key := it_indk (f := f_X0_letLeave_4 D1 nl nt ng) (a := (D, (0 : Int32))) (n := 4) (P := fun k z => (∀ r, r ≠ 4 → z.1 r = D r) ∧ (∀ l k, k ≠ 5 → k ≠ 7 → z.1 4 l k = D 4 l k) ∧ (∀ l, l < nl → z.1 4 l 5 = q_i (∃ d, d < k ∧ E 15 23 d = nI l ∧ s_X7_missing E nl nt ng (nI l) = 0) 108 (D 4 l 5)) ∧ (∀ l, l < nl → z.1 4 l 7 = q_i (∃ d, d < k ∧ E 15 23 d = nI l ∧ s_X7_missing E nl nt ng (nI l) = 0) (E 14 0 4 + 1) (D 4 l 7)) ∧ z.2 = nI (q_S (fun d => q_b (E 15 23 d ≠ -1 ∧ s_X7_missing E nl nt ng (E 15 23 d) = 0)) k)) ⟨fun _ _ => rfl, fun _ _ _ _ => rfl, fun l _ => (q_i0 (fun ⟨d, q, _⟩ => absurd q (by omega))).symm, fun l _ => (q_i0 (fun ⟨d, q, _⟩ => absurd q (by omega))).symm, rfl⟩ (fun k hk z => by
    rintro ⟨rr, rk, r5, r7, rc⟩
    have ex : z.1 3 0 k = E 15 23 k := by rw [rr 3 (by omega)]; exact hD k hk
    have e0 : z.1 0 0 4 = E 14 0 4 := by rw [rr 0 (by omega)]; exact hC.now
    have eg : ∀ l, l < nl → ¬ (E 15 23 k = nI l ∧ s_X7_missing E nl nt ng (nI l) = 0) → (∃ d, d < k + 1 ∧ E 15 23 d = nI l ∧ s_X7_missing E nl nt ng (nI l) = 0) = (∃ d, d < k ∧ E 15 23 d = nI l ∧ s_X7_missing E nl nt ng (nI l) = 0) := fun l hl hn => propext ⟨fun ⟨d, a, b⟩ => ⟨d, by
      rcases Nat.lt_or_ge d k with w | w
      · exact w
      · exact absurd ((show d = k by omega) ▸ b) hn, b⟩, fun ⟨d, a, b⟩ => ⟨d, by omega, b⟩⟩
    unfold f_X0_letLeave_4
    rw [ex]
    by_cases c1 : E 15 23 k = -1
    · rw [if_pos c1]
      have hn : ∀ l, l < nl → ¬ (E 15 23 k = nI l ∧ s_X7_missing E nl nt ng (nI l) = 0) := fun l hl q => nI_nm1 (l := l) (by omega) (q.1.symm.trans c1)
      refine ⟨rr, rk, fun l hl => ?_, fun l hl => ?_, ?_⟩
      · rw [eg l hl (hn l hl)]; exact r5 l hl
      · rw [eg l hl (hn l hl)]; exact r7 l hl
      · rw [q_S_s, q_b0 (fun q => q.1 c1)]; exact rc
    · rw [if_neg c1]
      obtain ⟨v1, v2, v3⟩ := hw.ind hk c1
      obtain ⟨i, hi, ei⟩ := vp_in_of v1 (by omega)
      rw [ei, nI_clamp (by omega)]
      have eo : s_X0_openUnits z.1 nl nt ng i = s_X7_missing E nl nt ng (nI i) := by
        rw [q_openC (D := D) (rr 5 (by omega)) (fun l => rk l 1 (by omega) (by omega))]
        exact q_miss hC hK hw hi
      rw [eo]
      have hn : ∀ l, l < nl → l ≠ i → ¬ (E 15 23 k = nI l ∧ s_X7_missing E nl nt ng (nI l) = 0) := fun l hl hli q => hli ((nI_eq (by omega) (by omega)).mp (q.1.symm.trans ei))
      by_cases c2 : s_X7_missing E nl nt ng (nI i) = 0
      · rw [if_pos c2]
        unfold s_X3_goAway
        dsimp only
        refine ⟨fun r hr => ?_, fun l k' h1 h2 => ?_, fun l hl => ?_, fun l hl => ?_, ?_⟩
        · rw [k_d_r _ hr, k_d_r _ hr]; exact rr r hr
        · rw [k_dn (by omega), k_dn (by omega)]; exact rk l k' h1 h2
        · rw [k_dk rfl]
          by_cases hli : l = i
          · subst hli; rw [k_ds, q_i1 ⟨k, by omega, ei, c2⟩]
          · rw [k_dn (by omega), eg l hl (hn l hl hli)]; exact r5 l hl
        · by_cases hli : l = i
          · subst hli; rw [k_ds, q_i1 ⟨k, by omega, ei, c2⟩, e0]
          · rw [k_dn (by omega), k_dn (by omega), eg l hl (hn l hl hli)]; exact r7 l hl
        · rw [q_S_s, q_b1 ⟨c1, by rw [ei]; exact c2⟩, rc, nI_1]
      · rw [if_neg c2]
        have hn' : ∀ l, l < nl → ¬ (E 15 23 k = nI l ∧ s_X7_missing E nl nt ng (nI l) = 0) := fun l hl q => by
          by_cases hli : l = i
          · exact c2 (hli ▸ q.2)
          · exact hn l hl hli q
        refine ⟨rr, rk, fun l hl => ?_, fun l hl => ?_, ?_⟩
        · rw [eg l hl (hn' l hl)]; exact r5 l hl
        · rw [eg l hl (hn' l hl)]; exact r7 l hl
        · rw [q_S_s, q_b0 (fun q => c2 (by rw [← ei]; exact q.2))]; exact rc)
  obtain ⟨rr, rk, r5, r7, rc⟩ := key
  refine ⟨rr, rk, fun l hl => ?_, fun l hl => ?_, ?_⟩
  · rw [r5 l hl]; exact q_i_cg (q_dL hw hl)
  · rw [r7 l hl]; exact q_i_cg (q_dL hw hl)
  · rw [rc, q_cntL hw]
/-- after the leaving: all but the doors alike -/
theorem q_lea (hw : mWF E nl nt ng) (hC : q_C D E nl nt ng) (hD : q_D D E) (hK : q_K E nt) (hU : q_U E nt) (D1 E1 : KD) :
    q_C (it (f_X0_letLeave_4 D1 nl nt ng) 4 (D, (0 : Int32))).1 (it (f_X7_passes_165 E1 nl nt ng) nl (E, (0 : Int32))).1 nl nt ng ∧ (it (f_X0_letLeave_4 D1 nl nt ng) 4 (D, (0 : Int32))).2 = (it (f_X7_passes_165 E1 nl nt ng) nl (E, (0 : Int32))).2 := by
  obtain ⟨a14, aj, a11, a8, a23, ac⟩ := q_leaR (nt := nt) (ng := ng) hw hU E1
  obtain ⟨br, bk, b5, b7, bc⟩ := q_leaC hw hC hD hK D1
  refine ⟨⟨fun l hl => ?_, fun l hl p hp => ?_, fun t ht p hp => ?_, fun g hg p hp => ?_, fun t ht k hk => ?_, ?_⟩, bc.trans ac.symm⟩
  · rw [bk l 0 (by omega) (by omega)]; exact hC.n hl
  · have e5 := b5 l hl
    have e7 := b7 l hl
    have e11 := a11 l
    have e8 := a8 l
    rw [q_i_cg (p := l < nl ∧ q_L E nl nt ng l) (q := q_L E nl nt ng l) ⟨fun q => q.2, fun q => ⟨hl, q⟩⟩] at e11 e8
    rw [hC.l5 hl] at e5
    rw [hC.l7 hl] at e7
    have o : ∀ p ∈ q_tL, p = (5, 11) ∨ p = (7, 8) ∨ (p.1 ≠ 5 ∧ p.1 ≠ 7 ∧ p.2 ≠ 8 ∧ p.2 ≠ 11 ∧ p.2 ≠ 23) := by decide
    rcases o p hp with rfl | rfl | ⟨o1, o2, o3, o4, o5⟩
    · exact e5.trans e11.symm
    · exact e7.trans e8.symm
    · rw [bk l p.1 o1 o2, aj p.2 o3 o4 o5]; exact hC.2.1 l hl p hp
  · have o := q_tT0 p hp
    rw [br 5 (by omega), aj p.2 (by omega) (by omega) (by omega)]; exact hC.2.2.1 t ht p hp
  · have o := q_tG0 p hp
    rw [br 6 (by omega), aj p.2 (by omega) (by omega) (by omega)]; exact hC.2.2.2.1 g hg p hp
  · rw [br 8 (by omega), aj 18 (by omega) (by omega) (by omega)]; exact hC.s ht hk
  · rw [br 0 (by omega), a14]; exact hC.now
end
