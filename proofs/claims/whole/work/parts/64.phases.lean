/-! one minute: its phases put together -/
section
variable {D E : KD} {nl nt ng : Nat}
theorem q_p1 (hw : mWF E nl nt ng) (hC : q_C D E nl nt ng) (hD : q_D D E) (hY : q_Y D nl) (hG : q_G E ng) (hm : q_m E) (hK : q_K E nt) (hU : q_U E nt) :
    q_C (s_X0_handleUnits (s_X0_fillDoors D nl nt ng) nl nt ng) (l_X7_passes_78 E nl nt ng) nl nt ng ∧ q_D (s_X0_handleUnits (s_X0_fillDoors D nl nt ng) nl nt ng) (l_X7_passes_78 E nl nt ng) ∧ (q_H (l_X7_passes_78 E nl nt ng) (s_X0_handleUnits (s_X0_fillDoors D nl nt ng) nl nt ng) (l_X7_passes_78 E nl nt ng) nl ∧ ∀ l, l < nl → (l_X7_passes_78 E nl nt ng 15 11 l = 101 ∨ l_X7_passes_78 E nl nt ng 15 11 l = 121) → s_X0_handleUnits (s_X0_fillDoors D nl nt ng) nl nt ng 4 l 10 = 0) ∧ q_U (l_X7_passes_78 E nl nt ng) nt ∧ (∀ d, d < 4 → l_X7_passes_78 E nl nt ng 15 25 d = l_X7_passes_78 E nl nt ng 15 23 d) ∧ l_X7_passes_78 E nl nt ng 14 = E 14 ∧ (∀ j, j ≠ 1 → j ≠ 11 → j ≠ 23 → j ≠ 25 → ¬ (15 ≤ j ∧ j ≤ 18) → l_X7_passes_78 E nl nt ng 15 j = E 15 j) ∧ q_fT nt E (l_X7_passes_78 E nl nt ng) ∧ (∀ l, nl ≤ l → l_X7_passes_78 E nl nt ng 15 1 l = E 15 1 l) ∧ s_X0_handleUnits (s_X0_fillDoors D nl nt ng) nl nt ng 7 = D 7 ∧ ∀ l k, k ≠ 5 → k ≠ 10 → s_X0_handleUnits (s_X0_fillDoors D nl nt ng) nl nt ng 4 l k = D 4 l k := by
  have a : q_C (s_X0_fillDoors D nl nt ng) (l_X7_passes_2 E nl nt ng) nl nt ng ∧ q_D (s_X0_fillDoors D nl nt ng) (l_X7_passes_2 E nl nt ng) ∧ mWF (l_X7_passes_2 E nl nt ng) nl nt ng ∧ q_fF E (l_X7_passes_2 E nl nt ng) ∧ q_fG D (s_X0_fillDoors D nl nt ng) := q_fill hw hC hD D E
  obtain ⟨a1, a2, a3, a4, a5⟩ := a
  have aU : q_U (l_X7_passes_2 E nl nt ng) nt := hU.cp (a4.2 14 (by omega) (by omega)) (a4.2 15 (by omega) (by omega)) (a4.2 16 (by omega) (by omega)) (a4.2 17 (by omega) (by omega)) (a4.2 18 (by omega) (by omega))
  have b := q_rst a1 aU E
  have eb2 : it (f_X7_passes_55 E nl nt ng) nl (l_X7_passes_2 E nl nt ng) = l_X7_passes_55 E nl nt ng := rfl
  rw [eb2] at b
  obtain ⟨b1, b2, b3, b5, b6, b7⟩ := b
  have bw := (mP_55 hw).1
  have bK : q_K (l_X7_passes_55 E nl nt ng) nt := b3.K (hK.cp (a4.2 0 (by omega) (by omega)) (a4.2 12 (by omega) (by omega)) (a4.2 13 (by omega) (by omega)))
  have bG : q_G (l_X7_passes_55 E nl nt ng) ng := b3.G (hG.cp (a4.2 19 (by omega) (by omega)) (a4.2 21 (by omega) (by omega)))
  have bm : q_m (l_X7_passes_55 E nl nt ng) := hm.cp (b3.1.trans a4.1)
  have bD : q_D (s_X0_fillDoors D nl nt ng) (l_X7_passes_55 E nl nt ng) := fun d hd => by
    rw [b3.2 23 (by omega) (by omega) (by omega)]; exact a2 d hd
  have f2 : ∀ l, l_X7_passes_2 E nl nt ng 15 11 l = 100 ∨ l_X7_passes_2 E nl nt ng 15 11 l = E 15 11 l := q_fil2 E E
  have bY : ∀ l, l < nl → (l_X7_passes_55 E nl nt ng 15 11 l = 101 ∨ l_X7_passes_55 E nl nt ng 15 11 l = 121) → s_X0_fillDoors D nl nt ng 4 l 10 = 0 := fun l hl q => by
    rw [b3.2 11 (by omega) (by omega) (by omega)] at q
    rw [a5.2 l 10 (by omega)]
    rcases f2 l with c | c
    · rw [c] at q; exact absurd q (by decide)
    · rw [c] at q
      exact hY l hl (by rw [hC.l5 hl]; exact q)
  have c := q_hnd8 bw bK bG bm b1 bD bY b6 b2 (s_X0_fillDoors D nl nt ng) E
  have ec1 : it (f_X0_handleUnits_2 (s_X0_fillDoors D nl nt ng) nl nt ng) 4 (s_X0_fillDoors D nl nt ng) = s_X0_handleUnits (s_X0_fillDoors D nl nt ng) nl nt ng := rfl
  have ec2 : it (f_X7_passes_78 E nl nt ng) 4 (l_X7_passes_55 E nl nt ng) = l_X7_passes_78 E nl nt ng := rfl
  rw [ec1, ec2] at c
  obtain ⟨c1, c2, c3, c4, c5, c6, c7, c8, c9⟩ := c
  have c11 : l_X7_passes_78 E nl nt ng 15 11 = l_X7_passes_55 E nl nt ng 15 11 := c4.2 11 (by omega) (by omega) (by omega)
  have cA : ∀ l, l < nl → (∃ d, d < 4 ∧ l_X7_passes_55 E nl nt ng 15 23 d = nI l) → s_X0_handleUnits (s_X0_fillDoors D nl nt ng) nl nt ng 4 l 10 = l_X7_passes_78 E nl nt ng 15 1 l := c2.1
  have cY : ∀ l, l < nl → (l_X7_passes_55 E nl nt ng 15 11 l = 101 ∨ l_X7_passes_55 E nl nt ng 15 11 l = 121) → s_X0_handleUnits (s_X0_fillDoors D nl nt ng) nl nt ng 4 l 10 = 0 ∧ l_X7_passes_78 E nl nt ng 15 1 l = 0 := c2.2
  refine ⟨c1, fun d hd => ?_, ⟨fun l hl q => ?_, fun l hl q => ?_⟩, c3, fun d hd => ?_, ?_, fun j h1 h2 h3 h4 h5 => ?_, ?_, fun l hl => ?_, ?_, fun l k h1 h2 => ?_⟩
  · rw [c6.1, c4.2 23 (by omega) (by omega) (by omega)]; exact bD d hd
  · rcases q with q | q | ⟨d, hd, ed⟩
    · rw [c11] at q
      obtain ⟨u1, u2⟩ := cY l hl (Or.inr q)
      rw [u1, u2]
    · rw [c11] at q
      exact cA l hl ⟨_, (bw.sdr hl (Or.inr q)).lt, bw.2.2.2.2.2.2.2.1 l hl q⟩
    · rw [c7 d hd] at ed
      exact cA l hl ⟨d, hd, ed⟩
  · rw [c11] at q
    exact (cY l hl q).1
  · rw [c7 d hd, c4.2 23 (by omega) (by omega) (by omega)]
  · exact c4.1.trans (b3.1.trans a4.1)
  · exact (c4.2 j h1 h4 h5).trans ((b3.2 j h1 h4 h5).trans (a4.2 j h2 h3))
  · refine q_fT.tr ?_ (b5.tr c5)
    exact ⟨fun j h1 h2 i hi => by rw [a4.2 j (by omega) (by omega)], fun i hi => by rw [a4.2 18 (by omega) (by omega)]⟩
  · rw [c9 l hl, b7 l hl, a4.2 1 (by omega) (by omega)]
  · exact c6.2.1.trans a5.1
  · exact (c6.2.2 l k h2).trans (a5.2 l k h1)
theorem q_p2 (hw : mWF E nl nt ng) (hC : q_C D E nl nt ng) (hD : q_D D E) (hH : q_H E D E nl) (hG : q_G E ng) (hm : q_m E) (hK : q_K E nt) (hU : q_U E nt) (hP : ∀ d, d < 4 → E 15 25 d = E 15 23 d) {E4 D4 D5 : KD} {c1 c2 : Int32} (D1 D2 E1 : KD) (e4 : (E4, c1) = it (f_X7_passes_165 E1 nl nt ng) nl (E, (0 : Int32))) (d4 : (D4, c2) = it (f_X0_letLeave_4 D1 nl nt ng) 4 (D, (0 : Int32))) (d5 : D5 = it (f_X0_lookAtDoors_2 D2 nl nt ng) 4 D4) (w4 : mWF E4 nl nt ng) (hPL : mPL E4 nl) :
    c2 = c1 ∧ q_C D5 E4 nl nt ng ∧ q_H E4 D5 E4 nl ∧ (∀ l, l < nl → E4 15 11 l = 121 → ∃ a, a < nl ∧ D5 3 0 (E4 15 4 l).toNatClampNeg = nI a ∧ E4 15 25 (E4 15 4 l).toNatClampNeg = nI a ∧ D5 4 a 13 = s_X7_owesAtDoor E4 nl nt ng (nI a)) ∧ (∀ l, l < nl → E4 15 11 l = 100 → D5 4 l 13 = s_X7_owesAtDoor E4 nl nt ng (nI l)) ∧ D5 3 = D 3 ∧ D5 7 = D 7 ∧ (∀ l k, k ≠ 5 → k ≠ 7 → k ≠ 13 → D5 4 l k = D 4 l k) ∧ E4 14 = E 14 ∧ (∀ j, j ≠ 8 → j ≠ 11 → j ≠ 23 → E4 15 j = E 15 j) ∧ (∀ l, nl ≤ l → E4 15 8 l = E 15 8 l) ∧
    (∀ d, d < 4 → E4 15 23 d = if E 15 23 d = -1 then -1 else if E4 15 11 (E 15 23 d).toNatClampNeg = 108 then -1 else E 15 23 d) ∧ ∀ l, E4 15 11 l = 108 ∨ E4 15 11 l = E 15 11 l := by
  have h8 := hw.l8
  have aa := q_leaR hw hU E1
  have bb := q_leaC hw hC hD hK D1
  have cc := q_lea hw hC hD hK hU D1 E1
  rw [← e4] at aa cc
  rw [← d4] at bb cc
  obtain ⟨a14, aj, a11, a8, a23, ac⟩ := aa
  obtain ⟨br, bk, b5, b7, bc⟩ := bb
  obtain ⟨cC, cc2⟩ := cc
  dsimp only at a14 aj a11 a8 a23 ac br bk b5 b7 bc cC cc2
  have u4 : q_U E4 nt := hU.cp (aj 14 (by omega) (by omega) (by omega)) (aj 15 (by omega) (by omega) (by omega)) (aj 16 (by omega) (by omega) (by omega)) (aj 17 (by omega) (by omega) (by omega)) (aj 18 (by omega) (by omega) (by omega))
  have lk := q_look w4 cC (hG.cp (aj 19 (by omega) (by omega) (by omega)) (aj 21 (by omega) (by omega) (by omega))) (hm.cp a14) u4 (fun d hd => by
    rw [br 3 (by omega), hD d hd]
    by_cases c : E 15 23 d = -1
    · exact Or.inl c
    · obtain ⟨v1, v2, v3⟩ := hw.ind hd c
      obtain ⟨i, hi, ei⟩ := vp_in_of v1 (by omega)
      rw [ei, nI_clamp (by omega)] at v3
      exact Or.inr ⟨i, hi, ei, by rw [aj 4 (by omega) (by omega) (by omega)]; exact v3⟩) D2
  rw [← d5] at lk
  obtain ⟨l1, l2, l3, l4⟩ := lk
  have D53 : ∀ d, d < 4 → D5 3 0 d = E 15 23 d := fun d hd => by rw [l1 3 (by omega), br 3 (by omega)]; exact hD d hd
  have s11 : ∀ l, E4 15 11 l = 108 ∨ E4 15 11 l = E 15 11 l := fun l => by
    rw [a11 l]
    by_cases c : l < nl ∧ q_L E nl nt ng l
    · rw [q_i1 c]; exact Or.inl rfl
    · rw [q_i0 c]; exact Or.inr rfl
  refine ⟨cc2, l3, fun l hl hq => ?_, fun l hl hs => ?_, fun l hl hs => ?_, ?_, ?_, fun l k h1 h2 h3 => ?_, a14, aj, fun l hl => ?_, fun d hd => ?_, s11⟩
  · rw [l2 l 10 (by omega), bk l 10 (by omega) (by omega), aj 1 (by omega) (by omega) (by omega)]
    refine hH l hl ?_
    rw [aj 25 (by omega) (by omega) (by omega)] at hq
    rcases s11 l with c | c
    · rcases hq with q | q | q
      · rw [c] at q; exact absurd q (by decide)
      · rw [c] at q; exact absurd q (by decide)
      · exact Or.inr (Or.inr q)
    · rw [c] at hq; exact hq
  · obtain ⟨a, ha, ea⟩ := vp_in_of (hPL l hl hs) (by omega)
    have hd := (w4.sdr hl (Or.inl hs)).lt
    have e1 : E 15 23 (E4 15 4 l).toNatClampNeg = nI a := by rw [← hP _ hd, ← aj 25 (by omega) (by omega) (by omega)]; exact ea
    refine ⟨a, ha, ?_, ea, ?_⟩
    · rw [D53 _ hd]; exact e1
    · exact l4 _ hd a (by rw [br 3 (by omega), hD _ hd]; exact e1) ha
  · have hd := (w4.sdr hl (Or.inr hs)).lt
    have e1 := w4.2.2.2.2.2.2.2.1 l hl hs
    have e2 := a23 _ hd
    rw [e1] at e2
    have e3 : E 15 23 (E4 15 4 l).toNatClampNeg = nI l := by
      by_cases c : E 15 23 (E4 15 4 l).toNatClampNeg ≠ -1 ∧ s_X7_missing E nl nt ng (E 15 23 (E4 15 4 l).toNatClampNeg) = 0
      · rw [q_i1 c] at e2
        exact absurd e2 (nI_nm1 (by omega))
      · rw [q_i0 c] at e2
        exact e2.symm
    exact l4 _ hd l (by rw [br 3 (by omega), hD _ hd]; exact e3) hl
  · rw [l1 3 (by omega)]; exact br 3 (by omega)
  · rw [l1 7 (by omega)]; exact br 7 (by omega)
  · rw [l2 l k h3]; exact bk l k h1 h2
  · rw [a8 l]; exact q_i0 (fun q => by omega)
  · rw [a23 d hd]
    by_cases c : E 15 23 d = -1
    · rw [if_pos c, q_i0 (fun q => q.1 c), c]
    · rw [if_neg c]
      obtain ⟨v1, v2, v3⟩ := hw.ind hd c
      obtain ⟨i, hi, ei⟩ := vp_in_of v1 (by omega)
      rw [ei, nI_clamp (by omega)] at v2
      rw [ei, nI_clamp (by omega), a11 i]
      by_cases c2 : s_X7_missing E nl nt ng (nI i) = 0
      · rw [q_i1 ⟨nI_nm1 (by omega), c2⟩, q_i1 ⟨hi, v2, c2⟩, if_pos rfl]
      · rw [q_i0 (fun q => c2 q.2), q_i0 (fun q => c2 q.2.2), v2]; first | done | rfl
end
