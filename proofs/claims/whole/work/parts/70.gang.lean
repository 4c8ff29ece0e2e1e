section
variable {D E x : KD} {nl nt ng : Nat}
theorem q_rng {x : Int32} {a b : Nat} (ha : a < 2 ^ 31) (hb : b < 2 ^ 31) (h : ¬ s_X7_isIn x (nI a) (nI b) = 0) : ∃ j, a ≤ j ∧ j ≤ b ∧ x = nI j := by
  unfold s_X7_isIn at h
  by_cases d1 : x < nI a
  · rw [if_pos d1] at h; exact absurd rfl h
  · rw [if_neg d1] at h
    by_cases d2 : x > nI b
    · rw [if_pos d2] at h; exact absurd rfl h
    · have d0 : ¬ x < 0 := fun q => d1 (Int32.lt_iff_toInt_lt.mpr (by
        have := Int32.lt_iff_toInt_lt.mp q
        have e0 : (0 : Int32).toInt = 0 := by decide
        rw [nI_toInt ha]
        omega))
      obtain ⟨j, hj, rfl⟩ := nI_of d0
      have h1 := mt (nI_ltI (a := j) (b := a) hj ha).mpr d1
      have h2 := mt (nI_ltI (a := b) (b := j) hb hj).mpr d2
      exact ⟨j, by omega, by omega, rfl⟩
theorem q_Vw.put6 (h : q_V D E nl nt ng) (g : Nat) {d : Int32} : q_V (k_d D 6 g 3 d) (k_d E 15 22 g d) nl nt ng := by
  have hh := h
  obtain ⟨hC, hD, hH, hM, hw, hG, hm, hK, hU, hJ, hZ⟩ := hh
  have e : ∀ j, j ≠ 22 → k_d E 15 22 g d 15 j = E 15 j := fun j hj => k_d_off _ _ (by omega)
  have e14 : k_d E 15 22 g d 14 = E 14 := k_d_r _ (by decide)
  have x4 : k_d D 6 g 3 d 4 = D 4 := k_d_r _ (by decide)
  refine ⟨hC.putG (3, 22) (by decide) g rfl, hD.off (by decide) (by decide), ?_, hM.cp (k_d_r _ (by decide)) (fun l k _ => by rw [x4]) (e 24 (by omega)) (by rw [e14]), hw.put15 (by decide), hG.cp (e 19 (by omega)) (e 21 (by omega)), hm.cp e14, hK.cp (e 0 (by omega)) (e 12 (by omega)) (e 13 (by omega)), hU.cp (e 14 (by omega)) (e 15 (by omega)) (e 16 (by omega)) (e 17 (by omega)) (e 18 (by omega)), ?_, ?_⟩
  · unfold q_Y at hH ⊢; rw [x4]; exact hH
  · unfold q_J q_jw at hJ ⊢; rw [e14, e 9 (by omega), e 10 (by omega), x4]; exact hJ
  · refine ⟨fun l hl => ?_, fun j h1 h2 i hi => ?_, fun i hi => ?_⟩
    · rw [e 1 (by omega), e 5 (by omega), e 6 (by omega), e 7 (by omega), e 8 (by omega), e 24 (by omega)]; exact hZ.1 l hl
    · rw [e j (by omega)]; exact hZ.2.1 j h1 h2 i hi
    · rw [e 18 (by omega)]; exact hZ.2.2 i hi
theorem q_m1in (d : Int32) : s_X7_isIn d (-1) 3 = if d = -1 ∨ s_x_requireDoor d = 0 then 1 else 0 := by
  unfold s_x_requireDoor s_X6_isWithin s_X7_isIn
  have e0 : (0 : Int32).toInt = 0 := by decide
  have em : (-1 : Int32).toInt = -1 := by decide
  have e3 : (3 : Int32).toInt = 3 := by decide
  by_cases c1 : d < -1
  · have c2 : d < 0 := Int32.lt_iff_toInt_lt.mpr (by have := Int32.lt_iff_toInt_lt.mp c1; omega)
    have c3 : ¬ d = -1 := fun q => by rw [q] at c1; exact absurd c1 (by decide)
    rw [if_pos c1, if_pos c2, if_pos rfl, if_neg (fun q => Or.elim q c3 (by decide))]
  · by_cases c2 : d < 0
    · have c3 : d = -1 := Int32.toInt_inj.mp (by
        have h1 := Int32.lt_iff_toInt_lt.mp c2
        have h2 := mt Int32.lt_iff_toInt_lt.mpr c1
        omega)
      rw [c3]; decide
    · have c3 : ¬ d = -1 := fun q => by rw [q] at c2; exact absurd (by decide) c2
      rw [if_neg c1, if_neg c2]
      by_cases c4 : d > 3
      · rw [if_pos c4, if_pos (rfl : (0 : Int32) = 0), if_neg (fun q => Or.elim q c3 (by decide))]
      · rw [if_neg c4, if_neg (by decide : ¬ (1 : Int32) = 0), if_pos (Or.inr rfl)]
theorem q_cMove (h : q_V D E nl nt ng) (ga d : Int32) : q_chg D E nl nt ng (s_x_moveGang D nl nt ng ga d) (s_X7_moveGang E nl nt ng ga d) (k_fe 6 ga d 0) := by
  have h4 := h.wf.g4
  unfold q_chg s_x_moveGang s_X7_moveGang
  rw [h.wf.g, q_isN ga (by omega), q_m1in]
  by_cases c1 : ga < 0 ∨ ng ≤ ga.toNatClampNeg
  · simp only [if_pos c1, if_true]
    exact ⟨(k_ds : k_d E 14 0 0 1 14 0 0 = 1), fun q => absurd q (by decide), fun _ => h.thr 1⟩
  · obtain ⟨g, hg, rfl⟩ := vp_in_of (q_inOf c1) (by omega)
    simp only [if_neg c1]
    rw [if_neg (by decide : ¬ (1 : Int32) = 0), nI_clamp (by omega)]
    have es : (if d = -1 then (0 : Int32) else if s_x_requireDoor d = 0 then 0 else 1) = if d = -1 ∨ s_x_requireDoor d = 0 then 0 else 1 := by
      by_cases a1 : d = -1
      · rw [if_pos a1, if_pos (Or.inl a1)]
      · rw [if_neg a1]
        by_cases a2 : s_x_requireDoor d = 0
        · rw [if_pos a2, if_pos (Or.inr a2)]
        · rw [if_neg a2, if_neg (fun q => Or.elim q a1 a2)]
    rw [es]
    by_cases c2 : d = -1 ∨ s_x_requireDoor d = 0
    · simp only [if_pos c2]
      rw [if_neg (by decide : ¬ (1 : Int32) = 0)]
      have eD : s_und (D, nl, nt, ng) (k_fe 6 (nI g) d 0) = ((k_d D 6 g 3 d, nl, nt, ng), D 6 g 3) := by
        rw [s_und_6 rfl]
        show (((s_X2_moveTo D (nI g).toNatClampNeg d).1, nl, nt, ng), (s_X2_moveTo D (nI g).toNatClampNeg d).2) = _
        rw [nI_clamp (by omega)]; first | done | rfl
      rw [eD]
      refine ⟨?_, fun _ => ⟨q_Vw.put6 (h.thr 0) g, h.C.g3 hg, Or.inr (Or.inr (Or.inr (Or.inr (Or.inr (Or.inr (Or.inl ⟨rfl, q_inOf c1⟩))))))⟩, fun q => absurd rfl q⟩
      show k_d (k_d E 14 0 0 0) 15 22 g d 14 0 0 = 0
      rw [k_dr rfl, k_ds]
    · simp only [if_neg c2, if_true]
      exact ⟨(k_ds : k_d E 14 0 0 1 14 0 0 = 1), fun q => absurd q (by decide), fun _ => h.thr 1⟩
/-- a new gang -/
theorem q_newG (h : q_V D E nl nt ng) (h4 : ng < 4) (sp fo tu : Int32) (hs : ∃ s, 1 ≤ s ∧ s ≤ 9 ∧ sp = nI s) (he : ∃ e, 1 ≤ e ∧ e ≤ 2000 ∧ tu = nI e) {E' : KD}
    (e19 : E' 15 19 ng = sp) (e20 : E' 15 20 ng = fo) (e21 : E' 15 21 ng = tu) (e22 : E' 15 22 ng = -1) (eo : ∀ j l, l ≠ ng → E' 15 j l = E 15 j l) (en : ∀ j, j < 19 ∨ 22 < j → E' 15 j = E 15 j) (ea : E' 14 0 3 = E 14 0 3 + 1) (eb : ∀ k, k ≠ 0 → k ≠ 3 → E' 14 0 k = E 14 0 k) :
    q_V (k_D2 D 2 6 9 ng (k_fg sp fo tu) (fun _ => 0)) E' nl nt (ng + 1) := by
  obtain ⟨hC, hD, hH, hM, hw, hG, hmm, hK, hU, hJ, hZ⟩ := h
  have x6 : ∀ l, l ≠ ng → k_D2 D 2 6 9 ng (k_fg sp fo tu) (fun _ => 0) 6 l = D 6 l := fun l hl => by
    unfold k_D2
    rw [if_neg (by omega), if_neg (by omega), if_neg (by omega)]
  have x6n : k_D2 D 2 6 9 ng (k_fg sp fo tu) (fun _ => 0) 6 ng = k_fg sp fo tu := by
    unfold k_D2
    rw [if_neg (by omega), if_pos ⟨rfl, rfl⟩]
  have xr : ∀ r, r ≠ 1 → r ≠ 6 → r ≠ 9 → k_D2 D 2 6 9 ng (k_fg sp fo tu) (fun _ => 0) r = D r := fun r h1 h2 h3 => by
    funext i
    unfold k_D2
    rw [if_neg (by omega), if_neg (by omega), if_neg (by omega)]
  have nw : E' 14 0 4 = E 14 0 4 := eb 4 (by omega) (by omega)
  have x4 := xr 4 (by omega) (by omega) (by omega)
  refine ⟨⟨fun l hl => ?_, fun l hl p hp => ?_, fun t ht p hp => ?_, fun g hg p hp => ?_, fun t ht k hk => ?_, ?_⟩, fun d hd => ?_, ?_, hM.cp (xr 7 (by omega) (by omega) (by omega)) (fun l k _ => by rw [x4]) (en 24 (by omega)) (eb 5 (by omega) (by omega)), ?_, fun g hg => ?_, ?_, hK.cp (en 0 (by omega)) (en 12 (by omega)) (en 13 (by omega)), hU.cp (en 14 (by omega)) (en 15 (by omega)) (en 16 (by omega)) (en 17 (by omega)) (en 18 (by omega)), ?_, ?_⟩
  · rw [x4]; exact hC.n hl
  · have := q_tL0 p hp
    rw [x4, en p.2 (by omega)]; exact hC.2.1 l hl p hp
  · have := q_tT0 p hp
    rw [xr 5 (by omega) (by omega) (by omega), en p.2 (by omega)]; exact hC.2.2.1 t ht p hp
  · by_cases c : g = ng
    · subst c
      rw [x6n]
      simp only [q_tG, List.mem_cons, List.mem_nil_iff, or_false] at hp
      rcases hp with rfl | rfl | rfl | rfl
      · exact e19.symm
      · exact e20.symm
      · exact e21.symm
      · exact e22.symm
    · rw [x6 g c, eo _ g c]; exact hC.2.2.2.1 g (by omega) p hp
  · rw [xr 8 (by omega) (by omega) (by omega), en 18 (by omega)]; exact hC.s ht hk
  · rw [xr 0 (by omega) (by omega) (by omega), nw]; exact hC.now
  · rw [xr 3 (by omega) (by omega) (by omega), en 23 (by omega)]; exact hD d hd
  · unfold q_Y at hH ⊢; rw [x4]; exact hH
  · have hw2 := hw
    unfold mWF at hw2 ⊢
    rw [en 4 (by omega), en 11 (by omega), en 12 (by omega), en 13 (by omega), en 23 (by omega), eb 1 (by omega) (by omega), eb 2 (by omega) (by omega), ea, hw.g, nI_1]
    exact ⟨hw2.1, hw2.2.1, ⟨rfl, by omega⟩, hw2.2.2.2⟩
  · by_cases c : g = ng
    · subst c
      rw [e19, e21]; exact ⟨hs, he⟩
    · rw [eo 19 g c, eo 21 g c]; exact hG g (by omega)
  · unfold q_m at hmm ⊢; rw [nw]; exact hmm
  · unfold q_J q_jw at hJ ⊢; rw [x4, en 9 (by omega), en 10 (by omega), nw]; exact hJ
  · refine ⟨fun l hl => ?_, fun j h1 h2 i hi => ?_, fun i hi => ?_⟩
    · rw [en 1 (by omega), en 5 (by omega), en 6 (by omega), en 7 (by omega), en 8 (by omega), en 24 (by omega)]; exact hZ.1 l hl
    · rw [en j (by omega)]; exact hZ.2.1 j h1 h2 i hi
    · rw [en 18 (by omega)]; exact hZ.2.2 i hi
theorem q_cAddGang (h : q_V D E nl nt ng) (sp fo tu : Int32) : q_chg D E nl nt ng (s_x_addGang D nl nt ng sp fo tu) (s_X7_addGang E nl nt ng sp fo tu) (k_fe 5 sp fo tu) := by
  have h4 := h.wf.g4
  unfold q_chg s_x_addGang s_X7_addGang
  rw [q_within, q_within]
  by_cases c1 : s_X7_isIn sp 1 9 = 0
  · rw [if_pos c1, if_pos c1]
    exact ⟨(k_ds : k_d E 14 0 0 1 14 0 0 = 1), fun q => absurd q (by decide), fun _ => h.thr 1⟩
  · rw [if_neg c1, if_neg c1]
    by_cases c2 : s_X7_isIn fo 0 1999 = 0
    · rw [if_pos c2, if_pos c2]
      exact ⟨(k_ds : k_d E 14 0 0 1 14 0 0 = 1), fun q => absurd q (by decide), fun _ => h.thr 1⟩
    · rw [if_neg c2, if_neg c2]
      obtain ⟨b, -, hb, rfl⟩ := q_rng (a := 0) (b := 1999) (by omega) (by omega) c2
      have ein : s_X7_isIn tu (nI b + 1) 2000 = if tu ≤ nI b then 0 else if tu ≤ 2000 then 1 else 0 := by
        unfold s_X7_isIn
        have k1 : tu < nI b + 1 ↔ tu ≤ nI b := by
          rw [nI_1, Int32.lt_iff_toInt_lt, Int32.le_iff_toInt_le, nI_toInt (by omega), nI_toInt (by omega)]
          omega
        have k2 : tu > 2000 ↔ ¬ tu ≤ 2000 := by
          rw [gt_iff_lt, Int32.lt_iff_toInt_lt, Int32.le_iff_toInt_le]
          omega
        by_cases a1 : tu ≤ nI b
        · rw [if_pos a1, if_pos (k1.mpr a1)]
        · rw [if_neg a1, if_neg (mt k1.mp a1)]
          by_cases a2 : tu ≤ 2000
          · rw [if_pos a2, if_neg (fun q => k2.mp q a2)]
          · rw [if_neg a2, if_pos (k2.mpr a2)]
      rw [ein]
      by_cases c3 : tu ≤ nI b
      · simp only [if_pos c3, if_true]
        exact ⟨(k_ds : k_d E 14 0 0 1 14 0 0 = 1), fun q => absurd q (by decide), fun _ => h.thr 1⟩
      · simp only [if_neg c3]
        by_cases c4 : tu ≤ 2000
        · simp only [if_pos c4]
          rw [if_neg (by decide : ¬ (1 : Int32) = 0), h.wf.g]
          by_cases c5 : ng < 4
          · have d1 : nI ng < 4 := (nI_ltI (a := ng) (b := 4) (by omega) (by omega)).mpr c5
            have d2 : ¬ nI ng = 4 := fun q => absurd ((nI_eq (a := ng) (b := 4) (by omega) (by omega)).mp q) (by omega)
            rw [if_pos d1, if_neg d2]
            have eD : s_und (D, nl, nt, ng) (k_fe 5 sp (nI b) tu) = ((k_D2 D 2 6 9 ng (k_fg sp (nI b) tu) (fun _ => 0), nl, nt, ng + 1), nI ng) := by
              rw [s_und_5 rfl]; first | done | rfl
            have ht : ∃ e, 1 ≤ e ∧ e ≤ 2000 ∧ tu = nI e := by
              have t0 : ¬ tu < 0 := fun q => c3 (by
                rw [Int32.le_iff_toInt_le, nI_toInt (by omega)]
                have := Int32.lt_iff_toInt_lt.mp q
                have e0 : (0 : Int32).toInt = 0 := by decide
                omega)
              obtain ⟨j, hj, rfl⟩ := nI_of t0
              have h1 := mt (nI_leI (a := j) (b := b) hj (by omega)).mpr c3
              have h2 := (nI_leI (a := j) (b := 2000) hj (by omega)).mp c4
              exact ⟨j, by omega, h2, rfl⟩
            rw [eD]
            refine ⟨?_, fun _ => ⟨q_newG h c5 sp (nI b) tu (q_rng (a := 1) (b := 9) (by omega) (by omega) c1) ht ?_ ?_ ?_ ?_ (fun j l hl => ?_) (fun j hj => ?_) ?_ (fun k h1 h2 => ?_), rfl, Or.inr (Or.inr (Or.inr (Or.inr (Or.inr (Or.inl ⟨rfl, c5⟩)))))⟩, fun q => absurd rfl q⟩
            · simp [k_d]
            · simp [k_d]
            · simp [k_d]
            · simp [k_d]
            · simp [k_d]
            · simp [k_d, hl]
            · funext l
              simp only [k_d]
              rw [if_neg (by omega), if_neg (by omega), if_neg (by omega), if_neg (by omega), if_neg (by omega), if_neg (by omega)]
            · simp [k_d, h.wf.g]
            · simp [k_d, h1, h2]
          · have e : ng = 4 := by omega
            have d1 : ¬ nI ng < 4 := fun q => absurd ((nI_ltI (a := ng) (b := 4) (by omega) (by omega)).mp q) (by omega)
            have d2 : nI ng = 4 := by rw [e]; decide
            rw [if_neg d1, if_pos d2]
            exact ⟨(k_ds : k_d E 14 0 0 2 14 0 0 = 2), fun q => absurd q (by decide), fun _ => h.thr 2⟩
        · simp only [if_neg c4, if_true]
          exact ⟨(k_ds : k_d E 14 0 0 1 14 0 0 = 1), fun q => absurd q (by decide), fun _ => h.thr 1⟩
end
