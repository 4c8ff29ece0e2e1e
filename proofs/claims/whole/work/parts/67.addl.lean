section
variable {D E : KD} {nl nt ng : Nat}
theorem q_now0 (hm : q_m E) {l : Nat} (h : E 15 10 l = -1) : ¬ q_jw E l := by
  rintro ⟨h1, h2⟩
  obtain ⟨m, hm1, hm2⟩ := hm
  rw [h, hm2] at h2
  rw [hm2] at h1
  rcases Nat.eq_zero_or_pos m with rfl | h0
  · exact h1 rfl
  · rw [q_sub1 h0] at h2
    exact nI_nm1 (by omega) h2.symm
/-- a new lorry -/
theorem q_newL (h : q_V D E nl nt ng) (h8 : nl < 8) (br pl ra : Int32) {E' : KD}
    (e0 : E' 15 0 nl = br) (e2 : E' 15 2 nl = pl) (e3 : E' 15 3 nl = ra) (e4 : E' 15 4 nl = -1) (e11 : E' 15 11 nl = 101) (e10 : E' 15 10 nl = -1) (eo : ∀ j l, l ≠ nl → E' 15 j l = E 15 j l) (en : ∀ j, j ≠ 0 → j ≠ 2 → j ≠ 3 → j ≠ 4 → j ≠ 11 → j ≠ 10 → E' 15 j = E 15 j) (ea : E' 14 0 1 = E 14 0 1 + 1) (eb : ∀ k, k ≠ 0 → k ≠ 1 → E' 14 0 k = E 14 0 k) :
    q_V (k_D2 D 0 4 7 nl (k_fl nl br pl ra) (fun _ => 0)) E' (nl + 1) nt ng := by
  obtain ⟨hC, hD, hH, hM, hw, hG, hmm, hK, hU, hJ, hZ⟩ := h
  obtain ⟨z1, z5, z6, z7, z8, z24⟩ := hZ.1 nl (Nat.le_refl _)
  have x4 : ∀ l, l ≠ nl → k_D2 D 0 4 7 nl (k_fl nl br pl ra) (fun _ => 0) 4 l = D 4 l := fun l hl => by
    unfold k_D2
    rw [if_neg (by omega), if_neg (by omega), if_neg (by omega)]
  have x4n : k_D2 D 0 4 7 nl (k_fl nl br pl ra) (fun _ => 0) 4 nl = k_fl nl br pl ra := by
    unfold k_D2
    rw [if_neg (by omega), if_pos ⟨rfl, rfl⟩]
  have x7 : ∀ l, l ≠ nl → k_D2 D 0 4 7 nl (k_fl nl br pl ra) (fun _ => 0) 7 l = D 7 l := fun l hl => by
    unfold k_D2
    rw [if_neg (by omega), if_neg (by omega), if_neg (by omega)]
  have x7n : k_D2 D 0 4 7 nl (k_fl nl br pl ra) (fun _ => 0) 7 nl = fun _ => 0 := by
    unfold k_D2
    rw [if_neg (by omega), if_neg (by omega), if_pos ⟨rfl, rfl⟩]
  have xr : ∀ r, r ≠ 1 → r ≠ 4 → r ≠ 7 → k_D2 D 0 4 7 nl (k_fl nl br pl ra) (fun _ => 0) r = D r := fun r h1 h2 h3 => by
    funext i
    unfold k_D2
    rw [if_neg (by omega), if_neg (by omega), if_neg (by omega)]
  have er : ∀ j, 12 ≤ j → E' 15 j = E 15 j := fun j hj => en j (by omega) (by omega) (by omega) (by omega) (by omega) (by omega)
  have nw : E' 14 0 4 = E 14 0 4 := eb 4 (by omega) (by omega)
  have hm' : q_m E' := by unfold q_m at hmm ⊢; rw [nw]; exact hmm
  refine ⟨⟨fun l hl => ?_, fun l hl p hp => ?_, fun t ht p hp => ?_, fun g hg p hp => ?_, fun t ht k hk => ?_, ?_⟩, fun d hd => ?_, fun l hl hq => ?_, ⟨fun l hl p hp => ?_, ?_, fun l hl => ?_⟩, ⟨⟨?_, by omega⟩, ⟨?_, hw.t16⟩, ⟨?_, hw.g4⟩, fun t ht => ?_, fun l hl => ?_, fun l hl hs => ?_, fun d hd => ?_, fun l hl hs => ?_, fun l hl => ?_⟩, ?_, hm', fun t ht => ?_, hU.cp (er 14 (by omega)) (er 15 (by omega)) (er 16 (by omega)) (er 17 (by omega)) (er 18 (by omega)), ⟨fun l hl => ?_, fun l hl => ?_⟩, ⟨fun l hl => ⟨?_, ?_, ?_, ?_, ?_, fun hl8 p hp => ?_⟩, fun j h1 h2 i hi => ?_, fun i hi => ?_⟩⟩
  · by_cases c : l = nl
    · subst c; rw [x4n]; rfl
    · rw [x4 l c]; exact hC.n (by omega)
  · by_cases c : l = nl
    · subst c
      rw [x4n]
      simp only [q_tL, List.mem_cons, List.mem_nil_iff, or_false] at hp
      rcases hp with rfl | rfl | rfl | rfl | rfl | rfl | rfl | rfl | rfl
      · exact e0.symm
      · exact e2.symm
      · exact e3.symm
      · exact e4.symm
      · exact e11.symm
      · show (0 : Int32) = E' 15 5 l; rw [en 5 (by omega) (by omega) (by omega) (by omega) (by omega) (by omega), z5]
      · show (0 : Int32) = E' 15 8 l; rw [en 8 (by omega) (by omega) (by omega) (by omega) (by omega) (by omega), z8]
      · show (0 : Int32) = E' 15 6 l; rw [en 6 (by omega) (by omega) (by omega) (by omega) (by omega) (by omega), z6]
      · show (0 : Int32) = E' 15 7 l; rw [en 7 (by omega) (by omega) (by omega) (by omega) (by omega) (by omega), z7]
    · rw [x4 l c, eo _ l c]; exact hC.2.1 l (by omega) p hp
  · have := q_tT0 p hp
    rw [xr 5 (by omega) (by omega) (by omega), er p.2 (by omega)]; exact hC.2.2.1 t ht p hp
  · have := q_tG0 p hp
    rw [xr 6 (by omega) (by omega) (by omega), er p.2 (by omega)]; exact hC.2.2.2.1 g hg p hp
  · rw [xr 8 (by omega) (by omega) (by omega), er 18 (by omega)]; exact hC.s ht hk
  · rw [xr 0 (by omega) (by omega) (by omega), nw]; exact hC.now
  · rw [xr 3 (by omega) (by omega) (by omega), er 23 (by omega)]; exact hD d hd
  · by_cases c : l = nl
    · subst c; rw [x4n]; rfl
    · rw [x4 l c] at hq ⊢; exact hH l (by omega) hq
  · rw [er 24 (by omega)]
    by_cases c : l = nl
    · subst c
      rw [x7n, z24 h8 p hp]
      exact Int32.zero_mul.symm
    · rw [x7 l c, x4 l c]; exact hM.1 l (by omega) p hp
  · rw [eb 5 (by omega) (by omega), it_s, x7n, hM.2.1]
    show _ = _ + (0 : Int32)
    rw [Int32.add_zero]
    exact it_cong (fun l hl z => by rw [x7 l (by omega)]) 0
  · by_cases c : l = nl
    · subst c
      rw [x4n, x7n]
      show (0 : Int32) = 0 + it (fun _ z => z + (0 : Int32)) 9 0
      decide +kernel
    · rw [x4 l c, x7 l c]; exact hM.2.2 l (by omega)
  · rw [ea, hw.l, nI_1]
  · rw [eb 2 (by omega) (by omega)]; exact hw.t
  · rw [eb 3 (by omega) (by omega)]; exact hw.g
  · rw [er 12 (by omega), er 13 (by omega)]; exact ⟨(hw.frl ht).mono (by omega), (hw.tol ht).mono (by omega)⟩
  · by_cases c : l = nl
    · subst c; exact Or.inl e4
    · rw [eo _ l c]; exact hw.2.2.2.2.1 l (by omega)
  · by_cases c : l = nl
    · subst c; rw [e11] at hs; exact absurd hs (by decide)
    · rw [eo _ l c] at hs ⊢; exact hw.sd (by omega) hs
  · rw [er 23 (by omega)]
    by_cases c : E 15 23 d = -1
    · exact Or.inl c
    · obtain ⟨v1, v2, v3⟩ := hw.ind hd c
      have := v1.lt
      rw [eo 11 _ (by omega), eo 4 _ (by omega)]
      exact Or.inr ⟨v1.mono (by omega), v2, v3⟩
  · by_cases c : l = nl
    · subst c; rw [e11] at hs; exact absurd hs (by decide)
    · rw [eo 11 l c] at hs
      rw [eo 4 l c, er 23 (by omega)]; exact hw.2.2.2.2.2.2.2.1 l (by omega) hs
  · by_cases c : l = nl
    · subst c; exact Or.inl e11
    · rw [eo 11 l c]; exact hw.st (by omega)
  · exact hG.cp (er 19 (by omega)) (er 21 (by omega))
  · have a1 := (hw.frl ht).lt
    have a2 := (hw.tol ht).lt
    rw [er 12 (by omega), er 13 (by omega), eo 0 _ (by omega), eo 0 _ (by omega)]; exact hK t ht
  · by_cases c : l = nl
    · subst c
      rw [x4n]
      exact Or.inr ⟨rfl, q_now0 hm' e10⟩
    · unfold q_jw
      rw [x4 l c, eo 10 l c, nw, en 9 (by omega) (by omega) (by omega) (by omega) (by omega) (by omega)]
      exact hJ.1 l (by omega)
  · by_cases c : l = nl
    · subst c; exact Or.inl e10
    · rw [eo 10 l c, nw]; exact hJ.2 l (by omega)
  · rw [en 1 (by omega) (by omega) (by omega) (by omega) (by omega) (by omega)]; exact (hZ.1 l (by omega)).1
  · rw [en 5 (by omega) (by omega) (by omega) (by omega) (by omega) (by omega)]; exact (hZ.1 l (by omega)).2.1
  · rw [en 6 (by omega) (by omega) (by omega) (by omega) (by omega) (by omega)]; exact (hZ.1 l (by omega)).2.2.1
  · rw [en 7 (by omega) (by omega) (by omega) (by omega) (by omega) (by omega)]; exact (hZ.1 l (by omega)).2.2.2.1
  · rw [en 8 (by omega) (by omega) (by omega) (by omega) (by omega) (by omega)]; exact (hZ.1 l (by omega)).2.2.2.2.1
  · rw [er 24 (by omega)]; exact (hZ.1 l (by omega)).2.2.2.2.2 hl8 p hp
  · rw [er j (by omega)]; exact hZ.2.1 j h1 h2 i hi
  · rw [er 18 (by omega)]; exact hZ.2.2 i hi
theorem q_cAddLorry (h : q_V D E nl nt ng) {br : Int32} (hbr : br = 0 ∨ br = 1) (pl ra : Int32) : q_chg D E nl nt ng (s_x_addLorry D nl nt ng br pl ra) (s_X7_addLorry E nl nt ng br pl ra) (k_fe 0 (if br = 0 then (0 : Int32) else 1) pl ra) := by
  have h8 := h.wf.l8
  have hbb : (if (if br = 0 then (0 : Int32) else 1) = 1 then (1 : Int32) else 0) = br := by
    rcases hbr with rfl | rfl <;> decide
  unfold q_chg s_x_addLorry s_X7_addLorry
  rw [q_within, q_within]
  by_cases c1 : s_X7_isIn pl 0 1999 = 0
  · rw [if_pos c1, if_pos c1]
    exact ⟨(k_ds : k_d E 14 0 0 1 14 0 0 = 1), fun q => absurd q (by decide), fun _ => h.thr 1⟩
  · rw [if_neg c1, if_neg c1]
    by_cases c2 : s_X7_isIn ra 1 99 = 0
    · rw [if_pos c2, if_pos c2]
      exact ⟨(k_ds : k_d E 14 0 0 1 14 0 0 = 1), fun q => absurd q (by decide), fun _ => h.thr 1⟩
    · rw [if_neg c2, if_neg c2, h.wf.l]
      by_cases c3 : nl < 8
      · have d1 : nI nl < 8 := (nI_ltI (a := nl) (b := 8) (by omega) (by omega)).mpr c3
        have d2 : ¬ nI nl = 8 := fun q => absurd ((nI_eq (a := nl) (b := 8) (by omega) (by omega)).mp q) (by omega)
        rw [if_pos d1, if_neg d2]
        have eu : s_und (D, nl, nt, ng) (k_fe 0 (if br = 0 then (0 : Int32) else 1) pl ra) = ((k_D2 D 0 4 7 nl (k_fl nl br pl ra) (fun _ => 0), nl + 1, nt, ng), nI nl) := by
          rw [s_und_0 rfl]
          show ((k_D2 D 0 4 7 nl (k_fl nl (if (if br = 0 then (0 : Int32) else 1) = 1 then 1 else 0) pl ra) (fun _ => 0), nl + 1, nt, ng), nI nl) = _
          rw [hbb]
        rw [eu]
        refine ⟨?_, fun _ => ⟨q_newL h c3 br pl ra ?_ ?_ ?_ ?_ ?_ ?_ (fun j l hl => ?_) (fun j h1 h2 h3 h4 h5 h6 => ?_) ?_ (fun k h1 h2 => ?_), rfl, Or.inl ⟨rfl, c3⟩⟩, fun q => absurd rfl q⟩
        · simp [k_d]
        · simp [k_d]
        · simp [k_d]
        · simp [k_d]
        · simp [k_d]
        · simp [k_d]
        · simp [k_d]
        · simp [k_d, hl]
        · funext l; simp [k_d, h1, h2, h3, h4, h5, h6]
        · simp [k_d, h.wf.l]
        · simp [k_d, h1, h2]
      · have e : nl = 8 := by omega
        have d1 : ¬ nI nl < 8 := fun q => absurd ((nI_ltI (a := nl) (b := 8) (by omega) (by omega)).mp q) (by omega)
        have d2 : nI nl = 8 := by rw [e]; decide
        rw [if_neg d1, if_pos d2]
        exact ⟨(k_ds : k_d E 14 0 0 2 14 0 0 = 2), fun q => absurd q (by decide), fun _ => h.thr 2⟩
end
