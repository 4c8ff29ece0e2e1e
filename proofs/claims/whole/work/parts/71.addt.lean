section
variable {D E x : KD} {nl nt ng : Nat}
/-- a new transfer -/
theorem q_newT (h : q_V D E nl nt ng) (h16 : nt < 16) (a b mn : Int32) (ha : vp_in a nl) (hb : vp_in b nl) (ka : E 15 0 a.toNatClampNeg ≠ 0) (kb : E 15 0 b.toNatClampNeg = 0) (hu : ∃ U, 1 ≤ U ∧ U ≤ 99 ∧ mn = nI U) {E' : KD}
    (e12 : E' 15 12 nt = a) (e13 : E' 15 13 nt = b) (e14 : E' 15 14 nt = mn) (eo : ∀ j l, l ≠ nt → E' 15 j l = E 15 j l) (en : ∀ j, j < 12 ∨ 14 < j → E' 15 j = E 15 j) (ea : E' 14 0 2 = E 14 0 2 + 1) (eb : ∀ k, k ≠ 0 → k ≠ 2 → E' 14 0 k = E 14 0 k) :
    q_V (k_D2 D 1 5 8 nt (k_ft a b mn) (fun _ => 0)) E' nl (nt + 1) ng := by
  obtain ⟨hC, hD, hH, hM, hw, hG, hmm, hK, hU, hJ, hZ⟩ := h
  have x5 : ∀ t, t ≠ nt → k_D2 D 1 5 8 nt (k_ft a b mn) (fun _ => 0) 5 t = D 5 t := fun l hl => by
    unfold k_D2
    rw [if_neg (by omega), if_neg (by omega), if_neg (by omega)]
  have x5n : k_D2 D 1 5 8 nt (k_ft a b mn) (fun _ => 0) 5 nt = k_ft a b mn := by
    unfold k_D2
    rw [if_neg (by omega), if_pos ⟨rfl, rfl⟩]
  have x8 : ∀ t, t ≠ nt → k_D2 D 1 5 8 nt (k_ft a b mn) (fun _ => 0) 8 t = D 8 t := fun l hl => by
    unfold k_D2
    rw [if_neg (by omega), if_neg (by omega), if_neg (by omega)]
  have x8n : k_D2 D 1 5 8 nt (k_ft a b mn) (fun _ => 0) 8 nt = fun _ => 0 := by
    unfold k_D2
    rw [if_neg (by omega), if_neg (by omega), if_pos ⟨rfl, rfl⟩]
  have xr : ∀ r, r ≠ 1 → r ≠ 5 → r ≠ 8 → k_D2 D 1 5 8 nt (k_ft a b mn) (fun _ => 0) r = D r := fun r h1 h2 h3 => by
    funext i
    unfold k_D2
    rw [if_neg (by omega), if_neg (by omega), if_neg (by omega)]
  have nw : E' 14 0 4 = E 14 0 4 := eb 4 (by omega) (by omega)
  have x4 := xr 4 (by omega) (by omega) (by omega)
  have z15 := hZ.2.1 15 (by omega) (by omega) nt (Nat.le_refl _)
  have z16 := hZ.2.1 16 (by omega) (by omega) nt (Nat.le_refl _)
  have z17 := hZ.2.1 17 (by omega) (by omega) nt (Nat.le_refl _)
  refine ⟨⟨fun l hl => ?_, fun l hl p hp => ?_, fun t ht p hp => ?_, fun g hg p hp => ?_, fun t ht k hk => ?_, ?_⟩, fun d hd => ?_, ?_, hM.cp (xr 7 (by omega) (by omega) (by omega)) (fun l k _ => by rw [x4]) (en 24 (by omega)) (eb 5 (by omega) (by omega)), ?_, hG.cp (en 19 (by omega)) (en 21 (by omega)), ?_, fun t ht => ?_, fun t ht => ?_, ?_, ?_⟩
  · rw [x4]; exact hC.n hl
  · have := q_tL0 p hp
    rw [x4, en p.2 (by omega)]; exact hC.2.1 l hl p hp
  · by_cases c : t = nt
    · subst c
      rw [x5n]
      simp only [q_tT, List.mem_cons, List.mem_nil_iff, or_false] at hp
      rcases hp with rfl | rfl | rfl | rfl | rfl | rfl
      · exact e12.symm
      · exact e13.symm
      · exact e14.symm
      · show (0 : Int32) = E' 15 15 t; rw [en 15 (by omega), z15]
      · show (0 : Int32) = E' 15 16 t; rw [en 16 (by omega), z16]
      · show (0 : Int32) = E' 15 17 t; rw [en 17 (by omega), z17]
    · rw [x5 t c, eo _ t c]; exact hC.2.2.1 t (by omega) p hp
  · have := q_tG0 p hp
    rw [xr 6 (by omega) (by omega) (by omega), en p.2 (by omega)]; exact hC.2.2.2.1 g hg p hp
  · rw [en 18 (by omega)]
    by_cases c : t = nt
    · subst c
      rw [x8n]; exact (hZ.2.2 _ (by omega)).symm
    · rw [x8 t c]; exact hC.s (by omega) hk
  · rw [xr 0 (by omega) (by omega) (by omega), nw]; exact hC.now
  · rw [xr 3 (by omega) (by omega) (by omega), en 23 (by omega)]; exact hD d hd
  · unfold q_Y at hH ⊢; rw [x4]; exact hH
  · have hw2 := hw
    unfold mWF at hw2 ⊢
    rw [en 4 (by omega), en 11 (by omega), en 23 (by omega), eb 1 (by omega) (by omega), eb 3 (by omega) (by omega), ea, hw.t, nI_1]
    refine ⟨hw2.1, ⟨rfl, by omega⟩, hw2.2.2.1, fun t ht => ?_, hw2.2.2.2.2⟩
    by_cases c : t = nt
    · subst c; rw [e12, e13]; exact ⟨ha, hb⟩
    · rw [eo 12 t c, eo 13 t c]; exact ⟨hw.frl (by omega), hw.tol (by omega)⟩
  · unfold q_m at hmm ⊢; rw [nw]; exact hmm
  · rw [en 0 (by omega)]
    by_cases c : t = nt
    · subst c; rw [e12, e13]; exact ⟨ka, kb⟩
    · rw [eo 12 t c, eo 13 t c]; exact hK t (by omega)
  · by_cases c : t = nt
    · subst c
      obtain ⟨U, u1, u2, u3⟩ := hu
      refine ⟨U, 0, 0, fun _ => 0, u1, u2, Nat.zero_le _, e14.trans u3, ?_, ?_, ?_, fun k hk => ?_⟩
      · rw [en 15 (by omega)]; exact z15
      · rw [en 16 (by omega)]; exact z16
      · rw [en 17 (by omega)]; exact z17
      · rw [en 18 (by omega)]; exact hZ.2.2 _ (by omega)
    · obtain ⟨U, r, c', s, u1, u2, u3, v1, v2, v3, v4, v5⟩ := hU t (by omega)
      refine ⟨U, r, c', s, u1, u2, u3, ?_, ?_, ?_, ?_, fun k hk => ?_⟩
      · rw [eo 14 t c]; exact v1
      · rw [eo 15 t c]; exact v2
      · rw [eo 16 t c]; exact v3
      · rw [eo 17 t c]; exact v4
      · rw [en 18 (by omega)]; exact v5 k hk
  · unfold q_J q_jw at hJ ⊢; rw [x4, en 9 (by omega), en 10 (by omega), nw]; exact hJ
  · refine ⟨fun l hl => ?_, fun j h1 h2 i hi => ?_, fun i hi => ?_⟩
    · rw [en 1 (by omega), en 5 (by omega), en 6 (by omega), en 7 (by omega), en 8 (by omega), en 24 (by omega)]; exact hZ.1 l hl
    · rw [en j (by omega)]; exact hZ.2.1 j h1 h2 i (by omega)
    · rw [en 18 (by omega)]; exact hZ.2.2 i (by omega)
theorem q_goneC (v w : Int32) (l : Int32) : s_X7_isGone (k_d (k_d E 14 0 0 v) 14 0 0 w) l = s_X7_isGone E l := by
  unfold s_X7_isGone
  rw [k_d_r _ (by decide), k_d_r _ (by decide)]
theorem q_noLC (v l : Int32) : j_X7_noLorry_20 (k_d E 14 0 0 v) l = j_X7_noLorry_20 E l := by
  unfold j_X7_noLorry_20
  rw [k_dk rfl]
theorem q_cAddTransfer (h : q_V D E nl nt ng) (fo tu un : Int32) : q_chg D E nl nt ng (s_x_addTransfer D nl nt ng fo tu un) (s_X7_addTransfer E nl nt ng fo tu un) (k_fe 1 fo tu un) := by
  have h8 := h.wf.l8
  have h16 := h.wf.t16
  unfold q_chg s_x_addTransfer s_X7_addTransfer
  rw [q_within]
  simp only [q_noLC, q_noL h.wf, q_goneC]
  by_cases c1 : fo < 0 ∨ nl ≤ fo.toNatClampNeg
  · simp only [if_pos c1]
    rw [if_neg (by decide : ¬ (1 : Int32) = 0)]
    exact ⟨(k_ds : k_d E 14 0 0 1 14 0 0 = 1), fun q => absurd q (by decide), fun _ => h.thr 1⟩
  · obtain ⟨a, ha, rfl⟩ := vp_in_of (q_inOf c1) (by omega)
    simp only [if_neg c1, if_true]
    by_cases c2 : tu < 0 ∨ nl ≤ tu.toNatClampNeg
    · simp only [if_pos c2]
      rw [if_neg (by decide : ¬ (1 : Int32) = 0)]
      exact ⟨(k_ds : k_d (k_d E 14 0 0 0) 14 0 0 1 14 0 0 = 1), fun q => absurd q (by decide), fun _ => (h.thr 0).thr 1⟩
    · obtain ⟨b, hb, rfl⟩ := vp_in_of (q_inOf c2) (by omega)
      simp only [if_neg c2, if_true]
      have ca := nI_clamp (show a < 2 ^ 31 by omega)
      have cb := nI_clamp (show b < 2 ^ 31 by omega)
      rw [ca, cb, h.C.l1 ha, h.C.l1 hb, (q_dk h.C ha).resolve_right (by omega), (q_dk h.C hb).resolve_right (by omega)]
      have hV := (h.thr 0).thr 0
      have bad : ∀ v : Int32, v ≠ 0 → (k_d (k_d (k_d E 14 0 0 0) 14 0 0 0) 14 0 0 v, (0 : Int32)).1 14 0 0 = v ∧ (v = 0 → q_V (s_und (D, nl, nt, ng) (k_fe 1 (nI a) (nI b) un)).1.1 (k_d (k_d (k_d E 14 0 0 0) 14 0 0 0) 14 0 0 v, (0 : Int32)).1 (s_und (D, nl, nt, ng) (k_fe 1 (nI a) (nI b) un)).1.2.1 (s_und (D, nl, nt, ng) (k_fe 1 (nI a) (nI b) un)).1.2.2.1 (s_und (D, nl, nt, ng) (k_fe 1 (nI a) (nI b) un)).1.2.2.2 ∧ (s_und (D, nl, nt, ng) (k_fe 1 (nI a) (nI b) un)).2 = (k_d (k_d (k_d E 14 0 0 0) 14 0 0 0) 14 0 0 v, (0 : Int32)).2 ∧ kOk (D, nl, nt, ng) (k_fe 1 (nI a) (nI b) un)) ∧ (v ≠ 0 → q_V D (k_d (k_d (k_d E 14 0 0 0) 14 0 0 0) 14 0 0 v, (0 : Int32)).1 nl nt ng) := fun v hv => ⟨(k_ds : k_d (k_d (k_d E 14 0 0 0) 14 0 0 0) 14 0 0 v 14 0 0 = v), fun q => absurd q hv, fun _ => hV.thr v⟩
      by_cases c3 : E 15 0 a = 0
      · simp only [if_pos c3]; exact bad 2 (by decide)
      · simp only [if_neg c3]
        by_cases c4 : E 15 0 b = 0
        · simp only [if_pos c4]
          by_cases c5 : s_X7_isIn un 1 99 = 0
          · simp only [if_pos c5]; exact bad 2 (by decide)
          · simp only [if_neg c5]
            by_cases c6 : s_X7_isGone E (nI a) = 0
            · simp only [if_pos c6]
              by_cases c7 : s_X7_isGone E (nI b) = 0
              · simp only [if_pos c7]
                rw [h.wf.t]
                by_cases c8 : nt < 16
                · have d1 : nI nt < 16 := (nI_ltI (a := nt) (b := 16) (by omega) (by omega)).mpr c8
                  have d2 : ¬ nI nt = 16 := fun q => absurd ((nI_eq (a := nt) (b := 16) (by omega) (by omega)).mp q) (by omega)
                  simp only [if_pos d1, if_neg d2]
                  have eD : s_und (D, nl, nt, ng) (k_fe 1 (nI a) (nI b) un) = ((k_D2 D 1 5 8 nt (k_ft (nI a) (nI b) un) (fun _ => 0), nl, nt + 1, ng), nI nt) := by
                    rw [s_und_1 rfl]; first | done | rfl
                  rw [eD]
                  refine ⟨?_, fun _ => ⟨q_newT h c8 (nI a) (nI b) un (q_inOf c1) (q_inOf c2) (by rw [ca]; exact c3) (by rw [cb]; exact c4) (q_rng (a := 1) (b := 99) (by omega) (by omega) c5) ?_ ?_ ?_ (fun j l hl => ?_) (fun j hj => ?_) ?_ (fun k h1 h2 => ?_), rfl, Or.inr (Or.inl ⟨rfl, c8, q_inOf c1, q_inOf c2⟩)⟩, fun q => absurd rfl q⟩
                  · simp [k_d]
                  · simp [k_d]
                  · simp [k_d]
                  · simp [k_d]
                  · simp [k_d, hl]
                  · funext l
                    simp only [k_d]
                    rw [if_neg (by omega), if_neg (by omega), if_neg (by omega), if_neg (by omega), if_neg (by omega), if_neg (by omega)]
                  · simp [k_d, h.wf.t]
                  · simp [k_d, h1, h2]
                · have e : nt = 16 := by omega
                  have d1 : ¬ nI nt < 16 := fun q => absurd ((nI_ltI (a := nt) (b := 16) (by omega) (by omega)).mp q) (by omega)
                  have d2 : nI nt = 16 := by rw [e]; decide
                  simp only [if_neg d1, if_pos d2]; exact bad 3 (by decide)
              · simp only [if_neg c7]; exact bad 3 (by decide)
            · simp only [if_neg c6]; exact bad 3 (by decide)
        · simp only [if_neg c4]; exact bad 2 (by decide)
end
