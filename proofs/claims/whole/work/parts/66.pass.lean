/-! a minute leaves the reference's mark of a throw as it was -/
theorem q_t14 {α : Type} {F : Nat → α → α} {G : α → KD} (h : ∀ k z, G (F k z) 14 0 0 = G z 14 0 0) (n : Nat) (a : α) : G (it F n a) 14 0 0 = G a 14 0 0 := it_ind (P := fun z => G z 14 0 0 = G a 14 0 0) rfl (fun k _ z hz => (h k z).trans hz)
theorem q_thrP {nl nt ng : Nat} (E : KD) : (s_X7_passes E nl nt ng).1 14 0 0 = E 14 0 0 := by
  have h2 : l_X7_passes_2 E nl nt ng 14 0 0 = E 14 0 0 := q_t14 (G := fun z => z) (fun k z => by
    unfold f_X7_passes_2
    split <;> first | rfl | (split <;> (repeat rw [k_dr rfl]))) 4 E
  have h55 : l_X7_passes_55 E nl nt ng 14 0 0 = l_X7_passes_2 E nl nt ng 14 0 0 := q_t14 (G := fun z => z) (fun k z => by
    unfold f_X7_passes_55
    rw [k_dr rfl]) nl _
  have hl : ∀ (E1 z : KD) l pw, (it (f_X7_load_5 E1 nl nt ng l pw) nt (z, pw)).1 14 0 0 = z 14 0 0 := fun E1 z l pw => q_t14 (G := fun z : KD × Int32 => z.1) (fun k z => by
    unfold f_X7_load_5
    repeat' split
    all_goals first | rfl | (dsimp only; rw [k_dr rfl, k_dr rfl, k_dr rfl])) nt (z, pw)
  have hu : ∀ (E1 z : KD) l pw, (it (f_X7_unload_5 E1 nl nt ng l pw) nt (z, pw)).1 14 0 0 = z 14 0 0 := fun E1 z l pw => q_t14 (G := fun z : KD × Int32 => z.1) (fun k z => by
    unfold f_X7_unload_5
    repeat' split
    all_goals first | rfl | (dsimp only; rw [k_dr rfl, k_dr rfl, k_dr rfl])) nt (z, pw)
  have h78 : l_X7_passes_78 E nl nt ng 14 0 0 = l_X7_passes_55 E nl nt ng 14 0 0 := q_t14 (G := fun z => z) (fun k z => by
    unfold f_X7_passes_78
    repeat' split
    · rw [k_dr rfl]
    · exact (hl _ _ _ _).trans (k_dr rfl)
    · exact (hu _ _ _ _).trans (k_dr rfl)) 4 _
  have hv : ∀ (z : KD) l m, s_X7_leaves z nl nt ng l m 14 0 0 = z 14 0 0 := fun z l m => by
    unfold s_X7_leaves
    split
    · rw [k_dr rfl, k_dr rfl, k_dr rfl]
    · rw [k_dr rfl, k_dr rfl]
  have h165 : (l_X7_passes_165 E nl nt ng).1 14 0 0 = l_X7_passes_78 E nl nt ng 14 0 0 := q_t14 (G := fun z : KD × Int32 => z.1) (fun k z => by
    unfold f_X7_passes_165
    repeat' split
    all_goals first | rfl | exact hv _ _ _) nl _
  have hw : ∀ (z : KD) l a, s_X7_waits z nl nt ng l a 14 0 0 = z 14 0 0 := fun z l a => by
    unfold s_X7_waits
    repeat' split
    all_goals (first | rw [k_dr rfl] | rw [k_dk rfl]); repeat rw [k_dr rfl]
  have h217 : l_X7_passes_217 E nl nt ng 14 0 0 = (l_X7_passes_165 E nl nt ng).1 14 0 0 := q_t14 (G := fun z => z) (fun k z => by
    unfold f_X7_passes_217
    repeat' split
    all_goals first | rfl | exact hw _ _ _) nl _
  have h295 : l_X7_passes_295 E nl nt ng 14 0 0 = l_X7_passes_217 E nl nt ng 14 0 0 := q_t14 (G := fun z => z) (fun k z => by
    unfold f_X7_passes_295
    rw [k_dr rfl]
    unfold l_X7_passes_322
    refine (q_t14 (F := f_X7_passes_322 E nl nt ng k z) (G := fun z => z) (fun k' z' => by unfold f_X7_passes_322; rw [k_dr rfl]) 3 _).trans ?_
    rw [k_dr rfl]) nt _
  have ep1 : (s_X7_passes E nl nt ng).1 = k_d (l_X7_passes_295 E nl nt ng) 14 0 4 (l_X7_passes_295 E nl nt ng 14 0 4 + 1) := rfl
  rw [ep1, k_dk rfl, h295, h217, h165, h78, h55, h2]
/-! calls that change the dock -/
def q_chg (D E : KD) (nl nt ng : Nat) (code : Int32) (r : KD × Int32) (w : Nat → Int32) : Prop :=
  r.1 14 0 0 = code ∧ (code = 0 → q_V (s_und (D, nl, nt, ng) w).1.1 r.1 (s_und (D, nl, nt, ng) w).1.2.1 (s_und (D, nl, nt, ng) w).1.2.2.1 (s_und (D, nl, nt, ng) w).1.2.2.2 ∧ (s_und (D, nl, nt, ng) w).2 = r.2 ∧ kOk (D, nl, nt, ng) w) ∧ (code ≠ 0 → q_V D r.1 nl nt ng)
section
variable {D E : KD} {nl nt ng : Nat}
theorem q_V.C (h : q_V D E nl nt ng) : q_C D E nl nt ng := h.1
theorem q_V.wf (h : q_V D E nl nt ng) : mWF E nl nt ng := h.2.2.2.2.1
theorem q_V.thr (h : q_V D E nl nt ng) (v : Int32) : q_V D (k_d E 14 0 0 v) nl nt ng := by
  obtain ⟨hC, hD, hH, hM, hw, hG, hmm, hK, hU, hJ, hZ⟩ := h
  have e15 : k_d E 14 0 0 v 15 = E 15 := k_d_r _ (by decide)
  have e4 : k_d E 14 0 0 v 14 0 4 = E 14 0 4 := k_dk rfl
  have e5 : k_d E 14 0 0 v 14 0 5 = E 14 0 5 := k_dk rfl
  refine ⟨hC.offE (Or.inl ⟨rfl, by decide⟩), ?_, ?_, ?_, hw.put14 (by decide), ?_, ?_, ?_, ?_, ?_, ?_⟩
  · unfold q_D at hD ⊢; rw [e15]; exact hD
  · exact hH
  · unfold q_M at hM ⊢; rw [e15, e5]; exact hM
  · unfold q_G at hG ⊢; rw [e15]; exact hG
  · unfold q_m at hmm ⊢; rw [e4]; exact hmm
  · unfold q_K at hK ⊢; rw [e15]; exact hK
  · unfold q_U q_T1 at hU ⊢; rw [e15]; exact hU
  · unfold q_J q_jw at hJ ⊢; rw [e15, e4]; exact hJ
  · unfold q_Z at hZ ⊢; rw [e15]; exact hZ
theorem q_isN (x : Int32) {n : Nat} (hn : n < 2 ^ 30) : s_X7_isIn x 0 (nI n - 1) = if x < 0 ∨ n ≤ x.toNatClampNeg then 0 else 1 := by
  unfold s_X7_isIn
  by_cases c1 : x < 0
  · rw [if_pos c1, if_pos (Or.inl c1)]
  · obtain ⟨j, hj, rfl⟩ := nI_of c1
    rw [if_neg c1, nI_clamp hj]
    by_cases c2 : n ≤ j
    · rw [if_pos (Or.inr c2)]
      rcases Nat.eq_zero_or_pos n with rfl | hn0
      · rw [if_pos]
        show (nI 0 - 1 : Int32) < nI j
        have e : (nI 0 - 1 : Int32) = -1 := by decide
        rw [e]
        exact Int32.lt_iff_toInt_lt.mpr (by rw [nI_toInt hj]; have : (-1 : Int32).toInt = -1 := by decide
                                            rw [this]; omega)
      · rw [if_pos]
        rw [q_sub1 hn0]
        exact (nI_ltI (by omega) (by omega)).mpr (by omega)
    · have c3 : ¬ nI j > nI n - 1 := by
        rw [q_sub1 (by omega)]
        exact fun q => absurd ((nI_ltI (by omega) (by omega)).mp q) (by omega)
      rw [if_neg c3, if_neg (fun q => Or.elim q c1 c2)]
theorem q_noL (hw : mWF E nl nt ng) (x : Int32) : j_X7_noLorry_20 E x = if x < 0 ∨ nl ≤ x.toNatClampNeg then 1 else 0 := by
  have := hw.l8
  unfold j_X7_noLorry_20
  rw [hw.l, q_isN x (by omega)]
  split <;> rfl
theorem q_noT (hw : mWF E nl nt ng) (x : Int32) : j_X7_noTransfer_20 E x = if x < 0 ∨ nt ≤ x.toNatClampNeg then 1 else 0 := by
  have := hw.t16
  unfold j_X7_noTransfer_20
  rw [hw.t, q_isN x (by omega)]
  split <;> rfl
theorem q_noD (d : Int32) : j_X7_noDoor_15 E d = s_x_requireDoor d := rfl
theorem q_within (x lo hi : Int32) : s_X6_isWithin x lo hi = s_X7_isIn x lo hi := rfl
theorem q_doorIn {d : Int32} (h : s_x_requireDoor d = 0) : vp_in d 4 := by
  unfold s_x_requireDoor s_X6_isWithin at h
  by_cases c1 : d < 0
  · rw [if_pos c1] at h; exact absurd h (by decide)
  · rw [if_neg c1] at h
    by_cases c2 : d > 3
    · rw [if_pos c2] at h; exact absurd h (by decide)
    · obtain ⟨j, hj, rfl⟩ := nI_of c1
      refine vp_in_nI ?_ (by omega)
      have := mt (nI_ltI (a := 3) (b := j) (by omega) hj).mpr c2
      omega
theorem q_inOf {x : Int32} {n : Nat} (h : ¬ (x < 0 ∨ n ≤ x.toNatClampNeg)) : vp_in x n := h
/-- minutes pass -/
theorem q_cPass (h : q_V D E nl nt ng) (mi : Int32) : q_chg D E nl nt ng (s_x_pass D nl nt ng mi) (s_X7_pass E nl nt ng mi) (k_fe 7 mi 0 0) := by
  unfold q_chg s_x_pass s_X7_pass
  rw [q_within, h.C.now]
  by_cases c1 : s_X7_isIn mi 1 300 = 0
  · rw [if_pos c1, if_pos c1]
    exact ⟨(k_ds : k_d E 14 0 0 1 14 0 0 = 1), fun q => absurd q (by decide), fun _ => h.thr 1⟩
  · rw [if_neg c1, if_neg c1]
    by_cases c2 : E 14 0 4 + mi ≤ 2000
    · rw [if_pos c2, if_pos c2]
      have hk : ∃ k, k ≤ 300 ∧ mi = nI k := by
        unfold s_X7_isIn at c1
        by_cases d1 : mi < 1
        · rw [if_pos d1] at c1; exact absurd rfl c1
        · rw [if_neg d1] at c1
          by_cases d2 : mi > 300
          · rw [if_pos d2] at c1; exact absurd rfl c1
          · have d0 : ¬ mi < 0 := fun q => d1 (Int32.lt_iff_toInt_lt.mpr (by have := Int32.lt_iff_toInt_lt.mp q; have e0 : (0 : Int32).toInt = 0 := by decide
                                                                             have e1 : (1 : Int32).toInt = 1 := by decide
                                                                             omega))
            obtain ⟨j, hj, rfl⟩ := nI_of d0
            have := mt (nI_ltI (a := 300) (b := j) (by omega) hj).mpr d2
            exact ⟨j, by omega, rfl⟩
      obtain ⟨k, hk3, rfl⟩ := hk
      obtain ⟨m, hm2, hm⟩ := h.2.2.2.2.2.2.1
      rw [hm, nI_add] at c2
      have hmk : m + k ≤ 2000 := (nI_leI (a := m + k) (b := 2000) (by omega) (by omega)).mp c2
      have hp := q_pass (h.thr 0) (by rw [k_dk rfl]; exact hm) k hmk D E k (nI k)
      have ek : (nI k).toNatClampNeg = k := nI_clamp (by omega)
      have el : l_X7_pass_44 E nl nt ng (nI k) = it (f_X7_pass_44 E nl nt ng (nI k)) k (k_d E 14 0 0 0, (0 : Int32)) := by
        unfold l_X7_pass_44; rw [ek]
      have eu : s_und (D, nl, nt, ng) (k_fe 7 (nI k) 0 0) = (((it (f_X0_passMinutes_4 D nl nt ng k) k (D, (0 : Int32))).1, nl, nt, ng), (it (f_X0_passMinutes_4 D nl nt ng k) k (D, (0 : Int32))).2) := by
        rw [s_und_7 rfl]
        show (((s_X0_passMinutes D nl nt ng (nI k).toNatClampNeg).1, nl, nt, ng), (s_X0_passMinutes D nl nt ng (nI k).toNatClampNeg).2) = _
        rw [ek]; first | done | rfl
      rw [el, eu]
      refine ⟨?_, fun _ => ⟨hp.1, hp.2, Or.inr (Or.inr (Or.inr (Or.inr (Or.inr (Or.inr (Or.inr ⟨rfl, ?_, ?_⟩))))))⟩, fun q => absurd rfl q⟩
      · show (it (f_X7_pass_44 E nl nt ng (nI k)) k (k_d E 14 0 0 0, (0 : Int32))).1 14 0 0 = 0
        have hT : ∀ z : KD, (s_X7_passes z nl nt ng).1 14 0 0 = z 14 0 0 := fun z => q_thrP z
        refine it_ind (f := f_X7_pass_44 E nl nt ng (nI k)) (P := fun z : KD × Int32 => z.1 14 0 0 = 0) (a := (k_d E 14 0 0 0, (0 : Int32))) (n := k) (k_ds : k_d E 14 0 0 0 14 0 0 = 0) (fun j _ z hz => ?_)
        show (s_X7_passes z.1 nl nt ng).1 14 0 0 = 0
        rw [hT]; exact hz
      · show nI k = nI (nI k).toNatClampNeg
        rw [ek]
      · show (nI k).toNatClampNeg < 2 ^ 31
        rw [ek]; omega
    · rw [if_neg c2, if_neg c2]
      exact ⟨(k_ds : k_d E 14 0 0 2 14 0 0 = 2), fun q => absurd q (by decide), fun _ => h.thr 2⟩
end
