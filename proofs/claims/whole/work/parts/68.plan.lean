/-- all but doors and mWF -/
def q_Vw (D E : KD) (nl nt ng : Nat) : Prop := q_C D E nl nt ng ∧ q_Y D nl ∧ q_M D E nl ∧ q_G E ng ∧ q_m E ∧ q_K E nt ∧ q_U E nt ∧ q_J D E nl ∧ q_Z E nl nt
section
variable {D E x : KD} {nl nt ng : Nat}
theorem q_V.w (h : q_V D E nl nt ng) : q_Vw D E nl nt ng := ⟨h.1, h.2.2.1, h.2.2.2.1, h.2.2.2.2.2⟩
theorem q_Vw.V (h : q_Vw D E nl nt ng) (hd : q_D D E) (hw : mWF E nl nt ng) : q_V D E nl nt ng := ⟨h.1, hd, h.2.1, h.2.2.1, hw, h.2.2.2⟩
theorem q_Vw.off23 (h : q_Vw D E nl nt ng) (i : Nat) (v : Int32) : q_Vw D (k_d E 15 23 i v) nl nt ng := by
  obtain ⟨hC, hH, hM, hG, hm, hK, hU, hJ, hZ⟩ := h
  have e : ∀ j, j ≠ 23 → k_d E 15 23 i v 15 j = E 15 j := fun j hj => k_d_off _ _ (by omega)
  have e14 : k_d E 15 23 i v 14 = E 14 := k_d_r _ (by decide)
  refine ⟨hC.offE (Or.inr ⟨rfl, by omega⟩), ?_, hM.cp rfl (fun _ _ _ => rfl) (e 24 (by omega)) (by rw [e14]), hG.cp (e 19 (by omega)) (e 21 (by omega)), hm.cp e14, hK.cp (e 0 (by omega)) (e 12 (by omega)) (e 13 (by omega)), hU.cp (e 14 (by omega)) (e 15 (by omega)) (e 16 (by omega)) (e 17 (by omega)) (e 18 (by omega)), ?_, ?_⟩
  · exact hH
  · unfold q_J q_jw at hJ ⊢; rw [e14, e 9 (by omega), e 10 (by omega)]; exact hJ
  · refine ⟨fun l hl => ?_, fun j h1 h2 i hi => ?_, fun i hi => ?_⟩
    · rw [e 1 (by omega), e 5 (by omega), e 6 (by omega), e 7 (by omega), e 8 (by omega), e 24 (by omega)]; exact hZ.1 l hl
    · rw [e j (by omega)]; exact hZ.2.1 j h1 h2 i hi
    · rw [e 18 (by omega)]; exact hZ.2.2 i hi
theorem q_Vw.cp3 (h : q_Vw D E nl nt ng) (hx : ∀ r, r ≠ 3 → x r = D r) : q_Vw x E nl nt ng := by
  obtain ⟨hC, hH, hM, hG, hm, hK, hU, hJ, hZ⟩ := h
  refine ⟨hC.cpD (hx 0 (by omega)) (hx 4 (by omega)) (hx 5 (by omega)) (hx 6 (by omega)) (hx 8 (by omega)), ?_, hM.cp (hx 7 (by omega)) (fun l k _ => by rw [hx 4 (by omega)]) rfl rfl, hG, hm, hK, hU, ?_, hZ⟩
  · unfold q_Y at hH ⊢; rw [hx 4 (by omega)]; exact hH
  · unfold q_J at hJ ⊢; rw [hx 4 (by omega)]; exact hJ
theorem q_Vw.put (h : q_Vw D E nl nt ng) (p : Nat × Nat) (hp : p ∈ q_tL) (h1 : 4 ≤ p.1 ∧ p.1 ≤ 7) {l : Nat} (hl : l < nl) {u v : Int32} (huv : u = v) (hs : p.1 ≠ 5 ∨ u = 108 ∨ D 4 l 5 = 101) : q_Vw (k_d D 4 l p.1 u) (k_d E 15 p.2 l v) nl nt ng := by
  obtain ⟨hC, hH, hM, hG, hm, hK, hU, hJ, hZ⟩ := h
  have hp2 : p.2 = 4 ∨ p.2 = 11 ∨ p.2 = 5 ∨ p.2 = 8 := (by decide : ∀ p ∈ q_tL, 4 ≤ p.1 ∧ p.1 ≤ 7 → p.2 = 4 ∨ p.2 = 11 ∨ p.2 = 5 ∨ p.2 = 8) p hp h1
  have e : ∀ j, j ≠ 4 → j ≠ 11 → j ≠ 5 → j ≠ 8 → k_d E 15 p.2 l v 15 j = E 15 j := fun j _ _ _ _ => k_d_off _ _ (by omega)
  have e14 : k_d E 15 p.2 l v 14 = E 14 := k_d_r _ (by decide)
  have x4 : ∀ l' k, ¬ (4 ≤ k ∧ k ≤ 7) → k_d D 4 l p.1 u 4 l' k = D 4 l' k := fun l' k hk => k_dn (by omega)
  refine ⟨hC.putL p hp l huv, fun l' hl' hq => ?_, hM.cp (k_d_r _ (by decide)) (fun l' k hk => x4 l' k (by omega)) (e 24 (by omega) (by omega) (by omega) (by omega)) (by rw [e14]), hG.cp (e 19 (by omega) (by omega) (by omega) (by omega)) (e 21 (by omega) (by omega) (by omega) (by omega)), hm.cp e14, hK.cp (e 0 (by omega) (by omega) (by omega) (by omega)) (e 12 (by omega) (by omega) (by omega) (by omega)) (e 13 (by omega) (by omega) (by omega) (by omega)), hU.cp (e 14 (by omega) (by omega) (by omega) (by omega)) (e 15 (by omega) (by omega) (by omega) (by omega)) (e 16 (by omega) (by omega) (by omega) (by omega)) (e 17 (by omega) (by omega) (by omega) (by omega)) (e 18 (by omega) (by omega) (by omega) (by omega)), ⟨fun l' hl' => ?_, fun l' hl' => ?_⟩, ⟨fun l' hl' => ⟨?_, ?_, ?_, ?_, ?_, ?_⟩, fun j h1 h2 i hi => ?_, fun i hi => ?_⟩⟩
  · rw [x4 l' 10 (by omega)]
    by_cases c : l' = l ∧ p.1 = 5
    · rcases hs with q | q | q
      · exact absurd c.2 q
      · rw [c.1, c.2, k_ds, q] at hq; exact absurd hq (by decide)
      · exact hH l' hl' (Or.inl (by rw [c.1]; exact q))
    · rw [k_dn (fun z => c ⟨z.2.1, z.2.2.symm⟩)] at hq; exact hH l' hl' hq
  · unfold q_jw
    rw [x4 l' 11 (by omega), x4 l' 12 (by omega), e14, e 9 (by omega) (by omega) (by omega) (by omega), e 10 (by omega) (by omega) (by omega) (by omega)]; exact hJ.1 l' hl'
  · rw [e14, e 10 (by omega) (by omega) (by omega) (by omega)]; exact hJ.2 l' hl'
  · rw [e 1 (by omega) (by omega) (by omega) (by omega)]; exact (hZ.1 l' hl').1
  · rw [k_dn (by omega)]; exact (hZ.1 l' hl').2.1
  · rw [e 6 (by omega) (by omega) (by omega) (by omega)]; exact (hZ.1 l' hl').2.2.1
  · rw [e 7 (by omega) (by omega) (by omega) (by omega)]; exact (hZ.1 l' hl').2.2.2.1
  · rw [k_dn (by omega)]; exact (hZ.1 l' hl').2.2.2.2.1
  · rw [e 24 (by omega) (by omega) (by omega) (by omega)]; exact (hZ.1 l' hl').2.2.2.2.2
  · rw [e j (by omega) (by omega) (by omega) (by omega)]; exact hZ.2.1 j h1 h2 i hi
  · rw [e 18 (by omega) (by omega) (by omega) (by omega)]; exact hZ.2.2 i hi
/-- a lorry not yet at a door is planned for another -/
theorem mWF.plan (hw : mWF E nl nt ng) {l : Nat} (hl : l < nl) (hs : E 15 11 l ≠ 100) {d : Int32} (hd : vp_in d 4) : mWF (k_d E 15 4 l d) nl nt ng := by
  have e : ∀ j, j ≠ 4 → k_d E 15 4 l d 15 j = E 15 j := fun j hj => k_d_off _ _ (by omega)
  have e14 : k_d E 15 4 l d 14 = E 14 := k_d_r _ (by decide)
  obtain ⟨h1, h2, h3, h4, h5, h6, h7, h8, h9⟩ := hw
  unfold mWF
  rw [e14, e 12 (by omega), e 13 (by omega), e 11 (by omega), e 23 (by omega)]
  refine ⟨h1, h2, h3, h4, fun m hm => ?_, fun m hm q => ?_, fun d' hd' => ?_, fun m hm q => ?_, h9⟩
  · by_cases c : m = l
    · rw [c, k_ds]; exact Or.inr hd
    · rw [k_dn (by omega)]; exact h5 m hm
  · by_cases c : m = l
    · rw [c, k_ds]; exact hd.nm1
    · rw [k_dn (by omega)]; exact h6 m hm q
  · rcases h7 d' hd' with z | ⟨z1, z2, z3⟩
    · exact Or.inl z
    · have c : ¬ (E 15 23 d').toNatClampNeg = l := fun q => hs (by rw [← q]; exact z2)
      rw [k_dn (by omega)]; exact Or.inr ⟨z1, z2, z3⟩
  · have c : ¬ m = l := fun z => hs (by rw [← z]; exact q)
    rw [k_dn (by omega)]; exact h8 m hm q
/-- an expected lorry comes into the yard -/
theorem mWF.come (hw : mWF E nl nt ng) {l : Nat} (hl : l < nl) (hs : E 15 11 l = 101) (hd : E 15 4 l ≠ -1) : mWF (k_d E 15 11 l 121) nl nt ng := by
  have e : ∀ j, j ≠ 11 → k_d E 15 11 l 121 15 j = E 15 j := fun j hj => k_d_off _ _ (by omega)
  have e14 : k_d E 15 11 l 121 14 = E 14 := k_d_r _ (by decide)
  obtain ⟨h1, h2, h3, h4, h5, h6, h7, h8, h9⟩ := hw
  unfold mWF
  rw [e14, e 12 (by omega), e 13 (by omega), e 4 (by omega), e 23 (by omega)]
  refine ⟨h1, h2, h3, h4, h5, fun m hm q => ?_, fun d' hd' => ?_, fun m hm q => ?_, fun m hm => ?_⟩
  · by_cases c : m = l
    · rw [c]; exact hd
    · rw [k_dn (by omega)] at q; exact h6 m hm q
  · rcases h7 d' hd' with z | ⟨z1, z2, z3⟩
    · exact Or.inl z
    · have c : ¬ (E 15 23 d').toNatClampNeg = l := fun q => by
        rw [q, hs] at z2; exact absurd z2 (by decide)
      rw [k_dn (by omega)]; exact Or.inr ⟨z1, z2, z3⟩
  · by_cases c : m = l
    · rw [c, k_ds] at q; exact absurd q (by decide)
    · rw [k_dn (by omega)] at q; exact h8 m hm q
  · by_cases c : m = l
    · rw [c, k_ds]; exact Or.inr (Or.inl rfl)
    · rw [k_dn (by omega)]; exact h9 m hm
theorem q_D.off (h : q_D D E) {r i k : Nat} {u : Int32} {j l : Nat} {v : Int32} (hr : r ≠ 3) (hj : j ≠ 23) : q_D (k_d D r i k u) (k_d E 15 j l v) := fun d hd => by
  rw [k_dn (by omega), k_dn (by omega)]; exact h d hd
theorem q_V.d (h : q_V D E nl nt ng) : q_D D E := h.2.1
theorem q_dk (h : q_C D E nl nt ng) {l : Nat} (hl : l < nl) : s_X3_isDocked D l = s_X7_isGone E (nI l) ∨ 2 ^ 31 ≤ l := by
  rcases Nat.lt_or_ge l (2 ^ 31) with c | c
  · refine Or.inl ?_
    unfold s_X3_isDocked s_X7_isGone
    rw [h.l5 hl, nI_clamp c]
  · exact Or.inr c
theorem q_cPlan (h : q_V D E nl nt ng) (lo d : Int32) : q_chg D E nl nt ng (s_x_planDoor D nl nt ng lo d) (s_X7_planDoor E nl nt ng lo d) (k_fe 2 lo d 0) := by
  have h8 := h.wf.l8
  unfold q_chg s_x_planDoor s_X7_planDoor
  rw [q_noL h.wf, q_noD]
  by_cases c1 : lo < 0 ∨ nl ≤ lo.toNatClampNeg
  · simp only [if_pos c1]
    rw [if_neg (by decide : ¬ (1 : Int32) = 0)]
    exact ⟨(k_ds : k_d E 14 0 0 1 14 0 0 = 1), fun q => absurd q (by decide), fun _ => h.thr 1⟩
  · obtain ⟨l, hl, rfl⟩ := vp_in_of (q_inOf c1) (by omega)
    simp only [if_neg c1, if_true]
    rw [nI_clamp (by omega)]
    by_cases c2 : s_x_requireDoor d = 0
    · rw [if_pos c2, if_pos c2]
      have eg : s_X7_isGone (k_d (k_d E 14 0 0 0) 14 0 0 (s_x_requireDoor d)) (nI l) = s_X7_isGone E (nI l) := by
        unfold s_X7_isGone
        rw [k_d_r _ (by decide), k_d_r _ (by decide)]
      rw [eg, (q_dk h.C hl).resolve_right (by omega)]
      by_cases c3 : s_X7_isGone E (nI l) = 0
      · rw [if_pos c3, if_pos c3]
        have hs : E 15 11 l ≠ 100 := fun q => by
          unfold s_X7_isGone at c3
          rw [nI_clamp (by omega), if_pos q] at c3
          exact absurd c3 (by decide)
        have hV := (h.thr 0).thr (s_x_requireDoor d)
        refine ⟨?_, fun _ => ⟨?_, ?_, Or.inr (Or.inr (Or.inl ⟨rfl, q_inOf c1⟩))⟩, fun q => absurd rfl q⟩
        · show k_d (k_d (k_d E 14 0 0 0) 14 0 0 (s_x_requireDoor d)) 15 4 l d 14 0 0 = 0
          rw [k_dr rfl, k_ds]; exact c2
        · rw [s_und_2 rfl]
          show q_V (k_d D 4 (nI l).toNatClampNeg 4 d) _ nl nt ng
          rw [nI_clamp (by omega)]
          exact (hV.w.put (4, 4) (by decide) (by decide) hl rfl (Or.inl (by decide))).V (hV.d.off (by decide) (by decide)) (hV.wf.plan hl (by rw [k_dr rfl, k_dr rfl]; exact hs) (q_doorIn c2))
        · rw [s_und_2 rfl]
          show D 4 (nI l).toNatClampNeg 4 = E 15 4 l
          rw [nI_clamp (by omega)]; exact h.C.l4 hl
      · rw [if_neg c3, if_neg c3]
        exact ⟨(k_ds : k_d (k_d (k_d E 14 0 0 0) 14 0 0 (s_x_requireDoor d)) 14 0 0 2 14 0 0 = 2), fun q => absurd q (by decide), fun _ => ((h.thr 0).thr _).thr 2⟩
    · rw [if_neg c2, if_neg c2]
      have e1 : s_x_requireDoor d = 1 := by
        unfold s_x_requireDoor at c2 ⊢
        split
        · rfl
        · next q => exact absurd (if_neg q) c2
      exact ⟨(k_ds : k_d (k_d E 14 0 0 0) 14 0 0 (s_x_requireDoor d) 14 0 0 = s_x_requireDoor d).trans e1, fun q => absurd q (by decide), fun _ => (h.thr 0).thr _⟩
end
