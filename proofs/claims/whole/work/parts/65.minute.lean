/-! what holds between two calls -/
def q_jw (E : KD) (l : Nat) : Prop := E 14 0 4 ≠ 0 ∧ E 15 10 l = E 14 0 4 - 1
def q_J (D E : KD) (nl : Nat) : Prop := (∀ l, l < nl → (D 4 l 11 = 1 ∧ q_jw E l ∧ D 4 l 12 = E 15 9 l) ∨ (D 4 l 11 = 0 ∧ ¬ q_jw E l)) ∧ ∀ l, l < nl → E 15 10 l = -1 ∨ ∃ a m, a < m ∧ m ≤ 2000 ∧ E 14 0 4 = nI m ∧ E 15 10 l = nI a
def q_Z (E : KD) (nl nt : Nat) : Prop := (∀ l, nl ≤ l → E 15 1 l = 0 ∧ E 15 5 l = 0 ∧ E 15 6 l = 0 ∧ E 15 7 l = 0 ∧ E 15 8 l = 0 ∧ (l < 8 → ∀ p, p < 9 → E 15 24 (8 * p + l) = 0)) ∧ (∀ j, 15 ≤ j → j ≤ 17 → ∀ i, nt ≤ i → E 15 j i = 0) ∧ ∀ i, 4 * nt ≤ i → E 15 18 i = 0
def q_V (D E : KD) (nl nt ng : Nat) : Prop := q_C D E nl nt ng ∧ q_D D E ∧ q_Y D nl ∧ q_M D E nl ∧ mWF E nl nt ng ∧ q_G E ng ∧ q_m E ∧ q_K E nt ∧ q_U E nt ∧ q_J D E nl ∧ q_Z E nl nt
section
variable {D E x y : KD} {nl nt ng : Nat}
theorem q_C.cpD (h : q_C D E nl nt ng) (h0 : x 0 = D 0) (h4 : x 4 = D 4) (h5 : x 5 = D 5) (h6 : x 6 = D 6) (h8 : x 8 = D 8) : q_C x E nl nt ng := by
  unfold q_C at h ⊢
  rw [h0, h4, h5, h6, h8]
  exact h
theorem q_C.putN (h : q_C D E nl nt ng) {u v : Int32} (huv : u = v) : q_C (k_d D 0 0 4 u) (k_d E 14 0 4 v) nl nt ng := by
  subst huv
  unfold q_C at h ⊢
  rw [k_d_r D (by decide : 4 ≠ 0), k_d_r D (by decide : 5 ≠ 0), k_d_r D (by decide : 6 ≠ 0), k_d_r D (by decide : 8 ≠ 0), k_d_r E (by decide : 15 ≠ 14), k_ds, k_ds]
  exact ⟨h.1, h.2.1, h.2.2.1, h.2.2.2.1, h.2.2.2.2.1, rfl⟩
theorem q_M.cp (h : q_M D E nl) (h7 : x 7 = D 7) (h4 : ∀ l k, k = 3 ∨ k = 8 ∨ k = 9 → x 4 l k = D 4 l k) (h24 : y 15 24 = E 15 24) (h5 : y 14 0 5 = E 14 0 5) : q_M x y nl := by
  refine ⟨fun l hl p hp => ?_, ?_, fun l hl => ?_⟩
  · rw [h24, h7, h4 l 3 (by omega)]; exact h.1 l hl p hp
  · rw [h5, h7]; exact h.2.1
  · rw [h7, h4 l 8 (by omega), h4 l 9 (by omega)]; exact h.2.2 l hl
theorem q_min {m : Nat} (h : q_V D E nl nt ng) (hm : E 14 0 4 = nI m) (hm2 : m < 2000) :
    q_V (s_X0_endMinute (s_X0_freeDoors (s_X0_letWait (s_X0_lookAtDoors ((s_X0_letLeave (s_X0_handleUnits (s_X0_fillDoors D nl nt ng) nl nt ng) nl nt ng).1) nl nt ng) nl nt ng) nl nt ng) nl nt ng) (s_X7_passes E nl nt ng).1 nl nt ng ∧ (s_X0_letLeave (s_X0_handleUnits (s_X0_fillDoors D nl nt ng) nl nt ng) nl nt ng).2 = (s_X7_passes E nl nt ng).2 ∧ (s_X7_passes E nl nt ng).1 14 0 4 = nI (m + 1) := by
  obtain ⟨hC, hD, hH, hM, hw, hG, hmm, hK, hU, hJ, hZ⟩ := h
  have h8 := hw.l8
  have wP := mWF_passes hw
  have w3 := (mP_78 hw).1
  have w4 := (mP_165' hw).1
  have pl4 := (mP_165' hw).2
  obtain ⟨a1, a2, a3, a4, a5, a6, a7, a8, a9, a10, a11⟩ := q_p1 hw hC hD hH hG hmm hK hU
  have e165 : l_X7_passes_165 E nl nt ng = it (f_X7_passes_165 E nl nt ng) nl (l_X7_passes_78 E nl nt ng, (0 : Int32)) := rfl
  have e217 : l_X7_passes_217 E nl nt ng = it (f_X7_passes_217 E nl nt ng) nl (l_X7_passes_165 E nl nt ng).1 := rfl
  have e295 : l_X7_passes_295 E nl nt ng = it (f_X7_passes_295 E nl nt ng) nt (l_X7_passes_217 E nl nt ng) := rfl
  have ep1 : (s_X7_passes E nl nt ng).1 = k_d (l_X7_passes_295 E nl nt ng) 14 0 4 (l_X7_passes_295 E nl nt ng 14 0 4 + 1) := rfl
  have ep2 : (s_X7_passes E nl nt ng).2 = (l_X7_passes_165 E nl nt ng).2 := rfl
  rw [ep1] at wP ⊢
  rw [ep2]
  generalize hE7 : l_X7_passes_295 E nl nt ng = E7 at *
  generalize hE6 : l_X7_passes_217 E nl nt ng = E6 at *
  generalize hz4 : l_X7_passes_165 E nl nt ng = z4 at *
  generalize hE3 : l_X7_passes_78 E nl nt ng = E3 at *
  generalize hD3 : s_X0_handleUnits (s_X0_fillDoors D nl nt ng) nl nt ng = D3 at *
  have d4 : s_X0_letLeave D3 nl nt ng = it (f_X0_letLeave_4 D3 nl nt ng) 4 (D3, (0 : Int32)) := rfl
  generalize hy4 : s_X0_letLeave D3 nl nt ng = y4 at *
  obtain ⟨D4, c2⟩ := y4
  obtain ⟨E4, c1⟩ := z4
  dsimp only at *
  have d5 : s_X0_lookAtDoors D4 nl nt ng = it (f_X0_lookAtDoors_2 D4 nl nt ng) 4 D4 := rfl
  generalize hD5 : s_X0_lookAtDoors D4 nl nt ng = D5 at *
  have d6 : s_X0_letWait D5 nl nt ng = it (f_X0_letWait_2 D5 nl nt ng) nl D5 := rfl
  generalize hD6 : s_X0_letWait D5 nl nt ng = D6 at *
  have d7 : s_X0_freeDoors D6 nl nt ng = it (f_X0_freeDoors_2 D6 nl nt ng) 4 D6 := rfl
  generalize hD7 : s_X0_freeDoors D6 nl nt ng = D7 at *
  have d8 : s_X0_endMinute D7 nl nt ng = k_d (it (f_X0_endMinute_2 D7 nl nt ng) nt D7) 0 0 4 (it (f_X0_endMinute_2 D7 nl nt ng) nt D7 0 0 4 + 1) := rfl
  rw [d8]
  have hG3 : q_G E3 ng := hG.cp (a7 19 (by omega) (by omega) (by omega) (by omega) (by omega)) (a7 21 (by omega) (by omega) (by omega) (by omega) (by omega))
  have hK3 : q_K E3 nt := hK.cp (a7 0 (by omega) (by omega) (by omega) (by omega) (by omega)) (a7 12 (by omega) (by omega) (by omega) (by omega) (by omega)) (a7 13 (by omega) (by omega) (by omega) (by omega) (by omega))
  obtain ⟨b1, b2, b3, b4, b5, b6, b7, b8, b9, b10, b11, b12, b13⟩ := q_p2 w3 a1 a2 a3.1 hG3 (hmm.cp a6) hK3 a4 a5 D3 D4 E e165 d4 d5 w4 pl4
  have M5 : q_M D5 E4 nl := hM.cp (b7.trans a10) (fun l k hk => (b8 l k (by omega) (by omega) (by omega)).trans (a11 l k (by omega) (by omega))) ((b10 24 (by omega) (by omega) (by omega)).trans (a7 24 (by omega) (by omega) (by omega) (by omega) (by omega))) (by rw [b9, a6])
  have rw6 := q_wait w4 b2 b3 M5 b4 b5 D5 E
  rw [← d6, ← e217] at rw6
  obtain ⟨rC, rH, rM, rW, rF, rX, rJ, rK, rZ⟩ := rw6
  obtain ⟨f1, f2⟩ := q_free (nl := nl) (nt := nt) (ng := ng) D6 D6
  rw [← d7] at f1 f2
  have U6 : q_U E6 nt := a4.cp ((rF.2 14 (by omega) (by omega) (by omega) (by omega) (by omega)).trans (b10 14 (by omega) (by omega) (by omega))) ((rF.2 15 (by omega) (by omega) (by omega) (by omega) (by omega)).trans (b10 15 (by omega) (by omega) (by omega))) ((rF.2 16 (by omega) (by omega) (by omega) (by omega) (by omega)).trans (b10 16 (by omega) (by omega) (by omega))) ((rF.2 17 (by omega) (by omega) (by omega) (by omega) (by omega)).trans (b10 17 (by omega) (by omega) (by omega))) ((rF.2 18 (by omega) (by omega) (by omega) (by omega) (by omega)).trans (b10 18 (by omega) (by omega) (by omega)))
  have C7 : q_C D7 E6 nl nt ng := rC.cpD (f1 0 (by omega)) (f1 4 (by omega)) (f1 5 (by omega)) (f1 6 (by omega)) (f1 8 (by omega))
  obtain ⟨g1, g2, g3, g4, g5, g6⟩ := q_end C7 U6 D7 E
  rw [← e295] at g1 g2 g4 g5 g6
  generalize it (f_X0_endMinute_2 D7 nl nt ng) nt D7 = D8 at *
  -- rows
  have r15 : ∀ j, j ≠ 6 → j ≠ 7 → j ≠ 9 → j ≠ 10 → j ≠ 24 → j ≠ 16 → j ≠ 18 → E7 15 j = E4 15 j := fun j h1 h2 h3 h4 h5 h6 h7 => (g5 j h6 h7).trans (rF.2 j h1 h2 h3 h4 h5)
  have rE : ∀ j, j ≠ 6 → j ≠ 7 → j ≠ 9 → j ≠ 10 → j ≠ 24 → j ≠ 1 → j ≠ 8 → j ≠ 11 → j ≠ 23 → j ≠ 25 → ¬ (15 ≤ j ∧ j ≤ 18) → E7 15 j = E 15 j := fun j h1 h2 h3 h4 h5 h6 h7 h8 h9 h10 h11 => (r15 j h1 h2 h3 h4 h5 (by omega) (by omega)).trans ((b10 j h7 h8 h9).trans (a7 j h6 h8 h9 h10 h11))
  have n4 : E4 14 0 4 = nI m := by rw [b9, a6]; exact hm
  have n7 : E7 14 0 4 = nI m := by rw [g4, rF.1 4 (by omega)]; exact n4
  have n8 : k_d E7 14 0 4 (E7 14 0 4 + 1) 14 0 4 = nI (m + 1) := by rw [k_ds, n7, nI_1]
  have k15 : ∀ v, k_d E7 14 0 4 v 15 = E7 15 := fun v => k_d_r _ (by decide)
  have x4 : ∀ v, k_d D8 0 0 4 v 4 = D6 4 := fun v => by rw [k_d_r _ (by decide), g3 4 (by omega) (by omega), f1 4 (by omega)]
  have x7 : ∀ v, k_d D8 0 0 4 v 7 = D6 7 := fun v => by rw [k_d_r _ (by decide), g3 7 (by omega) (by omega), f1 7 (by omega)]
  have x3 : ∀ v, k_d D8 0 0 4 v 3 = D7 3 := fun v => by rw [k_d_r _ (by decide), g3 3 (by omega) (by omega)]
  have p10 : E4 15 10 = E 15 10 := (b10 10 (by omega) (by omega) (by omega)).trans (a7 10 (by omega) (by omega) (by omega) (by omega) (by omega))
  have old : ∀ l, l < nl → E 15 10 l = -1 ∨ ∃ a, a < m ∧ E 15 10 l = nI a := fun l hl => by
    rcases hJ.2 l hl with q | ⟨a, m', q1, q2, q3, q4⟩
    · exact Or.inl q
    · have : m' = m := (nI_eq (by omega) (by omega)).mp (q3.symm.trans hm)
      subst this
      exact Or.inr ⟨a, q1, q4⟩
  refine ⟨⟨g1.putN (by rw [g1.now]), fun d hd => ?_, fun l hl hq => ?_, rM.cp (x7 _) (fun l k _ => by rw [x4]) (by rw [k15]; exact g5 24 (by omega) (by omega)) (by rw [k_dk rfl, g4]), wP, ?_, ⟨m + 1, by omega, n8⟩, ?_, ?_, ⟨fun l hl => ?_, fun l hl => ?_⟩, ⟨fun l hl => ⟨?_, ?_, ?_, ?_, ?_, fun hl8 p hp => ?_⟩, fun j h1 h2 i hi => ?_, fun i hi => ?_⟩⟩, b1, n8⟩
  · rw [x3, k15, g5 23 (by omega) (by omega), rF.2 23 (by omega) (by omega) (by omega) (by omega) (by omega), b12 d hd, f2 d hd]
    have e63 : D6 3 0 d = E3 15 23 d := by rw [rX.1 3 (by omega) (by omega), b6]; exact a2 d hd
    rw [e63]
    by_cases c : E3 15 23 d = -1
    · rw [if_pos c, if_pos c]
    · rw [if_neg c, if_neg c]
      have hv := (w3.ind hd c).1
      rw [rC.l5 hv.lt, rF.2 11 (by omega) (by omega) (by omega) (by omega) (by omega)]
  · rw [x4] at hq ⊢
    rw [rX.2 l 10 (by omega) (by omega) (by omega) (by omega), b8 l 10 (by omega) (by omega) (by omega)]
    rw [rC.l5 hl, rF.2 11 (by omega) (by omega) (by omega) (by omega) (by omega)] at hq
    rcases b13 l with c | c
    · rw [c] at hq; exact absurd hq (by decide)
    · rw [c] at hq; exact a3.2 l hl hq
  · exact hG.cp (by rw [k15]; exact rE 19 (by omega) (by omega) (by omega) (by omega) (by omega) (by omega) (by omega) (by omega) (by omega) (by omega) (by omega)) (by rw [k15]; exact rE 21 (by omega) (by omega) (by omega) (by omega) (by omega) (by omega) (by omega) (by omega) (by omega) (by omega) (by omega))
  · exact hK.cp (by rw [k15]; exact rE 0 (by omega) (by omega) (by omega) (by omega) (by omega) (by omega) (by omega) (by omega) (by omega) (by omega) (by omega)) (by rw [k15]; exact rE 12 (by omega) (by omega) (by omega) (by omega) (by omega) (by omega) (by omega) (by omega) (by omega) (by omega) (by omega)) (by rw [k15]; exact rE 13 (by omega) (by omega) (by omega) (by omega) (by omega) (by omega) (by omega) (by omega) (by omega) (by omega) (by omega))
  · exact g2.cp (by rw [k15]) (by rw [k15]) (by rw [k15]) (by rw [k15]) (by rw [k15])
  · rw [x4]
    unfold q_jw
    rw [n8, k15, g5 10 (by omega) (by omega), g5 9 (by omega) (by omega)]
    rcases rJ l hl with ⟨j1, j2, j3⟩ | ⟨j1, j2⟩
    · exact Or.inl ⟨j1, ⟨nI_ne0 (by omega) (by omega), by rw [j2, n4, nI_pred]⟩, j3⟩
    · refine Or.inr ⟨j1, fun q => ?_⟩
      have q2 := q.2
      rw [j2, p10, nI_pred] at q2
      rcases old l hl with o | ⟨a, o1, o2⟩
      · exact absurd (q2.symm.trans o) (nI_nm1 (by omega))
      · have := (nI_eq (by omega) (by omega)).mp (o2.symm.trans q2)
        omega
  · rw [n8, k15, g5 10 (by omega) (by omega)]
    rcases rJ l hl with ⟨j1, j2, j3⟩ | ⟨j1, j2⟩
    · exact Or.inr ⟨m, m + 1, by omega, by omega, rfl, j2.trans n4⟩
    · rw [j2, p10]
      rcases old l hl with o | ⟨a, o1, o2⟩
      · exact Or.inl o
      · exact Or.inr ⟨a, m + 1, by omega, by omega, rfl, o2⟩
  · rw [k15, r15 1 (by omega) (by omega) (by omega) (by omega) (by omega) (by omega) (by omega), b10 1 (by omega) (by omega) (by omega), a9 l hl]; exact (hZ.1 l hl).1
  · rw [k15, rE 5 (by omega) (by omega) (by omega) (by omega) (by omega) (by omega) (by omega) (by omega) (by omega) (by omega) (by omega)]; exact (hZ.1 l hl).2.1
  · rw [k15, g5 6 (by omega) (by omega), (rZ l hl).1, b10 6 (by omega) (by omega) (by omega), a7 6 (by omega) (by omega) (by omega) (by omega) (by omega)]; exact (hZ.1 l hl).2.2.1
  · rw [k15, g5 7 (by omega) (by omega), (rZ l hl).2.1, b10 7 (by omega) (by omega) (by omega), a7 7 (by omega) (by omega) (by omega) (by omega) (by omega)]; exact (hZ.1 l hl).2.2.2.1
  · rw [k15, r15 8 (by omega) (by omega) (by omega) (by omega) (by omega) (by omega) (by omega), b11 l hl, a7 8 (by omega) (by omega) (by omega) (by omega) (by omega)]; exact (hZ.1 l hl).2.2.2.2.1
  · rw [k15, g5 24 (by omega) (by omega), (rZ l hl).2.2 hl8 p hp, b10 24 (by omega) (by omega) (by omega), a7 24 (by omega) (by omega) (by omega) (by omega) (by omega)]; exact (hZ.1 l hl).2.2.2.2.2 hl8 p hp
  · rw [k15, g6.1 j h1 h2 i hi, rF.2 j (by omega) (by omega) (by omega) (by omega) (by omega), b10 j (by omega) (by omega) (by omega), a8.1 j h1 h2 i hi]; exact hZ.2.1 j h1 h2 i hi
  · rw [k15, g6.2 i hi, rF.2 18 (by omega) (by omega) (by omega) (by omega) (by omega), b10 18 (by omega) (by omega) (by omega), a8.2 i hi]; exact hZ.2.2 i hi
/-- minutes pass -/
theorem q_pass {m : Nat} (h : q_V D E nl nt ng) (hm : E 14 0 4 = nI m) (k : Nat) (hk : m + k ≤ 2000) (D1 E1 : KD) (mi : Nat) (mn : Int32) :
    q_V (it (f_X0_passMinutes_4 D1 nl nt ng mi) k (D, (0 : Int32))).1 (it (f_X7_pass_44 E1 nl nt ng mn) k (E, (0 : Int32))).1 nl nt ng ∧ (it (f_X0_passMinutes_4 D1 nl nt ng mi) k (D, (0 : Int32))).2 = (it (f_X7_pass_44 E1 nl nt ng mn) k (E, (0 : Int32))).2 := by
  have := it_sim (F := f_X0_passMinutes_4 D1 nl nt ng mi) (G := f_X7_pass_44 E1 nl nt ng mn) (a := (D, (0 : Int32))) (b := (E, (0 : Int32))) (n := k) (fun j x y => q_V x.1 y.1 nl nt ng ∧ x.2 = y.2 ∧ y.1 14 0 4 = nI (m + j)) ⟨h, rfl, hm⟩ (fun j hj x y => by
    rintro ⟨i1, i2, i3⟩
    obtain ⟨o1, o2, o3⟩ := q_min i1 i3 (by omega)
    refine ⟨o1, ?_, o3⟩
    show x.2 + _ = y.2 + _
    rw [i2, o2])
  exact ⟨this.1, this.2.1⟩
end
