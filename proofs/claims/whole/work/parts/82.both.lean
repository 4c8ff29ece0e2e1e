/-! the class's plan at the start; leastWays and bestDoor answer alike -/
def q_o (E : KD) (l : Nat) : Bool := decide (E 15 11 l = 101)
def q_bb (E : KD) (nl l : Nat) : Int32 := if l < nl then E 15 4 l else -1
theorem q_oT (E : KD) (l : Nat) : q_o E l = true ↔ E 15 11 l = 101 := decide_eq_true_iff
theorem q_oF (E : KD) (l : Nat) : q_o E l = false ↔ ¬ E 15 11 l = 101 := decide_eq_false_iff_not
section
variable {D E : KD} {nl nt ng : Nat}
theorem q_bbI (hw : mWF E nl nt ng) (l : Nat) : q_bb E nl l = -1 ∨ vp_in (q_bb E nl l) 4 := by
  unfold q_bb
  by_cases c : l < nl
  · rw [if_pos c]; exact hw.2.2.2.2.1 l c
  · rw [if_neg c]; exact Or.inl rfl
theorem q_i61 (D : KD) (nl nt ng : Nat) : (∀ l, l < nl → l_X4_init_61 D nl nt ng 22 0 l = if D 4 l 5 = 101 then 1 else 0) ∧ (∀ l, l < nl → l_X4_init_61 D nl nt ng 22 1 l = D 4 l 4) ∧ (∀ k, l_X4_init_61 D nl nt ng 22 3 k = 0) ∧ l_X4_init_61 D nl nt ng 21 0 5 = 6336 ∧ ∀ r, r ≠ 21 → r ≠ 22 → l_X4_init_61 D nl nt ng r = D r := by
  unfold l_X4_init_61
  exact it_indk (f := f_X4_init_61 D nl nt ng) (a := k_DP D (nI nl)) (n := nl) (P := fun m z => (∀ l, l < m → z 22 0 l = if D 4 l 5 = 101 then 1 else 0) ∧ (∀ l, l < m → z 22 1 l = D 4 l 4) ∧ (∀ k, z 22 3 k = 0) ∧ z 21 0 5 = 6336 ∧ ∀ r, r ≠ 21 → r ≠ 22 → z r = D r)
    ⟨fun l hl => absurd hl (by omega), fun l hl => absurd hl (by omega), fun k => rfl, rfl, fun r h1 h2 => k_DP_o ⟨h1, h2⟩⟩ (fun m hm z => by
    rintro ⟨z1, z2, z3, z4, z5⟩
    unfold f_X4_init_61 j_X4_init_100
    have e4 : z 4 = D 4 := z5 4 (by decide) (by decide)
    refine ⟨fun l hl => ?_, fun l hl => ?_, fun k => ?_, ?_, fun r h1 h2 => ?_⟩
    · rw [k_dn (by omega)]
      by_cases c : l = m
      · rw [c, k_ds, e4]
      · rw [k_dn (by omega)]; exact z1 l (by omega)
    · by_cases c : l = m
      · rw [c, k_ds, e4]
      · rw [k_dn (by omega), k_dn (by omega)]; exact z2 l (by omega)
    · rw [k_dn (by omega), k_dn (by omega)]; exact z3 k
    · rw [k_dr rfl, k_dr rfl]; exact z4
    · rw [k_d_r _ h2, k_d_r _ h2]; exact z5 r h1 h2)
theorem q_i119 (h : q_V D E nl nt ng) : (∀ i, i ≠ 3 → s_X4_init D nl nt ng 22 i = l_X4_init_61 D nl nt ng 22 i) ∧ s_X4_init D nl nt ng 21 = l_X4_init_61 D nl nt ng 21 ∧ ∀ l i, l < 8 → i < 8 → s_X4_init D nl nt ng 22 3 (l * 8 + i) = nI (q_B E nt l i) := by
  have hw := h.wf
  have hC := h.C
  have h8 := hw.l8
  have hK : q_K E nt := h.2.2.2.2.2.2.2.1
  have hU : q_U E nt := h.2.2.2.2.2.2.2.2.1
  obtain ⟨-, -, p3, -, p5⟩ := q_i61 D nl nt ng
  unfold s_X4_init l_X4_init_119
  have key := it_indk (f := f_X4_init_119 D nl nt ng) (a := l_X4_init_61 D nl nt ng) (n := nt) (P := fun m z => ((∀ i, i ≠ 3 → z 22 i = l_X4_init_61 D nl nt ng 22 i) ∧ z 21 = l_X4_init_61 D nl nt ng 21 ∧ ∀ l i, l < 8 → i < 8 → z 22 3 (l * 8 + i) = nI (q_B E m l i)) ∧ ∀ r, r ≠ 21 → r ≠ 22 → z r = D r)
    ⟨⟨fun i _ => rfl, rfl, fun l i _ _ => p3 _⟩, p5⟩ (fun m hm z => by
    rintro ⟨⟨z1, z2, z3⟩, z4⟩
    obtain ⟨f1, f2, f3, f4, f5⟩ := q_ft hw hK hm
    obtain ⟨u1, u2⟩ := q_unE hU hm
    have e4 : z 4 = D 4 := z4 4 (by decide) (by decide)
    have e5 : z 5 = D 5 := z4 5 (by decide) (by decide)
    have g0 : (z 5 m 0).toNatClampNeg = q_fr E m := by rw [e5, hC.t0 hm]; rfl
    have g1 : (z 5 m 1).toNatClampNeg = q_to E m := by rw [e5, hC.t1 hm]; rfl
    have g2 : z 5 m 2 = nI (q_un E m) := by rw [e5, hC.t2 hm]; exact u2
    have n0 : z 4 (q_fr E m) 0 = nI (q_fr E m) := by rw [e4]; exact hC.n f1
    have n1 : z 4 (q_to E m) 0 = nI (q_to E m) := by rw [e4]; exact hC.n f2
    have mx : (if nI (q_fr E m) < nI (q_to E m) then nI (q_to E m) else nI (q_fr E m)) = nI (q_hi E m) := by
      unfold q_hi
      by_cases c : q_fr E m < q_to E m
      · rw [if_pos ((nI_ltI (by omega) (by omega)).mpr c), if_pos c]
      · rw [if_neg (mt (nI_ltI (by omega) (by omega)).mp c), if_neg c]
    have mn : (if nI (q_to E m) < nI (q_fr E m) then nI (q_to E m) else nI (q_fr E m)) = nI (q_lo E m) := by
      unfold q_lo
      by_cases c : q_to E m < q_fr E m
      · rw [if_pos ((nI_ltI (by omega) (by omega)).mpr c), if_pos c]
      · rw [if_neg (mt (nI_ltI (by omega) (by omega)).mp c), if_neg c]
    have hlt : q_hi E m < 8 ∧ q_lo E m < 8 := by
      unfold q_hi q_lo
      constructor <;> split <;> omega
    have ef : f_X4_init_119 D nl nt ng m z = k_d z 22 3 (q_hi E m * 8 + q_lo E m) (z 22 3 (q_hi E m * 8 + q_lo E m) + nI (q_un E m)) := by
      unfold f_X4_init_119
      rw [g0, g1, g2, n0, n1, mx, mn, k_pl8, if_neg (nI_pos (by omega)), if_neg (show ¬ nI (q_hi E m * 8 + q_lo E m) ≥ 64 from fun q => absurd ((nI_leI (a := 64) (b := q_hi E m * 8 + q_lo E m) (by omega) (by omega)).mp q) (by omega)), nI_clamp (by omega)]
    rw [ef]
    refine ⟨⟨fun i hi => ?_, ?_, fun l i hl hi => ?_⟩, fun r h1 h2 => ?_⟩
    · rw [k_d_off _ _ (by omega)]; exact z1 i hi
    · rw [k_d_r _ (by decide)]; exact z2
    · rw [q_B_s]
      by_cases c : l = q_hi E m ∧ i = q_lo E m
      · rw [if_pos c, c.1, c.2, k_ds, z3 _ _ hlt.1 hlt.2, nI_add]
      · rw [if_neg c, k_dn (by omega), Nat.add_zero]; exact z3 l i hl hi
    · rw [k_d_r _ h2]; exact z4 r h1 h2)
  exact key.1
theorem q_V.off (h : q_V D E nl nt ng) {x : KD} (h15 : ∀ i, i ≠ 25 → i ≠ 26 → x 15 i = E 15 i) (h14 : ∀ k, k ≠ 6 → x 14 0 k = E 14 0 k) : q_V D x nl nt ng := by
  obtain ⟨hC, hD, hH, hM, hw, hG, hmm, hK, hU, hJ, hZ⟩ := h
  have e : ∀ j, j ≤ 24 → x 15 j = E 15 j := fun j hj => h15 j (by omega) (by omega)
  have e4 : x 14 0 4 = E 14 0 4 := h14 4 (by decide)
  refine ⟨⟨hC.1, fun l hl q hq => ?_, fun t ht q hq => ?_, fun g hg q hq => ?_, fun t ht k hk => ?_, ?_⟩, fun d hd => ?_, fun l hl => ?_, ?_, ?_, ?_, ?_, ?_, ?_, ?_, ?_⟩
  · rw [e q.2 (by have := q_tL0 q hq; omega)]; exact hC.2.1 l hl q hq
  · rw [e q.2 (by have := q_tT0 q hq; omega)]; exact hC.2.2.1 t ht q hq
  · rw [e q.2 (by have := q_tG0 q hq; omega)]; exact hC.2.2.2.1 g hg q hq
  · rw [e 18 (by omega)]; exact hC.2.2.2.2.1 t ht k hk
  · rw [e4]; exact hC.2.2.2.2.2
  · rw [e 23 (by omega)]; exact hD d hd
  · exact hH l hl
  · unfold q_M at hM ⊢; rw [e 24 (by omega), h14 5 (by decide)]; exact hM
  · unfold mWF at hw ⊢; rw [h14 1 (by decide), h14 2 (by decide), h14 3 (by decide), e 12 (by omega), e 13 (by omega), e 4 (by omega), e 11 (by omega), e 23 (by omega)]; exact hw
  · unfold q_G at hG ⊢; rw [e 19 (by omega), e 21 (by omega)]; exact hG
  · unfold q_m at hmm ⊢; rw [e4]; exact hmm
  · unfold q_K at hK ⊢; rw [e 0 (by omega), e 12 (by omega), e 13 (by omega)]; exact hK
  · unfold q_U q_T1 at hU ⊢; rw [e 14 (by omega), e 15 (by omega), e 16 (by omega), e 17 (by omega), e 18 (by omega)]; exact hU
  · unfold q_J q_jw at hJ ⊢; rw [e 9 (by omega), e 10 (by omega), e4]; exact hJ
  · obtain ⟨z1, z2, z3⟩ := hZ
    refine ⟨fun l hl => ?_, fun j h1 h2 i hi => ?_, fun i hi => ?_⟩
    · rw [e 1 (by omega), e 5 (by omega), e 6 (by omega), e 7 (by omega), e 8 (by omega), e 24 (by omega)]; exact z1 l hl
    · rw [e j (by omega)]; exact z2 j h1 h2 i hi
    · rw [e 18 (by omega)]; exact z3 i hi
theorem q_both (h : q_V D E nl nt ng) : s_plan D nl nt ng 21 0 5 = (s_X7_leastWays E nl nt ng).2 ∧ (∀ l, l < nl → s_plan D nl nt ng 22 2 l = (s_X7_leastWays E nl nt ng).1 15 26 l) ∧ q_V D (s_X7_leastWays E nl nt ng).1 nl nt ng ∧ (s_X7_leastWays E nl nt ng).1 14 0 0 = E 14 0 0 := by
  have hw := h.wf
  have hC := h.C
  have h8 := hw.l8
  have hK : q_K E nt := h.2.2.2.2.2.2.2.1
  have hU : q_U E nt := h.2.2.2.2.2.2.2.2.1
  have hb := q_bbI hw
  have hB := q_wy_bd hw hK hU
  obtain ⟨i1, i2, i3, i4, i5⟩ := q_i61 D nl nt ng
  obtain ⟨j1, j2, j3⟩ := q_i119 h
  -- the class
  have hI : q_Is nl (q_o E) (q_bb E nl) (q_B E nt) (s_X4_init D nl nt ng) := by
    refine ⟨fun l hl => ?_, fun l i hl hi => j3 l i (by omega) (by omega), fun l hl ho => ?_, 6336, by omega, ?_⟩
    · rw [j1 0 (by decide), i1 l hl, hC.l5 hl, q_oF]
      by_cases c : E 15 11 l = 101
      · rw [if_pos c]; exact ⟨fun q => absurd q (by decide), fun q => absurd c q⟩
      · rw [if_neg c]; exact ⟨fun _ => c, fun _ => rfl⟩
    · rw [j1 1 (by decide), i2 l hl, hC.l4 hl]
      unfold q_bb
      rw [if_pos hl]
    · rw [j2]; exact i4
  have cl := q_srch (o := q_o E) (b := q_bb E nl) (B := q_B E nt) h8 hb hB nl 0 0 9 (s_X4_init D nl nt ng) ((6336 : Int32), fun l => s_X4_init D nl nt ng 22 2 l) 0 (by omega) (by omega) hI (fun l hl => absurd hl (by omega)) rfl ⟨by rw [j2]; exact i4.symm, fun l hl => rfl⟩
  obtain ⟨⟨c1, c2⟩, -, -⟩ := cl
  have eN : q_Mx (q_o E) 0 nl = q_Nm (q_o E) nl := by
    have := q_Mx_Nm (q_o E) nl 0
    rw [Nat.zero_add, show q_Nm (q_o E) 0 = 1 from rfl, Nat.one_mul] at this
    exact this
  rw [eN, Nat.zero_mul] at c1 c2
  -- the reference
  have hN := q_Nm_le (q_o E) nl
  have st15 : ∀ j, j ≠ 25 → k_d (l_X7_leastWays_2 E nl nt ng) 14 0 6 (-1) 15 j = E 15 j := fun j hj => by
    rw [k_d_r _ (by decide), l_X7_leastWays_2_11 E nl nt ng (fun q => hj q.2)]
  have st25 : ∀ l, l < nl → k_d (l_X7_leastWays_2 E nl nt ng) 14 0 6 (-1) 15 25 l = q_P (q_o E) (q_bb E nl) nl 0 l := fun l hl => by
    rw [k_d_r _ (by decide), l_X7_leastWays_2_at E nl nt ng l hl, q_P_0]
    by_cases c : E 15 11 l = 101
    · rw [if_pos c, if_pos ⟨hl, (q_oT E l).mpr c⟩]
    · rw [if_neg c, if_neg (fun q => c ((q_oT E l).mp q.2))]
      unfold q_bb
      rw [if_pos hl]
  have re := q_wh (E0 := E) (nl := nl) (nt := nt) (ng := ng) (o := q_o E) (b := q_bb E nl) hb hw (fun l _ => q_oT E l) (4 ^ nl) 0 (k_d (l_X7_leastWays_2 E nl nt ng) 14 0 6 (-1)) ((-1 : Int32), fun l => k_d (l_X7_leastWays_2 E nl nt ng) 14 0 6 (-1) 15 26 l) hN.1 (by omega) (fun j h1 _ => st15 j h1) st25 k_ds.symm (fun l hl => rfl)
  obtain ⟨r1, r2, r3, r4⟩ := re
  rw [Nat.sub_zero] at r1 r2
  have eF := q_LC (n := q_Nm (q_o E) nl) (W := fun c => q_W E nt (q_P (q_o E) (q_bb E nl) nl c)) (V := fun c => q_P (q_o E) (q_bb E nl) nl c) hN.1 (fun c => ⟨_, hB _ (fun l => q_P_in hb nl c l), q_W_B hw hK hU (fun l => q_P_in hb nl c l)⟩) (fun l => k_d (l_X7_leastWays_2 E nl nt ng) 14 0 6 (-1) 15 26 l) (fun l => s_X4_init D nl nt ng 22 2 l)
  have eW : (fun (c : Nat) (a : Int32 × (Nat → Int32)) => q_stC (q_W E nt (q_P (q_o E) (q_bb E nl) nl c)) (q_P (q_o E) (q_bb E nl) nl c) a) = fun c a => q_stC (nI (q_wy (q_B E nt) (q_P (q_o E) (q_bb E nl) nl c) nl)) (q_P (q_o E) (q_bb E nl) nl c) a := by
    funext c a
    rw [q_W_B hw hK hU (fun l => q_P_in hb nl c l)]
  have eF2 := eF.trans (congrArg (fun F => itR F (q_Nm (q_o E) nl) 0 ((6336 : Int32), fun l => s_X4_init D nl nt ng 22 2 l)) eW)
  refine ⟨?_, fun l hl => ?_, ?_, ?_⟩
  · show s_search nl 9 (s_X4_init D nl nt ng) 0 0 21 0 5 = s_wh nl nt ng (4 ^ nl) (k_d (l_X7_leastWays_2 E nl nt ng) 14 0 6 (-1)) 14 0 6
    rw [← c1, ← r1]
    exact (congrArg Prod.fst eF2).symm
  · show s_search nl 9 (s_X4_init D nl nt ng) 0 0 22 2 l = s_wh nl nt ng (4 ^ nl) (k_d (l_X7_leastWays_2 E nl nt ng) 14 0 6 (-1)) 15 26 l
    rw [← c2 l hl, ← r2 l hl]
    exact (congrFun (congrArg Prod.snd eF2) l).symm
  · refine h.off (fun i h1 h2 => ?_) (fun k hk => ?_)
    · exact (r3 15 i (by omega) (by decide)).trans (st15 i h1)
    · exact (r4 k hk).trans (by rw [k_dn (by omega), l_X7_leastWays_2_11 E nl nt ng (by omega)])
  · exact (r4 0 (by decide)).trans (by rw [k_dn (by omega), l_X7_leastWays_2_11 E nl nt ng (by omega)])
theorem q_aLeast (h : q_V D E nl nt ng) : s_plan D nl nt ng 21 0 5 = (s_X7_leastWays E nl nt ng).2 := (q_both h).1
theorem q_aBest (h : q_V D E nl nt ng) (lo : Int32) : q_qst D E nl nt ng (s_x_bestDoor D nl nt ng lo) (s_X4_bestDoorOf (s_plan D nl nt ng) lo) (s_X7_bestDoor E nl nt ng lo) := by
  have h8 := h.wf.l8
  unfold s_x_bestDoor s_X7_bestDoor
  rw [q_noL h.wf]
  by_cases c : lo < 0 ∨ nl ≤ lo.toNatClampNeg
  · simp only [if_pos c]
    rw [if_neg (by decide : ¬ (1 : Int32) = 0)]
    exact ⟨(k_ds : k_d E 14 0 0 1 14 0 0 = 1), h.thr 1, fun q => absurd q (by decide)⟩
  · have hin := q_inOf c
    have hl := hin.lt
    simp only [if_neg c, if_true]
    rw [h.C.l5 hl]
    by_cases c2 : E 15 11 lo.toNatClampNeg = 101
    · rw [if_pos c2, if_pos c2]
      obtain ⟨b1, b2, b3, b4⟩ := q_both (h.thr 0)
      refine ⟨b4.trans k_ds, b3, fun _ => ?_⟩
      show (s_X7_leastWays (k_d E 14 0 0 0) nl nt ng).1 15 26 lo.toNatClampNeg = _
      rw [← b2 _ hl]
      unfold s_X4_bestDoorOf
      obtain ⟨j, hj, rfl⟩ := vp_in_of hin (by omega)
      rw [if_neg (nI_pos (by omega)), if_neg (show ¬ nI j ≥ 8 from fun q => absurd ((nI_leI (a := 8) (b := j) (by omega) (by omega)).mp q) (by omega))]
    · rw [if_neg c2, if_neg c2]
      exact ⟨(k_ds : k_d (k_d E 14 0 0 0) 14 0 0 2 14 0 0 = 2), (h.thr 0).thr 2, fun q => absurd q (by decide)⟩
end
