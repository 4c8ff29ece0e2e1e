section
variable {D E : KD} {nl nt ng : Nat}
theorem q_queN (E : KD) (d pl : Int32) (k : Nat) : ∃ a, a ≤ nl ∧ it (f_X7_queued_40 E nl nt ng d pl k) nl 0 = nI a := by
  have := it_indk (f := f_X7_queued_40 E nl nt ng d pl k) (P := fun k z => ∃ a, a ≤ k ∧ z = nI a) (a := (0 : Int32)) (n := nl) ⟨0, by omega, rfl⟩ (fun j hj z hz => by
    obtain ⟨a, ha, rfl⟩ := hz
    have e : ∀ z' : Int32, j_X7_queued_95 E nl nt ng d pl k j z' = 0 ∨ j_X7_queued_95 E nl nt ng d pl k j z' = 1 := fun z' => by
      unfold j_X7_queued_95
      repeat' split
      all_goals first | exact Or.inl rfl | exact Or.inr rfl
    unfold f_X7_queued_40
    rcases e (nI a) with e | e
    · rw [e]; exact ⟨a, by omega, Int32.add_zero _⟩
    · rw [e]; exact ⟨a + 1, by omega, nI_1 a⟩)
  exact this
theorem q_aInQueue (h : q_V D E nl nt ng) (d pq : Int32) : q_qst D E nl nt ng (s_x_inQueue D nl nt ng d pq) (D 4 (s_X0_queuedFor D nl nt ng d pq).toNatClampNeg 0) (s_X7_inQueue E nl nt ng d pq) := by
  have h8 := h.wf.l8
  unfold s_x_inQueue s_X7_inQueue
  rw [q_noD]
  rcases q_reqD d with e | e
  · rw [if_pos e, if_pos e]
    have hV := h.thr (s_x_requireDoor d)
    have ej : j_X7_inQueue_24 E nl nt ng d pq = s_X0_queuedFor D nl nt ng d pq := by
      unfold j_X7_inQueue_24
      rw [q_noD, q_que hV.C h8]
      by_cases c : pq ≥ 0
      · rw [if_pos c]
      · rw [if_neg c]
        by_cases c2 : s_X7_queued (k_d E 14 0 0 (s_x_requireDoor d)) nl nt ng d pq = -1
        · exact c2.symm
        · exfalso
          obtain ⟨l, hl, el, hs, hr, hc⟩ := mQ_some c2
          obtain ⟨a, ha, ea⟩ := q_queN (nl := nl) (nt := nt) (ng := ng) (k_d E 14 0 0 (s_x_requireDoor d)) d pq l
          rw [ea] at hc
          rw [← hc] at c
          exact c (nI_pos' (by omega))
    rw [ej]
    by_cases c : s_X0_queuedFor D nl nt ng d pq = -1
    · rw [if_pos c, if_pos c]
      exact ⟨(k_ds : k_d (k_d E 14 0 0 (s_x_requireDoor d)) 14 0 0 2 14 0 0 = 2), hV.thr 2, fun q => absurd q (by decide)⟩
    · rw [if_neg c, if_neg c]
      have hv := cIN_queuedFor h8 c
      refine ⟨(k_ds : k_d E 14 0 0 (s_x_requireDoor d) 14 0 0 = s_x_requireDoor d).trans e, hV, fun _ => ?_⟩
      show s_X0_queuedFor D nl nt ng d pq = D 4 (s_X0_queuedFor D nl nt ng d pq).toNatClampNeg 0
      rw [h.C.n hv.lt]
      exact hv.eq (by omega)
  · rw [if_neg (by rw [e]; decide), if_neg (by rw [e]; decide), e]
    exact ⟨(k_ds : k_d E 14 0 0 1 14 0 0 = 1), h.thr 1, fun q => absurd q (by decide)⟩
theorem q_aBehind (h : q_V D E nl nt ng) : s_X0_unitsLeftBehind D nl nt ng = s_X7_leftBehind E nl nt ng := by
  unfold s_X0_unitsLeftBehind l_X0_unitsLeftBehind_4 s_X7_leftBehind l_X7_leftBehind_4
  refine it_cong (fun t ht z => ?_) 0
  unfold f_X0_unitsLeftBehind_4 f_X7_leftBehind_4 j_X7_leftBehind_46
  rw [h.C.t1 ht, h.C.l5 (h.wf.tol ht).lt, h.C.t2 ht, h.C.t5 ht]
  split
  · rfl
  · exact (Int32.add_zero z).symm
theorem q_far2 {x y : Int32} (hx : x = -1 ∨ vp_in x 4) (hy : y = -1 ∨ vp_in y 4) : s_X6_difference x y = (if (if x = -1 then 0 else if y = -1 then 0 else x - y) ≥ 0 then (if x = -1 then 0 else if y = -1 then 0 else x - y) else -(if x = -1 then 0 else if y = -1 then 0 else x - y)) := by
  rcases hx with rfl | hx
  · unfold s_X6_difference
    rw [if_pos rfl, if_pos rfl, if_pos (by decide)]
  · obtain ⟨e, he, e1, e2⟩ := q_far hx hy
    rw [e1, if_neg hx.nm1]
    exact e2.symm
theorem q_aWays (h : q_V D E nl nt ng) : s_X0_waysOfTransfers D nl nt ng = s_X7_ways E nl nt ng := by
  unfold s_X0_waysOfTransfers l_X0_waysOfTransfers_4 s_X7_ways s_X7_waysOf4 l_X7_waysOf4_4
  refine it_cong (fun t ht z => ?_) 0
  unfold f_X0_waysOfTransfers_4 f_X7_waysOf4_4 j_X7_waysOf4_79 j_X7_waysOf4_57 s_X5_way
  rw [h.C.t0 ht, h.C.t1 ht, h.C.t2 ht, h.C.l4 (h.wf.frl ht).lt, h.C.l4 (h.wf.tol ht).lt, q_far2 (h.wf.drn (h.wf.frl ht)) (h.wf.drn (h.wf.tol ht))]
theorem q_sumW (h : q_V D E nl nt ng) : s_X0_minutesWaited D nl nt ng = it (fun k z => z + E 15 6 k) nl 0 := by
  unfold s_X0_minutesWaited l_X0_minutesWaited_4
  refine it_cong (fun k hk z => ?_) 0
  unfold f_X0_minutesWaited_4
  rw [h.C.l8 hk]
theorem q_sumD (h : q_V D E nl nt ng) : s_X0_minutesOfTheDock D nl nt ng = E 14 0 5 := by
  rw [h.2.2.2.1.2.1]
  unfold s_X0_minutesOfTheDock l_X0_minutesOfTheDock_4
  refine it_cong (fun k hk z => ?_) 0
  unfold f_X0_minutesOfTheDock_4 s_X3_minutesFrom
  rw [show (-1 : Int32) + 1 = 0 from by decide, if_neg (by decide), if_neg (by decide)]
  first | done | rfl
theorem q_cents (h : q_V D E nl nt ng) {l p : Nat} (hl : l < nl) (hp : p < 9) {de : Int32} (hd : de + 1 = nI p) : s_X3_centsFrom D l de = E 15 24 (8 * p + l) := by
  unfold s_X3_centsFrom s_X3_minutesFrom
  rw [hd, if_neg (nI_pos (by omega)), if_neg (show ¬ nI p ≥ 9 from fun q => absurd ((nI_leI (a := 9) (b := p) (by omega) (by omega)).mp q) (by omega)), nI_clamp (by omega)]
  exact (h.2.2.2.1.1 l hl p hp).symm
theorem q_isM {x : Int32} {n : Nat} (hn : n < 2 ^ 30) : s_X7_isIn x (-1) (nI n - 1) = if x = -1 then 1 else if x < 0 ∨ n ≤ x.toNatClampNeg then 0 else 1 := by
  have em : (-1 : Int32).toInt = -1 := by decide
  have e0 : (0 : Int32).toInt = 0 := by decide
  by_cases c1 : x = -1
  · subst c1
    rw [if_pos rfl]
    unfold s_X7_isIn
    rw [if_neg (by decide)]
    rcases Nat.eq_zero_or_pos n with rfl | hn0
    · decide
    · rw [q_sub1 hn0, if_neg (fun q => by
        have := Int32.lt_iff_toInt_lt.mp q
        rw [nI_toInt (by omega), em] at this
        omega)]
  · rw [if_neg c1, ← q_isN x hn]
    unfold s_X7_isIn
    by_cases c2 : x < 0
    · rw [if_pos c2, if_pos]
      have h1 := Int32.lt_iff_toInt_lt.mp c2
      refine Int32.lt_iff_toInt_lt.mpr ?_
      rw [em]
      have h2 : x.toInt ≠ -1 := fun q => c1 (Int32.toInt_inj.mp (q.trans em.symm))
      omega
    · rw [if_neg c2, if_neg (fun q => c2 (Int32.lt_iff_toInt_lt.mpr (by
        have := Int32.lt_iff_toInt_lt.mp q
        omega)))]
theorem q_aInvoice (h : q_V D E nl nt ng) (de lo : Int32) : q_qst D E nl nt ng (s_x_invoice D nl nt ng de lo) (s_X3_centsFrom D lo.toNatClampNeg de) (s_X7_invoice E nl nt ng de lo) := by
  have h8 := h.wf.l8
  unfold s_x_invoice s_x_requireDebtor s_X7_invoice
  rw [h.wf.l, q_isM (by omega), q_isN lo (by omega)]
  have bad : q_qst D E nl nt ng 1 (s_X3_centsFrom D lo.toNatClampNeg de) (k_d E 14 0 0 1, (0 : Int32)) := ⟨(k_ds : k_d E 14 0 0 1 14 0 0 = 1), h.thr 1, fun q => absurd q (by decide)⟩
  have good : (∃ p, p < 9 ∧ de + 1 = nI p) → q_qst D E nl nt ng (if lo < 0 ∨ nl ≤ lo.toNatClampNeg then 1 else 0) (s_X3_centsFrom D lo.toNatClampNeg de) (if (if lo < 0 ∨ nl ≤ lo.toNatClampNeg then (0 : Int32) else 1) = 0 then (k_d E 14 0 0 1, 0) else (k_d E 14 0 0 0, E 15 24 ((8 * (de + 1)) + lo).toNatClampNeg)) := by
    rintro ⟨p, hp, ep⟩
    by_cases c : lo < 0 ∨ nl ≤ lo.toNatClampNeg
    · simp only [if_pos c, if_true]
      exact bad
    · obtain ⟨l, hl, rfl⟩ := vp_in_of (q_inOf c) (by omega)
      simp only [if_neg c]
      rw [if_neg (by decide : ¬ (1 : Int32) = 0)]
      refine ⟨(k_ds : k_d E 14 0 0 0 14 0 0 = 0), h.thr 0, fun _ => ?_⟩
      show E 15 24 ((8 * (de + 1)) + nI l).toNatClampNeg = _
      rw [nI_clamp (by omega), q_cents h hl hp ep, ep, show (8 : Int32) = nI 8 from rfl, pk_mul, nI_add, nI_clamp (by omega)]
  by_cases c1 : de = -1
  · simp only [if_pos c1, if_true]
    rw [if_neg (by decide : ¬ (1 : Int32) = 0)]
    exact good ⟨0, by omega, by rw [c1]; decide⟩
  · simp only [if_neg c1]
    by_cases c2 : de < 0 ∨ nl ≤ de.toNatClampNeg
    · simp only [if_pos c2, if_true]
      rw [if_neg (by decide : ¬ (1 : Int32) = 0)]
      exact bad
    · simp only [if_neg c2, if_true]
      rw [if_neg (by decide : ¬ (1 : Int32) = 0)]
      obtain ⟨a, ha, rfl⟩ := vp_in_of (q_inOf c2) (by omega)
      exact good ⟨a + 1, by omega, nI_1 a⟩
theorem q_aInvAnew (h : q_V D E nl nt ng) (de lo : Int32) : q_qst D E nl nt ng (s_x_invoiceAnew D nl nt ng de lo) (s_X3_centsFrom D lo.toNatClampNeg de) (s_X7_invoiceAnew E nl nt ng de lo) := q_aInvoice h de lo
end
