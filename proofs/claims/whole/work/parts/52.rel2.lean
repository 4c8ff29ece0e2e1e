/-! what the values always are; questions that both sides ask -/
def q_G (E : KD) (ng : Nat) : Prop := ∀ g, g < ng → (∃ s, 1 ≤ s ∧ s ≤ 9 ∧ E 15 19 g = nI s) ∧ ∃ e, 1 ≤ e ∧ e ≤ 2000 ∧ E 15 21 g = nI e
def q_m (E : KD) : Prop := ∃ m, m ≤ 2000 ∧ E 14 0 4 = nI m
def q_K (E : KD) (nt : Nat) : Prop := ∀ t, t < nt → E 15 0 (E 15 12 t).toNatClampNeg ≠ 0 ∧ E 15 0 (E 15 13 t).toNatClampNeg = 0
def q_T1 (E : KD) (t U r c : Nat) (s : Nat → Nat) : Prop := 1 ≤ U ∧ U ≤ 99 ∧ r + c + (s 0 + s 1 + s 2 + s 3) ≤ U ∧ E 15 14 t = nI U ∧ E 15 15 t = nI (r + c + (s 0 + s 1 + s 2 + s 3)) ∧ E 15 16 t = nI r ∧ E 15 17 t = nI c ∧ ∀ k, k < 4 → E 15 18 (4 * t + k) = nI (s k)
def q_U (E : KD) (nt : Nat) : Prop := ∀ t, t < nt → ∃ U r c s, q_T1 E t U r c s
section
variable {D E : KD} {nl nt ng : Nat}
theorem q_sub1 {e : Nat} (h : 1 ≤ e) : nI e - 1 = nI (e - 1) := by
  have := pk_sub h
  rw [← this]
  rfl
theorem q_pow (h : q_C D E nl nt ng) (hg : q_G E ng) (hm : q_m E) (d : Int32) : s_X0_powerAt D nl nt ng d = s_X7_powerOf E nl nt ng d := by
  unfold s_X0_powerAt l_X0_powerAt_4 s_X7_powerOf l_X7_powerOf_4
  refine it_cong (fun k hk z => ?_) 0
  obtain ⟨-, e, he1, he2, hee⟩ := hg k hk
  obtain ⟨m, hm1, hme⟩ := hm
  have key : (nI m ≥ nI e) ↔ (nI m > nI (e - 1)) := by
    rw [ge_iff_le, gt_iff_lt, nI_leI (by omega) (by omega), nI_ltI (by omega) (by omega)]
    omega
  unfold f_X0_powerAt_4 s_X2_worksAt f_X7_powerOf_4 j_X7_powerOf_57 s_X7_isIn
  rw [h.g0 hk, h.g1 hk, h.g2 hk, h.g3 hk, h.now, hee, hme, q_sub1 he1]
  by_cases c1 : E 15 22 k = d
  · by_cases c2 : nI m < E 15 20 k
    · simp [c1, c2]
    · by_cases c3 : nI m ≥ nI e
      · have c4 := key.mp c3
        simp only [c1, c2, c3, c4, if_true, if_false]
        simp
      · have c4 := mt key.mpr c3
        simp only [c1, c2, c3, c4, if_true, if_false]
        simp
  · simp [c1]
theorem q_powN (hg : q_G E ng) (h4 : ng ≤ 4) (d : Int32) : ∃ a, a ≤ 36 ∧ s_X7_powerOf E nl nt ng d = nI a := by
  unfold s_X7_powerOf l_X7_powerOf_4
  have := it_indk (f := f_X7_powerOf_4 E nl nt ng d) (P := fun k z => ∃ a, a ≤ 9 * k ∧ z = nI a) (a := (0 : Int32)) (n := ng) ⟨0, by omega, rfl⟩ (fun k hk z hz => by
    obtain ⟨a, ha, rfl⟩ := hz
    obtain ⟨⟨s, hs1, hs2, hs⟩, -⟩ := hg k hk
    unfold f_X7_powerOf_4 j_X7_powerOf_57
    rw [hs]
    split
    · split
      · exact ⟨a, by omega, by simp⟩
      · exact ⟨a + s, by omega, nI_add a s⟩
    · exact ⟨a, by omega, by simp⟩)
  obtain ⟨a, h1, h2⟩ := this
  exact ⟨a, by omega, h2⟩
theorem q_ahead (h : q_C D E nl nt ng) (h8 : nl ≤ 8) {q : Nat} (hq : q < nl) {d : Int32} (hd : E 15 4 q = d) (pl : Int32) : s_X0_lorriesAheadOf D nl nt ng q = l_X7_queued_40 E nl nt ng d pl q := by
  unfold s_X0_lorriesAheadOf l_X0_lorriesAheadOf_4 l_X7_queued_40
  refine it_cong (fun k hk z => ?_) 0
  unfold f_X0_lorriesAheadOf_4 s_X3_isQueuedFor s_X3_isAheadOf f_X7_queued_40 j_X7_queued_95 s_X7_isBefore
  rw [h.l5 hk, h.l4 hk, h.l4 hq, h.l6 hk, h.l6 hq, h.n hk, h.n hq, hd, nI_clamp (by omega), nI_clamp (by omega)]
  by_cases hkq : k = q
  · subst hkq
    have e1 : ¬ E 15 5 k < E 15 5 k := Int32.lt_irrefl
    have e2 : nI k ≥ nI k := Int32.le_refl _
    by_cases c1 : E 15 11 k = 121 <;> by_cases c2 : E 15 4 k = d <;> simp [c1, c2, e1, e2]
  · have e1 : ¬ nI k = nI q := nI_ne (by omega) (by omega) hkq
    by_cases c1 : E 15 11 k = 121
    · by_cases c2 : E 15 4 k = d
      · by_cases c3 : E 15 5 k < E 15 5 q
        · simp [c1, c2, e1, c3]
        · by_cases c4 : E 15 5 k = E 15 5 q
          · have c3' : ¬ E 15 5 q < E 15 5 q := Int32.lt_irrefl
            by_cases c5 : nI k ≥ nI q <;> simp [c1, c2, e1, c4, c3', c5]
          · simp [c1, c2, e1, c3, c4]
      · simp [c1, c2]
    · simp [c1]
theorem q_queR (h : q_C D E nl nt ng) (h8 : nl ≤ 8) (d pl : Int32) (f : Nat) : ∀ k, k + f = nl → r_X0_queuedFor_2 D nl nt ng d pl f k = r_X7_queued_2 E nl nt ng d pl f k := by
  induction f with
  | zero => intro k hk; rfl
  | succ f ih =>
    intro k hk
    have hk' : k < nl := by omega
    unfold r_X0_queuedFor_2 r_X7_queued_2
    rw [ih (k + 1) (by omega)]
    unfold s_X3_isQueuedFor
    rw [h.l5 hk', h.l4 hk']
    by_cases c1 : E 15 11 k = 121
    · by_cases c2 : E 15 4 k = d
      · rw [q_ahead h h8 hk' c2 pl]
        simp [c1, c2]
      · simp [c1, c2]
    · simp [c1]
theorem q_que (h : q_C D E nl nt ng) (h8 : nl ≤ 8) (d pl : Int32) : s_X0_queuedFor D nl nt ng d pl = s_X7_queued E nl nt ng d pl := q_queR h h8 d pl (nl - 0) 0 (by omega)
theorem q_inI {x : Int32} {n i : Nat} (h : vp_in x n) (hn : n < 2 ^ 31) (hi : i < 2 ^ 31) : x = nI i ↔ x.toNatClampNeg = i := by
  constructor
  · intro q; rw [q, nI_clamp hi]
  · intro q; rw [← q]; exact h.eq hn
theorem q_miss (h : q_C D E nl nt ng) (hk : q_K E nt) (hw : mWF E nl nt ng) {i : Nat} (hi : i < nl) : s_X0_openUnits D nl nt ng i = s_X7_missing E nl nt ng (nI i) := by
  have h8 := hw.l8
  unfold s_X0_openUnits l_X0_openUnits_4 s_X7_missing l_X7_missing_4
  refine it_cong (fun t ht z => ?_) 0
  obtain ⟨k1, k2⟩ := hk t ht
  have a1 := q_inI (i := i) (hw.frl ht) (by omega) (by omega)
  have a2 := q_inI (i := i) (hw.tol ht) (by omega) (by omega)
  unfold f_X0_openUnits_4 s_X5_isOf s_X5_openFor f_X7_missing_4 j_X7_missing_36 j_X7_missing_71
  rw [h.t0 ht, h.t1 ht, h.t2 ht, h.t3 ht, h.t5 ht, h.l1 hi, nI_clamp (by omega)]
  by_cases c0 : E 15 0 i = 0
  · have c1 : ¬ (E 15 12 t).toNatClampNeg = i := fun q => k1 (by rw [q]; exact c0)
    by_cases c2 : (E 15 13 t).toNatClampNeg = i
    · have c3 := a2.mpr c2
      simp only [c0, c1, c2, if_true, if_false]
      rw [if_neg (by decide : ¬ (1 : Int32) = 0), if_pos c3]
    · have c3 := mt a2.mp c2
      simp only [c0, c1, c2, c3, if_true, if_false]
  · have c1 : ¬ (E 15 13 t).toNatClampNeg = i := fun q => c0 (by rw [← q]; exact k2)
    by_cases c2 : (E 15 12 t).toNatClampNeg = i
    · have c3 := a1.mpr c2
      simp only [c0, c1, c2, if_true, if_false]
      rw [if_neg (by decide : ¬ (1 : Int32) = 0), if_pos c3]
    · have c3 := mt a1.mp c2
      simp only [c0, c1, c2, c3, if_true, if_false]
theorem q_missN (hu : q_U E nt) (h16 : nt ≤ 16) (l : Int32) : ∃ a, a ≤ 1584 ∧ s_X7_missing E nl nt ng l = nI a := by
  unfold s_X7_missing l_X7_missing_4
  have := it_indk (f := f_X7_missing_4 E nl nt ng l) (P := fun k z => ∃ a, a ≤ 99 * k ∧ z = nI a) (a := (0 : Int32)) (n := nt) ⟨0, by omega, rfl⟩ (fun k hk z hz => by
    obtain ⟨a, ha, rfl⟩ := hz
    obtain ⟨U, r, c, s, u1, u2, u3, e1, e2, e3, e4, -⟩ := hu k hk
    unfold f_X7_missing_4 j_X7_missing_71
    rw [e1, e2, e4]
    split
    · split
      · rw [pk_sub (by omega), nI_add]; exact ⟨_, by omega, rfl⟩
      · rw [pk_sub (by omega), nI_add]; exact ⟨_, by omega, rfl⟩
    · exact ⟨a, by omega, rfl⟩)
  obtain ⟨a, h1, h2⟩ := this
  exact ⟨a, by omega, h2⟩
theorem q_miss0 (hu : q_U E nt) (h16 : nt ≤ 16) (l : Int32) : s_X7_missing E nl nt ng l ≤ 0 ↔ s_X7_missing E nl nt ng l = 0 := by
  obtain ⟨a, ha, e⟩ := q_missN (nl := nl) (ng := ng) hu h16 l
  rw [e]
  have h1 : (nI a ≤ 0) ↔ (nI a ≤ nI 0) := Iff.rfl
  have h2 : (nI a = 0) ↔ (nI a = nI 0) := Iff.rfl
  rw [h1, h2, nI_leI (by omega) (by omega), nI_eq (by omega) (by omega)]
  omega
theorem q_owR (h : q_C D E nl nt ng) (hu : q_U E nt) (hw : mWF E nl nt ng) {i : Nat} (hi : i < nl) (f : Nat) : ∀ k, k + f = nt →
    (r_X0_firstMissedBy_2 D nl nt ng i f k = -1 ∨ vp_in (r_X0_firstMissedBy_2 D nl nt ng i f k) nl) ∧ r_X7_owesAtDoor_26 E nl nt ng (nI i) f k = (if r_X0_firstMissedBy_2 D nl nt ng i f k = -1 then -1 else if E 15 11 (r_X0_firstMissedBy_2 D nl nt ng i f k).toNatClampNeg = 101 then (if E 15 2 (r_X0_firstMissedBy_2 D nl nt ng i f k).toNatClampNeg > E 14 0 4 then -2 else r_X0_firstMissedBy_2 D nl nt ng i f k) else -1) := by
  have h8 := hw.l8
  induction f with
  | zero => intro k hk; exact ⟨Or.inl rfl, rfl⟩
  | succ f ih =>
    intro k hk
    have hk' : k < nt := by omega
    obtain ⟨U, r, c, s, u1, u2, u3, e1, e2, -⟩ := hu k hk'
    have a2 := q_inI (i := i) (hw.tol hk') (by omega) (by omega)
    unfold r_X0_firstMissedBy_2 r_X7_owesAtDoor_26
    rw [h.t0 hk', h.t1 hk', h.t2 hk', h.t3 hk']
    by_cases c1 : (E 15 13 k).toNatClampNeg = i
    · have c1' := a2.mpr c1
      rw [if_pos c1, if_pos c1']
      have key : (E 15 15 k ≥ E 15 14 k) ↔ (E 15 15 k = E 15 14 k) := by
        rw [e1, e2, ge_iff_le, nI_leI (by omega) (by omega), nI_eq (by omega) (by omega)]
        omega
      by_cases c2 : E 15 15 k = E 15 14 k
      · rw [if_pos (key.mpr c2), if_pos c2]
        exact ih (k + 1) (by omega)
      · rw [if_neg (mt key.mp c2), if_neg c2]
        refine ⟨Or.inr (hw.frl hk'), ?_⟩
        rw [if_neg (hw.frl hk').nm1]
    · rw [if_neg c1, if_neg (mt a2.mp c1)]
      exact ih (k + 1) (by omega)
theorem q_dat (h : q_C D E nl nt ng) (hu : q_U E nt) (hw : mWF E nl nt ng) {i : Nat} (hi : i < nl) {po : Int32} (hp : po = s_X7_powerOf E nl nt ng (E 15 4 i)) : s_X0_debtorAtDoor D nl nt ng i po = s_X7_owesAtDoor E nl nt ng (nI i) := by
  have h8 := hw.l8
  obtain ⟨q1, q2⟩ := q_owR h hu hw hi (nt - 0) 0 (by omega)
  unfold s_X0_debtorAtDoor s_X7_owesAtDoor
  rw [nI_clamp (by omega), ← hp, h.l1 hi, q2, h.now]
  show (if po = 0 then _ else if _ then (if s_X0_firstMissedBy D nl nt ng i = -1 then _ else _) else _) = _
  have e : s_X0_firstMissedBy D nl nt ng i = r_X0_firstMissedBy_2 D nl nt ng i (nt - 0) 0 := rfl
  rw [e]
  generalize r_X0_firstMissedBy_2 D nl nt ng i (nt - 0) 0 = x at *
  rcases q1 with rfl | q1
  · simp
  · have hx := q1.lt
    rw [h.l5 hx, h.l2 hx, h.n hx, ← q1.eq (by omega)]
end
