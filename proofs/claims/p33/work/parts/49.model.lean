theorem k_m1_in {k : Nat} (h : k ≤ 8) : nI k - 1 = -1 ∨ vp_in (nI k - 1) 8 := by
  cases k with
  | zero => exact Or.inl k_m1_0.symm
  | succ j =>
    rw [k_m1_j]
    exact Or.inr (vp_in_nI (by omega) (by decide))
def j_X7_balance_20 (D : KD) (nl : Nat) (nt : Nat) (ng : Nat) (who : Int32) : Int32 := (if (s_X7_isIn who (-1) ((D 14 0 1) - 1)) = 0 then 1 else 0)
def f_X7_balance_37 (D : KD) (nl : Nat) (nt : Nat) (ng : Nat) (who : Int32) (k37 : Nat) (z37 : Int64) : Int64 := (if who = (-1) then (if (nI k37 - 1) = (-1) then z37 else (z37 - ((D 15 24 (((8 * (who + 1)) + (nI k37 - 1)).toNatClampNeg)).toInt64))) else (if (nI k37 - 1) = (-1) then (z37 + ((D 15 24 (((8 * ((nI k37 - 1) + 1)) + who).toNatClampNeg)).toInt64)) else ((z37 + ((D 15 24 (((8 * ((nI k37 - 1) + 1)) + who).toNatClampNeg)).toInt64)) - ((D 15 24 (((8 * (who + 1)) + (nI k37 - 1)).toNatClampNeg)).toInt64))))
def l_X7_balance_37 (D : KD) (nl : Nat) (nt : Nat) (ng : Nat) (who : Int32) : Int64 := it (f_X7_balance_37 D nl nt ng who) (nl + 1) 0
def s_X7_balance (D : KD) (nl : Nat) (nt : Nat) (ng : Nat) (who : Int32) : KD × Int64 := (if (j_X7_balance_20 D nl nt ng who) = 0 then (k_d D 14 0 0 (j_X7_balance_20 D nl nt ng who), (l_X7_balance_37 D nl nt ng who)) else (k_d D 14 0 0 (j_X7_balance_20 D nl nt ng who), 0))
def j_X7_waysOf4_57 (D : KD) (nl : Nat) (nt : Nat) (ng : Nat) (k4 : Nat) (z4 : Int32) : Int32 := (if (D 15 4 ((D 15 12 k4).toNatClampNeg)) = (-1) then 0 else (if (D 15 4 ((D 15 13 k4).toNatClampNeg)) = (-1) then 0 else ((D 15 4 ((D 15 12 k4).toNatClampNeg)) - (D 15 4 ((D 15 13 k4).toNatClampNeg)))))
def j_X7_waysOf4_79 (D : KD) (nl : Nat) (nt : Nat) (ng : Nat) (k4 : Nat) (z4 : Int32) : Int32 := (if (j_X7_waysOf4_57 D nl nt ng k4 z4) ≥ 0 then (j_X7_waysOf4_57 D nl nt ng k4 z4) else (-(j_X7_waysOf4_57 D nl nt ng k4 z4)))
def f_X7_waysOf4_4 (D : KD) (nl : Nat) (nt : Nat) (ng : Nat) (k4 : Nat) (z4 : Int32) : Int32 := (z4 + ((D 15 14 k4) * (j_X7_waysOf4_79 D nl nt ng k4 z4)))
def l_X7_waysOf4_4 (D : KD) (nl : Nat) (nt : Nat) (ng : Nat) : Int32 := it (f_X7_waysOf4_4 D nl nt ng) nt 0
def s_X7_waysOf4 (D : KD) (nl : Nat) (nt : Nat) (ng : Nat) : Int32 := (l_X7_waysOf4_4 D nl nt ng)
def j_X7_waysOf25_57 (D : KD) (nl : Nat) (nt : Nat) (ng : Nat) (k4 : Nat) (z4 : Int32) : Int32 := (if (D 15 25 ((D 15 12 k4).toNatClampNeg)) = (-1) then 0 else (if (D 15 25 ((D 15 13 k4).toNatClampNeg)) = (-1) then 0 else ((D 15 25 ((D 15 12 k4).toNatClampNeg)) - (D 15 25 ((D 15 13 k4).toNatClampNeg)))))
def j_X7_waysOf25_79 (D : KD) (nl : Nat) (nt : Nat) (ng : Nat) (k4 : Nat) (z4 : Int32) : Int32 := (if (j_X7_waysOf25_57 D nl nt ng k4 z4) ≥ 0 then (j_X7_waysOf25_57 D nl nt ng k4 z4) else (-(j_X7_waysOf25_57 D nl nt ng k4 z4)))
def f_X7_waysOf25_4 (D : KD) (nl : Nat) (nt : Nat) (ng : Nat) (k4 : Nat) (z4 : Int32) : Int32 := (z4 + ((D 15 14 k4) * (j_X7_waysOf25_79 D nl nt ng k4 z4)))
def l_X7_waysOf25_4 (D : KD) (nl : Nat) (nt : Nat) (ng : Nat) : Int32 := it (f_X7_waysOf25_4 D nl nt ng) nt 0
def s_X7_waysOf25 (D : KD) (nl : Nat) (nt : Nat) (ng : Nat) : Int32 := (l_X7_waysOf25_4 D nl nt ng)
def s_X7_ways (D : KD) (nl : Nat) (nt : Nat) (ng : Nat) : Int32 := (s_X7_waysOf4 D nl nt ng)
/-! the reference's plans, one after the other -/
def r_next : Nat → KD → KD × Int32
  | 0, D => (D, 0)
  | j + 1, D => if D 15 11 j = 101 then (if D 15 25 j + 1 < 4 then (k_d D 15 25 j (D 15 25 j + 1), 1) else r_next j (k_d (k_d D 15 25 j (D 15 25 j + 1)) 15 25 j 0)) else r_next j D
theorem r_next_s (j : Nat) (D : KD) : r_next (j + 1) D = if D 15 11 j = 101 then (if D 15 25 j + 1 < 4 then (k_d D 15 25 j (D 15 25 j + 1), 1) else r_next j (k_d (k_d D 15 25 j (D 15 25 j + 1)) 15 25 j 0)) else r_next j D := rfl
theorem r_next_wf {nl nt ng : Nat} : ∀ (j : Nat) (D : KD), mWF D nl nt ng → mWF (r_next j D).1 nl nt ng := by
  intro j
  induction j with
  | zero => intro D h; exact h
  | succ j ih =>
    intro D h
    rw [r_next_s]
    split
    · split
      · exact h.put15 (by decide)
      · exact ih _ ((h.put15 (by decide)).put15 (by decide))
    · exact ih _ h
theorem r_next_o {r i : Nat} (hr : ¬ (r = 15 ∧ i = 25)) : ∀ (j : Nat) (D : KD), (r_next j D).1 r i = D r i := by
  intro j
  induction j with
  | zero => intro D; rfl
  | succ j ih =>
    intro D
    rw [r_next_s]
    split
    · split
      · exact k_d_off D _ hr
      · rw [ih, k_d_off _ _ hr, k_d_off _ _ hr]
    · exact ih _
/-- the digits of a plan lie in their bounds -/
def mDig (D : KD) (nl : Nat) : Prop := ∀ l, l < nl → D 15 11 l = 101 → ∃ a : Nat, a < 4 ∧ D 15 25 l = nI a
theorem k_next_step {E : KD} {j : Nat} {a : Nat} (ha : a < 4) (h : E 15 25 j = nI a) : (E 15 25 j + 1 < 4) ↔ a + 1 < 4 := by
  rw [h, nI_1]
  exact nI_ltI (a := a + 1) (b := 4) (by omega) (by decide)
theorem r_next_dig {nl : Nat} : ∀ (j : Nat) (D : KD), j ≤ nl → mDig D nl → mDig (r_next j D).1 nl := by
  intro j
  induction j with
  | zero => intro D _ h; exact h
  | succ j ih =>
    intro D hj h
    have hput : ∀ (E : KD) (a : Nat), a < 4 → mDig E nl → mDig (k_d E 15 25 j (nI a)) nl := by
      intro E a ha hE l hl ho
      rw [k_di rfl] at ho
      by_cases q : l = j
      · subst q; exact ⟨a, ha, k_ds⟩
      · obtain ⟨b, hb, e⟩ := hE l hl ho
        refine ⟨b, hb, ?_⟩
        unfold k_d
        rw [if_neg (fun z => q z.2.2)]
        exact e
    rw [r_next_s]
    split
    · rename_i ho
      obtain ⟨a, ha, e⟩ := h j (by omega) ho
      split
      · rename_i hlt
        have h4 := (k_next_step ha e).mp hlt
        rw [e, nI_1]
        exact hput D (a + 1) h4 h
      · have e2 : k_d (k_d D 15 25 j (D 15 25 j + 1)) 15 25 j 0 = k_d D 15 25 j (nI 0) := by
          funext r i k
          unfold k_d
          split <;> first | rfl | (rename_i q; rw [if_neg q])
        rw [e2]
        exact ih _ (by omega) (hput D 0 (by decide) h)
    · exact ih _ (by omega) h
/-- how many plans are still to come -/
def mRk (D : KD) : Nat → Nat
  | 0 => 0
  | j + 1 => if D 15 11 j = 101 then 4 * mRk D j + (3 - (D 15 25 j).toNatClampNeg) else mRk D j
theorem mRk_put {D : KD} {j : Nat} {x : Int32} : ∀ k, k ≤ j → mRk (k_d D 15 25 j x) k = mRk D k := by
  intro k
  induction k with
  | zero => intro _; rfl
  | succ k ih =>
    intro hk
    have e1 : k_d D 15 25 j x 15 11 k = D 15 11 k := k_di rfl
    have e2 : k_d D 15 25 j x 15 25 k = D 15 25 k := by unfold k_d; rw [if_neg (fun z => by have := z.2.2; omega)]
    show (if k_d D 15 25 j x 15 11 k = 101 then 4 * mRk (k_d D 15 25 j x) k + (3 - (k_d D 15 25 j x 15 25 k).toNatClampNeg) else mRk (k_d D 15 25 j x) k) = _
    rw [e1, e2, ih (by omega)]
    rfl
theorem r_next_rk_o : ∀ (j : Nat) (D : KD) (k : Nat), j ≤ k → (r_next j D).1 15 25 k = D 15 25 k := by
  intro j
  induction j with
  | zero => intro D k _; rfl
  | succ j ih =>
    intro D k hk
    have e : ∀ (E : KD) (x : Int32), k_d E 15 25 j x 15 25 k = E 15 25 k := fun E x => by unfold k_d; rw [if_neg (fun z => by have := z.2.2; omega)]
    rw [r_next_s]
    split
    · split
      · exact e D _
      · rw [ih _ k (by omega), e, e]
    · exact ih _ k (by omega)
theorem r_next_rk {nl : Nat} : ∀ (j : Nat) (D : KD), j ≤ nl → mDig D nl → (r_next j D).2 ≠ 0 → mRk (r_next j D).1 j + 1 = mRk D j := by
  intro j
  induction j with
  | zero => intro D _ _ h; exact absurd rfl h
  | succ j ih =>
    intro D hj hd hne
    rw [r_next_s] at hne ⊢
    by_cases ho : D 15 11 j = 101
    · rw [if_pos ho] at hne ⊢
      obtain ⟨a, ha, e⟩ := hd j (by omega) ho
      have hlt := k_next_step ha e
      by_cases h4 : D 15 25 j + 1 < 4
      · rw [if_pos h4]
        have h5 := hlt.mp h4
        show (if k_d D 15 25 j (D 15 25 j + 1) 15 11 j = 101 then 4 * mRk (k_d D 15 25 j (D 15 25 j + 1)) j + (3 - (k_d D 15 25 j (D 15 25 j + 1) 15 25 j).toNatClampNeg) else mRk (k_d D 15 25 j (D 15 25 j + 1)) j) + 1 = (if D 15 11 j = 101 then 4 * mRk D j + (3 - (D 15 25 j).toNatClampNeg) else mRk D j)
        rw [k_di rfl, if_pos ho, if_pos ho, mRk_put j (Nat.le_refl _), k_ds, e, nI_1, nI_clamp (by omega), nI_clamp (by omega)]
        omega
      · rw [if_neg h4] at hne ⊢
        have h5 : ¬ a + 1 < 4 := fun z => h4 (hlt.mpr z)
        have e2 : k_d (k_d D 15 25 j (D 15 25 j + 1)) 15 25 j 0 = k_d D 15 25 j (nI 0) := by
          funext r i k
          unfold k_d
          split <;> first | rfl | (rename_i q; rw [if_neg q])
        rw [e2] at hne ⊢
        have hd2 : mDig (k_d D 15 25 j (nI 0)) nl := by
          intro l hl ho2
          rw [k_di rfl] at ho2
          by_cases q : l = j
          · subst q; exact ⟨0, by decide, k_ds⟩
          · obtain ⟨b, hb, e3⟩ := hd l hl ho2
            refine ⟨b, hb, ?_⟩
            unfold k_d
            rw [if_neg (fun z => q z.2.2)]
            exact e3
        have h6 := ih _ (by omega) hd2 hne
        rw [mRk_put j (Nat.le_refl _)] at h6
        have h7 := r_next_rk_o j (k_d D 15 25 j (nI 0)) j (Nat.le_refl _)
        have h8 : (r_next j (k_d D 15 25 j (nI 0))).1 15 11 j = D 15 11 j := by
          rw [congrFun (r_next_o (r := 15) (i := 11) (by decide) j (k_d D 15 25 j (nI 0))) j]
          exact k_di rfl
        show (if (r_next j (k_d D 15 25 j (nI 0))).1 15 11 j = 101 then 4 * mRk (r_next j (k_d D 15 25 j (nI 0))).1 j + (3 - ((r_next j (k_d D 15 25 j (nI 0))).1 15 25 j).toNatClampNeg) else mRk (r_next j (k_d D 15 25 j (nI 0))).1 j) + 1 = (if D 15 11 j = 101 then 4 * mRk D j + (3 - (D 15 25 j).toNatClampNeg) else mRk D j)
        rw [h8, if_pos ho, if_pos ho, h7, k_ds, e, nI_clamp (by omega), nI_clamp (by omega)]
        omega
    · rw [if_neg ho] at hne ⊢
      have h6 := ih _ (by omega) hd hne
      have h8 : (r_next j D).1 15 11 j = D 15 11 j := congrFun (r_next_o (r := 15) (i := 11) (by decide) j D) j
      show (if (r_next j D).1 15 11 j = 101 then _ else mRk (r_next j D).1 j) + 1 = (if D 15 11 j = 101 then _ else mRk D j)
      rw [h8, if_neg ho, if_neg ho]
      exact h6
def s_X7_isNext (D : KD) (nl : Nat) : KD × Int32 := r_next nl D
theorem k_dec (x : Int32) : x + Int32.ofInt (-1) = x - 1 := by
  rw [show Int32.ofInt (-1) = -1 by decide]
  exact (Int32.sub_eq_add_neg x 1).symm
theorem r_next_b : ∀ (j : Nat) (D : KD), (r_next j D).2 = 0 ∨ (r_next j D).2 = 1 := by
  intro j
  induction j with
  | zero => intro D; exact Or.inl rfl
  | succ j ih =>
    intro D
    rw [r_next_s]
    split
    · split
      · exact Or.inr rfl
      · exact ih _
    · exact ih _
theorem mRk_congr {D E : KD} (h1 : D 15 11 = E 15 11) (h2 : D 15 25 = E 15 25) : ∀ k, mRk D k = mRk E k := by
  intro k
  induction k with
  | zero => rfl
  | succ k ih =>
    show (if D 15 11 k = 101 then 4 * mRk D k + (3 - (D 15 25 k).toNatClampNeg) else mRk D k) = (if E 15 11 k = 101 then 4 * mRk E k + (3 - (E 15 25 k).toNatClampNeg) else mRk E k)
    rw [h1, h2, ih]
theorem mDig_congr {D E : KD} {nl : Nat} (h1 : D 15 11 = E 15 11) (h2 : D 15 25 = E 15 25) (h : mDig E nl) : mDig D nl := by
  unfold mDig
  rw [h1, h2]
  exact h
theorem mRk_lt {D : KD} : ∀ k, mRk D k < 4 ^ k := by
  intro k
  induction k with
  | zero => exact Nat.one_pos
  | succ k ih =>
    show (if D 15 11 k = 101 then 4 * mRk D k + (3 - (D 15 25 k).toNatClampNeg) else mRk D k) < 4 ^ (k + 1)
    rw [Nat.pow_succ]
    split <;> omega
theorem it_wf {nl nt ng : Nat} (F : Nat → KD → KD) (h : ∀ k E, mWF E nl nt ng → mWF (F k E) nl nt ng) (n : Nat) {D : KD} (hD : mWF D nl nt ng) : mWF (it F n D) nl nt ng := by
  induction n with
  | zero => exact hD
  | succ n ih => rw [it_s]; exact h _ _ ih
def j_X7_leastWays_36 (D : KD) (nl : Nat) (nt : Nat) (ng : Nat) (k2 : Nat) (z2 : KD) : Int32 := (if (z2 15 11 k2) = 101 then 0 else (z2 15 4 k2))
def f_X7_leastWays_2 (D : KD) (nl : Nat) (nt : Nat) (ng : Nat) (k2 : Nat) (z2 : KD) : KD := (k_d z2 15 25 k2 (j_X7_leastWays_36 D nl nt ng k2 z2))
def l_X7_leastWays_2 (D : KD) (nl : Nat) (nt : Nat) (ng : Nat) : KD := it (f_X7_leastWays_2 D nl nt ng) nl D
def f_X7_leastWays_86 (E : KD) (nl : Nat) (nt : Nat) (ng : Nat) (k86 : Nat) (z86 : KD) : KD := (k_d z86 15 26 k86 (z86 15 25 k86))
def l_X7_leastWays_86 (E : KD) (nl : Nat) (nt : Nat) (ng : Nat) : KD := it (f_X7_leastWays_86 E nl nt ng) nl (k_d E 14 0 6 (s_X7_waysOf25 E nl nt ng))
def s_wh1 (E : KD) (nl nt ng : Nat) : KD := if E 14 0 6 = -1 ∨ s_X7_waysOf25 E nl nt ng < E 14 0 6 then l_X7_leastWays_86 E nl nt ng else E
def s_wh (nl nt ng : Nat) : Nat → KD → KD
  | 0, E => E
  | f + 1, E => if (r_next nl (s_wh1 E nl nt ng)).2 = 0 then (r_next nl (s_wh1 E nl nt ng)).1 else s_wh nl nt ng f (r_next nl (s_wh1 E nl nt ng)).1
theorem s_wh_s (nl nt ng f : Nat) (E : KD) : s_wh nl nt ng (f + 1) E = if (r_next nl (s_wh1 E nl nt ng)).2 = 0 then (r_next nl (s_wh1 E nl nt ng)).1 else s_wh nl nt ng f (r_next nl (s_wh1 E nl nt ng)).1 := rfl
theorem s_wh1_wf {E : KD} {nl nt ng : Nat} (h : mWF E nl nt ng) : mWF (s_wh1 E nl nt ng) nl nt ng := by
  unfold s_wh1
  split
  · unfold l_X7_leastWays_86
    exact it_wf _ (fun k z hz => by unfold f_X7_leastWays_86; exact hz.put15 (by decide)) _ (h.put14 (i := 0) (k := 6) (by decide))
  · exact h
theorem s_wh1_o {E : KD} {nl nt ng r i : Nat} (h1 : ¬ (r = 15 ∧ i = 26)) (h2 : r ≠ 14) : s_wh1 E nl nt ng r i = E r i := by
  unfold s_wh1
  split
  · unfold l_X7_leastWays_86
    rw [it_fix _ (fun z : KD => z r i) (fun k z => by unfold f_X7_leastWays_86; exact k_d_off z _ h1)]
    exact k_d_off E _ (fun z => h2 z.1)
  · rfl
def s_X7_leastWays (D : KD) (nl nt ng : Nat) : KD × Int32 := (s_wh nl nt ng (4 ^ nl) (k_d (l_X7_leastWays_2 D nl nt ng) 14 0 6 (-1)), s_wh nl nt ng (4 ^ nl) (k_d (l_X7_leastWays_2 D nl nt ng) 14 0 6 (-1)) 14 0 6)
theorem s_wh_wf {nl nt ng : Nat} : ∀ (f : Nat) {E : KD}, mWF E nl nt ng → mWF (s_wh nl nt ng f E) nl nt ng := by
  intro f
  induction f with
  | zero => intro E h; exact h
  | succ f ih =>
    intro E h
    rw [s_wh_s]
    split
    · exact r_next_wf _ _ (s_wh1_wf h)
    · exact ih (r_next_wf _ _ (s_wh1_wf h))
theorem f_X7_leastWays_2_wf {D E : KD} {nl nt ng k : Nat} (h : mWF E nl nt ng) : mWF (f_X7_leastWays_2 D nl nt ng k E) nl nt ng := by
  unfold f_X7_leastWays_2
  exact h.put15 (by decide)
theorem l_X7_leastWays_2_11 (D : KD) (nl nt ng : Nat) {r i : Nat} (hr : ¬ (r = 15 ∧ i = 25)) : l_X7_leastWays_2 D nl nt ng r i = D r i := by
  unfold l_X7_leastWays_2
  exact it_fix _ (fun z : KD => z r i) (fun k z => by unfold f_X7_leastWays_2; exact k_d_off z _ hr) _ _
theorem l_X7_leastWays_2_at (D : KD) (nl nt ng : Nat) : ∀ l, l < nl → l_X7_leastWays_2 D nl nt ng 15 25 l = if D 15 11 l = 101 then 0 else D 15 4 l := by
  have key : ∀ m, m ≤ nl → ∀ l, l < m → it (f_X7_leastWays_2 D nl nt ng) m D 15 25 l = if D 15 11 l = 101 then 0 else D 15 4 l := by
    intro m
    induction m with
    | zero => intro _ l hl; exact absurd hl (Nat.not_lt_zero _)
    | succ m ih =>
      intro hm l hl
      rw [it_s]
      have hv : ∀ (z : KD), z 15 11 = D 15 11 → z 15 4 = D 15 4 → f_X7_leastWays_2 D nl nt ng m z 15 25 m = if D 15 11 m = 101 then 0 else D 15 4 m := by
        intro z h1 h2
        unfold f_X7_leastWays_2 j_X7_leastWays_36
        rw [k_ds, h1, h2]
      have h11 : ∀ i, i ≠ 25 → it (f_X7_leastWays_2 D nl nt ng) m D 15 i = D 15 i := fun i hi => it_fix _ (fun z : KD => z 15 i) (fun k z => by unfold f_X7_leastWays_2; exact k_d_off z _ (fun q => hi q.2)) _ _
      by_cases q : l = m
      · subst q
        exact hv _ (h11 11 (by decide)) (h11 4 (by decide))
      · rw [← ih (by omega) l (by omega)]
        unfold f_X7_leastWays_2 k_d
        rw [if_neg (fun z => q z.2.2)]
  exact key nl (Nat.le_refl _)
theorem mDig_start (D : KD) (nl nt ng : Nat) (x : Int32) : mDig (k_d (l_X7_leastWays_2 D nl nt ng) 14 0 6 x) nl := by
  intro l hl ho
  rw [k_dr rfl] at ho ⊢
  rw [l_X7_leastWays_2_11 D nl nt ng (by decide)] at ho
  rw [l_X7_leastWays_2_at D nl nt ng l hl, if_pos ho]
  exact ⟨0, by decide, rfl⟩
theorem s_X7_leastWays_wf {D : KD} {nl nt ng : Nat} (h : mWF D nl nt ng) : mWF (s_X7_leastWays D nl nt ng).1 nl nt ng :=
  s_wh_wf _ ((it_wf _ (fun _ _ h => f_X7_leastWays_2_wf h) _ h).put14 (i := 0) (k := 6) (by decide))
def s_X7_bestDoor (D : KD) (nl : Nat) (nt : Nat) (ng : Nat) (l0 : Int32) : KD × Int32 := (if (j_X7_noLorry_20 D l0) = 0 then (if (D 15 11 (l0.toNatClampNeg)) = 101 then ((s_X7_leastWays (k_d D 14 0 0 (j_X7_noLorry_20 D l0)) nl nt ng).1, ((s_X7_leastWays (k_d D 14 0 0 (j_X7_noLorry_20 D l0)) nl nt ng).1) 15 26 (l0.toNatClampNeg)) else (k_d (k_d D 14 0 0 (j_X7_noLorry_20 D l0)) 14 0 0 2, 0)) else (k_d D 14 0 0 (j_X7_noLorry_20 D l0), 0))
def j_X7_meanWait_13 (D : KD) (nl : Nat) (nt : Nat) (ng : Nat) : Int32 := (if (D 14 0 1) = 0 then 1 else 0)
def f_X7_meanWait_29 (D : KD) (nl : Nat) (nt : Nat) (ng : Nat) (k29 : Nat) (z29 : Int32) : Int32 := (z29 + (D 15 6 k29))
def l_X7_meanWait_29 (D : KD) (nl : Nat) (nt : Nat) (ng : Nat) : Int32 := it (f_X7_meanWait_29 D nl nt ng) nl 0
def s_X7_meanWait (D : KD) (nl : Nat) (nt : Nat) (ng : Nat) : KD × UInt64 := (if (D 14 0 1) = 0 then (k_d D 14 0 0 (j_X7_meanWait_13 D nl nt ng), FP.dconst0) else (k_d D 14 0 0 (j_X7_meanWait_13 D nl nt ng), FP.ddiv (FP.i2d (l_X7_meanWait_29 D nl nt ng)) (FP.i2d (D 14 0 1))))
def f_X7_dockShare_4 (D : KD) (nl : Nat) (nt : Nat) (ng : Nat) (k4 : Nat) (z4 : Int32) : Int32 := (z4 + (D 15 6 k4))
def l_X7_dockShare_4 (D : KD) (nl : Nat) (nt : Nat) (ng : Nat) : Int32 := it (f_X7_dockShare_4 D nl nt ng) nl 0
def j_X7_dockShare_37 (D : KD) (nl : Nat) (nt : Nat) (ng : Nat) : Int32 := (if (l_X7_dockShare_4 D nl nt ng) = 0 then 1 else 0)
def j_X7_dockShare_56 (D : KD) (nl : Nat) (nt : Nat) (ng : Nat) : UInt32 := (if (l_X7_dockShare_4 D nl nt ng) = 0 then FP.fconst0 else (FP.fdiv (FP.i2f (D 14 0 5)) (FP.i2f (l_X7_dockShare_4 D nl nt ng))))
def s_X7_dockShare (D : KD) (nl : Nat) (nt : Nat) (ng : Nat) : KD × UInt32 := (k_d D 14 0 0 (j_X7_dockShare_37 D nl nt ng), (j_X7_dockShare_56 D nl nt ng))
