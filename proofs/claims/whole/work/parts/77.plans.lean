/-! plans, numbered -/
def q_P (o : Nat → Bool) (b : Nat → Int32) : Nat → Nat → Nat → Int32
  | 0, _, l => b l
  | j + 1, c, l => if l = j then (if o j = true then nI (c % 4) else b j) else q_P o b j (if o j = true then c / 4 else c) l
def q_Nm (o : Nat → Bool) : Nat → Nat
  | 0 => 1
  | j + 1 => if o j = true then 4 * q_Nm o j else q_Nm o j
theorem q_P_s (o : Nat → Bool) (b : Nat → Int32) (j c l : Nat) : q_P o b (j + 1) c l = if l = j then (if o j = true then nI (c % 4) else b j) else q_P o b j (if o j = true then c / 4 else c) l := rfl
theorem q_Nm_s (o : Nat → Bool) (j : Nat) : q_Nm o (j + 1) = if o j = true then 4 * q_Nm o j else q_Nm o j := rfl
theorem q_Nm_le (o : Nat → Bool) (j : Nat) : 0 < q_Nm o j ∧ q_Nm o j ≤ 4 ^ j := by
  induction j with
  | zero => exact ⟨Nat.one_pos, Nat.le_refl 1⟩
  | succ j ih =>
    rw [q_Nm_s, Nat.pow_succ]
    split <;> omega
theorem q_P_in {o : Nat → Bool} {b : Nat → Int32} (hb : ∀ l, b l = -1 ∨ vp_in (b l) 4) : ∀ j c l, q_P o b j c l = -1 ∨ vp_in (q_P o b j c l) 4 := by
  intro j
  induction j with
  | zero => intro c l; exact hb l
  | succ j ih =>
    intro c l
    rw [q_P_s]
    split
    · split
      · exact Or.inr (vp_in_nI (Nat.mod_lt _ (by omega)) (by omega))
      · exact hb j
    · exact ih _ l
theorem r_next_fr (j : Nat) : ∀ E : KD, (∀ r i, ¬ (r = 15 ∧ i = 25) → (r_next j E).1 r i = E r i) ∧ ∀ l, j ≤ l → (r_next j E).1 15 25 l = E 15 25 l := by
  induction j with
  | zero => intro E; exact ⟨fun _ _ _ => rfl, fun _ _ => rfl⟩
  | succ j ih =>
    intro E
    rw [r_next_s]
    split
    · split
      · exact ⟨fun r i h => k_d_off _ _ h, fun l hl => k_dn (by omega)⟩
      · obtain ⟨i1, i2⟩ := ih (k_d (k_d E 15 25 j (E 15 25 j + 1)) 15 25 j 0)
        refine ⟨fun r i h => ?_, fun l hl => ?_⟩
        · rw [i1 r i h, k_d_off _ _ h, k_d_off _ _ h]
        · rw [i2 l (by omega), k_dn (by omega), k_dn (by omega)]
    · obtain ⟨i1, i2⟩ := ih E
      exact ⟨i1, fun l hl => i2 l (by omega)⟩
theorem q_next {o : Nat → Bool} {b : Nat → Int32} (j : Nat) : ∀ (E : KD) (c : Nat), (∀ l, l < j → (o l = true ↔ E 15 11 l = 101)) → (∀ l, l < j → E 15 25 l = q_P o b j c l) → c < q_Nm o j →
    (c + 1 < q_Nm o j → (r_next j E).2 = 1 ∧ ∀ l, l < j → (r_next j E).1 15 25 l = q_P o b j (c + 1) l) ∧ (¬ c + 1 < q_Nm o j → (r_next j E).2 = 0) := by
  induction j with
  | zero =>
    intro E c _ _ hc
    have hc' : c < 1 := hc
    exact ⟨fun h => absurd (show c + 1 < 1 from h) (by omega), fun _ => rfl⟩
  | succ j ih =>
    intro E c ho hP hc
    rw [r_next_s]
    rw [q_Nm_s] at hc ⊢
    have hj := hP j (by omega)
    rw [q_P_s, if_pos rfl] at hj
    by_cases c1 : o j = true
    · rw [if_pos c1] at hc hj ⊢
      rw [if_pos ((ho j (by omega)).mp c1)]
      have hm : c % 4 < 4 := Nat.mod_lt _ (by omega)
      by_cases c2 : c % 4 + 1 < 4
      · rw [if_pos ((k_next_step hm hj).mpr c2)]
        refine ⟨fun _ => ⟨rfl, fun l hl => ?_⟩, fun q => absurd (show c + 1 < 4 * q_Nm o j by omega) q⟩
        show k_d E 15 25 j (E 15 25 j + 1) 15 25 l = _
        rw [q_P_s]
        by_cases hlj : l = j
        · rw [if_pos hlj, hlj, k_ds, if_pos c1, hj, nI_1, show (c + 1) % 4 = c % 4 + 1 by omega]
        · rw [if_neg hlj, k_dn (by omega), hP l hl, q_P_s, if_neg hlj, if_pos c1, if_pos c1, show (c + 1) / 4 = c / 4 by omega]
      · rw [if_neg (mt (k_next_step hm hj).mp c2)]
        have ih' := ih (k_d (k_d E 15 25 j (E 15 25 j + 1)) 15 25 j 0) (c / 4) (fun l hl => by rw [k_di rfl, k_di rfl]; exact ho l (by omega)) (fun l hl => by
          rw [k_dn (by omega), k_dn (by omega), hP l (by omega), q_P_s, if_neg (by omega), if_pos c1]) (by omega)
        refine ⟨fun h => ?_, fun h => ih'.2 (by omega)⟩
        obtain ⟨i1, i2⟩ := ih'.1 (by omega)
        refine ⟨i1, fun l hl => ?_⟩
        rw [q_P_s]
        by_cases hlj : l = j
        · rw [if_pos hlj, hlj, (r_next_fr j _).2 j (Nat.le_refl _), k_ds, if_pos c1, show (c + 1) % 4 = 0 by omega]
          rfl
        · rw [if_neg hlj, i2 l (by omega), if_pos c1, show (c + 1) / 4 = c / 4 + 1 by omega]
    · rw [if_neg c1] at hc hj ⊢
      rw [if_neg (mt (ho j (by omega)).mpr c1)]
      have ih' := ih E c (fun l hl => ho l (by omega)) (fun l hl => by rw [hP l (by omega), q_P_s, if_neg (by omega), if_neg c1]) hc
      refine ⟨fun h => ?_, ih'.2⟩
      obtain ⟨i1, i2⟩ := ih'.1 h
      refine ⟨i1, fun l hl => ?_⟩
      rw [q_P_s]
      by_cases hlj : l = j
      · rw [if_pos hlj, hlj, (r_next_fr j _).2 j (Nat.le_refl _), if_neg c1]; exact hj
      · rw [if_neg hlj, if_neg c1]; exact i2 l (by omega)
/-- the least so far and its plan -/
def q_stL (w : Int32) (v : Nat → Int32) (a : Int32 × (Nat → Int32)) : Int32 × (Nat → Int32) := if a.1 = -1 ∨ w < a.1 then (w, v) else a
def q_W (E : KD) (nt : Nat) (v : Nat → Int32) : Int32 := it (fun t z => z + E 15 14 t * s_X6_difference (v (E 15 12 t).toNatClampNeg) (v (E 15 13 t).toNatClampNeg)) nt 0
