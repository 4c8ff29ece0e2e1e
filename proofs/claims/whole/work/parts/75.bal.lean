section
variable {D E : KD} {nl nt ng : Nat}
def q_cc (E : KD) (p i : Nat) : Int64 := (E 15 24 (8 * p + i)).toInt64
theorem q_owedC (h : q_V D E nl nt ng) {i : Nat} (hi : i < nl) : s_X0_owedCents D nl nt ng i = q_s64 (fun p => q_cc E p i) (nl + 1) := by
  have h8 := h.wf.l8
  unfold s_X0_owedCents l_X0_owedCents_5
  refine it_cong (fun k hk z => ?_) 0
  unfold f_X0_owedCents_5
  rw [q_cents (p := k) h hi (by omega) (by rw [Int32.sub_add_cancel])]
  rfl
theorem q_balM1 (h : q_V D E nl nt ng) : s_X0_balanceOf D nl nt ng (-1) = q_s64 (fun i => -q_cc E 0 i) nl := by
  have h8 := h.wf.l8
  have := q_balC (D := D) (nl := nl) (nt := nt) (ng := ng) (cc := q_cc E) (P := 0) (who := -1) (fun i hi => by rw [q_cents (p := 0) h hi (by omega) (by decide)]; rfl) (fun i hi => q_owedC h hi) nl (Nat.le_refl _)
  show it (f_X0_balanceOf_5 D nl nt ng (-1)) nl 0 = _
  rw [this, q_s64_cg (f := fun i => if nI i = -1 then q_s64 (fun p => q_cc E p i) (nl + 1) else 0) (g := fun _ => 0) (fun k hk => if_neg (nI_nm1 (by omega))), q_s64_z, Int64.add_zero]
theorem q_balW (h : q_V D E nl nt ng) {w : Nat} (hw : w < nl) : s_X0_balanceOf D nl nt ng (nI w) = q_s64 (fun i => -q_cc E (w + 1) i) nl + q_s64 (fun p => q_cc E p w) (nl + 1) := by
  have h8 := h.wf.l8
  have := q_balC (D := D) (nl := nl) (nt := nt) (ng := ng) (cc := q_cc E) (P := w + 1) (who := nI w) (fun i hi => by rw [q_cents (p := w + 1) h hi (by omega) (nI_1 w)]; rfl) (fun i hi => q_owedC h hi) nl (Nat.le_refl _)
  show it (f_X0_balanceOf_5 D nl nt ng (nI w)) nl 0 = _
  rw [this, q_one64 (fun i => q_s64 (fun p => q_cc E p i) (nl + 1)) w nl (by omega) (by omega), if_pos hw]
theorem q_rbM1 (n : Nat) (hn : n ≤ 8) : it (f_X7_balance_37 E nl nt ng (-1)) (n + 1) 0 = q_s64 (fun i => -q_cc E 0 i) n := by
  induction n with
  | zero =>
    rw [it_s, it_0]
    unfold f_X7_balance_37
    rw [if_pos rfl, if_pos (by decide)]
    rfl
  | succ n ih =>
    rw [it_s, ih (by omega), q_s64_s]
    unfold f_X7_balance_37
    rw [if_pos rfl, nI_pred, if_neg (nI_nm1 (by omega)), q_subN]
    have e : ((8 : Int32) * (-1 + 1) + nI n).toNatClampNeg = 8 * 0 + n := by
      rw [show (8 : Int32) * (-1 + 1) = nI 0 from by decide, nI_add, nI_clamp (by omega)]
    rw [e]
    rfl
theorem q_rbW (w : Nat) (hw : w < 8) (n : Nat) (hn : n ≤ 8) : it (f_X7_balance_37 E nl nt ng (nI w)) (n + 1) 0 = q_s64 (fun i => -q_cc E (w + 1) i) n + q_s64 (fun p => q_cc E p w) (n + 1) := by
  have ek : ∀ k, k ≤ 8 → ((8 : Int32) * ((nI k - 1) + 1) + nI w).toNatClampNeg = 8 * k + w := fun k hk => by
    rw [Int32.sub_add_cancel, show (8 : Int32) = nI 8 from rfl, pk_mul, nI_add, nI_clamp (by omega)]
  induction n with
  | zero =>
    rw [it_s, it_0]
    unfold f_X7_balance_37
    rw [if_neg (nI_nm1 (by omega)), if_pos (by decide), ek 0 (by omega), q_s64_s, q_s64_0, q_s64_0, Int64.zero_add, Int64.zero_add, Int64.zero_add]
    rfl
  | succ n ih =>
    rw [it_s, ih (by omega), q_s64_s _ n, q_s64_s _ (n + 1)]
    unfold f_X7_balance_37
    rw [if_neg (nI_nm1 (by omega)), if_neg (by rw [nI_pred]; exact nI_nm1 (by omega)), ek (n + 1) (by omega), q_subN]
    have e : ((8 : Int32) * (nI w + 1) + (nI (n + 1) - 1)).toNatClampNeg = 8 * (w + 1) + n := by
      rw [nI_pred, nI_1, show (8 : Int32) = nI 8 from rfl, pk_mul, nI_add, nI_clamp (by omega)]
    rw [e]
    show q_s64 _ n + q_s64 _ (n + 1) + q_cc E (n + 1) w + -q_cc E (w + 1) n = _
    rw [Int64.add_assoc (q_s64 _ n), Int64.add_assoc (q_s64 _ n), Int64.add_comm _ (-q_cc E (w + 1) n), ← Int64.add_assoc (q_s64 _ n)]
    rfl
theorem q_aBal (h : q_V D E nl nt ng) (who : Int32) : q_qst D E nl nt ng (s_x_balance D nl nt ng who) (s_X0_balanceOf D nl nt ng who) (s_X7_balance E nl nt ng who) := by
  have h8 := h.wf.l8
  unfold s_x_balance s_x_requireDebtor s_X7_balance j_X7_balance_20 l_X7_balance_37
  rw [h.wf.l, q_isM (by omega)]
  by_cases c1 : who = -1
  · simp only [if_pos c1]
    rw [if_neg (by decide : ¬ (1 : Int32) = 0)]
    simp only [if_true]
    refine ⟨(k_ds : k_d E 14 0 0 0 14 0 0 = 0), h.thr 0, fun _ => ?_⟩
    show it (f_X7_balance_37 E nl nt ng who) (nl + 1) 0 = _
    rw [c1, q_rbM1 nl h8, q_balM1 h]
  · simp only [if_neg c1]
    by_cases c2 : who < 0 ∨ nl ≤ who.toNatClampNeg
    · simp only [if_pos c2, if_true]
      rw [if_neg (by decide : ¬ (1 : Int32) = 0), if_neg (by decide : ¬ (1 : Int32) = 0)]
      exact ⟨(k_ds : k_d E 14 0 0 1 14 0 0 = 1), h.thr 1, fun q => absurd q (by decide)⟩
    · obtain ⟨w, hw, rfl⟩ := vp_in_of (q_inOf c2) (by omega)
      simp only [if_neg c2, if_true]
      rw [if_neg (by decide : ¬ (1 : Int32) = 0)]
      simp only [if_true]
      refine ⟨(k_ds : k_d E 14 0 0 0 14 0 0 = 0), h.thr 0, fun _ => ?_⟩
      show it (f_X7_balance_37 E nl nt ng (nI w)) (nl + 1) 0 = _
      rw [q_rbW w (by omega) nl h8, q_balW h hw]
/-- all balances make 0 -/
theorem q_bal0 (h : q_V D E nl nt ng) : it (f_sound D nl nt ng) nl (s_X0_balanceOf D nl nt ng (-1)) = 0 := by
  have e1 : ∀ (n : Nat) (z : Int64), it (f_sound D nl nt ng) n z = z + q_s64 (fun k => s_X0_balanceOf D nl nt ng (nI k)) n := by
    intro n z
    induction n with
    | zero => exact (Int64.add_zero z).symm
    | succ n ih => rw [it_s, ih, q_s64_s, ← Int64.add_assoc]; rfl
  rw [e1, q_balM1 h, q_s64_cg (fun k hk => q_balW h hk), q_s64_p]
  rw [q_s64_cg (f := fun k => q_s64 (fun p => q_cc E p k) (nl + 1)) (fun k _ => q_s64_f (fun p => q_cc E p k) nl), q_s64_p, q_s64_sw (fun p k => q_cc E (p + 1) k) nl nl, ← Int64.add_assoc, q_a4, q_s64_n, ← q_s64_p]
  rw [q_s64_cg (g := fun _ => 0) (fun k _ => q_s64_n (fun i => q_cc E (k + 1) i) nl), q_s64_z]
  rfl
theorem q_hsum (h : q_V D E nl nt ng) : ∀ i, i < nl → D 4 i 8 = D 4 i 9 + s_X3_owedMinutes D i := fun i hi => h.2.2.2.1.2.2 i hi
end
