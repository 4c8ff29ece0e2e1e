section
variable {D E : KD} {nl nt ng : Nat}
theorem q_aMean (h : q_V D E nl nt ng) : q_qst D E nl nt ng (s_x_meanWait D nl nt ng) (FP.ddiv (FP.i2d (s_X0_minutesWaited D nl nt ng)) (FP.i2d (nI nl))) (s_X7_meanWait E nl nt ng) := by
  unfold s_x_meanWait s_X7_meanWait j_X7_meanWait_13
  rw [h.wf.l]
  by_cases c : nI nl = 0
  · simp only [if_pos c]
    exact ⟨(k_ds : k_d E 14 0 0 1 14 0 0 = 1), h.thr 1, fun q => absurd q (by decide)⟩
  · simp only [if_neg c]
    refine ⟨(k_ds : k_d E 14 0 0 0 14 0 0 = 0), h.thr 0, fun _ => ?_⟩
    rw [q_sumW h]
    rfl
theorem q_aShare (h : q_V D E nl nt ng) : q_qst D E nl nt ng (s_x_dockShare D nl nt ng) (FP.fdiv (FP.i2f (s_X0_minutesOfTheDock D nl nt ng)) (FP.i2f (s_X0_minutesWaited D nl nt ng))) (s_X7_dockShare E nl nt ng) := by
  have e : l_X7_dockShare_4 E nl nt ng = s_X0_minutesWaited D nl nt ng := (q_sumW h).symm
  unfold s_x_dockShare s_X7_dockShare j_X7_dockShare_37 j_X7_dockShare_56
  rw [e, q_sumD h]
  by_cases c : s_X0_minutesWaited D nl nt ng = 0
  · simp only [if_pos c]
    exact ⟨(k_ds : k_d E 14 0 0 1 14 0 0 = 1), h.thr 1, fun q => absurd q (by decide)⟩
  · simp only [if_neg c]
    exact ⟨(k_ds : k_d E 14 0 0 0 14 0 0 = 0), h.thr 0, fun _ => rfl⟩
end
/-! balances -/
def q_s64 (f : Nat → Int64) (n : Nat) : Int64 := it (fun k z => z + f k) n 0
theorem q_s64_s (f : Nat → Int64) (n : Nat) : q_s64 f (n + 1) = q_s64 f n + f n := rfl
theorem q_s64_0 (f : Nat → Int64) : q_s64 f 0 = 0 := rfl
theorem q_s64_cg {f g : Nat → Int64} {n : Nat} (h : ∀ k, k < n → f k = g k) : q_s64 f n = q_s64 g n := it_cong (fun k hk z => by rw [h k hk]) 0
theorem q_a4 (a b c d : Int64) : a + b + (c + d) = a + c + (b + d) := by
  rw [Int64.add_assoc, Int64.add_assoc, ← Int64.add_assoc b, ← Int64.add_assoc c, Int64.add_comm b c]
theorem q_s64_p (f g : Nat → Int64) (n : Nat) : q_s64 (fun k => f k + g k) n = q_s64 f n + q_s64 g n := by
  induction n with
  | zero => exact (Int64.add_zero 0).symm
  | succ n ih => rw [q_s64_s, q_s64_s, q_s64_s, ih, q_a4]
theorem q_s64_z (n : Nat) : q_s64 (fun _ => 0) n = 0 := by
  induction n with
  | zero => rfl
  | succ n ih => rw [q_s64_s, ih]; rfl
theorem q_s64_n (f : Nat → Int64) (n : Nat) : q_s64 (fun k => -f k) n + q_s64 f n = 0 := by
  rw [← q_s64_p]
  rw [q_s64_cg (g := fun _ => 0) (fun k _ => Int64.add_left_neg (f k)), q_s64_z]
theorem q_s64_sw (f : Nat → Nat → Int64) (n m : Nat) : q_s64 (fun l => q_s64 (fun d => f d l) m) n = q_s64 (fun d => q_s64 (fun l => f d l) n) m := by
  induction n with
  | zero => exact (q_s64_z m).symm
  | succ n ih =>
    rw [q_s64_s, ih, ← q_s64_p]
    rfl
/-- the first one told apart -/
theorem q_s64_f (f : Nat → Int64) (n : Nat) : q_s64 f (n + 1) = f 0 + q_s64 (fun k => f (k + 1)) n := by
  induction n with
  | zero => show 0 + f 0 = f 0 + 0; rw [Int64.add_comm]
  | succ n ih => rw [q_s64_s, ih, q_s64_s, Int64.add_assoc]
section
variable {D E : KD} {nl nt ng : Nat}
theorem q_subN (z a : Int64) : z - a = z + -a := Int64.sub_eq_add_neg z a
/-- the class's balance, as a sum: cc p i the cents that the debtor p - 1 owes to i -/
theorem q_balC {cc : Nat → Nat → Int64} {P : Nat} {who : Int32} (h1 : ∀ i, i < nl → (s_X3_centsFrom D i who).toInt64 = cc P i) (h2 : ∀ i, i < nl → s_X0_owedCents D nl nt ng i = q_s64 (fun p => cc p i) (nl + 1)) (n : Nat) (hn : n ≤ nl) :
    it (f_X0_balanceOf_5 D nl nt ng who) n 0 = q_s64 (fun i => -cc P i) n + q_s64 (fun i => if nI i = who then q_s64 (fun p => cc p i) (nl + 1) else 0) n := by
  induction n with
  | zero => exact (Int64.add_zero 0).symm
  | succ n ih =>
    rw [it_s, ih (by omega), q_s64_s, q_s64_s]
    unfold f_X0_balanceOf_5
    rw [h1 n (by omega), h2 n (by omega)]
    by_cases c : nI n = who
    · rw [if_pos c, if_pos c, q_subN, Int64.add_assoc, q_a4]
    · rw [if_neg c, if_neg c, q_subN, Int64.add_zero, Int64.add_assoc, Int64.add_assoc, Int64.add_comm (-cc P n)]
theorem q_one64 (f : Nat → Int64) (w n : Nat) (hn : n < 2 ^ 31) (hw : w < 2 ^ 31) : q_s64 (fun i => if nI i = nI w then f i else 0) n = if w < n then f w else 0 := by
  induction n with
  | zero => rfl
  | succ n ih =>
    rw [q_s64_s, ih (by omega)]
    by_cases c : n = w
    · subst c
      rw [if_neg (by omega), if_pos rfl, if_pos (by omega), Int64.zero_add]
    · rw [if_neg (fun q => c ((nI_eq (by omega) hw).mp q)), Int64.add_zero]
      by_cases c2 : w < n
      · rw [if_pos c2, if_pos (by omega)]
      · rw [if_neg c2, if_neg (by omega)]
end
