section
variable {E0 : KD} {nl nt ng : Nat}
theorem q_wh1o (E : KD) : s_wh1 E nl nt ng 14 0 6 = (q_stL (s_X7_waysOf25 E nl nt ng) (E 15 25) (E 14 0 6, E 15 26)).1 ∧ (∀ l, l < nl → s_wh1 E nl nt ng 15 26 l = (q_stL (s_X7_waysOf25 E nl nt ng) (E 15 25) (E 14 0 6, E 15 26)).2 l) ∧ (∀ r i, ¬ (r = 15 ∧ i = 26) → r ≠ 14 → s_wh1 E nl nt ng r i = E r i) ∧ ∀ k, k ≠ 6 → s_wh1 E nl nt ng 14 0 k = E 14 0 k := by
  refine ⟨?_, ?_, fun r i h1 h2 => s_wh1_o h1 h2, ?_⟩
  all_goals (unfold s_wh1; try unfold q_stL)
  all_goals by_cases c : E 14 0 6 = -1 ∨ s_X7_waysOf25 E nl nt ng < E 14 0 6
  · rw [if_pos c, if_pos c]
    unfold l_X7_leastWays_86
    rw [it_fix _ (fun z : KD => z 14 0 6) (fun k z => by unfold f_X7_leastWays_86; exact k_dr rfl)]
    exact k_ds
  · rw [if_neg c, if_neg c]
  · rw [if_pos c, if_pos c]
    unfold l_X7_leastWays_86
    have key := it_indk (f := f_X7_leastWays_86 E nl nt ng) (a := k_d E 14 0 6 (s_X7_waysOf25 E nl nt ng)) (n := nl) (P := fun k z => z 15 25 = E 15 25 ∧ ∀ l, l < k → z 15 26 l = E 15 25 l) ⟨by rw [k_d_r _ (by decide)], fun l hl => absurd hl (by omega)⟩ (fun k hk z => by
      rintro ⟨h1, h2⟩
      unfold f_X7_leastWays_86
      refine ⟨(k_d_off _ _ (by omega)).trans h1, fun l hl => ?_⟩
      by_cases hlk : l = k
      · rw [hlk, k_ds, h1]
      · rw [k_dn (by omega)]; exact h2 l (by omega))
    exact key.2
  · rw [if_neg c, if_neg c]
    exact fun _ _ => rfl
  · rw [if_pos c]
    intro k hk
    unfold l_X7_leastWays_86
    rw [it_fix _ (fun z : KD => z 14 0 k) (fun k z => by unfold f_X7_leastWays_86; exact k_dr rfl)]
    exact k_dn (by omega)
  · rw [if_neg c]
    exact fun _ _ => rfl
theorem q_ways25 {E : KD} {b : Nat → Int32} {o : Nat → Bool} {c : Nat} (hb : ∀ l, b l = -1 ∨ vp_in (b l) 4) (hw : mWF E0 nl nt ng) (h12 : E 15 12 = E0 15 12) (h13 : E 15 13 = E0 15 13) (h14 : E 15 14 = E0 15 14) (hP : ∀ l, l < nl → E 15 25 l = q_P o b nl c l) : s_X7_waysOf25 E nl nt ng = q_W E0 nt (q_P o b nl c) := by
  unfold s_X7_waysOf25 l_X7_waysOf25_4 q_W
  refine it_cong (fun t ht z => ?_) 0
  unfold f_X7_waysOf25_4 j_X7_waysOf25_79 j_X7_waysOf25_57
  rw [h12, h13, h14, hP _ (hw.frl ht).lt, hP _ (hw.tol ht).lt, q_far2 (q_P_in hb _ _ _) (q_P_in hb _ _ _)]
theorem q_wh {b : Nat → Int32} {o : Nat → Bool} (hb : ∀ l, b l = -1 ∨ vp_in (b l) 4) (hw : mWF E0 nl nt ng) (ho : ∀ l, l < nl → (o l = true ↔ E0 15 11 l = 101)) (f : Nat) :
    ∀ (c : Nat) (E : KD) (a : Int32 × (Nat → Int32)), c < q_Nm o nl → q_Nm o nl - c ≤ f → (∀ j, j ≠ 25 → j ≠ 26 → E 15 j = E0 15 j) → (∀ l, l < nl → E 15 25 l = q_P o b nl c l) → a.1 = E 14 0 6 → (∀ l, l < nl → a.2 l = E 15 26 l) →
      (itR (fun c a => q_stL (q_W E0 nt (q_P o b nl c)) (q_P o b nl c) a) (q_Nm o nl - c) c a).1 = s_wh nl nt ng f E 14 0 6 ∧ (∀ l, l < nl → (itR (fun c a => q_stL (q_W E0 nt (q_P o b nl c)) (q_P o b nl c) a) (q_Nm o nl - c) c a).2 l = s_wh nl nt ng f E 15 26 l) ∧ (∀ r i, ¬ (r = 15 ∧ (i = 25 ∨ i = 26)) → r ≠ 14 → s_wh nl nt ng f E r i = E r i) ∧ ∀ k, k ≠ 6 → s_wh nl nt ng f E 14 0 k = E 14 0 k := by
  induction f with
  | zero => intro c E a hc hf; exact absurd hf (by omega)
  | succ f ih =>
    intro c E a hc hf hj hP ha1 ha2
    obtain ⟨w1, w2, w3, w4⟩ := q_wh1o (nl := nl) (nt := nt) (ng := ng) E
    have eW : s_X7_waysOf25 E nl nt ng = q_W E0 nt (q_P o b nl c) := q_ways25 hb hw (hj 12 (by omega) (by omega)) (hj 13 (by omega) (by omega)) (hj 14 (by omega) (by omega)) hP
    rw [eW] at w1 w2
    have s1 : (q_stL (q_W E0 nt (q_P o b nl c)) (q_P o b nl c) a).1 = s_wh1 E nl nt ng 14 0 6 := by
      rw [w1]; unfold q_stL; rw [ha1]; split <;> first | rfl | exact ha1
    have s2 : ∀ l, l < nl → (q_stL (q_W E0 nt (q_P o b nl c)) (q_P o b nl c) a).2 l = s_wh1 E nl nt ng 15 26 l := fun l hl => by
      rw [w2 l hl]; unfold q_stL; rw [ha1]; split
      · exact (hP l hl).symm
      · exact ha2 l hl
    have e25 : s_wh1 E nl nt ng 15 25 = E 15 25 := w3 15 25 (by omega) (by omega)
    have e11 : s_wh1 E nl nt ng 15 11 = E 15 11 := w3 15 11 (by omega) (by omega)
    have nx := q_next (o := o) (b := b) nl (s_wh1 E nl nt ng) c (fun l hl => by rw [e11, hj 11 (by omega) (by omega)]; exact ho l hl) (fun l hl => by rw [e25]; exact hP l hl) hc
    obtain ⟨n1, n2⟩ := r_next_fr nl (s_wh1 E nl nt ng)
    rw [s_wh_s, show q_Nm o nl - c = (q_Nm o nl - (c + 1)) + 1 by omega]
    show (itR _ (q_Nm o nl - (c + 1)) (c + 1) (q_stL (q_W E0 nt (q_P o b nl c)) (q_P o b nl c) a)).1 = _ ∧ (∀ l, l < nl → (itR _ (q_Nm o nl - (c + 1)) (c + 1) (q_stL (q_W E0 nt (q_P o b nl c)) (q_P o b nl c) a)).2 l = _) ∧ _
    by_cases h1 : c + 1 < q_Nm o nl
    · obtain ⟨x1, x2⟩ := nx.1 h1
      rw [if_neg (by rw [x1]; decide)]
      have := ih (c + 1) (r_next nl (s_wh1 E nl nt ng)).1 (q_stL (q_W E0 nt (q_P o b nl c)) (q_P o b nl c) a) h1 (by omega) (fun j h1 h2 => by rw [n1 15 j (by omega), w3 15 j (by omega) (by omega)]; exact hj j h1 h2) x2 (by rw [n1 14 0 (by omega)]; exact s1) (fun l hl => by rw [n1 15 26 (by omega)]; exact s2 l hl)
      obtain ⟨t1, t2, t3, t4⟩ := this
      refine ⟨t1, t2, fun r i h1 h2 => ?_, fun k hk => ?_⟩
      · rw [t3 r i h1 h2, n1 r i (by omega), w3 r i (by omega) h2]
      · rw [t4 k hk, n1 14 0 (by omega), w4 k hk]
    · rw [if_pos (nx.2 h1), show q_Nm o nl - (c + 1) = 0 by omega]
      refine ⟨?_, fun l hl => ?_, fun r i h1 h2 => ?_, fun k hk => ?_⟩
      · rw [n1 14 0 (by omega)]; exact s1
      · rw [n1 15 26 (by omega)]; exact s2 l hl
      · rw [n1 r i (by omega), w3 r i (by omega) h2]
      · rw [n1 14 0 (by omega), w4 k hk]
end
