/-! the doors are freed, the minute ends -/
section
variable {D E x y : KD} {nl nt ng k : Nat}
theorem q_free (D1 : KD) (D : KD) : (∀ r, r ≠ 3 → it (f_X0_freeDoors_2 D1 nl nt ng) 4 D r = D r) ∧ ∀ d, d < 4 → it (f_X0_freeDoors_2 D1 nl nt ng) 4 D 3 0 d = if D 3 0 d = -1 then -1 else if D 4 (D 3 0 d).toNatClampNeg 5 = 108 then -1 else D 3 0 d := by
  have key := it_indk (f := f_X0_freeDoors_2 D1 nl nt ng) (a := D) (n := 4) (P := fun k z => (∀ r, r ≠ 3 → z r = D r) ∧ (∀ d, d < k → z 3 0 d = if D 3 0 d = -1 then -1 else if D 4 (D 3 0 d).toNatClampNeg 5 = 108 then -1 else D 3 0 d) ∧ ∀ d, k ≤ d → z 3 0 d = D 3 0 d) ⟨fun _ _ => rfl, fun d hd => absurd hd (by omega), fun _ _ => rfl⟩ (fun k hk z => by
    rintro ⟨r1, r2, r3⟩
    unfold f_X0_freeDoors_2
    rw [r3 k (by omega), r1 4 (by omega)]
    have stay : (if D 3 0 k = -1 then -1 else if D 4 (D 3 0 k).toNatClampNeg 5 = 108 then -1 else D 3 0 k) = D 3 0 k → (∀ r, r ≠ 3 → z r = D r) ∧ (∀ d, d < k + 1 → z 3 0 d = if D 3 0 d = -1 then -1 else if D 4 (D 3 0 d).toNatClampNeg 5 = 108 then -1 else D 3 0 d) ∧ ∀ d, k + 1 ≤ d → z 3 0 d = D 3 0 d := fun hs => ⟨r1, fun d hd => by
      rcases Nat.lt_or_ge d k with w | w
      · exact r2 d w
      · have : d = k := by omega
        subst this
        rw [hs]; exact r3 d (by omega), fun d hd => r3 d (by omega)⟩
    by_cases c1 : D 3 0 k = -1
    · rw [if_pos c1]; exact stay (by rw [if_pos c1, c1])
    · rw [if_neg c1]
      by_cases c2 : D 4 (D 3 0 k).toNatClampNeg 5 = 108
      · rw [if_pos c2]
        refine ⟨fun r hr => ?_, fun d hd => ?_, fun d hd => ?_⟩
        · rw [k_d_r _ hr]; exact r1 r hr
        · by_cases hdk : d = k
          · subst hdk; rw [k_ds, if_neg c1, if_pos c2]
          · rw [k_dn (by omega)]; exact r2 d (by omega)
        · rw [k_dn (by omega)]; exact r3 d (by omega)
      · rw [if_neg c2]; exact stay (by rw [if_neg c1, if_neg c2]))
  exact ⟨key.1, key.2.1⟩
theorem q_end1 (hk : k < nt) (hC : q_C x y nl nt ng) (hU : q_U y nt) (D1 E1 : KD) : q_C (f_X0_endMinute_2 D1 nl nt ng k x) (f_X7_passes_295 E1 nl nt ng k y) nl nt ng ∧ q_U (f_X7_passes_295 E1 nl nt ng k y) nt ∧ (∀ r, r ≠ 5 → r ≠ 8 → f_X0_endMinute_2 D1 nl nt ng k x r = x r) ∧ f_X7_passes_295 E1 nl nt ng k y 14 = y 14 ∧ (∀ j, j ≠ 16 → j ≠ 18 → f_X7_passes_295 E1 nl nt ng k y 15 j = y 15 j) ∧ q_fT nt y (f_X7_passes_295 E1 nl nt ng k y) := by
  have ex : f_X0_endMinute_2 D1 nl nt ng k x = k_d (k_d (k_d (k_d (k_d x 8 k 3 0) 8 k 2 (x 8 k 3)) 8 k 1 (x 8 k 2)) 8 k 0 (x 8 k 1)) 5 k 4 ((x 5 k 4) + (x 8 k 0)) := rfl
  have ey : f_X7_passes_295 E1 nl nt ng k y = k_d (k_d (k_d (k_d (k_d y 15 16 k (y 15 16 k + y 15 18 (4 * k))) 15 18 (4 * k) (y 15 18 (4 * k + 1))) 15 18 (4 * k + 1) (y 15 18 (4 * k + 2))) 15 18 (4 * k + 2) (y 15 18 (4 * k + 3))) 15 18 (4 * k + 3) 0 := by
    unfold f_X7_passes_295 l_X7_passes_322
    rw [it_s, it_s, it_s, it_0]
    unfold f_X7_passes_322
    rw [show 4 * k + 0 + 1 = 4 * k + 1 by omega, show 4 * k + 1 + 1 = 4 * k + 2 by omega, show 4 * k + 2 + 1 = 4 * k + 3 by omega, Nat.add_zero]
    have d1 : k_d y 15 16 k (y 15 16 k + y 15 18 (4 * k)) 15 18 = y 15 18 := k_d_off _ _ (by omega)
    rw [d1]
    have d2 : ∀ v, k_d (k_d y 15 16 k (y 15 16 k + y 15 18 (4 * k))) 15 18 (4 * k) v 15 18 (4 * k + 2) = y 15 18 (4 * k + 2) := fun v => by rw [k_dn (by omega), d1]
    rw [d2]
    have d3 : ∀ v v', k_d (k_d (k_d y 15 16 k (y 15 16 k + y 15 18 (4 * k))) 15 18 (4 * k) v) 15 18 (4 * k + 1) v' 15 18 (4 * k + 3) = y 15 18 (4 * k + 3) := fun v v' => by rw [k_dn (by omega), k_dn (by omega), d1]
    rw [d3]
  rw [ex, ey]
  obtain ⟨h1, h2, h3, h4, h5, h6⟩ := hC
  have s0 := h5 k hk 0 (by omega)
  have s1 := h5 k hk 1 (by omega)
  have s2 := h5 k hk 2 (by omega)
  have s3 := h5 k hk 3 (by omega)
  have r0 : x 5 k 4 = y 15 16 k := h3 k hk (4, 16) (by decide)
  rw [Nat.add_zero] at s0
  refine ⟨⟨fun l hl => ?_, fun l hl q hq => ?_, fun t ht q hq => ?_, fun g hg q hq => ?_, fun t ht j hj => ?_, ?_⟩, ?_, fun r h1 h2 => ?_, ?_, fun j h1 h2 => ?_, ?_⟩
  · rw [k_dr rfl, k_dr rfl, k_dr rfl, k_dr rfl, k_dr rfl]; exact h1 l hl
  · have := q_tL0 q hq
    rw [k_dr rfl, k_dr rfl, k_dr rfl, k_dr rfl, k_dr rfl, k_dn (by omega), k_dn (by omega), k_dn (by omega), k_dn (by omega), k_dn (by omega)]; exact h2 l hl q hq
  · have := q_tT0 q hq
    rw [k_dn (k := 4 * k + 3) (by omega), k_dn (k := 4 * k + 2) (by omega), k_dn (k := 4 * k + 1) (by omega), k_dn (k := 4 * k) (by omega)]
    by_cases hc : t = k ∧ q.1 = 4
    · have e2 : q.2 = 16 := (q_tTT (4, 16) (by decide) q hq).mp hc.2
      rw [hc.1, hc.2, e2, k_ds, k_ds, r0, s0]
    · have e2 : ¬ (t = k ∧ q.2 = 16) := fun z => hc ⟨z.1, (q_tTT (4, 16) (by decide) q hq).mpr z.2⟩
      rw [k_dn (by omega), k_dr rfl, k_dr rfl, k_dr rfl, k_dr rfl, k_dn (by omega)]; exact h3 t ht q hq
  · have := q_tG0 q hq
    rw [k_dr rfl, k_dr rfl, k_dr rfl, k_dr rfl, k_dr rfl, k_dn (by omega), k_dn (by omega), k_dn (by omega), k_dn (by omega), k_dn (by omega)]; exact h4 g hg q hq
  · rw [k_dr rfl]
    by_cases hc : t = k
    · subst hc
      rcases (by omega : j = 0 ∨ j = 1 ∨ j = 2 ∨ j = 3) with rfl | rfl | rfl | rfl
      · rw [k_ds, k_dn (k := 4 * t + 3) (by omega), k_dn (k := 4 * t + 2) (by omega), k_dn (k := 4 * t + 1) (by omega)]; exact s1.trans (k_ds (k := 4 * t)).symm
      · rw [k_dk rfl, k_ds, k_dn (k := 4 * t + 3) (by omega), k_dn (k := 4 * t + 2) (by omega), k_ds]; exact s2
      · rw [k_dk rfl, k_dk rfl, k_ds, k_dn (k := 4 * t + 3) (by omega), k_ds]; exact s3
      · rw [k_dk rfl, k_dk rfl, k_dk rfl, k_ds, k_ds]
    · rw [k_dn (by omega), k_dn (by omega), k_dn (by omega), k_dn (by omega), k_dn (by omega), k_dn (by omega), k_dn (by omega), k_dn (by omega), k_di rfl]; exact h5 t ht j hj
  · rw [k_dr rfl, k_dr rfl, k_dr rfl, k_dr rfl, k_dr rfl, k_dr rfl, k_dr rfl, k_dr rfl, k_dr rfl, k_dr rfl]; exact h6
  · obtain ⟨U, r, c, s, u1, u2, u3, v1, v2, v3, v4, v5⟩ := hU k hk
    have t0 := v5 0 (by omega)
    have t1 := v5 1 (by omega)
    have t2 := v5 2 (by omega)
    have t3 := v5 3 (by omega)
    rw [Nat.add_zero] at t0
    refine hU.one (t := k) ?_ (fun t' ht' => ⟨?_, ?_, ?_, fun k' hk' => ?_⟩) ⟨U, r + s 0, c, fun j => if j = 3 then 0 else s (j + 1), u1, u2, ?_, ?_, ?_, ?_, ?_, fun k' hk' => ?_⟩
    · rw [k_d_off _ _ (by omega), k_d_off _ _ (by omega), k_d_off _ _ (by omega), k_d_off _ _ (by omega), k_d_off _ _ (by omega)]
    · rw [k_di rfl, k_di rfl, k_di rfl, k_di rfl, k_di rfl]
    · rw [k_di rfl, k_di rfl, k_di rfl, k_di rfl, k_dn (by omega)]
    · rw [k_di rfl, k_di rfl, k_di rfl, k_di rfl, k_di rfl]
    · rw [k_dn (by omega), k_dn (by omega), k_dn (by omega), k_dn (by omega), k_di rfl]
    · simp; omega
    · rw [k_di rfl, k_di rfl, k_di rfl, k_di rfl, k_di rfl]; exact v1
    · rw [k_di rfl, k_di rfl, k_di rfl, k_di rfl, k_di rfl, v2]
      congr 1
      simp
      omega
    · rw [k_di rfl, k_di rfl, k_di rfl, k_di rfl, k_ds, v3, t0, nI_add]
    · rw [k_di rfl, k_di rfl, k_di rfl, k_di rfl, k_di rfl]; exact v4
    · rcases (by omega : k' = 0 ∨ k' = 1 ∨ k' = 2 ∨ k' = 3) with rfl | rfl | rfl | rfl
      · rw [k_dn (k := 4 * k + 3) (by omega), k_dn (k := 4 * k + 2) (by omega), k_dn (k := 4 * k + 1) (by omega)]; exact (k_ds (k := 4 * k)).trans (t1.trans rfl)
      · rw [k_dn (k := 4 * k + 3) (by omega), k_dn (k := 4 * k + 2) (by omega), k_ds, t2]; first | done | rfl
      · rw [k_dn (k := 4 * k + 3) (by omega), k_ds, t3]; first | done | rfl
      · rw [k_ds]; first | done | rfl
  · rw [k_d_r _ h1, k_d_r _ h2, k_d_r _ h2, k_d_r _ h2, k_d_r _ h2]
  · rw [k_d_r _ (by omega), k_d_r _ (by omega), k_d_r _ (by omega), k_d_r _ (by omega), k_d_r _ (by omega)]
  · rw [k_d_off _ _ (by omega), k_d_off _ _ (by omega), k_d_off _ _ (by omega), k_d_off _ _ (by omega), k_d_off _ _ (by omega)]
  · exact (((((q_fT.rfl9 nt y).put (by omega)).put (by omega)).put (by omega)).put (by omega)).put (by omega)
theorem q_end (hC : q_C D E nl nt ng) (hU : q_U E nt) (D1 E1 : KD) : q_C (it (f_X0_endMinute_2 D1 nl nt ng) nt D) (it (f_X7_passes_295 E1 nl nt ng) nt E) nl nt ng ∧ q_U (it (f_X7_passes_295 E1 nl nt ng) nt E) nt ∧ (∀ r, r ≠ 5 → r ≠ 8 → it (f_X0_endMinute_2 D1 nl nt ng) nt D r = D r) ∧ it (f_X7_passes_295 E1 nl nt ng) nt E 14 = E 14 ∧ (∀ j, j ≠ 16 → j ≠ 18 → it (f_X7_passes_295 E1 nl nt ng) nt E 15 j = E 15 j) ∧ q_fT nt E (it (f_X7_passes_295 E1 nl nt ng) nt E) := by
  refine it_sim (fun _ x y => q_C x y nl nt ng ∧ q_U y nt ∧ (∀ r, r ≠ 5 → r ≠ 8 → x r = D r) ∧ y 14 = E 14 ∧ (∀ j, j ≠ 16 → j ≠ 18 → y 15 j = E 15 j) ∧ q_fT nt E y) ⟨hC, hU, fun _ _ _ => rfl, rfl, fun _ _ _ => rfl, q_fT.rfl9 nt E⟩ (fun k hk x y => ?_)
  rintro ⟨a1, a2, a3, a4, a5, a6⟩
  obtain ⟨b1, b2, b3, b4, b5, b6⟩ := q_end1 hk a1 a2 D1 E1
  exact ⟨b1, b2, fun r h1 h2 => (b3 r h1 h2).trans (a3 r h1 h2), b4.trans a4, fun j h1 h2 => (b5 j h1 h2).trans (a5 j h1 h2), a6.tr b6⟩
end
