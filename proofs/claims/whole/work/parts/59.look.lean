/-! who owes: the doors are looked at -/
section
variable {D E : KD} {nl nt ng : Nat}
theorem q_powC {E y : KD} (h14 : y 14 0 4 = E 14 0 4) (h19 : y 15 19 = E 15 19) (h20 : y 15 20 = E 15 20) (h21 : y 15 21 = E 15 21) (h22 : y 15 22 = E 15 22) (d : Int32) : s_X7_powerOf y nl nt ng d = s_X7_powerOf E nl nt ng d := by
  unfold s_X7_powerOf l_X7_powerOf_4 f_X7_powerOf_4 j_X7_powerOf_57
  rw [h14, h19, h20, h21, h22]
theorem q_oadC {E y : KD} (h14 : y 14 0 4 = E 14 0 4) (h19 : y 15 19 = E 15 19) (h20 : y 15 20 = E 15 20) (h21 : y 15 21 = E 15 21) (h22 : y 15 22 = E 15 22) (h4 : y 15 4 = E 15 4) (h0 : y 15 0 = E 15 0) (h13 : y 15 13 = E 15 13) (h15 : y 15 15 = E 15 15) (hu : y 15 14 = E 15 14) (h12 : y 15 12 = E 15 12) (h11 : y 15 11 = E 15 11) (h2 : y 15 2 = E 15 2) (l : Int32) : s_X7_owesAtDoor y nl nt ng l = s_X7_owesAtDoor E nl nt ng l := by
  have key : ∀ f k, r_X7_owesAtDoor_26 y nl nt ng l f k = r_X7_owesAtDoor_26 E nl nt ng l f k := by
    intro f
    induction f with
    | zero => intro k; rfl
    | succ f ih =>
      intro k
      rw [r_X7_owesAtDoor_26_s, r_X7_owesAtDoor_26_s, ih, h13, h15, hu, h12, h11, h2, h14]
  unfold s_X7_owesAtDoor
  rw [key, q_powC h14 h19 h20 h21 h22, h4, h0]
theorem q_look (hw : mWF E nl nt ng) (hC : q_C D E nl nt ng) (hG : q_G E ng) (hm : q_m E) (hU : q_U E nt) (hD : ∀ d, d < 4 → D 3 0 d = -1 ∨ ∃ i, i < nl ∧ D 3 0 d = nI i ∧ E 15 4 i = nI d) (D1 : KD) :
    let z := it (f_X0_lookAtDoors_2 D1 nl nt ng) 4 D
    (∀ r, r ≠ 4 → z r = D r) ∧ (∀ l k, k ≠ 13 → z 4 l k = D 4 l k) ∧ q_C z E nl nt ng ∧ ∀ d, d < 4 → ∀ i, D 3 0 d = nI i → i < nl → z 4 i 13 = s_X7_owesAtDoor E nl nt ng (nI i) := by
  have h8 := hw.l8
  refine it_indk (f := f_X0_lookAtDoors_2 D1 nl nt ng) (a := D) (n := 4) (P := fun k z => (∀ r, r ≠ 4 → z r = D r) ∧ (∀ l k, k ≠ 13 → z 4 l k = D 4 l k) ∧ q_C z E nl nt ng ∧ ∀ d, d < k → ∀ i, D 3 0 d = nI i → i < nl → z 4 i 13 = s_X7_owesAtDoor E nl nt ng (nI i)) ⟨fun _ _ => rfl, fun _ _ _ => rfl, hC, fun d hd => absurd hd (by omega)⟩ (fun k hk z => ?_)
  rintro ⟨rr, rk, rC, rd⟩
  unfold f_X0_lookAtDoors_2
  rw [rr 3 (by omega)]
  rcases hD k hk with c1 | ⟨i, hi, ei, hdo⟩
  · rw [if_pos c1]
    refine ⟨rr, rk, rC, fun d hd i hx hi => ?_⟩
    rcases Nat.lt_or_ge d k with w | w
    · exact rd d w i hx hi
    · have : d = k := by omega
      subst this
      exact absurd (hx.symm.trans c1) (nI_nm1 (by omega))
  · rw [if_neg (by rw [ei]; exact nI_nm1 (by omega)), ei, nI_clamp (by omega), q_dat rC hU hw hi (by rw [hdo]; exact q_pow rC hG hm (nI k))]
    refine ⟨fun r hr => ?_, fun l k' hk' => ?_, rC.offD (Or.inr (Or.inr ⟨rfl, by omega⟩)), fun d hd i' hx hi' => ?_⟩
    · rw [k_d_r _ hr]; exact rr r hr
    · rw [k_dn (by omega)]; exact rk l k' hk'
    · by_cases hii : i' = i
      · rw [hii, k_ds]
      · rw [k_dn (by omega)]
        rcases Nat.lt_or_ge d k with w | w
        · exact rd d w i' hx hi'
        · have : d = k := by omega
          subst this
          exact absurd ((nI_eq (by omega) (by omega)).mp (hx.symm.trans ei)) hii
/-- what both say of who owes the minute -/
theorem q_owe (hw : mWF E nl nt ng) (hC : q_C D E nl nt ng) (hH : q_H E D E nl) {i : Nat} (hi : i < nl) (hs : E 15 11 i = 121 ∨ E 15 11 i = 100)
    (hA : E 15 11 i = 121 → ∃ a, a < nl ∧ D 3 0 (E 15 4 i).toNatClampNeg = nI a ∧ E 15 25 (E 15 4 i).toNatClampNeg = nI a ∧ D 4 a 13 = s_X7_owesAtDoor E nl nt ng (nI a)) (hB : E 15 11 i = 100 → D 4 i 13 = s_X7_owesAtDoor E nl nt ng (nI i)) :
    s_X0_debtorOf D i = s_X7_owes E nl nt ng (nI i) (j_X7_passes_284 D nl nt ng i E) := by
  have h8 := hw.l8
  unfold s_X0_debtorOf s_X3_waitsOnItsOwn j_X3_waitsOnItsOwn_24 s_X7_owes j_X7_owes_33 j_X7_passes_284
  rw [nI_clamp (by omega), hC.now, hC.l1 hi, hC.l2 hi, hC.l4 hi, hC.l5 hi, hC.l8 hi]
  by_cases c1 : E 14 0 4 < E 15 2 i
  · rw [if_pos c1, if_pos c1, if_neg (by decide)]
  · rw [if_neg c1, if_neg c1]
    by_cases c2 : E 15 6 i ≥ (if E 15 0 i = 0 then 5 else 0)
    · rw [if_pos c2, if_pos c2, if_pos rfl]
      by_cases c3 : E 15 11 i = 100
      · rw [if_pos c3, if_pos c3]
        exact hB c3
      · have c4 : E 15 11 i = 121 := hs.resolve_right c3
        obtain ⟨a, ha, a1, a2, a3⟩ := hA c4
        rw [if_neg c3, if_neg c3, if_pos c4, a2, nI_clamp (by omega)]
        have hst : s_X0_standingAt D (E 15 4 i) = nI a := by
          obtain ⟨d, hd, ed⟩ := vp_in_of (hw.sdr hi hs) (by omega)
          rw [ed, nI_clamp (by omega)] at a1
          unfold s_X0_standingAt
          rw [ed, if_neg (nI_pos (by omega)), if_neg (show ¬ nI d ≥ 4 from fun q => absurd ((nI_leI (a := 4) (b := d) (by omega) (by omega)).mp q) (by omega)), nI_clamp (by omega), a1, if_neg (nI_nm1 (by omega))]
        rw [hst, if_neg (nI_nm1 (by omega)), nI_clamp (by omega)]
        unfold s_X0_debtorBehind
        rw [hH a ha (Or.inr (Or.inr ⟨_, (hw.sdr hi hs).lt, a2⟩)), a3, hC.n ha, hC.l6 ha, hC.l2 ha]
    · rw [if_neg c2, if_neg c2, if_neg (by decide)]
end
/-! minutes waited, their cents -/
def q_M (D E : KD) (nl : Nat) : Prop := (∀ l, l < nl → ∀ p, p < 9 → E 15 24 (8 * p + l) = D 7 l p * D 4 l 3) ∧ E 14 0 5 = it (fun k z => z + D 7 k 0) nl 0 ∧ ∀ l, l < nl → D 4 l 8 = D 4 l 9 + it (fun k z => z + D 7 l k) 9 0
theorem q_sum1 (f g : Nat → Int32) (i n : Nat) (hg : ∀ k, k ≠ i → g k = f k) (hi : g i = f i + 1) : it (fun k z => z + g k) n (0 : Int32) = if i < n then it (fun k z => z + f k) n 0 + 1 else it (fun k z => z + f k) n 0 := by
  induction n with
  | zero => rfl
  | succ n ih =>
    rw [it_s, it_s, ih]
    by_cases c1 : i < n
    · rw [if_pos c1, if_pos (by omega), hg n (by omega), Int32.add_assoc, Int32.add_assoc, Int32.add_comm 1]
    · by_cases c2 : i = n
      · subst c2
        rw [if_neg c1, if_pos (by omega), hi, Int32.add_assoc]
      · rw [if_neg c1, if_neg (by omega), hg n (by omega)]
