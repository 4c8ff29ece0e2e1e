/-! the reference's plans, one after the other -/
def r_next : Nat → KD → KD × Int32
  | 0, D => (D, 0)
  | j + 1, D => if D 15 11 j = 101 then (if D 15 25 j + 1 < 4 then (k_d D 15 25 j (D 15 25 j + 1), 1) else r_next j (k_d (k_d D 15 25 j (D 15 25 j + 1)) 15 25 j 0)) else r_next j D
theorem r_next_s (j : Nat) (D : KD) : r_next (j + 1) D = if D 15 11 j = 101 then (if D 15 25 j + 1 < 4 then (k_d D 15 25 j (D 15 25 j + 1), 1) else r_next j (k_d (k_d D 15 25 j (D 15 25 j + 1)) 15 25 j 0)) else r_next j D := rfl
theorem r_next_wf {nl nt ng : Nat} : ∀ (j : Nat) (D : KD), mWF D nl nt ng → mWF (r_next j D).1 nl nt ng := by
  intro j
  induction j with
  | zero => intro D h; exact h
  | succ j ih =>
    intro D h
    rw [r_next_s]
    split
    · split
      · exact h.put15 (by decide)
      · exact ih _ ((h.put15 (by decide)).put15 (by decide))
    · exact ih _ h
theorem r_next_o {r i : Nat} (hr : ¬ (r = 15 ∧ i = 25)) : ∀ (j : Nat) (D : KD), (r_next j D).1 r i = D r i := by
  intro j
  induction j with
  | zero => intro D; rfl
  | succ j ih =>
    intro D
    rw [r_next_s]
    split
    · split
      · exact k_d_off D _ hr
      · rw [ih, k_d_off _ _ hr, k_d_off _ _ hr]
    · exact ih _
/-- the digits of a plan lie in their bounds -/
def mDig (D : KD) (nl : Nat) : Prop := ∀ l, l < nl → D 15 11 l = 101 → ∃ a : Nat, a < 4 ∧ D 15 25 l = nI a
theorem k_next_step {E : KD} {j : Nat} {a : Nat} (ha : a < 4) (h : E 15 25 j = nI a) : (E 15 25 j + 1 < 4) ↔ a + 1 < 4 := by
  rw [h, nI_1]
  exact nI_ltI (a := a + 1) (b := 4) (by omega) (by decide)
theorem r_next_dig {nl : Nat} : ∀ (j : Nat) (D : KD), j ≤ nl → mDig D nl → mDig (r_next j D).1 nl := by
  intro j
  induction j with
  | zero => intro D _ h; exact h
  | succ j ih =>
    intro D hj h
    have hput : ∀ (E : KD) (a : Nat), a < 4 → mDig E nl → mDig (k_d E 15 25 j (nI a)) nl := by
      intro E a ha hE l hl ho
      rw [k_di rfl] at ho
      by_cases q : l = j
      · subst q; exact ⟨a, ha, k_ds⟩
      · obtain ⟨b, hb, e⟩ := hE l hl ho
        refine ⟨b, hb, ?_⟩
        unfold k_d
        rw [if_neg (fun z => q z.2.2)]
        exact e
    rw [r_next_s]
    split
    · rename_i ho
      obtain ⟨a, ha, e⟩ := h j (by omega) ho
      split
      · rename_i hlt
        have h4 := (k_next_step ha e).mp hlt
        rw [e, nI_1]
        exact hput D (a + 1) h4 h
      · have e2 : k_d (k_d D 15 25 j (D 15 25 j + 1)) 15 25 j 0 = k_d D 15 25 j (nI 0) := by
          funext r i k
          unfold k_d
          split <;> first | rfl | (rename_i q; rw [if_neg q])
        rw [e2]
        exact ih _ (by omega) (hput D 0 (by decide) h)
    · exact ih _ (by omega) h
/-- how many plans are still to come -/
def mRk (D : KD) : Nat → Nat
  | 0 => 0
  | j + 1 => if D 15 11 j = 101 then 4 * mRk D j + (3 - (D 15 25 j).toNatClampNeg) else mRk D j
theorem mRk_put {D : KD} {j : Nat} {x : Int32} : ∀ k, k ≤ j → mRk (k_d D 15 25 j x) k = mRk D k := by
  intro k
  induction k with
  | zero => intro _; rfl
  | succ k ih =>
    intro hk
    have e1 : k_d D 15 25 j x 15 11 k = D 15 11 k := k_di rfl
    have e2 : k_d D 15 25 j x 15 25 k = D 15 25 k := by unfold k_d; rw [if_neg (fun z => by have := z.2.2; omega)]
    show (if k_d D 15 25 j x 15 11 k = 101 then 4 * mRk (k_d D 15 25 j x) k + (3 - (k_d D 15 25 j x 15 25 k).toNatClampNeg) else mRk (k_d D 15 25 j x) k) = _
    rw [e1, e2, ih (by omega)]
    rfl
theorem r_next_rk_o : ∀ (j : Nat) (D : KD) (k : Nat), j ≤ k → (r_next j D).1 15 25 k = D 15 25 k := by
  intro j
  induction j with
  | zero => intro D k _; rfl
  | succ j ih =>
    intro D k hk
    have e : ∀ (E : KD) (x : Int32), k_d E 15 25 j x 15 25 k = E 15 25 k := fun E x => by unfold k_d; rw [if_neg (fun z => by have := z.2.2; omega)]
    rw [r_next_s]
    split
    · split
      · exact e D _
      · rw [ih _ k (by omega), e, e]
    · exact ih _ k (by omega)
theorem r_next_rk {nl : Nat} : ∀ (j : Nat) (D : KD), j ≤ nl → mDig D nl → (r_next j D).2 ≠ 0 → mRk (r_next j D).1 j + 1 = mRk D j := by
  intro j
  induction j with
  | zero => intro D _ _ h; exact absurd rfl h
  | succ j ih =>
    intro D hj hd hne
    rw [r_next_s] at hne ⊢
    by_cases ho : D 15 11 j = 101
    · rw [if_pos ho] at hne ⊢
      obtain ⟨a, ha, e⟩ := hd j (by omega) ho
      have hlt := k_next_step ha e
      by_cases h4 : D 15 25 j + 1 < 4
      · rw [if_pos h4]
        have h5 := hlt.mp h4
        show (if k_d D 15 25 j (D 15 25 j + 1) 15 11 j = 101 then 4 * mRk (k_d D 15 25 j (D 15 25 j + 1)) j + (3 - (k_d D 15 25 j (D 15 25 j + 1) 15 25 j).toNatClampNeg) else mRk (k_d D 15 25 j (D 15 25 j + 1)) j) + 1 = (if D 15 11 j = 101 then 4 * mRk D j + (3 - (D 15 25 j).toNatClampNeg) else mRk D j)
        rw [k_di rfl, if_pos ho, if_pos ho, mRk_put j (Nat.le_refl _), k_ds, e, nI_1, nI_clamp (by omega), nI_clamp (by omega)]
        omega
      · rw [if_neg h4] at hne ⊢
        have h5 : ¬ a + 1 < 4 := fun z => h4 (hlt.mpr z)
        have e2 : k_d (k_d D 15 25 j (D 15 25 j + 1)) 15 25 j 0 = k_d D 15 25 j (nI 0) := by
          funext r i k
          unfold k_d
          split <;> first | rfl | (rename_i q; rw [if_neg q])
        rw [e2] at hne ⊢
        have hd2 : mDig (k_d D 15 25 j (nI 0)) nl := by
          intro l hl ho2
          rw [k_di rfl] at ho2
          by_cases q : l = j
          · subst q; exact ⟨0, by decide, k_ds⟩
          · obtain ⟨b, hb, e3⟩ := hd l hl ho2
            refine ⟨b, hb, ?_⟩
            unfold k_d
            rw [if_neg (fun z => q z.2.2)]
            exact e3
        have h6 := ih _ (by omega) hd2 hne
        rw [mRk_put j (Nat.le_refl _)] at h6
        have h7 := r_next_rk_o j (k_d D 15 25 j (nI 0)) j (Nat.le_refl _)
        have h8 : (r_next j (k_d D 15 25 j (nI 0))).1 15 11 j = D 15 11 j := by
          rw [congrFun (r_next_o (r := 15) (i := 11) (by decide) j (k_d D 15 25 j (nI 0))) j]
          exact k_di rfl
        show (if (r_next j (k_d D 15 25 j (nI 0))).1 15 11 j = 101 then 4 * mRk (r_next j (k_d D 15 25 j (nI 0))).1 j + (3 - ((r_next j (k_d D 15 25 j (nI 0))).1 15 25 j).toNatClampNeg) else mRk (r_next j (k_d D 15 25 j (nI 0))).1 j) + 1 = (if D 15 11 j = 101 then 4 * mRk D j + (3 - (D 15 25 j).toNatClampNeg) else mRk D j)
        rw [h8, if_pos ho, if_pos ho, h7, k_ds, e, nI_clamp (by omega), nI_clamp (by omega)]
        omega
    · rw [if_neg ho] at hne ⊢
      have h6 := ih _ (by omega) hd hne
      have h8 : (r_next j D).1 15 11 j = D 15 11 j := congrFun (r_next_o (r := 15) (i := 11) (by decide) j D) j
      show (if (r_next j D).1 15 11 j = 101 then _ else mRk (r_next j D).1 j) + 1 = (if D 15 11 j = 101 then _ else mRk D j)
      rw [h8, if_neg ho, if_neg ho]
      exact h6
def s_X7_isNext (D : KD) (nl : Nat) : KD × Int32 := r_next nl D
theorem k_dec (x : Int32) : x + Int32.ofInt (-1) = x - 1 := by
  rw [show Int32.ofInt (-1) = -1 by decide]
  exact (Int32.sub_eq_add_neg x 1).symm
set_option maxHeartbeats 400000 in
set_option maxRecDepth 100000 in
theorem c_X7_isNext (X : kX) (l : Launch) {n : Nat → Nat → Nat} {ad L : Nat → Nat → Nat → Nat} {C : Nat → Nat → Nat → Nat → Int32} {fr : Nat → Option Cell} {g : Nat} (hm : k_mod n g) (D : KD) {nl nt ng : Nat} (hwf : mWF D nl nt ng) : k_M X l yX7_isNext wsX7_isNext ({ frames := 1, cells := 0, slots := 0, locals := 12 }) [.ref (ad g 14 0)] (k_W X n ad L (k_g C g D) fr) (fun v H => v = some (.int ((s_X7_isNext D nl).2)) ∧ k_W X n ad L (k_g C g ((s_X7_isNext D nl).1)) fr H) 0 0 := by
  refine k_M.of (cc := cX7_isNext) (maxL := 2) (ret := (some .boolean)) (by decide) rfl (Nat.le_of_ble_eq_true rfl) ?_
  intro p e s m args below meth c ls hx hb hr hml hown hts hlocks hnm hK hW hl
  have hL : ∀ q ∈ ([] : List Loc), k_B X ≤ q.base := fun _ h => nomatch h
  have hl : lv_has ls 2 [(0, .ref (ad g 14 0))] := hl
  have hl8 := hwf.l8
  have ht16 := hwf.t16
  have hg4 := hwf.g4
  have fX7 : ∀ w ∈ u_ws RX7 TX7 34, w.before args s = true := fun w h => hts w ((by decide +kernel : ∀ w ∈ u_ws RX7 TX7 34, w ∈ wsX7_isNext) w h)
  refine lv_aload_n hx hb dX7_isNext_0 rfl (lv_at hl 0 rfl) ?_
  refine k_get (K := RX7) (T := TX7) (N := 34) (v := .int (D 14 0 1)) (w := .int (D 14 0 1)) hx hb fX7 hown hK hW 14 0 hm.o (fun _ => rfl) rfl 1 (by decide) (hts (.fieldLink RX7 97 "CrossdockeryModel" "lorries" "I") (by decide +kernel)) rfl rfl rfl dX7_isNext_1 ?_
  refine lv_iconst (v := 1) hx hb dX7_isNext_4 (by decide) ?_
  refine lv_isub hx hb dX7_isNext_5 ?_
  refine lv_istore_n (lv' := [(1, .int ((D 14 0 1) - 1)), (0, .ref (ad g 14 0))]) hx hb dX7_isNext_6 rfl hl (by decide) rfl (fun ls hl => ?_)
  refine k_down (fun k H locs ls => ∃ E : KD, r_next nl D = r_next k E ∧ mWF E nl nt ng ∧ k ≤ nl ∧ k_W X n ad L (k_g C g E) fr H ∧ (∀ q ∈ locs, k_B X ≤ q.base) ∧ lv_has ls 2 [(1, .int (nI k - 1)), (0, .ref (ad g 14 0))]) nl ⟨D, rfl, hwf, Nat.le_refl _, hW, hL, by rw [← hwf.l]; exact lv_sub hl [0, 1] rfl⟩ (fun k ih H locs ls hI => ?_)
  obtain ⟨E, hE, hwE, hkl, hW, hL, hl⟩ := hI
  cases k with
  | zero =>
    refine lv_iload_n hx hb dX7_isNext_7 rfl (lv_at hl 0 rfl) ?_
    refine lv_if_lt (tgt := 60) hx hb dX7_isNext_8 (by decide) (fun _ => ?_) (fun h => absurd (by decide) h)
    refine lv_iconst (v := 0) hx hb dX7_isNext_60 (by decide) ?_
    have e9 : s_X7_isNext D nl = (E, 0) := hE
    exact k_zret hx hb hr (by decide) hlocks ⟨by rw [e9], by rw [e9]; exact hW⟩ hL dX7_isNext_61
  | succ j =>
    rw [k_m1_j] at hl
    refine lv_iload_n hx hb dX7_isNext_7 rfl (lv_at hl 0 rfl) ?_
    refine lv_if_lt (tgt := 60) hx hb dX7_isNext_8 (by decide) (fun h => absurd h (nI_pos (by omega))) (fun _ => ?_)
    refine lv_aload_n hx hb dX7_isNext_11 rfl (lv_at hl 1 rfl) ?_
    refine k_get (K := RX7) (T := TX7) (N := 34) (v := .ref (ad g 15 11)) (w := .ref (ad g 15 11)) hx hb fX7 hown hK hW 14 0 hm.o (fun _ => rfl) rfl 18 (by decide) (hts (.fieldLink RX7 44 "CrossdockeryModel" "state" "[C") (by decide +kernel)) rfl rfl rfl dX7_isNext_12 ?_
    refine lv_iload_n hx hb dX7_isNext_15 rfl (lv_at hl 0 rfl) ?_
    refine k_cald (z := 8) (k := j) hx hb hK hW 15 11 (hm.a (i := 11) (by decide)) (fun _ => rfl) (nI_clamp (by omega)) (vp_in_nI (by omega) (by decide)) (v := (E 15 11 j)) rfl dX7_isNext_16 ?_
    refine lv_bipush (v := 101) hx hb dX7_isNext_17 (by decide) ?_
    refine lv_icmp_eq (tgt := 25) hx hb dX7_isNext_19 (by decide) (fun c1 => ?_) (fun c1 => ?_)
    ·
      refine lv_aload_n hx hb dX7_isNext_25 rfl (lv_at hl 1 rfl) ?_
      refine k_get (K := RX7) (T := TX7) (N := 34) (v := .ref (ad g 15 25)) (w := .ref (ad g 15 25)) hx hb fX7 hown hK hW 14 0 hm.o (fun _ => rfl) rfl 32 (by decide) (hts (.fieldLink RX7 87 "CrossdockeryModel" "plan" "[I") (by decide +kernel)) rfl rfl rfl dX7_isNext_26 ?_
      refine lv_iload_n hx hb dX7_isNext_29 rfl (lv_at hl 0 rfl) ?_
      refine lv_dup2_11 hx hb dX7_isNext_30 rfl rfl ?_
      refine k_iald (z := 8) (k := j) hx hb hK hW 15 25 (hm.a (i := 25) (by decide)) (fun _ => rfl) (nI_clamp (by omega)) (vp_in_nI (by omega) (by decide)) (v := (E 15 25 j)) rfl dX7_isNext_31 ?_
      refine lv_iconst (v := 1) hx hb dX7_isNext_32 (by decide) ?_
      refine lv_iadd hx hb dX7_isNext_33 ?_
      refine k_iast (z := 8) (k := j) hx hb hK hW hL 15 25 (hm.a (i := 25) (by decide)) (fun _ => rfl) (nI_clamp (by omega)) (vp_in_nI (by omega) (by decide)) dX7_isNext_34 (fun H locs hW hL => ?_)
      refine lv_aload_n hx hb dX7_isNext_35 rfl (lv_at hl 1 rfl) ?_
      refine k_get (K := RX7) (T := TX7) (N := 34) (v := .ref (ad g 15 25)) (w := .ref (ad g 15 25)) hx hb fX7 hown hK hW 14 0 hm.o (fun _ => rfl) rfl 32 (by decide) (hts (.fieldLink RX7 87 "CrossdockeryModel" "plan" "[I") (by decide +kernel)) rfl rfl rfl dX7_isNext_36 ?_
      refine lv_iload_n hx hb dX7_isNext_39 rfl (lv_at hl 0 rfl) ?_
      refine k_iald (z := 8) (k := j) hx hb hK hW 15 25 (hm.a (i := 25) (by decide)) (fun _ => rfl) (nI_clamp (by omega)) (vp_in_nI (by omega) (by decide)) (v := ((E 15 25 j) + 1)) (k_ds) dX7_isNext_40 ?_
      refine lv_iconst (v := 4) hx hb dX7_isNext_41 (by decide) ?_
      refine lv_icmp_ge (tgt := 47) hx hb dX7_isNext_42 (by decide) (fun c2 => ?_) (fun c2 => ?_)
      ·
        replace c2 := Int32.not_lt.mpr c2
        refine lv_aload_n hx hb dX7_isNext_47 rfl (lv_at hl 1 rfl) ?_
        refine k_get (K := RX7) (T := TX7) (N := 34) (v := .ref (ad g 15 25)) (w := .ref (ad g 15 25)) hx hb fX7 hown hK hW 14 0 hm.o (fun _ => rfl) rfl 32 (by decide) (hts (.fieldLink RX7 87 "CrossdockeryModel" "plan" "[I") (by decide +kernel)) rfl rfl rfl dX7_isNext_48 ?_
        refine lv_iload_n hx hb dX7_isNext_51 rfl (lv_at hl 0 rfl) ?_
        refine lv_iconst (v := 0) hx hb dX7_isNext_52 (by decide) ?_
        refine k_iast (z := 8) (k := j) hx hb hK hW hL 15 25 (hm.a (i := 25) (by decide)) (fun _ => rfl) (nI_clamp (by omega)) (vp_in_nI (by omega) (by decide)) dX7_isNext_53 (fun H locs hW hL => ?_)
        refine lv_iinc (v := nI j - 1) (k := 0) (lv' := [(1, .int (nI j - 1)), (0, .ref (ad g 14 0))]) hx hb dX7_isNext_54 hl rfl (k_dec _) (by decide) rfl (fun ls hl => ?_)
        refine lv_goto (tgt := 7) hx hb dX7_isNext_57 (by decide) ?_
        have e9 : r_next (j + 1) E = r_next j (k_d (k_d E 15 25 j ((E 15 25 j) + 1)) 15 25 j 0) := by rw [r_next_s]; first | done | (simp only [if_pos c1, if_neg c2]; done) | rfl
        exact ih j _ _ _ rfl ⟨k_d (k_d E 15 25 j ((E 15 25 j) + 1)) 15 25 j 0, hE.trans e9, ((hwE.put15 (by decide)).put15 (by decide)), by omega, hW, hL, lv_sub hl [0, 1] rfl⟩
      ·
        replace c2 := Int32.not_le.mp c2
        refine lv_iconst (v := 1) hx hb dX7_isNext_45 (by decide) ?_
        have e9 : s_X7_isNext D nl = (k_d E 15 25 j ((E 15 25 j) + 1), 1) := by unfold s_X7_isNext; rw [hE, r_next_s]; first | done | (simp only [if_pos c1, if_pos c2]; done) | rfl
        exact k_zret hx hb hr (by decide) hlocks ⟨by rw [e9], by rw [e9]; exact hW⟩ hL dX7_isNext_46
    ·
      refine lv_goto (tgt := 54) hx hb dX7_isNext_22 (by decide) ?_
      refine lv_iinc (v := nI j - 1) (k := 0) (lv' := [(1, .int (nI j - 1)), (0, .ref (ad g 14 0))]) hx hb dX7_isNext_54 hl rfl (k_dec _) (by decide) rfl (fun ls hl => ?_)
      refine lv_goto (tgt := 7) hx hb dX7_isNext_57 (by decide) ?_
      have e9 : r_next (j + 1) E = r_next j E := by rw [r_next_s]; first | done | (simp only [if_neg c1]; done) | rfl
      exact ih j _ _ _ rfl ⟨E, hE.trans e9, hwE, by omega, hW, hL, lv_sub hl [0, 1] rfl⟩
