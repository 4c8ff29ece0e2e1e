theorem r_next_b : ∀ (j : Nat) (D : KD), (r_next j D).2 = 0 ∨ (r_next j D).2 = 1 := by
  intro j
  induction j with
  | zero => intro D; exact Or.inl rfl
  | succ j ih =>
    intro D
    rw [r_next_s]
    split
    · split
      · exact Or.inr rfl
      · exact ih _
    · exact ih _
theorem mRk_congr {D E : KD} (h1 : D 15 11 = E 15 11) (h2 : D 15 25 = E 15 25) : ∀ k, mRk D k = mRk E k := by
  intro k
  induction k with
  | zero => rfl
  | succ k ih =>
    show (if D 15 11 k = 101 then 4 * mRk D k + (3 - (D 15 25 k).toNatClampNeg) else mRk D k) = (if E 15 11 k = 101 then 4 * mRk E k + (3 - (E 15 25 k).toNatClampNeg) else mRk E k)
    rw [h1, h2, ih]
theorem mDig_congr {D E : KD} {nl : Nat} (h1 : D 15 11 = E 15 11) (h2 : D 15 25 = E 15 25) (h : mDig E nl) : mDig D nl := by
  unfold mDig
  rw [h1, h2]
  exact h
theorem mRk_lt {D : KD} : ∀ k, mRk D k < 4 ^ k := by
  intro k
  induction k with
  | zero => exact Nat.one_pos
  | succ k ih =>
    show (if D 15 11 k = 101 then 4 * mRk D k + (3 - (D 15 25 k).toNatClampNeg) else mRk D k) < 4 ^ (k + 1)
    rw [Nat.pow_succ]
    split <;> omega
theorem it_wf {nl nt ng : Nat} (F : Nat → KD → KD) (h : ∀ k E, mWF E nl nt ng → mWF (F k E) nl nt ng) (n : Nat) {D : KD} (hD : mWF D nl nt ng) : mWF (it F n D) nl nt ng := by
  induction n with
  | zero => exact hD
  | succ n ih => rw [it_s]; exact h _ _ ih
def j_X7_leastWays_36 (D : KD) (nl : Nat) (nt : Nat) (ng : Nat) (k2 : Nat) (z2 : KD) : Int32 := (if (z2 15 11 k2) = 101 then 0 else (z2 15 4 k2))
def f_X7_leastWays_2 (D : KD) (nl : Nat) (nt : Nat) (ng : Nat) (k2 : Nat) (z2 : KD) : KD := (k_d z2 15 25 k2 (j_X7_leastWays_36 D nl nt ng k2 z2))
def l_X7_leastWays_2 (D : KD) (nl : Nat) (nt : Nat) (ng : Nat) : KD := it (f_X7_leastWays_2 D nl nt ng) nl D
def f_X7_leastWays_86 (E : KD) (nl : Nat) (nt : Nat) (ng : Nat) (k86 : Nat) (z86 : KD) : KD := (k_d z86 15 26 k86 (z86 15 25 k86))
def l_X7_leastWays_86 (E : KD) (nl : Nat) (nt : Nat) (ng : Nat) : KD := it (f_X7_leastWays_86 E nl nt ng) nl (k_d E 14 0 6 (s_X7_waysOf25 E nl nt ng))
def s_wh1 (E : KD) (nl nt ng : Nat) : KD := if E 14 0 6 = -1 ∨ s_X7_waysOf25 E nl nt ng < E 14 0 6 then l_X7_leastWays_86 E nl nt ng else E
def s_wh (nl nt ng : Nat) : Nat → KD → KD
  | 0, E => E
  | f + 1, E => if (r_next nl (s_wh1 E nl nt ng)).2 = 0 then (r_next nl (s_wh1 E nl nt ng)).1 else s_wh nl nt ng f (r_next nl (s_wh1 E nl nt ng)).1
theorem s_wh_s (nl nt ng f : Nat) (E : KD) : s_wh nl nt ng (f + 1) E = if (r_next nl (s_wh1 E nl nt ng)).2 = 0 then (r_next nl (s_wh1 E nl nt ng)).1 else s_wh nl nt ng f (r_next nl (s_wh1 E nl nt ng)).1 := rfl
theorem s_wh1_wf {E : KD} {nl nt ng : Nat} (h : mWF E nl nt ng) : mWF (s_wh1 E nl nt ng) nl nt ng := by
  unfold s_wh1
  split
  · unfold l_X7_leastWays_86
    exact it_wf _ (fun k z hz => by unfold f_X7_leastWays_86; exact hz.put15 (by decide)) _ (h.put14 (i := 0) (k := 6) (by decide))
  · exact h
theorem s_wh1_o {E : KD} {nl nt ng r i : Nat} (h1 : ¬ (r = 15 ∧ i = 26)) (h2 : r ≠ 14) : s_wh1 E nl nt ng r i = E r i := by
  unfold s_wh1
  split
  · unfold l_X7_leastWays_86
    rw [it_fix _ (fun z : KD => z r i) (fun k z => by unfold f_X7_leastWays_86; exact k_d_off z _ h1)]
    exact k_d_off E _ (fun z => h2 z.1)
  · rfl
def s_X7_leastWays (D : KD) (nl nt ng : Nat) : KD × Int32 := (s_wh nl nt ng (4 ^ nl) (k_d (l_X7_leastWays_2 D nl nt ng) 14 0 6 (-1)), s_wh nl nt ng (4 ^ nl) (k_d (l_X7_leastWays_2 D nl nt ng) 14 0 6 (-1)) 14 0 6)
theorem s_wh_wf {nl nt ng : Nat} : ∀ (f : Nat) {E : KD}, mWF E nl nt ng → mWF (s_wh nl nt ng f E) nl nt ng := by
  intro f
  induction f with
  | zero => intro E h; exact h
  | succ f ih =>
    intro E h
    rw [s_wh_s]
    split
    · exact r_next_wf _ _ (s_wh1_wf h)
    · exact ih (r_next_wf _ _ (s_wh1_wf h))
theorem f_X7_leastWays_2_wf {D E : KD} {nl nt ng k : Nat} (h : mWF E nl nt ng) : mWF (f_X7_leastWays_2 D nl nt ng k E) nl nt ng := by
  unfold f_X7_leastWays_2
  exact h.put15 (by decide)
theorem l_X7_leastWays_2_11 (D : KD) (nl nt ng : Nat) {r i : Nat} (hr : ¬ (r = 15 ∧ i = 25)) : l_X7_leastWays_2 D nl nt ng r i = D r i := by
  unfold l_X7_leastWays_2
  exact it_fix _ (fun z : KD => z r i) (fun k z => by unfold f_X7_leastWays_2; exact k_d_off z _ hr) _ _
theorem l_X7_leastWays_2_at (D : KD) (nl nt ng : Nat) : ∀ l, l < nl → l_X7_leastWays_2 D nl nt ng 15 25 l = if D 15 11 l = 101 then 0 else D 15 4 l := by
  have key : ∀ m, m ≤ nl → ∀ l, l < m → it (f_X7_leastWays_2 D nl nt ng) m D 15 25 l = if D 15 11 l = 101 then 0 else D 15 4 l := by
    intro m
    induction m with
    | zero => intro _ l hl; exact absurd hl (Nat.not_lt_zero _)
    | succ m ih =>
      intro hm l hl
      rw [it_s]
      have hv : ∀ (z : KD), z 15 11 = D 15 11 → z 15 4 = D 15 4 → f_X7_leastWays_2 D nl nt ng m z 15 25 m = if D 15 11 m = 101 then 0 else D 15 4 m := by
        intro z h1 h2
        unfold f_X7_leastWays_2 j_X7_leastWays_36
        rw [k_ds, h1, h2]
      have h11 : ∀ i, i ≠ 25 → it (f_X7_leastWays_2 D nl nt ng) m D 15 i = D 15 i := fun i hi => it_fix _ (fun z : KD => z 15 i) (fun k z => by unfold f_X7_leastWays_2; exact k_d_off z _ (fun q => hi q.2)) _ _
      by_cases q : l = m
      · subst q
        exact hv _ (h11 11 (by decide)) (h11 4 (by decide))
      · rw [← ih (by omega) l (by omega)]
        unfold f_X7_leastWays_2 k_d
        rw [if_neg (fun z => q z.2.2)]
  exact key nl (Nat.le_refl _)
theorem mDig_start (D : KD) (nl nt ng : Nat) (x : Int32) : mDig (k_d (l_X7_leastWays_2 D nl nt ng) 14 0 6 x) nl := by
  intro l hl ho
  rw [k_dr rfl] at ho ⊢
  rw [l_X7_leastWays_2_11 D nl nt ng (by decide)] at ho
  rw [l_X7_leastWays_2_at D nl nt ng l hl, if_pos ho]
  exact ⟨0, by decide, rfl⟩
theorem s_X7_leastWays_wf {D : KD} {nl nt ng : Nat} (h : mWF D nl nt ng) : mWF (s_X7_leastWays D nl nt ng).1 nl nt ng :=
  s_wh_wf _ ((it_wf _ (fun _ _ h => f_X7_leastWays_2_wf h) _ h).put14 (i := 0) (k := 6) (by decide))
set_option maxHeartbeats 400000 in
set_option maxRecDepth 100000 in
theorem c_X7_leastWays (X : kX) (l : Launch) {n : Nat → Nat → Nat} {ad L : Nat → Nat → Nat → Nat} {C : Nat → Nat → Nat → Nat → Int32} {fr : Nat → Option Cell} {g : Nat} (hm : k_mod n g) (D : KD) {nl nt ng : Nat} (hwf : mWF D nl nt ng) : k_M X l yX7_leastWays wsX7_leastWays ({ frames := 2, cells := 0, slots := 0, locals := 36 }) [.ref (ad g 14 0)] (k_W X n ad L (k_g C g D) fr) (fun v H => v = some (.int ((s_X7_leastWays D nl nt ng).2)) ∧ k_W X n ad L (k_g C g ((s_X7_leastWays D nl nt ng).1)) fr H) 0 0 := by
  refine k_M.of (cc := cX7_leastWays) (maxL := 4) (ret := (some .int)) (by decide) rfl (Nat.le_of_ble_eq_true rfl) ?_
  intro p e s m args below meth c ls hx hb hr hml hown hts hlocks hnm hK hW hl
  have hL : ∀ q ∈ ([] : List Loc), k_B X ≤ q.base := fun _ h => nomatch h
  have hl : lv_has ls 4 [(0, .ref (ad g 14 0))] := hl
  have hl8 := hwf.l8
  have ht16 := hwf.t16
  have hg4 := hwf.g4
  have fX7 : ∀ w ∈ u_ws RX7 TX7 34, w.before args s = true := fun w h => hts w ((by decide +kernel : ∀ w ∈ u_ws RX7 TX7 34, w ∈ wsX7_leastWays) w h)
  refine lv_iconst (v := 0) hx hb dX7_leastWays_0 (by decide) ?_
  refine lv_istore_n (lv' := [(1, .int 0), (0, .ref (ad g 14 0))]) hx hb dX7_leastWays_1 rfl hl (by decide) rfl (fun ls hl => ?_)
  refine k_for (nl) (fun k2 H locs ls => ∃ z2 : KD, z2 = it (f_X7_leastWays_2 D nl nt ng) k2 D ∧ k_W X n ad L (k_g C g z2) fr H ∧ (∀ q ∈ locs, k_B X ≤ q.base) ∧ lv_has ls 4 [(1, .int (nI k2)), (0, .ref (ad g 14 0))] ∧ mWF z2 nl nt ng) 0 ⟨D, rfl, hW, hL, lv_sub hl [0, 1] rfl, hwf⟩ (Nat.zero_le _) (fun k2 hk2 ih2 H locs ls hI => ?_)
  obtain ⟨z2, hz2, hW, hL, hl, hE2⟩ := hI
  refine lv_iload_n hx hb dX7_leastWays_2 rfl (lv_at hl 0 rfl) ?_
  refine lv_aload_n hx hb dX7_leastWays_3 rfl (lv_at hl 1 rfl) ?_
  refine k_get (K := RX7) (T := TX7) (N := 34) (v := .int (z2 14 0 1)) (w := .int (z2 14 0 1)) hx hb fX7 hown hK hW 14 0 hm.o (fun _ => rfl) rfl 1 (by decide) (hts (.fieldLink RX7 97 "CrossdockeryModel" "lorries" "I") (by decide +kernel)) rfl rfl rfl dX7_leastWays_4 ?_
  refine lv_icmp_ge (tgt := 43) hx hb dX7_leastWays_7 (by decide) (fun c1 => ?_) (fun c1 => ?_)
  ·
    rw [hE2.l] at c1
    have hge2 := k_nI_ge (by omega) (by omega) c1
    obtain rfl : nl = k2 := by omega
    replace hz2 : z2 = (l_X7_leastWays_2 D nl nt ng) := hz2
    subst hz2
    have hl : lv_has ls 4 [(1, .int (nI nl)), (0, .ref (ad g 14 0))] := hl
    refine lv_aload_n hx hb dX7_leastWays_43 rfl (lv_at hl 1 rfl) ?_
    refine lv_iconst (v := (-1)) hx hb dX7_leastWays_44 (by decide) ?_
    refine k_put (K := RX7) (T := TX7) (N := 34) (x := (-1)) hx hb fX7 tyX7 tyX7_ok nmX7 hown hK hW hL 14 0 hm.o (fun _ => rfl) rfl 6 (by decide) (hts (.fieldLink RX7 177 "CrossdockeryModel" "least" "I") (by decide +kernel)) rfl rfl rfl rfl (fun _ => Nat.le_of_ble_eq_true rfl) (fun _ _ => rfl) dX7_leastWays_45 (fun H locs hW hL => ?_)
    refine lv_iconst (v := 1) hx hb dX7_leastWays_48 (by decide) ?_
    refine lv_istore_n (lv' := [(1, .int 1), (0, .ref (ad g 14 0))]) hx hb dX7_leastWays_49 rfl hl (by decide) rfl (fun ls hl => ?_)
    have hwE0 : mWF (k_d (l_X7_leastWays_2 D nl nt ng) 14 0 6 (-1)) nl nt ng := (hE2.put14 (by decide))
    refine k_down (fun f H locs ls => ∃ E : KD, s_wh nl nt ng f E = s_wh nl nt ng (4 ^ nl) (k_d (l_X7_leastWays_2 D nl nt ng) 14 0 6 (-1)) ∧ mWF E nl nt ng ∧ mDig E nl ∧ mRk E nl < f ∧ k_W X n ad L (k_g C g E) fr H ∧ (∀ q ∈ locs, k_B X ≤ q.base) ∧ lv_has ls 4 [(1, .int 1), (0, .ref (ad g 14 0))]) (4 ^ nl) ⟨_, rfl, hwE0, mDig_start D nl nt ng _, mRk_lt nl, hW, hL, lv_sub hl [0, 1] rfl⟩ (fun k ih H locs ls hI => ?_)
    obtain ⟨E, hE, hwE, hdg, hrk, hW, hL, hl⟩ := hI
    cases k with
    | zero => exact absurd hrk (Nat.not_lt_zero _)
    | succ f =>
      refine lv_iload_n hx hb dX7_leastWays_50 rfl (lv_at hl 0 rfl) ?_
      refine lv_if_eq (tgt := 120) hx hb dX7_leastWays_51 (by decide) (fun h => absurd h (by decide)) (fun _ => ?_)
      refine lv_aload_n hx hb dX7_leastWays_54 rfl (lv_at hl 1 rfl) ?_
      refine lv_aload_n hx hb dX7_leastWays_55 rfl (lv_at hl 1 rfl) ?_
      refine k_get (K := RX7) (T := TX7) (N := 34) (v := .ref (ad g 15 25)) (w := .ref (ad g 15 25)) hx hb fX7 hown hK hW 14 0 hm.o (fun _ => rfl) rfl 32 (by decide) (hts (.fieldLink RX7 87 "CrossdockeryModel" "plan" "[I") (by decide +kernel)) rfl rfl rfl dX7_leastWays_56 ?_
      refine k_callV (As := [.ref (ad g 15 25)]) (rest := []) ⟨hx, hb, hml, hown, hts⟩ hK (c_X7_waysOf25 X l hm E hwE) (cwV 1 hts gX7_leastWays_X7_waysOf rfl rfl rfl (by decide +kernel) ⟨Nat.le_of_ble_eq_true rfl, Nat.le_of_ble_eq_true rfl⟩) (k_recv hK hW 14 0 hm.o (fun _ => rfl) rfl) hW rfl hl.1 rfl (Nat.le_of_ble_eq_true rfl) dX7_leastWays_59 ⟨Nat.le_of_ble_eq_true rfl, Nat.le_of_ble_eq_true rfl⟩ hL (fun v9 H locs hp hL => ?_)
      obtain ⟨rfl, hW⟩ := hp
      refine lv_istore_n (lv' := [(2, .int (s_X7_waysOf25 E nl nt ng)), (1, .int 1), (0, .ref (ad g 14 0))]) hx hb dX7_leastWays_62 rfl hl (by decide) rfl (fun ls hl => ?_)
      refine k_join (pc' := 112) (fun H locs ls st => k_W X n ad L (k_g C g (s_wh1 E nl nt ng)) fr H ∧ (∀ q ∈ locs, k_B X ≤ q.base) ∧ lv_has ls 4 [(2, .int (s_X7_waysOf25 E nl nt ng)), (1, .int 1), (0, .ref (ad g 14 0))] ∧ st = []) (fun H locs ls st hJ => ?_) (fun join112 => ?_)
      ·
        obtain ⟨hW, hL, hl, rfl⟩ := hJ
        have hw1 := s_wh1_wf hwE
        have hd1 : mDig (s_wh1 E nl nt ng) nl := mDig_congr (s_wh1_o (by decide) (by decide)) (s_wh1_o (by decide) (by decide)) hdg
        have hk1 : mRk (s_wh1 E nl nt ng) nl = mRk E nl := mRk_congr (s_wh1_o (by decide) (by decide)) (s_wh1_o (by decide) (by decide)) nl
        refine lv_aload_n hx hb dX7_leastWays_112 rfl (lv_at hl 2 rfl) ?_
        refine k_callV (As := []) (rest := []) ⟨hx, hb, hml, hown, hts⟩ hK (c_X7_isNext X l hm (s_wh1 E nl nt ng) hw1) (cwV 0 hts gX7_leastWays_X7_isNext rfl rfl rfl (by decide +kernel) ⟨Nat.le_of_ble_eq_true rfl, Nat.le_of_ble_eq_true rfl⟩) (k_recv hK hW 14 0 hm.o (fun _ => rfl) rfl) hW rfl hl.1 rfl (Nat.le_of_ble_eq_true rfl) dX7_leastWays_113 ⟨Nat.le_of_ble_eq_true rfl, Nat.le_of_ble_eq_true rfl⟩ hL (fun v9 H locs hp hL => ?_)
        obtain ⟨rfl, hW⟩ := hp
        refine lv_istore_n (lv' := [(1, .int (r_next nl (s_wh1 E nl nt ng)).2), (2, .int (s_X7_waysOf25 E nl nt ng)), (0, .ref (ad g 14 0))]) hx hb dX7_leastWays_116 rfl hl (by decide) rfl (fun ls hl => ?_)
        refine lv_goto (tgt := 50) hx hb dX7_leastWays_117 (by decide) ?_
        rcases r_next_b nl (s_wh1 E nl nt ng) with hz | hz
        ·
          refine lv_iload_n hx hb dX7_leastWays_50 rfl (lv_at hl 0 rfl) ?_
          refine lv_if_eq (tgt := 120) hx hb dX7_leastWays_51 (by decide) (fun _ => ?_) (fun h => absurd hz h)
          have e9 : s_wh nl nt ng (4 ^ nl) (k_d (l_X7_leastWays_2 D nl nt ng) 14 0 6 (-1)) = (r_next nl (s_wh1 E nl nt ng)).1 := by rw [← hE, s_wh_s, if_pos hz]
          replace hW : k_W X n ad L (k_g C g (s_X7_leastWays D nl nt ng).1) fr H := by unfold s_X7_leastWays; rw [e9]; exact hW
          refine lv_aload_n hx hb dX7_leastWays_120 rfl (lv_at hl 2 rfl) ?_
          refine k_get (K := RX7) (T := TX7) (N := 34) (v := .int ((s_X7_leastWays D nl nt ng).1 14 0 6)) (w := .int ((s_X7_leastWays D nl nt ng).1 14 0 6)) hx hb fX7 hown hK hW 14 0 hm.o (fun _ => rfl) rfl 6 (by decide) (hts (.fieldLink RX7 177 "CrossdockeryModel" "least" "I") (by decide +kernel)) rfl rfl rfl dX7_leastWays_121 ?_
          exact k_iret hx hb hr hlocks ⟨rfl, hW⟩ hL dX7_leastWays_124
        ·
          have hne : (r_next nl (s_wh1 E nl nt ng)).2 ≠ 0 := by rw [hz]; decide
          have hr1 := r_next_rk nl (s_wh1 E nl nt ng) (Nat.le_refl _) hd1 hne
          rw [hz] at hl
          exact ih f _ _ _ rfl ⟨(r_next nl (s_wh1 E nl nt ng)).1, by rw [← hE, s_wh_s, if_neg hne], r_next_wf _ _ hw1, r_next_dig nl _ (Nat.le_refl _) hd1, by omega, hW, hL, lv_sub hl [0, 2] rfl⟩
      ·
        refine k_join (pc' := 79) (fun H locs ls st => (E 14 0 6 = -1 ∨ s_X7_waysOf25 E nl nt ng < E 14 0 6) ∧ k_W X n ad L (k_g C g E) fr H ∧ (∀ q ∈ locs, k_B X ≤ q.base) ∧ lv_has ls 4 [(2, .int (s_X7_waysOf25 E nl nt ng)), (1, .int 1), (0, .ref (ad g 14 0))] ∧ st = []) (fun H locs ls st hJ => ?_) (fun join79 => ?_)
        ·
          obtain ⟨hcn, hW, hL, hl, rfl⟩ := hJ
          refine lv_aload_n hx hb dX7_leastWays_79 rfl (lv_at hl 2 rfl) ?_
          refine lv_iload_n hx hb dX7_leastWays_80 rfl (lv_at hl 0 rfl) ?_
          refine k_put (K := RX7) (T := TX7) (N := 34) (x := (s_X7_waysOf25 E nl nt ng)) hx hb fX7 tyX7 tyX7_ok nmX7 hown hK hW hL 14 0 hm.o (fun _ => rfl) rfl 6 (by decide) (hts (.fieldLink RX7 177 "CrossdockeryModel" "least" "I") (by decide +kernel)) rfl rfl rfl rfl (fun _ => Nat.le_of_ble_eq_true rfl) (fun _ _ => rfl) dX7_leastWays_81 (fun H locs hW hL => ?_)
          refine lv_iconst (v := 0) hx hb dX7_leastWays_84 (by decide) ?_
          refine lv_istore_n (lv' := [(3, .int 0), (2, .int (s_X7_waysOf25 E nl nt ng)), (1, .int 1), (0, .ref (ad g 14 0))]) hx hb dX7_leastWays_85 rfl hl (by decide) rfl (fun ls hl => ?_)
          refine k_for (nl) (fun k86 H locs ls => ∃ z86 : KD, z86 = it (f_X7_leastWays_86 E nl nt ng) k86 (k_d E 14 0 6 (s_X7_waysOf25 E nl nt ng)) ∧ k_W X n ad L (k_g C g z86) fr H ∧ (∀ q ∈ locs, k_B X ≤ q.base) ∧ lv_has ls 4 [(3, .int (nI k86)), (2, .int (s_X7_waysOf25 E nl nt ng)), (1, .int 1), (0, .ref (ad g 14 0))] ∧ mWF z86 nl nt ng) 0 ⟨(k_d E 14 0 6 (s_X7_waysOf25 E nl nt ng)), rfl, hW, hL, lv_sub hl [0, 1, 2, 3] rfl, (hwE.put14 (by decide))⟩ (Nat.zero_le _) (fun k86 hk86 ih86 H locs ls hI => ?_)
          obtain ⟨z86, hz86, hW, hL, hl, hE86⟩ := hI
          refine lv_iload_n hx hb dX7_leastWays_86 rfl (lv_at hl 0 rfl) ?_
          refine lv_aload_n hx hb dX7_leastWays_87 rfl (lv_at hl 3 rfl) ?_
          refine k_get (K := RX7) (T := TX7) (N := 34) (v := .int (z86 14 0 1)) (w := .int (z86 14 0 1)) hx hb fX7 hown hK hW 14 0 hm.o (fun _ => rfl) rfl 1 (by decide) (hts (.fieldLink RX7 97 "CrossdockeryModel" "lorries" "I") (by decide +kernel)) rfl rfl rfl dX7_leastWays_88 ?_
          refine lv_icmp_ge (tgt := 112) hx hb dX7_leastWays_91 (by decide) (fun c3 => ?_) (fun c3 => ?_)
          ·
            rw [hE86.l] at c3
            have hge86 := k_nI_ge (by omega) (by omega) c3
            obtain rfl : nl = k86 := by omega
            replace hz86 : z86 = (l_X7_leastWays_86 E nl nt ng) := hz86
            subst hz86
            have hl : lv_has ls 4 [(3, .int (nI nl)), (2, .int (s_X7_waysOf25 E nl nt ng)), (1, .int 1), (0, .ref (ad g 14 0))] := hl
            exact join112 _ _ _ _ ⟨by unfold s_wh1; rw [if_pos hcn]; exact hW, hL, lv_sub hl [1, 2, 3] rfl, rfl⟩
          ·
            have hlt86 : k86 < nl := k_nI_nge (by omega) (by omega) (by rw [hE86.l] at c3; exact c3)
            refine lv_aload_n hx hb dX7_leastWays_94 rfl (lv_at hl 3 rfl) ?_
            refine k_get (K := RX7) (T := TX7) (N := 34) (v := .ref (ad g 15 26)) (w := .ref (ad g 15 26)) hx hb fX7 hown hK hW 14 0 hm.o (fun _ => rfl) rfl 33 (by decide) (hts (.fieldLink RX7 90 "CrossdockeryModel" "bestPlan" "[I") (by decide +kernel)) rfl rfl rfl dX7_leastWays_95 ?_
            refine lv_iload_n hx hb dX7_leastWays_98 rfl (lv_at hl 0 rfl) ?_
            refine lv_aload_n hx hb dX7_leastWays_99 rfl (lv_at hl 3 rfl) ?_
            refine k_get (K := RX7) (T := TX7) (N := 34) (v := .ref (ad g 15 25)) (w := .ref (ad g 15 25)) hx hb fX7 hown hK hW 14 0 hm.o (fun _ => rfl) rfl 32 (by decide) (hts (.fieldLink RX7 87 "CrossdockeryModel" "plan" "[I") (by decide +kernel)) rfl rfl rfl dX7_leastWays_100 ?_
            refine lv_iload_n hx hb dX7_leastWays_103 rfl (lv_at hl 0 rfl) ?_
            refine k_iald (z := 8) (k := k86) hx hb hK hW 15 25 (hm.a (i := 25) (by decide)) (fun _ => rfl) (nI_clamp (by omega)) (vp_in_nI (by omega) (by decide)) (v := (z86 15 25 k86)) rfl dX7_leastWays_104 ?_
            refine k_iast (z := 8) (k := k86) hx hb hK hW hL 15 26 (hm.a (i := 26) (by decide)) (fun _ => rfl) (nI_clamp (by omega)) (vp_in_nI (by omega) (by decide)) dX7_leastWays_105 (fun H locs hW hL => ?_)
            refine lv_iinc (v := (nI (k86 + 1))) (k := 0) (lv' := [(3, .int (nI (k86 + 1))), (2, .int (s_X7_waysOf25 E nl nt ng)), (1, .int 1), (0, .ref (ad g 14 0))]) hx hb dX7_leastWays_106 hl rfl (nI_1 _) (by decide) rfl (fun ls hl => ?_)
            refine lv_goto (tgt := 86) hx hb dX7_leastWays_109 (by decide) ?_
            have e9 : (f_X7_leastWays_86 E nl nt ng) k86 z86 = (k_d z86 15 26 k86 (z86 15 25 k86)) := by unfold f_X7_leastWays_86; first | done | rfl
            exact ih86 _ _ _ hlt86 ⟨(k_d z86 15 26 k86 (z86 15 25 k86)), by rw [it_s, ← hz86, e9], hW, hL, lv_sub hl [0, 1, 2, 3] rfl, (hE86.put15 (by decide))⟩
        ·
          refine lv_aload_n hx hb dX7_leastWays_63 rfl (lv_at hl 2 rfl) ?_
          refine k_get (K := RX7) (T := TX7) (N := 34) (v := .int (E 14 0 6)) (w := .int (E 14 0 6)) hx hb fX7 hown hK hW 14 0 hm.o (fun _ => rfl) rfl 6 (by decide) (hts (.fieldLink RX7 177 "CrossdockeryModel" "least" "I") (by decide +kernel)) rfl rfl rfl dX7_leastWays_64 ?_
          refine lv_iconst (v := (-1)) hx hb dX7_leastWays_67 (by decide) ?_
          refine lv_icmp_eq (tgt := 79) hx hb dX7_leastWays_68 (by decide) (fun c4 => ?_) (fun c4 => ?_)
          ·
            exact join79 _ _ _ _ ⟨Or.inl c4, hW, hL, lv_sub hl [0, 1, 2] rfl, rfl⟩
          ·
            refine lv_iload_n hx hb dX7_leastWays_71 rfl (lv_at hl 0 rfl) ?_
            refine lv_aload_n hx hb dX7_leastWays_72 rfl (lv_at hl 2 rfl) ?_
            refine k_get (K := RX7) (T := TX7) (N := 34) (v := .int (E 14 0 6)) (w := .int (E 14 0 6)) hx hb fX7 hown hK hW 14 0 hm.o (fun _ => rfl) rfl 6 (by decide) (hts (.fieldLink RX7 177 "CrossdockeryModel" "least" "I") (by decide +kernel)) rfl rfl rfl dX7_leastWays_73 ?_
            refine lv_icmp_ge (tgt := 112) hx hb dX7_leastWays_76 (by decide) (fun c5 => ?_) (fun c5 => ?_)
            ·
              exact join112 _ _ _ _ ⟨by unfold s_wh1; rw [if_neg (fun z => z.elim c4 (fun q => absurd q (Int32.not_lt.mpr c5)))]; exact hW, hL, lv_sub hl [0, 1, 2] rfl, rfl⟩
            ·
              exact join79 _ _ _ _ ⟨Or.inr (Int32.not_le.mp c5), hW, hL, lv_sub hl [0, 1, 2] rfl, rfl⟩
  ·
    have hlt2 : k2 < nl := k_nI_nge (by omega) (by omega) (by rw [hE2.l] at c1; exact c1)
    refine lv_aload_n hx hb dX7_leastWays_10 rfl (lv_at hl 1 rfl) ?_
    refine k_get (K := RX7) (T := TX7) (N := 34) (v := .ref (ad g 15 25)) (w := .ref (ad g 15 25)) hx hb fX7 hown hK hW 14 0 hm.o (fun _ => rfl) rfl 32 (by decide) (hts (.fieldLink RX7 87 "CrossdockeryModel" "plan" "[I") (by decide +kernel)) rfl rfl rfl dX7_leastWays_11 ?_
    refine lv_iload_n hx hb dX7_leastWays_14 rfl (lv_at hl 0 rfl) ?_
    refine lv_aload_n hx hb dX7_leastWays_15 rfl (lv_at hl 1 rfl) ?_
    refine k_get (K := RX7) (T := TX7) (N := 34) (v := .ref (ad g 15 11)) (w := .ref (ad g 15 11)) hx hb fX7 hown hK hW 14 0 hm.o (fun _ => rfl) rfl 18 (by decide) (hts (.fieldLink RX7 44 "CrossdockeryModel" "state" "[C") (by decide +kernel)) rfl rfl rfl dX7_leastWays_16 ?_
    refine lv_iload_n hx hb dX7_leastWays_19 rfl (lv_at hl 0 rfl) ?_
    refine k_cald (z := 8) (k := k2) hx hb hK hW 15 11 (hm.a (i := 11) (by decide)) (fun _ => rfl) (nI_clamp (by omega)) (vp_in_nI (by omega) (by decide)) (v := (z2 15 11 k2)) rfl dX7_leastWays_20 ?_
    refine lv_bipush (v := 101) hx hb dX7_leastWays_21 (by decide) ?_
    refine k_join (pc' := 36) (fun H locs ls st => k_W X n ad L (k_g C g z2) fr H ∧ (∀ q ∈ locs, k_B X ≤ q.base) ∧ lv_has ls 4 [(1, .int (nI k2)), (0, .ref (ad g 14 0))] ∧ st = [.int (j_X7_leastWays_36 D nl nt ng k2 z2), .int (nI k2), .ref (ad g 15 25)]) (fun H locs ls st hJ => ?_) (fun join36 => ?_)
    ·
      obtain ⟨hW, hL, hl, rfl⟩ := hJ
      refine k_iast (z := 8) (k := k2) hx hb hK hW hL 15 25 (hm.a (i := 25) (by decide)) (fun _ => rfl) (nI_clamp (by omega)) (vp_in_nI (by omega) (by decide)) dX7_leastWays_36 (fun H locs hW hL => ?_)
      refine lv_iinc (v := (nI (k2 + 1))) (k := 0) (lv' := [(1, .int (nI (k2 + 1))), (0, .ref (ad g 14 0))]) hx hb dX7_leastWays_37 hl rfl (nI_1 _) (by decide) rfl (fun ls hl => ?_)
      refine lv_goto (tgt := 2) hx hb dX7_leastWays_40 (by decide) ?_
      have e9 : (f_X7_leastWays_2 D nl nt ng) k2 z2 = (k_d z2 15 25 k2 (j_X7_leastWays_36 D nl nt ng k2 z2)) := by unfold f_X7_leastWays_2; first | done | rfl
      exact ih2 _ _ _ hlt2 ⟨(k_d z2 15 25 k2 (j_X7_leastWays_36 D nl nt ng k2 z2)), by rw [it_s, ← hz2, e9], hW, hL, lv_sub hl [0, 1] rfl, (hE2.put15 (by decide))⟩
    ·
      refine lv_icmp_ne (tgt := 30) hx hb dX7_leastWays_23 (by decide) (fun c2 => ?_) (fun c2 => ?_)
      ·
        refine lv_aload_n hx hb dX7_leastWays_30 rfl (lv_at hl 1 rfl) ?_
        refine k_get (K := RX7) (T := TX7) (N := 34) (v := .ref (ad g 15 4)) (w := .ref (ad g 15 4)) hx hb fX7 hown hK hW 14 0 hm.o (fun _ => rfl) rfl 11 (by decide) (hts (.fieldLink RX7 23 "CrossdockeryModel" "door" "[I") (by decide +kernel)) rfl rfl rfl dX7_leastWays_31 ?_
        refine lv_iload_n hx hb dX7_leastWays_34 rfl (lv_at hl 0 rfl) ?_
        refine k_iald (z := 8) (k := k2) hx hb hK hW 15 4 (hm.a (i := 4) (by decide)) (fun _ => rfl) (nI_clamp (by omega)) (vp_in_nI (by omega) (by decide)) (v := (z2 15 4 k2)) rfl dX7_leastWays_35 ?_
        have e9 : (j_X7_leastWays_36 D nl nt ng k2 z2) = (z2 15 4 k2) := by unfold j_X7_leastWays_36; first | done | (simp only [if_neg c2]; done) | rfl
        exact join36 _ _ _ _ (by rw [e9]; exact ⟨hW, hL, lv_sub hl [0, 1] rfl, rfl⟩)
      ·
        refine lv_iconst (v := 0) hx hb dX7_leastWays_26 (by decide) ?_
        refine lv_goto (tgt := 36) hx hb dX7_leastWays_27 (by decide) ?_
        have e9 : (j_X7_leastWays_36 D nl nt ng k2 z2) = 0 := by unfold j_X7_leastWays_36; first | done | (simp only [if_pos c2]; done) | rfl
        exact join36 _ _ _ _ (by rw [e9]; exact ⟨hW, hL, lv_sub hl [0, 1] rfl, rfl⟩)
