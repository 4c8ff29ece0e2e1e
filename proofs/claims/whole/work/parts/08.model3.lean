theorem mOAD_r {D : KD} {nl nt ng : Nat} (h : mWF D nl nt ng) (l0 : Int32) : ∀ f k, f + k ≤ nt → r_X7_owesAtDoor_26 D nl nt ng l0 f k = -2 ∨ r_X7_owesAtDoor_26 D nl nt ng l0 f k = -1 ∨ vp_in (r_X7_owesAtDoor_26 D nl nt ng l0 f k) nl := by
  intro f
  induction f with
  | zero => intro k _; exact Or.inr (Or.inl rfl)
  | succ f ih =>
    intro k hk
    rw [r_X7_owesAtDoor_26_s]
    split
    · split
      · exact ih (k + 1) (by omega)
      · split
        · split
          · exact Or.inl rfl
          · exact Or.inr (Or.inr (h.frl (by omega)))
        · exact Or.inr (Or.inl rfl)
    · exact ih (k + 1) (by omega)
theorem mOAD_in {D : KD} {nl nt ng : Nat} (h : mWF D nl nt ng) (l0 : Int32) : s_X7_owesAtDoor D nl nt ng l0 = -2 ∨ s_X7_owesAtDoor D nl nt ng l0 = -1 ∨ vp_in (s_X7_owesAtDoor D nl nt ng l0) nl := by
  unfold s_X7_owesAtDoor
  split
  · exact Or.inr (Or.inl rfl)
  · split
    · exact mOAD_r h l0 _ 0 (by omega)
    · exact Or.inr (Or.inl rfl)
theorem mOwes_in {D : KD} {nl nt ng : Nat} (h : mWF D nl nt ng) (l0 ah : Int32) (ha : vp_in ah nl) : s_X7_owes D nl nt ng l0 ah = -2 ∨ s_X7_owes D nl nt ng l0 ah = -1 ∨ vp_in (s_X7_owes D nl nt ng l0 ah) nl := by
  unfold s_X7_owes
  split
  · exact Or.inl rfl
  · split
    · split
      · exact mOAD_in h l0
      · split
        · split
          · exact Or.inr (Or.inr ha)
          · exact mOAD_in h ah
        · split
          · exact Or.inr (Or.inl rfl)
          · exact Or.inr (Or.inr ha)
    · exact Or.inl rfl
theorem mOwed_e : ∀ i, i < 9 → ∀ j, j < 8 → 8 * ((nI i - 1) + 1) + nI j = nI (8 * i + j) := by decide
/-- the place of an owed sum -/
theorem mOwed_in {is l : Int32} (h1 : is = -2 ∨ is = -1 ∨ vp_in is 8) (h2 : ¬ is = -2) (hl : vp_in l 8) : vp_in (8 * (is + 1) + l) 72 := by
  obtain ⟨j, hj, rfl⟩ := vp_in_of hl (by decide)
  obtain ⟨i, hi, rfl⟩ : ∃ i, i < 9 ∧ is = nI i - 1 := by
    rcases h1 with q | q | q
    · exact absurd q h2
    · exact ⟨0, by decide, q⟩
    · obtain ⟨i, hi, rfl⟩ := vp_in_of q (by decide)
      exact ⟨i + 1, by omega, (nI_pred i).symm⟩
  rw [mOwed_e i hi j hj]
  exact vp_in_nI (by omega) (by decide)

def s_X7_waits (D : KD) (nl : Nat) (nt : Nat) (ng : Nat) (l0 : Int32) (ah : Int32) : KD := (if (s_X7_owes D nl nt ng l0 ah) = (-2) then (if (s_X7_owes D nl nt ng l0 ah) = (-1) then k_d (k_d (k_d (k_d (k_d D 15 6 (l0.toNatClampNeg) ((D 15 6 (l0.toNatClampNeg)) + 1)) 15 10 (l0.toNatClampNeg) (D 14 0 4)) 15 9 (l0.toNatClampNeg) (s_X7_owes D nl nt ng l0 ah)) 15 7 (l0.toNatClampNeg) ((D 15 7 (l0.toNatClampNeg)) + 1)) 14 0 5 ((D 14 0 5) + 1) else k_d (k_d (k_d (k_d D 15 6 (l0.toNatClampNeg) ((D 15 6 (l0.toNatClampNeg)) + 1)) 15 10 (l0.toNatClampNeg) (D 14 0 4)) 15 9 (l0.toNatClampNeg) (s_X7_owes D nl nt ng l0 ah)) 15 7 (l0.toNatClampNeg) ((D 15 7 (l0.toNatClampNeg)) + 1)) else (if (s_X7_owes D nl nt ng l0 ah) = (-1) then k_d (k_d (k_d (k_d (k_d D 15 6 (l0.toNatClampNeg) ((D 15 6 (l0.toNatClampNeg)) + 1)) 15 10 (l0.toNatClampNeg) (D 14 0 4)) 15 9 (l0.toNatClampNeg) (s_X7_owes D nl nt ng l0 ah)) 15 24 (((8 * ((s_X7_owes D nl nt ng l0 ah) + 1)) + l0).toNatClampNeg) ((D 15 24 (((8 * ((s_X7_owes D nl nt ng l0 ah) + 1)) + l0).toNatClampNeg)) + (D 15 3 (l0.toNatClampNeg)))) 14 0 5 ((D 14 0 5) + 1) else k_d (k_d (k_d (k_d D 15 6 (l0.toNatClampNeg) ((D 15 6 (l0.toNatClampNeg)) + 1)) 15 10 (l0.toNatClampNeg) (D 14 0 4)) 15 9 (l0.toNatClampNeg) (s_X7_owes D nl nt ng l0 ah)) 15 24 (((8 * ((s_X7_owes D nl nt ng l0 ah) + 1)) + l0).toNatClampNeg) ((D 15 24 (((8 * ((s_X7_owes D nl nt ng l0 ah) + 1)) + l0).toNatClampNeg)) + (D 15 3 (l0.toNatClampNeg)))))
set_option maxHeartbeats 4000000 in
set_option maxRecDepth 100000 in
theorem c_X7_waits (X : kX) (l : Launch) {n : Nat → Nat → Nat} {ad L : Nat → Nat → Nat → Nat} {C : Nat → Nat → Nat → Nat → Int32} {fr : Nat → Option Cell} {g : Nat} (hm : k_mod n g) (D : KD) (l0 : Int32) (ah : Int32) {nl nt ng : Nat} (hwf : mWF D nl nt ng) (hv_l0 : vp_in l0 8) (hv_ah : vp_in ah nl) : k_M X l yX7_waits wsX7_waits ({ frames := 5, cells := 0, slots := 0, locals := 102 }) [.ref (ad g 14 0), .int l0, .int ah] (k_W X n ad L (k_g C g D) fr) (fun v H => v = none ∧ k_W X n ad L (k_g C g (s_X7_waits D nl nt ng l0 ah)) fr H) 0 0 := by
  refine k_M.of (cc := cX7_waits) (maxL := 4) (ret := none) (by decide) rfl (Nat.le_of_ble_eq_true rfl) ?_
  intro p e s m args below meth c ls hx hb hr hml hown hts hlocks hnm hK hW hl
  have hL : ∀ q ∈ ([] : List Loc), k_B X ≤ q.base := fun _ h => nomatch h
  have hl : lv_has ls 4 [(0, .ref (ad g 14 0)), (1, .int l0), (2, .int ah)] := hl
  have fX7 : ∀ w ∈ u_ws RX7 TX7 34, w.before args s = true := fun w h => hts w ((by decide +kernel : ∀ w ∈ u_ws RX7 TX7 34, w ∈ wsX7_waits) w h)
  have hl8 := hwf.l8
  have ht16 := hwf.t16
  have hg4 := hwf.g4
  refine lv_aload_n hx hb dX7_waits_0 rfl (lv_at hl 0 rfl) ?_
  refine lv_iload_n hx hb dX7_waits_1 rfl (lv_at hl 1 rfl) ?_
  refine lv_iload_n hx hb dX7_waits_2 rfl (lv_at hl 2 rfl) ?_
  refine k_callV (As := [.int l0, .int ah]) (rest := []) ⟨hx, hb, hml, hown, hts⟩ hK (c_X7_owes X l hm D l0 ah hwf (by assumption) (hv_ah.mono hwf.l8)) (cwV 2 hts gX7_waits_X7_owes rfl rfl rfl (by decide +kernel) ⟨Nat.le_of_ble_eq_true rfl, Nat.le_of_ble_eq_true rfl⟩) (k_recv hK hW 14 0 hm.o (fun _ => rfl) rfl) hW rfl hl.1 rfl (Nat.le_of_ble_eq_true rfl) dX7_waits_3 ⟨Nat.le_of_ble_eq_true rfl, Nat.le_of_ble_eq_true rfl⟩ hL (fun v9 H locs hp hL => ?_)
  obtain ⟨rfl, hW⟩ := hp
  refine lv_istore_n (lv' := [(3, .int (s_X7_owes D nl nt ng l0 ah)), (0, .ref (ad g 14 0)), (1, .int l0), (2, .int ah)]) hx hb dX7_waits_6 rfl hl (by decide) rfl (fun ls hl => ?_)
  refine lv_aload_n hx hb dX7_waits_7 rfl (lv_at hl 1 rfl) ?_
  refine k_get (K := RX7) (T := TX7) (N := 34) (v := .ref (ad g 15 6)) (w := .ref (ad g 15 6)) hx hb fX7 hown hK hW 14 0 hm.o (fun _ => rfl) rfl 13 (by decide) (hts (.fieldLink RX7 29 "CrossdockeryModel" "waited" "[I") (by decide +kernel)) rfl rfl rfl dX7_waits_8 ?_
  refine lv_iload_n hx hb dX7_waits_11 rfl (lv_at hl 2 rfl) ?_
  refine lv_dup2_11 hx hb dX7_waits_12 rfl rfl ?_
  refine k_iald (z := 8) (k := (l0.toNatClampNeg)) hx hb hK hW 15 6 (hm.a (i := 6) (by decide)) (fun _ => rfl) rfl hv_l0 (v := (D 15 6 (l0.toNatClampNeg))) rfl dX7_waits_13 ?_
  refine lv_iconst (v := 1) hx hb dX7_waits_14 (by decide) ?_
  refine lv_iadd hx hb dX7_waits_15 ?_
  refine k_iast (z := 8) (k := (l0.toNatClampNeg)) hx hb hK hW hL 15 6 (hm.a (i := 6) (by decide)) (fun _ => rfl) rfl hv_l0 dX7_waits_16 (fun H locs hW hL => ?_)
  refine lv_aload_n hx hb dX7_waits_17 rfl (lv_at hl 1 rfl) ?_
  refine k_get (K := RX7) (T := TX7) (N := 34) (v := .ref (ad g 15 10)) (w := .ref (ad g 15 10)) hx hb fX7 hown hK hW 14 0 hm.o (fun _ => rfl) rfl 17 (by decide) (hts (.fieldLink RX7 41 "CrossdockeryModel" "lastWait" "[I") (by decide +kernel)) rfl rfl rfl dX7_waits_18 ?_
  refine lv_iload_n hx hb dX7_waits_21 rfl (lv_at hl 2 rfl) ?_
  refine lv_aload_n hx hb dX7_waits_22 rfl (lv_at hl 1 rfl) ?_
  refine k_get (K := RX7) (T := TX7) (N := 34) (v := .int ((k_d D 15 6 (l0.toNatClampNeg) ((D 15 6 (l0.toNatClampNeg)) + 1)) 14 0 4)) (w := .int (D 14 0 4)) hx hb fX7 hown hK hW 14 0 hm.o (fun _ => rfl) rfl 4 (by decide) (hts (.fieldLink RX7 121 "CrossdockeryModel" "now" "I") (by decide +kernel)) rfl rfl (congrArg Value.int (k_dr rfl)) dX7_waits_23 ?_
  refine k_iast (z := 8) (k := (l0.toNatClampNeg)) hx hb hK hW hL 15 10 (hm.a (i := 10) (by decide)) (fun _ => rfl) rfl hv_l0 dX7_waits_26 (fun H locs hW hL => ?_)
  refine lv_aload_n hx hb dX7_waits_27 rfl (lv_at hl 1 rfl) ?_
  refine k_get (K := RX7) (T := TX7) (N := 34) (v := .ref (ad g 15 9)) (w := .ref (ad g 15 9)) hx hb fX7 hown hK hW 14 0 hm.o (fun _ => rfl) rfl 16 (by decide) (hts (.fieldLink RX7 38 "CrossdockeryModel" "debtor" "[I") (by decide +kernel)) rfl rfl rfl dX7_waits_28 ?_
  refine lv_iload_n hx hb dX7_waits_31 rfl (lv_at hl 2 rfl) ?_
  refine lv_iload_n hx hb dX7_waits_32 rfl (lv_at hl 0 rfl) ?_
  refine k_iast (z := 8) (k := (l0.toNatClampNeg)) hx hb hK hW hL 15 9 (hm.a (i := 9) (by decide)) (fun _ => rfl) rfl hv_l0 dX7_waits_33 (fun H locs hW hL => ?_)
  refine lv_iload_n hx hb dX7_waits_34 rfl (lv_at hl 0 rfl) ?_
  refine lv_bipush (v := (-2)) hx hb dX7_waits_35 (by decide) ?_
  have hO37 := mOwes_in hwf l0 ah hv_ah
  have hO37 : s_X7_owes D nl nt ng l0 ah = -2 ∨ s_X7_owes D nl nt ng l0 ah = -1 ∨ vp_in (s_X7_owes D nl nt ng l0 ah) 8 := hO37.imp id (fun q => q.imp id (fun q => q.mono hwf.l8))
  refine lv_icmp_ne (tgt := 53) hx hb dX7_waits_37 (by decide) (fun c1 => ?_) (fun c1 => ?_)
  ·
    have hO65 := mOwed_in hO37 c1 hv_l0
    refine lv_aload_n hx hb dX7_waits_53 rfl (lv_at hl 1 rfl) ?_
    refine k_get (K := RX7) (T := TX7) (N := 34) (v := .ref (ad g 15 24)) (w := .ref (ad g 15 24)) hx hb fX7 hown hK hW 14 0 hm.o (fun _ => rfl) rfl 31 (by decide) (hts (.fieldLink RX7 84 "CrossdockeryModel" "owed" "[I") (by decide +kernel)) rfl rfl rfl dX7_waits_54 ?_
    refine lv_bipush (v := 8) hx hb dX7_waits_57 (by decide) ?_
    refine lv_iload_n hx hb dX7_waits_59 rfl (lv_at hl 0 rfl) ?_
    refine lv_iconst (v := 1) hx hb dX7_waits_60 (by decide) ?_
    refine lv_iadd hx hb dX7_waits_61 ?_
    refine lv_imul hx hb dX7_waits_62 ?_
    refine lv_iload_n hx hb dX7_waits_63 rfl (lv_at hl 2 rfl) ?_
    refine lv_iadd hx hb dX7_waits_64 ?_
    refine lv_dup2_11 hx hb dX7_waits_65 rfl rfl ?_
    refine k_iald (z := 72) (k := ((8 * ((s_X7_owes D nl nt ng l0 ah) + 1)) + l0).toNatClampNeg) hx hb hK hW 15 24 (hm.a (i := 24) (by decide)) (fun _ => rfl) rfl hO65 (v := (D 15 24 (((8 * ((s_X7_owes D nl nt ng l0 ah) + 1)) + l0).toNatClampNeg))) ((k_di rfl).trans ((k_di rfl).trans (k_di rfl))) dX7_waits_66 ?_
    refine lv_aload_n hx hb dX7_waits_67 rfl (lv_at hl 1 rfl) ?_
    refine k_get (K := RX7) (T := TX7) (N := 34) (v := .ref (ad g 15 3)) (w := .ref (ad g 15 3)) hx hb fX7 hown hK hW 14 0 hm.o (fun _ => rfl) rfl 10 (by decide) (hts (.fieldLink RX7 20 "CrossdockeryModel" "rate" "[I") (by decide +kernel)) rfl rfl rfl dX7_waits_68 ?_
    refine lv_iload_n hx hb dX7_waits_71 rfl (lv_at hl 2 rfl) ?_
    refine k_iald (z := 8) (k := (l0.toNatClampNeg)) hx hb hK hW 15 3 (hm.a (i := 3) (by decide)) (fun _ => rfl) rfl hv_l0 (v := (D 15 3 (l0.toNatClampNeg))) ((k_di rfl).trans ((k_di rfl).trans (k_di rfl))) dX7_waits_72 ?_
    refine lv_iadd hx hb dX7_waits_73 ?_
    refine k_iast (z := 72) (k := ((8 * ((s_X7_owes D nl nt ng l0 ah) + 1)) + l0).toNatClampNeg) hx hb hK hW hL 15 24 (hm.a (i := 24) (by decide)) (fun _ => rfl) rfl hO65 dX7_waits_74 (fun H locs hW hL => ?_)
    refine lv_iload_n hx hb dX7_waits_75 rfl (lv_at hl 0 rfl) ?_
    refine lv_iconst (v := (-1)) hx hb dX7_waits_76 (by decide) ?_
    refine lv_icmp_ne (tgt := 90) hx hb dX7_waits_77 (by decide) (fun c2 => ?_) (fun c2 => ?_)
    ·
      have e9 : (s_X7_waits D nl nt ng l0 ah) = k_d (k_d (k_d (k_d D 15 6 (l0.toNatClampNeg) ((D 15 6 (l0.toNatClampNeg)) + 1)) 15 10 (l0.toNatClampNeg) (D 14 0 4)) 15 9 (l0.toNatClampNeg) (s_X7_owes D nl nt ng l0 ah)) 15 24 (((8 * ((s_X7_owes D nl nt ng l0 ah) + 1)) + l0).toNatClampNeg) ((D 15 24 (((8 * ((s_X7_owes D nl nt ng l0 ah) + 1)) + l0).toNatClampNeg)) + (D 15 3 (l0.toNatClampNeg))) := by unfold s_X7_waits; first | done | (simp only [if_neg c1, if_neg c2]; done) | rfl
      exact k_vret hx hb hr hlocks (⟨rfl, by rw [e9]; exact hW⟩) hL dX7_waits_90
    ·
      refine lv_aload_n hx hb dX7_waits_80 rfl (lv_at hl 1 rfl) ?_
      refine lv_dup hx hb dX7_waits_81 rfl ?_
      refine k_get (K := RX7) (T := TX7) (N := 34) (v := .int ((k_d (k_d (k_d (k_d D 15 6 (l0.toNatClampNeg) ((D 15 6 (l0.toNatClampNeg)) + 1)) 15 10 (l0.toNatClampNeg) (D 14 0 4)) 15 9 (l0.toNatClampNeg) (s_X7_owes D nl nt ng l0 ah)) 15 24 (((8 * ((s_X7_owes D nl nt ng l0 ah) + 1)) + l0).toNatClampNeg) ((D 15 24 (((8 * ((s_X7_owes D nl nt ng l0 ah) + 1)) + l0).toNatClampNeg)) + (D 15 3 (l0.toNatClampNeg)))) 14 0 5)) (w := .int (D 14 0 5)) hx hb fX7 hown hK hW 14 0 hm.o (fun _ => rfl) rfl 5 (by decide) (hts (.fieldLink RX7 148 "CrossdockeryModel" "dockMinutes" "I") (by decide +kernel)) rfl rfl (congrArg Value.int ((k_dr rfl).trans ((k_dr rfl).trans ((k_dr rfl).trans (k_dr rfl))))) dX7_waits_82 ?_
      refine lv_iconst (v := 1) hx hb dX7_waits_85 (by decide) ?_
      refine lv_iadd hx hb dX7_waits_86 ?_
      refine k_put (K := RX7) (T := TX7) (N := 34) (x := ((D 14 0 5) + 1)) hx hb fX7 tyX7 tyX7_ok nmX7 hown hK hW hL 14 0 hm.o (fun _ => rfl) rfl 5 (by decide) (hts (.fieldLink RX7 148 "CrossdockeryModel" "dockMinutes" "I") (by decide +kernel)) rfl rfl rfl rfl (fun _ => Nat.le_of_ble_eq_true rfl) (fun _ _ => rfl) dX7_waits_87 (fun H locs hW hL => ?_)
      have e9 : (s_X7_waits D nl nt ng l0 ah) = k_d (k_d (k_d (k_d (k_d D 15 6 (l0.toNatClampNeg) ((D 15 6 (l0.toNatClampNeg)) + 1)) 15 10 (l0.toNatClampNeg) (D 14 0 4)) 15 9 (l0.toNatClampNeg) (s_X7_owes D nl nt ng l0 ah)) 15 24 (((8 * ((s_X7_owes D nl nt ng l0 ah) + 1)) + l0).toNatClampNeg) ((D 15 24 (((8 * ((s_X7_owes D nl nt ng l0 ah) + 1)) + l0).toNatClampNeg)) + (D 15 3 (l0.toNatClampNeg)))) 14 0 5 ((D 14 0 5) + 1) := by unfold s_X7_waits; first | done | (simp only [if_neg c1, if_pos c2]; done) | rfl
      exact k_vret hx hb hr hlocks (⟨rfl, by rw [e9]; exact hW⟩) hL dX7_waits_90
  ·
    refine lv_aload_n hx hb dX7_waits_40 rfl (lv_at hl 1 rfl) ?_
    refine k_get (K := RX7) (T := TX7) (N := 34) (v := .ref (ad g 15 7)) (w := .ref (ad g 15 7)) hx hb fX7 hown hK hW 14 0 hm.o (fun _ => rfl) rfl 14 (by decide) (hts (.fieldLink RX7 32 "CrossdockeryModel" "own" "[I") (by decide +kernel)) rfl rfl rfl dX7_waits_41 ?_
    refine lv_iload_n hx hb dX7_waits_44 rfl (lv_at hl 2 rfl) ?_
    refine lv_dup2_11 hx hb dX7_waits_45 rfl rfl ?_
    refine k_iald (z := 8) (k := (l0.toNatClampNeg)) hx hb hK hW 15 7 (hm.a (i := 7) (by decide)) (fun _ => rfl) rfl hv_l0 (v := (D 15 7 (l0.toNatClampNeg))) ((k_di rfl).trans ((k_di rfl).trans (k_di rfl))) dX7_waits_46 ?_
    refine lv_iconst (v := 1) hx hb dX7_waits_47 (by decide) ?_
    refine lv_iadd hx hb dX7_waits_48 ?_
    refine k_iast (z := 8) (k := (l0.toNatClampNeg)) hx hb hK hW hL 15 7 (hm.a (i := 7) (by decide)) (fun _ => rfl) rfl hv_l0 dX7_waits_49 (fun H locs hW hL => ?_)
    refine lv_goto (tgt := 75) hx hb dX7_waits_50 (by decide) ?_
    refine lv_iload_n hx hb dX7_waits_75 rfl (lv_at hl 0 rfl) ?_
    refine lv_iconst (v := (-1)) hx hb dX7_waits_76 (by decide) ?_
    refine lv_icmp_ne (tgt := 90) hx hb dX7_waits_77 (by decide) (fun c3 => ?_) (fun c3 => ?_)
    ·
      have e9 : (s_X7_waits D nl nt ng l0 ah) = k_d (k_d (k_d (k_d D 15 6 (l0.toNatClampNeg) ((D 15 6 (l0.toNatClampNeg)) + 1)) 15 10 (l0.toNatClampNeg) (D 14 0 4)) 15 9 (l0.toNatClampNeg) (s_X7_owes D nl nt ng l0 ah)) 15 7 (l0.toNatClampNeg) ((D 15 7 (l0.toNatClampNeg)) + 1) := by unfold s_X7_waits; first | done | (simp only [if_pos c1, if_neg c3]; done) | rfl
      exact k_vret hx hb hr hlocks (⟨rfl, by rw [e9]; exact hW⟩) hL dX7_waits_90
    ·
      refine lv_aload_n hx hb dX7_waits_80 rfl (lv_at hl 1 rfl) ?_
      refine lv_dup hx hb dX7_waits_81 rfl ?_
      refine k_get (K := RX7) (T := TX7) (N := 34) (v := .int ((k_d (k_d (k_d (k_d D 15 6 (l0.toNatClampNeg) ((D 15 6 (l0.toNatClampNeg)) + 1)) 15 10 (l0.toNatClampNeg) (D 14 0 4)) 15 9 (l0.toNatClampNeg) (s_X7_owes D nl nt ng l0 ah)) 15 7 (l0.toNatClampNeg) ((D 15 7 (l0.toNatClampNeg)) + 1)) 14 0 5)) (w := .int (D 14 0 5)) hx hb fX7 hown hK hW 14 0 hm.o (fun _ => rfl) rfl 5 (by decide) (hts (.fieldLink RX7 148 "CrossdockeryModel" "dockMinutes" "I") (by decide +kernel)) rfl rfl (congrArg Value.int ((k_dr rfl).trans ((k_dr rfl).trans ((k_dr rfl).trans (k_dr rfl))))) dX7_waits_82 ?_
      refine lv_iconst (v := 1) hx hb dX7_waits_85 (by decide) ?_
      refine lv_iadd hx hb dX7_waits_86 ?_
      refine k_put (K := RX7) (T := TX7) (N := 34) (x := ((D 14 0 5) + 1)) hx hb fX7 tyX7 tyX7_ok nmX7 hown hK hW hL 14 0 hm.o (fun _ => rfl) rfl 5 (by decide) (hts (.fieldLink RX7 148 "CrossdockeryModel" "dockMinutes" "I") (by decide +kernel)) rfl rfl rfl rfl (fun _ => Nat.le_of_ble_eq_true rfl) (fun _ _ => rfl) dX7_waits_87 (fun H locs hW hL => ?_)
      have e9 : (s_X7_waits D nl nt ng l0 ah) = k_d (k_d (k_d (k_d (k_d D 15 6 (l0.toNatClampNeg) ((D 15 6 (l0.toNatClampNeg)) + 1)) 15 10 (l0.toNatClampNeg) (D 14 0 4)) 15 9 (l0.toNatClampNeg) (s_X7_owes D nl nt ng l0 ah)) 15 7 (l0.toNatClampNeg) ((D 15 7 (l0.toNatClampNeg)) + 1)) 14 0 5 ((D 14 0 5) + 1) := by unfold s_X7_waits; first | done | (simp only [if_pos c1, if_pos c3]; done) | rfl
      exact k_vret hx hb hr hlocks (⟨rfl, by rw [e9]; exact hW⟩) hL dX7_waits_90
def s_X7_leaves (D : KD) (nl : Nat) (nt : Nat) (ng : Nat) (l0 : Int32) (mi : Int32) : KD := (if (D 15 11 (l0.toNatClampNeg)) = 100 then k_d (k_d (k_d D 15 23 ((D 15 4 (l0.toNatClampNeg)).toNatClampNeg) (-1)) 15 11 (l0.toNatClampNeg) 108) 15 8 (l0.toNatClampNeg) mi else k_d (k_d D 15 11 (l0.toNatClampNeg) 108) 15 8 (l0.toNatClampNeg) mi)
set_option maxHeartbeats 4000000 in
set_option maxRecDepth 100000 in
theorem c_X7_leaves (X : kX) (l : Launch) {n : Nat → Nat → Nat} {ad L : Nat → Nat → Nat → Nat} {C : Nat → Nat → Nat → Nat → Int32} {fr : Nat → Option Cell} {g : Nat} (hm : k_mod n g) (D : KD) (l0 : Int32) (mi : Int32) {nl nt ng : Nat} (hwf : mWF D nl nt ng) (hv_l0 : vp_in l0 8) (hdl : D 15 11 l0.toNatClampNeg = 100 → vp_in (D 15 4 l0.toNatClampNeg) 4) : k_M X l yX7_leaves wsX7_leaves ({ frames := 1, cells := 0, slots := 0, locals := 12 }) [.ref (ad g 14 0), .int l0, .int mi] (k_W X n ad L (k_g C g D) fr) (fun v H => v = none ∧ k_W X n ad L (k_g C g (s_X7_leaves D nl nt ng l0 mi)) fr H) 0 0 := by
  refine k_M.of (cc := cX7_leaves) (maxL := 3) (ret := none) (by decide) rfl (Nat.le_of_ble_eq_true rfl) ?_
  intro p e s m args below meth c ls hx hb hr hml hown hts hlocks hnm hK hW hl
  have hL : ∀ q ∈ ([] : List Loc), k_B X ≤ q.base := fun _ h => nomatch h
  have hl : lv_has ls 3 [(0, .ref (ad g 14 0)), (1, .int l0), (2, .int mi)] := hl
  have fX7 : ∀ w ∈ u_ws RX7 TX7 34, w.before args s = true := fun w h => hts w ((by decide +kernel : ∀ w ∈ u_ws RX7 TX7 34, w ∈ wsX7_leaves) w h)
  have hl8 := hwf.l8
  have ht16 := hwf.t16
  have hg4 := hwf.g4
  refine lv_aload_n hx hb dX7_leaves_0 rfl (lv_at hl 0 rfl) ?_
  refine k_get (K := RX7) (T := TX7) (N := 34) (v := .ref (ad g 15 11)) (w := .ref (ad g 15 11)) hx hb fX7 hown hK hW 14 0 hm.o (fun _ => rfl) rfl 18 (by decide) (hts (.fieldLink RX7 44 "CrossdockeryModel" "state" "[C") (by decide +kernel)) rfl rfl rfl dX7_leaves_1 ?_
  refine lv_iload_n hx hb dX7_leaves_4 rfl (lv_at hl 1 rfl) ?_
  refine k_cald (z := 8) (k := (l0.toNatClampNeg)) hx hb hK hW 15 11 (hm.a (i := 11) (by decide)) (fun _ => rfl) rfl hv_l0 (v := (D 15 11 (l0.toNatClampNeg))) rfl dX7_leaves_5 ?_
  refine lv_bipush (v := 100) hx hb dX7_leaves_6 (by decide) ?_
  refine lv_icmp_ne (tgt := 23) hx hb dX7_leaves_8 (by decide) (fun c1 => ?_) (fun c1 => ?_)
  ·
    refine lv_aload_n hx hb dX7_leaves_23 rfl (lv_at hl 0 rfl) ?_
    refine k_get (K := RX7) (T := TX7) (N := 34) (v := .ref (ad g 15 11)) (w := .ref (ad g 15 11)) hx hb fX7 hown hK hW 14 0 hm.o (fun _ => rfl) rfl 18 (by decide) (hts (.fieldLink RX7 44 "CrossdockeryModel" "state" "[C") (by decide +kernel)) rfl rfl rfl dX7_leaves_24 ?_
    refine lv_iload_n hx hb dX7_leaves_27 rfl (lv_at hl 1 rfl) ?_
    refine lv_bipush (v := 108) hx hb dX7_leaves_28 (by decide) ?_
    refine k_cast (z := 8) (k := (l0.toNatClampNeg)) hx hb hK hW hL 15 11 (hm.a (i := 11) (by decide)) (fun _ => rfl) (by decide) rfl hv_l0 dX7_leaves_30 (fun H locs hW hL => ?_)
    refine lv_aload_n hx hb dX7_leaves_31 rfl (lv_at hl 0 rfl) ?_
    refine k_get (K := RX7) (T := TX7) (N := 34) (v := .ref (ad g 15 8)) (w := .ref (ad g 15 8)) hx hb fX7 hown hK hW 14 0 hm.o (fun _ => rfl) rfl 15 (by decide) (hts (.fieldLink RX7 35 "CrossdockeryModel" "leftAt" "[I") (by decide +kernel)) rfl rfl rfl dX7_leaves_32 ?_
    refine lv_iload_n hx hb dX7_leaves_35 rfl (lv_at hl 1 rfl) ?_
    refine lv_iload_n hx hb dX7_leaves_36 rfl (lv_at hl 2 rfl) ?_
    refine k_iast (z := 8) (k := (l0.toNatClampNeg)) hx hb hK hW hL 15 8 (hm.a (i := 8) (by decide)) (fun _ => rfl) rfl hv_l0 dX7_leaves_37 (fun H locs hW hL => ?_)
    have e9 : (s_X7_leaves D nl nt ng l0 mi) = k_d (k_d D 15 11 (l0.toNatClampNeg) 108) 15 8 (l0.toNatClampNeg) mi := by unfold s_X7_leaves; first | done | (simp only [if_neg c1]; done) | rfl
    exact k_vret hx hb hr hlocks (⟨rfl, by rw [e9]; exact hW⟩) hL dX7_leaves_38
  ·
    have hdr8 := hdl c1
    refine lv_aload_n hx hb dX7_leaves_11 rfl (lv_at hl 0 rfl) ?_
    refine k_get (K := RX7) (T := TX7) (N := 34) (v := .ref (ad g 15 23)) (w := .ref (ad g 15 23)) hx hb fX7 hown hK hW 14 0 hm.o (fun _ => rfl) rfl 30 (by decide) (hts (.fieldLink RX7 81 "CrossdockeryModel" "inDoor" "[I") (by decide +kernel)) rfl rfl rfl dX7_leaves_12 ?_
    refine lv_aload_n hx hb dX7_leaves_15 rfl (lv_at hl 0 rfl) ?_
    refine k_get (K := RX7) (T := TX7) (N := 34) (v := .ref (ad g 15 4)) (w := .ref (ad g 15 4)) hx hb fX7 hown hK hW 14 0 hm.o (fun _ => rfl) rfl 11 (by decide) (hts (.fieldLink RX7 23 "CrossdockeryModel" "door" "[I") (by decide +kernel)) rfl rfl rfl dX7_leaves_16 ?_
    refine lv_iload_n hx hb dX7_leaves_19 rfl (lv_at hl 1 rfl) ?_
    refine k_iald (z := 8) (k := (l0.toNatClampNeg)) hx hb hK hW 15 4 (hm.a (i := 4) (by decide)) (fun _ => rfl) rfl hv_l0 (v := (D 15 4 (l0.toNatClampNeg))) rfl dX7_leaves_20 ?_
    refine lv_iconst (v := (-1)) hx hb dX7_leaves_21 (by decide) ?_
    refine k_iast (z := 4) (k := (D 15 4 (l0.toNatClampNeg)).toNatClampNeg) hx hb hK hW hL 15 23 (hm.a (i := 23) (by decide)) (fun _ => rfl) rfl hdr8 dX7_leaves_22 (fun H locs hW hL => ?_)
    refine lv_aload_n hx hb dX7_leaves_23 rfl (lv_at hl 0 rfl) ?_
    refine k_get (K := RX7) (T := TX7) (N := 34) (v := .ref (ad g 15 11)) (w := .ref (ad g 15 11)) hx hb fX7 hown hK hW 14 0 hm.o (fun _ => rfl) rfl 18 (by decide) (hts (.fieldLink RX7 44 "CrossdockeryModel" "state" "[C") (by decide +kernel)) rfl rfl rfl dX7_leaves_24 ?_
    refine lv_iload_n hx hb dX7_leaves_27 rfl (lv_at hl 1 rfl) ?_
    refine lv_bipush (v := 108) hx hb dX7_leaves_28 (by decide) ?_
    refine k_cast (z := 8) (k := (l0.toNatClampNeg)) hx hb hK hW hL 15 11 (hm.a (i := 11) (by decide)) (fun _ => rfl) (by decide) rfl hv_l0 dX7_leaves_30 (fun H locs hW hL => ?_)
    refine lv_aload_n hx hb dX7_leaves_31 rfl (lv_at hl 0 rfl) ?_
    refine k_get (K := RX7) (T := TX7) (N := 34) (v := .ref (ad g 15 8)) (w := .ref (ad g 15 8)) hx hb fX7 hown hK hW 14 0 hm.o (fun _ => rfl) rfl 15 (by decide) (hts (.fieldLink RX7 35 "CrossdockeryModel" "leftAt" "[I") (by decide +kernel)) rfl rfl rfl dX7_leaves_32 ?_
    refine lv_iload_n hx hb dX7_leaves_35 rfl (lv_at hl 1 rfl) ?_
    refine lv_iload_n hx hb dX7_leaves_36 rfl (lv_at hl 2 rfl) ?_
    refine k_iast (z := 8) (k := (l0.toNatClampNeg)) hx hb hK hW hL 15 8 (hm.a (i := 8) (by decide)) (fun _ => rfl) rfl hv_l0 dX7_leaves_37 (fun H locs hW hL => ?_)
    have e9 : (s_X7_leaves D nl nt ng l0 mi) = k_d (k_d (k_d D 15 23 ((D 15 4 (l0.toNatClampNeg)).toNatClampNeg) (-1)) 15 11 (l0.toNatClampNeg) 108) 15 8 (l0.toNatClampNeg) mi := by unfold s_X7_leaves; first | done | (simp only [if_pos c1]; done) | rfl
    exact k_vret hx hb hr hlocks (⟨rfl, by rw [e9]; exact hW⟩) hL dX7_leaves_38
theorem mWF_waits {D : KD} {nl nt ng : Nat} (h : mWF D nl nt ng) (l0 ah : Int32) : mWF (s_X7_waits D nl nt ng l0 ah) nl nt ng := by
  unfold s_X7_waits
  repeat' split
  all_goals first | exact h | skip
  all_goals repeat (first | exact h | refine mWF.put15 ?_ (by decide) | refine mWF.put14 ?_ (by decide))
theorem m1_waits {D : KD} {nl nt ng : Nat} {l0 ah : Int32} {j : Nat} (hj : j ≠ 6 ∧ j ≠ 7 ∧ j ≠ 9 ∧ j ≠ 10 ∧ j ≠ 24) : s_X7_waits D nl nt ng l0 ah 15 j = D 15 j := by
  unfold s_X7_waits
  repeat' split
  all_goals repeat (first | rfl | refine k_keep _ _ _ _ _ (fun q => absurd q.2 (by first | exact hj.1 | exact hj.2.1 | exact hj.2.2.1 | exact hj.2.2.2.1 | exact hj.2.2.2.2)) ?_ | refine k_keep _ _ _ _ _ (fun q => absurd q.1 (by decide)) ?_)
theorem mWF_leaves {D : KD} {nl nt ng : Nat} (h : mWF D nl nt ng) {l : Nat} (hl : l < nl) (hs : D 15 11 l = 100) (mi : Int32) : mWF (s_X7_leaves D nl nt ng (nI l) mi) nl nt ng := by
  have h8 := h.l8
  have ec : (nI l).toNatClampNeg = l := nI_clamp (by omega)
  have hdr := h.sdr hl (Or.inr hs)
  have hin := h.2.2.2.2.2.2.2.1 l hl hs
  obtain ⟨d, hd, ed⟩ := vp_in_of hdr (by decide)
  have ecd : (nI d).toNatClampNeg = d := nI_clamp (by omega)
  have e0 : s_X7_leaves D nl nt ng (nI l) mi = k_d (k_d (k_d D 15 23 d (-1)) 15 11 l 108) 15 8 l mi := by
    unfold s_X7_leaves
    rw [ec, if_pos hs, ed, ecd]
  rw [e0]
  refine mWF.put15 ?_ (by decide)
  rw [ed, ecd] at hin
  have a4 : k_d (k_d D 15 23 d (-1)) 15 11 l 108 15 4 = D 15 4 := k_keep _ _ _ _ _ (by decide) (k_keep _ _ _ _ _ (by decide) rfl)
  have a12 : k_d (k_d D 15 23 d (-1)) 15 11 l 108 15 12 = D 15 12 := k_keep _ _ _ _ _ (by decide) (k_keep _ _ _ _ _ (by decide) rfl)
  have a13 : k_d (k_d D 15 23 d (-1)) 15 11 l 108 15 13 = D 15 13 := k_keep _ _ _ _ _ (by decide) (k_keep _ _ _ _ _ (by decide) rfl)
  have a14 : k_d (k_d D 15 23 d (-1)) 15 11 l 108 14 0 = D 14 0 := by
    rw [k_d_off _ _ (by decide), k_d_off _ _ (by decide)]
  have a23 : k_d (k_d D 15 23 d (-1)) 15 11 l 108 15 23 = k_d D 15 23 d (-1) 15 23 := k_keep _ _ _ _ _ (by decide) rfl
  have a11 : k_d (k_d D 15 23 d (-1)) 15 11 l 108 15 11 = k_d D 15 11 l 108 15 11 := by
    rw [k_d_row, k_d_row, k_d_off _ _ (by decide)]
  have s11 : ∀ m, m ≠ l → k_d D 15 11 l 108 15 11 m = D 15 11 m := fun m hm => k_d_ne _ _ hm
  have s23 : ∀ m, m ≠ d → k_d D 15 23 d (-1) 15 23 m = D 15 23 m := fun m hm => k_d_ne _ _ hm
  obtain ⟨h1, h2, h3, h4, h5, h6, h7, h9, h10⟩ := h
  unfold mWF
  rw [a4, a12, a13, a14, a23, a11]
  refine ⟨h1, h2, h3, h4, h5, ?_, ?_, ?_, fun m hm => ?_⟩
  · intro m hm q
    by_cases e : m = l
    · subst e
      rw [k_d_at] at q
      rcases q with q | q <;> exact absurd q (by decide)
    · rw [s11 m e] at q
      exact h6 m hm q
  · intro e he
    by_cases q : e = d
    · subst q
      exact Or.inl (k_d_at _ _ _ _ _)
    · rw [s23 e q]
      rcases h7 e he with z | ⟨z1, z2, z3⟩
      · exact Or.inl z
      · refine Or.inr ⟨z1, ?_, z3⟩
        have hne : (D 15 23 e).toNatClampNeg ≠ l := by
          intro w
          rw [w, ed] at z3
          exact nI_ne (by omega) (by omega) (fun z => q z.symm) z3
        rw [s11 _ hne]
        exact z2
  · intro m hm q
    by_cases e : m = l
    · subst e
      rw [k_d_at] at q
      exact absurd q (by decide)
    · rw [s11 m e] at q
      have z := h9 m hm q
      have hne : (D 15 4 m).toNatClampNeg ≠ d := by
        intro w
        rw [w, hin] at z
        exact nI_ne (by omega) (by omega) (fun z => e z.symm) z
      rw [s23 _ hne]
      exact z
  · by_cases e : m = l
    · rw [e, k_d_at]
      exact Or.inr (Or.inr (Or.inr rfl))
    · rw [s11 m e]
      exact h10 m hm
theorem mWF_leavesY {D : KD} {nl nt ng : Nat} (h : mWF D nl nt ng) {l : Nat} (hl : l < nl) (hs : D 15 11 l = 121) (mi : Int32) : mWF (s_X7_leaves D nl nt ng (nI l) mi) nl nt ng := by
  have h8 := h.l8
  have ec : (nI l).toNatClampNeg = l := nI_clamp (by omega)
  have e0 : s_X7_leaves D nl nt ng (nI l) mi = k_d (k_d D 15 11 l 108) 15 8 l mi := by
    unfold s_X7_leaves
    rw [ec, if_neg (by rw [hs]; decide)]
  rw [e0]
  refine mWF.put15 ?_ (by decide)
  have a4 : k_d D 15 11 l 108 15 4 = D 15 4 := k_keep _ _ _ _ _ (by decide) rfl
  have a12 : k_d D 15 11 l 108 15 12 = D 15 12 := k_keep _ _ _ _ _ (by decide) rfl
  have a13 : k_d D 15 11 l 108 15 13 = D 15 13 := k_keep _ _ _ _ _ (by decide) rfl
  have a23 : k_d D 15 11 l 108 15 23 = D 15 23 := k_keep _ _ _ _ _ (by decide) rfl
  have a14 : k_d D 15 11 l 108 14 0 = D 14 0 := by rw [k_d_off _ _ (by decide)]
  have s11 : ∀ m, m ≠ l → k_d D 15 11 l 108 15 11 m = D 15 11 m := fun m hm => k_d_ne _ _ hm
  obtain ⟨h1, h2, h3, h4, h5, h6, h7, h9, h10⟩ := h
  unfold mWF
  rw [a4, a12, a13, a14, a23]
  refine ⟨h1, h2, h3, h4, h5, ?_, ?_, ?_, fun m hm => ?_⟩
  · intro m hm q
    by_cases e : m = l
    · subst e
      rw [k_d_at] at q
      rcases q with q | q <;> exact absurd q (by decide)
    · rw [s11 m e] at q
      exact h6 m hm q
  · intro e he
    rcases h7 e he with z | ⟨z1, z2, z3⟩
    · exact Or.inl z
    · refine Or.inr ⟨z1, ?_, z3⟩
      have hne : (D 15 23 e).toNatClampNeg ≠ l := by
        intro w
        rw [w, hs] at z2
        exact absurd z2 (by decide)
      rw [s11 _ hne]
      exact z2
  · intro m hm q
    by_cases e : m = l
    · subst e
      rw [k_d_at] at q
      exact absurd q (by decide)
    · rw [s11 m e] at q
      exact h9 m hm q
  · by_cases e : m = l
    · rw [e, k_d_at]
      exact Or.inr (Or.inr (Or.inr rfl))
    · rw [s11 m e]
      exact h10 m hm
theorem mWF_leaves2 {D : KD} {nl nt ng : Nat} (h : mWF D nl nt ng) {l0 : Int32} (hl : vp_in l0 nl) (hs : D 15 11 l0.toNatClampNeg = 121 ∨ D 15 11 l0.toNatClampNeg = 100) (mi : Int32) : mWF (s_X7_leaves D nl nt ng l0 mi) nl nt ng := by
  have h8 := h.l8
  rw [hl.eq (by omega)]
  rcases hs with hs | hs
  · exact mWF_leavesY h hl.lt hs mi
  · exact mWF_leaves h hl.lt hs mi

