theorem k_m1_in {k : Nat} (h : k ≤ 8) : nI k - 1 = -1 ∨ vp_in (nI k - 1) 8 := by
  cases k with
  | zero => exact Or.inl k_m1_0.symm
  | succ j =>
    rw [k_m1_j]
    exact Or.inr (vp_in_nI (by omega) (by decide))
def j_X7_balance_20 (D : KD) (nl : Nat) (nt : Nat) (ng : Nat) (who : Int32) : Int32 := (if (s_X7_isIn who (-1) ((D 14 0 1) - 1)) = 0 then 1 else 0)
def f_X7_balance_37 (D : KD) (nl : Nat) (nt : Nat) (ng : Nat) (who : Int32) (k37 : Nat) (z37 : Int64) : Int64 := (if who = (-1) then (if (nI k37 - 1) = (-1) then z37 else (z37 - ((D 15 24 (((8 * (who + 1)) + (nI k37 - 1)).toNatClampNeg)).toInt64))) else (if (nI k37 - 1) = (-1) then (z37 + ((D 15 24 (((8 * ((nI k37 - 1) + 1)) + who).toNatClampNeg)).toInt64)) else ((z37 + ((D 15 24 (((8 * ((nI k37 - 1) + 1)) + who).toNatClampNeg)).toInt64)) - ((D 15 24 (((8 * (who + 1)) + (nI k37 - 1)).toNatClampNeg)).toInt64))))
def l_X7_balance_37 (D : KD) (nl : Nat) (nt : Nat) (ng : Nat) (who : Int32) : Int64 := it (f_X7_balance_37 D nl nt ng who) (nl + 1) 0
def s_X7_balance (D : KD) (nl : Nat) (nt : Nat) (ng : Nat) (who : Int32) : KD × Int64 := (if (j_X7_balance_20 D nl nt ng who) = 0 then (k_d D 14 0 0 (j_X7_balance_20 D nl nt ng who), (l_X7_balance_37 D nl nt ng who)) else (k_d D 14 0 0 (j_X7_balance_20 D nl nt ng who), 0))
set_option maxHeartbeats 4000000 in
set_option maxRecDepth 100000 in
theorem c_X7_balance (X : kX) (l : Launch) {n : Nat → Nat → Nat} {ad L : Nat → Nat → Nat → Nat} {C : Nat → Nat → Nat → Nat → Int32} {fr : Nat → Option Cell} {g : Nat} (hm : k_mod n g) (D : KD) (who : Int32) {nl nt ng : Nat} (hwf : mWF D nl nt ng) : k_M X l yX7_balance wsX7_balance ({ frames := 2, cells := 0, slots := 0, locals := 34 }) [.ref (ad g 14 0), .int who] (k_W X n ad L (k_g C g D) fr) (fun v H => v = some (.long ((s_X7_balance D nl nt ng who).2)) ∧ k_W X n ad L (k_g C g ((s_X7_balance D nl nt ng who).1)) fr H) 0 0 := by
  refine k_M.of (cc := cX7_balance) (maxL := 5) (ret := (some .long)) (by decide) rfl (Nat.le_of_ble_eq_true rfl) ?_
  intro p e s m args below meth c ls hx hb hr hml hown hts hlocks hnm hK hW hl
  have hL : ∀ q ∈ ([] : List Loc), k_B X ≤ q.base := fun _ h => nomatch h
  have hl : lv_has ls 5 [(0, .ref (ad g 14 0)), (1, .int who)] := hl
  have fX7 : ∀ w ∈ u_ws RX7 TX7 34, w.before args s = true := fun w h => hts w ((by decide +kernel : ∀ w ∈ u_ws RX7 TX7 34, w ∈ wsX7_balance) w h)
  have hl8 := hwf.l8
  have ht16 := hwf.t16
  have hg4 := hwf.g4
  refine lv_aload_n hx hb dX7_balance_0 rfl (lv_at hl 0 rfl) ?_
  refine lv_iload_n hx hb dX7_balance_1 rfl (lv_at hl 1 rfl) ?_
  refine lv_iconst (v := (-1)) hx hb dX7_balance_2 (by decide) ?_
  refine lv_aload_n hx hb dX7_balance_3 rfl (lv_at hl 0 rfl) ?_
  refine k_get (K := RX7) (T := TX7) (N := 34) (v := .int (D 14 0 1)) (w := .int (D 14 0 1)) hx hb fX7 hown hK hW 14 0 hm.o (fun _ => rfl) rfl 1 (by decide) (hts (.fieldLink RX7 97 "CrossdockeryModel" "lorries" "I") (by decide +kernel)) rfl rfl rfl dX7_balance_4 ?_
  refine lv_iconst (v := 1) hx hb dX7_balance_7 (by decide) ?_
  refine lv_isub hx hb dX7_balance_8 ?_
  refine k_callS (As := [.int who, .int (-1), .int ((D 14 0 1) - 1)]) (rest := [.ref (ad g 14 0)]) ⟨hx, hb, hml, hown, hts⟩ hK (c_X7_isIn X l (k_W X n ad L (k_g C g D) fr) who (-1) ((D 14 0 1) - 1)) (va_cwS 3 hts gX7_balance_X7_isIn rfl rfl rfl (by decide +kernel) ⟨Nat.le_of_ble_eq_true rfl, Nat.le_of_ble_eq_true rfl⟩) hW rfl hl.1 rfl (Nat.le_of_ble_eq_true rfl) dX7_balance_9 ⟨Nat.le_of_ble_eq_true rfl, Nat.le_of_ble_eq_true rfl⟩ hL (fun v9 H locs hp hL => ?_)
  obtain ⟨rfl, hW⟩ := hp
  refine k_join (pc' := 20) (fun H locs ls st => k_W X n ad L (k_g C g D) fr H ∧ (∀ q ∈ locs, k_B X ≤ q.base) ∧ lv_has ls 5 [(0, .ref (ad g 14 0)), (1, .int who)] ∧ st = [.int (j_X7_balance_20 D nl nt ng who), .ref (ad g 14 0)]) (fun H locs ls st hJ => ?_) (fun join20 => ?_)
  ·
    obtain ⟨hW, hL, hl, rfl⟩ := hJ
    refine k_put (K := RX7) (T := TX7) (N := 34) (x := (j_X7_balance_20 D nl nt ng who)) hx hb fX7 tyX7 tyX7_ok nmX7 hown hK hW hL 14 0 hm.o (fun _ => rfl) rfl 0 (by decide) (hts (.fieldLink RX7 93 "CrossdockeryModel" "thrown" "I") (by decide +kernel)) rfl rfl rfl rfl (fun _ => Nat.le_of_ble_eq_true rfl) (fun _ _ => rfl) dX7_balance_20 (fun H locs hW hL => ?_)
    refine lv_aload_n hx hb dX7_balance_23 rfl (lv_at hl 0 rfl) ?_
    refine k_get (K := RX7) (T := TX7) (N := 34) (v := .int ((k_d D 14 0 0 (j_X7_balance_20 D nl nt ng who)) 14 0 0)) (w := .int (j_X7_balance_20 D nl nt ng who)) hx hb fX7 hown hK hW 14 0 hm.o (fun _ => rfl) rfl 0 (by decide) (hts (.fieldLink RX7 93 "CrossdockeryModel" "thrown" "I") (by decide +kernel)) rfl rfl (congrArg Value.int (k_ds)) dX7_balance_24 ?_
    refine lv_if_eq (tgt := 32) hx hb dX7_balance_27 (by decide) (fun c2 => ?_) (fun c2 => ?_)
    ·
      have hww := mWho_in hwf (fun q => by
        have z := c2
        unfold j_X7_balance_20 at z
        rw [if_pos q] at z
        exact absurd z (by decide))
      refine lv_lconst (v := 0) hx hb dX7_balance_32 (by decide) ?_
      refine lv_lstore_n (lv' := [(2, .long 0), (0, .ref (ad g 14 0)), (1, .int who)]) hx hb dX7_balance_33 rfl hl (by decide) rfl (fun ls hl => ?_)
      refine lv_iconst (v := (-1)) hx hb dX7_balance_34 (by decide) ?_
      refine lv_istore (lv' := [(4, .int (-1)), (2, .long 0), (0, .ref (ad g 14 0)), (1, .int who)]) hx hb dX7_balance_35 hl (by decide) rfl (fun ls hl => ?_)
      refine k_for ((nl + 1)) (fun k37 H locs ls => ∃ z37 : Int64, z37 = it (f_X7_balance_37 D nl nt ng who) k37 0 ∧ k_W X n ad L (k_g C g (k_d D 14 0 0 (j_X7_balance_20 D nl nt ng who))) fr H ∧ (∀ q ∈ locs, k_B X ≤ q.base) ∧ lv_has ls 5 [(4, .int (nI k37 - 1)), (2, .long z37), (0, .ref (ad g 14 0)), (1, .int who)]) 0 ⟨0, rfl, hW, hL, lv_sub hl [0, 1, 2, 3] rfl⟩ (Nat.zero_le _) (fun k37 hk37 ih37 H locs ls hI => ?_)
      obtain ⟨z37, hz37, hW, hL, hl⟩ := hI
      refine lv_iload hx hb dX7_balance_37 (lv_at hl 0 rfl) ?_
      refine lv_aload_n hx hb dX7_balance_39 rfl (lv_at hl 2 rfl) ?_
      refine k_get (K := RX7) (T := TX7) (N := 34) (v := .int ((k_d D 14 0 0 (j_X7_balance_20 D nl nt ng who)) 14 0 1)) (w := .int (D 14 0 1)) hx hb fX7 hown hK hW 14 0 hm.o (fun _ => rfl) rfl 1 (by decide) (hts (.fieldLink RX7 97 "CrossdockeryModel" "lorries" "I") (by decide +kernel)) rfl rfl (congrArg Value.int (k_dk rfl)) dX7_balance_40 ?_
      refine lv_icmp_ge (tgt := 99) hx hb dX7_balance_43 (by decide) (fun c3 => ?_) (fun c3 => ?_)
      ·
        rw [hwf.l] at c3
        have hge37 := k_m1_ge (by omega) (by omega) c3
        obtain rfl : (nl + 1) = k37 := by omega
        replace hz37 : z37 = (l_X7_balance_37 D nl nt ng who) := hz37
        subst hz37
        have hl : lv_has ls 5 [(4, .int (nI (nl + 1) - 1)), (2, .long (l_X7_balance_37 D nl nt ng who)), (0, .ref (ad g 14 0)), (1, .int who)] := hl
        refine lv_lload_n hx hb dX7_balance_99 rfl (lv_at hl 1 rfl) ?_
        have e9 : (s_X7_balance D nl nt ng who) = (k_d D 14 0 0 (j_X7_balance_20 D nl nt ng who), (l_X7_balance_37 D nl nt ng who)) := by unfold s_X7_balance; first | done | (simp only [if_pos c2]; done) | rfl
        exact k_lret hx hb hr hlocks (⟨by rw [e9], by rw [e9]; exact hW⟩) hL dX7_balance_100
      ·
        have hlt37 : k37 < (nl + 1) := k_m1_nge (by omega) (by omega) (by rw [hwf.l] at c3; exact c3)
        refine lv_iload_n hx hb dX7_balance_46 rfl (lv_at hl 3 rfl) ?_
        refine lv_iconst (v := (-1)) hx hb dX7_balance_47 (by decide) ?_
        refine lv_icmp_eq (tgt := 69) hx hb dX7_balance_48 (by decide) (fun c4 => ?_) (fun c4 => ?_)
        ·
          refine lv_iload hx hb dX7_balance_69 (lv_at hl 0 rfl) ?_
          refine lv_iconst (v := (-1)) hx hb dX7_balance_71 (by decide) ?_
          refine lv_icmp_eq (tgt := 93) hx hb dX7_balance_72 (by decide) (fun c5 => ?_) (fun c5 => ?_)
          ·
            refine lv_iinc (v := (nI (k37 + 1) - 1)) (k := 0) (lv' := [(4, .int (nI (k37 + 1) - 1)), (2, .long z37), (0, .ref (ad g 14 0)), (1, .int who)]) hx hb dX7_balance_93 hl rfl (k_m1_s _) (by decide) rfl (fun ls hl => ?_)
            refine lv_goto (tgt := 37) hx hb dX7_balance_96 (by decide) ?_
            have e9 : (f_X7_balance_37 D nl nt ng who) k37 z37 = z37 := by unfold f_X7_balance_37; first | done | (simp only [if_pos c4, if_pos c5]; done) | rfl
            exact ih37 _ _ _ hlt37 ⟨z37, by rw [it_s, ← hz37, e9], hW, hL, lv_sub hl [0, 1, 2, 3] rfl⟩
          ·
            refine lv_lload_n hx hb dX7_balance_75 rfl (lv_at hl 1 rfl) ?_
            refine lv_aload_n hx hb dX7_balance_76 rfl (lv_at hl 2 rfl) ?_
            refine k_get (K := RX7) (T := TX7) (N := 34) (v := .ref (ad g 15 24)) (w := .ref (ad g 15 24)) hx hb fX7 hown hK hW 14 0 hm.o (fun _ => rfl) rfl 31 (by decide) (hts (.fieldLink RX7 84 "CrossdockeryModel" "owed" "[I") (by decide +kernel)) rfl rfl rfl dX7_balance_77 ?_
            refine lv_bipush (v := 8) hx hb dX7_balance_80 (by decide) ?_
            refine lv_iload_n hx hb dX7_balance_82 rfl (lv_at hl 3 rfl) ?_
            refine lv_iconst (v := 1) hx hb dX7_balance_83 (by decide) ?_
            refine lv_iadd hx hb dX7_balance_84 ?_
            refine lv_imul hx hb dX7_balance_85 ?_
            refine lv_iload hx hb dX7_balance_86 (lv_at hl 0 rfl) ?_
            refine lv_iadd hx hb dX7_balance_88 ?_
            have hwb := mOwed_in2 (hww.imp id (fun q => q.mono hl8)) ((k_m1_in (k := k37) (by omega)).resolve_left (by assumption))
            refine k_iald (z := 72) (k := ((8 * (who + 1)) + (nI k37 - 1)).toNatClampNeg) hx hb hK hW 15 24 (hm.a (i := 24) (by decide)) (fun _ => rfl) rfl hwb (v := (D 15 24 (((8 * (who + 1)) + (nI k37 - 1)).toNatClampNeg))) (k_dr rfl) dX7_balance_89 ?_
            refine lv_i2l (v := (D 15 24 (((8 * (who + 1)) + (nI k37 - 1)).toNatClampNeg)).toInt64) hx hb dX7_balance_90 rfl ?_
            refine lv_lsub hx hb dX7_balance_91 ?_
            refine lv_lstore_n (lv' := [(2, .long (z37 - ((D 15 24 (((8 * (who + 1)) + (nI k37 - 1)).toNatClampNeg)).toInt64))), (4, .int (nI k37 - 1)), (0, .ref (ad g 14 0)), (1, .int who)]) hx hb dX7_balance_92 rfl hl (by decide) rfl (fun ls hl => ?_)
            refine lv_iinc (v := (nI (k37 + 1) - 1)) (k := 1) (lv' := [(4, .int (nI (k37 + 1) - 1)), (2, .long (z37 - ((D 15 24 (((8 * (who + 1)) + (nI k37 - 1)).toNatClampNeg)).toInt64))), (0, .ref (ad g 14 0)), (1, .int who)]) hx hb dX7_balance_93 hl rfl (k_m1_s _) (by decide) rfl (fun ls hl => ?_)
            refine lv_goto (tgt := 37) hx hb dX7_balance_96 (by decide) ?_
            have e9 : (f_X7_balance_37 D nl nt ng who) k37 z37 = (z37 - ((D 15 24 (((8 * (who + 1)) + (nI k37 - 1)).toNatClampNeg)).toInt64)) := by unfold f_X7_balance_37; first | done | (simp only [if_pos c4, if_neg c5]; done) | rfl
            exact ih37 _ _ _ hlt37 ⟨(z37 - ((D 15 24 (((8 * (who + 1)) + (nI k37 - 1)).toNatClampNeg)).toInt64)), by rw [it_s, ← hz37, e9], hW, hL, lv_sub hl [0, 1, 2, 3] rfl⟩
        ·
          refine lv_lload_n hx hb dX7_balance_51 rfl (lv_at hl 1 rfl) ?_
          refine lv_aload_n hx hb dX7_balance_52 rfl (lv_at hl 2 rfl) ?_
          refine k_get (K := RX7) (T := TX7) (N := 34) (v := .ref (ad g 15 24)) (w := .ref (ad g 15 24)) hx hb fX7 hown hK hW 14 0 hm.o (fun _ => rfl) rfl 31 (by decide) (hts (.fieldLink RX7 84 "CrossdockeryModel" "owed" "[I") (by decide +kernel)) rfl rfl rfl dX7_balance_53 ?_
          refine lv_bipush (v := 8) hx hb dX7_balance_56 (by decide) ?_
          refine lv_iload hx hb dX7_balance_58 (lv_at hl 0 rfl) ?_
          refine lv_iconst (v := 1) hx hb dX7_balance_60 (by decide) ?_
          refine lv_iadd hx hb dX7_balance_61 ?_
          refine lv_imul hx hb dX7_balance_62 ?_
          refine lv_iload_n hx hb dX7_balance_63 rfl (lv_at hl 3 rfl) ?_
          refine lv_iadd hx hb dX7_balance_64 ?_
          have hwa := mOwed_in2 (k_m1_in (k := k37) (by omega)) ((hww.resolve_left (by assumption)).mono hl8)
          refine k_iald (z := 72) (k := ((8 * ((nI k37 - 1) + 1)) + who).toNatClampNeg) hx hb hK hW 15 24 (hm.a (i := 24) (by decide)) (fun _ => rfl) rfl hwa (v := (D 15 24 (((8 * ((nI k37 - 1) + 1)) + who).toNatClampNeg))) (k_dr rfl) dX7_balance_65 ?_
          refine lv_i2l (v := (D 15 24 (((8 * ((nI k37 - 1) + 1)) + who).toNatClampNeg)).toInt64) hx hb dX7_balance_66 rfl ?_
          refine lv_ladd hx hb dX7_balance_67 ?_
          refine lv_lstore_n (lv' := [(2, .long (z37 + ((D 15 24 (((8 * ((nI k37 - 1) + 1)) + who).toNatClampNeg)).toInt64))), (4, .int (nI k37 - 1)), (0, .ref (ad g 14 0)), (1, .int who)]) hx hb dX7_balance_68 rfl hl (by decide) rfl (fun ls hl => ?_)
          refine lv_iload hx hb dX7_balance_69 (lv_at hl 1 rfl) ?_
          refine lv_iconst (v := (-1)) hx hb dX7_balance_71 (by decide) ?_
          refine lv_icmp_eq (tgt := 93) hx hb dX7_balance_72 (by decide) (fun c6 => ?_) (fun c6 => ?_)
          ·
            refine lv_iinc (v := (nI (k37 + 1) - 1)) (k := 1) (lv' := [(4, .int (nI (k37 + 1) - 1)), (2, .long (z37 + ((D 15 24 (((8 * ((nI k37 - 1) + 1)) + who).toNatClampNeg)).toInt64))), (0, .ref (ad g 14 0)), (1, .int who)]) hx hb dX7_balance_93 hl rfl (k_m1_s _) (by decide) rfl (fun ls hl => ?_)
            refine lv_goto (tgt := 37) hx hb dX7_balance_96 (by decide) ?_
            have e9 : (f_X7_balance_37 D nl nt ng who) k37 z37 = (z37 + ((D 15 24 (((8 * ((nI k37 - 1) + 1)) + who).toNatClampNeg)).toInt64)) := by unfold f_X7_balance_37; first | done | (simp only [if_neg c4, if_pos c6]; done) | rfl
            exact ih37 _ _ _ hlt37 ⟨(z37 + ((D 15 24 (((8 * ((nI k37 - 1) + 1)) + who).toNatClampNeg)).toInt64)), by rw [it_s, ← hz37, e9], hW, hL, lv_sub hl [0, 1, 2, 3] rfl⟩
          ·
            refine lv_lload_n hx hb dX7_balance_75 rfl (lv_at hl 0 rfl) ?_
            refine lv_aload_n hx hb dX7_balance_76 rfl (lv_at hl 2 rfl) ?_
            refine k_get (K := RX7) (T := TX7) (N := 34) (v := .ref (ad g 15 24)) (w := .ref (ad g 15 24)) hx hb fX7 hown hK hW 14 0 hm.o (fun _ => rfl) rfl 31 (by decide) (hts (.fieldLink RX7 84 "CrossdockeryModel" "owed" "[I") (by decide +kernel)) rfl rfl rfl dX7_balance_77 ?_
            refine lv_bipush (v := 8) hx hb dX7_balance_80 (by decide) ?_
            refine lv_iload_n hx hb dX7_balance_82 rfl (lv_at hl 3 rfl) ?_
            refine lv_iconst (v := 1) hx hb dX7_balance_83 (by decide) ?_
            refine lv_iadd hx hb dX7_balance_84 ?_
            refine lv_imul hx hb dX7_balance_85 ?_
            refine lv_iload hx hb dX7_balance_86 (lv_at hl 1 rfl) ?_
            refine lv_iadd hx hb dX7_balance_88 ?_
            have hwb := mOwed_in2 (hww.imp id (fun q => q.mono hl8)) ((k_m1_in (k := k37) (by omega)).resolve_left (by assumption))
            refine k_iald (z := 72) (k := ((8 * (who + 1)) + (nI k37 - 1)).toNatClampNeg) hx hb hK hW 15 24 (hm.a (i := 24) (by decide)) (fun _ => rfl) rfl hwb (v := (D 15 24 (((8 * (who + 1)) + (nI k37 - 1)).toNatClampNeg))) (k_dr rfl) dX7_balance_89 ?_
            refine lv_i2l (v := (D 15 24 (((8 * (who + 1)) + (nI k37 - 1)).toNatClampNeg)).toInt64) hx hb dX7_balance_90 rfl ?_
            refine lv_lsub hx hb dX7_balance_91 ?_
            refine lv_lstore_n (lv' := [(2, .long ((z37 + ((D 15 24 (((8 * ((nI k37 - 1) + 1)) + who).toNatClampNeg)).toInt64)) - ((D 15 24 (((8 * (who + 1)) + (nI k37 - 1)).toNatClampNeg)).toInt64))), (4, .int (nI k37 - 1)), (0, .ref (ad g 14 0)), (1, .int who)]) hx hb dX7_balance_92 rfl hl (by decide) rfl (fun ls hl => ?_)
            refine lv_iinc (v := (nI (k37 + 1) - 1)) (k := 1) (lv' := [(4, .int (nI (k37 + 1) - 1)), (2, .long ((z37 + ((D 15 24 (((8 * ((nI k37 - 1) + 1)) + who).toNatClampNeg)).toInt64)) - ((D 15 24 (((8 * (who + 1)) + (nI k37 - 1)).toNatClampNeg)).toInt64))), (0, .ref (ad g 14 0)), (1, .int who)]) hx hb dX7_balance_93 hl rfl (k_m1_s _) (by decide) rfl (fun ls hl => ?_)
            refine lv_goto (tgt := 37) hx hb dX7_balance_96 (by decide) ?_
            have e9 : (f_X7_balance_37 D nl nt ng who) k37 z37 = ((z37 + ((D 15 24 (((8 * ((nI k37 - 1) + 1)) + who).toNatClampNeg)).toInt64)) - ((D 15 24 (((8 * (who + 1)) + (nI k37 - 1)).toNatClampNeg)).toInt64)) := by unfold f_X7_balance_37; first | done | (simp only [if_neg c4, if_neg c6]; done) | rfl
            exact ih37 _ _ _ hlt37 ⟨((z37 + ((D 15 24 (((8 * ((nI k37 - 1) + 1)) + who).toNatClampNeg)).toInt64)) - ((D 15 24 (((8 * (who + 1)) + (nI k37 - 1)).toNatClampNeg)).toInt64)), by rw [it_s, ← hz37, e9], hW, hL, lv_sub hl [0, 1, 2, 3] rfl⟩
    ·
      refine lv_lconst (v := 0) hx hb dX7_balance_30 (by decide) ?_
      have e9 : (s_X7_balance D nl nt ng who) = (k_d D 14 0 0 (j_X7_balance_20 D nl nt ng who), 0) := by unfold s_X7_balance; first | done | (simp only [if_neg c2]; done) | rfl
      exact k_lret hx hb hr hlocks (⟨by rw [e9], by rw [e9]; exact hW⟩) hL dX7_balance_31
  ·
    refine lv_if_eq (tgt := 19) hx hb dX7_balance_12 (by decide) (fun c1 => ?_) (fun c1 => ?_)
    ·
      refine lv_iconst (v := 1) hx hb dX7_balance_19 (by decide) ?_
      have e9 : (j_X7_balance_20 D nl nt ng who) = 1 := by unfold j_X7_balance_20; first | done | (simp only [if_pos c1]; done) | rfl
      exact join20 _ _ _ _ (by rw [e9]; exact ⟨hW, hL, lv_sub hl [0, 1] rfl, rfl⟩)
    ·
      refine lv_iconst (v := 0) hx hb dX7_balance_15 (by decide) ?_
      refine lv_goto (tgt := 20) hx hb dX7_balance_16 (by decide) ?_
      have e9 : (j_X7_balance_20 D nl nt ng who) = 0 := by unfold j_X7_balance_20; first | done | (simp only [if_neg c1]; done) | rfl
      exact join20 _ _ _ _ (by rw [e9]; exact ⟨hW, hL, lv_sub hl [0, 1] rfl, rfl⟩)
