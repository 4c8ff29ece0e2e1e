def j_X7_waysOf4_57 (D : KD) (nl : Nat) (nt : Nat) (ng : Nat) (k4 : Nat) (z4 : Int32) : Int32 := (if (D 15 4 ((D 15 12 k4).toNatClampNeg)) = (-1) then 0 else (if (D 15 4 ((D 15 13 k4).toNatClampNeg)) = (-1) then 0 else ((D 15 4 ((D 15 12 k4).toNatClampNeg)) - (D 15 4 ((D 15 13 k4).toNatClampNeg)))))
def j_X7_waysOf4_79 (D : KD) (nl : Nat) (nt : Nat) (ng : Nat) (k4 : Nat) (z4 : Int32) : Int32 := (if (j_X7_waysOf4_57 D nl nt ng k4 z4) ≥ 0 then (j_X7_waysOf4_57 D nl nt ng k4 z4) else (-(j_X7_waysOf4_57 D nl nt ng k4 z4)))
def f_X7_waysOf4_4 (D : KD) (nl : Nat) (nt : Nat) (ng : Nat) (k4 : Nat) (z4 : Int32) : Int32 := (z4 + ((D 15 14 k4) * (j_X7_waysOf4_79 D nl nt ng k4 z4)))
def l_X7_waysOf4_4 (D : KD) (nl : Nat) (nt : Nat) (ng : Nat) : Int32 := it (f_X7_waysOf4_4 D nl nt ng) nt 0
def s_X7_waysOf4 (D : KD) (nl : Nat) (nt : Nat) (ng : Nat) : Int32 := (l_X7_waysOf4_4 D nl nt ng)
set_option maxHeartbeats 400000 in
set_option maxRecDepth 100000 in
theorem c_X7_waysOf4 (X : kX) (l : Launch) {n : Nat → Nat → Nat} {ad L : Nat → Nat → Nat → Nat} {C : Nat → Nat → Nat → Nat → Int32} {fr : Nat → Option Cell} {g : Nat} (hm : k_mod n g) (D : KD) {nl nt ng : Nat} (hwf : mWF D nl nt ng) : k_M X l yX7_waysOf wsX7_waysOf ({ frames := 1, cells := 0, slots := 0, locals := 12 }) [.ref (ad g 14 0), .ref (ad g 15 4)] (k_W X n ad L (k_g C g D) fr) (fun v H => v = some (.int (s_X7_waysOf4 D nl nt ng)) ∧ k_W X n ad L (k_g C g D) fr H) 0 0 := by
  refine k_M.of (cc := cX7_waysOf) (maxL := 5) (ret := (some .int)) (by decide) rfl (Nat.le_of_ble_eq_true rfl) ?_
  intro p e s m args below meth c ls hx hb hr hml hown hts hlocks hnm hK hW hl
  have hL : ∀ q ∈ ([] : List Loc), k_B X ≤ q.base := fun _ h => nomatch h
  have hl : lv_has ls 5 [(0, .ref (ad g 14 0)), (1, .ref (ad g 15 4))] := hl
  have fX7 : ∀ w ∈ u_ws RX7 TX7 34, w.before args s = true := fun w h => hts w ((by decide +kernel : ∀ w ∈ u_ws RX7 TX7 34, w ∈ wsX7_waysOf) w h)
  have hl8 := hwf.l8
  have ht16 := hwf.t16
  have hg4 := hwf.g4
  refine lv_iconst (v := 0) hx hb dX7_waysOf_0 (by decide) ?_
  refine lv_istore_n (lv' := [(2, .int 0), (0, .ref (ad g 14 0)), (1, .ref (ad g 15 4))]) hx hb dX7_waysOf_1 rfl hl (by decide) rfl (fun ls hl => ?_)
  refine lv_iconst (v := 0) hx hb dX7_waysOf_2 (by decide) ?_
  refine lv_istore_n (lv' := [(3, .int 0), (2, .int 0), (0, .ref (ad g 14 0)), (1, .ref (ad g 15 4))]) hx hb dX7_waysOf_3 rfl hl (by decide) rfl (fun ls hl => ?_)
  refine k_for (nt) (fun k4 H locs ls => ∃ z4 : Int32, z4 = it (f_X7_waysOf4_4 D nl nt ng) k4 0 ∧ k_W X n ad L (k_g C g D) fr H ∧ (∀ q ∈ locs, k_B X ≤ q.base) ∧ lv_has ls 5 [(3, .int (nI k4)), (2, .int z4), (0, .ref (ad g 14 0)), (1, .ref (ad g 15 4))]) 0 ⟨0, rfl, hW, hL, lv_sub hl [0, 1, 2, 3] rfl⟩ (Nat.zero_le _) (fun k4 hk4 ih4 H locs ls hI => ?_)
  obtain ⟨z4, hz4, hW, hL, hl⟩ := hI
  refine lv_iload_n hx hb dX7_waysOf_4 rfl (lv_at hl 0 rfl) ?_
  refine lv_aload_n hx hb dX7_waysOf_5 rfl (lv_at hl 2 rfl) ?_
  refine k_get (K := RX7) (T := TX7) (N := 34) (v := .int (D 14 0 2)) (w := .int (D 14 0 2)) hx hb fX7 hown hK hW 14 0 hm.o (fun _ => rfl) rfl 2 (by decide) (hts (.fieldLink RX7 115 "CrossdockeryModel" "transfers" "I") (by decide +kernel)) rfl rfl rfl dX7_waysOf_6 ?_
  refine lv_icmp_ge (tgt := 88) hx hb dX7_waysOf_9 (by decide) (fun c1 => ?_) (fun c1 => ?_)
  ·
    rw [hwf.t] at c1
    have hge4 := k_nI_ge (by omega) (by omega) c1
    obtain rfl : nt = k4 := by omega
    replace hz4 : z4 = (l_X7_waysOf4_4 D nl nt ng) := hz4
    subst hz4
    have hl : lv_has ls 5 [(3, .int (nI nt)), (2, .int (l_X7_waysOf4_4 D nl nt ng)), (0, .ref (ad g 14 0)), (1, .ref (ad g 15 4))] := hl
    refine lv_iload_n hx hb dX7_waysOf_88 rfl (lv_at hl 1 rfl) ?_
    have e9 : (s_X7_waysOf4 D nl nt ng) = (l_X7_waysOf4_4 D nl nt ng) := by unfold s_X7_waysOf4; first | done | rfl
    exact k_iret hx hb hr hlocks (⟨by rw [e9], hW⟩) hL dX7_waysOf_89
  ·
    have hlt4 : k4 < nt := k_nI_nge (by omega) (by omega) (by rw [hwf.t] at c1; exact c1)
    refine lv_aload_n hx hb dX7_waysOf_12 rfl (lv_at hl 3 rfl) ?_
    refine lv_aload_n hx hb dX7_waysOf_13 rfl (lv_at hl 2 rfl) ?_
    refine k_get (K := RX7) (T := TX7) (N := 34) (v := .ref (ad g 15 12)) (w := .ref (ad g 15 12)) hx hb fX7 hown hK hW 14 0 hm.o (fun _ => rfl) rfl 19 (by decide) (hts (.fieldLink RX7 48 "CrossdockeryModel" "from" "[I") (by decide +kernel)) rfl rfl rfl dX7_waysOf_14 ?_
    refine lv_iload_n hx hb dX7_waysOf_17 rfl (lv_at hl 0 rfl) ?_
    refine k_iald (z := 16) (k := k4) hx hb hK hW 15 12 (hm.a (i := 12) (by decide)) (fun _ => rfl) (nI_clamp (by omega)) (vp_in_nI (by omega) (by decide)) (v := (D 15 12 k4)) rfl dX7_waysOf_18 ?_
    refine k_iald (z := 8) (k := ((D 15 12 k4).toNatClampNeg)) hx hb hK hW 15 4 (hm.a (i := 4) (by decide)) (fun _ => rfl) rfl (hwf.fr (by omega)) (v := (D 15 4 ((D 15 12 k4).toNatClampNeg))) rfl dX7_waysOf_19 ?_
    refine lv_iconst (v := (-1)) hx hb dX7_waysOf_20 (by decide) ?_
    refine k_join (pc' := 57) (fun H locs ls st => k_W X n ad L (k_g C g D) fr H ∧ (∀ q ∈ locs, k_B X ≤ q.base) ∧ lv_has ls 5 [(3, .int (nI k4)), (2, .int z4), (0, .ref (ad g 14 0)), (1, .ref (ad g 15 4))] ∧ st = [.int (j_X7_waysOf4_57 D nl nt ng k4 z4)]) (fun H locs ls st hJ => ?_) (fun join57 => ?_)
    ·
      obtain ⟨hW, hL, hl, rfl⟩ := hJ
      refine lv_istore (lv' := [(4, .int (j_X7_waysOf4_57 D nl nt ng k4 z4)), (3, .int (nI k4)), (2, .int z4), (0, .ref (ad g 14 0)), (1, .ref (ad g 15 4))]) hx hb dX7_waysOf_57 hl (by decide) rfl (fun ls hl => ?_)
      refine lv_iload_n hx hb dX7_waysOf_59 rfl (lv_at hl 2 rfl) ?_
      refine lv_aload_n hx hb dX7_waysOf_60 rfl (lv_at hl 3 rfl) ?_
      refine k_get (K := RX7) (T := TX7) (N := 34) (v := .ref (ad g 15 14)) (w := .ref (ad g 15 14)) hx hb fX7 hown hK hW 14 0 hm.o (fun _ => rfl) rfl 21 (by decide) (hts (.fieldLink RX7 54 "CrossdockeryModel" "units" "[I") (by decide +kernel)) rfl rfl rfl dX7_waysOf_61 ?_
      refine lv_iload_n hx hb dX7_waysOf_64 rfl (lv_at hl 1 rfl) ?_
      refine k_iald (z := 16) (k := k4) hx hb hK hW 15 14 (hm.a (i := 14) (by decide)) (fun _ => rfl) (nI_clamp (by omega)) (vp_in_nI (by omega) (by decide)) (v := (D 15 14 k4)) rfl dX7_waysOf_65 ?_
      refine lv_iload hx hb dX7_waysOf_66 (lv_at hl 0 rfl) ?_
      refine k_join (pc' := 79) (fun H locs ls st => k_W X n ad L (k_g C g D) fr H ∧ (∀ q ∈ locs, k_B X ≤ q.base) ∧ lv_has ls 5 [(4, .int (j_X7_waysOf4_57 D nl nt ng k4 z4)), (3, .int (nI k4)), (2, .int z4), (0, .ref (ad g 14 0)), (1, .ref (ad g 15 4))] ∧ st = [.int (j_X7_waysOf4_79 D nl nt ng k4 z4), .int (D 15 14 k4), .int z4]) (fun H locs ls st hJ => ?_) (fun join79 => ?_)
      ·
        obtain ⟨hW, hL, hl, rfl⟩ := hJ
        refine lv_imul hx hb dX7_waysOf_79 ?_
        refine lv_iadd hx hb dX7_waysOf_80 ?_
        refine lv_istore_n (lv' := [(2, .int (z4 + ((D 15 14 k4) * (j_X7_waysOf4_79 D nl nt ng k4 z4)))), (4, .int (j_X7_waysOf4_57 D nl nt ng k4 z4)), (3, .int (nI k4)), (0, .ref (ad g 14 0)), (1, .ref (ad g 15 4))]) hx hb dX7_waysOf_81 rfl hl (by decide) rfl (fun ls hl => ?_)
        refine lv_iinc (v := (nI (k4 + 1))) (k := 2) (lv' := [(3, .int (nI (k4 + 1))), (2, .int (z4 + ((D 15 14 k4) * (j_X7_waysOf4_79 D nl nt ng k4 z4)))), (4, .int (j_X7_waysOf4_57 D nl nt ng k4 z4)), (0, .ref (ad g 14 0)), (1, .ref (ad g 15 4))]) hx hb dX7_waysOf_82 hl rfl (nI_1 _) (by decide) rfl (fun ls hl => ?_)
        refine lv_goto (tgt := 4) hx hb dX7_waysOf_85 (by decide) ?_
        have e9 : (f_X7_waysOf4_4 D nl nt ng) k4 z4 = (z4 + ((D 15 14 k4) * (j_X7_waysOf4_79 D nl nt ng k4 z4))) := by unfold f_X7_waysOf4_4; first | done | rfl
        exact ih4 _ _ _ hlt4 ⟨(z4 + ((D 15 14 k4) * (j_X7_waysOf4_79 D nl nt ng k4 z4))), by rw [it_s, ← hz4, e9], hW, hL, lv_sub hl [0, 1, 3, 4] rfl⟩
      ·
        refine lv_if_ge (tgt := 77) hx hb dX7_waysOf_68 (by decide) (fun c4 => ?_) (fun c4 => ?_)
        ·
          refine lv_iload hx hb dX7_waysOf_77 (lv_at hl 0 rfl) ?_
          have e9 : (j_X7_waysOf4_79 D nl nt ng k4 z4) = (j_X7_waysOf4_57 D nl nt ng k4 z4) := by unfold j_X7_waysOf4_79; first | done | (simp only [if_pos c4]; done) | rfl
          exact join79 _ _ _ _ (by rw [e9]; exact ⟨hW, hL, lv_sub hl [0, 1, 2, 3, 4] rfl, rfl⟩)
        ·
          refine lv_iload hx hb dX7_waysOf_71 (lv_at hl 0 rfl) ?_
          refine lv_ineg hx hb dX7_waysOf_73 ?_
          refine lv_goto (tgt := 79) hx hb dX7_waysOf_74 (by decide) ?_
          have e9 : (j_X7_waysOf4_79 D nl nt ng k4 z4) = (-(j_X7_waysOf4_57 D nl nt ng k4 z4)) := by unfold j_X7_waysOf4_79; first | done | (simp only [if_neg c4]; done) | rfl
          exact join79 _ _ _ _ (by rw [e9]; exact ⟨hW, hL, lv_sub hl [0, 1, 2, 3, 4] rfl, rfl⟩)
    ·
      refine lv_icmp_eq (tgt := 36) hx hb dX7_waysOf_21 (by decide) (fun c2 => ?_) (fun c2 => ?_)
      ·
        refine lv_iconst (v := 0) hx hb dX7_waysOf_36 (by decide) ?_
        refine lv_goto (tgt := 57) hx hb dX7_waysOf_37 (by decide) ?_
        have e9 : (j_X7_waysOf4_57 D nl nt ng k4 z4) = 0 := by unfold j_X7_waysOf4_57; first | done | (simp only [if_pos c2]; done) | rfl
        exact join57 _ _ _ _ (by rw [e9]; exact ⟨hW, hL, lv_sub hl [0, 1, 2, 3] rfl, rfl⟩)
      ·
        refine lv_aload_n hx hb dX7_waysOf_24 rfl (lv_at hl 3 rfl) ?_
        refine lv_aload_n hx hb dX7_waysOf_25 rfl (lv_at hl 2 rfl) ?_
        refine k_get (K := RX7) (T := TX7) (N := 34) (v := .ref (ad g 15 13)) (w := .ref (ad g 15 13)) hx hb fX7 hown hK hW 14 0 hm.o (fun _ => rfl) rfl 20 (by decide) (hts (.fieldLink RX7 51 "CrossdockeryModel" "to" "[I") (by decide +kernel)) rfl rfl rfl dX7_waysOf_26 ?_
        refine lv_iload_n hx hb dX7_waysOf_29 rfl (lv_at hl 0 rfl) ?_
        refine k_iald (z := 16) (k := k4) hx hb hK hW 15 13 (hm.a (i := 13) (by decide)) (fun _ => rfl) (nI_clamp (by omega)) (vp_in_nI (by omega) (by decide)) (v := (D 15 13 k4)) rfl dX7_waysOf_30 ?_
        refine k_iald (z := 8) (k := ((D 15 13 k4).toNatClampNeg)) hx hb hK hW 15 4 (hm.a (i := 4) (by decide)) (fun _ => rfl) rfl (hwf.to (by omega)) (v := (D 15 4 ((D 15 13 k4).toNatClampNeg))) rfl dX7_waysOf_31 ?_
        refine lv_iconst (v := (-1)) hx hb dX7_waysOf_32 (by decide) ?_
        refine lv_icmp_ne (tgt := 40) hx hb dX7_waysOf_33 (by decide) (fun c3 => ?_) (fun c3 => ?_)
        ·
          refine lv_aload_n hx hb dX7_waysOf_40 rfl (lv_at hl 3 rfl) ?_
          refine lv_aload_n hx hb dX7_waysOf_41 rfl (lv_at hl 2 rfl) ?_
          refine k_get (K := RX7) (T := TX7) (N := 34) (v := .ref (ad g 15 12)) (w := .ref (ad g 15 12)) hx hb fX7 hown hK hW 14 0 hm.o (fun _ => rfl) rfl 19 (by decide) (hts (.fieldLink RX7 48 "CrossdockeryModel" "from" "[I") (by decide +kernel)) rfl rfl rfl dX7_waysOf_42 ?_
          refine lv_iload_n hx hb dX7_waysOf_45 rfl (lv_at hl 0 rfl) ?_
          refine k_iald (z := 16) (k := k4) hx hb hK hW 15 12 (hm.a (i := 12) (by decide)) (fun _ => rfl) (nI_clamp (by omega)) (vp_in_nI (by omega) (by decide)) (v := (D 15 12 k4)) rfl dX7_waysOf_46 ?_
          refine k_iald (z := 8) (k := ((D 15 12 k4).toNatClampNeg)) hx hb hK hW 15 4 (hm.a (i := 4) (by decide)) (fun _ => rfl) rfl (hwf.fr (by omega)) (v := (D 15 4 ((D 15 12 k4).toNatClampNeg))) rfl dX7_waysOf_47 ?_
          refine lv_aload_n hx hb dX7_waysOf_48 rfl (lv_at hl 3 rfl) ?_
          refine lv_aload_n hx hb dX7_waysOf_49 rfl (lv_at hl 2 rfl) ?_
          refine k_get (K := RX7) (T := TX7) (N := 34) (v := .ref (ad g 15 13)) (w := .ref (ad g 15 13)) hx hb fX7 hown hK hW 14 0 hm.o (fun _ => rfl) rfl 20 (by decide) (hts (.fieldLink RX7 51 "CrossdockeryModel" "to" "[I") (by decide +kernel)) rfl rfl rfl dX7_waysOf_50 ?_
          refine lv_iload_n hx hb dX7_waysOf_53 rfl (lv_at hl 0 rfl) ?_
          refine k_iald (z := 16) (k := k4) hx hb hK hW 15 13 (hm.a (i := 13) (by decide)) (fun _ => rfl) (nI_clamp (by omega)) (vp_in_nI (by omega) (by decide)) (v := (D 15 13 k4)) rfl dX7_waysOf_54 ?_
          refine k_iald (z := 8) (k := ((D 15 13 k4).toNatClampNeg)) hx hb hK hW 15 4 (hm.a (i := 4) (by decide)) (fun _ => rfl) rfl (hwf.to (by omega)) (v := (D 15 4 ((D 15 13 k4).toNatClampNeg))) rfl dX7_waysOf_55 ?_
          refine lv_isub hx hb dX7_waysOf_56 ?_
          have e9 : (j_X7_waysOf4_57 D nl nt ng k4 z4) = ((D 15 4 ((D 15 12 k4).toNatClampNeg)) - (D 15 4 ((D 15 13 k4).toNatClampNeg))) := by unfold j_X7_waysOf4_57; first | done | (simp only [if_neg c2, if_neg c3]; done) | rfl
          exact join57 _ _ _ _ (by rw [e9]; exact ⟨hW, hL, lv_sub hl [0, 1, 2, 3] rfl, rfl⟩)
        ·
          refine lv_iconst (v := 0) hx hb dX7_waysOf_36 (by decide) ?_
          refine lv_goto (tgt := 57) hx hb dX7_waysOf_37 (by decide) ?_
          have e9 : (j_X7_waysOf4_57 D nl nt ng k4 z4) = 0 := by unfold j_X7_waysOf4_57; first | done | (simp only [if_neg c2, if_pos c3]; done) | rfl
          exact join57 _ _ _ _ (by rw [e9]; exact ⟨hW, hL, lv_sub hl [0, 1, 2, 3] rfl, rfl⟩)
def j_X7_waysOf25_57 (D : KD) (nl : Nat) (nt : Nat) (ng : Nat) (k4 : Nat) (z4 : Int32) : Int32 := (if (D 15 25 ((D 15 12 k4).toNatClampNeg)) = (-1) then 0 else (if (D 15 25 ((D 15 13 k4).toNatClampNeg)) = (-1) then 0 else ((D 15 25 ((D 15 12 k4).toNatClampNeg)) - (D 15 25 ((D 15 13 k4).toNatClampNeg)))))
def j_X7_waysOf25_79 (D : KD) (nl : Nat) (nt : Nat) (ng : Nat) (k4 : Nat) (z4 : Int32) : Int32 := (if (j_X7_waysOf25_57 D nl nt ng k4 z4) ≥ 0 then (j_X7_waysOf25_57 D nl nt ng k4 z4) else (-(j_X7_waysOf25_57 D nl nt ng k4 z4)))
def f_X7_waysOf25_4 (D : KD) (nl : Nat) (nt : Nat) (ng : Nat) (k4 : Nat) (z4 : Int32) : Int32 := (z4 + ((D 15 14 k4) * (j_X7_waysOf25_79 D nl nt ng k4 z4)))
def l_X7_waysOf25_4 (D : KD) (nl : Nat) (nt : Nat) (ng : Nat) : Int32 := it (f_X7_waysOf25_4 D nl nt ng) nt 0
def s_X7_waysOf25 (D : KD) (nl : Nat) (nt : Nat) (ng : Nat) : Int32 := (l_X7_waysOf25_4 D nl nt ng)
set_option maxHeartbeats 400000 in
set_option maxRecDepth 100000 in
theorem c_X7_waysOf25 (X : kX) (l : Launch) {n : Nat → Nat → Nat} {ad L : Nat → Nat → Nat → Nat} {C : Nat → Nat → Nat → Nat → Int32} {fr : Nat → Option Cell} {g : Nat} (hm : k_mod n g) (D : KD) {nl nt ng : Nat} (hwf : mWF D nl nt ng) : k_M X l yX7_waysOf wsX7_waysOf ({ frames := 1, cells := 0, slots := 0, locals := 12 }) [.ref (ad g 14 0), .ref (ad g 15 25)] (k_W X n ad L (k_g C g D) fr) (fun v H => v = some (.int (s_X7_waysOf25 D nl nt ng)) ∧ k_W X n ad L (k_g C g D) fr H) 0 0 := by
  refine k_M.of (cc := cX7_waysOf) (maxL := 5) (ret := (some .int)) (by decide) rfl (Nat.le_of_ble_eq_true rfl) ?_
  intro p e s m args below meth c ls hx hb hr hml hown hts hlocks hnm hK hW hl
  have hL : ∀ q ∈ ([] : List Loc), k_B X ≤ q.base := fun _ h => nomatch h
  have hl : lv_has ls 5 [(0, .ref (ad g 14 0)), (1, .ref (ad g 15 25))] := hl
  have fX7 : ∀ w ∈ u_ws RX7 TX7 34, w.before args s = true := fun w h => hts w ((by decide +kernel : ∀ w ∈ u_ws RX7 TX7 34, w ∈ wsX7_waysOf) w h)
  have hl8 := hwf.l8
  have ht16 := hwf.t16
  have hg4 := hwf.g4
  refine lv_iconst (v := 0) hx hb dX7_waysOf_0 (by decide) ?_
  refine lv_istore_n (lv' := [(2, .int 0), (0, .ref (ad g 14 0)), (1, .ref (ad g 15 25))]) hx hb dX7_waysOf_1 rfl hl (by decide) rfl (fun ls hl => ?_)
  refine lv_iconst (v := 0) hx hb dX7_waysOf_2 (by decide) ?_
  refine lv_istore_n (lv' := [(3, .int 0), (2, .int 0), (0, .ref (ad g 14 0)), (1, .ref (ad g 15 25))]) hx hb dX7_waysOf_3 rfl hl (by decide) rfl (fun ls hl => ?_)
  refine k_for (nt) (fun k4 H locs ls => ∃ z4 : Int32, z4 = it (f_X7_waysOf25_4 D nl nt ng) k4 0 ∧ k_W X n ad L (k_g C g D) fr H ∧ (∀ q ∈ locs, k_B X ≤ q.base) ∧ lv_has ls 5 [(3, .int (nI k4)), (2, .int z4), (0, .ref (ad g 14 0)), (1, .ref (ad g 15 25))]) 0 ⟨0, rfl, hW, hL, lv_sub hl [0, 1, 2, 3] rfl⟩ (Nat.zero_le _) (fun k4 hk4 ih4 H locs ls hI => ?_)
  obtain ⟨z4, hz4, hW, hL, hl⟩ := hI
  refine lv_iload_n hx hb dX7_waysOf_4 rfl (lv_at hl 0 rfl) ?_
  refine lv_aload_n hx hb dX7_waysOf_5 rfl (lv_at hl 2 rfl) ?_
  refine k_get (K := RX7) (T := TX7) (N := 34) (v := .int (D 14 0 2)) (w := .int (D 14 0 2)) hx hb fX7 hown hK hW 14 0 hm.o (fun _ => rfl) rfl 2 (by decide) (hts (.fieldLink RX7 115 "CrossdockeryModel" "transfers" "I") (by decide +kernel)) rfl rfl rfl dX7_waysOf_6 ?_
  refine lv_icmp_ge (tgt := 88) hx hb dX7_waysOf_9 (by decide) (fun c1 => ?_) (fun c1 => ?_)
  ·
    rw [hwf.t] at c1
    have hge4 := k_nI_ge (by omega) (by omega) c1
    obtain rfl : nt = k4 := by omega
    replace hz4 : z4 = (l_X7_waysOf25_4 D nl nt ng) := hz4
    subst hz4
    have hl : lv_has ls 5 [(3, .int (nI nt)), (2, .int (l_X7_waysOf25_4 D nl nt ng)), (0, .ref (ad g 14 0)), (1, .ref (ad g 15 25))] := hl
    refine lv_iload_n hx hb dX7_waysOf_88 rfl (lv_at hl 1 rfl) ?_
    have e9 : (s_X7_waysOf25 D nl nt ng) = (l_X7_waysOf25_4 D nl nt ng) := by unfold s_X7_waysOf25; first | done | rfl
    exact k_iret hx hb hr hlocks (⟨by rw [e9], hW⟩) hL dX7_waysOf_89
  ·
    have hlt4 : k4 < nt := k_nI_nge (by omega) (by omega) (by rw [hwf.t] at c1; exact c1)
    refine lv_aload_n hx hb dX7_waysOf_12 rfl (lv_at hl 3 rfl) ?_
    refine lv_aload_n hx hb dX7_waysOf_13 rfl (lv_at hl 2 rfl) ?_
    refine k_get (K := RX7) (T := TX7) (N := 34) (v := .ref (ad g 15 12)) (w := .ref (ad g 15 12)) hx hb fX7 hown hK hW 14 0 hm.o (fun _ => rfl) rfl 19 (by decide) (hts (.fieldLink RX7 48 "CrossdockeryModel" "from" "[I") (by decide +kernel)) rfl rfl rfl dX7_waysOf_14 ?_
    refine lv_iload_n hx hb dX7_waysOf_17 rfl (lv_at hl 0 rfl) ?_
    refine k_iald (z := 16) (k := k4) hx hb hK hW 15 12 (hm.a (i := 12) (by decide)) (fun _ => rfl) (nI_clamp (by omega)) (vp_in_nI (by omega) (by decide)) (v := (D 15 12 k4)) rfl dX7_waysOf_18 ?_
    refine k_iald (z := 8) (k := ((D 15 12 k4).toNatClampNeg)) hx hb hK hW 15 25 (hm.a (i := 25) (by decide)) (fun _ => rfl) rfl (hwf.fr (by omega)) (v := (D 15 25 ((D 15 12 k4).toNatClampNeg))) rfl dX7_waysOf_19 ?_
    refine lv_iconst (v := (-1)) hx hb dX7_waysOf_20 (by decide) ?_
    refine k_join (pc' := 57) (fun H locs ls st => k_W X n ad L (k_g C g D) fr H ∧ (∀ q ∈ locs, k_B X ≤ q.base) ∧ lv_has ls 5 [(3, .int (nI k4)), (2, .int z4), (0, .ref (ad g 14 0)), (1, .ref (ad g 15 25))] ∧ st = [.int (j_X7_waysOf25_57 D nl nt ng k4 z4)]) (fun H locs ls st hJ => ?_) (fun join57 => ?_)
    ·
      obtain ⟨hW, hL, hl, rfl⟩ := hJ
      refine lv_istore (lv' := [(4, .int (j_X7_waysOf25_57 D nl nt ng k4 z4)), (3, .int (nI k4)), (2, .int z4), (0, .ref (ad g 14 0)), (1, .ref (ad g 15 25))]) hx hb dX7_waysOf_57 hl (by decide) rfl (fun ls hl => ?_)
      refine lv_iload_n hx hb dX7_waysOf_59 rfl (lv_at hl 2 rfl) ?_
      refine lv_aload_n hx hb dX7_waysOf_60 rfl (lv_at hl 3 rfl) ?_
      refine k_get (K := RX7) (T := TX7) (N := 34) (v := .ref (ad g 15 14)) (w := .ref (ad g 15 14)) hx hb fX7 hown hK hW 14 0 hm.o (fun _ => rfl) rfl 21 (by decide) (hts (.fieldLink RX7 54 "CrossdockeryModel" "units" "[I") (by decide +kernel)) rfl rfl rfl dX7_waysOf_61 ?_
      refine lv_iload_n hx hb dX7_waysOf_64 rfl (lv_at hl 1 rfl) ?_
      refine k_iald (z := 16) (k := k4) hx hb hK hW 15 14 (hm.a (i := 14) (by decide)) (fun _ => rfl) (nI_clamp (by omega)) (vp_in_nI (by omega) (by decide)) (v := (D 15 14 k4)) rfl dX7_waysOf_65 ?_
      refine lv_iload hx hb dX7_waysOf_66 (lv_at hl 0 rfl) ?_
      refine k_join (pc' := 79) (fun H locs ls st => k_W X n ad L (k_g C g D) fr H ∧ (∀ q ∈ locs, k_B X ≤ q.base) ∧ lv_has ls 5 [(4, .int (j_X7_waysOf25_57 D nl nt ng k4 z4)), (3, .int (nI k4)), (2, .int z4), (0, .ref (ad g 14 0)), (1, .ref (ad g 15 25))] ∧ st = [.int (j_X7_waysOf25_79 D nl nt ng k4 z4), .int (D 15 14 k4), .int z4]) (fun H locs ls st hJ => ?_) (fun join79 => ?_)
      ·
        obtain ⟨hW, hL, hl, rfl⟩ := hJ
        refine lv_imul hx hb dX7_waysOf_79 ?_
        refine lv_iadd hx hb dX7_waysOf_80 ?_
        refine lv_istore_n (lv' := [(2, .int (z4 + ((D 15 14 k4) * (j_X7_waysOf25_79 D nl nt ng k4 z4)))), (4, .int (j_X7_waysOf25_57 D nl nt ng k4 z4)), (3, .int (nI k4)), (0, .ref (ad g 14 0)), (1, .ref (ad g 15 25))]) hx hb dX7_waysOf_81 rfl hl (by decide) rfl (fun ls hl => ?_)
        refine lv_iinc (v := (nI (k4 + 1))) (k := 2) (lv' := [(3, .int (nI (k4 + 1))), (2, .int (z4 + ((D 15 14 k4) * (j_X7_waysOf25_79 D nl nt ng k4 z4)))), (4, .int (j_X7_waysOf25_57 D nl nt ng k4 z4)), (0, .ref (ad g 14 0)), (1, .ref (ad g 15 25))]) hx hb dX7_waysOf_82 hl rfl (nI_1 _) (by decide) rfl (fun ls hl => ?_)
        refine lv_goto (tgt := 4) hx hb dX7_waysOf_85 (by decide) ?_
        have e9 : (f_X7_waysOf25_4 D nl nt ng) k4 z4 = (z4 + ((D 15 14 k4) * (j_X7_waysOf25_79 D nl nt ng k4 z4))) := by unfold f_X7_waysOf25_4; first | done | rfl
        exact ih4 _ _ _ hlt4 ⟨(z4 + ((D 15 14 k4) * (j_X7_waysOf25_79 D nl nt ng k4 z4))), by rw [it_s, ← hz4, e9], hW, hL, lv_sub hl [0, 1, 3, 4] rfl⟩
      ·
        refine lv_if_ge (tgt := 77) hx hb dX7_waysOf_68 (by decide) (fun c4 => ?_) (fun c4 => ?_)
        ·
          refine lv_iload hx hb dX7_waysOf_77 (lv_at hl 0 rfl) ?_
          have e9 : (j_X7_waysOf25_79 D nl nt ng k4 z4) = (j_X7_waysOf25_57 D nl nt ng k4 z4) := by unfold j_X7_waysOf25_79; first | done | (simp only [if_pos c4]; done) | rfl
          exact join79 _ _ _ _ (by rw [e9]; exact ⟨hW, hL, lv_sub hl [0, 1, 2, 3, 4] rfl, rfl⟩)
        ·
          refine lv_iload hx hb dX7_waysOf_71 (lv_at hl 0 rfl) ?_
          refine lv_ineg hx hb dX7_waysOf_73 ?_
          refine lv_goto (tgt := 79) hx hb dX7_waysOf_74 (by decide) ?_
          have e9 : (j_X7_waysOf25_79 D nl nt ng k4 z4) = (-(j_X7_waysOf25_57 D nl nt ng k4 z4)) := by unfold j_X7_waysOf25_79; first | done | (simp only [if_neg c4]; done) | rfl
          exact join79 _ _ _ _ (by rw [e9]; exact ⟨hW, hL, lv_sub hl [0, 1, 2, 3, 4] rfl, rfl⟩)
    ·
      refine lv_icmp_eq (tgt := 36) hx hb dX7_waysOf_21 (by decide) (fun c2 => ?_) (fun c2 => ?_)
      ·
        refine lv_iconst (v := 0) hx hb dX7_waysOf_36 (by decide) ?_
        refine lv_goto (tgt := 57) hx hb dX7_waysOf_37 (by decide) ?_
        have e9 : (j_X7_waysOf25_57 D nl nt ng k4 z4) = 0 := by unfold j_X7_waysOf25_57; first | done | (simp only [if_pos c2]; done) | rfl
        exact join57 _ _ _ _ (by rw [e9]; exact ⟨hW, hL, lv_sub hl [0, 1, 2, 3] rfl, rfl⟩)
      ·
        refine lv_aload_n hx hb dX7_waysOf_24 rfl (lv_at hl 3 rfl) ?_
        refine lv_aload_n hx hb dX7_waysOf_25 rfl (lv_at hl 2 rfl) ?_
        refine k_get (K := RX7) (T := TX7) (N := 34) (v := .ref (ad g 15 13)) (w := .ref (ad g 15 13)) hx hb fX7 hown hK hW 14 0 hm.o (fun _ => rfl) rfl 20 (by decide) (hts (.fieldLink RX7 51 "CrossdockeryModel" "to" "[I") (by decide +kernel)) rfl rfl rfl dX7_waysOf_26 ?_
        refine lv_iload_n hx hb dX7_waysOf_29 rfl (lv_at hl 0 rfl) ?_
        refine k_iald (z := 16) (k := k4) hx hb hK hW 15 13 (hm.a (i := 13) (by decide)) (fun _ => rfl) (nI_clamp (by omega)) (vp_in_nI (by omega) (by decide)) (v := (D 15 13 k4)) rfl dX7_waysOf_30 ?_
        refine k_iald (z := 8) (k := ((D 15 13 k4).toNatClampNeg)) hx hb hK hW 15 25 (hm.a (i := 25) (by decide)) (fun _ => rfl) rfl (hwf.to (by omega)) (v := (D 15 25 ((D 15 13 k4).toNatClampNeg))) rfl dX7_waysOf_31 ?_
        refine lv_iconst (v := (-1)) hx hb dX7_waysOf_32 (by decide) ?_
        refine lv_icmp_ne (tgt := 40) hx hb dX7_waysOf_33 (by decide) (fun c3 => ?_) (fun c3 => ?_)
        ·
          refine lv_aload_n hx hb dX7_waysOf_40 rfl (lv_at hl 3 rfl) ?_
          refine lv_aload_n hx hb dX7_waysOf_41 rfl (lv_at hl 2 rfl) ?_
          refine k_get (K := RX7) (T := TX7) (N := 34) (v := .ref (ad g 15 12)) (w := .ref (ad g 15 12)) hx hb fX7 hown hK hW 14 0 hm.o (fun _ => rfl) rfl 19 (by decide) (hts (.fieldLink RX7 48 "CrossdockeryModel" "from" "[I") (by decide +kernel)) rfl rfl rfl dX7_waysOf_42 ?_
          refine lv_iload_n hx hb dX7_waysOf_45 rfl (lv_at hl 0 rfl) ?_
          refine k_iald (z := 16) (k := k4) hx hb hK hW 15 12 (hm.a (i := 12) (by decide)) (fun _ => rfl) (nI_clamp (by omega)) (vp_in_nI (by omega) (by decide)) (v := (D 15 12 k4)) rfl dX7_waysOf_46 ?_
          refine k_iald (z := 8) (k := ((D 15 12 k4).toNatClampNeg)) hx hb hK hW 15 25 (hm.a (i := 25) (by decide)) (fun _ => rfl) rfl (hwf.fr (by omega)) (v := (D 15 25 ((D 15 12 k4).toNatClampNeg))) rfl dX7_waysOf_47 ?_
          refine lv_aload_n hx hb dX7_waysOf_48 rfl (lv_at hl 3 rfl) ?_
          refine lv_aload_n hx hb dX7_waysOf_49 rfl (lv_at hl 2 rfl) ?_
          refine k_get (K := RX7) (T := TX7) (N := 34) (v := .ref (ad g 15 13)) (w := .ref (ad g 15 13)) hx hb fX7 hown hK hW 14 0 hm.o (fun _ => rfl) rfl 20 (by decide) (hts (.fieldLink RX7 51 "CrossdockeryModel" "to" "[I") (by decide +kernel)) rfl rfl rfl dX7_waysOf_50 ?_
          refine lv_iload_n hx hb dX7_waysOf_53 rfl (lv_at hl 0 rfl) ?_
          refine k_iald (z := 16) (k := k4) hx hb hK hW 15 13 (hm.a (i := 13) (by decide)) (fun _ => rfl) (nI_clamp (by omega)) (vp_in_nI (by omega) (by decide)) (v := (D 15 13 k4)) rfl dX7_waysOf_54 ?_
          refine k_iald (z := 8) (k := ((D 15 13 k4).toNatClampNeg)) hx hb hK hW 15 25 (hm.a (i := 25) (by decide)) (fun _ => rfl) rfl (hwf.to (by omega)) (v := (D 15 25 ((D 15 13 k4).toNatClampNeg))) rfl dX7_waysOf_55 ?_
          refine lv_isub hx hb dX7_waysOf_56 ?_
          have e9 : (j_X7_waysOf25_57 D nl nt ng k4 z4) = ((D 15 25 ((D 15 12 k4).toNatClampNeg)) - (D 15 25 ((D 15 13 k4).toNatClampNeg))) := by unfold j_X7_waysOf25_57; first | done | (simp only [if_neg c2, if_neg c3]; done) | rfl
          exact join57 _ _ _ _ (by rw [e9]; exact ⟨hW, hL, lv_sub hl [0, 1, 2, 3] rfl, rfl⟩)
        ·
          refine lv_iconst (v := 0) hx hb dX7_waysOf_36 (by decide) ?_
          refine lv_goto (tgt := 57) hx hb dX7_waysOf_37 (by decide) ?_
          have e9 : (j_X7_waysOf25_57 D nl nt ng k4 z4) = 0 := by unfold j_X7_waysOf25_57; first | done | (simp only [if_neg c2, if_pos c3]; done) | rfl
          exact join57 _ _ _ _ (by rw [e9]; exact ⟨hW, hL, lv_sub hl [0, 1, 2, 3] rfl, rfl⟩)
def s_X7_ways (D : KD) (nl : Nat) (nt : Nat) (ng : Nat) : Int32 := (s_X7_waysOf4 D nl nt ng)
set_option maxHeartbeats 400000 in
set_option maxRecDepth 100000 in
theorem c_X7_ways (X : kX) (l : Launch) {n : Nat → Nat → Nat} {ad L : Nat → Nat → Nat → Nat} {C : Nat → Nat → Nat → Nat → Int32} {fr : Nat → Option Cell} {g : Nat} (hm : k_mod n g) (D : KD)  {nl nt ng : Nat} (hwf : mWF D nl nt ng) : k_M X l yX7_ways wsX7_ways ({ frames := 2, cells := 0, slots := 0, locals := 36 }) [.ref (ad g 14 0)] (k_W X n ad L (k_g C g D) fr) (fun v H => v = some (.int (s_X7_ways D nl nt ng)) ∧ k_W X n ad L (k_g C g D) fr H) 0 0 := by
  refine k_M.of (cc := cX7_ways) (maxL := 1) (ret := (some .int)) (by decide) rfl (Nat.le_of_ble_eq_true rfl) ?_
  intro p e s m args below meth c ls hx hb hr hml hown hts hlocks hnm hK hW hl
  have hL : ∀ q ∈ ([] : List Loc), k_B X ≤ q.base := fun _ h => nomatch h
  have hl : lv_has ls 1 [(0, .ref (ad g 14 0))] := hl
  have fX7 : ∀ w ∈ u_ws RX7 TX7 34, w.before args s = true := fun w h => hts w ((by decide +kernel : ∀ w ∈ u_ws RX7 TX7 34, w ∈ wsX7_ways) w h)
  have hl8 := hwf.l8
  have ht16 := hwf.t16
  have hg4 := hwf.g4
  refine lv_aload_n hx hb dX7_ways_0 rfl (lv_at hl 0 rfl) ?_
  refine lv_aload_n hx hb dX7_ways_1 rfl (lv_at hl 0 rfl) ?_
  refine k_get (K := RX7) (T := TX7) (N := 34) (v := .ref (ad g 15 4)) (w := .ref (ad g 15 4)) hx hb fX7 hown hK hW 14 0 hm.o (fun _ => rfl) rfl 11 (by decide) (hts (.fieldLink RX7 23 "CrossdockeryModel" "door" "[I") (by decide +kernel)) rfl rfl rfl dX7_ways_2 ?_
  refine k_callV (As := [.ref (ad g 15 4)]) (rest := []) ⟨hx, hb, hml, hown, hts⟩ hK (c_X7_waysOf4 X l hm D hwf) (cwV 1 hts gX7_ways_X7_waysOf rfl rfl rfl (by decide +kernel) ⟨Nat.le_of_ble_eq_true rfl, Nat.le_of_ble_eq_true rfl⟩) (k_recv hK hW 14 0 hm.o (fun _ => rfl) rfl) hW rfl hl.1 rfl (Nat.le_of_ble_eq_true rfl) dX7_ways_5 ⟨Nat.le_of_ble_eq_true rfl, Nat.le_of_ble_eq_true rfl⟩ hL (fun v9 H locs hp hL => ?_)
  obtain ⟨rfl, hW⟩ := hp
  have e9 : (s_X7_ways D nl nt ng) = (s_X7_waysOf4 D nl nt ng) := by unfold s_X7_ways; first | done | rfl
  exact k_iret hx hb hr hlocks (⟨by rw [e9], hW⟩) hL dX7_ways_8
