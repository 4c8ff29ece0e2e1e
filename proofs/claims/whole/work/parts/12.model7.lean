theorem mMin_in {x : Int32} (h : ¬ s_X7_isIn x 1 300 = 0) : x = nI x.toNatClampNeg ∧ x.toNatClampNeg ≤ 300 := by
  obtain ⟨h1, h2⟩ := s_isIn_0 h
  have a := mt Int32.lt_iff_toInt_lt.mpr h1
  have e1 : (1 : Int32).toInt = 1 := by decide
  have h0 : ¬ x < 0 := by
    intro q
    have b := Int32.lt_iff_toInt_lt.mp q
    have e0 : (0 : Int32).toInt = 0 := by decide
    omega
  obtain ⟨j, hj, e⟩ := nI_of2 (x := x) (M := 300) (n := 300) (by decide) h0 (by
    rw [Int32.le_iff_toInt_le]
    have c : ¬ (300 : Int32) < x := h2
    have d := mt Int32.lt_iff_toInt_lt.mpr c
    omega)
  rw [e, nI_clamp (by omega)]
  exact ⟨rfl, hj⟩

def f_X7_pass_44 (D : KD) (nl : Nat) (nt : Nat) (ng : Nat) (mn : Int32) (k44 : Nat) (z44 : KD × Int32) : KD × Int32 := (((s_X7_passes z44.1 nl nt ng).1), (z44.2 + ((s_X7_passes z44.1 nl nt ng).2)))
def l_X7_pass_44 (D : KD) (nl : Nat) (nt : Nat) (ng : Nat) (mn : Int32) : KD × Int32 := it (f_X7_pass_44 D nl nt ng mn) (mn.toNatClampNeg) ((k_d D 14 0 0 0), 0)
def s_X7_pass (D : KD) (nl : Nat) (nt : Nat) (ng : Nat) (mn : Int32) : KD × Int32 := (if (s_X7_isIn mn 1 300) = 0 then (k_d D 14 0 0 1, 0) else (if ((D 14 0 4) + mn) ≤ 2000 then ((l_X7_pass_44 D nl nt ng mn).1, (l_X7_pass_44 D nl nt ng mn).2) else (k_d D 14 0 0 2, 0)))
set_option maxHeartbeats 4000000 in
set_option maxRecDepth 100000 in
theorem c_X7_pass (X : kX) (l : Launch) {n : Nat → Nat → Nat} {ad L : Nat → Nat → Nat → Nat} {C : Nat → Nat → Nat → Nat → Int32} {fr : Nat → Option Cell} {g : Nat} (hm : k_mod n g) (D : KD) (mn : Int32) {nl nt ng : Nat} (hwf : mWF D nl nt ng) : k_M X l yX7_pass wsX7_pass ({ frames := 7, cells := 0, slots := 0, locals := 148 }) [.ref (ad g 14 0), .int mn] (k_W X n ad L (k_g C g D) fr) (fun v H => v = some (.int ((s_X7_pass D nl nt ng mn).2)) ∧ k_W X n ad L (k_g C g ((s_X7_pass D nl nt ng mn).1)) fr H) 0 0 := by
  refine k_M.of (cc := cX7_pass) (maxL := 4) (ret := (some .int)) (by decide) rfl (Nat.le_of_ble_eq_true rfl) ?_
  intro p e s m args below meth c ls hx hb hr hml hown hts hlocks hnm hK hW hl
  have hL : ∀ q ∈ ([] : List Loc), k_B X ≤ q.base := fun _ h => nomatch h
  have hl : lv_has ls 4 [(0, .ref (ad g 14 0)), (1, .int mn)] := hl
  have fX7 : ∀ w ∈ u_ws RX7 TX7 34, w.before args s = true := fun w h => hts w ((by decide +kernel : ∀ w ∈ u_ws RX7 TX7 34, w ∈ wsX7_pass) w h)
  have hl8 := hwf.l8
  have ht16 := hwf.t16
  have hg4 := hwf.g4
  refine lv_iload_n hx hb dX7_pass_0 rfl (lv_at hl 1 rfl) ?_
  refine lv_iconst (v := 1) hx hb dX7_pass_1 (by decide) ?_
  refine lv_sipush (v := 300) hx hb dX7_pass_2 (by decide) ?_
  refine k_callS (As := [.int mn, .int 1, .int 300]) (rest := []) ⟨hx, hb, hml, hown, hts⟩ hK (c_X7_isIn X l (k_W X n ad L (k_g C g D) fr) mn 1 300) (va_cwS 3 hts gX7_pass_X7_isIn rfl rfl rfl (by decide +kernel) ⟨Nat.le_of_ble_eq_true rfl, Nat.le_of_ble_eq_true rfl⟩) hW rfl hl.1 rfl (Nat.le_of_ble_eq_true rfl) dX7_pass_5 ⟨Nat.le_of_ble_eq_true rfl, Nat.le_of_ble_eq_true rfl⟩ hL (fun v9 H locs hp hL => ?_)
  obtain ⟨rfl, hW⟩ := hp
  refine lv_if_ne (tgt := 17) hx hb dX7_pass_8 (by decide) (fun c1 => ?_) (fun c1 => ?_)
  ·
    refine lv_aload_n hx hb dX7_pass_17 rfl (lv_at hl 0 rfl) ?_
    refine k_get (K := RX7) (T := TX7) (N := 34) (v := .int (D 14 0 4)) (w := .int (D 14 0 4)) hx hb fX7 hown hK hW 14 0 hm.o (fun _ => rfl) rfl 4 (by decide) (hts (.fieldLink RX7 121 "CrossdockeryModel" "now" "I") (by decide +kernel)) rfl rfl rfl dX7_pass_18 ?_
    refine lv_iload_n hx hb dX7_pass_21 rfl (lv_at hl 1 rfl) ?_
    refine lv_iadd hx hb dX7_pass_22 ?_
    refine lv_sipush (v := 2000) hx hb dX7_pass_23 (by decide) ?_
    refine lv_icmp_le (tgt := 35) hx hb dX7_pass_26 (by decide) (fun c2 => ?_) (fun c2 => ?_)
    ·
      refine lv_aload_n hx hb dX7_pass_35 rfl (lv_at hl 0 rfl) ?_
      refine lv_iconst (v := 0) hx hb dX7_pass_36 (by decide) ?_
      obtain ⟨hmn2, hmn3⟩ := mMin_in c1
      refine k_put (K := RX7) (T := TX7) (N := 34) (x := 0) hx hb fX7 tyX7 tyX7_ok nmX7 hown hK hW hL 14 0 hm.o (fun _ => rfl) rfl 0 (by decide) (hts (.fieldLink RX7 93 "CrossdockeryModel" "thrown" "I") (by decide +kernel)) rfl rfl rfl rfl (fun _ => Nat.le_of_ble_eq_true rfl) (fun _ _ => rfl) dX7_pass_37 (fun H locs hW hL => ?_)
      refine lv_iconst (v := 0) hx hb dX7_pass_40 (by decide) ?_
      refine lv_istore_n (lv' := [(2, .int 0), (0, .ref (ad g 14 0)), (1, .int mn)]) hx hb dX7_pass_41 rfl hl (by decide) rfl (fun ls hl => ?_)
      refine lv_iconst (v := 0) hx hb dX7_pass_42 (by decide) ?_
      refine lv_istore_n (lv' := [(3, .int 0), (2, .int 0), (0, .ref (ad g 14 0)), (1, .int mn)]) hx hb dX7_pass_43 rfl hl (by decide) rfl (fun ls hl => ?_)
      refine k_for ((mn.toNatClampNeg)) (fun k44 H locs ls => ∃ z44 : KD × Int32, z44 = it (f_X7_pass_44 D nl nt ng mn) k44 ((k_d D 14 0 0 0), 0) ∧ k_W X n ad L (k_g C g z44.1) fr H ∧ (∀ q ∈ locs, k_B X ≤ q.base) ∧ lv_has ls 4 [(3, .int (nI k44)), (2, .int z44.2), (0, .ref (ad g 14 0)), (1, .int mn)] ∧ mWF z44.1 nl nt ng) 0 ⟨((k_d D 14 0 0 0), 0), rfl, hW, hL, lv_sub hl [0, 1, 2, 3] rfl, (hwf.put14 (by decide))⟩ (Nat.zero_le _) (fun k44 hk44 ih44 H locs ls hI => ?_)
      obtain ⟨z44, hz44, hW, hL, hl, hE44⟩ := hI
      refine lv_iload_n hx hb dX7_pass_44 rfl (lv_at hl 0 rfl) ?_
      refine lv_iload_n hx hb dX7_pass_45 rfl (lv_at hl 3 rfl) ?_
      refine lv_icmp_ge (tgt := 62) hx hb dX7_pass_46 (by decide) (fun c3 => ?_) (fun c3 => ?_)
      ·
        rw [hmn2] at c3
        have hge44 := k_nI_ge (by omega) (by omega) c3
        obtain rfl : (mn.toNatClampNeg) = k44 := by omega
        replace hz44 : z44 = (l_X7_pass_44 D nl nt ng mn) := hz44
        subst hz44
        have hl : lv_has ls 4 [(3, .int (nI (mn.toNatClampNeg))), (2, .int ((l_X7_pass_44 D nl nt ng mn).2)), (0, .ref (ad g 14 0)), (1, .int mn)] := hl
        refine lv_iload_n hx hb dX7_pass_62 rfl (lv_at hl 1 rfl) ?_
        have e9 : (s_X7_pass D nl nt ng mn) = ((l_X7_pass_44 D nl nt ng mn).1, (l_X7_pass_44 D nl nt ng mn).2) := by unfold s_X7_pass; first | done | (simp only [if_neg c1, if_pos c2]; done) | rfl
        exact k_iret hx hb hr hlocks (⟨by rw [e9], by rw [e9]; exact hW⟩) hL dX7_pass_63
      ·
        have hlt44 : k44 < (mn.toNatClampNeg) := k_nI_nge (by omega) (by omega) (by rw [hmn2] at c3; exact c3)
        refine lv_iload_n hx hb dX7_pass_49 rfl (lv_at hl 1 rfl) ?_
        refine lv_aload_n hx hb dX7_pass_50 rfl (lv_at hl 2 rfl) ?_
        refine k_callV (As := []) (rest := [.int z44.2]) ⟨hx, hb, hml, hown, hts⟩ hK (c_X7_passes X l hm z44.1  hE44) (cwV 0 hts gX7_pass_X7_passes rfl rfl rfl (by decide +kernel) ⟨Nat.le_of_ble_eq_true rfl, Nat.le_of_ble_eq_true rfl⟩) (k_recv hK hW 14 0 hm.o (fun _ => rfl) rfl) hW rfl hl.1 rfl (Nat.le_of_ble_eq_true rfl) dX7_pass_51 ⟨Nat.le_of_ble_eq_true rfl, Nat.le_of_ble_eq_true rfl⟩ hL (fun v9 H locs hp hL => ?_)
        obtain ⟨rfl, hW⟩ := hp
        refine lv_iadd hx hb dX7_pass_54 ?_
        refine lv_istore_n (lv' := [(2, .int (z44.2 + ((s_X7_passes z44.1 nl nt ng).2))), (3, .int (nI k44)), (0, .ref (ad g 14 0)), (1, .int mn)]) hx hb dX7_pass_55 rfl hl (by decide) rfl (fun ls hl => ?_)
        refine lv_iinc (v := (nI (k44 + 1))) (k := 1) (lv' := [(3, .int (nI (k44 + 1))), (2, .int (z44.2 + ((s_X7_passes z44.1 nl nt ng).2))), (0, .ref (ad g 14 0)), (1, .int mn)]) hx hb dX7_pass_56 hl rfl (nI_1 _) (by decide) rfl (fun ls hl => ?_)
        refine lv_goto (tgt := 44) hx hb dX7_pass_59 (by decide) ?_
        have e9 : (f_X7_pass_44 D nl nt ng mn) k44 z44 = (((s_X7_passes z44.1 nl nt ng).1), (z44.2 + ((s_X7_passes z44.1 nl nt ng).2))) := by unfold f_X7_pass_44; first | done | rfl
        exact ih44 _ _ _ hlt44 ⟨(((s_X7_passes z44.1 nl nt ng).1), (z44.2 + ((s_X7_passes z44.1 nl nt ng).2))), by rw [it_s, ← hz44, e9], hW, hL, lv_sub hl [0, 1, 2, 3] rfl, (mWF_passes hE44)⟩
    ·
      refine lv_aload_n hx hb dX7_pass_29 rfl (lv_at hl 0 rfl) ?_
      refine lv_iconst (v := 2) hx hb dX7_pass_30 (by decide) ?_
      refine k_callV (As := [.int 2]) (rest := []) ⟨hx, hb, hml, hown, hts⟩ hK (c_X7_fail2 X l hm D 2) (cwV 1 hts gX7_pass_X7_fail rfl rfl rfl (by decide +kernel) ⟨Nat.le_of_ble_eq_true rfl, Nat.le_of_ble_eq_true rfl⟩) (k_recv hK hW 14 0 hm.o (fun _ => rfl) rfl) hW rfl hl.1 rfl (Nat.le_of_ble_eq_true rfl) dX7_pass_31 ⟨Nat.le_of_ble_eq_true rfl, Nat.le_of_ble_eq_true rfl⟩ hL (fun v9 H locs hp hL => ?_)
      obtain ⟨rfl, hW⟩ := hp
      have e9 : (s_X7_pass D nl nt ng mn) = (k_d D 14 0 0 2, 0) := by unfold s_X7_pass; first | done | (simp only [if_neg c1, if_neg c2]; done) | rfl
      exact k_iret hx hb hr hlocks (⟨by rw [e9], by rw [e9]; exact hW⟩) hL dX7_pass_34
  ·
    refine lv_aload_n hx hb dX7_pass_11 rfl (lv_at hl 0 rfl) ?_
    refine lv_iconst (v := 1) hx hb dX7_pass_12 (by decide) ?_
    refine k_callV (As := [.int 1]) (rest := []) ⟨hx, hb, hml, hown, hts⟩ hK (c_X7_fail2 X l hm D 1) (cwV 1 hts gX7_pass_X7_fail rfl rfl rfl (by decide +kernel) ⟨Nat.le_of_ble_eq_true rfl, Nat.le_of_ble_eq_true rfl⟩) (k_recv hK hW 14 0 hm.o (fun _ => rfl) rfl) hW rfl hl.1 rfl (Nat.le_of_ble_eq_true rfl) dX7_pass_13 ⟨Nat.le_of_ble_eq_true rfl, Nat.le_of_ble_eq_true rfl⟩ hL (fun v9 H locs hp hL => ?_)
    obtain ⟨rfl, hW⟩ := hp
    have e9 : (s_X7_pass D nl nt ng mn) = (k_d D 14 0 0 1, 0) := by unfold s_X7_pass; first | done | (simp only [if_pos c1]; done) | rfl
    exact k_iret hx hb hr hlocks (⟨by rw [e9], by rw [e9]; exact hW⟩) hL dX7_pass_16
