def s_X0_debtorAtDoor (D : KD) (nl : Nat) (nt : Nat) (ng : Nat) (i : Nat) (po : Int32) : Int32 := (if po = 0 then (-1) else (if (D 4 i 1) = 0 then (if (s_X0_firstMissedBy D nl nt ng i) = (-1) then (-1) else (if (D 4 ((s_X0_firstMissedBy D nl nt ng i).toNatClampNeg) 5) = 101 then (if (D 4 ((s_X0_firstMissedBy D nl nt ng i).toNatClampNeg) 2) > (D 0 0 4) then (-2) else D 4 ((s_X0_firstMissedBy D nl nt ng i).toNatClampNeg) 0) else (-1))) else (-1)))
set_option maxHeartbeats 4000000 in
set_option maxRecDepth 100000 in
theorem c_X0_debtorAtDoor (X : kX) (l : Launch) {n : Nat → Nat → Nat} {ad L : Nat → Nat → Nat → Nat} {C : Nat → Nat → Nat → Nat → Int32} {fr : Nat → Option Cell} {g : Nat} {nl nt ng : Nat} (hd : kDk n g nl nt ng) (D : KD) (hwf : cWF D nl nt) (i : Nat) (h_i : i < nl) (po : Int32) : k_M X l yX0_debtorAtDoor wsX0_debtorAtDoor ({ frames := 5, cells := 0, slots := 0, locals := 99 }) [.ref (ad g 0 0), .ref (ad g 4 i), .int po] (k_W X n ad L (k_g C g D) fr) (fun v H => v = some (.int (s_X0_debtorAtDoor D nl nt ng i po)) ∧ k_W X n ad L (k_g C g D) fr H) 0 0 := by
  refine k_M.of (cc := cX0_debtorAtDoor) (maxL := 4) (ret := (some .int)) (by decide) rfl (Nat.le_of_ble_eq_true rfl) ?_
  intro p e s m args below meth c ls hx hb hr hml hown hts hlocks hnm hK hW hl
  have hL : ∀ q ∈ ([] : List Loc), k_B X ≤ q.base := fun _ h => nomatch h
  have hl : lv_has ls 4 [(0, .ref (ad g 0 0)), (1, .ref (ad g 4 i)), (2, .int po)] := hl
  have fX0 : ∀ w ∈ u_ws RX0 TX0 5, w.before args s = true := fun w h => hts w ((by decide +kernel : ∀ w ∈ u_ws RX0 TX0 5, w ∈ wsX0_debtorAtDoor) w h)
  have fX3 : ∀ w ∈ u_ws RX3 TX3 15, w.before args s = true := fun w h => hts w ((by decide +kernel : ∀ w ∈ u_ws RX3 TX3 15, w ∈ wsX0_debtorAtDoor) w h)
  have hl8 := hd.l8
  have ht16 := hd.t16
  have hg4 := hd.g4
  refine lv_iload_n hx hb dX0_debtorAtDoor_0 rfl (lv_at hl 2 rfl) ?_
  refine lv_if_eq (tgt := 11) hx hb dX0_debtorAtDoor_1 (by decide) (fun c1 => ?_) (fun c1 => ?_)
  ·
    refine lv_iconst (v := (-1)) hx hb dX0_debtorAtDoor_11 (by decide) ?_
    have e9 : (s_X0_debtorAtDoor D nl nt ng i po) = (-1) := by unfold s_X0_debtorAtDoor; first | done | (simp only [if_pos c1]; done) | rfl
    exact k_iret hx hb hr hlocks (⟨by rw [e9], hW⟩) hL dX0_debtorAtDoor_12
  ·
    refine lv_aload_n hx hb dX0_debtorAtDoor_4 rfl (lv_at hl 1 rfl) ?_
    refine k_get (K := RX3) (T := TX3) (N := 15) (v := .int (D 4 i 1)) (w := .int (D 4 i 1)) hx hb fX3 hown hK hW 4 i (hd.lo h_i) (fun _ => rfl) rfl 1 (by decide) (hts (.fieldLink RX0 169 "Crossdockery$Lorry" "isBringing" "Z") (by decide +kernel)) rfl rfl rfl dX0_debtorAtDoor_5 ?_
    refine lv_if_eq (tgt := 13) hx hb dX0_debtorAtDoor_8 (by decide) (fun c2 => ?_) (fun c2 => ?_)
    ·
      refine lv_aload_n hx hb dX0_debtorAtDoor_13 rfl (lv_at hl 0 rfl) ?_
      refine lv_aload_n hx hb dX0_debtorAtDoor_14 rfl (lv_at hl 1 rfl) ?_
      refine k_callV (As := [.ref (ad g 4 i)]) (rest := []) ⟨hx, hb, hml, hown, hts⟩ hK (c_X0_firstMissedBy X l hd D hwf i h_i) (cwV 1 hts gX0_debtorAtDoor_X0_firstMissedBy rfl rfl rfl (by decide +kernel) ⟨Nat.le_of_ble_eq_true rfl, Nat.le_of_ble_eq_true rfl⟩) (k_recv hK hW 0 0 hd.o (fun _ => rfl) rfl) hW rfl hl.1 rfl (Nat.le_of_ble_eq_true rfl) dX0_debtorAtDoor_15 ⟨Nat.le_of_ble_eq_true rfl, Nat.le_of_ble_eq_true rfl⟩ hL (fun v9 H locs hp hL => ?_)
      obtain ⟨rfl, hW⟩ := hp
      refine k_opt (fun o3 => ?_) (fun o3 => ?_)
      ·
        refine lv_astore_nN (lv' := [(3, .null), (0, .ref (ad g 0 0)), (1, .ref (ad g 4 i)), (2, .int po)]) hx hb dX0_debtorAtDoor_18 rfl hl (by decide) rfl (fun ls hl => ?_)
        refine lv_aload_nN hx hb dX0_debtorAtDoor_19 rfl (lv_at hl 0 rfl) ?_
        refine lv_ifnullN (tgt := 32) hx hb dX0_debtorAtDoor_20 (by decide) ?_
        refine lv_iconst (v := (-1)) hx hb dX0_debtorAtDoor_32 (by decide) ?_
        have e9 : (s_X0_debtorAtDoor D nl nt ng i po) = (-1) := by unfold s_X0_debtorAtDoor; first | done | (simp only [if_neg c1, if_pos c2, if_pos o3]; done) | rfl
        exact k_iret hx hb hr hlocks (⟨by rw [e9], hW⟩) hL dX0_debtorAtDoor_33
      ·
        have hi_o3 : vp_in (s_X0_firstMissedBy D nl nt ng i) nl := (cIN_firstMissedBy hwf o3)
        refine lv_astore_n (lv' := [(3, .ref (ad g 4 ((s_X0_firstMissedBy D nl nt ng i).toNatClampNeg))), (0, .ref (ad g 0 0)), (1, .ref (ad g 4 i)), (2, .int po)]) hx hb dX0_debtorAtDoor_18 rfl hl (by decide) rfl (fun ls hl => ?_)
        refine lv_aload_n hx hb dX0_debtorAtDoor_19 rfl (lv_at hl 0 rfl) ?_
        refine lv_ifnull hx hb dX0_debtorAtDoor_20 ?_
        refine lv_aload_n hx hb dX0_debtorAtDoor_23 rfl (lv_at hl 0 rfl) ?_
        refine k_get (K := RX3) (T := TX3) (N := 15) (v := .int (D 4 ((s_X0_firstMissedBy D nl nt ng i).toNatClampNeg) 5)) (w := .int (D 4 ((s_X0_firstMissedBy D nl nt ng i).toNatClampNeg) 5)) hx hb fX3 hown hK hW 4 ((s_X0_firstMissedBy D nl nt ng i).toNatClampNeg) (hd.lo hi_o3.lt) (fun _ => rfl) rfl 5 (by decide) (hts (.fieldLink RX0 154 "Crossdockery$Lorry" "state" "C") (by decide +kernel)) rfl rfl rfl dX0_debtorAtDoor_24 ?_
        refine lv_bipush (v := 101) hx hb dX0_debtorAtDoor_27 (by decide) ?_
        refine lv_icmp_eq (tgt := 34) hx hb dX0_debtorAtDoor_29 (by decide) (fun c4 => ?_) (fun c4 => ?_)
        ·
          refine lv_aload_n hx hb dX0_debtorAtDoor_34 rfl (lv_at hl 0 rfl) ?_
          refine k_get (K := RX3) (T := TX3) (N := 15) (v := .int (D 4 ((s_X0_firstMissedBy D nl nt ng i).toNatClampNeg) 2)) (w := .int (D 4 ((s_X0_firstMissedBy D nl nt ng i).toNatClampNeg) 2)) hx hb fX3 hown hK hW 4 ((s_X0_firstMissedBy D nl nt ng i).toNatClampNeg) (hd.lo hi_o3.lt) (fun _ => rfl) rfl 2 (by decide) (hts (.fieldLink RX0 193 "Crossdockery$Lorry" "planned" "I") (by decide +kernel)) rfl rfl rfl dX0_debtorAtDoor_35 ?_
          refine lv_aload_n hx hb dX0_debtorAtDoor_38 rfl (lv_at hl 1 rfl) ?_
          refine k_get (K := RX0) (T := TX0) (N := 5) (v := .int (D 0 0 4)) (w := .int (D 0 0 4)) hx hb fX0 hown hK hW 0 0 hd.o (fun _ => rfl) rfl 4 (by decide) (hts (.fieldLink RX0 80 "Crossdockery$Dock" "minute" "I") (by decide +kernel)) rfl rfl rfl dX0_debtorAtDoor_39 ?_
          refine lv_icmp_gt (tgt := 52) hx hb dX0_debtorAtDoor_42 (by decide) (fun c5 => ?_) (fun c5 => ?_)
          ·
            refine lv_bipush (v := (-2)) hx hb dX0_debtorAtDoor_52 (by decide) ?_
            have e9 : (s_X0_debtorAtDoor D nl nt ng i po) = (-2) := by unfold s_X0_debtorAtDoor; first | done | (simp only [if_neg c1, if_pos c2, if_neg o3, if_pos c4, if_pos c5]; done) | rfl
            exact k_iret hx hb hr hlocks (⟨by rw [e9], hW⟩) hL dX0_debtorAtDoor_54
          ·
            refine lv_aload_n hx hb dX0_debtorAtDoor_45 rfl (lv_at hl 0 rfl) ?_
            refine k_get (K := RX3) (T := TX3) (N := 15) (v := .int (D 4 ((s_X0_firstMissedBy D nl nt ng i).toNatClampNeg) 0)) (w := .int (D 4 ((s_X0_firstMissedBy D nl nt ng i).toNatClampNeg) 0)) hx hb fX3 hown hK hW 4 ((s_X0_firstMissedBy D nl nt ng i).toNatClampNeg) (hd.lo hi_o3.lt) (fun _ => rfl) rfl 0 (by decide) (hts (.fieldLink RX0 196 "Crossdockery$Lorry" "number" "I") (by decide +kernel)) rfl rfl rfl dX0_debtorAtDoor_46 ?_
            refine lv_goto (tgt := 54) hx hb dX0_debtorAtDoor_49 (by decide) ?_
            have e9 : (s_X0_debtorAtDoor D nl nt ng i po) = D 4 ((s_X0_firstMissedBy D nl nt ng i).toNatClampNeg) 0 := by unfold s_X0_debtorAtDoor; first | done | (simp only [if_neg c1, if_pos c2, if_neg o3, if_pos c4, if_neg c5]; done) | rfl
            exact k_iret hx hb hr hlocks (⟨by rw [e9], hW⟩) hL dX0_debtorAtDoor_54
        ·
          refine lv_iconst (v := (-1)) hx hb dX0_debtorAtDoor_32 (by decide) ?_
          have e9 : (s_X0_debtorAtDoor D nl nt ng i po) = (-1) := by unfold s_X0_debtorAtDoor; first | done | (simp only [if_neg c1, if_pos c2, if_neg o3, if_neg c4]; done) | rfl
          exact k_iret hx hb hr hlocks (⟨by rw [e9], hW⟩) hL dX0_debtorAtDoor_33
    ·
      refine lv_iconst (v := (-1)) hx hb dX0_debtorAtDoor_11 (by decide) ?_
      have e9 : (s_X0_debtorAtDoor D nl nt ng i po) = (-1) := by unfold s_X0_debtorAtDoor; first | done | (simp only [if_neg c1, if_neg c2]; done) | rfl
      exact k_iret hx hb hr hlocks (⟨by rw [e9], hW⟩) hL dX0_debtorAtDoor_12
def s_X0_debtorBehind (D : KD) (i : Nat) : Int32 := (if (D 4 i 10) = 0 then (if (D 4 i 13) = (-2) then D 4 i 0 else D 4 i 13) else (if (D 4 i 6) ≤ (D 4 i 2) then (-1) else D 4 i 0))
set_option maxHeartbeats 4000000 in
set_option maxRecDepth 100000 in
theorem c_X0_debtorBehind (X : kX) (l : Launch) {n : Nat → Nat → Nat} {ad L : Nat → Nat → Nat → Nat} {C : Nat → Nat → Nat → Nat → Int32} {fr : Nat → Option Cell} {g : Nat} {nl nt ng : Nat} (hd : kDk n g nl nt ng) (D : KD) (i : Nat) (h_i : i < nl) : k_M X l yX0_debtorBehind wsX0_debtorBehind ({ frames := 1, cells := 0, slots := 0, locals := 12 }) [.ref (ad g 0 0), .ref (ad g 4 i)] (k_W X n ad L (k_g C g D) fr) (fun v H => v = some (.int (s_X0_debtorBehind D i)) ∧ k_W X n ad L (k_g C g D) fr H) 0 0 := by
  refine k_M.of (cc := cX0_debtorBehind) (maxL := 2) (ret := (some .int)) (by decide) rfl (Nat.le_of_ble_eq_true rfl) ?_
  intro p e s m args below meth c ls hx hb hr hml hown hts hlocks hnm hK hW hl
  have hL : ∀ q ∈ ([] : List Loc), k_B X ≤ q.base := fun _ h => nomatch h
  have hl : lv_has ls 2 [(0, .ref (ad g 0 0)), (1, .ref (ad g 4 i))] := hl
  have fX3 : ∀ w ∈ u_ws RX3 TX3 15, w.before args s = true := fun w h => hts w ((by decide +kernel : ∀ w ∈ u_ws RX3 TX3 15, w ∈ wsX0_debtorBehind) w h)
  have hl8 := hd.l8
  have ht16 := hd.t16
  have hg4 := hd.g4
  refine lv_aload_n hx hb dX0_debtorBehind_0 rfl (lv_at hl 1 rfl) ?_
  refine k_get (K := RX3) (T := TX3) (N := 15) (v := .int (D 4 i 10)) (w := .int (D 4 i 10)) hx hb fX3 hown hK hW 4 i (hd.lo h_i) (fun _ => rfl) rfl 10 (by decide) (hts (.fieldLink RX0 179 "Crossdockery$Lorry" "isHandled" "Z") (by decide +kernel)) rfl rfl rfl dX0_debtorBehind_1 ?_
  refine lv_if_eq (tgt := 27) hx hb dX0_debtorBehind_4 (by decide) (fun c1 => ?_) (fun c1 => ?_)
  ·
    refine lv_aload_n hx hb dX0_debtorBehind_27 rfl (lv_at hl 1 rfl) ?_
    refine k_get (K := RX3) (T := TX3) (N := 15) (v := .int (D 4 i 13)) (w := .int (D 4 i 13)) hx hb fX3 hown hK hW 4 i (hd.lo h_i) (fun _ => rfl) rfl 13 (by decide) (hts (.fieldLink RX0 187 "Crossdockery$Lorry" "debtorAtDoor" "I") (by decide +kernel)) rfl rfl rfl dX0_debtorBehind_28 ?_
    refine lv_bipush (v := (-2)) hx hb dX0_debtorBehind_31 (by decide) ?_
    refine lv_icmp_ne (tgt := 43) hx hb dX0_debtorBehind_33 (by decide) (fun c2 => ?_) (fun c2 => ?_)
    ·
      refine lv_aload_n hx hb dX0_debtorBehind_43 rfl (lv_at hl 1 rfl) ?_
      refine k_get (K := RX3) (T := TX3) (N := 15) (v := .int (D 4 i 13)) (w := .int (D 4 i 13)) hx hb fX3 hown hK hW 4 i (hd.lo h_i) (fun _ => rfl) rfl 13 (by decide) (hts (.fieldLink RX0 187 "Crossdockery$Lorry" "debtorAtDoor" "I") (by decide +kernel)) rfl rfl rfl dX0_debtorBehind_44 ?_
      have e9 : (s_X0_debtorBehind D i) = D 4 i 13 := by unfold s_X0_debtorBehind; first | done | (simp only [if_pos c1, if_neg c2]; done) | rfl
      exact k_iret hx hb hr hlocks (⟨by rw [e9], hW⟩) hL dX0_debtorBehind_47
    ·
      refine lv_aload_n hx hb dX0_debtorBehind_36 rfl (lv_at hl 1 rfl) ?_
      refine k_get (K := RX3) (T := TX3) (N := 15) (v := .int (D 4 i 0)) (w := .int (D 4 i 0)) hx hb fX3 hown hK hW 4 i (hd.lo h_i) (fun _ => rfl) rfl 0 (by decide) (hts (.fieldLink RX0 196 "Crossdockery$Lorry" "number" "I") (by decide +kernel)) rfl rfl rfl dX0_debtorBehind_37 ?_
      refine lv_goto (tgt := 47) hx hb dX0_debtorBehind_40 (by decide) ?_
      have e9 : (s_X0_debtorBehind D i) = D 4 i 0 := by unfold s_X0_debtorBehind; first | done | (simp only [if_pos c1, if_pos c2]; done) | rfl
      exact k_iret hx hb hr hlocks (⟨by rw [e9], hW⟩) hL dX0_debtorBehind_47
  ·
    refine lv_aload_n hx hb dX0_debtorBehind_7 rfl (lv_at hl 1 rfl) ?_
    refine k_get (K := RX3) (T := TX3) (N := 15) (v := .int (D 4 i 6)) (w := .int (D 4 i 6)) hx hb fX3 hown hK hW 4 i (hd.lo h_i) (fun _ => rfl) rfl 6 (by decide) (hts (.fieldLink RX0 238 "Crossdockery$Lorry" "arrivedAt" "I") (by decide +kernel)) rfl rfl rfl dX0_debtorBehind_8 ?_
    refine lv_aload_n hx hb dX0_debtorBehind_11 rfl (lv_at hl 1 rfl) ?_
    refine k_get (K := RX3) (T := TX3) (N := 15) (v := .int (D 4 i 2)) (w := .int (D 4 i 2)) hx hb fX3 hown hK hW 4 i (hd.lo h_i) (fun _ => rfl) rfl 2 (by decide) (hts (.fieldLink RX0 193 "Crossdockery$Lorry" "planned" "I") (by decide +kernel)) rfl rfl rfl dX0_debtorBehind_12 ?_
    refine lv_icmp_le (tgt := 25) hx hb dX0_debtorBehind_15 (by decide) (fun c3 => ?_) (fun c3 => ?_)
    ·
      refine lv_iconst (v := (-1)) hx hb dX0_debtorBehind_25 (by decide) ?_
      have e9 : (s_X0_debtorBehind D i) = (-1) := by unfold s_X0_debtorBehind; first | done | (simp only [if_neg c1, if_pos c3]; done) | rfl
      exact k_iret hx hb hr hlocks (⟨by rw [e9], hW⟩) hL dX0_debtorBehind_26
    ·
      refine lv_aload_n hx hb dX0_debtorBehind_18 rfl (lv_at hl 1 rfl) ?_
      refine k_get (K := RX3) (T := TX3) (N := 15) (v := .int (D 4 i 0)) (w := .int (D 4 i 0)) hx hb fX3 hown hK hW 4 i (hd.lo h_i) (fun _ => rfl) rfl 0 (by decide) (hts (.fieldLink RX0 196 "Crossdockery$Lorry" "number" "I") (by decide +kernel)) rfl rfl rfl dX0_debtorBehind_19 ?_
      refine lv_goto (tgt := 26) hx hb dX0_debtorBehind_22 (by decide) ?_
      have e9 : (s_X0_debtorBehind D i) = D 4 i 0 := by unfold s_X0_debtorBehind; first | done | (simp only [if_neg c1, if_neg c3]; done) | rfl
      exact k_iret hx hb hr hlocks (⟨by rw [e9], hW⟩) hL dX0_debtorBehind_26
def s_X0_debtorOf (D : KD) (i : Nat) : Int32 := (if (s_X3_waitsOnItsOwn D i (D 0 0 4)) = 0 then (if (D 4 i 5) = 100 then D 4 i 13 else (if (s_X0_standingAt D (D 4 i 4)) = (-1) then (-1) else (s_X0_debtorBehind D ((s_X0_standingAt D (D 4 i 4)).toNatClampNeg)))) else (-2))
set_option maxHeartbeats 4000000 in
set_option maxRecDepth 100000 in
theorem c_X0_debtorOf (X : kX) (l : Launch) {n : Nat → Nat → Nat} {ad L : Nat → Nat → Nat → Nat} {C : Nat → Nat → Nat → Nat → Int32} {fr : Nat → Option Cell} {g : Nat} {nl nt ng : Nat} (hd : kDk n g nl nt ng) (D : KD) (hwf : cWF D nl nt) (i : Nat) (h_i : i < nl) : k_M X l yX0_debtorOf wsX0_debtorOf ({ frames := 2, cells := 0, slots := 0, locals := 33 }) [.ref (ad g 0 0), .ref (ad g 4 i)] (k_W X n ad L (k_g C g D) fr) (fun v H => v = some (.int (s_X0_debtorOf D i)) ∧ k_W X n ad L (k_g C g D) fr H) 0 0 := by
  refine k_M.of (cc := cX0_debtorOf) (maxL := 3) (ret := (some .int)) (by decide) rfl (Nat.le_of_ble_eq_true rfl) ?_
  intro p e s m args below meth c ls hx hb hr hml hown hts hlocks hnm hK hW hl
  have hL : ∀ q ∈ ([] : List Loc), k_B X ≤ q.base := fun _ h => nomatch h
  have hl : lv_has ls 3 [(0, .ref (ad g 0 0)), (1, .ref (ad g 4 i))] := hl
  have fX0 : ∀ w ∈ u_ws RX0 TX0 5, w.before args s = true := fun w h => hts w ((by decide +kernel : ∀ w ∈ u_ws RX0 TX0 5, w ∈ wsX0_debtorOf) w h)
  have fX3 : ∀ w ∈ u_ws RX3 TX3 15, w.before args s = true := fun w h => hts w ((by decide +kernel : ∀ w ∈ u_ws RX3 TX3 15, w ∈ wsX0_debtorOf) w h)
  have hl8 := hd.l8
  have ht16 := hd.t16
  have hg4 := hd.g4
  refine lv_aload_n hx hb dX0_debtorOf_0 rfl (lv_at hl 1 rfl) ?_
  refine lv_aload_n hx hb dX0_debtorOf_1 rfl (lv_at hl 0 rfl) ?_
  refine k_get (K := RX0) (T := TX0) (N := 5) (v := .int (D 0 0 4)) (w := .int (D 0 0 4)) hx hb fX0 hown hK hW 0 0 hd.o (fun _ => rfl) rfl 4 (by decide) (hts (.fieldLink RX0 80 "Crossdockery$Dock" "minute" "I") (by decide +kernel)) rfl rfl rfl dX0_debtorOf_2 ?_
  refine k_callV (As := [.int (D 0 0 4)]) (rest := []) ⟨hx, hb, hml, hown, hts⟩ hK (c_X3_waitsOnItsOwn X l hd D i h_i (D 0 0 4)) (cwV 1 hts gX0_debtorOf_X3_waitsOnItsOwn rfl rfl rfl (by decide +kernel) ⟨Nat.le_of_ble_eq_true rfl, Nat.le_of_ble_eq_true rfl⟩) (k_recv hK hW 4 i (hd.lo h_i) (fun _ => rfl) rfl) hW rfl hl.1 rfl (Nat.le_of_ble_eq_true rfl) dX0_debtorOf_5 ⟨Nat.le_of_ble_eq_true rfl, Nat.le_of_ble_eq_true rfl⟩ hL (fun v9 H locs hp hL => ?_)
  obtain ⟨rfl, hW⟩ := hp
  refine lv_if_eq (tgt := 14) hx hb dX0_debtorOf_8 (by decide) (fun c1 => ?_) (fun c1 => ?_)
  ·
    refine lv_aload_n hx hb dX0_debtorOf_14 rfl (lv_at hl 1 rfl) ?_
    refine k_get (K := RX3) (T := TX3) (N := 15) (v := .int (D 4 i 5)) (w := .int (D 4 i 5)) hx hb fX3 hown hK hW 4 i (hd.lo h_i) (fun _ => rfl) rfl 5 (by decide) (hts (.fieldLink RX0 154 "Crossdockery$Lorry" "state" "C") (by decide +kernel)) rfl rfl rfl dX0_debtorOf_15 ?_
    refine lv_bipush (v := 100) hx hb dX0_debtorOf_18 (by decide) ?_
    refine lv_icmp_ne (tgt := 28) hx hb dX0_debtorOf_20 (by decide) (fun c2 => ?_) (fun c2 => ?_)
    ·
      refine lv_aload_n hx hb dX0_debtorOf_28 rfl (lv_at hl 0 rfl) ?_
      refine lv_aload_n hx hb dX0_debtorOf_29 rfl (lv_at hl 1 rfl) ?_
      refine k_get (K := RX3) (T := TX3) (N := 15) (v := .int (D 4 i 4)) (w := .int (D 4 i 4)) hx hb fX3 hown hK hW 4 i (hd.lo h_i) (fun _ => rfl) rfl 4 (by decide) (hts (.fieldLink RX0 229 "Crossdockery$Lorry" "door" "I") (by decide +kernel)) rfl rfl rfl dX0_debtorOf_30 ?_
      refine k_callV (As := [.int (D 4 i 4)]) (rest := []) ⟨hx, hb, hml, hown, hts⟩ hK (c_X0_standingAt X l hd D hwf (D 4 i 4)) (cwV 1 hts gX0_debtorOf_X0_standingAt rfl rfl rfl (by decide +kernel) ⟨Nat.le_of_ble_eq_true rfl, Nat.le_of_ble_eq_true rfl⟩) (k_recv hK hW 0 0 hd.o (fun _ => rfl) rfl) hW rfl hl.1 rfl (Nat.le_of_ble_eq_true rfl) dX0_debtorOf_33 ⟨Nat.le_of_ble_eq_true rfl, Nat.le_of_ble_eq_true rfl⟩ hL (fun v9 H locs hp hL => ?_)
      obtain ⟨rfl, hW⟩ := hp
      refine k_opt (fun o3 => ?_) (fun o3 => ?_)
      ·
        refine lv_astore_nN (lv' := [(2, .null), (0, .ref (ad g 0 0)), (1, .ref (ad g 4 i))]) hx hb dX0_debtorOf_36 rfl hl (by decide) rfl (fun ls hl => ?_)
        refine lv_aload_nN hx hb dX0_debtorOf_37 rfl (lv_at hl 0 rfl) ?_
        refine lv_ifnonnullN hx hb dX0_debtorOf_38 ?_
        refine lv_iconst (v := (-1)) hx hb dX0_debtorOf_41 (by decide) ?_
        refine lv_goto (tgt := 50) hx hb dX0_debtorOf_42 (by decide) ?_
        have e9 : (s_X0_debtorOf D i) = (-1) := by unfold s_X0_debtorOf; first | done | (simp only [if_pos c1, if_neg c2, if_pos o3]; done) | rfl
        exact k_iret hx hb hr hlocks (⟨by rw [e9], hW⟩) hL dX0_debtorOf_50
      ·
        have hi_o3 : vp_in (s_X0_standingAt D (D 4 i 4)) nl := (cIN_standingAt hwf o3)
        refine lv_astore_n (lv' := [(2, .ref (ad g 4 ((s_X0_standingAt D (D 4 i 4)).toNatClampNeg))), (0, .ref (ad g 0 0)), (1, .ref (ad g 4 i))]) hx hb dX0_debtorOf_36 rfl hl (by decide) rfl (fun ls hl => ?_)
        refine lv_aload_n hx hb dX0_debtorOf_37 rfl (lv_at hl 0 rfl) ?_
        refine lv_ifnonnull (tgt := 45) hx hb dX0_debtorOf_38 (by decide) ?_
        refine lv_aload_n hx hb dX0_debtorOf_45 rfl (lv_at hl 1 rfl) ?_
        refine lv_aload_n hx hb dX0_debtorOf_46 rfl (lv_at hl 0 rfl) ?_
        refine k_callV (As := [.ref (ad g 4 ((s_X0_standingAt D (D 4 i 4)).toNatClampNeg))]) (rest := []) ⟨hx, hb, hml, hown, hts⟩ hK (c_X0_debtorBehind X l hd D ((s_X0_standingAt D (D 4 i 4)).toNatClampNeg) hi_o3.lt) (cwV 1 hts gX0_debtorOf_X0_debtorBehind rfl rfl rfl (by decide +kernel) ⟨Nat.le_of_ble_eq_true rfl, Nat.le_of_ble_eq_true rfl⟩) (k_recv hK hW 0 0 hd.o (fun _ => rfl) rfl) hW rfl hl.1 rfl (Nat.le_of_ble_eq_true rfl) dX0_debtorOf_47 ⟨Nat.le_of_ble_eq_true rfl, Nat.le_of_ble_eq_true rfl⟩ hL (fun v9 H locs hp hL => ?_)
        obtain ⟨rfl, hW⟩ := hp
        have e9 : (s_X0_debtorOf D i) = (s_X0_debtorBehind D ((s_X0_standingAt D (D 4 i 4)).toNatClampNeg)) := by unfold s_X0_debtorOf; first | done | (simp only [if_pos c1, if_neg c2, if_neg o3]; done) | rfl
        exact k_iret hx hb hr hlocks (⟨by rw [e9], hW⟩) hL dX0_debtorOf_50
    ·
      refine lv_aload_n hx hb dX0_debtorOf_23 rfl (lv_at hl 1 rfl) ?_
      refine k_get (K := RX3) (T := TX3) (N := 15) (v := .int (D 4 i 13)) (w := .int (D 4 i 13)) hx hb fX3 hown hK hW 4 i (hd.lo h_i) (fun _ => rfl) rfl 13 (by decide) (hts (.fieldLink RX0 187 "Crossdockery$Lorry" "debtorAtDoor" "I") (by decide +kernel)) rfl rfl rfl dX0_debtorOf_24 ?_
      have e9 : (s_X0_debtorOf D i) = D 4 i 13 := by unfold s_X0_debtorOf; first | done | (simp only [if_pos c1, if_pos c2]; done) | rfl
      exact k_iret hx hb hr hlocks (⟨by rw [e9], hW⟩) hL dX0_debtorOf_27
  ·
    refine lv_bipush (v := (-2)) hx hb dX0_debtorOf_11 (by decide) ?_
    have e9 : (s_X0_debtorOf D i) = (-2) := by unfold s_X0_debtorOf; first | done | (simp only [if_neg c1]; done) | rfl
    exact k_iret hx hb hr hlocks (⟨by rw [e9], hW⟩) hL dX0_debtorOf_13
def f_X0_fillDoors_2 (D : KD) (nl : Nat) (nt : Nat) (ng : Nat) (k2 : Nat) (z2 : KD) : KD := (if (z2 3 0 k2) = (-1) then (if (s_X0_queuedFor z2 nl nt ng (nI k2) 0) = (-1) then z2 else (k_d (k_d z2 4 ((s_X0_queuedFor z2 nl nt ng (nI k2) 0).toNatClampNeg) 5 100) 3 0 k2 (s_X0_queuedFor z2 nl nt ng (nI k2) 0))) else z2)
def l_X0_fillDoors_2 (D : KD) (nl : Nat) (nt : Nat) (ng : Nat) : KD := it (f_X0_fillDoors_2 D nl nt ng) 4 D
def s_X0_fillDoors (D : KD) (nl : Nat) (nt : Nat) (ng : Nat) : KD := (l_X0_fillDoors_2 D nl nt ng)
set_option maxHeartbeats 4000000 in
set_option maxRecDepth 100000 in
theorem c_X0_fillDoors (X : kX) (l : Launch) {n : Nat → Nat → Nat} {ad L : Nat → Nat → Nat → Nat} {C : Nat → Nat → Nat → Nat → Int32} {fr : Nat → Option Cell} {g : Nat} {nl nt ng : Nat} (hd : kDk n g nl nt ng) (D : KD) (hwf : cWF D nl nt) : k_M X l yX0_fillDoors wsX0_fillDoors ({ frames := 6, cells := 0, slots := 0, locals := 124 }) [.ref (ad g 0 0)] (k_W X n ad L (k_g C g D) fr) (fun v H => v = none ∧ k_W X n ad L (k_g C g (s_X0_fillDoors D nl nt ng)) fr H ∧ cWF (s_X0_fillDoors D nl nt ng) nl nt) 0 0 := by
  refine k_M.of (cc := cX0_fillDoors) (maxL := 3) (ret := none) (by decide) rfl (Nat.le_of_ble_eq_true rfl) ?_
  intro p e s m args below meth c ls hx hb hr hml hown hts hlocks hnm hK hW hl
  have hL : ∀ q ∈ ([] : List Loc), k_B X ≤ q.base := fun _ h => nomatch h
  have hl : lv_has ls 3 [(0, .ref (ad g 0 0))] := hl
  have fX0 : ∀ w ∈ u_ws RX0 TX0 5, w.before args s = true := fun w h => hts w ((by decide +kernel : ∀ w ∈ u_ws RX0 TX0 5, w ∈ wsX0_fillDoors) w h)
  have fX3 : ∀ w ∈ u_ws RX3 TX3 15, w.before args s = true := fun w h => hts w ((by decide +kernel : ∀ w ∈ u_ws RX3 TX3 15, w ∈ wsX0_fillDoors) w h)
  have hl8 := hd.l8
  have ht16 := hd.t16
  have hg4 := hd.g4
  refine lv_iconst (v := 0) hx hb dX0_fillDoors_0 (by decide) ?_
  refine lv_istore_n (lv' := [(1, .int 0), (0, .ref (ad g 0 0))]) hx hb dX0_fillDoors_1 rfl hl (by decide) rfl (fun ls hl => ?_)
  refine k_for (4) (fun k2 H locs ls => ∃ z2 : KD, z2 = it (f_X0_fillDoors_2 D nl nt ng) k2 D ∧ k_W X n ad L (k_g C g z2) fr H ∧ (∀ q ∈ locs, k_B X ≤ q.base) ∧ lv_has ls 3 [(1, .int (nI k2)), (0, .ref (ad g 0 0))] ∧ cWF z2 nl nt) 0 ⟨D, rfl, hW, hL, lv_sub hl [0, 1] rfl, hwf⟩ (Nat.zero_le _) (fun k2 hk2 ih2 H locs ls hI => ?_)
  obtain ⟨z2, hz2, hW, hL, hl, hE2⟩ := hI
  refine lv_iload_n hx hb dX0_fillDoors_2 rfl (lv_at hl 0 rfl) ?_
  refine lv_aload_n hx hb dX0_fillDoors_3 rfl (lv_at hl 1 rfl) ?_
  refine k_get (K := RX0) (T := TX0) (N := 5) (v := .ref (ad g 3 0)) (w := .ref (ad g 3 0)) hx hb fX0 hown hK hW 0 0 hd.o (fun _ => rfl) rfl 3 (by decide) (hts (.fieldLink RX0 26 "Crossdockery$Dock" "atDoor" "[LCrossdockery$Lorry;") (by decide +kernel)) rfl rfl rfl dX0_fillDoors_4 ?_
  refine k_alen (t0 := 3) (v := 4) hx hb hK hW 3 0 hd.at (fun _ => rfl) rfl rfl dX0_fillDoors_7 ?_
  refine lv_icmp_ge (tgt := 50) hx hb dX0_fillDoors_8 (by decide) (fun c1 => ?_) (fun c1 => ?_)
  ·
    rw [show (4 : Int32) = nI 4 from rfl] at c1
    have hge2 := k_nI_ge (by omega) (by omega) c1
    obtain rfl : 4 = k2 := by omega
    replace hz2 : z2 = (l_X0_fillDoors_2 D nl nt ng) := hz2
    subst hz2
    have hl : lv_has ls 3 [(1, .int (nI 4)), (0, .ref (ad g 0 0))] := hl
    have e9 : (s_X0_fillDoors D nl nt ng) = (l_X0_fillDoors_2 D nl nt ng) := by unfold s_X0_fillDoors; first | done | rfl
    exact k_vret hx hb hr hlocks (⟨rfl, by rw [e9]; exact hW, by rw [e9]; exact hE2⟩) hL dX0_fillDoors_50
  ·
    have hlt2 : k2 < 4 := k_nI_nge (by omega) (by omega) (by rw [show (4 : Int32) = nI 4 from rfl] at c1; exact c1)
    refine lv_aload_n hx hb dX0_fillDoors_11 rfl (lv_at hl 1 rfl) ?_
    refine k_get (K := RX0) (T := TX0) (N := 5) (v := .ref (ad g 3 0)) (w := .ref (ad g 3 0)) hx hb fX0 hown hK hW 0 0 hd.o (fun _ => rfl) rfl 3 (by decide) (hts (.fieldLink RX0 26 "Crossdockery$Dock" "atDoor" "[LCrossdockery$Lorry;") (by decide +kernel)) rfl rfl rfl dX0_fillDoors_12 ?_
    refine lv_iload_n hx hb dX0_fillDoors_15 rfl (lv_at hl 0 rfl) ?_
    refine k_aald (K := "Crossdockery$Lorry") (t0 := 3) (k := k2) (v := k_lr ad g (z2 3 0 k2)) hx hb hK hW 3 0 hd.at (fun _ => rfl) rfl (nI_clamp (by omega)) (vp_in_nI (by omega) (by decide)) rfl dX0_fillDoors_16 ?_
    refine k_opt (fun o3 => ?_) (fun o3 => ?_)
    ·
      refine lv_ifnonnullN hx hb dX0_fillDoors_17 ?_
      refine lv_aload_n hx hb dX0_fillDoors_20 rfl (lv_at hl 1 rfl) ?_
      refine lv_iload_n hx hb dX0_fillDoors_21 rfl (lv_at hl 0 rfl) ?_
      refine lv_iconst (v := 0) hx hb dX0_fillDoors_22 (by decide) ?_
      refine k_callV (As := [.int (nI k2), .int 0]) (rest := []) ⟨hx, hb, hml, hown, hts⟩ hK (c_X0_queuedFor X l hd z2 (nI k2) 0) (cwV 2 hts gX0_fillDoors_X0_queuedFor rfl rfl rfl (by decide +kernel) ⟨Nat.le_of_ble_eq_true rfl, Nat.le_of_ble_eq_true rfl⟩) (k_recv hK hW 0 0 hd.o (fun _ => rfl) rfl) hW rfl hl.1 rfl (Nat.le_of_ble_eq_true rfl) dX0_fillDoors_23 ⟨Nat.le_of_ble_eq_true rfl, Nat.le_of_ble_eq_true rfl⟩ hL (fun v9 H locs hp hL => ?_)
      obtain ⟨rfl, hW⟩ := hp
      refine k_opt (fun o4 => ?_) (fun o4 => ?_)
      ·
        refine lv_astore_nN (lv' := [(2, .null), (1, .int (nI k2)), (0, .ref (ad g 0 0))]) hx hb dX0_fillDoors_26 rfl hl (by decide) rfl (fun ls hl => ?_)
        refine lv_aload_nN hx hb dX0_fillDoors_27 rfl (lv_at hl 0 rfl) ?_
        refine lv_ifnullN (tgt := 44) hx hb dX0_fillDoors_28 (by decide) ?_
        refine lv_iinc (v := (nI (k2 + 1))) (k := 1) (lv' := [(1, .int (nI (k2 + 1))), (2, .null), (0, .ref (ad g 0 0))]) hx hb dX0_fillDoors_44 hl rfl (nI_1 _) (by decide) rfl (fun ls hl => ?_)
        refine lv_goto (tgt := 2) hx hb dX0_fillDoors_47 (by decide) ?_
        have e9 : (f_X0_fillDoors_2 D nl nt ng) k2 z2 = z2 := by unfold f_X0_fillDoors_2; first | done | (simp only [if_pos o3, if_pos o4]; done) | rfl
        exact ih2 _ _ _ hlt2 ⟨z2, by rw [it_s, ← hz2, e9], hW, hL, lv_sub hl [0, 2] rfl, hE2⟩
      ·
        have hi_o4 : vp_in (s_X0_queuedFor z2 nl nt ng (nI k2) 0) nl := (cIN_queuedFor hd.l8 o4)
        refine lv_astore_n (lv' := [(2, .ref (ad g 4 ((s_X0_queuedFor z2 nl nt ng (nI k2) 0).toNatClampNeg))), (1, .int (nI k2)), (0, .ref (ad g 0 0))]) hx hb dX0_fillDoors_26 rfl hl (by decide) rfl (fun ls hl => ?_)
        refine lv_aload_n hx hb dX0_fillDoors_27 rfl (lv_at hl 0 rfl) ?_
        refine lv_ifnull hx hb dX0_fillDoors_28 ?_
        refine lv_aload_n hx hb dX0_fillDoors_31 rfl (lv_at hl 0 rfl) ?_
        refine lv_bipush (v := 100) hx hb dX0_fillDoors_32 (by decide) ?_
        refine k_put (K := RX3) (T := TX3) (N := 15) (x := 100) hx hb fX3 tyX3 tyX3_ok nmX3 hown hK hW hL 4 ((s_X0_queuedFor z2 nl nt ng (nI k2) 0).toNatClampNeg) (hd.lo hi_o4.lt) (fun _ => rfl) rfl 5 (by decide) (hts (.fieldLink RX0 154 "Crossdockery$Lorry" "state" "C") (by decide +kernel)) rfl rfl (by decide +kernel) (by decide +kernel) (fun _ => Nat.le_of_ble_eq_true rfl) (fun _ _ => rfl) dX0_fillDoors_34 (fun H locs hW hL => ?_)
        refine lv_aload_n hx hb dX0_fillDoors_37 rfl (lv_at hl 2 rfl) ?_
        refine k_get (K := RX0) (T := TX0) (N := 5) (v := .ref (ad g 3 0)) (w := .ref (ad g 3 0)) hx hb fX0 hown hK hW 0 0 hd.o (fun _ => rfl) rfl 3 (by decide) (hts (.fieldLink RX0 26 "Crossdockery$Dock" "atDoor" "[LCrossdockery$Lorry;") (by decide +kernel)) rfl rfl rfl dX0_fillDoors_38 ?_
        refine lv_iload_n hx hb dX0_fillDoors_41 rfl (lv_at hl 1 rfl) ?_
        refine lv_aload_n hx hb dX0_fillDoors_42 rfl (lv_at hl 0 rfl) ?_
        refine k_aast (y := (s_X0_queuedFor z2 nl nt ng (nI k2) 0)) (k := k2) hx hb hK hW hL hd.at (hd.lo hi_o4.lt) o4 rfl (nI_clamp (by omega)) (vp_in_nI (by omega) (by decide)) dX0_fillDoors_43 (fun H locs hW hL => ?_)
        refine lv_iinc (v := (nI (k2 + 1))) (k := 1) (lv' := [(1, .int (nI (k2 + 1))), (2, .ref (ad g 4 ((s_X0_queuedFor z2 nl nt ng (nI k2) 0).toNatClampNeg))), (0, .ref (ad g 0 0))]) hx hb dX0_fillDoors_44 hl rfl (nI_1 _) (by decide) rfl (fun ls hl => ?_)
        refine lv_goto (tgt := 2) hx hb dX0_fillDoors_47 (by decide) ?_
        have e9 : (f_X0_fillDoors_2 D nl nt ng) k2 z2 = (k_d (k_d z2 4 ((s_X0_queuedFor z2 nl nt ng (nI k2) 0).toNatClampNeg) 5 100) 3 0 k2 (s_X0_queuedFor z2 nl nt ng (nI k2) 0)) := by unfold f_X0_fillDoors_2; first | done | (simp only [if_pos o3, if_neg o4]; done) | rfl
        exact ih2 _ _ _ hlt2 ⟨(k_d (k_d z2 4 ((s_X0_queuedFor z2 nl nt ng (nI k2) 0).toNatClampNeg) 5 100) 3 0 k2 (s_X0_queuedFor z2 nl nt ng (nI k2) 0)), by rw [it_s, ← hz2, e9], hW, hL, lv_sub hl [0, 2] rfl, ((hE2.put ⟨by decide, Or.inl (by decide)⟩).put3 (Or.inr (by assumption)))⟩
    ·
      have hi_o3 : vp_in (z2 3 0 k2) nl := (hE2.ain (by first | omega | exact vp_in.lt (by assumption)) o3)
      refine lv_ifnonnull (tgt := 44) hx hb dX0_fillDoors_17 (by decide) ?_
      refine lv_iinc (v := (nI (k2 + 1))) (k := 0) (lv' := [(1, .int (nI (k2 + 1))), (0, .ref (ad g 0 0))]) hx hb dX0_fillDoors_44 hl rfl (nI_1 _) (by decide) rfl (fun ls hl => ?_)
      refine lv_goto (tgt := 2) hx hb dX0_fillDoors_47 (by decide) ?_
      have e9 : (f_X0_fillDoors_2 D nl nt ng) k2 z2 = z2 := by unfold f_X0_fillDoors_2; first | done | (simp only [if_neg o3]; done) | rfl
      exact ih2 _ _ _ hlt2 ⟨z2, by rw [it_s, ← hz2, e9], hW, hL, lv_sub hl [0, 1] rfl, hE2⟩
def r_X0_handleUnitsOf_5 (D : KD) (nl : Nat) (nt : Nat) (ng : Nat) (i : Nat) (mo : Int32) : Nat → Nat → KD → Int32 → KD
  | 0, k5, a0, a1 => (if a1 ≥ mo then k_d a0 4 i 10 0 else k_d a0 4 i 10 1)
  | f5 + 1, k5, a0, a1 => (if a1 ≤ 0 then (if a1 ≥ mo then k_d a0 4 i 10 0 else k_d a0 4 i 10 1) else (if (s_X5_isOf a0 k5 i) = 0 then r_X0_handleUnitsOf_5 D nl nt ng i mo f5 (k5 + 1) a0 a1 else (if (a0 4 i 1) = 0 then r_X0_handleUnitsOf_5 D nl nt ng i mo f5 (k5 + 1) ((s_X5_load a0 k5 a1).1) (a1 - ((s_X5_load a0 k5 a1).2)) else r_X0_handleUnitsOf_5 D nl nt ng i mo f5 (k5 + 1) ((s_X5_unload a0 k5 a1).1) (a1 - ((s_X5_unload a0 k5 a1).2)))))
theorem r_X0_handleUnitsOf_5_0 (D : KD) (nl : Nat) (nt : Nat) (ng : Nat) (i : Nat) (mo : Int32) (k5 : Nat) (a0 : KD) (a1 : Int32) : r_X0_handleUnitsOf_5 D nl nt ng i mo 0 k5 a0 a1 = (if a1 ≥ mo then k_d a0 4 i 10 0 else k_d a0 4 i 10 1) := rfl
theorem r_X0_handleUnitsOf_5_s (D : KD) (nl : Nat) (nt : Nat) (ng : Nat) (i : Nat) (mo : Int32) (f5 k5 : Nat) (a0 : KD) (a1 : Int32) : r_X0_handleUnitsOf_5 D nl nt ng i mo (f5 + 1) k5 a0 a1 = (if a1 ≤ 0 then (if a1 ≥ mo then k_d a0 4 i 10 0 else k_d a0 4 i 10 1) else (if (s_X5_isOf a0 k5 i) = 0 then r_X0_handleUnitsOf_5 D nl nt ng i mo f5 (k5 + 1) a0 a1 else (if (a0 4 i 1) = 0 then r_X0_handleUnitsOf_5 D nl nt ng i mo f5 (k5 + 1) ((s_X5_load a0 k5 a1).1) (a1 - ((s_X5_load a0 k5 a1).2)) else r_X0_handleUnitsOf_5 D nl nt ng i mo f5 (k5 + 1) ((s_X5_unload a0 k5 a1).1) (a1 - ((s_X5_unload a0 k5 a1).2))))) := rfl
def s_X0_handleUnitsOf (D : KD) (nl : Nat) (nt : Nat) (ng : Nat) (i : Nat) (mo : Int32) : KD := r_X0_handleUnitsOf_5 D nl nt ng i mo (nt - 0) 0 D mo
set_option maxHeartbeats 4000000 in
set_option maxRecDepth 100000 in
theorem c_X0_handleUnitsOf (X : kX) (l : Launch) {n : Nat → Nat → Nat} {ad L : Nat → Nat → Nat → Nat} {C : Nat → Nat → Nat → Nat → Int32} {fr : Nat → Option Cell} {g : Nat} {nl nt ng : Nat} (hd : kDk n g nl nt ng) (D : KD) (hwf : cWF D nl nt) (i : Nat) (h_i : i < nl) (mo : Int32) : k_M X l yX0_handleUnitsOf wsX0_handleUnitsOf ({ frames := 4, cells := 0, slots := 0, locals := 76 }) [.ref (ad g 0 0), .ref (ad g 4 i), .int mo] (k_W X n ad L (k_g C g D) fr) (fun v H => v = none ∧ k_W X n ad L (k_g C g (s_X0_handleUnitsOf D nl nt ng i mo)) fr H ∧ cWF (s_X0_handleUnitsOf D nl nt ng i mo) nl nt) 0 0 := by
  refine k_M.of (cc := cX0_handleUnitsOf) (maxL := 6) (ret := none) (by decide) rfl (Nat.le_of_ble_eq_true rfl) ?_
  intro p e s m args below meth c ls hx hb hr hml hown hts hlocks hnm hK hW hl
  have hL : ∀ q ∈ ([] : List Loc), k_B X ≤ q.base := fun _ h => nomatch h
  have hl : lv_has ls 6 [(0, .ref (ad g 0 0)), (1, .ref (ad g 4 i)), (2, .int mo)] := hl
  have fX0 : ∀ w ∈ u_ws RX0 TX0 5, w.before args s = true := fun w h => hts w ((by decide +kernel : ∀ w ∈ u_ws RX0 TX0 5, w ∈ wsX0_handleUnitsOf) w h)
  have fX3 : ∀ w ∈ u_ws RX3 TX3 15, w.before args s = true := fun w h => hts w ((by decide +kernel : ∀ w ∈ u_ws RX3 TX3 15, w ∈ wsX0_handleUnitsOf) w h)
  have hl8 := hd.l8
  have ht16 := hd.t16
  have hg4 := hd.g4
  refine lv_iload_n hx hb dX0_handleUnitsOf_0 rfl (lv_at hl 2 rfl) ?_
  refine lv_istore_n (lv' := [(3, .int mo), (0, .ref (ad g 0 0)), (1, .ref (ad g 4 i)), (2, .int mo)]) hx hb dX0_handleUnitsOf_1 rfl hl (by decide) rfl (fun ls hl => ?_)
  refine lv_iconst (v := 0) hx hb dX0_handleUnitsOf_2 (by decide) ?_
  refine lv_istore (lv' := [(4, .int 0), (3, .int mo), (0, .ref (ad g 0 0)), (1, .ref (ad g 4 i)), (2, .int mo)]) hx hb dX0_handleUnitsOf_3 hl (by decide) rfl (fun ls hl => ?_)
  refine k_for (nt) (fun k5 H locs ls => ∃ z5 : KD × Int32, (s_X0_handleUnitsOf D nl nt ng i mo) = (r_X0_handleUnitsOf_5 D nl nt ng i mo) (nt - k5) k5 z5.1 z5.2 ∧ k_W X n ad L (k_g C g z5.1) fr H ∧ (∀ q ∈ locs, k_B X ≤ q.base) ∧ lv_has ls 6 [(4, .int (nI k5)), (3, .int z5.2), (0, .ref (ad g 0 0)), (1, .ref (ad g 4 i)), (2, .int mo)] ∧ cWF z5.1 nl nt) 0 ⟨(D, mo), by unfold s_X0_handleUnitsOf; first | done | rfl, hW, hL, lv_sub hl [0, 1, 2, 3, 4] rfl, hwf⟩ (Nat.zero_le _) (fun k5 hk5 ih5 H locs ls hI => ?_)
  obtain ⟨z5, hz5, hW, hL, hl, hE5⟩ := hI
  refine lv_iload hx hb dX0_handleUnitsOf_5 (lv_at hl 0 rfl) ?_
  refine lv_aload_n hx hb dX0_handleUnitsOf_7 rfl (lv_at hl 2 rfl) ?_
  refine k_get (K := RX0) (T := TX0) (N := 5) (v := .ref (ad g 1 1)) (w := .ref (ad g 1 1)) hx hb fX0 hown hK hW 0 0 hd.o (fun _ => rfl) rfl 1 (by decide) (hts (.fieldLink RX0 18 "Crossdockery$Dock" "transfers" "Ljava/util/ArrayList;") (by decide +kernel)) rfl rfl rfl dX0_handleUnitsOf_8 ?_
  refine k_callV (As := []) (rest := [.int (nI k5)]) ⟨hx, hb, hml, hown, hts⟩ hK (c_size1 X l hd) (cwV 0 hts gX0_handleUnitsOf_Jx4a65c_size_8abf5 rfl rfl rfl (by decide +kernel) ⟨Nat.le_of_ble_eq_true rfl, Nat.le_of_ble_eq_true rfl⟩) (k_recv hK hW 1 1 (hd.li (by decide)) (fun _ => rfl) rfl) hW rfl hl.1 rfl (Nat.le_of_ble_eq_true rfl) dX0_handleUnitsOf_11 ⟨Nat.le_of_ble_eq_true rfl, Nat.le_of_ble_eq_true rfl⟩ hL (fun v9 H locs hp hL => ?_)
  obtain ⟨rfl, hW⟩ := hp
  refine lv_icmp_ge (tgt := 75) hx hb dX0_handleUnitsOf_14 (by decide) (fun c1 => ?_) (fun c1 => ?_)
  ·
    have hge5 := k_nI_ge (by omega) (by omega) c1
    obtain rfl : nt = k5 := by omega
    rw [show nt - nt = 0 by omega] at hz5
    refine lv_aload_n hx hb dX0_handleUnitsOf_75 rfl (lv_at hl 3 rfl) ?_
    refine lv_iload_n hx hb dX0_handleUnitsOf_76 rfl (lv_at hl 1 rfl) ?_
    refine lv_iload_n hx hb dX0_handleUnitsOf_77 rfl (lv_at hl 4 rfl) ?_
    refine lv_icmp_ge (tgt := 85) hx hb dX0_handleUnitsOf_78 (by decide) (fun c2 => ?_) (fun c2 => ?_)
    ·
      refine lv_iconst (v := 0) hx hb dX0_handleUnitsOf_85 (by decide) ?_
      refine k_put (K := RX3) (T := TX3) (N := 15) (x := 0) hx hb fX3 tyX3 tyX3_ok nmX3 hown hK hW hL 4 i (hd.lo h_i) (fun _ => rfl) rfl 10 (by decide) (hts (.fieldLink RX0 179 "Crossdockery$Lorry" "isHandled" "Z") (by decide +kernel)) rfl rfl (by decide +kernel) (by decide +kernel) (fun _ => Nat.le_of_ble_eq_true rfl) (fun _ _ => rfl) dX0_handleUnitsOf_86 (fun H locs hW hL => ?_)
      have e9 : (s_X0_handleUnitsOf D nl nt ng i mo) = k_d z5.1 4 i 10 0 := by rw [hz5, r_X0_handleUnitsOf_5_0]; first | done | (simp only [if_pos c2]; done) | rfl
      exact k_vret hx hb hr hlocks (⟨rfl, by rw [e9]; exact hW, by rw [e9]; exact (hE5.put ⟨by decide, Or.inl (by decide)⟩)⟩) hL dX0_handleUnitsOf_89
    ·
      refine lv_iconst (v := 1) hx hb dX0_handleUnitsOf_81 (by decide) ?_
      refine lv_goto (tgt := 86) hx hb dX0_handleUnitsOf_82 (by decide) ?_
      refine k_put (K := RX3) (T := TX3) (N := 15) (x := 1) hx hb fX3 tyX3 tyX3_ok nmX3 hown hK hW hL 4 i (hd.lo h_i) (fun _ => rfl) rfl 10 (by decide) (hts (.fieldLink RX0 179 "Crossdockery$Lorry" "isHandled" "Z") (by decide +kernel)) rfl rfl (by decide +kernel) (by decide +kernel) (fun _ => Nat.le_of_ble_eq_true rfl) (fun _ _ => rfl) dX0_handleUnitsOf_86 (fun H locs hW hL => ?_)
      have e9 : (s_X0_handleUnitsOf D nl nt ng i mo) = k_d z5.1 4 i 10 1 := by rw [hz5, r_X0_handleUnitsOf_5_0]; first | done | (simp only [if_neg c2]; done) | rfl
      exact k_vret hx hb hr hlocks (⟨rfl, by rw [e9]; exact hW, by rw [e9]; exact (hE5.put ⟨by decide, Or.inl (by decide)⟩)⟩) hL dX0_handleUnitsOf_89
  ·
    have hlt5 : k5 < nt := k_nI_nge (by omega) (by omega) c1
    obtain ⟨f5, hf5⟩ : ∃ f, nt - k5 = f + 1 := ⟨nt - k5 - 1, by omega⟩
    refine lv_iload_n hx hb dX0_handleUnitsOf_17 rfl (lv_at hl 1 rfl) ?_
    refine lv_if_le (tgt := 75) hx hb dX0_handleUnitsOf_18 (by decide) (fun c3 => ?_) (fun c3 => ?_)
    ·
      refine lv_aload_n hx hb dX0_handleUnitsOf_75 rfl (lv_at hl 3 rfl) ?_
      refine lv_iload_n hx hb dX0_handleUnitsOf_76 rfl (lv_at hl 1 rfl) ?_
      refine lv_iload_n hx hb dX0_handleUnitsOf_77 rfl (lv_at hl 4 rfl) ?_
      refine lv_icmp_ge (tgt := 85) hx hb dX0_handleUnitsOf_78 (by decide) (fun c4 => ?_) (fun c4 => ?_)
      ·
        refine lv_iconst (v := 0) hx hb dX0_handleUnitsOf_85 (by decide) ?_
        refine k_put (K := RX3) (T := TX3) (N := 15) (x := 0) hx hb fX3 tyX3 tyX3_ok nmX3 hown hK hW hL 4 i (hd.lo h_i) (fun _ => rfl) rfl 10 (by decide) (hts (.fieldLink RX0 179 "Crossdockery$Lorry" "isHandled" "Z") (by decide +kernel)) rfl rfl (by decide +kernel) (by decide +kernel) (fun _ => Nat.le_of_ble_eq_true rfl) (fun _ _ => rfl) dX0_handleUnitsOf_86 (fun H locs hW hL => ?_)
        have e9 : (s_X0_handleUnitsOf D nl nt ng i mo) = k_d z5.1 4 i 10 0 := by rw [hz5, hf5, r_X0_handleUnitsOf_5_s]; first | done | (simp only [if_pos c3, if_pos c4]; done) | rfl
        exact k_vret hx hb hr hlocks (⟨rfl, by rw [e9]; exact hW, by rw [e9]; exact (hE5.put ⟨by decide, Or.inl (by decide)⟩)⟩) hL dX0_handleUnitsOf_89
      ·
        refine lv_iconst (v := 1) hx hb dX0_handleUnitsOf_81 (by decide) ?_
        refine lv_goto (tgt := 86) hx hb dX0_handleUnitsOf_82 (by decide) ?_
        refine k_put (K := RX3) (T := TX3) (N := 15) (x := 1) hx hb fX3 tyX3 tyX3_ok nmX3 hown hK hW hL 4 i (hd.lo h_i) (fun _ => rfl) rfl 10 (by decide) (hts (.fieldLink RX0 179 "Crossdockery$Lorry" "isHandled" "Z") (by decide +kernel)) rfl rfl (by decide +kernel) (by decide +kernel) (fun _ => Nat.le_of_ble_eq_true rfl) (fun _ _ => rfl) dX0_handleUnitsOf_86 (fun H locs hW hL => ?_)
        have e9 : (s_X0_handleUnitsOf D nl nt ng i mo) = k_d z5.1 4 i 10 1 := by rw [hz5, hf5, r_X0_handleUnitsOf_5_s]; first | done | (simp only [if_pos c3, if_neg c4]; done) | rfl
        exact k_vret hx hb hr hlocks (⟨rfl, by rw [e9]; exact hW, by rw [e9]; exact (hE5.put ⟨by decide, Or.inl (by decide)⟩)⟩) hL dX0_handleUnitsOf_89
    ·
      refine lv_aload_n hx hb dX0_handleUnitsOf_21 rfl (lv_at hl 2 rfl) ?_
      refine k_get (K := RX0) (T := TX0) (N := 5) (v := .ref (ad g 1 1)) (w := .ref (ad g 1 1)) hx hb fX0 hown hK hW 0 0 hd.o (fun _ => rfl) rfl 1 (by decide) (hts (.fieldLink RX0 18 "Crossdockery$Dock" "transfers" "Ljava/util/ArrayList;") (by decide +kernel)) rfl rfl rfl dX0_handleUnitsOf_22 ?_
      refine lv_iload hx hb dX0_handleUnitsOf_25 (lv_at hl 0 rfl) ?_
      refine k_callV (As := [.int (nI k5)]) (rest := []) ⟨hx, hb, hml, hown, hts⟩ hK (c_get1 X l hd hW.cap (j := k5) (by omega)) (cwV 1 hts gX0_handleUnitsOf_Jx4a65c_get_915e3 rfl rfl rfl (by decide +kernel) ⟨Nat.le_of_ble_eq_true rfl, Nat.le_of_ble_eq_true rfl⟩) (k_recv hK hW 1 1 (hd.li (by decide)) (fun _ => rfl) rfl) hW rfl hl.1 rfl (Nat.le_of_ble_eq_true rfl) dX0_handleUnitsOf_27 ⟨Nat.le_of_ble_eq_true rfl, Nat.le_of_ble_eq_true rfl⟩ hL (fun v9 H locs hp hL => ?_)
      obtain ⟨rfl, hW⟩ := hp
      refine k_cast' (K := RX5) (nm := RX5) hx hb hown (hts (.classLink RX0 47 RX5) (by decide +kernel)) hK (List.mem_of_getElem? (i := 5) rfl) (k_recv hK hW 5 k5 (hd.tr (show k5 < nt by omega)) (fun _ => rfl) rfl) dX0_handleUnitsOf_30 ?_
      refine lv_astore (lv' := [(5, .ref (ad g 5 k5)), (4, .int (nI k5)), (3, .int z5.2), (0, .ref (ad g 0 0)), (1, .ref (ad g 4 i)), (2, .int mo)]) hx hb dX0_handleUnitsOf_33 hl (by decide) rfl (fun ls hl => ?_)
      refine lv_aload hx hb dX0_handleUnitsOf_35 (lv_at hl 0 rfl) ?_
      refine lv_aload_n hx hb dX0_handleUnitsOf_37 rfl (lv_at hl 4 rfl) ?_
      refine k_callV (As := [.ref (ad g 4 i)]) (rest := []) ⟨hx, hb, hml, hown, hts⟩ hK (c_X5_isOf X l hd z5.1 hE5 k5 (show k5 < nt by omega) i h_i) (cwV 1 hts gX0_handleUnitsOf_X5_isOf rfl rfl rfl (by decide +kernel) ⟨Nat.le_of_ble_eq_true rfl, Nat.le_of_ble_eq_true rfl⟩) (k_recv hK hW 5 k5 (hd.tr (show k5 < nt by omega)) (fun _ => rfl) rfl) hW rfl hl.1 rfl (Nat.le_of_ble_eq_true rfl) dX0_handleUnitsOf_38 ⟨Nat.le_of_ble_eq_true rfl, Nat.le_of_ble_eq_true rfl⟩ hL (fun v9 H locs hp hL => ?_)
      obtain ⟨rfl, hW⟩ := hp
      refine lv_if_eq (tgt := 69) hx hb dX0_handleUnitsOf_41 (by decide) (fun c5 => ?_) (fun c5 => ?_)
      ·
        refine lv_iinc (v := (nI (k5 + 1))) (k := 1) (lv' := [(4, .int (nI (k5 + 1))), (5, .ref (ad g 5 k5)), (3, .int z5.2), (0, .ref (ad g 0 0)), (1, .ref (ad g 4 i)), (2, .int mo)]) hx hb dX0_handleUnitsOf_69 hl rfl (nI_1 _) (by decide) rfl (fun ls hl => ?_)
        refine lv_goto (tgt := 5) hx hb dX0_handleUnitsOf_72 (by decide) ?_
        have e9 : (s_X0_handleUnitsOf D nl nt ng i mo) = (r_X0_handleUnitsOf_5 D nl nt ng i mo) f5 (k5 + 1) z5.1 z5.2 := by rw [hz5, hf5, r_X0_handleUnitsOf_5_s]; first | done | (simp only [if_neg c3, if_pos c5]; done) | rfl
        exact ih5 _ _ _ hlt5 ⟨(z5.1, z5.2), by rw [e9, show nt - (k5 + 1) = f5 by omega], hW, hL, lv_sub hl [0, 2, 3, 4, 5] rfl, hE5⟩
      ·
        refine lv_iload_n hx hb dX0_handleUnitsOf_44 rfl (lv_at hl 2 rfl) ?_
        refine lv_aload_n hx hb dX0_handleUnitsOf_45 rfl (lv_at hl 4 rfl) ?_
        refine k_get (K := RX3) (T := TX3) (N := 15) (v := .int (z5.1 4 i 1)) (w := .int (z5.1 4 i 1)) hx hb fX3 hown hK hW 4 i (hd.lo h_i) (fun _ => rfl) rfl 1 (by decide) (hts (.fieldLink RX0 169 "Crossdockery$Lorry" "isBringing" "Z") (by decide +kernel)) rfl rfl rfl dX0_handleUnitsOf_46 ?_
        refine lv_if_eq (tgt := 61) hx hb dX0_handleUnitsOf_49 (by decide) (fun c6 => ?_) (fun c6 => ?_)
        ·
          refine lv_aload hx hb dX0_handleUnitsOf_61 (lv_at hl 0 rfl) ?_
          refine lv_iload_n hx hb dX0_handleUnitsOf_63 rfl (lv_at hl 2 rfl) ?_
          refine k_callV (As := [.int z5.2]) (rest := [.int z5.2]) ⟨hx, hb, hml, hown, hts⟩ hK (c_X5_load X l hd z5.1 k5 (show k5 < nt by omega) z5.2) (cwV 1 hts gX0_handleUnitsOf_X5_load rfl rfl rfl (by decide +kernel) ⟨Nat.le_of_ble_eq_true rfl, Nat.le_of_ble_eq_true rfl⟩) (k_recv hK hW 5 k5 (hd.tr (show k5 < nt by omega)) (fun _ => rfl) rfl) hW rfl hl.1 rfl (Nat.le_of_ble_eq_true rfl) dX0_handleUnitsOf_64 ⟨Nat.le_of_ble_eq_true rfl, Nat.le_of_ble_eq_true rfl⟩ hL (fun v9 H locs hp hL => ?_)
          obtain ⟨rfl, hW⟩ := hp
          refine lv_isub hx hb dX0_handleUnitsOf_67 ?_
          refine lv_istore_n (lv' := [(3, .int (z5.2 - ((s_X5_load z5.1 k5 z5.2).2))), (5, .ref (ad g 5 k5)), (4, .int (nI k5)), (0, .ref (ad g 0 0)), (1, .ref (ad g 4 i)), (2, .int mo)]) hx hb dX0_handleUnitsOf_68 rfl hl (by decide) rfl (fun ls hl => ?_)
          refine lv_iinc (v := (nI (k5 + 1))) (k := 2) (lv' := [(4, .int (nI (k5 + 1))), (3, .int (z5.2 - ((s_X5_load z5.1 k5 z5.2).2))), (5, .ref (ad g 5 k5)), (0, .ref (ad g 0 0)), (1, .ref (ad g 4 i)), (2, .int mo)]) hx hb dX0_handleUnitsOf_69 hl rfl (nI_1 _) (by decide) rfl (fun ls hl => ?_)
          refine lv_goto (tgt := 5) hx hb dX0_handleUnitsOf_72 (by decide) ?_
          have e9 : (s_X0_handleUnitsOf D nl nt ng i mo) = (r_X0_handleUnitsOf_5 D nl nt ng i mo) f5 (k5 + 1) ((s_X5_load z5.1 k5 z5.2).1) (z5.2 - ((s_X5_load z5.1 k5 z5.2).2)) := by rw [hz5, hf5, r_X0_handleUnitsOf_5_s]; first | done | (simp only [if_neg c3, if_neg c5, if_pos c6]; done) | rfl
          exact ih5 _ _ _ hlt5 ⟨(((s_X5_load z5.1 k5 z5.2).1), (z5.2 - ((s_X5_load z5.1 k5 z5.2).2))), by rw [e9, show nt - (k5 + 1) = f5 by omega], hW, hL, lv_sub hl [0, 1, 3, 4, 5] rfl, (cWF_X5_load (ng := ng) hE5 _ _)⟩
        ·
          refine lv_aload hx hb dX0_handleUnitsOf_52 (lv_at hl 0 rfl) ?_
          refine lv_iload_n hx hb dX0_handleUnitsOf_54 rfl (lv_at hl 2 rfl) ?_
          refine k_callV (As := [.int z5.2]) (rest := [.int z5.2]) ⟨hx, hb, hml, hown, hts⟩ hK (c_X5_unload X l hd z5.1 hE5 k5 (show k5 < nt by omega) z5.2) (cwV 1 hts gX0_handleUnitsOf_X5_unload rfl rfl rfl (by decide +kernel) ⟨Nat.le_of_ble_eq_true rfl, Nat.le_of_ble_eq_true rfl⟩) (k_recv hK hW 5 k5 (hd.tr (show k5 < nt by omega)) (fun _ => rfl) rfl) hW rfl hl.1 rfl (Nat.le_of_ble_eq_true rfl) dX0_handleUnitsOf_55 ⟨Nat.le_of_ble_eq_true rfl, Nat.le_of_ble_eq_true rfl⟩ hL (fun v9 H locs hp hL => ?_)
          obtain ⟨rfl, hW⟩ := hp
          refine lv_goto (tgt := 67) hx hb dX0_handleUnitsOf_58 (by decide) ?_
          refine lv_isub hx hb dX0_handleUnitsOf_67 ?_
          refine lv_istore_n (lv' := [(3, .int (z5.2 - ((s_X5_unload z5.1 k5 z5.2).2))), (5, .ref (ad g 5 k5)), (4, .int (nI k5)), (0, .ref (ad g 0 0)), (1, .ref (ad g 4 i)), (2, .int mo)]) hx hb dX0_handleUnitsOf_68 rfl hl (by decide) rfl (fun ls hl => ?_)
          refine lv_iinc (v := (nI (k5 + 1))) (k := 2) (lv' := [(4, .int (nI (k5 + 1))), (3, .int (z5.2 - ((s_X5_unload z5.1 k5 z5.2).2))), (5, .ref (ad g 5 k5)), (0, .ref (ad g 0 0)), (1, .ref (ad g 4 i)), (2, .int mo)]) hx hb dX0_handleUnitsOf_69 hl rfl (nI_1 _) (by decide) rfl (fun ls hl => ?_)
          refine lv_goto (tgt := 5) hx hb dX0_handleUnitsOf_72 (by decide) ?_
          have e9 : (s_X0_handleUnitsOf D nl nt ng i mo) = (r_X0_handleUnitsOf_5 D nl nt ng i mo) f5 (k5 + 1) ((s_X5_unload z5.1 k5 z5.2).1) (z5.2 - ((s_X5_unload z5.1 k5 z5.2).2)) := by rw [hz5, hf5, r_X0_handleUnitsOf_5_s]; first | done | (simp only [if_neg c3, if_neg c5, if_neg c6]; done) | rfl
          exact ih5 _ _ _ hlt5 ⟨(((s_X5_unload z5.1 k5 z5.2).1), (z5.2 - ((s_X5_unload z5.1 k5 z5.2).2))), by rw [e9, show nt - (k5 + 1) = f5 by omega], hW, hL, lv_sub hl [0, 1, 3, 4, 5] rfl, (cWF_X5_unload (ng := ng) hE5 _ _)⟩
def f_X0_handleUnits_2 (D : KD) (nl : Nat) (nt : Nat) (ng : Nat) (k2 : Nat) (z2 : KD) : KD := (if (z2 3 0 k2) = (-1) then z2 else (s_X0_handleUnitsOf z2 nl nt ng ((z2 3 0 k2).toNatClampNeg) (s_X0_powerAt z2 nl nt ng (nI k2))))
def l_X0_handleUnits_2 (D : KD) (nl : Nat) (nt : Nat) (ng : Nat) : KD := it (f_X0_handleUnits_2 D nl nt ng) 4 D
def s_X0_handleUnits (D : KD) (nl : Nat) (nt : Nat) (ng : Nat) : KD := (l_X0_handleUnits_2 D nl nt ng)
set_option maxHeartbeats 4000000 in
set_option maxRecDepth 100000 in
theorem c_X0_handleUnits (X : kX) (l : Launch) {n : Nat → Nat → Nat} {ad L : Nat → Nat → Nat → Nat} {C : Nat → Nat → Nat → Nat → Int32} {fr : Nat → Option Cell} {g : Nat} {nl nt ng : Nat} (hd : kDk n g nl nt ng) (D : KD) (hwf : cWF D nl nt) : k_M X l yX0_handleUnits wsX0_handleUnits ({ frames := 5, cells := 0, slots := 0, locals := 101 }) [.ref (ad g 0 0)] (k_W X n ad L (k_g C g D) fr) (fun v H => v = none ∧ k_W X n ad L (k_g C g (s_X0_handleUnits D nl nt ng)) fr H ∧ cWF (s_X0_handleUnits D nl nt ng) nl nt) 0 0 := by
  refine k_M.of (cc := cX0_handleUnits) (maxL := 3) (ret := none) (by decide) rfl (Nat.le_of_ble_eq_true rfl) ?_
  intro p e s m args below meth c ls hx hb hr hml hown hts hlocks hnm hK hW hl
  have hL : ∀ q ∈ ([] : List Loc), k_B X ≤ q.base := fun _ h => nomatch h
  have hl : lv_has ls 3 [(0, .ref (ad g 0 0))] := hl
  have fX0 : ∀ w ∈ u_ws RX0 TX0 5, w.before args s = true := fun w h => hts w ((by decide +kernel : ∀ w ∈ u_ws RX0 TX0 5, w ∈ wsX0_handleUnits) w h)
  have fX3 : ∀ w ∈ u_ws RX3 TX3 15, w.before args s = true := fun w h => hts w ((by decide +kernel : ∀ w ∈ u_ws RX3 TX3 15, w ∈ wsX0_handleUnits) w h)
  have hl8 := hd.l8
  have ht16 := hd.t16
  have hg4 := hd.g4
  refine lv_iconst (v := 0) hx hb dX0_handleUnits_0 (by decide) ?_
  refine lv_istore_n (lv' := [(1, .int 0), (0, .ref (ad g 0 0))]) hx hb dX0_handleUnits_1 rfl hl (by decide) rfl (fun ls hl => ?_)
  refine k_for (4) (fun k2 H locs ls => ∃ z2 : KD, z2 = it (f_X0_handleUnits_2 D nl nt ng) k2 D ∧ k_W X n ad L (k_g C g z2) fr H ∧ (∀ q ∈ locs, k_B X ≤ q.base) ∧ lv_has ls 3 [(1, .int (nI k2)), (0, .ref (ad g 0 0))] ∧ cWF z2 nl nt) 0 ⟨D, rfl, hW, hL, lv_sub hl [0, 1] rfl, hwf⟩ (Nat.zero_le _) (fun k2 hk2 ih2 H locs ls hI => ?_)
  obtain ⟨z2, hz2, hW, hL, hl, hE2⟩ := hI
  refine lv_iload_n hx hb dX0_handleUnits_2 rfl (lv_at hl 0 rfl) ?_
  refine lv_aload_n hx hb dX0_handleUnits_3 rfl (lv_at hl 1 rfl) ?_
  refine k_get (K := RX0) (T := TX0) (N := 5) (v := .ref (ad g 3 0)) (w := .ref (ad g 3 0)) hx hb fX0 hown hK hW 0 0 hd.o (fun _ => rfl) rfl 3 (by decide) (hts (.fieldLink RX0 26 "Crossdockery$Dock" "atDoor" "[LCrossdockery$Lorry;") (by decide +kernel)) rfl rfl rfl dX0_handleUnits_4 ?_
  refine k_alen (t0 := 3) (v := 4) hx hb hK hW 3 0 hd.at (fun _ => rfl) rfl rfl dX0_handleUnits_7 ?_
  refine lv_icmp_ge (tgt := 38) hx hb dX0_handleUnits_8 (by decide) (fun c1 => ?_) (fun c1 => ?_)
  ·
    rw [show (4 : Int32) = nI 4 from rfl] at c1
    have hge2 := k_nI_ge (by omega) (by omega) c1
    obtain rfl : 4 = k2 := by omega
    replace hz2 : z2 = (l_X0_handleUnits_2 D nl nt ng) := hz2
    subst hz2
    have hl : lv_has ls 3 [(1, .int (nI 4)), (0, .ref (ad g 0 0))] := hl
    have e9 : (s_X0_handleUnits D nl nt ng) = (l_X0_handleUnits_2 D nl nt ng) := by unfold s_X0_handleUnits; first | done | rfl
    exact k_vret hx hb hr hlocks (⟨rfl, by rw [e9]; exact hW, by rw [e9]; exact hE2⟩) hL dX0_handleUnits_38
  ·
    have hlt2 : k2 < 4 := k_nI_nge (by omega) (by omega) (by rw [show (4 : Int32) = nI 4 from rfl] at c1; exact c1)
    refine lv_aload_n hx hb dX0_handleUnits_11 rfl (lv_at hl 1 rfl) ?_
    refine k_get (K := RX0) (T := TX0) (N := 5) (v := .ref (ad g 3 0)) (w := .ref (ad g 3 0)) hx hb fX0 hown hK hW 0 0 hd.o (fun _ => rfl) rfl 3 (by decide) (hts (.fieldLink RX0 26 "Crossdockery$Dock" "atDoor" "[LCrossdockery$Lorry;") (by decide +kernel)) rfl rfl rfl dX0_handleUnits_12 ?_
    refine lv_iload_n hx hb dX0_handleUnits_15 rfl (lv_at hl 0 rfl) ?_
    refine k_aald (K := "Crossdockery$Lorry") (t0 := 3) (k := k2) (v := k_lr ad g (z2 3 0 k2)) hx hb hK hW 3 0 hd.at (fun _ => rfl) rfl (nI_clamp (by omega)) (vp_in_nI (by omega) (by decide)) rfl dX0_handleUnits_16 ?_
    refine k_opt (fun o3 => ?_) (fun o3 => ?_)
    ·
      refine lv_astore_nN (lv' := [(2, .null), (1, .int (nI k2)), (0, .ref (ad g 0 0))]) hx hb dX0_handleUnits_17 rfl hl (by decide) rfl (fun ls hl => ?_)
      refine lv_aload_nN hx hb dX0_handleUnits_18 rfl (lv_at hl 0 rfl) ?_
      refine lv_ifnullN (tgt := 32) hx hb dX0_handleUnits_19 (by decide) ?_
      refine lv_iinc (v := (nI (k2 + 1))) (k := 1) (lv' := [(1, .int (nI (k2 + 1))), (2, .null), (0, .ref (ad g 0 0))]) hx hb dX0_handleUnits_32 hl rfl (nI_1 _) (by decide) rfl (fun ls hl => ?_)
      refine lv_goto (tgt := 2) hx hb dX0_handleUnits_35 (by decide) ?_
      have e9 : (f_X0_handleUnits_2 D nl nt ng) k2 z2 = z2 := by unfold f_X0_handleUnits_2; first | done | (simp only [if_pos o3]; done) | rfl
      exact ih2 _ _ _ hlt2 ⟨z2, by rw [it_s, ← hz2, e9], hW, hL, lv_sub hl [0, 2] rfl, hE2⟩
    ·
      have hi_o3 : vp_in (z2 3 0 k2) nl := (hE2.ain (by first | omega | exact vp_in.lt (by assumption)) o3)
      refine lv_astore_n (lv' := [(2, .ref (ad g 4 ((z2 3 0 k2).toNatClampNeg))), (1, .int (nI k2)), (0, .ref (ad g 0 0))]) hx hb dX0_handleUnits_17 rfl hl (by decide) rfl (fun ls hl => ?_)
      refine lv_aload_n hx hb dX0_handleUnits_18 rfl (lv_at hl 0 rfl) ?_
      refine lv_ifnull hx hb dX0_handleUnits_19 ?_
      refine lv_aload_n hx hb dX0_handleUnits_22 rfl (lv_at hl 2 rfl) ?_
      refine lv_aload_n hx hb dX0_handleUnits_23 rfl (lv_at hl 0 rfl) ?_
      refine lv_aload_n hx hb dX0_handleUnits_24 rfl (lv_at hl 2 rfl) ?_
      refine lv_iload_n hx hb dX0_handleUnits_25 rfl (lv_at hl 1 rfl) ?_
      refine k_callV (As := [.int (nI k2)]) (rest := [.ref (ad g 4 ((z2 3 0 k2).toNatClampNeg)), .ref (ad g 0 0)]) ⟨hx, hb, hml, hown, hts⟩ hK (c_X0_powerAt X l hd z2 (nI k2)) (cwV 1 hts gX0_handleUnits_X0_powerAt rfl rfl rfl (by decide +kernel) ⟨Nat.le_of_ble_eq_true rfl, Nat.le_of_ble_eq_true rfl⟩) (k_recv hK hW 0 0 hd.o (fun _ => rfl) rfl) hW rfl hl.1 rfl (Nat.le_of_ble_eq_true rfl) dX0_handleUnits_26 ⟨Nat.le_of_ble_eq_true rfl, Nat.le_of_ble_eq_true rfl⟩ hL (fun v9 H locs hp hL => ?_)
      obtain ⟨rfl, hW⟩ := hp
      refine k_callV (As := [.ref (ad g 4 ((z2 3 0 k2).toNatClampNeg)), .int (s_X0_powerAt z2 nl nt ng (nI k2))]) (rest := []) ⟨hx, hb, hml, hown, hts⟩ hK (c_X0_handleUnitsOf X l hd z2 hE2 ((z2 3 0 k2).toNatClampNeg) hi_o3.lt (s_X0_powerAt z2 nl nt ng (nI k2))) (cwV 2 hts gX0_handleUnits_X0_handleUnitsOf rfl rfl rfl (by decide +kernel) ⟨Nat.le_of_ble_eq_true rfl, Nat.le_of_ble_eq_true rfl⟩) (k_recv hK hW 0 0 hd.o (fun _ => rfl) rfl) hW rfl hl.1 rfl (Nat.le_of_ble_eq_true rfl) dX0_handleUnits_29 ⟨Nat.le_of_ble_eq_true rfl, Nat.le_of_ble_eq_true rfl⟩ hL (fun v9 H locs hp hL => ?_)
      obtain ⟨rfl, hW, hc4⟩ := hp
      refine lv_iinc (v := (nI (k2 + 1))) (k := 1) (lv' := [(1, .int (nI (k2 + 1))), (2, .ref (ad g 4 ((z2 3 0 k2).toNatClampNeg))), (0, .ref (ad g 0 0))]) hx hb dX0_handleUnits_32 hl rfl (nI_1 _) (by decide) rfl (fun ls hl => ?_)
      refine lv_goto (tgt := 2) hx hb dX0_handleUnits_35 (by decide) ?_
      have e9 : (f_X0_handleUnits_2 D nl nt ng) k2 z2 = (s_X0_handleUnitsOf z2 nl nt ng ((z2 3 0 k2).toNatClampNeg) (s_X0_powerAt z2 nl nt ng (nI k2))) := by unfold f_X0_handleUnits_2; first | done | (simp only [if_neg o3]; done) | rfl
      exact ih2 _ _ _ hlt2 ⟨(s_X0_handleUnitsOf z2 nl nt ng ((z2 3 0 k2).toNatClampNeg) (s_X0_powerAt z2 nl nt ng (nI k2))), by rw [it_s, ← hz2, e9], hW, hL, lv_sub hl [0, 2] rfl, hc4⟩
def f_X0_letLeave_4 (D : KD) (nl : Nat) (nt : Nat) (ng : Nat) (k4 : Nat) (z4 : KD × Int32) : KD × Int32 := (if (z4.1 3 0 k4) = (-1) then (z4.1, z4.2) else (if (s_X0_openUnits z4.1 nl nt ng ((z4.1 3 0 k4).toNatClampNeg)) = 0 then ((s_X3_goAway z4.1 ((z4.1 3 0 k4).toNatClampNeg) ((z4.1 0 0 4) + 1)), (z4.2 + 1)) else (z4.1, z4.2)))
def l_X0_letLeave_4 (D : KD) (nl : Nat) (nt : Nat) (ng : Nat) : KD × Int32 := it (f_X0_letLeave_4 D nl nt ng) 4 (D, 0)
def s_X0_letLeave (D : KD) (nl : Nat) (nt : Nat) (ng : Nat) : KD × Int32 := ((l_X0_letLeave_4 D nl nt ng).1, (l_X0_letLeave_4 D nl nt ng).2)
set_option maxHeartbeats 4000000 in
set_option maxRecDepth 100000 in
theorem c_X0_letLeave (X : kX) (l : Launch) {n : Nat → Nat → Nat} {ad L : Nat → Nat → Nat → Nat} {C : Nat → Nat → Nat → Nat → Int32} {fr : Nat → Option Cell} {g : Nat} {nl nt ng : Nat} (hd : kDk n g nl nt ng) (D : KD) (hwf : cWF D nl nt) : k_M X l yX0_letLeave wsX0_letLeave ({ frames := 5, cells := 0, slots := 0, locals := 100 }) [.ref (ad g 0 0)] (k_W X n ad L (k_g C g D) fr) (fun v H => v = some (.int ((s_X0_letLeave D nl nt ng).2)) ∧ k_W X n ad L (k_g C g ((s_X0_letLeave D nl nt ng).1)) fr H ∧ cWF ((s_X0_letLeave D nl nt ng).1) nl nt) 0 0 := by
  refine k_M.of (cc := cX0_letLeave) (maxL := 4) (ret := (some .int)) (by decide) rfl (Nat.le_of_ble_eq_true rfl) ?_
  intro p e s m args below meth c ls hx hb hr hml hown hts hlocks hnm hK hW hl
  have hL : ∀ q ∈ ([] : List Loc), k_B X ≤ q.base := fun _ h => nomatch h
  have hl : lv_has ls 4 [(0, .ref (ad g 0 0))] := hl
  have fX0 : ∀ w ∈ u_ws RX0 TX0 5, w.before args s = true := fun w h => hts w ((by decide +kernel : ∀ w ∈ u_ws RX0 TX0 5, w ∈ wsX0_letLeave) w h)
  have hl8 := hd.l8
  have ht16 := hd.t16
  have hg4 := hd.g4
  refine lv_iconst (v := 0) hx hb dX0_letLeave_0 (by decide) ?_
  refine lv_istore_n (lv' := [(1, .int 0), (0, .ref (ad g 0 0))]) hx hb dX0_letLeave_1 rfl hl (by decide) rfl (fun ls hl => ?_)
  refine lv_iconst (v := 0) hx hb dX0_letLeave_2 (by decide) ?_
  refine lv_istore_n (lv' := [(2, .int 0), (1, .int 0), (0, .ref (ad g 0 0))]) hx hb dX0_letLeave_3 rfl hl (by decide) rfl (fun ls hl => ?_)
  refine k_for (4) (fun k4 H locs ls => ∃ z4 : KD × Int32, z4 = it (f_X0_letLeave_4 D nl nt ng) k4 (D, 0) ∧ k_W X n ad L (k_g C g z4.1) fr H ∧ (∀ q ∈ locs, k_B X ≤ q.base) ∧ lv_has ls 4 [(2, .int (nI k4)), (1, .int z4.2), (0, .ref (ad g 0 0))] ∧ cWF z4.1 nl nt) 0 ⟨(D, 0), rfl, hW, hL, lv_sub hl [0, 1, 2] rfl, hwf⟩ (Nat.zero_le _) (fun k4 hk4 ih4 H locs ls hI => ?_)
  obtain ⟨z4, hz4, hW, hL, hl, hE4⟩ := hI
  refine lv_iload_n hx hb dX0_letLeave_4 rfl (lv_at hl 0 rfl) ?_
  refine lv_aload_n hx hb dX0_letLeave_5 rfl (lv_at hl 2 rfl) ?_
  refine k_get (K := RX0) (T := TX0) (N := 5) (v := .ref (ad g 3 0)) (w := .ref (ad g 3 0)) hx hb fX0 hown hK hW 0 0 hd.o (fun _ => rfl) rfl 3 (by decide) (hts (.fieldLink RX0 26 "Crossdockery$Dock" "atDoor" "[LCrossdockery$Lorry;") (by decide +kernel)) rfl rfl rfl dX0_letLeave_6 ?_
  refine k_alen (t0 := 3) (v := 4) hx hb hK hW 3 0 hd.at (fun _ => rfl) rfl rfl dX0_letLeave_9 ?_
  refine lv_icmp_ge (tgt := 51) hx hb dX0_letLeave_10 (by decide) (fun c1 => ?_) (fun c1 => ?_)
  ·
    rw [show (4 : Int32) = nI 4 from rfl] at c1
    have hge4 := k_nI_ge (by omega) (by omega) c1
    obtain rfl : 4 = k4 := by omega
    replace hz4 : z4 = (l_X0_letLeave_4 D nl nt ng) := hz4
    subst hz4
    have hl : lv_has ls 4 [(2, .int (nI 4)), (1, .int ((l_X0_letLeave_4 D nl nt ng).2)), (0, .ref (ad g 0 0))] := hl
    refine lv_iload_n hx hb dX0_letLeave_51 rfl (lv_at hl 1 rfl) ?_
    have e9 : (s_X0_letLeave D nl nt ng) = ((l_X0_letLeave_4 D nl nt ng).1, (l_X0_letLeave_4 D nl nt ng).2) := by unfold s_X0_letLeave; first | done | rfl
    exact k_iret hx hb hr hlocks (⟨by rw [e9], by rw [e9]; exact hW, by rw [e9]; exact hE4⟩) hL dX0_letLeave_52
  ·
    have hlt4 : k4 < 4 := k_nI_nge (by omega) (by omega) (by rw [show (4 : Int32) = nI 4 from rfl] at c1; exact c1)
    refine lv_aload_n hx hb dX0_letLeave_13 rfl (lv_at hl 2 rfl) ?_
    refine k_get (K := RX0) (T := TX0) (N := 5) (v := .ref (ad g 3 0)) (w := .ref (ad g 3 0)) hx hb fX0 hown hK hW 0 0 hd.o (fun _ => rfl) rfl 3 (by decide) (hts (.fieldLink RX0 26 "Crossdockery$Dock" "atDoor" "[LCrossdockery$Lorry;") (by decide +kernel)) rfl rfl rfl dX0_letLeave_14 ?_
    refine lv_iload_n hx hb dX0_letLeave_17 rfl (lv_at hl 0 rfl) ?_
    refine k_aald (K := "Crossdockery$Lorry") (t0 := 3) (k := k4) (v := k_lr ad g (z4.1 3 0 k4)) hx hb hK hW 3 0 hd.at (fun _ => rfl) rfl (nI_clamp (by omega)) (vp_in_nI (by omega) (by decide)) rfl dX0_letLeave_18 ?_
    refine k_opt (fun o3 => ?_) (fun o3 => ?_)
    ·
      refine lv_astore_nN (lv' := [(3, .null), (2, .int (nI k4)), (1, .int z4.2), (0, .ref (ad g 0 0))]) hx hb dX0_letLeave_19 rfl hl (by decide) rfl (fun ls hl => ?_)
      refine lv_aload_nN hx hb dX0_letLeave_20 rfl (lv_at hl 0 rfl) ?_
      refine lv_ifnullN (tgt := 45) hx hb dX0_letLeave_21 (by decide) ?_
      refine lv_iinc (v := (nI (k4 + 1))) (k := 1) (lv' := [(2, .int (nI (k4 + 1))), (3, .null), (1, .int z4.2), (0, .ref (ad g 0 0))]) hx hb dX0_letLeave_45 hl rfl (nI_1 _) (by decide) rfl (fun ls hl => ?_)
      refine lv_goto (tgt := 4) hx hb dX0_letLeave_48 (by decide) ?_
      have e9 : (f_X0_letLeave_4 D nl nt ng) k4 z4 = (z4.1, z4.2) := by unfold f_X0_letLeave_4; first | done | (simp only [if_pos o3]; done) | rfl
      exact ih4 _ _ _ hlt4 ⟨(z4.1, z4.2), by rw [it_s, ← hz4, e9], hW, hL, lv_sub hl [0, 2, 3] rfl, hE4⟩
    ·
      have hi_o3 : vp_in (z4.1 3 0 k4) nl := (hE4.ain (by first | omega | exact vp_in.lt (by assumption)) o3)
      refine lv_astore_n (lv' := [(3, .ref (ad g 4 ((z4.1 3 0 k4).toNatClampNeg))), (2, .int (nI k4)), (1, .int z4.2), (0, .ref (ad g 0 0))]) hx hb dX0_letLeave_19 rfl hl (by decide) rfl (fun ls hl => ?_)
      refine lv_aload_n hx hb dX0_letLeave_20 rfl (lv_at hl 0 rfl) ?_
      refine lv_ifnull hx hb dX0_letLeave_21 ?_
      refine lv_aload_n hx hb dX0_letLeave_24 rfl (lv_at hl 3 rfl) ?_
      refine lv_aload_n hx hb dX0_letLeave_25 rfl (lv_at hl 0 rfl) ?_
      refine k_callV (As := [.ref (ad g 4 ((z4.1 3 0 k4).toNatClampNeg))]) (rest := []) ⟨hx, hb, hml, hown, hts⟩ hK (c_X0_openUnits X l hd z4.1 hE4 ((z4.1 3 0 k4).toNatClampNeg) hi_o3.lt) (cwV 1 hts gX0_letLeave_X0_openUnits rfl rfl rfl (by decide +kernel) ⟨Nat.le_of_ble_eq_true rfl, Nat.le_of_ble_eq_true rfl⟩) (k_recv hK hW 0 0 hd.o (fun _ => rfl) rfl) hW rfl hl.1 rfl (Nat.le_of_ble_eq_true rfl) dX0_letLeave_26 ⟨Nat.le_of_ble_eq_true rfl, Nat.le_of_ble_eq_true rfl⟩ hL (fun v9 H locs hp hL => ?_)
      obtain ⟨rfl, hW⟩ := hp
      refine lv_if_ne (tgt := 45) hx hb dX0_letLeave_29 (by decide) (fun c4 => ?_) (fun c4 => ?_)
      ·
        refine lv_iinc (v := (nI (k4 + 1))) (k := 1) (lv' := [(2, .int (nI (k4 + 1))), (3, .ref (ad g 4 ((z4.1 3 0 k4).toNatClampNeg))), (1, .int z4.2), (0, .ref (ad g 0 0))]) hx hb dX0_letLeave_45 hl rfl (nI_1 _) (by decide) rfl (fun ls hl => ?_)
        refine lv_goto (tgt := 4) hx hb dX0_letLeave_48 (by decide) ?_
        have e9 : (f_X0_letLeave_4 D nl nt ng) k4 z4 = (z4.1, z4.2) := by unfold f_X0_letLeave_4; first | done | (simp only [if_neg o3, if_neg c4]; done) | rfl
        exact ih4 _ _ _ hlt4 ⟨(z4.1, z4.2), by rw [it_s, ← hz4, e9], hW, hL, lv_sub hl [0, 2, 3] rfl, hE4⟩
      ·
        refine lv_aload_n hx hb dX0_letLeave_32 rfl (lv_at hl 0 rfl) ?_
        refine lv_aload_n hx hb dX0_letLeave_33 rfl (lv_at hl 3 rfl) ?_
        refine k_get (K := RX0) (T := TX0) (N := 5) (v := .int (z4.1 0 0 4)) (w := .int (z4.1 0 0 4)) hx hb fX0 hown hK hW 0 0 hd.o (fun _ => rfl) rfl 4 (by decide) (hts (.fieldLink RX0 80 "Crossdockery$Dock" "minute" "I") (by decide +kernel)) rfl rfl rfl dX0_letLeave_34 ?_
        refine lv_iconst (v := 1) hx hb dX0_letLeave_37 (by decide) ?_
        refine lv_iadd hx hb dX0_letLeave_38 ?_
        refine k_callV (As := [.int ((z4.1 0 0 4) + 1)]) (rest := []) ⟨hx, hb, hml, hown, hts⟩ hK (c_X3_goAway X l hd z4.1 ((z4.1 3 0 k4).toNatClampNeg) hi_o3.lt ((z4.1 0 0 4) + 1)) (cwV 1 hts gX0_letLeave_X3_goAway rfl rfl rfl (by decide +kernel) ⟨Nat.le_of_ble_eq_true rfl, Nat.le_of_ble_eq_true rfl⟩) (k_recv hK hW 4 ((z4.1 3 0 k4).toNatClampNeg) (hd.lo hi_o3.lt) (fun _ => rfl) rfl) hW rfl hl.1 rfl (Nat.le_of_ble_eq_true rfl) dX0_letLeave_39 ⟨Nat.le_of_ble_eq_true rfl, Nat.le_of_ble_eq_true rfl⟩ hL (fun v9 H locs hp hL => ?_)
        obtain ⟨rfl, hW⟩ := hp
        refine lv_iinc (v := (z4.2 + 1)) (k := 2) (lv' := [(1, .int (z4.2 + 1)), (3, .ref (ad g 4 ((z4.1 3 0 k4).toNatClampNeg))), (2, .int (nI k4)), (0, .ref (ad g 0 0))]) hx hb dX0_letLeave_42 hl rfl (rfl) (by decide) rfl (fun ls hl => ?_)
        refine lv_iinc (v := (nI (k4 + 1))) (k := 2) (lv' := [(2, .int (nI (k4 + 1))), (1, .int (z4.2 + 1)), (3, .ref (ad g 4 ((z4.1 3 0 k4).toNatClampNeg))), (0, .ref (ad g 0 0))]) hx hb dX0_letLeave_45 hl rfl (nI_1 _) (by decide) rfl (fun ls hl => ?_)
        refine lv_goto (tgt := 4) hx hb dX0_letLeave_48 (by decide) ?_
        have e9 : (f_X0_letLeave_4 D nl nt ng) k4 z4 = ((s_X3_goAway z4.1 ((z4.1 3 0 k4).toNatClampNeg) ((z4.1 0 0 4) + 1)), (z4.2 + 1)) := by unfold f_X0_letLeave_4; first | done | (simp only [if_neg o3, if_pos c4]; done) | rfl
        exact ih4 _ _ _ hlt4 ⟨((s_X3_goAway z4.1 ((z4.1 3 0 k4).toNatClampNeg) ((z4.1 0 0 4) + 1)), (z4.2 + 1)), by rw [it_s, ← hz4, e9], hW, hL, lv_sub hl [0, 1, 3] rfl, (cWF_X3_goAway (ng := ng) hE4 _ _)⟩
def f_X0_freeDoors_2 (D : KD) (nl : Nat) (nt : Nat) (ng : Nat) (k2 : Nat) (z2 : KD) : KD := (if (z2 3 0 k2) = (-1) then z2 else (if (z2 4 ((z2 3 0 k2).toNatClampNeg) 5) = 108 then (k_d z2 3 0 k2 (-1)) else z2))
def l_X0_freeDoors_2 (D : KD) (nl : Nat) (nt : Nat) (ng : Nat) : KD := it (f_X0_freeDoors_2 D nl nt ng) 4 D
def s_X0_freeDoors (D : KD) (nl : Nat) (nt : Nat) (ng : Nat) : KD := (l_X0_freeDoors_2 D nl nt ng)
set_option maxHeartbeats 4000000 in
set_option maxRecDepth 100000 in
theorem c_X0_freeDoors (X : kX) (l : Launch) {n : Nat → Nat → Nat} {ad L : Nat → Nat → Nat → Nat} {C : Nat → Nat → Nat → Nat → Int32} {fr : Nat → Option Cell} {g : Nat} {nl nt ng : Nat} (hd : kDk n g nl nt ng) (D : KD) (hwf : cWF D nl nt) : k_M X l yX0_freeDoors wsX0_freeDoors ({ frames := 1, cells := 0, slots := 0, locals := 12 }) [.ref (ad g 0 0)] (k_W X n ad L (k_g C g D) fr) (fun v H => v = none ∧ k_W X n ad L (k_g C g (s_X0_freeDoors D nl nt ng)) fr H ∧ cWF (s_X0_freeDoors D nl nt ng) nl nt) 0 0 := by
  refine k_M.of (cc := cX0_freeDoors) (maxL := 3) (ret := none) (by decide) rfl (Nat.le_of_ble_eq_true rfl) ?_
  intro p e s m args below meth c ls hx hb hr hml hown hts hlocks hnm hK hW hl
  have hL : ∀ q ∈ ([] : List Loc), k_B X ≤ q.base := fun _ h => nomatch h
  have hl : lv_has ls 3 [(0, .ref (ad g 0 0))] := hl
  have fX0 : ∀ w ∈ u_ws RX0 TX0 5, w.before args s = true := fun w h => hts w ((by decide +kernel : ∀ w ∈ u_ws RX0 TX0 5, w ∈ wsX0_freeDoors) w h)
  have fX3 : ∀ w ∈ u_ws RX3 TX3 15, w.before args s = true := fun w h => hts w ((by decide +kernel : ∀ w ∈ u_ws RX3 TX3 15, w ∈ wsX0_freeDoors) w h)
  have hl8 := hd.l8
  have ht16 := hd.t16
  have hg4 := hd.g4
  refine lv_iconst (v := 0) hx hb dX0_freeDoors_0 (by decide) ?_
  refine lv_istore_n (lv' := [(1, .int 0), (0, .ref (ad g 0 0))]) hx hb dX0_freeDoors_1 rfl hl (by decide) rfl (fun ls hl => ?_)
  refine k_for (4) (fun k2 H locs ls => ∃ z2 : KD, z2 = it (f_X0_freeDoors_2 D nl nt ng) k2 D ∧ k_W X n ad L (k_g C g z2) fr H ∧ (∀ q ∈ locs, k_B X ≤ q.base) ∧ lv_has ls 3 [(1, .int (nI k2)), (0, .ref (ad g 0 0))] ∧ cWF z2 nl nt) 0 ⟨D, rfl, hW, hL, lv_sub hl [0, 1] rfl, hwf⟩ (Nat.zero_le _) (fun k2 hk2 ih2 H locs ls hI => ?_)
  obtain ⟨z2, hz2, hW, hL, hl, hE2⟩ := hI
  refine lv_iload_n hx hb dX0_freeDoors_2 rfl (lv_at hl 0 rfl) ?_
  refine lv_aload_n hx hb dX0_freeDoors_3 rfl (lv_at hl 1 rfl) ?_
  refine k_get (K := RX0) (T := TX0) (N := 5) (v := .ref (ad g 3 0)) (w := .ref (ad g 3 0)) hx hb fX0 hown hK hW 0 0 hd.o (fun _ => rfl) rfl 3 (by decide) (hts (.fieldLink RX0 26 "Crossdockery$Dock" "atDoor" "[LCrossdockery$Lorry;") (by decide +kernel)) rfl rfl rfl dX0_freeDoors_4 ?_
  refine k_alen (t0 := 3) (v := 4) hx hb hK hW 3 0 hd.at (fun _ => rfl) rfl rfl dX0_freeDoors_7 ?_
  refine lv_icmp_ge (tgt := 44) hx hb dX0_freeDoors_8 (by decide) (fun c1 => ?_) (fun c1 => ?_)
  ·
    rw [show (4 : Int32) = nI 4 from rfl] at c1
    have hge2 := k_nI_ge (by omega) (by omega) c1
    obtain rfl : 4 = k2 := by omega
    replace hz2 : z2 = (l_X0_freeDoors_2 D nl nt ng) := hz2
    subst hz2
    have hl : lv_has ls 3 [(1, .int (nI 4)), (0, .ref (ad g 0 0))] := hl
    have e9 : (s_X0_freeDoors D nl nt ng) = (l_X0_freeDoors_2 D nl nt ng) := by unfold s_X0_freeDoors; first | done | rfl
    exact k_vret hx hb hr hlocks (⟨rfl, by rw [e9]; exact hW, by rw [e9]; exact hE2⟩) hL dX0_freeDoors_44
  ·
    have hlt2 : k2 < 4 := k_nI_nge (by omega) (by omega) (by rw [show (4 : Int32) = nI 4 from rfl] at c1; exact c1)
    refine lv_aload_n hx hb dX0_freeDoors_11 rfl (lv_at hl 1 rfl) ?_
    refine k_get (K := RX0) (T := TX0) (N := 5) (v := .ref (ad g 3 0)) (w := .ref (ad g 3 0)) hx hb fX0 hown hK hW 0 0 hd.o (fun _ => rfl) rfl 3 (by decide) (hts (.fieldLink RX0 26 "Crossdockery$Dock" "atDoor" "[LCrossdockery$Lorry;") (by decide +kernel)) rfl rfl rfl dX0_freeDoors_12 ?_
    refine lv_iload_n hx hb dX0_freeDoors_15 rfl (lv_at hl 0 rfl) ?_
    refine k_aald (K := "Crossdockery$Lorry") (t0 := 3) (k := k2) (v := k_lr ad g (z2 3 0 k2)) hx hb hK hW 3 0 hd.at (fun _ => rfl) rfl (nI_clamp (by omega)) (vp_in_nI (by omega) (by decide)) rfl dX0_freeDoors_16 ?_
    refine k_opt (fun o3 => ?_) (fun o3 => ?_)
    ·
      refine lv_astore_nN (lv' := [(2, .null), (1, .int (nI k2)), (0, .ref (ad g 0 0))]) hx hb dX0_freeDoors_17 rfl hl (by decide) rfl (fun ls hl => ?_)
      refine lv_aload_nN hx hb dX0_freeDoors_18 rfl (lv_at hl 0 rfl) ?_
      refine lv_ifnullN (tgt := 38) hx hb dX0_freeDoors_19 (by decide) ?_
      refine lv_iinc (v := (nI (k2 + 1))) (k := 1) (lv' := [(1, .int (nI (k2 + 1))), (2, .null), (0, .ref (ad g 0 0))]) hx hb dX0_freeDoors_38 hl rfl (nI_1 _) (by decide) rfl (fun ls hl => ?_)
      refine lv_goto (tgt := 2) hx hb dX0_freeDoors_41 (by decide) ?_
      have e9 : (f_X0_freeDoors_2 D nl nt ng) k2 z2 = z2 := by unfold f_X0_freeDoors_2; first | done | (simp only [if_pos o3]; done) | rfl
      exact ih2 _ _ _ hlt2 ⟨z2, by rw [it_s, ← hz2, e9], hW, hL, lv_sub hl [0, 2] rfl, hE2⟩
    ·
      have hi_o3 : vp_in (z2 3 0 k2) nl := (hE2.ain (by first | omega | exact vp_in.lt (by assumption)) o3)
      refine lv_astore_n (lv' := [(2, .ref (ad g 4 ((z2 3 0 k2).toNatClampNeg))), (1, .int (nI k2)), (0, .ref (ad g 0 0))]) hx hb dX0_freeDoors_17 rfl hl (by decide) rfl (fun ls hl => ?_)
      refine lv_aload_n hx hb dX0_freeDoors_18 rfl (lv_at hl 0 rfl) ?_
      refine lv_ifnull hx hb dX0_freeDoors_19 ?_
      refine lv_aload_n hx hb dX0_freeDoors_22 rfl (lv_at hl 0 rfl) ?_
      refine k_get (K := RX3) (T := TX3) (N := 15) (v := .int (z2 4 ((z2 3 0 k2).toNatClampNeg) 5)) (w := .int (z2 4 ((z2 3 0 k2).toNatClampNeg) 5)) hx hb fX3 hown hK hW 4 ((z2 3 0 k2).toNatClampNeg) (hd.lo hi_o3.lt) (fun _ => rfl) rfl 5 (by decide) (hts (.fieldLink RX0 154 "Crossdockery$Lorry" "state" "C") (by decide +kernel)) rfl rfl rfl dX0_freeDoors_23 ?_
      refine lv_bipush (v := 108) hx hb dX0_freeDoors_26 (by decide) ?_
      refine lv_icmp_ne (tgt := 38) hx hb dX0_freeDoors_28 (by decide) (fun c4 => ?_) (fun c4 => ?_)
      ·
        refine lv_iinc (v := (nI (k2 + 1))) (k := 1) (lv' := [(1, .int (nI (k2 + 1))), (2, .ref (ad g 4 ((z2 3 0 k2).toNatClampNeg))), (0, .ref (ad g 0 0))]) hx hb dX0_freeDoors_38 hl rfl (nI_1 _) (by decide) rfl (fun ls hl => ?_)
        refine lv_goto (tgt := 2) hx hb dX0_freeDoors_41 (by decide) ?_
        have e9 : (f_X0_freeDoors_2 D nl nt ng) k2 z2 = z2 := by unfold f_X0_freeDoors_2; first | done | (simp only [if_neg o3, if_neg c4]; done) | rfl
        exact ih2 _ _ _ hlt2 ⟨z2, by rw [it_s, ← hz2, e9], hW, hL, lv_sub hl [0, 2] rfl, hE2⟩
      ·
        refine lv_aload_n hx hb dX0_freeDoors_31 rfl (lv_at hl 2 rfl) ?_
        refine k_get (K := RX0) (T := TX0) (N := 5) (v := .ref (ad g 3 0)) (w := .ref (ad g 3 0)) hx hb fX0 hown hK hW 0 0 hd.o (fun _ => rfl) rfl 3 (by decide) (hts (.fieldLink RX0 26 "Crossdockery$Dock" "atDoor" "[LCrossdockery$Lorry;") (by decide +kernel)) rfl rfl rfl dX0_freeDoors_32 ?_
        refine lv_iload_n hx hb dX0_freeDoors_35 rfl (lv_at hl 1 rfl) ?_
        refine lv_null hx hb dX0_freeDoors_36 ?_
        refine k_aastN (k := k2) hx hb hK hW hL hd.at (nI_clamp (by omega)) (vp_in_nI (by omega) (by decide)) dX0_freeDoors_37 (fun H locs hW hL => ?_)
        refine lv_iinc (v := (nI (k2 + 1))) (k := 1) (lv' := [(1, .int (nI (k2 + 1))), (2, .ref (ad g 4 ((z2 3 0 k2).toNatClampNeg))), (0, .ref (ad g 0 0))]) hx hb dX0_freeDoors_38 hl rfl (nI_1 _) (by decide) rfl (fun ls hl => ?_)
        refine lv_goto (tgt := 2) hx hb dX0_freeDoors_41 (by decide) ?_
        have e9 : (f_X0_freeDoors_2 D nl nt ng) k2 z2 = (k_d z2 3 0 k2 (-1)) := by unfold f_X0_freeDoors_2; first | done | (simp only [if_neg o3, if_pos c4]; done) | rfl
        exact ih2 _ _ _ hlt2 ⟨(k_d z2 3 0 k2 (-1)), by rw [it_s, ← hz2, e9], hW, hL, lv_sub hl [0, 2] rfl, (hE2.put3 (Or.inl rfl))⟩
def f_X0_lookAtDoors_2 (D : KD) (nl : Nat) (nt : Nat) (ng : Nat) (k2 : Nat) (z2 : KD) : KD := (if (z2 3 0 k2) = (-1) then z2 else (k_d z2 4 ((z2 3 0 k2).toNatClampNeg) 13 (s_X0_debtorAtDoor z2 nl nt ng ((z2 3 0 k2).toNatClampNeg) (s_X0_powerAt z2 nl nt ng (nI k2)))))
def l_X0_lookAtDoors_2 (D : KD) (nl : Nat) (nt : Nat) (ng : Nat) : KD := it (f_X0_lookAtDoors_2 D nl nt ng) 4 D
def s_X0_lookAtDoors (D : KD) (nl : Nat) (nt : Nat) (ng : Nat) : KD := (l_X0_lookAtDoors_2 D nl nt ng)
set_option maxHeartbeats 4000000 in
set_option maxRecDepth 100000 in
theorem c_X0_lookAtDoors (X : kX) (l : Launch) {n : Nat → Nat → Nat} {ad L : Nat → Nat → Nat → Nat} {C : Nat → Nat → Nat → Nat → Int32} {fr : Nat → Option Cell} {g : Nat} {nl nt ng : Nat} (hd : kDk n g nl nt ng) (D : KD) (hwf : cWF D nl nt) : k_M X l yX0_lookAtDoors wsX0_lookAtDoors ({ frames := 6, cells := 0, slots := 0, locals := 122 }) [.ref (ad g 0 0)] (k_W X n ad L (k_g C g D) fr) (fun v H => v = none ∧ k_W X n ad L (k_g C g (s_X0_lookAtDoors D nl nt ng)) fr H ∧ cWF (s_X0_lookAtDoors D nl nt ng) nl nt) 0 0 := by
  refine k_M.of (cc := cX0_lookAtDoors) (maxL := 3) (ret := none) (by decide) rfl (Nat.le_of_ble_eq_true rfl) ?_
  intro p e s m args below meth c ls hx hb hr hml hown hts hlocks hnm hK hW hl
  have hL : ∀ q ∈ ([] : List Loc), k_B X ≤ q.base := fun _ h => nomatch h
  have hl : lv_has ls 3 [(0, .ref (ad g 0 0))] := hl
  have fX0 : ∀ w ∈ u_ws RX0 TX0 5, w.before args s = true := fun w h => hts w ((by decide +kernel : ∀ w ∈ u_ws RX0 TX0 5, w ∈ wsX0_lookAtDoors) w h)
  have fX3 : ∀ w ∈ u_ws RX3 TX3 15, w.before args s = true := fun w h => hts w ((by decide +kernel : ∀ w ∈ u_ws RX3 TX3 15, w ∈ wsX0_lookAtDoors) w h)
  have hl8 := hd.l8
  have ht16 := hd.t16
  have hg4 := hd.g4
  refine lv_iconst (v := 0) hx hb dX0_lookAtDoors_0 (by decide) ?_
  refine lv_istore_n (lv' := [(1, .int 0), (0, .ref (ad g 0 0))]) hx hb dX0_lookAtDoors_1 rfl hl (by decide) rfl (fun ls hl => ?_)
  refine k_for (4) (fun k2 H locs ls => ∃ z2 : KD, z2 = it (f_X0_lookAtDoors_2 D nl nt ng) k2 D ∧ k_W X n ad L (k_g C g z2) fr H ∧ (∀ q ∈ locs, k_B X ≤ q.base) ∧ lv_has ls 3 [(1, .int (nI k2)), (0, .ref (ad g 0 0))] ∧ cWF z2 nl nt) 0 ⟨D, rfl, hW, hL, lv_sub hl [0, 1] rfl, hwf⟩ (Nat.zero_le _) (fun k2 hk2 ih2 H locs ls hI => ?_)
  obtain ⟨z2, hz2, hW, hL, hl, hE2⟩ := hI
  refine lv_iload_n hx hb dX0_lookAtDoors_2 rfl (lv_at hl 0 rfl) ?_
  refine lv_aload_n hx hb dX0_lookAtDoors_3 rfl (lv_at hl 1 rfl) ?_
  refine k_get (K := RX0) (T := TX0) (N := 5) (v := .ref (ad g 3 0)) (w := .ref (ad g 3 0)) hx hb fX0 hown hK hW 0 0 hd.o (fun _ => rfl) rfl 3 (by decide) (hts (.fieldLink RX0 26 "Crossdockery$Dock" "atDoor" "[LCrossdockery$Lorry;") (by decide +kernel)) rfl rfl rfl dX0_lookAtDoors_4 ?_
  refine k_alen (t0 := 3) (v := 4) hx hb hK hW 3 0 hd.at (fun _ => rfl) rfl rfl dX0_lookAtDoors_7 ?_
  refine lv_icmp_ge (tgt := 42) hx hb dX0_lookAtDoors_8 (by decide) (fun c1 => ?_) (fun c1 => ?_)
  ·
    rw [show (4 : Int32) = nI 4 from rfl] at c1
    have hge2 := k_nI_ge (by omega) (by omega) c1
    obtain rfl : 4 = k2 := by omega
    replace hz2 : z2 = (l_X0_lookAtDoors_2 D nl nt ng) := hz2
    subst hz2
    have hl : lv_has ls 3 [(1, .int (nI 4)), (0, .ref (ad g 0 0))] := hl
    have e9 : (s_X0_lookAtDoors D nl nt ng) = (l_X0_lookAtDoors_2 D nl nt ng) := by unfold s_X0_lookAtDoors; first | done | rfl
    exact k_vret hx hb hr hlocks (⟨rfl, by rw [e9]; exact hW, by rw [e9]; exact hE2⟩) hL dX0_lookAtDoors_42
  ·
    have hlt2 : k2 < 4 := k_nI_nge (by omega) (by omega) (by rw [show (4 : Int32) = nI 4 from rfl] at c1; exact c1)
    refine lv_aload_n hx hb dX0_lookAtDoors_11 rfl (lv_at hl 1 rfl) ?_
    refine k_get (K := RX0) (T := TX0) (N := 5) (v := .ref (ad g 3 0)) (w := .ref (ad g 3 0)) hx hb fX0 hown hK hW 0 0 hd.o (fun _ => rfl) rfl 3 (by decide) (hts (.fieldLink RX0 26 "Crossdockery$Dock" "atDoor" "[LCrossdockery$Lorry;") (by decide +kernel)) rfl rfl rfl dX0_lookAtDoors_12 ?_
    refine lv_iload_n hx hb dX0_lookAtDoors_15 rfl (lv_at hl 0 rfl) ?_
    refine k_aald (K := "Crossdockery$Lorry") (t0 := 3) (k := k2) (v := k_lr ad g (z2 3 0 k2)) hx hb hK hW 3 0 hd.at (fun _ => rfl) rfl (nI_clamp (by omega)) (vp_in_nI (by omega) (by decide)) rfl dX0_lookAtDoors_16 ?_
    refine k_opt (fun o3 => ?_) (fun o3 => ?_)
    ·
      refine lv_astore_nN (lv' := [(2, .null), (1, .int (nI k2)), (0, .ref (ad g 0 0))]) hx hb dX0_lookAtDoors_17 rfl hl (by decide) rfl (fun ls hl => ?_)
      refine lv_aload_nN hx hb dX0_lookAtDoors_18 rfl (lv_at hl 0 rfl) ?_
      refine lv_ifnullN (tgt := 36) hx hb dX0_lookAtDoors_19 (by decide) ?_
      refine lv_iinc (v := (nI (k2 + 1))) (k := 1) (lv' := [(1, .int (nI (k2 + 1))), (2, .null), (0, .ref (ad g 0 0))]) hx hb dX0_lookAtDoors_36 hl rfl (nI_1 _) (by decide) rfl (fun ls hl => ?_)
      refine lv_goto (tgt := 2) hx hb dX0_lookAtDoors_39 (by decide) ?_
      have e9 : (f_X0_lookAtDoors_2 D nl nt ng) k2 z2 = z2 := by unfold f_X0_lookAtDoors_2; first | done | (simp only [if_pos o3]; done) | rfl
      exact ih2 _ _ _ hlt2 ⟨z2, by rw [it_s, ← hz2, e9], hW, hL, lv_sub hl [0, 2] rfl, hE2⟩
    ·
      have hi_o3 : vp_in (z2 3 0 k2) nl := (hE2.ain (by first | omega | exact vp_in.lt (by assumption)) o3)
      refine lv_astore_n (lv' := [(2, .ref (ad g 4 ((z2 3 0 k2).toNatClampNeg))), (1, .int (nI k2)), (0, .ref (ad g 0 0))]) hx hb dX0_lookAtDoors_17 rfl hl (by decide) rfl (fun ls hl => ?_)
      refine lv_aload_n hx hb dX0_lookAtDoors_18 rfl (lv_at hl 0 rfl) ?_
      refine lv_ifnull hx hb dX0_lookAtDoors_19 ?_
      refine lv_aload_n hx hb dX0_lookAtDoors_22 rfl (lv_at hl 0 rfl) ?_
      refine lv_aload_n hx hb dX0_lookAtDoors_23 rfl (lv_at hl 2 rfl) ?_
      refine lv_aload_n hx hb dX0_lookAtDoors_24 rfl (lv_at hl 0 rfl) ?_
      refine lv_aload_n hx hb dX0_lookAtDoors_25 rfl (lv_at hl 2 rfl) ?_
      refine lv_iload_n hx hb dX0_lookAtDoors_26 rfl (lv_at hl 1 rfl) ?_
      refine k_callV (As := [.int (nI k2)]) (rest := [.ref (ad g 4 ((z2 3 0 k2).toNatClampNeg)), .ref (ad g 0 0), .ref (ad g 4 ((z2 3 0 k2).toNatClampNeg))]) ⟨hx, hb, hml, hown, hts⟩ hK (c_X0_powerAt X l hd z2 (nI k2)) (cwV 1 hts gX0_lookAtDoors_X0_powerAt rfl rfl rfl (by decide +kernel) ⟨Nat.le_of_ble_eq_true rfl, Nat.le_of_ble_eq_true rfl⟩) (k_recv hK hW 0 0 hd.o (fun _ => rfl) rfl) hW rfl hl.1 rfl (Nat.le_of_ble_eq_true rfl) dX0_lookAtDoors_27 ⟨Nat.le_of_ble_eq_true rfl, Nat.le_of_ble_eq_true rfl⟩ hL (fun v9 H locs hp hL => ?_)
      obtain ⟨rfl, hW⟩ := hp
      refine k_callV (As := [.ref (ad g 4 ((z2 3 0 k2).toNatClampNeg)), .int (s_X0_powerAt z2 nl nt ng (nI k2))]) (rest := [.ref (ad g 4 ((z2 3 0 k2).toNatClampNeg))]) ⟨hx, hb, hml, hown, hts⟩ hK (c_X0_debtorAtDoor X l hd z2 hE2 ((z2 3 0 k2).toNatClampNeg) hi_o3.lt (s_X0_powerAt z2 nl nt ng (nI k2))) (cwV 2 hts gX0_lookAtDoors_X0_debtorAtDoor rfl rfl rfl (by decide +kernel) ⟨Nat.le_of_ble_eq_true rfl, Nat.le_of_ble_eq_true rfl⟩) (k_recv hK hW 0 0 hd.o (fun _ => rfl) rfl) hW rfl hl.1 rfl (Nat.le_of_ble_eq_true rfl) dX0_lookAtDoors_30 ⟨Nat.le_of_ble_eq_true rfl, Nat.le_of_ble_eq_true rfl⟩ hL (fun v9 H locs hp hL => ?_)
      obtain ⟨rfl, hW⟩ := hp
      refine k_put (K := RX3) (T := TX3) (N := 15) (x := (s_X0_debtorAtDoor z2 nl nt ng ((z2 3 0 k2).toNatClampNeg) (s_X0_powerAt z2 nl nt ng (nI k2)))) hx hb fX3 tyX3 tyX3_ok nmX3 hown hK hW hL 4 ((z2 3 0 k2).toNatClampNeg) (hd.lo hi_o3.lt) (fun _ => rfl) rfl 13 (by decide) (hts (.fieldLink RX0 187 "Crossdockery$Lorry" "debtorAtDoor" "I") (by decide +kernel)) rfl rfl rfl rfl (fun _ => Nat.le_of_ble_eq_true rfl) (fun _ _ => rfl) dX0_lookAtDoors_33 (fun H locs hW hL => ?_)
      refine lv_iinc (v := (nI (k2 + 1))) (k := 1) (lv' := [(1, .int (nI (k2 + 1))), (2, .ref (ad g 4 ((z2 3 0 k2).toNatClampNeg))), (0, .ref (ad g 0 0))]) hx hb dX0_lookAtDoors_36 hl rfl (nI_1 _) (by decide) rfl (fun ls hl => ?_)
      refine lv_goto (tgt := 2) hx hb dX0_lookAtDoors_39 (by decide) ?_
      have e9 : (f_X0_lookAtDoors_2 D nl nt ng) k2 z2 = (k_d z2 4 ((z2 3 0 k2).toNatClampNeg) 13 (s_X0_debtorAtDoor z2 nl nt ng ((z2 3 0 k2).toNatClampNeg) (s_X0_powerAt z2 nl nt ng (nI k2)))) := by unfold f_X0_lookAtDoors_2; first | done | (simp only [if_neg o3]; done) | rfl
      exact ih2 _ _ _ hlt2 ⟨(k_d z2 4 ((z2 3 0 k2).toNatClampNeg) 13 (s_X0_debtorAtDoor z2 nl nt ng ((z2 3 0 k2).toNatClampNeg) (s_X0_powerAt z2 nl nt ng (nI k2)))), by rw [it_s, ← hz2, e9], hW, hL, lv_sub hl [0, 2] rfl, (hE2.put ⟨by decide, Or.inl (by decide)⟩)⟩
def j_X0_letWait_45 (D : KD) (nl : Nat) (nt : Nat) (ng : Nat) (k2 : Nat) (z2 : KD) : Int32 := (if (s_X3_isPresent z2 k2) = 0 then 0 else (if (z2 4 k2 10) = 0 then 1 else 0))
def f_X0_letWait_2 (D : KD) (nl : Nat) (nt : Nat) (ng : Nat) (k2 : Nat) (z2 : KD) : KD := (if (j_X0_letWait_45 D nl nt ng k2 z2) = 0 then (k_d z2 4 k2 11 (j_X0_letWait_45 D nl nt ng k2 z2)) else (s_X3_waitOwedBy (k_d z2 4 k2 11 (j_X0_letWait_45 D nl nt ng k2 z2)) k2 (s_X0_debtorOf (k_d z2 4 k2 11 (j_X0_letWait_45 D nl nt ng k2 z2)) k2)))
def l_X0_letWait_2 (D : KD) (nl : Nat) (nt : Nat) (ng : Nat) : KD := it (f_X0_letWait_2 D nl nt ng) nl D
def s_X0_letWait (D : KD) (nl : Nat) (nt : Nat) (ng : Nat) : KD := (l_X0_letWait_2 D nl nt ng)
set_option maxHeartbeats 4000000 in
set_option maxRecDepth 100000 in
theorem c_X0_letWait (X : kX) (l : Launch) {n : Nat → Nat → Nat} {ad L : Nat → Nat → Nat → Nat} {C : Nat → Nat → Nat → Nat → Int32} {fr : Nat → Option Cell} {g : Nat} {nl nt ng : Nat} (hd : kDk n g nl nt ng) (D : KD) (hwf : cWF D nl nt) : k_M X l yX0_letWait wsX0_letWait ({ frames := 4, cells := 0, slots := 0, locals := 76 }) [.ref (ad g 0 0)] (k_W X n ad L (k_g C g D) fr) (fun v H => v = none ∧ k_W X n ad L (k_g C g (s_X0_letWait D nl nt ng)) fr H ∧ cWF (s_X0_letWait D nl nt ng) nl nt) 0 0 := by
  refine k_M.of (cc := cX0_letWait) (maxL := 3) (ret := none) (by decide) rfl (Nat.le_of_ble_eq_true rfl) ?_
  intro p e s m args below meth c ls hx hb hr hml hown hts hlocks hnm hK hW hl
  have hL : ∀ q ∈ ([] : List Loc), k_B X ≤ q.base := fun _ h => nomatch h
  have hl : lv_has ls 3 [(0, .ref (ad g 0 0))] := hl
  have fX0 : ∀ w ∈ u_ws RX0 TX0 5, w.before args s = true := fun w h => hts w ((by decide +kernel : ∀ w ∈ u_ws RX0 TX0 5, w ∈ wsX0_letWait) w h)
  have fX3 : ∀ w ∈ u_ws RX3 TX3 15, w.before args s = true := fun w h => hts w ((by decide +kernel : ∀ w ∈ u_ws RX3 TX3 15, w ∈ wsX0_letWait) w h)
  have hl8 := hd.l8
  have ht16 := hd.t16
  have hg4 := hd.g4
  refine lv_iconst (v := 0) hx hb dX0_letWait_0 (by decide) ?_
  refine lv_istore_n (lv' := [(1, .int 0), (0, .ref (ad g 0 0))]) hx hb dX0_letWait_1 rfl hl (by decide) rfl (fun ls hl => ?_)
  refine k_for (nl) (fun k2 H locs ls => ∃ z2 : KD, z2 = it (f_X0_letWait_2 D nl nt ng) k2 D ∧ k_W X n ad L (k_g C g z2) fr H ∧ (∀ q ∈ locs, k_B X ≤ q.base) ∧ lv_has ls 3 [(1, .int (nI k2)), (0, .ref (ad g 0 0))] ∧ cWF z2 nl nt) 0 ⟨D, rfl, hW, hL, lv_sub hl [0, 1] rfl, hwf⟩ (Nat.zero_le _) (fun k2 hk2 ih2 H locs ls hI => ?_)
  obtain ⟨z2, hz2, hW, hL, hl, hE2⟩ := hI
  refine lv_iload_n hx hb dX0_letWait_2 rfl (lv_at hl 0 rfl) ?_
  refine lv_aload_n hx hb dX0_letWait_3 rfl (lv_at hl 1 rfl) ?_
  refine k_get (K := RX0) (T := TX0) (N := 5) (v := .ref (ad g 1 0)) (w := .ref (ad g 1 0)) hx hb fX0 hown hK hW 0 0 hd.o (fun _ => rfl) rfl 0 (by decide) (hts (.fieldLink RX0 12 "Crossdockery$Dock" "lorries" "Ljava/util/ArrayList;") (by decide +kernel)) rfl rfl rfl dX0_letWait_4 ?_
  refine k_callV (As := []) (rest := [.int (nI k2)]) ⟨hx, hb, hml, hown, hts⟩ hK (c_size0 X l hd) (cwV 0 hts gX0_letWait_Jx4a65c_size_8abf5 rfl rfl rfl (by decide +kernel) ⟨Nat.le_of_ble_eq_true rfl, Nat.le_of_ble_eq_true rfl⟩) (k_recv hK hW 1 0 (hd.li (by decide)) (fun _ => rfl) rfl) hW rfl hl.1 rfl (Nat.le_of_ble_eq_true rfl) dX0_letWait_7 ⟨Nat.le_of_ble_eq_true rfl, Nat.le_of_ble_eq_true rfl⟩ hL (fun v9 H locs hp hL => ?_)
  obtain ⟨rfl, hW⟩ := hp
  refine lv_icmp_ge (tgt := 70) hx hb dX0_letWait_10 (by decide) (fun c1 => ?_) (fun c1 => ?_)
  ·
    have hge2 := k_nI_ge (by omega) (by omega) c1
    obtain rfl : nl = k2 := by omega
    replace hz2 : z2 = (l_X0_letWait_2 D nl nt ng) := hz2
    subst hz2
    have hl : lv_has ls 3 [(1, .int (nI nl)), (0, .ref (ad g 0 0))] := hl
    have e9 : (s_X0_letWait D nl nt ng) = (l_X0_letWait_2 D nl nt ng) := by unfold s_X0_letWait; first | done | rfl
    exact k_vret hx hb hr hlocks (⟨rfl, by rw [e9]; exact hW, by rw [e9]; exact hE2⟩) hL dX0_letWait_70
  ·
    have hlt2 : k2 < nl := k_nI_nge (by omega) (by omega) c1
    refine lv_aload_n hx hb dX0_letWait_13 rfl (lv_at hl 1 rfl) ?_
    refine k_get (K := RX0) (T := TX0) (N := 5) (v := .ref (ad g 1 0)) (w := .ref (ad g 1 0)) hx hb fX0 hown hK hW 0 0 hd.o (fun _ => rfl) rfl 0 (by decide) (hts (.fieldLink RX0 12 "Crossdockery$Dock" "lorries" "Ljava/util/ArrayList;") (by decide +kernel)) rfl rfl rfl dX0_letWait_14 ?_
    refine lv_iload_n hx hb dX0_letWait_17 rfl (lv_at hl 0 rfl) ?_
    refine k_callV (As := [.int (nI k2)]) (rest := []) ⟨hx, hb, hml, hown, hts⟩ hK (c_get0 X l hd hW.cap (j := k2) (by omega)) (cwV 1 hts gX0_letWait_Jx4a65c_get_915e3 rfl rfl rfl (by decide +kernel) ⟨Nat.le_of_ble_eq_true rfl, Nat.le_of_ble_eq_true rfl⟩) (k_recv hK hW 1 0 (hd.li (by decide)) (fun _ => rfl) rfl) hW rfl hl.1 rfl (Nat.le_of_ble_eq_true rfl) dX0_letWait_18 ⟨Nat.le_of_ble_eq_true rfl, Nat.le_of_ble_eq_true rfl⟩ hL (fun v9 H locs hp hL => ?_)
    obtain ⟨rfl, hW⟩ := hp
    refine k_cast' (K := RX3) (nm := RX3) hx hb hown (hts (.classLink RX0 24 RX3) (by decide +kernel)) hK (List.mem_of_getElem? (i := 4) rfl) (k_recv hK hW 4 k2 (hd.lo (show k2 < nl by omega)) (fun _ => rfl) rfl) dX0_letWait_21 ?_
    refine lv_astore_n (lv' := [(2, .ref (ad g 4 k2)), (1, .int (nI k2)), (0, .ref (ad g 0 0))]) hx hb dX0_letWait_24 rfl hl (by decide) rfl (fun ls hl => ?_)
    refine lv_aload_n hx hb dX0_letWait_25 rfl (lv_at hl 0 rfl) ?_
    refine lv_aload_n hx hb dX0_letWait_26 rfl (lv_at hl 0 rfl) ?_
    refine k_callV (As := []) (rest := [.ref (ad g 4 k2)]) ⟨hx, hb, hml, hown, hts⟩ hK (c_X3_isPresent X l hd z2 k2 (show k2 < nl by omega)) (cwV 0 hts gX0_letWait_X3_isPresent rfl rfl rfl (by decide +kernel) ⟨Nat.le_of_ble_eq_true rfl, Nat.le_of_ble_eq_true rfl⟩) (k_recv hK hW 4 k2 (hd.lo (show k2 < nl by omega)) (fun _ => rfl) rfl) hW rfl hl.1 rfl (Nat.le_of_ble_eq_true rfl) dX0_letWait_27 ⟨Nat.le_of_ble_eq_true rfl, Nat.le_of_ble_eq_true rfl⟩ hL (fun v9 H locs hp hL => ?_)
    obtain ⟨rfl, hW⟩ := hp
    refine k_join (pc' := 45) (fun H locs ls st => k_W X n ad L (k_g C g z2) fr H ∧ (∀ q ∈ locs, k_B X ≤ q.base) ∧ lv_has ls 3 [(2, .ref (ad g 4 k2)), (1, .int (nI k2)), (0, .ref (ad g 0 0))] ∧ st = [.int (j_X0_letWait_45 D nl nt ng k2 z2), .ref (ad g 4 k2)]) (fun H locs ls st hJ => ?_) (fun join45 => ?_)
    ·
      obtain ⟨hW, hL, hl, rfl⟩ := hJ
      refine k_put (K := RX3) (T := TX3) (N := 15) (x := (j_X0_letWait_45 D nl nt ng k2 z2)) hx hb fX3 tyX3 tyX3_ok nmX3 hown hK hW hL 4 k2 (hd.lo (show k2 < nl by omega)) (fun _ => rfl) rfl 11 (by decide) (hts (.fieldLink RX0 216 "Crossdockery$Lorry" "hasJustWaited" "Z") (by decide +kernel)) rfl rfl (k_01 (by unfold j_X0_letWait_45; (repeat' split); all_goals first | exact Or.inl rfl | exact Or.inr rfl)) (k_01f (by unfold j_X0_letWait_45; (repeat' split); all_goals first | exact Or.inl rfl | exact Or.inr rfl)) (fun _ => Nat.le_of_ble_eq_true rfl) (fun _ _ => rfl) dX0_letWait_45 (fun H locs hW hL => ?_)
      refine lv_aload_n hx hb dX0_letWait_48 rfl (lv_at hl 0 rfl) ?_
      refine k_get (K := RX3) (T := TX3) (N := 15) (v := .int ((k_d z2 4 k2 11 (j_X0_letWait_45 D nl nt ng k2 z2)) 4 k2 11)) (w := .int (j_X0_letWait_45 D nl nt ng k2 z2)) hx hb fX3 hown hK hW 4 k2 (hd.lo (show k2 < nl by omega)) (fun _ => rfl) rfl 11 (by decide) (hts (.fieldLink RX0 216 "Crossdockery$Lorry" "hasJustWaited" "Z") (by decide +kernel)) rfl rfl (congrArg Value.int (k_ds)) dX0_letWait_49 ?_
      refine lv_if_eq (tgt := 64) hx hb dX0_letWait_52 (by decide) (fun c4 => ?_) (fun c4 => ?_)
      ·
        refine lv_iinc (v := (nI (k2 + 1))) (k := 1) (lv' := [(1, .int (nI (k2 + 1))), (2, .ref (ad g 4 k2)), (0, .ref (ad g 0 0))]) hx hb dX0_letWait_64 hl rfl (nI_1 _) (by decide) rfl (fun ls hl => ?_)
        refine lv_goto (tgt := 2) hx hb dX0_letWait_67 (by decide) ?_
        have e9 : (f_X0_letWait_2 D nl nt ng) k2 z2 = (k_d z2 4 k2 11 (j_X0_letWait_45 D nl nt ng k2 z2)) := by unfold f_X0_letWait_2; first | done | (simp only [if_pos c4]; done) | rfl
        exact ih2 _ _ _ hlt2 ⟨(k_d z2 4 k2 11 (j_X0_letWait_45 D nl nt ng k2 z2)), by rw [it_s, ← hz2, e9], hW, hL, lv_sub hl [0, 2] rfl, (hE2.put ⟨by decide, Or.inl (by decide)⟩)⟩
      ·
        refine lv_aload_n hx hb dX0_letWait_55 rfl (lv_at hl 0 rfl) ?_
        refine lv_aload_n hx hb dX0_letWait_56 rfl (lv_at hl 2 rfl) ?_
        refine lv_aload_n hx hb dX0_letWait_57 rfl (lv_at hl 0 rfl) ?_
        refine k_callV (As := [.ref (ad g 4 k2)]) (rest := [.ref (ad g 4 k2)]) ⟨hx, hb, hml, hown, hts⟩ hK (c_X0_debtorOf X l hd (k_d z2 4 k2 11 (j_X0_letWait_45 D nl nt ng k2 z2)) (hE2.put ⟨by decide, Or.inl (by decide)⟩) k2 (show k2 < nl by omega)) (cwV 1 hts gX0_letWait_X0_debtorOf rfl rfl rfl (by decide +kernel) ⟨Nat.le_of_ble_eq_true rfl, Nat.le_of_ble_eq_true rfl⟩) (k_recv hK hW 0 0 hd.o (fun _ => rfl) rfl) hW rfl hl.1 rfl (Nat.le_of_ble_eq_true rfl) dX0_letWait_58 ⟨Nat.le_of_ble_eq_true rfl, Nat.le_of_ble_eq_true rfl⟩ hL (fun v9 H locs hp hL => ?_)
        obtain ⟨rfl, hW⟩ := hp
        refine k_callV (As := [.int (s_X0_debtorOf (k_d z2 4 k2 11 (j_X0_letWait_45 D nl nt ng k2 z2)) k2)]) (rest := []) ⟨hx, hb, hml, hown, hts⟩ hK (c_X3_waitOwedBy X l hd (k_d z2 4 k2 11 (j_X0_letWait_45 D nl nt ng k2 z2)) k2 (show k2 < nl by omega) (s_X0_debtorOf (k_d z2 4 k2 11 (j_X0_letWait_45 D nl nt ng k2 z2)) k2)) (cwV 1 hts gX0_letWait_X3_waitOwedBy rfl rfl rfl (by decide +kernel) ⟨Nat.le_of_ble_eq_true rfl, Nat.le_of_ble_eq_true rfl⟩) (k_recv hK hW 4 k2 (hd.lo (show k2 < nl by omega)) (fun _ => rfl) rfl) hW rfl hl.1 rfl (Nat.le_of_ble_eq_true rfl) dX0_letWait_61 ⟨Nat.le_of_ble_eq_true rfl, Nat.le_of_ble_eq_true rfl⟩ hL (fun v9 H locs hp hL => ?_)
        obtain ⟨rfl, hW⟩ := hp
        refine lv_iinc (v := (nI (k2 + 1))) (k := 1) (lv' := [(1, .int (nI (k2 + 1))), (2, .ref (ad g 4 k2)), (0, .ref (ad g 0 0))]) hx hb dX0_letWait_64 hl rfl (nI_1 _) (by decide) rfl (fun ls hl => ?_)
        refine lv_goto (tgt := 2) hx hb dX0_letWait_67 (by decide) ?_
        have e9 : (f_X0_letWait_2 D nl nt ng) k2 z2 = (s_X3_waitOwedBy (k_d z2 4 k2 11 (j_X0_letWait_45 D nl nt ng k2 z2)) k2 (s_X0_debtorOf (k_d z2 4 k2 11 (j_X0_letWait_45 D nl nt ng k2 z2)) k2)) := by unfold f_X0_letWait_2; first | done | (simp only [if_neg c4]; done) | rfl
        exact ih2 _ _ _ hlt2 ⟨(s_X3_waitOwedBy (k_d z2 4 k2 11 (j_X0_letWait_45 D nl nt ng k2 z2)) k2 (s_X0_debtorOf (k_d z2 4 k2 11 (j_X0_letWait_45 D nl nt ng k2 z2)) k2)), by rw [it_s, ← hz2, e9], hW, hL, lv_sub hl [0, 2] rfl, (cWF_X3_waitOwedBy (ng := ng) (hE2.put ⟨by decide, Or.inl (by decide)⟩) _ _)⟩
    ·
      refine lv_if_eq (tgt := 44) hx hb dX0_letWait_30 (by decide) (fun c2 => ?_) (fun c2 => ?_)
      ·
        refine lv_iconst (v := 0) hx hb dX0_letWait_44 (by decide) ?_
        have e9 : (j_X0_letWait_45 D nl nt ng k2 z2) = 0 := by unfold j_X0_letWait_45; first | done | (simp only [if_pos c2]; done) | rfl
        exact join45 _ _ _ _ (by rw [e9]; exact ⟨hW, hL, lv_sub hl [0, 1, 2] rfl, rfl⟩)
      ·
        refine lv_aload_n hx hb dX0_letWait_33 rfl (lv_at hl 0 rfl) ?_
        refine k_get (K := RX3) (T := TX3) (N := 15) (v := .int (z2 4 k2 10)) (w := .int (z2 4 k2 10)) hx hb fX3 hown hK hW 4 k2 (hd.lo (show k2 < nl by omega)) (fun _ => rfl) rfl 10 (by decide) (hts (.fieldLink RX0 179 "Crossdockery$Lorry" "isHandled" "Z") (by decide +kernel)) rfl rfl rfl dX0_letWait_34 ?_
        refine lv_if_ne (tgt := 44) hx hb dX0_letWait_37 (by decide) (fun c3 => ?_) (fun c3 => ?_)
        ·
          refine lv_iconst (v := 0) hx hb dX0_letWait_44 (by decide) ?_
          have e9 : (j_X0_letWait_45 D nl nt ng k2 z2) = 0 := by unfold j_X0_letWait_45; first | done | (simp only [if_neg c2, if_neg c3]; done) | rfl
          exact join45 _ _ _ _ (by rw [e9]; exact ⟨hW, hL, lv_sub hl [0, 1, 2] rfl, rfl⟩)
        ·
          refine lv_iconst (v := 1) hx hb dX0_letWait_40 (by decide) ?_
          refine lv_goto (tgt := 45) hx hb dX0_letWait_41 (by decide) ?_
          have e9 : (j_X0_letWait_45 D nl nt ng k2 z2) = 1 := by unfold j_X0_letWait_45; first | done | (simp only [if_neg c2, if_pos c3]; done) | rfl
          exact join45 _ _ _ _ (by rw [e9]; exact ⟨hW, hL, lv_sub hl [0, 1, 2] rfl, rfl⟩)
def f_X0_endMinute_2 (D : KD) (nl : Nat) (nt : Nat) (ng : Nat) (k2 : Nat) (z2 : KD) : KD := (s_X5_endMinute z2 k2)
def l_X0_endMinute_2 (D : KD) (nl : Nat) (nt : Nat) (ng : Nat) : KD := it (f_X0_endMinute_2 D nl nt ng) nt D
def s_X0_endMinute (D : KD) (nl : Nat) (nt : Nat) (ng : Nat) : KD := k_d (l_X0_endMinute_2 D nl nt ng) 0 0 4 (((l_X0_endMinute_2 D nl nt ng) 0 0 4) + 1)
set_option maxHeartbeats 4000000 in
set_option maxRecDepth 100000 in
theorem c_X0_endMinute (X : kX) (l : Launch) {n : Nat → Nat → Nat} {ad L : Nat → Nat → Nat → Nat} {C : Nat → Nat → Nat → Nat → Int32} {fr : Nat → Option Cell} {g : Nat} {nl nt ng : Nat} (hd : kDk n g nl nt ng) (D : KD) (hwf : cWF D nl nt) : k_M X l yX0_endMinute wsX0_endMinute ({ frames := 4, cells := 0, slots := 0, locals := 76 }) [.ref (ad g 0 0)] (k_W X n ad L (k_g C g D) fr) (fun v H => v = none ∧ k_W X n ad L (k_g C g (s_X0_endMinute D nl nt ng)) fr H ∧ cWF (s_X0_endMinute D nl nt ng) nl nt) 0 0 := by
  refine k_M.of (cc := cX0_endMinute) (maxL := 2) (ret := none) (by decide) rfl (Nat.le_of_ble_eq_true rfl) ?_
  intro p e s m args below meth c ls hx hb hr hml hown hts hlocks hnm hK hW hl
  have hL : ∀ q ∈ ([] : List Loc), k_B X ≤ q.base := fun _ h => nomatch h
  have hl : lv_has ls 2 [(0, .ref (ad g 0 0))] := hl
  have fX0 : ∀ w ∈ u_ws RX0 TX0 5, w.before args s = true := fun w h => hts w ((by decide +kernel : ∀ w ∈ u_ws RX0 TX0 5, w ∈ wsX0_endMinute) w h)
  have hl8 := hd.l8
  have ht16 := hd.t16
  have hg4 := hd.g4
  refine lv_iconst (v := 0) hx hb dX0_endMinute_0 (by decide) ?_
  refine lv_istore_n (lv' := [(1, .int 0), (0, .ref (ad g 0 0))]) hx hb dX0_endMinute_1 rfl hl (by decide) rfl (fun ls hl => ?_)
  refine k_for (nt) (fun k2 H locs ls => ∃ z2 : KD, z2 = it (f_X0_endMinute_2 D nl nt ng) k2 D ∧ k_W X n ad L (k_g C g z2) fr H ∧ (∀ q ∈ locs, k_B X ≤ q.base) ∧ lv_has ls 2 [(1, .int (nI k2)), (0, .ref (ad g 0 0))] ∧ cWF z2 nl nt) 0 ⟨D, rfl, hW, hL, lv_sub hl [0, 1] rfl, hwf⟩ (Nat.zero_le _) (fun k2 hk2 ih2 H locs ls hI => ?_)
  obtain ⟨z2, hz2, hW, hL, hl, hE2⟩ := hI
  refine lv_iload_n hx hb dX0_endMinute_2 rfl (lv_at hl 0 rfl) ?_
  refine lv_aload_n hx hb dX0_endMinute_3 rfl (lv_at hl 1 rfl) ?_
  refine k_get (K := RX0) (T := TX0) (N := 5) (v := .ref (ad g 1 1)) (w := .ref (ad g 1 1)) hx hb fX0 hown hK hW 0 0 hd.o (fun _ => rfl) rfl 1 (by decide) (hts (.fieldLink RX0 18 "Crossdockery$Dock" "transfers" "Ljava/util/ArrayList;") (by decide +kernel)) rfl rfl rfl dX0_endMinute_4 ?_
  refine k_callV (As := []) (rest := [.int (nI k2)]) ⟨hx, hb, hml, hown, hts⟩ hK (c_size1 X l hd) (cwV 0 hts gX0_endMinute_Jx4a65c_size_8abf5 rfl rfl rfl (by decide +kernel) ⟨Nat.le_of_ble_eq_true rfl, Nat.le_of_ble_eq_true rfl⟩) (k_recv hK hW 1 1 (hd.li (by decide)) (fun _ => rfl) rfl) hW rfl hl.1 rfl (Nat.le_of_ble_eq_true rfl) dX0_endMinute_7 ⟨Nat.le_of_ble_eq_true rfl, Nat.le_of_ble_eq_true rfl⟩ hL (fun v9 H locs hp hL => ?_)
  obtain ⟨rfl, hW⟩ := hp
  refine lv_icmp_ge (tgt := 33) hx hb dX0_endMinute_10 (by decide) (fun c1 => ?_) (fun c1 => ?_)
  ·
    have hge2 := k_nI_ge (by omega) (by omega) c1
    obtain rfl : nt = k2 := by omega
    replace hz2 : z2 = (l_X0_endMinute_2 D nl nt ng) := hz2
    subst hz2
    have hl : lv_has ls 2 [(1, .int (nI nt)), (0, .ref (ad g 0 0))] := hl
    refine lv_aload_n hx hb dX0_endMinute_33 rfl (lv_at hl 1 rfl) ?_
    refine lv_dup hx hb dX0_endMinute_34 rfl ?_
    refine k_get (K := RX0) (T := TX0) (N := 5) (v := .int ((l_X0_endMinute_2 D nl nt ng) 0 0 4)) (w := .int ((l_X0_endMinute_2 D nl nt ng) 0 0 4)) hx hb fX0 hown hK hW 0 0 hd.o (fun _ => rfl) rfl 4 (by decide) (hts (.fieldLink RX0 80 "Crossdockery$Dock" "minute" "I") (by decide +kernel)) rfl rfl rfl dX0_endMinute_35 ?_
    refine lv_iconst (v := 1) hx hb dX0_endMinute_38 (by decide) ?_
    refine lv_iadd hx hb dX0_endMinute_39 ?_
    refine k_put (K := RX0) (T := TX0) (N := 5) (x := (((l_X0_endMinute_2 D nl nt ng) 0 0 4) + 1)) hx hb fX0 tyX0 tyX0_ok nmX0 hown hK hW hL 0 0 hd.o (fun _ => rfl) rfl 4 (by decide) (hts (.fieldLink RX0 80 "Crossdockery$Dock" "minute" "I") (by decide +kernel)) rfl rfl rfl rfl (fun _ => Nat.le_of_ble_eq_true rfl) (fun _ _ => rfl) dX0_endMinute_40 (fun H locs hW hL => ?_)
    have e9 : (s_X0_endMinute D nl nt ng) = k_d (l_X0_endMinute_2 D nl nt ng) 0 0 4 (((l_X0_endMinute_2 D nl nt ng) 0 0 4) + 1) := by unfold s_X0_endMinute; first | done | rfl
    exact k_vret hx hb hr hlocks (⟨rfl, by rw [e9]; exact hW, by rw [e9]; exact (hE2.put ⟨by decide, Or.inl (by decide)⟩)⟩) hL dX0_endMinute_43
  ·
    have hlt2 : k2 < nt := k_nI_nge (by omega) (by omega) c1
    refine lv_aload_n hx hb dX0_endMinute_13 rfl (lv_at hl 1 rfl) ?_
    refine k_get (K := RX0) (T := TX0) (N := 5) (v := .ref (ad g 1 1)) (w := .ref (ad g 1 1)) hx hb fX0 hown hK hW 0 0 hd.o (fun _ => rfl) rfl 1 (by decide) (hts (.fieldLink RX0 18 "Crossdockery$Dock" "transfers" "Ljava/util/ArrayList;") (by decide +kernel)) rfl rfl rfl dX0_endMinute_14 ?_
    refine lv_iload_n hx hb dX0_endMinute_17 rfl (lv_at hl 0 rfl) ?_
    refine k_callV (As := [.int (nI k2)]) (rest := []) ⟨hx, hb, hml, hown, hts⟩ hK (c_get1 X l hd hW.cap (j := k2) (by omega)) (cwV 1 hts gX0_endMinute_Jx4a65c_get_915e3 rfl rfl rfl (by decide +kernel) ⟨Nat.le_of_ble_eq_true rfl, Nat.le_of_ble_eq_true rfl⟩) (k_recv hK hW 1 1 (hd.li (by decide)) (fun _ => rfl) rfl) hW rfl hl.1 rfl (Nat.le_of_ble_eq_true rfl) dX0_endMinute_18 ⟨Nat.le_of_ble_eq_true rfl, Nat.le_of_ble_eq_true rfl⟩ hL (fun v9 H locs hp hL => ?_)
    obtain ⟨rfl, hW⟩ := hp
    refine k_cast' (K := RX5) (nm := RX5) hx hb hown (hts (.classLink RX0 47 RX5) (by decide +kernel)) hK (List.mem_of_getElem? (i := 5) rfl) (k_recv hK hW 5 k2 (hd.tr (show k2 < nt by omega)) (fun _ => rfl) rfl) dX0_endMinute_21 ?_
    refine k_callV (As := []) (rest := []) ⟨hx, hb, hml, hown, hts⟩ hK (c_X5_endMinute X l hd z2 k2 (show k2 < nt by omega)) (cwV 0 hts gX0_endMinute_X5_endMinute rfl rfl rfl (by decide +kernel) ⟨Nat.le_of_ble_eq_true rfl, Nat.le_of_ble_eq_true rfl⟩) (k_recv hK hW 5 k2 (hd.tr (show k2 < nt by omega)) (fun _ => rfl) rfl) hW rfl hl.1 rfl (Nat.le_of_ble_eq_true rfl) dX0_endMinute_24 ⟨Nat.le_of_ble_eq_true rfl, Nat.le_of_ble_eq_true rfl⟩ hL (fun v9 H locs hp hL => ?_)
    obtain ⟨rfl, hW⟩ := hp
    refine lv_iinc (v := (nI (k2 + 1))) (k := 0) (lv' := [(1, .int (nI (k2 + 1))), (0, .ref (ad g 0 0))]) hx hb dX0_endMinute_27 hl rfl (nI_1 _) (by decide) rfl (fun ls hl => ?_)
    refine lv_goto (tgt := 2) hx hb dX0_endMinute_30 (by decide) ?_
    have e9 : (f_X0_endMinute_2 D nl nt ng) k2 z2 = (s_X5_endMinute z2 k2) := by unfold f_X0_endMinute_2; first | done | rfl
    exact ih2 _ _ _ hlt2 ⟨(s_X5_endMinute z2 k2), by rw [it_s, ← hz2, e9], hW, hL, lv_sub hl [0, 1] rfl, (cWF_X5_endMinute (ng := ng) hE2 _)⟩
def f_X0_passMinutes_4 (D : KD) (nl : Nat) (nt : Nat) (ng : Nat) (mi : Nat) (k4 : Nat) (z4 : KD × Int32) : KD × Int32 := ((s_X0_endMinute (s_X0_freeDoors (s_X0_letWait (s_X0_lookAtDoors ((s_X0_letLeave (s_X0_handleUnits (s_X0_fillDoors z4.1 nl nt ng) nl nt ng) nl nt ng).1) nl nt ng) nl nt ng) nl nt ng) nl nt ng), (z4.2 + ((s_X0_letLeave (s_X0_handleUnits (s_X0_fillDoors z4.1 nl nt ng) nl nt ng) nl nt ng).2)))
def l_X0_passMinutes_4 (D : KD) (nl : Nat) (nt : Nat) (ng : Nat) (mi : Nat) : KD × Int32 := it (f_X0_passMinutes_4 D nl nt ng mi) mi (D, 0)
def s_X0_passMinutes (D : KD) (nl : Nat) (nt : Nat) (ng : Nat) (mi : Nat) : KD × Int32 := ((l_X0_passMinutes_4 D nl nt ng mi).1, (l_X0_passMinutes_4 D nl nt ng mi).2)
set_option maxHeartbeats 4000000 in
set_option maxRecDepth 100000 in
theorem c_X0_passMinutes (X : kX) (l : Launch) {n : Nat → Nat → Nat} {ad L : Nat → Nat → Nat → Nat} {C : Nat → Nat → Nat → Nat → Int32} {fr : Nat → Option Cell} {g : Nat} {nl nt ng : Nat} (hd : kDk n g nl nt ng) (D : KD) (hwf : cWF D nl nt) (mi : Nat) (h_mi : mi < 2 ^ 31) : k_M X l yX0_passMinutes wsX0_passMinutes ({ frames := 7, cells := 0, slots := 0, locals := 146 }) [.ref (ad g 0 0), .int (nI mi)] (k_W X n ad L (k_g C g D) fr) (fun v H => v = some (.int ((s_X0_passMinutes D nl nt ng mi).2)) ∧ k_W X n ad L (k_g C g ((s_X0_passMinutes D nl nt ng mi).1)) fr H ∧ cWF ((s_X0_passMinutes D nl nt ng mi).1) nl nt) 0 0 := by
  refine k_M.of (cc := cX0_passMinutes) (maxL := 4) (ret := (some .int)) (by decide) rfl (Nat.le_of_ble_eq_true rfl) ?_
  intro p e s m args below meth c ls hx hb hr hml hown hts hlocks hnm hK hW hl
  have hL : ∀ q ∈ ([] : List Loc), k_B X ≤ q.base := fun _ h => nomatch h
  have hl : lv_has ls 4 [(0, .ref (ad g 0 0)), (1, .int (nI mi))] := hl
  have hl8 := hd.l8
  have ht16 := hd.t16
  have hg4 := hd.g4
  refine lv_iconst (v := 0) hx hb dX0_passMinutes_0 (by decide) ?_
  refine lv_istore_n (lv' := [(2, .int 0), (0, .ref (ad g 0 0)), (1, .int (nI mi))]) hx hb dX0_passMinutes_1 rfl hl (by decide) rfl (fun ls hl => ?_)
  refine lv_iconst (v := 0) hx hb dX0_passMinutes_2 (by decide) ?_
  refine lv_istore_n (lv' := [(3, .int 0), (2, .int 0), (0, .ref (ad g 0 0)), (1, .int (nI mi))]) hx hb dX0_passMinutes_3 rfl hl (by decide) rfl (fun ls hl => ?_)
  refine k_for (mi) (fun k4 H locs ls => ∃ z4 : KD × Int32, z4 = it (f_X0_passMinutes_4 D nl nt ng mi) k4 (D, 0) ∧ k_W X n ad L (k_g C g z4.1) fr H ∧ (∀ q ∈ locs, k_B X ≤ q.base) ∧ lv_has ls 4 [(3, .int (nI k4)), (2, .int z4.2), (0, .ref (ad g 0 0)), (1, .int (nI mi))] ∧ cWF z4.1 nl nt) 0 ⟨(D, 0), rfl, hW, hL, lv_sub hl [0, 1, 2, 3] rfl, hwf⟩ (Nat.zero_le _) (fun k4 hk4 ih4 H locs ls hI => ?_)
  obtain ⟨z4, hz4, hW, hL, hl, hE4⟩ := hI
  refine lv_iload_n hx hb dX0_passMinutes_4 rfl (lv_at hl 0 rfl) ?_
  refine lv_iload_n hx hb dX0_passMinutes_5 rfl (lv_at hl 3 rfl) ?_
  refine lv_icmp_ge (tgt := 46) hx hb dX0_passMinutes_6 (by decide) (fun c1 => ?_) (fun c1 => ?_)
  ·
    have hge4 := k_nI_ge (by omega) (by omega) c1
    obtain rfl : mi = k4 := by omega
    replace hz4 : z4 = (l_X0_passMinutes_4 D nl nt ng mi) := hz4
    subst hz4
    have hl : lv_has ls 4 [(3, .int (nI mi)), (2, .int ((l_X0_passMinutes_4 D nl nt ng mi).2)), (0, .ref (ad g 0 0)), (1, .int (nI mi))] := hl
    refine lv_iload_n hx hb dX0_passMinutes_46 rfl (lv_at hl 1 rfl) ?_
    have e9 : (s_X0_passMinutes D nl nt ng mi) = ((l_X0_passMinutes_4 D nl nt ng mi).1, (l_X0_passMinutes_4 D nl nt ng mi).2) := by unfold s_X0_passMinutes; first | done | rfl
    exact k_iret hx hb hr hlocks (⟨by rw [e9], by rw [e9]; exact hW, by rw [e9]; exact hE4⟩) hL dX0_passMinutes_47
  ·
    have hlt4 : k4 < mi := k_nI_nge (by omega) (by omega) c1
    refine lv_aload_n hx hb dX0_passMinutes_9 rfl (lv_at hl 2 rfl) ?_
    refine k_callV (As := []) (rest := []) ⟨hx, hb, hml, hown, hts⟩ hK (c_X0_fillDoors X l hd z4.1 hE4) (cwV 0 hts gX0_passMinutes_X0_fillDoors rfl rfl rfl (by decide +kernel) ⟨Nat.le_of_ble_eq_true rfl, Nat.le_of_ble_eq_true rfl⟩) (k_recv hK hW 0 0 hd.o (fun _ => rfl) rfl) hW rfl hl.1 rfl (Nat.le_of_ble_eq_true rfl) dX0_passMinutes_10 ⟨Nat.le_of_ble_eq_true rfl, Nat.le_of_ble_eq_true rfl⟩ hL (fun v9 H locs hp hL => ?_)
    obtain ⟨rfl, hW, hc2⟩ := hp
    refine lv_aload_n hx hb dX0_passMinutes_13 rfl (lv_at hl 2 rfl) ?_
    refine k_callV (As := []) (rest := []) ⟨hx, hb, hml, hown, hts⟩ hK (c_X0_handleUnits X l hd (s_X0_fillDoors z4.1 nl nt ng) hc2) (cwV 0 hts gX0_passMinutes_X0_handleUnits rfl rfl rfl (by decide +kernel) ⟨Nat.le_of_ble_eq_true rfl, Nat.le_of_ble_eq_true rfl⟩) (k_recv hK hW 0 0 hd.o (fun _ => rfl) rfl) hW rfl hl.1 rfl (Nat.le_of_ble_eq_true rfl) dX0_passMinutes_14 ⟨Nat.le_of_ble_eq_true rfl, Nat.le_of_ble_eq_true rfl⟩ hL (fun v9 H locs hp hL => ?_)
    obtain ⟨rfl, hW, hc3⟩ := hp
    refine lv_iload_n hx hb dX0_passMinutes_17 rfl (lv_at hl 1 rfl) ?_
    refine lv_aload_n hx hb dX0_passMinutes_18 rfl (lv_at hl 2 rfl) ?_
    refine k_callV (As := []) (rest := [.int z4.2]) ⟨hx, hb, hml, hown, hts⟩ hK (c_X0_letLeave X l hd (s_X0_handleUnits (s_X0_fillDoors z4.1 nl nt ng) nl nt ng) hc3) (cwV 0 hts gX0_passMinutes_X0_letLeave rfl rfl rfl (by decide +kernel) ⟨Nat.le_of_ble_eq_true rfl, Nat.le_of_ble_eq_true rfl⟩) (k_recv hK hW 0 0 hd.o (fun _ => rfl) rfl) hW rfl hl.1 rfl (Nat.le_of_ble_eq_true rfl) dX0_passMinutes_19 ⟨Nat.le_of_ble_eq_true rfl, Nat.le_of_ble_eq_true rfl⟩ hL (fun v9 H locs hp hL => ?_)
    obtain ⟨rfl, hW, hc4⟩ := hp
    refine lv_iadd hx hb dX0_passMinutes_22 ?_
    refine lv_istore_n (lv' := [(2, .int (z4.2 + ((s_X0_letLeave (s_X0_handleUnits (s_X0_fillDoors z4.1 nl nt ng) nl nt ng) nl nt ng).2))), (3, .int (nI k4)), (0, .ref (ad g 0 0)), (1, .int (nI mi))]) hx hb dX0_passMinutes_23 rfl hl (by decide) rfl (fun ls hl => ?_)
    refine lv_aload_n hx hb dX0_passMinutes_24 rfl (lv_at hl 2 rfl) ?_
    refine k_callV (As := []) (rest := []) ⟨hx, hb, hml, hown, hts⟩ hK (c_X0_lookAtDoors X l hd ((s_X0_letLeave (s_X0_handleUnits (s_X0_fillDoors z4.1 nl nt ng) nl nt ng) nl nt ng).1) hc4) (cwV 0 hts gX0_passMinutes_X0_lookAtDoors rfl rfl rfl (by decide +kernel) ⟨Nat.le_of_ble_eq_true rfl, Nat.le_of_ble_eq_true rfl⟩) (k_recv hK hW 0 0 hd.o (fun _ => rfl) rfl) hW rfl hl.1 rfl (Nat.le_of_ble_eq_true rfl) dX0_passMinutes_25 ⟨Nat.le_of_ble_eq_true rfl, Nat.le_of_ble_eq_true rfl⟩ hL (fun v9 H locs hp hL => ?_)
    obtain ⟨rfl, hW, hc5⟩ := hp
    refine lv_aload_n hx hb dX0_passMinutes_28 rfl (lv_at hl 2 rfl) ?_
    refine k_callV (As := []) (rest := []) ⟨hx, hb, hml, hown, hts⟩ hK (c_X0_letWait X l hd (s_X0_lookAtDoors ((s_X0_letLeave (s_X0_handleUnits (s_X0_fillDoors z4.1 nl nt ng) nl nt ng) nl nt ng).1) nl nt ng) hc5) (cwV 0 hts gX0_passMinutes_X0_letWait rfl rfl rfl (by decide +kernel) ⟨Nat.le_of_ble_eq_true rfl, Nat.le_of_ble_eq_true rfl⟩) (k_recv hK hW 0 0 hd.o (fun _ => rfl) rfl) hW rfl hl.1 rfl (Nat.le_of_ble_eq_true rfl) dX0_passMinutes_29 ⟨Nat.le_of_ble_eq_true rfl, Nat.le_of_ble_eq_true rfl⟩ hL (fun v9 H locs hp hL => ?_)
    obtain ⟨rfl, hW, hc6⟩ := hp
    refine lv_aload_n hx hb dX0_passMinutes_32 rfl (lv_at hl 2 rfl) ?_
    refine k_callV (As := []) (rest := []) ⟨hx, hb, hml, hown, hts⟩ hK (c_X0_freeDoors X l hd (s_X0_letWait (s_X0_lookAtDoors ((s_X0_letLeave (s_X0_handleUnits (s_X0_fillDoors z4.1 nl nt ng) nl nt ng) nl nt ng).1) nl nt ng) nl nt ng) hc6) (cwV 0 hts gX0_passMinutes_X0_freeDoors rfl rfl rfl (by decide +kernel) ⟨Nat.le_of_ble_eq_true rfl, Nat.le_of_ble_eq_true rfl⟩) (k_recv hK hW 0 0 hd.o (fun _ => rfl) rfl) hW rfl hl.1 rfl (Nat.le_of_ble_eq_true rfl) dX0_passMinutes_33 ⟨Nat.le_of_ble_eq_true rfl, Nat.le_of_ble_eq_true rfl⟩ hL (fun v9 H locs hp hL => ?_)
    obtain ⟨rfl, hW, hc7⟩ := hp
    refine lv_aload_n hx hb dX0_passMinutes_36 rfl (lv_at hl 2 rfl) ?_
    refine k_callV (As := []) (rest := []) ⟨hx, hb, hml, hown, hts⟩ hK (c_X0_endMinute X l hd (s_X0_freeDoors (s_X0_letWait (s_X0_lookAtDoors ((s_X0_letLeave (s_X0_handleUnits (s_X0_fillDoors z4.1 nl nt ng) nl nt ng) nl nt ng).1) nl nt ng) nl nt ng) nl nt ng) hc7) (cwV 0 hts gX0_passMinutes_X0_endMinute rfl rfl rfl (by decide +kernel) ⟨Nat.le_of_ble_eq_true rfl, Nat.le_of_ble_eq_true rfl⟩) (k_recv hK hW 0 0 hd.o (fun _ => rfl) rfl) hW rfl hl.1 rfl (Nat.le_of_ble_eq_true rfl) dX0_passMinutes_37 ⟨Nat.le_of_ble_eq_true rfl, Nat.le_of_ble_eq_true rfl⟩ hL (fun v9 H locs hp hL => ?_)
    obtain ⟨rfl, hW, hc8⟩ := hp
    refine lv_iinc (v := (nI (k4 + 1))) (k := 1) (lv' := [(3, .int (nI (k4 + 1))), (2, .int (z4.2 + ((s_X0_letLeave (s_X0_handleUnits (s_X0_fillDoors z4.1 nl nt ng) nl nt ng) nl nt ng).2))), (0, .ref (ad g 0 0)), (1, .int (nI mi))]) hx hb dX0_passMinutes_40 hl rfl (nI_1 _) (by decide) rfl (fun ls hl => ?_)
    refine lv_goto (tgt := 4) hx hb dX0_passMinutes_43 (by decide) ?_
    have e9 : (f_X0_passMinutes_4 D nl nt ng mi) k4 z4 = ((s_X0_endMinute (s_X0_freeDoors (s_X0_letWait (s_X0_lookAtDoors ((s_X0_letLeave (s_X0_handleUnits (s_X0_fillDoors z4.1 nl nt ng) nl nt ng) nl nt ng).1) nl nt ng) nl nt ng) nl nt ng) nl nt ng), (z4.2 + ((s_X0_letLeave (s_X0_handleUnits (s_X0_fillDoors z4.1 nl nt ng) nl nt ng) nl nt ng).2))) := by unfold f_X0_passMinutes_4; first | done | rfl
    exact ih4 _ _ _ hlt4 ⟨((s_X0_endMinute (s_X0_freeDoors (s_X0_letWait (s_X0_lookAtDoors ((s_X0_letLeave (s_X0_handleUnits (s_X0_fillDoors z4.1 nl nt ng) nl nt ng) nl nt ng).1) nl nt ng) nl nt ng) nl nt ng) nl nt ng), (z4.2 + ((s_X0_letLeave (s_X0_handleUnits (s_X0_fillDoors z4.1 nl nt ng) nl nt ng) nl nt ng).2))), by rw [it_s, ← hz4, e9], hW, hL, lv_sub hl [0, 1, 2, 3] rfl, hc8⟩
def f_X0_owedCents_5 (D : KD) (nl : Nat) (nt : Nat) (ng : Nat) (i : Nat) (k5 : Nat) (z5 : Int64) : Int64 := (z5 + ((s_X3_centsFrom D i (nI k5 - 1)).toInt64))
def l_X0_owedCents_5 (D : KD) (nl : Nat) (nt : Nat) (ng : Nat) (i : Nat) : Int64 := it (f_X0_owedCents_5 D nl nt ng i) (nl + 1) 0
def s_X0_owedCents (D : KD) (nl : Nat) (nt : Nat) (ng : Nat) (i : Nat) : Int64 := (l_X0_owedCents_5 D nl nt ng i)
set_option maxHeartbeats 4000000 in
set_option maxRecDepth 100000 in
theorem c_X0_owedCents (X : kX) (l : Launch) {n : Nat → Nat → Nat} {ad L : Nat → Nat → Nat → Nat} {C : Nat → Nat → Nat → Nat → Int32} {fr : Nat → Option Cell} {g : Nat} {nl nt ng : Nat} (hd : kDk n g nl nt ng) (D : KD) (i : Nat) (h_i : i < nl) : k_M X l yX0_owedCents wsX0_owedCents ({ frames := 3, cells := 0, slots := 0, locals := 55 }) [.ref (ad g 0 0), .ref (ad g 4 i)] (k_W X n ad L (k_g C g D) fr) (fun v H => v = some (.long (s_X0_owedCents D nl nt ng i)) ∧ k_W X n ad L (k_g C g D) fr H) 0 0 := by
  refine k_M.of (cc := cX0_owedCents) (maxL := 5) (ret := (some .long)) (by decide) rfl (Nat.le_of_ble_eq_true rfl) ?_
  intro p e s m args below meth c ls hx hb hr hml hown hts hlocks hnm hK hW hl
  have hL : ∀ q ∈ ([] : List Loc), k_B X ≤ q.base := fun _ h => nomatch h
  have hl : lv_has ls 5 [(0, .ref (ad g 0 0)), (1, .ref (ad g 4 i))] := hl
  have fX0 : ∀ w ∈ u_ws RX0 TX0 5, w.before args s = true := fun w h => hts w ((by decide +kernel : ∀ w ∈ u_ws RX0 TX0 5, w ∈ wsX0_owedCents) w h)
  have hl8 := hd.l8
  have ht16 := hd.t16
  have hg4 := hd.g4
  refine lv_lconst (v := 0) hx hb dX0_owedCents_0 (by decide) ?_
  refine lv_lstore_n (lv' := [(2, .long 0), (0, .ref (ad g 0 0)), (1, .ref (ad g 4 i))]) hx hb dX0_owedCents_1 rfl hl (by decide) rfl (fun ls hl => ?_)
  refine lv_iconst (v := (-1)) hx hb dX0_owedCents_2 (by decide) ?_
  refine lv_istore (lv' := [(4, .int (-1)), (2, .long 0), (0, .ref (ad g 0 0)), (1, .ref (ad g 4 i))]) hx hb dX0_owedCents_3 hl (by decide) rfl (fun ls hl => ?_)
  refine k_for ((nl + 1)) (fun k5 H locs ls => ∃ z5 : Int64, z5 = it (f_X0_owedCents_5 D nl nt ng i) k5 0 ∧ k_W X n ad L (k_g C g D) fr H ∧ (∀ q ∈ locs, k_B X ≤ q.base) ∧ lv_has ls 5 [(4, .int (nI k5 - 1)), (2, .long z5), (0, .ref (ad g 0 0)), (1, .ref (ad g 4 i))]) 0 ⟨0, rfl, hW, hL, lv_sub hl [0, 1, 2, 3] rfl⟩ (Nat.zero_le _) (fun k5 hk5 ih5 H locs ls hI => ?_)
  obtain ⟨z5, hz5, hW, hL, hl⟩ := hI
  refine lv_iload hx hb dX0_owedCents_5 (lv_at hl 0 rfl) ?_
  refine lv_aload_n hx hb dX0_owedCents_7 rfl (lv_at hl 2 rfl) ?_
  refine k_get (K := RX0) (T := TX0) (N := 5) (v := .ref (ad g 1 0)) (w := .ref (ad g 1 0)) hx hb fX0 hown hK hW 0 0 hd.o (fun _ => rfl) rfl 0 (by decide) (hts (.fieldLink RX0 12 "Crossdockery$Dock" "lorries" "Ljava/util/ArrayList;") (by decide +kernel)) rfl rfl rfl dX0_owedCents_8 ?_
  refine k_callV (As := []) (rest := [.int (nI k5 - 1)]) ⟨hx, hb, hml, hown, hts⟩ hK (c_size0 X l hd) (cwV 0 hts gX0_owedCents_Jx4a65c_size_8abf5 rfl rfl rfl (by decide +kernel) ⟨Nat.le_of_ble_eq_true rfl, Nat.le_of_ble_eq_true rfl⟩) (k_recv hK hW 1 0 (hd.li (by decide)) (fun _ => rfl) rfl) hW rfl hl.1 rfl (Nat.le_of_ble_eq_true rfl) dX0_owedCents_11 ⟨Nat.le_of_ble_eq_true rfl, Nat.le_of_ble_eq_true rfl⟩ hL (fun v9 H locs hp hL => ?_)
  obtain ⟨rfl, hW⟩ := hp
  refine lv_icmp_ge (tgt := 33) hx hb dX0_owedCents_14 (by decide) (fun c1 => ?_) (fun c1 => ?_)
  ·
    have hge5 := k_m1_ge (by omega) (by omega) c1
    obtain rfl : (nl + 1) = k5 := by omega
    replace hz5 : z5 = (l_X0_owedCents_5 D nl nt ng i) := hz5
    subst hz5
    have hl : lv_has ls 5 [(4, .int (nI (nl + 1) - 1)), (2, .long (l_X0_owedCents_5 D nl nt ng i)), (0, .ref (ad g 0 0)), (1, .ref (ad g 4 i))] := hl
    refine lv_lload_n hx hb dX0_owedCents_33 rfl (lv_at hl 1 rfl) ?_
    have e9 : (s_X0_owedCents D nl nt ng i) = (l_X0_owedCents_5 D nl nt ng i) := by unfold s_X0_owedCents; first | done | rfl
    exact k_lret hx hb hr hlocks (⟨by rw [e9], hW⟩) hL dX0_owedCents_34
  ·
    have hlt5 : k5 < (nl + 1) := k_m1_nge (by omega) (by omega) c1
    refine lv_lload_n hx hb dX0_owedCents_17 rfl (lv_at hl 1 rfl) ?_
    refine lv_aload_n hx hb dX0_owedCents_18 rfl (lv_at hl 3 rfl) ?_
    refine lv_iload hx hb dX0_owedCents_19 (lv_at hl 0 rfl) ?_
    refine k_callV (As := [.int (nI k5 - 1)]) (rest := [.long z5]) ⟨hx, hb, hml, hown, hts⟩ hK (c_X3_centsFrom X l hd D i h_i (nI k5 - 1)) (cwV 1 hts gX0_owedCents_X3_centsFrom rfl rfl rfl (by decide +kernel) ⟨Nat.le_of_ble_eq_true rfl, Nat.le_of_ble_eq_true rfl⟩) (k_recv hK hW 4 i (hd.lo h_i) (fun _ => rfl) rfl) hW rfl hl.1 rfl (Nat.le_of_ble_eq_true rfl) dX0_owedCents_21 ⟨Nat.le_of_ble_eq_true rfl, Nat.le_of_ble_eq_true rfl⟩ hL (fun v9 H locs hp hL => ?_)
    obtain ⟨rfl, hW⟩ := hp
    refine lv_i2l (v := (s_X3_centsFrom D i (nI k5 - 1)).toInt64) hx hb dX0_owedCents_24 rfl ?_
    refine lv_ladd hx hb dX0_owedCents_25 ?_
    refine lv_lstore_n (lv' := [(2, .long (z5 + ((s_X3_centsFrom D i (nI k5 - 1)).toInt64))), (4, .int (nI k5 - 1)), (0, .ref (ad g 0 0)), (1, .ref (ad g 4 i))]) hx hb dX0_owedCents_26 rfl hl (by decide) rfl (fun ls hl => ?_)
    refine lv_iinc (v := (nI (k5 + 1) - 1)) (k := 1) (lv' := [(4, .int (nI (k5 + 1) - 1)), (2, .long (z5 + ((s_X3_centsFrom D i (nI k5 - 1)).toInt64))), (0, .ref (ad g 0 0)), (1, .ref (ad g 4 i))]) hx hb dX0_owedCents_27 hl rfl (k_m1_s _) (by decide) rfl (fun ls hl => ?_)
    refine lv_goto (tgt := 5) hx hb dX0_owedCents_30 (by decide) ?_
    have e9 : (f_X0_owedCents_5 D nl nt ng i) k5 z5 = (z5 + ((s_X3_centsFrom D i (nI k5 - 1)).toInt64)) := by unfold f_X0_owedCents_5; first | done | rfl
    exact ih5 _ _ _ hlt5 ⟨(z5 + ((s_X3_centsFrom D i (nI k5 - 1)).toInt64)), by rw [it_s, ← hz5, e9], hW, hL, lv_sub hl [0, 1, 2, 3] rfl⟩
def f_X0_balanceOf_5 (D : KD) (nl : Nat) (nt : Nat) (ng : Nat) (who : Int32) (k5 : Nat) (z5 : Int64) : Int64 := (if (nI k5) = who then ((z5 - ((s_X3_centsFrom D k5 who).toInt64)) + (s_X0_owedCents D nl nt ng k5)) else (z5 - ((s_X3_centsFrom D k5 who).toInt64)))
def l_X0_balanceOf_5 (D : KD) (nl : Nat) (nt : Nat) (ng : Nat) (who : Int32) : Int64 := it (f_X0_balanceOf_5 D nl nt ng who) nl 0
def s_X0_balanceOf (D : KD) (nl : Nat) (nt : Nat) (ng : Nat) (who : Int32) : Int64 := (l_X0_balanceOf_5 D nl nt ng who)
set_option maxHeartbeats 4000000 in
set_option maxRecDepth 100000 in
theorem c_X0_balanceOf (X : kX) (l : Launch) {n : Nat → Nat → Nat} {ad L : Nat → Nat → Nat → Nat} {C : Nat → Nat → Nat → Nat → Int32} {fr : Nat → Option Cell} {g : Nat} {nl nt ng : Nat} (hd : kDk n g nl nt ng) (D : KD) (who : Int32) : k_M X l yX0_balanceOf wsX0_balanceOf ({ frames := 4, cells := 0, slots := 0, locals := 79 }) [.ref (ad g 0 0), .int who] (k_W X n ad L (k_g C g D) fr) (fun v H => v = some (.long (s_X0_balanceOf D nl nt ng who)) ∧ k_W X n ad L (k_g C g D) fr H) 0 0 := by
  refine k_M.of (cc := cX0_balanceOf) (maxL := 6) (ret := (some .long)) (by decide) rfl (Nat.le_of_ble_eq_true rfl) ?_
  intro p e s m args below meth c ls hx hb hr hml hown hts hlocks hnm hK hW hl
  have hL : ∀ q ∈ ([] : List Loc), k_B X ≤ q.base := fun _ h => nomatch h
  have hl : lv_has ls 6 [(0, .ref (ad g 0 0)), (1, .int who)] := hl
  have fX0 : ∀ w ∈ u_ws RX0 TX0 5, w.before args s = true := fun w h => hts w ((by decide +kernel : ∀ w ∈ u_ws RX0 TX0 5, w ∈ wsX0_balanceOf) w h)
  have hl8 := hd.l8
  have ht16 := hd.t16
  have hg4 := hd.g4
  refine lv_lconst (v := 0) hx hb dX0_balanceOf_0 (by decide) ?_
  refine lv_lstore_n (lv' := [(2, .long 0), (0, .ref (ad g 0 0)), (1, .int who)]) hx hb dX0_balanceOf_1 rfl hl (by decide) rfl (fun ls hl => ?_)
  refine lv_iconst (v := 0) hx hb dX0_balanceOf_2 (by decide) ?_
  refine lv_istore (lv' := [(4, .int 0), (2, .long 0), (0, .ref (ad g 0 0)), (1, .int who)]) hx hb dX0_balanceOf_3 hl (by decide) rfl (fun ls hl => ?_)
  refine k_for (nl) (fun k5 H locs ls => ∃ z5 : Int64, z5 = it (f_X0_balanceOf_5 D nl nt ng who) k5 0 ∧ k_W X n ad L (k_g C g D) fr H ∧ (∀ q ∈ locs, k_B X ≤ q.base) ∧ lv_has ls 6 [(4, .int (nI k5)), (2, .long z5), (0, .ref (ad g 0 0)), (1, .int who)]) 0 ⟨0, rfl, hW, hL, lv_sub hl [0, 1, 2, 3] rfl⟩ (Nat.zero_le _) (fun k5 hk5 ih5 H locs ls hI => ?_)
  obtain ⟨z5, hz5, hW, hL, hl⟩ := hI
  refine lv_iload hx hb dX0_balanceOf_5 (lv_at hl 0 rfl) ?_
  refine lv_aload_n hx hb dX0_balanceOf_7 rfl (lv_at hl 2 rfl) ?_
  refine k_get (K := RX0) (T := TX0) (N := 5) (v := .ref (ad g 1 0)) (w := .ref (ad g 1 0)) hx hb fX0 hown hK hW 0 0 hd.o (fun _ => rfl) rfl 0 (by decide) (hts (.fieldLink RX0 12 "Crossdockery$Dock" "lorries" "Ljava/util/ArrayList;") (by decide +kernel)) rfl rfl rfl dX0_balanceOf_8 ?_
  refine k_callV (As := []) (rest := [.int (nI k5)]) ⟨hx, hb, hml, hown, hts⟩ hK (c_size0 X l hd) (cwV 0 hts gX0_balanceOf_Jx4a65c_size_8abf5 rfl rfl rfl (by decide +kernel) ⟨Nat.le_of_ble_eq_true rfl, Nat.le_of_ble_eq_true rfl⟩) (k_recv hK hW 1 0 (hd.li (by decide)) (fun _ => rfl) rfl) hW rfl hl.1 rfl (Nat.le_of_ble_eq_true rfl) dX0_balanceOf_11 ⟨Nat.le_of_ble_eq_true rfl, Nat.le_of_ble_eq_true rfl⟩ hL (fun v9 H locs hp hL => ?_)
  obtain ⟨rfl, hW⟩ := hp
  refine lv_icmp_ge (tgt := 62) hx hb dX0_balanceOf_14 (by decide) (fun c1 => ?_) (fun c1 => ?_)
  ·
    have hge5 := k_nI_ge (by omega) (by omega) c1
    obtain rfl : nl = k5 := by omega
    replace hz5 : z5 = (l_X0_balanceOf_5 D nl nt ng who) := hz5
    subst hz5
    have hl : lv_has ls 6 [(4, .int (nI nl)), (2, .long (l_X0_balanceOf_5 D nl nt ng who)), (0, .ref (ad g 0 0)), (1, .int who)] := hl
    refine lv_lload_n hx hb dX0_balanceOf_62 rfl (lv_at hl 1 rfl) ?_
    have e9 : (s_X0_balanceOf D nl nt ng who) = (l_X0_balanceOf_5 D nl nt ng who) := by unfold s_X0_balanceOf; first | done | rfl
    exact k_lret hx hb hr hlocks (⟨by rw [e9], hW⟩) hL dX0_balanceOf_63
  ·
    have hlt5 : k5 < nl := k_nI_nge (by omega) (by omega) c1
    refine lv_aload_n hx hb dX0_balanceOf_17 rfl (lv_at hl 2 rfl) ?_
    refine k_get (K := RX0) (T := TX0) (N := 5) (v := .ref (ad g 1 0)) (w := .ref (ad g 1 0)) hx hb fX0 hown hK hW 0 0 hd.o (fun _ => rfl) rfl 0 (by decide) (hts (.fieldLink RX0 12 "Crossdockery$Dock" "lorries" "Ljava/util/ArrayList;") (by decide +kernel)) rfl rfl rfl dX0_balanceOf_18 ?_
    refine lv_iload hx hb dX0_balanceOf_21 (lv_at hl 0 rfl) ?_
    refine k_callV (As := [.int (nI k5)]) (rest := []) ⟨hx, hb, hml, hown, hts⟩ hK (c_get0 X l hd hW.cap (j := k5) (by omega)) (cwV 1 hts gX0_balanceOf_Jx4a65c_get_915e3 rfl rfl rfl (by decide +kernel) ⟨Nat.le_of_ble_eq_true rfl, Nat.le_of_ble_eq_true rfl⟩) (k_recv hK hW 1 0 (hd.li (by decide)) (fun _ => rfl) rfl) hW rfl hl.1 rfl (Nat.le_of_ble_eq_true rfl) dX0_balanceOf_23 ⟨Nat.le_of_ble_eq_true rfl, Nat.le_of_ble_eq_true rfl⟩ hL (fun v9 H locs hp hL => ?_)
    obtain ⟨rfl, hW⟩ := hp
    refine k_cast' (K := RX3) (nm := RX3) hx hb hown (hts (.classLink RX0 24 RX3) (by decide +kernel)) hK (List.mem_of_getElem? (i := 4) rfl) (k_recv hK hW 4 k5 (hd.lo (show k5 < nl by omega)) (fun _ => rfl) rfl) dX0_balanceOf_26 ?_
    refine lv_astore (lv' := [(5, .ref (ad g 4 k5)), (4, .int (nI k5)), (2, .long z5), (0, .ref (ad g 0 0)), (1, .int who)]) hx hb dX0_balanceOf_29 hl (by decide) rfl (fun ls hl => ?_)
    refine lv_lload_n hx hb dX0_balanceOf_31 rfl (lv_at hl 2 rfl) ?_
    refine lv_aload hx hb dX0_balanceOf_32 (lv_at hl 0 rfl) ?_
    refine lv_iload_n hx hb dX0_balanceOf_34 rfl (lv_at hl 4 rfl) ?_
    refine k_callV (As := [.int who]) (rest := [.long z5]) ⟨hx, hb, hml, hown, hts⟩ hK (c_X3_centsFrom X l hd D k5 (show k5 < nl by omega) who) (cwV 1 hts gX0_balanceOf_X3_centsFrom rfl rfl rfl (by decide +kernel) ⟨Nat.le_of_ble_eq_true rfl, Nat.le_of_ble_eq_true rfl⟩) (k_recv hK hW 4 k5 (hd.lo (show k5 < nl by omega)) (fun _ => rfl) rfl) hW rfl hl.1 rfl (Nat.le_of_ble_eq_true rfl) dX0_balanceOf_35 ⟨Nat.le_of_ble_eq_true rfl, Nat.le_of_ble_eq_true rfl⟩ hL (fun v9 H locs hp hL => ?_)
    obtain ⟨rfl, hW⟩ := hp
    refine lv_i2l (v := (s_X3_centsFrom D k5 who).toInt64) hx hb dX0_balanceOf_38 rfl ?_
    refine lv_lsub hx hb dX0_balanceOf_39 ?_
    refine lv_lstore_n (lv' := [(2, .long (z5 - ((s_X3_centsFrom D k5 who).toInt64))), (5, .ref (ad g 4 k5)), (4, .int (nI k5)), (0, .ref (ad g 0 0)), (1, .int who)]) hx hb dX0_balanceOf_40 rfl hl (by decide) rfl (fun ls hl => ?_)
    refine lv_iload hx hb dX0_balanceOf_41 (lv_at hl 2 rfl) ?_
    refine lv_iload_n hx hb dX0_balanceOf_43 rfl (lv_at hl 4 rfl) ?_
    refine lv_icmp_ne (tgt := 56) hx hb dX0_balanceOf_44 (by decide) (fun c2 => ?_) (fun c2 => ?_)
    ·
      refine lv_iinc (v := (nI (k5 + 1))) (k := 2) (lv' := [(4, .int (nI (k5 + 1))), (2, .long (z5 - ((s_X3_centsFrom D k5 who).toInt64))), (5, .ref (ad g 4 k5)), (0, .ref (ad g 0 0)), (1, .int who)]) hx hb dX0_balanceOf_56 hl rfl (nI_1 _) (by decide) rfl (fun ls hl => ?_)
      refine lv_goto (tgt := 5) hx hb dX0_balanceOf_59 (by decide) ?_
      have e9 : (f_X0_balanceOf_5 D nl nt ng who) k5 z5 = (z5 - ((s_X3_centsFrom D k5 who).toInt64)) := by unfold f_X0_balanceOf_5; first | done | (simp only [if_neg c2]; done) | rfl
      exact ih5 _ _ _ hlt5 ⟨(z5 - ((s_X3_centsFrom D k5 who).toInt64)), by rw [it_s, ← hz5, e9], hW, hL, lv_sub hl [0, 1, 3, 4] rfl⟩
    ·
      refine lv_lload_n hx hb dX0_balanceOf_47 rfl (lv_at hl 0 rfl) ?_
      refine lv_aload_n hx hb dX0_balanceOf_48 rfl (lv_at hl 3 rfl) ?_
      refine lv_aload hx hb dX0_balanceOf_49 (lv_at hl 1 rfl) ?_
      refine k_callV (As := [.ref (ad g 4 k5)]) (rest := [.long (z5 - ((s_X3_centsFrom D k5 who).toInt64))]) ⟨hx, hb, hml, hown, hts⟩ hK (c_X0_owedCents X l hd D k5 (show k5 < nl by omega)) (cwV 1 hts gX0_balanceOf_X0_owedCents rfl rfl rfl (by decide +kernel) ⟨Nat.le_of_ble_eq_true rfl, Nat.le_of_ble_eq_true rfl⟩) (k_recv hK hW 0 0 hd.o (fun _ => rfl) rfl) hW rfl hl.1 rfl (Nat.le_of_ble_eq_true rfl) dX0_balanceOf_51 ⟨Nat.le_of_ble_eq_true rfl, Nat.le_of_ble_eq_true rfl⟩ hL (fun v9 H locs hp hL => ?_)
      obtain ⟨rfl, hW⟩ := hp
      refine lv_ladd hx hb dX0_balanceOf_54 ?_
      refine lv_lstore_n (lv' := [(2, .long ((z5 - ((s_X3_centsFrom D k5 who).toInt64)) + (s_X0_owedCents D nl nt ng k5))), (5, .ref (ad g 4 k5)), (4, .int (nI k5)), (0, .ref (ad g 0 0)), (1, .int who)]) hx hb dX0_balanceOf_55 rfl hl (by decide) rfl (fun ls hl => ?_)
      refine lv_iinc (v := (nI (k5 + 1))) (k := 2) (lv' := [(4, .int (nI (k5 + 1))), (2, .long ((z5 - ((s_X3_centsFrom D k5 who).toInt64)) + (s_X0_owedCents D nl nt ng k5))), (5, .ref (ad g 4 k5)), (0, .ref (ad g 0 0)), (1, .int who)]) hx hb dX0_balanceOf_56 hl rfl (nI_1 _) (by decide) rfl (fun ls hl => ?_)
      refine lv_goto (tgt := 5) hx hb dX0_balanceOf_59 (by decide) ?_
      have e9 : (f_X0_balanceOf_5 D nl nt ng who) k5 z5 = ((z5 - ((s_X3_centsFrom D k5 who).toInt64)) + (s_X0_owedCents D nl nt ng k5)) := by unfold f_X0_balanceOf_5; first | done | (simp only [if_pos c2]; done) | rfl
      exact ih5 _ _ _ hlt5 ⟨((z5 - ((s_X3_centsFrom D k5 who).toInt64)) + (s_X0_owedCents D nl nt ng k5)), by rw [it_s, ← hz5, e9], hW, hL, lv_sub hl [0, 1, 3, 4] rfl⟩
def s_X0_sendAway (D : KD) (nl : Nat) (nt : Nat) (ng : Nat) (i : Nat) : KD × Int32 := ((s_X0_freeDoors (s_X3_goAway D i (D 0 0 4)) nl nt ng), (s_X0_openUnits (s_X0_freeDoors (s_X3_goAway D i (D 0 0 4)) nl nt ng) nl nt ng i))
set_option maxHeartbeats 4000000 in
set_option maxRecDepth 100000 in
theorem c_X0_sendAway (X : kX) (l : Launch) {n : Nat → Nat → Nat} {ad L : Nat → Nat → Nat → Nat} {C : Nat → Nat → Nat → Nat → Int32} {fr : Nat → Option Cell} {g : Nat} {nl nt ng : Nat} (hd : kDk n g nl nt ng) (D : KD) (hwf : cWF D nl nt) (i : Nat) (h_i : i < nl) : k_M X l yX0_sendAway wsX0_sendAway ({ frames := 5, cells := 0, slots := 0, locals := 100 }) [.ref (ad g 0 0), .ref (ad g 4 i)] (k_W X n ad L (k_g C g D) fr) (fun v H => v = some (.int ((s_X0_sendAway D nl nt ng i).2)) ∧ k_W X n ad L (k_g C g ((s_X0_sendAway D nl nt ng i).1)) fr H ∧ cWF ((s_X0_sendAway D nl nt ng i).1) nl nt) 0 0 := by
  refine k_M.of (cc := cX0_sendAway) (maxL := 2) (ret := (some .int)) (by decide) rfl (Nat.le_of_ble_eq_true rfl) ?_
  intro p e s m args below meth c ls hx hb hr hml hown hts hlocks hnm hK hW hl
  have hL : ∀ q ∈ ([] : List Loc), k_B X ≤ q.base := fun _ h => nomatch h
  have hl : lv_has ls 2 [(0, .ref (ad g 0 0)), (1, .ref (ad g 4 i))] := hl
  have fX0 : ∀ w ∈ u_ws RX0 TX0 5, w.before args s = true := fun w h => hts w ((by decide +kernel : ∀ w ∈ u_ws RX0 TX0 5, w ∈ wsX0_sendAway) w h)
  have hl8 := hd.l8
  have ht16 := hd.t16
  have hg4 := hd.g4
  refine lv_aload_n hx hb dX0_sendAway_0 rfl (lv_at hl 1 rfl) ?_
  refine lv_aload_n hx hb dX0_sendAway_1 rfl (lv_at hl 0 rfl) ?_
  refine k_get (K := RX0) (T := TX0) (N := 5) (v := .int (D 0 0 4)) (w := .int (D 0 0 4)) hx hb fX0 hown hK hW 0 0 hd.o (fun _ => rfl) rfl 4 (by decide) (hts (.fieldLink RX0 80 "Crossdockery$Dock" "minute" "I") (by decide +kernel)) rfl rfl rfl dX0_sendAway_2 ?_
  refine k_callV (As := [.int (D 0 0 4)]) (rest := []) ⟨hx, hb, hml, hown, hts⟩ hK (c_X3_goAway X l hd D i h_i (D 0 0 4)) (cwV 1 hts gX0_sendAway_X3_goAway rfl rfl rfl (by decide +kernel) ⟨Nat.le_of_ble_eq_true rfl, Nat.le_of_ble_eq_true rfl⟩) (k_recv hK hW 4 i (hd.lo h_i) (fun _ => rfl) rfl) hW rfl hl.1 rfl (Nat.le_of_ble_eq_true rfl) dX0_sendAway_5 ⟨Nat.le_of_ble_eq_true rfl, Nat.le_of_ble_eq_true rfl⟩ hL (fun v9 H locs hp hL => ?_)
  obtain ⟨rfl, hW⟩ := hp
  refine lv_aload_n hx hb dX0_sendAway_8 rfl (lv_at hl 0 rfl) ?_
  refine k_callV (As := []) (rest := []) ⟨hx, hb, hml, hown, hts⟩ hK (c_X0_freeDoors X l hd (s_X3_goAway D i (D 0 0 4)) (cWF_X3_goAway (ng := ng) hwf _ _)) (cwV 0 hts gX0_sendAway_X0_freeDoors rfl rfl rfl (by decide +kernel) ⟨Nat.le_of_ble_eq_true rfl, Nat.le_of_ble_eq_true rfl⟩) (k_recv hK hW 0 0 hd.o (fun _ => rfl) rfl) hW rfl hl.1 rfl (Nat.le_of_ble_eq_true rfl) dX0_sendAway_9 ⟨Nat.le_of_ble_eq_true rfl, Nat.le_of_ble_eq_true rfl⟩ hL (fun v9 H locs hp hL => ?_)
  obtain ⟨rfl, hW, hc1⟩ := hp
  refine lv_aload_n hx hb dX0_sendAway_12 rfl (lv_at hl 0 rfl) ?_
  refine lv_aload_n hx hb dX0_sendAway_13 rfl (lv_at hl 1 rfl) ?_
  refine k_callV (As := [.ref (ad g 4 i)]) (rest := []) ⟨hx, hb, hml, hown, hts⟩ hK (c_X0_openUnits X l hd (s_X0_freeDoors (s_X3_goAway D i (D 0 0 4)) nl nt ng) hc1 i h_i) (cwV 1 hts gX0_sendAway_X0_openUnits rfl rfl rfl (by decide +kernel) ⟨Nat.le_of_ble_eq_true rfl, Nat.le_of_ble_eq_true rfl⟩) (k_recv hK hW 0 0 hd.o (fun _ => rfl) rfl) hW rfl hl.1 rfl (Nat.le_of_ble_eq_true rfl) dX0_sendAway_14 ⟨Nat.le_of_ble_eq_true rfl, Nat.le_of_ble_eq_true rfl⟩ hL (fun v9 H locs hp hL => ?_)
  obtain ⟨rfl, hW⟩ := hp
  have e9 : (s_X0_sendAway D nl nt ng i) = ((s_X0_freeDoors (s_X3_goAway D i (D 0 0 4)) nl nt ng), (s_X0_openUnits (s_X0_freeDoors (s_X3_goAway D i (D 0 0 4)) nl nt ng) nl nt ng i)) := by unfold s_X0_sendAway; first | done | rfl
  exact k_iret hx hb hr hlocks (⟨by rw [e9], by rw [e9]; exact hW, by rw [e9]; exact hc1⟩) hL dX0_sendAway_17
