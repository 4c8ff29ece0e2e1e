def s_X6_difference (a : Int32) (b : Int32) : Int32 := (if a = (-1) then 0 else (if b = (-1) then 0 else (if a ≤ b then b - a else a - b)))
set_option maxHeartbeats 4000000 in
set_option maxRecDepth 100000 in
theorem c_X6_difference (X : kX) (l : Launch) (P0 : Heap → Prop) (a b : Int32) : k_M X l yX6_difference wsX6_difference ({ frames := 1, cells := 0, slots := 0, locals := 12 }) [.int a, .int b] (P0) (fun v H => v = some (.int (s_X6_difference a b)) ∧ P0 H) 0 0 := by
  refine k_M.of (cc := cX6_difference) (maxL := 2) (ret := (some .int)) (by decide) rfl (Nat.le_of_ble_eq_true rfl) ?_
  intro p e s m args below meth c ls hx hb hr hml hown hts hlocks hnm hK hW hl
  have hL : ∀ q ∈ ([] : List Loc), k_B X ≤ q.base := fun _ h => nomatch h
  have hl : lv_has ls 2 [(0, .int a), (1, .int b)] := hl
  refine lv_iload_n hx hb dX6_difference_0 rfl (lv_at hl 0 rfl) ?_
  refine lv_iconst (v := (-1)) hx hb dX6_difference_1 (by decide) ?_
  refine lv_icmp_eq (tgt := 10) hx hb dX6_difference_2 (by decide) (fun c1 => ?_) (fun c1 => ?_)
  ·
    refine lv_iconst (v := 0) hx hb dX6_difference_10 (by decide) ?_
    have e9 : (s_X6_difference a b) = 0 := by unfold s_X6_difference; first | done | (simp only [if_pos c1]; done) | rfl
    exact k_iret hx hb hr hlocks (⟨by rw [e9], hW⟩) hL dX6_difference_11
  ·
    refine lv_iload_n hx hb dX6_difference_5 rfl (lv_at hl 1 rfl) ?_
    refine lv_iconst (v := (-1)) hx hb dX6_difference_6 (by decide) ?_
    refine lv_icmp_ne (tgt := 12) hx hb dX6_difference_7 (by decide) (fun c2 => ?_) (fun c2 => ?_)
    ·
      refine lv_iload_n hx hb dX6_difference_12 rfl (lv_at hl 0 rfl) ?_
      refine lv_iload_n hx hb dX6_difference_13 rfl (lv_at hl 1 rfl) ?_
      refine lv_icmp_le (tgt := 23) hx hb dX6_difference_14 (by decide) (fun c3 => ?_) (fun c3 => ?_)
      ·
        refine lv_iload_n hx hb dX6_difference_23 rfl (lv_at hl 1 rfl) ?_
        refine lv_iload_n hx hb dX6_difference_24 rfl (lv_at hl 0 rfl) ?_
        refine lv_isub hx hb dX6_difference_25 ?_
        have e9 : (s_X6_difference a b) = b - a := by unfold s_X6_difference; first | done | (simp only [if_neg c1, if_neg c2, if_pos c3]; done) | rfl
        exact k_iret hx hb hr hlocks (⟨by rw [e9], hW⟩) hL dX6_difference_26
      ·
        refine lv_iload_n hx hb dX6_difference_17 rfl (lv_at hl 0 rfl) ?_
        refine lv_iload_n hx hb dX6_difference_18 rfl (lv_at hl 1 rfl) ?_
        refine lv_isub hx hb dX6_difference_19 ?_
        refine lv_goto (tgt := 26) hx hb dX6_difference_20 (by decide) ?_
        have e9 : (s_X6_difference a b) = a - b := by unfold s_X6_difference; first | done | (simp only [if_neg c1, if_neg c2, if_neg c3]; done) | rfl
        exact k_iret hx hb hr hlocks (⟨by rw [e9], hW⟩) hL dX6_difference_26
    ·
      refine lv_iconst (v := 0) hx hb dX6_difference_10 (by decide) ?_
      have e9 : (s_X6_difference a b) = 0 := by unfold s_X6_difference; first | done | (simp only [if_neg c1, if_pos c2]; done) | rfl
      exact k_iret hx hb hr hlocks (⟨by rw [e9], hW⟩) hL dX6_difference_11
def s_X5_isOf (D : KD) (t : Nat) (i : Nat) : Int32 := (if (D 5 t 0).toNatClampNeg = i then 1 else (if (D 5 t 1).toNatClampNeg = i then 1 else 0))
set_option maxHeartbeats 4000000 in
set_option maxRecDepth 100000 in
theorem c_X5_isOf (X : kX) (l : Launch) {n : Nat → Nat → Nat} {ad L : Nat → Nat → Nat → Nat} {C : Nat → Nat → Nat → Nat → Int32} {fr : Nat → Option Cell} {g : Nat} {nl nt ng : Nat} (hd : kDk n g nl nt ng) (D : KD) (hwf : cWF D nl nt) (t : Nat) (h_t : t < nt) (i : Nat) (h_i : i < nl) : k_M X l yX5_isOf wsX5_isOf ({ frames := 1, cells := 0, slots := 0, locals := 12 }) [.ref (ad g 5 t), .ref (ad g 4 i)] (k_W X n ad L (k_g C g D) fr) (fun v H => v = some (.int (s_X5_isOf D t i)) ∧ k_W X n ad L (k_g C g D) fr H) 0 0 := by
  refine k_M.of (cc := cX5_isOf) (maxL := 2) (ret := (some .boolean)) (by decide) rfl (Nat.le_of_ble_eq_true rfl) ?_
  intro p e s m args below meth c ls hx hb hr hml hown hts hlocks hnm hK hW hl
  have hL : ∀ q ∈ ([] : List Loc), k_B X ≤ q.base := fun _ h => nomatch h
  have hl : lv_has ls 2 [(0, .ref (ad g 5 t)), (1, .ref (ad g 4 i))] := hl
  have fX5 : ∀ w ∈ u_ws RX5 TX5 7, w.before args s = true := fun w h => hts w ((by decide +kernel : ∀ w ∈ u_ws RX5 TX5 7, w ∈ wsX5_isOf) w h)
  have hl8 := hd.l8
  have ht16 := hd.t16
  have hg4 := hd.g4
  refine lv_aload_n hx hb dX5_isOf_0 rfl (lv_at hl 0 rfl) ?_
  refine k_get (K := RX5) (T := TX5) (N := 7) (v := .ref (ad g 4 ((D 5 t 0).toNatClampNeg))) (w := .ref (ad g 4 ((D 5 t 0).toNatClampNeg))) hx hb fX5 hown hK hW 5 t (hd.tr h_t) (fun _ => rfl) rfl 0 (by decide) (hts (.fieldLink RX5 15 "Crossdockery$Transfer" "from" "LCrossdockery$Lorry;") (by decide +kernel)) rfl rfl rfl dX5_isOf_1 ?_
  refine lv_aload_n hx hb dX5_isOf_4 rfl (lv_at hl 1 rfl) ?_
  refine k_acmp_eq (i := (D 5 t 0).toNatClampNeg) (j := i) (tgt := 16) hx hb hW (hd.lo (hwf.fr h_t)) (hd.lo h_i) dX5_isOf_5 (by decide) (fun c1 => ?_) (fun c1 => ?_)
  ·
    refine lv_iconst (v := 1) hx hb dX5_isOf_16 (by decide) ?_
    refine lv_goto (tgt := 21) hx hb dX5_isOf_17 (by decide) ?_
    have e9 : (s_X5_isOf D t i) = 1 := by unfold s_X5_isOf; first | done | (simp only [if_pos c1]; done) | rfl
    exact k_zret hx hb hr (by decide) hlocks (⟨by rw [e9], hW⟩) hL dX5_isOf_21
  ·
    refine lv_aload_n hx hb dX5_isOf_8 rfl (lv_at hl 0 rfl) ?_
    refine k_get (K := RX5) (T := TX5) (N := 7) (v := .ref (ad g 4 ((D 5 t 1).toNatClampNeg))) (w := .ref (ad g 4 ((D 5 t 1).toNatClampNeg))) hx hb fX5 hown hK hW 5 t (hd.tr h_t) (fun _ => rfl) rfl 1 (by decide) (hts (.fieldLink RX5 19 "Crossdockery$Transfer" "to" "LCrossdockery$Lorry;") (by decide +kernel)) rfl rfl rfl dX5_isOf_9 ?_
    refine lv_aload_n hx hb dX5_isOf_12 rfl (lv_at hl 1 rfl) ?_
    refine k_acmp_ne (i := (D 5 t 1).toNatClampNeg) (j := i) (tgt := 20) hx hb hW (hd.lo (hwf.to h_t)) (hd.lo h_i) dX5_isOf_13 (by decide) (fun c2 => ?_) (fun c2 => ?_)
    ·
      refine lv_iconst (v := 0) hx hb dX5_isOf_20 (by decide) ?_
      have e9 : (s_X5_isOf D t i) = 0 := by unfold s_X5_isOf; first | done | (simp only [if_neg c1, if_neg c2]; done) | rfl
      exact k_zret hx hb hr (by decide) hlocks (⟨by rw [e9], hW⟩) hL dX5_isOf_21
    ·
      refine lv_iconst (v := 1) hx hb dX5_isOf_16 (by decide) ?_
      refine lv_goto (tgt := 21) hx hb dX5_isOf_17 (by decide) ?_
      have e9 : (s_X5_isOf D t i) = 1 := by unfold s_X5_isOf; first | done | (simp only [if_neg c1, if_pos c2]; done) | rfl
      exact k_zret hx hb hr (by decide) hlocks (⟨by rw [e9], hW⟩) hL dX5_isOf_21
def s_X5_openFor (D : KD) (t : Nat) (i : Nat) : Int32 := (if (D 4 i 1) = 0 then (D 5 t 2) - (D 5 t 5) else (D 5 t 2) - (D 5 t 3))
set_option maxHeartbeats 4000000 in
set_option maxRecDepth 100000 in
theorem c_X5_openFor (X : kX) (l : Launch) {n : Nat → Nat → Nat} {ad L : Nat → Nat → Nat → Nat} {C : Nat → Nat → Nat → Nat → Int32} {fr : Nat → Option Cell} {g : Nat} {nl nt ng : Nat} (hd : kDk n g nl nt ng) (D : KD) (t : Nat) (h_t : t < nt) (i : Nat) (h_i : i < nl) : k_M X l yX5_openFor wsX5_openFor ({ frames := 1, cells := 0, slots := 0, locals := 12 }) [.ref (ad g 5 t), .ref (ad g 4 i)] (k_W X n ad L (k_g C g D) fr) (fun v H => v = some (.int (s_X5_openFor D t i)) ∧ k_W X n ad L (k_g C g D) fr H) 0 0 := by
  refine k_M.of (cc := cX5_openFor) (maxL := 2) (ret := (some .int)) (by decide) rfl (Nat.le_of_ble_eq_true rfl) ?_
  intro p e s m args below meth c ls hx hb hr hml hown hts hlocks hnm hK hW hl
  have hL : ∀ q ∈ ([] : List Loc), k_B X ≤ q.base := fun _ h => nomatch h
  have hl : lv_has ls 2 [(0, .ref (ad g 5 t)), (1, .ref (ad g 4 i))] := hl
  have fX5 : ∀ w ∈ u_ws RX5 TX5 7, w.before args s = true := fun w h => hts w ((by decide +kernel : ∀ w ∈ u_ws RX5 TX5 7, w ∈ wsX5_openFor) w h)
  have fX3 : ∀ w ∈ u_ws RX3 TX3 15, w.before args s = true := fun w h => hts w ((by decide +kernel : ∀ w ∈ u_ws RX3 TX3 15, w ∈ wsX5_openFor) w h)
  have hl8 := hd.l8
  have ht16 := hd.t16
  have hg4 := hd.g4
  refine lv_aload_n hx hb dX5_openFor_0 rfl (lv_at hl 1 rfl) ?_
  refine k_get (K := RX3) (T := TX3) (N := 15) (v := .int (D 4 i 1)) (w := .int (D 4 i 1)) hx hb fX3 hown hK hW 4 i (hd.lo h_i) (fun _ => rfl) rfl 1 (by decide) (hts (.fieldLink RX5 26 "Crossdockery$Lorry" "isBringing" "Z") (by decide +kernel)) rfl rfl rfl dX5_openFor_1 ?_
  refine lv_if_eq (tgt := 19) hx hb dX5_openFor_4 (by decide) (fun c1 => ?_) (fun c1 => ?_)
  ·
    refine lv_aload_n hx hb dX5_openFor_19 rfl (lv_at hl 0 rfl) ?_
    refine k_get (K := RX5) (T := TX5) (N := 7) (v := .int (D 5 t 2)) (w := .int (D 5 t 2)) hx hb fX5 hown hK hW 5 t (hd.tr h_t) (fun _ => rfl) rfl 2 (by decide) (hts (.fieldLink RX5 22 "Crossdockery$Transfer" "units" "I") (by decide +kernel)) rfl rfl rfl dX5_openFor_20 ?_
    refine lv_aload_n hx hb dX5_openFor_23 rfl (lv_at hl 0 rfl) ?_
    refine k_get (K := RX5) (T := TX5) (N := 7) (v := .int (D 5 t 5)) (w := .int (D 5 t 5)) hx hb fX5 hown hK hW 5 t (hd.tr h_t) (fun _ => rfl) rfl 5 (by decide) (hts (.fieldLink RX5 35 "Crossdockery$Transfer" "loaded" "I") (by decide +kernel)) rfl rfl rfl dX5_openFor_24 ?_
    refine lv_isub hx hb dX5_openFor_27 ?_
    have e9 : (s_X5_openFor D t i) = (D 5 t 2) - (D 5 t 5) := by unfold s_X5_openFor; first | done | (simp only [if_pos c1]; done) | rfl
    exact k_iret hx hb hr hlocks (⟨by rw [e9], hW⟩) hL dX5_openFor_28
  ·
    refine lv_aload_n hx hb dX5_openFor_7 rfl (lv_at hl 0 rfl) ?_
    refine k_get (K := RX5) (T := TX5) (N := 7) (v := .int (D 5 t 2)) (w := .int (D 5 t 2)) hx hb fX5 hown hK hW 5 t (hd.tr h_t) (fun _ => rfl) rfl 2 (by decide) (hts (.fieldLink RX5 22 "Crossdockery$Transfer" "units" "I") (by decide +kernel)) rfl rfl rfl dX5_openFor_8 ?_
    refine lv_aload_n hx hb dX5_openFor_11 rfl (lv_at hl 0 rfl) ?_
    refine k_get (K := RX5) (T := TX5) (N := 7) (v := .int (D 5 t 3)) (w := .int (D 5 t 3)) hx hb fX5 hown hK hW 5 t (hd.tr h_t) (fun _ => rfl) rfl 3 (by decide) (hts (.fieldLink RX5 32 "Crossdockery$Transfer" "unloaded" "I") (by decide +kernel)) rfl rfl rfl dX5_openFor_12 ?_
    refine lv_isub hx hb dX5_openFor_15 ?_
    refine lv_goto (tgt := 28) hx hb dX5_openFor_16 (by decide) ?_
    have e9 : (s_X5_openFor D t i) = (D 5 t 2) - (D 5 t 3) := by unfold s_X5_openFor; first | done | (simp only [if_neg c1]; done) | rfl
    exact k_iret hx hb hr hlocks (⟨by rw [e9], hW⟩) hL dX5_openFor_28
def s_X5_way (D : KD) (t : Nat) : Int32 := (D 5 t 2) * (s_X6_difference (D 4 ((D 5 t 0).toNatClampNeg) 4) (D 4 ((D 5 t 1).toNatClampNeg) 4))
set_option maxHeartbeats 4000000 in
set_option maxRecDepth 100000 in
theorem c_X5_way (X : kX) (l : Launch) {n : Nat → Nat → Nat} {ad L : Nat → Nat → Nat → Nat} {C : Nat → Nat → Nat → Nat → Int32} {fr : Nat → Option Cell} {g : Nat} {nl nt ng : Nat} (hd : kDk n g nl nt ng) (D : KD) (hwf : cWF D nl nt) (t : Nat) (h_t : t < nt) : k_M X l yX5_way wsX5_way ({ frames := 2, cells := 0, slots := 0, locals := 33 }) [.ref (ad g 5 t)] (k_W X n ad L (k_g C g D) fr) (fun v H => v = some (.int (s_X5_way D t)) ∧ k_W X n ad L (k_g C g D) fr H) 0 0 := by
  refine k_M.of (cc := cX5_way) (maxL := 1) (ret := (some .int)) (by decide) rfl (Nat.le_of_ble_eq_true rfl) ?_
  intro p e s m args below meth c ls hx hb hr hml hown hts hlocks hnm hK hW hl
  have hL : ∀ q ∈ ([] : List Loc), k_B X ≤ q.base := fun _ h => nomatch h
  have hl : lv_has ls 1 [(0, .ref (ad g 5 t))] := hl
  have fX5 : ∀ w ∈ u_ws RX5 TX5 7, w.before args s = true := fun w h => hts w ((by decide +kernel : ∀ w ∈ u_ws RX5 TX5 7, w ∈ wsX5_way) w h)
  have fX3 : ∀ w ∈ u_ws RX3 TX3 15, w.before args s = true := fun w h => hts w ((by decide +kernel : ∀ w ∈ u_ws RX3 TX3 15, w ∈ wsX5_way) w h)
  have hl8 := hd.l8
  have ht16 := hd.t16
  have hg4 := hd.g4
  refine lv_aload_n hx hb dX5_way_0 rfl (lv_at hl 0 rfl) ?_
  refine k_get (K := RX5) (T := TX5) (N := 7) (v := .int (D 5 t 2)) (w := .int (D 5 t 2)) hx hb fX5 hown hK hW 5 t (hd.tr h_t) (fun _ => rfl) rfl 2 (by decide) (hts (.fieldLink RX5 22 "Crossdockery$Transfer" "units" "I") (by decide +kernel)) rfl rfl rfl dX5_way_1 ?_
  refine lv_aload_n hx hb dX5_way_4 rfl (lv_at hl 0 rfl) ?_
  refine k_get (K := RX5) (T := TX5) (N := 7) (v := .ref (ad g 4 ((D 5 t 0).toNatClampNeg))) (w := .ref (ad g 4 ((D 5 t 0).toNatClampNeg))) hx hb fX5 hown hK hW 5 t (hd.tr h_t) (fun _ => rfl) rfl 0 (by decide) (hts (.fieldLink RX5 15 "Crossdockery$Transfer" "from" "LCrossdockery$Lorry;") (by decide +kernel)) rfl rfl rfl dX5_way_5 ?_
  refine k_get (K := RX3) (T := TX3) (N := 15) (v := .int (D 4 ((D 5 t 0).toNatClampNeg) 4)) (w := .int (D 4 ((D 5 t 0).toNatClampNeg) 4)) hx hb fX3 hown hK hW 4 ((D 5 t 0).toNatClampNeg) (hd.lo (hwf.fr h_t)) (fun _ => rfl) rfl 4 (by decide) (hts (.fieldLink RX5 38 "Crossdockery$Lorry" "door" "I") (by decide +kernel)) rfl rfl rfl dX5_way_8 ?_
  refine lv_aload_n hx hb dX5_way_11 rfl (lv_at hl 0 rfl) ?_
  refine k_get (K := RX5) (T := TX5) (N := 7) (v := .ref (ad g 4 ((D 5 t 1).toNatClampNeg))) (w := .ref (ad g 4 ((D 5 t 1).toNatClampNeg))) hx hb fX5 hown hK hW 5 t (hd.tr h_t) (fun _ => rfl) rfl 1 (by decide) (hts (.fieldLink RX5 19 "Crossdockery$Transfer" "to" "LCrossdockery$Lorry;") (by decide +kernel)) rfl rfl rfl dX5_way_12 ?_
  refine k_get (K := RX3) (T := TX3) (N := 15) (v := .int (D 4 ((D 5 t 1).toNatClampNeg) 4)) (w := .int (D 4 ((D 5 t 1).toNatClampNeg) 4)) hx hb fX3 hown hK hW 4 ((D 5 t 1).toNatClampNeg) (hd.lo (hwf.to h_t)) (fun _ => rfl) rfl 4 (by decide) (hts (.fieldLink RX5 38 "Crossdockery$Lorry" "door" "I") (by decide +kernel)) rfl rfl rfl dX5_way_15 ?_
  refine k_callSN (As := [.int (D 4 ((D 5 t 0).toNatClampNeg) 4), .int (D 4 ((D 5 t 1).toNatClampNeg) 4)]) (rest := [.int (D 5 t 2)]) ⟨hx, hb, hml, hown, hts⟩ hK (c_X6_difference X l (k_W X n ad L (k_g C g D) fr) (D 4 ((D 5 t 0).toNatClampNeg) 4) (D 4 ((D 5 t 1).toNatClampNeg) 4)) (va_cnB 2 hts gX5_way_X6_difference_n41 rfl rfl rfl (hK.nest (List.mem_of_getElem? (i := 3) rfl)) (hts (.initialized RX6) (by decide +kernel)) (by decide +kernel) ⟨Nat.le_of_ble_eq_true rfl, Nat.le_of_ble_eq_true rfl⟩) (hts (.static yX6_difference) (by decide +kernel)) hW rfl hl.1 rfl (Nat.le_of_ble_eq_true rfl) dX5_way_18 ⟨Nat.le_of_ble_eq_true rfl, Nat.le_of_ble_eq_true rfl⟩ hL (fun v9 H locs hp hL => ?_)
  obtain ⟨rfl, hW⟩ := hp
  refine lv_imul hx hb dX5_way_21 ?_
  have e9 : (s_X5_way D t) = (D 5 t 2) * (s_X6_difference (D 4 ((D 5 t 0).toNatClampNeg) 4) (D 4 ((D 5 t 1).toNatClampNeg) 4)) := by unfold s_X5_way; first | done | rfl
  exact k_iret hx hb hr hlocks (⟨by rw [e9], hW⟩) hL dX5_way_22
def s_X5_unload (D : KD) (t : Nat) (mo : Int32) : KD × Int32 := (if (s_X6_difference (D 4 ((D 5 t 0).toNatClampNeg) 4) (D 4 ((D 5 t 1).toNatClampNeg) 4)) < 0 then (D, 0) else (if (s_X6_difference (D 4 ((D 5 t 0).toNatClampNeg) 4) (D 4 ((D 5 t 1).toNatClampNeg) 4)) < 4 then (k_d (k_d D 5 t 3 ((D 5 t 3) + (if (D 5 t 2) - (D 5 t 3) < mo then (D 5 t 2) - (D 5 t 3) else mo))) 8 t ((s_X6_difference (D 4 ((D 5 t 0).toNatClampNeg) 4) (D 4 ((D 5 t 1).toNatClampNeg) 4)).toNatClampNeg) ((D 8 t ((s_X6_difference (D 4 ((D 5 t 0).toNatClampNeg) 4) (D 4 ((D 5 t 1).toNatClampNeg) 4)).toNatClampNeg)) + (if (D 5 t 2) - (D 5 t 3) < mo then (D 5 t 2) - (D 5 t 3) else mo)), (if (D 5 t 2) - (D 5 t 3) < mo then (D 5 t 2) - (D 5 t 3) else mo)) else (D, 0)))
set_option maxHeartbeats 4000000 in
set_option maxRecDepth 100000 in
theorem c_X5_unload (X : kX) (l : Launch) {n : Nat → Nat → Nat} {ad L : Nat → Nat → Nat → Nat} {C : Nat → Nat → Nat → Nat → Int32} {fr : Nat → Option Cell} {g : Nat} {nl nt ng : Nat} (hd : kDk n g nl nt ng) (D : KD) (hwf : cWF D nl nt) (t : Nat) (h_t : t < nt) (mo : Int32) : k_M X l yX5_unload wsX5_unload ({ frames := 2, cells := 0, slots := 0, locals := 33 }) [.ref (ad g 5 t), .int mo] (k_W X n ad L (k_g C g D) fr) (fun v H => v = some (.int ((s_X5_unload D t mo).2)) ∧ k_W X n ad L (k_g C g ((s_X5_unload D t mo).1)) fr H) 0 0 := by
  refine k_M.of (cc := cX5_unload) (maxL := 4) (ret := (some .int)) (by decide) rfl (Nat.le_of_ble_eq_true rfl) ?_
  intro p e s m args below meth c ls hx hb hr hml hown hts hlocks hnm hK hW hl
  have hL : ∀ q ∈ ([] : List Loc), k_B X ≤ q.base := fun _ h => nomatch h
  have hl : lv_has ls 4 [(0, .ref (ad g 5 t)), (1, .int mo)] := hl
  have fX5 : ∀ w ∈ u_ws RX5 TX5 7, w.before args s = true := fun w h => hts w ((by decide +kernel : ∀ w ∈ u_ws RX5 TX5 7, w ∈ wsX5_unload) w h)
  have fX3 : ∀ w ∈ u_ws RX3 TX3 15, w.before args s = true := fun w h => hts w ((by decide +kernel : ∀ w ∈ u_ws RX3 TX3 15, w ∈ wsX5_unload) w h)
  have hl8 := hd.l8
  have ht16 := hd.t16
  have hg4 := hd.g4
  refine lv_aload_n hx hb dX5_unload_0 rfl (lv_at hl 0 rfl) ?_
  refine k_get (K := RX5) (T := TX5) (N := 7) (v := .ref (ad g 4 ((D 5 t 0).toNatClampNeg))) (w := .ref (ad g 4 ((D 5 t 0).toNatClampNeg))) hx hb fX5 hown hK hW 5 t (hd.tr h_t) (fun _ => rfl) rfl 0 (by decide) (hts (.fieldLink RX5 15 "Crossdockery$Transfer" "from" "LCrossdockery$Lorry;") (by decide +kernel)) rfl rfl rfl dX5_unload_1 ?_
  refine k_get (K := RX3) (T := TX3) (N := 15) (v := .int (D 4 ((D 5 t 0).toNatClampNeg) 4)) (w := .int (D 4 ((D 5 t 0).toNatClampNeg) 4)) hx hb fX3 hown hK hW 4 ((D 5 t 0).toNatClampNeg) (hd.lo (hwf.fr h_t)) (fun _ => rfl) rfl 4 (by decide) (hts (.fieldLink RX5 38 "Crossdockery$Lorry" "door" "I") (by decide +kernel)) rfl rfl rfl dX5_unload_4 ?_
  refine lv_aload_n hx hb dX5_unload_7 rfl (lv_at hl 0 rfl) ?_
  refine k_get (K := RX5) (T := TX5) (N := 7) (v := .ref (ad g 4 ((D 5 t 1).toNatClampNeg))) (w := .ref (ad g 4 ((D 5 t 1).toNatClampNeg))) hx hb fX5 hown hK hW 5 t (hd.tr h_t) (fun _ => rfl) rfl 1 (by decide) (hts (.fieldLink RX5 19 "Crossdockery$Transfer" "to" "LCrossdockery$Lorry;") (by decide +kernel)) rfl rfl rfl dX5_unload_8 ?_
  refine k_get (K := RX3) (T := TX3) (N := 15) (v := .int (D 4 ((D 5 t 1).toNatClampNeg) 4)) (w := .int (D 4 ((D 5 t 1).toNatClampNeg) 4)) hx hb fX3 hown hK hW 4 ((D 5 t 1).toNatClampNeg) (hd.lo (hwf.to h_t)) (fun _ => rfl) rfl 4 (by decide) (hts (.fieldLink RX5 38 "Crossdockery$Lorry" "door" "I") (by decide +kernel)) rfl rfl rfl dX5_unload_11 ?_
  refine k_callSN (As := [.int (D 4 ((D 5 t 0).toNatClampNeg) 4), .int (D 4 ((D 5 t 1).toNatClampNeg) 4)]) (rest := []) ⟨hx, hb, hml, hown, hts⟩ hK (c_X6_difference X l (k_W X n ad L (k_g C g D) fr) (D 4 ((D 5 t 0).toNatClampNeg) 4) (D 4 ((D 5 t 1).toNatClampNeg) 4)) (va_cnB 2 hts gX5_unload_X6_difference_n41 rfl rfl rfl (hK.nest (List.mem_of_getElem? (i := 3) rfl)) (hts (.initialized RX6) (by decide +kernel)) (by decide +kernel) ⟨Nat.le_of_ble_eq_true rfl, Nat.le_of_ble_eq_true rfl⟩) (hts (.static yX6_difference) (by decide +kernel)) hW rfl hl.1 rfl (Nat.le_of_ble_eq_true rfl) dX5_unload_14 ⟨Nat.le_of_ble_eq_true rfl, Nat.le_of_ble_eq_true rfl⟩ hL (fun v9 H locs hp hL => ?_)
  obtain ⟨rfl, hW⟩ := hp
  refine lv_istore_n (lv' := [(2, .int (s_X6_difference (D 4 ((D 5 t 0).toNatClampNeg) 4) (D 4 ((D 5 t 1).toNatClampNeg) 4))), (0, .ref (ad g 5 t)), (1, .int mo)]) hx hb dX5_unload_17 rfl hl (by decide) rfl (fun ls hl => ?_)
  refine lv_iload_n hx hb dX5_unload_18 rfl (lv_at hl 0 rfl) ?_
  refine lv_if_lt (tgt := 31) hx hb dX5_unload_19 (by decide) (fun c1 => ?_) (fun c1 => ?_)
  ·
    refine lv_iconst (v := 0) hx hb dX5_unload_31 (by decide) ?_
    have e9 : (s_X5_unload D t mo) = (D, 0) := by unfold s_X5_unload; first | done | (simp only [if_pos c1]; done) | rfl
    exact k_iret hx hb hr hlocks (⟨by rw [e9], by rw [e9]; exact hW⟩) hL dX5_unload_32
  ·
    refine lv_iload_n hx hb dX5_unload_22 rfl (lv_at hl 0 rfl) ?_
    refine lv_aload_n hx hb dX5_unload_23 rfl (lv_at hl 1 rfl) ?_
    refine k_get (K := RX5) (T := TX5) (N := 7) (v := .ref (ad g 8 t)) (w := .ref (ad g 8 t)) hx hb fX5 hown hK hW 5 t (hd.tr h_t) (fun _ => rfl) rfl 6 (by decide) (hts (.fieldLink RX5 9 "Crossdockery$Transfer" "coming" "[I") (by decide +kernel)) rfl rfl rfl dX5_unload_24 ?_
    refine k_alen (t0 := 0) (v := 4) hx hb hK hW 8 t (hd.co h_t) (fun _ => rfl) rfl rfl dX5_unload_27 ?_
    refine lv_icmp_lt (tgt := 33) hx hb dX5_unload_28 (by decide) (fun c2 => ?_) (fun c2 => ?_)
    ·
      have hin_1 := vp_in_of_lt (N := 4) (by decide) c1 (show (s_X6_difference (D 4 ((D 5 t 0).toNatClampNeg) 4) (D 4 ((D 5 t 1).toNatClampNeg) 4)) < nI 4 from c2)
      refine lv_iload_n hx hb dX5_unload_33 rfl (lv_at hl 2 rfl) ?_
      refine lv_aload_n hx hb dX5_unload_34 rfl (lv_at hl 1 rfl) ?_
      refine k_get (K := RX5) (T := TX5) (N := 7) (v := .int (D 5 t 2)) (w := .int (D 5 t 2)) hx hb fX5 hown hK hW 5 t (hd.tr h_t) (fun _ => rfl) rfl 2 (by decide) (hts (.fieldLink RX5 22 "Crossdockery$Transfer" "units" "I") (by decide +kernel)) rfl rfl rfl dX5_unload_35 ?_
      refine lv_aload_n hx hb dX5_unload_38 rfl (lv_at hl 1 rfl) ?_
      refine k_get (K := RX5) (T := TX5) (N := 7) (v := .int (D 5 t 3)) (w := .int (D 5 t 3)) hx hb fX5 hown hK hW 5 t (hd.tr h_t) (fun _ => rfl) rfl 3 (by decide) (hts (.fieldLink RX5 32 "Crossdockery$Transfer" "unloaded" "I") (by decide +kernel)) rfl rfl rfl dX5_unload_39 ?_
      refine lv_isub hx hb dX5_unload_42 ?_
      refine va_mmin hx hb (by rw [hml]; exact hl.1.symm) hown (hts (.methodLink RX5 45 Lib.Math.min.name) (by decide +kernel)) (hts (.static Lib.Math.min.name) (by decide +kernel)) (hts (.initialized "java/lang/Math") (by decide +kernel)) (hts (.code Lib.Math.min.name Lib.Math.min.code 2 (some .int)) (by decide +kernel)) (Nat.le_of_ble_eq_true rfl) (Nat.le_of_ble_eq_true rfl) (Nat.le_of_ble_eq_true rfl) (Nat.le_of_ble_eq_true rfl) dX5_unload_43 ?_
      refine lv_istore_n (lv' := [(3, .int (if (D 5 t 2) - (D 5 t 3) < mo then (D 5 t 2) - (D 5 t 3) else mo)), (2, .int (s_X6_difference (D 4 ((D 5 t 0).toNatClampNeg) 4) (D 4 ((D 5 t 1).toNatClampNeg) 4))), (0, .ref (ad g 5 t)), (1, .int mo)]) hx hb dX5_unload_46 rfl hl (by decide) rfl (fun ls hl => ?_)
      refine lv_aload_n hx hb dX5_unload_47 rfl (lv_at hl 2 rfl) ?_
      refine lv_dup hx hb dX5_unload_48 rfl ?_
      refine k_get (K := RX5) (T := TX5) (N := 7) (v := .int (D 5 t 3)) (w := .int (D 5 t 3)) hx hb fX5 hown hK hW 5 t (hd.tr h_t) (fun _ => rfl) rfl 3 (by decide) (hts (.fieldLink RX5 32 "Crossdockery$Transfer" "unloaded" "I") (by decide +kernel)) rfl rfl rfl dX5_unload_49 ?_
      refine lv_iload_n hx hb dX5_unload_52 rfl (lv_at hl 0 rfl) ?_
      refine lv_iadd hx hb dX5_unload_53 ?_
      refine k_put (K := RX5) (T := TX5) (N := 7) (x := ((D 5 t 3) + (if (D 5 t 2) - (D 5 t 3) < mo then (D 5 t 2) - (D 5 t 3) else mo))) hx hb fX5 tyX5 tyX5_ok nmX5 hown hK hW hL 5 t (hd.tr h_t) (fun _ => rfl) rfl 3 (by decide) (hts (.fieldLink RX5 32 "Crossdockery$Transfer" "unloaded" "I") (by decide +kernel)) rfl rfl rfl rfl (fun _ => Nat.le_of_ble_eq_true rfl) (fun _ _ => rfl) dX5_unload_54 (fun H locs hW hL => ?_)
      refine lv_aload_n hx hb dX5_unload_57 rfl (lv_at hl 2 rfl) ?_
      refine k_get (K := RX5) (T := TX5) (N := 7) (v := .ref (ad g 8 t)) (w := .ref (ad g 8 t)) hx hb fX5 hown hK hW 5 t (hd.tr h_t) (fun _ => rfl) rfl 6 (by decide) (hts (.fieldLink RX5 9 "Crossdockery$Transfer" "coming" "[I") (by decide +kernel)) rfl rfl rfl dX5_unload_58 ?_
      refine lv_iload_n hx hb dX5_unload_61 rfl (lv_at hl 1 rfl) ?_
      refine lv_dup2_11 hx hb dX5_unload_62 rfl rfl ?_
      refine k_iald (z := 4) (k := ((s_X6_difference (D 4 ((D 5 t 0).toNatClampNeg) 4) (D 4 ((D 5 t 1).toNatClampNeg) 4)).toNatClampNeg)) hx hb hK hW 8 t (hd.co h_t) (fun _ => rfl) rfl (by assumption) (v := (D 8 t ((s_X6_difference (D 4 ((D 5 t 0).toNatClampNeg) 4) (D 4 ((D 5 t 1).toNatClampNeg) 4)).toNatClampNeg))) (k_dr rfl) dX5_unload_63 ?_
      refine lv_iload_n hx hb dX5_unload_64 rfl (lv_at hl 0 rfl) ?_
      refine lv_iadd hx hb dX5_unload_65 ?_
      refine k_iast (z := 4) (k := ((s_X6_difference (D 4 ((D 5 t 0).toNatClampNeg) 4) (D 4 ((D 5 t 1).toNatClampNeg) 4)).toNatClampNeg)) hx hb hK hW hL 8 t (hd.co h_t) (fun _ => rfl) rfl (by assumption) dX5_unload_66 (fun H locs hW hL => ?_)
      refine lv_iload_n hx hb dX5_unload_67 rfl (lv_at hl 0 rfl) ?_
      have e9 : (s_X5_unload D t mo) = (k_d (k_d D 5 t 3 ((D 5 t 3) + (if (D 5 t 2) - (D 5 t 3) < mo then (D 5 t 2) - (D 5 t 3) else mo))) 8 t ((s_X6_difference (D 4 ((D 5 t 0).toNatClampNeg) 4) (D 4 ((D 5 t 1).toNatClampNeg) 4)).toNatClampNeg) ((D 8 t ((s_X6_difference (D 4 ((D 5 t 0).toNatClampNeg) 4) (D 4 ((D 5 t 1).toNatClampNeg) 4)).toNatClampNeg)) + (if (D 5 t 2) - (D 5 t 3) < mo then (D 5 t 2) - (D 5 t 3) else mo)), (if (D 5 t 2) - (D 5 t 3) < mo then (D 5 t 2) - (D 5 t 3) else mo)) := by unfold s_X5_unload; first | done | (simp only [if_neg c1, if_pos c2]; done) | rfl
      exact k_iret hx hb hr hlocks (⟨by rw [e9], by rw [e9]; exact hW⟩) hL dX5_unload_68
    ·
      refine lv_iconst (v := 0) hx hb dX5_unload_31 (by decide) ?_
      have e9 : (s_X5_unload D t mo) = (D, 0) := by unfold s_X5_unload; first | done | (simp only [if_neg c1, if_neg c2]; done) | rfl
      exact k_iret hx hb hr hlocks (⟨by rw [e9], by rw [e9]; exact hW⟩) hL dX5_unload_32
theorem cWF_X5_unload {D : KD} {nl nt ng : Nat} (h : cWF D nl nt) (t : Nat) (mo : Int32) : cWF (s_X5_unload D t mo).1 nl nt := by
  unfold s_X5_unload
  repeat' split
  all_goals repeat (first | exact h | refine cWF.put ?_ ⟨by decide, Or.inl (by decide)⟩ | refine cWF.put ?_ ⟨by decide, Or.inr (by decide)⟩)
def s_X5_load (D : KD) (t : Nat) (mo : Int32) : KD × Int32 := (k_d (k_d D 5 t 4 ((D 5 t 4) - (if D 5 t 4 < mo then D 5 t 4 else mo))) 5 t 5 ((D 5 t 5) + (if D 5 t 4 < mo then D 5 t 4 else mo)), (if D 5 t 4 < mo then D 5 t 4 else mo))
set_option maxHeartbeats 4000000 in
set_option maxRecDepth 100000 in
theorem c_X5_load (X : kX) (l : Launch) {n : Nat → Nat → Nat} {ad L : Nat → Nat → Nat → Nat} {C : Nat → Nat → Nat → Nat → Int32} {fr : Nat → Option Cell} {g : Nat} {nl nt ng : Nat} (hd : kDk n g nl nt ng) (D : KD) (t : Nat) (h_t : t < nt) (mo : Int32) : k_M X l yX5_load wsX5_load ({ frames := 1, cells := 0, slots := 0, locals := 21 }) [.ref (ad g 5 t), .int mo] (k_W X n ad L (k_g C g D) fr) (fun v H => v = some (.int ((s_X5_load D t mo).2)) ∧ k_W X n ad L (k_g C g ((s_X5_load D t mo).1)) fr H) 0 0 := by
  refine k_M.of (cc := cX5_load) (maxL := 3) (ret := (some .int)) (by decide) rfl (Nat.le_of_ble_eq_true rfl) ?_
  intro p e s m args below meth c ls hx hb hr hml hown hts hlocks hnm hK hW hl
  have hL : ∀ q ∈ ([] : List Loc), k_B X ≤ q.base := fun _ h => nomatch h
  have hl : lv_has ls 3 [(0, .ref (ad g 5 t)), (1, .int mo)] := hl
  have fX5 : ∀ w ∈ u_ws RX5 TX5 7, w.before args s = true := fun w h => hts w ((by decide +kernel : ∀ w ∈ u_ws RX5 TX5 7, w ∈ wsX5_load) w h)
  have hl8 := hd.l8
  have ht16 := hd.t16
  have hg4 := hd.g4
  refine lv_iload_n hx hb dX5_load_0 rfl (lv_at hl 1 rfl) ?_
  refine lv_aload_n hx hb dX5_load_1 rfl (lv_at hl 0 rfl) ?_
  refine k_get (K := RX5) (T := TX5) (N := 7) (v := .int (D 5 t 4)) (w := .int (D 5 t 4)) hx hb fX5 hown hK hW 5 t (hd.tr h_t) (fun _ => rfl) rfl 4 (by decide) (hts (.fieldLink RX5 50 "Crossdockery$Transfer" "ready" "I") (by decide +kernel)) rfl rfl rfl dX5_load_2 ?_
  refine va_mmin hx hb (by rw [hml]; exact hl.1.symm) hown (hts (.methodLink RX5 45 Lib.Math.min.name) (by decide +kernel)) (hts (.static Lib.Math.min.name) (by decide +kernel)) (hts (.initialized "java/lang/Math") (by decide +kernel)) (hts (.code Lib.Math.min.name Lib.Math.min.code 2 (some .int)) (by decide +kernel)) (Nat.le_of_ble_eq_true rfl) (Nat.le_of_ble_eq_true rfl) (Nat.le_of_ble_eq_true rfl) (Nat.le_of_ble_eq_true rfl) dX5_load_5 ?_
  refine lv_istore_n (lv' := [(2, .int (if D 5 t 4 < mo then D 5 t 4 else mo)), (0, .ref (ad g 5 t)), (1, .int mo)]) hx hb dX5_load_8 rfl hl (by decide) rfl (fun ls hl => ?_)
  refine lv_aload_n hx hb dX5_load_9 rfl (lv_at hl 1 rfl) ?_
  refine lv_dup hx hb dX5_load_10 rfl ?_
  refine k_get (K := RX5) (T := TX5) (N := 7) (v := .int (D 5 t 4)) (w := .int (D 5 t 4)) hx hb fX5 hown hK hW 5 t (hd.tr h_t) (fun _ => rfl) rfl 4 (by decide) (hts (.fieldLink RX5 50 "Crossdockery$Transfer" "ready" "I") (by decide +kernel)) rfl rfl rfl dX5_load_11 ?_
  refine lv_iload_n hx hb dX5_load_14 rfl (lv_at hl 0 rfl) ?_
  refine lv_isub hx hb dX5_load_15 ?_
  refine k_put (K := RX5) (T := TX5) (N := 7) (x := ((D 5 t 4) - (if D 5 t 4 < mo then D 5 t 4 else mo))) hx hb fX5 tyX5 tyX5_ok nmX5 hown hK hW hL 5 t (hd.tr h_t) (fun _ => rfl) rfl 4 (by decide) (hts (.fieldLink RX5 50 "Crossdockery$Transfer" "ready" "I") (by decide +kernel)) rfl rfl rfl rfl (fun _ => Nat.le_of_ble_eq_true rfl) (fun _ _ => rfl) dX5_load_16 (fun H locs hW hL => ?_)
  refine lv_aload_n hx hb dX5_load_19 rfl (lv_at hl 1 rfl) ?_
  refine lv_dup hx hb dX5_load_20 rfl ?_
  refine k_get (K := RX5) (T := TX5) (N := 7) (v := .int ((k_d D 5 t 4 ((D 5 t 4) - (if D 5 t 4 < mo then D 5 t 4 else mo))) 5 t 5)) (w := .int (D 5 t 5)) hx hb fX5 hown hK hW 5 t (hd.tr h_t) (fun _ => rfl) rfl 5 (by decide) (hts (.fieldLink RX5 35 "Crossdockery$Transfer" "loaded" "I") (by decide +kernel)) rfl rfl (congrArg Value.int (k_dk rfl)) dX5_load_21 ?_
  refine lv_iload_n hx hb dX5_load_24 rfl (lv_at hl 0 rfl) ?_
  refine lv_iadd hx hb dX5_load_25 ?_
  refine k_put (K := RX5) (T := TX5) (N := 7) (x := ((D 5 t 5) + (if D 5 t 4 < mo then D 5 t 4 else mo))) hx hb fX5 tyX5 tyX5_ok nmX5 hown hK hW hL 5 t (hd.tr h_t) (fun _ => rfl) rfl 5 (by decide) (hts (.fieldLink RX5 35 "Crossdockery$Transfer" "loaded" "I") (by decide +kernel)) rfl rfl rfl rfl (fun _ => Nat.le_of_ble_eq_true rfl) (fun _ _ => rfl) dX5_load_26 (fun H locs hW hL => ?_)
  refine lv_iload_n hx hb dX5_load_29 rfl (lv_at hl 0 rfl) ?_
  have e9 : (s_X5_load D t mo) = (k_d (k_d D 5 t 4 ((D 5 t 4) - (if D 5 t 4 < mo then D 5 t 4 else mo))) 5 t 5 ((D 5 t 5) + (if D 5 t 4 < mo then D 5 t 4 else mo)), (if D 5 t 4 < mo then D 5 t 4 else mo)) := by unfold s_X5_load; first | done | rfl
  exact k_iret hx hb hr hlocks (⟨by rw [e9], by rw [e9]; exact hW⟩) hL dX5_load_30
theorem cWF_X5_load {D : KD} {nl nt ng : Nat} (h : cWF D nl nt) (t : Nat) (mo : Int32) : cWF (s_X5_load D t mo).1 nl nt := by
  unfold s_X5_load
  repeat' split
  all_goals repeat (first | exact h | refine cWF.put ?_ ⟨by decide, Or.inl (by decide)⟩ | refine cWF.put ?_ ⟨by decide, Or.inr (by decide)⟩)
def s_X5_endMinute (D : KD) (t : Nat) : KD := k_d (k_d (k_d (k_d (k_d D 8 t 3 0) 8 t 2 (D 8 t 3)) 8 t 1 (D 8 t 2)) 8 t 0 (D 8 t 1)) 5 t 4 ((D 5 t 4) + (D 8 t 0))
set_option maxHeartbeats 4000000 in
set_option maxRecDepth 100000 in
theorem c_X5_endMinute (X : kX) (l : Launch) {n : Nat → Nat → Nat} {ad L : Nat → Nat → Nat → Nat} {C : Nat → Nat → Nat → Nat → Int32} {fr : Nat → Option Cell} {g : Nat} {nl nt ng : Nat} (hd : kDk n g nl nt ng) (D : KD) (t : Nat) (h_t : t < nt) : k_M X l yX5_endMinute wsX5_endMinute ({ frames := 1, cells := 0, slots := 0, locals := 12 }) [.ref (ad g 5 t)] (k_W X n ad L (k_g C g D) fr) (fun v H => v = none ∧ k_W X n ad L (k_g C g (s_X5_endMinute D t)) fr H) 0 0 := by
  refine k_M.of (cc := cX5_endMinute) (maxL := 4) (ret := none) (by decide) rfl (Nat.le_of_ble_eq_true rfl) ?_
  intro p e s m args below meth c ls hx hb hr hml hown hts hlocks hnm hK hW hl
  have hL : ∀ q ∈ ([] : List Loc), k_B X ≤ q.base := fun _ h => nomatch h
  have hl : lv_has ls 4 [(0, .ref (ad g 5 t))] := hl
  have fX5 : ∀ w ∈ u_ws RX5 TX5 7, w.before args s = true := fun w h => hts w ((by decide +kernel : ∀ w ∈ u_ws RX5 TX5 7, w ∈ wsX5_endMinute) w h)
  have hl8 := hd.l8
  have ht16 := hd.t16
  have hg4 := hd.g4
  refine lv_iconst (v := 0) hx hb dX5_endMinute_0 (by decide) ?_
  refine lv_istore_n (lv' := [(1, .int 0), (0, .ref (ad g 5 t))]) hx hb dX5_endMinute_1 rfl hl (by decide) rfl (fun ls hl => ?_)
  refine lv_aload_n hx hb dX5_endMinute_2 rfl (lv_at hl 1 rfl) ?_
  refine k_get (K := RX5) (T := TX5) (N := 7) (v := .ref (ad g 8 t)) (w := .ref (ad g 8 t)) hx hb fX5 hown hK hW 5 t (hd.tr h_t) (fun _ => rfl) rfl 6 (by decide) (hts (.fieldLink RX5 9 "Crossdockery$Transfer" "coming" "[I") (by decide +kernel)) rfl rfl rfl dX5_endMinute_3 ?_
  refine k_alen (t0 := 0) (v := 4) hx hb hK hW 8 t (hd.co h_t) (fun _ => rfl) rfl rfl dX5_endMinute_6 ?_
  refine lv_iconst (v := 1) hx hb dX5_endMinute_7 (by decide) ?_
  refine lv_isub hx hb dX5_endMinute_8 ?_
  refine lv_istore_n (lv' := [(2, .int (4 - 1)), (1, .int 0), (0, .ref (ad g 5 t))]) hx hb dX5_endMinute_9 rfl hl (by decide) rfl (fun ls hl => ?_)
  refine lv_iload_n hx hb dX5_endMinute_10 rfl (lv_at hl 0 rfl) ?_
  refine lv_if_lt (tgt := 36) hx hb dX5_endMinute_11 (by decide) (fun c1 => ?_) (fun c1 => ?_)
  ·
    exact absurd c1 (by decide)
  ·
    refine lv_aload_n hx hb dX5_endMinute_14 rfl (lv_at hl 2 rfl) ?_
    refine k_get (K := RX5) (T := TX5) (N := 7) (v := .ref (ad g 8 t)) (w := .ref (ad g 8 t)) hx hb fX5 hown hK hW 5 t (hd.tr h_t) (fun _ => rfl) rfl 6 (by decide) (hts (.fieldLink RX5 9 "Crossdockery$Transfer" "coming" "[I") (by decide +kernel)) rfl rfl rfl dX5_endMinute_15 ?_
    refine lv_iload_n hx hb dX5_endMinute_18 rfl (lv_at hl 0 rfl) ?_
    refine k_iald (z := 4) (k := 3) hx hb hK hW 8 t (hd.co h_t) (fun _ => rfl) (by decide) (by unfold vp_in; decide) (v := (D 8 t 3)) rfl dX5_endMinute_19 ?_
    refine lv_istore_n (lv' := [(3, .int (D 8 t 3)), (2, .int (4 - 1)), (1, .int 0), (0, .ref (ad g 5 t))]) hx hb dX5_endMinute_20 rfl hl (by decide) rfl (fun ls hl => ?_)
    refine lv_aload_n hx hb dX5_endMinute_21 rfl (lv_at hl 3 rfl) ?_
    refine k_get (K := RX5) (T := TX5) (N := 7) (v := .ref (ad g 8 t)) (w := .ref (ad g 8 t)) hx hb fX5 hown hK hW 5 t (hd.tr h_t) (fun _ => rfl) rfl 6 (by decide) (hts (.fieldLink RX5 9 "Crossdockery$Transfer" "coming" "[I") (by decide +kernel)) rfl rfl rfl dX5_endMinute_22 ?_
    refine lv_iload_n hx hb dX5_endMinute_25 rfl (lv_at hl 1 rfl) ?_
    refine lv_iload_n hx hb dX5_endMinute_26 rfl (lv_at hl 2 rfl) ?_
    refine k_iast (z := 4) (k := 3) hx hb hK hW hL 8 t (hd.co h_t) (fun _ => rfl) (by decide) (by unfold vp_in; decide) dX5_endMinute_27 (fun H locs hW hL => ?_)
    refine lv_iload_n hx hb dX5_endMinute_28 rfl (lv_at hl 0 rfl) ?_
    refine lv_istore_n (lv' := [(1, .int (D 8 t 3)), (3, .int (D 8 t 3)), (2, .int (4 - 1)), (0, .ref (ad g 5 t))]) hx hb dX5_endMinute_29 rfl hl (by decide) rfl (fun ls hl => ?_)
    refine lv_iinc (v := ((4 - 1) + (-1))) (k := 2) (lv' := [(2, .int ((4 - 1) + (-1))), (1, .int (D 8 t 3)), (3, .int (D 8 t 3)), (0, .ref (ad g 5 t))]) hx hb dX5_endMinute_30 hl rfl (rfl) (by decide) rfl (fun ls hl => ?_)
    refine lv_goto (tgt := 10) hx hb dX5_endMinute_33 (by decide) ?_
    refine lv_iload_n hx hb dX5_endMinute_10 rfl (lv_at hl 0 rfl) ?_
    refine lv_if_lt (tgt := 36) hx hb dX5_endMinute_11 (by decide) (fun c2 => ?_) (fun c2 => ?_)
    ·
      exact absurd c2 (by decide)
    ·
      refine lv_aload_n hx hb dX5_endMinute_14 rfl (lv_at hl 3 rfl) ?_
      refine k_get (K := RX5) (T := TX5) (N := 7) (v := .ref (ad g 8 t)) (w := .ref (ad g 8 t)) hx hb fX5 hown hK hW 5 t (hd.tr h_t) (fun _ => rfl) rfl 6 (by decide) (hts (.fieldLink RX5 9 "Crossdockery$Transfer" "coming" "[I") (by decide +kernel)) rfl rfl rfl dX5_endMinute_15 ?_
      refine lv_iload_n hx hb dX5_endMinute_18 rfl (lv_at hl 0 rfl) ?_
      refine k_iald (z := 4) (k := 2) hx hb hK hW 8 t (hd.co h_t) (fun _ => rfl) (by decide) (by unfold vp_in; decide) (v := (D 8 t 2)) (k_dk rfl) dX5_endMinute_19 ?_
      refine lv_istore_n (lv' := [(3, .int (D 8 t 2)), (2, .int ((4 - 1) + (-1))), (1, .int (D 8 t 3)), (0, .ref (ad g 5 t))]) hx hb dX5_endMinute_20 rfl hl (by decide) rfl (fun ls hl => ?_)
      refine lv_aload_n hx hb dX5_endMinute_21 rfl (lv_at hl 3 rfl) ?_
      refine k_get (K := RX5) (T := TX5) (N := 7) (v := .ref (ad g 8 t)) (w := .ref (ad g 8 t)) hx hb fX5 hown hK hW 5 t (hd.tr h_t) (fun _ => rfl) rfl 6 (by decide) (hts (.fieldLink RX5 9 "Crossdockery$Transfer" "coming" "[I") (by decide +kernel)) rfl rfl rfl dX5_endMinute_22 ?_
      refine lv_iload_n hx hb dX5_endMinute_25 rfl (lv_at hl 1 rfl) ?_
      refine lv_iload_n hx hb dX5_endMinute_26 rfl (lv_at hl 2 rfl) ?_
      refine k_iast (z := 4) (k := 2) hx hb hK hW hL 8 t (hd.co h_t) (fun _ => rfl) (by decide) (by unfold vp_in; decide) dX5_endMinute_27 (fun H locs hW hL => ?_)
      refine lv_iload_n hx hb dX5_endMinute_28 rfl (lv_at hl 0 rfl) ?_
      refine lv_istore_n (lv' := [(1, .int (D 8 t 2)), (3, .int (D 8 t 2)), (2, .int ((4 - 1) + (-1))), (0, .ref (ad g 5 t))]) hx hb dX5_endMinute_29 rfl hl (by decide) rfl (fun ls hl => ?_)
      refine lv_iinc (v := (((4 - 1) + (-1)) + (-1))) (k := 2) (lv' := [(2, .int (((4 - 1) + (-1)) + (-1))), (1, .int (D 8 t 2)), (3, .int (D 8 t 2)), (0, .ref (ad g 5 t))]) hx hb dX5_endMinute_30 hl rfl (rfl) (by decide) rfl (fun ls hl => ?_)
      refine lv_goto (tgt := 10) hx hb dX5_endMinute_33 (by decide) ?_
      refine lv_iload_n hx hb dX5_endMinute_10 rfl (lv_at hl 0 rfl) ?_
      refine lv_if_lt (tgt := 36) hx hb dX5_endMinute_11 (by decide) (fun c3 => ?_) (fun c3 => ?_)
      ·
        exact absurd c3 (by decide)
      ·
        refine lv_aload_n hx hb dX5_endMinute_14 rfl (lv_at hl 3 rfl) ?_
        refine k_get (K := RX5) (T := TX5) (N := 7) (v := .ref (ad g 8 t)) (w := .ref (ad g 8 t)) hx hb fX5 hown hK hW 5 t (hd.tr h_t) (fun _ => rfl) rfl 6 (by decide) (hts (.fieldLink RX5 9 "Crossdockery$Transfer" "coming" "[I") (by decide +kernel)) rfl rfl rfl dX5_endMinute_15 ?_
        refine lv_iload_n hx hb dX5_endMinute_18 rfl (lv_at hl 0 rfl) ?_
        refine k_iald (z := 4) (k := 1) hx hb hK hW 8 t (hd.co h_t) (fun _ => rfl) (by decide) (by unfold vp_in; decide) (v := (D 8 t 1)) ((k_dk rfl).trans (k_dk rfl)) dX5_endMinute_19 ?_
        refine lv_istore_n (lv' := [(3, .int (D 8 t 1)), (2, .int (((4 - 1) + (-1)) + (-1))), (1, .int (D 8 t 2)), (0, .ref (ad g 5 t))]) hx hb dX5_endMinute_20 rfl hl (by decide) rfl (fun ls hl => ?_)
        refine lv_aload_n hx hb dX5_endMinute_21 rfl (lv_at hl 3 rfl) ?_
        refine k_get (K := RX5) (T := TX5) (N := 7) (v := .ref (ad g 8 t)) (w := .ref (ad g 8 t)) hx hb fX5 hown hK hW 5 t (hd.tr h_t) (fun _ => rfl) rfl 6 (by decide) (hts (.fieldLink RX5 9 "Crossdockery$Transfer" "coming" "[I") (by decide +kernel)) rfl rfl rfl dX5_endMinute_22 ?_
        refine lv_iload_n hx hb dX5_endMinute_25 rfl (lv_at hl 1 rfl) ?_
        refine lv_iload_n hx hb dX5_endMinute_26 rfl (lv_at hl 2 rfl) ?_
        refine k_iast (z := 4) (k := 1) hx hb hK hW hL 8 t (hd.co h_t) (fun _ => rfl) (by decide) (by unfold vp_in; decide) dX5_endMinute_27 (fun H locs hW hL => ?_)
        refine lv_iload_n hx hb dX5_endMinute_28 rfl (lv_at hl 0 rfl) ?_
        refine lv_istore_n (lv' := [(1, .int (D 8 t 1)), (3, .int (D 8 t 1)), (2, .int (((4 - 1) + (-1)) + (-1))), (0, .ref (ad g 5 t))]) hx hb dX5_endMinute_29 rfl hl (by decide) rfl (fun ls hl => ?_)
        refine lv_iinc (v := ((((4 - 1) + (-1)) + (-1)) + (-1))) (k := 2) (lv' := [(2, .int ((((4 - 1) + (-1)) + (-1)) + (-1))), (1, .int (D 8 t 1)), (3, .int (D 8 t 1)), (0, .ref (ad g 5 t))]) hx hb dX5_endMinute_30 hl rfl (rfl) (by decide) rfl (fun ls hl => ?_)
        refine lv_goto (tgt := 10) hx hb dX5_endMinute_33 (by decide) ?_
        refine lv_iload_n hx hb dX5_endMinute_10 rfl (lv_at hl 0 rfl) ?_
        refine lv_if_lt (tgt := 36) hx hb dX5_endMinute_11 (by decide) (fun c4 => ?_) (fun c4 => ?_)
        ·
          exact absurd c4 (by decide)
        ·
          refine lv_aload_n hx hb dX5_endMinute_14 rfl (lv_at hl 3 rfl) ?_
          refine k_get (K := RX5) (T := TX5) (N := 7) (v := .ref (ad g 8 t)) (w := .ref (ad g 8 t)) hx hb fX5 hown hK hW 5 t (hd.tr h_t) (fun _ => rfl) rfl 6 (by decide) (hts (.fieldLink RX5 9 "Crossdockery$Transfer" "coming" "[I") (by decide +kernel)) rfl rfl rfl dX5_endMinute_15 ?_
          refine lv_iload_n hx hb dX5_endMinute_18 rfl (lv_at hl 0 rfl) ?_
          refine k_iald (z := 4) (k := 0) hx hb hK hW 8 t (hd.co h_t) (fun _ => rfl) (by decide) (by unfold vp_in; decide) (v := (D 8 t 0)) ((k_dk rfl).trans ((k_dk rfl).trans (k_dk rfl))) dX5_endMinute_19 ?_
          refine lv_istore_n (lv' := [(3, .int (D 8 t 0)), (2, .int ((((4 - 1) + (-1)) + (-1)) + (-1))), (1, .int (D 8 t 1)), (0, .ref (ad g 5 t))]) hx hb dX5_endMinute_20 rfl hl (by decide) rfl (fun ls hl => ?_)
          refine lv_aload_n hx hb dX5_endMinute_21 rfl (lv_at hl 3 rfl) ?_
          refine k_get (K := RX5) (T := TX5) (N := 7) (v := .ref (ad g 8 t)) (w := .ref (ad g 8 t)) hx hb fX5 hown hK hW 5 t (hd.tr h_t) (fun _ => rfl) rfl 6 (by decide) (hts (.fieldLink RX5 9 "Crossdockery$Transfer" "coming" "[I") (by decide +kernel)) rfl rfl rfl dX5_endMinute_22 ?_
          refine lv_iload_n hx hb dX5_endMinute_25 rfl (lv_at hl 1 rfl) ?_
          refine lv_iload_n hx hb dX5_endMinute_26 rfl (lv_at hl 2 rfl) ?_
          refine k_iast (z := 4) (k := 0) hx hb hK hW hL 8 t (hd.co h_t) (fun _ => rfl) (by decide) (by unfold vp_in; decide) dX5_endMinute_27 (fun H locs hW hL => ?_)
          refine lv_iload_n hx hb dX5_endMinute_28 rfl (lv_at hl 0 rfl) ?_
          refine lv_istore_n (lv' := [(1, .int (D 8 t 0)), (3, .int (D 8 t 0)), (2, .int ((((4 - 1) + (-1)) + (-1)) + (-1))), (0, .ref (ad g 5 t))]) hx hb dX5_endMinute_29 rfl hl (by decide) rfl (fun ls hl => ?_)
          refine lv_iinc (v := (((((4 - 1) + (-1)) + (-1)) + (-1)) + (-1))) (k := 2) (lv' := [(2, .int (((((4 - 1) + (-1)) + (-1)) + (-1)) + (-1))), (1, .int (D 8 t 0)), (3, .int (D 8 t 0)), (0, .ref (ad g 5 t))]) hx hb dX5_endMinute_30 hl rfl (rfl) (by decide) rfl (fun ls hl => ?_)
          refine lv_goto (tgt := 10) hx hb dX5_endMinute_33 (by decide) ?_
          refine lv_iload_n hx hb dX5_endMinute_10 rfl (lv_at hl 0 rfl) ?_
          refine lv_if_lt (tgt := 36) hx hb dX5_endMinute_11 (by decide) (fun c5 => ?_) (fun c5 => ?_)
          ·
            refine lv_aload_n hx hb dX5_endMinute_36 rfl (lv_at hl 3 rfl) ?_
            refine lv_dup hx hb dX5_endMinute_37 rfl ?_
            refine k_get (K := RX5) (T := TX5) (N := 7) (v := .int ((k_d (k_d (k_d (k_d D 8 t 3 0) 8 t 2 (D 8 t 3)) 8 t 1 (D 8 t 2)) 8 t 0 (D 8 t 1)) 5 t 4)) (w := .int (D 5 t 4)) hx hb fX5 hown hK hW 5 t (hd.tr h_t) (fun _ => rfl) rfl 4 (by decide) (hts (.fieldLink RX5 50 "Crossdockery$Transfer" "ready" "I") (by decide +kernel)) rfl rfl (congrArg Value.int ((k_dr rfl).trans ((k_dr rfl).trans ((k_dr rfl).trans (k_dr rfl))))) dX5_endMinute_38 ?_
            refine lv_iload_n hx hb dX5_endMinute_41 rfl (lv_at hl 1 rfl) ?_
            refine lv_iadd hx hb dX5_endMinute_42 ?_
            refine k_put (K := RX5) (T := TX5) (N := 7) (x := ((D 5 t 4) + (D 8 t 0))) hx hb fX5 tyX5 tyX5_ok nmX5 hown hK hW hL 5 t (hd.tr h_t) (fun _ => rfl) rfl 4 (by decide) (hts (.fieldLink RX5 50 "Crossdockery$Transfer" "ready" "I") (by decide +kernel)) rfl rfl rfl rfl (fun _ => Nat.le_of_ble_eq_true rfl) (fun _ _ => rfl) dX5_endMinute_43 (fun H locs hW hL => ?_)
            have e9 : (s_X5_endMinute D t) = k_d (k_d (k_d (k_d (k_d D 8 t 3 0) 8 t 2 (D 8 t 3)) 8 t 1 (D 8 t 2)) 8 t 0 (D 8 t 1)) 5 t 4 ((D 5 t 4) + (D 8 t 0)) := by unfold s_X5_endMinute; first | done | (simp only [if_neg c1, if_neg c2, if_neg c3, if_neg c4, if_pos c5]; done) | rfl
            exact k_vret hx hb hr hlocks (⟨rfl, by rw [e9]; exact hW⟩) hL dX5_endMinute_46
          ·
            exact absurd c5 (by decide)
theorem cWF_X5_endMinute {D : KD} {nl nt ng : Nat} (h : cWF D nl nt) (t : Nat) : cWF (s_X5_endMinute D t) nl nt := by
  unfold s_X5_endMinute
  repeat' split
  all_goals repeat (first | exact h | refine cWF.put ?_ ⟨by decide, Or.inl (by decide)⟩ | refine cWF.put ?_ ⟨by decide, Or.inr (by decide)⟩)
