theorem k_if01 (c : Prop) [Decidable c] : (if c then (1 : Int32) else 0) = 0 ∨ (if c then (1 : Int32) else 0) = 1 := by
  by_cases h : c
  · exact Or.inr (if_pos h)
  · exact Or.inl (if_neg h)
set_option maxHeartbeats 400000 in
set_option maxRecDepth 100000 in
theorem c_X0_takeOnLorry (X : kX) (l : Launch) {n : Nat → Nat → Nat} {ad L : Nat → Nat → Nat → Nat} {C : Nat → Nat → Nat → Nat → Int32} {fr : Nat → Option Cell} {g : Nat} {nl nt ng : Nat} (hd : kDk n g nl nt ng) (D : KD) (hwf : cWF D nl nt) (h9 : n g 9 = 0) (hg5 : 5 ≠ g) {e9 : Nat} (he9 : k_v n 5 19 e9) (hlim : nl < 8) : k_M X l yX0_takeOnLorry wsX0_takeOnLorry ({ frames := 5, cells := 3, slots := 34, locals := 108 }) [.ref (ad g 0 0), .ref (ad 5 19 e9)] (k_W X n ad L (k_g C g D) fr) (fun v H => v = some (.int (nI nl)) ∧ ∃ ad' L', k_oth g ad ad' L L' ∧ k_W X (k_n2 n g 4) ad' L' (k_g C g (s_X0_takeOnLorry D nl (C 5 19 e9 1) (C 5 19 e9 2) (C 5 19 e9 3))) fr H) 3 34 := by
  refine k_M.of (cc := cX0_takeOnLorry) (maxL := 3) (ret := (some .int)) (by decide) rfl (Nat.le_of_ble_eq_true rfl) ?_
  intro p e s m args below meth c ls hx hb hr hml hown hts hlocks hnm hK hW hl
  have hL : ∀ q ∈ ([] : List Loc), k_B X ≤ q.base := fun _ h => nomatch h
  have hl : lv_has ls 3 [(0, .ref (ad g 0 0)), (1, .ref (ad 5 19 e9))] := hl
  have fX0 : ∀ w ∈ u_ws RX0 TX0 5, w.before args s = true := fun w h => hts w ((by decide +kernel : ∀ w ∈ u_ws RX0 TX0 5, w ∈ wsX0_takeOnLorry) w h)
  have fX1 : ∀ w ∈ u_ws RX1 TX1 4, w.before args s = true := fun w h => hts w ((by decide +kernel : ∀ w ∈ u_ws RX1 TX1 4, w ∈ wsX0_takeOnLorry) w h)
  have hl8 := hd.l8
  have ht16 := hd.t16
  have hg4 := hd.g4
  refine lv_aload_n hx hb dX0_takeOnLorry_0 rfl (lv_at hl 0 rfl) ?_
  refine k_get (K := RX0) (T := TX0) (N := 5) (v := .ref (ad g 1 0)) (w := .ref (ad g 1 0)) hx hb fX0 hown hK hW 0 0 hd.o (fun _ => rfl) rfl 0 (by decide) (hts (.fieldLink RX0 12 "Crossdockery$Dock" "lorries" "Ljava/util/ArrayList;") (by decide +kernel)) rfl rfl rfl dX0_takeOnLorry_1 ?_
  refine k_callV (As := []) (rest := []) ⟨hx, hb, hml, hown, hts⟩ hK (c_size0 X l hd) (cwV 0 hts gX0_takeOnLorry_Jx4a65c_size_8abf5 rfl rfl rfl (by decide +kernel) ⟨Nat.le_of_ble_eq_true rfl, Nat.le_of_ble_eq_true rfl⟩) (k_recv hK hW 1 0 (hd.li (by decide)) (fun _ => rfl) rfl) hW rfl hl.1 rfl (Nat.le_of_ble_eq_true rfl) dX0_takeOnLorry_4 ⟨Nat.le_of_ble_eq_true rfl, Nat.le_of_ble_eq_true rfl⟩ hL (fun v9 H locs hp hL => ?_)
  obtain ⟨rfl, hW⟩ := hp
  refine lv_istore_n (lv' := [(2, .int (nI nl)), (0, .ref (ad g 0 0)), (1, .ref (ad 5 19 e9))]) hx hb dX0_takeOnLorry_7 rfl hl (by decide) rfl (fun ls hl => ?_)
  refine lv_aload_n hx hb dX0_takeOnLorry_8 rfl (lv_at hl 1 rfl) ?_
  refine k_get (K := RX0) (T := TX0) (N := 5) (v := .ref (ad g 1 0)) (w := .ref (ad g 1 0)) hx hb fX0 hown hK hW 0 0 hd.o (fun _ => rfl) rfl 0 (by decide) (hts (.fieldLink RX0 12 "Crossdockery$Dock" "lorries" "Ljava/util/ArrayList;") (by decide +kernel)) rfl rfl rfl dX0_takeOnLorry_9 ?_
  replace hW := k_N.of hW
  refine k_new (ci := 9) (K := RX3) (T := TX3) (N := 15) (fs := [.int 0, .int 0, .int 0, .int 0, .int 0, .int 0, .int 0, .int 0, .int 0, .int 0, .int 0, .int 0, .int 0, .int 0, .null]) hx hb hts (by decide +kernel) tyX3 tyX3_ok hown (hts (.classLink RX0 24 RX3) (by decide +kernel)) (hts (.instantiable RX3 15) (by decide +kernel)) (hts (.initialized RX3) (by decide +kernel)) hK hW rfl (by decide) (Nat.le_of_ble_eq_true rfl) (Nat.le_of_ble_eq_true rfl) dX0_takeOnLorry_12 (fun q1 H hW => ?_)
  refine lv_dup hx hb dX0_takeOnLorry_15 rfl ?_
  refine lv_iload_n hx hb dX0_takeOnLorry_16 rfl (lv_at hl 0 rfl) ?_
  refine lv_aload_n hx hb dX0_takeOnLorry_17 rfl (lv_at hl 2 rfl) ?_
  refine k_get (g := 5) (D := k_g C g D 5) (K := RX1) (T := TX1) (N := 4) (v := .int (k_g C g D 5 19 e9 1)) (w := .int (C 5 19 e9 1)) hx hb fX1 hown hK (k_ev hW.1) 19 e9 he9 (fun _ => rfl) rfl 1 (by decide) (hts (.fieldLink RX0 66 "Crossdockery$Event" "first" "I") (by decide +kernel)) rfl rfl (congrArg Value.int (k_evv hg5 e9 1)) dX0_takeOnLorry_18 ?_
  refine lv_iconst (v := 1) hx hb dX0_takeOnLorry_21 (by decide) ?_
  refine lv_icmp_ne (tgt := 29) hx hb dX0_takeOnLorry_22 (by decide) (fun c2 => ?_) (fun c2 => ?_)
  ·
    refine lv_iconst (v := 0) hx hb dX0_takeOnLorry_29 (by decide) ?_
    refine W.eq (g2 := F0 m 30 ls [.int (if C 5 19 e9 1 = 1 then (1 : Int32) else 0), .int (nI nl), .ref q1, .ref q1, .ref (ad g 1 0)]) (by rw [if_neg c2]; first | done | rfl) ?_
    refine lv_aload_n hx hb dX0_takeOnLorry_30 rfl (lv_at hl 2 rfl) ?_
    refine k_get (g := 5) (D := k_g C g D 5) (K := RX1) (T := TX1) (N := 4) (v := .int (k_g C g D 5 19 e9 2)) (w := .int (C 5 19 e9 2)) hx hb fX1 hown hK (k_ev hW.1) 19 e9 he9 (fun _ => rfl) rfl 2 (by decide) (hts (.fieldLink RX0 73 "Crossdockery$Event" "second" "I") (by decide +kernel)) rfl rfl (congrArg Value.int (k_evv hg5 e9 2)) dX0_takeOnLorry_31 ?_
    refine lv_aload_n hx hb dX0_takeOnLorry_34 rfl (lv_at hl 2 rfl) ?_
    refine k_get (g := 5) (D := k_g C g D 5) (K := RX1) (T := TX1) (N := 4) (v := .int (k_g C g D 5 19 e9 3)) (w := .int (C 5 19 e9 3)) hx hb fX1 hown hK (k_ev hW.1) 19 e9 he9 (fun _ => rfl) rfl 3 (by decide) (hts (.fieldLink RX0 107 "Crossdockery$Event" "third" "I") (by decide +kernel)) rfl rfl (congrArg Value.int (k_evv hg5 e9 3)) dX0_takeOnLorry_35 ?_
    refine k_callI (As := [.int (nI nl), .int (if C 5 19 e9 1 = 1 then (1 : Int32) else 0), .int (C 5 19 e9 2), .int (C 5 19 e9 3)]) (rest := [.ref q1, .ref (ad g 1 0)]) ⟨hx, hb, hml, hown, hts⟩ hK (c_X3_init X l q1 (nI nl) (if C 5 19 e9 1 = 1 then (1 : Int32) else 0) (C 5 19 e9 2) (C 5 19 e9 3) (k_if01 _)) (cwI 4 hts gX0_takeOnLorry_X3_init rfl rfl rfl (hts (.initialized RX3) (by decide +kernel)) (hts (.methodLink RX0 110 yX3_init) (by decide +kernel)) (hts (.instanceMethod yX3_init) (by decide +kernel)) rfl (by decide +kernel) ⟨Nat.le_of_ble_eq_true rfl, Nat.le_of_ble_eq_true rfl⟩) hW rfl hl.1 rfl (Nat.le_of_ble_eq_true rfl) dX0_takeOnLorry_38 ⟨Nat.le_of_ble_eq_true rfl, Nat.le_of_ble_eq_true rfl⟩ hL (fun v9 H locs hp hL => ?_)
    obtain ⟨rfl, q3, hW⟩ := hp
    rcases Nat.eq_zero_or_pos nl with h0 | h0
    ·
      subst h0
      replace hW := k_outL0 hW hd (i := 0) (by decide) hd.nl
      refine k_callV (As := [.ref q1]) (rest := []) ⟨hx, hb, hml, hown, hts⟩ hK (c_Jx4a65c_add_9ea2d_B X l (ad g 1 0) q1 (D 1 0 0) (fun s9 H9 hK9 hP9 => k_anyO hK9 (List.mem_of_getElem? (i := 8) rfl) (va_recv (q0 := 1) (ci := 9) hK9.1 hP9 rfl rfl))) (cwV 1 hts gX0_takeOnLorry_Jx4a65c_add_9ea2d rfl rfl rfl (by decide +kernel) ⟨Nat.le_of_ble_eq_true rfl, Nat.le_of_ble_eq_true rfl⟩) (va_recv (q0 := 0) (ci := 3) hK.1 hW.2.1 rfl rfl) hW rfl hl.1 rfl (Nat.le_of_ble_eq_true rfl) dX0_takeOnLorry_41 ⟨(by show _ ≤ (3 : Nat); omega), (by show _ ≤ (34 : Nat); omega)⟩ hL (fun v9 H locs hp hL => ?_)
      obtain ⟨q4, rfl, hW⟩ := hp
      rw [show (0 + 1 : Int32) = nI (0 + 1) by decide] at hW
      replace hW : k_N X (k_n1 n g 1) ad L (k_g C g D) fr [(ad g 1 0, .inr (3, [.int (D 1 0 0 + 1), .ref q4, .int (nI (0 + 1))])), (q4, .inl (X.2.1 4, 10, .inr (.inr (.inr (.inr (va_up (fun _ => none) 0 (some q1))))))), (q1, .inr (9, [.int (nI 0), .int (if C 5 19 e9 1 = 1 then (1 : Int32) else 0), .int (C 5 19 e9 2), .int (C 5 19 e9 3), .int (-1), .int 101, .int 0, .int 0, .int 0, .int 0, .int 0, .int 0, .int (-2), .int (-1), .ref q3])), (q3, .inl (X.2.1 0, 9, .inl (fun _ => 0)))] H := hW.sub [1, 0, 3, 2] (by decide) rfl
      replace hW := k_close0 (o := q1) (sb := q3) (z := 10) (c := (k_fl 0 (if C 5 19 e9 1 = 1 then 1 else 0) (C 5 19 e9 2) (C 5 19 e9 3))) hd hwf (by rw [k_el rfl]; exact hW) k_fB (by decide) h9
      refine lv_pop hx hb dX0_takeOnLorry_44 rfl ?_
      refine lv_iload_n hx hb dX0_takeOnLorry_45 rfl (lv_at hl 0 rfl) ?_
      refine k_more (cells' := 3) (slots' := 34) (by omega) (by omega) ?_
      exact k_iret hx hb hr hlocks ⟨rfl, _, _, k_oth.a2 (by decide), hW⟩ hL dX0_takeOnLorry_46
    ·
      have hcp := k_capL hW.1 hd (i := 0) (by decide) hd.nl h0
      have hlt : nl < L g 2 0 := by omega
      replace hW := k_outL1 hW hd (i := 0) (by decide) hd.nl h0
      refine k_callV (As := [.ref q1]) (rest := []) ⟨hx, hb, hml, hown, hts⟩ hK (c_Jx4a65c_add_9ea2d_A X l (ad g 1 0) (ad g 2 0) q1 (D 1 0 0) nl (L g 2 0) (fun j => if j < nl then some (ad g 4 j) else none) hlt (by omega) (fun s9 H9 hK9 hP9 => k_anyO hK9 (List.mem_of_getElem? (i := 8) rfl) (va_recv (q0 := 1) (ci := 9) hK9.1 hP9 rfl rfl))) (cwV 1 hts gX0_takeOnLorry_Jx4a65c_add_9ea2d rfl rfl rfl (by decide +kernel) ⟨Nat.le_of_ble_eq_true rfl, Nat.le_of_ble_eq_true rfl⟩) (va_recv (q0 := 0) (ci := 3) hK.1 hW.2.1 rfl rfl) hW rfl hl.1 rfl (Nat.le_of_ble_eq_true rfl) dX0_takeOnLorry_41 ⟨(by show _ ≤ (3 : Nat); omega), (by show _ ≤ (34 : Nat); omega)⟩ hL (fun v9 H locs hp hL => ?_)
      obtain ⟨rfl, hW⟩ := hp
      replace hW : k_N X (k_n1 n g 1) ad L (k_g C g D) fr [(ad g 1 0, .inr (3, [.int (D 1 0 0 + 1), .ref (ad g 2 0), .int (nI (nl + 1))])), (ad g 2 0, .inl (X.2.1 4, L g 2 0, .inr (.inr (.inr (.inr (va_up (fun j => if j < nl then some (ad g 4 j) else none) nl (some q1))))))), (q1, .inr (9, [.int (nI nl), .int (if C 5 19 e9 1 = 1 then (1 : Int32) else 0), .int (C 5 19 e9 2), .int (C 5 19 e9 3), .int (-1), .int 101, .int 0, .int 0, .int 0, .int 0, .int 0, .int 0, .int (-2), .int (-1), .ref q3])), (q3, .inl (X.2.1 0, 9, .inl (fun _ => 0)))] H := hW.sub [0, 1, 3, 2] (by decide) rfl
      replace hW := k_close0 (o := q1) (sb := q3) (z := L g 2 0) (c := (k_fl nl (if C 5 19 e9 1 = 1 then 1 else 0) (C 5 19 e9 2) (C 5 19 e9 3))) hd hwf (by rw [k_el rfl]; exact hW) k_fA (by omega) h9
      refine lv_pop hx hb dX0_takeOnLorry_44 rfl ?_
      refine lv_iload_n hx hb dX0_takeOnLorry_45 rfl (lv_at hl 0 rfl) ?_
      refine k_more (cells' := 3) (slots' := 34) (by omega) (by omega) ?_
      exact k_iret hx hb hr hlocks ⟨rfl, _, _, k_oth.a2 (by decide), hW⟩ hL dX0_takeOnLorry_46
  ·
    refine lv_iconst (v := 1) hx hb dX0_takeOnLorry_25 (by decide) ?_
    refine lv_goto (tgt := 30) hx hb dX0_takeOnLorry_26 (by decide) ?_
    refine W.eq (g2 := F0 m 30 ls [.int (if C 5 19 e9 1 = 1 then (1 : Int32) else 0), .int (nI nl), .ref q1, .ref q1, .ref (ad g 1 0)]) (by rw [if_pos c2]; first | done | rfl) ?_
    refine lv_aload_n hx hb dX0_takeOnLorry_30 rfl (lv_at hl 2 rfl) ?_
    refine k_get (g := 5) (D := k_g C g D 5) (K := RX1) (T := TX1) (N := 4) (v := .int (k_g C g D 5 19 e9 2)) (w := .int (C 5 19 e9 2)) hx hb fX1 hown hK (k_ev hW.1) 19 e9 he9 (fun _ => rfl) rfl 2 (by decide) (hts (.fieldLink RX0 73 "Crossdockery$Event" "second" "I") (by decide +kernel)) rfl rfl (congrArg Value.int (k_evv hg5 e9 2)) dX0_takeOnLorry_31 ?_
    refine lv_aload_n hx hb dX0_takeOnLorry_34 rfl (lv_at hl 2 rfl) ?_
    refine k_get (g := 5) (D := k_g C g D 5) (K := RX1) (T := TX1) (N := 4) (v := .int (k_g C g D 5 19 e9 3)) (w := .int (C 5 19 e9 3)) hx hb fX1 hown hK (k_ev hW.1) 19 e9 he9 (fun _ => rfl) rfl 3 (by decide) (hts (.fieldLink RX0 107 "Crossdockery$Event" "third" "I") (by decide +kernel)) rfl rfl (congrArg Value.int (k_evv hg5 e9 3)) dX0_takeOnLorry_35 ?_
    refine k_callI (As := [.int (nI nl), .int (if C 5 19 e9 1 = 1 then (1 : Int32) else 0), .int (C 5 19 e9 2), .int (C 5 19 e9 3)]) (rest := [.ref q1, .ref (ad g 1 0)]) ⟨hx, hb, hml, hown, hts⟩ hK (c_X3_init X l q1 (nI nl) (if C 5 19 e9 1 = 1 then (1 : Int32) else 0) (C 5 19 e9 2) (C 5 19 e9 3) (k_if01 _)) (cwI 4 hts gX0_takeOnLorry_X3_init rfl rfl rfl (hts (.initialized RX3) (by decide +kernel)) (hts (.methodLink RX0 110 yX3_init) (by decide +kernel)) (hts (.instanceMethod yX3_init) (by decide +kernel)) rfl (by decide +kernel) ⟨Nat.le_of_ble_eq_true rfl, Nat.le_of_ble_eq_true rfl⟩) hW rfl hl.1 rfl (Nat.le_of_ble_eq_true rfl) dX0_takeOnLorry_38 ⟨Nat.le_of_ble_eq_true rfl, Nat.le_of_ble_eq_true rfl⟩ hL (fun v9 H locs hp hL => ?_)
    obtain ⟨rfl, q5, hW⟩ := hp
    rcases Nat.eq_zero_or_pos nl with h0 | h0
    ·
      subst h0
      replace hW := k_outL0 hW hd (i := 0) (by decide) hd.nl
      refine k_callV (As := [.ref q1]) (rest := []) ⟨hx, hb, hml, hown, hts⟩ hK (c_Jx4a65c_add_9ea2d_B X l (ad g 1 0) q1 (D 1 0 0) (fun s9 H9 hK9 hP9 => k_anyO hK9 (List.mem_of_getElem? (i := 8) rfl) (va_recv (q0 := 1) (ci := 9) hK9.1 hP9 rfl rfl))) (cwV 1 hts gX0_takeOnLorry_Jx4a65c_add_9ea2d rfl rfl rfl (by decide +kernel) ⟨Nat.le_of_ble_eq_true rfl, Nat.le_of_ble_eq_true rfl⟩) (va_recv (q0 := 0) (ci := 3) hK.1 hW.2.1 rfl rfl) hW rfl hl.1 rfl (Nat.le_of_ble_eq_true rfl) dX0_takeOnLorry_41 ⟨(by show _ ≤ (3 : Nat); omega), (by show _ ≤ (34 : Nat); omega)⟩ hL (fun v9 H locs hp hL => ?_)
      obtain ⟨q6, rfl, hW⟩ := hp
      rw [show (0 + 1 : Int32) = nI (0 + 1) by decide] at hW
      replace hW : k_N X (k_n1 n g 1) ad L (k_g C g D) fr [(ad g 1 0, .inr (3, [.int (D 1 0 0 + 1), .ref q6, .int (nI (0 + 1))])), (q6, .inl (X.2.1 4, 10, .inr (.inr (.inr (.inr (va_up (fun _ => none) 0 (some q1))))))), (q1, .inr (9, [.int (nI 0), .int (if C 5 19 e9 1 = 1 then (1 : Int32) else 0), .int (C 5 19 e9 2), .int (C 5 19 e9 3), .int (-1), .int 101, .int 0, .int 0, .int 0, .int 0, .int 0, .int 0, .int (-2), .int (-1), .ref q5])), (q5, .inl (X.2.1 0, 9, .inl (fun _ => 0)))] H := hW.sub [1, 0, 3, 2] (by decide) rfl
      replace hW := k_close0 (o := q1) (sb := q5) (z := 10) (c := (k_fl 0 (if C 5 19 e9 1 = 1 then 1 else 0) (C 5 19 e9 2) (C 5 19 e9 3))) hd hwf (by rw [k_el rfl]; exact hW) k_fB (by decide) h9
      refine lv_pop hx hb dX0_takeOnLorry_44 rfl ?_
      refine lv_iload_n hx hb dX0_takeOnLorry_45 rfl (lv_at hl 0 rfl) ?_
      refine k_more (cells' := 3) (slots' := 34) (by omega) (by omega) ?_
      exact k_iret hx hb hr hlocks ⟨rfl, _, _, k_oth.a2 (by decide), hW⟩ hL dX0_takeOnLorry_46
    ·
      have hcp := k_capL hW.1 hd (i := 0) (by decide) hd.nl h0
      have hlt : nl < L g 2 0 := by omega
      replace hW := k_outL1 hW hd (i := 0) (by decide) hd.nl h0
      refine k_callV (As := [.ref q1]) (rest := []) ⟨hx, hb, hml, hown, hts⟩ hK (c_Jx4a65c_add_9ea2d_A X l (ad g 1 0) (ad g 2 0) q1 (D 1 0 0) nl (L g 2 0) (fun j => if j < nl then some (ad g 4 j) else none) hlt (by omega) (fun s9 H9 hK9 hP9 => k_anyO hK9 (List.mem_of_getElem? (i := 8) rfl) (va_recv (q0 := 1) (ci := 9) hK9.1 hP9 rfl rfl))) (cwV 1 hts gX0_takeOnLorry_Jx4a65c_add_9ea2d rfl rfl rfl (by decide +kernel) ⟨Nat.le_of_ble_eq_true rfl, Nat.le_of_ble_eq_true rfl⟩) (va_recv (q0 := 0) (ci := 3) hK.1 hW.2.1 rfl rfl) hW rfl hl.1 rfl (Nat.le_of_ble_eq_true rfl) dX0_takeOnLorry_41 ⟨(by show _ ≤ (3 : Nat); omega), (by show _ ≤ (34 : Nat); omega)⟩ hL (fun v9 H locs hp hL => ?_)
      obtain ⟨rfl, hW⟩ := hp
      replace hW : k_N X (k_n1 n g 1) ad L (k_g C g D) fr [(ad g 1 0, .inr (3, [.int (D 1 0 0 + 1), .ref (ad g 2 0), .int (nI (nl + 1))])), (ad g 2 0, .inl (X.2.1 4, L g 2 0, .inr (.inr (.inr (.inr (va_up (fun j => if j < nl then some (ad g 4 j) else none) nl (some q1))))))), (q1, .inr (9, [.int (nI nl), .int (if C 5 19 e9 1 = 1 then (1 : Int32) else 0), .int (C 5 19 e9 2), .int (C 5 19 e9 3), .int (-1), .int 101, .int 0, .int 0, .int 0, .int 0, .int 0, .int 0, .int (-2), .int (-1), .ref q5])), (q5, .inl (X.2.1 0, 9, .inl (fun _ => 0)))] H := hW.sub [0, 1, 3, 2] (by decide) rfl
      replace hW := k_close0 (o := q1) (sb := q5) (z := L g 2 0) (c := (k_fl nl (if C 5 19 e9 1 = 1 then 1 else 0) (C 5 19 e9 2) (C 5 19 e9 3))) hd hwf (by rw [k_el rfl]; exact hW) k_fA (by omega) h9
      refine lv_pop hx hb dX0_takeOnLorry_44 rfl ?_
      refine lv_iload_n hx hb dX0_takeOnLorry_45 rfl (lv_at hl 0 rfl) ?_
      refine k_more (cells' := 3) (slots' := 34) (by omega) (by omega) ?_
      exact k_iret hx hb hr hlocks ⟨rfl, _, _, k_oth.a2 (by decide), hW⟩ hL dX0_takeOnLorry_46
set_option maxHeartbeats 400000 in
set_option maxRecDepth 100000 in
theorem c_X0_takeOnTransfer (X : kX) (l : Launch) {n : Nat → Nat → Nat} {ad L : Nat → Nat → Nat → Nat} {C : Nat → Nat → Nat → Nat → Int32} {fr : Nat → Option Cell} {g : Nat} {nl nt ng : Nat} (hd : kDk n g nl nt ng) (D : KD) (hwf : cWF D nl nt) (h9 : n g 9 = 0) (hg5 : 5 ≠ g) {e9 : Nat} (he9 : k_v n 5 19 e9) (hlim : nt < 16) (hv1 : vp_in (C 5 19 e9 1) nl) (hv2 : vp_in (C 5 19 e9 2) nl) : k_M X l yX0_takeOnTransfer wsX0_takeOnTransfer ({ frames := 7, cells := 3, slots := 34, locals := 191 }) [.ref (ad g 0 0), .ref (ad 5 19 e9)] (k_W X n ad L (k_g C g D) fr) (fun v H => v = some (.int (nI nt)) ∧ ∃ ad' L', k_oth g ad ad' L L' ∧ k_W X (k_n2 n g 5) ad' L' (k_g C g (s_X0_takeOnTransfer D nt (C 5 19 e9 1) (C 5 19 e9 2) (C 5 19 e9 3))) fr H) 3 34 := by
  refine k_M.of (cc := cX0_takeOnTransfer) (maxL := 3) (ret := (some .int)) (by decide) rfl (Nat.le_of_ble_eq_true rfl) ?_
  intro p e s m args below meth c ls hx hb hr hml hown hts hlocks hnm hK hW hl
  have hL : ∀ q ∈ ([] : List Loc), k_B X ≤ q.base := fun _ h => nomatch h
  have hl : lv_has ls 3 [(0, .ref (ad g 0 0)), (1, .ref (ad 5 19 e9))] := hl
  have fX0 : ∀ w ∈ u_ws RX0 TX0 5, w.before args s = true := fun w h => hts w ((by decide +kernel : ∀ w ∈ u_ws RX0 TX0 5, w ∈ wsX0_takeOnTransfer) w h)
  have fX1 : ∀ w ∈ u_ws RX1 TX1 4, w.before args s = true := fun w h => hts w ((by decide +kernel : ∀ w ∈ u_ws RX1 TX1 4, w ∈ wsX0_takeOnTransfer) w h)
  have hl8 := hd.l8
  have ht16 := hd.t16
  have hg4 := hd.g4
  refine lv_aload_n hx hb dX0_takeOnTransfer_0 rfl (lv_at hl 0 rfl) ?_
  refine k_get (K := RX0) (T := TX0) (N := 5) (v := .ref (ad g 1 1)) (w := .ref (ad g 1 1)) hx hb fX0 hown hK hW 0 0 hd.o (fun _ => rfl) rfl 1 (by decide) (hts (.fieldLink RX0 18 "Crossdockery$Dock" "transfers" "Ljava/util/ArrayList;") (by decide +kernel)) rfl rfl rfl dX0_takeOnTransfer_1 ?_
  refine k_callV (As := []) (rest := []) ⟨hx, hb, hml, hown, hts⟩ hK (c_size1 X l hd) (cwV 0 hts gX0_takeOnTransfer_Jx4a65c_size_8abf5 rfl rfl rfl (by decide +kernel) ⟨Nat.le_of_ble_eq_true rfl, Nat.le_of_ble_eq_true rfl⟩) (k_recv hK hW 1 1 (hd.li (by decide)) (fun _ => rfl) rfl) hW rfl hl.1 rfl (Nat.le_of_ble_eq_true rfl) dX0_takeOnTransfer_4 ⟨Nat.le_of_ble_eq_true rfl, Nat.le_of_ble_eq_true rfl⟩ hL (fun v9 H locs hp hL => ?_)
  obtain ⟨rfl, hW⟩ := hp
  refine lv_istore_n (lv' := [(2, .int (nI nt)), (0, .ref (ad g 0 0)), (1, .ref (ad 5 19 e9))]) hx hb dX0_takeOnTransfer_7 rfl hl (by decide) rfl (fun ls hl => ?_)
  refine lv_aload_n hx hb dX0_takeOnTransfer_8 rfl (lv_at hl 1 rfl) ?_
  refine k_get (K := RX0) (T := TX0) (N := 5) (v := .ref (ad g 1 1)) (w := .ref (ad g 1 1)) hx hb fX0 hown hK hW 0 0 hd.o (fun _ => rfl) rfl 1 (by decide) (hts (.fieldLink RX0 18 "Crossdockery$Dock" "transfers" "Ljava/util/ArrayList;") (by decide +kernel)) rfl rfl rfl dX0_takeOnTransfer_9 ?_
  replace hW := k_N.of hW
  refine k_new (ci := 11) (K := RX5) (T := TX5) (N := 7) (fs := [.null, .null, .int 0, .int 0, .int 0, .int 0, .null]) hx hb hts (by decide +kernel) tyX5 tyX5_ok hown (hts (.classLink RX0 47 RX5) (by decide +kernel)) (hts (.instantiable RX5 7) (by decide +kernel)) (hts (.initialized RX5) (by decide +kernel)) hK hW rfl (by decide) (Nat.le_of_ble_eq_true rfl) (Nat.le_of_ble_eq_true rfl) dX0_takeOnTransfer_12 (fun q1 H hW => ?_)
  refine lv_dup hx hb dX0_takeOnTransfer_15 rfl ?_
  refine lv_aload_n hx hb dX0_takeOnTransfer_16 rfl (lv_at hl 1 rfl) ?_
  refine lv_aload_n hx hb dX0_takeOnTransfer_17 rfl (lv_at hl 2 rfl) ?_
  refine k_get (g := 5) (D := k_g C g D 5) (K := RX1) (T := TX1) (N := 4) (v := .int (k_g C g D 5 19 e9 1)) (w := .int (C 5 19 e9 1)) hx hb fX1 hown hK (k_ev hW.1) 19 e9 he9 (fun _ => rfl) rfl 1 (by decide) (hts (.fieldLink RX0 66 "Crossdockery$Event" "first" "I") (by decide +kernel)) rfl rfl (congrArg Value.int (k_evv hg5 e9 1)) dX0_takeOnTransfer_18 ?_
  obtain ⟨fr2, hF9, hb3⟩ := hW.freeze
  replace hW := hF9
  refine k_callV (As := [.int (C 5 19 e9 1)]) (rest := [.ref q1, .ref q1, .ref (ad g 1 1)]) ⟨hx, hb, hml, hown, hts⟩ hK (c_X0_existingLorry_v X l hd D (x := (C 5 19 e9 1)) (by assumption)) (cwV 1 hts gX0_takeOnTransfer_X0_existingLorry rfl rfl rfl (by decide +kernel) ⟨Nat.le_of_ble_eq_true rfl, Nat.le_of_ble_eq_true rfl⟩) (k_recv hK hW 0 0 hd.o (fun _ => rfl) rfl) hW rfl hl.1 rfl (Nat.le_of_ble_eq_true rfl) dX0_takeOnTransfer_21 ⟨Nat.le_of_ble_eq_true rfl, Nat.le_of_ble_eq_true rfl⟩ hL (fun v9 H locs hp hL => ?_)
  obtain ⟨rfl, hW⟩ := hp
  replace hW := hb3 _ _ _ _ _ hW
  refine lv_aload_n hx hb dX0_takeOnTransfer_24 rfl (lv_at hl 1 rfl) ?_
  refine lv_aload_n hx hb dX0_takeOnTransfer_25 rfl (lv_at hl 2 rfl) ?_
  refine k_get (g := 5) (D := k_g C g D 5) (K := RX1) (T := TX1) (N := 4) (v := .int (k_g C g D 5 19 e9 2)) (w := .int (C 5 19 e9 2)) hx hb fX1 hown hK (k_ev hW.1) 19 e9 he9 (fun _ => rfl) rfl 2 (by decide) (hts (.fieldLink RX0 73 "Crossdockery$Event" "second" "I") (by decide +kernel)) rfl rfl (congrArg Value.int (k_evv hg5 e9 2)) dX0_takeOnTransfer_26 ?_
  obtain ⟨fr4, hF9, hb5⟩ := hW.freeze
  replace hW := hF9
  refine k_callV (As := [.int (C 5 19 e9 2)]) (rest := [.ref (ad g 4 ((C 5 19 e9 1).toNatClampNeg)), .ref q1, .ref q1, .ref (ad g 1 1)]) ⟨hx, hb, hml, hown, hts⟩ hK (c_X0_existingLorry_v X l hd D (x := (C 5 19 e9 2)) (by assumption)) (cwV 1 hts gX0_takeOnTransfer_X0_existingLorry rfl rfl rfl (by decide +kernel) ⟨Nat.le_of_ble_eq_true rfl, Nat.le_of_ble_eq_true rfl⟩) (k_recv hK hW 0 0 hd.o (fun _ => rfl) rfl) hW rfl hl.1 rfl (Nat.le_of_ble_eq_true rfl) dX0_takeOnTransfer_29 ⟨Nat.le_of_ble_eq_true rfl, Nat.le_of_ble_eq_true rfl⟩ hL (fun v9 H locs hp hL => ?_)
  obtain ⟨rfl, hW⟩ := hp
  replace hW := hb5 _ _ _ _ _ hW
  refine lv_aload_n hx hb dX0_takeOnTransfer_32 rfl (lv_at hl 2 rfl) ?_
  refine k_get (g := 5) (D := k_g C g D 5) (K := RX1) (T := TX1) (N := 4) (v := .int (k_g C g D 5 19 e9 3)) (w := .int (C 5 19 e9 3)) hx hb fX1 hown hK (k_ev hW.1) 19 e9 he9 (fun _ => rfl) rfl 3 (by decide) (hts (.fieldLink RX0 107 "Crossdockery$Event" "third" "I") (by decide +kernel)) rfl rfl (congrArg Value.int (k_evv hg5 e9 3)) dX0_takeOnTransfer_33 ?_
  refine k_callI (As := [.ref (ad g 4 ((C 5 19 e9 1).toNatClampNeg)), .ref (ad g 4 ((C 5 19 e9 2).toNatClampNeg)), .int (C 5 19 e9 3)]) (rest := [.ref q1, .ref (ad g 1 1)]) ⟨hx, hb, hml, hown, hts⟩ hK (c_X5_init X l q1 (ad g 4 ((C 5 19 e9 1).toNatClampNeg)) (ad g 4 ((C 5 19 e9 2).toNatClampNeg)) (C 5 19 e9 3)) (cwI 3 hts gX0_takeOnTransfer_X5_init rfl rfl rfl (hts (.initialized RX5) (by decide +kernel)) (hts (.methodLink RX0 117 yX5_init) (by decide +kernel)) (hts (.instanceMethod yX5_init) (by decide +kernel)) rfl (by decide +kernel) ⟨Nat.le_of_ble_eq_true rfl, Nat.le_of_ble_eq_true rfl⟩) hW rfl hl.1 rfl (Nat.le_of_ble_eq_true rfl) dX0_takeOnTransfer_36 ⟨Nat.le_of_ble_eq_true rfl, Nat.le_of_ble_eq_true rfl⟩ hL (fun v9 H locs hp hL => ?_)
  obtain ⟨rfl, q6, hW⟩ := hp
  rcases Nat.eq_zero_or_pos nt with h0 | h0
  ·
    subst h0
    replace hW := k_outL0 hW hd (i := 1) (by decide) hd.nt
    refine k_callV (As := [.ref q1]) (rest := []) ⟨hx, hb, hml, hown, hts⟩ hK (c_Jx4a65c_add_9ea2d_B X l (ad g 1 1) q1 (D 1 1 0) (fun s9 H9 hK9 hP9 => k_anyO hK9 (List.mem_of_getElem? (i := 9) rfl) (va_recv (q0 := 1) (ci := 11) hK9.1 hP9 rfl rfl))) (cwV 1 hts gX0_takeOnTransfer_Jx4a65c_add_9ea2d rfl rfl rfl (by decide +kernel) ⟨Nat.le_of_ble_eq_true rfl, Nat.le_of_ble_eq_true rfl⟩) (va_recv (q0 := 0) (ci := 3) hK.1 hW.2.1 rfl rfl) hW rfl hl.1 rfl (Nat.le_of_ble_eq_true rfl) dX0_takeOnTransfer_39 ⟨(by show _ ≤ (3 : Nat); omega), (by show _ ≤ (34 : Nat); omega)⟩ hL (fun v9 H locs hp hL => ?_)
    obtain ⟨q7, rfl, hW⟩ := hp
    rw [show (0 + 1 : Int32) = nI (0 + 1) by decide] at hW
    replace hW : k_N X (k_n1 n g 2) ad L (k_g C g D) fr [(ad g 1 1, .inr (3, [.int (D 1 1 0 + 1), .ref q7, .int (nI (0 + 1))])), (q7, .inl (X.2.1 4, 10, .inr (.inr (.inr (.inr (va_up (fun _ => none) 0 (some q1))))))), (q1, .inr (11, [.ref (ad g 4 ((C 5 19 e9 1).toNatClampNeg)), .ref (ad g 4 ((C 5 19 e9 2).toNatClampNeg)), .int (C 5 19 e9 3), .int 0, .int 0, .int 0, .ref q6])), (q6, .inl (X.2.1 0, 4, .inl (fun _ => 0)))] H := hW.sub [1, 0, 3, 2] (by decide) rfl
    replace hW := k_close1 (o := q1) (sb := q6) (z := 10) (c := (k_ft (C 5 19 e9 1) (C 5 19 e9 2) (C 5 19 e9 3))) hd hwf (by rw [k_et rfl]; exact hW) k_fB (by decide) h9
    refine lv_pop hx hb dX0_takeOnTransfer_42 rfl ?_
    refine lv_iload_n hx hb dX0_takeOnTransfer_43 rfl (lv_at hl 0 rfl) ?_
    refine k_more (cells' := 3) (slots' := 34) (by omega) (by omega) ?_
    exact k_iret hx hb hr hlocks ⟨rfl, _, _, k_oth.a2 (by decide), hW⟩ hL dX0_takeOnTransfer_44
  ·
    have hcp := k_capL hW.1 hd (i := 1) (by decide) hd.nt h0
    by_cases hlt : nt < L g 2 1
    ·
      replace hW := k_outL1 hW hd (i := 1) (by decide) hd.nt h0
      refine k_callV (As := [.ref q1]) (rest := []) ⟨hx, hb, hml, hown, hts⟩ hK (c_Jx4a65c_add_9ea2d_A X l (ad g 1 1) (ad g 2 1) q1 (D 1 1 0) nt (L g 2 1) (fun j => if j < nt then some (ad g 5 j) else none) hlt (by omega) (fun s9 H9 hK9 hP9 => k_anyO hK9 (List.mem_of_getElem? (i := 9) rfl) (va_recv (q0 := 1) (ci := 11) hK9.1 hP9 rfl rfl))) (cwV 1 hts gX0_takeOnTransfer_Jx4a65c_add_9ea2d rfl rfl rfl (by decide +kernel) ⟨Nat.le_of_ble_eq_true rfl, Nat.le_of_ble_eq_true rfl⟩) (va_recv (q0 := 0) (ci := 3) hK.1 hW.2.1 rfl rfl) hW rfl hl.1 rfl (Nat.le_of_ble_eq_true rfl) dX0_takeOnTransfer_39 ⟨(by show _ ≤ (3 : Nat); omega), (by show _ ≤ (34 : Nat); omega)⟩ hL (fun v9 H locs hp hL => ?_)
      obtain ⟨rfl, hW⟩ := hp
      replace hW : k_N X (k_n1 n g 2) ad L (k_g C g D) fr [(ad g 1 1, .inr (3, [.int (D 1 1 0 + 1), .ref (ad g 2 1), .int (nI (nt + 1))])), (ad g 2 1, .inl (X.2.1 4, L g 2 1, .inr (.inr (.inr (.inr (va_up (fun j => if j < nt then some (ad g 5 j) else none) nt (some q1))))))), (q1, .inr (11, [.ref (ad g 4 ((C 5 19 e9 1).toNatClampNeg)), .ref (ad g 4 ((C 5 19 e9 2).toNatClampNeg)), .int (C 5 19 e9 3), .int 0, .int 0, .int 0, .ref q6])), (q6, .inl (X.2.1 0, 4, .inl (fun _ => 0)))] H := hW.sub [0, 1, 3, 2] (by decide) rfl
      replace hW := k_close1 (o := q1) (sb := q6) (z := L g 2 1) (c := (k_ft (C 5 19 e9 1) (C 5 19 e9 2) (C 5 19 e9 3))) hd hwf (by rw [k_et rfl]; exact hW) k_fA (by omega) h9
      refine lv_pop hx hb dX0_takeOnTransfer_42 rfl ?_
      refine lv_iload_n hx hb dX0_takeOnTransfer_43 rfl (lv_at hl 0 rfl) ?_
      refine k_more (cells' := 3) (slots' := 34) (by omega) (by omega) ?_
      exact k_iret hx hb hr hlocks ⟨rfl, _, _, k_oth.a2 (by decide), hW⟩ hL dX0_takeOnTransfer_44
    ·
      replace hW := k_outL1 hW hd (i := 1) (by decide) hd.nt h0
      rw [show L g 2 1 = nt by omega] at hW
      refine k_callV (As := [.ref q1]) (rest := []) ⟨hx, hb, hml, hown, hts⟩ hK (c_Jx4a65c_add_9ea2d_C X l (ad g 1 1) (ad g 2 1) q1 (D 1 1 0) nt (fun j => if j < nt then some (ad g 5 j) else none) (by omega) (by omega) (fun s9 H9 hK9 hW9 i9 y9 hy => by
                  by_cases q9 : i9 < nt
                  · rw [if_pos q9] at hy; cases hy; exact k_anyW (g := g) (r := 5) (i := i9) (ci := 11) hK9 hW9 (by show i9 < k_n1 n g 2 g 5; rw [k_n1_r g (by decide), hd.nt]; exact q9) rfl rfl (List.mem_of_getElem? (i := 9) rfl)
                  · rw [if_neg q9] at hy; cases hy) (fun s9 H9 hK9 hP9 => k_anyO hK9 (List.mem_of_getElem? (i := 9) rfl) (va_recv (q0 := 1) (ci := 11) hK9.1 hP9 rfl rfl))) (cwV 1 hts gX0_takeOnTransfer_Jx4a65c_add_9ea2d rfl rfl rfl (by decide +kernel) ⟨Nat.le_of_ble_eq_true rfl, Nat.le_of_ble_eq_true rfl⟩) (va_recv (q0 := 0) (ci := 3) hK.1 hW.2.1 rfl rfl) hW rfl hl.1 rfl (Nat.le_of_ble_eq_true rfl) dX0_takeOnTransfer_39 ⟨(by show _ ≤ (3 : Nat); omega), (by show _ ≤ (34 : Nat); omega)⟩ hL (fun v9 H locs hp hL => ?_)
      obtain ⟨q8, rfl, hW⟩ := hp
      replace hW : k_N X (k_n1 n g 2) ad L (k_g C g D) fr [(ad g 1 1, .inr (3, [.int (D 1 1 0 + 1), .ref q8, .int (nI (nt + 1))])), (q8, .inl (X.2.1 4, (nt + nt / 2), .inr (.inr (.inr (.inr (va_up (va_cpy (fun j => if j < nt then some (ad g 5 j) else none) (fun _ => none) 0 0 nt) nt (some q1))))))), (q1, .inr (11, [.ref (ad g 4 ((C 5 19 e9 1).toNatClampNeg)), .ref (ad g 4 ((C 5 19 e9 2).toNatClampNeg)), .int (C 5 19 e9 3), .int 0, .int 0, .int 0, .ref q6])), (q6, .inl (X.2.1 0, 4, .inl (fun _ => 0)))] H := hW.sub [1, 0, 4, 3] (by decide) rfl
      replace hW := k_close1 (o := q1) (sb := q6) (z := nt + nt / 2) (c := (k_ft (C 5 19 e9 1) (C 5 19 e9 2) (C 5 19 e9 3))) hd hwf (by rw [k_et rfl]; exact hW) k_fC (by omega) h9
      refine lv_pop hx hb dX0_takeOnTransfer_42 rfl ?_
      refine lv_iload_n hx hb dX0_takeOnTransfer_43 rfl (lv_at hl 0 rfl) ?_
      refine k_more (cells' := 3) (slots' := 34) (by omega) (by omega) ?_
      exact k_iret hx hb hr hlocks ⟨rfl, _, _, k_oth.a2 (by decide), hW⟩ hL dX0_takeOnTransfer_44
set_option maxHeartbeats 400000 in
set_option maxRecDepth 100000 in
theorem c_X0_takeOnGang (X : kX) (l : Launch) {n : Nat → Nat → Nat} {ad L : Nat → Nat → Nat → Nat} {C : Nat → Nat → Nat → Nat → Int32} {fr : Nat → Option Cell} {g : Nat} {nl nt ng : Nat} (hd : kDk n g nl nt ng) (D : KD) (hwf : cWF D nl nt) (h9 : n g 9 = 0) (hg5 : 5 ≠ g) {e9 : Nat} (he9 : k_v n 5 19 e9) (hlim : ng < 4) : k_M X l yX0_takeOnGang wsX0_takeOnGang ({ frames := 5, cells := 2, slots := 14, locals := 108 }) [.ref (ad g 0 0), .ref (ad 5 19 e9)] (k_W X n ad L (k_g C g D) fr) (fun v H => v = some (.int (nI ng)) ∧ ∃ ad' L', k_oth g ad ad' L L' ∧ k_W X (k_n2 n g 6) ad' L' (k_g C g (s_X0_takeOnGang D ng (C 5 19 e9 1) (C 5 19 e9 2) (C 5 19 e9 3))) fr H) 2 14 := by
  refine k_M.of (cc := cX0_takeOnGang) (maxL := 3) (ret := (some .int)) (by decide) rfl (Nat.le_of_ble_eq_true rfl) ?_
  intro p e s m args below meth c ls hx hb hr hml hown hts hlocks hnm hK hW hl
  have hL : ∀ q ∈ ([] : List Loc), k_B X ≤ q.base := fun _ h => nomatch h
  have hl : lv_has ls 3 [(0, .ref (ad g 0 0)), (1, .ref (ad 5 19 e9))] := hl
  have fX0 : ∀ w ∈ u_ws RX0 TX0 5, w.before args s = true := fun w h => hts w ((by decide +kernel : ∀ w ∈ u_ws RX0 TX0 5, w ∈ wsX0_takeOnGang) w h)
  have fX1 : ∀ w ∈ u_ws RX1 TX1 4, w.before args s = true := fun w h => hts w ((by decide +kernel : ∀ w ∈ u_ws RX1 TX1 4, w ∈ wsX0_takeOnGang) w h)
  have hl8 := hd.l8
  have ht16 := hd.t16
  have hg4 := hd.g4
  refine lv_aload_n hx hb dX0_takeOnGang_0 rfl (lv_at hl 0 rfl) ?_
  refine k_get (K := RX0) (T := TX0) (N := 5) (v := .ref (ad g 1 2)) (w := .ref (ad g 1 2)) hx hb fX0 hown hK hW 0 0 hd.o (fun _ => rfl) rfl 2 (by decide) (hts (.fieldLink RX0 21 "Crossdockery$Dock" "gangs" "Ljava/util/ArrayList;") (by decide +kernel)) rfl rfl rfl dX0_takeOnGang_1 ?_
  refine k_callV (As := []) (rest := []) ⟨hx, hb, hml, hown, hts⟩ hK (c_size2 X l hd) (cwV 0 hts gX0_takeOnGang_Jx4a65c_size_8abf5 rfl rfl rfl (by decide +kernel) ⟨Nat.le_of_ble_eq_true rfl, Nat.le_of_ble_eq_true rfl⟩) (k_recv hK hW 1 2 (hd.li (by decide)) (fun _ => rfl) rfl) hW rfl hl.1 rfl (Nat.le_of_ble_eq_true rfl) dX0_takeOnGang_4 ⟨Nat.le_of_ble_eq_true rfl, Nat.le_of_ble_eq_true rfl⟩ hL (fun v9 H locs hp hL => ?_)
  obtain ⟨rfl, hW⟩ := hp
  refine lv_istore_n (lv' := [(2, .int (nI ng)), (0, .ref (ad g 0 0)), (1, .ref (ad 5 19 e9))]) hx hb dX0_takeOnGang_7 rfl hl (by decide) rfl (fun ls hl => ?_)
  refine lv_aload_n hx hb dX0_takeOnGang_8 rfl (lv_at hl 1 rfl) ?_
  refine k_get (K := RX0) (T := TX0) (N := 5) (v := .ref (ad g 1 2)) (w := .ref (ad g 1 2)) hx hb fX0 hown hK hW 0 0 hd.o (fun _ => rfl) rfl 2 (by decide) (hts (.fieldLink RX0 21 "Crossdockery$Dock" "gangs" "Ljava/util/ArrayList;") (by decide +kernel)) rfl rfl rfl dX0_takeOnGang_9 ?_
  replace hW := k_N.of hW
  refine k_new (ci := 8) (K := RX2) (T := TX2) (N := 4) (fs := [.int 0, .int 0, .int 0, .int 0]) hx hb hts (by decide +kernel) tyX2 tyX2_ok hown (hts (.classLink RX0 51 RX2) (by decide +kernel)) (hts (.instantiable RX2 4) (by decide +kernel)) (hts (.initialized RX2) (by decide +kernel)) hK hW rfl (by decide) (Nat.le_of_ble_eq_true rfl) (Nat.le_of_ble_eq_true rfl) dX0_takeOnGang_12 (fun q1 H hW => ?_)
  refine lv_dup hx hb dX0_takeOnGang_15 rfl ?_
  refine lv_aload_n hx hb dX0_takeOnGang_16 rfl (lv_at hl 2 rfl) ?_
  refine k_get (g := 5) (D := k_g C g D 5) (K := RX1) (T := TX1) (N := 4) (v := .int (k_g C g D 5 19 e9 1)) (w := .int (C 5 19 e9 1)) hx hb fX1 hown hK (k_ev hW.1) 19 e9 he9 (fun _ => rfl) rfl 1 (by decide) (hts (.fieldLink RX0 66 "Crossdockery$Event" "first" "I") (by decide +kernel)) rfl rfl (congrArg Value.int (k_evv hg5 e9 1)) dX0_takeOnGang_17 ?_
  refine lv_aload_n hx hb dX0_takeOnGang_20 rfl (lv_at hl 2 rfl) ?_
  refine k_get (g := 5) (D := k_g C g D 5) (K := RX1) (T := TX1) (N := 4) (v := .int (k_g C g D 5 19 e9 2)) (w := .int (C 5 19 e9 2)) hx hb fX1 hown hK (k_ev hW.1) 19 e9 he9 (fun _ => rfl) rfl 2 (by decide) (hts (.fieldLink RX0 73 "Crossdockery$Event" "second" "I") (by decide +kernel)) rfl rfl (congrArg Value.int (k_evv hg5 e9 2)) dX0_takeOnGang_21 ?_
  refine lv_aload_n hx hb dX0_takeOnGang_24 rfl (lv_at hl 2 rfl) ?_
  refine k_get (g := 5) (D := k_g C g D 5) (K := RX1) (T := TX1) (N := 4) (v := .int (k_g C g D 5 19 e9 3)) (w := .int (C 5 19 e9 3)) hx hb fX1 hown hK (k_ev hW.1) 19 e9 he9 (fun _ => rfl) rfl 3 (by decide) (hts (.fieldLink RX0 107 "Crossdockery$Event" "third" "I") (by decide +kernel)) rfl rfl (congrArg Value.int (k_evv hg5 e9 3)) dX0_takeOnGang_25 ?_
  refine k_callI (As := [.int (C 5 19 e9 1), .int (C 5 19 e9 2), .int (C 5 19 e9 3)]) (rest := [.ref q1, .ref (ad g 1 2)]) ⟨hx, hb, hml, hown, hts⟩ hK (c_X2_init X l q1 (C 5 19 e9 1) (C 5 19 e9 2) (C 5 19 e9 3)) (cwI 3 hts gX0_takeOnGang_X2_init rfl rfl rfl (hts (.initialized RX2) (by decide +kernel)) (hts (.methodLink RX0 120 yX2_init) (by decide +kernel)) (hts (.instanceMethod yX2_init) (by decide +kernel)) rfl (by decide +kernel) ⟨Nat.le_of_ble_eq_true rfl, Nat.le_of_ble_eq_true rfl⟩) hW rfl hl.1 rfl (Nat.le_of_ble_eq_true rfl) dX0_takeOnGang_28 ⟨Nat.le_of_ble_eq_true rfl, Nat.le_of_ble_eq_true rfl⟩ hL (fun v9 H locs hp hL => ?_)
  obtain ⟨rfl, hW⟩ := hp
  rcases Nat.eq_zero_or_pos ng with h0 | h0
  ·
    subst h0
    replace hW := k_outL0 hW hd (i := 2) (by decide) hd.ng
    refine k_callV (As := [.ref q1]) (rest := []) ⟨hx, hb, hml, hown, hts⟩ hK (c_Jx4a65c_add_9ea2d_B X l (ad g 1 2) q1 (D 1 2 0) (fun s9 H9 hK9 hP9 => k_anyO hK9 (List.mem_of_getElem? (i := 10) rfl) (va_recv (q0 := 0) (ci := 8) hK9.1 hP9 rfl rfl))) (cwV 1 hts gX0_takeOnGang_Jx4a65c_add_9ea2d rfl rfl rfl (by decide +kernel) ⟨Nat.le_of_ble_eq_true rfl, Nat.le_of_ble_eq_true rfl⟩) (va_recv (q0 := 0) (ci := 3) hK.1 hW.2.1 rfl rfl) hW rfl hl.1 rfl (Nat.le_of_ble_eq_true rfl) dX0_takeOnGang_31 ⟨(by show _ ≤ (2 : Nat); omega), (by show _ ≤ (14 : Nat); omega)⟩ hL (fun v9 H locs hp hL => ?_)
    obtain ⟨q2, rfl, hW⟩ := hp
    rw [show (0 + 1 : Int32) = nI (0 + 1) by decide] at hW
    replace hW : k_N X (k_n1 n g 3) ad L (k_g C g D) fr [(ad g 1 2, .inr (3, [.int (D 1 2 0 + 1), .ref q2, .int (nI (0 + 1))])), (q2, .inl (X.2.1 4, 10, .inr (.inr (.inr (.inr (va_up (fun _ => none) 0 (some q1))))))), (q1, .inr (8, [.int (C 5 19 e9 1), .int (C 5 19 e9 2), .int (C 5 19 e9 3), .int (-1)]))] H := hW.sub [1, 0, 2] (by decide) rfl
    replace hW := k_close2 (o := q1) (sb := 0) (z := 10) (c := (k_fg (C 5 19 e9 1) (C 5 19 e9 2) (C 5 19 e9 3))) hd hwf (by rw [k_eg]; exact hW) k_fB (by decide) h9
    refine lv_pop hx hb dX0_takeOnGang_34 rfl ?_
    refine lv_iload_n hx hb dX0_takeOnGang_35 rfl (lv_at hl 0 rfl) ?_
    refine k_more (cells' := 2) (slots' := 14) (by omega) (by omega) ?_
    exact k_iret hx hb hr hlocks ⟨rfl, _, _, k_oth.a2 (by decide), hW⟩ hL dX0_takeOnGang_36
  ·
    have hcp := k_capL hW.1 hd (i := 2) (by decide) hd.ng h0
    have hlt : ng < L g 2 2 := by omega
    replace hW := k_outL1 hW hd (i := 2) (by decide) hd.ng h0
    refine k_callV (As := [.ref q1]) (rest := []) ⟨hx, hb, hml, hown, hts⟩ hK (c_Jx4a65c_add_9ea2d_A X l (ad g 1 2) (ad g 2 2) q1 (D 1 2 0) ng (L g 2 2) (fun j => if j < ng then some (ad g 6 j) else none) hlt (by omega) (fun s9 H9 hK9 hP9 => k_anyO hK9 (List.mem_of_getElem? (i := 10) rfl) (va_recv (q0 := 0) (ci := 8) hK9.1 hP9 rfl rfl))) (cwV 1 hts gX0_takeOnGang_Jx4a65c_add_9ea2d rfl rfl rfl (by decide +kernel) ⟨Nat.le_of_ble_eq_true rfl, Nat.le_of_ble_eq_true rfl⟩) (va_recv (q0 := 0) (ci := 3) hK.1 hW.2.1 rfl rfl) hW rfl hl.1 rfl (Nat.le_of_ble_eq_true rfl) dX0_takeOnGang_31 ⟨(by show _ ≤ (2 : Nat); omega), (by show _ ≤ (14 : Nat); omega)⟩ hL (fun v9 H locs hp hL => ?_)
    obtain ⟨rfl, hW⟩ := hp
    replace hW : k_N X (k_n1 n g 3) ad L (k_g C g D) fr [(ad g 1 2, .inr (3, [.int (D 1 2 0 + 1), .ref (ad g 2 2), .int (nI (ng + 1))])), (ad g 2 2, .inl (X.2.1 4, L g 2 2, .inr (.inr (.inr (.inr (va_up (fun j => if j < ng then some (ad g 6 j) else none) ng (some q1))))))), (q1, .inr (8, [.int (C 5 19 e9 1), .int (C 5 19 e9 2), .int (C 5 19 e9 3), .int (-1)]))] H := hW.sub [0, 1, 2] (by decide) rfl
    replace hW := k_close2 (o := q1) (sb := 0) (z := L g 2 2) (c := (k_fg (C 5 19 e9 1) (C 5 19 e9 2) (C 5 19 e9 3))) hd hwf (by rw [k_eg]; exact hW) k_fA (by omega) h9
    refine lv_pop hx hb dX0_takeOnGang_34 rfl ?_
    refine lv_iload_n hx hb dX0_takeOnGang_35 rfl (lv_at hl 0 rfl) ?_
    refine k_more (cells' := 2) (slots' := 14) (by omega) (by omega) ?_
    exact k_iret hx hb hr hlocks ⟨rfl, _, _, k_oth.a2 (by decide), hW⟩ hL dX0_takeOnGang_36
