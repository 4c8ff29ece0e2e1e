
set_option maxHeartbeats 400000 in
set_option maxRecDepth 100000 in
theorem c_X1_init (X : kX) (l : Launch) {n : Nat → Nat → Nat} {ad L : Nat → Nat → Nat → Nat} {C : Nat → Nat → Nat → Nat → Int32} {fr : Nat → Option Cell} {ws : va_W} (a : Nat) (ki fi se th : Int32) : k_M X l yX1_init wsX1_init ({ frames := 1, cells := 0, slots := 0, locals := 12 }) [.ref a, .int ki, .int fi, .int se, .int th] (k_N X n ad L C fr ((a, .inr (7, [.int 0, .int 0, .int 0, .int 0])) :: ws)) (fun v H => v = none ∧ k_N X n ad L C fr ((a, .inr (7, [.int ki, .int fi, .int se, .int th])) :: ws) H) 0 0 := by
  refine k_M.of (cc := cX1_init) (maxL := 5) (ret := none) (by decide) rfl (Nat.le_of_ble_eq_true rfl) ?_
  intro p e s m args below meth c ls hx hb hr hml hown hts hlocks hnm hK hW hl
  have hL : ∀ q ∈ ([] : List Loc), k_B X ≤ q.base := fun _ h => nomatch h
  have hl : lv_has ls 5 [(0, .ref a), (1, .int ki), (2, .int fi), (3, .int se), (4, .int th)] := hl
  have fX1 : ∀ w ∈ u_ws RX1 TX1 4, w.before args s = true := fun w h => hts w ((by decide +kernel : ∀ w ∈ u_ws RX1 TX1 4, w ∈ wsX1_init) w h)
  refine lv_aload_n hx hb dX1_init_0 rfl (lv_at hl 0 rfl) ?_
  refine W.objInit hx hb hown (hts (.methodLink RX1 1 objectInit) (by decide +kernel)) (hts (.instanceMethod objectInit) (by decide +kernel)) (hts (.code objectInit ⟨#[0xb1]⟩ 1 none) (by decide +kernel)) rfl (by rw [hml]; first | exact hl.1 | exact hl.1.symm) rfl dX1_init_1 (Nat.le_of_ble_eq_true rfl) (Nat.le_of_ble_eq_true rfl) ?_
  refine W.eq (g2 := F0 m 4 ls []) rfl ?_
  refine lv_aload_n hx hb dX1_init_4 rfl (lv_at hl 0 rfl) ?_
  refine lv_iload_n hx hb dX1_init_5 rfl (lv_at hl 1 rfl) ?_
  refine k_nputF (K := RX1) (T := TX1) (N := 4) (v := .int ki) (ty := tyX1 0) hx hb fX1 tyX1 tyX1_ok nmX1 hown hK hW hL 0 rfl rfl 0 (by decide) (hts (.fieldLink RX1 7 "Crossdockery$Event" "kind" "I") (by decide +kernel)) (fun x h => h) rfl (hnm.trans rfl) rfl (tyX1_ok 0 (by decide)) rfl rfl (Nat.le_of_ble_eq_true rfl) (ws' := (a, .inr (7, [.int ki, .int 0, .int 0, .int 0])) :: ws) rfl dX1_init_6 (fun H locs hW hL => ?_)
  refine lv_aload_n hx hb dX1_init_9 rfl (lv_at hl 0 rfl) ?_
  refine lv_iload_n hx hb dX1_init_10 rfl (lv_at hl 2 rfl) ?_
  refine k_nputF (K := RX1) (T := TX1) (N := 4) (v := .int fi) (ty := tyX1 1) hx hb fX1 tyX1 tyX1_ok nmX1 hown hK hW hL 0 rfl rfl 1 (by decide) (hts (.fieldLink RX1 13 "Crossdockery$Event" "first" "I") (by decide +kernel)) (fun x h => h) rfl (hnm.trans rfl) rfl (tyX1_ok 1 (by decide)) rfl rfl (Nat.le_of_ble_eq_true rfl) (ws' := (a, .inr (7, [.int ki, .int fi, .int 0, .int 0])) :: ws) rfl dX1_init_11 (fun H locs hW hL => ?_)
  refine lv_aload_n hx hb dX1_init_14 rfl (lv_at hl 0 rfl) ?_
  refine lv_iload_n hx hb dX1_init_15 rfl (lv_at hl 3 rfl) ?_
  refine k_nputF (K := RX1) (T := TX1) (N := 4) (v := .int se) (ty := tyX1 2) hx hb fX1 tyX1 tyX1_ok nmX1 hown hK hW hL 0 rfl rfl 2 (by decide) (hts (.fieldLink RX1 16 "Crossdockery$Event" "second" "I") (by decide +kernel)) (fun x h => h) rfl (hnm.trans rfl) rfl (tyX1_ok 2 (by decide)) rfl rfl (Nat.le_of_ble_eq_true rfl) (ws' := (a, .inr (7, [.int ki, .int fi, .int se, .int 0])) :: ws) rfl dX1_init_16 (fun H locs hW hL => ?_)
  refine lv_aload_n hx hb dX1_init_19 rfl (lv_at hl 0 rfl) ?_
  refine lv_iload hx hb dX1_init_20 (lv_at hl 4 rfl) ?_
  refine k_nputF (K := RX1) (T := TX1) (N := 4) (v := .int th) (ty := tyX1 3) hx hb fX1 tyX1 tyX1_ok nmX1 hown hK hW hL 0 rfl rfl 3 (by decide) (hts (.fieldLink RX1 19 "Crossdockery$Event" "third" "I") (by decide +kernel)) (fun x h => h) rfl (hnm.trans rfl) rfl (tyX1_ok 3 (by decide)) rfl rfl (Nat.le_of_ble_eq_true rfl) (ws' := (a, .inr (7, [.int ki, .int fi, .int se, .int th])) :: ws) rfl dX1_init_22 (fun H locs hW hL => ?_)
  exact k_vret hx hb hr hlocks ⟨rfl, hW⟩ hL dX1_init_25
set_option maxHeartbeats 400000 in
set_option maxRecDepth 100000 in
theorem c_X2_init (X : kX) (l : Launch) {n : Nat → Nat → Nat} {ad L : Nat → Nat → Nat → Nat} {C : Nat → Nat → Nat → Nat → Int32} {fr : Nat → Option Cell} {ws : va_W} (a : Nat) (sp fo tu : Int32) : k_M X l yX2_init wsX2_init ({ frames := 1, cells := 0, slots := 0, locals := 12 }) [.ref a, .int sp, .int fo, .int tu] (k_N X n ad L C fr ((a, .inr (8, [.int 0, .int 0, .int 0, .int 0])) :: ws)) (fun v H => v = none ∧ k_N X n ad L C fr ((a, .inr (8, [.int sp, .int fo, .int tu, .int (-1)])) :: ws) H) 0 0 := by
  refine k_M.of (cc := cX2_init) (maxL := 4) (ret := none) (by decide) rfl (Nat.le_of_ble_eq_true rfl) ?_
  intro p e s m args below meth c ls hx hb hr hml hown hts hlocks hnm hK hW hl
  have hL : ∀ q ∈ ([] : List Loc), k_B X ≤ q.base := fun _ h => nomatch h
  have hl : lv_has ls 4 [(0, .ref a), (1, .int sp), (2, .int fo), (3, .int tu)] := hl
  have fX2 : ∀ w ∈ u_ws RX2 TX2 4, w.before args s = true := fun w h => hts w ((by decide +kernel : ∀ w ∈ u_ws RX2 TX2 4, w ∈ wsX2_init) w h)
  refine lv_aload_n hx hb dX2_init_0 rfl (lv_at hl 0 rfl) ?_
  refine W.objInit hx hb hown (hts (.methodLink RX2 3 objectInit) (by decide +kernel)) (hts (.instanceMethod objectInit) (by decide +kernel)) (hts (.code objectInit ⟨#[0xb1]⟩ 1 none) (by decide +kernel)) rfl (by rw [hml]; first | exact hl.1 | exact hl.1.symm) rfl dX2_init_1 (Nat.le_of_ble_eq_true rfl) (Nat.le_of_ble_eq_true rfl) ?_
  refine W.eq (g2 := F0 m 4 ls []) rfl ?_
  refine lv_aload_n hx hb dX2_init_4 rfl (lv_at hl 0 rfl) ?_
  refine lv_iconst (v := (-1)) hx hb dX2_init_5 (by decide) ?_
  refine k_nput (K := RX2) (T := TX2) (N := 4) (v := .int (-1)) (ty := tyX2 3) hx hb fX2 tyX2 tyX2_ok nmX2 hown hK hW hL 0 rfl rfl 3 (by decide) (hts (.fieldLink RX2 9 "Crossdockery$Gang" "door" "I") (by decide +kernel)) (fun x h => h) rfl (tyX2_ok 3 (by decide)) rfl rfl (Nat.le_of_ble_eq_true rfl) (ws' := (a, .inr (8, [.int 0, .int 0, .int 0, .int (-1)])) :: ws) rfl dX2_init_6 (fun H locs hW hL => ?_)
  refine lv_aload_n hx hb dX2_init_9 rfl (lv_at hl 0 rfl) ?_
  refine lv_iload_n hx hb dX2_init_10 rfl (lv_at hl 1 rfl) ?_
  refine k_nputF (K := RX2) (T := TX2) (N := 4) (v := .int sp) (ty := tyX2 0) hx hb fX2 tyX2 tyX2_ok nmX2 hown hK hW hL 0 rfl rfl 0 (by decide) (hts (.fieldLink RX2 15 "Crossdockery$Gang" "speed" "I") (by decide +kernel)) (fun x h => h) rfl (hnm.trans rfl) rfl (tyX2_ok 0 (by decide)) rfl rfl (Nat.le_of_ble_eq_true rfl) (ws' := (a, .inr (8, [.int sp, .int 0, .int 0, .int (-1)])) :: ws) rfl dX2_init_11 (fun H locs hW hL => ?_)
  refine lv_aload_n hx hb dX2_init_14 rfl (lv_at hl 0 rfl) ?_
  refine lv_iload_n hx hb dX2_init_15 rfl (lv_at hl 2 rfl) ?_
  refine k_nputF (K := RX2) (T := TX2) (N := 4) (v := .int fo) (ty := tyX2 1) hx hb fX2 tyX2 tyX2_ok nmX2 hown hK hW hL 0 rfl rfl 1 (by decide) (hts (.fieldLink RX2 18 "Crossdockery$Gang" "from" "I") (by decide +kernel)) (fun x h => h) rfl (hnm.trans rfl) rfl (tyX2_ok 1 (by decide)) rfl rfl (Nat.le_of_ble_eq_true rfl) (ws' := (a, .inr (8, [.int sp, .int fo, .int 0, .int (-1)])) :: ws) rfl dX2_init_16 (fun H locs hW hL => ?_)
  refine lv_aload_n hx hb dX2_init_19 rfl (lv_at hl 0 rfl) ?_
  refine lv_iload_n hx hb dX2_init_20 rfl (lv_at hl 3 rfl) ?_
  refine k_nputF (K := RX2) (T := TX2) (N := 4) (v := .int tu) (ty := tyX2 2) hx hb fX2 tyX2 tyX2_ok nmX2 hown hK hW hL 0 rfl rfl 2 (by decide) (hts (.fieldLink RX2 21 "Crossdockery$Gang" "to" "I") (by decide +kernel)) (fun x h => h) rfl (hnm.trans rfl) rfl (tyX2_ok 2 (by decide)) rfl rfl (Nat.le_of_ble_eq_true rfl) (ws' := (a, .inr (8, [.int sp, .int fo, .int tu, .int (-1)])) :: ws) rfl dX2_init_21 (fun H locs hW hL => ?_)
  exact k_vret hx hb hr hlocks ⟨rfl, hW⟩ hL dX2_init_24
set_option maxHeartbeats 400000 in
set_option maxRecDepth 100000 in
theorem c_X3_init (X : kX) (l : Launch) {n : Nat → Nat → Nat} {ad L : Nat → Nat → Nat → Nat} {C : Nat → Nat → Nat → Nat → Int32} {fr : Nat → Option Cell} {ws : va_W} (a : Nat) (nu br pl ra : Int32) (hbr : br = 0 ∨ br = 1) : k_M X l yX3_init wsX3_init ({ frames := 1, cells := 1, slots := 9, locals := 12 }) [.ref a, .int nu, .int br, .int pl, .int ra] (k_N X n ad L C fr ((a, .inr (9, [.int 0, .int 0, .int 0, .int 0, .int 0, .int 0, .int 0, .int 0, .int 0, .int 0, .int 0, .int 0, .int 0, .int 0, .null])) :: ws)) (fun v H => v = none ∧ ∃ q1, k_N X n ad L C fr ((q1, .inl (X.2.1 0, 9, .inl (fun _ => 0))) :: (a, .inr (9, [.int nu, .int br, .int pl, .int ra, .int (-1), .int 101, .int 0, .int 0, .int 0, .int 0, .int 0, .int 0, .int (-2), .int (-1), .ref q1])) :: ws) H) 1 9 := by
  refine k_M.of (cc := cX3_init) (maxL := 5) (ret := none) (by decide) rfl (Nat.le_of_ble_eq_true rfl) ?_
  intro p e s m args below meth c ls hx hb hr hml hown hts hlocks hnm hK hW hl
  have hL : ∀ q ∈ ([] : List Loc), k_B X ≤ q.base := fun _ h => nomatch h
  have hl : lv_has ls 5 [(0, .ref a), (1, .int nu), (2, .int br), (3, .int pl), (4, .int ra)] := hl
  have fX3 : ∀ w ∈ u_ws RX3 TX3 15, w.before args s = true := fun w h => hts w ((by decide +kernel : ∀ w ∈ u_ws RX3 TX3 15, w ∈ wsX3_init) w h)
  refine lv_aload_n hx hb dX3_init_0 rfl (lv_at hl 0 rfl) ?_
  refine W.objInit hx hb hown (hts (.methodLink RX3 3 objectInit) (by decide +kernel)) (hts (.instanceMethod objectInit) (by decide +kernel)) (hts (.code objectInit ⟨#[0xb1]⟩ 1 none) (by decide +kernel)) rfl (by rw [hml]; first | exact hl.1 | exact hl.1.symm) rfl dX3_init_1 (Nat.le_of_ble_eq_true rfl) (Nat.le_of_ble_eq_true rfl) ?_
  refine W.eq (g2 := F0 m 4 ls []) rfl ?_
  refine lv_aload_n hx hb dX3_init_4 rfl (lv_at hl 0 rfl) ?_
  refine lv_iconst (v := (-1)) hx hb dX3_init_5 (by decide) ?_
  refine k_nput (K := RX3) (T := TX3) (N := 15) (v := .int (-1)) (ty := tyX3 4) hx hb fX3 tyX3 tyX3_ok nmX3 hown hK hW hL 0 rfl rfl 4 (by decide) (hts (.fieldLink RX3 9 "Crossdockery$Lorry" "door" "I") (by decide +kernel)) (fun x h => h) rfl (tyX3_ok 4 (by decide)) rfl rfl (Nat.le_of_ble_eq_true rfl) (ws' := (a, .inr (9, [.int 0, .int 0, .int 0, .int 0, .int (-1), .int 0, .int 0, .int 0, .int 0, .int 0, .int 0, .int 0, .int 0, .int 0, .null])) :: ws) rfl dX3_init_6 (fun H locs hW hL => ?_)
  refine lv_aload_n hx hb dX3_init_9 rfl (lv_at hl 0 rfl) ?_
  refine lv_bipush (v := 101) hx hb dX3_init_10 (by decide) ?_
  refine k_nput (K := RX3) (T := TX3) (N := 15) (v := .int 101) (ty := tyX3 5) hx hb fX3 tyX3 tyX3_ok nmX3 hown hK hW hL 0 rfl rfl 5 (by decide) (hts (.fieldLink RX3 15 "Crossdockery$Lorry" "state" "C") (by decide +kernel)) (fun x h => h) rfl (tyX3_ok 5 (by decide)) (by decide +kernel) (by decide +kernel) (Nat.le_of_ble_eq_true rfl) (ws' := (a, .inr (9, [.int 0, .int 0, .int 0, .int 0, .int (-1), .int 101, .int 0, .int 0, .int 0, .int 0, .int 0, .int 0, .int 0, .int 0, .null])) :: ws) rfl dX3_init_12 (fun H locs hW hL => ?_)
  refine lv_aload_n hx hb dX3_init_15 rfl (lv_at hl 0 rfl) ?_
  refine lv_bipush (v := (-2)) hx hb dX3_init_16 (by decide) ?_
  refine k_nput (K := RX3) (T := TX3) (N := 15) (v := .int (-2)) (ty := tyX3 12) hx hb fX3 tyX3 tyX3_ok nmX3 hown hK hW hL 0 rfl rfl 12 (by decide) (hts (.fieldLink RX3 19 "Crossdockery$Lorry" "lastDebtor" "I") (by decide +kernel)) (fun x h => h) rfl (tyX3_ok 12 (by decide)) rfl rfl (Nat.le_of_ble_eq_true rfl) (ws' := (a, .inr (9, [.int 0, .int 0, .int 0, .int 0, .int (-1), .int 101, .int 0, .int 0, .int 0, .int 0, .int 0, .int 0, .int (-2), .int 0, .null])) :: ws) rfl dX3_init_18 (fun H locs hW hL => ?_)
  refine lv_aload_n hx hb dX3_init_21 rfl (lv_at hl 0 rfl) ?_
  refine lv_iconst (v := (-1)) hx hb dX3_init_22 (by decide) ?_
  refine k_nput (K := RX3) (T := TX3) (N := 15) (v := .int (-1)) (ty := tyX3 13) hx hb fX3 tyX3 tyX3_ok nmX3 hown hK hW hL 0 rfl rfl 13 (by decide) (hts (.fieldLink RX3 22 "Crossdockery$Lorry" "debtorAtDoor" "I") (by decide +kernel)) (fun x h => h) rfl (tyX3_ok 13 (by decide)) rfl rfl (Nat.le_of_ble_eq_true rfl) (ws' := (a, .inr (9, [.int 0, .int 0, .int 0, .int 0, .int (-1), .int 101, .int 0, .int 0, .int 0, .int 0, .int 0, .int 0, .int (-2), .int (-1), .null])) :: ws) rfl dX3_init_23 (fun H locs hW hL => ?_)
  refine lv_aload_n hx hb dX3_init_26 rfl (lv_at hl 0 rfl) ?_
  refine lv_bipush (v := 9) hx hb dX3_init_27 (by decide) ?_
  refine k_newa (atype := .int) (a0 := (9, .inl (fun _ => 0))) hx hb (hts (.arrayClass .int) (by decide +kernel)) 0 rfl (fun _ h => h) hK hW (vp_cell_i _ _ _) (by decide) (N' := 9) (by decide) (by decide +kernel) (Nat.le_of_ble_eq_true rfl) (Nat.le_of_ble_eq_true rfl) dX3_init_29 (fun q1 H hW => ?_)
  refine k_nputF (K := RX3) (T := TX3) (N := 15) (v := .ref q1) (ty := tyX3 14) hx hb fX3 tyX3 tyX3_ok nmX3 hown hK hW hL 1 rfl rfl 14 (by decide) (hts (.fieldLink RX3 25 "Crossdockery$Lorry" "minutesOf" "[I") (by decide +kernel)) (fun x h => h) rfl (hnm.trans rfl) rfl (tyX3_ok 14 (by decide)) rfl rfl (Nat.le_of_ble_eq_true rfl) (ws' := (q1, .inl (X.2.1 0, 9, .inl (fun _ => 0))) :: (a, .inr (9, [.int 0, .int 0, .int 0, .int 0, .int (-1), .int 101, .int 0, .int 0, .int 0, .int 0, .int 0, .int 0, .int (-2), .int (-1), .ref q1])) :: ws) rfl dX3_init_31 (fun H locs hW hL => ?_)
  refine lv_aload_n hx hb dX3_init_34 rfl (lv_at hl 0 rfl) ?_
  refine lv_iload_n hx hb dX3_init_35 rfl (lv_at hl 1 rfl) ?_
  refine k_nputF (K := RX3) (T := TX3) (N := 15) (v := .int nu) (ty := tyX3 0) hx hb fX3 tyX3 tyX3_ok nmX3 hown hK hW hL 1 rfl rfl 0 (by decide) (hts (.fieldLink RX3 29 "Crossdockery$Lorry" "number" "I") (by decide +kernel)) (fun x h => h) rfl (hnm.trans rfl) rfl (tyX3_ok 0 (by decide)) rfl rfl (Nat.le_of_ble_eq_true rfl) (ws' := (q1, .inl (X.2.1 0, 9, .inl (fun _ => 0))) :: (a, .inr (9, [.int nu, .int 0, .int 0, .int 0, .int (-1), .int 101, .int 0, .int 0, .int 0, .int 0, .int 0, .int 0, .int (-2), .int (-1), .ref q1])) :: ws) rfl dX3_init_36 (fun H locs hW hL => ?_)
  refine lv_aload_n hx hb dX3_init_39 rfl (lv_at hl 0 rfl) ?_
  refine lv_iload_n hx hb dX3_init_40 rfl (lv_at hl 2 rfl) ?_
  refine k_nputF (K := RX3) (T := TX3) (N := 15) (v := .int br) (ty := tyX3 1) hx hb fX3 tyX3 tyX3_ok nmX3 hown hK hW hL 1 rfl rfl 1 (by decide) (hts (.fieldLink RX3 32 "Crossdockery$Lorry" "isBringing" "Z") (by decide +kernel)) (fun x h => h) rfl (hnm.trans rfl) rfl (tyX3_ok 1 (by decide)) (k_01 (by assumption)) (k_01f (by assumption)) (Nat.le_of_ble_eq_true rfl) (ws' := (q1, .inl (X.2.1 0, 9, .inl (fun _ => 0))) :: (a, .inr (9, [.int nu, .int br, .int 0, .int 0, .int (-1), .int 101, .int 0, .int 0, .int 0, .int 0, .int 0, .int 0, .int (-2), .int (-1), .ref q1])) :: ws) rfl dX3_init_41 (fun H locs hW hL => ?_)
  refine lv_aload_n hx hb dX3_init_44 rfl (lv_at hl 0 rfl) ?_
  refine lv_iload_n hx hb dX3_init_45 rfl (lv_at hl 3 rfl) ?_
  refine k_nputF (K := RX3) (T := TX3) (N := 15) (v := .int pl) (ty := tyX3 2) hx hb fX3 tyX3 tyX3_ok nmX3 hown hK hW hL 1 rfl rfl 2 (by decide) (hts (.fieldLink RX3 36 "Crossdockery$Lorry" "planned" "I") (by decide +kernel)) (fun x h => h) rfl (hnm.trans rfl) rfl (tyX3_ok 2 (by decide)) rfl rfl (Nat.le_of_ble_eq_true rfl) (ws' := (q1, .inl (X.2.1 0, 9, .inl (fun _ => 0))) :: (a, .inr (9, [.int nu, .int br, .int pl, .int 0, .int (-1), .int 101, .int 0, .int 0, .int 0, .int 0, .int 0, .int 0, .int (-2), .int (-1), .ref q1])) :: ws) rfl dX3_init_46 (fun H locs hW hL => ?_)
  refine lv_aload_n hx hb dX3_init_49 rfl (lv_at hl 0 rfl) ?_
  refine lv_iload hx hb dX3_init_50 (lv_at hl 4 rfl) ?_
  refine k_nputF (K := RX3) (T := TX3) (N := 15) (v := .int ra) (ty := tyX3 3) hx hb fX3 tyX3 tyX3_ok nmX3 hown hK hW hL 1 rfl rfl 3 (by decide) (hts (.fieldLink RX3 39 "Crossdockery$Lorry" "rate" "I") (by decide +kernel)) (fun x h => h) rfl (hnm.trans rfl) rfl (tyX3_ok 3 (by decide)) rfl rfl (Nat.le_of_ble_eq_true rfl) (ws' := (q1, .inl (X.2.1 0, 9, .inl (fun _ => 0))) :: (a, .inr (9, [.int nu, .int br, .int pl, .int ra, .int (-1), .int 101, .int 0, .int 0, .int 0, .int 0, .int 0, .int 0, .int (-2), .int (-1), .ref q1])) :: ws) rfl dX3_init_52 (fun H locs hW hL => ?_)
  exact k_vret hx hb hr hlocks ⟨rfl, q1, hW⟩ hL dX3_init_55
set_option maxHeartbeats 400000 in
set_option maxRecDepth 100000 in
theorem c_X5_init (X : kX) (l : Launch) {n : Nat → Nat → Nat} {ad L : Nat → Nat → Nat → Nat} {C : Nat → Nat → Nat → Nat → Int32} {fr : Nat → Option Cell} {ws : va_W} (a : Nat) (x y : Nat) (un : Int32) : k_M X l yX5_init wsX5_init ({ frames := 1, cells := 1, slots := 4, locals := 12 }) [.ref a, .ref x, .ref y, .int un] (k_N X n ad L C fr ((a, .inr (11, [.null, .null, .int 0, .int 0, .int 0, .int 0, .null])) :: ws)) (fun v H => v = none ∧ ∃ q1, k_N X n ad L C fr ((q1, .inl (X.2.1 0, 4, .inl (fun _ => 0))) :: (a, .inr (11, [.ref x, .ref y, .int un, .int 0, .int 0, .int 0, .ref q1])) :: ws) H) 1 4 := by
  refine k_M.of (cc := cX5_init) (maxL := 4) (ret := none) (by decide) rfl (Nat.le_of_ble_eq_true rfl) ?_
  intro p e s m args below meth c ls hx hb hr hml hown hts hlocks hnm hK hW hl
  have hL : ∀ q ∈ ([] : List Loc), k_B X ≤ q.base := fun _ h => nomatch h
  have hl : lv_has ls 4 [(0, .ref a), (1, .ref x), (2, .ref y), (3, .int un)] := hl
  have fX5 : ∀ w ∈ u_ws RX5 TX5 7, w.before args s = true := fun w h => hts w ((by decide +kernel : ∀ w ∈ u_ws RX5 TX5 7, w ∈ wsX5_init) w h)
  refine lv_aload_n hx hb dX5_init_0 rfl (lv_at hl 0 rfl) ?_
  refine W.objInit hx hb hown (hts (.methodLink RX5 3 objectInit) (by decide +kernel)) (hts (.instanceMethod objectInit) (by decide +kernel)) (hts (.code objectInit ⟨#[0xb1]⟩ 1 none) (by decide +kernel)) rfl (by rw [hml]; first | exact hl.1 | exact hl.1.symm) rfl dX5_init_1 (Nat.le_of_ble_eq_true rfl) (Nat.le_of_ble_eq_true rfl) ?_
  refine W.eq (g2 := F0 m 4 ls []) rfl ?_
  refine lv_aload_n hx hb dX5_init_4 rfl (lv_at hl 0 rfl) ?_
  refine lv_iconst (v := 4) hx hb dX5_init_5 (by decide) ?_
  refine k_newa (atype := .int) (a0 := (4, .inl (fun _ => 0))) hx hb (hts (.arrayClass .int) (by decide +kernel)) 0 rfl (fun _ h => h) hK hW (vp_cell_i _ _ _) (by decide) (N' := 4) (by decide) (by decide +kernel) (Nat.le_of_ble_eq_true rfl) (Nat.le_of_ble_eq_true rfl) dX5_init_6 (fun q1 H hW => ?_)
  refine k_nputF (K := RX5) (T := TX5) (N := 7) (v := .ref q1) (ty := tyX5 6) hx hb fX5 tyX5 tyX5_ok nmX5 hown hK hW hL 1 rfl rfl 6 (by decide) (hts (.fieldLink RX5 9 "Crossdockery$Transfer" "coming" "[I") (by decide +kernel)) (fun x h => h) rfl (hnm.trans rfl) rfl (tyX5_ok 6 (by decide)) rfl rfl (Nat.le_of_ble_eq_true rfl) (ws' := (q1, .inl (X.2.1 0, 4, .inl (fun _ => 0))) :: (a, .inr (11, [.null, .null, .int 0, .int 0, .int 0, .int 0, .ref q1])) :: ws) rfl dX5_init_8 (fun H locs hW hL => ?_)
  refine lv_aload_n hx hb dX5_init_11 rfl (lv_at hl 0 rfl) ?_
  refine lv_aload_n hx hb dX5_init_12 rfl (lv_at hl 1 rfl) ?_
  refine k_nputF (K := RX5) (T := TX5) (N := 7) (v := .ref x) (ty := tyX5 0) hx hb fX5 tyX5 tyX5_ok nmX5 hown hK hW hL 1 rfl rfl 0 (by decide) (hts (.fieldLink RX5 15 "Crossdockery$Transfer" "from" "LCrossdockery$Lorry;") (by decide +kernel)) (fun x h => h) rfl (hnm.trans rfl) rfl (tyX5_ok 0 (by decide)) rfl rfl (Nat.le_of_ble_eq_true rfl) (ws' := (q1, .inl (X.2.1 0, 4, .inl (fun _ => 0))) :: (a, .inr (11, [.ref x, .null, .int 0, .int 0, .int 0, .int 0, .ref q1])) :: ws) rfl dX5_init_13 (fun H locs hW hL => ?_)
  refine lv_aload_n hx hb dX5_init_16 rfl (lv_at hl 0 rfl) ?_
  refine lv_aload_n hx hb dX5_init_17 rfl (lv_at hl 2 rfl) ?_
  refine k_nputF (K := RX5) (T := TX5) (N := 7) (v := .ref y) (ty := tyX5 1) hx hb fX5 tyX5 tyX5_ok nmX5 hown hK hW hL 1 rfl rfl 1 (by decide) (hts (.fieldLink RX5 19 "Crossdockery$Transfer" "to" "LCrossdockery$Lorry;") (by decide +kernel)) (fun x h => h) rfl (hnm.trans rfl) rfl (tyX5_ok 1 (by decide)) rfl rfl (Nat.le_of_ble_eq_true rfl) (ws' := (q1, .inl (X.2.1 0, 4, .inl (fun _ => 0))) :: (a, .inr (11, [.ref x, .ref y, .int 0, .int 0, .int 0, .int 0, .ref q1])) :: ws) rfl dX5_init_18 (fun H locs hW hL => ?_)
  refine lv_aload_n hx hb dX5_init_21 rfl (lv_at hl 0 rfl) ?_
  refine lv_iload_n hx hb dX5_init_22 rfl (lv_at hl 3 rfl) ?_
  refine k_nputF (K := RX5) (T := TX5) (N := 7) (v := .int un) (ty := tyX5 2) hx hb fX5 tyX5 tyX5_ok nmX5 hown hK hW hL 1 rfl rfl 2 (by decide) (hts (.fieldLink RX5 22 "Crossdockery$Transfer" "units" "I") (by decide +kernel)) (fun x h => h) rfl (hnm.trans rfl) rfl (tyX5_ok 2 (by decide)) rfl rfl (Nat.le_of_ble_eq_true rfl) (ws' := (q1, .inl (X.2.1 0, 4, .inl (fun _ => 0))) :: (a, .inr (11, [.ref x, .ref y, .int un, .int 0, .int 0, .int 0, .ref q1])) :: ws) rfl dX5_init_23 (fun H locs hW hL => ?_)
  exact k_vret hx hb hr hlocks ⟨rfl, q1, hW⟩ hL dX5_init_26
set_option maxHeartbeats 400000 in
set_option maxRecDepth 100000 in
theorem c_Jxa1e45_init_da8c8 (X : kX) (l : Launch) {n : Nat → Nat → Nat} {ad L : Nat → Nat → Nat → Nat} {C : Nat → Nat → Nat → Nat → Int32} {fr : Nat → Option Cell} {ws : va_W} (a : Nat) : k_M X l yJxa1e45_init_da8c8 wsJxa1e45_init_da8c8 ({ frames := 1, cells := 0, slots := 0, locals := 12 }) [.ref a] (k_N X n ad L C fr ((a, .inr (3, [.int 0, .null, .int 0])) :: ws)) (fun v H => v = none ∧ k_N X n ad L C fr ((a, .inr (3, [.int 0, .null, .int 0])) :: ws) H) 0 0 := by
  refine k_M.of (cc := cJxa1e45_init_da8c8) (maxL := 1) (ret := none) (by decide) rfl (Nat.le_of_ble_eq_true rfl) ?_
  intro p e s m args below meth c ls hx hb hr hml hown hts hlocks hnm hK hW hl
  have hL : ∀ q ∈ ([] : List Loc), k_B X ≤ q.base := fun _ h => nomatch h
  have hl : lv_has ls 1 [(0, .ref a)] := hl
  refine lv_aload_n hx hb dJxa1e45_init_da8c8_0 rfl (lv_at hl 0 rfl) ?_
  refine W.objInit hx hb hown (hts (.methodLink RJxa1e45 1 objectInit) (by decide +kernel)) (hts (.instanceMethod objectInit) (by decide +kernel)) (hts (.code objectInit ⟨#[0xb1]⟩ 1 none) (by decide +kernel)) rfl (by rw [hml]; first | exact hl.1 | exact hl.1.symm) rfl dJxa1e45_init_da8c8_1 (Nat.le_of_ble_eq_true rfl) (Nat.le_of_ble_eq_true rfl) ?_
  refine W.eq (g2 := F0 m 4 ls []) rfl ?_
  exact k_vret hx hb hr hlocks ⟨rfl, hW⟩ hL dJxa1e45_init_da8c8_4
set_option maxHeartbeats 400000 in
set_option maxRecDepth 100000 in
theorem c_Jxc12de_init_da8c8 (X : kX) (l : Launch) {n : Nat → Nat → Nat} {ad L : Nat → Nat → Nat → Nat} {C : Nat → Nat → Nat → Nat → Int32} {fr : Nat → Option Cell} {ws : va_W} (a : Nat) : k_M X l yJxc12de_init_da8c8 wsJxc12de_init_da8c8 ({ frames := 2, cells := 0, slots := 0, locals := 32 }) [.ref a] (k_N X n ad L C fr ((a, .inr (3, [.int 0, .null, .int 0])) :: ws)) (fun v H => v = none ∧ k_N X n ad L C fr ((a, .inr (3, [.int 0, .null, .int 0])) :: ws) H) 0 0 := by
  refine k_M.of (cc := cJxc12de_init_da8c8) (maxL := 1) (ret := none) (by decide) rfl (Nat.le_of_ble_eq_true rfl) ?_
  intro p e s m args below meth c ls hx hb hr hml hown hts hlocks hnm hK hW hl
  have hL : ∀ q ∈ ([] : List Loc), k_B X ≤ q.base := fun _ h => nomatch h
  have hl : lv_has ls 1 [(0, .ref a)] := hl
  have fJx4a65c : ∀ w ∈ u_ws RJx4a65c TJx4a65c 3, w.before args s = true := fun w h => hts w ((by decide +kernel : ∀ w ∈ u_ws RJx4a65c TJx4a65c 3, w ∈ wsJxc12de_init_da8c8) w h)
  refine lv_aload_n hx hb dJxc12de_init_da8c8_0 rfl (lv_at hl 0 rfl) ?_
  refine k_callI (As := []) (rest := []) ⟨hx, hb, hml, hown, hts⟩ hK (c_Jxa1e45_init_da8c8 X l a) (cwI 0 hts gJxc12de_init_da8c8_Jxa1e45_init_da8c8 rfl rfl rfl (hts (.initialized RJxa1e45) (by decide +kernel)) (hts (.methodLink RJxc12de 1 yJxa1e45_init_da8c8) (by decide +kernel)) (hts (.instanceMethod yJxa1e45_init_da8c8) (by decide +kernel)) rfl (by decide +kernel) ⟨Nat.le_of_ble_eq_true rfl, Nat.le_of_ble_eq_true rfl⟩) hW rfl hl.1 rfl (Nat.le_of_ble_eq_true rfl) dJxc12de_init_da8c8_1 ⟨Nat.le_of_ble_eq_true rfl, Nat.le_of_ble_eq_true rfl⟩ hL (fun v9 H locs hp hL => ?_)
  obtain ⟨rfl, hW⟩ := hp
  refine lv_aload_n hx hb dJxc12de_init_da8c8_4 rfl (lv_at hl 0 rfl) ?_
  refine lv_iconst (v := 0) hx hb dJxc12de_init_da8c8_5 (by decide) ?_
  refine k_nput (K := RJx4a65c) (T := TJx4a65c) (N := 3) (v := .int 0) (ty := tyJx4a65c 0) hx hb fJx4a65c tyJx4a65c tyJx4a65c_ok nmJx4a65c hown hK hW hL 0 rfl rfl 0 (by decide) (hts (.fieldLink RJxc12de 7 "java/util/AbstractList" "modCount" "I") (by decide +kernel)) (fun x h => h) rfl (tyJx4a65c_ok 0 (by decide)) rfl rfl (Nat.le_of_ble_eq_true rfl) (ws' := (a, .inr (3, [.int 0, .null, .int 0])) :: ws) rfl dJxc12de_init_da8c8_6 (fun H locs hW hL => ?_)
  exact k_vret hx hb hr hlocks ⟨rfl, hW⟩ hL dJxc12de_init_da8c8_9
set_option maxHeartbeats 400000 in
set_option maxRecDepth 100000 in
theorem c_Jx4a65c_init_da8c8 (X : kX) (l : Launch) {n : Nat → Nat → Nat} {ad L : Nat → Nat → Nat → Nat} {C : Nat → Nat → Nat → Nat → Int32} {fr : Nat → Option Cell} {ws : va_W} (a : Nat) : k_M X l yJx4a65c_init_da8c8 wsJx4a65c_init_da8c8 ({ frames := 3, cells := 0, slots := 0, locals := 52 }) [.ref a] (k_N X n ad L C fr ((a, .inr (3, [.int 0, .null, .int 0])) :: ws)) (fun v H => v = none ∧ k_N X n ad L C fr ((a, .inr (3, [.int 0, .ref X.2.2.2, .int 0])) :: ws) H) 0 0 := by
  refine k_M.of (cc := cJx4a65c_init_da8c8) (maxL := 1) (ret := none) (by decide) rfl (Nat.le_of_ble_eq_true rfl) ?_
  intro p e s m args below meth c ls hx hb hr hml hown hts hlocks hnm hK hW hl
  have hL : ∀ q ∈ ([] : List Loc), k_B X ≤ q.base := fun _ h => nomatch h
  have hl : lv_has ls 1 [(0, .ref a)] := hl
  have fJx4a65c : ∀ w ∈ u_ws RJx4a65c TJx4a65c 3, w.before args s = true := fun w h => hts w ((by decide +kernel : ∀ w ∈ u_ws RJx4a65c TJx4a65c 3, w ∈ wsJx4a65c_init_da8c8) w h)
  refine lv_aload_n hx hb dJx4a65c_init_da8c8_0 rfl (lv_at hl 0 rfl) ?_
  refine k_callI (As := []) (rest := []) ⟨hx, hb, hml, hown, hts⟩ hK (c_Jxc12de_init_da8c8 X l a) (cwI 0 hts gJx4a65c_init_da8c8_Jxc12de_init_da8c8 rfl rfl rfl (hts (.initialized RJxc12de) (by decide +kernel)) (hts (.methodLink RJx4a65c 1 yJxc12de_init_da8c8) (by decide +kernel)) (hts (.instanceMethod yJxc12de_init_da8c8) (by decide +kernel)) rfl (by decide +kernel) ⟨Nat.le_of_ble_eq_true rfl, Nat.le_of_ble_eq_true rfl⟩) hW rfl hl.1 rfl (Nat.le_of_ble_eq_true rfl) dJx4a65c_init_da8c8_1 ⟨Nat.le_of_ble_eq_true rfl, Nat.le_of_ble_eq_true rfl⟩ hL (fun v9 H locs hp hL => ?_)
  obtain ⟨rfl, hW⟩ := hp
  refine lv_aload_n hx hb dJx4a65c_init_da8c8_4 rfl (lv_at hl 0 rfl) ?_
  refine k_gets hx hb hK hW.1 hown (hts (.fieldLink RJx4a65c 39 "java/util/ArrayList" "DEFAULTCAPACITY_EMPTY_ELEMENTDATA" "[Ljava/lang/Object;") (by decide +kernel)) (fun x h => h) dJx4a65c_init_da8c8_5 ?_
  refine k_nput (K := RJx4a65c) (T := TJx4a65c) (N := 3) (v := .ref X.2.2.2) (ty := tyJx4a65c 1) hx hb fJx4a65c tyJx4a65c tyJx4a65c_ok nmJx4a65c hown hK hW hL 0 rfl rfl 1 (by decide) (hts (.fieldLink RJx4a65c 9 "java/util/ArrayList" "elementData" "[Ljava/lang/Object;") (by decide +kernel)) (fun x h => h) rfl (tyJx4a65c_ok 1 (by decide)) rfl rfl (Nat.le_of_ble_eq_true rfl) (ws' := (a, .inr (3, [.int 0, .ref X.2.2.2, .int 0])) :: ws) rfl dJx4a65c_init_da8c8_8 (fun H locs hW hL => ?_)
  exact k_vret hx hb hr hlocks ⟨rfl, hW⟩ hL dJx4a65c_init_da8c8_11
set_option maxHeartbeats 400000 in
set_option maxRecDepth 100000 in
theorem c_X0_init (X : kX) (l : Launch) {n : Nat → Nat → Nat} {ad L : Nat → Nat → Nat → Nat} {C : Nat → Nat → Nat → Nat → Int32} {fr : Nat → Option Cell} {ws : va_W} (a : Nat) : k_M X l yX0_init wsX0_init ({ frames := 4, cells := 4, slots := 13, locals := 72 }) [.ref a] (k_N X n ad L C fr ((a, .inr (6, [.null, .null, .null, .null, .int 0])) :: ws)) (fun v H => v = none ∧ ∃ q1, ∃ q2, ∃ q3, ∃ q4, k_N X n ad L C fr ((q4, .inl (X.2.1 3, 4, .inr (.inr (.inr (.inr (fun _ => none)))))) :: (q3, .inr (3, [.int 0, .ref X.2.2.2, .int 0])) :: (q2, .inr (3, [.int 0, .ref X.2.2.2, .int 0])) :: (q1, .inr (3, [.int 0, .ref X.2.2.2, .int 0])) :: (a, .inr (6, [.ref q1, .ref q2, .ref q3, .ref q4, .int 0])) :: ws) H) 4 13 := by
  refine k_M.of (cc := cX0_init) (maxL := 1) (ret := none) (by decide) rfl (Nat.le_of_ble_eq_true rfl) ?_
  intro p e s m args below meth c ls hx hb hr hml hown hts hlocks hnm hK hW hl
  have hL : ∀ q ∈ ([] : List Loc), k_B X ≤ q.base := fun _ h => nomatch h
  have hl : lv_has ls 1 [(0, .ref a)] := hl
  have fX0 : ∀ w ∈ u_ws RX0 TX0 5, w.before args s = true := fun w h => hts w ((by decide +kernel : ∀ w ∈ u_ws RX0 TX0 5, w ∈ wsX0_init) w h)
  refine lv_aload_n hx hb dX0_init_0 rfl (lv_at hl 0 rfl) ?_
  refine W.objInit hx hb hown (hts (.methodLink RX0 3 objectInit) (by decide +kernel)) (hts (.instanceMethod objectInit) (by decide +kernel)) (hts (.code objectInit ⟨#[0xb1]⟩ 1 none) (by decide +kernel)) rfl (by rw [hml]; first | exact hl.1 | exact hl.1.symm) rfl dX0_init_1 (Nat.le_of_ble_eq_true rfl) (Nat.le_of_ble_eq_true rfl) ?_
  refine W.eq (g2 := F0 m 4 ls []) rfl ?_
  refine lv_aload_n hx hb dX0_init_4 rfl (lv_at hl 0 rfl) ?_
  refine k_new (ci := 3) (K := RJx4a65c) (T := TJx4a65c) (N := 3) (fs := [.int 0, .null, .int 0]) hx hb hts (by decide +kernel) tyJx4a65c tyJx4a65c_ok hown (hts (.classLink RX0 9 RJx4a65c) (by decide +kernel)) (hts (.instantiable RJx4a65c 3) (by decide +kernel)) (hts (.initialized RJx4a65c) (by decide +kernel)) hK hW rfl (by decide) (Nat.le_of_ble_eq_true rfl) (Nat.le_of_ble_eq_true rfl) dX0_init_5 (fun q1 H hW => ?_)
  refine lv_dup hx hb dX0_init_8 rfl ?_
  refine k_callI (As := []) (rest := [.ref q1, .ref a]) ⟨hx, hb, hml, hown, hts⟩ hK (c_Jx4a65c_init_da8c8 X l q1) (cwI 0 hts gX0_init_Jx4a65c_init_da8c8 rfl rfl rfl (hts (.initialized RJx4a65c) (by decide +kernel)) (hts (.methodLink RX0 11 yJx4a65c_init_da8c8) (by decide +kernel)) (hts (.instanceMethod yJx4a65c_init_da8c8) (by decide +kernel)) rfl (by decide +kernel) ⟨Nat.le_of_ble_eq_true rfl, Nat.le_of_ble_eq_true rfl⟩) hW rfl hl.1 rfl (Nat.le_of_ble_eq_true rfl) dX0_init_9 ⟨Nat.le_of_ble_eq_true rfl, Nat.le_of_ble_eq_true rfl⟩ hL (fun v9 H locs hp hL => ?_)
  obtain ⟨rfl, hW⟩ := hp
  refine k_nputF (K := RX0) (T := TX0) (N := 5) (v := .ref q1) (ty := tyX0 0) hx hb fX0 tyX0 tyX0_ok nmX0 hown hK hW hL 1 rfl rfl 0 (by decide) (hts (.fieldLink RX0 12 "Crossdockery$Dock" "lorries" "Ljava/util/ArrayList;") (by decide +kernel)) (fun x h => h) rfl (hnm.trans rfl) rfl (tyX0_ok 0 (by decide)) rfl rfl (Nat.le_of_ble_eq_true rfl) (ws' := (q1, .inr (3, [.int 0, .ref X.2.2.2, .int 0])) :: (a, .inr (6, [.ref q1, .null, .null, .null, .int 0])) :: ws) rfl dX0_init_12 (fun H locs hW hL => ?_)
  refine lv_aload_n hx hb dX0_init_15 rfl (lv_at hl 0 rfl) ?_
  refine k_new (ci := 3) (K := RJx4a65c) (T := TJx4a65c) (N := 3) (fs := [.int 0, .null, .int 0]) hx hb hts (by decide +kernel) tyJx4a65c tyJx4a65c_ok hown (hts (.classLink RX0 9 RJx4a65c) (by decide +kernel)) (hts (.instantiable RJx4a65c 3) (by decide +kernel)) (hts (.initialized RJx4a65c) (by decide +kernel)) hK hW rfl (by decide) (Nat.le_of_ble_eq_true rfl) (Nat.le_of_ble_eq_true rfl) dX0_init_16 (fun q2 H hW => ?_)
  refine lv_dup hx hb dX0_init_19 rfl ?_
  refine k_callI (As := []) (rest := [.ref q2, .ref a]) ⟨hx, hb, hml, hown, hts⟩ hK (c_Jx4a65c_init_da8c8 X l q2) (cwI 0 hts gX0_init_Jx4a65c_init_da8c8 rfl rfl rfl (hts (.initialized RJx4a65c) (by decide +kernel)) (hts (.methodLink RX0 11 yJx4a65c_init_da8c8) (by decide +kernel)) (hts (.instanceMethod yJx4a65c_init_da8c8) (by decide +kernel)) rfl (by decide +kernel) ⟨Nat.le_of_ble_eq_true rfl, Nat.le_of_ble_eq_true rfl⟩) hW rfl hl.1 rfl (Nat.le_of_ble_eq_true rfl) dX0_init_20 ⟨Nat.le_of_ble_eq_true rfl, Nat.le_of_ble_eq_true rfl⟩ hL (fun v9 H locs hp hL => ?_)
  obtain ⟨rfl, hW⟩ := hp
  refine k_nputF (K := RX0) (T := TX0) (N := 5) (v := .ref q2) (ty := tyX0 1) hx hb fX0 tyX0 tyX0_ok nmX0 hown hK hW hL 2 rfl rfl 1 (by decide) (hts (.fieldLink RX0 18 "Crossdockery$Dock" "transfers" "Ljava/util/ArrayList;") (by decide +kernel)) (fun x h => h) rfl (hnm.trans rfl) rfl (tyX0_ok 1 (by decide)) rfl rfl (Nat.le_of_ble_eq_true rfl) (ws' := (q2, .inr (3, [.int 0, .ref X.2.2.2, .int 0])) :: (q1, .inr (3, [.int 0, .ref X.2.2.2, .int 0])) :: (a, .inr (6, [.ref q1, .ref q2, .null, .null, .int 0])) :: ws) rfl dX0_init_23 (fun H locs hW hL => ?_)
  refine lv_aload_n hx hb dX0_init_26 rfl (lv_at hl 0 rfl) ?_
  refine k_new (ci := 3) (K := RJx4a65c) (T := TJx4a65c) (N := 3) (fs := [.int 0, .null, .int 0]) hx hb hts (by decide +kernel) tyJx4a65c tyJx4a65c_ok hown (hts (.classLink RX0 9 RJx4a65c) (by decide +kernel)) (hts (.instantiable RJx4a65c 3) (by decide +kernel)) (hts (.initialized RJx4a65c) (by decide +kernel)) hK hW rfl (by decide) (Nat.le_of_ble_eq_true rfl) (Nat.le_of_ble_eq_true rfl) dX0_init_27 (fun q3 H hW => ?_)
  refine lv_dup hx hb dX0_init_30 rfl ?_
  refine k_callI (As := []) (rest := [.ref q3, .ref a]) ⟨hx, hb, hml, hown, hts⟩ hK (c_Jx4a65c_init_da8c8 X l q3) (cwI 0 hts gX0_init_Jx4a65c_init_da8c8 rfl rfl rfl (hts (.initialized RJx4a65c) (by decide +kernel)) (hts (.methodLink RX0 11 yJx4a65c_init_da8c8) (by decide +kernel)) (hts (.instanceMethod yJx4a65c_init_da8c8) (by decide +kernel)) rfl (by decide +kernel) ⟨Nat.le_of_ble_eq_true rfl, Nat.le_of_ble_eq_true rfl⟩) hW rfl hl.1 rfl (Nat.le_of_ble_eq_true rfl) dX0_init_31 ⟨Nat.le_of_ble_eq_true rfl, Nat.le_of_ble_eq_true rfl⟩ hL (fun v9 H locs hp hL => ?_)
  obtain ⟨rfl, hW⟩ := hp
  refine k_nputF (K := RX0) (T := TX0) (N := 5) (v := .ref q3) (ty := tyX0 2) hx hb fX0 tyX0 tyX0_ok nmX0 hown hK hW hL 3 rfl rfl 2 (by decide) (hts (.fieldLink RX0 21 "Crossdockery$Dock" "gangs" "Ljava/util/ArrayList;") (by decide +kernel)) (fun x h => h) rfl (hnm.trans rfl) rfl (tyX0_ok 2 (by decide)) rfl rfl (Nat.le_of_ble_eq_true rfl) (ws' := (q3, .inr (3, [.int 0, .ref X.2.2.2, .int 0])) :: (q2, .inr (3, [.int 0, .ref X.2.2.2, .int 0])) :: (q1, .inr (3, [.int 0, .ref X.2.2.2, .int 0])) :: (a, .inr (6, [.ref q1, .ref q2, .ref q3, .null, .int 0])) :: ws) rfl dX0_init_34 (fun H locs hW hL => ?_)
  refine lv_aload_n hx hb dX0_init_37 rfl (lv_at hl 0 rfl) ?_
  refine lv_iconst (v := 4) hx hb dX0_init_38 (by decide) ?_
  refine k_newq hx hb hown (hts (.classLink RX0 24 RX3) (by decide +kernel)) hK.2.2.1 3 rfl hK hW (by decide) (N' := 4) (by decide) (by decide) (Nat.le_of_ble_eq_true rfl) (Nat.le_of_ble_eq_true rfl) dX0_init_39 (fun q4 H hW => ?_)
  refine k_nputF (K := RX0) (T := TX0) (N := 5) (v := .ref q4) (ty := tyX0 3) hx hb fX0 tyX0 tyX0_ok nmX0 hown hK hW hL 4 rfl rfl 3 (by decide) (hts (.fieldLink RX0 26 "Crossdockery$Dock" "atDoor" "[LCrossdockery$Lorry;") (by decide +kernel)) (fun x h => h) rfl (hnm.trans rfl) rfl (tyX0_ok 3 (by decide)) rfl rfl (Nat.le_of_ble_eq_true rfl) (ws' := (q4, .inl (X.2.1 3, 4, .inr (.inr (.inr (.inr (fun _ => none)))))) :: (q3, .inr (3, [.int 0, .ref X.2.2.2, .int 0])) :: (q2, .inr (3, [.int 0, .ref X.2.2.2, .int 0])) :: (q1, .inr (3, [.int 0, .ref X.2.2.2, .int 0])) :: (a, .inr (6, [.ref q1, .ref q2, .ref q3, .ref q4, .int 0])) :: ws) rfl dX0_init_42 (fun H locs hW hL => ?_)
  exact k_vret hx hb hr hlocks ⟨rfl, q1, q2, q3, q4, hW⟩ hL dX0_init_45
set_option maxHeartbeats 400000 in
set_option maxRecDepth 100000 in
theorem c_X6_init (X : kX) (l : Launch) {n : Nat → Nat → Nat} {ad L : Nat → Nat → Nat → Nat} {C : Nat → Nat → Nat → Nat → Int32} {fr : Nat → Option Cell} {ws : va_W} (a : Nat) : k_M X l yX6_init wsX6_init ({ frames := 5, cells := 6, slots := 21, locals := 92 }) [.ref a] (k_N X n ad L C fr ((a, .inr (12, [.null, .null])) :: ws)) (fun v H => v = none ∧ ∃ q1, ∃ q2, ∃ q3, ∃ q4, ∃ q5, ∃ q6, k_N X n ad L C fr ((q6, .inr (3, [.int 0, .ref X.2.2.2, .int 0])) :: (q5, .inl (X.2.1 3, 4, .inr (.inr (.inr (.inr (fun _ => none)))))) :: (q4, .inr (3, [.int 0, .ref X.2.2.2, .int 0])) :: (q3, .inr (3, [.int 0, .ref X.2.2.2, .int 0])) :: (q2, .inr (3, [.int 0, .ref X.2.2.2, .int 0])) :: (q1, .inr (6, [.ref q2, .ref q3, .ref q4, .ref q5, .int 0])) :: (a, .inr (12, [.ref q1, .ref q6])) :: ws) H) 6 21 := by
  refine k_M.of (cc := cX6_init) (maxL := 1) (ret := none) (by decide) rfl (Nat.le_of_ble_eq_true rfl) ?_
  intro p e s m args below meth c ls hx hb hr hml hown hts hlocks hnm hK hW hl
  have hL : ∀ q ∈ ([] : List Loc), k_B X ≤ q.base := fun _ h => nomatch h
  have hl : lv_has ls 1 [(0, .ref a)] := hl
  have fX6 : ∀ w ∈ u_ws RX6 TX6 2, w.before args s = true := fun w h => hts w ((by decide +kernel : ∀ w ∈ u_ws RX6 TX6 2, w ∈ wsX6_init) w h)
  refine lv_aload_n hx hb dX6_init_0 rfl (lv_at hl 0 rfl) ?_
  refine W.objInit hx hb hown (hts (.methodLink RX6 3 objectInit) (by decide +kernel)) (hts (.instanceMethod objectInit) (by decide +kernel)) (hts (.code objectInit ⟨#[0xb1]⟩ 1 none) (by decide +kernel)) rfl (by rw [hml]; first | exact hl.1 | exact hl.1.symm) rfl dX6_init_1 (Nat.le_of_ble_eq_true rfl) (Nat.le_of_ble_eq_true rfl) ?_
  refine W.eq (g2 := F0 m 4 ls []) rfl ?_
  refine lv_aload_n hx hb dX6_init_4 rfl (lv_at hl 0 rfl) ?_
  refine k_new (ci := 6) (K := RX0) (T := TX0) (N := 5) (fs := [.null, .null, .null, .null, .int 0]) hx hb hts (by decide +kernel) tyX0 tyX0_ok hown (hts (.classLink RX6 9 RX0) (by decide +kernel)) (hts (.instantiable RX0 5) (by decide +kernel)) (hts (.initialized RX0) (by decide +kernel)) hK hW rfl (by decide) (Nat.le_of_ble_eq_true rfl) (Nat.le_of_ble_eq_true rfl) dX6_init_5 (fun q1 H hW => ?_)
  refine lv_dup hx hb dX6_init_8 rfl ?_
  refine k_callIN (As := []) (rest := [.ref q1, .ref a]) ⟨hx, hb, hml, hown, hts⟩ hK (c_X0_init X l q1) ⟨va_cnB 0 hts gX6_init_X0_init_n11 rfl rfl rfl (hK.nest (List.mem_of_getElem? (i := 0) rfl)) (hts (.initialized RX0) (by decide +kernel)) (by decide +kernel) ⟨Nat.le_of_ble_eq_true rfl, Nat.le_of_ble_eq_true rfl⟩, rfl, (hts (.instanceMethod yX0_init) (by decide +kernel))⟩ hW rfl hl.1 rfl (Nat.le_of_ble_eq_true rfl) dX6_init_9 ⟨Nat.le_of_ble_eq_true rfl, Nat.le_of_ble_eq_true rfl⟩ hL (fun v9 H locs hp hL => ?_)
  obtain ⟨rfl, q2, q3, q4, q5, hW⟩ := hp
  refine k_nputF (K := RX6) (T := TX6) (N := 2) (v := .ref q1) (ty := tyX6 0) hx hb fX6 tyX6 tyX6_ok nmX6 hown hK hW hL 5 rfl rfl 0 (by decide) (hts (.fieldLink RX6 12 "Crossdockery" "dock" "LCrossdockery$Dock;") (by decide +kernel)) (fun x h => h) rfl (hnm.trans rfl) rfl (tyX6_ok 0 (by decide)) rfl rfl (Nat.le_of_ble_eq_true rfl) (ws' := (q5, .inl (X.2.1 3, 4, .inr (.inr (.inr (.inr (fun _ => none)))))) :: (q4, .inr (3, [.int 0, .ref X.2.2.2, .int 0])) :: (q3, .inr (3, [.int 0, .ref X.2.2.2, .int 0])) :: (q2, .inr (3, [.int 0, .ref X.2.2.2, .int 0])) :: (q1, .inr (6, [.ref q2, .ref q3, .ref q4, .ref q5, .int 0])) :: (a, .inr (12, [.ref q1, .null])) :: ws) rfl dX6_init_12 (fun H locs hW hL => ?_)
  refine lv_aload_n hx hb dX6_init_15 rfl (lv_at hl 0 rfl) ?_
  refine k_new (ci := 3) (K := RJx4a65c) (T := TJx4a65c) (N := 3) (fs := [.int 0, .null, .int 0]) hx hb hts (by decide +kernel) tyJx4a65c tyJx4a65c_ok hown (hts (.classLink RX6 16 RJx4a65c) (by decide +kernel)) (hts (.instantiable RJx4a65c 3) (by decide +kernel)) (hts (.initialized RJx4a65c) (by decide +kernel)) hK hW rfl (by decide) (Nat.le_of_ble_eq_true rfl) (Nat.le_of_ble_eq_true rfl) dX6_init_16 (fun q6 H hW => ?_)
  refine lv_dup hx hb dX6_init_19 rfl ?_
  refine k_callI (As := []) (rest := [.ref q6, .ref a]) ⟨hx, hb, hml, hown, hts⟩ hK (c_Jx4a65c_init_da8c8 X l q6) (cwI 0 hts gX6_init_Jx4a65c_init_da8c8 rfl rfl rfl (hts (.initialized RJx4a65c) (by decide +kernel)) (hts (.methodLink RX6 18 yJx4a65c_init_da8c8) (by decide +kernel)) (hts (.instanceMethod yJx4a65c_init_da8c8) (by decide +kernel)) rfl (by decide +kernel) ⟨Nat.le_of_ble_eq_true rfl, Nat.le_of_ble_eq_true rfl⟩) hW rfl hl.1 rfl (Nat.le_of_ble_eq_true rfl) dX6_init_20 ⟨Nat.le_of_ble_eq_true rfl, Nat.le_of_ble_eq_true rfl⟩ hL (fun v9 H locs hp hL => ?_)
  obtain ⟨rfl, hW⟩ := hp
  refine k_nputF (K := RX6) (T := TX6) (N := 2) (v := .ref q6) (ty := tyX6 1) hx hb fX6 tyX6 tyX6_ok nmX6 hown hK hW hL 6 rfl rfl 1 (by decide) (hts (.fieldLink RX6 19 "Crossdockery" "events" "Ljava/util/ArrayList;") (by decide +kernel)) (fun x h => h) rfl (hnm.trans rfl) rfl (tyX6_ok 1 (by decide)) rfl rfl (Nat.le_of_ble_eq_true rfl) (ws' := (q6, .inr (3, [.int 0, .ref X.2.2.2, .int 0])) :: (q5, .inl (X.2.1 3, 4, .inr (.inr (.inr (.inr (fun _ => none)))))) :: (q4, .inr (3, [.int 0, .ref X.2.2.2, .int 0])) :: (q3, .inr (3, [.int 0, .ref X.2.2.2, .int 0])) :: (q2, .inr (3, [.int 0, .ref X.2.2.2, .int 0])) :: (q1, .inr (6, [.ref q2, .ref q3, .ref q4, .ref q5, .int 0])) :: (a, .inr (12, [.ref q1, .ref q6])) :: ws) rfl dX6_init_23 (fun H locs hW hL => ?_)
  exact k_vret hx hb hr hlocks ⟨rfl, q1, q2, q3, q4, q5, q6, hW⟩ hL dX6_init_26
