set_option maxHeartbeats 400000 in
set_option maxRecDepth 100000 in
theorem c_X1_init (X : kX) (l : Launch) {n : Nat → Nat → Nat} {ad L : Nat → Nat → Nat → Nat} {C : Nat → Nat → Nat → Nat → Int32} {fr : Nat → Option Cell} {ws : va_W} (a : Nat) (ki fi se th : Int32) : k_M X l yX1_init wsX1_init ({ frames := 1, cells := 0, slots := 0, locals := 12 }) [.ref a, .int ki, .int fi, .int se, .int th] (k_N X n ad L C fr ((a, .inr (4, [.int 0, .int 0, .int 0, .int 0])) :: ws)) (fun v H => v = none ∧ k_N X n ad L C fr ((a, .inr (4, [.int ki, .int fi, .int se, .int th])) :: ws) H) 0 0 := by
  refine k_M.of (cc := cX1_init) (maxL := 5) (ret := none) (by decide) rfl (Nat.le_of_ble_eq_true rfl) ?_
  intro p e s m args below meth c ls hx hb hr hml hown hts hlocks hnm hK hW hl
  have hL : ∀ q ∈ ([] : List Loc), k_B X ≤ q.base := fun _ h => nomatch h
  have hl : lv_has ls 5 [(0, .ref a), (1, .int ki), (2, .int fi), (3, .int se), (4, .int th)] := hl
  have fX1 : ∀ w ∈ u_ws RX1 TX1 4, w.before args s = true := fun w h => hts w ((by decide +kernel : ∀ w ∈ u_ws RX1 TX1 4, w ∈ wsX1_init) w h)
  refine lv_aload_n hx hb dX1_init_0 rfl (lv_at hl 0 rfl) ?_
  refine W.objInit hx hb hown (hts (.methodLink RX1 1 objectInit) (by decide +kernel)) (hts (.instanceMethod objectInit) (by decide +kernel)) (hts (.code objectInit ⟨#[0xb1]⟩ 1 none) (by decide +kernel)) rfl (by rw [hml]; first | exact hl.1 | exact hl.1.symm) rfl dX1_init_1 (Nat.le_of_ble_eq_true rfl) (Nat.le_of_ble_eq_true rfl) ?_
  refine W.eq (g2 := F0 m 4 ls []) rfl ?_
  refine lv_aload_n hx hb dX1_init_4 rfl (lv_at hl 0 rfl) ?_
  refine lv_iload_n hx hb dX1_init_5 rfl (lv_at hl 1 rfl) ?_
  refine k_nputF (K := RX1) (T := TX1) (N := 4) (v := .int ki) (ty := tyX1 0) hx hb fX1 tyX1 tyX1_ok nmX1 hown hK hW hL 0 rfl rfl 0 (by decide) (hts (.fieldLink RX1 7 "Crossdockery$Event" "kind" "I") (by decide +kernel)) (fun x h => h) rfl (hnm.trans rfl) rfl (tyX1_ok 0 (by decide)) rfl rfl (Nat.le_of_ble_eq_true rfl) (ws' := (a, .inr (4, [.int ki, .int 0, .int 0, .int 0])) :: ws) rfl dX1_init_6 (fun H locs hW hL => ?_)
  refine lv_aload_n hx hb dX1_init_9 rfl (lv_at hl 0 rfl) ?_
  refine lv_iload_n hx hb dX1_init_10 rfl (lv_at hl 2 rfl) ?_
  refine k_nputF (K := RX1) (T := TX1) (N := 4) (v := .int fi) (ty := tyX1 1) hx hb fX1 tyX1 tyX1_ok nmX1 hown hK hW hL 0 rfl rfl 1 (by decide) (hts (.fieldLink RX1 13 "Crossdockery$Event" "first" "I") (by decide +kernel)) (fun x h => h) rfl (hnm.trans rfl) rfl (tyX1_ok 1 (by decide)) rfl rfl (Nat.le_of_ble_eq_true rfl) (ws' := (a, .inr (4, [.int ki, .int fi, .int 0, .int 0])) :: ws) rfl dX1_init_11 (fun H locs hW hL => ?_)
  refine lv_aload_n hx hb dX1_init_14 rfl (lv_at hl 0 rfl) ?_
  refine lv_iload_n hx hb dX1_init_15 rfl (lv_at hl 3 rfl) ?_
  refine k_nputF (K := RX1) (T := TX1) (N := 4) (v := .int se) (ty := tyX1 2) hx hb fX1 tyX1 tyX1_ok nmX1 hown hK hW hL 0 rfl rfl 2 (by decide) (hts (.fieldLink RX1 16 "Crossdockery$Event" "second" "I") (by decide +kernel)) (fun x h => h) rfl (hnm.trans rfl) rfl (tyX1_ok 2 (by decide)) rfl rfl (Nat.le_of_ble_eq_true rfl) (ws' := (a, .inr (4, [.int ki, .int fi, .int se, .int 0])) :: ws) rfl dX1_init_16 (fun H locs hW hL => ?_)
  refine lv_aload_n hx hb dX1_init_19 rfl (lv_at hl 0 rfl) ?_
  refine lv_iload hx hb dX1_init_20 (lv_at hl 4 rfl) ?_
  refine k_nputF (K := RX1) (T := TX1) (N := 4) (v := .int th) (ty := tyX1 3) hx hb fX1 tyX1 tyX1_ok nmX1 hown hK hW hL 0 rfl rfl 3 (by decide) (hts (.fieldLink RX1 19 "Crossdockery$Event" "third" "I") (by decide +kernel)) (fun x h => h) rfl (hnm.trans rfl) rfl (tyX1_ok 3 (by decide)) rfl rfl (Nat.le_of_ble_eq_true rfl) (ws' := (a, .inr (4, [.int ki, .int fi, .int se, .int th])) :: ws) rfl dX1_init_22 (fun H locs hW hL => ?_)
  exact k_vret hx hb hr hlocks ⟨rfl, hW⟩ hL dX1_init_25
set_option maxHeartbeats 400000 in
set_option maxRecDepth 100000 in
theorem c_X2_init (X : kX) (l : Launch) {n : Nat → Nat → Nat} {ad L : Nat → Nat → Nat → Nat} {C : Nat → Nat → Nat → Nat → Int32} {fr : Nat → Option Cell} {ws : va_W} (a : Nat) (sp fo tu : Int32) : k_M X l yX2_init wsX2_init ({ frames := 1, cells := 0, slots := 0, locals := 12 }) [.ref a, .int sp, .int fo, .int tu] (k_N X n ad L C fr ((a, .inr (5, [.int 0, .int 0, .int 0, .int 0])) :: ws)) (fun v H => v = none ∧ k_N X n ad L C fr ((a, .inr (5, [.int sp, .int fo, .int tu, .int (-1)])) :: ws) H) 0 0 := by
  refine k_M.of (cc := cX2_init) (maxL := 4) (ret := none) (by decide) rfl (Nat.le_of_ble_eq_true rfl) ?_
  intro p e s m args below meth c ls hx hb hr hml hown hts hlocks hnm hK hW hl
  have hL : ∀ q ∈ ([] : List Loc), k_B X ≤ q.base := fun _ h => nomatch h
  have hl : lv_has ls 4 [(0, .ref a), (1, .int sp), (2, .int fo), (3, .int tu)] := hl
  have fX2 : ∀ w ∈ u_ws RX2 TX2 4, w.before args s = true := fun w h => hts w ((by decide +kernel : ∀ w ∈ u_ws RX2 TX2 4, w ∈ wsX2_init) w h)
  refine lv_aload_n hx hb dX2_init_0 rfl (lv_at hl 0 rfl) ?_
  refine W.objInit hx hb hown (hts (.methodLink RX2 3 objectInit) (by decide +kernel)) (hts (.instanceMethod objectInit) (by decide +kernel)) (hts (.code objectInit ⟨#[0xb1]⟩ 1 none) (by decide +kernel)) rfl (by rw [hml]; first | exact hl.1 | exact hl.1.symm) rfl dX2_init_1 (Nat.le_of_ble_eq_true rfl) (Nat.le_of_ble_eq_true rfl) ?_
  refine W.eq (g2 := F0 m 4 ls []) rfl ?_
  refine lv_aload_n hx hb dX2_init_4 rfl (lv_at hl 0 rfl) ?_
  refine lv_iconst (v := (-1)) hx hb dX2_init_5 (by decide) ?_
  refine k_nput (K := RX2) (T := TX2) (N := 4) (v := .int (-1)) (ty := tyX2 3) hx hb fX2 tyX2 tyX2_ok nmX2 hown hK hW hL 0 rfl rfl 3 (by decide) (hts (.fieldLink RX2 9 "Crossdockery$Gang" "door" "I") (by decide +kernel)) (fun x h => h) rfl (tyX2_ok 3 (by decide)) rfl rfl (Nat.le_of_ble_eq_true rfl) (ws' := (a, .inr (5, [.int 0, .int 0, .int 0, .int (-1)])) :: ws) rfl dX2_init_6 (fun H locs hW hL => ?_)
  refine lv_aload_n hx hb dX2_init_9 rfl (lv_at hl 0 rfl) ?_
  refine lv_iload_n hx hb dX2_init_10 rfl (lv_at hl 1 rfl) ?_
  refine k_nputF (K := RX2) (T := TX2) (N := 4) (v := .int sp) (ty := tyX2 0) hx hb fX2 tyX2 tyX2_ok nmX2 hown hK hW hL 0 rfl rfl 0 (by decide) (hts (.fieldLink RX2 15 "Crossdockery$Gang" "speed" "I") (by decide +kernel)) (fun x h => h) rfl (hnm.trans rfl) rfl (tyX2_ok 0 (by decide)) rfl rfl (Nat.le_of_ble_eq_true rfl) (ws' := (a, .inr (5, [.int sp, .int 0, .int 0, .int (-1)])) :: ws) rfl dX2_init_11 (fun H locs hW hL => ?_)
  refine lv_aload_n hx hb dX2_init_14 rfl (lv_at hl 0 rfl) ?_
  refine lv_iload_n hx hb dX2_init_15 rfl (lv_at hl 2 rfl) ?_
  refine k_nputF (K := RX2) (T := TX2) (N := 4) (v := .int fo) (ty := tyX2 1) hx hb fX2 tyX2 tyX2_ok nmX2 hown hK hW hL 0 rfl rfl 1 (by decide) (hts (.fieldLink RX2 18 "Crossdockery$Gang" "from" "I") (by decide +kernel)) (fun x h => h) rfl (hnm.trans rfl) rfl (tyX2_ok 1 (by decide)) rfl rfl (Nat.le_of_ble_eq_true rfl) (ws' := (a, .inr (5, [.int sp, .int fo, .int 0, .int (-1)])) :: ws) rfl dX2_init_16 (fun H locs hW hL => ?_)
  refine lv_aload_n hx hb dX2_init_19 rfl (lv_at hl 0 rfl) ?_
  refine lv_iload_n hx hb dX2_init_20 rfl (lv_at hl 3 rfl) ?_
  refine k_nputF (K := RX2) (T := TX2) (N := 4) (v := .int tu) (ty := tyX2 2) hx hb fX2 tyX2 tyX2_ok nmX2 hown hK hW hL 0 rfl rfl 2 (by decide) (hts (.fieldLink RX2 21 "Crossdockery$Gang" "to" "I") (by decide +kernel)) (fun x h => h) rfl (hnm.trans rfl) rfl (tyX2_ok 2 (by decide)) rfl rfl (Nat.le_of_ble_eq_true rfl) (ws' := (a, .inr (5, [.int sp, .int fo, .int tu, .int (-1)])) :: ws) rfl dX2_init_21 (fun H locs hW hL => ?_)
  exact k_vret hx hb hr hlocks ⟨rfl, hW⟩ hL dX2_init_24
set_option maxHeartbeats 400000 in
set_option maxRecDepth 100000 in
theorem c_X3_init (X : kX) (l : Launch) {n : Nat → Nat → Nat} {ad L : Nat → Nat → Nat → Nat} {C : Nat → Nat → Nat → Nat → Int32} {fr : Nat → Option Cell} {ws : va_W} (a : Nat) (nu br pl ra : Int32) (hbr : br = 0 ∨ br = 1) : k_M X l yX3_init wsX3_init ({ frames := 1, cells := 1, slots := 9, locals := 12 }) [.ref a, .int nu, .int br, .int pl, .int ra] (k_N X n ad L C fr ((a, .inr (6, [.int 0, .int 0, .int 0, .int 0, .int 0, .int 0, .int 0, .int 0, .int 0, .int 0, .int 0, .int 0, .int 0, .int 0, .null])) :: ws)) (fun v H => v = none ∧ ∃ q1, k_N X n ad L C fr ((q1, .inl (X.2.1 0, 9, .inl (fun _ => 0))) :: (a, .inr (6, [.int nu, .int br, .int pl, .int ra, .int (-1), .int 101, .int 0, .int 0, .int 0, .int 0, .int 0, .int 0, .int (-2), .int (-1), .ref q1])) :: ws) H) 1 9 := by
  refine k_M.of (cc := cX3_init) (maxL := 5) (ret := none) (by decide) rfl (Nat.le_of_ble_eq_true rfl) ?_
  intro p e s m args below meth c ls hx hb hr hml hown hts hlocks hnm hK hW hl
  have hL : ∀ q ∈ ([] : List Loc), k_B X ≤ q.base := fun _ h => nomatch h
  have hl : lv_has ls 5 [(0, .ref a), (1, .int nu), (2, .int br), (3, .int pl), (4, .int ra)] := hl
  have fX3 : ∀ w ∈ u_ws RX3 TX3 15, w.before args s = true := fun w h => hts w ((by decide +kernel : ∀ w ∈ u_ws RX3 TX3 15, w ∈ wsX3_init) w h)
  refine lv_aload_n hx hb dX3_init_0 rfl (lv_at hl 0 rfl) ?_
  refine W.objInit hx hb hown (hts (.methodLink RX3 3 objectInit) (by decide +kernel)) (hts (.instanceMethod objectInit) (by decide +kernel)) (hts (.code objectInit ⟨#[0xb1]⟩ 1 none) (by decide +kernel)) rfl (by rw [hml]; first | exact hl.1 | exact hl.1.symm) rfl dX3_init_1 (Nat.le_of_ble_eq_true rfl) (Nat.le_of_ble_eq_true rfl) ?_
  refine W.eq (g2 := F0 m 4 ls []) rfl ?_
  refine lv_aload_n hx hb dX3_init_4 rfl (lv_at hl 0 rfl) ?_
  refine lv_iconst (v := (-1)) hx hb dX3_init_5 (by decide) ?_
  refine k_nput (K := RX3) (T := TX3) (N := 15) (v := .int (-1)) (ty := tyX3 4) hx hb fX3 tyX3 tyX3_ok nmX3 hown hK hW hL 0 rfl rfl 4 (by decide) (hts (.fieldLink RX3 9 "Crossdockery$Lorry" "door" "I") (by decide +kernel)) (fun x h => h) rfl (tyX3_ok 4 (by decide)) rfl rfl (Nat.le_of_ble_eq_true rfl) (ws' := (a, .inr (6, [.int 0, .int 0, .int 0, .int 0, .int (-1), .int 0, .int 0, .int 0, .int 0, .int 0, .int 0, .int 0, .int 0, .int 0, .null])) :: ws) rfl dX3_init_6 (fun H locs hW hL => ?_)
  refine lv_aload_n hx hb dX3_init_9 rfl (lv_at hl 0 rfl) ?_
  refine lv_bipush (v := 101) hx hb dX3_init_10 (by decide) ?_
  refine k_nput (K := RX3) (T := TX3) (N := 15) (v := .int 101) (ty := tyX3 5) hx hb fX3 tyX3 tyX3_ok nmX3 hown hK hW hL 0 rfl rfl 5 (by decide) (hts (.fieldLink RX3 15 "Crossdockery$Lorry" "state" "C") (by decide +kernel)) (fun x h => h) rfl (tyX3_ok 5 (by decide)) (by decide +kernel) (by decide +kernel) (Nat.le_of_ble_eq_true rfl) (ws' := (a, .inr (6, [.int 0, .int 0, .int 0, .int 0, .int (-1), .int 101, .int 0, .int 0, .int 0, .int 0, .int 0, .int 0, .int 0, .int 0, .null])) :: ws) rfl dX3_init_12 (fun H locs hW hL => ?_)
  refine lv_aload_n hx hb dX3_init_15 rfl (lv_at hl 0 rfl) ?_
  refine lv_bipush (v := (-2)) hx hb dX3_init_16 (by decide) ?_
  refine k_nput (K := RX3) (T := TX3) (N := 15) (v := .int (-2)) (ty := tyX3 12) hx hb fX3 tyX3 tyX3_ok nmX3 hown hK hW hL 0 rfl rfl 12 (by decide) (hts (.fieldLink RX3 19 "Crossdockery$Lorry" "lastDebtor" "I") (by decide +kernel)) (fun x h => h) rfl (tyX3_ok 12 (by decide)) rfl rfl (Nat.le_of_ble_eq_true rfl) (ws' := (a, .inr (6, [.int 0, .int 0, .int 0, .int 0, .int (-1), .int 101, .int 0, .int 0, .int 0, .int 0, .int 0, .int 0, .int (-2), .int 0, .null])) :: ws) rfl dX3_init_18 (fun H locs hW hL => ?_)
  refine lv_aload_n hx hb dX3_init_21 rfl (lv_at hl 0 rfl) ?_
  refine lv_iconst (v := (-1)) hx hb dX3_init_22 (by decide) ?_
  refine k_nput (K := RX3) (T := TX3) (N := 15) (v := .int (-1)) (ty := tyX3 13) hx hb fX3 tyX3 tyX3_ok nmX3 hown hK hW hL 0 rfl rfl 13 (by decide) (hts (.fieldLink RX3 22 "Crossdockery$Lorry" "debtorAtDoor" "I") (by decide +kernel)) (fun x h => h) rfl (tyX3_ok 13 (by decide)) rfl rfl (Nat.le_of_ble_eq_true rfl) (ws' := (a, .inr (6, [.int 0, .int 0, .int 0, .int 0, .int (-1), .int 101, .int 0, .int 0, .int 0, .int 0, .int 0, .int 0, .int (-2), .int (-1), .null])) :: ws) rfl dX3_init_23 (fun H locs hW hL => ?_)
  refine lv_aload_n hx hb dX3_init_26 rfl (lv_at hl 0 rfl) ?_
  refine lv_bipush (v := 9) hx hb dX3_init_27 (by decide) ?_
  refine k_newa (atype := .int) (a0 := (9, .inl (fun _ => 0))) hx hb (hts (.arrayClass .int) (by decide +kernel)) 0 rfl (fun _ h => h) hK hW (vp_cell_i _ _ _) (by decide) (N' := 9) (by decide) (by decide +kernel) (Nat.le_of_ble_eq_true rfl) (Nat.le_of_ble_eq_true rfl) dX3_init_29 (fun q1 H hW => ?_)
  refine k_nputF (K := RX3) (T := TX3) (N := 15) (v := .ref q1) (ty := tyX3 14) hx hb fX3 tyX3 tyX3_ok nmX3 hown hK hW hL 1 rfl rfl 14 (by decide) (hts (.fieldLink RX3 25 "Crossdockery$Lorry" "minutesOf" "[I") (by decide +kernel)) (fun x h => h) rfl (hnm.trans rfl) rfl (tyX3_ok 14 (by decide)) rfl rfl (Nat.le_of_ble_eq_true rfl) (ws' := (q1, .inl (X.2.1 0, 9, .inl (fun _ => 0))) :: (a, .inr (6, [.int 0, .int 0, .int 0, .int 0, .int (-1), .int 101, .int 0, .int 0, .int 0, .int 0, .int 0, .int 0, .int (-2), .int (-1), .ref q1])) :: ws) rfl dX3_init_31 (fun H locs hW hL => ?_)
  refine lv_aload_n hx hb dX3_init_34 rfl (lv_at hl 0 rfl) ?_
  refine lv_iload_n hx hb dX3_init_35 rfl (lv_at hl 1 rfl) ?_
  refine k_nputF (K := RX3) (T := TX3) (N := 15) (v := .int nu) (ty := tyX3 0) hx hb fX3 tyX3 tyX3_ok nmX3 hown hK hW hL 1 rfl rfl 0 (by decide) (hts (.fieldLink RX3 29 "Crossdockery$Lorry" "number" "I") (by decide +kernel)) (fun x h => h) rfl (hnm.trans rfl) rfl (tyX3_ok 0 (by decide)) rfl rfl (Nat.le_of_ble_eq_true rfl) (ws' := (q1, .inl (X.2.1 0, 9, .inl (fun _ => 0))) :: (a, .inr (6, [.int nu, .int 0, .int 0, .int 0, .int (-1), .int 101, .int 0, .int 0, .int 0, .int 0, .int 0, .int 0, .int (-2), .int (-1), .ref q1])) :: ws) rfl dX3_init_36 (fun H locs hW hL => ?_)
  refine lv_aload_n hx hb dX3_init_39 rfl (lv_at hl 0 rfl) ?_
  refine lv_iload_n hx hb dX3_init_40 rfl (lv_at hl 2 rfl) ?_
  refine k_nputF (K := RX3) (T := TX3) (N := 15) (v := .int br) (ty := tyX3 1) hx hb fX3 tyX3 tyX3_ok nmX3 hown hK hW hL 1 rfl rfl 1 (by decide) (hts (.fieldLink RX3 32 "Crossdockery$Lorry" "isBringing" "Z") (by decide +kernel)) (fun x h => h) rfl (hnm.trans rfl) rfl (tyX3_ok 1 (by decide)) (k_01 (by assumption)) (k_01f (by assumption)) (Nat.le_of_ble_eq_true rfl) (ws' := (q1, .inl (X.2.1 0, 9, .inl (fun _ => 0))) :: (a, .inr (6, [.int nu, .int br, .int 0, .int 0, .int (-1), .int 101, .int 0, .int 0, .int 0, .int 0, .int 0, .int 0, .int (-2), .int (-1), .ref q1])) :: ws) rfl dX3_init_41 (fun H locs hW hL => ?_)
  refine lv_aload_n hx hb dX3_init_44 rfl (lv_at hl 0 rfl) ?_
  refine lv_iload_n hx hb dX3_init_45 rfl (lv_at hl 3 rfl) ?_
  refine k_nputF (K := RX3) (T := TX3) (N := 15) (v := .int pl) (ty := tyX3 2) hx hb fX3 tyX3 tyX3_ok nmX3 hown hK hW hL 1 rfl rfl 2 (by decide) (hts (.fieldLink RX3 36 "Crossdockery$Lorry" "planned" "I") (by decide +kernel)) (fun x h => h) rfl (hnm.trans rfl) rfl (tyX3_ok 2 (by decide)) rfl rfl (Nat.le_of_ble_eq_true rfl) (ws' := (q1, .inl (X.2.1 0, 9, .inl (fun _ => 0))) :: (a, .inr (6, [.int nu, .int br, .int pl, .int 0, .int (-1), .int 101, .int 0, .int 0, .int 0, .int 0, .int 0, .int 0, .int (-2), .int (-1), .ref q1])) :: ws) rfl dX3_init_46 (fun H locs hW hL => ?_)
  refine lv_aload_n hx hb dX3_init_49 rfl (lv_at hl 0 rfl) ?_
  refine lv_iload hx hb dX3_init_50 (lv_at hl 4 rfl) ?_
  refine k_nputF (K := RX3) (T := TX3) (N := 15) (v := .int ra) (ty := tyX3 3) hx hb fX3 tyX3 tyX3_ok nmX3 hown hK hW hL 1 rfl rfl 3 (by decide) (hts (.fieldLink RX3 39 "Crossdockery$Lorry" "rate" "I") (by decide +kernel)) (fun x h => h) rfl (hnm.trans rfl) rfl (tyX3_ok 3 (by decide)) rfl rfl (Nat.le_of_ble_eq_true rfl) (ws' := (q1, .inl (X.2.1 0, 9, .inl (fun _ => 0))) :: (a, .inr (6, [.int nu, .int br, .int pl, .int ra, .int (-1), .int 101, .int 0, .int 0, .int 0, .int 0, .int 0, .int 0, .int (-2), .int (-1), .ref q1])) :: ws) rfl dX3_init_52 (fun H locs hW hL => ?_)
  exact k_vret hx hb hr hlocks ⟨rfl, q1, hW⟩ hL dX3_init_55
set_option maxHeartbeats 400000 in
set_option maxRecDepth 100000 in
theorem c_X5_init (X : kX) (l : Launch) {n : Nat → Nat → Nat} {ad L : Nat → Nat → Nat → Nat} {C : Nat → Nat → Nat → Nat → Int32} {fr : Nat → Option Cell} {ws : va_W} (a : Nat) (x y : Nat) (un : Int32) : k_M X l yX5_init wsX5_init ({ frames := 1, cells := 1, slots := 4, locals := 12 }) [.ref a, .ref x, .ref y, .int un] (k_N X n ad L C fr ((a, .inr (8, [.null, .null, .int 0, .int 0, .int 0, .int 0, .null])) :: ws)) (fun v H => v = none ∧ ∃ q1, k_N X n ad L C fr ((q1, .inl (X.2.1 0, 4, .inl (fun _ => 0))) :: (a, .inr (8, [.ref x, .ref y, .int un, .int 0, .int 0, .int 0, .ref q1])) :: ws) H) 1 4 := by
  refine k_M.of (cc := cX5_init) (maxL := 4) (ret := none) (by decide) rfl (Nat.le_of_ble_eq_true rfl) ?_
  intro p e s m args below meth c ls hx hb hr hml hown hts hlocks hnm hK hW hl
  have hL : ∀ q ∈ ([] : List Loc), k_B X ≤ q.base := fun _ h => nomatch h
  have hl : lv_has ls 4 [(0, .ref a), (1, .ref x), (2, .ref y), (3, .int un)] := hl
  have fX5 : ∀ w ∈ u_ws RX5 TX5 7, w.before args s = true := fun w h => hts w ((by decide +kernel : ∀ w ∈ u_ws RX5 TX5 7, w ∈ wsX5_init) w h)
  refine lv_aload_n hx hb dX5_init_0 rfl (lv_at hl 0 rfl) ?_
  refine W.objInit hx hb hown (hts (.methodLink RX5 3 objectInit) (by decide +kernel)) (hts (.instanceMethod objectInit) (by decide +kernel)) (hts (.code objectInit ⟨#[0xb1]⟩ 1 none) (by decide +kernel)) rfl (by rw [hml]; first | exact hl.1 | exact hl.1.symm) rfl dX5_init_1 (Nat.le_of_ble_eq_true rfl) (Nat.le_of_ble_eq_true rfl) ?_
  refine W.eq (g2 := F0 m 4 ls []) rfl ?_
  refine lv_aload_n hx hb dX5_init_4 rfl (lv_at hl 0 rfl) ?_
  refine lv_iconst (v := 4) hx hb dX5_init_5 (by decide) ?_
  refine k_newa (atype := .int) (a0 := (4, .inl (fun _ => 0))) hx hb (hts (.arrayClass .int) (by decide +kernel)) 0 rfl (fun _ h => h) hK hW (vp_cell_i _ _ _) (by decide) (N' := 4) (by decide) (by decide +kernel) (Nat.le_of_ble_eq_true rfl) (Nat.le_of_ble_eq_true rfl) dX5_init_6 (fun q1 H hW => ?_)
  refine k_nputF (K := RX5) (T := TX5) (N := 7) (v := .ref q1) (ty := tyX5 6) hx hb fX5 tyX5 tyX5_ok nmX5 hown hK hW hL 1 rfl rfl 6 (by decide) (hts (.fieldLink RX5 9 "Crossdockery$Transfer" "coming" "[I") (by decide +kernel)) (fun x h => h) rfl (hnm.trans rfl) rfl (tyX5_ok 6 (by decide)) rfl rfl (Nat.le_of_ble_eq_true rfl) (ws' := (q1, .inl (X.2.1 0, 4, .inl (fun _ => 0))) :: (a, .inr (8, [.null, .null, .int 0, .int 0, .int 0, .int 0, .ref q1])) :: ws) rfl dX5_init_8 (fun H locs hW hL => ?_)
  refine lv_aload_n hx hb dX5_init_11 rfl (lv_at hl 0 rfl) ?_
  refine lv_aload_n hx hb dX5_init_12 rfl (lv_at hl 1 rfl) ?_
  refine k_nputF (K := RX5) (T := TX5) (N := 7) (v := .ref x) (ty := tyX5 0) hx hb fX5 tyX5 tyX5_ok nmX5 hown hK hW hL 1 rfl rfl 0 (by decide) (hts (.fieldLink RX5 15 "Crossdockery$Transfer" "from" "LCrossdockery$Lorry;") (by decide +kernel)) (fun x h => h) rfl (hnm.trans rfl) rfl (tyX5_ok 0 (by decide)) rfl rfl (Nat.le_of_ble_eq_true rfl) (ws' := (q1, .inl (X.2.1 0, 4, .inl (fun _ => 0))) :: (a, .inr (8, [.ref x, .null, .int 0, .int 0, .int 0, .int 0, .ref q1])) :: ws) rfl dX5_init_13 (fun H locs hW hL => ?_)
  refine lv_aload_n hx hb dX5_init_16 rfl (lv_at hl 0 rfl) ?_
  refine lv_aload_n hx hb dX5_init_17 rfl (lv_at hl 2 rfl) ?_
  refine k_nputF (K := RX5) (T := TX5) (N := 7) (v := .ref y) (ty := tyX5 1) hx hb fX5 tyX5 tyX5_ok nmX5 hown hK hW hL 1 rfl rfl 1 (by decide) (hts (.fieldLink RX5 19 "Crossdockery$Transfer" "to" "LCrossdockery$Lorry;") (by decide +kernel)) (fun x h => h) rfl (hnm.trans rfl) rfl (tyX5_ok 1 (by decide)) rfl rfl (Nat.le_of_ble_eq_true rfl) (ws' := (q1, .inl (X.2.1 0, 4, .inl (fun _ => 0))) :: (a, .inr (8, [.ref x, .ref y, .int 0, .int 0, .int 0, .int 0, .ref q1])) :: ws) rfl dX5_init_18 (fun H locs hW hL => ?_)
  refine lv_aload_n hx hb dX5_init_21 rfl (lv_at hl 0 rfl) ?_
  refine lv_iload_n hx hb dX5_init_22 rfl (lv_at hl 3 rfl) ?_
  refine k_nputF (K := RX5) (T := TX5) (N := 7) (v := .int un) (ty := tyX5 2) hx hb fX5 tyX5 tyX5_ok nmX5 hown hK hW hL 1 rfl rfl 2 (by decide) (hts (.fieldLink RX5 22 "Crossdockery$Transfer" "units" "I") (by decide +kernel)) (fun x h => h) rfl (hnm.trans rfl) rfl (tyX5_ok 2 (by decide)) rfl rfl (Nat.le_of_ble_eq_true rfl) (ws' := (q1, .inl (X.2.1 0, 4, .inl (fun _ => 0))) :: (a, .inr (8, [.ref x, .ref y, .int un, .int 0, .int 0, .int 0, .ref q1])) :: ws) rfl dX5_init_23 (fun H locs hW hL => ?_)
  exact k_vret hx hb hr hlocks ⟨rfl, q1, hW⟩ hL dX5_init_26
