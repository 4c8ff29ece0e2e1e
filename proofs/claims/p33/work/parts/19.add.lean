section KGROW
variable {p : Program} {l : Launch} {e : Env} {R : Room} {s : State} {m : MethodId} {args : Array Value} {below : List Frame} {meth : Method} {c : Code} {H : Heap} {locs : List Loc} {cells slots : Nat} {Q : State → Prop}
variable {cc : ByteArray} {pc : Nat} {ls : Array Slot} {rest : List Value} {X : kX}
theorem k_aretA {Po : Option Value → Heap → Prop} {v : Option Nat} {ty : FieldType} (hexec : p.tables.exec = Jvm.exec) (hb : c.code = cc) (hr : meth.sig.returnType = some (.array ty)) (hlocks : meth.locks = false) (hq : Po (some (va_rf v)) H) (hL : ∀ q ∈ locs, k_B X ≤ q.base) (hdg : decode cc pc = .ok (.areturn, 1)) : W p l e R s m args below meth c H locs cells slots (MQ below (k_Q Po) args s cells slots (fun q => k_B X ≤ q)) (F0 m pc ls [va_rf v]) :=
  W.aret hexec hb hr (Or.inr ⟨_, rfl⟩) (va_rf_or v) (fun t ht _ => ⟨_, rfl, by rw [ht]; exact hq⟩) hL hdg
end KGROW

set_option maxHeartbeats 4000000 in
set_option maxRecDepth 100000 in
theorem c_Jx4a65c_add_72be8_A (X : kX) (l : Launch) {n : Nat → Nat → Nat} {ad L : Nat → Nat → Nat → Nat} {C : Nat → Nat → Nat → Nat → Int32} {fr : Nat → Option Cell} {ws : va_W} (a b v : Nat) (mo : Int32) (s9 z : Nat) (f : Nat → Option Nat) (hs : s9 < z) (hz : z ≤ 80000) (hv : ∀ (s : State) (H : Heap), k_S X s → va_P X.1 vwCl ws H → va_Any "java/lang/Object" s H v) : k_M X l yJx4a65c_add_72be8 wsJx4a65c_add_72be8 ({ frames := 1, cells := 0, slots := 0, locals := 12 }) [.ref a, .ref v, .ref b, .int (nI s9)] (k_N X n ad L C fr ((a, .inr (3, [.int mo, .ref b, .int (nI s9)])) :: (b, .inl (X.2.1 4, z, .inr (.inr (.inr (.inr (f)))))) :: ws)) (fun v9 H => v9 = none ∧ k_N X n ad L C fr ((a, .inr (3, [.int mo, .ref b, .int (nI (s9 + 1))])) :: (b, .inl (X.2.1 4, z, .inr (.inr (.inr (.inr (va_up f s9 (some v))))))) :: ws) H) 0 0 := by
  refine k_M.of (cc := cJx4a65c_add_72be8) (maxL := 4) (ret := none) (by decide) rfl (Nat.le_of_ble_eq_true rfl) ?_
  intro p e s m args below meth c ls hx hb hr hml hown hts hlocks hnm hK hW hl
  have hL : ∀ q ∈ ([] : List Loc), k_B X ≤ q.base := fun _ h => nomatch h
  have hl : lv_has ls 4 [(0, .ref a), (1, .ref v), (2, .ref b), (3, .int (nI s9))] := hl
  have fJx4a65c : ∀ w ∈ u_ws RJx4a65c TJx4a65c 3, w.before args s = true := fun w h => hts w ((by decide +kernel : ∀ w ∈ u_ws RJx4a65c TJx4a65c 3, w ∈ wsJx4a65c_add_72be8) w h)
  refine lv_iload_n hx hb dJx4a65c_add_72be8_0 rfl (lv_at hl 3 rfl) ?_
  refine lv_aload_n hx hb dJx4a65c_add_72be8_1 rfl (lv_at hl 2 rfl) ?_
  refine va_alen hx hb hK.1 hW.2.1 1 4 rfl rfl (v := nI z) rfl dJx4a65c_add_72be8_2 ?_
  refine lv_icmp_ne (tgt := 11) hx hb dJx4a65c_add_72be8_3 (by decide) (fun c1 => ?_) (fun c1 => ?_)
  ·
    refine lv_aload_n hx hb dJx4a65c_add_72be8_11 rfl (lv_at hl 2 rfl) ?_
    refine lv_iload_n hx hb dJx4a65c_add_72be8_12 rfl (lv_at hl 3 rfl) ?_
    refine lv_aload_n hx hb dJx4a65c_add_72be8_13 rfl (lv_at hl 1 rfl) ?_
    refine k_nastq (k := s9) hx hb hK hW hL 1 rfl (hv _ _ hK (k_N.tail (k_N.tail hW)).2.1) (nI_clamp (by omega)) (vp_in_nI (by omega) (by omega)) (ws' := (a, .inr (3, [.int mo, .ref b, .int (nI s9)])) :: (b, .inl (X.2.1 4, z, .inr (.inr (.inr (.inr (va_up f s9 (some v))))))) :: ws) rfl dJx4a65c_add_72be8_14 (fun H locs hW hL => ?_)
    refine lv_aload_n hx hb dJx4a65c_add_72be8_15 rfl (lv_at hl 0 rfl) ?_
    refine lv_iload_n hx hb dJx4a65c_add_72be8_16 rfl (lv_at hl 3 rfl) ?_
    refine lv_iconst (v := 1) hx hb dJx4a65c_add_72be8_17 (by decide) ?_
    refine lv_iadd hx hb dJx4a65c_add_72be8_18 ?_
    refine k_nput (K := RJx4a65c) (T := TJx4a65c) (N := 3) (v := .int ((nI s9) + 1)) (ty := tyJx4a65c 2) hx hb fJx4a65c tyJx4a65c tyJx4a65c_ok nmJx4a65c hown hK hW hL 0 rfl rfl 2 (by decide) (hts (.fieldLink RJx4a65c 48 "java/util/ArrayList" "size" "I") (by decide +kernel)) (fun x h => h) rfl (tyJx4a65c_ok 2 (by decide)) rfl rfl (Nat.le_of_ble_eq_true rfl) (ws' := (a, .inr (3, [.int mo, .ref b, .int ((nI s9) + 1)])) :: (b, .inl (X.2.1 4, z, .inr (.inr (.inr (.inr (va_up f s9 (some v))))))) :: ws) rfl dJx4a65c_add_72be8_19 (fun H locs hW hL => ?_)
    exact k_vret hx hb hr hlocks (⟨rfl, by rw [← nI_1]; exact hW⟩) hL dJx4a65c_add_72be8_22
  ·
    exact absurd ((nI_eq (by omega) (by omega)).mp c1) (by omega)
set_option maxHeartbeats 4000000 in
set_option maxRecDepth 100000 in
theorem c_Jx4a65c_add_9ea2d_A (X : kX) (l : Launch) {n : Nat → Nat → Nat} {ad L : Nat → Nat → Nat → Nat} {C : Nat → Nat → Nat → Nat → Int32} {fr : Nat → Option Cell} {ws : va_W} (a b v : Nat) (mo : Int32) (s9 z : Nat) (f : Nat → Option Nat) (hs : s9 < z) (hz : z ≤ 80000) (hv : ∀ (s : State) (H : Heap), k_S X s → va_P X.1 vwCl ws H → va_Any "java/lang/Object" s H v) : k_M X l yJx4a65c_add_9ea2d wsJx4a65c_add_9ea2d ({ frames := 2, cells := 0, slots := 0, locals := 35 }) [.ref a, .ref v] (k_N X n ad L C fr ((a, .inr (3, [.int mo, .ref b, .int (nI s9)])) :: (b, .inl (X.2.1 4, z, .inr (.inr (.inr (.inr (f)))))) :: ws)) (fun v9 H => v9 = some (.int 1) ∧ k_N X n ad L C fr ((a, .inr (3, [.int (mo + 1), .ref b, .int (nI (s9 + 1))])) :: (b, .inl (X.2.1 4, z, .inr (.inr (.inr (.inr (va_up f s9 (some v))))))) :: ws) H) 0 0 := by
  refine k_M.of (cc := cJx4a65c_add_9ea2d) (maxL := 2) (ret := (some .boolean)) (by decide) rfl (Nat.le_of_ble_eq_true rfl) ?_
  intro p e s m args below meth c ls hx hb hr hml hown hts hlocks hnm hK hW hl
  have hL : ∀ q ∈ ([] : List Loc), k_B X ≤ q.base := fun _ h => nomatch h
  have hl : lv_has ls 2 [(0, .ref a), (1, .ref v)] := hl
  have fJx4a65c : ∀ w ∈ u_ws RJx4a65c TJx4a65c 3, w.before args s = true := fun w h => hts w ((by decide +kernel : ∀ w ∈ u_ws RJx4a65c TJx4a65c 3, w ∈ wsJx4a65c_add_9ea2d) w h)
  refine lv_aload_n hx hb dJx4a65c_add_9ea2d_0 rfl (lv_at hl 0 rfl) ?_
  refine lv_dup hx hb dJx4a65c_add_9ea2d_1 rfl ?_
  refine va_get (C := RJx4a65c) (T := TJx4a65c) (N := 3) (v := .int mo) hx hb fJx4a65c (fun _ h => h) hown hK.1 hW.2.1 0 rfl rfl 0 (by decide) (hts (.fieldLink RJx4a65c 63 "java/util/ArrayList" "modCount" "I") (by decide +kernel)) (u_same (hts (.sameField "java/util/ArrayList" "java/util/AbstractList" "modCount" "I") (by decide +kernel))) rfl dJx4a65c_add_9ea2d_2 ?_
  refine lv_iconst (v := 1) hx hb dJx4a65c_add_9ea2d_5 (by decide) ?_
  refine lv_iadd hx hb dJx4a65c_add_9ea2d_6 ?_
  refine k_nput (K := RJx4a65c) (T := TJx4a65c) (N := 3) (v := .int (mo + 1)) (ty := tyJx4a65c 0) hx hb fJx4a65c tyJx4a65c tyJx4a65c_ok nmJx4a65c hown hK hW hL 0 rfl rfl 0 (by decide) (hts (.fieldLink RJx4a65c 63 "java/util/ArrayList" "modCount" "I") (by decide +kernel)) (u_same (hts (.sameField "java/util/ArrayList" "java/util/AbstractList" "modCount" "I") (by decide +kernel))) rfl (tyJx4a65c_ok 0 (by decide)) rfl rfl (Nat.le_of_ble_eq_true rfl) (ws' := (a, .inr (3, [.int (mo + 1), .ref b, .int (nI s9)])) :: (b, .inl (X.2.1 4, z, .inr (.inr (.inr (.inr (f)))))) :: ws) rfl dJx4a65c_add_9ea2d_7 (fun H locs hW hL => ?_)
  refine lv_aload_n hx hb dJx4a65c_add_9ea2d_10 rfl (lv_at hl 0 rfl) ?_
  refine lv_aload_n hx hb dJx4a65c_add_9ea2d_11 rfl (lv_at hl 1 rfl) ?_
  refine lv_aload_n hx hb dJx4a65c_add_9ea2d_12 rfl (lv_at hl 0 rfl) ?_
  refine va_get (C := RJx4a65c) (T := TJx4a65c) (N := 3) (v := .ref b) hx hb fJx4a65c (fun _ h => h) hown hK.1 hW.2.1 0 rfl rfl 1 (by decide) (hts (.fieldLink RJx4a65c 9 "java/util/ArrayList" "elementData" "[Ljava/lang/Object;") (by decide +kernel)) (fun x h => h) rfl dJx4a65c_add_9ea2d_13 ?_
  refine lv_aload_n hx hb dJx4a65c_add_9ea2d_16 rfl (lv_at hl 0 rfl) ?_
  refine va_get (C := RJx4a65c) (T := TJx4a65c) (N := 3) (v := .int (nI s9)) hx hb fJx4a65c (fun _ h => h) hown hK.1 hW.2.1 0 rfl rfl 2 (by decide) (hts (.fieldLink RJx4a65c 48 "java/util/ArrayList" "size" "I") (by decide +kernel)) (fun x h => h) rfl dJx4a65c_add_9ea2d_17 ?_
  refine k_callV (As := [.ref v, .ref b, .int (nI s9)]) (rest := []) ⟨hx, hb, hml, hown, hts⟩ hK (c_Jx4a65c_add_72be8_A X l a b v (mo + 1) s9 z f hs hz hv) (cwV 3 hts gJx4a65c_add_9ea2d_Jx4a65c_add_72be8 rfl rfl rfl (by decide +kernel) ⟨Nat.le_of_ble_eq_true rfl, Nat.le_of_ble_eq_true rfl⟩) (va_recv (q0 := 0) (ci := 3) hK.1 hW.2.1 rfl rfl) hW rfl hl.1 rfl (Nat.le_of_ble_eq_true rfl) dJx4a65c_add_9ea2d_20 ⟨Nat.le_of_ble_eq_true rfl, Nat.le_of_ble_eq_true rfl⟩ hL (fun v9 H locs hp hL => ?_)
  obtain ⟨rfl, hW⟩ := hp
  refine lv_iconst (v := 1) hx hb dJx4a65c_add_9ea2d_23 (by decide) ?_
  exact k_zret hx hb hr (by decide) hlocks (⟨rfl, hW⟩) hL dJx4a65c_add_9ea2d_24
set_option maxHeartbeats 4000000 in
set_option maxRecDepth 100000 in
theorem c_Jx4a65c_grow_92f84_B (X : kX) (l : Launch) {n : Nat → Nat → Nat} {ad L : Nat → Nat → Nat → Nat} {C : Nat → Nat → Nat → Nat → Int32} {fr : Nat → Option Cell} {ws : va_W} (a : Nat) (mo : Int32) : k_M X l yJx4a65c_grow_92f84 wsJx4a65c_grow_92f84 ({ frames := 1, cells := 1, slots := 10, locals := 21 }) [.ref a, .int (0 + 1)] (k_N X n ad L C fr ((a, .inr (3, [.int mo, .ref X.2.2.2, .int 0])) :: ws)) (fun v9 H => ∃ q, v9 = some (.ref q) ∧ k_N X n ad L C fr ((q, .inl (X.2.1 4, 10, .inr (.inr (.inr (.inr (fun _ => none)))))) :: (a, .inr (3, [.int mo, .ref q, .int 0])) :: ws) H) 1 10 := by
  refine k_M.of (cc := cJx4a65c_grow_92f84) (maxL := 4) (ret := (some (.array (.object "java/lang/Object")))) (by decide) rfl (Nat.le_of_ble_eq_true rfl) ?_
  intro p e s m args below meth c ls hx hb hr hml hown hts hlocks hnm hK hW hl
  have hL : ∀ q ∈ ([] : List Loc), k_B X ≤ q.base := fun _ h => nomatch h
  have hl : lv_has ls 4 [(0, .ref a), (1, .int (0 + 1))] := hl
  have fJx4a65c : ∀ w ∈ u_ws RJx4a65c TJx4a65c 3, w.before args s = true := fun w h => hts w ((by decide +kernel : ∀ w ∈ u_ws RJx4a65c TJx4a65c 3, w ∈ wsJx4a65c_grow_92f84) w h)
  refine lv_aload_n hx hb dJx4a65c_grow_92f84_0 rfl (lv_at hl 0 rfl) ?_
  refine va_get (C := RJx4a65c) (T := TJx4a65c) (N := 3) (v := .ref X.2.2.2) hx hb fJx4a65c (fun _ h => h) hown hK.1 hW.2.1 0 rfl rfl 1 (by decide) (hts (.fieldLink RJx4a65c 9 "java/util/ArrayList" "elementData" "[Ljava/lang/Object;") (by decide +kernel)) (fun x h => h) rfl dJx4a65c_grow_92f84_1 ?_
  refine k_elen hx hb hK hW.1 dJx4a65c_grow_92f84_4 ?_
  refine lv_istore_n (lv' := [(2, .int 0), (0, .ref a), (1, .int (0 + 1))]) hx hb dJx4a65c_grow_92f84_5 rfl hl (by decide) rfl (fun ls hl => ?_)
  refine lv_iload_n hx hb dJx4a65c_grow_92f84_6 rfl (lv_at hl 0 rfl) ?_
  refine lv_if_gt (tgt := 20) hx hb dJx4a65c_grow_92f84_7 (by decide) (fun c1 => ?_) (fun c1 => ?_)
  ·
    exact absurd c1 (by decide)
  ·
    refine lv_aload_n hx hb dJx4a65c_grow_92f84_10 rfl (lv_at hl 1 rfl) ?_
    refine va_get (C := RJx4a65c) (T := TJx4a65c) (N := 3) (v := .ref X.2.2.2) hx hb fJx4a65c (fun _ h => h) hown hK.1 hW.2.1 0 rfl rfl 1 (by decide) (hts (.fieldLink RJx4a65c 9 "java/util/ArrayList" "elementData" "[Ljava/lang/Object;") (by decide +kernel)) (fun x h => h) rfl dJx4a65c_grow_92f84_11 ?_
    refine k_gets hx hb hK hW.1 hown (hts (.fieldLink RJx4a65c 39 "java/util/ArrayList" "DEFAULTCAPACITY_EMPTY_ELEMENTDATA" "[Ljava/lang/Object;") (by decide +kernel)) (fun x h => h) dJx4a65c_grow_92f84_14 ?_
    refine lv_acmp_eq (rx := some X.2.2.2) (ry := some X.2.2.2) (tgt := 45) hx hb dJx4a65c_grow_92f84_17 (by decide) (fun _ => ?_) (fun h => absurd rfl h)
    refine lv_aload_n hx hb dJx4a65c_grow_92f84_45 rfl (lv_at hl 1 rfl) ?_
    refine lv_bipush (v := 10) hx hb dJx4a65c_grow_92f84_46 (by decide) ?_
    refine lv_iload_n hx hb dJx4a65c_grow_92f84_48 rfl (lv_at hl 2 rfl) ?_
    refine va_mmax hx hb (by rw [hml]; exact hl.1.symm) hown (hts (.methodLink RJx4a65c 79 Lib.Math.max.name) (by decide +kernel)) (hts (.static Lib.Math.max.name) (by decide +kernel)) (hts (.initialized "java/lang/Math") (by decide +kernel)) (hts (.code Lib.Math.max.name Lib.Math.max.code 2 (some .int)) (by decide +kernel)) (Nat.le_of_ble_eq_true rfl) (Nat.le_of_ble_eq_true rfl) (Nat.le_of_ble_eq_true rfl) (Nat.le_of_ble_eq_true rfl) dJx4a65c_grow_92f84_49 ?_
    refine k_newq hx hb hown (hts (.classLink RJx4a65c 7 "java/lang/Object") (by decide +kernel)) hK.2.2.2.1 4 rfl hK hW (by decide) (N' := 10) (by decide) (by decide) (Nat.le_of_ble_eq_true rfl) (Nat.le_of_ble_eq_true rfl) dJx4a65c_grow_92f84_52 (fun q2 H hW => ?_)
    refine lv_dup_x1 hx hb dJx4a65c_grow_92f84_55 rfl rfl ?_
    refine k_nput (K := RJx4a65c) (T := TJx4a65c) (N := 3) (v := .ref q2) (ty := tyJx4a65c 1) hx hb fJx4a65c tyJx4a65c tyJx4a65c_ok nmJx4a65c hown hK hW hL 1 rfl rfl 1 (by decide) (hts (.fieldLink RJx4a65c 9 "java/util/ArrayList" "elementData" "[Ljava/lang/Object;") (by decide +kernel)) (fun x h => h) rfl (tyJx4a65c_ok 1 (by decide)) rfl rfl (Nat.le_of_ble_eq_true rfl) (ws' := (q2, .inl (X.2.1 4, 10, .inr (.inr (.inr (.inr (fun _ => none)))))) :: (a, .inr (3, [.int mo, .ref q2, .int 0])) :: ws) rfl dJx4a65c_grow_92f84_56 (fun H locs hW hL => ?_)
    exact k_aretA (v := some q2) hx hb hr hlocks (⟨_, rfl, hW⟩) hL dJx4a65c_grow_92f84_59
set_option maxHeartbeats 4000000 in
set_option maxRecDepth 100000 in
theorem c_Jx4a65c_grow_d5877_B (X : kX) (l : Launch) {n : Nat → Nat → Nat} {ad L : Nat → Nat → Nat → Nat} {C : Nat → Nat → Nat → Nat → Int32} {fr : Nat → Option Cell} {ws : va_W} (a : Nat) (mo : Int32) : k_M X l yJx4a65c_grow_d5877 wsJx4a65c_grow_d5877 ({ frames := 2, cells := 1, slots := 10, locals := 44 }) [.ref a] (k_N X n ad L C fr ((a, .inr (3, [.int mo, .ref X.2.2.2, .int 0])) :: ws)) (fun v9 H => ∃ q, v9 = some (.ref q) ∧ k_N X n ad L C fr ((q, .inl (X.2.1 4, 10, .inr (.inr (.inr (.inr (fun _ => none)))))) :: (a, .inr (3, [.int mo, .ref q, .int 0])) :: ws) H) 1 10 := by
  refine k_M.of (cc := cJx4a65c_grow_d5877) (maxL := 1) (ret := (some (.array (.object "java/lang/Object")))) (by decide) rfl (Nat.le_of_ble_eq_true rfl) ?_
  intro p e s m args below meth c ls hx hb hr hml hown hts hlocks hnm hK hW hl
  have hL : ∀ q ∈ ([] : List Loc), k_B X ≤ q.base := fun _ h => nomatch h
  have hl : lv_has ls 1 [(0, .ref a)] := hl
  have fJx4a65c : ∀ w ∈ u_ws RJx4a65c TJx4a65c 3, w.before args s = true := fun w h => hts w ((by decide +kernel : ∀ w ∈ u_ws RJx4a65c TJx4a65c 3, w ∈ wsJx4a65c_grow_d5877) w h)
  refine lv_aload_n hx hb dJx4a65c_grow_d5877_0 rfl (lv_at hl 0 rfl) ?_
  refine lv_aload_n hx hb dJx4a65c_grow_d5877_1 rfl (lv_at hl 0 rfl) ?_
  refine va_get (C := RJx4a65c) (T := TJx4a65c) (N := 3) (v := .int 0) hx hb fJx4a65c (fun _ h => h) hown hK.1 hW.2.1 0 rfl rfl 2 (by decide) (hts (.fieldLink RJx4a65c 48 "java/util/ArrayList" "size" "I") (by decide +kernel)) (fun x h => h) rfl dJx4a65c_grow_d5877_2 ?_
  refine lv_iconst (v := 1) hx hb dJx4a65c_grow_d5877_5 (by decide) ?_
  refine lv_iadd hx hb dJx4a65c_grow_d5877_6 ?_
  refine k_callV (As := [.int (0 + 1)]) (rest := []) ⟨hx, hb, hml, hown, hts⟩ hK (c_Jx4a65c_grow_92f84_B X l a mo) (cwV 1 hts gJx4a65c_grow_d5877_Jx4a65c_grow_92f84 rfl rfl rfl (by decide +kernel) ⟨Nat.le_of_ble_eq_true rfl, Nat.le_of_ble_eq_true rfl⟩) (va_recv (q0 := 0) (ci := 3) hK.1 hW.2.1 rfl rfl) hW rfl hl.1 rfl (Nat.le_of_ble_eq_true rfl) dJx4a65c_grow_d5877_7 ⟨Nat.le_of_ble_eq_true rfl, Nat.le_of_ble_eq_true rfl⟩ hL (fun v9 H locs hp hL => ?_)
  obtain ⟨q1, rfl, hW⟩ := hp
  exact k_aretA (v := some q1) hx hb hr hlocks (⟨_, rfl, hW⟩) hL dJx4a65c_grow_d5877_10
set_option maxHeartbeats 4000000 in
set_option maxRecDepth 100000 in
theorem c_Jx4a65c_add_72be8_B (X : kX) (l : Launch) {n : Nat → Nat → Nat} {ad L : Nat → Nat → Nat → Nat} {C : Nat → Nat → Nat → Nat → Int32} {fr : Nat → Option Cell} {ws : va_W} (a v : Nat) (mo : Int32) (hv : ∀ (s : State) (H : Heap), k_S X s → va_P X.1 vwCl ws H → va_Any "java/lang/Object" s H v) : k_M X l yJx4a65c_add_72be8 wsJx4a65c_add_72be8 ({ frames := 3, cells := 1, slots := 10, locals := 64 }) [.ref a, .ref v, .ref X.2.2.2, .int 0] (k_N X n ad L C fr ((a, .inr (3, [.int mo, .ref X.2.2.2, .int 0])) :: ws)) (fun v9 H => ∃ q, v9 = none ∧ k_N X n ad L C fr ((q, .inl (X.2.1 4, 10, .inr (.inr (.inr (.inr (va_up (fun _ => none) 0 (some v))))))) :: (a, .inr (3, [.int mo, .ref q, .int (0 + 1)])) :: ws) H) 1 10 := by
  refine k_M.of (cc := cJx4a65c_add_72be8) (maxL := 4) (ret := none) (by decide) rfl (Nat.le_of_ble_eq_true rfl) ?_
  intro p e s m args below meth c ls hx hb hr hml hown hts hlocks hnm hK hW hl
  have hL : ∀ q ∈ ([] : List Loc), k_B X ≤ q.base := fun _ h => nomatch h
  have hl : lv_has ls 4 [(0, .ref a), (1, .ref v), (2, .ref X.2.2.2), (3, .int 0)] := hl
  have fJx4a65c : ∀ w ∈ u_ws RJx4a65c TJx4a65c 3, w.before args s = true := fun w h => hts w ((by decide +kernel : ∀ w ∈ u_ws RJx4a65c TJx4a65c 3, w ∈ wsJx4a65c_add_72be8) w h)
  refine lv_iload_n hx hb dJx4a65c_add_72be8_0 rfl (lv_at hl 3 rfl) ?_
  refine lv_aload_n hx hb dJx4a65c_add_72be8_1 rfl (lv_at hl 2 rfl) ?_
  refine k_elen hx hb hK hW.1 dJx4a65c_add_72be8_2 ?_
  refine lv_icmp_ne (tgt := 11) hx hb dJx4a65c_add_72be8_3 (by decide) (fun c1 => ?_) (fun c1 => ?_)
  ·
    exact absurd c1 (by decide)
  ·
    refine lv_aload_n hx hb dJx4a65c_add_72be8_6 rfl (lv_at hl 0 rfl) ?_
    refine k_callV (As := []) (rest := []) ⟨hx, hb, hml, hown, hts⟩ hK (c_Jx4a65c_grow_d5877_B X l a mo) (cwV 0 hts gJx4a65c_add_72be8_Jx4a65c_grow_d5877 rfl rfl rfl (by decide +kernel) ⟨Nat.le_of_ble_eq_true rfl, Nat.le_of_ble_eq_true rfl⟩) (va_recv (q0 := 0) (ci := 3) hK.1 hW.2.1 rfl rfl) hW rfl hl.1 rfl (Nat.le_of_ble_eq_true rfl) dJx4a65c_add_72be8_7 ⟨Nat.le_of_ble_eq_true rfl, Nat.le_of_ble_eq_true rfl⟩ hL (fun v9 H locs hp hL => ?_)
    obtain ⟨q2, rfl, hW⟩ := hp
    refine lv_astore_n (lv' := [(2, .ref q2), (0, .ref a), (1, .ref v), (3, .int 0)]) hx hb dJx4a65c_add_72be8_10 rfl hl (by decide) rfl (fun ls hl => ?_)
    refine lv_aload_n hx hb dJx4a65c_add_72be8_11 rfl (lv_at hl 0 rfl) ?_
    refine lv_iload_n hx hb dJx4a65c_add_72be8_12 rfl (lv_at hl 3 rfl) ?_
    refine lv_aload_n hx hb dJx4a65c_add_72be8_13 rfl (lv_at hl 2 rfl) ?_
    refine k_nastq (k := 0) hx hb hK hW hL 0 rfl (hv _ _ hK (k_N.tail (k_N.tail hW)).2.1) (by decide) (by unfold vp_in; decide) (ws' := (q2, .inl (X.2.1 4, 10, .inr (.inr (.inr (.inr (va_up (fun _ => none) 0 (some v))))))) :: (a, .inr (3, [.int mo, .ref q2, .int 0])) :: ws) rfl dJx4a65c_add_72be8_14 (fun H locs hW hL => ?_)
    refine lv_aload_n hx hb dJx4a65c_add_72be8_15 rfl (lv_at hl 1 rfl) ?_
    refine lv_iload_n hx hb dJx4a65c_add_72be8_16 rfl (lv_at hl 3 rfl) ?_
    refine lv_iconst (v := 1) hx hb dJx4a65c_add_72be8_17 (by decide) ?_
    refine lv_iadd hx hb dJx4a65c_add_72be8_18 ?_
    refine k_nput (K := RJx4a65c) (T := TJx4a65c) (N := 3) (v := .int (0 + 1)) (ty := tyJx4a65c 2) hx hb fJx4a65c tyJx4a65c tyJx4a65c_ok nmJx4a65c hown hK hW hL 1 rfl rfl 2 (by decide) (hts (.fieldLink RJx4a65c 48 "java/util/ArrayList" "size" "I") (by decide +kernel)) (fun x h => h) rfl (tyJx4a65c_ok 2 (by decide)) rfl rfl (Nat.le_of_ble_eq_true rfl) (ws' := (q2, .inl (X.2.1 4, 10, .inr (.inr (.inr (.inr (va_up (fun _ => none) 0 (some v))))))) :: (a, .inr (3, [.int mo, .ref q2, .int (0 + 1)])) :: ws) rfl dJx4a65c_add_72be8_19 (fun H locs hW hL => ?_)
    exact k_vret hx hb hr hlocks (⟨_, rfl, hW⟩) hL dJx4a65c_add_72be8_22
set_option maxHeartbeats 4000000 in
set_option maxRecDepth 100000 in
theorem c_Jx4a65c_add_9ea2d_B (X : kX) (l : Launch) {n : Nat → Nat → Nat} {ad L : Nat → Nat → Nat → Nat} {C : Nat → Nat → Nat → Nat → Int32} {fr : Nat → Option Cell} {ws : va_W} (a v : Nat) (mo : Int32) (hv : ∀ (s : State) (H : Heap), k_S X s → va_P X.1 vwCl ws H → va_Any "java/lang/Object" s H v) : k_M X l yJx4a65c_add_9ea2d wsJx4a65c_add_9ea2d ({ frames := 4, cells := 1, slots := 10, locals := 87 }) [.ref a, .ref v] (k_N X n ad L C fr ((a, .inr (3, [.int mo, .ref X.2.2.2, .int 0])) :: ws)) (fun v9 H => ∃ q, v9 = some (.int 1) ∧ k_N X n ad L C fr ((q, .inl (X.2.1 4, 10, .inr (.inr (.inr (.inr (va_up (fun _ => none) 0 (some v))))))) :: (a, .inr (3, [.int (mo + 1), .ref q, .int (0 + 1)])) :: ws) H) 1 10 := by
  refine k_M.of (cc := cJx4a65c_add_9ea2d) (maxL := 2) (ret := (some .boolean)) (by decide) rfl (Nat.le_of_ble_eq_true rfl) ?_
  intro p e s m args below meth c ls hx hb hr hml hown hts hlocks hnm hK hW hl
  have hL : ∀ q ∈ ([] : List Loc), k_B X ≤ q.base := fun _ h => nomatch h
  have hl : lv_has ls 2 [(0, .ref a), (1, .ref v)] := hl
  have fJx4a65c : ∀ w ∈ u_ws RJx4a65c TJx4a65c 3, w.before args s = true := fun w h => hts w ((by decide +kernel : ∀ w ∈ u_ws RJx4a65c TJx4a65c 3, w ∈ wsJx4a65c_add_9ea2d) w h)
  refine lv_aload_n hx hb dJx4a65c_add_9ea2d_0 rfl (lv_at hl 0 rfl) ?_
  refine lv_dup hx hb dJx4a65c_add_9ea2d_1 rfl ?_
  refine va_get (C := RJx4a65c) (T := TJx4a65c) (N := 3) (v := .int mo) hx hb fJx4a65c (fun _ h => h) hown hK.1 hW.2.1 0 rfl rfl 0 (by decide) (hts (.fieldLink RJx4a65c 63 "java/util/ArrayList" "modCount" "I") (by decide +kernel)) (u_same (hts (.sameField "java/util/ArrayList" "java/util/AbstractList" "modCount" "I") (by decide +kernel))) rfl dJx4a65c_add_9ea2d_2 ?_
  refine lv_iconst (v := 1) hx hb dJx4a65c_add_9ea2d_5 (by decide) ?_
  refine lv_iadd hx hb dJx4a65c_add_9ea2d_6 ?_
  refine k_nput (K := RJx4a65c) (T := TJx4a65c) (N := 3) (v := .int (mo + 1)) (ty := tyJx4a65c 0) hx hb fJx4a65c tyJx4a65c tyJx4a65c_ok nmJx4a65c hown hK hW hL 0 rfl rfl 0 (by decide) (hts (.fieldLink RJx4a65c 63 "java/util/ArrayList" "modCount" "I") (by decide +kernel)) (u_same (hts (.sameField "java/util/ArrayList" "java/util/AbstractList" "modCount" "I") (by decide +kernel))) rfl (tyJx4a65c_ok 0 (by decide)) rfl rfl (Nat.le_of_ble_eq_true rfl) (ws' := (a, .inr (3, [.int (mo + 1), .ref X.2.2.2, .int 0])) :: ws) rfl dJx4a65c_add_9ea2d_7 (fun H locs hW hL => ?_)
  refine lv_aload_n hx hb dJx4a65c_add_9ea2d_10 rfl (lv_at hl 0 rfl) ?_
  refine lv_aload_n hx hb dJx4a65c_add_9ea2d_11 rfl (lv_at hl 1 rfl) ?_
  refine lv_aload_n hx hb dJx4a65c_add_9ea2d_12 rfl (lv_at hl 0 rfl) ?_
  refine va_get (C := RJx4a65c) (T := TJx4a65c) (N := 3) (v := .ref X.2.2.2) hx hb fJx4a65c (fun _ h => h) hown hK.1 hW.2.1 0 rfl rfl 1 (by decide) (hts (.fieldLink RJx4a65c 9 "java/util/ArrayList" "elementData" "[Ljava/lang/Object;") (by decide +kernel)) (fun x h => h) rfl dJx4a65c_add_9ea2d_13 ?_
  refine lv_aload_n hx hb dJx4a65c_add_9ea2d_16 rfl (lv_at hl 0 rfl) ?_
  refine va_get (C := RJx4a65c) (T := TJx4a65c) (N := 3) (v := .int 0) hx hb fJx4a65c (fun _ h => h) hown hK.1 hW.2.1 0 rfl rfl 2 (by decide) (hts (.fieldLink RJx4a65c 48 "java/util/ArrayList" "size" "I") (by decide +kernel)) (fun x h => h) rfl dJx4a65c_add_9ea2d_17 ?_
  refine k_callV (As := [.ref v, .ref X.2.2.2, .int 0]) (rest := []) ⟨hx, hb, hml, hown, hts⟩ hK (c_Jx4a65c_add_72be8_B X l a v (mo + 1) hv) (cwV 3 hts gJx4a65c_add_9ea2d_Jx4a65c_add_72be8 rfl rfl rfl (by decide +kernel) ⟨Nat.le_of_ble_eq_true rfl, Nat.le_of_ble_eq_true rfl⟩) (va_recv (q0 := 0) (ci := 3) hK.1 hW.2.1 rfl rfl) hW rfl hl.1 rfl (Nat.le_of_ble_eq_true rfl) dJx4a65c_add_9ea2d_20 ⟨Nat.le_of_ble_eq_true rfl, Nat.le_of_ble_eq_true rfl⟩ hL (fun v9 H locs hp hL => ?_)
  obtain ⟨q1, rfl, hW⟩ := hp
  refine lv_iconst (v := 1) hx hb dJx4a65c_add_9ea2d_23 (by decide) ?_
  exact k_zret hx hb hr (by decide) hlocks (⟨_, rfl, hW⟩) hL dJx4a65c_add_9ea2d_24
