set_option maxHeartbeats 400000 in
set_option maxRecDepth 100000 in
theorem c_L_meanWait (X : kX) (l : Launch) {n : Nat → Nat → Nat} {ad L : Nat → Nat → Nat → Nat} {C : Nat → Nat → Nat → Nat → Int32} {fr : Nat → Option Cell} {nl nt ng : Nat} (hd : kDk n 0 nl nt ng) (D : KD) {ne : Nat} (hc : kCx n ne) (hfp : kFP) (hl9 : l.stackTraces = false) {ws : va_W} {o : Nat} {f : Nat → UInt64} : k_X X l yL_meanWait wsL_meanWait ({ frames := 7, cells := 1, slots := 6, locals := 119 }) [.ref (ad 5 16 0), .ref o] (k_N X n ad L (k_g C 0 D) fr ((o, .inl (X.2.1 6, 1, .inr (.inr (.inr (.inl f))))) :: ws)) (fun v H => v = some (.int (s_x_meanWait D nl nt ng)) ∧ (s_x_meanWait D nl nt ng = 0 → k_N X n ad L (k_g C 0 D) fr ((o, .inl (X.2.1 6, 1, .inr (.inr (.inr (.inl (vf_upd f 0 (FP.ddiv (FP.i2d (s_X0_minutesWaited D nl nt ng)) (FP.i2d (nI nl))))))))) :: ws) H) ∧ (s_x_meanWait D nl nt ng ≠ 0 → k_N X n ad L (k_g C 0 D) fr ((o, .inl (X.2.1 6, 1, .inr (.inr (.inr (.inl f))))) :: ws) H)) (fun _ _ => False) 1 6 := by
  refine k_XH.of (cc := cL_meanWait) (maxL := 3) (ret := some .int) (hh := [(0, 7, 10, 95)]) (by decide) rfl (Nat.le_of_ble_eq_true rfl) ?_
  intro p e s m args below meth c ls hx hb hr hml hown hts hlocks hnm ht hK hW hl
  have hL : ∀ q ∈ ([] : List Loc), k_B X ≤ q.base := fun _ h => nomatch h
  have hl : lv_has ls 3 [(0, .ref (ad 5 16 0)), (1, .ref o)] := hl
  refine lv_aload_n hx hb dL_meanWait_0 rfl (lv_at hl 1 rfl) ?_
  refine lv_iconst (v := 0) hx hb dL_meanWait_1 (by decide) ?_
  refine lv_aload_n hx hb dL_meanWait_2 rfl (lv_at hl 0 rfl) ?_
  obtain ⟨fr1, hF, hback⟩ := hW.freeze
  refine kx_callV (As := []) (rest := [.int 0, .ref o]) ⟨hx, hb, hml, hown, hts⟩ hK (c_X6_meanWait X l hd D hc hfp hl9) (cwV 0 hts gL_meanWait_X6_meanWait rfl rfl rfl (by decide +kernel) ⟨Nat.le_of_ble_eq_true rfl, Nat.le_of_ble_eq_true rfl⟩) (k_recv hK (k_ev hF) 16 0 hc.o (fun _ => rfl) rfl) hF rfl hl.1 rfl (Nat.le_of_ble_eq_true rfl) dL_meanWait_3 ⟨Nat.le_of_ble_eq_true rfl, Nat.le_of_ble_eq_true rfl⟩ hL (fun E ce q H locs hp hL hce hcv hcl => ?_) (fun v9 H locs hp hL => ?_)
  ·
    obtain ⟨rfl, hx1, hW⟩ := hp
    refine k_catch (own := RL) (s0 := 0) (e0 := 7) (hpc := 10) (ct := 95) [] [] 20 hown hK ht (fun z hz => by cases hz) rfl (by decide) (hts (.classLink RL 95 "java/lang/ArithmeticException") (by decide +kernel)) rfl hce hcv hcl ?_
    refine lv_astore_n (lv' := [(2, .ref q), (0, .ref (ad 5 16 0)), (1, .ref o)]) hx hb dL_meanWait_10 rfl hl (by decide) rfl (fun ls hl => ?_)
    refine lv_iconst (v := 1) hx hb dL_meanWait_11 (by decide) ?_
    refine k_more (cells' := 1) (slots' := 6) (Nat.le_of_ble_eq_true rfl) (Nat.le_of_ble_eq_true rfl) (vx_ret ?_)
    exact k_iret hx hb hr hlocks ⟨by rw [hx1], fun h => absurd (hx1.symm.trans h) (by decide), fun _ => hback _ _ _ _ _ hW⟩ hL dL_meanWait_12
  ·
    obtain ⟨hx0, rfl, hW1⟩ := hp
    have hW := hback _ _ _ _ _ hW1
    refine k_ndast (k := 0) (ws' := (o, .inl (X.2.1 6, 1, .inr (.inr (.inr (.inl (vf_upd f 0 (FP.ddiv (FP.i2d (s_X0_minutesWaited D nl nt ng)) (FP.i2d (nI nl))))))))) :: ws) hx hb hK hW hL 0 rfl (by decide) (by unfold vp_in; decide) rfl dL_meanWait_6 (fun H locs hW hL => ?_)
    refine lv_goto (tgt := 13) hx hb dL_meanWait_7 (by decide) ?_
    refine lv_iconst (v := 0) hx hb dL_meanWait_13 (by decide) ?_
    refine k_more (cells' := 1) (slots' := 6) (Nat.le_of_ble_eq_true rfl) (Nat.le_of_ble_eq_true rfl) (vx_ret ?_)
    exact k_iret hx hb hr hlocks ⟨by rw [hx0], fun _ => hW, fun h => absurd hx0 h⟩ hL dL_meanWait_14
set_option maxHeartbeats 400000 in
set_option maxRecDepth 100000 in
theorem c_L_dockShare (X : kX) (l : Launch) {n : Nat → Nat → Nat} {ad L : Nat → Nat → Nat → Nat} {C : Nat → Nat → Nat → Nat → Int32} {fr : Nat → Option Cell} {nl nt ng : Nat} (hd : kDk n 0 nl nt ng) (D : KD) {ne : Nat} (hc : kCx n ne) (hfp : kFP) (hl9 : l.stackTraces = false) {ws : va_W} {o : Nat} {f : Nat → UInt64} : k_X X l yL_dockShare wsL_dockShare ({ frames := 7, cells := 1, slots := 6, locals := 119 }) [.ref (ad 5 16 0), .ref o] (k_N X n ad L (k_g C 0 D) fr ((o, .inl (X.2.1 6, 1, .inr (.inr (.inr (.inl f))))) :: ws)) (fun v H => v = some (.int (s_x_dockShare D nl nt ng)) ∧ (s_x_dockShare D nl nt ng = 0 → k_N X n ad L (k_g C 0 D) fr ((o, .inl (X.2.1 6, 1, .inr (.inr (.inr (.inl (vf_upd f 0 (FP.f2d (FP.fdiv (FP.i2f (s_X0_minutesOfTheDock D nl nt ng)) (FP.i2f (s_X0_minutesWaited D nl nt ng)))))))))) :: ws) H) ∧ (s_x_dockShare D nl nt ng ≠ 0 → k_N X n ad L (k_g C 0 D) fr ((o, .inl (X.2.1 6, 1, .inr (.inr (.inr (.inl f))))) :: ws) H)) (fun _ _ => False) 1 6 := by
  refine k_XH.of (cc := cL_dockShare) (maxL := 3) (ret := some .int) (hh := [(0, 8, 11, 95)]) (by decide) rfl (Nat.le_of_ble_eq_true rfl) ?_
  intro p e s m args below meth c ls hx hb hr hml hown hts hlocks hnm ht hK hW hl
  have hL : ∀ q ∈ ([] : List Loc), k_B X ≤ q.base := fun _ h => nomatch h
  have hl : lv_has ls 3 [(0, .ref (ad 5 16 0)), (1, .ref o)] := hl
  refine lv_aload_n hx hb dL_dockShare_0 rfl (lv_at hl 1 rfl) ?_
  refine lv_iconst (v := 0) hx hb dL_dockShare_1 (by decide) ?_
  refine lv_aload_n hx hb dL_dockShare_2 rfl (lv_at hl 0 rfl) ?_
  obtain ⟨fr1, hF, hback⟩ := hW.freeze
  refine kx_callV (As := []) (rest := [.int 0, .ref o]) ⟨hx, hb, hml, hown, hts⟩ hK (c_X6_dockShare X l hd D hc hfp hl9) (cwV 0 hts gL_dockShare_X6_dockShare rfl rfl rfl (by decide +kernel) ⟨Nat.le_of_ble_eq_true rfl, Nat.le_of_ble_eq_true rfl⟩) (k_recv hK (k_ev hF) 16 0 hc.o (fun _ => rfl) rfl) hF rfl hl.1 rfl (Nat.le_of_ble_eq_true rfl) dL_dockShare_3 ⟨Nat.le_of_ble_eq_true rfl, Nat.le_of_ble_eq_true rfl⟩ hL (fun E ce q H locs hp hL hce hcv hcl => ?_) (fun v9 H locs hp hL => ?_)
  ·
    obtain ⟨rfl, hx1, hW⟩ := hp
    refine k_catch (own := RL) (s0 := 0) (e0 := 8) (hpc := 11) (ct := 95) [] [] 20 hown hK ht (fun z hz => by cases hz) rfl (by decide) (hts (.classLink RL 95 "java/lang/ArithmeticException") (by decide +kernel)) rfl hce hcv hcl ?_
    refine lv_astore_n (lv' := [(2, .ref q), (0, .ref (ad 5 16 0)), (1, .ref o)]) hx hb dL_dockShare_11 rfl hl (by decide) rfl (fun ls hl => ?_)
    refine lv_iconst (v := 1) hx hb dL_dockShare_12 (by decide) ?_
    refine k_more (cells' := 1) (slots' := 6) (Nat.le_of_ble_eq_true rfl) (Nat.le_of_ble_eq_true rfl) (vx_ret ?_)
    exact k_iret hx hb hr hlocks ⟨by rw [hx1], fun h => absurd (hx1.symm.trans h) (by decide), fun _ => hback _ _ _ _ _ hW⟩ hL dL_dockShare_13
  ·
    obtain ⟨hx0, rfl, hW1⟩ := hp
    have hW := hback _ _ _ _ _ hW1
    refine lv_f2d hx hb dL_dockShare_6 (hfp.2.1 _ _ (k_b0 hx0)).2 ?_
    refine k_ndast (k := 0) (ws' := (o, .inl (X.2.1 6, 1, .inr (.inr (.inr (.inl (vf_upd f 0 (FP.f2d (FP.fdiv (FP.i2f (s_X0_minutesOfTheDock D nl nt ng)) (FP.i2f (s_X0_minutesWaited D nl nt ng)))))))))) :: ws) hx hb hK hW hL 0 rfl (by decide) (by unfold vp_in; decide) rfl dL_dockShare_7 (fun H locs hW hL => ?_)
    refine lv_goto (tgt := 14) hx hb dL_dockShare_8 (by decide) ?_
    refine lv_iconst (v := 0) hx hb dL_dockShare_14 (by decide) ?_
    refine k_more (cells' := 1) (slots' := 6) (Nat.le_of_ble_eq_true rfl) (Nat.le_of_ble_eq_true rfl) (vx_ret ?_)
    exact k_iret hx hb hr hlocks ⟨by rw [hx0], fun _ => hW, fun h => absurd hx0 h⟩ hL dL_dockShare_15
