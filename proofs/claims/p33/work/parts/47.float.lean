/-! doubles and floats: what is asked of the machine's numbers, shown at the end -/
def kFP : Prop := (∀ a b : Int32, ¬ b = 0 → vf_n64 (FP.ddiv (FP.i2d a) (FP.i2d b))) ∧ (∀ a b : Int32, ¬ b = 0 → vf_n32 (FP.fdiv (FP.i2f a) (FP.i2f b)) ∧ vf_n64 (FP.f2d (FP.fdiv (FP.i2f a) (FP.i2f b)))) ∧ (∀ x : UInt64, vf_n64 x → FP.dcmp x x = some .eq) ∧ vf_n64 (FP.f2d FP.fconst0)
section KFP
variable {p : Program} {l : Launch} {e : Env} {R : Room} {s : State} {m : MethodId} {args : Array Value} {below : List Frame} {meth : Method} {c : Code} {H : Heap} {locs : List Loc} {cells slots : Nat} {Q : State → Prop}
variable {cc : ByteArray} {pc : Nat} {ls : Array Slot} {rest : List Value} {X : kX} {n : Nat → Nat → Nat} {ad L : Nat → Nat → Nat → Nat} {C : Nat → Nat → Nat → Nat → Int32} {fr : Nat → Option Cell} {ws ws' : va_W} {a : Nat}
theorem k_dret {Po : Option Value → Heap → Prop} {v : UInt64} (hexec : p.tables.exec = Jvm.exec) (hb : c.code = cc) (hr : meth.sig.returnType = some .double) (hlocks : meth.locks = false) (hq : Po (some (.double v)) H) (hL : ∀ q ∈ locs, k_B X ≤ q.base) (hdg : decode cc pc = .ok (.dreturn, 1)) : W p l e R s m args below meth c H locs cells slots (MQ below (k_Q Po) args s cells slots (fun q => k_B X ≤ q)) (F0 m pc ls [.double v]) :=
  W.dret hexec hb hr (fun t ht _ => ⟨_, rfl, by rw [ht]; exact hq⟩) hL hdg
theorem k_fret {Po : Option Value → Heap → Prop} {v : UInt32} (hexec : p.tables.exec = Jvm.exec) (hb : c.code = cc) (hr : meth.sig.returnType = some .float) (hlocks : meth.locks = false) (hq : Po (some (.float v)) H) (hL : ∀ q ∈ locs, k_B X ≤ q.base) (hdg : decode cc pc = .ok (.freturn, 1)) : W p l e R s m args below meth c H locs cells slots (MQ below (k_Q Po) args s cells slots (fun q => k_B X ≤ q)) (F0 m pc ls [.float v]) :=
  W.fret hexec hb hr (fun t ht _ => ⟨_, rfl, by rw [ht]; exact hq⟩) hL hdg
end KFP
theorem ha_X6_meanWait_191 : ∀ w ∈ (vx_atS RX6 191 "java/lang/ArithmeticException" ["java/lang/RuntimeException", "java/lang/Exception"]).filter goodWord, w ∈ wsX6_meanWait := fun _ h => List.mem_cons_of_mem _ (List.mem_append_right _ h)
theorem bad_RX6_191 : ∀ w ∈ (vx_atS RX6 191 "java/lang/ArithmeticException" ["java/lang/RuntimeException", "java/lang/Exception"]).filter (fun w => !goodWord w), w ∈ k_nw := by decide +kernel
theorem og_RX6_187_191 : ∀ w ∈ Cond.classLink RX6 187 "java/lang/ArithmeticException" :: Cond.initialized "java/lang/ArithmeticException" :: vx_atS RX6 191 "java/lang/ArithmeticException" ["java/lang/RuntimeException", "java/lang/Exception"], vx_ot w = true := by decide +kernel
def s_x_meanWait (D : KD) (nl : Nat) (nt : Nat) (ng : Nat) : Int32 := (if (nI nl) = 0 then 1 else 0)
set_option maxHeartbeats 400000 in
set_option maxRecDepth 100000 in
theorem c_X6_meanWait (X : kX) (l : Launch) {n : Nat → Nat → Nat} {ad L : Nat → Nat → Nat → Nat} {C : Nat → Nat → Nat → Nat → Int32} {fr : Nat → Option Cell} {nl nt ng : Nat} (hd : kDk n 0 nl nt ng) (D : KD) {ne : Nat} (hc : kCx n ne) (hfp : kFP) (hl9 : l.stackTraces = false) : k_X X l yX6_meanWait wsX6_meanWait ({ frames := 6, cells := 1, slots := 6, locals := 98 }) [.ref (ad 5 16 0)] (k_W X n ad L (k_g C 0 D) fr) (fun v H => s_x_meanWait D nl nt ng = 0 ∧ v = some (.double (FP.ddiv (FP.i2d (s_X0_minutesWaited D nl nt ng)) (FP.i2d (nI nl)))) ∧ k_W X n ad L (k_g C 0 D) fr H) (fun E H => (E = "java/lang/ArithmeticException" ∧ s_x_meanWait D nl nt ng = 1 ∧ k_W X n ad L (k_g C 0 D) fr H)) 1 6 := by
  refine k_X.of (cc := cX6_meanWait) (maxL := 2) (ret := (some .double)) (by decide) rfl (Nat.le_of_ble_eq_true rfl) ?_
  intro p e s m args below meth c ls hx hb hr hml hown hts hlocks hnm ht hK hW hl
  have hW0 := hW
  have hL : ∀ q ∈ ([] : List Loc), k_B X ≤ q.base := fun _ h => nomatch h
  have hl : lv_has ls 2 [(0, .ref (ad 5 16 0))] := hl
  have fX6 : ∀ w ∈ u_ws RX6 TX6 2, w.before args s = true := fun w h => hts w ((by decide +kernel : ∀ w ∈ u_ws RX6 TX6 2, w ∈ wsX6_meanWait) w h)
  have fX0 : ∀ w ∈ u_ws RX0 TX0 5, w.before args s = true := fun w h => hts w ((by decide +kernel : ∀ w ∈ u_ws RX0 TX0 5, w ∈ wsX6_meanWait) w h)
  have hl8 := hd.l8
  have ht16 := hd.t16
  have hg4 := hd.g4
  refine lv_aload_n hx hb dX6_meanWait_0 rfl (lv_at hl 0 rfl) ?_
  refine k_get (g := 5) (K := RX6) (T := TX6) (N := 2) (v := .ref (ad 0 0 0)) (w := .ref (ad 0 0 0)) hx hb fX6 hown hK (k_ev hW) 16 0 hc.o (fun _ => rfl) rfl 0 (by decide) (hts (.fieldLink RX6 12 "Crossdockery" "dock" "LCrossdockery$Dock;") (by decide +kernel)) rfl rfl rfl dX6_meanWait_1 ?_
  refine k_get (K := RX0) (T := TX0) (N := 5) (v := .ref (ad 0 1 0)) (w := .ref (ad 0 1 0)) hx hb fX0 hown hK hW 0 0 hd.o (fun _ => rfl) rfl 0 (by decide) (hts (.fieldLink RX6 34 "Crossdockery$Dock" "lorries" "Ljava/util/ArrayList;") (by decide +kernel)) rfl rfl rfl dX6_meanWait_4 ?_
  refine k_callV (As := []) (rest := []) ⟨hx, hb, hml, hown, hts⟩ hK (c_size0 X l hd) (cwV 0 hts gX6_meanWait_Jx4a65c_size_8abf5 rfl rfl rfl (by decide +kernel) ⟨Nat.le_of_ble_eq_true rfl, Nat.le_of_ble_eq_true rfl⟩) (k_recv hK hW 1 0 (hd.li (by decide)) (fun _ => rfl) rfl) hW rfl hl.1 rfl (Nat.le_of_ble_eq_true rfl) dX6_meanWait_7 ⟨Nat.le_of_ble_eq_true rfl, Nat.le_of_ble_eq_true rfl⟩ hL (fun v9 H locs hp hL => ?_)
  obtain ⟨rfl, hW⟩ := hp
  refine lv_istore_n (lv' := [(1, .int (nI nl)), (0, .ref (ad 5 16 0))]) hx hb dX6_meanWait_10 rfl hl (by decide) rfl (fun ls hl => ?_)
  refine lv_iload_n hx hb dX6_meanWait_11 rfl (lv_at hl 0 rfl) ?_
  refine lv_if_ne (tgt := 25) hx hb dX6_meanWait_12 (by decide) (fun c1 => ?_) (fun c1 => ?_)
  ·
    refine lv_aload_n hx hb dX6_meanWait_25 rfl (lv_at hl 1 rfl) ?_
    refine k_get (g := 5) (K := RX6) (T := TX6) (N := 2) (v := .ref (ad 0 0 0)) (w := .ref (ad 0 0 0)) hx hb fX6 hown hK (k_ev hW) 16 0 hc.o (fun _ => rfl) rfl 0 (by decide) (hts (.fieldLink RX6 12 "Crossdockery" "dock" "LCrossdockery$Dock;") (by decide +kernel)) rfl rfl rfl dX6_meanWait_26 ?_
    refine k_callV (As := []) (rest := []) ⟨hx, hb, hml, hown, hts⟩ hK (c_X0_minutesWaited X l hd D ) (cwV 0 hts gX6_meanWait_X0_minutesWaited rfl rfl rfl (by decide +kernel) ⟨Nat.le_of_ble_eq_true rfl, Nat.le_of_ble_eq_true rfl⟩) (k_recv hK hW 0 0 hd.o (fun _ => rfl) rfl) hW rfl hl.1 rfl (Nat.le_of_ble_eq_true rfl) dX6_meanWait_29 ⟨Nat.le_of_ble_eq_true rfl, Nat.le_of_ble_eq_true rfl⟩ hL (fun v9 H locs hp hL => ?_)
    obtain ⟨rfl, hW⟩ := hp
    refine lv_i2d hx hb dX6_meanWait_32 ?_
    refine lv_iload_n hx hb dX6_meanWait_33 rfl (lv_at hl 0 rfl) ?_
    refine lv_i2d hx hb dX6_meanWait_34 ?_
    refine lv_ddiv hx hb dX6_meanWait_35 (hfp.1 _ _ c1) ?_
    refine k_more (cells' := 1) (slots' := 6) (Nat.le_of_ble_eq_true rfl) (Nat.le_of_ble_eq_true rfl) (vx_ret ?_)
    exact k_dret hx hb hr hlocks (⟨(by unfold s_x_meanWait; first | rfl | (simp only [if_neg c1]; done) | (simp only [if_neg c1]; rfl)), rfl, hW⟩) hL dX6_meanWait_36
  ·
    exact k_throw (own := RX6) (cls := "java/lang/ArithmeticException") (text := "there are no lorries") (ik := 187) (is := 189) (ic := 191) hx hb hl9 7 hown (by decide +kernel) hK rfl (hts (.classLink RX6 187 "java/lang/ArithmeticException") (by decide +kernel)) (hts (.initialized "java/lang/ArithmeticException") (by decide +kernel)) (fun w hw => hts w (ha_X6_meanWait_191 w hw)) bad_RX6_191 og_RX6_187_191 hW0 hW hL (hl.1.trans hml.symm) dX6_meanWait_15 dX6_meanWait_18 dX6_meanWait_19 dX6_meanWait_21 dX6_meanWait_24 ht (Nat.le_of_ble_eq_true rfl) (Nat.le_of_ble_eq_true rfl) (Nat.le_of_ble_eq_true rfl) (Nat.le_of_ble_eq_true rfl) hlocks (fun H1 hW => ⟨rfl, (by unfold s_x_meanWait; first | rfl | (simp only [if_pos c1]; done) | (simp only [if_pos c1]; rfl)), hW⟩) (Nat.le_of_ble_eq_true rfl) (Nat.le_of_ble_eq_true rfl)
theorem ha_X6_dockShare_191 : ∀ w ∈ (vx_atS RX6 191 "java/lang/ArithmeticException" ["java/lang/RuntimeException", "java/lang/Exception"]).filter goodWord, w ∈ wsX6_dockShare := fun _ h => List.mem_cons_of_mem _ (List.mem_append_left _ (List.mem_append_right _ h))
def s_x_dockShare (D : KD) (nl : Nat) (nt : Nat) (ng : Nat) : Int32 := (if (s_X0_minutesWaited D nl nt ng) = 0 then 1 else 0)
set_option maxHeartbeats 400000 in
set_option maxRecDepth 100000 in
theorem c_X6_dockShare (X : kX) (l : Launch) {n : Nat → Nat → Nat} {ad L : Nat → Nat → Nat → Nat} {C : Nat → Nat → Nat → Nat → Int32} {fr : Nat → Option Cell} {nl nt ng : Nat} (hd : kDk n 0 nl nt ng) (D : KD) {ne : Nat} (hc : kCx n ne) (hfp : kFP) (hl9 : l.stackTraces = false) : k_X X l yX6_dockShare wsX6_dockShare ({ frames := 6, cells := 1, slots := 6, locals := 98 }) [.ref (ad 5 16 0)] (k_W X n ad L (k_g C 0 D) fr) (fun v H => s_x_dockShare D nl nt ng = 0 ∧ v = some (.float (FP.fdiv (FP.i2f (s_X0_minutesOfTheDock D nl nt ng)) (FP.i2f (s_X0_minutesWaited D nl nt ng)))) ∧ k_W X n ad L (k_g C 0 D) fr H) (fun E H => (E = "java/lang/ArithmeticException" ∧ s_x_dockShare D nl nt ng = 1 ∧ k_W X n ad L (k_g C 0 D) fr H)) 1 6 := by
  refine k_X.of (cc := cX6_dockShare) (maxL := 2) (ret := (some .float)) (by decide) rfl (Nat.le_of_ble_eq_true rfl) ?_
  intro p e s m args below meth c ls hx hb hr hml hown hts hlocks hnm ht hK hW hl
  have hW0 := hW
  have hL : ∀ q ∈ ([] : List Loc), k_B X ≤ q.base := fun _ h => nomatch h
  have hl : lv_has ls 2 [(0, .ref (ad 5 16 0))] := hl
  have fX6 : ∀ w ∈ u_ws RX6 TX6 2, w.before args s = true := fun w h => hts w ((by decide +kernel : ∀ w ∈ u_ws RX6 TX6 2, w ∈ wsX6_dockShare) w h)
  have hl8 := hd.l8
  have ht16 := hd.t16
  have hg4 := hd.g4
  refine lv_aload_n hx hb dX6_dockShare_0 rfl (lv_at hl 0 rfl) ?_
  refine k_get (g := 5) (K := RX6) (T := TX6) (N := 2) (v := .ref (ad 0 0 0)) (w := .ref (ad 0 0 0)) hx hb fX6 hown hK (k_ev hW) 16 0 hc.o (fun _ => rfl) rfl 0 (by decide) (hts (.fieldLink RX6 12 "Crossdockery" "dock" "LCrossdockery$Dock;") (by decide +kernel)) rfl rfl rfl dX6_dockShare_1 ?_
  refine k_callV (As := []) (rest := []) ⟨hx, hb, hml, hown, hts⟩ hK (c_X0_minutesWaited X l hd D ) (cwV 0 hts gX6_dockShare_X0_minutesWaited rfl rfl rfl (by decide +kernel) ⟨Nat.le_of_ble_eq_true rfl, Nat.le_of_ble_eq_true rfl⟩) (k_recv hK hW 0 0 hd.o (fun _ => rfl) rfl) hW rfl hl.1 rfl (Nat.le_of_ble_eq_true rfl) dX6_dockShare_4 ⟨Nat.le_of_ble_eq_true rfl, Nat.le_of_ble_eq_true rfl⟩ hL (fun v9 H locs hp hL => ?_)
  obtain ⟨rfl, hW⟩ := hp
  refine lv_istore_n (lv' := [(1, .int (s_X0_minutesWaited D nl nt ng)), (0, .ref (ad 5 16 0))]) hx hb dX6_dockShare_7 rfl hl (by decide) rfl (fun ls hl => ?_)
  refine lv_iload_n hx hb dX6_dockShare_8 rfl (lv_at hl 0 rfl) ?_
  refine lv_if_ne (tgt := 22) hx hb dX6_dockShare_9 (by decide) (fun c1 => ?_) (fun c1 => ?_)
  ·
    refine lv_aload_n hx hb dX6_dockShare_22 rfl (lv_at hl 1 rfl) ?_
    refine k_get (g := 5) (K := RX6) (T := TX6) (N := 2) (v := .ref (ad 0 0 0)) (w := .ref (ad 0 0 0)) hx hb fX6 hown hK (k_ev hW) 16 0 hc.o (fun _ => rfl) rfl 0 (by decide) (hts (.fieldLink RX6 12 "Crossdockery" "dock" "LCrossdockery$Dock;") (by decide +kernel)) rfl rfl rfl dX6_dockShare_23 ?_
    refine k_callV (As := []) (rest := []) ⟨hx, hb, hml, hown, hts⟩ hK (c_X0_minutesOfTheDock X l hd D ) (cwV 0 hts gX6_dockShare_X0_minutesOfTheDock rfl rfl rfl (by decide +kernel) ⟨Nat.le_of_ble_eq_true rfl, Nat.le_of_ble_eq_true rfl⟩) (k_recv hK hW 0 0 hd.o (fun _ => rfl) rfl) hW rfl hl.1 rfl (Nat.le_of_ble_eq_true rfl) dX6_dockShare_26 ⟨Nat.le_of_ble_eq_true rfl, Nat.le_of_ble_eq_true rfl⟩ hL (fun v9 H locs hp hL => ?_)
    obtain ⟨rfl, hW⟩ := hp
    refine lv_i2f hx hb dX6_dockShare_29 ?_
    refine lv_iload_n hx hb dX6_dockShare_30 rfl (lv_at hl 0 rfl) ?_
    refine lv_i2f hx hb dX6_dockShare_31 ?_
    refine lv_fdiv hx hb dX6_dockShare_32 (hfp.2.1 _ _ c1).1 ?_
    refine k_more (cells' := 1) (slots' := 6) (Nat.le_of_ble_eq_true rfl) (Nat.le_of_ble_eq_true rfl) (vx_ret ?_)
    exact k_fret hx hb hr hlocks (⟨(by unfold s_x_dockShare; first | rfl | (simp only [if_neg c1]; done) | (simp only [if_neg c1]; rfl)), rfl, hW⟩) hL dX6_dockShare_33
  ·
    exact k_throw (own := RX6) (cls := "java/lang/ArithmeticException") (text := "no lorry has waited") (ik := 187) (is := 195) (ic := 191) hx hb hl9 8 hown (by decide +kernel) hK rfl (hts (.classLink RX6 187 "java/lang/ArithmeticException") (by decide +kernel)) (hts (.initialized "java/lang/ArithmeticException") (by decide +kernel)) (fun w hw => hts w (ha_X6_dockShare_191 w hw)) bad_RX6_191 og_RX6_187_191 hW0 hW hL (hl.1.trans hml.symm) dX6_dockShare_12 dX6_dockShare_15 dX6_dockShare_16 dX6_dockShare_18 dX6_dockShare_21 ht (Nat.le_of_ble_eq_true rfl) (Nat.le_of_ble_eq_true rfl) (Nat.le_of_ble_eq_true rfl) (Nat.le_of_ble_eq_true rfl) hlocks (fun H1 hW => ⟨rfl, (by unfold s_x_dockShare; first | rfl | (simp only [if_pos c1]; done) | (simp only [if_pos c1]; rfl)), hW⟩) (Nat.le_of_ble_eq_true rfl) (Nat.le_of_ble_eq_true rfl)
