set_option maxHeartbeats 400000 in
set_option maxRecDepth 100000 in
theorem lw_c9 : lw_case 753 := by
  intro p l e s m below meth c H locs cells slots Q ls b Ln xs X n ad L C nl nt ng ne k o o2 f fd Z hk hI hV hW hL hl hcs kk
  obtain ⟨hx, hb, hml, hown, hts, hK, hX0, hXs, hbl, hL2, hl9, hfp⟩ := Z
  have hI0 := hI
  obtain ⟨i1, i2, i3, i4, i5, i6, i7, i8, i9, i10, i11⟩ := hI

  refine lv_aload_n hx hb dL_law_753 rfl (lv_at hl 1 rfl) ?_
  refine lw_ia (j := 1) hx hb hX0 hXs hbl hW.1 hL (by omega) hL2 (lv_at hl 0 rfl) (lv_at hl 5 rfl) (ci := 1) rfl dL_law_754 dL_law_755 dL_law_757 dL_law_758 dL_law_759 ?_
  refine lv_aload_n hx hb dL_law_760 rfl (lv_at hl 3 rfl) ?_
  replace hW : k_N X n ad L (k_g C 0 (C 0)) (fun _ => none) (lw_ws X o o2 f fd) H := by rw [k_g_self]; exact hW
  refine kx_callSX (As := [.ref (ad 5 16 0), .int (xs (4 * k + 1)), .ref o]) (rest := []) ⟨hx, hb, hml, hown, hts⟩ hK (c_L_power X l i1 (C 0) i2 (xs (4 * k + 1)) hl9) (vx_cwSW 3 hts gL_law_L_power rfl rfl rfl (by decide +kernel) ⟨Nat.le_of_ble_eq_true rfl, Nat.le_of_ble_eq_true rfl⟩) hW rfl hl.1 rfl (Nat.le_of_ble_eq_true rfl) dL_law_761 ⟨by have := hcs.1; omega, by have := hcs.2; omega⟩ hL (fun E ce q H locs hp => hp.elim) (fun v H locs hp hL => ?_)
  obtain ⟨f1, rfl, hW, hf1⟩ := lw_q1 hp
  refine lv_istore (lv' := [(6, .int (s_x_power (C 0) nl nt ng (xs (4 * k + 1)))), (0, .ref b), (1, .ref (ad 5 16 0)), (2, .ref (ad 2 14 0)), (3, .ref o), (4, .ref o2), (5, .int (nI (4 * k)))]) hx hb dL_law_764 hl (by decide) rfl (fun ls hl => ?_)
  refine lv_aload_n hx hb dL_law_766 rfl (lv_at hl 3 rfl) ?_
  refine lw_ia (j := 1) hx hb hX0 hXs hbl hW.1 hL (by omega) hL2 (lv_at hl 1 rfl) (lv_at hl 6 rfl) (ci := 1) rfl dL_law_767 dL_law_768 dL_law_770 dL_law_771 dL_law_772 ?_
  obtain ⟨fr1, hF, hback⟩ := hW.freeze
  replace hF := k_self hF 2
  refine k_callV (As := [.int (xs (4 * k + 1))]) (rest := []) ⟨hx, hb, hml, hown, hts⟩ hK (c_X7_power X l i3 (C 2) (xs (4 * k + 1)) hV.wf) (cwV 1 hts gL_law_X7_power rfl rfl rfl (by decide +kernel) ⟨Nat.le_of_ble_eq_true rfl, Nat.le_of_ble_eq_true rfl⟩) (k_recv hK hF 14 0 i3.o (fun _ => rfl) rfl) hF rfl hl.1 rfl (Nat.le_of_ble_eq_true rfl) dL_law_773 ⟨by have := hcs.1; omega, by have := hcs.2; omega⟩ hL (fun v H locs hp hL => ?_)
  obtain ⟨rfl, hW⟩ := hp
  replace hW := hback _ _ _ _ _ hW
  obtain ⟨z1, z2, z3⟩ := q_aPower hV (xs (4 * k + 1))
  refine lv_istore (lv' := [(7, .int (s_X7_power (C 2) nl nt ng (xs (4 * k + 1))).2), (6, .int (s_x_power (C 0) nl nt ng (xs (4 * k + 1)))), (0, .ref b), (1, .ref (ad 5 16 0)), (2, .ref (ad 2 14 0)), (3, .ref o), (4, .ref o2), (5, .int (nI (4 * k)))]) hx hb dL_law_776 hl (by decide) rfl (fun ls hl => ?_)
  refine lw_thr hx hb hml hown hts hK i3 hW hL z1 hl 4 1 rfl rfl ⟨by have := hcs.1; omega, by have := hcs.2; omega⟩ dL_law_778 dL_law_779 dL_law_782 dL_law_784 (fun H locs hW hL => ?_)
  refine k_more (cells' := cells + 100) (slots' := slots + 1000) (by omega) (by omega) ?_
  exact lw_cmp hx hb hK hW (fun h => by rw [hf1 h, z3 h]) hl 5 1 0 rfl rfl rfl (by decide) dL_law_789 dL_law_791 dL_law_794 dL_law_795 dL_law_796 dL_law_797 dL_law_799 dL_law_800 dL_law_801 dL_law_806 (kk _ _ _ ⟨n, ad, L, k_g C 2 (s_X7_power (C 2) nl nt ng (xs (4 * k + 1))).1, nl, nt, ng, ne, f1, fd, (hI0.ref _).next, lw_V z2, rfl, rfl, hW⟩ hL (lv_sub hl [2, 3, 4, 5, 6, 7] rfl))
set_option maxHeartbeats 400000 in
set_option maxRecDepth 100000 in
theorem lw_c10 : lw_case 809 := by
  intro p l e s m below meth c H locs cells slots Q ls b Ln xs X n ad L C nl nt ng ne k o o2 f fd Z hk hI hV hW hL hl hcs kk
  obtain ⟨hx, hb, hml, hown, hts, hK, hX0, hXs, hbl, hL2, hl9, hfp⟩ := Z
  have hI0 := hI
  obtain ⟨i1, i2, i3, i4, i5, i6, i7, i8, i9, i10, i11⟩ := hI

  have hst : ∀ i, i < nl → narrow .char (.int (C 0 4 i 5)) = .int (C 0 4 i 5) := fun i hi => by rw [hV.C.l5 hi]; exact hV.wf.nch hi
  refine lv_aload_n hx hb dL_law_809 rfl (lv_at hl 1 rfl) ?_
  refine lw_ia (j := 1) hx hb hX0 hXs hbl hW.1 hL (by omega) hL2 (lv_at hl 0 rfl) (lv_at hl 5 rfl) (ci := 1) rfl dL_law_810 dL_law_811 dL_law_813 dL_law_814 dL_law_815 ?_
  refine lv_aload_n hx hb dL_law_816 rfl (lv_at hl 3 rfl) ?_
  replace hW : k_N X n ad L (k_g C 0 (C 0)) (fun _ => none) (lw_ws X o o2 f fd) H := by rw [k_g_self]; exact hW
  refine kx_callSX (As := [.ref (ad 5 16 0), .int (xs (4 * k + 1)), .ref o]) (rest := []) ⟨hx, hb, hml, hown, hts⟩ hK (c_L_stateOf X l i1 (C 0) i2 (xs (4 * k + 1)) hst hl9) (vx_cwSW 3 hts gL_law_L_stateOf rfl rfl rfl (by decide +kernel) ⟨Nat.le_of_ble_eq_true rfl, Nat.le_of_ble_eq_true rfl⟩) hW rfl hl.1 rfl (Nat.le_of_ble_eq_true rfl) dL_law_817 ⟨by have := hcs.1; omega, by have := hcs.2; omega⟩ hL (fun E ce q H locs hp => hp.elim) (fun v H locs hp hL => ?_)
  obtain ⟨f1, rfl, hW, hf1⟩ := lw_q1 hp
  refine lv_istore (lv' := [(6, .int (s_x_stateOf (C 0) nl nt ng (xs (4 * k + 1)))), (0, .ref b), (1, .ref (ad 5 16 0)), (2, .ref (ad 2 14 0)), (3, .ref o), (4, .ref o2), (5, .int (nI (4 * k)))]) hx hb dL_law_820 hl (by decide) rfl (fun ls hl => ?_)
  refine lv_aload_n hx hb dL_law_822 rfl (lv_at hl 3 rfl) ?_
  refine lw_ia (j := 1) hx hb hX0 hXs hbl hW.1 hL (by omega) hL2 (lv_at hl 1 rfl) (lv_at hl 6 rfl) (ci := 1) rfl dL_law_823 dL_law_824 dL_law_826 dL_law_827 dL_law_828 ?_
  obtain ⟨fr1, hF, hback⟩ := hW.freeze
  replace hF := k_self hF 2
  refine k_callV (As := [.int (xs (4 * k + 1))]) (rest := []) ⟨hx, hb, hml, hown, hts⟩ hK (c_X7_stateOf X l i3 (C 2) (xs (4 * k + 1)) hV.wf) (cwV 1 hts gL_law_X7_stateOf rfl rfl rfl (by decide +kernel) ⟨Nat.le_of_ble_eq_true rfl, Nat.le_of_ble_eq_true rfl⟩) (k_recv hK hF 14 0 i3.o (fun _ => rfl) rfl) hF rfl hl.1 rfl (Nat.le_of_ble_eq_true rfl) dL_law_829 ⟨by have := hcs.1; omega, by have := hcs.2; omega⟩ hL (fun v H locs hp hL => ?_)
  obtain ⟨rfl, hW⟩ := hp
  replace hW := hback _ _ _ _ _ hW
  obtain ⟨z1, z2, z3⟩ := q_aState hV (xs (4 * k + 1))
  refine lv_istore (lv' := [(7, .int (s_X7_stateOf (C 2) nl nt ng (xs (4 * k + 1))).2), (6, .int (s_x_stateOf (C 0) nl nt ng (xs (4 * k + 1)))), (0, .ref b), (1, .ref (ad 5 16 0)), (2, .ref (ad 2 14 0)), (3, .ref o), (4, .ref o2), (5, .int (nI (4 * k)))]) hx hb dL_law_832 hl (by decide) rfl (fun ls hl => ?_)
  refine lw_thr hx hb hml hown hts hK i3 hW hL z1 hl 4 1 rfl rfl ⟨by have := hcs.1; omega, by have := hcs.2; omega⟩ dL_law_834 dL_law_835 dL_law_838 dL_law_840 (fun H locs hW hL => ?_)
  refine k_more (cells' := cells + 100) (slots' := slots + 1000) (by omega) (by omega) ?_
  exact lw_cmp hx hb hK hW (fun h => by rw [hf1 h, z3 h]) hl 5 1 0 rfl rfl rfl (by decide) dL_law_845 dL_law_847 dL_law_850 dL_law_851 dL_law_852 dL_law_853 dL_law_855 dL_law_856 dL_law_857 dL_law_862 (kk _ _ _ ⟨n, ad, L, k_g C 2 (s_X7_stateOf (C 2) nl nt ng (xs (4 * k + 1))).1, nl, nt, ng, ne, f1, fd, (hI0.ref _).next, lw_V z2, rfl, rfl, hW⟩ hL (lv_sub hl [2, 3, 4, 5, 6, 7] rfl))
set_option maxHeartbeats 400000 in
set_option maxRecDepth 100000 in
theorem lw_c11 : lw_case 865 := by
  intro p l e s m below meth c H locs cells slots Q ls b Ln xs X n ad L C nl nt ng ne k o o2 f fd Z hk hI hV hW hL hl hcs kk
  obtain ⟨hx, hb, hml, hown, hts, hK, hX0, hXs, hbl, hL2, hl9, hfp⟩ := Z
  have hI0 := hI
  obtain ⟨i1, i2, i3, i4, i5, i6, i7, i8, i9, i10, i11⟩ := hI

  refine lv_aload_n hx hb dL_law_865 rfl (lv_at hl 1 rfl) ?_
  refine lw_ia (j := 1) hx hb hX0 hXs hbl hW.1 hL (by omega) hL2 (lv_at hl 0 rfl) (lv_at hl 5 rfl) (ci := 1) rfl dL_law_866 dL_law_867 dL_law_869 dL_law_870 dL_law_871 ?_
  refine lv_aload_n hx hb dL_law_872 rfl (lv_at hl 3 rfl) ?_
  replace hW : k_N X n ad L (k_g C 0 (C 0)) (fun _ => none) (lw_ws X o o2 f fd) H := by rw [k_g_self]; exact hW
  refine kx_callSX (As := [.ref (ad 5 16 0), .int (xs (4 * k + 1)), .ref o]) (rest := []) ⟨hx, hb, hml, hown, hts⟩ hK (c_L_lorryAt X l i1 (C 0) i2 i4 (xs (4 * k + 1)) hl9) (vx_cwSW 3 hts gL_law_L_lorryAt rfl rfl rfl (by decide +kernel) ⟨Nat.le_of_ble_eq_true rfl, Nat.le_of_ble_eq_true rfl⟩) hW rfl hl.1 rfl (Nat.le_of_ble_eq_true rfl) dL_law_873 ⟨by have := hcs.1; omega, by have := hcs.2; omega⟩ hL (fun E ce q H locs hp => hp.elim) (fun v H locs hp hL => ?_)
  obtain ⟨f1, rfl, hW, hf1⟩ := lw_q1 hp
  refine lv_istore (lv' := [(6, .int (s_x_lorryAt (C 0) nl nt ng (xs (4 * k + 1)))), (0, .ref b), (1, .ref (ad 5 16 0)), (2, .ref (ad 2 14 0)), (3, .ref o), (4, .ref o2), (5, .int (nI (4 * k)))]) hx hb dL_law_876 hl (by decide) rfl (fun ls hl => ?_)
  refine lv_aload_n hx hb dL_law_878 rfl (lv_at hl 3 rfl) ?_
  refine lw_ia (j := 1) hx hb hX0 hXs hbl hW.1 hL (by omega) hL2 (lv_at hl 1 rfl) (lv_at hl 6 rfl) (ci := 1) rfl dL_law_879 dL_law_880 dL_law_882 dL_law_883 dL_law_884 ?_
  obtain ⟨fr1, hF, hback⟩ := hW.freeze
  replace hF := k_self hF 2
  refine k_callV (As := [.int (xs (4 * k + 1))]) (rest := []) ⟨hx, hb, hml, hown, hts⟩ hK (c_X7_lorryAt X l i3 (C 2) (xs (4 * k + 1)) hV.wf) (cwV 1 hts gL_law_X7_lorryAt rfl rfl rfl (by decide +kernel) ⟨Nat.le_of_ble_eq_true rfl, Nat.le_of_ble_eq_true rfl⟩) (k_recv hK hF 14 0 i3.o (fun _ => rfl) rfl) hF rfl hl.1 rfl (Nat.le_of_ble_eq_true rfl) dL_law_885 ⟨by have := hcs.1; omega, by have := hcs.2; omega⟩ hL (fun v H locs hp hL => ?_)
  obtain ⟨rfl, hW⟩ := hp
  replace hW := hback _ _ _ _ _ hW
  obtain ⟨z1, z2, z3⟩ := q_aLorryAt hV (xs (4 * k + 1))
  refine lv_istore (lv' := [(7, .int (s_X7_lorryAt (C 2) nl nt ng (xs (4 * k + 1))).2), (6, .int (s_x_lorryAt (C 0) nl nt ng (xs (4 * k + 1)))), (0, .ref b), (1, .ref (ad 5 16 0)), (2, .ref (ad 2 14 0)), (3, .ref o), (4, .ref o2), (5, .int (nI (4 * k)))]) hx hb dL_law_888 hl (by decide) rfl (fun ls hl => ?_)
  refine lw_thr hx hb hml hown hts hK i3 hW hL z1 hl 4 1 rfl rfl ⟨by have := hcs.1; omega, by have := hcs.2; omega⟩ dL_law_890 dL_law_891 dL_law_894 dL_law_896 (fun H locs hW hL => ?_)
  refine k_more (cells' := cells + 100) (slots' := slots + 1000) (by omega) (by omega) ?_
  exact lw_cmp hx hb hK hW (fun h => by rw [hf1 h, z3 h]) hl 5 1 0 rfl rfl rfl (by decide) dL_law_901 dL_law_903 dL_law_906 dL_law_907 dL_law_908 dL_law_909 dL_law_911 dL_law_912 dL_law_913 dL_law_918 (kk _ _ _ ⟨n, ad, L, k_g C 2 (s_X7_lorryAt (C 2) nl nt ng (xs (4 * k + 1))).1, nl, nt, ng, ne, f1, fd, (hI0.ref _).next, lw_V z2, rfl, rfl, hW⟩ hL (lv_sub hl [2, 3, 4, 5, 6, 7] rfl))
set_option maxHeartbeats 400000 in
set_option maxRecDepth 100000 in
theorem lw_c12 : lw_case 921 := by
  intro p l e s m below meth c H locs cells slots Q ls b Ln xs X n ad L C nl nt ng ne k o o2 f fd Z hk hI hV hW hL hl hcs kk
  obtain ⟨hx, hb, hml, hown, hts, hK, hX0, hXs, hbl, hL2, hl9, hfp⟩ := Z
  have hI0 := hI
  obtain ⟨i1, i2, i3, i4, i5, i6, i7, i8, i9, i10, i11⟩ := hI

  refine lv_aload_n hx hb dL_law_921 rfl (lv_at hl 1 rfl) ?_
  refine lw_ia (j := 1) hx hb hX0 hXs hbl hW.1 hL (by omega) hL2 (lv_at hl 0 rfl) (lv_at hl 5 rfl) (ci := 1) rfl dL_law_922 dL_law_923 dL_law_925 dL_law_926 dL_law_927 ?_
  refine lw_ia (j := 2) hx hb hX0 hXs hbl hW.1 hL (by omega) hL2 (lv_at hl 0 rfl) (lv_at hl 5 rfl) (ci := 2) rfl dL_law_928 dL_law_929 dL_law_931 dL_law_932 dL_law_933 ?_
  refine lv_aload_n hx hb dL_law_934 rfl (lv_at hl 3 rfl) ?_
  replace hW : k_N X n ad L (k_g C 0 (C 0)) (fun _ => none) (lw_ws X o o2 f fd) H := by rw [k_g_self]; exact hW
  refine kx_callSX (As := [.ref (ad 5 16 0), .int (xs (4 * k + 1)), .int (xs (4 * k + 2)), .ref o]) (rest := []) ⟨hx, hb, hml, hown, hts⟩ hK (c_L_inQueue X l i1 (C 0) i2 (xs (4 * k + 1)) (xs (4 * k + 2)) hl9) (vx_cwSW 4 hts gL_law_L_inQueue rfl rfl rfl (by decide +kernel) ⟨Nat.le_of_ble_eq_true rfl, Nat.le_of_ble_eq_true rfl⟩) hW rfl hl.1 rfl (Nat.le_of_ble_eq_true rfl) dL_law_935 ⟨by have := hcs.1; omega, by have := hcs.2; omega⟩ hL (fun E ce q H locs hp => hp.elim) (fun v H locs hp hL => ?_)
  obtain ⟨f1, rfl, hW, hf1⟩ := lw_q1 hp
  refine lv_istore (lv' := [(6, .int (s_x_inQueue (C 0) nl nt ng (xs (4 * k + 1)) (xs (4 * k + 2)))), (0, .ref b), (1, .ref (ad 5 16 0)), (2, .ref (ad 2 14 0)), (3, .ref o), (4, .ref o2), (5, .int (nI (4 * k)))]) hx hb dL_law_938 hl (by decide) rfl (fun ls hl => ?_)
  refine lv_aload_n hx hb dL_law_940 rfl (lv_at hl 3 rfl) ?_
  refine lw_ia (j := 1) hx hb hX0 hXs hbl hW.1 hL (by omega) hL2 (lv_at hl 1 rfl) (lv_at hl 6 rfl) (ci := 1) rfl dL_law_941 dL_law_942 dL_law_944 dL_law_945 dL_law_946 ?_
  refine lw_ia (j := 2) hx hb hX0 hXs hbl hW.1 hL (by omega) hL2 (lv_at hl 1 rfl) (lv_at hl 6 rfl) (ci := 2) rfl dL_law_947 dL_law_948 dL_law_950 dL_law_951 dL_law_952 ?_
  obtain ⟨fr1, hF, hback⟩ := hW.freeze
  replace hF := k_self hF 2
  refine k_callV (As := [.int (xs (4 * k + 1)), .int (xs (4 * k + 2))]) (rest := []) ⟨hx, hb, hml, hown, hts⟩ hK (c_X7_inQueue X l i3 (C 2) (xs (4 * k + 1)) (xs (4 * k + 2)) hV.wf) (cwV 2 hts gL_law_X7_inQueue rfl rfl rfl (by decide +kernel) ⟨Nat.le_of_ble_eq_true rfl, Nat.le_of_ble_eq_true rfl⟩) (k_recv hK hF 14 0 i3.o (fun _ => rfl) rfl) hF rfl hl.1 rfl (Nat.le_of_ble_eq_true rfl) dL_law_953 ⟨by have := hcs.1; omega, by have := hcs.2; omega⟩ hL (fun v H locs hp hL => ?_)
  obtain ⟨rfl, hW⟩ := hp
  replace hW := hback _ _ _ _ _ hW
  obtain ⟨z1, z2, z3⟩ := q_aInQueue hV (xs (4 * k + 1)) (xs (4 * k + 2))
  refine lv_istore (lv' := [(7, .int (s_X7_inQueue (C 2) nl nt ng (xs (4 * k + 1)) (xs (4 * k + 2))).2), (6, .int (s_x_inQueue (C 0) nl nt ng (xs (4 * k + 1)) (xs (4 * k + 2)))), (0, .ref b), (1, .ref (ad 5 16 0)), (2, .ref (ad 2 14 0)), (3, .ref o), (4, .ref o2), (5, .int (nI (4 * k)))]) hx hb dL_law_956 hl (by decide) rfl (fun ls hl => ?_)
  refine lw_thr hx hb hml hown hts hK i3 hW hL z1 hl 4 1 rfl rfl ⟨by have := hcs.1; omega, by have := hcs.2; omega⟩ dL_law_958 dL_law_959 dL_law_962 dL_law_964 (fun H locs hW hL => ?_)
  refine k_more (cells' := cells + 100) (slots' := slots + 1000) (by omega) (by omega) ?_
  exact lw_cmp hx hb hK hW (fun h => by rw [hf1 h, z3 h]) hl 5 1 0 rfl rfl rfl (by decide) dL_law_969 dL_law_971 dL_law_974 dL_law_975 dL_law_976 dL_law_977 dL_law_979 dL_law_980 dL_law_981 dL_law_986 (kk _ _ _ ⟨n, ad, L, k_g C 2 (s_X7_inQueue (C 2) nl nt ng (xs (4 * k + 1)) (xs (4 * k + 2))).1, nl, nt, ng, ne, f1, fd, (hI0.ref _).next, lw_V z2, rfl, rfl, hW⟩ hL (lv_sub hl [2, 3, 4, 5, 6, 7] rfl))
set_option maxHeartbeats 400000 in
set_option maxRecDepth 100000 in
theorem lw_c13 : lw_case 989 := by
  intro p l e s m below meth c H locs cells slots Q ls b Ln xs X n ad L C nl nt ng ne k o o2 f fd Z hk hI hV hW hL hl hcs kk
  obtain ⟨hx, hb, hml, hown, hts, hK, hX0, hXs, hbl, hL2, hl9, hfp⟩ := Z
  have hI0 := hI
  obtain ⟨i1, i2, i3, i4, i5, i6, i7, i8, i9, i10, i11⟩ := hI

  refine lv_aload_n hx hb dL_law_989 rfl (lv_at hl 1 rfl) ?_
  refine lw_ia (j := 1) hx hb hX0 hXs hbl hW.1 hL (by omega) hL2 (lv_at hl 0 rfl) (lv_at hl 5 rfl) (ci := 1) rfl dL_law_990 dL_law_991 dL_law_993 dL_law_994 dL_law_995 ?_
  refine lv_aload_n hx hb dL_law_996 rfl (lv_at hl 3 rfl) ?_
  replace hW : k_N X n ad L (k_g C 0 (C 0)) (fun _ => none) (lw_ws X o o2 f fd) H := by rw [k_g_self]; exact hW
  refine kx_callSX (As := [.ref (ad 5 16 0), .int (xs (4 * k + 1)), .ref o]) (rest := []) ⟨hx, hb, hml, hown, hts⟩ hK (c_L_unloaded X l i1 (C 0) i2 (xs (4 * k + 1)) hl9) (vx_cwSW 3 hts gL_law_L_unloaded rfl rfl rfl (by decide +kernel) ⟨Nat.le_of_ble_eq_true rfl, Nat.le_of_ble_eq_true rfl⟩) hW rfl hl.1 rfl (Nat.le_of_ble_eq_true rfl) dL_law_997 ⟨by have := hcs.1; omega, by have := hcs.2; omega⟩ hL (fun E ce q H locs hp => hp.elim) (fun v H locs hp hL => ?_)
  obtain ⟨f1, rfl, hW, hf1⟩ := lw_q1 hp
  refine lv_istore (lv' := [(6, .int (s_x_unloaded (C 0) nl nt ng (xs (4 * k + 1)))), (0, .ref b), (1, .ref (ad 5 16 0)), (2, .ref (ad 2 14 0)), (3, .ref o), (4, .ref o2), (5, .int (nI (4 * k)))]) hx hb dL_law_1000 hl (by decide) rfl (fun ls hl => ?_)
  refine lv_aload_n hx hb dL_law_1002 rfl (lv_at hl 3 rfl) ?_
  refine lw_ia (j := 1) hx hb hX0 hXs hbl hW.1 hL (by omega) hL2 (lv_at hl 1 rfl) (lv_at hl 6 rfl) (ci := 1) rfl dL_law_1003 dL_law_1004 dL_law_1006 dL_law_1007 dL_law_1008 ?_
  obtain ⟨fr1, hF, hback⟩ := hW.freeze
  replace hF := k_self hF 2
  refine k_callV (As := [.int (xs (4 * k + 1))]) (rest := []) ⟨hx, hb, hml, hown, hts⟩ hK (c_X7_unloaded X l i3 (C 2) (xs (4 * k + 1)) hV.wf) (cwV 1 hts gL_law_X7_unloaded rfl rfl rfl (by decide +kernel) ⟨Nat.le_of_ble_eq_true rfl, Nat.le_of_ble_eq_true rfl⟩) (k_recv hK hF 14 0 i3.o (fun _ => rfl) rfl) hF rfl hl.1 rfl (Nat.le_of_ble_eq_true rfl) dL_law_1009 ⟨by have := hcs.1; omega, by have := hcs.2; omega⟩ hL (fun v H locs hp hL => ?_)
  obtain ⟨rfl, hW⟩ := hp
  replace hW := hback _ _ _ _ _ hW
  obtain ⟨z1, z2, z3⟩ := q_aUnloaded hV (xs (4 * k + 1))
  refine lv_istore (lv' := [(7, .int (s_X7_unloaded (C 2) nl nt ng (xs (4 * k + 1))).2), (6, .int (s_x_unloaded (C 0) nl nt ng (xs (4 * k + 1)))), (0, .ref b), (1, .ref (ad 5 16 0)), (2, .ref (ad 2 14 0)), (3, .ref o), (4, .ref o2), (5, .int (nI (4 * k)))]) hx hb dL_law_1012 hl (by decide) rfl (fun ls hl => ?_)
  refine lw_thr hx hb hml hown hts hK i3 hW hL z1 hl 4 1 rfl rfl ⟨by have := hcs.1; omega, by have := hcs.2; omega⟩ dL_law_1014 dL_law_1015 dL_law_1018 dL_law_1020 (fun H locs hW hL => ?_)
  refine k_more (cells' := cells + 100) (slots' := slots + 1000) (by omega) (by omega) ?_
  exact lw_cmp hx hb hK hW (fun h => by rw [hf1 h, z3 h]) hl 5 1 0 rfl rfl rfl (by decide) dL_law_1025 dL_law_1027 dL_law_1030 dL_law_1031 dL_law_1032 dL_law_1033 dL_law_1035 dL_law_1036 dL_law_1037 dL_law_1042 (kk _ _ _ ⟨n, ad, L, k_g C 2 (s_X7_unloaded (C 2) nl nt ng (xs (4 * k + 1))).1, nl, nt, ng, ne, f1, fd, (hI0.ref _).next, lw_V z2, rfl, rfl, hW⟩ hL (lv_sub hl [2, 3, 4, 5, 6, 7] rfl))
set_option maxHeartbeats 400000 in
set_option maxRecDepth 100000 in
theorem lw_c14 : lw_case 1045 := by
  intro p l e s m below meth c H locs cells slots Q ls b Ln xs X n ad L C nl nt ng ne k o o2 f fd Z hk hI hV hW hL hl hcs kk
  obtain ⟨hx, hb, hml, hown, hts, hK, hX0, hXs, hbl, hL2, hl9, hfp⟩ := Z
  have hI0 := hI
  obtain ⟨i1, i2, i3, i4, i5, i6, i7, i8, i9, i10, i11⟩ := hI

  refine lv_aload_n hx hb dL_law_1045 rfl (lv_at hl 1 rfl) ?_
  refine lw_ia (j := 1) hx hb hX0 hXs hbl hW.1 hL (by omega) hL2 (lv_at hl 0 rfl) (lv_at hl 5 rfl) (ci := 1) rfl dL_law_1046 dL_law_1047 dL_law_1049 dL_law_1050 dL_law_1051 ?_
  refine lv_aload_n hx hb dL_law_1052 rfl (lv_at hl 3 rfl) ?_
  replace hW : k_N X n ad L (k_g C 0 (C 0)) (fun _ => none) (lw_ws X o o2 f fd) H := by rw [k_g_self]; exact hW
  refine kx_callSX (As := [.ref (ad 5 16 0), .int (xs (4 * k + 1)), .ref o]) (rest := []) ⟨hx, hb, hml, hown, hts⟩ hK (c_L_ready X l i1 (C 0) i2 (xs (4 * k + 1)) hl9) (vx_cwSW 3 hts gL_law_L_ready rfl rfl rfl (by decide +kernel) ⟨Nat.le_of_ble_eq_true rfl, Nat.le_of_ble_eq_true rfl⟩) hW rfl hl.1 rfl (Nat.le_of_ble_eq_true rfl) dL_law_1053 ⟨by have := hcs.1; omega, by have := hcs.2; omega⟩ hL (fun E ce q H locs hp => hp.elim) (fun v H locs hp hL => ?_)
  obtain ⟨f1, rfl, hW, hf1⟩ := lw_q1 hp
  refine lv_istore (lv' := [(6, .int (s_x_ready (C 0) nl nt ng (xs (4 * k + 1)))), (0, .ref b), (1, .ref (ad 5 16 0)), (2, .ref (ad 2 14 0)), (3, .ref o), (4, .ref o2), (5, .int (nI (4 * k)))]) hx hb dL_law_1056 hl (by decide) rfl (fun ls hl => ?_)
  refine lv_aload_n hx hb dL_law_1058 rfl (lv_at hl 3 rfl) ?_
  refine lw_ia (j := 1) hx hb hX0 hXs hbl hW.1 hL (by omega) hL2 (lv_at hl 1 rfl) (lv_at hl 6 rfl) (ci := 1) rfl dL_law_1059 dL_law_1060 dL_law_1062 dL_law_1063 dL_law_1064 ?_
  obtain ⟨fr1, hF, hback⟩ := hW.freeze
  replace hF := k_self hF 2
  refine k_callV (As := [.int (xs (4 * k + 1))]) (rest := []) ⟨hx, hb, hml, hown, hts⟩ hK (c_X7_ready X l i3 (C 2) (xs (4 * k + 1)) hV.wf) (cwV 1 hts gL_law_X7_ready rfl rfl rfl (by decide +kernel) ⟨Nat.le_of_ble_eq_true rfl, Nat.le_of_ble_eq_true rfl⟩) (k_recv hK hF 14 0 i3.o (fun _ => rfl) rfl) hF rfl hl.1 rfl (Nat.le_of_ble_eq_true rfl) dL_law_1065 ⟨by have := hcs.1; omega, by have := hcs.2; omega⟩ hL (fun v H locs hp hL => ?_)
  obtain ⟨rfl, hW⟩ := hp
  replace hW := hback _ _ _ _ _ hW
  obtain ⟨z1, z2, z3⟩ := q_aReady hV (xs (4 * k + 1))
  refine lv_istore (lv' := [(7, .int (s_X7_ready (C 2) nl nt ng (xs (4 * k + 1))).2), (6, .int (s_x_ready (C 0) nl nt ng (xs (4 * k + 1)))), (0, .ref b), (1, .ref (ad 5 16 0)), (2, .ref (ad 2 14 0)), (3, .ref o), (4, .ref o2), (5, .int (nI (4 * k)))]) hx hb dL_law_1068 hl (by decide) rfl (fun ls hl => ?_)
  refine lw_thr hx hb hml hown hts hK i3 hW hL z1 hl 4 1 rfl rfl ⟨by have := hcs.1; omega, by have := hcs.2; omega⟩ dL_law_1070 dL_law_1071 dL_law_1074 dL_law_1076 (fun H locs hW hL => ?_)
  refine k_more (cells' := cells + 100) (slots' := slots + 1000) (by omega) (by omega) ?_
  exact lw_cmp hx hb hK hW (fun h => by rw [hf1 h, z3 h]) hl 5 1 0 rfl rfl rfl (by decide) dL_law_1081 dL_law_1083 dL_law_1086 dL_law_1087 dL_law_1088 dL_law_1089 dL_law_1091 dL_law_1092 dL_law_1093 dL_law_1098 (kk _ _ _ ⟨n, ad, L, k_g C 2 (s_X7_ready (C 2) nl nt ng (xs (4 * k + 1))).1, nl, nt, ng, ne, f1, fd, (hI0.ref _).next, lw_V z2, rfl, rfl, hW⟩ hL (lv_sub hl [2, 3, 4, 5, 6, 7] rfl))
set_option maxHeartbeats 400000 in
set_option maxRecDepth 100000 in
theorem lw_c15 : lw_case 1101 := by
  intro p l e s m below meth c H locs cells slots Q ls b Ln xs X n ad L C nl nt ng ne k o o2 f fd Z hk hI hV hW hL hl hcs kk
  obtain ⟨hx, hb, hml, hown, hts, hK, hX0, hXs, hbl, hL2, hl9, hfp⟩ := Z
  have hI0 := hI
  obtain ⟨i1, i2, i3, i4, i5, i6, i7, i8, i9, i10, i11⟩ := hI

  refine lv_aload_n hx hb dL_law_1101 rfl (lv_at hl 1 rfl) ?_
  refine lw_ia (j := 1) hx hb hX0 hXs hbl hW.1 hL (by omega) hL2 (lv_at hl 0 rfl) (lv_at hl 5 rfl) (ci := 1) rfl dL_law_1102 dL_law_1103 dL_law_1105 dL_law_1106 dL_law_1107 ?_
  refine lv_aload_n hx hb dL_law_1108 rfl (lv_at hl 3 rfl) ?_
  replace hW : k_N X n ad L (k_g C 0 (C 0)) (fun _ => none) (lw_ws X o o2 f fd) H := by rw [k_g_self]; exact hW
  refine kx_callSX (As := [.ref (ad 5 16 0), .int (xs (4 * k + 1)), .ref o]) (rest := []) ⟨hx, hb, hml, hown, hts⟩ hK (c_L_loaded X l i1 (C 0) i2 (xs (4 * k + 1)) hl9) (vx_cwSW 3 hts gL_law_L_loaded rfl rfl rfl (by decide +kernel) ⟨Nat.le_of_ble_eq_true rfl, Nat.le_of_ble_eq_true rfl⟩) hW rfl hl.1 rfl (Nat.le_of_ble_eq_true rfl) dL_law_1109 ⟨by have := hcs.1; omega, by have := hcs.2; omega⟩ hL (fun E ce q H locs hp => hp.elim) (fun v H locs hp hL => ?_)
  obtain ⟨f1, rfl, hW, hf1⟩ := lw_q1 hp
  refine lv_istore (lv' := [(6, .int (s_x_loaded (C 0) nl nt ng (xs (4 * k + 1)))), (0, .ref b), (1, .ref (ad 5 16 0)), (2, .ref (ad 2 14 0)), (3, .ref o), (4, .ref o2), (5, .int (nI (4 * k)))]) hx hb dL_law_1112 hl (by decide) rfl (fun ls hl => ?_)
  refine lv_aload_n hx hb dL_law_1114 rfl (lv_at hl 3 rfl) ?_
  refine lw_ia (j := 1) hx hb hX0 hXs hbl hW.1 hL (by omega) hL2 (lv_at hl 1 rfl) (lv_at hl 6 rfl) (ci := 1) rfl dL_law_1115 dL_law_1116 dL_law_1118 dL_law_1119 dL_law_1120 ?_
  obtain ⟨fr1, hF, hback⟩ := hW.freeze
  replace hF := k_self hF 2
  refine k_callV (As := [.int (xs (4 * k + 1))]) (rest := []) ⟨hx, hb, hml, hown, hts⟩ hK (c_X7_loaded X l i3 (C 2) (xs (4 * k + 1)) hV.wf) (cwV 1 hts gL_law_X7_loaded rfl rfl rfl (by decide +kernel) ⟨Nat.le_of_ble_eq_true rfl, Nat.le_of_ble_eq_true rfl⟩) (k_recv hK hF 14 0 i3.o (fun _ => rfl) rfl) hF rfl hl.1 rfl (Nat.le_of_ble_eq_true rfl) dL_law_1121 ⟨by have := hcs.1; omega, by have := hcs.2; omega⟩ hL (fun v H locs hp hL => ?_)
  obtain ⟨rfl, hW⟩ := hp
  replace hW := hback _ _ _ _ _ hW
  obtain ⟨z1, z2, z3⟩ := q_aLoaded hV (xs (4 * k + 1))
  refine lv_istore (lv' := [(7, .int (s_X7_loaded (C 2) nl nt ng (xs (4 * k + 1))).2), (6, .int (s_x_loaded (C 0) nl nt ng (xs (4 * k + 1)))), (0, .ref b), (1, .ref (ad 5 16 0)), (2, .ref (ad 2 14 0)), (3, .ref o), (4, .ref o2), (5, .int (nI (4 * k)))]) hx hb dL_law_1124 hl (by decide) rfl (fun ls hl => ?_)
  refine lw_thr hx hb hml hown hts hK i3 hW hL z1 hl 4 1 rfl rfl ⟨by have := hcs.1; omega, by have := hcs.2; omega⟩ dL_law_1126 dL_law_1127 dL_law_1130 dL_law_1132 (fun H locs hW hL => ?_)
  refine k_more (cells' := cells + 100) (slots' := slots + 1000) (by omega) (by omega) ?_
  exact lw_cmp hx hb hK hW (fun h => by rw [hf1 h, z3 h]) hl 5 1 0 rfl rfl rfl (by decide) dL_law_1137 dL_law_1139 dL_law_1142 dL_law_1143 dL_law_1144 dL_law_1145 dL_law_1147 dL_law_1148 dL_law_1149 dL_law_1154 (kk _ _ _ ⟨n, ad, L, k_g C 2 (s_X7_loaded (C 2) nl nt ng (xs (4 * k + 1))).1, nl, nt, ng, ne, f1, fd, (hI0.ref _).next, lw_V z2, rfl, rfl, hW⟩ hL (lv_sub hl [2, 3, 4, 5, 6, 7] rfl))
set_option maxHeartbeats 400000 in
set_option maxRecDepth 100000 in
theorem lw_c16 : lw_case 1157 := by
  intro p l e s m below meth c H locs cells slots Q ls b Ln xs X n ad L C nl nt ng ne k o o2 f fd Z hk hI hV hW hL hl hcs kk
  obtain ⟨hx, hb, hml, hown, hts, hK, hX0, hXs, hbl, hL2, hl9, hfp⟩ := Z
  have hI0 := hI
  obtain ⟨i1, i2, i3, i4, i5, i6, i7, i8, i9, i10, i11⟩ := hI

  refine lv_aload_n hx hb dL_law_1157 rfl (lv_at hl 1 rfl) ?_
  refine lw_ia (j := 1) hx hb hX0 hXs hbl hW.1 hL (by omega) hL2 (lv_at hl 0 rfl) (lv_at hl 5 rfl) (ci := 1) rfl dL_law_1158 dL_law_1159 dL_law_1161 dL_law_1162 dL_law_1163 ?_
  refine lv_aload_n hx hb dL_law_1164 rfl (lv_at hl 3 rfl) ?_
  replace hW : k_N X n ad L (k_g C 0 (C 0)) (fun _ => none) (lw_ws X o o2 f fd) H := by rw [k_g_self]; exact hW
  refine kx_callSX (As := [.ref (ad 5 16 0), .int (xs (4 * k + 1)), .ref o]) (rest := []) ⟨hx, hb, hml, hown, hts⟩ hK (c_L_leftAt X l i1 (C 0) i2 (xs (4 * k + 1)) hl9) (vx_cwSW 3 hts gL_law_L_leftAt rfl rfl rfl (by decide +kernel) ⟨Nat.le_of_ble_eq_true rfl, Nat.le_of_ble_eq_true rfl⟩) hW rfl hl.1 rfl (Nat.le_of_ble_eq_true rfl) dL_law_1165 ⟨by have := hcs.1; omega, by have := hcs.2; omega⟩ hL (fun E ce q H locs hp => hp.elim) (fun v H locs hp hL => ?_)
  obtain ⟨f1, rfl, hW, hf1⟩ := lw_q1 hp
  refine lv_istore (lv' := [(6, .int (s_x_leftAt (C 0) nl nt ng (xs (4 * k + 1)))), (0, .ref b), (1, .ref (ad 5 16 0)), (2, .ref (ad 2 14 0)), (3, .ref o), (4, .ref o2), (5, .int (nI (4 * k)))]) hx hb dL_law_1168 hl (by decide) rfl (fun ls hl => ?_)
  refine lv_aload_n hx hb dL_law_1170 rfl (lv_at hl 3 rfl) ?_
  refine lw_ia (j := 1) hx hb hX0 hXs hbl hW.1 hL (by omega) hL2 (lv_at hl 1 rfl) (lv_at hl 6 rfl) (ci := 1) rfl dL_law_1171 dL_law_1172 dL_law_1174 dL_law_1175 dL_law_1176 ?_
  obtain ⟨fr1, hF, hback⟩ := hW.freeze
  replace hF := k_self hF 2
  refine k_callV (As := [.int (xs (4 * k + 1))]) (rest := []) ⟨hx, hb, hml, hown, hts⟩ hK (c_X7_leftAt X l i3 (C 2) (xs (4 * k + 1)) hV.wf) (cwV 1 hts gL_law_X7_leftAt rfl rfl rfl (by decide +kernel) ⟨Nat.le_of_ble_eq_true rfl, Nat.le_of_ble_eq_true rfl⟩) (k_recv hK hF 14 0 i3.o (fun _ => rfl) rfl) hF rfl hl.1 rfl (Nat.le_of_ble_eq_true rfl) dL_law_1177 ⟨by have := hcs.1; omega, by have := hcs.2; omega⟩ hL (fun v H locs hp hL => ?_)
  obtain ⟨rfl, hW⟩ := hp
  replace hW := hback _ _ _ _ _ hW
  obtain ⟨z1, z2, z3⟩ := q_aLeftAt hV (xs (4 * k + 1))
  refine lv_istore (lv' := [(7, .int (s_X7_leftAt (C 2) nl nt ng (xs (4 * k + 1))).2), (6, .int (s_x_leftAt (C 0) nl nt ng (xs (4 * k + 1)))), (0, .ref b), (1, .ref (ad 5 16 0)), (2, .ref (ad 2 14 0)), (3, .ref o), (4, .ref o2), (5, .int (nI (4 * k)))]) hx hb dL_law_1180 hl (by decide) rfl (fun ls hl => ?_)
  refine lw_thr hx hb hml hown hts hK i3 hW hL z1 hl 4 1 rfl rfl ⟨by have := hcs.1; omega, by have := hcs.2; omega⟩ dL_law_1182 dL_law_1183 dL_law_1186 dL_law_1188 (fun H locs hW hL => ?_)
  refine k_more (cells' := cells + 100) (slots' := slots + 1000) (by omega) (by omega) ?_
  exact lw_cmp hx hb hK hW (fun h => by rw [hf1 h, z3 h]) hl 5 1 0 rfl rfl rfl (by decide) dL_law_1193 dL_law_1195 dL_law_1198 dL_law_1199 dL_law_1200 dL_law_1201 dL_law_1203 dL_law_1204 dL_law_1205 dL_law_1210 (kk _ _ _ ⟨n, ad, L, k_g C 2 (s_X7_leftAt (C 2) nl nt ng (xs (4 * k + 1))).1, nl, nt, ng, ne, f1, fd, (hI0.ref _).next, lw_V z2, rfl, rfl, hW⟩ hL (lv_sub hl [2, 3, 4, 5, 6, 7] rfl))
set_option maxHeartbeats 400000 in
set_option maxRecDepth 100000 in
theorem lw_c18 : lw_case 1226 := by
  intro p l e s m below meth c H locs cells slots Q ls b Ln xs X n ad L C nl nt ng ne k o o2 f fd Z hk hI hV hW hL hl hcs kk
  obtain ⟨hx, hb, hml, hown, hts, hK, hX0, hXs, hbl, hL2, hl9, hfp⟩ := Z
  have hI0 := hI
  obtain ⟨i1, i2, i3, i4, i5, i6, i7, i8, i9, i10, i11⟩ := hI

  refine lv_aload_n hx hb dL_law_1226 rfl (lv_at hl 1 rfl) ?_
  refine lw_ia (j := 1) hx hb hX0 hXs hbl hW.1 hL (by omega) hL2 (lv_at hl 0 rfl) (lv_at hl 5 rfl) (ci := 1) rfl dL_law_1227 dL_law_1228 dL_law_1230 dL_law_1231 dL_law_1232 ?_
  refine lv_aload_n hx hb dL_law_1233 rfl (lv_at hl 3 rfl) ?_
  replace hW : k_N X n ad L (k_g C 0 (C 0)) (fun _ => none) (lw_ws X o o2 f fd) H := by rw [k_g_self]; exact hW
  refine kx_callSX (As := [.ref (ad 5 16 0), .int (xs (4 * k + 1)), .ref o]) (rest := []) ⟨hx, hb, hml, hown, hts⟩ hK (c_L_waited X l i1 (C 0) i2 (xs (4 * k + 1)) hl9) (vx_cwSW 3 hts gL_law_L_waited rfl rfl rfl (by decide +kernel) ⟨Nat.le_of_ble_eq_true rfl, Nat.le_of_ble_eq_true rfl⟩) hW rfl hl.1 rfl (Nat.le_of_ble_eq_true rfl) dL_law_1234 ⟨by have := hcs.1; omega, by have := hcs.2; omega⟩ hL (fun E ce q H locs hp => hp.elim) (fun v H locs hp hL => ?_)
  obtain ⟨f1, rfl, hW, hf1⟩ := lw_q1 hp
  refine lv_istore (lv' := [(6, .int (s_x_waited (C 0) nl nt ng (xs (4 * k + 1)))), (0, .ref b), (1, .ref (ad 5 16 0)), (2, .ref (ad 2 14 0)), (3, .ref o), (4, .ref o2), (5, .int (nI (4 * k)))]) hx hb dL_law_1237 hl (by decide) rfl (fun ls hl => ?_)
  refine lv_aload_n hx hb dL_law_1239 rfl (lv_at hl 3 rfl) ?_
  refine lw_ia (j := 1) hx hb hX0 hXs hbl hW.1 hL (by omega) hL2 (lv_at hl 1 rfl) (lv_at hl 6 rfl) (ci := 1) rfl dL_law_1240 dL_law_1241 dL_law_1243 dL_law_1244 dL_law_1245 ?_
  obtain ⟨fr1, hF, hback⟩ := hW.freeze
  replace hF := k_self hF 2
  refine k_callV (As := [.int (xs (4 * k + 1))]) (rest := []) ⟨hx, hb, hml, hown, hts⟩ hK (c_X7_waited X l i3 (C 2) (xs (4 * k + 1)) hV.wf) (cwV 1 hts gL_law_X7_waited rfl rfl rfl (by decide +kernel) ⟨Nat.le_of_ble_eq_true rfl, Nat.le_of_ble_eq_true rfl⟩) (k_recv hK hF 14 0 i3.o (fun _ => rfl) rfl) hF rfl hl.1 rfl (Nat.le_of_ble_eq_true rfl) dL_law_1246 ⟨by have := hcs.1; omega, by have := hcs.2; omega⟩ hL (fun v H locs hp hL => ?_)
  obtain ⟨rfl, hW⟩ := hp
  replace hW := hback _ _ _ _ _ hW
  obtain ⟨z1, z2, z3⟩ := q_aWaited hV (xs (4 * k + 1))
  refine lv_istore (lv' := [(7, .int (s_X7_waited (C 2) nl nt ng (xs (4 * k + 1))).2), (6, .int (s_x_waited (C 0) nl nt ng (xs (4 * k + 1)))), (0, .ref b), (1, .ref (ad 5 16 0)), (2, .ref (ad 2 14 0)), (3, .ref o), (4, .ref o2), (5, .int (nI (4 * k)))]) hx hb dL_law_1249 hl (by decide) rfl (fun ls hl => ?_)
  refine lw_thr hx hb hml hown hts hK i3 hW hL z1 hl 4 1 rfl rfl ⟨by have := hcs.1; omega, by have := hcs.2; omega⟩ dL_law_1251 dL_law_1252 dL_law_1255 dL_law_1257 (fun H locs hW hL => ?_)
  refine k_more (cells' := cells + 100) (slots' := slots + 1000) (by omega) (by omega) ?_
  exact lw_cmp hx hb hK hW (fun h => by rw [hf1 h, z3 h]) hl 5 1 0 rfl rfl rfl (by decide) dL_law_1262 dL_law_1264 dL_law_1267 dL_law_1268 dL_law_1269 dL_law_1270 dL_law_1272 dL_law_1273 dL_law_1274 dL_law_1279 (kk _ _ _ ⟨n, ad, L, k_g C 2 (s_X7_waited (C 2) nl nt ng (xs (4 * k + 1))).1, nl, nt, ng, ne, f1, fd, (hI0.ref _).next, lw_V z2, rfl, rfl, hW⟩ hL (lv_sub hl [2, 3, 4, 5, 6, 7] rfl))
set_option maxHeartbeats 400000 in
set_option maxRecDepth 100000 in
theorem lw_c19 : lw_case 1282 := by
  intro p l e s m below meth c H locs cells slots Q ls b Ln xs X n ad L C nl nt ng ne k o o2 f fd Z hk hI hV hW hL hl hcs kk
  obtain ⟨hx, hb, hml, hown, hts, hK, hX0, hXs, hbl, hL2, hl9, hfp⟩ := Z
  have hI0 := hI
  obtain ⟨i1, i2, i3, i4, i5, i6, i7, i8, i9, i10, i11⟩ := hI

  refine lv_aload_n hx hb dL_law_1282 rfl (lv_at hl 1 rfl) ?_
  refine lw_ia (j := 1) hx hb hX0 hXs hbl hW.1 hL (by omega) hL2 (lv_at hl 0 rfl) (lv_at hl 5 rfl) (ci := 1) rfl dL_law_1283 dL_law_1284 dL_law_1286 dL_law_1287 dL_law_1288 ?_
  refine lv_aload_n hx hb dL_law_1289 rfl (lv_at hl 3 rfl) ?_
  replace hW : k_N X n ad L (k_g C 0 (C 0)) (fun _ => none) (lw_ws X o o2 f fd) H := by rw [k_g_self]; exact hW
  refine kx_callSX (As := [.ref (ad 5 16 0), .int (xs (4 * k + 1)), .ref o]) (rest := []) ⟨hx, hb, hml, hown, hts⟩ hK (c_L_ownMinutes X l i1 (C 0) i2 (xs (4 * k + 1)) hl9) (vx_cwSW 3 hts gL_law_L_ownMinutes rfl rfl rfl (by decide +kernel) ⟨Nat.le_of_ble_eq_true rfl, Nat.le_of_ble_eq_true rfl⟩) hW rfl hl.1 rfl (Nat.le_of_ble_eq_true rfl) dL_law_1290 ⟨by have := hcs.1; omega, by have := hcs.2; omega⟩ hL (fun E ce q H locs hp => hp.elim) (fun v H locs hp hL => ?_)
  obtain ⟨f1, rfl, hW, hf1⟩ := lw_q1 hp
  refine lv_istore (lv' := [(6, .int (s_x_ownMinutes (C 0) nl nt ng (xs (4 * k + 1)))), (0, .ref b), (1, .ref (ad 5 16 0)), (2, .ref (ad 2 14 0)), (3, .ref o), (4, .ref o2), (5, .int (nI (4 * k)))]) hx hb dL_law_1293 hl (by decide) rfl (fun ls hl => ?_)
  refine lv_aload_n hx hb dL_law_1295 rfl (lv_at hl 3 rfl) ?_
  refine lw_ia (j := 1) hx hb hX0 hXs hbl hW.1 hL (by omega) hL2 (lv_at hl 1 rfl) (lv_at hl 6 rfl) (ci := 1) rfl dL_law_1296 dL_law_1297 dL_law_1299 dL_law_1300 dL_law_1301 ?_
  obtain ⟨fr1, hF, hback⟩ := hW.freeze
  replace hF := k_self hF 2
  refine k_callV (As := [.int (xs (4 * k + 1))]) (rest := []) ⟨hx, hb, hml, hown, hts⟩ hK (c_X7_ownMinutes X l i3 (C 2) (xs (4 * k + 1)) hV.wf) (cwV 1 hts gL_law_X7_ownMinutes rfl rfl rfl (by decide +kernel) ⟨Nat.le_of_ble_eq_true rfl, Nat.le_of_ble_eq_true rfl⟩) (k_recv hK hF 14 0 i3.o (fun _ => rfl) rfl) hF rfl hl.1 rfl (Nat.le_of_ble_eq_true rfl) dL_law_1302 ⟨by have := hcs.1; omega, by have := hcs.2; omega⟩ hL (fun v H locs hp hL => ?_)
  obtain ⟨rfl, hW⟩ := hp
  replace hW := hback _ _ _ _ _ hW
  obtain ⟨z1, z2, z3⟩ := q_aOwn hV (xs (4 * k + 1))
  refine lv_istore (lv' := [(7, .int (s_X7_ownMinutes (C 2) nl nt ng (xs (4 * k + 1))).2), (6, .int (s_x_ownMinutes (C 0) nl nt ng (xs (4 * k + 1)))), (0, .ref b), (1, .ref (ad 5 16 0)), (2, .ref (ad 2 14 0)), (3, .ref o), (4, .ref o2), (5, .int (nI (4 * k)))]) hx hb dL_law_1305 hl (by decide) rfl (fun ls hl => ?_)
  refine lw_thr hx hb hml hown hts hK i3 hW hL z1 hl 4 1 rfl rfl ⟨by have := hcs.1; omega, by have := hcs.2; omega⟩ dL_law_1307 dL_law_1308 dL_law_1311 dL_law_1313 (fun H locs hW hL => ?_)
  refine k_more (cells' := cells + 100) (slots' := slots + 1000) (by omega) (by omega) ?_
  exact lw_cmp hx hb hK hW (fun h => by rw [hf1 h, z3 h]) hl 5 1 0 rfl rfl rfl (by decide) dL_law_1318 dL_law_1320 dL_law_1323 dL_law_1324 dL_law_1325 dL_law_1326 dL_law_1328 dL_law_1329 dL_law_1330 dL_law_1335 (kk _ _ _ ⟨n, ad, L, k_g C 2 (s_X7_ownMinutes (C 2) nl nt ng (xs (4 * k + 1))).1, nl, nt, ng, ne, f1, fd, (hI0.ref _).next, lw_V z2, rfl, rfl, hW⟩ hL (lv_sub hl [2, 3, 4, 5, 6, 7] rfl))
set_option maxHeartbeats 400000 in
set_option maxRecDepth 100000 in
theorem lw_c20 : lw_case 1338 := by
  intro p l e s m below meth c H locs cells slots Q ls b Ln xs X n ad L C nl nt ng ne k o o2 f fd Z hk hI hV hW hL hl hcs kk
  obtain ⟨hx, hb, hml, hown, hts, hK, hX0, hXs, hbl, hL2, hl9, hfp⟩ := Z
  have hI0 := hI
  obtain ⟨i1, i2, i3, i4, i5, i6, i7, i8, i9, i10, i11⟩ := hI

  refine lv_aload_n hx hb dL_law_1338 rfl (lv_at hl 1 rfl) ?_
  refine lw_ia (j := 1) hx hb hX0 hXs hbl hW.1 hL (by omega) hL2 (lv_at hl 0 rfl) (lv_at hl 5 rfl) (ci := 1) rfl dL_law_1339 dL_law_1340 dL_law_1342 dL_law_1343 dL_law_1344 ?_
  refine lv_aload_n hx hb dL_law_1345 rfl (lv_at hl 3 rfl) ?_
  replace hW : k_N X n ad L (k_g C 0 (C 0)) (fun _ => none) (lw_ws X o o2 f fd) H := by rw [k_g_self]; exact hW
  refine kx_callSX (As := [.ref (ad 5 16 0), .int (xs (4 * k + 1)), .ref o]) (rest := []) ⟨hx, hb, hml, hown, hts⟩ hK (c_L_debtor X l i1 (C 0) i2 (xs (4 * k + 1)) hl9) (vx_cwSW 3 hts gL_law_L_debtor rfl rfl rfl (by decide +kernel) ⟨Nat.le_of_ble_eq_true rfl, Nat.le_of_ble_eq_true rfl⟩) hW rfl hl.1 rfl (Nat.le_of_ble_eq_true rfl) dL_law_1346 ⟨by have := hcs.1; omega, by have := hcs.2; omega⟩ hL (fun E ce q H locs hp => hp.elim) (fun v H locs hp hL => ?_)
  obtain ⟨f1, rfl, hW, hf1⟩ := lw_q1 hp
  refine lv_istore (lv' := [(6, .int (s_x_debtor (C 0) nl nt ng (xs (4 * k + 1)))), (0, .ref b), (1, .ref (ad 5 16 0)), (2, .ref (ad 2 14 0)), (3, .ref o), (4, .ref o2), (5, .int (nI (4 * k)))]) hx hb dL_law_1349 hl (by decide) rfl (fun ls hl => ?_)
  refine lv_aload_n hx hb dL_law_1351 rfl (lv_at hl 3 rfl) ?_
  refine lw_ia (j := 1) hx hb hX0 hXs hbl hW.1 hL (by omega) hL2 (lv_at hl 1 rfl) (lv_at hl 6 rfl) (ci := 1) rfl dL_law_1352 dL_law_1353 dL_law_1355 dL_law_1356 dL_law_1357 ?_
  obtain ⟨fr1, hF, hback⟩ := hW.freeze
  replace hF := k_self hF 2
  refine k_callV (As := [.int (xs (4 * k + 1))]) (rest := []) ⟨hx, hb, hml, hown, hts⟩ hK (c_X7_debtor X l i3 (C 2) (xs (4 * k + 1)) hV.wf) (cwV 1 hts gL_law_X7_debtor rfl rfl rfl (by decide +kernel) ⟨Nat.le_of_ble_eq_true rfl, Nat.le_of_ble_eq_true rfl⟩) (k_recv hK hF 14 0 i3.o (fun _ => rfl) rfl) hF rfl hl.1 rfl (Nat.le_of_ble_eq_true rfl) dL_law_1358 ⟨by have := hcs.1; omega, by have := hcs.2; omega⟩ hL (fun v H locs hp hL => ?_)
  obtain ⟨rfl, hW⟩ := hp
  replace hW := hback _ _ _ _ _ hW
  obtain ⟨z1, z2, z3⟩ := q_aDebtor hV (xs (4 * k + 1))
  refine lv_istore (lv' := [(7, .int (s_X7_debtor (C 2) nl nt ng (xs (4 * k + 1))).2), (6, .int (s_x_debtor (C 0) nl nt ng (xs (4 * k + 1)))), (0, .ref b), (1, .ref (ad 5 16 0)), (2, .ref (ad 2 14 0)), (3, .ref o), (4, .ref o2), (5, .int (nI (4 * k)))]) hx hb dL_law_1361 hl (by decide) rfl (fun ls hl => ?_)
  refine lw_thr hx hb hml hown hts hK i3 hW hL z1 hl 4 1 rfl rfl ⟨by have := hcs.1; omega, by have := hcs.2; omega⟩ dL_law_1363 dL_law_1364 dL_law_1367 dL_law_1369 (fun H locs hW hL => ?_)
  refine k_more (cells' := cells + 100) (slots' := slots + 1000) (by omega) (by omega) ?_
  exact lw_cmp hx hb hK hW (fun h => by rw [hf1 h, z3 h]) hl 5 1 0 rfl rfl rfl (by decide) dL_law_1374 dL_law_1376 dL_law_1379 dL_law_1380 dL_law_1381 dL_law_1382 dL_law_1384 dL_law_1385 dL_law_1386 dL_law_1391 (kk _ _ _ ⟨n, ad, L, k_g C 2 (s_X7_debtor (C 2) nl nt ng (xs (4 * k + 1))).1, nl, nt, ng, ne, f1, fd, (hI0.ref _).next, lw_V z2, rfl, rfl, hW⟩ hL (lv_sub hl [2, 3, 4, 5, 6, 7] rfl))
set_option maxHeartbeats 400000 in
set_option maxRecDepth 100000 in
theorem lw_c21 : lw_case 1394 := by
  intro p l e s m below meth c H locs cells slots Q ls b Ln xs X n ad L C nl nt ng ne k o o2 f fd Z hk hI hV hW hL hl hcs kk
  obtain ⟨hx, hb, hml, hown, hts, hK, hX0, hXs, hbl, hL2, hl9, hfp⟩ := Z
  have hI0 := hI
  obtain ⟨i1, i2, i3, i4, i5, i6, i7, i8, i9, i10, i11⟩ := hI

  refine lv_aload_n hx hb dL_law_1394 rfl (lv_at hl 1 rfl) ?_
  refine lw_ia (j := 1) hx hb hX0 hXs hbl hW.1 hL (by omega) hL2 (lv_at hl 0 rfl) (lv_at hl 5 rfl) (ci := 1) rfl dL_law_1395 dL_law_1396 dL_law_1398 dL_law_1399 dL_law_1400 ?_
  refine lw_ia (j := 2) hx hb hX0 hXs hbl hW.1 hL (by omega) hL2 (lv_at hl 0 rfl) (lv_at hl 5 rfl) (ci := 2) rfl dL_law_1401 dL_law_1402 dL_law_1404 dL_law_1405 dL_law_1406 ?_
  refine lv_aload_n hx hb dL_law_1407 rfl (lv_at hl 3 rfl) ?_
  replace hW : k_N X n ad L (k_g C 0 (C 0)) (fun _ => none) (lw_ws X o o2 f fd) H := by rw [k_g_self]; exact hW
  refine kx_callSX (As := [.ref (ad 5 16 0), .int (xs (4 * k + 1)), .int (xs (4 * k + 2)), .ref o]) (rest := []) ⟨hx, hb, hml, hown, hts⟩ hK (c_L_invoice X l i1 (C 0) i2 (xs (4 * k + 1)) (xs (4 * k + 2)) hl9) (vx_cwSW 4 hts gL_law_L_invoice rfl rfl rfl (by decide +kernel) ⟨Nat.le_of_ble_eq_true rfl, Nat.le_of_ble_eq_true rfl⟩) hW rfl hl.1 rfl (Nat.le_of_ble_eq_true rfl) dL_law_1408 ⟨by have := hcs.1; omega, by have := hcs.2; omega⟩ hL (fun E ce q H locs hp => hp.elim) (fun v H locs hp hL => ?_)
  obtain ⟨f1, rfl, hW, hf1⟩ := lw_q1 hp
  refine lv_istore (lv' := [(6, .int (s_x_invoice (C 0) nl nt ng (xs (4 * k + 1)) (xs (4 * k + 2)))), (0, .ref b), (1, .ref (ad 5 16 0)), (2, .ref (ad 2 14 0)), (3, .ref o), (4, .ref o2), (5, .int (nI (4 * k)))]) hx hb dL_law_1411 hl (by decide) rfl (fun ls hl => ?_)
  refine lv_aload_n hx hb dL_law_1413 rfl (lv_at hl 3 rfl) ?_
  refine lw_ia (j := 1) hx hb hX0 hXs hbl hW.1 hL (by omega) hL2 (lv_at hl 1 rfl) (lv_at hl 6 rfl) (ci := 1) rfl dL_law_1414 dL_law_1415 dL_law_1417 dL_law_1418 dL_law_1419 ?_
  refine lw_ia (j := 2) hx hb hX0 hXs hbl hW.1 hL (by omega) hL2 (lv_at hl 1 rfl) (lv_at hl 6 rfl) (ci := 2) rfl dL_law_1420 dL_law_1421 dL_law_1423 dL_law_1424 dL_law_1425 ?_
  obtain ⟨fr1, hF, hback⟩ := hW.freeze
  replace hF := k_self hF 2
  refine k_callV (As := [.int (xs (4 * k + 1)), .int (xs (4 * k + 2))]) (rest := []) ⟨hx, hb, hml, hown, hts⟩ hK (c_X7_invoice X l i3 (C 2) (xs (4 * k + 1)) (xs (4 * k + 2)) hV.wf) (cwV 2 hts gL_law_X7_invoice rfl rfl rfl (by decide +kernel) ⟨Nat.le_of_ble_eq_true rfl, Nat.le_of_ble_eq_true rfl⟩) (k_recv hK hF 14 0 i3.o (fun _ => rfl) rfl) hF rfl hl.1 rfl (Nat.le_of_ble_eq_true rfl) dL_law_1426 ⟨by have := hcs.1; omega, by have := hcs.2; omega⟩ hL (fun v H locs hp hL => ?_)
  obtain ⟨rfl, hW⟩ := hp
  replace hW := hback _ _ _ _ _ hW
  obtain ⟨z1, z2, z3⟩ := q_aInvoice hV (xs (4 * k + 1)) (xs (4 * k + 2))
  refine lv_istore (lv' := [(7, .int (s_X7_invoice (C 2) nl nt ng (xs (4 * k + 1)) (xs (4 * k + 2))).2), (6, .int (s_x_invoice (C 0) nl nt ng (xs (4 * k + 1)) (xs (4 * k + 2)))), (0, .ref b), (1, .ref (ad 5 16 0)), (2, .ref (ad 2 14 0)), (3, .ref o), (4, .ref o2), (5, .int (nI (4 * k)))]) hx hb dL_law_1429 hl (by decide) rfl (fun ls hl => ?_)
  refine lw_thr hx hb hml hown hts hK i3 hW hL z1 hl 4 1 rfl rfl ⟨by have := hcs.1; omega, by have := hcs.2; omega⟩ dL_law_1431 dL_law_1432 dL_law_1435 dL_law_1437 (fun H locs hW hL => ?_)
  refine k_more (cells' := cells + 100) (slots' := slots + 1000) (by omega) (by omega) ?_
  exact lw_cmp hx hb hK hW (fun h => by rw [hf1 h, z3 h]) hl 5 1 0 rfl rfl rfl (by decide) dL_law_1442 dL_law_1444 dL_law_1447 dL_law_1448 dL_law_1449 dL_law_1450 dL_law_1452 dL_law_1453 dL_law_1454 dL_law_1459 (kk _ _ _ ⟨n, ad, L, k_g C 2 (s_X7_invoice (C 2) nl nt ng (xs (4 * k + 1)) (xs (4 * k + 2))).1, nl, nt, ng, ne, f1, fd, (hI0.ref _).next, lw_V z2, rfl, rfl, hW⟩ hL (lv_sub hl [2, 3, 4, 5, 6, 7] rfl))
set_option maxHeartbeats 400000 in
set_option maxRecDepth 100000 in
theorem lw_c22 : lw_case 1462 := by
  intro p l e s m below meth c H locs cells slots Q ls b Ln xs X n ad L C nl nt ng ne k o o2 f fd Z hk hI hV hW hL hl hcs kk
  obtain ⟨hx, hb, hml, hown, hts, hK, hX0, hXs, hbl, hL2, hl9, hfp⟩ := Z
  have hI0 := hI
  obtain ⟨i1, i2, i3, i4, i5, i6, i7, i8, i9, i10, i11⟩ := hI

  refine lv_aload_n hx hb dL_law_1462 rfl (lv_at hl 1 rfl) ?_
  refine lw_ia (j := 1) hx hb hX0 hXs hbl hW.1 hL (by omega) hL2 (lv_at hl 0 rfl) (lv_at hl 5 rfl) (ci := 1) rfl dL_law_1463 dL_law_1464 dL_law_1466 dL_law_1467 dL_law_1468 ?_
  refine lw_ia (j := 2) hx hb hX0 hXs hbl hW.1 hL (by omega) hL2 (lv_at hl 0 rfl) (lv_at hl 5 rfl) (ci := 2) rfl dL_law_1469 dL_law_1470 dL_law_1472 dL_law_1473 dL_law_1474 ?_
  refine lv_aload_n hx hb dL_law_1475 rfl (lv_at hl 3 rfl) ?_
  replace hW : k_N X n ad L (k_g C 0 (C 0)) (fun _ => none) (lw_ws X o o2 f fd) H := by rw [k_g_self]; exact hW
  refine kx_callSX (As := [.ref (ad 5 16 0), .int (xs (4 * k + 1)), .int (xs (4 * k + 2)), .ref o]) (rest := []) ⟨hx, hb, hml, hown, hts⟩ hK (c_L_invoiceAnew X l i1 (C 0) i2 (xs (4 * k + 1)) (xs (4 * k + 2)) (by omega) i8 i10 i11 hl9) (vx_cwSW 4 hts gL_law_L_invoiceAnew rfl rfl rfl (by decide +kernel) ⟨Nat.le_of_ble_eq_true rfl, Nat.le_of_ble_eq_true rfl⟩) hW rfl hl.1 rfl (Nat.le_of_ble_eq_true rfl) dL_law_1476 ⟨by have := hcs.1; omega, by have := hcs.2; omega⟩ hL (fun E ce q H locs hp => hp.elim) (fun v H locs hp hL => ?_)
  obtain ⟨f1, rfl, hW, hf1⟩ := lw_q1 hp
  refine lv_istore (lv' := [(6, .int (s_x_invoiceAnew (C 0) nl nt ng (xs (4 * k + 1)) (xs (4 * k + 2)))), (0, .ref b), (1, .ref (ad 5 16 0)), (2, .ref (ad 2 14 0)), (3, .ref o), (4, .ref o2), (5, .int (nI (4 * k)))]) hx hb dL_law_1479 hl (by decide) rfl (fun ls hl => ?_)
  refine lv_aload_n hx hb dL_law_1481 rfl (lv_at hl 3 rfl) ?_
  refine lw_ia (j := 1) hx hb hX0 hXs hbl hW.1 hL (by omega) hL2 (lv_at hl 1 rfl) (lv_at hl 6 rfl) (ci := 1) rfl dL_law_1482 dL_law_1483 dL_law_1485 dL_law_1486 dL_law_1487 ?_
  refine lw_ia (j := 2) hx hb hX0 hXs hbl hW.1 hL (by omega) hL2 (lv_at hl 1 rfl) (lv_at hl 6 rfl) (ci := 2) rfl dL_law_1488 dL_law_1489 dL_law_1491 dL_law_1492 dL_law_1493 ?_
  obtain ⟨fr1, hF, hback⟩ := hW.freeze
  replace hF := k_self hF 2
  refine k_callV (As := [.int (xs (4 * k + 1)), .int (xs (4 * k + 2))]) (rest := []) ⟨hx, hb, hml, hown, hts⟩ hK (c_X7_invoiceAnew X l i3 (C 2) (xs (4 * k + 1)) (xs (4 * k + 2)) hV.wf) (cwV 2 hts gL_law_X7_invoiceAnew rfl rfl rfl (by decide +kernel) ⟨Nat.le_of_ble_eq_true rfl, Nat.le_of_ble_eq_true rfl⟩) (k_recv hK hF 14 0 i3.o (fun _ => rfl) rfl) hF rfl hl.1 rfl (Nat.le_of_ble_eq_true rfl) dL_law_1494 ⟨by have := hcs.1; omega, by have := hcs.2; omega⟩ hL (fun v H locs hp hL => ?_)
  obtain ⟨rfl, hW⟩ := hp
  replace hW := hback _ _ _ _ _ hW
  obtain ⟨z1, z2, z3⟩ := q_aInvAnew hV (xs (4 * k + 1)) (xs (4 * k + 2))
  refine lv_istore (lv' := [(7, .int (s_X7_invoiceAnew (C 2) nl nt ng (xs (4 * k + 1)) (xs (4 * k + 2))).2), (6, .int (s_x_invoiceAnew (C 0) nl nt ng (xs (4 * k + 1)) (xs (4 * k + 2)))), (0, .ref b), (1, .ref (ad 5 16 0)), (2, .ref (ad 2 14 0)), (3, .ref o), (4, .ref o2), (5, .int (nI (4 * k)))]) hx hb dL_law_1497 hl (by decide) rfl (fun ls hl => ?_)
  refine lw_thr hx hb hml hown hts hK i3 hW hL z1 hl 4 1 rfl rfl ⟨by have := hcs.1; omega, by have := hcs.2; omega⟩ dL_law_1499 dL_law_1500 dL_law_1503 dL_law_1505 (fun H locs hW hL => ?_)
  refine k_more (cells' := cells + 100) (slots' := slots + 1000) (by omega) (by omega) ?_
  exact lw_cmp hx hb hK hW (fun h => by rw [hf1 h, z3 h]) hl 5 1 0 rfl rfl rfl (by decide) dL_law_1510 dL_law_1512 dL_law_1515 dL_law_1516 dL_law_1517 dL_law_1518 dL_law_1520 dL_law_1521 dL_law_1522 dL_law_1527 (kk _ _ _ ⟨n, ad, L, k_g C 2 (s_X7_invoiceAnew (C 2) nl nt ng (xs (4 * k + 1)) (xs (4 * k + 2))).1, nl, nt, ng, ne, f1, fd, (hI0.ref _).next, lw_V z2, rfl, rfl, hW⟩ hL (lv_sub hl [2, 3, 4, 5, 6, 7] rfl))
set_option maxHeartbeats 400000 in
set_option maxRecDepth 100000 in
theorem lw_c23 : lw_case 1530 := by
  intro p l e s m below meth c H locs cells slots Q ls b Ln xs X n ad L C nl nt ng ne k o o2 f fd Z hk hI hV hW hL hl hcs kk
  obtain ⟨hx, hb, hml, hown, hts, hK, hX0, hXs, hbl, hL2, hl9, hfp⟩ := Z
  have hI0 := hI
  obtain ⟨i1, i2, i3, i4, i5, i6, i7, i8, i9, i10, i11⟩ := hI

  refine lv_aload_n hx hb dL_law_1530 rfl (lv_at hl 1 rfl) ?_
  refine lw_ia (j := 1) hx hb hX0 hXs hbl hW.1 hL (by omega) hL2 (lv_at hl 0 rfl) (lv_at hl 5 rfl) (ci := 1) rfl dL_law_1531 dL_law_1532 dL_law_1534 dL_law_1535 dL_law_1536 ?_
  refine lv_aload_n hx hb dL_law_1537 rfl (lv_at hl 3 rfl) ?_
  replace hW : k_N X n ad L (k_g C 0 (C 0)) (fun _ => none) (lw_ws X o o2 f fd) H := by rw [k_g_self]; exact hW
  refine kx_callSX (As := [.ref (ad 5 16 0), .int (xs (4 * k + 1)), .ref o]) (rest := []) ⟨hx, hb, hml, hown, hts⟩ hK (c_L_balance X l i1 (C 0) i2 (xs (4 * k + 1)) hl9) (vx_cwSW 3 hts gL_law_L_balance rfl rfl rfl (by decide +kernel) ⟨Nat.le_of_ble_eq_true rfl, Nat.le_of_ble_eq_true rfl⟩) hW rfl hl.1 rfl (Nat.le_of_ble_eq_true rfl) dL_law_1538 ⟨by have := hcs.1; omega, by have := hcs.2; omega⟩ hL (fun E ce q H locs hp => hp.elim) (fun v H locs hp hL => ?_)
  obtain ⟨f1, rfl, hW, hf1⟩ := lw_q1 hp
  refine lv_istore (lv' := [(6, .int (s_x_balance (C 0) nl nt ng (xs (4 * k + 1)))), (0, .ref b), (1, .ref (ad 5 16 0)), (2, .ref (ad 2 14 0)), (3, .ref o), (4, .ref o2), (5, .int (nI (4 * k)))]) hx hb dL_law_1541 hl (by decide) rfl (fun ls hl => ?_)
  refine lv_aload_n hx hb dL_law_1543 rfl (lv_at hl 3 rfl) ?_
  refine lw_ia (j := 1) hx hb hX0 hXs hbl hW.1 hL (by omega) hL2 (lv_at hl 1 rfl) (lv_at hl 6 rfl) (ci := 1) rfl dL_law_1544 dL_law_1545 dL_law_1547 dL_law_1548 dL_law_1549 ?_
  obtain ⟨fr1, hF, hback⟩ := hW.freeze
  replace hF := k_self hF 2
  refine k_callV (As := [.int (xs (4 * k + 1))]) (rest := []) ⟨hx, hb, hml, hown, hts⟩ hK (c_X7_balance X l i3 (C 2) (xs (4 * k + 1)) hV.wf) (cwV 1 hts gL_law_X7_balance rfl rfl rfl (by decide +kernel) ⟨Nat.le_of_ble_eq_true rfl, Nat.le_of_ble_eq_true rfl⟩) (k_recv hK hF 14 0 i3.o (fun _ => rfl) rfl) hF rfl hl.1 rfl (Nat.le_of_ble_eq_true rfl) dL_law_1550 ⟨by have := hcs.1; omega, by have := hcs.2; omega⟩ hL (fun v H locs hp hL => ?_)
  obtain ⟨rfl, hW⟩ := hp
  replace hW := hback _ _ _ _ _ hW
  obtain ⟨z1, z2, z3⟩ := q_aBal hV (xs (4 * k + 1))
  refine lv_lstore (lv' := [(7, .long (s_X7_balance (C 2) nl nt ng (xs (4 * k + 1))).2), (6, .int (s_x_balance (C 0) nl nt ng (xs (4 * k + 1)))), (0, .ref b), (1, .ref (ad 5 16 0)), (2, .ref (ad 2 14 0)), (3, .ref o), (4, .ref o2), (5, .int (nI (4 * k)))]) hx hb dL_law_1553 hl (by decide) rfl (fun ls hl => ?_)
  refine lw_thr hx hb hml hown hts hK i3 hW hL z1 hl 4 1 rfl rfl ⟨by have := hcs.1; omega, by have := hcs.2; omega⟩ dL_law_1555 dL_law_1556 dL_law_1559 dL_law_1561 (fun H locs hW hL => ?_)
  refine k_more (cells' := cells + 100) (slots' := slots + 1000) (by omega) (by omega) ?_
  have key := (kk _ _ _ ⟨n, ad, L, k_g C 2 (s_X7_balance (C 2) nl nt ng (xs (4 * k + 1))).1, nl, nt, ng, ne, f1, fd, (hI0.ref _).next, lw_V z2, rfl, rfl, hW⟩ hL (lv_sub hl [2, 3, 4, 5, 6, 7] rfl))
  refine lv_iload hx hb dL_law_1566 (lv_at hl 1 rfl) ?_
  refine lv_if_ne (tgt := 1582) hx hb dL_law_1568 (by decide) (fun _ => lv_goto (tgt := 1811) hx hb dL_law_1582 (by decide) key) (fun hc => ?_)
  refine lv_aload_n hx hb dL_law_1571 rfl (lv_at hl 5 rfl) ?_
  refine lv_iconst (v := 0) hx hb dL_law_1572 (by decide) ?_
  refine va_lald hx hb hK.1 hW.2.1 0 5 rfl rfl (by unfold vp_in; decide) dL_law_1573 ?_
  rw [show (0 : Int32).toNatClampNeg = 0 from by decide, hf1 hc, ← z3 hc]
  refine lv_lload hx hb dL_law_1574 (lv_at hl 0 rfl) ?_
  refine W.lcmp hx hb dL_law_1576 ?_
  rw [lw_lcmp]
  exact lv_if_eq (tgt := 1582) hx hb dL_law_1577 (by decide) (fun _ => lv_goto (tgt := 1811) hx hb dL_law_1582 (by decide) key) (fun h => absurd rfl h)
set_option maxHeartbeats 400000 in
set_option maxRecDepth 100000 in
theorem lw_c28 : lw_case 1742 := by
  intro p l e s m below meth c H locs cells slots Q ls b Ln xs X n ad L C nl nt ng ne k o o2 f fd Z hk hI hV hW hL hl hcs kk
  obtain ⟨hx, hb, hml, hown, hts, hK, hX0, hXs, hbl, hL2, hl9, hfp⟩ := Z
  have hI0 := hI
  obtain ⟨i1, i2, i3, i4, i5, i6, i7, i8, i9, i10, i11⟩ := hI

  refine lv_aload_n hx hb dL_law_1742 rfl (lv_at hl 1 rfl) ?_
  refine lw_ia (j := 1) hx hb hX0 hXs hbl hW.1 hL (by omega) hL2 (lv_at hl 0 rfl) (lv_at hl 5 rfl) (ci := 1) rfl dL_law_1743 dL_law_1744 dL_law_1746 dL_law_1747 dL_law_1748 ?_
  refine lv_aload_n hx hb dL_law_1749 rfl (lv_at hl 3 rfl) ?_
  replace hW : k_N X n ad L (k_g C 0 (C 0)) (fun _ => none) (lw_ws X o o2 f fd) H := by rw [k_g_self]; exact hW
  refine kx_callSX (As := [.ref (ad 5 16 0), .int (xs (4 * k + 1)), .ref o]) (rest := []) ⟨hx, hb, hml, hown, hts⟩ hK (c_L_bestDoor X l i1 (C 0) i2 i4 (xs (4 * k + 1)) i6 i7 hl9) (vx_cwSW 3 hts gL_law_L_bestDoor rfl rfl rfl (by decide +kernel) ⟨Nat.le_of_ble_eq_true rfl, Nat.le_of_ble_eq_true rfl⟩) hW rfl hl.1 rfl (Nat.le_of_ble_eq_true rfl) dL_law_1750 ⟨by have := hcs.1; omega, by have := hcs.2; omega⟩ hL (fun E ce q H locs hp => hp.elim) (fun v H locs hp hL => ?_)
  obtain ⟨f1, rfl, hW, hf1⟩ := lw_q1 hp
  refine lv_istore (lv' := [(6, .int (s_x_bestDoor (C 0) nl nt ng (xs (4 * k + 1)))), (0, .ref b), (1, .ref (ad 5 16 0)), (2, .ref (ad 2 14 0)), (3, .ref o), (4, .ref o2), (5, .int (nI (4 * k)))]) hx hb dL_law_1753 hl (by decide) rfl (fun ls hl => ?_)
  refine lv_aload_n hx hb dL_law_1755 rfl (lv_at hl 3 rfl) ?_
  refine lw_ia (j := 1) hx hb hX0 hXs hbl hW.1 hL (by omega) hL2 (lv_at hl 1 rfl) (lv_at hl 6 rfl) (ci := 1) rfl dL_law_1756 dL_law_1757 dL_law_1759 dL_law_1760 dL_law_1761 ?_
  obtain ⟨fr1, hF, hback⟩ := hW.freeze
  replace hF := k_self hF 2
  refine k_callV (As := [.int (xs (4 * k + 1))]) (rest := []) ⟨hx, hb, hml, hown, hts⟩ hK (c_X7_bestDoor X l i3 (C 2) (xs (4 * k + 1)) hV.wf) (cwV 1 hts gL_law_X7_bestDoor rfl rfl rfl (by decide +kernel) ⟨Nat.le_of_ble_eq_true rfl, Nat.le_of_ble_eq_true rfl⟩) (k_recv hK hF 14 0 i3.o (fun _ => rfl) rfl) hF rfl hl.1 rfl (Nat.le_of_ble_eq_true rfl) dL_law_1762 ⟨by have := hcs.1; omega, by have := hcs.2; omega⟩ hL (fun v H locs hp hL => ?_)
  obtain ⟨rfl, hW⟩ := hp
  replace hW := hback _ _ _ _ _ hW
  obtain ⟨z1, z2, z3⟩ := q_aBest hV (xs (4 * k + 1))
  refine lv_istore (lv' := [(7, .int (s_X7_bestDoor (C 2) nl nt ng (xs (4 * k + 1))).2), (6, .int (s_x_bestDoor (C 0) nl nt ng (xs (4 * k + 1)))), (0, .ref b), (1, .ref (ad 5 16 0)), (2, .ref (ad 2 14 0)), (3, .ref o), (4, .ref o2), (5, .int (nI (4 * k)))]) hx hb dL_law_1765 hl (by decide) rfl (fun ls hl => ?_)
  refine lw_thr hx hb hml hown hts hK i3 hW hL z1 hl 4 1 rfl rfl ⟨by have := hcs.1; omega, by have := hcs.2; omega⟩ dL_law_1767 dL_law_1768 dL_law_1771 dL_law_1773 (fun H locs hW hL => ?_)
  refine k_more (cells' := cells + 100) (slots' := slots + 1000) (by omega) (by omega) ?_
  exact lw_cmp hx hb hK hW (fun h => by rw [hf1 h, z3 h]) hl 5 1 0 rfl rfl rfl (by decide) dL_law_1778 dL_law_1780 dL_law_1783 dL_law_1784 dL_law_1785 dL_law_1786 dL_law_1788 dL_law_1789 dL_law_1790 dL_law_1795 (kk _ _ _ ⟨n, ad, L, k_g C 2 (s_X7_bestDoor (C 2) nl nt ng (xs (4 * k + 1))).1, nl, nt, ng, ne, f1, fd, (hI0.ref _).next, lw_V z2, rfl, rfl, hW⟩ hL (lv_sub hl [2, 3, 4, 5, 6, 7] rfl))
