/-! a list of the dock goes out of the world, to grow -/
def k_oth (g : Nat) (ad ad' L L' : Nat → Nat → Nat → Nat) : Prop := (∀ g', g' ≠ g → ad' g' = ad g' ∧ L' g' = L g') ∧ ad' g 0 0 = ad g 0 0
theorem k_oth.rfl9 {g : Nat} {ad L : Nat → Nat → Nat → Nat} : k_oth g ad ad L L := ⟨fun _ _ => ⟨rfl, rfl⟩, rfl⟩
theorem k_oth.trans {g : Nat} {ad ad' ad'' L L' L'' : Nat → Nat → Nat → Nat} (h : k_oth g ad ad' L L') (h' : k_oth g ad' ad'' L' L'') : k_oth g ad ad'' L L'' := ⟨fun g' hg => ⟨(h'.1 g' hg).1.trans (h.1 g' hg).1, (h'.1 g' hg).2.trans (h.1 g' hg).2⟩, h'.2.trans h.2⟩
theorem k_oth.a2 {ad L : Nat → Nat → Nat → Nat} {g q ro sr cnt b o sb r i z : Nat} (hr : 0 ≠ ro ∧ 0 ≠ sr) : k_oth g ad (k_a2 ad g q ro sr cnt b o sb) L (k_L2 L g r i z) := ⟨fun g' hg => ⟨k_a2_g hg, k_L2_g hg⟩, k_a2_r ⟨by decide, hr.1, hr.2⟩ g 0⟩
theorem k_outL0 {X : kX} {n : Nat → Nat → Nat} {ad L : Nat → Nat → Nat → Nat} {C : Nat → Nat → Nat → Nat → Int32} {fr : Nat → Option Cell} {ws : va_W} {H : Heap} {g nl nt ng : Nat} {D : KD} (h : k_N X n ad L (k_g C g D) fr ws H) (hd : kDk n g nl nt ng) {i : Nat} (hi : i < 3) (h0 : n g (4 + i) = 0) : k_N X (k_n1 n g (i + 1)) ad L (k_g C g D) fr ((ad g 1 i, .inr (3, [.int (D 1 i 0), .ref X.2.2.2, .int 0])) :: ws) H := by
  have q := k_outN0 h hd hi
  have e : k_pl X n ad L (k_g C g D) (g, 1, i) = (ad g 1 i, .inr (3, [.int (D 1 i 0), .ref X.2.2.2, .int 0])) := by
    show (ad g 1 i, (Sum.inr (3, [.int (k_g C g D g 1 i 0), .ref (if n g (4 + i) = 0 then X.2.2.2 else ad g 2 i), .int (nI (n g (4 + i)))]) : va_E)) = _
    rw [if_pos h0, h0, k_g_at]
    rfl
  rw [e] at q
  exact q
theorem k_outL1 {X : kX} {n : Nat → Nat → Nat} {ad L : Nat → Nat → Nat → Nat} {C : Nat → Nat → Nat → Nat → Int32} {fr : Nat → Option Cell} {ws : va_W} {H : Heap} {g nl nt ng : Nat} {D : KD} (h : k_N X n ad L (k_g C g D) fr ws H) (hd : kDk n g nl nt ng) {i cnt : Nat} (hi : i < 3) (hc : n g (4 + i) = cnt) (h0 : 0 < cnt) : k_N X (k_n1 n g (i + 1)) ad L (k_g C g D) fr ((ad g 1 i, .inr (3, [.int (D 1 i 0), .ref (ad g 2 i), .int (nI cnt)])) :: (ad g 2 i, .inl (X.2.1 4, L g 2 i, .inr (.inr (.inr (.inr (fun j => if j < cnt then some (ad g (4 + i) j) else none)))))) :: ws) H := by
  subst hc
  have q := k_outN1 h hd hi ⟨by rw [hd.2.1]; exact hi, h0, by rw [hd.no]; omega⟩
  have e : k_pl X n ad L (k_g C g D) (g, 1, i) = (ad g 1 i, .inr (3, [.int (D 1 i 0), .ref (ad g 2 i), .int (nI (n g (4 + i)))])) := by
    show (ad g 1 i, (Sum.inr (3, [.int (k_g C g D g 1 i 0), .ref (if n g (4 + i) = 0 then X.2.2.2 else ad g 2 i), .int (nI (n g (4 + i)))]) : va_E)) = _
    rw [if_neg (by omega), k_g_at]
  rw [e] at q
  exact q
theorem k_capL {X : kX} {n : Nat → Nat → Nat} {ad L : Nat → Nat → Nat → Nat} {C : Nat → Nat → Nat → Nat → Int32} {fr : Nat → Option Cell} {H : Heap} {g nl nt ng : Nat} (h : k_W X n ad L C fr H) (hd : kDk n g nl nt ng) {i cnt : Nat} (hi : i < 3) (hc : n g (4 + i) = cnt) (h0 : 0 < cnt) : cnt ≤ L g 2 i ∧ L g 2 i ≤ 40000 ∧ 10 ≤ L g 2 i := by
  subst hc
  exact h.cap.1 g i ⟨by rw [hd.2.1]; exact hi, h0, by rw [hd.no]; omega⟩
theorem k_fA {f : Nat → Nat} {cnt o : Nat} (j : Nat) : va_up (fun j => if j < cnt then some (f j) else none) cnt (some o) j = if j < cnt + 1 then some (if j = cnt then o else f j) else none := by
  unfold va_up
  by_cases h : j = cnt
  · subst h; simp
  · by_cases h1 : j < cnt
    · simp [h, h1, Nat.lt_succ_of_lt h1]
    · simp [h, h1, show ¬ j < cnt + 1 by omega]
theorem k_fB {f : Nat → Nat} {o : Nat} (j : Nat) : va_up (fun _ => none) 0 (some o) j = if j < 0 + 1 then some (if j = 0 then o else f j) else none := by
  unfold va_up
  by_cases h : j = 0
  · subst h; simp
  · simp [h]
theorem k_fC {f : Nat → Nat} {cnt o : Nat} (j : Nat) : va_up (va_cpy (fun j => if j < cnt then some (f j) else none) (fun _ => none) 0 0 cnt) cnt (some o) j = if j < cnt + 1 then some (if j = cnt then o else f j) else none := by
  unfold va_up va_cpy
  by_cases h : j = cnt
  · subst h; simp
  · by_cases h1 : j < cnt
    · simp [h, h1, Nat.lt_succ_of_lt h1]
    · simp [h, h1, show ¬ j < cnt + 1 by omega]
theorem k_el {X : kX} {n ad' L'} {ad : Nat → Nat → Nat → Nat} {g nl b o sb : Nat} {br pl ra : Int32} (he : ad' = k_a2 ad g 0 4 7 nl b o sb) : k_e X n ad' L' g 4 nl (k_fl nl br pl ra) = .inr (9, [.int (nI nl), .int br, .int pl, .int ra, .int (-1), .int 101, .int 0, .int 0, .int 0, .int 0, .int 0, .int 0, .int (-2), .int (-1), .ref sb]) := by
  subst he
  show (Sum.inr (9, [.int (nI nl), .int br, .int pl, .int ra, .int (-1), .int 101, .int 0, .int 0, .int 0, .int 0, .int 0, .int 0, .int (-2), .int (-1), .ref (k_a2 ad g 0 4 7 nl b o sb g 7 nl)]) : va_E) = _
  rw [k_a2_sr (by decide)]
theorem k_et {X : kX} {n ad' L'} {ad : Nat → Nat → Nat → Nat} {g nt b o sb : Nat} {x y un : Int32} (he : ad' = k_a2 ad g 1 5 8 nt b o sb) : k_e X n ad' L' g 5 nt (k_ft x y un) = .inr (11, [.ref (ad g 4 x.toNatClampNeg), .ref (ad g 4 y.toNatClampNeg), .int un, .int 0, .int 0, .int 0, .ref sb]) := by
  subst he
  show (Sum.inr (11, [.ref (k_a2 ad g 1 5 8 nt b o sb g 4 x.toNatClampNeg), .ref (k_a2 ad g 1 5 8 nt b o sb g 4 y.toNatClampNeg), .int un, .int 0, .int 0, .int 0, .ref (k_a2 ad g 1 5 8 nt b o sb g 8 nt)]) : va_E) = _
  rw [k_a2_sr (by decide), k_a2_r (by decide), k_a2_r (by decide)]
theorem k_eg {X : kX} {n ad' L'} {g i : Nat} {sp fo tu : Int32} : k_e X n ad' L' g 6 i (k_fg sp fo tu) = .inr (8, [.int sp, .int fo, .int tu, .int (-1)]) := rfl
theorem k_ev {X : kX} {n : Nat → Nat → Nat} {ad L : Nat → Nat → Nat → Nat} {C : Nat → Nat → Nat → Nat → Int32} {fr : Nat → Option Cell} {H : Heap} {g : Nat} {D : KD} (h : k_W X n ad L (k_g C g D) fr H) : k_W X n ad L (k_g (k_g C g D) 5 (k_g C g D 5)) fr H := k_self h 5
theorem k_evv {C : Nat → Nat → Nat → Nat → Int32} {g : Nat} {D : KD} (hg : 5 ≠ g) (e k : Nat) : k_g C g D 5 19 e k = C 5 19 e k := by rw [k_g_ne _ _ hg]
theorem kDk.n2l {n : Nat → Nat → Nat} {g nl nt ng : Nat} (h : kDk n g nl nt ng) (h8 : nl < 8) : kDk (k_n2 n g 4) g (nl + 1) nt ng := by
  obtain ⟨h0, h1, h3, h4, h5, h6, h7, h9, h10, h2⟩ := h
  refine ⟨?_, ?_, ?_, ?_, ?_, ?_, by omega, h9, h10, ?_⟩
  all_goals first | (rw [k_n2_s, h4]) | (rw [k_n2_r (by decide)]; assumption)
theorem kDk.n2t {n : Nat → Nat → Nat} {g nl nt ng : Nat} (h : kDk n g nl nt ng) (h8 : nt < 16) : kDk (k_n2 n g 5) g nl (nt + 1) ng := by
  obtain ⟨h0, h1, h3, h4, h5, h6, h7, h9, h10, h2⟩ := h
  refine ⟨?_, ?_, ?_, ?_, ?_, ?_, h7, by omega, h10, ?_⟩
  all_goals first | (rw [k_n2_s, h5]) | (rw [k_n2_r (by decide)]; assumption)
theorem kDk.n2g {n : Nat → Nat → Nat} {g nl nt ng : Nat} (h : kDk n g nl nt ng) (h8 : ng < 4) : kDk (k_n2 n g 6) g nl nt (ng + 1) := by
  obtain ⟨h0, h1, h3, h4, h5, h6, h7, h9, h10, h2⟩ := h
  refine ⟨?_, ?_, ?_, ?_, ?_, ?_, h7, h9, by omega, ?_⟩
  all_goals first | (rw [k_n2_s, h6]) | (rw [k_n2_r (by decide)]; assumption)
theorem k_vin_mono {x : Int32} {a b : Nat} (h : vp_in x a) (hab : a ≤ b) : vp_in x b := fun q => h (q.imp id (fun z => Nat.le_trans hab z))
def s_X0_takeOnLorry (D : KD) (nl : Nat) (a b c : Int32) : KD := k_D2 D 0 4 7 nl (k_fl nl (if a = 1 then 1 else 0) b c) (fun _ => 0)
def s_X0_takeOnTransfer (D : KD) (nt : Nat) (a b c : Int32) : KD := k_D2 D 1 5 8 nt (k_ft a b c) (fun _ => 0)
def s_X0_takeOnGang (D : KD) (ng : Nat) (a b c : Int32) : KD := k_D2 D 2 6 9 ng (k_fg a b c) (fun _ => 0)
theorem cWF_takeOnLorry {D : KD} {nl nt : Nat} (h : cWF D nl nt) (a b c : Int32) : cWF (s_X0_takeOnLorry D nl a b c) (nl + 1) nt := by
  unfold s_X0_takeOnLorry
  refine ⟨fun t ht => ?_, fun d => ?_⟩
  · rw [k_D2_o (by omega)]
    exact ⟨k_vin_mono (h.1 t ht).1 (by omega), k_vin_mono (h.1 t ht).2 (by omega)⟩
  · rw [k_D2_o (by omega)]
    exact (h.2 d).imp id (fun z => k_vin_mono z (by omega))
theorem cWF_takeOnTransfer {D : KD} {nl nt : Nat} (h : cWF D nl nt) {a b : Int32} (ha : vp_in a nl) (hb : vp_in b nl) (c : Int32) : cWF (s_X0_takeOnTransfer D nt a b c) nl (nt + 1) := by
  unfold s_X0_takeOnTransfer
  refine ⟨fun t ht => ?_, fun d => ?_⟩
  · by_cases hq : t = nt
    · subst hq
      rw [k_D2_ro (by decide)]
      exact ⟨ha, hb⟩
    · rw [k_D2_o (by omega)]
      exact h.1 t (by omega)
  · rw [k_D2_o (by omega)]
    exact h.2 d
theorem cWF_takeOnGang {D : KD} {nl nt : Nat} (h : cWF D nl nt) (ng : Nat) (a b c : Int32) : cWF (s_X0_takeOnGang D ng a b c) nl nt := by
  unfold s_X0_takeOnGang
  refine ⟨fun t ht => ?_, fun d => ?_⟩
  · rw [k_D2_o (by omega)]
    exact h.1 t ht
  · rw [k_D2_o (by omega)]
    exact h.2 d
