def f_X7_passes_2 (D : KD) (nl : Nat) (nt : Nat) (ng : Nat) (k2 : Nat) (z2 : KD) : KD := (if (z2 15 23 k2) = (-1) then (if (s_X7_queued z2 nl nt ng (nI k2) 0) = (-1) then (k_d z2 15 23 k2 (s_X7_queued z2 nl nt ng (nI k2) 0)) else (k_d (k_d z2 15 23 k2 (s_X7_queued z2 nl nt ng (nI k2) 0)) 15 11 (((s_X7_queued z2 nl nt ng (nI k2) 0)).toNatClampNeg) 100)) else z2)
def l_X7_passes_2 (D : KD) (nl : Nat) (nt : Nat) (ng : Nat) : KD := it (f_X7_passes_2 D nl nt ng) 4 D
def f_X7_passes_55 (D : KD) (nl : Nat) (nt : Nat) (ng : Nat) (k55 : Nat) (z55 : KD) : KD := (k_d z55 15 1 k55 0)
def l_X7_passes_55 (D : KD) (nl : Nat) (nt : Nat) (ng : Nat) : KD := it (f_X7_passes_55 D nl nt ng) nl (l_X7_passes_2 D nl nt ng)
def f_X7_passes_78 (D : KD) (nl : Nat) (nt : Nat) (ng : Nat) (k78 : Nat) (z78 : KD) : KD := (if (z78 15 23 k78) = (-1) then (k_d z78 15 25 k78 (z78 15 23 k78)) else (if (z78 15 0 ((z78 15 23 k78).toNatClampNeg)) = 0 then (s_X7_load (k_d z78 15 25 k78 (z78 15 23 k78)) nl nt ng (z78 15 23 k78) (s_X7_powerOf (k_d z78 15 25 k78 (z78 15 23 k78)) nl nt ng (nI k78))) else (s_X7_unload (k_d z78 15 25 k78 (z78 15 23 k78)) nl nt ng (z78 15 23 k78) (s_X7_powerOf (k_d z78 15 25 k78 (z78 15 23 k78)) nl nt ng (nI k78)))))
def l_X7_passes_78 (D : KD) (nl : Nat) (nt : Nat) (ng : Nat) : KD := it (f_X7_passes_78 D nl nt ng) 4 (l_X7_passes_55 D nl nt ng)
def f_X7_passes_165 (D : KD) (nl : Nat) (nt : Nat) (ng : Nat) (k165 : Nat) (z165 : KD × Int32) : KD × Int32 := (if (z165.1 15 11 k165) = 100 then (if (s_X7_missing z165.1 nl nt ng (nI k165)) ≤ 0 then ((s_X7_leaves z165.1 nl nt ng (nI k165) ((z165.1 14 0 4) + 1)), (z165.2 + 1)) else (z165.1, z165.2)) else (z165.1, z165.2))
def l_X7_passes_165 (D : KD) (nl : Nat) (nt : Nat) (ng : Nat) : KD × Int32 := it (f_X7_passes_165 D nl nt ng) nl ((l_X7_passes_78 D nl nt ng), 0)
def j_X7_passes_284 (D : KD) (nl : Nat) (nt : Nat) (ng : Nat) (k217 : Nat) (z217 : KD) : Int32 := (if (z217 15 11 k217) = 121 then (z217 15 25 ((z217 15 4 k217).toNatClampNeg)) else (nI k217))
def f_X7_passes_217 (D : KD) (nl : Nat) (nt : Nat) (ng : Nat) (k217 : Nat) (z217 : KD) : KD := (if (z217 15 11 k217) = 121 then (if (z217 15 1 k217) = 0 then (s_X7_waits z217 nl nt ng (nI k217) (j_X7_passes_284 D nl nt ng k217 z217)) else z217) else (if (z217 15 11 k217) = 100 then (if (z217 15 1 k217) = 0 then (s_X7_waits z217 nl nt ng (nI k217) (j_X7_passes_284 D nl nt ng k217 z217)) else z217) else z217))
def l_X7_passes_217 (D : KD) (nl : Nat) (nt : Nat) (ng : Nat) : KD := it (f_X7_passes_217 D nl nt ng) nl ((l_X7_passes_165 D nl nt ng).1)
def f_X7_passes_322 (D : KD) (nl : Nat) (nt : Nat) (ng : Nat) (k295 : Nat) (z295 : KD) (k322 : Nat) (z322 : KD) : KD := (k_d z322 15 18 ((4 * k295) + k322) (z322 15 18 (((4 * k295) + k322) + 1)))
def l_X7_passes_322 (D : KD) (nl : Nat) (nt : Nat) (ng : Nat) (k295 : Nat) (z295 : KD) : KD := it (f_X7_passes_322 D nl nt ng k295 z295) 3 (k_d z295 15 16 k295 ((z295 15 16 k295) + (z295 15 18 (4 * k295))))
def f_X7_passes_295 (D : KD) (nl : Nat) (nt : Nat) (ng : Nat) (k295 : Nat) (z295 : KD) : KD := (k_d (l_X7_passes_322 D nl nt ng k295 z295) 15 18 ((4 * k295) + 3) 0)
def l_X7_passes_295 (D : KD) (nl : Nat) (nt : Nat) (ng : Nat) : KD := it (f_X7_passes_295 D nl nt ng) nt (l_X7_passes_217 D nl nt ng)
def s_X7_passes (D : KD) (nl : Nat) (nt : Nat) (ng : Nat) : KD × Int32 := (k_d (l_X7_passes_295 D nl nt ng) 14 0 4 (((l_X7_passes_295 D nl nt ng) 14 0 4) + 1), (l_X7_passes_165 D nl nt ng).2)
theorem k_low (f : Nat → Int) : ∀ n, 0 < n → ∃ i, i < n ∧ (∀ j, j < n → f i ≤ f j) ∧ ∀ j, j < i → f i < f j := by
  intro n
  induction n with
  | zero => intro h; exact absurd h (by decide)
  | succ n ih =>
    intro _
    rcases Nat.eq_zero_or_pos n with h0 | h0
    · subst h0
      exact ⟨0, by decide, fun j hj => by rw [show j = 0 by omega]; omega, fun j hj => absurd hj (by omega)⟩
    · obtain ⟨i, h1, h2, h3⟩ := ih h0
      by_cases q : f n < f i
      · refine ⟨n, by omega, fun j hj => ?_, fun j hj => ?_⟩
        · rcases Nat.lt_or_ge j n with w | w
          · have := h2 j w; omega
          · rw [show j = n by omega]; omega
        · have := h2 j hj; omega
      · refine ⟨i, by omega, fun j hj => ?_, h3⟩
        rcases Nat.lt_or_ge j n with w | w
        · exact h2 j w
        · rw [show j = n by omega]; omega
theorem mQ_n {D : KD} {nl nt ng : Nat} {d pl : Int32} (h8 : nl ≤ 8) : ∀ f k, f + k = nl → r_X7_queued_2 D nl nt ng d pl f k = -1 → ∀ l, k ≤ l → l < nl → D 15 11 l = 121 → D 15 4 l = d → it (f_X7_queued_40 D nl nt ng d pl l) nl 0 ≠ pl := by
  intro f
  induction f with
  | zero => intro k hk _ l h1 h2; omega
  | succ f ih =>
    intro k hk h l h1 h2 h3 h4
    rw [r_X7_queued_2_s] at h
    rcases Nat.lt_or_ge k l with q | q
    · refine ih (k + 1) (by omega) ?_ l (by omega) h2 h3 h4
      split at h
      · split at h
        · split at h
          · have : vp_in (nI k) 8 := vp_in_nI (by omega) (by decide)
            rw [h] at this
            exact absurd this (fun z => z (Or.inl (by decide)))
          · exact h
        · exact h
      · exact h
    · have e : l = k := by omega
      subst e
      rw [if_pos h3, if_pos h4] at h
      intro hc
      rw [if_pos (show l_X7_queued_40 D nl nt ng d pl l = pl from hc)] at h
      have : vp_in (nI l) 8 := vp_in_nI (by omega) (by decide)
      rw [h] at this
      exact this (Or.inl (by decide))
theorem mQ_ex {D : KD} {nl nt ng : Nat} (h8 : nl ≤ 8) {d : Int32} {l : Nat} (hl : l < nl) (hs : D 15 11 l = 121) (hd : D 15 4 l = d) : s_X7_queued D nl nt ng d 0 ≠ -1 := by
  intro hq
  have hn := mQ_n (D := D) (nl := nl) (nt := nt) (ng := ng) (d := d) (pl := 0) h8 (nl - 0) 0 (by omega) hq
  obtain ⟨i, h1, h2, h3⟩ := k_low (fun k => if D 15 11 k = 121 ∧ D 15 4 k = d then (D 15 5 k).toInt else 4294967296) nl (by omega)
  have hr : ∀ x : Int32, x.toInt < 4294967296 := fun x => by have := x.toInt_lt; omega
  have hi : D 15 11 i = 121 ∧ D 15 4 i = d := by
    by_cases q : D 15 11 i = 121 ∧ D 15 4 i = d
    · exact q
    · have := h2 l hl
      simp only [if_neg q, if_pos (show D 15 11 l = 121 ∧ D 15 4 l = d from ⟨hs, hd⟩)] at this
      have := hr (D 15 5 l)
      omega
  refine hn i (by omega) h1 hi.1 hi.2 ?_
  refine it_ind (P := fun z : Int32 => z = 0) rfl ?_
  intro k hk z hz
  have hj : j_X7_queued_95 D nl nt ng d 0 i k z = 0 := by
    unfold j_X7_queued_95
    split
    · next a1 =>
      split
      · next a2 =>
        split
        · rfl
        · split
          · rfl
          · next a4 =>
            exfalso
            have h2k := h2 k hk
            simp only [if_pos hi, if_pos (show D 15 11 k = 121 ∧ D 15 4 k = d from ⟨a1, a2⟩)] at h2k
            have ek : (nI k).toNatClampNeg = k := nI_clamp (by omega)
            have ei : (nI i).toNatClampNeg = i := nI_clamp (by omega)
            unfold s_X7_isBefore at a4
            rw [ek, ei] at a4
            split at a4
            · next b1 =>
              have := Int32.lt_iff_toInt_lt.mp b1
              omega
            · split at a4
              · next b2 =>
                split at a4
                · exact a4 rfl
                · next b3 =>
                  have hlt : k < i := by
                    have := mt (nI_leI (a := i) (b := k) (by omega) (by omega)).mpr b3
                    omega
                  have := h3 k hlt
                  simp only [if_pos hi, if_pos (show D 15 11 k = 121 ∧ D 15 4 k = d from ⟨a1, a2⟩), b2] at this
                  omega
              · exact a4 rfl
      · rfl
    · rfl
  unfold f_X7_queued_40
  rw [hj, hz]
  rfl
theorem nI_nm1 {l : Nat} (h : l < 2 ^ 31) : nI l ≠ -1 := fun q => by
  have := nI_pos h
  rw [q] at this
  exact this (by decide)
/-- what the first loop leaves: every lorry in the yard has one at its door -/
def mFl (z : KD) (nl k : Nat) : Prop := ∀ l, l < nl → z 15 11 l = 121 → ∀ d, d < k → z 15 4 l = nI d → z 15 23 d ≠ -1
theorem mP_2 {D : KD} {nl nt ng : Nat} (h : mWF D nl nt ng) : mWF (l_X7_passes_2 D nl nt ng) nl nt ng ∧ mFl (l_X7_passes_2 D nl nt ng) nl 4 := by
  have h8 := h.l8
  unfold l_X7_passes_2
  refine it_indk (P := fun k z => mWF z nl nt ng ∧ mFl z nl k) ⟨h, fun l _ _ d hd => absurd hd (by omega)⟩ ?_
  intro k hk z ⟨hz, hf⟩
  unfold f_X7_passes_2
  split
  · next h0 =>
    split
    · next h1 =>
      have e : k_d z 15 23 k (s_X7_queued z nl nt ng (nI k) 0) = z := by
        funext r i m
        unfold k_d
        split
        · next q => rw [h1, q.1, q.2.1, q.2.2, h0]
        · rfl
      rw [e]
      refine ⟨hz, fun l hl hs d hd hr => ?_⟩
      rcases Nat.lt_or_ge d k with q | q
      · exact hf l hl hs d q hr
      · have : d = k := by omega
        subst this
        exact absurd h1 (mQ_ex h8 hl hs hr)
    · next h1 =>
      obtain ⟨l9, hl9, el9, hs9, hr9, -⟩ := mQ_some h1
      rw [el9, nI_clamp (by omega)]
      refine ⟨hz.fill1 hk h0 hl9 hs9 hr9, fun l hl hs d hd hr => ?_⟩
      have a4 : k_d (k_d z 15 23 k (nI l9)) 15 11 l9 100 15 4 = z 15 4 := k_keep _ _ _ _ _ (by decide) (k_keep _ _ _ _ _ (by decide) rfl)
      have a23 : k_d (k_d z 15 23 k (nI l9)) 15 11 l9 100 15 23 = k_d z 15 23 k (nI l9) 15 23 := k_keep _ _ _ _ _ (by decide) rfl
      rw [a4] at hr
      rw [a23]
      have hne : l ≠ l9 := by
        intro q
        subst q
        rw [k_d_at] at hs
        exact absurd hs (by decide)
      rw [k_d_ne _ _ hne, k_keep _ _ _ _ _ (i2 := 11) (by decide) rfl] at hs
      by_cases q : d = k
      · subst q
        rw [k_d_at]
        exact nI_nm1 (by omega)
      · rw [k_d_ne _ _ q]
        exact hf l hl hs d (by omega) hr
  · next h0 =>
    refine ⟨hz, fun l hl hs d hd hr => ?_⟩
    rcases Nat.lt_or_ge d k with q | q
    · exact hf l hl hs d q hr
    · have : d = k := by omega
      subst this
      exact h0
def mRows (D D2 : KD) : Prop := D 15 4 = D2 15 4 ∧ D 15 11 = D2 15 11 ∧ D 15 23 = D2 15 23
theorem mP_55 {D : KD} {nl nt ng : Nat} (h : mWF D nl nt ng) : mWF (l_X7_passes_55 D nl nt ng) nl nt ng ∧ mRows (l_X7_passes_55 D nl nt ng) (l_X7_passes_2 D nl nt ng) := by
  unfold l_X7_passes_55
  refine it_ind (P := fun z => mWF z nl nt ng ∧ mRows z (l_X7_passes_2 D nl nt ng)) ⟨(mP_2 h).1, rfl, rfl, rfl⟩ ?_
  intro k _ z ⟨hz, a, b, c⟩
  exact ⟨hz.put15 (by decide), k_keep _ _ _ _ _ (by decide) a, k_keep _ _ _ _ _ (by decide) b, k_keep _ _ _ _ _ (by decide) c⟩
theorem mP_78 {D : KD} {nl nt ng : Nat} (h : mWF D nl nt ng) : mWF (l_X7_passes_78 D nl nt ng) nl nt ng ∧ mRows (l_X7_passes_78 D nl nt ng) (l_X7_passes_55 D nl nt ng) ∧ ∀ d, d < 4 → l_X7_passes_78 D nl nt ng 15 25 d = l_X7_passes_55 D nl nt ng 15 23 d := by
  obtain ⟨h1, h2⟩ := mP_55 h
  generalize hE : l_X7_passes_55 D nl nt ng = E at h1 h2
  unfold l_X7_passes_78
  rw [hE]
  refine it_indk (P := fun k z => mWF z nl nt ng ∧ mRows z E ∧ ∀ d, d < k → z 15 25 d = E 15 23 d) ⟨h1, ⟨rfl, rfl, rfl⟩, fun d hd => absurd hd (by omega)⟩ ?_
  intro k _ z ⟨hz, ⟨a, b, c⟩, hp⟩
  have hz1 : mWF (k_d z 15 25 k (z 15 23 k)) nl nt ng := hz.put15 (by decide)
  have a1 : k_d z 15 25 k (z 15 23 k) 15 4 = E 15 4 := k_keep _ _ _ _ _ (by decide) a
  have b1 : k_d z 15 25 k (z 15 23 k) 15 11 = E 15 11 := k_keep _ _ _ _ _ (by decide) b
  have c1 : k_d z 15 25 k (z 15 23 k) 15 23 = E 15 23 := k_keep _ _ _ _ _ (by decide) c
  have p1 : ∀ d, d < k + 1 → k_d z 15 25 k (z 15 23 k) 15 25 d = E 15 23 d := by
    intro d hd
    by_cases q : d = k
    · subst q
      rw [k_d_at, c]
    · rw [k_d_ne _ _ q]
      exact hp d (by omega)
  unfold f_X7_passes_78
  split
  · exact ⟨hz1, ⟨a1, b1, c1⟩, p1⟩
  · split
    · refine ⟨mWF_load hz1 _ _, ⟨?_, ?_, ?_⟩, ?_⟩
      · rw [m1_load (by decide)]; exact a1
      · rw [m1_load (by decide)]; exact b1
      · rw [m1_load (by decide)]; exact c1
      · intro d hd; rw [m1_load (by decide)]; exact p1 d hd
    · refine ⟨mWF_unload hz1 _ _, ⟨?_, ?_, ?_⟩, ?_⟩
      · rw [m1_unload (by decide)]; exact a1
      · rw [m1_unload (by decide)]; exact b1
      · rw [m1_unload (by decide)]; exact c1
      · intro d hd; rw [m1_unload (by decide)]; exact p1 d hd
/-- behind every lorry in the yard stands one that plan names -/
def mPL (D : KD) (nl : Nat) : Prop := ∀ l, l < nl → D 15 11 l = 121 → vp_in (D 15 25 (D 15 4 l).toNatClampNeg) nl
theorem mPL_78 {D : KD} {nl nt ng : Nat} (h : mWF D nl nt ng) : mPL (l_X7_passes_78 D nl nt ng) nl := by
  obtain ⟨h1, ⟨a, b, c⟩, hp⟩ := mP_78 h
  obtain ⟨h2, a2, b2, c2⟩ := mP_55 h
  have hf := (mP_2 h).2
  intro l hl hs
  have hdr := h1.sdr hl (Or.inl hs)
  obtain ⟨d, hd, ed⟩ := vp_in_of hdr (by decide)
  have hn : l_X7_passes_78 D nl nt ng 15 23 d ≠ -1 := by
    rw [c, c2]
    refine hf l hl ?_ d hd ?_
    · rw [← b2, ← b]; exact hs
    · rw [← a2, ← a]; exact ed
  rw [ed, nI_clamp (by omega), hp d hd, ← c]
  exact (h1.ind hd hn).1
theorem m1_leaves {D : KD} {nl nt ng : Nat} {l0 mi : Int32} {j : Nat} (hj : j ≠ 23 ∧ j ≠ 11 ∧ j ≠ 8) : s_X7_leaves D nl nt ng l0 mi 15 j = D 15 j := by
  unfold s_X7_leaves
  split
  · exact k_keep _ _ _ _ _ (fun q => hj.2.2 q.2) (k_keep _ _ _ _ _ (fun q => hj.2.1 q.2) (k_keep _ _ _ _ _ (fun q => hj.1 q.2) rfl))
  · exact k_keep _ _ _ _ _ (fun q => hj.2.2 q.2) (k_keep _ _ _ _ _ (fun q => hj.2.1 q.2) rfl)
theorem m1_leaves11 {D : KD} {nl nt ng : Nat} {l0 mi : Int32} (m : Nat) : s_X7_leaves D nl nt ng l0 mi 15 11 m = if m = l0.toNatClampNeg then 108 else D 15 11 m := by
  have key : ∀ E : KD, E 15 11 = D 15 11 → k_d (k_d E 15 11 l0.toNatClampNeg 108) 15 8 l0.toNatClampNeg mi 15 11 m = if m = l0.toNatClampNeg then 108 else D 15 11 m := by
    intro E hE
    rw [k_keep _ _ _ _ _ (i2 := 11) (by decide) rfl]
    by_cases q : m = l0.toNatClampNeg
    · rw [if_pos q, q, k_d_at]
    · rw [if_neg q, k_d_ne _ _ q, hE]
  unfold s_X7_leaves
  split
  · exact key _ (k_keep _ _ _ _ _ (by decide) rfl)
  · exact key _ rfl
theorem mP_165' {D : KD} {nl nt ng : Nat} (h : mWF D nl nt ng) : mWF (l_X7_passes_165 D nl nt ng).1 nl nt ng ∧ mPL (l_X7_passes_165 D nl nt ng).1 nl := by
  unfold l_X7_passes_165
  refine it_ind (P := fun z : KD × Int32 => mWF z.1 nl nt ng ∧ mPL z.1 nl) ⟨(mP_78 h).1, mPL_78 h⟩ ?_
  intro k hk z ⟨hz, hp⟩
  unfold f_X7_passes_165
  split
  · next hs =>
    split
    · refine ⟨mWF_leaves hz hk hs _, ?_⟩
      intro l hl hs2
      replace hs2 : s_X7_leaves z.1 nl nt ng (nI k) (z.1 14 0 4 + 1) 15 11 l = 121 := hs2
      rw [m1_leaves11] at hs2
      show vp_in (s_X7_leaves z.1 nl nt ng (nI k) (z.1 14 0 4 + 1) 15 25 (s_X7_leaves z.1 nl nt ng (nI k) (z.1 14 0 4 + 1) 15 4 l).toNatClampNeg) nl
      rw [m1_leaves (by decide), m1_leaves (by decide)]
      split at hs2
      · exact absurd hs2 (by decide)
      · exact hp l hl hs2
    · exact ⟨hz, hp⟩
  · exact ⟨hz, hp⟩
theorem mP_165 {D : KD} {nl nt ng : Nat} (h : mWF D nl nt ng) : mPL (l_X7_passes_165 D nl nt ng).1 nl := (mP_165' h).2
theorem mPL_waits {D : KD} {nl nt ng : Nat} {l0 ah : Int32} (h : mPL D nl) : mPL (s_X7_waits D nl nt ng l0 ah) nl := by
  unfold mPL
  rw [m1_waits (by decide), m1_waits (by decide), m1_waits (by decide)]
  exact h
theorem mP_217 {D : KD} {nl nt ng : Nat} (h : mWF D nl nt ng) : mWF (l_X7_passes_217 D nl nt ng) nl nt ng := by
  unfold l_X7_passes_217
  refine it_ind (P := fun z => mWF z nl nt ng) (mP_165' h).1 ?_
  intro k hk z hz
  unfold f_X7_passes_217
  repeat' split
  all_goals first | exact hz | exact mWF_waits hz _ _
theorem mP_295 {D : KD} {nl nt ng : Nat} (h : mWF D nl nt ng) : mWF (l_X7_passes_295 D nl nt ng) nl nt ng := by
  unfold l_X7_passes_295
  refine it_ind (P := fun z => mWF z nl nt ng) (mP_217 h) ?_
  intro k hk z hz
  unfold f_X7_passes_295
  refine mWF.put15 ?_ (by decide)
  unfold l_X7_passes_322
  refine it_ind (P := fun z => mWF z nl nt ng) (hz.put15 (by decide)) ?_
  intro j _ y hy
  exact hy.put15 (by decide)
theorem mWF_passes {D : KD} {nl nt ng : Nat} (h : mWF D nl nt ng) : mWF (s_X7_passes D nl nt ng).1 nl nt ng := (mP_295 h).put14 (by decide)

set_option maxHeartbeats 4000000 in
set_option maxRecDepth 100000 in
theorem c_X7_passes (X : kX) (l : Launch) {n : Nat → Nat → Nat} {ad L : Nat → Nat → Nat → Nat} {C : Nat → Nat → Nat → Nat → Int32} {fr : Nat → Option Cell} {g : Nat} (hm : k_mod n g) (D : KD)  {nl nt ng : Nat} (hwf : mWF D nl nt ng) : k_M X l yX7_passes wsX7_passes ({ frames := 6, cells := 0, slots := 0, locals := 125 }) [.ref (ad g 14 0)] (k_W X n ad L (k_g C g D) fr) (fun v H => v = some (.int ((s_X7_passes D nl nt ng).2)) ∧ k_W X n ad L (k_g C g ((s_X7_passes D nl nt ng).1)) fr H) 0 0 := by
  refine k_M.of (cc := cX7_passes) (maxL := 4) (ret := (some .int)) (by decide) rfl (Nat.le_of_ble_eq_true rfl) ?_
  intro p e s m args below meth c ls hx hb hr hml hown hts hlocks hnm hK hW hl
  have hL : ∀ q ∈ ([] : List Loc), k_B X ≤ q.base := fun _ h => nomatch h
  have hl : lv_has ls 4 [(0, .ref (ad g 14 0))] := hl
  have fX7 : ∀ w ∈ u_ws RX7 TX7 34, w.before args s = true := fun w h => hts w ((by decide +kernel : ∀ w ∈ u_ws RX7 TX7 34, w ∈ wsX7_passes) w h)
  have hl8 := hwf.l8
  have ht16 := hwf.t16
  have hg4 := hwf.g4
  refine lv_iconst (v := 0) hx hb dX7_passes_0 (by decide) ?_
  refine lv_istore_n (lv' := [(1, .int 0), (0, .ref (ad g 14 0))]) hx hb dX7_passes_1 rfl hl (by decide) rfl (fun ls hl => ?_)
  refine k_for (4) (fun k2 H locs ls => ∃ z2 : KD, z2 = it (f_X7_passes_2 D nl nt ng) k2 D ∧ k_W X n ad L (k_g C g z2) fr H ∧ (∀ q ∈ locs, k_B X ≤ q.base) ∧ lv_has ls 4 [(1, .int (nI k2)), (0, .ref (ad g 14 0))] ∧ mWF z2 nl nt ng) 0 ⟨D, rfl, hW, hL, lv_sub hl [0, 1] rfl, hwf⟩ (Nat.zero_le _) (fun k2 hk2 ih2 H locs ls hI => ?_)
  obtain ⟨z2, hz2, hW, hL, hl, hE2⟩ := hI
  refine lv_iload_n hx hb dX7_passes_2 rfl (lv_at hl 0 rfl) ?_
  refine lv_iconst (v := 4) hx hb dX7_passes_3 (by decide) ?_
  refine lv_icmp_ge (tgt := 53) hx hb dX7_passes_4 (by decide) (fun c1 => ?_) (fun c1 => ?_)
  ·
    rw [show (4 : Int32) = nI 4 from rfl] at c1
    have hge2 := k_nI_ge (by omega) (by omega) c1
    obtain rfl : 4 = k2 := by omega
    replace hz2 : z2 = (l_X7_passes_2 D nl nt ng) := hz2
    subst hz2
    have hl : lv_has ls 4 [(1, .int (nI 4)), (0, .ref (ad g 14 0))] := hl
    refine lv_iconst (v := 0) hx hb dX7_passes_53 (by decide) ?_
    refine lv_istore_n (lv' := [(1, .int 0), (0, .ref (ad g 14 0))]) hx hb dX7_passes_54 rfl hl (by decide) rfl (fun ls hl => ?_)
    refine k_for (nl) (fun k55 H locs ls => ∃ z55 : KD, z55 = it (f_X7_passes_55 D nl nt ng) k55 (l_X7_passes_2 D nl nt ng) ∧ k_W X n ad L (k_g C g z55) fr H ∧ (∀ q ∈ locs, k_B X ≤ q.base) ∧ lv_has ls 4 [(1, .int (nI k55)), (0, .ref (ad g 14 0))] ∧ mWF z55 nl nt ng) 0 ⟨(l_X7_passes_2 D nl nt ng), rfl, hW, hL, lv_sub hl [0, 1] rfl, hE2⟩ (Nat.zero_le _) (fun k55 hk55 ih55 H locs ls hI => ?_)
    obtain ⟨z55, hz55, hW, hL, hl, hE55⟩ := hI
    refine lv_iload_n hx hb dX7_passes_55 rfl (lv_at hl 0 rfl) ?_
    refine lv_aload_n hx hb dX7_passes_56 rfl (lv_at hl 1 rfl) ?_
    refine k_get (K := RX7) (T := TX7) (N := 34) (v := .int (z55 14 0 1)) (w := .int (z55 14 0 1)) hx hb fX7 hown hK hW 14 0 hm.o (fun _ => rfl) rfl 1 (by decide) (hts (.fieldLink RX7 97 "CrossdockeryModel" "lorries" "I") (by decide +kernel)) rfl rfl rfl dX7_passes_57 ?_
    refine lv_icmp_ge (tgt := 76) hx hb dX7_passes_60 (by decide) (fun c4 => ?_) (fun c4 => ?_)
    ·
      rw [hE55.l] at c4
      have hge55 := k_nI_ge (by omega) (by omega) c4
      obtain rfl : nl = k55 := by omega
      replace hz55 : z55 = (l_X7_passes_55 D nl nt ng) := hz55
      subst hz55
      have hl : lv_has ls 4 [(1, .int (nI nl)), (0, .ref (ad g 14 0))] := hl
      refine lv_iconst (v := 0) hx hb dX7_passes_76 (by decide) ?_
      refine lv_istore_n (lv' := [(1, .int 0), (0, .ref (ad g 14 0))]) hx hb dX7_passes_77 rfl hl (by decide) rfl (fun ls hl => ?_)
      refine k_for (4) (fun k78 H locs ls => ∃ z78 : KD, z78 = it (f_X7_passes_78 D nl nt ng) k78 (l_X7_passes_55 D nl nt ng) ∧ k_W X n ad L (k_g C g z78) fr H ∧ (∀ q ∈ locs, k_B X ≤ q.base) ∧ lv_has ls 4 [(1, .int (nI k78)), (0, .ref (ad g 14 0))] ∧ mWF z78 nl nt ng) 0 ⟨(l_X7_passes_55 D nl nt ng), rfl, hW, hL, lv_sub hl [0, 1] rfl, hE55⟩ (Nat.zero_le _) (fun k78 hk78 ih78 H locs ls hI => ?_)
      obtain ⟨z78, hz78, hW, hL, hl, hE78⟩ := hI
      refine lv_iload_n hx hb dX7_passes_78 rfl (lv_at hl 0 rfl) ?_
      refine lv_iconst (v := 4) hx hb dX7_passes_79 (by decide) ?_
      refine lv_icmp_ge (tgt := 161) hx hb dX7_passes_80 (by decide) (fun c5 => ?_) (fun c5 => ?_)
      ·
        rw [show (4 : Int32) = nI 4 from rfl] at c5
        have hge78 := k_nI_ge (by omega) (by omega) c5
        obtain rfl : 4 = k78 := by omega
        replace hz78 : z78 = (l_X7_passes_78 D nl nt ng) := hz78
        subst hz78
        have hl : lv_has ls 4 [(1, .int (nI 4)), (0, .ref (ad g 14 0))] := hl
        refine lv_iconst (v := 0) hx hb dX7_passes_161 (by decide) ?_
        refine lv_istore_n (lv' := [(1, .int 0), (0, .ref (ad g 14 0))]) hx hb dX7_passes_162 rfl hl (by decide) rfl (fun ls hl => ?_)
        refine lv_iconst (v := 0) hx hb dX7_passes_163 (by decide) ?_
        refine lv_istore_n (lv' := [(2, .int 0), (1, .int 0), (0, .ref (ad g 14 0))]) hx hb dX7_passes_164 rfl hl (by decide) rfl (fun ls hl => ?_)
        refine k_for (nl) (fun k165 H locs ls => ∃ z165 : KD × Int32, z165 = it (f_X7_passes_165 D nl nt ng) k165 ((l_X7_passes_78 D nl nt ng), 0) ∧ k_W X n ad L (k_g C g z165.1) fr H ∧ (∀ q ∈ locs, k_B X ≤ q.base) ∧ lv_has ls 4 [(2, .int (nI k165)), (1, .int z165.2), (0, .ref (ad g 14 0))] ∧ mWF z165.1 nl nt ng) 0 ⟨((l_X7_passes_78 D nl nt ng), 0), rfl, hW, hL, lv_sub hl [0, 1, 2] rfl, hE78⟩ (Nat.zero_le _) (fun k165 hk165 ih165 H locs ls hI => ?_)
        obtain ⟨z165, hz165, hW, hL, hl, hE165⟩ := hI
        refine lv_iload_n hx hb dX7_passes_165 rfl (lv_at hl 0 rfl) ?_
        refine lv_aload_n hx hb dX7_passes_166 rfl (lv_at hl 2 rfl) ?_
        refine k_get (K := RX7) (T := TX7) (N := 34) (v := .int (z165.1 14 0 1)) (w := .int (z165.1 14 0 1)) hx hb fX7 hown hK hW 14 0 hm.o (fun _ => rfl) rfl 1 (by decide) (hts (.fieldLink RX7 97 "CrossdockeryModel" "lorries" "I") (by decide +kernel)) rfl rfl rfl dX7_passes_167 ?_
        refine lv_icmp_ge (tgt := 215) hx hb dX7_passes_170 (by decide) (fun c8 => ?_) (fun c8 => ?_)
        ·
          rw [hE165.l] at c8
          have hge165 := k_nI_ge (by omega) (by omega) c8
          obtain rfl : nl = k165 := by omega
          replace hz165 : z165 = (l_X7_passes_165 D nl nt ng) := hz165
          subst hz165
          have hl : lv_has ls 4 [(2, .int (nI nl)), (1, .int ((l_X7_passes_165 D nl nt ng).2)), (0, .ref (ad g 14 0))] := hl
          refine lv_iconst (v := 0) hx hb dX7_passes_215 (by decide) ?_
          refine lv_istore_n (lv' := [(2, .int 0), (1, .int ((l_X7_passes_165 D nl nt ng).2)), (0, .ref (ad g 14 0))]) hx hb dX7_passes_216 rfl hl (by decide) rfl (fun ls hl => ?_)
          refine k_for (nl) (fun k217 H locs ls => ∃ z217 : KD, z217 = it (f_X7_passes_217 D nl nt ng) k217 ((l_X7_passes_165 D nl nt ng).1) ∧ k_W X n ad L (k_g C g z217) fr H ∧ (∀ q ∈ locs, k_B X ≤ q.base) ∧ lv_has ls 4 [(2, .int (nI k217)), (1, .int ((l_X7_passes_165 D nl nt ng).2)), (0, .ref (ad g 14 0))] ∧ mWF z217 nl nt ng ∧ mPL z217 nl) 0 ⟨((l_X7_passes_165 D nl nt ng).1), rfl, hW, hL, lv_sub hl [0, 1, 2] rfl, hE165, (mP_165 hwf)⟩ (Nat.zero_le _) (fun k217 hk217 ih217 H locs ls hI => ?_)
          obtain ⟨z217, hz217, hW, hL, hl, hE217, hP217⟩ := hI
          refine lv_iload_n hx hb dX7_passes_217 rfl (lv_at hl 0 rfl) ?_
          refine lv_aload_n hx hb dX7_passes_218 rfl (lv_at hl 2 rfl) ?_
          refine k_get (K := RX7) (T := TX7) (N := 34) (v := .int (z217 14 0 1)) (w := .int (z217 14 0 1)) hx hb fX7 hown hK hW 14 0 hm.o (fun _ => rfl) rfl 1 (by decide) (hts (.fieldLink RX7 97 "CrossdockeryModel" "lorries" "I") (by decide +kernel)) rfl rfl rfl dX7_passes_219 ?_
          refine lv_icmp_ge (tgt := 293) hx hb dX7_passes_222 (by decide) (fun c11 => ?_) (fun c11 => ?_)
          ·
            rw [hE217.l] at c11
            have hge217 := k_nI_ge (by omega) (by omega) c11
            obtain rfl : nl = k217 := by omega
            replace hz217 : z217 = (l_X7_passes_217 D nl nt ng) := hz217
            subst hz217
            have hl : lv_has ls 4 [(2, .int (nI nl)), (1, .int ((l_X7_passes_165 D nl nt ng).2)), (0, .ref (ad g 14 0))] := hl
            refine lv_iconst (v := 0) hx hb dX7_passes_293 (by decide) ?_
            refine lv_istore_n (lv' := [(2, .int 0), (1, .int ((l_X7_passes_165 D nl nt ng).2)), (0, .ref (ad g 14 0))]) hx hb dX7_passes_294 rfl hl (by decide) rfl (fun ls hl => ?_)
            refine k_for (nt) (fun k295 H locs ls => ∃ z295 : KD, z295 = it (f_X7_passes_295 D nl nt ng) k295 (l_X7_passes_217 D nl nt ng) ∧ k_W X n ad L (k_g C g z295) fr H ∧ (∀ q ∈ locs, k_B X ≤ q.base) ∧ lv_has ls 4 [(2, .int (nI k295)), (1, .int ((l_X7_passes_165 D nl nt ng).2)), (0, .ref (ad g 14 0))] ∧ mWF z295 nl nt ng) 0 ⟨(l_X7_passes_217 D nl nt ng), rfl, hW, hL, lv_sub hl [0, 1, 2] rfl, hE217⟩ (Nat.zero_le _) (fun k295 hk295 ih295 H locs ls hI => ?_)
            obtain ⟨z295, hz295, hW, hL, hl, hE295⟩ := hI
            refine lv_iload_n hx hb dX7_passes_295 rfl (lv_at hl 0 rfl) ?_
            refine lv_aload_n hx hb dX7_passes_296 rfl (lv_at hl 2 rfl) ?_
            refine k_get (K := RX7) (T := TX7) (N := 34) (v := .int (z295 14 0 2)) (w := .int (z295 14 0 2)) hx hb fX7 hown hK hW 14 0 hm.o (fun _ => rfl) rfl 2 (by decide) (hts (.fieldLink RX7 115 "CrossdockeryModel" "transfers" "I") (by decide +kernel)) rfl rfl rfl dX7_passes_297 ?_
            refine lv_icmp_ge (tgt := 372) hx hb dX7_passes_300 (by decide) (fun c18 => ?_) (fun c18 => ?_)
            ·
              rw [hE295.t] at c18
              have hge295 := k_nI_ge (by omega) (by omega) c18
              obtain rfl : nt = k295 := by omega
              replace hz295 : z295 = (l_X7_passes_295 D nl nt ng) := hz295
              subst hz295
              have hl : lv_has ls 4 [(2, .int (nI nt)), (1, .int ((l_X7_passes_165 D nl nt ng).2)), (0, .ref (ad g 14 0))] := hl
              refine lv_aload_n hx hb dX7_passes_372 rfl (lv_at hl 2 rfl) ?_
              refine lv_dup hx hb dX7_passes_373 rfl ?_
              refine k_get (K := RX7) (T := TX7) (N := 34) (v := .int ((l_X7_passes_295 D nl nt ng) 14 0 4)) (w := .int ((l_X7_passes_295 D nl nt ng) 14 0 4)) hx hb fX7 hown hK hW 14 0 hm.o (fun _ => rfl) rfl 4 (by decide) (hts (.fieldLink RX7 121 "CrossdockeryModel" "now" "I") (by decide +kernel)) rfl rfl rfl dX7_passes_374 ?_
              refine lv_iconst (v := 1) hx hb dX7_passes_377 (by decide) ?_
              refine lv_iadd hx hb dX7_passes_378 ?_
              refine k_put (K := RX7) (T := TX7) (N := 34) (x := (((l_X7_passes_295 D nl nt ng) 14 0 4) + 1)) hx hb fX7 tyX7 tyX7_ok nmX7 hown hK hW hL 14 0 hm.o (fun _ => rfl) rfl 4 (by decide) (hts (.fieldLink RX7 121 "CrossdockeryModel" "now" "I") (by decide +kernel)) rfl rfl rfl rfl (fun _ => Nat.le_of_ble_eq_true rfl) (fun _ _ => rfl) dX7_passes_379 (fun H locs hW hL => ?_)
              refine lv_iload_n hx hb dX7_passes_382 rfl (lv_at hl 1 rfl) ?_
              have e9 : (s_X7_passes D nl nt ng) = (k_d (l_X7_passes_295 D nl nt ng) 14 0 4 (((l_X7_passes_295 D nl nt ng) 14 0 4) + 1), (l_X7_passes_165 D nl nt ng).2) := by unfold s_X7_passes; first | done | rfl
              exact k_iret hx hb hr hlocks (⟨by rw [e9], by rw [e9]; exact hW⟩) hL dX7_passes_383
            ·
              have hlt295 : k295 < nt := k_nI_nge (by omega) (by omega) (by rw [hE295.t] at c18; exact c18)
              refine lv_aload_n hx hb dX7_passes_303 rfl (lv_at hl 2 rfl) ?_
              refine k_get (K := RX7) (T := TX7) (N := 34) (v := .ref (ad g 15 16)) (w := .ref (ad g 15 16)) hx hb fX7 hown hK hW 14 0 hm.o (fun _ => rfl) rfl 23 (by decide) (hts (.fieldLink RX7 60 "CrossdockeryModel" "ready" "[I") (by decide +kernel)) rfl rfl rfl dX7_passes_304 ?_
              refine lv_iload_n hx hb dX7_passes_307 rfl (lv_at hl 0 rfl) ?_
              refine lv_dup2_11 hx hb dX7_passes_308 rfl rfl ?_
              refine k_iald (z := 16) (k := k295) hx hb hK hW 15 16 (hm.a (i := 16) (by decide)) (fun _ => rfl) (nI_clamp (by omega)) (vp_in_nI (by omega) (by decide)) (v := (z295 15 16 k295)) rfl dX7_passes_309 ?_
              refine lv_aload_n hx hb dX7_passes_310 rfl (lv_at hl 2 rfl) ?_
              refine k_get (K := RX7) (T := TX7) (N := 34) (v := .ref (ad g 15 18)) (w := .ref (ad g 15 18)) hx hb fX7 hown hK hW 14 0 hm.o (fun _ => rfl) rfl 25 (by decide) (hts (.fieldLink RX7 66 "CrossdockeryModel" "soon" "[I") (by decide +kernel)) rfl rfl rfl dX7_passes_311 ?_
              refine lv_iconst (v := 4) hx hb dX7_passes_314 (by decide) ?_
              refine lv_iload_n hx hb dX7_passes_315 rfl (lv_at hl 0 rfl) ?_
              refine lv_imul hx hb dX7_passes_316 ?_
              refine k_iald (z := 64) (k := (4 * k295)) hx hb hK hW 15 18 (hm.a (i := 18) (by decide)) (fun _ => rfl) (nI_clE (x := (4 * k295)) (nI_mulE (rfl : (4 : Int32) = nI 4) (rfl : nI k295 = nI k295)) (by omega)) (vp_in_E (x := (4 * k295)) (nI_mulE (rfl : (4 : Int32) = nI 4) (rfl : nI k295 = nI k295)) (by omega) (by decide)) (v := (z295 15 18 (4 * k295))) rfl dX7_passes_317 ?_
              refine lv_iadd hx hb dX7_passes_318 ?_
              refine k_iast (z := 16) (k := k295) hx hb hK hW hL 15 16 (hm.a (i := 16) (by decide)) (fun _ => rfl) (nI_clamp (by omega)) (vp_in_nI (by omega) (by decide)) dX7_passes_319 (fun H locs hW hL => ?_)
              refine lv_iconst (v := 0) hx hb dX7_passes_320 (by decide) ?_
              refine lv_istore_n (lv' := [(3, .int 0), (2, .int (nI k295)), (1, .int ((l_X7_passes_165 D nl nt ng).2)), (0, .ref (ad g 14 0))]) hx hb dX7_passes_321 rfl hl (by decide) rfl (fun ls hl => ?_)
              refine k_for (3) (fun k322 H locs ls => ∃ z322 : KD, z322 = it (f_X7_passes_322 D nl nt ng k295 z295) k322 (k_d z295 15 16 k295 ((z295 15 16 k295) + (z295 15 18 (4 * k295)))) ∧ k_W X n ad L (k_g C g z322) fr H ∧ (∀ q ∈ locs, k_B X ≤ q.base) ∧ lv_has ls 4 [(3, .int (nI k322)), (2, .int (nI k295)), (1, .int ((l_X7_passes_165 D nl nt ng).2)), (0, .ref (ad g 14 0))] ∧ mWF z322 nl nt ng) 0 ⟨(k_d z295 15 16 k295 ((z295 15 16 k295) + (z295 15 18 (4 * k295)))), rfl, hW, hL, lv_sub hl [0, 1, 2, 3] rfl, (hE295.put15 (by decide))⟩ (Nat.zero_le _) (fun k322 hk322 ih322 H locs ls hI => ?_)
              obtain ⟨z322, hz322, hW, hL, hl, hE322⟩ := hI
              refine lv_iload_n hx hb dX7_passes_322 rfl (lv_at hl 0 rfl) ?_
              refine lv_iconst (v := 3) hx hb dX7_passes_323 (by decide) ?_
              refine lv_icmp_ge (tgt := 355) hx hb dX7_passes_324 (by decide) (fun c19 => ?_) (fun c19 => ?_)
              ·
                rw [show (3 : Int32) = nI 3 from rfl] at c19
                have hge322 := k_nI_ge (by omega) (by omega) c19
                obtain rfl : 3 = k322 := by omega
                replace hz322 : z322 = (l_X7_passes_322 D nl nt ng k295 z295) := hz322
                subst hz322
                have hl : lv_has ls 4 [(3, .int (nI 3)), (2, .int (nI k295)), (1, .int ((l_X7_passes_165 D nl nt ng).2)), (0, .ref (ad g 14 0))] := hl
                refine lv_aload_n hx hb dX7_passes_355 rfl (lv_at hl 3 rfl) ?_
                refine k_get (K := RX7) (T := TX7) (N := 34) (v := .ref (ad g 15 18)) (w := .ref (ad g 15 18)) hx hb fX7 hown hK hW 14 0 hm.o (fun _ => rfl) rfl 25 (by decide) (hts (.fieldLink RX7 66 "CrossdockeryModel" "soon" "[I") (by decide +kernel)) rfl rfl rfl dX7_passes_356 ?_
                refine lv_iconst (v := 4) hx hb dX7_passes_359 (by decide) ?_
                refine lv_iload_n hx hb dX7_passes_360 rfl (lv_at hl 1 rfl) ?_
                refine lv_imul hx hb dX7_passes_361 ?_
                refine lv_iconst (v := 3) hx hb dX7_passes_362 (by decide) ?_
                refine lv_iadd hx hb dX7_passes_363 ?_
                refine lv_iconst (v := 0) hx hb dX7_passes_364 (by decide) ?_
                refine k_iast (z := 64) (k := ((4 * k295) + 3)) hx hb hK hW hL 15 18 (hm.a (i := 18) (by decide)) (fun _ => rfl) (nI_clE (x := ((4 * k295) + 3)) (nI_addE (nI_mulE (rfl : (4 : Int32) = nI 4) (rfl : nI k295 = nI k295)) (rfl : (3 : Int32) = nI 3)) (by omega)) (vp_in_E (x := ((4 * k295) + 3)) (nI_addE (nI_mulE (rfl : (4 : Int32) = nI 4) (rfl : nI k295 = nI k295)) (rfl : (3 : Int32) = nI 3)) (by omega) (by decide)) dX7_passes_365 (fun H locs hW hL => ?_)
                refine lv_iinc (v := (nI (k295 + 1))) (k := 1) (lv' := [(2, .int (nI (k295 + 1))), (3, .int (nI 3)), (1, .int ((l_X7_passes_165 D nl nt ng).2)), (0, .ref (ad g 14 0))]) hx hb dX7_passes_366 hl rfl (nI_1 _) (by decide) rfl (fun ls hl => ?_)
                refine lv_goto (tgt := 295) hx hb dX7_passes_369 (by decide) ?_
                have e9 : (f_X7_passes_295 D nl nt ng) k295 z295 = (k_d (l_X7_passes_322 D nl nt ng k295 z295) 15 18 ((4 * k295) + 3) 0) := by unfold f_X7_passes_295; first | done | rfl
                exact ih295 _ _ _ hlt295 ⟨(k_d (l_X7_passes_322 D nl nt ng k295 z295) 15 18 ((4 * k295) + 3) 0), by rw [it_s, ← hz295, e9], hW, hL, lv_sub hl [0, 2, 3] rfl, (hE322.put15 (by decide))⟩
              ·
                have hlt322 : k322 < 3 := k_nI_nge (by omega) (by omega) (by rw [show (3 : Int32) = nI 3 from rfl] at c19; exact c19)
                refine lv_aload_n hx hb dX7_passes_327 rfl (lv_at hl 3 rfl) ?_
                refine k_get (K := RX7) (T := TX7) (N := 34) (v := .ref (ad g 15 18)) (w := .ref (ad g 15 18)) hx hb fX7 hown hK hW 14 0 hm.o (fun _ => rfl) rfl 25 (by decide) (hts (.fieldLink RX7 66 "CrossdockeryModel" "soon" "[I") (by decide +kernel)) rfl rfl rfl dX7_passes_328 ?_
                refine lv_iconst (v := 4) hx hb dX7_passes_331 (by decide) ?_
                refine lv_iload_n hx hb dX7_passes_332 rfl (lv_at hl 1 rfl) ?_
                refine lv_imul hx hb dX7_passes_333 ?_
                refine lv_iload_n hx hb dX7_passes_334 rfl (lv_at hl 0 rfl) ?_
                refine lv_iadd hx hb dX7_passes_335 ?_
                refine lv_aload_n hx hb dX7_passes_336 rfl (lv_at hl 3 rfl) ?_
                refine k_get (K := RX7) (T := TX7) (N := 34) (v := .ref (ad g 15 18)) (w := .ref (ad g 15 18)) hx hb fX7 hown hK hW 14 0 hm.o (fun _ => rfl) rfl 25 (by decide) (hts (.fieldLink RX7 66 "CrossdockeryModel" "soon" "[I") (by decide +kernel)) rfl rfl rfl dX7_passes_337 ?_
                refine lv_iconst (v := 4) hx hb dX7_passes_340 (by decide) ?_
                refine lv_iload_n hx hb dX7_passes_341 rfl (lv_at hl 1 rfl) ?_
                refine lv_imul hx hb dX7_passes_342 ?_
                refine lv_iload_n hx hb dX7_passes_343 rfl (lv_at hl 0 rfl) ?_
                refine lv_iadd hx hb dX7_passes_344 ?_
                refine lv_iconst (v := 1) hx hb dX7_passes_345 (by decide) ?_
                refine lv_iadd hx hb dX7_passes_346 ?_
                refine k_iald (z := 64) (k := (((4 * k295) + k322) + 1)) hx hb hK hW 15 18 (hm.a (i := 18) (by decide)) (fun _ => rfl) (nI_clE (x := (((4 * k295) + k322) + 1)) (nI_addE (nI_addE (nI_mulE (rfl : (4 : Int32) = nI 4) (rfl : nI k295 = nI k295)) (rfl : nI k322 = nI k322)) (rfl : (1 : Int32) = nI 1)) (by omega)) (vp_in_E (x := (((4 * k295) + k322) + 1)) (nI_addE (nI_addE (nI_mulE (rfl : (4 : Int32) = nI 4) (rfl : nI k295 = nI k295)) (rfl : nI k322 = nI k322)) (rfl : (1 : Int32) = nI 1)) (by omega) (by decide)) (v := (z322 15 18 (((4 * k295) + k322) + 1))) rfl dX7_passes_347 ?_
                refine k_iast (z := 64) (k := ((4 * k295) + k322)) hx hb hK hW hL 15 18 (hm.a (i := 18) (by decide)) (fun _ => rfl) (nI_clE (x := ((4 * k295) + k322)) (nI_addE (nI_mulE (rfl : (4 : Int32) = nI 4) (rfl : nI k295 = nI k295)) (rfl : nI k322 = nI k322)) (by omega)) (vp_in_E (x := ((4 * k295) + k322)) (nI_addE (nI_mulE (rfl : (4 : Int32) = nI 4) (rfl : nI k295 = nI k295)) (rfl : nI k322 = nI k322)) (by omega) (by decide)) dX7_passes_348 (fun H locs hW hL => ?_)
                refine lv_iinc (v := (nI (k322 + 1))) (k := 0) (lv' := [(3, .int (nI (k322 + 1))), (2, .int (nI k295)), (1, .int ((l_X7_passes_165 D nl nt ng).2)), (0, .ref (ad g 14 0))]) hx hb dX7_passes_349 hl rfl (nI_1 _) (by decide) rfl (fun ls hl => ?_)
                refine lv_goto (tgt := 322) hx hb dX7_passes_352 (by decide) ?_
                have e9 : (f_X7_passes_322 D nl nt ng k295 z295) k322 z322 = (k_d z322 15 18 ((4 * k295) + k322) (z322 15 18 (((4 * k295) + k322) + 1))) := by unfold f_X7_passes_322; first | done | rfl
                exact ih322 _ _ _ hlt322 ⟨(k_d z322 15 18 ((4 * k295) + k322) (z322 15 18 (((4 * k295) + k322) + 1))), by rw [it_s, ← hz322, e9], hW, hL, lv_sub hl [0, 1, 2, 3] rfl, (hE322.put15 (by decide))⟩
          ·
            have hlt217 : k217 < nl := k_nI_nge (by omega) (by omega) (by rw [hE217.l] at c11; exact c11)
            refine lv_aload_n hx hb dX7_passes_225 rfl (lv_at hl 2 rfl) ?_
            refine k_get (K := RX7) (T := TX7) (N := 34) (v := .ref (ad g 15 11)) (w := .ref (ad g 15 11)) hx hb fX7 hown hK hW 14 0 hm.o (fun _ => rfl) rfl 18 (by decide) (hts (.fieldLink RX7 44 "CrossdockeryModel" "state" "[C") (by decide +kernel)) rfl rfl rfl dX7_passes_226 ?_
            refine lv_iload_n hx hb dX7_passes_229 rfl (lv_at hl 0 rfl) ?_
            refine k_cald (z := 8) (k := k217) hx hb hK hW 15 11 (hm.a (i := 11) (by decide)) (fun _ => rfl) (nI_clamp (by omega)) (vp_in_nI (by omega) (by decide)) (v := (z217 15 11 k217)) rfl dX7_passes_230 ?_
            refine lv_bipush (v := 121) hx hb dX7_passes_231 (by decide) ?_
            refine lv_icmp_eq (tgt := 247) hx hb dX7_passes_233 (by decide) (fun c12 => ?_) (fun c12 => ?_)
            ·
              refine lv_aload_n hx hb dX7_passes_247 rfl (lv_at hl 2 rfl) ?_
              refine k_get (K := RX7) (T := TX7) (N := 34) (v := .ref (ad g 15 1)) (w := .ref (ad g 15 1)) hx hb fX7 hown hK hW 14 0 hm.o (fun _ => rfl) rfl 8 (by decide) (hts (.fieldLink RX7 13 "CrossdockeryModel" "isHandled" "[Z") (by decide +kernel)) rfl rfl rfl dX7_passes_248 ?_
              refine lv_iload_n hx hb dX7_passes_251 rfl (lv_at hl 0 rfl) ?_
              refine k_zald (z := 8) (k := k217) hx hb hK hW 15 1 (hm.a (i := 1) (by decide)) (fun _ => rfl) (nI_clamp (by omega)) (vp_in_nI (by omega) (by decide)) (v := (z217 15 1 k217)) rfl dX7_passes_252 ?_
              refine lv_if_ne (tgt := 287) hx hb dX7_passes_253 (by decide) (fun c13 => ?_) (fun c13 => ?_)
              ·
                refine lv_iinc (v := (nI (k217 + 1))) (k := 0) (lv' := [(2, .int (nI (k217 + 1))), (1, .int ((l_X7_passes_165 D nl nt ng).2)), (0, .ref (ad g 14 0))]) hx hb dX7_passes_287 hl rfl (nI_1 _) (by decide) rfl (fun ls hl => ?_)
                refine lv_goto (tgt := 217) hx hb dX7_passes_290 (by decide) ?_
                have e9 : (f_X7_passes_217 D nl nt ng) k217 z217 = z217 := by unfold f_X7_passes_217; first | done | (simp only [if_pos c12, if_neg c13]; done) | rfl
                exact ih217 _ _ _ hlt217 ⟨z217, by rw [it_s, ← hz217, e9], hW, hL, lv_sub hl [0, 1, 2] rfl, hE217, hP217⟩
              ·
                refine lv_aload_n hx hb dX7_passes_256 rfl (lv_at hl 2 rfl) ?_
                refine lv_iload_n hx hb dX7_passes_257 rfl (lv_at hl 0 rfl) ?_
                refine lv_aload_n hx hb dX7_passes_258 rfl (lv_at hl 2 rfl) ?_
                refine k_get (K := RX7) (T := TX7) (N := 34) (v := .ref (ad g 15 11)) (w := .ref (ad g 15 11)) hx hb fX7 hown hK hW 14 0 hm.o (fun _ => rfl) rfl 18 (by decide) (hts (.fieldLink RX7 44 "CrossdockeryModel" "state" "[C") (by decide +kernel)) rfl rfl rfl dX7_passes_259 ?_
                refine lv_iload_n hx hb dX7_passes_262 rfl (lv_at hl 0 rfl) ?_
                refine k_cald (z := 8) (k := k217) hx hb hK hW 15 11 (hm.a (i := 11) (by decide)) (fun _ => rfl) (nI_clamp (by omega)) (vp_in_nI (by omega) (by decide)) (v := (z217 15 11 k217)) rfl dX7_passes_263 ?_
                refine lv_bipush (v := 121) hx hb dX7_passes_264 (by decide) ?_
                refine k_join (pc' := 284) (fun H locs ls st => k_W X n ad L (k_g C g z217) fr H ∧ (∀ q ∈ locs, k_B X ≤ q.base) ∧ lv_has ls 4 [(2, .int (nI k217)), (1, .int ((l_X7_passes_165 D nl nt ng).2)), (0, .ref (ad g 14 0))] ∧ st = [.int (j_X7_passes_284 D nl nt ng k217 z217), .int (nI k217), .ref (ad g 14 0)]) (fun H locs ls st hJ => ?_) (fun join284 => ?_)
                ·
                  obtain ⟨hW, hL, hl, rfl⟩ := hJ
                  have hj284 : vp_in (j_X7_passes_284 D nl nt ng k217 z217) nl := by
                    unfold j_X7_passes_284
                    by_cases q : z217 15 11 k217 = 121
                    · rw [if_pos q]; exact hP217 _ hlt217 q
                    · rw [if_neg q]; exact vp_in_nI (by omega) (by omega)
                  refine k_callV (As := [.int (nI k217), .int (j_X7_passes_284 D nl nt ng k217 z217)]) (rest := []) ⟨hx, hb, hml, hown, hts⟩ hK (c_X7_waits X l hm z217 (nI k217) (j_X7_passes_284 D nl nt ng k217 z217) hE217 (vp_in_nI (by omega) (by omega)) hj284) (cwV 2 hts gX7_passes_X7_waits rfl rfl rfl (by decide +kernel) ⟨Nat.le_of_ble_eq_true rfl, Nat.le_of_ble_eq_true rfl⟩) (k_recv hK hW 14 0 hm.o (fun _ => rfl) rfl) hW rfl hl.1 rfl (Nat.le_of_ble_eq_true rfl) dX7_passes_284 ⟨Nat.le_of_ble_eq_true rfl, Nat.le_of_ble_eq_true rfl⟩ hL (fun v9 H locs hp hL => ?_)
                  obtain ⟨rfl, hW⟩ := hp
                  refine lv_iinc (v := (nI (k217 + 1))) (k := 0) (lv' := [(2, .int (nI (k217 + 1))), (1, .int ((l_X7_passes_165 D nl nt ng).2)), (0, .ref (ad g 14 0))]) hx hb dX7_passes_287 hl rfl (nI_1 _) (by decide) rfl (fun ls hl => ?_)
                  refine lv_goto (tgt := 217) hx hb dX7_passes_290 (by decide) ?_
                  have e9 : (f_X7_passes_217 D nl nt ng) k217 z217 = (s_X7_waits z217 nl nt ng (nI k217) (j_X7_passes_284 D nl nt ng k217 z217)) := by unfold f_X7_passes_217; first | done | (simp only [if_pos c12, if_pos c13]; done) | rfl
                  exact ih217 _ _ _ hlt217 ⟨(s_X7_waits z217 nl nt ng (nI k217) (j_X7_passes_284 D nl nt ng k217 z217)), by rw [it_s, ← hz217, e9], hW, hL, lv_sub hl [0, 1, 2] rfl, (mWF_waits hE217 _ _), (mPL_waits hP217)⟩
                ·
                  refine lv_icmp_ne (tgt := 283) hx hb dX7_passes_266 (by decide) (fun c14 => ?_) (fun c14 => ?_)
                  ·
                    refine lv_iload_n hx hb dX7_passes_283 rfl (lv_at hl 0 rfl) ?_
                    have e9 : (j_X7_passes_284 D nl nt ng k217 z217) = (nI k217) := by unfold j_X7_passes_284; first | done | (simp only [if_neg c14]; done) | rfl
                    exact join284 _ _ _ _ (by rw [e9]; exact ⟨hW, hL, lv_sub hl [0, 1, 2] rfl, rfl⟩)
                  ·
                    have hq1 := hE217.sdr hlt217 (Or.inl c14)
                    have hq2 := hP217 _ hlt217 c14
                    refine lv_aload_n hx hb dX7_passes_269 rfl (lv_at hl 2 rfl) ?_
                    refine k_get (K := RX7) (T := TX7) (N := 34) (v := .ref (ad g 15 25)) (w := .ref (ad g 15 25)) hx hb fX7 hown hK hW 14 0 hm.o (fun _ => rfl) rfl 32 (by decide) (hts (.fieldLink RX7 87 "CrossdockeryModel" "plan" "[I") (by decide +kernel)) rfl rfl rfl dX7_passes_270 ?_
                    refine lv_aload_n hx hb dX7_passes_273 rfl (lv_at hl 2 rfl) ?_
                    refine k_get (K := RX7) (T := TX7) (N := 34) (v := .ref (ad g 15 4)) (w := .ref (ad g 15 4)) hx hb fX7 hown hK hW 14 0 hm.o (fun _ => rfl) rfl 11 (by decide) (hts (.fieldLink RX7 23 "CrossdockeryModel" "door" "[I") (by decide +kernel)) rfl rfl rfl dX7_passes_274 ?_
                    refine lv_iload_n hx hb dX7_passes_277 rfl (lv_at hl 0 rfl) ?_
                    refine k_iald (z := 8) (k := k217) hx hb hK hW 15 4 (hm.a (i := 4) (by decide)) (fun _ => rfl) (nI_clamp (by omega)) (vp_in_nI (by omega) (by decide)) (v := (z217 15 4 k217)) rfl dX7_passes_278 ?_
                    refine k_iald (z := 8) (k := (z217 15 4 k217).toNatClampNeg) hx hb hK hW 15 25 (hm.a (i := 25) (by decide)) (fun _ => rfl) rfl (hq1.mono (by decide)) (v := (z217 15 25 ((z217 15 4 k217).toNatClampNeg))) rfl dX7_passes_279 ?_
                    refine lv_goto (tgt := 284) hx hb dX7_passes_280 (by decide) ?_
                    have e9 : (j_X7_passes_284 D nl nt ng k217 z217) = (z217 15 25 ((z217 15 4 k217).toNatClampNeg)) := by unfold j_X7_passes_284; first | done | (simp only [if_pos c14]; done) | rfl
                    exact join284 _ _ _ _ (by rw [e9]; exact ⟨hW, hL, lv_sub hl [0, 1, 2] rfl, rfl⟩)
            ·
              refine lv_aload_n hx hb dX7_passes_236 rfl (lv_at hl 2 rfl) ?_
              refine k_get (K := RX7) (T := TX7) (N := 34) (v := .ref (ad g 15 11)) (w := .ref (ad g 15 11)) hx hb fX7 hown hK hW 14 0 hm.o (fun _ => rfl) rfl 18 (by decide) (hts (.fieldLink RX7 44 "CrossdockeryModel" "state" "[C") (by decide +kernel)) rfl rfl rfl dX7_passes_237 ?_
              refine lv_iload_n hx hb dX7_passes_240 rfl (lv_at hl 0 rfl) ?_
              refine k_cald (z := 8) (k := k217) hx hb hK hW 15 11 (hm.a (i := 11) (by decide)) (fun _ => rfl) (nI_clamp (by omega)) (vp_in_nI (by omega) (by decide)) (v := (z217 15 11 k217)) rfl dX7_passes_241 ?_
              refine lv_bipush (v := 100) hx hb dX7_passes_242 (by decide) ?_
              refine lv_icmp_ne (tgt := 287) hx hb dX7_passes_244 (by decide) (fun c15 => ?_) (fun c15 => ?_)
              ·
                refine lv_iinc (v := (nI (k217 + 1))) (k := 0) (lv' := [(2, .int (nI (k217 + 1))), (1, .int ((l_X7_passes_165 D nl nt ng).2)), (0, .ref (ad g 14 0))]) hx hb dX7_passes_287 hl rfl (nI_1 _) (by decide) rfl (fun ls hl => ?_)
                refine lv_goto (tgt := 217) hx hb dX7_passes_290 (by decide) ?_
                have e9 : (f_X7_passes_217 D nl nt ng) k217 z217 = z217 := by unfold f_X7_passes_217; first | done | (simp only [if_neg c12, if_neg c15]; done) | rfl
                exact ih217 _ _ _ hlt217 ⟨z217, by rw [it_s, ← hz217, e9], hW, hL, lv_sub hl [0, 1, 2] rfl, hE217, hP217⟩
              ·
                refine lv_aload_n hx hb dX7_passes_247 rfl (lv_at hl 2 rfl) ?_
                refine k_get (K := RX7) (T := TX7) (N := 34) (v := .ref (ad g 15 1)) (w := .ref (ad g 15 1)) hx hb fX7 hown hK hW 14 0 hm.o (fun _ => rfl) rfl 8 (by decide) (hts (.fieldLink RX7 13 "CrossdockeryModel" "isHandled" "[Z") (by decide +kernel)) rfl rfl rfl dX7_passes_248 ?_
                refine lv_iload_n hx hb dX7_passes_251 rfl (lv_at hl 0 rfl) ?_
                refine k_zald (z := 8) (k := k217) hx hb hK hW 15 1 (hm.a (i := 1) (by decide)) (fun _ => rfl) (nI_clamp (by omega)) (vp_in_nI (by omega) (by decide)) (v := (z217 15 1 k217)) rfl dX7_passes_252 ?_
                refine lv_if_ne (tgt := 287) hx hb dX7_passes_253 (by decide) (fun c16 => ?_) (fun c16 => ?_)
                ·
                  refine lv_iinc (v := (nI (k217 + 1))) (k := 0) (lv' := [(2, .int (nI (k217 + 1))), (1, .int ((l_X7_passes_165 D nl nt ng).2)), (0, .ref (ad g 14 0))]) hx hb dX7_passes_287 hl rfl (nI_1 _) (by decide) rfl (fun ls hl => ?_)
                  refine lv_goto (tgt := 217) hx hb dX7_passes_290 (by decide) ?_
                  have e9 : (f_X7_passes_217 D nl nt ng) k217 z217 = z217 := by unfold f_X7_passes_217; first | done | (simp only [if_neg c12, if_pos c15, if_neg c16]; done) | rfl
                  exact ih217 _ _ _ hlt217 ⟨z217, by rw [it_s, ← hz217, e9], hW, hL, lv_sub hl [0, 1, 2] rfl, hE217, hP217⟩
                ·
                  refine lv_aload_n hx hb dX7_passes_256 rfl (lv_at hl 2 rfl) ?_
                  refine lv_iload_n hx hb dX7_passes_257 rfl (lv_at hl 0 rfl) ?_
                  refine lv_aload_n hx hb dX7_passes_258 rfl (lv_at hl 2 rfl) ?_
                  refine k_get (K := RX7) (T := TX7) (N := 34) (v := .ref (ad g 15 11)) (w := .ref (ad g 15 11)) hx hb fX7 hown hK hW 14 0 hm.o (fun _ => rfl) rfl 18 (by decide) (hts (.fieldLink RX7 44 "CrossdockeryModel" "state" "[C") (by decide +kernel)) rfl rfl rfl dX7_passes_259 ?_
                  refine lv_iload_n hx hb dX7_passes_262 rfl (lv_at hl 0 rfl) ?_
                  refine k_cald (z := 8) (k := k217) hx hb hK hW 15 11 (hm.a (i := 11) (by decide)) (fun _ => rfl) (nI_clamp (by omega)) (vp_in_nI (by omega) (by decide)) (v := (z217 15 11 k217)) rfl dX7_passes_263 ?_
                  refine lv_bipush (v := 121) hx hb dX7_passes_264 (by decide) ?_
                  refine k_join (pc' := 284) (fun H locs ls st => k_W X n ad L (k_g C g z217) fr H ∧ (∀ q ∈ locs, k_B X ≤ q.base) ∧ lv_has ls 4 [(2, .int (nI k217)), (1, .int ((l_X7_passes_165 D nl nt ng).2)), (0, .ref (ad g 14 0))] ∧ st = [.int (j_X7_passes_284 D nl nt ng k217 z217), .int (nI k217), .ref (ad g 14 0)]) (fun H locs ls st hJ => ?_) (fun join284 => ?_)
                  ·
                    obtain ⟨hW, hL, hl, rfl⟩ := hJ
                    have hj284 : vp_in (j_X7_passes_284 D nl nt ng k217 z217) nl := by
                      unfold j_X7_passes_284
                      by_cases q : z217 15 11 k217 = 121
                      · rw [if_pos q]; exact hP217 _ hlt217 q
                      · rw [if_neg q]; exact vp_in_nI (by omega) (by omega)
                    refine k_callV (As := [.int (nI k217), .int (j_X7_passes_284 D nl nt ng k217 z217)]) (rest := []) ⟨hx, hb, hml, hown, hts⟩ hK (c_X7_waits X l hm z217 (nI k217) (j_X7_passes_284 D nl nt ng k217 z217) hE217 (vp_in_nI (by omega) (by omega)) hj284) (cwV 2 hts gX7_passes_X7_waits rfl rfl rfl (by decide +kernel) ⟨Nat.le_of_ble_eq_true rfl, Nat.le_of_ble_eq_true rfl⟩) (k_recv hK hW 14 0 hm.o (fun _ => rfl) rfl) hW rfl hl.1 rfl (Nat.le_of_ble_eq_true rfl) dX7_passes_284 ⟨Nat.le_of_ble_eq_true rfl, Nat.le_of_ble_eq_true rfl⟩ hL (fun v9 H locs hp hL => ?_)
                    obtain ⟨rfl, hW⟩ := hp
                    refine lv_iinc (v := (nI (k217 + 1))) (k := 0) (lv' := [(2, .int (nI (k217 + 1))), (1, .int ((l_X7_passes_165 D nl nt ng).2)), (0, .ref (ad g 14 0))]) hx hb dX7_passes_287 hl rfl (nI_1 _) (by decide) rfl (fun ls hl => ?_)
                    refine lv_goto (tgt := 217) hx hb dX7_passes_290 (by decide) ?_
                    have e9 : (f_X7_passes_217 D nl nt ng) k217 z217 = (s_X7_waits z217 nl nt ng (nI k217) (j_X7_passes_284 D nl nt ng k217 z217)) := by unfold f_X7_passes_217; first | done | (simp only [if_neg c12, if_pos c15, if_pos c16]; done) | rfl
                    exact ih217 _ _ _ hlt217 ⟨(s_X7_waits z217 nl nt ng (nI k217) (j_X7_passes_284 D nl nt ng k217 z217)), by rw [it_s, ← hz217, e9], hW, hL, lv_sub hl [0, 1, 2] rfl, (mWF_waits hE217 _ _), (mPL_waits hP217)⟩
                  ·
                    refine lv_icmp_ne (tgt := 283) hx hb dX7_passes_266 (by decide) (fun c17 => ?_) (fun c17 => ?_)
                    ·
                      refine lv_iload_n hx hb dX7_passes_283 rfl (lv_at hl 0 rfl) ?_
                      have e9 : (j_X7_passes_284 D nl nt ng k217 z217) = (nI k217) := by unfold j_X7_passes_284; first | done | (simp only [if_neg c17]; done) | rfl
                      exact join284 _ _ _ _ (by rw [e9]; exact ⟨hW, hL, lv_sub hl [0, 1, 2] rfl, rfl⟩)
                    ·
                      have hq1 := hE217.sdr hlt217 (Or.inl c17)
                      have hq2 := hP217 _ hlt217 c17
                      refine lv_aload_n hx hb dX7_passes_269 rfl (lv_at hl 2 rfl) ?_
                      refine k_get (K := RX7) (T := TX7) (N := 34) (v := .ref (ad g 15 25)) (w := .ref (ad g 15 25)) hx hb fX7 hown hK hW 14 0 hm.o (fun _ => rfl) rfl 32 (by decide) (hts (.fieldLink RX7 87 "CrossdockeryModel" "plan" "[I") (by decide +kernel)) rfl rfl rfl dX7_passes_270 ?_
                      refine lv_aload_n hx hb dX7_passes_273 rfl (lv_at hl 2 rfl) ?_
                      refine k_get (K := RX7) (T := TX7) (N := 34) (v := .ref (ad g 15 4)) (w := .ref (ad g 15 4)) hx hb fX7 hown hK hW 14 0 hm.o (fun _ => rfl) rfl 11 (by decide) (hts (.fieldLink RX7 23 "CrossdockeryModel" "door" "[I") (by decide +kernel)) rfl rfl rfl dX7_passes_274 ?_
                      refine lv_iload_n hx hb dX7_passes_277 rfl (lv_at hl 0 rfl) ?_
                      refine k_iald (z := 8) (k := k217) hx hb hK hW 15 4 (hm.a (i := 4) (by decide)) (fun _ => rfl) (nI_clamp (by omega)) (vp_in_nI (by omega) (by decide)) (v := (z217 15 4 k217)) rfl dX7_passes_278 ?_
                      refine k_iald (z := 8) (k := (z217 15 4 k217).toNatClampNeg) hx hb hK hW 15 25 (hm.a (i := 25) (by decide)) (fun _ => rfl) rfl (hq1.mono (by decide)) (v := (z217 15 25 ((z217 15 4 k217).toNatClampNeg))) rfl dX7_passes_279 ?_
                      refine lv_goto (tgt := 284) hx hb dX7_passes_280 (by decide) ?_
                      have e9 : (j_X7_passes_284 D nl nt ng k217 z217) = (z217 15 25 ((z217 15 4 k217).toNatClampNeg)) := by unfold j_X7_passes_284; first | done | (simp only [if_pos c17]; done) | rfl
                      exact join284 _ _ _ _ (by rw [e9]; exact ⟨hW, hL, lv_sub hl [0, 1, 2] rfl, rfl⟩)
        ·
          have hlt165 : k165 < nl := k_nI_nge (by omega) (by omega) (by rw [hE165.l] at c8; exact c8)
          refine lv_aload_n hx hb dX7_passes_173 rfl (lv_at hl 2 rfl) ?_
          refine k_get (K := RX7) (T := TX7) (N := 34) (v := .ref (ad g 15 11)) (w := .ref (ad g 15 11)) hx hb fX7 hown hK hW 14 0 hm.o (fun _ => rfl) rfl 18 (by decide) (hts (.fieldLink RX7 44 "CrossdockeryModel" "state" "[C") (by decide +kernel)) rfl rfl rfl dX7_passes_174 ?_
          refine lv_iload_n hx hb dX7_passes_177 rfl (lv_at hl 0 rfl) ?_
          refine k_cald (z := 8) (k := k165) hx hb hK hW 15 11 (hm.a (i := 11) (by decide)) (fun _ => rfl) (nI_clamp (by omega)) (vp_in_nI (by omega) (by decide)) (v := (z165.1 15 11 k165)) rfl dX7_passes_178 ?_
          refine lv_bipush (v := 100) hx hb dX7_passes_179 (by decide) ?_
          refine lv_icmp_ne (tgt := 209) hx hb dX7_passes_181 (by decide) (fun c9 => ?_) (fun c9 => ?_)
          ·
            refine lv_iinc (v := (nI (k165 + 1))) (k := 0) (lv' := [(2, .int (nI (k165 + 1))), (1, .int z165.2), (0, .ref (ad g 14 0))]) hx hb dX7_passes_209 hl rfl (nI_1 _) (by decide) rfl (fun ls hl => ?_)
            refine lv_goto (tgt := 165) hx hb dX7_passes_212 (by decide) ?_
            have e9 : (f_X7_passes_165 D nl nt ng) k165 z165 = (z165.1, z165.2) := by unfold f_X7_passes_165; first | done | (simp only [if_neg c9]; done) | rfl
            exact ih165 _ _ _ hlt165 ⟨(z165.1, z165.2), by rw [it_s, ← hz165, e9], hW, hL, lv_sub hl [0, 1, 2] rfl, hE165⟩
          ·
            refine lv_aload_n hx hb dX7_passes_184 rfl (lv_at hl 2 rfl) ?_
            refine lv_iload_n hx hb dX7_passes_185 rfl (lv_at hl 0 rfl) ?_
            refine k_callV (As := [.int (nI k165)]) (rest := []) ⟨hx, hb, hml, hown, hts⟩ hK (c_X7_missing X l hm z165.1 (nI k165) hE165 (vp_in_nI (by omega) (by omega))) (cwV 1 hts gX7_passes_X7_missing rfl rfl rfl (by decide +kernel) ⟨Nat.le_of_ble_eq_true rfl, Nat.le_of_ble_eq_true rfl⟩) (k_recv hK hW 14 0 hm.o (fun _ => rfl) rfl) hW rfl hl.1 rfl (Nat.le_of_ble_eq_true rfl) dX7_passes_186 ⟨Nat.le_of_ble_eq_true rfl, Nat.le_of_ble_eq_true rfl⟩ hL (fun v9 H locs hp hL => ?_)
            obtain ⟨rfl, hW⟩ := hp
            refine lv_if_le (tgt := 195) hx hb dX7_passes_189 (by decide) (fun c10 => ?_) (fun c10 => ?_)
            ·
              have hsd := c9
              refine lv_aload_n hx hb dX7_passes_195 rfl (lv_at hl 2 rfl) ?_
              refine lv_iload_n hx hb dX7_passes_196 rfl (lv_at hl 0 rfl) ?_
              refine lv_aload_n hx hb dX7_passes_197 rfl (lv_at hl 2 rfl) ?_
              refine k_get (K := RX7) (T := TX7) (N := 34) (v := .int (z165.1 14 0 4)) (w := .int (z165.1 14 0 4)) hx hb fX7 hown hK hW 14 0 hm.o (fun _ => rfl) rfl 4 (by decide) (hts (.fieldLink RX7 121 "CrossdockeryModel" "now" "I") (by decide +kernel)) rfl rfl rfl dX7_passes_198 ?_
              refine lv_iconst (v := 1) hx hb dX7_passes_201 (by decide) ?_
              refine lv_iadd hx hb dX7_passes_202 ?_
              refine k_callV (As := [.int (nI k165), .int ((z165.1 14 0 4) + 1)]) (rest := []) ⟨hx, hb, hml, hown, hts⟩ hK (c_X7_leaves X l hm z165.1 (nI k165) ((z165.1 14 0 4) + 1) hE165 (vp_in_nI (by omega) (by omega)) (fun _ => by rw [nI_clamp (by omega)]; exact hE165.sdr hlt165 (Or.inr hsd))) (cwV 2 hts gX7_passes_X7_leaves rfl rfl rfl (by decide +kernel) ⟨Nat.le_of_ble_eq_true rfl, Nat.le_of_ble_eq_true rfl⟩) (k_recv hK hW 14 0 hm.o (fun _ => rfl) rfl) hW rfl hl.1 rfl (Nat.le_of_ble_eq_true rfl) dX7_passes_203 ⟨Nat.le_of_ble_eq_true rfl, Nat.le_of_ble_eq_true rfl⟩ hL (fun v9 H locs hp hL => ?_)
              obtain ⟨rfl, hW⟩ := hp
              refine lv_iinc (v := (z165.2 + 1)) (k := 1) (lv' := [(1, .int (z165.2 + 1)), (2, .int (nI k165)), (0, .ref (ad g 14 0))]) hx hb dX7_passes_206 hl rfl (rfl) (by decide) rfl (fun ls hl => ?_)
              refine lv_iinc (v := (nI (k165 + 1))) (k := 1) (lv' := [(2, .int (nI (k165 + 1))), (1, .int (z165.2 + 1)), (0, .ref (ad g 14 0))]) hx hb dX7_passes_209 hl rfl (nI_1 _) (by decide) rfl (fun ls hl => ?_)
              refine lv_goto (tgt := 165) hx hb dX7_passes_212 (by decide) ?_
              have e9 : (f_X7_passes_165 D nl nt ng) k165 z165 = ((s_X7_leaves z165.1 nl nt ng (nI k165) ((z165.1 14 0 4) + 1)), (z165.2 + 1)) := by unfold f_X7_passes_165; first | done | (simp only [if_pos c9, if_pos c10]; done) | rfl
              exact ih165 _ _ _ hlt165 ⟨((s_X7_leaves z165.1 nl nt ng (nI k165) ((z165.1 14 0 4) + 1)), (z165.2 + 1)), by rw [it_s, ← hz165, e9], hW, hL, lv_sub hl [0, 1, 2] rfl, (mWF_leaves hE165 hlt165 hsd _)⟩
            ·
              refine lv_goto (tgt := 209) hx hb dX7_passes_192 (by decide) ?_
              refine lv_iinc (v := (nI (k165 + 1))) (k := 0) (lv' := [(2, .int (nI (k165 + 1))), (1, .int z165.2), (0, .ref (ad g 14 0))]) hx hb dX7_passes_209 hl rfl (nI_1 _) (by decide) rfl (fun ls hl => ?_)
              refine lv_goto (tgt := 165) hx hb dX7_passes_212 (by decide) ?_
              have e9 : (f_X7_passes_165 D nl nt ng) k165 z165 = (z165.1, z165.2) := by unfold f_X7_passes_165; first | done | (simp only [if_pos c9, if_neg c10]; done) | rfl
              exact ih165 _ _ _ hlt165 ⟨(z165.1, z165.2), by rw [it_s, ← hz165, e9], hW, hL, lv_sub hl [0, 1, 2] rfl, hE165⟩
      ·
        have hlt78 : k78 < 4 := k_nI_nge (by omega) (by omega) (by rw [show (4 : Int32) = nI 4 from rfl] at c5; exact c5)
        refine lv_aload_n hx hb dX7_passes_83 rfl (lv_at hl 1 rfl) ?_
        refine k_get (K := RX7) (T := TX7) (N := 34) (v := .ref (ad g 15 25)) (w := .ref (ad g 15 25)) hx hb fX7 hown hK hW 14 0 hm.o (fun _ => rfl) rfl 32 (by decide) (hts (.fieldLink RX7 87 "CrossdockeryModel" "plan" "[I") (by decide +kernel)) rfl rfl rfl dX7_passes_84 ?_
        refine lv_iload_n hx hb dX7_passes_87 rfl (lv_at hl 0 rfl) ?_
        refine lv_aload_n hx hb dX7_passes_88 rfl (lv_at hl 1 rfl) ?_
        refine k_get (K := RX7) (T := TX7) (N := 34) (v := .ref (ad g 15 23)) (w := .ref (ad g 15 23)) hx hb fX7 hown hK hW 14 0 hm.o (fun _ => rfl) rfl 30 (by decide) (hts (.fieldLink RX7 81 "CrossdockeryModel" "inDoor" "[I") (by decide +kernel)) rfl rfl rfl dX7_passes_89 ?_
        refine lv_iload_n hx hb dX7_passes_92 rfl (lv_at hl 0 rfl) ?_
        refine k_iald (z := 4) (k := k78) hx hb hK hW 15 23 (hm.a (i := 23) (by decide)) (fun _ => rfl) (nI_clamp (by omega)) (vp_in_nI (by omega) (by decide)) (v := (z78 15 23 k78)) rfl dX7_passes_93 ?_
        refine k_iast (z := 8) (k := k78) hx hb hK hW hL 15 25 (hm.a (i := 25) (by decide)) (fun _ => rfl) (nI_clamp (by omega)) (vp_in_nI (by omega) (by decide)) dX7_passes_94 (fun H locs hW hL => ?_)
        refine lv_aload_n hx hb dX7_passes_95 rfl (lv_at hl 1 rfl) ?_
        refine k_get (K := RX7) (T := TX7) (N := 34) (v := .ref (ad g 15 23)) (w := .ref (ad g 15 23)) hx hb fX7 hown hK hW 14 0 hm.o (fun _ => rfl) rfl 30 (by decide) (hts (.fieldLink RX7 81 "CrossdockeryModel" "inDoor" "[I") (by decide +kernel)) rfl rfl rfl dX7_passes_96 ?_
        refine lv_iload_n hx hb dX7_passes_99 rfl (lv_at hl 0 rfl) ?_
        refine k_iald (z := 4) (k := k78) hx hb hK hW 15 23 (hm.a (i := 23) (by decide)) (fun _ => rfl) (nI_clamp (by omega)) (vp_in_nI (by omega) (by decide)) (v := (z78 15 23 k78)) (k_di rfl) dX7_passes_100 ?_
        refine lv_iconst (v := (-1)) hx hb dX7_passes_101 (by decide) ?_
        refine lv_icmp_ne (tgt := 108) hx hb dX7_passes_102 (by decide) (fun c6 => ?_) (fun c6 => ?_)
        ·
          have hi78 := hE78.ind (by omega) c6
          have hi8 := hi78.1.mono hl8
          have hdl78 : vp_in ((k_d z78 15 25 k78 (z78 15 23 k78)) 15 4 (z78 15 23 k78).toNatClampNeg) 4 := by rw [k_keep z78 15 25 _ _ (i2 := 4) (by decide) rfl, hi78.2.2]; exact vp_in_nI (by omega) (by decide)
          refine lv_aload_n hx hb dX7_passes_108 rfl (lv_at hl 1 rfl) ?_
          refine k_get (K := RX7) (T := TX7) (N := 34) (v := .ref (ad g 15 0)) (w := .ref (ad g 15 0)) hx hb fX7 hown hK hW 14 0 hm.o (fun _ => rfl) rfl 7 (by decide) (hts (.fieldLink RX7 7 "CrossdockeryModel" "isBringing" "[Z") (by decide +kernel)) rfl rfl rfl dX7_passes_109 ?_
          refine lv_aload_n hx hb dX7_passes_112 rfl (lv_at hl 1 rfl) ?_
          refine k_get (K := RX7) (T := TX7) (N := 34) (v := .ref (ad g 15 23)) (w := .ref (ad g 15 23)) hx hb fX7 hown hK hW 14 0 hm.o (fun _ => rfl) rfl 30 (by decide) (hts (.fieldLink RX7 81 "CrossdockeryModel" "inDoor" "[I") (by decide +kernel)) rfl rfl rfl dX7_passes_113 ?_
          refine lv_iload_n hx hb dX7_passes_116 rfl (lv_at hl 0 rfl) ?_
          refine k_iald (z := 4) (k := k78) hx hb hK hW 15 23 (hm.a (i := 23) (by decide)) (fun _ => rfl) (nI_clamp (by omega)) (vp_in_nI (by omega) (by decide)) (v := (z78 15 23 k78)) (k_di rfl) dX7_passes_117 ?_
          refine k_zald (z := 8) (k := (z78 15 23 k78).toNatClampNeg) hx hb hK hW 15 0 (hm.a (i := 0) (by decide)) (fun _ => rfl) rfl hi8 (v := (z78 15 0 ((z78 15 23 k78).toNatClampNeg))) (k_di rfl) dX7_passes_118 ?_
          refine lv_if_eq (tgt := 140) hx hb dX7_passes_119 (by decide) (fun c7 => ?_) (fun c7 => ?_)
          ·
            refine lv_aload_n hx hb dX7_passes_140 rfl (lv_at hl 1 rfl) ?_
            refine lv_aload_n hx hb dX7_passes_141 rfl (lv_at hl 1 rfl) ?_
            refine k_get (K := RX7) (T := TX7) (N := 34) (v := .ref (ad g 15 23)) (w := .ref (ad g 15 23)) hx hb fX7 hown hK hW 14 0 hm.o (fun _ => rfl) rfl 30 (by decide) (hts (.fieldLink RX7 81 "CrossdockeryModel" "inDoor" "[I") (by decide +kernel)) rfl rfl rfl dX7_passes_142 ?_
            refine lv_iload_n hx hb dX7_passes_145 rfl (lv_at hl 0 rfl) ?_
            refine k_iald (z := 4) (k := k78) hx hb hK hW 15 23 (hm.a (i := 23) (by decide)) (fun _ => rfl) (nI_clamp (by omega)) (vp_in_nI (by omega) (by decide)) (v := (z78 15 23 k78)) (k_di rfl) dX7_passes_146 ?_
            refine lv_aload_n hx hb dX7_passes_147 rfl (lv_at hl 1 rfl) ?_
            refine lv_iload_n hx hb dX7_passes_148 rfl (lv_at hl 0 rfl) ?_
            refine k_callV (As := [.int (nI k78)]) (rest := [.int (z78 15 23 k78), .ref (ad g 14 0)]) ⟨hx, hb, hml, hown, hts⟩ hK (c_X7_powerOf X l hm (k_d z78 15 25 k78 (z78 15 23 k78)) (nI k78) (hE78.put15 (by decide))) (cwV 1 hts gX7_passes_X7_powerOf rfl rfl rfl (by decide +kernel) ⟨Nat.le_of_ble_eq_true rfl, Nat.le_of_ble_eq_true rfl⟩) (k_recv hK hW 14 0 hm.o (fun _ => rfl) rfl) hW rfl hl.1 rfl (Nat.le_of_ble_eq_true rfl) dX7_passes_149 ⟨Nat.le_of_ble_eq_true rfl, Nat.le_of_ble_eq_true rfl⟩ hL (fun v9 H locs hp hL => ?_)
            obtain ⟨rfl, hW⟩ := hp
            refine k_callV (As := [.int (z78 15 23 k78), .int (s_X7_powerOf (k_d z78 15 25 k78 (z78 15 23 k78)) nl nt ng (nI k78))]) (rest := []) ⟨hx, hb, hml, hown, hts⟩ hK (c_X7_load X l hm (k_d z78 15 25 k78 (z78 15 23 k78)) (z78 15 23 k78) (s_X7_powerOf (k_d z78 15 25 k78 (z78 15 23 k78)) nl nt ng (nI k78)) (hE78.put15 (by decide)) hi8) (cwV 2 hts gX7_passes_X7_load rfl rfl rfl (by decide +kernel) ⟨Nat.le_of_ble_eq_true rfl, Nat.le_of_ble_eq_true rfl⟩) (k_recv hK hW 14 0 hm.o (fun _ => rfl) rfl) hW rfl hl.1 rfl (Nat.le_of_ble_eq_true rfl) dX7_passes_152 ⟨Nat.le_of_ble_eq_true rfl, Nat.le_of_ble_eq_true rfl⟩ hL (fun v9 H locs hp hL => ?_)
            obtain ⟨rfl, hW⟩ := hp
            refine lv_iinc (v := (nI (k78 + 1))) (k := 0) (lv' := [(1, .int (nI (k78 + 1))), (0, .ref (ad g 14 0))]) hx hb dX7_passes_155 hl rfl (nI_1 _) (by decide) rfl (fun ls hl => ?_)
            refine lv_goto (tgt := 78) hx hb dX7_passes_158 (by decide) ?_
            have e9 : (f_X7_passes_78 D nl nt ng) k78 z78 = (s_X7_load (k_d z78 15 25 k78 (z78 15 23 k78)) nl nt ng (z78 15 23 k78) (s_X7_powerOf (k_d z78 15 25 k78 (z78 15 23 k78)) nl nt ng (nI k78))) := by unfold f_X7_passes_78; first | done | (simp only [if_neg c6, if_pos c7]; done) | rfl
            exact ih78 _ _ _ hlt78 ⟨(s_X7_load (k_d z78 15 25 k78 (z78 15 23 k78)) nl nt ng (z78 15 23 k78) (s_X7_powerOf (k_d z78 15 25 k78 (z78 15 23 k78)) nl nt ng (nI k78))), by rw [it_s, ← hz78, e9], hW, hL, lv_sub hl [0, 1] rfl, (mWF_load (hE78.put15 (by decide)) _ _)⟩
          ·
            refine lv_aload_n hx hb dX7_passes_122 rfl (lv_at hl 1 rfl) ?_
            refine lv_aload_n hx hb dX7_passes_123 rfl (lv_at hl 1 rfl) ?_
            refine k_get (K := RX7) (T := TX7) (N := 34) (v := .ref (ad g 15 23)) (w := .ref (ad g 15 23)) hx hb fX7 hown hK hW 14 0 hm.o (fun _ => rfl) rfl 30 (by decide) (hts (.fieldLink RX7 81 "CrossdockeryModel" "inDoor" "[I") (by decide +kernel)) rfl rfl rfl dX7_passes_124 ?_
            refine lv_iload_n hx hb dX7_passes_127 rfl (lv_at hl 0 rfl) ?_
            refine k_iald (z := 4) (k := k78) hx hb hK hW 15 23 (hm.a (i := 23) (by decide)) (fun _ => rfl) (nI_clamp (by omega)) (vp_in_nI (by omega) (by decide)) (v := (z78 15 23 k78)) (k_di rfl) dX7_passes_128 ?_
            refine lv_aload_n hx hb dX7_passes_129 rfl (lv_at hl 1 rfl) ?_
            refine lv_iload_n hx hb dX7_passes_130 rfl (lv_at hl 0 rfl) ?_
            refine k_callV (As := [.int (nI k78)]) (rest := [.int (z78 15 23 k78), .ref (ad g 14 0)]) ⟨hx, hb, hml, hown, hts⟩ hK (c_X7_powerOf X l hm (k_d z78 15 25 k78 (z78 15 23 k78)) (nI k78) (hE78.put15 (by decide))) (cwV 1 hts gX7_passes_X7_powerOf rfl rfl rfl (by decide +kernel) ⟨Nat.le_of_ble_eq_true rfl, Nat.le_of_ble_eq_true rfl⟩) (k_recv hK hW 14 0 hm.o (fun _ => rfl) rfl) hW rfl hl.1 rfl (Nat.le_of_ble_eq_true rfl) dX7_passes_131 ⟨Nat.le_of_ble_eq_true rfl, Nat.le_of_ble_eq_true rfl⟩ hL (fun v9 H locs hp hL => ?_)
            obtain ⟨rfl, hW⟩ := hp
            refine k_callV (As := [.int (z78 15 23 k78), .int (s_X7_powerOf (k_d z78 15 25 k78 (z78 15 23 k78)) nl nt ng (nI k78))]) (rest := []) ⟨hx, hb, hml, hown, hts⟩ hK (c_X7_unload X l hm (k_d z78 15 25 k78 (z78 15 23 k78)) (z78 15 23 k78) (s_X7_powerOf (k_d z78 15 25 k78 (z78 15 23 k78)) nl nt ng (nI k78)) (hE78.put15 (by decide)) hi8 (by assumption)) (cwV 2 hts gX7_passes_X7_unload rfl rfl rfl (by decide +kernel) ⟨Nat.le_of_ble_eq_true rfl, Nat.le_of_ble_eq_true rfl⟩) (k_recv hK hW 14 0 hm.o (fun _ => rfl) rfl) hW rfl hl.1 rfl (Nat.le_of_ble_eq_true rfl) dX7_passes_134 ⟨Nat.le_of_ble_eq_true rfl, Nat.le_of_ble_eq_true rfl⟩ hL (fun v9 H locs hp hL => ?_)
            obtain ⟨rfl, hW⟩ := hp
            refine lv_goto (tgt := 155) hx hb dX7_passes_137 (by decide) ?_
            refine lv_iinc (v := (nI (k78 + 1))) (k := 0) (lv' := [(1, .int (nI (k78 + 1))), (0, .ref (ad g 14 0))]) hx hb dX7_passes_155 hl rfl (nI_1 _) (by decide) rfl (fun ls hl => ?_)
            refine lv_goto (tgt := 78) hx hb dX7_passes_158 (by decide) ?_
            have e9 : (f_X7_passes_78 D nl nt ng) k78 z78 = (s_X7_unload (k_d z78 15 25 k78 (z78 15 23 k78)) nl nt ng (z78 15 23 k78) (s_X7_powerOf (k_d z78 15 25 k78 (z78 15 23 k78)) nl nt ng (nI k78))) := by unfold f_X7_passes_78; first | done | (simp only [if_neg c6, if_neg c7]; done) | rfl
            exact ih78 _ _ _ hlt78 ⟨(s_X7_unload (k_d z78 15 25 k78 (z78 15 23 k78)) nl nt ng (z78 15 23 k78) (s_X7_powerOf (k_d z78 15 25 k78 (z78 15 23 k78)) nl nt ng (nI k78))), by rw [it_s, ← hz78, e9], hW, hL, lv_sub hl [0, 1] rfl, (mWF_unload (hE78.put15 (by decide)) _ _)⟩
        ·
          refine lv_goto (tgt := 155) hx hb dX7_passes_105 (by decide) ?_
          refine lv_iinc (v := (nI (k78 + 1))) (k := 0) (lv' := [(1, .int (nI (k78 + 1))), (0, .ref (ad g 14 0))]) hx hb dX7_passes_155 hl rfl (nI_1 _) (by decide) rfl (fun ls hl => ?_)
          refine lv_goto (tgt := 78) hx hb dX7_passes_158 (by decide) ?_
          have e9 : (f_X7_passes_78 D nl nt ng) k78 z78 = (k_d z78 15 25 k78 (z78 15 23 k78)) := by unfold f_X7_passes_78; first | done | (simp only [if_pos c6]; done) | rfl
          exact ih78 _ _ _ hlt78 ⟨(k_d z78 15 25 k78 (z78 15 23 k78)), by rw [it_s, ← hz78, e9], hW, hL, lv_sub hl [0, 1] rfl, (hE78.put15 (by decide))⟩
    ·
      have hlt55 : k55 < nl := k_nI_nge (by omega) (by omega) (by rw [hE55.l] at c4; exact c4)
      refine lv_aload_n hx hb dX7_passes_63 rfl (lv_at hl 1 rfl) ?_
      refine k_get (K := RX7) (T := TX7) (N := 34) (v := .ref (ad g 15 1)) (w := .ref (ad g 15 1)) hx hb fX7 hown hK hW 14 0 hm.o (fun _ => rfl) rfl 8 (by decide) (hts (.fieldLink RX7 13 "CrossdockeryModel" "isHandled" "[Z") (by decide +kernel)) rfl rfl rfl dX7_passes_64 ?_
      refine lv_iload_n hx hb dX7_passes_67 rfl (lv_at hl 0 rfl) ?_
      refine lv_iconst (v := 0) hx hb dX7_passes_68 (by decide) ?_
      refine k_zast (z := 8) (k := k55) hx hb hK hW hL 15 1 (hm.a (i := 1) (by decide)) (fun _ => rfl) (by decide) (nI_clamp (by omega)) (vp_in_nI (by omega) (by decide)) dX7_passes_69 (fun H locs hW hL => ?_)
      refine lv_iinc (v := (nI (k55 + 1))) (k := 0) (lv' := [(1, .int (nI (k55 + 1))), (0, .ref (ad g 14 0))]) hx hb dX7_passes_70 hl rfl (nI_1 _) (by decide) rfl (fun ls hl => ?_)
      refine lv_goto (tgt := 55) hx hb dX7_passes_73 (by decide) ?_
      have e9 : (f_X7_passes_55 D nl nt ng) k55 z55 = (k_d z55 15 1 k55 0) := by unfold f_X7_passes_55; first | done | rfl
      exact ih55 _ _ _ hlt55 ⟨(k_d z55 15 1 k55 0), by rw [it_s, ← hz55, e9], hW, hL, lv_sub hl [0, 1] rfl, (hE55.put15 (by decide))⟩
  ·
    have hlt2 : k2 < 4 := k_nI_nge (by omega) (by omega) (by rw [show (4 : Int32) = nI 4 from rfl] at c1; exact c1)
    refine lv_aload_n hx hb dX7_passes_7 rfl (lv_at hl 1 rfl) ?_
    refine k_get (K := RX7) (T := TX7) (N := 34) (v := .ref (ad g 15 23)) (w := .ref (ad g 15 23)) hx hb fX7 hown hK hW 14 0 hm.o (fun _ => rfl) rfl 30 (by decide) (hts (.fieldLink RX7 81 "CrossdockeryModel" "inDoor" "[I") (by decide +kernel)) rfl rfl rfl dX7_passes_8 ?_
    refine lv_iload_n hx hb dX7_passes_11 rfl (lv_at hl 0 rfl) ?_
    refine k_iald (z := 4) (k := k2) hx hb hK hW 15 23 (hm.a (i := 23) (by decide)) (fun _ => rfl) (nI_clamp (by omega)) (vp_in_nI (by omega) (by decide)) (v := (z2 15 23 k2)) rfl dX7_passes_12 ?_
    refine lv_iconst (v := (-1)) hx hb dX7_passes_13 (by decide) ?_
    refine lv_icmp_eq (tgt := 20) hx hb dX7_passes_14 (by decide) (fun c2 => ?_) (fun c2 => ?_)
    ·
      have hd0 := c2
      refine lv_aload_n hx hb dX7_passes_20 rfl (lv_at hl 1 rfl) ?_
      refine lv_iload_n hx hb dX7_passes_21 rfl (lv_at hl 0 rfl) ?_
      refine lv_iconst (v := 0) hx hb dX7_passes_22 (by decide) ?_
      refine k_callV (As := [.int (nI k2), .int 0]) (rest := []) ⟨hx, hb, hml, hown, hts⟩ hK (c_X7_queued X l hm z2 (nI k2) 0 hE2) (cwV 2 hts gX7_passes_X7_queued rfl rfl rfl (by decide +kernel) ⟨Nat.le_of_ble_eq_true rfl, Nat.le_of_ble_eq_true rfl⟩) (k_recv hK hW 14 0 hm.o (fun _ => rfl) rfl) hW rfl hl.1 rfl (Nat.le_of_ble_eq_true rfl) dX7_passes_23 ⟨Nat.le_of_ble_eq_true rfl, Nat.le_of_ble_eq_true rfl⟩ hL (fun v9 H locs hp hL => ?_)
      obtain ⟨rfl, hW⟩ := hp
      refine lv_istore_n (lv' := [(2, .int (s_X7_queued z2 nl nt ng (nI k2) 0)), (1, .int (nI k2)), (0, .ref (ad g 14 0))]) hx hb dX7_passes_26 rfl hl (by decide) rfl (fun ls hl => ?_)
      refine lv_aload_n hx hb dX7_passes_27 rfl (lv_at hl 2 rfl) ?_
      refine k_get (K := RX7) (T := TX7) (N := 34) (v := .ref (ad g 15 23)) (w := .ref (ad g 15 23)) hx hb fX7 hown hK hW 14 0 hm.o (fun _ => rfl) rfl 30 (by decide) (hts (.fieldLink RX7 81 "CrossdockeryModel" "inDoor" "[I") (by decide +kernel)) rfl rfl rfl dX7_passes_28 ?_
      refine lv_iload_n hx hb dX7_passes_31 rfl (lv_at hl 1 rfl) ?_
      refine lv_iload_n hx hb dX7_passes_32 rfl (lv_at hl 0 rfl) ?_
      refine k_iast (z := 4) (k := k2) hx hb hK hW hL 15 23 (hm.a (i := 23) (by decide)) (fun _ => rfl) (nI_clamp (by omega)) (vp_in_nI (by omega) (by decide)) dX7_passes_33 (fun H locs hW hL => ?_)
      refine lv_iload_n hx hb dX7_passes_34 rfl (lv_at hl 0 rfl) ?_
      refine lv_iconst (v := (-1)) hx hb dX7_passes_35 (by decide) ?_
      refine lv_icmp_eq (tgt := 47) hx hb dX7_passes_36 (by decide) (fun c3 => ?_) (fun c3 => ?_)
      ·
        refine lv_iinc (v := (nI (k2 + 1))) (k := 1) (lv' := [(1, .int (nI (k2 + 1))), (2, .int (s_X7_queued z2 nl nt ng (nI k2) 0)), (0, .ref (ad g 14 0))]) hx hb dX7_passes_47 hl rfl (nI_1 _) (by decide) rfl (fun ls hl => ?_)
        refine lv_goto (tgt := 2) hx hb dX7_passes_50 (by decide) ?_
        have e9 : (f_X7_passes_2 D nl nt ng) k2 z2 = (k_d z2 15 23 k2 (s_X7_queued z2 nl nt ng (nI k2) 0)) := by unfold f_X7_passes_2; first | done | (simp only [if_pos c2, if_pos c3]; done) | rfl
        exact ih2 _ _ _ hlt2 ⟨(k_d z2 15 23 k2 (s_X7_queued z2 nl nt ng (nI k2) 0)), by rw [it_s, ← hz2, e9], hW, hL, lv_sub hl [0, 2] rfl, (mWF.fill0 hE2 hd0 c3)⟩
      ·
        have hq0 := c3
        have hq8 := mQ_in hE2.l8 hq0
        obtain ⟨l9, hl9, el9, hs9, hr9, -⟩ := mQ_some hq0
        have hF1 : mWF (k_d (k_d z2 15 23 k2 (s_X7_queued z2 nl nt ng (nI k2) 0)) 15 11 ((s_X7_queued z2 nl nt ng (nI k2) 0).toNatClampNeg) 100) nl nt ng := by rw [el9, nI_clamp (by omega)]; exact hE2.fill1 hlt2 hd0 hl9 hs9 hr9
        refine lv_aload_n hx hb dX7_passes_39 rfl (lv_at hl 2 rfl) ?_
        refine k_get (K := RX7) (T := TX7) (N := 34) (v := .ref (ad g 15 11)) (w := .ref (ad g 15 11)) hx hb fX7 hown hK hW 14 0 hm.o (fun _ => rfl) rfl 18 (by decide) (hts (.fieldLink RX7 44 "CrossdockeryModel" "state" "[C") (by decide +kernel)) rfl rfl rfl dX7_passes_40 ?_
        refine lv_iload_n hx hb dX7_passes_43 rfl (lv_at hl 0 rfl) ?_
        refine lv_bipush (v := 100) hx hb dX7_passes_44 (by decide) ?_
        refine k_cast (z := 8) (k := ((s_X7_queued z2 nl nt ng (nI k2) 0)).toNatClampNeg) hx hb hK hW hL 15 11 (hm.a (i := 11) (by decide)) (fun _ => rfl) (by decide) rfl hq8 dX7_passes_46 (fun H locs hW hL => ?_)
        refine lv_iinc (v := (nI (k2 + 1))) (k := 1) (lv' := [(1, .int (nI (k2 + 1))), (2, .int (s_X7_queued z2 nl nt ng (nI k2) 0)), (0, .ref (ad g 14 0))]) hx hb dX7_passes_47 hl rfl (nI_1 _) (by decide) rfl (fun ls hl => ?_)
        refine lv_goto (tgt := 2) hx hb dX7_passes_50 (by decide) ?_
        have e9 : (f_X7_passes_2 D nl nt ng) k2 z2 = (k_d (k_d z2 15 23 k2 (s_X7_queued z2 nl nt ng (nI k2) 0)) 15 11 (((s_X7_queued z2 nl nt ng (nI k2) 0)).toNatClampNeg) 100) := by unfold f_X7_passes_2; first | done | (simp only [if_pos c2, if_neg c3]; done) | rfl
        exact ih2 _ _ _ hlt2 ⟨(k_d (k_d z2 15 23 k2 (s_X7_queued z2 nl nt ng (nI k2) 0)) 15 11 (((s_X7_queued z2 nl nt ng (nI k2) 0)).toNatClampNeg) 100), by rw [it_s, ← hz2, e9], hW, hL, lv_sub hl [0, 2] rfl, hF1⟩
    ·
      refine lv_goto (tgt := 47) hx hb dX7_passes_17 (by decide) ?_
      refine lv_iinc (v := (nI (k2 + 1))) (k := 0) (lv' := [(1, .int (nI (k2 + 1))), (0, .ref (ad g 14 0))]) hx hb dX7_passes_47 hl rfl (nI_1 _) (by decide) rfl (fun ls hl => ?_)
      refine lv_goto (tgt := 2) hx hb dX7_passes_50 (by decide) ?_
      have e9 : (f_X7_passes_2 D nl nt ng) k2 z2 = z2 := by unfold f_X7_passes_2; first | done | (simp only [if_neg c2]; done) | rfl
      exact ih2 _ _ _ hlt2 ⟨z2, by rw [it_s, ← hz2, e9], hW, hL, lv_sub hl [0, 1] rfl, hE2⟩
