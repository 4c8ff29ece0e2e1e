/-! what is needed no more goes out of the world -/
theorem k_W.keep {X : kX} {n n1 : Nat → Nat → Nat} {ad ad1 L L1 : Nat → Nat → Nat → Nat} {C C1 : Nat → Nat → Nat → Nat → Int32} {fr : Nat → Option Cell} {H : Heap} (h : k_W X n1 ad1 L1 C1 fr H) (hs : ∀ g r i, k_v n g r i → k_v n1 g r i ∧ ad g r i = ad1 g r i ∧ k_e X n ad L g r i (C g r i) = k_e X n1 ad1 L1 g r i (C1 g r i)) (hc : k_cap n L) : k_W X n ad L C fr H := by
  obtain ⟨h1, h2, h3, h4, h5, h6⟩ := h
  refine ⟨fun g r i hv => ?_, fun g r i g' r' i' hv hv' he => ?_, fun g r i hv => ?_, fun q c hq => ⟨(h4 q c hq).1, (h4 q c hq).2.1, fun g r i hv => ?_⟩, h5, hc⟩
  · obtain ⟨a1, a2, a3⟩ := hs g r i hv
    rw [a2, a3]
    exact h1 g r i a1
  · obtain ⟨a1, a2, -⟩ := hs g r i hv
    obtain ⟨b1, b2, -⟩ := hs g' r' i' hv'
    rw [a2, b2] at he
    exact h2 _ _ _ _ _ _ a1 b1 he
  · obtain ⟨a1, a2, -⟩ := hs g r i hv
    rw [a2]
    exact h3 g r i a1
  · obtain ⟨a1, a2, -⟩ := hs g r i hv
    rw [a2]
    exact (h4 q c hq).2.2 g r i a1
/-- a dock made anew, of owner 1 -/
theorem k_forget1 {X : kX} {n n1 : Nat → Nat → Nat} {ad ad1 L L1 : Nat → Nat → Nat → Nat} {C : Nat → Nat → Nat → Nat → Int32} {fr : Nat → Option Cell} {H : Heap} {D : KD} (ho : ∀ g', g' ≠ 1 → n1 g' = n g' ∧ ad1 g' = ad g' ∧ L1 g' = L g') (hn1 : ∀ r, n 1 r = 0) (hc : k_cap n L) (h : k_W X n1 ad1 L1 (k_g C 1 D) fr H) : k_W X n ad L C fr H := by
  refine h.keep (fun g r i hv => ?_) hc
  have hg : g ≠ 1 := by
    rintro rfl
    unfold k_v at hv
    split at hv
    · rw [hn1] at hv; exact absurd hv.1 (Nat.not_lt_zero _)
    · rw [hn1] at hv; exact absurd hv.1 (Nat.not_lt_zero _)
    · rw [hn1] at hv; exact absurd hv (Nat.not_lt_zero _)
    · rw [hn1] at hv; exact absurd hv (Nat.not_lt_zero _)
    · rw [hn1] at hv; exact absurd hv.1 (Nat.not_lt_zero _)
    · rw [hn1] at hv; exact absurd hv.1 (Nat.not_lt_zero _)
    · rw [hn1] at hv; exact absurd hv (Nat.not_lt_zero _)
  obtain ⟨e1, e2, e3⟩ := ho g hg
  refine ⟨?_, by rw [e2], ?_⟩
  · unfold k_v at hv ⊢; rw [e1]; exact hv
  · rw [k_g_ne _ _ hg]
    exact congrFun (congrFun (congrFun (k_e_g e1.symm e2.symm (by rw [(ho 0 (by decide)).2.1]) e3.symm) r) i) _
theorem k_eP2 {X : kX} {n n1 : Nat → Nat → Nat} {ad ad1 L : Nat → Nat → Nat → Nat} {g r i : Nat} (c : Nat → Int32) (hr : r ≠ 21 ∧ r ≠ 22) (h17 : i < 17 ∨ (r ≠ 1 ∧ r ≠ 2)) (hn : ∀ r, r ≠ 21 ∧ r ≠ 22 → n1 g r = n g r) (ha : ∀ r, r ≠ 21 ∧ r ≠ 22 → ad1 g r = ad g r) (h0 : ad1 0 0 0 = ad 0 0 0) : k_e X n ad L g r i c = k_e X n1 ad1 L g r i c := by
  have a1 := ha 1 (by decide)
  have a2 := ha 2 (by decide)
  have a3 := ha 3 (by decide)
  have a4 := ha 4 (by decide)
  have a7 := ha 7 (by decide)
  have a8 := ha 8 (by decide)
  have a15 := ha 15 (by decide)
  have a17 := ha 17 (by decide)
  have a18 := ha 18 (by decide)
  have a19 := ha 19 (by decide)
  have n19 := hn 19 (by decide)
  unfold k_e
  split
  · simp only [a1, a3]
  · have := h17.resolve_right (fun z => z.1 rfl)
    simp only [a2, hn (4 + i) (by omega)]
  · have := h17.resolve_right (fun z => z.2 rfl)
    simp only [ha (4 + i) (by omega), hn (4 + i) (by omega)]
  · simp only [a4]
  · simp only [a7]
  · simp only [a4, a8]
  · rfl
  · rfl
  · rfl
  · simp only [a15]
  · rfl
  · simp only [h0, a17]
  · simp only [a18, n19]
  · simp only [a19, n19]
  · rfl
  · exact absurd rfl hr.1
  · rfl
  · rfl
/-- a plan, of the dock's owner -/
theorem k_forgetP {X : kX} {n n1 : Nat → Nat → Nat} {ad ad1 L : Nat → Nat → Nat → Nat} {C : Nat → Nat → Nat → Nat → Int32} {fr : Nat → Option Cell} {H : Heap} {g nl nt ng : Nat} {D D' : KD} (hd : kDk n g nl nt ng) (ho : ∀ g', g' ≠ g → n1 g' = n g' ∧ ad1 g' = ad g') (hr9 : ∀ r, r ≠ 21 ∧ r ≠ 22 → n1 g r = n g r ∧ ad1 g r = ad g r) (h21 : n g 21 = 0) (h22 : n g 22 = 0) (hc : k_cap n L) (hD : ∀ r, r ≠ 21 ∧ r ≠ 22 → D' r = D r) (h : k_W X n1 ad1 L (k_g C g D') fr H) : k_W X n ad L (k_g C g D) fr H := by
  have h0 : ad1 0 0 0 = ad 0 0 0 := by
    by_cases q : (0 : Nat) = g
    · subst q; rw [(hr9 0 (by decide)).2]
    · rw [(ho 0 q).2]
  refine h.keep (fun g' r i hv => ?_) hc
  by_cases hg : g' = g
  · subst hg
    have hr : r ≠ 21 ∧ r ≠ 22 := by
      constructor
      · rintro rfl
        have hv1 : i < n g' 21 := hv
        rw [h21] at hv1
        exact absurd hv1 (Nat.not_lt_zero _)
      · rintro rfl
        have hv1 : i < n g' 22 := hv
        rw [h22] at hv1
        exact absurd hv1 (Nat.not_lt_zero _)
    have h17 : i < 17 ∨ (r ≠ 1 ∧ r ≠ 2) := by
      by_cases p1 : r = 1
      · subst p1; have := hv.1; rw [hd.2.1] at this; exact Or.inl (by omega)
      · by_cases p2 : r = 2
        · subst p2; have := hv.1; rw [hd.2.1] at this; exact Or.inl (by omega)
        · exact Or.inr ⟨p1, p2⟩
    refine ⟨?_, by rw [(hr9 r hr).2], ?_⟩
    · unfold k_v at hv ⊢
      split at hv
      · rw [(hr9 1 (by decide)).1, (hr9 2 (by decide)).1]; exact hv
      · rw [(hr9 1 (by decide)).1, (hr9 2 (by decide)).1, (hr9 (4 + i) (by have := h17.resolve_right (fun z => z.2 rfl); omega)).1]; exact hv
      · rw [(hr9 4 (by decide)).1]; exact hv
      · rw [(hr9 5 (by decide)).1]; exact hv
      · rw [(hr9 17 (by decide)).1, (hr9 2 (by decide)).1]; exact hv
      · rw [(hr9 17 (by decide)).1, (hr9 2 (by decide)).1, (hr9 19 (by decide)).1]; exact hv
      · rw [(hr9 r hr).1]; exact hv
    · rw [k_g_at, k_g_at, hD r hr]
      exact k_eP2 _ hr h17 (fun r hr => (hr9 r hr).1) (fun r hr => (hr9 r hr).2) h0
  · obtain ⟨e1, e2⟩ := ho g' hg
    refine ⟨?_, by rw [e2], ?_⟩
    · unfold k_v at hv ⊢; rw [e1]; exact hv
    · rw [k_g_ne _ _ hg, k_g_ne _ _ hg]
      exact congrFun (congrFun (congrFun (k_e_g e1.symm e2.symm h0.symm rfl) r) i) _
/-! what the plan's methods leave alone -/
theorem s_X4_keep_o (D : KD) (wy : Int32) {r : Nat} (hr : r ≠ 21 ∧ r ≠ 22) : (s_X4_keep D wy) r = D r := by
  unfold s_X4_keep l_X4_keep_7
  rw [it_fix _ (fun E : KD => E r) (fun k E => by unfold f_X4_keep_7; funext i; exact k_d_off E _ (fun z => hr.2 z.1))]
  funext i
  exact k_d_off D _ (fun z => hr.1 z.1)
theorem s_search_o (cnt f : Nat) {r : Nat} (hr : r ≠ 21 ∧ r ≠ 22) : ∀ (D : KD) (lo : Nat) (wy : Int32), (s_search cnt f D lo wy) r = D r := by
  induction f with
  | zero => intro D lo wy; rfl
  | succ f ih =>
    intro D lo wy
    rw [s_search_s]
    split
    · split
      · exact s_X4_keep_o D wy hr
      · split
        · exact ih _ _ _
        · exact it_fix _ (fun E : KD => E r) (fun k E => by show f_search cnt f lo wy k E r = E r; unfold f_search; rw [ih]; funext i; exact k_d_off E _ (fun z => hr.2 z.1)) 4 D
    · rfl
theorem f_X4_init_61_o (D : KD) (nl nt ng k : Nat) (E : KD) {r : Nat} (hr : r ≠ 22) : f_X4_init_61 D nl nt ng k E r = E r := by
  unfold f_X4_init_61
  funext i
  rw [k_d_off _ _ (fun z => hr z.1), k_d_off _ _ (fun z => hr z.1)]
theorem f_X4_init_119_o (D : KD) (nl nt ng k : Nat) (E : KD) {r : Nat} (hr : r ≠ 22) : f_X4_init_119 D nl nt ng k E r = E r := by
  unfold f_X4_init_119
  repeat' split
  all_goals first | rfl | (funext i; exact k_d_off _ _ (fun z => hr z.1))
theorem s_X4_init_o (D : KD) (nl nt ng : Nat) {r : Nat} (hr : r ≠ 21 ∧ r ≠ 22) : s_X4_init D nl nt ng r = D r := by
  unfold s_X4_init l_X4_init_119 l_X4_init_61
  rw [it_fix _ (fun E : KD => E r) (fun k E => f_X4_init_119_o D nl nt ng k E hr.2), it_fix _ (fun E : KD => E r) (fun k E => f_X4_init_61_o D nl nt ng k E hr.2), k_DP_o hr]
theorem s_X4_init_21 (D : KD) (nl nt ng : Nat) (i : Nat) : s_X4_init D nl nt ng 21 i = k_DP D (nI nl) 21 i := by
  unfold s_X4_init l_X4_init_119 l_X4_init_61
  rw [it_fix _ (fun E : KD => E 21) (fun k E => f_X4_init_119_o D nl nt ng k E (by decide)), it_fix _ (fun E : KD => E 21) (fun k E => f_X4_init_61_o D nl nt ng k E (by decide))]
def s_plan (D : KD) (nl nt ng : Nat) : KD := s_search nl 9 (s_X4_init D nl nt ng) 0 0
theorem s_plan_o (D : KD) (nl nt ng : Nat) {r : Nat} (hr : r ≠ 21 ∧ r ≠ 22) : s_plan D nl nt ng r = D r := by
  unfold s_plan
  rw [s_search_o _ _ hr, s_X4_init_o _ _ _ _ hr]
