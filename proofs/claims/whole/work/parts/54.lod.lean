section
variable {D E : KD} {nl nt ng : Nat}
theorem q_lod (hw0 : mWF E nl nt ng) (hK0 : q_K E nt) {i : Nat} (hi : i < nl) (hb : E 15 0 i = 0) (E1 : KD) (pw : Int32) {a0 : KD} {z : KD × Int32} (hI : q_I D E nl nt ng a0 z.1) {k a : Nat} (hk : k < nt) (ha : z.2 = nI a) (h0 : 0 < a) (h36 : a ≤ 36) :
    ∃ b, b ≤ a ∧ q_I D E nl nt ng (q_stp a0 k i z.2).1 (f_X7_load_5 E1 nl nt ng (nI i) pw k z).1 ∧ z.2 - (q_stp a0 k i z.2).2 = nI (a - b) ∧ (f_X7_load_5 E1 nl nt ng (nI i) pw k z).2 = nI (a - b) ∧ (f_X7_load_5 E1 nl nt ng (nI i) pw k z).1 15 1 = (if b = 0 then z.1 15 1 else upd (z.1 15 1) i 1) := by
  obtain ⟨hC, hU, hA, hF, hT⟩ := hI
  have hw := hA.wf hw0
  have hK := hA.K hK0
  have h8 := hw.l8
  have h16 := hw.t16
  have er0 : z.1 15 0 = E 15 0 := hA.2 0 (by omega) (by omega)
  have hb' : z.1 15 0 i = 0 := by rw [er0]; exact hb
  obtain ⟨k1, k2⟩ := hK k hk
  have b1 := q_inI (i := i) (hw.tol hk) (by omega) (by omega)
  have hbr : a0 4 i 1 = 0 := by rw [hC.l1 hi]; exact hb'
  have c2 : ¬ (z.1 15 12 k).toNatClampNeg = i := fun q => k1 (by rw [q]; exact hb')
  by_cases c1 : (z.1 15 13 k).toNatClampNeg = i
  · have e1 := b1.mpr c1
    have hof : ¬ s_X5_isOf a0 k i = 0 := by
      unfold s_X5_isOf
      rw [hC.t0 hk, hC.t1 hk, if_neg c2, if_pos c1]; decide
    have es : q_stp a0 k i z.2 = s_X5_load a0 k z.2 := by unfold q_stp; rw [if_neg hof, if_pos hbr]
    obtain ⟨U, r, c, s, u1, u2, u3, v1, v2, v3, v4, v5⟩ := hU k hk
    have eu : s_X5_load a0 k z.2 = (k_d (k_d a0 5 k 4 (a0 5 k 4 - nI (min r a))) 5 k 5 (a0 5 k 5 + nI (min r a)), nI (min r a)) := by
      unfold s_X5_load
      have em : (if a0 5 k 4 < z.2 then a0 5 k 4 else z.2) = nI (min r a) := by
        rw [hC.t4 hk, v3, ha, q_iflt (by omega) (by omega)]
        split <;> congr 1 <;> omega
      rw [em]
    rw [es, eu]
    by_cases cu : r = 0
    · have e0 : min r a = 0 := by omega
      have er : f_X7_load_5 E1 nl nt ng (nI i) pw k z = (z.1, z.2) := by
        unfold f_X7_load_5
        rw [if_pos e1, if_pos (by rw [v3, cu]; first | done | rfl)]
      rw [er, e0]
      refine ⟨0, by omega, ?_, ?_, ?_, ?_⟩
      · have q1 : a0 5 k 4 - nI 0 = a0 5 k 4 := Int32.sub_zero _
        have q2 : a0 5 k 5 + nI 0 = a0 5 k 5 := Int32.add_zero _
        dsimp only
        rw [q1, q2, k_d_id, k_d_id]
        exact ⟨hC, hU, hA, hF, hT⟩
      · rw [ha]; exact pk_sub (by omega)
      · exact ha
      · rw [if_pos rfl]
    · have hb0 : 1 ≤ min r a := by omega
      have em : j_X7_load_64 E1 nl nt ng (nI i) pw k z = nI (min r a) := by
        unfold j_X7_load_64
        rw [v3, ha, q_ifge (by omega) (by omega)]
        split <;> congr 1 <;> omega
      have er : f_X7_load_5 E1 nl nt ng (nI i) pw k z = (k_d (k_d (k_d z.1 15 16 k (z.1 15 16 k - nI (min r a))) 15 17 k (z.1 15 17 k + nI (min r a))) 15 1 i 1, z.2 - nI (min r a)) := by
        unfold f_X7_load_5
        rw [if_pos e1, if_neg (by rw [v3]; exact nI_ne0 (by omega) (by omega)), if_neg (by rw [ha]; exact nI_ne0 h0 (by omega)), em, nI_clamp (by omega)]
      rw [er]
      generalize hbb : min r a = b at *
      dsimp only
      refine ⟨b, by omega, ⟨?_, ?_, ?_, ?_, ?_⟩, ?_, ?_, ?_⟩
      · exact ((hC.putT (4, 16) (by decide) k (by rw [hC.t4 hk])).putT (5, 17) (by decide) k (by rw [hC.t5 hk])).offE (Or.inr ⟨rfl, Or.inl rfl⟩)
      · refine hU.one (t := k) ?_ (fun t' ht' => ⟨?_, ?_, ?_, fun k' hk' => ?_⟩) ⟨U, r - b, c + b, s, u1, u2, ?_, ?_, ?_, ?_, ?_, fun k' hk' => ?_⟩
        · rw [k_d_off _ _ (by omega), k_d_off _ _ (by omega), k_d_off _ _ (by omega)]
        · rw [k_di rfl, k_di rfl, k_di rfl]
        · rw [k_di rfl, k_di rfl, k_dn (by omega)]
        · rw [k_di rfl, k_dn (by omega), k_di rfl]
        · rw [k_di rfl, k_di rfl, k_di rfl]
        · omega
        · rw [k_di rfl, k_di rfl, k_di rfl]; exact v1
        · rw [k_di rfl, k_di rfl, k_di rfl, v2]
          congr 1
          omega
        · rw [k_di rfl, k_di rfl, k_ds, v3]; exact pk_sub (by omega)
        · rw [k_di rfl, k_ds, v4, nI_add]
        · rw [k_di rfl, k_di rfl, k_di rfl]; exact v5 k' hk'
      · exact ((hA.put (Or.inr (by omega))).put (Or.inr (by omega))).put (Or.inl rfl)
      · exact (hF.put (Or.inl rfl)).put (Or.inl rfl)
      · exact ((hT.put (by omega)).put (by omega)).put (by omega)
      · rw [ha]; exact pk_sub (by omega)
      · rw [ha]; exact pk_sub (by omega)
      · rw [if_neg (by omega), k_d_row]
        congr 1
  · have hof : s_X5_isOf a0 k i = 0 := by
      unfold s_X5_isOf
      rw [hC.t0 hk, hC.t1 hk, if_neg c1, if_neg c2]
    have es : q_stp a0 k i z.2 = (a0, 0) := by unfold q_stp; rw [if_pos hof]
    have er : f_X7_load_5 E1 nl nt ng (nI i) pw k z = (z.1, z.2) := by
      unfold f_X7_load_5
      rw [if_neg (mt b1.mp c1)]
    rw [es, er]
    refine ⟨0, by omega, ⟨hC, hU, hA, hF, hT⟩, ?_, ?_, ?_⟩
    · rw [ha]; exact pk_sub (b := 0) (by omega)
    · exact ha
    · rw [if_pos rfl]
/-- one step of the class's loop, told by q_stp -/
theorem q_hndS (i : Nat) (mo : Int32) (f k : Nat) (a0 : KD) (a1 : Int32) : r_X0_handleUnitsOf_5 D nl nt ng i mo (f + 1) k a0 a1 = (if a1 ≤ 0 then (if a1 ≥ mo then k_d a0 4 i 10 0 else k_d a0 4 i 10 1) else r_X0_handleUnitsOf_5 D nl nt ng i mo f (k + 1) (q_stp a0 k i a1).1 (a1 - (q_stp a0 k i a1).2)) := by
  show (if a1 ≤ 0 then _ else _) = _
  unfold q_stp
  split
  · rfl
  · split
    · rw [show a1 - (a0, (0 : Int32)).2 = a1 from Int32.sub_zero a1]
    · split <;> rfl
/-- the whole loop over the transfers: F is the reference's step -/
theorem q_hndR (F : Nat → KD × Int32 → KD × Int32) {i : Nat} (hi : i < nl) {m : Nat} (h36 : m ≤ 36) (hF0 : ∀ k z, z.2 = 0 → F k z = z)
    (hF : ∀ (a0 : KD) (z : KD × Int32), q_I D E nl nt ng a0 z.1 → ∀ k a, k < nt → z.2 = nI a → 0 < a → a ≤ 36 → ∃ b, b ≤ a ∧ q_I D E nl nt ng (q_stp a0 k i z.2).1 (F k z).1 ∧ z.2 - (q_stp a0 k i z.2).2 = nI (a - b) ∧ (F k z).2 = nI (a - b) ∧ (F k z).1 15 1 = (if b = 0 then z.1 15 1 else upd (z.1 15 1) i 1)) (f : Nat) :
    ∀ (k : Nat) (a0 : KD) (z : KD × Int32), k + f = nt → q_I D E nl nt ng a0 z.1 → (∀ l, l ≠ i → z.1 15 1 l = E 15 1 l) → (∃ a, a ≤ m ∧ z.2 = nI a ∧ ((a = m ∧ z.1 15 1 i = 0) ∨ (a < m ∧ z.1 15 1 i = 1))) →
      ∃ a', q_I D E nl nt ng a' (itR F f k z).1 ∧ (∀ l, l ≠ i → (itR F f k z).1 15 1 l = E 15 1 l) ∧ r_X0_handleUnitsOf_5 D nl nt ng i (nI m) f k a0 z.2 = k_d a' 4 i 10 ((itR F f k z).1 15 1 i) := by
  have fin : ∀ (f k : Nat) (z : KD × Int32), z.2 = 0 → itR F f k z = z := by
    intro f
    induction f with
    | zero => intro k z _; rfl
    | succ f ih => intro k z hz; show itR F f (k + 1) (F k z) = z; rw [hF0 k z hz]; exact ih (k + 1) z hz
  have last : ∀ (a0 : KD) (z : KD × Int32), (∃ a, a ≤ m ∧ z.2 = nI a ∧ ((a = m ∧ z.1 15 1 i = 0) ∨ (a < m ∧ z.1 15 1 i = 1))) → (if z.2 ≥ nI m then k_d a0 4 i 10 0 else k_d a0 4 i 10 1) = k_d a0 4 i 10 (z.1 15 1 i) := by
    rintro a0 z ⟨a, h1, h2, h3 | h3⟩
    · rw [h2, q_ifge (by omega) (by omega), if_pos (by omega), h3.2]
    · rw [h2, q_ifge (by omega) (by omega), if_neg (by omega), h3.2]
  induction f with
  | zero =>
    intro k a0 z _ hI ho ha
    exact ⟨a0, hI, ho, last a0 z ha⟩
  | succ f ih =>
    intro k a0 z hk hI ho ha
    rw [q_hndS]
    obtain ⟨a, h1, h2, h3⟩ := ha
    by_cases h0 : a = 0
    · subst h0
      have e : z.2 ≤ 0 := by rw [h2]; exact (nI_leI (a := 0) (b := 0) (by omega) (by omega)).mpr (by omega)
      rw [if_pos e, fin (f + 1) k z h2]
      exact ⟨a0, hI, ho, last a0 z ⟨0, h1, h2, h3⟩⟩
    · have e : ¬ z.2 ≤ 0 := by rw [h2]; exact nI_nle (by omega) (by omega)
      rw [if_neg e]
      obtain ⟨b, b1, b2, b3, b4, b5⟩ := hF a0 z hI k a (by omega) h2 (by omega) (by omega)
      have := ih (k + 1) (q_stp a0 k i z.2).1 (F k z) (by omega) b2 (fun l hl => ?_) ⟨a - b, by omega, b4, ?_⟩
      · rw [b3, ← b4]
        exact this
      · rw [b5]
        split
        · exact ho l hl
        · rw [pk_un hl]; exact ho l hl
      · rw [b5]
        by_cases hb : b = 0
        · rw [if_pos hb, hb]; exact h3
        · rw [if_neg hb, pk_us]; exact Or.inr ⟨by omega, rfl⟩
end
