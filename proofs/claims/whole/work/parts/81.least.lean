/-! leastWays: plan 0, the two folds, ways both ways -/
theorem q_P_0 (o : Nat → Bool) (b : Nat → Int32) (j : Nat) : ∀ l, q_P o b j 0 l = if l < j ∧ o l = true then 0 else b l := by
  induction j with
  | zero => intro l; rw [if_neg (by omega)]; rfl
  | succ j ih =>
    intro l
    rw [q_P_s]
    by_cases hl : l = j
    · rw [if_pos hl, hl]
      by_cases c : o j = true
      · rw [if_pos c, if_pos ⟨by omega, c⟩]; rfl
      · rw [if_neg c, if_neg (fun q => c q.2)]
    · rw [if_neg hl]
      have e : (if o j = true then 0 / 4 else 0) = 0 := by split <;> rfl
      rw [e, ih l]
      by_cases c : l < j ∧ o l = true
      · rw [if_pos c, if_pos ⟨by omega, c.2⟩]
      · rw [if_neg c, if_neg (fun q => c ⟨by omega, q.2⟩)]
theorem q_LC {n : Nat} {W : Nat → Int32} {V : Nat → Nat → Int32} (hn : 0 < n) (hW : ∀ c, ∃ w, w ≤ 6000 ∧ W c = nI w) (v0 v1 : Nat → Int32) : itR (fun c a => q_stL (W c) (V c) a) n 0 (-1, v0) = itR (fun c a => q_stC (W c) (V c) a) n 0 (6336, v1) := by
  obtain ⟨n, rfl⟩ : ∃ n', n = n' + 1 := ⟨n - 1, by omega⟩
  show itR _ n 1 (q_stL (W 0) (V 0) (-1, v0)) = itR _ n 1 (q_stC (W 0) (V 0) (6336, v1))
  obtain ⟨w0, h0, e0⟩ := hW 0
  have a1 : q_stL (W 0) (V 0) (-1, v0) = (W 0, V 0) := if_pos (Or.inl rfl)
  have a2 : q_stC (W 0) (V 0) (6336, v1) = (W 0, V 0) := if_pos (show W 0 < 6336 from by rw [e0]; exact (nI_ltI (a := w0) (b := 6336) (by omega) (by omega)).mpr (by omega))
  rw [a1, a2]
  have key : ∀ n c (a : Int32 × (Nat → Int32)), a.1 ≠ -1 → itR (fun c a => q_stL (W c) (V c) a) n c a = itR (fun c a => q_stC (W c) (V c) a) n c a := by
    intro n
    induction n with
    | zero => intro c a _; rfl
    | succ n ih =>
      intro c a ha
      show itR _ n (c + 1) (q_stL (W c) (V c) a) = itR _ n (c + 1) (q_stC (W c) (V c) a)
      have e : q_stL (W c) (V c) a = q_stC (W c) (V c) a := by
        unfold q_stL q_stC
        by_cases h : W c < a.1
        · rw [if_pos (Or.inr h), if_pos h]
        · rw [if_neg (fun q => q.elim ha h), if_neg h]
      rw [e]
      refine ih (c + 1) _ ?_
      unfold q_stC
      split
      · obtain ⟨w, hw, e⟩ := hW c
        show W c ≠ -1
        rw [e]; exact nI_nm1 (by omega)
      · exact ha
  exact key n 1 _ (by show W 0 ≠ -1; rw [e0]; exact nI_nm1 (by omega))
theorem q_dd_c (x y : Int32) : q_dd x y = q_dd y x := by
  unfold q_dd s_X6_difference
  by_cases c1 : x = -1
  · by_cases c2 : y = -1
    · rw [c1, c2]
    · simp only [if_pos c1, if_neg c2]
  · by_cases c2 : y = -1
    · simp only [if_neg c1, if_pos c2]
    · simp only [if_neg c1, if_neg c2]
      by_cases c3 : x ≤ y
      · rw [if_pos c3]
        by_cases c4 : y ≤ x
        · rw [if_pos c4, Int32.le_antisymm c3 c4]
        · rw [if_neg c4]
      · rw [if_neg c3, if_pos (Int32.le_of_lt (Int32.not_le.mp c3))]
theorem q_S_le {f : Nat → Nat} {n m : Nat} (h : ∀ k, k < n → f k ≤ m) : q_S f n ≤ n * m := by
  induction n with
  | zero => exact Nat.zero_le _
  | succ n ih =>
    have h1 := ih (fun k hk => h k (by omega))
    have h2 := h n (by omega)
    rw [q_S_s, Nat.succ_mul]
    omega
theorem q_S_1 (f : Nat → Nat) (k m : Nat) : q_S (fun i => if i = k then f i else 0) m = if k < m then f k else 0 := by
  induction m with
  | zero => rfl
  | succ m ih =>
    rw [q_S_s, ih]
    by_cases c : m = k
    · rw [if_neg (by omega), if_pos c, if_pos (by omega), c, Nat.zero_add]
    · rw [if_neg c]
      by_cases c2 : k < m
      · rw [if_pos c2, if_pos (by omega), Nat.add_zero]
      · rw [if_neg c2, if_neg (by omega)]
theorem q_wy_add (B C : Nat → Nat → Nat) (v : Nat → Int32) (n : Nat) : q_wy (fun l i => B l i + C l i) v n = q_wy B v n + q_wy C v n := by
  unfold q_wy
  rw [← q_S_p]
  refine q_S_cg (fun l _ => ?_)
  rw [← q_S_p]
  exact q_S_cg (fun i _ => Nat.add_mul _ _ _)
theorem q_wy_1 {h k n : Nat} (U : Nat) (v : Nat → Int32) (hk : k < h) (hn : h < n) : q_wy (fun l i => if l = h ∧ i = k then U else 0) v n = U * q_dd (v h) (v k) := by
  unfold q_wy
  have e : ∀ l, q_S (fun i => (if l = h ∧ i = k then U else 0) * q_dd (v l) (v i)) l = if l = h then U * q_dd (v l) (v k) else 0 := by
    intro l
    by_cases c : l = h
    · rw [if_pos c, q_S_cg (g := fun i => if i = k then U * q_dd (v l) (v i) else 0) (fun i _ => by
        show (if l = h ∧ i = k then U else 0) * q_dd (v l) (v i) = if i = k then U * q_dd (v l) (v i) else 0
        by_cases c2 : i = k
        · rw [if_pos ⟨c, c2⟩, if_pos c2]
        · rw [if_neg (fun q => c2 q.2), if_neg c2, Nat.zero_mul]), q_S_1, if_pos (by omega)]
    · rw [if_neg c, q_S_cg (g := fun _ => 0) (fun i _ => by rw [if_neg (fun q => c q.1), Nat.zero_mul]), q_S_z]
  rw [q_S_cg (fun l _ => e l), q_S_1 (fun l => U * q_dd (v l) (v k)), if_pos hn]
def q_fr (E : KD) (t : Nat) : Nat := (E 15 12 t).toNatClampNeg
def q_to (E : KD) (t : Nat) : Nat := (E 15 13 t).toNatClampNeg
def q_un (E : KD) (t : Nat) : Nat := (E 15 14 t).toNatClampNeg
def q_hi (E : KD) (t : Nat) : Nat := if q_fr E t < q_to E t then q_to E t else q_fr E t
def q_lo (E : KD) (t : Nat) : Nat := if q_to E t < q_fr E t then q_to E t else q_fr E t
def q_B (E : KD) (n l i : Nat) : Nat := q_S (fun t => if l = q_hi E t ∧ i = q_lo E t then q_un E t else 0) n
theorem q_B_s (E : KD) (n l i : Nat) : q_B E (n + 1) l i = q_B E n l i + if l = q_hi E n ∧ i = q_lo E n then q_un E n else 0 := rfl
section
variable {E : KD} {nl nt ng : Nat}
theorem q_ft (hw : mWF E nl nt ng) (hK : q_K E nt) {t : Nat} (ht : t < nt) : q_fr E t < nl ∧ q_to E t < nl ∧ q_fr E t ≠ q_to E t ∧ E 15 12 t = nI (q_fr E t) ∧ E 15 13 t = nI (q_to E t) := by
  have h8 := hw.l8
  refine ⟨(hw.frl ht).lt, (hw.tol ht).lt, fun q => ?_, (hw.frl ht).eq (by omega), (hw.tol ht).eq (by omega)⟩
  have k := hK t ht
  unfold q_fr q_to at q
  rw [q] at k
  exact k.1 k.2
theorem q_unE (hU : q_U E nt) {t : Nat} (ht : t < nt) : q_un E t ≤ 99 ∧ E 15 14 t = nI (q_un E t) := by
  obtain ⟨U, r, c, s, u1, u2, u3, e1, -⟩ := hU t ht
  unfold q_un
  rw [e1, nI_clamp (by omega)]
  exact ⟨u2, rfl⟩
theorem q_wy_B (hw : mWF E nl nt ng) (hK : q_K E nt) (v : Nat → Int32) (n : Nat) (hn : n ≤ nt) : q_wy (q_B E n) v nl = q_S (fun t => q_un E t * q_dd (v (q_fr E t)) (v (q_to E t))) n := by
  induction n with
  | zero =>
    unfold q_wy
    rw [q_S_cg (g := fun _ => 0) (fun l _ => by
      rw [q_S_cg (g := fun _ => 0) (fun i _ => by show 0 * _ = 0; exact Nat.zero_mul _), q_S_z]), q_S_z]
    rfl
  | succ n ih =>
    obtain ⟨h1, h2, h3, -, -⟩ := q_ft hw hK (t := n) (by omega)
    show q_wy (fun l i => q_B E n l i + if l = q_hi E n ∧ i = q_lo E n then q_un E n else 0) v nl = _
    have hh : q_lo E n < q_hi E n ∧ q_hi E n < nl ∧ q_dd (v (q_hi E n)) (v (q_lo E n)) = q_dd (v (q_fr E n)) (v (q_to E n)) := by
      unfold q_hi q_lo
      by_cases c : q_fr E n < q_to E n
      · rw [if_pos c, if_neg (by omega)]; exact ⟨c, h2, q_dd_c _ _⟩
      · rw [if_neg c, if_pos (by omega)]; exact ⟨by omega, h1, rfl⟩
    rw [q_wy_add, ih (by omega), q_wy_1 (q_un E n) v hh.1 hh.2.1, hh.2.2, q_S_s]
theorem q_W_B (hw : mWF E nl nt ng) (hK : q_K E nt) (hU : q_U E nt) {v : Nat → Int32} (hv : ∀ l, v l = -1 ∨ vp_in (v l) 4) : q_W E nt v = nI (q_wy (q_B E nt) v nl) := by
  rw [q_wy_B hw hK v nt (Nat.le_refl _)]
  unfold q_W
  exact it_indk (f := fun t z => z + E 15 14 t * s_X6_difference (v (E 15 12 t).toNatClampNeg) (v (E 15 13 t).toNatClampNeg)) (a := (0 : Int32)) (n := nt) (P := fun k z => z = nI (q_S (fun t => q_un E t * q_dd (v (q_fr E t)) (v (q_to E t))) k)) rfl (fun k hk z hz => by
    show z + E 15 14 k * s_X6_difference (v (E 15 12 k).toNatClampNeg) (v (E 15 13 k).toNatClampNeg) = nI (q_S (fun t => q_un E t * q_dd (v (q_fr E t)) (v (q_to E t))) (k + 1))
    rw [hz, (q_unE hU hk).2, q_S_s]
    show _ + nI (q_un E k) * s_X6_difference (v (q_fr E k)) (v (q_to E k)) = _
    rw [(q_ddE (hv _) (hv _)).1, pk_mul, nI_add])
theorem q_wy_bd (hw : mWF E nl nt ng) (hK : q_K E nt) (hU : q_U E nt) (v : Nat → Int32) (hv : ∀ l, v l = -1 ∨ vp_in (v l) 4) : q_wy (q_B E nt) v nl ≤ 6000 := by
  have h16 := hw.t16
  rw [q_wy_B hw hK v nt (Nat.le_refl _)]
  have h1 := q_S_le (n := nt) (m := 297) (f := fun t => q_un E t * q_dd (v (q_fr E t)) (v (q_to E t))) (fun k hk => by
    have h2 := Nat.mul_le_mul (q_unE hU hk).1 (q_ddE (hv (q_fr E k)) (hv (q_to E k))).2
    exact h2)
  omega
end
