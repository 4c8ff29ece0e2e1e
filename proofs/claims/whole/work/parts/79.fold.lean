/-! the class's search, as a fold over the same plans -/
def q_dd (x y : Int32) : Nat := (s_X6_difference x y).toNatClampNeg
theorem q_ddE {x y : Int32} (hx : x = -1 ∨ vp_in x 4) (hy : y = -1 ∨ vp_in y 4) : s_X6_difference x y = nI (q_dd x y) ∧ q_dd x y ≤ 3 := by
  unfold q_dd
  rcases hx with rfl | hx
  · have e : s_X6_difference (-1) y = nI 0 := by unfold s_X6_difference; rw [if_pos rfl]; rfl
    rw [e, nI_clamp (by omega)]
    exact ⟨rfl, by omega⟩
  · obtain ⟨e, he, e1, -⟩ := q_far hx hy
    rw [e1, nI_clamp (by omega)]
    exact ⟨rfl, by omega⟩
def q_wy (B : Nat → Nat → Nat) (v : Nat → Int32) (lo : Nat) : Nat := q_S (fun l => q_S (fun i => B l i * q_dd (v l) (v i)) l) lo
theorem q_wy_s (B : Nat → Nat → Nat) (v : Nat → Int32) (lo : Nat) : q_wy B v (lo + 1) = q_wy B v lo + q_S (fun i => B lo i * q_dd (v lo) (v i)) lo := rfl
theorem q_wy_cg {B : Nat → Nat → Nat} {v w : Nat → Int32} {lo : Nat} (h : ∀ l, l < lo → v l = w l) : q_wy B v lo = q_wy B w lo := q_S_cg (fun l hl => q_S_cg (fun i hi => by rw [h l hl, h i (by omega)]))
theorem q_wy_le (B : Nat → Nat → Nat) (v : Nat → Int32) (lo k : Nat) : q_wy B v lo ≤ q_wy B v (lo + k) := by
  induction k with
  | zero => exact Nat.le_refl _
  | succ k ih => rw [← Nat.add_assoc, q_wy_s]; omega
def q_Mx (o : Nat → Bool) (lo : Nat) : Nat → Nat
  | 0 => 1
  | k + 1 => if o lo = true then 4 * q_Mx o (lo + 1) k else q_Mx o (lo + 1) k
theorem q_Mx_s (o : Nat → Bool) (lo k : Nat) : q_Mx o lo (k + 1) = if o lo = true then 4 * q_Mx o (lo + 1) k else q_Mx o (lo + 1) k := rfl
theorem q_Mx_Nm (o : Nat → Bool) (k : Nat) : ∀ lo, q_Nm o lo * q_Mx o lo k = q_Nm o (lo + k) := by
  induction k with
  | zero => intro lo; exact Nat.mul_one _
  | succ k ih =>
    intro lo
    rw [q_Mx_s, show lo + (k + 1) = lo + 1 + k by omega, ← ih (lo + 1), q_Nm_s]
    split
    · rw [Nat.mul_comm 4 (q_Nm o lo), Nat.mul_assoc]
    · rfl
theorem itR_add {α : Type} (F : Nat → α → α) (a : Nat) : ∀ (b k : Nat) (z : α), itR F (a + b) k z = itR F b (k + a) (itR F a k z) := by
  induction a with
  | zero => intro b k z; rw [Nat.zero_add]; rfl
  | succ a ih =>
    intro b k z
    rw [show a + 1 + b = (a + b) + 1 by omega]
    show itR F (a + b) (k + 1) (F k z) = itR F b (k + (a + 1)) (itR F a (k + 1) (F k z))
    rw [ih, show k + 1 + a = k + (a + 1) by omega]
/-- a leaf below a prefix agrees with it -/
theorem q_P_pre (o : Nat → Bool) (b : Nat → Int32) (k : Nat) : ∀ (lo c j : Nat), j < q_Mx o lo k → ∀ l, l < lo → q_P o b (lo + k) (c * q_Mx o lo k + j) l = q_P o b lo c l := by
  induction k with
  | zero =>
    intro lo c j hj l hl
    have : j = 0 := by have : j < 1 := hj; omega
    subst this
    show q_P o b lo (c * 1 + 0) l = _
    rw [Nat.mul_one, Nat.add_zero]
  | succ k ih =>
    intro lo c j hj l hl
    rw [q_Mx_s] at hj ⊢
    rw [show lo + (k + 1) = lo + 1 + k by omega]
    by_cases c1 : o lo = true
    · rw [if_pos c1] at hj ⊢
      have hM : 0 < q_Mx o (lo + 1) k := by omega
      have e : c * (4 * q_Mx o (lo + 1) k) + j = (c * 4 + j / q_Mx o (lo + 1) k) * q_Mx o (lo + 1) k + j % q_Mx o (lo + 1) k := by
        have := Nat.div_add_mod j (q_Mx o (lo + 1) k)
        rw [Nat.add_mul, ← Nat.mul_assoc]
        have h2 : q_Mx o (lo + 1) k * (j / q_Mx o (lo + 1) k) = j / q_Mx o (lo + 1) k * q_Mx o (lo + 1) k := Nat.mul_comm _ _
        omega
      have hq : j / q_Mx o (lo + 1) k < 4 := Nat.div_lt_of_lt_mul (by rw [Nat.mul_comm]; exact hj)
      rw [e, ih (lo + 1) _ _ (Nat.mod_lt _ hM) l (by omega), q_P_s, if_neg (by omega), if_pos c1, (fun q (hq : q < 4) => by omega : ∀ q, q < 4 → (c * 4 + q) / 4 = c) _ hq]
    · rw [if_neg c1] at hj ⊢
      rw [ih (lo + 1) c j hj l (by omega), q_P_s, if_neg (by omega), if_neg c1]
def q_stC (w : Int32) (v : Nat → Int32) (a : Int32 × (Nat → Int32)) : Int32 × (Nat → Int32) := if w < a.1 then (w, v) else a
/-- plans that have as many ways as the least change nothing -/
theorem q_stC_no {W : Nat → Int32} {V : Nat → Nat → Int32} (n : Nat) : ∀ (c : Nat) (a : Int32 × (Nat → Int32)), (∀ j, j < n → ¬ W (c + j) < a.1) → itR (fun c a => q_stC (W c) (V c) a) n c a = a := by
  induction n with
  | zero => intro c a _; rfl
  | succ n ih =>
    intro c a h
    show itR _ n (c + 1) (q_stC (W c) (V c) a) = a
    have e : q_stC (W c) (V c) a = a := if_neg (h 0 (by omega))
    rw [e]
    exact ih (c + 1) a (fun j hj => by rw [show c + 1 + j = c + (j + 1) by omega]; exact h (j + 1) (by omega))
