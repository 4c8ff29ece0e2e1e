theorem k_keep (D : KD) (r i k : Nat) (x : Int32) {i2 : Nat} {f : Nat → Int32} (h : ¬ (15 = r ∧ i2 = i)) (e : D 15 i2 = f) : k_d D r i k x 15 i2 = f := (k_d_off D x h).trans e
/-- what the reference's cells always are: counts, whole numbers of lorries, doors -/
def mWF (D : KD) (nl nt ng : Nat) : Prop :=
  (D 14 0 1 = nI nl ∧ nl ≤ 8) ∧ (D 14 0 2 = nI nt ∧ nt ≤ 16) ∧ (D 14 0 3 = nI ng ∧ ng ≤ 4) ∧
  (∀ t, t < nt → vp_in (D 15 12 t) nl ∧ vp_in (D 15 13 t) nl) ∧
  (∀ l, l < nl → D 15 4 l = -1 ∨ vp_in (D 15 4 l) 4) ∧
  (∀ l, l < nl → (D 15 11 l = 121 ∨ D 15 11 l = 100) → D 15 4 l ≠ -1) ∧
  (∀ d, d < 4 → D 15 23 d = -1 ∨ (vp_in (D 15 23 d) nl ∧ D 15 11 (D 15 23 d).toNatClampNeg = 100 ∧ D 15 4 (D 15 23 d).toNatClampNeg = nI d)) ∧
  (∀ l, l < nl → D 15 11 l = 100 → D 15 23 (D 15 4 l).toNatClampNeg = nI l) ∧
  (∀ l, l < nl → D 15 11 l = 101 ∨ D 15 11 l = 121 ∨ D 15 11 l = 100 ∨ D 15 11 l = 108)
theorem mWF.l {D : KD} {nl nt ng : Nat} (h : mWF D nl nt ng) : D 14 0 1 = nI nl := h.1.1
theorem mWF.l8 {D : KD} {nl nt ng : Nat} (h : mWF D nl nt ng) : nl ≤ 8 := h.1.2
theorem mWF.t {D : KD} {nl nt ng : Nat} (h : mWF D nl nt ng) : D 14 0 2 = nI nt := h.2.1.1
theorem mWF.t16 {D : KD} {nl nt ng : Nat} (h : mWF D nl nt ng) : nt ≤ 16 := h.2.1.2
theorem mWF.g {D : KD} {nl nt ng : Nat} (h : mWF D nl nt ng) : D 14 0 3 = nI ng := h.2.2.1.1
theorem mWF.g4 {D : KD} {nl nt ng : Nat} (h : mWF D nl nt ng) : ng ≤ 4 := h.2.2.1.2
theorem vp_in.mono {x : Int32} {a b : Nat} (h : vp_in x a) (hab : a ≤ b) : vp_in x b := fun q => h (q.imp id (fun z => by omega))
theorem mWF.fr {D : KD} {nl nt ng : Nat} (h : mWF D nl nt ng) {t : Nat} (ht : t < nt) : vp_in (D 15 12 t) 8 := (h.2.2.2.1 t ht).1.mono h.l8
theorem mWF.to {D : KD} {nl nt ng : Nat} (h : mWF D nl nt ng) {t : Nat} (ht : t < nt) : vp_in (D 15 13 t) 8 := (h.2.2.2.1 t ht).2.mono h.l8
theorem mWF.frl {D : KD} {nl nt ng : Nat} (h : mWF D nl nt ng) {t : Nat} (ht : t < nt) : vp_in (D 15 12 t) nl := (h.2.2.2.1 t ht).1
theorem mWF.tol {D : KD} {nl nt ng : Nat} (h : mWF D nl nt ng) {t : Nat} (ht : t < nt) : vp_in (D 15 13 t) nl := (h.2.2.2.1 t ht).2
theorem mWF.dr {D : KD} {nl nt ng : Nat} (h : mWF D nl nt ng) {l : Nat} (hl : l < nl) (h1 : D 15 4 l ≠ -1) : vp_in (D 15 4 l) 4 := (h.2.2.2.2.1 l hl).resolve_left h1
theorem mWF.put15 {D : KD} {nl nt ng : Nat} (h : mWF D nl nt ng) {j k : Nat} {x : Int32} (hj : j ≠ 4 ∧ j ≠ 11 ∧ j ≠ 12 ∧ j ≠ 13 ∧ j ≠ 23) : mWF (k_d D 15 j k x) nl nt ng := by
  have e4 : k_d D 15 j k x 15 4 = D 15 4 := k_d_off D x (fun z => hj.1 z.2.symm)
  have e11 : k_d D 15 j k x 15 11 = D 15 11 := k_d_off D x (fun z => hj.2.1 z.2.symm)
  have e12 : k_d D 15 j k x 15 12 = D 15 12 := k_d_off D x (fun z => hj.2.2.1 z.2.symm)
  have e13 : k_d D 15 j k x 15 13 = D 15 13 := k_d_off D x (fun z => hj.2.2.2.1 z.2.symm)
  have e23 : k_d D 15 j k x 15 23 = D 15 23 := k_d_off D x (fun z => hj.2.2.2.2 z.2.symm)
  have e14 : k_d D 15 j k x 14 0 = D 14 0 := k_d_off D x (fun z => absurd z.1 (by decide))
  unfold mWF at h ⊢
  rw [e4, e11, e12, e13, e23, e14]
  exact h
theorem mWF.put14 {D : KD} {nl nt ng : Nat} (h : mWF D nl nt ng) {i k : Nat} {x : Int32} (hk : k ≠ 1 ∧ k ≠ 2 ∧ k ≠ 3) : mWF (k_d D 14 i k x) nl nt ng := by
  have e (j : Nat) : k_d D 14 i k x 15 j = D 15 j := k_d_off D x (fun z => absurd z.1 (by decide))
  have e1 : k_d D 14 i k x 14 0 1 = D 14 0 1 := if_neg (fun z => hk.1 z.2.2.symm)
  have e2 : k_d D 14 i k x 14 0 2 = D 14 0 2 := if_neg (fun z => hk.2.1 z.2.2.symm)
  have e3 : k_d D 14 i k x 14 0 3 = D 14 0 3 := if_neg (fun z => hk.2.2 z.2.2.symm)
  unfold mWF at h ⊢
  rw [e, e, e, e, e, e1, e2, e3]
  exact h
theorem vp_in_toI {x : Int32} {N : Nat} (hN : N < 2 ^ 31) (h1 : ¬ x < 0) (h2 : ¬ x > nI N - 1) (hN0 : 0 < N) : vp_in x N := by
  obtain ⟨j, hj, rfl⟩ := nI_of h1
  have h3 : ¬ nI (N - 1) < nI j := by
    have e : nI N - 1 = nI (N - 1) := by
      have := nI_pred (N - 1)
      rw [show N - 1 + 1 = N by omega] at this
      exact this
    rw [← e]
    exact h2
  have := mt (nI_ltI (a := N - 1) (b := j) (by omega) hj).mpr h3
  exact vp_in_nI (by omega) hN
theorem vp_in.lt {x : Int32} {n : Nat} (h : vp_in x n) : x.toNatClampNeg < n := Nat.not_le.mp fun q => h (Or.inr q)
theorem vp_in.eq {x : Int32} {n : Nat} (h : vp_in x n) (hn : n < 2 ^ 31) : x = nI x.toNatClampNeg := by
  obtain ⟨j, hj, rfl⟩ := vp_in_of h hn
  rw [nI_clamp (by omega)]
theorem mWF.sd {D : KD} {nl nt ng : Nat} (h : mWF D nl nt ng) {l : Nat} (hl : l < nl) (hs : D 15 11 l = 121 ∨ D 15 11 l = 100) : D 15 4 l ≠ -1 := h.2.2.2.2.2.1 l hl hs
theorem mWF.sdr {D : KD} {nl nt ng : Nat} (h : mWF D nl nt ng) {l : Nat} (hl : l < nl) (hs : D 15 11 l = 121 ∨ D 15 11 l = 100) : vp_in (D 15 4 l) 4 := h.dr hl (h.sd hl hs)
theorem mWF.ind {D : KD} {nl nt ng : Nat} (h : mWF D nl nt ng) {d : Nat} (hd : d < 4) (h1 : D 15 23 d ≠ -1) : vp_in (D 15 23 d) nl ∧ D 15 11 (D 15 23 d).toNatClampNeg = 100 ∧ D 15 4 (D 15 23 d).toNatClampNeg = nI d := (h.2.2.2.2.2.2.1 d hd).resolve_left h1
theorem it_ind {α : Type} {f : Nat → α → α} {P : α → Prop} {a : α} {n : Nat} (h0 : P a) (hs : ∀ k, k < n → ∀ z, P z → P (f k z)) : P (it f n a) := by
  induction n with
  | zero => exact h0
  | succ n ih => exact hs n (by omega) _ (ih (fun k hk => hs k (by omega)))
theorem it_indk {α : Type} {f : Nat → α → α} {P : Nat → α → Prop} {a : α} {n : Nat} (h0 : P 0 a) (hs : ∀ k, k < n → ∀ z, P k z → P (k + 1) (f k z)) : P n (it f n a) := by
  induction n with
  | zero => exact h0
  | succ n ih => exact hs n (by omega) _ (ih (fun k hk => hs k (by omega)))
theorem k_d_at (D : KD) (r i k : Nat) (x : Int32) : k_d D r i k x r i k = x := by simp [k_d]
theorem k_d_ne (D : KD) {r i k k2 : Nat} (x : Int32) (h : k2 ≠ k) : k_d D r i k x r i k2 = D r i k2 := by simp [k_d, h]
theorem nI_addE {a b : Int32} {x y : Nat} (h1 : a = nI x) (h2 : b = nI y) : a + b = nI (x + y) := by rw [h1, h2, nI_add]
theorem nI_mulE {a b : Int32} {x y : Nat} (h1 : a = nI x) (h2 : b = nI y) : a * b = nI (x * y) := by rw [h1, h2, pk_mul]
theorem nI_clE {a : Int32} {x : Nat} (h : a = nI x) (hx : x < 2 ^ 31) : a.toNatClampNeg = x := by rw [h, nI_clamp hx]
theorem vp_in_E {a : Int32} {x N : Nat} (h : a = nI x) (hx : x < N) (hN : N < 2 ^ 31) : vp_in a N := by rw [h]; exact vp_in_nI hx hN
theorem mWF.st {D : KD} {nl nt ng : Nat} (h : mWF D nl nt ng) {l : Nat} (hl : l < nl) : D 15 11 l = 101 ∨ D 15 11 l = 121 ∨ D 15 11 l = 100 ∨ D 15 11 l = 108 := h.2.2.2.2.2.2.2.2 l hl
theorem mWF.nch {D : KD} {nl nt ng : Nat} (h : mWF D nl nt ng) {l : Nat} (hl : l < nl) : narrow .char (.int (D 15 11 l)) = .int (D 15 11 l) := by
  rcases h.st hl with q | q | q | q <;> rw [q] <;> decide
def s_X7_isIn (x : Int32) (lo : Int32) (hi : Int32) : Int32 := (if x < lo then 0 else (if x > hi then 0 else 1))
def s_X7_thrown (D : KD) : Int32 := D 14 0 0
def s_X7_fail (D : KD) (q : Int32) : KD × Int32 := (k_d D 14 0 0 q, 0)
def j_X7_noLorry_20 (D : KD) (l0 : Int32) : Int32 := (if (s_X7_isIn l0 0 ((D 14 0 1) - 1)) = 0 then 1 else 0)
def s_X7_noLorry (D : KD) (l0 : Int32) : KD × Int32 := (if (j_X7_noLorry_20 D l0) = 0 then (k_d D 14 0 0 (j_X7_noLorry_20 D l0), 0) else (k_d D 14 0 0 (j_X7_noLorry_20 D l0), 1))
def j_X7_noDoor_15 (D : KD) (d : Int32) : Int32 := (if (s_X7_isIn d 0 3) = 0 then 1 else 0)
def s_X7_noDoor (D : KD) (d : Int32) : KD × Int32 := (if (j_X7_noDoor_15 D d) = 0 then (k_d D 14 0 0 (j_X7_noDoor_15 D d), 0) else (k_d D 14 0 0 (j_X7_noDoor_15 D d), 1))
def j_X7_noTransfer_20 (D : KD) (t : Int32) : Int32 := (if (s_X7_isIn t 0 ((D 14 0 2) - 1)) = 0 then 1 else 0)
def s_X7_noTransfer (D : KD) (t : Int32) : KD × Int32 := (if (j_X7_noTransfer_20 D t) = 0 then (k_d D 14 0 0 (j_X7_noTransfer_20 D t), 0) else (k_d D 14 0 0 (j_X7_noTransfer_20 D t), 1))
def s_X7_isGone (D : KD) (l0 : Int32) : Int32 := (if (D 15 11 (l0.toNatClampNeg)) = 100 then 1 else (if (D 15 11 (l0.toNatClampNeg)) = 108 then 1 else 0))
def j_X7_missing_36 (D : KD) (nl : Nat) (nt : Nat) (ng : Nat) (l0 : Int32) (k4 : Nat) (z4 : Int32) : Int32 := (if (D 15 0 (l0.toNatClampNeg)) = 0 then (D 15 13 k4) else (D 15 12 k4))
def j_X7_missing_71 (D : KD) (nl : Nat) (nt : Nat) (ng : Nat) (l0 : Int32) (k4 : Nat) (z4 : Int32) : Int32 := (if (D 15 0 (l0.toNatClampNeg)) = 0 then (D 15 17 k4) else (D 15 15 k4))
def f_X7_missing_4 (D : KD) (nl : Nat) (nt : Nat) (ng : Nat) (l0 : Int32) (k4 : Nat) (z4 : Int32) : Int32 := (if (j_X7_missing_36 D nl nt ng l0 k4 z4) = l0 then (z4 + ((D 15 14 k4) - (j_X7_missing_71 D nl nt ng l0 k4 z4))) else z4)
def l_X7_missing_4 (D : KD) (nl : Nat) (nt : Nat) (ng : Nat) (l0 : Int32) : Int32 := it (f_X7_missing_4 D nl nt ng l0) nt 0
def s_X7_missing (D : KD) (nl : Nat) (nt : Nat) (ng : Nat) (l0 : Int32) : Int32 := (l_X7_missing_4 D nl nt ng l0)
def j_X7_powerOf_57 (D : KD) (nl : Nat) (nt : Nat) (ng : Nat) (d : Int32) (k4 : Nat) (z4 : Int32) : Int32 := (if (D 15 22 k4) = d then (if (s_X7_isIn (D 14 0 4) (D 15 20 k4) ((D 15 21 k4) - 1)) = 0 then 0 else (D 15 19 k4)) else 0)
def f_X7_powerOf_4 (D : KD) (nl : Nat) (nt : Nat) (ng : Nat) (d : Int32) (k4 : Nat) (z4 : Int32) : Int32 := (z4 + (j_X7_powerOf_57 D nl nt ng d k4 z4))
def l_X7_powerOf_4 (D : KD) (nl : Nat) (nt : Nat) (ng : Nat) (d : Int32) : Int32 := it (f_X7_powerOf_4 D nl nt ng d) ng 0
def s_X7_powerOf (D : KD) (nl : Nat) (nt : Nat) (ng : Nat) (d : Int32) : Int32 := (l_X7_powerOf_4 D nl nt ng d)
def s_X7_isBefore (D : KD) (a : Int32) (b : Int32) : Int32 := (if (D 15 5 (a.toNatClampNeg)) < (D 15 5 (b.toNatClampNeg)) then 1 else (if (D 15 5 (a.toNatClampNeg)) = (D 15 5 (b.toNatClampNeg)) then (if a ≥ b then 0 else 1) else 0))
def j_X7_queued_95 (D : KD) (nl : Nat) (nt : Nat) (ng : Nat) (d : Int32) (pl : Int32) (k2 : Nat) (k40 : Nat) (z40 : Int32) : Int32 := (if (D 15 11 k40) = 121 then (if (D 15 4 k40) = d then (if (nI k40) = (nI k2) then 0 else (if (s_X7_isBefore D (nI k40) (nI k2)) = 0 then 0 else 1)) else 0) else 0)
def f_X7_queued_40 (D : KD) (nl : Nat) (nt : Nat) (ng : Nat) (d : Int32) (pl : Int32) (k2 : Nat) (k40 : Nat) (z40 : Int32) : Int32 := (z40 + (j_X7_queued_95 D nl nt ng d pl k2 k40 z40))
def l_X7_queued_40 (D : KD) (nl : Nat) (nt : Nat) (ng : Nat) (d : Int32) (pl : Int32) (k2 : Nat) : Int32 := it (f_X7_queued_40 D nl nt ng d pl k2) nl 0
def r_X7_queued_2 (D : KD) (nl : Nat) (nt : Nat) (ng : Nat) (d : Int32) (pl : Int32) : Nat → Nat → Int32
  | 0, k2 => (-1)
  | f2 + 1, k2 => (if (D 15 11 k2) = 121 then (if (D 15 4 k2) = d then (if (l_X7_queued_40 D nl nt ng d pl k2) = pl then nI k2 else r_X7_queued_2 D nl nt ng d pl f2 (k2 + 1) ) else r_X7_queued_2 D nl nt ng d pl f2 (k2 + 1) ) else r_X7_queued_2 D nl nt ng d pl f2 (k2 + 1) )
theorem r_X7_queued_2_0 (D : KD) (nl : Nat) (nt : Nat) (ng : Nat) (d : Int32) (pl : Int32) (k2 : Nat)  : r_X7_queued_2 D nl nt ng d pl 0 k2  = (-1) := rfl
theorem r_X7_queued_2_s (D : KD) (nl : Nat) (nt : Nat) (ng : Nat) (d : Int32) (pl : Int32) (f2 k2 : Nat)  : r_X7_queued_2 D nl nt ng d pl (f2 + 1) k2  = (if (D 15 11 k2) = 121 then (if (D 15 4 k2) = d then (if (l_X7_queued_40 D nl nt ng d pl k2) = pl then nI k2 else r_X7_queued_2 D nl nt ng d pl f2 (k2 + 1) ) else r_X7_queued_2 D nl nt ng d pl f2 (k2 + 1) ) else r_X7_queued_2 D nl nt ng d pl f2 (k2 + 1) ) := rfl
def s_X7_queued (D : KD) (nl : Nat) (nt : Nat) (ng : Nat) (d : Int32) (pl : Int32) : Int32 := r_X7_queued_2 D nl nt ng d pl (nl - 0) 0 
theorem mWF.drn {D : KD} {nl nt ng : Nat} (h : mWF D nl nt ng) {x : Int32} (hx : vp_in x nl) : D 15 4 x.toNatClampNeg = -1 ∨ vp_in (D 15 4 x.toNatClampNeg) 4 := h.2.2.2.2.1 _ (Nat.not_le.mp fun q => hx (Or.inr q))
theorem mFar4 : ∀ i, i < 4 → ∀ j, j < 4 → ∃ f, f < 4 ∧ (if nI i - nI j ≥ 0 then nI i - nI j else -(nI i - nI j)) = nI f := by decide
theorem mFar_in {a b : Int32} (ha : vp_in a 4) (hb : b = -1 ∨ vp_in b 4) : ∃ f, f < 4 ∧ (if (if b = -1 then 0 else a - b) ≥ 0 then (if b = -1 then 0 else a - b) else -(if b = -1 then 0 else a - b)) = nI f := by
  by_cases hb1 : b = -1
  · subst hb1
    exact ⟨0, by decide, by simp only [if_pos]; rfl⟩
  · obtain ⟨i, hi, rfl⟩ := vp_in_of ha (by decide)
    obtain ⟨j, hj, rfl⟩ := vp_in_of (hb.resolve_left hb1) (by decide)
    rw [if_neg hb1]
    exact mFar4 i hi j hj
theorem mSoon_in {k : Nat} (hk : k < 16) {x : Int32} (h : ∃ f, f < 4 ∧ x = nI f) : vp_in (4 * (nI k) + x) 64 := by
  obtain ⟨f, hf, rfl⟩ := h
  have e : (4 : Int32) * nI k + nI f = nI (4 * k + f) := by
    rw [show (4 : Int32) = nI 4 from rfl, pk_mul, nI_add]
  rw [e]
  exact vp_in_nI (by omega) (by decide)

def j_X7_unload_87 (D : KD) (nl : Nat) (nt : Nat) (ng : Nat) (l0 : Int32) (pw : Int32) (k5 : Nat) (z5 : KD × Int32) : Int32 := (if z5.2 ≥ ((z5.1 15 14 k5) - (z5.1 15 15 k5)) then ((z5.1 15 14 k5) - (z5.1 15 15 k5)) else z5.2)
def j_X7_unload_128 (D : KD) (nl : Nat) (nt : Nat) (ng : Nat) (l0 : Int32) (pw : Int32) (k5 : Nat) (z5 : KD × Int32) : Int32 := (if (z5.1 15 4 ((z5.1 15 13 k5).toNatClampNeg)) = (-1) then 0 else ((z5.1 15 4 (l0.toNatClampNeg)) - (z5.1 15 4 ((z5.1 15 13 k5).toNatClampNeg))))
def j_X7_unload_163 (D : KD) (nl : Nat) (nt : Nat) (ng : Nat) (l0 : Int32) (pw : Int32) (k5 : Nat) (z5 : KD × Int32) : Int32 := (if (j_X7_unload_128 D nl nt ng l0 pw k5 z5) ≥ 0 then (j_X7_unload_128 D nl nt ng l0 pw k5 z5) else (-(j_X7_unload_128 D nl nt ng l0 pw k5 z5)))
def f_X7_unload_5 (D : KD) (nl : Nat) (nt : Nat) (ng : Nat) (l0 : Int32) (pw : Int32) (k5 : Nat) (z5 : KD × Int32) : KD × Int32 := (if (z5.1 15 12 k5) = l0 then (if (z5.1 15 15 k5) = (z5.1 15 14 k5) then (z5.1, z5.2) else (if z5.2 = 0 then (z5.1, z5.2) else ((k_d (k_d (k_d z5.1 15 15 k5 ((z5.1 15 15 k5) + (j_X7_unload_87 D nl nt ng l0 pw k5 z5))) 15 18 (((4 * (nI k5)) + (j_X7_unload_163 D nl nt ng l0 pw k5 z5)).toNatClampNeg) ((z5.1 15 18 (((4 * (nI k5)) + (j_X7_unload_163 D nl nt ng l0 pw k5 z5)).toNatClampNeg)) + (j_X7_unload_87 D nl nt ng l0 pw k5 z5))) 15 1 (l0.toNatClampNeg) 1), (z5.2 - (j_X7_unload_87 D nl nt ng l0 pw k5 z5))))) else (z5.1, z5.2))
def l_X7_unload_5 (D : KD) (nl : Nat) (nt : Nat) (ng : Nat) (l0 : Int32) (pw : Int32) : KD × Int32 := it (f_X7_unload_5 D nl nt ng l0 pw) nt (D, pw)
def s_X7_unload (D : KD) (nl : Nat) (nt : Nat) (ng : Nat) (l0 : Int32) (pw : Int32) : KD := (l_X7_unload_5 D nl nt ng l0 pw).1
def j_X7_load_64 (D : KD) (nl : Nat) (nt : Nat) (ng : Nat) (l0 : Int32) (pw : Int32) (k5 : Nat) (z5 : KD × Int32) : Int32 := (if z5.2 ≥ (z5.1 15 16 k5) then (z5.1 15 16 k5) else z5.2)
def f_X7_load_5 (D : KD) (nl : Nat) (nt : Nat) (ng : Nat) (l0 : Int32) (pw : Int32) (k5 : Nat) (z5 : KD × Int32) : KD × Int32 := (if (z5.1 15 13 k5) = l0 then (if (z5.1 15 16 k5) = 0 then (z5.1, z5.2) else (if z5.2 = 0 then (z5.1, z5.2) else ((k_d (k_d (k_d z5.1 15 16 k5 ((z5.1 15 16 k5) - (j_X7_load_64 D nl nt ng l0 pw k5 z5))) 15 17 k5 ((z5.1 15 17 k5) + (j_X7_load_64 D nl nt ng l0 pw k5 z5))) 15 1 (l0.toNatClampNeg) 1), (z5.2 - (j_X7_load_64 D nl nt ng l0 pw k5 z5))))) else (z5.1, z5.2))
def l_X7_load_5 (D : KD) (nl : Nat) (nt : Nat) (ng : Nat) (l0 : Int32) (pw : Int32) : KD × Int32 := it (f_X7_load_5 D nl nt ng l0 pw) nt (D, pw)
def s_X7_load (D : KD) (nl : Nat) (nt : Nat) (ng : Nat) (l0 : Int32) (pw : Int32) : KD := (l_X7_load_5 D nl nt ng l0 pw).1
theorem mWF_unload {D : KD} {nl nt ng : Nat} (h : mWF D nl nt ng) (l0 pw : Int32) : mWF (s_X7_unload D nl nt ng l0 pw) nl nt ng := by
  unfold s_X7_unload
  refine it_ind (P := fun z : KD × Int32 => mWF z.1 nl nt ng) h ?_
  intro k _ z hz
  unfold f_X7_unload_5
  split
  · split
    · exact hz
    · split
      · exact hz
      · exact ((hz.put15 (by decide)).put15 (by decide)).put15 (by decide)
  · exact hz
theorem mWF_load {D : KD} {nl nt ng : Nat} (h : mWF D nl nt ng) (l0 pw : Int32) : mWF (s_X7_load D nl nt ng l0 pw) nl nt ng := by
  unfold s_X7_load
  refine it_ind (P := fun z : KD × Int32 => mWF z.1 nl nt ng) h ?_
  intro k _ z hz
  unfold f_X7_load_5
  split
  · split
    · exact hz
    · split
      · exact hz
      · exact ((hz.put15 (by decide)).put15 (by decide)).put15 (by decide)
  · exact hz
theorem m1_unload {D : KD} {nl nt ng : Nat} {l0 pw : Int32} {j : Nat} (hj : j ≠ 15 ∧ j ≠ 18 ∧ j ≠ 1) : s_X7_unload D nl nt ng l0 pw 15 j = D 15 j := by
  unfold s_X7_unload
  refine it_ind (P := fun z : KD × Int32 => z.1 15 j = D 15 j) rfl ?_
  intro k _ z hz
  unfold f_X7_unload_5
  split
  · split
    · exact hz
    · split
      · exact hz
      · exact k_keep _ _ _ _ _ (fun q => hj.2.2 q.2) (k_keep _ _ _ _ _ (fun q => hj.2.1 q.2) (k_keep _ _ _ _ _ (fun q => hj.1 q.2) hz))
  · exact hz
theorem m1_load {D : KD} {nl nt ng : Nat} {l0 pw : Int32} {j : Nat} (hj : j ≠ 16 ∧ j ≠ 17 ∧ j ≠ 1) : s_X7_load D nl nt ng l0 pw 15 j = D 15 j := by
  unfold s_X7_load
  refine it_ind (P := fun z : KD × Int32 => z.1 15 j = D 15 j) rfl ?_
  intro k _ z hz
  unfold f_X7_load_5
  split
  · split
    · exact hz
    · split
      · exact hz
      · exact k_keep _ _ _ _ _ (fun q => hj.2.2 q.2) (k_keep _ _ _ _ _ (fun q => hj.2.1 q.2) (k_keep _ _ _ _ _ (fun q => hj.1 q.2) hz))
  · exact hz
/-- the queue's lorry at a place -/
theorem mQ_r {D : KD} {nl nt ng : Nat} {d pl : Int32} : ∀ f k, f + k = nl → r_X7_queued_2 D nl nt ng d pl f k = -1 ∨ ∃ l, k ≤ l ∧ l < nl ∧ r_X7_queued_2 D nl nt ng d pl f k = nI l ∧ D 15 11 l = 121 ∧ D 15 4 l = d ∧ it (f_X7_queued_40 D nl nt ng d pl l) nl 0 = pl := by
  intro f
  induction f with
  | zero => intro k _; exact Or.inl rfl
  | succ f ih =>
    intro k hk
    have hnext : r_X7_queued_2 D nl nt ng d pl f (k + 1) = -1 ∨ ∃ l, k ≤ l ∧ l < nl ∧ r_X7_queued_2 D nl nt ng d pl f (k + 1) = nI l ∧ D 15 11 l = 121 ∧ D 15 4 l = d ∧ it (f_X7_queued_40 D nl nt ng d pl l) nl 0 = pl := by
      rcases ih (k + 1) (by omega) with h | ⟨l, h1, h2⟩
      · exact Or.inl h
      · exact Or.inr ⟨l, by omega, h2⟩
    rw [r_X7_queued_2_s]
    split
    · next h1 =>
      split
      · next h2 =>
        split
        · next h3 => exact Or.inr ⟨k, Nat.le_refl _, by omega, rfl, h1, h2, h3⟩
        · exact hnext
      · exact hnext
    · exact hnext
theorem mQ_some {D : KD} {nl nt ng : Nat} {d pl : Int32} (h : s_X7_queued D nl nt ng d pl ≠ -1) : ∃ l, l < nl ∧ s_X7_queued D nl nt ng d pl = nI l ∧ D 15 11 l = 121 ∧ D 15 4 l = d ∧ it (f_X7_queued_40 D nl nt ng d pl l) nl 0 = pl := by
  unfold s_X7_queued at h ⊢
  rcases mQ_r (D := D) (nl := nl) (nt := nt) (ng := ng) (d := d) (pl := pl) (nl - 0) 0 (by omega) with q | ⟨l, -, q⟩
  · exact absurd q h
  · exact ⟨l, q⟩
theorem mQ_in {D : KD} {nl nt ng : Nat} (h8 : nl ≤ 8) {d pl : Int32} (h : s_X7_queued D nl nt ng d pl ≠ -1) : vp_in (s_X7_queued D nl nt ng d pl) 8 := by
  obtain ⟨l, hl, e, -⟩ := mQ_some h
  rw [e]
  exact vp_in_nI (by omega) (by decide)
theorem mWF.fill0 {D : KD} {nl nt ng : Nat} (h : mWF D nl nt ng) {d : Nat} {x : Int32} (h0 : D 15 23 d = -1) (hx : x = -1) : mWF (k_d D 15 23 d x) nl nt ng := by
  have e : k_d D 15 23 d x = D := by
    funext r i k
    unfold k_d
    split
    · next q => rw [hx, q.1, q.2.1, q.2.2, h0]
    · rfl
  rw [e]
  exact h
theorem nI_ne {a b : Nat} (ha : a < 2 ^ 31) (hb : b < 2 ^ 31) (h : a ≠ b) : nI a ≠ nI b := fun q => h ((nI_eq ha hb).mp q)
theorem mWF.fill1 {D : KD} {nl nt ng : Nat} (h : mWF D nl nt ng) {d l : Nat} (hd : d < 4) (h0 : D 15 23 d = -1) (hl : l < nl) (hs : D 15 11 l = 121) (hdr : D 15 4 l = nI d) : mWF (k_d (k_d D 15 23 d (nI l)) 15 11 l 100) nl nt ng := by
  have h8 := h.l8
  have a4 : k_d (k_d D 15 23 d (nI l)) 15 11 l 100 15 4 = D 15 4 := k_keep _ _ _ _ _ (by decide) (k_keep _ _ _ _ _ (by decide) rfl)
  have a12 : k_d (k_d D 15 23 d (nI l)) 15 11 l 100 15 12 = D 15 12 := k_keep _ _ _ _ _ (by decide) (k_keep _ _ _ _ _ (by decide) rfl)
  have a13 : k_d (k_d D 15 23 d (nI l)) 15 11 l 100 15 13 = D 15 13 := k_keep _ _ _ _ _ (by decide) (k_keep _ _ _ _ _ (by decide) rfl)
  have a14 : k_d (k_d D 15 23 d (nI l)) 15 11 l 100 14 0 = D 14 0 := by
    rw [k_d_off _ _ (by decide), k_d_off _ _ (by decide)]
  have a23 : k_d (k_d D 15 23 d (nI l)) 15 11 l 100 15 23 = k_d D 15 23 d (nI l) 15 23 := k_keep _ _ _ _ _ (by decide) rfl
  have a11 : k_d (k_d D 15 23 d (nI l)) 15 11 l 100 15 11 = k_d D 15 11 l 100 15 11 := by
    rw [k_d_row, k_d_row, k_d_off _ _ (by decide)]
  have s11 : ∀ m, m ≠ l → k_d D 15 11 l 100 15 11 m = D 15 11 m := fun m hm => k_d_ne _ _ hm
  have s23 : ∀ m, m ≠ d → k_d D 15 23 d (nI l) 15 23 m = D 15 23 m := fun m hm => k_d_ne _ _ hm
  obtain ⟨h1, h2, h3, h4, h5, h6, h7, h9, h10⟩ := h
  unfold mWF
  rw [a4, a12, a13, a14, a23, a11]
  refine ⟨h1, h2, h3, h4, h5, ?_, ?_, ?_, fun m hm => ?_⟩
  · intro m hm q
    by_cases e : m = l
    · subst e
      exact h6 _ hm (Or.inl hs)
    · rw [s11 m e] at q
      exact h6 m hm q
  · intro e he
    by_cases q : e = d
    · subst q
      refine Or.inr ?_
      rw [k_d_at, nI_clamp (by omega)]
      exact ⟨vp_in_nI hl (by omega), k_d_at _ _ _ _ _, hdr⟩
    · rw [s23 e q]
      rcases h7 e he with z | ⟨z1, z2, z3⟩
      · exact Or.inl z
      · refine Or.inr ⟨z1, ?_, z3⟩
        by_cases w : (D 15 23 e).toNatClampNeg = l
        · rw [w, k_d_at]
        · rw [s11 _ w]
          exact z2
  · intro m hm q
    by_cases e : m = l
    · subst e
      rw [hdr, nI_clamp (by omega), k_d_at]
    · rw [s11 m e] at q
      have z := h9 m hm q
      have hne : (D 15 4 m).toNatClampNeg ≠ d := by
        intro w
        rw [w, h0] at z
        have : vp_in (nI m) 8 := vp_in_nI (by omega) (by decide)
        rw [← z] at this
        exact this (Or.inl (by decide))
      rw [s23 _ hne]
      exact z
  · by_cases e : m = l
    · rw [e, k_d_at]
      exact Or.inr (Or.inr (Or.inl rfl))
    · rw [s11 m e]
      exact h10 m hm

def r_X7_owesAtDoor_26 (D : KD) (nl : Nat) (nt : Nat) (ng : Nat) (l0 : Int32) : Nat → Nat → Int32
  | 0, k26 => (-1)
  | f26 + 1, k26 => (if (D 15 13 k26) = l0 then (if (D 15 15 k26) = (D 15 14 k26) then r_X7_owesAtDoor_26 D nl nt ng l0 f26 (k26 + 1)  else (if (D 15 11 ((D 15 12 k26).toNatClampNeg)) = 101 then (if (D 15 2 ((D 15 12 k26).toNatClampNeg)) > (D 14 0 4) then (-2) else D 15 12 k26) else (-1))) else r_X7_owesAtDoor_26 D nl nt ng l0 f26 (k26 + 1) )
theorem r_X7_owesAtDoor_26_0 (D : KD) (nl : Nat) (nt : Nat) (ng : Nat) (l0 : Int32) (k26 : Nat)  : r_X7_owesAtDoor_26 D nl nt ng l0 0 k26  = (-1) := rfl
theorem r_X7_owesAtDoor_26_s (D : KD) (nl : Nat) (nt : Nat) (ng : Nat) (l0 : Int32) (f26 k26 : Nat)  : r_X7_owesAtDoor_26 D nl nt ng l0 (f26 + 1) k26  = (if (D 15 13 k26) = l0 then (if (D 15 15 k26) = (D 15 14 k26) then r_X7_owesAtDoor_26 D nl nt ng l0 f26 (k26 + 1)  else (if (D 15 11 ((D 15 12 k26).toNatClampNeg)) = 101 then (if (D 15 2 ((D 15 12 k26).toNatClampNeg)) > (D 14 0 4) then (-2) else D 15 12 k26) else (-1))) else r_X7_owesAtDoor_26 D nl nt ng l0 f26 (k26 + 1) ) := rfl
def s_X7_owesAtDoor (D : KD) (nl : Nat) (nt : Nat) (ng : Nat) (l0 : Int32) : Int32 := (if (s_X7_powerOf D nl nt ng (D 15 4 (l0.toNatClampNeg))) = 0 then (-1) else (if (D 15 0 (l0.toNatClampNeg)) = 0 then r_X7_owesAtDoor_26 D nl nt ng l0 (nt - 0) 0  else (-1)))
def j_X7_owes_33 (D : KD) (nl : Nat) (nt : Nat) (ng : Nat) (l0 : Int32) (ah : Int32) : Int32 := (if (D 15 0 (l0.toNatClampNeg)) = 0 then 5 else 0)
def s_X7_owes (D : KD) (nl : Nat) (nt : Nat) (ng : Nat) (l0 : Int32) (ah : Int32) : Int32 := (if (D 14 0 4) < (D 15 2 (l0.toNatClampNeg)) then (-2) else (if (D 15 6 (l0.toNatClampNeg)) ≥ (j_X7_owes_33 D nl nt ng l0 ah) then (if (D 15 11 (l0.toNatClampNeg)) = 100 then (s_X7_owesAtDoor D nl nt ng l0) else (if (D 15 1 (ah.toNatClampNeg)) = 0 then (if (s_X7_owesAtDoor D nl nt ng ah) = (-2) then ah else (s_X7_owesAtDoor D nl nt ng ah)) else (if (D 15 5 (ah.toNatClampNeg)) ≤ (D 15 2 (ah.toNatClampNeg)) then (-1) else ah))) else (-2)))
theorem mOAD_r {D : KD} {nl nt ng : Nat} (h : mWF D nl nt ng) (l0 : Int32) : ∀ f k, f + k ≤ nt → r_X7_owesAtDoor_26 D nl nt ng l0 f k = -2 ∨ r_X7_owesAtDoor_26 D nl nt ng l0 f k = -1 ∨ vp_in (r_X7_owesAtDoor_26 D nl nt ng l0 f k) nl := by
  intro f
  induction f with
  | zero => intro k _; exact Or.inr (Or.inl rfl)
  | succ f ih =>
    intro k hk
    rw [r_X7_owesAtDoor_26_s]
    split
    · split
      · exact ih (k + 1) (by omega)
      · split
        · split
          · exact Or.inl rfl
          · exact Or.inr (Or.inr (h.frl (by omega)))
        · exact Or.inr (Or.inl rfl)
    · exact ih (k + 1) (by omega)
theorem mOAD_in {D : KD} {nl nt ng : Nat} (h : mWF D nl nt ng) (l0 : Int32) : s_X7_owesAtDoor D nl nt ng l0 = -2 ∨ s_X7_owesAtDoor D nl nt ng l0 = -1 ∨ vp_in (s_X7_owesAtDoor D nl nt ng l0) nl := by
  unfold s_X7_owesAtDoor
  split
  · exact Or.inr (Or.inl rfl)
  · split
    · exact mOAD_r h l0 _ 0 (by omega)
    · exact Or.inr (Or.inl rfl)
theorem mOwes_in {D : KD} {nl nt ng : Nat} (h : mWF D nl nt ng) (l0 ah : Int32) (ha : vp_in ah nl) : s_X7_owes D nl nt ng l0 ah = -2 ∨ s_X7_owes D nl nt ng l0 ah = -1 ∨ vp_in (s_X7_owes D nl nt ng l0 ah) nl := by
  unfold s_X7_owes
  split
  · exact Or.inl rfl
  · split
    · split
      · exact mOAD_in h l0
      · split
        · split
          · exact Or.inr (Or.inr ha)
          · exact mOAD_in h ah
        · split
          · exact Or.inr (Or.inl rfl)
          · exact Or.inr (Or.inr ha)
    · exact Or.inl rfl
theorem mOwed_e : ∀ i, i < 9 → ∀ j, j < 8 → 8 * ((nI i - 1) + 1) + nI j = nI (8 * i + j) := by decide
/-- the place of an owed sum -/
theorem mOwed_in {is l : Int32} (h1 : is = -2 ∨ is = -1 ∨ vp_in is 8) (h2 : ¬ is = -2) (hl : vp_in l 8) : vp_in (8 * (is + 1) + l) 72 := by
  obtain ⟨j, hj, rfl⟩ := vp_in_of hl (by decide)
  obtain ⟨i, hi, rfl⟩ : ∃ i, i < 9 ∧ is = nI i - 1 := by
    rcases h1 with q | q | q
    · exact absurd q h2
    · exact ⟨0, by decide, q⟩
    · obtain ⟨i, hi, rfl⟩ := vp_in_of q (by decide)
      exact ⟨i + 1, by omega, (nI_pred i).symm⟩
  rw [mOwed_e i hi j hj]
  exact vp_in_nI (by omega) (by decide)

def s_X7_waits (D : KD) (nl : Nat) (nt : Nat) (ng : Nat) (l0 : Int32) (ah : Int32) : KD := (if (s_X7_owes D nl nt ng l0 ah) = (-2) then (if (s_X7_owes D nl nt ng l0 ah) = (-1) then k_d (k_d (k_d (k_d (k_d D 15 6 (l0.toNatClampNeg) ((D 15 6 (l0.toNatClampNeg)) + 1)) 15 10 (l0.toNatClampNeg) (D 14 0 4)) 15 9 (l0.toNatClampNeg) (s_X7_owes D nl nt ng l0 ah)) 15 7 (l0.toNatClampNeg) ((D 15 7 (l0.toNatClampNeg)) + 1)) 14 0 5 ((D 14 0 5) + 1) else k_d (k_d (k_d (k_d D 15 6 (l0.toNatClampNeg) ((D 15 6 (l0.toNatClampNeg)) + 1)) 15 10 (l0.toNatClampNeg) (D 14 0 4)) 15 9 (l0.toNatClampNeg) (s_X7_owes D nl nt ng l0 ah)) 15 7 (l0.toNatClampNeg) ((D 15 7 (l0.toNatClampNeg)) + 1)) else (if (s_X7_owes D nl nt ng l0 ah) = (-1) then k_d (k_d (k_d (k_d (k_d D 15 6 (l0.toNatClampNeg) ((D 15 6 (l0.toNatClampNeg)) + 1)) 15 10 (l0.toNatClampNeg) (D 14 0 4)) 15 9 (l0.toNatClampNeg) (s_X7_owes D nl nt ng l0 ah)) 15 24 (((8 * ((s_X7_owes D nl nt ng l0 ah) + 1)) + l0).toNatClampNeg) ((D 15 24 (((8 * ((s_X7_owes D nl nt ng l0 ah) + 1)) + l0).toNatClampNeg)) + (D 15 3 (l0.toNatClampNeg)))) 14 0 5 ((D 14 0 5) + 1) else k_d (k_d (k_d (k_d D 15 6 (l0.toNatClampNeg) ((D 15 6 (l0.toNatClampNeg)) + 1)) 15 10 (l0.toNatClampNeg) (D 14 0 4)) 15 9 (l0.toNatClampNeg) (s_X7_owes D nl nt ng l0 ah)) 15 24 (((8 * ((s_X7_owes D nl nt ng l0 ah) + 1)) + l0).toNatClampNeg) ((D 15 24 (((8 * ((s_X7_owes D nl nt ng l0 ah) + 1)) + l0).toNatClampNeg)) + (D 15 3 (l0.toNatClampNeg)))))
def s_X7_leaves (D : KD) (nl : Nat) (nt : Nat) (ng : Nat) (l0 : Int32) (mi : Int32) : KD := (if (D 15 11 (l0.toNatClampNeg)) = 100 then k_d (k_d (k_d D 15 23 ((D 15 4 (l0.toNatClampNeg)).toNatClampNeg) (-1)) 15 11 (l0.toNatClampNeg) 108) 15 8 (l0.toNatClampNeg) mi else k_d (k_d D 15 11 (l0.toNatClampNeg) 108) 15 8 (l0.toNatClampNeg) mi)
theorem mWF_waits {D : KD} {nl nt ng : Nat} (h : mWF D nl nt ng) (l0 ah : Int32) : mWF (s_X7_waits D nl nt ng l0 ah) nl nt ng := by
  unfold s_X7_waits
  repeat' split
  all_goals first | exact h | skip
  all_goals repeat (first | exact h | refine mWF.put15 ?_ (by decide) | refine mWF.put14 ?_ (by decide))
theorem m1_waits {D : KD} {nl nt ng : Nat} {l0 ah : Int32} {j : Nat} (hj : j ≠ 6 ∧ j ≠ 7 ∧ j ≠ 9 ∧ j ≠ 10 ∧ j ≠ 24) : s_X7_waits D nl nt ng l0 ah 15 j = D 15 j := by
  unfold s_X7_waits
  repeat' split
  all_goals repeat (first | rfl | refine k_keep _ _ _ _ _ (fun q => absurd q.2 (by first | exact hj.1 | exact hj.2.1 | exact hj.2.2.1 | exact hj.2.2.2.1 | exact hj.2.2.2.2)) ?_ | refine k_keep _ _ _ _ _ (fun q => absurd q.1 (by decide)) ?_)
theorem mWF_leaves {D : KD} {nl nt ng : Nat} (h : mWF D nl nt ng) {l : Nat} (hl : l < nl) (hs : D 15 11 l = 100) (mi : Int32) : mWF (s_X7_leaves D nl nt ng (nI l) mi) nl nt ng := by
  have h8 := h.l8
  have ec : (nI l).toNatClampNeg = l := nI_clamp (by omega)
  have hdr := h.sdr hl (Or.inr hs)
  have hin := h.2.2.2.2.2.2.2.1 l hl hs
  obtain ⟨d, hd, ed⟩ := vp_in_of hdr (by decide)
  have ecd : (nI d).toNatClampNeg = d := nI_clamp (by omega)
  have e0 : s_X7_leaves D nl nt ng (nI l) mi = k_d (k_d (k_d D 15 23 d (-1)) 15 11 l 108) 15 8 l mi := by
    unfold s_X7_leaves
    rw [ec, if_pos hs, ed, ecd]
  rw [e0]
  refine mWF.put15 ?_ (by decide)
  rw [ed, ecd] at hin
  have a4 : k_d (k_d D 15 23 d (-1)) 15 11 l 108 15 4 = D 15 4 := k_keep _ _ _ _ _ (by decide) (k_keep _ _ _ _ _ (by decide) rfl)
  have a12 : k_d (k_d D 15 23 d (-1)) 15 11 l 108 15 12 = D 15 12 := k_keep _ _ _ _ _ (by decide) (k_keep _ _ _ _ _ (by decide) rfl)
  have a13 : k_d (k_d D 15 23 d (-1)) 15 11 l 108 15 13 = D 15 13 := k_keep _ _ _ _ _ (by decide) (k_keep _ _ _ _ _ (by decide) rfl)
  have a14 : k_d (k_d D 15 23 d (-1)) 15 11 l 108 14 0 = D 14 0 := by
    rw [k_d_off _ _ (by decide), k_d_off _ _ (by decide)]
  have a23 : k_d (k_d D 15 23 d (-1)) 15 11 l 108 15 23 = k_d D 15 23 d (-1) 15 23 := k_keep _ _ _ _ _ (by decide) rfl
  have a11 : k_d (k_d D 15 23 d (-1)) 15 11 l 108 15 11 = k_d D 15 11 l 108 15 11 := by
    rw [k_d_row, k_d_row, k_d_off _ _ (by decide)]
  have s11 : ∀ m, m ≠ l → k_d D 15 11 l 108 15 11 m = D 15 11 m := fun m hm => k_d_ne _ _ hm
  have s23 : ∀ m, m ≠ d → k_d D 15 23 d (-1) 15 23 m = D 15 23 m := fun m hm => k_d_ne _ _ hm
  obtain ⟨h1, h2, h3, h4, h5, h6, h7, h9, h10⟩ := h
  unfold mWF
  rw [a4, a12, a13, a14, a23, a11]
  refine ⟨h1, h2, h3, h4, h5, ?_, ?_, ?_, fun m hm => ?_⟩
  · intro m hm q
    by_cases e : m = l
    · subst e
      rw [k_d_at] at q
      rcases q with q | q <;> exact absurd q (by decide)
    · rw [s11 m e] at q
      exact h6 m hm q
  · intro e he
    by_cases q : e = d
    · subst q
      exact Or.inl (k_d_at _ _ _ _ _)
    · rw [s23 e q]
      rcases h7 e he with z | ⟨z1, z2, z3⟩
      · exact Or.inl z
      · refine Or.inr ⟨z1, ?_, z3⟩
        have hne : (D 15 23 e).toNatClampNeg ≠ l := by
          intro w
          rw [w, ed] at z3
          exact nI_ne (by omega) (by omega) (fun z => q z.symm) z3
        rw [s11 _ hne]
        exact z2
  · intro m hm q
    by_cases e : m = l
    · subst e
      rw [k_d_at] at q
      exact absurd q (by decide)
    · rw [s11 m e] at q
      have z := h9 m hm q
      have hne : (D 15 4 m).toNatClampNeg ≠ d := by
        intro w
        rw [w, hin] at z
        exact nI_ne (by omega) (by omega) (fun z => e z.symm) z
      rw [s23 _ hne]
      exact z
  · by_cases e : m = l
    · rw [e, k_d_at]
      exact Or.inr (Or.inr (Or.inr rfl))
    · rw [s11 m e]
      exact h10 m hm
theorem mWF_leavesY {D : KD} {nl nt ng : Nat} (h : mWF D nl nt ng) {l : Nat} (hl : l < nl) (hs : D 15 11 l = 121) (mi : Int32) : mWF (s_X7_leaves D nl nt ng (nI l) mi) nl nt ng := by
  have h8 := h.l8
  have ec : (nI l).toNatClampNeg = l := nI_clamp (by omega)
  have e0 : s_X7_leaves D nl nt ng (nI l) mi = k_d (k_d D 15 11 l 108) 15 8 l mi := by
    unfold s_X7_leaves
    rw [ec, if_neg (by rw [hs]; decide)]
  rw [e0]
  refine mWF.put15 ?_ (by decide)
  have a4 : k_d D 15 11 l 108 15 4 = D 15 4 := k_keep _ _ _ _ _ (by decide) rfl
  have a12 : k_d D 15 11 l 108 15 12 = D 15 12 := k_keep _ _ _ _ _ (by decide) rfl
  have a13 : k_d D 15 11 l 108 15 13 = D 15 13 := k_keep _ _ _ _ _ (by decide) rfl
  have a23 : k_d D 15 11 l 108 15 23 = D 15 23 := k_keep _ _ _ _ _ (by decide) rfl
  have a14 : k_d D 15 11 l 108 14 0 = D 14 0 := by rw [k_d_off _ _ (by decide)]
  have s11 : ∀ m, m ≠ l → k_d D 15 11 l 108 15 11 m = D 15 11 m := fun m hm => k_d_ne _ _ hm
  obtain ⟨h1, h2, h3, h4, h5, h6, h7, h9, h10⟩ := h
  unfold mWF
  rw [a4, a12, a13, a14, a23]
  refine ⟨h1, h2, h3, h4, h5, ?_, ?_, ?_, fun m hm => ?_⟩
  · intro m hm q
    by_cases e : m = l
    · subst e
      rw [k_d_at] at q
      rcases q with q | q <;> exact absurd q (by decide)
    · rw [s11 m e] at q
      exact h6 m hm q
  · intro e he
    rcases h7 e he with z | ⟨z1, z2, z3⟩
    · exact Or.inl z
    · refine Or.inr ⟨z1, ?_, z3⟩
      have hne : (D 15 23 e).toNatClampNeg ≠ l := by
        intro w
        rw [w, hs] at z2
        exact absurd z2 (by decide)
      rw [s11 _ hne]
      exact z2
  · intro m hm q
    by_cases e : m = l
    · subst e
      rw [k_d_at] at q
      exact absurd q (by decide)
    · rw [s11 m e] at q
      exact h9 m hm q
  · by_cases e : m = l
    · rw [e, k_d_at]
      exact Or.inr (Or.inr (Or.inr rfl))
    · rw [s11 m e]
      exact h10 m hm
theorem mWF_leaves2 {D : KD} {nl nt ng : Nat} (h : mWF D nl nt ng) {l0 : Int32} (hl : vp_in l0 nl) (hs : D 15 11 l0.toNatClampNeg = 121 ∨ D 15 11 l0.toNatClampNeg = 100) (mi : Int32) : mWF (s_X7_leaves D nl nt ng l0 mi) nl nt ng := by
  have h8 := h.l8
  rw [hl.eq (by omega)]
  rcases hs with hs | hs
  · exact mWF_leavesY h hl.lt hs mi
  · exact mWF_leaves h hl.lt hs mi
def f_X7_passes_2 (D : KD) (nl : Nat) (nt : Nat) (ng : Nat) (k2 : Nat) (z2 : KD) : KD := (if (z2 15 23 k2) = (-1) then (if (s_X7_queued z2 nl nt ng (nI k2) 0) = (-1) then (k_d z2 15 23 k2 (s_X7_queued z2 nl nt ng (nI k2) 0)) else (k_d (k_d z2 15 23 k2 (s_X7_queued z2 nl nt ng (nI k2) 0)) 15 11 (((s_X7_queued z2 nl nt ng (nI k2) 0)).toNatClampNeg) 100)) else z2)
def l_X7_passes_2 (D : KD) (nl : Nat) (nt : Nat) (ng : Nat) : KD := it (f_X7_passes_2 D nl nt ng) 4 D
def f_X7_passes_55 (D : KD) (nl : Nat) (nt : Nat) (ng : Nat) (k55 : Nat) (z55 : KD) : KD := (k_d z55 15 1 k55 0)
def l_X7_passes_55 (D : KD) (nl : Nat) (nt : Nat) (ng : Nat) : KD := it (f_X7_passes_55 D nl nt ng) nl (l_X7_passes_2 D nl nt ng)
def f_X7_passes_78 (D : KD) (nl : Nat) (nt : Nat) (ng : Nat) (k78 : Nat) (z78 : KD) : KD := (if (z78 15 23 k78) = (-1) then (k_d z78 15 25 k78 (z78 15 23 k78)) else (if (z78 15 0 ((z78 15 23 k78).toNatClampNeg)) = 0 then (s_X7_load (k_d z78 15 25 k78 (z78 15 23 k78)) nl nt ng (z78 15 23 k78) (s_X7_powerOf (k_d z78 15 25 k78 (z78 15 23 k78)) nl nt ng (nI k78))) else (s_X7_unload (k_d z78 15 25 k78 (z78 15 23 k78)) nl nt ng (z78 15 23 k78) (s_X7_powerOf (k_d z78 15 25 k78 (z78 15 23 k78)) nl nt ng (nI k78)))))
def l_X7_passes_78 (D : KD) (nl : Nat) (nt : Nat) (ng : Nat) : KD := it (f_X7_passes_78 D nl nt ng) 4 (l_X7_passes_55 D nl nt ng)
def f_X7_passes_165 (D : KD) (nl : Nat) (nt : Nat) (ng : Nat) (k165 : Nat) (z165 : KD × Int32) : KD × Int32 := (if (z165.1 15 11 k165) = 100 then (if (s_X7_missing z165.1 nl nt ng (nI k165)) ≤ 0 then ((s_X7_leaves z165.1 nl nt ng (nI k165) ((z165.1 14 0 4) + 1)), (z165.2 + 1)) else (z165.1, z165.2)) else (z165.1, z165.2))
def l_X7_passes_165 (D : KD) (nl : Nat) (nt : Nat) (ng : Nat) : KD × Int32 := it (f_X7_passes_165 D nl nt ng) nl ((l_X7_passes_78 D nl nt ng), 0)
def j_X7_passes_284 (D : KD) (nl : Nat) (nt : Nat) (ng : Nat) (k217 : Nat) (z217 : KD) : Int32 := (if (z217 15 11 k217) = 121 then (z217 15 25 ((z217 15 4 k217).toNatClampNeg)) else (nI k217))
def f_X7_passes_217 (D : KD) (nl : Nat) (nt : Nat) (ng : Nat) (k217 : Nat) (z217 : KD) : KD := (if (z217 15 11 k217) = 121 then (if (z217 15 1 k217) = 0 then (s_X7_waits z217 nl nt ng (nI k217) (j_X7_passes_284 D nl nt ng k217 z217)) else z217) else (if (z217 15 11 k217) = 100 then (if (z217 15 1 k217) = 0 then (s_X7_waits z217 nl nt ng (nI k217) (j_X7_passes_284 D nl nt ng k217 z217)) else z217) else z217))
def l_X7_passes_217 (D : KD) (nl : Nat) (nt : Nat) (ng : Nat) : KD := it (f_X7_passes_217 D nl nt ng) nl ((l_X7_passes_165 D nl nt ng).1)
def f_X7_passes_322 (D : KD) (nl : Nat) (nt : Nat) (ng : Nat) (k295 : Nat) (z295 : KD) (k322 : Nat) (z322 : KD) : KD := (k_d z322 15 18 ((4 * k295) + k322) (z322 15 18 (((4 * k295) + k322) + 1)))
def l_X7_passes_322 (D : KD) (nl : Nat) (nt : Nat) (ng : Nat) (k295 : Nat) (z295 : KD) : KD := it (f_X7_passes_322 D nl nt ng k295 z295) 3 (k_d z295 15 16 k295 ((z295 15 16 k295) + (z295 15 18 (4 * k295))))
def f_X7_passes_295 (D : KD) (nl : Nat) (nt : Nat) (ng : Nat) (k295 : Nat) (z295 : KD) : KD := (k_d (l_X7_passes_322 D nl nt ng k295 z295) 15 18 ((4 * k295) + 3) 0)
def l_X7_passes_295 (D : KD) (nl : Nat) (nt : Nat) (ng : Nat) : KD := it (f_X7_passes_295 D nl nt ng) nt (l_X7_passes_217 D nl nt ng)
def s_X7_passes (D : KD) (nl : Nat) (nt : Nat) (ng : Nat) : KD × Int32 := (k_d (l_X7_passes_295 D nl nt ng) 14 0 4 (((l_X7_passes_295 D nl nt ng) 14 0 4) + 1), (l_X7_passes_165 D nl nt ng).2)
theorem k_low (f : Nat → Int) : ∀ n, 0 < n → ∃ i, i < n ∧ (∀ j, j < n → f i ≤ f j) ∧ ∀ j, j < i → f i < f j := by
  intro n
  induction n with
  | zero => intro h; exact absurd h (by decide)
  | succ n ih =>
    intro _
    rcases Nat.eq_zero_or_pos n with h0 | h0
    · subst h0
      exact ⟨0, by decide, fun j hj => by rw [show j = 0 by omega]; omega, fun j hj => absurd hj (by omega)⟩
    · obtain ⟨i, h1, h2, h3⟩ := ih h0
      by_cases q : f n < f i
      · refine ⟨n, by omega, fun j hj => ?_, fun j hj => ?_⟩
        · rcases Nat.lt_or_ge j n with w | w
          · have := h2 j w; omega
          · rw [show j = n by omega]; omega
        · have := h2 j hj; omega
      · refine ⟨i, by omega, fun j hj => ?_, h3⟩
        rcases Nat.lt_or_ge j n with w | w
        · exact h2 j w
        · rw [show j = n by omega]; omega
theorem mQ_n {D : KD} {nl nt ng : Nat} {d pl : Int32} (h8 : nl ≤ 8) : ∀ f k, f + k = nl → r_X7_queued_2 D nl nt ng d pl f k = -1 → ∀ l, k ≤ l → l < nl → D 15 11 l = 121 → D 15 4 l = d → it (f_X7_queued_40 D nl nt ng d pl l) nl 0 ≠ pl := by
  intro f
  induction f with
  | zero => intro k hk _ l h1 h2; omega
  | succ f ih =>
    intro k hk h l h1 h2 h3 h4
    rw [r_X7_queued_2_s] at h
    rcases Nat.lt_or_ge k l with q | q
    · refine ih (k + 1) (by omega) ?_ l (by omega) h2 h3 h4
      split at h
      · split at h
        · split at h
          · have : vp_in (nI k) 8 := vp_in_nI (by omega) (by decide)
            rw [h] at this
            exact absurd this (fun z => z (Or.inl (by decide)))
          · exact h
        · exact h
      · exact h
    · have e : l = k := by omega
      subst e
      rw [if_pos h3, if_pos h4] at h
      intro hc
      rw [if_pos (show l_X7_queued_40 D nl nt ng d pl l = pl from hc)] at h
      have : vp_in (nI l) 8 := vp_in_nI (by omega) (by decide)
      rw [h] at this
      exact this (Or.inl (by decide))
theorem mQ_ex {D : KD} {nl nt ng : Nat} (h8 : nl ≤ 8) {d : Int32} {l : Nat} (hl : l < nl) (hs : D 15 11 l = 121) (hd : D 15 4 l = d) : s_X7_queued D nl nt ng d 0 ≠ -1 := by
  intro hq
  have hn := mQ_n (D := D) (nl := nl) (nt := nt) (ng := ng) (d := d) (pl := 0) h8 (nl - 0) 0 (by omega) hq
  obtain ⟨i, h1, h2, h3⟩ := k_low (fun k => if D 15 11 k = 121 ∧ D 15 4 k = d then (D 15 5 k).toInt else 4294967296) nl (by omega)
  have hr : ∀ x : Int32, x.toInt < 4294967296 := fun x => by have := x.toInt_lt; omega
  have hi : D 15 11 i = 121 ∧ D 15 4 i = d := by
    by_cases q : D 15 11 i = 121 ∧ D 15 4 i = d
    · exact q
    · have := h2 l hl
      simp only [if_neg q, if_pos (show D 15 11 l = 121 ∧ D 15 4 l = d from ⟨hs, hd⟩)] at this
      have := hr (D 15 5 l)
      omega
  refine hn i (by omega) h1 hi.1 hi.2 ?_
  refine it_ind (P := fun z : Int32 => z = 0) rfl ?_
  intro k hk z hz
  have hj : j_X7_queued_95 D nl nt ng d 0 i k z = 0 := by
    unfold j_X7_queued_95
    split
    · next a1 =>
      split
      · next a2 =>
        split
        · rfl
        · split
          · rfl
          · next a4 =>
            exfalso
            have h2k := h2 k hk
            simp only [if_pos hi, if_pos (show D 15 11 k = 121 ∧ D 15 4 k = d from ⟨a1, a2⟩)] at h2k
            have ek : (nI k).toNatClampNeg = k := nI_clamp (by omega)
            have ei : (nI i).toNatClampNeg = i := nI_clamp (by omega)
            unfold s_X7_isBefore at a4
            rw [ek, ei] at a4
            split at a4
            · next b1 =>
              have := Int32.lt_iff_toInt_lt.mp b1
              omega
            · split at a4
              · next b2 =>
                split at a4
                · exact a4 rfl
                · next b3 =>
                  have hlt : k < i := by
                    have := mt (nI_leI (a := i) (b := k) (by omega) (by omega)).mpr b3
                    omega
                  have := h3 k hlt
                  simp only [if_pos hi, if_pos (show D 15 11 k = 121 ∧ D 15 4 k = d from ⟨a1, a2⟩), b2] at this
                  omega
              · exact a4 rfl
      · rfl
    · rfl
  unfold f_X7_queued_40
  rw [hj, hz]
  rfl
theorem nI_nm1 {l : Nat} (h : l < 2 ^ 31) : nI l ≠ -1 := fun q => by
  have := nI_pos h
  rw [q] at this
  exact this (by decide)
/-- what the first loop leaves: every lorry in the yard has one at its door -/
def mFl (z : KD) (nl k : Nat) : Prop := ∀ l, l < nl → z 15 11 l = 121 → ∀ d, d < k → z 15 4 l = nI d → z 15 23 d ≠ -1
theorem mP_2 {D : KD} {nl nt ng : Nat} (h : mWF D nl nt ng) : mWF (l_X7_passes_2 D nl nt ng) nl nt ng ∧ mFl (l_X7_passes_2 D nl nt ng) nl 4 := by
  have h8 := h.l8
  unfold l_X7_passes_2
  refine it_indk (P := fun k z => mWF z nl nt ng ∧ mFl z nl k) ⟨h, fun l _ _ d hd => absurd hd (by omega)⟩ ?_
  intro k hk z ⟨hz, hf⟩
  unfold f_X7_passes_2
  split
  · next h0 =>
    split
    · next h1 =>
      have e : k_d z 15 23 k (s_X7_queued z nl nt ng (nI k) 0) = z := by
        funext r i m
        unfold k_d
        split
        · next q => rw [h1, q.1, q.2.1, q.2.2, h0]
        · rfl
      rw [e]
      refine ⟨hz, fun l hl hs d hd hr => ?_⟩
      rcases Nat.lt_or_ge d k with q | q
      · exact hf l hl hs d q hr
      · have : d = k := by omega
        subst this
        exact absurd h1 (mQ_ex h8 hl hs hr)
    · next h1 =>
      obtain ⟨l9, hl9, el9, hs9, hr9, -⟩ := mQ_some h1
      rw [el9, nI_clamp (by omega)]
      refine ⟨hz.fill1 hk h0 hl9 hs9 hr9, fun l hl hs d hd hr => ?_⟩
      have a4 : k_d (k_d z 15 23 k (nI l9)) 15 11 l9 100 15 4 = z 15 4 := k_keep _ _ _ _ _ (by decide) (k_keep _ _ _ _ _ (by decide) rfl)
      have a23 : k_d (k_d z 15 23 k (nI l9)) 15 11 l9 100 15 23 = k_d z 15 23 k (nI l9) 15 23 := k_keep _ _ _ _ _ (by decide) rfl
      rw [a4] at hr
      rw [a23]
      have hne : l ≠ l9 := by
        intro q
        subst q
        rw [k_d_at] at hs
        exact absurd hs (by decide)
      rw [k_d_ne _ _ hne, k_keep _ _ _ _ _ (i2 := 11) (by decide) rfl] at hs
      by_cases q : d = k
      · subst q
        rw [k_d_at]
        exact nI_nm1 (by omega)
      · rw [k_d_ne _ _ q]
        exact hf l hl hs d (by omega) hr
  · next h0 =>
    refine ⟨hz, fun l hl hs d hd hr => ?_⟩
    rcases Nat.lt_or_ge d k with q | q
    · exact hf l hl hs d q hr
    · have : d = k := by omega
      subst this
      exact h0
def mRows (D D2 : KD) : Prop := D 15 4 = D2 15 4 ∧ D 15 11 = D2 15 11 ∧ D 15 23 = D2 15 23
theorem mP_55 {D : KD} {nl nt ng : Nat} (h : mWF D nl nt ng) : mWF (l_X7_passes_55 D nl nt ng) nl nt ng ∧ mRows (l_X7_passes_55 D nl nt ng) (l_X7_passes_2 D nl nt ng) := by
  unfold l_X7_passes_55
  refine it_ind (P := fun z => mWF z nl nt ng ∧ mRows z (l_X7_passes_2 D nl nt ng)) ⟨(mP_2 h).1, rfl, rfl, rfl⟩ ?_
  intro k _ z ⟨hz, a, b, c⟩
  exact ⟨hz.put15 (by decide), k_keep _ _ _ _ _ (by decide) a, k_keep _ _ _ _ _ (by decide) b, k_keep _ _ _ _ _ (by decide) c⟩
theorem mP_78 {D : KD} {nl nt ng : Nat} (h : mWF D nl nt ng) : mWF (l_X7_passes_78 D nl nt ng) nl nt ng ∧ mRows (l_X7_passes_78 D nl nt ng) (l_X7_passes_55 D nl nt ng) ∧ ∀ d, d < 4 → l_X7_passes_78 D nl nt ng 15 25 d = l_X7_passes_55 D nl nt ng 15 23 d := by
  obtain ⟨h1, h2⟩ := mP_55 h
  generalize hE : l_X7_passes_55 D nl nt ng = E at h1 h2
  unfold l_X7_passes_78
  rw [hE]
  refine it_indk (P := fun k z => mWF z nl nt ng ∧ mRows z E ∧ ∀ d, d < k → z 15 25 d = E 15 23 d) ⟨h1, ⟨rfl, rfl, rfl⟩, fun d hd => absurd hd (by omega)⟩ ?_
  intro k _ z ⟨hz, ⟨a, b, c⟩, hp⟩
  have hz1 : mWF (k_d z 15 25 k (z 15 23 k)) nl nt ng := hz.put15 (by decide)
  have a1 : k_d z 15 25 k (z 15 23 k) 15 4 = E 15 4 := k_keep _ _ _ _ _ (by decide) a
  have b1 : k_d z 15 25 k (z 15 23 k) 15 11 = E 15 11 := k_keep _ _ _ _ _ (by decide) b
  have c1 : k_d z 15 25 k (z 15 23 k) 15 23 = E 15 23 := k_keep _ _ _ _ _ (by decide) c
  have p1 : ∀ d, d < k + 1 → k_d z 15 25 k (z 15 23 k) 15 25 d = E 15 23 d := by
    intro d hd
    by_cases q : d = k
    · subst q
      rw [k_d_at, c]
    · rw [k_d_ne _ _ q]
      exact hp d (by omega)
  unfold f_X7_passes_78
  split
  · exact ⟨hz1, ⟨a1, b1, c1⟩, p1⟩
  · split
    · refine ⟨mWF_load hz1 _ _, ⟨?_, ?_, ?_⟩, ?_⟩
      · rw [m1_load (by decide)]; exact a1
      · rw [m1_load (by decide)]; exact b1
      · rw [m1_load (by decide)]; exact c1
      · intro d hd; rw [m1_load (by decide)]; exact p1 d hd
    · refine ⟨mWF_unload hz1 _ _, ⟨?_, ?_, ?_⟩, ?_⟩
      · rw [m1_unload (by decide)]; exact a1
      · rw [m1_unload (by decide)]; exact b1
      · rw [m1_unload (by decide)]; exact c1
      · intro d hd; rw [m1_unload (by decide)]; exact p1 d hd
/-- behind every lorry in the yard stands one that plan names -/
def mPL (D : KD) (nl : Nat) : Prop := ∀ l, l < nl → D 15 11 l = 121 → vp_in (D 15 25 (D 15 4 l).toNatClampNeg) nl
theorem mPL_78 {D : KD} {nl nt ng : Nat} (h : mWF D nl nt ng) : mPL (l_X7_passes_78 D nl nt ng) nl := by
  obtain ⟨h1, ⟨a, b, c⟩, hp⟩ := mP_78 h
  obtain ⟨h2, a2, b2, c2⟩ := mP_55 h
  have hf := (mP_2 h).2
  intro l hl hs
  have hdr := h1.sdr hl (Or.inl hs)
  obtain ⟨d, hd, ed⟩ := vp_in_of hdr (by decide)
  have hn : l_X7_passes_78 D nl nt ng 15 23 d ≠ -1 := by
    rw [c, c2]
    refine hf l hl ?_ d hd ?_
    · rw [← b2, ← b]; exact hs
    · rw [← a2, ← a]; exact ed
  rw [ed, nI_clamp (by omega), hp d hd, ← c]
  exact (h1.ind hd hn).1
theorem m1_leaves {D : KD} {nl nt ng : Nat} {l0 mi : Int32} {j : Nat} (hj : j ≠ 23 ∧ j ≠ 11 ∧ j ≠ 8) : s_X7_leaves D nl nt ng l0 mi 15 j = D 15 j := by
  unfold s_X7_leaves
  split
  · exact k_keep _ _ _ _ _ (fun q => hj.2.2 q.2) (k_keep _ _ _ _ _ (fun q => hj.2.1 q.2) (k_keep _ _ _ _ _ (fun q => hj.1 q.2) rfl))
  · exact k_keep _ _ _ _ _ (fun q => hj.2.2 q.2) (k_keep _ _ _ _ _ (fun q => hj.2.1 q.2) rfl)
theorem m1_leaves11 {D : KD} {nl nt ng : Nat} {l0 mi : Int32} (m : Nat) : s_X7_leaves D nl nt ng l0 mi 15 11 m = if m = l0.toNatClampNeg then 108 else D 15 11 m := by
  have key : ∀ E : KD, E 15 11 = D 15 11 → k_d (k_d E 15 11 l0.toNatClampNeg 108) 15 8 l0.toNatClampNeg mi 15 11 m = if m = l0.toNatClampNeg then 108 else D 15 11 m := by
    intro E hE
    rw [k_keep _ _ _ _ _ (i2 := 11) (by decide) rfl]
    by_cases q : m = l0.toNatClampNeg
    · rw [if_pos q, q, k_d_at]
    · rw [if_neg q, k_d_ne _ _ q, hE]
  unfold s_X7_leaves
  split
  · exact key _ (k_keep _ _ _ _ _ (by decide) rfl)
  · exact key _ rfl
theorem mP_165' {D : KD} {nl nt ng : Nat} (h : mWF D nl nt ng) : mWF (l_X7_passes_165 D nl nt ng).1 nl nt ng ∧ mPL (l_X7_passes_165 D nl nt ng).1 nl := by
  unfold l_X7_passes_165
  refine it_ind (P := fun z : KD × Int32 => mWF z.1 nl nt ng ∧ mPL z.1 nl) ⟨(mP_78 h).1, mPL_78 h⟩ ?_
  intro k hk z ⟨hz, hp⟩
  unfold f_X7_passes_165
  split
  · next hs =>
    split
    · refine ⟨mWF_leaves hz hk hs _, ?_⟩
      intro l hl hs2
      replace hs2 : s_X7_leaves z.1 nl nt ng (nI k) (z.1 14 0 4 + 1) 15 11 l = 121 := hs2
      rw [m1_leaves11] at hs2
      show vp_in (s_X7_leaves z.1 nl nt ng (nI k) (z.1 14 0 4 + 1) 15 25 (s_X7_leaves z.1 nl nt ng (nI k) (z.1 14 0 4 + 1) 15 4 l).toNatClampNeg) nl
      rw [m1_leaves (by decide), m1_leaves (by decide)]
      split at hs2
      · exact absurd hs2 (by decide)
      · exact hp l hl hs2
    · exact ⟨hz, hp⟩
  · exact ⟨hz, hp⟩
theorem mP_165 {D : KD} {nl nt ng : Nat} (h : mWF D nl nt ng) : mPL (l_X7_passes_165 D nl nt ng).1 nl := (mP_165' h).2
theorem mPL_waits {D : KD} {nl nt ng : Nat} {l0 ah : Int32} (h : mPL D nl) : mPL (s_X7_waits D nl nt ng l0 ah) nl := by
  unfold mPL
  rw [m1_waits (by decide), m1_waits (by decide), m1_waits (by decide)]
  exact h
theorem mP_217 {D : KD} {nl nt ng : Nat} (h : mWF D nl nt ng) : mWF (l_X7_passes_217 D nl nt ng) nl nt ng := by
  unfold l_X7_passes_217
  refine it_ind (P := fun z => mWF z nl nt ng) (mP_165' h).1 ?_
  intro k hk z hz
  unfold f_X7_passes_217
  repeat' split
  all_goals first | exact hz | exact mWF_waits hz _ _
theorem mP_295 {D : KD} {nl nt ng : Nat} (h : mWF D nl nt ng) : mWF (l_X7_passes_295 D nl nt ng) nl nt ng := by
  unfold l_X7_passes_295
  refine it_ind (P := fun z => mWF z nl nt ng) (mP_217 h) ?_
  intro k hk z hz
  unfold f_X7_passes_295
  refine mWF.put15 ?_ (by decide)
  unfold l_X7_passes_322
  refine it_ind (P := fun z => mWF z nl nt ng) (hz.put15 (by decide)) ?_
  intro j _ y hy
  exact hy.put15 (by decide)
theorem mWF_passes {D : KD} {nl nt ng : Nat} (h : mWF D nl nt ng) : mWF (s_X7_passes D nl nt ng).1 nl nt ng := (mP_295 h).put14 (by decide)
theorem k_lt_of_ne {x y : Int32} {a N : Nat} (hx : x = nI a) (hy : y = nI N) (ha : a ≤ N) (h : ¬ x = y) : a < N := by
  rcases Nat.lt_or_ge a N with q | q
  · exact q
  · exact absurd (by rw [hx, hy, Nat.le_antisymm ha q]) h
theorem s_isIn_0 {x lo hi : Int32} (h : ¬ s_X7_isIn x lo hi = 0) : ¬ x < lo ∧ ¬ x > hi := by
  unfold s_X7_isIn at h
  split at h
  · exact absurd rfl h
  · next h1 =>
    split at h
    · exact absurd rfl h
    · next h2 => exact ⟨h1, h2⟩
theorem vp_in_of_isIn {x : Int32} {N : Nat} (hN : N < 2 ^ 31) (h : ¬ s_X7_isIn x 0 (nI N - 1) = 0) : vp_in x N := by
  obtain ⟨h1, h2⟩ := s_isIn_0 h
  rcases Nat.eq_zero_or_pos N with h0 | h0
  · subst h0
    exfalso
    obtain ⟨j, hj, rfl⟩ := nI_of h1
    refine h2 ?_
    have e : nI 0 - 1 = -1 := by decide
    rw [e]
    show (-1 : Int32) < nI j
    rw [Int32.lt_iff_toInt_lt, nI_toInt hj]
    have : (-1 : Int32).toInt = -1 := by decide
    omega
  · exact vp_in_toI hN h1 h2 h0
theorem mNoL_in {D : KD} {nl nt ng : Nat} (h : mWF D nl nt ng) {x : Int32} (hc : j_X7_noLorry_20 D x = 0) : vp_in x nl := by
  have h8 := h.l8
  unfold j_X7_noLorry_20 at hc
  rw [h.l] at hc
  split at hc
  · exact absurd hc (by decide)
  · next q => exact vp_in_of_isIn (by omega) q
theorem mNoT_in {D : KD} {nl nt ng : Nat} (h : mWF D nl nt ng) {x : Int32} (hc : j_X7_noTransfer_20 D x = 0) : vp_in x nt := by
  have h8 := h.t16
  unfold j_X7_noTransfer_20 at hc
  rw [h.t] at hc
  split at hc
  · exact absurd hc (by decide)
  · next q => exact vp_in_of_isIn (by omega) q
theorem mNoD_in {D : KD} {x : Int32} (hc : j_X7_noDoor_15 D x = 0) : vp_in x 4 := by
  unfold j_X7_noDoor_15 at hc
  split at hc
  · exact absurd hc (by decide)
  · next q => exact vp_in_of_isIn (N := 4) (by decide) q
theorem s_noLorry_eq (D : KD) (x : Int32) : s_X7_noLorry D x = (k_d D 14 0 0 (j_X7_noLorry_20 D x), j_X7_noLorry_20 D x) := by
  have h : j_X7_noLorry_20 D x = 0 ∨ j_X7_noLorry_20 D x = 1 := by
    unfold j_X7_noLorry_20
    split
    · exact Or.inr rfl
    · exact Or.inl rfl
  unfold s_X7_noLorry
  rcases h with h | h <;> rw [h] <;> rfl
theorem s_noTransfer_eq (D : KD) (x : Int32) : s_X7_noTransfer D x = (k_d D 14 0 0 (j_X7_noTransfer_20 D x), j_X7_noTransfer_20 D x) := by
  have h : j_X7_noTransfer_20 D x = 0 ∨ j_X7_noTransfer_20 D x = 1 := by
    unfold j_X7_noTransfer_20
    split
    · exact Or.inr rfl
    · exact Or.inl rfl
  unfold s_X7_noTransfer
  rcases h with h | h <;> rw [h] <;> rfl
theorem s_noDoor_eq (D : KD) (x : Int32) : s_X7_noDoor D x = (k_d D 14 0 0 (j_X7_noDoor_15 D x), j_X7_noDoor_15 D x) := by
  have h : j_X7_noDoor_15 D x = 0 ∨ j_X7_noDoor_15 D x = 1 := by
    unfold j_X7_noDoor_15
    split
    · exact Or.inr rfl
    · exact Or.inl rfl
  unfold s_X7_noDoor
  rcases h with h | h <;> rw [h] <;> rfl
def s_X7_addLorry (D : KD) (nl : Nat) (nt : Nat) (ng : Nat) (br : Int32) (mi : Int32) (ce : Int32) : KD × Int32 := (if (s_X7_isIn mi 0 1999) = 0 then (k_d D 14 0 0 1, 0) else (if (s_X7_isIn ce 1 99) = 0 then (k_d D 14 0 0 1, 0) else (if (D 14 0 1) = 8 then (k_d D 14 0 0 2, 0) else (k_d (k_d (k_d (k_d (k_d (k_d (k_d (k_d D 14 0 0 0) 15 0 nl br) 15 2 nl mi) 15 3 nl ce) 15 4 nl (-1)) 15 11 nl 101) 15 10 nl (-1)) 14 0 1 ((D 14 0 1) + 1), D 14 0 1))))
def s_X7_addTransfer (D : KD) (nl : Nat) (nt : Nat) (ng : Nat) (a : Int32) (b : Int32) (mn : Int32) : KD × Int32 := (if (j_X7_noLorry_20 D a) = 0 then (if (j_X7_noLorry_20 (k_d D 14 0 0 (j_X7_noLorry_20 D a)) b) = 0 then (if (D 15 0 (a.toNatClampNeg)) = 0 then (k_d (k_d (k_d D 14 0 0 (j_X7_noLorry_20 D a)) 14 0 0 (j_X7_noLorry_20 (k_d D 14 0 0 (j_X7_noLorry_20 D a)) b)) 14 0 0 2, 0) else (if (D 15 0 (b.toNatClampNeg)) = 0 then (if (s_X7_isIn mn 1 99) = 0 then (k_d (k_d (k_d D 14 0 0 (j_X7_noLorry_20 D a)) 14 0 0 (j_X7_noLorry_20 (k_d D 14 0 0 (j_X7_noLorry_20 D a)) b)) 14 0 0 2, 0) else (if (s_X7_isGone (k_d (k_d D 14 0 0 (j_X7_noLorry_20 D a)) 14 0 0 (j_X7_noLorry_20 (k_d D 14 0 0 (j_X7_noLorry_20 D a)) b)) a) = 0 then (if (s_X7_isGone (k_d (k_d D 14 0 0 (j_X7_noLorry_20 D a)) 14 0 0 (j_X7_noLorry_20 (k_d D 14 0 0 (j_X7_noLorry_20 D a)) b)) b) = 0 then (if (D 14 0 2) = 16 then (k_d (k_d (k_d D 14 0 0 (j_X7_noLorry_20 D a)) 14 0 0 (j_X7_noLorry_20 (k_d D 14 0 0 (j_X7_noLorry_20 D a)) b)) 14 0 0 3, 0) else (k_d (k_d (k_d (k_d (k_d (k_d D 14 0 0 (j_X7_noLorry_20 D a)) 14 0 0 (j_X7_noLorry_20 (k_d D 14 0 0 (j_X7_noLorry_20 D a)) b)) 15 12 nt a) 15 13 nt b) 15 14 nt mn) 14 0 2 ((D 14 0 2) + 1), D 14 0 2)) else (k_d (k_d (k_d D 14 0 0 (j_X7_noLorry_20 D a)) 14 0 0 (j_X7_noLorry_20 (k_d D 14 0 0 (j_X7_noLorry_20 D a)) b)) 14 0 0 3, 0)) else (k_d (k_d (k_d D 14 0 0 (j_X7_noLorry_20 D a)) 14 0 0 (j_X7_noLorry_20 (k_d D 14 0 0 (j_X7_noLorry_20 D a)) b)) 14 0 0 3, 0))) else (k_d (k_d (k_d D 14 0 0 (j_X7_noLorry_20 D a)) 14 0 0 (j_X7_noLorry_20 (k_d D 14 0 0 (j_X7_noLorry_20 D a)) b)) 14 0 0 2, 0))) else (k_d (k_d D 14 0 0 (j_X7_noLorry_20 D a)) 14 0 0 (j_X7_noLorry_20 (k_d D 14 0 0 (j_X7_noLorry_20 D a)) b), 0)) else (k_d D 14 0 0 (j_X7_noLorry_20 D a), 0))
def s_X7_planDoor (D : KD) (nl : Nat) (nt : Nat) (ng : Nat) (l0 : Int32) (d : Int32) : KD × Int32 := (if (j_X7_noLorry_20 D l0) = 0 then (if (j_X7_noDoor_15 (k_d D 14 0 0 (j_X7_noLorry_20 D l0)) d) = 0 then (if (s_X7_isGone (k_d (k_d D 14 0 0 (j_X7_noLorry_20 D l0)) 14 0 0 (j_X7_noDoor_15 (k_d D 14 0 0 (j_X7_noLorry_20 D l0)) d)) l0) = 0 then (k_d (k_d (k_d D 14 0 0 (j_X7_noLorry_20 D l0)) 14 0 0 (j_X7_noDoor_15 (k_d D 14 0 0 (j_X7_noLorry_20 D l0)) d)) 15 4 (l0.toNatClampNeg) d, D 15 4 (l0.toNatClampNeg)) else (k_d (k_d (k_d D 14 0 0 (j_X7_noLorry_20 D l0)) 14 0 0 (j_X7_noDoor_15 (k_d D 14 0 0 (j_X7_noLorry_20 D l0)) d)) 14 0 0 2, 0)) else (k_d (k_d D 14 0 0 (j_X7_noLorry_20 D l0)) 14 0 0 (j_X7_noDoor_15 (k_d D 14 0 0 (j_X7_noLorry_20 D l0)) d), 0)) else (k_d D 14 0 0 (j_X7_noLorry_20 D l0), 0))
def j_X7_arrive_90 (D : KD) (nl : Nat) (nt : Nat) (ng : Nat) (l0 : Int32) (k65 : Nat) (z65 : Int32) : Int32 := (if ((k_d (k_d D 14 0 0 (j_X7_noLorry_20 D l0)) 15 11 (l0.toNatClampNeg) 121) 15 11 k65) = 121 then 1 else 0)
def f_X7_arrive_65 (D : KD) (nl : Nat) (nt : Nat) (ng : Nat) (l0 : Int32) (k65 : Nat) (z65 : Int32) : Int32 := (z65 + (j_X7_arrive_90 D nl nt ng l0 k65 z65))
def l_X7_arrive_65 (D : KD) (nl : Nat) (nt : Nat) (ng : Nat) (l0 : Int32) : Int32 := it (f_X7_arrive_65 D nl nt ng l0) nl 0
def s_X7_arrive (D : KD) (nl : Nat) (nt : Nat) (ng : Nat) (l0 : Int32) : KD × Int32 := (if (j_X7_noLorry_20 D l0) = 0 then (if (D 15 11 (l0.toNatClampNeg)) = 101 then (if (D 15 4 (l0.toNatClampNeg)) = (-1) then (k_d (k_d D 14 0 0 (j_X7_noLorry_20 D l0)) 14 0 0 3, 0) else (k_d (k_d (k_d D 14 0 0 (j_X7_noLorry_20 D l0)) 15 11 (l0.toNatClampNeg) 121) 15 5 (l0.toNatClampNeg) (D 14 0 4), (l_X7_arrive_65 D nl nt ng l0))) else (k_d (k_d D 14 0 0 (j_X7_noLorry_20 D l0)) 14 0 0 2, 0)) else (k_d D 14 0 0 (j_X7_noLorry_20 D l0), 0))
def s_X7_addGang (D : KD) (nl : Nat) (nt : Nat) (ng : Nat) (fa : Int32) (be : Int32) (en : Int32) : KD × Int32 := (if (s_X7_isIn fa 1 9) = 0 then (k_d D 14 0 0 1, 0) else (if (s_X7_isIn be 0 1999) = 0 then (k_d D 14 0 0 1, 0) else (if (s_X7_isIn en (be + 1) 2000) = 0 then (k_d D 14 0 0 1, 0) else (if (D 14 0 3) = 4 then (k_d D 14 0 0 2, 0) else (k_d (k_d (k_d (k_d (k_d (k_d D 14 0 0 0) 15 19 ng fa) 15 20 ng be) 15 21 ng en) 15 22 ng (-1)) 14 0 3 ((D 14 0 3) + 1), D 14 0 3)))))
def s_X7_moveGang (D : KD) (nl : Nat) (nt : Nat) (ng : Nat) (g0 : Int32) (d : Int32) : KD × Int32 := (if (s_X7_isIn g0 0 ((D 14 0 3) - 1)) = 0 then (k_d D 14 0 0 1, 0) else (if (s_X7_isIn d (-1) 3) = 0 then (k_d D 14 0 0 1, 0) else (k_d (k_d D 14 0 0 0) 15 22 (g0.toNatClampNeg) d, D 15 22 (g0.toNatClampNeg))))
theorem mWho_in {D : KD} {nl nt ng : Nat} (h : mWF D nl nt ng) {x : Int32} (hc : ¬ s_X7_isIn x (-1) (D 14 0 1 - 1) = 0) : x = -1 ∨ vp_in x nl := by
  have h8 := h.l8
  rw [h.l] at hc
  obtain ⟨h1, h2⟩ := s_isIn_0 hc
  by_cases q : x < 0
  · refine Or.inl ?_
    have a := mt Int32.lt_iff_toInt_lt.mpr h1
    have b := Int32.lt_iff_toInt_lt.mp q
    have e1 : (-1 : Int32).toInt = -1 := by decide
    have e0 : (0 : Int32).toInt = 0 := by decide
    exact Int32.toInt_inj.mp (by omega)
  · refine Or.inr ?_
    rcases Nat.eq_zero_or_pos nl with h0 | h0
    · exfalso
      obtain ⟨j, hj, rfl⟩ := nI_of q
      rw [h0] at h2
      refine h2 ?_
      show nI 0 - 1 < nI j
      rw [show nI 0 - 1 = -1 by decide, Int32.lt_iff_toInt_lt, nI_toInt hj]
      have e1 : (-1 : Int32).toInt = -1 := by decide
      omega
    · exact vp_in_toI (by omega) q h2 h0
theorem mOwed_in2 {is l : Int32} (h1 : is = -1 ∨ vp_in is 8) (hl : vp_in l 8) : vp_in (8 * (is + 1) + l) 72 := by
  refine mOwed_in (Or.inr h1) ?_ hl
  rintro rfl
  rcases h1 with q | q
  · exact absurd q (by decide)
  · exact q (Or.inl (by decide))

def s_X7_sendOff (D : KD) (nl : Nat) (nt : Nat) (ng : Nat) (l0 : Int32) : KD × Int32 := (if (j_X7_noLorry_20 D l0) = 0 then (if (D 15 11 (l0.toNatClampNeg)) = 121 then ((s_X7_leaves (k_d D 14 0 0 (j_X7_noLorry_20 D l0)) nl nt ng l0 (D 14 0 4)), (s_X7_missing (s_X7_leaves (k_d D 14 0 0 (j_X7_noLorry_20 D l0)) nl nt ng l0 (D 14 0 4)) nl nt ng l0)) else (if (D 15 11 (l0.toNatClampNeg)) = 100 then ((s_X7_leaves (k_d D 14 0 0 (j_X7_noLorry_20 D l0)) nl nt ng l0 (D 14 0 4)), (s_X7_missing (s_X7_leaves (k_d D 14 0 0 (j_X7_noLorry_20 D l0)) nl nt ng l0 (D 14 0 4)) nl nt ng l0)) else (k_d (k_d D 14 0 0 (j_X7_noLorry_20 D l0)) 14 0 0 2, 0))) else (k_d D 14 0 0 (j_X7_noLorry_20 D l0), 0))
def s_X7_now (D : KD) : Int32 := D 14 0 4
def s_X7_power (D : KD) (nl : Nat) (nt : Nat) (ng : Nat) (d : Int32) : KD × Int32 := (if (j_X7_noDoor_15 D d) = 0 then (k_d D 14 0 0 (j_X7_noDoor_15 D d), (s_X7_powerOf (k_d D 14 0 0 (j_X7_noDoor_15 D d)) nl nt ng d)) else (k_d D 14 0 0 (j_X7_noDoor_15 D d), 0))
def s_X7_stateOf (D : KD) (nl : Nat) (nt : Nat) (ng : Nat) (l0 : Int32) : KD × Int32 := (if (j_X7_noLorry_20 D l0) = 0 then (k_d D 14 0 0 (j_X7_noLorry_20 D l0), D 15 11 (l0.toNatClampNeg)) else (k_d D 14 0 0 (j_X7_noLorry_20 D l0), 101))
def s_X7_lorryAt (D : KD) (nl : Nat) (nt : Nat) (ng : Nat) (d : Int32) : KD × Int32 := (if (j_X7_noDoor_15 D d) = 0 then (if (D 15 23 (d.toNatClampNeg)) = (-1) then (k_d (k_d D 14 0 0 (j_X7_noDoor_15 D d)) 14 0 0 2, 0) else (k_d D 14 0 0 (j_X7_noDoor_15 D d), D 15 23 (d.toNatClampNeg))) else (k_d D 14 0 0 (j_X7_noDoor_15 D d), 0))
def j_X7_inQueue_24 (D : KD) (nl : Nat) (nt : Nat) (ng : Nat) (d : Int32) (pl : Int32) : Int32 := (if pl ≥ 0 then (s_X7_queued (k_d D 14 0 0 (j_X7_noDoor_15 D d)) nl nt ng d pl) else (-1))
def s_X7_inQueue (D : KD) (nl : Nat) (nt : Nat) (ng : Nat) (d : Int32) (pl : Int32) : KD × Int32 := (if (j_X7_noDoor_15 D d) = 0 then (if (j_X7_inQueue_24 D nl nt ng d pl) = (-1) then (k_d (k_d D 14 0 0 (j_X7_noDoor_15 D d)) 14 0 0 2, 0) else (k_d D 14 0 0 (j_X7_noDoor_15 D d), (j_X7_inQueue_24 D nl nt ng d pl))) else (k_d D 14 0 0 (j_X7_noDoor_15 D d), 0))
def s_X7_unloaded (D : KD) (nl : Nat) (nt : Nat) (ng : Nat) (t : Int32) : KD × Int32 := (if (j_X7_noTransfer_20 D t) = 0 then (k_d D 14 0 0 (j_X7_noTransfer_20 D t), D 15 15 (t.toNatClampNeg)) else (k_d D 14 0 0 (j_X7_noTransfer_20 D t), 0))
def s_X7_ready (D : KD) (nl : Nat) (nt : Nat) (ng : Nat) (t : Int32) : KD × Int32 := (if (j_X7_noTransfer_20 D t) = 0 then (k_d D 14 0 0 (j_X7_noTransfer_20 D t), D 15 16 (t.toNatClampNeg)) else (k_d D 14 0 0 (j_X7_noTransfer_20 D t), 0))
def s_X7_loaded (D : KD) (nl : Nat) (nt : Nat) (ng : Nat) (t : Int32) : KD × Int32 := (if (j_X7_noTransfer_20 D t) = 0 then (k_d D 14 0 0 (j_X7_noTransfer_20 D t), D 15 17 (t.toNatClampNeg)) else (k_d D 14 0 0 (j_X7_noTransfer_20 D t), 0))
def s_X7_leftAt (D : KD) (nl : Nat) (nt : Nat) (ng : Nat) (l0 : Int32) : KD × Int32 := (if (j_X7_noLorry_20 D l0) = 0 then (if (D 15 11 (l0.toNatClampNeg)) = 108 then (k_d D 14 0 0 (j_X7_noLorry_20 D l0), D 15 8 (l0.toNatClampNeg)) else (k_d (k_d D 14 0 0 (j_X7_noLorry_20 D l0)) 14 0 0 2, 0)) else (k_d D 14 0 0 (j_X7_noLorry_20 D l0), 0))
def s_X7_waited (D : KD) (nl : Nat) (nt : Nat) (ng : Nat) (l0 : Int32) : KD × Int32 := (if (j_X7_noLorry_20 D l0) = 0 then (k_d D 14 0 0 (j_X7_noLorry_20 D l0), D 15 6 (l0.toNatClampNeg)) else (k_d D 14 0 0 (j_X7_noLorry_20 D l0), 0))
def s_X7_ownMinutes (D : KD) (nl : Nat) (nt : Nat) (ng : Nat) (l0 : Int32) : KD × Int32 := (if (j_X7_noLorry_20 D l0) = 0 then (k_d D 14 0 0 (j_X7_noLorry_20 D l0), D 15 7 (l0.toNatClampNeg)) else (k_d D 14 0 0 (j_X7_noLorry_20 D l0), 0))
def s_X7_debtor (D : KD) (nl : Nat) (nt : Nat) (ng : Nat) (l0 : Int32) : KD × Int32 := (if (j_X7_noLorry_20 D l0) = 0 then (if (D 14 0 4) = 0 then (k_d (k_d D 14 0 0 (j_X7_noLorry_20 D l0)) 14 0 0 2, 0) else (if (D 15 10 (l0.toNatClampNeg)) = ((D 14 0 4) - 1) then (k_d D 14 0 0 (j_X7_noLorry_20 D l0), D 15 9 (l0.toNatClampNeg)) else (k_d (k_d D 14 0 0 (j_X7_noLorry_20 D l0)) 14 0 0 2, 0))) else (k_d D 14 0 0 (j_X7_noLorry_20 D l0), 0))
def j_X7_leftBehind_46 (D : KD) (nl : Nat) (nt : Nat) (ng : Nat) (k4 : Nat) (z4 : Int32) : Int32 := (if (D 15 11 ((D 15 13 k4).toNatClampNeg)) = 108 then ((D 15 14 k4) - (D 15 17 k4)) else 0)
def f_X7_leftBehind_4 (D : KD) (nl : Nat) (nt : Nat) (ng : Nat) (k4 : Nat) (z4 : Int32) : Int32 := (z4 + (j_X7_leftBehind_46 D nl nt ng k4 z4))
def l_X7_leftBehind_4 (D : KD) (nl : Nat) (nt : Nat) (ng : Nat) : Int32 := it (f_X7_leftBehind_4 D nl nt ng) nt 0
def s_X7_leftBehind (D : KD) (nl : Nat) (nt : Nat) (ng : Nat) : Int32 := (l_X7_leftBehind_4 D nl nt ng)
def s_X7_invoice (D : KD) (nl : Nat) (nt : Nat) (ng : Nat) (who : Int32) (l0 : Int32) : KD × Int32 := (if (s_X7_isIn who (-1) ((D 14 0 1) - 1)) = 0 then (k_d D 14 0 0 1, 0) else (if (s_X7_isIn l0 0 ((D 14 0 1) - 1)) = 0 then (k_d D 14 0 0 1, 0) else (k_d D 14 0 0 0, D 15 24 (((8 * (who + 1)) + l0).toNatClampNeg))))
def s_X7_invoiceAnew (D : KD) (nl : Nat) (nt : Nat) (ng : Nat) (who : Int32) (l0 : Int32) : KD × Int32 := ((s_X7_invoice D nl nt ng who l0).1, (s_X7_invoice D nl nt ng who l0).2)
def s_X7_isSound (D : KD) : Int32 := 1
theorem mMin_in {x : Int32} (h : ¬ s_X7_isIn x 1 300 = 0) : x = nI x.toNatClampNeg ∧ x.toNatClampNeg ≤ 300 := by
  obtain ⟨h1, h2⟩ := s_isIn_0 h
  have a := mt Int32.lt_iff_toInt_lt.mpr h1
  have e1 : (1 : Int32).toInt = 1 := by decide
  have h0 : ¬ x < 0 := by
    intro q
    have b := Int32.lt_iff_toInt_lt.mp q
    have e0 : (0 : Int32).toInt = 0 := by decide
    omega
  obtain ⟨j, hj, e⟩ := nI_of2 (x := x) (M := 300) (n := 300) (by decide) h0 (by
    rw [Int32.le_iff_toInt_le]
    have c : ¬ (300 : Int32) < x := h2
    have d := mt Int32.lt_iff_toInt_lt.mpr c
    omega)
  rw [e, nI_clamp (by omega)]
  exact ⟨rfl, hj⟩

def f_X7_pass_44 (D : KD) (nl : Nat) (nt : Nat) (ng : Nat) (mn : Int32) (k44 : Nat) (z44 : KD × Int32) : KD × Int32 := (((s_X7_passes z44.1 nl nt ng).1), (z44.2 + ((s_X7_passes z44.1 nl nt ng).2)))
def l_X7_pass_44 (D : KD) (nl : Nat) (nt : Nat) (ng : Nat) (mn : Int32) : KD × Int32 := it (f_X7_pass_44 D nl nt ng mn) (mn.toNatClampNeg) ((k_d D 14 0 0 0), 0)
def s_X7_pass (D : KD) (nl : Nat) (nt : Nat) (ng : Nat) (mn : Int32) : KD × Int32 := (if (s_X7_isIn mn 1 300) = 0 then (k_d D 14 0 0 1, 0) else (if ((D 14 0 4) + mn) ≤ 2000 then ((l_X7_pass_44 D nl nt ng mn).1, (l_X7_pass_44 D nl nt ng mn).2) else (k_d D 14 0 0 2, 0)))
