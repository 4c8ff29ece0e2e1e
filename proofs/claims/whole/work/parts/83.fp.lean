/-! kFP: what is asked of doubles and floats holds -/
theorem fp_asm {f : FP.Core.Fmt} {s : Bool} {E T : Nat} (hE : E < f.exps) (hT : T < f.tails) : FP.Core.fieldT f (FP.Core.assemble f s E T) = T ∧ FP.Core.fieldE f (FP.Core.assemble f s E T) = E ∧ FP.Core.assemble f s E T < 2 * f.exps * f.tails := by
  have ht : 0 < f.tails := by omega
  have he : 0 < f.exps := by omega
  have e1 : FP.Core.assemble f s E T % f.tails = T := by
    show ((s.toNat * f.exps + E) * f.tails + T) % f.tails = T
    rw [Nat.add_comm, Nat.add_mul_mod_self_right, Nat.mod_eq_of_lt hT]
  have e2 : FP.Core.assemble f s E T / f.tails = s.toNat * f.exps + E := by
    show ((s.toNat * f.exps + E) * f.tails + T) / f.tails = _
    rw [Nat.add_comm, Nat.add_mul_div_right _ _ ht, Nat.div_eq_of_lt hT, Nat.zero_add]
  refine ⟨e1, ?_, ?_⟩
  · show FP.Core.assemble f s E T / f.tails % f.exps = E
    rw [e2, Nat.add_comm, Nat.add_mul_mod_self_right, Nat.mod_eq_of_lt hE]
  · have h1 : s.toNat * f.exps + E < 2 * f.exps := by
      cases s
      · show 0 * f.exps + E < _; omega
      · show 1 * f.exps + E < _; omega
    show (s.toNat * f.exps + E) * f.tails + T < 2 * f.exps * f.tails
    calc (s.toNat * f.exps + E) * f.tails + T < (s.toNat * f.exps + E) * f.tails + f.tails := by omega
      _ = (s.toNat * f.exps + E + 1) * f.tails := by rw [Nat.succ_mul]
      _ ≤ 2 * f.exps * f.tails := Nat.mul_le_mul_right _ (by omega)
/-- a datum that no encoding of which is a NaN -/
def fp_wf (f : FP.Core.Fmt) (d : FP.Core.Datum) : Prop := (∃ s, d = .inf s) ∨ ∃ s c q, d = .fin s c q ∧ c < 2 ^ f.p ∧ q ≤ f.qmax
theorem fp_bound (f : FP.Core.Fmt) (s : Bool) (c : Nat) (q : Int) (h : c < 2 ^ f.p) : fp_wf f (FP.Core.bound f s c q) := by
  unfold FP.Core.bound
  by_cases hq : q ≤ f.qmax
  · rw [if_pos hq]; exact Or.inr ⟨s, c, q, rfl, h, hq⟩
  · rw [if_neg hq]; exact Or.inl ⟨s, rfl⟩
theorem fp_settle (f : FP.Core.Fmt) (ht : f.tails < 2 ^ f.p) (s : Bool) (c : Nat) (q : Int) : fp_wf f (FP.Core.settle f s c q) := by
  unfold FP.Core.settle
  by_cases hc : c < 2 ^ f.p
  · rw [if_pos hc]; exact fp_bound f s c _ hc
  · rw [if_neg hc]; exact fp_bound f s _ _ ht
theorem fp_set2 (f : FP.Core.Fmt) (ht : f.tails < 2 ^ f.p) (s : Bool) {c : Nat} {q : Int} (h1 : f.tails ≤ c) (h2 : c ≤ 2 ^ f.p) (hq : q + 1 ≤ f.qmax) : ∃ c' q', FP.Core.settle f s c q = .fin s c' q' ∧ f.tails ≤ c' ∧ c' < 2 ^ f.p ∧ q' ≤ f.qmax := by
  unfold FP.Core.settle FP.Core.bound
  by_cases hc : c < 2 ^ f.p
  · rw [if_pos hc, if_pos (by omega)]; exact ⟨c, q, rfl, h1, hc, by omega⟩
  · rw [if_neg hc, if_pos hq]; exact ⟨_, _, rfl, Nat.le_refl _, ht, hq⟩
theorem fp_rr (f : FP.Core.Fmt) (ht : f.tails < 2 ^ f.p) (h0 : f.qmin ≤ f.qmax) (s : Bool) (A B : Nat) (e : Int) : fp_wf f (FP.Core.roundRatio f s A B e) := by
  unfold FP.Core.roundRatio
  by_cases hA : A = 0
  · rw [if_pos hA]; exact Or.inr ⟨s, 0, f.qmin, rfl, Nat.two_pow_pos _, h0⟩
  · rw [if_neg hA]
    exact fp_settle f ht s _ _
/-- such a datum's encoding, by its fields -/
theorem fp_enc (f : FP.Core.Fmt) (hp : f.tails + f.tails = 2 ^ f.p) (hE : (f.qmax - f.qmin).toNat + 3 ≤ f.exps) {d : FP.Core.Datum} (h : fp_wf f d) : ∃ s E T, FP.Core.encode f d = FP.Core.assemble f s E T ∧ E < f.exps ∧ T < f.tails ∧ (E = f.exps - 1 → T = 0) := by
  have ht : 0 < f.tails := Nat.two_pow_pos _
  rcases h with ⟨s, rfl⟩ | ⟨s, c, q, rfl, hc, hq⟩
  · exact ⟨s, f.exps - 1, 0, rfl, by omega, ht, fun _ => rfl⟩
  · show ∃ s' E T, (if c < f.tails then FP.Core.assemble f s 0 c else FP.Core.assemble f s ((q - f.qmin).toNat + 1) (c - f.tails)) = FP.Core.assemble f s' E T ∧ _
    by_cases h1 : c < f.tails
    · rw [if_pos h1]; exact ⟨s, 0, c, rfl, by omega, h1, fun q => by omega⟩
    · rw [if_neg h1]; exact ⟨s, (q - f.qmin).toNat + 1, c - f.tails, rfl, by omega, by omega, fun q => by omega⟩
theorem fp_dec {f : FP.Core.Fmt} {n : Nat} (h : FP.Core.fieldE f n = f.exps - 1 → FP.Core.fieldT f n = 0) : FP.Core.decode f n ≠ .nan := by
  unfold FP.Core.decode
  by_cases h1 : FP.Core.fieldE f n = f.exps - 1
  · rw [if_pos h1, if_pos (h h1)]; exact fun q => by cases q
  · rw [if_neg h1]
    by_cases h2 : FP.Core.fieldE f n = 0
    · rw [if_pos h2]; exact fun q => by cases q
    · rw [if_neg h2]; exact fun q => by cases q
theorem fp_lead {n : Nat} (h0 : n ≠ 0) : FP.Core.leading n 1 = (n.log2 : Int) := by
  have hk1 : 2 ^ n.log2 ≤ n := Nat.log2_self_le h0
  have e1 : (n.log2 : Int) - ((1 : Nat).log2 : Int) = (n.log2 : Int) := by
    rw [show (1 : Nat).log2 = 0 from by decide +kernel]; omega
  unfold FP.Core.leading
  rw [e1]
  dsimp only
  rw [Int.toNat_natCast, show (-(n.log2 : Int)).toNat = 0 by omega, Nat.pow_zero, Nat.mul_one, Nat.one_mul, if_pos hk1]
theorem fp_near1 (N : Nat) : FP.Core.nearest N 1 = N := by
  unfold FP.Core.nearest
  rw [Nat.mod_one, if_pos (by omega), Nat.div_one]
theorem fp_nearB (N D : Nat) : N / D ≤ FP.Core.nearest N D ∧ FP.Core.nearest N D ≤ N / D + 1 := by
  unfold FP.Core.nearest
  generalize N / D = Q
  generalize N % D = M
  by_cases h1 : 2 * M < D
  · rw [if_pos h1]; omega
  · rw [if_neg h1]
    by_cases h2 : D < 2 * M
    · rw [if_pos h2]; omega
    · rw [if_neg h2]; omega
/-- a whole number, rounded, is a number with its leading digit -/
theorem fp_int (f : FP.Core.Fmt) (hp2 : 2 ≤ f.p) (hq1 : f.qmin ≤ 1 - (f.p : Int)) (hq2 : 40 ≤ f.qmax + (f.p : Int)) (s : Bool) {n : Nat} (h0 : n ≠ 0) (hn : n < 2 ^ 33) : ∃ c q, FP.Core.roundRatio f s n 1 0 = .fin s c q ∧ f.tails ≤ c ∧ c < 2 ^ f.p ∧ q ≤ f.qmax := by
  have hk1 : 2 ^ n.log2 ≤ n := Nat.log2_self_le h0
  have hk2 : n < 2 ^ (n.log2 + 1) := Nat.lt_log2_self
  have hk3 : n.log2 < 33 := (Nat.pow_lt_pow_iff_right (by decide : 1 < 2)).mp (Nat.lt_of_le_of_lt hk1 hn)
  have eq : FP.Core.quantum f n 1 0 = (n.log2 : Int) - ((f.p : Int) - 1) := by
    unfold FP.Core.quantum
    rw [fp_lead h0]
    omega
  have etl : f.tails = 2 ^ (f.p - 1) := rfl
  have e2p : 2 ^ f.p = 2 ^ (f.p - 1) + 2 ^ (f.p - 1) := by
    have h1 : 2 ^ ((f.p - 1) + 1) = 2 ^ (f.p - 1) + 2 ^ (f.p - 1) := by rw [Nat.pow_succ]; omega
    rw [show (f.p - 1) + 1 = f.p by omega] at h1
    exact h1
  have ht : f.tails < 2 ^ f.p := by have := Nat.two_pow_pos (f.p - 1); omega
  unfold FP.Core.roundRatio
  rw [if_neg h0, eq]
  generalize n.log2 = k at *
  unfold FP.Core.roundAt FP.Core.unitsNum FP.Core.unitsDen
  have key : f.tails ≤ FP.Core.nearest (n * 2 ^ (0 - ((k : Int) - ((f.p : Int) - 1))).toNat) (1 * 2 ^ ((k : Int) - ((f.p : Int) - 1) - 0).toNat) ∧ FP.Core.nearest (n * 2 ^ (0 - ((k : Int) - ((f.p : Int) - 1))).toNat) (1 * 2 ^ ((k : Int) - ((f.p : Int) - 1) - 0).toNat) ≤ 2 ^ f.p := by
    by_cases hc : k ≤ f.p - 1
    · have a1 : (0 - ((k : Int) - ((f.p : Int) - 1))).toNat = f.p - 1 - k := by omega
      have a2 : ((k : Int) - ((f.p : Int) - 1) - 0).toNat = 0 := by omega
      rw [a1, a2, Nat.pow_zero, Nat.mul_one, fp_near1]
      have b1 : 2 ^ k * 2 ^ (f.p - 1 - k) = 2 ^ (f.p - 1) := by rw [← Nat.pow_add]; congr 1; omega
      have b2 : 2 ^ (k + 1) * 2 ^ (f.p - 1 - k) = 2 ^ f.p := by rw [← Nat.pow_add]; congr 1; omega
      rw [etl, ← b1, ← b2]
      exact ⟨Nat.mul_le_mul_right _ hk1, Nat.mul_le_mul_right _ (Nat.le_of_lt hk2)⟩
    · have a1 : (0 - ((k : Int) - ((f.p : Int) - 1))).toNat = 0 := by omega
      have a2 : ((k : Int) - ((f.p : Int) - 1) - 0).toNat = k - (f.p - 1) := by omega
      rw [a1, a2, Nat.pow_zero, Nat.mul_one, Nat.one_mul]
      have b1 : 2 ^ (f.p - 1) * 2 ^ (k - (f.p - 1)) = 2 ^ k := by rw [← Nat.pow_add]; congr 1; omega
      have b2 : 2 ^ f.p * 2 ^ (k - (f.p - 1)) = 2 ^ (k + 1) := by rw [← Nat.pow_add]; congr 1; omega
      have hD : 0 < 2 ^ (k - (f.p - 1)) := Nat.two_pow_pos _
      obtain ⟨n1, n2⟩ := fp_nearB n (2 ^ (k - (f.p - 1)))
      have c1 : 2 ^ (f.p - 1) ≤ n / 2 ^ (k - (f.p - 1)) := (Nat.le_div_iff_mul_le hD).mpr (by rw [b1]; exact hk1)
      have c2 : n / 2 ^ (k - (f.p - 1)) < 2 ^ f.p := (Nat.div_lt_iff_lt_mul hD).mpr (by rw [b2]; exact hk2)
      rw [etl]
      omega
  exact fp_set2 f ht s key.1 key.2 (by omega)
/-- a whole number's encoding is that of a number, not 0 if it isn't -/
theorem fp_from (f : FP.Core.Fmt) (hp2 : 2 ≤ f.p) (hq1 : f.qmin ≤ 1 - (f.p : Int)) (hq2 : 40 ≤ f.qmax + (f.p : Int)) (hp : f.tails + f.tails = 2 ^ f.p) (hE : (f.qmax - f.qmin).toNat + 3 ≤ f.exps) (hE3 : 3 ≤ f.exps) {i : Int} (h0 : i ≠ 0) (hn : i.natAbs < 2 ^ 33) : FP.Core.fromInt f i < 2 * f.exps * f.tails ∧ ∃ s c q, FP.Core.decode f (FP.Core.fromInt f i) = .fin s c q ∧ c ≠ 0 := by
  have ht : 0 < f.tails := Nat.two_pow_pos _
  obtain ⟨c, q, e1, e2, e3, e4⟩ := fp_int f hp2 hq1 hq2 (decide (i < 0)) (n := i.natAbs) (by omega) hn
  have e : FP.Core.fromInt f i = FP.Core.assemble f (decide (i < 0)) ((q - f.qmin).toNat + 1) (c - f.tails) := by
    show FP.Core.encode f (FP.Core.roundRatio f (decide (i < 0)) i.natAbs 1 0) = _
    rw [e1]
    show (if c < f.tails then _ else _) = _
    exact if_neg (Nat.not_lt.mpr e2)
  rw [e]
  obtain ⟨a1, a2, a3⟩ := fp_asm (f := f) (s := decide (i < 0)) (E := (q - f.qmin).toNat + 1) (T := c - f.tails) (by omega) (by omega)
  refine ⟨a3, ?_⟩
  unfold FP.Core.decode
  rw [a1, a2, if_neg (by omega), if_neg (by omega)]
  exact ⟨_, _, _, rfl, by omega⟩
/-- the quotient of two numbers, the second not 0 -/
theorem fp_quot (f : FP.Core.Fmt) (ht : f.tails < 2 ^ f.p) (h0 : f.qmin ≤ f.qmax) {x y : FP.Core.Datum} (hx : ∃ s c q, x = .fin s c q) (hy : ∃ s c q, y = .fin s c q ∧ c ≠ 0) : fp_wf f (FP.Core.quotient f x y) := by
  obtain ⟨s, c, q, rfl⟩ := hx
  obtain ⟨t, d, r, rfl, hd⟩ := hy
  show fp_wf f (if d = 0 then _ else FP.Core.roundRatio f (s != t) c d (q - r))
  rw [if_neg hd]
  exact fp_rr f ht h0 _ _ _ _
theorem fp_n64 {n : Nat} (h : n % 2 ^ 63 ≤ 9218868437227405312) : vf_n64 (UInt64.ofNat n) := by
  unfold vf_n64
  rw [UInt64.le_iff_toNat_le, UInt64.toNat_and, UInt64.toNat_ofNat']
  show n % 2 ^ 64 &&& (2 ^ 63 - 1) ≤ 9218868437227405312
  rw [Nat.and_two_pow_sub_one_eq_mod]
  omega
theorem fp_n32 {n : Nat} (h : n % 2 ^ 31 ≤ 2139095040) : vf_n32 (UInt32.ofNat n) := by
  unfold vf_n32
  rw [UInt32.le_iff_toNat_le, UInt32.toNat_and, UInt32.toNat_ofNat']
  show n % 2 ^ 32 &&& (2 ^ 31 - 1) ≤ 2139095040
  rw [Nat.and_two_pow_sub_one_eq_mod]
  omega
theorem fp_e64 {d : FP.Core.Datum} (h : fp_wf FP.Core.b64 d) : vf_n64 (UInt64.ofNat (FP.Core.encode FP.Core.b64 d)) := by
  obtain ⟨s, E, T, e, h1, h2, h3⟩ := fp_enc FP.Core.b64 (by decide +kernel) (by decide +kernel) h
  rw [e]
  refine fp_n64 ?_
  have h1' : E < 2048 := h1
  have h2' : T < 4503599627370496 := h2
  have h3' : E = 2047 → T = 0 := h3
  show ((s.toNat * 2048 + E) * 4503599627370496 + T) % 2 ^ 63 ≤ 9218868437227405312
  have hs : s.toNat = 0 ∨ s.toNat = 1 := by cases s <;> decide
  rcases hs with hs | hs <;> rw [hs] <;> omega
theorem fp_e32 {d : FP.Core.Datum} (h : fp_wf FP.Core.b32 d) : vf_n32 (UInt32.ofNat (FP.Core.encode FP.Core.b32 d)) ∧ FP.Core.decode FP.Core.b32 (UInt32.ofNat (FP.Core.encode FP.Core.b32 d)).toNat ≠ .nan := by
  obtain ⟨s, E, T, e, h1, h2, h3⟩ := fp_enc FP.Core.b32 (by decide +kernel) (by decide +kernel) h
  obtain ⟨a1, a2, a3⟩ := fp_asm (f := FP.Core.b32) (s := s) h1 h2
  have a4 : FP.Core.assemble FP.Core.b32 s E T < 2 ^ 32 := a3
  rw [e]
  refine ⟨fp_n32 ?_, ?_⟩
  · have h1' : E < 256 := h1
    have h2' : T < 8388608 := h2
    have h3' : E = 255 → T = 0 := h3
    show ((s.toNat * 256 + E) * 8388608 + T) % 2 ^ 31 ≤ 2139095040
    have hs : s.toNat = 0 ∨ s.toNat = 1 := by cases s <;> decide
    rcases hs with hs | hs <;> rw [hs] <;> omega
  · rw [UInt32.toNat_ofNat', Nat.mod_eq_of_lt a4]
    refine fp_dec ?_
    rw [a1, a2]
    exact h3
theorem fp_i2d (a : Int32) : (∃ s c q, FP.Core.decode FP.Core.b64 (FP.i2d a).toNat = .fin s c q) ∧ (¬ a = 0 → ∃ s c q, FP.Core.decode FP.Core.b64 (FP.i2d a).toNat = .fin s c q ∧ c ≠ 0) := by
  have main : ¬ a = 0 → ∃ s c q, FP.Core.decode FP.Core.b64 (FP.i2d a).toNat = .fin s c q ∧ c ≠ 0 := by
    intro h
    have hi : a.toInt ≠ 0 := fun q => h (Int32.toInt_inj.mp (q.trans (by decide)))
    have h1 := Int32.toInt_lt a
    have h2 := Int32.le_toInt a
    obtain ⟨b1, b2⟩ := fp_from FP.Core.b64 (by decide +kernel) (by decide +kernel) (by decide +kernel) (by decide +kernel) (by decide +kernel) (by decide +kernel) hi (by omega)
    have b3 : FP.Core.fromInt FP.Core.b64 a.toInt < 2 ^ 64 := b1
    show ∃ s c q, FP.Core.decode FP.Core.b64 (UInt64.ofNat (FP.Core.fromInt FP.Core.b64 a.toInt)).toNat = .fin s c q ∧ c ≠ 0
    rw [UInt64.toNat_ofNat', Nat.mod_eq_of_lt b3]
    exact b2
  refine ⟨?_, main⟩
  by_cases h : a = 0
  · subst h
    exact ⟨false, 0, -1074, by decide +kernel⟩
  · obtain ⟨s, c, q, e, -⟩ := main h
    exact ⟨s, c, q, e⟩
theorem fp_i2f (a : Int32) : (∃ s c q, FP.Core.decode FP.Core.b32 (FP.i2f a).toNat = .fin s c q) ∧ (¬ a = 0 → ∃ s c q, FP.Core.decode FP.Core.b32 (FP.i2f a).toNat = .fin s c q ∧ c ≠ 0) := by
  have main : ¬ a = 0 → ∃ s c q, FP.Core.decode FP.Core.b32 (FP.i2f a).toNat = .fin s c q ∧ c ≠ 0 := by
    intro h
    have hi : a.toInt ≠ 0 := fun q => h (Int32.toInt_inj.mp (q.trans (by decide)))
    have h1 := Int32.toInt_lt a
    have h2 := Int32.le_toInt a
    obtain ⟨b1, b2⟩ := fp_from FP.Core.b32 (by decide +kernel) (by decide +kernel) (by decide +kernel) (by decide +kernel) (by decide +kernel) (by decide +kernel) hi (by omega)
    have b3 : FP.Core.fromInt FP.Core.b32 a.toInt < 2 ^ 32 := b1
    show ∃ s c q, FP.Core.decode FP.Core.b32 (UInt32.ofNat (FP.Core.fromInt FP.Core.b32 a.toInt)).toNat = .fin s c q ∧ c ≠ 0
    rw [UInt32.toNat_ofNat', Nat.mod_eq_of_lt b3]
    exact b2
  refine ⟨?_, main⟩
  by_cases h : a = 0
  · subst h
    exact ⟨false, 0, -149, by decide +kernel⟩
  · obtain ⟨s, c, q, e, -⟩ := main h
    exact ⟨s, c, q, e⟩
theorem fp_f2d {a : UInt32} (h : FP.Core.decode FP.Core.b32 a.toNat ≠ .nan) : vf_n64 (FP.f2d a) := by
  have hn : FP.Core.fIsNaN a = false := decide_eq_false h
  unfold FP.f2d
  rw [hn, if_neg (by decide)]
  refine fp_e64 ?_
  cases hd : FP.Core.decode FP.Core.b32 a.toNat with
  | nan => exact absurd hd h
  | inf s => exact Or.inl ⟨s, rfl⟩
  | fin s c q => exact fp_rr FP.Core.b64 (by decide +kernel) (by decide +kernel) s c 1 q
theorem fp_dcmp {x : UInt64} (h : vf_n64 x) : FP.dcmp x x = some .eq := by
  have hx : x.toNat % 2 ^ 63 ≤ 9218868437227405312 := by
    unfold vf_n64 at h
    rw [UInt64.le_iff_toNat_le, UInt64.toNat_and] at h
    have h2 : x.toNat &&& (2 ^ 63 - 1) ≤ 9218868437227405312 := h
    rw [Nat.and_two_pow_sub_one_eq_mod] at h2
    exact h2
  have hd : FP.Core.decode FP.Core.b64 x.toNat ≠ .nan := fp_dec (by
    show x.toNat / 4503599627370496 % 2048 = 2047 → x.toNat % 4503599627370496 = 0
    omega)
  show FP.Core.order (FP.Core.decode FP.Core.b64 x.toNat) (FP.Core.decode FP.Core.b64 x.toNat) = some .eq
  have cs : ∀ a : Int, compare a a = .eq := fun a => by simp [compare, compareOfLessAndEq]
  cases hq : FP.Core.decode FP.Core.b64 x.toNat with
  | nan => exact absurd hq hd
  | inf s => exact congrArg some (cs _)
  | fin s c q => exact congrArg some (cs _)
theorem k_fp : kFP := by
  have ddiv : ∀ a b : Int32, ¬ b = 0 → vf_n64 (FP.ddiv (FP.i2d a) (FP.i2d b)) := fun a b hb => fp_e64 (fp_quot FP.Core.b64 (by decide +kernel) (by decide +kernel) (fp_i2d a).1 ((fp_i2d b).2 hb))
  have fdiv : ∀ a b : Int32, ¬ b = 0 → vf_n32 (FP.fdiv (FP.i2f a) (FP.i2f b)) ∧ FP.Core.decode FP.Core.b32 (FP.fdiv (FP.i2f a) (FP.i2f b)).toNat ≠ .nan := fun a b hb => fp_e32 (fp_quot FP.Core.b32 (by decide +kernel) (by decide +kernel) (fp_i2f a).1 ((fp_i2f b).2 hb))
  exact ⟨ddiv, fun a b hb => ⟨(fdiv a b hb).1, fp_f2d (fdiv a b hb).2⟩, fun x hx => fp_dcmp hx, by unfold vf_n64; decide +kernel⟩
