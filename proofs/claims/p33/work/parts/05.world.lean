/-! THE WORLD: all objects of the class, the reference and their parts, by region r, owner g, place i; what each holds is an int a slot (k_e says which slots are references, and to what). -/
abbrev kX : Type := va_G × (Nat → ClassId) × Heap × Nat
abbrev k_H0 (X : kX) : Heap := X.2.2.1
abbrev k_B (X : kX) : Nat := X.2.2.1.size
abbrev k_tys (X : kX) : List (ClassId × FieldType) := [(X.2.1 0, .int), (X.2.1 1, .boolean), (X.2.1 2, .char), (X.2.1 3, .object "Crossdockery$Lorry"), (X.2.1 4, .object "java/lang/Object"), (X.2.1 5, .byte)]
/-- the reference's arrays: type (0 int, 1 boolean, 2 char) and length by their place -/
def k_mt (i : Nat) : Nat := if i < 2 then 1 else if i = 11 then 2 else 0
def k_ml (i : Nat) : Nat := if i < 12 then 8 else if i < 18 then 16 else if i = 18 then 64 else if i < 24 then 4 else if i = 24 then 72 else 8
def k_e (X : kX) (n : Nat → Nat → Nat) (ad L : Nat → Nat → Nat → Nat) (g r i : Nat) (c : Nat → Int32) : va_E := match r with
  | 0 => .inr (6, [.ref (ad g 1 0), .ref (ad g 1 1), .ref (ad g 1 2), .ref (ad g 3 0), .int (c 4)])
  | 1 => .inr (3, [.int (c 0), .ref (if n g (4 + i) = 0 then X.2.2.2 else ad g 2 i), .int (nI (n g (4 + i)))])
  | 2 => .inl (X.2.1 4, L g 2 i, .inr (.inr (.inr (.inr (fun j => if j < n g (4 + i) then some (ad g (4 + i) j) else none)))))
  | 3 => .inl (X.2.1 3, 4, .inr (.inr (.inr (.inr (fun d => if c d = -1 then none else some (ad g 4 (c d).toNatClampNeg))))))
  | 4 => .inr (9, [.int (c 0), .int (c 1), .int (c 2), .int (c 3), .int (c 4), .int (c 5), .int (c 6), .int (c 7), .int (c 8), .int (c 9), .int (c 10), .int (c 11), .int (c 12), .int (c 13), .ref (ad g 7 i)])
  | 5 => .inr (11, [.ref (ad g 4 (c 0).toNatClampNeg), .ref (ad g 4 (c 1).toNatClampNeg), .int (c 2), .int (c 3), .int (c 4), .int (c 5), .ref (ad g 8 i)])
  | 6 => .inr (8, [.int (c 0), .int (c 1), .int (c 2), .int (c 3)])
  | 7 => .inl (X.2.1 0, 9, .inl c)
  | 8 => .inl (X.2.1 0, 4, .inl c)
  | 16 => .inr (12, [.ref (ad 0 0 0), .ref (ad g 17 0)])
  | 17 => .inr (3, [.int (c 0), .ref (if n g 19 = 0 then X.2.2.2 else ad g 18 i), .int (nI (n g 19))])
  | 18 => .inl (X.2.1 4, L g 18 i, .inr (.inr (.inr (.inr (fun j => if j < n g 19 then some (ad g 19 j) else none)))))
  | 19 => .inr (7, [.int (c 0), .int (c 1), .int (c 2), .int (c 3)])
  | 21 => .inr (10, [.int (c 0), .ref (ad g 22 0), .ref (ad g 22 1), .ref (ad g 22 2), .ref (ad g 22 3), .int (c 5)])
  | 22 => .inl (X.2.1 (if i = 0 then 1 else 0), (if i = 3 then 64 else 8), .inl c)
  | _ => .inr (0, [])
/-- which places are taken; n g 2: the list that is taken out just now (1, 2, 3: the dock's, 40: the events), 0 without one -/
def k_v (n : Nat → Nat → Nat) (g r i : Nat) : Prop := match r with
  | 1 => i < n g 1 ∧ n g 2 ≠ i + 1
  | 2 => i < n g 1 ∧ 0 < n g (4 + i) ∧ n g 2 ≠ i + 1
  | 7 => i < n g 4
  | 8 => i < n g 5
  | 17 => i < n g 17 ∧ n g 2 ≠ 40
  | 18 => i < n g 17 ∧ 0 < n g 19 ∧ n g 2 ≠ 40
  | r => i < n g r
def k_cap (n : Nat → Nat → Nat) (L : Nat → Nat → Nat → Nat) : Prop := (∀ g i, k_v n g 2 i → n g (4 + i) ≤ L g 2 i ∧ L g 2 i ≤ 40000 ∧ 10 ≤ L g 2 i) ∧ ∀ g i, k_v n g 18 i → n g 19 ≤ L g 18 i ∧ L g 18 i ≤ 40000 ∧ 10 ≤ L g 18 i
def k_W (X : kX) (n : Nat → Nat → Nat) (ad L : Nat → Nat → Nat → Nat) (C : Nat → Nat → Nat → Nat → Int32) (fr : Nat → Option Cell) (H : Heap) : Prop :=
  (∀ g r i, k_v n g r i → va_at X.1 vwCl (ad g r i, k_e X n ad L g r i (C g r i)) H) ∧
  (∀ g r i g' r' i', k_v n g r i → k_v n g' r' i' → ad g r i = ad g' r' i' → g = g' ∧ r = r' ∧ i = i') ∧
  (∀ g r i, k_v n g r i → k_B X ≤ ad g r i) ∧
  (∀ q c, fr q = some c → H[q]? = some c ∧ k_B X ≤ q ∧ ∀ g r i, k_v n g r i → ad g r i ≠ q) ∧
  (k_B X ≤ H.size ∧ ∀ q : Nat, q < k_B X → H[q]? = (k_H0 X)[q]?) ∧ k_cap n L
/-- the contents of one owner -/
def k_g (C : Nat → Nat → Nat → Nat → Int32) (g : Nat) (D : Nat → Nat → Nat → Int32) : Nat → Nat → Nat → Nat → Int32 := fun g' => if g' = g then D else C g'
def k_d (D : Nat → Nat → Nat → Int32) (r i k : Nat) (x : Int32) : Nat → Nat → Nat → Int32 := fun r' i' k' => if r' = r ∧ i' = i ∧ k' = k then x else D r' i' k'
theorem k_g_self (C : Nat → Nat → Nat → Nat → Int32) (g : Nat) : k_g C g (C g) = C := by
  funext g'
  unfold k_g
  split
  · next h => rw [h]
  · rfl
theorem k_g_at (C : Nat → Nat → Nat → Nat → Int32) (g : Nat) (D : Nat → Nat → Nat → Int32) : k_g C g D g = D := by simp [k_g]
theorem k_g_ne (C : Nat → Nat → Nat → Nat → Int32) {g g' : Nat} (D : Nat → Nat → Nat → Int32) (h : g' ≠ g) : k_g C g D g' = C g' := by simp [k_g, h]
theorem k_g_g (C : Nat → Nat → Nat → Nat → Int32) (g : Nat) (D D' : Nat → Nat → Nat → Int32) : k_g (k_g C g D) g D' = k_g C g D' := by
  funext g'
  unfold k_g
  split <;> rfl
theorem k_d_row (D : Nat → Nat → Nat → Int32) (r i k : Nat) (x : Int32) : k_d D r i k x r i = upd (D r i) k x := by
  funext k'
  unfold k_d upd
  by_cases h : k' = k <;> simp [h]
theorem k_d_off (D : Nat → Nat → Nat → Int32) {r i k r' i' : Nat} (x : Int32) (h : ¬ (r' = r ∧ i' = i)) : k_d D r i k x r' i' = D r' i' := by
  funext k'
  unfold k_d
  rw [if_neg (fun z => h ⟨z.1, z.2.1⟩)]
theorem k_dr {D : Nat → Nat → Nat → Int32} {r i k r2 i2 k2 : Nat} {x : Int32} (h : Nat.beq r2 r = false) : k_d D r i k x r2 i2 k2 = D r2 i2 k2 := if_neg (fun z => Nat.ne_of_beq_eq_false h z.1)
theorem k_di {D : Nat → Nat → Nat → Int32} {r i k r2 i2 k2 : Nat} {x : Int32} (h : Nat.beq i2 i = false) : k_d D r i k x r2 i2 k2 = D r2 i2 k2 := if_neg (fun z => Nat.ne_of_beq_eq_false h z.2.1)
theorem k_dk {D : Nat → Nat → Nat → Int32} {r i k r2 i2 k2 : Nat} {x : Int32} (h : Nat.beq k2 k = false) : k_d D r i k x r2 i2 k2 = D r2 i2 k2 := if_neg (fun z => Nat.ne_of_beq_eq_false h z.2.2)
theorem k_ds {D : Nat → Nat → Nat → Int32} {r i k : Nat} {x : Int32} : k_d D r i k x r i k = x := if_pos ⟨rfl, rfl, rfl⟩
theorem k_W.at {X : kX} {n : Nat → Nat → Nat} {ad L : Nat → Nat → Nat → Nat} {C : Nat → Nat → Nat → Nat → Int32} {fr : Nat → Option Cell} {H : Heap} {g : Nat} {D : Nat → Nat → Nat → Int32} (h : k_W X n ad L (k_g C g D) fr H) {r i : Nat} (hv : k_v n g r i) : va_at X.1 vwCl (ad g r i, k_e X n ad L g r i (D r i)) H := by
  have q := h.1 g r i hv
  rw [k_g_at] at q
  exact q
theorem k_W.put {X : kX} {n : Nat → Nat → Nat} {ad L : Nat → Nat → Nat → Nat} {C : Nat → Nat → Nat → Nat → Int32} {fr : Nat → Option Cell} {H H1 : Heap} {g : Nat} {D : Nat → Nat → Nat → Int32} (h : k_W X n ad L (k_g C g D) fr H) {r i k : Nat} {x : Int32} (hv : k_v n g r i)
    (he : va_at X.1 vwCl (ad g r i, k_e X n ad L g r i (upd (D r i) k x)) H1) (hz : H1.size = H.size) (oq : ∀ q : Nat, q ≠ ad g r i → H1[q]? = H[q]?) : k_W X n ad L (k_g C g (k_d D r i k x)) fr H1 := by
  obtain ⟨h1, h2, h3, h4, h5, h6⟩ := h
  refine ⟨fun g' r' i' hv' => ?_, h2, h3, fun q c hq => ?_, ⟨by rw [hz]; exact h5.1, fun q hq => ?_⟩, h6⟩
  · by_cases hs : g' = g ∧ r' = r ∧ i' = i
    · obtain ⟨rfl, rfl, rfl⟩ := hs
      rw [k_g_at, k_d_row]
      exact he
    · have ha : ad g' r' i' ≠ ad g r i := fun z => hs (h2 _ _ _ _ _ _ hv' hv z)
      have q := (h1 g' r' i' hv').kept (oq _ ha)
      by_cases hg : g' = g
      · subst hg
        rw [k_g_at] at q ⊢
        rw [k_d_off D x (fun z => hs ⟨rfl, z⟩)]
        exact q
      · rw [k_g_ne _ _ hg] at q ⊢
        exact q
  · obtain ⟨a1, a2, a3⟩ := h4 q c hq
    refine ⟨?_, a2, a3⟩
    rw [oq q (fun z => a3 g r i hv z.symm)]
    exact a1
  · rw [oq q (fun z => ?_)]
    · exact h5.2 q hq
    · have := h3 g r i hv
      rw [← z] at this
      exact absurd hq (Nat.not_lt.mpr this)
/-- words of the tables that a call doesn't hand on by itself: nest mates, casts -/
def k_nw : List Cond := [.methodLinkNest RX6 11 yX0_init "Crossdockery", .methodLinkNest RX6 208 yX4_search "Crossdockery", .methodLinkNest RX4 100 yX6_difference "Crossdockery", .methodLinkNest RX5 41 yX6_difference "Crossdockery", .castable RX3 RX3, .castable RX5 RX5, .castable RX2 RX2, .castable RX1 RX1, .castable RX3 "java/lang/Object", .castable RX5 "java/lang/Object", .castable RX2 "java/lang/Object", .castable RX1 "java/lang/Object", .declares (Bundle.initS "java/lang/RuntimeException"), .declares (Bundle.initS "java/lang/Exception"), .declares (Bundle.initS Bundle.tN), .castable "java/lang/IndexOutOfBoundsException" "java/lang/IndexOutOfBoundsException", .castable "java/lang/IllegalArgumentException" "java/lang/IllegalArgumentException", .castable "java/lang/IllegalStateException" "java/lang/IllegalStateException", .castable "java/lang/UnsupportedOperationException" "java/lang/UnsupportedOperationException", .castable "java/util/NoSuchElementException" "java/util/NoSuchElementException", .castable "java/lang/ArithmeticException" "java/lang/ArithmeticException"]
/-- exceptions told apart -/
def k_nc : List (String × String) := [("java/lang/IndexOutOfBoundsException", "java/lang/IllegalArgumentException"), ("java/lang/IndexOutOfBoundsException", "java/lang/IllegalStateException"), ("java/lang/IndexOutOfBoundsException", "java/lang/UnsupportedOperationException"), ("java/lang/IndexOutOfBoundsException", "java/util/NoSuchElementException"), ("java/lang/IndexOutOfBoundsException", "java/lang/ArithmeticException"), ("java/lang/IllegalArgumentException", "java/lang/IndexOutOfBoundsException"), ("java/lang/IllegalArgumentException", "java/lang/IllegalStateException"), ("java/lang/IllegalArgumentException", "java/lang/UnsupportedOperationException"), ("java/lang/IllegalArgumentException", "java/util/NoSuchElementException"), ("java/lang/IllegalArgumentException", "java/lang/ArithmeticException"), ("java/lang/IllegalStateException", "java/lang/IndexOutOfBoundsException"), ("java/lang/IllegalStateException", "java/lang/IllegalArgumentException"), ("java/lang/IllegalStateException", "java/lang/UnsupportedOperationException"), ("java/lang/IllegalStateException", "java/util/NoSuchElementException"), ("java/lang/IllegalStateException", "java/lang/ArithmeticException"), ("java/lang/UnsupportedOperationException", "java/lang/IndexOutOfBoundsException"), ("java/lang/UnsupportedOperationException", "java/lang/IllegalArgumentException"), ("java/lang/UnsupportedOperationException", "java/lang/IllegalStateException"), ("java/lang/UnsupportedOperationException", "java/util/NoSuchElementException"), ("java/lang/UnsupportedOperationException", "java/lang/ArithmeticException"), ("java/util/NoSuchElementException", "java/lang/IndexOutOfBoundsException"), ("java/util/NoSuchElementException", "java/lang/IllegalArgumentException"), ("java/util/NoSuchElementException", "java/lang/IllegalStateException"), ("java/util/NoSuchElementException", "java/lang/UnsupportedOperationException"), ("java/util/NoSuchElementException", "java/lang/ArithmeticException"), ("java/lang/ArithmeticException", "java/lang/IndexOutOfBoundsException"), ("java/lang/ArithmeticException", "java/lang/IllegalArgumentException"), ("java/lang/ArithmeticException", "java/lang/IllegalStateException"), ("java/lang/ArithmeticException", "java/lang/UnsupportedOperationException"), ("java/lang/ArithmeticException", "java/util/NoSuchElementException")]
/-- the texts of the exceptions -/
def k_str : List (String × Nat × String) := [(RX6, 102, "no room for another gang"), (RX6, 108, "minutes out of range"), (RX6, 113, "the dock's time ends before"), (RX6, 124, "no lorry is at the door"), (RX6, 134, "no such place in the queue"), (RX6, 151, "the lorry has not left"), (RX6, 168, "the lorry did not wait in the last minute"), (RX6, 189, "there are no lorries"), (RX6, 195, "no lorry has waited"), (RX6, 244, "no such door"), (RX6, 29, "planned minute or rate out of range"), (RX6, 43, "no room for another lorry"), (RX6, 60, "wrong kind of lorry, or units out of range"), (RX6, 69, "a lorry is past the yard, or no room for another transfer"), (RX6, 75, "the lorry is past the yard"), (RX6, 81, "the lorry is not expected"), (RX6, 89, "no door is planned"), (RX6, 95, "the lorry is not here"), (RX6, 97, "speed or shift out of range"), (RX0, 36, "no such lorry"), (RX0, 45, "no such transfer"), (RX0, 49, "no such gang")]
def k_U (U : State) : Prop := (∀ x ∈ k_nc, va_Nc x.1 x.2 U) ∧ ∀ x ∈ k_str, ∃ a, vk_R x.1 x.2.1 x.2.2 a U
theorem k_U.warm {s U : State} (hW : s.WarmedH U.vm) (h : k_U s) : k_U U := ⟨fun x hx => (h.1 x hx).moved hW.alike, fun x hx => (h.2 x hx).elim fun a q => ⟨a, vk_R.warm hW q⟩⟩
theorem k_U.same {u U : State} (hv : u.vm = U.vm) (h : k_U u) : k_U U := k_U.warm (s := u) (by rw [← hv]; exact State.WarmedH.refl u) h
/-- statics of the JDK: ArrayList's empty array, Throwable's two; the mirror of Object[] -/
def k_T (X : kX) (U : State) : Prop := va_Z "java/util/ArrayList" "DEFAULTCAPACITY_EMPTY_ELEMENTDATA" "[Ljava/lang/Object;" (.ref X.2.2.2) (fun q => k_B X ≤ q) U (k_H0 X) ∧ va_T (.object "java/lang/Object") X.2.2.2 0 (fun _ => .null) (fun q => k_B X ≤ q) U (k_H0 X) ∧ va_Mi "[Ljava/lang/Object;" (X.2.1 7) U ∧ va_Dc U ∧ vx_Zq Bundle.tN "UNASSIGNED_STACK" Bundle.steD (fun q => k_B X ≤ q) U (k_H0 X) ∧ vx_Zq Bundle.tN "SUPPRESSED_SENTINEL" Bundle.listD (fun q => k_B X ≤ q) U (k_H0 X)
theorem k_T.moved {X : kX} {u U : State} (hvm : u.vm.Alike U.vm) (h : k_T X u) : k_T X U := ⟨h.1.moved hvm, h.2.1.moved hvm, h.2.2.1.moved hvm, h.2.2.2.1.moved hvm, h.2.2.2.2.1.moved hvm, h.2.2.2.2.2.moved hvm⟩
/-- the tables' facts that every method of the claim may use -/
def k_S (X : kX) (U : State) : Prop := va_K X.1 vwCl (k_tys X) U ∧ ((∀ w ∈ k_nw, va_Nw w U) ∧ k_U U) ∧ va_AO RX3 U ∧ va_AO "java/lang/Object" U ∧ k_T X U
theorem k_nw_warm {s U : State} (hW : s.WarmedH U.vm) (h : ∀ w ∈ k_nw, va_Nw w s) : ∀ w ∈ k_nw, va_Nw w U := by
  intro w hw
  have h1 := h w hw
  simp only [k_nw, List.mem_cons, List.mem_nil_iff, or_false] at hw
  rcases hw with rfl | rfl | rfl | rfl | rfl | rfl | rfl | rfl | rfl | rfl | rfl | rfl | rfl | rfl | rfl | rfl | rfl | rfl | rfl | rfl | rfl <;> first | exact va_Nw.warmM hW h1 | exact va_Nw.warmC hW h1 | exact va_Nw.warmD hW h1
theorem k_nw_same {u U : State} (hv : u.vm = U.vm) (h : ∀ w ∈ k_nw, va_Nw w u) : ∀ w ∈ k_nw, va_Nw w U := by
  intro w hw
  have h1 := h w hw
  simp only [k_nw, List.mem_cons, List.mem_nil_iff, or_false] at hw
  rcases hw with rfl | rfl | rfl | rfl | rfl | rfl | rfl | rfl | rfl | rfl | rfl | rfl | rfl | rfl | rfl | rfl | rfl | rfl | rfl | rfl | rfl <;> exact va_Nw.same rfl hv h1
theorem k_S.moved {X : kX} {s U : State} (hW : s.WarmedH U.vm) (h : k_S X s) : k_S X U := ⟨va_K.moved hW.alike h.1, ⟨k_nw_warm hW h.2.1.1, k_U.warm hW h.2.1.2⟩, h.2.2.1.moved hW.alike, h.2.2.2.1.moved hW.alike, h.2.2.2.2.moved hW.alike⟩
theorem k_S.same {X : kX} {u U : State} (hv : u.vm = U.vm) (h : k_S X u) : k_S X U := by
  have ha : u.vm.Alike U.vm := by rw [hv]; exact Vm.Alike.refl _
  exact ⟨va_K.moved ha h.1, ⟨k_nw_same hv h.2.1.1, k_U.same hv h.2.1.2⟩, h.2.2.1.moved ha, h.2.2.2.1.moved ha, h.2.2.2.2.moved ha⟩
theorem k_S.nest {X : kX} {s : State} (h : k_S X s) {w : Cond} (hw : w ∈ k_nw) : va_Nw w s := h.2.1.1 w hw
def k_Q (Po : Option Value → Heap → Prop) : Array Value → State → Outcome → State → Prop := fun _ _ oc t => ∃ v, oc = .returned v ∧ Po v t.heap
/-- a contract: called with av in a world P, it returns, and Po says what and which world is there then; what it writes lies behind the claim's start -/
def k_M (X : kX) (l : Launch) (y : MethodName) (ws : List Cond) (rm : Room) (av : List Value) (P : Heap → Prop) (Po : Option Value → Heap → Prop) (mc ms : Nat) : Prop :=
  Met l y ws rm (va_Pc av (fun U => k_S X U ∧ P U.heap)) (k_Q Po) mc ms (fun q => k_B X ≤ q)
theorem k_blind (X : kX) (av : List Value) (P : Heap → Prop) : FrameBlind (va_Pc av (fun U => k_S X U ∧ P U.heap)) := by
  intro a U g mk q
  obtain ⟨h1, h2, h3⟩ := q
  exact ⟨h1, k_S.same (u := U) (U := U.calling g mk a) rfl h2, h3⟩
theorem k_M.of {X : kX} {l : Launch} {y : MethodName} {ws ws' : List Cond} {rm : Room} {av : List Value} {P : Heap → Prop} {Po : Option Value → Heap → Prop} {mc ms : Nat} {cc : ByteArray} {maxL : Nat} {ret : Option FieldType}
    (hy : plainName y.cls = true) (hw : ws = Cond.code y cc maxL ret :: ws') (hav : (lg_sl av).length ≤ maxL)
    (body : ∀ (p : Program) (e : Env) (s : State) (m : MethodId) (args : Array Value) (below : List Frame) (meth : Method) (c : Code) (ls : Array Slot), p.tables.exec = Jvm.exec → c.code = cc → meth.sig.returnType = ret → c.maxLocals = maxL → s.vm.findClass y.cls = some m.cls → (∀ w ∈ ws, w.before args s = true) → meth.locks = false → meth.name = y.name → k_S X s → P s.heap → lv_has ls maxL (lv_args 0 av) →
      W p l e rm s m args below meth c s.heap [] 0 0 (MQ below (k_Q Po) args s mc ms (fun q => k_B X ≤ q)) (F0 m 0 ls [])) : k_M X l y ws rm av P Po mc ms := by
  refine Met.ofW (cc := cc) (maxL := maxL) (ret := ret) hy hw ?_
  intro p e s m args below meth c s₁ B hml hv
  obtain ⟨rfl, hK, hP⟩ := hv
  have hl := lv_entry av (n := maxL) hav
  rw [lg_entry_eq]
  exact body p e s m _ below meth c _ B.exec B.bytes B.returns hml (findClass_of_methodNamed B.named) (atoms_spec (ws := ws) B.pre) B.notSynchronized (name_of_methodNamed B.named B.method).1 hK hP hl
section KROWS
variable {p : Program} {l : Launch} {e : Env} {R : Room} {s : State} {m : MethodId} {args : Array Value} {below : List Frame} {meth : Method} {c : Code} {H : Heap} {locs : List Loc} {cells slots : Nat} {Q : State → Prop}
variable {cc : ByteArray} {pc : Nat} {ls : Array Slot} {rest : List Value} {X : kX} {n : Nat → Nat → Nat} {ad L : Nat → Nat → Nat → Nat} {C : Nat → Nat → Nat → Nat → Int32} {fr : Nat → Option Cell} {g : Nat} {D : Nat → Nat → Nat → Int32}
theorem k_get (hexec : p.tables.exec = Jvm.exec) (hb : c.code = cc) {own ref K : String} {T : u_T} {N ci index : Nat} (hF : ∀ w ∈ u_ws K T N, w.before args s = true) (hown : s.vm.findClass own = some m.cls) (hK : k_S X s) (hW : k_W X n ad L (k_g C g D) fr H) (r i : Nat) {fs : (Nat → Int32) → List Value} (hv : k_v n g r i) (he : ∀ c : Nat → Int32, k_e X n ad L g r i c = .inr (ci, fs c)) (hc : vwCl[ci]? = some (K, T, N)) (k : Nat) (hk : k < N) (hlink : (Cond.fieldLink own index ref (T k).2.1 (T k).2.2.1).before args s = true) (hsame : (T k).1 = ref) {v : Value} (hfs : (fs (D r i))[k]? = some v) {w : Value} (hw : v = w) (hdg : decode cc pc = .ok (.getfield index, 3))
    (kk : W p l e R s m args below meth c H locs cells slots Q (F0 m (pc + 3) ls (w :: rest))) : W p l e R s m args below meth c H locs cells slots Q (F0 m pc ls (.ref (ad g r i) :: rest)) := by
  subst hw
  have hA := hW.at hv
  rw [he] at hA
  exact va_get hexec hb hF (fun _ h => h) hown hK.1 (ws := [(ad g r i, .inr (ci, fs (D r i)))]) (fun k0 q0 h0 => by
    have hz : k0 < 1 := (List.getElem?_eq_some_iff.mp h0).1
    rw [show k0 = 0 by omega] at h0
    cases h0
    exact hA) 0 rfl hc k hk hlink (fun x h => by rw [← hsame]; exact h) hfs hdg kk
theorem k_put (hexec : p.tables.exec = Jvm.exec) (hb : c.code = cc) {own ref K : String} {T : u_T} {N ci index : Nat} (hF : ∀ w ∈ u_ws K T N, w.before args s = true) (ty0 : Nat → FieldType) (hty : ∀ k, k < N → parseFieldDescriptor (T k).2.2.1 = some (ty0 k)) (hnm : ∀ a, a < N → ∀ b, b < N → a ≠ b → (T a).2.1 ≠ (T b).2.1) (hown : s.vm.findClass own = some m.cls) (hK : k_S X s) (hW : k_W X n ad L (k_g C g D) fr H) (hL : ∀ q ∈ locs, k_B X ≤ q.base) (r i : Nat) {fs : (Nat → Int32) → List Value} (hv : k_v n g r i) (he : ∀ c : Nat → Int32, k_e X n ad L g r i c = .inr (ci, fs c)) (hc : vwCl[ci]? = some (K, T, N)) (k : Nat) (hk : k < N) (hlink : (Cond.fieldLink own index ref (T k).2.1 (T k).2.2.1).before args s = true) (hsame : (T k).1 = ref) (hfin : (T k).2.2.2 = false) {x : Int32} (hn : narrow (ty0 k) (.int x) = .int x) (hfit : fits (ty0 k) (.int x) = true) (hl : ∀ c : Nat → Int32, k < (fs c).length) (he' : ∀ (c : Nat → Int32) (y : Int32), fs (upd c k y) = (fs c).set k (.int y))
    (hdg : decode cc pc = .ok (.putfield index, 3)) (kk : ∀ (H1 : Heap) (locs1 : List Loc), k_W X n ad L (k_g C g (k_d D r i k x)) fr H1 → (∀ q ∈ locs1, k_B X ≤ q.base) → W p l e R s m args below meth c H1 locs1 cells slots Q (F0 m (pc + 3) ls rest)) : W p l e R s m args below meth c H locs cells slots Q (F0 m pc ls (.int x :: .ref (ad g r i) :: rest)) := by
  have hap := va_apart (own := own) hF (fun _ h => h) ty0 hty hnm hK.1 hc
  have hA := hW.at hv
  rw [he] at hA
  obtain ⟨r', h1, cell, q1, q2, q3, q4⟩ := hA
  have hr : r' = (K, T, N) := Option.some.inj (h1.symm.trans hc)
  subst hr
  obtain ⟨hS, hfc, kC, hkC, hkind⟩ := hK.1.1 ci _ hc
  obtain ⟨cf, kf, fi, f, hi, hsl⟩ := hS k hk
  have hlay := hF _ (u_in_lay hk)
  unfold u_lay at hlay
  rw [if_neg (by rw [hfin]; decide)] at hlay
  have hst := (u_facts hfc hkC (u_lays hF (fun _ h => h) hk) hi).1
  have h6 := u_store hfc hkC hkind hlay hi (hty k hk) hn hfit
  refine W.putK hexec hb (f := f) ⟨hown, hlink, ⟨_, _, _, by rw [← hsame]; exact hi⟩, hst⟩ (by rw [q2]; exact h6) q1 q3 (by rw [hsl]; exact k2_hasslot (q4 k hk)) rfl rfl hdg fun H' e1 e2 e3 => ?_
  rw [hsl] at e1 ⊢
  refine kk H' _ (hW.put hv ?_ e2 e3) (fun q hq => ?_)
  · rw [he, he']
    exact ⟨_, hc, t_OB.to (V := updV (vp_V (fs (D r i))) k (.int x)) ⟨_, e1, q2, q3, t_set q4 hap hk _⟩ (fun j _ => vp_updV_set (hl _) _ j)⟩
  · rcases List.mem_append.mp hq with h | h
    · exact hL q h
    · rw [List.mem_singleton.mp h]
      exact hW.2.2.1 g r i hv
theorem k_iald (hexec : p.tables.exec = Jvm.exec) (hb : c.code = cc) (hK : k_S X s) (hW : k_W X n ad L (k_g C g D) fr H) (r i : Nat) {z : Nat} (hv : k_v n g r i) (he : ∀ c : Nat → Int32, k_e X n ad L g r i c = .inl (X.2.1 0, z, .inl c)) {x : Int32} {k : Nat} (hk : x.toNatClampNeg = k) (hin : vp_in x z) {v : Int32} (hval : D r i k = v) (hdg : decode cc pc = .ok (.iaload, 1))
    (kk : W p l e R s m args below meth c H locs cells slots Q (F0 m (pc + 1) ls (.int v :: rest))) : W p l e R s m args below meth c H locs cells slots Q (F0 m pc ls (.int x :: .ref (ad g r i) :: rest)) := by
  subst hk
  subst hval
  have hA := hW.at hv
  rw [he] at hA
  have hlt : x.toNatClampNeg < z := Nat.not_le.mp fun q => hin (Or.inr q)
  exact W.iald (v := .int (D r i x.toNatClampNeg)) hexec hb hA ((hK.1.2 0 _ rfl).1 z (fun j => .int (D r i j))) (fun q => by cases q) (by show ¬ (x < 0 ∨ (arrV _ _ _).slots.size ≤ _); rw [arrV_size]; exact hin) (by show (arrV _ _ _).slots[_]? = _; rw [arrV_read _ _ hlt]) rfl rfl hdg kk
theorem k_zald (hexec : p.tables.exec = Jvm.exec) (hb : c.code = cc) (hK : k_S X s) (hW : k_W X n ad L (k_g C g D) fr H) (r i : Nat) {z : Nat} (hv : k_v n g r i) (he : ∀ c : Nat → Int32, k_e X n ad L g r i c = .inl (X.2.1 1, z, .inl c)) {x : Int32} {k : Nat} (hk : x.toNatClampNeg = k) (hin : vp_in x z) {v : Int32} (hval : D r i k = v) (hdg : decode cc pc = .ok (.baload, 1))
    (kk : W p l e R s m args below meth c H locs cells slots Q (F0 m (pc + 1) ls (.int v :: rest))) : W p l e R s m args below meth c H locs cells slots Q (F0 m pc ls (.int x :: .ref (ad g r i) :: rest)) := by
  subst hk
  subst hval
  have hA := hW.at hv
  rw [he] at hA
  have hlt : x.toNatClampNeg < z := Nat.not_le.mp fun q => hin (Or.inr q)
  exact W.zald (v := .int (D r i x.toNatClampNeg)) hexec hb hA ((hK.1.2 1 _ rfl).1 z (fun j => .int (D r i j))) (fun q => by cases q) (by show ¬ (x < 0 ∨ (arrV _ _ _).slots.size ≤ _); rw [arrV_size]; exact hin) (by show (arrV _ _ _).slots[_]? = _; rw [arrV_read _ _ hlt]) rfl rfl hdg kk
theorem k_cald (hexec : p.tables.exec = Jvm.exec) (hb : c.code = cc) (hK : k_S X s) (hW : k_W X n ad L (k_g C g D) fr H) (r i : Nat) {z : Nat} (hv : k_v n g r i) (he : ∀ c : Nat → Int32, k_e X n ad L g r i c = .inl (X.2.1 2, z, .inl c)) {x : Int32} {k : Nat} (hk : x.toNatClampNeg = k) (hin : vp_in x z) {v : Int32} (hval : D r i k = v) (hdg : decode cc pc = .ok (.caload, 1))
    (kk : W p l e R s m args below meth c H locs cells slots Q (F0 m (pc + 1) ls (.int v :: rest))) : W p l e R s m args below meth c H locs cells slots Q (F0 m pc ls (.int x :: .ref (ad g r i) :: rest)) := by
  subst hk
  subst hval
  have hA := hW.at hv
  rw [he] at hA
  have hlt : x.toNatClampNeg < z := Nat.not_le.mp fun q => hin (Or.inr q)
  exact W.cald (v := .int (D r i x.toNatClampNeg)) hexec hb hA ((hK.1.2 2 _ rfl).1 z (fun j => .int (D r i j))) (fun q => by cases q) (by show ¬ (x < 0 ∨ (arrV _ _ _).slots.size ≤ _); rw [arrV_size]; exact hin) (by show (arrV _ _ _).slots[_]? = _; rw [arrV_read _ _ hlt]) rfl rfl hdg kk
theorem k_iast (hexec : p.tables.exec = Jvm.exec) (hb : c.code = cc) (hK : k_S X s) (hW : k_W X n ad L (k_g C g D) fr H) (hL : ∀ q ∈ locs, k_B X ≤ q.base) (r i : Nat) {z : Nat} (hv : k_v n g r i) (he : ∀ c : Nat → Int32, k_e X n ad L g r i c = .inl (X.2.1 0, z, .inl c)) {x y : Int32} {k : Nat} (hk : x.toNatClampNeg = k) (hin : vp_in x z) (hdg : decode cc pc = .ok (.iastore, 1))
    (kk : ∀ (H1 : Heap) (locs1 : List Loc), k_W X n ad L (k_g C g (k_d D r i k y)) fr H1 → (∀ q ∈ locs1, k_B X ≤ q.base) → W p l e R s m args below meth c H1 locs1 cells slots Q (F0 m (pc + 1) ls rest)) : W p l e R s m args below meth c H locs cells slots Q (F0 m pc ls (.int y :: .int x :: .ref (ad g r i) :: rest)) := by
  subst hk
  have hA := hW.at hv
  rw [he] at hA
  refine W.iast hexec hb hA ((hK.1.2 0 _ rfl).1 z (fun j => .int (D r i j))) (fun q => by cases q) (by show ¬ (x < 0 ∨ (arrV _ _ _).slots.size ≤ _); rw [arrV_size]; exact hin) rfl rfl hdg fun H1 e z oq => ?_
  refine kk H1 _ (hW.put hv ?_ z oq) (fun q hq => ?_)
  · rw [he]
    show H1[_]? = some (vp_cell _ _)
    rw [e]
    rw [vp_cell_i, vp_cell_i, arrV_store]
    congr 2
    funext q
    by_cases hq : q = x.toNatClampNeg
    · subst hq
      simp [updV, upd]
    · simp [updV, upd, hq]
  · rcases List.mem_append.mp hq with h | h
    · exact hL q h
    · rw [List.mem_singleton.mp h]
      exact hW.2.2.1 g r i hv
theorem k_zast (hexec : p.tables.exec = Jvm.exec) (hb : c.code = cc) (hK : k_S X s) (hW : k_W X n ad L (k_g C g D) fr H) (hL : ∀ q ∈ locs, k_B X ≤ q.base) (r i : Nat) {z : Nat} (hv : k_v n g r i) (he : ∀ c : Nat → Int32, k_e X n ad L g r i c = .inl (X.2.1 1, z, .inl c)) {x y : Int32} (hy : narrow .boolean (.int y) = .int y) {k : Nat} (hk : x.toNatClampNeg = k) (hin : vp_in x z) (hdg : decode cc pc = .ok (.bastore, 1))
    (kk : ∀ (H1 : Heap) (locs1 : List Loc), k_W X n ad L (k_g C g (k_d D r i k y)) fr H1 → (∀ q ∈ locs1, k_B X ≤ q.base) → W p l e R s m args below meth c H1 locs1 cells slots Q (F0 m (pc + 1) ls rest)) : W p l e R s m args below meth c H locs cells slots Q (F0 m pc ls (.int y :: .int x :: .ref (ad g r i) :: rest)) := by
  subst hk
  have hA := hW.at hv
  rw [he] at hA
  refine W.zast hexec hb hA ((hK.1.2 1 _ rfl).1 z (fun j => .int (D r i j))) (fun q => by cases q) (by show ¬ (x < 0 ∨ (arrV _ _ _).slots.size ≤ _); rw [arrV_size]; exact hin) rfl rfl hdg fun H1 e z oq => ?_
  refine kk H1 _ (hW.put hv ?_ z oq) (fun q hq => ?_)
  · rw [he]
    show H1[_]? = some (vp_cell _ _)
    rw [e]
    rw [vp_cell_i, vp_cell_i, hy, arrV_store]
    congr 2
    funext q
    by_cases hq : q = x.toNatClampNeg
    · subst hq
      simp [updV, upd]
    · simp [updV, upd, hq]
  · rcases List.mem_append.mp hq with h | h
    · exact hL q h
    · rw [List.mem_singleton.mp h]
      exact hW.2.2.1 g r i hv
theorem k_cast (hexec : p.tables.exec = Jvm.exec) (hb : c.code = cc) (hK : k_S X s) (hW : k_W X n ad L (k_g C g D) fr H) (hL : ∀ q ∈ locs, k_B X ≤ q.base) (r i : Nat) {z : Nat} (hv : k_v n g r i) (he : ∀ c : Nat → Int32, k_e X n ad L g r i c = .inl (X.2.1 2, z, .inl c)) {x y : Int32} (hy : narrow .char (.int y) = .int y) {k : Nat} (hk : x.toNatClampNeg = k) (hin : vp_in x z) (hdg : decode cc pc = .ok (.castore, 1))
    (kk : ∀ (H1 : Heap) (locs1 : List Loc), k_W X n ad L (k_g C g (k_d D r i k y)) fr H1 → (∀ q ∈ locs1, k_B X ≤ q.base) → W p l e R s m args below meth c H1 locs1 cells slots Q (F0 m (pc + 1) ls rest)) : W p l e R s m args below meth c H locs cells slots Q (F0 m pc ls (.int y :: .int x :: .ref (ad g r i) :: rest)) := by
  subst hk
  have hA := hW.at hv
  rw [he] at hA
  refine W.cast hexec hb hA ((hK.1.2 2 _ rfl).1 z (fun j => .int (D r i j))) (fun q => by cases q) (by show ¬ (x < 0 ∨ (arrV _ _ _).slots.size ≤ _); rw [arrV_size]; exact hin) rfl rfl hdg fun H1 e z oq => ?_
  refine kk H1 _ (hW.put hv ?_ z oq) (fun q hq => ?_)
  · rw [he]
    show H1[_]? = some (vp_cell _ _)
    rw [e]
    rw [vp_cell_i, vp_cell_i, hy, arrV_store]
    congr 2
    funext q
    by_cases hq : q = x.toNatClampNeg
    · subst hq
      simp [updV, upd]
    · simp [updV, upd, hq]
  · rcases List.mem_append.mp hq with h | h
    · exact hL q h
    · rw [List.mem_singleton.mp h]
      exact hW.2.2.1 g r i hv
/-- the ends -/
theorem k_iret {Po : Option Value → Heap → Prop} {v : Int32} (hexec : p.tables.exec = Jvm.exec) (hb : c.code = cc) (hr : meth.sig.returnType = some .int) (hlocks : meth.locks = false) (hq : Po (some (.int v)) H) (hL : ∀ q ∈ locs, k_B X ≤ q.base) (hdg : decode cc pc = .ok (.ireturn, 1)) : W p l e R s m args below meth c H locs cells slots (MQ below (k_Q Po) args s cells slots (fun q => k_B X ≤ q)) (F0 m pc ls [.int v]) :=
  W.iret hexec hb hr (fun t ht _ => ⟨_, rfl, by rw [ht]; exact hq⟩) hL hdg
theorem k_zret {Po : Option Value → Heap → Prop} {v : Int32} {ty : FieldType} (hexec : p.tables.exec = Jvm.exec) (hb : c.code = cc) (hr : meth.sig.returnType = some ty) (hn : narrow ty (.int v) = .int v) (hlocks : meth.locks = false) (hq : Po (some (.int v)) H) (hL : ∀ q ∈ locs, k_B X ≤ q.base) (hdg : decode cc pc = .ok (.ireturn, 1)) : W p l e R s m args below meth c H locs cells slots (MQ below (k_Q Po) args s cells slots (fun q => k_B X ≤ q)) (F0 m pc ls [.int v]) :=
  W.zret hexec hb hr hn (fun t ht _ => ⟨_, rfl, by rw [ht]; exact hq⟩) hL hdg
theorem k_vret {Po : Option Value → Heap → Prop} (hexec : p.tables.exec = Jvm.exec) (hb : c.code = cc) (hr : meth.sig.returnType = none) (hlocks : meth.locks = false) (hq : Po none H) (hL : ∀ q ∈ locs, k_B X ≤ q.base) (hdg : decode cc pc = .ok (.return_, 1)) : W p l e R s m args below meth c H locs cells slots (MQ below (k_Q Po) args s cells slots (fun q => k_B X ≤ q)) (F0 m pc ls []) :=
  W.vret hexec hb hr (fun t ht _ => ⟨_, rfl, by rw [ht]; exact hq⟩) hL hdg
theorem k_lret {Po : Option Value → Heap → Prop} {v : Int64} (hexec : p.tables.exec = Jvm.exec) (hb : c.code = cc) (hr : meth.sig.returnType = some .long) (hlocks : meth.locks = false) (hq : Po (some (.long v)) H) (hL : ∀ q ∈ locs, k_B X ≤ q.base) (hdg : decode cc pc = .ok (.lreturn, 1)) : W p l e R s m args below meth c H locs cells slots (MQ below (k_Q Po) args s cells slots (fun q => k_B X ≤ q)) (F0 m pc ls [.long v]) :=
  W.lret hexec hb hr (fun t ht _ => ⟨_, rfl, by rw [ht]; exact hq⟩) hL hdg
theorem k_aret {Po : Option Value → Heap → Prop} {v : Option Nat} {C0 : String} (hexec : p.tables.exec = Jvm.exec) (hb : c.code = cc) (hr : meth.sig.returnType = some (.object C0)) (hlocks : meth.locks = false) (hq : Po (some (va_rf v)) H) (hL : ∀ q ∈ locs, k_B X ≤ q.base) (hdg : decode cc pc = .ok (.areturn, 1)) : W p l e R s m args below meth c H locs cells slots (MQ below (k_Q Po) args s cells slots (fun q => k_B X ≤ q)) (F0 m pc ls [va_rf v]) :=
  W.aret hexec hb hr (Or.inl ⟨_, rfl⟩) (va_rf_or v) (fun t ht _ => ⟨_, rfl, by rw [ht]; exact hq⟩) hL hdg
/-- a call of a method with a contract -/
theorem k_run {y : MethodName} {mc ms : Nat} {ws : List Cond} {rm : Room} {av : List Value} {P : Heap → Prop} {Po : Option Value → Heap → Prop} {st0 : List Value}
    (hr : va_Run p l e R s m args below meth c H locs cells slots mc ms (F0 m pc ls st0) rest (k_Q Po av.toArray) (fun q => k_B X ≤ q)) (hL : ∀ q ∈ locs, k_B X ≤ q.base)
    (kk : ∀ (v : Option Value) (H1 : Heap) (locs1 : List Loc), Po v H1 → (∀ q ∈ locs1, k_B X ≤ q.base) → W p l e R s m args below meth c H1 locs1 (cells + mc) (slots + ms) Q (F0 m (pc + 3) ls (v.toList ++ rest))) : W p l e R s m args below meth c H locs cells slots Q (F0 m pc ls st0) := by
  intro T hT X'
  obtain ⟨v, st₀, t, T', L', h0, X2, hL', e1, e2, ⟨v', hv, hp⟩, st⟩ := hr T hT X'
  cases hv
  obtain ⟨t2, a1, b1⟩ := kk v T'.heap (locs ++ L') (by rw [e1]; exact hp) (fun q hq => by
      rcases List.mem_append.mp hq with h | h
      · exact hL q h
      · exact hL' q h) T' rfl X2
  exact ⟨t2, st t2 a1, b1⟩
theorem k_callV {y : MethodName} {bytes : ByteArray} {maxL nL mc ms n0 index : Nat} {ret : Option FieldType} {ws : List Cond} {rm : Room} {P : Heap → Prop} {Po : Option Value → Heap → Prop} {Ts : List Cond} {own K : String} {b : Addr} {As st0 : List Value}
    (S : CallFix p m c cc nL s args Ts own) (hK : k_S X s) (hM : k_M X l y ws rm (.ref b :: As) P Po mc ms) (cw : CallW R s args own K index y bytes maxL ret ws rm mc ms n0) (hrec : ∃ cellB : Cell, H[b]? = some cellB ∧ cellB.vm.isStatics = false ∧ s.vm.findClass K = some cellB.cls) (hP : P H)
    (hn : As.length = n0) (hsize : ls.size = nL) (hstack : st0 = As.reverse ++ .ref b :: rest) (hroom : (rest.map fun v => v.category).sum ≤ 8) (hdg : decode cc pc = .ok (.invokevirtual index, 3)) (hf : cells + mc ≤ R.cells ∧ slots + ms ≤ R.slots) (hL : ∀ q ∈ locs, k_B X ≤ q.base)
    (kk : ∀ (v : Option Value) (H1 : Heap) (locs1 : List Loc), Po v H1 → (∀ q ∈ locs1, k_B X ≤ q.base) → W p l e R s m args below meth c H1 locs1 (cells + mc) (slots + ms) Q (F0 m (pc + 3) ls (v.toList ++ rest))) : W p l e R s m args below meth c H locs cells slots Q (F0 m pc ls st0) :=
  k_run (y := y) (ws := ws) (rm := rm) (av := .ref b :: As) (P := P) (va_runV S hM cw ⟨k_blind X _ P, hrec, fun U hU hW => ⟨rfl, k_S.moved hW hK, by rw [hU]; exact hP⟩⟩ rfl hn hsize hstack (lv_room hroom) hdg hf) hL kk
theorem k_callS {y : MethodName} {bytes : ByteArray} {maxL nL mc ms n0 index : Nat} {ret : Option FieldType} {ws : List Cond} {rm : Room} {P : Heap → Prop} {Po : Option Value → Heap → Prop} {Ts : List Cond} {own : String} {As st0 : List Value}
    (S : CallFix p m c cc nL s args Ts own) (hK : k_S X s) (hM : k_M X l y ws rm As P Po mc ms) (cw : CallB R s args own index y bytes maxL ret ws rm mc ms n0 ∧ (Cond.static y).before args s = true) (hP : P H)
    (hn : As.length = n0) (hsize : ls.size = nL) (hstack : st0 = As.reverse ++ rest) (hroom : (rest.map fun v => v.category).sum ≤ 8) (hdg : decode cc pc = .ok (.invokestatic index, 3)) (hf : cells + mc ≤ R.cells ∧ slots + ms ≤ R.slots) (hL : ∀ q ∈ locs, k_B X ≤ q.base)
    (kk : ∀ (v : Option Value) (H1 : Heap) (locs1 : List Loc), Po v H1 → (∀ q ∈ locs1, k_B X ≤ q.base) → W p l e R s m args below meth c H1 locs1 (cells + mc) (slots + ms) Q (F0 m (pc + 3) ls (v.toList ++ rest))) : W p l e R s m args below meth c H locs cells slots Q (F0 m pc ls st0) :=
  k_run (y := y) (ws := ws) (rm := rm) (av := As) (P := P) (va_runS S hM cw ⟨k_blind X _ P, fun U hU hW => ⟨rfl, k_S.moved hW hK, by rw [hU]; exact hP⟩⟩ rfl hn hsize hstack (lv_room hroom) hdg hf) hL kk
/-- the receiver's class -/
theorem k_recv (hK : k_S X s) (hW : k_W X n ad L (k_g C g D) fr H) (r i : Nat) {ci : Nat} {fs : (Nat → Int32) → List Value} {q : vw_C} (hv : k_v n g r i) (he : ∀ c : Nat → Int32, k_e X n ad L g r i c = .inr (ci, fs c)) (hc : vwCl[ci]? = some q) : ∃ cellB : Cell, H[ad g r i]? = some cellB ∧ cellB.vm.isStatics = false ∧ s.vm.findClass q.1 = some cellB.cls := by
  have hA := hW.at hv
  rw [he] at hA
  obtain ⟨q', h1, cell, g1, g2, g3, -⟩ := hA
  exact ⟨cell, g1, by rw [g3]; rfl, by rw [g2]; exact (hK.1.1 ci q hc).2.1⟩
theorem k_callSN {y : MethodName} {bytes : ByteArray} {maxL nL mc ms n0 index : Nat} {ret : Option FieldType} {ws : List Cond} {rm : Room} {P : Heap → Prop} {Po : Option Value → Heap → Prop} {Ts : List Cond} {own host : String} {As st0 : List Value}
    (S : CallFix p m c cc nL s args Ts own) (hK : k_S X s) (hM : k_M X l y ws rm As P Po mc ms) (cw : va_CN R s args own index y host bytes maxL ret ws rm mc ms n0) (hst : (Cond.static y).before args s = true) (hP : P H)
    (hn : As.length = n0) (hsize : ls.size = nL) (hstack : st0 = As.reverse ++ rest) (hroom : (rest.map fun v => v.category).sum ≤ 8) (hdg : decode cc pc = .ok (.invokestatic index, 3)) (hf : cells + mc ≤ R.cells ∧ slots + ms ≤ R.slots) (hL : ∀ q ∈ locs, k_B X ≤ q.base)
    (kk : ∀ (v : Option Value) (H1 : Heap) (locs1 : List Loc), Po v H1 → (∀ q ∈ locs1, k_B X ≤ q.base) → W p l e R s m args below meth c H1 locs1 (cells + mc) (slots + ms) Q (F0 m (pc + 3) ls (v.toList ++ rest))) : W p l e R s m args below meth c H locs cells slots Q (F0 m pc ls st0) :=
  k_run (y := y) (ws := ws) (rm := rm) (av := As) (P := P) (va_runSN S hM ⟨cw, hst, trivial⟩ ⟨k_blind X _ P, fun U hU hW => ⟨rfl, k_S.moved hW hK, by rw [hU]; exact hP⟩⟩ rfl hn hsize hstack (lv_room hroom) hdg hf) hL kk
/-- a place where roads meet -/
theorem k_join {pc' : Nat} {g' : JFrame} (J : Heap → List Loc → Array Slot → List Value → Prop) (hj : ∀ H locs ls st, J H locs ls st → W p l e R s m args below meth c H locs cells slots Q (F0 m pc' ls st))
    (k : (∀ H locs ls st, J H locs ls st → W p l e R s m args below meth c H locs cells slots Q (F0 m pc' ls st)) → W p l e R s m args below meth c H locs cells slots Q g') : W p l e R s m args below meth c H locs cells slots Q g' := k hj
/-- a loop that counts up to N: the invariant at its head -/
theorem k_for (N : Nat) (I : Nat → Heap → List Loc → Array Slot → Prop) (k0 : Nat) (h0 : I k0 H locs ls) (hk : k0 ≤ N)
    (hs : ∀ k, k ≤ N → (∀ H locs ls, k < N → I (k + 1) H locs ls → W p l e R s m args below meth c H locs cells slots Q (F0 m pc ls rest)) → ∀ H locs ls, I k H locs ls → W p l e R s m args below meth c H locs cells slots Q (F0 m pc ls rest)) : W p l e R s m args below meth c H locs cells slots Q (F0 m pc ls rest) := by
  have key : ∀ f k : Nat, k + f = N → ∀ H locs ls, I k H locs ls → W p l e R s m args below meth c H locs cells slots Q (F0 m pc ls rest) := by
    intro f
    induction f with
    | zero => intro k hk H locs ls hI; exact hs k (by omega) (fun H locs ls h _ => absurd h (by omega)) H locs ls hI
    | succ f ih => intro k hk H locs ls hI; exact hs k (by omega) (fun H locs ls h hI2 => ih (k + 1) (by omega) H locs ls hI2) H locs ls hI
  exact key (N - k0) k0 (by omega) H locs ls h0
/-- a loop that counts down from k0 -/
theorem k_down (I : Nat → Heap → List Loc → Array Slot → Prop) (k0 : Nat) (h0 : I k0 H locs ls)
    (hs : ∀ k, (∀ j H locs ls, j + 1 = k → I j H locs ls → W p l e R s m args below meth c H locs cells slots Q (F0 m pc ls rest)) → ∀ H locs ls, I k H locs ls → W p l e R s m args below meth c H locs cells slots Q (F0 m pc ls rest)) : W p l e R s m args below meth c H locs cells slots Q (F0 m pc ls rest) := by
  have key : ∀ f k : Nat, k = f → ∀ H locs ls, I k H locs ls → W p l e R s m args below meth c H locs cells slots Q (F0 m pc ls rest) := by
    intro f
    induction f with
    | zero => intro k hk H locs ls hI; exact hs k (fun j H locs ls h _ => absurd h (by omega)) H locs ls hI
    | succ f ih => intro k hk H locs ls hI; exact hs k (fun j H locs ls h hI2 => ih j (by omega) H locs ls hI2) H locs ls hI
  exact key k0 k0 rfl H locs ls h0
theorem k_aald (hexec : p.tables.exec = Jvm.exec) (hb : c.code = cc) (hK : k_S X s) (hW : k_W X n ad L (k_g C g D) fr H) (r i : Nat) {z t0 : Nat} {K : String} {cA : ClassId} {f : (Nat → Int32) → Nat → Option Nat} (hv : k_v n g r i) (he : ∀ c : Nat → Int32, k_e X n ad L g r i c = .inl (cA, z, .inr (.inr (.inr (.inr (f c)))))) (ht : (k_tys X)[t0]? = some (cA, .object K)) {x : Int32} {k : Nat} (hk : x.toNatClampNeg = k) (hin : vp_in x z) {v : Option Nat} (hval : f (D r i) k = v) (hdg : decode cc pc = .ok (.aaload, 1))
    (kk : W p l e R s m args below meth c H locs cells slots Q (F0 m (pc + 1) ls (va_rf v :: rest))) : W p l e R s m args below meth c H locs cells slots Q (F0 m pc ls (.int x :: .ref (ad g r i) :: rest)) := by
  subst hk
  subst hval
  have hA := hW.at hv
  rw [he] at hA
  have hlt : x.toNatClampNeg < z := Nat.not_le.mp fun q => hin (Or.inr q)
  exact W.aald (v := va_rf (f (D r i) x.toNatClampNeg)) (ty := .object K) hexec hb hA ((hK.1.2 t0 _ ht).1 z (fun j => va_rf (f (D r i) j))) rfl (fun q => by cases q) (by show ¬ (x < 0 ∨ (arrV _ _ _).slots.size ≤ _); rw [arrV_size]; exact hin) (by show (arrV _ _ _).slots[_]? = _; rw [arrV_read _ _ hlt]) rfl rfl hdg kk
theorem k_alen (hexec : p.tables.exec = Jvm.exec) (hb : c.code = cc) (hK : k_S X s) (hW : k_W X n ad L (k_g C g D) fr H) (r i : Nat) {t0 : Nat} {ty : FieldType} {cA : ClassId} {a : (Nat → Int32) → vp_A} (hv : k_v n g r i) (he : ∀ c : Nat → Int32, k_e X n ad L g r i c = .inl (cA, a c)) (ht : (k_tys X)[t0]? = some (cA, ty)) {v : Int32} (hlen : Int32.ofNat (a (D r i)).1 = v) (hdg : decode cc pc = .ok (.arraylength, 1))
    (kk : W p l e R s m args below meth c H locs cells slots Q (F0 m (pc + 1) ls (.int v :: rest))) : W p l e R s m args below meth c H locs cells slots Q (F0 m pc ls (.ref (ad g r i) :: rest)) := by
  have hA := hW.at hv
  rw [he] at hA
  exact va_alen hexec hb hK.1 (ws := [(ad g r i, .inl (cA, a (D r i)))]) (fun k0 q0 h0 => by
    have hz : k0 < 1 := (List.getElem?_eq_some_iff.mp h0).1
    rw [show k0 = 0 by omega] at h0
    cases h0
    exact hA) 0 t0 rfl ht hlen hdg kk
theorem k_cast' (hexec : p.tables.exec = Jvm.exec) (hb : c.code = cc) {own nm : String} {index : Nat} (hown : s.vm.findClass own = some m.cls) (hlink : (Cond.classLink own index nm).before args s = true) (hK : k_S X s) {K : String} (hw : Cond.castable K nm ∈ k_nw) {a : Nat}
    (hr : ∃ cell : Cell, H[a]? = some cell ∧ cell.vm.isStatics = false ∧ s.vm.findClass K = some cell.cls) (hdg : decode cc pc = .ok (.checkcast index, 3))
    (k : W p l e R s m args below meth c H locs cells slots Q (F0 m (pc + 3) ls (.ref a :: rest))) : W p l e R s m args below meth c H locs cells slots Q (F0 m pc ls (.ref a :: rest)) :=
  va_castY hexec hb hown hlink (hK.nest hw) hr hdg k
/-- a lorry put at a door -/
theorem k_aast (hexec : p.tables.exec = Jvm.exec) (hb : c.code = cc) (hK : k_S X s) (hW : k_W X n ad L (k_g C g D) fr H) (hL : ∀ q ∈ locs, k_B X ≤ q.base) (hv : k_v n g 3 0) {i : Nat} (hi : k_v n g 4 i) {y : Int32} (hy : y ≠ -1) (hyi : y.toNatClampNeg = i) {x : Int32} {k : Nat} (hk : x.toNatClampNeg = k) (hin : vp_in x 4) (hdg : decode cc pc = .ok (.aastore, 1))
    (kk : ∀ (H1 : Heap) (locs1 : List Loc), k_W X n ad L (k_g C g (k_d D 3 0 k y)) fr H1 → (∀ q ∈ locs1, k_B X ≤ q.base) → W p l e R s m args below meth c H1 locs1 cells slots Q (F0 m (pc + 1) ls rest)) : W p l e R s m args below meth c H locs cells slots Q (F0 m pc ls (.ref (ad g 4 i) :: .int x :: .ref (ad g 3 0) :: rest)) := by
  subst hk
  subst hyi
  have hA := hW.at hv
  have he : ∀ c : Nat → Int32, k_e X n ad L g 3 0 c = .inl (X.2.1 3, 4, .inr (.inr (.inr (.inr (fun d => if c d = -1 then none else some (ad g 4 (c d).toNatClampNeg)))))) := fun _ => rfl
  rw [he] at hA
  have hlt : x.toNatClampNeg < 4 := Nat.not_le.mp fun q => hin (Or.inr q)
  have h0 : ¬ x < 0 := fun q => hin (Or.inl q)
  have hB := hW.at hi
  have hce : ∀ c : Nat → Int32, ∃ fs, k_e X n ad L g 4 y.toNatClampNeg c = .inr (9, fs) := fun _ => ⟨_, rfl⟩
  obtain ⟨fs, hfs⟩ := hce (D 4 y.toNatClampNeg)
  rw [hfs] at hB
  obtain ⟨r', hr', cellV, g1, g2, g3, -⟩ := hB
  have hr0 : r' = (RX3, TX3, 15) := Option.some.inj (hr'.symm.trans rfl)
  subst hr0
  have hcls := (hK.1.1 9 (RX3, TX3, 15) rfl).2
  obtain ⟨kA, comp, k1, k2, k3, -⟩ := (hK.1.2 3 _ rfl).2
  have hcomp : comp = X.1.1 9 := Option.some.inj (k3.symm.trans hcls.1)
  subst hcomp
  obtain ⟨kC, hkC, -⟩ := hcls.2
  refine W.aast hexec hb hA (fun q h => by cases h) (fun h => by cases h) k1 k2 rfl hkC ⟨h0, by show _ < (arrV _ _ _).slots.size; rw [arrV_size]; exact hlt⟩ g1 (fun q h => by rw [g3] at h; cases h) (by rw [g2]; exact hkC) (by rw [g2]; exact va_assign hcls) rfl rfl hdg fun H1 e z oq => ?_
  refine kk H1 _ (hW.put hv ?_ z oq) (fun q hq => ?_)
  · rw [he]
    show H1[_]? = some (vp_cell _ _)
    rw [e]
    rw [vp_cell_q, vp_cell_q, arrV_store]
    congr 2
    funext q
    by_cases hq : q = x.toNatClampNeg
    · subst hq
      simp [updV, upd, va_rf, hy]
    · simp [updV, upd, hq]
  · rcases List.mem_append.mp hq with h | h
    · exact hL q h
    · rw [List.mem_singleton.mp h]
      exact hW.2.2.1 g 3 0 hv
/-- a door left empty -/
theorem k_aastN (hexec : p.tables.exec = Jvm.exec) (hb : c.code = cc) (hK : k_S X s) (hW : k_W X n ad L (k_g C g D) fr H) (hL : ∀ q ∈ locs, k_B X ≤ q.base) (hv : k_v n g 3 0) {x : Int32} {k : Nat} (hk : x.toNatClampNeg = k) (hin : vp_in x 4) (hdg : decode cc pc = .ok (.aastore, 1))
    (kk : ∀ (H1 : Heap) (locs1 : List Loc), k_W X n ad L (k_g C g (k_d D 3 0 k (-1))) fr H1 → (∀ q ∈ locs1, k_B X ≤ q.base) → W p l e R s m args below meth c H1 locs1 cells slots Q (F0 m (pc + 1) ls rest)) : W p l e R s m args below meth c H locs cells slots Q (F0 m pc ls (.null :: .int x :: .ref (ad g 3 0) :: rest)) := by
  subst hk
  have hA := hW.at hv
  have he : ∀ c : Nat → Int32, k_e X n ad L g 3 0 c = .inl (X.2.1 3, 4, .inr (.inr (.inr (.inr (fun d => if c d = -1 then none else some (ad g 4 (c d).toNatClampNeg)))))) := fun _ => rfl
  rw [he] at hA
  refine va_WaastN (C := "Crossdockery$Lorry") hexec hb hA ((hK.1.2 3 _ rfl).1 4 (fun j => va_rf (if D 3 0 j = -1 then none else some (ad g 4 (D 3 0 j).toNatClampNeg)))) (fun h => by cases h) (by show ¬ (x < 0 ∨ (arrV _ _ _).slots.size ≤ _); rw [arrV_size]; exact hin) rfl rfl hdg fun H1 e z oq => ?_
  refine kk H1 _ (hW.put hv ?_ z oq) (fun q hq => ?_)
  · rw [he]
    show H1[_]? = some (vp_cell _ _)
    rw [e]
    rw [vp_cell_q, vp_cell_q, arrV_store]
    congr 2
    funext q
    by_cases hq : q = x.toNatClampNeg
    · subst hq
      simp [updV, upd, va_rf]
    · simp [updV, upd, hq]
  · rcases List.mem_append.mp hq with h | h
    · exact hL q h
    · rw [List.mem_singleton.mp h]
      exact hW.2.2.1 g 3 0 hv
end KROWS

/-- branches over an answer that is 0 or 1 -/
theorem k_b0 {c : Prop} [Decidable c] (h : (if c then (1 : Int32) else 0) = 0) : ¬ c := fun hc => by rw [if_pos hc] at h; exact absurd h (by decide)
theorem k_b1 {c : Prop} [Decidable c] (h : ¬ (if c then (1 : Int32) else 0) = 0) : c := by
  by_cases hc : c
  · exact hc
  · rw [if_neg hc] at h; exact absurd rfl h
theorem k_nb (c : Prop) [Decidable c] : narrow .boolean (.int (if c then (1 : Int32) else 0)) = .int (if c then (1 : Int32) else 0) := by
  by_cases hc : c
  · rw [if_pos hc]; decide
  · rw [if_neg hc]; decide
theorem k_nI_ge {a b : Nat} (ha : a < 2 ^ 31) (hb : b < 2 ^ 31) (h : nI a ≥ nI b) : b ≤ a := (nI_leI hb ha).mp h
theorem k_nI_nge {a b : Nat} (ha : a < 2 ^ 31) (hb : b < 2 ^ 31) (h : ¬ nI a ≥ nI b) : a < b := by
  have := mt (nI_leI hb ha).mpr h
  omega
/-- a step for each number below n -/
def it {α : Type} (f : Nat → α → α) : Nat → α → α
  | 0, a => a
  | n + 1, a => f n (it f n a)
theorem it_s {α : Type} (f : Nat → α → α) (n : Nat) (a : α) : it f (n + 1) a = f n (it f n a) := rfl
theorem it_0 {α : Type} (f : Nat → α → α) (a : α) : it f 0 a = a := rfl
/-- the first number from i on, at most f of them, of which p holds; -1 without one -/
def k_find (p : Nat → Bool) : Nat → Nat → Int32
  | 0, _ => -1
  | f + 1, i => if p i then nI i else k_find p f (i + 1)
abbrev KD : Type := Nat → Nat → Nat → Int32

def k_mod (n : Nat → Nat → Nat) (g : Nat) : Prop := n g 14 = 1 ∧ n g 15 = 27
theorem k_mod.o {n : Nat → Nat → Nat} {g : Nat} (h : k_mod n g) : k_v n g 14 0 := by
  show 0 < n g 14
  rw [h.1]; decide
theorem k_mod.a {n : Nat → Nat → Nat} {g : Nat} (h : k_mod n g) {i : Nat} (hi : i < 27) : k_v n g 15 i := by
  show i < n g 15
  rw [h.2]; exact hi
