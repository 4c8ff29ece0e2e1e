/-! What the printed premises ask of a start: a class of the name "[Ljava/lang/StackTraceElement;" must be there. The printed witness has none. -/
theorem z_castNone {args : Array Value} {s : State} {c t : String} (h : s.vm.findClass c = none) : ¬ (Jvm.Cond.not (Jvm.Cond.castable c t)).before args s = true := by
  intro q
  simp [Cond.before, Cond.holds, Cond.value, h] at q
theorem z_needs {args : Array Value} {s : State} (h : narrow_1_5.before args s = true) : ∃ k, s.vm.findClass "[Ljava/lang/StackTraceElement;" = some k := by
  have hs := flat_of_before _ h
  have hq : (Jvm.Cond.not (Jvm.Cond.castable "[Ljava/lang/StackTraceElement;" "java/lang/StringBuilder")).before args s = true := hs _ (by decide +kernel)
  cases hc : s.vm.findClass "[Ljava/lang/StackTraceElement;" with
  | some k => exact ⟨k, rfl⟩
  | none => exact absurd hq (z_castNone hc)
