/-! what the premises ask of the tables: they know the class of the arrays of StackTraceElement. A start whose tables don't know it meets them not (the printed witness' tables don't: REPORT.md, 'STATEMENT'). -/
theorem fa_in : Cond.not (Cond.castable "[Ljava/lang/StackTraceElement;" "java/lang/String") ∈ flatC (Cond.and given_1 narrow_1) := by decide +kernel
theorem fa_none {args : Array Value} {s : State} (h : s.vm.findClass "[Ljava/lang/StackTraceElement;" = none) : ¬ (Cond.and given_1 narrow_1).before args s = true := by
  intro hp
  have h1 := flat_of_before _ hp _ fa_in
  unfold Cond.before Cond.holds at h1
  simp [Cond.value, h] at h1
