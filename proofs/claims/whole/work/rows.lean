section
/-! What a start must bring that meets the Statement's premises, and that a table without one class of arrays cannot: why the printed start (module M106) falls. -/
theorem rw_absent {args : Array Value} {s : State} (h : s.vm.findClass "[Ljava/lang/StackTraceElement;" = none) : (Cond.not (Cond.castable "[Ljava/lang/StackTraceElement;" "java/lang/String")).before args s = false := by
  simp [Cond.before, Cond.holds, Cond.value, h]
/-- every start that meets the premises has the class of arrays of StackTraceElement in its tables -/
theorem rw_needs {args : Array Value} {s : State} (h : narrow_1.before args s = true) : s.vm.findClass "[Ljava/lang/StackTraceElement;" ≠ none := by
  intro h0
  have h1 := flat_of_before narrow_1 h (Cond.not (Cond.castable "[Ljava/lang/StackTraceElement;" "java/lang/String")) (by decide +kernel)
  rw [rw_absent h0] at h1
  cases h1
end
