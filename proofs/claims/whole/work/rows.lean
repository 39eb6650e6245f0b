section
/-- the printed premise narrow_1_2 asks for a class that has the name [Ljava/lang/StackTraceElement; : no state without one meets it -/
theorem ev_narrow {args : Array Value} {s : State} (h : s.vm.findClass "[Ljava/lang/StackTraceElement;" = none) : narrow_1_2.before args s = false := by
  cases hn : narrow_1_2.before args s with
  | false => rfl
  | true =>
    have h1 : (Cond.not (Cond.castable "[Ljava/lang/StackTraceElement;" "java/lang/String")).before args s = true := flat_of_before _ hn _ (by decide +kernel)
    simp [Cond.before, Cond.holds, Cond.value, h] at h1
/-- hence the whole of the premises isn't met by such a state -/
theorem ev_pre {args : Array Value} {s : State} (h : s.vm.findClass "[Ljava/lang/StackTraceElement;" = none) : narrow_1.before args s = false := by
  cases hn : narrow_1.before args s with
  | false => rfl
  | true =>
    have h1 : (Cond.not (Cond.castable "[Ljava/lang/StackTraceElement;" "java/lang/String")).before args s = true := flat_of_before _ hn _ (by decide +kernel)
    simp [Cond.before, Cond.holds, Cond.value, h] at h1
end
