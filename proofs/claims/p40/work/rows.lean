section
/-- the premises can't hold in a state that has no class of that name: what they say of its casts is then no word at all -/
theorem p40_needs {a : Array Value} {U : State} (h : U.vm.findClass "[Ljava/lang/StackTraceElement;" = none) : narrow_1_5.before a U = false := by
  have e : (Cond.not (.castable "[Ljava/lang/StackTraceElement;" "java/lang/StringBuilder")).before a U = false := by
    simp [Cond.before, Cond.holds, Cond.value, h]
  unfold narrow_1_5
  simp only [Cond.before_and, e, Bool.false_and, Bool.and_false]
end
