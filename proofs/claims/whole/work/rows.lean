section
/-- a start whose tables have no class under this name doesn't meet narrow_1_2 (so the printed witness's start, whose table has none, doesn't) -/
theorem lk_needs (a : Array Value) (s : State) (h : s.vm.findClass "[Ljava/lang/StackTraceElement;" = none) : narrow_1_2.before a s = false := by
  cases hb : narrow_1_2.before a s with
  | false => rfl
  | true =>
    have hs := flat_of_before _ hb
    have h1 : (Cond.not (Cond.castable "[Ljava/lang/StackTraceElement;" "java/util/List")).before a s = true := hs _ (by decide +kernel)
    simp [Cond.before, Cond.holds, Cond.value, h] at h1
end
