/-! new int[n][m] is told in the rest of the library: a name of it here, at once, so that all rounds are read over the whole -/
theorem wide_mark (c : ClassId) (N h0 : Nat) : Jvm.Free.Multi.outerC c N h0 0 = Jvm.Free.Multi.outerC c N h0 0 := rfl
