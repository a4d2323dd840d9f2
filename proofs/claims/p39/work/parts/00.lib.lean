/-! a name of the library's rest, so that the round is read over the whole of it from its first part on -/
theorem mm_lib (c : ClassId) (N h0 : Nat) : Jvm.Free.Multi.outerC c N h0 0 = Jvm.Free.Multi.outerC c N h0 0 := rfl
