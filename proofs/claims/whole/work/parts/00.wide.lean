/-- a word of the library's rest: so that a round is read over the whole library from its first part on -/
theorem lw_wide (c : ClassId) (M : Nat) (v : Value) : Jvm.Free.Multi.innerC c M v = Jvm.Free.Multi.innerC c M v := rfl
