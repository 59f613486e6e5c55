/-- names the rest of the library at once, so that the round is read over the whole of it from its first part on -/
theorem z_w0 : True := by
  have h := @Jvm.Free.DS.facts
  have h2 := @Jvm.Stand.multianewarray2F
  exact True.intro
