section
/-- names the rest of the library at once, so that the round is read over the whole of it from its first part on -/
theorem z_w0 : True := by
  have h := @Jvm.Free.DS.facts
  exact True.intro
theorem z_w1 : True := by
  have h := @Jvm.Stand.multianewarray2F
  exact True.intro
theorem z_w2 : True := by
  have h := @Jvm.Free.DS.chk
  exact True.intro
theorem z_w3 : True := by
  have h := @Jvm.Free.DS.Facts
  exact True.intro
end
