/-- the last part compiles in every round and twice in a hand-in: it is kept small -/
theorem zz_tiny9 : True := True.intro
