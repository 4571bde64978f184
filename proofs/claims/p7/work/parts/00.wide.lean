/-- names of the library's rest, that part 11a wants: so the round is read over the whole of it from its first part on -/
theorem zz_wide : True := by
  have h1 := @Jvm.Stand.outThrough
  have h2 := @Jvm.Stand.thenCaughtThrough
  trivial
