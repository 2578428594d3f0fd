/-! a name of the library's rest, asked first: the round is then read over the whole of it from the first part on -/
theorem wide_0 : True := by
  have := @Stand.thenCaughtThrough
  trivial
