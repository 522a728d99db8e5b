/-! The rows vx_catch and vx_outP call laws that stand in the rest of the library: this row names one of them, so that a round on a new machine is read over the whole library from its first part on. -/
theorem wide_ok : True := by
  have _h := @Jvm.Stand.thenCaughtThrough
  exact True.intro
