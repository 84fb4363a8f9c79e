/-! this claim reads the whole library from its first part on: the row of 'new int[n][m]' needs it -/
theorem zq_wide : True := by
  have _h := @Jvm.Stand.multianewarray2F
  trivial
