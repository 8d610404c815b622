-- the whole library from the first part on
theorem wd_0 : True := by
  have _h := @Jvm.Stand.multianewarray2F
  trivial
