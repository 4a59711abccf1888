theorem zz_t : True := by
  have := @Jvm.Stand.multianewarray2F
  trivial
