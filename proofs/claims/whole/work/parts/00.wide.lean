theorem wide_0 : True := by
  have h := @Jvm.Stand.thenCaughtThrough
  trivial
