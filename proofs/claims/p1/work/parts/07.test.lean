theorem t_test : True := by
  have := @Jvm.Stand.multianewarray2F
  have := @Jvm.Free.Multi.fill_facts
  trivial
