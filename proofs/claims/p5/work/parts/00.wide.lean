theorem jwide0 : True := by
  have h := @Cond.arrayOver_specA
  trivial
