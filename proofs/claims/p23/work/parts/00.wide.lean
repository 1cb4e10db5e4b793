/-! the step of a two-dimensional new array stands in the part of the library that rounds read last: named here first -/
theorem tw_wide : True := by
  have _h := @Jvm.Stand.multianewarray2F
  trivial
