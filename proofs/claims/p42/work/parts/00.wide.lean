/-! the names of the whole library are wanted from the first part on (else all parts would compile twice) -/
theorem tz_wide : True := by
  have _ := @Cond.arrayOver_specA
  trivial
