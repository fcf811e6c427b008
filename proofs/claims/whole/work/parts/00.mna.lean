/-! a law of the library's rest that part 73 calls: named first, so that every part is read over the whole library from the start -/
theorem mna_known : True := by
  have _h := @Jvm.Stand.multianewarray2F
  trivial
