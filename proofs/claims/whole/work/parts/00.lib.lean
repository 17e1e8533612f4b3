/-! PART 00: names the library's floating point rows, so that every round compiles over the whole library -/
theorem zz_lib : True := by
  have _h1 := @FP.Core.val64_ddiv
  have _h2 := @FP.Core.roundRatio_exact
  have _h3 := @FP.Core.decode_assemble
  trivial
