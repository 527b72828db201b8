/-! PART 00: a name of the library's rest, so that all is read over the whole library from the start -/

theorem wide_0 : True := by
  have _w := @Jvm.Seam.Concat.atOnce_none
  trivial

