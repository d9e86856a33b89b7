theorem zlib_use : True := by
  have _ := @Stand.outThrough
  trivial
