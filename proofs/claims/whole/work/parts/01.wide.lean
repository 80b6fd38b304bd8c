/-! names a thing of the rest of the library, so that the first round of a new machine reads it whole at once -/
theorem bc_wide : True := by
  have := @Stand.outThrough
  trivial
