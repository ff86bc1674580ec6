/-! 22.start -/
theorem zz_22_start : True := trivial
