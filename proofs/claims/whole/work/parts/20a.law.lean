/-! 20a -/
theorem zz_20a_law : True := trivial
