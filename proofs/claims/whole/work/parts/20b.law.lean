/-! 20b -/
theorem zz_20b_law : True := trivial
