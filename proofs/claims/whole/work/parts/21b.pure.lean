/-! 21b -/
theorem zz_21b_pure : True := trivial
