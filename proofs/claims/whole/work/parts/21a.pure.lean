/-! 21a -/
theorem zz_21a_pure : True := trivial
