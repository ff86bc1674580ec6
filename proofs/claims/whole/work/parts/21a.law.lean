/-! 21a.law -/
theorem zz_21a_law : True := trivial
