/-! 21b.law -/
theorem zz_21b_law : True := trivial
