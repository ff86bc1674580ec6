/-! 21d.law -/
theorem zz_21d_law : True := trivial
