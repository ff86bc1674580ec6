/-! 21c.law -/
theorem zz_21c_law : True := trivial
