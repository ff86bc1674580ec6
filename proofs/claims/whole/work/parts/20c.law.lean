/-! 20c.pure -/
theorem zz_20c_pure : True := trivial
