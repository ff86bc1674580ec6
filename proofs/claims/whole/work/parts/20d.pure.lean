/-! 20d.pure -/
theorem zz_20d_pure : True := trivial
