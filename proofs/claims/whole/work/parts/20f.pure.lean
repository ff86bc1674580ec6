/-! 20f.pure -/
theorem zz_20f_pure : True := trivial
