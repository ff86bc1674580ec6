/-! 20e.pure -/
theorem zz_20e_pure : True := trivial
