/-! 20a.pure -/
theorem zz_20a_pure : True := trivial
