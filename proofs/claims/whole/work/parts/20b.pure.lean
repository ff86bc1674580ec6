/-! 20b.pure -/
theorem zz_20b_pure : True := trivial
