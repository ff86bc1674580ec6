/-! 20h.pure -/
theorem zz_20h_pure : True := trivial
