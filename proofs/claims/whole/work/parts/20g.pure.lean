/-! 20g.pure -/
theorem zz_20g_pure : True := trivial
