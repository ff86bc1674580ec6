/-! 19.init -/
theorem zz_19_init : True := trivial
