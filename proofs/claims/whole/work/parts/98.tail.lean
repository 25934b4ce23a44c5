/-! a small last part -/
theorem zz_tail : True := trivial
