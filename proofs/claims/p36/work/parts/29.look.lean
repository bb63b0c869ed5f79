/-! a place for trials -/
theorem zz_trial : True := trivial
