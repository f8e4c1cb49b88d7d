/-! end of the head -/
theorem zz_end : True := trivial
