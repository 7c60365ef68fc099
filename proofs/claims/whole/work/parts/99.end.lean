/-! the last part, so that all ahead of it are kept -/
theorem zz_end : True := trivial
