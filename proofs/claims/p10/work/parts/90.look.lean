/-- the part under work -/
theorem zz_look : True := trivial
