/-! the last -/
theorem dt_zz : True := True.intro
