/-! the last part: nothing -/
theorem hz_end : True := trivial
