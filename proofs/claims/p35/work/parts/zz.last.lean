/-! The last part, while early ones are being compiled. -/
theorem zz_last : True := trivial
