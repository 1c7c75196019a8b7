theorem zz_21 : True := trivial
