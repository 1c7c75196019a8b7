theorem zz_05 : True := trivial
