theorem sw_zz : True := trivial
