theorem zt_0 : True := trivial
