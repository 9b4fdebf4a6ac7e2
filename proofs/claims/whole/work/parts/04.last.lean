theorem ab_z0 : True := trivial
