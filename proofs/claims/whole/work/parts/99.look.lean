theorem z_look : True := trivial
