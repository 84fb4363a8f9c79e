theorem zy_look : True := trivial
