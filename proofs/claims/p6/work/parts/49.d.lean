theorem an_dummy : True := trivial
