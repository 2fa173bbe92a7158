theorem nw_last : True := trivial
