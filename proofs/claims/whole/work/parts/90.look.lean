theorem lk_ok : True := trivial
