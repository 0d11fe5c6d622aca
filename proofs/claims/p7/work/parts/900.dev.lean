theorem zz_dev : True := trivial
