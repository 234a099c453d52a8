-- last part: small
theorem zz_true : True := trivial
