theorem zz_end : True := True.intro
