theorem law_none16 : True := trivial
