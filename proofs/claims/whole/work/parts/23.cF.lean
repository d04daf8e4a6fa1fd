theorem dummy23 : True := trivial
