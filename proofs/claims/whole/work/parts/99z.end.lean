theorem q_z : True := trivial
