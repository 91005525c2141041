/-! the constructor of the reference (laid by program) -/
