/-- the String constants of the class, by number -/
def zS : List String := ["act", "grade", "window wall roof door floor any", "repair change remove paint", "older", "needs free"]
