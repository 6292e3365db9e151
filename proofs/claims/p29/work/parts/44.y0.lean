/-! THE REFERENCE at its start -/
def y0 : St := fun r _ _ => if r = 2 then 2 else 0
