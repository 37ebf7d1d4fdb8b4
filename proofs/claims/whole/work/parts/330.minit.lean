/-- the reference's int fields at first -/
def mF0 : Nat → Int32 := fun i => if i = 18 then nI 80 else if i = 19 then nI 10 else if i = 20 then nI 5 else nI 0
