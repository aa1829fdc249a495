/-! the model's swap, and how much can be mixed -/
def mgO (r : Nat → Int32) : Int32 := if whyF r 0 = 0 then gbF r (nlv r) else 0
