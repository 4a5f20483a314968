/-! THE CASE -/
/-- a case's rows: what laying them needs -/
def cw_ (f : Nat → Nat → Int32) : Prop := rw_ok f 52 53 54 500 2500 301 300
