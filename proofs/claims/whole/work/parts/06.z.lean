/-- the tables that a step looks into, on the script xs of length L -/
def mm_B (L : Nat) (xs : Nat → Int32) (mc na : Nat → Nat) : mm_T := (mm_ty, mm_fin, mm_defv, mc, na, mm_txt, L, xs)
