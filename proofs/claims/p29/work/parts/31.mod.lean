/-! The model's small methods, over its row. -/
def mf_pad (R : mr_R) (w p : Int) : Int := (p - R (9 + 10 * w + 3)) % R (9 + 10 * w + 0)
def mf_place (R : mr_R) (f : Int) : Int := (R (71 + 5 * f + 2) + R (9 + 10 * R (71 + 5 * f + 1) + 3)) % R (9 + 10 * R (71 + 5 * f + 1) + 0)
