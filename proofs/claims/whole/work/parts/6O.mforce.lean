/-! the plain rule -/
def plE : Ex := [1115, 2, 1042, 1111, 1043, 1101, 1045]
theorem plE_r : rn plX 7 7 (oP [] lv0) = .inr plE := by decide +kernel
