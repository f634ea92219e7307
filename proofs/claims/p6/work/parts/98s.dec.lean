/-! no rows -/
