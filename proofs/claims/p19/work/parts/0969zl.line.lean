/-! the line through most readings, where it yields: pure. Own work. -/
