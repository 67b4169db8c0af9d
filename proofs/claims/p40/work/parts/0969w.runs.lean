/-! what run answers and keeps is the same on both sides. Own work. -/
