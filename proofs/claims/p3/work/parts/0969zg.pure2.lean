/-! tops, breaks, what is spent, curves and lines, as functions of the stretches and the loads. Own work. -/
