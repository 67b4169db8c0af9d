/-! one place of a written memory, by an equal number. Own work. -/
section UJ9
theorem uJ_eqj {I : pI} {q b j : Nat} {v : Int} (h : j = b) : uI I q b v q j = v := by subst h; exact uJ_eq
end UJ9
