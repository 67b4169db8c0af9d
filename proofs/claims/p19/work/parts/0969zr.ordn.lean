/-! a lot's numbers by order, both sides'. Own work (scripts laid by wip/pm/gen34.py). -/
section ON11
variable {G : pG} {d : Nat} {F : pF} {I : pI} {Q : Option pV → pF → pI → Prop}
end ON11
