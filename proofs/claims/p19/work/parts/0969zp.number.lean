/-! a piece's number by a law. Own work (scripts laid by wip/pm/gen34.py). -/
section NU11
variable {G : pG} {d : Nat} {F : pF} {I : pI} {Q : Option pV → pF → pI → Prop}
end NU11
