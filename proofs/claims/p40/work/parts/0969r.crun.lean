/-! what run answers and writes, the class's. Own work (scripts laid by wip/pm/gen34.py). -/
section CR10
variable {G : pG} {d : Nat} {F : pF} {I : pI} {Q : Option pV → pF → pI → Prop}
end CR10
