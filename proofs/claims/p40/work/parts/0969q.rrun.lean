/-! what run answers and writes, the reference's. Own work (scripts laid by wip/pm/gen34.py). -/
section RR10
variable {G : pG} {d : Nat} {F : pF} {I : pI} {Q : Option pV → pF → pI → Prop}
end RR10
