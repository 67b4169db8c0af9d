/-! voices of the class, from any state. Own work (scripts laid by wip/pm/gen31.py). -/
section CV
variable {G : pG} {d : Nat} {F : pF} {I : pI} {Q : Option pV → pF → pI → Prop}
end CV
