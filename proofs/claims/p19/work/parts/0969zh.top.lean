/-! what top answers. Own work (scripts laid by wip/pm/gen34.py). -/
section TP11
variable {G : pG} {d : Nat} {F : pF} {I : pI} {Q : Option pV → pF → pI → Prop}
end TP11
