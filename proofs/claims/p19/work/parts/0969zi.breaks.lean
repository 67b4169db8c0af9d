/-! what breaks answers. Own work (scripts laid by wip/pm/gen34.py). -/
section BK11
variable {G : pG} {d : Nat} {F : pF} {I : pI} {Q : Option pV → pF → pI → Prop}
end BK11
