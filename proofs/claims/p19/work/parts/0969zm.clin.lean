/-! the class finds the line, and where it yields. Own work (scripts laid by wip/pm/gen34.py). -/
section CL11
variable {G : pG} {d : Nat} {F : pF} {I : pI} {Q : Option pV → pF → pI → Prop}
end CL11
