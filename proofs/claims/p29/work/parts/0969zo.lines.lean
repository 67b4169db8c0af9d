/-! what line and yields answer. Own work (scripts laid by wip/pm/gen34.py). -/
section LI11
variable {G : pG} {d : Nat} {F : pF} {I : pI} {Q : Option pV → pF → pI → Prop}
end LI11
