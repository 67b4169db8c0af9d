/-! the reference reads a text, from any state. Own work (scripts laid by wip/pm/gen30.py). -/
section RT
variable {G : pG} {d : Nat} {F : pF} {I : pI} {Q : Option pV → pF → pI → Prop}
end RT
