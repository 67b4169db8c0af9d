/-! the class reads a text, from any state. Own work (scripts laid by wip/pm/gen31.py). -/
section CT
variable {G : pG} {d : Nat} {F : pF} {I : pI} {Q : Option pV → pF → pI → Prop}
end CT
