/-! a piece's readings as a picture: stretches, loads, how many. Own work (scripts laid by wip/pm/gen34.py). -/
section RD11
variable {G : pG} {d : Nat} {F : pF} {I : pI} {Q : Option pV → pF → pI → Prop}
def RB (S L : Nat → Int) : Prop := (∀ k, 0 ≤ S k ∧ S k ≤ 5100000) ∧ (∀ k, -200000 ≤ L k ∧ L k ≤ 200000)
end RD11
