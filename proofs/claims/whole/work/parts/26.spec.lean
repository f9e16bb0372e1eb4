/-! What the class's methods ask of the memory. -/
def xp_open (σ : xMem) (k : Nat) : Prop := σ 0 k 3 = nI 1 ∨ σ 0 k 3 = nI 2
def xp_read (σ : xMem) (k : Nat) : Prop := σ 0 k 4 = nI 0 ∨ σ 0 k 4 = nI 2
def xp_unm (σ : xMem) (k : Nat) : Prop := nI 48 ≤ σ 0 k 5
def xp_ord (σ : xMem) (j k : Nat) : Prop := σ 0 j 7 < σ 0 k 7
def xp_over (σ : xMem) (j k : Nat) : Prop := σ 0 j 5 < σ 0 k 5 + σ 0 k 6 ∧ σ 0 k 5 < σ 0 j 5 + σ 0 j 6
def xp_back (σ : xMem) (j k : Nat) : Prop := ((σ 0 j 4 = nI 4 ∨ σ 0 k 4 = nI 4) ∧ xp_open σ j) ∨ (¬ (σ 0 j 4 = nI 4 ∨ σ 0 k 4 = nI 4) ∧ σ 0 j 3 = nI 1 ∧ xp_over σ j k)
