theorem nb_ {α : Type} {M : mM} {k : Nat × Nat} {f : mM → Option α} {r : α} (h : nw_b M k f = some r) : ∃ M1, M1 = nwC M k ∧ f M1 = some r := ⟨_, rfl, h⟩
