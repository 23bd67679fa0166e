/-! Cells by name. -/
abbrev eRow (qa k : Nat) : va_E := .inr (1, [.ref qa, .int (nI k)])
abbrev eArr (cI : ClassId) (n : Nat) (g : Nat → Nat) : va_E := .inl (cI, n, .inl (fun j => nI (g j)))
def upN (g : Nat → Nat) (i x : Nat) : Nat → Nat := fun j => if j = i then x else g j
theorem upN_s (g : Nat → Nat) (i x : Nat) : upN g i x i = x := if_pos rfl
theorem upN_n {g : Nat → Nat} {i x j : Nat} (h : j ≠ i) : upN g i x j = g j := if_neg h
theorem upd_nI (g : Nat → Nat) (i x : Nat) : upd (fun j => nI (g j)) i (nI x) = fun j => nI (upN g i x j) := by
  funext j
  unfold upd upN
  split <;> rfl
theorem nzP_get {U : State} (h : nzP U) {w : Cond} (hw : w ∈ nzW) : va_Nw w U := h w hw
