/-! ===== Pad: the text, and the walk over it ===== -/
def PA (μ : Mm) (z : Nat) (P : Nat → Int32) (len pl : Nat) (lt fi se : Int32) : Prop := μ z = some (obj 2 [.ref (z + 1), .int (nI len), .int (nI pl), .int lt, .int fi, .int se]) ∧ μ (z + 1) = some (ints 80 P)
theorem PA.fr {μ μ' : Mm} {z x y len pl : Nat} {P : Nat → Int32} {lt fi se : Int32} (F : PA μ z P len pl lt fi se) (hF : Fr x y μ μ') (hd : z + 2 ≤ x ∨ y ≤ z) : PA μ' z P len pl lt fi se := ⟨(hF _ (by omega)).trans F.1, (hF _ (by omega)).trans F.2⟩
theorem PA.setO {μ : Mm} {z len pl : Nat} {P : Nat → Int32} {lt fi se : Int32} (F : PA μ z P len pl lt fi se) (len' pl' : Nat) (lt' fi' se' : Int32) {c : Cl} (hc : c = obj 2 [.ref (z + 1), .int (nI len'), .int (nI pl'), .int lt', .int fi', .int se']) : PA (mset μ z c) z P len' pl' lt' fi' se' := by
  subst hc
  exact ⟨mset_same, mget_ne (by omega) F.2⟩
/-- signs are 33 to 126 -/
def PadOk (P : Nat → Int32) (len : Nat) : Prop := len ≤ 80 ∧ ∀ j, j < len → ∃ c, 33 ≤ c ∧ c ≤ 126 ∧ P j = nI c
