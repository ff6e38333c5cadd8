set_option maxRecDepth 16384
theorem ev63 {b : Int32} (h0 : 0 ≤ b.toInt) (h6 : b.toInt ≤ 6) : ((1 <<< (b &&& 31) : Int32) - 1).toInt ≤ 63 ∧ 0 ≤ ((1 <<< (b &&& 31) : Int32) - 1).toInt := by
  have h : b = 0 ∨ b = 1 ∨ b = 2 ∨ b = 3 ∨ b = 4 ∨ b = 5 ∨ b = 6 := by
    have e : ∀ k : Int32, b.toInt = k.toInt → b = k := fun k z => Int32.toInt_inj.mp z
    have : b.toInt = 0 ∨ b.toInt = 1 ∨ b.toInt = 2 ∨ b.toInt = 3 ∨ b.toInt = 4 ∨ b.toInt = 5 ∨ b.toInt = 6 := by omega
    rcases this with z | z | z | z | z | z | z
    · exact Or.inl (e 0 (by rw [z]; decide))
    · exact Or.inr (Or.inl (e 1 (by rw [z]; decide)))
    · exact Or.inr (Or.inr (Or.inl (e 2 (by rw [z]; decide))))
    · exact Or.inr (Or.inr (Or.inr (Or.inl (e 3 (by rw [z]; decide)))))
    · exact Or.inr (Or.inr (Or.inr (Or.inr (Or.inl (e 4 (by rw [z]; decide))))))
    · exact Or.inr (Or.inr (Or.inr (Or.inr (Or.inr (Or.inl (e 5 (by rw [z]; decide)))))))
    · exact Or.inr (Or.inr (Or.inr (Or.inr (Or.inr (Or.inr (e 6 (by rw [z]; decide)))))))
  rcases h with rfl | rfl | rfl | rfl | rfl | rfl | rfl <;> decide
