def dvd (a b : Nat) : UInt64 := FP.ddiv (FP.i2d (nI a)) (FP.i2d (nI b))
theorem dvd_0 : ∀ a, a < 257 → ∀ b, b < 32 → vf_n64 (dvd a (b + 1)) := by unfold vf_n64; decide +kernel
theorem dvd_1 : ∀ a, a < 257 → ∀ b, b < 32 → vf_n64 (dvd a (b + 33)) := by unfold vf_n64; decide +kernel
theorem dvd_2 : ∀ a, a < 257 → ∀ b, b < 32 → vf_n64 (dvd a (b + 65)) := by unfold vf_n64; decide +kernel
theorem dvd_3 : ∀ a, a < 257 → ∀ b, b < 32 → vf_n64 (dvd a (b + 97)) := by unfold vf_n64; decide +kernel
theorem dvd_4 : ∀ a, a < 257 → ∀ b, b < 32 → vf_n64 (dvd a (b + 129)) := by unfold vf_n64; decide +kernel
theorem dvd_5 : ∀ a, a < 257 → ∀ b, b < 32 → vf_n64 (dvd a (b + 161)) := by unfold vf_n64; decide +kernel
theorem dvd_6 : ∀ a, a < 257 → ∀ b, b < 32 → vf_n64 (dvd a (b + 193)) := by unfold vf_n64; decide +kernel
theorem dvd_7 : ∀ a, a < 257 → ∀ b, b < 32 → vf_n64 (dvd a (b + 225)) := by unfold vf_n64; decide +kernel
theorem dvd_ok {a b : Nat} (ha : a ≤ 256) (hb : b ≤ 256) (h0 : ¬ b = 0) : vf_n64 (dvd a b) := by
  rcases (show (∃ j, j < 32 ∧ b = j + 1) ∨ (∃ j, j < 32 ∧ b = j + 33) ∨ (∃ j, j < 32 ∧ b = j + 65) ∨ (∃ j, j < 32 ∧ b = j + 97) ∨ (∃ j, j < 32 ∧ b = j + 129) ∨ (∃ j, j < 32 ∧ b = j + 161) ∨ (∃ j, j < 32 ∧ b = j + 193) ∨ (∃ j, j < 32 ∧ b = j + 225) from by
    by_cases h : b ≤ 128
    · by_cases h2 : b ≤ 64
      · by_cases h3 : b ≤ 32
        · exact Or.inl ⟨b - 1, by omega, by omega⟩
        · exact Or.inr (Or.inl ⟨b - 33, by omega, by omega⟩)
      · by_cases h3 : b ≤ 96
        · exact Or.inr (Or.inr (Or.inl ⟨b - 65, by omega, by omega⟩))
        · exact Or.inr (Or.inr (Or.inr (Or.inl ⟨b - 97, by omega, by omega⟩)))
    · by_cases h2 : b ≤ 192
      · by_cases h3 : b ≤ 160
        · exact Or.inr (Or.inr (Or.inr (Or.inr (Or.inl ⟨b - 129, by omega, by omega⟩))))
        · exact Or.inr (Or.inr (Or.inr (Or.inr (Or.inr (Or.inl ⟨b - 161, by omega, by omega⟩)))))
      · by_cases h3 : b ≤ 224
        · exact Or.inr (Or.inr (Or.inr (Or.inr (Or.inr (Or.inr (Or.inl ⟨b - 193, by omega, by omega⟩))))))
        · exact Or.inr (Or.inr (Or.inr (Or.inr (Or.inr (Or.inr (Or.inr (⟨b - 225, by omega, by omega⟩)))))))) with ⟨j, hj, rfl⟩ | ⟨j, hj, rfl⟩ | ⟨j, hj, rfl⟩ | ⟨j, hj, rfl⟩ | ⟨j, hj, rfl⟩ | ⟨j, hj, rfl⟩ | ⟨j, hj, rfl⟩ | ⟨j, hj, rfl⟩
  · exact dvd_0 a (by omega) j hj
  · exact dvd_1 a (by omega) j hj
  · exact dvd_2 a (by omega) j hj
  · exact dvd_3 a (by omega) j hj
  · exact dvd_4 a (by omega) j hj
  · exact dvd_5 a (by omega) j hj
  · exact dvd_6 a (by omega) j hj
  · exact dvd_7 a (by omega) j hj
