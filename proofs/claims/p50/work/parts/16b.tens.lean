theorem zz_d2_0 : ∀ j, j < 25 → Cond.eq (.elem (.static "java/lang/Integer" "DigitTens" "[B") (.int (Int32.ofNat (0 + j)))) (.int (zz_g2 (0 + j))) ∈ flatC (Jvm.Cond.and given_1 narrow_1) := by decide +kernel
theorem zz_d2_1 : ∀ j, j < 25 → Cond.eq (.elem (.static "java/lang/Integer" "DigitTens" "[B") (.int (Int32.ofNat (25 + j)))) (.int (zz_g2 (25 + j))) ∈ flatC (Jvm.Cond.and given_1 narrow_1) := by decide +kernel
theorem zz_d2_2 : ∀ j, j < 25 → Cond.eq (.elem (.static "java/lang/Integer" "DigitTens" "[B") (.int (Int32.ofNat (50 + j)))) (.int (zz_g2 (50 + j))) ∈ flatC (Jvm.Cond.and given_1 narrow_1) := by decide +kernel
theorem zz_d2_3 : ∀ j, j < 25 → Cond.eq (.elem (.static "java/lang/Integer" "DigitTens" "[B") (.int (Int32.ofNat (75 + j)))) (.int (zz_g2 (75 + j))) ∈ flatC (Jvm.Cond.and given_1 narrow_1) := by decide +kernel
theorem zz_d2 : ∀ j, j < 100 → Cond.eq (.elem (.static "java/lang/Integer" "DigitTens" "[B") (.int (Int32.ofNat j))) (.int (zz_g2 j)) ∈ flatC (Jvm.Cond.and given_1 narrow_1) := by
  intro j hj
  rcases (show (∃ r, r < 25 ∧ j = 0 + r) ∨ (∃ r, r < 25 ∧ j = 25 + r) ∨ (∃ r, r < 25 ∧ j = 50 + r) ∨ ∃ r, r < 25 ∧ j = 75 + r from by
    by_cases h1 : j < 25
    · exact Or.inl ⟨j, h1, by omega⟩
    · by_cases h2 : j < 50
      · exact Or.inr (Or.inl ⟨j - 25, by omega, by omega⟩)
      · by_cases h3 : j < 75
        · exact Or.inr (Or.inr (Or.inl ⟨j - 50, by omega, by omega⟩))
        · exact Or.inr (Or.inr (Or.inr ⟨j - 75, by omega, by omega⟩))) with ⟨r, hr, rfl⟩ | ⟨r, hr, rfl⟩ | ⟨r, hr, rfl⟩ | ⟨r, hr, rfl⟩
  · exact zz_d2_0 r hr
  · exact zz_d2_1 r hr
  · exact zz_d2_2 r hr
  · exact zz_d2_3 r hr
