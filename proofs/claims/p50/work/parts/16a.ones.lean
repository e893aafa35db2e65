def zz_fe : Nat → Int32 := fun _ => 0
def zz_fq : Nat → Int32 := fun _ => 61
def zz_fs : Nat → Int32 := fun j => if j = 0 then 44 else 32
def zz_g1 : Nat → Int32 := fun j => nI (48 + j % 10)
def zz_g2 : Nat → Int32 := fun j => nI (48 + j / 10)
theorem zz_d1_0 : ∀ j, j < 25 → Cond.eq (.elem (.static "java/lang/Integer" "DigitOnes" "[B") (.int (Int32.ofNat (0 + j)))) (.int (zz_g1 (0 + j))) ∈ flatC (Jvm.Cond.and given_1 narrow_1) := by decide +kernel
theorem zz_d1_1 : ∀ j, j < 25 → Cond.eq (.elem (.static "java/lang/Integer" "DigitOnes" "[B") (.int (Int32.ofNat (25 + j)))) (.int (zz_g1 (25 + j))) ∈ flatC (Jvm.Cond.and given_1 narrow_1) := by decide +kernel
theorem zz_d1_2 : ∀ j, j < 25 → Cond.eq (.elem (.static "java/lang/Integer" "DigitOnes" "[B") (.int (Int32.ofNat (50 + j)))) (.int (zz_g1 (50 + j))) ∈ flatC (Jvm.Cond.and given_1 narrow_1) := by decide +kernel
theorem zz_d1_3 : ∀ j, j < 25 → Cond.eq (.elem (.static "java/lang/Integer" "DigitOnes" "[B") (.int (Int32.ofNat (75 + j)))) (.int (zz_g1 (75 + j))) ∈ flatC (Jvm.Cond.and given_1 narrow_1) := by decide +kernel
theorem zz_d1 : ∀ j, j < 100 → Cond.eq (.elem (.static "java/lang/Integer" "DigitOnes" "[B") (.int (Int32.ofNat j))) (.int (zz_g1 j)) ∈ flatC (Jvm.Cond.and given_1 narrow_1) := by
  intro j hj
  rcases (show (∃ r, r < 25 ∧ j = 0 + r) ∨ (∃ r, r < 25 ∧ j = 25 + r) ∨ (∃ r, r < 25 ∧ j = 50 + r) ∨ ∃ r, r < 25 ∧ j = 75 + r from by
    by_cases h1 : j < 25
    · exact Or.inl ⟨j, h1, by omega⟩
    · by_cases h2 : j < 50
      · exact Or.inr (Or.inl ⟨j - 25, by omega, by omega⟩)
      · by_cases h3 : j < 75
        · exact Or.inr (Or.inr (Or.inl ⟨j - 50, by omega, by omega⟩))
        · exact Or.inr (Or.inr (Or.inr ⟨j - 75, by omega, by omega⟩))) with ⟨r, hr, rfl⟩ | ⟨r, hr, rfl⟩ | ⟨r, hr, rfl⟩ | ⟨r, hr, rfl⟩
  · exact zz_d1_0 r hr
  · exact zz_d1_1 r hr
  · exact zz_d1_2 r hr
  · exact zz_d1_3 r hr
