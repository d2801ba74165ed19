/-! the law's start: the JDK's table DigitOnes -/
theorem kz_do0 : ∀ j < 25, Cond.eq (.elem (.static RJ6 "DigitOnes" "[B") (.int (Int32.ofNat (j + 0)))) (.int (nI (48 + (j + 0) % 10))) ∈ flatC (Jvm.Cond.and given_1 narrow_1) := by decide +kernel
theorem kz_do1 : ∀ j < 25, Cond.eq (.elem (.static RJ6 "DigitOnes" "[B") (.int (Int32.ofNat (j + 25)))) (.int (nI (48 + (j + 25) % 10))) ∈ flatC (Jvm.Cond.and given_1 narrow_1) := by decide +kernel
theorem kz_do2 : ∀ j < 25, Cond.eq (.elem (.static RJ6 "DigitOnes" "[B") (.int (Int32.ofNat (j + 50)))) (.int (nI (48 + (j + 50) % 10))) ∈ flatC (Jvm.Cond.and given_1 narrow_1) := by decide +kernel
theorem kz_do3 : ∀ j < 25, Cond.eq (.elem (.static RJ6 "DigitOnes" "[B") (.int (Int32.ofNat (j + 75)))) (.int (nI (48 + (j + 75) % 10))) ∈ flatC (Jvm.Cond.and given_1 narrow_1) := by decide +kernel
theorem kz_do {s : State} {b : Nat} (hgv : (Jvm.Cond.and given_1 narrow_1).before #[Value.ref b] s = true) : ∀ j : Nat, j < 100 → (Term.elem (.static RJ6 "DigitOnes" "[B") (.int (Int32.ofNat j))).eval #[Value.ref b] s none [] s = some (k_do j) := fun j hj => by
  rcases (show j < 25 ∨ (∃ i, i < 25 ∧ j = i + 25) ∨ (∃ i, i < 25 ∧ j = i + 50) ∨ (∃ i, i < 25 ∧ j = i + 75) by
    rcases (show j < 25 ∨ (25 ≤ j ∧ j < 50) ∨ (50 ≤ j ∧ j < 75) ∨ 75 ≤ j by omega) with h | h | h | h
    · exact Or.inl h
    · exact Or.inr (Or.inl ⟨j - 25, by omega, by omega⟩)
    · exact Or.inr (Or.inr (Or.inl ⟨j - 50, by omega, by omega⟩))
    · exact Or.inr (Or.inr (Or.inr ⟨j - 75, by omega, by omega⟩))) with h | ⟨i, h, rfl⟩ | ⟨i, h, rfl⟩ | ⟨i, h, rfl⟩
  · exact va_eqv (flat_of_before _ hgv _ (kz_do0 j h)) rfl
  · exact va_eqv (flat_of_before _ hgv _ (kz_do1 i h)) rfl
  · exact va_eqv (flat_of_before _ hgv _ (kz_do2 i h)) rfl
  · exact va_eqv (flat_of_before _ hgv _ (kz_do3 i h)) rfl
