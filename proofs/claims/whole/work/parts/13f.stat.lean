theorem kz_stat {s : State} {b : Nat} (hts : ∀ w ∈ lw_tbl, w.before #[Value.ref b] s = true) (hgv : (Jvm.Cond.and given_1 narrow_1).before #[Value.ref b] s = true) : k_stat (fun q => s.heap.size ≤ q) s s.heap := by
  have hA : ∀ a : Nat, a < s.heap.size → ¬ s.heap.size ≤ a := fun a h => Nat.not_le.mpr h
  have hg := flat_of_before _ hgv
  refine ⟨?_, ?_, ?_, ?_, ?_, ?_, ?_⟩
  · obtain ⟨t, h1, h2⟩ := va_Tof (A := fun q => s.heap.size ≤ q) (tm := .static RX5 "TENS" "[I") (ty := .int) (N := 4) (f := k_tens) (by decide) (hg _ (by decide +kernel)) (va_eqv (hg (Cond.eq (.length (.static RX5 "TENS" "[I")) (.int 4)) (by decide +kernel)) rfl) (kz_te hgv) hA
    exact ⟨t, va_Zref (hts (.laysStatic RX5 "TENS" "[I") (by decide +kernel)) (hts (.initialized RX5) (by decide +kernel)) h1 hA, h2⟩
  · obtain ⟨t, h1, h2⟩ := va_Tof (A := fun q => s.heap.size ≤ q) (tm := .static RJ6 "DigitTens" "[B") (ty := .byte) (N := 100) (f := k_dt) (by decide) (hg _ (by decide +kernel)) (va_eqv (hg (Cond.eq (.length (.static RJ6 "DigitTens" "[B")) (.int 100)) (by decide +kernel)) rfl) (kz_dt hgv) hA
    exact ⟨t, va_Zref (hts (.laysStatic RJ6 "DigitTens" "[B") (by decide +kernel)) (hts (.initialized RJ6) (by decide +kernel)) h1 hA, h2⟩
  · obtain ⟨t, h1, h2⟩ := va_Tof (A := fun q => s.heap.size ≤ q) (tm := .static RJ6 "DigitOnes" "[B") (ty := .byte) (N := 100) (f := k_do) (by decide) (hg _ (by decide +kernel)) (va_eqv (hg (Cond.eq (.length (.static RJ6 "DigitOnes" "[B")) (.int 100)) (by decide +kernel)) rfl) (kz_do hgv) hA
    exact ⟨t, va_Zref (hts (.laysStatic RJ6 "DigitOnes" "[B") (by decide +kernel)) (hts (.initialized RJ6) (by decide +kernel)) h1 hA, h2⟩
  · exact va_Zof (hts (.laysStatic RJ0 "COMPACT_STRINGS" "Z") (by decide +kernel)) (hts (.initialized RJ0) (by decide +kernel)) (va_eqv (hg (Cond.eq (.static RJ0 "COMPACT_STRINGS" "Z") (.int 1)) (by decide +kernel)) rfl) hA
  · exact va_Zqof (hts (.laysStatic RJ3 "SIOOBE_FORMATTER" "Ljava/util/function/BiFunction;") (by decide +kernel)) (hts (.initialized RJ3) (by decide +kernel)) (hg (Cond.isRef (.static RJ3 "SIOOBE_FORMATTER" "Ljava/util/function/BiFunction;")) (by decide +kernel)) hA
  · exact vx_Zqof (hts (.laysStatic Bundle.tN "UNASSIGNED_STACK" Bundle.steD) (by decide +kernel)) (hts (.initialized Bundle.tN) (by decide +kernel)) (hg (Cond.isRef (.static Bundle.tN "UNASSIGNED_STACK" Bundle.steD)) (by decide +kernel)) hA
  · exact vx_Zqof (hts (.laysStatic Bundle.tN "SUPPRESSED_SENTINEL" Bundle.listD) (by decide +kernel)) (hts (.initialized Bundle.tN) (by decide +kernel)) (hg (Cond.isRef (.static Bundle.tN "SUPPRESSED_SENTINEL" Bundle.listD)) (by decide +kernel)) hA
