/-! the law's start: what the Statement gives -/
section
variable {s : State} {b : Nat}
theorem kz_word (hts : ∀ w ∈ lw_tbl, w.before #[Value.ref b] s = true) : ∀ w ∈ k_ws, va_Nw w s := fun w hw => va_Nw.of (k_okw_tab (k_ws_ok w hw)) (hts w ((show ∀ w ∈ k_ws, w ∈ lw_tbl by decide +kernel) w hw))
theorem kz_nc (hgv : (Jvm.Cond.and given_1 narrow_1).before #[Value.ref b] s = true) : ∀ q ∈ k_nc, va_Nc q.1 q.2 s := fun q hq => va_Nc.of (flat_of_before _ hgv _ ((show ∀ q ∈ k_nc, Cond.not (.castable q.1 q.2) ∈ flatC (Jvm.Cond.and given_1 narrow_1) by decide +kernel) q hq))
theorem kz_te (hgv : (Jvm.Cond.and given_1 narrow_1).before #[Value.ref b] s = true) : ∀ j : Nat, j < 4 → (Term.elem (.static RX5 "TENS" "[I") (.int (Int32.ofNat j))).eval #[Value.ref b] s none [] s = some (k_tens j) := fun j hj => va_eqv (flat_of_before _ hgv _ ((show ∀ j < 4, Cond.eq (.elem (.static RX5 "TENS" "[I") (.int (Int32.ofNat j))) (.int ([1000, 100, 10, 1].getD j 0)) ∈ flatC (Jvm.Cond.and given_1 narrow_1) by decide +kernel) j hj)) rfl
theorem kz_str (hts : ∀ w ∈ lw_tbl, w.before #[Value.ref b] s = true) (hgv : (Jvm.Cond.and given_1 narrow_1).before #[Value.ref b] s = true) : ∀ q ∈ k_strs, ∃ a, vk_R RX4 q.1 q.2 a s := fun q hq => by
  have h1 := hts _ ((show ∀ q ∈ k_strs, Cond.stringRef RX4 q.1 q.2 ∈ lw_tbl by decide +kernel) q hq)
  have h2 := flat_of_before _ hgv _ ((show ∀ q ∈ k_strs, Cond.exactly (.string RX4 q.1) "java/lang/String" ∈ flatC (Jvm.Cond.and given_1 narrow_1) by decide +kernel) q hq)
  obtain ⟨a, c, cA, kA, q1, _⟩ := Cond.exactly_spec (args := #[Value.ref b]) (first := s) (o := none) (s := s) (idx := []) (t := .string RX4 q.1) (cls := "java/lang/String") h2
  exact ⟨a, vk_R.of h1 q1⟩
end
