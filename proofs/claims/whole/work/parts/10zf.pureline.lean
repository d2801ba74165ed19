/-! line, in both -/
theorem j_okN {u b : Nat} (h : u < b) (hb : b ≤ 10000) : j_ok (nI u) b = true := by
  unfold j_ok
  rw [nI_clamp (show u < 2 ^ 31 by omega), decide_eq_true h, decide_eq_true (rfl : nI u = nI u)]
  rfl
theorem q_dgN {f : Nat → Int32} (h : ∀ p, p < 4 → ∃ k, k ≤ 9 ∧ f p = nI k) : ∃ u, u < 10000 ∧ q_dg f = nI u := by
  obtain ⟨a, ha, ea⟩ := h 0 (by omega)
  obtain ⟨b, hb, eb⟩ := h 1 (by omega)
  obtain ⟨c, hc, ec⟩ := h 2 (by omega)
  obtain ⟨d, hd, ed⟩ := h 3 (by omega)
  refine ⟨(((0 * 10 + a) * 10 + b) * 10 + c) * 10 + d, by omega, ?_⟩
  unfold q_dg
  rw [ea, eb, ec, ed, show (0 : Int32) = nI 0 from rfl, show (10 : Int32) = nI 10 from rfl]
  simp only [pk_mul, nI_add]
theorem q_s_line {Y : Nat} {g : Gt} (h : q_Rel Y g) (x1 : Int32) : Sim q_Rel Y (fun k kw => (k = 0 ∧ kw = 0) ∨ (k = 1 ∧ kw = 1)) (f_X4_line x1 g) (f_X5_line x1) := by
  have h' := h
  obtain ⟨n, nw, nu, y, hy, hR⟩ := h
  have hR0 := hR.of (q_E.th g 0)
  have hn := hR.1.2.2.2.1
  have hm := hR0.1.2.2.2.2.2.2.2.1
  have h16 := hR.1.1
  rcases q_in x1 n (by omega) with ⟨c, hc, rfl⟩ | hb
  · obtain ⟨st, hst, est⟩ := hR.2.1.2.1 c hc
    have est2 : k_up g 5 0 0 0 31 0 c = nI st := by rw [k_up_at, if_neg (by omega), (hR.2.1.2.2.2 c hc).2, est]
    obtain ⟨u, hu, eu⟩ := q_dgN (f := g 20 c) (fun p hp => (hR.2.2.1 c p (by omega) hp).1)
    have e1 : f_X1_digits 0 (nI c) g = some (nI u, g) := by rw [q_X1dg (by omega), q_16, eu]
    have e2 : f_X5_digits (nI c) (k_up g 5 0 0 0) = some (nI u, k_up g 5 0 0 0) := by
      rw [q_X5dg (by omega), q_dg_c (f' := g 20 c) (fun p hp => by rw [k_up_at, if_neg (by omega)]; exact (hR.2.2.1 c p (by omega) hp).2.2.1), eu]
    have c1 : (nI c).toNatClampNeg = c := nI_clamp (by omega)
    have c2 : (nI st).toNatClampNeg = st := nI_clamp (by omega)
    have c3 : (nI u).toNatClampNeg = u := nI_clamp (by omega)
    refine q_ok0 h' (r := j_hs (j_tx c st u) (j_tk c st u) 0 0) ?_ ?_ (Or.inl ⟨rfl, rfl⟩)
    · rw [f_X4_line, q_cc1 hn h16 hc, q_bd2, if_pos rfl, q_gd (j_okN (show c < 16 by omega) (by omega)), q_gd (q_ib (show c < 16 by omega) (by omega)), c1, est, q_gd (j_okN (show st < 10000 by omega) (by omega)), e1, q_bd2, q_gd (j_okN hu (by omega)), c2, c3]
    · rw [f_X5_line, q_ic1 hm h16 hc, q_bd2, if_neg (by decide), q_gd (j_okN (show c < 16 by omega) (by omega)), q_gd (q_ib (show c < 16 by omega) (by omega)), c1, est2, q_gd (j_okN (show st < 10000 by omega) (by omega)), e2, q_bd2, q_gd (j_okN hu (by omega)), c2, c3]
  · refine q_bad (k := 1) (kw := 1) h' (by decide) (r := 0) (b := 0) ?_ ?_ (Or.inr ⟨rfl, rfl⟩)
    · simp [f_X4_line, q_cc0 hn hb, q_bd2]
    · simp [f_X5_line, q_ic0 hm h16 hb, q_bd2, q_fail]
