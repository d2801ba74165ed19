theorem q_s_read {Y : Nat} {g : Gt} (h : q_Rel Y g) (x1 x2 : Int32) : Sim q_Rel Y (fun k kw => (k = 0 ∧ kw = 0) ∨ (k = 1 ∧ kw = 1)) (f_X4_read x1 x2 g) (f_X5_read x1 x2) := by
  have h' := h
  obtain ⟨n, nw, nu, y, hy, hR⟩ := h
  have hR0 := hR.of (q_E.th g 0)
  have hn := hR.1.2.2.2.1
  have hnw := hR.1.2.2.2.2.1
  have hm := hR0.1.2.2.2.2.2.2.2.1
  have hmw := hR0.1.2.2.2.2.2.2.2.2.1
  have h16 := hR.1.1
  have h6 := hR.1.2.1
  rcases q_in x1 nw (by omega) with ⟨w, hw, rfl⟩ | hb
  · rcases q_in x2 n (by omega) with ⟨c, hc, rfl⟩ | hb
    · obtain ⟨g1, t1, t2, t3, t4, t5⟩ := q_tell0 hR
      have hw6 : w < 6 := by omega
      have hc16 : c < 16 := by omega
      have hy5 : g1 0 0 5 = nI y := t4.1.2.2.2.2.2.2.1
      have hg1 : ∀ t i j, t ≠ 22 → t ≠ 23 → (t = 5 → j ≠ 0) → k_up (k_up (k_up g1 22 w c (g1 12 0 c)) 23 w c (nI y)) 5 0 0 0 t i j = g1 t i j := fun t i j a1 a2 a3 => by
        rw [k_up_at, if_neg (by omega), k_up_at, if_neg (by omega), k_up_at, if_neg (by omega)]
      have hh12 : k_up (k_up g1 22 w c (g1 12 0 c)) 23 w c (nI y) 12 0 c = g1 12 0 c := by
        rw [k_up_at, if_neg (by omega), k_up_at, if_neg (by omega)]
      obtain ⟨g2, u1, u2, u3⟩ := q_told (x := 3) (c := c) (g := k_up (k_up (k_up g1 22 w c (g1 12 0 c)) 23 w c (nI y)) 5 0 0 0) (fr := g1 10 0) (st := g1 11 0) (d := fun c => q_dg (g1 20 c)) (sy := g1 12 0) (kt := g1 13 0) (af := fun c => q_af (g1 21 c)) h16
        (by rw [hg1 5 0 1 (by omega) (by omega) (by omega)]; exact t4.1.2.2.2.2.2.2.2.1) t4.2.1.1 (fun c hc => by rw [hg1 30 0 c (by omega) (by omega) (by omega)]; exact (t4.2.1.2.2.2 c hc).1) (fun c hc => by rw [hg1 31 0 c (by omega) (by omega) (by omega)]; exact (t4.2.1.2.2.2 c hc).2) (fun c hc => q_dg_c fun p hp => by rw [hg1 32 0 _ (by omega) (by omega) (by omega)]; exact (t4.2.2.1 c p (by omega) hp).2.2.1) t5 hc (q_af_c fun p hp => by rw [hg1 33 0 _ (by omega) (by omega) (by omega)]; exact (t4.2.2.1 c p (by omega) hp).2.2.2)
      have hv : q_cv n (g1 10 0) (g1 11 0) (fun c => q_dg (g1 20 c)) (g1 12 0) (g1 13 0) (fun c => q_af (g1 21 c)) c 3 = g1 12 0 c := rfl
      rw [hv] at u1
      have hg2 : ∀ t i j, t ≠ 22 → t ≠ 23 → (t = 5 → j ≠ 0) → t ≠ 39 → t ≠ 40 → t ≠ 41 → g2 t i j = g1 t i j := fun t i j a1 a2 a3 a4 a5 a6 => by
        rw [u2 t i a4 a5 a6, hg1 t i j a1 a2 a3]
      have h380 : g2 38 0 0 = nI y := by rw [hg2 38 0 0 (by omega) (by omega) (by omega) (by omega) (by omega) (by omega), t4.2.2.2.2.2.2.1, hy5]
      have h22 : ∀ i j, g2 22 i j = if i = w ∧ j = c then g1 12 0 c else g1 22 i j := fun i j => by
        rw [u2 22 i (by omega) (by omega) (by omega)]
        simp [k_up_at]
      have h23 : ∀ i j, g2 23 i j = if i = w ∧ j = c then nI y else g1 23 i j := fun i j => by
        rw [u2 23 i (by omega) (by omega) (by omega)]
        simp [k_up_at]
      refine ⟨0, g1 12 0 c, k_up (k_up g1 22 w c (g1 12 0 c)) 23 w c (nI y), g1 12 0 c, k_up (k_up g2 35 0 (16 * w + c) (g1 12 0 c)) 36 0 (16 * w + c) (nI y), 0, ?_, ?_, Or.inl ⟨rfl, rfl⟩, ?_, fun _ => rfl, n, nw, nu, y, by omega, ?_⟩
      · simp [f_X4_read, q_cw1 hnw (show nw ≤ 16 by omega) hw, q_cc1 hn h16 hc, q_bd2, q_bd1, t1, q_ib hc16, q_ib hw6, q_gt, q_c31 hc16, q_c31 hw6, f_X3_keep, hy5, hh12]
      · have m5 : k_up (k_up (k_up g1 22 w c (g1 12 0 c)) 23 w c (nI y)) 5 0 0 0 5 0 1 = nI n := by rw [hg1 5 0 1 (by omega) (by omega) (by omega)]; exact t4.1.2.2.2.2.2.2.2.1
        have m52 : k_up (k_up (k_up g1 22 w c (g1 12 0 c)) 23 w c (nI y)) 5 0 0 0 5 0 2 = nI nw := by rw [hg1 5 0 2 (by omega) (by omega) (by omega)]; exact t4.1.2.2.2.2.2.2.2.2.1
        have hr35 : k_up (k_up g2 35 0 (16 * w + c) (g1 12 0 c)) 36 0 (16 * w + c) (nI y) 35 0 (16 * w + c) = g1 12 0 c := by
          rw [k_up_at, if_neg (by omega), k_up_at, if_pos ⟨rfl, rfl, rfl⟩]
        have hr38 : k_up g2 35 0 (16 * w + c) (g1 12 0 c) 38 0 0 = nI y := by
          rw [k_up_at, if_neg (by omega)]
          exact h380
        simp [f_X5_read, q_iw1 m52 (show nw ≤ 16 by omega) hw, q_ic1 m5 h16 hc, q_bd2, u1, q_m16, q_i16 hw6 hc16, q_gt, q_c16 hw6 hc16, hr38, hr35]
      · rw [k_up_at, if_neg (by omega), k_up_at, if_neg (by omega), u2 5 0 (by omega) (by omega) (by omega), k_up_at, if_pos ⟨rfl, rfl, rfl⟩]
      · obtain ⟨h1, h2, h3, h4, h5, h6, h7⟩ := t4
        have e' : ∀ t i j, t ≠ 22 → t ≠ 23 → (t = 5 → j ≠ 0) → t ≠ 39 → t ≠ 40 → t ≠ 41 → t ≠ 35 → t ≠ 36 → k_up (k_up g2 35 0 (16 * w + c) (g1 12 0 c)) 36 0 (16 * w + c) (nI y) t i j = g1 t i j := fun t i j a1 a2 a3 a4 a5 a6 a7 a8 => by
          rw [k_up_at, if_neg (by omega), k_up_at, if_neg (by omega), hg2 t i j a1 a2 a3 a4 a5 a6]
        refine ⟨h1.of fun t i j ht => e' t i j (by omega) (by omega) (by omega) (by omega) (by omega) (by omega) (by omega) (by omega), h2.of fun t i j ht => e' t i j (by omega) (by omega) (by omega) (by omega) (by omega) (by omega) (by omega) (by omega), h3.of fun t i j ht => e' t i j (by omega) (by omega) (by omega) (by omega) (by omega) (by omega) (by omega) (by omega), h4.of fun t i j ht => e' t i j (by omega) (by omega) (by omega) (by omega) (by omega) (by omega) (by omega) (by omega), ⟨fun w' c' hw' hc' => ?_, fun w' c' a1 a2 hc' => ?_⟩, h6.of fun t i j ht => e' t i j (by omega) (by omega) (by omega) (by omega) (by omega) (by omega) (by omega) (by omega), h7.of fun t i j ht => e' t i j (by omega) (by omega) (by omega) (by omega) (by omega) (by omega) (by omega) (by omega)⟩
        · have e23 : k_up (k_up g2 35 0 (16 * w + c) (g1 12 0 c)) 36 0 (16 * w + c) (nI y) 23 w' c' = if w' = w ∧ c' = c then nI y else g1 23 w' c' := by
            rw [k_up_at, if_neg (by omega), k_up_at, if_neg (by omega), h23]
          have e22 : k_up (k_up g2 35 0 (16 * w + c) (g1 12 0 c)) 36 0 (16 * w + c) (nI y) 22 w' c' = if w' = w ∧ c' = c then g1 12 0 c else g1 22 w' c' := by
            rw [k_up_at, if_neg (by omega), k_up_at, if_neg (by omega), h22]
          have e36 : k_up (k_up g2 35 0 (16 * w + c) (g1 12 0 c)) 36 0 (16 * w + c) (nI y) 36 0 (16 * w' + c') = if w' = w ∧ c' = c then nI y else g1 36 0 (16 * w' + c') := by
            rw [k_up_at]
            by_cases hq : w' = w ∧ c' = c
            · rw [if_pos hq, if_pos (by rw [hq.1, hq.2]; exact ⟨rfl, rfl, rfl⟩)]
            · rw [if_neg hq, if_neg (by omega), k_up_at, if_neg (by omega), hg2 36 0 _ (by omega) (by omega) (by omega) (by omega) (by omega) (by omega)]
          have e35 : k_up (k_up g2 35 0 (16 * w + c) (g1 12 0 c)) 36 0 (16 * w + c) (nI y) 35 0 (16 * w' + c') = if w' = w ∧ c' = c then g1 12 0 c else g1 35 0 (16 * w' + c') := by
            rw [k_up_at, if_neg (by omega), k_up_at]
            by_cases hq : w' = w ∧ c' = c
            · rw [if_pos hq, if_pos (by rw [hq.1, hq.2]; exact ⟨rfl, rfl, rfl⟩)]
            · rw [if_neg hq, if_neg (by omega), hg2 35 0 _ (by omega) (by omega) (by omega) (by omega) (by omega) (by omega)]
          rw [e23, e22, e36, e35]
          by_cases hq : w' = w ∧ c' = c
          · rw [if_pos hq, if_pos hq, if_pos hq, if_pos hq]
            exact ⟨rfl, Or.inr ⟨⟨y, Nat.le_refl _, rfl⟩, rfl⟩⟩
          · rw [if_neg hq, if_neg hq, if_neg hq, if_neg hq]
            exact h5.1 w' c' hw' hc'
        · rw [k_up_at, if_neg (by omega), k_up_at, if_neg (by omega), hg2 36 0 _ (by omega) (by omega) (by omega) (by omega) (by omega) (by omega)]
          exact h5.2 w' c' a1 a2 hc'
    · refine q_bad (k := 1) (kw := 1) h' (by decide) (r := 0) (b := 0) ?_ ?_ (Or.inr ⟨rfl, rfl⟩)
      · simp [f_X4_read, q_cw1 hnw (show nw ≤ 16 by omega) hw, q_cc0 hn hb, q_bd2]
      · simp [f_X5_read, q_iw1 hmw (show nw ≤ 16 by omega) hw, q_ic0 hm h16 hb, q_bd2, q_fail]
  · refine q_bad (k := 1) (kw := 1) h' (by decide) (r := 0) (b := 0) ?_ ?_ (Or.inr ⟨rfl, rfl⟩)
    · simp [f_X4_read, q_cw0 hnw hb, q_bd2]
    · simp [f_X5_read, q_iw0 hmw (show nw ≤ 16 by omega) hb, q_bd2, q_fail]
/-! amends -/
theorem q_abs (a b : Int32) : k_abs (a - b) = k_abs (b - a) ∨ a - b = b - a := by
  unfold k_abs
  by_cases h1 : 0 ≤ a - b <;> by_cases h2 : 0 ≤ b - a
  · right
    rw [q_lel] at h1 h2
    rw [show b - a = -(a - b) by grind] at h2 ⊢
    rw [Int32.toInt_neg] at h2
    have := Int32.toInt_lt (a - b)
    have := Int32.le_toInt (a - b)
    rw [show (0 : Int32).toInt = 0 from by decide] at *
    have h0 : (a - b).toInt = 0 := by
      rw [Int.bmod_def] at h2
      split at h2 <;> omega
    have h0' : a - b = 0 := Int32.toInt_inj.mp (by rw [h0]; decide)
    rw [h0']
    decide
  · left; rw [if_pos h1, if_neg h2]; grind
  · left; rw [if_neg h1, if_pos h2]; grind
  · left
    rw [q_lel] at h1 h2
    rw [show b - a = -(a - b) by grind] at h2 ⊢
    rw [Int32.toInt_neg] at h2
    have a1 := Int32.toInt_lt (a - b)
    have a2 := Int32.le_toInt (a - b)
    rw [show (0 : Int32).toInt = 0 from by decide] at *
    have h0 : (a - b).toInt = -2147483648 := by
      rw [Int.bmod_def] at h2
      split at h2 <;> omega
    have h0' : a - b = -2147483648 := Int32.toInt_inj.mp (by rw [h0]; decide)
    rw [h0']
    decide
theorem q_absc (a b : Int32) : k_abs (a - b) = k_abs (b - a) := by
  rcases q_abs a b with h | h
  · exact h
  · rw [h]
def q_df (f : Nat → Int32) (v : Nat) : Int32 := 0 + k_abs (f 3 - q_dd v 3) + k_abs (f 2 - q_dd v 2) + k_abs (f 1 - q_dd v 1) + k_abs (f 0 - q_dd v 0)
theorem q_X1df {i c v : Nat} {g : Gt} (hc : c < 16) (hv : v ≤ 9999) : f_X1_differences i (nI c) (nI v) g = some (q_df (g 20 (16 * i + c)) v, g) := by
  have e10 : (10 : Int32) = nI 10 := rfl
  have d1 : nI v / 10 = nI (v / 10) := by rw [e10, pk_div (by omega) (by omega) (by omega)]
  have d2 : nI (v / 10) / 10 = nI (v / 100) := by rw [e10, pk_div (by omega) (by omega) (by omega), Nat.div_div_eq_div_mul]
  have d3 : nI (v / 100) / 10 = nI (v / 1000) := by rw [e10, pk_div (by omega) (by omega) (by omega), Nat.div_div_eq_div_mul]
  have r0 : nI v - nI (v / 10) * 10 = q_dd v 3 := by rw [← d1, e10, pk_rem (by omega) (by omega) (by omega), q_dd]; simp
  have r1 : nI (v / 10) - nI (v / 100) * 10 = q_dd v 2 := by rw [← d2, e10, pk_rem (by omega) (by omega) (by omega)]; rfl
  have r2 : nI (v / 100) - nI (v / 1000) * 10 = q_dd v 1 := by rw [← d3, e10, pk_rem (by omega) (by omega) (by omega)]; rfl
  have r3 : nI (v / 1000) - nI (v / 1000) / 10 * 10 = q_dd v 0 := by rw [e10, pk_rem (by omega) (by omega) (by omega)]; rfl
  rw [f_X1_differences, q_N]
  simp [f_X1_differences_8, q_ib hc, q_c31 hc, q_l0, q_l1, q_l2, q_l3, q_gt, q_bd4, d1, d2, d3, r0, r1, r2, r3, q_df]
theorem q_X5am {c v : Nat} {g : Gt} (hc : c < 16) (hv : v ≤ 9999) : ∃ w, f_X5_amends_57 (nI v) (nI c) k_N 0 0 g = some (q_df (fun p => g 32 0 (4 * c + p)) v, w, g) := by
  have e10 : (10 : Int32) = nI 10 := rfl
  have d0 : nI v / 1000 = nI (v / 1000) := by rw [show (1000 : Int32) = nI 1000 from rfl, pk_div (by omega) (by omega) (by omega)]
  have d1 : nI v / 100 = nI (v / 100) := by rw [show (100 : Int32) = nI 100 from rfl, pk_div (by omega) (by omega) (by omega)]
  have d2 : nI v / 10 = nI (v / 10) := by rw [e10, pk_div (by omega) (by omega) (by omega)]
  have d3 : nI v / 1 = nI v := by rw [show (1 : Int32) = nI 1 from rfl, pk_div (by omega) (by omega) (by omega), Nat.div_one]
  have r0 : nI (v / 1000) - nI (v / 1000) / 10 * 10 = q_dd v 0 := by rw [e10, pk_rem (by omega) (by omega) (by omega)]; rfl
  have r1 : nI (v / 100) - nI (v / 100) / 10 * 10 = q_dd v 1 := by rw [e10, pk_rem (by omega) (by omega) (by omega)]; rfl
  have r2 : nI (v / 10) - nI (v / 10) / 10 * 10 = q_dd v 2 := by rw [e10, pk_rem (by omega) (by omega) (by omega)]; rfl
  have r3 : nI v - nI v / 10 * 10 = q_dd v 3 := by rw [e10, pk_rem (by omega) (by omega) (by omega), q_dd]; simp
  have r3' : nI v - nI (v / 10) * 10 = q_dd v 3 := by rw [← d2]; exact r3
  have i0 : k_ib (nI (4 * c)) 64 = true := q_i4 hc (p := 0) (by omega)
  have c0 : (nI (4 * c)).toNatClampNeg = 4 * c := q_c4 hc (p := 0) (by omega)
  have t0 : k_te 0 = 1000 := rfl
  have t1 : k_te 1 = 100 := rfl
  have t2 : k_te 2 = 10 := rfl
  have t3 : k_te 3 = 1 := rfl
  refine ⟨4, ?_⟩
  rw [q_N]
  simp [f_X5_amends_57, q_p1, q_p2, q_p3]
  simp only [q_p0]
  simp [q_i4 hc (show 0 < 4 by omega), q_i4 hc (show 1 < 4 by omega), q_i4 hc (show 2 < 4 by omega), q_i4 hc (show 3 < 4 by omega), q_c4 hc (show 0 < 4 by omega), q_c4 hc (show 1 < 4 by omega), q_c4 hc (show 2 < 4 by omega), q_c4 hc (show 3 < 4 by omega), q_l0, q_l1, q_l2, q_l3, q_gt, t0, t1, t2, t3, d0, d1, d2, d3, r0, r1, r2, r3, r3', i0, c0]
  rw [q_absc (q_dd v 0), q_absc (q_dd v 1), q_absc (q_dd v 2), q_absc (q_dd v 3), q_df]
  simp
  grind
theorem q_s_amends {Y : Nat} {g : Gt} (h : q_Rel Y g) (x1 : Int32) : Sim q_Rel Y (fun k kw => (k = 0 ∧ kw = 0) ∨ (k = 1 ∧ kw = 1)) (f_X4_amends x1 g) (f_X5_amends x1) := by
  have h' := h
  obtain ⟨n, nw, nu, y, hy, hR⟩ := h
  have hR0 := hR.of (q_E.th g 0)
  have hn := hR.1.2.2.2.1
  have hm := hR0.1.2.2.2.2.2.2.2.1
  have h16 := hR.1.1
  rcases q_in x1 n (by omega) with ⟨c, hc, rfl⟩ | hb
  · have hc16 : c < 16 := by omega
    obtain ⟨g1, t1, t2, t3, t4, t5⟩ := q_tell0 hR
    have hm1 : k_up g1 5 0 0 0 5 0 1 = nI n := (t4.of (q_E.th g1 0)).1.2.2.2.2.2.2.2.1
    obtain ⟨g2, u1, u2, u3⟩ := q_told2 (x := 6) (g2 := k_up g1 5 0 0 0) t4 t5 hc (fun t i j _ _ _ hj => by rw [k_up_at, if_neg (by omega)])
    have hag := q_agrees t4.1.2.2.2.1 h16 t4.2.1.1 hc
    have hth : g2 5 0 0 = 0 := by rw [u2 5 0 (by omega) (by omega) (by omega), k_up_at, if_pos ⟨rfl, rfl, rfl⟩]
    have fin : ∀ r : Int32, f_X4_amends (nI c) g = some (0, r, g1) → f_X5_amends (nI c) g1 = some (r, g2) → Sim q_Rel Y (fun k kw => (k = 0 ∧ kw = 0) ∨ (k = 1 ∧ kw = 1)) (f_X4_amends (nI c) g) (f_X5_amends (nI c)) := fun r e1 e2 => q_ro h' e1 t3 e2 ((q_E.th g1 0).tr (q_E.rk u2)) (Or.inl ⟨rfl, rfl⟩) hth (fun _ => rfl)
    have h01 : q_gv n g1 c 6 = 0 ∨ q_gv n g1 c 6 = 1 := q_b01
    rcases h01 with hz | ho
    · rw [hz] at u1 hag
      by_cases hneg : g1 13 0 c < 0
      · have ein : f_X5_isIn (g1 13 0 c) 0 9999 g2 = some (0, g2) := by rw [q_isIn, if_pos (Or.inl hneg)]
        refine fin (-1) ?_ ?_
        · simp [f_X4_amends, q_cc1 hn h16 hc, q_bd2, q_bd1, t1, hag, hneg, q_ib hc16, q_gt, q_c31 hc16]
        · simp [f_X5_amends, q_ic1 hm1 h16 hc, q_bd2, u1, q_ib hc16, q_gt, q_c31 hc16, u3, ein]
      · by_cases hbig : g1 13 0 c ≤ 9999
        · obtain ⟨v, hv, hkv⟩ := q_5_of 9999 (by omega) hneg hbig
          have hbig' : ¬ (9999 : Int32) < nI v := by rw [Int32.not_lt, ← hkv]; exact hbig
          have hneg' : ¬ nI v < 0 := by rw [← hkv]; exact hneg
          have hbig2 : nI v ≤ 9999 := by rw [← hkv]; exact hbig
          obtain ⟨w, hw⟩ := q_X5am (c := c) (v := v) (g := g2) hc16 hv
          have hd : q_df (fun p => g2 32 0 (4 * c + p)) v = q_df (g1 20 c) v := by
            have hp : ∀ p, p < 4 → g2 32 0 (4 * c + p) = g1 20 c p := fun p hp => by
              rw [u2 32 0 (by omega) (by omega) (by omega), k_up_at, if_neg (by omega)]
              exact (t4.2.2.1 c p hc16 hp).2.2.1
            unfold q_df
            simp only [hp 0 (by omega), hp 1 (by omega), hp 2 (by omega), hp 3 (by omega)]
          refine fin (q_df (g1 20 c) v) ?_ ?_
          · simp [f_X4_amends, q_cc1 hn h16 hc, q_bd2, q_bd1, t1, hag, q_ib hc16, q_gt, q_c31 hc16, hkv, hneg', hbig2, q_X1df hc16 hv]
          · simp [f_X5_amends, q_ic1 hm1 h16 hc, q_bd2, u1, q_ib hc16, q_gt, q_c31 hc16, u3, q_isIn, hkv, hneg', hbig', hw, q_bd3, hd]
        · have hbig' : (9999 : Int32) < g1 13 0 c := Int32.not_le.mp hbig
          have ein : f_X5_isIn (g1 13 0 c) 0 9999 g2 = some (0, g2) := by rw [q_isIn, if_pos (Or.inr hbig')]
          refine fin (-1) ?_ ?_
          · simp [f_X4_amends, q_cc1 hn h16 hc, q_bd2, q_bd1, t1, hag, hneg, hbig, q_ib hc16, q_gt, q_c31 hc16]
          · simp [f_X5_amends, q_ic1 hm1 h16 hc, q_bd2, u1, q_ib hc16, q_gt, q_c31 hc16, u3, ein]
    · rw [ho] at u1 hag
      refine fin 0 ?_ ?_
      · simp [f_X4_amends, q_cc1 hn h16 hc, q_bd2, q_bd1, t1, hag]
      · simp [f_X5_amends, q_ic1 hm1 h16 hc, q_bd2, u1]
  · refine q_bad (k := 1) (kw := 1) h' (by decide) (r := 0) (b := 0) ?_ ?_ (Or.inr ⟨rfl, rfl⟩)
    · simp [f_X4_amends, q_cc0 hn hb, q_bd2]
    · simp [f_X5_amends, q_ic0 hm h16 hb, q_bd2, q_fail]
/-! totals -/
def q_sm (f : Nat → Int32) : Nat → Nat → Int32 → Int32
  | 0, _, v => v
  | m + 1, k, v => q_sm f m (k + 1) (v + f k)
def q_sk (f : Nat → Nat → Int32) : Nat → Nat → Int32 → Int32
  | 0, _, v => v
  | m + 1, k, v => q_sk f m (k + 1) (v + f k 0 + f k 1 + f k 2 + f k 3)
theorem q_tk17 {c : Nat} {v : Int32} {g : Gt} (hc : c < 16) : ∃ w, f_X4_totalKnots_17 (nI c) k_N v 0 g = some (v + g 20 c 0 + g 20 c 1 + g 20 c 2 + g 20 c 3, w, g) := by
  refine ⟨4, ?_⟩
  rw [q_N]
  simp [f_X4_totalKnots_17, q_ib hc, q_c31 hc, q_l0, q_l1, q_l2, q_l3, q_gt]
theorem q_tk4 {n : Nat} {g : Gt} (hn : g 1 0 4 = nI n) (h16 : n ≤ 16) : ∀ (m k N : Nat) (v : Int32), k + m = n → m < N → f_X4_totalKnots_4 N v (nI k) g = some (q_sk (g 20) m k v, nI n, g)
  | 0, k, N + 1, v, hk, hN => by
    rw [f_X4_totalKnots_4, hn, if_pos ((nI_leI (by omega) (by omega)).mpr (by omega)), show k = n from by omega, q_sk]
  | m + 1, k, N + 1, v, hk, hN => by
    obtain ⟨w, hw⟩ := q_tk17 (c := k) (v := v) (g := g) (by omega)
    rw [f_X4_totalKnots_4, hn, if_neg (by rw [nI_leI (by omega) (by omega)]; omega), hw, q_bd3, nI_1, q_tk4 hn h16 m (k + 1) N _ (by omega) (by omega), q_sk]
theorem q_td4 {n : Nat} {g : Gt} (hn : g 1 0 4 = nI n) (h16 : n ≤ 16) (hup : q_up (g 10 0) n) : ∀ (m k N : Nat) (v : Int32), k + m = n → m < N → f_X4_totalDisagreeing_4 N v (nI k) g = some (q_sm (fun c => 1 - q_gv n g c 6) m k v, nI n, g)
  | 0, k, N + 1, v, hk, hN => by
    rw [f_X4_totalDisagreeing_4, hn, if_pos ((nI_leI (by omega) (by omega)).mpr (by omega)), show k = n from by omega, q_sm]
  | m + 1, k, N + 1, v, hk, hN => by
    rw [f_X4_totalDisagreeing_4, hn, if_neg (by rw [nI_leI (by omega) (by omega)]; omega), q_agrees hn h16 hup (by omega), q_bd2, nI_1, q_td4 hn h16 hup m (k + 1) N _ (by omega) (by omega), q_td4 hn h16 hup m (k + 1) N _ (by omega) (by omega), q_sm]
    have h01 : q_gv n g k 6 = 0 ∨ q_gv n g k 6 = 1 := q_b01
    rcases h01 with h | h
    · rw [h, if_pos rfl]
      rfl
    · rw [h, if_neg (by decide), show v + (1 - 1) = v from by grind]
theorem q_ts4 {n : Nat} {g : Gt} (hn : g 1 0 4 = nI n) (h16 : n ≤ 16) : ∀ (m k N : Nat) (v : Int32), k + m = n → m < N → f_X4_totalSaidAtBeam_4 N v (nI k) g = some (q_sm (fun c => if g 10 0 c = -1 then g 12 0 c else 0) m k v, nI n, g)
  | 0, k, N + 1, v, hk, hN => by
    rw [f_X4_totalSaidAtBeam_4, hn, if_pos ((nI_leI (by omega) (by omega)).mpr (by omega)), show k = n from by omega, q_sm]
  | m + 1, k, N + 1, v, hk, hN => by
    rw [f_X4_totalSaidAtBeam_4, hn, if_neg (by rw [nI_leI (by omega) (by omega)]; omega), q_ib (show k < 16 by omega) (by omega), q_gt, q_gt, q_c31 (L := 16) (by omega) (by omega), nI_1, q_ts4 hn h16 m (k + 1) N _ (by omega) (by omega), q_ts4 hn h16 m (k + 1) N _ (by omega) (by omega), q_sm]
    by_cases h : g 10 0 k = -1
    · rw [if_pos h, if_pos h]
    · rw [if_neg h, if_neg h, show v + 0 = v from by grind]
def q_tt (n : Nat) (g : Gt) (x : Int32) : Int32 :=
  if x = 0 then g 0 0 5 else if x = 1 then g 1 0 4 else if x = 2 then g 3 0 3 else if x = 3 then q_sk (g 20) n 0 0 else if x = 4 then g 4 0 1 else if x = 5 then q_sm (fun c => 1 - q_gv n g c 6) n 0 0 else if x = 6 then q_sm (fun c => if g 10 0 c = -1 then g 12 0 c else 0) n 0 0 else g 0 0 6
theorem q_X4tt {n : Nat} {x : Int32} {g : Gt} (hn : g 1 0 4 = nI n) (h16 : n ≤ 16) (hup : q_up (g 10 0) n) : f_X4_total x g = some (q_tt n g x, g) := by
  have hN : k_N = 200 := rfl
  rw [f_X4_total, f_X4_totalKnots, f_X4_totalDisagreeing, f_X4_totalSaidAtBeam]
  have a1 := q_tk4 hn h16 n 0 k_N 0 (by omega) (by omega)
  have a2 := q_td4 hn h16 hup n 0 k_N 0 (by omega) (by omega)
  have a3 := q_ts4 hn h16 n 0 k_N 0 (by omega) (by omega)
  rw [← q_0] at a1 a2 a3
  rw [a1, a2, a3, q_bd3, q_bd3, q_bd3, q_bd2, q_bd2, q_bd2, q_tt]
  split
  · rfl
  split
  · rfl
  split
  · rfl
  split
  · rfl
  split
  · rfl
  split
  · rfl
  split <;> rfl
