theorem q_ad15 {w : Nat} (hw : w < 6) : ∀ (m k N : Nat) (g : Gt), k + m = 16 → m < N → ∃ (v : Int32) (g' : Gt), f_X3_add_15 (nI w) N (nI k) g = some (v, g') ∧ (∀ t i j, g' t i j = if (t = 22 ∨ t = 23) ∧ i = w ∧ k ≤ j ∧ j < 16 then -1 else g t i j)
  | 0, k, N + 1, g, hk, hN => ⟨_, g, by rw [f_X3_add_15, show (16 : Int32) = nI 16 from rfl, if_pos ((nI_leI (by omega) (by omega)).mpr (by omega))], fun t i j => by rw [if_neg (by omega)]⟩
  | m + 1, k, N + 1, g, hk, hN => by
    obtain ⟨v, g', e1, e2⟩ := q_ad15 hw m (k + 1) N (k_up (k_up g 22 w k (-1)) 23 w k (-1)) (by omega) (by omega)
    refine ⟨v, g', ?_, fun t i j => ?_⟩
    · rw [f_X3_add_15, show (16 : Int32) = nI 16 from rfl, if_neg (by rw [nI_leI (by omega) (by omega)]; omega), f_X3_keep, q_ib hw (by omega), q_gt, q_ib (show k < 16 by omega) (by omega), q_gt, q_gt, q_gt, q_c31 hw (by omega), q_c31 (show k < 16 by omega) (by omega), q_bd1, nI_1, e1]
    · rw [e2, k_up_at, k_up_at]
      by_cases h : (t = 22 ∨ t = 23) ∧ i = w ∧ k ≤ j ∧ j < 16
      · rw [if_pos h]
        by_cases hj : j = k
        · rw [if_neg (by omega)]
          rcases h.1 with h1 | h1
          · rw [if_neg (by omega), if_pos ⟨h1, h.2.1, hj⟩]
          · rw [if_pos ⟨h1, h.2.1, hj⟩]
        · rw [if_pos ⟨h.1, h.2.1, by omega, h.2.2.2⟩]
      · rw [if_neg h, if_neg (by omega), if_neg (by omega), if_neg (by omega)]
theorem q_s_call {Y : Nat} {g : Gt} (h : q_Rel Y g) : Sim q_Rel Y (fun k kw => (k = 0 ∧ kw = 0) ∨ (k = 3 ∧ kw = 1)) (f_X4_call g) f_X5_call := by
  have h' := h
  obtain ⟨n, nw, nu, y, hy, hR⟩ := h
  have hn := hR.1.2.2.2.2.1
  have hm := hR.1.2.2.2.2.2.2.2.2.1
  have h6 := hR.1.2.1
  by_cases hf : nw = 6
  · subst hf
    have e6 : nI 6 = 6 := rfl
    refine q_bad (k := 3) (kw := 1) h' (by decide) (r := 0) (b := 0) ?_ ?_ (by simp)
    · simp [f_X4_call, hn, e6]
    · simp [f_X5_call, k_up_at, hm, e6, q_fail, q_bd2]
  · have e6 : ¬ nI nw = 6 := by rw [show (6 : Int32) = nI 6 from rfl, nI_eq (by omega) (by omega)]; exact hf
    have hw : nw < 6 := by omega
    obtain ⟨v, g', e1, e2⟩ := q_ad15 hw 16 0 k_N (k_up g 16 0 nw 10) (by omega) (by rw [show k_N = 200 from rfl]; omega)
    have hm' : g' 5 0 2 = nI nw := by rw [e2, if_neg (by omega), k_up_at, if_neg (by omega)]; exact hm
    have e2' : ∀ t i j, ¬ t = 22 → ¬ t = 23 → ¬ t = 16 → g' t i j = g t i j := fun t i j a1 a2 a3 => by rw [e2, if_neg (by omega), k_up_at, if_neg (by omega)]
    have e : ∀ t i j, k_up (k_up (k_up (k_up g' 3 0 3 (nI (nw + 1))) 5 0 0 0) 34 0 nw 10) 5 0 2 (nI (nw + 1)) t i j = if t = 5 ∧ i = 0 ∧ j = 2 then nI (nw + 1) else if t = 34 ∧ i = 0 ∧ j = nw then 10 else if t = 5 ∧ i = 0 ∧ j = 0 then 0 else if t = 3 ∧ i = 0 ∧ j = 3 then nI (nw + 1) else if (t = 22 ∨ t = 23) ∧ i = nw ∧ 0 ≤ j ∧ j < 16 then -1 else if t = 16 ∧ i = 0 ∧ j = nw then 10 else g t i j := fun t i j => by
      simp only [k_up_at, e2]
    refine ⟨0, nI nw, k_up g' 3 0 3 (nI (nw + 1)), nI nw, k_up (k_up (k_up (k_up g' 3 0 3 (nI (nw + 1))) 5 0 0 0) 34 0 nw 10) 5 0 2 (nI (nw + 1)), 0, ?_, ?_, Or.inl ⟨rfl, rfl⟩, ?_, fun _ => rfl, n, nw + 1, nu, y, by omega, ?_⟩
    · simp [f_X4_call, hn, e6, f_X3_add, q_ib hw, q_gt, q_c31 hw]
      rw [q_0, e1, q_bd2, q_bd2, nI_1]
    · simp [f_X5_call, k_up_at, hm', e6, q_ib hw, q_gt, q_c31 hw, nI_1, q_m1]
    · simp [k_up_at]
    · obtain ⟨h1, h2, h3, h4, h5, h6, h7⟩ := hR
      generalize k_up (k_up (k_up (k_up g' 3 0 3 (nI (nw + 1))) 5 0 0 0) 34 0 nw 10) 5 0 2 (nI (nw + 1)) = g2 at e
      have e' : ∀ t i j, t ≠ 5 → t ≠ 34 → t ≠ 3 → t ≠ 22 → t ≠ 23 → t ≠ 16 → g2 t i j = g t i j := fun t i j a1 a2 a3 a4 a5 a6 => by
        rw [e, if_neg (by omega), if_neg (by omega), if_neg (by omega), if_neg (by omega), if_neg (by omega), if_neg (by omega)]
      refine ⟨?_, h2.of fun t i j ht => e' t i j (by omega) (by omega) (by omega) (by omega) (by omega) (by omega), h3.of fun t i j ht => e' t i j (by omega) (by omega) (by omega) (by omega) (by omega) (by omega), fun w hw' => ?_, ⟨fun w c hw' hc => ?_, fun w c a1 a2 hc => ?_⟩, h6.of fun t i j ht => e' t i j (by omega) (by omega) (by omega) (by omega) (by omega) (by omega), h7.of fun t i j ht => e' t i j (by omega) (by omega) (by omega) (by omega) (by omega) (by omega)⟩
      · obtain ⟨a1, a2, a3, a4, a5, a6, a7, a8, a9, a10⟩ := h1
        refine ⟨a1, by omega, a3, ?_, ?_, ?_, ?_, ?_, ?_, ?_⟩ <;> rw [e]
        · simpa using a4
        · simp
        · simpa using a6
        · simpa using a7
        · simpa using a8
        · simp
        · simpa using a10
      · rw [e, e]
        by_cases hq : w = nw
        · subst hq
          simp
          exact ⟨10, by omega, rfl⟩
        · have := h4 w (by omega)
          simpa [hq] using this
      · rw [e 36, e 35, e 23, e 22]
        by_cases hq : w = nw
        · subst hq
          have := h5.2 w c (Nat.le_refl _) hw hc
          simpa [hc] using this
        · have := h5.1 w c (by omega) hc
          simpa [hq] using this
      · rw [e 36]
        have := h5.2 w c (by omega) a2 hc
        simpa using this
theorem q_c16 {w c : Nat} (hw : w < 6) (hc : c < 16) : (nI (16 * w + c)).toNatClampNeg = 16 * w + c := nI_clamp (by omega)
theorem q_i16 {w c : Nat} (hw : w < 6) (hc : c < 16) : k_ib (nI (16 * w + c)) 96 = true := q_ib (by omega) (by omega)
/-- what a witness remembers, in both -/
def q_rv (g : Gt) (w c : Nat) (x : Int32) : Int32 := if x = 0 then g 22 w c else if x = 1 then g 23 w c else if g 23 w c = -1 then 0 else 1
theorem q_X3mem {w c : Nat} {x : Int32} {g : Gt} (hw : w < 6) (hc : c < 16) : f_X3_memory (nI w) (nI c) x g = some (q_rv g w c x, g) := by
  unfold f_X3_memory f_X3_knows q_rv
  rw [q_ib hw (by omega), q_ib hc (by omega), q_gt, q_gt, q_gt, q_gt, q_gt, q_gt, q_c31 hw (by omega), q_c31 hc (by omega)]
  by_cases h0 : x = 0
  · rw [if_pos h0, if_pos h0]
  · rw [if_neg h0, if_neg h0]
    by_cases h1 : x = 1
    · rw [if_pos h1, if_pos h1]
    · rw [if_neg h1, if_neg h1]
      by_cases h2 : g 23 w c = -1
      · rw [if_pos h2, if_pos h2, q_bd2, if_pos rfl]
      · rw [if_neg h2, if_neg h2, q_bd2, if_neg (by decide)]
theorem q_X5rem {w c x y : Nat} {g g2 : Gt} (hw : w < 6) (hc : c < 16) (hx : x < 3) (hv : g2 36 0 (16 * w + c) = g 23 w c ∧ ((g 23 w c = -1 ∧ g 22 w c = -1) ∨ (∃ y', y' ≤ y ∧ g 23 w c = nI y') ∧ g2 35 0 (16 * w + c) = g 22 w c)) (hy : y < 2 ^ 31) : f_X5_remembered (nI w) (nI c) (nI x) g2 = some (q_rv g w c (nI x), g2) := by
  obtain ⟨h1, h2⟩ := hv
  unfold f_X5_remembered f_X5_knows q_rv
  rw [q_m16, q_i16 hw hc, q_gt, q_c16 hw hc, h1]
  rcases h2 with ⟨a1, a2⟩ | ⟨⟨y', hy', a1⟩, a2⟩
  · rw [if_pos a1, if_pos a1, q_bd2, if_pos rfl]
    rcases (show x = 0 ∨ x = 1 ∨ x = 2 by omega) with rfl | rfl | rfl
    · simp [show nI 0 = 0 from rfl, a2]
    · simp [show nI 1 = 1 from rfl, a1]
    · simp [show nI 2 = 2 from rfl]
  · have hne : ¬ g 23 w c = -1 := by rw [a1]; exact q_nm1 (by omega)
    rw [if_neg hne, if_neg hne, q_bd2, if_neg (by decide), q_gt, q_gt, a2, h1]
    rcases (show x = 0 ∨ x = 1 ∨ x = 2 by omega) with rfl | rfl | rfl
    · simp [show nI 0 = 0 from rfl]
    · simp [show nI 1 = 1 from rfl]
    · simp [show nI 2 = 2 from rfl]
theorem q_s_remembers {Y : Nat} {g : Gt} (h : q_Rel Y g) (hY : Y < 2 ^ 31) (x1 x2 x3 : Int32) : Sim q_Rel Y (fun k kw => (k = 0 ∧ kw = 0) ∨ (k = 1 ∧ kw = 1)) (f_X4_remembers x1 x2 x3 g) (f_X5_remembers x1 x2 x3) := by
  have h' := h
  obtain ⟨n, nw, nu, y, hy, hR⟩ := h
  have hR0 := hR.of (q_E.th g 0)
  have hn := hR.1.2.2.2.1
  have hnw := hR.1.2.2.2.2.1
  have hm := hR0.1.2.2.2.2.2.2.2.1
  have hmw := hR0.1.2.2.2.2.2.2.2.2.1
  have h16 := hR.1.1
  have h6 := hR.1.2.1
  rcases q_in x1 nw (by omega) with ⟨w, hw, rfl⟩ | hb
  · rcases q_in x2 n (by omega) with ⟨c, hc, rfl⟩ | hb
    · rcases q_in x3 3 (by omega) with ⟨q, hq, rfl⟩ | hb
      · have hv := hR.2.2.2.2.1.1 w c hw (by omega)
        have e1 : f_X5_isIn (nI q) 0 2 (k_up g 5 0 0 0) = some (1, k_up g 5 0 0 0) := q_isIn1 (n := 3) hq (by omega)
        have e3 : f_X4_checkWhat (nI q) 3 g = some (0, g) := q_ck1 (m := 3) (by omega) hq
        have e5 : f_X5_remembered (nI w) (nI c) (nI q) (k_up g 5 0 0 0) = some (q_rv g w c (nI q), k_up g 5 0 0 0) := q_X5rem (y := y) (by omega) (by omega) hq (by rw [k_up_at, if_neg (by omega), k_up_at, if_neg (by omega)]; exact hv) (by omega)
        refine q_ok0 h' (r := q_rv g w c (nI q)) ?_ ?_ (Or.inl ⟨rfl, rfl⟩)
        · simp [f_X4_remembers, q_cw1 hnw (by omega) hw, q_cc1 hn h16 hc, q_bd2, e3, q_X3mem (show w < 6 by omega) (show c < 16 by omega)]
        · simp [f_X5_remembers, q_iw1 hmw (by omega) hw, q_ic1 hm h16 hc, q_bd2, e1, e5]
      · have e2 : f_X5_isIn x3 0 2 (k_up g 5 0 0 0) = some (0, k_up g 5 0 0 0) := q_isIn0 (n := 3) hb (by omega)
        have e3 : f_X4_checkWhat x3 3 g = some (1, g) := q_ck0 (m := 3) hb
        refine q_bad (k := 1) (kw := 1) h' (by decide) (r := 0) (b := 0) ?_ ?_ (Or.inr ⟨rfl, rfl⟩)
        · simp [f_X4_remembers, q_cw1 hnw (by omega) hw, q_cc1 hn h16 hc, q_bd2, e3]
        · simp [f_X5_remembers, q_iw1 hmw (by omega) hw, q_ic1 hm h16 hc, q_bd2, e2, q_fail]
    · refine q_bad (k := 1) (kw := 1) h' (by decide) (r := 0) (b := 0) ?_ ?_ (Or.inr ⟨rfl, rfl⟩)
      · simp [f_X4_remembers, q_cw1 hnw (by omega) hw, q_cc0 hn hb, q_bd2]
      · simp [f_X5_remembers, q_iw1 hmw (by omega) hw, q_ic0 hm h16 hb, q_bd2, q_fail]
  · refine q_bad (k := 1) (kw := 1) h' (by decide) (r := 0) (b := 0) ?_ ?_ (Or.inr ⟨rfl, rfl⟩)
    · simp [f_X4_remembers, q_cw0 hnw hb, q_bd2]
    · simp [f_X5_remembers, q_iw0 hmw (by omega) hb, q_bd2, q_fail]
theorem q_s_trust {Y : Nat} {g : Gt} (h : q_Rel Y g) (x1 : Int32) : Sim q_Rel Y (fun k kw => (k = 0 ∧ kw = 0) ∨ (k = 1 ∧ kw = 1)) (f_X4_trust x1 g) (f_X5_trust x1) := by
  have h' := h
  obtain ⟨n, nw, nu, y, hy, hR⟩ := h
  have hR0 := hR.of (q_E.th g 0)
  have hnw := hR.1.2.2.2.2.1
  have hmw := hR0.1.2.2.2.2.2.2.2.2.1
  have h6 := hR.1.2.1
  rcases q_in x1 nw (by omega) with ⟨w, hw, rfl⟩ | hb
  · have hv := (hR.2.2.2.1 w hw).2
    refine q_ok0 h' (r := g 16 0 w) ?_ ?_ (Or.inl ⟨rfl, rfl⟩)
    · simp [f_X4_trust, q_cw1 hnw (by omega) hw, q_bd2, q_ib (show w < 6 by omega), q_gt, q_c31 (show w < 6 by omega)]
    · simp [f_X5_trust, q_iw1 hmw (by omega) hw, q_bd2, q_ib (show w < 6 by omega), q_gt, q_c31 (show w < 6 by omega), k_up_at, hv]
  · refine q_bad (k := 1) (kw := 1) h' (by decide) (r := 0) (b := 0) ?_ ?_ (Or.inr ⟨rfl, rfl⟩)
    · simp [f_X4_trust, q_cw0 hnw hb, q_bd2]
    · simp [f_X5_trust, q_iw0 hmw (by omega) hb, q_bd2, q_fail]
theorem q_s_untying {Y : Nat} {g : Gt} (h : q_Rel Y g) (x1 x2 : Int32) : Sim q_Rel Y (fun k kw => (k = 0 ∧ kw = 0) ∨ (k = 1 ∧ kw = 1)) (f_X4_untying x1 x2 g) (f_X5_untying x1 x2) := by
  have h' := h
  obtain ⟨n, nw, nu, y, hy, hR⟩ := h
  have hnu := hR.1.2.2.2.2.2.1
  have hmu := hR.1.2.2.2.2.2.2.2.2.2
  have h30 := hR.1.2.2.1
  rcases q_in x1 nu (by omega) with ⟨u, hu, rfl⟩ | hb
  · have hlt : nI u < nI nu := nI_lt hu (by omega)
    have hps : ¬ nI u < 0 := nI_pos (by omega)
    have ein : f_X5_isIn (nI u) 0 (nI nu - 1) (k_up g 5 0 0 0) = some (1, k_up g 5 0 0 0) := q_isIn1 hu (by omega)
    rcases q_in x2 5 (by omega) with ⟨q, hq, rfl⟩ | hb
    · have hv := hR.2.2.2.2.2.1 u q hu hq
      have e1 : f_X5_isIn (nI q) 0 4 (k_up g 5 0 0 0) = some (1, k_up g 5 0 0 0) := q_isIn1 (n := 5) hq (by omega)
      have e3 : f_X4_checkWhat (nI q) 5 g = some (0, g) := q_ck1 (m := 5) (by omega) hq
      have ei : k_ib (nI (5 * u + q)) 150 = true := q_ib (by omega) (by omega)
      have ec : (nI (5 * u + q)).toNatClampNeg = 5 * u + q := nI_clamp (by omega)
      refine q_ok0 h' (r := g 24 u q) ?_ ?_ (Or.inl ⟨rfl, rfl⟩)
      · simp [f_X4_untying, hnu, hlt, hps, e3, q_bd2, q_ib (show u < 30 by omega), q_ib (show q < 5 by omega), q_gt, q_c31 (show u < 30 by omega), q_c31 (show q < 5 by omega)]
      · simp [f_X5_untying, k_up_at, hmu, ein, q_bd2, e1, q_m5, ei, ec, q_gt, hv]
    · have e1 : f_X5_isIn x2 0 4 (k_up g 5 0 0 0) = some (0, k_up g 5 0 0 0) := q_isIn0 (n := 5) hb (by omega)
      have e3 : f_X4_checkWhat x2 5 g = some (1, g) := q_ck0 (m := 5) hb
      refine q_bad (k := 1) (kw := 1) h' (by decide) (r := 0) (b := 0) ?_ ?_ (Or.inr ⟨rfl, rfl⟩)
      · simp [f_X4_untying, hnu, hlt, hps, e3, q_bd2]
      · simp [f_X5_untying, k_up_at, hmu, ein, q_bd2, e1, q_fail]
  · have ein : f_X5_isIn x1 0 (nI nu - 1) (k_up g 5 0 0 0) = some (0, k_up g 5 0 0 0) := q_isIn0 hb (by omega)
    refine q_bad (k := 1) (kw := 1) h' (by decide) (r := 0) (b := 0) ?_ ?_ (Or.inr ⟨rfl, rfl⟩)
    · rcases hb with hb | ⟨h1, h2⟩
      · simp [f_X4_untying, hb]
      · simp [f_X4_untying, hnu, h1, h2]
    · simp [f_X5_untying, k_up_at, hmu, ein, q_bd2, q_fail]
/-! what is told of a cord -/
def q_cv (n : Nat) (fr st d sy kt af : Nat → Int32) (c : Nat) (x : Int32) : Int32 :=
  if x = 0 then fr c else if x = 1 then st c else if x = 2 then d c else if x = 3 then sy c else if x = 4 then kt c else if x = 5 then nI (q_kl fr (nI c) n 0).length else if x = 6 then (if nI (q_kl fr (nI c) n 0).length = 0 then 1 else if d c = kt c then 1 else 0) else af c
def q_gv (n : Nat) (g : Gt) (c : Nat) (x : Int32) : Int32 := q_cv n (g 10 0) (g 11 0) (fun c => q_dg (g 20 c)) (g 12 0) (g 13 0) (fun c => q_af (g 21 c)) c x
theorem q_agrees {n c : Nat} {g : Gt} (hn : g 1 0 4 = nI n) (h16 : n ≤ 16) (hup : q_up (g 10 0) n) (hc : c < n) : f_X4_agrees (nI c) g = some (q_gv n g c 6, g) := by
  rw [f_X4_agrees, q_X0hf hn h16 hc, q_bd2, ← q_kl_all hup h16 hc, q_X1dg (by omega), q_bd2, q_ib (show c < 16 by omega) (by omega), q_gt, q_c31 (L := 16) (by omega) (by omega), q_16]
  simp only [q_gv, q_cv]
  rw [if_neg (show ¬ (6 : Int32) = 0 by decide), if_neg (show ¬ (6 : Int32) = 1 by decide), if_neg (show ¬ (6 : Int32) = 2 by decide), if_neg (show ¬ (6 : Int32) = 3 by decide), if_neg (show ¬ (6 : Int32) = 4 by decide), if_neg (show ¬ (6 : Int32) = 5 by decide), if_pos trivial]
  split
  · rfl
  · split <;> rfl
theorem q_b01 {n : Nat} {fr st d sy kt af : Nat → Int32} {c : Nat} : q_cv n fr st d sy kt af c 6 = 0 ∨ q_cv n fr st d sy kt af c 6 = 1 := by
  simp only [q_cv]
  rw [if_neg (show ¬ (6 : Int32) = 0 by decide), if_neg (show ¬ (6 : Int32) = 1 by decide), if_neg (show ¬ (6 : Int32) = 2 by decide), if_neg (show ¬ (6 : Int32) = 3 by decide), if_neg (show ¬ (6 : Int32) = 4 by decide), if_neg (show ¬ (6 : Int32) = 5 by decide), if_pos trivial]
  split
  · exact Or.inr rfl
  · split
    · exact Or.inr rfl
    · exact Or.inl rfl
theorem q_cdet {n c : Nat} {x : Int32} {g : Gt} (hn : g 1 0 4 = nI n) (h16 : n ≤ 16) (hup : q_up (g 10 0) n) (hc : c < n) : f_X4_cordDetail (nI c) x g = some (q_gv n g c x, g) := by
  have hc16 : c < 16 := by omega
  rw [f_X4_cordDetail, q_ib hc16 (by omega), q_gt, q_gt, q_gt, q_gt, q_c31 hc16 (by omega), q_X1dg hc16, q_bd2, q_X0hf hn h16 hc, q_bd2, q_agrees hn h16 hup hc, q_bd2, q_X1af hc16, q_bd2, ← q_kl_all hup h16 hc, q_16]
  have h6 : (if q_gv n g c 6 = 0 then some ((0 : Int32), g) else some (1, g)) = some (q_gv n g c 6, g) := by
    rcases q_b01 (n := n) (fr := g 10 0) (st := g 11 0) (d := fun c => q_dg (g 20 c)) (sy := g 12 0) (kt := g 13 0) (af := fun c => q_af (g 21 c)) (c := c) with h | h
    · rw [show q_gv n g c 6 = 0 from h, if_pos rfl]
    · rw [show q_gv n g c 6 = 1 from h, if_neg (by decide)]
  rw [h6]
  by_cases h0 : x = 0
  · subst h0; rfl
  rw [if_neg h0]
  by_cases h1 : x = 1
  · subst h1; rfl
  rw [if_neg h1]
  by_cases h2 : x = 2
  · subst h2; rfl
  rw [if_neg h2]
  by_cases h3 : x = 3
  · subst h3; rfl
  rw [if_neg h3]
  by_cases h4 : x = 4
  · subst h4; rfl
  rw [if_neg h4]
  by_cases h5 : x = 5
  · subst h5; rfl
  rw [if_neg h5]
  by_cases h6 : x = 6
  · subst h6; rfl
  rw [if_neg h6, q_gv, q_cv, if_neg h0, if_neg h1, if_neg h2, if_neg h3, if_neg h4, if_neg h5, if_neg h6]
theorem q_up_c {fr fr' : Nat → Int32} {n : Nat} (h : q_up fr n) (e : ∀ c, c < n → fr' c = fr c) : q_up fr' n := fun c hc => by
  rw [e c hc]
  exact h c hc
theorem q_told {n c : Nat} {x : Int32} {g : Gt} {fr st d sy kt af : Nat → Int32} (h16 : n ≤ 16) (hn : g 5 0 1 = nI n) (hup : q_up fr n) (e30 : ∀ c, c < n → g 30 0 c = fr c) (e31 : ∀ c, c < n → g 31 0 c = st c) (hd : ∀ c, c < n → q_dg (fun p => g 32 0 (4 * c + p)) = d c) (hTL : ∀ c, c < n → q_TL n fr st d sy kt c) (hc : c < n) (haf : q_af (fun p => g 33 0 (4 * c + p)) = af c) :
    ∃ g', f_X5_cordTold (nI c) x g = some (q_cv n fr st d sy kt af c x, g') ∧ (∀ t j, ¬ t = 39 → ¬ t = 40 → ¬ t = 41 → g' t j = g t j) ∧ g' 39 0 c = kt c := by
  obtain ⟨g', e1, e2, e3⟩ := q_X5rk hn h16 (q_up_c hup e30)
  have hU := q_TL_uniq (n := n) (fun c hc => e30 c hc) (fun c hc => e31 c hc) (fun c hc => hd c hc) e3 hTL n c (by omega) hc
  have hc16 : c < 16 := by omega
  have hn' : g' 5 0 1 = nI n := by rw [e2 5 0 (by omega) (by omega) (by omega)]; exact hn
  have hk : (q_kl (g' 30 0) (nI c) n 0) = q_kl fr (nI c) n 0 := q_kl_congr n 0 fun j _ hj => by
    rw [e2 30 0 (by omega) (by omega) (by omega)]
    exact e30 j (by omega)
  refine ⟨g', ?_, e2, hU.2⟩
  rw [f_X5_cordTold, e1, q_bd1, q_ib hc16 (by omega), q_gt, q_gt, q_gt, q_gt, q_c31 hc16 (by omega), q_X5dg hc16, q_bd2, q_X5hs hn' h16, q_bd2, q_bd2, q_X5dg hc16, q_bd2, q_X5af hc16, q_bd2, hk, hU.1, hU.2, q_gt, e2 30 0 (by omega) (by omega) (by omega), e2 31 0 (by omega) (by omega) (by omega), e2 32 0 (by omega) (by omega) (by omega), e2 33 0 (by omega) (by omega) (by omega), e30 c hc, e31 c hc, hd c hc, haf, q_cv]
  by_cases h0 : x = 0
  · rw [if_pos h0, if_pos h0]
  rw [if_neg h0, if_neg h0]
  by_cases h1 : x = 1
  · rw [if_pos h1, if_pos h1]
  rw [if_neg h1, if_neg h1]
  by_cases h2 : x = 2
  · rw [if_pos h2, if_pos h2]
  rw [if_neg h2, if_neg h2]
  by_cases h3 : x = 3
  · rw [if_pos h3, if_pos h3]
  rw [if_neg h3, if_neg h3]
  by_cases h4 : x = 4
  · rw [if_pos h4, if_pos h4]
  rw [if_neg h4, if_neg h4]
  by_cases h5 : x = 5
  · rw [if_pos h5, if_pos h5]
  rw [if_neg h5, if_neg h5]
  by_cases h6 : x = 6
  · rw [if_pos h6, if_pos h6]
    split
    · rfl
    · split <;> rfl
  rw [if_neg h6, if_neg h6]
/-- after the class has told its cords, the reference tells the same -/
theorem q_told2 {n nw nu y c : Nat} {x : Int32} {g g2 : Gt} (hR : q_R n nw nu y g) (hT : ∀ c, c < n → q_TL n (g 10 0) (g 11 0) (fun c => q_dg (g 20 c)) (g 12 0) (g 13 0) c) (hc : c < n) (hE : ∀ t i j, ¬ t = 39 → ¬ t = 40 → ¬ t = 41 → ¬ (t = 5 ∧ j = 0) → g2 t i j = g t i j) :
    ∃ g', f_X5_cordTold (nI c) x g2 = some (q_gv n g c x, g') ∧ (∀ t j, ¬ t = 39 → ¬ t = 40 → ¬ t = 41 → g' t j = g2 t j) ∧ g' 39 0 c = g 13 0 c := by
  have h16 := hR.1.1
  refine q_told (g := g2) h16 (by rw [hE 5 0 1 (by omega) (by omega) (by omega) (by omega)]; exact hR.1.2.2.2.2.2.2.2.1) hR.2.1.1 (fun c hc => by rw [hE 30 0 c (by omega) (by omega) (by omega) (by omega)]; exact (hR.2.1.2.2.2 c hc).1) (fun c hc => by rw [hE 31 0 c (by omega) (by omega) (by omega) (by omega)]; exact (hR.2.1.2.2.2 c hc).2) (fun c hc => q_dg_c fun p hp => by rw [hE 32 0 _ (by omega) (by omega) (by omega) (by omega)]; exact (hR.2.2.1 c p (by omega) hp).2.2.1) hT hc (q_af_c fun p hp => by rw [hE 33 0 _ (by omega) (by omega) (by omega) (by omega)]; exact (hR.2.2.1 c p (by omega) hp).2.2.2)
theorem q_tell0 {n nw nu y : Nat} {g : Gt} (hR : q_R n nw nu y g) : ∃ g', f_X0_tell 0 g = some g' ∧ (∀ t j, ¬ t = 12 → ¬ t = 13 → g' t j = g t j) ∧ q_E g g' ∧ q_R n nw nu y g' ∧ (∀ c, c < n → q_TL n (g' 10 0) (g' 11 0) (fun c => q_dg (g' 20 c)) (g' 12 0) (g' 13 0) c) := by
  obtain ⟨g', e1, e2, e3⟩ := q_X0tell (i := 0) hR.1.2.2.2.1 hR.1.1 (by omega)
  refine ⟨g', e1, e2, q_E.tell e2, hR.of (q_E.tell e2), fun c hc => ?_⟩
  have := e3 c hc
  simp only [q_16] at this
  rw [e2 10 0 (by omega) (by omega), e2 11 0 (by omega) (by omega)]
  have hf : (fun c => q_dg (g' 20 c)) = fun c => q_dg (g 20 c) := by
    funext c
    rw [e2 20 c (by omega) (by omega)]
  rw [hf]
  exact this
theorem q_s_cord {Y : Nat} {g : Gt} (h : q_Rel Y g) (x1 x2 : Int32) : Sim q_Rel Y (fun k kw => (k = 0 ∧ kw = 0) ∨ (k = 1 ∧ kw = 1)) (f_X4_cord x1 x2 g) (f_X5_cord x1 x2) := by
  have h' := h
  obtain ⟨n, nw, nu, y, hy, hR⟩ := h
  have hR0 := hR.of (q_E.th g 0)
  have hn := hR.1.2.2.2.1
  have hm := hR0.1.2.2.2.2.2.2.2.1
  have hmg := hR.1.2.2.2.2.2.2.2.1
  have h16 := hR.1.1
  rcases q_in x1 n (by omega) with ⟨c, hc, rfl⟩ | hb
  · rcases q_in x2 8 (by omega) with ⟨q, hq, rfl⟩ | hb
    · have e3 : f_X4_checkWhat (nI q) 8 g = some (0, g) := q_ck1 (m := 8) (by omega) hq
      obtain ⟨g1, t1, t2, t3, t4, t5⟩ := q_tell0 hR
      have hm1 : k_up g1 5 0 0 0 5 0 1 = nI n := (t4.of (q_E.th g1 0)).1.2.2.2.2.2.2.2.1
      have e1 : f_X5_isIn (nI q) 0 7 (k_up g1 5 0 0 0) = some (1, k_up g1 5 0 0 0) := q_isIn1 (n := 8) hq (by omega)
      obtain ⟨g2, u1, u2, u3⟩ := q_told2 (x := nI q) (g2 := k_up g1 5 0 0 0) t4 t5 hc (fun t i j _ _ _ hj => by rw [k_up_at, if_neg (by omega)])
      refine q_ro h' (k := 0) (kw := 0) (r := q_gv n g1 c (nI q)) (b := q_gv n g1 c (nI q)) (g1 := g1) (g2 := g2) ?_ t3 ?_ ((q_E.th g1 0).tr (q_E.rk u2)) (Or.inl ⟨rfl, rfl⟩) ?_ (fun _ => rfl)
      · simp [f_X4_cord, q_cc1 hn h16 hc, q_bd2, q_bd1, e3, t1, q_cdet t4.1.2.2.2.1 h16 t4.2.1.1 hc]
      · simp [f_X5_cord, q_ic1 hm1 h16 hc, q_bd2, e1, u1]
      · rw [u2 5 0 (by omega) (by omega) (by omega), k_up_at, if_pos ⟨rfl, rfl, rfl⟩]
    · have e1 : f_X5_isIn x2 0 7 (k_up g 5 0 0 0) = some (0, k_up g 5 0 0 0) := q_isIn0 (n := 8) hb (by omega)
      have e3 : f_X4_checkWhat x2 8 g = some (1, g) := q_ck0 (m := 8) hb
      refine q_bad (k := 1) (kw := 1) h' (by decide) (r := 0) (b := 0) ?_ ?_ (Or.inr ⟨rfl, rfl⟩)
      · simp [f_X4_cord, q_cc1 hn h16 hc, q_bd2, e3]
      · simp [f_X5_cord, q_ic1 hm h16 hc, q_bd2, e1, q_fail]
  · refine q_bad (k := 1) (kw := 1) h' (by decide) (r := 0) (b := 0) ?_ ?_ (Or.inr ⟨rfl, rfl⟩)
    · simp [f_X4_cord, q_cc0 hn hb, q_bd2]
    · simp [f_X5_cord, q_ic0 hm h16 hb, q_bd2, q_fail]
