/-! simple calls -/
theorem q_ro {g g1 g2 : Gt} {Y k : Nat} {r b kw : Int32} {ok : Nat → Int32 → Prop} {fx : Option (Nat × Int32 × Gt)} {fm : Gt → Option (Int32 × Gt)} (h : q_Rel Y g) (hfx : fx = some (k, r, g1)) (h1 : q_E g g1) (hfm : fm g1 = some (b, g2)) (h2 : q_E g1 g2) (hok : ok k kw) (hth : g2 5 0 0 = kw) (hrb : k = 0 → r = b) : Sim q_Rel Y ok fx fm := by
  obtain ⟨n, nw, nu, y, hy, hR⟩ := h
  exact ⟨k, r, g1, b, g2, kw, hfx, hfm, hok, hth, hrb, n, nw, nu, y, by omega, hR.of (h1.tr h2)⟩
/-- an answer without a change -/
theorem q_ok0 {g : Gt} {Y : Nat} {r : Int32} {ok : Nat → Int32 → Prop} {fx : Option (Nat × Int32 × Gt)} {fm : Gt → Option (Int32 × Gt)} (h : q_Rel Y g) (hfx : fx = some (0, r, g)) (hfm : fm g = some (r, k_up g 5 0 0 0)) (hok : ok 0 0) : Sim q_Rel Y ok fx fm :=
  q_ro h hfx (q_E.rf g) hfm (q_E.th g 0) hok (by rw [k_up_at, if_pos ⟨rfl, rfl, rfl⟩]) (fun _ => rfl)
theorem q_bad {g : Gt} {Y k : Nat} {r b kw : Int32} {ok : Nat → Int32 → Prop} {fx : Option (Nat × Int32 × Gt)} {fm : Gt → Option (Int32 × Gt)} (h : q_Rel Y g) (hk : k ≠ 0) (hfx : fx = some (k, r, g)) (hfm : fm g = some (b, k_up (k_up g 5 0 0 0) 5 0 0 kw)) (hok : ok k kw) : Sim q_Rel Y ok fx fm :=
  q_ro h hfx (q_E.rf g) hfm ((q_E.th g 0).tr (q_E.th _ kw)) hok (by rw [k_up_at, if_pos ⟨rfl, rfl, rfl⟩]) (fun e => absurd e hk)
theorem q_s_place {Y : Nat} {g : Gt} (h : q_Rel Y g) (x1 x2 x3 : Int32) : Sim q_Rel Y (fun k kw => (k = 0 ∧ kw = 0) ∨ (k = 1 ∧ kw = 1)) (f_X4_place x1 x2 x3 g) (f_X5_place x1 x2 x3) := by
  have h' := h
  obtain ⟨n, nw, nu, y, hy, hR⟩ := h
  have hR0 := hR.of (q_E.th g 0)
  have hn := hR.1.2.2.2.1
  have hm := hR0.1.2.2.2.2.2.2.2.1
  have h16 := hR.1.1
  rcases q_in x1 n (by omega) with ⟨c, hc, rfl⟩ | hb
  · rcases q_in x2 4 (by omega) with ⟨p, hp, rfl⟩ | hb
    · rcases q_in x3 2 (by omega) with ⟨q, hq, rfl⟩ | hb
      · have hv := hR.2.2.1 c p (by omega) hp
        have e1 : f_X5_isIn (nI p) 0 3 (k_up g 5 0 0 0) = some (1, k_up g 5 0 0 0) := q_isIn1 (n := 4) hp (by omega)
        have e2 : f_X5_isIn (nI q) 0 1 (k_up g 5 0 0 0) = some (1, k_up g 5 0 0 0) := q_isIn1 (n := 2) hq (by omega)
        have e3 : f_X4_checkWhat (nI q) 2 g = some (0, g) := q_ck1 (m := 2) (by omega) hq
        have e32 : k_up g 5 0 0 0 32 0 (4 * c + p) = g 32 0 (4 * c + p) := by rw [k_up_at, if_neg (by omega)]
        have e33 : k_up g 5 0 0 0 33 0 (4 * c + p) = g 33 0 (4 * c + p) := by rw [k_up_at, if_neg (by omega)]
        refine q_ok0 (r := if nI q = 0 then g 20 c p else g 21 c p) h' ?_ ?_ (Or.inl ⟨rfl, rfl⟩)
        · simp [f_X4_place, q_cc1 hn h16 hc, q_bd2, q_cp1 hp, e3, q_ib (show c < 16 by omega), q_ib (show p < 4 by omega), q_gt, q_c31 (show c < 16 by omega), q_c31 (show p < 4 by omega)]
          split <;> rfl
        · simp [f_X5_place, q_ic1 hm h16 hc, q_bd2, e1, e2, q_m4, q_i4 (show c < 16 by omega) hp, q_gt, q_c4 (show c < 16 by omega) hp, e32, e33, hv.2.2.1, hv.2.2.2]
          split <;> rfl
      · have e1 : f_X5_isIn (nI p) 0 3 (k_up g 5 0 0 0) = some (1, k_up g 5 0 0 0) := q_isIn1 (n := 4) hp (by omega)
        have e2 : f_X5_isIn x3 0 1 (k_up g 5 0 0 0) = some (0, k_up g 5 0 0 0) := q_isIn0 (n := 2) hb (by omega)
        have e3 : f_X4_checkWhat x3 2 g = some (1, g) := q_ck0 (m := 2) hb
        refine q_bad (k := 1) (kw := 1) h' (by decide) (r := 0) (b := 0) ?_ ?_ (Or.inr ⟨rfl, rfl⟩)
        · simp [f_X4_place, q_cc1 hn h16 hc, q_bd2, q_cp1 hp, e3]
        · simp [f_X5_place, q_ic1 hm h16 hc, q_bd2, e1, e2, q_fail]
    · have e1 : f_X5_isIn x2 0 3 (k_up g 5 0 0 0) = some (0, k_up g 5 0 0 0) := q_isIn0 (n := 4) hb (by omega)
      refine q_bad (k := 1) (kw := 1) h' (by decide) (r := 0) (b := 0) ?_ ?_ (Or.inr ⟨rfl, rfl⟩)
      · simp [f_X4_place, q_cc1 hn h16 hc, q_bd2, q_cp0 hb]
      · simp [f_X5_place, q_ic1 hm h16 hc, q_bd2, e1, q_fail]
  · refine q_bad (k := 1) (kw := 1) h' (by decide) (r := 0) (b := 0) ?_ ?_ (Or.inr ⟨rfl, rfl⟩)
    · simp [f_X4_place, q_cc0 hn hb, q_bd2]
    · simp [f_X5_place, q_ic0 hm h16 hb, q_bd2, q_fail]
theorem q_nm1 {c : Nat} (h : c < 2 ^ 31) : ¬ nI c = -1 := fun e => by
  have h3 : (nI c).toInt = (-1 : Int32).toInt := by rw [e]
  rw [nI_toInt h] at h3
  have h4 : (-1 : Int32).toInt = -1 := by decide
  omega
theorem q_hang_R {n nw nu y s : Nat} {x : Int32} {g g2 : Gt} (hR : q_R n nw nu y g) (hn : n < 16) (hx : x = -1 ∨ ∃ b, b < n ∧ x = nI b ∧ (q_kl (g 10 0) (nI b) n 0).length < 6) (hs : s ≤ 4)
    (e : ∀ t i j, g2 t i j = if t = 5 ∧ i = 0 ∧ j = 1 then nI (n + 1) else if t = 31 ∧ i = 0 ∧ j = n then nI s else if t = 30 ∧ i = 0 ∧ j = n then x else if t = 5 ∧ i = 0 ∧ j = 0 then 0 else if t = 1 ∧ i = 0 ∧ j = 4 then nI (n + 1) else if t = 11 ∧ i = 0 ∧ j = n then nI s else if t = 10 ∧ i = 0 ∧ j = n then x else g t i j) : q_R (n + 1) nw nu y g2 := by
  obtain ⟨h1, h2, h3, h4, h5, h6, h7⟩ := hR
  have e' : ∀ t i j, t ≠ 5 → t ≠ 31 → t ≠ 30 → t ≠ 1 → t ≠ 11 → t ≠ 10 → g2 t i j = g t i j := fun t i j a1 a2 a3 a4 a5 a6 => by
    rw [e, if_neg (by omega), if_neg (by omega), if_neg (by omega), if_neg (by omega), if_neg (by omega), if_neg (by omega), if_neg (by omega)]
  have e10 : ∀ c, g2 10 0 c = if c = n then x else g 10 0 c := fun c => by
    rw [e, if_neg (by omega), if_neg (by omega), if_neg (by omega), if_neg (by omega), if_neg (by omega), if_neg (by omega)]
    by_cases hc : c = n
    · rw [if_pos ⟨rfl, rfl, hc⟩, if_pos hc]
    · rw [if_neg (by omega), if_neg hc]
  have e11 : ∀ c, g2 11 0 c = if c = n then nI s else g 11 0 c := fun c => by
    rw [e, if_neg (by omega), if_neg (by omega), if_neg (by omega), if_neg (by omega), if_neg (by omega)]
    by_cases hc : c = n
    · rw [if_pos ⟨rfl, rfl, hc⟩, if_pos hc]
    · rw [if_neg (by omega), if_neg (by omega), if_neg hc]
  have e30 : ∀ c, g2 30 0 c = if c = n then x else g 30 0 c := fun c => by
    rw [e, if_neg (by omega), if_neg (by omega)]
    by_cases hc : c = n
    · rw [if_pos ⟨rfl, rfl, hc⟩, if_pos hc]
    · rw [if_neg (by omega), if_neg (by omega), if_neg (by omega), if_neg (by omega), if_neg (by omega), if_neg hc]
  have e31 : ∀ c, g2 31 0 c = if c = n then nI s else g 31 0 c := fun c => by
    rw [e, if_neg (by omega)]
    by_cases hc : c = n
    · rw [if_pos ⟨rfl, rfl, hc⟩, if_pos hc]
    · rw [if_neg (by omega), if_neg (by omega), if_neg (by omega), if_neg (by omega), if_neg (by omega), if_neg (by omega), if_neg hc]
  refine ⟨?_, ?_, h3.of fun t i j ht => e' t i j (by omega) (by omega) (by omega) (by omega) (by omega) (by omega), h4.of fun t i j ht => e' t i j (by omega) (by omega) (by omega) (by omega) (by omega) (by omega), h5.of fun t i j ht => e' t i j (by omega) (by omega) (by omega) (by omega) (by omega) (by omega), h6.of fun t i j ht => e' t i j (by omega) (by omega) (by omega) (by omega) (by omega) (by omega), h7.of fun t i j ht => e' t i j (by omega) (by omega) (by omega) (by omega) (by omega) (by omega)⟩
  · obtain ⟨a1, a2, a3, a4, a5, a6, a7, a8, a9, a10⟩ := h1
    refine ⟨by omega, a2, a3, ?_, ?_, ?_, ?_, ?_, ?_, ?_⟩ <;> rw [e]
    · simp
    · simpa using a5
    · simpa using a6
    · simpa using a7
    · simp
    · simpa using a9
    · simpa using a10
  · obtain ⟨a1, a2, a3, a4⟩ := h2
    have hkl : ∀ t, (q_kl (g2 10 0) (nI t) (n + 1) 0) = q_kl (g 10 0) (nI t) n 0 ++ (if x = nI t then [n] else []) := fun t => by
      rw [q_kl_app 1 n 0, Nat.zero_add, q_kl_congr (fr' := g 10 0) n 0 (fun j _ hj => by rw [e10, if_neg (by omega)])]
      congr 1
      rw [q_kl, e10, if_pos rfl]
      rfl
    refine ⟨fun c hc => ?_, fun c hc => ?_, fun t ht => ?_, fun c hc => ?_⟩
    · rw [e10]
      by_cases h : c = n
      · rw [if_pos h]
        rcases hx with hx | ⟨b, hb, hx, _⟩
        · exact Or.inl hx
        · exact Or.inr ⟨b, by omega, hx⟩
      · rw [if_neg h]
        exact a1 c (by omega)
    · rw [e11]
      by_cases h : c = n
      · rw [if_pos h]
        exact ⟨s, hs, rfl⟩
      · rw [if_neg h]
        exact a2 c (by omega)
    · rw [hkl, List.length_append]
      by_cases hxt : x = nI t
      · rw [if_pos hxt]
        rcases hx with hx | ⟨b, hb, hx, hl⟩
        · exact absurd (hxt.symm.trans hx) (q_nm1 (by omega))
        · have : b = t := (nI_eq (by omega) (by omega)).mp (hx.symm.trans hxt)
          subst this
          simp only [List.length_cons, List.length_nil]
          omega
      · rw [if_neg hxt]
        by_cases h : t = n
        · subst h
          rw [q_kl_nil t 0 (fun j _ hj => q_up_ne a1 (by omega) (by omega) (by omega) (by omega))]
          decide
        · have := a3 t (by omega)
          simp only [List.length_nil]
          omega
    · rw [e10, e11, e30, e31]
      by_cases h : c = n
      · rw [if_pos h, if_pos h, if_pos h, if_pos h]
        exact ⟨rfl, rfl⟩
      · rw [if_neg h, if_neg h, if_neg h, if_neg h]
        exact a4 c (by omega)
theorem q_5_of {x : Int32} (m : Nat) (hm : m < 2 ^ 31) (h0 : ¬ x < 0) (h : x ≤ nI m) : ∃ s, s ≤ m ∧ x = nI s := by
  obtain ⟨j, hj, rfl⟩ := nI_of h0
  exact ⟨j, (nI_leI hj hm).mp h, rfl⟩
theorem q_s_hang {Y : Nat} {g : Gt} (h : q_Rel Y g) (x1 x2 : Int32) : Sim q_Rel Y (fun k kw => (k = 0 ∧ kw = 0) ∨ (k = 1 ∧ kw = 1) ∨ (k = 2 ∧ kw = 2) ∨ (k = 3 ∧ kw = 3)) (f_X4_hang x1 x2 g) (f_X5_hang x1 x2) := by
  have h' := h
  obtain ⟨n, nw, nu, y, hy, hR⟩ := h
  have hR0 := hR.of (q_E.th g 0)
  have hn := hR.1.2.2.2.1
  have hm := hR0.1.2.2.2.2.2.2.2.1
  have hmg := hR.1.2.2.2.2.2.2.2.1
  have h16 := hR.1.1
  by_cases hx : x1 = -1
  · subst hx
    by_cases h2 : x2 < 0
    · refine q_bad (k := 2) (kw := 2) h' (by decide) (r := 0) (b := 0) ?_ ?_ (by simp)
      · simp [f_X4_hang, h2]
      · simp [f_X5_hang, q_isIn, h2, q_bd2, q_fail]
    · by_cases h4 : x2 ≤ 4
      · obtain ⟨s, hs, rfl⟩ := q_5_of 4 (by omega) h2 h4
        have h4' : ¬ (4 : Int32) < nI s := by rw [Int32.not_lt]; exact h4
        by_cases hf : n = 16
        · subst hf
          have e16 : nI 16 = 16 := rfl
          refine q_bad (k := 3) (kw := 3) h' (by decide) (r := 0) (b := 0) ?_ ?_ (by simp)
          · simp [f_X4_hang, h2, h4, hn, e16]
          · simp [f_X5_hang, q_isIn, h2, h4', q_bd2, q_fail, hm, e16]
        · have e16 : ¬ nI n = 16 := by rw [show (16 : Int32) = nI 16 from rfl, nI_eq (by omega) (by omega)]; exact hf
          refine ⟨0, nI n, k_up (k_up (k_up g 10 0 n (-1)) 11 0 n (nI s)) 1 0 4 (nI (n + 1)), nI n, k_up (k_up (k_up (k_up (k_up (k_up (k_up g 10 0 n (-1)) 11 0 n (nI s)) 1 0 4 (nI (n + 1))) 5 0 0 0) 30 0 n (-1)) 31 0 n (nI s)) 5 0 1 (nI (n + 1)), 0, ?_, ?_, Or.inl ⟨rfl, rfl⟩, ?_, fun _ => rfl, n + 1, nw, nu, y, by omega, q_hang_R (x := -1) (s := s) hR (by omega) (Or.inl rfl) hs fun t i j => ?_⟩
          · simp [f_X4_hang, h2, h4, hn, e16, f_X0_add, q_ib (show n < 16 by omega), q_gt, q_bd2, q_c31 (show n < 16 by omega), nI_1]
          · simp [f_X5_hang, q_isIn, h2, h4', q_bd2, q_fail, k_up_at, hmg, e16, q_ib (show n < 16 by omega), q_gt, q_c31 (show n < 16 by omega), nI_1, q_m1]
          · simp [k_up_at]
          · simp only [k_up_at]
      · have h4' : (4 : Int32) < x2 := Int32.not_le.mp h4
        refine q_bad (k := 2) (kw := 2) h' (by decide) (r := 0) (b := 0) ?_ ?_ (by simp)
        · simp [f_X4_hang, h2, h4]
        · simp [f_X5_hang, q_isIn, h4', q_bd2, q_fail]
  · rcases q_in x1 n (by omega) with ⟨c, hc, rfl⟩ | hb
    · by_cases h2 : x2 < 0
      · refine q_bad (k := 2) (kw := 2) h' (by decide) (r := 0) (b := 0) ?_ ?_ (by simp)
        · simp [f_X4_hang, h2, hx, q_cc1 hn h16 hc, q_bd2]
        · simp [f_X5_hang, q_isIn, h2, q_bd2, q_fail, hx, q_ic1 hm h16 hc]
      · by_cases h4 : x2 ≤ 4
        · obtain ⟨s, hs, rfl⟩ := q_5_of 4 (by omega) h2 h4
          have h4' : ¬ (4 : Int32) < nI s := by rw [Int32.not_lt]; exact h4
          by_cases hf : n = 16
          · subst hf
            have e16 : nI 16 = 16 := rfl
            refine q_bad (k := 3) (kw := 3) h' (by decide) (r := 0) (b := 0) ?_ ?_ (by simp)
            · simp [f_X4_hang, h2, h4, hn, e16, hx, q_cc1 (n := 16) hn h16 hc, q_bd2]
            · simp [f_X5_hang, q_isIn, h2, h4', q_bd2, q_fail, hm, e16, hx, q_ic1 (n := 16) hm h16 hc]
          · have e16 : ¬ nI n = 16 := by rw [show (16 : Int32) = nI 16 from rfl, nI_eq (by omega) (by omega)]; exact hf
            have hk := hR.2.1.2.2.1 c hc
            have hall := q_kl_all hR.2.1.1 h16 hc
            by_cases hl : (q_kl (g 10 0) (nI c) n 0).length = 6
            · have e6 : ¬ nI (q_kl (g 10 0) (nI c) (n - (c + 1)) (c + 1)).length < 6 := by
                rw [← hall, hl]
                decide
              have e30 : q_kl (k_up g 5 0 0 0 30 0) (nI c) n 0 = q_kl (g 10 0) (nI c) n 0 := q_kl_congr n 0 fun j _ hj => by
                rw [k_up_at, if_neg (by omega)]
                exact (hR.2.1.2.2.2 j (by omega)).1
              have h6 : nI 6 = 6 := rfl
              refine q_bad (k := 3) (kw := 3) h' (by decide) (r := 0) (b := 0) ?_ ?_ (by simp)
              · simp [f_X4_hang, h2, h4, hn, e16, hx, q_cc1 hn h16 hc, q_bd2, q_X0hf hn h16 hc, e6]
              · simp [f_X5_hang, q_isIn, h2, h4', q_bd2, q_fail, hm, e16, hx, q_ic1 hm h16 hc, q_X5hs hm h16, e30, hl, h6]
            · have e6 : nI (q_kl (g 10 0) (nI c) (n - (c + 1)) (c + 1)).length < 6 := by
                rw [← hall, show (6 : Int32) = nI 6 from rfl]
                exact nI_lt (by omega) (by omega)
              refine ⟨0, nI n, k_up (k_up (k_up g 10 0 n (nI c)) 11 0 n (nI s)) 1 0 4 (nI (n + 1)), nI n, k_up (k_up (k_up (k_up (k_up (k_up (k_up g 10 0 n (nI c)) 11 0 n (nI s)) 1 0 4 (nI (n + 1))) 5 0 0 0) 30 0 n (nI c)) 31 0 n (nI s)) 5 0 1 (nI (n + 1)), 0, ?_, ?_, Or.inl ⟨rfl, rfl⟩, ?_, fun _ => rfl, n + 1, nw, nu, y, by omega, q_hang_R (x := nI c) (s := s) hR (by omega) (Or.inr ⟨c, hc, rfl, by omega⟩) hs fun t i j => ?_⟩
              · simp [f_X4_hang, h2, h4, hn, e16, hx, q_cc1 hn h16 hc, q_X0hf hn h16 hc, e6, f_X0_add, q_ib (show n < 16 by omega), q_gt, q_bd2, q_c31 (show n < 16 by omega), nI_1]
              · have hm2 : k_up (k_up (k_up (k_up g 10 0 n (nI c)) 11 0 n (nI s)) 1 0 4 (nI (n + 1))) 5 0 0 0 5 0 1 = nI n := by simp [k_up_at, hmg]
                have e30 : q_kl (k_up (k_up (k_up (k_up g 10 0 n (nI c)) 11 0 n (nI s)) 1 0 4 (nI (n + 1))) 5 0 0 0 30 0) (nI c) n 0 = q_kl (g 10 0) (nI c) n 0 := q_kl_congr n 0 fun j _ hj => by
                  simp only [k_up_at]
                  rw [if_neg (by omega), if_neg (by omega), if_neg (by omega), if_neg (by omega)]
                  exact (hR.2.1.2.2.2 j (by omega)).1
                have h6 : ¬ nI (q_kl (g 10 0) (nI c) n 0).length = 6 := by
                  rw [show (6 : Int32) = nI 6 from rfl, nI_eq (by omega) (by omega)]
                  exact hl
                simp [f_X5_hang, q_isIn, h2, h4', q_bd2, q_fail, hx, q_ic1 hm2 h16 hc, q_X5hs hm2 h16, e30, h6, k_up_at, hmg, e16, q_ib (show n < 16 by omega), q_gt, q_c31 (show n < 16 by omega), nI_1, q_m1]
              · simp [k_up_at]
              · simp only [k_up_at]
        · have h4' : (4 : Int32) < x2 := Int32.not_le.mp h4
          refine q_bad (k := 2) (kw := 2) h' (by decide) (r := 0) (b := 0) ?_ ?_ (by simp)
          · simp [f_X4_hang, h2, h4, hx, q_cc1 hn h16 hc, q_bd2]
          · simp [f_X5_hang, q_isIn, h4', q_bd2, q_fail, hx, q_ic1 hm h16 hc]
    · refine q_bad (k := 1) (kw := 1) h' (by decide) (r := 0) (b := 0) ?_ ?_ (by simp)
      · simp [f_X4_hang, hx, q_cc0 hn hb, q_bd2]
      · simp [f_X5_hang, hx, q_ic0 hm h16 hb, q_bd2, q_fail]
def q_z4 (g : Gt) (t i o : Nat) (f : Nat → Int32) : Gt := fun a b c => if a = t ∧ b = i ∧ o ≤ c ∧ c < o + 4 then f (c - o) else g a b c
theorem q_z4_ne {g : Gt} {t i o a b c : Nat} {f : Nat → Int32} (h : ¬ (a = t ∧ b = i)) : q_z4 g t i o f a b c = g a b c := by
  unfold q_z4
  rw [if_neg (fun q => h ⟨q.1, q.2.1⟩)]
theorem q_upz {g : Gt} {t i o : Nat} {a b c d : Int32} {f : Nat → Int32} (h0 : f 0 = a) (h1 : f 1 = b) (h2 : f 2 = c) (h3 : f 3 = d) : k_up (k_up (k_up (k_up g t i o a) t i (o + 1) b) t i (o + 2) c) t i (o + 3) d = q_z4 g t i o f := by
  funext x y z
  simp only [k_up_at, q_z4]
  by_cases h : x = t ∧ y = i
  · obtain ⟨rfl, rfl⟩ := h
    simp only [true_and]
    by_cases e3 : z = o + 3
    · subst e3; rw [if_pos rfl, if_pos (by omega), show o + 3 - o = 3 from by omega, h3]
    · rw [if_neg e3]
      by_cases e2 : z = o + 2
      · subst e2; rw [if_pos rfl, if_pos (by omega), show o + 2 - o = 2 from by omega, h2]
      · rw [if_neg e2]
        by_cases e1 : z = o + 1
        · subst e1; rw [if_pos rfl, if_pos (by omega), show o + 1 - o = 1 from by omega, h1]
        · rw [if_neg e1]
          by_cases e0 : z = o
          · subst e0; rw [if_pos rfl, if_pos (by omega), show z - z = 0 from by omega, h0]
          · rw [if_neg e0, if_neg (by omega)]
  · rw [if_neg (fun q => h ⟨q.1, q.2.1⟩), if_neg (fun q => h ⟨q.1, q.2.1⟩), if_neg (fun q => h ⟨q.1, q.2.1⟩), if_neg (fun q => h ⟨q.1, q.2.1⟩), if_neg (fun q => h ⟨q.1, q.2.1⟩)]
theorem q_X1clr {i c : Nat} {g : Gt} (hc : c < 16) : f_X1_clearFrays i (nI c) g = some (q_z4 g 21 (16 * i + c) 0 (fun _ => 0)) := by
  rw [f_X1_clearFrays, q_N]
  simp [f_X1_clearFrays_2, q_ib hc, q_c31 hc, q_l0, q_l1, q_l2, q_l3, q_gt, q_bd2]
  exact q_upz (o := 0) rfl rfl rfl rfl
def q_dd (v p : Nat) : Int32 := nI (v / 10 ^ (3 - p) % 10)
theorem q_X1tie {i c v : Nat} {g : Gt} (hc : c < 16) (hv : v ≤ 9999) : f_X1_tieAll i (nI c) (nI v) g = some (q_z4 (q_z4 g 20 (16 * i + c) 0 (q_dd v)) 21 (16 * i + c) 0 (fun _ => 0)) := by
  have e10 : (10 : Int32) = nI 10 := rfl
  have d1 : nI v / 10 = nI (v / 10) := by rw [e10, pk_div (by omega) (by omega) (by omega)]
  have d2 : nI (v / 10) / 10 = nI (v / 100) := by rw [e10, pk_div (by omega) (by omega) (by omega), Nat.div_div_eq_div_mul]
  have d3 : nI (v / 100) / 10 = nI (v / 1000) := by rw [e10, pk_div (by omega) (by omega) (by omega), Nat.div_div_eq_div_mul]
  have r0 : nI v - nI (v / 10) * 10 = nI (v % 10) := by rw [← d1, e10, pk_rem (by omega) (by omega) (by omega)]
  have r1 : nI (v / 10) - nI (v / 100) * 10 = nI (v / 10 % 10) := by rw [← d2, e10, pk_rem (by omega) (by omega) (by omega)]
  have r2 : nI (v / 100) - nI (v / 1000) * 10 = nI (v / 100 % 10) := by rw [← d3, e10, pk_rem (by omega) (by omega) (by omega)]
  have r3 : nI (v / 1000) - nI (v / 1000) / 10 * 10 = nI (v / 1000 % 10) := by rw [e10, pk_rem (by omega) (by omega) (by omega)]
  rw [f_X1_tieAll, q_N]
  simp [f_X1_tieAll_5, q_ib hc, q_c31 hc, q_l0, q_l1, q_l2, q_l3, q_gt, q_bd3, d1, d2, d3, r0, r1, r2, r3, q_X1clr hc, q_bd1]
  congr 1
  funext x y z
  simp only [k_up_at, q_z4]
  by_cases h : x = 20 ∧ y = 16 * i + c
  · obtain ⟨rfl, rfl⟩ := h
    simp only [true_and]
    rcases (show z = 0 ∨ z = 1 ∨ z = 2 ∨ z = 3 ∨ 4 ≤ z by omega) with rfl | rfl | rfl | rfl | h
    · rfl
    · rfl
    · rfl
    · show nI (v % 10) = q_dd v 3
      unfold q_dd
      simp
    · rw [if_neg (by omega), if_neg (by omega), if_neg (by omega), if_neg (by omega), if_neg (by omega)]
  · rw [if_neg (fun q => h ⟨q.1, q.2.1⟩), if_neg (fun q => h ⟨q.1, q.2.1⟩), if_neg (fun q => h ⟨q.1, q.2.1⟩), if_neg (fun q => h ⟨q.1, q.2.1⟩), if_neg (fun q => h ⟨q.1, q.2.1⟩)]
theorem q_X5men {c : Nat} {v : Int32} {g : Gt} (hc : c < 16) : ∃ w, f_X5_mend_27 v (nI c) k_N 0 g = some (w, q_z4 g 33 0 (4 * c) (fun _ => 0)) := by
  refine ⟨4, ?_⟩
  rw [q_N]
  simp [f_X5_mend_27, q_p1, q_p2, q_p3]
  simp only [q_p0]
  simp only [q_i4 hc (show 0 < 4 by omega), q_i4 hc (show 1 < 4 by omega), q_i4 hc (show 2 < 4 by omega), q_i4 hc (show 3 < 4 by omega), q_c4 hc (show 0 < 4 by omega), q_c4 hc (show 1 < 4 by omega), q_c4 hc (show 2 < 4 by omega), q_c4 hc (show 3 < 4 by omega), q_gt]
  exact congrArg (fun q => some ((4 : Int32), q)) (q_upz (g := g) (t := 33) (i := 0) (o := 4 * c) (f := fun _ => 0) rfl rfl rfl rfl)
theorem q_X5ti {c v : Nat} {w : Int32} {g : Gt} (hc : c < 16) (hv : v ≤ 9999) : ∃ w', f_X5_tie_45 w (nI c) (nI v) k_N 0 g = some (w', q_z4 (q_z4 g 32 0 (4 * c) (q_dd v)) 33 0 (4 * c) (fun _ => 0)) := by
  have e10 : (10 : Int32) = nI 10 := rfl
  have d0 : nI v / 1000 = nI (v / 1000) := by rw [show (1000 : Int32) = nI 1000 from rfl, pk_div (by omega) (by omega) (by omega)]
  have d1 : nI v / 100 = nI (v / 100) := by rw [show (100 : Int32) = nI 100 from rfl, pk_div (by omega) (by omega) (by omega)]
  have d2 : nI v / 10 = nI (v / 10) := by rw [e10, pk_div (by omega) (by omega) (by omega)]
  have d3 : nI v / 1 = nI v := by rw [show (1 : Int32) = nI 1 from rfl, pk_div (by omega) (by omega) (by omega), Nat.div_one]
  have r0 : nI (v / 1000) - nI (v / 1000) / 10 * 10 = q_dd v 0 := by rw [e10, pk_rem (by omega) (by omega) (by omega)]; rfl
  have r1 : nI (v / 100) - nI (v / 100) / 10 * 10 = q_dd v 1 := by rw [e10, pk_rem (by omega) (by omega) (by omega)]; rfl
  have r2 : nI (v / 10) - nI (v / 10) / 10 * 10 = q_dd v 2 := by rw [e10, pk_rem (by omega) (by omega) (by omega)]; rfl
  have r3 : nI v - nI v / 10 * 10 = q_dd v 3 := by rw [e10, pk_rem (by omega) (by omega) (by omega), q_dd]; simp
  have r3' : nI v - nI (v / 10) * 10 = q_dd v 3 := by rw [← d2]; exact r3
  have i0 : k_ib (nI (4 * c)) 64 = true := q_i4 hc (p := 0) (by omega)
  have c0 : (nI (4 * c)).toNatClampNeg = 4 * c := q_c4 hc (p := 0) (by omega)
  have t0 : k_te 0 = 1000 := rfl
  have t1 : k_te 1 = 100 := rfl
  have t2 : k_te 2 = 10 := rfl
  have t3 : k_te 3 = 1 := rfl
  refine ⟨4, ?_⟩
  rw [q_N]
  simp [f_X5_tie_45, q_p1, q_p2, q_p3]
  simp only [q_p0]
  simp [q_i4 hc (show 0 < 4 by omega), q_i4 hc (show 1 < 4 by omega), q_i4 hc (show 2 < 4 by omega), q_i4 hc (show 3 < 4 by omega), q_c4 hc (show 0 < 4 by omega), q_c4 hc (show 1 < 4 by omega), q_c4 hc (show 2 < 4 by omega), q_c4 hc (show 3 < 4 by omega), q_l0, q_l1, q_l2, q_l3, q_gt, t0, t1, t2, t3, d0, d1, d2, d3, r0, r1, r2, r3, r3', i0, c0]
  funext x y z
  simp only [k_up_at, q_z4]
  by_cases hy : y = 0
  · subst hy
    rcases (show z < 4 * c ∨ z = 4 * c ∨ z = 4 * c + 1 ∨ z = 4 * c + 2 ∨ z = 4 * c + 3 ∨ 4 * c + 4 ≤ z by omega) with hz | rfl | rfl | rfl | rfl | hz
    · simp [show ¬ z = 4 * c by omega, show ¬ z = 4 * c + 1 by omega, show ¬ z = 4 * c + 2 by omega, show ¬ z = 4 * c + 3 by omega, show ¬ 4 * c ≤ z by omega]
    · simp
    · simp
    · simp
    · simp
    · simp [show ¬ z = 4 * c by omega, show ¬ z = 4 * c + 1 by omega, show ¬ z = 4 * c + 2 by omega, show ¬ z = 4 * c + 3 by omega, show ¬ z < 4 * c + 4 by omega]
  · simp [hy]
theorem q_dg_c {f f' : Nat → Int32} (h : ∀ p, p < 4 → f p = f' p) : q_dg f = q_dg f' := by
  unfold q_dg
  rw [h 0 (by omega), h 1 (by omega), h 2 (by omega), h 3 (by omega)]
theorem q_af_c {f f' : Nat → Int32} (h : ∀ p, p < 4 → f p = f' p) : q_af f = q_af f' := by
  unfold q_af
  rw [h 0 (by omega), h 1 (by omega), h 2 (by omega), h 3 (by omega)]
theorem q_16 (c : Nat) : 16 * 0 + c = c := by omega
theorem q_z4_in {g : Gt} {t i o p : Nat} {f : Nat → Int32} (hp : p < 4) : q_z4 g t i o f t i (o + p) = f p := by
  unfold q_z4
  rw [if_pos ⟨rfl, rfl, by omega, by omega⟩, show o + p - o = p from by omega]
theorem q_z4_in0 {g : Gt} {t i p : Nat} {f : Nat → Int32} (hp : p < 4) : q_z4 g t i 0 f t i p = f p := by
  have := q_z4_in (g := g) (t := t) (i := i) (o := 0) (f := f) hp
  rwa [Nat.zero_add] at this
theorem q_z4_o {g : Gt} {t i o c : Nat} {f : Nat → Int32} (h : c < o ∨ o + 4 ≤ c) : q_z4 g t i o f t i c = g t i c := by
  unfold q_z4
  rw [if_neg (by omega)]
/-- four knots and four frays of a cord anew, in both -/
theorem q_tie_R {n nw nu y c : Nat} {f f' : Nat → Int32} {g g2 : Gt} (hR : q_R n nw nu y g) (hc : c < 16) (hf : ∀ p, p < 4 → ∃ k, k ≤ 9 ∧ f p = nI k) (hf' : ∀ p, p < 4 → ∃ k, k ≤ 9 ∧ f' p = nI k)
    (e : g2 = q_z4 (q_z4 (k_up (q_z4 (q_z4 g 20 c 0 f) 21 c 0 f') 5 0 0 0) 32 0 (4 * c) f) 33 0 (4 * c) f') : q_R n nw nu y g2 := by
  have e' : ∀ t i j, ¬ t = 20 → ¬ t = 21 → ¬ t = 32 → ¬ t = 33 → (t = 5 → ¬ j = 0) → g2 t i j = g t i j := fun t i j a1 a2 a3 a4 a5 => by
    rw [e, q_z4_ne (by omega), q_z4_ne (by omega), k_up_at, if_neg (by omega), q_z4_ne (by omega), q_z4_ne (by omega)]
  have e20 : ∀ c' p, g2 20 c' p = if c' = c ∧ p < 4 then f p else g 20 c' p := fun c' p => by
    rw [e, q_z4_ne (by omega), q_z4_ne (by omega), k_up_at, if_neg (by omega), q_z4_ne (by omega)]
    by_cases h : c' = c ∧ p < 4
    · rw [if_pos h, h.1, q_z4_in0 h.2]
    · rw [if_neg h]
      unfold q_z4
      rw [if_neg (by omega)]
  have e21 : ∀ c' p, g2 21 c' p = if c' = c ∧ p < 4 then f' p else g 21 c' p := fun c' p => by
    rw [e, q_z4_ne (by omega), q_z4_ne (by omega), k_up_at, if_neg (by omega)]
    by_cases h : c' = c ∧ p < 4
    · rw [if_pos h, h.1, q_z4_in0 h.2]
    · rw [if_neg h, ← q_z4_ne (g := g) (t := 20) (i := c) (o := 0) (f := f) (a := 21) (b := c') (c := p) (by omega)]
      unfold q_z4
      rw [if_neg (by omega)]
  have e32 : ∀ c' p, p < 4 → g2 32 0 (4 * c' + p) = if c' = c then f p else g 32 0 (4 * c' + p) := fun c' p hp => by
    rw [e, q_z4_ne (by omega)]
    by_cases h : c' = c
    · rw [if_pos h, h, q_z4_in hp]
    · rw [if_neg h, q_z4_o (by omega), k_up_at, if_neg (by omega), q_z4_ne (by omega), q_z4_ne (by omega)]
  have e33 : ∀ c' p, p < 4 → g2 33 0 (4 * c' + p) = if c' = c then f' p else g 33 0 (4 * c' + p) := fun c' p hp => by
    rw [e]
    by_cases h : c' = c
    · rw [if_pos h, h, q_z4_in hp]
    · rw [if_neg h, q_z4_o (by omega), q_z4_ne (by omega), k_up_at, if_neg (by omega), q_z4_ne (by omega), q_z4_ne (by omega)]
  obtain ⟨h1, h2, h3, h4, h5, h6, h7⟩ := hR
  refine ⟨h1.of fun t i j ht => e' t i j (by omega) (by omega) (by omega) (by omega) (by omega), h2.of fun t i j ht => e' t i j (by omega) (by omega) (by omega) (by omega) (by omega), fun c' p hc' hp => ?_, h4.of fun t i j ht => e' t i j (by omega) (by omega) (by omega) (by omega) (by omega), h5.of fun t i j ht => e' t i j (by omega) (by omega) (by omega) (by omega) (by omega), h6.of fun t i j ht => e' t i j (by omega) (by omega) (by omega) (by omega) (by omega), h7.of fun t i j ht => e' t i j (by omega) (by omega) (by omega) (by omega) (by omega)⟩
  rw [e20, e21, e32 c' p hp, e33 c' p hp]
  by_cases h : c' = c
  · rw [if_pos ⟨h, hp⟩, if_pos ⟨h, hp⟩, if_pos h, if_pos h]
    exact ⟨hf p hp, hf' p hp, rfl, rfl⟩
  · rw [if_neg (by omega), if_neg (by omega), if_neg h, if_neg h]
    exact h3 c' p hc' hp
theorem q_s_tie {Y : Nat} {g : Gt} (h : q_Rel Y g) (x1 x2 : Int32) : Sim q_Rel Y (fun k kw => (k = 0 ∧ kw = 0) ∨ (k = 1 ∧ kw = 1) ∨ (k = 2 ∧ kw = 2)) (f_X4_tie x1 x2 g) (f_X5_tie x1 x2) := by
  have h' := h
  obtain ⟨n, nw, nu, y, hy, hR⟩ := h
  have hR0 := hR.of (q_E.th g 0)
  have hn := hR.1.2.2.2.1
  have hm := hR0.1.2.2.2.2.2.2.2.1
  have hmg := hR.1.2.2.2.2.2.2.2.1
  have h16 := hR.1.1
  rcases q_in x1 n (by omega) with ⟨c, hc, rfl⟩ | hb
  · by_cases h2 : x2 < 0
    · refine q_bad (k := 2) (kw := 2) h' (by decide) (r := 0) (b := 0) ?_ ?_ (by simp)
      · simp [f_X4_tie, h2, q_cc1 hn h16 hc, q_bd2]
      · simp [f_X5_tie, q_isIn, h2, q_bd2, q_fail, q_ic1 hm h16 hc]
    · by_cases h4 : x2 ≤ 9999
      · obtain ⟨v, hv, rfl⟩ := q_5_of 9999 (by omega) h2 h4
        have h4' : ¬ (9999 : Int32) < nI v := by rw [Int32.not_lt]; exact h4
        have hc16 : c < 16 := by omega
        have hm2 : k_up (q_z4 (q_z4 g 20 c 0 (q_dd v)) 21 c 0 (fun _ => 0)) 5 0 0 0 5 0 1 = nI n := by
          rw [k_up_at, if_neg (by omega), q_z4_ne (by omega), q_z4_ne (by omega)]
          exact hmg
        have hdg : q_dg (fun p => k_up (q_z4 (q_z4 g 20 c 0 (q_dd v)) 21 c 0 (fun _ => 0)) 5 0 0 0 32 0 (4 * c + p)) = q_dg (g 20 c) := q_dg_c fun p hp => by
          rw [k_up_at, if_neg (by omega), q_z4_ne (by omega), q_z4_ne (by omega)]
          exact (hR.2.2.1 c p hc16 hp).2.2.1
        obtain ⟨w, hw⟩ := q_X5ti (c := c) (v := v) (w := q_dg (g 20 c)) (g := k_up (q_z4 (q_z4 g 20 c 0 (q_dd v)) 21 c 0 (fun _ => 0)) 5 0 0 0) hc16 hv
        refine ⟨0, q_dg (g 20 c), q_z4 (q_z4 g 20 c 0 (q_dd v)) 21 c 0 (fun _ => 0), q_dg (g 20 c), q_z4 (q_z4 (k_up (q_z4 (q_z4 g 20 c 0 (q_dd v)) 21 c 0 (fun _ => 0)) 5 0 0 0) 32 0 (4 * c) (q_dd v)) 33 0 (4 * c) (fun _ => 0), 0, ?_, ?_, Or.inl ⟨rfl, rfl⟩, ?_, fun _ => rfl, n, nw, nu, y, by omega, q_tie_R (f := q_dd v) (f' := fun _ => 0) hR hc16 (fun p hp => ⟨_, by omega, rfl⟩) (fun p hp => ⟨0, by omega, rfl⟩) rfl⟩
        · simp [f_X4_tie, h2, h4, q_cc1 hn h16 hc, q_bd2, q_X1dg hc16, q_X1tie hc16 hv, q_bd1]
        · simp [f_X5_tie, q_isIn, h2, h4', q_bd2, q_ic1 hm2 h16 hc, q_X5dg hc16, hdg, hw]
        · rw [q_z4_ne (by omega), q_z4_ne (by omega), k_up_at, if_pos ⟨rfl, rfl, rfl⟩]
      · have h4' : (9999 : Int32) < x2 := Int32.not_le.mp h4
        refine q_bad (k := 2) (kw := 2) h' (by decide) (r := 0) (b := 0) ?_ ?_ (by simp)
        · simp [f_X4_tie, h2, h4, q_cc1 hn h16 hc, q_bd2]
        · simp [f_X5_tie, q_isIn, h4', q_bd2, q_fail, q_ic1 hm h16 hc]
  · refine q_bad (k := 1) (kw := 1) h' (by decide) (r := 0) (b := 0) ?_ ?_ (by simp)
    · simp [f_X4_tie, q_cc0 hn hb, q_bd2]
    · simp [f_X5_tie, q_ic0 hm h16 hb, q_bd2, q_fail]
theorem q_s_mend {Y : Nat} {g : Gt} (h : q_Rel Y g) (x1 : Int32) : Sim q_Rel Y (fun k kw => (k = 0 ∧ kw = 0) ∨ (k = 1 ∧ kw = 1)) (f_X4_mend x1 g) (f_X5_mend x1) := by
  have h' := h
  obtain ⟨n, nw, nu, y, hy, hR⟩ := h
  have hR0 := hR.of (q_E.th g 0)
  have hn := hR.1.2.2.2.1
  have hm := hR0.1.2.2.2.2.2.2.2.1
  have hmg := hR.1.2.2.2.2.2.2.2.1
  have h16 := hR.1.1
  rcases q_in x1 n (by omega) with ⟨c, hc, rfl⟩ | hb
  · have hc16 : c < 16 := by omega
    have hm2 : k_up (q_z4 g 21 c 0 (fun _ => 0)) 5 0 0 0 5 0 1 = nI n := by
      rw [k_up_at, if_neg (by omega), q_z4_ne (by omega)]
      exact hmg
    have haf : q_af (fun p => k_up (q_z4 g 21 c 0 (fun _ => 0)) 5 0 0 0 33 0 (4 * c + p)) = q_af (g 21 c) := q_af_c fun p hp => by
      rw [k_up_at, if_neg (by omega), q_z4_ne (by omega)]
      exact (hR.2.2.1 c p hc16 hp).2.2.2
    obtain ⟨w, hw⟩ := q_X5men (c := c) (v := q_af (g 21 c)) (g := k_up (q_z4 g 21 c 0 (fun _ => 0)) 5 0 0 0) hc16
    have hE : q_z4 (k_up (q_z4 g 21 c 0 (fun _ => 0)) 5 0 0 0) 33 0 (4 * c) (fun _ => 0) = q_z4 (q_z4 (k_up (q_z4 (q_z4 g 20 c 0 (g 20 c)) 21 c 0 (fun _ => 0)) 5 0 0 0) 32 0 (4 * c) (g 20 c)) 33 0 (4 * c) (fun _ => 0) := by
      funext t i j
      by_cases h33 : t = 33 ∧ i = 0 ∧ 4 * c ≤ j ∧ j < 4 * c + 4
      · unfold q_z4
        rw [if_pos h33, if_pos h33]
      · rw [q_z4, if_neg h33]
        conv => rhs; rw [q_z4, if_neg h33]
        by_cases h32 : t = 32 ∧ i = 0 ∧ 4 * c ≤ j ∧ j < 4 * c + 4
        · obtain ⟨rfl, rfl, a1, a2⟩ := h32
          obtain ⟨p, hp, rfl⟩ : ∃ p, p < 4 ∧ j = 4 * c + p := ⟨j - 4 * c, by omega, by omega⟩
          rw [q_z4_in hp, k_up_at, if_neg (by omega), q_z4_ne (by omega)]
          exact (hR.2.2.1 c p hc16 hp).2.2.1
        · conv => rhs; rw [q_z4, if_neg h32]
          rw [k_up_at, k_up_at]
          by_cases h5 : t = 5 ∧ i = 0 ∧ j = 0
          · rw [if_pos h5, if_pos h5]
          · rw [if_neg h5, if_neg h5]
            by_cases h21 : t = 21 ∧ i = c ∧ 0 ≤ j ∧ j < 0 + 4
            · unfold q_z4
              rw [if_pos h21, if_pos h21]
            · rw [q_z4, if_neg h21]
              conv => rhs; rw [q_z4, if_neg h21]
              by_cases h20 : t = 20 ∧ i = c ∧ 0 ≤ j ∧ j < 0 + 4
              · obtain ⟨rfl, rfl, a1, a2⟩ := h20
                rw [q_z4_in0 (by omega)]
              · rw [q_z4, if_neg h20]
    refine ⟨0, q_af (g 21 c), q_z4 g 21 c 0 (fun _ => 0), q_af (g 21 c), q_z4 (k_up (q_z4 g 21 c 0 (fun _ => 0)) 5 0 0 0) 33 0 (4 * c) (fun _ => 0), 0, ?_, ?_, Or.inl ⟨rfl, rfl⟩, ?_, fun _ => rfl, n, nw, nu, y, by omega, q_tie_R (f := g 20 c) (f' := fun _ => 0) hR hc16 (fun p hp => (hR.2.2.1 c p hc16 hp).1) (fun p hp => ⟨0, by omega, rfl⟩) hE⟩
    · simp [f_X4_mend, q_cc1 hn h16 hc, q_bd2, q_X1af hc16, q_X1clr hc16, q_bd1]
    · simp [f_X5_mend, q_bd2, q_ic1 hm2 h16 hc, q_X5af hc16, haf, hw]
    · rw [q_z4_ne (by omega), k_up_at, if_pos ⟨rfl, rfl, rfl⟩]
  · refine q_bad (k := 1) (kw := 1) h' (by decide) (r := 0) (b := 0) ?_ ?_ (by simp)
    · simp [f_X4_mend, q_cc0 hn hb, q_bd2]
    · simp [f_X5_mend, q_ic0 hm h16 hb, q_bd2, q_fail]
