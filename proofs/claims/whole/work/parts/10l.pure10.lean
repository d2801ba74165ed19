/-! fades and weighs -/
theorem q_cpl : ∀ (m c N : Nat) (g : Gt), c + m = 16 → m < N → ∃ w g', f_X1_copyFrom_2 1 0 N (nI c) g = some (w, g') ∧ (∀ t j q, g' t j q = if (t = 20 ∨ t = 21) ∧ 16 + c ≤ j ∧ j < 32 ∧ q < 4 then g t (j - 16) q else g t j q)
  | 0, c, N + 1, g, hc, hN => ⟨nI c, g, by rw [f_X1_copyFrom_2, show (16 : Int32) = nI 16 from rfl, if_pos ((nI_leI (by omega) (by omega)).mpr (by omega))], fun t j q => by rw [if_neg (by omega)]⟩
  | m + 1, c, N + 1, g, hc, hN => by
    have hc16 : c < 16 := by omega
    rw [f_X1_copyFrom_2, show (16 : Int32) = nI 16 from rfl, if_neg (by rw [nI_leI (by omega) (by omega)]; omega), q_ib hc16 (by omega), q_gt, q_gt, q_gt, q_gt, q_c31 hc16 (by omega), nI_1]
    generalize hG : k_row (k_row g 20 (16 * 1 + c) (va_cpy (g 20 (16 * 0 + c)) (g 20 (16 * 1 + c)) 0 0 4)) 21 (16 * 1 + c) (va_cpy ((k_row g 20 (16 * 1 + c) (va_cpy (g 20 (16 * 0 + c)) (g 20 (16 * 1 + c)) 0 0 4)) 21 (16 * 0 + c)) ((k_row g 20 (16 * 1 + c) (va_cpy (g 20 (16 * 0 + c)) (g 20 (16 * 1 + c)) 0 0 4)) 21 (16 * 1 + c)) 0 0 4) = G
    have hGat : ∀ t j q, G t j q = if (t = 20 ∨ t = 21) ∧ j = 16 + c ∧ q < 4 then g t (j - 16) q else g t j q := fun t j q => by
      rw [← hG]
      by_cases h21 : t = 21 ∧ j = 16 * 1 + c
      · obtain ⟨rfl, rfl⟩ := h21
        rw [k_row_same, va_cpy, k_row_ne (by omega), k_row_ne (by omega)]
        by_cases hq : q < 4
        · rw [if_pos (by omega), if_pos (by omega), show 0 + (q - 0) = q from by omega, show 16 * 0 + c = 16 * 1 + c - 16 from by omega]
        · rw [if_neg (by omega), if_neg (by omega)]
      · rw [k_row_ne h21]
        by_cases h20 : t = 20 ∧ j = 16 * 1 + c
        · obtain ⟨rfl, rfl⟩ := h20
          rw [k_row_same, va_cpy]
          by_cases hq : q < 4
          · rw [if_pos (by omega), if_pos (by omega), show 0 + (q - 0) = q from by omega, show 16 * 0 + c = 16 * 1 + c - 16 from by omega]
          · rw [if_neg (by omega), if_neg (by omega)]
        · rw [k_row_ne h20, if_neg (by omega)]
    obtain ⟨w, g', e1, e2⟩ := q_cpl m (c + 1) N G (by omega) (by omega)
    refine ⟨w, g', e1, fun t j q => ?_⟩
    rw [e2]
    by_cases h : (t = 20 ∨ t = 21) ∧ 16 + c ≤ j ∧ j < 32 ∧ q < 4
    · rw [if_pos h]
      by_cases hj : j = 16 + c
      · rw [if_neg (by omega), hGat, if_pos ⟨h.1, hj, h.2.2.2⟩]
      · rw [if_pos (by omega), hGat, if_neg (by omega)]
    · rw [if_neg h, if_neg (by omega), hGat, if_neg (by omega)]
theorem q_cpy (g : Gt) : ∃ g', f_X1_copyFrom 1 0 g = some g' ∧ (∀ t j q, g' t j q = if (t = 20 ∨ t = 21) ∧ 16 ≤ j ∧ j < 32 ∧ q < 4 then g t (j - 16) q else g t j q) := by
  obtain ⟨w, g', e1, e2⟩ := q_cpl 16 0 k_N g (by omega) (by decide)
  exact ⟨g', by rw [f_X1_copyFrom, q_0, e1, q_bd2], e2⟩
theorem q_s_fades {Y : Nat} {g : Gt} (h : q_Rel Y g) (x1 x2 : Int32) : Sim q_Rel Y (fun k kw => (k = 0 ∧ kw = 0) ∨ (k = 1 ∧ kw = 1) ∨ (k = 2 ∧ kw = 2)) (f_X4_fades x1 x2 g) (f_X5_fades x1 x2) := by
  have h' := h
  have hN' : k_N = 200 := rfl
  obtain ⟨n, nw, nu, y, hy, hR⟩ := h
  have hR0 := hR.of (q_E.th g 0)
  have hn := hR.1.2.2.2.1
  have hm := hR0.1.2.2.2.2.2.2.2.1
  have h16 := hR.1.1
  rcases q_in x1 n (by omega) with ⟨c, hc, rfl⟩ | hb
  · by_cases hlo : x2 < 1
    · have i1 : ∀ g, f_X5_isIn x2 1 50 g = some (0, g) := fun g => by rw [q_isIn, if_pos (Or.inl hlo)]
      refine q_bad (k := 2) (kw := 2) h' (by decide) (r := 0) (b := 0) ?_ ?_ (by simp)
      · simp [f_X4_fades, q_cc1 hn h16 hc, f_X4_checkYears, hlo, q_bd2]
      · simp [f_X5_fades, q_ic1 hm h16 hc, i1, q_bd2, q_fail]
    by_cases hhi : x2 ≤ 50
    · have hc16 : c < 16 := by omega
      have hx0 : ¬ x2 < 0 := by
        rw [q_ltl] at hlo ⊢
        rw [show (1 : Int32).toInt = 1 from by decide] at hlo
        rw [show (0 : Int32).toInt = 0 from by decide]
        omega
      obtain ⟨Z, hZ, rfl⟩ := q_5_of 50 (by omega) hx0 hhi
      have i1 : ∀ g, f_X5_isIn (nI Z) 1 50 g = some (1, g) := fun g => by rw [q_isIn, if_neg (fun q => q.elim hlo (fun q => absurd hhi (Int32.not_le.mpr q)))]
      obtain ⟨K, B, hK, hM⟩ := hR.2.2.1.H
      obtain ⟨ga, ca, ea⟩ := q_cpy g
      have ga0 : ∀ t j q, ¬ ((t = 20 ∨ t = 21) ∧ 16 ≤ j) → ga t j q = g t j q := fun t j q hh => by rw [ea, if_neg (by omega)]
      have ga1 : ∀ t j, ¬ (t = 20 ∨ t = 21) → ga t j = g t j := fun t j hh => by funext q; exact ga0 t j q (by omega)
      have hH1 : q_H 1 ga K B := fun c p hc hp => by
        rw [ea, if_pos (by omega), ea, if_pos (by omega), show 16 * 1 + c - 16 = 16 * 0 + c from by omega]
        exact hK c p hc hp
      have hna : ga 1 0 4 = nI n := by rw [ga1 1 0 (by omega)]; exact hn
      obtain ⟨L0, w0, w0', K0, B0, gb, gm0, c1, _, c3, _, c5, _, _, _, _⟩ := q_yrs (i := 1) (Z := Z) (st := g 11 0) (by omega) h16 hZ Z 0 k_N k_N 0 K B ga g (by omega) (by omega) (by omega) hna (ga1 11 0 (by omega)) hH1 hR.1.2.2.2.2.2.2.2.1 (fun c hc => (hR.2.1.2.2.2 c hc).2) hM
      have hnb : gb 1 0 4 = nI n := by rw [c5 1 0 (by omega)]; exact hna
      obtain ⟨gc, t1, t2, t3⟩ := q_X0tell (i := 1) hnb h16 (by omega)
      have hgc : ∀ t j q, ¬ (t = 12 ∨ t = 13) → ¬ ((t = 20 ∨ t = 21) ∧ 16 ≤ j) → gc t j q = g t j q := fun t j q a1 a2 => by
        rw [t2 t j (by omega) (by omega), c5 t j (by omega), ga0 t j q a2]
      have hE1 : q_E g gc := fun t i j hs => by
        unfold q_sc at hs
        exact hgc t i j (by omega) (by omega)
      have hg1 : ∀ t j q, ¬ (t = 12 ∨ t = 13) → ¬ ((t = 20 ∨ t = 21) ∧ 16 ≤ j) → (t = 5 → q ≠ 0) → k_up gc 5 0 0 0 t j q = g t j q := fun t j q a1 a2 a3 => by
        rw [k_up_at, if_neg (by omega), hgc t j q a1 a2]
      obtain ⟨L, w, w', K', B', gb', g2, d1, d2, d3, d4, d5, d6, d7, d8, d9⟩ := q_yrs (i := 1) (Z := Z) (st := g 11 0) (by omega) h16 hZ Z 0 k_N k_N 0 K B ga (k_up gc 5 0 0 0) (by omega) (by omega) (by omega) hna (ga1 11 0 (by omega)) hH1 (by rw [hg1 5 0 1 (by omega) (by omega) (by omega)]; exact hR.1.2.2.2.2.2.2.2.1) (fun c hc => by rw [hg1 31 0 c (by omega) (by omega) (by omega)]; exact (hR.2.1.2.2.2 c hc).2) (fun c p hc hp => by rw [hg1 32 0 _ (by omega) (by omega) (by omega), hg1 33 0 _ (by omega) (by omega) (by omega)]; exact hM c p hc hp)
      have hLL : (0 + L0, w0, gb) = (0 + L, w, gb') := Option.some.inj (c1.symm.trans d1)
      have hgd : gb = gb' := congrArg (fun q => q.2.2) hLL
      subst hgd
      obtain ⟨w9, hw9⟩ := d9 (nI c)
      have hb10 : gb 10 0 = g 10 0 := by rw [c5 10 0 (by omega), ga1 10 0 (by omega)]
      have hb11 : gb 11 0 = g 11 0 := by rw [c5 11 0 (by omega), ga1 11 0 (by omega)]
      rw [hb10, hb11] at t3
      have hg2 : ∀ t q j, ¬ (t = 12 ∨ t = 13) → ¬ ((t = 20 ∨ t = 21) ∧ 16 ≤ q) → (t = 5 → j ≠ 0) → ¬ (t = 32 ∨ t = 33 ∨ t = 38) → g2 t q j = g t q j := fun t q j a1 a2 a3 a4 => by
        rw [d6 t q a4, hg1 t q j a1 a2 a3]
      obtain ⟨g3, u1, u2, u3⟩ := q_told (x := 3) (c := c) (g := g2) (fr := g 10 0) (st := g 11 0) (d := fun c => q_dg (gb 20 (16 * 1 + c))) (sy := gc 12 0) (kt := gc 13 0) (af := fun c => q_af (fun p => g2 33 0 (4 * c + p))) h16
        (by rw [hg2 5 0 1 (by omega) (by omega) (by omega) (by omega)]; exact hR.1.2.2.2.2.2.2.2.1) hR.2.1.1 (fun c hc => by rw [hg2 30 0 c (by omega) (by omega) (by omega) (by omega)]; exact (hR.2.1.2.2.2 c hc).1) (fun c hc => by rw [hg2 31 0 c (by omega) (by omega) (by omega) (by omega)]; exact (hR.2.1.2.2.2 c hc).2) (fun c hc => q_dg_c fun p hp => by rw [(d4 c p (by omega) hp).1, (d3 c p (by omega) hp).1]) t3 hc rfl
      have hv : q_cv n (g 10 0) (g 11 0) (fun c => q_dg (gb 20 (16 * 1 + c))) (gc 12 0) (gc 13 0) (fun c => q_af (fun p => g2 33 0 (4 * c + p))) c 3 = gc 12 0 c := rfl
      rw [hv] at u1
      have m5 : k_up gc 5 0 0 0 5 0 1 = nI n := by rw [hg1 5 0 1 (by omega) (by omega) (by omega)]; exact hR.1.2.2.2.2.2.2.2.1
      generalize hGG : k_up gc 5 0 0 0 = G at *
      generalize hFF : k_row (k_row (k_row g3 32 0 (va_cpy (G 32 0) (g3 32 0) 0 0 64)) 33 0 (va_cpy (G 33 0) ((k_row g3 32 0 (va_cpy (G 32 0) (g3 32 0) 0 0 64)) 33 0) 0 0 64)) 38 0 (va_cpy (G 38 0) ((k_row (k_row g3 32 0 (va_cpy (G 32 0) (g3 32 0) 0 0 64)) 33 0 (va_cpy (G 33 0) ((k_row g3 32 0 (va_cpy (G 32 0) (g3 32 0) 0 0 64)) 33 0) 0 0 64)) 38 0) 0 0 2) = F
      have f0 : ∀ t j q, t ≠ 32 → t ≠ 33 → t ≠ 38 → F t j q = g3 t j q := fun t j q a1 a2 a3 => by
        rw [← hFF, k_row_ne (by omega), k_row_ne (by omega), k_row_ne (by omega)]
      have f32 : ∀ q, q < 64 → F 32 0 q = G 32 0 q := fun q hq => by
        rw [← hFF, k_row_ne (by omega), k_row_ne (by omega), k_row_same, va_cpy, if_pos (by omega), show 0 + (q - 0) = q from by omega]
      have f33 : ∀ q, q < 64 → F 33 0 q = G 33 0 q := fun q hq => by
        rw [← hFF, k_row_ne (by omega), k_row_same, va_cpy, if_pos (by omega), show 0 + (q - 0) = q from by omega]
      have f38 : ∀ q, q < 2 → F 38 0 q = G 38 0 q := fun q hq => by
        rw [← hFF, k_row_same, va_cpy, if_pos (by omega), show 0 + (q - 0) = q from by omega]
      have eg : ∀ t j q, ¬ (t = 12 ∨ t = 13) → ¬ ((t = 20 ∨ t = 21) ∧ 16 ≤ j) → (t = 5 → q ≠ 0) → ¬ (t = 32 ∨ t = 33 ∨ t = 38) → t ≠ 39 → t ≠ 40 → t ≠ 41 → F t j q = g t j q := fun t j q a1 a2 a3 a4 a5 a6 a7 => by
        rw [f0 t j q (by omega) (by omega) (by omega), u2 t j a5 a6 a7, hg2 t j q a1 a2 a3 a4]
      refine ⟨0, gc 12 0 c, gc, gc 12 0 c, F, 0, ?_, ?_, Or.inl ⟨rfl, rfl⟩, ?_, fun _ => rfl, n, nw, nu, y, by omega, ?_⟩
      · rw [f_X4_fades, q_cc1 hn h16 hc, q_bd2, if_pos rfl, f_X4_checkYears, if_neg hlo, if_pos hhi, q_bd2, if_pos rfl, ca, q_bd1, f_X1_fray, show f_X1_fray_5 1 (nI Z) k_N 0 0 ga = _ from c1, q_bd3, q_bd2, t1, q_bd1, q_ib hc16 (by omega), q_gt, q_c31 hc16 (by omega)]
      · rw [f_X5_fades, hGG, q_ic1 m5 h16 hc, q_bd2, if_neg (by decide), i1, q_bd2, if_neg (by decide), show f_X5_fades_73 (nI c) (nI Z) k_N 0 G = _ from hw9, q_bd2, u1, q_bd2, hFF]
      · rw [f0 5 0 0 (by omega) (by omega) (by omega), u2 5 0 (by omega) (by omega) (by omega), d6 5 0 (by omega), ← hGG, k_up_at, if_pos ⟨rfl, rfl, rfl⟩]
      · obtain ⟨h1, h2, h3, h4, h5, h6, h7⟩ := hR
        refine ⟨h1.of fun t i j ht => eg t i j (by omega) (by omega) (by omega) (by omega) (by omega) (by omega) (by omega), h2.of fun t i j ht => eg t i j (by omega) (by omega) (by omega) (by omega) (by omega) (by omega) (by omega), fun c p hc hp => ?_, h4.of fun t i j ht => eg t i j (by omega) (by omega) (by omega) (by omega) (by omega) (by omega) (by omega), h5.of fun t i j ht => eg t i j (by omega) (by omega) (by omega) (by omega) (by omega) (by omega) (by omega), h6.of fun t i j ht => eg t i j (by omega) (by omega) (by omega) (by omega) (by omega) (by omega) (by omega), ?_⟩
        · rw [eg 20 c p (by omega) (by omega) (by omega) (by omega) (by omega) (by omega) (by omega), eg 21 c p (by omega) (by omega) (by omega) (by omega) (by omega) (by omega) (by omega), f32 _ (by omega), f33 _ (by omega), hg1 32 0 _ (by omega) (by omega) (by omega), hg1 33 0 _ (by omega) (by omega) (by omega)]
          exact h3 c p hc hp
        · unfold q_I7
          rw [f38 0 (by omega), f38 1 (by omega), hg1 38 0 _ (by omega) (by omega) (by omega), hg1 38 0 _ (by omega) (by omega) (by omega), eg 0 0 5 (by omega) (by omega) (by omega) (by omega) (by omega) (by omega) (by omega), eg 0 0 6 (by omega) (by omega) (by omega) (by omega) (by omega) (by omega) (by omega)]
          exact h7
    · have hhi' : (50 : Int32) < x2 := Int32.not_le.mp hhi
      have i1 : ∀ g, f_X5_isIn x2 1 50 g = some (0, g) := fun g => by rw [q_isIn, if_pos (Or.inr hhi')]
      refine q_bad (k := 2) (kw := 2) h' (by decide) (r := 0) (b := 0) ?_ ?_ (by simp)
      · simp [f_X4_fades, q_cc1 hn h16 hc, f_X4_checkYears, hlo, hhi, q_bd2]
      · simp [f_X5_fades, q_ic1 hm h16 hc, i1, q_bd2, q_fail]
  · refine q_bad (k := 1) (kw := 1) h' (by decide) (r := 0) (b := 0) ?_ ?_ (by simp)
    · simp [f_X4_fades, q_cc0 hn hb, q_bd2]
    · simp [f_X5_fades, q_ic0 hm h16 hb, q_bd2, q_fail]
theorem q_minL (a b : Int64) : k_minL a b = k_minL b a := by
  unfold k_minL
  by_cases h1 : b < a <;> by_cases h2 : a < b
  · exfalso
    rw [Int64.lt_iff_toInt_lt] at h1 h2
    omega
  · rw [if_pos h1, if_neg h2]
  · rw [if_neg h1, if_pos h2]
  · rw [if_neg h1, if_neg h2]
    rw [Int64.lt_iff_toInt_lt] at h1 h2
    exact Int64.toInt_inj.mp (by omega)
theorem q_lgc (r v : Int64) : (lg_cmp r v ≤ 0 ∧ ¬ 0 < lg_cmp r v ∧ ¬ v < r) ∨ (¬ lg_cmp r v ≤ 0 ∧ 0 < lg_cmp r v ∧ v < r) := by
  unfold lg_cmp
  by_cases h : r > v
  · rw [if_pos h]
    exact Or.inr ⟨by decide, by decide, h⟩
  · rw [if_neg h]
    by_cases h2 : r = v
    · rw [if_pos h2]
      exact Or.inl ⟨by decide, by decide, h⟩
    · rw [if_neg h2]
      exact Or.inl ⟨by decide, by decide, h⟩
/-- the class's state in its loop: as g but for its scratch -/
def q_X (g g' : Gt) : Prop := ∀ t j q, ¬ (t = 12 ∨ t = 13) → ¬ ((t = 20 ∨ t = 21) ∧ 16 ≤ j) → g' t j q = g t j q
def q_M (g g' : Gt) : Prop := ∀ t j q, ¬ (t = 39 ∨ t = 40 ∨ t = 41) → ¬ (t = 5 ∧ q = 0) → g' t j q = g t j q
/-- the knots with one more at the last place of a cord -/
def q_d' (g : Gt) (k : Nat) (c : Nat) : Int32 := q_dg (fun p => if c = k ∧ p = 3 then g 20 c p + 1 else g 20 c p)
theorem q_chg {n nw nu y k kv : Nat} {b : Int32} {g g' : Gt} (hR : q_R n nw nu y g) (hX : q_X g g') (hk : k < n) (ekv : g 20 k 3 = nI kv) (hlt : kv < 9) :
    ∃ g'', f_X4_changeByKnot (nI k) b g' = some (k_minL (k_absL ((g'' 12 0 0).toInt64 - b.toInt64)) 2147483647, g'') ∧ q_X g g'' ∧ (∀ c, c < n → q_TL n (g 10 0) (g 11 0) (q_d' g k) (g'' 12 0) (g'' 13 0) c) := by
  have h16 := hR.1.1
  have hk16 : k < 16 := by omega
  obtain ⟨ga, ca, ea⟩ := q_cpy g'
  have e20 : g' 20 k 3 = nI kv := by rw [hX 20 k 3 (by omega) (by omega)]; exact ekv
  have eb : k_up ga 20 (16 + k) 3 (ga 20 (16 + k) 3 + 1) 1 0 4 = nI n := by
    rw [k_up_at, if_neg (by omega), ea, if_neg (by omega), hX 1 0 4 (by omega) (by omega)]
    exact hR.1.2.2.2.1
  obtain ⟨gc, t1, t2, t3⟩ := q_X0tell (i := 1) eb h16 (by omega)
  have hXc : q_X g gc := fun t j q a1 a2 => by
    rw [t2 t j (by omega) (by omega), k_up_at, if_neg (by omega), ea, if_neg (by omega), hX t j q a1 a2]
  have z10 : k_up ga 20 (16 + k) 3 (ga 20 (16 + k) 3 + 1) 10 0 = g 10 0 := by
    funext q
    rw [k_up_at, if_neg (by omega), ea, if_neg (by omega), hX 10 0 q (by omega) (by omega)]
  have z11 : k_up ga 20 (16 + k) 3 (ga 20 (16 + k) 3 + 1) 11 0 = g 11 0 := by
    funext q
    rw [k_up_at, if_neg (by omega), ea, if_neg (by omega), hX 11 0 q (by omega) (by omega)]
  rw [z10, z11] at t3
  refine ⟨gc, ?_, hXc, fun c hc => ?_⟩
  · rw [f_X4_changeByKnot, q_ib hk16 (by omega), q_gt, q_c31 hk16 (by omega), show ((3 : Int32)).toNatClampNeg = 3 from rfl, show 16 * 0 + k = k from by omega, e20, show (9 : Int32) = nI 9 from rfl, if_pos (nI_lt hlt (by omega)), ca, q_bd1, q_gt, show 16 * 1 + k = 16 + k from by omega, t1, q_bd1, show ((0 : Int32)).toNatClampNeg = 0 from rfl]
  · have hd : q_dg (k_up ga 20 (16 + k) 3 (ga 20 (16 + k) 3 + 1) 20 (16 * 1 + c)) = q_d' g k c := q_dg_c fun p hp => by
      show k_up ga 20 (16 + k) 3 (ga 20 (16 + k) 3 + 1) 20 (16 * 1 + c) p = if c = k ∧ p = 3 then g 20 c p + 1 else g 20 c p
      have eA : ga 20 (16 * 1 + c) p = g 20 c p := by
        rw [ea, if_pos (by omega), hX 20 _ _ (by omega) (by omega), show 16 * 1 + c - 16 = c from by omega]
      have eB : ga 20 (16 + k) 3 = g 20 k 3 := by
        rw [ea, if_pos (by omega), hX 20 _ _ (by omega) (by omega), show 16 + k - 16 = k from by omega]
      rw [k_up_at, eA, eB]
      by_cases h : c = k ∧ p = 3
      · rw [if_pos (by omega), if_pos h, h.1, h.2]
      · rw [if_neg (by omega), if_neg h]
    have := t3 c hc
    refine ⟨this.1, this.2.trans ?_⟩
    show q_dg (k_up ga 20 (16 + k) 3 (ga 20 (16 + k) 3 + 1) 20 (16 * 1 + c)) + _ = q_d' g k c + _
    rw [hd]
theorem q_wl {n nw nu y : Nat} {g : Gt} {sy kt : Nat → Int32} (hR : q_R n nw nu y g) (hT : ∀ c, c < n → q_TL n (g 10 0) (g 11 0) (fun c => q_dg (g 20 c)) sy kt c) (h0n : 0 < n) : ∀ (m k N N' : Nat) (best : Int32) (most : Int64) (gx gm : Gt), k + m = n → m < N → m < N' → ¬ most < 0 → q_X g gx → q_M g gm →
    ∃ (best' : Int32) (r : Int64) (w w' : Int32) (gx' gm' : Gt), f_X4_weighs_40 (sy 0) N best most (nI k) gx = some (best', r, w, gx') ∧ f_X5_weighs_12 N' best most (nI k) gm = some (best', r, w', gm') ∧ q_X g gx' ∧ q_M g gm'
  | 0, k, N + 1, N' + 1, best, most, gx, gm, hk, hN, hN', h0, hX, hM => by
    have h16 := hR.1.1
    have e1 : gx 1 0 4 = nI n := by rw [hX 1 0 4 (by omega) (by omega)]; exact hR.1.2.2.2.1
    have e2 : gm 5 0 1 = nI n := by rw [hM 5 0 1 (by omega) (by omega)]; exact hR.1.2.2.2.2.2.2.2.1
    have hle : nI n ≤ nI k := (nI_leI (by omega) (by omega)).mpr (by omega)
    exact ⟨best, most, nI k, nI k, gx, gm, by rw [f_X4_weighs_40, e1, if_pos hle], by rw [f_X5_weighs_12, e2, if_pos hle], hX, hM⟩
  | m + 1, k, N + 1, N' + 1, best, most, gx, gm, hk, hN, hN', h0, hX, hM => by
    have h16 := hR.1.1
    have hk16 : k < 16 := by omega
    have e1 : gx 1 0 4 = nI n := by rw [hX 1 0 4 (by omega) (by omega)]; exact hR.1.2.2.2.1
    have e2 : gm 5 0 1 = nI n := by rw [hM 5 0 1 (by omega) (by omega)]; exact hR.1.2.2.2.2.2.2.2.1
    have hle : ¬ nI n ≤ nI k := by rw [nI_leI (by omega) (by omega)]; omega
    obtain ⟨⟨kv, hkv, ekv⟩, _, e32, _⟩ := hR.2.2.1 k 3 hk16 (by omega)
    have hix : ((4 : Int32) * nI k + 4) - 1 = nI (4 * k + 3) := by
      rw [show (4 : Int32) * nI k + 4 = nI (4 * k + 4) from q_m4 k 4]
      exact q_m1 (4 * k + 3)
    have em : gm 32 0 (4 * k + 3) = nI kv := by rw [hM 32 0 _ (by omega) (by omega), e32, ekv]
    by_cases h9 : kv = 9
    · subst h9
      obtain ⟨best', r, w, w', gx', gm', a1, a2, a3, a4⟩ := q_wl hR hT h0n m (k + 1) N N' best most gx gm (by omega) (by omega) (by omega) h0 hX hM
      refine ⟨best', r, w, w', gx', gm', ?_, ?_, a3, a4⟩
      · have hc : f_X4_changeByKnot (nI k) (sy 0) gx = some (0, gx) := by
          rw [f_X4_changeByKnot, q_ib hk16 (by omega), q_gt, q_c31 hk16 (by omega), show ((3 : Int32)).toNatClampNeg = 3 from rfl, show 16 * 0 + k = k from by omega, hX 20 k 3 (by omega) (by omega), ekv, if_neg (by decide)]
        have hcm : lg_cmp 0 most ≤ 0 := by
          rcases q_lgc 0 most with h | h
          · exact h.1
          · exact absurd h.2.2 h0
        rw [f_X4_weighs_40, e1, if_neg hle, hc, q_bd2, if_pos hcm, nI_1, a1]
      · rw [f_X5_weighs_12, e2, if_neg hle, hix, q_i4 hk16 (show 3 < 4 by omega), q_gt, q_c4 hk16 (show 3 < 4 by omega), em, if_pos (show nI 9 = 9 from rfl), nI_1, a2]
    · have hlt : kv < 9 := by omega
      obtain ⟨gx1, b1, b2, b3⟩ := q_chg (b := sy 0) hR hX (show k < n by omega) ekv hlt
      have hold : ∃ g', f_X5_cordTold 0 3 gm = some (sy 0, g') ∧ (∀ t j, ¬ t = 39 → ¬ t = 40 → ¬ t = 41 → g' t j = gm t j) := by
        obtain ⟨g', u1, u2, _⟩ := q_told (x := 3) (c := 0) (g := gm) (fr := g 10 0) (st := g 11 0) (d := fun c => q_dg (g 20 c)) (sy := sy) (kt := kt) (af := fun c => q_af (fun p => gm 33 0 (4 * c + p))) h16 e2 hR.2.1.1 (fun c hc => by rw [hM 30 0 c (by omega) (by omega)]; exact (hR.2.1.2.2.2 c hc).1) (fun c hc => by rw [hM 31 0 c (by omega) (by omega)]; exact (hR.2.1.2.2.2 c hc).2) (fun c hc => q_dg_c fun p hp => by rw [hM 32 0 _ (by omega) (by omega)]; exact (hR.2.2.1 c p (by omega) hp).2.2.1) hT h0n rfl
        exact ⟨g', u1, u2⟩
      obtain ⟨gm1, u1, u2⟩ := hold
      have em1 : gm1 32 0 (4 * k + 3) = nI kv := by rw [u2 32 0 (by omega) (by omega) (by omega)]; exact em
      have hM1 : ∀ t j q, ¬ (t = 39 ∨ t = 40 ∨ t = 41) → ¬ (t = 5 ∧ q = 0) → ¬ (t = 32 ∧ j = 0 ∧ q = 4 * k + 3) → k_up gm1 32 0 (4 * k + 3) (nI kv + 1) t j q = g t j q := fun t j q a1 a2 a3 => by
        rw [k_up_at, if_neg a3, u2 t j (by omega) (by omega) (by omega), hM t j q a1 a2]
      have hnew : ∃ g', f_X5_cordTold 0 3 (k_up gm1 32 0 (4 * k + 3) (nI kv + 1)) = some (gx1 12 0 0, g') ∧ (∀ t j, ¬ t = 39 → ¬ t = 40 → ¬ t = 41 → g' t j = k_up gm1 32 0 (4 * k + 3) (nI kv + 1) t j) := by
        obtain ⟨g', v1, v2, _⟩ := q_told (x := 3) (c := 0) (g := k_up gm1 32 0 (4 * k + 3) (nI kv + 1)) (fr := g 10 0) (st := g 11 0) (d := q_d' g k) (sy := gx1 12 0) (kt := gx1 13 0) (af := fun c => q_af (fun p => k_up gm1 32 0 (4 * k + 3) (nI kv + 1) 33 0 (4 * c + p))) h16 (by rw [hM1 5 0 1 (by omega) (by omega) (by omega)]; exact hR.1.2.2.2.2.2.2.2.1) hR.2.1.1 (fun c hc => by rw [hM1 30 0 c (by omega) (by omega) (by omega)]; exact (hR.2.1.2.2.2 c hc).1) (fun c hc => by rw [hM1 31 0 c (by omega) (by omega) (by omega)]; exact (hR.2.1.2.2.2 c hc).2) (fun c hc => q_dg_c fun p hp => by
          show k_up gm1 32 0 (4 * k + 3) (nI kv + 1) 32 0 (4 * c + p) = if c = k ∧ p = 3 then g 20 c p + 1 else g 20 c p
          by_cases h : c = k ∧ p = 3
          · rw [k_up_at, if_pos (by omega), if_pos h, h.1, h.2, ekv]
          · rw [hM1 32 0 _ (by omega) (by omega) (by omega), if_neg h]
            exact (hR.2.2.1 c p (by omega) hp).2.2.1) b3 h0n rfl
        exact ⟨g', v1, v2⟩
      obtain ⟨gm2, v1, v2⟩ := hnew
      have em2 : gm2 32 0 (4 * k + 3) = nI (kv + 1) := by rw [v2 32 0 (by omega) (by omega) (by omega), k_up_at, if_pos ⟨rfl, rfl, rfl⟩, nI_1]
      have hM3 : q_M g (k_up gm2 32 0 (4 * k + 3) (nI kv)) := fun t j q a1 a2 => by
        rw [k_up_at]
        by_cases h : t = 32 ∧ j = 0 ∧ q = 4 * k + 3
        · rw [if_pos h]
          obtain ⟨rfl, rfl, rfl⟩ := h
          rw [e32, ekv]
        · rw [if_neg h, v2 t j (by omega) (by omega) (by omega), hM1 t j q a1 a2 h]
      generalize hr : k_minL (k_absL ((gx1 12 0 0).toInt64 - (sy 0).toInt64)) 2147483647 = r at *
      have hr' : k_minL 2147483647 (k_absL ((gx1 12 0 0).toInt64 - (sy 0).toInt64)) = r := by rw [q_minL]; exact hr
      have hne9 : ¬ nI kv = 9 := by rw [show (9 : Int32) = nI 9 from rfl, nI_eq (by omega) (by omega)]; exact h9
      have hpre : f_X5_weighs_12 (N' + 1) best most (nI k) gm = if 0 < lg_cmp r most then f_X5_weighs_12 N' (nI k) r (nI (k + 1)) (k_up gm2 32 0 (4 * k + 3) (nI kv)) else f_X5_weighs_12 N' best most (nI (k + 1)) (k_up gm2 32 0 (4 * k + 3) (nI kv)) := by
        rw [f_X5_weighs_12, e2, if_neg hle, hix, q_i4 hk16 (show 3 < 4 by omega), q_gt, q_c4 hk16 (show 3 < 4 by omega), em, if_neg hne9, u1, q_bd2, q_gt, q_gt, em1, v1, q_bd2, q_gt, q_gt, hr', em2, q_m1, nI_1]
      rw [f_X4_weighs_40, e1, if_neg hle, b1, q_bd2, nI_1, hpre]
      rcases q_lgc r most with h | h
      · obtain ⟨best', r', w, w', gx', gm', a1, a2, a3, a4⟩ := q_wl hR hT h0n m (k + 1) N N' best most gx1 (k_up gm2 32 0 (4 * k + 3) (nI kv)) (by omega) (by omega) (by omega) h0 b2 hM3
        exact ⟨best', r', w, w', gx', gm', by rw [if_pos h.1, a1], by rw [if_neg h.2.1, a2], a3, a4⟩
      · obtain ⟨best', r', w, w', gx', gm', a1, a2, a3, a4⟩ := q_wl hR hT h0n m (k + 1) N N' (nI k) r gx1 (k_up gm2 32 0 (4 * k + 3) (nI kv)) (by omega) (by omega) (by omega) (by
          have h1 := h.2.2
          rw [Int64.lt_iff_toInt_lt] at h0 h1 ⊢
          omega) b2 hM3
        exact ⟨best', r', w, w', gx', gm', by rw [if_neg h.1, a1], by rw [if_pos h.2.1, a2], a3, a4⟩
theorem q_s_weighs {Y : Nat} {g : Gt} (h : q_Rel Y g) : Sim2 q_Rel Y (f_X4_weighs g) f_X5_weighs := by
  have h' := h
  have hN' : k_N = 200 := rfl
  obtain ⟨n, nw, nu, y, hy, hR⟩ := h
  have h16 := hR.1.1
  have hn := hR.1.2.2.2.1
  by_cases h0 : n = 0
  · subst h0
    refine q_ro2 (r := (-1 : Int32)) h' (g1 := g) (g2 := k_up g 5 0 0 0) ?_ (q_E.rf g) ?_ (q_E.th g 0)
    · rw [f_X4_weighs, hn, if_pos (show nI 0 = 0 from rfl)]
    · have e : k_up g 5 0 0 0 5 0 1 = nI 0 := by rw [k_up_at, if_neg (by omega)]; exact hR.1.2.2.2.2.2.2.2.1
      rw [f_X5_weighs, q_N, f_X5_weighs_12, e, if_pos (by decide), q_bd4]
  · obtain ⟨g1, t1, t2, t3, t4, t5⟩ := q_tell0 hR
    obtain ⟨best', r, w, w', gx', gm', a1, a2, a3, a4⟩ := q_wl t4 t5 (by omega) n 0 k_N k_N (-1) 0 g1 g1 (by omega) (by omega) (by omega) (by decide) (fun _ _ _ _ _ => rfl) (fun _ _ _ _ _ => rfl)
    have hEx : q_E g gx' := fun t i j hs => by
      have hs' := hs
      unfold q_sc at hs
      rw [a3 t i j (by omega) (by omega)]
      exact t3 t i j hs'
    have hRx : q_R n nw nu y gx' := hR.of hEx
    -- the reference starts where the class ended
    obtain ⟨best2, r2, w2, w2', gx2, gm2, b1, b2, b3, b4⟩ := q_wl t4 t5 (by omega) n 0 k_N k_N (-1) 0 g1 g1 (by omega) (by omega) (by omega) (by decide) (fun _ _ _ _ _ => rfl) (fun _ _ _ _ _ => rfl)
    have hT' : ∀ c, c < n → q_TL n (gx' 10 0) (gx' 11 0) (fun c => q_dg (gx' 20 c)) (g1 12 0) (g1 13 0) c := fun c hc => by
      have e10 : gx' 10 0 = g1 10 0 := by funext q; exact a3 10 0 q (by omega) (by omega)
      have e11 : gx' 11 0 = g1 11 0 := by funext q; exact a3 11 0 q (by omega) (by omega)
      have := t5 c hc
      unfold q_TL at this ⊢
      rw [e10, e11]
      refine ⟨this.1, this.2.trans ?_⟩
      show q_dg (g1 20 c) + _ = q_dg (gx' 20 c) + _
      have e20 : gx' 20 c = g1 20 c := by funext q; exact a3 20 c q (by omega) (by omega)
      rw [e20]
    obtain ⟨best3, r3, w3, w3', gx3, gm3, c1, c2, c3, c4⟩ := q_wl (sy := g1 12 0) (kt := g1 13 0) hRx hT' (by omega) n 0 k_N k_N (-1) 0 g1 (k_up gx' 5 0 0 0) (by omega) (by omega) (by omega) (by decide) (fun t j q z1 z2 => (a3 t j q z1 z2).symm) (fun t j q z1 z2 => by rw [k_up_at, if_neg (by omega)])
    have hbb : (best', r, w, gx') = (best3, r3, w3, gx3) := Option.some.inj (a1.symm.trans c1)
    have hb3 : best' = best3 := congrArg (fun q => q.1) hbb
    subst hb3
    refine q_ro2 (r := best') h' (g1 := gx') (g2 := gm3) ?_ hEx ?_ (fun t i j hs => ?_)
    · rw [f_X4_weighs, hn, if_neg (show ¬ nI n = 0 from nI_ne0 (by omega) (by omega)), t1, q_bd1, show ((0 : Int32)).toNatClampNeg = 0 from rfl, show f_X4_weighs_40 (g1 12 0 0) k_N (-1) 0 0 g1 = _ from a1, q_bd4]
    · rw [f_X5_weighs, show f_X5_weighs_12 k_N (-1) 0 0 (k_up gx' 5 0 0 0) = _ from c2, q_bd4]
    · unfold q_sc at hs
      exact c4 t i j (by omega) (by omega)
