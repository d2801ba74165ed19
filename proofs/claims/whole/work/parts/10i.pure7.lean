/-! mean -/
theorem q_nn0 : ∀ s, s < 121 → ∀ w, w < 7 → 0 < w → k_nn (FP.ddiv (FP.i2d (nI s)) (FP.i2d (nI w))) = true := by decide +kernel
theorem q_sm_b {f : Nat → Int32} {T : Nat} : ∀ (m k S : Nat), (∀ w, k ≤ w → w < k + m → ∃ t, t ≤ T ∧ f w = nI t) → ∃ S', S' ≤ S + m * T ∧ q_sm f m k (nI S) = nI S'
  | 0, k, S, h => ⟨S, by omega, rfl⟩
  | m + 1, k, S, h => by
    obtain ⟨t, ht, e⟩ := h k (Nat.le_refl _) (by omega)
    obtain ⟨S', h1, h2⟩ := q_sm_b m (k + 1) (S + t) (fun w a b => h w (by omega) (by omega))
    exact ⟨S', by rw [Nat.succ_mul]; omega, by rw [q_sm, e, nI_add]; exact h2⟩
theorem q_me16 {nw : Nat} {g : Gt} (hn : g 3 0 3 = nI nw) (h6 : nw ≤ 6) : ∀ (m k N : Nat) (v : Int32), k + m = nw → m < N → f_X4_mean_16 N v (nI k) g = some (q_sm (g 16 0) m k v, nI nw, g)
  | 0, k, N + 1, v, hk, hN => by
    rw [f_X4_mean_16, hn, if_pos ((nI_leI (by omega) (by omega)).mpr (by omega)), show k = nw from by omega, q_sm]
  | m + 1, k, N + 1, v, hk, hN => by
    rw [f_X4_mean_16, hn, if_neg (by rw [nI_leI (by omega) (by omega)]; omega), q_ib (show k < 6 by omega) (by omega), q_gt, q_c31 (show k < 6 by omega) (by omega), nI_1, q_me16 hn h6 m (k + 1) N _ (by omega) (by omega), q_sm]
theorem q_me9 {nw : Nat} {f : Nat → Int32} {g : Gt} (hn : g 5 0 2 = nI nw) (h6 : nw ≤ 6) (hf : ∀ w, w < nw → g 34 0 w = f w) : ∀ (m k N : Nat) (v : Int32), k + m = nw → m < N → f_X5_mean_9 N v (nI k) g = some (q_sm f m k v, nI nw, g)
  | 0, k, N + 1, v, hk, hN => by
    rw [f_X5_mean_9, hn, if_pos ((nI_leI (by omega) (by omega)).mpr (by omega)), show k = nw from by omega, q_sm]
  | m + 1, k, N + 1, v, hk, hN => by
    rw [f_X5_mean_9, hn, if_neg (by rw [nI_leI (by omega) (by omega)]; omega), q_ib (show k < 6 by omega) (by omega), q_gt, q_c31 (show k < 6 by omega) (by omega), nI_1, hf k (by omega), q_me9 hn h6 hf m (k + 1) N _ (by omega) (by omega), q_sm]
theorem q_s_mean {Y : Nat} {g : Gt} (h : q_Rel Y g) : Sim2 q_Rel Y (f_X4_mean g) f_X5_mean := by
  have h' := h
  have hN' : k_N = 200 := rfl
  obtain ⟨n, nw, nu, y, hy, hR⟩ := h
  have h6 := hR.1.2.1
  have hw := hR.1.2.2.2.2.1
  have hR0 := hR.of (q_E.th g 0)
  have hm := hR0.1.2.2.2.2.2.2.2.2.1
  have a1 := q_me16 hw h6 nw 0 k_N 0 (by omega) (by omega)
  have a2 := q_me9 (f := g 16 0) hm h6 (fun w hw => by rw [k_up_at, if_neg (by omega)]; exact (hR.2.2.2.1 w hw).2) nw 0 k_N 0 (by omega) (by omega)
  rw [← q_0] at a1 a2
  by_cases h0 : nw = 0
  · subst h0
    refine q_ro2 (r := FP.dconst0) h' (g1 := g) (g2 := k_up g 5 0 0 0) ?_ (q_E.rf g) ?_ (q_E.th g 0)
    · rw [f_X4_mean, hw, if_pos (show nI 0 = 0 from rfl)]
    · rw [f_X5_mean, a2, q_bd3, hm, if_pos (show nI 0 = 0 from rfl)]
  · obtain ⟨S, hS, e⟩ := q_sm_b (f := g 16 0) (T := 20) nw 0 0 (fun w _ hw => (hR.2.2.2.1 w (by omega)).1)
    rw [← q_0] at e
    have hnn := q_nn0 S (by omega) nw (by omega) (by omega)
    have hne : ¬ nI nw = 0 := nI_ne0 (by omega) (by omega)
    refine q_ro2 (r := FP.ddiv (FP.i2d (nI S)) (FP.i2d (nI nw))) h' (g1 := g) (g2 := k_up g 5 0 0 0) ?_ (q_E.rf g) ?_ (q_E.th g 0)
    · rw [f_X4_mean, hw, if_neg hne, a1, q_bd3, hw, e, hnn, q_gt]
    · rw [f_X5_mean, a2, q_bd3, hm, if_neg hne, e, hnn, q_gt]
/-! untie -/
def q_rw (a b c d e : Int32) : Nat → Int32 := fun j => if j = 0 then a else if j = 1 then b else if j = 2 then c else if j = 3 then d else e
theorem q_untie_R {n nw nu y c p k : Nat} {r : Nat → Int32} {g g2 : Gt} (hR : q_R n nw nu y g) (hu : nu < 30) (hc : c < 16) (hp : p < 4) (hk : k ≤ 9)
    (e : ∀ t i j, g2 t i j = if t = 5 ∧ i = 0 ∧ j = 3 then nI (nu + 1) else if t = 37 ∧ i = 0 ∧ 5 * nu ≤ j ∧ j < 5 * nu + 5 then r (j - 5 * nu) else if t = 32 ∧ i = 0 ∧ j = 4 * c + p then nI k else if t = 5 ∧ i = 0 ∧ j = 0 then 0 else if t = 4 ∧ i = 0 ∧ j = 1 then nI (nu + 1) else if t = 24 ∧ i = nu ∧ j < 5 then r j else if t = 20 ∧ i = c ∧ j = p then nI k else g t i j) : q_R n nw (nu + 1) y g2 := by
  obtain ⟨h1, h2, h3, h4, h5, h6, h7⟩ := hR
  have e' : ∀ t i j, t ≠ 5 → t ≠ 37 → t ≠ 32 → t ≠ 4 → t ≠ 24 → t ≠ 20 → g2 t i j = g t i j := fun t i j a1 a2 a3 a4 a5 a6 => by
    rw [e, if_neg (by omega), if_neg (by omega), if_neg (by omega), if_neg (by omega), if_neg (by omega), if_neg (by omega), if_neg (by omega)]
  refine ⟨?_, h2.of fun t i j ht => e' t i j (by omega) (by omega) (by omega) (by omega) (by omega) (by omega), fun c' p' hc' hp' => ?_, h4.of fun t i j ht => e' t i j (by omega) (by omega) (by omega) (by omega) (by omega) (by omega), h5.of fun t i j ht => e' t i j (by omega) (by omega) (by omega) (by omega) (by omega) (by omega), fun u j hu' hj => ?_, h7.of fun t i j ht => e' t i j (by omega) (by omega) (by omega) (by omega) (by omega) (by omega)⟩
  · obtain ⟨a1, a2, a3, a4, a5, a6, a7, a8, a9, a10⟩ := h1
    refine ⟨a1, a2, by omega, ?_, ?_, ?_, ?_, ?_, ?_, ?_⟩ <;> rw [e]
    · simpa using a4
    · simpa using a5
    · simp
    · simpa using a7
    · simpa using a8
    · simpa using a9
    · simp
  · have e20 : g2 20 c' p' = if c' = c ∧ p' = p then nI k else g 20 c' p' := by
      rw [e, if_neg (by omega), if_neg (by omega), if_neg (by omega), if_neg (by omega), if_neg (by omega), if_neg (by omega)]
      simp
    have e32 : g2 32 0 (4 * c' + p') = if c' = c ∧ p' = p then nI k else g 32 0 (4 * c' + p') := by
      rw [e, if_neg (by omega), if_neg (by omega)]
      by_cases h : c' = c ∧ p' = p
      · rw [if_pos h, if_pos (by omega)]
      · rw [if_neg h, if_neg (by omega), if_neg (by omega), if_neg (by omega), if_neg (by omega), if_neg (by omega)]
    rw [e20, e32, e' 21 c' p' (by omega) (by omega) (by omega) (by omega) (by omega) (by omega), e' 33 0 (4 * c' + p') (by omega) (by omega) (by omega) (by omega) (by omega) (by omega)]
    have := h3 c' p' hc' hp'
    by_cases h : c' = c ∧ p' = p
    · rw [if_pos h, if_pos h]
      exact ⟨⟨k, hk, rfl⟩, this.2.1, rfl, this.2.2.2⟩
    · rw [if_neg h, if_neg h]
      exact this
  · have e24 : g2 24 u j = if u = nu then r j else g 24 u j := by
      rw [e, if_neg (by omega), if_neg (by omega), if_neg (by omega), if_neg (by omega), if_neg (by omega)]
      by_cases h : u = nu
      · rw [if_pos ⟨rfl, h, hj⟩, if_pos h]
      · rw [if_neg (by omega), if_neg (by omega), if_neg h]
    have e37 : g2 37 0 (5 * u + j) = if u = nu then r j else g 37 0 (5 * u + j) := by
      rw [e, if_neg (by omega)]
      by_cases h : u = nu
      · rw [if_pos (by omega), if_pos h, show 5 * u + j - 5 * nu = j from by omega]
      · rw [if_neg (by omega), if_neg h, if_neg (by omega), if_neg (by omega), if_neg (by omega), if_neg (by omega), if_neg (by omega)]
    rw [e24, e37]
    by_cases h : u = nu
    · rw [if_pos h, if_pos h]
    · rw [if_neg h, if_neg h]
      exact h6 u j (by omega) hj
def q_uc (g : Gt) (nu : Nat) (a b c d e : Int32) : Gt := k_up (k_up (k_up (k_up (k_up (k_up g 24 nu 0 a) 24 nu 1 b) 24 nu 2 c) 24 nu 3 d) 24 nu 4 e) 4 0 1 (nI (nu + 1))
theorem q_uc_at {g : Gt} {nu t i j : Nat} {a b c d e : Int32} : q_uc g nu a b c d e t i j = if t = 4 ∧ i = 0 ∧ j = 1 then nI (nu + 1) else if t = 24 ∧ i = nu ∧ j < 5 then q_rw a b c d e j else g t i j := by
  unfold q_uc q_rw
  simp only [k_up_at]
  by_cases h4 : t = 4 ∧ i = 0 ∧ j = 1
  · rw [if_pos h4, if_pos h4]
  rw [if_neg h4, if_neg h4]
  by_cases h : t = 24 ∧ i = nu
  · obtain ⟨rfl, rfl⟩ := h
    rcases (show j = 0 ∨ j = 1 ∨ j = 2 ∨ j = 3 ∨ j = 4 ∨ 5 ≤ j by omega) with rfl | rfl | rfl | rfl | rfl | hj
    · simp
    · simp
    · simp
    · simp
    · simp
    · rw [if_neg (by omega), if_neg (by omega), if_neg (by omega), if_neg (by omega), if_neg (by omega), if_neg (by omega)]
  · rw [if_neg (by omega), if_neg (by omega), if_neg (by omega), if_neg (by omega), if_neg (by omega), if_neg (by omega)]
theorem q_wr {nu : Nat} {a b c d e : Int32} {g : Gt} (hn : g 4 0 1 = nI nu) (hu : nu < 30) : f_X2_write a b c d e g = some (q_uc g nu a b c d e) := by
  rw [f_X2_write, hn, q_ib (show nu < 30 by omega) (by omega), q_gt]
  simp [k_up_at, hn, q_c31 (show nu < 30 by omega), nI_1, q_uc]
def q_um (g : Gt) (nu : Nat) (a b c d e : Int32) : Gt := k_up (k_row g 37 0 (va_cpy (upd (upd (upd (upd (upd (fun _ => 0) 0 a) 1 b) 2 c) 3 d) 4 e) (g 37 0) 0 (5 * nu) 5)) 5 0 3 (nI (nu + 1))
theorem q_um_at {g : Gt} {nu t i j : Nat} {a b c d e : Int32} : q_um g nu a b c d e t i j = if t = 5 ∧ i = 0 ∧ j = 3 then nI (nu + 1) else if t = 37 ∧ i = 0 ∧ 5 * nu ≤ j ∧ j < 5 * nu + 5 then q_rw a b c d e (j - 5 * nu) else g t i j := by
  unfold q_um
  rw [k_up_at]
  by_cases h5 : t = 5 ∧ i = 0 ∧ j = 3
  · rw [if_pos h5, if_pos h5]
  rw [if_neg h5, if_neg h5, k_row]
  by_cases h : t = 37 ∧ i = 0
  · obtain ⟨rfl, rfl⟩ := h
    rw [if_pos ⟨rfl, rfl⟩, va_cpy]
    by_cases hj : 5 * nu ≤ j ∧ j < 5 * nu + 5
    · rw [if_pos hj, if_pos ⟨rfl, rfl, hj⟩, Nat.zero_add]
      generalize hq : j - 5 * nu = q
      have hq5 : q < 5 := by omega
      rcases (show q = 0 ∨ q = 1 ∨ q = 2 ∨ q = 3 ∨ q = 4 by omega) with rfl | rfl | rfl | rfl | rfl <;> rfl
    · rw [if_neg hj, if_neg (by omega)]
  · rw [if_neg h, if_neg (by omega)]
theorem q_s_untie {Y : Nat} {g : Gt} (h : q_Rel Y g) (x1 x2 x3 x4 : Int32) : Sim q_Rel Y (fun k kw => (k = 0 ∧ kw = 0) ∨ (k = 1 ∧ kw = 1) ∨ (k = 2 ∧ kw = 2) ∨ (k = 3 ∧ kw = 3)) (f_X4_untie x1 x2 x3 x4 g) (f_X5_untie x1 x2 x3 x4) := by
  have h' := h
  have h10 : ¬ (1 : Int32) = 0 := by decide
  obtain ⟨n, nw, nu, y, hy, hR⟩ := h
  have hR0 := hR.of (q_E.th g 0)
  have hn := hR.1.2.2.2.1
  have hnw := hR.1.2.2.2.2.1
  have hm := hR0.1.2.2.2.2.2.2.2.1
  have hmw := hR0.1.2.2.2.2.2.2.2.2.1
  have h16 := hR.1.1
  have h6 := hR.1.2.1
  have hnu := hR.1.2.2.2.2.2.1
  have hmu := hR.1.2.2.2.2.2.2.2.2.2
  have h30 := hR.1.2.2.1
  have hyy := hR.1.2.2.2.2.2.2.1
  rcases q_in x1 nw (by omega) with ⟨w, hw, rfl⟩ | hb
  · rcases q_in x2 n (by omega) with ⟨c, hc, rfl⟩ | hb
    · rcases q_in x3 4 (by omega) with ⟨p, hp, rfl⟩ | hb
      · have hc16 : c < 16 := by omega
        have ip : ∀ g, f_X5_isIn (nI p) 0 3 g = some (1, g) := fun g => q_isIn1 (n := 4) hp (by omega)
        by_cases hlo : x4 < 1
        · have i1 : ∀ g, f_X5_isIn x4 1 9 g = some (0, g) := fun g => by rw [q_isIn, if_pos (Or.inl hlo)]
          refine q_bad (k := 2) (kw := 2) h' (by decide) (r := 0) (b := 0) ?_ ?_ (by simp)
          · simp [f_X4_untie, q_cw1 hnw (show nw ≤ 16 by omega) hw, q_cc1 hn h16 hc, q_cp1 hp, q_bd2, hlo]
          · simp [f_X5_untie, q_iw1 hmw (show nw ≤ 16 by omega) hw, q_ic1 hm h16 hc, q_bd2, ip, i1, q_fail]
        · by_cases hhi : x4 ≤ 9
          · have hx0 : ¬ x4 < 0 := by
              rw [q_ltl] at hlo ⊢
              rw [show (1 : Int32).toInt = 1 from by decide] at hlo
              rw [show (0 : Int32).toInt = 0 from by decide]
              omega
            obtain ⟨k, hk, rfl⟩ := q_5_of 9 (by omega) hx0 hhi
            have i1 : ∀ g, f_X5_isIn (nI k) 1 9 g = some (1, g) := fun g => by rw [q_isIn, if_neg (fun q => q.elim hlo (fun q => absurd hhi (Int32.not_le.mpr q)))]
            obtain ⟨⟨kv, hkv, ekv⟩, _, e32, _⟩ := hR.2.2.1 c p hc16 hp
            by_cases hle : k ≤ kv
            · have hle' : nI k ≤ nI kv := nI_le hle (by omega)
              have hlt' : ¬ nI kv < nI k := by rw [nI_ltI (by omega) (by omega)]; omega
              by_cases hf : nu = 30
              · subst hf
                have e30 : nI 30 = 30 := rfl
                refine q_bad (k := 3) (kw := 3) h' (by decide) (r := 0) (b := 0) ?_ ?_ (by simp)
                · simp [f_X4_untie, q_cw1 hnw (show nw ≤ 16 by omega) hw, q_cc1 hn h16 hc, q_cp1 hp, q_bd2, hlo, hhi, q_ib hc16, q_ib (show p < 4 by omega), q_gt, q_c31 hc16, q_c31 (show p < 4 by omega), ekv, hle', hnu, e30]
                · simp [f_X5_untie, q_iw1 hmw (show nw ≤ 16 by omega) hw, q_ic1 hm h16 hc, q_bd2, ip, i1, q_fail, q_m4, q_i4 hc16 hp, q_gt, q_c4 hc16 hp, k_up_at, e32, ekv, hlt', hmu, e30]
              · have hu : nu < 30 := by omega
                have e30 : ¬ nI nu = 30 := by rw [show (30 : Int32) = nI 30 from rfl, nI_eq (by omega) (by omega)]; exact hf
                have es : nI kv - nI k = nI (kv - k) := pk_sub hle
                have hR2 := q_untie_R (g2 := q_um (k_up (k_up (q_uc (k_up g 20 c p (nI (kv - k))) nu (nI w) (nI c) (nI p) (nI k) (nI y)) 5 0 0 0) 32 0 (4 * c + p) (nI (kv - k))) nu (nI w) (nI c) (nI p) (nI k) (nI y)) (r := q_rw (nI w) (nI c) (nI p) (nI k) (nI y)) hR hu hc16 hp (show kv - k ≤ 9 by omega) (fun t i j => by
                  rw [q_um_at, k_up_at, k_up_at, q_uc_at, k_up_at])
                have hdm : q_dg (fun p' => q_um (k_up (k_up (q_uc (k_up g 20 c p (nI (kv - k))) nu (nI w) (nI c) (nI p) (nI k) (nI y)) 5 0 0 0) 32 0 (4 * c + p) (nI (kv - k))) nu (nI w) (nI c) (nI p) (nI k) (nI y) 32 0 (4 * c + p')) = q_dg (q_uc (k_up g 20 c p (nI (kv - k))) nu (nI w) (nI c) (nI p) (nI k) (nI y) 20 c) := q_dg_c fun p' hp' => by
                  rw [(hR2.2.2.1 c p' hc16 hp').2.2.1, q_um_at, if_neg (by omega), if_neg (by omega), k_up_at, if_neg (by omega), k_up_at, if_neg (by omega)]
                refine ⟨0, q_dg (q_uc (k_up g 20 c p (nI (kv - k))) nu (nI w) (nI c) (nI p) (nI k) (nI y) 20 c), q_uc (k_up g 20 c p (nI (kv - k))) nu (nI w) (nI c) (nI p) (nI k) (nI y), q_dg (q_uc (k_up g 20 c p (nI (kv - k))) nu (nI w) (nI c) (nI p) (nI k) (nI y) 20 c), q_um (k_up (k_up (q_uc (k_up g 20 c p (nI (kv - k))) nu (nI w) (nI c) (nI p) (nI k) (nI y)) 5 0 0 0) 32 0 (4 * c + p) (nI (kv - k))) nu (nI w) (nI c) (nI p) (nI k) (nI y), 0, ?_, ?_, Or.inl ⟨rfl, rfl⟩, ?_, fun _ => rfl, n, nw, nu + 1, y, by omega, hR2⟩
                · have h4 : k_up g 20 c p (nI (kv - k)) 4 0 1 = nI nu := by rw [k_up_at, if_neg (by omega)]; exact hnu
                  have h0 : k_up g 20 c p (nI (kv - k)) 0 0 5 = nI y := by rw [k_up_at, if_neg (by omega)]; exact hyy
                  simp [f_X4_untie, q_cw1 hnw (show nw ≤ 16 by omega) hw, q_cc1 hn h16 hc, q_cp1 hp, q_bd2, q_bd1, hlo, hhi, q_ib hc16, q_ib (show p < 4 by omega), q_gt, q_c31 hc16, q_c31 (show p < 4 by omega), ekv, hle', hnu, e30, es, h0, q_wr h4 hu, q_X1dg hc16]
                · have z1 : q_uc (k_up g 20 c p (nI (kv - k))) nu (nI w) (nI c) (nI p) (nI k) (nI y) 5 0 1 = nI n := by
                    rw [q_uc_at, if_neg (by omega), if_neg (by omega), k_up_at, if_neg (by omega)]
                    exact hR.1.2.2.2.2.2.2.2.1
                  have z2 : q_uc (k_up g 20 c p (nI (kv - k))) nu (nI w) (nI c) (nI p) (nI k) (nI y) 5 0 2 = nI nw := by
                    rw [q_uc_at, if_neg (by omega), if_neg (by omega), k_up_at, if_neg (by omega)]
                    exact hR.1.2.2.2.2.2.2.2.2.1
                  have z3 : q_uc (k_up g 20 c p (nI (kv - k))) nu (nI w) (nI c) (nI p) (nI k) (nI y) 5 0 3 = nI nu := by
                    rw [q_uc_at, if_neg (by omega), if_neg (by omega), k_up_at, if_neg (by omega)]
                    exact hmu
                  have z32 : q_uc (k_up g 20 c p (nI (kv - k))) nu (nI w) (nI c) (nI p) (nI k) (nI y) 32 0 (4 * c + p) = nI kv := by
                    rw [q_uc_at, if_neg (by omega), if_neg (by omega), k_up_at, if_neg (by omega), e32, ekv]
                  have z38 : q_uc (k_up g 20 c p (nI (kv - k))) nu (nI w) (nI c) (nI p) (nI k) (nI y) 38 0 0 = nI y := by
                    rw [q_uc_at, if_neg (by omega), if_neg (by omega), k_up_at, if_neg (by omega), hR.2.2.2.2.2.2.1, hyy]
                  have m5 : (5 : Int32) * nI nu = nI (5 * nu) := by rw [show (5 : Int32) = nI 5 from rfl, pk_mul]
                  have cb : k_cb (nI (5 * nu)) 5 150 = true := by
                    unfold k_cb
                    rw [nI_toInt (by omega), Bool.and_eq_true, decide_eq_true_eq, decide_eq_true_eq]
                    omega
                  have c5 : (nI (5 * nu)).toNatClampNeg = 5 * nu := nI_clamp (by omega)
                  generalize q_uc (k_up g 20 c p (nI (kv - k))) nu (nI w) (nI c) (nI p) (nI k) (nI y) = G at *
                  have y1 : k_up G 5 0 0 0 5 0 1 = nI n := by rw [k_up_at, if_neg (by omega)]; exact z1
                  have y2 : k_up G 5 0 0 0 5 0 2 = nI nw := by rw [k_up_at, if_neg (by omega)]; exact z2
                  have y3 : k_up G 5 0 0 0 5 0 3 = nI nu := by rw [k_up_at, if_neg (by omega)]; exact z3
                  have y4 : k_up G 5 0 0 0 32 0 (4 * c + p) = nI kv := by rw [k_up_at, if_neg (by omega)]; exact z32
                  have x3 : ∀ v, k_up (k_up G 5 0 0 0) 32 0 (4 * c + p) v 5 0 3 = nI nu := fun v => by rw [k_up_at, if_neg (by omega)]; exact y3
                  have x8 : ∀ v, k_up (k_up G 5 0 0 0) 32 0 (4 * c + p) v 38 0 0 = nI y := fun v => by rw [k_up_at, if_neg (by omega), k_up_at, if_neg (by omega)]; exact z38
                  have x5 : ∀ (v : Int32) (f : Nat → Int32), k_row (k_up (k_up G 5 0 0 0) 32 0 (4 * c + p) v) 37 0 f 5 0 3 = nI nu := fun v f => by rw [k_row_ne (by omega)]; exact x3 v
                  have c0 : ((0 : Int32)).toNatClampNeg = 0 := rfl
                  rw [f_X5_untie, q_iw1 y2 (show nw ≤ 16 by omega) hw, q_bd2, if_neg h10, q_ic1 y1 h16 hc, q_bd2, if_neg h10, ip, q_bd2, if_neg h10, i1, q_bd2, if_neg h10, q_m4, q_i4 hc16 hp, q_gt, q_gt, q_gt, q_c4 hc16 hp, y4, if_neg hlt', y3, if_neg e30, es, x3, c0, x8, m5, cb, q_gt, c5, x5, nI_1, q_X5dg hc16, q_bd2]
                  unfold q_um at hdm
                  rw [hdm]
                  rfl
                · rw [q_um_at, if_neg (by omega), if_neg (by omega), k_up_at, if_neg (by omega), k_up_at, if_pos ⟨rfl, rfl, rfl⟩]
            · have hle' : ¬ nI k ≤ nI kv := by rw [nI_leI (by omega) (by omega)]; exact hle
              have hlt' : nI kv < nI k := nI_lt (by omega) (by omega)
              refine q_bad (k := 3) (kw := 3) h' (by decide) (r := 0) (b := 0) ?_ ?_ (by simp)
              · simp [f_X4_untie, q_cw1 hnw (show nw ≤ 16 by omega) hw, q_cc1 hn h16 hc, q_cp1 hp, q_bd2, hlo, hhi, q_ib hc16, q_ib (show p < 4 by omega), q_gt, q_c31 hc16, q_c31 (show p < 4 by omega), ekv, hle']
              · simp [f_X5_untie, q_iw1 hmw (show nw ≤ 16 by omega) hw, q_ic1 hm h16 hc, q_bd2, ip, i1, q_fail, q_m4, q_i4 hc16 hp, q_gt, q_c4 hc16 hp, k_up_at, e32, ekv, hlt']
          · have hhi' : (9 : Int32) < x4 := Int32.not_le.mp hhi
            have i1 : ∀ g, f_X5_isIn x4 1 9 g = some (0, g) := fun g => by rw [q_isIn, if_pos (Or.inr hhi')]
            refine q_bad (k := 2) (kw := 2) h' (by decide) (r := 0) (b := 0) ?_ ?_ (by simp)
            · simp [f_X4_untie, q_cw1 hnw (show nw ≤ 16 by omega) hw, q_cc1 hn h16 hc, q_cp1 hp, q_bd2, hlo, hhi]
            · simp [f_X5_untie, q_iw1 hmw (show nw ≤ 16 by omega) hw, q_ic1 hm h16 hc, q_bd2, ip, i1, q_fail]
      · have ip : ∀ g, f_X5_isIn x3 0 3 g = some (0, g) := fun g => q_isIn0 (n := 4) hb (by omega)
        refine q_bad (k := 1) (kw := 1) h' (by decide) (r := 0) (b := 0) ?_ ?_ (by simp)
        · simp [f_X4_untie, q_cw1 hnw (show nw ≤ 16 by omega) hw, q_cc1 hn h16 hc, q_cp0 hb, q_bd2]
        · simp [f_X5_untie, q_iw1 hmw (show nw ≤ 16 by omega) hw, q_ic1 hm h16 hc, q_bd2, ip, q_fail]
    · refine q_bad (k := 1) (kw := 1) h' (by decide) (r := 0) (b := 0) ?_ ?_ (by simp)
      · simp [f_X4_untie, q_cw1 hnw (show nw ≤ 16 by omega) hw, q_cc0 hn hb, q_bd2]
      · simp [f_X5_untie, q_iw1 hmw (show nw ≤ 16 by omega) hw, q_ic0 hm h16 hb, q_bd2, q_fail]
  · refine q_bad (k := 1) (kw := 1) h' (by decide) (r := 0) (b := 0) ?_ ?_ (by simp)
    · simp [f_X4_untie, q_cw0 hnw hb, q_bd2]
    · simp [f_X5_untie, q_iw0 hmw (show nw ≤ 16 by omega) hb, q_bd2, q_fail]
