/-! fraying -/
def q_k1 (s a b : Nat) : Nat := if a = 0 then 0 else if b + s < 10 then a else a - 1
def q_b1 (s a b : Nat) : Nat := if a = 0 then b else if b + s < 10 then b + s else 0
def q_z1 (s a b : Nat) : Nat := if a = 0 then 0 else if b + s < 10 then 0 else 1
def q_st (st : Nat → Int32) (c : Nat) : Nat := if st c = 2 then 2 else if st c = 4 then 2 else 1
abbrev q_A2 : Type := Nat → Nat → Nat
def q_kp (st : Nat → Int32) (K B : q_A2) (k : Nat) : q_A2 := fun c p => if 4 * c + p < k then q_k1 (q_st st c) (K c p) (B c p) else K c p
def q_bp (st : Nat → Int32) (K B : q_A2) (k : Nat) : q_A2 := fun c p => if 4 * c + p < k then q_b1 (q_st st c) (K c p) (B c p) else B c p
def q_lp (st : Nat → Int32) (K B : q_A2) : Nat → Nat
  | 0 => 0
  | k + 1 => q_lp st K B k + q_z1 (q_st st (k / 4)) (K (k / 4) (k % 4)) (B (k / 4) (k % 4))
def q_H (i : Nat) (g : Gt) (K B : q_A2) : Prop := ∀ c p, c < 16 → p < 4 → g 20 (16 * i + c) p = nI (K c p) ∧ g 21 (16 * i + c) p = nI (B c p) ∧ K c p ≤ 9 ∧ B c p ≤ 9
def q_HM (g : Gt) (K B : q_A2) : Prop := ∀ c p, c < 16 → p < 4 → g 32 0 (4 * c + p) = nI (K c p) ∧ g 33 0 (4 * c + p) = nI (B c p) ∧ K c p ≤ 9 ∧ B c p ≤ 9
theorem q_st12 (st : Nat → Int32) (c : Nat) : q_st st c = 1 ∨ q_st st c = 2 := by
  unfold q_st
  split
  · exact Or.inr rfl
  · split
    · exact Or.inr rfl
    · exact Or.inl rfl
theorem q_k1_le {s a b : Nat} (ha : a ≤ 9) : q_k1 s a b ≤ 9 := by
  unfold q_k1
  split
  · omega
  · split <;> omega
theorem q_b1_le {s a b : Nat} (hb : b ≤ 9) : q_b1 s a b ≤ 9 := by
  unfold q_b1
  split
  · omega
  · split <;> omega
theorem q_lp_s (st : Nat → Int32) (K B : q_A2) {c p : Nat} (hp : p < 4) : q_lp st K B (4 * c + p + 1) = q_lp st K B (4 * c + p) + q_z1 (q_st st c) (K c p) (B c p) := by
  rw [q_lp, show (4 * c + p) / 4 = c from by omega, show (4 * c + p) % 4 = p from by omega]
/-- one place frays: the class -/
theorem q_fc1 {i c p s N : Nat} {v : Int32} {st : Nat → Int32} {g : Gt} {K B : q_A2} (hi : i ≤ 1) (hc : c < 16) (hp : p < 4) (hs : q_st st c = s) (hH : q_H i g (q_kp st K B (4 * c + p)) (q_bp st K B (4 * c + p))) :
    ∃ g', f_X1_frayCord_5 i (nI c) (nI s) (N + 1) v (nI p) g = f_X1_frayCord_5 i (nI c) (nI s) N (v + nI (q_z1 s (K c p) (B c p))) (nI (p + 1)) g' ∧ q_H i g' (q_kp st K B (4 * c + p + 1)) (q_bp st K B (4 * c + p + 1)) ∧ (∀ t j, ¬ ((t = 20 ∨ t = 21) ∧ 16 * i ≤ j ∧ j < 16 * i + 16) → g' t j = g t j) := by
  have hs12 := q_st12 st c
  obtain ⟨h1, h2, h3, h4⟩ := hH c p hc hp
  have hk0 : q_kp st K B (4 * c + p) c p = K c p := by unfold q_kp; rw [if_neg (by omega)]
  have hb0 : q_bp st K B (4 * c + p) c p = B c p := by unfold q_bp; rw [if_neg (by omega)]
  have hk1 : q_kp st K B (4 * c + p + 1) c p = q_k1 s (K c p) (B c p) := by unfold q_kp; rw [if_pos (by omega), hs]
  have hb1 : q_bp st K B (4 * c + p + 1) c p = q_b1 s (K c p) (B c p) := by unfold q_bp; rw [if_pos (by omega), hs]
  rw [hk0] at h1 h3
  rw [hb0] at h2 h4
  have fin : ∀ g' : Gt, g' 20 (16 * i + c) p = nI (q_k1 s (K c p) (B c p)) → g' 21 (16 * i + c) p = nI (q_b1 s (K c p) (B c p)) → (∀ t j q, ¬ ((t = 20 ∨ t = 21) ∧ j = 16 * i + c ∧ q = p) → g' t j q = g t j q) → q_H i g' (q_kp st K B (4 * c + p + 1)) (q_bp st K B (4 * c + p + 1)) ∧ (∀ t j, ¬ ((t = 20 ∨ t = 21) ∧ 16 * i ≤ j ∧ j < 16 * i + 16) → g' t j = g t j) := fun g' a1 a2 a3 => by
    refine ⟨fun c' p' hc' hp' => ?_, fun t j hh => by funext q; exact a3 t j q (by omega)⟩
    by_cases he : c' = c ∧ p' = p
    · obtain ⟨rfl, rfl⟩ := he
      rw [a1, a2, hk1, hb1]
      exact ⟨rfl, rfl, q_k1_le h3, q_b1_le h4⟩
    · have e1 : q_kp st K B (4 * c + p + 1) c' p' = q_kp st K B (4 * c + p) c' p' := by
        unfold q_kp
        by_cases hl : 4 * c' + p' < 4 * c + p
        · rw [if_pos hl, if_pos (by omega)]
        · rw [if_neg hl, if_neg (by omega)]
      have e2 : q_bp st K B (4 * c + p + 1) c' p' = q_bp st K B (4 * c + p) c' p' := by
        unfold q_bp
        by_cases hl : 4 * c' + p' < 4 * c + p
        · rw [if_pos hl, if_pos (by omega)]
        · rw [if_neg hl, if_neg (by omega)]
      rw [e1, e2, a3 20 _ _ (by omega), a3 21 _ _ (by omega)]
      exact hH c' p' hc' hp'
  rw [f_X1_frayCord_5, q_4, if_neg (by rw [nI_leI (by omega) (by omega)]; omega)]
  simp only [q_ib hc (show 16 ≤ 200 by omega), q_ib hp (show 4 ≤ 200 by omega), q_gt, q_c31 hc (show 16 ≤ 200 by omega), q_c31 hp (show 4 ≤ 200 by omega), nI_1, h1, h2]
  by_cases ha : K c p = 0
  · refine ⟨g, ?_, fin g ?_ ?_ (fun _ _ _ _ => rfl)⟩
    · rw [ha, if_pos (by decide), q_z1, if_pos rfl, show v + nI 0 = v from by rw [← q_0]; grind]
    · rw [h1, q_k1, if_pos ha, ha]
    · rw [h2, q_b1, if_pos ha]
  · have hle : ¬ nI (K c p) ≤ 0 := nI_nle (by omega) (by omega)
    rw [if_neg hle, nI_add]
    have e21 : ∀ x : Int32, k_up g 21 (16 * i + c) p x 21 (16 * i + c) p = x := fun x => by rw [k_up_at, if_pos ⟨rfl, rfl, rfl⟩]
    have e20 : ∀ x : Int32, k_up g 21 (16 * i + c) p x 20 (16 * i + c) p = nI (K c p) := fun x => by rw [k_up_at, if_neg (by omega)]; exact h1
    rw [e21, e20, show (10 : Int32) = nI 10 from rfl]
    by_cases hb : B c p + s < 10
    · refine ⟨k_up g 21 (16 * i + c) p (nI (B c p + s)), ?_, fin _ ?_ ?_ ?_⟩
      · rw [if_pos ((nI_ltI (by omega) (by omega)).mpr hb), q_z1, if_neg ha, if_pos hb, show v + nI 0 = v from by rw [← q_0]; grind]
      · rw [e20, q_k1, if_neg ha, if_pos hb]
      · rw [e21, q_b1, if_neg ha, if_pos hb]
      · intro t j q hh
        rw [k_up_at, if_neg (by omega)]
    · refine ⟨k_up (k_up (k_up g 21 (16 * i + c) p (nI (B c p + s))) 20 (16 * i + c) p (nI (K c p - 1))) 21 (16 * i + c) p 0, ?_, fin _ ?_ ?_ ?_⟩
      · rw [if_neg (by rw [nI_ltI (by omega) (by omega)]; exact hb), q_z1, if_neg ha, if_neg hb, ← q_1]
        rw [show nI (K c p) - 1 = nI (K c p - 1) from by rw [q_1, pk_sub (by omega)]]
      · rw [k_up_at, if_neg (by omega), k_up_at, if_pos ⟨rfl, rfl, rfl⟩, q_k1, if_neg ha, if_neg hb]
      · rw [k_up_at, if_pos ⟨rfl, rfl, rfl⟩, q_b1, if_neg ha, if_neg hb]
        rfl
      · intro t j q hh
        rw [k_up_at, if_neg (by omega), k_up_at, if_neg (by omega), k_up_at, if_neg (by omega)]
theorem q_fc {i c s : Nat} {st : Nat → Int32} {K B : q_A2} (hi : i ≤ 1) (hc : c < 16) (hs : q_st st c = s) : ∀ (m p N : Nat) (v : Int32) (g : Gt), p + m = 4 → m < N → q_H i g (q_kp st K B (4 * c + p)) (q_bp st K B (4 * c + p)) →
    ∃ v' w g', f_X1_frayCord_5 i (nI c) (nI s) N v (nI p) g = some (v', w, g') ∧ v' + nI (q_lp st K B (4 * c + p)) = v + nI (q_lp st K B (4 * c + 4)) ∧ q_H i g' (q_kp st K B (4 * c + 4)) (q_bp st K B (4 * c + 4)) ∧ (∀ t j, ¬ ((t = 20 ∨ t = 21) ∧ 16 * i ≤ j ∧ j < 16 * i + 16) → g' t j = g t j)
  | 0, p, N + 1, v, g, hp, hN, hH => by
    have : p = 4 := by omega
    subst this
    refine ⟨v, nI 4, g, ?_, rfl, hH, fun _ _ _ => rfl⟩
    rw [f_X1_frayCord_5, q_4, if_pos ((nI_leI (by omega) (by omega)).mpr (by omega))]
  | m + 1, p, N + 1, v, g, hp, hN, hH => by
    obtain ⟨g1, e1, e2, e3⟩ := q_fc1 (N := N) (v := v) hi hc (show p < 4 by omega) hs hH
    obtain ⟨v', w, g', f1, f2, f3, f4⟩ := q_fc hi hc hs m (p + 1) N (v + nI (q_z1 s (K c p) (B c p))) g1 (by omega) (by omega) e2
    refine ⟨v', w, g', e1.trans f1, ?_, f3, fun t j hh => (f4 t j hh).trans (e3 t j hh)⟩
    have hl := q_lp_s st K B (c := c) (p := p) (by omega)
    rw [hs] at hl
    rw [show 4 * c + (p + 1) = 4 * c + p + 1 from by omega, hl, ← nI_add] at f2
    grind
theorem q_fy {i n : Nat} {z x : Int32} {st : Nat → Int32} {K B : q_A2} (hi : i ≤ 1) (h16 : n ≤ 16) : ∀ (m c N : Nat) (v : Int32) (g : Gt), c + m = n → m < N → g 1 0 4 = nI n → g 11 0 = st → q_H i g (q_kp st K B (4 * c)) (q_bp st K B (4 * c)) →
    ∃ v' w g', f_X1_fray_14 z i x N v (nI c) g = some (v', w, g') ∧ v' + nI (q_lp st K B (4 * c)) = v + nI (q_lp st K B (4 * n)) ∧ q_H i g' (q_kp st K B (4 * n)) (q_bp st K B (4 * n)) ∧ (∀ t j, ¬ ((t = 20 ∨ t = 21) ∧ 16 * i ≤ j ∧ j < 16 * i + 16) → g' t j = g t j)
  | 0, c, N + 1, v, g, hc, hN, hn, hst, hH => by
    have : c = n := by omega
    subst this
    refine ⟨v, nI c, g, ?_, rfl, hH, fun _ _ _ => rfl⟩
    rw [f_X1_fray_14, hn, if_pos ((nI_leI (by omega) (by omega)).mpr (by omega))]
  | m + 1, c, N + 1, v, g, hc, hN, hn, hst, hH => by
    have hN' : k_N = 200 := rfl
    have step : ∀ s, q_st st c = s → ∃ v' w g', bd2 (f_X1_frayCord i (nI c) (nI s) g) (fun r57 g57 => f_X1_fray_14 z i x N (v + r57) (nI (c + 1)) g57) = some (v', w, g') ∧ v' + nI (q_lp st K B (4 * c)) = v + nI (q_lp st K B (4 * n)) ∧ q_H i g' (q_kp st K B (4 * n)) (q_bp st K B (4 * n)) ∧ (∀ t j, ¬ ((t = 20 ∨ t = 21) ∧ 16 * i ≤ j ∧ j < 16 * i + 16) → g' t j = g t j) := fun s hs => by
      obtain ⟨v1, w1, g1, e1, e2, e3, e4⟩ := q_fc (K := K) (B := B) hi (show c < 16 by omega) hs 4 0 k_N 0 g (by omega) (by omega) hH
      rw [Nat.add_zero] at e2
      have hn1 : g1 1 0 4 = nI n := by rw [e4 1 0 (by omega)]; exact hn
      have hs1 : g1 11 0 = st := by rw [e4 11 0 (by omega)]; exact hst
      obtain ⟨v', w, g', f1, f2, f3, f4⟩ := q_fy hi h16 m (c + 1) N (v + v1) g1 (by omega) (by omega) hn1 hs1 (by rw [show 4 * (c + 1) = 4 * c + 4 from by omega]; exact e3)
      refine ⟨v', w, g', ?_, ?_, f3, fun t j hh => (f4 t j hh).trans (e4 t j hh)⟩
      · rw [f_X1_frayCord, show f_X1_frayCord_5 i (nI c) (nI s) k_N 0 0 g = _ from e1, q_bd3, q_bd2]
        exact f1
      · rw [show 4 * (c + 1) = 4 * c + 4 from by omega] at f2
        grind
    rw [f_X1_fray_14, hn, if_neg (by rw [nI_leI (by omega) (by omega)]; omega), q_ib (show c < 16 by omega) (by omega), q_gt, q_c31 (show c < 16 by omega) (by omega), nI_1, hst]
    by_cases h2 : st c = 2
    · rw [if_pos h2]
      exact step 2 (by rw [q_st, if_pos h2])
    · rw [if_neg h2]
      by_cases h4 : st c = 4
      · rw [if_pos h4]
        exact step 2 (by rw [q_st, if_neg h2, if_pos h4])
      · rw [if_neg h4]
        exact step 1 (by rw [q_st, if_neg h2, if_neg h4])
/-- one place frays: the reference -/
theorem q_gm1 {n c p N : Nat} {v : Int32} {st : Nat → Int32} {g : Gt} {K B : q_A2} (h16 : n ≤ 16) (hn : g 5 0 1 = nI n) (hst : ∀ c, c < n → g 31 0 c = st c) (hc : c < n) (hp : p < 4) (hH : q_HM g (q_kp st K B (4 * c + p)) (q_bp st K B (4 * c + p))) :
    ∃ g', f_X5_yearOn_4 (N + 1) v (nI (4 * c + p)) g = f_X5_yearOn_4 N (v + nI (q_z1 (q_st st c) (K c p) (B c p))) (nI (4 * c + p + 1)) g' ∧ q_HM g' (q_kp st K B (4 * c + p + 1)) (q_bp st K B (4 * c + p + 1)) ∧ (∀ t j, ¬ (t = 32 ∨ t = 33) → g' t j = g t j) := by
  have hc16 : c < 16 := by omega
  have hs12 := q_st12 st c
  obtain ⟨h1, h2, h3, h4⟩ := hH c p hc16 hp
  have hk0 : q_kp st K B (4 * c + p) c p = K c p := by unfold q_kp; rw [if_neg (by omega)]
  have hb0 : q_bp st K B (4 * c + p) c p = B c p := by unfold q_bp; rw [if_neg (by omega)]
  have hk1 : q_kp st K B (4 * c + p + 1) c p = q_k1 (q_st st c) (K c p) (B c p) := by unfold q_kp; rw [if_pos (by omega)]
  have hb1 : q_bp st K B (4 * c + p + 1) c p = q_b1 (q_st st c) (K c p) (B c p) := by unfold q_bp; rw [if_pos (by omega)]
  rw [hk0] at h1 h3
  rw [hb0] at h2 h4
  have fin : ∀ g' : Gt, g' 32 0 (4 * c + p) = nI (q_k1 (q_st st c) (K c p) (B c p)) → g' 33 0 (4 * c + p) = nI (q_b1 (q_st st c) (K c p) (B c p)) → (∀ t j q, ¬ ((t = 32 ∨ t = 33) ∧ j = 0 ∧ q = 4 * c + p) → g' t j q = g t j q) → q_HM g' (q_kp st K B (4 * c + p + 1)) (q_bp st K B (4 * c + p + 1)) ∧ (∀ t j, ¬ (t = 32 ∨ t = 33) → g' t j = g t j) := fun g' a1 a2 a3 => by
    refine ⟨fun c' p' hc' hp' => ?_, fun t j hh => by funext q; exact a3 t j q (by omega)⟩
    by_cases he : c' = c ∧ p' = p
    · obtain ⟨rfl, rfl⟩ := he
      rw [a1, a2, hk1, hb1]
      exact ⟨rfl, rfl, q_k1_le h3, q_b1_le h4⟩
    · have e1 : q_kp st K B (4 * c + p + 1) c' p' = q_kp st K B (4 * c + p) c' p' := by
        unfold q_kp
        by_cases hl : 4 * c' + p' < 4 * c + p
        · rw [if_pos hl, if_pos (by omega)]
        · rw [if_neg hl, if_neg (by omega)]
      have e2 : q_bp st K B (4 * c + p + 1) c' p' = q_bp st K B (4 * c + p) c' p' := by
        unfold q_bp
        by_cases hl : 4 * c' + p' < 4 * c + p
        · rw [if_pos hl, if_pos (by omega)]
        · rw [if_neg hl, if_neg (by omega)]
      rw [e1, e2, a3 32 _ _ (by omega), a3 33 _ _ (by omega)]
      exact hH c' p' hc' hp'
  have hdiv : nI (4 * c + p) / nI 4 = nI c := by rw [pk_div (by omega) (by omega) (by omega), show (4 * c + p) / 4 = c from by omega]
  have e33 : ∀ x : Int32, k_up g 33 0 (4 * c + p) x 33 0 (4 * c + p) = x := fun x => by rw [k_up_at, if_pos ⟨rfl, rfl, rfl⟩]
  have e32 : ∀ x y : Int32, k_up (k_up g 33 0 (4 * c + p) x) 33 0 (4 * c + p) y 32 0 (4 * c + p) = nI (K c p) := fun x y => by rw [k_up_at, if_neg (by omega), k_up_at, if_neg (by omega)]; exact h1
  rw [f_X5_yearOn_4, hn, q_4, pk_mul, if_neg (by rw [nI_leI (by omega) (by omega)]; omega)]
  simp only [q_i4 hc16 hp, q_gt, q_c4 hc16 hp, hdiv, q_ib hc16 (show 16 ≤ 200 by omega), q_c31 hc16 (show 16 ≤ 200 by omega), nI_1, h1, h2, hst c hc, e33, e32]
  have hstep : ∀ s, q_st st c = s → s ≤ 2 → ∀ X : Option (Int32 × Int32 × Gt), X = (if nI 10 ≤ nI (B c p + s) then f_X5_yearOn_4 N (v + 1) (nI (4 * c + p + 1)) (k_up (k_up (k_up g 33 0 (4 * c + p) (nI (B c p + s))) 33 0 (4 * c + p) 0) 32 0 (4 * c + p) (nI (K c p) - 1)) else f_X5_yearOn_4 N v (nI (4 * c + p + 1)) (k_up g 33 0 (4 * c + p) (nI (B c p + s)))) → K c p ≠ 0 →
      ∃ g', X = f_X5_yearOn_4 N (v + nI (q_z1 (q_st st c) (K c p) (B c p))) (nI (4 * c + p + 1)) g' ∧ q_HM g' (q_kp st K B (4 * c + p + 1)) (q_bp st K B (4 * c + p + 1)) ∧ (∀ t j, ¬ (t = 32 ∨ t = 33) → g' t j = g t j) := fun s hs hs2 X hX ha => by
    subst hX
    rw [hs] at fin ⊢
    by_cases hb : B c p + s < 10
    · refine ⟨k_up g 33 0 (4 * c + p) (nI (B c p + s)), ?_, fin _ ?_ ?_ ?_⟩
      · rw [if_neg (by rw [nI_leI (by omega) (by omega)]; omega), q_z1, if_neg ha, if_pos hb, show v + nI 0 = v from by rw [← q_0]; grind]
      · rw [k_up_at, if_neg (by omega), h1, q_k1, if_neg ha, if_pos hb]
      · rw [e33, q_b1, if_neg ha, if_pos hb]
      · intro t j q hh
        rw [k_up_at, if_neg (by omega)]
    · refine ⟨k_up (k_up (k_up g 33 0 (4 * c + p) (nI (B c p + s))) 33 0 (4 * c + p) 0) 32 0 (4 * c + p) (nI (K c p - 1)), ?_, fin _ ?_ ?_ ?_⟩
      · rw [if_pos ((nI_leI (by omega) (by omega)).mpr (by omega)), q_z1, if_neg ha, if_neg hb, ← q_1]
        rw [show nI (K c p) - 1 = nI (K c p - 1) from by rw [q_1, pk_sub (by omega)]]
      · rw [k_up_at, if_pos ⟨rfl, rfl, rfl⟩, q_k1, if_neg ha, if_neg hb]
      · rw [k_up_at, if_neg (by omega), k_up_at, if_pos ⟨rfl, rfl, rfl⟩, q_b1, if_neg ha, if_neg hb]
        rfl
      · intro t j q hh
        rw [k_up_at, if_neg (by omega), k_up_at, if_neg (by omega), k_up_at, if_neg (by omega)]
  by_cases ha : K c p = 0
  · refine ⟨g, ?_, fin g ?_ ?_ (fun _ _ _ _ => rfl)⟩
    · rw [ha, if_pos (show nI 0 = 0 from rfl), q_z1, if_pos rfl, show v + nI 0 = v from by rw [← q_0]; grind]
    · rw [h1, q_k1, if_pos ha, ha]
    · rw [h2, q_b1, if_pos ha]
  · have hne : ¬ nI (K c p) = 0 := nI_ne0 (by omega) (by omega)
    rw [if_neg hne]
    by_cases t2 : st c = 2
    · exact hstep 2 (by rw [q_st, if_pos t2]) (by omega) _ (by rw [if_pos t2, q_2, nI_add]; rfl) ha
    · by_cases t4 : st c = 4
      · exact hstep 2 (by rw [q_st, if_neg t2, if_pos t4]) (by omega) _ (by rw [if_neg t2, if_pos (show st c = nI 4 from t4), q_2, nI_add]; rfl) ha
      · exact hstep 1 (by rw [q_st, if_neg t2, if_neg t4]) (by omega) _ (by rw [if_neg t2, if_neg (show ¬ st c = nI 4 from t4)]; rfl) ha
theorem q_gm {n : Nat} {st : Nat → Int32} {K B : q_A2} (h16 : n ≤ 16) : ∀ (m c N : Nat) (v : Int32) (g : Gt), c + m = n → 4 * m < N → g 5 0 1 = nI n → (∀ c, c < n → g 31 0 c = st c) → q_HM g (q_kp st K B (4 * c)) (q_bp st K B (4 * c)) →
    ∃ v' w g', f_X5_yearOn_4 N v (nI (4 * c)) g = some (v', w, g') ∧ v' + nI (q_lp st K B (4 * c)) = v + nI (q_lp st K B (4 * n)) ∧ q_HM g' (q_kp st K B (4 * n)) (q_bp st K B (4 * n)) ∧ (∀ t j, ¬ (t = 32 ∨ t = 33) → g' t j = g t j)
  | 0, c, N + 1, v, g, hc, hN, hn, hst, hH => by
    have : c = n := by omega
    subst this
    refine ⟨v, nI (4 * c), g, ?_, rfl, hH, fun _ _ _ => rfl⟩
    rw [f_X5_yearOn_4, hn, q_4, pk_mul, if_pos ((nI_leI (by omega) (by omega)).mpr (by omega))]
  | m + 1, c, N + 1 + 1 + 1 + 1 + 1, v, g, hc, hN, hn, hst, hH => by
    obtain ⟨g1, a1, a2, a3⟩ := q_gm1 (p := 0) (N := N + 1 + 1 + 1 + 1) (v := v) h16 hn hst (show c < n by omega) (by omega) hH
    obtain ⟨g2, b1, b2, b3⟩ := q_gm1 (p := 1) (N := N + 1 + 1 + 1) (v := v + nI (q_z1 (q_st st c) (K c 0) (B c 0))) h16 (by rw [a3 5 0 (by omega)]; exact hn) (fun c hc => by rw [a3 31 0 (by omega)]; exact hst c hc) (show c < n by omega) (by omega) a2
    obtain ⟨g3, c1, c2, c3⟩ := q_gm1 (p := 2) (N := N + 1 + 1) (v := v + nI (q_z1 (q_st st c) (K c 0) (B c 0)) + nI (q_z1 (q_st st c) (K c 1) (B c 1))) h16 (by rw [b3 5 0 (by omega), a3 5 0 (by omega)]; exact hn) (fun c hc => by rw [b3 31 0 (by omega), a3 31 0 (by omega)]; exact hst c hc) (show c < n by omega) (by omega) b2
    obtain ⟨g4, d1, d2, d3⟩ := q_gm1 (p := 3) (N := N + 1) (v := v + nI (q_z1 (q_st st c) (K c 0) (B c 0)) + nI (q_z1 (q_st st c) (K c 1) (B c 1)) + nI (q_z1 (q_st st c) (K c 2) (B c 2))) h16 (by rw [c3 5 0 (by omega), b3 5 0 (by omega), a3 5 0 (by omega)]; exact hn) (fun c hc => by rw [c3 31 0 (by omega), b3 31 0 (by omega), a3 31 0 (by omega)]; exact hst c hc) (show c < n by omega) (by omega) c2
    have hf : ∀ t j, ¬ (t = 32 ∨ t = 33) → g4 t j = g t j := fun t j h => by rw [d3 t j h, c3 t j h, b3 t j h, a3 t j h]
    obtain ⟨v', w, g', f1, f2, f3, f4⟩ := q_gm h16 m (c + 1) (N + 1) (v + nI (q_z1 (q_st st c) (K c 0) (B c 0)) + nI (q_z1 (q_st st c) (K c 1) (B c 1)) + nI (q_z1 (q_st st c) (K c 2) (B c 2)) + nI (q_z1 (q_st st c) (K c 3) (B c 3))) g4 (by omega) (by omega) (by rw [hf 5 0 (by omega)]; exact hn) (fun c hc => by rw [hf 31 0 (by omega)]; exact hst c hc) d2
    refine ⟨v', w, g', ?_, ?_, f3, fun t j h => (f4 t j h).trans (hf t j h)⟩
    · rw [show 4 * c = 4 * c + 0 from rfl, a1, show 4 * c + 0 + 1 = 4 * c + 1 from rfl, b1, show 4 * c + 1 + 1 = 4 * c + 2 from rfl, c1, show 4 * c + 2 + 1 = 4 * c + 3 from rfl, d1]
      exact f1
    · have l0 := q_lp_s st K B (c := c) (p := 0) (by omega)
      have l1 := q_lp_s st K B (c := c) (p := 1) (by omega)
      have l2 := q_lp_s st K B (c := c) (p := 2) (by omega)
      have l3 := q_lp_s st K B (c := c) (p := 3) (by omega)
      rw [show 4 * (c + 1) = 4 * c + 3 + 1 from by omega, l3, show 4 * c + 3 = 4 * c + 2 + 1 from rfl, l2, show 4 * c + 2 = 4 * c + 1 + 1 from rfl, l1, show 4 * c + 1 = 4 * c + 0 + 1 from rfl, l0, Nat.add_zero, ← nI_add, ← nI_add, ← nI_add, ← nI_add] at f2
      grind
theorem q_yo {n : Nat} {st : Nat → Int32} {K B : q_A2} {g : Gt} (h16 : n ≤ 16) (hn : g 5 0 1 = nI n) (hst : ∀ c, c < n → g 31 0 c = st c) (hH : q_HM g K B) :
    ∃ g', f_X5_yearOn g = some (nI (q_lp st K B (4 * n)), g') ∧ q_HM g' (q_kp st K B (4 * n)) (q_bp st K B (4 * n)) ∧ (∀ t j, ¬ (t = 32 ∨ t = 33 ∨ t = 38) → g' t j = g t j) ∧ g' 38 0 0 = g 38 0 0 + 1 ∧ g' 38 0 1 = g 38 0 1 + nI (q_lp st K B (4 * n)) := by
  have hN' : k_N = 200 := rfl
  have h0 : q_HM g (q_kp st K B (4 * 0)) (q_bp st K B (4 * 0)) := fun c p hc hp => by
    have e1 : q_kp st K B (4 * 0) c p = K c p := by unfold q_kp; rw [if_neg (by omega)]
    have e2 : q_bp st K B (4 * 0) c p = B c p := by unfold q_bp; rw [if_neg (by omega)]
    rw [e1, e2]
    exact hH c p hc hp
  obtain ⟨v', w, g1, e1, e2, e3, e4⟩ := q_gm h16 n 0 k_N 0 g (by omega) (by omega) hn hst h0
  have hv : v' = nI (q_lp st K B (4 * n)) := by
    rw [show q_lp st K B (4 * 0) = 0 from rfl, ← q_0] at e2
    grind
  subst hv
  refine ⟨_, by rw [f_X5_yearOn, show f_X5_yearOn_4 k_N 0 0 g = _ from e1, q_bd3], fun c p hc hp => ?_, fun t j h => ?_, ?_, ?_⟩
  · rw [k_up_at, if_neg (by omega), k_up_at, if_neg (by omega), k_up_at, if_neg (by omega), k_up_at, if_neg (by omega)]
    exact e3 c p hc hp
  · funext q
    rw [k_up_at, if_neg (by omega), k_up_at, if_neg (by omega), e4 t j (by omega)]
  · rw [k_up_at, if_neg (by decide), k_up_at, if_pos (by decide), e4 38 0 (by omega)]
    rfl
  · rw [k_up_at, if_pos (by decide), k_up_at, if_neg (by decide), e4 38 0 (by omega)]
    rfl
theorem q_fy0 {i n : Nat} {z x v : Int32} {st : Nat → Int32} {K B : q_A2} {g : Gt} (hi : i ≤ 1) (h16 : n ≤ 16) (hn : g 1 0 4 = nI n) (hst : g 11 0 = st) (hH : q_H i g K B) :
    ∃ w g', f_X1_fray_14 z i x k_N v 0 g = some (v + nI (q_lp st K B (4 * n)), w, g') ∧ q_H i g' (q_kp st K B (4 * n)) (q_bp st K B (4 * n)) ∧ (∀ t j, ¬ ((t = 20 ∨ t = 21) ∧ 16 * i ≤ j ∧ j < 16 * i + 16) → g' t j = g t j) := by
  have hN' : k_N = 200 := rfl
  have h0 : q_H i g (q_kp st K B (4 * 0)) (q_bp st K B (4 * 0)) := fun c p hc hp => by
    have e1 : q_kp st K B (4 * 0) c p = K c p := by unfold q_kp; rw [if_neg (by omega)]
    have e2 : q_bp st K B (4 * 0) c p = B c p := by unfold q_bp; rw [if_neg (by omega)]
    rw [e1, e2]
    exact hH c p hc hp
  obtain ⟨v', w, g1, e1, e2, e3, e4⟩ := q_fy (z := z) (x := x) hi h16 n 0 k_N v g (by omega) (by omega) hn hst h0
  have hv : v' = v + nI (q_lp st K B (4 * n)) := by
    rw [show q_lp st K B (4 * 0) = 0 from rfl, ← q_0] at e2
    grind
  subst hv
  exact ⟨w, g1, e1, e3, e4⟩
/-- years on both sides -/
theorem q_yrs {i n Z : Nat} {st : Nat → Int32} (hi : i ≤ 1) (h16 : n ≤ 16) (hZ : Z ≤ 50) : ∀ (m j N N' : Nat) (v : Int32) (K B : q_A2) (g g2 : Gt), j + m = Z → m < N → m < N' → g 1 0 4 = nI n → g 11 0 = st → q_H i g K B → g2 5 0 1 = nI n → (∀ c, c < n → g2 31 0 c = st c) → q_HM g2 K B →
    ∃ L w w' K' B' g' g2', f_X1_fray_5 i (nI Z) N v (nI j) g = some (v + L, w, g') ∧ f_X5_pass_25 (nI Z) N' v (nI j) g2 = some (v + L, w', g2') ∧ q_H i g' K' B' ∧ q_HM g2' K' B' ∧ (∀ t q, ¬ ((t = 20 ∨ t = 21) ∧ 16 * i ≤ q ∧ q < 16 * i + 16) → g' t q = g t q) ∧ (∀ t q, ¬ (t = 32 ∨ t = 33 ∨ t = 38) → g2' t q = g2 t q) ∧ g2' 38 0 0 = g2 38 0 0 + nI m ∧ g2' 38 0 1 = g2 38 0 1 + L ∧ (∀ x, ∃ w'', f_X5_fades_73 x (nI Z) N' (nI j) g2 = some (w'', g2'))
  | 0, j, N + 1, N' + 1, v, K, B, g, g2, hj, hN, hN', hn, hst, hH, hm, hsm, hHM => by
    have : j = Z := by omega
    subst this
    have hle : nI j ≤ nI j := (nI_leI (by omega) (by omega)).mpr (Nat.le_refl _)
    refine ⟨0, nI j, nI j, K, B, g, g2, ?_, ?_, hH, hHM, fun _ _ _ => rfl, fun _ _ _ => rfl, ?_, ?_, fun x => ⟨nI j, ?_⟩⟩
    · rw [f_X1_fray_5, if_pos hle, show v + 0 = v from by grind]
    · rw [f_X5_pass_25, if_pos hle, show v + 0 = v from by grind]
    · rw [← q_0]; grind
    · grind
    · rw [f_X5_fades_73, if_pos hle]
  | m + 1, j, N + 1, N' + 1, v, K, B, g, g2, hj, hN, hN', hn, hst, hH, hm, hsm, hHM => by
    have hle : ¬ nI Z ≤ nI j := by rw [nI_leI (by omega) (by omega)]; omega
    obtain ⟨w1, g1, a1, a2, a3⟩ := q_fy0 (z := nI j) (x := nI Z) (v := v) hi h16 hn hst hH
    obtain ⟨g3, b1, b2, b3, b4, b5⟩ := q_yo h16 hm hsm hHM
    obtain ⟨L, w, w', K', B', g', g2', f1, f2, f3, f4, f5, f6, f7, f8, f9⟩ := q_yrs (st := st) hi h16 hZ m (j + 1) N N' (v + nI (q_lp st K B (4 * n))) _ _ g1 g3 (by omega) (by omega) (by omega) (by rw [a3 1 0 (by omega)]; exact hn) (by rw [a3 11 0 (by omega)]; exact hst) a2 (by rw [b3 5 0 (by omega)]; exact hm) (fun c hc => by rw [b3 31 0 (by omega)]; exact hsm c hc) b2
    refine ⟨nI (q_lp st K B (4 * n)) + L, w, w', K', B', g', g2', ?_, ?_, f3, f4, fun t q h => (f5 t q h).trans (a3 t q h), fun t q h => (f6 t q h).trans (b3 t q h), ?_, ?_, fun x => ?_⟩
    · rw [f_X1_fray_5, if_neg hle, a1, q_bd3, nI_1, f1, show v + nI (q_lp st K B (4 * n)) + L = v + (nI (q_lp st K B (4 * n)) + L) from by grind]
    · rw [f_X5_pass_25, if_neg hle, b1, q_bd2, nI_1, f2, show v + nI (q_lp st K B (4 * n)) + L = v + (nI (q_lp st K B (4 * n)) + L) from by grind]
    · rw [f7, b4, ← nI_1]; grind
    · rw [f8, b5]; grind
    · obtain ⟨w'', hw⟩ := f9 x
      exact ⟨w'', by rw [f_X5_fades_73, if_neg hle, b1, q_bd2, nI_1, hw]⟩
/-- the tables as numbers -/
theorem q_I3.H {g : Gt} (h : q_I3 g) : ∃ K B : q_A2, q_H 0 g K B ∧ q_HM g K B := by
  have hx : ∀ (f : Nat → Nat → Int32), ∃ F : q_A2, ∀ c p k, k ≤ 9 → f c p = nI k → F c p = k := fun f => ⟨fun c p => (f c p).toNatClampNeg, fun c p k hk e => by
    show (f c p).toNatClampNeg = k
    rw [e, nI_clamp (by omega)]⟩
  obtain ⟨K, hK⟩ := hx (g 20)
  obtain ⟨B, hB⟩ := hx (g 21)
  refine ⟨K, B, fun c p hc hp => ?_, fun c p hc hp => ?_⟩
  · obtain ⟨⟨k, hk, e1⟩, ⟨b, hb, e2⟩, e3, e4⟩ := h c p hc hp
    rw [q_16, hK c p k hk e1, hB c p b hb e2]
    exact ⟨e1, e2, hk, hb⟩
  · obtain ⟨⟨k, hk, e1⟩, ⟨b, hb, e2⟩, e3, e4⟩ := h c p hc hp
    rw [hK c p k hk e1, hB c p b hb e2, e3, e4]
    exact ⟨e1, e2, hk, hb⟩
theorem q_s_pass {Y : Nat} {g : Gt} (h : q_Rel Y g) (x1 : Int32) : Sim q_Rel Y (fun k kw => (k = 0 ∧ kw = 0) ∨ (k = 2 ∧ kw = 1)) (f_X4_pass x1 g) (f_X5_pass x1) := by
  have h' := h
  have hN' : k_N = 200 := rfl
  obtain ⟨n, nw, nu, y, hy, hR⟩ := h
  have h16 := hR.1.1
  by_cases hlo : x1 < 1
  · have i1 : ∀ g, f_X5_isIn x1 1 50 g = some (0, g) := fun g => by rw [q_isIn, if_pos (Or.inl hlo)]
    refine q_bad (k := 2) (kw := 1) h' (by decide) (r := 0) (b := 0) ?_ ?_ (by simp)
    · simp [f_X4_pass, f_X4_checkYears, hlo, q_bd2]
    · simp [f_X5_pass, i1, q_bd2, q_fail]
  by_cases hhi : x1 ≤ 50
  · have hx0 : ¬ x1 < 0 := by
      rw [q_ltl] at hlo ⊢
      rw [show (1 : Int32).toInt = 1 from by decide] at hlo
      rw [show (0 : Int32).toInt = 0 from by decide]
      omega
    obtain ⟨Z, hZ, rfl⟩ := q_5_of 50 (by omega) hx0 hhi
    have i1 : ∀ g, f_X5_isIn (nI Z) 1 50 g = some (1, g) := fun g => by rw [q_isIn, if_neg (fun q => q.elim hlo (fun q => absurd hhi (Int32.not_le.mpr q)))]
    obtain ⟨K, B, hK, hM⟩ := hR.2.2.1.H
    have hn := hR.1.2.2.2.1
    -- the class
    obtain ⟨L0, w0, w0', K0, B0, gc, gm0, c1, _, c3, _, c5, _, _, _, _⟩ := q_yrs (i := 0) (Z := Z) (st := g 11 0) (by omega) h16 hZ Z 0 k_N k_N 0 K B g g (by omega) (by omega) (by omega) hn rfl hK hR.1.2.2.2.2.2.2.2.1 (fun c hc => (hR.2.1.2.2.2 c hc).2) hM
    have hgc : ∀ t j q, ¬ ((t = 20 ∨ t = 21) ∧ j < 16) → gc t j q = g t j q := fun t j q hh => by rw [c5 t j (by omega)]
    have e05 : gc 0 0 5 = nI y := by rw [hgc 0 0 5 (by omega)]; exact hR.1.2.2.2.2.2.2.1
    have e06 : gc 0 0 6 = g 0 0 6 := hgc 0 0 6 (by omega)
    have hg1 : ∀ t j q, ¬ ((t = 20 ∨ t = 21) ∧ j < 16) → t ≠ 0 → (t = 5 → q ≠ 0) → k_up (k_up (k_up gc 0 0 5 (nI (y + Z))) 0 0 6 (g 0 0 6 + (0 + L0))) 5 0 0 0 t j q = g t j q := fun t j q hh h0 h5 => by
      rw [k_up_at, if_neg (by omega), k_up_at, if_neg (by omega), k_up_at, if_neg (by omega), hgc t j q hh]
    -- the reference
    obtain ⟨L, w, w', K', B', gd', g2, d1, d2, d3, d4, d5, d6, d7, d8, _⟩ := q_yrs (i := 0) (Z := Z) (st := g 11 0) (by omega) h16 hZ Z 0 k_N k_N 0 K B g (k_up (k_up (k_up gc 0 0 5 (nI (y + Z))) 0 0 6 (g 0 0 6 + (0 + L0))) 5 0 0 0) (by omega) (by omega) (by omega) hn rfl hK (by rw [hg1 5 0 1 (by omega) (by omega) (by omega)]; exact hR.1.2.2.2.2.2.2.2.1) (fun c hc => by rw [hg1 31 0 c (by omega) (by omega) (by omega)]; exact (hR.2.1.2.2.2 c hc).2) (fun c p hc hp => by rw [hg1 32 0 _ (by omega) (by omega) (by omega), hg1 33 0 _ (by omega) (by omega) (by omega)]; exact hM c p hc hp)
    have hLL : (0 + L0, w0, gc) = (0 + L, w, gd') := Option.some.inj (c1.symm.trans d1)
    have hL : L0 = L := by
      have := congrArg (fun q => q.1) hLL
      simpa using this
    have hgd : gc = gd' := congrArg (fun q => q.2.2) hLL
    subst hL
    subst hgd
    have eg : ∀ t j q, ¬ ((t = 20 ∨ t = 21) ∧ j < 16) → t ≠ 0 → (t = 5 → q ≠ 0) → t ≠ 32 → t ≠ 33 → t ≠ 38 → g2 t j q = g t j q := fun t j q a1 a2 a3 a4 a5 a6 => by
      rw [d6 t j (by omega), hg1 t j q a1 a2 a3]
    refine ⟨0, 0 + L0, k_up (k_up gc 0 0 5 (nI (y + Z))) 0 0 6 (g 0 0 6 + (0 + L0)), 0 + L0, g2, 0, ?_, ?_, Or.inl ⟨rfl, rfl⟩, ?_, fun _ => rfl, n, nw, nu, y + Z, by omega, ?_⟩
    · have e6 : k_up gc 0 0 5 (nI (y + Z)) 0 0 6 = g 0 0 6 := by rw [k_up_at, if_neg (by omega)]; exact e06
      rw [f_X4_pass, f_X4_checkYears, if_neg hlo, if_pos hhi, q_bd2, if_pos rfl, f_X1_fray, show f_X1_fray_5 0 (nI Z) k_N 0 0 g = _ from c1, q_bd3, q_bd2, e05, nI_add, e6]
    · rw [f_X5_pass, i1, q_bd2, if_neg (by decide), show f_X5_pass_25 (nI Z) k_N 0 0 _ = _ from d2, q_bd3]
    · rw [d6 5 0 (by omega), k_up_at, if_pos ⟨rfl, rfl, rfl⟩]
    · have z38 : ∀ q, k_up (k_up (k_up gc 0 0 5 (nI (y + Z))) 0 0 6 (g 0 0 6 + (0 + L0))) 5 0 0 0 38 0 q = g 38 0 q := fun q => hg1 38 0 q (by omega) (by omega) (by omega)
      have z0 : ∀ q, g2 0 0 q = k_up (k_up gc 0 0 5 (nI (y + Z))) 0 0 6 (g 0 0 6 + (0 + L0)) 0 0 q := fun q => by rw [d6 0 0 (by omega), k_up_at, if_neg (by omega)]
      have zc : ∀ t j, (t = 20 ∨ t = 21) → g2 t j = gc t j := fun t j ht => by
        rw [d6 t j (by omega)]
        funext q
        rw [k_up_at, if_neg (by omega), k_up_at, if_neg (by omega), k_up_at, if_neg (by omega)]
      have hR0 := hR
      obtain ⟨h1, h2, h3, h4, h5, h6, h7⟩ := hR
      refine ⟨?_, h2.of fun t i j ht => eg t i j (by omega) (by omega) (by omega) (by omega) (by omega) (by omega), fun c p hc hp => ?_, h4.of fun t i j ht => eg t i j (by omega) (by omega) (by omega) (by omega) (by omega) (by omega), (h5.of fun t i j ht => eg t i j (by omega) (by omega) (by omega) (by omega) (by omega) (by omega)).up (by omega), h6.of fun t i j ht => eg t i j (by omega) (by omega) (by omega) (by omega) (by omega) (by omega), ?_⟩
      · obtain ⟨a1, a2, a3, a4, a5, a6, a7, a8, a9, a10⟩ := h1
        refine ⟨a1, a2, a3, ?_, ?_, ?_, ?_, ?_, ?_, ?_⟩
        · rw [eg 1 0 4 (by omega) (by omega) (by omega) (by omega) (by omega) (by omega)]; exact a4
        · rw [eg 3 0 3 (by omega) (by omega) (by omega) (by omega) (by omega) (by omega)]; exact a5
        · rw [eg 4 0 1 (by omega) (by omega) (by omega) (by omega) (by omega) (by omega)]; exact a6
        · rw [z0, k_up_at, if_neg (by omega), k_up_at, if_pos ⟨rfl, rfl, rfl⟩]
        · rw [eg 5 0 1 (by omega) (by omega) (by omega) (by omega) (by omega) (by omega)]; exact a8
        · rw [eg 5 0 2 (by omega) (by omega) (by omega) (by omega) (by omega) (by omega)]; exact a9
        · rw [eg 5 0 3 (by omega) (by omega) (by omega) (by omega) (by omega) (by omega)]; exact a10
      · have e1 := d3 c p hc hp
        have e2 := d4 c p hc hp
        rw [q_16] at e1
        rw [zc 20 c (by omega), zc 21 c (by omega), e1.1, e1.2.1, e2.1, e2.2.1]
        exact ⟨⟨_, e1.2.2.1, rfl⟩, ⟨_, e1.2.2.2, rfl⟩, rfl, rfl⟩
      · constructor
        · rw [d7, z38, z0, k_up_at, if_neg (by omega), k_up_at, if_pos ⟨rfl, rfl, rfl⟩, h7.1, h1.2.2.2.2.2.2.1, nI_add]
        · rw [d8, z38, z0, k_up_at, if_pos ⟨rfl, rfl, rfl⟩, h7.2]
          grind
  · have hhi' : (50 : Int32) < x1 := Int32.not_le.mp hhi
    have i1 : ∀ g, f_X5_isIn x1 1 50 g = some (0, g) := fun g => by rw [q_isIn, if_pos (Or.inr hhi')]
    refine q_bad (k := 2) (kw := 1) h' (by decide) (r := 0) (b := 0) ?_ ?_ (by simp)
    · simp [f_X4_pass, f_X4_checkYears, hlo, hhi, q_bd2]
    · simp [f_X5_pass, i1, q_bd2, q_fail]
