/-- the reference's tables but for its scratch -/
def q_F (g g' : Gt) : Prop := ∀ t j, ¬ t = 39 → ¬ t = 40 → ¬ t = 41 → g' t j = g t j
theorem q_F.rf (g : Gt) : q_F g g := fun _ _ _ _ _ => rfl
theorem q_F.tr {g g' g'' : Gt} (h : q_F g g') (h' : q_F g' g'') : q_F g g'' := fun t j a b c => (h' t j a b c).trans (h t j a b c)
/-- as the class's cords are told in g, and the reference stands in g2 -/
def q_B (n nw nu y : Nat) (g g2 : Gt) : Prop := q_R n nw nu y g ∧ (∀ c, c < n → q_TL n (g 10 0) (g 11 0) (fun c => q_dg (g 20 c)) (g 12 0) (g 13 0) c) ∧ (∀ t i j, ¬ t = 39 → ¬ t = 40 → ¬ t = 41 → ¬ (t = 5 ∧ j = 0) → g2 t i j = g t i j)
theorem q_B.to {n nw nu y : Nat} {g g2 g3 : Gt} (h : q_B n nw nu y g g2) (hF : q_F g2 g3) : q_B n nw nu y g g3 := ⟨h.1, h.2.1, fun t i j a b c d => by rw [hF t i a b c]; exact h.2.2 t i j a b c d⟩
theorem q_B.told {n nw nu y c : Nat} {x : Int32} {g g2 : Gt} (h : q_B n nw nu y g g2) (hc : c < n) : ∃ g', f_X5_cordTold (nI c) x g2 = some (q_gv n g c x, g') ∧ q_F g2 g' := by
  obtain ⟨g', e1, e2, _⟩ := q_told2 (x := x) h.1 h.2.1 hc h.2.2
  exact ⟨g', e1, e2⟩
theorem q_B.n5 {n nw nu y : Nat} {g g2 : Gt} (h : q_B n nw nu y g g2) : g2 5 0 1 = nI n ∧ g2 5 0 2 = nI nw ∧ g2 5 0 3 = nI nu := by
  obtain ⟨h1, h2, h3⟩ := h
  rw [h3 5 0 1 (by omega) (by omega) (by omega) (by omega), h3 5 0 2 (by omega) (by omega) (by omega) (by omega), h3 5 0 3 (by omega) (by omega) (by omega) (by omega)]
  exact ⟨h1.1.2.2.2.2.2.2.2.1, h1.1.2.2.2.2.2.2.2.2⟩
theorem q_i64 {k : Nat} (h : k < 64) : k_ib (nI k) 64 = true := q_ib h (by omega)
theorem q_t63 {n : Nat} {x : Int32} {g2 : Gt} {f : Nat → Nat → Int32} (hn : g2 5 0 1 = nI n) (h16 : n ≤ 16) (hf : ∀ c p, c < 16 → p < 4 → g2 32 0 (4 * c + p) = f c p) : ∀ (m k N : Nat) (v : Int32), k + m = n → 4 * m < N → ∃ w, f_X5_told_63 x N v (nI (4 * k)) g2 = some (q_sk f m k v, w, g2)
  | 0, k, N + 1, v, hk, hN => ⟨_, by
    rw [f_X5_told_63, hn, q_4, pk_mul, if_pos ((nI_leI (by omega) (by omega)).mpr (by omega)), q_sk]⟩
  | m + 1, k, N + 1 + 1 + 1 + 1 + 1, v, hk, hN => by
    obtain ⟨w, hw⟩ := q_t63 (x := x) hn h16 hf m (k + 1) (N + 1) (v + f k 0 + f k 1 + f k 2 + f k 3) (by omega) (by omega)
    have hk16 : k < 16 := by omega
    refine ⟨w, ?_⟩
    rw [f_X5_told_63, hn, q_4, pk_mul, if_neg (by rw [nI_leI (by omega) (by omega)]; omega), q_i64 (by omega), q_gt, nI_clamp (by omega), nI_1]
    rw [f_X5_told_63, hn, q_4, pk_mul, if_neg (by rw [nI_leI (by omega) (by omega)]; omega), q_i64 (by omega), q_gt, nI_clamp (by omega), nI_1]
    rw [f_X5_told_63, hn, q_4, pk_mul, if_neg (by rw [nI_leI (by omega) (by omega)]; omega), q_i64 (by omega), q_gt, nI_clamp (by omega), nI_1]
    rw [f_X5_told_63, hn, q_4, pk_mul, if_neg (by rw [nI_leI (by omega) (by omega)]; omega), q_i64 (by omega), q_gt, nI_clamp (by omega), nI_1]
    have a0 := hf k 0 hk16 (by omega)
    rw [Nat.add_zero] at a0
    rw [a0, hf k 1 hk16 (by omega), show 4 * k + 1 + 1 = 4 * k + 2 from rfl, hf k 2 hk16 (by omega), show 4 * k + 2 + 1 = 4 * k + 3 from rfl, hf k 3 hk16 (by omega), show 4 * k + 3 + 1 = 4 * (k + 1) from by omega, hw, q_sk]
theorem q_t97a {n nw nu y : Nat} {g : Gt} : ∀ (m k N : Nat) (v : Int32) (g2 : Gt), q_B n nw nu y g g2 → k + m = n → m < N → ∃ w g', f_X5_told_97 5 N v (nI k) g2 = some (q_sm (fun c => 1 - q_gv n g c 6) m k v, w, g') ∧ q_F g2 g'
  | 0, k, N + 1, v, g2, hB, hk, hN => by
    have h16 := hB.1.1.1
    exact ⟨_, g2, by rw [f_X5_told_97, hB.n5.1, if_pos ((nI_leI (by omega) (by omega)).mpr (by omega)), q_sm], q_F.rf _⟩
  | m + 1, k, N + 1, v, g2, hB, hk, hN => by
    have h16 := hB.1.1.1
    obtain ⟨g3, e1, e2⟩ := hB.told (x := 6) (c := k) (by omega)
    obtain ⟨w, g', f1, f2⟩ := q_t97a m (k + 1) N (v + (1 - q_gv n g k 6)) g3 (hB.to e2) (by omega) (by omega)
    exact ⟨w, g', by rw [f_X5_told_97, hB.n5.1, if_neg (by rw [nI_leI (by omega) (by omega)]; omega), if_pos rfl, e1, q_bd2, nI_1, f1, q_sm], e2.tr f2⟩
theorem q_gv3 (n c : Nat) (g : Gt) : q_gv n g c 3 = g 12 0 c := rfl
theorem q_t97b {n nw nu y : Nat} {g : Gt} : ∀ (m k N : Nat) (v : Int32) (g2 : Gt), q_B n nw nu y g g2 → k + m = n → m < N → ∃ w g', f_X5_told_97 6 N v (nI k) g2 = some (q_sm (fun c => if g 10 0 c = -1 then g 12 0 c else 0) m k v, w, g') ∧ q_F g2 g'
  | 0, k, N + 1, v, g2, hB, hk, hN => by
    have h16 := hB.1.1.1
    exact ⟨_, g2, by rw [f_X5_told_97, hB.n5.1, if_pos ((nI_leI (by omega) (by omega)).mpr (by omega)), q_sm], q_F.rf _⟩
  | m + 1, k, N + 1, v, g2, hB, hk, hN => by
    have h16 := hB.1.1.1
    have h30 : g2 30 0 k = g 10 0 k := by
      rw [hB.2.2 30 0 k (by omega) (by omega) (by omega) (by omega)]
      exact (hB.1.2.1.2.2.2 k (by omega)).1
    by_cases h : g 10 0 k = -1
    · obtain ⟨g3, e1, e2⟩ := hB.told (x := 3) (c := k) (by omega)
      obtain ⟨w, g', f1, f2⟩ := q_t97b m (k + 1) N (v + g 12 0 k) g3 (hB.to e2) (by omega) (by omega)
      exact ⟨w, g', by rw [f_X5_told_97, hB.n5.1, if_neg (by rw [nI_leI (by omega) (by omega)]; omega), if_neg (by decide), q_ib (show k < 16 by omega) (by omega), q_gt, q_c31 (show k < 16 by omega) (by omega), h30, if_pos h, e1, q_bd2, nI_1, q_gv3, f1, q_sm, if_pos h], e2.tr f2⟩
    · obtain ⟨w, g', f1, f2⟩ := q_t97b m (k + 1) N (v + 0) g2 hB (by omega) (by omega)
      exact ⟨w, g', by rw [f_X5_told_97, hB.n5.1, if_neg (by rw [nI_leI (by omega) (by omega)]; omega), if_neg (by decide), q_ib (show k < 16 by omega) (by omega), q_gt, q_c31 (show k < 16 by omega) (by omega), h30, if_neg h, nI_1, f1, q_sm, if_neg h], f2⟩
theorem q_X5tt {n nw nu y : Nat} {x : Int32} {g g2 : Gt} (hB : q_B n nw nu y g g2) : ∃ g', f_X5_told x g2 = some (q_tt n g x, g') ∧ q_F g2 g' := by
  have hN : k_N = 200 := rfl
  have hR := hB.1
  have h16 := hR.1.1
  have h5 := hB.n5
  have e380 : g2 38 0 0 = g 0 0 5 := by rw [hB.2.2 38 0 0 (by omega) (by omega) (by omega) (by omega)]; exact hR.2.2.2.2.2.2.1
  have e381 : g2 38 0 1 = g 0 0 6 := by rw [hB.2.2 38 0 1 (by omega) (by omega) (by omega) (by omega)]; exact hR.2.2.2.2.2.2.2
  have e0 : ((0 : Int32)).toNatClampNeg = 0 := rfl
  have e1 : ((1 : Int32)).toNatClampNeg = 1 := rfl
  rw [f_X5_told, q_tt, e0, e1, e380, e381, h5.1, h5.2.1, h5.2.2, hR.1.2.2.2.1, hR.1.2.2.2.2.1, hR.1.2.2.2.2.2.1]
  by_cases h0 : x = 0
  · rw [if_pos h0, if_pos h0]; exact ⟨g2, rfl, q_F.rf _⟩
  rw [if_neg h0, if_neg h0]
  by_cases h1 : x = 1
  · rw [if_pos h1, if_pos h1]; exact ⟨g2, rfl, q_F.rf _⟩
  rw [if_neg h1, if_neg h1]
  by_cases h2 : x = 2
  · rw [if_pos h2, if_pos h2]; exact ⟨g2, rfl, q_F.rf _⟩
  rw [if_neg h2, if_neg h2]
  by_cases h3 : x = 3
  · rw [if_pos h3, if_pos h3]
    obtain ⟨w, hw⟩ := q_t63 (x := x) (f := g 20) h5.1 h16 (fun c p hc hp => by rw [hB.2.2 32 0 _ (by omega) (by omega) (by omega) (by omega)]; exact (hR.2.2.1 c p hc hp).2.2.1) n 0 k_N 0 (by omega) (by omega)
    rw [Nat.mul_zero, ← q_0] at hw
    exact ⟨g2, by rw [hw, q_bd3], q_F.rf _⟩
  rw [if_neg h3, if_neg h3]
  by_cases h4 : x = 4
  · rw [if_pos h4, if_pos h4]; exact ⟨g2, rfl, q_F.rf _⟩
  rw [if_neg h4, if_neg h4]
  by_cases h5 : x = 5
  · rw [if_pos h5, if_pos h5]
    obtain ⟨w, g', f1, f2⟩ := q_t97a n 0 k_N 0 g2 hB (by omega) (by omega)
    rw [← q_0] at f1
    subst h5
    exact ⟨g', by rw [f1, q_bd3], f2⟩
  rw [if_neg h5, if_neg h5]
  by_cases h6 : x = 6
  · rw [if_pos h6, if_pos h6]
    obtain ⟨w, g', f1, f2⟩ := q_t97b n 0 k_N 0 g2 hB (by omega) (by omega)
    rw [← q_0] at f1
    subst h6
    exact ⟨g', by rw [f1, q_bd3], f2⟩
  rw [if_neg h6, if_neg h6]
  exact ⟨g2, rfl, q_F.rf _⟩
theorem q_B0 {n nw nu y : Nat} {g : Gt} (hR : q_R n nw nu y g) (hT : ∀ c, c < n → q_TL n (g 10 0) (g 11 0) (fun c => q_dg (g 20 c)) (g 12 0) (g 13 0) c) : q_B n nw nu y g (k_up g 5 0 0 0) := ⟨hR, hT, fun t i j _ _ _ hj => by rw [k_up_at, if_neg (by omega)]⟩
theorem q_s_count {Y : Nat} {g : Gt} (h : q_Rel Y g) (x1 : Int32) : Sim q_Rel Y (fun k kw => (k = 0 ∧ kw = 0) ∨ (k = 1 ∧ kw = 1)) (f_X4_count x1 g) (f_X5_count_ x1) := by
  have h' := h
  obtain ⟨n, nw, nu, y, hy, hR⟩ := h
  have h16 := hR.1.1
  rcases q_in x1 8 (by omega) with ⟨q, hq, rfl⟩ | hb
  · have e3 : f_X4_checkWhat (nI q) 8 g = some (0, g) := q_ck1 (m := 8) (by omega) hq
    obtain ⟨g1, t1, t2, t3, t4, t5⟩ := q_tell0 hR
    have e1 : f_X5_isIn (nI q) 0 7 (k_up g1 5 0 0 0) = some (1, k_up g1 5 0 0 0) := q_isIn1 (n := 8) hq (by omega)
    obtain ⟨g2, u1, u2⟩ := q_X5tt (x := nI q) (q_B0 t4 t5)
    refine q_ro h' (k := 0) (kw := 0) (r := q_tt n g1 (nI q)) (b := q_tt n g1 (nI q)) (g1 := g1) (g2 := g2) ?_ t3 ?_ ((q_E.th g1 0).tr (q_E.rk u2)) (Or.inl ⟨rfl, rfl⟩) ?_ (fun _ => rfl)
    · simp [f_X4_count, q_bd2, q_bd1, e3, t1, q_X4tt t4.1.2.2.2.1 h16 t4.2.1.1]
    · simp [f_X5_count_, q_bd2, e1, u1]
    · rw [u2 5 0 (by omega) (by omega) (by omega), k_up_at, if_pos ⟨rfl, rfl, rfl⟩]
  · have e1 : f_X5_isIn x1 0 7 (k_up g 5 0 0 0) = some (0, k_up g 5 0 0 0) := q_isIn0 (n := 8) hb (by omega)
    have e3 : f_X4_checkWhat x1 8 g = some (1, g) := q_ck0 (m := 8) hb
    refine q_bad (k := 1) (kw := 1) h' (by decide) (r := 0) (b := 0) ?_ ?_ (Or.inr ⟨rfl, rfl⟩)
    · simp [f_X4_count, q_bd2, e3]
    · simp [f_X5_count_, q_bd2, e1, q_fail]
/-! digest -/
def q_it (F : Nat → Int64 → Int64) : Nat → Nat → Int64 → Int64
  | 0, _, v => v
  | m + 1, k, v => q_it F m (k + 1) (F k v)
theorem q_it_s (F : Nat → Int64 → Int64) (m k : Nat) (v : Int64) : q_it F (m + 1) k v = q_it F m (k + 1) (F k v) := rfl
def q_d1 (f : Nat → Int32) : Nat → Int64 → Int64 := fun k v => v * 31 + (f k).toInt64
def q_d2 (f f' : Nat → Int32) : Nat → Int64 → Int64 := fun k v => (v * 31 + (f k).toInt64) * 31 + (f' k).toInt64
def q_dC (n : Nat) (g : Gt) : Nat → Int64 → Int64 := fun c v => q_it (q_d2 (g 20 c) (g 21 c)) 4 0 (q_it (q_d1 fun x => q_gv n g c (nI x)) 8 0 v)
def q_dR (g : Gt) (w : Nat) : Nat → Int64 → Int64 := fun c v => q_it (q_d1 fun x => q_rv g w c (nI x)) 3 0 v
def q_dW (n : Nat) (g : Gt) : Nat → Int64 → Int64 := fun w v => q_it (q_dR g w) n 0 (v * 31 + (g 16 0 w).toInt64)
def q_dU (g : Gt) : Nat → Int64 → Int64 := fun u v => q_it (q_d1 (g 24 u)) 5 0 v
theorem q_dC_at (n : Nat) (g : Gt) (c : Nat) (v : Int64) : q_dC n g c v = q_it (q_d2 (g 20 c) (g 21 c)) 4 0 (q_it (q_d1 fun x => q_gv n g c (nI x)) 8 0 v) := rfl
theorem q_dR_at (g : Gt) (w c : Nat) (v : Int64) : q_dR g w c v = q_it (q_d1 fun x => q_rv g w c (nI x)) 3 0 v := rfl
theorem q_dW_at (n : Nat) (g : Gt) (w : Nat) (v : Int64) : q_dW n g w v = q_it (q_dR g w) n 0 (v * 31 + (g 16 0 w).toInt64) := rfl
theorem q_dU_at (g : Gt) (u : Nat) (v : Int64) : q_dU g u v = q_it (q_d1 (g 24 u)) 5 0 v := rfl
theorem q_d1_at (f : Nat → Int32) (k : Nat) (v : Int64) : q_d1 f k v = v * 31 + (f k).toInt64 := rfl
theorem q_d2_at (f f' : Nat → Int32) (k : Nat) (v : Int64) : q_d2 f f' k v = (v * 31 + (f k).toInt64) * 31 + (f' k).toInt64 := rfl
theorem q_x17 {n : Nat} {g : Gt} (hn : g 1 0 4 = nI n) (h16 : n ≤ 16) (hup : q_up (g 10 0) n) : ∀ (m k N : Nat) (v : Int64), k + m = 8 → m < N → f_X4_digest_17 N v (nI k) g = some (q_it (q_d1 fun x => q_tt n g (nI x)) m k v, nI 8, g)
  | 0, k, N + 1, v, hk, hN => by
    rw [f_X4_digest_17, show (8 : Int32) = nI 8 from rfl, if_pos ((nI_leI (by omega) (by omega)).mpr (by omega)), show k = 8 from by omega, q_it]
  | m + 1, k, N + 1, v, hk, hN => by
    rw [f_X4_digest_17, show (8 : Int32) = nI 8 from rfl, if_neg (by rw [nI_leI (by omega) (by omega)]; omega), q_X4tt hn h16 hup, q_bd2, nI_1, q_x17 hn h16 hup m (k + 1) N _ (by omega) (by omega), q_it, q_d1_at]
theorem q_x20 {n c : Nat} {z : Int64} {g : Gt} (hn : g 1 0 4 = nI n) (h16 : n ≤ 16) (hup : q_up (g 10 0) n) (hc : c < n) : ∀ (m k N : Nat) (v : Int64), k + m = 8 → m < N → f_X4_digestCords_20 (nI c) z N v (nI k) g = some (q_it (q_d1 fun x => q_gv n g c (nI x)) m k v, nI 8, g)
  | 0, k, N + 1, v, hk, hN => by
    rw [f_X4_digestCords_20, show (8 : Int32) = nI 8 from rfl, if_pos ((nI_leI (by omega) (by omega)).mpr (by omega)), show k = 8 from by omega, q_it]
  | m + 1, k, N + 1, v, hk, hN => by
    rw [f_X4_digestCords_20, show (8 : Int32) = nI 8 from rfl, if_neg (by rw [nI_leI (by omega) (by omega)]; omega), q_cdet hn h16 hup hc, q_bd2, nI_1, q_x20 hn h16 hup hc m (k + 1) N _ (by omega) (by omega), q_it, q_d1_at]
theorem q_x52 {c : Nat} {z : Int64} {g : Gt} (hc : c < 16) : ∀ (m k N : Nat) (v : Int64), k + m = 4 → m < N → f_X4_digestCords_52 (nI c) z N v (nI k) g = some (q_it (q_d2 (g 20 c) (g 21 c)) m k v, nI 4, g)
  | 0, k, N + 1, v, hk, hN => by
    rw [f_X4_digestCords_52, q_4, if_pos ((nI_leI (by omega) (by omega)).mpr (by omega)), show k = 4 from by omega, q_it]
  | m + 1, k, N + 1, v, hk, hN => by
    rw [f_X4_digestCords_52, q_4, if_neg (by rw [nI_leI (by omega) (by omega)]; omega), q_ib hc (by omega), q_ib (show k < 4 by omega) (by omega), q_gt, q_gt, q_gt, q_gt, q_c31 hc (by omega), q_c31 (show k < 4 by omega) (by omega), nI_1, q_x52 hc m (k + 1) N _ (by omega) (by omega), q_it, q_16]
    rfl
theorem q_x5 {n : Nat} {z : Int64} {g : Gt} (hn : g 1 0 4 = nI n) (h16 : n ≤ 16) (hup : q_up (g 10 0) n) : ∀ (m k N : Nat) (v : Int64), k + m = n → m < N → f_X4_digestCords_5 z N v (nI k) g = some (q_it (q_dC n g) m k v, nI n, g)
  | 0, k, N + 1, v, hk, hN => by
    rw [f_X4_digestCords_5, hn, if_pos ((nI_leI (by omega) (by omega)).mpr (by omega)), show k = n from by omega, q_it]
  | m + 1, k, N + 1, v, hk, hN => by
    have hN' : k_N = 200 := rfl
    rw [f_X4_digestCords_5, hn, if_neg (by rw [nI_leI (by omega) (by omega)]; omega), q_0, q_x20 hn h16 hup (by omega) 8 0 k_N v (by omega) (by omega), q_bd3, q_x52 (by omega) 4 0 k_N _ (by omega) (by omega), q_bd3, nI_1, q_x5 hn h16 hup m (k + 1) N _ (by omega) (by omega), q_it_s (q_dC n g) m k v, q_dC_at]
theorem q_x53 {w c : Nat} {z : Int64} {g : Gt} (hw : w < 6) (hc : c < 16) : ∀ (m k N : Nat) (v : Int64), k + m = 3 → m < N → f_X4_digestWitnesses_53 (nI c) (nI w) z N v (nI k) g = some (q_it (q_d1 fun x => q_rv g w c (nI x)) m k v, nI 3, g)
  | 0, k, N + 1, v, hk, hN => by
    rw [f_X4_digestWitnesses_53, q_3, if_pos ((nI_leI (by omega) (by omega)).mpr (by omega)), show k = 3 from by omega, q_it]
  | m + 1, k, N + 1, v, hk, hN => by
    rw [f_X4_digestWitnesses_53, q_3, if_neg (by rw [nI_leI (by omega) (by omega)]; omega), q_X3mem hw hc, q_bd2, nI_1, q_x53 hw hc m (k + 1) N _ (by omega) (by omega), q_it, q_d1_at]
theorem q_x38 {w n : Nat} {z : Int64} {g : Gt} (hn : g 1 0 4 = nI n) (h16 : n ≤ 16) (hw : w < 6) : ∀ (m k N : Nat) (v : Int64), k + m = n → m < N → f_X4_digestWitnesses_38 (nI w) z N v (nI k) g = some (q_it (q_dR g w) m k v, nI n, g)
  | 0, k, N + 1, v, hk, hN => by
    rw [f_X4_digestWitnesses_38, hn, if_pos ((nI_leI (by omega) (by omega)).mpr (by omega)), show k = n from by omega, q_it]
  | m + 1, k, N + 1, v, hk, hN => by
    have hN' : k_N = 200 := rfl
    rw [f_X4_digestWitnesses_38, hn, if_neg (by rw [nI_leI (by omega) (by omega)]; omega), q_0, q_x53 hw (by omega) 3 0 k_N v (by omega) (by omega), q_bd3, nI_1, q_x38 hn h16 hw m (k + 1) N _ (by omega) (by omega), q_it_s (q_dR g w) m k v, q_dR_at]
theorem q_xw5 {n nw : Nat} {z : Int64} {g : Gt} (hn : g 1 0 4 = nI n) (h16 : n ≤ 16) (hw : g 3 0 3 = nI nw) (h6 : nw ≤ 6) : ∀ (m k N : Nat) (v : Int64), k + m = nw → m < N → f_X4_digestWitnesses_5 z N v (nI k) g = some (q_it (q_dW n g) m k v, nI nw, g)
  | 0, k, N + 1, v, hk, hN => by
    rw [f_X4_digestWitnesses_5, hw, if_pos ((nI_leI (by omega) (by omega)).mpr (by omega)), show k = nw from by omega, q_it]
  | m + 1, k, N + 1, v, hk, hN => by
    have hN' : k_N = 200 := rfl
    rw [f_X4_digestWitnesses_5, hw, if_neg (by rw [nI_leI (by omega) (by omega)]; omega), q_ib (show k < 6 by omega) (by omega), q_gt, q_c31 (show k < 6 by omega) (by omega), q_0, q_x38 hn h16 (by omega) n 0 k_N _ (by omega) (by omega), q_bd3, nI_1, q_xw5 hn h16 hw h6 m (k + 1) N _ (by omega) (by omega), q_it_s (q_dW n g) m k v, q_dW_at]
theorem q_xu20 {u : Nat} {z : Int64} {g : Gt} (hu : u < 30) : ∀ (m k N : Nat) (v : Int64), k + m = 5 → m < N → f_X4_digestUntyings_20 (nI u) z N v (nI k) g = some (q_it (q_d1 (g 24 u)) m k v, nI 5, g)
  | 0, k, N + 1, v, hk, hN => by
    rw [f_X4_digestUntyings_20, show (5 : Int32) = nI 5 from rfl, if_pos ((nI_leI (by omega) (by omega)).mpr (by omega)), show k = 5 from by omega, q_it]
  | m + 1, k, N + 1, v, hk, hN => by
    rw [f_X4_digestUntyings_20, show (5 : Int32) = nI 5 from rfl, if_neg (by rw [nI_leI (by omega) (by omega)]; omega), q_ib hu (by omega), q_ib (show k < 5 by omega) (by omega), q_gt, q_gt, q_c31 hu (by omega), q_c31 (show k < 5 by omega) (by omega), nI_1, q_xu20 hu m (k + 1) N _ (by omega) (by omega), q_it, q_d1_at]
theorem q_xu5 {nu : Nat} {z : Int64} {g : Gt} (hu : g 4 0 1 = nI nu) (h30 : nu ≤ 30) : ∀ (m k N : Nat) (v : Int64), k + m = nu → m < N → f_X4_digestUntyings_5 z N v (nI k) g = some (q_it (q_dU g) m k v, nI nu, g)
  | 0, k, N + 1, v, hk, hN => by
    rw [f_X4_digestUntyings_5, hu, if_pos ((nI_leI (by omega) (by omega)).mpr (by omega)), show k = nu from by omega, q_it]
  | m + 1, k, N + 1, v, hk, hN => by
    have hN' : k_N = 200 := rfl
    rw [f_X4_digestUntyings_5, hu, if_neg (by rw [nI_leI (by omega) (by omega)]; omega), q_0, q_xu20 (by omega) 5 0 k_N v (by omega) (by omega), q_bd3, nI_1, q_xu5 hu h30 m (k + 1) N _ (by omega) (by omega), q_it_s (q_dU g) m k v, q_dU_at]
def q_dv (n nw nu : Nat) (g : Gt) : Int64 := q_it (q_dU g) nu 0 (q_it (q_dW n g) nw 0 (q_it (q_dC n g) n 0 (q_it (q_d1 fun x => q_tt n g (nI x)) 8 0 797)))
theorem q_X4dig {n nw nu y : Nat} {g : Gt} (hR : q_R n nw nu y g) : ∃ g1, f_X4_digest g = some (q_dv n nw nu g1, g1) ∧ q_E g g1 ∧ q_B n nw nu y g1 (k_up g1 5 0 0 0) := by
  obtain ⟨g1, t1, t2, t3, t4, t5⟩ := q_tell0 hR
  have hN' : k_N = 200 := rfl
  have h16 := t4.1.1
  have hn := t4.1.2.2.2.1
  have hup := t4.2.1.1
  refine ⟨g1, ?_, t3, q_B0 t4 t5⟩
  rw [f_X4_digest, t1, q_bd1, q_0, q_x17 hn h16 hup 8 0 k_N 797 (by omega) (by omega), q_bd3, f_X4_digestCords, q_0, q_x5 hn h16 hup n 0 k_N _ (by omega) (by omega), q_bd3, q_bd2, f_X4_digestWitnesses, q_0, q_xw5 hn h16 t4.1.2.2.2.2.1 t4.1.2.1 nw 0 k_N _ (by omega) (by have := t4.1.2.1; omega), q_bd3, q_bd2, f_X4_digestUntyings, q_0, q_xu5 t4.1.2.2.2.2.2.1 t4.1.2.2.1 nu 0 k_N _ (by omega) (by have := t4.1.2.2.1; omega), q_bd3, q_bd2]
  rfl
theorem q_y11 {n nw nu y : Nat} {g : Gt} : ∀ (m k N : Nat) (v : Int64) (g2 : Gt), q_B n nw nu y g g2 → k + m = 8 → m < N → ∃ w g', f_X5_digest_11 N v (nI k) g2 = some (q_it (q_d1 fun x => q_tt n g (nI x)) m k v, w, g') ∧ q_F g2 g'
  | 0, k, N + 1, v, g2, hB, hk, hN => ⟨_, g2, by rw [f_X5_digest_11, show (8 : Int32) = nI 8 from rfl, if_pos ((nI_leI (by omega) (by omega)).mpr (by omega)), q_it], q_F.rf _⟩
  | m + 1, k, N + 1, v, g2, hB, hk, hN => by
    obtain ⟨g3, e1, e2⟩ := q_X5tt (x := nI k) hB
    obtain ⟨w, g', f1, f2⟩ := q_y11 m (k + 1) N (v * 31 + (q_tt n g (nI k)).toInt64) g3 (hB.to e2) (by omega) (by omega)
    exact ⟨w, g', by rw [f_X5_digest_11, show (8 : Int32) = nI 8 from rfl, if_neg (by rw [nI_leI (by omega) (by omega)]; omega), e1, q_bd2, nI_1, f1, q_it, q_d1_at], e2.tr f2⟩
theorem q_y49 {n nw nu y c : Nat} {g : Gt} (hc : c < n) : ∀ (m k N : Nat) (v : Int64) (g2 : Gt), q_B n nw nu y g g2 → k + m = 8 → m < N → ∃ w g', f_X5_digest_49 (nI c) N v (nI k) g2 = some (q_it (q_d1 fun x => q_gv n g c (nI x)) m k v, w, g') ∧ q_F g2 g'
  | 0, k, N + 1, v, g2, hB, hk, hN => ⟨_, g2, by rw [f_X5_digest_49, show (8 : Int32) = nI 8 from rfl, if_pos ((nI_leI (by omega) (by omega)).mpr (by omega)), q_it], q_F.rf _⟩
  | m + 1, k, N + 1, v, g2, hB, hk, hN => by
    obtain ⟨g3, e1, e2⟩ := hB.told (x := nI k) hc
    obtain ⟨w, g', f1, f2⟩ := q_y49 hc m (k + 1) N (v * 31 + (q_gv n g c (nI k)).toInt64) g3 (hB.to e2) (by omega) (by omega)
    exact ⟨w, g', by rw [f_X5_digest_49, show (8 : Int32) = nI 8 from rfl, if_neg (by rw [nI_leI (by omega) (by omega)]; omega), e1, q_bd2, nI_1, f1, q_it, q_d1_at], e2.tr f2⟩
theorem q_y80 {c : Nat} {g g2 : Gt} (hc : c < 16) (h3 : ∀ p, p < 4 → g2 32 0 (4 * c + p) = g 20 c p ∧ g2 33 0 (4 * c + p) = g 21 c p) : ∀ (m k N : Nat) (v : Int64), k + m = 4 → m < N → f_X5_digest_80 (nI c) N v (nI k) g2 = some (q_it (q_d2 (g 20 c) (g 21 c)) m k v, nI 4, g2)
  | 0, k, N + 1, v, hk, hN => by
    rw [f_X5_digest_80, q_4, if_pos ((nI_leI (by omega) (by omega)).mpr (by omega)), show k = 4 from by omega, q_it]
  | m + 1, k, N + 1, v, hk, hN => by
    rw [f_X5_digest_80, q_m4, if_neg (by rw [q_4, nI_leI (by omega) (by omega)]; omega), q_i4 hc (show k < 4 by omega), q_gt, q_gt, q_c4 hc (show k < 4 by omega), (h3 k (by omega)).1, (h3 k (by omega)).2, nI_1, q_y80 hc h3 m (k + 1) N _ (by omega) (by omega), q_it, q_d2_at]
theorem q_B.k {n nw nu y : Nat} {g g2 : Gt} (h : q_B n nw nu y g g2) {c : Nat} (hc : c < 16) : ∀ p, p < 4 → g2 32 0 (4 * c + p) = g 20 c p ∧ g2 33 0 (4 * c + p) = g 21 c p := fun p hp => by
  rw [h.2.2 32 0 _ (by omega) (by omega) (by omega) (by omega), h.2.2 33 0 _ (by omega) (by omega) (by omega) (by omega)]
  exact (h.1.2.2.1 c p hc hp).2.2
theorem q_y38 {n nw nu y : Nat} {g : Gt} : ∀ (m k N : Nat) (v : Int64) (g2 : Gt), q_B n nw nu y g g2 → k + m = n → m < N → ∃ w g', f_X5_digest_38 N v (nI k) g2 = some (q_it (q_dC n g) m k v, w, g') ∧ q_F g2 g'
  | 0, k, N + 1, v, g2, hB, hk, hN => by
    have h16 := hB.1.1.1
    exact ⟨_, g2, by rw [f_X5_digest_38, hB.n5.1, if_pos ((nI_leI (by omega) (by omega)).mpr (by omega)), q_it], q_F.rf _⟩
  | m + 1, k, N + 1, v, g2, hB, hk, hN => by
    have h16 := hB.1.1.1
    have hN' : k_N = 200 := rfl
    obtain ⟨w0, g3, e1, e2⟩ := q_y49 (c := k) (by omega) 8 0 k_N v g2 hB (by omega) (by omega)
    have hB3 := hB.to e2
    obtain ⟨w, g', f1, f2⟩ := q_y38 m (k + 1) N (q_dC n g k v) g3 hB3 (by omega) (by omega)
    exact ⟨w, g', by rw [f_X5_digest_38, hB.n5.1, if_neg (by rw [nI_leI (by omega) (by omega)]; omega), q_0, e1, q_bd3, q_y80 (by omega) (hB3.k (by omega)) 4 0 k_N _ (by omega) (by omega), q_bd3, nI_1, ← q_dC_at, f1, q_it_s (q_dC n g) m k v], e2.tr f2⟩
theorem q_y173 {w c y : Nat} {g g2 : Gt} (hw : w < 6) (hc : c < 16) (hy : y < 2 ^ 31) (hv : g2 36 0 (16 * w + c) = g 23 w c ∧ ((g 23 w c = -1 ∧ g 22 w c = -1) ∨ (∃ y', y' ≤ y ∧ g 23 w c = nI y') ∧ g2 35 0 (16 * w + c) = g 22 w c)) : ∀ (m k N : Nat) (v : Int64), k + m = 3 → m < N → f_X5_digest_173 (nI c) (nI w) N v (nI k) g2 = some (q_it (q_d1 fun x => q_rv g w c (nI x)) m k v, nI 3, g2)
  | 0, k, N + 1, v, hk, hN => by
    rw [f_X5_digest_173, q_3, if_pos ((nI_leI (by omega) (by omega)).mpr (by omega)), show k = 3 from by omega, q_it]
  | m + 1, k, N + 1, v, hk, hN => by
    rw [f_X5_digest_173, q_3, if_neg (by rw [nI_leI (by omega) (by omega)]; omega), q_X5rem (y := y) hw hc (by omega) hv hy, q_bd2, nI_1, q_y173 hw hc hy hv m (k + 1) N _ (by omega) (by omega), q_it, q_d1_at]
theorem q_B.w {n nw nu y : Nat} {g g2 : Gt} (h : q_B n nw nu y g g2) {w c : Nat} (hw : w < nw) (hc : c < 16) : g2 36 0 (16 * w + c) = g 23 w c ∧ ((g 23 w c = -1 ∧ g 22 w c = -1) ∨ (∃ y', y' ≤ y ∧ g 23 w c = nI y') ∧ g2 35 0 (16 * w + c) = g 22 w c) := by
  rw [h.2.2 36 0 _ (by omega) (by omega) (by omega) (by omega), h.2.2 35 0 _ (by omega) (by omega) (by omega) (by omega)]
  exact h.1.2.2.2.2.1.1 w c hw hc
theorem q_y161 {n nw nu y w : Nat} {g g2 : Gt} (hB : q_B n nw nu y g g2) (hw : w < nw) (hy : y < 2 ^ 31) : ∀ (m k N : Nat) (v : Int64), k + m = n → m < N → f_X5_digest_161 (nI w) N v (nI k) g2 = some (q_it (q_dR g w) m k v, nI n, g2)
  | 0, k, N + 1, v, hk, hN => by
    have h16 := hB.1.1.1
    rw [f_X5_digest_161, hB.n5.1, if_pos ((nI_leI (by omega) (by omega)).mpr (by omega)), show k = n from by omega, q_it]
  | m + 1, k, N + 1, v, hk, hN => by
    have h16 := hB.1.1.1
    have h6 := hB.1.1.2.1
    have hN' : k_N = 200 := rfl
    rw [f_X5_digest_161, hB.n5.1, if_neg (by rw [nI_leI (by omega) (by omega)]; omega), q_0, q_y173 (y := y) (by omega) (by omega) hy (hB.w hw (by omega)) 3 0 k_N v (by omega) (by omega), q_bd3, nI_1, q_y161 hB hw hy m (k + 1) N _ (by omega) (by omega), q_it_s (q_dR g w) m k v, q_dR_at]
theorem q_y136 {n nw nu y : Nat} {g g2 : Gt} (hB : q_B n nw nu y g g2) (hy : y < 2 ^ 31) : ∀ (m k N : Nat) (v : Int64), k + m = nw → m < N → f_X5_digest_136 N v (nI k) g2 = some (q_it (q_dW n g) m k v, nI nw, g2)
  | 0, k, N + 1, v, hk, hN => by
    have h6 := hB.1.1.2.1
    rw [f_X5_digest_136, hB.n5.2.1, if_pos ((nI_leI (by omega) (by omega)).mpr (by omega)), show k = nw from by omega, q_it]
  | m + 1, k, N + 1, v, hk, hN => by
    have h16 := hB.1.1.1
    have h6 := hB.1.1.2.1
    have hN' : k_N = 200 := rfl
    have h34 : g2 34 0 k = g 16 0 k := by
      rw [hB.2.2 34 0 k (by omega) (by omega) (by omega) (by omega)]
      exact (hB.1.2.2.2.1 k (by omega)).2
    rw [f_X5_digest_136, hB.n5.2.1, if_neg (by rw [nI_leI (by omega) (by omega)]; omega), q_ib (show k < 6 by omega) (by omega), q_gt, q_c31 (show k < 6 by omega) (by omega), q_0, h34, q_y161 hB (by omega) hy n 0 k_N _ (by omega) (by omega), q_bd3, nI_1, q_y136 hB hy m (k + 1) N _ (by omega) (by omega), q_it_s (q_dW n g) m k v, q_dW_at]
theorem q_i150 {k : Nat} (h : k < 150) : k_ib (nI k) 150 = true := q_ib h (by omega)
theorem q_y216 {nu : Nat} {g g2 : Gt} (hn : g2 5 0 3 = nI nu) (h30 : nu ≤ 30) (hf : ∀ u j, u < nu → j < 5 → g2 37 0 (5 * u + j) = g 24 u j) : ∀ (m k N : Nat) (v : Int64), k + m = nu → 5 * m < N → ∃ w, f_X5_digest_216 N v (nI (5 * k)) g2 = some (q_it (q_dU g) m k v, w, g2)
  | 0, k, N + 1, v, hk, hN => ⟨_, by
    rw [f_X5_digest_216, hn, show (5 : Int32) = nI 5 from rfl, pk_mul, if_pos ((nI_leI (by omega) (by omega)).mpr (by omega)), q_it]⟩
  | m + 1, k, N + 1 + 1 + 1 + 1 + 1 + 1, v, hk, hN => by
    obtain ⟨w, hw⟩ := q_y216 hn h30 hf m (k + 1) (N + 1) (q_dU g k v) (by omega) (by omega)
    refine ⟨w, ?_⟩
    rw [f_X5_digest_216, hn, show (5 : Int32) = nI 5 from rfl, pk_mul, if_neg (by rw [nI_leI (by omega) (by omega)]; omega), q_i150 (by omega), q_gt, nI_clamp (by omega), nI_1]
    rw [f_X5_digest_216, hn, show (5 : Int32) = nI 5 from rfl, pk_mul, if_neg (by rw [nI_leI (by omega) (by omega)]; omega), q_i150 (by omega), q_gt, nI_clamp (by omega), nI_1]
    rw [f_X5_digest_216, hn, show (5 : Int32) = nI 5 from rfl, pk_mul, if_neg (by rw [nI_leI (by omega) (by omega)]; omega), q_i150 (by omega), q_gt, nI_clamp (by omega), nI_1]
    rw [f_X5_digest_216, hn, show (5 : Int32) = nI 5 from rfl, pk_mul, if_neg (by rw [nI_leI (by omega) (by omega)]; omega), q_i150 (by omega), q_gt, nI_clamp (by omega), nI_1]
    rw [f_X5_digest_216, hn, show (5 : Int32) = nI 5 from rfl, pk_mul, if_neg (by rw [nI_leI (by omega) (by omega)]; omega), q_i150 (by omega), q_gt, nI_clamp (by omega), nI_1]
    have a0 := hf k 0 (by omega) (by omega)
    rw [Nat.add_zero] at a0
    rw [a0, hf k 1 (by omega) (by omega), show 5 * k + 1 + 1 = 5 * k + 2 from rfl, hf k 2 (by omega) (by omega), show 5 * k + 2 + 1 = 5 * k + 3 from rfl, hf k 3 (by omega) (by omega), show 5 * k + 3 + 1 = 5 * k + 4 from rfl, hf k 4 (by omega) (by omega), show 5 * k + 4 + 1 = 5 * (k + 1) from by omega, q_it_s (q_dU g) m k v]
    exact hw
theorem q_X5dig {n nw nu y : Nat} {g g2 : Gt} (hB : q_B n nw nu y g (k_up g2 5 0 0 0)) (hy : y < 2 ^ 31) : ∃ g', f_X5_digest g2 = some (q_dv n nw nu g, g') ∧ q_F (k_up g2 5 0 0 0) g' := by
  have hN' : k_N = 200 := rfl
  have h16 := hB.1.1.1
  have h6 := hB.1.1.2.1
  have h30 := hB.1.1.2.2.1
  obtain ⟨w1, g3, a1, a2⟩ := q_y11 8 0 k_N 797 _ hB (by omega) (by omega)
  have hB3 := hB.to a2
  obtain ⟨w2, g4, b1, b2⟩ := q_y38 n 0 k_N (q_it (q_d1 fun x => q_tt n g (nI x)) 8 0 797) g3 hB3 (by omega) (by omega)
  have hB4 := hB3.to b2
  obtain ⟨w3, c1⟩ := q_y216 (g := g) (g2 := g4) hB4.n5.2.2 h30 (fun u j hu hj => by rw [hB4.2.2 37 0 _ (by omega) (by omega) (by omega) (by omega)]; exact hB4.1.2.2.2.2.2.1 u j hu hj) nu 0 k_N (q_it (q_dW n g) nw 0 (q_it (q_dC n g) n 0 (q_it (q_d1 fun x => q_tt n g (nI x)) 8 0 797))) (by omega) (by omega)
  rw [Nat.mul_zero] at c1
  rw [q_0] at a1
  exact ⟨g4, by rw [f_X5_digest, q_0, a1, q_bd3, b1, q_bd3, q_y136 hB4 hy nw 0 k_N _ (by omega) (by omega), q_bd3, c1, q_bd3]; rfl, a2.tr b2⟩
theorem q_ro2 {α : Type} {g g1 g2 : Gt} {Y : Nat} {r : α} {fx : Option (α × Gt)} {fm : Gt → Option (α × Gt)} (h : q_Rel Y g) (hfx : fx = some (r, g1)) (h1 : q_E g g1) (hfm : fm g1 = some (r, g2)) (h2 : q_E g1 g2) : Sim2 q_Rel Y fx fm := by
  obtain ⟨n, nw, nu, y, hy, hR⟩ := h
  exact ⟨r, g1, g2, hfx, hfm, n, nw, nu, y, by omega, hR.of (h1.tr h2)⟩
theorem q_s_digest {Y : Nat} {g : Gt} (h : q_Rel Y g) (hY : Y < 2 ^ 31) : Sim2 q_Rel Y (f_X4_digest g) f_X5_digest := by
  have h' := h
  obtain ⟨n, nw, nu, y, hy, hR⟩ := h
  obtain ⟨g1, e1, e2, e3⟩ := q_X4dig hR
  obtain ⟨g2, f1, f2⟩ := q_X5dig e3 (by omega)
  exact q_ro2 h' e1 e2 f1 ((q_E.th g1 0).tr (q_E.rk f2))
