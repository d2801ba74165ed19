/-! the relation of the two archives, in groups -/
def q_sc (t i j : Nat) : Prop := t = 12 ∨ t = 13 ∨ (t = 20 ∧ 16 ≤ i) ∨ (t = 21 ∧ 16 ≤ i) ∨ t = 39 ∨ t = 40 ∨ t = 41 ∨ (t = 5 ∧ j = 0)
def q_E (g g' : Gt) : Prop := ∀ t i j, ¬ q_sc t i j → g' t i j = g t i j
def q_I1 (n nw nu y : Nat) (g : Gt) : Prop := n ≤ 16 ∧ nw ≤ 6 ∧ nu ≤ 30 ∧ g 1 0 4 = nI n ∧ g 3 0 3 = nI nw ∧ g 4 0 1 = nI nu ∧ g 0 0 5 = nI y ∧ g 5 0 1 = nI n ∧ g 5 0 2 = nI nw ∧ g 5 0 3 = nI nu
def q_I2 (n : Nat) (g : Gt) : Prop := q_up (g 10 0) n ∧ (∀ c, c < n → ∃ s, s ≤ 4 ∧ g 11 0 c = nI s) ∧ (∀ t, t < n → (q_kl (g 10 0) (nI t) n 0).length ≤ 6) ∧ (∀ c, c < n → g 30 0 c = g 10 0 c ∧ g 31 0 c = g 11 0 c)
def q_I3 (g : Gt) : Prop := ∀ c p, c < 16 → p < 4 → (∃ k, k ≤ 9 ∧ g 20 c p = nI k) ∧ (∃ k, k ≤ 9 ∧ g 21 c p = nI k) ∧ g 32 0 (4 * c + p) = g 20 c p ∧ g 33 0 (4 * c + p) = g 21 c p
def q_I4 (nw : Nat) (g : Gt) : Prop := ∀ w, w < nw → (∃ k, k ≤ 20 ∧ g 16 0 w = nI k) ∧ g 34 0 w = g 16 0 w
def q_I5 (nw Y : Nat) (g : Gt) : Prop := (∀ w c, w < nw → c < 16 → g 36 0 (16 * w + c) = g 23 w c ∧ ((g 23 w c = -1 ∧ g 22 w c = -1) ∨ (∃ y, y ≤ Y ∧ g 23 w c = nI y) ∧ g 35 0 (16 * w + c) = g 22 w c)) ∧ (∀ w c, nw ≤ w → w < 6 → c < 16 → g 36 0 (16 * w + c) = -1)
def q_I6 (nu : Nat) (g : Gt) : Prop := ∀ u j, u < nu → j < 5 → g 37 0 (5 * u + j) = g 24 u j
def q_I7 (g : Gt) : Prop := g 38 0 0 = g 0 0 5 ∧ g 38 0 1 = g 0 0 6
def q_R (n nw nu y : Nat) (g : Gt) : Prop := q_I1 n nw nu y g ∧ q_I2 n g ∧ q_I3 g ∧ q_I4 nw g ∧ q_I5 nw y g ∧ q_I6 nu g ∧ q_I7 g
def q_Rel (Y : Nat) (g : Gt) : Prop := ∃ n nw nu y, y ≤ Y ∧ q_R n nw nu y g
theorem q_I1.of {n nw nu y : Nat} {g g' : Gt} (h : q_I1 n nw nu y g) (e : ∀ t i j, t ≤ 4 ∨ (t = 5 ∧ j ≠ 0) → g' t i j = g t i j) : q_I1 n nw nu y g' := by
  obtain ⟨h1, h2, h3, h4, h5, h6, h7, h8, h9, h10⟩ := h
  refine ⟨h1, h2, h3, ?_, ?_, ?_, ?_, ?_, ?_, ?_⟩ <;> (rw [e _ _ _ (by omega)]; assumption)
theorem q_I2.of {n : Nat} {g g' : Gt} (h : q_I2 n g) (e : ∀ t i j, t = 10 ∨ t = 11 ∨ t = 30 ∨ t = 31 → g' t i j = g t i j) : q_I2 n g' := by
  have e10 : g' 10 0 = g 10 0 := by funext j; exact e 10 0 j (by omega)
  obtain ⟨h1, h2, h3, h4⟩ := h
  refine ⟨by rw [e10]; exact h1, fun c hc => by rw [e 11 0 c (by omega)]; exact h2 c hc, fun t ht => by rw [e10]; exact h3 t ht, fun c hc => by rw [e 30 0 c (by omega), e 31 0 c (by omega), e 10 0 c (by omega), e 11 0 c (by omega)]; exact h4 c hc⟩
theorem q_I3.of {g g' : Gt} (h : q_I3 g) (e : ∀ t i j, (t = 20 ∧ i < 16) ∨ (t = 21 ∧ i < 16) ∨ t = 32 ∨ t = 33 → g' t i j = g t i j) : q_I3 g' := fun c p hc hp => by
  rw [e 20 c p (by omega), e 21 c p (by omega), e 32 0 _ (by omega), e 33 0 _ (by omega)]
  exact h c p hc hp
theorem q_I4.of {nw : Nat} {g g' : Gt} (h : q_I4 nw g) (e : ∀ t i j, t = 16 ∨ t = 34 → g' t i j = g t i j) : q_I4 nw g' := fun w hw => by
  rw [e 16 0 w (by omega), e 34 0 w (by omega)]
  exact h w hw
theorem q_I5.of {nw Y : Nat} {g g' : Gt} (h : q_I5 nw Y g) (e : ∀ t i j, t = 22 ∨ t = 23 ∨ t = 35 ∨ t = 36 → g' t i j = g t i j) : q_I5 nw Y g' := ⟨fun w c hw hc => by
  rw [e 36 0 _ (by omega), e 35 0 _ (by omega), e 22 w c (by omega), e 23 w c (by omega)]
  exact h.1 w c hw hc, fun w c h1 h2 hc => by
  rw [e 36 0 _ (by omega)]
  exact h.2 w c h1 h2 hc⟩
theorem q_I5.up {nw Y Y' : Nat} {g : Gt} (h : q_I5 nw Y g) (hY : Y ≤ Y') : q_I5 nw Y' g := ⟨fun w c hw hc => by
  obtain ⟨h1, h2⟩ := h.1 w c hw hc
  refine ⟨h1, h2.imp_right fun h3 => ⟨?_, h3.2⟩⟩
  obtain ⟨y, hy, e⟩ := h3.1
  exact ⟨y, by omega, e⟩, h.2⟩
theorem q_I6.of {nu : Nat} {g g' : Gt} (h : q_I6 nu g) (e : ∀ t i j, t = 24 ∨ t = 37 → g' t i j = g t i j) : q_I6 nu g' := fun u j hu hj => by
  rw [e 24 u j (by omega), e 37 0 _ (by omega)]
  exact h u j hu hj
theorem q_I7.of {g g' : Gt} (h : q_I7 g) (e : ∀ t i j, t = 0 ∨ t = 38 → g' t i j = g t i j) : q_I7 g' := by
  unfold q_I7
  rw [e 38 0 0 (by omega), e 38 0 1 (by omega), e 0 0 5 (by omega), e 0 0 6 (by omega)]
  exact h
theorem q_E.rf (g : Gt) : q_E g g := fun _ _ _ _ => rfl
theorem q_E.tr {g g' g'' : Gt} (h : q_E g g') (h' : q_E g' g'') : q_E g g'' := fun t i j hs => (h' t i j hs).trans (h t i j hs)
theorem q_R.of {n nw nu y : Nat} {g g' : Gt} (h : q_R n nw nu y g) (hE : q_E g g') : q_R n nw nu y g' := by
  obtain ⟨h1, h2, h3, h4, h5, h6, h7⟩ := h
  refine ⟨h1.of ?_, h2.of ?_, h3.of ?_, h4.of ?_, h5.of ?_, h6.of ?_, h7.of ?_⟩ <;> (intro t i j h; exact hE t i j (by unfold q_sc; omega))
theorem q_Rel.up {Y Y' : Nat} {g : Gt} (h : q_Rel Y g) (hY : Y ≤ Y') : q_Rel Y' g := by
  obtain ⟨n, nw, nu, y, h1, h2⟩ := h
  exact ⟨n, nw, nu, y, by omega, h2⟩
theorem q_E.th (g : Gt) (v : Int32) : q_E g (k_up g 5 0 0 v) := fun t i j hs => by
  unfold q_sc at hs
  rw [k_up_at, if_neg (by omega)]
theorem q_E.tell {g g' : Gt} (h : ∀ t j, ¬ t = 12 → ¬ t = 13 → g' t j = g t j) : q_E g g' := fun t i j hs => by
  unfold q_sc at hs
  rw [h t i (by omega) (by omega)]
theorem q_E.rk {g g' : Gt} (h : ∀ t j, ¬ t = 39 → ¬ t = 40 → ¬ t = 41 → g' t j = g t j) : q_E g g' := fun t i j hs => by
  unfold q_sc at hs
  rw [h t i (by omega) (by omega) (by omega)]
/-! the checks -/
theorem q_in (x : Int32) (n : Nat) (hn : n < 2 ^ 31) : (∃ c, c < n ∧ x = nI c) ∨ (x < 0 ∨ (¬ x < 0 ∧ ¬ x < nI n)) := by
  by_cases h : x < 0
  · exact Or.inr (Or.inl h)
  · obtain ⟨j, hj, rfl⟩ := nI_of h
    by_cases h2 : j < n
    · exact Or.inl ⟨j, h2, rfl⟩
    · exact Or.inr (Or.inr ⟨h, by rw [nI_ltI hj hn]; exact h2⟩)
theorem q_isIn {x lo hi : Int32} {g : Gt} : f_X5_isIn x lo hi g = some (if x < lo ∨ hi < x then 0 else 1, g) := by
  unfold f_X5_isIn
  by_cases h1 : x < lo
  · rw [if_pos h1, if_pos (Or.inl h1)]
  · rw [if_neg h1]
    by_cases h2 : hi < x
    · rw [if_pos h2, if_pos (Or.inr h2)]
    · rw [if_neg h2, if_neg (by rintro (h | h) <;> contradiction)]
theorem q_ltl (a b : Int32) : (a < b) ↔ a.toInt < b.toInt := Int32.lt_iff_toInt_lt
theorem q_lel (a b : Int32) : (a ≤ b) ↔ a.toInt ≤ b.toInt := Int32.le_iff_toInt_le
theorem q_pred {n : Nat} (hn : n < 2 ^ 31) : (nI n - 1).toInt = (n : Int) - 1 := by
  cases n with
  | zero => decide
  | succ m => rw [q_m1, nI_toInt (by omega)]; omega
theorem q_isIn1 {c n : Nat} {g : Gt} (h : c < n) (hn : n < 2 ^ 31) : f_X5_isIn (nI c) 0 (nI n - 1) g = some (1, g) := by
  rw [q_isIn, if_neg]
  rw [q_ltl, q_ltl, q_pred hn, nI_toInt (by omega), show (0 : Int32).toInt = 0 from by decide]
  omega
theorem q_isIn0 {x : Int32} {n : Nat} {g : Gt} (h : x < 0 ∨ (¬ x < 0 ∧ ¬ x < nI n)) (hn : n < 2 ^ 31) : f_X5_isIn x 0 (nI n - 1) g = some (0, g) := by
  rw [q_isIn, if_pos]
  rw [q_ltl, q_ltl, nI_toInt hn] at h
  rw [q_ltl, q_ltl, q_pred hn]
  omega
section
variable {n nw nu y : Nat} {g : Gt}
theorem q_cc1 {c : Nat} (hn : g 1 0 4 = nI n) (h16 : n ≤ 16) (hc : c < n) : f_X4_checkCord (nI c) g = some (0, g) := by
  rw [f_X4_checkCord, hn, if_neg (nI_pos (by omega)), if_pos (nI_lt hc (by omega))]
theorem q_cc0 {x : Int32} (hn : g 1 0 4 = nI n) (h : x < 0 ∨ (¬ x < 0 ∧ ¬ x < nI n)) : f_X4_checkCord x g = some (1, g) := by
  rw [f_X4_checkCord, hn]
  rcases h with h | ⟨h1, h2⟩
  · rw [if_pos h]
  · rw [if_neg h1, if_neg h2]
theorem q_cw1 {c : Nat} (hn : g 3 0 3 = nI n) (h16 : n ≤ 16) (hc : c < n) : f_X4_checkWitness (nI c) g = some (0, g) := by
  rw [f_X4_checkWitness, hn, if_neg (nI_pos (by omega)), if_pos (nI_lt hc (by omega))]
theorem q_cw0 {x : Int32} (hn : g 3 0 3 = nI n) (h : x < 0 ∨ (¬ x < 0 ∧ ¬ x < nI n)) : f_X4_checkWitness x g = some (1, g) := by
  rw [f_X4_checkWitness, hn]
  rcases h with h | ⟨h1, h2⟩
  · rw [if_pos h]
  · rw [if_neg h1, if_neg h2]
theorem q_cp1 {c : Nat} (hc : c < 4) : f_X4_checkPlace (nI c) g = some (0, g) := by
  rw [f_X4_checkPlace, if_neg (nI_pos (by omega)), q_4, if_pos (nI_lt hc (by omega))]
theorem q_cp0 {x : Int32} (h : x < 0 ∨ (¬ x < 0 ∧ ¬ x < nI 4)) : f_X4_checkPlace x g = some (1, g) := by
  rw [f_X4_checkPlace, q_4]
  rcases h with h | ⟨h1, h2⟩
  · rw [if_pos h]
  · rw [if_neg h1, if_neg h2]
theorem q_ck1 {c m : Nat} (hm : m < 2 ^ 31) (hc : c < m) : f_X4_checkWhat (nI c) (nI m) g = some (0, g) := by
  rw [f_X4_checkWhat, if_neg (nI_pos (by omega)), if_pos (nI_lt hc (by omega))]
theorem q_ck0 {x : Int32} {m : Nat} (h : x < 0 ∨ (¬ x < 0 ∧ ¬ x < nI m)) : f_X4_checkWhat x (nI m) g = some (1, g) := by
  rw [f_X4_checkWhat]
  rcases h with h | ⟨h1, h2⟩
  · rw [if_pos h]
  · rw [if_neg h1, if_neg h2]
theorem q_ic1 {c : Nat} (hn : g 5 0 1 = nI n) (h16 : n ≤ 16) (hc : c < n) : f_X5_isCord (nI c) g = some (1, g) := by
  rw [f_X5_isCord, hn, q_isIn1 hc (by omega), q_bd2, q_gd (by decide)]
theorem q_ic0 {x : Int32} (hn : g 5 0 1 = nI n) (h16 : n ≤ 16) (h : x < 0 ∨ (¬ x < 0 ∧ ¬ x < nI n)) : f_X5_isCord x g = some (0, g) := by
  rw [f_X5_isCord, hn, q_isIn0 h (by omega), q_bd2, q_gd (by decide)]
theorem q_iw1 {c : Nat} (hn : g 5 0 2 = nI n) (h16 : n ≤ 16) (hc : c < n) : f_X5_isWitness (nI c) g = some (1, g) := by
  rw [f_X5_isWitness, hn, q_isIn1 hc (by omega), q_bd2, q_gd (by decide)]
theorem q_iw0 {x : Int32} (hn : g 5 0 2 = nI n) (h16 : n ≤ 16) (h : x < 0 ∨ (¬ x < 0 ∧ ¬ x < nI n)) : f_X5_isWitness x g = some (0, g) := by
  rw [f_X5_isWitness, hn, q_isIn0 h (by omega), q_bd2, q_gd (by decide)]
theorem q_fail {x : Int32} : f_X5_fail x g = some (0, k_up g 5 0 0 x) := rfl
end
