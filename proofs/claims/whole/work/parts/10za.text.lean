/-! the text of a line -/
def j_asc (f : Nat → Int32) (n : Nat) : Prop := ∀ i, i < n → ∃ ch, ch < 128 ∧ f i = nI ch
theorem j_asc_up {f : Nat → Int32} {k ch : Nat} (h : j_asc f k) (hc : ch < 128) : j_asc (upd f k (nI ch)) (k + 1) := fun i hi => by
  unfold upd
  by_cases e : i = k
  · exact ⟨ch, hc, by rw [if_pos e]⟩
  · rw [if_neg e]
    exact h i (by omega)
theorem j_asc_gc {f : Nat → Int32} {k u : Nat} (h : j_asc f k) (hu : u < 10000) : j_asc (j_gc f u (k + j_dc u)) (k + j_dc u) := fun i hi => by
  have hd : (u < 10 ∧ j_dc u = 1) ∨ (10 ≤ u ∧ u < 100 ∧ j_dc u = 2) ∨ (100 ≤ u ∧ u < 1000 ∧ j_dc u = 3) ∨ (1000 ≤ u ∧ j_dc u = 4) := by
    unfold j_dc
    split
    · omega
    · split
      · omega
      · split <;> omega
  rcases hd with ⟨h1, h2⟩ | ⟨h1, h3, h2⟩ | ⟨h1, h3, h2⟩ | ⟨h1, h2⟩
  · rw [h2] at hi ⊢
    unfold j_gc j_tl upd
    rw [if_pos (by omega), if_pos (by omega)]
    split
    · exact ⟨_, by omega, rfl⟩
    · exact h i (by omega)
  · rw [h2] at hi ⊢
    unfold j_gc j_tl upd
    rw [if_pos (by omega), if_neg (by omega)]
    split
    · exact ⟨_, by omega, rfl⟩
    · split
      · exact ⟨_, by omega, rfl⟩
      · exact h i (by omega)
  · rw [h2] at hi ⊢
    unfold j_gc j_tl upd
    rw [if_neg (by omega), if_pos (by omega)]
    split
    · exact ⟨_, by omega, rfl⟩
    · split
      · exact ⟨_, by omega, rfl⟩
      · split
        · exact ⟨_, by omega, rfl⟩
        · exact h i (by omega)
  · rw [h2] at hi ⊢
    unfold j_gc j_tl upd
    rw [if_neg (by omega), if_neg (by omega)]
    split
    · exact ⟨_, by omega, rfl⟩
    · split
      · exact ⟨_, by omega, rfl⟩
      · split
        · exact ⟨_, by omega, rfl⟩
        · split
          · exact ⟨_, by omega, rfl⟩
          · exact h i (by omega)
/-- cord : strand : digits -/
def j_tk (c s u : Nat) : Nat := 0 + j_dc c + 1 + j_dc s + 1 + j_dc u
def j_tx (c s u : Nat) : Nat → Int32 := j_gc (upd (j_gc (upd (j_gc (fun _ => 0) c (0 + j_dc c)) (0 + j_dc c) (nI 58)) s (0 + j_dc c + 1 + j_dc s)) (0 + j_dc c + 1 + j_dc s) (nI 58)) u (j_tk c s u)
theorem j_tx_asc {c s u : Nat} (hc : c < 10000) (hs : s < 10000) (hu : u < 10000) : j_asc (j_tx c s u) (j_tk c s u) :=
  j_asc_gc (j_asc_up (j_asc_gc (j_asc_up (j_asc_gc (fun i hi => by omega) hc) (by omega)) hs) (by omega)) hu
/-- the hash of a text's letters -/
def j_hs (f : Nat → Int32) : Nat → Nat → Int32 → Int32
  | 0, _, h => h
  | m + 1, k, h => j_hs f m (k + 1) (h * 31 + f k)
