/-! the initial world -/
def kz_g0 : Gt := fun t i j => if t = 36 ∧ j < 96 then -1 else 0
theorem q_Rel0 : q_Rel 0 kz_g0 := by
  refine ⟨0, 0, 0, 0, Nat.le_refl _, ⟨by omega, by omega, by omega, rfl, rfl, rfl, rfl, rfl, rfl, rfl⟩, ⟨fun c hc => by omega, fun c hc => by omega, fun c hc => by omega, fun c hc => by omega⟩, fun c p hc hp => ⟨⟨0, by omega, rfl⟩, ⟨0, by omega, rfl⟩, rfl, rfl⟩, fun w hw => by omega, ⟨fun w c hw => by omega, fun w c h1 h2 h3 => ?_⟩, fun u j hu => by omega, rfl, rfl⟩
  unfold kz_g0
  rw [if_pos ⟨rfl, by omega⟩]
