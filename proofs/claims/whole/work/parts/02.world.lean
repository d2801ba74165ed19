/-! The world of both archives: tables t of cells i, each with a row of ints; all references stay as the constructors made them. -/
abbrev Gt : Type := Nat → Nat → Nat → Int32
def k_row (g : Gt) (t i : Nat) (f : Nat → Int32) : Gt := fun a b => if a = t ∧ b = i then f else g a b
def k_up (g : Gt) (t i j : Nat) (v : Int32) : Gt := k_row g t i (upd (g t i) j v)
theorem k_row_same (g : Gt) (t i : Nat) (f : Nat → Int32) : k_row g t i f t i = f := if_pos ⟨rfl, rfl⟩
theorem k_row_ne {g : Gt} {t i a b : Nat} {f : Nat → Int32} (h : ¬ (a = t ∧ b = i)) : k_row g t i f a b = g a b := if_neg h
theorem k_up_at (g : Gt) (t i j : Nat) (v : Int32) (a b c : Nat) : k_up g t i j v a b c = if a = t ∧ b = i ∧ c = j then v else g a b c := by
  unfold k_up k_row upd
  by_cases h : a = t ∧ b = i
  · obtain ⟨rfl, rfl⟩ := h
    by_cases hc : c = j <;> simp [hc]
  · rw [if_neg h, if_neg (fun q => h ⟨q.1, q.2.1⟩)]
/-- the parameters: D, the class of int[], the class of int[][], the addresses, the heap's size when the law began -/
abbrev k_Pm : Type := va_G × ClassId × ClassId × (Nat → Nat → Nat) × Nat
abbrev k_ad (Γ : k_Pm) : Nat → Nat → Nat := Γ.2.2.2.1
abbrev k_b0 (Γ : k_Pm) : Nat := Γ.2.2.2.2
/-- how many cells a table has -/
def k_cnt (t : Nat) : Nat := [1, 1, 2, 1, 1, 1, 0, 0, 0, 0, 1, 1, 1, 1, 2, 2, 1, 1, 1, 1, 32, 32, 6, 6, 30, 0, 0, 0, 0, 0, 1, 1, 1, 1, 1, 1, 1, 1, 1, 1, 1, 1].getD t 0
def k_off (t : Nat) : Nat := [0, 1, 2, 4, 5, 6, 7, 7, 7, 7, 7, 8, 9, 10, 11, 13, 15, 16, 17, 18, 19, 51, 83, 89, 95, 125, 125, 125, 125, 125, 125, 126, 127, 128, 129, 130, 131, 132, 133, 134, 135, 136].getD t 0
def k_len (t : Nat) : Nat := [0, 0, 0, 0, 0, 0, 0, 0, 0, 0, 16, 16, 16, 16, 16, 16, 6, 6, 6, 30, 4, 4, 16, 16, 5, 0, 0, 0, 0, 0, 16, 16, 64, 64, 6, 96, 96, 150, 2, 16, 16, 16].getD t 0
/-- the table of the cells that an array of arrays holds, and which of them stands at j -/
def k_ch (t : Nat) : Nat := if t = 14 then 20 else if t = 15 then 21 else if t = 17 then 22 else if t = 18 then 23 else 24
def k_ci (t i j : Nat) : Nat := if t = 14 then 16 * i + j else if t = 15 then 16 * i + j else j
def k_isA (t : Nat) : Bool := t == 14 || t == 15 || t == 17 || t == 18 || t == 19
def k_isI (t : Nat) : Bool := decide (10 ≤ t) && !(k_isA t)
def k_E (Γ : k_Pm) (f : Nat → Int32) (t i : Nat) : va_E :=
  if t = 0 then .inr (6, [.ref (k_ad Γ 1 0), .ref (k_ad Γ 2 0), .ref (k_ad Γ 2 1), .ref (k_ad Γ 3 0), .ref (k_ad Γ 4 0), .int (f 5), .int (f 6)])
  else if t = 1 then .inr (2, [.ref (k_ad Γ 10 0), .ref (k_ad Γ 11 0), .ref (k_ad Γ 12 0), .ref (k_ad Γ 13 0), .int (f 4)])
  else if t = 2 then .inr (3, [.ref (k_ad Γ 14 i), .ref (k_ad Γ 15 i)])
  else if t = 3 then .inr (5, [.ref (k_ad Γ 16 0), .ref (k_ad Γ 17 0), .ref (k_ad Γ 18 0), .int (f 3)])
  else if t = 4 then .inr (4, [.ref (k_ad Γ 19 0), .int (f 1)])
  else if t = 5 then .inr (7, [.int (f 0), .int (f 1), .int (f 2), .int (f 3), .ref (k_ad Γ 30 0), .ref (k_ad Γ 31 0), .ref (k_ad Γ 32 0), .ref (k_ad Γ 33 0), .ref (k_ad Γ 34 0), .ref (k_ad Γ 35 0), .ref (k_ad Γ 36 0), .ref (k_ad Γ 37 0), .ref (k_ad Γ 38 0), .ref (k_ad Γ 39 0), .ref (k_ad Γ 40 0), .ref (k_ad Γ 41 0)])
  else if k_isA t = true then .inl (Γ.2.2.1, k_len t, .inr (.inr (.inr (.inr (fun j => some (k_ad Γ (k_ch t) (k_ci t i j)))))))
  else .inl (Γ.2.1, k_len t, .inl f)
def k_ids : List (Nat × Nat) := (List.range 42).flatMap (fun t => (List.range (k_cnt t)).map (fun i => (t, i)))
def k_W (Γ : k_Pm) (g : Gt) : va_W := k_ids.map (fun q => (k_ad Γ q.1 q.2, k_E Γ (g q.1 q.2) q.1 q.2))
theorem k_ids_at0 : ∀ t, t < 42 → ∀ i, i < k_cnt t → k_ids[k_off t + i]? = some (t, i) := by decide +kernel
theorem k_ids_lt : ∀ q ∈ k_ids, q.1 < 42 ∧ q.2 < k_cnt q.1 := by decide +kernel
theorem k_ids_nd : k_ids.Nodup := by decide +kernel
theorem k_cnt_lt {t i : Nat} (h : i < k_cnt t) : t < 42 := by
  rcases Nat.lt_or_ge t 42 with h1 | h1
  · exact h1
  · exfalso
    have : k_cnt t = 0 := by
      unfold k_cnt
      rw [List.getD_eq_getElem?_getD, List.getElem?_eq_none (by simpa using h1)]
      rfl
    omega
theorem k_ids_at {t i : Nat} (h : i < k_cnt t) : k_ids[k_off t + i]? = some (t, i) := k_ids_at0 t (k_cnt_lt h) i h
theorem k_get (Γ : k_Pm) (g : Gt) (tmp : va_W) {t i : Nat} (h : i < k_cnt t) : (k_W Γ g ++ tmp)[k_off t + i]? = some (k_ad Γ t i, k_E Γ (g t i) t i) := by
  have h1 := k_ids_at h
  have hl : k_off t + i < (k_W Γ g).length := by
    rw [k_W, List.length_map]
    exact (List.getElem?_eq_some_iff.mp h1).1
  rw [List.getElem?_append_left hl, k_W, List.getElem?_map, h1]
  rfl
theorem k_getI (Γ : k_Pm) (g : Gt) (tmp : va_W) {t i : Nat} (h : i < k_cnt t) (hI : k_isI t = true) : (k_W Γ g ++ tmp)[k_off t + i]? = some (k_ad Γ t i, .inl (Γ.2.1, k_len t, .inl (g t i))) := by
  rw [k_get Γ g tmp h]
  have h2 : k_isA t = false ∧ 10 ≤ t := by
    unfold k_isI at hI
    simp only [Bool.and_eq_true, decide_eq_true_eq, Bool.not_eq_true'] at hI
    exact ⟨hI.2, hI.1⟩
  unfold k_E
  rw [if_neg (by omega), if_neg (by omega), if_neg (by omega), if_neg (by omega), if_neg (by omega), if_neg (by omega), if_neg (by rw [h2.1]; decide)]
theorem k_getA (Γ : k_Pm) (g : Gt) (tmp : va_W) {t i : Nat} (h : i < k_cnt t) (hA : k_isA t = true) (ht : 10 ≤ t) : (k_W Γ g ++ tmp)[k_off t + i]? = some (k_ad Γ t i, .inl (Γ.2.2.1, k_len t, .inr (.inr (.inr (.inr (fun j => some (k_ad Γ (k_ch t) (k_ci t i j)))))))) := by
  rw [k_get Γ g tmp h]
  unfold k_E
  rw [if_neg (by omega), if_neg (by omega), if_neg (by omega), if_neg (by omega), if_neg (by omega), if_neg (by omega), if_pos hA]
theorem k_set (Γ : k_Pm) (g : Gt) (tmp : va_W) {t i : Nat} (h : i < k_cnt t) {f : Nat → Int32} {e : va_E} (he : e = k_E Γ f t i) : (k_W Γ g ++ tmp).set (k_off t + i) (k_ad Γ t i, e) = k_W Γ (k_row g t i f) ++ tmp := by
  subst he
  have h1 := k_ids_at h
  have hi : k_off t + i < k_ids.length := (List.getElem?_eq_some_iff.mp h1).1
  have hl : k_off t + i < (k_W Γ g).length := by rw [k_W, List.length_map]; exact hi
  rw [List.set_append_left _ _ hl]
  congr 1
  apply List.ext_getElem?
  intro k
  rw [List.getElem?_set]
  by_cases hk : k_off t + i = k
  · subst hk
    rw [if_pos rfl, if_pos hl, k_W, List.getElem?_map, h1]
    simp only [Option.map_some, k_row_same]
  · rw [if_neg hk]
    simp only [k_W, List.getElem?_map]
    cases hq : k_ids[k]? with
    | none => rfl
    | some q =>
      have hne : ¬ (q.1 = t ∧ q.2 = i) := by
        rintro ⟨e1, e2⟩
        have hk2 : k_ids[k]? = k_ids[k_off t + i]? := by
          rw [hq, h1]
          exact congrArg some (Prod.ext e1 e2)
        have hkl : k < k_ids.length := (List.getElem?_eq_some_iff.mp hq).1
        exact hk (((List.getElem?_inj hkl k_ids_nd).mp hk2).symm)
      simp only [Option.map_some]
      rw [k_row_ne hne]
/-- the addresses of the world: apart, and of a kind -/
theorem k_D {A : Nat → Prop} {Γ : k_Pm} {g g' : Gt} {tmp : va_W} (h : va_D A (k_W Γ g ++ tmp)) : va_D A (k_W Γ g' ++ tmp) := by
  have key : ∀ (k : Nat) (q : Nat × va_E), (k_W Γ g' ++ tmp)[k]? = some q → ∃ q0, (k_W Γ g ++ tmp)[k]? = some q0 ∧ q0.1 = q.1 := by
    intro k q hk
    by_cases hl : k < (k_W Γ g').length
    · rw [List.getElem?_append_left hl, k_W, List.getElem?_map] at hk
      have hl2 : k < (k_W Γ g).length := by
        rw [k_W, List.length_map] at hl ⊢
        exact hl
      rw [List.getElem?_append_left hl2, k_W, List.getElem?_map]
      cases hq : k_ids[k]? with
      | none => rw [hq] at hk; cases hk
      | some z =>
        rw [hq] at hk
        refine ⟨_, rfl, ?_⟩
        rw [← Option.some.inj hk]
    · have e : (k_W Γ g').length = (k_W Γ g).length := by simp [k_W]
      rw [List.getElem?_append_right (by omega), e] at hk
      rw [List.getElem?_append_right (by omega)]
      exact ⟨q, hk, rfl⟩
  refine ⟨fun i j x y hx hy hxy => ?_, fun k q hk => ?_⟩
  · obtain ⟨x0, h1, e1⟩ := key i x hx
    obtain ⟨y0, h2, e2⟩ := key j y hy
    exact h.1 i j x0 y0 h1 h2 (by rw [e1, e2, hxy])
  · obtain ⟨q0, h1, e1⟩ := key k q hk
    rw [← e1]
    exact h.2 k q0 h1
/-- which cells a method of the two archives may change: the world's, and those that it makes -/
def k_A (Γ : k_Pm) (sz : Nat) : Nat → Prop := fun q => (∃ t i, i < k_cnt t ∧ q = k_ad Γ t i) ∨ sz ≤ q
theorem k_P_left {D : va_G} {cl : List vw_C} {w1 w2 : va_W} {H : Heap} (h : va_P D cl (w1 ++ w2) H) : va_P D cl w1 H := fun k q hk => h k q (by rw [List.getElem?_append_left (List.getElem?_eq_some_iff.mp hk).1]; exact hk)
theorem k_P_right {D : va_G} {cl : List vw_C} {w1 w2 : va_W} {H : Heap} (h : va_P D cl (w1 ++ w2) H) : va_P D cl w2 H := fun k q hk => h (w1.length + k) q (by rw [List.getElem?_append_right (by omega)]; simpa using hk)
theorem k_P_nil {D : va_G} {cl : List vw_C} {w1 : va_W} {H : Heap} (h : va_P D cl w1 H) : va_P D cl (w1 ++ []) H := by rw [List.append_nil]; exact h
theorem k_D_left {A : Nat → Prop} {w1 w2 : va_W} (h : va_D A (w1 ++ w2)) : va_D A w1 := by
  have g : ∀ (k : Nat) (q : Nat × va_E), w1[k]? = some q → (w1 ++ w2)[k]? = some q := fun k q hk => by rw [List.getElem?_append_left (List.getElem?_eq_some_iff.mp hk).1]; exact hk
  exact ⟨fun i j x y hx hy hxy => h.1 i j x y (g i x hx) (g j y hy) hxy, fun k q hk => h.2 k q (g k q hk)⟩
/-- the world's cells, by their addresses -/
theorem k_mem {Γ : k_Pm} {g : Gt} {k : Nat} {q : Nat × va_E} (h : (k_W Γ g)[k]? = some q) : ∃ t i, i < k_cnt t ∧ q.1 = k_ad Γ t i := by
  rw [k_W, List.getElem?_map] at h
  cases hz : k_ids[k]? with
  | none => rw [hz] at h; cases h
  | some z =>
    rw [hz] at h
    refine ⟨z.1, z.2, (k_ids_lt z (List.mem_of_getElem? hz)).2, ?_⟩
    rw [← Option.some.inj h]
theorem k_DA {Γ : k_Pm} {g g' : Gt} {A : Nat → Prop} {sz : Nat} (h : va_D A (k_W Γ g)) : va_D (k_A Γ sz) (k_W Γ g') := by
  have h1 : va_D A (k_W Γ g' ++ []) := k_D (g := g) (by rw [List.append_nil]; exact h)
  rw [List.append_nil] at h1
  refine ⟨h1.1, fun k q hk => Or.inl ?_⟩
  obtain ⟨t, i, h2, h3⟩ := k_mem hk
  exact ⟨t, i, h2, h3⟩
/-- behind a call: the world as the callee left it, beside the caller's own cells -/
theorem k_join {Γ : k_Pm} {cl : List vw_C} {g g' : Gt} {tmp : va_W} {A0 : Nat → Prop} {H H1 : Heap} (hP : va_P Γ.1 cl (k_W Γ g ++ tmp) H) (hD : va_D A0 (k_W Γ g ++ tmp)) (hk : ∀ q : Nat, q < H.size → ¬ k_A Γ H.size q → H1[q]? = H[q]?) (hP1 : va_P Γ.1 cl (k_W Γ g') H1) : va_P Γ.1 cl (k_W Γ g' ++ tmp) H1 := by
  refine va_P.app hP1 (fun k q hq => ?_)
  have hr := k_P_right hP k q hq
  refine hr.kept (hk q.1 hr.lt ?_)
  rintro (⟨t, i, h1, h2⟩ | h)
  · have e1 : (k_W Γ g ++ tmp)[(k_W Γ g).length + k]? = some q := by rw [List.getElem?_append_right (by omega)]; simpa using hq
    have e2 := k_get Γ g tmp h1
    have hlt : k_off t + i < (k_W Γ g).length := by
      rw [k_W, List.length_map]
      exact (List.getElem?_eq_some_iff.mp (k_ids_at h1)).1
    have := hD.1 _ _ _ _ e1 e2 h2
    omega
  · exact absurd hr.lt (Nat.not_lt.mpr h)
