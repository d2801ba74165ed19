/-! the world as the constructors leave it -/
def kz_ad (h4 h5 : Nat) (u : kz_U4) (v : Nat → Nat) : Nat → Nat → Nat := fun t i =>
  match t with
  | 0 => h4
  | 1 => u.1.1
  | 2 => if i = 0 then u.2.1.1 else u.2.2.1.1
  | 3 => u.2.2.2.1.1
  | 4 => u.2.2.2.2.1
  | 5 => h5
  | 10 => u.1.2.1
  | 11 => u.1.2.2.1
  | 12 => u.1.2.2.2.1
  | 13 => u.1.2.2.2.2
  | 14 => if i = 0 then u.2.1.2.1 else u.2.2.1.2.1
  | 15 => if i = 0 then u.2.1.2.2 else u.2.2.1.2.2
  | 16 => u.2.2.2.1.2.1
  | 17 => u.2.2.2.1.2.2.1
  | 18 => u.2.2.2.1.2.2.2
  | 19 => u.2.2.2.2.2
  | 20 => if i < 16 then u.2.1.2.1 + 1 + i else u.2.2.1.2.1 + 1 + (i - 16)
  | 21 => if i < 16 then u.2.1.2.2 + 1 + i else u.2.2.1.2.2 + 1 + (i - 16)
  | 22 => u.2.2.2.1.2.2.1 + 1 + i
  | 23 => u.2.2.2.1.2.2.2 + 1 + i
  | 24 => u.2.2.2.2.2 + 1 + i
  | t => v (t - 30)
def kz_E (Γ : k_Pm) (t i : Nat) : va_E := if k_isA t = true then kz_o Γ.2.2.1 (k_ad Γ t i) (k_len t) else k_E Γ (kz_g0 t i) t i
def kz_ws (Γ : k_Pm) : va_W := k_ids.map (fun q => (k_ad Γ q.1 q.2, kz_E Γ q.1 q.2))
def kz_pl : List Nat := [0, 1, 6, 41, 76, 92, 124, 2, 3, 4, 5, 7, 42, 24, 59, 77, 78, 85, 93, 8, 9, 10, 11, 12, 13, 14, 15, 16, 17, 18, 19, 20, 21, 22, 23, 43, 44, 45, 46, 47, 48, 49, 50, 51, 52, 53, 54, 55, 56, 57, 58, 25, 26, 27, 28, 29, 30, 31, 32, 33, 34, 35, 36, 37, 38, 39, 40, 60, 61, 62, 63, 64, 65, 66, 67, 68, 69, 70, 71, 72, 73, 74, 75, 79, 80, 81, 82, 83, 84, 86, 87, 88, 89, 90, 91, 94, 95, 96, 97, 98, 99, 100, 101, 102, 103, 104, 105, 106, 107, 108, 109, 110, 111, 112, 113, 114, 115, 116, 117, 118, 119, 120, 121, 122, 123, 125, 126, 127, 128, 129, 130, 131, 132, 133, 134, 135, 136]
theorem kz_pl_nd : va_nd kz_pl = true := by decide +kernel
def kz_yf : Nat → Int32 := fun j => if j < 96 then -1 else 0
set_option maxRecDepth 100000 in
set_option maxHeartbeats 4000000 in
theorem kz_perm (D : va_G) (cI cA : ClassId) (h4 h5 B0 : Nat) (u : kz_U4) (v : Nat → Nat) : kz_pl.map (fun k => (kz_X4 cI cA h4 u ++ kz_X5 cI h5 (fun j => kz_g0 36 0 j) v)[k]?) = (kz_ws (D, cI, cA, kz_ad h4 h5 u v, B0)).map some := by
  rfl
theorem kz_perm_P {D : va_G} {cl : List vw_C} {ws ws' : va_W} {H : Heap} {is : List Nat} (hs : is.map (fun i => ws[i]?) = ws'.map some) (hP : va_P D cl ws H) : va_P D cl ws' H := fun k q hk => by
  have h1 : (is.map (fun i => ws[i]?))[k]? = some (some q) := by rw [hs, List.getElem?_map, hk]; rfl
  rw [List.getElem?_map] at h1
  cases hi : is[k]? with
  | none => rw [hi] at h1; cases h1
  | some i =>
    rw [hi] at h1
    exact hP i q (Option.some.inj h1)
theorem kz_ref (D : va_G) (cI cA : ClassId) (h4 h5 B0 : Nat) (u : kz_U4) (v : Nat → Nat) {t i j : Nat} (hi : i < k_cnt t) (hA : k_isA t = true) (hj : j < k_len t) : kz_ad h4 h5 u v t i + 1 + j = kz_ad h4 h5 u v (k_ch t) (k_ci t i j) := by
  have ht : t = 14 ∨ t = 15 ∨ t = 17 ∨ t = 18 ∨ t = 19 := by
    unfold k_isA at hA
    simp only [Bool.or_eq_true, beq_iff_eq] at hA
    omega
  rcases ht with rfl | rfl | rfl | rfl | rfl
  · have hi2 : i < 2 := hi
    have hj2 : j < 16 := hj
    show (if i = 0 then _ else _) + 1 + j = if 16 * i + j < 16 then _ else _
    rcases (show i = 0 ∨ i = 1 by omega) with rfl | rfl
    · rw [if_pos rfl, if_pos (by omega)]; show _ = _ + 1 + (16 * 0 + j); omega
    · rw [if_neg (by omega), if_neg (by omega)]; show _ = _ + 1 + (16 * 1 + j - 16); omega
  · have hi2 : i < 2 := hi
    have hj2 : j < 16 := hj
    show (if i = 0 then _ else _) + 1 + j = if 16 * i + j < 16 then _ else _
    rcases (show i = 0 ∨ i = 1 by omega) with rfl | rfl
    · rw [if_pos rfl, if_pos (by omega)]; show _ = _ + 1 + (16 * 0 + j); omega
    · rw [if_neg (by omega), if_neg (by omega)]; show _ = _ + 1 + (16 * 1 + j - 16); omega
  · rfl
  · rfl
  · rfl
theorem kz_from {D : va_G} {cI cA : ClassId} {h4 h5 B0 : Nat} {u : kz_U4} {v : Nat → Nat} {k : Nat} {q : Nat × va_E} (hk : (k_W (D, cI, cA, kz_ad h4 h5 u v, B0) kz_g0)[k]? = some q) : ∃ (i : Nat) (e : va_E), (kz_X4 cI cA h4 u ++ kz_X5 cI h5 (fun j => kz_g0 36 0 j) v)[i]? = some (q.1, e) := by
  rw [k_W, List.getElem?_map] at hk
  cases hz : k_ids[k]? with
  | none => rw [hz] at hk; cases hk
  | some z =>
    rw [hz] at hk
    have hq := Option.some.inj hk
    have h2 : (kz_ws (D, cI, cA, kz_ad h4 h5 u v, B0))[k]? = some (kz_ad h4 h5 u v z.1 z.2, kz_E (D, cI, cA, kz_ad h4 h5 u v, B0) z.1 z.2) := by
      rw [kz_ws, List.getElem?_map, hz]
      rfl
    have h1 : (kz_pl.map (fun i => (kz_X4 cI cA h4 u ++ kz_X5 cI h5 (fun j => kz_g0 36 0 j) v)[i]?))[k]? = some (some (kz_ad h4 h5 u v z.1 z.2, kz_E (D, cI, cA, kz_ad h4 h5 u v, B0) z.1 z.2)) := by
      rw [kz_perm D cI cA h4 h5 B0 u v, List.getElem?_map, h2]
      rfl
    rw [List.getElem?_map] at h1
    cases hi : kz_pl[k]? with
    | none => rw [hi] at h1; cases h1
    | some i =>
      rw [hi] at h1
      exact ⟨i, _, by rw [← hq]; exact Option.some.inj h1⟩
/-- the world stands -/
theorem kz_world {D : va_G} {cI cA : ClassId} {h4 h5 B0 : Nat} {u : kz_U4} {v : Nat → Nat} {A : Nat → Prop} {H : Heap} (hP : va_P D vwCl (kz_X4 cI cA h4 u ++ kz_X5 cI h5 (fun j => kz_g0 36 0 j) v) H) (hD : va_D A (kz_X4 cI cA h4 u ++ kz_X5 cI h5 (fun j => kz_g0 36 0 j) v)) :
    va_P D vwCl (k_W (D, cI, cA, kz_ad h4 h5 u v, B0) kz_g0) H ∧ va_D A (k_W (D, cI, cA, kz_ad h4 h5 u v, B0) kz_g0) := by
  have h1 := kz_perm_P (kz_perm D cI cA h4 h5 B0 u v) hP
  have h2 := va_D.sub hD kz_pl kz_pl_nd (kz_perm D cI cA h4 h5 B0 u v)
  have key : ∀ (k : Nat) (q : Nat × va_E), (k_W (D, cI, cA, kz_ad h4 h5 u v, B0) kz_g0)[k]? = some q → ∃ t i, i < k_cnt t ∧ q = (kz_ad h4 h5 u v t i, k_E (D, cI, cA, kz_ad h4 h5 u v, B0) (kz_g0 t i) t i) ∧ (kz_ws (D, cI, cA, kz_ad h4 h5 u v, B0))[k]? = some (kz_ad h4 h5 u v t i, kz_E (D, cI, cA, kz_ad h4 h5 u v, B0) t i) := fun k q hk => by
    rw [k_W, List.getElem?_map] at hk
    rw [kz_ws, List.getElem?_map]
    cases hz : k_ids[k]? with
    | none => rw [hz] at hk; cases hk
    | some z =>
      rw [hz] at hk
      exact ⟨z.1, z.2, (k_ids_lt z (List.mem_of_getElem? hz)).2, (Option.some.inj hk).symm, rfl⟩
  refine ⟨fun k q hk => ?_, fun i j x y hx hy hxy => ?_, fun k q hk => ?_⟩
  · obtain ⟨t, i, hi, rfl, hk2⟩ := key k q hk
    have h3 := h1 k _ hk2
    unfold kz_E at h3
    by_cases hA : k_isA t = true
    · rw [if_pos hA] at h3
      have ht10 : 10 ≤ t := by
        unfold k_isA at hA
        simp only [Bool.or_eq_true, beq_iff_eq] at hA
        omega
      have hE : k_E (D, cI, cA, kz_ad h4 h5 u v, B0) (kz_g0 t i) t i = .inl (cA, k_len t, .inr (.inr (.inr (.inr (fun j => some (kz_ad h4 h5 u v (k_ch t) (k_ci t i j))))))) := by
        unfold k_E
        rw [if_neg (by omega), if_neg (by omega), if_neg (by omega), if_neg (by omega), if_neg (by omega), if_neg (by omega), if_pos hA]
      rw [hE]
      show H[_]? = some (vp_cell _ _)
      have h4' : H[kz_ad h4 h5 u v t i]? = some (vp_cell cA (k_len t, .inr (.inr (.inr (.inr fun j => some (kz_ad h4 h5 u v t i + 1 + j)))))) := h3
      rw [h4', vp_cell_q, vp_cell_q]
      congr 1
      exact km_arrV fun j hj => by rw [kz_ref D cI cA h4 h5 B0 u v hi hA hj]
    · rw [if_neg hA] at h3
      exact h3
  · obtain ⟨t, i', hi, rfl, hk2⟩ := key i x hx
    obtain ⟨t', j', hj, rfl, hk3⟩ := key j y hy
    exact h2.1 i j _ _ hk2 hk3 hxy
  · obtain ⟨t, i', hi, rfl, hk2⟩ := key k q hk
    have h9 := h2.2 k _ hk2
    exact h9
