/-! checkIndex -/
theorem c_J3_checkIndexN {D : va_G} {cB : ClassId} {b0 : Nat} {l : Launch} {i n : Nat} {ws : va_W} (hi : i < n) (hn : n < 100) : j_MI D cB b0 l yJ3_checkIndex_8e157 wsJ3_checkIndex_8e157 (rm_j 1 24) [.int (nI i), .int (nI n), .null] ws (nI i) ws := by
  intro sz
  refine Met.ofW (cc := cJ3_checkIndex_8e157) (maxL := 3) (ret := some .int) (by decide) rfl ?_
  intro p e s m args below meth c s₁ B hml hv
  obtain ⟨rfl, rfl, hP, hK, hD⟩ := hv
  have hr := B.returns
  have hlocks := B.notSynchronized
  obtain ⟨hC, hS⟩ := j_start hK hP hD (⟨B.exec, B.bytes, hml, findClass_of_methodNamed B.named, atoms_spec (ws := wsJ3_checkIndex_8e157) B.pre⟩ : CallFix p m c cJ3_checkIndex_8e157 3 s _ wsJ3_checkIndex_8e157 RJ3)
  have hl := lv_entry ([.int (nI i), .int (nI n), .null] : List Value) (n := 3) (Nat.le_of_ble_eq_true rfl)
  rw [lg_entry_eq]
  generalize (lg_sl ([.int (nI i), .int (nI n), .null] : List Value) ++ List.replicate (3 - (lg_sl ([.int (nI i), .int (nI n), .null] : List Value)).length) Slot.unset).toArray = ls at hl ⊢
  have hl : lv_has ls 3 [(0, .int (nI i)), (1, .int (nI n)), (2, .null)] := hl
  change W p l e (rm_j 1 24) _ _ _ _ _ _ _ _ _ _ _ _
  refine lv_iload_n hC.x hC.b dJ3_checkIndex_8e157_0 rfl (lv_at hl 0 rfl) ?_
  refine lv_if_lt (tgt := 9) hC.x hC.b dJ3_checkIndex_8e157_1 (by decide) (fun h => absurd h (nI_pos (by omega))) (fun _ => ?_)
  refine lv_iload_n hC.x hC.b dJ3_checkIndex_8e157_4 rfl (lv_at hl 0 rfl) ?_
  refine lv_iload_n hC.x hC.b dJ3_checkIndex_8e157_5 rfl (lv_at hl 1 rfl) ?_
  refine lv_icmp_lt (tgt := 16) hC.x hC.b dJ3_checkIndex_8e157_6 (by decide) (fun _ => ?_) (fun h => absurd (nI_lt hi (by omega)) h)
  refine lv_iload_n hC.x hC.b dJ3_checkIndex_8e157_16 rfl (lv_at hl 0 rfl) ?_
  exact j_iret hC hS hr hlocks (by decide) (by decide) dJ3_checkIndex_8e157_17
theorem c_J3_checkIndexR {D : va_G} {cB : ClassId} {b0 : Nat} {l : Launch} {i n : Nat} {ws : va_W} {t : Nat} (hi : i < n) (hn : n < 100) : j_MI D cB b0 l yJ3_checkIndex_8e157 wsJ3_checkIndex_8e157 (rm_j 1 24) [.int (nI i), .int (nI n), .ref t] ws (nI i) ws := by
  intro sz
  refine Met.ofW (cc := cJ3_checkIndex_8e157) (maxL := 3) (ret := some .int) (by decide) rfl ?_
  intro p e s m args below meth c s₁ B hml hv
  obtain ⟨rfl, rfl, hP, hK, hD⟩ := hv
  have hr := B.returns
  have hlocks := B.notSynchronized
  obtain ⟨hC, hS⟩ := j_start hK hP hD (⟨B.exec, B.bytes, hml, findClass_of_methodNamed B.named, atoms_spec (ws := wsJ3_checkIndex_8e157) B.pre⟩ : CallFix p m c cJ3_checkIndex_8e157 3 s _ wsJ3_checkIndex_8e157 RJ3)
  have hl := lv_entry ([.int (nI i), .int (nI n), .ref t] : List Value) (n := 3) (Nat.le_of_ble_eq_true rfl)
  rw [lg_entry_eq]
  generalize (lg_sl ([.int (nI i), .int (nI n), .ref t] : List Value) ++ List.replicate (3 - (lg_sl ([.int (nI i), .int (nI n), .ref t] : List Value)).length) Slot.unset).toArray = ls at hl ⊢
  have hl : lv_has ls 3 [(0, .int (nI i)), (1, .int (nI n)), (2, .ref t)] := hl
  change W p l e (rm_j 1 24) _ _ _ _ _ _ _ _ _ _ _ _
  refine lv_iload_n hC.x hC.b dJ3_checkIndex_8e157_0 rfl (lv_at hl 0 rfl) ?_
  refine lv_if_lt (tgt := 9) hC.x hC.b dJ3_checkIndex_8e157_1 (by decide) (fun h => absurd h (nI_pos (by omega))) (fun _ => ?_)
  refine lv_iload_n hC.x hC.b dJ3_checkIndex_8e157_4 rfl (lv_at hl 0 rfl) ?_
  refine lv_iload_n hC.x hC.b dJ3_checkIndex_8e157_5 rfl (lv_at hl 1 rfl) ?_
  refine lv_icmp_lt (tgt := 16) hC.x hC.b dJ3_checkIndex_8e157_6 (by decide) (fun _ => ?_) (fun h => absurd (nI_lt hi (by omega)) h)
  refine lv_iload_n hC.x hC.b dJ3_checkIndex_8e157_16 rfl (lv_at hl 0 rfl) ?_
  exact j_iret hC hS hr hlocks (by decide) (by decide) dJ3_checkIndex_8e157_17
set_option maxRecDepth 20000 in
theorem c_J0_checkIndex {D : va_G} {cB : ClassId} {b0 : Nat} {l : Launch} {i n : Nat} {ws : va_W} (hi : i < n) (hn : n < 100) : j_MV D cB b0 l yJ0_checkIndex_df160 wsJ0_checkIndex_df160 (rm_j 2 60) [.int (nI i), .int (nI n)] ws ws := by
  intro sz
  refine Met.ofW (cc := cJ0_checkIndex_df160) (maxL := 2) (ret := none) (by decide) rfl ?_
  intro p e s m args below meth c s₁ B hml hv
  obtain ⟨rfl, rfl, hP, hK, hD⟩ := hv
  have hr := B.returns
  have hlocks := B.notSynchronized
  obtain ⟨hC, hS⟩ := j_start hK hP hD (⟨B.exec, B.bytes, hml, findClass_of_methodNamed B.named, atoms_spec (ws := wsJ0_checkIndex_df160) B.pre⟩ : CallFix p m c cJ0_checkIndex_df160 2 s _ wsJ0_checkIndex_df160 RJ0)
  have hl := lv_entry ([.int (nI i), .int (nI n)] : List Value) (n := 2) (Nat.le_of_ble_eq_true rfl)
  rw [lg_entry_eq]
  generalize (lg_sl ([.int (nI i), .int (nI n)] : List Value) ++ List.replicate (2 - (lg_sl ([.int (nI i), .int (nI n)] : List Value)).length) Slot.unset).toArray = ls at hl ⊢
  have hl : lv_has ls 2 [(0, .int (nI i)), (1, .int (nI n))] := hl
  change W p l e (rm_j 2 60) _ _ _ _ _ _ _ _ _ _ _ _
  refine lv_iload_n hC.x hC.b dJ0_checkIndex_df160_0 rfl (lv_at hl 0 rfl) ?_
  refine lv_iload_n hC.x hC.b dJ0_checkIndex_df160_1 rfl (lv_at hl 1 rfl) ?_
  rcases hC.2.1.2.1.2.2.2.2.1 with hZ | ⟨t, hZ⟩
  · refine va_gets hC.x hC.b hZ (hC.SB hS) hC.o (hC.t (.fieldLink RJ0 1053 "jdk/internal/util/Preconditions" "SIOOBE_FORMATTER" "Ljava/util/function/BiFunction;") (by decide +kernel)) (fun _ h => h) dJ0_checkIndex_df160_2 ?_
    refine j_goi (w1 := ws) hC hS (va_runS hC.1 (c_J3_checkIndexN hi hn _) (va_cwS 3 hC.t gJ0_checkIndex_df160_J3_checkIndex_8e157 rfl rfl rfl (by decide +kernel) ⟨Nat.le_of_ble_eq_true rfl, Nat.le_of_ble_eq_true rfl⟩) (j_preS hC hS) rfl rfl hl.1 rfl (lv_room (Nat.le_of_ble_eq_true rfl)) dJ0_checkIndex_df160_5 ⟨by decide, by decide⟩) (fun H locs hS => ?_)
    refine lv_pop hC.x hC.b dJ0_checkIndex_df160_8 rfl ?_
    exact j_vret hC hS hr hlocks (by decide) (by decide) dJ0_checkIndex_df160_9
  · refine va_gets hC.x hC.b hZ (hC.SB hS) hC.o (hC.t (.fieldLink RJ0 1053 "jdk/internal/util/Preconditions" "SIOOBE_FORMATTER" "Ljava/util/function/BiFunction;") (by decide +kernel)) (fun _ h => h) dJ0_checkIndex_df160_2 ?_
    refine j_goi (w1 := ws) hC hS (va_runS hC.1 (c_J3_checkIndexR hi hn _) (va_cwS 3 hC.t gJ0_checkIndex_df160_J3_checkIndex_8e157 rfl rfl rfl (by decide +kernel) ⟨Nat.le_of_ble_eq_true rfl, Nat.le_of_ble_eq_true rfl⟩) (j_preS hC hS) rfl rfl hl.1 rfl (lv_room (Nat.le_of_ble_eq_true rfl)) dJ0_checkIndex_df160_5 ⟨by decide, by decide⟩) (fun H locs hS => ?_)
    refine lv_pop hC.x hC.b dJ0_checkIndex_df160_8 rfl ?_
    exact j_vret hC hS hr hlocks (by decide) (by decide) dJ0_checkIndex_df160_9
