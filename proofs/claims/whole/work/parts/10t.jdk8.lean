/-! append(int); StringBuilder's own -/
theorem jn_appI : ∀ w ∈ wsJ40, w ∈ wsJ5_append_c97b9 := fun _ h => List.mem_cons_of_mem _ (List.mem_append_right _ h)
set_option maxRecDepth 20000 in
theorem c_J5_appendI {D : va_G} {cB : ClassId} {b0 : Nat} {l : Launch} {h v k u : Nat} {ml : Value} {f : Nat → Int32} (hu : u < 10000) (hk : k + j_dc u ≤ 16) : j_MR D cB b0 l yJ5_append_c97b9 wsJ5_append_c97b9 (rm_j 2 60) [.ref h, .int (nI u)] (j_sb h v cB (nI k) ml f) h (j_sb h v cB (nI (k + j_dc u)) ml (j_gc f u (k + j_dc u))) := by
  intro sz
  refine Met.ofW (cc := cJ5_append_c97b9) (maxL := 4) (ret := some (.object "java/lang/AbstractStringBuilder")) (by decide) rfl ?_
  intro p e s m args below meth c s₁ B hml hv
  obtain ⟨rfl, rfl, hP, hK, hD⟩ := hv
  have hr := B.returns
  have hlocks := B.notSynchronized
  obtain ⟨hC, hS⟩ := j_start hK hP hD (⟨B.exec, B.bytes, hml, findClass_of_methodNamed B.named, atoms_spec (ws := wsJ5_append_c97b9) B.pre⟩ : CallFix p m c cJ5_append_c97b9 4 s _ wsJ5_append_c97b9 RJ5)
  have hl := lv_entry ([.ref h, .int (nI u)] : List Value) (n := 4) (Nat.le_of_ble_eq_true rfl)
  rw [lg_entry_eq]
  generalize (lg_sl ([.ref h, .int (nI u)] : List Value) ++ List.replicate (4 - (lg_sl ([.ref h, .int (nI u)] : List Value)).length) Slot.unset).toArray = ls at hl ⊢
  have hl : lv_has ls 4 [(0, .ref h), (1, .int (nI u))] := hl
  change W p l e (rm_j 2 60) _ _ _ _ _ _ _ _ _ _ _ _
  refine lv_aload_n hC.x hC.b dJ5_append_c97b9_0 rfl (lv_at hl 0 rfl) ?_
  refine j_get (q0 := 0) (k := 3) hC hS jn_appI rfl (by decide) (by decide +kernel) rfl rfl dJ5_append_c97b9_1 ?_
  refine lv_istore_n (lv' := [(2, .int (nI k)), (0, .ref h), (1, .int (nI u))]) hC.x hC.b dJ5_append_c97b9_4 rfl hl (by decide) rfl (fun ls hl => ?_)
  refine lv_iload_n hC.x hC.b dJ5_append_c97b9_5 rfl (lv_at hl 0 rfl) ?_
  refine lv_iload_n hC.x hC.b dJ5_append_c97b9_6 rfl (lv_at hl 2 rfl) ?_
  refine j_goi (w1 := j_sb h v cB (nI k) ml f) hC hS (va_runS hC.1 (c_J6_stringSize (v := u) hu _) (va_cwS 1 hC.t gJ5_append_c97b9_J6_stringSize_0f7a4 rfl rfl rfl (by decide +kernel) ⟨Nat.le_of_ble_eq_true rfl, Nat.le_of_ble_eq_true rfl⟩) (j_preS hC hS) rfl rfl hl.1 rfl (lv_room (Nat.le_of_ble_eq_true rfl)) dJ5_append_c97b9_7 ⟨by decide, by decide⟩) (fun H locs hS => ?_)
  refine lv_iadd hC.x hC.b dJ5_append_c97b9_10 ?_
  rw [nI_add]
  refine lv_istore_n (lv' := [(3, .int (nI (k + j_dc u))), (2, .int (nI k)), (0, .ref h), (1, .int (nI u))]) hC.x hC.b dJ5_append_c97b9_11 rfl hl (by decide) rfl (fun ls hl => ?_)
  refine lv_aload_n hC.x hC.b dJ5_append_c97b9_12 rfl (lv_at hl 2 rfl) ?_
  refine lv_iload_n hC.x hC.b dJ5_append_c97b9_13 rfl (lv_at hl 0 rfl) ?_
  refine j_gov (w1 := j_sb h v cB (nI k) ml f) hC hS (va_runU hC.1 (c_J5_ensure (k := k + j_dc u) hk _) (va_cwU 1 hC.t gJ5_append_c97b9_J5_ensureCapacityInternal_d00df_u100J4 rfl rfl rfl rfl (by decide +kernel) ⟨Nat.le_of_ble_eq_true rfl, Nat.le_of_ble_eq_true rfl⟩) (j_preV (q0 := 0) hC hS rfl) rfl rfl hl.1 rfl (lv_room (Nat.le_of_ble_eq_true rfl)) dJ5_append_c97b9_14 ⟨by decide, by decide⟩) (fun H locs hS => ?_)
  refine lv_aload_n hC.x hC.b dJ5_append_c97b9_17 rfl (lv_at hl 2 rfl) ?_
  refine j_goi (w1 := j_sb h v cB (nI k) ml f) hC hS (va_runU (As := []) hC.1 (c_J5_isLatin1 _) (va_cwU 0 hC.t gJ5_append_c97b9_J5_isLatin1_aae02_u83J4 rfl rfl rfl rfl (by decide +kernel) ⟨Nat.le_of_ble_eq_true rfl, Nat.le_of_ble_eq_true rfl⟩) (j_preV (q0 := 0) hC hS rfl) rfl rfl hl.1 rfl (lv_room (Nat.le_of_ble_eq_true rfl)) dJ5_append_c97b9_18 ⟨by decide, by decide⟩) (fun H locs hS => ?_)
  refine lv_if_eq (tgt := 37) hC.x hC.b dJ5_append_c97b9_21 (by decide) (fun h => absurd h (by decide)) (fun _ => ?_)
  refine lv_iload_n hC.x hC.b dJ5_append_c97b9_24 rfl (lv_at hl 3 rfl) ?_
  refine lv_iload_n hC.x hC.b dJ5_append_c97b9_25 rfl (lv_at hl 0 rfl) ?_
  refine lv_aload_n hC.x hC.b dJ5_append_c97b9_26 rfl (lv_at hl 2 rfl) ?_
  refine j_get (q0 := 0) (k := 0) hC hS jn_appI rfl (by decide) (by decide +kernel) rfl rfl dJ5_append_c97b9_27 ?_
  refine j_goi (w1 := j_sb h v cB (nI k) ml (j_gc f u (k + j_dc u))) hC hS (va_runS hC.1 (c_J6_getChars (u := u) (q := k + j_dc u) hu hk (by omega) _) (va_cwS 3 hC.t gJ5_append_c97b9_J6_getChars_ba4f3 rfl rfl rfl (by decide +kernel) ⟨Nat.le_of_ble_eq_true rfl, Nat.le_of_ble_eq_true rfl⟩) (j_preS hC hS) rfl rfl hl.1 rfl (lv_room (Nat.le_of_ble_eq_true rfl)) dJ5_append_c97b9_30 ⟨by decide, by decide⟩) (fun H locs hS => ?_)
  refine lv_pop hC.x hC.b dJ5_append_c97b9_33 rfl ?_
  refine lv_goto (tgt := 48) hC.x hC.b dJ5_append_c97b9_34 (by decide) ?_
  refine lv_aload_n hC.x hC.b dJ5_append_c97b9_48 rfl (lv_at hl 2 rfl) ?_
  refine lv_iload_n hC.x hC.b dJ5_append_c97b9_49 rfl (lv_at hl 0 rfl) ?_
  refine j_put (q0 := 0) (k := 3) hC hS jn_appI rfl (by decide) (by decide +kernel) rfl rfl rfl rfl rfl (Nat.le_of_ble_eq_true rfl) dJ5_append_c97b9_50 (fun H locs hS => ?_)
  refine lv_aload_n hC.x hC.b dJ5_append_c97b9_53 rfl (lv_at hl 2 rfl) ?_
  exact j_aret hC hS hr hlocks (by decide) (by decide) dJ5_append_c97b9_54
theorem j_classAt {D : va_G} {cB : ClassId} {b0 : Nat} {A : Nat → Prop} {p : Program} {s : State} {m : MethodId} {args : Array Value} {c : Code} {cc : ByteArray} {nL : Nat} {Ts : List Cond} {own : String} (hC : j_C D cB b0 A p s m args c cc nL Ts own) : ∃ k, s.vm.findClass RJ4 = some k ∧ ∃ kC : Class, s.vm.classes[k]? = some kC ∧ kC.kind = .ordinary := by
  obtain ⟨h6, h7, kC, h8, h9⟩ := hC.2.1.1.1 1 (RJ4, TJ4, 4) rfl
  exact ⟨_, h7, kC, h8, h9⟩
theorem jn_J4_append_bf812 : ∀ w ∈ wsJ40, w ∈ wsJ4_append_bf812 := fun _ h => List.mem_cons_of_mem _ (List.mem_append_right _ h)
set_option maxRecDepth 20000 in
theorem c_J4_append_bf812 {D : va_G} {cB : ClassId} {b0 : Nat} {l : Launch} {h v k u : Nat} {ml : Value} {f : Nat → Int32} (hu : u < 10000) (hk : k + j_dc u ≤ 16) : j_MR D cB b0 l yJ4_append_bf812 wsJ4_append_bf812 (rm_j 3 100) [.ref h, .int (nI u)] (j_sb h v cB (nI k) ml f) h (j_sb h v cB (nI (k + j_dc u)) ml (j_gc f u (k + j_dc u))) := by
  intro sz
  refine Met.ofW (cc := cJ4_append_bf812) (maxL := 2) (ret := some (.object "java/lang/StringBuilder")) (by decide) rfl ?_
  intro p e s m args below meth c s₁ B hml hv
  obtain ⟨rfl, rfl, hP, hK, hD⟩ := hv
  have hr := B.returns
  have hlocks := B.notSynchronized
  obtain ⟨hC, hS⟩ := j_start hK hP hD (⟨B.exec, B.bytes, hml, findClass_of_methodNamed B.named, atoms_spec (ws := wsJ4_append_bf812) B.pre⟩ : CallFix p m c cJ4_append_bf812 2 s _ wsJ4_append_bf812 RJ4)
  have hl := lv_entry ([.ref h, .int (nI u)] : List Value) (n := 2) (Nat.le_of_ble_eq_true rfl)
  rw [lg_entry_eq]
  generalize (lg_sl ([.ref h, .int (nI u)] : List Value) ++ List.replicate (2 - (lg_sl ([.ref h, .int (nI u)] : List Value)).length) Slot.unset).toArray = ls at hl ⊢
  have hl : lv_has ls 2 [(0, .ref h), (1, .int (nI u))] := hl
  change W p l e (rm_j 3 100) _ _ _ _ _ _ _ _ _ _ _ _
  refine lv_aload_n hC.x hC.b dJ4_append_bf812_0 rfl (lv_at hl 0 rfl) ?_
  refine lv_iload_n hC.x hC.b dJ4_append_bf812_1 rfl (lv_at hl 1 rfl) ?_
  obtain ⟨kJ, hkJ, hkJ2⟩ := j_classAt hC
  refine j_gor (w1 := j_sb h v cB (nI (k + j_dc u)) ml (j_gc f u (k + j_dc u))) hC hS (va_runSU ⟨hkJ, hkJ2⟩ hC.1 (c_J5_appendI (u := u) hu hk _) (va_cwSU 1 hC.t gJ4_append_bf812_J5_append_c97b9_s53 rfl rfl rfl (by decide +kernel) ⟨Nat.le_of_ble_eq_true rfl, Nat.le_of_ble_eq_true rfl⟩) (j_preV (q0 := 0) hC hS rfl) rfl rfl hl.1 rfl (lv_room (Nat.le_of_ble_eq_true rfl)) dJ4_append_bf812_2 ⟨by decide, by decide⟩) (fun H locs hS => ?_)
  refine lv_pop hC.x hC.b dJ4_append_bf812_5 rfl ?_
  refine lv_aload_n hC.x hC.b dJ4_append_bf812_6 rfl (lv_at hl 0 rfl) ?_
  exact j_aret hC hS hr hlocks (by decide) (by decide) dJ4_append_bf812_7
theorem jn_J4_append_cf468 : ∀ w ∈ wsJ40, w ∈ wsJ4_append_cf468 := fun _ h => List.mem_cons_of_mem _ (List.mem_append_right _ h)
set_option maxRecDepth 20000 in
theorem c_J4_append_cf468 {D : va_G} {cB : ClassId} {b0 : Nat} {l : Launch} {h v k u : Nat} {ml : Value} {f : Nat → Int32} (hu : u < 128) (hk : k < 16) : j_MR D cB b0 l yJ4_append_cf468 wsJ4_append_cf468 (rm_j 3 100) [.ref h, .int (nI u)] (j_sb h v cB (nI k) ml f) h (j_sb h v cB (nI (k + 1)) ml (upd f k (nI u))) := by
  intro sz
  refine Met.ofW (cc := cJ4_append_cf468) (maxL := 2) (ret := some (.object "java/lang/StringBuilder")) (by decide) rfl ?_
  intro p e s m args below meth c s₁ B hml hv
  obtain ⟨rfl, rfl, hP, hK, hD⟩ := hv
  have hr := B.returns
  have hlocks := B.notSynchronized
  obtain ⟨hC, hS⟩ := j_start hK hP hD (⟨B.exec, B.bytes, hml, findClass_of_methodNamed B.named, atoms_spec (ws := wsJ4_append_cf468) B.pre⟩ : CallFix p m c cJ4_append_cf468 2 s _ wsJ4_append_cf468 RJ4)
  have hl := lv_entry ([.ref h, .int (nI u)] : List Value) (n := 2) (Nat.le_of_ble_eq_true rfl)
  rw [lg_entry_eq]
  generalize (lg_sl ([.ref h, .int (nI u)] : List Value) ++ List.replicate (2 - (lg_sl ([.ref h, .int (nI u)] : List Value)).length) Slot.unset).toArray = ls at hl ⊢
  have hl : lv_has ls 2 [(0, .ref h), (1, .int (nI u))] := hl
  change W p l e (rm_j 3 100) _ _ _ _ _ _ _ _ _ _ _ _
  refine lv_aload_n hC.x hC.b dJ4_append_cf468_0 rfl (lv_at hl 0 rfl) ?_
  refine lv_iload_n hC.x hC.b dJ4_append_cf468_1 rfl (lv_at hl 1 rfl) ?_
  obtain ⟨kJ, hkJ, hkJ2⟩ := j_classAt hC
  refine j_gor (w1 := j_sb h v cB (nI (k + 1)) ml (upd f k (nI u))) hC hS (va_runSU ⟨hkJ, hkJ2⟩ hC.1 (c_J5_appendC (ch := u) hk hu _) (va_cwSU 1 hC.t gJ4_append_cf468_J5_append_3fe6f_s50 rfl rfl rfl (by decide +kernel) ⟨Nat.le_of_ble_eq_true rfl, Nat.le_of_ble_eq_true rfl⟩) (j_preV (q0 := 0) hC hS rfl) rfl rfl hl.1 rfl (lv_room (Nat.le_of_ble_eq_true rfl)) dJ4_append_cf468_2 ⟨by decide, by decide⟩) (fun H locs hS => ?_)
  refine lv_pop hC.x hC.b dJ4_append_cf468_5 rfl ?_
  refine lv_aload_n hC.x hC.b dJ4_append_cf468_6 rfl (lv_at hl 0 rfl) ?_
  exact j_aret hC hS hr hlocks (by decide) (by decide) dJ4_append_cf468_7
