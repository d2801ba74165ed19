/-! StringBuilder.charAt -/
theorem jn_charAt : ∀ w ∈ wsJ40, w ∈ wsJ5_charAt_5068e := fun _ h => List.mem_cons_of_mem _ (List.mem_append_right _ h)
theorem j_and {c : Nat} (h : c < 128) : nI c &&& (255 : Int32) = nI c := (show ∀ c, c < 128 → nI c &&& (255 : Int32) = nI c by decide +kernel) c h
theorem j_i2c {c : Nat} (h : c < 128) : ((nI c).toUInt32 % 65536).toInt32 = nI c := (show ∀ c, c < 128 → ((nI c).toUInt32 % 65536).toInt32 = nI c by decide +kernel) c h
set_option maxRecDepth 20000 in
theorem c_J5_charAt {D : va_G} {cB : ClassId} {b0 : Nat} {l : Launch} {h v k i ch : Nat} {ml : Value} {f : Nat → Int32} (hi : i < k) (hk : k ≤ 16) (hch : ch < 128) (hf : f i = nI ch) : j_MI D cB b0 l yJ5_charAt_5068e wsJ5_charAt_5068e (rm_j 3 100) [.ref h, .int (nI i)] (j_sb h v cB (nI k) ml f) (nI ch) (j_sb h v cB (nI k) ml f) := by
  intro sz
  refine Met.ofW (cc := cJ5_charAt_5068e) (maxL := 5) (ret := some .char) (by decide) rfl ?_
  intro p e s m args below meth c s₁ B hml hv
  obtain ⟨rfl, rfl, hP, hK, hD⟩ := hv
  have hr := B.returns
  have hlocks := B.notSynchronized
  obtain ⟨hC, hS⟩ := j_start hK hP hD (⟨B.exec, B.bytes, hml, findClass_of_methodNamed B.named, atoms_spec (ws := wsJ5_charAt_5068e) B.pre⟩ : CallFix p m c cJ5_charAt_5068e 5 s _ wsJ5_charAt_5068e RJ5)
  have hl := lv_entry ([.ref h, .int (nI i)] : List Value) (n := 5) (Nat.le_of_ble_eq_true rfl)
  rw [lg_entry_eq]
  generalize (lg_sl ([.ref h, .int (nI i)] : List Value) ++ List.replicate (5 - (lg_sl ([.ref h, .int (nI i)] : List Value)).length) Slot.unset).toArray = ls at hl ⊢
  have hl : lv_has ls 5 [(0, .ref h), (1, .int (nI i))] := hl
  change W p l e (rm_j 3 100) _ _ _ _ _ _ _ _ _ _ _ _
  refine lv_aload_n hC.x hC.b dJ5_charAt_5068e_0 rfl (lv_at hl 0 rfl) ?_
  refine j_get (q0 := 0) (k := 1) hC hS jn_charAt rfl (by decide) (by decide +kernel) rfl rfl dJ5_charAt_5068e_1 ?_
  refine lv_istore_n (lv' := [(2, .int 0), (0, .ref h), (1, .int (nI i))]) hC.x hC.b dJ5_charAt_5068e_4 rfl hl (by decide) rfl (fun ls hl => ?_)
  refine lv_aload_n hC.x hC.b dJ5_charAt_5068e_5 rfl (lv_at hl 1 rfl) ?_
  refine j_get (q0 := 0) (k := 0) hC hS jn_charAt rfl (by decide) (by decide +kernel) rfl rfl dJ5_charAt_5068e_6 ?_
  refine lv_astore_n (lv' := [(3, .ref v), (2, .int 0), (0, .ref h), (1, .int (nI i))]) hC.x hC.b dJ5_charAt_5068e_9 rfl hl (by decide) rfl (fun ls hl => ?_)
  refine lv_aload_n hC.x hC.b dJ5_charAt_5068e_10 rfl (lv_at hl 2 rfl) ?_
  refine j_get (q0 := 0) (k := 3) hC hS jn_charAt rfl (by decide) (by decide +kernel) rfl rfl dJ5_charAt_5068e_11 ?_
  refine lv_aload_n hC.x hC.b dJ5_charAt_5068e_14 rfl (lv_at hl 0 rfl) ?_
  refine va_alen (v := nI 16) hC.x hC.b hC.2.1.1 hS.1 1 0 rfl rfl rfl dJ5_charAt_5068e_15 ?_
  refine lv_iload_n hC.x hC.b dJ5_charAt_5068e_16 rfl (lv_at hl 1 rfl) ?_
  refine lv_ishr hC.x hC.b dJ5_charAt_5068e_17 ?_
  rw [show nI 16 >>> ((0 : Int32) &&& 31) = nI 16 from by decide]
  refine va_mmin hC.x hC.b (hC.1.2.2.1.trans hl.1.symm) hC.o (hC.t (.methodLink RJ5 138 Lib.Math.min.name) (by decide +kernel)) (hC.t _ (by decide +kernel)) (hC.t _ (by decide +kernel)) (hC.t _ (by decide +kernel)) (Nat.le_of_ble_eq_true rfl) (Nat.le_of_ble_eq_true rfl) (by decide) (by decide) dJ5_charAt_5068e_18 ?_
  rw [if_neg (show ¬ nI 16 < nI k by rw [nI_ltI (by omega) (by omega)]; omega)]
  refine lv_istore (lv' := [(4, .int (nI k)), (3, .ref v), (2, .int 0), (0, .ref h), (1, .int (nI i))]) hC.x hC.b dJ5_charAt_5068e_21 hl (by decide) rfl (fun ls hl => ?_)
  refine lv_iload_n hC.x hC.b dJ5_charAt_5068e_23 rfl (lv_at hl 4 rfl) ?_
  refine lv_iload hC.x hC.b dJ5_charAt_5068e_24 (lv_at hl 0 rfl) ?_
  refine j_gov (w1 := j_sb h v cB (nI k) ml f) hC hS (va_runS hC.1 (c_J0_checkIndex (i := i) (n := k) hi (by omega) _) (va_cwS 2 hC.t gJ5_charAt_5068e_J0_checkIndex_df160 rfl rfl rfl (by decide +kernel) ⟨Nat.le_of_ble_eq_true rfl, Nat.le_of_ble_eq_true rfl⟩) (j_preS hC hS) rfl rfl hl.1 rfl (lv_room (Nat.le_of_ble_eq_true rfl)) dJ5_charAt_5068e_26 ⟨by decide, by decide⟩) (fun H locs hS => ?_)
  refine lv_iload_n hC.x hC.b dJ5_charAt_5068e_29 rfl (lv_at hl 2 rfl) ?_
  refine lv_if_ne (tgt := 42) hC.x hC.b dJ5_charAt_5068e_30 (by decide) (fun h => absurd rfl h) (fun _ => ?_)
  refine lv_aload_n hC.x hC.b dJ5_charAt_5068e_33 rfl (lv_at hl 1 rfl) ?_
  refine lv_iload_n hC.x hC.b dJ5_charAt_5068e_34 rfl (lv_at hl 4 rfl) ?_
  refine va_bald hC.x hC.b hC.2.1.1 hS.1 1 0 rfl rfl (vp_in_nI (show i < 16 by omega) (by omega)) dJ5_charAt_5068e_35 ?_
  rw [nI_clamp (show i < 2 ^ 31 by omega), hf]
  refine lv_sipush (v := (255 : Int32)) hC.x hC.b dJ5_charAt_5068e_36 (by decide) ?_
  refine lv_iand hC.x hC.b dJ5_charAt_5068e_39 ?_
  rw [j_and hch]
  refine lv_i2c hC.x hC.b dJ5_charAt_5068e_40 (j_i2c hch) ?_
  exact j_zret hC hS hr hlocks (pk_charN (by omega)).1 (by decide) (by decide) dJ5_charAt_5068e_41
theorem jn_charAt4 : ∀ w ∈ wsJ40, w ∈ wsJ4_charAt_5068e := fun _ h => List.mem_cons_of_mem _ (List.mem_append_right _ h)
set_option maxRecDepth 20000 in
theorem c_J4_charAt {D : va_G} {cB : ClassId} {b0 : Nat} {l : Launch} {h v k i ch : Nat} {ml : Value} {f : Nat → Int32} (hi : i < k) (hk : k ≤ 16) (hch : ch < 128) (hf : f i = nI ch) : j_MI D cB b0 l yJ4_charAt_5068e wsJ4_charAt_5068e (rm_j 4 140) [.ref h, .int (nI i)] (j_sb h v cB (nI k) ml f) (nI ch) (j_sb h v cB (nI k) ml f) := by
  intro sz
  refine Met.ofW (cc := cJ4_charAt_5068e) (maxL := 2) (ret := some .char) (by decide) rfl ?_
  intro p e s m args below meth c s₁ B hml hv
  obtain ⟨rfl, rfl, hP, hK, hD⟩ := hv
  have hr := B.returns
  have hlocks := B.notSynchronized
  obtain ⟨hC, hS⟩ := j_start hK hP hD (⟨B.exec, B.bytes, hml, findClass_of_methodNamed B.named, atoms_spec (ws := wsJ4_charAt_5068e) B.pre⟩ : CallFix p m c cJ4_charAt_5068e 2 s _ wsJ4_charAt_5068e RJ4)
  have hl := lv_entry ([.ref h, .int (nI i)] : List Value) (n := 2) (Nat.le_of_ble_eq_true rfl)
  rw [lg_entry_eq]
  generalize (lg_sl ([.ref h, .int (nI i)] : List Value) ++ List.replicate (2 - (lg_sl ([.ref h, .int (nI i)] : List Value)).length) Slot.unset).toArray = ls at hl ⊢
  have hl : lv_has ls 2 [(0, .ref h), (1, .int (nI i))] := hl
  change W p l e (rm_j 4 140) _ _ _ _ _ _ _ _ _ _ _ _
  refine lv_aload_n hC.x hC.b dJ4_charAt_5068e_0 rfl (lv_at hl 0 rfl) ?_
  refine lv_iload_n hC.x hC.b dJ4_charAt_5068e_1 rfl (lv_at hl 1 rfl) ?_
  obtain ⟨kJ, hkJ, hkJ2⟩ := j_classAt hC
  refine j_goi (w1 := j_sb h v cB (nI k) ml f) hC hS (va_runSU ⟨hkJ, hkJ2⟩ hC.1 (c_J5_charAt hi hk hch hf _) (va_cwSU 1 hC.t gJ4_charAt_5068e_J5_charAt_5068e_s329 rfl rfl rfl (by decide +kernel) ⟨Nat.le_of_ble_eq_true rfl, Nat.le_of_ble_eq_true rfl⟩) (j_preV (q0 := 0) hC hS rfl) rfl rfl hl.1 rfl (lv_room (Nat.le_of_ble_eq_true rfl)) dJ4_charAt_5068e_2 ⟨by decide, by decide⟩) (fun H locs hS => ?_)
  exact j_zret hC hS hr hlocks (pk_charN (by omega)).1 (by decide) (by decide) dJ4_charAt_5068e_5
