set_option maxRecDepth 20000 in
theorem c_J4_init {D : va_G} {cB : ClassId} {b0 : Nat} {l : Launch} {h sz : Nat} : Met l yJ4_init_da8c8 wsJ4_init_da8c8 (rm_ctor2 2 62) (j_Pre D cB b0 [.ref h] (j_new h) sz) (j_Q0 D cB h sz) 1 16 (va_A (j_new h) sz) := by
  refine Met.ofW (cc := cJ4_init_da8c8) (maxL := 1) (ret := none) (by decide) rfl ?_
  intro p e s m args below meth c s₁ B hml hv
  obtain ⟨rfl, rfl, hP, hK, hD⟩ := hv
  have hr := B.returns
  have hlocks := B.notSynchronized
  obtain ⟨hC, hS⟩ := j_start hK hP hD (⟨B.exec, B.bytes, hml, findClass_of_methodNamed B.named, atoms_spec (ws := wsJ4_init_da8c8) B.pre⟩ : CallFix p m c cJ4_init_da8c8 1 s _ wsJ4_init_da8c8 RJ4)
  have hl := lv_entry ([.ref h] : List Value) (n := 1) (Nat.le_of_ble_eq_true rfl)
  rw [lg_entry_eq]
  generalize (lg_sl ([.ref h] : List Value) ++ List.replicate (1 - (lg_sl ([.ref h] : List Value)).length) Slot.unset).toArray = ls at hl ⊢
  have hl : lv_has ls 1 [(0, .ref h)] := hl
  change W p l e (rm_ctor2 2 62) _ _ _ _ _ _ _ _ _ _ _ _
  refine lv_aload_n hC.x hC.b dJ4_init_da8c8_0 rfl (lv_at hl 0 rfl) ?_
  refine lv_bipush (v := nI 16) hC.x hC.b dJ4_init_da8c8_1 (by decide) ?_
  refine va_callv (va_runI (As := [.int (nI 16)]) (rest := []) hC.1 (c_J5_init (D := D) (cB := cB) (b0 := b0) (h := h) (sz := s.heap.size)) (cwI 1 hC.t gJ4_init_da8c8_J5_init_d00df rfl rfl rfl (hC.t _ (by decide +kernel)) (hC.t _ (by decide +kernel)) (hC.t _ (by decide +kernel)) rfl (by decide +kernel) ⟨Nat.le_of_ble_eq_true rfl, Nat.le_of_ble_eq_true rfl⟩) (j_preS hC hS) rfl rfl hl.1 rfl (lv_room (Nat.le_of_ble_eq_true rfl)) dJ4_init_da8c8_3 ⟨by decide, by decide⟩) hS.2.2 (fun q _ hq => j_fr hC hS q hq) (j_fr hC hS) (fun v t H1 locs1 ht hvm hp hB hz hk hS2 => ?_)
  rw [ht] at hB
  exact W.widen (by decide) (by decide) (W.vret hC.x hC.b hr (fun t2 ht2 _ => ⟨⟨v, rfl, trivial, by rw [ht2]; exact hB.1, hB.2⟩, hS2.F ht2⟩) hS2.2.2 dJ4_init_da8c8_6 hlocks)
set_option maxRecDepth 20000 in
theorem c_J4_length {D : va_G} {cB : ClassId} {b0 : Nat} {l : Launch} {h v : Nat} {n : Int32} {ml : Value} {f : Nat → Int32} : j_MI D cB b0 l yJ4_length_8abf5 wsJ4_length_8abf5 (rm_j 2 60) [.ref h] (j_sb h v cB n ml f) n (j_sb h v cB n ml f) := by
  intro sz
  refine Met.ofW (cc := cJ4_length_8abf5) (maxL := 1) (ret := some .int) (by decide) rfl ?_
  intro p e s m args below meth c s₁ B hml hv
  obtain ⟨rfl, rfl, hP, hK, hD⟩ := hv
  have hr := B.returns
  have hlocks := B.notSynchronized
  obtain ⟨hC, hS⟩ := j_start hK hP hD (⟨B.exec, B.bytes, hml, findClass_of_methodNamed B.named, atoms_spec (ws := wsJ4_length_8abf5) B.pre⟩ : CallFix p m c cJ4_length_8abf5 1 s _ wsJ4_length_8abf5 RJ4)
  have hl := lv_entry ([.ref h] : List Value) (n := 1) (Nat.le_of_ble_eq_true rfl)
  rw [lg_entry_eq]
  generalize (lg_sl ([.ref h] : List Value) ++ List.replicate (1 - (lg_sl ([.ref h] : List Value)).length) Slot.unset).toArray = ls at hl ⊢
  have hl : lv_has ls 1 [(0, .ref h)] := hl
  change W p l e (rm_j 2 60) _ _ _ _ _ _ _ _ _ _ _ _
  refine lv_aload_n hC.x hC.b dJ4_length_8abf5_0 rfl (lv_at hl 0 rfl) ?_
  obtain ⟨kJ, hkJ, hkJ2⟩ := j_classAt hC
  refine j_goi (w1 := j_sb h v cB n ml f) hC hS (va_runSU (As := []) ⟨hkJ, hkJ2⟩ hC.1 (c_J5_length _) (va_cwSU 0 hC.t gJ4_length_8abf5_J5_length_8abf5_s343 rfl rfl rfl (by decide +kernel) ⟨Nat.le_of_ble_eq_true rfl, Nat.le_of_ble_eq_true rfl⟩) (j_preV (q0 := 0) hC hS rfl) rfl rfl hl.1 rfl (lv_room (Nat.le_of_ble_eq_true rfl)) dJ4_length_8abf5_1 ⟨by decide, by decide⟩) (fun H locs hS => ?_)
  exact j_iret hC hS hr hlocks (by decide) (by decide) dJ4_length_8abf5_4
