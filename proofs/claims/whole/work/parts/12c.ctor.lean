/-! written by wip/whole/genctor.py: constructors -/
abbrev rm_ctor (n : Nat) (cells slots locals : Nat) : Room := { frames := n, cells := cells, slots := slots, locals := locals }
theorem kz_St1 {D : va_G} {s : State} {h0 ci : Nat} {fs : List Value} (hP : va_P D vwCl [(h0, .inr (ci, fs))] s.heap) : kz_St D (kz_A h0 s.heap.size) s [(h0, .inr (ci, fs))] s.heap [] := ⟨hP, ⟨fun i j x y hx hy _ => by
    have a1 := (List.getElem?_eq_some_iff.mp hx).1
    have a2 := (List.getElem?_eq_some_iff.mp hy).1
    simp only [List.length_singleton] at a1 a2
    omega, fun k q hk => by
    have a1 := (List.getElem?_eq_some_iff.mp hk).1
    simp only [List.length_singleton] at a1
    have : k = 0 := by omega
    subst this
    cases hk
    exact Or.inl rfl⟩, va_S.rf⟩
def kz_X0 (cI : ClassId) (h0 : Nat) (u : Nat × Nat × Nat × Nat) : va_W := [(h0, .inr (2, [.ref u.1, .ref u.2.1, .ref u.2.2.1, .ref u.2.2.2, .int 0])), (u.1, kz_z cI 16), (u.2.1, kz_z cI 16), (u.2.2.1, kz_z cI 16), (u.2.2.2, kz_z cI 16)]
def kz_X1 (cI cA : ClassId) (h0 : Nat) (u : Nat × Nat) : va_W := (h0, .inr (3, [.ref u.1, .ref u.2])) :: (u.1, kz_o cA u.1 16) :: (kz_rows cI u.1 16 4 ++ ((u.2, kz_o cA u.2 16) :: kz_rows cI u.2 16 4))
def kz_X2 (cI cA : ClassId) (h0 : Nat) (u : Nat) : va_W := (h0, .inr (4, [.ref u, .int 0])) :: (u, kz_o cA u 30) :: kz_rows cI u 30 5
def kz_X3 (cI cA : ClassId) (h0 : Nat) (u : Nat × Nat × Nat) : va_W := (h0, .inr (5, [.ref u.1, .ref u.2.1, .ref u.2.2, .int 0])) :: (u.1, kz_z cI 6) :: (u.2.1, kz_o cA u.2.1 6) :: (kz_rows cI u.2.1 6 16 ++ ((u.2.2, kz_o cA u.2.2 6) :: kz_rows cI u.2.2 6 16))
theorem in_X0_init_X0 : ∀ w ∈ wsX00, w ∈ wsX0_init := fun _ h => List.mem_cons_of_mem _ (List.mem_append_right _ h)
theorem c_X0_init {l : Launch} {D : va_G} {cI cA : ClassId} {h0 sz : Nat} : Met l yX0_init wsX0_init (rm_ctor 1 4 64 40) (kz_Pre D cI cA h0 2 [.null, .null, .null, .null, .int 0] sz) (kz_Q D (kz_X0 cI h0) h0 sz) 4 64 (kz_A h0 sz) := by
  refine Met.ofW (cc := cX0_init) (maxL := 1) (ret := none) (by decide) rfl ?_
  intro p e s m args below meth c s₁ B hml hv
  obtain ⟨rfl, rfl, hP, hK⟩ := hv
  have hr := B.returns
  have hlocks := B.notSynchronized
  have hin : meth.name = "<init>" := (name_of_methodNamed B.named B.method).1
  have hC : kz_C D cI cA (kz_A h0 s.heap.size) p s m _ c cX0_init 1 wsX0_init RX0 := ⟨⟨B.exec, B.bytes, hml, findClass_of_methodNamed B.named, atoms_spec (ws := wsX0_init) B.pre⟩, hK, fun q hq => Or.inr hq⟩
  have hS := kz_St1 (D := D) hP
  have hl := lv_entry ([.ref h0] : List Value) (n := 1) (Nat.le_of_ble_eq_true rfl)
  rw [lg_entry_eq]
  generalize (lg_sl ([.ref h0] : List Value) ++ List.replicate (1 - (lg_sl ([.ref h0] : List Value)).length) Slot.unset).toArray = ls at hl ⊢
  have hl : lv_has ls 1 [(0, .ref h0)] := hl
  change W p l e (rm_ctor 1 4 64 40) _ _ _ _ _ _ _ _ _ _ _ _
  refine lv_aload_n hC.x hC.b dX0_init_0 rfl (lv_at hl 0 rfl) ?_
  refine kz_obj hC hl.1 (by decide +kernel) (by decide +kernel) (by decide +kernel) dX0_init_1 (Nat.le_of_ble_eq_true rfl) (Nat.le_of_ble_eq_true rfl) ?_
  refine lv_aload_n hC.x hC.b dX0_init_4 rfl (lv_at hl 0 rfl) ?_
  refine kz_bip (N := 16) hC dX0_init_5 (by decide) ?_
  refine kz_newi hC hS (by decide +kernel) (by decide) (by decide) (by decide) dX0_init_7 (fun q0 H hS => ?_)
  refine kz_putF (q0 := 0) (k := 0) (T := TX0) (N := 5) (ci := 2) hC hS hin rfl rfl (by decide) in_X0_init_X0 tyX0 tyX0_ok nmX0 (by decide +kernel) rfl rfl rfl rfl rfl (Nat.le_of_ble_eq_true rfl) dX0_init_9 (fun H locs hS => ?_)
  refine lv_aload_n hC.x hC.b dX0_init_12 rfl (lv_at hl 0 rfl) ?_
  refine kz_bip (N := 16) hC dX0_init_13 (by decide) ?_
  refine kz_newi hC hS (by decide +kernel) (by decide) (by decide) (by decide) dX0_init_15 (fun q1 H hS => ?_)
  refine kz_putF (q0 := 0) (k := 1) (T := TX0) (N := 5) (ci := 2) hC hS hin rfl rfl (by decide) in_X0_init_X0 tyX0 tyX0_ok nmX0 (by decide +kernel) rfl rfl rfl rfl rfl (Nat.le_of_ble_eq_true rfl) dX0_init_17 (fun H locs hS => ?_)
  refine lv_aload_n hC.x hC.b dX0_init_20 rfl (lv_at hl 0 rfl) ?_
  refine kz_bip (N := 16) hC dX0_init_21 (by decide) ?_
  refine kz_newi hC hS (by decide +kernel) (by decide) (by decide) (by decide) dX0_init_23 (fun q2 H hS => ?_)
  refine kz_putF (q0 := 0) (k := 2) (T := TX0) (N := 5) (ci := 2) hC hS hin rfl rfl (by decide) in_X0_init_X0 tyX0 tyX0_ok nmX0 (by decide +kernel) rfl rfl rfl rfl rfl (Nat.le_of_ble_eq_true rfl) dX0_init_25 (fun H locs hS => ?_)
  refine lv_aload_n hC.x hC.b dX0_init_28 rfl (lv_at hl 0 rfl) ?_
  refine kz_bip (N := 16) hC dX0_init_29 (by decide) ?_
  refine kz_newi hC hS (by decide +kernel) (by decide) (by decide) (by decide) dX0_init_31 (fun q3 H hS => ?_)
  refine kz_putF (q0 := 0) (k := 3) (T := TX0) (N := 5) (ci := 2) hC hS hin rfl rfl (by decide) in_X0_init_X0 tyX0 tyX0_ok nmX0 (by decide +kernel) rfl rfl rfl rfl rfl (Nat.le_of_ble_eq_true rfl) dX0_init_33 (fun H locs hS => ?_)
  refine lv_aload_n hC.x hC.b dX0_init_36 rfl (lv_at hl 0 rfl) ?_
  refine lv_iconst (v := nI 0) hC.x hC.b dX0_init_37 (by decide) ?_
  refine kz_put (q0 := 0) (k := 4) (T := TX0) (N := 5) (ci := 2) hC hS rfl rfl (by decide) in_X0_init_X0 tyX0 tyX0_ok nmX0 (by decide +kernel) rfl rfl rfl rfl rfl (Nat.le_of_ble_eq_true rfl) dX0_init_38 (fun H locs hS => ?_)
  exact kz_vret (wr := kz_X0 cI h0) hC (q0, q1, q2, q3) hS hr hlocks (by decide) (by decide) dX0_init_41
theorem in_X1_init_X1 : ∀ w ∈ wsX10, w ∈ wsX1_init := fun _ h => List.mem_cons_of_mem _ (List.mem_append_right _ h)
theorem c_X1_init {l : Launch} {D : va_G} {cI cA : ClassId} {h0 sz : Nat} : Met l yX1_init wsX1_init (rm_ctor 1 34 160 40) (kz_Pre D cI cA h0 3 [.null, .null] sz) (kz_Q D (kz_X1 cI cA h0) h0 sz) 34 160 (kz_A h0 sz) := by
  refine Met.ofW (cc := cX1_init) (maxL := 1) (ret := none) (by decide) rfl ?_
  intro p e s m args below meth c s₁ B hml hv
  obtain ⟨rfl, rfl, hP, hK⟩ := hv
  have hr := B.returns
  have hlocks := B.notSynchronized
  have hin : meth.name = "<init>" := (name_of_methodNamed B.named B.method).1
  have hC : kz_C D cI cA (kz_A h0 s.heap.size) p s m _ c cX1_init 1 wsX1_init RX1 := ⟨⟨B.exec, B.bytes, hml, findClass_of_methodNamed B.named, atoms_spec (ws := wsX1_init) B.pre⟩, hK, fun q hq => Or.inr hq⟩
  have hS := kz_St1 (D := D) hP
  have hl := lv_entry ([.ref h0] : List Value) (n := 1) (Nat.le_of_ble_eq_true rfl)
  rw [lg_entry_eq]
  generalize (lg_sl ([.ref h0] : List Value) ++ List.replicate (1 - (lg_sl ([.ref h0] : List Value)).length) Slot.unset).toArray = ls at hl ⊢
  have hl : lv_has ls 1 [(0, .ref h0)] := hl
  change W p l e (rm_ctor 1 34 160 40) _ _ _ _ _ _ _ _ _ _ _ _
  refine lv_aload_n hC.x hC.b dX1_init_0 rfl (lv_at hl 0 rfl) ?_
  refine kz_obj hC hl.1 (by decide +kernel) (by decide +kernel) (by decide +kernel) dX1_init_1 (Nat.le_of_ble_eq_true rfl) (Nat.le_of_ble_eq_true rfl) ?_
  refine lv_aload_n hC.x hC.b dX1_init_4 rfl (lv_at hl 0 rfl) ?_
  refine kz_bip (N := 16) hC dX1_init_5 (by decide) ?_
  refine lv_iconst (v := nI 4) hC.x hC.b dX1_init_7 (by decide) ?_
  refine kz_newm hC hS (by decide +kernel) (by decide +kernel) (by decide) (by decide) (by decide) (by decide) dX1_init_8 (fun q0 H locs hS => ?_)
  refine kz_putF (q0 := 0) (k := 0) (T := TX1) (N := 2) (ci := 3) hC hS hin rfl rfl (by decide) in_X1_init_X1 tyX1 tyX1_ok nmX1 (by decide +kernel) rfl rfl rfl rfl rfl (Nat.le_of_ble_eq_true rfl) dX1_init_12 (fun H locs hS => ?_)
  refine lv_aload_n hC.x hC.b dX1_init_15 rfl (lv_at hl 0 rfl) ?_
  refine kz_bip (N := 16) hC dX1_init_16 (by decide) ?_
  refine lv_iconst (v := nI 4) hC.x hC.b dX1_init_18 (by decide) ?_
  refine kz_newm hC hS (by decide +kernel) (by decide +kernel) (by decide) (by decide) (by decide) (by decide) dX1_init_19 (fun q1 H locs hS => ?_)
  refine kz_putF (q0 := 0) (k := 1) (T := TX1) (N := 2) (ci := 3) hC hS hin rfl rfl (by decide) in_X1_init_X1 tyX1 tyX1_ok nmX1 (by decide +kernel) rfl rfl rfl rfl rfl (Nat.le_of_ble_eq_true rfl) dX1_init_23 (fun H locs hS => ?_)
  exact kz_vret (wr := kz_X1 cI cA h0) hC (q0, q1) hS hr hlocks (by decide) (by decide) dX1_init_26
theorem in_X2_init_X2 : ∀ w ∈ wsX20, w ∈ wsX2_init := fun _ h => List.mem_cons_of_mem _ (List.mem_append_right _ h)
theorem c_X2_init {l : Launch} {D : va_G} {cI cA : ClassId} {h0 sz : Nat} : Met l yX2_init wsX2_init (rm_ctor 1 31 180 40) (kz_Pre D cI cA h0 4 [.null, .int 0] sz) (kz_Q D (kz_X2 cI cA h0) h0 sz) 31 180 (kz_A h0 sz) := by
  refine Met.ofW (cc := cX2_init) (maxL := 1) (ret := none) (by decide) rfl ?_
  intro p e s m args below meth c s₁ B hml hv
  obtain ⟨rfl, rfl, hP, hK⟩ := hv
  have hr := B.returns
  have hlocks := B.notSynchronized
  have hin : meth.name = "<init>" := (name_of_methodNamed B.named B.method).1
  have hC : kz_C D cI cA (kz_A h0 s.heap.size) p s m _ c cX2_init 1 wsX2_init RX2 := ⟨⟨B.exec, B.bytes, hml, findClass_of_methodNamed B.named, atoms_spec (ws := wsX2_init) B.pre⟩, hK, fun q hq => Or.inr hq⟩
  have hS := kz_St1 (D := D) hP
  have hl := lv_entry ([.ref h0] : List Value) (n := 1) (Nat.le_of_ble_eq_true rfl)
  rw [lg_entry_eq]
  generalize (lg_sl ([.ref h0] : List Value) ++ List.replicate (1 - (lg_sl ([.ref h0] : List Value)).length) Slot.unset).toArray = ls at hl ⊢
  have hl : lv_has ls 1 [(0, .ref h0)] := hl
  change W p l e (rm_ctor 1 31 180 40) _ _ _ _ _ _ _ _ _ _ _ _
  refine lv_aload_n hC.x hC.b dX2_init_0 rfl (lv_at hl 0 rfl) ?_
  refine kz_obj hC hl.1 (by decide +kernel) (by decide +kernel) (by decide +kernel) dX2_init_1 (Nat.le_of_ble_eq_true rfl) (Nat.le_of_ble_eq_true rfl) ?_
  refine lv_aload_n hC.x hC.b dX2_init_4 rfl (lv_at hl 0 rfl) ?_
  refine kz_bip (N := 30) hC dX2_init_5 (by decide) ?_
  refine lv_iconst (v := nI 5) hC.x hC.b dX2_init_7 (by decide) ?_
  refine kz_newm hC hS (by decide +kernel) (by decide +kernel) (by decide) (by decide) (by decide) (by decide) dX2_init_8 (fun q0 H locs hS => ?_)
  refine kz_putF (q0 := 0) (k := 0) (T := TX2) (N := 2) (ci := 4) hC hS hin rfl rfl (by decide) in_X2_init_X2 tyX2 tyX2_ok nmX2 (by decide +kernel) rfl rfl rfl rfl rfl (Nat.le_of_ble_eq_true rfl) dX2_init_12 (fun H locs hS => ?_)
  refine lv_aload_n hC.x hC.b dX2_init_15 rfl (lv_at hl 0 rfl) ?_
  refine lv_iconst (v := nI 0) hC.x hC.b dX2_init_16 (by decide) ?_
  refine kz_put (q0 := 0) (k := 1) (T := TX2) (N := 2) (ci := 4) hC hS rfl rfl (by decide) in_X2_init_X2 tyX2 tyX2_ok nmX2 (by decide +kernel) rfl rfl rfl rfl rfl (Nat.le_of_ble_eq_true rfl) dX2_init_17 (fun H locs hS => ?_)
  exact kz_vret (wr := kz_X2 cI cA h0) hC q0 hS hr hlocks (by decide) (by decide) dX2_init_20
theorem in_X3_init_X3 : ∀ w ∈ wsX30, w ∈ wsX3_init := fun _ h => List.mem_cons_of_mem _ (List.mem_append_right _ h)
theorem c_X3_init {l : Launch} {D : va_G} {cI cA : ClassId} {h0 sz : Nat} : Met l yX3_init wsX3_init (rm_ctor 1 15 210 40) (kz_Pre D cI cA h0 5 [.null, .null, .null, .int 0] sz) (kz_Q D (kz_X3 cI cA h0) h0 sz) 15 210 (kz_A h0 sz) := by
  refine Met.ofW (cc := cX3_init) (maxL := 1) (ret := none) (by decide) rfl ?_
  intro p e s m args below meth c s₁ B hml hv
  obtain ⟨rfl, rfl, hP, hK⟩ := hv
  have hr := B.returns
  have hlocks := B.notSynchronized
  have hin : meth.name = "<init>" := (name_of_methodNamed B.named B.method).1
  have hC : kz_C D cI cA (kz_A h0 s.heap.size) p s m _ c cX3_init 1 wsX3_init RX3 := ⟨⟨B.exec, B.bytes, hml, findClass_of_methodNamed B.named, atoms_spec (ws := wsX3_init) B.pre⟩, hK, fun q hq => Or.inr hq⟩
  have hS := kz_St1 (D := D) hP
  have hl := lv_entry ([.ref h0] : List Value) (n := 1) (Nat.le_of_ble_eq_true rfl)
  rw [lg_entry_eq]
  generalize (lg_sl ([.ref h0] : List Value) ++ List.replicate (1 - (lg_sl ([.ref h0] : List Value)).length) Slot.unset).toArray = ls at hl ⊢
  have hl : lv_has ls 1 [(0, .ref h0)] := hl
  change W p l e (rm_ctor 1 15 210 40) _ _ _ _ _ _ _ _ _ _ _ _
  refine lv_aload_n hC.x hC.b dX3_init_0 rfl (lv_at hl 0 rfl) ?_
  refine kz_obj hC hl.1 (by decide +kernel) (by decide +kernel) (by decide +kernel) dX3_init_1 (Nat.le_of_ble_eq_true rfl) (Nat.le_of_ble_eq_true rfl) ?_
  refine lv_aload_n hC.x hC.b dX3_init_4 rfl (lv_at hl 0 rfl) ?_
  refine kz_bip (N := 6) hC dX3_init_5 (by decide) ?_
  refine kz_newi hC hS (by decide +kernel) (by decide) (by decide) (by decide) dX3_init_7 (fun q0 H hS => ?_)
  refine kz_putF (q0 := 0) (k := 0) (T := TX3) (N := 4) (ci := 5) hC hS hin rfl rfl (by decide) in_X3_init_X3 tyX3 tyX3_ok nmX3 (by decide +kernel) rfl rfl rfl rfl rfl (Nat.le_of_ble_eq_true rfl) dX3_init_9 (fun H locs hS => ?_)
  refine lv_aload_n hC.x hC.b dX3_init_12 rfl (lv_at hl 0 rfl) ?_
  refine kz_bip (N := 6) hC dX3_init_13 (by decide) ?_
  refine kz_bip (N := 16) hC dX3_init_15 (by decide) ?_
  refine kz_newm hC hS (by decide +kernel) (by decide +kernel) (by decide) (by decide) (by decide) (by decide) dX3_init_17 (fun q1 H locs hS => ?_)
  refine kz_putF (q0 := 0) (k := 1) (T := TX3) (N := 4) (ci := 5) hC hS hin rfl rfl (by decide) in_X3_init_X3 tyX3 tyX3_ok nmX3 (by decide +kernel) rfl rfl rfl rfl rfl (Nat.le_of_ble_eq_true rfl) dX3_init_21 (fun H locs hS => ?_)
  refine lv_aload_n hC.x hC.b dX3_init_24 rfl (lv_at hl 0 rfl) ?_
  refine kz_bip (N := 6) hC dX3_init_25 (by decide) ?_
  refine kz_bip (N := 16) hC dX3_init_27 (by decide) ?_
  refine kz_newm hC hS (by decide +kernel) (by decide +kernel) (by decide) (by decide) (by decide) (by decide) dX3_init_29 (fun q2 H locs hS => ?_)
  refine kz_putF (q0 := 0) (k := 2) (T := TX3) (N := 4) (ci := 5) hC hS hin rfl rfl (by decide) in_X3_init_X3 tyX3 tyX3_ok nmX3 (by decide +kernel) rfl rfl rfl rfl rfl (Nat.le_of_ble_eq_true rfl) dX3_init_33 (fun H locs hS => ?_)
  refine lv_aload_n hC.x hC.b dX3_init_36 rfl (lv_at hl 0 rfl) ?_
  refine lv_iconst (v := nI 0) hC.x hC.b dX3_init_37 (by decide) ?_
  refine kz_put (q0 := 0) (k := 3) (T := TX3) (N := 4) (ci := 5) hC hS rfl rfl (by decide) in_X3_init_X3 tyX3 tyX3_ok nmX3 (by decide +kernel) rfl rfl rfl rfl rfl (Nat.le_of_ble_eq_true rfl) dX3_init_38 (fun H locs hS => ?_)
  exact kz_vret (wr := kz_X3 cI cA h0) hC (q0, q1, q2) hS hr hlocks (by decide) (by decide) dX3_init_41
