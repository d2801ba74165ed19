/-! KnotArchive's constructor -/
abbrev kz_U4 : Type := (Nat × (Nat × Nat × Nat × Nat)) × (Nat × (Nat × Nat)) × (Nat × (Nat × Nat)) × (Nat × (Nat × Nat × Nat)) × (Nat × Nat)
def kz_X4 (cI cA : ClassId) (h0 : Nat) (u : kz_U4) : va_W := (h0, .inr (6, [.ref u.1.1, .ref u.2.1.1, .ref u.2.2.1.1, .ref u.2.2.2.1.1, .ref u.2.2.2.2.1, .int 0, .int 0])) :: ((((kz_X0 cI u.1.1 u.1.2 ++ kz_X1 cI cA u.2.1.1 u.2.1.2) ++ kz_X1 cI cA u.2.2.1.1 u.2.2.1.2) ++ kz_X3 cI cA u.2.2.2.1.1 u.2.2.2.1.2) ++ kz_X2 cI cA u.2.2.2.2.1 u.2.2.2.2.2)
theorem in_X4_init_X4 : ∀ w ∈ wsX40, w ∈ wsX4_init := by decide +kernel
theorem in_X4_init_X0 : ∀ w ∈ wsX00, w ∈ wsX4_init := by decide +kernel
theorem in_X4_init_X1 : ∀ w ∈ wsX10, w ∈ wsX4_init := by decide +kernel
theorem in_X4_init_X2 : ∀ w ∈ wsX20, w ∈ wsX4_init := by decide +kernel
theorem in_X4_init_X3 : ∀ w ∈ wsX30, w ∈ wsX4_init := by decide +kernel
theorem nz_9 : Cond.methodLinkNest RX4 9 yX0_init "KnotArchive" ∈ k_ws := by decide +kernel
theorem nz_18 : Cond.methodLinkNest RX4 18 yX1_init "KnotArchive" ∈ k_ws := by decide +kernel
theorem nz_28 : Cond.methodLinkNest RX4 28 yX3_init "KnotArchive" ∈ k_ws := by decide +kernel
theorem nz_35 : Cond.methodLinkNest RX4 35 yX2_init "KnotArchive" ∈ k_ws := by decide +kernel
theorem c_X4_init {l : Launch} {D : va_G} {cI cA : ClassId} {h0 sz : Nat} : Met l yX4_init wsX4_init (rm_ctor 2 123 789 60) (kz_Pre D cI cA h0 6 [.null, .null, .null, .null, .null, .int 0, .int 0] sz) (kz_Q D (kz_X4 cI cA h0) h0 sz) 123 789 (kz_A h0 sz) := by
  refine Met.ofW (cc := cX4_init) (maxL := 1) (ret := none) (by decide) rfl ?_
  intro p e s m args below meth c s₁ B hml hv
  obtain ⟨rfl, rfl, hP, hK⟩ := hv
  have hr := B.returns
  have hlocks := B.notSynchronized
  have hin : meth.name = "<init>" := (name_of_methodNamed B.named B.method).1
  have hC : kz_C D cI cA (kz_A h0 s.heap.size) p s m _ c cX4_init 1 wsX4_init RX4 := ⟨⟨B.exec, B.bytes, hml, findClass_of_methodNamed B.named, atoms_spec (ws := wsX4_init) B.pre⟩, hK, fun q hq => Or.inr hq⟩
  have hS := kz_St1 (D := D) hP
  have hl := lv_entry ([.ref h0] : List Value) (n := 1) (Nat.le_of_ble_eq_true rfl)
  rw [lg_entry_eq]
  generalize (lg_sl ([.ref h0] : List Value) ++ List.replicate (1 - (lg_sl ([.ref h0] : List Value)).length) Slot.unset).toArray = ls at hl ⊢
  have hl : lv_has ls 1 [(0, .ref h0)] := hl
  change W p l e (rm_ctor 2 123 789 60) _ _ _ _ _ _ _ _ _ _ _ _
  refine lv_aload_n hC.x hC.b dX4_init_0 rfl (lv_at hl 0 rfl) ?_
  refine kz_obj hC hl.1 (by decide +kernel) (by decide +kernel) (by decide +kernel) dX4_init_1 (Nat.le_of_ble_eq_true rfl) (Nat.le_of_ble_eq_true rfl) ?_
  refine lv_aload_n hC.x hC.b dX4_init_4 rfl (lv_at hl 0 rfl) ?_
  refine kz_mk (C := RX0) (T := TX0) (N := 5) (ci := 2) (fs := [.null, .null, .null, .null, .int 0]) (mc := 4) (ms := 64) (wr := kz_X0 cI) hC hS in_X4_init_X0 tyX0 tyX0_ok (by decide +kernel) (by decide +kernel) (by decide +kernel) rfl (by decide) (by decide) (by decide) dX4_init_5 dX4_init_8 (fun q H1 hp => va_runIN (As := []) hC.1 c_X0_init ⟨va_cnB 0 hC.t gX4_init_X0_init_n9 rfl rfl rfl (hC.2.1.2.2 _ nz_9) (hC.t _ (by decide +kernel)) (by decide +kernel) ⟨Nat.le_of_ble_eq_true rfl, Nat.le_of_ble_eq_true rfl⟩, rfl, hC.t _ (by decide +kernel)⟩ hp rfl rfl hl.1 rfl (lv_room (Nat.le_of_ble_eq_true rfl)) dX4_init_9 ⟨by decide, by decide⟩) (fun a0 u0 H locs hS => ?_)
  have hS : kz_St D (kz_A h0 s.heap.size) s ((h0, .inr (6, [.null, .null, .null, .null, .null, .int 0, .int 0])) :: kz_X0 cI a0 u0) H locs := hS
  refine kz_putF (q0 := 0) (k := 0) (T := TX4) (N := 7) (ci := 6) hC hS hin rfl rfl (by decide) in_X4_init_X4 tyX4 tyX4_ok nmX4 (by decide +kernel) rfl rfl rfl rfl rfl (Nat.le_of_ble_eq_true rfl) dX4_init_12 (fun H locs hS => ?_)
  have hS : kz_St D (kz_A h0 s.heap.size) s ((h0, .inr (6, [.ref a0, .null, .null, .null, .null, .int 0, .int 0])) :: kz_X0 cI a0 u0) H locs := hS
  refine lv_aload_n hC.x hC.b dX4_init_15 rfl (lv_at hl 0 rfl) ?_
  refine kz_mk (C := RX1) (T := TX1) (N := 2) (ci := 3) (fs := [.null, .null]) (mc := 34) (ms := 160) (wr := kz_X1 cI cA) hC hS in_X4_init_X1 tyX1 tyX1_ok (by decide +kernel) (by decide +kernel) (by decide +kernel) rfl (by decide) (by decide) (by decide) dX4_init_16 dX4_init_19 (fun q H1 hp => va_runIN (As := []) hC.1 c_X1_init ⟨va_cnB 0 hC.t gX4_init_X1_init_n18 rfl rfl rfl (hC.2.1.2.2 _ nz_18) (hC.t _ (by decide +kernel)) (by decide +kernel) ⟨Nat.le_of_ble_eq_true rfl, Nat.le_of_ble_eq_true rfl⟩, rfl, hC.t _ (by decide +kernel)⟩ hp rfl rfl hl.1 rfl (lv_room (Nat.le_of_ble_eq_true rfl)) dX4_init_20 ⟨by decide, by decide⟩) (fun a1 u1 H locs hS => ?_)
  have hS : kz_St D (kz_A h0 s.heap.size) s ((h0, .inr (6, [.ref a0, .null, .null, .null, .null, .int 0, .int 0])) :: (kz_X0 cI a0 u0 ++ kz_X1 cI cA a1 u1)) H locs := hS
  refine kz_putF (q0 := 0) (k := 1) (T := TX4) (N := 7) (ci := 6) hC hS hin rfl rfl (by decide) in_X4_init_X4 tyX4 tyX4_ok nmX4 (by decide +kernel) rfl rfl rfl rfl rfl (Nat.le_of_ble_eq_true rfl) dX4_init_23 (fun H locs hS => ?_)
  have hS : kz_St D (kz_A h0 s.heap.size) s ((h0, .inr (6, [.ref a0, .ref a1, .null, .null, .null, .int 0, .int 0])) :: (kz_X0 cI a0 u0 ++ kz_X1 cI cA a1 u1)) H locs := hS
  refine lv_aload_n hC.x hC.b dX4_init_26 rfl (lv_at hl 0 rfl) ?_
  refine kz_mk (C := RX1) (T := TX1) (N := 2) (ci := 3) (fs := [.null, .null]) (mc := 34) (ms := 160) (wr := kz_X1 cI cA) hC hS in_X4_init_X1 tyX1 tyX1_ok (by decide +kernel) (by decide +kernel) (by decide +kernel) rfl (by decide) (by decide) (by decide) dX4_init_27 dX4_init_30 (fun q H1 hp => va_runIN (As := []) hC.1 c_X1_init ⟨va_cnB 0 hC.t gX4_init_X1_init_n18 rfl rfl rfl (hC.2.1.2.2 _ nz_18) (hC.t _ (by decide +kernel)) (by decide +kernel) ⟨Nat.le_of_ble_eq_true rfl, Nat.le_of_ble_eq_true rfl⟩, rfl, hC.t _ (by decide +kernel)⟩ hp rfl rfl hl.1 rfl (lv_room (Nat.le_of_ble_eq_true rfl)) dX4_init_31 ⟨by decide, by decide⟩) (fun a2 u2 H locs hS => ?_)
  have hS : kz_St D (kz_A h0 s.heap.size) s ((h0, .inr (6, [.ref a0, .ref a1, .null, .null, .null, .int 0, .int 0])) :: ((kz_X0 cI a0 u0 ++ kz_X1 cI cA a1 u1) ++ kz_X1 cI cA a2 u2)) H locs := hS
  refine kz_putF (q0 := 0) (k := 2) (T := TX4) (N := 7) (ci := 6) hC hS hin rfl rfl (by decide) in_X4_init_X4 tyX4 tyX4_ok nmX4 (by decide +kernel) rfl rfl rfl rfl rfl (Nat.le_of_ble_eq_true rfl) dX4_init_34 (fun H locs hS => ?_)
  have hS : kz_St D (kz_A h0 s.heap.size) s ((h0, .inr (6, [.ref a0, .ref a1, .ref a2, .null, .null, .int 0, .int 0])) :: ((kz_X0 cI a0 u0 ++ kz_X1 cI cA a1 u1) ++ kz_X1 cI cA a2 u2)) H locs := hS
  refine lv_aload_n hC.x hC.b dX4_init_37 rfl (lv_at hl 0 rfl) ?_
  refine kz_mk (C := RX3) (T := TX3) (N := 4) (ci := 5) (fs := [.null, .null, .null, .int 0]) (mc := 15) (ms := 210) (wr := kz_X3 cI cA) hC hS in_X4_init_X3 tyX3 tyX3_ok (by decide +kernel) (by decide +kernel) (by decide +kernel) rfl (by decide) (by decide) (by decide) dX4_init_38 dX4_init_41 (fun q H1 hp => va_runIN (As := []) hC.1 c_X3_init ⟨va_cnB 0 hC.t gX4_init_X3_init_n28 rfl rfl rfl (hC.2.1.2.2 _ nz_28) (hC.t _ (by decide +kernel)) (by decide +kernel) ⟨Nat.le_of_ble_eq_true rfl, Nat.le_of_ble_eq_true rfl⟩, rfl, hC.t _ (by decide +kernel)⟩ hp rfl rfl hl.1 rfl (lv_room (Nat.le_of_ble_eq_true rfl)) dX4_init_42 ⟨by decide, by decide⟩) (fun a3 u3 H locs hS => ?_)
  have hS : kz_St D (kz_A h0 s.heap.size) s ((h0, .inr (6, [.ref a0, .ref a1, .ref a2, .null, .null, .int 0, .int 0])) :: (((kz_X0 cI a0 u0 ++ kz_X1 cI cA a1 u1) ++ kz_X1 cI cA a2 u2) ++ kz_X3 cI cA a3 u3)) H locs := hS
  refine kz_putF (q0 := 0) (k := 3) (T := TX4) (N := 7) (ci := 6) hC hS hin rfl rfl (by decide) in_X4_init_X4 tyX4 tyX4_ok nmX4 (by decide +kernel) rfl rfl rfl rfl rfl (Nat.le_of_ble_eq_true rfl) dX4_init_45 (fun H locs hS => ?_)
  have hS : kz_St D (kz_A h0 s.heap.size) s ((h0, .inr (6, [.ref a0, .ref a1, .ref a2, .ref a3, .null, .int 0, .int 0])) :: (((kz_X0 cI a0 u0 ++ kz_X1 cI cA a1 u1) ++ kz_X1 cI cA a2 u2) ++ kz_X3 cI cA a3 u3)) H locs := hS
  refine lv_aload_n hC.x hC.b dX4_init_48 rfl (lv_at hl 0 rfl) ?_
  refine kz_mk (C := RX2) (T := TX2) (N := 2) (ci := 4) (fs := [.null, .int 0]) (mc := 31) (ms := 180) (wr := kz_X2 cI cA) hC hS in_X4_init_X2 tyX2 tyX2_ok (by decide +kernel) (by decide +kernel) (by decide +kernel) rfl (by decide) (by decide) (by decide) dX4_init_49 dX4_init_52 (fun q H1 hp => va_runIN (As := []) hC.1 c_X2_init ⟨va_cnB 0 hC.t gX4_init_X2_init_n35 rfl rfl rfl (hC.2.1.2.2 _ nz_35) (hC.t _ (by decide +kernel)) (by decide +kernel) ⟨Nat.le_of_ble_eq_true rfl, Nat.le_of_ble_eq_true rfl⟩, rfl, hC.t _ (by decide +kernel)⟩ hp rfl rfl hl.1 rfl (lv_room (Nat.le_of_ble_eq_true rfl)) dX4_init_53 ⟨by decide, by decide⟩) (fun a4 u4 H locs hS => ?_)
  have hS : kz_St D (kz_A h0 s.heap.size) s ((h0, .inr (6, [.ref a0, .ref a1, .ref a2, .ref a3, .null, .int 0, .int 0])) :: ((((kz_X0 cI a0 u0 ++ kz_X1 cI cA a1 u1) ++ kz_X1 cI cA a2 u2) ++ kz_X3 cI cA a3 u3) ++ kz_X2 cI cA a4 u4)) H locs := hS
  refine kz_putF (q0 := 0) (k := 4) (T := TX4) (N := 7) (ci := 6) hC hS hin rfl rfl (by decide) in_X4_init_X4 tyX4 tyX4_ok nmX4 (by decide +kernel) rfl rfl rfl rfl rfl (Nat.le_of_ble_eq_true rfl) dX4_init_56 (fun H locs hS => ?_)
  have hS : kz_St D (kz_A h0 s.heap.size) s ((h0, .inr (6, [.ref a0, .ref a1, .ref a2, .ref a3, .ref a4, .int 0, .int 0])) :: ((((kz_X0 cI a0 u0 ++ kz_X1 cI cA a1 u1) ++ kz_X1 cI cA a2 u2) ++ kz_X3 cI cA a3 u3) ++ kz_X2 cI cA a4 u4)) H locs := hS
  refine lv_aload_n hC.x hC.b dX4_init_59 rfl (lv_at hl 0 rfl) ?_
  refine lv_iconst (v := (0 : Int32)) hC.x hC.b dX4_init_60 (by decide) ?_
  refine kz_put (q0 := 0) (k := 5) (T := TX4) (N := 7) (ci := 6) hC hS rfl rfl (by decide) in_X4_init_X4 tyX4 tyX4_ok nmX4 (by decide +kernel) rfl rfl rfl rfl rfl (Nat.le_of_ble_eq_true rfl) dX4_init_61 (fun H locs hS => ?_)
  refine lv_aload_n hC.x hC.b dX4_init_64 rfl (lv_at hl 0 rfl) ?_
  refine lv_iconst (v := (0 : Int32)) hC.x hC.b dX4_init_65 (by decide) ?_
  refine kz_put (q0 := 0) (k := 6) (T := TX4) (N := 7) (ci := 6) hC hS rfl rfl (by decide) in_X4_init_X4 tyX4 tyX4_ok nmX4 (by decide +kernel) rfl rfl rfl rfl rfl (Nat.le_of_ble_eq_true rfl) dX4_init_66 (fun H locs hS => ?_)
  exact kz_vret (wr := kz_X4 cI cA h0) hC ((a0, u0), (a1, u1), (a2, u2), (a3, u3), (a4, u4)) hS hr hlocks (by decide) (by decide) dX4_init_69
