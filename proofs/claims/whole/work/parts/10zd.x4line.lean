/-! line, of the class -/
def j_ok (x : Int32) (b : Nat) : Bool := decide (x.toNatClampNeg < b) && decide (nI x.toNatClampNeg = x)
theorem j_ok_t {x : Int32} {b : Nat} (h : j_ok x b = true) : x.toNatClampNeg < b ∧ x = nI x.toNatClampNeg := by
  unfold j_ok at h
  rw [Bool.and_eq_true, decide_eq_true_eq, decide_eq_true_eq] at h
  exact ⟨h.1, h.2.symm⟩
def f_X4_line (x1 : Int32) (g : Gt) : Option (Nat × Int32 × Gt) := bd2 (f_X4_checkCord x1 g) (fun k2 g2 => if k2 = 0 then gd (j_ok x1 16) (gd (k_ib x1 16) (gd (j_ok (g2 11 0 x1.toNatClampNeg) 10000) (bd2 (f_X1_digits 0 x1 g2) (fun r53 g53 => gd (j_ok r53 10000) (some (0, j_hs (j_tx x1.toNatClampNeg (g2 11 0 x1.toNatClampNeg).toNatClampNeg r53.toNatClampNeg) (j_tk x1.toNatClampNeg (g2 11 0 x1.toNatClampNeg).toNatClampNeg r53.toNatClampNeg) 0 0, g53)))))) else some (k2, 0, g2))
theorem j_dc4 (u : Nat) : j_dc u ≤ 4 := by unfold j_dc; split <;> (try split) <;> (try split) <;> omega
theorem j_dc2 {u : Nat} (h : u < 100) : j_dc u ≤ 2 := by unfold j_dc; split <;> (try split) <;> (try split) <;> omega
abbrev rm_X4_line : Room := { frames := 8, cells := 3, slots := 26, locals := 180 }
theorem in_X4_line_X4 : ∀ w ∈ wsX40, w ∈ wsX4_line := fun _ h => List.mem_cons_of_mem _ (List.mem_append_left _ (List.mem_append_left _ (List.mem_append_left _ (List.mem_append_right _ h))))
theorem in_X4_line_X0 : ∀ w ∈ wsX00, w ∈ wsX4_line := fun _ h => List.mem_cons_of_mem _ (List.mem_append_left _ (List.mem_append_left _ (List.mem_append_right _ h)))
theorem in_X4_line_J4 : ∀ w ∈ wsJ40, w ∈ wsX4_line := fun _ h => List.mem_cons_of_mem _ (List.mem_append_left _ (List.mem_append_left _ (List.mem_append_left _ (List.mem_append_left _ (List.mem_append_right _ h)))))
set_option maxRecDepth 20000 in
theorem lk_X4_line_c : Cond.classLink RX4 192 RJ4 ∈ wsX4_line ∧ Cond.instantiable RJ4 4 ∈ wsX4_line ∧ Cond.initialized RJ4 ∈ wsX4_line ∧ Cond.arrayClass .byte ∈ wsX4_line := by decide +kernel
set_option maxRecDepth 20000 in
theorem lk_X4_line_n : Cond.instanceMethod yJ4_init_da8c8 ∈ wsX4_line ∧ Cond.methodLink RX4 194 yJ4_init_da8c8 ∈ wsX4_line := by decide +kernel
set_option maxRecDepth 20000 in
theorem lk_X4_line_f10 : Cond.fieldLink RX4 10 "KnotArchive" "cords" "LKnotArchive$Cords;" ∈ wsX4_line := by decide +kernel
set_option maxRecDepth 20000 in
theorem lk_X4_line_f19 : Cond.fieldLink RX4 19 "KnotArchive" "nowKnots" "LKnotArchive$Knots;" ∈ wsX4_line := by decide +kernel
set_option maxRecDepth 20000 in
theorem lk_X4_line_iX1 : Cond.initialized RX1 ∈ wsX4_line := by decide +kernel
set_option maxRecDepth 20000 in
theorem lk_X4_line_nX1_digits : Cond.instanceMethod yX1_digits ∈ wsX4_line := by decide +kernel
set_option maxRecDepth 20000 in
theorem lk_X4_line_zX1_digits : Cond.selects RX1 yX1_digits yX1_digits ∈ wsX4_line := by decide +kernel
set_option maxRecDepth 100000 in
set_option maxHeartbeats 4000000 in
theorem w_X4_line_65 {Γ : k_Pm} {A0 : Nat → Prop} {p : Program} {l : Launch} {e : Env} {s : State} {m : MethodId} {args : Array Value} {below : List Frame} {meth : Method} {c : Code} {cells slots : Nat} {Q : State → Prop} {g : Gt} {h v a0 K : Nat} {x1 : Int32} {cB : ClassId} {ml : Value} {f : Nat → Int32} (hC : k_C Γ A0 p l s m args c cX4_line 5 wsX4_line RX4) (hcs : cells ≤ rm_X4_line.cells ∧ slots ≤ rm_X4_line.slots) (hB : ArrOfT s cB .byte ∧ va_RA s cB .byte) (hK : K ≤ 16) (hf : j_asc f K) : ∀ (n i : Nat) (y : Int32), i + n = K → ∀ (H : Heap) (locs : List Loc) (ls : Array Slot), k_St Γ A0 s (j_sb h v cB (nI K) ml f) g H locs → lv_has ls 5 [(4, .int (nI i)), (3, .int y), (2, .ref h), (0, .ref a0), (1, .int x1)] → (∀ (H1 : Heap) (locs1 : List Loc) (ls1 : Array Slot), k_St Γ A0 s (j_sb h v cB (nI K) ml f) g H1 locs1 → lv_has ls1 5 [(3, .int (j_hs f n i y))] → W p l e rm_X4_line s m args below meth c H1 locs1 cells slots Q (F0 m 92 ls1 [])) → W p l e rm_X4_line s m args below meth c H locs cells slots Q (F0 m 65 ls []) := by
  intro n
  induction n with
  | zero =>
    intro i y hin H locs ls hw hl kk
    have hi : i = K := by omega
    subst hi
    refine lv_iload hC.x hC.b dX4_line_65 (lv_at hl 0 rfl) ?_
    refine lv_aload_n hC.x hC.b dX4_line_67 rfl (lv_at hl 2 rfl) ?_
    refine jx_goi (w1 := j_sb h v cB (nI i) ml f) hC hw (va_runV (As := []) hC.1 (c_J4_length _) (cwV 0 hC.t gX4_line_J4_length_8abf5 rfl rfl rfl (by decide +kernel) ⟨Nat.le_of_ble_eq_true rfl, Nat.le_of_ble_eq_true rfl⟩) (jx_preV (q0 := 0) hC hw hB rfl) rfl rfl hl.1 rfl (lv_room (Nat.le_of_ble_eq_true rfl)) dX4_line_68 hcs) (fun H locs hw => ?_)
    refine lv_icmp_ge (tgt := 92) hC.x hC.b dX4_line_71 (by decide) (fun _ => ?_) (fun hc => absurd (Int32.le_refl _) hc)
    exact kk _ _ _ hw (lv_sub hl [1] rfl)
  | succ n ih =>
    intro i y hin H locs ls hw hl kk
    have hi : i < K := by omega
    obtain ⟨ch, hch, hfi⟩ := hf i hi
    refine lv_iload hC.x hC.b dX4_line_65 (lv_at hl 0 rfl) ?_
    refine lv_aload_n hC.x hC.b dX4_line_67 rfl (lv_at hl 2 rfl) ?_
    refine jx_goi (w1 := j_sb h v cB (nI K) ml f) hC hw (va_runV (As := []) hC.1 (c_J4_length _) (cwV 0 hC.t gX4_line_J4_length_8abf5 rfl rfl rfl (by decide +kernel) ⟨Nat.le_of_ble_eq_true rfl, Nat.le_of_ble_eq_true rfl⟩) (jx_preV (q0 := 0) hC hw hB rfl) rfl rfl hl.1 rfl (lv_room (Nat.le_of_ble_eq_true rfl)) dX4_line_68 hcs) (fun H locs hw => ?_)
    refine lv_icmp_ge (tgt := 92) hC.x hC.b dX4_line_71 (by decide) (fun hc => absurd hc (by rw [nI_leI (by omega) (by omega)]; omega)) (fun _ => ?_)
    refine lv_iload_n hC.x hC.b dX4_line_74 rfl (lv_at hl 1 rfl) ?_
    refine lv_bipush (v := (31 : Int32)) hC.x hC.b dX4_line_75 (by decide) ?_
    refine lv_imul hC.x hC.b dX4_line_77 ?_
    refine lv_aload_n hC.x hC.b dX4_line_78 rfl (lv_at hl 2 rfl) ?_
    refine lv_iload hC.x hC.b dX4_line_79 (lv_at hl 0 rfl) ?_
    refine jx_goi (w1 := j_sb h v cB (nI K) ml f) hC hw (va_runV (As := [.int (nI i)]) hC.1 (c_J4_charAt hi hK hch hfi _) (cwV 1 hC.t gX4_line_J4_charAt_5068e rfl rfl rfl (by decide +kernel) ⟨Nat.le_of_ble_eq_true rfl, Nat.le_of_ble_eq_true rfl⟩) (jx_preV (q0 := 0) hC hw hB rfl) rfl rfl hl.1 rfl (lv_room (Nat.le_of_ble_eq_true rfl)) dX4_line_81 hcs) (fun H locs hw => ?_)
    refine lv_iadd hC.x hC.b dX4_line_84 ?_
    refine lv_istore_n (lv' := [(3, .int (y * 31 + nI ch)), (4, .int (nI i)), (2, .ref h), (0, .ref a0), (1, .int x1)]) hC.x hC.b dX4_line_85 rfl hl (by decide) rfl (fun ls hl => ?_)
    refine lv_iinc (v := nI i + (1 : Int32)) (lv' := [(4, .int (nI i + 1)), (3, .int (y * 31 + nI ch)), (2, .ref h), (0, .ref a0), (1, .int x1)]) hC.x hC.b dX4_line_86 hl (k := 1) rfl rfl (by decide) rfl (fun ls hl => ?_)
    refine lv_goto (tgt := 65) hC.x hC.b dX4_line_89 (by decide) ?_
    have e1 : nI i + 1 = nI (i + 1) := nI_add i 1
    rw [e1] at hl
    rw [← hfi] at hl
    exact ih (i + 1) _ (by omega) _ _ _ hw hl kk
set_option maxRecDepth 100000 in
set_option maxHeartbeats 4000000 in
theorem c_X4_line {Γ : k_Pm} {l : Launch} (hl0 : l.stackTraces = false) {x1 : Int32}  {g : Gt} {k : Nat} {r : Int32} {g2 : Gt} (h : f_X4_line x1 g = some (k, r, g2)) : k_CXI Γ l yX4_line wsX4_line rm_X4_line [.ref (k_ad Γ 0 (0)), .int (x1)] g k r g2 := by
  intro sz
  refine vx_ofW (cc := cX4_line) (maxL := 5) (ret := (some .int)) (by decide) rfl ?_
  intro p e s m args below meth c s₁ B hml hout hv
  obtain ⟨rfl, rfl, hP, hKS⟩ := hv
  have hr := B.returns
  have hlocks := B.notSynchronized
  have hC : k_C Γ (k_A Γ s.heap.size) p l s m _ c cX4_line 5 wsX4_line RX4 := k_C.of ⟨B.exec, B.bytes, hml, findClass_of_methodNamed B.named, atoms_spec (ws := wsX4_line) B.pre⟩ hKS hl0
  have hw : k_St Γ (k_A Γ s.heap.size) s [] g s.heap [] := k_St.of hKS hP
  obtain ⟨cB, kB, compB, hB1, hB2, hB3⟩ := Cond.arrayClass_spec (args := #[.ref (k_ad Γ 0 (0)), .int (x1)]) (first := s) (o := none) (s := s) (idx := []) (hC.t _ lk_X4_line_c.2.2.2)
  have hB : ArrOfT s cB .byte ∧ va_RA s cB .byte := ⟨fun n z => ⟨fun k h => (by cases h), kB, hB2, compB, hB3⟩, hB1⟩
  have hl := lv_entry ([.ref (k_ad Γ 0 (0)), .int (x1)] : List Value) (n := 5) (Nat.le_of_ble_eq_true rfl)
  rw [lg_entry_eq]
  generalize (lg_sl ([.ref (k_ad Γ 0 (0)), .int (x1)] : List Value) ++ List.replicate (5 - (lg_sl ([.ref (k_ad Γ 0 (0)), .int (x1)] : List Value)).length) Slot.unset).toArray = ls at hl ⊢
  have hl : lv_has ls 5 [(0, .ref (k_ad Γ 0 (0))), (1, .int (x1))] := hl
  change W p l e rm_X4_line _ _ _ _ _ _ _ _ _ _ _ _
  unfold f_X4_line at h
  refine lv_aload_n hC.x hC.b dX4_line_0 rfl (lv_at hl 0 rfl) ?_
  refine lv_iload_n hC.x hC.b dX4_line_1 rfl (lv_at hl 1 rfl) ?_
  obtain ⟨k2, g2, hq, h⟩ := bd2_t h
  refine x_goxv hC hw (x_runxV hC hw (c_X4_checkCord (Γ := Γ) (l := l) hC.2.2.2.2 hq) (cwV 1 hC.t gX4_line_X4_checkCord rfl rfl rfl (by decide +kernel) ⟨Nat.le_of_ble_eq_true rfl, Nat.le_of_ble_eq_true rfl⟩) (As := [.int (x1)]) (by decide) (k_E0 _ _ _) rfl rfl rfl hl.1 (Nat.le_of_ble_eq_true rfl) dX4_line_2 ⟨by decide, by decide⟩) (fun E ce q9 H locs hk hE hw hce hcv hcl => ?_) (fun hk H locs hw => ?_)
  · have h := it_f h hk
    obtain ⟨rfl, rfl, rfl⟩ := sm3 h
    exact x_out hw hout hlocks hk hE hce hcv hcl (by decide) (by decide)
  · have h := it_t h hk
    obtain ⟨hg0, h⟩ := gd_t h
    obtain ⟨hg1, h⟩ := gd_t h
    obtain ⟨hg2, h⟩ := gd_t h
    obtain ⟨r53, g53, hq, h⟩ := bd2_t h
    obtain ⟨hg3, h⟩ := gd_t h
    obtain ⟨hc, hx1⟩ := j_ok_t hg0
    obtain ⟨hs, hst⟩ := j_ok_t hg2
    obtain ⟨hu, hr53⟩ := j_ok_t hg3
    generalize hcE : x1.toNatClampNeg = cN at *
    generalize hsE : (g2 11 0 cN).toNatClampNeg = sN at *
    generalize huE : r53.toNatClampNeg = uN at *
    have hd1 := j_dc2 (show cN < 100 by omega)
    have hd2 := j_dc4 sN
    have hd3 := j_dc4 uN
    refine jx_new hC hw hB in_X4_line_J4 lk_X4_line_c.1 lk_X4_line_c.2.1 lk_X4_line_c.2.2.1 (by decide) (by decide) dX4_line_5 dX4_line_8 (fun h H1 hp => va_runI (As := []) hC.1 c_J4_init (cwI 0 hC.t gX4_line_J4_init_da8c8 rfl rfl rfl (hC.t _ lk_X4_line_c.2.2.1) (hC.t _ lk_X4_line_n.2) (hC.t _ lk_X4_line_n.1) rfl (by decide +kernel) ⟨Nat.le_of_ble_eq_true rfl, Nat.le_of_ble_eq_true rfl⟩) hp rfl rfl hl.1 rfl (lv_room (Nat.le_of_ble_eq_true rfl)) dX4_line_9 ⟨by decide, by decide⟩) (fun b v H locs hw => ?_)
    have hw : k_St Γ _ s (j_sb b v cB (nI 0) (.int 0) (fun _ => 0)) g2 H locs := hw
    refine lv_astore_n (lv' := [(2, .ref b), (0, .ref (k_ad Γ 0 (0))), (1, .int (x1))]) hC.x hC.b dX4_line_12 rfl hl (by decide) rfl (fun ls hl => ?_)
    refine lv_aload_n hC.x hC.b dX4_line_13 rfl (lv_at hl 0 rfl) ?_
    refine lv_iload_n (x := nI cN) hC.x hC.b dX4_line_14 rfl (by rw [← hx1]; exact lv_at hl 2 rfl) ?_
    refine jx_gor (w1 := (j_sb b v cB (nI (0 + j_dc cN)) (.int 0) (j_gc (fun _ => 0) cN (0 + j_dc cN)))) hC hw (va_runV (As := [.int (nI cN)]) hC.1 (c_J4_append_bf812 (k := 0) (u := cN) (by omega) (by omega) _) (cwV 1 hC.t gX4_line_J4_append_bf812 rfl rfl rfl (by decide +kernel) ⟨Nat.le_of_ble_eq_true rfl, Nat.le_of_ble_eq_true rfl⟩) (jx_preV (q0 := 0) hC hw hB rfl) rfl rfl hl.1 rfl (lv_room (Nat.le_of_ble_eq_true rfl)) dX4_line_15 ⟨by decide, by decide⟩) (fun H locs hw => ?_)
    refine lv_pop hC.x hC.b dX4_line_18 rfl ?_
    refine lv_aload_n hC.x hC.b dX4_line_19 rfl (lv_at hl 0 rfl) ?_
    refine lv_bipush (v := nI 58) hC.x hC.b dX4_line_20 (by decide) ?_
    refine jx_gor (w1 := (j_sb b v cB (nI (0 + j_dc cN + 1)) (.int 0) (upd (j_gc (fun _ => 0) cN (0 + j_dc cN)) (0 + j_dc cN) (nI 58)))) hC hw (va_runV (As := [.int (nI 58)]) hC.1 (c_J4_append_cf468 (k := 0 + j_dc cN) (u := 58) (by omega) (by omega) _) (cwV 1 hC.t gX4_line_J4_append_cf468 rfl rfl rfl (by decide +kernel) ⟨Nat.le_of_ble_eq_true rfl, Nat.le_of_ble_eq_true rfl⟩) (jx_preV (q0 := 0) hC hw hB rfl) rfl rfl hl.1 rfl (lv_room (Nat.le_of_ble_eq_true rfl)) dX4_line_22 ⟨by decide, by decide⟩) (fun H locs hw => ?_)
    refine lv_pop hC.x hC.b dX4_line_25 rfl ?_
    refine lv_aload_n hC.x hC.b dX4_line_26 rfl (lv_at hl 0 rfl) ?_
    refine lv_aload_n hC.x hC.b dX4_line_27 rfl (lv_at hl 1 rfl) ?_
    refine x_get hC hw (k := 0) (T := TX4) (by decide) (k_E0 _ _ _) in_X4_line_X4 rfl (by decide) lk_X4_line_f10 rfl rfl dX4_line_28 ?_
    refine x_getN hC hw (k := 1) (T := TX0) (by decide) (k_E1 _ _ _) in_X4_line_X0 rfl (by decide) nw_f_X4_202 rfl rfl dX4_line_31 ?_
    refine lv_iload_n hC.x hC.b dX4_line_34 rfl (lv_at hl 2 rfl) ?_
    refine x_iald hC hw rfl (by decide) hg1 dX4_line_35 ?_
    rw [hcE, hst]
    refine jx_gor (w1 := (j_sb b v cB (nI (0 + j_dc cN + 1 + j_dc sN)) (.int 0) (j_gc (upd (j_gc (fun _ => 0) cN (0 + j_dc cN)) (0 + j_dc cN) (nI 58)) sN (0 + j_dc cN + 1 + j_dc sN)))) hC hw (va_runV (As := [.int (nI sN)]) hC.1 (c_J4_append_bf812 (k := 0 + j_dc cN + 1) (u := sN) (by omega) (by omega) _) (cwV 1 hC.t gX4_line_J4_append_bf812 rfl rfl rfl (by decide +kernel) ⟨Nat.le_of_ble_eq_true rfl, Nat.le_of_ble_eq_true rfl⟩) (jx_preV (q0 := 0) hC hw hB rfl) rfl rfl hl.1 rfl (lv_room (Nat.le_of_ble_eq_true rfl)) dX4_line_36 ⟨by decide, by decide⟩) (fun H locs hw => ?_)
    refine lv_pop hC.x hC.b dX4_line_39 rfl ?_
    refine lv_aload_n hC.x hC.b dX4_line_40 rfl (lv_at hl 0 rfl) ?_
    refine lv_bipush (v := nI 58) hC.x hC.b dX4_line_41 (by decide) ?_
    refine jx_gor (w1 := (j_sb b v cB (nI (0 + j_dc cN + 1 + j_dc sN + 1)) (.int 0) (upd (j_gc (upd (j_gc (fun _ => 0) cN (0 + j_dc cN)) (0 + j_dc cN) (nI 58)) sN (0 + j_dc cN + 1 + j_dc sN)) (0 + j_dc cN + 1 + j_dc sN) (nI 58)))) hC hw (va_runV (As := [.int (nI 58)]) hC.1 (c_J4_append_cf468 (k := 0 + j_dc cN + 1 + j_dc sN) (u := 58) (by omega) (by omega) _) (cwV 1 hC.t gX4_line_J4_append_cf468 rfl rfl rfl (by decide +kernel) ⟨Nat.le_of_ble_eq_true rfl, Nat.le_of_ble_eq_true rfl⟩) (jx_preV (q0 := 0) hC hw hB rfl) rfl rfl hl.1 rfl (lv_room (Nat.le_of_ble_eq_true rfl)) dX4_line_43 ⟨by decide, by decide⟩) (fun H locs hw => ?_)
    refine lv_pop hC.x hC.b dX4_line_46 rfl ?_
    refine lv_aload_n hC.x hC.b dX4_line_47 rfl (lv_at hl 0 rfl) ?_
    refine lv_aload_n hC.x hC.b dX4_line_48 rfl (lv_at hl 1 rfl) ?_
    refine x_get hC hw (k := 1) (T := TX4) (by decide) (k_E0 _ _ _) in_X4_line_X4 rfl (by decide) lk_X4_line_f19 rfl rfl dX4_line_49 ?_
    refine lv_iload_n hC.x hC.b dX4_line_52 rfl (lv_at hl 2 rfl) ?_
    refine x_goi hC hw (x_runN hC hw (c_X1_digits (Γ := Γ) (l := l) hC.2.2.2.2 (by decide) hq) ⟨va_cnB 1 hC.t gX4_line_X1_digits_n78 rfl rfl rfl (hC.w nw_m_X4_78) (hC.t _ lk_X4_line_iX1) (by decide +kernel) ⟨Nat.le_of_ble_eq_true rfl, Nat.le_of_ble_eq_true rfl⟩, hC.t _ lk_X4_line_nX1_digits, hC.t _ lk_X4_line_zX1_digits⟩ (As := [.int (x1)]) (by decide) (k_E2 _ _ _) rfl rfl rfl hl.1 (Nat.le_of_ble_eq_true rfl) dX4_line_53 ⟨by decide, by decide⟩) (fun H locs hw => ?_)
    rw [hr53]
    refine jx_gor (w1 := (j_sb b v cB (nI (0 + j_dc cN + 1 + j_dc sN + 1 + j_dc uN)) (.int 0) (j_gc (upd (j_gc (upd (j_gc (fun _ => 0) cN (0 + j_dc cN)) (0 + j_dc cN) (nI 58)) sN (0 + j_dc cN + 1 + j_dc sN)) (0 + j_dc cN + 1 + j_dc sN) (nI 58)) uN (0 + j_dc cN + 1 + j_dc sN + 1 + j_dc uN)))) hC hw (va_runV (As := [.int (nI uN)]) hC.1 (c_J4_append_bf812 (k := 0 + j_dc cN + 1 + j_dc sN + 1) (u := uN) (by omega) (by omega) _) (cwV 1 hC.t gX4_line_J4_append_bf812 rfl rfl rfl (by decide +kernel) ⟨Nat.le_of_ble_eq_true rfl, Nat.le_of_ble_eq_true rfl⟩) (jx_preV (q0 := 0) hC hw hB rfl) rfl rfl hl.1 rfl (lv_room (Nat.le_of_ble_eq_true rfl)) dX4_line_56 ⟨by decide, by decide⟩) (fun H locs hw => ?_)
    refine lv_pop hC.x hC.b dX4_line_59 rfl ?_
    refine lv_iconst (v := (0 : Int32)) hC.x hC.b dX4_line_60 (by decide) ?_
    refine lv_istore_n (lv' := [(3, .int 0), (2, .ref b), (0, .ref (k_ad Γ 0 (0))), (1, .int (x1))]) hC.x hC.b dX4_line_61 rfl hl (by decide) rfl (fun ls hl => ?_)
    refine lv_iconst (v := (0 : Int32)) hC.x hC.b dX4_line_62 (by decide) ?_
    refine lv_istore (lv' := [(4, .int 0), (3, .int 0), (2, .ref b), (0, .ref (k_ad Γ 0 (0))), (1, .int (x1))]) hC.x hC.b dX4_line_63 hl (by decide) rfl (fun ls hl => ?_)
    refine w_X4_line_65 (K := j_tk cN sN uN) (f := j_tx cN sN uN) hC ⟨by decide, by decide⟩ hB (by unfold j_tk; omega) (j_tx_asc (by omega) hs hu) (j_tk cN sN uN) 0 0 (by omega) _ _ _ hw hl (fun H locs ls hw hl => ?_)
    refine lv_iload_n hC.x hC.b dX4_line_92 rfl (lv_at hl 0 rfl) ?_
    obtain ⟨rfl, rfl, rfl⟩ := sm3 h
    exact x_xiret hC hw hr hlocks (by decide) (by decide) dX4_line_93
