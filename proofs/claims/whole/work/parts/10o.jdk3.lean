/-! canEncode, ensureCapacityInternal where nothing grows -/
theorem c_J1_canEncode {D : va_G} {cB : ClassId} {b0 : Nat} {l : Launch} {v : Nat} {ws : va_W} (hv : v < 256) : j_MI D cB b0 l yJ1_canEncode_fc78d wsJ1_canEncode_fc78d (rm_j 1 22) [.int (nI v)] ws 1 ws := by
  intro sz
  refine Met.ofW (cc := cJ1_canEncode_fc78d) (maxL := 1) (ret := some .boolean) (by decide) rfl ?_
  intro p e s m args below meth c s₁ B hml hv9
  obtain ⟨rfl, rfl, hP, hK, hD⟩ := hv9
  have hr := B.returns
  have hlocks := B.notSynchronized
  obtain ⟨hC, hS⟩ := j_start hK hP hD (⟨B.exec, B.bytes, hml, findClass_of_methodNamed B.named, atoms_spec (ws := wsJ1_canEncode_fc78d) B.pre⟩ : CallFix p m c cJ1_canEncode_fc78d 1 s _ wsJ1_canEncode_fc78d RJ1)
  have hl := lv_entry ([.int (nI v)] : List Value) (n := 1) (Nat.le_of_ble_eq_true rfl)
  rw [lg_entry_eq]
  generalize (lg_sl ([.int (nI v)] : List Value) ++ List.replicate (1 - (lg_sl ([.int (nI v)] : List Value)).length) Slot.unset).toArray = ls at hl ⊢
  have hl : lv_has ls 1 [(0, .int (nI v))] := hl
  change W p l e (rm_j 1 22) _ _ _ _ _ _ _ _ _ _ _ _
  refine lv_iload_n hC.x hC.b dJ1_canEncode_fc78d_0 rfl (lv_at hl 0 rfl) ?_
  refine lv_sipush (v := nI 255) hC.x hC.b dJ1_canEncode_fc78d_1 (by decide) ?_
  refine lv_icmp_gt (tgt := 11) hC.x hC.b dJ1_canEncode_fc78d_4 (by decide) (fun h => ?_) (fun _ => ?_)
  · exfalso
    rw [nI_ltI (by omega) (by omega)] at h
    omega
  · refine lv_iconst (v := (1 : Int32)) hC.x hC.b dJ1_canEncode_fc78d_7 (by decide) ?_
    refine lv_goto (tgt := 12) hC.x hC.b dJ1_canEncode_fc78d_8 (by decide) ?_
    exact j_zret hC hS hr hlocks (by decide) (by decide) (by decide) dJ1_canEncode_fc78d_12
theorem j_vret {D : va_G} {cB : ClassId} {b0 : Nat} {p : Program} {l : Launch} {e : Env} {R : Room} {s : State} {m : MethodId} {args : Array Value} {below : List Frame} {meth : Method} {c : Code} {H : Heap} {locs : List Loc} {cells slots : Nat} {cc : ByteArray} {nL : Nat} {Ts : List Cond} {own : String} {pc : Nat} {ls : Array Slot} {ws w1 : va_W} (hC : j_C D cB b0 (va_A ws s.heap.size) p s m args c cc nL Ts own) (hS : j_St D (va_A ws s.heap.size) s w1 H locs) (hr : meth.sig.returnType = none) (hlocks : meth.locks = false) {mc ms : Nat} (hc : cells ≤ mc) (hs : slots ≤ ms) (hdg : decode cc pc = .ok (.return_, 1)) : W p l e R s m args below meth c H locs cells slots (MQ below (j_Qv D ws w1 s.heap.size) args s mc ms (va_A ws s.heap.size)) (F0 m pc ls []) :=
  W.widen hc hs (W.vret hC.x hC.b hr (fun t ht _ => ⟨⟨(), rfl, trivial, by rw [ht]; exact hS.1, hS.2.1⟩, hS.2.2.F ht⟩) hS.2.2.2.2 hdg hlocks)
theorem jn_ensure : ∀ w ∈ wsJ40, w ∈ wsJ5_ensureCapacityInternal_d00df := fun _ h => List.mem_cons_of_mem _ (List.mem_append_right _ h)
theorem c_J5_ensure {D : va_G} {cB : ClassId} {b0 : Nat} {l : Launch} {h v k : Nat} {n : Int32} {ml : Value} {f : Nat → Int32} (hk : k ≤ 16) : j_MV D cB b0 l yJ5_ensureCapacityInternal_d00df wsJ5_ensureCapacityInternal_d00df (rm_j 1 22) [.ref h, .int (nI k)] (j_sb h v cB n ml f) (j_sb h v cB n ml f) := by
  intro sz
  refine Met.ofW (cc := cJ5_ensureCapacityInternal_d00df) (maxL := 3) (ret := none) (by decide) rfl ?_
  intro p e s m args below meth c s₁ B hml hv
  obtain ⟨rfl, rfl, hP, hK, hD⟩ := hv
  have hr := B.returns
  have hlocks := B.notSynchronized
  obtain ⟨hC, hS⟩ := j_start hK hP hD (⟨B.exec, B.bytes, hml, findClass_of_methodNamed B.named, atoms_spec (ws := wsJ5_ensureCapacityInternal_d00df) B.pre⟩ : CallFix p m c cJ5_ensureCapacityInternal_d00df 3 s _ wsJ5_ensureCapacityInternal_d00df RJ5)
  have hl := lv_entry ([.ref h, .int (nI k)] : List Value) (n := 3) (Nat.le_of_ble_eq_true rfl)
  rw [lg_entry_eq]
  generalize (lg_sl ([.ref h, .int (nI k)] : List Value) ++ List.replicate (3 - (lg_sl ([.ref h, .int (nI k)] : List Value)).length) Slot.unset).toArray = ls at hl ⊢
  have hl : lv_has ls 3 [(0, .ref h), (1, .int (nI k))] := hl
  change W p l e (rm_j 1 22) _ _ _ _ _ _ _ _ _ _ _ _
  refine lv_aload_n hC.x hC.b dJ5_ensureCapacityInternal_d00df_0 rfl (lv_at hl 0 rfl) ?_
  refine j_get (q0 := 0) (k := 0) hC hS jn_ensure rfl (by decide) (by decide +kernel) rfl rfl dJ5_ensureCapacityInternal_d00df_1 ?_
  refine va_alen (v := nI 16) hC.x hC.b hC.2.1.1 hS.1 1 0 rfl rfl rfl dJ5_ensureCapacityInternal_d00df_4 ?_
  refine lv_aload_n hC.x hC.b dJ5_ensureCapacityInternal_d00df_5 rfl (lv_at hl 0 rfl) ?_
  refine j_get (q0 := 0) (k := 1) hC hS jn_ensure rfl (by decide) (by decide +kernel) rfl rfl dJ5_ensureCapacityInternal_d00df_6 ?_
  refine lv_ishr hC.x hC.b dJ5_ensureCapacityInternal_d00df_9 ?_
  rw [show nI 16 >>> ((0 : Int32) &&& 31) = nI 16 from by decide]
  refine lv_istore_n (lv' := [(2, .int (nI 16)), (0, .ref h), (1, .int (nI k))]) hC.x hC.b dJ5_ensureCapacityInternal_d00df_10 rfl hl (by decide) rfl (fun ls hl => ?_)
  refine lv_iload_n hC.x hC.b dJ5_ensureCapacityInternal_d00df_11 rfl (lv_at hl 2 rfl) ?_
  refine lv_iload_n hC.x hC.b dJ5_ensureCapacityInternal_d00df_12 rfl (lv_at hl 0 rfl) ?_
  refine lv_isub hC.x hC.b dJ5_ensureCapacityInternal_d00df_13 ?_
  refine lv_if_le (tgt := 38) hC.x hC.b dJ5_ensureCapacityInternal_d00df_14 (by decide) (fun _ => ?_) (fun hq => ?_)
  · exact j_vret hC hS hr hlocks (by decide) (by decide) dJ5_ensureCapacityInternal_d00df_38
  · exfalso
    apply hq
    rw [q_lel, pk_sub_toInt (by omega) (by omega), show (0 : Int32).toInt = 0 from by decide]
    omega
