/-! written by wip/whole/genctor5.py: the reference's constructor -/
abbrev kz_y (cI : ClassId) (f : Nat → Int32) : va_E := .inl (cI, (96, .inl f))
def kz_X5 (cI : ClassId) (h0 : Nat) (f : Nat → Int32) (u : Nat → Nat) : va_W := [(h0, .inr (7, [.int 0, .int 0, .int 0, .int 0, .ref (u 0), .ref (u 1), .ref (u 2), .ref (u 3), .ref (u 4), .ref (u 5), .ref (u 6), .ref (u 7), .ref (u 8), .ref (u 9), .ref (u 10), .ref (u 11)])), (u 0, kz_z cI 16), (u 1, kz_z cI 16), (u 2, kz_z cI 64), (u 3, kz_z cI 64), (u 4, kz_z cI 6), (u 5, kz_z cI 96), (u 6, kz_y cI f), (u 7, kz_z cI 150), (u 8, kz_z cI 2), (u 9, kz_z cI 16), (u 10, kz_z cI 16), (u 11, kz_z cI 16)]
theorem in_X5_init_X5 : ∀ w ∈ wsX50, w ∈ wsX5_init := fun _ h => List.mem_cons_of_mem _ (List.mem_append_right _ h)
theorem w_X5_init_102 {l : Launch} {D : va_G} {cI cA : ClassId} {h0 : Nat} {A : Nat → Prop} {p : Program} {e : Env} {R : Room} {s : State} {m : MethodId} {args : Array Value} {below : List Frame} {meth : Method} {c : Code} {Q : State → Prop} {cells slots : Nat} {u : Nat → Nat} (hC : kz_C D cI cA A p s m args c cX5_init 2 wsX5_init RX5)
    (kk : ∀ (H : Heap) (locs : List Loc) (ls : Array Slot), kz_St D A s (kz_X5 cI h0 (fun j => if j < 96 then -1 else 0) u) H locs → W p l e R s m args below meth c H locs cells slots Q (F0 m 124 ls [])) : ∀ (n k : Nat) (H : Heap) (locs : List Loc) (ls : Array Slot), k + n = 96 → kz_St D A s (kz_X5 cI h0 (fun j => if j < k then -1 else 0) u) H locs → lv_has ls 2 [(1, .int (nI k)), (0, .ref h0)] → W p l e R s m args below meth c H locs cells slots Q (F0 m 102 ls []) := by
  intro n
  induction n with
  | zero =>
    intro k H locs ls hk hS hl
    have hk96 : k = 96 := by omega
    subst hk96
    refine lv_iload_n hC.x hC.b dX5_init_102 rfl (lv_at hl 0 rfl) ?_
    refine lv_aload_n hC.x hC.b dX5_init_103 rfl (lv_at hl 1 rfl) ?_
    refine va_get (ci := 7) (T := TX5) (N := 16) hC.x hC.b hC.t in_X5_init_X5 hC.o hC.2.1.1 hS.1 0 rfl rfl 10 (by decide) (hC.t (.fieldLink RX5 28 "KnotArchiveModel" "years" "[I") (by decide +kernel)) (fun _ h => h) rfl dX5_init_104 ?_
    refine va_alen (v := nI 96) hC.x hC.b hC.2.1.1 hS.1 7 0 rfl rfl rfl dX5_init_107 ?_
    refine lv_icmp_ge (tgt := 124) hC.x hC.b dX5_init_108 (by decide) (fun _ => kk H locs ls hS) (fun h => absurd (by decide) h)
  | succ n ih =>
    intro k H locs ls hk hS hl
    refine lv_iload_n hC.x hC.b dX5_init_102 rfl (lv_at hl 0 rfl) ?_
    refine lv_aload_n hC.x hC.b dX5_init_103 rfl (lv_at hl 1 rfl) ?_
    refine va_get (ci := 7) (T := TX5) (N := 16) hC.x hC.b hC.t in_X5_init_X5 hC.o hC.2.1.1 hS.1 0 rfl rfl 10 (by decide) (hC.t (.fieldLink RX5 28 "KnotArchiveModel" "years" "[I") (by decide +kernel)) (fun _ h => h) rfl dX5_init_104 ?_
    refine va_alen (v := nI 96) hC.x hC.b hC.2.1.1 hS.1 7 0 rfl rfl rfl dX5_init_107 ?_
    refine lv_icmp_ge (tgt := 124) hC.x hC.b dX5_init_108 (by decide) (fun h => ?_) (fun h => ?_)
    · exfalso
      have h' := (nI_leI (by omega) (by omega)).mp h
      omega
    · refine lv_aload_n hC.x hC.b dX5_init_111 rfl (lv_at hl 1 rfl) ?_
      refine va_get (ci := 7) (T := TX5) (N := 16) hC.x hC.b hC.t in_X5_init_X5 hC.o hC.2.1.1 hS.1 0 rfl rfl 10 (by decide) (hC.t (.fieldLink RX5 28 "KnotArchiveModel" "years" "[I") (by decide +kernel)) (fun _ h => h) rfl dX5_init_112 ?_
      refine lv_iload_n hC.x hC.b dX5_init_115 rfl (lv_at hl 0 rfl) ?_
      refine lv_iconst (v := (-1 : Int32)) hC.x hC.b dX5_init_116 (by decide) ?_
      refine va_iast hC.x hC.b hC.2.1.1 hS.1 hS.2.1 hS.2.2 7 0 rfl rfl (vp_in_nI (show k < 96 by omega) (by omega)) dX5_init_117 fun H1 locs1 h1 h2 h3 => ?_
      have hc : (nI k).toNatClampNeg = k := nI_clamp (by omega)
      rw [hc] at h1 h2
      have hf : upd (fun j => if j < k then (-1 : Int32) else 0) k (-1) = fun j => if j < k + 1 then -1 else 0 := by
        funext j
        unfold upd
        by_cases hj : j = k
        · rw [if_pos hj, if_pos (by omega)]
        · rw [if_neg hj]
          show (if j < k then (-1 : Int32) else 0) = _
          by_cases hl : j < k
          · rw [if_pos hl, if_pos (by omega)]
          · rw [if_neg hl, if_neg (by omega)]
      rw [hf] at h1 h2
      refine lv_iinc (k := 0) (v := nI (k + 1)) hC.x hC.b dX5_init_118 hl rfl (by rw [show Int32.ofInt 1 = 1 from rfl, nI_1]) (by decide) rfl fun ls2 hl2 => ?_
      refine lv_goto (tgt := 102) hC.x hC.b dX5_init_121 (by decide) ?_
      exact ih (k + 1) H1 locs1 ls2 (by omega) ⟨h1, h2, h3⟩ hl2
theorem c_X5_init {l : Launch} {D : va_G} {cI cA : ClassId} {h0 sz : Nat} : Met l yX5_init wsX5_init (rm_ctor 1 12 558 40) (kz_Pre D cI cA h0 7 [.int 0, .int 0, .int 0, .int 0, .null, .null, .null, .null, .null, .null, .null, .null, .null, .null, .null, .null] sz) (kz_Q D (kz_X5 cI h0 (fun j => if j < 96 then -1 else 0)) h0 sz) 12 558 (kz_A h0 sz) := by
  refine Met.ofW (cc := cX5_init) (maxL := 2) (ret := none) (by decide) rfl ?_
  intro p e s m args below meth c s₁ B hml hv
  obtain ⟨rfl, rfl, hP, hK⟩ := hv
  have hr := B.returns
  have hlocks := B.notSynchronized
  have hin : meth.name = "<init>" := (name_of_methodNamed B.named B.method).1
  have hC : kz_C D cI cA (kz_A h0 s.heap.size) p s m _ c cX5_init 2 wsX5_init RX5 := ⟨⟨B.exec, B.bytes, hml, findClass_of_methodNamed B.named, atoms_spec (ws := wsX5_init) B.pre⟩, hK, fun q hq => Or.inr hq⟩
  have hS := kz_St1 (D := D) hP
  have hl := lv_entry ([.ref h0] : List Value) (n := 2) (Nat.le_of_ble_eq_true rfl)
  rw [lg_entry_eq]
  generalize (lg_sl ([.ref h0] : List Value) ++ List.replicate (2 - (lg_sl ([.ref h0] : List Value)).length) Slot.unset).toArray = ls at hl ⊢
  have hl : lv_has ls 2 [(0, .ref h0)] := hl
  change W p l e (rm_ctor 1 12 558 40) _ _ _ _ _ _ _ _ _ _ _ _
  refine lv_aload_n hC.x hC.b dX5_init_0 rfl (lv_at hl 0 rfl) ?_
  refine kz_obj hC hl.1 (by decide +kernel) (by decide +kernel) (by decide +kernel) dX5_init_1 (Nat.le_of_ble_eq_true rfl) (Nat.le_of_ble_eq_true rfl) ?_
  refine lv_aload_n hC.x hC.b dX5_init_4 rfl (lv_at hl 0 rfl) ?_
  refine kz_bip (N := 16) hC dX5_init_5 (by decide) ?_
  refine kz_newi hC hS (by decide +kernel) (by decide) (by decide) (by decide) dX5_init_7 (fun q0 H hS => ?_)
  have hS : kz_St D (kz_A h0 s.heap.size) s [(h0, .inr (7, [.int 0, .int 0, .int 0, .int 0, .null, .null, .null, .null, .null, .null, .null, .null, .null, .null, .null, .null])), (q0, kz_z cI 16)] H _ := hS
  refine kz_putF (q0 := 0) (k := 4) (T := TX5) (N := 16) (ci := 7) hC hS hin rfl rfl (by decide) in_X5_init_X5 tyX5 tyX5_ok nmX5 (by decide +kernel) rfl rfl rfl rfl rfl (Nat.le_of_ble_eq_true rfl) dX5_init_9 (fun H locs hS => ?_)
  have hS : kz_St D (kz_A h0 s.heap.size) s [(h0, .inr (7, [.int 0, .int 0, .int 0, .int 0, .ref q0, .null, .null, .null, .null, .null, .null, .null, .null, .null, .null, .null])), (q0, kz_z cI 16)] H locs := hS
  refine lv_aload_n hC.x hC.b dX5_init_12 rfl (lv_at hl 0 rfl) ?_
  refine kz_bip (N := 16) hC dX5_init_13 (by decide) ?_
  refine kz_newi hC hS (by decide +kernel) (by decide) (by decide) (by decide) dX5_init_15 (fun q1 H hS => ?_)
  have hS : kz_St D (kz_A h0 s.heap.size) s [(h0, .inr (7, [.int 0, .int 0, .int 0, .int 0, .ref q0, .null, .null, .null, .null, .null, .null, .null, .null, .null, .null, .null])), (q0, kz_z cI 16), (q1, kz_z cI 16)] H _ := hS
  refine kz_putF (q0 := 0) (k := 5) (T := TX5) (N := 16) (ci := 7) hC hS hin rfl rfl (by decide) in_X5_init_X5 tyX5 tyX5_ok nmX5 (by decide +kernel) rfl rfl rfl rfl rfl (Nat.le_of_ble_eq_true rfl) dX5_init_17 (fun H locs hS => ?_)
  have hS : kz_St D (kz_A h0 s.heap.size) s [(h0, .inr (7, [.int 0, .int 0, .int 0, .int 0, .ref q0, .ref q1, .null, .null, .null, .null, .null, .null, .null, .null, .null, .null])), (q0, kz_z cI 16), (q1, kz_z cI 16)] H locs := hS
  refine lv_aload_n hC.x hC.b dX5_init_20 rfl (lv_at hl 0 rfl) ?_
  refine kz_bip (N := 64) hC dX5_init_21 (by decide) ?_
  refine kz_newi hC hS (by decide +kernel) (by decide) (by decide) (by decide) dX5_init_23 (fun q2 H hS => ?_)
  have hS : kz_St D (kz_A h0 s.heap.size) s [(h0, .inr (7, [.int 0, .int 0, .int 0, .int 0, .ref q0, .ref q1, .null, .null, .null, .null, .null, .null, .null, .null, .null, .null])), (q0, kz_z cI 16), (q1, kz_z cI 16), (q2, kz_z cI 64)] H _ := hS
  refine kz_putF (q0 := 0) (k := 6) (T := TX5) (N := 16) (ci := 7) hC hS hin rfl rfl (by decide) in_X5_init_X5 tyX5 tyX5_ok nmX5 (by decide +kernel) rfl rfl rfl rfl rfl (Nat.le_of_ble_eq_true rfl) dX5_init_25 (fun H locs hS => ?_)
  have hS : kz_St D (kz_A h0 s.heap.size) s [(h0, .inr (7, [.int 0, .int 0, .int 0, .int 0, .ref q0, .ref q1, .ref q2, .null, .null, .null, .null, .null, .null, .null, .null, .null])), (q0, kz_z cI 16), (q1, kz_z cI 16), (q2, kz_z cI 64)] H locs := hS
  refine lv_aload_n hC.x hC.b dX5_init_28 rfl (lv_at hl 0 rfl) ?_
  refine kz_bip (N := 64) hC dX5_init_29 (by decide) ?_
  refine kz_newi hC hS (by decide +kernel) (by decide) (by decide) (by decide) dX5_init_31 (fun q3 H hS => ?_)
  have hS : kz_St D (kz_A h0 s.heap.size) s [(h0, .inr (7, [.int 0, .int 0, .int 0, .int 0, .ref q0, .ref q1, .ref q2, .null, .null, .null, .null, .null, .null, .null, .null, .null])), (q0, kz_z cI 16), (q1, kz_z cI 16), (q2, kz_z cI 64), (q3, kz_z cI 64)] H _ := hS
  refine kz_putF (q0 := 0) (k := 7) (T := TX5) (N := 16) (ci := 7) hC hS hin rfl rfl (by decide) in_X5_init_X5 tyX5 tyX5_ok nmX5 (by decide +kernel) rfl rfl rfl rfl rfl (Nat.le_of_ble_eq_true rfl) dX5_init_33 (fun H locs hS => ?_)
  have hS : kz_St D (kz_A h0 s.heap.size) s [(h0, .inr (7, [.int 0, .int 0, .int 0, .int 0, .ref q0, .ref q1, .ref q2, .ref q3, .null, .null, .null, .null, .null, .null, .null, .null])), (q0, kz_z cI 16), (q1, kz_z cI 16), (q2, kz_z cI 64), (q3, kz_z cI 64)] H locs := hS
  refine lv_aload_n hC.x hC.b dX5_init_36 rfl (lv_at hl 0 rfl) ?_
  refine kz_bip (N := 6) hC dX5_init_37 (by decide) ?_
  refine kz_newi hC hS (by decide +kernel) (by decide) (by decide) (by decide) dX5_init_39 (fun q4 H hS => ?_)
  have hS : kz_St D (kz_A h0 s.heap.size) s [(h0, .inr (7, [.int 0, .int 0, .int 0, .int 0, .ref q0, .ref q1, .ref q2, .ref q3, .null, .null, .null, .null, .null, .null, .null, .null])), (q0, kz_z cI 16), (q1, kz_z cI 16), (q2, kz_z cI 64), (q3, kz_z cI 64), (q4, kz_z cI 6)] H _ := hS
  refine kz_putF (q0 := 0) (k := 8) (T := TX5) (N := 16) (ci := 7) hC hS hin rfl rfl (by decide) in_X5_init_X5 tyX5 tyX5_ok nmX5 (by decide +kernel) rfl rfl rfl rfl rfl (Nat.le_of_ble_eq_true rfl) dX5_init_41 (fun H locs hS => ?_)
  have hS : kz_St D (kz_A h0 s.heap.size) s [(h0, .inr (7, [.int 0, .int 0, .int 0, .int 0, .ref q0, .ref q1, .ref q2, .ref q3, .ref q4, .null, .null, .null, .null, .null, .null, .null])), (q0, kz_z cI 16), (q1, kz_z cI 16), (q2, kz_z cI 64), (q3, kz_z cI 64), (q4, kz_z cI 6)] H locs := hS
  refine lv_aload_n hC.x hC.b dX5_init_44 rfl (lv_at hl 0 rfl) ?_
  refine kz_bip (N := 96) hC dX5_init_45 (by decide) ?_
  refine kz_newi hC hS (by decide +kernel) (by decide) (by decide) (by decide) dX5_init_47 (fun q5 H hS => ?_)
  have hS : kz_St D (kz_A h0 s.heap.size) s [(h0, .inr (7, [.int 0, .int 0, .int 0, .int 0, .ref q0, .ref q1, .ref q2, .ref q3, .ref q4, .null, .null, .null, .null, .null, .null, .null])), (q0, kz_z cI 16), (q1, kz_z cI 16), (q2, kz_z cI 64), (q3, kz_z cI 64), (q4, kz_z cI 6), (q5, kz_z cI 96)] H _ := hS
  refine kz_putF (q0 := 0) (k := 9) (T := TX5) (N := 16) (ci := 7) hC hS hin rfl rfl (by decide) in_X5_init_X5 tyX5 tyX5_ok nmX5 (by decide +kernel) rfl rfl rfl rfl rfl (Nat.le_of_ble_eq_true rfl) dX5_init_49 (fun H locs hS => ?_)
  have hS : kz_St D (kz_A h0 s.heap.size) s [(h0, .inr (7, [.int 0, .int 0, .int 0, .int 0, .ref q0, .ref q1, .ref q2, .ref q3, .ref q4, .ref q5, .null, .null, .null, .null, .null, .null])), (q0, kz_z cI 16), (q1, kz_z cI 16), (q2, kz_z cI 64), (q3, kz_z cI 64), (q4, kz_z cI 6), (q5, kz_z cI 96)] H locs := hS
  refine lv_aload_n hC.x hC.b dX5_init_52 rfl (lv_at hl 0 rfl) ?_
  refine kz_bip (N := 96) hC dX5_init_53 (by decide) ?_
  refine kz_newi hC hS (by decide +kernel) (by decide) (by decide) (by decide) dX5_init_55 (fun q6 H hS => ?_)
  have hS : kz_St D (kz_A h0 s.heap.size) s [(h0, .inr (7, [.int 0, .int 0, .int 0, .int 0, .ref q0, .ref q1, .ref q2, .ref q3, .ref q4, .ref q5, .null, .null, .null, .null, .null, .null])), (q0, kz_z cI 16), (q1, kz_z cI 16), (q2, kz_z cI 64), (q3, kz_z cI 64), (q4, kz_z cI 6), (q5, kz_z cI 96), (q6, kz_z cI 96)] H _ := hS
  refine kz_putF (q0 := 0) (k := 10) (T := TX5) (N := 16) (ci := 7) hC hS hin rfl rfl (by decide) in_X5_init_X5 tyX5 tyX5_ok nmX5 (by decide +kernel) rfl rfl rfl rfl rfl (Nat.le_of_ble_eq_true rfl) dX5_init_57 (fun H locs hS => ?_)
  have hS : kz_St D (kz_A h0 s.heap.size) s [(h0, .inr (7, [.int 0, .int 0, .int 0, .int 0, .ref q0, .ref q1, .ref q2, .ref q3, .ref q4, .ref q5, .ref q6, .null, .null, .null, .null, .null])), (q0, kz_z cI 16), (q1, kz_z cI 16), (q2, kz_z cI 64), (q3, kz_z cI 64), (q4, kz_z cI 6), (q5, kz_z cI 96), (q6, kz_z cI 96)] H locs := hS
  refine lv_aload_n hC.x hC.b dX5_init_60 rfl (lv_at hl 0 rfl) ?_
  refine lv_sipush (v := nI 150) hC.x hC.b dX5_init_61 (by decide) ?_
  refine kz_newi hC hS (by decide +kernel) (by decide) (by decide) (by decide) dX5_init_64 (fun q7 H hS => ?_)
  have hS : kz_St D (kz_A h0 s.heap.size) s [(h0, .inr (7, [.int 0, .int 0, .int 0, .int 0, .ref q0, .ref q1, .ref q2, .ref q3, .ref q4, .ref q5, .ref q6, .null, .null, .null, .null, .null])), (q0, kz_z cI 16), (q1, kz_z cI 16), (q2, kz_z cI 64), (q3, kz_z cI 64), (q4, kz_z cI 6), (q5, kz_z cI 96), (q6, kz_z cI 96), (q7, kz_z cI 150)] H _ := hS
  refine kz_putF (q0 := 0) (k := 11) (T := TX5) (N := 16) (ci := 7) hC hS hin rfl rfl (by decide) in_X5_init_X5 tyX5 tyX5_ok nmX5 (by decide +kernel) rfl rfl rfl rfl rfl (Nat.le_of_ble_eq_true rfl) dX5_init_66 (fun H locs hS => ?_)
  have hS : kz_St D (kz_A h0 s.heap.size) s [(h0, .inr (7, [.int 0, .int 0, .int 0, .int 0, .ref q0, .ref q1, .ref q2, .ref q3, .ref q4, .ref q5, .ref q6, .ref q7, .null, .null, .null, .null])), (q0, kz_z cI 16), (q1, kz_z cI 16), (q2, kz_z cI 64), (q3, kz_z cI 64), (q4, kz_z cI 6), (q5, kz_z cI 96), (q6, kz_z cI 96), (q7, kz_z cI 150)] H locs := hS
  refine lv_aload_n hC.x hC.b dX5_init_69 rfl (lv_at hl 0 rfl) ?_
  refine lv_iconst (v := nI 2) hC.x hC.b dX5_init_70 (by decide) ?_
  refine kz_newi hC hS (by decide +kernel) (by decide) (by decide) (by decide) dX5_init_71 (fun q8 H hS => ?_)
  have hS : kz_St D (kz_A h0 s.heap.size) s [(h0, .inr (7, [.int 0, .int 0, .int 0, .int 0, .ref q0, .ref q1, .ref q2, .ref q3, .ref q4, .ref q5, .ref q6, .ref q7, .null, .null, .null, .null])), (q0, kz_z cI 16), (q1, kz_z cI 16), (q2, kz_z cI 64), (q3, kz_z cI 64), (q4, kz_z cI 6), (q5, kz_z cI 96), (q6, kz_z cI 96), (q7, kz_z cI 150), (q8, kz_z cI 2)] H _ := hS
  refine kz_putF (q0 := 0) (k := 12) (T := TX5) (N := 16) (ci := 7) hC hS hin rfl rfl (by decide) in_X5_init_X5 tyX5 tyX5_ok nmX5 (by decide +kernel) rfl rfl rfl rfl rfl (Nat.le_of_ble_eq_true rfl) dX5_init_73 (fun H locs hS => ?_)
  have hS : kz_St D (kz_A h0 s.heap.size) s [(h0, .inr (7, [.int 0, .int 0, .int 0, .int 0, .ref q0, .ref q1, .ref q2, .ref q3, .ref q4, .ref q5, .ref q6, .ref q7, .ref q8, .null, .null, .null])), (q0, kz_z cI 16), (q1, kz_z cI 16), (q2, kz_z cI 64), (q3, kz_z cI 64), (q4, kz_z cI 6), (q5, kz_z cI 96), (q6, kz_z cI 96), (q7, kz_z cI 150), (q8, kz_z cI 2)] H locs := hS
  refine lv_aload_n hC.x hC.b dX5_init_76 rfl (lv_at hl 0 rfl) ?_
  refine kz_bip (N := 16) hC dX5_init_77 (by decide) ?_
  refine kz_newi hC hS (by decide +kernel) (by decide) (by decide) (by decide) dX5_init_79 (fun q9 H hS => ?_)
  have hS : kz_St D (kz_A h0 s.heap.size) s [(h0, .inr (7, [.int 0, .int 0, .int 0, .int 0, .ref q0, .ref q1, .ref q2, .ref q3, .ref q4, .ref q5, .ref q6, .ref q7, .ref q8, .null, .null, .null])), (q0, kz_z cI 16), (q1, kz_z cI 16), (q2, kz_z cI 64), (q3, kz_z cI 64), (q4, kz_z cI 6), (q5, kz_z cI 96), (q6, kz_z cI 96), (q7, kz_z cI 150), (q8, kz_z cI 2), (q9, kz_z cI 16)] H _ := hS
  refine kz_putF (q0 := 0) (k := 13) (T := TX5) (N := 16) (ci := 7) hC hS hin rfl rfl (by decide) in_X5_init_X5 tyX5 tyX5_ok nmX5 (by decide +kernel) rfl rfl rfl rfl rfl (Nat.le_of_ble_eq_true rfl) dX5_init_81 (fun H locs hS => ?_)
  have hS : kz_St D (kz_A h0 s.heap.size) s [(h0, .inr (7, [.int 0, .int 0, .int 0, .int 0, .ref q0, .ref q1, .ref q2, .ref q3, .ref q4, .ref q5, .ref q6, .ref q7, .ref q8, .ref q9, .null, .null])), (q0, kz_z cI 16), (q1, kz_z cI 16), (q2, kz_z cI 64), (q3, kz_z cI 64), (q4, kz_z cI 6), (q5, kz_z cI 96), (q6, kz_z cI 96), (q7, kz_z cI 150), (q8, kz_z cI 2), (q9, kz_z cI 16)] H locs := hS
  refine lv_aload_n hC.x hC.b dX5_init_84 rfl (lv_at hl 0 rfl) ?_
  refine kz_bip (N := 16) hC dX5_init_85 (by decide) ?_
  refine kz_newi hC hS (by decide +kernel) (by decide) (by decide) (by decide) dX5_init_87 (fun q10 H hS => ?_)
  have hS : kz_St D (kz_A h0 s.heap.size) s [(h0, .inr (7, [.int 0, .int 0, .int 0, .int 0, .ref q0, .ref q1, .ref q2, .ref q3, .ref q4, .ref q5, .ref q6, .ref q7, .ref q8, .ref q9, .null, .null])), (q0, kz_z cI 16), (q1, kz_z cI 16), (q2, kz_z cI 64), (q3, kz_z cI 64), (q4, kz_z cI 6), (q5, kz_z cI 96), (q6, kz_z cI 96), (q7, kz_z cI 150), (q8, kz_z cI 2), (q9, kz_z cI 16), (q10, kz_z cI 16)] H _ := hS
  refine kz_putF (q0 := 0) (k := 14) (T := TX5) (N := 16) (ci := 7) hC hS hin rfl rfl (by decide) in_X5_init_X5 tyX5 tyX5_ok nmX5 (by decide +kernel) rfl rfl rfl rfl rfl (Nat.le_of_ble_eq_true rfl) dX5_init_89 (fun H locs hS => ?_)
  have hS : kz_St D (kz_A h0 s.heap.size) s [(h0, .inr (7, [.int 0, .int 0, .int 0, .int 0, .ref q0, .ref q1, .ref q2, .ref q3, .ref q4, .ref q5, .ref q6, .ref q7, .ref q8, .ref q9, .ref q10, .null])), (q0, kz_z cI 16), (q1, kz_z cI 16), (q2, kz_z cI 64), (q3, kz_z cI 64), (q4, kz_z cI 6), (q5, kz_z cI 96), (q6, kz_z cI 96), (q7, kz_z cI 150), (q8, kz_z cI 2), (q9, kz_z cI 16), (q10, kz_z cI 16)] H locs := hS
  refine lv_aload_n hC.x hC.b dX5_init_92 rfl (lv_at hl 0 rfl) ?_
  refine kz_bip (N := 16) hC dX5_init_93 (by decide) ?_
  refine kz_newi hC hS (by decide +kernel) (by decide) (by decide) (by decide) dX5_init_95 (fun q11 H hS => ?_)
  have hS : kz_St D (kz_A h0 s.heap.size) s [(h0, .inr (7, [.int 0, .int 0, .int 0, .int 0, .ref q0, .ref q1, .ref q2, .ref q3, .ref q4, .ref q5, .ref q6, .ref q7, .ref q8, .ref q9, .ref q10, .null])), (q0, kz_z cI 16), (q1, kz_z cI 16), (q2, kz_z cI 64), (q3, kz_z cI 64), (q4, kz_z cI 6), (q5, kz_z cI 96), (q6, kz_z cI 96), (q7, kz_z cI 150), (q8, kz_z cI 2), (q9, kz_z cI 16), (q10, kz_z cI 16), (q11, kz_z cI 16)] H _ := hS
  refine kz_putF (q0 := 0) (k := 15) (T := TX5) (N := 16) (ci := 7) hC hS hin rfl rfl (by decide) in_X5_init_X5 tyX5 tyX5_ok nmX5 (by decide +kernel) rfl rfl rfl rfl rfl (Nat.le_of_ble_eq_true rfl) dX5_init_97 (fun H locs hS => ?_)
  have hS : kz_St D (kz_A h0 s.heap.size) s [(h0, .inr (7, [.int 0, .int 0, .int 0, .int 0, .ref q0, .ref q1, .ref q2, .ref q3, .ref q4, .ref q5, .ref q6, .ref q7, .ref q8, .ref q9, .ref q10, .ref q11])), (q0, kz_z cI 16), (q1, kz_z cI 16), (q2, kz_z cI 64), (q3, kz_z cI 64), (q4, kz_z cI 6), (q5, kz_z cI 96), (q6, kz_z cI 96), (q7, kz_z cI 150), (q8, kz_z cI 2), (q9, kz_z cI 16), (q10, kz_z cI 16), (q11, kz_z cI 16)] H locs := hS
  refine lv_iconst (v := nI 0) hC.x hC.b dX5_init_100 (by decide) ?_
  refine lv_istore_n (lv' := [(1, .int (nI 0)), (0, .ref h0)]) hC.x hC.b dX5_init_101 rfl hl (by decide) rfl (fun ls hl => ?_)
  refine w_X5_init_102 (u := fun k => [q0, q1, q2, q3, q4, q5, q6, q7, q8, q9, q10, q11].getD k 0) (h0 := h0) hC (fun H locs ls hS => ?_) 96 0 H locs ls rfl hS hl
  exact kz_vret (wr := kz_X5 cI h0 (fun j => if j < 96 then -1 else 0)) hC _ hS hr hlocks (by decide) (by decide) dX5_init_124
