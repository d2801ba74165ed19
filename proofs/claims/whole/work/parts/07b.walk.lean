/-! written by wip/whole/gen.py: the walks with temporary arrays -/
theorem xw_clone : Cond.castable "[I" "java/lang/Cloneable" ∈ k_ws := by decide +kernel
def f_X5_untie (x1 : Int32) (x2 : Int32) (x3 : Int32) (x4 : Int32) (g : Gt) : Option (Int32 × Gt) := bd2 (f_X5_isWitness x1 (k_up g 5 0 0 (0 : Int32))) (fun r7 g7 => (if r7 = 0 then bd2 (f_X5_fail (1 : Int32) g7) (fun r32 g32 => some (r32, g32)) else bd2 (f_X5_isCord x2 g7) (fun r15 g15 => (if r15 = 0 then bd2 (f_X5_fail (1 : Int32) g15) (fun r32 g32 => some (r32, g32)) else bd2 (f_X5_isIn x3 (0 : Int32) (3 : Int32) g15) (fun r24 g24 => (if r24 = 0 then bd2 (f_X5_fail (1 : Int32) g24) (fun r32 g32 => some (r32, g32)) else bd2 (f_X5_isIn x4 (1 : Int32) (9 : Int32) g24) (fun r41 g41 => (if r41 = 0 then bd2 (f_X5_fail (2 : Int32) g41) (fun r49 g49 => some (r49, g49)) else gd (k_ib (((4 : Int32) * x2) + x3) 64) ((if (g41 32 0 ((((4 : Int32) * x2) + x3).toNatClampNeg)) < x4 then bd2 (f_X5_fail (3 : Int32) g41) (fun r79 g79 => some (r79, g79)) else (if (g41 5 0 3) = (30 : Int32) then bd2 (f_X5_fail (3 : Int32) g41) (fun r79 g79 => some (r79, g79)) else gd (k_ib (((4 : Int32) * x2) + x3) 64) (gd (k_ib (((4 : Int32) * x2) + x3) 64) (gd (k_cb ((5 : Int32) * ((k_up g41 32 0 ((((4 : Int32) * x2) + x3).toNatClampNeg) ((g41 32 0 ((((4 : Int32) * x2) + x3).toNatClampNeg)) - x4)) 5 0 3)) 5 150) (bd2 (f_X5_digits x2 (k_up (k_row (k_up g41 32 0 ((((4 : Int32) * x2) + x3).toNatClampNeg) ((g41 32 0 ((((4 : Int32) * x2) + x3).toNatClampNeg)) - x4)) 37 0 (va_cpy (upd (upd (upd (upd (upd (fun _ => 0) 0 x1) 1 x2) 2 x3) 3 x4) 4 ((k_up g41 32 0 ((((4 : Int32) * x2) + x3).toNatClampNeg) ((g41 32 0 ((((4 : Int32) * x2) + x3).toNatClampNeg)) - x4)) 38 0 (((0 : Int32)).toNatClampNeg))) ((k_up g41 32 0 ((((4 : Int32) * x2) + x3).toNatClampNeg) ((g41 32 0 ((((4 : Int32) * x2) + x3).toNatClampNeg)) - x4)) 37 0) 0 (((5 : Int32) * ((k_up g41 32 0 ((((4 : Int32) * x2) + x3).toNatClampNeg) ((g41 32 0 ((((4 : Int32) * x2) + x3).toNatClampNeg)) - x4)) 5 0 3)).toNatClampNeg) 5)) 5 0 3 (((k_row (k_up g41 32 0 ((((4 : Int32) * x2) + x3).toNatClampNeg) ((g41 32 0 ((((4 : Int32) * x2) + x3).toNatClampNeg)) - x4)) 37 0 (va_cpy (upd (upd (upd (upd (upd (fun _ => 0) 0 x1) 1 x2) 2 x3) 3 x4) 4 ((k_up g41 32 0 ((((4 : Int32) * x2) + x3).toNatClampNeg) ((g41 32 0 ((((4 : Int32) * x2) + x3).toNatClampNeg)) - x4)) 38 0 (((0 : Int32)).toNatClampNeg))) ((k_up g41 32 0 ((((4 : Int32) * x2) + x3).toNatClampNeg) ((g41 32 0 ((((4 : Int32) * x2) + x3).toNatClampNeg)) - x4)) 37 0) 0 (((5 : Int32) * ((k_up g41 32 0 ((((4 : Int32) * x2) + x3).toNatClampNeg) ((g41 32 0 ((((4 : Int32) * x2) + x3).toNatClampNeg)) - x4)) 5 0 3)).toNatClampNeg) 5)) 5 0 3) + (1 : Int32)))) (fun r158 g158 => some (r158, g158))))))))))))))))
abbrev rm_X5_untie : Room := { frames := 2, cells := 1, slots := 5, locals := 60 }
theorem in_X5_untie_X5 : ∀ w ∈ wsX50, w ∈ wsX5_untie := fun _ h => List.mem_cons_of_mem _ (List.mem_append_right _ (h))
set_option maxRecDepth 20000 in
theorem lk_X5_untie_f46 : Cond.fieldLink RX5 46 "KnotArchiveModel" "thrown" "I" ∈ wsX5_untie := by decide +kernel
set_option maxRecDepth 20000 in
theorem lk_X5_untie_f16 : Cond.fieldLink RX5 16 "KnotArchiveModel" "knots" "[I" ∈ wsX5_untie := by decide +kernel
set_option maxRecDepth 20000 in
theorem lk_X5_untie_f80 : Cond.fieldLink RX5 80 "KnotArchiveModel" "untied" "I" ∈ wsX5_untie := by decide +kernel
set_option maxRecDepth 20000 in
theorem lk_X5_untie_aint : Cond.arrayClass .int ∈ wsX5_untie := by decide +kernel
set_option maxRecDepth 20000 in
theorem lk_X5_untie_f34 : Cond.fieldLink RX5 34 "KnotArchiveModel" "numbers" "[I" ∈ wsX5_untie := by decide +kernel
set_option maxRecDepth 20000 in
theorem lk_X5_untie_f31 : Cond.fieldLink RX5 31 "KnotArchiveModel" "book" "[I" ∈ wsX5_untie := by decide +kernel
set_option maxRecDepth 20000 in
theorem lk_X5_untie_m83 : Cond.methodLink RX5 83 arraycopyName ∈ wsX5_untie := by decide +kernel
set_option maxRecDepth 20000 in
theorem lk_X5_untie_nac : Cond.native arraycopyName ∈ wsX5_untie := by decide +kernel
set_option maxRecDepth 20000 in
theorem lk_X5_untie_sac : Cond.static arraycopyName ∈ wsX5_untie := by decide +kernel
set_option maxRecDepth 20000 in
theorem lk_X5_untie_iac : Cond.initialized "java/lang/System" ∈ wsX5_untie := by decide +kernel
set_option maxRecDepth 100000 in
set_option maxHeartbeats 4000000 in
theorem c_X5_untie {Γ : k_Pm} {l : Launch} (hl0 : l.stackTraces = false) {x1 : Int32} {x2 : Int32} {x3 : Int32} {x4 : Int32}  {g : Gt} {r : Int32} {g2 : Gt} (h : f_X5_untie x1 x2 x3 x4 g = some (r, g2)) : k_CI Γ l yX5_untie wsX5_untie rm_X5_untie [.ref (k_ad Γ 5 (0)), .int (x1), .int (x2), .int (x3), .int (x4)] g r g2 := by
  intro sz
  refine Met.ofW (cc := cX5_untie) (maxL := 6) (ret := (some .int)) (by decide) rfl ?_
  intro p e s m args below meth c s₁ B hml hv
  obtain ⟨rfl, rfl, hP, hKS⟩ := hv
  have hr := B.returns
  have hlocks := B.notSynchronized
  have hC : k_C Γ (k_A Γ s.heap.size) p l s m _ c cX5_untie 6 wsX5_untie RX5 := k_C.of ⟨B.exec, B.bytes, hml, findClass_of_methodNamed B.named, atoms_spec (ws := wsX5_untie) B.pre⟩ hKS hl0
  have hw : k_St Γ (k_A Γ s.heap.size) s [] g s.heap [] := k_St.of hKS hP
  have hl := lv_entry ([.ref (k_ad Γ 5 (0)), .int (x1), .int (x2), .int (x3), .int (x4)] : List Value) (n := 6) (Nat.le_of_ble_eq_true rfl)
  rw [lg_entry_eq]
  generalize (lg_sl ([.ref (k_ad Γ 5 (0)), .int (x1), .int (x2), .int (x3), .int (x4)] : List Value) ++ List.replicate (6 - (lg_sl ([.ref (k_ad Γ 5 (0)), .int (x1), .int (x2), .int (x3), .int (x4)] : List Value)).length) Slot.unset).toArray = ls at hl ⊢
  have hl : lv_has ls 6 [(0, .ref (k_ad Γ 5 (0))), (1, .int (x1)), (2, .int (x2)), (3, .int (x3)), (4, .int (x4))] := hl
  change W p l e rm_X5_untie _ _ _ _ _ _ _ _ _ _ _ _
  unfold f_X5_untie at h
  refine lv_aload_n hC.x hC.b dX5_untie_0 rfl (lv_at hl 0 rfl) ?_
  refine lv_iconst (v := (0 : Int32)) hC.x hC.b dX5_untie_1 (by decide) ?_
  refine x_puti hC hw (k := 0) (T := TX5) (by decide) (k_E5 _ _ _) in_X5_untie_X5 rfl (by decide) lk_X5_untie_f46 rfl tyX5 tyX5_ok nmX5 rfl (by decide +kernel) (Nat.le_of_ble_eq_true rfl) (by rw [k_E5]; rfl) dX5_untie_2 (fun H locs hw => ?_)
  refine lv_aload_n hC.x hC.b dX5_untie_5 rfl (lv_at hl 0 rfl) ?_
  refine lv_iload_n hC.x hC.b dX5_untie_6 rfl (lv_at hl 1 rfl) ?_
  obtain ⟨r7, g7, hq, h⟩ := bd2_t h
  refine x_goi hC hw (x_runV hC hw (c_X5_isWitness (Γ := Γ) (l := l) hC.2.2.2.2 hq) (cwV 1 hC.t gX5_untie_X5_isWitness rfl rfl rfl (by decide +kernel) ⟨Nat.le_of_ble_eq_true rfl, Nat.le_of_ble_eq_true rfl⟩) (As := [.int (x1)]) (by decide) (k_E5 _ _ _) rfl rfl rfl hl.1 (Nat.le_of_ble_eq_true rfl) dX5_untie_7 ⟨by decide, by decide⟩) (fun H locs hw => ?_)
  refine lv_if_eq (tgt := 30) hC.x hC.b dX5_untie_10 (by decide) (fun hc => ?_) (fun hc => ?_)
  · have h := it_t h hc
    refine lv_aload_n hC.x hC.b dX5_untie_30 rfl (lv_at hl 0 rfl) ?_
    refine lv_iconst (v := (1 : Int32)) hC.x hC.b dX5_untie_31 (by decide) ?_
    obtain ⟨r32, g32, hq, h⟩ := bd2_t h
    refine x_goi hC hw (x_runV hC hw (c_X5_fail (Γ := Γ) (l := l) hC.2.2.2.2 hq) (cwV 1 hC.t gX5_untie_X5_fail rfl rfl rfl (by decide +kernel) ⟨Nat.le_of_ble_eq_true rfl, Nat.le_of_ble_eq_true rfl⟩) (As := [.int ((1 : Int32))]) (by decide) (k_E5 _ _ _) rfl rfl rfl hl.1 (Nat.le_of_ble_eq_true rfl) dX5_untie_32 ⟨by decide, by decide⟩) (fun H locs hw => ?_)
    obtain ⟨rfl, rfl⟩ := sm2 h
    exact x_iret hC hw hr hlocks (by decide) (by decide) dX5_untie_35
  · have h := it_f h hc
    refine lv_aload_n hC.x hC.b dX5_untie_13 rfl (lv_at hl 0 rfl) ?_
    refine lv_iload_n hC.x hC.b dX5_untie_14 rfl (lv_at hl 2 rfl) ?_
    obtain ⟨r15, g15, hq, h⟩ := bd2_t h
    refine x_goi hC hw (x_runV hC hw (c_X5_isCord (Γ := Γ) (l := l) hC.2.2.2.2 hq) (cwV 1 hC.t gX5_untie_X5_isCord rfl rfl rfl (by decide +kernel) ⟨Nat.le_of_ble_eq_true rfl, Nat.le_of_ble_eq_true rfl⟩) (As := [.int (x2)]) (by decide) (k_E5 _ _ _) rfl rfl rfl hl.1 (Nat.le_of_ble_eq_true rfl) dX5_untie_15 ⟨by decide, by decide⟩) (fun H locs hw => ?_)
    refine lv_if_eq (tgt := 30) hC.x hC.b dX5_untie_18 (by decide) (fun hc => ?_) (fun hc => ?_)
    · have h := it_t h hc
      refine lv_aload_n hC.x hC.b dX5_untie_30 rfl (lv_at hl 0 rfl) ?_
      refine lv_iconst (v := (1 : Int32)) hC.x hC.b dX5_untie_31 (by decide) ?_
      obtain ⟨r32, g32, hq, h⟩ := bd2_t h
      refine x_goi hC hw (x_runV hC hw (c_X5_fail (Γ := Γ) (l := l) hC.2.2.2.2 hq) (cwV 1 hC.t gX5_untie_X5_fail rfl rfl rfl (by decide +kernel) ⟨Nat.le_of_ble_eq_true rfl, Nat.le_of_ble_eq_true rfl⟩) (As := [.int ((1 : Int32))]) (by decide) (k_E5 _ _ _) rfl rfl rfl hl.1 (Nat.le_of_ble_eq_true rfl) dX5_untie_32 ⟨by decide, by decide⟩) (fun H locs hw => ?_)
      obtain ⟨rfl, rfl⟩ := sm2 h
      exact x_iret hC hw hr hlocks (by decide) (by decide) dX5_untie_35
    · have h := it_f h hc
      refine lv_iload_n hC.x hC.b dX5_untie_21 rfl (lv_at hl 3 rfl) ?_
      refine lv_iconst (v := (0 : Int32)) hC.x hC.b dX5_untie_22 (by decide) ?_
      refine lv_iconst (v := (3 : Int32)) hC.x hC.b dX5_untie_23 (by decide) ?_
      obtain ⟨r24, g24, hq, h⟩ := bd2_t h
      refine x_goi hC hw (x_runS hC hw (c_X5_isIn (Γ := Γ) (l := l) hC.2.2.2.2 hq) (va_cwS 3 hC.t gX5_untie_X5_isIn rfl rfl rfl (by decide +kernel) ⟨Nat.le_of_ble_eq_true rfl, Nat.le_of_ble_eq_true rfl⟩) (As := [.int (x3), .int ((0 : Int32)), .int ((3 : Int32))]) rfl hl.1 (Nat.le_of_ble_eq_true rfl) dX5_untie_24 ⟨by decide, by decide⟩) (fun H locs hw => ?_)
      refine lv_if_ne (tgt := 36) hC.x hC.b dX5_untie_27 (by decide) (fun hc => ?_) (fun hc => ?_)
      · have h := it_f h hc
        refine lv_iload hC.x hC.b dX5_untie_36 (lv_at hl 4 rfl) ?_
        refine lv_iconst (v := (1 : Int32)) hC.x hC.b dX5_untie_38 (by decide) ?_
        refine lv_bipush (v := (9 : Int32)) hC.x hC.b dX5_untie_39 (by decide) ?_
        obtain ⟨r41, g41, hq, h⟩ := bd2_t h
        refine x_goi hC hw (x_runS hC hw (c_X5_isIn (Γ := Γ) (l := l) hC.2.2.2.2 hq) (va_cwS 3 hC.t gX5_untie_X5_isIn rfl rfl rfl (by decide +kernel) ⟨Nat.le_of_ble_eq_true rfl, Nat.le_of_ble_eq_true rfl⟩) (As := [.int (x4), .int ((1 : Int32)), .int ((9 : Int32))]) rfl hl.1 (Nat.le_of_ble_eq_true rfl) dX5_untie_41 ⟨by decide, by decide⟩) (fun H locs hw => ?_)
        refine lv_if_ne (tgt := 53) hC.x hC.b dX5_untie_44 (by decide) (fun hc => ?_) (fun hc => ?_)
        · have h := it_f h hc
          refine lv_aload_n hC.x hC.b dX5_untie_53 rfl (lv_at hl 0 rfl) ?_
          refine x_get hC hw (k := 6) (T := TX5) (by decide) (k_E5 _ _ _) in_X5_untie_X5 rfl (by decide) lk_X5_untie_f16 rfl rfl dX5_untie_54 ?_
          refine lv_iconst (v := (4 : Int32)) hC.x hC.b dX5_untie_57 (by decide) ?_
          refine lv_iload_n hC.x hC.b dX5_untie_58 rfl (lv_at hl 2 rfl) ?_
          refine lv_imul hC.x hC.b dX5_untie_59 ?_
          refine lv_iload_n hC.x hC.b dX5_untie_60 rfl (lv_at hl 3 rfl) ?_
          refine lv_iadd hC.x hC.b dX5_untie_61 ?_
          obtain ⟨hg1, h⟩ := gd_t h
          refine x_iald hC hw rfl (by decide) hg1 dX5_untie_62 ?_
          refine lv_iload hC.x hC.b dX5_untie_63 (lv_at hl 4 rfl) ?_
          refine lv_icmp_lt (tgt := 77) hC.x hC.b dX5_untie_65 (by decide) (fun hc => ?_) (fun hc => ?_)
          · have h := it_t h hc
            refine lv_aload_n hC.x hC.b dX5_untie_77 rfl (lv_at hl 0 rfl) ?_
            refine lv_iconst (v := (3 : Int32)) hC.x hC.b dX5_untie_78 (by decide) ?_
            obtain ⟨r79, g79, hq, h⟩ := bd2_t h
            refine x_goi hC hw (x_runV hC hw (c_X5_fail (Γ := Γ) (l := l) hC.2.2.2.2 hq) (cwV 1 hC.t gX5_untie_X5_fail rfl rfl rfl (by decide +kernel) ⟨Nat.le_of_ble_eq_true rfl, Nat.le_of_ble_eq_true rfl⟩) (As := [.int ((3 : Int32))]) (by decide) (k_E5 _ _ _) rfl rfl rfl hl.1 (Nat.le_of_ble_eq_true rfl) dX5_untie_79 ⟨by decide, by decide⟩) (fun H locs hw => ?_)
            obtain ⟨rfl, rfl⟩ := sm2 h
            exact x_iret hC hw hr hlocks (by decide) (by decide) dX5_untie_82
          · have h := it_f h hc
            refine lv_aload_n hC.x hC.b dX5_untie_68 rfl (lv_at hl 0 rfl) ?_
            refine x_get hC hw (k := 3) (T := TX5) (by decide) (k_E5 _ _ _) in_X5_untie_X5 rfl (by decide) lk_X5_untie_f80 rfl rfl dX5_untie_69 ?_
            refine lv_bipush (v := (30 : Int32)) hC.x hC.b dX5_untie_72 (by decide) ?_
            refine lv_icmp_ne (tgt := 83) hC.x hC.b dX5_untie_74 (by decide) (fun hc => ?_) (fun hc => ?_)
            · have h := it_f h hc
              refine lv_aload_n hC.x hC.b dX5_untie_83 rfl (lv_at hl 0 rfl) ?_
              refine x_get hC hw (k := 6) (T := TX5) (by decide) (k_E5 _ _ _) in_X5_untie_X5 rfl (by decide) lk_X5_untie_f16 rfl rfl dX5_untie_84 ?_
              refine lv_iconst (v := (4 : Int32)) hC.x hC.b dX5_untie_87 (by decide) ?_
              refine lv_iload_n hC.x hC.b dX5_untie_88 rfl (lv_at hl 2 rfl) ?_
              refine lv_imul hC.x hC.b dX5_untie_89 ?_
              refine lv_iload_n hC.x hC.b dX5_untie_90 rfl (lv_at hl 3 rfl) ?_
              refine lv_iadd hC.x hC.b dX5_untie_91 ?_
              refine lv_dup2_11 hC.x hC.b dX5_untie_92 rfl rfl ?_
              obtain ⟨hg2, h⟩ := gd_t h
              refine x_iald hC hw rfl (by decide) hg2 dX5_untie_93 ?_
              refine lv_iload hC.x hC.b dX5_untie_94 (lv_at hl 4 rfl) ?_
              refine lv_isub hC.x hC.b dX5_untie_96 ?_
              obtain ⟨hg3, h⟩ := gd_t h
              refine x_iast hC hw rfl (by decide) hg3 dX5_untie_97 (fun H locs hw => ?_)
              refine lv_iconst (v := (5 : Int32)) hC.x hC.b dX5_untie_98 (by decide) ?_
              refine x_newt hC hw lk_X5_untie_aint (N := 5) (by decide) (by decide) (by decide) (by decide) (by decide) dX5_untie_99 (fun q99 H locs hw => ?_)
              refine lv_dup hC.x hC.b dX5_untie_101 rfl ?_
              refine lv_iconst (v := (0 : Int32)) hC.x hC.b dX5_untie_102 (by decide) ?_
              refine lv_iload_n hC.x hC.b dX5_untie_103 rfl (lv_at hl 1 rfl) ?_
              refine x_tast hC hw (k := 0) rfl (by decide) dX5_untie_104 (fun H locs hw => ?_)
              refine lv_dup hC.x hC.b dX5_untie_105 rfl ?_
              refine lv_iconst (v := (1 : Int32)) hC.x hC.b dX5_untie_106 (by decide) ?_
              refine lv_iload_n hC.x hC.b dX5_untie_107 rfl (lv_at hl 2 rfl) ?_
              refine x_tast hC hw (k := 0) rfl (by decide) dX5_untie_108 (fun H locs hw => ?_)
              refine lv_dup hC.x hC.b dX5_untie_109 rfl ?_
              refine lv_iconst (v := (2 : Int32)) hC.x hC.b dX5_untie_110 (by decide) ?_
              refine lv_iload_n hC.x hC.b dX5_untie_111 rfl (lv_at hl 3 rfl) ?_
              refine x_tast hC hw (k := 0) rfl (by decide) dX5_untie_112 (fun H locs hw => ?_)
              refine lv_dup hC.x hC.b dX5_untie_113 rfl ?_
              refine lv_iconst (v := (3 : Int32)) hC.x hC.b dX5_untie_114 (by decide) ?_
              refine lv_iload hC.x hC.b dX5_untie_115 (lv_at hl 4 rfl) ?_
              refine x_tast hC hw (k := 0) rfl (by decide) dX5_untie_117 (fun H locs hw => ?_)
              refine lv_dup hC.x hC.b dX5_untie_118 rfl ?_
              refine lv_iconst (v := (4 : Int32)) hC.x hC.b dX5_untie_119 (by decide) ?_
              refine lv_aload_n hC.x hC.b dX5_untie_120 rfl (lv_at hl 0 rfl) ?_
              refine x_get hC hw (k := 12) (T := TX5) (by decide) (k_E5 _ _ _) in_X5_untie_X5 rfl (by decide) lk_X5_untie_f34 rfl rfl dX5_untie_121 ?_
              refine lv_iconst (v := (0 : Int32)) hC.x hC.b dX5_untie_124 (by decide) ?_
              refine x_iald hC hw rfl (by decide) (by decide) dX5_untie_125 ?_
              refine x_tast hC hw (k := 0) rfl (by decide) dX5_untie_126 (fun H locs hw => ?_)
              refine lv_astore (lv' := [(5, .ref q99), (0, .ref (k_ad Γ 5 (0))), (1, .int (x1)), (2, .int (x2)), (3, .int (x3)), (4, .int (x4))]) hC.x hC.b dX5_untie_127 hl (by decide) rfl (fun ls hl => ?_)
              refine lv_aload hC.x hC.b dX5_untie_129 (lv_at hl 0 rfl) ?_
              refine lv_iconst (v := (0 : Int32)) hC.x hC.b dX5_untie_131 (by decide) ?_
              refine lv_aload_n hC.x hC.b dX5_untie_132 rfl (lv_at hl 1 rfl) ?_
              refine x_get hC hw (k := 11) (T := TX5) (by decide) (k_E5 _ _ _) in_X5_untie_X5 rfl (by decide) lk_X5_untie_f31 rfl rfl dX5_untie_133 ?_
              refine lv_iconst (v := (5 : Int32)) hC.x hC.b dX5_untie_136 (by decide) ?_
              refine lv_aload_n hC.x hC.b dX5_untie_137 rfl (lv_at hl 1 rfl) ?_
              refine x_get hC hw (k := 3) (T := TX5) (by decide) (k_E5 _ _ _) in_X5_untie_X5 rfl (by decide) lk_X5_untie_f80 rfl rfl dX5_untie_138 ?_
              refine lv_imul hC.x hC.b dX5_untie_141 ?_
              refine lv_iconst (v := (5 : Int32)) hC.x hC.b dX5_untie_142 (by decide) ?_
              obtain ⟨hg, h⟩ := gd_t h
              refine x_copyT hC hw hl.1 lk_X5_untie_m83 lk_X5_untie_nac lk_X5_untie_sac lk_X5_untie_iac (k := 0) rfl rfl (by decide) (by decide) (k_cb_in hg).1 (by decide) (by decide) (k_cb_in hg).2 (Nat.le_of_ble_eq_true rfl) (Nat.le_of_ble_eq_true rfl) dX5_untie_143 (fun H locs hw => ?_)
              refine lv_aload_n hC.x hC.b dX5_untie_146 rfl (lv_at hl 1 rfl) ?_
              refine lv_dup hC.x hC.b dX5_untie_147 rfl ?_
              refine x_get hC hw (k := 3) (T := TX5) (by decide) (k_E5 _ _ _) in_X5_untie_X5 rfl (by decide) lk_X5_untie_f80 rfl rfl dX5_untie_148 ?_
              refine lv_iconst (v := (1 : Int32)) hC.x hC.b dX5_untie_151 (by decide) ?_
              refine lv_iadd hC.x hC.b dX5_untie_152 ?_
              refine x_puti hC hw (k := 3) (T := TX5) (by decide) (k_E5 _ _ _) in_X5_untie_X5 rfl (by decide) lk_X5_untie_f80 rfl tyX5 tyX5_ok nmX5 rfl (by decide +kernel) (Nat.le_of_ble_eq_true rfl) (by rw [k_E5]; rfl) dX5_untie_153 (fun H locs hw => ?_)
              refine lv_aload_n hC.x hC.b dX5_untie_156 rfl (lv_at hl 1 rfl) ?_
              refine lv_iload_n hC.x hC.b dX5_untie_157 rfl (lv_at hl 3 rfl) ?_
              obtain ⟨r158, g158, hq, h⟩ := bd2_t h
              refine x_goi hC hw (x_runV hC hw (c_X5_digits (Γ := Γ) (l := l) hC.2.2.2.2 hq) (cwV 1 hC.t gX5_untie_X5_digits rfl rfl rfl (by decide +kernel) ⟨Nat.le_of_ble_eq_true rfl, Nat.le_of_ble_eq_true rfl⟩) (As := [.int (x2)]) (by decide) (k_E5 _ _ _) rfl rfl rfl hl.1 (Nat.le_of_ble_eq_true rfl) dX5_untie_158 ⟨by decide, by decide⟩) (fun H locs hw => ?_)
              obtain ⟨rfl, rfl⟩ := sm2 h
              exact x_iret hC hw hr hlocks (by decide) (by decide) dX5_untie_161
            · have h := it_t h hc
              refine lv_aload_n hC.x hC.b dX5_untie_77 rfl (lv_at hl 0 rfl) ?_
              refine lv_iconst (v := (3 : Int32)) hC.x hC.b dX5_untie_78 (by decide) ?_
              obtain ⟨r79, g79, hq, h⟩ := bd2_t h
              refine x_goi hC hw (x_runV hC hw (c_X5_fail (Γ := Γ) (l := l) hC.2.2.2.2 hq) (cwV 1 hC.t gX5_untie_X5_fail rfl rfl rfl (by decide +kernel) ⟨Nat.le_of_ble_eq_true rfl, Nat.le_of_ble_eq_true rfl⟩) (As := [.int ((3 : Int32))]) (by decide) (k_E5 _ _ _) rfl rfl rfl hl.1 (Nat.le_of_ble_eq_true rfl) dX5_untie_79 ⟨by decide, by decide⟩) (fun H locs hw => ?_)
              obtain ⟨rfl, rfl⟩ := sm2 h
              exact x_iret hC hw hr hlocks (by decide) (by decide) dX5_untie_82
        · have h := it_t h hc
          refine lv_aload_n hC.x hC.b dX5_untie_47 rfl (lv_at hl 0 rfl) ?_
          refine lv_iconst (v := (2 : Int32)) hC.x hC.b dX5_untie_48 (by decide) ?_
          obtain ⟨r49, g49, hq, h⟩ := bd2_t h
          refine x_goi hC hw (x_runV hC hw (c_X5_fail (Γ := Γ) (l := l) hC.2.2.2.2 hq) (cwV 1 hC.t gX5_untie_X5_fail rfl rfl rfl (by decide +kernel) ⟨Nat.le_of_ble_eq_true rfl, Nat.le_of_ble_eq_true rfl⟩) (As := [.int ((2 : Int32))]) (by decide) (k_E5 _ _ _) rfl rfl rfl hl.1 (Nat.le_of_ble_eq_true rfl) dX5_untie_49 ⟨by decide, by decide⟩) (fun H locs hw => ?_)
          obtain ⟨rfl, rfl⟩ := sm2 h
          exact x_iret hC hw hr hlocks (by decide) (by decide) dX5_untie_52
      · have h := it_t h hc
        refine lv_aload_n hC.x hC.b dX5_untie_30 rfl (lv_at hl 0 rfl) ?_
        refine lv_iconst (v := (1 : Int32)) hC.x hC.b dX5_untie_31 (by decide) ?_
        obtain ⟨r32, g32, hq, h⟩ := bd2_t h
        refine x_goi hC hw (x_runV hC hw (c_X5_fail (Γ := Γ) (l := l) hC.2.2.2.2 hq) (cwV 1 hC.t gX5_untie_X5_fail rfl rfl rfl (by decide +kernel) ⟨Nat.le_of_ble_eq_true rfl, Nat.le_of_ble_eq_true rfl⟩) (As := [.int ((1 : Int32))]) (by decide) (k_E5 _ _ _) rfl rfl rfl hl.1 (Nat.le_of_ble_eq_true rfl) dX5_untie_32 ⟨by decide, by decide⟩) (fun H locs hw => ?_)
        obtain ⟨rfl, rfl⟩ := sm2 h
        exact x_iret hC hw hr hlocks (by decide) (by decide) dX5_untie_35
def f_X5_fades_73 (c1 : Int32) (c2 : Int32) : Nat → Int32 → Gt → Option (Int32 × Gt)
  | 0, _, _ => none
  | n + 1, v6, g => (if c2 ≤ v6 then some (v6, g) else bd2 (f_X5_yearOn  g) (fun r80 g80 => f_X5_fades_73 c1 c2 n (v6 + (1 : Int32)) (g80)))
def f_X5_fades (x1 : Int32) (x2 : Int32) (g : Gt) : Option (Int32 × Gt) := bd2 (f_X5_isCord x1 (k_up g 5 0 0 (0 : Int32))) (fun r7 g7 => (if r7 = 0 then bd2 (f_X5_fail (1 : Int32) g7) (fun r15 g15 => some (r15, g15)) else bd2 (f_X5_isIn x2 (1 : Int32) (50 : Int32) g7) (fun r23 g23 => (if r23 = 0 then bd2 (f_X5_fail (2 : Int32) g23) (fun r31 g31 => some (r31, g31)) else bd2 (f_X5_fades_73 x1 x2 k_N (0 : Int32) g23) (fun w73_6 g73 => bd2 (f_X5_cordTold x1 (3 : Int32) g73) (fun r93 g93 => some (r93, k_row (k_row (k_row g93 32 0 (va_cpy (g23 32 0) (g93 32 0) 0 0 64)) 33 0 (va_cpy (g23 33 0) ((k_row g93 32 0 (va_cpy (g23 32 0) (g93 32 0) 0 0 64)) 33 0) 0 0 64)) 38 0 (va_cpy (g23 38 0) ((k_row (k_row g93 32 0 (va_cpy (g23 32 0) (g93 32 0) 0 0 64)) 33 0 (va_cpy (g23 33 0) ((k_row g93 32 0 (va_cpy (g23 32 0) (g93 32 0) 0 0 64)) 33 0) 0 0 64)) 38 0) 0 0 2))))))))
abbrev rm_X5_fades : Room := { frames := 4, cells := 3, slots := 130, locals := 91 }
theorem in_X5_fades_X5 : ∀ w ∈ wsX50, w ∈ wsX5_fades := fun _ h => List.mem_cons_of_mem _ (List.mem_append_right _ (h))
set_option maxRecDepth 20000 in
theorem lk_X5_fades_f46 : Cond.fieldLink RX5 46 "KnotArchiveModel" "thrown" "I" ∈ wsX5_fades := by decide +kernel
set_option maxRecDepth 20000 in
theorem lk_X5_fades_f16 : Cond.fieldLink RX5 16 "KnotArchiveModel" "knots" "[I" ∈ wsX5_fades := by decide +kernel
set_option maxRecDepth 20000 in
theorem lk_X5_fades_m133 : Cond.methodLink RX5 133 ⟨"[I", "clone", "()Ljava/lang/Object;"⟩ ∈ wsX5_fades := by decide +kernel
set_option maxRecDepth 20000 in
theorem lk_X5_fades_clsame : Cond.sameMethod "[I" "java/lang/Object" "clone" "()Ljava/lang/Object;" ∈ wsX5_fades := by decide +kernel
set_option maxRecDepth 20000 in
theorem lk_X5_fades_clnat : Cond.native ⟨"java/lang/Object", "clone", "()Ljava/lang/Object;"⟩ ∈ wsX5_fades := by decide +kernel
set_option maxRecDepth 20000 in
theorem lk_X5_fades_clinst : Cond.instanceMethod ⟨"java/lang/Object", "clone", "()Ljava/lang/Object;"⟩ ∈ wsX5_fades := by decide +kernel
set_option maxRecDepth 20000 in
theorem lk_X5_fades_clsel : Cond.selects "[I" ⟨"[I", "clone", "()Ljava/lang/Object;"⟩ ⟨"java/lang/Object", "clone", "()Ljava/lang/Object;"⟩ ∈ wsX5_fades := by decide +kernel
set_option maxRecDepth 20000 in
theorem lk_X5_fades_c134 : Cond.classLink RX5 134 "[I" ∈ wsX5_fades := by decide +kernel
set_option maxRecDepth 20000 in
theorem lk_X5_fades_f19 : Cond.fieldLink RX5 19 "KnotArchiveModel" "frays" "[I" ∈ wsX5_fades := by decide +kernel
set_option maxRecDepth 20000 in
theorem lk_X5_fades_f34 : Cond.fieldLink RX5 34 "KnotArchiveModel" "numbers" "[I" ∈ wsX5_fades := by decide +kernel
set_option maxRecDepth 20000 in
theorem lk_X5_fades_m83 : Cond.methodLink RX5 83 arraycopyName ∈ wsX5_fades := by decide +kernel
set_option maxRecDepth 20000 in
theorem lk_X5_fades_nac : Cond.native arraycopyName ∈ wsX5_fades := by decide +kernel
set_option maxRecDepth 20000 in
theorem lk_X5_fades_sac : Cond.static arraycopyName ∈ wsX5_fades := by decide +kernel
set_option maxRecDepth 20000 in
theorem lk_X5_fades_iac : Cond.initialized "java/lang/System" ∈ wsX5_fades := by decide +kernel
set_option maxRecDepth 100000 in
set_option maxHeartbeats 4000000 in
theorem w_X5_fades_73 {Γ : k_Pm} {A0 : Nat → Prop} {p : Program} {l : Launch} {e : Env} {s : State} {m : MethodId} {args : Array Value} {below : List Frame} {meth : Method} {c : Code} {cells slots : Nat} {Q : State → Prop} {tmp : va_W} {c1 : Int32} {c2 : Int32} {q5_ : Nat} {q4_ : Nat} {q3_ : Nat} (hC : k_C Γ A0 p l s m args c cX5_fades 7 wsX5_fades RX5) (hcs : cells ≤ rm_X5_fades.cells ∧ slots ≤ rm_X5_fades.slots) : ∀ (n : Nat) (v6 : Int32) (g : Gt) (w6 : Int32) (g2 : Gt), f_X5_fades_73 c1 c2 n v6 g = some (w6, g2) → ∀ (H : Heap) (locs : List Loc) (ls : Array Slot), k_St Γ A0 s tmp g H locs → lv_has ls 7 [(6, .int (v6)), (5, .ref q5_), (4, .ref q4_), (3, .ref q3_), (0, .ref (k_ad Γ 5 (0))), (1, .int (c1)), (2, .int (c2))] → (∀ (H1 : Heap) (locs1 : List Loc) (ls1 : Array Slot), k_St Γ A0 s tmp g2 H1 locs1 → lv_has ls1 7 [(6, .int (w6)), (5, .ref q5_), (4, .ref q4_), (3, .ref q3_), (0, .ref (k_ad Γ 5 (0))), (1, .int (c1)), (2, .int (c2))] → W p l e rm_X5_fades s m args below meth c H1 locs1 cells slots Q (F0 m 90 ls1 [])) → W p l e rm_X5_fades s m args below meth c H locs cells slots Q (F0 m 73 ls []) := by
  intro n
  induction n with
  | zero => intro v6 g w6 g2 h; rw [f_X5_fades_73] at h; cases h
  | succ n ih =>
    intro v6 g w6 g2 h H locs ls hw hl kk
    rw [f_X5_fades_73] at h
    refine lv_iload hC.x hC.b dX5_fades_73 (lv_at hl 0 rfl) ?_
    refine lv_iload_n hC.x hC.b dX5_fades_75 rfl (lv_at hl 6 rfl) ?_
    refine lv_icmp_ge (tgt := 90) hC.x hC.b dX5_fades_76 (by decide) (fun hc => ?_) (fun hc => ?_)
    · have h := it_t h hc
      obtain ⟨rfl, rfl⟩ := sm2 h
      exact kk _ _ _ hw (lv_sub hl [0, 1, 2, 3, 4, 5, 6] rfl)
    · have h := it_f h hc
      refine lv_aload_n hC.x hC.b dX5_fades_79 rfl (lv_at hl 4 rfl) ?_
      obtain ⟨r80, g80, hq, h⟩ := bd2_t h
      refine x_goi hC hw (x_runV hC hw (c_X5_yearOn (Γ := Γ) (l := l) hC.2.2.2.2 hq) (cwV 0 hC.t gX5_fades_X5_yearOn rfl rfl rfl (by decide +kernel) ⟨Nat.le_of_ble_eq_true rfl, Nat.le_of_ble_eq_true rfl⟩) (As := []) (by decide) (k_E5 _ _ _) rfl rfl rfl hl.1 (Nat.le_of_ble_eq_true rfl) dX5_fades_80 hcs) (fun H locs hw => ?_)
      refine lv_pop hC.x hC.b dX5_fades_83 rfl ?_
      refine lv_iinc (v := v6 + (1 : Int32)) (lv' := [(6, .int (v6 + (1 : Int32))), (5, .ref q5_), (4, .ref q4_), (3, .ref q3_), (0, .ref (k_ad Γ 5 (0))), (1, .int (c1)), (2, .int (c2))]) hC.x hC.b dX5_fades_84 hl (k := 0) rfl rfl (by decide) rfl (fun ls hl => ?_)
      refine lv_goto (tgt := 73) hC.x hC.b dX5_fades_87 (by decide) ?_
      exact ih _ _ _ _ h _ _ _ hw (lv_sub hl [0, 1, 2, 3, 4, 5, 6] rfl) kk

set_option maxRecDepth 100000 in
set_option maxHeartbeats 4000000 in
theorem c_X5_fades {Γ : k_Pm} {l : Launch} (hl0 : l.stackTraces = false) {x1 : Int32} {x2 : Int32}  {g : Gt} {r : Int32} {g2 : Gt} (h : f_X5_fades x1 x2 g = some (r, g2)) : k_CI Γ l yX5_fades wsX5_fades rm_X5_fades [.ref (k_ad Γ 5 (0)), .int (x1), .int (x2)] g r g2 := by
  intro sz
  refine Met.ofW (cc := cX5_fades) (maxL := 7) (ret := (some .int)) (by decide) rfl ?_
  intro p e s m args below meth c s₁ B hml hv
  obtain ⟨rfl, rfl, hP, hKS⟩ := hv
  have hr := B.returns
  have hlocks := B.notSynchronized
  have hC : k_C Γ (k_A Γ s.heap.size) p l s m _ c cX5_fades 7 wsX5_fades RX5 := k_C.of ⟨B.exec, B.bytes, hml, findClass_of_methodNamed B.named, atoms_spec (ws := wsX5_fades) B.pre⟩ hKS hl0
  have hw : k_St Γ (k_A Γ s.heap.size) s [] g s.heap [] := k_St.of hKS hP
  have hl := lv_entry ([.ref (k_ad Γ 5 (0)), .int (x1), .int (x2)] : List Value) (n := 7) (Nat.le_of_ble_eq_true rfl)
  rw [lg_entry_eq]
  generalize (lg_sl ([.ref (k_ad Γ 5 (0)), .int (x1), .int (x2)] : List Value) ++ List.replicate (7 - (lg_sl ([.ref (k_ad Γ 5 (0)), .int (x1), .int (x2)] : List Value)).length) Slot.unset).toArray = ls at hl ⊢
  have hl : lv_has ls 7 [(0, .ref (k_ad Γ 5 (0))), (1, .int (x1)), (2, .int (x2))] := hl
  change W p l e rm_X5_fades _ _ _ _ _ _ _ _ _ _ _ _
  unfold f_X5_fades at h
  refine lv_aload_n hC.x hC.b dX5_fades_0 rfl (lv_at hl 0 rfl) ?_
  refine lv_iconst (v := (0 : Int32)) hC.x hC.b dX5_fades_1 (by decide) ?_
  refine x_puti hC hw (k := 0) (T := TX5) (by decide) (k_E5 _ _ _) in_X5_fades_X5 rfl (by decide) lk_X5_fades_f46 rfl tyX5 tyX5_ok nmX5 rfl (by decide +kernel) (Nat.le_of_ble_eq_true rfl) (by rw [k_E5]; rfl) dX5_fades_2 (fun H locs hw => ?_)
  refine lv_aload_n hC.x hC.b dX5_fades_5 rfl (lv_at hl 0 rfl) ?_
  refine lv_iload_n hC.x hC.b dX5_fades_6 rfl (lv_at hl 1 rfl) ?_
  obtain ⟨r7, g7, hq, h⟩ := bd2_t h
  refine x_goi hC hw (x_runV hC hw (c_X5_isCord (Γ := Γ) (l := l) hC.2.2.2.2 hq) (cwV 1 hC.t gX5_fades_X5_isCord rfl rfl rfl (by decide +kernel) ⟨Nat.le_of_ble_eq_true rfl, Nat.le_of_ble_eq_true rfl⟩) (As := [.int (x1)]) (by decide) (k_E5 _ _ _) rfl rfl rfl hl.1 (Nat.le_of_ble_eq_true rfl) dX5_fades_7 ⟨by decide, by decide⟩) (fun H locs hw => ?_)
  refine lv_if_ne (tgt := 19) hC.x hC.b dX5_fades_10 (by decide) (fun hc => ?_) (fun hc => ?_)
  · have h := it_f h hc
    refine lv_iload_n hC.x hC.b dX5_fades_19 rfl (lv_at hl 2 rfl) ?_
    refine lv_iconst (v := (1 : Int32)) hC.x hC.b dX5_fades_20 (by decide) ?_
    refine lv_bipush (v := (50 : Int32)) hC.x hC.b dX5_fades_21 (by decide) ?_
    obtain ⟨r23, g23, hq, h⟩ := bd2_t h
    refine x_goi hC hw (x_runS hC hw (c_X5_isIn (Γ := Γ) (l := l) hC.2.2.2.2 hq) (va_cwS 3 hC.t gX5_fades_X5_isIn rfl rfl rfl (by decide +kernel) ⟨Nat.le_of_ble_eq_true rfl, Nat.le_of_ble_eq_true rfl⟩) (As := [.int (x2), .int ((1 : Int32)), .int ((50 : Int32))]) rfl hl.1 (Nat.le_of_ble_eq_true rfl) dX5_fades_23 ⟨by decide, by decide⟩) (fun H locs hw => ?_)
    refine lv_if_ne (tgt := 35) hC.x hC.b dX5_fades_26 (by decide) (fun hc => ?_) (fun hc => ?_)
    · have h := it_f h hc
      refine lv_aload_n hC.x hC.b dX5_fades_35 rfl (lv_at hl 0 rfl) ?_
      refine x_get hC hw (k := 6) (T := TX5) (by decide) (k_E5 _ _ _) in_X5_fades_X5 rfl (by decide) lk_X5_fades_f16 rfl rfl dX5_fades_36 ?_
      refine x_clone hC hw hl.1 lk_X5_fades_m133 lk_X5_fades_clsame lk_X5_fades_clnat lk_X5_fades_clinst lk_X5_fades_clsel xw_clone rfl (by decide) (by decide) (Nat.le_of_ble_eq_true rfl) (Nat.le_of_ble_eq_true rfl) (Nat.le_of_ble_eq_true rfl) dX5_fades_39 (fun q39 H locs hw => ?_)
      refine x_castT hC hw (k := 0) lk_X5_fades_c134 rfl dX5_fades_42 ?_
      refine lv_astore_n (lv' := [(3, .ref q39), (0, .ref (k_ad Γ 5 (0))), (1, .int (x1)), (2, .int (x2))]) hC.x hC.b dX5_fades_45 rfl hl (by decide) rfl (fun ls hl => ?_)
      refine lv_aload_n hC.x hC.b dX5_fades_46 rfl (lv_at hl 1 rfl) ?_
      refine x_get hC hw (k := 7) (T := TX5) (by decide) (k_E5 _ _ _) in_X5_fades_X5 rfl (by decide) lk_X5_fades_f19 rfl rfl dX5_fades_47 ?_
      refine x_clone hC hw hl.1 lk_X5_fades_m133 lk_X5_fades_clsame lk_X5_fades_clnat lk_X5_fades_clinst lk_X5_fades_clsel xw_clone rfl (by decide) (by decide) (Nat.le_of_ble_eq_true rfl) (Nat.le_of_ble_eq_true rfl) (Nat.le_of_ble_eq_true rfl) dX5_fades_50 (fun q50 H locs hw => ?_)
      refine x_castT hC hw (k := 1) lk_X5_fades_c134 rfl dX5_fades_53 ?_
      refine lv_astore (lv' := [(4, .ref q50), (3, .ref q39), (0, .ref (k_ad Γ 5 (0))), (1, .int (x1)), (2, .int (x2))]) hC.x hC.b dX5_fades_56 hl (by decide) rfl (fun ls hl => ?_)
      refine lv_aload_n hC.x hC.b dX5_fades_58 rfl (lv_at hl 2 rfl) ?_
      refine x_get hC hw (k := 12) (T := TX5) (by decide) (k_E5 _ _ _) in_X5_fades_X5 rfl (by decide) lk_X5_fades_f34 rfl rfl dX5_fades_59 ?_
      refine x_clone hC hw hl.1 lk_X5_fades_m133 lk_X5_fades_clsame lk_X5_fades_clnat lk_X5_fades_clinst lk_X5_fades_clsel xw_clone rfl (by decide) (by decide) (Nat.le_of_ble_eq_true rfl) (Nat.le_of_ble_eq_true rfl) (Nat.le_of_ble_eq_true rfl) dX5_fades_62 (fun q62 H locs hw => ?_)
      refine x_castT hC hw (k := 2) lk_X5_fades_c134 rfl dX5_fades_65 ?_
      refine lv_astore (lv' := [(5, .ref q62), (4, .ref q50), (3, .ref q39), (0, .ref (k_ad Γ 5 (0))), (1, .int (x1)), (2, .int (x2))]) hC.x hC.b dX5_fades_68 hl (by decide) rfl (fun ls hl => ?_)
      refine lv_iconst (v := (0 : Int32)) hC.x hC.b dX5_fades_70 (by decide) ?_
      refine lv_istore (lv' := [(6, .int ((0 : Int32))), (5, .ref q62), (4, .ref q50), (3, .ref q39), (0, .ref (k_ad Γ 5 (0))), (1, .int (x1)), (2, .int (x2))]) hC.x hC.b dX5_fades_71 hl (by decide) rfl (fun ls hl => ?_)
      obtain ⟨w73_6, g73, hq, h⟩ := bd2_t h
      refine w_X5_fades_73 hC ⟨by decide, by decide⟩  k_N _ _ _ _ hq _ _ _ hw (lv_sub hl [0, 1, 2, 3, 4, 5, 6] rfl) (fun H locs ls hw hl => ?_)
      refine lv_aload_n hC.x hC.b dX5_fades_90 rfl (lv_at hl 4 rfl) ?_
      refine lv_iload_n hC.x hC.b dX5_fades_91 rfl (lv_at hl 5 rfl) ?_
      refine lv_iconst (v := (3 : Int32)) hC.x hC.b dX5_fades_92 (by decide) ?_
      obtain ⟨r93, g93, hq, h⟩ := bd2_t h
      refine x_goi hC hw (x_runV hC hw (c_X5_cordTold (Γ := Γ) (l := l) hC.2.2.2.2 hq) (cwV 2 hC.t gX5_fades_X5_cordTold rfl rfl rfl (by decide +kernel) ⟨Nat.le_of_ble_eq_true rfl, Nat.le_of_ble_eq_true rfl⟩) (As := [.int (x1), .int ((3 : Int32))]) (by decide) (k_E5 _ _ _) rfl rfl rfl hl.1 (Nat.le_of_ble_eq_true rfl) dX5_fades_93 ⟨by decide, by decide⟩) (fun H locs hw => ?_)
      refine lv_istore (lv' := [(6, .int (r93)), (5, .ref q62), (4, .ref q50), (3, .ref q39), (0, .ref (k_ad Γ 5 (0))), (1, .int (x1)), (2, .int (x2))]) hC.x hC.b dX5_fades_96 hl (by decide) rfl (fun ls hl => ?_)
      refine lv_aload_n hC.x hC.b dX5_fades_98 rfl (lv_at hl 3 rfl) ?_
      refine lv_iconst (v := (0 : Int32)) hC.x hC.b dX5_fades_99 (by decide) ?_
      refine lv_aload_n hC.x hC.b dX5_fades_100 rfl (lv_at hl 4 rfl) ?_
      refine x_get hC hw (k := 6) (T := TX5) (by decide) (k_E5 _ _ _) in_X5_fades_X5 rfl (by decide) lk_X5_fades_f16 rfl rfl dX5_fades_101 ?_
      refine lv_iconst (v := (0 : Int32)) hC.x hC.b dX5_fades_104 (by decide) ?_
      refine lv_aload_n hC.x hC.b dX5_fades_105 rfl (lv_at hl 4 rfl) ?_
      refine x_get hC hw (k := 6) (T := TX5) (by decide) (k_E5 _ _ _) in_X5_fades_X5 rfl (by decide) lk_X5_fades_f16 rfl rfl dX5_fades_106 ?_
      refine x_alen hC hw rfl (by decide) (v := (64 : Int32)) (by decide) dX5_fades_109 ?_
      refine x_copyT hC hw hl.1 lk_X5_fades_m83 lk_X5_fades_nac lk_X5_fades_sac lk_X5_fades_iac (k := 0) rfl rfl (by decide) (by decide) (by decide) (by decide) (by decide) (by decide) (Nat.le_of_ble_eq_true rfl) (Nat.le_of_ble_eq_true rfl) dX5_fades_110 (fun H locs hw => ?_)
      refine lv_aload hC.x hC.b dX5_fades_113 (lv_at hl 2 rfl) ?_
      refine lv_iconst (v := (0 : Int32)) hC.x hC.b dX5_fades_115 (by decide) ?_
      refine lv_aload_n hC.x hC.b dX5_fades_116 rfl (lv_at hl 4 rfl) ?_
      refine x_get hC hw (k := 7) (T := TX5) (by decide) (k_E5 _ _ _) in_X5_fades_X5 rfl (by decide) lk_X5_fades_f19 rfl rfl dX5_fades_117 ?_
      refine lv_iconst (v := (0 : Int32)) hC.x hC.b dX5_fades_120 (by decide) ?_
      refine lv_aload_n hC.x hC.b dX5_fades_121 rfl (lv_at hl 4 rfl) ?_
      refine x_get hC hw (k := 7) (T := TX5) (by decide) (k_E5 _ _ _) in_X5_fades_X5 rfl (by decide) lk_X5_fades_f19 rfl rfl dX5_fades_122 ?_
      refine x_alen hC hw rfl (by decide) (v := (64 : Int32)) (by decide) dX5_fades_125 ?_
      refine x_copyT hC hw hl.1 lk_X5_fades_m83 lk_X5_fades_nac lk_X5_fades_sac lk_X5_fades_iac (k := 1) rfl rfl (by decide) (by decide) (by decide) (by decide) (by decide) (by decide) (Nat.le_of_ble_eq_true rfl) (Nat.le_of_ble_eq_true rfl) dX5_fades_126 (fun H locs hw => ?_)
      refine lv_aload hC.x hC.b dX5_fades_129 (lv_at hl 1 rfl) ?_
      refine lv_iconst (v := (0 : Int32)) hC.x hC.b dX5_fades_131 (by decide) ?_
      refine lv_aload_n hC.x hC.b dX5_fades_132 rfl (lv_at hl 4 rfl) ?_
      refine x_get hC hw (k := 12) (T := TX5) (by decide) (k_E5 _ _ _) in_X5_fades_X5 rfl (by decide) lk_X5_fades_f34 rfl rfl dX5_fades_133 ?_
      refine lv_iconst (v := (0 : Int32)) hC.x hC.b dX5_fades_136 (by decide) ?_
      refine lv_aload_n hC.x hC.b dX5_fades_137 rfl (lv_at hl 4 rfl) ?_
      refine x_get hC hw (k := 12) (T := TX5) (by decide) (k_E5 _ _ _) in_X5_fades_X5 rfl (by decide) lk_X5_fades_f34 rfl rfl dX5_fades_138 ?_
      refine x_alen hC hw rfl (by decide) (v := (2 : Int32)) (by decide) dX5_fades_141 ?_
      refine x_copyT hC hw hl.1 lk_X5_fades_m83 lk_X5_fades_nac lk_X5_fades_sac lk_X5_fades_iac (k := 2) rfl rfl (by decide) (by decide) (by decide) (by decide) (by decide) (by decide) (Nat.le_of_ble_eq_true rfl) (Nat.le_of_ble_eq_true rfl) dX5_fades_142 (fun H locs hw => ?_)
      refine lv_iload hC.x hC.b dX5_fades_145 (lv_at hl 0 rfl) ?_
      obtain ⟨rfl, rfl⟩ := sm2 h
      exact x_iret hC hw hr hlocks (by decide) (by decide) dX5_fades_147
    · have h := it_t h hc
      refine lv_aload_n hC.x hC.b dX5_fades_29 rfl (lv_at hl 0 rfl) ?_
      refine lv_iconst (v := (2 : Int32)) hC.x hC.b dX5_fades_30 (by decide) ?_
      obtain ⟨r31, g31, hq, h⟩ := bd2_t h
      refine x_goi hC hw (x_runV hC hw (c_X5_fail (Γ := Γ) (l := l) hC.2.2.2.2 hq) (cwV 1 hC.t gX5_fades_X5_fail rfl rfl rfl (by decide +kernel) ⟨Nat.le_of_ble_eq_true rfl, Nat.le_of_ble_eq_true rfl⟩) (As := [.int ((2 : Int32))]) (by decide) (k_E5 _ _ _) rfl rfl rfl hl.1 (Nat.le_of_ble_eq_true rfl) dX5_fades_31 ⟨by decide, by decide⟩) (fun H locs hw => ?_)
      obtain ⟨rfl, rfl⟩ := sm2 h
      exact x_iret hC hw hr hlocks (by decide) (by decide) dX5_fades_34
  · have h := it_t h hc
    refine lv_aload_n hC.x hC.b dX5_fades_13 rfl (lv_at hl 0 rfl) ?_
    refine lv_iconst (v := (1 : Int32)) hC.x hC.b dX5_fades_14 (by decide) ?_
    obtain ⟨r15, g15, hq, h⟩ := bd2_t h
    refine x_goi hC hw (x_runV hC hw (c_X5_fail (Γ := Γ) (l := l) hC.2.2.2.2 hq) (cwV 1 hC.t gX5_fades_X5_fail rfl rfl rfl (by decide +kernel) ⟨Nat.le_of_ble_eq_true rfl, Nat.le_of_ble_eq_true rfl⟩) (As := [.int ((1 : Int32))]) (by decide) (k_E5 _ _ _) rfl rfl rfl hl.1 (Nat.le_of_ble_eq_true rfl) dX5_fades_15 ⟨by decide, by decide⟩) (fun H locs hw => ?_)
    obtain ⟨rfl, rfl⟩ := sm2 h
    exact x_iret hC hw hr hlocks (by decide) (by decide) dX5_fades_18
