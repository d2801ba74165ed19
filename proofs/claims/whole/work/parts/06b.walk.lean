/-! written by wip/whole/gen.py: the walks -/
abbrev rm_X4_checkCord : Room := { frames := 6, cells := 1, slots := 6, locals := 82 }
theorem in_X4_checkCord_X4 : ∀ w ∈ wsX40, w ∈ wsX4_checkCord := fun _ h => List.mem_cons_of_mem _ (List.mem_append_left _ (List.mem_append_left _ (List.mem_append_right _ (h))))
theorem in_X4_checkCord_X0 : ∀ w ∈ wsX00, w ∈ wsX4_checkCord := fun _ h => List.mem_cons_of_mem _ (List.mem_append_left _ (List.mem_append_right _ (h)))
set_option maxRecDepth 20000 in
theorem lk_X4_checkCord_c157 : Cond.classLink RX4 157 "java/lang/IndexOutOfBoundsException" ∈ wsX4_checkCord := by decide +kernel
set_option maxRecDepth 20000 in
theorem lk_X4_checkCord_i157 : Cond.initialized "java/lang/IndexOutOfBoundsException" ∈ wsX4_checkCord := by decide +kernel
set_option maxRecDepth 20000 in
theorem lk_X4_checkCord_f10 : Cond.fieldLink RX4 10 "KnotArchive" "cords" "LKnotArchive$Cords;" ∈ wsX4_checkCord := by decide +kernel
theorem xa_X4_checkCord_161 : ∀ w ∈ (vx_atS RX4 161 "java/lang/IndexOutOfBoundsException" k_nms).filter goodWord, w ∈ wsX4_checkCord := fun _ h => List.mem_cons_of_mem _ (List.mem_append_right _ (h))
set_option maxRecDepth 100000 in
set_option maxHeartbeats 4000000 in
theorem c_X4_checkCord {Γ : k_Pm} {l : Launch} (hl0 : l.stackTraces = false) {x1 : Int32}  {g : Gt} {k : Nat} {g2 : Gt} (h : f_X4_checkCord x1 g = some (k, g2)) : k_CXV Γ l yX4_checkCord wsX4_checkCord rm_X4_checkCord [.ref (k_ad Γ 0 (0)), .int (x1)] g k g2 := by
  intro sz
  refine vx_ofW (cc := cX4_checkCord) (maxL := 2) (ret := none) (by decide) rfl ?_
  intro p e s m args below meth c s₁ B hml hout hv
  obtain ⟨rfl, rfl, hP, hKS⟩ := hv
  have hr := B.returns
  have hlocks := B.notSynchronized
  have hC : k_C Γ (k_A Γ s.heap.size) p l s m _ c cX4_checkCord 2 wsX4_checkCord RX4 := k_C.of ⟨B.exec, B.bytes, hml, findClass_of_methodNamed B.named, atoms_spec (ws := wsX4_checkCord) B.pre⟩ hKS hl0
  have hw : k_St Γ (k_A Γ s.heap.size) s [] g s.heap [] := k_St.of hKS hP
  have hl := lv_entry ([.ref (k_ad Γ 0 (0)), .int (x1)] : List Value) (n := 2) (Nat.le_of_ble_eq_true rfl)
  rw [lg_entry_eq]
  generalize (lg_sl ([.ref (k_ad Γ 0 (0)), .int (x1)] : List Value) ++ List.replicate (2 - (lg_sl ([.ref (k_ad Γ 0 (0)), .int (x1)] : List Value)).length) Slot.unset).toArray = ls at hl ⊢
  have hl : lv_has ls 2 [(0, .ref (k_ad Γ 0 (0))), (1, .int (x1))] := hl
  change W p l e rm_X4_checkCord _ _ _ _ _ _ _ _ _ _ _ _
  unfold f_X4_checkCord at h
  refine lv_iload_n hC.x hC.b dX4_checkCord_0 rfl (lv_at hl 1 rfl) ?_
  refine lv_if_lt (tgt := 15) hC.x hC.b dX4_checkCord_1 (by decide) (fun hc => ?_) (fun hc => ?_)
  · have h := it_t h hc
    obtain ⟨rfl, rfl⟩ := sm2 h
    exact x_throw hC hw hout hlocks hl.1 (text := "no such cord") (by decide +kernel) lk_X4_checkCord_c157 lk_X4_checkCord_i157 (by decide +kernel) xa_X4_checkCord_161 xb_161 xo_161_157 rfl (by decide) dX4_checkCord_15 dX4_checkCord_18 dX4_checkCord_19 dX4_checkCord_21 dX4_checkCord_24 (by decide) (by decide) (by decide) (by decide) (by decide) (by decide)
  · have h := it_f h hc
    refine lv_iload_n hC.x hC.b dX4_checkCord_4 rfl (lv_at hl 1 rfl) ?_
    refine lv_aload_n hC.x hC.b dX4_checkCord_5 rfl (lv_at hl 0 rfl) ?_
    refine x_get hC hw (k := 0) (T := TX4) (by decide) (k_E0 _ _ _) in_X4_checkCord_X4 rfl (by decide) lk_X4_checkCord_f10 rfl rfl dX4_checkCord_6 ?_
    refine x_getN hC hw (k := 4) (T := TX0) (by decide) (k_E1 _ _ _) in_X4_checkCord_X0 rfl (by decide) nw_f_X4_58 rfl rfl dX4_checkCord_9 ?_
    refine lv_icmp_lt (tgt := 25) hC.x hC.b dX4_checkCord_12 (by decide) (fun hc => ?_) (fun hc => ?_)
    · have h := it_t h hc
      obtain ⟨rfl, rfl⟩ := sm2 h
      exact x_xvret hC hw hr hlocks (by decide) (by decide) dX4_checkCord_25
    · have h := it_f h hc
      obtain ⟨rfl, rfl⟩ := sm2 h
      exact x_throw hC hw hout hlocks hl.1 (text := "no such cord") (by decide +kernel) lk_X4_checkCord_c157 lk_X4_checkCord_i157 (by decide +kernel) xa_X4_checkCord_161 xb_161 xo_161_157 rfl (by decide) dX4_checkCord_15 dX4_checkCord_18 dX4_checkCord_19 dX4_checkCord_21 dX4_checkCord_24 (by decide) (by decide) (by decide) (by decide) (by decide) (by decide)
abbrev rm_X4_hang : Room := { frames := 7, cells := 2, slots := 12, locals := 103 }
theorem in_X4_hang_X4 : ∀ w ∈ wsX40, w ∈ wsX4_hang := fun _ h => List.mem_cons_of_mem _ (List.mem_append_left _ (List.mem_append_left _ (List.mem_append_left _ (List.mem_append_left _ (List.mem_append_right _ (h))))))
theorem in_X4_hang_X0 : ∀ w ∈ wsX00, w ∈ wsX4_hang := fun _ h => List.mem_cons_of_mem _ (List.mem_append_left _ (List.mem_append_left _ (List.mem_append_left _ (List.mem_append_right _ (h)))))
set_option maxRecDepth 20000 in
theorem lk_X4_hang_c51 : Cond.classLink RX4 51 "java/lang/IllegalArgumentException" ∈ wsX4_hang := by decide +kernel
set_option maxRecDepth 20000 in
theorem lk_X4_hang_i51 : Cond.initialized "java/lang/IllegalArgumentException" ∈ wsX4_hang := by decide +kernel
set_option maxRecDepth 20000 in
theorem lk_X4_hang_f10 : Cond.fieldLink RX4 10 "KnotArchive" "cords" "LKnotArchive$Cords;" ∈ wsX4_hang := by decide +kernel
set_option maxRecDepth 20000 in
theorem lk_X4_hang_iX0 : Cond.initialized RX0 ∈ wsX4_hang := by decide +kernel
set_option maxRecDepth 20000 in
theorem lk_X4_hang_nX0_add : Cond.instanceMethod yX0_add ∈ wsX4_hang := by decide +kernel
set_option maxRecDepth 20000 in
theorem lk_X4_hang_zX0_add : Cond.selects RX0 yX0_add yX0_add ∈ wsX4_hang := by decide +kernel
set_option maxRecDepth 20000 in
theorem lk_X4_hang_nX0_hangingFrom : Cond.instanceMethod yX0_hangingFrom ∈ wsX4_hang := by decide +kernel
set_option maxRecDepth 20000 in
theorem lk_X4_hang_zX0_hangingFrom : Cond.selects RX0 yX0_hangingFrom yX0_hangingFrom ∈ wsX4_hang := by decide +kernel
set_option maxRecDepth 20000 in
theorem lk_X4_hang_c61 : Cond.classLink RX4 61 "java/lang/IllegalStateException" ∈ wsX4_hang := by decide +kernel
set_option maxRecDepth 20000 in
theorem lk_X4_hang_i61 : Cond.initialized "java/lang/IllegalStateException" ∈ wsX4_hang := by decide +kernel
theorem xa_X4_hang_55 : ∀ w ∈ (vx_atS RX4 55 "java/lang/IllegalArgumentException" k_nms).filter goodWord, w ∈ wsX4_hang := fun _ h => List.mem_cons_of_mem _ (List.mem_append_left _ (List.mem_append_left _ (List.mem_append_right _ (h))))
theorem xa_X4_hang_65 : ∀ w ∈ (vx_atS RX4 65 "java/lang/IllegalStateException" k_nms).filter goodWord, w ∈ wsX4_hang := fun _ h => List.mem_cons_of_mem _ (List.mem_append_left _ (List.mem_append_right _ (h)))
set_option maxRecDepth 100000 in
set_option maxHeartbeats 4000000 in
theorem c_X4_hang {Γ : k_Pm} {l : Launch} (hl0 : l.stackTraces = false) {x1 : Int32} {x2 : Int32}  {g : Gt} {k : Nat} {r : Int32} {g2 : Gt} (h : f_X4_hang x1 x2 g = some (k, r, g2)) : k_CXI Γ l yX4_hang wsX4_hang rm_X4_hang [.ref (k_ad Γ 0 (0)), .int (x1), .int (x2)] g k r g2 := by
  intro sz
  refine vx_ofW (cc := cX4_hang) (maxL := 3) (ret := (some .int)) (by decide) rfl ?_
  intro p e s m args below meth c s₁ B hml hout hv
  obtain ⟨rfl, rfl, hP, hKS⟩ := hv
  have hr := B.returns
  have hlocks := B.notSynchronized
  have hC : k_C Γ (k_A Γ s.heap.size) p l s m _ c cX4_hang 3 wsX4_hang RX4 := k_C.of ⟨B.exec, B.bytes, hml, findClass_of_methodNamed B.named, atoms_spec (ws := wsX4_hang) B.pre⟩ hKS hl0
  have hw : k_St Γ (k_A Γ s.heap.size) s [] g s.heap [] := k_St.of hKS hP
  have hl := lv_entry ([.ref (k_ad Γ 0 (0)), .int (x1), .int (x2)] : List Value) (n := 3) (Nat.le_of_ble_eq_true rfl)
  rw [lg_entry_eq]
  generalize (lg_sl ([.ref (k_ad Γ 0 (0)), .int (x1), .int (x2)] : List Value) ++ List.replicate (3 - (lg_sl ([.ref (k_ad Γ 0 (0)), .int (x1), .int (x2)] : List Value)).length) Slot.unset).toArray = ls at hl ⊢
  have hl : lv_has ls 3 [(0, .ref (k_ad Γ 0 (0))), (1, .int (x1)), (2, .int (x2))] := hl
  change W p l e rm_X4_hang _ _ _ _ _ _ _ _ _ _ _ _
  unfold f_X4_hang at h
  refine lv_iload_n hC.x hC.b dX4_hang_0 rfl (lv_at hl 1 rfl) ?_
  refine lv_iconst (v := (-1 : Int32)) hC.x hC.b dX4_hang_1 (by decide) ?_
  refine lv_icmp_eq (tgt := 10) hC.x hC.b dX4_hang_2 (by decide) (fun hc => ?_) (fun hc => ?_)
  · have h := it_t h hc
    refine lv_iload_n hC.x hC.b dX4_hang_10 rfl (lv_at hl 2 rfl) ?_
    refine lv_if_lt (tgt := 19) hC.x hC.b dX4_hang_11 (by decide) (fun hc => ?_) (fun hc => ?_)
    · have h := it_t h hc
      obtain ⟨rfl, rfl, rfl⟩ := sm3 h
      exact x_throw hC hw hout hlocks hl.1 (text := "no such strand") (by decide +kernel) lk_X4_hang_c51 lk_X4_hang_i51 (by decide +kernel) xa_X4_hang_55 xb_55 xo_55_51 rfl (by decide) dX4_hang_19 dX4_hang_22 dX4_hang_23 dX4_hang_25 dX4_hang_28 (by decide) (by decide) (by decide) (by decide) (by decide) (by decide)
    · have h := it_f h hc
      refine lv_iload_n hC.x hC.b dX4_hang_14 rfl (lv_at hl 2 rfl) ?_
      refine lv_iconst (v := (4 : Int32)) hC.x hC.b dX4_hang_15 (by decide) ?_
      refine lv_icmp_le (tgt := 29) hC.x hC.b dX4_hang_16 (by decide) (fun hc => ?_) (fun hc => ?_)
      · have h := it_t h hc
        refine lv_aload_n hC.x hC.b dX4_hang_29 rfl (lv_at hl 0 rfl) ?_
        refine x_get hC hw (k := 0) (T := TX4) (by decide) (k_E0 _ _ _) in_X4_hang_X4 rfl (by decide) lk_X4_hang_f10 rfl rfl dX4_hang_30 ?_
        refine x_getN hC hw (k := 4) (T := TX0) (by decide) (k_E1 _ _ _) in_X4_hang_X0 rfl (by decide) nw_f_X4_58 rfl rfl dX4_hang_33 ?_
        refine lv_bipush (v := (16 : Int32)) hC.x hC.b dX4_hang_36 (by decide) ?_
        refine lv_icmp_ne (tgt := 51) hC.x hC.b dX4_hang_38 (by decide) (fun hc => ?_) (fun hc => ?_)
        · have h := it_f h hc
          refine lv_iload_n hC.x hC.b dX4_hang_51 rfl (lv_at hl 1 rfl) ?_
          refine lv_iconst (v := (-1 : Int32)) hC.x hC.b dX4_hang_52 (by decide) ?_
          refine lv_icmp_eq (tgt := 79) hC.x hC.b dX4_hang_53 (by decide) (fun hc => ?_) (fun hc => ?_)
          · have h := it_t h hc
            refine lv_aload_n hC.x hC.b dX4_hang_79 rfl (lv_at hl 0 rfl) ?_
            refine x_get hC hw (k := 0) (T := TX4) (by decide) (k_E0 _ _ _) in_X4_hang_X4 rfl (by decide) lk_X4_hang_f10 rfl rfl dX4_hang_80 ?_
            refine lv_iload_n hC.x hC.b dX4_hang_83 rfl (lv_at hl 1 rfl) ?_
            refine lv_iload_n hC.x hC.b dX4_hang_84 rfl (lv_at hl 2 rfl) ?_
            obtain ⟨r85, g85, hq, h⟩ := bd2_t h
            refine x_goi hC hw (x_runN hC hw (c_X0_add (Γ := Γ) (l := l) hC.2.2.2.2 hq) ⟨va_cnB 2 hC.t gX4_hang_X0_add_n72 rfl rfl rfl (hC.w nw_m_X4_72) (hC.t _ lk_X4_hang_iX0) (by decide +kernel) ⟨Nat.le_of_ble_eq_true rfl, Nat.le_of_ble_eq_true rfl⟩, hC.t _ lk_X4_hang_nX0_add, hC.t _ lk_X4_hang_zX0_add⟩ (As := [.int (x1), .int (x2)]) (by decide) (k_E1 _ _ _) rfl rfl rfl hl.1 (Nat.le_of_ble_eq_true rfl) dX4_hang_85 ⟨by decide, by decide⟩) (fun H locs hw => ?_)
            obtain ⟨rfl, rfl, rfl⟩ := sm3 h
            exact x_xiret hC hw hr hlocks (by decide) (by decide) dX4_hang_88
          · have h := it_f h hc
            refine lv_aload_n hC.x hC.b dX4_hang_56 rfl (lv_at hl 0 rfl) ?_
            refine x_get hC hw (k := 0) (T := TX4) (by decide) (k_E0 _ _ _) in_X4_hang_X4 rfl (by decide) lk_X4_hang_f10 rfl rfl dX4_hang_57 ?_
            refine lv_iload_n hC.x hC.b dX4_hang_60 rfl (lv_at hl 1 rfl) ?_
            obtain ⟨r61, g61, hq, h⟩ := bd2_t h
            refine x_goi hC hw (x_runN hC hw (c_X0_hangingFrom (Γ := Γ) (l := l) hC.2.2.2.2 hq) ⟨va_cnB 1 hC.t gX4_hang_X0_hangingFrom_n66 rfl rfl rfl (hC.w nw_m_X4_66) (hC.t _ lk_X4_hang_iX0) (by decide +kernel) ⟨Nat.le_of_ble_eq_true rfl, Nat.le_of_ble_eq_true rfl⟩, hC.t _ lk_X4_hang_nX0_hangingFrom, hC.t _ lk_X4_hang_zX0_hangingFrom⟩ (As := [.int (x1)]) (by decide) (k_E1 _ _ _) rfl rfl rfl hl.1 (Nat.le_of_ble_eq_true rfl) dX4_hang_61 ⟨by decide, by decide⟩) (fun H locs hw => ?_)
            refine lv_bipush (v := (6 : Int32)) hC.x hC.b dX4_hang_64 (by decide) ?_
            refine lv_icmp_lt (tgt := 79) hC.x hC.b dX4_hang_66 (by decide) (fun hc => ?_) (fun hc => ?_)
            · have h := it_t h hc
              refine lv_aload_n hC.x hC.b dX4_hang_79 rfl (lv_at hl 0 rfl) ?_
              refine x_get hC hw (k := 0) (T := TX4) (by decide) (k_E0 _ _ _) in_X4_hang_X4 rfl (by decide) lk_X4_hang_f10 rfl rfl dX4_hang_80 ?_
              refine lv_iload_n hC.x hC.b dX4_hang_83 rfl (lv_at hl 1 rfl) ?_
              refine lv_iload_n hC.x hC.b dX4_hang_84 rfl (lv_at hl 2 rfl) ?_
              obtain ⟨r85, g85, hq, h⟩ := bd2_t h
              refine x_goi hC hw (x_runN hC hw (c_X0_add (Γ := Γ) (l := l) hC.2.2.2.2 hq) ⟨va_cnB 2 hC.t gX4_hang_X0_add_n72 rfl rfl rfl (hC.w nw_m_X4_72) (hC.t _ lk_X4_hang_iX0) (by decide +kernel) ⟨Nat.le_of_ble_eq_true rfl, Nat.le_of_ble_eq_true rfl⟩, hC.t _ lk_X4_hang_nX0_add, hC.t _ lk_X4_hang_zX0_add⟩ (As := [.int (x1), .int (x2)]) (by decide) (k_E1 _ _ _) rfl rfl rfl hl.1 (Nat.le_of_ble_eq_true rfl) dX4_hang_85 ⟨by decide, by decide⟩) (fun H locs hw => ?_)
              obtain ⟨rfl, rfl, rfl⟩ := sm3 h
              exact x_xiret hC hw hr hlocks (by decide) (by decide) dX4_hang_88
            · have h := it_f h hc
              obtain ⟨rfl, rfl, rfl⟩ := sm3 h
              exact x_throw hC hw hout hlocks hl.1 (text := "6 cords hang from this one") (by decide +kernel) lk_X4_hang_c61 lk_X4_hang_i61 (by decide +kernel) xa_X4_hang_65 xb_65 xo_65_61 rfl (by decide) dX4_hang_69 dX4_hang_72 dX4_hang_73 dX4_hang_75 dX4_hang_78 (by decide) (by decide) (by decide) (by decide) (by decide) (by decide)
        · have h := it_t h hc
          obtain ⟨rfl, rfl, rfl⟩ := sm3 h
          exact x_throw hC hw hout hlocks hl.1 (text := "there are 16 cords") (by decide +kernel) lk_X4_hang_c61 lk_X4_hang_i61 (by decide +kernel) xa_X4_hang_65 xb_65 xo_65_61 rfl (by decide) dX4_hang_41 dX4_hang_44 dX4_hang_45 dX4_hang_47 dX4_hang_50 (by decide) (by decide) (by decide) (by decide) (by decide) (by decide)
      · have h := it_f h hc
        obtain ⟨rfl, rfl, rfl⟩ := sm3 h
        exact x_throw hC hw hout hlocks hl.1 (text := "no such strand") (by decide +kernel) lk_X4_hang_c51 lk_X4_hang_i51 (by decide +kernel) xa_X4_hang_55 xb_55 xo_55_51 rfl (by decide) dX4_hang_19 dX4_hang_22 dX4_hang_23 dX4_hang_25 dX4_hang_28 (by decide) (by decide) (by decide) (by decide) (by decide) (by decide)
  · have h := it_f h hc
    refine lv_aload_n hC.x hC.b dX4_hang_5 rfl (lv_at hl 0 rfl) ?_
    refine lv_iload_n hC.x hC.b dX4_hang_6 rfl (lv_at hl 1 rfl) ?_
    obtain ⟨k7, g7, hq, h⟩ := bd2_t h
    refine x_goxv hC hw (x_runxV hC hw (c_X4_checkCord (Γ := Γ) (l := l) hC.2.2.2.2 hq) (cwV 1 hC.t gX4_hang_X4_checkCord rfl rfl rfl (by decide +kernel) ⟨Nat.le_of_ble_eq_true rfl, Nat.le_of_ble_eq_true rfl⟩) (As := [.int (x1)]) (by decide) (k_E0 _ _ _) rfl rfl rfl hl.1 (Nat.le_of_ble_eq_true rfl) dX4_hang_7 ⟨by decide, by decide⟩) (fun E ce q9 H locs hk hE hw hce hcv hcl => ?_) (fun hk H locs hw => ?_)
    · have h := it_f h hk
      obtain ⟨rfl, rfl, rfl⟩ := sm3 h
      exact x_out hw hout hlocks hk hE hce hcv hcl (by decide) (by decide)
    · have h := it_t h hk
      refine lv_iload_n hC.x hC.b dX4_hang_10 rfl (lv_at hl 2 rfl) ?_
      refine lv_if_lt (tgt := 19) hC.x hC.b dX4_hang_11 (by decide) (fun hc => ?_) (fun hc => ?_)
      · have h := it_t h hc
        obtain ⟨rfl, rfl, rfl⟩ := sm3 h
        exact x_throw hC hw hout hlocks hl.1 (text := "no such strand") (by decide +kernel) lk_X4_hang_c51 lk_X4_hang_i51 (by decide +kernel) xa_X4_hang_55 xb_55 xo_55_51 rfl (by decide) dX4_hang_19 dX4_hang_22 dX4_hang_23 dX4_hang_25 dX4_hang_28 (by decide) (by decide) (by decide) (by decide) (by decide) (by decide)
      · have h := it_f h hc
        refine lv_iload_n hC.x hC.b dX4_hang_14 rfl (lv_at hl 2 rfl) ?_
        refine lv_iconst (v := (4 : Int32)) hC.x hC.b dX4_hang_15 (by decide) ?_
        refine lv_icmp_le (tgt := 29) hC.x hC.b dX4_hang_16 (by decide) (fun hc => ?_) (fun hc => ?_)
        · have h := it_t h hc
          refine lv_aload_n hC.x hC.b dX4_hang_29 rfl (lv_at hl 0 rfl) ?_
          refine x_get hC hw (k := 0) (T := TX4) (by decide) (k_E0 _ _ _) in_X4_hang_X4 rfl (by decide) lk_X4_hang_f10 rfl rfl dX4_hang_30 ?_
          refine x_getN hC hw (k := 4) (T := TX0) (by decide) (k_E1 _ _ _) in_X4_hang_X0 rfl (by decide) nw_f_X4_58 rfl rfl dX4_hang_33 ?_
          refine lv_bipush (v := (16 : Int32)) hC.x hC.b dX4_hang_36 (by decide) ?_
          refine lv_icmp_ne (tgt := 51) hC.x hC.b dX4_hang_38 (by decide) (fun hc => ?_) (fun hc => ?_)
          · have h := it_f h hc
            refine lv_iload_n hC.x hC.b dX4_hang_51 rfl (lv_at hl 1 rfl) ?_
            refine lv_iconst (v := (-1 : Int32)) hC.x hC.b dX4_hang_52 (by decide) ?_
            refine lv_icmp_eq (tgt := 79) hC.x hC.b dX4_hang_53 (by decide) (fun hc => ?_) (fun hc => ?_)
            · have h := it_t h hc
              refine lv_aload_n hC.x hC.b dX4_hang_79 rfl (lv_at hl 0 rfl) ?_
              refine x_get hC hw (k := 0) (T := TX4) (by decide) (k_E0 _ _ _) in_X4_hang_X4 rfl (by decide) lk_X4_hang_f10 rfl rfl dX4_hang_80 ?_
              refine lv_iload_n hC.x hC.b dX4_hang_83 rfl (lv_at hl 1 rfl) ?_
              refine lv_iload_n hC.x hC.b dX4_hang_84 rfl (lv_at hl 2 rfl) ?_
              obtain ⟨r85, g85, hq, h⟩ := bd2_t h
              refine x_goi hC hw (x_runN hC hw (c_X0_add (Γ := Γ) (l := l) hC.2.2.2.2 hq) ⟨va_cnB 2 hC.t gX4_hang_X0_add_n72 rfl rfl rfl (hC.w nw_m_X4_72) (hC.t _ lk_X4_hang_iX0) (by decide +kernel) ⟨Nat.le_of_ble_eq_true rfl, Nat.le_of_ble_eq_true rfl⟩, hC.t _ lk_X4_hang_nX0_add, hC.t _ lk_X4_hang_zX0_add⟩ (As := [.int (x1), .int (x2)]) (by decide) (k_E1 _ _ _) rfl rfl rfl hl.1 (Nat.le_of_ble_eq_true rfl) dX4_hang_85 ⟨by decide, by decide⟩) (fun H locs hw => ?_)
              obtain ⟨rfl, rfl, rfl⟩ := sm3 h
              exact x_xiret hC hw hr hlocks (by decide) (by decide) dX4_hang_88
            · have h := it_f h hc
              refine lv_aload_n hC.x hC.b dX4_hang_56 rfl (lv_at hl 0 rfl) ?_
              refine x_get hC hw (k := 0) (T := TX4) (by decide) (k_E0 _ _ _) in_X4_hang_X4 rfl (by decide) lk_X4_hang_f10 rfl rfl dX4_hang_57 ?_
              refine lv_iload_n hC.x hC.b dX4_hang_60 rfl (lv_at hl 1 rfl) ?_
              obtain ⟨r61, g61, hq, h⟩ := bd2_t h
              refine x_goi hC hw (x_runN hC hw (c_X0_hangingFrom (Γ := Γ) (l := l) hC.2.2.2.2 hq) ⟨va_cnB 1 hC.t gX4_hang_X0_hangingFrom_n66 rfl rfl rfl (hC.w nw_m_X4_66) (hC.t _ lk_X4_hang_iX0) (by decide +kernel) ⟨Nat.le_of_ble_eq_true rfl, Nat.le_of_ble_eq_true rfl⟩, hC.t _ lk_X4_hang_nX0_hangingFrom, hC.t _ lk_X4_hang_zX0_hangingFrom⟩ (As := [.int (x1)]) (by decide) (k_E1 _ _ _) rfl rfl rfl hl.1 (Nat.le_of_ble_eq_true rfl) dX4_hang_61 ⟨by decide, by decide⟩) (fun H locs hw => ?_)
              refine lv_bipush (v := (6 : Int32)) hC.x hC.b dX4_hang_64 (by decide) ?_
              refine lv_icmp_lt (tgt := 79) hC.x hC.b dX4_hang_66 (by decide) (fun hc => ?_) (fun hc => ?_)
              · have h := it_t h hc
                refine lv_aload_n hC.x hC.b dX4_hang_79 rfl (lv_at hl 0 rfl) ?_
                refine x_get hC hw (k := 0) (T := TX4) (by decide) (k_E0 _ _ _) in_X4_hang_X4 rfl (by decide) lk_X4_hang_f10 rfl rfl dX4_hang_80 ?_
                refine lv_iload_n hC.x hC.b dX4_hang_83 rfl (lv_at hl 1 rfl) ?_
                refine lv_iload_n hC.x hC.b dX4_hang_84 rfl (lv_at hl 2 rfl) ?_
                obtain ⟨r85, g85, hq, h⟩ := bd2_t h
                refine x_goi hC hw (x_runN hC hw (c_X0_add (Γ := Γ) (l := l) hC.2.2.2.2 hq) ⟨va_cnB 2 hC.t gX4_hang_X0_add_n72 rfl rfl rfl (hC.w nw_m_X4_72) (hC.t _ lk_X4_hang_iX0) (by decide +kernel) ⟨Nat.le_of_ble_eq_true rfl, Nat.le_of_ble_eq_true rfl⟩, hC.t _ lk_X4_hang_nX0_add, hC.t _ lk_X4_hang_zX0_add⟩ (As := [.int (x1), .int (x2)]) (by decide) (k_E1 _ _ _) rfl rfl rfl hl.1 (Nat.le_of_ble_eq_true rfl) dX4_hang_85 ⟨by decide, by decide⟩) (fun H locs hw => ?_)
                obtain ⟨rfl, rfl, rfl⟩ := sm3 h
                exact x_xiret hC hw hr hlocks (by decide) (by decide) dX4_hang_88
              · have h := it_f h hc
                obtain ⟨rfl, rfl, rfl⟩ := sm3 h
                exact x_throw hC hw hout hlocks hl.1 (text := "6 cords hang from this one") (by decide +kernel) lk_X4_hang_c61 lk_X4_hang_i61 (by decide +kernel) xa_X4_hang_65 xb_65 xo_65_61 rfl (by decide) dX4_hang_69 dX4_hang_72 dX4_hang_73 dX4_hang_75 dX4_hang_78 (by decide) (by decide) (by decide) (by decide) (by decide) (by decide)
          · have h := it_t h hc
            obtain ⟨rfl, rfl, rfl⟩ := sm3 h
            exact x_throw hC hw hout hlocks hl.1 (text := "there are 16 cords") (by decide +kernel) lk_X4_hang_c61 lk_X4_hang_i61 (by decide +kernel) xa_X4_hang_65 xb_65 xo_65_61 rfl (by decide) dX4_hang_41 dX4_hang_44 dX4_hang_45 dX4_hang_47 dX4_hang_50 (by decide) (by decide) (by decide) (by decide) (by decide) (by decide)
        · have h := it_f h hc
          obtain ⟨rfl, rfl, rfl⟩ := sm3 h
          exact x_throw hC hw hout hlocks hl.1 (text := "no such strand") (by decide +kernel) lk_X4_hang_c51 lk_X4_hang_i51 (by decide +kernel) xa_X4_hang_55 xb_55 xo_55_51 rfl (by decide) dX4_hang_19 dX4_hang_22 dX4_hang_23 dX4_hang_25 dX4_hang_28 (by decide) (by decide) (by decide) (by decide) (by decide) (by decide)
abbrev rm_X4_tie : Room := { frames := 7, cells := 2, slots := 12, locals := 103 }
theorem in_X4_tie_X4 : ∀ w ∈ wsX40, w ∈ wsX4_tie := fun _ h => List.mem_cons_of_mem _ (List.mem_append_left _ (List.mem_append_left _ (List.mem_append_left _ (List.mem_append_left _ (List.mem_append_right _ (h))))))
set_option maxRecDepth 20000 in
theorem lk_X4_tie_c51 : Cond.classLink RX4 51 "java/lang/IllegalArgumentException" ∈ wsX4_tie := by decide +kernel
set_option maxRecDepth 20000 in
theorem lk_X4_tie_i51 : Cond.initialized "java/lang/IllegalArgumentException" ∈ wsX4_tie := by decide +kernel
set_option maxRecDepth 20000 in
theorem lk_X4_tie_f19 : Cond.fieldLink RX4 19 "KnotArchive" "nowKnots" "LKnotArchive$Knots;" ∈ wsX4_tie := by decide +kernel
set_option maxRecDepth 20000 in
theorem lk_X4_tie_iX1 : Cond.initialized RX1 ∈ wsX4_tie := by decide +kernel
set_option maxRecDepth 20000 in
theorem lk_X4_tie_nX1_digits : Cond.instanceMethod yX1_digits ∈ wsX4_tie := by decide +kernel
set_option maxRecDepth 20000 in
theorem lk_X4_tie_zX1_digits : Cond.selects RX1 yX1_digits yX1_digits ∈ wsX4_tie := by decide +kernel
set_option maxRecDepth 20000 in
theorem lk_X4_tie_nX1_tieAll : Cond.instanceMethod yX1_tieAll ∈ wsX4_tie := by decide +kernel
set_option maxRecDepth 20000 in
theorem lk_X4_tie_zX1_tieAll : Cond.selects RX1 yX1_tieAll yX1_tieAll ∈ wsX4_tie := by decide +kernel
theorem xa_X4_tie_55 : ∀ w ∈ (vx_atS RX4 55 "java/lang/IllegalArgumentException" k_nms).filter goodWord, w ∈ wsX4_tie := fun _ h => List.mem_cons_of_mem _ (List.mem_append_left _ (List.mem_append_right _ (h)))
set_option maxRecDepth 100000 in
set_option maxHeartbeats 4000000 in
theorem c_X4_tie {Γ : k_Pm} {l : Launch} (hl0 : l.stackTraces = false) {x1 : Int32} {x2 : Int32}  {g : Gt} {k : Nat} {r : Int32} {g2 : Gt} (h : f_X4_tie x1 x2 g = some (k, r, g2)) : k_CXI Γ l yX4_tie wsX4_tie rm_X4_tie [.ref (k_ad Γ 0 (0)), .int (x1), .int (x2)] g k r g2 := by
  intro sz
  refine vx_ofW (cc := cX4_tie) (maxL := 4) (ret := (some .int)) (by decide) rfl ?_
  intro p e s m args below meth c s₁ B hml hout hv
  obtain ⟨rfl, rfl, hP, hKS⟩ := hv
  have hr := B.returns
  have hlocks := B.notSynchronized
  have hC : k_C Γ (k_A Γ s.heap.size) p l s m _ c cX4_tie 4 wsX4_tie RX4 := k_C.of ⟨B.exec, B.bytes, hml, findClass_of_methodNamed B.named, atoms_spec (ws := wsX4_tie) B.pre⟩ hKS hl0
  have hw : k_St Γ (k_A Γ s.heap.size) s [] g s.heap [] := k_St.of hKS hP
  have hl := lv_entry ([.ref (k_ad Γ 0 (0)), .int (x1), .int (x2)] : List Value) (n := 4) (Nat.le_of_ble_eq_true rfl)
  rw [lg_entry_eq]
  generalize (lg_sl ([.ref (k_ad Γ 0 (0)), .int (x1), .int (x2)] : List Value) ++ List.replicate (4 - (lg_sl ([.ref (k_ad Γ 0 (0)), .int (x1), .int (x2)] : List Value)).length) Slot.unset).toArray = ls at hl ⊢
  have hl : lv_has ls 4 [(0, .ref (k_ad Γ 0 (0))), (1, .int (x1)), (2, .int (x2))] := hl
  change W p l e rm_X4_tie _ _ _ _ _ _ _ _ _ _ _ _
  unfold f_X4_tie at h
  refine lv_aload_n hC.x hC.b dX4_tie_0 rfl (lv_at hl 0 rfl) ?_
  refine lv_iload_n hC.x hC.b dX4_tie_1 rfl (lv_at hl 1 rfl) ?_
  obtain ⟨k2, g2, hq, h⟩ := bd2_t h
  refine x_goxv hC hw (x_runxV hC hw (c_X4_checkCord (Γ := Γ) (l := l) hC.2.2.2.2 hq) (cwV 1 hC.t gX4_tie_X4_checkCord rfl rfl rfl (by decide +kernel) ⟨Nat.le_of_ble_eq_true rfl, Nat.le_of_ble_eq_true rfl⟩) (As := [.int (x1)]) (by decide) (k_E0 _ _ _) rfl rfl rfl hl.1 (Nat.le_of_ble_eq_true rfl) dX4_tie_2 ⟨by decide, by decide⟩) (fun E ce q9 H locs hk hE hw hce hcv hcl => ?_) (fun hk H locs hw => ?_)
  · have h := it_f h hk
    obtain ⟨rfl, rfl, rfl⟩ := sm3 h
    exact x_out hw hout hlocks hk hE hce hcv hcl (by decide) (by decide)
  · have h := it_t h hk
    refine lv_iload_n hC.x hC.b dX4_tie_5 rfl (lv_at hl 2 rfl) ?_
    refine lv_if_lt (tgt := 16) hC.x hC.b dX4_tie_6 (by decide) (fun hc => ?_) (fun hc => ?_)
    · have h := it_t h hc
      obtain ⟨rfl, rfl, rfl⟩ := sm3 h
      exact x_throw hC hw hout hlocks hl.1 (text := "no number of four digits") (by decide +kernel) lk_X4_tie_c51 lk_X4_tie_i51 (by decide +kernel) xa_X4_tie_55 xb_55 xo_55_51 rfl (by decide) dX4_tie_16 dX4_tie_19 dX4_tie_20 dX4_tie_22 dX4_tie_25 (by decide) (by decide) (by decide) (by decide) (by decide) (by decide)
    · have h := it_f h hc
      refine lv_iload_n hC.x hC.b dX4_tie_9 rfl (lv_at hl 2 rfl) ?_
      refine lv_sipush (v := (9999 : Int32)) hC.x hC.b dX4_tie_10 (by decide) ?_
      refine lv_icmp_le (tgt := 26) hC.x hC.b dX4_tie_13 (by decide) (fun hc => ?_) (fun hc => ?_)
      · have h := it_t h hc
        refine lv_aload_n hC.x hC.b dX4_tie_26 rfl (lv_at hl 0 rfl) ?_
        refine x_get hC hw (k := 1) (T := TX4) (by decide) (k_E0 _ _ _) in_X4_tie_X4 rfl (by decide) lk_X4_tie_f19 rfl rfl dX4_tie_27 ?_
        refine lv_iload_n hC.x hC.b dX4_tie_30 rfl (lv_at hl 1 rfl) ?_
        obtain ⟨r31, g31, hq, h⟩ := bd2_t h
        refine x_goi hC hw (x_runN hC hw (c_X1_digits (Γ := Γ) (l := l) hC.2.2.2.2 (by decide) hq) ⟨va_cnB 1 hC.t gX4_tie_X1_digits_n78 rfl rfl rfl (hC.w nw_m_X4_78) (hC.t _ lk_X4_tie_iX1) (by decide +kernel) ⟨Nat.le_of_ble_eq_true rfl, Nat.le_of_ble_eq_true rfl⟩, hC.t _ lk_X4_tie_nX1_digits, hC.t _ lk_X4_tie_zX1_digits⟩ (As := [.int (x1)]) (by decide) (k_E2 _ _ _) rfl rfl rfl hl.1 (Nat.le_of_ble_eq_true rfl) dX4_tie_31 ⟨by decide, by decide⟩) (fun H locs hw => ?_)
        refine lv_istore_n (lv' := [(3, .int (r31)), (0, .ref (k_ad Γ 0 (0))), (1, .int (x1)), (2, .int (x2))]) hC.x hC.b dX4_tie_34 rfl hl (by decide) rfl (fun ls hl => ?_)
        refine lv_aload_n hC.x hC.b dX4_tie_35 rfl (lv_at hl 1 rfl) ?_
        refine x_get hC hw (k := 1) (T := TX4) (by decide) (k_E0 _ _ _) in_X4_tie_X4 rfl (by decide) lk_X4_tie_f19 rfl rfl dX4_tie_36 ?_
        refine lv_iload_n hC.x hC.b dX4_tie_39 rfl (lv_at hl 2 rfl) ?_
        refine lv_iload_n hC.x hC.b dX4_tie_40 rfl (lv_at hl 3 rfl) ?_
        obtain ⟨g41, hq, h⟩ := bd1_t h
        refine x_gov hC hw (x_runN hC hw (c_X1_tieAll (Γ := Γ) (l := l) hC.2.2.2.2 (by decide) hq) ⟨va_cnB 2 hC.t gX4_tie_X1_tieAll_n81 rfl rfl rfl (hC.w nw_m_X4_81) (hC.t _ lk_X4_tie_iX1) (by decide +kernel) ⟨Nat.le_of_ble_eq_true rfl, Nat.le_of_ble_eq_true rfl⟩, hC.t _ lk_X4_tie_nX1_tieAll, hC.t _ lk_X4_tie_zX1_tieAll⟩ (As := [.int (x1), .int (x2)]) (by decide) (k_E2 _ _ _) rfl rfl rfl hl.1 (Nat.le_of_ble_eq_true rfl) dX4_tie_41 ⟨by decide, by decide⟩) (fun H locs hw => ?_)
        refine lv_iload_n hC.x hC.b dX4_tie_44 rfl (lv_at hl 0 rfl) ?_
        obtain ⟨rfl, rfl, rfl⟩ := sm3 h
        exact x_xiret hC hw hr hlocks (by decide) (by decide) dX4_tie_45
      · have h := it_f h hc
        obtain ⟨rfl, rfl, rfl⟩ := sm3 h
        exact x_throw hC hw hout hlocks hl.1 (text := "no number of four digits") (by decide +kernel) lk_X4_tie_c51 lk_X4_tie_i51 (by decide +kernel) xa_X4_tie_55 xb_55 xo_55_51 rfl (by decide) dX4_tie_16 dX4_tie_19 dX4_tie_20 dX4_tie_22 dX4_tie_25 (by decide) (by decide) (by decide) (by decide) (by decide) (by decide)
abbrev rm_X4_checkWitness : Room := { frames := 6, cells := 1, slots := 6, locals := 82 }
theorem in_X4_checkWitness_X4 : ∀ w ∈ wsX40, w ∈ wsX4_checkWitness := fun _ h => List.mem_cons_of_mem _ (List.mem_append_left _ (List.mem_append_left _ (List.mem_append_right _ (h))))
theorem in_X4_checkWitness_X3 : ∀ w ∈ wsX30, w ∈ wsX4_checkWitness := fun _ h => List.mem_cons_of_mem _ (List.mem_append_left _ (List.mem_append_right _ (h)))
set_option maxRecDepth 20000 in
theorem lk_X4_checkWitness_c157 : Cond.classLink RX4 157 "java/lang/IndexOutOfBoundsException" ∈ wsX4_checkWitness := by decide +kernel
set_option maxRecDepth 20000 in
theorem lk_X4_checkWitness_i157 : Cond.initialized "java/lang/IndexOutOfBoundsException" ∈ wsX4_checkWitness := by decide +kernel
set_option maxRecDepth 20000 in
theorem lk_X4_checkWitness_f29 : Cond.fieldLink RX4 29 "KnotArchive" "witnesses" "LKnotArchive$Witnesses;" ∈ wsX4_checkWitness := by decide +kernel
theorem xa_X4_checkWitness_161 : ∀ w ∈ (vx_atS RX4 161 "java/lang/IndexOutOfBoundsException" k_nms).filter goodWord, w ∈ wsX4_checkWitness := fun _ h => List.mem_cons_of_mem _ (List.mem_append_right _ (h))
set_option maxRecDepth 100000 in
set_option maxHeartbeats 4000000 in
theorem c_X4_checkWitness {Γ : k_Pm} {l : Launch} (hl0 : l.stackTraces = false) {x1 : Int32}  {g : Gt} {k : Nat} {g2 : Gt} (h : f_X4_checkWitness x1 g = some (k, g2)) : k_CXV Γ l yX4_checkWitness wsX4_checkWitness rm_X4_checkWitness [.ref (k_ad Γ 0 (0)), .int (x1)] g k g2 := by
  intro sz
  refine vx_ofW (cc := cX4_checkWitness) (maxL := 2) (ret := none) (by decide) rfl ?_
  intro p e s m args below meth c s₁ B hml hout hv
  obtain ⟨rfl, rfl, hP, hKS⟩ := hv
  have hr := B.returns
  have hlocks := B.notSynchronized
  have hC : k_C Γ (k_A Γ s.heap.size) p l s m _ c cX4_checkWitness 2 wsX4_checkWitness RX4 := k_C.of ⟨B.exec, B.bytes, hml, findClass_of_methodNamed B.named, atoms_spec (ws := wsX4_checkWitness) B.pre⟩ hKS hl0
  have hw : k_St Γ (k_A Γ s.heap.size) s [] g s.heap [] := k_St.of hKS hP
  have hl := lv_entry ([.ref (k_ad Γ 0 (0)), .int (x1)] : List Value) (n := 2) (Nat.le_of_ble_eq_true rfl)
  rw [lg_entry_eq]
  generalize (lg_sl ([.ref (k_ad Γ 0 (0)), .int (x1)] : List Value) ++ List.replicate (2 - (lg_sl ([.ref (k_ad Γ 0 (0)), .int (x1)] : List Value)).length) Slot.unset).toArray = ls at hl ⊢
  have hl : lv_has ls 2 [(0, .ref (k_ad Γ 0 (0))), (1, .int (x1))] := hl
  change W p l e rm_X4_checkWitness _ _ _ _ _ _ _ _ _ _ _ _
  unfold f_X4_checkWitness at h
  refine lv_iload_n hC.x hC.b dX4_checkWitness_0 rfl (lv_at hl 1 rfl) ?_
  refine lv_if_lt (tgt := 15) hC.x hC.b dX4_checkWitness_1 (by decide) (fun hc => ?_) (fun hc => ?_)
  · have h := it_t h hc
    obtain ⟨rfl, rfl⟩ := sm2 h
    exact x_throw hC hw hout hlocks hl.1 (text := "no such witness") (by decide +kernel) lk_X4_checkWitness_c157 lk_X4_checkWitness_i157 (by decide +kernel) xa_X4_checkWitness_161 xb_161 xo_161_157 rfl (by decide) dX4_checkWitness_15 dX4_checkWitness_18 dX4_checkWitness_19 dX4_checkWitness_21 dX4_checkWitness_24 (by decide) (by decide) (by decide) (by decide) (by decide) (by decide)
  · have h := it_f h hc
    refine lv_iload_n hC.x hC.b dX4_checkWitness_4 rfl (lv_at hl 1 rfl) ?_
    refine lv_aload_n hC.x hC.b dX4_checkWitness_5 rfl (lv_at hl 0 rfl) ?_
    refine x_get hC hw (k := 3) (T := TX4) (by decide) (k_E0 _ _ _) in_X4_checkWitness_X4 rfl (by decide) lk_X4_checkWitness_f29 rfl rfl dX4_checkWitness_6 ?_
    refine x_getN hC hw (k := 3) (T := TX3) (by decide) (k_E3 _ _ _) in_X4_checkWitness_X3 rfl (by decide) nw_f_X4_125 rfl rfl dX4_checkWitness_9 ?_
    refine lv_icmp_lt (tgt := 25) hC.x hC.b dX4_checkWitness_12 (by decide) (fun hc => ?_) (fun hc => ?_)
    · have h := it_t h hc
      obtain ⟨rfl, rfl⟩ := sm2 h
      exact x_xvret hC hw hr hlocks (by decide) (by decide) dX4_checkWitness_25
    · have h := it_f h hc
      obtain ⟨rfl, rfl⟩ := sm2 h
      exact x_throw hC hw hout hlocks hl.1 (text := "no such witness") (by decide +kernel) lk_X4_checkWitness_c157 lk_X4_checkWitness_i157 (by decide +kernel) xa_X4_checkWitness_161 xb_161 xo_161_157 rfl (by decide) dX4_checkWitness_15 dX4_checkWitness_18 dX4_checkWitness_19 dX4_checkWitness_21 dX4_checkWitness_24 (by decide) (by decide) (by decide) (by decide) (by decide) (by decide)
abbrev rm_X4_checkPlace : Room := { frames := 6, cells := 1, slots := 6, locals := 82 }
set_option maxRecDepth 20000 in
theorem lk_X4_checkPlace_c157 : Cond.classLink RX4 157 "java/lang/IndexOutOfBoundsException" ∈ wsX4_checkPlace := by decide +kernel
set_option maxRecDepth 20000 in
theorem lk_X4_checkPlace_i157 : Cond.initialized "java/lang/IndexOutOfBoundsException" ∈ wsX4_checkPlace := by decide +kernel
theorem xa_X4_checkPlace_161 : ∀ w ∈ (vx_atS RX4 161 "java/lang/IndexOutOfBoundsException" k_nms).filter goodWord, w ∈ wsX4_checkPlace := fun _ h => List.mem_cons_of_mem _ (List.mem_append_right _ (h))
set_option maxRecDepth 100000 in
set_option maxHeartbeats 4000000 in
theorem c_X4_checkPlace {Γ : k_Pm} {l : Launch} (hl0 : l.stackTraces = false) {x0 : Int32}  {g : Gt} {k : Nat} {g2 : Gt} (h : f_X4_checkPlace x0 g = some (k, g2)) : k_CXV Γ l yX4_checkPlace wsX4_checkPlace rm_X4_checkPlace [.int (x0)] g k g2 := by
  intro sz
  refine vx_ofW (cc := cX4_checkPlace) (maxL := 1) (ret := none) (by decide) rfl ?_
  intro p e s m args below meth c s₁ B hml hout hv
  obtain ⟨rfl, rfl, hP, hKS⟩ := hv
  have hr := B.returns
  have hlocks := B.notSynchronized
  have hC : k_C Γ (k_A Γ s.heap.size) p l s m _ c cX4_checkPlace 1 wsX4_checkPlace RX4 := k_C.of ⟨B.exec, B.bytes, hml, findClass_of_methodNamed B.named, atoms_spec (ws := wsX4_checkPlace) B.pre⟩ hKS hl0
  have hw : k_St Γ (k_A Γ s.heap.size) s [] g s.heap [] := k_St.of hKS hP
  have hl := lv_entry ([.int (x0)] : List Value) (n := 1) (Nat.le_of_ble_eq_true rfl)
  rw [lg_entry_eq]
  generalize (lg_sl ([.int (x0)] : List Value) ++ List.replicate (1 - (lg_sl ([.int (x0)] : List Value)).length) Slot.unset).toArray = ls at hl ⊢
  have hl : lv_has ls 1 [(0, .int (x0))] := hl
  change W p l e rm_X4_checkPlace _ _ _ _ _ _ _ _ _ _ _ _
  unfold f_X4_checkPlace at h
  refine lv_iload_n hC.x hC.b dX4_checkPlace_0 rfl (lv_at hl 0 rfl) ?_
  refine lv_if_lt (tgt := 9) hC.x hC.b dX4_checkPlace_1 (by decide) (fun hc => ?_) (fun hc => ?_)
  · have h := it_t h hc
    obtain ⟨rfl, rfl⟩ := sm2 h
    exact x_throw hC hw hout hlocks hl.1 (text := "no such place") (by decide +kernel) lk_X4_checkPlace_c157 lk_X4_checkPlace_i157 (by decide +kernel) xa_X4_checkPlace_161 xb_161 xo_161_157 rfl (by decide) dX4_checkPlace_9 dX4_checkPlace_12 dX4_checkPlace_13 dX4_checkPlace_15 dX4_checkPlace_18 (by decide) (by decide) (by decide) (by decide) (by decide) (by decide)
  · have h := it_f h hc
    refine lv_iload_n hC.x hC.b dX4_checkPlace_4 rfl (lv_at hl 0 rfl) ?_
    refine lv_iconst (v := (4 : Int32)) hC.x hC.b dX4_checkPlace_5 (by decide) ?_
    refine lv_icmp_lt (tgt := 19) hC.x hC.b dX4_checkPlace_6 (by decide) (fun hc => ?_) (fun hc => ?_)
    · have h := it_t h hc
      obtain ⟨rfl, rfl⟩ := sm2 h
      exact x_xvret hC hw hr hlocks (by decide) (by decide) dX4_checkPlace_19
    · have h := it_f h hc
      obtain ⟨rfl, rfl⟩ := sm2 h
      exact x_throw hC hw hout hlocks hl.1 (text := "no such place") (by decide +kernel) lk_X4_checkPlace_c157 lk_X4_checkPlace_i157 (by decide +kernel) xa_X4_checkPlace_161 xb_161 xo_161_157 rfl (by decide) dX4_checkPlace_9 dX4_checkPlace_12 dX4_checkPlace_13 dX4_checkPlace_15 dX4_checkPlace_18 (by decide) (by decide) (by decide) (by decide) (by decide) (by decide)
abbrev rm_X4_untie : Room := { frames := 7, cells := 4, slots := 24, locals := 103 }
theorem in_X4_untie_X4 : ∀ w ∈ wsX40, w ∈ wsX4_untie := fun _ h => List.mem_cons_of_mem _ (List.mem_append_left _ (List.mem_append_left _ (List.mem_append_left _ (List.mem_append_left _ (List.mem_append_left _ (List.mem_append_left _ (List.mem_append_left _ (List.mem_append_right _ (h)))))))))
theorem in_X4_untie_X1 : ∀ w ∈ wsX10, w ∈ wsX4_untie := fun _ h => List.mem_cons_of_mem _ (List.mem_append_left _ (List.mem_append_left _ (List.mem_append_left _ (List.mem_append_left _ (List.mem_append_left _ (List.mem_append_left _ (List.mem_append_right _ (h))))))))
theorem in_X4_untie_X2 : ∀ w ∈ wsX20, w ∈ wsX4_untie := fun _ h => List.mem_cons_of_mem _ (List.mem_append_left _ (List.mem_append_left _ (List.mem_append_left _ (List.mem_append_left _ (List.mem_append_left _ (List.mem_append_right _ (h)))))))
set_option maxRecDepth 20000 in
theorem lk_X4_untie_c51 : Cond.classLink RX4 51 "java/lang/IllegalArgumentException" ∈ wsX4_untie := by decide +kernel
set_option maxRecDepth 20000 in
theorem lk_X4_untie_i51 : Cond.initialized "java/lang/IllegalArgumentException" ∈ wsX4_untie := by decide +kernel
set_option maxRecDepth 20000 in
theorem lk_X4_untie_f19 : Cond.fieldLink RX4 19 "KnotArchive" "nowKnots" "LKnotArchive$Knots;" ∈ wsX4_untie := by decide +kernel
set_option maxRecDepth 20000 in
theorem lk_X4_untie_f36 : Cond.fieldLink RX4 36 "KnotArchive" "untyings" "LKnotArchive$Untyings;" ∈ wsX4_untie := by decide +kernel
set_option maxRecDepth 20000 in
theorem lk_X4_untie_f40 : Cond.fieldLink RX4 40 "KnotArchive" "year" "I" ∈ wsX4_untie := by decide +kernel
set_option maxRecDepth 20000 in
theorem lk_X4_untie_iX2 : Cond.initialized RX2 ∈ wsX4_untie := by decide +kernel
set_option maxRecDepth 20000 in
theorem lk_X4_untie_nX2_write : Cond.instanceMethod yX2_write ∈ wsX4_untie := by decide +kernel
set_option maxRecDepth 20000 in
theorem lk_X4_untie_zX2_write : Cond.selects RX2 yX2_write yX2_write ∈ wsX4_untie := by decide +kernel
set_option maxRecDepth 20000 in
theorem lk_X4_untie_iX1 : Cond.initialized RX1 ∈ wsX4_untie := by decide +kernel
set_option maxRecDepth 20000 in
theorem lk_X4_untie_nX1_digits : Cond.instanceMethod yX1_digits ∈ wsX4_untie := by decide +kernel
set_option maxRecDepth 20000 in
theorem lk_X4_untie_zX1_digits : Cond.selects RX1 yX1_digits yX1_digits ∈ wsX4_untie := by decide +kernel
set_option maxRecDepth 20000 in
theorem lk_X4_untie_c61 : Cond.classLink RX4 61 "java/lang/IllegalStateException" ∈ wsX4_untie := by decide +kernel
set_option maxRecDepth 20000 in
theorem lk_X4_untie_i61 : Cond.initialized "java/lang/IllegalStateException" ∈ wsX4_untie := by decide +kernel
theorem xa_X4_untie_55 : ∀ w ∈ (vx_atS RX4 55 "java/lang/IllegalArgumentException" k_nms).filter goodWord, w ∈ wsX4_untie := fun _ h => List.mem_cons_of_mem _ (List.mem_append_left _ (List.mem_append_left _ (List.mem_append_right _ (h))))
theorem xa_X4_untie_65 : ∀ w ∈ (vx_atS RX4 65 "java/lang/IllegalStateException" k_nms).filter goodWord, w ∈ wsX4_untie := fun _ h => List.mem_cons_of_mem _ (List.mem_append_left _ (List.mem_append_right _ (h)))
set_option maxRecDepth 100000 in
set_option maxHeartbeats 4000000 in
theorem c_X4_untie {Γ : k_Pm} {l : Launch} (hl0 : l.stackTraces = false) {x1 : Int32} {x2 : Int32} {x3 : Int32} {x4 : Int32}  {g : Gt} {k : Nat} {r : Int32} {g2 : Gt} (h : f_X4_untie x1 x2 x3 x4 g = some (k, r, g2)) : k_CXI Γ l yX4_untie wsX4_untie rm_X4_untie [.ref (k_ad Γ 0 (0)), .int (x1), .int (x2), .int (x3), .int (x4)] g k r g2 := by
  intro sz
  refine vx_ofW (cc := cX4_untie) (maxL := 5) (ret := (some .int)) (by decide) rfl ?_
  intro p e s m args below meth c s₁ B hml hout hv
  obtain ⟨rfl, rfl, hP, hKS⟩ := hv
  have hr := B.returns
  have hlocks := B.notSynchronized
  have hC : k_C Γ (k_A Γ s.heap.size) p l s m _ c cX4_untie 5 wsX4_untie RX4 := k_C.of ⟨B.exec, B.bytes, hml, findClass_of_methodNamed B.named, atoms_spec (ws := wsX4_untie) B.pre⟩ hKS hl0
  have hw : k_St Γ (k_A Γ s.heap.size) s [] g s.heap [] := k_St.of hKS hP
  have hl := lv_entry ([.ref (k_ad Γ 0 (0)), .int (x1), .int (x2), .int (x3), .int (x4)] : List Value) (n := 5) (Nat.le_of_ble_eq_true rfl)
  rw [lg_entry_eq]
  generalize (lg_sl ([.ref (k_ad Γ 0 (0)), .int (x1), .int (x2), .int (x3), .int (x4)] : List Value) ++ List.replicate (5 - (lg_sl ([.ref (k_ad Γ 0 (0)), .int (x1), .int (x2), .int (x3), .int (x4)] : List Value)).length) Slot.unset).toArray = ls at hl ⊢
  have hl : lv_has ls 5 [(0, .ref (k_ad Γ 0 (0))), (1, .int (x1)), (2, .int (x2)), (3, .int (x3)), (4, .int (x4))] := hl
  change W p l e rm_X4_untie _ _ _ _ _ _ _ _ _ _ _ _
  unfold f_X4_untie at h
  refine lv_aload_n hC.x hC.b dX4_untie_0 rfl (lv_at hl 0 rfl) ?_
  refine lv_iload_n hC.x hC.b dX4_untie_1 rfl (lv_at hl 1 rfl) ?_
  obtain ⟨k2, g2, hq, h⟩ := bd2_t h
  refine x_goxv hC hw (x_runxV hC hw (c_X4_checkWitness (Γ := Γ) (l := l) hC.2.2.2.2 hq) (cwV 1 hC.t gX4_untie_X4_checkWitness rfl rfl rfl (by decide +kernel) ⟨Nat.le_of_ble_eq_true rfl, Nat.le_of_ble_eq_true rfl⟩) (As := [.int (x1)]) (by decide) (k_E0 _ _ _) rfl rfl rfl hl.1 (Nat.le_of_ble_eq_true rfl) dX4_untie_2 ⟨by decide, by decide⟩) (fun E ce q9 H locs hk hE hw hce hcv hcl => ?_) (fun hk H locs hw => ?_)
  · have h := it_f h hk
    obtain ⟨rfl, rfl, rfl⟩ := sm3 h
    exact x_out hw hout hlocks hk hE hce hcv hcl (by decide) (by decide)
  · have h := it_t h hk
    refine lv_aload_n hC.x hC.b dX4_untie_5 rfl (lv_at hl 0 rfl) ?_
    refine lv_iload_n hC.x hC.b dX4_untie_6 rfl (lv_at hl 2 rfl) ?_
    obtain ⟨k7, g7, hq, h⟩ := bd2_t h
    refine x_goxv hC hw (x_runxV hC hw (c_X4_checkCord (Γ := Γ) (l := l) hC.2.2.2.2 hq) (cwV 1 hC.t gX4_untie_X4_checkCord rfl rfl rfl (by decide +kernel) ⟨Nat.le_of_ble_eq_true rfl, Nat.le_of_ble_eq_true rfl⟩) (As := [.int (x2)]) (by decide) (k_E0 _ _ _) rfl rfl rfl hl.1 (Nat.le_of_ble_eq_true rfl) dX4_untie_7 ⟨by decide, by decide⟩) (fun E ce q9 H locs hk hE hw hce hcv hcl => ?_) (fun hk H locs hw => ?_)
    · have h := it_f h hk
      obtain ⟨rfl, rfl, rfl⟩ := sm3 h
      exact x_out hw hout hlocks hk hE hce hcv hcl (by decide) (by decide)
    · have h := it_t h hk
      refine lv_iload_n hC.x hC.b dX4_untie_10 rfl (lv_at hl 3 rfl) ?_
      obtain ⟨k11, g11, hq, h⟩ := bd2_t h
      refine x_goxv hC hw (x_runxS hC hw (c_X4_checkPlace (Γ := Γ) (l := l) hC.2.2.2.2 hq) (va_cwS 1 hC.t gX4_untie_X4_checkPlace rfl rfl rfl (by decide +kernel) ⟨Nat.le_of_ble_eq_true rfl, Nat.le_of_ble_eq_true rfl⟩) (As := [.int (x3)]) rfl hl.1 (Nat.le_of_ble_eq_true rfl) dX4_untie_11 ⟨by decide, by decide⟩) (fun E ce q9 H locs hk hE hw hce hcv hcl => ?_) (fun hk H locs hw => ?_)
      · have h := it_f h hk
        obtain ⟨rfl, rfl, rfl⟩ := sm3 h
        exact x_out hw hout hlocks hk hE hce hcv hcl (by decide) (by decide)
      · have h := it_t h hk
        refine lv_iload hC.x hC.b dX4_untie_14 (lv_at hl 4 rfl) ?_
        refine lv_iconst (v := (1 : Int32)) hC.x hC.b dX4_untie_16 (by decide) ?_
        refine lv_icmp_lt (tgt := 27) hC.x hC.b dX4_untie_17 (by decide) (fun hc => ?_) (fun hc => ?_)
        · have h := it_t h hc
          obtain ⟨rfl, rfl, rfl⟩ := sm3 h
          exact x_throw hC hw hout hlocks hl.1 (text := "knots are untied 1 to 9 at once") (by decide +kernel) lk_X4_untie_c51 lk_X4_untie_i51 (by decide +kernel) xa_X4_untie_55 xb_55 xo_55_51 rfl (by decide) dX4_untie_27 dX4_untie_30 dX4_untie_31 dX4_untie_33 dX4_untie_36 (by decide) (by decide) (by decide) (by decide) (by decide) (by decide)
        · have h := it_f h hc
          refine lv_iload hC.x hC.b dX4_untie_20 (lv_at hl 4 rfl) ?_
          refine lv_bipush (v := (9 : Int32)) hC.x hC.b dX4_untie_22 (by decide) ?_
          refine lv_icmp_le (tgt := 37) hC.x hC.b dX4_untie_24 (by decide) (fun hc => ?_) (fun hc => ?_)
          · have h := it_t h hc
            refine lv_aload_n hC.x hC.b dX4_untie_37 rfl (lv_at hl 0 rfl) ?_
            refine x_get hC hw (k := 1) (T := TX4) (by decide) (k_E0 _ _ _) in_X4_untie_X4 rfl (by decide) lk_X4_untie_f19 rfl rfl dX4_untie_38 ?_
            refine x_getN hC hw (k := 0) (T := TX1) (by decide) (k_E2 _ _ _) in_X4_untie_X1 rfl (by decide) nw_f_X4_93 rfl rfl dX4_untie_41 ?_
            refine lv_iload_n hC.x hC.b dX4_untie_44 rfl (lv_at hl 2 rfl) ?_
            obtain ⟨hg1, h⟩ := gd_t h
            have hr1 := k_ci_lt (t := 14) (i := 0) rfl (by decide) hg1
            refine x_aald hC hw (t := 14) rfl (by decide) (by decide) hg1 dX4_untie_45 ?_
            refine lv_iload_n hC.x hC.b dX4_untie_46 rfl (lv_at hl 3 rfl) ?_
            obtain ⟨hg2, h⟩ := gd_t h
            refine x_iald hC hw rfl hr1 hg2 dX4_untie_47 ?_
            refine lv_iload hC.x hC.b dX4_untie_48 (lv_at hl 4 rfl) ?_
            refine lv_icmp_ge (tgt := 63) hC.x hC.b dX4_untie_50 (by decide) (fun hc => ?_) (fun hc => ?_)
            · have h := it_t h hc
              refine lv_aload_n hC.x hC.b dX4_untie_63 rfl (lv_at hl 0 rfl) ?_
              refine x_get hC hw (k := 4) (T := TX4) (by decide) (k_E0 _ _ _) in_X4_untie_X4 rfl (by decide) lk_X4_untie_f36 rfl rfl dX4_untie_64 ?_
              refine x_getN hC hw (k := 1) (T := TX2) (by decide) (k_E4 _ _ _) in_X4_untie_X2 rfl (by decide) nw_f_X4_99 rfl rfl dX4_untie_67 ?_
              refine lv_bipush (v := (30 : Int32)) hC.x hC.b dX4_untie_70 (by decide) ?_
              refine lv_icmp_ne (tgt := 85) hC.x hC.b dX4_untie_72 (by decide) (fun hc => ?_) (fun hc => ?_)
              · have h := it_f h hc
                refine lv_aload_n hC.x hC.b dX4_untie_85 rfl (lv_at hl 0 rfl) ?_
                refine x_get hC hw (k := 1) (T := TX4) (by decide) (k_E0 _ _ _) in_X4_untie_X4 rfl (by decide) lk_X4_untie_f19 rfl rfl dX4_untie_86 ?_
                refine x_getN hC hw (k := 0) (T := TX1) (by decide) (k_E2 _ _ _) in_X4_untie_X1 rfl (by decide) nw_f_X4_93 rfl rfl dX4_untie_89 ?_
                refine lv_iload_n hC.x hC.b dX4_untie_92 rfl (lv_at hl 2 rfl) ?_
                obtain ⟨hg3, h⟩ := gd_t h
                have hr2 := k_ci_lt (t := 14) (i := 0) rfl (by decide) hg3
                refine x_aald hC hw (t := 14) rfl (by decide) (by decide) hg3 dX4_untie_93 ?_
                refine lv_iload_n hC.x hC.b dX4_untie_94 rfl (lv_at hl 3 rfl) ?_
                refine lv_dup2_11 hC.x hC.b dX4_untie_95 rfl rfl ?_
                obtain ⟨hg4, h⟩ := gd_t h
                refine x_iald hC hw rfl hr2 hg4 dX4_untie_96 ?_
                refine lv_iload hC.x hC.b dX4_untie_97 (lv_at hl 4 rfl) ?_
                refine lv_isub hC.x hC.b dX4_untie_99 ?_
                obtain ⟨hg5, h⟩ := gd_t h
                refine x_iast hC hw rfl hr2 hg5 dX4_untie_100 (fun H locs hw => ?_)
                refine lv_aload_n hC.x hC.b dX4_untie_101 rfl (lv_at hl 0 rfl) ?_
                refine x_get hC hw (k := 4) (T := TX4) (by decide) (k_E0 _ _ _) in_X4_untie_X4 rfl (by decide) lk_X4_untie_f36 rfl rfl dX4_untie_102 ?_
                refine lv_iload_n hC.x hC.b dX4_untie_105 rfl (lv_at hl 1 rfl) ?_
                refine lv_iload_n hC.x hC.b dX4_untie_106 rfl (lv_at hl 2 rfl) ?_
                refine lv_iload_n hC.x hC.b dX4_untie_107 rfl (lv_at hl 3 rfl) ?_
                refine lv_iload hC.x hC.b dX4_untie_108 (lv_at hl 4 rfl) ?_
                refine lv_aload_n hC.x hC.b dX4_untie_110 rfl (lv_at hl 0 rfl) ?_
                refine x_get hC hw (k := 5) (T := TX4) (by decide) (k_E0 _ _ _) in_X4_untie_X4 rfl (by decide) lk_X4_untie_f40 rfl rfl dX4_untie_111 ?_
                obtain ⟨g114, hq, h⟩ := bd1_t h
                refine x_gov hC hw (x_runN hC hw (c_X2_write (Γ := Γ) (l := l) hC.2.2.2.2 hq) ⟨va_cnB 5 hC.t gX4_untie_X2_write_n102 rfl rfl rfl (hC.w nw_m_X4_102) (hC.t _ lk_X4_untie_iX2) (by decide +kernel) ⟨Nat.le_of_ble_eq_true rfl, Nat.le_of_ble_eq_true rfl⟩, hC.t _ lk_X4_untie_nX2_write, hC.t _ lk_X4_untie_zX2_write⟩ (As := [.int (x1), .int (x2), .int (x3), .int (x4), .int ((k_up g11 20 (16 * 0 + x2.toNatClampNeg) x3.toNatClampNeg ((g11 20 (16 * 0 + x2.toNatClampNeg) x3.toNatClampNeg) - x4)) 0 0 5)]) (by decide) (k_E4 _ _ _) rfl rfl rfl hl.1 (Nat.le_of_ble_eq_true rfl) dX4_untie_114 ⟨by decide, by decide⟩) (fun H locs hw => ?_)
                refine lv_aload_n hC.x hC.b dX4_untie_117 rfl (lv_at hl 0 rfl) ?_
                refine x_get hC hw (k := 1) (T := TX4) (by decide) (k_E0 _ _ _) in_X4_untie_X4 rfl (by decide) lk_X4_untie_f19 rfl rfl dX4_untie_118 ?_
                refine lv_iload_n hC.x hC.b dX4_untie_121 rfl (lv_at hl 2 rfl) ?_
                obtain ⟨r122, g122, hq, h⟩ := bd2_t h
                refine x_goi hC hw (x_runN hC hw (c_X1_digits (Γ := Γ) (l := l) hC.2.2.2.2 (by decide) hq) ⟨va_cnB 1 hC.t gX4_untie_X1_digits_n78 rfl rfl rfl (hC.w nw_m_X4_78) (hC.t _ lk_X4_untie_iX1) (by decide +kernel) ⟨Nat.le_of_ble_eq_true rfl, Nat.le_of_ble_eq_true rfl⟩, hC.t _ lk_X4_untie_nX1_digits, hC.t _ lk_X4_untie_zX1_digits⟩ (As := [.int (x2)]) (by decide) (k_E2 _ _ _) rfl rfl rfl hl.1 (Nat.le_of_ble_eq_true rfl) dX4_untie_122 ⟨by decide, by decide⟩) (fun H locs hw => ?_)
                obtain ⟨rfl, rfl, rfl⟩ := sm3 h
                exact x_xiret hC hw hr hlocks (by decide) (by decide) dX4_untie_125
              · have h := it_t h hc
                obtain ⟨rfl, rfl, rfl⟩ := sm3 h
                exact x_throw hC hw hout hlocks hl.1 (text := "30 untyings are written down") (by decide +kernel) lk_X4_untie_c61 lk_X4_untie_i61 (by decide +kernel) xa_X4_untie_65 xb_65 xo_65_61 rfl (by decide) dX4_untie_75 dX4_untie_78 dX4_untie_79 dX4_untie_81 dX4_untie_84 (by decide) (by decide) (by decide) (by decide) (by decide) (by decide)
            · have h := it_f h hc
              obtain ⟨rfl, rfl, rfl⟩ := sm3 h
              exact x_throw hC hw hout hlocks hl.1 (text := "there are not so many knots") (by decide +kernel) lk_X4_untie_c61 lk_X4_untie_i61 (by decide +kernel) xa_X4_untie_65 xb_65 xo_65_61 rfl (by decide) dX4_untie_53 dX4_untie_56 dX4_untie_57 dX4_untie_59 dX4_untie_62 (by decide) (by decide) (by decide) (by decide) (by decide) (by decide)
          · have h := it_f h hc
            obtain ⟨rfl, rfl, rfl⟩ := sm3 h
            exact x_throw hC hw hout hlocks hl.1 (text := "knots are untied 1 to 9 at once") (by decide +kernel) lk_X4_untie_c51 lk_X4_untie_i51 (by decide +kernel) xa_X4_untie_55 xb_55 xo_55_51 rfl (by decide) dX4_untie_27 dX4_untie_30 dX4_untie_31 dX4_untie_33 dX4_untie_36 (by decide) (by decide) (by decide) (by decide) (by decide) (by decide)
abbrev rm_X4_mend : Room := { frames := 7, cells := 1, slots := 6, locals := 103 }
theorem in_X4_mend_X4 : ∀ w ∈ wsX40, w ∈ wsX4_mend := fun _ h => List.mem_cons_of_mem _ (List.mem_append_left _ (List.mem_append_left _ (List.mem_append_left _ (List.mem_append_right _ (h)))))
set_option maxRecDepth 20000 in
theorem lk_X4_mend_f19 : Cond.fieldLink RX4 19 "KnotArchive" "nowKnots" "LKnotArchive$Knots;" ∈ wsX4_mend := by decide +kernel
set_option maxRecDepth 20000 in
theorem lk_X4_mend_iX1 : Cond.initialized RX1 ∈ wsX4_mend := by decide +kernel
set_option maxRecDepth 20000 in
theorem lk_X4_mend_nX1_allFrays : Cond.instanceMethod yX1_allFrays ∈ wsX4_mend := by decide +kernel
set_option maxRecDepth 20000 in
theorem lk_X4_mend_zX1_allFrays : Cond.selects RX1 yX1_allFrays yX1_allFrays ∈ wsX4_mend := by decide +kernel
set_option maxRecDepth 20000 in
theorem lk_X4_mend_nX1_clearFrays : Cond.instanceMethod yX1_clearFrays ∈ wsX4_mend := by decide +kernel
set_option maxRecDepth 20000 in
theorem lk_X4_mend_zX1_clearFrays : Cond.selects RX1 yX1_clearFrays yX1_clearFrays ∈ wsX4_mend := by decide +kernel
set_option maxRecDepth 100000 in
set_option maxHeartbeats 4000000 in
theorem c_X4_mend {Γ : k_Pm} {l : Launch} (hl0 : l.stackTraces = false) {x1 : Int32}  {g : Gt} {k : Nat} {r : Int32} {g2 : Gt} (h : f_X4_mend x1 g = some (k, r, g2)) : k_CXI Γ l yX4_mend wsX4_mend rm_X4_mend [.ref (k_ad Γ 0 (0)), .int (x1)] g k r g2 := by
  intro sz
  refine vx_ofW (cc := cX4_mend) (maxL := 3) (ret := (some .int)) (by decide) rfl ?_
  intro p e s m args below meth c s₁ B hml hout hv
  obtain ⟨rfl, rfl, hP, hKS⟩ := hv
  have hr := B.returns
  have hlocks := B.notSynchronized
  have hC : k_C Γ (k_A Γ s.heap.size) p l s m _ c cX4_mend 3 wsX4_mend RX4 := k_C.of ⟨B.exec, B.bytes, hml, findClass_of_methodNamed B.named, atoms_spec (ws := wsX4_mend) B.pre⟩ hKS hl0
  have hw : k_St Γ (k_A Γ s.heap.size) s [] g s.heap [] := k_St.of hKS hP
  have hl := lv_entry ([.ref (k_ad Γ 0 (0)), .int (x1)] : List Value) (n := 3) (Nat.le_of_ble_eq_true rfl)
  rw [lg_entry_eq]
  generalize (lg_sl ([.ref (k_ad Γ 0 (0)), .int (x1)] : List Value) ++ List.replicate (3 - (lg_sl ([.ref (k_ad Γ 0 (0)), .int (x1)] : List Value)).length) Slot.unset).toArray = ls at hl ⊢
  have hl : lv_has ls 3 [(0, .ref (k_ad Γ 0 (0))), (1, .int (x1))] := hl
  change W p l e rm_X4_mend _ _ _ _ _ _ _ _ _ _ _ _
  unfold f_X4_mend at h
  refine lv_aload_n hC.x hC.b dX4_mend_0 rfl (lv_at hl 0 rfl) ?_
  refine lv_iload_n hC.x hC.b dX4_mend_1 rfl (lv_at hl 1 rfl) ?_
  obtain ⟨k2, g2, hq, h⟩ := bd2_t h
  refine x_goxv hC hw (x_runxV hC hw (c_X4_checkCord (Γ := Γ) (l := l) hC.2.2.2.2 hq) (cwV 1 hC.t gX4_mend_X4_checkCord rfl rfl rfl (by decide +kernel) ⟨Nat.le_of_ble_eq_true rfl, Nat.le_of_ble_eq_true rfl⟩) (As := [.int (x1)]) (by decide) (k_E0 _ _ _) rfl rfl rfl hl.1 (Nat.le_of_ble_eq_true rfl) dX4_mend_2 ⟨by decide, by decide⟩) (fun E ce q9 H locs hk hE hw hce hcv hcl => ?_) (fun hk H locs hw => ?_)
  · have h := it_f h hk
    obtain ⟨rfl, rfl, rfl⟩ := sm3 h
    exact x_out hw hout hlocks hk hE hce hcv hcl (by decide) (by decide)
  · have h := it_t h hk
    refine lv_aload_n hC.x hC.b dX4_mend_5 rfl (lv_at hl 0 rfl) ?_
    refine x_get hC hw (k := 1) (T := TX4) (by decide) (k_E0 _ _ _) in_X4_mend_X4 rfl (by decide) lk_X4_mend_f19 rfl rfl dX4_mend_6 ?_
    refine lv_iload_n hC.x hC.b dX4_mend_9 rfl (lv_at hl 1 rfl) ?_
    obtain ⟨r10, g10, hq, h⟩ := bd2_t h
    refine x_goi hC hw (x_runN hC hw (c_X1_allFrays (Γ := Γ) (l := l) hC.2.2.2.2 (by decide) hq) ⟨va_cnB 1 hC.t gX4_mend_X1_allFrays_n106 rfl rfl rfl (hC.w nw_m_X4_106) (hC.t _ lk_X4_mend_iX1) (by decide +kernel) ⟨Nat.le_of_ble_eq_true rfl, Nat.le_of_ble_eq_true rfl⟩, hC.t _ lk_X4_mend_nX1_allFrays, hC.t _ lk_X4_mend_zX1_allFrays⟩ (As := [.int (x1)]) (by decide) (k_E2 _ _ _) rfl rfl rfl hl.1 (Nat.le_of_ble_eq_true rfl) dX4_mend_10 ⟨by decide, by decide⟩) (fun H locs hw => ?_)
    refine lv_istore_n (lv' := [(2, .int (r10)), (0, .ref (k_ad Γ 0 (0))), (1, .int (x1))]) hC.x hC.b dX4_mend_13 rfl hl (by decide) rfl (fun ls hl => ?_)
    refine lv_aload_n hC.x hC.b dX4_mend_14 rfl (lv_at hl 1 rfl) ?_
    refine x_get hC hw (k := 1) (T := TX4) (by decide) (k_E0 _ _ _) in_X4_mend_X4 rfl (by decide) lk_X4_mend_f19 rfl rfl dX4_mend_15 ?_
    refine lv_iload_n hC.x hC.b dX4_mend_18 rfl (lv_at hl 2 rfl) ?_
    obtain ⟨g19, hq, h⟩ := bd1_t h
    refine x_gov hC hw (x_runN hC hw (c_X1_clearFrays (Γ := Γ) (l := l) hC.2.2.2.2 (by decide) hq) ⟨va_cnB 1 hC.t gX4_mend_X1_clearFrays_n109 rfl rfl rfl (hC.w nw_m_X4_109) (hC.t _ lk_X4_mend_iX1) (by decide +kernel) ⟨Nat.le_of_ble_eq_true rfl, Nat.le_of_ble_eq_true rfl⟩, hC.t _ lk_X4_mend_nX1_clearFrays, hC.t _ lk_X4_mend_zX1_clearFrays⟩ (As := [.int (x1)]) (by decide) (k_E2 _ _ _) rfl rfl rfl hl.1 (Nat.le_of_ble_eq_true rfl) dX4_mend_19 ⟨by decide, by decide⟩) (fun H locs hw => ?_)
    refine lv_iload_n hC.x hC.b dX4_mend_22 rfl (lv_at hl 0 rfl) ?_
    obtain ⟨rfl, rfl, rfl⟩ := sm3 h
    exact x_xiret hC hw hr hlocks (by decide) (by decide) dX4_mend_23
abbrev rm_X4_checkWhat : Room := { frames := 6, cells := 1, slots := 6, locals := 82 }
set_option maxRecDepth 20000 in
theorem lk_X4_checkWhat_c157 : Cond.classLink RX4 157 "java/lang/IndexOutOfBoundsException" ∈ wsX4_checkWhat := by decide +kernel
set_option maxRecDepth 20000 in
theorem lk_X4_checkWhat_i157 : Cond.initialized "java/lang/IndexOutOfBoundsException" ∈ wsX4_checkWhat := by decide +kernel
theorem xa_X4_checkWhat_161 : ∀ w ∈ (vx_atS RX4 161 "java/lang/IndexOutOfBoundsException" k_nms).filter goodWord, w ∈ wsX4_checkWhat := fun _ h => List.mem_cons_of_mem _ (List.mem_append_right _ (h))
set_option maxRecDepth 100000 in
set_option maxHeartbeats 4000000 in
theorem c_X4_checkWhat {Γ : k_Pm} {l : Launch} (hl0 : l.stackTraces = false) {x0 : Int32} {x1 : Int32}  {g : Gt} {k : Nat} {g2 : Gt} (h : f_X4_checkWhat x0 x1 g = some (k, g2)) : k_CXV Γ l yX4_checkWhat wsX4_checkWhat rm_X4_checkWhat [.int (x0), .int (x1)] g k g2 := by
  intro sz
  refine vx_ofW (cc := cX4_checkWhat) (maxL := 2) (ret := none) (by decide) rfl ?_
  intro p e s m args below meth c s₁ B hml hout hv
  obtain ⟨rfl, rfl, hP, hKS⟩ := hv
  have hr := B.returns
  have hlocks := B.notSynchronized
  have hC : k_C Γ (k_A Γ s.heap.size) p l s m _ c cX4_checkWhat 2 wsX4_checkWhat RX4 := k_C.of ⟨B.exec, B.bytes, hml, findClass_of_methodNamed B.named, atoms_spec (ws := wsX4_checkWhat) B.pre⟩ hKS hl0
  have hw : k_St Γ (k_A Γ s.heap.size) s [] g s.heap [] := k_St.of hKS hP
  have hl := lv_entry ([.int (x0), .int (x1)] : List Value) (n := 2) (Nat.le_of_ble_eq_true rfl)
  rw [lg_entry_eq]
  generalize (lg_sl ([.int (x0), .int (x1)] : List Value) ++ List.replicate (2 - (lg_sl ([.int (x0), .int (x1)] : List Value)).length) Slot.unset).toArray = ls at hl ⊢
  have hl : lv_has ls 2 [(0, .int (x0)), (1, .int (x1))] := hl
  change W p l e rm_X4_checkWhat _ _ _ _ _ _ _ _ _ _ _ _
  unfold f_X4_checkWhat at h
  refine lv_iload_n hC.x hC.b dX4_checkWhat_0 rfl (lv_at hl 0 rfl) ?_
  refine lv_if_lt (tgt := 9) hC.x hC.b dX4_checkWhat_1 (by decide) (fun hc => ?_) (fun hc => ?_)
  · have h := it_t h hc
    obtain ⟨rfl, rfl⟩ := sm2 h
    exact x_throw hC hw hout hlocks hl.1 (text := "nothing is told by this number") (by decide +kernel) lk_X4_checkWhat_c157 lk_X4_checkWhat_i157 (by decide +kernel) xa_X4_checkWhat_161 xb_161 xo_161_157 rfl (by decide) dX4_checkWhat_9 dX4_checkWhat_12 dX4_checkWhat_13 dX4_checkWhat_15 dX4_checkWhat_18 (by decide) (by decide) (by decide) (by decide) (by decide) (by decide)
  · have h := it_f h hc
    refine lv_iload_n hC.x hC.b dX4_checkWhat_4 rfl (lv_at hl 0 rfl) ?_
    refine lv_iload_n hC.x hC.b dX4_checkWhat_5 rfl (lv_at hl 1 rfl) ?_
    refine lv_icmp_lt (tgt := 19) hC.x hC.b dX4_checkWhat_6 (by decide) (fun hc => ?_) (fun hc => ?_)
    · have h := it_t h hc
      obtain ⟨rfl, rfl⟩ := sm2 h
      exact x_xvret hC hw hr hlocks (by decide) (by decide) dX4_checkWhat_19
    · have h := it_f h hc
      obtain ⟨rfl, rfl⟩ := sm2 h
      exact x_throw hC hw hout hlocks hl.1 (text := "nothing is told by this number") (by decide +kernel) lk_X4_checkWhat_c157 lk_X4_checkWhat_i157 (by decide +kernel) xa_X4_checkWhat_161 xb_161 xo_161_157 rfl (by decide) dX4_checkWhat_9 dX4_checkWhat_12 dX4_checkWhat_13 dX4_checkWhat_15 dX4_checkWhat_18 (by decide) (by decide) (by decide) (by decide) (by decide) (by decide)
abbrev rm_X4_agrees : Room := { frames := 1, cells := 0, slots := 0, locals := 23 }
theorem in_X4_agrees_X4 : ∀ w ∈ wsX40, w ∈ wsX4_agrees := fun _ h => List.mem_cons_of_mem _ (List.mem_append_left _ (List.mem_append_left _ (List.mem_append_right _ (h))))
theorem in_X4_agrees_X0 : ∀ w ∈ wsX00, w ∈ wsX4_agrees := fun _ h => List.mem_cons_of_mem _ (List.mem_append_left _ (List.mem_append_right _ (h)))
set_option maxRecDepth 20000 in
theorem lk_X4_agrees_f10 : Cond.fieldLink RX4 10 "KnotArchive" "cords" "LKnotArchive$Cords;" ∈ wsX4_agrees := by decide +kernel
set_option maxRecDepth 20000 in
theorem lk_X4_agrees_iX0 : Cond.initialized RX0 ∈ wsX4_agrees := by decide +kernel
set_option maxRecDepth 20000 in
theorem lk_X4_agrees_nX0_hangingFrom : Cond.instanceMethod yX0_hangingFrom ∈ wsX4_agrees := by decide +kernel
set_option maxRecDepth 20000 in
theorem lk_X4_agrees_zX0_hangingFrom : Cond.selects RX0 yX0_hangingFrom yX0_hangingFrom ∈ wsX4_agrees := by decide +kernel
set_option maxRecDepth 20000 in
theorem lk_X4_agrees_f19 : Cond.fieldLink RX4 19 "KnotArchive" "nowKnots" "LKnotArchive$Knots;" ∈ wsX4_agrees := by decide +kernel
set_option maxRecDepth 20000 in
theorem lk_X4_agrees_iX1 : Cond.initialized RX1 ∈ wsX4_agrees := by decide +kernel
set_option maxRecDepth 20000 in
theorem lk_X4_agrees_nX1_digits : Cond.instanceMethod yX1_digits ∈ wsX4_agrees := by decide +kernel
set_option maxRecDepth 20000 in
theorem lk_X4_agrees_zX1_digits : Cond.selects RX1 yX1_digits yX1_digits ∈ wsX4_agrees := by decide +kernel
set_option maxRecDepth 100000 in
set_option maxHeartbeats 4000000 in
theorem c_X4_agrees {Γ : k_Pm} {l : Launch} (hl0 : l.stackTraces = false) {x1 : Int32}  {g : Gt} {r : Int32} {g2 : Gt} (h : f_X4_agrees x1 g = some (r, g2)) : k_CI Γ l yX4_agrees wsX4_agrees rm_X4_agrees [.ref (k_ad Γ 0 (0)), .int (x1)] g r g2 := by
  intro sz
  refine Met.ofW (cc := cX4_agrees) (maxL := 2) (ret := (some .boolean)) (by decide) rfl ?_
  intro p e s m args below meth c s₁ B hml hv
  obtain ⟨rfl, rfl, hP, hKS⟩ := hv
  have hr := B.returns
  have hlocks := B.notSynchronized
  have hC : k_C Γ (k_A Γ s.heap.size) p l s m _ c cX4_agrees 2 wsX4_agrees RX4 := k_C.of ⟨B.exec, B.bytes, hml, findClass_of_methodNamed B.named, atoms_spec (ws := wsX4_agrees) B.pre⟩ hKS hl0
  have hw : k_St Γ (k_A Γ s.heap.size) s [] g s.heap [] := k_St.of hKS hP
  have hl := lv_entry ([.ref (k_ad Γ 0 (0)), .int (x1)] : List Value) (n := 2) (Nat.le_of_ble_eq_true rfl)
  rw [lg_entry_eq]
  generalize (lg_sl ([.ref (k_ad Γ 0 (0)), .int (x1)] : List Value) ++ List.replicate (2 - (lg_sl ([.ref (k_ad Γ 0 (0)), .int (x1)] : List Value)).length) Slot.unset).toArray = ls at hl ⊢
  have hl : lv_has ls 2 [(0, .ref (k_ad Γ 0 (0))), (1, .int (x1))] := hl
  change W p l e rm_X4_agrees _ _ _ _ _ _ _ _ _ _ _ _
  unfold f_X4_agrees at h
  refine lv_aload_n hC.x hC.b dX4_agrees_0 rfl (lv_at hl 0 rfl) ?_
  refine x_get hC hw (k := 0) (T := TX4) (by decide) (k_E0 _ _ _) in_X4_agrees_X4 rfl (by decide) lk_X4_agrees_f10 rfl rfl dX4_agrees_1 ?_
  refine lv_iload_n hC.x hC.b dX4_agrees_4 rfl (lv_at hl 1 rfl) ?_
  obtain ⟨r5, g5, hq, h⟩ := bd2_t h
  refine x_goi hC hw (x_runN hC hw (c_X0_hangingFrom (Γ := Γ) (l := l) hC.2.2.2.2 hq) ⟨va_cnB 1 hC.t gX4_agrees_X0_hangingFrom_n66 rfl rfl rfl (hC.w nw_m_X4_66) (hC.t _ lk_X4_agrees_iX0) (by decide +kernel) ⟨Nat.le_of_ble_eq_true rfl, Nat.le_of_ble_eq_true rfl⟩, hC.t _ lk_X4_agrees_nX0_hangingFrom, hC.t _ lk_X4_agrees_zX0_hangingFrom⟩ (As := [.int (x1)]) (by decide) (k_E1 _ _ _) rfl rfl rfl hl.1 (Nat.le_of_ble_eq_true rfl) dX4_agrees_5 ⟨by decide, by decide⟩) (fun H locs hw => ?_)
  refine lv_if_eq (tgt := 31) hC.x hC.b dX4_agrees_8 (by decide) (fun hc => ?_) (fun hc => ?_)
  · have h := it_t h hc
    refine lv_iconst (v := (1 : Int32)) hC.x hC.b dX4_agrees_31 (by decide) ?_
    refine lv_goto (tgt := 36) hC.x hC.b dX4_agrees_32 (by decide) ?_
    obtain ⟨rfl, rfl⟩ := sm2 h
    exact x_zret hC hw hr hlocks rfl (by decide) (by decide) dX4_agrees_36
  · have h := it_f h hc
    refine lv_aload_n hC.x hC.b dX4_agrees_11 rfl (lv_at hl 0 rfl) ?_
    refine x_get hC hw (k := 1) (T := TX4) (by decide) (k_E0 _ _ _) in_X4_agrees_X4 rfl (by decide) lk_X4_agrees_f19 rfl rfl dX4_agrees_12 ?_
    refine lv_iload_n hC.x hC.b dX4_agrees_15 rfl (lv_at hl 1 rfl) ?_
    obtain ⟨r16, g16, hq, h⟩ := bd2_t h
    refine x_goi hC hw (x_runN hC hw (c_X1_digits (Γ := Γ) (l := l) hC.2.2.2.2 (by decide) hq) ⟨va_cnB 1 hC.t gX4_agrees_X1_digits_n78 rfl rfl rfl (hC.w nw_m_X4_78) (hC.t _ lk_X4_agrees_iX1) (by decide +kernel) ⟨Nat.le_of_ble_eq_true rfl, Nat.le_of_ble_eq_true rfl⟩, hC.t _ lk_X4_agrees_nX1_digits, hC.t _ lk_X4_agrees_zX1_digits⟩ (As := [.int (x1)]) (by decide) (k_E2 _ _ _) rfl rfl rfl hl.1 (Nat.le_of_ble_eq_true rfl) dX4_agrees_16 ⟨by decide, by decide⟩) (fun H locs hw => ?_)
    refine lv_aload_n hC.x hC.b dX4_agrees_19 rfl (lv_at hl 0 rfl) ?_
    refine x_get hC hw (k := 0) (T := TX4) (by decide) (k_E0 _ _ _) in_X4_agrees_X4 rfl (by decide) lk_X4_agrees_f10 rfl rfl dX4_agrees_20 ?_
    refine x_getN hC hw (k := 3) (T := TX0) (by decide) (k_E1 _ _ _) in_X4_agrees_X0 rfl (by decide) nw_f_X4_182 rfl rfl dX4_agrees_23 ?_
    refine lv_iload_n hC.x hC.b dX4_agrees_26 rfl (lv_at hl 1 rfl) ?_
    obtain ⟨hg1, h⟩ := gd_t h
    refine x_iald hC hw rfl (by decide) hg1 dX4_agrees_27 ?_
    refine lv_icmp_ne (tgt := 35) hC.x hC.b dX4_agrees_28 (by decide) (fun hc => ?_) (fun hc => ?_)
    · have h := it_f h hc
      refine lv_iconst (v := (0 : Int32)) hC.x hC.b dX4_agrees_35 (by decide) ?_
      obtain ⟨rfl, rfl⟩ := sm2 h
      exact x_zret hC hw hr hlocks rfl (by decide) (by decide) dX4_agrees_36
    · have h := it_t h hc
      refine lv_iconst (v := (1 : Int32)) hC.x hC.b dX4_agrees_31 (by decide) ?_
      refine lv_goto (tgt := 36) hC.x hC.b dX4_agrees_32 (by decide) ?_
      obtain ⟨rfl, rfl⟩ := sm2 h
      exact x_zret hC hw hr hlocks rfl (by decide) (by decide) dX4_agrees_36
abbrev rm_X4_cordDetail : Room := { frames := 2, cells := 0, slots := 0, locals := 44 }
theorem in_X4_cordDetail_X4 : ∀ w ∈ wsX40, w ∈ wsX4_cordDetail := fun _ h => List.mem_cons_of_mem _ (List.mem_append_left _ (List.mem_append_left _ (List.mem_append_right _ (h))))
theorem in_X4_cordDetail_X0 : ∀ w ∈ wsX00, w ∈ wsX4_cordDetail := fun _ h => List.mem_cons_of_mem _ (List.mem_append_left _ (List.mem_append_right _ (h)))
set_option maxRecDepth 20000 in
theorem lk_X4_cordDetail_f10 : Cond.fieldLink RX4 10 "KnotArchive" "cords" "LKnotArchive$Cords;" ∈ wsX4_cordDetail := by decide +kernel
set_option maxRecDepth 20000 in
theorem lk_X4_cordDetail_f19 : Cond.fieldLink RX4 19 "KnotArchive" "nowKnots" "LKnotArchive$Knots;" ∈ wsX4_cordDetail := by decide +kernel
set_option maxRecDepth 20000 in
theorem lk_X4_cordDetail_iX1 : Cond.initialized RX1 ∈ wsX4_cordDetail := by decide +kernel
set_option maxRecDepth 20000 in
theorem lk_X4_cordDetail_nX1_digits : Cond.instanceMethod yX1_digits ∈ wsX4_cordDetail := by decide +kernel
set_option maxRecDepth 20000 in
theorem lk_X4_cordDetail_zX1_digits : Cond.selects RX1 yX1_digits yX1_digits ∈ wsX4_cordDetail := by decide +kernel
set_option maxRecDepth 20000 in
theorem lk_X4_cordDetail_iX0 : Cond.initialized RX0 ∈ wsX4_cordDetail := by decide +kernel
set_option maxRecDepth 20000 in
theorem lk_X4_cordDetail_nX0_hangingFrom : Cond.instanceMethod yX0_hangingFrom ∈ wsX4_cordDetail := by decide +kernel
set_option maxRecDepth 20000 in
theorem lk_X4_cordDetail_zX0_hangingFrom : Cond.selects RX0 yX0_hangingFrom yX0_hangingFrom ∈ wsX4_cordDetail := by decide +kernel
set_option maxRecDepth 20000 in
theorem lk_X4_cordDetail_nX1_allFrays : Cond.instanceMethod yX1_allFrays ∈ wsX4_cordDetail := by decide +kernel
set_option maxRecDepth 20000 in
theorem lk_X4_cordDetail_zX1_allFrays : Cond.selects RX1 yX1_allFrays yX1_allFrays ∈ wsX4_cordDetail := by decide +kernel
set_option maxRecDepth 100000 in
set_option maxHeartbeats 4000000 in
theorem c_X4_cordDetail {Γ : k_Pm} {l : Launch} (hl0 : l.stackTraces = false) {x1 : Int32} {x2 : Int32}  {g : Gt} {r : Int32} {g2 : Gt} (h : f_X4_cordDetail x1 x2 g = some (r, g2)) : k_CI Γ l yX4_cordDetail wsX4_cordDetail rm_X4_cordDetail [.ref (k_ad Γ 0 (0)), .int (x1), .int (x2)] g r g2 := by
  intro sz
  refine Met.ofW (cc := cX4_cordDetail) (maxL := 3) (ret := (some .int)) (by decide) rfl ?_
  intro p e s m args below meth c s₁ B hml hv
  obtain ⟨rfl, rfl, hP, hKS⟩ := hv
  have hr := B.returns
  have hlocks := B.notSynchronized
  have hC : k_C Γ (k_A Γ s.heap.size) p l s m _ c cX4_cordDetail 3 wsX4_cordDetail RX4 := k_C.of ⟨B.exec, B.bytes, hml, findClass_of_methodNamed B.named, atoms_spec (ws := wsX4_cordDetail) B.pre⟩ hKS hl0
  have hw : k_St Γ (k_A Γ s.heap.size) s [] g s.heap [] := k_St.of hKS hP
  have hl := lv_entry ([.ref (k_ad Γ 0 (0)), .int (x1), .int (x2)] : List Value) (n := 3) (Nat.le_of_ble_eq_true rfl)
  rw [lg_entry_eq]
  generalize (lg_sl ([.ref (k_ad Γ 0 (0)), .int (x1), .int (x2)] : List Value) ++ List.replicate (3 - (lg_sl ([.ref (k_ad Γ 0 (0)), .int (x1), .int (x2)] : List Value)).length) Slot.unset).toArray = ls at hl ⊢
  have hl : lv_has ls 3 [(0, .ref (k_ad Γ 0 (0))), (1, .int (x1)), (2, .int (x2))] := hl
  change W p l e rm_X4_cordDetail _ _ _ _ _ _ _ _ _ _ _ _
  unfold f_X4_cordDetail at h
  refine lv_iload_n hC.x hC.b dX4_cordDetail_0 rfl (lv_at hl 2 rfl) ?_
  by_cases hs0 : x2 = 0
  · have h := it_t h hs0
    refine lv_tableIn (off := 43) (tgt := 44) hC.x hC.b dX4_cordDetail_1 (by rw [hs0]; decide) (by rw [hs0]; decide) (by rw [hs0]; decide) (by decide) ?_
    refine lv_aload_n hC.x hC.b dX4_cordDetail_44 rfl (lv_at hl 0 rfl) ?_
    refine x_get hC hw (k := 0) (T := TX4) (by decide) (k_E0 _ _ _) in_X4_cordDetail_X4 rfl (by decide) lk_X4_cordDetail_f10 rfl rfl dX4_cordDetail_45 ?_
    refine x_getN hC hw (k := 0) (T := TX0) (by decide) (k_E1 _ _ _) in_X4_cordDetail_X0 rfl (by decide) nw_f_X4_236 rfl rfl dX4_cordDetail_48 ?_
    refine lv_iload_n hC.x hC.b dX4_cordDetail_51 rfl (lv_at hl 1 rfl) ?_
    obtain ⟨hg1, h⟩ := gd_t h
    refine x_iald hC hw rfl (by decide) hg1 dX4_cordDetail_52 ?_
    obtain ⟨rfl, rfl⟩ := sm2 h
    exact x_iret hC hw hr hlocks (by decide) (by decide) dX4_cordDetail_53
  have h := it_f h hs0
  by_cases hs1 : x2 = 1
  · have h := it_t h hs1
    refine lv_tableIn (off := 53) (tgt := 54) hC.x hC.b dX4_cordDetail_1 (by rw [hs1]; decide) (by rw [hs1]; decide) (by rw [hs1]; decide) (by decide) ?_
    refine lv_aload_n hC.x hC.b dX4_cordDetail_54 rfl (lv_at hl 0 rfl) ?_
    refine x_get hC hw (k := 0) (T := TX4) (by decide) (k_E0 _ _ _) in_X4_cordDetail_X4 rfl (by decide) lk_X4_cordDetail_f10 rfl rfl dX4_cordDetail_55 ?_
    refine x_getN hC hw (k := 1) (T := TX0) (by decide) (k_E1 _ _ _) in_X4_cordDetail_X0 rfl (by decide) nw_f_X4_202 rfl rfl dX4_cordDetail_58 ?_
    refine lv_iload_n hC.x hC.b dX4_cordDetail_61 rfl (lv_at hl 1 rfl) ?_
    obtain ⟨hg2, h⟩ := gd_t h
    refine x_iald hC hw rfl (by decide) hg2 dX4_cordDetail_62 ?_
    obtain ⟨rfl, rfl⟩ := sm2 h
    exact x_iret hC hw hr hlocks (by decide) (by decide) dX4_cordDetail_63
  have h := it_f h hs1
  by_cases hs2 : x2 = 2
  · have h := it_t h hs2
    refine lv_tableIn (off := 63) (tgt := 64) hC.x hC.b dX4_cordDetail_1 (by rw [hs2]; decide) (by rw [hs2]; decide) (by rw [hs2]; decide) (by decide) ?_
    refine lv_aload_n hC.x hC.b dX4_cordDetail_64 rfl (lv_at hl 0 rfl) ?_
    refine x_get hC hw (k := 1) (T := TX4) (by decide) (k_E0 _ _ _) in_X4_cordDetail_X4 rfl (by decide) lk_X4_cordDetail_f19 rfl rfl dX4_cordDetail_65 ?_
    refine lv_iload_n hC.x hC.b dX4_cordDetail_68 rfl (lv_at hl 1 rfl) ?_
    obtain ⟨r69, g69, hq, h⟩ := bd2_t h
    refine x_goi hC hw (x_runN hC hw (c_X1_digits (Γ := Γ) (l := l) hC.2.2.2.2 (by decide) hq) ⟨va_cnB 1 hC.t gX4_cordDetail_X1_digits_n78 rfl rfl rfl (hC.w nw_m_X4_78) (hC.t _ lk_X4_cordDetail_iX1) (by decide +kernel) ⟨Nat.le_of_ble_eq_true rfl, Nat.le_of_ble_eq_true rfl⟩, hC.t _ lk_X4_cordDetail_nX1_digits, hC.t _ lk_X4_cordDetail_zX1_digits⟩ (As := [.int (x1)]) (by decide) (k_E2 _ _ _) rfl rfl rfl hl.1 (Nat.le_of_ble_eq_true rfl) dX4_cordDetail_69 ⟨by decide, by decide⟩) (fun H locs hw => ?_)
    obtain ⟨rfl, rfl⟩ := sm2 h
    exact x_iret hC hw hr hlocks (by decide) (by decide) dX4_cordDetail_72
  have h := it_f h hs2
  by_cases hs3 : x2 = 3
  · have h := it_t h hs3
    refine lv_tableIn (off := 72) (tgt := 73) hC.x hC.b dX4_cordDetail_1 (by rw [hs3]; decide) (by rw [hs3]; decide) (by rw [hs3]; decide) (by decide) ?_
    refine lv_aload_n hC.x hC.b dX4_cordDetail_73 rfl (lv_at hl 0 rfl) ?_
    refine x_get hC hw (k := 0) (T := TX4) (by decide) (k_E0 _ _ _) in_X4_cordDetail_X4 rfl (by decide) lk_X4_cordDetail_f10 rfl rfl dX4_cordDetail_74 ?_
    refine x_getN hC hw (k := 2) (T := TX0) (by decide) (k_E1 _ _ _) in_X4_cordDetail_X0 rfl (by decide) nw_f_X4_131 rfl rfl dX4_cordDetail_77 ?_
    refine lv_iload_n hC.x hC.b dX4_cordDetail_80 rfl (lv_at hl 1 rfl) ?_
    obtain ⟨hg3, h⟩ := gd_t h
    refine x_iald hC hw rfl (by decide) hg3 dX4_cordDetail_81 ?_
    obtain ⟨rfl, rfl⟩ := sm2 h
    exact x_iret hC hw hr hlocks (by decide) (by decide) dX4_cordDetail_82
  have h := it_f h hs3
  by_cases hs4 : x2 = 4
  · have h := it_t h hs4
    refine lv_tableIn (off := 82) (tgt := 83) hC.x hC.b dX4_cordDetail_1 (by rw [hs4]; decide) (by rw [hs4]; decide) (by rw [hs4]; decide) (by decide) ?_
    refine lv_aload_n hC.x hC.b dX4_cordDetail_83 rfl (lv_at hl 0 rfl) ?_
    refine x_get hC hw (k := 0) (T := TX4) (by decide) (k_E0 _ _ _) in_X4_cordDetail_X4 rfl (by decide) lk_X4_cordDetail_f10 rfl rfl dX4_cordDetail_84 ?_
    refine x_getN hC hw (k := 3) (T := TX0) (by decide) (k_E1 _ _ _) in_X4_cordDetail_X0 rfl (by decide) nw_f_X4_182 rfl rfl dX4_cordDetail_87 ?_
    refine lv_iload_n hC.x hC.b dX4_cordDetail_90 rfl (lv_at hl 1 rfl) ?_
    obtain ⟨hg4, h⟩ := gd_t h
    refine x_iald hC hw rfl (by decide) hg4 dX4_cordDetail_91 ?_
    obtain ⟨rfl, rfl⟩ := sm2 h
    exact x_iret hC hw hr hlocks (by decide) (by decide) dX4_cordDetail_92
  have h := it_f h hs4
  by_cases hs5 : x2 = 5
  · have h := it_t h hs5
    refine lv_tableIn (off := 92) (tgt := 93) hC.x hC.b dX4_cordDetail_1 (by rw [hs5]; decide) (by rw [hs5]; decide) (by rw [hs5]; decide) (by decide) ?_
    refine lv_aload_n hC.x hC.b dX4_cordDetail_93 rfl (lv_at hl 0 rfl) ?_
    refine x_get hC hw (k := 0) (T := TX4) (by decide) (k_E0 _ _ _) in_X4_cordDetail_X4 rfl (by decide) lk_X4_cordDetail_f10 rfl rfl dX4_cordDetail_94 ?_
    refine lv_iload_n hC.x hC.b dX4_cordDetail_97 rfl (lv_at hl 1 rfl) ?_
    obtain ⟨r98, g98, hq, h⟩ := bd2_t h
    refine x_goi hC hw (x_runN hC hw (c_X0_hangingFrom (Γ := Γ) (l := l) hC.2.2.2.2 hq) ⟨va_cnB 1 hC.t gX4_cordDetail_X0_hangingFrom_n66 rfl rfl rfl (hC.w nw_m_X4_66) (hC.t _ lk_X4_cordDetail_iX0) (by decide +kernel) ⟨Nat.le_of_ble_eq_true rfl, Nat.le_of_ble_eq_true rfl⟩, hC.t _ lk_X4_cordDetail_nX0_hangingFrom, hC.t _ lk_X4_cordDetail_zX0_hangingFrom⟩ (As := [.int (x1)]) (by decide) (k_E1 _ _ _) rfl rfl rfl hl.1 (Nat.le_of_ble_eq_true rfl) dX4_cordDetail_98 ⟨by decide, by decide⟩) (fun H locs hw => ?_)
    obtain ⟨rfl, rfl⟩ := sm2 h
    exact x_iret hC hw hr hlocks (by decide) (by decide) dX4_cordDetail_101
  have h := it_f h hs5
  by_cases hs6 : x2 = 6
  · have h := it_t h hs6
    refine lv_tableIn (off := 101) (tgt := 102) hC.x hC.b dX4_cordDetail_1 (by rw [hs6]; decide) (by rw [hs6]; decide) (by rw [hs6]; decide) (by decide) ?_
    refine lv_aload_n hC.x hC.b dX4_cordDetail_102 rfl (lv_at hl 0 rfl) ?_
    refine lv_iload_n hC.x hC.b dX4_cordDetail_103 rfl (lv_at hl 1 rfl) ?_
    obtain ⟨r104, g104, hq, h⟩ := bd2_t h
    refine x_goi hC hw (x_runV hC hw (c_X4_agrees (Γ := Γ) (l := l) hC.2.2.2.2 hq) (cwV 1 hC.t gX4_cordDetail_X4_agrees rfl rfl rfl (by decide +kernel) ⟨Nat.le_of_ble_eq_true rfl, Nat.le_of_ble_eq_true rfl⟩) (As := [.int (x1)]) (by decide) (k_E0 _ _ _) rfl rfl rfl hl.1 (Nat.le_of_ble_eq_true rfl) dX4_cordDetail_104 ⟨by decide, by decide⟩) (fun H locs hw => ?_)
    refine lv_if_eq (tgt := 114) hC.x hC.b dX4_cordDetail_107 (by decide) (fun hc => ?_) (fun hc => ?_)
    · have h := it_t h hc
      refine lv_iconst (v := (0 : Int32)) hC.x hC.b dX4_cordDetail_114 (by decide) ?_
      obtain ⟨rfl, rfl⟩ := sm2 h
      exact x_iret hC hw hr hlocks (by decide) (by decide) dX4_cordDetail_115
    · have h := it_f h hc
      refine lv_iconst (v := (1 : Int32)) hC.x hC.b dX4_cordDetail_110 (by decide) ?_
      refine lv_goto (tgt := 115) hC.x hC.b dX4_cordDetail_111 (by decide) ?_
      obtain ⟨rfl, rfl⟩ := sm2 h
      exact x_iret hC hw hr hlocks (by decide) (by decide) dX4_cordDetail_115
  have h := it_f h hs6
  refine lv_tableOut (tgt := 116) hC.x hC.b dX4_cordDetail_1 (k_out6 hs0 hs1 hs2 hs3 hs4 hs5 hs6) (by decide) ?_
  refine lv_aload_n hC.x hC.b dX4_cordDetail_116 rfl (lv_at hl 0 rfl) ?_
  refine x_get hC hw (k := 1) (T := TX4) (by decide) (k_E0 _ _ _) in_X4_cordDetail_X4 rfl (by decide) lk_X4_cordDetail_f19 rfl rfl dX4_cordDetail_117 ?_
  refine lv_iload_n hC.x hC.b dX4_cordDetail_120 rfl (lv_at hl 1 rfl) ?_
  obtain ⟨r121, g121, hq, h⟩ := bd2_t h
  refine x_goi hC hw (x_runN hC hw (c_X1_allFrays (Γ := Γ) (l := l) hC.2.2.2.2 (by decide) hq) ⟨va_cnB 1 hC.t gX4_cordDetail_X1_allFrays_n106 rfl rfl rfl (hC.w nw_m_X4_106) (hC.t _ lk_X4_cordDetail_iX1) (by decide +kernel) ⟨Nat.le_of_ble_eq_true rfl, Nat.le_of_ble_eq_true rfl⟩, hC.t _ lk_X4_cordDetail_nX1_allFrays, hC.t _ lk_X4_cordDetail_zX1_allFrays⟩ (As := [.int (x1)]) (by decide) (k_E2 _ _ _) rfl rfl rfl hl.1 (Nat.le_of_ble_eq_true rfl) dX4_cordDetail_121 ⟨by decide, by decide⟩) (fun H locs hw => ?_)
  obtain ⟨rfl, rfl⟩ := sm2 h
  exact x_iret hC hw hr hlocks (by decide) (by decide) dX4_cordDetail_124
abbrev rm_X4_cord : Room := { frames := 7, cells := 2, slots := 12, locals := 103 }
theorem in_X4_cord_X4 : ∀ w ∈ wsX40, w ∈ wsX4_cord := fun _ h => List.mem_cons_of_mem _ (List.mem_append_left _ (List.mem_append_left _ (List.mem_append_left _ (List.mem_append_right _ (h)))))
set_option maxRecDepth 20000 in
theorem lk_X4_cord_f10 : Cond.fieldLink RX4 10 "KnotArchive" "cords" "LKnotArchive$Cords;" ∈ wsX4_cord := by decide +kernel
set_option maxRecDepth 20000 in
theorem lk_X4_cord_f19 : Cond.fieldLink RX4 19 "KnotArchive" "nowKnots" "LKnotArchive$Knots;" ∈ wsX4_cord := by decide +kernel
set_option maxRecDepth 20000 in
theorem lk_X4_cord_iX0 : Cond.initialized RX0 ∈ wsX4_cord := by decide +kernel
set_option maxRecDepth 20000 in
theorem lk_X4_cord_nX0_tell : Cond.instanceMethod yX0_tell ∈ wsX4_cord := by decide +kernel
set_option maxRecDepth 20000 in
theorem lk_X4_cord_zX0_tell : Cond.selects RX0 yX0_tell yX0_tell ∈ wsX4_cord := by decide +kernel
set_option maxRecDepth 100000 in
set_option maxHeartbeats 4000000 in
theorem c_X4_cord {Γ : k_Pm} {l : Launch} (hl0 : l.stackTraces = false) {x1 : Int32} {x2 : Int32}  {g : Gt} {k : Nat} {r : Int32} {g2 : Gt} (h : f_X4_cord x1 x2 g = some (k, r, g2)) : k_CXI Γ l yX4_cord wsX4_cord rm_X4_cord [.ref (k_ad Γ 0 (0)), .int (x1), .int (x2)] g k r g2 := by
  intro sz
  refine vx_ofW (cc := cX4_cord) (maxL := 3) (ret := (some .int)) (by decide) rfl ?_
  intro p e s m args below meth c s₁ B hml hout hv
  obtain ⟨rfl, rfl, hP, hKS⟩ := hv
  have hr := B.returns
  have hlocks := B.notSynchronized
  have hC : k_C Γ (k_A Γ s.heap.size) p l s m _ c cX4_cord 3 wsX4_cord RX4 := k_C.of ⟨B.exec, B.bytes, hml, findClass_of_methodNamed B.named, atoms_spec (ws := wsX4_cord) B.pre⟩ hKS hl0
  have hw : k_St Γ (k_A Γ s.heap.size) s [] g s.heap [] := k_St.of hKS hP
  have hl := lv_entry ([.ref (k_ad Γ 0 (0)), .int (x1), .int (x2)] : List Value) (n := 3) (Nat.le_of_ble_eq_true rfl)
  rw [lg_entry_eq]
  generalize (lg_sl ([.ref (k_ad Γ 0 (0)), .int (x1), .int (x2)] : List Value) ++ List.replicate (3 - (lg_sl ([.ref (k_ad Γ 0 (0)), .int (x1), .int (x2)] : List Value)).length) Slot.unset).toArray = ls at hl ⊢
  have hl : lv_has ls 3 [(0, .ref (k_ad Γ 0 (0))), (1, .int (x1)), (2, .int (x2))] := hl
  change W p l e rm_X4_cord _ _ _ _ _ _ _ _ _ _ _ _
  unfold f_X4_cord at h
  refine lv_aload_n hC.x hC.b dX4_cord_0 rfl (lv_at hl 0 rfl) ?_
  refine lv_iload_n hC.x hC.b dX4_cord_1 rfl (lv_at hl 1 rfl) ?_
  obtain ⟨k2, g2, hq, h⟩ := bd2_t h
  refine x_goxv hC hw (x_runxV hC hw (c_X4_checkCord (Γ := Γ) (l := l) hC.2.2.2.2 hq) (cwV 1 hC.t gX4_cord_X4_checkCord rfl rfl rfl (by decide +kernel) ⟨Nat.le_of_ble_eq_true rfl, Nat.le_of_ble_eq_true rfl⟩) (As := [.int (x1)]) (by decide) (k_E0 _ _ _) rfl rfl rfl hl.1 (Nat.le_of_ble_eq_true rfl) dX4_cord_2 ⟨by decide, by decide⟩) (fun E ce q9 H locs hk hE hw hce hcv hcl => ?_) (fun hk H locs hw => ?_)
  · have h := it_f h hk
    obtain ⟨rfl, rfl, rfl⟩ := sm3 h
    exact x_out hw hout hlocks hk hE hce hcv hcl (by decide) (by decide)
  · have h := it_t h hk
    refine lv_iload_n hC.x hC.b dX4_cord_5 rfl (lv_at hl 2 rfl) ?_
    refine lv_bipush (v := (8 : Int32)) hC.x hC.b dX4_cord_6 (by decide) ?_
    obtain ⟨k8, g8, hq, h⟩ := bd2_t h
    refine x_goxv hC hw (x_runxS hC hw (c_X4_checkWhat (Γ := Γ) (l := l) hC.2.2.2.2 hq) (va_cwS 2 hC.t gX4_cord_X4_checkWhat rfl rfl rfl (by decide +kernel) ⟨Nat.le_of_ble_eq_true rfl, Nat.le_of_ble_eq_true rfl⟩) (As := [.int (x2), .int ((8 : Int32))]) rfl hl.1 (Nat.le_of_ble_eq_true rfl) dX4_cord_8 ⟨by decide, by decide⟩) (fun E ce q9 H locs hk hE hw hce hcv hcl => ?_) (fun hk H locs hw => ?_)
    · have h := it_f h hk
      obtain ⟨rfl, rfl, rfl⟩ := sm3 h
      exact x_out hw hout hlocks hk hE hce hcv hcl (by decide) (by decide)
    · have h := it_t h hk
      refine lv_aload_n hC.x hC.b dX4_cord_11 rfl (lv_at hl 0 rfl) ?_
      refine x_get hC hw (k := 0) (T := TX4) (by decide) (k_E0 _ _ _) in_X4_cord_X4 rfl (by decide) lk_X4_cord_f10 rfl rfl dX4_cord_12 ?_
      refine lv_aload_n hC.x hC.b dX4_cord_15 rfl (lv_at hl 0 rfl) ?_
      refine x_get hC hw (k := 1) (T := TX4) (by decide) (k_E0 _ _ _) in_X4_cord_X4 rfl (by decide) lk_X4_cord_f19 rfl rfl dX4_cord_16 ?_
      obtain ⟨g19, hq, h⟩ := bd1_t h
      refine x_gov hC hw (x_runN hC hw (c_X0_tell (Γ := Γ) (l := l) hC.2.2.2.2 (by decide) hq) ⟨va_cnB 1 hC.t gX4_cord_X0_tell_n115 rfl rfl rfl (hC.w nw_m_X4_115) (hC.t _ lk_X4_cord_iX0) (by decide +kernel) ⟨Nat.le_of_ble_eq_true rfl, Nat.le_of_ble_eq_true rfl⟩, hC.t _ lk_X4_cord_nX0_tell, hC.t _ lk_X4_cord_zX0_tell⟩ (As := [.ref (k_ad Γ 2 (0))]) (by decide) (k_E1 _ _ _) rfl rfl rfl hl.1 (Nat.le_of_ble_eq_true rfl) dX4_cord_19 ⟨by decide, by decide⟩) (fun H locs hw => ?_)
      refine lv_aload_n hC.x hC.b dX4_cord_22 rfl (lv_at hl 0 rfl) ?_
      refine lv_iload_n hC.x hC.b dX4_cord_23 rfl (lv_at hl 1 rfl) ?_
      refine lv_iload_n hC.x hC.b dX4_cord_24 rfl (lv_at hl 2 rfl) ?_
      obtain ⟨r25, g25, hq, h⟩ := bd2_t h
      refine x_goi hC hw (x_runV hC hw (c_X4_cordDetail (Γ := Γ) (l := l) hC.2.2.2.2 hq) (cwV 2 hC.t gX4_cord_X4_cordDetail rfl rfl rfl (by decide +kernel) ⟨Nat.le_of_ble_eq_true rfl, Nat.le_of_ble_eq_true rfl⟩) (As := [.int (x1), .int (x2)]) (by decide) (k_E0 _ _ _) rfl rfl rfl hl.1 (Nat.le_of_ble_eq_true rfl) dX4_cord_25 ⟨by decide, by decide⟩) (fun H locs hw => ?_)
      obtain ⟨rfl, rfl, rfl⟩ := sm3 h
      exact x_xiret hC hw hr hlocks (by decide) (by decide) dX4_cord_28
abbrev rm_X4_place : Room := { frames := 7, cells := 3, slots := 18, locals := 103 }
theorem in_X4_place_X4 : ∀ w ∈ wsX40, w ∈ wsX4_place := fun _ h => List.mem_cons_of_mem _ (List.mem_append_left _ (List.mem_append_left _ (List.mem_append_left _ (List.mem_append_right _ (h)))))
theorem in_X4_place_X1 : ∀ w ∈ wsX10, w ∈ wsX4_place := fun _ h => List.mem_cons_of_mem _ (List.mem_append_left _ (List.mem_append_left _ (List.mem_append_right _ (h))))
set_option maxRecDepth 20000 in
theorem lk_X4_place_f19 : Cond.fieldLink RX4 19 "KnotArchive" "nowKnots" "LKnotArchive$Knots;" ∈ wsX4_place := by decide +kernel
set_option maxRecDepth 100000 in
set_option maxHeartbeats 4000000 in
theorem c_X4_place {Γ : k_Pm} {l : Launch} (hl0 : l.stackTraces = false) {x1 : Int32} {x2 : Int32} {x3 : Int32}  {g : Gt} {k : Nat} {r : Int32} {g2 : Gt} (h : f_X4_place x1 x2 x3 g = some (k, r, g2)) : k_CXI Γ l yX4_place wsX4_place rm_X4_place [.ref (k_ad Γ 0 (0)), .int (x1), .int (x2), .int (x3)] g k r g2 := by
  intro sz
  refine vx_ofW (cc := cX4_place) (maxL := 4) (ret := (some .int)) (by decide) rfl ?_
  intro p e s m args below meth c s₁ B hml hout hv
  obtain ⟨rfl, rfl, hP, hKS⟩ := hv
  have hr := B.returns
  have hlocks := B.notSynchronized
  have hC : k_C Γ (k_A Γ s.heap.size) p l s m _ c cX4_place 4 wsX4_place RX4 := k_C.of ⟨B.exec, B.bytes, hml, findClass_of_methodNamed B.named, atoms_spec (ws := wsX4_place) B.pre⟩ hKS hl0
  have hw : k_St Γ (k_A Γ s.heap.size) s [] g s.heap [] := k_St.of hKS hP
  have hl := lv_entry ([.ref (k_ad Γ 0 (0)), .int (x1), .int (x2), .int (x3)] : List Value) (n := 4) (Nat.le_of_ble_eq_true rfl)
  rw [lg_entry_eq]
  generalize (lg_sl ([.ref (k_ad Γ 0 (0)), .int (x1), .int (x2), .int (x3)] : List Value) ++ List.replicate (4 - (lg_sl ([.ref (k_ad Γ 0 (0)), .int (x1), .int (x2), .int (x3)] : List Value)).length) Slot.unset).toArray = ls at hl ⊢
  have hl : lv_has ls 4 [(0, .ref (k_ad Γ 0 (0))), (1, .int (x1)), (2, .int (x2)), (3, .int (x3))] := hl
  change W p l e rm_X4_place _ _ _ _ _ _ _ _ _ _ _ _
  unfold f_X4_place at h
  refine lv_aload_n hC.x hC.b dX4_place_0 rfl (lv_at hl 0 rfl) ?_
  refine lv_iload_n hC.x hC.b dX4_place_1 rfl (lv_at hl 1 rfl) ?_
  obtain ⟨k2, g2, hq, h⟩ := bd2_t h
  refine x_goxv hC hw (x_runxV hC hw (c_X4_checkCord (Γ := Γ) (l := l) hC.2.2.2.2 hq) (cwV 1 hC.t gX4_place_X4_checkCord rfl rfl rfl (by decide +kernel) ⟨Nat.le_of_ble_eq_true rfl, Nat.le_of_ble_eq_true rfl⟩) (As := [.int (x1)]) (by decide) (k_E0 _ _ _) rfl rfl rfl hl.1 (Nat.le_of_ble_eq_true rfl) dX4_place_2 ⟨by decide, by decide⟩) (fun E ce q9 H locs hk hE hw hce hcv hcl => ?_) (fun hk H locs hw => ?_)
  · have h := it_f h hk
    obtain ⟨rfl, rfl, rfl⟩ := sm3 h
    exact x_out hw hout hlocks hk hE hce hcv hcl (by decide) (by decide)
  · have h := it_t h hk
    refine lv_iload_n hC.x hC.b dX4_place_5 rfl (lv_at hl 2 rfl) ?_
    obtain ⟨k6, g6, hq, h⟩ := bd2_t h
    refine x_goxv hC hw (x_runxS hC hw (c_X4_checkPlace (Γ := Γ) (l := l) hC.2.2.2.2 hq) (va_cwS 1 hC.t gX4_place_X4_checkPlace rfl rfl rfl (by decide +kernel) ⟨Nat.le_of_ble_eq_true rfl, Nat.le_of_ble_eq_true rfl⟩) (As := [.int (x2)]) rfl hl.1 (Nat.le_of_ble_eq_true rfl) dX4_place_6 ⟨by decide, by decide⟩) (fun E ce q9 H locs hk hE hw hce hcv hcl => ?_) (fun hk H locs hw => ?_)
    · have h := it_f h hk
      obtain ⟨rfl, rfl, rfl⟩ := sm3 h
      exact x_out hw hout hlocks hk hE hce hcv hcl (by decide) (by decide)
    · have h := it_t h hk
      refine lv_iload_n hC.x hC.b dX4_place_9 rfl (lv_at hl 3 rfl) ?_
      refine lv_iconst (v := (2 : Int32)) hC.x hC.b dX4_place_10 (by decide) ?_
      obtain ⟨k11, g11, hq, h⟩ := bd2_t h
      refine x_goxv hC hw (x_runxS hC hw (c_X4_checkWhat (Γ := Γ) (l := l) hC.2.2.2.2 hq) (va_cwS 2 hC.t gX4_place_X4_checkWhat rfl rfl rfl (by decide +kernel) ⟨Nat.le_of_ble_eq_true rfl, Nat.le_of_ble_eq_true rfl⟩) (As := [.int (x3), .int ((2 : Int32))]) rfl hl.1 (Nat.le_of_ble_eq_true rfl) dX4_place_11 ⟨by decide, by decide⟩) (fun E ce q9 H locs hk hE hw hce hcv hcl => ?_) (fun hk H locs hw => ?_)
      · have h := it_f h hk
        obtain ⟨rfl, rfl, rfl⟩ := sm3 h
        exact x_out hw hout hlocks hk hE hce hcv hcl (by decide) (by decide)
      · have h := it_t h hk
        refine lv_iload_n hC.x hC.b dX4_place_14 rfl (lv_at hl 3 rfl) ?_
        refine lv_if_ne (tgt := 32) hC.x hC.b dX4_place_15 (by decide) (fun hc => ?_) (fun hc => ?_)
        · have h := it_f h hc
          refine lv_aload_n hC.x hC.b dX4_place_32 rfl (lv_at hl 0 rfl) ?_
          refine x_get hC hw (k := 1) (T := TX4) (by decide) (k_E0 _ _ _) in_X4_place_X4 rfl (by decide) lk_X4_place_f19 rfl rfl dX4_place_33 ?_
          refine x_getN hC hw (k := 1) (T := TX1) (by decide) (k_E2 _ _ _) in_X4_place_X1 rfl (by decide) nw_f_X4_122 rfl rfl dX4_place_36 ?_
          refine lv_iload_n hC.x hC.b dX4_place_39 rfl (lv_at hl 1 rfl) ?_
          obtain ⟨hg1, h⟩ := gd_t h
          have hr1 := k_ci_lt (t := 15) (i := 0) rfl (by decide) hg1
          refine x_aald hC hw (t := 15) rfl (by decide) (by decide) hg1 dX4_place_40 ?_
          refine lv_iload_n hC.x hC.b dX4_place_41 rfl (lv_at hl 2 rfl) ?_
          obtain ⟨hg2, h⟩ := gd_t h
          refine x_iald hC hw rfl hr1 hg2 dX4_place_42 ?_
          obtain ⟨rfl, rfl, rfl⟩ := sm3 h
          exact x_xiret hC hw hr hlocks (by decide) (by decide) dX4_place_43
        · have h := it_t h hc
          refine lv_aload_n hC.x hC.b dX4_place_18 rfl (lv_at hl 0 rfl) ?_
          refine x_get hC hw (k := 1) (T := TX4) (by decide) (k_E0 _ _ _) in_X4_place_X4 rfl (by decide) lk_X4_place_f19 rfl rfl dX4_place_19 ?_
          refine x_getN hC hw (k := 0) (T := TX1) (by decide) (k_E2 _ _ _) in_X4_place_X1 rfl (by decide) nw_f_X4_93 rfl rfl dX4_place_22 ?_
          refine lv_iload_n hC.x hC.b dX4_place_25 rfl (lv_at hl 1 rfl) ?_
          obtain ⟨hg3, h⟩ := gd_t h
          have hr2 := k_ci_lt (t := 14) (i := 0) rfl (by decide) hg3
          refine x_aald hC hw (t := 14) rfl (by decide) (by decide) hg3 dX4_place_26 ?_
          refine lv_iload_n hC.x hC.b dX4_place_27 rfl (lv_at hl 2 rfl) ?_
          obtain ⟨hg4, h⟩ := gd_t h
          refine x_iald hC hw rfl hr2 hg4 dX4_place_28 ?_
          refine lv_goto (tgt := 43) hC.x hC.b dX4_place_29 (by decide) ?_
          obtain ⟨rfl, rfl, rfl⟩ := sm3 h
          exact x_xiret hC hw hr hlocks (by decide) (by decide) dX4_place_43
abbrev rm_X4_call : Room := { frames := 6, cells := 1, slots := 6, locals := 82 }
theorem in_X4_call_X4 : ∀ w ∈ wsX40, w ∈ wsX4_call := fun _ h => List.mem_cons_of_mem _ (List.mem_append_left _ (List.mem_append_left _ (List.mem_append_right _ (h))))
theorem in_X4_call_X3 : ∀ w ∈ wsX30, w ∈ wsX4_call := fun _ h => List.mem_cons_of_mem _ (List.mem_append_left _ (List.mem_append_right _ (h)))
set_option maxRecDepth 20000 in
theorem lk_X4_call_f29 : Cond.fieldLink RX4 29 "KnotArchive" "witnesses" "LKnotArchive$Witnesses;" ∈ wsX4_call := by decide +kernel
set_option maxRecDepth 20000 in
theorem lk_X4_call_iX3 : Cond.initialized RX3 ∈ wsX4_call := by decide +kernel
set_option maxRecDepth 20000 in
theorem lk_X4_call_nX3_add : Cond.instanceMethod yX3_add ∈ wsX4_call := by decide +kernel
set_option maxRecDepth 20000 in
theorem lk_X4_call_zX3_add : Cond.selects RX3 yX3_add yX3_add ∈ wsX4_call := by decide +kernel
set_option maxRecDepth 20000 in
theorem lk_X4_call_c61 : Cond.classLink RX4 61 "java/lang/IllegalStateException" ∈ wsX4_call := by decide +kernel
set_option maxRecDepth 20000 in
theorem lk_X4_call_i61 : Cond.initialized "java/lang/IllegalStateException" ∈ wsX4_call := by decide +kernel
theorem xa_X4_call_65 : ∀ w ∈ (vx_atS RX4 65 "java/lang/IllegalStateException" k_nms).filter goodWord, w ∈ wsX4_call := fun _ h => List.mem_cons_of_mem _ (List.mem_append_right _ (h))
set_option maxRecDepth 100000 in
set_option maxHeartbeats 4000000 in
theorem c_X4_call {Γ : k_Pm} {l : Launch} (hl0 : l.stackTraces = false)   {g : Gt} {k : Nat} {r : Int32} {g2 : Gt} (h : f_X4_call  g = some (k, r, g2)) : k_CXI Γ l yX4_call wsX4_call rm_X4_call [.ref (k_ad Γ 0 (0))] g k r g2 := by
  intro sz
  refine vx_ofW (cc := cX4_call) (maxL := 1) (ret := (some .int)) (by decide) rfl ?_
  intro p e s m args below meth c s₁ B hml hout hv
  obtain ⟨rfl, rfl, hP, hKS⟩ := hv
  have hr := B.returns
  have hlocks := B.notSynchronized
  have hC : k_C Γ (k_A Γ s.heap.size) p l s m _ c cX4_call 1 wsX4_call RX4 := k_C.of ⟨B.exec, B.bytes, hml, findClass_of_methodNamed B.named, atoms_spec (ws := wsX4_call) B.pre⟩ hKS hl0
  have hw : k_St Γ (k_A Γ s.heap.size) s [] g s.heap [] := k_St.of hKS hP
  have hl := lv_entry ([.ref (k_ad Γ 0 (0))] : List Value) (n := 1) (Nat.le_of_ble_eq_true rfl)
  rw [lg_entry_eq]
  generalize (lg_sl ([.ref (k_ad Γ 0 (0))] : List Value) ++ List.replicate (1 - (lg_sl ([.ref (k_ad Γ 0 (0))] : List Value)).length) Slot.unset).toArray = ls at hl ⊢
  have hl : lv_has ls 1 [(0, .ref (k_ad Γ 0 (0)))] := hl
  change W p l e rm_X4_call _ _ _ _ _ _ _ _ _ _ _ _
  unfold f_X4_call at h
  refine lv_aload_n hC.x hC.b dX4_call_0 rfl (lv_at hl 0 rfl) ?_
  refine x_get hC hw (k := 3) (T := TX4) (by decide) (k_E0 _ _ _) in_X4_call_X4 rfl (by decide) lk_X4_call_f29 rfl rfl dX4_call_1 ?_
  refine x_getN hC hw (k := 3) (T := TX3) (by decide) (k_E3 _ _ _) in_X4_call_X3 rfl (by decide) nw_f_X4_125 rfl rfl dX4_call_4 ?_
  refine lv_bipush (v := (6 : Int32)) hC.x hC.b dX4_call_7 (by decide) ?_
  refine lv_icmp_ne (tgt := 22) hC.x hC.b dX4_call_9 (by decide) (fun hc => ?_) (fun hc => ?_)
  · have h := it_f h hc
    refine lv_aload_n hC.x hC.b dX4_call_22 rfl (lv_at hl 0 rfl) ?_
    refine x_get hC hw (k := 3) (T := TX4) (by decide) (k_E0 _ _ _) in_X4_call_X4 rfl (by decide) lk_X4_call_f29 rfl rfl dX4_call_23 ?_
    obtain ⟨r26, g26, hq, h⟩ := bd2_t h
    refine x_goi hC hw (x_runN hC hw (c_X3_add (Γ := Γ) (l := l) hC.2.2.2.2 hq) ⟨va_cnB 0 hC.t gX4_call_X3_add_n128 rfl rfl rfl (hC.w nw_m_X4_128) (hC.t _ lk_X4_call_iX3) (by decide +kernel) ⟨Nat.le_of_ble_eq_true rfl, Nat.le_of_ble_eq_true rfl⟩, hC.t _ lk_X4_call_nX3_add, hC.t _ lk_X4_call_zX3_add⟩ (As := []) (by decide) (k_E3 _ _ _) rfl rfl rfl hl.1 (Nat.le_of_ble_eq_true rfl) dX4_call_26 ⟨by decide, by decide⟩) (fun H locs hw => ?_)
    obtain ⟨rfl, rfl, rfl⟩ := sm3 h
    exact x_xiret hC hw hr hlocks (by decide) (by decide) dX4_call_29
  · have h := it_t h hc
    obtain ⟨rfl, rfl, rfl⟩ := sm3 h
    exact x_throw hC hw hout hlocks hl.1 (text := "there are 6 witnesses") (by decide +kernel) lk_X4_call_c61 lk_X4_call_i61 (by decide +kernel) xa_X4_call_65 xb_65 xo_65_61 rfl (by decide) dX4_call_12 dX4_call_15 dX4_call_16 dX4_call_18 dX4_call_21 (by decide) (by decide) (by decide) (by decide) (by decide) (by decide)
abbrev rm_X4_read : Room := { frames := 7, cells := 2, slots := 12, locals := 103 }
theorem in_X4_read_X4 : ∀ w ∈ wsX40, w ∈ wsX4_read := fun _ h => List.mem_cons_of_mem _ (List.mem_append_left _ (List.mem_append_left _ (List.mem_append_left _ (List.mem_append_left _ (List.mem_append_right _ (h))))))
theorem in_X4_read_X0 : ∀ w ∈ wsX00, w ∈ wsX4_read := fun _ h => List.mem_cons_of_mem _ (List.mem_append_left _ (List.mem_append_left _ (List.mem_append_left _ (List.mem_append_right _ (h)))))
set_option maxRecDepth 20000 in
theorem lk_X4_read_f10 : Cond.fieldLink RX4 10 "KnotArchive" "cords" "LKnotArchive$Cords;" ∈ wsX4_read := by decide +kernel
set_option maxRecDepth 20000 in
theorem lk_X4_read_f19 : Cond.fieldLink RX4 19 "KnotArchive" "nowKnots" "LKnotArchive$Knots;" ∈ wsX4_read := by decide +kernel
set_option maxRecDepth 20000 in
theorem lk_X4_read_iX0 : Cond.initialized RX0 ∈ wsX4_read := by decide +kernel
set_option maxRecDepth 20000 in
theorem lk_X4_read_nX0_tell : Cond.instanceMethod yX0_tell ∈ wsX4_read := by decide +kernel
set_option maxRecDepth 20000 in
theorem lk_X4_read_zX0_tell : Cond.selects RX0 yX0_tell yX0_tell ∈ wsX4_read := by decide +kernel
set_option maxRecDepth 20000 in
theorem lk_X4_read_f29 : Cond.fieldLink RX4 29 "KnotArchive" "witnesses" "LKnotArchive$Witnesses;" ∈ wsX4_read := by decide +kernel
set_option maxRecDepth 20000 in
theorem lk_X4_read_f40 : Cond.fieldLink RX4 40 "KnotArchive" "year" "I" ∈ wsX4_read := by decide +kernel
set_option maxRecDepth 20000 in
theorem lk_X4_read_iX3 : Cond.initialized RX3 ∈ wsX4_read := by decide +kernel
set_option maxRecDepth 20000 in
theorem lk_X4_read_nX3_keep : Cond.instanceMethod yX3_keep ∈ wsX4_read := by decide +kernel
set_option maxRecDepth 20000 in
theorem lk_X4_read_zX3_keep : Cond.selects RX3 yX3_keep yX3_keep ∈ wsX4_read := by decide +kernel
set_option maxRecDepth 100000 in
set_option maxHeartbeats 4000000 in
theorem c_X4_read {Γ : k_Pm} {l : Launch} (hl0 : l.stackTraces = false) {x1 : Int32} {x2 : Int32}  {g : Gt} {k : Nat} {r : Int32} {g2 : Gt} (h : f_X4_read x1 x2 g = some (k, r, g2)) : k_CXI Γ l yX4_read wsX4_read rm_X4_read [.ref (k_ad Γ 0 (0)), .int (x1), .int (x2)] g k r g2 := by
  intro sz
  refine vx_ofW (cc := cX4_read) (maxL := 4) (ret := (some .int)) (by decide) rfl ?_
  intro p e s m args below meth c s₁ B hml hout hv
  obtain ⟨rfl, rfl, hP, hKS⟩ := hv
  have hr := B.returns
  have hlocks := B.notSynchronized
  have hC : k_C Γ (k_A Γ s.heap.size) p l s m _ c cX4_read 4 wsX4_read RX4 := k_C.of ⟨B.exec, B.bytes, hml, findClass_of_methodNamed B.named, atoms_spec (ws := wsX4_read) B.pre⟩ hKS hl0
  have hw : k_St Γ (k_A Γ s.heap.size) s [] g s.heap [] := k_St.of hKS hP
  have hl := lv_entry ([.ref (k_ad Γ 0 (0)), .int (x1), .int (x2)] : List Value) (n := 4) (Nat.le_of_ble_eq_true rfl)
  rw [lg_entry_eq]
  generalize (lg_sl ([.ref (k_ad Γ 0 (0)), .int (x1), .int (x2)] : List Value) ++ List.replicate (4 - (lg_sl ([.ref (k_ad Γ 0 (0)), .int (x1), .int (x2)] : List Value)).length) Slot.unset).toArray = ls at hl ⊢
  have hl : lv_has ls 4 [(0, .ref (k_ad Γ 0 (0))), (1, .int (x1)), (2, .int (x2))] := hl
  change W p l e rm_X4_read _ _ _ _ _ _ _ _ _ _ _ _
  unfold f_X4_read at h
  refine lv_aload_n hC.x hC.b dX4_read_0 rfl (lv_at hl 0 rfl) ?_
  refine lv_iload_n hC.x hC.b dX4_read_1 rfl (lv_at hl 1 rfl) ?_
  obtain ⟨k2, g2, hq, h⟩ := bd2_t h
  refine x_goxv hC hw (x_runxV hC hw (c_X4_checkWitness (Γ := Γ) (l := l) hC.2.2.2.2 hq) (cwV 1 hC.t gX4_read_X4_checkWitness rfl rfl rfl (by decide +kernel) ⟨Nat.le_of_ble_eq_true rfl, Nat.le_of_ble_eq_true rfl⟩) (As := [.int (x1)]) (by decide) (k_E0 _ _ _) rfl rfl rfl hl.1 (Nat.le_of_ble_eq_true rfl) dX4_read_2 ⟨by decide, by decide⟩) (fun E ce q9 H locs hk hE hw hce hcv hcl => ?_) (fun hk H locs hw => ?_)
  · have h := it_f h hk
    obtain ⟨rfl, rfl, rfl⟩ := sm3 h
    exact x_out hw hout hlocks hk hE hce hcv hcl (by decide) (by decide)
  · have h := it_t h hk
    refine lv_aload_n hC.x hC.b dX4_read_5 rfl (lv_at hl 0 rfl) ?_
    refine lv_iload_n hC.x hC.b dX4_read_6 rfl (lv_at hl 2 rfl) ?_
    obtain ⟨k7, g7, hq, h⟩ := bd2_t h
    refine x_goxv hC hw (x_runxV hC hw (c_X4_checkCord (Γ := Γ) (l := l) hC.2.2.2.2 hq) (cwV 1 hC.t gX4_read_X4_checkCord rfl rfl rfl (by decide +kernel) ⟨Nat.le_of_ble_eq_true rfl, Nat.le_of_ble_eq_true rfl⟩) (As := [.int (x2)]) (by decide) (k_E0 _ _ _) rfl rfl rfl hl.1 (Nat.le_of_ble_eq_true rfl) dX4_read_7 ⟨by decide, by decide⟩) (fun E ce q9 H locs hk hE hw hce hcv hcl => ?_) (fun hk H locs hw => ?_)
    · have h := it_f h hk
      obtain ⟨rfl, rfl, rfl⟩ := sm3 h
      exact x_out hw hout hlocks hk hE hce hcv hcl (by decide) (by decide)
    · have h := it_t h hk
      refine lv_aload_n hC.x hC.b dX4_read_10 rfl (lv_at hl 0 rfl) ?_
      refine x_get hC hw (k := 0) (T := TX4) (by decide) (k_E0 _ _ _) in_X4_read_X4 rfl (by decide) lk_X4_read_f10 rfl rfl dX4_read_11 ?_
      refine lv_aload_n hC.x hC.b dX4_read_14 rfl (lv_at hl 0 rfl) ?_
      refine x_get hC hw (k := 1) (T := TX4) (by decide) (k_E0 _ _ _) in_X4_read_X4 rfl (by decide) lk_X4_read_f19 rfl rfl dX4_read_15 ?_
      obtain ⟨g18, hq, h⟩ := bd1_t h
      refine x_gov hC hw (x_runN hC hw (c_X0_tell (Γ := Γ) (l := l) hC.2.2.2.2 (by decide) hq) ⟨va_cnB 1 hC.t gX4_read_X0_tell_n115 rfl rfl rfl (hC.w nw_m_X4_115) (hC.t _ lk_X4_read_iX0) (by decide +kernel) ⟨Nat.le_of_ble_eq_true rfl, Nat.le_of_ble_eq_true rfl⟩, hC.t _ lk_X4_read_nX0_tell, hC.t _ lk_X4_read_zX0_tell⟩ (As := [.ref (k_ad Γ 2 (0))]) (by decide) (k_E1 _ _ _) rfl rfl rfl hl.1 (Nat.le_of_ble_eq_true rfl) dX4_read_18 ⟨by decide, by decide⟩) (fun H locs hw => ?_)
      refine lv_aload_n hC.x hC.b dX4_read_21 rfl (lv_at hl 0 rfl) ?_
      refine x_get hC hw (k := 0) (T := TX4) (by decide) (k_E0 _ _ _) in_X4_read_X4 rfl (by decide) lk_X4_read_f10 rfl rfl dX4_read_22 ?_
      refine x_getN hC hw (k := 2) (T := TX0) (by decide) (k_E1 _ _ _) in_X4_read_X0 rfl (by decide) nw_f_X4_131 rfl rfl dX4_read_25 ?_
      refine lv_iload_n hC.x hC.b dX4_read_28 rfl (lv_at hl 2 rfl) ?_
      obtain ⟨hg1, h⟩ := gd_t h
      refine x_iald hC hw rfl (by decide) hg1 dX4_read_29 ?_
      refine lv_istore_n (lv' := [(3, .int (g18 12 0 x2.toNatClampNeg)), (0, .ref (k_ad Γ 0 (0))), (1, .int (x1)), (2, .int (x2))]) hC.x hC.b dX4_read_30 rfl hl (by decide) rfl (fun ls hl => ?_)
      refine lv_aload_n hC.x hC.b dX4_read_31 rfl (lv_at hl 1 rfl) ?_
      refine x_get hC hw (k := 3) (T := TX4) (by decide) (k_E0 _ _ _) in_X4_read_X4 rfl (by decide) lk_X4_read_f29 rfl rfl dX4_read_32 ?_
      refine lv_iload_n hC.x hC.b dX4_read_35 rfl (lv_at hl 2 rfl) ?_
      refine lv_iload_n hC.x hC.b dX4_read_36 rfl (lv_at hl 3 rfl) ?_
      refine lv_iload_n hC.x hC.b dX4_read_37 rfl (lv_at hl 0 rfl) ?_
      refine lv_aload_n hC.x hC.b dX4_read_38 rfl (lv_at hl 1 rfl) ?_
      refine x_get hC hw (k := 5) (T := TX4) (by decide) (k_E0 _ _ _) in_X4_read_X4 rfl (by decide) lk_X4_read_f40 rfl rfl dX4_read_39 ?_
      obtain ⟨g42, hq, h⟩ := bd1_t h
      refine x_gov hC hw (x_runN hC hw (c_X3_keep (Γ := Γ) (l := l) hC.2.2.2.2 hq) ⟨va_cnB 4 hC.t gX4_read_X3_keep_n135 rfl rfl rfl (hC.w nw_m_X4_135) (hC.t _ lk_X4_read_iX3) (by decide +kernel) ⟨Nat.le_of_ble_eq_true rfl, Nat.le_of_ble_eq_true rfl⟩, hC.t _ lk_X4_read_nX3_keep, hC.t _ lk_X4_read_zX3_keep⟩ (As := [.int (x1), .int (x2), .int (g18 12 0 x2.toNatClampNeg), .int (g18 0 0 5)]) (by decide) (k_E3 _ _ _) rfl rfl rfl hl.1 (Nat.le_of_ble_eq_true rfl) dX4_read_42 ⟨by decide, by decide⟩) (fun H locs hw => ?_)
      refine lv_iload_n hC.x hC.b dX4_read_45 rfl (lv_at hl 0 rfl) ?_
      obtain ⟨rfl, rfl, rfl⟩ := sm3 h
      exact x_xiret hC hw hr hlocks (by decide) (by decide) dX4_read_46
abbrev rm_X4_remembers : Room := { frames := 7, cells := 3, slots := 18, locals := 103 }
theorem in_X4_remembers_X4 : ∀ w ∈ wsX40, w ∈ wsX4_remembers := fun _ h => List.mem_cons_of_mem _ (List.mem_append_left _ (List.mem_append_left _ (List.mem_append_left _ (List.mem_append_right _ (h)))))
set_option maxRecDepth 20000 in
theorem lk_X4_remembers_f29 : Cond.fieldLink RX4 29 "KnotArchive" "witnesses" "LKnotArchive$Witnesses;" ∈ wsX4_remembers := by decide +kernel
set_option maxRecDepth 20000 in
theorem lk_X4_remembers_iX3 : Cond.initialized RX3 ∈ wsX4_remembers := by decide +kernel
set_option maxRecDepth 20000 in
theorem lk_X4_remembers_nX3_memory : Cond.instanceMethod yX3_memory ∈ wsX4_remembers := by decide +kernel
set_option maxRecDepth 20000 in
theorem lk_X4_remembers_zX3_memory : Cond.selects RX3 yX3_memory yX3_memory ∈ wsX4_remembers := by decide +kernel
set_option maxRecDepth 100000 in
set_option maxHeartbeats 4000000 in
theorem c_X4_remembers {Γ : k_Pm} {l : Launch} (hl0 : l.stackTraces = false) {x1 : Int32} {x2 : Int32} {x3 : Int32}  {g : Gt} {k : Nat} {r : Int32} {g2 : Gt} (h : f_X4_remembers x1 x2 x3 g = some (k, r, g2)) : k_CXI Γ l yX4_remembers wsX4_remembers rm_X4_remembers [.ref (k_ad Γ 0 (0)), .int (x1), .int (x2), .int (x3)] g k r g2 := by
  intro sz
  refine vx_ofW (cc := cX4_remembers) (maxL := 4) (ret := (some .int)) (by decide) rfl ?_
  intro p e s m args below meth c s₁ B hml hout hv
  obtain ⟨rfl, rfl, hP, hKS⟩ := hv
  have hr := B.returns
  have hlocks := B.notSynchronized
  have hC : k_C Γ (k_A Γ s.heap.size) p l s m _ c cX4_remembers 4 wsX4_remembers RX4 := k_C.of ⟨B.exec, B.bytes, hml, findClass_of_methodNamed B.named, atoms_spec (ws := wsX4_remembers) B.pre⟩ hKS hl0
  have hw : k_St Γ (k_A Γ s.heap.size) s [] g s.heap [] := k_St.of hKS hP
  have hl := lv_entry ([.ref (k_ad Γ 0 (0)), .int (x1), .int (x2), .int (x3)] : List Value) (n := 4) (Nat.le_of_ble_eq_true rfl)
  rw [lg_entry_eq]
  generalize (lg_sl ([.ref (k_ad Γ 0 (0)), .int (x1), .int (x2), .int (x3)] : List Value) ++ List.replicate (4 - (lg_sl ([.ref (k_ad Γ 0 (0)), .int (x1), .int (x2), .int (x3)] : List Value)).length) Slot.unset).toArray = ls at hl ⊢
  have hl : lv_has ls 4 [(0, .ref (k_ad Γ 0 (0))), (1, .int (x1)), (2, .int (x2)), (3, .int (x3))] := hl
  change W p l e rm_X4_remembers _ _ _ _ _ _ _ _ _ _ _ _
  unfold f_X4_remembers at h
  refine lv_aload_n hC.x hC.b dX4_remembers_0 rfl (lv_at hl 0 rfl) ?_
  refine lv_iload_n hC.x hC.b dX4_remembers_1 rfl (lv_at hl 1 rfl) ?_
  obtain ⟨k2, g2, hq, h⟩ := bd2_t h
  refine x_goxv hC hw (x_runxV hC hw (c_X4_checkWitness (Γ := Γ) (l := l) hC.2.2.2.2 hq) (cwV 1 hC.t gX4_remembers_X4_checkWitness rfl rfl rfl (by decide +kernel) ⟨Nat.le_of_ble_eq_true rfl, Nat.le_of_ble_eq_true rfl⟩) (As := [.int (x1)]) (by decide) (k_E0 _ _ _) rfl rfl rfl hl.1 (Nat.le_of_ble_eq_true rfl) dX4_remembers_2 ⟨by decide, by decide⟩) (fun E ce q9 H locs hk hE hw hce hcv hcl => ?_) (fun hk H locs hw => ?_)
  · have h := it_f h hk
    obtain ⟨rfl, rfl, rfl⟩ := sm3 h
    exact x_out hw hout hlocks hk hE hce hcv hcl (by decide) (by decide)
  · have h := it_t h hk
    refine lv_aload_n hC.x hC.b dX4_remembers_5 rfl (lv_at hl 0 rfl) ?_
    refine lv_iload_n hC.x hC.b dX4_remembers_6 rfl (lv_at hl 2 rfl) ?_
    obtain ⟨k7, g7, hq, h⟩ := bd2_t h
    refine x_goxv hC hw (x_runxV hC hw (c_X4_checkCord (Γ := Γ) (l := l) hC.2.2.2.2 hq) (cwV 1 hC.t gX4_remembers_X4_checkCord rfl rfl rfl (by decide +kernel) ⟨Nat.le_of_ble_eq_true rfl, Nat.le_of_ble_eq_true rfl⟩) (As := [.int (x2)]) (by decide) (k_E0 _ _ _) rfl rfl rfl hl.1 (Nat.le_of_ble_eq_true rfl) dX4_remembers_7 ⟨by decide, by decide⟩) (fun E ce q9 H locs hk hE hw hce hcv hcl => ?_) (fun hk H locs hw => ?_)
    · have h := it_f h hk
      obtain ⟨rfl, rfl, rfl⟩ := sm3 h
      exact x_out hw hout hlocks hk hE hce hcv hcl (by decide) (by decide)
    · have h := it_t h hk
      refine lv_iload_n hC.x hC.b dX4_remembers_10 rfl (lv_at hl 3 rfl) ?_
      refine lv_iconst (v := (3 : Int32)) hC.x hC.b dX4_remembers_11 (by decide) ?_
      obtain ⟨k12, g12, hq, h⟩ := bd2_t h
      refine x_goxv hC hw (x_runxS hC hw (c_X4_checkWhat (Γ := Γ) (l := l) hC.2.2.2.2 hq) (va_cwS 2 hC.t gX4_remembers_X4_checkWhat rfl rfl rfl (by decide +kernel) ⟨Nat.le_of_ble_eq_true rfl, Nat.le_of_ble_eq_true rfl⟩) (As := [.int (x3), .int ((3 : Int32))]) rfl hl.1 (Nat.le_of_ble_eq_true rfl) dX4_remembers_12 ⟨by decide, by decide⟩) (fun E ce q9 H locs hk hE hw hce hcv hcl => ?_) (fun hk H locs hw => ?_)
      · have h := it_f h hk
        obtain ⟨rfl, rfl, rfl⟩ := sm3 h
        exact x_out hw hout hlocks hk hE hce hcv hcl (by decide) (by decide)
      · have h := it_t h hk
        refine lv_aload_n hC.x hC.b dX4_remembers_15 rfl (lv_at hl 0 rfl) ?_
        refine x_get hC hw (k := 3) (T := TX4) (by decide) (k_E0 _ _ _) in_X4_remembers_X4 rfl (by decide) lk_X4_remembers_f29 rfl rfl dX4_remembers_16 ?_
        refine lv_iload_n hC.x hC.b dX4_remembers_19 rfl (lv_at hl 1 rfl) ?_
        refine lv_iload_n hC.x hC.b dX4_remembers_20 rfl (lv_at hl 2 rfl) ?_
        refine lv_iload_n hC.x hC.b dX4_remembers_21 rfl (lv_at hl 3 rfl) ?_
        obtain ⟨r22, g22, hq, h⟩ := bd2_t h
        refine x_goi hC hw (x_runN hC hw (c_X3_memory (Γ := Γ) (l := l) hC.2.2.2.2 hq) ⟨va_cnB 3 hC.t gX4_remembers_X3_memory_n139 rfl rfl rfl (hC.w nw_m_X4_139) (hC.t _ lk_X4_remembers_iX3) (by decide +kernel) ⟨Nat.le_of_ble_eq_true rfl, Nat.le_of_ble_eq_true rfl⟩, hC.t _ lk_X4_remembers_nX3_memory, hC.t _ lk_X4_remembers_zX3_memory⟩ (As := [.int (x1), .int (x2), .int (x3)]) (by decide) (k_E3 _ _ _) rfl rfl rfl hl.1 (Nat.le_of_ble_eq_true rfl) dX4_remembers_22 ⟨by decide, by decide⟩) (fun H locs hw => ?_)
        obtain ⟨rfl, rfl, rfl⟩ := sm3 h
        exact x_xiret hC hw hr hlocks (by decide) (by decide) dX4_remembers_25
abbrev rm_X4_trust : Room := { frames := 7, cells := 1, slots := 6, locals := 103 }
theorem in_X4_trust_X4 : ∀ w ∈ wsX40, w ∈ wsX4_trust := fun _ h => List.mem_cons_of_mem _ (List.mem_append_left _ (List.mem_append_left _ (List.mem_append_right _ (h))))
theorem in_X4_trust_X3 : ∀ w ∈ wsX30, w ∈ wsX4_trust := fun _ h => List.mem_cons_of_mem _ (List.mem_append_left _ (List.mem_append_right _ (h)))
set_option maxRecDepth 20000 in
theorem lk_X4_trust_f29 : Cond.fieldLink RX4 29 "KnotArchive" "witnesses" "LKnotArchive$Witnesses;" ∈ wsX4_trust := by decide +kernel
set_option maxRecDepth 100000 in
set_option maxHeartbeats 4000000 in
theorem c_X4_trust {Γ : k_Pm} {l : Launch} (hl0 : l.stackTraces = false) {x1 : Int32}  {g : Gt} {k : Nat} {r : Int32} {g2 : Gt} (h : f_X4_trust x1 g = some (k, r, g2)) : k_CXI Γ l yX4_trust wsX4_trust rm_X4_trust [.ref (k_ad Γ 0 (0)), .int (x1)] g k r g2 := by
  intro sz
  refine vx_ofW (cc := cX4_trust) (maxL := 2) (ret := (some .int)) (by decide) rfl ?_
  intro p e s m args below meth c s₁ B hml hout hv
  obtain ⟨rfl, rfl, hP, hKS⟩ := hv
  have hr := B.returns
  have hlocks := B.notSynchronized
  have hC : k_C Γ (k_A Γ s.heap.size) p l s m _ c cX4_trust 2 wsX4_trust RX4 := k_C.of ⟨B.exec, B.bytes, hml, findClass_of_methodNamed B.named, atoms_spec (ws := wsX4_trust) B.pre⟩ hKS hl0
  have hw : k_St Γ (k_A Γ s.heap.size) s [] g s.heap [] := k_St.of hKS hP
  have hl := lv_entry ([.ref (k_ad Γ 0 (0)), .int (x1)] : List Value) (n := 2) (Nat.le_of_ble_eq_true rfl)
  rw [lg_entry_eq]
  generalize (lg_sl ([.ref (k_ad Γ 0 (0)), .int (x1)] : List Value) ++ List.replicate (2 - (lg_sl ([.ref (k_ad Γ 0 (0)), .int (x1)] : List Value)).length) Slot.unset).toArray = ls at hl ⊢
  have hl : lv_has ls 2 [(0, .ref (k_ad Γ 0 (0))), (1, .int (x1))] := hl
  change W p l e rm_X4_trust _ _ _ _ _ _ _ _ _ _ _ _
  unfold f_X4_trust at h
  refine lv_aload_n hC.x hC.b dX4_trust_0 rfl (lv_at hl 0 rfl) ?_
  refine lv_iload_n hC.x hC.b dX4_trust_1 rfl (lv_at hl 1 rfl) ?_
  obtain ⟨k2, g2, hq, h⟩ := bd2_t h
  refine x_goxv hC hw (x_runxV hC hw (c_X4_checkWitness (Γ := Γ) (l := l) hC.2.2.2.2 hq) (cwV 1 hC.t gX4_trust_X4_checkWitness rfl rfl rfl (by decide +kernel) ⟨Nat.le_of_ble_eq_true rfl, Nat.le_of_ble_eq_true rfl⟩) (As := [.int (x1)]) (by decide) (k_E0 _ _ _) rfl rfl rfl hl.1 (Nat.le_of_ble_eq_true rfl) dX4_trust_2 ⟨by decide, by decide⟩) (fun E ce q9 H locs hk hE hw hce hcv hcl => ?_) (fun hk H locs hw => ?_)
  · have h := it_f h hk
    obtain ⟨rfl, rfl, rfl⟩ := sm3 h
    exact x_out hw hout hlocks hk hE hce hcv hcl (by decide) (by decide)
  · have h := it_t h hk
    refine lv_aload_n hC.x hC.b dX4_trust_5 rfl (lv_at hl 0 rfl) ?_
    refine x_get hC hw (k := 3) (T := TX4) (by decide) (k_E0 _ _ _) in_X4_trust_X4 rfl (by decide) lk_X4_trust_f29 rfl rfl dX4_trust_6 ?_
    refine x_getN hC hw (k := 0) (T := TX3) (by decide) (k_E3 _ _ _) in_X4_trust_X3 rfl (by decide) nw_f_X4_143 rfl rfl dX4_trust_9 ?_
    refine lv_iload_n hC.x hC.b dX4_trust_12 rfl (lv_at hl 1 rfl) ?_
    obtain ⟨hg1, h⟩ := gd_t h
    refine x_iald hC hw rfl (by decide) hg1 dX4_trust_13 ?_
    obtain ⟨rfl, rfl, rfl⟩ := sm3 h
    exact x_xiret hC hw hr hlocks (by decide) (by decide) dX4_trust_14
abbrev rm_X4_dispute : Room := { frames := 7, cells := 2, slots := 12, locals := 119 }
theorem in_X4_dispute_X4 : ∀ w ∈ wsX40, w ∈ wsX4_dispute := fun _ h => List.mem_cons_of_mem _ (List.mem_append_left _ (List.mem_append_left _ (List.mem_append_left _ (List.mem_append_left _ (List.mem_append_right _ (h))))))
theorem in_X4_dispute_X3 : ∀ w ∈ wsX30, w ∈ wsX4_dispute := fun _ h => List.mem_cons_of_mem _ (List.mem_append_left _ (List.mem_append_left _ (List.mem_append_left _ (List.mem_append_right _ (h)))))
set_option maxRecDepth 20000 in
theorem lk_X4_dispute_f29 : Cond.fieldLink RX4 29 "KnotArchive" "witnesses" "LKnotArchive$Witnesses;" ∈ wsX4_dispute := by decide +kernel
set_option maxRecDepth 20000 in
theorem lk_X4_dispute_iX3 : Cond.initialized RX3 ∈ wsX4_dispute := by decide +kernel
set_option maxRecDepth 20000 in
theorem lk_X4_dispute_nX3_mostTrusted : Cond.instanceMethod yX3_mostTrusted ∈ wsX4_dispute := by decide +kernel
set_option maxRecDepth 20000 in
theorem lk_X4_dispute_zX3_mostTrusted : Cond.selects RX3 yX3_mostTrusted yX3_mostTrusted ∈ wsX4_dispute := by decide +kernel
set_option maxRecDepth 20000 in
theorem lk_X4_dispute_nX3_judge : Cond.instanceMethod yX3_judge ∈ wsX4_dispute := by decide +kernel
set_option maxRecDepth 20000 in
theorem lk_X4_dispute_zX3_judge : Cond.selects RX3 yX3_judge yX3_judge ∈ wsX4_dispute := by decide +kernel
set_option maxRecDepth 20000 in
theorem lk_X4_dispute_c61 : Cond.classLink RX4 61 "java/lang/IllegalStateException" ∈ wsX4_dispute := by decide +kernel
set_option maxRecDepth 20000 in
theorem lk_X4_dispute_i61 : Cond.initialized "java/lang/IllegalStateException" ∈ wsX4_dispute := by decide +kernel
theorem xa_X4_dispute_65 : ∀ w ∈ (vx_atS RX4 65 "java/lang/IllegalStateException" k_nms).filter goodWord, w ∈ wsX4_dispute := fun _ h => List.mem_cons_of_mem _ (List.mem_append_left _ (List.mem_append_right _ (h)))
set_option maxRecDepth 100000 in
set_option maxHeartbeats 4000000 in
theorem c_X4_dispute {Γ : k_Pm} {l : Launch} (hl0 : l.stackTraces = false) {x1 : Int32}  {g : Gt} {k : Nat} {r : Int32} {g2 : Gt} (h : f_X4_dispute x1 g = some (k, r, g2)) : k_CXI Γ l yX4_dispute wsX4_dispute rm_X4_dispute [.ref (k_ad Γ 0 (0)), .int (x1)] g k r g2 := by
  intro sz
  refine vx_ofW (cc := cX4_dispute) (maxL := 4) (ret := (some .int)) (by decide) rfl ?_
  intro p e s m args below meth c s₁ B hml hout hv
  obtain ⟨rfl, rfl, hP, hKS⟩ := hv
  have hr := B.returns
  have hlocks := B.notSynchronized
  have hC : k_C Γ (k_A Γ s.heap.size) p l s m _ c cX4_dispute 4 wsX4_dispute RX4 := k_C.of ⟨B.exec, B.bytes, hml, findClass_of_methodNamed B.named, atoms_spec (ws := wsX4_dispute) B.pre⟩ hKS hl0
  have hw : k_St Γ (k_A Γ s.heap.size) s [] g s.heap [] := k_St.of hKS hP
  have hl := lv_entry ([.ref (k_ad Γ 0 (0)), .int (x1)] : List Value) (n := 4) (Nat.le_of_ble_eq_true rfl)
  rw [lg_entry_eq]
  generalize (lg_sl ([.ref (k_ad Γ 0 (0)), .int (x1)] : List Value) ++ List.replicate (4 - (lg_sl ([.ref (k_ad Γ 0 (0)), .int (x1)] : List Value)).length) Slot.unset).toArray = ls at hl ⊢
  have hl : lv_has ls 4 [(0, .ref (k_ad Γ 0 (0))), (1, .int (x1))] := hl
  change W p l e rm_X4_dispute _ _ _ _ _ _ _ _ _ _ _ _
  unfold f_X4_dispute at h
  refine lv_aload_n hC.x hC.b dX4_dispute_0 rfl (lv_at hl 0 rfl) ?_
  refine lv_iload_n hC.x hC.b dX4_dispute_1 rfl (lv_at hl 1 rfl) ?_
  obtain ⟨k2, g2, hq, h⟩ := bd2_t h
  refine x_goxv hC hw (x_runxV hC hw (c_X4_checkCord (Γ := Γ) (l := l) hC.2.2.2.2 hq) (cwV 1 hC.t gX4_dispute_X4_checkCord rfl rfl rfl (by decide +kernel) ⟨Nat.le_of_ble_eq_true rfl, Nat.le_of_ble_eq_true rfl⟩) (As := [.int (x1)]) (by decide) (k_E0 _ _ _) rfl rfl rfl hl.1 (Nat.le_of_ble_eq_true rfl) dX4_dispute_2 ⟨by decide, by decide⟩) (fun E ce q9 H locs hk hE hw hce hcv hcl => ?_) (fun hk H locs hw => ?_)
  · have h := it_f h hk
    obtain ⟨rfl, rfl, rfl⟩ := sm3 h
    exact x_out hw hout hlocks hk hE hce hcv hcl (by decide) (by decide)
  · have h := it_t h hk
    refine lv_aload_n hC.x hC.b dX4_dispute_5 rfl (lv_at hl 0 rfl) ?_
    refine x_get hC hw (k := 3) (T := TX4) (by decide) (k_E0 _ _ _) in_X4_dispute_X4 rfl (by decide) lk_X4_dispute_f29 rfl rfl dX4_dispute_6 ?_
    refine lv_iload_n hC.x hC.b dX4_dispute_9 rfl (lv_at hl 1 rfl) ?_
    obtain ⟨r10, g10, hq, h⟩ := bd2_t h
    refine x_goi hC hw (x_runN hC hw (c_X3_mostTrusted (Γ := Γ) (l := l) hC.2.2.2.2 hq) ⟨va_cnB 1 hC.t gX4_dispute_X3_mostTrusted_n146 rfl rfl rfl (hC.w nw_m_X4_146) (hC.t _ lk_X4_dispute_iX3) (by decide +kernel) ⟨Nat.le_of_ble_eq_true rfl, Nat.le_of_ble_eq_true rfl⟩, hC.t _ lk_X4_dispute_nX3_mostTrusted, hC.t _ lk_X4_dispute_zX3_mostTrusted⟩ (As := [.int (x1)]) (by decide) (k_E3 _ _ _) rfl rfl rfl hl.1 (Nat.le_of_ble_eq_true rfl) dX4_dispute_10 ⟨by decide, by decide⟩) (fun H locs hw => ?_)
    refine lv_istore_n (lv' := [(2, .int (r10)), (0, .ref (k_ad Γ 0 (0))), (1, .int (x1))]) hC.x hC.b dX4_dispute_13 rfl hl (by decide) rfl (fun ls hl => ?_)
    refine lv_iload_n hC.x hC.b dX4_dispute_14 rfl (lv_at hl 0 rfl) ?_
    refine lv_iconst (v := (-1 : Int32)) hC.x hC.b dX4_dispute_15 (by decide) ?_
    refine lv_icmp_ne (tgt := 29) hC.x hC.b dX4_dispute_16 (by decide) (fun hc => ?_) (fun hc => ?_)
    · have h := it_f h hc
      refine lv_aload_n hC.x hC.b dX4_dispute_29 rfl (lv_at hl 1 rfl) ?_
      refine x_get hC hw (k := 3) (T := TX4) (by decide) (k_E0 _ _ _) in_X4_dispute_X4 rfl (by decide) lk_X4_dispute_f29 rfl rfl dX4_dispute_30 ?_
      refine x_getN hC hw (k := 1) (T := TX3) (by decide) (k_E3 _ _ _) in_X4_dispute_X3 rfl (by decide) nw_f_X4_151 rfl rfl dX4_dispute_33 ?_
      refine lv_iload_n hC.x hC.b dX4_dispute_36 rfl (lv_at hl 0 rfl) ?_
      obtain ⟨hg1, h⟩ := gd_t h
      have hr1 := k_ci_lt (t := 17) (i := 0) rfl (by decide) hg1
      refine x_aald hC hw (t := 17) rfl (by decide) (by decide) hg1 dX4_dispute_37 ?_
      refine lv_iload_n hC.x hC.b dX4_dispute_38 rfl (lv_at hl 2 rfl) ?_
      obtain ⟨hg2, h⟩ := gd_t h
      refine x_iald hC hw rfl hr1 hg2 dX4_dispute_39 ?_
      refine lv_istore_n (lv' := [(3, .int (g10 22 r10.toNatClampNeg x1.toNatClampNeg)), (2, .int (r10)), (0, .ref (k_ad Γ 0 (0))), (1, .int (x1))]) hC.x hC.b dX4_dispute_40 rfl hl (by decide) rfl (fun ls hl => ?_)
      refine lv_aload_n hC.x hC.b dX4_dispute_41 rfl (lv_at hl 2 rfl) ?_
      refine x_get hC hw (k := 3) (T := TX4) (by decide) (k_E0 _ _ _) in_X4_dispute_X4 rfl (by decide) lk_X4_dispute_f29 rfl rfl dX4_dispute_42 ?_
      refine lv_iload_n hC.x hC.b dX4_dispute_45 rfl (lv_at hl 3 rfl) ?_
      refine lv_iload_n hC.x hC.b dX4_dispute_46 rfl (lv_at hl 0 rfl) ?_
      obtain ⟨g47, hq, h⟩ := bd1_t h
      refine x_gov hC hw (x_runN hC hw (c_X3_judge (Γ := Γ) (l := l) hC.2.2.2.2 hq) ⟨va_cnB 2 hC.t gX4_dispute_X3_judge_n154 rfl rfl rfl (hC.w nw_m_X4_154) (hC.t _ lk_X4_dispute_iX3) (by decide +kernel) ⟨Nat.le_of_ble_eq_true rfl, Nat.le_of_ble_eq_true rfl⟩, hC.t _ lk_X4_dispute_nX3_judge, hC.t _ lk_X4_dispute_zX3_judge⟩ (As := [.int (x1), .int (g10 22 r10.toNatClampNeg x1.toNatClampNeg)]) (by decide) (k_E3 _ _ _) rfl rfl rfl hl.1 (Nat.le_of_ble_eq_true rfl) dX4_dispute_47 ⟨by decide, by decide⟩) (fun H locs hw => ?_)
      refine lv_iload_n hC.x hC.b dX4_dispute_50 rfl (lv_at hl 0 rfl) ?_
      obtain ⟨rfl, rfl, rfl⟩ := sm3 h
      exact x_xiret hC hw hr hlocks (by decide) (by decide) dX4_dispute_51
    · have h := it_t h hc
      obtain ⟨rfl, rfl, rfl⟩ := sm3 h
      exact x_throw hC hw hout hlocks hl.1 (text := "no witness remembers the cord") (by decide +kernel) lk_X4_dispute_c61 lk_X4_dispute_i61 (by decide +kernel) xa_X4_dispute_65 xb_65 xo_65_61 rfl (by decide) dX4_dispute_19 dX4_dispute_22 dX4_dispute_23 dX4_dispute_25 dX4_dispute_28 (by decide) (by decide) (by decide) (by decide) (by decide) (by decide)
abbrev rm_X4_untying : Room := { frames := 7, cells := 1, slots := 6, locals := 103 }
theorem in_X4_untying_X4 : ∀ w ∈ wsX40, w ∈ wsX4_untying := fun _ h => List.mem_cons_of_mem _ (List.mem_append_left _ (List.mem_append_left _ (List.mem_append_right _ (h))))
theorem in_X4_untying_X2 : ∀ w ∈ wsX20, w ∈ wsX4_untying := fun _ h => List.mem_cons_of_mem _ (List.mem_append_left _ (List.mem_append_right _ (h)))
set_option maxRecDepth 20000 in
theorem lk_X4_untying_c157 : Cond.classLink RX4 157 "java/lang/IndexOutOfBoundsException" ∈ wsX4_untying := by decide +kernel
set_option maxRecDepth 20000 in
theorem lk_X4_untying_i157 : Cond.initialized "java/lang/IndexOutOfBoundsException" ∈ wsX4_untying := by decide +kernel
set_option maxRecDepth 20000 in
theorem lk_X4_untying_f36 : Cond.fieldLink RX4 36 "KnotArchive" "untyings" "LKnotArchive$Untyings;" ∈ wsX4_untying := by decide +kernel
theorem xa_X4_untying_161 : ∀ w ∈ (vx_atS RX4 161 "java/lang/IndexOutOfBoundsException" k_nms).filter goodWord, w ∈ wsX4_untying := fun _ h => List.mem_cons_of_mem _ (List.mem_append_right _ (h))
set_option maxRecDepth 100000 in
set_option maxHeartbeats 4000000 in
theorem c_X4_untying {Γ : k_Pm} {l : Launch} (hl0 : l.stackTraces = false) {x1 : Int32} {x2 : Int32}  {g : Gt} {k : Nat} {r : Int32} {g2 : Gt} (h : f_X4_untying x1 x2 g = some (k, r, g2)) : k_CXI Γ l yX4_untying wsX4_untying rm_X4_untying [.ref (k_ad Γ 0 (0)), .int (x1), .int (x2)] g k r g2 := by
  intro sz
  refine vx_ofW (cc := cX4_untying) (maxL := 3) (ret := (some .int)) (by decide) rfl ?_
  intro p e s m args below meth c s₁ B hml hout hv
  obtain ⟨rfl, rfl, hP, hKS⟩ := hv
  have hr := B.returns
  have hlocks := B.notSynchronized
  have hC : k_C Γ (k_A Γ s.heap.size) p l s m _ c cX4_untying 3 wsX4_untying RX4 := k_C.of ⟨B.exec, B.bytes, hml, findClass_of_methodNamed B.named, atoms_spec (ws := wsX4_untying) B.pre⟩ hKS hl0
  have hw : k_St Γ (k_A Γ s.heap.size) s [] g s.heap [] := k_St.of hKS hP
  have hl := lv_entry ([.ref (k_ad Γ 0 (0)), .int (x1), .int (x2)] : List Value) (n := 3) (Nat.le_of_ble_eq_true rfl)
  rw [lg_entry_eq]
  generalize (lg_sl ([.ref (k_ad Γ 0 (0)), .int (x1), .int (x2)] : List Value) ++ List.replicate (3 - (lg_sl ([.ref (k_ad Γ 0 (0)), .int (x1), .int (x2)] : List Value)).length) Slot.unset).toArray = ls at hl ⊢
  have hl : lv_has ls 3 [(0, .ref (k_ad Γ 0 (0))), (1, .int (x1)), (2, .int (x2))] := hl
  change W p l e rm_X4_untying _ _ _ _ _ _ _ _ _ _ _ _
  unfold f_X4_untying at h
  refine lv_iload_n hC.x hC.b dX4_untying_0 rfl (lv_at hl 1 rfl) ?_
  refine lv_if_lt (tgt := 15) hC.x hC.b dX4_untying_1 (by decide) (fun hc => ?_) (fun hc => ?_)
  · have h := it_t h hc
    obtain ⟨rfl, rfl, rfl⟩ := sm3 h
    exact x_throw hC hw hout hlocks hl.1 (text := "no such untying") (by decide +kernel) lk_X4_untying_c157 lk_X4_untying_i157 (by decide +kernel) xa_X4_untying_161 xb_161 xo_161_157 rfl (by decide) dX4_untying_15 dX4_untying_18 dX4_untying_19 dX4_untying_21 dX4_untying_24 (by decide) (by decide) (by decide) (by decide) (by decide) (by decide)
  · have h := it_f h hc
    refine lv_iload_n hC.x hC.b dX4_untying_4 rfl (lv_at hl 1 rfl) ?_
    refine lv_aload_n hC.x hC.b dX4_untying_5 rfl (lv_at hl 0 rfl) ?_
    refine x_get hC hw (k := 4) (T := TX4) (by decide) (k_E0 _ _ _) in_X4_untying_X4 rfl (by decide) lk_X4_untying_f36 rfl rfl dX4_untying_6 ?_
    refine x_getN hC hw (k := 1) (T := TX2) (by decide) (k_E4 _ _ _) in_X4_untying_X2 rfl (by decide) nw_f_X4_99 rfl rfl dX4_untying_9 ?_
    refine lv_icmp_lt (tgt := 25) hC.x hC.b dX4_untying_12 (by decide) (fun hc => ?_) (fun hc => ?_)
    · have h := it_t h hc
      refine lv_iload_n hC.x hC.b dX4_untying_25 rfl (lv_at hl 2 rfl) ?_
      refine lv_iconst (v := (5 : Int32)) hC.x hC.b dX4_untying_26 (by decide) ?_
      obtain ⟨k27, g27, hq, h⟩ := bd2_t h
      refine x_goxv hC hw (x_runxS hC hw (c_X4_checkWhat (Γ := Γ) (l := l) hC.2.2.2.2 hq) (va_cwS 2 hC.t gX4_untying_X4_checkWhat rfl rfl rfl (by decide +kernel) ⟨Nat.le_of_ble_eq_true rfl, Nat.le_of_ble_eq_true rfl⟩) (As := [.int (x2), .int ((5 : Int32))]) rfl hl.1 (Nat.le_of_ble_eq_true rfl) dX4_untying_27 ⟨by decide, by decide⟩) (fun E ce q9 H locs hk hE hw hce hcv hcl => ?_) (fun hk H locs hw => ?_)
      · have h := it_f h hk
        obtain ⟨rfl, rfl, rfl⟩ := sm3 h
        exact x_out hw hout hlocks hk hE hce hcv hcl (by decide) (by decide)
      · have h := it_t h hk
        refine lv_aload_n hC.x hC.b dX4_untying_30 rfl (lv_at hl 0 rfl) ?_
        refine x_get hC hw (k := 4) (T := TX4) (by decide) (k_E0 _ _ _) in_X4_untying_X4 rfl (by decide) lk_X4_untying_f36 rfl rfl dX4_untying_31 ?_
        refine x_getN hC hw (k := 0) (T := TX2) (by decide) (k_E4 _ _ _) in_X4_untying_X2 rfl (by decide) nw_f_X4_162 rfl rfl dX4_untying_34 ?_
        refine lv_iload_n hC.x hC.b dX4_untying_37 rfl (lv_at hl 1 rfl) ?_
        obtain ⟨hg1, h⟩ := gd_t h
        have hr1 := k_ci_lt (t := 19) (i := 0) rfl (by decide) hg1
        refine x_aald hC hw (t := 19) rfl (by decide) (by decide) hg1 dX4_untying_38 ?_
        refine lv_iload_n hC.x hC.b dX4_untying_39 rfl (lv_at hl 2 rfl) ?_
        obtain ⟨hg2, h⟩ := gd_t h
        refine x_iald hC hw rfl hr1 hg2 dX4_untying_40 ?_
        obtain ⟨rfl, rfl, rfl⟩ := sm3 h
        exact x_xiret hC hw hr hlocks (by decide) (by decide) dX4_untying_41
    · have h := it_f h hc
      obtain ⟨rfl, rfl, rfl⟩ := sm3 h
      exact x_throw hC hw hout hlocks hl.1 (text := "no such untying") (by decide +kernel) lk_X4_untying_c157 lk_X4_untying_i157 (by decide +kernel) xa_X4_untying_161 xb_161 xo_161_157 rfl (by decide) dX4_untying_15 dX4_untying_18 dX4_untying_19 dX4_untying_21 dX4_untying_24 (by decide) (by decide) (by decide) (by decide) (by decide) (by decide)
abbrev rm_X4_checkYears : Room := { frames := 6, cells := 1, slots := 6, locals := 82 }
set_option maxRecDepth 20000 in
theorem lk_X4_checkYears_c51 : Cond.classLink RX4 51 "java/lang/IllegalArgumentException" ∈ wsX4_checkYears := by decide +kernel
set_option maxRecDepth 20000 in
theorem lk_X4_checkYears_i51 : Cond.initialized "java/lang/IllegalArgumentException" ∈ wsX4_checkYears := by decide +kernel
theorem xa_X4_checkYears_55 : ∀ w ∈ (vx_atS RX4 55 "java/lang/IllegalArgumentException" k_nms).filter goodWord, w ∈ wsX4_checkYears := fun _ h => List.mem_cons_of_mem _ (List.mem_append_right _ (h))
set_option maxRecDepth 100000 in
set_option maxHeartbeats 4000000 in
theorem c_X4_checkYears {Γ : k_Pm} {l : Launch} (hl0 : l.stackTraces = false) {x0 : Int32}  {g : Gt} {k : Nat} {g2 : Gt} (h : f_X4_checkYears x0 g = some (k, g2)) : k_CXV Γ l yX4_checkYears wsX4_checkYears rm_X4_checkYears [.int (x0)] g k g2 := by
  intro sz
  refine vx_ofW (cc := cX4_checkYears) (maxL := 1) (ret := none) (by decide) rfl ?_
  intro p e s m args below meth c s₁ B hml hout hv
  obtain ⟨rfl, rfl, hP, hKS⟩ := hv
  have hr := B.returns
  have hlocks := B.notSynchronized
  have hC : k_C Γ (k_A Γ s.heap.size) p l s m _ c cX4_checkYears 1 wsX4_checkYears RX4 := k_C.of ⟨B.exec, B.bytes, hml, findClass_of_methodNamed B.named, atoms_spec (ws := wsX4_checkYears) B.pre⟩ hKS hl0
  have hw : k_St Γ (k_A Γ s.heap.size) s [] g s.heap [] := k_St.of hKS hP
  have hl := lv_entry ([.int (x0)] : List Value) (n := 1) (Nat.le_of_ble_eq_true rfl)
  rw [lg_entry_eq]
  generalize (lg_sl ([.int (x0)] : List Value) ++ List.replicate (1 - (lg_sl ([.int (x0)] : List Value)).length) Slot.unset).toArray = ls at hl ⊢
  have hl : lv_has ls 1 [(0, .int (x0))] := hl
  change W p l e rm_X4_checkYears _ _ _ _ _ _ _ _ _ _ _ _
  unfold f_X4_checkYears at h
  refine lv_iload_n hC.x hC.b dX4_checkYears_0 rfl (lv_at hl 0 rfl) ?_
  refine lv_iconst (v := (1 : Int32)) hC.x hC.b dX4_checkYears_1 (by decide) ?_
  refine lv_icmp_lt (tgt := 11) hC.x hC.b dX4_checkYears_2 (by decide) (fun hc => ?_) (fun hc => ?_)
  · have h := it_t h hc
    obtain ⟨rfl, rfl⟩ := sm2 h
    exact x_throw hC hw hout hlocks hl.1 (text := "years are 1 to 50") (by decide +kernel) lk_X4_checkYears_c51 lk_X4_checkYears_i51 (by decide +kernel) xa_X4_checkYears_55 xb_55 xo_55_51 rfl (by decide) dX4_checkYears_11 dX4_checkYears_14 dX4_checkYears_15 dX4_checkYears_17 dX4_checkYears_20 (by decide) (by decide) (by decide) (by decide) (by decide) (by decide)
  · have h := it_f h hc
    refine lv_iload_n hC.x hC.b dX4_checkYears_5 rfl (lv_at hl 0 rfl) ?_
    refine lv_bipush (v := (50 : Int32)) hC.x hC.b dX4_checkYears_6 (by decide) ?_
    refine lv_icmp_le (tgt := 21) hC.x hC.b dX4_checkYears_8 (by decide) (fun hc => ?_) (fun hc => ?_)
    · have h := it_t h hc
      obtain ⟨rfl, rfl⟩ := sm2 h
      exact x_xvret hC hw hr hlocks (by decide) (by decide) dX4_checkYears_21
    · have h := it_f h hc
      obtain ⟨rfl, rfl⟩ := sm2 h
      exact x_throw hC hw hout hlocks hl.1 (text := "years are 1 to 50") (by decide +kernel) lk_X4_checkYears_c51 lk_X4_checkYears_i51 (by decide +kernel) xa_X4_checkYears_55 xb_55 xo_55_51 rfl (by decide) dX4_checkYears_11 dX4_checkYears_14 dX4_checkYears_15 dX4_checkYears_17 dX4_checkYears_20 (by decide) (by decide) (by decide) (by decide) (by decide) (by decide)
abbrev rm_X4_pass : Room := { frames := 7, cells := 1, slots := 6, locals := 102 }
theorem in_X4_pass_X4 : ∀ w ∈ wsX40, w ∈ wsX4_pass := fun _ h => List.mem_cons_of_mem _ (List.mem_append_left _ (List.mem_append_left _ (List.mem_append_left _ (List.mem_append_right _ (h)))))
set_option maxRecDepth 20000 in
theorem lk_X4_pass_f19 : Cond.fieldLink RX4 19 "KnotArchive" "nowKnots" "LKnotArchive$Knots;" ∈ wsX4_pass := by decide +kernel
set_option maxRecDepth 20000 in
theorem lk_X4_pass_f10 : Cond.fieldLink RX4 10 "KnotArchive" "cords" "LKnotArchive$Cords;" ∈ wsX4_pass := by decide +kernel
set_option maxRecDepth 20000 in
theorem lk_X4_pass_iX1 : Cond.initialized RX1 ∈ wsX4_pass := by decide +kernel
set_option maxRecDepth 20000 in
theorem lk_X4_pass_nX1_fray : Cond.instanceMethod yX1_fray ∈ wsX4_pass := by decide +kernel
set_option maxRecDepth 20000 in
theorem lk_X4_pass_zX1_fray : Cond.selects RX1 yX1_fray yX1_fray ∈ wsX4_pass := by decide +kernel
set_option maxRecDepth 20000 in
theorem lk_X4_pass_f40 : Cond.fieldLink RX4 40 "KnotArchive" "year" "I" ∈ wsX4_pass := by decide +kernel
set_option maxRecDepth 20000 in
theorem lk_X4_pass_f44 : Cond.fieldLink RX4 44 "KnotArchive" "lost" "I" ∈ wsX4_pass := by decide +kernel
set_option maxRecDepth 100000 in
set_option maxHeartbeats 4000000 in
theorem c_X4_pass {Γ : k_Pm} {l : Launch} (hl0 : l.stackTraces = false) {x1 : Int32}  {g : Gt} {k : Nat} {r : Int32} {g2 : Gt} (h : f_X4_pass x1 g = some (k, r, g2)) : k_CXI Γ l yX4_pass wsX4_pass rm_X4_pass [.ref (k_ad Γ 0 (0)), .int (x1)] g k r g2 := by
  intro sz
  refine vx_ofW (cc := cX4_pass) (maxL := 3) (ret := (some .int)) (by decide) rfl ?_
  intro p e s m args below meth c s₁ B hml hout hv
  obtain ⟨rfl, rfl, hP, hKS⟩ := hv
  have hr := B.returns
  have hlocks := B.notSynchronized
  have hC : k_C Γ (k_A Γ s.heap.size) p l s m _ c cX4_pass 3 wsX4_pass RX4 := k_C.of ⟨B.exec, B.bytes, hml, findClass_of_methodNamed B.named, atoms_spec (ws := wsX4_pass) B.pre⟩ hKS hl0
  have hw : k_St Γ (k_A Γ s.heap.size) s [] g s.heap [] := k_St.of hKS hP
  have hl := lv_entry ([.ref (k_ad Γ 0 (0)), .int (x1)] : List Value) (n := 3) (Nat.le_of_ble_eq_true rfl)
  rw [lg_entry_eq]
  generalize (lg_sl ([.ref (k_ad Γ 0 (0)), .int (x1)] : List Value) ++ List.replicate (3 - (lg_sl ([.ref (k_ad Γ 0 (0)), .int (x1)] : List Value)).length) Slot.unset).toArray = ls at hl ⊢
  have hl : lv_has ls 3 [(0, .ref (k_ad Γ 0 (0))), (1, .int (x1))] := hl
  change W p l e rm_X4_pass _ _ _ _ _ _ _ _ _ _ _ _
  unfold f_X4_pass at h
  refine lv_iload_n hC.x hC.b dX4_pass_0 rfl (lv_at hl 1 rfl) ?_
  obtain ⟨k1, g1, hq, h⟩ := bd2_t h
  refine x_goxv hC hw (x_runxS hC hw (c_X4_checkYears (Γ := Γ) (l := l) hC.2.2.2.2 hq) (va_cwS 1 hC.t gX4_pass_X4_checkYears rfl rfl rfl (by decide +kernel) ⟨Nat.le_of_ble_eq_true rfl, Nat.le_of_ble_eq_true rfl⟩) (As := [.int (x1)]) rfl hl.1 (Nat.le_of_ble_eq_true rfl) dX4_pass_1 ⟨by decide, by decide⟩) (fun E ce q9 H locs hk hE hw hce hcv hcl => ?_) (fun hk H locs hw => ?_)
  · have h := it_f h hk
    obtain ⟨rfl, rfl, rfl⟩ := sm3 h
    exact x_out hw hout hlocks hk hE hce hcv hcl (by decide) (by decide)
  · have h := it_t h hk
    refine lv_aload_n hC.x hC.b dX4_pass_4 rfl (lv_at hl 0 rfl) ?_
    refine x_get hC hw (k := 1) (T := TX4) (by decide) (k_E0 _ _ _) in_X4_pass_X4 rfl (by decide) lk_X4_pass_f19 rfl rfl dX4_pass_5 ?_
    refine lv_aload_n hC.x hC.b dX4_pass_8 rfl (lv_at hl 0 rfl) ?_
    refine x_get hC hw (k := 0) (T := TX4) (by decide) (k_E0 _ _ _) in_X4_pass_X4 rfl (by decide) lk_X4_pass_f10 rfl rfl dX4_pass_9 ?_
    refine lv_iload_n hC.x hC.b dX4_pass_12 rfl (lv_at hl 1 rfl) ?_
    obtain ⟨r13, g13, hq, h⟩ := bd2_t h
    refine x_goi hC hw (x_runN hC hw (c_X1_fray (Γ := Γ) (l := l) hC.2.2.2.2 (by decide) hq) ⟨va_cnB 2 hC.t gX4_pass_X1_fray_n168 rfl rfl rfl (hC.w nw_m_X4_168) (hC.t _ lk_X4_pass_iX1) (by decide +kernel) ⟨Nat.le_of_ble_eq_true rfl, Nat.le_of_ble_eq_true rfl⟩, hC.t _ lk_X4_pass_nX1_fray, hC.t _ lk_X4_pass_zX1_fray⟩ (As := [.ref (k_ad Γ 1 (0)), .int (x1)]) (by decide) (k_E2 _ _ _) rfl rfl rfl hl.1 (Nat.le_of_ble_eq_true rfl) dX4_pass_13 ⟨by decide, by decide⟩) (fun H locs hw => ?_)
    refine lv_istore_n (lv' := [(2, .int (r13)), (0, .ref (k_ad Γ 0 (0))), (1, .int (x1))]) hC.x hC.b dX4_pass_16 rfl hl (by decide) rfl (fun ls hl => ?_)
    refine lv_aload_n hC.x hC.b dX4_pass_17 rfl (lv_at hl 1 rfl) ?_
    refine lv_dup hC.x hC.b dX4_pass_18 rfl ?_
    refine x_get hC hw (k := 5) (T := TX4) (by decide) (k_E0 _ _ _) in_X4_pass_X4 rfl (by decide) lk_X4_pass_f40 rfl rfl dX4_pass_19 ?_
    refine lv_iload_n hC.x hC.b dX4_pass_22 rfl (lv_at hl 2 rfl) ?_
    refine lv_iadd hC.x hC.b dX4_pass_23 ?_
    refine x_puti hC hw (k := 5) (T := TX4) (by decide) (k_E0 _ _ _) in_X4_pass_X4 rfl (by decide) lk_X4_pass_f40 rfl tyX4 tyX4_ok nmX4 rfl (by decide +kernel) (Nat.le_of_ble_eq_true rfl) (by rw [k_E0]; rfl) dX4_pass_24 (fun H locs hw => ?_)
    refine lv_aload_n hC.x hC.b dX4_pass_27 rfl (lv_at hl 1 rfl) ?_
    refine lv_dup hC.x hC.b dX4_pass_28 rfl ?_
    refine x_get hC hw (k := 6) (T := TX4) (by decide) (k_E0 _ _ _) in_X4_pass_X4 rfl (by decide) lk_X4_pass_f44 rfl rfl dX4_pass_29 ?_
    refine lv_iload_n hC.x hC.b dX4_pass_32 rfl (lv_at hl 0 rfl) ?_
    refine lv_iadd hC.x hC.b dX4_pass_33 ?_
    refine x_puti hC hw (k := 6) (T := TX4) (by decide) (k_E0 _ _ _) in_X4_pass_X4 rfl (by decide) lk_X4_pass_f44 rfl tyX4 tyX4_ok nmX4 rfl (by decide +kernel) (Nat.le_of_ble_eq_true rfl) (by rw [k_E0]; rfl) dX4_pass_34 (fun H locs hw => ?_)
    refine lv_iload_n hC.x hC.b dX4_pass_37 rfl (lv_at hl 0 rfl) ?_
    obtain ⟨rfl, rfl, rfl⟩ := sm3 h
    exact x_xiret hC hw hr hlocks (by decide) (by decide) dX4_pass_38
abbrev rm_X4_totalKnots : Room := { frames := 0, cells := 0, slots := 0, locals := 0 }
theorem in_X4_totalKnots_X4 : ∀ w ∈ wsX40, w ∈ wsX4_totalKnots := fun _ h => List.mem_cons_of_mem _ (List.mem_append_left _ (List.mem_append_left _ (List.mem_append_right _ (h))))
theorem in_X4_totalKnots_X0 : ∀ w ∈ wsX00, w ∈ wsX4_totalKnots := fun _ h => List.mem_cons_of_mem _ (List.mem_append_left _ (List.mem_append_right _ (h)))
theorem in_X4_totalKnots_X1 : ∀ w ∈ wsX10, w ∈ wsX4_totalKnots := fun _ h => List.mem_cons_of_mem _ (List.mem_append_right _ (h))
set_option maxRecDepth 20000 in
theorem lk_X4_totalKnots_f10 : Cond.fieldLink RX4 10 "KnotArchive" "cords" "LKnotArchive$Cords;" ∈ wsX4_totalKnots := by decide +kernel
set_option maxRecDepth 20000 in
theorem lk_X4_totalKnots_f19 : Cond.fieldLink RX4 19 "KnotArchive" "nowKnots" "LKnotArchive$Knots;" ∈ wsX4_totalKnots := by decide +kernel
set_option maxRecDepth 100000 in
set_option maxHeartbeats 4000000 in
theorem w_X4_totalKnots_17 {Γ : k_Pm} {A0 : Nat → Prop} {p : Program} {l : Launch} {e : Env} {s : State} {m : MethodId} {args : Array Value} {below : List Frame} {meth : Method} {c : Code} {cells slots : Nat} {Q : State → Prop} {tmp : va_W} {c2 : Int32} (hC : k_C Γ A0 p l s m args c cX4_totalKnots 4 wsX4_totalKnots RX4) (hcs : cells ≤ rm_X4_totalKnots.cells ∧ slots ≤ rm_X4_totalKnots.slots) : ∀ (n : Nat) (v1 : Int32) (v3 : Int32) (g : Gt) (w1 : Int32) (w3 : Int32) (g2 : Gt), f_X4_totalKnots_17 c2 n v1 v3 g = some (w1, w3, g2) → ∀ (H : Heap) (locs : List Loc) (ls : Array Slot), k_St Γ A0 s tmp g H locs → lv_has ls 4 [(3, .int (v3)), (2, .int (c2)), (1, .int (v1)), (0, .ref (k_ad Γ 0 (0)))] → (∀ (H1 : Heap) (locs1 : List Loc) (ls1 : Array Slot), k_St Γ A0 s tmp g2 H1 locs1 → lv_has ls1 4 [(3, .int (w3)), (2, .int (c2)), (1, .int (w1)), (0, .ref (k_ad Γ 0 (0)))] → W p l e rm_X4_totalKnots s m args below meth c H1 locs1 cells slots Q (F0 m 42 ls1 [])) → W p l e rm_X4_totalKnots s m args below meth c H locs cells slots Q (F0 m 17 ls []) := by
  intro n
  induction n with
  | zero => intro v1 v3 g w1 w3 g2 h; rw [f_X4_totalKnots_17] at h; cases h
  | succ n ih =>
    intro v1 v3 g w1 w3 g2 h H locs ls hw hl kk
    rw [f_X4_totalKnots_17] at h
    refine lv_iload_n hC.x hC.b dX4_totalKnots_17 rfl (lv_at hl 0 rfl) ?_
    refine lv_iconst (v := (4 : Int32)) hC.x hC.b dX4_totalKnots_18 (by decide) ?_
    refine lv_icmp_ge (tgt := 42) hC.x hC.b dX4_totalKnots_19 (by decide) (fun hc => ?_) (fun hc => ?_)
    · have h := it_t h hc
      obtain ⟨rfl, rfl, rfl⟩ := sm3 h
      exact kk _ _ _ hw (lv_sub hl [0, 1, 2, 3] rfl)
    · have h := it_f h hc
      refine lv_iload_n hC.x hC.b dX4_totalKnots_22 rfl (lv_at hl 2 rfl) ?_
      refine lv_aload_n hC.x hC.b dX4_totalKnots_23 rfl (lv_at hl 3 rfl) ?_
      refine x_get hC hw (k := 1) (T := TX4) (by decide) (k_E0 _ _ _) in_X4_totalKnots_X4 rfl (by decide) lk_X4_totalKnots_f19 rfl rfl dX4_totalKnots_24 ?_
      refine x_getN hC hw (k := 0) (T := TX1) (by decide) (k_E2 _ _ _) in_X4_totalKnots_X1 rfl (by decide) nw_f_X4_93 rfl rfl dX4_totalKnots_27 ?_
      refine lv_iload_n hC.x hC.b dX4_totalKnots_30 rfl (lv_at hl 1 rfl) ?_
      obtain ⟨hg1, h⟩ := gd_t h
      have hr1 := k_ci_lt (t := 14) (i := 0) rfl (by decide) hg1
      refine x_aald hC hw (t := 14) rfl (by decide) (by decide) hg1 dX4_totalKnots_31 ?_
      refine lv_iload_n hC.x hC.b dX4_totalKnots_32 rfl (lv_at hl 0 rfl) ?_
      obtain ⟨hg2, h⟩ := gd_t h
      refine x_iald hC hw rfl hr1 hg2 dX4_totalKnots_33 ?_
      refine lv_iadd hC.x hC.b dX4_totalKnots_34 ?_
      refine lv_istore_n (lv' := [(1, .int (v1 + (g 20 (16 * 0 + c2.toNatClampNeg) v3.toNatClampNeg))), (3, .int (v3)), (2, .int (c2)), (0, .ref (k_ad Γ 0 (0)))]) hC.x hC.b dX4_totalKnots_35 rfl hl (by decide) rfl (fun ls hl => ?_)
      refine lv_iinc (v := v3 + (1 : Int32)) (lv' := [(3, .int (v3 + (1 : Int32))), (1, .int (v1 + (g 20 (16 * 0 + c2.toNatClampNeg) v3.toNatClampNeg))), (2, .int (c2)), (0, .ref (k_ad Γ 0 (0)))]) hC.x hC.b dX4_totalKnots_36 hl (k := 1) rfl rfl (by decide) rfl (fun ls hl => ?_)
      refine lv_goto (tgt := 17) hC.x hC.b dX4_totalKnots_39 (by decide) ?_
      exact ih _ _ _ _ _ _ h _ _ _ hw (lv_sub hl [0, 2, 1, 3] rfl) kk

set_option maxRecDepth 100000 in
set_option maxHeartbeats 4000000 in
theorem w_X4_totalKnots_4 {Γ : k_Pm} {A0 : Nat → Prop} {p : Program} {l : Launch} {e : Env} {s : State} {m : MethodId} {args : Array Value} {below : List Frame} {meth : Method} {c : Code} {cells slots : Nat} {Q : State → Prop} {tmp : va_W} (hC : k_C Γ A0 p l s m args c cX4_totalKnots 4 wsX4_totalKnots RX4) (hcs : cells ≤ rm_X4_totalKnots.cells ∧ slots ≤ rm_X4_totalKnots.slots) : ∀ (n : Nat) (v1 : Int32) (v2 : Int32) (g : Gt) (w1 : Int32) (w2 : Int32) (g2 : Gt), f_X4_totalKnots_4 n v1 v2 g = some (w1, w2, g2) → ∀ (H : Heap) (locs : List Loc) (ls : Array Slot), k_St Γ A0 s tmp g H locs → lv_has ls 4 [(2, .int (v2)), (1, .int (v1)), (0, .ref (k_ad Γ 0 (0)))] → (∀ (H1 : Heap) (locs1 : List Loc) (ls1 : Array Slot), k_St Γ A0 s tmp g2 H1 locs1 → lv_has ls1 4 [(2, .int (w2)), (1, .int (w1)), (0, .ref (k_ad Γ 0 (0)))] → W p l e rm_X4_totalKnots s m args below meth c H1 locs1 cells slots Q (F0 m 48 ls1 [])) → W p l e rm_X4_totalKnots s m args below meth c H locs cells slots Q (F0 m 4 ls []) := by
  intro n
  induction n with
  | zero => intro v1 v2 g w1 w2 g2 h; rw [f_X4_totalKnots_4] at h; cases h
  | succ n ih =>
    intro v1 v2 g w1 w2 g2 h H locs ls hw hl kk
    rw [f_X4_totalKnots_4] at h
    refine lv_iload_n hC.x hC.b dX4_totalKnots_4 rfl (lv_at hl 0 rfl) ?_
    refine lv_aload_n hC.x hC.b dX4_totalKnots_5 rfl (lv_at hl 2 rfl) ?_
    refine x_get hC hw (k := 0) (T := TX4) (by decide) (k_E0 _ _ _) in_X4_totalKnots_X4 rfl (by decide) lk_X4_totalKnots_f10 rfl rfl dX4_totalKnots_6 ?_
    refine x_getN hC hw (k := 4) (T := TX0) (by decide) (k_E1 _ _ _) in_X4_totalKnots_X0 rfl (by decide) nw_f_X4_58 rfl rfl dX4_totalKnots_9 ?_
    refine lv_icmp_ge (tgt := 48) hC.x hC.b dX4_totalKnots_12 (by decide) (fun hc => ?_) (fun hc => ?_)
    · have h := it_t h hc
      obtain ⟨rfl, rfl, rfl⟩ := sm3 h
      exact kk _ _ _ hw (lv_sub hl [0, 1, 2] rfl)
    · have h := it_f h hc
      refine lv_iconst (v := (0 : Int32)) hC.x hC.b dX4_totalKnots_15 (by decide) ?_
      refine lv_istore_n (lv' := [(3, .int ((0 : Int32))), (2, .int (v2)), (1, .int (v1)), (0, .ref (k_ad Γ 0 (0)))]) hC.x hC.b dX4_totalKnots_16 rfl hl (by decide) rfl (fun ls hl => ?_)
      obtain ⟨w17_1, w17_3, g17, hq, h⟩ := bd3_t h
      refine w_X4_totalKnots_17 hC hcs  k_N _ _ _ _ _ _ hq _ _ _ hw (lv_sub hl [0, 1, 2, 3] rfl) (fun H locs ls hw hl => ?_)
      refine lv_iinc (v := v2 + (1 : Int32)) (lv' := [(2, .int (v2 + (1 : Int32))), (3, .int (w17_3)), (1, .int (w17_1)), (0, .ref (k_ad Γ 0 (0)))]) hC.x hC.b dX4_totalKnots_42 hl (k := 1) rfl rfl (by decide) rfl (fun ls hl => ?_)
      refine lv_goto (tgt := 4) hC.x hC.b dX4_totalKnots_45 (by decide) ?_
      exact ih _ _ _ _ _ _ h _ _ _ hw (lv_sub hl [0, 2, 3] rfl) kk

set_option maxRecDepth 100000 in
set_option maxHeartbeats 4000000 in
theorem c_X4_totalKnots {Γ : k_Pm} {l : Launch} (hl0 : l.stackTraces = false)   {g : Gt} {r : Int32} {g2 : Gt} (h : f_X4_totalKnots  g = some (r, g2)) : k_CI Γ l yX4_totalKnots wsX4_totalKnots rm_X4_totalKnots [.ref (k_ad Γ 0 (0))] g r g2 := by
  intro sz
  refine Met.ofW (cc := cX4_totalKnots) (maxL := 4) (ret := (some .int)) (by decide) rfl ?_
  intro p e s m args below meth c s₁ B hml hv
  obtain ⟨rfl, rfl, hP, hKS⟩ := hv
  have hr := B.returns
  have hlocks := B.notSynchronized
  have hC : k_C Γ (k_A Γ s.heap.size) p l s m _ c cX4_totalKnots 4 wsX4_totalKnots RX4 := k_C.of ⟨B.exec, B.bytes, hml, findClass_of_methodNamed B.named, atoms_spec (ws := wsX4_totalKnots) B.pre⟩ hKS hl0
  have hw : k_St Γ (k_A Γ s.heap.size) s [] g s.heap [] := k_St.of hKS hP
  have hl := lv_entry ([.ref (k_ad Γ 0 (0))] : List Value) (n := 4) (Nat.le_of_ble_eq_true rfl)
  rw [lg_entry_eq]
  generalize (lg_sl ([.ref (k_ad Γ 0 (0))] : List Value) ++ List.replicate (4 - (lg_sl ([.ref (k_ad Γ 0 (0))] : List Value)).length) Slot.unset).toArray = ls at hl ⊢
  have hl : lv_has ls 4 [(0, .ref (k_ad Γ 0 (0)))] := hl
  change W p l e rm_X4_totalKnots _ _ _ _ _ _ _ _ _ _ _ _
  unfold f_X4_totalKnots at h
  refine lv_iconst (v := (0 : Int32)) hC.x hC.b dX4_totalKnots_0 (by decide) ?_
  refine lv_istore_n (lv' := [(1, .int ((0 : Int32))), (0, .ref (k_ad Γ 0 (0)))]) hC.x hC.b dX4_totalKnots_1 rfl hl (by decide) rfl (fun ls hl => ?_)
  refine lv_iconst (v := (0 : Int32)) hC.x hC.b dX4_totalKnots_2 (by decide) ?_
  refine lv_istore_n (lv' := [(2, .int ((0 : Int32))), (1, .int ((0 : Int32))), (0, .ref (k_ad Γ 0 (0)))]) hC.x hC.b dX4_totalKnots_3 rfl hl (by decide) rfl (fun ls hl => ?_)
  obtain ⟨w4_1, w4_2, g4, hq, h⟩ := bd3_t h
  refine w_X4_totalKnots_4 hC ⟨by decide, by decide⟩  k_N _ _ _ _ _ _ hq _ _ _ hw (lv_sub hl [0, 1, 2] rfl) (fun H locs ls hw hl => ?_)
  refine lv_iload_n hC.x hC.b dX4_totalKnots_48 rfl (lv_at hl 1 rfl) ?_
  obtain ⟨rfl, rfl⟩ := sm2 h
  exact x_iret hC hw hr hlocks (by decide) (by decide) dX4_totalKnots_49
abbrev rm_X4_totalDisagreeing : Room := { frames := 2, cells := 0, slots := 0, locals := 44 }
theorem in_X4_totalDisagreeing_X4 : ∀ w ∈ wsX40, w ∈ wsX4_totalDisagreeing := fun _ h => List.mem_cons_of_mem _ (List.mem_append_left _ (List.mem_append_left _ (List.mem_append_right _ (h))))
theorem in_X4_totalDisagreeing_X0 : ∀ w ∈ wsX00, w ∈ wsX4_totalDisagreeing := fun _ h => List.mem_cons_of_mem _ (List.mem_append_left _ (List.mem_append_right _ (h)))
set_option maxRecDepth 20000 in
theorem lk_X4_totalDisagreeing_f10 : Cond.fieldLink RX4 10 "KnotArchive" "cords" "LKnotArchive$Cords;" ∈ wsX4_totalDisagreeing := by decide +kernel
set_option maxRecDepth 100000 in
set_option maxHeartbeats 4000000 in
theorem w_X4_totalDisagreeing_4 {Γ : k_Pm} {A0 : Nat → Prop} {p : Program} {l : Launch} {e : Env} {s : State} {m : MethodId} {args : Array Value} {below : List Frame} {meth : Method} {c : Code} {cells slots : Nat} {Q : State → Prop} {tmp : va_W} (hC : k_C Γ A0 p l s m args c cX4_totalDisagreeing 3 wsX4_totalDisagreeing RX4) (hcs : cells ≤ rm_X4_totalDisagreeing.cells ∧ slots ≤ rm_X4_totalDisagreeing.slots) : ∀ (n : Nat) (v1 : Int32) (v2 : Int32) (g : Gt) (w1 : Int32) (w2 : Int32) (g2 : Gt), f_X4_totalDisagreeing_4 n v1 v2 g = some (w1, w2, g2) → ∀ (H : Heap) (locs : List Loc) (ls : Array Slot), k_St Γ A0 s tmp g H locs → lv_has ls 3 [(2, .int (v2)), (1, .int (v1)), (0, .ref (k_ad Γ 0 (0)))] → (∀ (H1 : Heap) (locs1 : List Loc) (ls1 : Array Slot), k_St Γ A0 s tmp g2 H1 locs1 → lv_has ls1 3 [(2, .int (w2)), (1, .int (w1)), (0, .ref (k_ad Γ 0 (0)))] → W p l e rm_X4_totalDisagreeing s m args below meth c H1 locs1 cells slots Q (F0 m 32 ls1 [])) → W p l e rm_X4_totalDisagreeing s m args below meth c H locs cells slots Q (F0 m 4 ls []) := by
  intro n
  induction n with
  | zero => intro v1 v2 g w1 w2 g2 h; rw [f_X4_totalDisagreeing_4] at h; cases h
  | succ n ih =>
    intro v1 v2 g w1 w2 g2 h H locs ls hw hl kk
    rw [f_X4_totalDisagreeing_4] at h
    refine lv_iload_n hC.x hC.b dX4_totalDisagreeing_4 rfl (lv_at hl 0 rfl) ?_
    refine lv_aload_n hC.x hC.b dX4_totalDisagreeing_5 rfl (lv_at hl 2 rfl) ?_
    refine x_get hC hw (k := 0) (T := TX4) (by decide) (k_E0 _ _ _) in_X4_totalDisagreeing_X4 rfl (by decide) lk_X4_totalDisagreeing_f10 rfl rfl dX4_totalDisagreeing_6 ?_
    refine x_getN hC hw (k := 4) (T := TX0) (by decide) (k_E1 _ _ _) in_X4_totalDisagreeing_X0 rfl (by decide) nw_f_X4_58 rfl rfl dX4_totalDisagreeing_9 ?_
    refine lv_icmp_ge (tgt := 32) hC.x hC.b dX4_totalDisagreeing_12 (by decide) (fun hc => ?_) (fun hc => ?_)
    · have h := it_t h hc
      obtain ⟨rfl, rfl, rfl⟩ := sm3 h
      exact kk _ _ _ hw (lv_sub hl [0, 1, 2] rfl)
    · have h := it_f h hc
      refine lv_aload_n hC.x hC.b dX4_totalDisagreeing_15 rfl (lv_at hl 2 rfl) ?_
      refine lv_iload_n hC.x hC.b dX4_totalDisagreeing_16 rfl (lv_at hl 0 rfl) ?_
      obtain ⟨r17, g17, hq, h⟩ := bd2_t h
      refine x_goi hC hw (x_runV hC hw (c_X4_agrees (Γ := Γ) (l := l) hC.2.2.2.2 hq) (cwV 1 hC.t gX4_totalDisagreeing_X4_agrees rfl rfl rfl (by decide +kernel) ⟨Nat.le_of_ble_eq_true rfl, Nat.le_of_ble_eq_true rfl⟩) (As := [.int (v2)]) (by decide) (k_E0 _ _ _) rfl rfl rfl hl.1 (Nat.le_of_ble_eq_true rfl) dX4_totalDisagreeing_17 hcs) (fun H locs hw => ?_)
      refine lv_if_ne (tgt := 26) hC.x hC.b dX4_totalDisagreeing_20 (by decide) (fun hc => ?_) (fun hc => ?_)
      · have h := it_f h hc
        refine lv_iinc (v := v2 + (1 : Int32)) (lv' := [(2, .int (v2 + (1 : Int32))), (1, .int (v1)), (0, .ref (k_ad Γ 0 (0)))]) hC.x hC.b dX4_totalDisagreeing_26 hl (k := 0) rfl rfl (by decide) rfl (fun ls hl => ?_)
        refine lv_goto (tgt := 4) hC.x hC.b dX4_totalDisagreeing_29 (by decide) ?_
        exact ih _ _ _ _ _ _ h _ _ _ hw (lv_sub hl [0, 1, 2] rfl) kk
      · have h := it_t h hc
        refine lv_iinc (v := v1 + (1 : Int32)) (lv' := [(1, .int (v1 + (1 : Int32))), (2, .int (v2)), (0, .ref (k_ad Γ 0 (0)))]) hC.x hC.b dX4_totalDisagreeing_23 hl (k := 1) rfl rfl (by decide) rfl (fun ls hl => ?_)
        refine lv_iinc (v := v2 + (1 : Int32)) (lv' := [(2, .int (v2 + (1 : Int32))), (1, .int (v1 + (1 : Int32))), (0, .ref (k_ad Γ 0 (0)))]) hC.x hC.b dX4_totalDisagreeing_26 hl (k := 1) rfl rfl (by decide) rfl (fun ls hl => ?_)
        refine lv_goto (tgt := 4) hC.x hC.b dX4_totalDisagreeing_29 (by decide) ?_
        exact ih _ _ _ _ _ _ h _ _ _ hw (lv_sub hl [0, 1, 2] rfl) kk

set_option maxRecDepth 100000 in
set_option maxHeartbeats 4000000 in
theorem c_X4_totalDisagreeing {Γ : k_Pm} {l : Launch} (hl0 : l.stackTraces = false)   {g : Gt} {r : Int32} {g2 : Gt} (h : f_X4_totalDisagreeing  g = some (r, g2)) : k_CI Γ l yX4_totalDisagreeing wsX4_totalDisagreeing rm_X4_totalDisagreeing [.ref (k_ad Γ 0 (0))] g r g2 := by
  intro sz
  refine Met.ofW (cc := cX4_totalDisagreeing) (maxL := 3) (ret := (some .int)) (by decide) rfl ?_
  intro p e s m args below meth c s₁ B hml hv
  obtain ⟨rfl, rfl, hP, hKS⟩ := hv
  have hr := B.returns
  have hlocks := B.notSynchronized
  have hC : k_C Γ (k_A Γ s.heap.size) p l s m _ c cX4_totalDisagreeing 3 wsX4_totalDisagreeing RX4 := k_C.of ⟨B.exec, B.bytes, hml, findClass_of_methodNamed B.named, atoms_spec (ws := wsX4_totalDisagreeing) B.pre⟩ hKS hl0
  have hw : k_St Γ (k_A Γ s.heap.size) s [] g s.heap [] := k_St.of hKS hP
  have hl := lv_entry ([.ref (k_ad Γ 0 (0))] : List Value) (n := 3) (Nat.le_of_ble_eq_true rfl)
  rw [lg_entry_eq]
  generalize (lg_sl ([.ref (k_ad Γ 0 (0))] : List Value) ++ List.replicate (3 - (lg_sl ([.ref (k_ad Γ 0 (0))] : List Value)).length) Slot.unset).toArray = ls at hl ⊢
  have hl : lv_has ls 3 [(0, .ref (k_ad Γ 0 (0)))] := hl
  change W p l e rm_X4_totalDisagreeing _ _ _ _ _ _ _ _ _ _ _ _
  unfold f_X4_totalDisagreeing at h
  refine lv_iconst (v := (0 : Int32)) hC.x hC.b dX4_totalDisagreeing_0 (by decide) ?_
  refine lv_istore_n (lv' := [(1, .int ((0 : Int32))), (0, .ref (k_ad Γ 0 (0)))]) hC.x hC.b dX4_totalDisagreeing_1 rfl hl (by decide) rfl (fun ls hl => ?_)
  refine lv_iconst (v := (0 : Int32)) hC.x hC.b dX4_totalDisagreeing_2 (by decide) ?_
  refine lv_istore_n (lv' := [(2, .int ((0 : Int32))), (1, .int ((0 : Int32))), (0, .ref (k_ad Γ 0 (0)))]) hC.x hC.b dX4_totalDisagreeing_3 rfl hl (by decide) rfl (fun ls hl => ?_)
  obtain ⟨w4_1, w4_2, g4, hq, h⟩ := bd3_t h
  refine w_X4_totalDisagreeing_4 hC ⟨by decide, by decide⟩  k_N _ _ _ _ _ _ hq _ _ _ hw (lv_sub hl [0, 1, 2] rfl) (fun H locs ls hw hl => ?_)
  refine lv_iload_n hC.x hC.b dX4_totalDisagreeing_32 rfl (lv_at hl 1 rfl) ?_
  obtain ⟨rfl, rfl⟩ := sm2 h
  exact x_iret hC hw hr hlocks (by decide) (by decide) dX4_totalDisagreeing_33
abbrev rm_X4_totalSaidAtBeam : Room := { frames := 0, cells := 0, slots := 0, locals := 0 }
theorem in_X4_totalSaidAtBeam_X4 : ∀ w ∈ wsX40, w ∈ wsX4_totalSaidAtBeam := fun _ h => List.mem_cons_of_mem _ (List.mem_append_left _ (List.mem_append_right _ (h)))
theorem in_X4_totalSaidAtBeam_X0 : ∀ w ∈ wsX00, w ∈ wsX4_totalSaidAtBeam := fun _ h => List.mem_cons_of_mem _ (List.mem_append_right _ (h))
set_option maxRecDepth 20000 in
theorem lk_X4_totalSaidAtBeam_f10 : Cond.fieldLink RX4 10 "KnotArchive" "cords" "LKnotArchive$Cords;" ∈ wsX4_totalSaidAtBeam := by decide +kernel
set_option maxRecDepth 100000 in
set_option maxHeartbeats 4000000 in
theorem w_X4_totalSaidAtBeam_4 {Γ : k_Pm} {A0 : Nat → Prop} {p : Program} {l : Launch} {e : Env} {s : State} {m : MethodId} {args : Array Value} {below : List Frame} {meth : Method} {c : Code} {cells slots : Nat} {Q : State → Prop} {tmp : va_W} (hC : k_C Γ A0 p l s m args c cX4_totalSaidAtBeam 3 wsX4_totalSaidAtBeam RX4) (hcs : cells ≤ rm_X4_totalSaidAtBeam.cells ∧ slots ≤ rm_X4_totalSaidAtBeam.slots) : ∀ (n : Nat) (v1 : Int32) (v2 : Int32) (g : Gt) (w1 : Int32) (w2 : Int32) (g2 : Gt), f_X4_totalSaidAtBeam_4 n v1 v2 g = some (w1, w2, g2) → ∀ (H : Heap) (locs : List Loc) (ls : Array Slot), k_St Γ A0 s tmp g H locs → lv_has ls 3 [(2, .int (v2)), (1, .int (v1)), (0, .ref (k_ad Γ 0 (0)))] → (∀ (H1 : Heap) (locs1 : List Loc) (ls1 : Array Slot), k_St Γ A0 s tmp g2 H1 locs1 → lv_has ls1 3 [(2, .int (w2)), (1, .int (w1)), (0, .ref (k_ad Γ 0 (0)))] → W p l e rm_X4_totalSaidAtBeam s m args below meth c H1 locs1 cells slots Q (F0 m 46 ls1 [])) → W p l e rm_X4_totalSaidAtBeam s m args below meth c H locs cells slots Q (F0 m 4 ls []) := by
  intro n
  induction n with
  | zero => intro v1 v2 g w1 w2 g2 h; rw [f_X4_totalSaidAtBeam_4] at h; cases h
  | succ n ih =>
    intro v1 v2 g w1 w2 g2 h H locs ls hw hl kk
    rw [f_X4_totalSaidAtBeam_4] at h
    refine lv_iload_n hC.x hC.b dX4_totalSaidAtBeam_4 rfl (lv_at hl 0 rfl) ?_
    refine lv_aload_n hC.x hC.b dX4_totalSaidAtBeam_5 rfl (lv_at hl 2 rfl) ?_
    refine x_get hC hw (k := 0) (T := TX4) (by decide) (k_E0 _ _ _) in_X4_totalSaidAtBeam_X4 rfl (by decide) lk_X4_totalSaidAtBeam_f10 rfl rfl dX4_totalSaidAtBeam_6 ?_
    refine x_getN hC hw (k := 4) (T := TX0) (by decide) (k_E1 _ _ _) in_X4_totalSaidAtBeam_X0 rfl (by decide) nw_f_X4_58 rfl rfl dX4_totalSaidAtBeam_9 ?_
    refine lv_icmp_ge (tgt := 46) hC.x hC.b dX4_totalSaidAtBeam_12 (by decide) (fun hc => ?_) (fun hc => ?_)
    · have h := it_t h hc
      obtain ⟨rfl, rfl, rfl⟩ := sm3 h
      exact kk _ _ _ hw (lv_sub hl [0, 1, 2] rfl)
    · have h := it_f h hc
      refine lv_aload_n hC.x hC.b dX4_totalSaidAtBeam_15 rfl (lv_at hl 2 rfl) ?_
      refine x_get hC hw (k := 0) (T := TX4) (by decide) (k_E0 _ _ _) in_X4_totalSaidAtBeam_X4 rfl (by decide) lk_X4_totalSaidAtBeam_f10 rfl rfl dX4_totalSaidAtBeam_16 ?_
      refine x_getN hC hw (k := 0) (T := TX0) (by decide) (k_E1 _ _ _) in_X4_totalSaidAtBeam_X0 rfl (by decide) nw_f_X4_236 rfl rfl dX4_totalSaidAtBeam_19 ?_
      refine lv_iload_n hC.x hC.b dX4_totalSaidAtBeam_22 rfl (lv_at hl 0 rfl) ?_
      obtain ⟨hg1, h⟩ := gd_t h
      refine x_iald hC hw rfl (by decide) hg1 dX4_totalSaidAtBeam_23 ?_
      refine lv_iconst (v := (-1 : Int32)) hC.x hC.b dX4_totalSaidAtBeam_24 (by decide) ?_
      refine lv_icmp_ne (tgt := 40) hC.x hC.b dX4_totalSaidAtBeam_25 (by decide) (fun hc => ?_) (fun hc => ?_)
      · have h := it_f h hc
        refine lv_iinc (v := v2 + (1 : Int32)) (lv' := [(2, .int (v2 + (1 : Int32))), (1, .int (v1)), (0, .ref (k_ad Γ 0 (0)))]) hC.x hC.b dX4_totalSaidAtBeam_40 hl (k := 0) rfl rfl (by decide) rfl (fun ls hl => ?_)
        refine lv_goto (tgt := 4) hC.x hC.b dX4_totalSaidAtBeam_43 (by decide) ?_
        exact ih _ _ _ _ _ _ h _ _ _ hw (lv_sub hl [0, 1, 2] rfl) kk
      · have h := it_t h hc
        refine lv_iload_n hC.x hC.b dX4_totalSaidAtBeam_28 rfl (lv_at hl 1 rfl) ?_
        refine lv_aload_n hC.x hC.b dX4_totalSaidAtBeam_29 rfl (lv_at hl 2 rfl) ?_
        refine x_get hC hw (k := 0) (T := TX4) (by decide) (k_E0 _ _ _) in_X4_totalSaidAtBeam_X4 rfl (by decide) lk_X4_totalSaidAtBeam_f10 rfl rfl dX4_totalSaidAtBeam_30 ?_
        refine x_getN hC hw (k := 2) (T := TX0) (by decide) (k_E1 _ _ _) in_X4_totalSaidAtBeam_X0 rfl (by decide) nw_f_X4_131 rfl rfl dX4_totalSaidAtBeam_33 ?_
        refine lv_iload_n hC.x hC.b dX4_totalSaidAtBeam_36 rfl (lv_at hl 0 rfl) ?_
        obtain ⟨hg2, h⟩ := gd_t h
        refine x_iald hC hw rfl (by decide) hg2 dX4_totalSaidAtBeam_37 ?_
        refine lv_iadd hC.x hC.b dX4_totalSaidAtBeam_38 ?_
        refine lv_istore_n (lv' := [(1, .int (v1 + (g 12 0 v2.toNatClampNeg))), (2, .int (v2)), (0, .ref (k_ad Γ 0 (0)))]) hC.x hC.b dX4_totalSaidAtBeam_39 rfl hl (by decide) rfl (fun ls hl => ?_)
        refine lv_iinc (v := v2 + (1 : Int32)) (lv' := [(2, .int (v2 + (1 : Int32))), (1, .int (v1 + (g 12 0 v2.toNatClampNeg))), (0, .ref (k_ad Γ 0 (0)))]) hC.x hC.b dX4_totalSaidAtBeam_40 hl (k := 1) rfl rfl (by decide) rfl (fun ls hl => ?_)
        refine lv_goto (tgt := 4) hC.x hC.b dX4_totalSaidAtBeam_43 (by decide) ?_
        exact ih _ _ _ _ _ _ h _ _ _ hw (lv_sub hl [0, 1, 2] rfl) kk

set_option maxRecDepth 100000 in
set_option maxHeartbeats 4000000 in
theorem c_X4_totalSaidAtBeam {Γ : k_Pm} {l : Launch} (hl0 : l.stackTraces = false)   {g : Gt} {r : Int32} {g2 : Gt} (h : f_X4_totalSaidAtBeam  g = some (r, g2)) : k_CI Γ l yX4_totalSaidAtBeam wsX4_totalSaidAtBeam rm_X4_totalSaidAtBeam [.ref (k_ad Γ 0 (0))] g r g2 := by
  intro sz
  refine Met.ofW (cc := cX4_totalSaidAtBeam) (maxL := 3) (ret := (some .int)) (by decide) rfl ?_
  intro p e s m args below meth c s₁ B hml hv
  obtain ⟨rfl, rfl, hP, hKS⟩ := hv
  have hr := B.returns
  have hlocks := B.notSynchronized
  have hC : k_C Γ (k_A Γ s.heap.size) p l s m _ c cX4_totalSaidAtBeam 3 wsX4_totalSaidAtBeam RX4 := k_C.of ⟨B.exec, B.bytes, hml, findClass_of_methodNamed B.named, atoms_spec (ws := wsX4_totalSaidAtBeam) B.pre⟩ hKS hl0
  have hw : k_St Γ (k_A Γ s.heap.size) s [] g s.heap [] := k_St.of hKS hP
  have hl := lv_entry ([.ref (k_ad Γ 0 (0))] : List Value) (n := 3) (Nat.le_of_ble_eq_true rfl)
  rw [lg_entry_eq]
  generalize (lg_sl ([.ref (k_ad Γ 0 (0))] : List Value) ++ List.replicate (3 - (lg_sl ([.ref (k_ad Γ 0 (0))] : List Value)).length) Slot.unset).toArray = ls at hl ⊢
  have hl : lv_has ls 3 [(0, .ref (k_ad Γ 0 (0)))] := hl
  change W p l e rm_X4_totalSaidAtBeam _ _ _ _ _ _ _ _ _ _ _ _
  unfold f_X4_totalSaidAtBeam at h
  refine lv_iconst (v := (0 : Int32)) hC.x hC.b dX4_totalSaidAtBeam_0 (by decide) ?_
  refine lv_istore_n (lv' := [(1, .int ((0 : Int32))), (0, .ref (k_ad Γ 0 (0)))]) hC.x hC.b dX4_totalSaidAtBeam_1 rfl hl (by decide) rfl (fun ls hl => ?_)
  refine lv_iconst (v := (0 : Int32)) hC.x hC.b dX4_totalSaidAtBeam_2 (by decide) ?_
  refine lv_istore_n (lv' := [(2, .int ((0 : Int32))), (1, .int ((0 : Int32))), (0, .ref (k_ad Γ 0 (0)))]) hC.x hC.b dX4_totalSaidAtBeam_3 rfl hl (by decide) rfl (fun ls hl => ?_)
  obtain ⟨w4_1, w4_2, g4, hq, h⟩ := bd3_t h
  refine w_X4_totalSaidAtBeam_4 hC ⟨by decide, by decide⟩  k_N _ _ _ _ _ _ hq _ _ _ hw (lv_sub hl [0, 1, 2] rfl) (fun H locs ls hw hl => ?_)
  refine lv_iload_n hC.x hC.b dX4_totalSaidAtBeam_46 rfl (lv_at hl 1 rfl) ?_
  obtain ⟨rfl, rfl⟩ := sm2 h
  exact x_iret hC hw hr hlocks (by decide) (by decide) dX4_totalSaidAtBeam_47
abbrev rm_X4_total : Room := { frames := 3, cells := 0, slots := 0, locals := 66 }
theorem in_X4_total_X4 : ∀ w ∈ wsX40, w ∈ wsX4_total := fun _ h => List.mem_cons_of_mem _ (List.mem_append_left _ (List.mem_append_left _ (List.mem_append_left _ (List.mem_append_left _ (List.mem_append_right _ (h))))))
theorem in_X4_total_X0 : ∀ w ∈ wsX00, w ∈ wsX4_total := fun _ h => List.mem_cons_of_mem _ (List.mem_append_left _ (List.mem_append_left _ (List.mem_append_left _ (List.mem_append_right _ (h)))))
theorem in_X4_total_X3 : ∀ w ∈ wsX30, w ∈ wsX4_total := fun _ h => List.mem_cons_of_mem _ (List.mem_append_left _ (List.mem_append_left _ (List.mem_append_right _ (h))))
theorem in_X4_total_X2 : ∀ w ∈ wsX20, w ∈ wsX4_total := fun _ h => List.mem_cons_of_mem _ (List.mem_append_left _ (List.mem_append_right _ (h)))
set_option maxRecDepth 20000 in
theorem lk_X4_total_f40 : Cond.fieldLink RX4 40 "KnotArchive" "year" "I" ∈ wsX4_total := by decide +kernel
set_option maxRecDepth 20000 in
theorem lk_X4_total_f10 : Cond.fieldLink RX4 10 "KnotArchive" "cords" "LKnotArchive$Cords;" ∈ wsX4_total := by decide +kernel
set_option maxRecDepth 20000 in
theorem lk_X4_total_f29 : Cond.fieldLink RX4 29 "KnotArchive" "witnesses" "LKnotArchive$Witnesses;" ∈ wsX4_total := by decide +kernel
set_option maxRecDepth 20000 in
theorem lk_X4_total_f36 : Cond.fieldLink RX4 36 "KnotArchive" "untyings" "LKnotArchive$Untyings;" ∈ wsX4_total := by decide +kernel
set_option maxRecDepth 20000 in
theorem lk_X4_total_f44 : Cond.fieldLink RX4 44 "KnotArchive" "lost" "I" ∈ wsX4_total := by decide +kernel
set_option maxRecDepth 100000 in
set_option maxHeartbeats 4000000 in
theorem c_X4_total {Γ : k_Pm} {l : Launch} (hl0 : l.stackTraces = false) {x1 : Int32}  {g : Gt} {r : Int32} {g2 : Gt} (h : f_X4_total x1 g = some (r, g2)) : k_CI Γ l yX4_total wsX4_total rm_X4_total [.ref (k_ad Γ 0 (0)), .int (x1)] g r g2 := by
  intro sz
  refine Met.ofW (cc := cX4_total) (maxL := 2) (ret := (some .int)) (by decide) rfl ?_
  intro p e s m args below meth c s₁ B hml hv
  obtain ⟨rfl, rfl, hP, hKS⟩ := hv
  have hr := B.returns
  have hlocks := B.notSynchronized
  have hC : k_C Γ (k_A Γ s.heap.size) p l s m _ c cX4_total 2 wsX4_total RX4 := k_C.of ⟨B.exec, B.bytes, hml, findClass_of_methodNamed B.named, atoms_spec (ws := wsX4_total) B.pre⟩ hKS hl0
  have hw : k_St Γ (k_A Γ s.heap.size) s [] g s.heap [] := k_St.of hKS hP
  have hl := lv_entry ([.ref (k_ad Γ 0 (0)), .int (x1)] : List Value) (n := 2) (Nat.le_of_ble_eq_true rfl)
  rw [lg_entry_eq]
  generalize (lg_sl ([.ref (k_ad Γ 0 (0)), .int (x1)] : List Value) ++ List.replicate (2 - (lg_sl ([.ref (k_ad Γ 0 (0)), .int (x1)] : List Value)).length) Slot.unset).toArray = ls at hl ⊢
  have hl : lv_has ls 2 [(0, .ref (k_ad Γ 0 (0))), (1, .int (x1))] := hl
  change W p l e rm_X4_total _ _ _ _ _ _ _ _ _ _ _ _
  unfold f_X4_total at h
  refine lv_iload_n hC.x hC.b dX4_total_0 rfl (lv_at hl 1 rfl) ?_
  by_cases hs0 : x1 = 0
  · have h := it_t h hs0
    refine lv_tableIn (off := 43) (tgt := 44) hC.x hC.b dX4_total_1 (by rw [hs0]; decide) (by rw [hs0]; decide) (by rw [hs0]; decide) (by decide) ?_
    refine lv_aload_n hC.x hC.b dX4_total_44 rfl (lv_at hl 0 rfl) ?_
    refine x_get hC hw (k := 5) (T := TX4) (by decide) (k_E0 _ _ _) in_X4_total_X4 rfl (by decide) lk_X4_total_f40 rfl rfl dX4_total_45 ?_
    obtain ⟨rfl, rfl⟩ := sm2 h
    exact x_iret hC hw hr hlocks (by decide) (by decide) dX4_total_48
  have h := it_f h hs0
  by_cases hs1 : x1 = 1
  · have h := it_t h hs1
    refine lv_tableIn (off := 48) (tgt := 49) hC.x hC.b dX4_total_1 (by rw [hs1]; decide) (by rw [hs1]; decide) (by rw [hs1]; decide) (by decide) ?_
    refine lv_aload_n hC.x hC.b dX4_total_49 rfl (lv_at hl 0 rfl) ?_
    refine x_get hC hw (k := 0) (T := TX4) (by decide) (k_E0 _ _ _) in_X4_total_X4 rfl (by decide) lk_X4_total_f10 rfl rfl dX4_total_50 ?_
    refine x_getN hC hw (k := 4) (T := TX0) (by decide) (k_E1 _ _ _) in_X4_total_X0 rfl (by decide) nw_f_X4_58 rfl rfl dX4_total_53 ?_
    obtain ⟨rfl, rfl⟩ := sm2 h
    exact x_iret hC hw hr hlocks (by decide) (by decide) dX4_total_56
  have h := it_f h hs1
  by_cases hs2 : x1 = 2
  · have h := it_t h hs2
    refine lv_tableIn (off := 56) (tgt := 57) hC.x hC.b dX4_total_1 (by rw [hs2]; decide) (by rw [hs2]; decide) (by rw [hs2]; decide) (by decide) ?_
    refine lv_aload_n hC.x hC.b dX4_total_57 rfl (lv_at hl 0 rfl) ?_
    refine x_get hC hw (k := 3) (T := TX4) (by decide) (k_E0 _ _ _) in_X4_total_X4 rfl (by decide) lk_X4_total_f29 rfl rfl dX4_total_58 ?_
    refine x_getN hC hw (k := 3) (T := TX3) (by decide) (k_E3 _ _ _) in_X4_total_X3 rfl (by decide) nw_f_X4_125 rfl rfl dX4_total_61 ?_
    obtain ⟨rfl, rfl⟩ := sm2 h
    exact x_iret hC hw hr hlocks (by decide) (by decide) dX4_total_64
  have h := it_f h hs2
  by_cases hs3 : x1 = 3
  · have h := it_t h hs3
    refine lv_tableIn (off := 64) (tgt := 65) hC.x hC.b dX4_total_1 (by rw [hs3]; decide) (by rw [hs3]; decide) (by rw [hs3]; decide) (by decide) ?_
    refine lv_aload_n hC.x hC.b dX4_total_65 rfl (lv_at hl 0 rfl) ?_
    obtain ⟨r66, g66, hq, h⟩ := bd2_t h
    refine x_goi hC hw (x_runV hC hw (c_X4_totalKnots (Γ := Γ) (l := l) hC.2.2.2.2 hq) (cwV 0 hC.t gX4_total_X4_totalKnots rfl rfl rfl (by decide +kernel) ⟨Nat.le_of_ble_eq_true rfl, Nat.le_of_ble_eq_true rfl⟩) (As := []) (by decide) (k_E0 _ _ _) rfl rfl rfl hl.1 (Nat.le_of_ble_eq_true rfl) dX4_total_66 ⟨by decide, by decide⟩) (fun H locs hw => ?_)
    obtain ⟨rfl, rfl⟩ := sm2 h
    exact x_iret hC hw hr hlocks (by decide) (by decide) dX4_total_69
  have h := it_f h hs3
  by_cases hs4 : x1 = 4
  · have h := it_t h hs4
    refine lv_tableIn (off := 69) (tgt := 70) hC.x hC.b dX4_total_1 (by rw [hs4]; decide) (by rw [hs4]; decide) (by rw [hs4]; decide) (by decide) ?_
    refine lv_aload_n hC.x hC.b dX4_total_70 rfl (lv_at hl 0 rfl) ?_
    refine x_get hC hw (k := 4) (T := TX4) (by decide) (k_E0 _ _ _) in_X4_total_X4 rfl (by decide) lk_X4_total_f36 rfl rfl dX4_total_71 ?_
    refine x_getN hC hw (k := 1) (T := TX2) (by decide) (k_E4 _ _ _) in_X4_total_X2 rfl (by decide) nw_f_X4_99 rfl rfl dX4_total_74 ?_
    obtain ⟨rfl, rfl⟩ := sm2 h
    exact x_iret hC hw hr hlocks (by decide) (by decide) dX4_total_77
  have h := it_f h hs4
  by_cases hs5 : x1 = 5
  · have h := it_t h hs5
    refine lv_tableIn (off := 77) (tgt := 78) hC.x hC.b dX4_total_1 (by rw [hs5]; decide) (by rw [hs5]; decide) (by rw [hs5]; decide) (by decide) ?_
    refine lv_aload_n hC.x hC.b dX4_total_78 rfl (lv_at hl 0 rfl) ?_
    obtain ⟨r79, g79, hq, h⟩ := bd2_t h
    refine x_goi hC hw (x_runV hC hw (c_X4_totalDisagreeing (Γ := Γ) (l := l) hC.2.2.2.2 hq) (cwV 0 hC.t gX4_total_X4_totalDisagreeing rfl rfl rfl (by decide +kernel) ⟨Nat.le_of_ble_eq_true rfl, Nat.le_of_ble_eq_true rfl⟩) (As := []) (by decide) (k_E0 _ _ _) rfl rfl rfl hl.1 (Nat.le_of_ble_eq_true rfl) dX4_total_79 ⟨by decide, by decide⟩) (fun H locs hw => ?_)
    obtain ⟨rfl, rfl⟩ := sm2 h
    exact x_iret hC hw hr hlocks (by decide) (by decide) dX4_total_82
  have h := it_f h hs5
  by_cases hs6 : x1 = 6
  · have h := it_t h hs6
    refine lv_tableIn (off := 82) (tgt := 83) hC.x hC.b dX4_total_1 (by rw [hs6]; decide) (by rw [hs6]; decide) (by rw [hs6]; decide) (by decide) ?_
    refine lv_aload_n hC.x hC.b dX4_total_83 rfl (lv_at hl 0 rfl) ?_
    obtain ⟨r84, g84, hq, h⟩ := bd2_t h
    refine x_goi hC hw (x_runV hC hw (c_X4_totalSaidAtBeam (Γ := Γ) (l := l) hC.2.2.2.2 hq) (cwV 0 hC.t gX4_total_X4_totalSaidAtBeam rfl rfl rfl (by decide +kernel) ⟨Nat.le_of_ble_eq_true rfl, Nat.le_of_ble_eq_true rfl⟩) (As := []) (by decide) (k_E0 _ _ _) rfl rfl rfl hl.1 (Nat.le_of_ble_eq_true rfl) dX4_total_84 ⟨by decide, by decide⟩) (fun H locs hw => ?_)
    obtain ⟨rfl, rfl⟩ := sm2 h
    exact x_iret hC hw hr hlocks (by decide) (by decide) dX4_total_87
  have h := it_f h hs6
  refine lv_tableOut (tgt := 88) hC.x hC.b dX4_total_1 (k_out6 hs0 hs1 hs2 hs3 hs4 hs5 hs6) (by decide) ?_
  refine lv_aload_n hC.x hC.b dX4_total_88 rfl (lv_at hl 0 rfl) ?_
  refine x_get hC hw (k := 6) (T := TX4) (by decide) (k_E0 _ _ _) in_X4_total_X4 rfl (by decide) lk_X4_total_f44 rfl rfl dX4_total_89 ?_
  obtain ⟨rfl, rfl⟩ := sm2 h
  exact x_iret hC hw hr hlocks (by decide) (by decide) dX4_total_92
abbrev rm_X4_count : Room := { frames := 7, cells := 1, slots := 6, locals := 103 }
theorem in_X4_count_X4 : ∀ w ∈ wsX40, w ∈ wsX4_count := fun _ h => List.mem_cons_of_mem _ (List.mem_append_left _ (List.mem_append_left _ (List.mem_append_left _ (List.mem_append_left _ (List.mem_append_left _ (List.mem_append_right _ (h)))))))
set_option maxRecDepth 20000 in
theorem lk_X4_count_f10 : Cond.fieldLink RX4 10 "KnotArchive" "cords" "LKnotArchive$Cords;" ∈ wsX4_count := by decide +kernel
set_option maxRecDepth 20000 in
theorem lk_X4_count_f19 : Cond.fieldLink RX4 19 "KnotArchive" "nowKnots" "LKnotArchive$Knots;" ∈ wsX4_count := by decide +kernel
set_option maxRecDepth 20000 in
theorem lk_X4_count_iX0 : Cond.initialized RX0 ∈ wsX4_count := by decide +kernel
set_option maxRecDepth 20000 in
theorem lk_X4_count_nX0_tell : Cond.instanceMethod yX0_tell ∈ wsX4_count := by decide +kernel
set_option maxRecDepth 20000 in
theorem lk_X4_count_zX0_tell : Cond.selects RX0 yX0_tell yX0_tell ∈ wsX4_count := by decide +kernel
set_option maxRecDepth 100000 in
set_option maxHeartbeats 4000000 in
theorem c_X4_count {Γ : k_Pm} {l : Launch} (hl0 : l.stackTraces = false) {x1 : Int32}  {g : Gt} {k : Nat} {r : Int32} {g2 : Gt} (h : f_X4_count x1 g = some (k, r, g2)) : k_CXI Γ l yX4_count wsX4_count rm_X4_count [.ref (k_ad Γ 0 (0)), .int (x1)] g k r g2 := by
  intro sz
  refine vx_ofW (cc := cX4_count) (maxL := 2) (ret := (some .int)) (by decide) rfl ?_
  intro p e s m args below meth c s₁ B hml hout hv
  obtain ⟨rfl, rfl, hP, hKS⟩ := hv
  have hr := B.returns
  have hlocks := B.notSynchronized
  have hC : k_C Γ (k_A Γ s.heap.size) p l s m _ c cX4_count 2 wsX4_count RX4 := k_C.of ⟨B.exec, B.bytes, hml, findClass_of_methodNamed B.named, atoms_spec (ws := wsX4_count) B.pre⟩ hKS hl0
  have hw : k_St Γ (k_A Γ s.heap.size) s [] g s.heap [] := k_St.of hKS hP
  have hl := lv_entry ([.ref (k_ad Γ 0 (0)), .int (x1)] : List Value) (n := 2) (Nat.le_of_ble_eq_true rfl)
  rw [lg_entry_eq]
  generalize (lg_sl ([.ref (k_ad Γ 0 (0)), .int (x1)] : List Value) ++ List.replicate (2 - (lg_sl ([.ref (k_ad Γ 0 (0)), .int (x1)] : List Value)).length) Slot.unset).toArray = ls at hl ⊢
  have hl : lv_has ls 2 [(0, .ref (k_ad Γ 0 (0))), (1, .int (x1))] := hl
  change W p l e rm_X4_count _ _ _ _ _ _ _ _ _ _ _ _
  unfold f_X4_count at h
  refine lv_iload_n hC.x hC.b dX4_count_0 rfl (lv_at hl 1 rfl) ?_
  refine lv_bipush (v := (8 : Int32)) hC.x hC.b dX4_count_1 (by decide) ?_
  obtain ⟨k3, g3, hq, h⟩ := bd2_t h
  refine x_goxv hC hw (x_runxS hC hw (c_X4_checkWhat (Γ := Γ) (l := l) hC.2.2.2.2 hq) (va_cwS 2 hC.t gX4_count_X4_checkWhat rfl rfl rfl (by decide +kernel) ⟨Nat.le_of_ble_eq_true rfl, Nat.le_of_ble_eq_true rfl⟩) (As := [.int (x1), .int ((8 : Int32))]) rfl hl.1 (Nat.le_of_ble_eq_true rfl) dX4_count_3 ⟨by decide, by decide⟩) (fun E ce q9 H locs hk hE hw hce hcv hcl => ?_) (fun hk H locs hw => ?_)
  · have h := it_f h hk
    obtain ⟨rfl, rfl, rfl⟩ := sm3 h
    exact x_out hw hout hlocks hk hE hce hcv hcl (by decide) (by decide)
  · have h := it_t h hk
    refine lv_aload_n hC.x hC.b dX4_count_6 rfl (lv_at hl 0 rfl) ?_
    refine x_get hC hw (k := 0) (T := TX4) (by decide) (k_E0 _ _ _) in_X4_count_X4 rfl (by decide) lk_X4_count_f10 rfl rfl dX4_count_7 ?_
    refine lv_aload_n hC.x hC.b dX4_count_10 rfl (lv_at hl 0 rfl) ?_
    refine x_get hC hw (k := 1) (T := TX4) (by decide) (k_E0 _ _ _) in_X4_count_X4 rfl (by decide) lk_X4_count_f19 rfl rfl dX4_count_11 ?_
    obtain ⟨g14, hq, h⟩ := bd1_t h
    refine x_gov hC hw (x_runN hC hw (c_X0_tell (Γ := Γ) (l := l) hC.2.2.2.2 (by decide) hq) ⟨va_cnB 1 hC.t gX4_count_X0_tell_n115 rfl rfl rfl (hC.w nw_m_X4_115) (hC.t _ lk_X4_count_iX0) (by decide +kernel) ⟨Nat.le_of_ble_eq_true rfl, Nat.le_of_ble_eq_true rfl⟩, hC.t _ lk_X4_count_nX0_tell, hC.t _ lk_X4_count_zX0_tell⟩ (As := [.ref (k_ad Γ 2 (0))]) (by decide) (k_E1 _ _ _) rfl rfl rfl hl.1 (Nat.le_of_ble_eq_true rfl) dX4_count_14 ⟨by decide, by decide⟩) (fun H locs hw => ?_)
    refine lv_aload_n hC.x hC.b dX4_count_17 rfl (lv_at hl 0 rfl) ?_
    refine lv_iload_n hC.x hC.b dX4_count_18 rfl (lv_at hl 1 rfl) ?_
    obtain ⟨r19, g19, hq, h⟩ := bd2_t h
    refine x_goi hC hw (x_runV hC hw (c_X4_total (Γ := Γ) (l := l) hC.2.2.2.2 hq) (cwV 1 hC.t gX4_count_X4_total rfl rfl rfl (by decide +kernel) ⟨Nat.le_of_ble_eq_true rfl, Nat.le_of_ble_eq_true rfl⟩) (As := [.int (x1)]) (by decide) (k_E0 _ _ _) rfl rfl rfl hl.1 (Nat.le_of_ble_eq_true rfl) dX4_count_19 ⟨by decide, by decide⟩) (fun H locs hw => ?_)
    obtain ⟨rfl, rfl, rfl⟩ := sm3 h
    exact x_xiret hC hw hr hlocks (by decide) (by decide) dX4_count_22
abbrev rm_X4_fades : Room := { frames := 7, cells := 2, slots := 12, locals := 103 }
theorem in_X4_fades_X4 : ∀ w ∈ wsX40, w ∈ wsX4_fades := fun _ h => List.mem_cons_of_mem _ (List.mem_append_left _ (List.mem_append_left _ (List.mem_append_left _ (List.mem_append_left _ (List.mem_append_right _ (h))))))
theorem in_X4_fades_X0 : ∀ w ∈ wsX00, w ∈ wsX4_fades := fun _ h => List.mem_cons_of_mem _ (List.mem_append_left _ (List.mem_append_left _ (List.mem_append_left _ (List.mem_append_right _ (h)))))
set_option maxRecDepth 20000 in
theorem lk_X4_fades_f23 : Cond.fieldLink RX4 23 "KnotArchive" "laterKnots" "LKnotArchive$Knots;" ∈ wsX4_fades := by decide +kernel
set_option maxRecDepth 20000 in
theorem lk_X4_fades_f19 : Cond.fieldLink RX4 19 "KnotArchive" "nowKnots" "LKnotArchive$Knots;" ∈ wsX4_fades := by decide +kernel
set_option maxRecDepth 20000 in
theorem lk_X4_fades_iX1 : Cond.initialized RX1 ∈ wsX4_fades := by decide +kernel
set_option maxRecDepth 20000 in
theorem lk_X4_fades_nX1_copyFrom : Cond.instanceMethod yX1_copyFrom ∈ wsX4_fades := by decide +kernel
set_option maxRecDepth 20000 in
theorem lk_X4_fades_zX1_copyFrom : Cond.selects RX1 yX1_copyFrom yX1_copyFrom ∈ wsX4_fades := by decide +kernel
set_option maxRecDepth 20000 in
theorem lk_X4_fades_f10 : Cond.fieldLink RX4 10 "KnotArchive" "cords" "LKnotArchive$Cords;" ∈ wsX4_fades := by decide +kernel
set_option maxRecDepth 20000 in
theorem lk_X4_fades_nX1_fray : Cond.instanceMethod yX1_fray ∈ wsX4_fades := by decide +kernel
set_option maxRecDepth 20000 in
theorem lk_X4_fades_zX1_fray : Cond.selects RX1 yX1_fray yX1_fray ∈ wsX4_fades := by decide +kernel
set_option maxRecDepth 20000 in
theorem lk_X4_fades_iX0 : Cond.initialized RX0 ∈ wsX4_fades := by decide +kernel
set_option maxRecDepth 20000 in
theorem lk_X4_fades_nX0_tell : Cond.instanceMethod yX0_tell ∈ wsX4_fades := by decide +kernel
set_option maxRecDepth 20000 in
theorem lk_X4_fades_zX0_tell : Cond.selects RX0 yX0_tell yX0_tell ∈ wsX4_fades := by decide +kernel
set_option maxRecDepth 100000 in
set_option maxHeartbeats 4000000 in
theorem c_X4_fades {Γ : k_Pm} {l : Launch} (hl0 : l.stackTraces = false) {x1 : Int32} {x2 : Int32}  {g : Gt} {k : Nat} {r : Int32} {g2 : Gt} (h : f_X4_fades x1 x2 g = some (k, r, g2)) : k_CXI Γ l yX4_fades wsX4_fades rm_X4_fades [.ref (k_ad Γ 0 (0)), .int (x1), .int (x2)] g k r g2 := by
  intro sz
  refine vx_ofW (cc := cX4_fades) (maxL := 3) (ret := (some .int)) (by decide) rfl ?_
  intro p e s m args below meth c s₁ B hml hout hv
  obtain ⟨rfl, rfl, hP, hKS⟩ := hv
  have hr := B.returns
  have hlocks := B.notSynchronized
  have hC : k_C Γ (k_A Γ s.heap.size) p l s m _ c cX4_fades 3 wsX4_fades RX4 := k_C.of ⟨B.exec, B.bytes, hml, findClass_of_methodNamed B.named, atoms_spec (ws := wsX4_fades) B.pre⟩ hKS hl0
  have hw : k_St Γ (k_A Γ s.heap.size) s [] g s.heap [] := k_St.of hKS hP
  have hl := lv_entry ([.ref (k_ad Γ 0 (0)), .int (x1), .int (x2)] : List Value) (n := 3) (Nat.le_of_ble_eq_true rfl)
  rw [lg_entry_eq]
  generalize (lg_sl ([.ref (k_ad Γ 0 (0)), .int (x1), .int (x2)] : List Value) ++ List.replicate (3 - (lg_sl ([.ref (k_ad Γ 0 (0)), .int (x1), .int (x2)] : List Value)).length) Slot.unset).toArray = ls at hl ⊢
  have hl : lv_has ls 3 [(0, .ref (k_ad Γ 0 (0))), (1, .int (x1)), (2, .int (x2))] := hl
  change W p l e rm_X4_fades _ _ _ _ _ _ _ _ _ _ _ _
  unfold f_X4_fades at h
  refine lv_aload_n hC.x hC.b dX4_fades_0 rfl (lv_at hl 0 rfl) ?_
  refine lv_iload_n hC.x hC.b dX4_fades_1 rfl (lv_at hl 1 rfl) ?_
  obtain ⟨k2, g2, hq, h⟩ := bd2_t h
  refine x_goxv hC hw (x_runxV hC hw (c_X4_checkCord (Γ := Γ) (l := l) hC.2.2.2.2 hq) (cwV 1 hC.t gX4_fades_X4_checkCord rfl rfl rfl (by decide +kernel) ⟨Nat.le_of_ble_eq_true rfl, Nat.le_of_ble_eq_true rfl⟩) (As := [.int (x1)]) (by decide) (k_E0 _ _ _) rfl rfl rfl hl.1 (Nat.le_of_ble_eq_true rfl) dX4_fades_2 ⟨by decide, by decide⟩) (fun E ce q9 H locs hk hE hw hce hcv hcl => ?_) (fun hk H locs hw => ?_)
  · have h := it_f h hk
    obtain ⟨rfl, rfl, rfl⟩ := sm3 h
    exact x_out hw hout hlocks hk hE hce hcv hcl (by decide) (by decide)
  · have h := it_t h hk
    refine lv_iload_n hC.x hC.b dX4_fades_5 rfl (lv_at hl 2 rfl) ?_
    obtain ⟨k6, g6, hq, h⟩ := bd2_t h
    refine x_goxv hC hw (x_runxS hC hw (c_X4_checkYears (Γ := Γ) (l := l) hC.2.2.2.2 hq) (va_cwS 1 hC.t gX4_fades_X4_checkYears rfl rfl rfl (by decide +kernel) ⟨Nat.le_of_ble_eq_true rfl, Nat.le_of_ble_eq_true rfl⟩) (As := [.int (x2)]) rfl hl.1 (Nat.le_of_ble_eq_true rfl) dX4_fades_6 ⟨by decide, by decide⟩) (fun E ce q9 H locs hk hE hw hce hcv hcl => ?_) (fun hk H locs hw => ?_)
    · have h := it_f h hk
      obtain ⟨rfl, rfl, rfl⟩ := sm3 h
      exact x_out hw hout hlocks hk hE hce hcv hcl (by decide) (by decide)
    · have h := it_t h hk
      refine lv_aload_n hC.x hC.b dX4_fades_9 rfl (lv_at hl 0 rfl) ?_
      refine x_get hC hw (k := 2) (T := TX4) (by decide) (k_E0 _ _ _) in_X4_fades_X4 rfl (by decide) lk_X4_fades_f23 rfl rfl dX4_fades_10 ?_
      refine lv_aload_n hC.x hC.b dX4_fades_13 rfl (lv_at hl 0 rfl) ?_
      refine x_get hC hw (k := 1) (T := TX4) (by decide) (k_E0 _ _ _) in_X4_fades_X4 rfl (by decide) lk_X4_fades_f19 rfl rfl dX4_fades_14 ?_
      obtain ⟨g17, hq, h⟩ := bd1_t h
      refine x_gov hC hw (x_runN hC hw (c_X1_copyFrom (Γ := Γ) (l := l) hC.2.2.2.2 (by decide) (by decide) hq) ⟨va_cnB 1 hC.t gX4_fades_X1_copyFrom_n175 rfl rfl rfl (hC.w nw_m_X4_175) (hC.t _ lk_X4_fades_iX1) (by decide +kernel) ⟨Nat.le_of_ble_eq_true rfl, Nat.le_of_ble_eq_true rfl⟩, hC.t _ lk_X4_fades_nX1_copyFrom, hC.t _ lk_X4_fades_zX1_copyFrom⟩ (As := [.ref (k_ad Γ 2 (0))]) (by decide) (k_E2 _ _ _) rfl rfl rfl hl.1 (Nat.le_of_ble_eq_true rfl) dX4_fades_17 ⟨by decide, by decide⟩) (fun H locs hw => ?_)
      refine lv_aload_n hC.x hC.b dX4_fades_20 rfl (lv_at hl 0 rfl) ?_
      refine x_get hC hw (k := 2) (T := TX4) (by decide) (k_E0 _ _ _) in_X4_fades_X4 rfl (by decide) lk_X4_fades_f23 rfl rfl dX4_fades_21 ?_
      refine lv_aload_n hC.x hC.b dX4_fades_24 rfl (lv_at hl 0 rfl) ?_
      refine x_get hC hw (k := 0) (T := TX4) (by decide) (k_E0 _ _ _) in_X4_fades_X4 rfl (by decide) lk_X4_fades_f10 rfl rfl dX4_fades_25 ?_
      refine lv_iload_n hC.x hC.b dX4_fades_28 rfl (lv_at hl 2 rfl) ?_
      obtain ⟨r29, g29, hq, h⟩ := bd2_t h
      refine x_goi hC hw (x_runN hC hw (c_X1_fray (Γ := Γ) (l := l) hC.2.2.2.2 (by decide) hq) ⟨va_cnB 2 hC.t gX4_fades_X1_fray_n168 rfl rfl rfl (hC.w nw_m_X4_168) (hC.t _ lk_X4_fades_iX1) (by decide +kernel) ⟨Nat.le_of_ble_eq_true rfl, Nat.le_of_ble_eq_true rfl⟩, hC.t _ lk_X4_fades_nX1_fray, hC.t _ lk_X4_fades_zX1_fray⟩ (As := [.ref (k_ad Γ 1 (0)), .int (x2)]) (by decide) (k_E2 _ _ _) rfl rfl rfl hl.1 (Nat.le_of_ble_eq_true rfl) dX4_fades_29 ⟨by decide, by decide⟩) (fun H locs hw => ?_)
      refine lv_pop hC.x hC.b dX4_fades_32 rfl ?_
      refine lv_aload_n hC.x hC.b dX4_fades_33 rfl (lv_at hl 0 rfl) ?_
      refine x_get hC hw (k := 0) (T := TX4) (by decide) (k_E0 _ _ _) in_X4_fades_X4 rfl (by decide) lk_X4_fades_f10 rfl rfl dX4_fades_34 ?_
      refine lv_aload_n hC.x hC.b dX4_fades_37 rfl (lv_at hl 0 rfl) ?_
      refine x_get hC hw (k := 2) (T := TX4) (by decide) (k_E0 _ _ _) in_X4_fades_X4 rfl (by decide) lk_X4_fades_f23 rfl rfl dX4_fades_38 ?_
      obtain ⟨g41, hq, h⟩ := bd1_t h
      refine x_gov hC hw (x_runN hC hw (c_X0_tell (Γ := Γ) (l := l) hC.2.2.2.2 (by decide) hq) ⟨va_cnB 1 hC.t gX4_fades_X0_tell_n115 rfl rfl rfl (hC.w nw_m_X4_115) (hC.t _ lk_X4_fades_iX0) (by decide +kernel) ⟨Nat.le_of_ble_eq_true rfl, Nat.le_of_ble_eq_true rfl⟩, hC.t _ lk_X4_fades_nX0_tell, hC.t _ lk_X4_fades_zX0_tell⟩ (As := [.ref (k_ad Γ 2 (1))]) (by decide) (k_E1 _ _ _) rfl rfl rfl hl.1 (Nat.le_of_ble_eq_true rfl) dX4_fades_41 ⟨by decide, by decide⟩) (fun H locs hw => ?_)
      refine lv_aload_n hC.x hC.b dX4_fades_44 rfl (lv_at hl 0 rfl) ?_
      refine x_get hC hw (k := 0) (T := TX4) (by decide) (k_E0 _ _ _) in_X4_fades_X4 rfl (by decide) lk_X4_fades_f10 rfl rfl dX4_fades_45 ?_
      refine x_getN hC hw (k := 2) (T := TX0) (by decide) (k_E1 _ _ _) in_X4_fades_X0 rfl (by decide) nw_f_X4_131 rfl rfl dX4_fades_48 ?_
      refine lv_iload_n hC.x hC.b dX4_fades_51 rfl (lv_at hl 1 rfl) ?_
      obtain ⟨hg1, h⟩ := gd_t h
      refine x_iald hC hw rfl (by decide) hg1 dX4_fades_52 ?_
      obtain ⟨rfl, rfl, rfl⟩ := sm3 h
      exact x_xiret hC hw hr hlocks (by decide) (by decide) dX4_fades_53
abbrev rm_X4_amends : Room := { frames := 7, cells := 1, slots := 6, locals := 103 }
theorem in_X4_amends_X4 : ∀ w ∈ wsX40, w ∈ wsX4_amends := fun _ h => List.mem_cons_of_mem _ (List.mem_append_left _ (List.mem_append_left _ (List.mem_append_left _ (List.mem_append_right _ (h)))))
theorem in_X4_amends_X0 : ∀ w ∈ wsX00, w ∈ wsX4_amends := fun _ h => List.mem_cons_of_mem _ (List.mem_append_left _ (List.mem_append_left _ (List.mem_append_right _ (h))))
set_option maxRecDepth 20000 in
theorem lk_X4_amends_f10 : Cond.fieldLink RX4 10 "KnotArchive" "cords" "LKnotArchive$Cords;" ∈ wsX4_amends := by decide +kernel
set_option maxRecDepth 20000 in
theorem lk_X4_amends_f19 : Cond.fieldLink RX4 19 "KnotArchive" "nowKnots" "LKnotArchive$Knots;" ∈ wsX4_amends := by decide +kernel
set_option maxRecDepth 20000 in
theorem lk_X4_amends_iX0 : Cond.initialized RX0 ∈ wsX4_amends := by decide +kernel
set_option maxRecDepth 20000 in
theorem lk_X4_amends_nX0_tell : Cond.instanceMethod yX0_tell ∈ wsX4_amends := by decide +kernel
set_option maxRecDepth 20000 in
theorem lk_X4_amends_zX0_tell : Cond.selects RX0 yX0_tell yX0_tell ∈ wsX4_amends := by decide +kernel
set_option maxRecDepth 20000 in
theorem lk_X4_amends_iX1 : Cond.initialized RX1 ∈ wsX4_amends := by decide +kernel
set_option maxRecDepth 20000 in
theorem lk_X4_amends_nX1_differences : Cond.instanceMethod yX1_differences ∈ wsX4_amends := by decide +kernel
set_option maxRecDepth 20000 in
theorem lk_X4_amends_zX1_differences : Cond.selects RX1 yX1_differences yX1_differences ∈ wsX4_amends := by decide +kernel
set_option maxRecDepth 100000 in
set_option maxHeartbeats 4000000 in
theorem c_X4_amends {Γ : k_Pm} {l : Launch} (hl0 : l.stackTraces = false) {x1 : Int32}  {g : Gt} {k : Nat} {r : Int32} {g2 : Gt} (h : f_X4_amends x1 g = some (k, r, g2)) : k_CXI Γ l yX4_amends wsX4_amends rm_X4_amends [.ref (k_ad Γ 0 (0)), .int (x1)] g k r g2 := by
  intro sz
  refine vx_ofW (cc := cX4_amends) (maxL := 3) (ret := (some .int)) (by decide) rfl ?_
  intro p e s m args below meth c s₁ B hml hout hv
  obtain ⟨rfl, rfl, hP, hKS⟩ := hv
  have hr := B.returns
  have hlocks := B.notSynchronized
  have hC : k_C Γ (k_A Γ s.heap.size) p l s m _ c cX4_amends 3 wsX4_amends RX4 := k_C.of ⟨B.exec, B.bytes, hml, findClass_of_methodNamed B.named, atoms_spec (ws := wsX4_amends) B.pre⟩ hKS hl0
  have hw : k_St Γ (k_A Γ s.heap.size) s [] g s.heap [] := k_St.of hKS hP
  have hl := lv_entry ([.ref (k_ad Γ 0 (0)), .int (x1)] : List Value) (n := 3) (Nat.le_of_ble_eq_true rfl)
  rw [lg_entry_eq]
  generalize (lg_sl ([.ref (k_ad Γ 0 (0)), .int (x1)] : List Value) ++ List.replicate (3 - (lg_sl ([.ref (k_ad Γ 0 (0)), .int (x1)] : List Value)).length) Slot.unset).toArray = ls at hl ⊢
  have hl : lv_has ls 3 [(0, .ref (k_ad Γ 0 (0))), (1, .int (x1))] := hl
  change W p l e rm_X4_amends _ _ _ _ _ _ _ _ _ _ _ _
  unfold f_X4_amends at h
  refine lv_aload_n hC.x hC.b dX4_amends_0 rfl (lv_at hl 0 rfl) ?_
  refine lv_iload_n hC.x hC.b dX4_amends_1 rfl (lv_at hl 1 rfl) ?_
  obtain ⟨k2, g2, hq, h⟩ := bd2_t h
  refine x_goxv hC hw (x_runxV hC hw (c_X4_checkCord (Γ := Γ) (l := l) hC.2.2.2.2 hq) (cwV 1 hC.t gX4_amends_X4_checkCord rfl rfl rfl (by decide +kernel) ⟨Nat.le_of_ble_eq_true rfl, Nat.le_of_ble_eq_true rfl⟩) (As := [.int (x1)]) (by decide) (k_E0 _ _ _) rfl rfl rfl hl.1 (Nat.le_of_ble_eq_true rfl) dX4_amends_2 ⟨by decide, by decide⟩) (fun E ce q9 H locs hk hE hw hce hcv hcl => ?_) (fun hk H locs hw => ?_)
  · have h := it_f h hk
    obtain ⟨rfl, rfl, rfl⟩ := sm3 h
    exact x_out hw hout hlocks hk hE hce hcv hcl (by decide) (by decide)
  · have h := it_t h hk
    refine lv_aload_n hC.x hC.b dX4_amends_5 rfl (lv_at hl 0 rfl) ?_
    refine x_get hC hw (k := 0) (T := TX4) (by decide) (k_E0 _ _ _) in_X4_amends_X4 rfl (by decide) lk_X4_amends_f10 rfl rfl dX4_amends_6 ?_
    refine lv_aload_n hC.x hC.b dX4_amends_9 rfl (lv_at hl 0 rfl) ?_
    refine x_get hC hw (k := 1) (T := TX4) (by decide) (k_E0 _ _ _) in_X4_amends_X4 rfl (by decide) lk_X4_amends_f19 rfl rfl dX4_amends_10 ?_
    obtain ⟨g13, hq, h⟩ := bd1_t h
    refine x_gov hC hw (x_runN hC hw (c_X0_tell (Γ := Γ) (l := l) hC.2.2.2.2 (by decide) hq) ⟨va_cnB 1 hC.t gX4_amends_X0_tell_n115 rfl rfl rfl (hC.w nw_m_X4_115) (hC.t _ lk_X4_amends_iX0) (by decide +kernel) ⟨Nat.le_of_ble_eq_true rfl, Nat.le_of_ble_eq_true rfl⟩, hC.t _ lk_X4_amends_nX0_tell, hC.t _ lk_X4_amends_zX0_tell⟩ (As := [.ref (k_ad Γ 2 (0))]) (by decide) (k_E1 _ _ _) rfl rfl rfl hl.1 (Nat.le_of_ble_eq_true rfl) dX4_amends_13 ⟨by decide, by decide⟩) (fun H locs hw => ?_)
    refine lv_aload_n hC.x hC.b dX4_amends_16 rfl (lv_at hl 0 rfl) ?_
    refine lv_iload_n hC.x hC.b dX4_amends_17 rfl (lv_at hl 1 rfl) ?_
    obtain ⟨r18, g18, hq, h⟩ := bd2_t h
    refine x_goi hC hw (x_runV hC hw (c_X4_agrees (Γ := Γ) (l := l) hC.2.2.2.2 hq) (cwV 1 hC.t gX4_amends_X4_agrees rfl rfl rfl (by decide +kernel) ⟨Nat.le_of_ble_eq_true rfl, Nat.le_of_ble_eq_true rfl⟩) (As := [.int (x1)]) (by decide) (k_E0 _ _ _) rfl rfl rfl hl.1 (Nat.le_of_ble_eq_true rfl) dX4_amends_18 ⟨by decide, by decide⟩) (fun H locs hw => ?_)
    refine lv_if_eq (tgt := 26) hC.x hC.b dX4_amends_21 (by decide) (fun hc => ?_) (fun hc => ?_)
    · have h := it_t h hc
      refine lv_aload_n hC.x hC.b dX4_amends_26 rfl (lv_at hl 0 rfl) ?_
      refine x_get hC hw (k := 0) (T := TX4) (by decide) (k_E0 _ _ _) in_X4_amends_X4 rfl (by decide) lk_X4_amends_f10 rfl rfl dX4_amends_27 ?_
      refine x_getN hC hw (k := 3) (T := TX0) (by decide) (k_E1 _ _ _) in_X4_amends_X0 rfl (by decide) nw_f_X4_182 rfl rfl dX4_amends_30 ?_
      refine lv_iload_n hC.x hC.b dX4_amends_33 rfl (lv_at hl 1 rfl) ?_
      obtain ⟨hg1, h⟩ := gd_t h
      refine x_iald hC hw rfl (by decide) hg1 dX4_amends_34 ?_
      refine lv_istore_n (lv' := [(2, .int (g18 13 0 x1.toNatClampNeg)), (0, .ref (k_ad Γ 0 (0))), (1, .int (x1))]) hC.x hC.b dX4_amends_35 rfl hl (by decide) rfl (fun ls hl => ?_)
      refine lv_iload_n hC.x hC.b dX4_amends_36 rfl (lv_at hl 0 rfl) ?_
      refine lv_if_lt (tgt := 47) hC.x hC.b dX4_amends_37 (by decide) (fun hc => ?_) (fun hc => ?_)
      · have h := it_t h hc
        refine lv_iconst (v := (-1 : Int32)) hC.x hC.b dX4_amends_47 (by decide) ?_
        obtain ⟨rfl, rfl, rfl⟩ := sm3 h
        exact x_xiret hC hw hr hlocks (by decide) (by decide) dX4_amends_48
      · have h := it_f h hc
        refine lv_iload_n hC.x hC.b dX4_amends_40 rfl (lv_at hl 0 rfl) ?_
        refine lv_sipush (v := (9999 : Int32)) hC.x hC.b dX4_amends_41 (by decide) ?_
        refine lv_icmp_le (tgt := 49) hC.x hC.b dX4_amends_44 (by decide) (fun hc => ?_) (fun hc => ?_)
        · have h := it_t h hc
          refine lv_aload_n hC.x hC.b dX4_amends_49 rfl (lv_at hl 1 rfl) ?_
          refine x_get hC hw (k := 1) (T := TX4) (by decide) (k_E0 _ _ _) in_X4_amends_X4 rfl (by decide) lk_X4_amends_f19 rfl rfl dX4_amends_50 ?_
          refine lv_iload_n hC.x hC.b dX4_amends_53 rfl (lv_at hl 2 rfl) ?_
          refine lv_iload_n hC.x hC.b dX4_amends_54 rfl (lv_at hl 0 rfl) ?_
          obtain ⟨r55, g55, hq, h⟩ := bd2_t h
          refine x_goi hC hw (x_runN hC hw (c_X1_differences (Γ := Γ) (l := l) hC.2.2.2.2 (by decide) hq) ⟨va_cnB 2 hC.t gX4_amends_X1_differences_n185 rfl rfl rfl (hC.w nw_m_X4_185) (hC.t _ lk_X4_amends_iX1) (by decide +kernel) ⟨Nat.le_of_ble_eq_true rfl, Nat.le_of_ble_eq_true rfl⟩, hC.t _ lk_X4_amends_nX1_differences, hC.t _ lk_X4_amends_zX1_differences⟩ (As := [.int (x1), .int (g18 13 0 x1.toNatClampNeg)]) (by decide) (k_E2 _ _ _) rfl rfl rfl hl.1 (Nat.le_of_ble_eq_true rfl) dX4_amends_55 ⟨by decide, by decide⟩) (fun H locs hw => ?_)
          obtain ⟨rfl, rfl, rfl⟩ := sm3 h
          exact x_xiret hC hw hr hlocks (by decide) (by decide) dX4_amends_58
        · have h := it_f h hc
          refine lv_iconst (v := (-1 : Int32)) hC.x hC.b dX4_amends_47 (by decide) ?_
          obtain ⟨rfl, rfl, rfl⟩ := sm3 h
          exact x_xiret hC hw hr hlocks (by decide) (by decide) dX4_amends_48
    · have h := it_f h hc
      refine lv_iconst (v := (0 : Int32)) hC.x hC.b dX4_amends_24 (by decide) ?_
      obtain ⟨rfl, rfl, rfl⟩ := sm3 h
      exact x_xiret hC hw hr hlocks (by decide) (by decide) dX4_amends_25
abbrev rm_X4_changeByKnot : Room := { frames := 4, cells := 0, slots := 0, locals := 89 }
theorem in_X4_changeByKnot_X4 : ∀ w ∈ wsX40, w ∈ wsX4_changeByKnot := fun _ h => List.mem_cons_of_mem _ (List.mem_append_left _ (List.mem_append_left _ (List.mem_append_right _ (h))))
theorem in_X4_changeByKnot_X1 : ∀ w ∈ wsX10, w ∈ wsX4_changeByKnot := fun _ h => List.mem_cons_of_mem _ (List.mem_append_left _ (List.mem_append_right _ (h)))
theorem in_X4_changeByKnot_X0 : ∀ w ∈ wsX00, w ∈ wsX4_changeByKnot := fun _ h => List.mem_cons_of_mem _ (List.mem_append_right _ (h))
set_option maxRecDepth 20000 in
theorem lk_X4_changeByKnot_f19 : Cond.fieldLink RX4 19 "KnotArchive" "nowKnots" "LKnotArchive$Knots;" ∈ wsX4_changeByKnot := by decide +kernel
set_option maxRecDepth 20000 in
theorem lk_X4_changeByKnot_f23 : Cond.fieldLink RX4 23 "KnotArchive" "laterKnots" "LKnotArchive$Knots;" ∈ wsX4_changeByKnot := by decide +kernel
set_option maxRecDepth 20000 in
theorem lk_X4_changeByKnot_iX1 : Cond.initialized RX1 ∈ wsX4_changeByKnot := by decide +kernel
set_option maxRecDepth 20000 in
theorem lk_X4_changeByKnot_nX1_copyFrom : Cond.instanceMethod yX1_copyFrom ∈ wsX4_changeByKnot := by decide +kernel
set_option maxRecDepth 20000 in
theorem lk_X4_changeByKnot_zX1_copyFrom : Cond.selects RX1 yX1_copyFrom yX1_copyFrom ∈ wsX4_changeByKnot := by decide +kernel
set_option maxRecDepth 20000 in
theorem lk_X4_changeByKnot_f10 : Cond.fieldLink RX4 10 "KnotArchive" "cords" "LKnotArchive$Cords;" ∈ wsX4_changeByKnot := by decide +kernel
set_option maxRecDepth 20000 in
theorem lk_X4_changeByKnot_iX0 : Cond.initialized RX0 ∈ wsX4_changeByKnot := by decide +kernel
set_option maxRecDepth 20000 in
theorem lk_X4_changeByKnot_nX0_tell : Cond.instanceMethod yX0_tell ∈ wsX4_changeByKnot := by decide +kernel
set_option maxRecDepth 20000 in
theorem lk_X4_changeByKnot_zX0_tell : Cond.selects RX0 yX0_tell yX0_tell ∈ wsX4_changeByKnot := by decide +kernel
set_option maxRecDepth 20000 in
theorem lk_X4_changeByKnot_m248 : Cond.methodLink RX4 248 Lib.MathLoose.abs_long.x ∈ wsX4_changeByKnot := by decide +kernel
set_option maxRecDepth 20000 in
theorem lk_X4_changeByKnot_s248 : Cond.static Lib.MathLoose.abs_long.x ∈ wsX4_changeByKnot := by decide +kernel
set_option maxRecDepth 20000 in
theorem lk_X4_changeByKnot_imath : Cond.initialized "java/lang/Math" ∈ wsX4_changeByKnot := by decide +kernel
set_option maxRecDepth 20000 in
theorem lk_X4_changeByKnot_e248 : Cond.code Lib.MathLoose.abs_long.x Lib.MathLoose.abs_long.code 2 (some .long) ∈ wsX4_changeByKnot := by decide +kernel
set_option maxRecDepth 20000 in
theorem lk_X4_changeByKnot_k253 : Cond.constantLong RX4 253 (2147483647) ∈ wsX4_changeByKnot := by decide +kernel
set_option maxRecDepth 20000 in
theorem lk_X4_changeByKnot_m255 : Cond.methodLink RX4 255 Lib.MathLoose.min_long.x ∈ wsX4_changeByKnot := by decide +kernel
set_option maxRecDepth 20000 in
theorem lk_X4_changeByKnot_s255 : Cond.static Lib.MathLoose.min_long.x ∈ wsX4_changeByKnot := by decide +kernel
set_option maxRecDepth 20000 in
theorem lk_X4_changeByKnot_e255 : Cond.code Lib.MathLoose.min_long.x Lib.MathLoose.min_long.code 4 (some .long) ∈ wsX4_changeByKnot := by decide +kernel
set_option maxRecDepth 100000 in
set_option maxHeartbeats 4000000 in
theorem c_X4_changeByKnot {Γ : k_Pm} {l : Launch} (hl0 : l.stackTraces = false) {x1 : Int32} {x2 : Int32}  {g : Gt} {r : Int64} {g2 : Gt} (h : f_X4_changeByKnot x1 x2 g = some (r, g2)) : k_CL Γ l yX4_changeByKnot wsX4_changeByKnot rm_X4_changeByKnot [.ref (k_ad Γ 0 (0)), .int (x1), .int (x2)] g r g2 := by
  intro sz
  refine Met.ofW (cc := cX4_changeByKnot) (maxL := 5) (ret := (some .long)) (by decide) rfl ?_
  intro p e s m args below meth c s₁ B hml hv
  obtain ⟨rfl, rfl, hP, hKS⟩ := hv
  have hr := B.returns
  have hlocks := B.notSynchronized
  have hC : k_C Γ (k_A Γ s.heap.size) p l s m _ c cX4_changeByKnot 5 wsX4_changeByKnot RX4 := k_C.of ⟨B.exec, B.bytes, hml, findClass_of_methodNamed B.named, atoms_spec (ws := wsX4_changeByKnot) B.pre⟩ hKS hl0
  have hw : k_St Γ (k_A Γ s.heap.size) s [] g s.heap [] := k_St.of hKS hP
  have hl := lv_entry ([.ref (k_ad Γ 0 (0)), .int (x1), .int (x2)] : List Value) (n := 5) (Nat.le_of_ble_eq_true rfl)
  rw [lg_entry_eq]
  generalize (lg_sl ([.ref (k_ad Γ 0 (0)), .int (x1), .int (x2)] : List Value) ++ List.replicate (5 - (lg_sl ([.ref (k_ad Γ 0 (0)), .int (x1), .int (x2)] : List Value)).length) Slot.unset).toArray = ls at hl ⊢
  have hl : lv_has ls 5 [(0, .ref (k_ad Γ 0 (0))), (1, .int (x1)), (2, .int (x2))] := hl
  change W p l e rm_X4_changeByKnot _ _ _ _ _ _ _ _ _ _ _ _
  unfold f_X4_changeByKnot at h
  refine lv_aload_n hC.x hC.b dX4_changeByKnot_0 rfl (lv_at hl 0 rfl) ?_
  refine x_get hC hw (k := 1) (T := TX4) (by decide) (k_E0 _ _ _) in_X4_changeByKnot_X4 rfl (by decide) lk_X4_changeByKnot_f19 rfl rfl dX4_changeByKnot_1 ?_
  refine x_getN hC hw (k := 0) (T := TX1) (by decide) (k_E2 _ _ _) in_X4_changeByKnot_X1 rfl (by decide) nw_f_X4_93 rfl rfl dX4_changeByKnot_4 ?_
  refine lv_iload_n hC.x hC.b dX4_changeByKnot_7 rfl (lv_at hl 1 rfl) ?_
  obtain ⟨hg1, h⟩ := gd_t h
  have hr1 := k_ci_lt (t := 14) (i := 0) rfl (by decide) hg1
  refine x_aald hC hw (t := 14) rfl (by decide) (by decide) hg1 dX4_changeByKnot_8 ?_
  refine lv_iconst (v := (3 : Int32)) hC.x hC.b dX4_changeByKnot_9 (by decide) ?_
  refine x_iald hC hw rfl hr1 (by decide) dX4_changeByKnot_10 ?_
  refine lv_bipush (v := (9 : Int32)) hC.x hC.b dX4_changeByKnot_11 (by decide) ?_
  refine lv_icmp_lt (tgt := 18) hC.x hC.b dX4_changeByKnot_13 (by decide) (fun hc => ?_) (fun hc => ?_)
  · have h := it_t h hc
    refine lv_aload_n hC.x hC.b dX4_changeByKnot_18 rfl (lv_at hl 0 rfl) ?_
    refine x_get hC hw (k := 2) (T := TX4) (by decide) (k_E0 _ _ _) in_X4_changeByKnot_X4 rfl (by decide) lk_X4_changeByKnot_f23 rfl rfl dX4_changeByKnot_19 ?_
    refine lv_aload_n hC.x hC.b dX4_changeByKnot_22 rfl (lv_at hl 0 rfl) ?_
    refine x_get hC hw (k := 1) (T := TX4) (by decide) (k_E0 _ _ _) in_X4_changeByKnot_X4 rfl (by decide) lk_X4_changeByKnot_f19 rfl rfl dX4_changeByKnot_23 ?_
    obtain ⟨g26, hq, h⟩ := bd1_t h
    refine x_gov hC hw (x_runN hC hw (c_X1_copyFrom (Γ := Γ) (l := l) hC.2.2.2.2 (by decide) (by decide) hq) ⟨va_cnB 1 hC.t gX4_changeByKnot_X1_copyFrom_n175 rfl rfl rfl (hC.w nw_m_X4_175) (hC.t _ lk_X4_changeByKnot_iX1) (by decide +kernel) ⟨Nat.le_of_ble_eq_true rfl, Nat.le_of_ble_eq_true rfl⟩, hC.t _ lk_X4_changeByKnot_nX1_copyFrom, hC.t _ lk_X4_changeByKnot_zX1_copyFrom⟩ (As := [.ref (k_ad Γ 2 (0))]) (by decide) (k_E2 _ _ _) rfl rfl rfl hl.1 (Nat.le_of_ble_eq_true rfl) dX4_changeByKnot_26 ⟨by decide, by decide⟩) (fun H locs hw => ?_)
    refine lv_aload_n hC.x hC.b dX4_changeByKnot_29 rfl (lv_at hl 0 rfl) ?_
    refine x_get hC hw (k := 2) (T := TX4) (by decide) (k_E0 _ _ _) in_X4_changeByKnot_X4 rfl (by decide) lk_X4_changeByKnot_f23 rfl rfl dX4_changeByKnot_30 ?_
    refine x_getN hC hw (k := 0) (T := TX1) (by decide) (k_E2 _ _ _) in_X4_changeByKnot_X1 rfl (by decide) nw_f_X4_93 rfl rfl dX4_changeByKnot_33 ?_
    refine lv_iload_n hC.x hC.b dX4_changeByKnot_36 rfl (lv_at hl 1 rfl) ?_
    obtain ⟨hg2, h⟩ := gd_t h
    have hr2 := k_ci_lt (t := 14) (i := 1) rfl (by decide) hg2
    refine x_aald hC hw (t := 14) rfl (by decide) (by decide) hg2 dX4_changeByKnot_37 ?_
    refine lv_iconst (v := (3 : Int32)) hC.x hC.b dX4_changeByKnot_38 (by decide) ?_
    refine lv_dup2_11 hC.x hC.b dX4_changeByKnot_39 rfl rfl ?_
    refine x_iald hC hw rfl hr2 (by decide) dX4_changeByKnot_40 ?_
    refine lv_iconst (v := (1 : Int32)) hC.x hC.b dX4_changeByKnot_41 (by decide) ?_
    refine lv_iadd hC.x hC.b dX4_changeByKnot_42 ?_
    refine x_iast hC hw rfl hr2 (by decide) dX4_changeByKnot_43 (fun H locs hw => ?_)
    refine lv_aload_n hC.x hC.b dX4_changeByKnot_44 rfl (lv_at hl 0 rfl) ?_
    refine x_get hC hw (k := 0) (T := TX4) (by decide) (k_E0 _ _ _) in_X4_changeByKnot_X4 rfl (by decide) lk_X4_changeByKnot_f10 rfl rfl dX4_changeByKnot_45 ?_
    refine lv_aload_n hC.x hC.b dX4_changeByKnot_48 rfl (lv_at hl 0 rfl) ?_
    refine x_get hC hw (k := 2) (T := TX4) (by decide) (k_E0 _ _ _) in_X4_changeByKnot_X4 rfl (by decide) lk_X4_changeByKnot_f23 rfl rfl dX4_changeByKnot_49 ?_
    obtain ⟨g52, hq, h⟩ := bd1_t h
    refine x_gov hC hw (x_runN hC hw (c_X0_tell (Γ := Γ) (l := l) hC.2.2.2.2 (by decide) hq) ⟨va_cnB 1 hC.t gX4_changeByKnot_X0_tell_n115 rfl rfl rfl (hC.w nw_m_X4_115) (hC.t _ lk_X4_changeByKnot_iX0) (by decide +kernel) ⟨Nat.le_of_ble_eq_true rfl, Nat.le_of_ble_eq_true rfl⟩, hC.t _ lk_X4_changeByKnot_nX0_tell, hC.t _ lk_X4_changeByKnot_zX0_tell⟩ (As := [.ref (k_ad Γ 2 (1))]) (by decide) (k_E1 _ _ _) rfl rfl rfl hl.1 (Nat.le_of_ble_eq_true rfl) dX4_changeByKnot_52 ⟨by decide, by decide⟩) (fun H locs hw => ?_)
    refine lv_aload_n hC.x hC.b dX4_changeByKnot_55 rfl (lv_at hl 0 rfl) ?_
    refine x_get hC hw (k := 0) (T := TX4) (by decide) (k_E0 _ _ _) in_X4_changeByKnot_X4 rfl (by decide) lk_X4_changeByKnot_f10 rfl rfl dX4_changeByKnot_56 ?_
    refine x_getN hC hw (k := 2) (T := TX0) (by decide) (k_E1 _ _ _) in_X4_changeByKnot_X0 rfl (by decide) nw_f_X4_131 rfl rfl dX4_changeByKnot_59 ?_
    refine lv_iconst (v := (0 : Int32)) hC.x hC.b dX4_changeByKnot_62 (by decide) ?_
    refine x_iald hC hw rfl (by decide) (by decide) dX4_changeByKnot_63 ?_
    refine lv_i2l hC.x hC.b dX4_changeByKnot_64 rfl ?_
    refine lv_iload_n hC.x hC.b dX4_changeByKnot_65 rfl (lv_at hl 2 rfl) ?_
    refine lv_i2l hC.x hC.b dX4_changeByKnot_66 rfl ?_
    refine lv_lsub hC.x hC.b dX4_changeByKnot_67 ?_
    refine va_mabs_long hC.x hC.b (hC.n.trans hl.1.symm) hC.o (hC.t _ lk_X4_changeByKnot_m248) (hC.t _ lk_X4_changeByKnot_s248) (hC.t _ lk_X4_changeByKnot_imath) (hC.t _ lk_X4_changeByKnot_e248) (Nat.le_of_ble_eq_true rfl) (Nat.le_of_ble_eq_true rfl) (by decide) (by decide) dX4_changeByKnot_68 ?_
    refine lv_lstore_n (lv' := [(3, .long (k_absL (((g52 12 0 (((0 : Int32)).toNatClampNeg)).toInt64) - x2.toInt64))), (0, .ref (k_ad Γ 0 (0))), (1, .int (x1)), (2, .int (x2))]) hC.x hC.b dX4_changeByKnot_71 rfl hl (by decide) rfl (fun ls hl => ?_)
    refine lv_lload_n hC.x hC.b dX4_changeByKnot_72 rfl (lv_at hl 0 rfl) ?_
    refine lv_ldc2 (v := (2147483647 : Int64)) hC.x hC.b hC.o (hC.t _ lk_X4_changeByKnot_k253) dX4_changeByKnot_73 ?_
    refine va_mmin_long hC.x hC.b (hC.n.trans hl.1.symm) hC.o (hC.t _ lk_X4_changeByKnot_m255) (hC.t _ lk_X4_changeByKnot_s255) (hC.t _ lk_X4_changeByKnot_imath) (hC.t _ lk_X4_changeByKnot_e255) (Nat.le_of_ble_eq_true rfl) (Nat.le_of_ble_eq_true rfl) (by decide) (by decide) dX4_changeByKnot_76 ?_
    obtain ⟨rfl, rfl⟩ := sm2 h
    exact x_lret hC hw hr hlocks (by decide) (by decide) dX4_changeByKnot_79
  · have h := it_f h hc
    refine lv_lconst (v := (0 : Int64)) hC.x hC.b dX4_changeByKnot_16 (by decide) ?_
    obtain ⟨rfl, rfl⟩ := sm2 h
    exact x_lret hC hw hr hlocks (by decide) (by decide) dX4_changeByKnot_17
abbrev rm_X4_weighs : Room := { frames := 5, cells := 0, slots := 0, locals := 113 }
theorem in_X4_weighs_X4 : ∀ w ∈ wsX40, w ∈ wsX4_weighs := fun _ h => List.mem_cons_of_mem _ (List.mem_append_left _ (List.mem_append_left _ (List.mem_append_right _ (h))))
theorem in_X4_weighs_X0 : ∀ w ∈ wsX00, w ∈ wsX4_weighs := fun _ h => List.mem_cons_of_mem _ (List.mem_append_left _ (List.mem_append_right _ (h)))
set_option maxRecDepth 20000 in
theorem lk_X4_weighs_f10 : Cond.fieldLink RX4 10 "KnotArchive" "cords" "LKnotArchive$Cords;" ∈ wsX4_weighs := by decide +kernel
set_option maxRecDepth 20000 in
theorem lk_X4_weighs_f19 : Cond.fieldLink RX4 19 "KnotArchive" "nowKnots" "LKnotArchive$Knots;" ∈ wsX4_weighs := by decide +kernel
set_option maxRecDepth 20000 in
theorem lk_X4_weighs_iX0 : Cond.initialized RX0 ∈ wsX4_weighs := by decide +kernel
set_option maxRecDepth 20000 in
theorem lk_X4_weighs_nX0_tell : Cond.instanceMethod yX0_tell ∈ wsX4_weighs := by decide +kernel
set_option maxRecDepth 20000 in
theorem lk_X4_weighs_zX0_tell : Cond.selects RX0 yX0_tell yX0_tell ∈ wsX4_weighs := by decide +kernel
set_option maxRecDepth 100000 in
set_option maxHeartbeats 4000000 in
theorem w_X4_weighs_40 {Γ : k_Pm} {A0 : Nat → Prop} {p : Program} {l : Launch} {e : Env} {s : State} {m : MethodId} {args : Array Value} {below : List Frame} {meth : Method} {c : Code} {cells slots : Nat} {Q : State → Prop} {tmp : va_W} {c1 : Int32} (hC : k_C Γ A0 p l s m args c cX4_weighs 8 wsX4_weighs RX4) (hcs : cells ≤ rm_X4_weighs.cells ∧ slots ≤ rm_X4_weighs.slots) : ∀ (n : Nat) (v2 : Int32) (v3 : Int64) (v5 : Int32) (g : Gt) (w2 : Int32) (w3 : Int64) (w5 : Int32) (g2 : Gt), f_X4_weighs_40 c1 n v2 v3 v5 g = some (w2, w3, w5, g2) → ∀ (H : Heap) (locs : List Loc) (ls : Array Slot), k_St Γ A0 s tmp g H locs → lv_has ls 8 [(5, .int (v5)), (3, .long (v3)), (2, .int (v2)), (1, .int (c1)), (0, .ref (k_ad Γ 0 (0)))] → (∀ (H1 : Heap) (locs1 : List Loc) (ls1 : Array Slot), k_St Γ A0 s tmp g2 H1 locs1 → lv_has ls1 8 [(5, .int (w5)), (3, .long (w3)), (2, .int (w2)), (1, .int (c1)), (0, .ref (k_ad Γ 0 (0)))] → W p l e rm_X4_weighs s m args below meth c H1 locs1 cells slots Q (F0 m 80 ls1 [])) → W p l e rm_X4_weighs s m args below meth c H locs cells slots Q (F0 m 40 ls []) := by
  intro n
  induction n with
  | zero => intro v2 v3 v5 g w2 w3 w5 g2 h; rw [f_X4_weighs_40] at h; cases h
  | succ n ih =>
    intro v2 v3 v5 g w2 w3 w5 g2 h H locs ls hw hl kk
    rw [f_X4_weighs_40] at h
    refine lv_iload hC.x hC.b dX4_weighs_40 (lv_at hl 0 rfl) ?_
    refine lv_aload_n hC.x hC.b dX4_weighs_42 rfl (lv_at hl 4 rfl) ?_
    refine x_get hC hw (k := 0) (T := TX4) (by decide) (k_E0 _ _ _) in_X4_weighs_X4 rfl (by decide) lk_X4_weighs_f10 rfl rfl dX4_weighs_43 ?_
    refine x_getN hC hw (k := 4) (T := TX0) (by decide) (k_E1 _ _ _) in_X4_weighs_X0 rfl (by decide) nw_f_X4_58 rfl rfl dX4_weighs_46 ?_
    refine lv_icmp_ge (tgt := 80) hC.x hC.b dX4_weighs_49 (by decide) (fun hc => ?_) (fun hc => ?_)
    · have h := it_t h hc
      obtain ⟨rfl, rfl, rfl, rfl⟩ := sm4 h
      exact kk _ _ _ hw (lv_sub hl [0, 1, 2, 3, 4] rfl)
    · have h := it_f h hc
      refine lv_aload_n hC.x hC.b dX4_weighs_52 rfl (lv_at hl 4 rfl) ?_
      refine lv_iload hC.x hC.b dX4_weighs_53 (lv_at hl 0 rfl) ?_
      refine lv_iload_n hC.x hC.b dX4_weighs_55 rfl (lv_at hl 3 rfl) ?_
      obtain ⟨r56, g56, hq, h⟩ := bd2_t h
      refine x_gol hC hw (x_runV hC hw (c_X4_changeByKnot (Γ := Γ) (l := l) hC.2.2.2.2 hq) (cwV 2 hC.t gX4_weighs_X4_changeByKnot rfl rfl rfl (by decide +kernel) ⟨Nat.le_of_ble_eq_true rfl, Nat.le_of_ble_eq_true rfl⟩) (As := [.int (v5), .int (c1)]) (by decide) (k_E0 _ _ _) rfl rfl rfl hl.1 (Nat.le_of_ble_eq_true rfl) dX4_weighs_56 hcs) (fun H locs hw => ?_)
      refine lv_lstore (lv' := [(6, .long (r56)), (5, .int (v5)), (3, .long (v3)), (2, .int (v2)), (1, .int (c1)), (0, .ref (k_ad Γ 0 (0)))]) hC.x hC.b dX4_weighs_59 hl (by decide) rfl (fun ls hl => ?_)
      refine lv_lload hC.x hC.b dX4_weighs_61 (lv_at hl 0 rfl) ?_
      refine lv_lload_n hC.x hC.b dX4_weighs_63 rfl (lv_at hl 2 rfl) ?_
      refine W.lcmp hC.x hC.b dX4_weighs_64 ?_
      refine lv_if_le (tgt := 74) hC.x hC.b dX4_weighs_65 (by decide) (fun hc => ?_) (fun hc => ?_)
      · have h := it_t h hc
        refine lv_iinc (v := v5 + (1 : Int32)) (lv' := [(5, .int (v5 + (1 : Int32))), (6, .long (r56)), (3, .long (v3)), (2, .int (v2)), (1, .int (c1)), (0, .ref (k_ad Γ 0 (0)))]) hC.x hC.b dX4_weighs_74 hl (k := 1) rfl rfl (by decide) rfl (fun ls hl => ?_)
        refine lv_goto (tgt := 40) hC.x hC.b dX4_weighs_77 (by decide) ?_
        exact ih _ _ _ _ _ _ _ _ h _ _ _ hw (lv_sub hl [0, 2, 3, 4, 5] rfl) kk
      · have h := it_f h hc
        refine lv_lload hC.x hC.b dX4_weighs_68 (lv_at hl 0 rfl) ?_
        refine lv_lstore_n (lv' := [(3, .long (r56)), (6, .long (r56)), (5, .int (v5)), (2, .int (v2)), (1, .int (c1)), (0, .ref (k_ad Γ 0 (0)))]) hC.x hC.b dX4_weighs_70 rfl hl (by decide) rfl (fun ls hl => ?_)
        refine lv_iload hC.x hC.b dX4_weighs_71 (lv_at hl 2 rfl) ?_
        refine lv_istore_n (lv' := [(2, .int (v5)), (3, .long (r56)), (6, .long (r56)), (5, .int (v5)), (1, .int (c1)), (0, .ref (k_ad Γ 0 (0)))]) hC.x hC.b dX4_weighs_73 rfl hl (by decide) rfl (fun ls hl => ?_)
        refine lv_iinc (v := v5 + (1 : Int32)) (lv' := [(5, .int (v5 + (1 : Int32))), (2, .int (v5)), (3, .long (r56)), (6, .long (r56)), (1, .int (c1)), (0, .ref (k_ad Γ 0 (0)))]) hC.x hC.b dX4_weighs_74 hl (k := 3) rfl rfl (by decide) rfl (fun ls hl => ?_)
        refine lv_goto (tgt := 40) hC.x hC.b dX4_weighs_77 (by decide) ?_
        exact ih _ _ _ _ _ _ _ _ h _ _ _ hw (lv_sub hl [0, 2, 1, 4, 5] rfl) kk

set_option maxRecDepth 100000 in
set_option maxHeartbeats 4000000 in
theorem c_X4_weighs {Γ : k_Pm} {l : Launch} (hl0 : l.stackTraces = false)   {g : Gt} {r : Int32} {g2 : Gt} (h : f_X4_weighs  g = some (r, g2)) : k_CI Γ l yX4_weighs wsX4_weighs rm_X4_weighs [.ref (k_ad Γ 0 (0))] g r g2 := by
  intro sz
  refine Met.ofW (cc := cX4_weighs) (maxL := 8) (ret := (some .int)) (by decide) rfl ?_
  intro p e s m args below meth c s₁ B hml hv
  obtain ⟨rfl, rfl, hP, hKS⟩ := hv
  have hr := B.returns
  have hlocks := B.notSynchronized
  have hC : k_C Γ (k_A Γ s.heap.size) p l s m _ c cX4_weighs 8 wsX4_weighs RX4 := k_C.of ⟨B.exec, B.bytes, hml, findClass_of_methodNamed B.named, atoms_spec (ws := wsX4_weighs) B.pre⟩ hKS hl0
  have hw : k_St Γ (k_A Γ s.heap.size) s [] g s.heap [] := k_St.of hKS hP
  have hl := lv_entry ([.ref (k_ad Γ 0 (0))] : List Value) (n := 8) (Nat.le_of_ble_eq_true rfl)
  rw [lg_entry_eq]
  generalize (lg_sl ([.ref (k_ad Γ 0 (0))] : List Value) ++ List.replicate (8 - (lg_sl ([.ref (k_ad Γ 0 (0))] : List Value)).length) Slot.unset).toArray = ls at hl ⊢
  have hl : lv_has ls 8 [(0, .ref (k_ad Γ 0 (0)))] := hl
  change W p l e rm_X4_weighs _ _ _ _ _ _ _ _ _ _ _ _
  unfold f_X4_weighs at h
  refine lv_aload_n hC.x hC.b dX4_weighs_0 rfl (lv_at hl 0 rfl) ?_
  refine x_get hC hw (k := 0) (T := TX4) (by decide) (k_E0 _ _ _) in_X4_weighs_X4 rfl (by decide) lk_X4_weighs_f10 rfl rfl dX4_weighs_1 ?_
  refine x_getN hC hw (k := 4) (T := TX0) (by decide) (k_E1 _ _ _) in_X4_weighs_X0 rfl (by decide) nw_f_X4_58 rfl rfl dX4_weighs_4 ?_
  refine lv_if_ne (tgt := 12) hC.x hC.b dX4_weighs_7 (by decide) (fun hc => ?_) (fun hc => ?_)
  · have h := it_f h hc
    refine lv_aload_n hC.x hC.b dX4_weighs_12 rfl (lv_at hl 0 rfl) ?_
    refine x_get hC hw (k := 0) (T := TX4) (by decide) (k_E0 _ _ _) in_X4_weighs_X4 rfl (by decide) lk_X4_weighs_f10 rfl rfl dX4_weighs_13 ?_
    refine lv_aload_n hC.x hC.b dX4_weighs_16 rfl (lv_at hl 0 rfl) ?_
    refine x_get hC hw (k := 1) (T := TX4) (by decide) (k_E0 _ _ _) in_X4_weighs_X4 rfl (by decide) lk_X4_weighs_f19 rfl rfl dX4_weighs_17 ?_
    obtain ⟨g20, hq, h⟩ := bd1_t h
    refine x_gov hC hw (x_runN hC hw (c_X0_tell (Γ := Γ) (l := l) hC.2.2.2.2 (by decide) hq) ⟨va_cnB 1 hC.t gX4_weighs_X0_tell_n115 rfl rfl rfl (hC.w nw_m_X4_115) (hC.t _ lk_X4_weighs_iX0) (by decide +kernel) ⟨Nat.le_of_ble_eq_true rfl, Nat.le_of_ble_eq_true rfl⟩, hC.t _ lk_X4_weighs_nX0_tell, hC.t _ lk_X4_weighs_zX0_tell⟩ (As := [.ref (k_ad Γ 2 (0))]) (by decide) (k_E1 _ _ _) rfl rfl rfl hl.1 (Nat.le_of_ble_eq_true rfl) dX4_weighs_20 ⟨by decide, by decide⟩) (fun H locs hw => ?_)
    refine lv_aload_n hC.x hC.b dX4_weighs_23 rfl (lv_at hl 0 rfl) ?_
    refine x_get hC hw (k := 0) (T := TX4) (by decide) (k_E0 _ _ _) in_X4_weighs_X4 rfl (by decide) lk_X4_weighs_f10 rfl rfl dX4_weighs_24 ?_
    refine x_getN hC hw (k := 2) (T := TX0) (by decide) (k_E1 _ _ _) in_X4_weighs_X0 rfl (by decide) nw_f_X4_131 rfl rfl dX4_weighs_27 ?_
    refine lv_iconst (v := (0 : Int32)) hC.x hC.b dX4_weighs_30 (by decide) ?_
    refine x_iald hC hw rfl (by decide) (by decide) dX4_weighs_31 ?_
    refine lv_istore_n (lv' := [(1, .int (g20 12 0 (((0 : Int32)).toNatClampNeg))), (0, .ref (k_ad Γ 0 (0)))]) hC.x hC.b dX4_weighs_32 rfl hl (by decide) rfl (fun ls hl => ?_)
    refine lv_iconst (v := (-1 : Int32)) hC.x hC.b dX4_weighs_33 (by decide) ?_
    refine lv_istore_n (lv' := [(2, .int ((-1 : Int32))), (1, .int (g20 12 0 (((0 : Int32)).toNatClampNeg))), (0, .ref (k_ad Γ 0 (0)))]) hC.x hC.b dX4_weighs_34 rfl hl (by decide) rfl (fun ls hl => ?_)
    refine lv_lconst (v := (0 : Int64)) hC.x hC.b dX4_weighs_35 (by decide) ?_
    refine lv_lstore_n (lv' := [(3, .long ((0 : Int64))), (2, .int ((-1 : Int32))), (1, .int (g20 12 0 (((0 : Int32)).toNatClampNeg))), (0, .ref (k_ad Γ 0 (0)))]) hC.x hC.b dX4_weighs_36 rfl hl (by decide) rfl (fun ls hl => ?_)
    refine lv_iconst (v := (0 : Int32)) hC.x hC.b dX4_weighs_37 (by decide) ?_
    refine lv_istore (lv' := [(5, .int ((0 : Int32))), (3, .long ((0 : Int64))), (2, .int ((-1 : Int32))), (1, .int (g20 12 0 (((0 : Int32)).toNatClampNeg))), (0, .ref (k_ad Γ 0 (0)))]) hC.x hC.b dX4_weighs_38 hl (by decide) rfl (fun ls hl => ?_)
    obtain ⟨w40_2, w40_3, w40_5, g40, hq, h⟩ := bd4_t h
    refine w_X4_weighs_40 hC ⟨by decide, by decide⟩  k_N _ _ _ _ _ _ _ _ hq _ _ _ hw (lv_sub hl [0, 1, 2, 3, 4] rfl) (fun H locs ls hw hl => ?_)
    refine lv_iload_n hC.x hC.b dX4_weighs_80 rfl (lv_at hl 2 rfl) ?_
    obtain ⟨rfl, rfl⟩ := sm2 h
    exact x_iret hC hw hr hlocks (by decide) (by decide) dX4_weighs_81
  · have h := it_t h hc
    refine lv_iconst (v := (-1 : Int32)) hC.x hC.b dX4_weighs_10 (by decide) ?_
    obtain ⟨rfl, rfl⟩ := sm2 h
    exact x_iret hC hw hr hlocks (by decide) (by decide) dX4_weighs_11
-- X4_line: by hand
abbrev rm_X4_mean : Room := { frames := 0, cells := 0, slots := 0, locals := 0 }
theorem in_X4_mean_X4 : ∀ w ∈ wsX40, w ∈ wsX4_mean := fun _ h => List.mem_cons_of_mem _ (List.mem_append_left _ (List.mem_append_right _ (h)))
theorem in_X4_mean_X3 : ∀ w ∈ wsX30, w ∈ wsX4_mean := fun _ h => List.mem_cons_of_mem _ (List.mem_append_right _ (h))
set_option maxRecDepth 20000 in
theorem lk_X4_mean_f29 : Cond.fieldLink RX4 29 "KnotArchive" "witnesses" "LKnotArchive$Witnesses;" ∈ wsX4_mean := by decide +kernel
set_option maxRecDepth 100000 in
set_option maxHeartbeats 4000000 in
theorem w_X4_mean_16 {Γ : k_Pm} {A0 : Nat → Prop} {p : Program} {l : Launch} {e : Env} {s : State} {m : MethodId} {args : Array Value} {below : List Frame} {meth : Method} {c : Code} {cells slots : Nat} {Q : State → Prop} {tmp : va_W} (hC : k_C Γ A0 p l s m args c cX4_mean 3 wsX4_mean RX4) (hcs : cells ≤ rm_X4_mean.cells ∧ slots ≤ rm_X4_mean.slots) : ∀ (n : Nat) (v1 : Int32) (v2 : Int32) (g : Gt) (w1 : Int32) (w2 : Int32) (g2 : Gt), f_X4_mean_16 n v1 v2 g = some (w1, w2, g2) → ∀ (H : Heap) (locs : List Loc) (ls : Array Slot), k_St Γ A0 s tmp g H locs → lv_has ls 3 [(2, .int (v2)), (1, .int (v1)), (0, .ref (k_ad Γ 0 (0)))] → (∀ (H1 : Heap) (locs1 : List Loc) (ls1 : Array Slot), k_St Γ A0 s tmp g2 H1 locs1 → lv_has ls1 3 [(2, .int (w2)), (1, .int (w1)), (0, .ref (k_ad Γ 0 (0)))] → W p l e rm_X4_mean s m args below meth c H1 locs1 cells slots Q (F0 m 45 ls1 [])) → W p l e rm_X4_mean s m args below meth c H locs cells slots Q (F0 m 16 ls []) := by
  intro n
  induction n with
  | zero => intro v1 v2 g w1 w2 g2 h; rw [f_X4_mean_16] at h; cases h
  | succ n ih =>
    intro v1 v2 g w1 w2 g2 h H locs ls hw hl kk
    rw [f_X4_mean_16] at h
    refine lv_iload_n hC.x hC.b dX4_mean_16 rfl (lv_at hl 0 rfl) ?_
    refine lv_aload_n hC.x hC.b dX4_mean_17 rfl (lv_at hl 2 rfl) ?_
    refine x_get hC hw (k := 3) (T := TX4) (by decide) (k_E0 _ _ _) in_X4_mean_X4 rfl (by decide) lk_X4_mean_f29 rfl rfl dX4_mean_18 ?_
    refine x_getN hC hw (k := 3) (T := TX3) (by decide) (k_E3 _ _ _) in_X4_mean_X3 rfl (by decide) nw_f_X4_125 rfl rfl dX4_mean_21 ?_
    refine lv_icmp_ge (tgt := 45) hC.x hC.b dX4_mean_24 (by decide) (fun hc => ?_) (fun hc => ?_)
    · have h := it_t h hc
      obtain ⟨rfl, rfl, rfl⟩ := sm3 h
      exact kk _ _ _ hw (lv_sub hl [0, 1, 2] rfl)
    · have h := it_f h hc
      refine lv_iload_n hC.x hC.b dX4_mean_27 rfl (lv_at hl 1 rfl) ?_
      refine lv_aload_n hC.x hC.b dX4_mean_28 rfl (lv_at hl 2 rfl) ?_
      refine x_get hC hw (k := 3) (T := TX4) (by decide) (k_E0 _ _ _) in_X4_mean_X4 rfl (by decide) lk_X4_mean_f29 rfl rfl dX4_mean_29 ?_
      refine x_getN hC hw (k := 0) (T := TX3) (by decide) (k_E3 _ _ _) in_X4_mean_X3 rfl (by decide) nw_f_X4_143 rfl rfl dX4_mean_32 ?_
      refine lv_iload_n hC.x hC.b dX4_mean_35 rfl (lv_at hl 0 rfl) ?_
      obtain ⟨hg1, h⟩ := gd_t h
      refine x_iald hC hw rfl (by decide) hg1 dX4_mean_36 ?_
      refine lv_iadd hC.x hC.b dX4_mean_37 ?_
      refine lv_istore_n (lv' := [(1, .int (v1 + (g 16 0 v2.toNatClampNeg))), (2, .int (v2)), (0, .ref (k_ad Γ 0 (0)))]) hC.x hC.b dX4_mean_38 rfl hl (by decide) rfl (fun ls hl => ?_)
      refine lv_iinc (v := v2 + (1 : Int32)) (lv' := [(2, .int (v2 + (1 : Int32))), (1, .int (v1 + (g 16 0 v2.toNatClampNeg))), (0, .ref (k_ad Γ 0 (0)))]) hC.x hC.b dX4_mean_39 hl (k := 1) rfl rfl (by decide) rfl (fun ls hl => ?_)
      refine lv_goto (tgt := 16) hC.x hC.b dX4_mean_42 (by decide) ?_
      exact ih _ _ _ _ _ _ h _ _ _ hw (lv_sub hl [0, 1, 2] rfl) kk

set_option maxRecDepth 100000 in
set_option maxHeartbeats 4000000 in
theorem c_X4_mean {Γ : k_Pm} {l : Launch} (hl0 : l.stackTraces = false)   {g : Gt} {r : UInt64} {g2 : Gt} (h : f_X4_mean  g = some (r, g2)) : k_CD Γ l yX4_mean wsX4_mean rm_X4_mean [.ref (k_ad Γ 0 (0))] g r g2 := by
  intro sz
  refine Met.ofW (cc := cX4_mean) (maxL := 3) (ret := (some .double)) (by decide) rfl ?_
  intro p e s m args below meth c s₁ B hml hv
  obtain ⟨rfl, rfl, hP, hKS⟩ := hv
  have hr := B.returns
  have hlocks := B.notSynchronized
  have hC : k_C Γ (k_A Γ s.heap.size) p l s m _ c cX4_mean 3 wsX4_mean RX4 := k_C.of ⟨B.exec, B.bytes, hml, findClass_of_methodNamed B.named, atoms_spec (ws := wsX4_mean) B.pre⟩ hKS hl0
  have hw : k_St Γ (k_A Γ s.heap.size) s [] g s.heap [] := k_St.of hKS hP
  have hl := lv_entry ([.ref (k_ad Γ 0 (0))] : List Value) (n := 3) (Nat.le_of_ble_eq_true rfl)
  rw [lg_entry_eq]
  generalize (lg_sl ([.ref (k_ad Γ 0 (0))] : List Value) ++ List.replicate (3 - (lg_sl ([.ref (k_ad Γ 0 (0))] : List Value)).length) Slot.unset).toArray = ls at hl ⊢
  have hl : lv_has ls 3 [(0, .ref (k_ad Γ 0 (0)))] := hl
  change W p l e rm_X4_mean _ _ _ _ _ _ _ _ _ _ _ _
  unfold f_X4_mean at h
  refine lv_aload_n hC.x hC.b dX4_mean_0 rfl (lv_at hl 0 rfl) ?_
  refine x_get hC hw (k := 3) (T := TX4) (by decide) (k_E0 _ _ _) in_X4_mean_X4 rfl (by decide) lk_X4_mean_f29 rfl rfl dX4_mean_1 ?_
  refine x_getN hC hw (k := 3) (T := TX3) (by decide) (k_E3 _ _ _) in_X4_mean_X3 rfl (by decide) nw_f_X4_125 rfl rfl dX4_mean_4 ?_
  refine lv_if_ne (tgt := 12) hC.x hC.b dX4_mean_7 (by decide) (fun hc => ?_) (fun hc => ?_)
  · have h := it_f h hc
    refine lv_iconst (v := (0 : Int32)) hC.x hC.b dX4_mean_12 (by decide) ?_
    refine lv_istore_n (lv' := [(1, .int ((0 : Int32))), (0, .ref (k_ad Γ 0 (0)))]) hC.x hC.b dX4_mean_13 rfl hl (by decide) rfl (fun ls hl => ?_)
    refine lv_iconst (v := (0 : Int32)) hC.x hC.b dX4_mean_14 (by decide) ?_
    refine lv_istore_n (lv' := [(2, .int ((0 : Int32))), (1, .int ((0 : Int32))), (0, .ref (k_ad Γ 0 (0)))]) hC.x hC.b dX4_mean_15 rfl hl (by decide) rfl (fun ls hl => ?_)
    obtain ⟨w16_1, w16_2, g16, hq, h⟩ := bd3_t h
    refine w_X4_mean_16 hC ⟨by decide, by decide⟩  k_N _ _ _ _ _ _ hq _ _ _ hw (lv_sub hl [0, 1, 2] rfl) (fun H locs ls hw hl => ?_)
    refine lv_iload_n hC.x hC.b dX4_mean_45 rfl (lv_at hl 1 rfl) ?_
    refine lv_i2d hC.x hC.b dX4_mean_46 ?_
    refine lv_aload_n hC.x hC.b dX4_mean_47 rfl (lv_at hl 2 rfl) ?_
    refine x_get hC hw (k := 3) (T := TX4) (by decide) (k_E0 _ _ _) in_X4_mean_X4 rfl (by decide) lk_X4_mean_f29 rfl rfl dX4_mean_48 ?_
    refine x_getN hC hw (k := 3) (T := TX3) (by decide) (k_E3 _ _ _) in_X4_mean_X3 rfl (by decide) nw_f_X4_125 rfl rfl dX4_mean_51 ?_
    refine lv_i2d hC.x hC.b dX4_mean_54 ?_
    obtain ⟨hg, h⟩ := gd_t h
    refine lv_ddiv hC.x hC.b dX4_mean_55 (k_nn_t hg) ?_
    obtain ⟨rfl, rfl⟩ := sm2 h
    exact x_dret hC hw hr hlocks (by decide) (by decide) dX4_mean_56
  · have h := it_t h hc
    refine lv_dconst0 hC.x hC.b dX4_mean_10 ?_
    obtain ⟨rfl, rfl⟩ := sm2 h
    exact x_dret hC hw hr hlocks (by decide) (by decide) dX4_mean_11
abbrev rm_X4_digestCords : Room := { frames := 3, cells := 0, slots := 0, locals := 66 }
theorem in_X4_digestCords_X4 : ∀ w ∈ wsX40, w ∈ wsX4_digestCords := fun _ h => List.mem_cons_of_mem _ (List.mem_append_left _ (List.mem_append_left _ (List.mem_append_right _ (h))))
theorem in_X4_digestCords_X0 : ∀ w ∈ wsX00, w ∈ wsX4_digestCords := fun _ h => List.mem_cons_of_mem _ (List.mem_append_left _ (List.mem_append_right _ (h)))
theorem in_X4_digestCords_X1 : ∀ w ∈ wsX10, w ∈ wsX4_digestCords := fun _ h => List.mem_cons_of_mem _ (List.mem_append_right _ (h))
set_option maxRecDepth 20000 in
theorem lk_X4_digestCords_f10 : Cond.fieldLink RX4 10 "KnotArchive" "cords" "LKnotArchive$Cords;" ∈ wsX4_digestCords := by decide +kernel
set_option maxRecDepth 20000 in
theorem lk_X4_digestCords_k214 : Cond.constantLong RX4 214 (31) ∈ wsX4_digestCords := by decide +kernel
set_option maxRecDepth 20000 in
theorem lk_X4_digestCords_f19 : Cond.fieldLink RX4 19 "KnotArchive" "nowKnots" "LKnotArchive$Knots;" ∈ wsX4_digestCords := by decide +kernel
set_option maxRecDepth 100000 in
set_option maxHeartbeats 4000000 in
theorem w_X4_digestCords_20 {Γ : k_Pm} {A0 : Nat → Prop} {p : Program} {l : Launch} {e : Env} {s : State} {m : MethodId} {args : Array Value} {below : List Frame} {meth : Method} {c : Code} {cells slots : Nat} {Q : State → Prop} {tmp : va_W} {c5 : Int32} {c1 : Int64} (hC : k_C Γ A0 p l s m args c cX4_digestCords 7 wsX4_digestCords RX4) (hcs : cells ≤ rm_X4_digestCords.cells ∧ slots ≤ rm_X4_digestCords.slots) : ∀ (n : Nat) (v3 : Int64) (v6 : Int32) (g : Gt) (w3 : Int64) (w6 : Int32) (g2 : Gt), f_X4_digestCords_20 c5 c1 n v3 v6 g = some (w3, w6, g2) → ∀ (H : Heap) (locs : List Loc) (ls : Array Slot), k_St Γ A0 s tmp g H locs → lv_has ls 7 [(6, .int (v6)), (5, .int (c5)), (3, .long (v3)), (0, .ref (k_ad Γ 0 (0))), (1, .long (c1))] → (∀ (H1 : Heap) (locs1 : List Loc) (ls1 : Array Slot), k_St Γ A0 s tmp g2 H1 locs1 → lv_has ls1 7 [(6, .int (w6)), (5, .int (c5)), (3, .long (w3)), (0, .ref (k_ad Γ 0 (0))), (1, .long (c1))] → W p l e rm_X4_digestCords s m args below meth c H1 locs1 cells slots Q (F0 m 49 ls1 [])) → W p l e rm_X4_digestCords s m args below meth c H locs cells slots Q (F0 m 20 ls []) := by
  intro n
  induction n with
  | zero => intro v3 v6 g w3 w6 g2 h; rw [f_X4_digestCords_20] at h; cases h
  | succ n ih =>
    intro v3 v6 g w3 w6 g2 h H locs ls hw hl kk
    rw [f_X4_digestCords_20] at h
    refine lv_iload hC.x hC.b dX4_digestCords_20 (lv_at hl 0 rfl) ?_
    refine lv_bipush (v := (8 : Int32)) hC.x hC.b dX4_digestCords_22 (by decide) ?_
    refine lv_icmp_ge (tgt := 49) hC.x hC.b dX4_digestCords_24 (by decide) (fun hc => ?_) (fun hc => ?_)
    · have h := it_t h hc
      obtain ⟨rfl, rfl, rfl⟩ := sm3 h
      exact kk _ _ _ hw (lv_sub hl [0, 1, 2, 3, 4] rfl)
    · have h := it_f h hc
      refine lv_lload_n hC.x hC.b dX4_digestCords_27 rfl (lv_at hl 2 rfl) ?_
      refine lv_ldc2 (v := (31 : Int64)) hC.x hC.b hC.o (hC.t _ lk_X4_digestCords_k214) dX4_digestCords_28 ?_
      refine lv_lmul hC.x hC.b dX4_digestCords_31 ?_
      refine lv_aload_n hC.x hC.b dX4_digestCords_32 rfl (lv_at hl 3 rfl) ?_
      refine lv_iload hC.x hC.b dX4_digestCords_33 (lv_at hl 1 rfl) ?_
      refine lv_iload hC.x hC.b dX4_digestCords_35 (lv_at hl 0 rfl) ?_
      obtain ⟨r37, g37, hq, h⟩ := bd2_t h
      refine x_goi hC hw (x_runV hC hw (c_X4_cordDetail (Γ := Γ) (l := l) hC.2.2.2.2 hq) (cwV 2 hC.t gX4_digestCords_X4_cordDetail rfl rfl rfl (by decide +kernel) ⟨Nat.le_of_ble_eq_true rfl, Nat.le_of_ble_eq_true rfl⟩) (As := [.int (c5), .int (v6)]) (by decide) (k_E0 _ _ _) rfl rfl rfl hl.1 (Nat.le_of_ble_eq_true rfl) dX4_digestCords_37 hcs) (fun H locs hw => ?_)
      refine lv_i2l hC.x hC.b dX4_digestCords_40 rfl ?_
      refine lv_ladd hC.x hC.b dX4_digestCords_41 ?_
      refine lv_lstore_n (lv' := [(3, .long ((v3 * (31 : Int64)) + r37.toInt64)), (6, .int (v6)), (5, .int (c5)), (0, .ref (k_ad Γ 0 (0))), (1, .long (c1))]) hC.x hC.b dX4_digestCords_42 rfl hl (by decide) rfl (fun ls hl => ?_)
      refine lv_iinc (v := v6 + (1 : Int32)) (lv' := [(6, .int (v6 + (1 : Int32))), (3, .long ((v3 * (31 : Int64)) + r37.toInt64)), (5, .int (c5)), (0, .ref (k_ad Γ 0 (0))), (1, .long (c1))]) hC.x hC.b dX4_digestCords_43 hl (k := 1) rfl rfl (by decide) rfl (fun ls hl => ?_)
      refine lv_goto (tgt := 20) hC.x hC.b dX4_digestCords_46 (by decide) ?_
      exact ih _ _ _ _ _ _ h _ _ _ hw (lv_sub hl [0, 2, 1, 3, 4] rfl) kk

set_option maxRecDepth 100000 in
set_option maxHeartbeats 4000000 in
theorem w_X4_digestCords_52 {Γ : k_Pm} {A0 : Nat → Prop} {p : Program} {l : Launch} {e : Env} {s : State} {m : MethodId} {args : Array Value} {below : List Frame} {meth : Method} {c : Code} {cells slots : Nat} {Q : State → Prop} {tmp : va_W} {c5 : Int32} {c1 : Int64} (hC : k_C Γ A0 p l s m args c cX4_digestCords 7 wsX4_digestCords RX4) (hcs : cells ≤ rm_X4_digestCords.cells ∧ slots ≤ rm_X4_digestCords.slots) : ∀ (n : Nat) (v3 : Int64) (v6 : Int32) (g : Gt) (w3 : Int64) (w6 : Int32) (g2 : Gt), f_X4_digestCords_52 c5 c1 n v3 v6 g = some (w3, w6, g2) → ∀ (H : Heap) (locs : List Loc) (ls : Array Slot), k_St Γ A0 s tmp g H locs → lv_has ls 7 [(6, .int (v6)), (5, .int (c5)), (3, .long (v3)), (0, .ref (k_ad Γ 0 (0))), (1, .long (c1))] → (∀ (H1 : Heap) (locs1 : List Loc) (ls1 : Array Slot), k_St Γ A0 s tmp g2 H1 locs1 → lv_has ls1 7 [(6, .int (w6)), (5, .int (c5)), (3, .long (w3)), (0, .ref (k_ad Γ 0 (0))), (1, .long (c1))] → W p l e rm_X4_digestCords s m args below meth c H1 locs1 cells slots Q (F0 m 106 ls1 [])) → W p l e rm_X4_digestCords s m args below meth c H locs cells slots Q (F0 m 52 ls []) := by
  intro n
  induction n with
  | zero => intro v3 v6 g w3 w6 g2 h; rw [f_X4_digestCords_52] at h; cases h
  | succ n ih =>
    intro v3 v6 g w3 w6 g2 h H locs ls hw hl kk
    rw [f_X4_digestCords_52] at h
    refine lv_iload hC.x hC.b dX4_digestCords_52 (lv_at hl 0 rfl) ?_
    refine lv_iconst (v := (4 : Int32)) hC.x hC.b dX4_digestCords_54 (by decide) ?_
    refine lv_icmp_ge (tgt := 106) hC.x hC.b dX4_digestCords_55 (by decide) (fun hc => ?_) (fun hc => ?_)
    · have h := it_t h hc
      obtain ⟨rfl, rfl, rfl⟩ := sm3 h
      exact kk _ _ _ hw (lv_sub hl [0, 1, 2, 3, 4] rfl)
    · have h := it_f h hc
      refine lv_lload_n hC.x hC.b dX4_digestCords_58 rfl (lv_at hl 2 rfl) ?_
      refine lv_ldc2 (v := (31 : Int64)) hC.x hC.b hC.o (hC.t _ lk_X4_digestCords_k214) dX4_digestCords_59 ?_
      refine lv_lmul hC.x hC.b dX4_digestCords_62 ?_
      refine lv_aload_n hC.x hC.b dX4_digestCords_63 rfl (lv_at hl 3 rfl) ?_
      refine x_get hC hw (k := 1) (T := TX4) (by decide) (k_E0 _ _ _) in_X4_digestCords_X4 rfl (by decide) lk_X4_digestCords_f19 rfl rfl dX4_digestCords_64 ?_
      refine x_getN hC hw (k := 0) (T := TX1) (by decide) (k_E2 _ _ _) in_X4_digestCords_X1 rfl (by decide) nw_f_X4_93 rfl rfl dX4_digestCords_67 ?_
      refine lv_iload hC.x hC.b dX4_digestCords_70 (lv_at hl 1 rfl) ?_
      obtain ⟨hg1, h⟩ := gd_t h
      have hr1 := k_ci_lt (t := 14) (i := 0) rfl (by decide) hg1
      refine x_aald hC hw (t := 14) rfl (by decide) (by decide) hg1 dX4_digestCords_72 ?_
      refine lv_iload hC.x hC.b dX4_digestCords_73 (lv_at hl 0 rfl) ?_
      obtain ⟨hg2, h⟩ := gd_t h
      refine x_iald hC hw rfl hr1 hg2 dX4_digestCords_75 ?_
      refine lv_i2l hC.x hC.b dX4_digestCords_76 rfl ?_
      refine lv_ladd hC.x hC.b dX4_digestCords_77 ?_
      refine lv_lstore_n (lv' := [(3, .long ((v3 * (31 : Int64)) + ((g 20 (16 * 0 + c5.toNatClampNeg) v6.toNatClampNeg).toInt64))), (6, .int (v6)), (5, .int (c5)), (0, .ref (k_ad Γ 0 (0))), (1, .long (c1))]) hC.x hC.b dX4_digestCords_78 rfl hl (by decide) rfl (fun ls hl => ?_)
      refine lv_lload_n hC.x hC.b dX4_digestCords_79 rfl (lv_at hl 0 rfl) ?_
      refine lv_ldc2 (v := (31 : Int64)) hC.x hC.b hC.o (hC.t _ lk_X4_digestCords_k214) dX4_digestCords_80 ?_
      refine lv_lmul hC.x hC.b dX4_digestCords_83 ?_
      refine lv_aload_n hC.x hC.b dX4_digestCords_84 rfl (lv_at hl 3 rfl) ?_
      refine x_get hC hw (k := 1) (T := TX4) (by decide) (k_E0 _ _ _) in_X4_digestCords_X4 rfl (by decide) lk_X4_digestCords_f19 rfl rfl dX4_digestCords_85 ?_
      refine x_getN hC hw (k := 1) (T := TX1) (by decide) (k_E2 _ _ _) in_X4_digestCords_X1 rfl (by decide) nw_f_X4_122 rfl rfl dX4_digestCords_88 ?_
      refine lv_iload hC.x hC.b dX4_digestCords_91 (lv_at hl 2 rfl) ?_
      obtain ⟨hg3, h⟩ := gd_t h
      have hr2 := k_ci_lt (t := 15) (i := 0) rfl (by decide) hg3
      refine x_aald hC hw (t := 15) rfl (by decide) (by decide) hg3 dX4_digestCords_93 ?_
      refine lv_iload hC.x hC.b dX4_digestCords_94 (lv_at hl 1 rfl) ?_
      obtain ⟨hg4, h⟩ := gd_t h
      refine x_iald hC hw rfl hr2 hg4 dX4_digestCords_96 ?_
      refine lv_i2l hC.x hC.b dX4_digestCords_97 rfl ?_
      refine lv_ladd hC.x hC.b dX4_digestCords_98 ?_
      refine lv_lstore_n (lv' := [(3, .long ((((v3 * (31 : Int64)) + ((g 20 (16 * 0 + c5.toNatClampNeg) v6.toNatClampNeg).toInt64)) * (31 : Int64)) + ((g 21 (16 * 0 + c5.toNatClampNeg) v6.toNatClampNeg).toInt64))), (6, .int (v6)), (5, .int (c5)), (0, .ref (k_ad Γ 0 (0))), (1, .long (c1))]) hC.x hC.b dX4_digestCords_99 rfl hl (by decide) rfl (fun ls hl => ?_)
      refine lv_iinc (v := v6 + (1 : Int32)) (lv' := [(6, .int (v6 + (1 : Int32))), (3, .long ((((v3 * (31 : Int64)) + ((g 20 (16 * 0 + c5.toNatClampNeg) v6.toNatClampNeg).toInt64)) * (31 : Int64)) + ((g 21 (16 * 0 + c5.toNatClampNeg) v6.toNatClampNeg).toInt64))), (5, .int (c5)), (0, .ref (k_ad Γ 0 (0))), (1, .long (c1))]) hC.x hC.b dX4_digestCords_100 hl (k := 1) rfl rfl (by decide) rfl (fun ls hl => ?_)
      refine lv_goto (tgt := 52) hC.x hC.b dX4_digestCords_103 (by decide) ?_
      exact ih _ _ _ _ _ _ h _ _ _ hw (lv_sub hl [0, 2, 1, 3, 4] rfl) kk

set_option maxRecDepth 100000 in
set_option maxHeartbeats 4000000 in
theorem w_X4_digestCords_5 {Γ : k_Pm} {A0 : Nat → Prop} {p : Program} {l : Launch} {e : Env} {s : State} {m : MethodId} {args : Array Value} {below : List Frame} {meth : Method} {c : Code} {cells slots : Nat} {Q : State → Prop} {tmp : va_W} {c1 : Int64} (hC : k_C Γ A0 p l s m args c cX4_digestCords 7 wsX4_digestCords RX4) (hcs : cells ≤ rm_X4_digestCords.cells ∧ slots ≤ rm_X4_digestCords.slots) : ∀ (n : Nat) (v3 : Int64) (v5 : Int32) (g : Gt) (w3 : Int64) (w5 : Int32) (g2 : Gt), f_X4_digestCords_5 c1 n v3 v5 g = some (w3, w5, g2) → ∀ (H : Heap) (locs : List Loc) (ls : Array Slot), k_St Γ A0 s tmp g H locs → lv_has ls 7 [(5, .int (v5)), (3, .long (v3)), (0, .ref (k_ad Γ 0 (0))), (1, .long (c1))] → (∀ (H1 : Heap) (locs1 : List Loc) (ls1 : Array Slot), k_St Γ A0 s tmp g2 H1 locs1 → lv_has ls1 7 [(5, .int (w5)), (3, .long (w3)), (0, .ref (k_ad Γ 0 (0))), (1, .long (c1))] → W p l e rm_X4_digestCords s m args below meth c H1 locs1 cells slots Q (F0 m 112 ls1 [])) → W p l e rm_X4_digestCords s m args below meth c H locs cells slots Q (F0 m 5 ls []) := by
  intro n
  induction n with
  | zero => intro v3 v5 g w3 w5 g2 h; rw [f_X4_digestCords_5] at h; cases h
  | succ n ih =>
    intro v3 v5 g w3 w5 g2 h H locs ls hw hl kk
    rw [f_X4_digestCords_5] at h
    refine lv_iload hC.x hC.b dX4_digestCords_5 (lv_at hl 0 rfl) ?_
    refine lv_aload_n hC.x hC.b dX4_digestCords_7 rfl (lv_at hl 2 rfl) ?_
    refine x_get hC hw (k := 0) (T := TX4) (by decide) (k_E0 _ _ _) in_X4_digestCords_X4 rfl (by decide) lk_X4_digestCords_f10 rfl rfl dX4_digestCords_8 ?_
    refine x_getN hC hw (k := 4) (T := TX0) (by decide) (k_E1 _ _ _) in_X4_digestCords_X0 rfl (by decide) nw_f_X4_58 rfl rfl dX4_digestCords_11 ?_
    refine lv_icmp_ge (tgt := 112) hC.x hC.b dX4_digestCords_14 (by decide) (fun hc => ?_) (fun hc => ?_)
    · have h := it_t h hc
      obtain ⟨rfl, rfl, rfl⟩ := sm3 h
      exact kk _ _ _ hw (lv_sub hl [0, 1, 2, 3] rfl)
    · have h := it_f h hc
      refine lv_iconst (v := (0 : Int32)) hC.x hC.b dX4_digestCords_17 (by decide) ?_
      refine lv_istore (lv' := [(6, .int ((0 : Int32))), (5, .int (v5)), (3, .long (v3)), (0, .ref (k_ad Γ 0 (0))), (1, .long (c1))]) hC.x hC.b dX4_digestCords_18 hl (by decide) rfl (fun ls hl => ?_)
      obtain ⟨w20_3, w20_6, g20, hq, h⟩ := bd3_t h
      refine w_X4_digestCords_20 hC hcs  k_N _ _ _ _ _ _ hq _ _ _ hw (lv_sub hl [0, 1, 2, 3, 4] rfl) (fun H locs ls hw hl => ?_)
      refine lv_iconst (v := (0 : Int32)) hC.x hC.b dX4_digestCords_49 (by decide) ?_
      refine lv_istore (lv' := [(6, .int ((0 : Int32))), (5, .int (v5)), (3, .long (w20_3)), (0, .ref (k_ad Γ 0 (0))), (1, .long (c1))]) hC.x hC.b dX4_digestCords_50 hl (by decide) rfl (fun ls hl => ?_)
      obtain ⟨w52_3, w52_6, g52, hq, h⟩ := bd3_t h
      refine w_X4_digestCords_52 hC hcs  k_N _ _ _ _ _ _ hq _ _ _ hw (lv_sub hl [0, 1, 2, 3, 4] rfl) (fun H locs ls hw hl => ?_)
      refine lv_iinc (v := v5 + (1 : Int32)) (lv' := [(5, .int (v5 + (1 : Int32))), (6, .int (w52_6)), (3, .long (w52_3)), (0, .ref (k_ad Γ 0 (0))), (1, .long (c1))]) hC.x hC.b dX4_digestCords_106 hl (k := 1) rfl rfl (by decide) rfl (fun ls hl => ?_)
      refine lv_goto (tgt := 5) hC.x hC.b dX4_digestCords_109 (by decide) ?_
      exact ih _ _ _ _ _ _ h _ _ _ hw (lv_sub hl [0, 2, 3, 4] rfl) kk

set_option maxRecDepth 100000 in
set_option maxHeartbeats 4000000 in
theorem c_X4_digestCords {Γ : k_Pm} {l : Launch} (hl0 : l.stackTraces = false) {x1 : Int64}  {g : Gt} {r : Int64} {g2 : Gt} (h : f_X4_digestCords x1 g = some (r, g2)) : k_CL Γ l yX4_digestCords wsX4_digestCords rm_X4_digestCords [.ref (k_ad Γ 0 (0)), .long (x1)] g r g2 := by
  intro sz
  refine Met.ofW (cc := cX4_digestCords) (maxL := 7) (ret := (some .long)) (by decide) rfl ?_
  intro p e s m args below meth c s₁ B hml hv
  obtain ⟨rfl, rfl, hP, hKS⟩ := hv
  have hr := B.returns
  have hlocks := B.notSynchronized
  have hC : k_C Γ (k_A Γ s.heap.size) p l s m _ c cX4_digestCords 7 wsX4_digestCords RX4 := k_C.of ⟨B.exec, B.bytes, hml, findClass_of_methodNamed B.named, atoms_spec (ws := wsX4_digestCords) B.pre⟩ hKS hl0
  have hw : k_St Γ (k_A Γ s.heap.size) s [] g s.heap [] := k_St.of hKS hP
  have hl := lv_entry ([.ref (k_ad Γ 0 (0)), .long (x1)] : List Value) (n := 7) (Nat.le_of_ble_eq_true rfl)
  rw [lg_entry_eq]
  generalize (lg_sl ([.ref (k_ad Γ 0 (0)), .long (x1)] : List Value) ++ List.replicate (7 - (lg_sl ([.ref (k_ad Γ 0 (0)), .long (x1)] : List Value)).length) Slot.unset).toArray = ls at hl ⊢
  have hl : lv_has ls 7 [(0, .ref (k_ad Γ 0 (0))), (1, .long (x1))] := hl
  change W p l e rm_X4_digestCords _ _ _ _ _ _ _ _ _ _ _ _
  unfold f_X4_digestCords at h
  refine lv_lload_n hC.x hC.b dX4_digestCords_0 rfl (lv_at hl 1 rfl) ?_
  refine lv_lstore_n (lv' := [(3, .long (x1)), (0, .ref (k_ad Γ 0 (0))), (1, .long (x1))]) hC.x hC.b dX4_digestCords_1 rfl hl (by decide) rfl (fun ls hl => ?_)
  refine lv_iconst (v := (0 : Int32)) hC.x hC.b dX4_digestCords_2 (by decide) ?_
  refine lv_istore (lv' := [(5, .int ((0 : Int32))), (3, .long (x1)), (0, .ref (k_ad Γ 0 (0))), (1, .long (x1))]) hC.x hC.b dX4_digestCords_3 hl (by decide) rfl (fun ls hl => ?_)
  obtain ⟨w5_3, w5_5, g5, hq, h⟩ := bd3_t h
  refine w_X4_digestCords_5 hC ⟨by decide, by decide⟩  k_N _ _ _ _ _ _ hq _ _ _ hw (lv_sub hl [0, 1, 2, 3] rfl) (fun H locs ls hw hl => ?_)
  refine lv_lload_n hC.x hC.b dX4_digestCords_112 rfl (lv_at hl 1 rfl) ?_
  obtain ⟨rfl, rfl⟩ := sm2 h
  exact x_lret hC hw hr hlocks (by decide) (by decide) dX4_digestCords_113
abbrev rm_X4_digestWitnesses : Room := { frames := 2, cells := 0, slots := 0, locals := 45 }
theorem in_X4_digestWitnesses_X4 : ∀ w ∈ wsX40, w ∈ wsX4_digestWitnesses := fun _ h => List.mem_cons_of_mem _ (List.mem_append_left _ (List.mem_append_left _ (List.mem_append_right _ (h))))
theorem in_X4_digestWitnesses_X3 : ∀ w ∈ wsX30, w ∈ wsX4_digestWitnesses := fun _ h => List.mem_cons_of_mem _ (List.mem_append_left _ (List.mem_append_right _ (h)))
theorem in_X4_digestWitnesses_X0 : ∀ w ∈ wsX00, w ∈ wsX4_digestWitnesses := fun _ h => List.mem_cons_of_mem _ (List.mem_append_right _ (h))
set_option maxRecDepth 20000 in
theorem lk_X4_digestWitnesses_f29 : Cond.fieldLink RX4 29 "KnotArchive" "witnesses" "LKnotArchive$Witnesses;" ∈ wsX4_digestWitnesses := by decide +kernel
set_option maxRecDepth 20000 in
theorem lk_X4_digestWitnesses_k214 : Cond.constantLong RX4 214 (31) ∈ wsX4_digestWitnesses := by decide +kernel
set_option maxRecDepth 20000 in
theorem lk_X4_digestWitnesses_f10 : Cond.fieldLink RX4 10 "KnotArchive" "cords" "LKnotArchive$Cords;" ∈ wsX4_digestWitnesses := by decide +kernel
set_option maxRecDepth 20000 in
theorem lk_X4_digestWitnesses_iX3 : Cond.initialized RX3 ∈ wsX4_digestWitnesses := by decide +kernel
set_option maxRecDepth 20000 in
theorem lk_X4_digestWitnesses_nX3_memory : Cond.instanceMethod yX3_memory ∈ wsX4_digestWitnesses := by decide +kernel
set_option maxRecDepth 20000 in
theorem lk_X4_digestWitnesses_zX3_memory : Cond.selects RX3 yX3_memory yX3_memory ∈ wsX4_digestWitnesses := by decide +kernel
set_option maxRecDepth 100000 in
set_option maxHeartbeats 4000000 in
theorem w_X4_digestWitnesses_53 {Γ : k_Pm} {A0 : Nat → Prop} {p : Program} {l : Launch} {e : Env} {s : State} {m : MethodId} {args : Array Value} {below : List Frame} {meth : Method} {c : Code} {cells slots : Nat} {Q : State → Prop} {tmp : va_W} {c6 : Int32} {c5 : Int32} {c1 : Int64} (hC : k_C Γ A0 p l s m args c cX4_digestWitnesses 8 wsX4_digestWitnesses RX4) (hcs : cells ≤ rm_X4_digestWitnesses.cells ∧ slots ≤ rm_X4_digestWitnesses.slots) : ∀ (n : Nat) (v3 : Int64) (v7 : Int32) (g : Gt) (w3 : Int64) (w7 : Int32) (g2 : Gt), f_X4_digestWitnesses_53 c6 c5 c1 n v3 v7 g = some (w3, w7, g2) → ∀ (H : Heap) (locs : List Loc) (ls : Array Slot), k_St Γ A0 s tmp g H locs → lv_has ls 8 [(7, .int (v7)), (6, .int (c6)), (3, .long (v3)), (5, .int (c5)), (0, .ref (k_ad Γ 0 (0))), (1, .long (c1))] → (∀ (H1 : Heap) (locs1 : List Loc) (ls1 : Array Slot), k_St Γ A0 s tmp g2 H1 locs1 → lv_has ls1 8 [(7, .int (w7)), (6, .int (c6)), (3, .long (w3)), (5, .int (c5)), (0, .ref (k_ad Γ 0 (0))), (1, .long (c1))] → W p l e rm_X4_digestWitnesses s m args below meth c H1 locs1 cells slots Q (F0 m 86 ls1 [])) → W p l e rm_X4_digestWitnesses s m args below meth c H locs cells slots Q (F0 m 53 ls []) := by
  intro n
  induction n with
  | zero => intro v3 v7 g w3 w7 g2 h; rw [f_X4_digestWitnesses_53] at h; cases h
  | succ n ih =>
    intro v3 v7 g w3 w7 g2 h H locs ls hw hl kk
    rw [f_X4_digestWitnesses_53] at h
    refine lv_iload hC.x hC.b dX4_digestWitnesses_53 (lv_at hl 0 rfl) ?_
    refine lv_iconst (v := (3 : Int32)) hC.x hC.b dX4_digestWitnesses_55 (by decide) ?_
    refine lv_icmp_ge (tgt := 86) hC.x hC.b dX4_digestWitnesses_56 (by decide) (fun hc => ?_) (fun hc => ?_)
    · have h := it_t h hc
      obtain ⟨rfl, rfl, rfl⟩ := sm3 h
      exact kk _ _ _ hw (lv_sub hl [0, 1, 2, 3, 4, 5] rfl)
    · have h := it_f h hc
      refine lv_lload_n hC.x hC.b dX4_digestWitnesses_59 rfl (lv_at hl 2 rfl) ?_
      refine lv_ldc2 (v := (31 : Int64)) hC.x hC.b hC.o (hC.t _ lk_X4_digestWitnesses_k214) dX4_digestWitnesses_60 ?_
      refine lv_lmul hC.x hC.b dX4_digestWitnesses_63 ?_
      refine lv_aload_n hC.x hC.b dX4_digestWitnesses_64 rfl (lv_at hl 4 rfl) ?_
      refine x_get hC hw (k := 3) (T := TX4) (by decide) (k_E0 _ _ _) in_X4_digestWitnesses_X4 rfl (by decide) lk_X4_digestWitnesses_f29 rfl rfl dX4_digestWitnesses_65 ?_
      refine lv_iload hC.x hC.b dX4_digestWitnesses_68 (lv_at hl 3 rfl) ?_
      refine lv_iload hC.x hC.b dX4_digestWitnesses_70 (lv_at hl 1 rfl) ?_
      refine lv_iload hC.x hC.b dX4_digestWitnesses_72 (lv_at hl 0 rfl) ?_
      obtain ⟨r74, g74, hq, h⟩ := bd2_t h
      refine x_goi hC hw (x_runN hC hw (c_X3_memory (Γ := Γ) (l := l) hC.2.2.2.2 hq) ⟨va_cnB 3 hC.t gX4_digestWitnesses_X3_memory_n139 rfl rfl rfl (hC.w nw_m_X4_139) (hC.t _ lk_X4_digestWitnesses_iX3) (by decide +kernel) ⟨Nat.le_of_ble_eq_true rfl, Nat.le_of_ble_eq_true rfl⟩, hC.t _ lk_X4_digestWitnesses_nX3_memory, hC.t _ lk_X4_digestWitnesses_zX3_memory⟩ (As := [.int (c5), .int (c6), .int (v7)]) (by decide) (k_E3 _ _ _) rfl rfl rfl hl.1 (Nat.le_of_ble_eq_true rfl) dX4_digestWitnesses_74 hcs) (fun H locs hw => ?_)
      refine lv_i2l hC.x hC.b dX4_digestWitnesses_77 rfl ?_
      refine lv_ladd hC.x hC.b dX4_digestWitnesses_78 ?_
      refine lv_lstore_n (lv' := [(3, .long ((v3 * (31 : Int64)) + r74.toInt64)), (7, .int (v7)), (6, .int (c6)), (5, .int (c5)), (0, .ref (k_ad Γ 0 (0))), (1, .long (c1))]) hC.x hC.b dX4_digestWitnesses_79 rfl hl (by decide) rfl (fun ls hl => ?_)
      refine lv_iinc (v := v7 + (1 : Int32)) (lv' := [(7, .int (v7 + (1 : Int32))), (3, .long ((v3 * (31 : Int64)) + r74.toInt64)), (6, .int (c6)), (5, .int (c5)), (0, .ref (k_ad Γ 0 (0))), (1, .long (c1))]) hC.x hC.b dX4_digestWitnesses_80 hl (k := 1) rfl rfl (by decide) rfl (fun ls hl => ?_)
      refine lv_goto (tgt := 53) hC.x hC.b dX4_digestWitnesses_83 (by decide) ?_
      exact ih _ _ _ _ _ _ h _ _ _ hw (lv_sub hl [0, 2, 1, 3, 4, 5] rfl) kk

set_option maxRecDepth 100000 in
set_option maxHeartbeats 4000000 in
theorem w_X4_digestWitnesses_38 {Γ : k_Pm} {A0 : Nat → Prop} {p : Program} {l : Launch} {e : Env} {s : State} {m : MethodId} {args : Array Value} {below : List Frame} {meth : Method} {c : Code} {cells slots : Nat} {Q : State → Prop} {tmp : va_W} {c5 : Int32} {c1 : Int64} (hC : k_C Γ A0 p l s m args c cX4_digestWitnesses 8 wsX4_digestWitnesses RX4) (hcs : cells ≤ rm_X4_digestWitnesses.cells ∧ slots ≤ rm_X4_digestWitnesses.slots) : ∀ (n : Nat) (v3 : Int64) (v6 : Int32) (g : Gt) (w3 : Int64) (w6 : Int32) (g2 : Gt), f_X4_digestWitnesses_38 c5 c1 n v3 v6 g = some (w3, w6, g2) → ∀ (H : Heap) (locs : List Loc) (ls : Array Slot), k_St Γ A0 s tmp g H locs → lv_has ls 8 [(6, .int (v6)), (3, .long (v3)), (5, .int (c5)), (0, .ref (k_ad Γ 0 (0))), (1, .long (c1))] → (∀ (H1 : Heap) (locs1 : List Loc) (ls1 : Array Slot), k_St Γ A0 s tmp g2 H1 locs1 → lv_has ls1 8 [(6, .int (w6)), (3, .long (w3)), (5, .int (c5)), (0, .ref (k_ad Γ 0 (0))), (1, .long (c1))] → W p l e rm_X4_digestWitnesses s m args below meth c H1 locs1 cells slots Q (F0 m 92 ls1 [])) → W p l e rm_X4_digestWitnesses s m args below meth c H locs cells slots Q (F0 m 38 ls []) := by
  intro n
  induction n with
  | zero => intro v3 v6 g w3 w6 g2 h; rw [f_X4_digestWitnesses_38] at h; cases h
  | succ n ih =>
    intro v3 v6 g w3 w6 g2 h H locs ls hw hl kk
    rw [f_X4_digestWitnesses_38] at h
    refine lv_iload hC.x hC.b dX4_digestWitnesses_38 (lv_at hl 0 rfl) ?_
    refine lv_aload_n hC.x hC.b dX4_digestWitnesses_40 rfl (lv_at hl 3 rfl) ?_
    refine x_get hC hw (k := 0) (T := TX4) (by decide) (k_E0 _ _ _) in_X4_digestWitnesses_X4 rfl (by decide) lk_X4_digestWitnesses_f10 rfl rfl dX4_digestWitnesses_41 ?_
    refine x_getN hC hw (k := 4) (T := TX0) (by decide) (k_E1 _ _ _) in_X4_digestWitnesses_X0 rfl (by decide) nw_f_X4_58 rfl rfl dX4_digestWitnesses_44 ?_
    refine lv_icmp_ge (tgt := 92) hC.x hC.b dX4_digestWitnesses_47 (by decide) (fun hc => ?_) (fun hc => ?_)
    · have h := it_t h hc
      obtain ⟨rfl, rfl, rfl⟩ := sm3 h
      exact kk _ _ _ hw (lv_sub hl [0, 1, 2, 3, 4] rfl)
    · have h := it_f h hc
      refine lv_iconst (v := (0 : Int32)) hC.x hC.b dX4_digestWitnesses_50 (by decide) ?_
      refine lv_istore (lv' := [(7, .int ((0 : Int32))), (6, .int (v6)), (3, .long (v3)), (5, .int (c5)), (0, .ref (k_ad Γ 0 (0))), (1, .long (c1))]) hC.x hC.b dX4_digestWitnesses_51 hl (by decide) rfl (fun ls hl => ?_)
      obtain ⟨w53_3, w53_7, g53, hq, h⟩ := bd3_t h
      refine w_X4_digestWitnesses_53 hC hcs  k_N _ _ _ _ _ _ hq _ _ _ hw (lv_sub hl [0, 1, 2, 3, 4, 5] rfl) (fun H locs ls hw hl => ?_)
      refine lv_iinc (v := v6 + (1 : Int32)) (lv' := [(6, .int (v6 + (1 : Int32))), (7, .int (w53_7)), (3, .long (w53_3)), (5, .int (c5)), (0, .ref (k_ad Γ 0 (0))), (1, .long (c1))]) hC.x hC.b dX4_digestWitnesses_86 hl (k := 1) rfl rfl (by decide) rfl (fun ls hl => ?_)
      refine lv_goto (tgt := 38) hC.x hC.b dX4_digestWitnesses_89 (by decide) ?_
      exact ih _ _ _ _ _ _ h _ _ _ hw (lv_sub hl [0, 2, 3, 4, 5] rfl) kk

set_option maxRecDepth 100000 in
set_option maxHeartbeats 4000000 in
theorem w_X4_digestWitnesses_5 {Γ : k_Pm} {A0 : Nat → Prop} {p : Program} {l : Launch} {e : Env} {s : State} {m : MethodId} {args : Array Value} {below : List Frame} {meth : Method} {c : Code} {cells slots : Nat} {Q : State → Prop} {tmp : va_W} {c1 : Int64} (hC : k_C Γ A0 p l s m args c cX4_digestWitnesses 8 wsX4_digestWitnesses RX4) (hcs : cells ≤ rm_X4_digestWitnesses.cells ∧ slots ≤ rm_X4_digestWitnesses.slots) : ∀ (n : Nat) (v3 : Int64) (v5 : Int32) (g : Gt) (w3 : Int64) (w5 : Int32) (g2 : Gt), f_X4_digestWitnesses_5 c1 n v3 v5 g = some (w3, w5, g2) → ∀ (H : Heap) (locs : List Loc) (ls : Array Slot), k_St Γ A0 s tmp g H locs → lv_has ls 8 [(5, .int (v5)), (3, .long (v3)), (0, .ref (k_ad Γ 0 (0))), (1, .long (c1))] → (∀ (H1 : Heap) (locs1 : List Loc) (ls1 : Array Slot), k_St Γ A0 s tmp g2 H1 locs1 → lv_has ls1 8 [(5, .int (w5)), (3, .long (w3)), (0, .ref (k_ad Γ 0 (0))), (1, .long (c1))] → W p l e rm_X4_digestWitnesses s m args below meth c H1 locs1 cells slots Q (F0 m 98 ls1 [])) → W p l e rm_X4_digestWitnesses s m args below meth c H locs cells slots Q (F0 m 5 ls []) := by
  intro n
  induction n with
  | zero => intro v3 v5 g w3 w5 g2 h; rw [f_X4_digestWitnesses_5] at h; cases h
  | succ n ih =>
    intro v3 v5 g w3 w5 g2 h H locs ls hw hl kk
    rw [f_X4_digestWitnesses_5] at h
    refine lv_iload hC.x hC.b dX4_digestWitnesses_5 (lv_at hl 0 rfl) ?_
    refine lv_aload_n hC.x hC.b dX4_digestWitnesses_7 rfl (lv_at hl 2 rfl) ?_
    refine x_get hC hw (k := 3) (T := TX4) (by decide) (k_E0 _ _ _) in_X4_digestWitnesses_X4 rfl (by decide) lk_X4_digestWitnesses_f29 rfl rfl dX4_digestWitnesses_8 ?_
    refine x_getN hC hw (k := 3) (T := TX3) (by decide) (k_E3 _ _ _) in_X4_digestWitnesses_X3 rfl (by decide) nw_f_X4_125 rfl rfl dX4_digestWitnesses_11 ?_
    refine lv_icmp_ge (tgt := 98) hC.x hC.b dX4_digestWitnesses_14 (by decide) (fun hc => ?_) (fun hc => ?_)
    · have h := it_t h hc
      obtain ⟨rfl, rfl, rfl⟩ := sm3 h
      exact kk _ _ _ hw (lv_sub hl [0, 1, 2, 3] rfl)
    · have h := it_f h hc
      refine lv_lload_n hC.x hC.b dX4_digestWitnesses_17 rfl (lv_at hl 1 rfl) ?_
      refine lv_ldc2 (v := (31 : Int64)) hC.x hC.b hC.o (hC.t _ lk_X4_digestWitnesses_k214) dX4_digestWitnesses_18 ?_
      refine lv_lmul hC.x hC.b dX4_digestWitnesses_21 ?_
      refine lv_aload_n hC.x hC.b dX4_digestWitnesses_22 rfl (lv_at hl 2 rfl) ?_
      refine x_get hC hw (k := 3) (T := TX4) (by decide) (k_E0 _ _ _) in_X4_digestWitnesses_X4 rfl (by decide) lk_X4_digestWitnesses_f29 rfl rfl dX4_digestWitnesses_23 ?_
      refine x_getN hC hw (k := 0) (T := TX3) (by decide) (k_E3 _ _ _) in_X4_digestWitnesses_X3 rfl (by decide) nw_f_X4_143 rfl rfl dX4_digestWitnesses_26 ?_
      refine lv_iload hC.x hC.b dX4_digestWitnesses_29 (lv_at hl 0 rfl) ?_
      obtain ⟨hg1, h⟩ := gd_t h
      refine x_iald hC hw rfl (by decide) hg1 dX4_digestWitnesses_31 ?_
      refine lv_i2l hC.x hC.b dX4_digestWitnesses_32 rfl ?_
      refine lv_ladd hC.x hC.b dX4_digestWitnesses_33 ?_
      refine lv_lstore_n (lv' := [(3, .long ((v3 * (31 : Int64)) + ((g 16 0 v5.toNatClampNeg).toInt64))), (5, .int (v5)), (0, .ref (k_ad Γ 0 (0))), (1, .long (c1))]) hC.x hC.b dX4_digestWitnesses_34 rfl hl (by decide) rfl (fun ls hl => ?_)
      refine lv_iconst (v := (0 : Int32)) hC.x hC.b dX4_digestWitnesses_35 (by decide) ?_
      refine lv_istore (lv' := [(6, .int ((0 : Int32))), (3, .long ((v3 * (31 : Int64)) + ((g 16 0 v5.toNatClampNeg).toInt64))), (5, .int (v5)), (0, .ref (k_ad Γ 0 (0))), (1, .long (c1))]) hC.x hC.b dX4_digestWitnesses_36 hl (by decide) rfl (fun ls hl => ?_)
      obtain ⟨w38_3, w38_6, g38, hq, h⟩ := bd3_t h
      refine w_X4_digestWitnesses_38 hC hcs  k_N _ _ _ _ _ _ hq _ _ _ hw (lv_sub hl [0, 1, 2, 3, 4] rfl) (fun H locs ls hw hl => ?_)
      refine lv_iinc (v := v5 + (1 : Int32)) (lv' := [(5, .int (v5 + (1 : Int32))), (6, .int (w38_6)), (3, .long (w38_3)), (0, .ref (k_ad Γ 0 (0))), (1, .long (c1))]) hC.x hC.b dX4_digestWitnesses_92 hl (k := 2) rfl rfl (by decide) rfl (fun ls hl => ?_)
      refine lv_goto (tgt := 5) hC.x hC.b dX4_digestWitnesses_95 (by decide) ?_
      exact ih _ _ _ _ _ _ h _ _ _ hw (lv_sub hl [0, 2, 3, 4] rfl) kk

set_option maxRecDepth 100000 in
set_option maxHeartbeats 4000000 in
theorem c_X4_digestWitnesses {Γ : k_Pm} {l : Launch} (hl0 : l.stackTraces = false) {x1 : Int64}  {g : Gt} {r : Int64} {g2 : Gt} (h : f_X4_digestWitnesses x1 g = some (r, g2)) : k_CL Γ l yX4_digestWitnesses wsX4_digestWitnesses rm_X4_digestWitnesses [.ref (k_ad Γ 0 (0)), .long (x1)] g r g2 := by
  intro sz
  refine Met.ofW (cc := cX4_digestWitnesses) (maxL := 8) (ret := (some .long)) (by decide) rfl ?_
  intro p e s m args below meth c s₁ B hml hv
  obtain ⟨rfl, rfl, hP, hKS⟩ := hv
  have hr := B.returns
  have hlocks := B.notSynchronized
  have hC : k_C Γ (k_A Γ s.heap.size) p l s m _ c cX4_digestWitnesses 8 wsX4_digestWitnesses RX4 := k_C.of ⟨B.exec, B.bytes, hml, findClass_of_methodNamed B.named, atoms_spec (ws := wsX4_digestWitnesses) B.pre⟩ hKS hl0
  have hw : k_St Γ (k_A Γ s.heap.size) s [] g s.heap [] := k_St.of hKS hP
  have hl := lv_entry ([.ref (k_ad Γ 0 (0)), .long (x1)] : List Value) (n := 8) (Nat.le_of_ble_eq_true rfl)
  rw [lg_entry_eq]
  generalize (lg_sl ([.ref (k_ad Γ 0 (0)), .long (x1)] : List Value) ++ List.replicate (8 - (lg_sl ([.ref (k_ad Γ 0 (0)), .long (x1)] : List Value)).length) Slot.unset).toArray = ls at hl ⊢
  have hl : lv_has ls 8 [(0, .ref (k_ad Γ 0 (0))), (1, .long (x1))] := hl
  change W p l e rm_X4_digestWitnesses _ _ _ _ _ _ _ _ _ _ _ _
  unfold f_X4_digestWitnesses at h
  refine lv_lload_n hC.x hC.b dX4_digestWitnesses_0 rfl (lv_at hl 1 rfl) ?_
  refine lv_lstore_n (lv' := [(3, .long (x1)), (0, .ref (k_ad Γ 0 (0))), (1, .long (x1))]) hC.x hC.b dX4_digestWitnesses_1 rfl hl (by decide) rfl (fun ls hl => ?_)
  refine lv_iconst (v := (0 : Int32)) hC.x hC.b dX4_digestWitnesses_2 (by decide) ?_
  refine lv_istore (lv' := [(5, .int ((0 : Int32))), (3, .long (x1)), (0, .ref (k_ad Γ 0 (0))), (1, .long (x1))]) hC.x hC.b dX4_digestWitnesses_3 hl (by decide) rfl (fun ls hl => ?_)
  obtain ⟨w5_3, w5_5, g5, hq, h⟩ := bd3_t h
  refine w_X4_digestWitnesses_5 hC ⟨by decide, by decide⟩  k_N _ _ _ _ _ _ hq _ _ _ hw (lv_sub hl [0, 1, 2, 3] rfl) (fun H locs ls hw hl => ?_)
  refine lv_lload_n hC.x hC.b dX4_digestWitnesses_98 rfl (lv_at hl 1 rfl) ?_
  obtain ⟨rfl, rfl⟩ := sm2 h
  exact x_lret hC hw hr hlocks (by decide) (by decide) dX4_digestWitnesses_99
abbrev rm_X4_digestUntyings : Room := { frames := 0, cells := 0, slots := 0, locals := 0 }
theorem in_X4_digestUntyings_X4 : ∀ w ∈ wsX40, w ∈ wsX4_digestUntyings := fun _ h => List.mem_cons_of_mem _ (List.mem_append_left _ (List.mem_append_right _ (h)))
theorem in_X4_digestUntyings_X2 : ∀ w ∈ wsX20, w ∈ wsX4_digestUntyings := fun _ h => List.mem_cons_of_mem _ (List.mem_append_right _ (h))
set_option maxRecDepth 20000 in
theorem lk_X4_digestUntyings_f36 : Cond.fieldLink RX4 36 "KnotArchive" "untyings" "LKnotArchive$Untyings;" ∈ wsX4_digestUntyings := by decide +kernel
set_option maxRecDepth 20000 in
theorem lk_X4_digestUntyings_k214 : Cond.constantLong RX4 214 (31) ∈ wsX4_digestUntyings := by decide +kernel
set_option maxRecDepth 100000 in
set_option maxHeartbeats 4000000 in
theorem w_X4_digestUntyings_20 {Γ : k_Pm} {A0 : Nat → Prop} {p : Program} {l : Launch} {e : Env} {s : State} {m : MethodId} {args : Array Value} {below : List Frame} {meth : Method} {c : Code} {cells slots : Nat} {Q : State → Prop} {tmp : va_W} {c5 : Int32} {c1 : Int64} (hC : k_C Γ A0 p l s m args c cX4_digestUntyings 7 wsX4_digestUntyings RX4) (hcs : cells ≤ rm_X4_digestUntyings.cells ∧ slots ≤ rm_X4_digestUntyings.slots) : ∀ (n : Nat) (v3 : Int64) (v6 : Int32) (g : Gt) (w3 : Int64) (w6 : Int32) (g2 : Gt), f_X4_digestUntyings_20 c5 c1 n v3 v6 g = some (w3, w6, g2) → ∀ (H : Heap) (locs : List Loc) (ls : Array Slot), k_St Γ A0 s tmp g H locs → lv_has ls 7 [(6, .int (v6)), (5, .int (c5)), (3, .long (v3)), (0, .ref (k_ad Γ 0 (0))), (1, .long (c1))] → (∀ (H1 : Heap) (locs1 : List Loc) (ls1 : Array Slot), k_St Γ A0 s tmp g2 H1 locs1 → lv_has ls1 7 [(6, .int (w6)), (5, .int (c5)), (3, .long (w3)), (0, .ref (k_ad Γ 0 (0))), (1, .long (c1))] → W p l e rm_X4_digestUntyings s m args below meth c H1 locs1 cells slots Q (F0 m 53 ls1 [])) → W p l e rm_X4_digestUntyings s m args below meth c H locs cells slots Q (F0 m 20 ls []) := by
  intro n
  induction n with
  | zero => intro v3 v6 g w3 w6 g2 h; rw [f_X4_digestUntyings_20] at h; cases h
  | succ n ih =>
    intro v3 v6 g w3 w6 g2 h H locs ls hw hl kk
    rw [f_X4_digestUntyings_20] at h
    refine lv_iload hC.x hC.b dX4_digestUntyings_20 (lv_at hl 0 rfl) ?_
    refine lv_iconst (v := (5 : Int32)) hC.x hC.b dX4_digestUntyings_22 (by decide) ?_
    refine lv_icmp_ge (tgt := 53) hC.x hC.b dX4_digestUntyings_23 (by decide) (fun hc => ?_) (fun hc => ?_)
    · have h := it_t h hc
      obtain ⟨rfl, rfl, rfl⟩ := sm3 h
      exact kk _ _ _ hw (lv_sub hl [0, 1, 2, 3, 4] rfl)
    · have h := it_f h hc
      refine lv_lload_n hC.x hC.b dX4_digestUntyings_26 rfl (lv_at hl 2 rfl) ?_
      refine lv_ldc2 (v := (31 : Int64)) hC.x hC.b hC.o (hC.t _ lk_X4_digestUntyings_k214) dX4_digestUntyings_27 ?_
      refine lv_lmul hC.x hC.b dX4_digestUntyings_30 ?_
      refine lv_aload_n hC.x hC.b dX4_digestUntyings_31 rfl (lv_at hl 3 rfl) ?_
      refine x_get hC hw (k := 4) (T := TX4) (by decide) (k_E0 _ _ _) in_X4_digestUntyings_X4 rfl (by decide) lk_X4_digestUntyings_f36 rfl rfl dX4_digestUntyings_32 ?_
      refine x_getN hC hw (k := 0) (T := TX2) (by decide) (k_E4 _ _ _) in_X4_digestUntyings_X2 rfl (by decide) nw_f_X4_162 rfl rfl dX4_digestUntyings_35 ?_
      refine lv_iload hC.x hC.b dX4_digestUntyings_38 (lv_at hl 1 rfl) ?_
      obtain ⟨hg1, h⟩ := gd_t h
      have hr1 := k_ci_lt (t := 19) (i := 0) rfl (by decide) hg1
      refine x_aald hC hw (t := 19) rfl (by decide) (by decide) hg1 dX4_digestUntyings_40 ?_
      refine lv_iload hC.x hC.b dX4_digestUntyings_41 (lv_at hl 0 rfl) ?_
      obtain ⟨hg2, h⟩ := gd_t h
      refine x_iald hC hw rfl hr1 hg2 dX4_digestUntyings_43 ?_
      refine lv_i2l hC.x hC.b dX4_digestUntyings_44 rfl ?_
      refine lv_ladd hC.x hC.b dX4_digestUntyings_45 ?_
      refine lv_lstore_n (lv' := [(3, .long ((v3 * (31 : Int64)) + ((g 24 c5.toNatClampNeg v6.toNatClampNeg).toInt64))), (6, .int (v6)), (5, .int (c5)), (0, .ref (k_ad Γ 0 (0))), (1, .long (c1))]) hC.x hC.b dX4_digestUntyings_46 rfl hl (by decide) rfl (fun ls hl => ?_)
      refine lv_iinc (v := v6 + (1 : Int32)) (lv' := [(6, .int (v6 + (1 : Int32))), (3, .long ((v3 * (31 : Int64)) + ((g 24 c5.toNatClampNeg v6.toNatClampNeg).toInt64))), (5, .int (c5)), (0, .ref (k_ad Γ 0 (0))), (1, .long (c1))]) hC.x hC.b dX4_digestUntyings_47 hl (k := 1) rfl rfl (by decide) rfl (fun ls hl => ?_)
      refine lv_goto (tgt := 20) hC.x hC.b dX4_digestUntyings_50 (by decide) ?_
      exact ih _ _ _ _ _ _ h _ _ _ hw (lv_sub hl [0, 2, 1, 3, 4] rfl) kk

set_option maxRecDepth 100000 in
set_option maxHeartbeats 4000000 in
theorem w_X4_digestUntyings_5 {Γ : k_Pm} {A0 : Nat → Prop} {p : Program} {l : Launch} {e : Env} {s : State} {m : MethodId} {args : Array Value} {below : List Frame} {meth : Method} {c : Code} {cells slots : Nat} {Q : State → Prop} {tmp : va_W} {c1 : Int64} (hC : k_C Γ A0 p l s m args c cX4_digestUntyings 7 wsX4_digestUntyings RX4) (hcs : cells ≤ rm_X4_digestUntyings.cells ∧ slots ≤ rm_X4_digestUntyings.slots) : ∀ (n : Nat) (v3 : Int64) (v5 : Int32) (g : Gt) (w3 : Int64) (w5 : Int32) (g2 : Gt), f_X4_digestUntyings_5 c1 n v3 v5 g = some (w3, w5, g2) → ∀ (H : Heap) (locs : List Loc) (ls : Array Slot), k_St Γ A0 s tmp g H locs → lv_has ls 7 [(5, .int (v5)), (3, .long (v3)), (0, .ref (k_ad Γ 0 (0))), (1, .long (c1))] → (∀ (H1 : Heap) (locs1 : List Loc) (ls1 : Array Slot), k_St Γ A0 s tmp g2 H1 locs1 → lv_has ls1 7 [(5, .int (w5)), (3, .long (w3)), (0, .ref (k_ad Γ 0 (0))), (1, .long (c1))] → W p l e rm_X4_digestUntyings s m args below meth c H1 locs1 cells slots Q (F0 m 59 ls1 [])) → W p l e rm_X4_digestUntyings s m args below meth c H locs cells slots Q (F0 m 5 ls []) := by
  intro n
  induction n with
  | zero => intro v3 v5 g w3 w5 g2 h; rw [f_X4_digestUntyings_5] at h; cases h
  | succ n ih =>
    intro v3 v5 g w3 w5 g2 h H locs ls hw hl kk
    rw [f_X4_digestUntyings_5] at h
    refine lv_iload hC.x hC.b dX4_digestUntyings_5 (lv_at hl 0 rfl) ?_
    refine lv_aload_n hC.x hC.b dX4_digestUntyings_7 rfl (lv_at hl 2 rfl) ?_
    refine x_get hC hw (k := 4) (T := TX4) (by decide) (k_E0 _ _ _) in_X4_digestUntyings_X4 rfl (by decide) lk_X4_digestUntyings_f36 rfl rfl dX4_digestUntyings_8 ?_
    refine x_getN hC hw (k := 1) (T := TX2) (by decide) (k_E4 _ _ _) in_X4_digestUntyings_X2 rfl (by decide) nw_f_X4_99 rfl rfl dX4_digestUntyings_11 ?_
    refine lv_icmp_ge (tgt := 59) hC.x hC.b dX4_digestUntyings_14 (by decide) (fun hc => ?_) (fun hc => ?_)
    · have h := it_t h hc
      obtain ⟨rfl, rfl, rfl⟩ := sm3 h
      exact kk _ _ _ hw (lv_sub hl [0, 1, 2, 3] rfl)
    · have h := it_f h hc
      refine lv_iconst (v := (0 : Int32)) hC.x hC.b dX4_digestUntyings_17 (by decide) ?_
      refine lv_istore (lv' := [(6, .int ((0 : Int32))), (5, .int (v5)), (3, .long (v3)), (0, .ref (k_ad Γ 0 (0))), (1, .long (c1))]) hC.x hC.b dX4_digestUntyings_18 hl (by decide) rfl (fun ls hl => ?_)
      obtain ⟨w20_3, w20_6, g20, hq, h⟩ := bd3_t h
      refine w_X4_digestUntyings_20 hC hcs  k_N _ _ _ _ _ _ hq _ _ _ hw (lv_sub hl [0, 1, 2, 3, 4] rfl) (fun H locs ls hw hl => ?_)
      refine lv_iinc (v := v5 + (1 : Int32)) (lv' := [(5, .int (v5 + (1 : Int32))), (6, .int (w20_6)), (3, .long (w20_3)), (0, .ref (k_ad Γ 0 (0))), (1, .long (c1))]) hC.x hC.b dX4_digestUntyings_53 hl (k := 1) rfl rfl (by decide) rfl (fun ls hl => ?_)
      refine lv_goto (tgt := 5) hC.x hC.b dX4_digestUntyings_56 (by decide) ?_
      exact ih _ _ _ _ _ _ h _ _ _ hw (lv_sub hl [0, 2, 3, 4] rfl) kk

set_option maxRecDepth 100000 in
set_option maxHeartbeats 4000000 in
theorem c_X4_digestUntyings {Γ : k_Pm} {l : Launch} (hl0 : l.stackTraces = false) {x1 : Int64}  {g : Gt} {r : Int64} {g2 : Gt} (h : f_X4_digestUntyings x1 g = some (r, g2)) : k_CL Γ l yX4_digestUntyings wsX4_digestUntyings rm_X4_digestUntyings [.ref (k_ad Γ 0 (0)), .long (x1)] g r g2 := by
  intro sz
  refine Met.ofW (cc := cX4_digestUntyings) (maxL := 7) (ret := (some .long)) (by decide) rfl ?_
  intro p e s m args below meth c s₁ B hml hv
  obtain ⟨rfl, rfl, hP, hKS⟩ := hv
  have hr := B.returns
  have hlocks := B.notSynchronized
  have hC : k_C Γ (k_A Γ s.heap.size) p l s m _ c cX4_digestUntyings 7 wsX4_digestUntyings RX4 := k_C.of ⟨B.exec, B.bytes, hml, findClass_of_methodNamed B.named, atoms_spec (ws := wsX4_digestUntyings) B.pre⟩ hKS hl0
  have hw : k_St Γ (k_A Γ s.heap.size) s [] g s.heap [] := k_St.of hKS hP
  have hl := lv_entry ([.ref (k_ad Γ 0 (0)), .long (x1)] : List Value) (n := 7) (Nat.le_of_ble_eq_true rfl)
  rw [lg_entry_eq]
  generalize (lg_sl ([.ref (k_ad Γ 0 (0)), .long (x1)] : List Value) ++ List.replicate (7 - (lg_sl ([.ref (k_ad Γ 0 (0)), .long (x1)] : List Value)).length) Slot.unset).toArray = ls at hl ⊢
  have hl : lv_has ls 7 [(0, .ref (k_ad Γ 0 (0))), (1, .long (x1))] := hl
  change W p l e rm_X4_digestUntyings _ _ _ _ _ _ _ _ _ _ _ _
  unfold f_X4_digestUntyings at h
  refine lv_lload_n hC.x hC.b dX4_digestUntyings_0 rfl (lv_at hl 1 rfl) ?_
  refine lv_lstore_n (lv' := [(3, .long (x1)), (0, .ref (k_ad Γ 0 (0))), (1, .long (x1))]) hC.x hC.b dX4_digestUntyings_1 rfl hl (by decide) rfl (fun ls hl => ?_)
  refine lv_iconst (v := (0 : Int32)) hC.x hC.b dX4_digestUntyings_2 (by decide) ?_
  refine lv_istore (lv' := [(5, .int ((0 : Int32))), (3, .long (x1)), (0, .ref (k_ad Γ 0 (0))), (1, .long (x1))]) hC.x hC.b dX4_digestUntyings_3 hl (by decide) rfl (fun ls hl => ?_)
  obtain ⟨w5_3, w5_5, g5, hq, h⟩ := bd3_t h
  refine w_X4_digestUntyings_5 hC ⟨by decide, by decide⟩  k_N _ _ _ _ _ _ hq _ _ _ hw (lv_sub hl [0, 1, 2, 3] rfl) (fun H locs ls hw hl => ?_)
  refine lv_lload_n hC.x hC.b dX4_digestUntyings_59 rfl (lv_at hl 1 rfl) ?_
  obtain ⟨rfl, rfl⟩ := sm2 h
  exact x_lret hC hw hr hlocks (by decide) (by decide) dX4_digestUntyings_60
abbrev rm_X4_digest : Room := { frames := 4, cells := 0, slots := 0, locals := 92 }
theorem in_X4_digest_X4 : ∀ w ∈ wsX40, w ∈ wsX4_digest := fun _ h => List.mem_cons_of_mem _ (List.mem_append_left _ (List.mem_append_left _ (List.mem_append_left _ (List.mem_append_left _ (List.mem_append_right _ (h))))))
set_option maxRecDepth 20000 in
theorem lk_X4_digest_f10 : Cond.fieldLink RX4 10 "KnotArchive" "cords" "LKnotArchive$Cords;" ∈ wsX4_digest := by decide +kernel
set_option maxRecDepth 20000 in
theorem lk_X4_digest_f19 : Cond.fieldLink RX4 19 "KnotArchive" "nowKnots" "LKnotArchive$Knots;" ∈ wsX4_digest := by decide +kernel
set_option maxRecDepth 20000 in
theorem lk_X4_digest_iX0 : Cond.initialized RX0 ∈ wsX4_digest := by decide +kernel
set_option maxRecDepth 20000 in
theorem lk_X4_digest_nX0_tell : Cond.instanceMethod yX0_tell ∈ wsX4_digest := by decide +kernel
set_option maxRecDepth 20000 in
theorem lk_X4_digest_zX0_tell : Cond.selects RX0 yX0_tell yX0_tell ∈ wsX4_digest := by decide +kernel
set_option maxRecDepth 20000 in
theorem lk_X4_digest_k212 : Cond.constantLong RX4 212 (797) ∈ wsX4_digest := by decide +kernel
set_option maxRecDepth 20000 in
theorem lk_X4_digest_k214 : Cond.constantLong RX4 214 (31) ∈ wsX4_digest := by decide +kernel
set_option maxRecDepth 100000 in
set_option maxHeartbeats 4000000 in
theorem w_X4_digest_17 {Γ : k_Pm} {A0 : Nat → Prop} {p : Program} {l : Launch} {e : Env} {s : State} {m : MethodId} {args : Array Value} {below : List Frame} {meth : Method} {c : Code} {cells slots : Nat} {Q : State → Prop} {tmp : va_W} (hC : k_C Γ A0 p l s m args c cX4_digest 4 wsX4_digest RX4) (hcs : cells ≤ rm_X4_digest.cells ∧ slots ≤ rm_X4_digest.slots) : ∀ (n : Nat) (v1 : Int64) (v3 : Int32) (g : Gt) (w1 : Int64) (w3 : Int32) (g2 : Gt), f_X4_digest_17 n v1 v3 g = some (w1, w3, g2) → ∀ (H : Heap) (locs : List Loc) (ls : Array Slot), k_St Γ A0 s tmp g H locs → lv_has ls 4 [(3, .int (v3)), (1, .long (v1)), (0, .ref (k_ad Γ 0 (0)))] → (∀ (H1 : Heap) (locs1 : List Loc) (ls1 : Array Slot), k_St Γ A0 s tmp g2 H1 locs1 → lv_has ls1 4 [(3, .int (w3)), (1, .long (w1)), (0, .ref (k_ad Γ 0 (0)))] → W p l e rm_X4_digest s m args below meth c H1 locs1 cells slots Q (F0 m 42 ls1 [])) → W p l e rm_X4_digest s m args below meth c H locs cells slots Q (F0 m 17 ls []) := by
  intro n
  induction n with
  | zero => intro v1 v3 g w1 w3 g2 h; rw [f_X4_digest_17] at h; cases h
  | succ n ih =>
    intro v1 v3 g w1 w3 g2 h H locs ls hw hl kk
    rw [f_X4_digest_17] at h
    refine lv_iload_n hC.x hC.b dX4_digest_17 rfl (lv_at hl 0 rfl) ?_
    refine lv_bipush (v := (8 : Int32)) hC.x hC.b dX4_digest_18 (by decide) ?_
    refine lv_icmp_ge (tgt := 42) hC.x hC.b dX4_digest_20 (by decide) (fun hc => ?_) (fun hc => ?_)
    · have h := it_t h hc
      obtain ⟨rfl, rfl, rfl⟩ := sm3 h
      exact kk _ _ _ hw (lv_sub hl [0, 1, 2] rfl)
    · have h := it_f h hc
      refine lv_lload_n hC.x hC.b dX4_digest_23 rfl (lv_at hl 1 rfl) ?_
      refine lv_ldc2 (v := (31 : Int64)) hC.x hC.b hC.o (hC.t _ lk_X4_digest_k214) dX4_digest_24 ?_
      refine lv_lmul hC.x hC.b dX4_digest_27 ?_
      refine lv_aload_n hC.x hC.b dX4_digest_28 rfl (lv_at hl 2 rfl) ?_
      refine lv_iload_n hC.x hC.b dX4_digest_29 rfl (lv_at hl 0 rfl) ?_
      obtain ⟨r30, g30, hq, h⟩ := bd2_t h
      refine x_goi hC hw (x_runV hC hw (c_X4_total (Γ := Γ) (l := l) hC.2.2.2.2 hq) (cwV 1 hC.t gX4_digest_X4_total rfl rfl rfl (by decide +kernel) ⟨Nat.le_of_ble_eq_true rfl, Nat.le_of_ble_eq_true rfl⟩) (As := [.int (v3)]) (by decide) (k_E0 _ _ _) rfl rfl rfl hl.1 (Nat.le_of_ble_eq_true rfl) dX4_digest_30 hcs) (fun H locs hw => ?_)
      refine lv_i2l hC.x hC.b dX4_digest_33 rfl ?_
      refine lv_ladd hC.x hC.b dX4_digest_34 ?_
      refine lv_lstore_n (lv' := [(1, .long ((v1 * (31 : Int64)) + r30.toInt64)), (3, .int (v3)), (0, .ref (k_ad Γ 0 (0)))]) hC.x hC.b dX4_digest_35 rfl hl (by decide) rfl (fun ls hl => ?_)
      refine lv_iinc (v := v3 + (1 : Int32)) (lv' := [(3, .int (v3 + (1 : Int32))), (1, .long ((v1 * (31 : Int64)) + r30.toInt64)), (0, .ref (k_ad Γ 0 (0)))]) hC.x hC.b dX4_digest_36 hl (k := 1) rfl rfl (by decide) rfl (fun ls hl => ?_)
      refine lv_goto (tgt := 17) hC.x hC.b dX4_digest_39 (by decide) ?_
      exact ih _ _ _ _ _ _ h _ _ _ hw (lv_sub hl [0, 1, 2] rfl) kk

set_option maxRecDepth 100000 in
set_option maxHeartbeats 4000000 in
theorem c_X4_digest {Γ : k_Pm} {l : Launch} (hl0 : l.stackTraces = false)   {g : Gt} {r : Int64} {g2 : Gt} (h : f_X4_digest  g = some (r, g2)) : k_CL Γ l yX4_digest wsX4_digest rm_X4_digest [.ref (k_ad Γ 0 (0))] g r g2 := by
  intro sz
  refine Met.ofW (cc := cX4_digest) (maxL := 4) (ret := (some .long)) (by decide) rfl ?_
  intro p e s m args below meth c s₁ B hml hv
  obtain ⟨rfl, rfl, hP, hKS⟩ := hv
  have hr := B.returns
  have hlocks := B.notSynchronized
  have hC : k_C Γ (k_A Γ s.heap.size) p l s m _ c cX4_digest 4 wsX4_digest RX4 := k_C.of ⟨B.exec, B.bytes, hml, findClass_of_methodNamed B.named, atoms_spec (ws := wsX4_digest) B.pre⟩ hKS hl0
  have hw : k_St Γ (k_A Γ s.heap.size) s [] g s.heap [] := k_St.of hKS hP
  have hl := lv_entry ([.ref (k_ad Γ 0 (0))] : List Value) (n := 4) (Nat.le_of_ble_eq_true rfl)
  rw [lg_entry_eq]
  generalize (lg_sl ([.ref (k_ad Γ 0 (0))] : List Value) ++ List.replicate (4 - (lg_sl ([.ref (k_ad Γ 0 (0))] : List Value)).length) Slot.unset).toArray = ls at hl ⊢
  have hl : lv_has ls 4 [(0, .ref (k_ad Γ 0 (0)))] := hl
  change W p l e rm_X4_digest _ _ _ _ _ _ _ _ _ _ _ _
  unfold f_X4_digest at h
  refine lv_aload_n hC.x hC.b dX4_digest_0 rfl (lv_at hl 0 rfl) ?_
  refine x_get hC hw (k := 0) (T := TX4) (by decide) (k_E0 _ _ _) in_X4_digest_X4 rfl (by decide) lk_X4_digest_f10 rfl rfl dX4_digest_1 ?_
  refine lv_aload_n hC.x hC.b dX4_digest_4 rfl (lv_at hl 0 rfl) ?_
  refine x_get hC hw (k := 1) (T := TX4) (by decide) (k_E0 _ _ _) in_X4_digest_X4 rfl (by decide) lk_X4_digest_f19 rfl rfl dX4_digest_5 ?_
  obtain ⟨g8, hq, h⟩ := bd1_t h
  refine x_gov hC hw (x_runN hC hw (c_X0_tell (Γ := Γ) (l := l) hC.2.2.2.2 (by decide) hq) ⟨va_cnB 1 hC.t gX4_digest_X0_tell_n115 rfl rfl rfl (hC.w nw_m_X4_115) (hC.t _ lk_X4_digest_iX0) (by decide +kernel) ⟨Nat.le_of_ble_eq_true rfl, Nat.le_of_ble_eq_true rfl⟩, hC.t _ lk_X4_digest_nX0_tell, hC.t _ lk_X4_digest_zX0_tell⟩ (As := [.ref (k_ad Γ 2 (0))]) (by decide) (k_E1 _ _ _) rfl rfl rfl hl.1 (Nat.le_of_ble_eq_true rfl) dX4_digest_8 ⟨by decide, by decide⟩) (fun H locs hw => ?_)
  refine lv_ldc2 (v := (797 : Int64)) hC.x hC.b hC.o (hC.t _ lk_X4_digest_k212) dX4_digest_11 ?_
  refine lv_lstore_n (lv' := [(1, .long ((797 : Int64))), (0, .ref (k_ad Γ 0 (0)))]) hC.x hC.b dX4_digest_14 rfl hl (by decide) rfl (fun ls hl => ?_)
  refine lv_iconst (v := (0 : Int32)) hC.x hC.b dX4_digest_15 (by decide) ?_
  refine lv_istore_n (lv' := [(3, .int ((0 : Int32))), (1, .long ((797 : Int64))), (0, .ref (k_ad Γ 0 (0)))]) hC.x hC.b dX4_digest_16 rfl hl (by decide) rfl (fun ls hl => ?_)
  obtain ⟨w17_1, w17_3, g17, hq, h⟩ := bd3_t h
  refine w_X4_digest_17 hC ⟨by decide, by decide⟩  k_N _ _ _ _ _ _ hq _ _ _ hw (lv_sub hl [0, 1, 2] rfl) (fun H locs ls hw hl => ?_)
  refine lv_aload_n hC.x hC.b dX4_digest_42 rfl (lv_at hl 2 rfl) ?_
  refine lv_lload_n hC.x hC.b dX4_digest_43 rfl (lv_at hl 1 rfl) ?_
  obtain ⟨r44, g44, hq, h⟩ := bd2_t h
  refine x_gol hC hw (x_runV hC hw (c_X4_digestCords (Γ := Γ) (l := l) hC.2.2.2.2 hq) (cwV 1 hC.t gX4_digest_X4_digestCords rfl rfl rfl (by decide +kernel) ⟨Nat.le_of_ble_eq_true rfl, Nat.le_of_ble_eq_true rfl⟩) (As := [.long (w17_1)]) (by decide) (k_E0 _ _ _) rfl rfl rfl hl.1 (Nat.le_of_ble_eq_true rfl) dX4_digest_44 ⟨by decide, by decide⟩) (fun H locs hw => ?_)
  refine lv_lstore_n (lv' := [(1, .long (r44)), (3, .int (w17_3)), (0, .ref (k_ad Γ 0 (0)))]) hC.x hC.b dX4_digest_47 rfl hl (by decide) rfl (fun ls hl => ?_)
  refine lv_aload_n hC.x hC.b dX4_digest_48 rfl (lv_at hl 2 rfl) ?_
  refine lv_lload_n hC.x hC.b dX4_digest_49 rfl (lv_at hl 0 rfl) ?_
  obtain ⟨r50, g50, hq, h⟩ := bd2_t h
  refine x_gol hC hw (x_runV hC hw (c_X4_digestWitnesses (Γ := Γ) (l := l) hC.2.2.2.2 hq) (cwV 1 hC.t gX4_digest_X4_digestWitnesses rfl rfl rfl (by decide +kernel) ⟨Nat.le_of_ble_eq_true rfl, Nat.le_of_ble_eq_true rfl⟩) (As := [.long (r44)]) (by decide) (k_E0 _ _ _) rfl rfl rfl hl.1 (Nat.le_of_ble_eq_true rfl) dX4_digest_50 ⟨by decide, by decide⟩) (fun H locs hw => ?_)
  refine lv_lstore_n (lv' := [(1, .long (r50)), (3, .int (w17_3)), (0, .ref (k_ad Γ 0 (0)))]) hC.x hC.b dX4_digest_53 rfl hl (by decide) rfl (fun ls hl => ?_)
  refine lv_aload_n hC.x hC.b dX4_digest_54 rfl (lv_at hl 2 rfl) ?_
  refine lv_lload_n hC.x hC.b dX4_digest_55 rfl (lv_at hl 0 rfl) ?_
  obtain ⟨r56, g56, hq, h⟩ := bd2_t h
  refine x_gol hC hw (x_runV hC hw (c_X4_digestUntyings (Γ := Γ) (l := l) hC.2.2.2.2 hq) (cwV 1 hC.t gX4_digest_X4_digestUntyings rfl rfl rfl (by decide +kernel) ⟨Nat.le_of_ble_eq_true rfl, Nat.le_of_ble_eq_true rfl⟩) (As := [.long (r50)]) (by decide) (k_E0 _ _ _) rfl rfl rfl hl.1 (Nat.le_of_ble_eq_true rfl) dX4_digest_56 ⟨by decide, by decide⟩) (fun H locs hw => ?_)
  obtain ⟨rfl, rfl⟩ := sm2 h
  exact x_lret hC hw hr hlocks (by decide) (by decide) dX4_digest_59
