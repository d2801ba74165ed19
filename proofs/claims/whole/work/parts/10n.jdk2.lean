/-! Integer.stringSize -/
def j_dc (v : Nat) : Nat := if v < 10 then 1 else if v < 100 then 2 else if v < 1000 then 3 else 4
theorem c_J6_stringSize {D : va_G} {cB : ClassId} {b0 : Nat} {l : Launch} {v : Nat} {ws : va_W} (hv : v < 10000) : j_MI D cB b0 l yJ6_stringSize_0f7a4 wsJ6_stringSize_0f7a4 (rm_j 1 22) [.int (nI v)] ws (nI (j_dc v)) ws := by
  intro sz
  refine Met.ofW (cc := cJ6_stringSize_0f7a4) (maxL := 4) (ret := some .int) (by decide) rfl ?_
  intro p e s m args below meth c s₁ B hml hv9
  obtain ⟨rfl, rfl, hP, hK, hD⟩ := hv9
  have hr := B.returns
  have hlocks := B.notSynchronized
  obtain ⟨hC, hS⟩ := j_start hK hP hD (⟨B.exec, B.bytes, hml, findClass_of_methodNamed B.named, atoms_spec (ws := wsJ6_stringSize_0f7a4) B.pre⟩ : CallFix p m c cJ6_stringSize_0f7a4 4 s _ wsJ6_stringSize_0f7a4 RJ6)
  have hl := lv_entry ([.int (nI v)] : List Value) (n := 4) (Nat.le_of_ble_eq_true rfl)
  rw [lg_entry_eq]
  generalize (lg_sl ([.int (nI v)] : List Value) ++ List.replicate (4 - (lg_sl ([.int (nI v)] : List Value)).length) Slot.unset).toArray = ls at hl ⊢
  have hl : lv_has ls 4 [(0, .int (nI v))] := hl
  change W p l e (rm_j 1 22) _ _ _ _ _ _ _ _ _ _ _ _
  refine lv_iconst (v := (1 : Int32)) hC.x hC.b dJ6_stringSize_0f7a4_0 (by decide) ?_
  refine lv_istore_n (lv' := [(1, .int 1), (0, .int (nI v))]) hC.x hC.b dJ6_stringSize_0f7a4_1 rfl hl (by decide) rfl (fun ls hl => ?_)
  refine lv_iload_n hC.x hC.b dJ6_stringSize_0f7a4_2 rfl (lv_at hl 1 rfl) ?_
  refine lv_if_lt (tgt := 11) hC.x hC.b dJ6_stringSize_0f7a4_3 (by decide) (fun h => absurd h (nI_pos (by omega))) (fun _ => ?_)
  refine lv_iconst (v := (0 : Int32)) hC.x hC.b dJ6_stringSize_0f7a4_6 (by decide) ?_
  refine lv_istore_n (lv' := [(1, .int 0), (0, .int (nI v))]) hC.x hC.b dJ6_stringSize_0f7a4_7 rfl hl (by decide) rfl (fun ls hl => ?_)
  refine lv_iload_n hC.x hC.b dJ6_stringSize_0f7a4_8 rfl (lv_at hl 1 rfl) ?_
  refine lv_ineg hC.x hC.b dJ6_stringSize_0f7a4_9 ?_
  refine lv_istore_n (lv' := [(0, .int (-nI v)), (1, .int 0)]) hC.x hC.b dJ6_stringSize_0f7a4_10 rfl hl (by decide) rfl (fun ls hl => ?_)
  refine lv_bipush (v := -nI 10) hC.x hC.b dJ6_stringSize_0f7a4_11 (by decide) ?_
  refine lv_istore_n (lv' := [(2, .int (-nI 10)), (0, .int (-nI v)), (1, .int 0)]) hC.x hC.b dJ6_stringSize_0f7a4_13 rfl hl (by decide) rfl (fun ls hl => ?_)
  refine lv_iconst (v := nI 1) hC.x hC.b dJ6_stringSize_0f7a4_14 (by decide) ?_
  refine lv_istore_n (lv' := [(3, .int (nI 1)), (2, .int (-nI 10)), (0, .int (-nI v)), (1, .int 0)]) hC.x hC.b dJ6_stringSize_0f7a4_15 rfl hl (by decide) rfl (fun ls hl => ?_)
  refine lv_iload_n hC.x hC.b dJ6_stringSize_0f7a4_16 rfl (lv_at hl 0 rfl) ?_
  refine lv_bipush (v := (10 : Int32)) hC.x hC.b dJ6_stringSize_0f7a4_17 (by decide) ?_
  refine lv_icmp_ge (tgt := 42) hC.x hC.b dJ6_stringSize_0f7a4_19 (by decide) (fun h => absurd h (by decide)) (fun _ => ?_)
  refine lv_iload_n hC.x hC.b dJ6_stringSize_0f7a4_22 rfl (lv_at hl 2 rfl) ?_
  refine lv_iload_n hC.x hC.b dJ6_stringSize_0f7a4_23 rfl (lv_at hl 1 rfl) ?_
  refine lv_icmp_le (tgt := 31) hC.x hC.b dJ6_stringSize_0f7a4_24 (by decide) (fun h1 => ?_) (fun h1 => ?_)
  rotate_left
  · have h1' : v < 10 := by
      rw [sb_nle (by omega) (by omega)] at h1
      omega
    refine lv_iload_n hC.x hC.b dJ6_stringSize_0f7a4_27 rfl (lv_at hl 0 rfl) ?_
    refine lv_iload_n hC.x hC.b dJ6_stringSize_0f7a4_28 rfl (lv_at hl 3 rfl) ?_
    refine lv_iadd hC.x hC.b dJ6_stringSize_0f7a4_29 ?_
    have he : nI 1 + (0 : Int32) = nI (j_dc v) := by
      have : j_dc v = 1 := by unfold j_dc;  rw [if_pos (by omega)]
      rw [this]
      decide
    rw [he]
    exact j_iret hC hS hr hlocks (by decide) (by decide) dJ6_stringSize_0f7a4_30
  have h1' : 10 ≤ v := (sb_nle (by omega) (by omega)).mp h1
  refine lv_bipush (v := (10 : Int32)) hC.x hC.b dJ6_stringSize_0f7a4_31 (by decide) ?_
  refine lv_iload_n hC.x hC.b dJ6_stringSize_0f7a4_33 rfl (lv_at hl 1 rfl) ?_
  refine lv_imul hC.x hC.b dJ6_stringSize_0f7a4_34 ?_
  rw [show (10 : Int32) * -nI 10 = -nI 100 from by decide]
  refine lv_istore_n (lv' := [(2, .int (-nI 100)), (3, .int (nI 1)), (0, .int (-nI v)), (1, .int (0))]) hC.x hC.b dJ6_stringSize_0f7a4_35 rfl hl (by decide) rfl (fun ls hl => ?_)
  refine lv_iinc (k := 1) (v := nI 2) hC.x hC.b dJ6_stringSize_0f7a4_36 hl rfl (by decide) (by decide) rfl (fun ls hl => ?_)
  refine lv_goto (tgt := 16) hC.x hC.b dJ6_stringSize_0f7a4_39 (by decide) ?_
  refine lv_iload_n hC.x hC.b dJ6_stringSize_0f7a4_16 rfl (lv_at hl 0 rfl) ?_
  refine lv_bipush (v := (10 : Int32)) hC.x hC.b dJ6_stringSize_0f7a4_17 (by decide) ?_
  refine lv_icmp_ge (tgt := 42) hC.x hC.b dJ6_stringSize_0f7a4_19 (by decide) (fun h => absurd h (by decide)) (fun _ => ?_)
  refine lv_iload_n hC.x hC.b dJ6_stringSize_0f7a4_22 rfl (lv_at hl 2 rfl) ?_
  refine lv_iload_n hC.x hC.b dJ6_stringSize_0f7a4_23 rfl (lv_at hl 1 rfl) ?_
  refine lv_icmp_le (tgt := 31) hC.x hC.b dJ6_stringSize_0f7a4_24 (by decide) (fun h2 => ?_) (fun h2 => ?_)
  rotate_left
  · have h2' : v < 100 := by
      rw [sb_nle (by omega) (by omega)] at h2
      omega
    refine lv_iload_n hC.x hC.b dJ6_stringSize_0f7a4_27 rfl (lv_at hl 0 rfl) ?_
    refine lv_iload_n hC.x hC.b dJ6_stringSize_0f7a4_28 rfl (lv_at hl 3 rfl) ?_
    refine lv_iadd hC.x hC.b dJ6_stringSize_0f7a4_29 ?_
    have he : nI 2 + (0 : Int32) = nI (j_dc v) := by
      have : j_dc v = 2 := by unfold j_dc; rw [if_neg (by omega)]; rw [if_pos (by omega)]
      rw [this]
      decide
    rw [he]
    exact j_iret hC hS hr hlocks (by decide) (by decide) dJ6_stringSize_0f7a4_30
  have h2' : 100 ≤ v := (sb_nle (by omega) (by omega)).mp h2
  refine lv_bipush (v := (10 : Int32)) hC.x hC.b dJ6_stringSize_0f7a4_31 (by decide) ?_
  refine lv_iload_n hC.x hC.b dJ6_stringSize_0f7a4_33 rfl (lv_at hl 1 rfl) ?_
  refine lv_imul hC.x hC.b dJ6_stringSize_0f7a4_34 ?_
  rw [show (10 : Int32) * -nI 100 = -nI 1000 from by decide]
  refine lv_istore_n (lv' := [(2, .int (-nI 1000)), (3, .int (nI 2)), (0, .int (-nI v)), (1, .int (0))]) hC.x hC.b dJ6_stringSize_0f7a4_35 rfl hl (by decide) rfl (fun ls hl => ?_)
  refine lv_iinc (k := 1) (v := nI 3) hC.x hC.b dJ6_stringSize_0f7a4_36 hl rfl (by decide) (by decide) rfl (fun ls hl => ?_)
  refine lv_goto (tgt := 16) hC.x hC.b dJ6_stringSize_0f7a4_39 (by decide) ?_
  refine lv_iload_n hC.x hC.b dJ6_stringSize_0f7a4_16 rfl (lv_at hl 0 rfl) ?_
  refine lv_bipush (v := (10 : Int32)) hC.x hC.b dJ6_stringSize_0f7a4_17 (by decide) ?_
  refine lv_icmp_ge (tgt := 42) hC.x hC.b dJ6_stringSize_0f7a4_19 (by decide) (fun h => absurd h (by decide)) (fun _ => ?_)
  refine lv_iload_n hC.x hC.b dJ6_stringSize_0f7a4_22 rfl (lv_at hl 2 rfl) ?_
  refine lv_iload_n hC.x hC.b dJ6_stringSize_0f7a4_23 rfl (lv_at hl 1 rfl) ?_
  refine lv_icmp_le (tgt := 31) hC.x hC.b dJ6_stringSize_0f7a4_24 (by decide) (fun h3 => ?_) (fun h3 => ?_)
  rotate_left
  · have h3' : v < 1000 := by
      rw [sb_nle (by omega) (by omega)] at h3
      omega
    refine lv_iload_n hC.x hC.b dJ6_stringSize_0f7a4_27 rfl (lv_at hl 0 rfl) ?_
    refine lv_iload_n hC.x hC.b dJ6_stringSize_0f7a4_28 rfl (lv_at hl 3 rfl) ?_
    refine lv_iadd hC.x hC.b dJ6_stringSize_0f7a4_29 ?_
    have he : nI 3 + (0 : Int32) = nI (j_dc v) := by
      have : j_dc v = 3 := by unfold j_dc; rw [if_neg (by omega)]; rw [if_neg (by omega)]; rw [if_pos (by omega)]
      rw [this]
      decide
    rw [he]
    exact j_iret hC hS hr hlocks (by decide) (by decide) dJ6_stringSize_0f7a4_30
  have h3' : 1000 ≤ v := (sb_nle (by omega) (by omega)).mp h3
  refine lv_bipush (v := (10 : Int32)) hC.x hC.b dJ6_stringSize_0f7a4_31 (by decide) ?_
  refine lv_iload_n hC.x hC.b dJ6_stringSize_0f7a4_33 rfl (lv_at hl 1 rfl) ?_
  refine lv_imul hC.x hC.b dJ6_stringSize_0f7a4_34 ?_
  rw [show (10 : Int32) * -nI 1000 = -nI 10000 from by decide]
  refine lv_istore_n (lv' := [(2, .int (-nI 10000)), (3, .int (nI 3)), (0, .int (-nI v)), (1, .int (0))]) hC.x hC.b dJ6_stringSize_0f7a4_35 rfl hl (by decide) rfl (fun ls hl => ?_)
  refine lv_iinc (k := 1) (v := nI 4) hC.x hC.b dJ6_stringSize_0f7a4_36 hl rfl (by decide) (by decide) rfl (fun ls hl => ?_)
  refine lv_goto (tgt := 16) hC.x hC.b dJ6_stringSize_0f7a4_39 (by decide) ?_
  refine lv_iload_n hC.x hC.b dJ6_stringSize_0f7a4_16 rfl (lv_at hl 0 rfl) ?_
  refine lv_bipush (v := (10 : Int32)) hC.x hC.b dJ6_stringSize_0f7a4_17 (by decide) ?_
  refine lv_icmp_ge (tgt := 42) hC.x hC.b dJ6_stringSize_0f7a4_19 (by decide) (fun h => absurd h (by decide)) (fun _ => ?_)
  refine lv_iload_n hC.x hC.b dJ6_stringSize_0f7a4_22 rfl (lv_at hl 2 rfl) ?_
  refine lv_iload_n hC.x hC.b dJ6_stringSize_0f7a4_23 rfl (lv_at hl 1 rfl) ?_
  refine lv_icmp_le (tgt := 31) hC.x hC.b dJ6_stringSize_0f7a4_24 (by decide) (fun h4 => ?_) (fun h4 => ?_)
  rotate_left
  · have h4' : v < 10000 := by
      rw [sb_nle (by omega) (by omega)] at h4
      omega
    refine lv_iload_n hC.x hC.b dJ6_stringSize_0f7a4_27 rfl (lv_at hl 0 rfl) ?_
    refine lv_iload_n hC.x hC.b dJ6_stringSize_0f7a4_28 rfl (lv_at hl 3 rfl) ?_
    refine lv_iadd hC.x hC.b dJ6_stringSize_0f7a4_29 ?_
    have he : nI 4 + (0 : Int32) = nI (j_dc v) := by
      have : j_dc v = 4 := by unfold j_dc; rw [if_neg (by omega)]; rw [if_neg (by omega)]; rw [if_neg (by omega)]; skip
      rw [this]
      decide
    rw [he]
    exact j_iret hC hS hr hlocks (by decide) (by decide) dJ6_stringSize_0f7a4_30
  have h4' : 10000 ≤ v := (sb_nle (by omega) (by omega)).mp h4
  exact absurd hv (by omega)
