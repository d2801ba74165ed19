theorem j_dc_le {v : Nat} (hv : v < 10000) : j_dc v = if v < 100 then (if v < 10 then 1 else 2) else 2 + (if v / 100 < 10 then 1 else 2) := by
  unfold j_dc
  by_cases h1 : v < 10
  · rw [if_pos h1, if_pos (by omega), if_pos h1]
  · rw [if_neg h1]
    by_cases h2 : v < 100
    · rw [if_pos h2, if_pos h2, if_neg h1]
    · rw [if_neg h2, if_neg h2]
      by_cases h3 : v < 1000
      · rw [if_pos h3, if_pos (by omega)]
      · rw [if_neg h3, if_neg (by omega)]
theorem j_ndiv {v : Nat} (hv : v < 10000) : -nI v / (100 : Int32) = -nI (v / 100) := by
  refine Int32.toInt_inj.mp ?_
  rw [Int32.toInt_div, sb_negT (by omega), sb_negT (by omega), show (100 : Int32).toInt = 100 from by decide]
  rw [Int.neg_tdiv, Int.bmod_def]
  have h : (Int.tdiv (v : Int) 100) = ((v / 100 : Nat) : Int) := by
    rw [Int.tdiv_eq_ediv_of_nonneg (by omega)]
    rfl
  rw [h]
  split <;> omega
theorem j_nrem {v : Nat} (hv : v < 10000) : -nI (v / 100) * (100 : Int32) - -nI v = nI (v % 100) := by
  have h : v = v % 100 + v / 100 * 100 := by omega
  have e : nI v = nI (v % 100) + nI (v / 100) * nI 100 := by
    rw [pk_mul, nI_add, ← h]
  rw [e, show (100 : Int32) = nI 100 from rfl]
  grind
theorem c_J6_getChars {D : va_G} {cB : ClassId} {b0 : Nat} {l : Launch} {h v u q : Nat} {n : Int32} {ml : Value} {f : Nat → Int32} (hu : u < 10000) (hq : q ≤ 16) (hq1 : j_dc u ≤ q) : j_MI D cB b0 l yJ6_getChars_ba4f3 wsJ6_getChars_ba4f3 (rm_j 1 30) [.int (nI u), .int (nI q), .ref v] (j_sb h v cB n ml f) (nI (q - j_dc u)) (j_sb h v cB n ml (j_gc f u q)) := by
  intro sz
  refine Met.ofW (cc := cJ6_getChars_ba4f3) (maxL := 7) (ret := some .int) (by decide) rfl ?_
  intro p e s m args below meth c s₁ B hml hv
  obtain ⟨rfl, rfl, hP, hK, hD⟩ := hv
  have hr := B.returns
  have hlocks := B.notSynchronized
  obtain ⟨hC, hS⟩ := j_start hK hP hD (⟨B.exec, B.bytes, hml, findClass_of_methodNamed B.named, atoms_spec (ws := wsJ6_getChars_ba4f3) B.pre⟩ : CallFix p m c cJ6_getChars_ba4f3 7 s _ wsJ6_getChars_ba4f3 RJ6)
  have hl := lv_entry ([.int (nI u), .int (nI q), .ref v] : List Value) (n := 7) (Nat.le_of_ble_eq_true rfl)
  rw [lg_entry_eq]
  generalize (lg_sl ([.int (nI u), .int (nI q), .ref v] : List Value) ++ List.replicate (7 - (lg_sl ([.int (nI u), .int (nI q), .ref v] : List Value)).length) Slot.unset).toArray = ls at hl ⊢
  have hl : lv_has ls 7 [(0, .int (nI u)), (1, .int (nI q)), (2, .ref v)] := hl
  change W p l e (rm_j 1 30) _ _ _ _ _ _ _ _ _ _ _ _
  have hdc := j_dc_le hu
  refine lv_iload_n hC.x hC.b dJ6_getChars_ba4f3_0 rfl (lv_at hl 1 rfl) ?_
  refine lv_istore (lv' := [(5, .int (nI q)), (0, .int (nI u)), (1, .int (nI q)), (2, .ref v)]) hC.x hC.b dJ6_getChars_ba4f3_1 hl (by decide) rfl (fun ls hl => ?_)
  refine lv_iload_n hC.x hC.b dJ6_getChars_ba4f3_3 rfl (lv_at hl 1 rfl) ?_
  refine lv_if_ge (tgt := 11) hC.x hC.b dJ6_getChars_ba4f3_4 (by decide) (fun _ => ?_) (fun h => absurd (nI_pos' (by omega)) h)
  refine lv_iconst (v := (0 : Int32)) hC.x hC.b dJ6_getChars_ba4f3_11 (by decide) ?_
  refine lv_istore (lv' := [(6, .int 0), (5, .int (nI q)), (0, .int (nI u)), (1, .int (nI q)), (2, .ref v)]) hC.x hC.b dJ6_getChars_ba4f3_12 hl (by decide) rfl (fun ls hl => ?_)
  refine lv_iload hC.x hC.b dJ6_getChars_ba4f3_14 (lv_at hl 0 rfl) ?_
  refine lv_if_ne (tgt := 22) hC.x hC.b dJ6_getChars_ba4f3_16 (by decide) (fun h => absurd rfl h) (fun _ => ?_)
  refine lv_iload_n hC.x hC.b dJ6_getChars_ba4f3_19 rfl (lv_at hl 2 rfl) ?_
  refine lv_ineg hC.x hC.b dJ6_getChars_ba4f3_20 ?_
  refine lv_istore_n (lv' := [(0, .int (-nI u)), (6, .int 0), (5, .int (nI q)), (1, .int (nI q)), (2, .ref v)]) hC.x hC.b dJ6_getChars_ba4f3_21 rfl hl (by decide) rfl (fun ls hl => ?_)
  refine lv_iload_n hC.x hC.b dJ6_getChars_ba4f3_22 rfl (lv_at hl 0 rfl) ?_
  refine lv_bipush (v := -nI 100) hC.x hC.b dJ6_getChars_ba4f3_23 (by decide) ?_
  refine lv_icmp_gt (tgt := 72) hC.x hC.b dJ6_getChars_ba4f3_25 (by decide) (fun hc => ?_) (fun hc => ?_)
  · have hc' : u < 100 := (sb_nlt (a := 100) (b := u) (by omega) (by omega)).mp hc
    rw [if_pos hc'] at hdc
    refine w_gc_tail hC hc' hq (by rw [← hdc]; exact hq1) hS (lv_sub hl [2, 4, 0, 1] rfl) (fun H1 locs1 ls1 hS1 => ?_)
    have e1 : j_gc f u q = j_tl f u q := by unfold j_gc; rw [if_pos hc']
    rw [← hdc, e1]
    exact j_iret hC hS1 hr hlocks (by decide) (by decide) dJ6_getChars_ba4f3_120
  · have hc' : ¬ u < 100 := fun hlt => hc ((sb_nlt (a := 100) (b := u) (by omega) (by omega)).mpr hlt)
    rw [if_neg hc'] at hdc
    have hq2 : (if u / 100 < 10 then 1 else 2) ≤ q - 2 := by omega
    have hq3 : 3 ≤ q := by
      by_cases hz : u / 100 < 10
      · rw [if_pos hz] at hdc; omega
      · rw [if_neg hz] at hdc; omega
    refine lv_iload_n hC.x hC.b dJ6_getChars_ba4f3_28 rfl (lv_at hl 0 rfl) ?_
    refine lv_bipush (v := (100 : Int32)) hC.x hC.b dJ6_getChars_ba4f3_29 (by decide) ?_
    refine lv_idiv hC.x hC.b dJ6_getChars_ba4f3_31 (by decide) ?_
    rw [j_ndiv hu]
    refine lv_istore_n (lv' := [(3, .int (-nI (u / 100))), (0, .int (-nI u)), (6, .int 0), (5, .int (nI q)), (1, .int (nI q)), (2, .ref v)]) hC.x hC.b dJ6_getChars_ba4f3_32 rfl hl (by decide) rfl (fun ls hl => ?_)
    refine lv_iload_n hC.x hC.b dJ6_getChars_ba4f3_33 rfl (lv_at hl 0 rfl) ?_
    refine lv_bipush (v := (100 : Int32)) hC.x hC.b dJ6_getChars_ba4f3_34 (by decide) ?_
    refine lv_imul hC.x hC.b dJ6_getChars_ba4f3_36 ?_
    refine lv_iload_n hC.x hC.b dJ6_getChars_ba4f3_37 rfl (lv_at hl 1 rfl) ?_
    refine lv_isub hC.x hC.b dJ6_getChars_ba4f3_38 ?_
    rw [j_nrem hu]
    refine lv_istore (lv' := [(4, .int (nI (u % 100))), (3, .int (-nI (u / 100))), (0, .int (-nI u)), (6, .int 0), (5, .int (nI q)), (1, .int (nI q)), (2, .ref v)]) hC.x hC.b dJ6_getChars_ba4f3_39 hl (by decide) rfl (fun ls hl => ?_)
    refine lv_iload_n hC.x hC.b dJ6_getChars_ba4f3_41 rfl (lv_at hl 1 rfl) ?_
    refine lv_istore_n (lv' := [(0, .int (-nI (u / 100))), (4, .int (nI (u % 100))), (3, .int (-nI (u / 100))), (6, .int 0), (5, .int (nI q)), (1, .int (nI q)), (2, .ref v)]) hC.x hC.b dJ6_getChars_ba4f3_42 rfl hl (by decide) rfl (fun ls hl => ?_)
    refine lv_aload_n hC.x hC.b dJ6_getChars_ba4f3_43 rfl (lv_at hl 6 rfl) ?_
    refine lv_iinc (k := 4) (v := nI (q - 1)) hC.x hC.b dJ6_getChars_ba4f3_44 hl rfl (by
      obtain ⟨q', rfl⟩ : ∃ q', q = q' + 1 := ⟨q - 1, by omega⟩
      exact pk_m1 q') (by decide) rfl (fun ls hl => ?_)
    refine lv_iload hC.x hC.b dJ6_getChars_ba4f3_47 (lv_at hl 0 rfl) ?_
    refine j_ones hC hS dJ6_getChars_ba4f3_49 fun t1 hT1 => ?_
    refine lv_iload hC.x hC.b dJ6_getChars_ba4f3_52 (lv_at hl 2 rfl) ?_
    refine va_tb hC.x hC.b hT1 (hC.SB hS) (vp_in_nI (show u % 100 < 100 by omega) (by omega)) (v := .int (nI (48 + u % 100 % 10))) (by rw [nI_clamp (by omega)]; rfl) dJ6_getChars_ba4f3_54 ?_
    refine j_bast (q0 := 1) (k := q - 1) hC hS rfl (by omega) (j_b8 (by omega)) dJ6_getChars_ba4f3_55 (fun H locs hS => ?_)
    refine lv_aload_n hC.x hC.b dJ6_getChars_ba4f3_56 rfl (lv_at hl 6 rfl) ?_
    refine lv_iinc (k := 0) (v := nI (q - 2)) hC.x hC.b dJ6_getChars_ba4f3_57 hl rfl (by
      obtain ⟨q', rfl⟩ : ∃ q', q = q' + 2 := ⟨q - 2, by omega⟩
      exact pk_m1 q') (by decide) rfl (fun ls hl => ?_)
    refine lv_iload hC.x hC.b dJ6_getChars_ba4f3_60 (lv_at hl 0 rfl) ?_
    refine j_tens hC hS dJ6_getChars_ba4f3_62 fun t2 hT2 => ?_
    refine lv_iload hC.x hC.b dJ6_getChars_ba4f3_65 (lv_at hl 2 rfl) ?_
    refine va_tb hC.x hC.b hT2 (hC.SB hS) (vp_in_nI (show u % 100 < 100 by omega) (by omega)) (v := .int (nI (48 + u % 100 / 10))) (by rw [nI_clamp (by omega)]; rfl) dJ6_getChars_ba4f3_67 ?_
    refine j_bast (q0 := 1) (k := q - 2) hC hS rfl (by omega) (j_b8 (by omega)) dJ6_getChars_ba4f3_68 (fun H locs hS => ?_)
    refine lv_goto (tgt := 22) hC.x hC.b dJ6_getChars_ba4f3_69 (by decide) ?_
    refine lv_iload_n hC.x hC.b dJ6_getChars_ba4f3_22 rfl (lv_at hl 1 rfl) ?_
    refine lv_bipush (v := -nI 100) hC.x hC.b dJ6_getChars_ba4f3_23 (by decide) ?_
    refine lv_icmp_gt (tgt := 72) hC.x hC.b dJ6_getChars_ba4f3_25 (by decide) (fun _ => ?_) (fun hc => absurd ((sb_nlt (a := 100) (b := u / 100) (by omega) (by omega)).mpr (by omega)) hc)
    refine w_gc_tail hC (show u / 100 < 100 by omega) (show q - 2 ≤ 16 by omega) hq2 hS (lv_sub hl [0, 6, 1, 4] rfl) (fun H1 locs1 ls1 hS1 => ?_)
    have e1 : j_gc f u q = j_tl (upd (upd f (q - 1) (nI (48 + u % 100 % 10))) (q - 2) (nI (48 + u % 100 / 10))) (u / 100) (q - 2) := by unfold j_gc; rw [if_neg hc']
    rw [e1, show q - j_dc u = q - 2 - (if u / 100 < 10 then 1 else 2) from by omega]
    exact j_iret hC hS1 hr hlocks (by decide) (by decide) dJ6_getChars_ba4f3_120
