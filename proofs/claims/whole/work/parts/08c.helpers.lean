/-! written by wip/whole/genlaw.py: the law's helpers -/
abbrev rm_L_hang : Room := { frames := 8, cells := 2, slots := 12, locals := 125 }
set_option maxRecDepth 20000 in
theorem lk_L_hang_c13 : Cond.classLink RL 13 "java/lang/IndexOutOfBoundsException" ∈ wsL_hang := by decide +kernel
set_option maxRecDepth 20000 in
theorem lk_L_hang_c15 : Cond.classLink RL 15 "java/lang/IllegalArgumentException" ∈ wsL_hang := by decide +kernel
set_option maxRecDepth 20000 in
theorem lk_L_hang_c17 : Cond.classLink RL 17 "java/lang/IllegalStateException" ∈ wsL_hang := by decide +kernel
set_option maxRecDepth 100000 in
set_option maxHeartbeats 4000000 in
theorem c_L_hang {Γ : k_Pm} {l : Launch} (hl0 : l.stackTraces = false) {x1 : Int32} {x2 : Int32} {g g2 : Gt} {k : Nat} {r kw : Int32} {o : Nat} {cJ : ClassId} {lo : Nat → Int64} (h : f_X4_hang x1 x2 g = some (k, r, g2)) (hk : (k = 0 ∧ kw = 0) ∨ (k = 1 ∧ kw = 1) ∨ (k = 2 ∧ kw = 2) ∨ (k = 3 ∧ kw = 3)) : k_CW Γ l yL_hang wsL_hang rm_L_hang [.ref (k_ad Γ 0 (0)), .int (x1), .int (x2), .ref o] g o cJ lo kw (if k = 0 then vp_updL lo 0 r.toInt64 else lo) g2 := by
  intro sz
  refine va_MetW (cc := cL_hang) (maxL := 5) (ret := (some .int)) (hh := [(0, 10, 13, 13), (0, 10, 17, 15), (0, 10, 21, 17)]) (by decide) rfl ?_
  intro p e s m args below meth c s₁ B hml hv
  obtain ⟨rfl, rfl, hP, hD, hJ, hKS⟩ := hv
  have hr := B.returns
  have hlocks := B.notSynchronized
  have hC : k_C Γ (k_AL Γ o s.heap.size) p l s m _ c cL_hang 5 wsL_hang RL := k_C.ofL ⟨B.exec, B.bytes, hml, findClass_of_methodNamed B.named, atoms_spec (ws := wsL_hang) B.pre⟩ hKS hD hl0
  have hw : k_St Γ (k_AL Γ o s.heap.size) s (k_Lo o cJ lo) g s.heap [] := k_St.ofL hP hD
  have htab : c.exceptionTable.toList = tableOf [(0, 10, 13, 13), (0, 10, 17, 15), (0, 10, 21, 17)] := vx_table (x := yL_hang) B (atoms_spec (ws := wsL_hang) B.pre _ List.mem_cons_self)
  have hl := lv_entry ([.ref (k_ad Γ 0 (0)), .int (x1), .int (x2), .ref o] : List Value) (n := 5) (Nat.le_of_ble_eq_true rfl)
  rw [lg_entry_eq]
  generalize (lg_sl ([.ref (k_ad Γ 0 (0)), .int (x1), .int (x2), .ref o] : List Value) ++ List.replicate (5 - (lg_sl ([.ref (k_ad Γ 0 (0)), .int (x1), .int (x2), .ref o] : List Value)).length) Slot.unset).toArray = ls at hl ⊢
  have hl : lv_has ls 5 [(0, .ref (k_ad Γ 0 (0))), (1, .int (x1)), (2, .int (x2)), (3, .ref o)] := hl
  change W p l e rm_L_hang _ _ _ _ _ _ _ _ _ _ _ _
  refine lv_aload_n hC.x hC.b dL_hang_0 rfl (lv_at hl 3 rfl) ?_
  refine lv_iconst (v := 0) hC.x hC.b dL_hang_1 (by decide) ?_
  refine lv_aload_n hC.x hC.b dL_hang_2 rfl (lv_at hl 0 rfl) ?_
  refine lv_iload_n hC.x hC.b dL_hang_3 rfl (lv_at hl 1 rfl) ?_
  refine lv_iload_n hC.x hC.b dL_hang_4 rfl (lv_at hl 2 rfl) ?_
  refine x_goxi hC hw (x_runxV hC hw (c_X4_hang (Γ := Γ) (l := l) hC.2.2.2.2 h) (cwV 2 hC.t gL_hang_X4_hang rfl rfl rfl (by decide +kernel) ⟨Nat.le_of_ble_eq_true rfl, Nat.le_of_ble_eq_true rfl⟩) (As := [.int (x1), .int (x2)]) (by decide) (k_E0 _ _ _) rfl rfl rfl hl.1 (Nat.le_of_ble_eq_true rfl) dL_hang_5 ⟨by decide, by decide⟩) (fun E ce q9 H locs hk0 hE hw hce hcv hcl => ?_) (fun hk0 H locs hw => ?_)
  · rcases hk with ⟨hk1, hk2⟩ | ⟨hk1, hk2⟩ | ⟨hk1, hk2⟩ | ⟨hk1, hk2⟩
    · exact absurd hk1 hk0
    · subst hk1; subst hk2
      have hcl : s.vm.findClass "java/lang/IndexOutOfBoundsException" = some ce.cls := by rw [hE] at hcl; exact hcl
      refine x_catch (E := "java/lang/IndexOutOfBoundsException") hC [] (0, 10, 13, 13) [(0, 10, 17, 15), (0, 10, 21, 17)] htab (by decide) (by decide) (fun z hz => absurd hz List.not_mem_nil) lk_L_hang_c13 (by decide +kernel) hce hcv hcl ?_
      refine lv_astore (lv' := [(4, .ref q9), (0, .ref (k_ad Γ 0 (0))), (1, .int (x1)), (2, .int (x2)), (3, .ref o)]) hC.x hC.b dL_hang_13 hl (by decide) rfl (fun ls hl => ?_)
      refine lv_iconst (v := 1) hC.x hC.b dL_hang_15 (by decide) ?_
      exact x_wret hC hw hr hlocks (by decide) (by decide) dL_hang_16
    · subst hk1; subst hk2
      have hcl : s.vm.findClass "java/lang/IllegalArgumentException" = some ce.cls := by rw [hE] at hcl; exact hcl
      refine x_catch (E := "java/lang/IllegalArgumentException") hC [(0, 10, 13, 13)] (0, 10, 17, 15) [(0, 10, 21, 17)] htab (by decide) (by decide) (by intro z hz; simp only [List.mem_cons, List.not_mem_nil, or_false] at hz; rcases hz with rfl <;> first | exact ⟨by decide, _, lk_L_hang_c13, by decide +kernel⟩) lk_L_hang_c15 (by decide +kernel) hce hcv hcl ?_
      refine lv_astore (lv' := [(4, .ref q9), (0, .ref (k_ad Γ 0 (0))), (1, .int (x1)), (2, .int (x2)), (3, .ref o)]) hC.x hC.b dL_hang_17 hl (by decide) rfl (fun ls hl => ?_)
      refine lv_iconst (v := 2) hC.x hC.b dL_hang_19 (by decide) ?_
      exact x_wret hC hw hr hlocks (by decide) (by decide) dL_hang_20
    · subst hk1; subst hk2
      have hcl : s.vm.findClass "java/lang/IllegalStateException" = some ce.cls := by rw [hE] at hcl; exact hcl
      refine x_catch (E := "java/lang/IllegalStateException") hC [(0, 10, 13, 13), (0, 10, 17, 15)] (0, 10, 21, 17) [] htab (by decide) (by decide) (by intro z hz; simp only [List.mem_cons, List.not_mem_nil, or_false] at hz; rcases hz with rfl | rfl <;> first | exact ⟨by decide, _, lk_L_hang_c13, by decide +kernel⟩ | exact ⟨by decide, _, lk_L_hang_c15, by decide +kernel⟩) lk_L_hang_c17 (by decide +kernel) hce hcv hcl ?_
      refine lv_astore (lv' := [(4, .ref q9), (0, .ref (k_ad Γ 0 (0))), (1, .int (x1)), (2, .int (x2)), (3, .ref o)]) hC.x hC.b dL_hang_21 hl (by decide) rfl (fun ls hl => ?_)
      refine lv_iconst (v := 3) hC.x hC.b dL_hang_23 (by decide) ?_
      exact x_wret hC hw hr hlocks (by decide) (by decide) dL_hang_24
  · rcases hk with ⟨hk1, hk2⟩ | ⟨hk1, hk2⟩ | ⟨hk1, hk2⟩ | ⟨hk1, hk2⟩
    · subst hk1; subst hk2
      refine lv_i2l hC.x hC.b dL_hang_8 rfl ?_
      refine x_last hC hw hJ dL_hang_9 (fun H locs hw => ?_)
      refine lv_goto (tgt := 25) hC.x hC.b dL_hang_10 (by decide) ?_
      refine lv_iconst (v := 0) hC.x hC.b dL_hang_25 (by decide) ?_
      exact x_wret hC hw hr hlocks (by decide) (by decide) dL_hang_26
    · exact absurd (hk0.symm.trans hk1) (by decide)
    · exact absurd (hk0.symm.trans hk1) (by decide)
    · exact absurd (hk0.symm.trans hk1) (by decide)
abbrev rm_L_tie : Room := { frames := 8, cells := 2, slots := 12, locals := 126 }
set_option maxRecDepth 20000 in
theorem lk_L_tie_c13 : Cond.classLink RL 13 "java/lang/IndexOutOfBoundsException" ∈ wsL_tie := by decide +kernel
set_option maxRecDepth 20000 in
theorem lk_L_tie_c15 : Cond.classLink RL 15 "java/lang/IllegalArgumentException" ∈ wsL_tie := by decide +kernel
set_option maxRecDepth 100000 in
set_option maxHeartbeats 4000000 in
theorem c_L_tie {Γ : k_Pm} {l : Launch} (hl0 : l.stackTraces = false) {x1 : Int32} {x2 : Int32} {g g2 : Gt} {k : Nat} {r kw : Int32} {o : Nat} {cJ : ClassId} {lo : Nat → Int64} (h : f_X4_tie x1 x2 g = some (k, r, g2)) (hk : (k = 0 ∧ kw = 0) ∨ (k = 1 ∧ kw = 1) ∨ (k = 2 ∧ kw = 2)) : k_CW Γ l yL_tie wsL_tie rm_L_tie [.ref (k_ad Γ 0 (0)), .int (x1), .int (x2), .ref o] g o cJ lo kw (if k = 0 then vp_updL lo 0 r.toInt64 else lo) g2 := by
  intro sz
  refine va_MetW (cc := cL_tie) (maxL := 5) (ret := (some .int)) (hh := [(0, 10, 13, 13), (0, 10, 17, 15)]) (by decide) rfl ?_
  intro p e s m args below meth c s₁ B hml hv
  obtain ⟨rfl, rfl, hP, hD, hJ, hKS⟩ := hv
  have hr := B.returns
  have hlocks := B.notSynchronized
  have hC : k_C Γ (k_AL Γ o s.heap.size) p l s m _ c cL_tie 5 wsL_tie RL := k_C.ofL ⟨B.exec, B.bytes, hml, findClass_of_methodNamed B.named, atoms_spec (ws := wsL_tie) B.pre⟩ hKS hD hl0
  have hw : k_St Γ (k_AL Γ o s.heap.size) s (k_Lo o cJ lo) g s.heap [] := k_St.ofL hP hD
  have htab : c.exceptionTable.toList = tableOf [(0, 10, 13, 13), (0, 10, 17, 15)] := vx_table (x := yL_tie) B (atoms_spec (ws := wsL_tie) B.pre _ List.mem_cons_self)
  have hl := lv_entry ([.ref (k_ad Γ 0 (0)), .int (x1), .int (x2), .ref o] : List Value) (n := 5) (Nat.le_of_ble_eq_true rfl)
  rw [lg_entry_eq]
  generalize (lg_sl ([.ref (k_ad Γ 0 (0)), .int (x1), .int (x2), .ref o] : List Value) ++ List.replicate (5 - (lg_sl ([.ref (k_ad Γ 0 (0)), .int (x1), .int (x2), .ref o] : List Value)).length) Slot.unset).toArray = ls at hl ⊢
  have hl : lv_has ls 5 [(0, .ref (k_ad Γ 0 (0))), (1, .int (x1)), (2, .int (x2)), (3, .ref o)] := hl
  change W p l e rm_L_tie _ _ _ _ _ _ _ _ _ _ _ _
  refine lv_aload_n hC.x hC.b dL_tie_0 rfl (lv_at hl 3 rfl) ?_
  refine lv_iconst (v := 0) hC.x hC.b dL_tie_1 (by decide) ?_
  refine lv_aload_n hC.x hC.b dL_tie_2 rfl (lv_at hl 0 rfl) ?_
  refine lv_iload_n hC.x hC.b dL_tie_3 rfl (lv_at hl 1 rfl) ?_
  refine lv_iload_n hC.x hC.b dL_tie_4 rfl (lv_at hl 2 rfl) ?_
  refine x_goxi hC hw (x_runxV hC hw (c_X4_tie (Γ := Γ) (l := l) hC.2.2.2.2 h) (cwV 2 hC.t gL_tie_X4_tie rfl rfl rfl (by decide +kernel) ⟨Nat.le_of_ble_eq_true rfl, Nat.le_of_ble_eq_true rfl⟩) (As := [.int (x1), .int (x2)]) (by decide) (k_E0 _ _ _) rfl rfl rfl hl.1 (Nat.le_of_ble_eq_true rfl) dL_tie_5 ⟨by decide, by decide⟩) (fun E ce q9 H locs hk0 hE hw hce hcv hcl => ?_) (fun hk0 H locs hw => ?_)
  · rcases hk with ⟨hk1, hk2⟩ | ⟨hk1, hk2⟩ | ⟨hk1, hk2⟩
    · exact absurd hk1 hk0
    · subst hk1; subst hk2
      have hcl : s.vm.findClass "java/lang/IndexOutOfBoundsException" = some ce.cls := by rw [hE] at hcl; exact hcl
      refine x_catch (E := "java/lang/IndexOutOfBoundsException") hC [] (0, 10, 13, 13) [(0, 10, 17, 15)] htab (by decide) (by decide) (fun z hz => absurd hz List.not_mem_nil) lk_L_tie_c13 (by decide +kernel) hce hcv hcl ?_
      refine lv_astore (lv' := [(4, .ref q9), (0, .ref (k_ad Γ 0 (0))), (1, .int (x1)), (2, .int (x2)), (3, .ref o)]) hC.x hC.b dL_tie_13 hl (by decide) rfl (fun ls hl => ?_)
      refine lv_iconst (v := 1) hC.x hC.b dL_tie_15 (by decide) ?_
      exact x_wret hC hw hr hlocks (by decide) (by decide) dL_tie_16
    · subst hk1; subst hk2
      have hcl : s.vm.findClass "java/lang/IllegalArgumentException" = some ce.cls := by rw [hE] at hcl; exact hcl
      refine x_catch (E := "java/lang/IllegalArgumentException") hC [(0, 10, 13, 13)] (0, 10, 17, 15) [] htab (by decide) (by decide) (by intro z hz; simp only [List.mem_cons, List.not_mem_nil, or_false] at hz; rcases hz with rfl <;> first | exact ⟨by decide, _, lk_L_tie_c13, by decide +kernel⟩) lk_L_tie_c15 (by decide +kernel) hce hcv hcl ?_
      refine lv_astore (lv' := [(4, .ref q9), (0, .ref (k_ad Γ 0 (0))), (1, .int (x1)), (2, .int (x2)), (3, .ref o)]) hC.x hC.b dL_tie_17 hl (by decide) rfl (fun ls hl => ?_)
      refine lv_iconst (v := 2) hC.x hC.b dL_tie_19 (by decide) ?_
      exact x_wret hC hw hr hlocks (by decide) (by decide) dL_tie_20
  · rcases hk with ⟨hk1, hk2⟩ | ⟨hk1, hk2⟩ | ⟨hk1, hk2⟩
    · subst hk1; subst hk2
      refine lv_i2l hC.x hC.b dL_tie_8 rfl ?_
      refine x_last hC hw hJ dL_tie_9 (fun H locs hw => ?_)
      refine lv_goto (tgt := 21) hC.x hC.b dL_tie_10 (by decide) ?_
      refine lv_iconst (v := 0) hC.x hC.b dL_tie_21 (by decide) ?_
      exact x_wret hC hw hr hlocks (by decide) (by decide) dL_tie_22
    · exact absurd (hk0.symm.trans hk1) (by decide)
    · exact absurd (hk0.symm.trans hk1) (by decide)
abbrev rm_L_untie : Room := { frames := 8, cells := 4, slots := 24, locals := 127 }
set_option maxRecDepth 20000 in
theorem lk_L_untie_c13 : Cond.classLink RL 13 "java/lang/IndexOutOfBoundsException" ∈ wsL_untie := by decide +kernel
set_option maxRecDepth 20000 in
theorem lk_L_untie_c15 : Cond.classLink RL 15 "java/lang/IllegalArgumentException" ∈ wsL_untie := by decide +kernel
set_option maxRecDepth 20000 in
theorem lk_L_untie_c17 : Cond.classLink RL 17 "java/lang/IllegalStateException" ∈ wsL_untie := by decide +kernel
set_option maxRecDepth 100000 in
set_option maxHeartbeats 4000000 in
theorem c_L_untie {Γ : k_Pm} {l : Launch} (hl0 : l.stackTraces = false) {x1 : Int32} {x2 : Int32} {x3 : Int32} {x4 : Int32} {g g2 : Gt} {k : Nat} {r kw : Int32} {o : Nat} {cJ : ClassId} {lo : Nat → Int64} (h : f_X4_untie x1 x2 x3 x4 g = some (k, r, g2)) (hk : (k = 0 ∧ kw = 0) ∨ (k = 1 ∧ kw = 1) ∨ (k = 2 ∧ kw = 2) ∨ (k = 3 ∧ kw = 3)) : k_CW Γ l yL_untie wsL_untie rm_L_untie [.ref (k_ad Γ 0 (0)), .int (x1), .int (x2), .int (x3), .int (x4), .ref o] g o cJ lo kw (if k = 0 then vp_updL lo 0 r.toInt64 else lo) g2 := by
  intro sz
  refine va_MetW (cc := cL_untie) (maxL := 7) (ret := (some .int)) (hh := [(0, 14, 17, 13), (0, 14, 21, 15), (0, 14, 25, 17)]) (by decide) rfl ?_
  intro p e s m args below meth c s₁ B hml hv
  obtain ⟨rfl, rfl, hP, hD, hJ, hKS⟩ := hv
  have hr := B.returns
  have hlocks := B.notSynchronized
  have hC : k_C Γ (k_AL Γ o s.heap.size) p l s m _ c cL_untie 7 wsL_untie RL := k_C.ofL ⟨B.exec, B.bytes, hml, findClass_of_methodNamed B.named, atoms_spec (ws := wsL_untie) B.pre⟩ hKS hD hl0
  have hw : k_St Γ (k_AL Γ o s.heap.size) s (k_Lo o cJ lo) g s.heap [] := k_St.ofL hP hD
  have htab : c.exceptionTable.toList = tableOf [(0, 14, 17, 13), (0, 14, 21, 15), (0, 14, 25, 17)] := vx_table (x := yL_untie) B (atoms_spec (ws := wsL_untie) B.pre _ List.mem_cons_self)
  have hl := lv_entry ([.ref (k_ad Γ 0 (0)), .int (x1), .int (x2), .int (x3), .int (x4), .ref o] : List Value) (n := 7) (Nat.le_of_ble_eq_true rfl)
  rw [lg_entry_eq]
  generalize (lg_sl ([.ref (k_ad Γ 0 (0)), .int (x1), .int (x2), .int (x3), .int (x4), .ref o] : List Value) ++ List.replicate (7 - (lg_sl ([.ref (k_ad Γ 0 (0)), .int (x1), .int (x2), .int (x3), .int (x4), .ref o] : List Value)).length) Slot.unset).toArray = ls at hl ⊢
  have hl : lv_has ls 7 [(0, .ref (k_ad Γ 0 (0))), (1, .int (x1)), (2, .int (x2)), (3, .int (x3)), (4, .int (x4)), (5, .ref o)] := hl
  change W p l e rm_L_untie _ _ _ _ _ _ _ _ _ _ _ _
  refine lv_aload hC.x hC.b dL_untie_0 (lv_at hl 5 rfl) ?_
  refine lv_iconst (v := 0) hC.x hC.b dL_untie_2 (by decide) ?_
  refine lv_aload_n hC.x hC.b dL_untie_3 rfl (lv_at hl 0 rfl) ?_
  refine lv_iload_n hC.x hC.b dL_untie_4 rfl (lv_at hl 1 rfl) ?_
  refine lv_iload_n hC.x hC.b dL_untie_5 rfl (lv_at hl 2 rfl) ?_
  refine lv_iload_n hC.x hC.b dL_untie_6 rfl (lv_at hl 3 rfl) ?_
  refine lv_iload hC.x hC.b dL_untie_7 (lv_at hl 4 rfl) ?_
  refine x_goxi hC hw (x_runxV hC hw (c_X4_untie (Γ := Γ) (l := l) hC.2.2.2.2 h) (cwV 4 hC.t gL_untie_X4_untie rfl rfl rfl (by decide +kernel) ⟨Nat.le_of_ble_eq_true rfl, Nat.le_of_ble_eq_true rfl⟩) (As := [.int (x1), .int (x2), .int (x3), .int (x4)]) (by decide) (k_E0 _ _ _) rfl rfl rfl hl.1 (Nat.le_of_ble_eq_true rfl) dL_untie_9 ⟨by decide, by decide⟩) (fun E ce q9 H locs hk0 hE hw hce hcv hcl => ?_) (fun hk0 H locs hw => ?_)
  · rcases hk with ⟨hk1, hk2⟩ | ⟨hk1, hk2⟩ | ⟨hk1, hk2⟩ | ⟨hk1, hk2⟩
    · exact absurd hk1 hk0
    · subst hk1; subst hk2
      have hcl : s.vm.findClass "java/lang/IndexOutOfBoundsException" = some ce.cls := by rw [hE] at hcl; exact hcl
      refine x_catch (E := "java/lang/IndexOutOfBoundsException") hC [] (0, 14, 17, 13) [(0, 14, 21, 15), (0, 14, 25, 17)] htab (by decide) (by decide) (fun z hz => absurd hz List.not_mem_nil) lk_L_untie_c13 (by decide +kernel) hce hcv hcl ?_
      refine lv_astore (lv' := [(6, .ref q9), (0, .ref (k_ad Γ 0 (0))), (1, .int (x1)), (2, .int (x2)), (3, .int (x3)), (4, .int (x4)), (5, .ref o)]) hC.x hC.b dL_untie_17 hl (by decide) rfl (fun ls hl => ?_)
      refine lv_iconst (v := 1) hC.x hC.b dL_untie_19 (by decide) ?_
      exact x_wret hC hw hr hlocks (by decide) (by decide) dL_untie_20
    · subst hk1; subst hk2
      have hcl : s.vm.findClass "java/lang/IllegalArgumentException" = some ce.cls := by rw [hE] at hcl; exact hcl
      refine x_catch (E := "java/lang/IllegalArgumentException") hC [(0, 14, 17, 13)] (0, 14, 21, 15) [(0, 14, 25, 17)] htab (by decide) (by decide) (by intro z hz; simp only [List.mem_cons, List.not_mem_nil, or_false] at hz; rcases hz with rfl <;> first | exact ⟨by decide, _, lk_L_untie_c13, by decide +kernel⟩) lk_L_untie_c15 (by decide +kernel) hce hcv hcl ?_
      refine lv_astore (lv' := [(6, .ref q9), (0, .ref (k_ad Γ 0 (0))), (1, .int (x1)), (2, .int (x2)), (3, .int (x3)), (4, .int (x4)), (5, .ref o)]) hC.x hC.b dL_untie_21 hl (by decide) rfl (fun ls hl => ?_)
      refine lv_iconst (v := 2) hC.x hC.b dL_untie_23 (by decide) ?_
      exact x_wret hC hw hr hlocks (by decide) (by decide) dL_untie_24
    · subst hk1; subst hk2
      have hcl : s.vm.findClass "java/lang/IllegalStateException" = some ce.cls := by rw [hE] at hcl; exact hcl
      refine x_catch (E := "java/lang/IllegalStateException") hC [(0, 14, 17, 13), (0, 14, 21, 15)] (0, 14, 25, 17) [] htab (by decide) (by decide) (by intro z hz; simp only [List.mem_cons, List.not_mem_nil, or_false] at hz; rcases hz with rfl | rfl <;> first | exact ⟨by decide, _, lk_L_untie_c13, by decide +kernel⟩ | exact ⟨by decide, _, lk_L_untie_c15, by decide +kernel⟩) lk_L_untie_c17 (by decide +kernel) hce hcv hcl ?_
      refine lv_astore (lv' := [(6, .ref q9), (0, .ref (k_ad Γ 0 (0))), (1, .int (x1)), (2, .int (x2)), (3, .int (x3)), (4, .int (x4)), (5, .ref o)]) hC.x hC.b dL_untie_25 hl (by decide) rfl (fun ls hl => ?_)
      refine lv_iconst (v := 3) hC.x hC.b dL_untie_27 (by decide) ?_
      exact x_wret hC hw hr hlocks (by decide) (by decide) dL_untie_28
  · rcases hk with ⟨hk1, hk2⟩ | ⟨hk1, hk2⟩ | ⟨hk1, hk2⟩ | ⟨hk1, hk2⟩
    · subst hk1; subst hk2
      refine lv_i2l hC.x hC.b dL_untie_12 rfl ?_
      refine x_last hC hw hJ dL_untie_13 (fun H locs hw => ?_)
      refine lv_goto (tgt := 29) hC.x hC.b dL_untie_14 (by decide) ?_
      refine lv_iconst (v := 0) hC.x hC.b dL_untie_29 (by decide) ?_
      exact x_wret hC hw hr hlocks (by decide) (by decide) dL_untie_30
    · exact absurd (hk0.symm.trans hk1) (by decide)
    · exact absurd (hk0.symm.trans hk1) (by decide)
    · exact absurd (hk0.symm.trans hk1) (by decide)
abbrev rm_L_mend : Room := { frames := 8, cells := 1, slots := 6, locals := 125 }
set_option maxRecDepth 20000 in
theorem lk_L_mend_c13 : Cond.classLink RL 13 "java/lang/IndexOutOfBoundsException" ∈ wsL_mend := by decide +kernel
set_option maxRecDepth 100000 in
set_option maxHeartbeats 4000000 in
theorem c_L_mend {Γ : k_Pm} {l : Launch} (hl0 : l.stackTraces = false) {x1 : Int32} {g g2 : Gt} {k : Nat} {r kw : Int32} {o : Nat} {cJ : ClassId} {lo : Nat → Int64} (h : f_X4_mend x1 g = some (k, r, g2)) (hk : (k = 0 ∧ kw = 0) ∨ (k = 1 ∧ kw = 1)) : k_CW Γ l yL_mend wsL_mend rm_L_mend [.ref (k_ad Γ 0 (0)), .int (x1), .ref o] g o cJ lo kw (if k = 0 then vp_updL lo 0 r.toInt64 else lo) g2 := by
  intro sz
  refine va_MetW (cc := cL_mend) (maxL := 4) (ret := (some .int)) (hh := [(0, 9, 12, 13)]) (by decide) rfl ?_
  intro p e s m args below meth c s₁ B hml hv
  obtain ⟨rfl, rfl, hP, hD, hJ, hKS⟩ := hv
  have hr := B.returns
  have hlocks := B.notSynchronized
  have hC : k_C Γ (k_AL Γ o s.heap.size) p l s m _ c cL_mend 4 wsL_mend RL := k_C.ofL ⟨B.exec, B.bytes, hml, findClass_of_methodNamed B.named, atoms_spec (ws := wsL_mend) B.pre⟩ hKS hD hl0
  have hw : k_St Γ (k_AL Γ o s.heap.size) s (k_Lo o cJ lo) g s.heap [] := k_St.ofL hP hD
  have htab : c.exceptionTable.toList = tableOf [(0, 9, 12, 13)] := vx_table (x := yL_mend) B (atoms_spec (ws := wsL_mend) B.pre _ List.mem_cons_self)
  have hl := lv_entry ([.ref (k_ad Γ 0 (0)), .int (x1), .ref o] : List Value) (n := 4) (Nat.le_of_ble_eq_true rfl)
  rw [lg_entry_eq]
  generalize (lg_sl ([.ref (k_ad Γ 0 (0)), .int (x1), .ref o] : List Value) ++ List.replicate (4 - (lg_sl ([.ref (k_ad Γ 0 (0)), .int (x1), .ref o] : List Value)).length) Slot.unset).toArray = ls at hl ⊢
  have hl : lv_has ls 4 [(0, .ref (k_ad Γ 0 (0))), (1, .int (x1)), (2, .ref o)] := hl
  change W p l e rm_L_mend _ _ _ _ _ _ _ _ _ _ _ _
  refine lv_aload_n hC.x hC.b dL_mend_0 rfl (lv_at hl 2 rfl) ?_
  refine lv_iconst (v := 0) hC.x hC.b dL_mend_1 (by decide) ?_
  refine lv_aload_n hC.x hC.b dL_mend_2 rfl (lv_at hl 0 rfl) ?_
  refine lv_iload_n hC.x hC.b dL_mend_3 rfl (lv_at hl 1 rfl) ?_
  refine x_goxi hC hw (x_runxV hC hw (c_X4_mend (Γ := Γ) (l := l) hC.2.2.2.2 h) (cwV 1 hC.t gL_mend_X4_mend rfl rfl rfl (by decide +kernel) ⟨Nat.le_of_ble_eq_true rfl, Nat.le_of_ble_eq_true rfl⟩) (As := [.int (x1)]) (by decide) (k_E0 _ _ _) rfl rfl rfl hl.1 (Nat.le_of_ble_eq_true rfl) dL_mend_4 ⟨by decide, by decide⟩) (fun E ce q9 H locs hk0 hE hw hce hcv hcl => ?_) (fun hk0 H locs hw => ?_)
  · rcases hk with ⟨hk1, hk2⟩ | ⟨hk1, hk2⟩
    · exact absurd hk1 hk0
    · subst hk1; subst hk2
      have hcl : s.vm.findClass "java/lang/IndexOutOfBoundsException" = some ce.cls := by rw [hE] at hcl; exact hcl
      refine x_catch (E := "java/lang/IndexOutOfBoundsException") hC [] (0, 9, 12, 13) [] htab (by decide) (by decide) (fun z hz => absurd hz List.not_mem_nil) lk_L_mend_c13 (by decide +kernel) hce hcv hcl ?_
      refine lv_astore_n (lv' := [(3, .ref q9), (0, .ref (k_ad Γ 0 (0))), (1, .int (x1)), (2, .ref o)]) hC.x hC.b dL_mend_12 rfl hl (by decide) rfl (fun ls hl => ?_)
      refine lv_iconst (v := 1) hC.x hC.b dL_mend_13 (by decide) ?_
      exact x_wret hC hw hr hlocks (by decide) (by decide) dL_mend_14
  · rcases hk with ⟨hk1, hk2⟩ | ⟨hk1, hk2⟩
    · subst hk1; subst hk2
      refine lv_i2l hC.x hC.b dL_mend_7 rfl ?_
      refine x_last hC hw hJ dL_mend_8 (fun H locs hw => ?_)
      refine lv_goto (tgt := 15) hC.x hC.b dL_mend_9 (by decide) ?_
      refine lv_iconst (v := 0) hC.x hC.b dL_mend_15 (by decide) ?_
      exact x_wret hC hw hr hlocks (by decide) (by decide) dL_mend_16
    · exact absurd (hk0.symm.trans hk1) (by decide)
abbrev rm_L_cord : Room := { frames := 8, cells := 2, slots := 12, locals := 125 }
set_option maxRecDepth 20000 in
theorem lk_L_cord_c13 : Cond.classLink RL 13 "java/lang/IndexOutOfBoundsException" ∈ wsL_cord := by decide +kernel
set_option maxRecDepth 100000 in
set_option maxHeartbeats 4000000 in
theorem c_L_cord {Γ : k_Pm} {l : Launch} (hl0 : l.stackTraces = false) {x1 : Int32} {x2 : Int32} {g g2 : Gt} {k : Nat} {r kw : Int32} {o : Nat} {cJ : ClassId} {lo : Nat → Int64} (h : f_X4_cord x1 x2 g = some (k, r, g2)) (hk : (k = 0 ∧ kw = 0) ∨ (k = 1 ∧ kw = 1)) : k_CW Γ l yL_cord wsL_cord rm_L_cord [.ref (k_ad Γ 0 (0)), .int (x1), .int (x2), .ref o] g o cJ lo kw (if k = 0 then vp_updL lo 0 r.toInt64 else lo) g2 := by
  intro sz
  refine va_MetW (cc := cL_cord) (maxL := 5) (ret := (some .int)) (hh := [(0, 10, 13, 13)]) (by decide) rfl ?_
  intro p e s m args below meth c s₁ B hml hv
  obtain ⟨rfl, rfl, hP, hD, hJ, hKS⟩ := hv
  have hr := B.returns
  have hlocks := B.notSynchronized
  have hC : k_C Γ (k_AL Γ o s.heap.size) p l s m _ c cL_cord 5 wsL_cord RL := k_C.ofL ⟨B.exec, B.bytes, hml, findClass_of_methodNamed B.named, atoms_spec (ws := wsL_cord) B.pre⟩ hKS hD hl0
  have hw : k_St Γ (k_AL Γ o s.heap.size) s (k_Lo o cJ lo) g s.heap [] := k_St.ofL hP hD
  have htab : c.exceptionTable.toList = tableOf [(0, 10, 13, 13)] := vx_table (x := yL_cord) B (atoms_spec (ws := wsL_cord) B.pre _ List.mem_cons_self)
  have hl := lv_entry ([.ref (k_ad Γ 0 (0)), .int (x1), .int (x2), .ref o] : List Value) (n := 5) (Nat.le_of_ble_eq_true rfl)
  rw [lg_entry_eq]
  generalize (lg_sl ([.ref (k_ad Γ 0 (0)), .int (x1), .int (x2), .ref o] : List Value) ++ List.replicate (5 - (lg_sl ([.ref (k_ad Γ 0 (0)), .int (x1), .int (x2), .ref o] : List Value)).length) Slot.unset).toArray = ls at hl ⊢
  have hl : lv_has ls 5 [(0, .ref (k_ad Γ 0 (0))), (1, .int (x1)), (2, .int (x2)), (3, .ref o)] := hl
  change W p l e rm_L_cord _ _ _ _ _ _ _ _ _ _ _ _
  refine lv_aload_n hC.x hC.b dL_cord_0 rfl (lv_at hl 3 rfl) ?_
  refine lv_iconst (v := 0) hC.x hC.b dL_cord_1 (by decide) ?_
  refine lv_aload_n hC.x hC.b dL_cord_2 rfl (lv_at hl 0 rfl) ?_
  refine lv_iload_n hC.x hC.b dL_cord_3 rfl (lv_at hl 1 rfl) ?_
  refine lv_iload_n hC.x hC.b dL_cord_4 rfl (lv_at hl 2 rfl) ?_
  refine x_goxi hC hw (x_runxV hC hw (c_X4_cord (Γ := Γ) (l := l) hC.2.2.2.2 h) (cwV 2 hC.t gL_cord_X4_cord rfl rfl rfl (by decide +kernel) ⟨Nat.le_of_ble_eq_true rfl, Nat.le_of_ble_eq_true rfl⟩) (As := [.int (x1), .int (x2)]) (by decide) (k_E0 _ _ _) rfl rfl rfl hl.1 (Nat.le_of_ble_eq_true rfl) dL_cord_5 ⟨by decide, by decide⟩) (fun E ce q9 H locs hk0 hE hw hce hcv hcl => ?_) (fun hk0 H locs hw => ?_)
  · rcases hk with ⟨hk1, hk2⟩ | ⟨hk1, hk2⟩
    · exact absurd hk1 hk0
    · subst hk1; subst hk2
      have hcl : s.vm.findClass "java/lang/IndexOutOfBoundsException" = some ce.cls := by rw [hE] at hcl; exact hcl
      refine x_catch (E := "java/lang/IndexOutOfBoundsException") hC [] (0, 10, 13, 13) [] htab (by decide) (by decide) (fun z hz => absurd hz List.not_mem_nil) lk_L_cord_c13 (by decide +kernel) hce hcv hcl ?_
      refine lv_astore (lv' := [(4, .ref q9), (0, .ref (k_ad Γ 0 (0))), (1, .int (x1)), (2, .int (x2)), (3, .ref o)]) hC.x hC.b dL_cord_13 hl (by decide) rfl (fun ls hl => ?_)
      refine lv_iconst (v := 1) hC.x hC.b dL_cord_15 (by decide) ?_
      exact x_wret hC hw hr hlocks (by decide) (by decide) dL_cord_16
  · rcases hk with ⟨hk1, hk2⟩ | ⟨hk1, hk2⟩
    · subst hk1; subst hk2
      refine lv_i2l hC.x hC.b dL_cord_8 rfl ?_
      refine x_last hC hw hJ dL_cord_9 (fun H locs hw => ?_)
      refine lv_goto (tgt := 17) hC.x hC.b dL_cord_10 (by decide) ?_
      refine lv_iconst (v := 0) hC.x hC.b dL_cord_17 (by decide) ?_
      exact x_wret hC hw hr hlocks (by decide) (by decide) dL_cord_18
    · exact absurd (hk0.symm.trans hk1) (by decide)
abbrev rm_L_place : Room := { frames := 8, cells := 3, slots := 18, locals := 126 }
set_option maxRecDepth 20000 in
theorem lk_L_place_c13 : Cond.classLink RL 13 "java/lang/IndexOutOfBoundsException" ∈ wsL_place := by decide +kernel
set_option maxRecDepth 100000 in
set_option maxHeartbeats 4000000 in
theorem c_L_place {Γ : k_Pm} {l : Launch} (hl0 : l.stackTraces = false) {x1 : Int32} {x2 : Int32} {x3 : Int32} {g g2 : Gt} {k : Nat} {r kw : Int32} {o : Nat} {cJ : ClassId} {lo : Nat → Int64} (h : f_X4_place x1 x2 x3 g = some (k, r, g2)) (hk : (k = 0 ∧ kw = 0) ∨ (k = 1 ∧ kw = 1)) : k_CW Γ l yL_place wsL_place rm_L_place [.ref (k_ad Γ 0 (0)), .int (x1), .int (x2), .int (x3), .ref o] g o cJ lo kw (if k = 0 then vp_updL lo 0 r.toInt64 else lo) g2 := by
  intro sz
  refine va_MetW (cc := cL_place) (maxL := 6) (ret := (some .int)) (hh := [(0, 12, 15, 13)]) (by decide) rfl ?_
  intro p e s m args below meth c s₁ B hml hv
  obtain ⟨rfl, rfl, hP, hD, hJ, hKS⟩ := hv
  have hr := B.returns
  have hlocks := B.notSynchronized
  have hC : k_C Γ (k_AL Γ o s.heap.size) p l s m _ c cL_place 6 wsL_place RL := k_C.ofL ⟨B.exec, B.bytes, hml, findClass_of_methodNamed B.named, atoms_spec (ws := wsL_place) B.pre⟩ hKS hD hl0
  have hw : k_St Γ (k_AL Γ o s.heap.size) s (k_Lo o cJ lo) g s.heap [] := k_St.ofL hP hD
  have htab : c.exceptionTable.toList = tableOf [(0, 12, 15, 13)] := vx_table (x := yL_place) B (atoms_spec (ws := wsL_place) B.pre _ List.mem_cons_self)
  have hl := lv_entry ([.ref (k_ad Γ 0 (0)), .int (x1), .int (x2), .int (x3), .ref o] : List Value) (n := 6) (Nat.le_of_ble_eq_true rfl)
  rw [lg_entry_eq]
  generalize (lg_sl ([.ref (k_ad Γ 0 (0)), .int (x1), .int (x2), .int (x3), .ref o] : List Value) ++ List.replicate (6 - (lg_sl ([.ref (k_ad Γ 0 (0)), .int (x1), .int (x2), .int (x3), .ref o] : List Value)).length) Slot.unset).toArray = ls at hl ⊢
  have hl : lv_has ls 6 [(0, .ref (k_ad Γ 0 (0))), (1, .int (x1)), (2, .int (x2)), (3, .int (x3)), (4, .ref o)] := hl
  change W p l e rm_L_place _ _ _ _ _ _ _ _ _ _ _ _
  refine lv_aload hC.x hC.b dL_place_0 (lv_at hl 4 rfl) ?_
  refine lv_iconst (v := 0) hC.x hC.b dL_place_2 (by decide) ?_
  refine lv_aload_n hC.x hC.b dL_place_3 rfl (lv_at hl 0 rfl) ?_
  refine lv_iload_n hC.x hC.b dL_place_4 rfl (lv_at hl 1 rfl) ?_
  refine lv_iload_n hC.x hC.b dL_place_5 rfl (lv_at hl 2 rfl) ?_
  refine lv_iload_n hC.x hC.b dL_place_6 rfl (lv_at hl 3 rfl) ?_
  refine x_goxi hC hw (x_runxV hC hw (c_X4_place (Γ := Γ) (l := l) hC.2.2.2.2 h) (cwV 3 hC.t gL_place_X4_place rfl rfl rfl (by decide +kernel) ⟨Nat.le_of_ble_eq_true rfl, Nat.le_of_ble_eq_true rfl⟩) (As := [.int (x1), .int (x2), .int (x3)]) (by decide) (k_E0 _ _ _) rfl rfl rfl hl.1 (Nat.le_of_ble_eq_true rfl) dL_place_7 ⟨by decide, by decide⟩) (fun E ce q9 H locs hk0 hE hw hce hcv hcl => ?_) (fun hk0 H locs hw => ?_)
  · rcases hk with ⟨hk1, hk2⟩ | ⟨hk1, hk2⟩
    · exact absurd hk1 hk0
    · subst hk1; subst hk2
      have hcl : s.vm.findClass "java/lang/IndexOutOfBoundsException" = some ce.cls := by rw [hE] at hcl; exact hcl
      refine x_catch (E := "java/lang/IndexOutOfBoundsException") hC [] (0, 12, 15, 13) [] htab (by decide) (by decide) (fun z hz => absurd hz List.not_mem_nil) lk_L_place_c13 (by decide +kernel) hce hcv hcl ?_
      refine lv_astore (lv' := [(5, .ref q9), (0, .ref (k_ad Γ 0 (0))), (1, .int (x1)), (2, .int (x2)), (3, .int (x3)), (4, .ref o)]) hC.x hC.b dL_place_15 hl (by decide) rfl (fun ls hl => ?_)
      refine lv_iconst (v := 1) hC.x hC.b dL_place_17 (by decide) ?_
      exact x_wret hC hw hr hlocks (by decide) (by decide) dL_place_18
  · rcases hk with ⟨hk1, hk2⟩ | ⟨hk1, hk2⟩
    · subst hk1; subst hk2
      refine lv_i2l hC.x hC.b dL_place_10 rfl ?_
      refine x_last hC hw hJ dL_place_11 (fun H locs hw => ?_)
      refine lv_goto (tgt := 19) hC.x hC.b dL_place_12 (by decide) ?_
      refine lv_iconst (v := 0) hC.x hC.b dL_place_19 (by decide) ?_
      exact x_wret hC hw hr hlocks (by decide) (by decide) dL_place_20
    · exact absurd (hk0.symm.trans hk1) (by decide)
abbrev rm_L_call : Room := { frames := 7, cells := 1, slots := 6, locals := 102 }
set_option maxRecDepth 20000 in
theorem lk_L_call_c17 : Cond.classLink RL 17 "java/lang/IllegalStateException" ∈ wsL_call := by decide +kernel
set_option maxRecDepth 100000 in
set_option maxHeartbeats 4000000 in
theorem c_L_call {Γ : k_Pm} {l : Launch} (hl0 : l.stackTraces = false) {g g2 : Gt} {k : Nat} {r kw : Int32} {o : Nat} {cJ : ClassId} {lo : Nat → Int64} (h : f_X4_call  g = some (k, r, g2)) (hk : (k = 0 ∧ kw = 0) ∨ (k = 3 ∧ kw = 1)) : k_CW Γ l yL_call wsL_call rm_L_call [.ref (k_ad Γ 0 (0)), .ref o] g o cJ lo kw (if k = 0 then vp_updL lo 0 r.toInt64 else lo) g2 := by
  intro sz
  refine va_MetW (cc := cL_call) (maxL := 3) (ret := (some .int)) (hh := [(0, 8, 11, 17)]) (by decide) rfl ?_
  intro p e s m args below meth c s₁ B hml hv
  obtain ⟨rfl, rfl, hP, hD, hJ, hKS⟩ := hv
  have hr := B.returns
  have hlocks := B.notSynchronized
  have hC : k_C Γ (k_AL Γ o s.heap.size) p l s m _ c cL_call 3 wsL_call RL := k_C.ofL ⟨B.exec, B.bytes, hml, findClass_of_methodNamed B.named, atoms_spec (ws := wsL_call) B.pre⟩ hKS hD hl0
  have hw : k_St Γ (k_AL Γ o s.heap.size) s (k_Lo o cJ lo) g s.heap [] := k_St.ofL hP hD
  have htab : c.exceptionTable.toList = tableOf [(0, 8, 11, 17)] := vx_table (x := yL_call) B (atoms_spec (ws := wsL_call) B.pre _ List.mem_cons_self)
  have hl := lv_entry ([.ref (k_ad Γ 0 (0)), .ref o] : List Value) (n := 3) (Nat.le_of_ble_eq_true rfl)
  rw [lg_entry_eq]
  generalize (lg_sl ([.ref (k_ad Γ 0 (0)), .ref o] : List Value) ++ List.replicate (3 - (lg_sl ([.ref (k_ad Γ 0 (0)), .ref o] : List Value)).length) Slot.unset).toArray = ls at hl ⊢
  have hl : lv_has ls 3 [(0, .ref (k_ad Γ 0 (0))), (1, .ref o)] := hl
  change W p l e rm_L_call _ _ _ _ _ _ _ _ _ _ _ _
  refine lv_aload_n hC.x hC.b dL_call_0 rfl (lv_at hl 1 rfl) ?_
  refine lv_iconst (v := 0) hC.x hC.b dL_call_1 (by decide) ?_
  refine lv_aload_n hC.x hC.b dL_call_2 rfl (lv_at hl 0 rfl) ?_
  refine x_goxi hC hw (x_runxV hC hw (c_X4_call (Γ := Γ) (l := l) hC.2.2.2.2 h) (cwV 0 hC.t gL_call_X4_call rfl rfl rfl (by decide +kernel) ⟨Nat.le_of_ble_eq_true rfl, Nat.le_of_ble_eq_true rfl⟩) (As := []) (by decide) (k_E0 _ _ _) rfl rfl rfl hl.1 (Nat.le_of_ble_eq_true rfl) dL_call_3 ⟨by decide, by decide⟩) (fun E ce q9 H locs hk0 hE hw hce hcv hcl => ?_) (fun hk0 H locs hw => ?_)
  · rcases hk with ⟨hk1, hk2⟩ | ⟨hk1, hk2⟩
    · exact absurd hk1 hk0
    · subst hk1; subst hk2
      have hcl : s.vm.findClass "java/lang/IllegalStateException" = some ce.cls := by rw [hE] at hcl; exact hcl
      refine x_catch (E := "java/lang/IllegalStateException") hC [] (0, 8, 11, 17) [] htab (by decide) (by decide) (fun z hz => absurd hz List.not_mem_nil) lk_L_call_c17 (by decide +kernel) hce hcv hcl ?_
      refine lv_astore_n (lv' := [(2, .ref q9), (0, .ref (k_ad Γ 0 (0))), (1, .ref o)]) hC.x hC.b dL_call_11 rfl hl (by decide) rfl (fun ls hl => ?_)
      refine lv_iconst (v := 1) hC.x hC.b dL_call_12 (by decide) ?_
      exact x_wret hC hw hr hlocks (by decide) (by decide) dL_call_13
  · rcases hk with ⟨hk1, hk2⟩ | ⟨hk1, hk2⟩
    · subst hk1; subst hk2
      refine lv_i2l hC.x hC.b dL_call_6 rfl ?_
      refine x_last hC hw hJ dL_call_7 (fun H locs hw => ?_)
      refine lv_goto (tgt := 14) hC.x hC.b dL_call_8 (by decide) ?_
      refine lv_iconst (v := 0) hC.x hC.b dL_call_14 (by decide) ?_
      exact x_wret hC hw hr hlocks (by decide) (by decide) dL_call_15
    · exact absurd (hk0.symm.trans hk1) (by decide)
abbrev rm_L_read : Room := { frames := 8, cells := 2, slots := 12, locals := 126 }
set_option maxRecDepth 20000 in
theorem lk_L_read_c13 : Cond.classLink RL 13 "java/lang/IndexOutOfBoundsException" ∈ wsL_read := by decide +kernel
set_option maxRecDepth 100000 in
set_option maxHeartbeats 4000000 in
theorem c_L_read {Γ : k_Pm} {l : Launch} (hl0 : l.stackTraces = false) {x1 : Int32} {x2 : Int32} {g g2 : Gt} {k : Nat} {r kw : Int32} {o : Nat} {cJ : ClassId} {lo : Nat → Int64} (h : f_X4_read x1 x2 g = some (k, r, g2)) (hk : (k = 0 ∧ kw = 0) ∨ (k = 1 ∧ kw = 1)) : k_CW Γ l yL_read wsL_read rm_L_read [.ref (k_ad Γ 0 (0)), .int (x1), .int (x2), .ref o] g o cJ lo kw (if k = 0 then vp_updL lo 0 r.toInt64 else lo) g2 := by
  intro sz
  refine va_MetW (cc := cL_read) (maxL := 5) (ret := (some .int)) (hh := [(0, 10, 13, 13)]) (by decide) rfl ?_
  intro p e s m args below meth c s₁ B hml hv
  obtain ⟨rfl, rfl, hP, hD, hJ, hKS⟩ := hv
  have hr := B.returns
  have hlocks := B.notSynchronized
  have hC : k_C Γ (k_AL Γ o s.heap.size) p l s m _ c cL_read 5 wsL_read RL := k_C.ofL ⟨B.exec, B.bytes, hml, findClass_of_methodNamed B.named, atoms_spec (ws := wsL_read) B.pre⟩ hKS hD hl0
  have hw : k_St Γ (k_AL Γ o s.heap.size) s (k_Lo o cJ lo) g s.heap [] := k_St.ofL hP hD
  have htab : c.exceptionTable.toList = tableOf [(0, 10, 13, 13)] := vx_table (x := yL_read) B (atoms_spec (ws := wsL_read) B.pre _ List.mem_cons_self)
  have hl := lv_entry ([.ref (k_ad Γ 0 (0)), .int (x1), .int (x2), .ref o] : List Value) (n := 5) (Nat.le_of_ble_eq_true rfl)
  rw [lg_entry_eq]
  generalize (lg_sl ([.ref (k_ad Γ 0 (0)), .int (x1), .int (x2), .ref o] : List Value) ++ List.replicate (5 - (lg_sl ([.ref (k_ad Γ 0 (0)), .int (x1), .int (x2), .ref o] : List Value)).length) Slot.unset).toArray = ls at hl ⊢
  have hl : lv_has ls 5 [(0, .ref (k_ad Γ 0 (0))), (1, .int (x1)), (2, .int (x2)), (3, .ref o)] := hl
  change W p l e rm_L_read _ _ _ _ _ _ _ _ _ _ _ _
  refine lv_aload_n hC.x hC.b dL_read_0 rfl (lv_at hl 3 rfl) ?_
  refine lv_iconst (v := 0) hC.x hC.b dL_read_1 (by decide) ?_
  refine lv_aload_n hC.x hC.b dL_read_2 rfl (lv_at hl 0 rfl) ?_
  refine lv_iload_n hC.x hC.b dL_read_3 rfl (lv_at hl 1 rfl) ?_
  refine lv_iload_n hC.x hC.b dL_read_4 rfl (lv_at hl 2 rfl) ?_
  refine x_goxi hC hw (x_runxV hC hw (c_X4_read (Γ := Γ) (l := l) hC.2.2.2.2 h) (cwV 2 hC.t gL_read_X4_read rfl rfl rfl (by decide +kernel) ⟨Nat.le_of_ble_eq_true rfl, Nat.le_of_ble_eq_true rfl⟩) (As := [.int (x1), .int (x2)]) (by decide) (k_E0 _ _ _) rfl rfl rfl hl.1 (Nat.le_of_ble_eq_true rfl) dL_read_5 ⟨by decide, by decide⟩) (fun E ce q9 H locs hk0 hE hw hce hcv hcl => ?_) (fun hk0 H locs hw => ?_)
  · rcases hk with ⟨hk1, hk2⟩ | ⟨hk1, hk2⟩
    · exact absurd hk1 hk0
    · subst hk1; subst hk2
      have hcl : s.vm.findClass "java/lang/IndexOutOfBoundsException" = some ce.cls := by rw [hE] at hcl; exact hcl
      refine x_catch (E := "java/lang/IndexOutOfBoundsException") hC [] (0, 10, 13, 13) [] htab (by decide) (by decide) (fun z hz => absurd hz List.not_mem_nil) lk_L_read_c13 (by decide +kernel) hce hcv hcl ?_
      refine lv_astore (lv' := [(4, .ref q9), (0, .ref (k_ad Γ 0 (0))), (1, .int (x1)), (2, .int (x2)), (3, .ref o)]) hC.x hC.b dL_read_13 hl (by decide) rfl (fun ls hl => ?_)
      refine lv_iconst (v := 1) hC.x hC.b dL_read_15 (by decide) ?_
      exact x_wret hC hw hr hlocks (by decide) (by decide) dL_read_16
  · rcases hk with ⟨hk1, hk2⟩ | ⟨hk1, hk2⟩
    · subst hk1; subst hk2
      refine lv_i2l hC.x hC.b dL_read_8 rfl ?_
      refine x_last hC hw hJ dL_read_9 (fun H locs hw => ?_)
      refine lv_goto (tgt := 17) hC.x hC.b dL_read_10 (by decide) ?_
      refine lv_iconst (v := 0) hC.x hC.b dL_read_17 (by decide) ?_
      exact x_wret hC hw hr hlocks (by decide) (by decide) dL_read_18
    · exact absurd (hk0.symm.trans hk1) (by decide)
abbrev rm_L_remembers : Room := { frames := 8, cells := 3, slots := 18, locals := 126 }
set_option maxRecDepth 20000 in
theorem lk_L_remembers_c13 : Cond.classLink RL 13 "java/lang/IndexOutOfBoundsException" ∈ wsL_remembers := by decide +kernel
set_option maxRecDepth 100000 in
set_option maxHeartbeats 4000000 in
theorem c_L_remembers {Γ : k_Pm} {l : Launch} (hl0 : l.stackTraces = false) {x1 : Int32} {x2 : Int32} {x3 : Int32} {g g2 : Gt} {k : Nat} {r kw : Int32} {o : Nat} {cJ : ClassId} {lo : Nat → Int64} (h : f_X4_remembers x1 x2 x3 g = some (k, r, g2)) (hk : (k = 0 ∧ kw = 0) ∨ (k = 1 ∧ kw = 1)) : k_CW Γ l yL_remembers wsL_remembers rm_L_remembers [.ref (k_ad Γ 0 (0)), .int (x1), .int (x2), .int (x3), .ref o] g o cJ lo kw (if k = 0 then vp_updL lo 0 r.toInt64 else lo) g2 := by
  intro sz
  refine va_MetW (cc := cL_remembers) (maxL := 6) (ret := (some .int)) (hh := [(0, 12, 15, 13)]) (by decide) rfl ?_
  intro p e s m args below meth c s₁ B hml hv
  obtain ⟨rfl, rfl, hP, hD, hJ, hKS⟩ := hv
  have hr := B.returns
  have hlocks := B.notSynchronized
  have hC : k_C Γ (k_AL Γ o s.heap.size) p l s m _ c cL_remembers 6 wsL_remembers RL := k_C.ofL ⟨B.exec, B.bytes, hml, findClass_of_methodNamed B.named, atoms_spec (ws := wsL_remembers) B.pre⟩ hKS hD hl0
  have hw : k_St Γ (k_AL Γ o s.heap.size) s (k_Lo o cJ lo) g s.heap [] := k_St.ofL hP hD
  have htab : c.exceptionTable.toList = tableOf [(0, 12, 15, 13)] := vx_table (x := yL_remembers) B (atoms_spec (ws := wsL_remembers) B.pre _ List.mem_cons_self)
  have hl := lv_entry ([.ref (k_ad Γ 0 (0)), .int (x1), .int (x2), .int (x3), .ref o] : List Value) (n := 6) (Nat.le_of_ble_eq_true rfl)
  rw [lg_entry_eq]
  generalize (lg_sl ([.ref (k_ad Γ 0 (0)), .int (x1), .int (x2), .int (x3), .ref o] : List Value) ++ List.replicate (6 - (lg_sl ([.ref (k_ad Γ 0 (0)), .int (x1), .int (x2), .int (x3), .ref o] : List Value)).length) Slot.unset).toArray = ls at hl ⊢
  have hl : lv_has ls 6 [(0, .ref (k_ad Γ 0 (0))), (1, .int (x1)), (2, .int (x2)), (3, .int (x3)), (4, .ref o)] := hl
  change W p l e rm_L_remembers _ _ _ _ _ _ _ _ _ _ _ _
  refine lv_aload hC.x hC.b dL_remembers_0 (lv_at hl 4 rfl) ?_
  refine lv_iconst (v := 0) hC.x hC.b dL_remembers_2 (by decide) ?_
  refine lv_aload_n hC.x hC.b dL_remembers_3 rfl (lv_at hl 0 rfl) ?_
  refine lv_iload_n hC.x hC.b dL_remembers_4 rfl (lv_at hl 1 rfl) ?_
  refine lv_iload_n hC.x hC.b dL_remembers_5 rfl (lv_at hl 2 rfl) ?_
  refine lv_iload_n hC.x hC.b dL_remembers_6 rfl (lv_at hl 3 rfl) ?_
  refine x_goxi hC hw (x_runxV hC hw (c_X4_remembers (Γ := Γ) (l := l) hC.2.2.2.2 h) (cwV 3 hC.t gL_remembers_X4_remembers rfl rfl rfl (by decide +kernel) ⟨Nat.le_of_ble_eq_true rfl, Nat.le_of_ble_eq_true rfl⟩) (As := [.int (x1), .int (x2), .int (x3)]) (by decide) (k_E0 _ _ _) rfl rfl rfl hl.1 (Nat.le_of_ble_eq_true rfl) dL_remembers_7 ⟨by decide, by decide⟩) (fun E ce q9 H locs hk0 hE hw hce hcv hcl => ?_) (fun hk0 H locs hw => ?_)
  · rcases hk with ⟨hk1, hk2⟩ | ⟨hk1, hk2⟩
    · exact absurd hk1 hk0
    · subst hk1; subst hk2
      have hcl : s.vm.findClass "java/lang/IndexOutOfBoundsException" = some ce.cls := by rw [hE] at hcl; exact hcl
      refine x_catch (E := "java/lang/IndexOutOfBoundsException") hC [] (0, 12, 15, 13) [] htab (by decide) (by decide) (fun z hz => absurd hz List.not_mem_nil) lk_L_remembers_c13 (by decide +kernel) hce hcv hcl ?_
      refine lv_astore (lv' := [(5, .ref q9), (0, .ref (k_ad Γ 0 (0))), (1, .int (x1)), (2, .int (x2)), (3, .int (x3)), (4, .ref o)]) hC.x hC.b dL_remembers_15 hl (by decide) rfl (fun ls hl => ?_)
      refine lv_iconst (v := 1) hC.x hC.b dL_remembers_17 (by decide) ?_
      exact x_wret hC hw hr hlocks (by decide) (by decide) dL_remembers_18
  · rcases hk with ⟨hk1, hk2⟩ | ⟨hk1, hk2⟩
    · subst hk1; subst hk2
      refine lv_i2l hC.x hC.b dL_remembers_10 rfl ?_
      refine x_last hC hw hJ dL_remembers_11 (fun H locs hw => ?_)
      refine lv_goto (tgt := 19) hC.x hC.b dL_remembers_12 (by decide) ?_
      refine lv_iconst (v := 0) hC.x hC.b dL_remembers_19 (by decide) ?_
      exact x_wret hC hw hr hlocks (by decide) (by decide) dL_remembers_20
    · exact absurd (hk0.symm.trans hk1) (by decide)
abbrev rm_L_trust : Room := { frames := 8, cells := 1, slots := 6, locals := 124 }
set_option maxRecDepth 20000 in
theorem lk_L_trust_c13 : Cond.classLink RL 13 "java/lang/IndexOutOfBoundsException" ∈ wsL_trust := by decide +kernel
set_option maxRecDepth 100000 in
set_option maxHeartbeats 4000000 in
theorem c_L_trust {Γ : k_Pm} {l : Launch} (hl0 : l.stackTraces = false) {x1 : Int32} {g g2 : Gt} {k : Nat} {r kw : Int32} {o : Nat} {cJ : ClassId} {lo : Nat → Int64} (h : f_X4_trust x1 g = some (k, r, g2)) (hk : (k = 0 ∧ kw = 0) ∨ (k = 1 ∧ kw = 1)) : k_CW Γ l yL_trust wsL_trust rm_L_trust [.ref (k_ad Γ 0 (0)), .int (x1), .ref o] g o cJ lo kw (if k = 0 then vp_updL lo 0 r.toInt64 else lo) g2 := by
  intro sz
  refine va_MetW (cc := cL_trust) (maxL := 4) (ret := (some .int)) (hh := [(0, 9, 12, 13)]) (by decide) rfl ?_
  intro p e s m args below meth c s₁ B hml hv
  obtain ⟨rfl, rfl, hP, hD, hJ, hKS⟩ := hv
  have hr := B.returns
  have hlocks := B.notSynchronized
  have hC : k_C Γ (k_AL Γ o s.heap.size) p l s m _ c cL_trust 4 wsL_trust RL := k_C.ofL ⟨B.exec, B.bytes, hml, findClass_of_methodNamed B.named, atoms_spec (ws := wsL_trust) B.pre⟩ hKS hD hl0
  have hw : k_St Γ (k_AL Γ o s.heap.size) s (k_Lo o cJ lo) g s.heap [] := k_St.ofL hP hD
  have htab : c.exceptionTable.toList = tableOf [(0, 9, 12, 13)] := vx_table (x := yL_trust) B (atoms_spec (ws := wsL_trust) B.pre _ List.mem_cons_self)
  have hl := lv_entry ([.ref (k_ad Γ 0 (0)), .int (x1), .ref o] : List Value) (n := 4) (Nat.le_of_ble_eq_true rfl)
  rw [lg_entry_eq]
  generalize (lg_sl ([.ref (k_ad Γ 0 (0)), .int (x1), .ref o] : List Value) ++ List.replicate (4 - (lg_sl ([.ref (k_ad Γ 0 (0)), .int (x1), .ref o] : List Value)).length) Slot.unset).toArray = ls at hl ⊢
  have hl : lv_has ls 4 [(0, .ref (k_ad Γ 0 (0))), (1, .int (x1)), (2, .ref o)] := hl
  change W p l e rm_L_trust _ _ _ _ _ _ _ _ _ _ _ _
  refine lv_aload_n hC.x hC.b dL_trust_0 rfl (lv_at hl 2 rfl) ?_
  refine lv_iconst (v := 0) hC.x hC.b dL_trust_1 (by decide) ?_
  refine lv_aload_n hC.x hC.b dL_trust_2 rfl (lv_at hl 0 rfl) ?_
  refine lv_iload_n hC.x hC.b dL_trust_3 rfl (lv_at hl 1 rfl) ?_
  refine x_goxi hC hw (x_runxV hC hw (c_X4_trust (Γ := Γ) (l := l) hC.2.2.2.2 h) (cwV 1 hC.t gL_trust_X4_trust rfl rfl rfl (by decide +kernel) ⟨Nat.le_of_ble_eq_true rfl, Nat.le_of_ble_eq_true rfl⟩) (As := [.int (x1)]) (by decide) (k_E0 _ _ _) rfl rfl rfl hl.1 (Nat.le_of_ble_eq_true rfl) dL_trust_4 ⟨by decide, by decide⟩) (fun E ce q9 H locs hk0 hE hw hce hcv hcl => ?_) (fun hk0 H locs hw => ?_)
  · rcases hk with ⟨hk1, hk2⟩ | ⟨hk1, hk2⟩
    · exact absurd hk1 hk0
    · subst hk1; subst hk2
      have hcl : s.vm.findClass "java/lang/IndexOutOfBoundsException" = some ce.cls := by rw [hE] at hcl; exact hcl
      refine x_catch (E := "java/lang/IndexOutOfBoundsException") hC [] (0, 9, 12, 13) [] htab (by decide) (by decide) (fun z hz => absurd hz List.not_mem_nil) lk_L_trust_c13 (by decide +kernel) hce hcv hcl ?_
      refine lv_astore_n (lv' := [(3, .ref q9), (0, .ref (k_ad Γ 0 (0))), (1, .int (x1)), (2, .ref o)]) hC.x hC.b dL_trust_12 rfl hl (by decide) rfl (fun ls hl => ?_)
      refine lv_iconst (v := 1) hC.x hC.b dL_trust_13 (by decide) ?_
      exact x_wret hC hw hr hlocks (by decide) (by decide) dL_trust_14
  · rcases hk with ⟨hk1, hk2⟩ | ⟨hk1, hk2⟩
    · subst hk1; subst hk2
      refine lv_i2l hC.x hC.b dL_trust_7 rfl ?_
      refine x_last hC hw hJ dL_trust_8 (fun H locs hw => ?_)
      refine lv_goto (tgt := 15) hC.x hC.b dL_trust_9 (by decide) ?_
      refine lv_iconst (v := 0) hC.x hC.b dL_trust_15 (by decide) ?_
      exact x_wret hC hw hr hlocks (by decide) (by decide) dL_trust_16
    · exact absurd (hk0.symm.trans hk1) (by decide)
abbrev rm_L_dispute : Room := { frames := 8, cells := 2, slots := 12, locals := 142 }
set_option maxRecDepth 20000 in
theorem lk_L_dispute_c13 : Cond.classLink RL 13 "java/lang/IndexOutOfBoundsException" ∈ wsL_dispute := by decide +kernel
set_option maxRecDepth 20000 in
theorem lk_L_dispute_c17 : Cond.classLink RL 17 "java/lang/IllegalStateException" ∈ wsL_dispute := by decide +kernel
set_option maxRecDepth 100000 in
set_option maxHeartbeats 4000000 in
theorem c_L_dispute {Γ : k_Pm} {l : Launch} (hl0 : l.stackTraces = false) {x1 : Int32} {g g2 : Gt} {k : Nat} {r kw : Int32} {o : Nat} {cJ : ClassId} {lo : Nat → Int64} (h : f_X4_dispute x1 g = some (k, r, g2)) (hk : (k = 0 ∧ kw = 0) ∨ (k = 1 ∧ kw = 1) ∨ (k = 3 ∧ kw = 2)) : k_CW Γ l yL_dispute wsL_dispute rm_L_dispute [.ref (k_ad Γ 0 (0)), .int (x1), .ref o] g o cJ lo kw (if k = 0 then vp_updL lo 0 r.toInt64 else lo) g2 := by
  intro sz
  refine va_MetW (cc := cL_dispute) (maxL := 4) (ret := (some .int)) (hh := [(0, 9, 12, 13), (0, 9, 15, 17)]) (by decide) rfl ?_
  intro p e s m args below meth c s₁ B hml hv
  obtain ⟨rfl, rfl, hP, hD, hJ, hKS⟩ := hv
  have hr := B.returns
  have hlocks := B.notSynchronized
  have hC : k_C Γ (k_AL Γ o s.heap.size) p l s m _ c cL_dispute 4 wsL_dispute RL := k_C.ofL ⟨B.exec, B.bytes, hml, findClass_of_methodNamed B.named, atoms_spec (ws := wsL_dispute) B.pre⟩ hKS hD hl0
  have hw : k_St Γ (k_AL Γ o s.heap.size) s (k_Lo o cJ lo) g s.heap [] := k_St.ofL hP hD
  have htab : c.exceptionTable.toList = tableOf [(0, 9, 12, 13), (0, 9, 15, 17)] := vx_table (x := yL_dispute) B (atoms_spec (ws := wsL_dispute) B.pre _ List.mem_cons_self)
  have hl := lv_entry ([.ref (k_ad Γ 0 (0)), .int (x1), .ref o] : List Value) (n := 4) (Nat.le_of_ble_eq_true rfl)
  rw [lg_entry_eq]
  generalize (lg_sl ([.ref (k_ad Γ 0 (0)), .int (x1), .ref o] : List Value) ++ List.replicate (4 - (lg_sl ([.ref (k_ad Γ 0 (0)), .int (x1), .ref o] : List Value)).length) Slot.unset).toArray = ls at hl ⊢
  have hl : lv_has ls 4 [(0, .ref (k_ad Γ 0 (0))), (1, .int (x1)), (2, .ref o)] := hl
  change W p l e rm_L_dispute _ _ _ _ _ _ _ _ _ _ _ _
  refine lv_aload_n hC.x hC.b dL_dispute_0 rfl (lv_at hl 2 rfl) ?_
  refine lv_iconst (v := 0) hC.x hC.b dL_dispute_1 (by decide) ?_
  refine lv_aload_n hC.x hC.b dL_dispute_2 rfl (lv_at hl 0 rfl) ?_
  refine lv_iload_n hC.x hC.b dL_dispute_3 rfl (lv_at hl 1 rfl) ?_
  refine x_goxi hC hw (x_runxV hC hw (c_X4_dispute (Γ := Γ) (l := l) hC.2.2.2.2 h) (cwV 1 hC.t gL_dispute_X4_dispute rfl rfl rfl (by decide +kernel) ⟨Nat.le_of_ble_eq_true rfl, Nat.le_of_ble_eq_true rfl⟩) (As := [.int (x1)]) (by decide) (k_E0 _ _ _) rfl rfl rfl hl.1 (Nat.le_of_ble_eq_true rfl) dL_dispute_4 ⟨by decide, by decide⟩) (fun E ce q9 H locs hk0 hE hw hce hcv hcl => ?_) (fun hk0 H locs hw => ?_)
  · rcases hk with ⟨hk1, hk2⟩ | ⟨hk1, hk2⟩ | ⟨hk1, hk2⟩
    · exact absurd hk1 hk0
    · subst hk1; subst hk2
      have hcl : s.vm.findClass "java/lang/IndexOutOfBoundsException" = some ce.cls := by rw [hE] at hcl; exact hcl
      refine x_catch (E := "java/lang/IndexOutOfBoundsException") hC [] (0, 9, 12, 13) [(0, 9, 15, 17)] htab (by decide) (by decide) (fun z hz => absurd hz List.not_mem_nil) lk_L_dispute_c13 (by decide +kernel) hce hcv hcl ?_
      refine lv_astore_n (lv' := [(3, .ref q9), (0, .ref (k_ad Γ 0 (0))), (1, .int (x1)), (2, .ref o)]) hC.x hC.b dL_dispute_12 rfl hl (by decide) rfl (fun ls hl => ?_)
      refine lv_iconst (v := 1) hC.x hC.b dL_dispute_13 (by decide) ?_
      exact x_wret hC hw hr hlocks (by decide) (by decide) dL_dispute_14
    · subst hk1; subst hk2
      have hcl : s.vm.findClass "java/lang/IllegalStateException" = some ce.cls := by rw [hE] at hcl; exact hcl
      refine x_catch (E := "java/lang/IllegalStateException") hC [(0, 9, 12, 13)] (0, 9, 15, 17) [] htab (by decide) (by decide) (by intro z hz; simp only [List.mem_cons, List.not_mem_nil, or_false] at hz; rcases hz with rfl <;> first | exact ⟨by decide, _, lk_L_dispute_c13, by decide +kernel⟩) lk_L_dispute_c17 (by decide +kernel) hce hcv hcl ?_
      refine lv_astore_n (lv' := [(3, .ref q9), (0, .ref (k_ad Γ 0 (0))), (1, .int (x1)), (2, .ref o)]) hC.x hC.b dL_dispute_15 rfl hl (by decide) rfl (fun ls hl => ?_)
      refine lv_iconst (v := 2) hC.x hC.b dL_dispute_16 (by decide) ?_
      exact x_wret hC hw hr hlocks (by decide) (by decide) dL_dispute_17
  · rcases hk with ⟨hk1, hk2⟩ | ⟨hk1, hk2⟩ | ⟨hk1, hk2⟩
    · subst hk1; subst hk2
      refine lv_i2l hC.x hC.b dL_dispute_7 rfl ?_
      refine x_last hC hw hJ dL_dispute_8 (fun H locs hw => ?_)
      refine lv_goto (tgt := 18) hC.x hC.b dL_dispute_9 (by decide) ?_
      refine lv_iconst (v := 0) hC.x hC.b dL_dispute_18 (by decide) ?_
      exact x_wret hC hw hr hlocks (by decide) (by decide) dL_dispute_19
    · exact absurd (hk0.symm.trans hk1) (by decide)
    · exact absurd (hk0.symm.trans hk1) (by decide)
abbrev rm_L_untying : Room := { frames := 8, cells := 1, slots := 6, locals := 125 }
set_option maxRecDepth 20000 in
theorem lk_L_untying_c13 : Cond.classLink RL 13 "java/lang/IndexOutOfBoundsException" ∈ wsL_untying := by decide +kernel
set_option maxRecDepth 100000 in
set_option maxHeartbeats 4000000 in
theorem c_L_untying {Γ : k_Pm} {l : Launch} (hl0 : l.stackTraces = false) {x1 : Int32} {x2 : Int32} {g g2 : Gt} {k : Nat} {r kw : Int32} {o : Nat} {cJ : ClassId} {lo : Nat → Int64} (h : f_X4_untying x1 x2 g = some (k, r, g2)) (hk : (k = 0 ∧ kw = 0) ∨ (k = 1 ∧ kw = 1)) : k_CW Γ l yL_untying wsL_untying rm_L_untying [.ref (k_ad Γ 0 (0)), .int (x1), .int (x2), .ref o] g o cJ lo kw (if k = 0 then vp_updL lo 0 r.toInt64 else lo) g2 := by
  intro sz
  refine va_MetW (cc := cL_untying) (maxL := 5) (ret := (some .int)) (hh := [(0, 10, 13, 13)]) (by decide) rfl ?_
  intro p e s m args below meth c s₁ B hml hv
  obtain ⟨rfl, rfl, hP, hD, hJ, hKS⟩ := hv
  have hr := B.returns
  have hlocks := B.notSynchronized
  have hC : k_C Γ (k_AL Γ o s.heap.size) p l s m _ c cL_untying 5 wsL_untying RL := k_C.ofL ⟨B.exec, B.bytes, hml, findClass_of_methodNamed B.named, atoms_spec (ws := wsL_untying) B.pre⟩ hKS hD hl0
  have hw : k_St Γ (k_AL Γ o s.heap.size) s (k_Lo o cJ lo) g s.heap [] := k_St.ofL hP hD
  have htab : c.exceptionTable.toList = tableOf [(0, 10, 13, 13)] := vx_table (x := yL_untying) B (atoms_spec (ws := wsL_untying) B.pre _ List.mem_cons_self)
  have hl := lv_entry ([.ref (k_ad Γ 0 (0)), .int (x1), .int (x2), .ref o] : List Value) (n := 5) (Nat.le_of_ble_eq_true rfl)
  rw [lg_entry_eq]
  generalize (lg_sl ([.ref (k_ad Γ 0 (0)), .int (x1), .int (x2), .ref o] : List Value) ++ List.replicate (5 - (lg_sl ([.ref (k_ad Γ 0 (0)), .int (x1), .int (x2), .ref o] : List Value)).length) Slot.unset).toArray = ls at hl ⊢
  have hl : lv_has ls 5 [(0, .ref (k_ad Γ 0 (0))), (1, .int (x1)), (2, .int (x2)), (3, .ref o)] := hl
  change W p l e rm_L_untying _ _ _ _ _ _ _ _ _ _ _ _
  refine lv_aload_n hC.x hC.b dL_untying_0 rfl (lv_at hl 3 rfl) ?_
  refine lv_iconst (v := 0) hC.x hC.b dL_untying_1 (by decide) ?_
  refine lv_aload_n hC.x hC.b dL_untying_2 rfl (lv_at hl 0 rfl) ?_
  refine lv_iload_n hC.x hC.b dL_untying_3 rfl (lv_at hl 1 rfl) ?_
  refine lv_iload_n hC.x hC.b dL_untying_4 rfl (lv_at hl 2 rfl) ?_
  refine x_goxi hC hw (x_runxV hC hw (c_X4_untying (Γ := Γ) (l := l) hC.2.2.2.2 h) (cwV 2 hC.t gL_untying_X4_untying rfl rfl rfl (by decide +kernel) ⟨Nat.le_of_ble_eq_true rfl, Nat.le_of_ble_eq_true rfl⟩) (As := [.int (x1), .int (x2)]) (by decide) (k_E0 _ _ _) rfl rfl rfl hl.1 (Nat.le_of_ble_eq_true rfl) dL_untying_5 ⟨by decide, by decide⟩) (fun E ce q9 H locs hk0 hE hw hce hcv hcl => ?_) (fun hk0 H locs hw => ?_)
  · rcases hk with ⟨hk1, hk2⟩ | ⟨hk1, hk2⟩
    · exact absurd hk1 hk0
    · subst hk1; subst hk2
      have hcl : s.vm.findClass "java/lang/IndexOutOfBoundsException" = some ce.cls := by rw [hE] at hcl; exact hcl
      refine x_catch (E := "java/lang/IndexOutOfBoundsException") hC [] (0, 10, 13, 13) [] htab (by decide) (by decide) (fun z hz => absurd hz List.not_mem_nil) lk_L_untying_c13 (by decide +kernel) hce hcv hcl ?_
      refine lv_astore (lv' := [(4, .ref q9), (0, .ref (k_ad Γ 0 (0))), (1, .int (x1)), (2, .int (x2)), (3, .ref o)]) hC.x hC.b dL_untying_13 hl (by decide) rfl (fun ls hl => ?_)
      refine lv_iconst (v := 1) hC.x hC.b dL_untying_15 (by decide) ?_
      exact x_wret hC hw hr hlocks (by decide) (by decide) dL_untying_16
  · rcases hk with ⟨hk1, hk2⟩ | ⟨hk1, hk2⟩
    · subst hk1; subst hk2
      refine lv_i2l hC.x hC.b dL_untying_8 rfl ?_
      refine x_last hC hw hJ dL_untying_9 (fun H locs hw => ?_)
      refine lv_goto (tgt := 17) hC.x hC.b dL_untying_10 (by decide) ?_
      refine lv_iconst (v := 0) hC.x hC.b dL_untying_17 (by decide) ?_
      exact x_wret hC hw hr hlocks (by decide) (by decide) dL_untying_18
    · exact absurd (hk0.symm.trans hk1) (by decide)
abbrev rm_L_pass : Room := { frames := 8, cells := 1, slots := 6, locals := 124 }
set_option maxRecDepth 20000 in
theorem lk_L_pass_c15 : Cond.classLink RL 15 "java/lang/IllegalArgumentException" ∈ wsL_pass := by decide +kernel
set_option maxRecDepth 100000 in
set_option maxHeartbeats 4000000 in
theorem c_L_pass {Γ : k_Pm} {l : Launch} (hl0 : l.stackTraces = false) {x1 : Int32} {g g2 : Gt} {k : Nat} {r kw : Int32} {o : Nat} {cJ : ClassId} {lo : Nat → Int64} (h : f_X4_pass x1 g = some (k, r, g2)) (hk : (k = 0 ∧ kw = 0) ∨ (k = 2 ∧ kw = 1)) : k_CW Γ l yL_pass wsL_pass rm_L_pass [.ref (k_ad Γ 0 (0)), .int (x1), .ref o] g o cJ lo kw (if k = 0 then vp_updL lo 0 r.toInt64 else lo) g2 := by
  intro sz
  refine va_MetW (cc := cL_pass) (maxL := 4) (ret := (some .int)) (hh := [(0, 9, 12, 15)]) (by decide) rfl ?_
  intro p e s m args below meth c s₁ B hml hv
  obtain ⟨rfl, rfl, hP, hD, hJ, hKS⟩ := hv
  have hr := B.returns
  have hlocks := B.notSynchronized
  have hC : k_C Γ (k_AL Γ o s.heap.size) p l s m _ c cL_pass 4 wsL_pass RL := k_C.ofL ⟨B.exec, B.bytes, hml, findClass_of_methodNamed B.named, atoms_spec (ws := wsL_pass) B.pre⟩ hKS hD hl0
  have hw : k_St Γ (k_AL Γ o s.heap.size) s (k_Lo o cJ lo) g s.heap [] := k_St.ofL hP hD
  have htab : c.exceptionTable.toList = tableOf [(0, 9, 12, 15)] := vx_table (x := yL_pass) B (atoms_spec (ws := wsL_pass) B.pre _ List.mem_cons_self)
  have hl := lv_entry ([.ref (k_ad Γ 0 (0)), .int (x1), .ref o] : List Value) (n := 4) (Nat.le_of_ble_eq_true rfl)
  rw [lg_entry_eq]
  generalize (lg_sl ([.ref (k_ad Γ 0 (0)), .int (x1), .ref o] : List Value) ++ List.replicate (4 - (lg_sl ([.ref (k_ad Γ 0 (0)), .int (x1), .ref o] : List Value)).length) Slot.unset).toArray = ls at hl ⊢
  have hl : lv_has ls 4 [(0, .ref (k_ad Γ 0 (0))), (1, .int (x1)), (2, .ref o)] := hl
  change W p l e rm_L_pass _ _ _ _ _ _ _ _ _ _ _ _
  refine lv_aload_n hC.x hC.b dL_pass_0 rfl (lv_at hl 2 rfl) ?_
  refine lv_iconst (v := 0) hC.x hC.b dL_pass_1 (by decide) ?_
  refine lv_aload_n hC.x hC.b dL_pass_2 rfl (lv_at hl 0 rfl) ?_
  refine lv_iload_n hC.x hC.b dL_pass_3 rfl (lv_at hl 1 rfl) ?_
  refine x_goxi hC hw (x_runxV hC hw (c_X4_pass (Γ := Γ) (l := l) hC.2.2.2.2 h) (cwV 1 hC.t gL_pass_X4_pass rfl rfl rfl (by decide +kernel) ⟨Nat.le_of_ble_eq_true rfl, Nat.le_of_ble_eq_true rfl⟩) (As := [.int (x1)]) (by decide) (k_E0 _ _ _) rfl rfl rfl hl.1 (Nat.le_of_ble_eq_true rfl) dL_pass_4 ⟨by decide, by decide⟩) (fun E ce q9 H locs hk0 hE hw hce hcv hcl => ?_) (fun hk0 H locs hw => ?_)
  · rcases hk with ⟨hk1, hk2⟩ | ⟨hk1, hk2⟩
    · exact absurd hk1 hk0
    · subst hk1; subst hk2
      have hcl : s.vm.findClass "java/lang/IllegalArgumentException" = some ce.cls := by rw [hE] at hcl; exact hcl
      refine x_catch (E := "java/lang/IllegalArgumentException") hC [] (0, 9, 12, 15) [] htab (by decide) (by decide) (fun z hz => absurd hz List.not_mem_nil) lk_L_pass_c15 (by decide +kernel) hce hcv hcl ?_
      refine lv_astore_n (lv' := [(3, .ref q9), (0, .ref (k_ad Γ 0 (0))), (1, .int (x1)), (2, .ref o)]) hC.x hC.b dL_pass_12 rfl hl (by decide) rfl (fun ls hl => ?_)
      refine lv_iconst (v := 1) hC.x hC.b dL_pass_13 (by decide) ?_
      exact x_wret hC hw hr hlocks (by decide) (by decide) dL_pass_14
  · rcases hk with ⟨hk1, hk2⟩ | ⟨hk1, hk2⟩
    · subst hk1; subst hk2
      refine lv_i2l hC.x hC.b dL_pass_7 rfl ?_
      refine x_last hC hw hJ dL_pass_8 (fun H locs hw => ?_)
      refine lv_goto (tgt := 15) hC.x hC.b dL_pass_9 (by decide) ?_
      refine lv_iconst (v := 0) hC.x hC.b dL_pass_15 (by decide) ?_
      exact x_wret hC hw hr hlocks (by decide) (by decide) dL_pass_16
    · exact absurd (hk0.symm.trans hk1) (by decide)
abbrev rm_L_count : Room := { frames := 8, cells := 1, slots := 6, locals := 124 }
set_option maxRecDepth 20000 in
theorem lk_L_count_c13 : Cond.classLink RL 13 "java/lang/IndexOutOfBoundsException" ∈ wsL_count := by decide +kernel
set_option maxRecDepth 100000 in
set_option maxHeartbeats 4000000 in
theorem c_L_count {Γ : k_Pm} {l : Launch} (hl0 : l.stackTraces = false) {x1 : Int32} {g g2 : Gt} {k : Nat} {r kw : Int32} {o : Nat} {cJ : ClassId} {lo : Nat → Int64} (h : f_X4_count x1 g = some (k, r, g2)) (hk : (k = 0 ∧ kw = 0) ∨ (k = 1 ∧ kw = 1)) : k_CW Γ l yL_count wsL_count rm_L_count [.ref (k_ad Γ 0 (0)), .int (x1), .ref o] g o cJ lo kw (if k = 0 then vp_updL lo 0 r.toInt64 else lo) g2 := by
  intro sz
  refine va_MetW (cc := cL_count) (maxL := 4) (ret := (some .int)) (hh := [(0, 9, 12, 13)]) (by decide) rfl ?_
  intro p e s m args below meth c s₁ B hml hv
  obtain ⟨rfl, rfl, hP, hD, hJ, hKS⟩ := hv
  have hr := B.returns
  have hlocks := B.notSynchronized
  have hC : k_C Γ (k_AL Γ o s.heap.size) p l s m _ c cL_count 4 wsL_count RL := k_C.ofL ⟨B.exec, B.bytes, hml, findClass_of_methodNamed B.named, atoms_spec (ws := wsL_count) B.pre⟩ hKS hD hl0
  have hw : k_St Γ (k_AL Γ o s.heap.size) s (k_Lo o cJ lo) g s.heap [] := k_St.ofL hP hD
  have htab : c.exceptionTable.toList = tableOf [(0, 9, 12, 13)] := vx_table (x := yL_count) B (atoms_spec (ws := wsL_count) B.pre _ List.mem_cons_self)
  have hl := lv_entry ([.ref (k_ad Γ 0 (0)), .int (x1), .ref o] : List Value) (n := 4) (Nat.le_of_ble_eq_true rfl)
  rw [lg_entry_eq]
  generalize (lg_sl ([.ref (k_ad Γ 0 (0)), .int (x1), .ref o] : List Value) ++ List.replicate (4 - (lg_sl ([.ref (k_ad Γ 0 (0)), .int (x1), .ref o] : List Value)).length) Slot.unset).toArray = ls at hl ⊢
  have hl : lv_has ls 4 [(0, .ref (k_ad Γ 0 (0))), (1, .int (x1)), (2, .ref o)] := hl
  change W p l e rm_L_count _ _ _ _ _ _ _ _ _ _ _ _
  refine lv_aload_n hC.x hC.b dL_count_0 rfl (lv_at hl 2 rfl) ?_
  refine lv_iconst (v := 0) hC.x hC.b dL_count_1 (by decide) ?_
  refine lv_aload_n hC.x hC.b dL_count_2 rfl (lv_at hl 0 rfl) ?_
  refine lv_iload_n hC.x hC.b dL_count_3 rfl (lv_at hl 1 rfl) ?_
  refine x_goxi hC hw (x_runxV hC hw (c_X4_count (Γ := Γ) (l := l) hC.2.2.2.2 h) (cwV 1 hC.t gL_count_X4_count rfl rfl rfl (by decide +kernel) ⟨Nat.le_of_ble_eq_true rfl, Nat.le_of_ble_eq_true rfl⟩) (As := [.int (x1)]) (by decide) (k_E0 _ _ _) rfl rfl rfl hl.1 (Nat.le_of_ble_eq_true rfl) dL_count_4 ⟨by decide, by decide⟩) (fun E ce q9 H locs hk0 hE hw hce hcv hcl => ?_) (fun hk0 H locs hw => ?_)
  · rcases hk with ⟨hk1, hk2⟩ | ⟨hk1, hk2⟩
    · exact absurd hk1 hk0
    · subst hk1; subst hk2
      have hcl : s.vm.findClass "java/lang/IndexOutOfBoundsException" = some ce.cls := by rw [hE] at hcl; exact hcl
      refine x_catch (E := "java/lang/IndexOutOfBoundsException") hC [] (0, 9, 12, 13) [] htab (by decide) (by decide) (fun z hz => absurd hz List.not_mem_nil) lk_L_count_c13 (by decide +kernel) hce hcv hcl ?_
      refine lv_astore_n (lv' := [(3, .ref q9), (0, .ref (k_ad Γ 0 (0))), (1, .int (x1)), (2, .ref o)]) hC.x hC.b dL_count_12 rfl hl (by decide) rfl (fun ls hl => ?_)
      refine lv_iconst (v := 1) hC.x hC.b dL_count_13 (by decide) ?_
      exact x_wret hC hw hr hlocks (by decide) (by decide) dL_count_14
  · rcases hk with ⟨hk1, hk2⟩ | ⟨hk1, hk2⟩
    · subst hk1; subst hk2
      refine lv_i2l hC.x hC.b dL_count_7 rfl ?_
      refine x_last hC hw hJ dL_count_8 (fun H locs hw => ?_)
      refine lv_goto (tgt := 15) hC.x hC.b dL_count_9 (by decide) ?_
      refine lv_iconst (v := 0) hC.x hC.b dL_count_15 (by decide) ?_
      exact x_wret hC hw hr hlocks (by decide) (by decide) dL_count_16
    · exact absurd (hk0.symm.trans hk1) (by decide)
abbrev rm_L_fades : Room := { frames := 8, cells := 2, slots := 12, locals := 125 }
set_option maxRecDepth 20000 in
theorem lk_L_fades_c13 : Cond.classLink RL 13 "java/lang/IndexOutOfBoundsException" ∈ wsL_fades := by decide +kernel
set_option maxRecDepth 20000 in
theorem lk_L_fades_c15 : Cond.classLink RL 15 "java/lang/IllegalArgumentException" ∈ wsL_fades := by decide +kernel
set_option maxRecDepth 100000 in
set_option maxHeartbeats 4000000 in
theorem c_L_fades {Γ : k_Pm} {l : Launch} (hl0 : l.stackTraces = false) {x1 : Int32} {x2 : Int32} {g g2 : Gt} {k : Nat} {r kw : Int32} {o : Nat} {cJ : ClassId} {lo : Nat → Int64} (h : f_X4_fades x1 x2 g = some (k, r, g2)) (hk : (k = 0 ∧ kw = 0) ∨ (k = 1 ∧ kw = 1) ∨ (k = 2 ∧ kw = 2)) : k_CW Γ l yL_fades wsL_fades rm_L_fades [.ref (k_ad Γ 0 (0)), .int (x1), .int (x2), .ref o] g o cJ lo kw (if k = 0 then vp_updL lo 0 r.toInt64 else lo) g2 := by
  intro sz
  refine va_MetW (cc := cL_fades) (maxL := 5) (ret := (some .int)) (hh := [(0, 10, 13, 13), (0, 10, 17, 15)]) (by decide) rfl ?_
  intro p e s m args below meth c s₁ B hml hv
  obtain ⟨rfl, rfl, hP, hD, hJ, hKS⟩ := hv
  have hr := B.returns
  have hlocks := B.notSynchronized
  have hC : k_C Γ (k_AL Γ o s.heap.size) p l s m _ c cL_fades 5 wsL_fades RL := k_C.ofL ⟨B.exec, B.bytes, hml, findClass_of_methodNamed B.named, atoms_spec (ws := wsL_fades) B.pre⟩ hKS hD hl0
  have hw : k_St Γ (k_AL Γ o s.heap.size) s (k_Lo o cJ lo) g s.heap [] := k_St.ofL hP hD
  have htab : c.exceptionTable.toList = tableOf [(0, 10, 13, 13), (0, 10, 17, 15)] := vx_table (x := yL_fades) B (atoms_spec (ws := wsL_fades) B.pre _ List.mem_cons_self)
  have hl := lv_entry ([.ref (k_ad Γ 0 (0)), .int (x1), .int (x2), .ref o] : List Value) (n := 5) (Nat.le_of_ble_eq_true rfl)
  rw [lg_entry_eq]
  generalize (lg_sl ([.ref (k_ad Γ 0 (0)), .int (x1), .int (x2), .ref o] : List Value) ++ List.replicate (5 - (lg_sl ([.ref (k_ad Γ 0 (0)), .int (x1), .int (x2), .ref o] : List Value)).length) Slot.unset).toArray = ls at hl ⊢
  have hl : lv_has ls 5 [(0, .ref (k_ad Γ 0 (0))), (1, .int (x1)), (2, .int (x2)), (3, .ref o)] := hl
  change W p l e rm_L_fades _ _ _ _ _ _ _ _ _ _ _ _
  refine lv_aload_n hC.x hC.b dL_fades_0 rfl (lv_at hl 3 rfl) ?_
  refine lv_iconst (v := 0) hC.x hC.b dL_fades_1 (by decide) ?_
  refine lv_aload_n hC.x hC.b dL_fades_2 rfl (lv_at hl 0 rfl) ?_
  refine lv_iload_n hC.x hC.b dL_fades_3 rfl (lv_at hl 1 rfl) ?_
  refine lv_iload_n hC.x hC.b dL_fades_4 rfl (lv_at hl 2 rfl) ?_
  refine x_goxi hC hw (x_runxV hC hw (c_X4_fades (Γ := Γ) (l := l) hC.2.2.2.2 h) (cwV 2 hC.t gL_fades_X4_fades rfl rfl rfl (by decide +kernel) ⟨Nat.le_of_ble_eq_true rfl, Nat.le_of_ble_eq_true rfl⟩) (As := [.int (x1), .int (x2)]) (by decide) (k_E0 _ _ _) rfl rfl rfl hl.1 (Nat.le_of_ble_eq_true rfl) dL_fades_5 ⟨by decide, by decide⟩) (fun E ce q9 H locs hk0 hE hw hce hcv hcl => ?_) (fun hk0 H locs hw => ?_)
  · rcases hk with ⟨hk1, hk2⟩ | ⟨hk1, hk2⟩ | ⟨hk1, hk2⟩
    · exact absurd hk1 hk0
    · subst hk1; subst hk2
      have hcl : s.vm.findClass "java/lang/IndexOutOfBoundsException" = some ce.cls := by rw [hE] at hcl; exact hcl
      refine x_catch (E := "java/lang/IndexOutOfBoundsException") hC [] (0, 10, 13, 13) [(0, 10, 17, 15)] htab (by decide) (by decide) (fun z hz => absurd hz List.not_mem_nil) lk_L_fades_c13 (by decide +kernel) hce hcv hcl ?_
      refine lv_astore (lv' := [(4, .ref q9), (0, .ref (k_ad Γ 0 (0))), (1, .int (x1)), (2, .int (x2)), (3, .ref o)]) hC.x hC.b dL_fades_13 hl (by decide) rfl (fun ls hl => ?_)
      refine lv_iconst (v := 1) hC.x hC.b dL_fades_15 (by decide) ?_
      exact x_wret hC hw hr hlocks (by decide) (by decide) dL_fades_16
    · subst hk1; subst hk2
      have hcl : s.vm.findClass "java/lang/IllegalArgumentException" = some ce.cls := by rw [hE] at hcl; exact hcl
      refine x_catch (E := "java/lang/IllegalArgumentException") hC [(0, 10, 13, 13)] (0, 10, 17, 15) [] htab (by decide) (by decide) (by intro z hz; simp only [List.mem_cons, List.not_mem_nil, or_false] at hz; rcases hz with rfl <;> first | exact ⟨by decide, _, lk_L_fades_c13, by decide +kernel⟩) lk_L_fades_c15 (by decide +kernel) hce hcv hcl ?_
      refine lv_astore (lv' := [(4, .ref q9), (0, .ref (k_ad Γ 0 (0))), (1, .int (x1)), (2, .int (x2)), (3, .ref o)]) hC.x hC.b dL_fades_17 hl (by decide) rfl (fun ls hl => ?_)
      refine lv_iconst (v := 2) hC.x hC.b dL_fades_19 (by decide) ?_
      exact x_wret hC hw hr hlocks (by decide) (by decide) dL_fades_20
  · rcases hk with ⟨hk1, hk2⟩ | ⟨hk1, hk2⟩ | ⟨hk1, hk2⟩
    · subst hk1; subst hk2
      refine lv_i2l hC.x hC.b dL_fades_8 rfl ?_
      refine x_last hC hw hJ dL_fades_9 (fun H locs hw => ?_)
      refine lv_goto (tgt := 21) hC.x hC.b dL_fades_10 (by decide) ?_
      refine lv_iconst (v := 0) hC.x hC.b dL_fades_21 (by decide) ?_
      exact x_wret hC hw hr hlocks (by decide) (by decide) dL_fades_22
    · exact absurd (hk0.symm.trans hk1) (by decide)
    · exact absurd (hk0.symm.trans hk1) (by decide)
abbrev rm_L_amends : Room := { frames := 8, cells := 1, slots := 6, locals := 125 }
set_option maxRecDepth 20000 in
theorem lk_L_amends_c13 : Cond.classLink RL 13 "java/lang/IndexOutOfBoundsException" ∈ wsL_amends := by decide +kernel
set_option maxRecDepth 100000 in
set_option maxHeartbeats 4000000 in
theorem c_L_amends {Γ : k_Pm} {l : Launch} (hl0 : l.stackTraces = false) {x1 : Int32} {g g2 : Gt} {k : Nat} {r kw : Int32} {o : Nat} {cJ : ClassId} {lo : Nat → Int64} (h : f_X4_amends x1 g = some (k, r, g2)) (hk : (k = 0 ∧ kw = 0) ∨ (k = 1 ∧ kw = 1)) : k_CW Γ l yL_amends wsL_amends rm_L_amends [.ref (k_ad Γ 0 (0)), .int (x1), .ref o] g o cJ lo kw (if k = 0 then vp_updL lo 0 r.toInt64 else lo) g2 := by
  intro sz
  refine va_MetW (cc := cL_amends) (maxL := 4) (ret := (some .int)) (hh := [(0, 9, 12, 13)]) (by decide) rfl ?_
  intro p e s m args below meth c s₁ B hml hv
  obtain ⟨rfl, rfl, hP, hD, hJ, hKS⟩ := hv
  have hr := B.returns
  have hlocks := B.notSynchronized
  have hC : k_C Γ (k_AL Γ o s.heap.size) p l s m _ c cL_amends 4 wsL_amends RL := k_C.ofL ⟨B.exec, B.bytes, hml, findClass_of_methodNamed B.named, atoms_spec (ws := wsL_amends) B.pre⟩ hKS hD hl0
  have hw : k_St Γ (k_AL Γ o s.heap.size) s (k_Lo o cJ lo) g s.heap [] := k_St.ofL hP hD
  have htab : c.exceptionTable.toList = tableOf [(0, 9, 12, 13)] := vx_table (x := yL_amends) B (atoms_spec (ws := wsL_amends) B.pre _ List.mem_cons_self)
  have hl := lv_entry ([.ref (k_ad Γ 0 (0)), .int (x1), .ref o] : List Value) (n := 4) (Nat.le_of_ble_eq_true rfl)
  rw [lg_entry_eq]
  generalize (lg_sl ([.ref (k_ad Γ 0 (0)), .int (x1), .ref o] : List Value) ++ List.replicate (4 - (lg_sl ([.ref (k_ad Γ 0 (0)), .int (x1), .ref o] : List Value)).length) Slot.unset).toArray = ls at hl ⊢
  have hl : lv_has ls 4 [(0, .ref (k_ad Γ 0 (0))), (1, .int (x1)), (2, .ref o)] := hl
  change W p l e rm_L_amends _ _ _ _ _ _ _ _ _ _ _ _
  refine lv_aload_n hC.x hC.b dL_amends_0 rfl (lv_at hl 2 rfl) ?_
  refine lv_iconst (v := 0) hC.x hC.b dL_amends_1 (by decide) ?_
  refine lv_aload_n hC.x hC.b dL_amends_2 rfl (lv_at hl 0 rfl) ?_
  refine lv_iload_n hC.x hC.b dL_amends_3 rfl (lv_at hl 1 rfl) ?_
  refine x_goxi hC hw (x_runxV hC hw (c_X4_amends (Γ := Γ) (l := l) hC.2.2.2.2 h) (cwV 1 hC.t gL_amends_X4_amends rfl rfl rfl (by decide +kernel) ⟨Nat.le_of_ble_eq_true rfl, Nat.le_of_ble_eq_true rfl⟩) (As := [.int (x1)]) (by decide) (k_E0 _ _ _) rfl rfl rfl hl.1 (Nat.le_of_ble_eq_true rfl) dL_amends_4 ⟨by decide, by decide⟩) (fun E ce q9 H locs hk0 hE hw hce hcv hcl => ?_) (fun hk0 H locs hw => ?_)
  · rcases hk with ⟨hk1, hk2⟩ | ⟨hk1, hk2⟩
    · exact absurd hk1 hk0
    · subst hk1; subst hk2
      have hcl : s.vm.findClass "java/lang/IndexOutOfBoundsException" = some ce.cls := by rw [hE] at hcl; exact hcl
      refine x_catch (E := "java/lang/IndexOutOfBoundsException") hC [] (0, 9, 12, 13) [] htab (by decide) (by decide) (fun z hz => absurd hz List.not_mem_nil) lk_L_amends_c13 (by decide +kernel) hce hcv hcl ?_
      refine lv_astore_n (lv' := [(3, .ref q9), (0, .ref (k_ad Γ 0 (0))), (1, .int (x1)), (2, .ref o)]) hC.x hC.b dL_amends_12 rfl hl (by decide) rfl (fun ls hl => ?_)
      refine lv_iconst (v := 1) hC.x hC.b dL_amends_13 (by decide) ?_
      exact x_wret hC hw hr hlocks (by decide) (by decide) dL_amends_14
  · rcases hk with ⟨hk1, hk2⟩ | ⟨hk1, hk2⟩
    · subst hk1; subst hk2
      refine lv_i2l hC.x hC.b dL_amends_7 rfl ?_
      refine x_last hC hw hJ dL_amends_8 (fun H locs hw => ?_)
      refine lv_goto (tgt := 15) hC.x hC.b dL_amends_9 (by decide) ?_
      refine lv_iconst (v := 0) hC.x hC.b dL_amends_15 (by decide) ?_
      exact x_wret hC hw hr hlocks (by decide) (by decide) dL_amends_16
    · exact absurd (hk0.symm.trans hk1) (by decide)
