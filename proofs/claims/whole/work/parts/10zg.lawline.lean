/-! line, in the law -/
abbrev rm_L_line : Room := { frames := 9, cells := 3, slots := 26, locals := 204 }
set_option maxRecDepth 20000 in
theorem lk_L_line_c13 : Cond.classLink RL 13 "java/lang/IndexOutOfBoundsException" ∈ wsL_line := by decide +kernel
set_option maxRecDepth 100000 in
set_option maxHeartbeats 4000000 in
theorem c_L_line {Γ : k_Pm} {l : Launch} (hl0 : l.stackTraces = false) {x1 : Int32} {g g2 : Gt} {k : Nat} {r kw : Int32} {o : Nat} {cJ : ClassId} {lo : Nat → Int64} (h : f_X4_line x1 g = some (k, r, g2)) (hk : (k = 0 ∧ kw = 0) ∨ (k = 1 ∧ kw = 1)) : k_CW Γ l yL_line wsL_line rm_L_line [.ref (k_ad Γ 0 (0)), .int (x1), .ref o] g o cJ lo kw (if k = 0 then vp_updL lo 0 r.toInt64 else lo) g2 := by
  intro sz
  refine va_MetW (cc := cL_line) (maxL := 4) (ret := (some .int)) (hh := [(0, 9, 12, 13)]) (by decide) rfl ?_
  intro p e s m args below meth c s₁ B hml hv
  obtain ⟨rfl, rfl, hP, hD, hJ, hKS⟩ := hv
  have hr := B.returns
  have hlocks := B.notSynchronized
  have hC : k_C Γ (k_AL Γ o s.heap.size) p l s m _ c cL_line 4 wsL_line RL := k_C.ofL ⟨B.exec, B.bytes, hml, findClass_of_methodNamed B.named, atoms_spec (ws := wsL_line) B.pre⟩ hKS hD hl0
  have hw : k_St Γ (k_AL Γ o s.heap.size) s (k_Lo o cJ lo) g s.heap [] := k_St.ofL hP hD
  have htab : c.exceptionTable.toList = tableOf [(0, 9, 12, 13)] := vx_table (x := yL_line) B (atoms_spec (ws := wsL_line) B.pre _ List.mem_cons_self)
  have hl := lv_entry ([.ref (k_ad Γ 0 (0)), .int (x1), .ref o] : List Value) (n := 4) (Nat.le_of_ble_eq_true rfl)
  rw [lg_entry_eq]
  generalize (lg_sl ([.ref (k_ad Γ 0 (0)), .int (x1), .ref o] : List Value) ++ List.replicate (4 - (lg_sl ([.ref (k_ad Γ 0 (0)), .int (x1), .ref o] : List Value)).length) Slot.unset).toArray = ls at hl ⊢
  have hl : lv_has ls 4 [(0, .ref (k_ad Γ 0 (0))), (1, .int (x1)), (2, .ref o)] := hl
  change W p l e rm_L_line _ _ _ _ _ _ _ _ _ _ _ _
  refine lv_aload_n hC.x hC.b dL_line_0 rfl (lv_at hl 2 rfl) ?_
  refine lv_iconst (v := 0) hC.x hC.b dL_line_1 (by decide) ?_
  refine lv_aload_n hC.x hC.b dL_line_2 rfl (lv_at hl 0 rfl) ?_
  refine lv_iload_n hC.x hC.b dL_line_3 rfl (lv_at hl 1 rfl) ?_
  refine x_goxi hC hw (x_runxV hC hw (c_X4_line (Γ := Γ) (l := l) hC.2.2.2.2 h) (cwV 1 hC.t gL_line_X4_line rfl rfl rfl (by decide +kernel) ⟨Nat.le_of_ble_eq_true rfl, Nat.le_of_ble_eq_true rfl⟩) (As := [.int (x1)]) (by decide) (k_E0 _ _ _) rfl rfl rfl hl.1 (Nat.le_of_ble_eq_true rfl) dL_line_4 ⟨by decide, by decide⟩) (fun E ce q9 H locs hk0 hE hw hce hcv hcl => ?_) (fun hk0 H locs hw => ?_)
  · rcases hk with ⟨hk1, hk2⟩ | ⟨hk1, hk2⟩
    · exact absurd hk1 hk0
    · subst hk1; subst hk2
      have hcl : s.vm.findClass "java/lang/IndexOutOfBoundsException" = some ce.cls := by rw [hE] at hcl; exact hcl
      refine x_catch (E := "java/lang/IndexOutOfBoundsException") hC [] (0, 9, 12, 13) [] htab (by decide) (by decide) (fun z hz => absurd hz List.not_mem_nil) lk_L_line_c13 (by decide +kernel) hce hcv hcl ?_
      refine lv_astore_n (lv' := [(3, .ref q9), (0, .ref (k_ad Γ 0 (0))), (1, .int (x1)), (2, .ref o)]) hC.x hC.b dL_line_12 rfl hl (by decide) rfl (fun ls hl => ?_)
      refine lv_iconst (v := 1) hC.x hC.b dL_line_13 (by decide) ?_
      exact x_wret hC hw hr hlocks (by decide) (by decide) dL_line_14
  · rcases hk with ⟨hk1, hk2⟩ | ⟨hk1, hk2⟩
    · subst hk1; subst hk2
      refine lv_i2l hC.x hC.b dL_line_7 rfl ?_
      refine x_last hC hw hJ dL_line_8 (fun H locs hw => ?_)
      refine lv_goto (tgt := 15) hC.x hC.b dL_line_9 (by decide) ?_
      refine lv_iconst (v := 0) hC.x hC.b dL_line_15 (by decide) ?_
      exact x_wret hC hw hr hlocks (by decide) (by decide) dL_line_16
    · exact absurd (hk0.symm.trans hk1) (by decide)
set_option maxRecDepth 100000 in
set_option maxHeartbeats 4000000 in
theorem lc_line {Γ : k_Pm} {p : Program} {l : Launch} {e : Env} {s : State} {m : MethodId} {below : List Frame} {meth : Method} {c : Code} {b L : Nat} {xs : Nat → Int32} {H : Heap} {locs : List Loc} {cells slots : Nat} {Q : State → Prop} {g : Gt} {ls : Array Slot} {o : Nat} {cJ : ClassId} {lo : Nat → Int64} {i Y : Nat} {Rel : Nat → Gt → Prop} (hC : k_C Γ (fun q => s.heap.size ≤ q) p l s m #[.ref b] c cL_law 9 wsL_law RL) (hJ : ArrOfT s cJ .long ∧ va_RA s cJ .long) (hX : va_X b L xs s s.heap) (hbl : b < s.heap.size) (hi : i + 4 < L) (hL : L ≤ 2560) (hw : k_St Γ (fun q => s.heap.size ≤ q) s (k_Lo o cJ lo) g H locs) (hl : lv_has ls 9 [(4, .int (nI i)), (3, .ref o), (2, .ref (k_ad Γ 5 0)), (1, .ref (k_ad Γ 0 0)), (0, .ref b)]) (hcs : cells + 1000 ≤ 635908 ∧ slots + 10000 ≤ 7188381) (hS : ∀ (x1 : Int32), Sim Rel Y (fun k kw => (k = 0 ∧ kw = 0) ∨ (k = 1 ∧ kw = 1)) (f_X4_line x1 g) (f_X5_line x1)) (kk : ∀ (g2 : Gt) (lo2 : Nat → Int64) (H1 : Heap) (locs1 : List Loc) (ls1 : Array Slot) (c2 s2 : Nat), c2 ≤ cells + 1000 → s2 ≤ slots + 10000 → Rel (Y + 50) g2 → k_St Γ (fun q => s.heap.size ≤ q) s (k_Lo o cJ lo2) g2 H1 locs1 → lv_has ls1 9 [(4, .int (nI i)), (3, .ref o), (2, .ref (k_ad Γ 5 0)), (1, .ref (k_ad Γ 0 0)), (0, .ref b)] → W p l e room_1 s m #[.ref b] below meth c H1 locs1 c2 s2 Q (F0 m 1296 ls1 [])) : W p l e room_1 s m #[.ref b] below meth c H locs cells slots Q (F0 m 1185 ls []) := by
  obtain ⟨k, r, g1, bb, g2, kw, hfx, hfm, hok, hth, hrb, hRel⟩ := hS (xs (nI i + (1 : Int32)).toNatClampNeg)
  refine lv_aload_n hC.x hC.b dL_law_1185 rfl (lv_at hl 3 rfl) ?_
  refine lv_aload_n hC.x hC.b dL_law_1186 rfl (lv_at hl 4 rfl) ?_
  refine lv_iload hC.x hC.b dL_law_1187 (lv_at hl 0 rfl) ?_
  refine lv_iconst (v := (1 : Int32)) hC.x hC.b dL_law_1189 (by decide) ?_
  refine lv_iadd hC.x hC.b dL_law_1190 ?_
  refine va_sld hC.x hC.b hX hbl (Nat.not_le.mpr hbl) hw.2.2 (k_vi (j := 1) (by omega) (by omega)) dL_law_1191 ?_
  refine lv_aload_n hC.x hC.b dL_law_1192 rfl (lv_at hl 1 rfl) ?_
  refine x_goL hC hw (x_runL hC hw hJ (c_L_line (Γ := Γ) (l := l) hC.2.2.2.2 (lo := lo) hfx hok) (vx_cwSW 3 hC.t gL_law_L_line rfl rfl rfl (by decide +kernel) ⟨Nat.le_of_ble_eq_true rfl, Nat.le_of_ble_eq_true rfl⟩) (As := [.ref (k_ad Γ 0 0), .int (xs (nI i + (1 : Int32)).toNatClampNeg), .ref o]) rfl hl.1 (Nat.le_of_ble_eq_true rfl) dL_law_1193 (by show cells + 3 ≤ 635908 ∧ slots + 26 ≤ 7188381; omega)) (fun H locs hw => ?_)
  refine lv_istore (lv' := [(5, .int kw), (4, .int (nI i)), (3, .ref o), (2, .ref (k_ad Γ 5 0)), (1, .ref (k_ad Γ 0 0)), (0, .ref b)]) hC.x hC.b dL_law_1196 hl (by decide) rfl (fun ls hl => ?_)
  refine lv_aload_n hC.x hC.b dL_law_1198 rfl (lv_at hl 3 rfl) ?_
  refine lv_aload_n hC.x hC.b dL_law_1199 rfl (lv_at hl 5 rfl) ?_
  refine lv_iload hC.x hC.b dL_law_1200 (lv_at hl 1 rfl) ?_
  refine lv_iconst (v := (1 : Int32)) hC.x hC.b dL_law_1202 (by decide) ?_
  refine lv_iadd hC.x hC.b dL_law_1203 ?_
  refine va_sld hC.x hC.b hX hbl (Nat.not_le.mpr hbl) hw.2.2 (k_vi (j := 1) (by omega) (by omega)) dL_law_1204 ?_
  refine x_goi hC hw (x_runV hC hw (c_X5_line (Γ := Γ) (l := l) hC.2.2.2.2 hfm) (cwV 1 hC.t gL_law_X5_line rfl rfl rfl (by decide +kernel) ⟨Nat.le_of_ble_eq_true rfl, Nat.le_of_ble_eq_true rfl⟩) (As := [.int (xs (nI i + (1 : Int32)).toNatClampNeg)]) (by decide) (k_E5 _ _ _) rfl rfl rfl hl.1 (Nat.le_of_ble_eq_true rfl) dL_law_1205 (by show cells + 3 + 4 ≤ 635908 ∧ slots + 26 + 44 ≤ 7188381; omega)) (fun H locs hw => ?_)
  refine lv_istore (lv' := [(6, .int bb), (5, .int kw), (4, .int (nI i)), (3, .ref o), (2, .ref (k_ad Γ 5 0)), (1, .ref (k_ad Γ 0 0)), (0, .ref b)]) hC.x hC.b dL_law_1208 hl (by decide) rfl (fun ls hl => ?_)
  refine lv_aload_n hC.x hC.b dL_law_1210 rfl (lv_at hl 4 rfl) ?_
  refine x_goi hC hw (x_runV hC hw (c_X5_thrown (Γ := Γ) (l := l) hC.2.2.2.2 (rfl : f_X5_thrown g2 = some (g2 5 0 0, g2))) (cwV 0 hC.t gL_law_X5_thrown rfl rfl rfl (by decide +kernel) ⟨Nat.le_of_ble_eq_true rfl, Nat.le_of_ble_eq_true rfl⟩) (As := []) (by decide) (k_E5 _ _ _) rfl rfl rfl hl.1 (Nat.le_of_ble_eq_true rfl) dL_law_1211 (by show cells + 3 + 4 + 0 ≤ 635908 ∧ slots + 26 + 44 + 0 ≤ 7188381; omega)) (fun H locs hw => ?_)
  refine lv_iload hC.x hC.b dL_law_1214 (lv_at hl 1 rfl) ?_
  refine lv_icmp_eq (tgt := 1221) hC.x hC.b dL_law_1216 (by decide) (fun _ => ?_) (fun hc => absurd hth hc)
  refine lv_iload hC.x hC.b dL_law_1221 (lv_at hl 1 rfl) ?_
  refine lv_if_ne (tgt := 1238) hC.x hC.b dL_law_1223 (by decide) (fun _ => ?_) (fun hk0 => ?_)
  · refine lv_goto (tgt := 1296) hC.x hC.b dL_law_1238 (by decide) ?_
    exact kk _ _ _ _ _ _ _ (by show cells + 3 + 4 + 0 ≤ _; omega) (by show slots + 26 + 44 + 0 ≤ _; omega) hRel hw (lv_sub hl [2, 3, 4, 5, 6] rfl)
  · have hk : k = 0 := by rcases hok with ⟨h1, h2⟩ | ⟨h1, h2⟩ <;> first | exact h1 | exact absurd (h2.symm.trans hk0) (by decide)
    have hlo : (if k = 0 then vp_updL lo 0 r.toInt64 else lo) 0 = bb.toInt64 := by rw [if_pos hk, hrb hk]; exact pk_uLs
    refine lv_aload_n hC.x hC.b dL_law_1226 rfl (lv_at hl 3 rfl) ?_
    refine lv_iconst (v := 0) hC.x hC.b dL_law_1227 (by decide) ?_
    refine x_lald hC hw hJ dL_law_1228 ?_
    refine lv_iload hC.x hC.b dL_law_1229 (lv_at hl 0 rfl) ?_
    refine lv_i2l hC.x hC.b dL_law_1231 rfl ?_
    refine W.lcmp hC.x hC.b dL_law_1232 ?_
    refine lv_if_eq (tgt := 1238) hC.x hC.b dL_law_1233 (by decide) (fun _ => ?_) (fun hc => absurd (k_cmp0 hlo) hc)
    refine lv_goto (tgt := 1296) hC.x hC.b dL_law_1238 (by decide) ?_
    exact kk _ _ _ _ _ _ _ (by show cells + 3 + 4 + 0 ≤ _; omega) (by show slots + 26 + 44 + 0 ≤ _; omega) hRel hw (lv_sub hl [2, 3, 4, 5, 6] rfl)
