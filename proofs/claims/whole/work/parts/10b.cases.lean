/-! written by wip/whole/genlaw2.py: the law's cases -/
set_option maxRecDepth 100000 in
set_option maxHeartbeats 4000000 in
theorem lc_hang {Γ : k_Pm} {p : Program} {l : Launch} {e : Env} {s : State} {m : MethodId} {below : List Frame} {meth : Method} {c : Code} {b L : Nat} {xs : Nat → Int32} {H : Heap} {locs : List Loc} {cells slots : Nat} {Q : State → Prop} {g : Gt} {ls : Array Slot} {o : Nat} {cJ : ClassId} {lo : Nat → Int64} {i Y : Nat} {Rel : Nat → Gt → Prop} (hC : k_C Γ (fun q => s.heap.size ≤ q) p l s m #[.ref b] c cL_law 9 wsL_law RL) (hJ : ArrOfT s cJ .long ∧ va_RA s cJ .long) (hX : va_X b L xs s s.heap) (hbl : b < s.heap.size) (hi : i + 4 < L) (hL : L ≤ 2560) (hw : k_St Γ (fun q => s.heap.size ≤ q) s (k_Lo o cJ lo) g H locs) (hl : lv_has ls 9 [(4, .int (nI i)), (3, .ref o), (2, .ref (k_ad Γ 5 0)), (1, .ref (k_ad Γ 0 0)), (0, .ref b)]) (hcs : cells + 1000 ≤ 635908 ∧ slots + 10000 ≤ 7188381) (hS : ∀ (x1 : Int32) (x2 : Int32), Sim Rel Y (fun k kw => (k = 0 ∧ kw = 0) ∨ (k = 1 ∧ kw = 1) ∨ (k = 2 ∧ kw = 2) ∨ (k = 3 ∧ kw = 3)) (f_X4_hang x1 x2 g) (f_X5_hang x1 x2)) (kk : ∀ (g2 : Gt) (lo2 : Nat → Int64) (H1 : Heap) (locs1 : List Loc) (ls1 : Array Slot) (c2 s2 : Nat), c2 ≤ cells + 1000 → s2 ≤ slots + 10000 → Rel (Y + 50) g2 → k_St Γ (fun q => s.heap.size ≤ q) s (k_Lo o cJ lo2) g2 H1 locs1 → lv_has ls1 9 [(4, .int (nI i)), (3, .ref o), (2, .ref (k_ad Γ 5 0)), (1, .ref (k_ad Γ 0 0)), (0, .ref b)] → W p l e room_1 s m #[.ref b] below meth c H1 locs1 c2 s2 Q (F0 m 1296 ls1 [])) : W p l e room_1 s m #[.ref b] below meth c H locs cells slots Q (F0 m 132 ls []) := by
  obtain ⟨k, r, g1, bb, g2, kw, hfx, hfm, hok, hth, hrb, hRel⟩ := hS (xs (nI i + (1 : Int32)).toNatClampNeg) (xs (nI i + (2 : Int32)).toNatClampNeg)
  refine lv_aload_n hC.x hC.b dL_law_132 rfl (lv_at hl 3 rfl) ?_
  refine lv_aload_n hC.x hC.b dL_law_133 rfl (lv_at hl 4 rfl) ?_
  refine lv_iload hC.x hC.b dL_law_134 (lv_at hl 0 rfl) ?_
  refine lv_iconst (v := (1 : Int32)) hC.x hC.b dL_law_136 (by decide) ?_
  refine lv_iadd hC.x hC.b dL_law_137 ?_
  refine va_sld hC.x hC.b hX hbl (Nat.not_le.mpr hbl) hw.2.2 (k_vi (j := 1) (by omega) (by omega)) dL_law_138 ?_
  refine lv_aload_n hC.x hC.b dL_law_139 rfl (lv_at hl 4 rfl) ?_
  refine lv_iload hC.x hC.b dL_law_140 (lv_at hl 0 rfl) ?_
  refine lv_iconst (v := (2 : Int32)) hC.x hC.b dL_law_142 (by decide) ?_
  refine lv_iadd hC.x hC.b dL_law_143 ?_
  refine va_sld hC.x hC.b hX hbl (Nat.not_le.mpr hbl) hw.2.2 (k_vi (j := 2) (by omega) (by omega)) dL_law_144 ?_
  refine lv_aload_n hC.x hC.b dL_law_145 rfl (lv_at hl 1 rfl) ?_
  refine x_goL hC hw (x_runL hC hw hJ (c_L_hang (Γ := Γ) (l := l) hC.2.2.2.2 (lo := lo) hfx hok) (vx_cwSW 4 hC.t gL_law_L_hang rfl rfl rfl (by decide +kernel) ⟨Nat.le_of_ble_eq_true rfl, Nat.le_of_ble_eq_true rfl⟩) (As := [.ref (k_ad Γ 0 0), .int (xs (nI i + (1 : Int32)).toNatClampNeg), .int (xs (nI i + (2 : Int32)).toNatClampNeg), .ref o]) rfl hl.1 (Nat.le_of_ble_eq_true rfl) dL_law_146 (by show cells + 2 ≤ 635908 ∧ slots + 12 ≤ 7188381; omega)) (fun H locs hw => ?_)
  refine lv_istore (lv' := [(5, .int kw), (4, .int (nI i)), (3, .ref o), (2, .ref (k_ad Γ 5 0)), (1, .ref (k_ad Γ 0 0)), (0, .ref b)]) hC.x hC.b dL_law_149 hl (by decide) rfl (fun ls hl => ?_)
  refine lv_aload_n hC.x hC.b dL_law_151 rfl (lv_at hl 3 rfl) ?_
  refine lv_aload_n hC.x hC.b dL_law_152 rfl (lv_at hl 5 rfl) ?_
  refine lv_iload hC.x hC.b dL_law_153 (lv_at hl 1 rfl) ?_
  refine lv_iconst (v := (1 : Int32)) hC.x hC.b dL_law_155 (by decide) ?_
  refine lv_iadd hC.x hC.b dL_law_156 ?_
  refine va_sld hC.x hC.b hX hbl (Nat.not_le.mpr hbl) hw.2.2 (k_vi (j := 1) (by omega) (by omega)) dL_law_157 ?_
  refine lv_aload_n hC.x hC.b dL_law_158 rfl (lv_at hl 5 rfl) ?_
  refine lv_iload hC.x hC.b dL_law_159 (lv_at hl 1 rfl) ?_
  refine lv_iconst (v := (2 : Int32)) hC.x hC.b dL_law_161 (by decide) ?_
  refine lv_iadd hC.x hC.b dL_law_162 ?_
  refine va_sld hC.x hC.b hX hbl (Nat.not_le.mpr hbl) hw.2.2 (k_vi (j := 2) (by omega) (by omega)) dL_law_163 ?_
  refine x_goi hC hw (x_runV hC hw (c_X5_hang (Γ := Γ) (l := l) hC.2.2.2.2 hfm) (cwV 2 hC.t gL_law_X5_hang rfl rfl rfl (by decide +kernel) ⟨Nat.le_of_ble_eq_true rfl, Nat.le_of_ble_eq_true rfl⟩) (As := [.int (xs (nI i + (1 : Int32)).toNatClampNeg), .int (xs (nI i + (2 : Int32)).toNatClampNeg)]) (by decide) (k_E5 _ _ _) rfl rfl rfl hl.1 (Nat.le_of_ble_eq_true rfl) dL_law_164 (by show cells + 2 + 0 ≤ 635908 ∧ slots + 12 + 0 ≤ 7188381; omega)) (fun H locs hw => ?_)
  refine lv_istore (lv' := [(6, .int bb), (5, .int kw), (4, .int (nI i)), (3, .ref o), (2, .ref (k_ad Γ 5 0)), (1, .ref (k_ad Γ 0 0)), (0, .ref b)]) hC.x hC.b dL_law_167 hl (by decide) rfl (fun ls hl => ?_)
  refine lv_aload_n hC.x hC.b dL_law_169 rfl (lv_at hl 4 rfl) ?_
  refine x_goi hC hw (x_runV hC hw (c_X5_thrown (Γ := Γ) (l := l) hC.2.2.2.2 (rfl : f_X5_thrown g2 = some (g2 5 0 0, g2))) (cwV 0 hC.t gL_law_X5_thrown rfl rfl rfl (by decide +kernel) ⟨Nat.le_of_ble_eq_true rfl, Nat.le_of_ble_eq_true rfl⟩) (As := []) (by decide) (k_E5 _ _ _) rfl rfl rfl hl.1 (Nat.le_of_ble_eq_true rfl) dL_law_170 (by show cells + 2 + 0 + 0 ≤ 635908 ∧ slots + 12 + 0 + 0 ≤ 7188381; omega)) (fun H locs hw => ?_)
  refine lv_iload hC.x hC.b dL_law_173 (lv_at hl 1 rfl) ?_
  refine lv_icmp_eq (tgt := 180) hC.x hC.b dL_law_175 (by decide) (fun _ => ?_) (fun hc => absurd hth hc)
  refine lv_iload hC.x hC.b dL_law_180 (lv_at hl 1 rfl) ?_
  refine lv_if_ne (tgt := 197) hC.x hC.b dL_law_182 (by decide) (fun _ => ?_) (fun hk0 => ?_)
  · refine lv_goto (tgt := 1296) hC.x hC.b dL_law_197 (by decide) ?_
    exact kk _ _ _ _ _ _ _ (by show cells + 2 + 0 + 0 ≤ _; omega) (by show slots + 12 + 0 + 0 ≤ _; omega) hRel hw (lv_sub hl [2, 3, 4, 5, 6] rfl)
  · have hk : k = 0 := by rcases hok with ⟨h1, h2⟩ | ⟨h1, h2⟩ | ⟨h1, h2⟩ | ⟨h1, h2⟩ <;> first | exact h1 | exact absurd (h2.symm.trans hk0) (by decide)
    have hlo : (if k = 0 then vp_updL lo 0 r.toInt64 else lo) 0 = bb.toInt64 := by rw [if_pos hk, hrb hk]; exact pk_uLs
    refine lv_aload_n hC.x hC.b dL_law_185 rfl (lv_at hl 3 rfl) ?_
    refine lv_iconst (v := 0) hC.x hC.b dL_law_186 (by decide) ?_
    refine x_lald hC hw hJ dL_law_187 ?_
    refine lv_iload hC.x hC.b dL_law_188 (lv_at hl 0 rfl) ?_
    refine lv_i2l hC.x hC.b dL_law_190 rfl ?_
    refine W.lcmp hC.x hC.b dL_law_191 ?_
    refine lv_if_eq (tgt := 197) hC.x hC.b dL_law_192 (by decide) (fun _ => ?_) (fun hc => absurd (k_cmp0 hlo) hc)
    refine lv_goto (tgt := 1296) hC.x hC.b dL_law_197 (by decide) ?_
    exact kk _ _ _ _ _ _ _ (by show cells + 2 + 0 + 0 ≤ _; omega) (by show slots + 12 + 0 + 0 ≤ _; omega) hRel hw (lv_sub hl [2, 3, 4, 5, 6] rfl)
set_option maxRecDepth 100000 in
set_option maxHeartbeats 4000000 in
theorem lc_tie {Γ : k_Pm} {p : Program} {l : Launch} {e : Env} {s : State} {m : MethodId} {below : List Frame} {meth : Method} {c : Code} {b L : Nat} {xs : Nat → Int32} {H : Heap} {locs : List Loc} {cells slots : Nat} {Q : State → Prop} {g : Gt} {ls : Array Slot} {o : Nat} {cJ : ClassId} {lo : Nat → Int64} {i Y : Nat} {Rel : Nat → Gt → Prop} (hC : k_C Γ (fun q => s.heap.size ≤ q) p l s m #[.ref b] c cL_law 9 wsL_law RL) (hJ : ArrOfT s cJ .long ∧ va_RA s cJ .long) (hX : va_X b L xs s s.heap) (hbl : b < s.heap.size) (hi : i + 4 < L) (hL : L ≤ 2560) (hw : k_St Γ (fun q => s.heap.size ≤ q) s (k_Lo o cJ lo) g H locs) (hl : lv_has ls 9 [(4, .int (nI i)), (3, .ref o), (2, .ref (k_ad Γ 5 0)), (1, .ref (k_ad Γ 0 0)), (0, .ref b)]) (hcs : cells + 1000 ≤ 635908 ∧ slots + 10000 ≤ 7188381) (hS : ∀ (x1 : Int32) (x2 : Int32), Sim Rel Y (fun k kw => (k = 0 ∧ kw = 0) ∨ (k = 1 ∧ kw = 1) ∨ (k = 2 ∧ kw = 2)) (f_X4_tie x1 x2 g) (f_X5_tie x1 x2)) (kk : ∀ (g2 : Gt) (lo2 : Nat → Int64) (H1 : Heap) (locs1 : List Loc) (ls1 : Array Slot) (c2 s2 : Nat), c2 ≤ cells + 1000 → s2 ≤ slots + 10000 → Rel (Y + 50) g2 → k_St Γ (fun q => s.heap.size ≤ q) s (k_Lo o cJ lo2) g2 H1 locs1 → lv_has ls1 9 [(4, .int (nI i)), (3, .ref o), (2, .ref (k_ad Γ 5 0)), (1, .ref (k_ad Γ 0 0)), (0, .ref b)] → W p l e room_1 s m #[.ref b] below meth c H1 locs1 c2 s2 Q (F0 m 1296 ls1 [])) : W p l e room_1 s m #[.ref b] below meth c H locs cells slots Q (F0 m 200 ls []) := by
  obtain ⟨k, r, g1, bb, g2, kw, hfx, hfm, hok, hth, hrb, hRel⟩ := hS (xs (nI i + (1 : Int32)).toNatClampNeg) (xs (nI i + (2 : Int32)).toNatClampNeg)
  refine lv_aload_n hC.x hC.b dL_law_200 rfl (lv_at hl 3 rfl) ?_
  refine lv_aload_n hC.x hC.b dL_law_201 rfl (lv_at hl 4 rfl) ?_
  refine lv_iload hC.x hC.b dL_law_202 (lv_at hl 0 rfl) ?_
  refine lv_iconst (v := (1 : Int32)) hC.x hC.b dL_law_204 (by decide) ?_
  refine lv_iadd hC.x hC.b dL_law_205 ?_
  refine va_sld hC.x hC.b hX hbl (Nat.not_le.mpr hbl) hw.2.2 (k_vi (j := 1) (by omega) (by omega)) dL_law_206 ?_
  refine lv_aload_n hC.x hC.b dL_law_207 rfl (lv_at hl 4 rfl) ?_
  refine lv_iload hC.x hC.b dL_law_208 (lv_at hl 0 rfl) ?_
  refine lv_iconst (v := (2 : Int32)) hC.x hC.b dL_law_210 (by decide) ?_
  refine lv_iadd hC.x hC.b dL_law_211 ?_
  refine va_sld hC.x hC.b hX hbl (Nat.not_le.mpr hbl) hw.2.2 (k_vi (j := 2) (by omega) (by omega)) dL_law_212 ?_
  refine lv_aload_n hC.x hC.b dL_law_213 rfl (lv_at hl 1 rfl) ?_
  refine x_goL hC hw (x_runL hC hw hJ (c_L_tie (Γ := Γ) (l := l) hC.2.2.2.2 (lo := lo) hfx hok) (vx_cwSW 4 hC.t gL_law_L_tie rfl rfl rfl (by decide +kernel) ⟨Nat.le_of_ble_eq_true rfl, Nat.le_of_ble_eq_true rfl⟩) (As := [.ref (k_ad Γ 0 0), .int (xs (nI i + (1 : Int32)).toNatClampNeg), .int (xs (nI i + (2 : Int32)).toNatClampNeg), .ref o]) rfl hl.1 (Nat.le_of_ble_eq_true rfl) dL_law_214 (by show cells + 2 ≤ 635908 ∧ slots + 12 ≤ 7188381; omega)) (fun H locs hw => ?_)
  refine lv_istore (lv' := [(5, .int kw), (4, .int (nI i)), (3, .ref o), (2, .ref (k_ad Γ 5 0)), (1, .ref (k_ad Γ 0 0)), (0, .ref b)]) hC.x hC.b dL_law_217 hl (by decide) rfl (fun ls hl => ?_)
  refine lv_aload_n hC.x hC.b dL_law_219 rfl (lv_at hl 3 rfl) ?_
  refine lv_aload_n hC.x hC.b dL_law_220 rfl (lv_at hl 5 rfl) ?_
  refine lv_iload hC.x hC.b dL_law_221 (lv_at hl 1 rfl) ?_
  refine lv_iconst (v := (1 : Int32)) hC.x hC.b dL_law_223 (by decide) ?_
  refine lv_iadd hC.x hC.b dL_law_224 ?_
  refine va_sld hC.x hC.b hX hbl (Nat.not_le.mpr hbl) hw.2.2 (k_vi (j := 1) (by omega) (by omega)) dL_law_225 ?_
  refine lv_aload_n hC.x hC.b dL_law_226 rfl (lv_at hl 5 rfl) ?_
  refine lv_iload hC.x hC.b dL_law_227 (lv_at hl 1 rfl) ?_
  refine lv_iconst (v := (2 : Int32)) hC.x hC.b dL_law_229 (by decide) ?_
  refine lv_iadd hC.x hC.b dL_law_230 ?_
  refine va_sld hC.x hC.b hX hbl (Nat.not_le.mpr hbl) hw.2.2 (k_vi (j := 2) (by omega) (by omega)) dL_law_231 ?_
  refine x_goi hC hw (x_runV hC hw (c_X5_tie (Γ := Γ) (l := l) hC.2.2.2.2 hfm) (cwV 2 hC.t gL_law_X5_tie rfl rfl rfl (by decide +kernel) ⟨Nat.le_of_ble_eq_true rfl, Nat.le_of_ble_eq_true rfl⟩) (As := [.int (xs (nI i + (1 : Int32)).toNatClampNeg), .int (xs (nI i + (2 : Int32)).toNatClampNeg)]) (by decide) (k_E5 _ _ _) rfl rfl rfl hl.1 (Nat.le_of_ble_eq_true rfl) dL_law_232 (by show cells + 2 + 0 ≤ 635908 ∧ slots + 12 + 0 ≤ 7188381; omega)) (fun H locs hw => ?_)
  refine lv_istore (lv' := [(6, .int bb), (5, .int kw), (4, .int (nI i)), (3, .ref o), (2, .ref (k_ad Γ 5 0)), (1, .ref (k_ad Γ 0 0)), (0, .ref b)]) hC.x hC.b dL_law_235 hl (by decide) rfl (fun ls hl => ?_)
  refine lv_aload_n hC.x hC.b dL_law_237 rfl (lv_at hl 4 rfl) ?_
  refine x_goi hC hw (x_runV hC hw (c_X5_thrown (Γ := Γ) (l := l) hC.2.2.2.2 (rfl : f_X5_thrown g2 = some (g2 5 0 0, g2))) (cwV 0 hC.t gL_law_X5_thrown rfl rfl rfl (by decide +kernel) ⟨Nat.le_of_ble_eq_true rfl, Nat.le_of_ble_eq_true rfl⟩) (As := []) (by decide) (k_E5 _ _ _) rfl rfl rfl hl.1 (Nat.le_of_ble_eq_true rfl) dL_law_238 (by show cells + 2 + 0 + 0 ≤ 635908 ∧ slots + 12 + 0 + 0 ≤ 7188381; omega)) (fun H locs hw => ?_)
  refine lv_iload hC.x hC.b dL_law_241 (lv_at hl 1 rfl) ?_
  refine lv_icmp_eq (tgt := 248) hC.x hC.b dL_law_243 (by decide) (fun _ => ?_) (fun hc => absurd hth hc)
  refine lv_iload hC.x hC.b dL_law_248 (lv_at hl 1 rfl) ?_
  refine lv_if_ne (tgt := 265) hC.x hC.b dL_law_250 (by decide) (fun _ => ?_) (fun hk0 => ?_)
  · refine lv_goto (tgt := 1296) hC.x hC.b dL_law_265 (by decide) ?_
    exact kk _ _ _ _ _ _ _ (by show cells + 2 + 0 + 0 ≤ _; omega) (by show slots + 12 + 0 + 0 ≤ _; omega) hRel hw (lv_sub hl [2, 3, 4, 5, 6] rfl)
  · have hk : k = 0 := by rcases hok with ⟨h1, h2⟩ | ⟨h1, h2⟩ | ⟨h1, h2⟩ <;> first | exact h1 | exact absurd (h2.symm.trans hk0) (by decide)
    have hlo : (if k = 0 then vp_updL lo 0 r.toInt64 else lo) 0 = bb.toInt64 := by rw [if_pos hk, hrb hk]; exact pk_uLs
    refine lv_aload_n hC.x hC.b dL_law_253 rfl (lv_at hl 3 rfl) ?_
    refine lv_iconst (v := 0) hC.x hC.b dL_law_254 (by decide) ?_
    refine x_lald hC hw hJ dL_law_255 ?_
    refine lv_iload hC.x hC.b dL_law_256 (lv_at hl 0 rfl) ?_
    refine lv_i2l hC.x hC.b dL_law_258 rfl ?_
    refine W.lcmp hC.x hC.b dL_law_259 ?_
    refine lv_if_eq (tgt := 265) hC.x hC.b dL_law_260 (by decide) (fun _ => ?_) (fun hc => absurd (k_cmp0 hlo) hc)
    refine lv_goto (tgt := 1296) hC.x hC.b dL_law_265 (by decide) ?_
    exact kk _ _ _ _ _ _ _ (by show cells + 2 + 0 + 0 ≤ _; omega) (by show slots + 12 + 0 + 0 ≤ _; omega) hRel hw (lv_sub hl [2, 3, 4, 5, 6] rfl)
set_option maxRecDepth 100000 in
set_option maxHeartbeats 4000000 in
theorem lc_untie {Γ : k_Pm} {p : Program} {l : Launch} {e : Env} {s : State} {m : MethodId} {below : List Frame} {meth : Method} {c : Code} {b L : Nat} {xs : Nat → Int32} {H : Heap} {locs : List Loc} {cells slots : Nat} {Q : State → Prop} {g : Gt} {ls : Array Slot} {o : Nat} {cJ : ClassId} {lo : Nat → Int64} {i Y : Nat} {Rel : Nat → Gt → Prop} (hC : k_C Γ (fun q => s.heap.size ≤ q) p l s m #[.ref b] c cL_law 9 wsL_law RL) (hJ : ArrOfT s cJ .long ∧ va_RA s cJ .long) (hX : va_X b L xs s s.heap) (hbl : b < s.heap.size) (hi : i + 4 < L) (hL : L ≤ 2560) (hw : k_St Γ (fun q => s.heap.size ≤ q) s (k_Lo o cJ lo) g H locs) (hl : lv_has ls 9 [(4, .int (nI i)), (3, .ref o), (2, .ref (k_ad Γ 5 0)), (1, .ref (k_ad Γ 0 0)), (0, .ref b)]) (hcs : cells + 1000 ≤ 635908 ∧ slots + 10000 ≤ 7188381) (hS : ∀ (x1 : Int32) (x2 : Int32) (x3 : Int32) (x4 : Int32), Sim Rel Y (fun k kw => (k = 0 ∧ kw = 0) ∨ (k = 1 ∧ kw = 1) ∨ (k = 2 ∧ kw = 2) ∨ (k = 3 ∧ kw = 3)) (f_X4_untie x1 x2 x3 x4 g) (f_X5_untie x1 x2 x3 x4)) (kk : ∀ (g2 : Gt) (lo2 : Nat → Int64) (H1 : Heap) (locs1 : List Loc) (ls1 : Array Slot) (c2 s2 : Nat), c2 ≤ cells + 1000 → s2 ≤ slots + 10000 → Rel (Y + 50) g2 → k_St Γ (fun q => s.heap.size ≤ q) s (k_Lo o cJ lo2) g2 H1 locs1 → lv_has ls1 9 [(4, .int (nI i)), (3, .ref o), (2, .ref (k_ad Γ 5 0)), (1, .ref (k_ad Γ 0 0)), (0, .ref b)] → W p l e room_1 s m #[.ref b] below meth c H1 locs1 c2 s2 Q (F0 m 1296 ls1 [])) : W p l e room_1 s m #[.ref b] below meth c H locs cells slots Q (F0 m 268 ls []) := by
  obtain ⟨k, r, g1, bb, g2, kw, hfx, hfm, hok, hth, hrb, hRel⟩ := hS (xs (nI i + (1 : Int32)).toNatClampNeg) (xs (nI i + (2 : Int32)).toNatClampNeg) (xs (nI i + (3 : Int32)).toNatClampNeg) (xs (nI i + (4 : Int32)).toNatClampNeg)
  refine lv_aload_n hC.x hC.b dL_law_268 rfl (lv_at hl 3 rfl) ?_
  refine lv_aload_n hC.x hC.b dL_law_269 rfl (lv_at hl 4 rfl) ?_
  refine lv_iload hC.x hC.b dL_law_270 (lv_at hl 0 rfl) ?_
  refine lv_iconst (v := (1 : Int32)) hC.x hC.b dL_law_272 (by decide) ?_
  refine lv_iadd hC.x hC.b dL_law_273 ?_
  refine va_sld hC.x hC.b hX hbl (Nat.not_le.mpr hbl) hw.2.2 (k_vi (j := 1) (by omega) (by omega)) dL_law_274 ?_
  refine lv_aload_n hC.x hC.b dL_law_275 rfl (lv_at hl 4 rfl) ?_
  refine lv_iload hC.x hC.b dL_law_276 (lv_at hl 0 rfl) ?_
  refine lv_iconst (v := (2 : Int32)) hC.x hC.b dL_law_278 (by decide) ?_
  refine lv_iadd hC.x hC.b dL_law_279 ?_
  refine va_sld hC.x hC.b hX hbl (Nat.not_le.mpr hbl) hw.2.2 (k_vi (j := 2) (by omega) (by omega)) dL_law_280 ?_
  refine lv_aload_n hC.x hC.b dL_law_281 rfl (lv_at hl 4 rfl) ?_
  refine lv_iload hC.x hC.b dL_law_282 (lv_at hl 0 rfl) ?_
  refine lv_iconst (v := (3 : Int32)) hC.x hC.b dL_law_284 (by decide) ?_
  refine lv_iadd hC.x hC.b dL_law_285 ?_
  refine va_sld hC.x hC.b hX hbl (Nat.not_le.mpr hbl) hw.2.2 (k_vi (j := 3) (by omega) (by omega)) dL_law_286 ?_
  refine lv_aload_n hC.x hC.b dL_law_287 rfl (lv_at hl 4 rfl) ?_
  refine lv_iload hC.x hC.b dL_law_288 (lv_at hl 0 rfl) ?_
  refine lv_iconst (v := (4 : Int32)) hC.x hC.b dL_law_290 (by decide) ?_
  refine lv_iadd hC.x hC.b dL_law_291 ?_
  refine va_sld hC.x hC.b hX hbl (Nat.not_le.mpr hbl) hw.2.2 (k_vi (j := 4) (by omega) (by omega)) dL_law_292 ?_
  refine lv_aload_n hC.x hC.b dL_law_293 rfl (lv_at hl 1 rfl) ?_
  refine x_goL hC hw (x_runL hC hw hJ (c_L_untie (Γ := Γ) (l := l) hC.2.2.2.2 (lo := lo) hfx hok) (vx_cwSW 6 hC.t gL_law_L_untie rfl rfl rfl (by decide +kernel) ⟨Nat.le_of_ble_eq_true rfl, Nat.le_of_ble_eq_true rfl⟩) (As := [.ref (k_ad Γ 0 0), .int (xs (nI i + (1 : Int32)).toNatClampNeg), .int (xs (nI i + (2 : Int32)).toNatClampNeg), .int (xs (nI i + (3 : Int32)).toNatClampNeg), .int (xs (nI i + (4 : Int32)).toNatClampNeg), .ref o]) rfl hl.1 (Nat.le_of_ble_eq_true rfl) dL_law_294 (by show cells + 4 ≤ 635908 ∧ slots + 24 ≤ 7188381; omega)) (fun H locs hw => ?_)
  refine lv_istore (lv' := [(5, .int kw), (4, .int (nI i)), (3, .ref o), (2, .ref (k_ad Γ 5 0)), (1, .ref (k_ad Γ 0 0)), (0, .ref b)]) hC.x hC.b dL_law_297 hl (by decide) rfl (fun ls hl => ?_)
  refine lv_aload_n hC.x hC.b dL_law_299 rfl (lv_at hl 3 rfl) ?_
  refine lv_aload_n hC.x hC.b dL_law_300 rfl (lv_at hl 5 rfl) ?_
  refine lv_iload hC.x hC.b dL_law_301 (lv_at hl 1 rfl) ?_
  refine lv_iconst (v := (1 : Int32)) hC.x hC.b dL_law_303 (by decide) ?_
  refine lv_iadd hC.x hC.b dL_law_304 ?_
  refine va_sld hC.x hC.b hX hbl (Nat.not_le.mpr hbl) hw.2.2 (k_vi (j := 1) (by omega) (by omega)) dL_law_305 ?_
  refine lv_aload_n hC.x hC.b dL_law_306 rfl (lv_at hl 5 rfl) ?_
  refine lv_iload hC.x hC.b dL_law_307 (lv_at hl 1 rfl) ?_
  refine lv_iconst (v := (2 : Int32)) hC.x hC.b dL_law_309 (by decide) ?_
  refine lv_iadd hC.x hC.b dL_law_310 ?_
  refine va_sld hC.x hC.b hX hbl (Nat.not_le.mpr hbl) hw.2.2 (k_vi (j := 2) (by omega) (by omega)) dL_law_311 ?_
  refine lv_aload_n hC.x hC.b dL_law_312 rfl (lv_at hl 5 rfl) ?_
  refine lv_iload hC.x hC.b dL_law_313 (lv_at hl 1 rfl) ?_
  refine lv_iconst (v := (3 : Int32)) hC.x hC.b dL_law_315 (by decide) ?_
  refine lv_iadd hC.x hC.b dL_law_316 ?_
  refine va_sld hC.x hC.b hX hbl (Nat.not_le.mpr hbl) hw.2.2 (k_vi (j := 3) (by omega) (by omega)) dL_law_317 ?_
  refine lv_aload_n hC.x hC.b dL_law_318 rfl (lv_at hl 5 rfl) ?_
  refine lv_iload hC.x hC.b dL_law_319 (lv_at hl 1 rfl) ?_
  refine lv_iconst (v := (4 : Int32)) hC.x hC.b dL_law_321 (by decide) ?_
  refine lv_iadd hC.x hC.b dL_law_322 ?_
  refine va_sld hC.x hC.b hX hbl (Nat.not_le.mpr hbl) hw.2.2 (k_vi (j := 4) (by omega) (by omega)) dL_law_323 ?_
  refine x_goi hC hw (x_runV hC hw (c_X5_untie (Γ := Γ) (l := l) hC.2.2.2.2 hfm) (cwV 4 hC.t gL_law_X5_untie rfl rfl rfl (by decide +kernel) ⟨Nat.le_of_ble_eq_true rfl, Nat.le_of_ble_eq_true rfl⟩) (As := [.int (xs (nI i + (1 : Int32)).toNatClampNeg), .int (xs (nI i + (2 : Int32)).toNatClampNeg), .int (xs (nI i + (3 : Int32)).toNatClampNeg), .int (xs (nI i + (4 : Int32)).toNatClampNeg)]) (by decide) (k_E5 _ _ _) rfl rfl rfl hl.1 (Nat.le_of_ble_eq_true rfl) dL_law_324 (by show cells + 4 + 1 ≤ 635908 ∧ slots + 24 + 5 ≤ 7188381; omega)) (fun H locs hw => ?_)
  refine lv_istore (lv' := [(6, .int bb), (5, .int kw), (4, .int (nI i)), (3, .ref o), (2, .ref (k_ad Γ 5 0)), (1, .ref (k_ad Γ 0 0)), (0, .ref b)]) hC.x hC.b dL_law_327 hl (by decide) rfl (fun ls hl => ?_)
  refine lv_aload_n hC.x hC.b dL_law_329 rfl (lv_at hl 4 rfl) ?_
  refine x_goi hC hw (x_runV hC hw (c_X5_thrown (Γ := Γ) (l := l) hC.2.2.2.2 (rfl : f_X5_thrown g2 = some (g2 5 0 0, g2))) (cwV 0 hC.t gL_law_X5_thrown rfl rfl rfl (by decide +kernel) ⟨Nat.le_of_ble_eq_true rfl, Nat.le_of_ble_eq_true rfl⟩) (As := []) (by decide) (k_E5 _ _ _) rfl rfl rfl hl.1 (Nat.le_of_ble_eq_true rfl) dL_law_330 (by show cells + 4 + 1 + 0 ≤ 635908 ∧ slots + 24 + 5 + 0 ≤ 7188381; omega)) (fun H locs hw => ?_)
  refine lv_iload hC.x hC.b dL_law_333 (lv_at hl 1 rfl) ?_
  refine lv_icmp_eq (tgt := 340) hC.x hC.b dL_law_335 (by decide) (fun _ => ?_) (fun hc => absurd hth hc)
  refine lv_iload hC.x hC.b dL_law_340 (lv_at hl 1 rfl) ?_
  refine lv_if_ne (tgt := 357) hC.x hC.b dL_law_342 (by decide) (fun _ => ?_) (fun hk0 => ?_)
  · refine lv_goto (tgt := 1296) hC.x hC.b dL_law_357 (by decide) ?_
    exact kk _ _ _ _ _ _ _ (by show cells + 4 + 1 + 0 ≤ _; omega) (by show slots + 24 + 5 + 0 ≤ _; omega) hRel hw (lv_sub hl [2, 3, 4, 5, 6] rfl)
  · have hk : k = 0 := by rcases hok with ⟨h1, h2⟩ | ⟨h1, h2⟩ | ⟨h1, h2⟩ | ⟨h1, h2⟩ <;> first | exact h1 | exact absurd (h2.symm.trans hk0) (by decide)
    have hlo : (if k = 0 then vp_updL lo 0 r.toInt64 else lo) 0 = bb.toInt64 := by rw [if_pos hk, hrb hk]; exact pk_uLs
    refine lv_aload_n hC.x hC.b dL_law_345 rfl (lv_at hl 3 rfl) ?_
    refine lv_iconst (v := 0) hC.x hC.b dL_law_346 (by decide) ?_
    refine x_lald hC hw hJ dL_law_347 ?_
    refine lv_iload hC.x hC.b dL_law_348 (lv_at hl 0 rfl) ?_
    refine lv_i2l hC.x hC.b dL_law_350 rfl ?_
    refine W.lcmp hC.x hC.b dL_law_351 ?_
    refine lv_if_eq (tgt := 357) hC.x hC.b dL_law_352 (by decide) (fun _ => ?_) (fun hc => absurd (k_cmp0 hlo) hc)
    refine lv_goto (tgt := 1296) hC.x hC.b dL_law_357 (by decide) ?_
    exact kk _ _ _ _ _ _ _ (by show cells + 4 + 1 + 0 ≤ _; omega) (by show slots + 24 + 5 + 0 ≤ _; omega) hRel hw (lv_sub hl [2, 3, 4, 5, 6] rfl)
set_option maxRecDepth 100000 in
set_option maxHeartbeats 4000000 in
theorem lc_mend {Γ : k_Pm} {p : Program} {l : Launch} {e : Env} {s : State} {m : MethodId} {below : List Frame} {meth : Method} {c : Code} {b L : Nat} {xs : Nat → Int32} {H : Heap} {locs : List Loc} {cells slots : Nat} {Q : State → Prop} {g : Gt} {ls : Array Slot} {o : Nat} {cJ : ClassId} {lo : Nat → Int64} {i Y : Nat} {Rel : Nat → Gt → Prop} (hC : k_C Γ (fun q => s.heap.size ≤ q) p l s m #[.ref b] c cL_law 9 wsL_law RL) (hJ : ArrOfT s cJ .long ∧ va_RA s cJ .long) (hX : va_X b L xs s s.heap) (hbl : b < s.heap.size) (hi : i + 4 < L) (hL : L ≤ 2560) (hw : k_St Γ (fun q => s.heap.size ≤ q) s (k_Lo o cJ lo) g H locs) (hl : lv_has ls 9 [(4, .int (nI i)), (3, .ref o), (2, .ref (k_ad Γ 5 0)), (1, .ref (k_ad Γ 0 0)), (0, .ref b)]) (hcs : cells + 1000 ≤ 635908 ∧ slots + 10000 ≤ 7188381) (hS : ∀ (x1 : Int32), Sim Rel Y (fun k kw => (k = 0 ∧ kw = 0) ∨ (k = 1 ∧ kw = 1)) (f_X4_mend x1 g) (f_X5_mend x1)) (kk : ∀ (g2 : Gt) (lo2 : Nat → Int64) (H1 : Heap) (locs1 : List Loc) (ls1 : Array Slot) (c2 s2 : Nat), c2 ≤ cells + 1000 → s2 ≤ slots + 10000 → Rel (Y + 50) g2 → k_St Γ (fun q => s.heap.size ≤ q) s (k_Lo o cJ lo2) g2 H1 locs1 → lv_has ls1 9 [(4, .int (nI i)), (3, .ref o), (2, .ref (k_ad Γ 5 0)), (1, .ref (k_ad Γ 0 0)), (0, .ref b)] → W p l e room_1 s m #[.ref b] below meth c H1 locs1 c2 s2 Q (F0 m 1296 ls1 [])) : W p l e room_1 s m #[.ref b] below meth c H locs cells slots Q (F0 m 360 ls []) := by
  obtain ⟨k, r, g1, bb, g2, kw, hfx, hfm, hok, hth, hrb, hRel⟩ := hS (xs (nI i + (1 : Int32)).toNatClampNeg)
  refine lv_aload_n hC.x hC.b dL_law_360 rfl (lv_at hl 3 rfl) ?_
  refine lv_aload_n hC.x hC.b dL_law_361 rfl (lv_at hl 4 rfl) ?_
  refine lv_iload hC.x hC.b dL_law_362 (lv_at hl 0 rfl) ?_
  refine lv_iconst (v := (1 : Int32)) hC.x hC.b dL_law_364 (by decide) ?_
  refine lv_iadd hC.x hC.b dL_law_365 ?_
  refine va_sld hC.x hC.b hX hbl (Nat.not_le.mpr hbl) hw.2.2 (k_vi (j := 1) (by omega) (by omega)) dL_law_366 ?_
  refine lv_aload_n hC.x hC.b dL_law_367 rfl (lv_at hl 1 rfl) ?_
  refine x_goL hC hw (x_runL hC hw hJ (c_L_mend (Γ := Γ) (l := l) hC.2.2.2.2 (lo := lo) hfx hok) (vx_cwSW 3 hC.t gL_law_L_mend rfl rfl rfl (by decide +kernel) ⟨Nat.le_of_ble_eq_true rfl, Nat.le_of_ble_eq_true rfl⟩) (As := [.ref (k_ad Γ 0 0), .int (xs (nI i + (1 : Int32)).toNatClampNeg), .ref o]) rfl hl.1 (Nat.le_of_ble_eq_true rfl) dL_law_368 (by show cells + 1 ≤ 635908 ∧ slots + 6 ≤ 7188381; omega)) (fun H locs hw => ?_)
  refine lv_istore (lv' := [(5, .int kw), (4, .int (nI i)), (3, .ref o), (2, .ref (k_ad Γ 5 0)), (1, .ref (k_ad Γ 0 0)), (0, .ref b)]) hC.x hC.b dL_law_371 hl (by decide) rfl (fun ls hl => ?_)
  refine lv_aload_n hC.x hC.b dL_law_373 rfl (lv_at hl 3 rfl) ?_
  refine lv_aload_n hC.x hC.b dL_law_374 rfl (lv_at hl 5 rfl) ?_
  refine lv_iload hC.x hC.b dL_law_375 (lv_at hl 1 rfl) ?_
  refine lv_iconst (v := (1 : Int32)) hC.x hC.b dL_law_377 (by decide) ?_
  refine lv_iadd hC.x hC.b dL_law_378 ?_
  refine va_sld hC.x hC.b hX hbl (Nat.not_le.mpr hbl) hw.2.2 (k_vi (j := 1) (by omega) (by omega)) dL_law_379 ?_
  refine x_goi hC hw (x_runV hC hw (c_X5_mend (Γ := Γ) (l := l) hC.2.2.2.2 hfm) (cwV 1 hC.t gL_law_X5_mend rfl rfl rfl (by decide +kernel) ⟨Nat.le_of_ble_eq_true rfl, Nat.le_of_ble_eq_true rfl⟩) (As := [.int (xs (nI i + (1 : Int32)).toNatClampNeg)]) (by decide) (k_E5 _ _ _) rfl rfl rfl hl.1 (Nat.le_of_ble_eq_true rfl) dL_law_380 (by show cells + 1 + 0 ≤ 635908 ∧ slots + 6 + 0 ≤ 7188381; omega)) (fun H locs hw => ?_)
  refine lv_istore (lv' := [(6, .int bb), (5, .int kw), (4, .int (nI i)), (3, .ref o), (2, .ref (k_ad Γ 5 0)), (1, .ref (k_ad Γ 0 0)), (0, .ref b)]) hC.x hC.b dL_law_383 hl (by decide) rfl (fun ls hl => ?_)
  refine lv_aload_n hC.x hC.b dL_law_385 rfl (lv_at hl 4 rfl) ?_
  refine x_goi hC hw (x_runV hC hw (c_X5_thrown (Γ := Γ) (l := l) hC.2.2.2.2 (rfl : f_X5_thrown g2 = some (g2 5 0 0, g2))) (cwV 0 hC.t gL_law_X5_thrown rfl rfl rfl (by decide +kernel) ⟨Nat.le_of_ble_eq_true rfl, Nat.le_of_ble_eq_true rfl⟩) (As := []) (by decide) (k_E5 _ _ _) rfl rfl rfl hl.1 (Nat.le_of_ble_eq_true rfl) dL_law_386 (by show cells + 1 + 0 + 0 ≤ 635908 ∧ slots + 6 + 0 + 0 ≤ 7188381; omega)) (fun H locs hw => ?_)
  refine lv_iload hC.x hC.b dL_law_389 (lv_at hl 1 rfl) ?_
  refine lv_icmp_eq (tgt := 396) hC.x hC.b dL_law_391 (by decide) (fun _ => ?_) (fun hc => absurd hth hc)
  refine lv_iload hC.x hC.b dL_law_396 (lv_at hl 1 rfl) ?_
  refine lv_if_ne (tgt := 413) hC.x hC.b dL_law_398 (by decide) (fun _ => ?_) (fun hk0 => ?_)
  · refine lv_goto (tgt := 1296) hC.x hC.b dL_law_413 (by decide) ?_
    exact kk _ _ _ _ _ _ _ (by show cells + 1 + 0 + 0 ≤ _; omega) (by show slots + 6 + 0 + 0 ≤ _; omega) hRel hw (lv_sub hl [2, 3, 4, 5, 6] rfl)
  · have hk : k = 0 := by rcases hok with ⟨h1, h2⟩ | ⟨h1, h2⟩ <;> first | exact h1 | exact absurd (h2.symm.trans hk0) (by decide)
    have hlo : (if k = 0 then vp_updL lo 0 r.toInt64 else lo) 0 = bb.toInt64 := by rw [if_pos hk, hrb hk]; exact pk_uLs
    refine lv_aload_n hC.x hC.b dL_law_401 rfl (lv_at hl 3 rfl) ?_
    refine lv_iconst (v := 0) hC.x hC.b dL_law_402 (by decide) ?_
    refine x_lald hC hw hJ dL_law_403 ?_
    refine lv_iload hC.x hC.b dL_law_404 (lv_at hl 0 rfl) ?_
    refine lv_i2l hC.x hC.b dL_law_406 rfl ?_
    refine W.lcmp hC.x hC.b dL_law_407 ?_
    refine lv_if_eq (tgt := 413) hC.x hC.b dL_law_408 (by decide) (fun _ => ?_) (fun hc => absurd (k_cmp0 hlo) hc)
    refine lv_goto (tgt := 1296) hC.x hC.b dL_law_413 (by decide) ?_
    exact kk _ _ _ _ _ _ _ (by show cells + 1 + 0 + 0 ≤ _; omega) (by show slots + 6 + 0 + 0 ≤ _; omega) hRel hw (lv_sub hl [2, 3, 4, 5, 6] rfl)
set_option maxRecDepth 100000 in
set_option maxHeartbeats 4000000 in
theorem lc_cord {Γ : k_Pm} {p : Program} {l : Launch} {e : Env} {s : State} {m : MethodId} {below : List Frame} {meth : Method} {c : Code} {b L : Nat} {xs : Nat → Int32} {H : Heap} {locs : List Loc} {cells slots : Nat} {Q : State → Prop} {g : Gt} {ls : Array Slot} {o : Nat} {cJ : ClassId} {lo : Nat → Int64} {i Y : Nat} {Rel : Nat → Gt → Prop} (hC : k_C Γ (fun q => s.heap.size ≤ q) p l s m #[.ref b] c cL_law 9 wsL_law RL) (hJ : ArrOfT s cJ .long ∧ va_RA s cJ .long) (hX : va_X b L xs s s.heap) (hbl : b < s.heap.size) (hi : i + 4 < L) (hL : L ≤ 2560) (hw : k_St Γ (fun q => s.heap.size ≤ q) s (k_Lo o cJ lo) g H locs) (hl : lv_has ls 9 [(4, .int (nI i)), (3, .ref o), (2, .ref (k_ad Γ 5 0)), (1, .ref (k_ad Γ 0 0)), (0, .ref b)]) (hcs : cells + 1000 ≤ 635908 ∧ slots + 10000 ≤ 7188381) (hS : ∀ (x1 : Int32) (x2 : Int32), Sim Rel Y (fun k kw => (k = 0 ∧ kw = 0) ∨ (k = 1 ∧ kw = 1)) (f_X4_cord x1 x2 g) (f_X5_cord x1 x2)) (kk : ∀ (g2 : Gt) (lo2 : Nat → Int64) (H1 : Heap) (locs1 : List Loc) (ls1 : Array Slot) (c2 s2 : Nat), c2 ≤ cells + 1000 → s2 ≤ slots + 10000 → Rel (Y + 50) g2 → k_St Γ (fun q => s.heap.size ≤ q) s (k_Lo o cJ lo2) g2 H1 locs1 → lv_has ls1 9 [(4, .int (nI i)), (3, .ref o), (2, .ref (k_ad Γ 5 0)), (1, .ref (k_ad Γ 0 0)), (0, .ref b)] → W p l e room_1 s m #[.ref b] below meth c H1 locs1 c2 s2 Q (F0 m 1296 ls1 [])) : W p l e room_1 s m #[.ref b] below meth c H locs cells slots Q (F0 m 416 ls []) := by
  obtain ⟨k, r, g1, bb, g2, kw, hfx, hfm, hok, hth, hrb, hRel⟩ := hS (xs (nI i + (1 : Int32)).toNatClampNeg) (xs (nI i + (2 : Int32)).toNatClampNeg)
  refine lv_aload_n hC.x hC.b dL_law_416 rfl (lv_at hl 3 rfl) ?_
  refine lv_aload_n hC.x hC.b dL_law_417 rfl (lv_at hl 4 rfl) ?_
  refine lv_iload hC.x hC.b dL_law_418 (lv_at hl 0 rfl) ?_
  refine lv_iconst (v := (1 : Int32)) hC.x hC.b dL_law_420 (by decide) ?_
  refine lv_iadd hC.x hC.b dL_law_421 ?_
  refine va_sld hC.x hC.b hX hbl (Nat.not_le.mpr hbl) hw.2.2 (k_vi (j := 1) (by omega) (by omega)) dL_law_422 ?_
  refine lv_aload_n hC.x hC.b dL_law_423 rfl (lv_at hl 4 rfl) ?_
  refine lv_iload hC.x hC.b dL_law_424 (lv_at hl 0 rfl) ?_
  refine lv_iconst (v := (2 : Int32)) hC.x hC.b dL_law_426 (by decide) ?_
  refine lv_iadd hC.x hC.b dL_law_427 ?_
  refine va_sld hC.x hC.b hX hbl (Nat.not_le.mpr hbl) hw.2.2 (k_vi (j := 2) (by omega) (by omega)) dL_law_428 ?_
  refine lv_aload_n hC.x hC.b dL_law_429 rfl (lv_at hl 1 rfl) ?_
  refine x_goL hC hw (x_runL hC hw hJ (c_L_cord (Γ := Γ) (l := l) hC.2.2.2.2 (lo := lo) hfx hok) (vx_cwSW 4 hC.t gL_law_L_cord rfl rfl rfl (by decide +kernel) ⟨Nat.le_of_ble_eq_true rfl, Nat.le_of_ble_eq_true rfl⟩) (As := [.ref (k_ad Γ 0 0), .int (xs (nI i + (1 : Int32)).toNatClampNeg), .int (xs (nI i + (2 : Int32)).toNatClampNeg), .ref o]) rfl hl.1 (Nat.le_of_ble_eq_true rfl) dL_law_430 (by show cells + 2 ≤ 635908 ∧ slots + 12 ≤ 7188381; omega)) (fun H locs hw => ?_)
  refine lv_istore (lv' := [(5, .int kw), (4, .int (nI i)), (3, .ref o), (2, .ref (k_ad Γ 5 0)), (1, .ref (k_ad Γ 0 0)), (0, .ref b)]) hC.x hC.b dL_law_433 hl (by decide) rfl (fun ls hl => ?_)
  refine lv_aload_n hC.x hC.b dL_law_435 rfl (lv_at hl 3 rfl) ?_
  refine lv_aload_n hC.x hC.b dL_law_436 rfl (lv_at hl 5 rfl) ?_
  refine lv_iload hC.x hC.b dL_law_437 (lv_at hl 1 rfl) ?_
  refine lv_iconst (v := (1 : Int32)) hC.x hC.b dL_law_439 (by decide) ?_
  refine lv_iadd hC.x hC.b dL_law_440 ?_
  refine va_sld hC.x hC.b hX hbl (Nat.not_le.mpr hbl) hw.2.2 (k_vi (j := 1) (by omega) (by omega)) dL_law_441 ?_
  refine lv_aload_n hC.x hC.b dL_law_442 rfl (lv_at hl 5 rfl) ?_
  refine lv_iload hC.x hC.b dL_law_443 (lv_at hl 1 rfl) ?_
  refine lv_iconst (v := (2 : Int32)) hC.x hC.b dL_law_445 (by decide) ?_
  refine lv_iadd hC.x hC.b dL_law_446 ?_
  refine va_sld hC.x hC.b hX hbl (Nat.not_le.mpr hbl) hw.2.2 (k_vi (j := 2) (by omega) (by omega)) dL_law_447 ?_
  refine x_goi hC hw (x_runV hC hw (c_X5_cord (Γ := Γ) (l := l) hC.2.2.2.2 hfm) (cwV 2 hC.t gL_law_X5_cord rfl rfl rfl (by decide +kernel) ⟨Nat.le_of_ble_eq_true rfl, Nat.le_of_ble_eq_true rfl⟩) (As := [.int (xs (nI i + (1 : Int32)).toNatClampNeg), .int (xs (nI i + (2 : Int32)).toNatClampNeg)]) (by decide) (k_E5 _ _ _) rfl rfl rfl hl.1 (Nat.le_of_ble_eq_true rfl) dL_law_448 (by show cells + 2 + 0 ≤ 635908 ∧ slots + 12 + 0 ≤ 7188381; omega)) (fun H locs hw => ?_)
  refine lv_istore (lv' := [(6, .int bb), (5, .int kw), (4, .int (nI i)), (3, .ref o), (2, .ref (k_ad Γ 5 0)), (1, .ref (k_ad Γ 0 0)), (0, .ref b)]) hC.x hC.b dL_law_451 hl (by decide) rfl (fun ls hl => ?_)
  refine lv_aload_n hC.x hC.b dL_law_453 rfl (lv_at hl 4 rfl) ?_
  refine x_goi hC hw (x_runV hC hw (c_X5_thrown (Γ := Γ) (l := l) hC.2.2.2.2 (rfl : f_X5_thrown g2 = some (g2 5 0 0, g2))) (cwV 0 hC.t gL_law_X5_thrown rfl rfl rfl (by decide +kernel) ⟨Nat.le_of_ble_eq_true rfl, Nat.le_of_ble_eq_true rfl⟩) (As := []) (by decide) (k_E5 _ _ _) rfl rfl rfl hl.1 (Nat.le_of_ble_eq_true rfl) dL_law_454 (by show cells + 2 + 0 + 0 ≤ 635908 ∧ slots + 12 + 0 + 0 ≤ 7188381; omega)) (fun H locs hw => ?_)
  refine lv_iload hC.x hC.b dL_law_457 (lv_at hl 1 rfl) ?_
  refine lv_icmp_eq (tgt := 464) hC.x hC.b dL_law_459 (by decide) (fun _ => ?_) (fun hc => absurd hth hc)
  refine lv_iload hC.x hC.b dL_law_464 (lv_at hl 1 rfl) ?_
  refine lv_if_ne (tgt := 481) hC.x hC.b dL_law_466 (by decide) (fun _ => ?_) (fun hk0 => ?_)
  · refine lv_goto (tgt := 1296) hC.x hC.b dL_law_481 (by decide) ?_
    exact kk _ _ _ _ _ _ _ (by show cells + 2 + 0 + 0 ≤ _; omega) (by show slots + 12 + 0 + 0 ≤ _; omega) hRel hw (lv_sub hl [2, 3, 4, 5, 6] rfl)
  · have hk : k = 0 := by rcases hok with ⟨h1, h2⟩ | ⟨h1, h2⟩ <;> first | exact h1 | exact absurd (h2.symm.trans hk0) (by decide)
    have hlo : (if k = 0 then vp_updL lo 0 r.toInt64 else lo) 0 = bb.toInt64 := by rw [if_pos hk, hrb hk]; exact pk_uLs
    refine lv_aload_n hC.x hC.b dL_law_469 rfl (lv_at hl 3 rfl) ?_
    refine lv_iconst (v := 0) hC.x hC.b dL_law_470 (by decide) ?_
    refine x_lald hC hw hJ dL_law_471 ?_
    refine lv_iload hC.x hC.b dL_law_472 (lv_at hl 0 rfl) ?_
    refine lv_i2l hC.x hC.b dL_law_474 rfl ?_
    refine W.lcmp hC.x hC.b dL_law_475 ?_
    refine lv_if_eq (tgt := 481) hC.x hC.b dL_law_476 (by decide) (fun _ => ?_) (fun hc => absurd (k_cmp0 hlo) hc)
    refine lv_goto (tgt := 1296) hC.x hC.b dL_law_481 (by decide) ?_
    exact kk _ _ _ _ _ _ _ (by show cells + 2 + 0 + 0 ≤ _; omega) (by show slots + 12 + 0 + 0 ≤ _; omega) hRel hw (lv_sub hl [2, 3, 4, 5, 6] rfl)
set_option maxRecDepth 100000 in
set_option maxHeartbeats 4000000 in
theorem lc_place {Γ : k_Pm} {p : Program} {l : Launch} {e : Env} {s : State} {m : MethodId} {below : List Frame} {meth : Method} {c : Code} {b L : Nat} {xs : Nat → Int32} {H : Heap} {locs : List Loc} {cells slots : Nat} {Q : State → Prop} {g : Gt} {ls : Array Slot} {o : Nat} {cJ : ClassId} {lo : Nat → Int64} {i Y : Nat} {Rel : Nat → Gt → Prop} (hC : k_C Γ (fun q => s.heap.size ≤ q) p l s m #[.ref b] c cL_law 9 wsL_law RL) (hJ : ArrOfT s cJ .long ∧ va_RA s cJ .long) (hX : va_X b L xs s s.heap) (hbl : b < s.heap.size) (hi : i + 4 < L) (hL : L ≤ 2560) (hw : k_St Γ (fun q => s.heap.size ≤ q) s (k_Lo o cJ lo) g H locs) (hl : lv_has ls 9 [(4, .int (nI i)), (3, .ref o), (2, .ref (k_ad Γ 5 0)), (1, .ref (k_ad Γ 0 0)), (0, .ref b)]) (hcs : cells + 1000 ≤ 635908 ∧ slots + 10000 ≤ 7188381) (hS : ∀ (x1 : Int32) (x2 : Int32) (x3 : Int32), Sim Rel Y (fun k kw => (k = 0 ∧ kw = 0) ∨ (k = 1 ∧ kw = 1)) (f_X4_place x1 x2 x3 g) (f_X5_place x1 x2 x3)) (kk : ∀ (g2 : Gt) (lo2 : Nat → Int64) (H1 : Heap) (locs1 : List Loc) (ls1 : Array Slot) (c2 s2 : Nat), c2 ≤ cells + 1000 → s2 ≤ slots + 10000 → Rel (Y + 50) g2 → k_St Γ (fun q => s.heap.size ≤ q) s (k_Lo o cJ lo2) g2 H1 locs1 → lv_has ls1 9 [(4, .int (nI i)), (3, .ref o), (2, .ref (k_ad Γ 5 0)), (1, .ref (k_ad Γ 0 0)), (0, .ref b)] → W p l e room_1 s m #[.ref b] below meth c H1 locs1 c2 s2 Q (F0 m 1296 ls1 [])) : W p l e room_1 s m #[.ref b] below meth c H locs cells slots Q (F0 m 484 ls []) := by
  obtain ⟨k, r, g1, bb, g2, kw, hfx, hfm, hok, hth, hrb, hRel⟩ := hS (xs (nI i + (1 : Int32)).toNatClampNeg) (xs (nI i + (2 : Int32)).toNatClampNeg) (xs (nI i + (3 : Int32)).toNatClampNeg)
  refine lv_aload_n hC.x hC.b dL_law_484 rfl (lv_at hl 3 rfl) ?_
  refine lv_aload_n hC.x hC.b dL_law_485 rfl (lv_at hl 4 rfl) ?_
  refine lv_iload hC.x hC.b dL_law_486 (lv_at hl 0 rfl) ?_
  refine lv_iconst (v := (1 : Int32)) hC.x hC.b dL_law_488 (by decide) ?_
  refine lv_iadd hC.x hC.b dL_law_489 ?_
  refine va_sld hC.x hC.b hX hbl (Nat.not_le.mpr hbl) hw.2.2 (k_vi (j := 1) (by omega) (by omega)) dL_law_490 ?_
  refine lv_aload_n hC.x hC.b dL_law_491 rfl (lv_at hl 4 rfl) ?_
  refine lv_iload hC.x hC.b dL_law_492 (lv_at hl 0 rfl) ?_
  refine lv_iconst (v := (2 : Int32)) hC.x hC.b dL_law_494 (by decide) ?_
  refine lv_iadd hC.x hC.b dL_law_495 ?_
  refine va_sld hC.x hC.b hX hbl (Nat.not_le.mpr hbl) hw.2.2 (k_vi (j := 2) (by omega) (by omega)) dL_law_496 ?_
  refine lv_aload_n hC.x hC.b dL_law_497 rfl (lv_at hl 4 rfl) ?_
  refine lv_iload hC.x hC.b dL_law_498 (lv_at hl 0 rfl) ?_
  refine lv_iconst (v := (3 : Int32)) hC.x hC.b dL_law_500 (by decide) ?_
  refine lv_iadd hC.x hC.b dL_law_501 ?_
  refine va_sld hC.x hC.b hX hbl (Nat.not_le.mpr hbl) hw.2.2 (k_vi (j := 3) (by omega) (by omega)) dL_law_502 ?_
  refine lv_aload_n hC.x hC.b dL_law_503 rfl (lv_at hl 1 rfl) ?_
  refine x_goL hC hw (x_runL hC hw hJ (c_L_place (Γ := Γ) (l := l) hC.2.2.2.2 (lo := lo) hfx hok) (vx_cwSW 5 hC.t gL_law_L_place rfl rfl rfl (by decide +kernel) ⟨Nat.le_of_ble_eq_true rfl, Nat.le_of_ble_eq_true rfl⟩) (As := [.ref (k_ad Γ 0 0), .int (xs (nI i + (1 : Int32)).toNatClampNeg), .int (xs (nI i + (2 : Int32)).toNatClampNeg), .int (xs (nI i + (3 : Int32)).toNatClampNeg), .ref o]) rfl hl.1 (Nat.le_of_ble_eq_true rfl) dL_law_504 (by show cells + 3 ≤ 635908 ∧ slots + 18 ≤ 7188381; omega)) (fun H locs hw => ?_)
  refine lv_istore (lv' := [(5, .int kw), (4, .int (nI i)), (3, .ref o), (2, .ref (k_ad Γ 5 0)), (1, .ref (k_ad Γ 0 0)), (0, .ref b)]) hC.x hC.b dL_law_507 hl (by decide) rfl (fun ls hl => ?_)
  refine lv_aload_n hC.x hC.b dL_law_509 rfl (lv_at hl 3 rfl) ?_
  refine lv_aload_n hC.x hC.b dL_law_510 rfl (lv_at hl 5 rfl) ?_
  refine lv_iload hC.x hC.b dL_law_511 (lv_at hl 1 rfl) ?_
  refine lv_iconst (v := (1 : Int32)) hC.x hC.b dL_law_513 (by decide) ?_
  refine lv_iadd hC.x hC.b dL_law_514 ?_
  refine va_sld hC.x hC.b hX hbl (Nat.not_le.mpr hbl) hw.2.2 (k_vi (j := 1) (by omega) (by omega)) dL_law_515 ?_
  refine lv_aload_n hC.x hC.b dL_law_516 rfl (lv_at hl 5 rfl) ?_
  refine lv_iload hC.x hC.b dL_law_517 (lv_at hl 1 rfl) ?_
  refine lv_iconst (v := (2 : Int32)) hC.x hC.b dL_law_519 (by decide) ?_
  refine lv_iadd hC.x hC.b dL_law_520 ?_
  refine va_sld hC.x hC.b hX hbl (Nat.not_le.mpr hbl) hw.2.2 (k_vi (j := 2) (by omega) (by omega)) dL_law_521 ?_
  refine lv_aload_n hC.x hC.b dL_law_522 rfl (lv_at hl 5 rfl) ?_
  refine lv_iload hC.x hC.b dL_law_523 (lv_at hl 1 rfl) ?_
  refine lv_iconst (v := (3 : Int32)) hC.x hC.b dL_law_525 (by decide) ?_
  refine lv_iadd hC.x hC.b dL_law_526 ?_
  refine va_sld hC.x hC.b hX hbl (Nat.not_le.mpr hbl) hw.2.2 (k_vi (j := 3) (by omega) (by omega)) dL_law_527 ?_
  refine x_goi hC hw (x_runV hC hw (c_X5_place (Γ := Γ) (l := l) hC.2.2.2.2 hfm) (cwV 3 hC.t gL_law_X5_place rfl rfl rfl (by decide +kernel) ⟨Nat.le_of_ble_eq_true rfl, Nat.le_of_ble_eq_true rfl⟩) (As := [.int (xs (nI i + (1 : Int32)).toNatClampNeg), .int (xs (nI i + (2 : Int32)).toNatClampNeg), .int (xs (nI i + (3 : Int32)).toNatClampNeg)]) (by decide) (k_E5 _ _ _) rfl rfl rfl hl.1 (Nat.le_of_ble_eq_true rfl) dL_law_528 (by show cells + 3 + 0 ≤ 635908 ∧ slots + 18 + 0 ≤ 7188381; omega)) (fun H locs hw => ?_)
  refine lv_istore (lv' := [(6, .int bb), (5, .int kw), (4, .int (nI i)), (3, .ref o), (2, .ref (k_ad Γ 5 0)), (1, .ref (k_ad Γ 0 0)), (0, .ref b)]) hC.x hC.b dL_law_531 hl (by decide) rfl (fun ls hl => ?_)
  refine lv_aload_n hC.x hC.b dL_law_533 rfl (lv_at hl 4 rfl) ?_
  refine x_goi hC hw (x_runV hC hw (c_X5_thrown (Γ := Γ) (l := l) hC.2.2.2.2 (rfl : f_X5_thrown g2 = some (g2 5 0 0, g2))) (cwV 0 hC.t gL_law_X5_thrown rfl rfl rfl (by decide +kernel) ⟨Nat.le_of_ble_eq_true rfl, Nat.le_of_ble_eq_true rfl⟩) (As := []) (by decide) (k_E5 _ _ _) rfl rfl rfl hl.1 (Nat.le_of_ble_eq_true rfl) dL_law_534 (by show cells + 3 + 0 + 0 ≤ 635908 ∧ slots + 18 + 0 + 0 ≤ 7188381; omega)) (fun H locs hw => ?_)
  refine lv_iload hC.x hC.b dL_law_537 (lv_at hl 1 rfl) ?_
  refine lv_icmp_eq (tgt := 544) hC.x hC.b dL_law_539 (by decide) (fun _ => ?_) (fun hc => absurd hth hc)
  refine lv_iload hC.x hC.b dL_law_544 (lv_at hl 1 rfl) ?_
  refine lv_if_ne (tgt := 561) hC.x hC.b dL_law_546 (by decide) (fun _ => ?_) (fun hk0 => ?_)
  · refine lv_goto (tgt := 1296) hC.x hC.b dL_law_561 (by decide) ?_
    exact kk _ _ _ _ _ _ _ (by show cells + 3 + 0 + 0 ≤ _; omega) (by show slots + 18 + 0 + 0 ≤ _; omega) hRel hw (lv_sub hl [2, 3, 4, 5, 6] rfl)
  · have hk : k = 0 := by rcases hok with ⟨h1, h2⟩ | ⟨h1, h2⟩ <;> first | exact h1 | exact absurd (h2.symm.trans hk0) (by decide)
    have hlo : (if k = 0 then vp_updL lo 0 r.toInt64 else lo) 0 = bb.toInt64 := by rw [if_pos hk, hrb hk]; exact pk_uLs
    refine lv_aload_n hC.x hC.b dL_law_549 rfl (lv_at hl 3 rfl) ?_
    refine lv_iconst (v := 0) hC.x hC.b dL_law_550 (by decide) ?_
    refine x_lald hC hw hJ dL_law_551 ?_
    refine lv_iload hC.x hC.b dL_law_552 (lv_at hl 0 rfl) ?_
    refine lv_i2l hC.x hC.b dL_law_554 rfl ?_
    refine W.lcmp hC.x hC.b dL_law_555 ?_
    refine lv_if_eq (tgt := 561) hC.x hC.b dL_law_556 (by decide) (fun _ => ?_) (fun hc => absurd (k_cmp0 hlo) hc)
    refine lv_goto (tgt := 1296) hC.x hC.b dL_law_561 (by decide) ?_
    exact kk _ _ _ _ _ _ _ (by show cells + 3 + 0 + 0 ≤ _; omega) (by show slots + 18 + 0 + 0 ≤ _; omega) hRel hw (lv_sub hl [2, 3, 4, 5, 6] rfl)
set_option maxRecDepth 100000 in
set_option maxHeartbeats 4000000 in
theorem lc_call {Γ : k_Pm} {p : Program} {l : Launch} {e : Env} {s : State} {m : MethodId} {below : List Frame} {meth : Method} {c : Code} {b L : Nat} {xs : Nat → Int32} {H : Heap} {locs : List Loc} {cells slots : Nat} {Q : State → Prop} {g : Gt} {ls : Array Slot} {o : Nat} {cJ : ClassId} {lo : Nat → Int64} {i Y : Nat} {Rel : Nat → Gt → Prop} (hC : k_C Γ (fun q => s.heap.size ≤ q) p l s m #[.ref b] c cL_law 9 wsL_law RL) (hJ : ArrOfT s cJ .long ∧ va_RA s cJ .long) (hX : va_X b L xs s s.heap) (hbl : b < s.heap.size) (hi : i + 4 < L) (hL : L ≤ 2560) (hw : k_St Γ (fun q => s.heap.size ≤ q) s (k_Lo o cJ lo) g H locs) (hl : lv_has ls 9 [(4, .int (nI i)), (3, .ref o), (2, .ref (k_ad Γ 5 0)), (1, .ref (k_ad Γ 0 0)), (0, .ref b)]) (hcs : cells + 1000 ≤ 635908 ∧ slots + 10000 ≤ 7188381) (hS : Sim Rel Y (fun k kw => (k = 0 ∧ kw = 0) ∨ (k = 3 ∧ kw = 1)) (f_X4_call  g) (f_X5_call )) (kk : ∀ (g2 : Gt) (lo2 : Nat → Int64) (H1 : Heap) (locs1 : List Loc) (ls1 : Array Slot) (c2 s2 : Nat), c2 ≤ cells + 1000 → s2 ≤ slots + 10000 → Rel (Y + 50) g2 → k_St Γ (fun q => s.heap.size ≤ q) s (k_Lo o cJ lo2) g2 H1 locs1 → lv_has ls1 9 [(4, .int (nI i)), (3, .ref o), (2, .ref (k_ad Γ 5 0)), (1, .ref (k_ad Γ 0 0)), (0, .ref b)] → W p l e room_1 s m #[.ref b] below meth c H1 locs1 c2 s2 Q (F0 m 1296 ls1 [])) : W p l e room_1 s m #[.ref b] below meth c H locs cells slots Q (F0 m 564 ls []) := by
  obtain ⟨k, r, g1, bb, g2, kw, hfx, hfm, hok, hth, hrb, hRel⟩ := hS
  refine lv_aload_n hC.x hC.b dL_law_564 rfl (lv_at hl 3 rfl) ?_
  refine lv_aload_n hC.x hC.b dL_law_565 rfl (lv_at hl 1 rfl) ?_
  refine x_goL hC hw (x_runL hC hw hJ (c_L_call (Γ := Γ) (l := l) hC.2.2.2.2 (lo := lo) hfx hok) (vx_cwSW 2 hC.t gL_law_L_call rfl rfl rfl (by decide +kernel) ⟨Nat.le_of_ble_eq_true rfl, Nat.le_of_ble_eq_true rfl⟩) (As := [.ref (k_ad Γ 0 0), .ref o]) rfl hl.1 (Nat.le_of_ble_eq_true rfl) dL_law_566 (by show cells + 1 ≤ 635908 ∧ slots + 6 ≤ 7188381; omega)) (fun H locs hw => ?_)
  refine lv_istore (lv' := [(5, .int kw), (4, .int (nI i)), (3, .ref o), (2, .ref (k_ad Γ 5 0)), (1, .ref (k_ad Γ 0 0)), (0, .ref b)]) hC.x hC.b dL_law_569 hl (by decide) rfl (fun ls hl => ?_)
  refine lv_aload_n hC.x hC.b dL_law_571 rfl (lv_at hl 3 rfl) ?_
  refine x_goi hC hw (x_runV hC hw (c_X5_call (Γ := Γ) (l := l) hC.2.2.2.2 hfm) (cwV 0 hC.t gL_law_X5_call rfl rfl rfl (by decide +kernel) ⟨Nat.le_of_ble_eq_true rfl, Nat.le_of_ble_eq_true rfl⟩) (As := []) (by decide) (k_E5 _ _ _) rfl rfl rfl hl.1 (Nat.le_of_ble_eq_true rfl) dL_law_572 (by show cells + 1 + 0 ≤ 635908 ∧ slots + 6 + 0 ≤ 7188381; omega)) (fun H locs hw => ?_)
  refine lv_istore (lv' := [(6, .int bb), (5, .int kw), (4, .int (nI i)), (3, .ref o), (2, .ref (k_ad Γ 5 0)), (1, .ref (k_ad Γ 0 0)), (0, .ref b)]) hC.x hC.b dL_law_575 hl (by decide) rfl (fun ls hl => ?_)
  refine lv_aload_n hC.x hC.b dL_law_577 rfl (lv_at hl 4 rfl) ?_
  refine x_goi hC hw (x_runV hC hw (c_X5_thrown (Γ := Γ) (l := l) hC.2.2.2.2 (rfl : f_X5_thrown g2 = some (g2 5 0 0, g2))) (cwV 0 hC.t gL_law_X5_thrown rfl rfl rfl (by decide +kernel) ⟨Nat.le_of_ble_eq_true rfl, Nat.le_of_ble_eq_true rfl⟩) (As := []) (by decide) (k_E5 _ _ _) rfl rfl rfl hl.1 (Nat.le_of_ble_eq_true rfl) dL_law_578 (by show cells + 1 + 0 + 0 ≤ 635908 ∧ slots + 6 + 0 + 0 ≤ 7188381; omega)) (fun H locs hw => ?_)
  refine lv_iload hC.x hC.b dL_law_581 (lv_at hl 1 rfl) ?_
  refine lv_icmp_eq (tgt := 588) hC.x hC.b dL_law_583 (by decide) (fun _ => ?_) (fun hc => absurd hth hc)
  refine lv_iload hC.x hC.b dL_law_588 (lv_at hl 1 rfl) ?_
  refine lv_if_ne (tgt := 605) hC.x hC.b dL_law_590 (by decide) (fun _ => ?_) (fun hk0 => ?_)
  · refine lv_goto (tgt := 1296) hC.x hC.b dL_law_605 (by decide) ?_
    exact kk _ _ _ _ _ _ _ (by show cells + 1 + 0 + 0 ≤ _; omega) (by show slots + 6 + 0 + 0 ≤ _; omega) hRel hw (lv_sub hl [2, 3, 4, 5, 6] rfl)
  · have hk : k = 0 := by rcases hok with ⟨h1, h2⟩ | ⟨h1, h2⟩ <;> first | exact h1 | exact absurd (h2.symm.trans hk0) (by decide)
    have hlo : (if k = 0 then vp_updL lo 0 r.toInt64 else lo) 0 = bb.toInt64 := by rw [if_pos hk, hrb hk]; exact pk_uLs
    refine lv_aload_n hC.x hC.b dL_law_593 rfl (lv_at hl 3 rfl) ?_
    refine lv_iconst (v := 0) hC.x hC.b dL_law_594 (by decide) ?_
    refine x_lald hC hw hJ dL_law_595 ?_
    refine lv_iload hC.x hC.b dL_law_596 (lv_at hl 0 rfl) ?_
    refine lv_i2l hC.x hC.b dL_law_598 rfl ?_
    refine W.lcmp hC.x hC.b dL_law_599 ?_
    refine lv_if_eq (tgt := 605) hC.x hC.b dL_law_600 (by decide) (fun _ => ?_) (fun hc => absurd (k_cmp0 hlo) hc)
    refine lv_goto (tgt := 1296) hC.x hC.b dL_law_605 (by decide) ?_
    exact kk _ _ _ _ _ _ _ (by show cells + 1 + 0 + 0 ≤ _; omega) (by show slots + 6 + 0 + 0 ≤ _; omega) hRel hw (lv_sub hl [2, 3, 4, 5, 6] rfl)
set_option maxRecDepth 100000 in
set_option maxHeartbeats 4000000 in
theorem lc_read {Γ : k_Pm} {p : Program} {l : Launch} {e : Env} {s : State} {m : MethodId} {below : List Frame} {meth : Method} {c : Code} {b L : Nat} {xs : Nat → Int32} {H : Heap} {locs : List Loc} {cells slots : Nat} {Q : State → Prop} {g : Gt} {ls : Array Slot} {o : Nat} {cJ : ClassId} {lo : Nat → Int64} {i Y : Nat} {Rel : Nat → Gt → Prop} (hC : k_C Γ (fun q => s.heap.size ≤ q) p l s m #[.ref b] c cL_law 9 wsL_law RL) (hJ : ArrOfT s cJ .long ∧ va_RA s cJ .long) (hX : va_X b L xs s s.heap) (hbl : b < s.heap.size) (hi : i + 4 < L) (hL : L ≤ 2560) (hw : k_St Γ (fun q => s.heap.size ≤ q) s (k_Lo o cJ lo) g H locs) (hl : lv_has ls 9 [(4, .int (nI i)), (3, .ref o), (2, .ref (k_ad Γ 5 0)), (1, .ref (k_ad Γ 0 0)), (0, .ref b)]) (hcs : cells + 1000 ≤ 635908 ∧ slots + 10000 ≤ 7188381) (hS : ∀ (x1 : Int32) (x2 : Int32), Sim Rel Y (fun k kw => (k = 0 ∧ kw = 0) ∨ (k = 1 ∧ kw = 1)) (f_X4_read x1 x2 g) (f_X5_read x1 x2)) (kk : ∀ (g2 : Gt) (lo2 : Nat → Int64) (H1 : Heap) (locs1 : List Loc) (ls1 : Array Slot) (c2 s2 : Nat), c2 ≤ cells + 1000 → s2 ≤ slots + 10000 → Rel (Y + 50) g2 → k_St Γ (fun q => s.heap.size ≤ q) s (k_Lo o cJ lo2) g2 H1 locs1 → lv_has ls1 9 [(4, .int (nI i)), (3, .ref o), (2, .ref (k_ad Γ 5 0)), (1, .ref (k_ad Γ 0 0)), (0, .ref b)] → W p l e room_1 s m #[.ref b] below meth c H1 locs1 c2 s2 Q (F0 m 1296 ls1 [])) : W p l e room_1 s m #[.ref b] below meth c H locs cells slots Q (F0 m 608 ls []) := by
  obtain ⟨k, r, g1, bb, g2, kw, hfx, hfm, hok, hth, hrb, hRel⟩ := hS (xs (nI i + (1 : Int32)).toNatClampNeg) (xs (nI i + (2 : Int32)).toNatClampNeg)
  refine lv_aload_n hC.x hC.b dL_law_608 rfl (lv_at hl 3 rfl) ?_
  refine lv_aload_n hC.x hC.b dL_law_609 rfl (lv_at hl 4 rfl) ?_
  refine lv_iload hC.x hC.b dL_law_610 (lv_at hl 0 rfl) ?_
  refine lv_iconst (v := (1 : Int32)) hC.x hC.b dL_law_612 (by decide) ?_
  refine lv_iadd hC.x hC.b dL_law_613 ?_
  refine va_sld hC.x hC.b hX hbl (Nat.not_le.mpr hbl) hw.2.2 (k_vi (j := 1) (by omega) (by omega)) dL_law_614 ?_
  refine lv_aload_n hC.x hC.b dL_law_615 rfl (lv_at hl 4 rfl) ?_
  refine lv_iload hC.x hC.b dL_law_616 (lv_at hl 0 rfl) ?_
  refine lv_iconst (v := (2 : Int32)) hC.x hC.b dL_law_618 (by decide) ?_
  refine lv_iadd hC.x hC.b dL_law_619 ?_
  refine va_sld hC.x hC.b hX hbl (Nat.not_le.mpr hbl) hw.2.2 (k_vi (j := 2) (by omega) (by omega)) dL_law_620 ?_
  refine lv_aload_n hC.x hC.b dL_law_621 rfl (lv_at hl 1 rfl) ?_
  refine x_goL hC hw (x_runL hC hw hJ (c_L_read (Γ := Γ) (l := l) hC.2.2.2.2 (lo := lo) hfx hok) (vx_cwSW 4 hC.t gL_law_L_read rfl rfl rfl (by decide +kernel) ⟨Nat.le_of_ble_eq_true rfl, Nat.le_of_ble_eq_true rfl⟩) (As := [.ref (k_ad Γ 0 0), .int (xs (nI i + (1 : Int32)).toNatClampNeg), .int (xs (nI i + (2 : Int32)).toNatClampNeg), .ref o]) rfl hl.1 (Nat.le_of_ble_eq_true rfl) dL_law_622 (by show cells + 2 ≤ 635908 ∧ slots + 12 ≤ 7188381; omega)) (fun H locs hw => ?_)
  refine lv_istore (lv' := [(5, .int kw), (4, .int (nI i)), (3, .ref o), (2, .ref (k_ad Γ 5 0)), (1, .ref (k_ad Γ 0 0)), (0, .ref b)]) hC.x hC.b dL_law_625 hl (by decide) rfl (fun ls hl => ?_)
  refine lv_aload_n hC.x hC.b dL_law_627 rfl (lv_at hl 3 rfl) ?_
  refine lv_aload_n hC.x hC.b dL_law_628 rfl (lv_at hl 5 rfl) ?_
  refine lv_iload hC.x hC.b dL_law_629 (lv_at hl 1 rfl) ?_
  refine lv_iconst (v := (1 : Int32)) hC.x hC.b dL_law_631 (by decide) ?_
  refine lv_iadd hC.x hC.b dL_law_632 ?_
  refine va_sld hC.x hC.b hX hbl (Nat.not_le.mpr hbl) hw.2.2 (k_vi (j := 1) (by omega) (by omega)) dL_law_633 ?_
  refine lv_aload_n hC.x hC.b dL_law_634 rfl (lv_at hl 5 rfl) ?_
  refine lv_iload hC.x hC.b dL_law_635 (lv_at hl 1 rfl) ?_
  refine lv_iconst (v := (2 : Int32)) hC.x hC.b dL_law_637 (by decide) ?_
  refine lv_iadd hC.x hC.b dL_law_638 ?_
  refine va_sld hC.x hC.b hX hbl (Nat.not_le.mpr hbl) hw.2.2 (k_vi (j := 2) (by omega) (by omega)) dL_law_639 ?_
  refine x_goi hC hw (x_runV hC hw (c_X5_read (Γ := Γ) (l := l) hC.2.2.2.2 hfm) (cwV 2 hC.t gL_law_X5_read rfl rfl rfl (by decide +kernel) ⟨Nat.le_of_ble_eq_true rfl, Nat.le_of_ble_eq_true rfl⟩) (As := [.int (xs (nI i + (1 : Int32)).toNatClampNeg), .int (xs (nI i + (2 : Int32)).toNatClampNeg)]) (by decide) (k_E5 _ _ _) rfl rfl rfl hl.1 (Nat.le_of_ble_eq_true rfl) dL_law_640 (by show cells + 2 + 0 ≤ 635908 ∧ slots + 12 + 0 ≤ 7188381; omega)) (fun H locs hw => ?_)
  refine lv_istore (lv' := [(6, .int bb), (5, .int kw), (4, .int (nI i)), (3, .ref o), (2, .ref (k_ad Γ 5 0)), (1, .ref (k_ad Γ 0 0)), (0, .ref b)]) hC.x hC.b dL_law_643 hl (by decide) rfl (fun ls hl => ?_)
  refine lv_aload_n hC.x hC.b dL_law_645 rfl (lv_at hl 4 rfl) ?_
  refine x_goi hC hw (x_runV hC hw (c_X5_thrown (Γ := Γ) (l := l) hC.2.2.2.2 (rfl : f_X5_thrown g2 = some (g2 5 0 0, g2))) (cwV 0 hC.t gL_law_X5_thrown rfl rfl rfl (by decide +kernel) ⟨Nat.le_of_ble_eq_true rfl, Nat.le_of_ble_eq_true rfl⟩) (As := []) (by decide) (k_E5 _ _ _) rfl rfl rfl hl.1 (Nat.le_of_ble_eq_true rfl) dL_law_646 (by show cells + 2 + 0 + 0 ≤ 635908 ∧ slots + 12 + 0 + 0 ≤ 7188381; omega)) (fun H locs hw => ?_)
  refine lv_iload hC.x hC.b dL_law_649 (lv_at hl 1 rfl) ?_
  refine lv_icmp_eq (tgt := 656) hC.x hC.b dL_law_651 (by decide) (fun _ => ?_) (fun hc => absurd hth hc)
  refine lv_iload hC.x hC.b dL_law_656 (lv_at hl 1 rfl) ?_
  refine lv_if_ne (tgt := 673) hC.x hC.b dL_law_658 (by decide) (fun _ => ?_) (fun hk0 => ?_)
  · refine lv_goto (tgt := 1296) hC.x hC.b dL_law_673 (by decide) ?_
    exact kk _ _ _ _ _ _ _ (by show cells + 2 + 0 + 0 ≤ _; omega) (by show slots + 12 + 0 + 0 ≤ _; omega) hRel hw (lv_sub hl [2, 3, 4, 5, 6] rfl)
  · have hk : k = 0 := by rcases hok with ⟨h1, h2⟩ | ⟨h1, h2⟩ <;> first | exact h1 | exact absurd (h2.symm.trans hk0) (by decide)
    have hlo : (if k = 0 then vp_updL lo 0 r.toInt64 else lo) 0 = bb.toInt64 := by rw [if_pos hk, hrb hk]; exact pk_uLs
    refine lv_aload_n hC.x hC.b dL_law_661 rfl (lv_at hl 3 rfl) ?_
    refine lv_iconst (v := 0) hC.x hC.b dL_law_662 (by decide) ?_
    refine x_lald hC hw hJ dL_law_663 ?_
    refine lv_iload hC.x hC.b dL_law_664 (lv_at hl 0 rfl) ?_
    refine lv_i2l hC.x hC.b dL_law_666 rfl ?_
    refine W.lcmp hC.x hC.b dL_law_667 ?_
    refine lv_if_eq (tgt := 673) hC.x hC.b dL_law_668 (by decide) (fun _ => ?_) (fun hc => absurd (k_cmp0 hlo) hc)
    refine lv_goto (tgt := 1296) hC.x hC.b dL_law_673 (by decide) ?_
    exact kk _ _ _ _ _ _ _ (by show cells + 2 + 0 + 0 ≤ _; omega) (by show slots + 12 + 0 + 0 ≤ _; omega) hRel hw (lv_sub hl [2, 3, 4, 5, 6] rfl)
set_option maxRecDepth 100000 in
set_option maxHeartbeats 4000000 in
theorem lc_remembers {Γ : k_Pm} {p : Program} {l : Launch} {e : Env} {s : State} {m : MethodId} {below : List Frame} {meth : Method} {c : Code} {b L : Nat} {xs : Nat → Int32} {H : Heap} {locs : List Loc} {cells slots : Nat} {Q : State → Prop} {g : Gt} {ls : Array Slot} {o : Nat} {cJ : ClassId} {lo : Nat → Int64} {i Y : Nat} {Rel : Nat → Gt → Prop} (hC : k_C Γ (fun q => s.heap.size ≤ q) p l s m #[.ref b] c cL_law 9 wsL_law RL) (hJ : ArrOfT s cJ .long ∧ va_RA s cJ .long) (hX : va_X b L xs s s.heap) (hbl : b < s.heap.size) (hi : i + 4 < L) (hL : L ≤ 2560) (hw : k_St Γ (fun q => s.heap.size ≤ q) s (k_Lo o cJ lo) g H locs) (hl : lv_has ls 9 [(4, .int (nI i)), (3, .ref o), (2, .ref (k_ad Γ 5 0)), (1, .ref (k_ad Γ 0 0)), (0, .ref b)]) (hcs : cells + 1000 ≤ 635908 ∧ slots + 10000 ≤ 7188381) (hS : ∀ (x1 : Int32) (x2 : Int32) (x3 : Int32), Sim Rel Y (fun k kw => (k = 0 ∧ kw = 0) ∨ (k = 1 ∧ kw = 1)) (f_X4_remembers x1 x2 x3 g) (f_X5_remembers x1 x2 x3)) (kk : ∀ (g2 : Gt) (lo2 : Nat → Int64) (H1 : Heap) (locs1 : List Loc) (ls1 : Array Slot) (c2 s2 : Nat), c2 ≤ cells + 1000 → s2 ≤ slots + 10000 → Rel (Y + 50) g2 → k_St Γ (fun q => s.heap.size ≤ q) s (k_Lo o cJ lo2) g2 H1 locs1 → lv_has ls1 9 [(4, .int (nI i)), (3, .ref o), (2, .ref (k_ad Γ 5 0)), (1, .ref (k_ad Γ 0 0)), (0, .ref b)] → W p l e room_1 s m #[.ref b] below meth c H1 locs1 c2 s2 Q (F0 m 1296 ls1 [])) : W p l e room_1 s m #[.ref b] below meth c H locs cells slots Q (F0 m 676 ls []) := by
  obtain ⟨k, r, g1, bb, g2, kw, hfx, hfm, hok, hth, hrb, hRel⟩ := hS (xs (nI i + (1 : Int32)).toNatClampNeg) (xs (nI i + (2 : Int32)).toNatClampNeg) (xs (nI i + (3 : Int32)).toNatClampNeg)
  refine lv_aload_n hC.x hC.b dL_law_676 rfl (lv_at hl 3 rfl) ?_
  refine lv_aload_n hC.x hC.b dL_law_677 rfl (lv_at hl 4 rfl) ?_
  refine lv_iload hC.x hC.b dL_law_678 (lv_at hl 0 rfl) ?_
  refine lv_iconst (v := (1 : Int32)) hC.x hC.b dL_law_680 (by decide) ?_
  refine lv_iadd hC.x hC.b dL_law_681 ?_
  refine va_sld hC.x hC.b hX hbl (Nat.not_le.mpr hbl) hw.2.2 (k_vi (j := 1) (by omega) (by omega)) dL_law_682 ?_
  refine lv_aload_n hC.x hC.b dL_law_683 rfl (lv_at hl 4 rfl) ?_
  refine lv_iload hC.x hC.b dL_law_684 (lv_at hl 0 rfl) ?_
  refine lv_iconst (v := (2 : Int32)) hC.x hC.b dL_law_686 (by decide) ?_
  refine lv_iadd hC.x hC.b dL_law_687 ?_
  refine va_sld hC.x hC.b hX hbl (Nat.not_le.mpr hbl) hw.2.2 (k_vi (j := 2) (by omega) (by omega)) dL_law_688 ?_
  refine lv_aload_n hC.x hC.b dL_law_689 rfl (lv_at hl 4 rfl) ?_
  refine lv_iload hC.x hC.b dL_law_690 (lv_at hl 0 rfl) ?_
  refine lv_iconst (v := (3 : Int32)) hC.x hC.b dL_law_692 (by decide) ?_
  refine lv_iadd hC.x hC.b dL_law_693 ?_
  refine va_sld hC.x hC.b hX hbl (Nat.not_le.mpr hbl) hw.2.2 (k_vi (j := 3) (by omega) (by omega)) dL_law_694 ?_
  refine lv_aload_n hC.x hC.b dL_law_695 rfl (lv_at hl 1 rfl) ?_
  refine x_goL hC hw (x_runL hC hw hJ (c_L_remembers (Γ := Γ) (l := l) hC.2.2.2.2 (lo := lo) hfx hok) (vx_cwSW 5 hC.t gL_law_L_remembers rfl rfl rfl (by decide +kernel) ⟨Nat.le_of_ble_eq_true rfl, Nat.le_of_ble_eq_true rfl⟩) (As := [.ref (k_ad Γ 0 0), .int (xs (nI i + (1 : Int32)).toNatClampNeg), .int (xs (nI i + (2 : Int32)).toNatClampNeg), .int (xs (nI i + (3 : Int32)).toNatClampNeg), .ref o]) rfl hl.1 (Nat.le_of_ble_eq_true rfl) dL_law_696 (by show cells + 3 ≤ 635908 ∧ slots + 18 ≤ 7188381; omega)) (fun H locs hw => ?_)
  refine lv_istore (lv' := [(5, .int kw), (4, .int (nI i)), (3, .ref o), (2, .ref (k_ad Γ 5 0)), (1, .ref (k_ad Γ 0 0)), (0, .ref b)]) hC.x hC.b dL_law_699 hl (by decide) rfl (fun ls hl => ?_)
  refine lv_aload_n hC.x hC.b dL_law_701 rfl (lv_at hl 3 rfl) ?_
  refine lv_aload_n hC.x hC.b dL_law_702 rfl (lv_at hl 5 rfl) ?_
  refine lv_iload hC.x hC.b dL_law_703 (lv_at hl 1 rfl) ?_
  refine lv_iconst (v := (1 : Int32)) hC.x hC.b dL_law_705 (by decide) ?_
  refine lv_iadd hC.x hC.b dL_law_706 ?_
  refine va_sld hC.x hC.b hX hbl (Nat.not_le.mpr hbl) hw.2.2 (k_vi (j := 1) (by omega) (by omega)) dL_law_707 ?_
  refine lv_aload_n hC.x hC.b dL_law_708 rfl (lv_at hl 5 rfl) ?_
  refine lv_iload hC.x hC.b dL_law_709 (lv_at hl 1 rfl) ?_
  refine lv_iconst (v := (2 : Int32)) hC.x hC.b dL_law_711 (by decide) ?_
  refine lv_iadd hC.x hC.b dL_law_712 ?_
  refine va_sld hC.x hC.b hX hbl (Nat.not_le.mpr hbl) hw.2.2 (k_vi (j := 2) (by omega) (by omega)) dL_law_713 ?_
  refine lv_aload_n hC.x hC.b dL_law_714 rfl (lv_at hl 5 rfl) ?_
  refine lv_iload hC.x hC.b dL_law_715 (lv_at hl 1 rfl) ?_
  refine lv_iconst (v := (3 : Int32)) hC.x hC.b dL_law_717 (by decide) ?_
  refine lv_iadd hC.x hC.b dL_law_718 ?_
  refine va_sld hC.x hC.b hX hbl (Nat.not_le.mpr hbl) hw.2.2 (k_vi (j := 3) (by omega) (by omega)) dL_law_719 ?_
  refine x_goi hC hw (x_runV hC hw (c_X5_remembers (Γ := Γ) (l := l) hC.2.2.2.2 hfm) (cwV 3 hC.t gL_law_X5_remembers rfl rfl rfl (by decide +kernel) ⟨Nat.le_of_ble_eq_true rfl, Nat.le_of_ble_eq_true rfl⟩) (As := [.int (xs (nI i + (1 : Int32)).toNatClampNeg), .int (xs (nI i + (2 : Int32)).toNatClampNeg), .int (xs (nI i + (3 : Int32)).toNatClampNeg)]) (by decide) (k_E5 _ _ _) rfl rfl rfl hl.1 (Nat.le_of_ble_eq_true rfl) dL_law_720 (by show cells + 3 + 0 ≤ 635908 ∧ slots + 18 + 0 ≤ 7188381; omega)) (fun H locs hw => ?_)
  refine lv_istore (lv' := [(6, .int bb), (5, .int kw), (4, .int (nI i)), (3, .ref o), (2, .ref (k_ad Γ 5 0)), (1, .ref (k_ad Γ 0 0)), (0, .ref b)]) hC.x hC.b dL_law_723 hl (by decide) rfl (fun ls hl => ?_)
  refine lv_aload_n hC.x hC.b dL_law_725 rfl (lv_at hl 4 rfl) ?_
  refine x_goi hC hw (x_runV hC hw (c_X5_thrown (Γ := Γ) (l := l) hC.2.2.2.2 (rfl : f_X5_thrown g2 = some (g2 5 0 0, g2))) (cwV 0 hC.t gL_law_X5_thrown rfl rfl rfl (by decide +kernel) ⟨Nat.le_of_ble_eq_true rfl, Nat.le_of_ble_eq_true rfl⟩) (As := []) (by decide) (k_E5 _ _ _) rfl rfl rfl hl.1 (Nat.le_of_ble_eq_true rfl) dL_law_726 (by show cells + 3 + 0 + 0 ≤ 635908 ∧ slots + 18 + 0 + 0 ≤ 7188381; omega)) (fun H locs hw => ?_)
  refine lv_iload hC.x hC.b dL_law_729 (lv_at hl 1 rfl) ?_
  refine lv_icmp_eq (tgt := 736) hC.x hC.b dL_law_731 (by decide) (fun _ => ?_) (fun hc => absurd hth hc)
  refine lv_iload hC.x hC.b dL_law_736 (lv_at hl 1 rfl) ?_
  refine lv_if_ne (tgt := 753) hC.x hC.b dL_law_738 (by decide) (fun _ => ?_) (fun hk0 => ?_)
  · refine lv_goto (tgt := 1296) hC.x hC.b dL_law_753 (by decide) ?_
    exact kk _ _ _ _ _ _ _ (by show cells + 3 + 0 + 0 ≤ _; omega) (by show slots + 18 + 0 + 0 ≤ _; omega) hRel hw (lv_sub hl [2, 3, 4, 5, 6] rfl)
  · have hk : k = 0 := by rcases hok with ⟨h1, h2⟩ | ⟨h1, h2⟩ <;> first | exact h1 | exact absurd (h2.symm.trans hk0) (by decide)
    have hlo : (if k = 0 then vp_updL lo 0 r.toInt64 else lo) 0 = bb.toInt64 := by rw [if_pos hk, hrb hk]; exact pk_uLs
    refine lv_aload_n hC.x hC.b dL_law_741 rfl (lv_at hl 3 rfl) ?_
    refine lv_iconst (v := 0) hC.x hC.b dL_law_742 (by decide) ?_
    refine x_lald hC hw hJ dL_law_743 ?_
    refine lv_iload hC.x hC.b dL_law_744 (lv_at hl 0 rfl) ?_
    refine lv_i2l hC.x hC.b dL_law_746 rfl ?_
    refine W.lcmp hC.x hC.b dL_law_747 ?_
    refine lv_if_eq (tgt := 753) hC.x hC.b dL_law_748 (by decide) (fun _ => ?_) (fun hc => absurd (k_cmp0 hlo) hc)
    refine lv_goto (tgt := 1296) hC.x hC.b dL_law_753 (by decide) ?_
    exact kk _ _ _ _ _ _ _ (by show cells + 3 + 0 + 0 ≤ _; omega) (by show slots + 18 + 0 + 0 ≤ _; omega) hRel hw (lv_sub hl [2, 3, 4, 5, 6] rfl)
set_option maxRecDepth 100000 in
set_option maxHeartbeats 4000000 in
theorem lc_trust {Γ : k_Pm} {p : Program} {l : Launch} {e : Env} {s : State} {m : MethodId} {below : List Frame} {meth : Method} {c : Code} {b L : Nat} {xs : Nat → Int32} {H : Heap} {locs : List Loc} {cells slots : Nat} {Q : State → Prop} {g : Gt} {ls : Array Slot} {o : Nat} {cJ : ClassId} {lo : Nat → Int64} {i Y : Nat} {Rel : Nat → Gt → Prop} (hC : k_C Γ (fun q => s.heap.size ≤ q) p l s m #[.ref b] c cL_law 9 wsL_law RL) (hJ : ArrOfT s cJ .long ∧ va_RA s cJ .long) (hX : va_X b L xs s s.heap) (hbl : b < s.heap.size) (hi : i + 4 < L) (hL : L ≤ 2560) (hw : k_St Γ (fun q => s.heap.size ≤ q) s (k_Lo o cJ lo) g H locs) (hl : lv_has ls 9 [(4, .int (nI i)), (3, .ref o), (2, .ref (k_ad Γ 5 0)), (1, .ref (k_ad Γ 0 0)), (0, .ref b)]) (hcs : cells + 1000 ≤ 635908 ∧ slots + 10000 ≤ 7188381) (hS : ∀ (x1 : Int32), Sim Rel Y (fun k kw => (k = 0 ∧ kw = 0) ∨ (k = 1 ∧ kw = 1)) (f_X4_trust x1 g) (f_X5_trust x1)) (kk : ∀ (g2 : Gt) (lo2 : Nat → Int64) (H1 : Heap) (locs1 : List Loc) (ls1 : Array Slot) (c2 s2 : Nat), c2 ≤ cells + 1000 → s2 ≤ slots + 10000 → Rel (Y + 50) g2 → k_St Γ (fun q => s.heap.size ≤ q) s (k_Lo o cJ lo2) g2 H1 locs1 → lv_has ls1 9 [(4, .int (nI i)), (3, .ref o), (2, .ref (k_ad Γ 5 0)), (1, .ref (k_ad Γ 0 0)), (0, .ref b)] → W p l e room_1 s m #[.ref b] below meth c H1 locs1 c2 s2 Q (F0 m 1296 ls1 [])) : W p l e room_1 s m #[.ref b] below meth c H locs cells slots Q (F0 m 756 ls []) := by
  obtain ⟨k, r, g1, bb, g2, kw, hfx, hfm, hok, hth, hrb, hRel⟩ := hS (xs (nI i + (1 : Int32)).toNatClampNeg)
  refine lv_aload_n hC.x hC.b dL_law_756 rfl (lv_at hl 3 rfl) ?_
  refine lv_aload_n hC.x hC.b dL_law_757 rfl (lv_at hl 4 rfl) ?_
  refine lv_iload hC.x hC.b dL_law_758 (lv_at hl 0 rfl) ?_
  refine lv_iconst (v := (1 : Int32)) hC.x hC.b dL_law_760 (by decide) ?_
  refine lv_iadd hC.x hC.b dL_law_761 ?_
  refine va_sld hC.x hC.b hX hbl (Nat.not_le.mpr hbl) hw.2.2 (k_vi (j := 1) (by omega) (by omega)) dL_law_762 ?_
  refine lv_aload_n hC.x hC.b dL_law_763 rfl (lv_at hl 1 rfl) ?_
  refine x_goL hC hw (x_runL hC hw hJ (c_L_trust (Γ := Γ) (l := l) hC.2.2.2.2 (lo := lo) hfx hok) (vx_cwSW 3 hC.t gL_law_L_trust rfl rfl rfl (by decide +kernel) ⟨Nat.le_of_ble_eq_true rfl, Nat.le_of_ble_eq_true rfl⟩) (As := [.ref (k_ad Γ 0 0), .int (xs (nI i + (1 : Int32)).toNatClampNeg), .ref o]) rfl hl.1 (Nat.le_of_ble_eq_true rfl) dL_law_764 (by show cells + 1 ≤ 635908 ∧ slots + 6 ≤ 7188381; omega)) (fun H locs hw => ?_)
  refine lv_istore (lv' := [(5, .int kw), (4, .int (nI i)), (3, .ref o), (2, .ref (k_ad Γ 5 0)), (1, .ref (k_ad Γ 0 0)), (0, .ref b)]) hC.x hC.b dL_law_767 hl (by decide) rfl (fun ls hl => ?_)
  refine lv_aload_n hC.x hC.b dL_law_769 rfl (lv_at hl 3 rfl) ?_
  refine lv_aload_n hC.x hC.b dL_law_770 rfl (lv_at hl 5 rfl) ?_
  refine lv_iload hC.x hC.b dL_law_771 (lv_at hl 1 rfl) ?_
  refine lv_iconst (v := (1 : Int32)) hC.x hC.b dL_law_773 (by decide) ?_
  refine lv_iadd hC.x hC.b dL_law_774 ?_
  refine va_sld hC.x hC.b hX hbl (Nat.not_le.mpr hbl) hw.2.2 (k_vi (j := 1) (by omega) (by omega)) dL_law_775 ?_
  refine x_goi hC hw (x_runV hC hw (c_X5_trust (Γ := Γ) (l := l) hC.2.2.2.2 hfm) (cwV 1 hC.t gL_law_X5_trust rfl rfl rfl (by decide +kernel) ⟨Nat.le_of_ble_eq_true rfl, Nat.le_of_ble_eq_true rfl⟩) (As := [.int (xs (nI i + (1 : Int32)).toNatClampNeg)]) (by decide) (k_E5 _ _ _) rfl rfl rfl hl.1 (Nat.le_of_ble_eq_true rfl) dL_law_776 (by show cells + 1 + 0 ≤ 635908 ∧ slots + 6 + 0 ≤ 7188381; omega)) (fun H locs hw => ?_)
  refine lv_istore (lv' := [(6, .int bb), (5, .int kw), (4, .int (nI i)), (3, .ref o), (2, .ref (k_ad Γ 5 0)), (1, .ref (k_ad Γ 0 0)), (0, .ref b)]) hC.x hC.b dL_law_779 hl (by decide) rfl (fun ls hl => ?_)
  refine lv_aload_n hC.x hC.b dL_law_781 rfl (lv_at hl 4 rfl) ?_
  refine x_goi hC hw (x_runV hC hw (c_X5_thrown (Γ := Γ) (l := l) hC.2.2.2.2 (rfl : f_X5_thrown g2 = some (g2 5 0 0, g2))) (cwV 0 hC.t gL_law_X5_thrown rfl rfl rfl (by decide +kernel) ⟨Nat.le_of_ble_eq_true rfl, Nat.le_of_ble_eq_true rfl⟩) (As := []) (by decide) (k_E5 _ _ _) rfl rfl rfl hl.1 (Nat.le_of_ble_eq_true rfl) dL_law_782 (by show cells + 1 + 0 + 0 ≤ 635908 ∧ slots + 6 + 0 + 0 ≤ 7188381; omega)) (fun H locs hw => ?_)
  refine lv_iload hC.x hC.b dL_law_785 (lv_at hl 1 rfl) ?_
  refine lv_icmp_eq (tgt := 792) hC.x hC.b dL_law_787 (by decide) (fun _ => ?_) (fun hc => absurd hth hc)
  refine lv_iload hC.x hC.b dL_law_792 (lv_at hl 1 rfl) ?_
  refine lv_if_ne (tgt := 809) hC.x hC.b dL_law_794 (by decide) (fun _ => ?_) (fun hk0 => ?_)
  · refine lv_goto (tgt := 1296) hC.x hC.b dL_law_809 (by decide) ?_
    exact kk _ _ _ _ _ _ _ (by show cells + 1 + 0 + 0 ≤ _; omega) (by show slots + 6 + 0 + 0 ≤ _; omega) hRel hw (lv_sub hl [2, 3, 4, 5, 6] rfl)
  · have hk : k = 0 := by rcases hok with ⟨h1, h2⟩ | ⟨h1, h2⟩ <;> first | exact h1 | exact absurd (h2.symm.trans hk0) (by decide)
    have hlo : (if k = 0 then vp_updL lo 0 r.toInt64 else lo) 0 = bb.toInt64 := by rw [if_pos hk, hrb hk]; exact pk_uLs
    refine lv_aload_n hC.x hC.b dL_law_797 rfl (lv_at hl 3 rfl) ?_
    refine lv_iconst (v := 0) hC.x hC.b dL_law_798 (by decide) ?_
    refine x_lald hC hw hJ dL_law_799 ?_
    refine lv_iload hC.x hC.b dL_law_800 (lv_at hl 0 rfl) ?_
    refine lv_i2l hC.x hC.b dL_law_802 rfl ?_
    refine W.lcmp hC.x hC.b dL_law_803 ?_
    refine lv_if_eq (tgt := 809) hC.x hC.b dL_law_804 (by decide) (fun _ => ?_) (fun hc => absurd (k_cmp0 hlo) hc)
    refine lv_goto (tgt := 1296) hC.x hC.b dL_law_809 (by decide) ?_
    exact kk _ _ _ _ _ _ _ (by show cells + 1 + 0 + 0 ≤ _; omega) (by show slots + 6 + 0 + 0 ≤ _; omega) hRel hw (lv_sub hl [2, 3, 4, 5, 6] rfl)
set_option maxRecDepth 100000 in
set_option maxHeartbeats 4000000 in
theorem lc_dispute {Γ : k_Pm} {p : Program} {l : Launch} {e : Env} {s : State} {m : MethodId} {below : List Frame} {meth : Method} {c : Code} {b L : Nat} {xs : Nat → Int32} {H : Heap} {locs : List Loc} {cells slots : Nat} {Q : State → Prop} {g : Gt} {ls : Array Slot} {o : Nat} {cJ : ClassId} {lo : Nat → Int64} {i Y : Nat} {Rel : Nat → Gt → Prop} (hC : k_C Γ (fun q => s.heap.size ≤ q) p l s m #[.ref b] c cL_law 9 wsL_law RL) (hJ : ArrOfT s cJ .long ∧ va_RA s cJ .long) (hX : va_X b L xs s s.heap) (hbl : b < s.heap.size) (hi : i + 4 < L) (hL : L ≤ 2560) (hw : k_St Γ (fun q => s.heap.size ≤ q) s (k_Lo o cJ lo) g H locs) (hl : lv_has ls 9 [(4, .int (nI i)), (3, .ref o), (2, .ref (k_ad Γ 5 0)), (1, .ref (k_ad Γ 0 0)), (0, .ref b)]) (hcs : cells + 1000 ≤ 635908 ∧ slots + 10000 ≤ 7188381) (hS : ∀ (x1 : Int32), Sim Rel Y (fun k kw => (k = 0 ∧ kw = 0) ∨ (k = 1 ∧ kw = 1) ∨ (k = 3 ∧ kw = 2)) (f_X4_dispute x1 g) (f_X5_dispute x1)) (kk : ∀ (g2 : Gt) (lo2 : Nat → Int64) (H1 : Heap) (locs1 : List Loc) (ls1 : Array Slot) (c2 s2 : Nat), c2 ≤ cells + 1000 → s2 ≤ slots + 10000 → Rel (Y + 50) g2 → k_St Γ (fun q => s.heap.size ≤ q) s (k_Lo o cJ lo2) g2 H1 locs1 → lv_has ls1 9 [(4, .int (nI i)), (3, .ref o), (2, .ref (k_ad Γ 5 0)), (1, .ref (k_ad Γ 0 0)), (0, .ref b)] → W p l e room_1 s m #[.ref b] below meth c H1 locs1 c2 s2 Q (F0 m 1296 ls1 [])) : W p l e room_1 s m #[.ref b] below meth c H locs cells slots Q (F0 m 812 ls []) := by
  obtain ⟨k, r, g1, bb, g2, kw, hfx, hfm, hok, hth, hrb, hRel⟩ := hS (xs (nI i + (1 : Int32)).toNatClampNeg)
  refine lv_aload_n hC.x hC.b dL_law_812 rfl (lv_at hl 3 rfl) ?_
  refine lv_aload_n hC.x hC.b dL_law_813 rfl (lv_at hl 4 rfl) ?_
  refine lv_iload hC.x hC.b dL_law_814 (lv_at hl 0 rfl) ?_
  refine lv_iconst (v := (1 : Int32)) hC.x hC.b dL_law_816 (by decide) ?_
  refine lv_iadd hC.x hC.b dL_law_817 ?_
  refine va_sld hC.x hC.b hX hbl (Nat.not_le.mpr hbl) hw.2.2 (k_vi (j := 1) (by omega) (by omega)) dL_law_818 ?_
  refine lv_aload_n hC.x hC.b dL_law_819 rfl (lv_at hl 1 rfl) ?_
  refine x_goL hC hw (x_runL hC hw hJ (c_L_dispute (Γ := Γ) (l := l) hC.2.2.2.2 (lo := lo) hfx hok) (vx_cwSW 3 hC.t gL_law_L_dispute rfl rfl rfl (by decide +kernel) ⟨Nat.le_of_ble_eq_true rfl, Nat.le_of_ble_eq_true rfl⟩) (As := [.ref (k_ad Γ 0 0), .int (xs (nI i + (1 : Int32)).toNatClampNeg), .ref o]) rfl hl.1 (Nat.le_of_ble_eq_true rfl) dL_law_820 (by show cells + 2 ≤ 635908 ∧ slots + 12 ≤ 7188381; omega)) (fun H locs hw => ?_)
  refine lv_istore (lv' := [(5, .int kw), (4, .int (nI i)), (3, .ref o), (2, .ref (k_ad Γ 5 0)), (1, .ref (k_ad Γ 0 0)), (0, .ref b)]) hC.x hC.b dL_law_823 hl (by decide) rfl (fun ls hl => ?_)
  refine lv_aload_n hC.x hC.b dL_law_825 rfl (lv_at hl 3 rfl) ?_
  refine lv_aload_n hC.x hC.b dL_law_826 rfl (lv_at hl 5 rfl) ?_
  refine lv_iload hC.x hC.b dL_law_827 (lv_at hl 1 rfl) ?_
  refine lv_iconst (v := (1 : Int32)) hC.x hC.b dL_law_829 (by decide) ?_
  refine lv_iadd hC.x hC.b dL_law_830 ?_
  refine va_sld hC.x hC.b hX hbl (Nat.not_le.mpr hbl) hw.2.2 (k_vi (j := 1) (by omega) (by omega)) dL_law_831 ?_
  refine x_goi hC hw (x_runV hC hw (c_X5_dispute (Γ := Γ) (l := l) hC.2.2.2.2 hfm) (cwV 1 hC.t gL_law_X5_dispute rfl rfl rfl (by decide +kernel) ⟨Nat.le_of_ble_eq_true rfl, Nat.le_of_ble_eq_true rfl⟩) (As := [.int (xs (nI i + (1 : Int32)).toNatClampNeg)]) (by decide) (k_E5 _ _ _) rfl rfl rfl hl.1 (Nat.le_of_ble_eq_true rfl) dL_law_832 (by show cells + 2 + 0 ≤ 635908 ∧ slots + 12 + 0 ≤ 7188381; omega)) (fun H locs hw => ?_)
  refine lv_istore (lv' := [(6, .int bb), (5, .int kw), (4, .int (nI i)), (3, .ref o), (2, .ref (k_ad Γ 5 0)), (1, .ref (k_ad Γ 0 0)), (0, .ref b)]) hC.x hC.b dL_law_835 hl (by decide) rfl (fun ls hl => ?_)
  refine lv_aload_n hC.x hC.b dL_law_837 rfl (lv_at hl 4 rfl) ?_
  refine x_goi hC hw (x_runV hC hw (c_X5_thrown (Γ := Γ) (l := l) hC.2.2.2.2 (rfl : f_X5_thrown g2 = some (g2 5 0 0, g2))) (cwV 0 hC.t gL_law_X5_thrown rfl rfl rfl (by decide +kernel) ⟨Nat.le_of_ble_eq_true rfl, Nat.le_of_ble_eq_true rfl⟩) (As := []) (by decide) (k_E5 _ _ _) rfl rfl rfl hl.1 (Nat.le_of_ble_eq_true rfl) dL_law_838 (by show cells + 2 + 0 + 0 ≤ 635908 ∧ slots + 12 + 0 + 0 ≤ 7188381; omega)) (fun H locs hw => ?_)
  refine lv_iload hC.x hC.b dL_law_841 (lv_at hl 1 rfl) ?_
  refine lv_icmp_eq (tgt := 848) hC.x hC.b dL_law_843 (by decide) (fun _ => ?_) (fun hc => absurd hth hc)
  refine lv_iload hC.x hC.b dL_law_848 (lv_at hl 1 rfl) ?_
  refine lv_if_ne (tgt := 865) hC.x hC.b dL_law_850 (by decide) (fun _ => ?_) (fun hk0 => ?_)
  · refine lv_goto (tgt := 1296) hC.x hC.b dL_law_865 (by decide) ?_
    exact kk _ _ _ _ _ _ _ (by show cells + 2 + 0 + 0 ≤ _; omega) (by show slots + 12 + 0 + 0 ≤ _; omega) hRel hw (lv_sub hl [2, 3, 4, 5, 6] rfl)
  · have hk : k = 0 := by rcases hok with ⟨h1, h2⟩ | ⟨h1, h2⟩ | ⟨h1, h2⟩ <;> first | exact h1 | exact absurd (h2.symm.trans hk0) (by decide)
    have hlo : (if k = 0 then vp_updL lo 0 r.toInt64 else lo) 0 = bb.toInt64 := by rw [if_pos hk, hrb hk]; exact pk_uLs
    refine lv_aload_n hC.x hC.b dL_law_853 rfl (lv_at hl 3 rfl) ?_
    refine lv_iconst (v := 0) hC.x hC.b dL_law_854 (by decide) ?_
    refine x_lald hC hw hJ dL_law_855 ?_
    refine lv_iload hC.x hC.b dL_law_856 (lv_at hl 0 rfl) ?_
    refine lv_i2l hC.x hC.b dL_law_858 rfl ?_
    refine W.lcmp hC.x hC.b dL_law_859 ?_
    refine lv_if_eq (tgt := 865) hC.x hC.b dL_law_860 (by decide) (fun _ => ?_) (fun hc => absurd (k_cmp0 hlo) hc)
    refine lv_goto (tgt := 1296) hC.x hC.b dL_law_865 (by decide) ?_
    exact kk _ _ _ _ _ _ _ (by show cells + 2 + 0 + 0 ≤ _; omega) (by show slots + 12 + 0 + 0 ≤ _; omega) hRel hw (lv_sub hl [2, 3, 4, 5, 6] rfl)
set_option maxRecDepth 100000 in
set_option maxHeartbeats 4000000 in
theorem lc_untying {Γ : k_Pm} {p : Program} {l : Launch} {e : Env} {s : State} {m : MethodId} {below : List Frame} {meth : Method} {c : Code} {b L : Nat} {xs : Nat → Int32} {H : Heap} {locs : List Loc} {cells slots : Nat} {Q : State → Prop} {g : Gt} {ls : Array Slot} {o : Nat} {cJ : ClassId} {lo : Nat → Int64} {i Y : Nat} {Rel : Nat → Gt → Prop} (hC : k_C Γ (fun q => s.heap.size ≤ q) p l s m #[.ref b] c cL_law 9 wsL_law RL) (hJ : ArrOfT s cJ .long ∧ va_RA s cJ .long) (hX : va_X b L xs s s.heap) (hbl : b < s.heap.size) (hi : i + 4 < L) (hL : L ≤ 2560) (hw : k_St Γ (fun q => s.heap.size ≤ q) s (k_Lo o cJ lo) g H locs) (hl : lv_has ls 9 [(4, .int (nI i)), (3, .ref o), (2, .ref (k_ad Γ 5 0)), (1, .ref (k_ad Γ 0 0)), (0, .ref b)]) (hcs : cells + 1000 ≤ 635908 ∧ slots + 10000 ≤ 7188381) (hS : ∀ (x1 : Int32) (x2 : Int32), Sim Rel Y (fun k kw => (k = 0 ∧ kw = 0) ∨ (k = 1 ∧ kw = 1)) (f_X4_untying x1 x2 g) (f_X5_untying x1 x2)) (kk : ∀ (g2 : Gt) (lo2 : Nat → Int64) (H1 : Heap) (locs1 : List Loc) (ls1 : Array Slot) (c2 s2 : Nat), c2 ≤ cells + 1000 → s2 ≤ slots + 10000 → Rel (Y + 50) g2 → k_St Γ (fun q => s.heap.size ≤ q) s (k_Lo o cJ lo2) g2 H1 locs1 → lv_has ls1 9 [(4, .int (nI i)), (3, .ref o), (2, .ref (k_ad Γ 5 0)), (1, .ref (k_ad Γ 0 0)), (0, .ref b)] → W p l e room_1 s m #[.ref b] below meth c H1 locs1 c2 s2 Q (F0 m 1296 ls1 [])) : W p l e room_1 s m #[.ref b] below meth c H locs cells slots Q (F0 m 868 ls []) := by
  obtain ⟨k, r, g1, bb, g2, kw, hfx, hfm, hok, hth, hrb, hRel⟩ := hS (xs (nI i + (1 : Int32)).toNatClampNeg) (xs (nI i + (2 : Int32)).toNatClampNeg)
  refine lv_aload_n hC.x hC.b dL_law_868 rfl (lv_at hl 3 rfl) ?_
  refine lv_aload_n hC.x hC.b dL_law_869 rfl (lv_at hl 4 rfl) ?_
  refine lv_iload hC.x hC.b dL_law_870 (lv_at hl 0 rfl) ?_
  refine lv_iconst (v := (1 : Int32)) hC.x hC.b dL_law_872 (by decide) ?_
  refine lv_iadd hC.x hC.b dL_law_873 ?_
  refine va_sld hC.x hC.b hX hbl (Nat.not_le.mpr hbl) hw.2.2 (k_vi (j := 1) (by omega) (by omega)) dL_law_874 ?_
  refine lv_aload_n hC.x hC.b dL_law_875 rfl (lv_at hl 4 rfl) ?_
  refine lv_iload hC.x hC.b dL_law_876 (lv_at hl 0 rfl) ?_
  refine lv_iconst (v := (2 : Int32)) hC.x hC.b dL_law_878 (by decide) ?_
  refine lv_iadd hC.x hC.b dL_law_879 ?_
  refine va_sld hC.x hC.b hX hbl (Nat.not_le.mpr hbl) hw.2.2 (k_vi (j := 2) (by omega) (by omega)) dL_law_880 ?_
  refine lv_aload_n hC.x hC.b dL_law_881 rfl (lv_at hl 1 rfl) ?_
  refine x_goL hC hw (x_runL hC hw hJ (c_L_untying (Γ := Γ) (l := l) hC.2.2.2.2 (lo := lo) hfx hok) (vx_cwSW 4 hC.t gL_law_L_untying rfl rfl rfl (by decide +kernel) ⟨Nat.le_of_ble_eq_true rfl, Nat.le_of_ble_eq_true rfl⟩) (As := [.ref (k_ad Γ 0 0), .int (xs (nI i + (1 : Int32)).toNatClampNeg), .int (xs (nI i + (2 : Int32)).toNatClampNeg), .ref o]) rfl hl.1 (Nat.le_of_ble_eq_true rfl) dL_law_882 (by show cells + 1 ≤ 635908 ∧ slots + 6 ≤ 7188381; omega)) (fun H locs hw => ?_)
  refine lv_istore (lv' := [(5, .int kw), (4, .int (nI i)), (3, .ref o), (2, .ref (k_ad Γ 5 0)), (1, .ref (k_ad Γ 0 0)), (0, .ref b)]) hC.x hC.b dL_law_885 hl (by decide) rfl (fun ls hl => ?_)
  refine lv_aload_n hC.x hC.b dL_law_887 rfl (lv_at hl 3 rfl) ?_
  refine lv_aload_n hC.x hC.b dL_law_888 rfl (lv_at hl 5 rfl) ?_
  refine lv_iload hC.x hC.b dL_law_889 (lv_at hl 1 rfl) ?_
  refine lv_iconst (v := (1 : Int32)) hC.x hC.b dL_law_891 (by decide) ?_
  refine lv_iadd hC.x hC.b dL_law_892 ?_
  refine va_sld hC.x hC.b hX hbl (Nat.not_le.mpr hbl) hw.2.2 (k_vi (j := 1) (by omega) (by omega)) dL_law_893 ?_
  refine lv_aload_n hC.x hC.b dL_law_894 rfl (lv_at hl 5 rfl) ?_
  refine lv_iload hC.x hC.b dL_law_895 (lv_at hl 1 rfl) ?_
  refine lv_iconst (v := (2 : Int32)) hC.x hC.b dL_law_897 (by decide) ?_
  refine lv_iadd hC.x hC.b dL_law_898 ?_
  refine va_sld hC.x hC.b hX hbl (Nat.not_le.mpr hbl) hw.2.2 (k_vi (j := 2) (by omega) (by omega)) dL_law_899 ?_
  refine x_goi hC hw (x_runV hC hw (c_X5_untying (Γ := Γ) (l := l) hC.2.2.2.2 hfm) (cwV 2 hC.t gL_law_X5_untying rfl rfl rfl (by decide +kernel) ⟨Nat.le_of_ble_eq_true rfl, Nat.le_of_ble_eq_true rfl⟩) (As := [.int (xs (nI i + (1 : Int32)).toNatClampNeg), .int (xs (nI i + (2 : Int32)).toNatClampNeg)]) (by decide) (k_E5 _ _ _) rfl rfl rfl hl.1 (Nat.le_of_ble_eq_true rfl) dL_law_900 (by show cells + 1 + 0 ≤ 635908 ∧ slots + 6 + 0 ≤ 7188381; omega)) (fun H locs hw => ?_)
  refine lv_istore (lv' := [(6, .int bb), (5, .int kw), (4, .int (nI i)), (3, .ref o), (2, .ref (k_ad Γ 5 0)), (1, .ref (k_ad Γ 0 0)), (0, .ref b)]) hC.x hC.b dL_law_903 hl (by decide) rfl (fun ls hl => ?_)
  refine lv_aload_n hC.x hC.b dL_law_905 rfl (lv_at hl 4 rfl) ?_
  refine x_goi hC hw (x_runV hC hw (c_X5_thrown (Γ := Γ) (l := l) hC.2.2.2.2 (rfl : f_X5_thrown g2 = some (g2 5 0 0, g2))) (cwV 0 hC.t gL_law_X5_thrown rfl rfl rfl (by decide +kernel) ⟨Nat.le_of_ble_eq_true rfl, Nat.le_of_ble_eq_true rfl⟩) (As := []) (by decide) (k_E5 _ _ _) rfl rfl rfl hl.1 (Nat.le_of_ble_eq_true rfl) dL_law_906 (by show cells + 1 + 0 + 0 ≤ 635908 ∧ slots + 6 + 0 + 0 ≤ 7188381; omega)) (fun H locs hw => ?_)
  refine lv_iload hC.x hC.b dL_law_909 (lv_at hl 1 rfl) ?_
  refine lv_icmp_eq (tgt := 916) hC.x hC.b dL_law_911 (by decide) (fun _ => ?_) (fun hc => absurd hth hc)
  refine lv_iload hC.x hC.b dL_law_916 (lv_at hl 1 rfl) ?_
  refine lv_if_ne (tgt := 933) hC.x hC.b dL_law_918 (by decide) (fun _ => ?_) (fun hk0 => ?_)
  · refine lv_goto (tgt := 1296) hC.x hC.b dL_law_933 (by decide) ?_
    exact kk _ _ _ _ _ _ _ (by show cells + 1 + 0 + 0 ≤ _; omega) (by show slots + 6 + 0 + 0 ≤ _; omega) hRel hw (lv_sub hl [2, 3, 4, 5, 6] rfl)
  · have hk : k = 0 := by rcases hok with ⟨h1, h2⟩ | ⟨h1, h2⟩ <;> first | exact h1 | exact absurd (h2.symm.trans hk0) (by decide)
    have hlo : (if k = 0 then vp_updL lo 0 r.toInt64 else lo) 0 = bb.toInt64 := by rw [if_pos hk, hrb hk]; exact pk_uLs
    refine lv_aload_n hC.x hC.b dL_law_921 rfl (lv_at hl 3 rfl) ?_
    refine lv_iconst (v := 0) hC.x hC.b dL_law_922 (by decide) ?_
    refine x_lald hC hw hJ dL_law_923 ?_
    refine lv_iload hC.x hC.b dL_law_924 (lv_at hl 0 rfl) ?_
    refine lv_i2l hC.x hC.b dL_law_926 rfl ?_
    refine W.lcmp hC.x hC.b dL_law_927 ?_
    refine lv_if_eq (tgt := 933) hC.x hC.b dL_law_928 (by decide) (fun _ => ?_) (fun hc => absurd (k_cmp0 hlo) hc)
    refine lv_goto (tgt := 1296) hC.x hC.b dL_law_933 (by decide) ?_
    exact kk _ _ _ _ _ _ _ (by show cells + 1 + 0 + 0 ≤ _; omega) (by show slots + 6 + 0 + 0 ≤ _; omega) hRel hw (lv_sub hl [2, 3, 4, 5, 6] rfl)
set_option maxRecDepth 100000 in
set_option maxHeartbeats 4000000 in
theorem lc_pass {Γ : k_Pm} {p : Program} {l : Launch} {e : Env} {s : State} {m : MethodId} {below : List Frame} {meth : Method} {c : Code} {b L : Nat} {xs : Nat → Int32} {H : Heap} {locs : List Loc} {cells slots : Nat} {Q : State → Prop} {g : Gt} {ls : Array Slot} {o : Nat} {cJ : ClassId} {lo : Nat → Int64} {i Y : Nat} {Rel : Nat → Gt → Prop} (hC : k_C Γ (fun q => s.heap.size ≤ q) p l s m #[.ref b] c cL_law 9 wsL_law RL) (hJ : ArrOfT s cJ .long ∧ va_RA s cJ .long) (hX : va_X b L xs s s.heap) (hbl : b < s.heap.size) (hi : i + 4 < L) (hL : L ≤ 2560) (hw : k_St Γ (fun q => s.heap.size ≤ q) s (k_Lo o cJ lo) g H locs) (hl : lv_has ls 9 [(4, .int (nI i)), (3, .ref o), (2, .ref (k_ad Γ 5 0)), (1, .ref (k_ad Γ 0 0)), (0, .ref b)]) (hcs : cells + 1000 ≤ 635908 ∧ slots + 10000 ≤ 7188381) (hS : ∀ (x1 : Int32), Sim Rel Y (fun k kw => (k = 0 ∧ kw = 0) ∨ (k = 2 ∧ kw = 1)) (f_X4_pass x1 g) (f_X5_pass x1)) (kk : ∀ (g2 : Gt) (lo2 : Nat → Int64) (H1 : Heap) (locs1 : List Loc) (ls1 : Array Slot) (c2 s2 : Nat), c2 ≤ cells + 1000 → s2 ≤ slots + 10000 → Rel (Y + 50) g2 → k_St Γ (fun q => s.heap.size ≤ q) s (k_Lo o cJ lo2) g2 H1 locs1 → lv_has ls1 9 [(4, .int (nI i)), (3, .ref o), (2, .ref (k_ad Γ 5 0)), (1, .ref (k_ad Γ 0 0)), (0, .ref b)] → W p l e room_1 s m #[.ref b] below meth c H1 locs1 c2 s2 Q (F0 m 1296 ls1 [])) : W p l e room_1 s m #[.ref b] below meth c H locs cells slots Q (F0 m 936 ls []) := by
  obtain ⟨k, r, g1, bb, g2, kw, hfx, hfm, hok, hth, hrb, hRel⟩ := hS (xs (nI i + (1 : Int32)).toNatClampNeg)
  refine lv_aload_n hC.x hC.b dL_law_936 rfl (lv_at hl 3 rfl) ?_
  refine lv_aload_n hC.x hC.b dL_law_937 rfl (lv_at hl 4 rfl) ?_
  refine lv_iload hC.x hC.b dL_law_938 (lv_at hl 0 rfl) ?_
  refine lv_iconst (v := (1 : Int32)) hC.x hC.b dL_law_940 (by decide) ?_
  refine lv_iadd hC.x hC.b dL_law_941 ?_
  refine va_sld hC.x hC.b hX hbl (Nat.not_le.mpr hbl) hw.2.2 (k_vi (j := 1) (by omega) (by omega)) dL_law_942 ?_
  refine lv_aload_n hC.x hC.b dL_law_943 rfl (lv_at hl 1 rfl) ?_
  refine x_goL hC hw (x_runL hC hw hJ (c_L_pass (Γ := Γ) (l := l) hC.2.2.2.2 (lo := lo) hfx hok) (vx_cwSW 3 hC.t gL_law_L_pass rfl rfl rfl (by decide +kernel) ⟨Nat.le_of_ble_eq_true rfl, Nat.le_of_ble_eq_true rfl⟩) (As := [.ref (k_ad Γ 0 0), .int (xs (nI i + (1 : Int32)).toNatClampNeg), .ref o]) rfl hl.1 (Nat.le_of_ble_eq_true rfl) dL_law_944 (by show cells + 1 ≤ 635908 ∧ slots + 6 ≤ 7188381; omega)) (fun H locs hw => ?_)
  refine lv_istore (lv' := [(5, .int kw), (4, .int (nI i)), (3, .ref o), (2, .ref (k_ad Γ 5 0)), (1, .ref (k_ad Γ 0 0)), (0, .ref b)]) hC.x hC.b dL_law_947 hl (by decide) rfl (fun ls hl => ?_)
  refine lv_aload_n hC.x hC.b dL_law_949 rfl (lv_at hl 3 rfl) ?_
  refine lv_aload_n hC.x hC.b dL_law_950 rfl (lv_at hl 5 rfl) ?_
  refine lv_iload hC.x hC.b dL_law_951 (lv_at hl 1 rfl) ?_
  refine lv_iconst (v := (1 : Int32)) hC.x hC.b dL_law_953 (by decide) ?_
  refine lv_iadd hC.x hC.b dL_law_954 ?_
  refine va_sld hC.x hC.b hX hbl (Nat.not_le.mpr hbl) hw.2.2 (k_vi (j := 1) (by omega) (by omega)) dL_law_955 ?_
  refine x_goi hC hw (x_runV hC hw (c_X5_pass (Γ := Γ) (l := l) hC.2.2.2.2 hfm) (cwV 1 hC.t gL_law_X5_pass rfl rfl rfl (by decide +kernel) ⟨Nat.le_of_ble_eq_true rfl, Nat.le_of_ble_eq_true rfl⟩) (As := [.int (xs (nI i + (1 : Int32)).toNatClampNeg)]) (by decide) (k_E5 _ _ _) rfl rfl rfl hl.1 (Nat.le_of_ble_eq_true rfl) dL_law_956 (by show cells + 1 + 0 ≤ 635908 ∧ slots + 6 + 0 ≤ 7188381; omega)) (fun H locs hw => ?_)
  refine lv_istore (lv' := [(6, .int bb), (5, .int kw), (4, .int (nI i)), (3, .ref o), (2, .ref (k_ad Γ 5 0)), (1, .ref (k_ad Γ 0 0)), (0, .ref b)]) hC.x hC.b dL_law_959 hl (by decide) rfl (fun ls hl => ?_)
  refine lv_aload_n hC.x hC.b dL_law_961 rfl (lv_at hl 4 rfl) ?_
  refine x_goi hC hw (x_runV hC hw (c_X5_thrown (Γ := Γ) (l := l) hC.2.2.2.2 (rfl : f_X5_thrown g2 = some (g2 5 0 0, g2))) (cwV 0 hC.t gL_law_X5_thrown rfl rfl rfl (by decide +kernel) ⟨Nat.le_of_ble_eq_true rfl, Nat.le_of_ble_eq_true rfl⟩) (As := []) (by decide) (k_E5 _ _ _) rfl rfl rfl hl.1 (Nat.le_of_ble_eq_true rfl) dL_law_962 (by show cells + 1 + 0 + 0 ≤ 635908 ∧ slots + 6 + 0 + 0 ≤ 7188381; omega)) (fun H locs hw => ?_)
  refine lv_iload hC.x hC.b dL_law_965 (lv_at hl 1 rfl) ?_
  refine lv_icmp_eq (tgt := 972) hC.x hC.b dL_law_967 (by decide) (fun _ => ?_) (fun hc => absurd hth hc)
  refine lv_iload hC.x hC.b dL_law_972 (lv_at hl 1 rfl) ?_
  refine lv_if_ne (tgt := 989) hC.x hC.b dL_law_974 (by decide) (fun _ => ?_) (fun hk0 => ?_)
  · refine lv_goto (tgt := 1296) hC.x hC.b dL_law_989 (by decide) ?_
    exact kk _ _ _ _ _ _ _ (by show cells + 1 + 0 + 0 ≤ _; omega) (by show slots + 6 + 0 + 0 ≤ _; omega) hRel hw (lv_sub hl [2, 3, 4, 5, 6] rfl)
  · have hk : k = 0 := by rcases hok with ⟨h1, h2⟩ | ⟨h1, h2⟩ <;> first | exact h1 | exact absurd (h2.symm.trans hk0) (by decide)
    have hlo : (if k = 0 then vp_updL lo 0 r.toInt64 else lo) 0 = bb.toInt64 := by rw [if_pos hk, hrb hk]; exact pk_uLs
    refine lv_aload_n hC.x hC.b dL_law_977 rfl (lv_at hl 3 rfl) ?_
    refine lv_iconst (v := 0) hC.x hC.b dL_law_978 (by decide) ?_
    refine x_lald hC hw hJ dL_law_979 ?_
    refine lv_iload hC.x hC.b dL_law_980 (lv_at hl 0 rfl) ?_
    refine lv_i2l hC.x hC.b dL_law_982 rfl ?_
    refine W.lcmp hC.x hC.b dL_law_983 ?_
    refine lv_if_eq (tgt := 989) hC.x hC.b dL_law_984 (by decide) (fun _ => ?_) (fun hc => absurd (k_cmp0 hlo) hc)
    refine lv_goto (tgt := 1296) hC.x hC.b dL_law_989 (by decide) ?_
    exact kk _ _ _ _ _ _ _ (by show cells + 1 + 0 + 0 ≤ _; omega) (by show slots + 6 + 0 + 0 ≤ _; omega) hRel hw (lv_sub hl [2, 3, 4, 5, 6] rfl)
set_option maxRecDepth 100000 in
set_option maxHeartbeats 4000000 in
theorem lc_count {Γ : k_Pm} {p : Program} {l : Launch} {e : Env} {s : State} {m : MethodId} {below : List Frame} {meth : Method} {c : Code} {b L : Nat} {xs : Nat → Int32} {H : Heap} {locs : List Loc} {cells slots : Nat} {Q : State → Prop} {g : Gt} {ls : Array Slot} {o : Nat} {cJ : ClassId} {lo : Nat → Int64} {i Y : Nat} {Rel : Nat → Gt → Prop} (hC : k_C Γ (fun q => s.heap.size ≤ q) p l s m #[.ref b] c cL_law 9 wsL_law RL) (hJ : ArrOfT s cJ .long ∧ va_RA s cJ .long) (hX : va_X b L xs s s.heap) (hbl : b < s.heap.size) (hi : i + 4 < L) (hL : L ≤ 2560) (hw : k_St Γ (fun q => s.heap.size ≤ q) s (k_Lo o cJ lo) g H locs) (hl : lv_has ls 9 [(4, .int (nI i)), (3, .ref o), (2, .ref (k_ad Γ 5 0)), (1, .ref (k_ad Γ 0 0)), (0, .ref b)]) (hcs : cells + 1000 ≤ 635908 ∧ slots + 10000 ≤ 7188381) (hS : ∀ (x1 : Int32), Sim Rel Y (fun k kw => (k = 0 ∧ kw = 0) ∨ (k = 1 ∧ kw = 1)) (f_X4_count x1 g) (f_X5_count_ x1)) (kk : ∀ (g2 : Gt) (lo2 : Nat → Int64) (H1 : Heap) (locs1 : List Loc) (ls1 : Array Slot) (c2 s2 : Nat), c2 ≤ cells + 1000 → s2 ≤ slots + 10000 → Rel (Y + 50) g2 → k_St Γ (fun q => s.heap.size ≤ q) s (k_Lo o cJ lo2) g2 H1 locs1 → lv_has ls1 9 [(4, .int (nI i)), (3, .ref o), (2, .ref (k_ad Γ 5 0)), (1, .ref (k_ad Γ 0 0)), (0, .ref b)] → W p l e room_1 s m #[.ref b] below meth c H1 locs1 c2 s2 Q (F0 m 1296 ls1 [])) : W p l e room_1 s m #[.ref b] below meth c H locs cells slots Q (F0 m 992 ls []) := by
  obtain ⟨k, r, g1, bb, g2, kw, hfx, hfm, hok, hth, hrb, hRel⟩ := hS (xs (nI i + (1 : Int32)).toNatClampNeg)
  refine lv_aload_n hC.x hC.b dL_law_992 rfl (lv_at hl 3 rfl) ?_
  refine lv_aload_n hC.x hC.b dL_law_993 rfl (lv_at hl 4 rfl) ?_
  refine lv_iload hC.x hC.b dL_law_994 (lv_at hl 0 rfl) ?_
  refine lv_iconst (v := (1 : Int32)) hC.x hC.b dL_law_996 (by decide) ?_
  refine lv_iadd hC.x hC.b dL_law_997 ?_
  refine va_sld hC.x hC.b hX hbl (Nat.not_le.mpr hbl) hw.2.2 (k_vi (j := 1) (by omega) (by omega)) dL_law_998 ?_
  refine lv_aload_n hC.x hC.b dL_law_999 rfl (lv_at hl 1 rfl) ?_
  refine x_goL hC hw (x_runL hC hw hJ (c_L_count (Γ := Γ) (l := l) hC.2.2.2.2 (lo := lo) hfx hok) (vx_cwSW 3 hC.t gL_law_L_count rfl rfl rfl (by decide +kernel) ⟨Nat.le_of_ble_eq_true rfl, Nat.le_of_ble_eq_true rfl⟩) (As := [.ref (k_ad Γ 0 0), .int (xs (nI i + (1 : Int32)).toNatClampNeg), .ref o]) rfl hl.1 (Nat.le_of_ble_eq_true rfl) dL_law_1000 (by show cells + 1 ≤ 635908 ∧ slots + 6 ≤ 7188381; omega)) (fun H locs hw => ?_)
  refine lv_istore (lv' := [(5, .int kw), (4, .int (nI i)), (3, .ref o), (2, .ref (k_ad Γ 5 0)), (1, .ref (k_ad Γ 0 0)), (0, .ref b)]) hC.x hC.b dL_law_1003 hl (by decide) rfl (fun ls hl => ?_)
  refine lv_aload_n hC.x hC.b dL_law_1005 rfl (lv_at hl 3 rfl) ?_
  refine lv_aload_n hC.x hC.b dL_law_1006 rfl (lv_at hl 5 rfl) ?_
  refine lv_iload hC.x hC.b dL_law_1007 (lv_at hl 1 rfl) ?_
  refine lv_iconst (v := (1 : Int32)) hC.x hC.b dL_law_1009 (by decide) ?_
  refine lv_iadd hC.x hC.b dL_law_1010 ?_
  refine va_sld hC.x hC.b hX hbl (Nat.not_le.mpr hbl) hw.2.2 (k_vi (j := 1) (by omega) (by omega)) dL_law_1011 ?_
  refine x_goi hC hw (x_runV hC hw (c_X5_count_ (Γ := Γ) (l := l) hC.2.2.2.2 hfm) (cwV 1 hC.t gL_law_X5_count_ rfl rfl rfl (by decide +kernel) ⟨Nat.le_of_ble_eq_true rfl, Nat.le_of_ble_eq_true rfl⟩) (As := [.int (xs (nI i + (1 : Int32)).toNatClampNeg)]) (by decide) (k_E5 _ _ _) rfl rfl rfl hl.1 (Nat.le_of_ble_eq_true rfl) dL_law_1012 (by show cells + 1 + 0 ≤ 635908 ∧ slots + 6 + 0 ≤ 7188381; omega)) (fun H locs hw => ?_)
  refine lv_istore (lv' := [(6, .int bb), (5, .int kw), (4, .int (nI i)), (3, .ref o), (2, .ref (k_ad Γ 5 0)), (1, .ref (k_ad Γ 0 0)), (0, .ref b)]) hC.x hC.b dL_law_1015 hl (by decide) rfl (fun ls hl => ?_)
  refine lv_aload_n hC.x hC.b dL_law_1017 rfl (lv_at hl 4 rfl) ?_
  refine x_goi hC hw (x_runV hC hw (c_X5_thrown (Γ := Γ) (l := l) hC.2.2.2.2 (rfl : f_X5_thrown g2 = some (g2 5 0 0, g2))) (cwV 0 hC.t gL_law_X5_thrown rfl rfl rfl (by decide +kernel) ⟨Nat.le_of_ble_eq_true rfl, Nat.le_of_ble_eq_true rfl⟩) (As := []) (by decide) (k_E5 _ _ _) rfl rfl rfl hl.1 (Nat.le_of_ble_eq_true rfl) dL_law_1018 (by show cells + 1 + 0 + 0 ≤ 635908 ∧ slots + 6 + 0 + 0 ≤ 7188381; omega)) (fun H locs hw => ?_)
  refine lv_iload hC.x hC.b dL_law_1021 (lv_at hl 1 rfl) ?_
  refine lv_icmp_eq (tgt := 1028) hC.x hC.b dL_law_1023 (by decide) (fun _ => ?_) (fun hc => absurd hth hc)
  refine lv_iload hC.x hC.b dL_law_1028 (lv_at hl 1 rfl) ?_
  refine lv_if_ne (tgt := 1045) hC.x hC.b dL_law_1030 (by decide) (fun _ => ?_) (fun hk0 => ?_)
  · refine lv_goto (tgt := 1296) hC.x hC.b dL_law_1045 (by decide) ?_
    exact kk _ _ _ _ _ _ _ (by show cells + 1 + 0 + 0 ≤ _; omega) (by show slots + 6 + 0 + 0 ≤ _; omega) hRel hw (lv_sub hl [2, 3, 4, 5, 6] rfl)
  · have hk : k = 0 := by rcases hok with ⟨h1, h2⟩ | ⟨h1, h2⟩ <;> first | exact h1 | exact absurd (h2.symm.trans hk0) (by decide)
    have hlo : (if k = 0 then vp_updL lo 0 r.toInt64 else lo) 0 = bb.toInt64 := by rw [if_pos hk, hrb hk]; exact pk_uLs
    refine lv_aload_n hC.x hC.b dL_law_1033 rfl (lv_at hl 3 rfl) ?_
    refine lv_iconst (v := 0) hC.x hC.b dL_law_1034 (by decide) ?_
    refine x_lald hC hw hJ dL_law_1035 ?_
    refine lv_iload hC.x hC.b dL_law_1036 (lv_at hl 0 rfl) ?_
    refine lv_i2l hC.x hC.b dL_law_1038 rfl ?_
    refine W.lcmp hC.x hC.b dL_law_1039 ?_
    refine lv_if_eq (tgt := 1045) hC.x hC.b dL_law_1040 (by decide) (fun _ => ?_) (fun hc => absurd (k_cmp0 hlo) hc)
    refine lv_goto (tgt := 1296) hC.x hC.b dL_law_1045 (by decide) ?_
    exact kk _ _ _ _ _ _ _ (by show cells + 1 + 0 + 0 ≤ _; omega) (by show slots + 6 + 0 + 0 ≤ _; omega) hRel hw (lv_sub hl [2, 3, 4, 5, 6] rfl)
set_option maxRecDepth 100000 in
set_option maxHeartbeats 4000000 in
theorem lc_fades {Γ : k_Pm} {p : Program} {l : Launch} {e : Env} {s : State} {m : MethodId} {below : List Frame} {meth : Method} {c : Code} {b L : Nat} {xs : Nat → Int32} {H : Heap} {locs : List Loc} {cells slots : Nat} {Q : State → Prop} {g : Gt} {ls : Array Slot} {o : Nat} {cJ : ClassId} {lo : Nat → Int64} {i Y : Nat} {Rel : Nat → Gt → Prop} (hC : k_C Γ (fun q => s.heap.size ≤ q) p l s m #[.ref b] c cL_law 9 wsL_law RL) (hJ : ArrOfT s cJ .long ∧ va_RA s cJ .long) (hX : va_X b L xs s s.heap) (hbl : b < s.heap.size) (hi : i + 4 < L) (hL : L ≤ 2560) (hw : k_St Γ (fun q => s.heap.size ≤ q) s (k_Lo o cJ lo) g H locs) (hl : lv_has ls 9 [(4, .int (nI i)), (3, .ref o), (2, .ref (k_ad Γ 5 0)), (1, .ref (k_ad Γ 0 0)), (0, .ref b)]) (hcs : cells + 1000 ≤ 635908 ∧ slots + 10000 ≤ 7188381) (hS : ∀ (x1 : Int32) (x2 : Int32), Sim Rel Y (fun k kw => (k = 0 ∧ kw = 0) ∨ (k = 1 ∧ kw = 1) ∨ (k = 2 ∧ kw = 2)) (f_X4_fades x1 x2 g) (f_X5_fades x1 x2)) (kk : ∀ (g2 : Gt) (lo2 : Nat → Int64) (H1 : Heap) (locs1 : List Loc) (ls1 : Array Slot) (c2 s2 : Nat), c2 ≤ cells + 1000 → s2 ≤ slots + 10000 → Rel (Y + 50) g2 → k_St Γ (fun q => s.heap.size ≤ q) s (k_Lo o cJ lo2) g2 H1 locs1 → lv_has ls1 9 [(4, .int (nI i)), (3, .ref o), (2, .ref (k_ad Γ 5 0)), (1, .ref (k_ad Γ 0 0)), (0, .ref b)] → W p l e room_1 s m #[.ref b] below meth c H1 locs1 c2 s2 Q (F0 m 1296 ls1 [])) : W p l e room_1 s m #[.ref b] below meth c H locs cells slots Q (F0 m 1048 ls []) := by
  obtain ⟨k, r, g1, bb, g2, kw, hfx, hfm, hok, hth, hrb, hRel⟩ := hS (xs (nI i + (1 : Int32)).toNatClampNeg) (xs (nI i + (2 : Int32)).toNatClampNeg)
  refine lv_aload_n hC.x hC.b dL_law_1048 rfl (lv_at hl 3 rfl) ?_
  refine lv_aload_n hC.x hC.b dL_law_1049 rfl (lv_at hl 4 rfl) ?_
  refine lv_iload hC.x hC.b dL_law_1050 (lv_at hl 0 rfl) ?_
  refine lv_iconst (v := (1 : Int32)) hC.x hC.b dL_law_1052 (by decide) ?_
  refine lv_iadd hC.x hC.b dL_law_1053 ?_
  refine va_sld hC.x hC.b hX hbl (Nat.not_le.mpr hbl) hw.2.2 (k_vi (j := 1) (by omega) (by omega)) dL_law_1054 ?_
  refine lv_aload_n hC.x hC.b dL_law_1055 rfl (lv_at hl 4 rfl) ?_
  refine lv_iload hC.x hC.b dL_law_1056 (lv_at hl 0 rfl) ?_
  refine lv_iconst (v := (2 : Int32)) hC.x hC.b dL_law_1058 (by decide) ?_
  refine lv_iadd hC.x hC.b dL_law_1059 ?_
  refine va_sld hC.x hC.b hX hbl (Nat.not_le.mpr hbl) hw.2.2 (k_vi (j := 2) (by omega) (by omega)) dL_law_1060 ?_
  refine lv_aload_n hC.x hC.b dL_law_1061 rfl (lv_at hl 1 rfl) ?_
  refine x_goL hC hw (x_runL hC hw hJ (c_L_fades (Γ := Γ) (l := l) hC.2.2.2.2 (lo := lo) hfx hok) (vx_cwSW 4 hC.t gL_law_L_fades rfl rfl rfl (by decide +kernel) ⟨Nat.le_of_ble_eq_true rfl, Nat.le_of_ble_eq_true rfl⟩) (As := [.ref (k_ad Γ 0 0), .int (xs (nI i + (1 : Int32)).toNatClampNeg), .int (xs (nI i + (2 : Int32)).toNatClampNeg), .ref o]) rfl hl.1 (Nat.le_of_ble_eq_true rfl) dL_law_1062 (by show cells + 2 ≤ 635908 ∧ slots + 12 ≤ 7188381; omega)) (fun H locs hw => ?_)
  refine lv_istore (lv' := [(5, .int kw), (4, .int (nI i)), (3, .ref o), (2, .ref (k_ad Γ 5 0)), (1, .ref (k_ad Γ 0 0)), (0, .ref b)]) hC.x hC.b dL_law_1065 hl (by decide) rfl (fun ls hl => ?_)
  refine lv_aload_n hC.x hC.b dL_law_1067 rfl (lv_at hl 3 rfl) ?_
  refine lv_aload_n hC.x hC.b dL_law_1068 rfl (lv_at hl 5 rfl) ?_
  refine lv_iload hC.x hC.b dL_law_1069 (lv_at hl 1 rfl) ?_
  refine lv_iconst (v := (1 : Int32)) hC.x hC.b dL_law_1071 (by decide) ?_
  refine lv_iadd hC.x hC.b dL_law_1072 ?_
  refine va_sld hC.x hC.b hX hbl (Nat.not_le.mpr hbl) hw.2.2 (k_vi (j := 1) (by omega) (by omega)) dL_law_1073 ?_
  refine lv_aload_n hC.x hC.b dL_law_1074 rfl (lv_at hl 5 rfl) ?_
  refine lv_iload hC.x hC.b dL_law_1075 (lv_at hl 1 rfl) ?_
  refine lv_iconst (v := (2 : Int32)) hC.x hC.b dL_law_1077 (by decide) ?_
  refine lv_iadd hC.x hC.b dL_law_1078 ?_
  refine va_sld hC.x hC.b hX hbl (Nat.not_le.mpr hbl) hw.2.2 (k_vi (j := 2) (by omega) (by omega)) dL_law_1079 ?_
  refine x_goi hC hw (x_runV hC hw (c_X5_fades (Γ := Γ) (l := l) hC.2.2.2.2 hfm) (cwV 2 hC.t gL_law_X5_fades rfl rfl rfl (by decide +kernel) ⟨Nat.le_of_ble_eq_true rfl, Nat.le_of_ble_eq_true rfl⟩) (As := [.int (xs (nI i + (1 : Int32)).toNatClampNeg), .int (xs (nI i + (2 : Int32)).toNatClampNeg)]) (by decide) (k_E5 _ _ _) rfl rfl rfl hl.1 (Nat.le_of_ble_eq_true rfl) dL_law_1080 (by show cells + 2 + 3 ≤ 635908 ∧ slots + 12 + 130 ≤ 7188381; omega)) (fun H locs hw => ?_)
  refine lv_istore (lv' := [(6, .int bb), (5, .int kw), (4, .int (nI i)), (3, .ref o), (2, .ref (k_ad Γ 5 0)), (1, .ref (k_ad Γ 0 0)), (0, .ref b)]) hC.x hC.b dL_law_1083 hl (by decide) rfl (fun ls hl => ?_)
  refine lv_aload_n hC.x hC.b dL_law_1085 rfl (lv_at hl 4 rfl) ?_
  refine x_goi hC hw (x_runV hC hw (c_X5_thrown (Γ := Γ) (l := l) hC.2.2.2.2 (rfl : f_X5_thrown g2 = some (g2 5 0 0, g2))) (cwV 0 hC.t gL_law_X5_thrown rfl rfl rfl (by decide +kernel) ⟨Nat.le_of_ble_eq_true rfl, Nat.le_of_ble_eq_true rfl⟩) (As := []) (by decide) (k_E5 _ _ _) rfl rfl rfl hl.1 (Nat.le_of_ble_eq_true rfl) dL_law_1086 (by show cells + 2 + 3 + 0 ≤ 635908 ∧ slots + 12 + 130 + 0 ≤ 7188381; omega)) (fun H locs hw => ?_)
  refine lv_iload hC.x hC.b dL_law_1089 (lv_at hl 1 rfl) ?_
  refine lv_icmp_eq (tgt := 1096) hC.x hC.b dL_law_1091 (by decide) (fun _ => ?_) (fun hc => absurd hth hc)
  refine lv_iload hC.x hC.b dL_law_1096 (lv_at hl 1 rfl) ?_
  refine lv_if_ne (tgt := 1113) hC.x hC.b dL_law_1098 (by decide) (fun _ => ?_) (fun hk0 => ?_)
  · refine lv_goto (tgt := 1296) hC.x hC.b dL_law_1113 (by decide) ?_
    exact kk _ _ _ _ _ _ _ (by show cells + 2 + 3 + 0 ≤ _; omega) (by show slots + 12 + 130 + 0 ≤ _; omega) hRel hw (lv_sub hl [2, 3, 4, 5, 6] rfl)
  · have hk : k = 0 := by rcases hok with ⟨h1, h2⟩ | ⟨h1, h2⟩ | ⟨h1, h2⟩ <;> first | exact h1 | exact absurd (h2.symm.trans hk0) (by decide)
    have hlo : (if k = 0 then vp_updL lo 0 r.toInt64 else lo) 0 = bb.toInt64 := by rw [if_pos hk, hrb hk]; exact pk_uLs
    refine lv_aload_n hC.x hC.b dL_law_1101 rfl (lv_at hl 3 rfl) ?_
    refine lv_iconst (v := 0) hC.x hC.b dL_law_1102 (by decide) ?_
    refine x_lald hC hw hJ dL_law_1103 ?_
    refine lv_iload hC.x hC.b dL_law_1104 (lv_at hl 0 rfl) ?_
    refine lv_i2l hC.x hC.b dL_law_1106 rfl ?_
    refine W.lcmp hC.x hC.b dL_law_1107 ?_
    refine lv_if_eq (tgt := 1113) hC.x hC.b dL_law_1108 (by decide) (fun _ => ?_) (fun hc => absurd (k_cmp0 hlo) hc)
    refine lv_goto (tgt := 1296) hC.x hC.b dL_law_1113 (by decide) ?_
    exact kk _ _ _ _ _ _ _ (by show cells + 2 + 3 + 0 ≤ _; omega) (by show slots + 12 + 130 + 0 ≤ _; omega) hRel hw (lv_sub hl [2, 3, 4, 5, 6] rfl)
set_option maxRecDepth 100000 in
set_option maxHeartbeats 4000000 in
theorem lc_amends {Γ : k_Pm} {p : Program} {l : Launch} {e : Env} {s : State} {m : MethodId} {below : List Frame} {meth : Method} {c : Code} {b L : Nat} {xs : Nat → Int32} {H : Heap} {locs : List Loc} {cells slots : Nat} {Q : State → Prop} {g : Gt} {ls : Array Slot} {o : Nat} {cJ : ClassId} {lo : Nat → Int64} {i Y : Nat} {Rel : Nat → Gt → Prop} (hC : k_C Γ (fun q => s.heap.size ≤ q) p l s m #[.ref b] c cL_law 9 wsL_law RL) (hJ : ArrOfT s cJ .long ∧ va_RA s cJ .long) (hX : va_X b L xs s s.heap) (hbl : b < s.heap.size) (hi : i + 4 < L) (hL : L ≤ 2560) (hw : k_St Γ (fun q => s.heap.size ≤ q) s (k_Lo o cJ lo) g H locs) (hl : lv_has ls 9 [(4, .int (nI i)), (3, .ref o), (2, .ref (k_ad Γ 5 0)), (1, .ref (k_ad Γ 0 0)), (0, .ref b)]) (hcs : cells + 1000 ≤ 635908 ∧ slots + 10000 ≤ 7188381) (hS : ∀ (x1 : Int32), Sim Rel Y (fun k kw => (k = 0 ∧ kw = 0) ∨ (k = 1 ∧ kw = 1)) (f_X4_amends x1 g) (f_X5_amends x1)) (kk : ∀ (g2 : Gt) (lo2 : Nat → Int64) (H1 : Heap) (locs1 : List Loc) (ls1 : Array Slot) (c2 s2 : Nat), c2 ≤ cells + 1000 → s2 ≤ slots + 10000 → Rel (Y + 50) g2 → k_St Γ (fun q => s.heap.size ≤ q) s (k_Lo o cJ lo2) g2 H1 locs1 → lv_has ls1 9 [(4, .int (nI i)), (3, .ref o), (2, .ref (k_ad Γ 5 0)), (1, .ref (k_ad Γ 0 0)), (0, .ref b)] → W p l e room_1 s m #[.ref b] below meth c H1 locs1 c2 s2 Q (F0 m 1296 ls1 [])) : W p l e room_1 s m #[.ref b] below meth c H locs cells slots Q (F0 m 1116 ls []) := by
  obtain ⟨k, r, g1, bb, g2, kw, hfx, hfm, hok, hth, hrb, hRel⟩ := hS (xs (nI i + (1 : Int32)).toNatClampNeg)
  refine lv_aload_n hC.x hC.b dL_law_1116 rfl (lv_at hl 3 rfl) ?_
  refine lv_aload_n hC.x hC.b dL_law_1117 rfl (lv_at hl 4 rfl) ?_
  refine lv_iload hC.x hC.b dL_law_1118 (lv_at hl 0 rfl) ?_
  refine lv_iconst (v := (1 : Int32)) hC.x hC.b dL_law_1120 (by decide) ?_
  refine lv_iadd hC.x hC.b dL_law_1121 ?_
  refine va_sld hC.x hC.b hX hbl (Nat.not_le.mpr hbl) hw.2.2 (k_vi (j := 1) (by omega) (by omega)) dL_law_1122 ?_
  refine lv_aload_n hC.x hC.b dL_law_1123 rfl (lv_at hl 1 rfl) ?_
  refine x_goL hC hw (x_runL hC hw hJ (c_L_amends (Γ := Γ) (l := l) hC.2.2.2.2 (lo := lo) hfx hok) (vx_cwSW 3 hC.t gL_law_L_amends rfl rfl rfl (by decide +kernel) ⟨Nat.le_of_ble_eq_true rfl, Nat.le_of_ble_eq_true rfl⟩) (As := [.ref (k_ad Γ 0 0), .int (xs (nI i + (1 : Int32)).toNatClampNeg), .ref o]) rfl hl.1 (Nat.le_of_ble_eq_true rfl) dL_law_1124 (by show cells + 1 ≤ 635908 ∧ slots + 6 ≤ 7188381; omega)) (fun H locs hw => ?_)
  refine lv_istore (lv' := [(5, .int kw), (4, .int (nI i)), (3, .ref o), (2, .ref (k_ad Γ 5 0)), (1, .ref (k_ad Γ 0 0)), (0, .ref b)]) hC.x hC.b dL_law_1127 hl (by decide) rfl (fun ls hl => ?_)
  refine lv_aload_n hC.x hC.b dL_law_1129 rfl (lv_at hl 3 rfl) ?_
  refine lv_aload_n hC.x hC.b dL_law_1130 rfl (lv_at hl 5 rfl) ?_
  refine lv_iload hC.x hC.b dL_law_1131 (lv_at hl 1 rfl) ?_
  refine lv_iconst (v := (1 : Int32)) hC.x hC.b dL_law_1133 (by decide) ?_
  refine lv_iadd hC.x hC.b dL_law_1134 ?_
  refine va_sld hC.x hC.b hX hbl (Nat.not_le.mpr hbl) hw.2.2 (k_vi (j := 1) (by omega) (by omega)) dL_law_1135 ?_
  refine x_goi hC hw (x_runV hC hw (c_X5_amends (Γ := Γ) (l := l) hC.2.2.2.2 hfm) (cwV 1 hC.t gL_law_X5_amends rfl rfl rfl (by decide +kernel) ⟨Nat.le_of_ble_eq_true rfl, Nat.le_of_ble_eq_true rfl⟩) (As := [.int (xs (nI i + (1 : Int32)).toNatClampNeg)]) (by decide) (k_E5 _ _ _) rfl rfl rfl hl.1 (Nat.le_of_ble_eq_true rfl) dL_law_1136 (by show cells + 1 + 0 ≤ 635908 ∧ slots + 6 + 0 ≤ 7188381; omega)) (fun H locs hw => ?_)
  refine lv_istore (lv' := [(6, .int bb), (5, .int kw), (4, .int (nI i)), (3, .ref o), (2, .ref (k_ad Γ 5 0)), (1, .ref (k_ad Γ 0 0)), (0, .ref b)]) hC.x hC.b dL_law_1139 hl (by decide) rfl (fun ls hl => ?_)
  refine lv_aload_n hC.x hC.b dL_law_1141 rfl (lv_at hl 4 rfl) ?_
  refine x_goi hC hw (x_runV hC hw (c_X5_thrown (Γ := Γ) (l := l) hC.2.2.2.2 (rfl : f_X5_thrown g2 = some (g2 5 0 0, g2))) (cwV 0 hC.t gL_law_X5_thrown rfl rfl rfl (by decide +kernel) ⟨Nat.le_of_ble_eq_true rfl, Nat.le_of_ble_eq_true rfl⟩) (As := []) (by decide) (k_E5 _ _ _) rfl rfl rfl hl.1 (Nat.le_of_ble_eq_true rfl) dL_law_1142 (by show cells + 1 + 0 + 0 ≤ 635908 ∧ slots + 6 + 0 + 0 ≤ 7188381; omega)) (fun H locs hw => ?_)
  refine lv_iload hC.x hC.b dL_law_1145 (lv_at hl 1 rfl) ?_
  refine lv_icmp_eq (tgt := 1152) hC.x hC.b dL_law_1147 (by decide) (fun _ => ?_) (fun hc => absurd hth hc)
  refine lv_iload hC.x hC.b dL_law_1152 (lv_at hl 1 rfl) ?_
  refine lv_if_ne (tgt := 1169) hC.x hC.b dL_law_1154 (by decide) (fun _ => ?_) (fun hk0 => ?_)
  · refine lv_goto (tgt := 1296) hC.x hC.b dL_law_1169 (by decide) ?_
    exact kk _ _ _ _ _ _ _ (by show cells + 1 + 0 + 0 ≤ _; omega) (by show slots + 6 + 0 + 0 ≤ _; omega) hRel hw (lv_sub hl [2, 3, 4, 5, 6] rfl)
  · have hk : k = 0 := by rcases hok with ⟨h1, h2⟩ | ⟨h1, h2⟩ <;> first | exact h1 | exact absurd (h2.symm.trans hk0) (by decide)
    have hlo : (if k = 0 then vp_updL lo 0 r.toInt64 else lo) 0 = bb.toInt64 := by rw [if_pos hk, hrb hk]; exact pk_uLs
    refine lv_aload_n hC.x hC.b dL_law_1157 rfl (lv_at hl 3 rfl) ?_
    refine lv_iconst (v := 0) hC.x hC.b dL_law_1158 (by decide) ?_
    refine x_lald hC hw hJ dL_law_1159 ?_
    refine lv_iload hC.x hC.b dL_law_1160 (lv_at hl 0 rfl) ?_
    refine lv_i2l hC.x hC.b dL_law_1162 rfl ?_
    refine W.lcmp hC.x hC.b dL_law_1163 ?_
    refine lv_if_eq (tgt := 1169) hC.x hC.b dL_law_1164 (by decide) (fun _ => ?_) (fun hc => absurd (k_cmp0 hlo) hc)
    refine lv_goto (tgt := 1296) hC.x hC.b dL_law_1169 (by decide) ?_
    exact kk _ _ _ _ _ _ _ (by show cells + 1 + 0 + 0 ≤ _; omega) (by show slots + 6 + 0 + 0 ≤ _; omega) hRel hw (lv_sub hl [2, 3, 4, 5, 6] rfl)
set_option maxRecDepth 100000 in
set_option maxHeartbeats 4000000 in
theorem lc_weighs {Γ : k_Pm} {p : Program} {l : Launch} {e : Env} {s : State} {m : MethodId} {below : List Frame} {meth : Method} {c : Code} {b L : Nat} {xs : Nat → Int32} {H : Heap} {locs : List Loc} {cells slots : Nat} {Q : State → Prop} {g : Gt} {ls : Array Slot} {o : Nat} {cJ : ClassId} {lo : Nat → Int64} {i Y : Nat} {Rel : Nat → Gt → Prop} (hC : k_C Γ (fun q => s.heap.size ≤ q) p l s m #[.ref b] c cL_law 9 wsL_law RL) (hJ : ArrOfT s cJ .long ∧ va_RA s cJ .long) (hX : va_X b L xs s s.heap) (hbl : b < s.heap.size) (hi : i + 4 < L) (hL : L ≤ 2560) (hw : k_St Γ (fun q => s.heap.size ≤ q) s (k_Lo o cJ lo) g H locs) (hl : lv_has ls 9 [(4, .int (nI i)), (3, .ref o), (2, .ref (k_ad Γ 5 0)), (1, .ref (k_ad Γ 0 0)), (0, .ref b)]) (hcs : cells + 1000 ≤ 635908 ∧ slots + 10000 ≤ 7188381) (hS : Sim2 (α := Int32) Rel Y (f_X4_weighs g) (f_X5_weighs)) (kk : ∀ (g2 : Gt) (lo2 : Nat → Int64) (H1 : Heap) (locs1 : List Loc) (ls1 : Array Slot) (c2 s2 : Nat), c2 ≤ cells + 1000 → s2 ≤ slots + 10000 → Rel (Y + 50) g2 → k_St Γ (fun q => s.heap.size ≤ q) s (k_Lo o cJ lo2) g2 H1 locs1 → lv_has ls1 9 [(4, .int (nI i)), (3, .ref o), (2, .ref (k_ad Γ 5 0)), (1, .ref (k_ad Γ 0 0)), (0, .ref b)] → W p l e room_1 s m #[.ref b] below meth c H1 locs1 c2 s2 Q (F0 m 1296 ls1 [])) : W p l e room_1 s m #[.ref b] below meth c H locs cells slots Q (F0 m 1172 ls []) := by
  obtain ⟨r, g1, g2, hfx, hfm, hRel⟩ := hS
  refine lv_aload_n hC.x hC.b dL_law_1172 rfl (lv_at hl 3 rfl) ?_
  refine x_goi hC hw (x_runV hC hw (c_X4_weighs (Γ := Γ) (l := l) hC.2.2.2.2 hfx) (cwV 0 hC.t gL_law_X4_weighs rfl rfl rfl (by decide +kernel) ⟨Nat.le_of_ble_eq_true rfl, Nat.le_of_ble_eq_true rfl⟩) (As := []) (by decide) (k_E0 _ _ _) rfl rfl rfl hl.1 (Nat.le_of_ble_eq_true rfl) dL_law_1173 (by show cells + 0 ≤ 635908 ∧ slots + 0 ≤ 7188381; omega)) (fun H locs hw => ?_)
  refine lv_aload_n hC.x hC.b dL_law_1176 rfl (lv_at hl 2 rfl) ?_
  refine x_goi hC hw (x_runV hC hw (c_X5_weighs (Γ := Γ) (l := l) hC.2.2.2.2 hfm) (cwV 0 hC.t gL_law_X5_weighs rfl rfl rfl (by decide +kernel) ⟨Nat.le_of_ble_eq_true rfl, Nat.le_of_ble_eq_true rfl⟩) (As := []) (by decide) (k_E5 _ _ _) rfl rfl rfl hl.1 (Nat.le_of_ble_eq_true rfl) dL_law_1177 (by show cells + 0 + 0 ≤ 635908 ∧ slots + 0 + 0 ≤ 7188381; omega)) (fun H locs hw => ?_)
  refine lv_icmp_eq (tgt := 1296) hC.x hC.b dL_law_1180 (by decide) (fun _ => ?_) (fun hc => absurd rfl hc)
  exact kk _ _ _ _ _ _ _ (by show cells + 0 + 0 ≤ _; omega) (by show slots + 0 + 0 ≤ _; omega) hRel hw (lv_sub hl [0, 1, 2, 3, 4] rfl)
set_option maxRecDepth 100000 in
set_option maxHeartbeats 4000000 in
theorem lc_mean {Γ : k_Pm} {p : Program} {l : Launch} {e : Env} {s : State} {m : MethodId} {below : List Frame} {meth : Method} {c : Code} {b L : Nat} {xs : Nat → Int32} {H : Heap} {locs : List Loc} {cells slots : Nat} {Q : State → Prop} {g : Gt} {ls : Array Slot} {o : Nat} {cJ : ClassId} {lo : Nat → Int64} {i Y : Nat} {Rel : Nat → Gt → Prop} (hC : k_C Γ (fun q => s.heap.size ≤ q) p l s m #[.ref b] c cL_law 9 wsL_law RL) (hJ : ArrOfT s cJ .long ∧ va_RA s cJ .long) (hX : va_X b L xs s s.heap) (hbl : b < s.heap.size) (hi : i + 4 < L) (hL : L ≤ 2560) (hw : k_St Γ (fun q => s.heap.size ≤ q) s (k_Lo o cJ lo) g H locs) (hl : lv_has ls 9 [(4, .int (nI i)), (3, .ref o), (2, .ref (k_ad Γ 5 0)), (1, .ref (k_ad Γ 0 0)), (0, .ref b)]) (hcs : cells + 1000 ≤ 635908 ∧ slots + 10000 ≤ 7188381) (hS : Sim2 (α := UInt64) Rel Y (f_X4_mean g) (f_X5_mean)) (kk : ∀ (g2 : Gt) (lo2 : Nat → Int64) (H1 : Heap) (locs1 : List Loc) (ls1 : Array Slot) (c2 s2 : Nat), c2 ≤ cells + 1000 → s2 ≤ slots + 10000 → Rel (Y + 50) g2 → k_St Γ (fun q => s.heap.size ≤ q) s (k_Lo o cJ lo2) g2 H1 locs1 → lv_has ls1 9 [(4, .int (nI i)), (3, .ref o), (2, .ref (k_ad Γ 5 0)), (1, .ref (k_ad Γ 0 0)), (0, .ref b)] → W p l e room_1 s m #[.ref b] below meth c H1 locs1 c2 s2 Q (F0 m 1296 ls1 [])) : W p l e room_1 s m #[.ref b] below meth c H locs cells slots Q (F0 m 1241 ls []) := by
  obtain ⟨r, g1, g2, hfx, hfm, hRel⟩ := hS
  refine lv_aload_n hC.x hC.b dL_law_1241 rfl (lv_at hl 3 rfl) ?_
  refine x_god hC hw (x_runV hC hw (c_X4_mean (Γ := Γ) (l := l) hC.2.2.2.2 hfx) (cwV 0 hC.t gL_law_X4_mean rfl rfl rfl (by decide +kernel) ⟨Nat.le_of_ble_eq_true rfl, Nat.le_of_ble_eq_true rfl⟩) (As := []) (by decide) (k_E0 _ _ _) rfl rfl rfl hl.1 (Nat.le_of_ble_eq_true rfl) dL_law_1242 (by show cells + 0 ≤ 635908 ∧ slots + 0 ≤ 7188381; omega)) (fun H locs hw => ?_)
  refine lv_dstore (lv' := [(5, .double r), (4, .int (nI i)), (3, .ref o), (2, .ref (k_ad Γ 5 0)), (1, .ref (k_ad Γ 0 0)), (0, .ref b)]) hC.x hC.b dL_law_1245 hl (by decide) rfl (fun ls hl => ?_)
  refine lv_aload_n hC.x hC.b dL_law_1247 rfl (lv_at hl 3 rfl) ?_
  refine x_god hC hw (x_runV hC hw (c_X5_mean (Γ := Γ) (l := l) hC.2.2.2.2 hfm) (cwV 0 hC.t gL_law_X5_mean rfl rfl rfl (by decide +kernel) ⟨Nat.le_of_ble_eq_true rfl, Nat.le_of_ble_eq_true rfl⟩) (As := []) (by decide) (k_E5 _ _ _) rfl rfl rfl hl.1 (Nat.le_of_ble_eq_true rfl) dL_law_1248 (by show cells + 0 + 0 ≤ 635908 ∧ slots + 0 + 0 ≤ 7188381; omega)) (fun H locs hw => ?_)
  refine lv_dstore (lv' := [(7, .double r), (5, .double r), (4, .int (nI i)), (3, .ref o), (2, .ref (k_ad Γ 5 0)), (1, .ref (k_ad Γ 0 0)), (0, .ref b)]) hC.x hC.b dL_law_1251 hl (by decide) rfl (fun ls hl => ?_)
  refine lv_dload hC.x hC.b dL_law_1253 (lv_at hl 1 rfl) ?_
  refine lv_dload hC.x hC.b dL_law_1255 (lv_at hl 0 rfl) ?_
  refine x_dcmp hC dL_law_1257 ?_
  refine lv_if_eq (tgt := 1279) hC.x hC.b dL_law_1258 (by decide) (fun _ => ?_) (fun hc => ?_)
  · refine lv_goto (tgt := 1296) hC.x hC.b dL_law_1279 (by decide) ?_
    exact kk _ _ _ _ _ _ _ (by show cells + 0 + 0 ≤ _; omega) (by show slots + 0 + 0 ≤ _; omega) hRel hw (lv_sub hl [2, 3, 4, 5, 6] rfl)
  · refine lv_dload hC.x hC.b dL_law_1261 (lv_at hl 1 rfl) ?_
    refine lv_dload hC.x hC.b dL_law_1263 (lv_at hl 1 rfl) ?_
    refine x_dcmp hC dL_law_1265 ?_
    refine lv_if_eq (tgt := 1277) hC.x hC.b dL_law_1266 (by decide) (fun h0 => absurd h0 hc) (fun _ => ?_)
    refine lv_dload hC.x hC.b dL_law_1269 (lv_at hl 0 rfl) ?_
    refine lv_dload hC.x hC.b dL_law_1271 (lv_at hl 0 rfl) ?_
    refine x_dcmp hC dL_law_1273 ?_
    refine lv_if_ne (tgt := 1279) hC.x hC.b dL_law_1274 (by decide) (fun _ => ?_) (fun h0 => absurd h0 hc)
    refine lv_goto (tgt := 1296) hC.x hC.b dL_law_1279 (by decide) ?_
    exact kk _ _ _ _ _ _ _ (by show cells + 0 + 0 ≤ _; omega) (by show slots + 0 + 0 ≤ _; omega) hRel hw (lv_sub hl [2, 3, 4, 5, 6] rfl)
set_option maxRecDepth 100000 in
set_option maxHeartbeats 4000000 in
theorem lc_digest {Γ : k_Pm} {p : Program} {l : Launch} {e : Env} {s : State} {m : MethodId} {below : List Frame} {meth : Method} {c : Code} {b L : Nat} {xs : Nat → Int32} {H : Heap} {locs : List Loc} {cells slots : Nat} {Q : State → Prop} {g : Gt} {ls : Array Slot} {o : Nat} {cJ : ClassId} {lo : Nat → Int64} {i Y : Nat} {Rel : Nat → Gt → Prop} (hC : k_C Γ (fun q => s.heap.size ≤ q) p l s m #[.ref b] c cL_law 9 wsL_law RL) (hJ : ArrOfT s cJ .long ∧ va_RA s cJ .long) (hX : va_X b L xs s s.heap) (hbl : b < s.heap.size) (hi : i + 4 < L) (hL : L ≤ 2560) (hw : k_St Γ (fun q => s.heap.size ≤ q) s (k_Lo o cJ lo) g H locs) (hl : lv_has ls 9 [(4, .int (nI i)), (3, .ref o), (2, .ref (k_ad Γ 5 0)), (1, .ref (k_ad Γ 0 0)), (0, .ref b)]) (hcs : cells + 1000 ≤ 635908 ∧ slots + 10000 ≤ 7188381) (hS : Sim2 (α := Int64) Rel Y (f_X4_digest g) (f_X5_digest)) (kk : ∀ (g2 : Gt) (lo2 : Nat → Int64) (H1 : Heap) (locs1 : List Loc) (ls1 : Array Slot) (c2 s2 : Nat), c2 ≤ cells + 1000 → s2 ≤ slots + 10000 → Rel (Y + 50) g2 → k_St Γ (fun q => s.heap.size ≤ q) s (k_Lo o cJ lo2) g2 H1 locs1 → lv_has ls1 9 [(4, .int (nI i)), (3, .ref o), (2, .ref (k_ad Γ 5 0)), (1, .ref (k_ad Γ 0 0)), (0, .ref b)] → W p l e room_1 s m #[.ref b] below meth c H1 locs1 c2 s2 Q (F0 m 1296 ls1 [])) : W p l e room_1 s m #[.ref b] below meth c H locs cells slots Q (F0 m 1282 ls []) := by
  obtain ⟨r, g1, g2, hfx, hfm, hRel⟩ := hS
  refine lv_aload_n hC.x hC.b dL_law_1282 rfl (lv_at hl 3 rfl) ?_
  refine x_gol hC hw (x_runV hC hw (c_X4_digest (Γ := Γ) (l := l) hC.2.2.2.2 hfx) (cwV 0 hC.t gL_law_X4_digest rfl rfl rfl (by decide +kernel) ⟨Nat.le_of_ble_eq_true rfl, Nat.le_of_ble_eq_true rfl⟩) (As := []) (by decide) (k_E0 _ _ _) rfl rfl rfl hl.1 (Nat.le_of_ble_eq_true rfl) dL_law_1283 (by show cells + 0 ≤ 635908 ∧ slots + 0 ≤ 7188381; omega)) (fun H locs hw => ?_)
  refine lv_aload_n hC.x hC.b dL_law_1286 rfl (lv_at hl 2 rfl) ?_
  refine x_gol hC hw (x_runV hC hw (c_X5_digest (Γ := Γ) (l := l) hC.2.2.2.2 hfm) (cwV 0 hC.t gL_law_X5_digest rfl rfl rfl (by decide +kernel) ⟨Nat.le_of_ble_eq_true rfl, Nat.le_of_ble_eq_true rfl⟩) (As := []) (by decide) (k_E5 _ _ _) rfl rfl rfl hl.1 (Nat.le_of_ble_eq_true rfl) dL_law_1287 (by show cells + 0 + 0 ≤ 635908 ∧ slots + 0 + 0 ≤ 7188381; omega)) (fun H locs hw => ?_)
  refine W.lcmp hC.x hC.b dL_law_1290 ?_
  refine lv_if_eq (tgt := 1296) hC.x hC.b dL_law_1291 (by decide) (fun _ => ?_) (fun hc => absurd (k_cmp0 rfl) hc)
  exact kk _ _ _ _ _ _ _ (by show cells + 0 + 0 ≤ _; omega) (by show slots + 0 + 0 ≤ _; omega) hRel hw (lv_sub hl [0, 1, 2, 3, 4] rfl)
