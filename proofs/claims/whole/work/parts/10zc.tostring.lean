/-! toString: the words of the builder, in any world -/
section
variable {D : va_G} {cB : ClassId} {b0 : Nat} {A : Nat → Prop} {p : Program} {l : Launch} {e : Env} {R : Room} {s : State} {m : MethodId} {args : Array Value} {below : List Frame} {meth : Method} {c : Code} {H : Heap} {locs : List Loc} {cells slots : Nat} {Q : State → Prop}
variable {cc : ByteArray} {nL : Nat} {Ts : List Cond} {own : String} {pc : Nat} {ls : Array Slot} {rest : List Value} {ws w1 : va_W}
theorem j_aaret (hC : j_C D cB b0 (va_A ws s.heap.size) p s m args c cc nL Ts own) {w1 : va_W} (hS : j_St D (va_A ws s.heap.size) s w1 H locs) {n : FieldType} (hr : meth.sig.returnType = some (.array n)) (hlocks : meth.locks = false) {r : Nat} {mc ms : Nat} (hc : cells ≤ mc) (hs : slots ≤ ms) (hdg : decode cc pc = .ok (.areturn, 1)) : W p l e R s m args below meth c H locs cells slots (MQ below (j_Qr D r ws w1 s.heap.size) args s mc ms (va_A ws s.heap.size)) (F0 m pc ls [.ref r]) :=
  W.widen hc hs (W.aret hC.x hC.b hr (Or.inr ⟨n, rfl⟩) (Or.inr ⟨r, rfl⟩) (fun t ht _ => ⟨⟨(), r, rfl, trivial, rfl, by rw [ht]; exact hS.1, hS.2.1⟩, hS.2.2.F ht⟩) hS.2.2.2.2 hdg hlocks)
/-- an answer that is a cell, its world by its address -/
def j_Qa (D : va_G) (ws : va_W) (w1 : Nat → va_W) (sz : Nat) : Array Value → State → Outcome → State → Prop := va_Qr (fun (_ : Unit) => True) (fun _ a t => va_P D vwCl (w1 a) t.heap ∧ va_D (va_A ws sz) (w1 a)) (va_A ws sz)
def j_Qs (D : va_G) (ws : va_W) (w1 : Nat → Nat → va_W) (sz : Nat) : Array Value → State → Outcome → State → Prop := va_Qr (fun (_ : Nat) => True) (fun u a t => va_P D vwCl (w1 a u) t.heap ∧ va_D (va_A ws sz) (w1 a u)) (va_A ws sz)
def j_Qn (D : va_G) (ws : va_W) (w1 : Nat → va_W) (sz : Nat) : Array Value → State → Outcome → State → Prop := va_Qv (fun (_ : Nat) => True) (fun u t => va_P D vwCl (w1 u) t.heap ∧ va_D (va_A ws sz) (w1 u)) (va_A ws sz)
theorem j_goa (hC : j_C D cB b0 A p s m args c cc nL Ts own) (hS : j_St D A s ws H locs) {w1 : Nat → va_W} {a : Array Value} {mc ms : Nat} {st0 : List Value} (hr : va_Run p l e R s m args below meth c H locs cells slots mc ms (F0 m pc ls st0) rest (j_Qa D ws w1 H.size a) (va_A ws H.size))
    (kk : ∀ (q : Nat) (H1 : Heap) (locs1 : List Loc), j_St D A s (w1 q) H1 locs1 → W p l e R s m args below meth c H1 locs1 (cells + mc) (slots + ms) Q (F0 m (pc + 3) ls (.ref q :: rest))) : W p l e R s m args below meth c H locs cells slots Q (F0 m pc ls st0) :=
  va_callr hr hS.2.2 (fun q _ h => j_fr hC hS q h) (j_fr hC hS) fun u q t H1 locs1 ht hvm hp hB hz hk hS2 => kk q H1 locs1 ⟨ht ▸ hB.1, hB.2.weaken (fun _ _ _ h => j_fr hC hS _ h), hS2⟩
theorem j_gon (hC : j_C D cB b0 A p s m args c cc nL Ts own) (hS : j_St D A s ws H locs) {w1 : Nat → va_W} {a : Array Value} {mc ms : Nat} {st0 : List Value} (hr : va_Run p l e R s m args below meth c H locs cells slots mc ms (F0 m pc ls st0) rest (j_Qn D ws w1 H.size a) (va_A ws H.size))
    (kk : ∀ (q : Nat) (H1 : Heap) (locs1 : List Loc), j_St D A s (w1 q) H1 locs1 → W p l e R s m args below meth c H1 locs1 (cells + mc) (slots + ms) Q (F0 m (pc + 3) ls rest)) : W p l e R s m args below meth c H locs cells slots Q (F0 m pc ls st0) :=
  va_callv hr hS.2.2 (fun q _ h => j_fr hC hS q h) (j_fr hC hS) fun u t H1 locs1 ht hvm hp hB hz hk hS2 => kk u H1 locs1 ⟨ht ▸ hB.1, hB.2.weaken (fun _ _ _ h => j_fr hC hS _ h), hS2⟩
theorem j_preT (hC : j_C D cB b0 A p s m args c cc nL Ts own) (hS : j_St D A s ws H locs) {q0 a : Nat} {fs As : List Value} (he : ws[q0]? = some (a, .inr (0, fs))) : PreV s H RJ0 a (j_Pre D cB b0 (.ref a :: As) ws H.size) As := ⟨j_Pre_blind, j_recv (q := (RJ0, TJ0, 4)) hC hS he rfl, fun U hU hW => j_pre hC hS U hU hW⟩
/-- a field of a String -/
theorem j_getS (hC : j_C D cB b0 A p s m args c cc nL Ts own) (hS : j_St D A s ws H locs) (hTs : ∀ w ∈ wsJ00, w ∈ Ts) {q0 a k index : Nat} {fs : List Value} {v : Value} (he : ws[q0]? = some (a, .inr (0, fs))) (hk : k < 4) (hlink : Cond.fieldLink own index RJ0 (TJ0 k).2.1 (TJ0 k).2.2.1 ∈ Ts) (hdecl : (TJ0 k).1 = RJ0) (hv : fs[k]? = some v) (hdg : decode cc pc = .ok (.getfield index, 3))
    (kk : W p l e R s m args below meth c H locs cells slots Q (F0 m (pc + 3) ls (v :: rest))) : W p l e R s m args below meth c H locs cells slots Q (F0 m pc ls (.ref a :: rest)) :=
  va_get (ci := 0) (T := TJ0) (N := 4) hC.x hC.b hC.t hTs hC.o hC.2.1.1 hS.1 q0 he rfl k hk (hC.t _ hlink) (by rw [hdecl]; exact fun _ h => h) hv hdg kk
/-- a final field of a String, in its constructor -/
theorem j_putS (hC : j_C D cB b0 A p s m args c cc nL Ts RJ0) (hS : j_St D A s ws H locs) (hin : meth.name = "<init>") (hTs : ∀ w ∈ wsJ00, w ∈ Ts) {q0 a k index : Nat} {fs : List Value} {v : Value} {ty : FieldType} (he : ws[q0]? = some (a, .inr (0, fs))) (hk : k < 4) (hlink : Cond.fieldLink RJ0 index RJ0 (TJ0 k).2.1 (TJ0 k).2.2.1 ∈ Ts) (hdecl : (TJ0 k).1 = RJ0) (hfin : (TJ0 k).2.2.2 = true) (hd : parseFieldDescriptor (TJ0 k).2.2.1 = some ty) (hn : narrow ty v = v) (hfit : fits ty v = true) (hl : k < fs.length) (hdg : decode cc pc = .ok (.putfield index, 3))
    (kk : ∀ (H1 : Heap) (locs1 : List Loc), j_St D A s (ws.set q0 (a, .inr (0, fs.set k v))) H1 locs1 → W p l e R s m args below meth c H1 locs1 cells slots Q (F0 m (pc + 3) ls rest)) : W p l e R s m args below meth c H locs cells slots Q (F0 m pc ls (v :: .ref a :: rest)) :=
  va_putF (ci := 0) (T := TJ0) (N := 4) hC.x hC.b hC.t hTs tyJ0 tyJ0_ok nmJ0 hC.o hC.2.1.1 hS.1 hS.2.1 hS.2.2 q0 he rfl k hk (hC.t _ hlink) (by rw [hdecl]; exact fun _ h => h) hfin hin hdecl hd hn hfit hl hdg fun H1 locs1 h1 h2 h3 => kk H1 locs1 ⟨h1, h2, h3⟩
end
abbrev j_s3 (h v : Nat) (cB : ClassId) (n : Int32) (ml : Value) (f : Nat → Int32) (t : Nat) : va_W := [(h, .inr (1, [.ref v, .int 0, ml, .int n])), (v, .inl (cB, (16, .inl f))), (t, .inr (0, [.null, .int 0, .int 0, .int 0]))]
abbrev j_cp (k : Nat) (f : Nat → Int32) : Nat → Int32 := va_cpy f (fun _ => 0) 0 0 k
abbrev j_s4 (h v : Nat) (cB : ClassId) (n : Int32) (ml : Value) (f : Nat → Int32) (t k : Nat) (w : Nat) : va_W := [(h, .inr (1, [.ref v, .int 0, ml, .int n])), (v, .inl (cB, (16, .inl f))), (t, .inr (0, [.null, .int 0, .int 0, .int 0])), (w, .inl (cB, (k, .inl (j_cp k f))))]
abbrev j_ss (h v : Nat) (cB : ClassId) (n : Int32) (ml : Value) (f : Nat → Int32) (k : Nat) (t w : Nat) : va_W := [(h, .inr (1, [.ref v, .int 0, ml, .int n])), (v, .inl (cB, (16, .inl f))), (t, .inr (0, [.ref w, .int 0, .int 0, .int 0])), (w, .inl (cB, (k, .inl (j_cp k f))))]
theorem cg_J5_length {D : va_G} {cB : ClassId} {b0 : Nat} {l : Launch} {ws : va_W} {q0 h v : Nat} {n : Int32} {ml : Value} (he : ws[q0]? = some (h, .inr (1, [.ref v, .int 0, ml, .int n]))) : j_MI D cB b0 l yJ5_length_8abf5 wsJ5_length_8abf5 (rm_j 1 20) [.ref h] ws n ws := by
  intro sz
  refine Met.ofW (cc := cJ5_length_8abf5) (maxL := 1) (ret := some .int) (by decide) rfl ?_
  intro p e s m args below meth c s₁ B hml hv
  obtain ⟨rfl, rfl, hP, hK, hD⟩ := hv
  have hr := B.returns
  have hlocks := B.notSynchronized
  obtain ⟨hC, hS⟩ := j_start hK hP hD (⟨B.exec, B.bytes, hml, findClass_of_methodNamed B.named, atoms_spec (ws := wsJ5_length_8abf5) B.pre⟩ : CallFix p m c cJ5_length_8abf5 1 s _ wsJ5_length_8abf5 RJ5)
  have hl := lv_entry ([.ref h] : List Value) (n := 1) (Nat.le_of_ble_eq_true rfl)
  rw [lg_entry_eq]
  generalize (lg_sl ([.ref h] : List Value) ++ List.replicate (1 - (lg_sl ([.ref h] : List Value)).length) Slot.unset).toArray = ls at hl ⊢
  have hl : lv_has ls 1 [(0, .ref h)] := hl
  change W p l e (rm_j 1 20) _ _ _ _ _ _ _ _ _ _ _ _
  refine lv_aload_n hC.x hC.b dJ5_length_8abf5_0 rfl (lv_at hl 0 rfl) ?_
  refine j_get (k := 3) hC hS jn_length he (by decide) (by decide +kernel) rfl rfl dJ5_length_8abf5_1 ?_
  exact j_iret hC hS hr hlocks (by decide) (by decide) dJ5_length_8abf5_4
set_option maxRecDepth 20000 in
theorem jk_J5_getValue_6d5f1 : ∀ w ∈ wsJ40, w ∈ wsJ5_getValue_6d5f1 := by decide +kernel
theorem cg_J5_getValue {D : va_G} {cB : ClassId} {b0 : Nat} {l : Launch} {ws : va_W} {q0 h v : Nat} {n : Int32} {ml : Value} (he : ws[q0]? = some (h, .inr (1, [.ref v, .int 0, ml, .int n]))) : j_MR D cB b0 l yJ5_getValue_6d5f1 wsJ5_getValue_6d5f1 (rm_j 1 20) [.ref h] ws v ws := by
  intro sz
  refine Met.ofW (cc := cJ5_getValue_6d5f1) (maxL := 1) (ret := some (.array .byte)) (by decide) rfl ?_
  intro p e s m args below meth c s₁ B hml hv
  obtain ⟨rfl, rfl, hP, hK, hD⟩ := hv
  have hr := B.returns
  have hlocks := B.notSynchronized
  obtain ⟨hC, hS⟩ := j_start hK hP hD (⟨B.exec, B.bytes, hml, findClass_of_methodNamed B.named, atoms_spec (ws := wsJ5_getValue_6d5f1) B.pre⟩ : CallFix p m c cJ5_getValue_6d5f1 1 s _ wsJ5_getValue_6d5f1 RJ5)
  have hl := lv_entry ([.ref h] : List Value) (n := 1) (Nat.le_of_ble_eq_true rfl)
  rw [lg_entry_eq]
  generalize (lg_sl ([.ref h] : List Value) ++ List.replicate (1 - (lg_sl ([.ref h] : List Value)).length) Slot.unset).toArray = ls at hl ⊢
  have hl : lv_has ls 1 [(0, .ref h)] := hl
  change W p l e (rm_j 1 20) _ _ _ _ _ _ _ _ _ _ _ _
  refine lv_aload_n hC.x hC.b dJ5_getValue_6d5f1_0 rfl (lv_at hl 0 rfl) ?_
  refine j_get (k := 0) hC hS jk_J5_getValue_6d5f1 he (by decide) (by decide +kernel) rfl rfl dJ5_getValue_6d5f1_1 ?_
  exact j_aaret hC hS hr hlocks (by decide) (by decide) dJ5_getValue_6d5f1_4
theorem cg_J5_isLatin1 {D : va_G} {cB : ClassId} {b0 : Nat} {l : Launch} {ws : va_W} {q0 h v : Nat} {n : Int32} {ml : Value} (he : ws[q0]? = some (h, .inr (1, [.ref v, .int 0, ml, .int n]))) : j_MI D cB b0 l yJ5_isLatin1_aae02 wsJ5_isLatin1_aae02 (rm_j 1 20) [.ref h] ws 1 ws := by
  intro sz
  refine Met.ofW (cc := cJ5_isLatin1_aae02) (maxL := 1) (ret := some .boolean) (by decide) rfl ?_
  intro p e s m args below meth c s₁ B hml hv
  obtain ⟨rfl, rfl, hP, hK, hD⟩ := hv
  have hr := B.returns
  have hlocks := B.notSynchronized
  obtain ⟨hC, hS⟩ := j_start hK hP hD (⟨B.exec, B.bytes, hml, findClass_of_methodNamed B.named, atoms_spec (ws := wsJ5_isLatin1_aae02) B.pre⟩ : CallFix p m c cJ5_isLatin1_aae02 1 s _ wsJ5_isLatin1_aae02 RJ5)
  have hl := lv_entry ([.ref h] : List Value) (n := 1) (Nat.le_of_ble_eq_true rfl)
  rw [lg_entry_eq]
  generalize (lg_sl ([.ref h] : List Value) ++ List.replicate (1 - (lg_sl ([.ref h] : List Value)).length) Slot.unset).toArray = ls at hl ⊢
  have hl : lv_has ls 1 [(0, .ref h)] := hl
  change W p l e (rm_j 1 20) _ _ _ _ _ _ _ _ _ _ _ _
  refine j_cmp hC hS (by decide +kernel) dJ5_isLatin1_aae02_0 ?_
  refine lv_if_eq (tgt := 17) hC.x hC.b dJ5_isLatin1_aae02_3 (by decide) (fun h => absurd h (by decide)) (fun _ => ?_)
  refine lv_aload_n hC.x hC.b dJ5_isLatin1_aae02_6 rfl (lv_at hl 0 rfl) ?_
  refine j_get (k := 1) hC hS jn_isLatin1 he (by decide) (by decide +kernel) rfl rfl dJ5_isLatin1_aae02_7 ?_
  refine lv_if_ne (tgt := 17) hC.x hC.b dJ5_isLatin1_aae02_10 (by decide) (fun h => absurd rfl h) (fun _ => ?_)
  refine lv_iconst (v := (1 : Int32)) hC.x hC.b dJ5_isLatin1_aae02_13 (by decide) ?_
  refine lv_goto (tgt := 18) hC.x hC.b dJ5_isLatin1_aae02_14 (by decide) ?_
  exact j_zret hC hS hr hlocks (by decide) (by decide) (by decide) dJ5_isLatin1_aae02_18
theorem cg_J4_length {D : va_G} {cB : ClassId} {b0 : Nat} {l : Launch} {ws : va_W} {q0 h v : Nat} {n : Int32} {ml : Value} (he : ws[q0]? = some (h, .inr (1, [.ref v, .int 0, ml, .int n]))) : j_MI D cB b0 l yJ4_length_8abf5 wsJ4_length_8abf5 (rm_j 2 60) [.ref h] ws n ws := by
  intro sz
  refine Met.ofW (cc := cJ4_length_8abf5) (maxL := 1) (ret := some .int) (by decide) rfl ?_
  intro p e s m args below meth c s₁ B hml hv
  obtain ⟨rfl, rfl, hP, hK, hD⟩ := hv
  have hr := B.returns
  have hlocks := B.notSynchronized
  obtain ⟨hC, hS⟩ := j_start hK hP hD (⟨B.exec, B.bytes, hml, findClass_of_methodNamed B.named, atoms_spec (ws := wsJ4_length_8abf5) B.pre⟩ : CallFix p m c cJ4_length_8abf5 1 s _ wsJ4_length_8abf5 RJ4)
  have hl := lv_entry ([.ref h] : List Value) (n := 1) (Nat.le_of_ble_eq_true rfl)
  rw [lg_entry_eq]
  generalize (lg_sl ([.ref h] : List Value) ++ List.replicate (1 - (lg_sl ([.ref h] : List Value)).length) Slot.unset).toArray = ls at hl ⊢
  have hl : lv_has ls 1 [(0, .ref h)] := hl
  change W p l e (rm_j 2 60) _ _ _ _ _ _ _ _ _ _ _ _
  refine lv_aload_n hC.x hC.b dJ4_length_8abf5_0 rfl (lv_at hl 0 rfl) ?_
  obtain ⟨kJ, hkJ, hkJ2⟩ := j_classAt hC
  refine j_goi hC hS (va_runSU (As := []) ⟨hkJ, hkJ2⟩ hC.1 (cg_J5_length he _) (va_cwSU 0 hC.t gJ4_length_8abf5_J5_length_8abf5_s343 rfl rfl rfl (by decide +kernel) ⟨Nat.le_of_ble_eq_true rfl, Nat.le_of_ble_eq_true rfl⟩) (j_preV (q0 := q0) hC hS he) rfl rfl hl.1 rfl (lv_room (Nat.le_of_ble_eq_true rfl)) dJ4_length_8abf5_1 ⟨by decide, by decide⟩) (fun H locs hS => ?_)
  exact j_iret hC hS hr hlocks (by decide) (by decide) dJ4_length_8abf5_4
theorem c_J7_checkLength {D : va_G} {cB : ClassId} {b0 : Nat} {l : Launch} {ws : va_W} {k : Nat} (hk : k < 2 ^ 31) : j_MV D cB b0 l yJ7_checkLength_df160 wsJ7_checkLength_df160 (rm_j 1 22) [.int 0, .int (nI k)] ws ws := by
  intro sz
  refine Met.ofW (cc := cJ7_checkLength_df160) (maxL := 2) (ret := none) (by decide) rfl ?_
  intro p e s m args below meth c s₁ B hml hv
  obtain ⟨rfl, rfl, hP, hK, hD⟩ := hv
  have hr := B.returns
  have hlocks := B.notSynchronized
  obtain ⟨hC, hS⟩ := j_start hK hP hD (⟨B.exec, B.bytes, hml, findClass_of_methodNamed B.named, atoms_spec (ws := wsJ7_checkLength_df160) B.pre⟩ : CallFix p m c cJ7_checkLength_df160 2 s _ wsJ7_checkLength_df160 RJ7)
  have hl := lv_entry ([.int 0, .int (nI k)] : List Value) (n := 2) (Nat.le_of_ble_eq_true rfl)
  rw [lg_entry_eq]
  generalize (lg_sl ([.int 0, .int (nI k)] : List Value) ++ List.replicate (2 - (lg_sl ([.int 0, .int (nI k)] : List Value)).length) Slot.unset).toArray = ls at hl ⊢
  have hl : lv_has ls 2 [(0, .int 0), (1, .int (nI k))] := hl
  change W p l e (rm_j 1 22) _ _ _ _ _ _ _ _ _ _ _ _
  refine lv_iload_n hC.x hC.b dJ7_checkLength_df160_0 rfl (lv_at hl 1 rfl) ?_
  refine lv_iload_n hC.x hC.b dJ7_checkLength_df160_1 rfl (lv_at hl 0 rfl) ?_
  refine lv_icmp_ge (tgt := 37) hC.x hC.b dJ7_checkLength_df160_2 (by decide) (fun _ => ?_) (fun hc => absurd (nI_le (Nat.zero_le k) hk) hc)
  exact j_vret hC hS hr hlocks (by decide) (by decide) dJ7_checkLength_df160_37
abbrev rm_jn (n k locals : Nat) : Room := { frames := n, cells := k, slots := 20, locals := locals }
theorem j_fitB : ∀ ch, ch < 128 → fits .byte (.int (nI ch)) = true := by decide +kernel
theorem j_sub0 (x : Int32) : x - 0 = x := Int32.sub_zero x
set_option maxRecDepth 20000 in
theorem jk_J7_copyOfRangeByte_39247 : ∀ w ∈ wsJ40, w ∈ wsJ7_copyOfRangeByte_39247 := by decide +kernel
set_option maxRecDepth 20000 in
theorem c_J7_copyB {D : va_G} {cB : ClassId} {b0 : Nat} {l : Launch} {h v t k : Nat} {n : Int32} {ml : Value} {f : Nat → Int32} (hk : k < 16) (hf : j_asc f k) : ∀ sz, Met l yJ7_copyOfRangeByte_39247 wsJ7_copyOfRangeByte_39247 (rm_jn 2 1 50) (j_Pre D cB b0 [.ref v, .int 0, .int (nI k)] (j_s3 h v cB n ml f t) sz) (j_Qa D (j_s3 h v cB n ml f t) (j_s4 h v cB n ml f t k) sz) 1 20 (va_A (j_s3 h v cB n ml f t) sz) := by
  intro sz
  refine Met.ofW (cc := cJ7_copyOfRangeByte_39247) (maxL := 5) (ret := some (.array .byte)) (by decide) rfl ?_
  intro p e s m args below meth c s₁ B hml hv
  obtain ⟨rfl, rfl, hP, hK, hD⟩ := hv
  have hr := B.returns
  have hlocks := B.notSynchronized
  obtain ⟨hC, hS⟩ := j_start hK hP hD (⟨B.exec, B.bytes, hml, findClass_of_methodNamed B.named, atoms_spec (ws := wsJ7_copyOfRangeByte_39247) B.pre⟩ : CallFix p m c cJ7_copyOfRangeByte_39247 5 s _ wsJ7_copyOfRangeByte_39247 RJ7)
  have hl := lv_entry ([.ref v, .int 0, .int (nI k)] : List Value) (n := 5) (Nat.le_of_ble_eq_true rfl)
  rw [lg_entry_eq]
  generalize (lg_sl ([.ref v, .int 0, .int (nI k)] : List Value) ++ List.replicate (5 - (lg_sl ([.ref v, .int 0, .int (nI k)] : List Value)).length) Slot.unset).toArray = ls at hl ⊢
  have hl : lv_has ls 5 [(0, .ref v), (1, .int 0), (2, .int (nI k))] := hl
  change W p l e (rm_jn 2 1 50) _ _ _ _ _ _ _ _ _ _ _ _
  refine lv_iload_n hC.x hC.b dJ7_copyOfRangeByte_39247_0 rfl (lv_at hl 1 rfl) ?_
  refine lv_iload_n hC.x hC.b dJ7_copyOfRangeByte_39247_1 rfl (lv_at hl 2 rfl) ?_
  refine j_gov hC hS (va_runS hC.1 (c_J7_checkLength (by omega) _) (va_cwS 2 hC.t gJ7_copyOfRangeByte_39247_J7_checkLength_df160 rfl rfl rfl (by decide +kernel) ⟨Nat.le_of_ble_eq_true rfl, Nat.le_of_ble_eq_true rfl⟩) (j_preS hC hS) rfl rfl hl.1 rfl (lv_room (Nat.le_of_ble_eq_true rfl)) dJ7_copyOfRangeByte_39247_2 ⟨by decide, by decide⟩) (fun H locs hS => ?_)
  refine lv_iload_n hC.x hC.b dJ7_copyOfRangeByte_39247_5 rfl (lv_at hl 2 rfl) ?_
  refine lv_iload_n hC.x hC.b dJ7_copyOfRangeByte_39247_6 rfl (lv_at hl 1 rfl) ?_
  refine lv_isub hC.x hC.b dJ7_copyOfRangeByte_39247_7 ?_
  rw [j_sub0]
  refine lv_istore_n (lv' := [(3, .int (nI k)), (0, .ref v), (1, .int 0), (2, .int (nI k))]) hC.x hC.b dJ7_copyOfRangeByte_39247_8 rfl hl (by decide) rfl (fun ls hl => ?_)
  refine lv_iload_n hC.x hC.b dJ7_copyOfRangeByte_39247_9 rfl (lv_at hl 0 rfl) ?_
  refine va_newa (atype := .byte) (ty := .byte) (a0 := (k, .inl fun _ => 0)) hC.x hC.b (hC.t (.arrayClass .byte) (by decide +kernel)) rfl hC.2.1.1 hS.1 hS.2.1 hS.2.2 hC.2.2.1 (fun cA => rfl) (nI_pos (by omega)) (nI_clamp (by omega)) (by show k * 1 ≤ _; omega) (by decide) (by show 0 + 0 + k ≤ 20; omega) dJ7_copyOfRangeByte_39247_10 (fun w cA' H1 h1 h2 h3 h4 => ?_)
  have hcB : cA' = cB := Option.some.inj (Eq.trans (Eq.symm (h1.2 1 _ rfl).2) (hC.2.1.1.2 0 _ rfl).2)
  subst hcB
  have hS : j_St D (va_A (j_s3 h v cA' n ml f t) s.heap.size) s (j_s3 h v cA' n ml f t ++ [(w, .inl (cA', (k, .inl fun _ => 0)))]) H1 _ := ⟨h2, h3, h4⟩
  refine lv_astore (lv' := [(4, .ref w), (3, .int (nI k)), (0, .ref v), (1, .int 0), (2, .int (nI k))]) hC.x hC.b dJ7_copyOfRangeByte_39247_12 hl (by decide) rfl (fun ls hl => ?_)
  refine lv_aload_n hC.x hC.b dJ7_copyOfRangeByte_39247_14 rfl (lv_at hl 2 rfl) ?_
  refine lv_iload_n hC.x hC.b dJ7_copyOfRangeByte_39247_15 rfl (lv_at hl 3 rfl) ?_
  refine lv_aload hC.x hC.b dJ7_copyOfRangeByte_39247_16 (lv_at hl 0 rfl) ?_
  refine lv_iconst (v := (0 : Int32)) hC.x hC.b dJ7_copyOfRangeByte_39247_18 (by decide) ?_
  refine lv_aload_n hC.x hC.b dJ7_copyOfRangeByte_39247_19 rfl (lv_at hl 2 rfl) ?_
  refine va_alen (v := nI 16) hC.x hC.b hC.2.1.1 hS.1 1 0 rfl rfl rfl dJ7_copyOfRangeByte_39247_20 ?_
  refine lv_iload_n hC.x hC.b dJ7_copyOfRangeByte_39247_21 rfl (lv_at hl 3 rfl) ?_
  refine lv_isub hC.x hC.b dJ7_copyOfRangeByte_39247_22 ?_
  rw [j_sub0]
  refine lv_iload_n hC.x hC.b dJ7_copyOfRangeByte_39247_23 rfl (lv_at hl 1 rfl) ?_
  refine va_mmin hC.x hC.b (hC.1.2.2.1.trans hl.1.symm) hC.o (hC.t (.methodLink RJ7 304 Lib.Math.min.name) (by decide +kernel)) (hC.t _ (by decide +kernel)) (hC.t _ (by decide +kernel)) (hC.t _ (by decide +kernel)) (Nat.le_of_ble_eq_true rfl) (Nat.le_of_ble_eq_true rfl) (by decide) (by show 0 + 0 + k ≤ 20; omega) dJ7_copyOfRangeByte_39247_24 ?_
  rw [if_pos (show nI k < nI 16 by rw [nI_ltI (by omega) (by omega)]; omega)]
  have ek : (nI k).toNatClampNeg = k := nI_clamp (by omega)
  have e0 : (0 : Int32).toNatClampNeg = 0 := by decide
  refine va_copyi (ty := .byte) hC.x hC.b (hC.1.2.2.1.trans hl.1.symm) hC.o (hC.t (.methodLink RJ7 150 arraycopyName) (by decide +kernel)) (hC.t _ (by decide +kernel)) (hC.t _ (by decide +kernel)) (hC.t _ (by decide +kernel)) hC.2.1.1 hS.1 hS.2.1 hS.2.2 1 3 0 0 rfl rfl rfl rfl rfl (by decide) (by decide) (nI_pos (by omega)) (by rw [ek, e0]; omega) (by rw [ek, e0]; omega) (fun i hi => ?_) (by decide) (Nat.le_of_ble_eq_true rfl) dJ7_copyOfRangeByte_39247_27 (fun H locs h1 h2 h3 => ?_)
  · rw [ek] at hi
    rw [e0, Nat.zero_add]
    obtain ⟨ch, hch, hfi⟩ := hf i hi
    rw [hfi]
    exact j_fitB ch hch
  rw [ek, e0] at h1 h2
  refine lv_aload hC.x hC.b dJ7_copyOfRangeByte_39247_30 (lv_at hl 0 rfl) ?_
  exact W.widen (by decide) (by show 0 + 0 + k ≤ 20; omega) (W.aret hC.x hC.b hr (Or.inr ⟨_, rfl⟩) (Or.inr ⟨w, rfl⟩) (fun t2 ht _ => ⟨⟨(), w, rfl, trivial, by rw [ht]; exact h1, h2⟩, h3.F ht⟩) h3.2.2 dJ7_copyOfRangeByte_39247_32 hlocks)
set_option maxRecDepth 20000 in
theorem c_J7_copy {D : va_G} {cB : ClassId} {b0 : Nat} {l : Launch} {h v t k : Nat} {n : Int32} {ml : Value} {f : Nat → Int32} (hk : k < 16) (hf : j_asc f k) : ∀ sz, Met l yJ7_copyOfRange_39247 wsJ7_copyOfRange_39247 (rm_jn 3 1 80) (j_Pre D cB b0 [.ref v, .int 0, .int (nI k)] (j_s3 h v cB n ml f t) sz) (j_Qa D (j_s3 h v cB n ml f t) (j_s4 h v cB n ml f t k) sz) 1 20 (va_A (j_s3 h v cB n ml f t) sz) := by
  intro sz
  refine Met.ofW (cc := cJ7_copyOfRange_39247) (maxL := 3) (ret := some (.array .byte)) (by decide) rfl ?_
  intro p e s m args below meth c s₁ B hml hv
  obtain ⟨rfl, rfl, hP, hK, hD⟩ := hv
  have hr := B.returns
  have hlocks := B.notSynchronized
  obtain ⟨hC, hS⟩ := j_start hK hP hD (⟨B.exec, B.bytes, hml, findClass_of_methodNamed B.named, atoms_spec (ws := wsJ7_copyOfRange_39247) B.pre⟩ : CallFix p m c cJ7_copyOfRange_39247 3 s _ wsJ7_copyOfRange_39247 RJ7)
  have hl := lv_entry ([.ref v, .int 0, .int (nI k)] : List Value) (n := 3) (Nat.le_of_ble_eq_true rfl)
  rw [lg_entry_eq]
  generalize (lg_sl ([.ref v, .int 0, .int (nI k)] : List Value) ++ List.replicate (3 - (lg_sl ([.ref v, .int 0, .int (nI k)] : List Value)).length) Slot.unset).toArray = ls at hl ⊢
  have hl : lv_has ls 3 [(0, .ref v), (1, .int 0), (2, .int (nI k))] := hl
  change W p l e (rm_jn 3 1 80) _ _ _ _ _ _ _ _ _ _ _ _
  refine lv_iload_n hC.x hC.b dJ7_copyOfRange_39247_0 rfl (lv_at hl 1 rfl) ?_
  refine lv_if_ne (tgt := 10) hC.x hC.b dJ7_copyOfRange_39247_1 (by decide) (fun h => absurd rfl h) (fun _ => ?_)
  refine lv_iload_n hC.x hC.b dJ7_copyOfRange_39247_4 rfl (lv_at hl 2 rfl) ?_
  refine lv_aload_n hC.x hC.b dJ7_copyOfRange_39247_5 rfl (lv_at hl 0 rfl) ?_
  refine va_alen (v := nI 16) hC.x hC.b hC.2.1.1 hS.1 1 0 rfl rfl rfl dJ7_copyOfRange_39247_6 ?_
  refine lv_icmp_eq (tgt := 17) hC.x hC.b dJ7_copyOfRange_39247_7 (by decide) (fun hc => absurd ((nI_eq (by omega) (by omega)).mp hc) (by omega)) (fun _ => ?_)
  refine lv_aload_n hC.x hC.b dJ7_copyOfRange_39247_10 rfl (lv_at hl 0 rfl) ?_
  refine lv_iload_n hC.x hC.b dJ7_copyOfRange_39247_11 rfl (lv_at hl 1 rfl) ?_
  refine lv_iload_n hC.x hC.b dJ7_copyOfRange_39247_12 rfl (lv_at hl 2 rfl) ?_
  refine j_goa hC hS (va_runS hC.1 (c_J7_copyB (n := n) (ml := ml) (h := h) (t := t) hk hf _) (va_cwS 3 hC.t gJ7_copyOfRange_39247_J7_copyOfRangeByte_39247 rfl rfl rfl (by decide +kernel) ⟨Nat.le_of_ble_eq_true rfl, Nat.le_of_ble_eq_true rfl⟩) (j_preS hC hS) rfl rfl hl.1 rfl (lv_room (Nat.le_of_ble_eq_true rfl)) dJ7_copyOfRange_39247_13 ⟨by decide, by decide⟩) (fun w H locs hS => ?_)
  exact W.widen (by decide) (by decide) (W.aret hC.x hC.b hr (Or.inr ⟨_, rfl⟩) (Or.inr ⟨w, rfl⟩) (fun t2 ht _ => ⟨⟨(), w, rfl, trivial, by rw [ht]; exact hS.1, hS.2.1⟩, hS.2.2.F ht⟩) hS.2.2.2.2 dJ7_copyOfRange_39247_16 hlocks)
set_option maxRecDepth 20000 in
theorem jk_J0_init_db425 : ∀ w ∈ wsJ40, w ∈ wsJ0_init_db425 := by decide +kernel
set_option maxRecDepth 20000 in
theorem jk0_J0_init_db425 : ∀ w ∈ wsJ00, w ∈ wsJ0_init_db425 := by decide +kernel
set_option maxRecDepth 20000 in
theorem c_J0_initB {D : va_G} {cB : ClassId} {b0 : Nat} {l : Launch} {h v t k : Nat} {ml : Value} {f : Nat → Int32} (hk : k < 16) (hf : j_asc f k) : ∀ sz, Met l yJ0_init_db425 wsJ0_init_db425 (rm_jn 4 1 120) (j_Pre D cB b0 [.ref t, .ref h, .null] (j_s3 h v cB (nI k) ml f t) sz) (j_Qn D (j_s3 h v cB (nI k) ml f t) (j_ss h v cB (nI k) ml f k t) sz) 1 20 (va_A (j_s3 h v cB (nI k) ml f t) sz) := by
  intro sz
  refine Met.ofW (cc := cJ0_init_db425) (maxL := 5) (ret := none) (by decide) rfl ?_
  intro p e s m args below meth c s₁ B hml hv
  obtain ⟨rfl, rfl, hP, hK, hD⟩ := hv
  have hr := B.returns
  have hlocks := B.notSynchronized
  obtain ⟨hC, hS⟩ := j_start hK hP hD (⟨B.exec, B.bytes, hml, findClass_of_methodNamed B.named, atoms_spec (ws := wsJ0_init_db425) B.pre⟩ : CallFix p m c cJ0_init_db425 5 s _ wsJ0_init_db425 RJ0)
  have hl := lv_entry ([.ref t, .ref h, .null] : List Value) (n := 5) (Nat.le_of_ble_eq_true rfl)
  rw [lg_entry_eq]
  generalize (lg_sl ([.ref t, .ref h, .null] : List Value) ++ List.replicate (5 - (lg_sl ([.ref t, .ref h, .null] : List Value)).length) Slot.unset).toArray = ls at hl ⊢
  have hl : lv_has ls 5 [(0, .ref t), (1, .ref h), (2, .null)] := hl
  change W p l e (rm_jn 4 1 120) _ _ _ _ _ _ _ _ _ _ _ _
  have hin : meth.name = "<init>" := (name_of_methodNamed B.named B.method).1
  have he : (j_s3 h v cB (nI k) ml f t)[0]? = some (h, .inr (1, [.ref v, .int 0, ml, .int (nI k)])) := rfl
  refine lv_aload_n hC.x hC.b dJ0_init_db425_0 rfl (lv_at hl 0 rfl) ?_
  refine W.objInit hC.x hC.b hC.o (hC.t (.methodLink RJ0 1 objectInit) (by decide +kernel)) (hC.t (.instanceMethod objectInit) (by decide +kernel)) (hC.t (.code objectInit ⟨#[0xb1]⟩ 1 none) (by decide +kernel)) rfl (by rw [hC.1.2.2.1]; exact hl.1) rfl dJ0_init_db425_1 (Nat.le_of_ble_eq_true rfl) (Nat.le_of_ble_eq_true rfl) ?_
  refine W.eq (g2 := F0 m 4 ls []) rfl ?_
  refine lv_aload_n hC.x hC.b dJ0_init_db425_4 rfl (lv_at hl 1 rfl) ?_
  refine j_gor (w1 := j_s3 h v cB (nI k) ml f t) hC hS (va_runU (As := []) hC.1 (cg_J5_getValue he _) (va_cwU 0 hC.t gJ0_init_db425_J5_getValue_6d5f1_u552J4 rfl rfl rfl rfl (by decide +kernel) ⟨Nat.le_of_ble_eq_true rfl, Nat.le_of_ble_eq_true rfl⟩) (j_preV (q0 := 0) hC hS rfl) rfl rfl hl.1 rfl (lv_room (Nat.le_of_ble_eq_true rfl)) dJ0_init_db425_5 ⟨by decide, by decide⟩) (fun H locs hS => ?_)
  refine lv_astore_n (lv' := [(3, .ref v), (0, .ref t), (1, .ref h), (2, .null)]) hC.x hC.b dJ0_init_db425_8 rfl hl (by decide) rfl (fun ls hl => ?_)
  refine lv_aload_n hC.x hC.b dJ0_init_db425_9 rfl (lv_at hl 2 rfl) ?_
  refine j_goi (w1 := j_s3 h v cB (nI k) ml f t) hC hS (va_runU (As := []) hC.1 (cg_J4_length he _) (va_cwO 0 hC.t gJ0_init_db425_J4_length_8abf5_u549J4 rfl rfl rfl (show Cond.code yJ5_length_8abf5 cJ5_length_8abf5 1 (some .int) ∈ wsJ0_init_db425 by decide +kernel) (by decide +kernel) ⟨Nat.le_of_ble_eq_true rfl, Nat.le_of_ble_eq_true rfl⟩) (j_preV (q0 := 0) hC hS rfl) rfl rfl hl.1 rfl (lv_room (Nat.le_of_ble_eq_true rfl)) dJ0_init_db425_10 ⟨by decide, by decide⟩) (fun H locs hS => ?_)
  refine lv_istore (lv' := [(4, .int (nI k)), (3, .ref v), (0, .ref t), (1, .ref h), (2, .null)]) hC.x hC.b dJ0_init_db425_13 hl (by decide) rfl (fun ls hl => ?_)
  refine lv_aload_n hC.x hC.b dJ0_init_db425_15 rfl (lv_at hl 3 rfl) ?_
  refine j_goi (w1 := j_s3 h v cB (nI k) ml f t) hC hS (va_runU (As := []) hC.1 (cg_J5_isLatin1 he _) (va_cwU 0 hC.t gJ0_init_db425_J5_isLatin1_aae02_u1047J4 rfl rfl rfl rfl (by decide +kernel) ⟨Nat.le_of_ble_eq_true rfl, Nat.le_of_ble_eq_true rfl⟩) (j_preV (q0 := 0) hC hS rfl) rfl rfl hl.1 rfl (lv_room (Nat.le_of_ble_eq_true rfl)) dJ0_init_db425_16 ⟨by decide, by decide⟩) (fun H locs hS => ?_)
  refine lv_if_eq (tgt := 41) hC.x hC.b dJ0_init_db425_19 (by decide) (fun h => absurd h (by decide)) (fun _ => ?_)
  refine lv_aload_n hC.x hC.b dJ0_init_db425_22 rfl (lv_at hl 2 rfl) ?_
  refine lv_iconst (v := (0 : Int32)) hC.x hC.b dJ0_init_db425_23 (by decide) ?_
  refine j_putS (q0 := 2) (k := 1) hC hS hin jk0_J0_init_db425 rfl (by decide) (by decide +kernel) rfl rfl rfl rfl rfl (Nat.le_of_ble_eq_true rfl) dJ0_init_db425_24 (fun H locs hS => ?_)
  refine lv_aload_n hC.x hC.b dJ0_init_db425_27 rfl (lv_at hl 2 rfl) ?_
  refine lv_aload_n hC.x hC.b dJ0_init_db425_28 rfl (lv_at hl 1 rfl) ?_
  refine lv_iconst (v := (0 : Int32)) hC.x hC.b dJ0_init_db425_29 (by decide) ?_
  refine lv_iload hC.x hC.b dJ0_init_db425_30 (lv_at hl 0 rfl) ?_
  have hS : j_St D (va_A (j_s3 h v cB (nI k) ml f t) s.heap.size) s (j_s3 h v cB (nI k) ml f t) H locs := hS
  refine j_goa hC hS (va_runS hC.1 (c_J7_copy (n := nI k) (ml := ml) (h := h) (t := t) hk hf _) (va_cwS 3 hC.t gJ0_init_db425_J7_copyOfRange_39247 rfl rfl rfl (by decide +kernel) ⟨Nat.le_of_ble_eq_true rfl, Nat.le_of_ble_eq_true rfl⟩) (j_preS hC hS) rfl rfl hl.1 rfl (lv_room (Nat.le_of_ble_eq_true rfl)) dJ0_init_db425_32 ⟨by decide, by decide⟩) (fun w H locs hS => ?_)
  refine j_putS (q0 := 2) (k := 0) hC hS hin jk0_J0_init_db425 rfl (by decide) (by decide +kernel) rfl rfl rfl rfl rfl (Nat.le_of_ble_eq_true rfl) dJ0_init_db425_35 (fun H locs hS => ?_)
  refine lv_goto (tgt := 97) hC.x hC.b dJ0_init_db425_38 (by decide) ?_
  exact W.widen (by decide) (by decide) (W.vret hC.x hC.b hr (fun t2 ht _ => ⟨⟨w, rfl, trivial, by rw [ht]; exact hS.1, hS.2.1⟩, hS.2.2.F ht⟩) hS.2.2.2.2 dJ0_init_db425_97 hlocks)
set_option maxRecDepth 20000 in
theorem c_J0_init {D : va_G} {cB : ClassId} {b0 : Nat} {l : Launch} {h v t k : Nat} {ml : Value} {f : Nat → Int32} (hk : k < 16) (hf : j_asc f k) : ∀ sz, Met l yJ0_init_81219 wsJ0_init_81219 (rm_jn 5 1 150) (j_Pre D cB b0 [.ref t, .ref h] (j_s3 h v cB (nI k) ml f t) sz) (j_Qn D (j_s3 h v cB (nI k) ml f t) (j_ss h v cB (nI k) ml f k t) sz) 1 20 (va_A (j_s3 h v cB (nI k) ml f t) sz) := by
  intro sz
  refine Met.ofW (cc := cJ0_init_81219) (maxL := 2) (ret := none) (by decide) rfl ?_
  intro p e s m args below meth c s₁ B hml hv
  obtain ⟨rfl, rfl, hP, hK, hD⟩ := hv
  have hr := B.returns
  have hlocks := B.notSynchronized
  obtain ⟨hC, hS⟩ := j_start hK hP hD (⟨B.exec, B.bytes, hml, findClass_of_methodNamed B.named, atoms_spec (ws := wsJ0_init_81219) B.pre⟩ : CallFix p m c cJ0_init_81219 2 s _ wsJ0_init_81219 RJ0)
  have hl := lv_entry ([.ref t, .ref h] : List Value) (n := 2) (Nat.le_of_ble_eq_true rfl)
  rw [lg_entry_eq]
  generalize (lg_sl ([.ref t, .ref h] : List Value) ++ List.replicate (2 - (lg_sl ([.ref t, .ref h] : List Value)).length) Slot.unset).toArray = ls at hl ⊢
  have hl : lv_has ls 2 [(0, .ref t), (1, .ref h)] := hl
  change W p l e (rm_jn 5 1 150) _ _ _ _ _ _ _ _ _ _ _ _
  refine lv_aload_n hC.x hC.b dJ0_init_81219_0 rfl (lv_at hl 0 rfl) ?_
  refine lv_aload_n hC.x hC.b dJ0_init_81219_1 rfl (lv_at hl 1 rfl) ?_
  refine lv_null hC.x hC.b dJ0_init_81219_2 ?_
  refine j_gon hC hS (va_runI (As := [.ref h, .null]) (rest := []) hC.1 (c_J0_initB (ml := ml) (v := v) hk hf _) (cwI 2 hC.t gJ0_init_81219_J0_init_db425 rfl rfl rfl (hC.t _ (by decide +kernel)) (hC.t _ (by decide +kernel)) (hC.t _ (by decide +kernel)) rfl (by decide +kernel) ⟨Nat.le_of_ble_eq_true rfl, Nat.le_of_ble_eq_true rfl⟩) (j_preS hC hS) rfl rfl hl.1 rfl (lv_room (Nat.le_of_ble_eq_true rfl)) dJ0_init_81219_3 ⟨by decide, by decide⟩) (fun w H locs hS => ?_)
  exact W.widen (by decide) (by decide) (W.vret hC.x hC.b hr (fun t2 ht _ => ⟨⟨w, rfl, trivial, by rw [ht]; exact hS.1, hS.2.1⟩, hS.2.2.F ht⟩) hS.2.2.2.2 dJ0_init_81219_6 hlocks)
set_option maxRecDepth 20000 in
theorem jk_J4_toString_0e30d : ∀ w ∈ wsJ00, w ∈ wsJ4_toString_0e30d := by decide +kernel
set_option maxRecDepth 20000 in
theorem c_J4_toString {D : va_G} {cB : ClassId} {b0 : Nat} {l : Launch} {h v k : Nat} {ml : Value} {f : Nat → Int32} (hk : k < 16) (hf : j_asc f k) : ∀ sz, Met l yJ4_toString_0e30d wsJ4_toString_0e30d { frames := 6, cells := 2, slots := 24, locals := 180 } (j_Pre D cB b0 [.ref h] (j_sb h v cB (nI k) ml f) sz) (j_Qs D (j_sb h v cB (nI k) ml f) (j_ss h v cB (nI k) ml f k) sz) 2 24 (va_A (j_sb h v cB (nI k) ml f) sz) := by
  intro sz
  refine Met.ofW (cc := cJ4_toString_0e30d) (maxL := 1) (ret := some (.object "java/lang/String")) (by decide) rfl ?_
  intro p e s m args below meth c s₁ B hml hv
  obtain ⟨rfl, rfl, hP, hK, hD⟩ := hv
  have hr := B.returns
  have hlocks := B.notSynchronized
  obtain ⟨hC, hS⟩ := j_start hK hP hD (⟨B.exec, B.bytes, hml, findClass_of_methodNamed B.named, atoms_spec (ws := wsJ4_toString_0e30d) B.pre⟩ : CallFix p m c cJ4_toString_0e30d 1 s _ wsJ4_toString_0e30d RJ4)
  have hl := lv_entry ([.ref h] : List Value) (n := 1) (Nat.le_of_ble_eq_true rfl)
  rw [lg_entry_eq]
  generalize (lg_sl ([.ref h] : List Value) ++ List.replicate (1 - (lg_sl ([.ref h] : List Value)).length) Slot.unset).toArray = ls at hl ⊢
  have hl : lv_has ls 1 [(0, .ref h)] := hl
  change W p l e ({ frames := 6, cells := 2, slots := 24, locals := 180 }) _ _ _ _ _ _ _ _ _ _ _ _
  refine va_new (ci := 0) (C := RJ0) (T := TJ0) (N := 4) (fs := [.null, .int 0, .int 0, .int 0]) hC.x hC.b hC.t jk_J4_toString_0e30d tyJ0 tyJ0_ok hC.o (hC.t (.classLink RJ4 18 RJ0) (by decide +kernel)) (hC.t _ (by decide +kernel)) (hC.t _ (by decide +kernel)) hC.2.1.1 hS.1 hS.2.1 hS.2.2 hC.2.2.1 rfl (by decide +kernel) (by decide) (by decide) dJ4_toString_0e30d_0 (fun t H1 h1 h2 h3 => ?_)
  have hS : j_St D (va_A (j_sb h v cB (nI k) ml f) s.heap.size) s (j_s3 h v cB (nI k) ml f t) H1 _ := ⟨h1, h2, h3⟩
  refine lv_dup hC.x hC.b dJ4_toString_0e30d_3 rfl ?_
  refine lv_aload_n hC.x hC.b dJ4_toString_0e30d_4 rfl (lv_at hl 0 rfl) ?_
  refine j_gon hC hS (va_runI (As := [.ref h]) (rest := [.ref t]) hC.1 (c_J0_init (ml := ml) (v := v) hk hf _) (cwI 1 hC.t gJ4_toString_0e30d_J0_init_81219 rfl rfl rfl (hC.t _ (by decide +kernel)) (hC.t _ (by decide +kernel)) (hC.t _ (by decide +kernel)) rfl (by decide +kernel) ⟨Nat.le_of_ble_eq_true rfl, Nat.le_of_ble_eq_true rfl⟩) (j_preS hC hS) rfl rfl hl.1 rfl (lv_room (Nat.le_of_ble_eq_true rfl)) dJ4_toString_0e30d_5 ⟨by decide, by decide⟩) (fun w H locs hS => ?_)
  exact W.widen (by decide) (by decide) (W.aret hC.x hC.b hr (Or.inl ⟨_, rfl⟩) (Or.inr ⟨t, rfl⟩) (fun t2 ht _ => ⟨⟨w, t, rfl, trivial, by rw [ht]; exact hS.1, hS.2.1⟩, hS.2.2.F ht⟩) hS.2.2.2.2 dJ4_toString_0e30d_8 hlocks)
/-! String: length, charAt -/
set_option maxRecDepth 20000 in
theorem jk_J0_coder_7d493 : ∀ w ∈ wsJ00, w ∈ wsJ0_coder_7d493 := by decide +kernel
theorem c_J0_coder {D : va_G} {cB : ClassId} {b0 : Nat} {l : Launch} {ws : va_W} {q0 t w : Nat} (he : ws[q0]? = some (t, .inr (0, [.ref w, .int 0, .int 0, .int 0]))) : j_MI D cB b0 l yJ0_coder_7d493 wsJ0_coder_7d493 (rm_j 1 20) [.ref t] ws 0 ws := by
  intro sz
  refine Met.ofW (cc := cJ0_coder_7d493) (maxL := 1) (ret := some .byte) (by decide) rfl ?_
  intro p e s m args below meth c s₁ B hml hv
  obtain ⟨rfl, rfl, hP, hK, hD⟩ := hv
  have hr := B.returns
  have hlocks := B.notSynchronized
  obtain ⟨hC, hS⟩ := j_start hK hP hD (⟨B.exec, B.bytes, hml, findClass_of_methodNamed B.named, atoms_spec (ws := wsJ0_coder_7d493) B.pre⟩ : CallFix p m c cJ0_coder_7d493 1 s _ wsJ0_coder_7d493 RJ0)
  have hl := lv_entry ([.ref t] : List Value) (n := 1) (Nat.le_of_ble_eq_true rfl)
  rw [lg_entry_eq]
  generalize (lg_sl ([.ref t] : List Value) ++ List.replicate (1 - (lg_sl ([.ref t] : List Value)).length) Slot.unset).toArray = ls at hl ⊢
  have hl : lv_has ls 1 [(0, .ref t)] := hl
  change W p l e (rm_j 1 20) _ _ _ _ _ _ _ _ _ _ _ _
  refine j_cmp hC hS (by decide +kernel) dJ0_coder_7d493_0 ?_
  refine lv_if_eq (tgt := 13) hC.x hC.b dJ0_coder_7d493_3 (by decide) (fun h => absurd h (by decide)) (fun _ => ?_)
  refine lv_aload_n hC.x hC.b dJ0_coder_7d493_6 rfl (lv_at hl 0 rfl) ?_
  refine j_getS (k := 1) hC hS jk_J0_coder_7d493 he (by decide) (by decide +kernel) rfl rfl dJ0_coder_7d493_7 ?_
  refine lv_goto (tgt := 14) hC.x hC.b dJ0_coder_7d493_10 (by decide) ?_
  exact j_zret hC hS hr hlocks (by decide) (by decide) (by decide) dJ0_coder_7d493_14
set_option maxRecDepth 20000 in
theorem jk_J0_isLatin1_aae02 : ∀ w ∈ wsJ00, w ∈ wsJ0_isLatin1_aae02 := by decide +kernel
theorem c_J0_isLatin1 {D : va_G} {cB : ClassId} {b0 : Nat} {l : Launch} {ws : va_W} {q0 t w : Nat} (he : ws[q0]? = some (t, .inr (0, [.ref w, .int 0, .int 0, .int 0]))) : j_MI D cB b0 l yJ0_isLatin1_aae02 wsJ0_isLatin1_aae02 (rm_j 1 20) [.ref t] ws 1 ws := by
  intro sz
  refine Met.ofW (cc := cJ0_isLatin1_aae02) (maxL := 1) (ret := some .boolean) (by decide) rfl ?_
  intro p e s m args below meth c s₁ B hml hv
  obtain ⟨rfl, rfl, hP, hK, hD⟩ := hv
  have hr := B.returns
  have hlocks := B.notSynchronized
  obtain ⟨hC, hS⟩ := j_start hK hP hD (⟨B.exec, B.bytes, hml, findClass_of_methodNamed B.named, atoms_spec (ws := wsJ0_isLatin1_aae02) B.pre⟩ : CallFix p m c cJ0_isLatin1_aae02 1 s _ wsJ0_isLatin1_aae02 RJ0)
  have hl := lv_entry ([.ref t] : List Value) (n := 1) (Nat.le_of_ble_eq_true rfl)
  rw [lg_entry_eq]
  generalize (lg_sl ([.ref t] : List Value) ++ List.replicate (1 - (lg_sl ([.ref t] : List Value)).length) Slot.unset).toArray = ls at hl ⊢
  have hl : lv_has ls 1 [(0, .ref t)] := hl
  change W p l e (rm_j 1 20) _ _ _ _ _ _ _ _ _ _ _ _
  refine j_cmp hC hS (by decide +kernel) dJ0_isLatin1_aae02_0 ?_
  refine lv_if_eq (tgt := 17) hC.x hC.b dJ0_isLatin1_aae02_3 (by decide) (fun h => absurd h (by decide)) (fun _ => ?_)
  refine lv_aload_n hC.x hC.b dJ0_isLatin1_aae02_6 rfl (lv_at hl 0 rfl) ?_
  refine j_getS (k := 1) hC hS jk_J0_isLatin1_aae02 he (by decide) (by decide +kernel) rfl rfl dJ0_isLatin1_aae02_7 ?_
  refine lv_if_ne (tgt := 17) hC.x hC.b dJ0_isLatin1_aae02_10 (by decide) (fun h => absurd rfl h) (fun _ => ?_)
  refine lv_iconst (v := (1 : Int32)) hC.x hC.b dJ0_isLatin1_aae02_13 (by decide) ?_
  refine lv_goto (tgt := 18) hC.x hC.b dJ0_isLatin1_aae02_14 (by decide) ?_
  exact j_zret hC hS hr hlocks (by decide) (by decide) (by decide) dJ0_isLatin1_aae02_18
set_option maxRecDepth 20000 in
theorem jk_J0_length_8abf5 : ∀ w ∈ wsJ00, w ∈ wsJ0_length_8abf5 := by decide +kernel
theorem c_J0_length {D : va_G} {cB : ClassId} {b0 : Nat} {l : Launch} {ws : va_W} {q0 t w : Nat} (he : ws[q0]? = some (t, .inr (0, [.ref w, .int 0, .int 0, .int 0]))) {q1 k : Nat} {f : Nat → Int32} (he2 : ws[q1]? = some (w, .inl (cB, (k, .inl f)))) (hk : k ≤ 16) : j_MI D cB b0 l yJ0_length_8abf5 wsJ0_length_8abf5 (rm_j 2 50) [.ref t] ws (nI k) ws := by
  intro sz
  refine Met.ofW (cc := cJ0_length_8abf5) (maxL := 1) (ret := some .int) (by decide) rfl ?_
  intro p e s m args below meth c s₁ B hml hv
  obtain ⟨rfl, rfl, hP, hK, hD⟩ := hv
  have hr := B.returns
  have hlocks := B.notSynchronized
  obtain ⟨hC, hS⟩ := j_start hK hP hD (⟨B.exec, B.bytes, hml, findClass_of_methodNamed B.named, atoms_spec (ws := wsJ0_length_8abf5) B.pre⟩ : CallFix p m c cJ0_length_8abf5 1 s _ wsJ0_length_8abf5 RJ0)
  have hl := lv_entry ([.ref t] : List Value) (n := 1) (Nat.le_of_ble_eq_true rfl)
  rw [lg_entry_eq]
  generalize (lg_sl ([.ref t] : List Value) ++ List.replicate (1 - (lg_sl ([.ref t] : List Value)).length) Slot.unset).toArray = ls at hl ⊢
  have hl : lv_has ls 1 [(0, .ref t)] := hl
  change W p l e (rm_j 2 50) _ _ _ _ _ _ _ _ _ _ _ _
  refine lv_aload_n hC.x hC.b dJ0_length_8abf5_0 rfl (lv_at hl 0 rfl) ?_
  refine j_getS (k := 0) hC hS jk_J0_length_8abf5 he (by decide) (by decide +kernel) rfl rfl dJ0_length_8abf5_1 ?_
  refine va_alen (v := nI k) hC.x hC.b hC.2.1.1 hS.1 q1 0 he2 rfl rfl dJ0_length_8abf5_4 ?_
  refine lv_aload_n hC.x hC.b dJ0_length_8abf5_5 rfl (lv_at hl 0 rfl) ?_
  refine j_goi hC hS (va_runV (As := []) hC.1 (c_J0_coder he _) (cwV 0 hC.t gJ0_length_8abf5_J0_coder_7d493 rfl rfl rfl (by decide +kernel) ⟨Nat.le_of_ble_eq_true rfl, Nat.le_of_ble_eq_true rfl⟩) (j_preT (q0 := q0) hC hS he) rfl rfl hl.1 rfl (lv_room (Nat.le_of_ble_eq_true rfl)) dJ0_length_8abf5_6 ⟨by decide, by decide⟩) (fun H locs hS => ?_)
  refine lv_ishr hC.x hC.b dJ0_length_8abf5_9 ?_
  rw [show nI k >>> ((0 : Int32) &&& 31) = nI k from (show ∀ k, k < 17 → nI k >>> ((0 : Int32) &&& 31) = nI k by decide +kernel) k (by omega)]
  exact j_iret hC hS hr hlocks (by decide) (by decide) dJ0_length_8abf5_10
theorem c_J1_charAt {D : va_G} {cB : ClassId} {b0 : Nat} {l : Launch} {ws : va_W} {w q1 k i ch : Nat} {f : Nat → Int32} (he2 : ws[q1]? = some (w, .inl (cB, (k, .inl f)))) (hk : k ≤ 16) (hi : i < k) (hch : ch < 128) (hf : f i = nI ch) : j_MI D cB b0 l yJ1_charAt_3b067 wsJ1_charAt_3b067 (rm_j 3 90) [.ref w, .int (nI i)] ws (nI ch) ws := by
  intro sz
  refine Met.ofW (cc := cJ1_charAt_3b067) (maxL := 2) (ret := some .char) (by decide) rfl ?_
  intro p e s m args below meth c s₁ B hml hv
  obtain ⟨rfl, rfl, hP, hK, hD⟩ := hv
  have hr := B.returns
  have hlocks := B.notSynchronized
  obtain ⟨hC, hS⟩ := j_start hK hP hD (⟨B.exec, B.bytes, hml, findClass_of_methodNamed B.named, atoms_spec (ws := wsJ1_charAt_3b067) B.pre⟩ : CallFix p m c cJ1_charAt_3b067 2 s _ wsJ1_charAt_3b067 RJ1)
  have hl := lv_entry ([.ref w, .int (nI i)] : List Value) (n := 2) (Nat.le_of_ble_eq_true rfl)
  rw [lg_entry_eq]
  generalize (lg_sl ([.ref w, .int (nI i)] : List Value) ++ List.replicate (2 - (lg_sl ([.ref w, .int (nI i)] : List Value)).length) Slot.unset).toArray = ls at hl ⊢
  have hl : lv_has ls 2 [(0, .ref w), (1, .int (nI i))] := hl
  change W p l e (rm_j 3 90) _ _ _ _ _ _ _ _ _ _ _ _
  refine lv_iload_n hC.x hC.b dJ1_charAt_3b067_0 rfl (lv_at hl 1 rfl) ?_
  refine lv_aload_n hC.x hC.b dJ1_charAt_3b067_1 rfl (lv_at hl 0 rfl) ?_
  refine va_alen (v := nI k) hC.x hC.b hC.2.1.1 hS.1 q1 0 he2 rfl rfl dJ1_charAt_3b067_2 ?_
  refine j_gov hC hS (va_runS hC.1 (c_J0_checkIndex (i := i) (n := k) hi (by omega) _) (va_cwS 2 hC.t gJ1_charAt_3b067_J0_checkIndex_df160 rfl rfl rfl (by decide +kernel) ⟨Nat.le_of_ble_eq_true rfl, Nat.le_of_ble_eq_true rfl⟩) (j_preS hC hS) rfl rfl hl.1 rfl (lv_room (Nat.le_of_ble_eq_true rfl)) dJ1_charAt_3b067_3 ⟨by decide, by decide⟩) (fun H locs hS => ?_)
  refine lv_aload_n hC.x hC.b dJ1_charAt_3b067_6 rfl (lv_at hl 0 rfl) ?_
  refine lv_iload_n hC.x hC.b dJ1_charAt_3b067_7 rfl (lv_at hl 1 rfl) ?_
  refine va_bald hC.x hC.b hC.2.1.1 hS.1 q1 0 he2 rfl (vp_in_nI hi (by omega)) dJ1_charAt_3b067_8 ?_
  rw [nI_clamp (show i < 2 ^ 31 by omega), hf]
  refine lv_sipush (v := (255 : Int32)) hC.x hC.b dJ1_charAt_3b067_9 (by decide) ?_
  refine lv_iand hC.x hC.b dJ1_charAt_3b067_12 ?_
  rw [j_and hch]
  refine lv_i2c hC.x hC.b dJ1_charAt_3b067_13 (j_i2c hch) ?_
  exact j_zret hC hS hr hlocks (pk_charN (by omega)).1 (by decide) (by decide) dJ1_charAt_3b067_14
set_option maxRecDepth 20000 in
theorem jk_J0_charAt_5068e : ∀ w ∈ wsJ00, w ∈ wsJ0_charAt_5068e := by decide +kernel
theorem c_J0_charAt {D : va_G} {cB : ClassId} {b0 : Nat} {l : Launch} {ws : va_W} {q0 t w : Nat} (he : ws[q0]? = some (t, .inr (0, [.ref w, .int 0, .int 0, .int 0]))) {q1 k : Nat} {f : Nat → Int32} (he2 : ws[q1]? = some (w, .inl (cB, (k, .inl f)))) (hk : k ≤ 16) {i ch : Nat} (hi : i < k) (hch : ch < 128) (hf : f i = nI ch) : j_MI D cB b0 l yJ0_charAt_5068e wsJ0_charAt_5068e (rm_j 4 125) [.ref t, .int (nI i)] ws (nI ch) ws := by
  intro sz
  refine Met.ofW (cc := cJ0_charAt_5068e) (maxL := 2) (ret := some .char) (by decide) rfl ?_
  intro p e s m args below meth c s₁ B hml hv
  obtain ⟨rfl, rfl, hP, hK, hD⟩ := hv
  have hr := B.returns
  have hlocks := B.notSynchronized
  obtain ⟨hC, hS⟩ := j_start hK hP hD (⟨B.exec, B.bytes, hml, findClass_of_methodNamed B.named, atoms_spec (ws := wsJ0_charAt_5068e) B.pre⟩ : CallFix p m c cJ0_charAt_5068e 2 s _ wsJ0_charAt_5068e RJ0)
  have hl := lv_entry ([.ref t, .int (nI i)] : List Value) (n := 2) (Nat.le_of_ble_eq_true rfl)
  rw [lg_entry_eq]
  generalize (lg_sl ([.ref t, .int (nI i)] : List Value) ++ List.replicate (2 - (lg_sl ([.ref t, .int (nI i)] : List Value)).length) Slot.unset).toArray = ls at hl ⊢
  have hl : lv_has ls 2 [(0, .ref t), (1, .int (nI i))] := hl
  change W p l e (rm_j 4 125) _ _ _ _ _ _ _ _ _ _ _ _
  refine lv_aload_n hC.x hC.b dJ0_charAt_5068e_0 rfl (lv_at hl 0 rfl) ?_
  refine j_goi hC hS (va_runV (As := []) hC.1 (c_J0_isLatin1 he _) (cwV 0 hC.t gJ0_charAt_5068e_J0_isLatin1_aae02 rfl rfl rfl (by decide +kernel) ⟨Nat.le_of_ble_eq_true rfl, Nat.le_of_ble_eq_true rfl⟩) (j_preT (q0 := q0) hC hS he) rfl rfl hl.1 rfl (lv_room (Nat.le_of_ble_eq_true rfl)) dJ0_charAt_5068e_1 ⟨by decide, by decide⟩) (fun H locs hS => ?_)
  refine lv_if_eq (tgt := 16) hC.x hC.b dJ0_charAt_5068e_4 (by decide) (fun h => absurd h (by decide)) (fun _ => ?_)
  refine lv_aload_n hC.x hC.b dJ0_charAt_5068e_7 rfl (lv_at hl 0 rfl) ?_
  refine j_getS (k := 0) hC hS jk_J0_charAt_5068e he (by decide) (by decide +kernel) rfl rfl dJ0_charAt_5068e_8 ?_
  refine lv_iload_n hC.x hC.b dJ0_charAt_5068e_11 rfl (lv_at hl 1 rfl) ?_
  refine j_goi hC hS (va_runS hC.1 (c_J1_charAt he2 hk hi hch hf _) (va_cwS 2 hC.t gJ0_charAt_5068e_J1_charAt_3b067 rfl rfl rfl (by decide +kernel) ⟨Nat.le_of_ble_eq_true rfl, Nat.le_of_ble_eq_true rfl⟩) (j_preS hC hS) rfl rfl hl.1 rfl (lv_room (Nat.le_of_ble_eq_true rfl)) dJ0_charAt_5068e_12 ⟨by decide, by decide⟩) (fun H locs hS => ?_)
  exact j_zret hC hS hr hlocks (pk_charN (by omega)).1 (by decide) (by decide) dJ0_charAt_5068e_15
