def j_Qr (D : va_G) (ra : Nat) (ws w1 : va_W) (sz : Nat) : Array Value → State → Outcome → State → Prop := va_Qr (fun (_ : Unit) => True) (fun _ a t => a = ra ∧ va_P D vwCl w1 t.heap ∧ va_D (va_A ws sz) w1) (va_A ws sz)
def j_MR (D : va_G) (cB : ClassId) (b0 : Nat) (l : Launch) (y : MethodName) (wsy : List Cond) (rm : Room) (As : List Value) (ws : va_W) (ra : Nat) (w1 : va_W) : Prop := ∀ sz, Met l y wsy rm (j_Pre D cB b0 As ws sz) (j_Qr D ra ws w1 sz) rm.cells rm.slots (va_A ws sz)
section
variable {D : va_G} {cB : ClassId} {b0 : Nat} {A : Nat → Prop} {p : Program} {l : Launch} {e : Env} {R : Room} {s : State} {m : MethodId} {args : Array Value} {below : List Frame} {meth : Method} {c : Code} {H : Heap} {locs : List Loc} {cells slots : Nat} {Q : State → Prop}
variable {cc : ByteArray} {nL : Nat} {Ts : List Cond} {own : String} {pc : Nat} {ls : Array Slot} {rest : List Value} {ws w1 : va_W}
theorem j_gor (hC : j_C D cB b0 A p s m args c cc nL Ts own) (hS : j_St D A s ws H locs) {ra : Nat} {a : Array Value} {mc ms : Nat} {st0 : List Value} (hr : va_Run p l e R s m args below meth c H locs cells slots mc ms (F0 m pc ls st0) rest (j_Qr D ra ws w1 H.size a) (va_A ws H.size))
    (kk : ∀ (H1 : Heap) (locs1 : List Loc), j_St D A s w1 H1 locs1 → W p l e R s m args below meth c H1 locs1 (cells + mc) (slots + ms) Q (F0 m (pc + 3) ls (.ref ra :: rest))) : W p l e R s m args below meth c H locs cells slots Q (F0 m pc ls st0) :=
  va_callr hr hS.2.2 (fun q _ h => j_fr hC hS q h) (j_fr hC hS) fun u q t H1 locs1 ht hvm hp hB hz hk hS2 => by
    obtain ⟨rfl, h1, h2⟩ := hB
    exact kk H1 locs1 ⟨ht ▸ h1, h2.weaken (fun _ _ _ h => j_fr hC hS _ h), hS2⟩
theorem j_aret (hC : j_C D cB b0 (va_A ws s.heap.size) p s m args c cc nL Ts own) {w1 : va_W} (hS : j_St D (va_A ws s.heap.size) s w1 H locs) {n : String} (hr : meth.sig.returnType = some (.object n)) (hlocks : meth.locks = false) {r : Nat} {mc ms : Nat} (hc : cells ≤ mc) (hs : slots ≤ ms) (hdg : decode cc pc = .ok (.areturn, 1)) : W p l e R s m args below meth c H locs cells slots (MQ below (j_Qr D r ws w1 s.heap.size) args s mc ms (va_A ws s.heap.size)) (F0 m pc ls [.ref r]) :=
  W.widen hc hs (W.aret hC.x hC.b hr (Or.inl ⟨n, rfl⟩) (Or.inr ⟨r, rfl⟩) (fun t ht _ => ⟨⟨(), r, rfl, trivial, rfl, by rw [ht]; exact hS.1, hS.2.1⟩, hS.2.2.F ht⟩) hS.2.2.2.2 hdg hlocks)
theorem j_put (hC : j_C D cB b0 A p s m args c cc nL Ts own) (hS : j_St D A s ws H locs) (hTs : ∀ w ∈ wsJ40, w ∈ Ts) {q0 a k index : Nat} {fs : List Value} {v : Value} {ty : FieldType} (he : ws[q0]? = some (a, .inr (1, fs))) (hk : k < 4) (hlink : Cond.fieldLink own index "java/lang/AbstractStringBuilder" (TJ4 k).2.1 (TJ4 k).2.2.1 ∈ Ts) (hdecl : (TJ4 k).1 = "java/lang/AbstractStringBuilder") (hfin : (TJ4 k).2.2.2 = false) (hd : parseFieldDescriptor (TJ4 k).2.2.1 = some ty) (hn : narrow ty v = v) (hfit : fits ty v = true) (hl : k < fs.length) (hdg : decode cc pc = .ok (.putfield index, 3))
    (kk : ∀ (H1 : Heap) (locs1 : List Loc), j_St D A s (ws.set q0 (a, .inr (1, fs.set k v))) H1 locs1 → W p l e R s m args below meth c H1 locs1 cells slots Q (F0 m (pc + 3) ls rest)) : W p l e R s m args below meth c H locs cells slots Q (F0 m pc ls (v :: .ref a :: rest)) :=
  va_put (ci := 1) (T := TJ4) (N := 4) hC.x hC.b hC.t hTs tyJ4 tyJ4_ok nmJ4 hC.o hC.2.1.1 hS.1 hS.2.1 hS.2.2 q0 he rfl k hk (hC.t _ hlink) (by rw [hdecl]; exact fun _ h => h) hfin hd hn hfit hl hdg fun H1 locs1 h1 h2 h3 => kk H1 locs1 ⟨h1, h2, h3⟩
theorem j_bast (hC : j_C D cB b0 A p s m args c cc nL Ts own) (hS : j_St D A s ws H locs) {q0 a k : Nat} {f : Nat → Int32} {x : Int32} (he : ws[q0]? = some (a, .inl (cB, (16, .inl f)))) (hk : k < 16) (hx : x.toInt8.toInt32 = x) (hdg : decode cc pc = .ok (.bastore, 1))
    (kk : ∀ (H1 : Heap) (locs1 : List Loc), j_St D A s (ws.set q0 (a, .inl (cB, (16, .inl (upd f k x))))) H1 locs1 → W p l e R s m args below meth c H1 locs1 cells slots Q (F0 m (pc + 1) ls rest)) : W p l e R s m args below meth c H locs cells slots Q (F0 m pc ls (.int x :: .int (nI k) :: .ref a :: rest)) :=
  va_bast hC.x hC.b hC.2.1.1 hS.1 hS.2.1 hS.2.2 q0 0 he rfl (vp_in_nI hk (by omega)) hdg fun H1 locs1 h1 h2 h3 => by
    have e1 : (nI k).toNatClampNeg = k := nI_clamp (by omega)
    have e2 : vp_nar .byte x = x := hx
    rw [e1, e2] at h1 h2
    exact kk H1 locs1 ⟨h1, h2, h3⟩
end
/-! append(char) -/
theorem jn_appC : ∀ w ∈ wsJ40, w ∈ wsJ5_append_3fe6f := fun _ h => List.mem_cons_of_mem _ (List.mem_append_right _ h)
theorem j_b8 {ch : Nat} (h : ch < 128) : (nI ch).toInt8.toInt32 = nI ch := (show ∀ c, c < 128 → (nI c).toInt8.toInt32 = nI c by decide +kernel) ch h
set_option maxRecDepth 20000 in
theorem c_J5_appendC {D : va_G} {cB : ClassId} {b0 : Nat} {l : Launch} {h v k ch : Nat} {ml : Value} {f : Nat → Int32} (hk : k < 16) (hch : ch < 128) : j_MR D cB b0 l yJ5_append_3fe6f wsJ5_append_3fe6f (rm_j 2 60) [.ref h, .int (nI ch)] (j_sb h v cB (nI k) ml f) h (j_sb h v cB (nI (k + 1)) ml (upd f k (nI ch))) := by
  intro sz
  refine Met.ofW (cc := cJ5_append_3fe6f) (maxL := 2) (ret := some (.object "java/lang/AbstractStringBuilder")) (by decide) rfl ?_
  intro p e s m args below meth c s₁ B hml hv
  obtain ⟨rfl, rfl, hP, hK, hD⟩ := hv
  have hr := B.returns
  have hlocks := B.notSynchronized
  obtain ⟨hC, hS⟩ := j_start hK hP hD (⟨B.exec, B.bytes, hml, findClass_of_methodNamed B.named, atoms_spec (ws := wsJ5_append_3fe6f) B.pre⟩ : CallFix p m c cJ5_append_3fe6f 2 s _ wsJ5_append_3fe6f RJ5)
  have hl := lv_entry ([.ref h, .int (nI ch)] : List Value) (n := 2) (Nat.le_of_ble_eq_true rfl)
  rw [lg_entry_eq]
  generalize (lg_sl ([.ref h, .int (nI ch)] : List Value) ++ List.replicate (2 - (lg_sl ([.ref h, .int (nI ch)] : List Value)).length) Slot.unset).toArray = ls at hl ⊢
  have hl : lv_has ls 2 [(0, .ref h), (1, .int (nI ch))] := hl
  change W p l e (rm_j 2 60) _ _ _ _ _ _ _ _ _ _ _ _
  refine lv_aload_n hC.x hC.b dJ5_append_3fe6f_0 rfl (lv_at hl 0 rfl) ?_
  refine lv_aload_n hC.x hC.b dJ5_append_3fe6f_1 rfl (lv_at hl 0 rfl) ?_
  refine j_get (q0 := 0) (k := 3) hC hS jn_appC rfl (by decide) (by decide +kernel) rfl rfl dJ5_append_3fe6f_2 ?_
  refine lv_iconst (v := (1 : Int32)) hC.x hC.b dJ5_append_3fe6f_5 (by decide) ?_
  refine lv_iadd hC.x hC.b dJ5_append_3fe6f_6 ?_
  rw [nI_1]
  refine j_gov (w1 := j_sb h v cB (nI k) ml f) hC hS (va_runU hC.1 (c_J5_ensure (k := k + 1) (by omega) _) (va_cwU 1 hC.t gJ5_append_3fe6f_J5_ensureCapacityInternal_d00df_u100J4 rfl rfl rfl rfl (by decide +kernel) ⟨Nat.le_of_ble_eq_true rfl, Nat.le_of_ble_eq_true rfl⟩) (j_preV (q0 := 0) hC hS rfl) rfl rfl hl.1 rfl (lv_room (Nat.le_of_ble_eq_true rfl)) dJ5_append_3fe6f_7 ⟨by decide, by decide⟩) (fun H locs hS => ?_)
  refine lv_aload_n hC.x hC.b dJ5_append_3fe6f_10 rfl (lv_at hl 0 rfl) ?_
  refine j_goi (w1 := j_sb h v cB (nI k) ml f) hC hS (va_runU (As := []) hC.1 (c_J5_isLatin1 _) (va_cwU 0 hC.t gJ5_append_3fe6f_J5_isLatin1_aae02_u83J4 rfl rfl rfl rfl (by decide +kernel) ⟨Nat.le_of_ble_eq_true rfl, Nat.le_of_ble_eq_true rfl⟩) (j_preV (q0 := 0) hC hS rfl) rfl rfl hl.1 rfl (lv_room (Nat.le_of_ble_eq_true rfl)) dJ5_append_3fe6f_11 ⟨by decide, by decide⟩) (fun H locs hS => ?_)
  refine lv_if_eq (tgt := 45) hC.x hC.b dJ5_append_3fe6f_14 (by decide) (fun h => absurd h (by decide)) (fun _ => ?_)
  refine lv_iload_n hC.x hC.b dJ5_append_3fe6f_17 rfl (lv_at hl 1 rfl) ?_
  refine j_goi (w1 := j_sb h v cB (nI k) ml f) hC hS (va_runS hC.1 (c_J1_canEncode (v := ch) (by omega) _) (va_cwS 1 hC.t gJ5_append_3fe6f_J1_canEncode_fc78d rfl rfl rfl (by decide +kernel) ⟨Nat.le_of_ble_eq_true rfl, Nat.le_of_ble_eq_true rfl⟩) (j_preS hC hS) rfl rfl hl.1 rfl (lv_room (Nat.le_of_ble_eq_true rfl)) dJ5_append_3fe6f_18 ⟨by decide, by decide⟩) (fun H locs hS => ?_)
  refine lv_if_eq (tgt := 45) hC.x hC.b dJ5_append_3fe6f_21 (by decide) (fun h => absurd h (by decide)) (fun _ => ?_)
  refine lv_aload_n hC.x hC.b dJ5_append_3fe6f_24 rfl (lv_at hl 0 rfl) ?_
  refine j_get (q0 := 0) (k := 0) hC hS jn_appC rfl (by decide) (by decide +kernel) rfl rfl dJ5_append_3fe6f_25 ?_
  refine lv_aload_n hC.x hC.b dJ5_append_3fe6f_28 rfl (lv_at hl 0 rfl) ?_
  refine lv_dup hC.x hC.b dJ5_append_3fe6f_29 rfl ?_
  refine j_get (q0 := 0) (k := 3) hC hS jn_appC rfl (by decide) (by decide +kernel) rfl rfl dJ5_append_3fe6f_30 ?_
  refine lv_dup_x1 hC.x hC.b dJ5_append_3fe6f_33 rfl rfl ?_
  refine lv_iconst (v := (1 : Int32)) hC.x hC.b dJ5_append_3fe6f_34 (by decide) ?_
  refine lv_iadd hC.x hC.b dJ5_append_3fe6f_35 ?_
  rw [nI_1]
  refine j_put (q0 := 0) (k := 3) hC hS jn_appC rfl (by decide) (by decide +kernel) rfl rfl rfl rfl rfl (Nat.le_of_ble_eq_true rfl) dJ5_append_3fe6f_36 (fun H locs hS => ?_)
  refine lv_iload_n hC.x hC.b dJ5_append_3fe6f_39 rfl (lv_at hl 1 rfl) ?_
  refine lv_i2b hC.x hC.b dJ5_append_3fe6f_40 (j_b8 hch) ?_
  refine j_bast (q0 := 1) (k := k) hC hS rfl hk (j_b8 hch) dJ5_append_3fe6f_41 (fun H locs hS => ?_)
  refine lv_goto (tgt := 75) hC.x hC.b dJ5_append_3fe6f_42 (by decide) ?_
  refine lv_aload_n hC.x hC.b dJ5_append_3fe6f_75 rfl (lv_at hl 0 rfl) ?_
  exact j_aret hC hS hr hlocks (by decide) (by decide) dJ5_append_3fe6f_76
