/-! the JDK's builder: what its methods stand on -/
def j_K (D : va_G) (cB : ClassId) (b0 : Nat) (U : State) : Prop := va_K D vwCl [(cB, .byte)] U ∧ k_stat (fun q => b0 ≤ q) U U.heap ∧ b0 ≤ U.heap.size
theorem j_K.to {D : va_G} {cB : ClassId} {b0 : Nat} {s U : State} {H : Heap} {locs : List Loc} (h : j_K D cB b0 s) (hW : s.WarmedH U.vm) (hS : va_S (fun q => b0 ≤ q) s.heap H locs) (hU : U.heap = H) : j_K D cB b0 U := by
  refine ⟨va_K.moved hW.alike h.1, ?_, ?_⟩
  · rw [hU]
    exact k_stat.to hW.alike hS.2.1 h.2.1
  · rw [hU]
    exact Nat.le_trans h.2.2 hS.1
def j_Pre (D : va_G) (cB : ClassId) (b0 : Nat) (As : List Value) (ws : va_W) (sz : Nat) : Array Value → State → Prop := va_Pc As (fun U => U.heap.size = sz ∧ va_P D vwCl ws U.heap ∧ j_K D cB b0 U ∧ va_D (fun q => b0 ≤ q) ws)
theorem j_Pre_blind {D : va_G} {cB : ClassId} {b0 : Nat} {As : List Value} {ws : va_W} {sz : Nat} : FrameBlind (j_Pre D cB b0 As ws sz) := fun a U f mk q => ⟨q.1, q.2.1, q.2.2.1, j_K.to (U := U.calling f mk a) (H := U.heap) (locs := []) q.2.2.2.1 (State.WarmedH.refl U) va_S.rf rfl, q.2.2.2.2⟩
def j_Qi (D : va_G) (r : Int32) (ws w1 : va_W) (sz : Nat) : Array Value → State → Outcome → State → Prop := va_Qi (fun r1 (_ : Unit) => r1 = r) (fun _ t => va_P D vwCl w1 t.heap ∧ va_D (va_A ws sz) w1) (va_A ws sz)
def j_Qv (D : va_G) (ws w1 : va_W) (sz : Nat) : Array Value → State → Outcome → State → Prop := va_Qv (fun (_ : Unit) => True) (fun _ t => va_P D vwCl w1 t.heap ∧ va_D (va_A ws sz) w1) (va_A ws sz)
def j_MI (D : va_G) (cB : ClassId) (b0 : Nat) (l : Launch) (y : MethodName) (wsy : List Cond) (rm : Room) (As : List Value) (ws : va_W) (r : Int32) (w1 : va_W) : Prop := ∀ sz, Met l y wsy rm (j_Pre D cB b0 As ws sz) (j_Qi D r ws w1 sz) rm.cells rm.slots (va_A ws sz)
def j_MV (D : va_G) (cB : ClassId) (b0 : Nat) (l : Launch) (y : MethodName) (wsy : List Cond) (rm : Room) (As : List Value) (ws : va_W) (w1 : va_W) : Prop := ∀ sz, Met l y wsy rm (j_Pre D cB b0 As ws sz) (j_Qv D ws w1 sz) rm.cells rm.slots (va_A ws sz)
def j_St (D : va_G) (A : Nat → Prop) (s : State) (ws : va_W) (H : Heap) (locs : List Loc) : Prop := va_P D vwCl ws H ∧ va_D A ws ∧ va_S A s.heap H locs
def j_C (D : va_G) (cB : ClassId) (b0 : Nat) (A : Nat → Prop) (p : Program) (s : State) (m : MethodId) (args : Array Value) (c : Code) (cc : ByteArray) (nL : Nat) (Ts : List Cond) (own : String) : Prop := CallFix p m c cc nL s args Ts own ∧ j_K D cB b0 s ∧ (∀ q, s.heap.size ≤ q → A q) ∧ (∀ q, A q → b0 ≤ q)
section
variable {D : va_G} {cB : ClassId} {b0 : Nat} {A : Nat → Prop} {p : Program} {l : Launch} {e : Env} {R : Room} {s : State} {m : MethodId} {args : Array Value} {below : List Frame} {meth : Method} {c : Code} {H : Heap} {locs : List Loc} {cells slots : Nat} {Q : State → Prop}
variable {cc : ByteArray} {nL : Nat} {Ts : List Cond} {own : String} {pc : Nat} {ls : Array Slot} {rest : List Value} {ws : va_W}
theorem j_C.x (h : j_C D cB b0 A p s m args c cc nL Ts own) : p.tables.exec = Jvm.exec := h.1.1
theorem j_C.b (h : j_C D cB b0 A p s m args c cc nL Ts own) : c.code = cc := h.1.2.1
theorem j_C.o (h : j_C D cB b0 A p s m args c cc nL Ts own) : s.vm.findClass own = some m.cls := h.1.2.2.2.1
theorem j_C.t (h : j_C D cB b0 A p s m args c cc nL Ts own) : ∀ w ∈ Ts, w.before args s = true := h.1.2.2.2.2
theorem j_C.SB (h : j_C D cB b0 A p s m args c cc nL Ts own) (hS : j_St D A s ws H locs) : va_S (fun q => b0 ≤ q) s.heap H locs := ⟨hS.2.2.1, fun q h1 h2 => hS.2.2.2.1 q h1 (fun h3 => h2 (h.2.2.2 q h3)), fun q hq => h.2.2.2 _ (hS.2.2.2.2 q hq)⟩
/-- the start of a walk -/
theorem j_start (hK : j_K D cB b0 s) (hP : va_P D vwCl ws s.heap) (hD : va_D (fun q => b0 ≤ q) ws) (hF : CallFix p m c cc nL s args Ts own) : j_C D cB b0 (va_A ws s.heap.size) p s m args c cc nL Ts own ∧ j_St D (va_A ws s.heap.size) s ws s.heap [] :=
  ⟨⟨hF, hK, fun q h => Or.inr h, fun q h => h.elim (fun ⟨k, e, h1⟩ => hD.2 k _ h1) (fun h => Nat.le_trans hK.2.2 h)⟩, hP, hD.self, va_S.rf⟩
theorem j_get (hC : j_C D cB b0 A p s m args c cc nL Ts own) (hS : j_St D A s ws H locs) (hTs : ∀ w ∈ wsJ40, w ∈ Ts) {q0 a k index : Nat} {fs : List Value} {v : Value} (he : ws[q0]? = some (a, .inr (1, fs))) (hk : k < 4) (hlink : Cond.fieldLink own index "java/lang/AbstractStringBuilder" (TJ4 k).2.1 (TJ4 k).2.2.1 ∈ Ts) (hdecl : (TJ4 k).1 = "java/lang/AbstractStringBuilder") (hv : fs[k]? = some v) (hdg : decode cc pc = .ok (.getfield index, 3))
    (kk : W p l e R s m args below meth c H locs cells slots Q (F0 m (pc + 3) ls (v :: rest))) : W p l e R s m args below meth c H locs cells slots Q (F0 m pc ls (.ref a :: rest)) :=
  va_get (ci := 1) (T := TJ4) (N := 4) hC.x hC.b hC.t hTs hC.o hC.2.1.1 hS.1 q0 he rfl k hk (hC.t _ hlink) (by rw [hdecl]; exact fun _ h => h) hv hdg kk
theorem j_cmp (hC : j_C D cB b0 A p s m args c cc nL Ts own) (hS : j_St D A s ws H locs) {index : Nat} (hlink : Cond.fieldLink own index RJ0 "COMPACT_STRINGS" "Z" ∈ Ts) (hdg : decode cc pc = .ok (.getstatic index, 3))
    (kk : W p l e R s m args below meth c H locs cells slots Q (F0 m (pc + 3) ls (.int 1 :: rest))) : W p l e R s m args below meth c H locs cells slots Q (F0 m pc ls rest) :=
  va_gets hC.x hC.b hC.2.1.2.1.2.2.2.1 (hC.SB hS) hC.o (hC.t _ hlink) (fun _ h => h) hdg kk
theorem j_iret (hC : j_C D cB b0 (va_A ws s.heap.size) p s m args c cc nL Ts own) {w1 : va_W} (hS : j_St D (va_A ws s.heap.size) s w1 H locs) (hr : meth.sig.returnType = some .int) (hlocks : meth.locks = false) {r : Int32} {mc ms : Nat} (hc : cells ≤ mc) (hs : slots ≤ ms) (hdg : decode cc pc = .ok (.ireturn, 1)) : W p l e R s m args below meth c H locs cells slots (MQ below (j_Qi D r ws w1 s.heap.size) args s mc ms (va_A ws s.heap.size)) (F0 m pc ls [.int r]) :=
  W.widen hc hs (W.iret hC.x hC.b hr (fun t ht _ => ⟨⟨r, (), rfl, rfl, by rw [ht]; exact hS.1, hS.2.1⟩, hS.2.2.F ht⟩) hS.2.2.2.2 hdg hlocks)
theorem j_zret (hC : j_C D cB b0 (va_A ws s.heap.size) p s m args c cc nL Ts own) {w1 : va_W} (hS : j_St D (va_A ws s.heap.size) s w1 H locs) {ty : FieldType} (hr : meth.sig.returnType = some ty) (hlocks : meth.locks = false) {r : Int32} (hn : narrow ty (.int r) = .int r) {mc ms : Nat} (hc : cells ≤ mc) (hs : slots ≤ ms) (hdg : decode cc pc = .ok (.ireturn, 1)) : W p l e R s m args below meth c H locs cells slots (MQ below (j_Qi D r ws w1 s.heap.size) args s mc ms (va_A ws s.heap.size)) (F0 m pc ls [.int r]) :=
  W.widen hc hs (W.zret hC.x hC.b hr hn (fun t ht _ => ⟨⟨r, (), rfl, rfl, by rw [ht]; exact hS.1, hS.2.1⟩, hS.2.2.F ht⟩) hS.2.2.2.2 hdg hlocks)
end
/-! isLatin1, length -/
abbrev j_sb (h v : Nat) (cB : ClassId) (n : Int32) (ml : Value) (f : Nat → Int32) : va_W := [(h, .inr (1, [.ref v, .int 0, ml, .int n])), (v, .inl (cB, (16, .inl f)))]
abbrev rm_j (n locals : Nat) : Room := { frames := n, cells := 0, slots := 0, locals := locals }
theorem jn_isLatin1 : ∀ w ∈ wsJ40, w ∈ wsJ5_isLatin1_aae02 := fun _ h => List.mem_cons_of_mem _ (List.mem_append_right _ h)
theorem c_J5_isLatin1 {D : va_G} {cB : ClassId} {b0 : Nat} {l : Launch} {h v : Nat} {n : Int32} {ml : Value} {f : Nat → Int32} : j_MI D cB b0 l yJ5_isLatin1_aae02 wsJ5_isLatin1_aae02 (rm_j 1 20) [.ref h] (j_sb h v cB n ml f) 1 (j_sb h v cB n ml f) := by
  intro sz
  refine Met.ofW (cc := cJ5_isLatin1_aae02) (maxL := 1) (ret := some .boolean) (by decide) rfl ?_
  intro p e s m args below meth c s₁ B hml hv
  obtain ⟨rfl, rfl, hP, hK, hD⟩ := hv
  have hr := B.returns
  have hlocks := B.notSynchronized
  obtain ⟨hC, hS⟩ := j_start hK hP hD (⟨B.exec, B.bytes, hml, findClass_of_methodNamed B.named, atoms_spec (ws := wsJ5_isLatin1_aae02) B.pre⟩ : CallFix p m c cJ5_isLatin1_aae02 1 s _ wsJ5_isLatin1_aae02 RJ5)
  have hl := lv_entry ([.ref h] : List Value) (n := 1) (Nat.le_of_ble_eq_true rfl)
  rw [lg_entry_eq]
  generalize (lg_sl ([.ref h] : List Value) ++ List.replicate (1 - (lg_sl ([.ref h] : List Value)).length) Slot.unset).toArray = ls at hl ⊢
  have hl : lv_has ls 1 [(0, .ref h)] := hl
  change W p l e (rm_j 1 20) _ _ _ _ _ _ _ _ _ _ _ _
  refine j_cmp hC hS (by decide +kernel) dJ5_isLatin1_aae02_0 ?_
  refine lv_if_eq (tgt := 17) hC.x hC.b dJ5_isLatin1_aae02_3 (by decide) (fun h => absurd h (by decide)) (fun _ => ?_)
  refine lv_aload_n hC.x hC.b dJ5_isLatin1_aae02_6 rfl (lv_at hl 0 rfl) ?_
  refine j_get (q0 := 0) (k := 1) hC hS jn_isLatin1 rfl (by decide) (by decide +kernel) rfl rfl dJ5_isLatin1_aae02_7 ?_
  refine lv_if_ne (tgt := 17) hC.x hC.b dJ5_isLatin1_aae02_10 (by decide) (fun h => absurd rfl h) (fun _ => ?_)
  refine lv_iconst (v := (1 : Int32)) hC.x hC.b dJ5_isLatin1_aae02_13 (by decide) ?_
  refine lv_goto (tgt := 18) hC.x hC.b dJ5_isLatin1_aae02_14 (by decide) ?_
  exact j_zret hC hS hr hlocks (by decide) (by decide) (by decide) dJ5_isLatin1_aae02_18
theorem jn_length : ∀ w ∈ wsJ40, w ∈ wsJ5_length_8abf5 := fun _ h => List.mem_cons_of_mem _ (List.mem_append_right _ h)
theorem c_J5_length {D : va_G} {cB : ClassId} {b0 : Nat} {l : Launch} {h v : Nat} {n : Int32} {ml : Value} {f : Nat → Int32} : j_MI D cB b0 l yJ5_length_8abf5 wsJ5_length_8abf5 (rm_j 1 20) [.ref h] (j_sb h v cB n ml f) n (j_sb h v cB n ml f) := by
  intro sz
  refine Met.ofW (cc := cJ5_length_8abf5) (maxL := 1) (ret := some .int) (by decide) rfl ?_
  intro p e s m args below meth c s₁ B hml hv
  obtain ⟨rfl, rfl, hP, hK, hD⟩ := hv
  have hr := B.returns
  have hlocks := B.notSynchronized
  obtain ⟨hC, hS⟩ := j_start hK hP hD (⟨B.exec, B.bytes, hml, findClass_of_methodNamed B.named, atoms_spec (ws := wsJ5_length_8abf5) B.pre⟩ : CallFix p m c cJ5_length_8abf5 1 s _ wsJ5_length_8abf5 RJ5)
  have hl := lv_entry ([.ref h] : List Value) (n := 1) (Nat.le_of_ble_eq_true rfl)
  rw [lg_entry_eq]
  generalize (lg_sl ([.ref h] : List Value) ++ List.replicate (1 - (lg_sl ([.ref h] : List Value)).length) Slot.unset).toArray = ls at hl ⊢
  have hl : lv_has ls 1 [(0, .ref h)] := hl
  change W p l e (rm_j 1 20) _ _ _ _ _ _ _ _ _ _ _ _
  refine lv_aload_n hC.x hC.b dJ5_length_8abf5_0 rfl (lv_at hl 0 rfl) ?_
  refine j_get (q0 := 0) (k := 3) hC hS jn_length rfl (by decide) (by decide +kernel) rfl rfl dJ5_length_8abf5_1 ?_
  exact j_iret hC hS hr hlocks (by decide) (by decide) dJ5_length_8abf5_4
