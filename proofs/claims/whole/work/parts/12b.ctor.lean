/-! constructors: what they stand on -/
def kz_K (D : va_G) (cI cA : ClassId) (U : State) : Prop := va_K D vwCl [(cI, .int), (cA, .array .int)] U ∧ (Cond.arrayOver (.array .int)).before #[] U = true ∧ ∀ w ∈ k_ws, va_Nw w U
theorem kz_K.to {D : va_G} {cI cA : ClassId} {s U : State} (hW : s.WarmedH U.vm) (h : kz_K D cI cA s) : kz_K D cI cA U := ⟨va_K.moved hW.alike h.1, kz_over hW.alike h.2.1 _, fun w hw => k_okw_warm (k_ws_ok w hw) hW (h.2.2 w hw)⟩
theorem kz_K.calling {D : va_G} {cI cA : ClassId} {U : State} (f : JFrame) (mk : MethodId) (a : Array Value) (h : kz_K D cI cA U) : kz_K D cI cA (U.calling f mk a) := kz_K.to (s := U) (U := U.calling f mk a) (State.WarmedH.refl U) h
abbrev kz_A (h0 sz : Nat) : Nat → Prop := fun q => q = h0 ∨ sz ≤ q
abbrev kz_z (cI : ClassId) (n : Nat) : va_E := .inl (cI, (n, .inl fun _ => 0))
def kz_Pre (D : va_G) (cI cA : ClassId) (h0 ci : Nat) (fs : List Value) (sz : Nat) : Array Value → State → Prop := va_Pc [.ref h0] (fun U => U.heap.size = sz ∧ va_P D vwCl [(h0, .inr (ci, fs))] U.heap ∧ kz_K D cI cA U)
theorem kz_Pre_blind {D : va_G} {cI cA : ClassId} {h0 ci : Nat} {fs : List Value} {sz : Nat} : FrameBlind (kz_Pre D cI cA h0 ci fs sz) := fun a U f mk q => ⟨q.1, q.2.1, q.2.2.1, kz_K.calling f mk a q.2.2.2⟩
def kz_Q {S : Type} (D : va_G) (wr : S → va_W) (h0 sz : Nat) : Array Value → State → Outcome → State → Prop := va_Qv (fun _ : S => True) (fun u t => va_P D vwCl (wr u) t.heap ∧ va_D (kz_A h0 sz) (wr u)) (kz_A h0 sz)
def kz_St (D : va_G) (A : Nat → Prop) (s : State) (ws : va_W) (H : Heap) (locs : List Loc) : Prop := va_P D vwCl ws H ∧ va_D A ws ∧ va_S A s.heap H locs
def kz_C (D : va_G) (cI cA : ClassId) (A : Nat → Prop) (p : Program) (s : State) (m : MethodId) (args : Array Value) (c : Code) (cc : ByteArray) (nL : Nat) (Ts : List Cond) (own : String) : Prop := CallFix p m c cc nL s args Ts own ∧ kz_K D cI cA s ∧ (∀ q, s.heap.size ≤ q → A q)
section
variable {D : va_G} {cI cA : ClassId} {A : Nat → Prop} {p : Program} {l : Launch} {e : Env} {R : Room} {s : State} {m : MethodId} {args : Array Value} {below : List Frame} {meth : Method} {c : Code} {H : Heap} {locs : List Loc} {cells slots : Nat} {Q : State → Prop}
variable {cc : ByteArray} {nL : Nat} {Ts : List Cond} {own : String} {pc : Nat} {ls : Array Slot} {rest : List Value} {ws : va_W}
theorem kz_C.x (h : kz_C D cI cA A p s m args c cc nL Ts own) : p.tables.exec = Jvm.exec := h.1.1
theorem kz_C.b (h : kz_C D cI cA A p s m args c cc nL Ts own) : c.code = cc := h.1.2.1
theorem kz_C.ml (h : kz_C D cI cA A p s m args c cc nL Ts own) : c.maxLocals = nL := h.1.2.2.1
theorem kz_C.o (h : kz_C D cI cA A p s m args c cc nL Ts own) : s.vm.findClass own = some m.cls := h.1.2.2.2.1
theorem kz_C.t (h : kz_C D cI cA A p s m args c cc nL Ts own) : ∀ w ∈ Ts, w.before args s = true := h.1.2.2.2.2
theorem kz_C.ov (h : kz_C D cI cA A p s m args c cc nL Ts own) : (Cond.arrayOver (.array .int)).before args s = true := kz_over (s := s) (U := s) (Vm.Alike.refl s.vm) h.2.1.2.1 _
theorem kz_C.rI (h : kz_C D cI cA A p s m args c cc nL Ts own) : va_RA s cI .int := (h.2.1.1.2 0 _ rfl).2
theorem kz_C.rA (h : kz_C D cI cA A p s m args c cc nL Ts own) : va_RA s cA (.array .int) := (h.2.1.1.2 1 _ rfl).2
theorem kz_obj (hC : kz_C D cI cA A p s m args c cc nL Ts own) (hsz : ls.size = nL) {idx : Nat} {a : Nat} (hlink : Cond.methodLink own idx objectInit ∈ Ts) (hinst : Cond.instanceMethod objectInit ∈ Ts) (hcode : Cond.code objectInit ⟨#[0xb1]⟩ 1 none ∈ Ts) (hdg : decode cc pc = .ok (.invokespecial idx, 3)) (hf : 1 ≤ R.frames) (hlo : 0 + (rest.map fun v => v.category).sum + 12 ≤ R.locals)
    (kk : W p l e R s m args below meth c H locs cells slots Q (F0 m (pc + 3) ls rest)) : W p l e R s m args below meth c H locs cells slots Q (F0 m pc ls (.ref a :: rest)) :=
  W.objInit hC.x hC.b hC.o (hC.t _ hlink) (hC.t _ hinst) (hC.t _ hcode) rfl (by rw [hC.ml]; exact hsz) rfl hdg hf hlo kk
theorem kz_newi (hC : kz_C D cI cA A p s m args c cc nL Ts own) (hS : kz_St D A s ws H locs) {N : Nat} (harr : Cond.arrayClass .int ∈ Ts) (hN : N < 1000) (hcells : cells + 1 ≤ R.cells) (hslots : slots + N ≤ R.slots) (hdg : decode cc pc = .ok (.newarray .int, 2))
    (kk : ∀ (q : Nat) (H1 : Heap), kz_St D A s (ws ++ [(q, kz_z cI N)]) H1 locs → W p l e R s m args below meth c H1 locs (cells + 1) (slots + N) Q (F0 m (pc + 2) ls (.ref q :: rest))) : W p l e R s m args below meth c H locs cells slots Q (F0 m pc ls (.int (nI N) :: rest)) :=
  va_newa (atype := .int) (ty := .int) (a0 := (N, .inl fun _ => 0)) hC.x hC.b (hC.t _ harr) rfl hC.2.1.1 hS.1 hS.2.1 hS.2.2 hC.2.2 (fun cA => rfl) (nI_pos (by omega)) (nI_clamp (by omega)) (by show N * 4 ≤ _; omega) hcells hslots hdg fun q cA' H1 h1 h2 h3 h4 => by
    have hr : va_RA s cA' .int := (h1.2 2 _ rfl).2
    have : cA' = cI := Option.some.inj (Eq.trans (Eq.symm hr) hC.rI)
    subst this
    exact kk q H1 ⟨h2, h3, h4⟩
theorem kz_bip (hC : kz_C D cI cA A p s m args c cc nL Ts own) {n : Int} {N : Nat} (hdg : decode cc pc = .ok (.bipush n, 2)) (hv : (Int8.ofInt n).toInt32 = nI N) (k : W p l e R s m args below meth c H locs cells slots Q (F0 m (pc + 2) ls (.int (nI N) :: rest))) : W p l e R s m args below meth c H locs cells slots Q (F0 m pc ls rest) := lv_bipush hC.x hC.b hdg hv k
theorem kz_putF (hC : kz_C D cI cA A p s m args c cc nL Ts own) (hS : kz_St D A s ws H locs) (hin : meth.name = "<init>") {a q0 ci k N index : Nat} {fs : List Value} {T : u_T} {v : Value} {ty : FieldType} (he : ws[q0]? = some (a, .inr (ci, fs))) (hc : vwCl[ci]? = some (own, T, N)) (hk : k < N) (hTs : ∀ w ∈ u_ws own T N, w ∈ Ts) (ty0 : Nat → FieldType) (hty : ∀ k, k < N → parseFieldDescriptor (T k).2.2.1 = some (ty0 k)) (hnm : ∀ a, a < N → ∀ b, b < N → a ≠ b → (T a).2.1 ≠ (T b).2.1)
    (hlink : Cond.fieldLink own index own (T k).2.1 (T k).2.2.1 ∈ Ts) (hdecl : (T k).1 = own) (hfin : (T k).2.2.2 = true) (hd : parseFieldDescriptor (T k).2.2.1 = some ty) (hn : narrow ty v = v) (hfit : fits ty v = true) (hl : k < fs.length) (hdg : decode cc pc = .ok (.putfield index, 3))
    (kk : ∀ (H1 : Heap) (locs1 : List Loc), kz_St D A s (ws.set q0 (a, .inr (ci, fs.set k v))) H1 locs1 → W p l e R s m args below meth c H1 locs1 cells slots Q (F0 m (pc + 3) ls rest)) : W p l e R s m args below meth c H locs cells slots Q (F0 m pc ls (v :: .ref a :: rest)) :=
  va_putF hC.x hC.b hC.t hTs ty0 hty hnm hC.o hC.2.1.1 hS.1 hS.2.1 hS.2.2 q0 he hc k hk (hC.t _ hlink) (by rw [hdecl]; exact fun _ h => h) hfin hin hdecl hd hn hfit hl hdg fun H1 locs1 h1 h2 h3 => kk H1 locs1 ⟨h1, h2, h3⟩
theorem kz_put (hC : kz_C D cI cA A p s m args c cc nL Ts own) (hS : kz_St D A s ws H locs) {a q0 ci k N index : Nat} {fs : List Value} {T : u_T} {v : Value} {ty : FieldType} (he : ws[q0]? = some (a, .inr (ci, fs))) (hc : vwCl[ci]? = some (own, T, N)) (hk : k < N) (hTs : ∀ w ∈ u_ws own T N, w ∈ Ts) (ty0 : Nat → FieldType) (hty : ∀ k, k < N → parseFieldDescriptor (T k).2.2.1 = some (ty0 k)) (hnm : ∀ a, a < N → ∀ b, b < N → a ≠ b → (T a).2.1 ≠ (T b).2.1)
    (hlink : Cond.fieldLink own index own (T k).2.1 (T k).2.2.1 ∈ Ts) (hdecl : (T k).1 = own) (hfin : (T k).2.2.2 = false) (hd : parseFieldDescriptor (T k).2.2.1 = some ty) (hn : narrow ty v = v) (hfit : fits ty v = true) (hl : k < fs.length) (hdg : decode cc pc = .ok (.putfield index, 3))
    (kk : ∀ (H1 : Heap) (locs1 : List Loc), kz_St D A s (ws.set q0 (a, .inr (ci, fs.set k v))) H1 locs1 → W p l e R s m args below meth c H1 locs1 cells slots Q (F0 m (pc + 3) ls rest)) : W p l e R s m args below meth c H locs cells slots Q (F0 m pc ls (v :: .ref a :: rest)) :=
  va_put hC.x hC.b hC.t hTs ty0 hty hnm hC.o hC.2.1.1 hS.1 hS.2.1 hS.2.2 q0 he hc k hk (hC.t _ hlink) (by rw [hdecl]; exact fun _ h => h) hfin hd hn hfit hl hdg fun H1 locs1 h1 h2 h3 => kk H1 locs1 ⟨h1, h2, h3⟩
/-- the rows of an array of arrays, behind it -/
def kz_rows (cI : ClassId) (a N M : Nat) : va_W := (List.range N).map fun j => (a + 1 + j, kz_z cI M)
def kz_o (cA : ClassId) (a N : Nat) : va_E := .inl (cA, (N, .inr (.inr (.inr (.inr fun j => some (a + 1 + j))))))
theorem kz_rows_at {cI : ClassId} {a N M k : Nat} {q : Nat × va_E} (h : (kz_rows cI a N M)[k]? = some q) : k < N ∧ q = (a + 1 + k, kz_z cI M) := by
  unfold kz_rows at h
  rw [List.getElem?_map] at h
  by_cases hk : k < N
  · rw [List.getElem?_range hk] at h
    exact ⟨hk, (Option.some.inj h).symm⟩
  · rw [List.getElem?_eq_none (by simpa using hk)] at h
    cases h
theorem kz_newm (hC : kz_C D cI cA A p s m args c cc nL Ts own) (hS : kz_St D A s ws H locs) {index N M : Nat} (hcl : Cond.classLink own index "[[I" ∈ Ts) (harr : Cond.arrayClass .int ∈ Ts) (hN : N < 1000) (hM : M < 1000) (hcells : cells + (1 + N) ≤ R.cells) (hslots : slots + (N + N * M) ≤ R.slots) (hdg : decode cc pc = .ok (.multianewarray index 2, 4))
    (kk : ∀ (a : Nat) (H1 : Heap) (locs1 : List Loc), kz_St D A s (ws ++ ((a, kz_o cA a N) :: kz_rows cI a N M)) H1 locs1 → W p l e R s m args below meth c H1 locs1 (cells + 1 + N) (slots + N + N * M) Q (F0 m (pc + 4) ls (.ref a :: rest))) : W p l e R s m args below meth c H locs cells slots Q (F0 m pc ls (.int (nI M) :: .int (nI N) :: rest)) :=
  kz_mna hC.x hC.b hC.o (hC.t _ hcl) hC.ov (hC.t _ harr) hC.rI hC.rA hN hM hcells hslots hdg fun H1 locs1 h1 h2 h3 h4 h5 => by
    have hsz := hS.2.2.1
    have hnew : ∀ (k : Nat) (q : Nat × va_E), ((H.size, kz_o cA H.size N) :: kz_rows cI H.size N M)[k]? = some q → k < N + 1 ∧ q.1 = H.size + k ∧ va_at D vwCl q H1 := fun k q hk => by
      cases k with
      | zero =>
        have : q = (H.size, kz_o cA H.size N) := (Option.some.inj hk).symm
        subst this
        exact ⟨by omega, rfl, h2⟩
      | succ k =>
        obtain ⟨a1, a2⟩ := kz_rows_at hk
        subst a2
        exact ⟨by omega, by show H.size + 1 + k = H.size + (k + 1); omega, h3 k a1⟩
    refine kk H.size H1 locs1 ⟨va_P.app (hS.1.kept fun k q hk => h4 q.1 (hS.1 k q hk).lt) (fun k q hk => (hnew k q hk).2.2), va_D.app hS.2.1 ⟨fun i j x y hx hy hxy => ?_, fun k q hk => ?_⟩ (fun i j x y hx hy hxy => ?_), ⟨by omega, fun q hq hA => (h4 q (by omega)).trans (hS.2.2.2.1 q hq hA), fun q hq => ?_⟩⟩
    · have a1 := (hnew i x hx).2.1
      have a2 := (hnew j y hy).2.1
      omega
    · have a1 := (hnew k q hk).2.1
      exact hC.2.2 _ (by omega)
    · have a1 := (hS.1 i x hx).lt
      have a2 := (hnew j y hy).2.1
      omega
    · rcases h5 q hq with h | h
      · exact hS.2.2.2.2 q h
      · rw [h]
        exact hC.2.2 _ hsz
theorem kz_vret {S : Type} {wr : S → va_W} {h0 : Nat} (hC : kz_C D cI cA (kz_A h0 s.heap.size) p s m args c cc nL Ts own) (u : S) (hS : kz_St D (kz_A h0 s.heap.size) s (wr u) H locs) (hr : meth.sig.returnType = none) (hlocks : meth.locks = false) {mc ms : Nat} (hc : cells ≤ mc) (hs : slots ≤ ms) (hdg : decode cc pc = .ok (.return_, 1)) : W p l e R s m args below meth c H locs cells slots (MQ below (kz_Q D wr h0 s.heap.size) args s mc ms (kz_A h0 s.heap.size)) (F0 m pc ls []) :=
  W.widen hc hs (W.vret hC.x hC.b hr (fun t ht _ => ⟨⟨u, rfl, trivial, by rw [ht]; exact hS.1, hS.2.1⟩, hS.2.2.F ht⟩) hS.2.2.2.2 hdg hlocks)
end
