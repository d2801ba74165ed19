/-! Temporary arrays of a method beside the world: made, written, cloned, copied back. -/
theorem k_tget {Γ : k_Pm} {g : Gt} {tmp : va_W} {k : Nat} {x : Nat × va_E} (h : tmp[k]? = some x) : (k_W Γ g ++ tmp)[(k_W Γ g).length + k]? = some x := by
  rw [List.getElem?_append_right (by omega)]
  simpa using h
theorem k_tset {Γ : k_Pm} {g : Gt} {tmp : va_W} {k : Nat} {x : Nat × va_E} : (k_W Γ g ++ tmp).set ((k_W Γ g).length + k) x = k_W Γ g ++ tmp.set k x := by
  rw [List.set_append_right _ _ (by omega)]
  simp
/-- a piece of n places from dp on, within L -/
def k_cb (dp : Int32) (n L : Nat) : Bool := decide (0 ≤ dp.toInt) && decide (dp.toInt + (n : Int) ≤ (L : Int))
theorem k_cb_in {dp : Int32} {n L : Nat} (h : k_cb dp n L = true) : ¬ dp < 0 ∧ dp.toNatClampNeg + n ≤ L := by
  unfold k_cb at h
  simp only [Bool.and_eq_true, decide_eq_true_eq] at h
  refine ⟨fun q => ?_, ?_⟩
  · rw [Int32.lt_iff_toInt_lt, Int32.toInt_zero] at q
    omega
  · have : (dp.toNatClampNeg : Int) = dp.toInt := by
      show ((dp.toInt.toNat : Nat) : Int) = dp.toInt
      omega
    omega
section
variable {Γ : k_Pm} {A0 : Nat → Prop} {p : Program} {l : Launch} {e : Env} {R : Room} {s : State} {m : MethodId} {args : Array Value} {below : List Frame} {meth : Method} {c : Code} {H : Heap} {locs : List Loc} {cells slots : Nat} {Q : State → Prop}
variable {cc : ByteArray} {nL : Nat} {Ts : List Cond} {own : String} {tmp : va_W} {g : Gt} {pc : Nat} {ls : Array Slot} {rest : List Value}
theorem k_I (hC : k_C Γ A0 p l s m args c cc nL Ts own) : s.vm.findClass "[I" = some Γ.2.1 := (hC.2.1.1.2 0 _ rfl).2
theorem k_new (hC : k_C Γ A0 p l s m args c cc nL Ts own) : ∀ q : Nat, s.heap.size ≤ q → A0 q := fun q h => hC.2.2.2.1 q (Or.inr h)
theorem x_newt (hC : k_C Γ A0 p l s m args c cc nL Ts own) (hw : k_St Γ A0 s tmp g H locs) (hword : Cond.arrayClass .int ∈ Ts) {n : Int32} {N : Nat} (hn : ¬ n < 0) (hN : n.toNatClampNeg = N) (hbytes : N * 4 ≤ 536870912) (hcells : cells + 1 ≤ R.cells) (hslots : slots + N ≤ R.slots) (hdg : decode cc pc = .ok (.newarray .int, 2))
    (kk : ∀ (q : Nat) (H1 : Heap) (locs1 : List Loc), k_St Γ A0 s (tmp ++ [(q, .inl (Γ.2.1, N, .inl (fun _ => 0)))]) g H1 locs1 → W p l e R s m args below meth c H1 locs1 (cells + 1) (slots + N) Q (F0 m (pc + 2) ls (.ref q :: rest))) : W p l e R s m args below meth c H locs cells slots Q (F0 m pc ls (.int n :: rest)) :=
  va_newa (atype := .int) (ty := .int) (a0 := (N, .inl (fun _ => 0))) hC.x hC.b (hC.t _ hword) rfl hC.2.1.1 hw.1 hw.2.1 hw.2.2 (k_new hC) (fun cA => rfl) hn hN hbytes hcells hslots hdg fun q cA H1 hK hP hD hS => by
    have e : cA = Γ.2.1 := Option.some.inj (((hK.2 2 (cA, .int) rfl).2 : s.vm.findClass "[I" = some cA).symm.trans (k_I hC))
    subst e
    rw [List.append_assoc] at hP hD
    exact kk q H1 _ ⟨hP, hD, hS⟩
theorem x_tast (hC : k_C Γ A0 p l s m args c cc nL Ts own) (hw : k_St Γ A0 s tmp g H locs) {k q N : Nat} {f : Nat → Int32} (hx : tmp[k]? = some (q, .inl (Γ.2.1, N, .inl f))) {j x : Int32} (hj : k_ib j N = true) (hdg : decode cc pc = .ok (.iastore, 1))
    (kk : ∀ (H1 : Heap) (locs1 : List Loc), k_St Γ A0 s (tmp.set k (q, .inl (Γ.2.1, N, .inl (upd f j.toNatClampNeg x)))) g H1 locs1 → W p l e R s m args below meth c H1 locs1 cells slots Q (F0 m (pc + 1) ls rest)) : W p l e R s m args below meth c H locs cells slots Q (F0 m pc ls (.int x :: .int j :: .ref q :: rest)) :=
  va_iast hC.x hC.b hC.2.1.1 hw.1 hw.2.1 hw.2.2 ((k_W Γ g).length + k) 0 (k_tget hx) rfl (k_ib_in hj) hdg fun H1 locs1 h1 h2 h3 => by
    rw [k_tset] at h1 h2
    exact kk H1 locs1 ⟨h1, h2, h3⟩
theorem x_clone (hC : k_C Γ A0 p l s m args c cc nL Ts own) (hw : k_St Γ A0 s tmp g H locs) (hsz : ls.size = nL) {index : Nat} (w1 : Cond.methodLink own index ⟨"[I", "clone", "()Ljava/lang/Object;"⟩ ∈ Ts) (w2 : Cond.sameMethod "[I" "java/lang/Object" "clone" "()Ljava/lang/Object;" ∈ Ts) (w3 : Cond.native ⟨"java/lang/Object", "clone", "()Ljava/lang/Object;"⟩ ∈ Ts) (w4 : Cond.instanceMethod ⟨"java/lang/Object", "clone", "()Ljava/lang/Object;"⟩ ∈ Ts) (w5 : Cond.selects "[I" ⟨"[I", "clone", "()Ljava/lang/Object;"⟩ ⟨"java/lang/Object", "clone", "()Ljava/lang/Object;"⟩ ∈ Ts) (w6 : Cond.castable "[I" "java/lang/Cloneable" ∈ k_ws)
    {t i : Nat} (hI : k_isI t = true) (hi : i < k_cnt t) (hframes : 1 ≤ R.frames) (hlocals : (rest.map fun v => v.category).sum + 14 ≤ R.locals) (hcells : cells + 1 ≤ R.cells) (hslots : slots + k_len t ≤ R.slots) (hdg : decode cc pc = .ok (.invokevirtual index, 3))
    (kk : ∀ (q : Nat) (H1 : Heap) (locs1 : List Loc), k_St Γ A0 s (tmp ++ [(q, .inl (Γ.2.1, k_len t, .inl (g t i)))]) g H1 locs1 → W p l e R s m args below meth c H1 locs1 (cells + 1) (slots + k_len t) Q (F0 m (pc + 3) ls (.ref q :: rest))) : W p l e R s m args below meth c H locs cells slots Q (F0 m pc ls (.ref (k_ad Γ t i) :: rest)) :=
  va_clone hC.x hC.b (hC.n.trans hsz.symm) hC.o (hC.t _ w1) (hC.t _ w2) (hC.t _ w3) (hC.t _ w4) (hC.t _ w5) (hC.w w6) hC.2.1.1 hw.1 hw.2.1 hw.2.2 (k_new hC) (k_off t + i) 0 (k_getI Γ g tmp hi hI) rfl (k_I hC) (fun j v hv => by
    have h1 : (arrV Γ.2.1 (k_len t) (fun j => .int (g t i j))).slots[j]? = some v := hv
    rw [arrV] at h1
    simp only [Array.getElem?_ofFn] at h1
    split at h1
    · rw [← Option.some.inj h1]; rfl
    · cases h1) hframes hlocals hcells hslots hdg fun q H1 hK hP hD hS => by
    rw [List.append_assoc] at hP hD
    exact kk q H1 _ ⟨hP, hD, hS⟩
theorem x_castT (hC : k_C Γ A0 p l s m args c cc nL Ts own) (hw : k_St Γ A0 s tmp g H locs) {index k q : Nat} {x : vp_A} (w1 : Cond.classLink own index "[I" ∈ Ts) (hx : tmp[k]? = some (q, .inl (Γ.2.1, x))) (hdg : decode cc pc = .ok (.checkcast index, 3))
    (kk : W p l e R s m args below meth c H locs cells slots Q (F0 m (pc + 3) ls (.ref q :: rest))) : W p l e R s m args below meth c H locs cells slots Q (F0 m pc ls (.ref q :: rest)) :=
  va_castA hC.x hC.b hC.o (hC.t _ w1) hw.1 ((k_W Γ g).length + k) (k_tget hx) (k_I hC) hdg kk
/-- System.arraycopy from a temporary array into a row of the world -/
theorem x_copyT (hC : k_C Γ A0 p l s m args c cc nL Ts own) (hw : k_St Γ A0 s tmp g H locs) (hsz : ls.size = nL) {index : Nat} (w1 : Cond.methodLink own index arraycopyName ∈ Ts) (w2 : Cond.native arraycopyName ∈ Ts) (w3 : Cond.static arraycopyName ∈ Ts) (w4 : Cond.initialized "java/lang/System" ∈ Ts) {k q N t1 i1 : Nat} {f : Nat → Int32} (hx : tmp[k]? = some (q, .inl (Γ.2.1, N, .inl f))) (hI1 : k_isI t1 = true) (h1 : i1 < k_cnt t1)
    {sp dp n : Int32} (a1 : ¬ sp < 0) (a2 : ¬ dp < 0) (a3 : ¬ n < 0) (a4 : sp.toNatClampNeg + n.toNatClampNeg ≤ N) (a5 : dp.toNatClampNeg + n.toNatClampNeg ≤ k_len t1) (hframes : 1 ≤ R.frames) (hlocals : (rest.map fun v => v.category).sum + (nativeFrameWords "java/lang/System" "arraycopy" 5 + 11) ≤ R.locals) (hdg : decode cc pc = .ok (.invokestatic index, 3))
    (kk : ∀ (H1 : Heap) (locs1 : List Loc), k_St Γ A0 s tmp (k_row g t1 i1 (va_cpy f (g t1 i1) sp.toNatClampNeg dp.toNatClampNeg n.toNatClampNeg)) H1 locs1 → W p l e R s m args below meth c H1 locs1 cells slots Q (F0 m (pc + 3) ls rest)) : W p l e R s m args below meth c H locs cells slots Q (F0 m pc ls (.int n :: .int dp :: .ref (k_ad Γ t1 i1) :: .int sp :: .ref q :: rest)) :=
  va_copyi hC.x hC.b (hC.n.trans hsz.symm) hC.o (hC.t _ w1) (hC.t _ w2) (hC.t _ w3) (hC.t _ w4) hC.2.1.1 hw.1 hw.2.1 hw.2.2 ((k_W Γ g).length + k) (k_off t1 + i1) 0 0 (k_tget hx) (k_getI Γ g tmp h1 hI1) rfl rfl rfl a1 a2 a3 a4 a5 (fun i _ => rfl) hframes hlocals hdg fun H1 locs1 b1 b2 b3 => by
    have e := k_set Γ g tmp h1 (f := va_cpy f (g t1 i1) sp.toNatClampNeg dp.toNatClampNeg n.toNatClampNeg) (k_E_I (Γ := Γ) (i := i1) hI1).symm
    rw [e] at b1 b2
    exact kk H1 locs1 ⟨b1, b2, b3⟩
end
