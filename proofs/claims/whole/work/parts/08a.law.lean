/-! The law's helpers: each calls one method of the class, puts its answer into out[0], and answers which exception came (0: none). -/
def k_Lo (o : Nat) (cJ : ClassId) (lo : Nat → Int64) : va_W := [(o, .inl (cJ, 1, .inr (.inl lo)))]
def k_AL (Γ : k_Pm) (o sz : Nat) : Nat → Prop := fun q => k_A Γ sz q ∨ q = o
def k_PreL (Γ : k_Pm) (As : List Value) (g : Gt) (o : Nat) (cJ : ClassId) (lo : Nat → Int64) (sz : Nat) : Array Value → State → Prop := va_Pc As (fun U => U.heap.size = sz ∧ va_P Γ.1 vwCl (k_W Γ g ++ k_Lo o cJ lo) U.heap ∧ va_D (k_B Γ) (k_W Γ g ++ k_Lo o cJ lo) ∧ (ArrOfT U cJ .long ∧ va_RA U cJ .long) ∧ KS Γ U)
theorem k_PreL_blind {Γ : k_Pm} {As : List Value} {g : Gt} {o : Nat} {cJ : ClassId} {lo : Nat → Int64} {sz : Nat} : FrameBlind (k_PreL Γ As g o cJ lo sz) := fun a U f mk q => ⟨q.1, q.2.1, q.2.2.1, q.2.2.2.1, ⟨arrOfT_moved (u := U) (E := U.calling f mk a) (Vm.Alike.refl U.vm) q.2.2.2.2.1.1, va_RA.moved (u := U) (U := U.calling f mk a) (Vm.Alike.refl U.vm) q.2.2.2.2.1.2⟩, q.2.2.2.2.2.calling f mk a⟩
def k_QL (Γ : k_Pm) (kw : Int32) (g' : Gt) (o : Nat) (cJ : ClassId) (lo' : Nat → Int64) (sz : Nat) : Array Value → State → Outcome → State → Prop := va_Qi (fun r1 g1 => r1 = kw ∧ g1 = g') (fun (g1 : Gt) t => va_P Γ.1 vwCl (k_W Γ g1 ++ k_Lo o cJ lo') t.heap) (k_AL Γ o sz)
def k_CW (Γ : k_Pm) (l : Launch) (y : MethodName) (ws : List Cond) (rm : Room) (As : List Value) (g : Gt) (o : Nat) (cJ : ClassId) (lo : Nat → Int64) (kw : Int32) (lo' : Nat → Int64) (g' : Gt) : Prop := ∀ sz, Met l y ws rm (k_PreL Γ As g o cJ lo sz) (k_QL Γ kw g' o cJ lo' sz) rm.cells rm.slots (k_AL Γ o sz)
section
variable {Γ : k_Pm} {A0 : Nat → Prop} {p : Program} {l : Launch} {e : Env} {R : Room} {s : State} {m : MethodId} {args : Array Value} {below : List Frame} {meth : Method} {c : Code} {H : Heap} {locs : List Loc} {cells slots : Nat} {Q : State → Prop}
variable {cc : ByteArray} {nL : Nat} {Ts : List Cond} {own : String} {g : Gt} {pc : Nat} {ls : Array Slot} {rest : List Value} {o : Nat} {cJ : ClassId} {lo : Nat → Int64}
theorem k_o_get (g : Gt) (lo : Nat → Int64) : (k_W Γ g ++ k_Lo o cJ lo)[(k_W Γ g).length + 0]? = some (o, .inl (cJ, 1, .inr (.inl lo))) := k_tget rfl
theorem k_C.ofL (h : CallFix p m c cc nL s args Ts own) (hK : KS Γ s) (hD : va_D (k_B Γ) (k_W Γ g ++ k_Lo o cJ lo)) (hl : l.stackTraces = false) : k_C Γ (k_AL Γ o s.heap.size) p l s m args c cc nL Ts own :=
  ⟨h, hK, fun q hq => hq.elim (hK.A_B hK.2.2.2.1 q) (fun e => by rw [e]; exact hD.2 _ _ (k_o_get g lo)), fun _ h => Or.inl h, hl⟩
theorem k_St.ofL (hP : va_P Γ.1 vwCl (k_W Γ g ++ k_Lo o cJ lo) s.heap) (hD : va_D (k_B Γ) (k_W Γ g ++ k_Lo o cJ lo)) : k_St Γ (k_AL Γ o s.heap.size) s (k_Lo o cJ lo) g s.heap [] :=
  ⟨hP, ⟨hD.1, fun k q hk => by
    by_cases hl : k < (k_W Γ g).length
    · rw [List.getElem?_append_left hl] at hk
      obtain ⟨t, i, h1, h2⟩ := k_mem hk
      exact Or.inl (Or.inl ⟨t, i, h1, h2⟩)
    · rw [List.getElem?_append_right (by omega)] at hk
      refine Or.inr ?_
      have hm := List.mem_of_getElem? hk
      rw [k_Lo, List.mem_singleton] at hm
      rw [hm]⟩, va_S.rf⟩
theorem k_KJ (hC : k_C Γ A0 p l s m args c cc nL Ts own) (hJ : ArrOfT s cJ .long ∧ va_RA s cJ .long) : va_K Γ.1 vwCl [(Γ.2.1, .int), (Γ.2.2.1, .array .int), (cJ, .long)] s :=
  ⟨hC.2.1.1.1, fun k q hk => by
    match k, hk with
    | 0, hk => exact hC.2.1.1.2 0 q hk
    | 1, hk => exact hC.2.1.1.2 1 q hk
    | 2, hk => cases hk; exact hJ
    | k + 3, hk => simp at hk⟩
theorem x_last (hC : k_C Γ A0 p l s m args c cc nL Ts own) (hw : k_St Γ A0 s (k_Lo o cJ lo) g H locs) (hJ : ArrOfT s cJ .long ∧ va_RA s cJ .long) {x : Int64} (hdg : decode cc pc = .ok (.lastore, 1))
    (kk : ∀ (H1 : Heap) (locs1 : List Loc), k_St Γ A0 s (k_Lo o cJ (vp_updL lo 0 x)) g H1 locs1 → W p l e R s m args below meth c H1 locs1 cells slots Q (F0 m (pc + 1) ls rest)) : W p l e R s m args below meth c H locs cells slots Q (F0 m pc ls (.long x :: .int 0 :: .ref o :: rest)) :=
  va_last hC.x hC.b (k_KJ hC hJ) hw.1 hw.2.1 hw.2.2 ((k_W Γ g).length + 0) 2 (k_o_get g lo) rfl (k_ib_in (by decide)) hdg fun H1 locs1 h1 h2 h3 => by
    rw [k_tset] at h1 h2
    exact kk H1 locs1 ⟨h1, h2, h3⟩
theorem x_lald (hC : k_C Γ A0 p l s m args c cc nL Ts own) (hw : k_St Γ A0 s (k_Lo o cJ lo) g H locs) (hJ : ArrOfT s cJ .long ∧ va_RA s cJ .long) (hdg : decode cc pc = .ok (.laload, 1))
    (kk : W p l e R s m args below meth c H locs cells slots Q (F0 m (pc + 1) ls (.long (lo 0) :: rest))) : W p l e R s m args below meth c H locs cells slots Q (F0 m pc ls (.int 0 :: .ref o :: rest)) :=
  va_lald hC.x hC.b (k_KJ hC hJ) hw.1 ((k_W Γ g).length + 0) 2 (k_o_get g lo) rfl (k_ib_in (by decide)) hdg kk
theorem x_wret (hC : k_C Γ (k_AL Γ o s.heap.size) p l s m args c cc nL Ts own) (hw : k_St Γ (k_AL Γ o s.heap.size) s (k_Lo o cJ lo) g H locs) (hr : meth.sig.returnType = some .int) (hlocks : meth.locks = false) {r : Int32} {mc ms : Nat} (hc : cells ≤ mc) (hs : slots ≤ ms) (hdg : decode cc pc = .ok (.ireturn, 1)) : W p l e R s m args below meth c H locs cells slots (MQ below (k_QL Γ r g o cJ lo s.heap.size) args s mc ms (k_AL Γ o s.heap.size)) (F0 m pc ls [.int r]) :=
  W.widen hc hs (W.iret hC.x hC.b hr (fun t ht _ => ⟨⟨r, g, rfl, ⟨rfl, rfl⟩, by show va_P _ _ _ t.heap; rw [ht]; exact hw.1⟩, hw.2.2.F ht⟩) hw.2.2.2.2 hdg hlocks)
/-- a helper's handler takes what was thrown; the rows ahead name other exceptions -/
theorem x_catch (hC : k_C Γ A0 p l s m args c cc nL Ts RL) {E : String} {ce : Cell} {q : Addr} (pre : List (Nat × Nat × Nat × Nat)) (x : Nat × Nat × Nat × Nat) (suf : List (Nat × Nat × Nat × Nat)) (htab : c.exceptionTable.toList = tableOf (pre ++ x :: suf)) (hx : covers ⟨x.1, x.2.1, x.2.2.1, x.2.2.2⟩ pc = true) (h0 : x.2.2.2 ≠ 0)
    (hpass : ∀ z ∈ pre, z.2.2.2 ≠ 0 ∧ ∃ nm : String, Cond.classLink RL z.2.2.2 nm ∈ Ts ∧ (E, nm) ∈ k_nc) (hlink : Cond.classLink RL x.2.2.2 E ∈ Ts) (hcast : Cond.castable E E ∈ k_ws) (hcell : H[q]? = some ce) (hv : ce.vm = .none) (hcl : s.vm.findClass E = some ce.cls)
    (kk : W p l e R s m args below meth c H locs cells slots Q (F0 m x.2.2.1 ls [.ref q])) : vx_W p l e R s m args below meth c H locs cells slots Q (F0 m pc ls rest) q := by
  refine vx_catch hC.o (tableOf pre) ⟨x.1, x.2.1, x.2.2.1, x.2.2.2⟩ (tableOf suf) (by rw [htab]; simp [tableOf]) (fun z hz => ?_) hx h0 (hC.t _ hlink) (va_Nw.use rfl (hC.w hcast)) hcell hv hcl kk
  obtain ⟨y, hy, rfl⟩ := List.mem_map.mp hz
  obtain ⟨h1, nm, h2, h3⟩ := hpass y hy
  exact Or.inr ⟨h1, nm, hC.t _ h2, hC.2.1.2.2.2.2.2.2 _ h3⟩
end
