/-! calls over the builder -/
section
variable {D : va_G} {cB : ClassId} {b0 : Nat} {A : Nat → Prop} {p : Program} {l : Launch} {e : Env} {R : Room} {s : State} {m : MethodId} {args : Array Value} {below : List Frame} {meth : Method} {c : Code} {H : Heap} {locs : List Loc} {cells slots : Nat} {Q : State → Prop}
variable {cc : ByteArray} {nL : Nat} {Ts : List Cond} {own : String} {pc : Nat} {ls : Array Slot} {rest : List Value} {ws w1 : va_W}
theorem j_fr (hC : j_C D cB b0 A p s m args c cc nL Ts own) (hS : j_St D A s ws H locs) : ∀ q, va_A ws H.size q → A q := fun q hq => hq.elim (fun ⟨k, e, h1⟩ => hS.2.1.2 k _ h1) (fun h => hC.2.2.1 q (Nat.le_trans hS.2.2.1 h))
theorem j_pre (hC : j_C D cB b0 A p s m args c cc nL Ts own) (hS : j_St D A s ws H locs) {As : List Value} (U : State) (hU : U.heap = H) (hW : s.WarmedH U.vm) : j_Pre D cB b0 As ws H.size As.toArray U := ⟨rfl, by rw [hU], by rw [hU]; exact hS.1, j_K.to hC.2.1 hW (hC.SB hS) hU, hS.2.1.weaken (fun _ _ _ h => hC.2.2.2 _ h)⟩
theorem j_preS (hC : j_C D cB b0 A p s m args c cc nL Ts own) (hS : j_St D A s ws H locs) {As : List Value} : PreS s H (j_Pre D cB b0 As ws H.size) As := ⟨j_Pre_blind, fun U hU hW => j_pre hC hS U hU hW⟩
theorem j_recv (hC : j_C D cB b0 A p s m args c cc nL Ts own) (hS : j_St D A s ws H locs) {q0 a ci : Nat} {fs : List Value} {q : vw_C} (he : ws[q0]? = some (a, .inr (ci, fs))) (hc : vwCl[ci]? = some q) : ∃ cellB : Cell, H[a]? = some cellB ∧ cellB.vm.isStatics = false ∧ s.vm.findClass q.1 = some cellB.cls :=
  va_recv hC.2.1.1 hS.1 hc (q0 := q0) he
theorem j_preV (hC : j_C D cB b0 A p s m args c cc nL Ts own) (hS : j_St D A s ws H locs) {q0 a : Nat} {fs As : List Value} (he : ws[q0]? = some (a, .inr (1, fs))) : PreV s H RJ4 a (j_Pre D cB b0 (.ref a :: As) ws H.size) As := ⟨j_Pre_blind, j_recv (q := (RJ4, TJ4, 4)) hC hS he rfl, fun U hU hW => j_pre hC hS U hU hW⟩
theorem j_goi (hC : j_C D cB b0 A p s m args c cc nL Ts own) (hS : j_St D A s ws H locs) {r : Int32} {a : Array Value} {mc ms : Nat} {st0 : List Value} (hr : va_Run p l e R s m args below meth c H locs cells slots mc ms (F0 m pc ls st0) rest (j_Qi D r ws w1 H.size a) (va_A ws H.size))
    (kk : ∀ (H1 : Heap) (locs1 : List Loc), j_St D A s w1 H1 locs1 → W p l e R s m args below meth c H1 locs1 (cells + mc) (slots + ms) Q (F0 m (pc + 3) ls (.int r :: rest))) : W p l e R s m args below meth c H locs cells slots Q (F0 m pc ls st0) :=
  va_calli hr hS.2.2 (fun q _ h => j_fr hC hS q h) (j_fr hC hS) fun r1 u t H1 locs1 ht hvm hp hB hz hk hS2 => by
    subst hp
    exact kk H1 locs1 ⟨ht ▸ hB.1, hB.2.weaken (fun _ _ _ h => j_fr hC hS _ h), hS2⟩
theorem j_gov (hC : j_C D cB b0 A p s m args c cc nL Ts own) (hS : j_St D A s ws H locs) {a : Array Value} {mc ms : Nat} {st0 : List Value} (hr : va_Run p l e R s m args below meth c H locs cells slots mc ms (F0 m pc ls st0) rest (j_Qv D ws w1 H.size a) (va_A ws H.size))
    (kk : ∀ (H1 : Heap) (locs1 : List Loc), j_St D A s w1 H1 locs1 → W p l e R s m args below meth c H1 locs1 (cells + mc) (slots + ms) Q (F0 m (pc + 3) ls rest)) : W p l e R s m args below meth c H locs cells slots Q (F0 m pc ls st0) :=
  va_callv hr hS.2.2 (fun q _ h => j_fr hC hS q h) (j_fr hC hS) fun u t H1 locs1 ht hvm hp hB hz hk hS2 => kk H1 locs1 ⟨ht ▸ hB.1, hB.2.weaken (fun _ _ _ h => j_fr hC hS _ h), hS2⟩
end
