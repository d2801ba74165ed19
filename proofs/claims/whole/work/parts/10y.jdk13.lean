/-! the builder beside the archives' world -/
section
variable {Γ : k_Pm} {A0 : Nat → Prop} {p : Program} {l : Launch} {e : Env} {R : Room} {s : State} {m : MethodId} {args : Array Value} {below : List Frame} {meth : Method} {c : Code} {H : Heap} {locs : List Loc} {cells slots : Nat} {Q : State → Prop}
variable {cc : ByteArray} {nL : Nat} {Ts : List Cond} {own : String} {tmp w1 : va_W} {g : Gt} {pc : Nat} {ls : Array Slot} {rest : List Value} {cB : ClassId}
theorem jx_K (hC : k_C Γ A0 p l s m args c cc nL Ts own) (hB : ArrOfT s cB .byte ∧ va_RA s cB .byte) : j_K Γ.1 cB (k_b0 Γ) s := ⟨⟨hC.2.1.1.1, fun k q hk => by
    match k, hk with
    | 0, hk => cases hk; exact hB
    | k + 1, hk => simp at hk⟩, hC.2.1.2.2.2.2.1, hC.2.1.2.2.2.1⟩
theorem jx_ne (hw : k_St Γ A0 s tmp g H locs) {k : Nat} {x : Nat × va_E} (hk : (k_W Γ g)[k]? = some x) : x.1 < H.size ∧ ¬ va_A tmp H.size x.1 := by
  have h1 : (k_W Γ g ++ tmp)[k]? = some x := by rw [List.getElem?_append_left (List.getElem?_eq_some_iff.mp hk).1]; exact hk
  refine ⟨(hw.1 k x h1).lt, ?_⟩
  rintro (⟨j, e, hj⟩ | h)
  · have h2 : (k_W Γ g ++ tmp)[(k_W Γ g).length + j]? = some (x.1, e) := by rw [List.getElem?_append_right (by omega), Nat.add_sub_cancel_left]; exact hj
    have h3 := hw.2.1.1 _ _ _ _ h1 h2 rfl
    have := (List.getElem?_eq_some_iff.mp hk).1
    omega
  · exact absurd (hw.1 k x h1).lt (Nat.not_lt.mpr h)
theorem jx_fr (hC : k_C Γ A0 p l s m args c cc nL Ts own) (hw : k_St Γ A0 s tmp g H locs) : ∀ q, va_A tmp H.size q → A0 q := fun q hq => hq.elim (fun ⟨k, e, h1⟩ => hw.2.1.2 ((k_W Γ g).length + k) _ (by rw [List.getElem?_append_right (by omega), Nat.add_sub_cancel_left]; exact h1)) (fun h => hC.2.2.2.1 q (Or.inr (Nat.le_trans hw.2.2.1 h)))
theorem jx_pre (hC : k_C Γ A0 p l s m args c cc nL Ts own) (hw : k_St Γ A0 s tmp g H locs) (hB : ArrOfT s cB .byte ∧ va_RA s cB .byte) {As : List Value} (U : State) (hU : U.heap = H) (hW : s.WarmedH U.vm) : j_Pre Γ.1 cB (k_b0 Γ) As tmp H.size As.toArray U :=
  ⟨rfl, by rw [hU], by rw [hU]; exact k_P_right hw.1, j_K.to (jx_K hC hB) hW (hC.SB hw) hU, ⟨fun i j x y hx hy hxy => by
    have h1 : (k_W Γ g ++ tmp)[(k_W Γ g).length + i]? = some x := by rw [List.getElem?_append_right (by omega), Nat.add_sub_cancel_left]; exact hx
    have h2 : (k_W Γ g ++ tmp)[(k_W Γ g).length + j]? = some y := by rw [List.getElem?_append_right (by omega), Nat.add_sub_cancel_left]; exact hy
    have := hw.2.1.1 _ _ _ _ h1 h2 hxy
    omega, fun k q hk => hC.2.2.1 _ (jx_fr hC hw _ (Or.inl ⟨k, q.2, hk⟩))⟩⟩
theorem jx_preS (hC : k_C Γ A0 p l s m args c cc nL Ts own) (hw : k_St Γ A0 s tmp g H locs) (hB : ArrOfT s cB .byte ∧ va_RA s cB .byte) {As : List Value} : PreS s H (j_Pre Γ.1 cB (k_b0 Γ) As tmp H.size) As := ⟨j_Pre_blind, fun U hU hW => jx_pre hC hw hB U hU hW⟩
theorem jx_preV (hC : k_C Γ A0 p l s m args c cc nL Ts own) (hw : k_St Γ A0 s tmp g H locs) (hB : ArrOfT s cB .byte ∧ va_RA s cB .byte) {q0 a : Nat} {fs As : List Value} (he : tmp[q0]? = some (a, .inr (1, fs))) : PreV s H RJ4 a (j_Pre Γ.1 cB (k_b0 Γ) (.ref a :: As) tmp H.size) As :=
  ⟨j_Pre_blind, va_recv (q0 := q0) hC.2.1.1 (k_P_right hw.1) (show vwCl[1]? = some (RJ4, TJ4, 4) from rfl) he, fun U hU hW => jx_pre hC hw hB U hU hW⟩
theorem jx_to (hC : k_C Γ A0 p l s m args c cc nL Ts own) (hw : k_St Γ A0 s tmp g H locs) {H1 : Heap} {locs1 : List Loc} (hk : ∀ q : Nat, q < H.size → ¬ va_A tmp H.size q → H1[q]? = H[q]?) (hP : va_P Γ.1 vwCl w1 H1) (hD : va_D (va_A tmp H.size) w1) (hS : va_S A0 s.heap H1 locs1) : k_St Γ A0 s w1 g H1 locs1 :=
  ⟨va_P.app ((k_P_left hw.1).kept fun k x hx => hk x.1 (jx_ne hw hx).1 (jx_ne hw hx).2) hP, va_D.app (k_D_left hw.2.1) (hD.weaken fun _ _ _ h => jx_fr hC hw _ h) (fun i j x y hx hy hxy => (jx_ne hw hx).2 (by rw [hxy]; exact hD.2 j y hy)), hS⟩
theorem jx_goi (hC : k_C Γ A0 p l s m args c cc nL Ts own) (hw : k_St Γ A0 s tmp g H locs) {r : Int32} {a : Array Value} {mc ms : Nat} {st0 : List Value} (hr : va_Run p l e R s m args below meth c H locs cells slots mc ms (F0 m pc ls st0) rest (j_Qi Γ.1 r tmp w1 H.size a) (va_A tmp H.size))
    (kk : ∀ (H1 : Heap) (locs1 : List Loc), k_St Γ A0 s w1 g H1 locs1 → W p l e R s m args below meth c H1 locs1 (cells + mc) (slots + ms) Q (F0 m (pc + 3) ls (.int r :: rest))) : W p l e R s m args below meth c H locs cells slots Q (F0 m pc ls st0) :=
  va_calli hr hw.2.2 (fun q _ h => jx_fr hC hw q h) (jx_fr hC hw) fun r1 u t H1 locs1 ht hvm hp hB hz hk hS2 => by
    subst hp
    exact kk H1 locs1 (jx_to hC hw hk (ht ▸ hB.1) hB.2 hS2)
theorem jx_gor (hC : k_C Γ A0 p l s m args c cc nL Ts own) (hw : k_St Γ A0 s tmp g H locs) {ra : Nat} {a : Array Value} {mc ms : Nat} {st0 : List Value} (hr : va_Run p l e R s m args below meth c H locs cells slots mc ms (F0 m pc ls st0) rest (j_Qr Γ.1 ra tmp w1 H.size a) (va_A tmp H.size))
    (kk : ∀ (H1 : Heap) (locs1 : List Loc), k_St Γ A0 s w1 g H1 locs1 → W p l e R s m args below meth c H1 locs1 (cells + mc) (slots + ms) Q (F0 m (pc + 3) ls (.ref ra :: rest))) : W p l e R s m args below meth c H locs cells slots Q (F0 m pc ls st0) :=
  va_callr hr hw.2.2 (fun q _ h => jx_fr hC hw q h) (jx_fr hC hw) fun u q t H1 locs1 ht hvm hp hB hz hk hS2 => by
    obtain ⟨rfl, h1, h2⟩ := hB
    exact kk H1 locs1 (jx_to hC hw hk (ht ▸ h1) h2 hS2)
end
