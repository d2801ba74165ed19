section
variable {D : va_G} {cI cA : ClassId} {A : Nat → Prop} {p : Program} {l : Launch} {e : Env} {R : Room} {s : State} {m : MethodId} {args : Array Value} {below : List Frame} {meth : Method} {c : Code} {H : Heap} {locs : List Loc} {cells slots : Nat} {Q : State → Prop}
variable {cc : ByteArray} {nL : Nat} {Ts : List Cond} {own : String} {pc : Nat} {ls : Array Slot} {rest : List Value} {ws : va_W}
/-- new, dup, and the constructor's call -/
theorem kz_mk {S : Type} {C : String} {T : u_T} {N ci index mc ms : Nat} {fs : List Value} {wr : Nat → S → va_W} (hC : kz_C D cI cA A p s m args c cc nL Ts own) (hS : kz_St D A s ws H locs) (hTs : ∀ w ∈ u_ws C T N, w ∈ Ts) (ty : Nat → FieldType) (hty : ∀ k, k < N → parseFieldDescriptor (T k).2.2.1 = some (ty k)) (hcl : Cond.classLink own index C ∈ Ts) (hinst : Cond.instantiable C N ∈ Ts) (hini : Cond.initialized C ∈ Ts) (hc : vwCl[ci]? = some (C, T, N)) (hfs : ∀ j, j < N → defaultValue (ty j) = vp_V fs j) (hcells : cells + 1 ≤ R.cells) (hslots : slots + N ≤ R.slots) (hd0 : decode cc pc = .ok (.new index, 3)) (hd1 : decode cc (pc + 3) = .ok (.dup, 1))
    (hrun : ∀ (q : Nat) (H1 : Heap), PreS s H1 (kz_Pre D cI cA q ci fs H1.size) [.ref q] → va_Run p l e R s m args below meth c H1 locs (cells + 1) (slots + N) mc ms (F0 m (pc + 4) ls (.ref q :: .ref q :: rest)) (.ref q :: rest) (kz_Q D (wr q) q H1.size #[.ref q]) (kz_A q H1.size))
    (kk : ∀ (q : Nat) (u : S) (H1 : Heap) (locs1 : List Loc), kz_St D A s (ws ++ wr q u) H1 locs1 → W p l e R s m args below meth c H1 locs1 (cells + 1 + mc) (slots + N + ms) Q (F0 m (pc + 7) ls (.ref q :: rest))) : W p l e R s m args below meth c H locs cells slots Q (F0 m pc ls rest) := by
  refine va_new hC.x hC.b hC.t hTs ty hty hC.o (hC.t _ hcl) (hC.t _ hinst) (hC.t _ hini) hC.2.1.1 hS.1 hS.2.1 hS.2.2 hC.2.2 hc hfs hcells hslots hd0 (fun q H1 h1 h2 h3 => ?_)
  refine lv_dup hC.x hC.b hd1 rfl ?_
  have hq : (ws ++ [(q, (.inr (ci, fs) : va_E))])[ws.length]? = some (q, .inr (ci, fs)) := by rw [List.getElem?_append_right (Nat.le_refl _), Nat.sub_self]; rfl
  have hPc : va_P D vwCl [(q, .inr (ci, fs))] H1 := fun k x hx => by
    have a1 := (List.getElem?_eq_some_iff.mp hx).1
    simp only [List.length_singleton] at a1
    have : k = 0 := by omega
    subst this
    cases hx
    exact h1 _ _ hq
  have hqA : ∀ x, kz_A q H1.size x → A x := fun x hx => hx.elim (fun e => by rw [e]; exact h2.2 _ _ hq) (fun e => hC.2.2 x (Nat.le_trans h3.1 e))
  refine va_callv (hrun q H1 ⟨kz_Pre_blind, fun U hU hW => ⟨rfl, by rw [hU], by rw [hU]; exact hPc, kz_K.to hW hC.2.1⟩⟩) h3 (fun x _ hx => hqA x hx) hqA (fun u t H2 locs2 ht hvm h5 hB hz hk hS2 => ?_)
  rw [ht] at hB
  have hold : ∀ (k : Nat) (x : Nat × va_E), ws[k]? = some x → x.1 < H1.size ∧ x.1 ≠ q := fun k x hx => by
    have hlen := (List.getElem?_eq_some_iff.mp hx).1
    have e1 : (ws ++ [(q, (.inr (ci, fs) : va_E))])[k]? = some x := by rw [List.getElem?_append_left hlen]; exact hx
    refine ⟨(h1 k x e1).lt, fun e2 => ?_⟩
    have := h2.1 k ws.length x _ e1 hq e2
    omega
  refine kk q u H2 locs2 ⟨va_P.app (va_P.kept (k_P_left h1) fun k x hx => hk x.1 (hold k x hx).1 (fun q => q.elim (hold k x hx).2 (fun e => absurd (hold k x hx).1 (Nat.not_lt.mpr e)))) hB.1, va_D.app hS.2.1 (hB.2.weaken fun _ _ _ h => hqA _ h) (fun i j x y hx hy hxy => ?_), hS2⟩
  · have a1 := hold i x hx
    have a2 := hB.2.2 j y hy
    rcases a2 with a2 | a2 <;> omega
end
