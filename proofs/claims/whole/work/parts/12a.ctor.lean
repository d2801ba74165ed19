/-! constructors: the word of an array of int arrays holds on -/
theorem kz_over {s U : State} (hW : s.vm.Alike U.vm) (h : (Cond.arrayOver (.array .int)).before #[] s = true) (a : Array Value) : (Cond.arrayOver (.array .int)).before a U = true := by
  have hfc : ∀ n, U.vm.findClass n = s.vm.findClass n := fun n => hW.findClass n _
  have hk : ∀ (c : Nat) (k : Class), s.vm.classes[c]? = some k → ∃ k', U.vm.classes[c]? = some k' ∧ k'.kind = k.kind := fun c k hk => by
    obtain ⟨k', h1, h2⟩ := hW.2.2 c k hk
    exact ⟨k', h1, by rw [h2]⟩
  simp only [Cond.before, Cond.holds, Cond.value, beq_iff_eq, Option.bind_eq_some_iff, Option.map_eq_some_iff] at h ⊢
  obtain ⟨comp, h1, c, h2, k, h3, h4⟩ := h
  obtain ⟨k', hk1, hk2⟩ := hk c k h3
  refine ⟨comp, by rw [hfc]; exact h1, c, ?_, k', hk1, by rw [hk2, hfc]; exact h4⟩
  obtain ⟨hlt, hp, hq⟩ := Array.findIdx?_eq_some_iff_getElem.mp h2
  rw [Array.findIdx?_eq_some_iff_getElem]
  have hsz : U.vm.classes.size = s.vm.classes.size := hW.2.1
  have hkk : ∀ (j : Nat) (hj : j < s.vm.classes.size), (U.vm.classes[j]'(by omega)).kind = (s.vm.classes[j]).kind := fun j hj => by
    obtain ⟨k2, a1, a2⟩ := hk j _ (Array.getElem?_eq_getElem hj)
    rw [Array.getElem?_eq_getElem (by omega)] at a1
    rw [Option.some.inj a1, a2]
  refine ⟨by omega, ?_, fun j hj => ?_⟩
  · simp only [hkk c hlt]
    exact hp
  · have := hq j hj
    simp only [hkk j (by omega)]
    exact this
section
variable {p : Program} {l : Launch} {e : Env} {R : Room} {s : State} {m : MethodId} {args : Array Value} {below : List Frame} {meth : Method} {c : Code} {H : Heap} {locs : List Loc} {cells slots : Nat} {Q : State → Prop}
variable {cc : ByteArray} {pc : Nat} {ls : Array Slot} {rest : List Value}
/-- multianewarray, two dimensions of ints: the outer array at the heap's end, its rows behind it -/
theorem kz_mna (hexec : p.tables.exec = Jvm.exec) (hb : c.code = cc) {own : String} {index N M : Nat} {cI cA : ClassId} (hown : s.vm.findClass own = some m.cls) (hcl : (Cond.classLink own index "[[I").before args s = true) (hov : (Cond.arrayOver (.array .int)).before args s = true) (harr : (Cond.arrayClass .int).before args s = true)
    (hI : va_RA s cI .int) (hA : va_RA s cA (.array .int)) (hN : N < 1000) (hM : M < 1000) (hcells : cells + (1 + N) ≤ R.cells) (hslots : slots + (N + N * M) ≤ R.slots) (hdg : decode cc pc = .ok (.multianewarray index 2, 4))
    (kk : ∀ (H1 : Heap) (locs1 : List Loc), H1.size = H.size + 1 + N → H1[H.size]? = some (vp_cell cA (N, .inr (.inr (.inr (.inr fun j => some (H.size + 1 + j)))))) → (∀ j, j < N → H1[H.size + 1 + j]? = some (vp_cell cI (M, .inl fun _ => 0))) → (∀ q : Nat, q < H.size → H1[q]? = H[q]?) → (∀ q ∈ locs1, q ∈ locs ∨ q.base = H.size) →
      W p l e R s m args below meth c H1 locs1 (cells + 1 + N) (slots + N + N * M) Q (F0 m (pc + 4) ls (.ref H.size :: rest))) : W p l e R s m args below meth c H locs cells slots Q (F0 m pc ls (.int (nI M) :: .int (nI N) :: rest)) :=
  km_mna hexec hb hown hcl hov harr hI hA hN hM hcells hslots hdg fun H1 locs1 h1 h2 h3 h4 h5 => kk H1 locs1 h1 (h2.trans (congrArg some (vp_cell_q cA N fun j => some (H.size + 1 + j)).symm)) (fun j hj => (h3 j hj).trans (congrArg some (vp_cell_i cI M fun _ => 0).symm)) h4 h5
end
