/-! multianewarray, two dimensions of ints: walked here from the instruction's own meaning -/
/-- the heap while it is made: the outer array, then i rows, each stored as soon as it stands -/
def km_fl (U : State) (cA cI : ClassId) (N M : Nat) : Nat → State
  | 0 => U.pushCell (arrV cA N fun _ => .null)
  | i + 1 => ((km_fl U cA cI N M i).pushCell (arrV cI M fun _ => .int 0)).setCell U.heap.size (arrV cA N fun j => if j < i + 1 then .ref (U.heap.size + 1 + j) else .null)
theorem km_size (U : State) (cA cI : ClassId) (N M : Nat) : ∀ i, (km_fl U cA cI N M i).heap.size = U.heap.size + 1 + i
  | 0 => by simp [km_fl]
  | i + 1 => by
    have h := km_size U cA cI N M i
    simp only [km_fl, State.heap_setCell, State.heap_pushCell, Array.size_setIfInBounds, Array.size_push, h]
    omega
theorem km_used (U : State) (cA cI : ClassId) (N M : Nat) : ∀ i, (km_fl U cA cI N M i).slotsUsed = U.slotsUsed + N + i * M
  | 0 => by simp [km_fl, arrV_size]
  | i + 1 => by
    have h := km_used U cA cI N M i
    simp only [km_fl, State.slotsUsed_setCell, State.slotsUsed_pushCell, arrV_size, h, Nat.succ_mul]
    omega
theorem km_vm (U : State) (cA cI : ClassId) (N M : Nat) : ∀ i, (km_fl U cA cI N M i).vm = U.vm
  | 0 => rfl
  | i + 1 => km_vm U cA cI N M i
theorem km_top (U : State) (f : JFrame) (cA cI : ClassId) (N M : Nat) : ∀ i, km_fl (U.setTop f) cA cI N M i = (km_fl U cA cI N M i).setTop f
  | 0 => rfl
  | i + 1 => by
    simp only [km_fl, km_top U f cA cI N M i, State.pushCell_setTop, State.setCell_setTop, State.heap_setTop]
theorem km_tops (U : State) (cA cI : ClassId) (N M : Nat) (h : U.topJava?.isSome) : ∀ i, (km_fl U cA cI N M i).topJava?.isSome
  | 0 => h
  | i + 1 => by
    simp only [km_fl, State.topJava?_setCell, State.topJava?_pushCell]
    exact km_tops U cA cI N M h i
theorem km_out (U : State) (cA cI : ClassId) (N M : Nat) : ∀ i, (km_fl U cA cI N M i).heap[U.heap.size]? = some (arrV cA N fun j => if j < i then .ref (U.heap.size + 1 + j) else .null)
  | 0 => by
    simp only [km_fl, State.heap_pushCell_size, Nat.not_lt_zero, if_false]
  | i + 1 => by
    have h := km_size U cA cI N M i
    simp only [km_fl, State.heap_setCell]
    rw [Array.getElem?_setIfInBounds_self_of_lt (by rw [State.heap_pushCell, Array.size_push, h]; omega)]
theorem km_other (U : State) (cA cI : ClassId) (N M i : Nat) {q : Nat} (hq : q ≠ U.heap.size) (hl : q < U.heap.size + 1 + i) : (km_fl U cA cI N M (i + 1)).heap[q]? = (km_fl U cA cI N M i).heap[q]? := by
  have h := km_size U cA cI N M i
  simp only [km_fl, State.heap_setCell]
  have hlt : q < (km_fl U cA cI N M i).heap.size := by omega
  rw [Array.getElem?_setIfInBounds_ne (Ne.symm hq), State.heap_pushCell_of_lt _ _ hlt]
theorem km_old (U : State) (cA cI : ClassId) (N M : Nat) {q : Nat} (hq : q < U.heap.size) : ∀ i, (km_fl U cA cI N M i).heap[q]? = U.heap[q]?
  | 0 => State.heap_pushCell_of_lt _ _ hq
  | i + 1 => (km_other U cA cI N M i (by omega) (by omega)).trans (km_old U cA cI N M hq i)
theorem km_row (U : State) (cA cI : ClassId) (N M : Nat) {j : Nat} : ∀ i, j < i → (km_fl U cA cI N M i).heap[U.heap.size + 1 + j]? = some (arrV cI M fun _ => .int 0)
  | 0, h => by omega
  | i + 1, h => by
    by_cases hj : j = i
    · subst hj
      have hs := km_size U cA cI N M j
      simp only [km_fl, State.heap_setCell]
      rw [Array.getElem?_setIfInBounds_ne (by omega), ← hs, State.heap_pushCell_size]
    · exact (km_other U cA cI N M i (by omega) (by omega)).trans (km_row U cA cI N M i (by omega))
/-- the outer array with one row more -/
theorem km_step (cA : ClassId) (N h i : Nat) : (arrV cA N fun j => if j < i then .ref (h + 1 + j) else .null).setSlot i (.ref (h + 1 + i)) = arrV cA N fun j => if j < i + 1 then .ref (h + 1 + j) else .null := by
  rw [arrV_store]
  congr 1
  funext j
  unfold updV
  by_cases hj : j = i
  · rw [if_pos hj, if_pos (by omega), hj]
  · rw [if_neg hj]
    show (if j < i then Value.ref (h + 1 + j) else Value.null) = _
    by_cases hl : j < i
    · rw [if_pos hl, if_pos (by omega)]
    · rw [if_neg hl, if_neg (by omega)]
section
variable {p : Program} {l : Launch} {e : Env} {R : Room} {s : State} {m : MethodId} {args : Array Value} {below : List Frame} {meth : Method} {c : Code} {T : State} {locs : List Loc} {cells slots : Nat}
theorem km_stand (X : Stand p l e R s m args below meth c T locs cells slots) (cA cI : ClassId) (N M : Nat) : ∀ i, Stand p l e R s m args below meth c (km_fl T cA cI N M i) (locs ++ (List.range i).map fun j => (⟨T.heap.size, j⟩ : Loc)) (cells + 1 + i) (slots + N + i * M)
  | 0 => by
    have h := X.pushed (arrV cA N fun _ => .null)
    rw [arrV_size] at h
    simpa [km_fl] using h
  | i + 1 => by
    have hs := km_size T cA cI N M i
    have hlt : T.heap.size < (km_fl T cA cI N M i).heap.size := by omega
    have h := ((km_stand X cA cI N M i).pushed (arrV cI M fun _ => .int 0)).stored (a := T.heap.size) ((State.heap_pushCell_of_lt _ _ hlt).trans (km_out T cA cI N M i)) i (.ref (T.heap.size + 1 + i))
    rw [km_step, arrV_size, List.append_assoc, show cells + 1 + i + 1 = cells + 1 + (i + 1) by omega, show slots + N + i * M + M = slots + N + (i + 1) * M by rw [Nat.succ_mul]; omega] at h
    rw [List.range_succ, List.map_append]
    exact h
end
section
variable {E : CtlPost} {e : Env} {d : Bool} {acts : List Action} {S : State}
/-- one row -/
theorem km_wrow {cI : ClassId} {kI : Class} {comp : ClassId} {M : Nat} (hk : S.vm.classes[cI]? = some kI) (hkind : kI.kind = .array comp .int) (hM : M < 1000) (hl : ¬ M > e.platform.arrayLengthLimit) (hh : ¬ M * componentBytes .int > e.platform.maxHeapBytes) (hc : S.heap.size < e.platform.maxCells) (hs : S.slotsUsed + M ≤ e.platform.maxSlots)
    {Q : Addr → Pre} (hq : ∀ acts', Q S.heap.size d acts' (S.pushCell (arrV cI M fun _ => .int 0))) : wp (Op.multianewarray.make cI [nI M]) Q E e d acts S := by
  rw [Op.multianewarray.make]
  simp only [if_neg (nI_pos (show M < 2 ^ 31 by omega)), wp_bind', wp_pure', W.theClass, hk, Option.some.injEq, exists_eq_left', hkind, nI_clamp (show M < 2 ^ 31 by omega)]
  refine W.newArray_of hk hkind hl hh hc hs rfl fun acts' => ?_
  rw [show (defaultValue .int) = .int 0 from rfl]
  have h := hq acts'
  rw [← arrV_new] at h
  exact h
/-- all of it -/
theorem km_wmake {cA cI : ClassId} {kA kI : Class} {comp : ClassId} {N M : Nat} (hkA : S.vm.classes[cA]? = some kA) (hkindA : kA.kind = .array cI (.array .int)) (hk : S.vm.classes[cI]? = some kI) (hkind : kI.kind = .array comp .int) (hN : N < 1000) (hM : M < 1000)
    (hl : 1000 ≤ e.platform.arrayLengthLimit) (hh : 4000 ≤ e.platform.maxHeapBytes) (hc : S.heap.size + (1 + N) ≤ e.platform.maxCells) (hs : S.slotsUsed + (N + N * M) ≤ e.platform.maxSlots)
    {Q : Addr → Pre} (hq : ∀ d' acts', Q S.heap.size d' acts' (km_fl S cA cI N M N)) : wp (Op.multianewarray.make cA [nI N, nI M]) Q E e d acts S := by
  rw [Op.multianewarray.make]
  simp only [if_neg (nI_pos (show N < 2 ^ 31 by omega)), wp_bind', wp_pure', W.theClass, hkA, Option.some.injEq, exists_eq_left', hkindA, nI_clamp (show N < 2 ^ 31 by omega)]
  refine W.newArray_of hkA hkindA (by omega) (by show ¬ N * 4 > _; omega) (by omega) (by omega) rfl fun acts' => ?_
  have hfind : List.find? (fun x => decide (x < 0)) [nI M] = none := by
    rw [List.find?_cons_of_neg (by simpa using nI_pos (show M < 2 ^ 31 by omega))]
    rfl
  have hgo : ∀ d1 acts1, wp (forIn [0:N] PUnit.unit fun i _ => do
      Jvm.writeLoc S.heap.size i (.ref (← Op.multianewarray.make cI [nI M]))
      Pure.pure (ForInStep.yield PUnit.unit)) (fun _ => Q S.heap.size) E e d1 acts1 (S.pushCell (arrV cA N fun _ => .null)) := fun d1 acts1 => by
    rw [Std.Legacy.Range.forIn_eq_forIn_range']
    refine wp_forIn_inv (fun rest U => ∃ i, i ≤ N ∧ rest = List.range' i (N - i) 1 ∧ U = km_fl S cA cI N M i) _ _ ⟨0, Nat.zero_le _, by simp [Std.Legacy.Range.size], rfl⟩ ?_ ?_
    · rintro x rest U d2 acts2 Q' ⟨i, hi, hr, rfl⟩ hQ'
      obtain ⟨k, hk1⟩ : ∃ k, N - i = k + 1 := by
        cases hk0 : N - i with
        | zero => rw [hk0] at hr; cases hr
        | succ k => exact ⟨k, rfl⟩
      rw [hk1, List.range'_succ] at hr
      obtain ⟨rfl, rfl⟩ := List.cons.inj hr
      have hsz := km_size S cA cI N M x
      have hus := km_used S cA cI N M x
      have hvm := km_vm S cA cI N M x
      have hmul : x * M + M ≤ N * M := by
        rw [← Nat.succ_mul]
        exact Nat.mul_le_mul_right M (by omega)
      simp only [wp_bind', wp_pure']
      refine km_wrow (by rw [hvm]; exact hk) hkind hM (by omega) (by show ¬ M * 4 > _; omega) (by omega) (by omega) fun acts3 => ?_
      rw [wp_bind', W.writeLoc]
      have hlt : S.heap.size < (km_fl S cA cI N M x).heap.size := by omega
      refine ⟨_, (State.heap_pushCell_of_lt _ _ hlt).trans (km_out S cA cI N M x), (fun h => by cases h), by rw [arrV_size]; omega, ?_, ?_⟩
      · rw [State.fitsSlot_pushCell]
        have hkx : (km_fl S cA cI N M x).vm.classes[cA]? = some kA := by rw [hvm]; exact hkA
        simp [State.fitsSlot, State.slotType?, arrV, hkx, hkindA, fits]
      · rw [hsz, km_step]
        exact hQ' _ _ _ ⟨x + 1, by omega, by rw [show N - (x + 1) = k by omega], rfl⟩
    · rintro U d2 acts2 ⟨i, hi, hr, rfl⟩
      have : N - i = 0 := by
        cases hk0 : N - i with
        | zero => rfl
        | succ k => rw [hk0, List.range'_succ] at hr; cases hr
      have : i = N := by omega
      subst this
      exact hq _ _
  rw [← arrV_new] at hgo
  split
  · simp only [hfind, wp_pure', wp_bind']
    exact hgo _ _
  · rw [wp_bind']
    exact hgo _ _
/-- the instruction, its pool's entry resolved or not -/
theorem km_wsem {f : JFrame} {vm1 : Vm} {index : Nat} {cA cI : ClassId} {kA kI : Class} {comp : ClassId} {N M : Nat} {rest : List Value} (hs0 : S.topJava?.isSome) (hg : (Jvm.resolveClass f.method.cls index).Gives e.toSetting S.vm (.ok cA) vm1) (hr : vm1.classReady f.method.cls index cA) (hsz : vm1.classes.size ≤ S.vm.classes.size)
    (hkA : vm1.classes[cA]? = some kA) (hkindA : kA.kind = .array cI (.array .int)) (hk : vm1.classes[cI]? = some kI) (hkind : kI.kind = .array comp .int) (hN : N < 1000) (hM : M < 1000) (hst : f.stack = .int (nI M) :: .int (nI N) :: rest)
    (hl : 1000 ≤ e.platform.arrayLengthLimit) (hh : 4000 ≤ e.platform.maxHeapBytes) (hc : S.heap.size + (1 + N) ≤ e.platform.maxCells) (hs : S.slotsUsed + (N + N * M) ≤ e.platform.maxSlots)
    {Q : Unit → Pre} (hq : ∀ d' acts', Q () d' acts' ((km_fl (S.setVm vm1) cA cI N M N).setTop { f with stack := .ref S.heap.size :: rest })) : wp (Op.multianewarray.sem index 2) Q E e d acts (S.setTop f) := by
  unfold Op.multianewarray.sem
  rw [wp_bind', W.resolveClassAt_transfer (s := S.setTop f) (State.method?_setTop f hs0) hg hr hsz, State.setVm_setTop, W.resolveClassAt_ready (s := (S.setVm vm1).setTop f) (State.method?_setTop f hs0) hr, wp_bind', W.popN]
  rw [if_neg (by decide)]
  refine ⟨f, State.topJava?_setTop' f hs0, [.int (nI N), .int (nI M)], rest, rfl, hst, ?_⟩
  simp only [List.mapM_cons, List.mapM_nil, wp_bind', wp_pure', State.setTop_setTop]
  refine km_wmake (S := (S.setVm vm1).setTop { f with stack := rest }) hkA hkindA hk hkind hN hM hl hh hc hs fun d' acts' => ?_
  rw [wp_bind', W.mark, W.pushRef]
  refine ⟨{ f with stack := rest }, by rw [km_top]; exact State.topJava?_setTop' _ (km_tops (S.setVm vm1) cA cI N M hs0 N), ?_⟩
  rw [km_top, State.setTop_setTop]
  exact hq _ _
end
section
variable {p : Program} {l : Launch} {e : Env} {R : Room} {s : State} {m : MethodId} {args : Array Value} {below : List Frame} {meth : Method} {c : Code} {H : Heap} {locs : List Loc} {cells slots : Nat} {Q : State → Prop}
variable {cc : ByteArray} {pc : Nat} {ls : Array Slot} {rest : List Value}
theorem km_arrV {cA : ClassId} {N : Nat} {f g : Nat → Value} (h : ∀ j, j < N → f j = g j) : arrV cA N f = arrV cA N g := by
  unfold arrV
  congr 1
  refine Array.ext (by simp) fun i h1 h2 => ?_
  rw [Array.getElem_ofFn, Array.getElem_ofFn]
  exact h i (by simpa using h1)
/-- what the words say of an array class over arrays of ints -/
theorem km_over {A : Array Value} (h : (Cond.arrayOver (.array .int)).before A s = true) : ∃ (comp cA : ClassId) (kA : Class), s.vm.findClass "[I" = some comp ∧ s.vm.classes[cA]? = some kA ∧ kA.kind = .array comp (.array .int) ∧ s.vm.findClass "[[I" = some cA := by
  simp only [Cond.before, Cond.holds, Cond.value, beq_iff_eq, Option.bind_eq_some_iff, Option.map_eq_some_iff] at h
  obtain ⟨comp, h1, cA, h2, kA, h3, h4⟩ := h
  obtain ⟨hlt, hp, -⟩ := Array.findIdx?_eq_some_iff_getElem.mp h2
  have hkk : s.vm.classes[cA] = kA := (Array.getElem?_eq_some_iff.mp h3).2
  rw [hkk] at hp
  cases hkind : kA.kind with
  | array component ty =>
    rw [hkind] at h4 hp
    simp only [Bool.and_eq_true, decide_eq_true_eq, beq_iff_eq] at h4 hp
    exact ⟨comp, cA, kA, h1, h3, by rw [hkind, hp, h4.1], h4.2⟩
  | _ => rw [hkind] at h4; cases h4
/-- multianewarray, two dimensions of ints: the outer array at the heap's end, its rows behind it -/
theorem km_mna (hexec : p.tables.exec = Jvm.exec) (hb : c.code = cc) {own : String} {index N M : Nat} {cI cA : ClassId} (hown : s.vm.findClass own = some m.cls) (hcl : (Cond.classLink own index "[[I").before args s = true) (hov : (Cond.arrayOver (.array .int)).before args s = true) (harr : (Cond.arrayClass .int).before args s = true)
    (hI : s.vm.findClass "[I" = some cI) (hA : s.vm.findClass "[[I" = some cA) (hN : N < 1000) (hM : M < 1000) (hcells : cells + (1 + N) ≤ R.cells) (hslots : slots + (N + N * M) ≤ R.slots) (hdg : decode cc pc = .ok (.multianewarray index 2, 4))
    (kk : ∀ (H1 : Heap) (locs1 : List Loc), H1.size = H.size + 1 + N → H1[H.size]? = some (arrV cA N fun j => .ref (H.size + 1 + j)) → (∀ j, j < N → H1[H.size + 1 + j]? = some (arrV cI M fun _ => .int 0)) → (∀ q : Nat, q < H.size → H1[q]? = H[q]?) → (∀ q ∈ locs1, q ∈ locs ∨ q.base = H.size) →
      W p l e R s m args below meth c H1 locs1 (cells + 1 + N) (slots + N + N * M) Q (F0 m (pc + 4) ls (.ref H.size :: rest))) : W p l e R s m args below meth c H locs cells slots Q (F0 m pc ls (.int (nI M) :: .int (nI N) :: rest)) := by
  intro T hT X
  subst hT
  subst hb
  obtain ⟨comp, cA', kA, o1, o2, o3, o4⟩ := km_over hov
  cases hI.symm.trans o1
  cases hA.symm.trans o4
  obtain ⟨cI', kI, comp2, a1, a2, a3⟩ := Cond.arrayClass_spec harr
  cases hI.symm.trans a1
  have hpl : e.platform.magicAccessors = ({} : Platform).magicAccessors := by rw [X.admits.platform]
  obtain ⟨cc, hfcc, hlk⟩ := Cond.classLink_spec hown hcl e.platform hpl
  cases hA.symm.trans hfcc
  obtain ⟨hg1, hwarm1, hready1⟩ := State.classEntry (e := e) X.warmed hlk
  generalize T.vm.noted m.cls index (.cls cA) = vm1 at hg1 hwarm1 hready1
  have hal : s.vm.Alike vm1 := hwarm1.alike
  obtain ⟨kA1, b1, b2⟩ := hal.2.2 _ _ o2
  obtain ⟨kI1, b3, b4⟩ := hal.2.2 _ _ a2
  have X1 := km_stand (X.noted hwarm1) cA cI N M N
  obtain ⟨hr1, hr2⟩ := X.roomAbove hcells hslots
  obtain ⟨t, t1, t2⟩ := kk (km_fl (T.setVm vm1) cA cI N M N).heap _ (km_size (T.setVm vm1) cA cI N M N) ((km_out (T.setVm vm1) cA cI N M N).trans (congrArg some (km_arrV fun j hj => if_pos hj))) (fun j hj => km_row (T.setVm vm1) cA cI N M N hj) (fun q hq => km_old (T.setVm vm1) cA cI N M hq N) (fun q hq => by
    rcases List.mem_append.mp hq with h | h
    · exact Or.inl h
    · obtain ⟨j, _, rfl⟩ := List.mem_map.mp h
      exact Or.inr rfl) _ rfl X1
  refine ⟨t, ?_, t2⟩
  refine Steps.instr (c := c) X.here ?_
  show (match decode c.code pc with | .ok (i, len) => _ | .error _ => False)
  rw [hdg]
  show wpRun (p.tables.exec _) _ _ e _
  rw [hexec]
  have hlim := Launch.admits_arrayLengthLimit X.admits
  have hmax := Launch.admits_maxHeapBytes X.admits
  refine km_wsem (f := F0 m pc ls (.int (nI M) :: .int (nI N) :: rest)) X.here.top hg1 hready1 (Nat.le_of_eq (X.warmed.alike.symm.trans hal).2.1) b1 (by rw [b2]; exact o3) b3 (by rw [b4]; exact a3) hN hM rfl (by omega) (by omega) hr1 hr2 fun d' acts' acts2 => ?_
  rw [afterInstr_ok]
  exact t1
end
