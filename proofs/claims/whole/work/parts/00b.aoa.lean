/-- a private method of a class above, as a receiver of class C selects it: itself (three words of StringBuilder's that the printed law's list has and lw_tbl hasn't); z: any method of that class above, that a receiver selects -/
theorem k_selP {args : Array Value} {s : State} {C C9 : String} {y z x9 : MethodName} {n : Nat} (hy : y.cls ≠ "java/lang/invoke/MethodHandle" ∧ y.cls ≠ "java/lang/invoke/VarHandle") (hi : (Cond.instantiable C n).before args s = true) (hpriv : (Cond.privateMethod y).before args s = true) (hinst : (Cond.instanceMethod y).before args s = true) (hz : (Cond.selects C9 x9 z).before args s = true) (hcls : z.cls = y.cls) : (Cond.selects C y y).before args s = true := by
  obtain ⟨c, k, hc, hk, -, hniab, -, -⟩ := Cond.instantiable_spec hi
  obtain ⟨mk, methM, hnamed, hmethM, -, -⟩ := Cond.instanceMethod_spec hinst
  have hfound : s.methodFound? y.cls y.name y.desc = some mk := State.methodFound?_of_named hnamed hy
  have hsel : selectMethod {} s.vm c mk = .method mk := selectMethod_private hmethM (Cond.privateMethod_at hpriv mk methM hnamed hmethM)
  obtain ⟨-, -, m9, -, -, hn9, -, k9, hk9, hi9⟩ := Cond.selects_spec hz
  have e1 := findClass_of_methodNamed hn9
  have e2 := findClass_of_methodNamed hnamed
  rw [hcls] at e1
  have e3 : m9.cls = mk.cls := Option.some.inj (e1.symm.trans e2)
  rw [e3] at hk9
  simp only [Cond.before, Cond.holds, Cond.value, hc, hfound, hnamed, hsel, hk9]
  simp; exact hi9
def lw_sel3 : List Cond := [.selects "java/lang/StringBuilder" ⟨"java/lang/AbstractStringBuilder", "ensureCapacityInternal", "(I)V"⟩ ⟨"java/lang/AbstractStringBuilder", "ensureCapacityInternal", "(I)V"⟩, .selects "java/lang/StringBuilder" ⟨"java/lang/AbstractStringBuilder", "newCapacity", "(I)I"⟩ ⟨"java/lang/AbstractStringBuilder", "newCapacity", "(I)I"⟩, .selects "java/lang/StringBuilder" ⟨"java/lang/AbstractStringBuilder", "inflate", "()V"⟩ ⟨"java/lang/AbstractStringBuilder", "inflate", "()V"⟩]
def lw_tblB : List Cond := lw_sel3 ++ lw_tbl
theorem lw_htsB {args : Array Value} {s : State} (h : ∀ w ∈ lw_tbl, w.before args s = true) : ∀ w ∈ lw_tblB, w.before args s = true := by
  intro w hw
  rcases List.mem_append.mp hw with hw | hw
  · have hz : (Cond.selects "java/lang/StringBuilder" ⟨"java/lang/AbstractStringBuilder", "isLatin1", "()Z"⟩ ⟨"java/lang/AbstractStringBuilder", "isLatin1", "()Z"⟩).before args s = true := h _ (by decide +kernel)
    have hi : (Cond.instantiable "java/lang/StringBuilder" 4).before args s = true := h _ (by decide +kernel)
    simp only [lw_sel3, List.mem_cons, List.not_mem_nil, or_false] at hw
    rcases hw with rfl | rfl | rfl
    · exact k_selP ⟨by decide, by decide⟩ hi (h (.privateMethod ⟨"java/lang/AbstractStringBuilder", "ensureCapacityInternal", "(I)V"⟩) (by decide +kernel)) (h (.instanceMethod ⟨"java/lang/AbstractStringBuilder", "ensureCapacityInternal", "(I)V"⟩) (by decide +kernel)) hz rfl
    · exact k_selP ⟨by decide, by decide⟩ hi (h (.privateMethod ⟨"java/lang/AbstractStringBuilder", "newCapacity", "(I)I"⟩) (by decide +kernel)) (h (.instanceMethod ⟨"java/lang/AbstractStringBuilder", "newCapacity", "(I)I"⟩) (by decide +kernel)) hz rfl
    · exact k_selP ⟨by decide, by decide⟩ hi (h (.privateMethod ⟨"java/lang/AbstractStringBuilder", "inflate", "()V"⟩) (by decide +kernel)) (h (.instanceMethod ⟨"java/lang/AbstractStringBuilder", "inflate", "()V"⟩) (by decide +kernel)) hz rfl
  · exact h w hw
