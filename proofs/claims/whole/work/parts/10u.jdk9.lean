abbrev rm_ctor2 (n locals : Nat) : Room := { frames := n, cells := 1, slots := 16, locals := locals }
/-! new StringBuilder() -/
abbrev j_new (h : Nat) : va_W := [(h, .inr (1, [.null, .int 0, .int 0, .int 0]))]
def j_Q0 (D : va_G) (cB : ClassId) (h sz : Nat) : Array Value → State → Outcome → State → Prop := va_Qv (fun (_ : Nat) => True) (fun v t => va_P D vwCl (j_sb h v cB 0 (.int 0) (fun _ => 0)) t.heap ∧ va_D (va_A (j_new h) sz) (j_sb h v cB 0 (.int 0) (fun _ => 0))) (va_A (j_new h) sz)
theorem jn_init5 : ∀ w ∈ wsJ40, w ∈ wsJ5_init_d00df := by decide +kernel
set_option maxRecDepth 20000 in
theorem c_J5_init {D : va_G} {cB : ClassId} {b0 : Nat} {l : Launch} {h sz : Nat} : Met l yJ5_init_d00df wsJ5_init_d00df (rm_ctor2 1 40) (j_Pre D cB b0 [.ref h, .int (nI 16)] (j_new h) sz) (j_Q0 D cB h sz) 1 16 (va_A (j_new h) sz) := by
  refine Met.ofW (cc := cJ5_init_d00df) (maxL := 2) (ret := none) (by decide) rfl ?_
  intro p e s m args below meth c s₁ B hml hv
  obtain ⟨rfl, rfl, hP, hK, hD⟩ := hv
  have hr := B.returns
  have hlocks := B.notSynchronized
  obtain ⟨hC, hS⟩ := j_start hK hP hD (⟨B.exec, B.bytes, hml, findClass_of_methodNamed B.named, atoms_spec (ws := wsJ5_init_d00df) B.pre⟩ : CallFix p m c cJ5_init_d00df 2 s _ wsJ5_init_d00df RJ5)
  have hl := lv_entry ([.ref h, .int (nI 16)] : List Value) (n := 2) (Nat.le_of_ble_eq_true rfl)
  rw [lg_entry_eq]
  generalize (lg_sl ([.ref h, .int (nI 16)] : List Value) ++ List.replicate (2 - (lg_sl ([.ref h, .int (nI 16)] : List Value)).length) Slot.unset).toArray = ls at hl ⊢
  have hl : lv_has ls 2 [(0, .ref h), (1, .int (nI 16))] := hl
  change W p l e (rm_ctor2 1 40) _ _ _ _ _ _ _ _ _ _ _ _
  refine lv_aload_n hC.x hC.b dJ5_init_d00df_0 rfl (lv_at hl 0 rfl) ?_
  refine W.objInit hC.x hC.b hC.o (hC.t (.methodLink RJ5 3 objectInit) (by decide +kernel)) (hC.t (.instanceMethod objectInit) (by decide +kernel)) (hC.t (.code objectInit ⟨#[0xb1]⟩ 1 none) (by decide +kernel)) rfl (by rw [hC.1.2.2.1]; exact hl.1) rfl dJ5_init_d00df_1 (Nat.le_of_ble_eq_true rfl) (Nat.le_of_ble_eq_true rfl) ?_
  refine W.eq (g2 := F0 m 4 ls []) rfl ?_
  refine j_cmp hC hS (by decide +kernel) dJ5_init_d00df_4 ?_
  refine lv_if_eq (tgt := 25) hC.x hC.b dJ5_init_d00df_7 (by decide) (fun h => absurd h (by decide)) (fun _ => ?_)
  refine lv_aload_n hC.x hC.b dJ5_init_d00df_10 rfl (lv_at hl 0 rfl) ?_
  refine lv_iload_n hC.x hC.b dJ5_init_d00df_11 rfl (lv_at hl 1 rfl) ?_
  refine va_newa (atype := .byte) (ty := .byte) (a0 := (16, .inl fun _ => 0)) hC.x hC.b (hC.t (.arrayClass .byte) (by decide +kernel)) rfl hC.2.1.1 hS.1 hS.2.1 hS.2.2 hC.2.2.1 (fun cA => rfl) (by decide) (by decide) (by decide) (by decide) (by decide) dJ5_init_d00df_12 (fun v cA' H1 h1 h2 h3 h4 => ?_)
  have hcB : cA' = cB := Option.some.inj (Eq.trans (Eq.symm (h1.2 1 _ rfl).2) (hC.2.1.1.2 0 _ rfl).2)
  subst hcB
  have hS : j_St D (va_A (j_new h) s.heap.size) s [(h, .inr (1, [.null, .int 0, .int 0, .int 0])), (v, .inl (cA', (16, .inl fun _ => 0)))] H1 _ := ⟨h2, h3, h4⟩
  refine j_put (q0 := 0) (k := 0) hC hS jn_init5 rfl (by decide) (by decide +kernel) rfl rfl rfl rfl rfl (Nat.le_of_ble_eq_true rfl) dJ5_init_d00df_14 (fun H locs hS => ?_)
  refine lv_aload_n hC.x hC.b dJ5_init_d00df_17 rfl (lv_at hl 0 rfl) ?_
  refine lv_iconst (v := (0 : Int32)) hC.x hC.b dJ5_init_d00df_18 (by decide) ?_
  refine j_put (q0 := 0) (k := 1) hC hS jn_init5 rfl (by decide) (by decide +kernel) rfl rfl rfl rfl rfl (Nat.le_of_ble_eq_true rfl) dJ5_init_d00df_19 (fun H locs hS => ?_)
  refine lv_goto (tgt := 38) hC.x hC.b dJ5_init_d00df_22 (by decide) ?_
  exact W.widen (by decide) (by decide) (W.vret hC.x hC.b hr (fun t ht _ => ⟨⟨v, rfl, trivial, by rw [ht]; exact hS.1, hS.2.1⟩, hS.2.2.F ht⟩) hS.2.2.2.2 dJ5_init_d00df_38 hlocks)
