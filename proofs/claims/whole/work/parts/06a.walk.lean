/-! written by wip/whole/gen.py: the walks -/
abbrev rm_X0_add : Room := { frames := 0, cells := 0, slots := 0, locals := 0 }
theorem in_X0_add_X0 : ∀ w ∈ wsX00, w ∈ wsX0_add := fun _ h => List.mem_cons_of_mem _ (List.mem_append_right _ (h))
set_option maxRecDepth 20000 in
theorem lk_X0_add_f24 : Cond.fieldLink RX0 24 "KnotArchive$Cords" "size" "I" ∈ wsX0_add := by decide +kernel
set_option maxRecDepth 20000 in
theorem lk_X0_add_f9 : Cond.fieldLink RX0 9 "KnotArchive$Cords" "froms" "[I" ∈ wsX0_add := by decide +kernel
set_option maxRecDepth 20000 in
theorem lk_X0_add_f15 : Cond.fieldLink RX0 15 "KnotArchive$Cords" "strands" "[I" ∈ wsX0_add := by decide +kernel
set_option maxRecDepth 100000 in
set_option maxHeartbeats 4000000 in
theorem c_X0_add {Γ : k_Pm} {l : Launch} (hl0 : l.stackTraces = false) {x1 : Int32} {x2 : Int32}  {g : Gt} {r : Int32} {g2 : Gt} (h : f_X0_add x1 x2 g = some (r, g2)) : k_CI Γ l yX0_add wsX0_add rm_X0_add [.ref (k_ad Γ 1 (0)), .int (x1), .int (x2)] g r g2 := by
  intro sz
  refine Met.ofW (cc := cX0_add) (maxL := 4) (ret := (some .int)) (by decide) rfl ?_
  intro p e s m args below meth c s₁ B hml hv
  obtain ⟨rfl, rfl, hP, hKS⟩ := hv
  have hr := B.returns
  have hlocks := B.notSynchronized
  have hC : k_C Γ (k_A Γ s.heap.size) p l s m _ c cX0_add 4 wsX0_add RX0 := k_C.of ⟨B.exec, B.bytes, hml, findClass_of_methodNamed B.named, atoms_spec (ws := wsX0_add) B.pre⟩ hKS hl0
  have hw : k_St Γ (k_A Γ s.heap.size) s [] g s.heap [] := k_St.of hKS hP
  have hl := lv_entry ([.ref (k_ad Γ 1 (0)), .int (x1), .int (x2)] : List Value) (n := 4) (Nat.le_of_ble_eq_true rfl)
  rw [lg_entry_eq]
  generalize (lg_sl ([.ref (k_ad Γ 1 (0)), .int (x1), .int (x2)] : List Value) ++ List.replicate (4 - (lg_sl ([.ref (k_ad Γ 1 (0)), .int (x1), .int (x2)] : List Value)).length) Slot.unset).toArray = ls at hl ⊢
  have hl : lv_has ls 4 [(0, .ref (k_ad Γ 1 (0))), (1, .int (x1)), (2, .int (x2))] := hl
  change W p l e rm_X0_add _ _ _ _ _ _ _ _ _ _ _ _
  unfold f_X0_add at h
  refine lv_aload_n hC.x hC.b dX0_add_0 rfl (lv_at hl 0 rfl) ?_
  refine x_get hC hw (k := 4) (T := TX0) (by decide) (k_E1 _ _ _) in_X0_add_X0 rfl (by decide) lk_X0_add_f24 rfl rfl dX0_add_1 ?_
  refine lv_istore_n (lv' := [(3, .int (g 1 0 4)), (0, .ref (k_ad Γ 1 (0))), (1, .int (x1)), (2, .int (x2))]) hC.x hC.b dX0_add_4 rfl hl (by decide) rfl (fun ls hl => ?_)
  refine lv_aload_n hC.x hC.b dX0_add_5 rfl (lv_at hl 1 rfl) ?_
  refine x_get hC hw (k := 0) (T := TX0) (by decide) (k_E1 _ _ _) in_X0_add_X0 rfl (by decide) lk_X0_add_f9 rfl rfl dX0_add_6 ?_
  refine lv_iload_n hC.x hC.b dX0_add_9 rfl (lv_at hl 0 rfl) ?_
  refine lv_iload_n hC.x hC.b dX0_add_10 rfl (lv_at hl 2 rfl) ?_
  obtain ⟨hg1, h⟩ := gd_t h
  refine x_iast hC hw rfl (by decide) hg1 dX0_add_11 (fun H locs hw => ?_)
  refine lv_aload_n hC.x hC.b dX0_add_12 rfl (lv_at hl 1 rfl) ?_
  refine x_get hC hw (k := 1) (T := TX0) (by decide) (k_E1 _ _ _) in_X0_add_X0 rfl (by decide) lk_X0_add_f15 rfl rfl dX0_add_13 ?_
  refine lv_iload_n hC.x hC.b dX0_add_16 rfl (lv_at hl 0 rfl) ?_
  refine lv_iload_n hC.x hC.b dX0_add_17 rfl (lv_at hl 3 rfl) ?_
  obtain ⟨hg2, h⟩ := gd_t h
  refine x_iast hC hw rfl (by decide) hg2 dX0_add_18 (fun H locs hw => ?_)
  refine lv_aload_n hC.x hC.b dX0_add_19 rfl (lv_at hl 1 rfl) ?_
  refine lv_iload_n hC.x hC.b dX0_add_20 rfl (lv_at hl 0 rfl) ?_
  refine lv_iconst (v := (1 : Int32)) hC.x hC.b dX0_add_21 (by decide) ?_
  refine lv_iadd hC.x hC.b dX0_add_22 ?_
  refine x_puti hC hw (k := 4) (T := TX0) (by decide) (k_E1 _ _ _) in_X0_add_X0 rfl (by decide) lk_X0_add_f24 rfl tyX0 tyX0_ok nmX0 rfl (by decide +kernel) (Nat.le_of_ble_eq_true rfl) (by rw [k_E1]; rfl) dX0_add_23 (fun H locs hw => ?_)
  refine lv_iload_n hC.x hC.b dX0_add_26 rfl (lv_at hl 0 rfl) ?_
  obtain ⟨rfl, rfl⟩ := sm2 h
  exact x_iret hC hw hr hlocks (by decide) (by decide) dX0_add_27
abbrev rm_X0_hangingFrom : Room := { frames := 0, cells := 0, slots := 0, locals := 0 }
theorem in_X0_hangingFrom_X0 : ∀ w ∈ wsX00, w ∈ wsX0_hangingFrom := fun _ h => List.mem_cons_of_mem _ (List.mem_append_right _ (h))
set_option maxRecDepth 20000 in
theorem lk_X0_hangingFrom_f24 : Cond.fieldLink RX0 24 "KnotArchive$Cords" "size" "I" ∈ wsX0_hangingFrom := by decide +kernel
set_option maxRecDepth 20000 in
theorem lk_X0_hangingFrom_f9 : Cond.fieldLink RX0 9 "KnotArchive$Cords" "froms" "[I" ∈ wsX0_hangingFrom := by decide +kernel
set_option maxRecDepth 100000 in
set_option maxHeartbeats 4000000 in
theorem w_X0_hangingFrom_6 {Γ : k_Pm} {A0 : Nat → Prop} {p : Program} {l : Launch} {e : Env} {s : State} {m : MethodId} {args : Array Value} {below : List Frame} {meth : Method} {c : Code} {cells slots : Nat} {Q : State → Prop} {tmp : va_W} {c1 : Int32} (hC : k_C Γ A0 p l s m args c cX0_hangingFrom 4 wsX0_hangingFrom RX0) (hcs : cells ≤ rm_X0_hangingFrom.cells ∧ slots ≤ rm_X0_hangingFrom.slots) : ∀ (n : Nat) (v2 : Int32) (v3 : Int32) (g : Gt) (w2 : Int32) (w3 : Int32) (g2 : Gt), f_X0_hangingFrom_6 c1 n v2 v3 g = some (w2, w3, g2) → ∀ (H : Heap) (locs : List Loc) (ls : Array Slot), k_St Γ A0 s tmp g H locs → lv_has ls 4 [(3, .int (v3)), (2, .int (v2)), (0, .ref (k_ad Γ 1 (0))), (1, .int (c1))] → (∀ (H1 : Heap) (locs1 : List Loc) (ls1 : Array Slot), k_St Γ A0 s tmp g2 H1 locs1 → lv_has ls1 4 [(3, .int (w3)), (2, .int (w2)), (0, .ref (k_ad Γ 1 (0))), (1, .int (c1))] → W p l e rm_X0_hangingFrom s m args below meth c H1 locs1 cells slots Q (F0 m 33 ls1 [])) → W p l e rm_X0_hangingFrom s m args below meth c H locs cells slots Q (F0 m 6 ls []) := by
  intro n
  induction n with
  | zero => intro v2 v3 g w2 w3 g2 h; rw [f_X0_hangingFrom_6] at h; cases h
  | succ n ih =>
    intro v2 v3 g w2 w3 g2 h H locs ls hw hl kk
    rw [f_X0_hangingFrom_6] at h
    refine lv_iload_n hC.x hC.b dX0_hangingFrom_6 rfl (lv_at hl 0 rfl) ?_
    refine lv_aload_n hC.x hC.b dX0_hangingFrom_7 rfl (lv_at hl 2 rfl) ?_
    refine x_get hC hw (k := 4) (T := TX0) (by decide) (k_E1 _ _ _) in_X0_hangingFrom_X0 rfl (by decide) lk_X0_hangingFrom_f24 rfl rfl dX0_hangingFrom_8 ?_
    refine lv_icmp_ge (tgt := 33) hC.x hC.b dX0_hangingFrom_11 (by decide) (fun hc => ?_) (fun hc => ?_)
    · have h := it_t h hc
      obtain ⟨rfl, rfl, rfl⟩ := sm3 h
      exact kk _ _ _ hw (lv_sub hl [0, 1, 2, 3] rfl)
    · have h := it_f h hc
      refine lv_aload_n hC.x hC.b dX0_hangingFrom_14 rfl (lv_at hl 2 rfl) ?_
      refine x_get hC hw (k := 0) (T := TX0) (by decide) (k_E1 _ _ _) in_X0_hangingFrom_X0 rfl (by decide) lk_X0_hangingFrom_f9 rfl rfl dX0_hangingFrom_15 ?_
      refine lv_iload_n hC.x hC.b dX0_hangingFrom_18 rfl (lv_at hl 0 rfl) ?_
      obtain ⟨hg1, h⟩ := gd_t h
      refine x_iald hC hw rfl (by decide) hg1 dX0_hangingFrom_19 ?_
      refine lv_iload_n hC.x hC.b dX0_hangingFrom_20 rfl (lv_at hl 3 rfl) ?_
      refine lv_icmp_ne (tgt := 27) hC.x hC.b dX0_hangingFrom_21 (by decide) (fun hc => ?_) (fun hc => ?_)
      · have h := it_f h hc
        refine lv_iinc (v := v3 + (1 : Int32)) (lv' := [(3, .int (v3 + (1 : Int32))), (2, .int (v2)), (0, .ref (k_ad Γ 1 (0))), (1, .int (c1))]) hC.x hC.b dX0_hangingFrom_27 hl (k := 0) rfl rfl (by decide) rfl (fun ls hl => ?_)
        refine lv_goto (tgt := 6) hC.x hC.b dX0_hangingFrom_30 (by decide) ?_
        exact ih _ _ _ _ _ _ h _ _ _ hw (lv_sub hl [0, 1, 2, 3] rfl) kk
      · have h := it_t h hc
        refine lv_iinc (v := v2 + (1 : Int32)) (lv' := [(2, .int (v2 + (1 : Int32))), (3, .int (v3)), (0, .ref (k_ad Γ 1 (0))), (1, .int (c1))]) hC.x hC.b dX0_hangingFrom_24 hl (k := 1) rfl rfl (by decide) rfl (fun ls hl => ?_)
        refine lv_iinc (v := v3 + (1 : Int32)) (lv' := [(3, .int (v3 + (1 : Int32))), (2, .int (v2 + (1 : Int32))), (0, .ref (k_ad Γ 1 (0))), (1, .int (c1))]) hC.x hC.b dX0_hangingFrom_27 hl (k := 1) rfl rfl (by decide) rfl (fun ls hl => ?_)
        refine lv_goto (tgt := 6) hC.x hC.b dX0_hangingFrom_30 (by decide) ?_
        exact ih _ _ _ _ _ _ h _ _ _ hw (lv_sub hl [0, 1, 2, 3] rfl) kk

set_option maxRecDepth 100000 in
set_option maxHeartbeats 4000000 in
theorem c_X0_hangingFrom {Γ : k_Pm} {l : Launch} (hl0 : l.stackTraces = false) {x1 : Int32}  {g : Gt} {r : Int32} {g2 : Gt} (h : f_X0_hangingFrom x1 g = some (r, g2)) : k_CI Γ l yX0_hangingFrom wsX0_hangingFrom rm_X0_hangingFrom [.ref (k_ad Γ 1 (0)), .int (x1)] g r g2 := by
  intro sz
  refine Met.ofW (cc := cX0_hangingFrom) (maxL := 4) (ret := (some .int)) (by decide) rfl ?_
  intro p e s m args below meth c s₁ B hml hv
  obtain ⟨rfl, rfl, hP, hKS⟩ := hv
  have hr := B.returns
  have hlocks := B.notSynchronized
  have hC : k_C Γ (k_A Γ s.heap.size) p l s m _ c cX0_hangingFrom 4 wsX0_hangingFrom RX0 := k_C.of ⟨B.exec, B.bytes, hml, findClass_of_methodNamed B.named, atoms_spec (ws := wsX0_hangingFrom) B.pre⟩ hKS hl0
  have hw : k_St Γ (k_A Γ s.heap.size) s [] g s.heap [] := k_St.of hKS hP
  have hl := lv_entry ([.ref (k_ad Γ 1 (0)), .int (x1)] : List Value) (n := 4) (Nat.le_of_ble_eq_true rfl)
  rw [lg_entry_eq]
  generalize (lg_sl ([.ref (k_ad Γ 1 (0)), .int (x1)] : List Value) ++ List.replicate (4 - (lg_sl ([.ref (k_ad Γ 1 (0)), .int (x1)] : List Value)).length) Slot.unset).toArray = ls at hl ⊢
  have hl : lv_has ls 4 [(0, .ref (k_ad Γ 1 (0))), (1, .int (x1))] := hl
  change W p l e rm_X0_hangingFrom _ _ _ _ _ _ _ _ _ _ _ _
  unfold f_X0_hangingFrom at h
  refine lv_iconst (v := (0 : Int32)) hC.x hC.b dX0_hangingFrom_0 (by decide) ?_
  refine lv_istore_n (lv' := [(2, .int ((0 : Int32))), (0, .ref (k_ad Γ 1 (0))), (1, .int (x1))]) hC.x hC.b dX0_hangingFrom_1 rfl hl (by decide) rfl (fun ls hl => ?_)
  refine lv_iload_n hC.x hC.b dX0_hangingFrom_2 rfl (lv_at hl 2 rfl) ?_
  refine lv_iconst (v := (1 : Int32)) hC.x hC.b dX0_hangingFrom_3 (by decide) ?_
  refine lv_iadd hC.x hC.b dX0_hangingFrom_4 ?_
  refine lv_istore_n (lv' := [(3, .int (x1 + (1 : Int32))), (2, .int ((0 : Int32))), (0, .ref (k_ad Γ 1 (0))), (1, .int (x1))]) hC.x hC.b dX0_hangingFrom_5 rfl hl (by decide) rfl (fun ls hl => ?_)
  obtain ⟨w6_2, w6_3, g6, hq, h⟩ := bd3_t h
  refine w_X0_hangingFrom_6 hC ⟨by decide, by decide⟩  k_N _ _ _ _ _ _ hq _ _ _ hw (lv_sub hl [0, 1, 2, 3] rfl) (fun H locs ls hw hl => ?_)
  refine lv_iload_n hC.x hC.b dX0_hangingFrom_33 rfl (lv_at hl 1 rfl) ?_
  obtain ⟨rfl, rfl⟩ := sm2 h
  exact x_iret hC hw hr hlocks (by decide) (by decide) dX0_hangingFrom_34
abbrev rm_X0_oneIfMore : Room := { frames := 0, cells := 0, slots := 0, locals := 0 }
set_option maxRecDepth 100000 in
set_option maxHeartbeats 4000000 in
theorem c_X0_oneIfMore {Γ : k_Pm} {l : Launch} (hl0 : l.stackTraces = false) {x0 : Int32}  {g : Gt} {r : Int32} {g2 : Gt} (h : f_X0_oneIfMore x0 g = some (r, g2)) : k_CI Γ l yX0_oneIfMore wsX0_oneIfMore rm_X0_oneIfMore [.int (x0)] g r g2 := by
  intro sz
  refine Met.ofW (cc := cX0_oneIfMore) (maxL := 1) (ret := (some .int)) (by decide) rfl ?_
  intro p e s m args below meth c s₁ B hml hv
  obtain ⟨rfl, rfl, hP, hKS⟩ := hv
  have hr := B.returns
  have hlocks := B.notSynchronized
  have hC : k_C Γ (k_A Γ s.heap.size) p l s m _ c cX0_oneIfMore 1 wsX0_oneIfMore RX0 := k_C.of ⟨B.exec, B.bytes, hml, findClass_of_methodNamed B.named, atoms_spec (ws := wsX0_oneIfMore) B.pre⟩ hKS hl0
  have hw : k_St Γ (k_A Γ s.heap.size) s [] g s.heap [] := k_St.of hKS hP
  have hl := lv_entry ([.int (x0)] : List Value) (n := 1) (Nat.le_of_ble_eq_true rfl)
  rw [lg_entry_eq]
  generalize (lg_sl ([.int (x0)] : List Value) ++ List.replicate (1 - (lg_sl ([.int (x0)] : List Value)).length) Slot.unset).toArray = ls at hl ⊢
  have hl : lv_has ls 1 [(0, .int (x0))] := hl
  change W p l e rm_X0_oneIfMore _ _ _ _ _ _ _ _ _ _ _ _
  unfold f_X0_oneIfMore at h
  refine lv_iload_n hC.x hC.b dX0_oneIfMore_0 rfl (lv_at hl 0 rfl) ?_
  refine lv_if_le (tgt := 8) hC.x hC.b dX0_oneIfMore_1 (by decide) (fun hc => ?_) (fun hc => ?_)
  · have h := it_t h hc
    refine lv_iconst (v := (0 : Int32)) hC.x hC.b dX0_oneIfMore_8 (by decide) ?_
    obtain ⟨rfl, rfl⟩ := sm2 h
    exact x_iret hC hw hr hlocks (by decide) (by decide) dX0_oneIfMore_9
  · have h := it_f h hc
    refine lv_iconst (v := (1 : Int32)) hC.x hC.b dX0_oneIfMore_4 (by decide) ?_
    refine lv_goto (tgt := 9) hC.x hC.b dX0_oneIfMore_5 (by decide) ?_
    obtain ⟨rfl, rfl⟩ := sm2 h
    exact x_iret hC hw hr hlocks (by decide) (by decide) dX0_oneIfMore_9
abbrev rm_X0_begun : Room := { frames := 1, cells := 0, slots := 0, locals := 20 }
set_option maxRecDepth 100000 in
set_option maxHeartbeats 4000000 in
theorem c_X0_begun {Γ : k_Pm} {l : Launch} (hl0 : l.stackTraces = false) {x0 : Int32} {x1 : Int32}  {g : Gt} {r : Int32} {g2 : Gt} (h : f_X0_begun x0 x1 g = some (r, g2)) : k_CI Γ l yX0_begun wsX0_begun rm_X0_begun [.int (x0), .int (x1)] g r g2 := by
  intro sz
  refine Met.ofW (cc := cX0_begun) (maxL := 2) (ret := (some .int)) (by decide) rfl ?_
  intro p e s m args below meth c s₁ B hml hv
  obtain ⟨rfl, rfl, hP, hKS⟩ := hv
  have hr := B.returns
  have hlocks := B.notSynchronized
  have hC : k_C Γ (k_A Γ s.heap.size) p l s m _ c cX0_begun 2 wsX0_begun RX0 := k_C.of ⟨B.exec, B.bytes, hml, findClass_of_methodNamed B.named, atoms_spec (ws := wsX0_begun) B.pre⟩ hKS hl0
  have hw : k_St Γ (k_A Γ s.heap.size) s [] g s.heap [] := k_St.of hKS hP
  have hl := lv_entry ([.int (x0), .int (x1)] : List Value) (n := 2) (Nat.le_of_ble_eq_true rfl)
  rw [lg_entry_eq]
  generalize (lg_sl ([.int (x0), .int (x1)] : List Value) ++ List.replicate (2 - (lg_sl ([.int (x0), .int (x1)] : List Value)).length) Slot.unset).toArray = ls at hl ⊢
  have hl : lv_has ls 2 [(0, .int (x0)), (1, .int (x1))] := hl
  change W p l e rm_X0_begun _ _ _ _ _ _ _ _ _ _ _ _
  unfold f_X0_begun at h
  refine lv_iload_n hC.x hC.b dX0_begun_0 rfl (lv_at hl 0 rfl) ?_
  refine lv_iconst (v := (3 : Int32)) hC.x hC.b dX0_begun_1 (by decide) ?_
  refine lv_icmp_ne (tgt := 12) hC.x hC.b dX0_begun_2 (by decide) (fun hc => ?_) (fun hc => ?_)
  · have h := it_f h hc
    refine lv_iload_n hC.x hC.b dX0_begun_12 rfl (lv_at hl 1 rfl) ?_
    obtain ⟨rfl, rfl⟩ := sm2 h
    exact x_iret hC hw hr hlocks (by decide) (by decide) dX0_begun_13
  · have h := it_t h hc
    refine lv_iload_n hC.x hC.b dX0_begun_5 rfl (lv_at hl 1 rfl) ?_
    obtain ⟨r6, g6, hq, h⟩ := bd2_t h
    refine x_goi hC hw (x_runS hC hw (c_X0_oneIfMore (Γ := Γ) (l := l) hC.2.2.2.2 hq) (va_cwS 1 hC.t gX0_begun_X0_oneIfMore rfl rfl rfl (by decide +kernel) ⟨Nat.le_of_ble_eq_true rfl, Nat.le_of_ble_eq_true rfl⟩) (As := [.int (x1)]) rfl hl.1 (Nat.le_of_ble_eq_true rfl) dX0_begun_6 ⟨by decide, by decide⟩) (fun H locs hw => ?_)
    refine lv_goto (tgt := 13) hC.x hC.b dX0_begun_9 (by decide) ?_
    obtain ⟨rfl, rfl⟩ := sm2 h
    exact x_iret hC hw hr hlocks (by decide) (by decide) dX0_begun_13
abbrev rm_X0_joined : Room := { frames := 1, cells := 0, slots := 0, locals := 20 }
set_option maxRecDepth 20000 in
theorem lk_X0_joined_m48 : Cond.methodLink RX0 48 Lib.Math.max.name ∈ wsX0_joined := by decide +kernel
set_option maxRecDepth 20000 in
theorem lk_X0_joined_s48 : Cond.static Lib.Math.max.name ∈ wsX0_joined := by decide +kernel
set_option maxRecDepth 20000 in
theorem lk_X0_joined_imath : Cond.initialized "java/lang/Math" ∈ wsX0_joined := by decide +kernel
set_option maxRecDepth 20000 in
theorem lk_X0_joined_e48 : Cond.code Lib.Math.max.name Lib.Math.max.code 2 (some .int) ∈ wsX0_joined := by decide +kernel
set_option maxRecDepth 100000 in
set_option maxHeartbeats 4000000 in
theorem c_X0_joined {Γ : k_Pm} {l : Launch} (hl0 : l.stackTraces = false) {x0 : Int32} {x1 : Int32} {x2 : Int32}  {g : Gt} {r : Int32} {g2 : Gt} (h : f_X0_joined x0 x1 x2 g = some (r, g2)) : k_CI Γ l yX0_joined wsX0_joined rm_X0_joined [.int (x0), .int (x1), .int (x2)] g r g2 := by
  intro sz
  refine Met.ofW (cc := cX0_joined) (maxL := 3) (ret := (some .int)) (by decide) rfl ?_
  intro p e s m args below meth c s₁ B hml hv
  obtain ⟨rfl, rfl, hP, hKS⟩ := hv
  have hr := B.returns
  have hlocks := B.notSynchronized
  have hC : k_C Γ (k_A Γ s.heap.size) p l s m _ c cX0_joined 3 wsX0_joined RX0 := k_C.of ⟨B.exec, B.bytes, hml, findClass_of_methodNamed B.named, atoms_spec (ws := wsX0_joined) B.pre⟩ hKS hl0
  have hw : k_St Γ (k_A Γ s.heap.size) s [] g s.heap [] := k_St.of hKS hP
  have hl := lv_entry ([.int (x0), .int (x1), .int (x2)] : List Value) (n := 3) (Nat.le_of_ble_eq_true rfl)
  rw [lg_entry_eq]
  generalize (lg_sl ([.int (x0), .int (x1), .int (x2)] : List Value) ++ List.replicate (3 - (lg_sl ([.int (x0), .int (x1), .int (x2)] : List Value)).length) Slot.unset).toArray = ls at hl ⊢
  have hl : lv_has ls 3 [(0, .int (x0)), (1, .int (x1)), (2, .int (x2))] := hl
  change W p l e rm_X0_joined _ _ _ _ _ _ _ _ _ _ _ _
  unfold f_X0_joined at h
  refine lv_iload_n hC.x hC.b dX0_joined_0 rfl (lv_at hl 0 rfl) ?_
  by_cases hs0 : x0 = 0
  · have h := it_t h hs0
    refine lv_tableIn (off := 31) (tgt := 32) hC.x hC.b dX0_joined_1 (by rw [hs0]; decide) (by rw [hs0]; decide) (by rw [hs0]; decide) (by decide) ?_
    refine lv_iload_n hC.x hC.b dX0_joined_32 rfl (lv_at hl 1 rfl) ?_
    refine lv_iload_n hC.x hC.b dX0_joined_33 rfl (lv_at hl 2 rfl) ?_
    refine lv_iadd hC.x hC.b dX0_joined_34 ?_
    obtain ⟨rfl, rfl⟩ := sm2 h
    exact x_iret hC hw hr hlocks (by decide) (by decide) dX0_joined_35
  have h := it_f h hs0
  by_cases hs1 : x0 = 1
  · have h := it_t h hs1
    refine lv_tableIn (off := 35) (tgt := 36) hC.x hC.b dX0_joined_1 (by rw [hs1]; decide) (by rw [hs1]; decide) (by rw [hs1]; decide) (by decide) ?_
    refine lv_iload_n hC.x hC.b dX0_joined_36 rfl (lv_at hl 1 rfl) ?_
    refine lv_iload_n hC.x hC.b dX0_joined_37 rfl (lv_at hl 2 rfl) ?_
    refine lv_isub hC.x hC.b dX0_joined_38 ?_
    obtain ⟨rfl, rfl⟩ := sm2 h
    exact x_iret hC hw hr hlocks (by decide) (by decide) dX0_joined_39
  have h := it_f h hs1
  by_cases hs2 : x0 = 2
  · have h := it_t h hs2
    refine lv_tableIn (off := 39) (tgt := 40) hC.x hC.b dX0_joined_1 (by rw [hs2]; decide) (by rw [hs2]; decide) (by rw [hs2]; decide) (by decide) ?_
    refine lv_iload_n hC.x hC.b dX0_joined_40 rfl (lv_at hl 1 rfl) ?_
    refine lv_iload_n hC.x hC.b dX0_joined_41 rfl (lv_at hl 2 rfl) ?_
    refine va_mmax hC.x hC.b (hC.n.trans hl.1.symm) hC.o (hC.t _ lk_X0_joined_m48) (hC.t _ lk_X0_joined_s48) (hC.t _ lk_X0_joined_imath) (hC.t _ lk_X0_joined_e48) (Nat.le_of_ble_eq_true rfl) (Nat.le_of_ble_eq_true rfl) (by decide) (by decide) dX0_joined_42 ?_
    obtain ⟨rfl, rfl⟩ := sm2 h
    exact x_iret hC hw hr hlocks (by decide) (by decide) dX0_joined_45
  have h := it_f h hs2
  by_cases hs3 : x0 = 3
  · have h := it_t h hs3
    refine lv_tableIn (off := 45) (tgt := 46) hC.x hC.b dX0_joined_1 (by rw [hs3]; decide) (by rw [hs3]; decide) (by rw [hs3]; decide) (by decide) ?_
    refine lv_iload_n hC.x hC.b dX0_joined_46 rfl (lv_at hl 1 rfl) ?_
    refine lv_iload_n hC.x hC.b dX0_joined_47 rfl (lv_at hl 2 rfl) ?_
    obtain ⟨r48, g48, hq, h⟩ := bd2_t h
    refine x_goi hC hw (x_runS hC hw (c_X0_oneIfMore (Γ := Γ) (l := l) hC.2.2.2.2 hq) (va_cwS 1 hC.t gX0_joined_X0_oneIfMore rfl rfl rfl (by decide +kernel) ⟨Nat.le_of_ble_eq_true rfl, Nat.le_of_ble_eq_true rfl⟩) (As := [.int (x2)]) rfl hl.1 (Nat.le_of_ble_eq_true rfl) dX0_joined_48 ⟨by decide, by decide⟩) (fun H locs hw => ?_)
    refine lv_iadd hC.x hC.b dX0_joined_51 ?_
    obtain ⟨rfl, rfl⟩ := sm2 h
    exact x_iret hC hw hr hlocks (by decide) (by decide) dX0_joined_52
  have h := it_f h hs3
  refine lv_tableOut (tgt := 53) hC.x hC.b dX0_joined_1 (k_out3 hs0 hs1 hs2 hs3) (by decide) ?_
  refine lv_iload_n hC.x hC.b dX0_joined_53 rfl (lv_at hl 1 rfl) ?_
  refine lv_iload_n hC.x hC.b dX0_joined_54 rfl (lv_at hl 2 rfl) ?_
  refine lv_imul hC.x hC.b dX0_joined_55 ?_
  obtain ⟨rfl, rfl⟩ := sm2 h
  exact x_iret hC hw hr hlocks (by decide) (by decide) dX0_joined_56
abbrev rm_X0_countHanging : Room := { frames := 2, cells := 0, slots := 0, locals := 42 }
theorem in_X0_countHanging_X0 : ∀ w ∈ wsX00, w ∈ wsX0_countHanging := fun _ h => List.mem_cons_of_mem _ (List.mem_append_right _ (h))
set_option maxRecDepth 20000 in
theorem lk_X0_countHanging_f15 : Cond.fieldLink RX0 15 "KnotArchive$Cords" "strands" "[I" ∈ wsX0_countHanging := by decide +kernel
set_option maxRecDepth 20000 in
theorem lk_X0_countHanging_f24 : Cond.fieldLink RX0 24 "KnotArchive$Cords" "size" "I" ∈ wsX0_countHanging := by decide +kernel
set_option maxRecDepth 20000 in
theorem lk_X0_countHanging_f9 : Cond.fieldLink RX0 9 "KnotArchive$Cords" "froms" "[I" ∈ wsX0_countHanging := by decide +kernel
set_option maxRecDepth 20000 in
theorem lk_X0_countHanging_f18 : Cond.fieldLink RX0 18 "KnotArchive$Cords" "says" "[I" ∈ wsX0_countHanging := by decide +kernel
set_option maxRecDepth 100000 in
set_option maxHeartbeats 4000000 in
theorem w_X0_countHanging_17 {Γ : k_Pm} {A0 : Nat → Prop} {p : Program} {l : Launch} {e : Env} {s : State} {m : MethodId} {args : Array Value} {below : List Frame} {meth : Method} {c : Code} {cells slots : Nat} {Q : State → Prop} {tmp : va_W} {c2 : Int32} {c1 : Int32} (hC : k_C Γ A0 p l s m args c cX0_countHanging 6 wsX0_countHanging RX0) (hcs : cells ≤ rm_X0_countHanging.cells ∧ slots ≤ rm_X0_countHanging.slots) : ∀ (n : Nat) (v3 : Int32) (v4 : Int32) (v5 : Int32) (g : Gt) (w3 : Int32) (w4 : Int32) (w5 : Int32) (g2 : Gt), f_X0_countHanging_17 c2 c1 n v3 v4 v5 g = some (w3, w4, w5, g2) → ∀ (H : Heap) (locs : List Loc) (ls : Array Slot), k_St Γ A0 s tmp g H locs → lv_has ls 6 [(5, .int (v5)), (4, .int (v4)), (3, .int (v3)), (2, .int (c2)), (0, .ref (k_ad Γ 1 (0))), (1, .int (c1))] → (∀ (H1 : Heap) (locs1 : List Loc) (ls1 : Array Slot), k_St Γ A0 s tmp g2 H1 locs1 → lv_has ls1 6 [(5, .int (w5)), (4, .int (w4)), (3, .int (w3)), (2, .int (c2)), (0, .ref (k_ad Γ 1 (0))), (1, .int (c1))] → W p l e rm_X0_countHanging s m args below meth c H1 locs1 cells slots Q (F0 m 78 ls1 [])) → W p l e rm_X0_countHanging s m args below meth c H locs cells slots Q (F0 m 17 ls []) := by
  intro n
  induction n with
  | zero => intro v3 v4 v5 g w3 w4 w5 g2 h; rw [f_X0_countHanging_17] at h; cases h
  | succ n ih =>
    intro v3 v4 v5 g w3 w4 w5 g2 h H locs ls hw hl kk
    rw [f_X0_countHanging_17] at h
    refine lv_iload hC.x hC.b dX0_countHanging_17 (lv_at hl 0 rfl) ?_
    refine lv_aload_n hC.x hC.b dX0_countHanging_19 rfl (lv_at hl 4 rfl) ?_
    refine x_get hC hw (k := 4) (T := TX0) (by decide) (k_E1 _ _ _) in_X0_countHanging_X0 rfl (by decide) lk_X0_countHanging_f24 rfl rfl dX0_countHanging_20 ?_
    refine lv_icmp_ge (tgt := 78) hC.x hC.b dX0_countHanging_23 (by decide) (fun hc => ?_) (fun hc => ?_)
    · have h := it_t h hc
      obtain ⟨rfl, rfl, rfl, rfl⟩ := sm4 h
      exact kk _ _ _ hw (lv_sub hl [0, 1, 2, 3, 4, 5] rfl)
    · have h := it_f h hc
      refine lv_aload_n hC.x hC.b dX0_countHanging_26 rfl (lv_at hl 4 rfl) ?_
      refine x_get hC hw (k := 0) (T := TX0) (by decide) (k_E1 _ _ _) in_X0_countHanging_X0 rfl (by decide) lk_X0_countHanging_f9 rfl rfl dX0_countHanging_27 ?_
      refine lv_iload hC.x hC.b dX0_countHanging_30 (lv_at hl 0 rfl) ?_
      obtain ⟨hg2, h⟩ := gd_t h
      refine x_iald hC hw rfl (by decide) hg2 dX0_countHanging_32 ?_
      refine lv_iload_n hC.x hC.b dX0_countHanging_33 rfl (lv_at hl 5 rfl) ?_
      refine lv_icmp_ne (tgt := 72) hC.x hC.b dX0_countHanging_34 (by decide) (fun hc => ?_) (fun hc => ?_)
      · have h := it_f h hc
        refine lv_iinc (v := v5 + (1 : Int32)) (lv' := [(5, .int (v5 + (1 : Int32))), (4, .int (v4)), (3, .int (v3)), (2, .int (c2)), (0, .ref (k_ad Γ 1 (0))), (1, .int (c1))]) hC.x hC.b dX0_countHanging_72 hl (k := 0) rfl rfl (by decide) rfl (fun ls hl => ?_)
        refine lv_goto (tgt := 17) hC.x hC.b dX0_countHanging_75 (by decide) ?_
        exact ih _ _ _ _ _ _ _ _ h _ _ _ hw (lv_sub hl [0, 1, 2, 3, 4, 5] rfl) kk
      · have h := it_t h hc
        refine lv_iload hC.x hC.b dX0_countHanging_37 (lv_at hl 1 rfl) ?_
        refine lv_if_eq (tgt := 56) hC.x hC.b dX0_countHanging_39 (by decide) (fun hc => ?_) (fun hc => ?_)
        · have h := it_t h hc
          refine lv_iload_n hC.x hC.b dX0_countHanging_56 rfl (lv_at hl 3 rfl) ?_
          refine lv_iload_n hC.x hC.b dX0_countHanging_57 rfl (lv_at hl 2 rfl) ?_
          refine lv_aload_n hC.x hC.b dX0_countHanging_58 rfl (lv_at hl 4 rfl) ?_
          refine x_get hC hw (k := 2) (T := TX0) (by decide) (k_E1 _ _ _) in_X0_countHanging_X0 rfl (by decide) lk_X0_countHanging_f18 rfl rfl dX0_countHanging_59 ?_
          refine lv_iload hC.x hC.b dX0_countHanging_62 (lv_at hl 0 rfl) ?_
          obtain ⟨hg3, h⟩ := gd_t h
          refine x_iald hC hw rfl (by decide) hg3 dX0_countHanging_64 ?_
          obtain ⟨r65, g65, hq, h⟩ := bd2_t h
          refine x_goi hC hw (x_runS hC hw (c_X0_joined (Γ := Γ) (l := l) hC.2.2.2.2 hq) (va_cwS 3 hC.t gX0_countHanging_X0_joined rfl rfl rfl (by decide +kernel) ⟨Nat.le_of_ble_eq_true rfl, Nat.le_of_ble_eq_true rfl⟩) (As := [.int (c2), .int (v3), .int (g 12 0 v5.toNatClampNeg)]) rfl hl.1 (Nat.le_of_ble_eq_true rfl) dX0_countHanging_65 hcs) (fun H locs hw => ?_)
          refine lv_istore_n (lv' := [(3, .int (r65)), (5, .int (v5)), (4, .int (v4)), (2, .int (c2)), (0, .ref (k_ad Γ 1 (0))), (1, .int (c1))]) hC.x hC.b dX0_countHanging_68 rfl hl (by decide) rfl (fun ls hl => ?_)
          refine lv_iconst (v := (0 : Int32)) hC.x hC.b dX0_countHanging_69 (by decide) ?_
          refine lv_istore (lv' := [(4, .int ((0 : Int32))), (3, .int (r65)), (5, .int (v5)), (2, .int (c2)), (0, .ref (k_ad Γ 1 (0))), (1, .int (c1))]) hC.x hC.b dX0_countHanging_70 hl (by decide) rfl (fun ls hl => ?_)
          refine lv_iinc (v := v5 + (1 : Int32)) (lv' := [(5, .int (v5 + (1 : Int32))), (4, .int ((0 : Int32))), (3, .int (r65)), (2, .int (c2)), (0, .ref (k_ad Γ 1 (0))), (1, .int (c1))]) hC.x hC.b dX0_countHanging_72 hl (k := 2) rfl rfl (by decide) rfl (fun ls hl => ?_)
          refine lv_goto (tgt := 17) hC.x hC.b dX0_countHanging_75 (by decide) ?_
          exact ih _ _ _ _ _ _ _ _ h _ _ _ hw (lv_sub hl [0, 1, 2, 3, 4, 5] rfl) kk
        · have h := it_f h hc
          refine lv_iload_n hC.x hC.b dX0_countHanging_42 rfl (lv_at hl 3 rfl) ?_
          refine lv_aload_n hC.x hC.b dX0_countHanging_43 rfl (lv_at hl 4 rfl) ?_
          refine x_get hC hw (k := 2) (T := TX0) (by decide) (k_E1 _ _ _) in_X0_countHanging_X0 rfl (by decide) lk_X0_countHanging_f18 rfl rfl dX0_countHanging_44 ?_
          refine lv_iload hC.x hC.b dX0_countHanging_47 (lv_at hl 0 rfl) ?_
          obtain ⟨hg4, h⟩ := gd_t h
          refine x_iald hC hw rfl (by decide) hg4 dX0_countHanging_49 ?_
          obtain ⟨r50, g50, hq, h⟩ := bd2_t h
          refine x_goi hC hw (x_runS hC hw (c_X0_begun (Γ := Γ) (l := l) hC.2.2.2.2 hq) (va_cwS 2 hC.t gX0_countHanging_X0_begun rfl rfl rfl (by decide +kernel) ⟨Nat.le_of_ble_eq_true rfl, Nat.le_of_ble_eq_true rfl⟩) (As := [.int (c2), .int (g 12 0 v5.toNatClampNeg)]) rfl hl.1 (Nat.le_of_ble_eq_true rfl) dX0_countHanging_50 hcs) (fun H locs hw => ?_)
          refine lv_goto (tgt := 68) hC.x hC.b dX0_countHanging_53 (by decide) ?_
          refine lv_istore_n (lv' := [(3, .int (r50)), (5, .int (v5)), (4, .int (v4)), (2, .int (c2)), (0, .ref (k_ad Γ 1 (0))), (1, .int (c1))]) hC.x hC.b dX0_countHanging_68 rfl hl (by decide) rfl (fun ls hl => ?_)
          refine lv_iconst (v := (0 : Int32)) hC.x hC.b dX0_countHanging_69 (by decide) ?_
          refine lv_istore (lv' := [(4, .int ((0 : Int32))), (3, .int (r50)), (5, .int (v5)), (2, .int (c2)), (0, .ref (k_ad Γ 1 (0))), (1, .int (c1))]) hC.x hC.b dX0_countHanging_70 hl (by decide) rfl (fun ls hl => ?_)
          refine lv_iinc (v := v5 + (1 : Int32)) (lv' := [(5, .int (v5 + (1 : Int32))), (4, .int ((0 : Int32))), (3, .int (r50)), (2, .int (c2)), (0, .ref (k_ad Γ 1 (0))), (1, .int (c1))]) hC.x hC.b dX0_countHanging_72 hl (k := 2) rfl rfl (by decide) rfl (fun ls hl => ?_)
          refine lv_goto (tgt := 17) hC.x hC.b dX0_countHanging_75 (by decide) ?_
          exact ih _ _ _ _ _ _ _ _ h _ _ _ hw (lv_sub hl [0, 1, 2, 3, 4, 5] rfl) kk

set_option maxRecDepth 100000 in
set_option maxHeartbeats 4000000 in
theorem c_X0_countHanging {Γ : k_Pm} {l : Launch} (hl0 : l.stackTraces = false) {x1 : Int32}  {g : Gt} {r : Int32} {g2 : Gt} (h : f_X0_countHanging x1 g = some (r, g2)) : k_CI Γ l yX0_countHanging wsX0_countHanging rm_X0_countHanging [.ref (k_ad Γ 1 (0)), .int (x1)] g r g2 := by
  intro sz
  refine Met.ofW (cc := cX0_countHanging) (maxL := 6) (ret := (some .int)) (by decide) rfl ?_
  intro p e s m args below meth c s₁ B hml hv
  obtain ⟨rfl, rfl, hP, hKS⟩ := hv
  have hr := B.returns
  have hlocks := B.notSynchronized
  have hC : k_C Γ (k_A Γ s.heap.size) p l s m _ c cX0_countHanging 6 wsX0_countHanging RX0 := k_C.of ⟨B.exec, B.bytes, hml, findClass_of_methodNamed B.named, atoms_spec (ws := wsX0_countHanging) B.pre⟩ hKS hl0
  have hw : k_St Γ (k_A Γ s.heap.size) s [] g s.heap [] := k_St.of hKS hP
  have hl := lv_entry ([.ref (k_ad Γ 1 (0)), .int (x1)] : List Value) (n := 6) (Nat.le_of_ble_eq_true rfl)
  rw [lg_entry_eq]
  generalize (lg_sl ([.ref (k_ad Γ 1 (0)), .int (x1)] : List Value) ++ List.replicate (6 - (lg_sl ([.ref (k_ad Γ 1 (0)), .int (x1)] : List Value)).length) Slot.unset).toArray = ls at hl ⊢
  have hl : lv_has ls 6 [(0, .ref (k_ad Γ 1 (0))), (1, .int (x1))] := hl
  change W p l e rm_X0_countHanging _ _ _ _ _ _ _ _ _ _ _ _
  unfold f_X0_countHanging at h
  refine lv_aload_n hC.x hC.b dX0_countHanging_0 rfl (lv_at hl 0 rfl) ?_
  refine x_get hC hw (k := 1) (T := TX0) (by decide) (k_E1 _ _ _) in_X0_countHanging_X0 rfl (by decide) lk_X0_countHanging_f15 rfl rfl dX0_countHanging_1 ?_
  refine lv_iload_n hC.x hC.b dX0_countHanging_4 rfl (lv_at hl 1 rfl) ?_
  obtain ⟨hg1, h⟩ := gd_t h
  refine x_iald hC hw rfl (by decide) hg1 dX0_countHanging_5 ?_
  refine lv_istore_n (lv' := [(2, .int (g 11 0 x1.toNatClampNeg)), (0, .ref (k_ad Γ 1 (0))), (1, .int (x1))]) hC.x hC.b dX0_countHanging_6 rfl hl (by decide) rfl (fun ls hl => ?_)
  refine lv_iconst (v := (0 : Int32)) hC.x hC.b dX0_countHanging_7 (by decide) ?_
  refine lv_istore_n (lv' := [(3, .int ((0 : Int32))), (2, .int (g 11 0 x1.toNatClampNeg)), (0, .ref (k_ad Γ 1 (0))), (1, .int (x1))]) hC.x hC.b dX0_countHanging_8 rfl hl (by decide) rfl (fun ls hl => ?_)
  refine lv_iconst (v := (1 : Int32)) hC.x hC.b dX0_countHanging_9 (by decide) ?_
  refine lv_istore (lv' := [(4, .int ((1 : Int32))), (3, .int ((0 : Int32))), (2, .int (g 11 0 x1.toNatClampNeg)), (0, .ref (k_ad Γ 1 (0))), (1, .int (x1))]) hC.x hC.b dX0_countHanging_10 hl (by decide) rfl (fun ls hl => ?_)
  refine lv_iload_n hC.x hC.b dX0_countHanging_12 rfl (lv_at hl 4 rfl) ?_
  refine lv_iconst (v := (1 : Int32)) hC.x hC.b dX0_countHanging_13 (by decide) ?_
  refine lv_iadd hC.x hC.b dX0_countHanging_14 ?_
  refine lv_istore (lv' := [(5, .int (x1 + (1 : Int32))), (4, .int ((1 : Int32))), (3, .int ((0 : Int32))), (2, .int (g 11 0 x1.toNatClampNeg)), (0, .ref (k_ad Γ 1 (0))), (1, .int (x1))]) hC.x hC.b dX0_countHanging_15 hl (by decide) rfl (fun ls hl => ?_)
  obtain ⟨w17_3, w17_4, w17_5, g17, hq, h⟩ := bd4_t h
  refine w_X0_countHanging_17 hC ⟨by decide, by decide⟩  k_N _ _ _ _ _ _ _ _ hq _ _ _ hw (lv_sub hl [0, 1, 2, 3, 4, 5] rfl) (fun H locs ls hw hl => ?_)
  refine lv_iload_n hC.x hC.b dX0_countHanging_78 rfl (lv_at hl 2 rfl) ?_
  obtain ⟨rfl, rfl⟩ := sm2 h
  exact x_iret hC hw hr hlocks (by decide) (by decide) dX0_countHanging_79
abbrev rm_X1_digits : Room := { frames := 0, cells := 0, slots := 0, locals := 0 }
theorem in_X1_digits_X1 : ∀ w ∈ wsX10, w ∈ wsX1_digits := fun _ h => List.mem_cons_of_mem _ (List.mem_append_right _ (h))
set_option maxRecDepth 20000 in
theorem lk_X1_digits_f11 : Cond.fieldLink RX1 11 "KnotArchive$Knots" "tied" "[[I" ∈ wsX1_digits := by decide +kernel
set_option maxRecDepth 100000 in
set_option maxHeartbeats 4000000 in
theorem w_X1_digits_4 {Γ : k_Pm} {A0 : Nat → Prop} {p : Program} {l : Launch} {e : Env} {s : State} {m : MethodId} {args : Array Value} {below : List Frame} {meth : Method} {c : Code} {cells slots : Nat} {Q : State → Prop} {tmp : va_W} {n0 : Nat} {c1 : Int32} (hC : k_C Γ A0 p l s m args c cX1_digits 4 wsX1_digits RX1) (hcs : cells ≤ rm_X1_digits.cells ∧ slots ≤ rm_X1_digits.slots) (hn0 : n0 < 2) : ∀ (n : Nat) (v2 : Int32) (v3 : Int32) (g : Gt) (w2 : Int32) (w3 : Int32) (g2 : Gt), f_X1_digits_4 n0 c1 n v2 v3 g = some (w2, w3, g2) → ∀ (H : Heap) (locs : List Loc) (ls : Array Slot), k_St Γ A0 s tmp g H locs → lv_has ls 4 [(3, .int (v3)), (2, .int (v2)), (0, .ref (k_ad Γ 2 (n0))), (1, .int (c1))] → (∀ (H1 : Heap) (locs1 : List Loc) (ls1 : Array Slot), k_St Γ A0 s tmp g2 H1 locs1 → lv_has ls1 4 [(3, .int (w3)), (2, .int (w2)), (0, .ref (k_ad Γ 2 (n0))), (1, .int (c1))] → W p l e rm_X1_digits s m args below meth c H1 locs1 cells slots Q (F0 m 29 ls1 [])) → W p l e rm_X1_digits s m args below meth c H locs cells slots Q (F0 m 4 ls []) := by
  intro n
  induction n with
  | zero => intro v2 v3 g w2 w3 g2 h; rw [f_X1_digits_4] at h; cases h
  | succ n ih =>
    intro v2 v3 g w2 w3 g2 h H locs ls hw hl kk
    rw [f_X1_digits_4] at h
    refine lv_iload_n hC.x hC.b dX1_digits_4 rfl (lv_at hl 0 rfl) ?_
    refine lv_iconst (v := (4 : Int32)) hC.x hC.b dX1_digits_5 (by decide) ?_
    refine lv_icmp_ge (tgt := 29) hC.x hC.b dX1_digits_6 (by decide) (fun hc => ?_) (fun hc => ?_)
    · have h := it_t h hc
      obtain ⟨rfl, rfl, rfl⟩ := sm3 h
      exact kk _ _ _ hw (lv_sub hl [0, 1, 2, 3] rfl)
    · have h := it_f h hc
      refine lv_iload_n hC.x hC.b dX1_digits_9 rfl (lv_at hl 1 rfl) ?_
      refine lv_bipush (v := (10 : Int32)) hC.x hC.b dX1_digits_10 (by decide) ?_
      refine lv_imul hC.x hC.b dX1_digits_12 ?_
      refine lv_aload_n hC.x hC.b dX1_digits_13 rfl (lv_at hl 2 rfl) ?_
      refine x_get hC hw (k := 0) (T := TX1) hn0 (k_E2 _ _ _) in_X1_digits_X1 rfl (by decide) lk_X1_digits_f11 rfl rfl dX1_digits_14 ?_
      refine lv_iload_n hC.x hC.b dX1_digits_17 rfl (lv_at hl 3 rfl) ?_
      obtain ⟨hg1, h⟩ := gd_t h
      have hr1 := k_ci_lt (t := 14) (i := n0) rfl hn0 hg1
      refine x_aald hC hw (t := 14) rfl (by decide) hn0 hg1 dX1_digits_18 ?_
      refine lv_iload_n hC.x hC.b dX1_digits_19 rfl (lv_at hl 0 rfl) ?_
      obtain ⟨hg2, h⟩ := gd_t h
      refine x_iald hC hw rfl hr1 hg2 dX1_digits_20 ?_
      refine lv_iadd hC.x hC.b dX1_digits_21 ?_
      refine lv_istore_n (lv' := [(2, .int ((v2 * (10 : Int32)) + (g 20 (16 * n0 + c1.toNatClampNeg) v3.toNatClampNeg))), (3, .int (v3)), (0, .ref (k_ad Γ 2 (n0))), (1, .int (c1))]) hC.x hC.b dX1_digits_22 rfl hl (by decide) rfl (fun ls hl => ?_)
      refine lv_iinc (v := v3 + (1 : Int32)) (lv' := [(3, .int (v3 + (1 : Int32))), (2, .int ((v2 * (10 : Int32)) + (g 20 (16 * n0 + c1.toNatClampNeg) v3.toNatClampNeg))), (0, .ref (k_ad Γ 2 (n0))), (1, .int (c1))]) hC.x hC.b dX1_digits_23 hl (k := 1) rfl rfl (by decide) rfl (fun ls hl => ?_)
      refine lv_goto (tgt := 4) hC.x hC.b dX1_digits_26 (by decide) ?_
      exact ih _ _ _ _ _ _ h _ _ _ hw (lv_sub hl [0, 1, 2, 3] rfl) kk

set_option maxRecDepth 100000 in
set_option maxHeartbeats 4000000 in
theorem c_X1_digits {Γ : k_Pm} {l : Launch} (hl0 : l.stackTraces = false) {i0 : Nat} {x1 : Int32} (hi0 : i0 < 2) {g : Gt} {r : Int32} {g2 : Gt} (h : f_X1_digits i0 x1 g = some (r, g2)) : k_CI Γ l yX1_digits wsX1_digits rm_X1_digits [.ref (k_ad Γ 2 (i0)), .int (x1)] g r g2 := by
  intro sz
  refine Met.ofW (cc := cX1_digits) (maxL := 4) (ret := (some .int)) (by decide) rfl ?_
  intro p e s m args below meth c s₁ B hml hv
  obtain ⟨rfl, rfl, hP, hKS⟩ := hv
  have hr := B.returns
  have hlocks := B.notSynchronized
  have hC : k_C Γ (k_A Γ s.heap.size) p l s m _ c cX1_digits 4 wsX1_digits RX1 := k_C.of ⟨B.exec, B.bytes, hml, findClass_of_methodNamed B.named, atoms_spec (ws := wsX1_digits) B.pre⟩ hKS hl0
  have hw : k_St Γ (k_A Γ s.heap.size) s [] g s.heap [] := k_St.of hKS hP
  have hl := lv_entry ([.ref (k_ad Γ 2 (i0)), .int (x1)] : List Value) (n := 4) (Nat.le_of_ble_eq_true rfl)
  rw [lg_entry_eq]
  generalize (lg_sl ([.ref (k_ad Γ 2 (i0)), .int (x1)] : List Value) ++ List.replicate (4 - (lg_sl ([.ref (k_ad Γ 2 (i0)), .int (x1)] : List Value)).length) Slot.unset).toArray = ls at hl ⊢
  have hl : lv_has ls 4 [(0, .ref (k_ad Γ 2 (i0))), (1, .int (x1))] := hl
  change W p l e rm_X1_digits _ _ _ _ _ _ _ _ _ _ _ _
  unfold f_X1_digits at h
  refine lv_iconst (v := (0 : Int32)) hC.x hC.b dX1_digits_0 (by decide) ?_
  refine lv_istore_n (lv' := [(2, .int ((0 : Int32))), (0, .ref (k_ad Γ 2 (i0))), (1, .int (x1))]) hC.x hC.b dX1_digits_1 rfl hl (by decide) rfl (fun ls hl => ?_)
  refine lv_iconst (v := (0 : Int32)) hC.x hC.b dX1_digits_2 (by decide) ?_
  refine lv_istore_n (lv' := [(3, .int ((0 : Int32))), (2, .int ((0 : Int32))), (0, .ref (k_ad Γ 2 (i0))), (1, .int (x1))]) hC.x hC.b dX1_digits_3 rfl hl (by decide) rfl (fun ls hl => ?_)
  obtain ⟨w4_2, w4_3, g4, hq, h⟩ := bd3_t h
  refine w_X1_digits_4 hC ⟨by decide, by decide⟩ hi0 k_N _ _ _ _ _ _ hq _ _ _ hw (lv_sub hl [0, 1, 2, 3] rfl) (fun H locs ls hw hl => ?_)
  refine lv_iload_n hC.x hC.b dX1_digits_29 rfl (lv_at hl 1 rfl) ?_
  obtain ⟨rfl, rfl⟩ := sm2 h
  exact x_iret hC hw hr hlocks (by decide) (by decide) dX1_digits_30
abbrev rm_X0_tell : Room := { frames := 3, cells := 0, slots := 0, locals := 67 }
theorem in_X0_tell_X0 : ∀ w ∈ wsX00, w ∈ wsX0_tell := fun _ h => List.mem_cons_of_mem _ (List.mem_append_left _ (List.mem_append_right _ (h)))
set_option maxRecDepth 20000 in
theorem lk_X0_tell_f24 : Cond.fieldLink RX0 24 "KnotArchive$Cords" "size" "I" ∈ wsX0_tell := by decide +kernel
set_option maxRecDepth 20000 in
theorem lk_X0_tell_f21 : Cond.fieldLink RX0 21 "KnotArchive$Cords" "counted" "[I" ∈ wsX0_tell := by decide +kernel
set_option maxRecDepth 20000 in
theorem lk_X0_tell_f18 : Cond.fieldLink RX0 18 "KnotArchive$Cords" "says" "[I" ∈ wsX0_tell := by decide +kernel
set_option maxRecDepth 20000 in
theorem lk_X0_tell_iX1 : Cond.initialized RX1 ∈ wsX0_tell := by decide +kernel
set_option maxRecDepth 20000 in
theorem lk_X0_tell_nX1_digits : Cond.instanceMethod yX1_digits ∈ wsX0_tell := by decide +kernel
set_option maxRecDepth 20000 in
theorem lk_X0_tell_zX1_digits : Cond.selects RX1 yX1_digits yX1_digits ∈ wsX0_tell := by decide +kernel
set_option maxRecDepth 100000 in
set_option maxHeartbeats 4000000 in
theorem w_X0_tell_7 {Γ : k_Pm} {A0 : Nat → Prop} {p : Program} {l : Launch} {e : Env} {s : State} {m : MethodId} {args : Array Value} {below : List Frame} {meth : Method} {c : Code} {cells slots : Nat} {Q : State → Prop} {tmp : va_W} {n1 : Nat} (hC : k_C Γ A0 p l s m args c cX0_tell 3 wsX0_tell RX0) (hcs : cells ≤ rm_X0_tell.cells ∧ slots ≤ rm_X0_tell.slots) (hn1 : n1 < 2) : ∀ (n : Nat) (v2 : Int32) (g : Gt) (w2 : Int32) (g2 : Gt), f_X0_tell_7 n1 n v2 g = some (w2, g2) → ∀ (H : Heap) (locs : List Loc) (ls : Array Slot), k_St Γ A0 s tmp g H locs → lv_has ls 3 [(2, .int (v2)), (0, .ref (k_ad Γ 1 (0))), (1, .ref (k_ad Γ 2 (n1)))] → (∀ (H1 : Heap) (locs1 : List Loc) (ls1 : Array Slot), k_St Γ A0 s tmp g2 H1 locs1 → lv_has ls1 3 [(2, .int (w2)), (0, .ref (k_ad Γ 1 (0))), (1, .ref (k_ad Γ 2 (n1)))] → W p l e rm_X0_tell s m args below meth c H1 locs1 cells slots Q (F0 m 46 ls1 [])) → W p l e rm_X0_tell s m args below meth c H locs cells slots Q (F0 m 7 ls []) := by
  intro n
  induction n with
  | zero => intro v2 g w2 g2 h; rw [f_X0_tell_7] at h; cases h
  | succ n ih =>
    intro v2 g w2 g2 h H locs ls hw hl kk
    rw [f_X0_tell_7] at h
    refine lv_iload_n hC.x hC.b dX0_tell_7 rfl (lv_at hl 0 rfl) ?_
    refine lv_if_lt (tgt := 46) hC.x hC.b dX0_tell_8 (by decide) (fun hc => ?_) (fun hc => ?_)
    · have h := it_t h hc
      obtain ⟨rfl, rfl⟩ := sm2 h
      exact kk _ _ _ hw (lv_sub hl [0, 1, 2] rfl)
    · have h := it_f h hc
      refine lv_aload_n hC.x hC.b dX0_tell_11 rfl (lv_at hl 1 rfl) ?_
      refine x_get hC hw (k := 3) (T := TX0) (by decide) (k_E1 _ _ _) in_X0_tell_X0 rfl (by decide) lk_X0_tell_f21 rfl rfl dX0_tell_12 ?_
      refine lv_iload_n hC.x hC.b dX0_tell_15 rfl (lv_at hl 0 rfl) ?_
      refine lv_aload_n hC.x hC.b dX0_tell_16 rfl (lv_at hl 1 rfl) ?_
      refine lv_iload_n hC.x hC.b dX0_tell_17 rfl (lv_at hl 0 rfl) ?_
      obtain ⟨r18, g18, hq, h⟩ := bd2_t h
      refine x_goi hC hw (x_runV hC hw (c_X0_countHanging (Γ := Γ) (l := l) hC.2.2.2.2 hq) (cwV 1 hC.t gX0_tell_X0_countHanging rfl rfl rfl (by decide +kernel) ⟨Nat.le_of_ble_eq_true rfl, Nat.le_of_ble_eq_true rfl⟩) (As := [.int (v2)]) (by decide) (k_E1 _ _ _) rfl rfl rfl hl.1 (Nat.le_of_ble_eq_true rfl) dX0_tell_18 hcs) (fun H locs hw => ?_)
      obtain ⟨hg1, h⟩ := gd_t h
      refine x_iast hC hw rfl (by decide) hg1 dX0_tell_21 (fun H locs hw => ?_)
      refine lv_aload_n hC.x hC.b dX0_tell_22 rfl (lv_at hl 1 rfl) ?_
      refine x_get hC hw (k := 2) (T := TX0) (by decide) (k_E1 _ _ _) in_X0_tell_X0 rfl (by decide) lk_X0_tell_f18 rfl rfl dX0_tell_23 ?_
      refine lv_iload_n hC.x hC.b dX0_tell_26 rfl (lv_at hl 0 rfl) ?_
      refine lv_aload_n hC.x hC.b dX0_tell_27 rfl (lv_at hl 2 rfl) ?_
      refine lv_iload_n hC.x hC.b dX0_tell_28 rfl (lv_at hl 0 rfl) ?_
      obtain ⟨r29, g29, hq, h⟩ := bd2_t h
      refine x_goi hC hw (x_runN hC hw (c_X1_digits (Γ := Γ) (l := l) hC.2.2.2.2 hn1 hq) ⟨va_cnB 1 hC.t gX0_tell_X1_digits_n32 rfl rfl rfl (hC.w nw_m_X0_32) (hC.t _ lk_X0_tell_iX1) (by decide +kernel) ⟨Nat.le_of_ble_eq_true rfl, Nat.le_of_ble_eq_true rfl⟩, hC.t _ lk_X0_tell_nX1_digits, hC.t _ lk_X0_tell_zX1_digits⟩ (As := [.int (v2)]) hn1 (k_E2 _ _ _) rfl rfl rfl hl.1 (Nat.le_of_ble_eq_true rfl) dX0_tell_29 hcs) (fun H locs hw => ?_)
      refine lv_aload_n hC.x hC.b dX0_tell_32 rfl (lv_at hl 1 rfl) ?_
      refine x_get hC hw (k := 3) (T := TX0) (by decide) (k_E1 _ _ _) in_X0_tell_X0 rfl (by decide) lk_X0_tell_f21 rfl rfl dX0_tell_33 ?_
      refine lv_iload_n hC.x hC.b dX0_tell_36 rfl (lv_at hl 0 rfl) ?_
      obtain ⟨hg2, h⟩ := gd_t h
      refine x_iald hC hw rfl (by decide) hg2 dX0_tell_37 ?_
      refine lv_iadd hC.x hC.b dX0_tell_38 ?_
      obtain ⟨hg3, h⟩ := gd_t h
      refine x_iast hC hw rfl (by decide) hg3 dX0_tell_39 (fun H locs hw => ?_)
      refine lv_iinc (v := v2 + (-1 : Int32)) (lv' := [(2, .int (v2 + (-1 : Int32))), (0, .ref (k_ad Γ 1 (0))), (1, .ref (k_ad Γ 2 (n1)))]) hC.x hC.b dX0_tell_40 hl (k := 0) rfl rfl (by decide) rfl (fun ls hl => ?_)
      refine lv_goto (tgt := 7) hC.x hC.b dX0_tell_43 (by decide) ?_
      exact ih _ _ _ _ h _ _ _ hw (lv_sub hl [0, 1, 2] rfl) kk

set_option maxRecDepth 100000 in
set_option maxHeartbeats 4000000 in
theorem c_X0_tell {Γ : k_Pm} {l : Launch} (hl0 : l.stackTraces = false) {i1 : Nat} (hi1 : i1 < 2) {g : Gt} {g2 : Gt} (h : f_X0_tell i1 g = some (g2)) : k_CV Γ l yX0_tell wsX0_tell rm_X0_tell [.ref (k_ad Γ 1 (0)), .ref (k_ad Γ 2 (i1))] g g2 := by
  intro sz
  refine Met.ofW (cc := cX0_tell) (maxL := 3) (ret := none) (by decide) rfl ?_
  intro p e s m args below meth c s₁ B hml hv
  obtain ⟨rfl, rfl, hP, hKS⟩ := hv
  have hr := B.returns
  have hlocks := B.notSynchronized
  have hC : k_C Γ (k_A Γ s.heap.size) p l s m _ c cX0_tell 3 wsX0_tell RX0 := k_C.of ⟨B.exec, B.bytes, hml, findClass_of_methodNamed B.named, atoms_spec (ws := wsX0_tell) B.pre⟩ hKS hl0
  have hw : k_St Γ (k_A Γ s.heap.size) s [] g s.heap [] := k_St.of hKS hP
  have hl := lv_entry ([.ref (k_ad Γ 1 (0)), .ref (k_ad Γ 2 (i1))] : List Value) (n := 3) (Nat.le_of_ble_eq_true rfl)
  rw [lg_entry_eq]
  generalize (lg_sl ([.ref (k_ad Γ 1 (0)), .ref (k_ad Γ 2 (i1))] : List Value) ++ List.replicate (3 - (lg_sl ([.ref (k_ad Γ 1 (0)), .ref (k_ad Γ 2 (i1))] : List Value)).length) Slot.unset).toArray = ls at hl ⊢
  have hl : lv_has ls 3 [(0, .ref (k_ad Γ 1 (0))), (1, .ref (k_ad Γ 2 (i1)))] := hl
  change W p l e rm_X0_tell _ _ _ _ _ _ _ _ _ _ _ _
  unfold f_X0_tell at h
  refine lv_aload_n hC.x hC.b dX0_tell_0 rfl (lv_at hl 0 rfl) ?_
  refine x_get hC hw (k := 4) (T := TX0) (by decide) (k_E1 _ _ _) in_X0_tell_X0 rfl (by decide) lk_X0_tell_f24 rfl rfl dX0_tell_1 ?_
  refine lv_iconst (v := (1 : Int32)) hC.x hC.b dX0_tell_4 (by decide) ?_
  refine lv_isub hC.x hC.b dX0_tell_5 ?_
  refine lv_istore_n (lv' := [(2, .int ((g 1 0 4) - (1 : Int32))), (0, .ref (k_ad Γ 1 (0))), (1, .ref (k_ad Γ 2 (i1)))]) hC.x hC.b dX0_tell_6 rfl hl (by decide) rfl (fun ls hl => ?_)
  obtain ⟨w7_2, g7, hq, h⟩ := bd2_t h
  refine w_X0_tell_7 hC ⟨by decide, by decide⟩ hi1 k_N _ _ _ _ hq _ _ _ hw (lv_sub hl [0, 1, 2] rfl) (fun H locs ls hw hl => ?_)
  obtain rfl := sm1 h
  exact x_vret hC hw hr hlocks (by decide) (by decide) dX0_tell_46
abbrev rm_X1_clearFrays : Room := { frames := 0, cells := 0, slots := 0, locals := 0 }
theorem in_X1_clearFrays_X1 : ∀ w ∈ wsX10, w ∈ wsX1_clearFrays := fun _ h => List.mem_cons_of_mem _ (List.mem_append_right _ (h))
set_option maxRecDepth 20000 in
theorem lk_X1_clearFrays_f16 : Cond.fieldLink RX1 16 "KnotArchive$Knots" "frays" "[[I" ∈ wsX1_clearFrays := by decide +kernel
set_option maxRecDepth 100000 in
set_option maxHeartbeats 4000000 in
theorem w_X1_clearFrays_2 {Γ : k_Pm} {A0 : Nat → Prop} {p : Program} {l : Launch} {e : Env} {s : State} {m : MethodId} {args : Array Value} {below : List Frame} {meth : Method} {c : Code} {cells slots : Nat} {Q : State → Prop} {tmp : va_W} {n0 : Nat} {c1 : Int32} (hC : k_C Γ A0 p l s m args c cX1_clearFrays 3 wsX1_clearFrays RX1) (hcs : cells ≤ rm_X1_clearFrays.cells ∧ slots ≤ rm_X1_clearFrays.slots) (hn0 : n0 < 2) : ∀ (n : Nat) (v2 : Int32) (g : Gt) (w2 : Int32) (g2 : Gt), f_X1_clearFrays_2 n0 c1 n v2 g = some (w2, g2) → ∀ (H : Heap) (locs : List Loc) (ls : Array Slot), k_St Γ A0 s tmp g H locs → lv_has ls 3 [(2, .int (v2)), (0, .ref (k_ad Γ 2 (n0))), (1, .int (c1))] → (∀ (H1 : Heap) (locs1 : List Loc) (ls1 : Array Slot), k_St Γ A0 s tmp g2 H1 locs1 → lv_has ls1 3 [(2, .int (w2)), (0, .ref (k_ad Γ 2 (n0))), (1, .int (c1))] → W p l e rm_X1_clearFrays s m args below meth c H1 locs1 cells slots Q (F0 m 22 ls1 [])) → W p l e rm_X1_clearFrays s m args below meth c H locs cells slots Q (F0 m 2 ls []) := by
  intro n
  induction n with
  | zero => intro v2 g w2 g2 h; rw [f_X1_clearFrays_2] at h; cases h
  | succ n ih =>
    intro v2 g w2 g2 h H locs ls hw hl kk
    rw [f_X1_clearFrays_2] at h
    refine lv_iload_n hC.x hC.b dX1_clearFrays_2 rfl (lv_at hl 0 rfl) ?_
    refine lv_iconst (v := (4 : Int32)) hC.x hC.b dX1_clearFrays_3 (by decide) ?_
    refine lv_icmp_ge (tgt := 22) hC.x hC.b dX1_clearFrays_4 (by decide) (fun hc => ?_) (fun hc => ?_)
    · have h := it_t h hc
      obtain ⟨rfl, rfl⟩ := sm2 h
      exact kk _ _ _ hw (lv_sub hl [0, 1, 2] rfl)
    · have h := it_f h hc
      refine lv_aload_n hC.x hC.b dX1_clearFrays_7 rfl (lv_at hl 1 rfl) ?_
      refine x_get hC hw (k := 1) (T := TX1) hn0 (k_E2 _ _ _) in_X1_clearFrays_X1 rfl (by decide) lk_X1_clearFrays_f16 rfl rfl dX1_clearFrays_8 ?_
      refine lv_iload_n hC.x hC.b dX1_clearFrays_11 rfl (lv_at hl 2 rfl) ?_
      obtain ⟨hg1, h⟩ := gd_t h
      have hr1 := k_ci_lt (t := 15) (i := n0) rfl hn0 hg1
      refine x_aald hC hw (t := 15) rfl (by decide) hn0 hg1 dX1_clearFrays_12 ?_
      refine lv_iload_n hC.x hC.b dX1_clearFrays_13 rfl (lv_at hl 0 rfl) ?_
      refine lv_iconst (v := (0 : Int32)) hC.x hC.b dX1_clearFrays_14 (by decide) ?_
      obtain ⟨hg2, h⟩ := gd_t h
      refine x_iast hC hw rfl hr1 hg2 dX1_clearFrays_15 (fun H locs hw => ?_)
      refine lv_iinc (v := v2 + (1 : Int32)) (lv' := [(2, .int (v2 + (1 : Int32))), (0, .ref (k_ad Γ 2 (n0))), (1, .int (c1))]) hC.x hC.b dX1_clearFrays_16 hl (k := 0) rfl rfl (by decide) rfl (fun ls hl => ?_)
      refine lv_goto (tgt := 2) hC.x hC.b dX1_clearFrays_19 (by decide) ?_
      exact ih _ _ _ _ h _ _ _ hw (lv_sub hl [0, 1, 2] rfl) kk

set_option maxRecDepth 100000 in
set_option maxHeartbeats 4000000 in
theorem c_X1_clearFrays {Γ : k_Pm} {l : Launch} (hl0 : l.stackTraces = false) {i0 : Nat} {x1 : Int32} (hi0 : i0 < 2) {g : Gt} {g2 : Gt} (h : f_X1_clearFrays i0 x1 g = some (g2)) : k_CV Γ l yX1_clearFrays wsX1_clearFrays rm_X1_clearFrays [.ref (k_ad Γ 2 (i0)), .int (x1)] g g2 := by
  intro sz
  refine Met.ofW (cc := cX1_clearFrays) (maxL := 3) (ret := none) (by decide) rfl ?_
  intro p e s m args below meth c s₁ B hml hv
  obtain ⟨rfl, rfl, hP, hKS⟩ := hv
  have hr := B.returns
  have hlocks := B.notSynchronized
  have hC : k_C Γ (k_A Γ s.heap.size) p l s m _ c cX1_clearFrays 3 wsX1_clearFrays RX1 := k_C.of ⟨B.exec, B.bytes, hml, findClass_of_methodNamed B.named, atoms_spec (ws := wsX1_clearFrays) B.pre⟩ hKS hl0
  have hw : k_St Γ (k_A Γ s.heap.size) s [] g s.heap [] := k_St.of hKS hP
  have hl := lv_entry ([.ref (k_ad Γ 2 (i0)), .int (x1)] : List Value) (n := 3) (Nat.le_of_ble_eq_true rfl)
  rw [lg_entry_eq]
  generalize (lg_sl ([.ref (k_ad Γ 2 (i0)), .int (x1)] : List Value) ++ List.replicate (3 - (lg_sl ([.ref (k_ad Γ 2 (i0)), .int (x1)] : List Value)).length) Slot.unset).toArray = ls at hl ⊢
  have hl : lv_has ls 3 [(0, .ref (k_ad Γ 2 (i0))), (1, .int (x1))] := hl
  change W p l e rm_X1_clearFrays _ _ _ _ _ _ _ _ _ _ _ _
  unfold f_X1_clearFrays at h
  refine lv_iconst (v := (0 : Int32)) hC.x hC.b dX1_clearFrays_0 (by decide) ?_
  refine lv_istore_n (lv' := [(2, .int ((0 : Int32))), (0, .ref (k_ad Γ 2 (i0))), (1, .int (x1))]) hC.x hC.b dX1_clearFrays_1 rfl hl (by decide) rfl (fun ls hl => ?_)
  obtain ⟨w2_2, g2, hq, h⟩ := bd2_t h
  refine w_X1_clearFrays_2 hC ⟨by decide, by decide⟩ hi0 k_N _ _ _ _ hq _ _ _ hw (lv_sub hl [0, 1, 2] rfl) (fun H locs ls hw hl => ?_)
  obtain rfl := sm1 h
  exact x_vret hC hw hr hlocks (by decide) (by decide) dX1_clearFrays_22
abbrev rm_X1_tieAll : Room := { frames := 1, cells := 0, slots := 0, locals := 22 }
theorem in_X1_tieAll_X1 : ∀ w ∈ wsX10, w ∈ wsX1_tieAll := fun _ h => List.mem_cons_of_mem _ (List.mem_append_right _ (h))
set_option maxRecDepth 20000 in
theorem lk_X1_tieAll_f11 : Cond.fieldLink RX1 11 "KnotArchive$Knots" "tied" "[[I" ∈ wsX1_tieAll := by decide +kernel
set_option maxRecDepth 100000 in
set_option maxHeartbeats 4000000 in
theorem w_X1_tieAll_5 {Γ : k_Pm} {A0 : Nat → Prop} {p : Program} {l : Launch} {e : Env} {s : State} {m : MethodId} {args : Array Value} {below : List Frame} {meth : Method} {c : Code} {cells slots : Nat} {Q : State → Prop} {tmp : va_W} {n0 : Nat} {c1 : Int32} {c2 : Int32} (hC : k_C Γ A0 p l s m args c cX1_tieAll 5 wsX1_tieAll RX1) (hcs : cells ≤ rm_X1_tieAll.cells ∧ slots ≤ rm_X1_tieAll.slots) (hn0 : n0 < 2) : ∀ (n : Nat) (v3 : Int32) (v4 : Int32) (g : Gt) (w3 : Int32) (w4 : Int32) (g2 : Gt), f_X1_tieAll_5 n0 c1 c2 n v3 v4 g = some (w3, w4, g2) → ∀ (H : Heap) (locs : List Loc) (ls : Array Slot), k_St Γ A0 s tmp g H locs → lv_has ls 5 [(4, .int (v4)), (3, .int (v3)), (0, .ref (k_ad Γ 2 (n0))), (1, .int (c1)), (2, .int (c2))] → (∀ (H1 : Heap) (locs1 : List Loc) (ls1 : Array Slot), k_St Γ A0 s tmp g2 H1 locs1 → lv_has ls1 5 [(4, .int (w4)), (3, .int (w3)), (0, .ref (k_ad Γ 2 (n0))), (1, .int (c1)), (2, .int (c2))] → W p l e rm_X1_tieAll s m args below meth c H1 locs1 cells slots Q (F0 m 34 ls1 [])) → W p l e rm_X1_tieAll s m args below meth c H locs cells slots Q (F0 m 5 ls []) := by
  intro n
  induction n with
  | zero => intro v3 v4 g w3 w4 g2 h; rw [f_X1_tieAll_5] at h; cases h
  | succ n ih =>
    intro v3 v4 g w3 w4 g2 h H locs ls hw hl kk
    rw [f_X1_tieAll_5] at h
    refine lv_iload hC.x hC.b dX1_tieAll_5 (lv_at hl 0 rfl) ?_
    refine lv_if_lt (tgt := 34) hC.x hC.b dX1_tieAll_7 (by decide) (fun hc => ?_) (fun hc => ?_)
    · have h := it_t h hc
      obtain ⟨rfl, rfl, rfl⟩ := sm3 h
      exact kk _ _ _ hw (lv_sub hl [0, 1, 2, 3, 4] rfl)
    · have h := it_f h hc
      refine lv_aload_n hC.x hC.b dX1_tieAll_10 rfl (lv_at hl 2 rfl) ?_
      refine x_get hC hw (k := 0) (T := TX1) hn0 (k_E2 _ _ _) in_X1_tieAll_X1 rfl (by decide) lk_X1_tieAll_f11 rfl rfl dX1_tieAll_11 ?_
      refine lv_iload_n hC.x hC.b dX1_tieAll_14 rfl (lv_at hl 3 rfl) ?_
      obtain ⟨hg1, h⟩ := gd_t h
      have hr1 := k_ci_lt (t := 14) (i := n0) rfl hn0 hg1
      refine x_aald hC hw (t := 14) rfl (by decide) hn0 hg1 dX1_tieAll_15 ?_
      refine lv_iload hC.x hC.b dX1_tieAll_16 (lv_at hl 0 rfl) ?_
      refine lv_iload_n hC.x hC.b dX1_tieAll_18 rfl (lv_at hl 1 rfl) ?_
      refine lv_bipush (v := (10 : Int32)) hC.x hC.b dX1_tieAll_19 (by decide) ?_
      refine lv_irem hC.x hC.b dX1_tieAll_21 (by decide) ?_
      obtain ⟨hg2, h⟩ := gd_t h
      refine x_iast hC hw rfl hr1 hg2 dX1_tieAll_22 (fun H locs hw => ?_)
      refine lv_iload_n hC.x hC.b dX1_tieAll_23 rfl (lv_at hl 1 rfl) ?_
      refine lv_bipush (v := (10 : Int32)) hC.x hC.b dX1_tieAll_24 (by decide) ?_
      refine lv_idiv hC.x hC.b dX1_tieAll_26 (by decide) ?_
      refine lv_istore_n (lv' := [(3, .int (v3 / (10 : Int32))), (4, .int (v4)), (0, .ref (k_ad Γ 2 (n0))), (1, .int (c1)), (2, .int (c2))]) hC.x hC.b dX1_tieAll_27 rfl hl (by decide) rfl (fun ls hl => ?_)
      refine lv_iinc (v := v4 + (-1 : Int32)) (lv' := [(4, .int (v4 + (-1 : Int32))), (3, .int (v3 / (10 : Int32))), (0, .ref (k_ad Γ 2 (n0))), (1, .int (c1)), (2, .int (c2))]) hC.x hC.b dX1_tieAll_28 hl (k := 1) rfl rfl (by decide) rfl (fun ls hl => ?_)
      refine lv_goto (tgt := 5) hC.x hC.b dX1_tieAll_31 (by decide) ?_
      exact ih _ _ _ _ _ _ h _ _ _ hw (lv_sub hl [0, 1, 2, 3, 4] rfl) kk

set_option maxRecDepth 100000 in
set_option maxHeartbeats 4000000 in
theorem c_X1_tieAll {Γ : k_Pm} {l : Launch} (hl0 : l.stackTraces = false) {i0 : Nat} {x1 : Int32} {x2 : Int32} (hi0 : i0 < 2) {g : Gt} {g2 : Gt} (h : f_X1_tieAll i0 x1 x2 g = some (g2)) : k_CV Γ l yX1_tieAll wsX1_tieAll rm_X1_tieAll [.ref (k_ad Γ 2 (i0)), .int (x1), .int (x2)] g g2 := by
  intro sz
  refine Met.ofW (cc := cX1_tieAll) (maxL := 5) (ret := none) (by decide) rfl ?_
  intro p e s m args below meth c s₁ B hml hv
  obtain ⟨rfl, rfl, hP, hKS⟩ := hv
  have hr := B.returns
  have hlocks := B.notSynchronized
  have hC : k_C Γ (k_A Γ s.heap.size) p l s m _ c cX1_tieAll 5 wsX1_tieAll RX1 := k_C.of ⟨B.exec, B.bytes, hml, findClass_of_methodNamed B.named, atoms_spec (ws := wsX1_tieAll) B.pre⟩ hKS hl0
  have hw : k_St Γ (k_A Γ s.heap.size) s [] g s.heap [] := k_St.of hKS hP
  have hl := lv_entry ([.ref (k_ad Γ 2 (i0)), .int (x1), .int (x2)] : List Value) (n := 5) (Nat.le_of_ble_eq_true rfl)
  rw [lg_entry_eq]
  generalize (lg_sl ([.ref (k_ad Γ 2 (i0)), .int (x1), .int (x2)] : List Value) ++ List.replicate (5 - (lg_sl ([.ref (k_ad Γ 2 (i0)), .int (x1), .int (x2)] : List Value)).length) Slot.unset).toArray = ls at hl ⊢
  have hl : lv_has ls 5 [(0, .ref (k_ad Γ 2 (i0))), (1, .int (x1)), (2, .int (x2))] := hl
  change W p l e rm_X1_tieAll _ _ _ _ _ _ _ _ _ _ _ _
  unfold f_X1_tieAll at h
  refine lv_iload_n hC.x hC.b dX1_tieAll_0 rfl (lv_at hl 2 rfl) ?_
  refine lv_istore_n (lv' := [(3, .int (x2)), (0, .ref (k_ad Γ 2 (i0))), (1, .int (x1)), (2, .int (x2))]) hC.x hC.b dX1_tieAll_1 rfl hl (by decide) rfl (fun ls hl => ?_)
  refine lv_iconst (v := (3 : Int32)) hC.x hC.b dX1_tieAll_2 (by decide) ?_
  refine lv_istore (lv' := [(4, .int ((3 : Int32))), (3, .int (x2)), (0, .ref (k_ad Γ 2 (i0))), (1, .int (x1)), (2, .int (x2))]) hC.x hC.b dX1_tieAll_3 hl (by decide) rfl (fun ls hl => ?_)
  obtain ⟨w5_3, w5_4, g5, hq, h⟩ := bd3_t h
  refine w_X1_tieAll_5 hC ⟨by decide, by decide⟩ hi0 k_N _ _ _ _ _ _ hq _ _ _ hw (lv_sub hl [0, 1, 2, 3, 4] rfl) (fun H locs ls hw hl => ?_)
  refine lv_aload_n hC.x hC.b dX1_tieAll_34 rfl (lv_at hl 2 rfl) ?_
  refine lv_iload_n hC.x hC.b dX1_tieAll_35 rfl (lv_at hl 3 rfl) ?_
  obtain ⟨g36, hq, h⟩ := bd1_t h
  refine x_gov hC hw (x_runV hC hw (c_X1_clearFrays (Γ := Γ) (l := l) hC.2.2.2.2 hi0 hq) (cwV 1 hC.t gX1_tieAll_X1_clearFrays rfl rfl rfl (by decide +kernel) ⟨Nat.le_of_ble_eq_true rfl, Nat.le_of_ble_eq_true rfl⟩) (As := [.int (x1)]) hi0 (k_E2 _ _ _) rfl rfl rfl hl.1 (Nat.le_of_ble_eq_true rfl) dX1_tieAll_36 ⟨by decide, by decide⟩) (fun H locs hw => ?_)
  obtain rfl := sm1 h
  exact x_vret hC hw hr hlocks (by decide) (by decide) dX1_tieAll_39
abbrev rm_X1_allFrays : Room := { frames := 0, cells := 0, slots := 0, locals := 0 }
theorem in_X1_allFrays_X1 : ∀ w ∈ wsX10, w ∈ wsX1_allFrays := fun _ h => List.mem_cons_of_mem _ (List.mem_append_right _ (h))
set_option maxRecDepth 20000 in
theorem lk_X1_allFrays_f16 : Cond.fieldLink RX1 16 "KnotArchive$Knots" "frays" "[[I" ∈ wsX1_allFrays := by decide +kernel
set_option maxRecDepth 100000 in
set_option maxHeartbeats 4000000 in
theorem w_X1_allFrays_4 {Γ : k_Pm} {A0 : Nat → Prop} {p : Program} {l : Launch} {e : Env} {s : State} {m : MethodId} {args : Array Value} {below : List Frame} {meth : Method} {c : Code} {cells slots : Nat} {Q : State → Prop} {tmp : va_W} {n0 : Nat} {c1 : Int32} (hC : k_C Γ A0 p l s m args c cX1_allFrays 4 wsX1_allFrays RX1) (hcs : cells ≤ rm_X1_allFrays.cells ∧ slots ≤ rm_X1_allFrays.slots) (hn0 : n0 < 2) : ∀ (n : Nat) (v2 : Int32) (v3 : Int32) (g : Gt) (w2 : Int32) (w3 : Int32) (g2 : Gt), f_X1_allFrays_4 n0 c1 n v2 v3 g = some (w2, w3, g2) → ∀ (H : Heap) (locs : List Loc) (ls : Array Slot), k_St Γ A0 s tmp g H locs → lv_has ls 4 [(3, .int (v3)), (2, .int (v2)), (0, .ref (k_ad Γ 2 (n0))), (1, .int (c1))] → (∀ (H1 : Heap) (locs1 : List Loc) (ls1 : Array Slot), k_St Γ A0 s tmp g2 H1 locs1 → lv_has ls1 4 [(3, .int (w3)), (2, .int (w2)), (0, .ref (k_ad Γ 2 (n0))), (1, .int (c1))] → W p l e rm_X1_allFrays s m args below meth c H1 locs1 cells slots Q (F0 m 26 ls1 [])) → W p l e rm_X1_allFrays s m args below meth c H locs cells slots Q (F0 m 4 ls []) := by
  intro n
  induction n with
  | zero => intro v2 v3 g w2 w3 g2 h; rw [f_X1_allFrays_4] at h; cases h
  | succ n ih =>
    intro v2 v3 g w2 w3 g2 h H locs ls hw hl kk
    rw [f_X1_allFrays_4] at h
    refine lv_iload_n hC.x hC.b dX1_allFrays_4 rfl (lv_at hl 0 rfl) ?_
    refine lv_iconst (v := (4 : Int32)) hC.x hC.b dX1_allFrays_5 (by decide) ?_
    refine lv_icmp_ge (tgt := 26) hC.x hC.b dX1_allFrays_6 (by decide) (fun hc => ?_) (fun hc => ?_)
    · have h := it_t h hc
      obtain ⟨rfl, rfl, rfl⟩ := sm3 h
      exact kk _ _ _ hw (lv_sub hl [0, 1, 2, 3] rfl)
    · have h := it_f h hc
      refine lv_iload_n hC.x hC.b dX1_allFrays_9 rfl (lv_at hl 1 rfl) ?_
      refine lv_aload_n hC.x hC.b dX1_allFrays_10 rfl (lv_at hl 2 rfl) ?_
      refine x_get hC hw (k := 1) (T := TX1) hn0 (k_E2 _ _ _) in_X1_allFrays_X1 rfl (by decide) lk_X1_allFrays_f16 rfl rfl dX1_allFrays_11 ?_
      refine lv_iload_n hC.x hC.b dX1_allFrays_14 rfl (lv_at hl 3 rfl) ?_
      obtain ⟨hg1, h⟩ := gd_t h
      have hr1 := k_ci_lt (t := 15) (i := n0) rfl hn0 hg1
      refine x_aald hC hw (t := 15) rfl (by decide) hn0 hg1 dX1_allFrays_15 ?_
      refine lv_iload_n hC.x hC.b dX1_allFrays_16 rfl (lv_at hl 0 rfl) ?_
      obtain ⟨hg2, h⟩ := gd_t h
      refine x_iald hC hw rfl hr1 hg2 dX1_allFrays_17 ?_
      refine lv_iadd hC.x hC.b dX1_allFrays_18 ?_
      refine lv_istore_n (lv' := [(2, .int (v2 + (g 21 (16 * n0 + c1.toNatClampNeg) v3.toNatClampNeg))), (3, .int (v3)), (0, .ref (k_ad Γ 2 (n0))), (1, .int (c1))]) hC.x hC.b dX1_allFrays_19 rfl hl (by decide) rfl (fun ls hl => ?_)
      refine lv_iinc (v := v3 + (1 : Int32)) (lv' := [(3, .int (v3 + (1 : Int32))), (2, .int (v2 + (g 21 (16 * n0 + c1.toNatClampNeg) v3.toNatClampNeg))), (0, .ref (k_ad Γ 2 (n0))), (1, .int (c1))]) hC.x hC.b dX1_allFrays_20 hl (k := 1) rfl rfl (by decide) rfl (fun ls hl => ?_)
      refine lv_goto (tgt := 4) hC.x hC.b dX1_allFrays_23 (by decide) ?_
      exact ih _ _ _ _ _ _ h _ _ _ hw (lv_sub hl [0, 1, 2, 3] rfl) kk

set_option maxRecDepth 100000 in
set_option maxHeartbeats 4000000 in
theorem c_X1_allFrays {Γ : k_Pm} {l : Launch} (hl0 : l.stackTraces = false) {i0 : Nat} {x1 : Int32} (hi0 : i0 < 2) {g : Gt} {r : Int32} {g2 : Gt} (h : f_X1_allFrays i0 x1 g = some (r, g2)) : k_CI Γ l yX1_allFrays wsX1_allFrays rm_X1_allFrays [.ref (k_ad Γ 2 (i0)), .int (x1)] g r g2 := by
  intro sz
  refine Met.ofW (cc := cX1_allFrays) (maxL := 4) (ret := (some .int)) (by decide) rfl ?_
  intro p e s m args below meth c s₁ B hml hv
  obtain ⟨rfl, rfl, hP, hKS⟩ := hv
  have hr := B.returns
  have hlocks := B.notSynchronized
  have hC : k_C Γ (k_A Γ s.heap.size) p l s m _ c cX1_allFrays 4 wsX1_allFrays RX1 := k_C.of ⟨B.exec, B.bytes, hml, findClass_of_methodNamed B.named, atoms_spec (ws := wsX1_allFrays) B.pre⟩ hKS hl0
  have hw : k_St Γ (k_A Γ s.heap.size) s [] g s.heap [] := k_St.of hKS hP
  have hl := lv_entry ([.ref (k_ad Γ 2 (i0)), .int (x1)] : List Value) (n := 4) (Nat.le_of_ble_eq_true rfl)
  rw [lg_entry_eq]
  generalize (lg_sl ([.ref (k_ad Γ 2 (i0)), .int (x1)] : List Value) ++ List.replicate (4 - (lg_sl ([.ref (k_ad Γ 2 (i0)), .int (x1)] : List Value)).length) Slot.unset).toArray = ls at hl ⊢
  have hl : lv_has ls 4 [(0, .ref (k_ad Γ 2 (i0))), (1, .int (x1))] := hl
  change W p l e rm_X1_allFrays _ _ _ _ _ _ _ _ _ _ _ _
  unfold f_X1_allFrays at h
  refine lv_iconst (v := (0 : Int32)) hC.x hC.b dX1_allFrays_0 (by decide) ?_
  refine lv_istore_n (lv' := [(2, .int ((0 : Int32))), (0, .ref (k_ad Γ 2 (i0))), (1, .int (x1))]) hC.x hC.b dX1_allFrays_1 rfl hl (by decide) rfl (fun ls hl => ?_)
  refine lv_iconst (v := (0 : Int32)) hC.x hC.b dX1_allFrays_2 (by decide) ?_
  refine lv_istore_n (lv' := [(3, .int ((0 : Int32))), (2, .int ((0 : Int32))), (0, .ref (k_ad Γ 2 (i0))), (1, .int (x1))]) hC.x hC.b dX1_allFrays_3 rfl hl (by decide) rfl (fun ls hl => ?_)
  obtain ⟨w4_2, w4_3, g4, hq, h⟩ := bd3_t h
  refine w_X1_allFrays_4 hC ⟨by decide, by decide⟩ hi0 k_N _ _ _ _ _ _ hq _ _ _ hw (lv_sub hl [0, 1, 2, 3] rfl) (fun H locs ls hw hl => ?_)
  refine lv_iload_n hC.x hC.b dX1_allFrays_26 rfl (lv_at hl 1 rfl) ?_
  obtain ⟨rfl, rfl⟩ := sm2 h
  exact x_iret hC hw hr hlocks (by decide) (by decide) dX1_allFrays_27
abbrev rm_X1_differences : Room := { frames := 1, cells := 0, slots := 0, locals := 16 }
theorem in_X1_differences_X1 : ∀ w ∈ wsX10, w ∈ wsX1_differences := fun _ h => List.mem_cons_of_mem _ (List.mem_append_right _ (h))
set_option maxRecDepth 20000 in
theorem lk_X1_differences_f11 : Cond.fieldLink RX1 11 "KnotArchive$Knots" "tied" "[[I" ∈ wsX1_differences := by decide +kernel
set_option maxRecDepth 20000 in
theorem lk_X1_differences_m23 : Cond.methodLink RX1 23 Lib.Math.abs.name ∈ wsX1_differences := by decide +kernel
set_option maxRecDepth 20000 in
theorem lk_X1_differences_s23 : Cond.static Lib.Math.abs.name ∈ wsX1_differences := by decide +kernel
set_option maxRecDepth 20000 in
theorem lk_X1_differences_imath : Cond.initialized "java/lang/Math" ∈ wsX1_differences := by decide +kernel
set_option maxRecDepth 20000 in
theorem lk_X1_differences_e23 : Cond.code Lib.Math.abs.name Lib.Math.abs.code 1 (some .int) ∈ wsX1_differences := by decide +kernel
set_option maxRecDepth 100000 in
set_option maxHeartbeats 4000000 in
theorem w_X1_differences_8 {Γ : k_Pm} {A0 : Nat → Prop} {p : Program} {l : Launch} {e : Env} {s : State} {m : MethodId} {args : Array Value} {below : List Frame} {meth : Method} {c : Code} {cells slots : Nat} {Q : State → Prop} {tmp : va_W} {n0 : Nat} {c1 : Int32} {c2 : Int32} (hC : k_C Γ A0 p l s m args c cX1_differences 6 wsX1_differences RX1) (hcs : cells ≤ rm_X1_differences.cells ∧ slots ≤ rm_X1_differences.slots) (hn0 : n0 < 2) : ∀ (n : Nat) (v3 : Int32) (v4 : Int32) (v5 : Int32) (g : Gt) (w3 : Int32) (w4 : Int32) (w5 : Int32) (g2 : Gt), f_X1_differences_8 n0 c1 c2 n v3 v4 v5 g = some (w3, w4, w5, g2) → ∀ (H : Heap) (locs : List Loc) (ls : Array Slot), k_St Γ A0 s tmp g H locs → lv_has ls 6 [(5, .int (v5)), (4, .int (v4)), (3, .int (v3)), (0, .ref (k_ad Γ 2 (n0))), (1, .int (c1)), (2, .int (c2))] → (∀ (H1 : Heap) (locs1 : List Loc) (ls1 : Array Slot), k_St Γ A0 s tmp g2 H1 locs1 → lv_has ls1 6 [(5, .int (w5)), (4, .int (w4)), (3, .int (w3)), (0, .ref (k_ad Γ 2 (n0))), (1, .int (c1)), (2, .int (c2))] → W p l e rm_X1_differences s m args below meth c H1 locs1 cells slots Q (F0 m 47 ls1 [])) → W p l e rm_X1_differences s m args below meth c H locs cells slots Q (F0 m 8 ls []) := by
  intro n
  induction n with
  | zero => intro v3 v4 v5 g w3 w4 w5 g2 h; rw [f_X1_differences_8] at h; cases h
  | succ n ih =>
    intro v3 v4 v5 g w3 w4 w5 g2 h H locs ls hw hl kk
    rw [f_X1_differences_8] at h
    refine lv_iload hC.x hC.b dX1_differences_8 (lv_at hl 0 rfl) ?_
    refine lv_if_lt (tgt := 47) hC.x hC.b dX1_differences_10 (by decide) (fun hc => ?_) (fun hc => ?_)
    · have h := it_t h hc
      obtain ⟨rfl, rfl, rfl, rfl⟩ := sm4 h
      exact kk _ _ _ hw (lv_sub hl [0, 1, 2, 3, 4, 5] rfl)
    · have h := it_f h hc
      refine lv_iload_n hC.x hC.b dX1_differences_13 rfl (lv_at hl 2 rfl) ?_
      refine lv_aload_n hC.x hC.b dX1_differences_14 rfl (lv_at hl 3 rfl) ?_
      refine x_get hC hw (k := 0) (T := TX1) hn0 (k_E2 _ _ _) in_X1_differences_X1 rfl (by decide) lk_X1_differences_f11 rfl rfl dX1_differences_15 ?_
      refine lv_iload_n hC.x hC.b dX1_differences_18 rfl (lv_at hl 4 rfl) ?_
      obtain ⟨hg1, h⟩ := gd_t h
      have hr1 := k_ci_lt (t := 14) (i := n0) rfl hn0 hg1
      refine x_aald hC hw (t := 14) rfl (by decide) hn0 hg1 dX1_differences_19 ?_
      refine lv_iload hC.x hC.b dX1_differences_20 (lv_at hl 0 rfl) ?_
      obtain ⟨hg2, h⟩ := gd_t h
      refine x_iald hC hw rfl hr1 hg2 dX1_differences_22 ?_
      refine lv_iload hC.x hC.b dX1_differences_23 (lv_at hl 1 rfl) ?_
      refine lv_bipush (v := (10 : Int32)) hC.x hC.b dX1_differences_25 (by decide) ?_
      refine lv_irem hC.x hC.b dX1_differences_27 (by decide) ?_
      refine lv_isub hC.x hC.b dX1_differences_28 ?_
      refine va_mabs hC.x hC.b (hC.n.trans hl.1.symm) hC.o (hC.t _ lk_X1_differences_m23) (hC.t _ lk_X1_differences_s23) (hC.t _ lk_X1_differences_imath) (hC.t _ lk_X1_differences_e23) (Nat.le_of_ble_eq_true rfl) (Nat.le_of_ble_eq_true rfl) hcs.1 hcs.2 dX1_differences_29 ?_
      refine lv_iadd hC.x hC.b dX1_differences_32 ?_
      refine lv_istore_n (lv' := [(3, .int (v3 + (k_abs ((g 20 (16 * n0 + c1.toNatClampNeg) v5.toNatClampNeg) - (v4 - v4 / (10 : Int32) * (10 : Int32)))))), (5, .int (v5)), (4, .int (v4)), (0, .ref (k_ad Γ 2 (n0))), (1, .int (c1)), (2, .int (c2))]) hC.x hC.b dX1_differences_33 rfl hl (by decide) rfl (fun ls hl => ?_)
      refine lv_iload hC.x hC.b dX1_differences_34 (lv_at hl 2 rfl) ?_
      refine lv_bipush (v := (10 : Int32)) hC.x hC.b dX1_differences_36 (by decide) ?_
      refine lv_idiv hC.x hC.b dX1_differences_38 (by decide) ?_
      refine lv_istore (lv' := [(4, .int (v4 / (10 : Int32))), (3, .int (v3 + (k_abs ((g 20 (16 * n0 + c1.toNatClampNeg) v5.toNatClampNeg) - (v4 - v4 / (10 : Int32) * (10 : Int32)))))), (5, .int (v5)), (0, .ref (k_ad Γ 2 (n0))), (1, .int (c1)), (2, .int (c2))]) hC.x hC.b dX1_differences_39 hl (by decide) rfl (fun ls hl => ?_)
      refine lv_iinc (v := v5 + (-1 : Int32)) (lv' := [(5, .int (v5 + (-1 : Int32))), (4, .int (v4 / (10 : Int32))), (3, .int (v3 + (k_abs ((g 20 (16 * n0 + c1.toNatClampNeg) v5.toNatClampNeg) - (v4 - v4 / (10 : Int32) * (10 : Int32)))))), (0, .ref (k_ad Γ 2 (n0))), (1, .int (c1)), (2, .int (c2))]) hC.x hC.b dX1_differences_41 hl (k := 2) rfl rfl (by decide) rfl (fun ls hl => ?_)
      refine lv_goto (tgt := 8) hC.x hC.b dX1_differences_44 (by decide) ?_
      exact ih _ _ _ _ _ _ _ _ h _ _ _ hw (lv_sub hl [0, 1, 2, 3, 4, 5] rfl) kk

set_option maxRecDepth 100000 in
set_option maxHeartbeats 4000000 in
theorem c_X1_differences {Γ : k_Pm} {l : Launch} (hl0 : l.stackTraces = false) {i0 : Nat} {x1 : Int32} {x2 : Int32} (hi0 : i0 < 2) {g : Gt} {r : Int32} {g2 : Gt} (h : f_X1_differences i0 x1 x2 g = some (r, g2)) : k_CI Γ l yX1_differences wsX1_differences rm_X1_differences [.ref (k_ad Γ 2 (i0)), .int (x1), .int (x2)] g r g2 := by
  intro sz
  refine Met.ofW (cc := cX1_differences) (maxL := 6) (ret := (some .int)) (by decide) rfl ?_
  intro p e s m args below meth c s₁ B hml hv
  obtain ⟨rfl, rfl, hP, hKS⟩ := hv
  have hr := B.returns
  have hlocks := B.notSynchronized
  have hC : k_C Γ (k_A Γ s.heap.size) p l s m _ c cX1_differences 6 wsX1_differences RX1 := k_C.of ⟨B.exec, B.bytes, hml, findClass_of_methodNamed B.named, atoms_spec (ws := wsX1_differences) B.pre⟩ hKS hl0
  have hw : k_St Γ (k_A Γ s.heap.size) s [] g s.heap [] := k_St.of hKS hP
  have hl := lv_entry ([.ref (k_ad Γ 2 (i0)), .int (x1), .int (x2)] : List Value) (n := 6) (Nat.le_of_ble_eq_true rfl)
  rw [lg_entry_eq]
  generalize (lg_sl ([.ref (k_ad Γ 2 (i0)), .int (x1), .int (x2)] : List Value) ++ List.replicate (6 - (lg_sl ([.ref (k_ad Γ 2 (i0)), .int (x1), .int (x2)] : List Value)).length) Slot.unset).toArray = ls at hl ⊢
  have hl : lv_has ls 6 [(0, .ref (k_ad Γ 2 (i0))), (1, .int (x1)), (2, .int (x2))] := hl
  change W p l e rm_X1_differences _ _ _ _ _ _ _ _ _ _ _ _
  unfold f_X1_differences at h
  refine lv_iconst (v := (0 : Int32)) hC.x hC.b dX1_differences_0 (by decide) ?_
  refine lv_istore_n (lv' := [(3, .int ((0 : Int32))), (0, .ref (k_ad Γ 2 (i0))), (1, .int (x1)), (2, .int (x2))]) hC.x hC.b dX1_differences_1 rfl hl (by decide) rfl (fun ls hl => ?_)
  refine lv_iload_n hC.x hC.b dX1_differences_2 rfl (lv_at hl 3 rfl) ?_
  refine lv_istore (lv' := [(4, .int (x2)), (3, .int ((0 : Int32))), (0, .ref (k_ad Γ 2 (i0))), (1, .int (x1)), (2, .int (x2))]) hC.x hC.b dX1_differences_3 hl (by decide) rfl (fun ls hl => ?_)
  refine lv_iconst (v := (3 : Int32)) hC.x hC.b dX1_differences_5 (by decide) ?_
  refine lv_istore (lv' := [(5, .int ((3 : Int32))), (4, .int (x2)), (3, .int ((0 : Int32))), (0, .ref (k_ad Γ 2 (i0))), (1, .int (x1)), (2, .int (x2))]) hC.x hC.b dX1_differences_6 hl (by decide) rfl (fun ls hl => ?_)
  obtain ⟨w8_3, w8_4, w8_5, g8, hq, h⟩ := bd4_t h
  refine w_X1_differences_8 hC ⟨by decide, by decide⟩ hi0 k_N _ _ _ _ _ _ _ _ hq _ _ _ hw (lv_sub hl [0, 1, 2, 3, 4, 5] rfl) (fun H locs ls hw hl => ?_)
  refine lv_iload_n hC.x hC.b dX1_differences_47 rfl (lv_at hl 2 rfl) ?_
  obtain ⟨rfl, rfl⟩ := sm2 h
  exact x_iret hC hw hr hlocks (by decide) (by decide) dX1_differences_48
abbrev rm_X1_copyFrom : Room := { frames := 1, cells := 0, slots := 0, locals := 60 }
theorem in_X1_copyFrom_X1 : ∀ w ∈ wsX10, w ∈ wsX1_copyFrom := fun _ h => List.mem_cons_of_mem _ (List.mem_append_right _ (h))
set_option maxRecDepth 20000 in
theorem lk_X1_copyFrom_f11 : Cond.fieldLink RX1 11 "KnotArchive$Knots" "tied" "[[I" ∈ wsX1_copyFrom := by decide +kernel
set_option maxRecDepth 20000 in
theorem lk_X1_copyFrom_m29 : Cond.methodLink RX1 29 arraycopyName ∈ wsX1_copyFrom := by decide +kernel
set_option maxRecDepth 20000 in
theorem lk_X1_copyFrom_nac : Cond.native arraycopyName ∈ wsX1_copyFrom := by decide +kernel
set_option maxRecDepth 20000 in
theorem lk_X1_copyFrom_sac : Cond.static arraycopyName ∈ wsX1_copyFrom := by decide +kernel
set_option maxRecDepth 20000 in
theorem lk_X1_copyFrom_iac : Cond.initialized "java/lang/System" ∈ wsX1_copyFrom := by decide +kernel
set_option maxRecDepth 20000 in
theorem lk_X1_copyFrom_f16 : Cond.fieldLink RX1 16 "KnotArchive$Knots" "frays" "[[I" ∈ wsX1_copyFrom := by decide +kernel
set_option maxRecDepth 100000 in
set_option maxHeartbeats 4000000 in
theorem w_X1_copyFrom_2 {Γ : k_Pm} {A0 : Nat → Prop} {p : Program} {l : Launch} {e : Env} {s : State} {m : MethodId} {args : Array Value} {below : List Frame} {meth : Method} {c : Code} {cells slots : Nat} {Q : State → Prop} {tmp : va_W} {n0 : Nat} {n1 : Nat} (hC : k_C Γ A0 p l s m args c cX1_copyFrom 3 wsX1_copyFrom RX1) (hcs : cells ≤ rm_X1_copyFrom.cells ∧ slots ≤ rm_X1_copyFrom.slots) (hn0 : n0 < 2) (hn1 : n1 < 2) : ∀ (n : Nat) (v2 : Int32) (g : Gt) (w2 : Int32) (g2 : Gt), f_X1_copyFrom_2 n0 n1 n v2 g = some (w2, g2) → ∀ (H : Heap) (locs : List Loc) (ls : Array Slot), k_St Γ A0 s tmp g H locs → lv_has ls 3 [(2, .int (v2)), (0, .ref (k_ad Γ 2 (n0))), (1, .ref (k_ad Γ 2 (n1)))] → (∀ (H1 : Heap) (locs1 : List Loc) (ls1 : Array Slot), k_St Γ A0 s tmp g2 H1 locs1 → lv_has ls1 3 [(2, .int (w2)), (0, .ref (k_ad Γ 2 (n0))), (1, .ref (k_ad Γ 2 (n1)))] → W p l e rm_X1_copyFrom s m args below meth c H1 locs1 cells slots Q (F0 m 50 ls1 [])) → W p l e rm_X1_copyFrom s m args below meth c H locs cells slots Q (F0 m 2 ls []) := by
  intro n
  induction n with
  | zero => intro v2 g w2 g2 h; rw [f_X1_copyFrom_2] at h; cases h
  | succ n ih =>
    intro v2 g w2 g2 h H locs ls hw hl kk
    rw [f_X1_copyFrom_2] at h
    refine lv_iload_n hC.x hC.b dX1_copyFrom_2 rfl (lv_at hl 0 rfl) ?_
    refine lv_bipush (v := (16 : Int32)) hC.x hC.b dX1_copyFrom_3 (by decide) ?_
    refine lv_icmp_ge (tgt := 50) hC.x hC.b dX1_copyFrom_5 (by decide) (fun hc => ?_) (fun hc => ?_)
    · have h := it_t h hc
      obtain ⟨rfl, rfl⟩ := sm2 h
      exact kk _ _ _ hw (lv_sub hl [0, 1, 2] rfl)
    · have h := it_f h hc
      refine lv_aload_n hC.x hC.b dX1_copyFrom_8 rfl (lv_at hl 2 rfl) ?_
      refine x_get hC hw (k := 0) (T := TX1) hn1 (k_E2 _ _ _) in_X1_copyFrom_X1 rfl (by decide) lk_X1_copyFrom_f11 rfl rfl dX1_copyFrom_9 ?_
      refine lv_iload_n hC.x hC.b dX1_copyFrom_12 rfl (lv_at hl 0 rfl) ?_
      obtain ⟨hg1, h⟩ := gd_t h
      have hr1 := k_ci_lt (t := 14) (i := n1) rfl hn1 hg1
      refine x_aald hC hw (t := 14) rfl (by decide) hn1 hg1 dX1_copyFrom_13 ?_
      refine lv_iconst (v := (0 : Int32)) hC.x hC.b dX1_copyFrom_14 (by decide) ?_
      refine lv_aload_n hC.x hC.b dX1_copyFrom_15 rfl (lv_at hl 1 rfl) ?_
      refine x_get hC hw (k := 0) (T := TX1) hn0 (k_E2 _ _ _) in_X1_copyFrom_X1 rfl (by decide) lk_X1_copyFrom_f11 rfl rfl dX1_copyFrom_16 ?_
      refine lv_iload_n hC.x hC.b dX1_copyFrom_19 rfl (lv_at hl 0 rfl) ?_
      obtain ⟨hg2, h⟩ := gd_t h
      have hr2 := k_ci_lt (t := 14) (i := n0) rfl hn0 hg2
      refine x_aald hC hw (t := 14) rfl (by decide) hn0 hg2 dX1_copyFrom_20 ?_
      refine lv_iconst (v := (0 : Int32)) hC.x hC.b dX1_copyFrom_21 (by decide) ?_
      refine lv_iconst (v := (4 : Int32)) hC.x hC.b dX1_copyFrom_22 (by decide) ?_
      refine x_copy hC hw hl.1 lk_X1_copyFrom_m29 lk_X1_copyFrom_nac lk_X1_copyFrom_sac lk_X1_copyFrom_iac rfl rfl hr1 hr2 (by decide) (by decide) (by decide) (by decide) (by decide) (Nat.le_of_ble_eq_true rfl) (Nat.le_of_ble_eq_true rfl) dX1_copyFrom_23 (fun H locs hw => ?_)
      refine lv_aload_n hC.x hC.b dX1_copyFrom_26 rfl (lv_at hl 2 rfl) ?_
      refine x_get hC hw (k := 1) (T := TX1) hn1 (k_E2 _ _ _) in_X1_copyFrom_X1 rfl (by decide) lk_X1_copyFrom_f16 rfl rfl dX1_copyFrom_27 ?_
      refine lv_iload_n hC.x hC.b dX1_copyFrom_30 rfl (lv_at hl 0 rfl) ?_
      obtain ⟨hg3, h⟩ := gd_t h
      have hr3 := k_ci_lt (t := 15) (i := n1) rfl hn1 hg3
      refine x_aald hC hw (t := 15) rfl (by decide) hn1 hg3 dX1_copyFrom_31 ?_
      refine lv_iconst (v := (0 : Int32)) hC.x hC.b dX1_copyFrom_32 (by decide) ?_
      refine lv_aload_n hC.x hC.b dX1_copyFrom_33 rfl (lv_at hl 1 rfl) ?_
      refine x_get hC hw (k := 1) (T := TX1) hn0 (k_E2 _ _ _) in_X1_copyFrom_X1 rfl (by decide) lk_X1_copyFrom_f16 rfl rfl dX1_copyFrom_34 ?_
      refine lv_iload_n hC.x hC.b dX1_copyFrom_37 rfl (lv_at hl 0 rfl) ?_
      obtain ⟨hg4, h⟩ := gd_t h
      have hr4 := k_ci_lt (t := 15) (i := n0) rfl hn0 hg4
      refine x_aald hC hw (t := 15) rfl (by decide) hn0 hg4 dX1_copyFrom_38 ?_
      refine lv_iconst (v := (0 : Int32)) hC.x hC.b dX1_copyFrom_39 (by decide) ?_
      refine lv_iconst (v := (4 : Int32)) hC.x hC.b dX1_copyFrom_40 (by decide) ?_
      refine x_copy hC hw hl.1 lk_X1_copyFrom_m29 lk_X1_copyFrom_nac lk_X1_copyFrom_sac lk_X1_copyFrom_iac rfl rfl hr3 hr4 (by decide) (by decide) (by decide) (by decide) (by decide) (Nat.le_of_ble_eq_true rfl) (Nat.le_of_ble_eq_true rfl) dX1_copyFrom_41 (fun H locs hw => ?_)
      refine lv_iinc (v := v2 + (1 : Int32)) (lv' := [(2, .int (v2 + (1 : Int32))), (0, .ref (k_ad Γ 2 (n0))), (1, .ref (k_ad Γ 2 (n1)))]) hC.x hC.b dX1_copyFrom_44 hl (k := 0) rfl rfl (by decide) rfl (fun ls hl => ?_)
      refine lv_goto (tgt := 2) hC.x hC.b dX1_copyFrom_47 (by decide) ?_
      exact ih _ _ _ _ h _ _ _ hw (lv_sub hl [0, 1, 2] rfl) kk

set_option maxRecDepth 100000 in
set_option maxHeartbeats 4000000 in
theorem c_X1_copyFrom {Γ : k_Pm} {l : Launch} (hl0 : l.stackTraces = false) {i0 : Nat} {i1 : Nat} (hi0 : i0 < 2) (hi1 : i1 < 2) {g : Gt} {g2 : Gt} (h : f_X1_copyFrom i0 i1 g = some (g2)) : k_CV Γ l yX1_copyFrom wsX1_copyFrom rm_X1_copyFrom [.ref (k_ad Γ 2 (i0)), .ref (k_ad Γ 2 (i1))] g g2 := by
  intro sz
  refine Met.ofW (cc := cX1_copyFrom) (maxL := 3) (ret := none) (by decide) rfl ?_
  intro p e s m args below meth c s₁ B hml hv
  obtain ⟨rfl, rfl, hP, hKS⟩ := hv
  have hr := B.returns
  have hlocks := B.notSynchronized
  have hC : k_C Γ (k_A Γ s.heap.size) p l s m _ c cX1_copyFrom 3 wsX1_copyFrom RX1 := k_C.of ⟨B.exec, B.bytes, hml, findClass_of_methodNamed B.named, atoms_spec (ws := wsX1_copyFrom) B.pre⟩ hKS hl0
  have hw : k_St Γ (k_A Γ s.heap.size) s [] g s.heap [] := k_St.of hKS hP
  have hl := lv_entry ([.ref (k_ad Γ 2 (i0)), .ref (k_ad Γ 2 (i1))] : List Value) (n := 3) (Nat.le_of_ble_eq_true rfl)
  rw [lg_entry_eq]
  generalize (lg_sl ([.ref (k_ad Γ 2 (i0)), .ref (k_ad Γ 2 (i1))] : List Value) ++ List.replicate (3 - (lg_sl ([.ref (k_ad Γ 2 (i0)), .ref (k_ad Γ 2 (i1))] : List Value)).length) Slot.unset).toArray = ls at hl ⊢
  have hl : lv_has ls 3 [(0, .ref (k_ad Γ 2 (i0))), (1, .ref (k_ad Γ 2 (i1)))] := hl
  change W p l e rm_X1_copyFrom _ _ _ _ _ _ _ _ _ _ _ _
  unfold f_X1_copyFrom at h
  refine lv_iconst (v := (0 : Int32)) hC.x hC.b dX1_copyFrom_0 (by decide) ?_
  refine lv_istore_n (lv' := [(2, .int ((0 : Int32))), (0, .ref (k_ad Γ 2 (i0))), (1, .ref (k_ad Γ 2 (i1)))]) hC.x hC.b dX1_copyFrom_1 rfl hl (by decide) rfl (fun ls hl => ?_)
  obtain ⟨w2_2, g2, hq, h⟩ := bd2_t h
  refine w_X1_copyFrom_2 hC ⟨by decide, by decide⟩ hi0 hi1 k_N _ _ _ _ hq _ _ _ hw (lv_sub hl [0, 1, 2] rfl) (fun H locs ls hw hl => ?_)
  obtain rfl := sm1 h
  exact x_vret hC hw hr hlocks (by decide) (by decide) dX1_copyFrom_50
abbrev rm_X1_frayCord : Room := { frames := 0, cells := 0, slots := 0, locals := 0 }
theorem in_X1_frayCord_X1 : ∀ w ∈ wsX10, w ∈ wsX1_frayCord := fun _ h => List.mem_cons_of_mem _ (List.mem_append_right _ (h))
set_option maxRecDepth 20000 in
theorem lk_X1_frayCord_f11 : Cond.fieldLink RX1 11 "KnotArchive$Knots" "tied" "[[I" ∈ wsX1_frayCord := by decide +kernel
set_option maxRecDepth 20000 in
theorem lk_X1_frayCord_f16 : Cond.fieldLink RX1 16 "KnotArchive$Knots" "frays" "[[I" ∈ wsX1_frayCord := by decide +kernel
set_option maxRecDepth 100000 in
set_option maxHeartbeats 4000000 in
theorem w_X1_frayCord_5 {Γ : k_Pm} {A0 : Nat → Prop} {p : Program} {l : Launch} {e : Env} {s : State} {m : MethodId} {args : Array Value} {below : List Frame} {meth : Method} {c : Code} {cells slots : Nat} {Q : State → Prop} {tmp : va_W} {n0 : Nat} {c1 : Int32} {c2 : Int32} (hC : k_C Γ A0 p l s m args c cX1_frayCord 5 wsX1_frayCord RX1) (hcs : cells ≤ rm_X1_frayCord.cells ∧ slots ≤ rm_X1_frayCord.slots) (hn0 : n0 < 2) : ∀ (n : Nat) (v3 : Int32) (v4 : Int32) (g : Gt) (w3 : Int32) (w4 : Int32) (g2 : Gt), f_X1_frayCord_5 n0 c1 c2 n v3 v4 g = some (w3, w4, g2) → ∀ (H : Heap) (locs : List Loc) (ls : Array Slot), k_St Γ A0 s tmp g H locs → lv_has ls 5 [(4, .int (v4)), (3, .int (v3)), (0, .ref (k_ad Γ 2 (n0))), (1, .int (c1)), (2, .int (c2))] → (∀ (H1 : Heap) (locs1 : List Loc) (ls1 : Array Slot), k_St Γ A0 s tmp g2 H1 locs1 → lv_has ls1 5 [(4, .int (w4)), (3, .int (w3)), (0, .ref (k_ad Γ 2 (n0))), (1, .int (c1)), (2, .int (c2))] → W p l e rm_X1_frayCord s m args below meth c H1 locs1 cells slots Q (F0 m 82 ls1 [])) → W p l e rm_X1_frayCord s m args below meth c H locs cells slots Q (F0 m 5 ls []) := by
  intro n
  induction n with
  | zero => intro v3 v4 g w3 w4 g2 h; rw [f_X1_frayCord_5] at h; cases h
  | succ n ih =>
    intro v3 v4 g w3 w4 g2 h H locs ls hw hl kk
    rw [f_X1_frayCord_5] at h
    refine lv_iload hC.x hC.b dX1_frayCord_5 (lv_at hl 0 rfl) ?_
    refine lv_iconst (v := (4 : Int32)) hC.x hC.b dX1_frayCord_7 (by decide) ?_
    refine lv_icmp_ge (tgt := 82) hC.x hC.b dX1_frayCord_8 (by decide) (fun hc => ?_) (fun hc => ?_)
    · have h := it_t h hc
      obtain ⟨rfl, rfl, rfl⟩ := sm3 h
      exact kk _ _ _ hw (lv_sub hl [0, 1, 2, 3, 4] rfl)
    · have h := it_f h hc
      refine lv_aload_n hC.x hC.b dX1_frayCord_11 rfl (lv_at hl 2 rfl) ?_
      refine x_get hC hw (k := 0) (T := TX1) hn0 (k_E2 _ _ _) in_X1_frayCord_X1 rfl (by decide) lk_X1_frayCord_f11 rfl rfl dX1_frayCord_12 ?_
      refine lv_iload_n hC.x hC.b dX1_frayCord_15 rfl (lv_at hl 3 rfl) ?_
      obtain ⟨hg1, h⟩ := gd_t h
      have hr1 := k_ci_lt (t := 14) (i := n0) rfl hn0 hg1
      refine x_aald hC hw (t := 14) rfl (by decide) hn0 hg1 dX1_frayCord_16 ?_
      refine lv_iload hC.x hC.b dX1_frayCord_17 (lv_at hl 0 rfl) ?_
      obtain ⟨hg2, h⟩ := gd_t h
      refine x_iald hC hw rfl hr1 hg2 dX1_frayCord_19 ?_
      refine lv_if_le (tgt := 76) hC.x hC.b dX1_frayCord_20 (by decide) (fun hc => ?_) (fun hc => ?_)
      · have h := it_t h hc
        refine lv_iinc (v := v4 + (1 : Int32)) (lv' := [(4, .int (v4 + (1 : Int32))), (3, .int (v3)), (0, .ref (k_ad Γ 2 (n0))), (1, .int (c1)), (2, .int (c2))]) hC.x hC.b dX1_frayCord_76 hl (k := 0) rfl rfl (by decide) rfl (fun ls hl => ?_)
        refine lv_goto (tgt := 5) hC.x hC.b dX1_frayCord_79 (by decide) ?_
        exact ih _ _ _ _ _ _ h _ _ _ hw (lv_sub hl [0, 1, 2, 3, 4] rfl) kk
      · have h := it_f h hc
        refine lv_aload_n hC.x hC.b dX1_frayCord_23 rfl (lv_at hl 2 rfl) ?_
        refine x_get hC hw (k := 1) (T := TX1) hn0 (k_E2 _ _ _) in_X1_frayCord_X1 rfl (by decide) lk_X1_frayCord_f16 rfl rfl dX1_frayCord_24 ?_
        refine lv_iload_n hC.x hC.b dX1_frayCord_27 rfl (lv_at hl 3 rfl) ?_
        obtain ⟨hg3, h⟩ := gd_t h
        have hr2 := k_ci_lt (t := 15) (i := n0) rfl hn0 hg3
        refine x_aald hC hw (t := 15) rfl (by decide) hn0 hg3 dX1_frayCord_28 ?_
        refine lv_iload hC.x hC.b dX1_frayCord_29 (lv_at hl 0 rfl) ?_
        refine lv_dup2_11 hC.x hC.b dX1_frayCord_31 rfl rfl ?_
        obtain ⟨hg4, h⟩ := gd_t h
        refine x_iald hC hw rfl hr2 hg4 dX1_frayCord_32 ?_
        refine lv_iload_n hC.x hC.b dX1_frayCord_33 rfl (lv_at hl 4 rfl) ?_
        refine lv_iadd hC.x hC.b dX1_frayCord_34 ?_
        obtain ⟨hg5, h⟩ := gd_t h
        refine x_iast hC hw rfl hr2 hg5 dX1_frayCord_35 (fun H locs hw => ?_)
        refine lv_aload_n hC.x hC.b dX1_frayCord_36 rfl (lv_at hl 2 rfl) ?_
        refine x_get hC hw (k := 1) (T := TX1) hn0 (k_E2 _ _ _) in_X1_frayCord_X1 rfl (by decide) lk_X1_frayCord_f16 rfl rfl dX1_frayCord_37 ?_
        refine lv_iload_n hC.x hC.b dX1_frayCord_40 rfl (lv_at hl 3 rfl) ?_
        obtain ⟨hg6, h⟩ := gd_t h
        have hr3 := k_ci_lt (t := 15) (i := n0) rfl hn0 hg6
        refine x_aald hC hw (t := 15) rfl (by decide) hn0 hg6 dX1_frayCord_41 ?_
        refine lv_iload hC.x hC.b dX1_frayCord_42 (lv_at hl 0 rfl) ?_
        obtain ⟨hg7, h⟩ := gd_t h
        refine x_iald hC hw rfl hr3 hg7 dX1_frayCord_44 ?_
        refine lv_bipush (v := (10 : Int32)) hC.x hC.b dX1_frayCord_45 (by decide) ?_
        refine lv_icmp_lt (tgt := 76) hC.x hC.b dX1_frayCord_47 (by decide) (fun hc => ?_) (fun hc => ?_)
        · have h := it_t h hc
          refine lv_iinc (v := v4 + (1 : Int32)) (lv' := [(4, .int (v4 + (1 : Int32))), (3, .int (v3)), (0, .ref (k_ad Γ 2 (n0))), (1, .int (c1)), (2, .int (c2))]) hC.x hC.b dX1_frayCord_76 hl (k := 0) rfl rfl (by decide) rfl (fun ls hl => ?_)
          refine lv_goto (tgt := 5) hC.x hC.b dX1_frayCord_79 (by decide) ?_
          exact ih _ _ _ _ _ _ h _ _ _ hw (lv_sub hl [0, 1, 2, 3, 4] rfl) kk
        · have h := it_f h hc
          refine lv_aload_n hC.x hC.b dX1_frayCord_50 rfl (lv_at hl 2 rfl) ?_
          refine x_get hC hw (k := 0) (T := TX1) hn0 (k_E2 _ _ _) in_X1_frayCord_X1 rfl (by decide) lk_X1_frayCord_f11 rfl rfl dX1_frayCord_51 ?_
          refine lv_iload_n hC.x hC.b dX1_frayCord_54 rfl (lv_at hl 3 rfl) ?_
          obtain ⟨hg8, h⟩ := gd_t h
          have hr4 := k_ci_lt (t := 14) (i := n0) rfl hn0 hg8
          refine x_aald hC hw (t := 14) rfl (by decide) hn0 hg8 dX1_frayCord_55 ?_
          refine lv_iload hC.x hC.b dX1_frayCord_56 (lv_at hl 0 rfl) ?_
          refine lv_dup2_11 hC.x hC.b dX1_frayCord_58 rfl rfl ?_
          obtain ⟨hg9, h⟩ := gd_t h
          refine x_iald hC hw rfl hr4 hg9 dX1_frayCord_59 ?_
          refine lv_iconst (v := (1 : Int32)) hC.x hC.b dX1_frayCord_60 (by decide) ?_
          refine lv_isub hC.x hC.b dX1_frayCord_61 ?_
          obtain ⟨hg10, h⟩ := gd_t h
          refine x_iast hC hw rfl hr4 hg10 dX1_frayCord_62 (fun H locs hw => ?_)
          refine lv_aload_n hC.x hC.b dX1_frayCord_63 rfl (lv_at hl 2 rfl) ?_
          refine x_get hC hw (k := 1) (T := TX1) hn0 (k_E2 _ _ _) in_X1_frayCord_X1 rfl (by decide) lk_X1_frayCord_f16 rfl rfl dX1_frayCord_64 ?_
          refine lv_iload_n hC.x hC.b dX1_frayCord_67 rfl (lv_at hl 3 rfl) ?_
          obtain ⟨hg11, h⟩ := gd_t h
          have hr5 := k_ci_lt (t := 15) (i := n0) rfl hn0 hg11
          refine x_aald hC hw (t := 15) rfl (by decide) hn0 hg11 dX1_frayCord_68 ?_
          refine lv_iload hC.x hC.b dX1_frayCord_69 (lv_at hl 0 rfl) ?_
          refine lv_iconst (v := (0 : Int32)) hC.x hC.b dX1_frayCord_71 (by decide) ?_
          obtain ⟨hg12, h⟩ := gd_t h
          refine x_iast hC hw rfl hr5 hg12 dX1_frayCord_72 (fun H locs hw => ?_)
          refine lv_iinc (v := v3 + (1 : Int32)) (lv' := [(3, .int (v3 + (1 : Int32))), (4, .int (v4)), (0, .ref (k_ad Γ 2 (n0))), (1, .int (c1)), (2, .int (c2))]) hC.x hC.b dX1_frayCord_73 hl (k := 1) rfl rfl (by decide) rfl (fun ls hl => ?_)
          refine lv_iinc (v := v4 + (1 : Int32)) (lv' := [(4, .int (v4 + (1 : Int32))), (3, .int (v3 + (1 : Int32))), (0, .ref (k_ad Γ 2 (n0))), (1, .int (c1)), (2, .int (c2))]) hC.x hC.b dX1_frayCord_76 hl (k := 1) rfl rfl (by decide) rfl (fun ls hl => ?_)
          refine lv_goto (tgt := 5) hC.x hC.b dX1_frayCord_79 (by decide) ?_
          exact ih _ _ _ _ _ _ h _ _ _ hw (lv_sub hl [0, 1, 2, 3, 4] rfl) kk

set_option maxRecDepth 100000 in
set_option maxHeartbeats 4000000 in
theorem c_X1_frayCord {Γ : k_Pm} {l : Launch} (hl0 : l.stackTraces = false) {i0 : Nat} {x1 : Int32} {x2 : Int32} (hi0 : i0 < 2) {g : Gt} {r : Int32} {g2 : Gt} (h : f_X1_frayCord i0 x1 x2 g = some (r, g2)) : k_CI Γ l yX1_frayCord wsX1_frayCord rm_X1_frayCord [.ref (k_ad Γ 2 (i0)), .int (x1), .int (x2)] g r g2 := by
  intro sz
  refine Met.ofW (cc := cX1_frayCord) (maxL := 5) (ret := (some .int)) (by decide) rfl ?_
  intro p e s m args below meth c s₁ B hml hv
  obtain ⟨rfl, rfl, hP, hKS⟩ := hv
  have hr := B.returns
  have hlocks := B.notSynchronized
  have hC : k_C Γ (k_A Γ s.heap.size) p l s m _ c cX1_frayCord 5 wsX1_frayCord RX1 := k_C.of ⟨B.exec, B.bytes, hml, findClass_of_methodNamed B.named, atoms_spec (ws := wsX1_frayCord) B.pre⟩ hKS hl0
  have hw : k_St Γ (k_A Γ s.heap.size) s [] g s.heap [] := k_St.of hKS hP
  have hl := lv_entry ([.ref (k_ad Γ 2 (i0)), .int (x1), .int (x2)] : List Value) (n := 5) (Nat.le_of_ble_eq_true rfl)
  rw [lg_entry_eq]
  generalize (lg_sl ([.ref (k_ad Γ 2 (i0)), .int (x1), .int (x2)] : List Value) ++ List.replicate (5 - (lg_sl ([.ref (k_ad Γ 2 (i0)), .int (x1), .int (x2)] : List Value)).length) Slot.unset).toArray = ls at hl ⊢
  have hl : lv_has ls 5 [(0, .ref (k_ad Γ 2 (i0))), (1, .int (x1)), (2, .int (x2))] := hl
  change W p l e rm_X1_frayCord _ _ _ _ _ _ _ _ _ _ _ _
  unfold f_X1_frayCord at h
  refine lv_iconst (v := (0 : Int32)) hC.x hC.b dX1_frayCord_0 (by decide) ?_
  refine lv_istore_n (lv' := [(3, .int ((0 : Int32))), (0, .ref (k_ad Γ 2 (i0))), (1, .int (x1)), (2, .int (x2))]) hC.x hC.b dX1_frayCord_1 rfl hl (by decide) rfl (fun ls hl => ?_)
  refine lv_iconst (v := (0 : Int32)) hC.x hC.b dX1_frayCord_2 (by decide) ?_
  refine lv_istore (lv' := [(4, .int ((0 : Int32))), (3, .int ((0 : Int32))), (0, .ref (k_ad Γ 2 (i0))), (1, .int (x1)), (2, .int (x2))]) hC.x hC.b dX1_frayCord_3 hl (by decide) rfl (fun ls hl => ?_)
  obtain ⟨w5_3, w5_4, g5, hq, h⟩ := bd3_t h
  refine w_X1_frayCord_5 hC ⟨by decide, by decide⟩ hi0 k_N _ _ _ _ _ _ hq _ _ _ hw (lv_sub hl [0, 1, 2, 3, 4] rfl) (fun H locs ls hw hl => ?_)
  refine lv_iload_n hC.x hC.b dX1_frayCord_82 rfl (lv_at hl 1 rfl) ?_
  obtain ⟨rfl, rfl⟩ := sm2 h
  exact x_iret hC hw hr hlocks (by decide) (by decide) dX1_frayCord_83
abbrev rm_X1_fray : Room := { frames := 1, cells := 0, slots := 0, locals := 24 }
theorem in_X1_fray_X0 : ∀ w ∈ wsX00, w ∈ wsX1_fray := fun _ h => List.mem_cons_of_mem _ (List.mem_append_left _ (List.mem_append_right _ (h)))
set_option maxRecDepth 100000 in
set_option maxHeartbeats 4000000 in
theorem w_X1_fray_14 {Γ : k_Pm} {A0 : Nat → Prop} {p : Program} {l : Launch} {e : Env} {s : State} {m : MethodId} {args : Array Value} {below : List Frame} {meth : Method} {c : Code} {cells slots : Nat} {Q : State → Prop} {tmp : va_W} {c4 : Int32} {n0 : Nat} {c2 : Int32} (hC : k_C Γ A0 p l s m args c cX1_fray 8 wsX1_fray RX1) (hcs : cells ≤ rm_X1_fray.cells ∧ slots ≤ rm_X1_fray.slots) (hn0 : n0 < 2) : ∀ (n : Nat) (v3 : Int32) (v5 : Int32) (g : Gt) (w3 : Int32) (w5 : Int32) (g2 : Gt), f_X1_fray_14 c4 n0 c2 n v3 v5 g = some (w3, w5, g2) → ∀ (H : Heap) (locs : List Loc) (ls : Array Slot), k_St Γ A0 s tmp g H locs → lv_has ls 8 [(5, .int (v5)), (4, .int (c4)), (3, .int (v3)), (0, .ref (k_ad Γ 2 (n0))), (1, .ref (k_ad Γ 1 (0))), (2, .int (c2))] → (∀ (H1 : Heap) (locs1 : List Loc) (ls1 : Array Slot), k_St Γ A0 s tmp g2 H1 locs1 → lv_has ls1 8 [(5, .int (w5)), (4, .int (c4)), (3, .int (w3)), (0, .ref (k_ad Γ 2 (n0))), (1, .ref (k_ad Γ 1 (0))), (2, .int (c2))] → W p l e rm_X1_fray s m args below meth c H1 locs1 cells slots Q (F0 m 68 ls1 [])) → W p l e rm_X1_fray s m args below meth c H locs cells slots Q (F0 m 14 ls []) := by
  intro n
  induction n with
  | zero => intro v3 v5 g w3 w5 g2 h; rw [f_X1_fray_14] at h; cases h
  | succ n ih =>
    intro v3 v5 g w3 w5 g2 h H locs ls hw hl kk
    rw [f_X1_fray_14] at h
    refine lv_iload hC.x hC.b dX1_fray_14 (lv_at hl 0 rfl) ?_
    refine lv_aload_n hC.x hC.b dX1_fray_16 rfl (lv_at hl 4 rfl) ?_
    refine x_getN hC hw (k := 4) (T := TX0) (by decide) (k_E1 _ _ _) in_X1_fray_X0 rfl (by decide) nw_f_X1_35 rfl rfl dX1_fray_17 ?_
    refine lv_icmp_ge (tgt := 68) hC.x hC.b dX1_fray_20 (by decide) (fun hc => ?_) (fun hc => ?_)
    · have h := it_t h hc
      obtain ⟨rfl, rfl, rfl⟩ := sm3 h
      exact kk _ _ _ hw (lv_sub hl [0, 1, 2, 3, 4, 5] rfl)
    · have h := it_f h hc
      refine lv_aload_n hC.x hC.b dX1_fray_23 rfl (lv_at hl 4 rfl) ?_
      refine x_getN hC hw (k := 1) (T := TX0) (by decide) (k_E1 _ _ _) in_X1_fray_X0 rfl (by decide) nw_f_X1_41 rfl rfl dX1_fray_24 ?_
      refine lv_iload hC.x hC.b dX1_fray_27 (lv_at hl 0 rfl) ?_
      obtain ⟨hg1, h⟩ := gd_t h
      refine x_iald hC hw rfl (by decide) hg1 dX1_fray_29 ?_
      refine lv_istore (lv' := [(6, .int (g 11 0 v5.toNatClampNeg)), (5, .int (v5)), (4, .int (c4)), (3, .int (v3)), (0, .ref (k_ad Γ 2 (n0))), (1, .ref (k_ad Γ 1 (0))), (2, .int (c2))]) hC.x hC.b dX1_fray_30 hl (by decide) rfl (fun ls hl => ?_)
      refine lv_iload hC.x hC.b dX1_fray_32 (lv_at hl 0 rfl) ?_
      refine lv_iconst (v := (2 : Int32)) hC.x hC.b dX1_fray_34 (by decide) ?_
      refine lv_icmp_eq (tgt := 44) hC.x hC.b dX1_fray_35 (by decide) (fun hc => ?_) (fun hc => ?_)
      · have h := it_t h hc
        refine lv_iconst (v := (2 : Int32)) hC.x hC.b dX1_fray_44 (by decide) ?_
        refine lv_goto (tgt := 49) hC.x hC.b dX1_fray_45 (by decide) ?_
        refine lv_istore (lv' := [(7, .int ((2 : Int32))), (6, .int (g 11 0 v5.toNatClampNeg)), (5, .int (v5)), (4, .int (c4)), (3, .int (v3)), (0, .ref (k_ad Γ 2 (n0))), (1, .ref (k_ad Γ 1 (0))), (2, .int (c2))]) hC.x hC.b dX1_fray_49 hl (by decide) rfl (fun ls hl => ?_)
        refine lv_iload_n hC.x hC.b dX1_fray_51 rfl (lv_at hl 4 rfl) ?_
        refine lv_aload_n hC.x hC.b dX1_fray_52 rfl (lv_at hl 5 rfl) ?_
        refine lv_iload hC.x hC.b dX1_fray_53 (lv_at hl 2 rfl) ?_
        refine lv_iload hC.x hC.b dX1_fray_55 (lv_at hl 0 rfl) ?_
        obtain ⟨r57, g57, hq, h⟩ := bd2_t h
        refine x_goi hC hw (x_runV hC hw (c_X1_frayCord (Γ := Γ) (l := l) hC.2.2.2.2 hn0 hq) (cwV 2 hC.t gX1_fray_X1_frayCord rfl rfl rfl (by decide +kernel) ⟨Nat.le_of_ble_eq_true rfl, Nat.le_of_ble_eq_true rfl⟩) (As := [.int (v5), .int ((2 : Int32))]) hn0 (k_E2 _ _ _) rfl rfl rfl hl.1 (Nat.le_of_ble_eq_true rfl) dX1_fray_57 hcs) (fun H locs hw => ?_)
        refine lv_iadd hC.x hC.b dX1_fray_60 ?_
        refine lv_istore_n (lv' := [(3, .int (v3 + r57)), (7, .int ((2 : Int32))), (6, .int (g 11 0 v5.toNatClampNeg)), (5, .int (v5)), (4, .int (c4)), (0, .ref (k_ad Γ 2 (n0))), (1, .ref (k_ad Γ 1 (0))), (2, .int (c2))]) hC.x hC.b dX1_fray_61 rfl hl (by decide) rfl (fun ls hl => ?_)
        refine lv_iinc (v := v5 + (1 : Int32)) (lv' := [(5, .int (v5 + (1 : Int32))), (3, .int (v3 + r57)), (7, .int ((2 : Int32))), (6, .int (g 11 0 v5.toNatClampNeg)), (4, .int (c4)), (0, .ref (k_ad Γ 2 (n0))), (1, .ref (k_ad Γ 1 (0))), (2, .int (c2))]) hC.x hC.b dX1_fray_62 hl (k := 3) rfl rfl (by decide) rfl (fun ls hl => ?_)
        refine lv_goto (tgt := 14) hC.x hC.b dX1_fray_65 (by decide) ?_
        exact ih _ _ _ _ _ _ h _ _ _ hw (lv_sub hl [0, 4, 1, 5, 6, 7] rfl) kk
      · have h := it_f h hc
        refine lv_iload hC.x hC.b dX1_fray_38 (lv_at hl 0 rfl) ?_
        refine lv_iconst (v := (4 : Int32)) hC.x hC.b dX1_fray_40 (by decide) ?_
        refine lv_icmp_ne (tgt := 48) hC.x hC.b dX1_fray_41 (by decide) (fun hc => ?_) (fun hc => ?_)
        · have h := it_f h hc
          refine lv_iconst (v := (1 : Int32)) hC.x hC.b dX1_fray_48 (by decide) ?_
          refine lv_istore (lv' := [(7, .int ((1 : Int32))), (6, .int (g 11 0 v5.toNatClampNeg)), (5, .int (v5)), (4, .int (c4)), (3, .int (v3)), (0, .ref (k_ad Γ 2 (n0))), (1, .ref (k_ad Γ 1 (0))), (2, .int (c2))]) hC.x hC.b dX1_fray_49 hl (by decide) rfl (fun ls hl => ?_)
          refine lv_iload_n hC.x hC.b dX1_fray_51 rfl (lv_at hl 4 rfl) ?_
          refine lv_aload_n hC.x hC.b dX1_fray_52 rfl (lv_at hl 5 rfl) ?_
          refine lv_iload hC.x hC.b dX1_fray_53 (lv_at hl 2 rfl) ?_
          refine lv_iload hC.x hC.b dX1_fray_55 (lv_at hl 0 rfl) ?_
          obtain ⟨r57, g57, hq, h⟩ := bd2_t h
          refine x_goi hC hw (x_runV hC hw (c_X1_frayCord (Γ := Γ) (l := l) hC.2.2.2.2 hn0 hq) (cwV 2 hC.t gX1_fray_X1_frayCord rfl rfl rfl (by decide +kernel) ⟨Nat.le_of_ble_eq_true rfl, Nat.le_of_ble_eq_true rfl⟩) (As := [.int (v5), .int ((1 : Int32))]) hn0 (k_E2 _ _ _) rfl rfl rfl hl.1 (Nat.le_of_ble_eq_true rfl) dX1_fray_57 hcs) (fun H locs hw => ?_)
          refine lv_iadd hC.x hC.b dX1_fray_60 ?_
          refine lv_istore_n (lv' := [(3, .int (v3 + r57)), (7, .int ((1 : Int32))), (6, .int (g 11 0 v5.toNatClampNeg)), (5, .int (v5)), (4, .int (c4)), (0, .ref (k_ad Γ 2 (n0))), (1, .ref (k_ad Γ 1 (0))), (2, .int (c2))]) hC.x hC.b dX1_fray_61 rfl hl (by decide) rfl (fun ls hl => ?_)
          refine lv_iinc (v := v5 + (1 : Int32)) (lv' := [(5, .int (v5 + (1 : Int32))), (3, .int (v3 + r57)), (7, .int ((1 : Int32))), (6, .int (g 11 0 v5.toNatClampNeg)), (4, .int (c4)), (0, .ref (k_ad Γ 2 (n0))), (1, .ref (k_ad Γ 1 (0))), (2, .int (c2))]) hC.x hC.b dX1_fray_62 hl (k := 3) rfl rfl (by decide) rfl (fun ls hl => ?_)
          refine lv_goto (tgt := 14) hC.x hC.b dX1_fray_65 (by decide) ?_
          exact ih _ _ _ _ _ _ h _ _ _ hw (lv_sub hl [0, 4, 1, 5, 6, 7] rfl) kk
        · have h := it_t h hc
          refine lv_iconst (v := (2 : Int32)) hC.x hC.b dX1_fray_44 (by decide) ?_
          refine lv_goto (tgt := 49) hC.x hC.b dX1_fray_45 (by decide) ?_
          refine lv_istore (lv' := [(7, .int ((2 : Int32))), (6, .int (g 11 0 v5.toNatClampNeg)), (5, .int (v5)), (4, .int (c4)), (3, .int (v3)), (0, .ref (k_ad Γ 2 (n0))), (1, .ref (k_ad Γ 1 (0))), (2, .int (c2))]) hC.x hC.b dX1_fray_49 hl (by decide) rfl (fun ls hl => ?_)
          refine lv_iload_n hC.x hC.b dX1_fray_51 rfl (lv_at hl 4 rfl) ?_
          refine lv_aload_n hC.x hC.b dX1_fray_52 rfl (lv_at hl 5 rfl) ?_
          refine lv_iload hC.x hC.b dX1_fray_53 (lv_at hl 2 rfl) ?_
          refine lv_iload hC.x hC.b dX1_fray_55 (lv_at hl 0 rfl) ?_
          obtain ⟨r57, g57, hq, h⟩ := bd2_t h
          refine x_goi hC hw (x_runV hC hw (c_X1_frayCord (Γ := Γ) (l := l) hC.2.2.2.2 hn0 hq) (cwV 2 hC.t gX1_fray_X1_frayCord rfl rfl rfl (by decide +kernel) ⟨Nat.le_of_ble_eq_true rfl, Nat.le_of_ble_eq_true rfl⟩) (As := [.int (v5), .int ((2 : Int32))]) hn0 (k_E2 _ _ _) rfl rfl rfl hl.1 (Nat.le_of_ble_eq_true rfl) dX1_fray_57 hcs) (fun H locs hw => ?_)
          refine lv_iadd hC.x hC.b dX1_fray_60 ?_
          refine lv_istore_n (lv' := [(3, .int (v3 + r57)), (7, .int ((2 : Int32))), (6, .int (g 11 0 v5.toNatClampNeg)), (5, .int (v5)), (4, .int (c4)), (0, .ref (k_ad Γ 2 (n0))), (1, .ref (k_ad Γ 1 (0))), (2, .int (c2))]) hC.x hC.b dX1_fray_61 rfl hl (by decide) rfl (fun ls hl => ?_)
          refine lv_iinc (v := v5 + (1 : Int32)) (lv' := [(5, .int (v5 + (1 : Int32))), (3, .int (v3 + r57)), (7, .int ((2 : Int32))), (6, .int (g 11 0 v5.toNatClampNeg)), (4, .int (c4)), (0, .ref (k_ad Γ 2 (n0))), (1, .ref (k_ad Γ 1 (0))), (2, .int (c2))]) hC.x hC.b dX1_fray_62 hl (k := 3) rfl rfl (by decide) rfl (fun ls hl => ?_)
          refine lv_goto (tgt := 14) hC.x hC.b dX1_fray_65 (by decide) ?_
          exact ih _ _ _ _ _ _ h _ _ _ hw (lv_sub hl [0, 4, 1, 5, 6, 7] rfl) kk

set_option maxRecDepth 100000 in
set_option maxHeartbeats 4000000 in
theorem w_X1_fray_5 {Γ : k_Pm} {A0 : Nat → Prop} {p : Program} {l : Launch} {e : Env} {s : State} {m : MethodId} {args : Array Value} {below : List Frame} {meth : Method} {c : Code} {cells slots : Nat} {Q : State → Prop} {tmp : va_W} {n0 : Nat} {c2 : Int32} (hC : k_C Γ A0 p l s m args c cX1_fray 8 wsX1_fray RX1) (hcs : cells ≤ rm_X1_fray.cells ∧ slots ≤ rm_X1_fray.slots) (hn0 : n0 < 2) : ∀ (n : Nat) (v3 : Int32) (v4 : Int32) (g : Gt) (w3 : Int32) (w4 : Int32) (g2 : Gt), f_X1_fray_5 n0 c2 n v3 v4 g = some (w3, w4, g2) → ∀ (H : Heap) (locs : List Loc) (ls : Array Slot), k_St Γ A0 s tmp g H locs → lv_has ls 8 [(4, .int (v4)), (3, .int (v3)), (0, .ref (k_ad Γ 2 (n0))), (1, .ref (k_ad Γ 1 (0))), (2, .int (c2))] → (∀ (H1 : Heap) (locs1 : List Loc) (ls1 : Array Slot), k_St Γ A0 s tmp g2 H1 locs1 → lv_has ls1 8 [(4, .int (w4)), (3, .int (w3)), (0, .ref (k_ad Γ 2 (n0))), (1, .ref (k_ad Γ 1 (0))), (2, .int (c2))] → W p l e rm_X1_fray s m args below meth c H1 locs1 cells slots Q (F0 m 74 ls1 [])) → W p l e rm_X1_fray s m args below meth c H locs cells slots Q (F0 m 5 ls []) := by
  intro n
  induction n with
  | zero => intro v3 v4 g w3 w4 g2 h; rw [f_X1_fray_5] at h; cases h
  | succ n ih =>
    intro v3 v4 g w3 w4 g2 h H locs ls hw hl kk
    rw [f_X1_fray_5] at h
    refine lv_iload hC.x hC.b dX1_fray_5 (lv_at hl 0 rfl) ?_
    refine lv_iload_n hC.x hC.b dX1_fray_7 rfl (lv_at hl 4 rfl) ?_
    refine lv_icmp_ge (tgt := 74) hC.x hC.b dX1_fray_8 (by decide) (fun hc => ?_) (fun hc => ?_)
    · have h := it_t h hc
      obtain ⟨rfl, rfl, rfl⟩ := sm3 h
      exact kk _ _ _ hw (lv_sub hl [0, 1, 2, 3, 4] rfl)
    · have h := it_f h hc
      refine lv_iconst (v := (0 : Int32)) hC.x hC.b dX1_fray_11 (by decide) ?_
      refine lv_istore (lv' := [(5, .int ((0 : Int32))), (4, .int (v4)), (3, .int (v3)), (0, .ref (k_ad Γ 2 (n0))), (1, .ref (k_ad Γ 1 (0))), (2, .int (c2))]) hC.x hC.b dX1_fray_12 hl (by decide) rfl (fun ls hl => ?_)
      obtain ⟨w14_3, w14_5, g14, hq, h⟩ := bd3_t h
      refine w_X1_fray_14 hC hcs hn0 k_N _ _ _ _ _ _ hq _ _ _ hw (lv_sub hl [0, 1, 2, 3, 4, 5] rfl) (fun H locs ls hw hl => ?_)
      refine lv_iinc (v := v4 + (1 : Int32)) (lv' := [(4, .int (v4 + (1 : Int32))), (5, .int (w14_5)), (3, .int (w14_3)), (0, .ref (k_ad Γ 2 (n0))), (1, .ref (k_ad Γ 1 (0))), (2, .int (c2))]) hC.x hC.b dX1_fray_68 hl (k := 1) rfl rfl (by decide) rfl (fun ls hl => ?_)
      refine lv_goto (tgt := 5) hC.x hC.b dX1_fray_71 (by decide) ?_
      exact ih _ _ _ _ _ _ h _ _ _ hw (lv_sub hl [0, 2, 3, 4, 5] rfl) kk

set_option maxRecDepth 100000 in
set_option maxHeartbeats 4000000 in
theorem c_X1_fray {Γ : k_Pm} {l : Launch} (hl0 : l.stackTraces = false) {i0 : Nat} {x2 : Int32} (hi0 : i0 < 2) {g : Gt} {r : Int32} {g2 : Gt} (h : f_X1_fray i0 x2 g = some (r, g2)) : k_CI Γ l yX1_fray wsX1_fray rm_X1_fray [.ref (k_ad Γ 2 (i0)), .ref (k_ad Γ 1 (0)), .int (x2)] g r g2 := by
  intro sz
  refine Met.ofW (cc := cX1_fray) (maxL := 8) (ret := (some .int)) (by decide) rfl ?_
  intro p e s m args below meth c s₁ B hml hv
  obtain ⟨rfl, rfl, hP, hKS⟩ := hv
  have hr := B.returns
  have hlocks := B.notSynchronized
  have hC : k_C Γ (k_A Γ s.heap.size) p l s m _ c cX1_fray 8 wsX1_fray RX1 := k_C.of ⟨B.exec, B.bytes, hml, findClass_of_methodNamed B.named, atoms_spec (ws := wsX1_fray) B.pre⟩ hKS hl0
  have hw : k_St Γ (k_A Γ s.heap.size) s [] g s.heap [] := k_St.of hKS hP
  have hl := lv_entry ([.ref (k_ad Γ 2 (i0)), .ref (k_ad Γ 1 (0)), .int (x2)] : List Value) (n := 8) (Nat.le_of_ble_eq_true rfl)
  rw [lg_entry_eq]
  generalize (lg_sl ([.ref (k_ad Γ 2 (i0)), .ref (k_ad Γ 1 (0)), .int (x2)] : List Value) ++ List.replicate (8 - (lg_sl ([.ref (k_ad Γ 2 (i0)), .ref (k_ad Γ 1 (0)), .int (x2)] : List Value)).length) Slot.unset).toArray = ls at hl ⊢
  have hl : lv_has ls 8 [(0, .ref (k_ad Γ 2 (i0))), (1, .ref (k_ad Γ 1 (0))), (2, .int (x2))] := hl
  change W p l e rm_X1_fray _ _ _ _ _ _ _ _ _ _ _ _
  unfold f_X1_fray at h
  refine lv_iconst (v := (0 : Int32)) hC.x hC.b dX1_fray_0 (by decide) ?_
  refine lv_istore_n (lv' := [(3, .int ((0 : Int32))), (0, .ref (k_ad Γ 2 (i0))), (1, .ref (k_ad Γ 1 (0))), (2, .int (x2))]) hC.x hC.b dX1_fray_1 rfl hl (by decide) rfl (fun ls hl => ?_)
  refine lv_iconst (v := (0 : Int32)) hC.x hC.b dX1_fray_2 (by decide) ?_
  refine lv_istore (lv' := [(4, .int ((0 : Int32))), (3, .int ((0 : Int32))), (0, .ref (k_ad Γ 2 (i0))), (1, .ref (k_ad Γ 1 (0))), (2, .int (x2))]) hC.x hC.b dX1_fray_3 hl (by decide) rfl (fun ls hl => ?_)
  obtain ⟨w5_3, w5_4, g5, hq, h⟩ := bd3_t h
  refine w_X1_fray_5 hC ⟨by decide, by decide⟩ hi0 k_N _ _ _ _ _ _ hq _ _ _ hw (lv_sub hl [0, 1, 2, 3, 4] rfl) (fun H locs ls hw hl => ?_)
  refine lv_iload_n hC.x hC.b dX1_fray_74 rfl (lv_at hl 1 rfl) ?_
  obtain ⟨rfl, rfl⟩ := sm2 h
  exact x_iret hC hw hr hlocks (by decide) (by decide) dX1_fray_75
abbrev rm_X2_write : Room := { frames := 0, cells := 0, slots := 0, locals := 0 }
theorem in_X2_write_X2 : ∀ w ∈ wsX20, w ∈ wsX2_write := fun _ h => List.mem_cons_of_mem _ (List.mem_append_right _ (h))
set_option maxRecDepth 20000 in
theorem lk_X2_write_f11 : Cond.fieldLink RX2 11 "KnotArchive$Untyings" "rows" "[[I" ∈ wsX2_write := by decide +kernel
set_option maxRecDepth 20000 in
theorem lk_X2_write_f16 : Cond.fieldLink RX2 16 "KnotArchive$Untyings" "size" "I" ∈ wsX2_write := by decide +kernel
set_option maxRecDepth 100000 in
set_option maxHeartbeats 4000000 in
theorem c_X2_write {Γ : k_Pm} {l : Launch} (hl0 : l.stackTraces = false) {x1 : Int32} {x2 : Int32} {x3 : Int32} {x4 : Int32} {x5 : Int32}  {g : Gt} {g2 : Gt} (h : f_X2_write x1 x2 x3 x4 x5 g = some (g2)) : k_CV Γ l yX2_write wsX2_write rm_X2_write [.ref (k_ad Γ 4 (0)), .int (x1), .int (x2), .int (x3), .int (x4), .int (x5)] g g2 := by
  intro sz
  refine Met.ofW (cc := cX2_write) (maxL := 7) (ret := none) (by decide) rfl ?_
  intro p e s m args below meth c s₁ B hml hv
  obtain ⟨rfl, rfl, hP, hKS⟩ := hv
  have hr := B.returns
  have hlocks := B.notSynchronized
  have hC : k_C Γ (k_A Γ s.heap.size) p l s m _ c cX2_write 7 wsX2_write RX2 := k_C.of ⟨B.exec, B.bytes, hml, findClass_of_methodNamed B.named, atoms_spec (ws := wsX2_write) B.pre⟩ hKS hl0
  have hw : k_St Γ (k_A Γ s.heap.size) s [] g s.heap [] := k_St.of hKS hP
  have hl := lv_entry ([.ref (k_ad Γ 4 (0)), .int (x1), .int (x2), .int (x3), .int (x4), .int (x5)] : List Value) (n := 7) (Nat.le_of_ble_eq_true rfl)
  rw [lg_entry_eq]
  generalize (lg_sl ([.ref (k_ad Γ 4 (0)), .int (x1), .int (x2), .int (x3), .int (x4), .int (x5)] : List Value) ++ List.replicate (7 - (lg_sl ([.ref (k_ad Γ 4 (0)), .int (x1), .int (x2), .int (x3), .int (x4), .int (x5)] : List Value)).length) Slot.unset).toArray = ls at hl ⊢
  have hl : lv_has ls 7 [(0, .ref (k_ad Γ 4 (0))), (1, .int (x1)), (2, .int (x2)), (3, .int (x3)), (4, .int (x4)), (5, .int (x5))] := hl
  change W p l e rm_X2_write _ _ _ _ _ _ _ _ _ _ _ _
  unfold f_X2_write at h
  refine lv_aload_n hC.x hC.b dX2_write_0 rfl (lv_at hl 0 rfl) ?_
  refine x_get hC hw (k := 0) (T := TX2) (by decide) (k_E4 _ _ _) in_X2_write_X2 rfl (by decide) lk_X2_write_f11 rfl rfl dX2_write_1 ?_
  refine lv_aload_n hC.x hC.b dX2_write_4 rfl (lv_at hl 0 rfl) ?_
  refine x_get hC hw (k := 1) (T := TX2) (by decide) (k_E4 _ _ _) in_X2_write_X2 rfl (by decide) lk_X2_write_f16 rfl rfl dX2_write_5 ?_
  obtain ⟨hg1, h⟩ := gd_t h
  have hr1 := k_ci_lt (t := 19) (i := 0) rfl (by decide) hg1
  refine x_aald hC hw (t := 19) rfl (by decide) (by decide) hg1 dX2_write_8 ?_
  refine lv_astore (lv' := [(6, .ref (k_ad Γ 24 ((g 4 0 1).toNatClampNeg))), (0, .ref (k_ad Γ 4 (0))), (1, .int (x1)), (2, .int (x2)), (3, .int (x3)), (4, .int (x4)), (5, .int (x5))]) hC.x hC.b dX2_write_9 hl (by decide) rfl (fun ls hl => ?_)
  refine lv_aload hC.x hC.b dX2_write_11 (lv_at hl 0 rfl) ?_
  refine lv_iconst (v := (0 : Int32)) hC.x hC.b dX2_write_13 (by decide) ?_
  refine lv_iload_n hC.x hC.b dX2_write_14 rfl (lv_at hl 2 rfl) ?_
  refine x_iast hC hw rfl hr1 (by decide) dX2_write_15 (fun H locs hw => ?_)
  refine lv_aload hC.x hC.b dX2_write_16 (lv_at hl 0 rfl) ?_
  refine lv_iconst (v := (1 : Int32)) hC.x hC.b dX2_write_18 (by decide) ?_
  refine lv_iload_n hC.x hC.b dX2_write_19 rfl (lv_at hl 3 rfl) ?_
  refine x_iast hC hw rfl hr1 (by decide) dX2_write_20 (fun H locs hw => ?_)
  refine lv_aload hC.x hC.b dX2_write_21 (lv_at hl 0 rfl) ?_
  refine lv_iconst (v := (2 : Int32)) hC.x hC.b dX2_write_23 (by decide) ?_
  refine lv_iload_n hC.x hC.b dX2_write_24 rfl (lv_at hl 4 rfl) ?_
  refine x_iast hC hw rfl hr1 (by decide) dX2_write_25 (fun H locs hw => ?_)
  refine lv_aload hC.x hC.b dX2_write_26 (lv_at hl 0 rfl) ?_
  refine lv_iconst (v := (3 : Int32)) hC.x hC.b dX2_write_28 (by decide) ?_
  refine lv_iload hC.x hC.b dX2_write_29 (lv_at hl 5 rfl) ?_
  refine x_iast hC hw rfl hr1 (by decide) dX2_write_31 (fun H locs hw => ?_)
  refine lv_aload hC.x hC.b dX2_write_32 (lv_at hl 0 rfl) ?_
  refine lv_iconst (v := (4 : Int32)) hC.x hC.b dX2_write_34 (by decide) ?_
  refine lv_iload hC.x hC.b dX2_write_35 (lv_at hl 6 rfl) ?_
  refine x_iast hC hw rfl hr1 (by decide) dX2_write_37 (fun H locs hw => ?_)
  refine lv_aload_n hC.x hC.b dX2_write_38 rfl (lv_at hl 1 rfl) ?_
  refine lv_dup hC.x hC.b dX2_write_39 rfl ?_
  refine x_get hC hw (k := 1) (T := TX2) (by decide) (k_E4 _ _ _) in_X2_write_X2 rfl (by decide) lk_X2_write_f16 rfl rfl dX2_write_40 ?_
  refine lv_iconst (v := (1 : Int32)) hC.x hC.b dX2_write_43 (by decide) ?_
  refine lv_iadd hC.x hC.b dX2_write_44 ?_
  refine x_puti hC hw (k := 1) (T := TX2) (by decide) (k_E4 _ _ _) in_X2_write_X2 rfl (by decide) lk_X2_write_f16 rfl tyX2 tyX2_ok nmX2 rfl (by decide +kernel) (Nat.le_of_ble_eq_true rfl) (by rw [k_E4]; rfl) dX2_write_45 (fun H locs hw => ?_)
  obtain rfl := sm1 h
  exact x_vret hC hw hr hlocks (by decide) (by decide) dX2_write_48
abbrev rm_X3_keep : Room := { frames := 0, cells := 0, slots := 0, locals := 0 }
theorem in_X3_keep_X3 : ∀ w ∈ wsX30, w ∈ wsX3_keep := fun _ h => List.mem_cons_of_mem _ (List.mem_append_right _ (h))
set_option maxRecDepth 20000 in
theorem lk_X3_keep_f17 : Cond.fieldLink RX3 17 "KnotArchive$Witnesses" "numbers" "[[I" ∈ wsX3_keep := by decide +kernel
set_option maxRecDepth 20000 in
theorem lk_X3_keep_f20 : Cond.fieldLink RX3 20 "KnotArchive$Witnesses" "years" "[[I" ∈ wsX3_keep := by decide +kernel
set_option maxRecDepth 100000 in
set_option maxHeartbeats 4000000 in
theorem c_X3_keep {Γ : k_Pm} {l : Launch} (hl0 : l.stackTraces = false) {x1 : Int32} {x2 : Int32} {x3 : Int32} {x4 : Int32}  {g : Gt} {g2 : Gt} (h : f_X3_keep x1 x2 x3 x4 g = some (g2)) : k_CV Γ l yX3_keep wsX3_keep rm_X3_keep [.ref (k_ad Γ 3 (0)), .int (x1), .int (x2), .int (x3), .int (x4)] g g2 := by
  intro sz
  refine Met.ofW (cc := cX3_keep) (maxL := 5) (ret := none) (by decide) rfl ?_
  intro p e s m args below meth c s₁ B hml hv
  obtain ⟨rfl, rfl, hP, hKS⟩ := hv
  have hr := B.returns
  have hlocks := B.notSynchronized
  have hC : k_C Γ (k_A Γ s.heap.size) p l s m _ c cX3_keep 5 wsX3_keep RX3 := k_C.of ⟨B.exec, B.bytes, hml, findClass_of_methodNamed B.named, atoms_spec (ws := wsX3_keep) B.pre⟩ hKS hl0
  have hw : k_St Γ (k_A Γ s.heap.size) s [] g s.heap [] := k_St.of hKS hP
  have hl := lv_entry ([.ref (k_ad Γ 3 (0)), .int (x1), .int (x2), .int (x3), .int (x4)] : List Value) (n := 5) (Nat.le_of_ble_eq_true rfl)
  rw [lg_entry_eq]
  generalize (lg_sl ([.ref (k_ad Γ 3 (0)), .int (x1), .int (x2), .int (x3), .int (x4)] : List Value) ++ List.replicate (5 - (lg_sl ([.ref (k_ad Γ 3 (0)), .int (x1), .int (x2), .int (x3), .int (x4)] : List Value)).length) Slot.unset).toArray = ls at hl ⊢
  have hl : lv_has ls 5 [(0, .ref (k_ad Γ 3 (0))), (1, .int (x1)), (2, .int (x2)), (3, .int (x3)), (4, .int (x4))] := hl
  change W p l e rm_X3_keep _ _ _ _ _ _ _ _ _ _ _ _
  unfold f_X3_keep at h
  refine lv_aload_n hC.x hC.b dX3_keep_0 rfl (lv_at hl 0 rfl) ?_
  refine x_get hC hw (k := 1) (T := TX3) (by decide) (k_E3 _ _ _) in_X3_keep_X3 rfl (by decide) lk_X3_keep_f17 rfl rfl dX3_keep_1 ?_
  refine lv_iload_n hC.x hC.b dX3_keep_4 rfl (lv_at hl 1 rfl) ?_
  obtain ⟨hg1, h⟩ := gd_t h
  have hr1 := k_ci_lt (t := 17) (i := 0) rfl (by decide) hg1
  refine x_aald hC hw (t := 17) rfl (by decide) (by decide) hg1 dX3_keep_5 ?_
  refine lv_iload_n hC.x hC.b dX3_keep_6 rfl (lv_at hl 2 rfl) ?_
  refine lv_iload_n hC.x hC.b dX3_keep_7 rfl (lv_at hl 3 rfl) ?_
  obtain ⟨hg2, h⟩ := gd_t h
  refine x_iast hC hw rfl hr1 hg2 dX3_keep_8 (fun H locs hw => ?_)
  refine lv_aload_n hC.x hC.b dX3_keep_9 rfl (lv_at hl 0 rfl) ?_
  refine x_get hC hw (k := 2) (T := TX3) (by decide) (k_E3 _ _ _) in_X3_keep_X3 rfl (by decide) lk_X3_keep_f20 rfl rfl dX3_keep_10 ?_
  refine lv_iload_n hC.x hC.b dX3_keep_13 rfl (lv_at hl 1 rfl) ?_
  obtain ⟨hg3, h⟩ := gd_t h
  have hr2 := k_ci_lt (t := 18) (i := 0) rfl (by decide) hg3
  refine x_aald hC hw (t := 18) rfl (by decide) (by decide) hg3 dX3_keep_14 ?_
  refine lv_iload_n hC.x hC.b dX3_keep_15 rfl (lv_at hl 2 rfl) ?_
  refine lv_iload hC.x hC.b dX3_keep_16 (lv_at hl 4 rfl) ?_
  obtain ⟨hg4, h⟩ := gd_t h
  refine x_iast hC hw rfl hr2 hg4 dX3_keep_18 (fun H locs hw => ?_)
  obtain rfl := sm1 h
  exact x_vret hC hw hr hlocks (by decide) (by decide) dX3_keep_19
abbrev rm_X3_add : Room := { frames := 1, cells := 0, slots := 0, locals := 24 }
theorem in_X3_add_X3 : ∀ w ∈ wsX30, w ∈ wsX3_add := fun _ h => List.mem_cons_of_mem _ (List.mem_append_right _ (h))
set_option maxRecDepth 20000 in
theorem lk_X3_add_f23 : Cond.fieldLink RX3 23 "KnotArchive$Witnesses" "size" "I" ∈ wsX3_add := by decide +kernel
set_option maxRecDepth 20000 in
theorem lk_X3_add_f9 : Cond.fieldLink RX3 9 "KnotArchive$Witnesses" "trusts" "[I" ∈ wsX3_add := by decide +kernel
set_option maxRecDepth 100000 in
set_option maxHeartbeats 4000000 in
theorem w_X3_add_15 {Γ : k_Pm} {A0 : Nat → Prop} {p : Program} {l : Launch} {e : Env} {s : State} {m : MethodId} {args : Array Value} {below : List Frame} {meth : Method} {c : Code} {cells slots : Nat} {Q : State → Prop} {tmp : va_W} {c1 : Int32} (hC : k_C Γ A0 p l s m args c cX3_add 3 wsX3_add RX3) (hcs : cells ≤ rm_X3_add.cells ∧ slots ≤ rm_X3_add.slots) : ∀ (n : Nat) (v2 : Int32) (g : Gt) (w2 : Int32) (g2 : Gt), f_X3_add_15 c1 n v2 g = some (w2, g2) → ∀ (H : Heap) (locs : List Loc) (ls : Array Slot), k_St Γ A0 s tmp g H locs → lv_has ls 3 [(2, .int (v2)), (1, .int (c1)), (0, .ref (k_ad Γ 3 (0)))] → (∀ (H1 : Heap) (locs1 : List Loc) (ls1 : Array Slot), k_St Γ A0 s tmp g2 H1 locs1 → lv_has ls1 3 [(2, .int (w2)), (1, .int (c1)), (0, .ref (k_ad Γ 3 (0)))] → W p l e rm_X3_add s m args below meth c H1 locs1 cells slots Q (F0 m 35 ls1 [])) → W p l e rm_X3_add s m args below meth c H locs cells slots Q (F0 m 15 ls []) := by
  intro n
  induction n with
  | zero => intro v2 g w2 g2 h; rw [f_X3_add_15] at h; cases h
  | succ n ih =>
    intro v2 g w2 g2 h H locs ls hw hl kk
    rw [f_X3_add_15] at h
    refine lv_iload_n hC.x hC.b dX3_add_15 rfl (lv_at hl 0 rfl) ?_
    refine lv_bipush (v := (16 : Int32)) hC.x hC.b dX3_add_16 (by decide) ?_
    refine lv_icmp_ge (tgt := 35) hC.x hC.b dX3_add_18 (by decide) (fun hc => ?_) (fun hc => ?_)
    · have h := it_t h hc
      obtain ⟨rfl, rfl⟩ := sm2 h
      exact kk _ _ _ hw (lv_sub hl [0, 1, 2] rfl)
    · have h := it_f h hc
      refine lv_aload_n hC.x hC.b dX3_add_21 rfl (lv_at hl 2 rfl) ?_
      refine lv_iload_n hC.x hC.b dX3_add_22 rfl (lv_at hl 1 rfl) ?_
      refine lv_iload_n hC.x hC.b dX3_add_23 rfl (lv_at hl 0 rfl) ?_
      refine lv_iconst (v := (-1 : Int32)) hC.x hC.b dX3_add_24 (by decide) ?_
      refine lv_iconst (v := (-1 : Int32)) hC.x hC.b dX3_add_25 (by decide) ?_
      obtain ⟨g26, hq, h⟩ := bd1_t h
      refine x_gov hC hw (x_runV hC hw (c_X3_keep (Γ := Γ) (l := l) hC.2.2.2.2 hq) (cwV 4 hC.t gX3_add_X3_keep rfl rfl rfl (by decide +kernel) ⟨Nat.le_of_ble_eq_true rfl, Nat.le_of_ble_eq_true rfl⟩) (As := [.int (c1), .int (v2), .int ((-1 : Int32)), .int ((-1 : Int32))]) (by decide) (k_E3 _ _ _) rfl rfl rfl hl.1 (Nat.le_of_ble_eq_true rfl) dX3_add_26 hcs) (fun H locs hw => ?_)
      refine lv_iinc (v := v2 + (1 : Int32)) (lv' := [(2, .int (v2 + (1 : Int32))), (1, .int (c1)), (0, .ref (k_ad Γ 3 (0)))]) hC.x hC.b dX3_add_29 hl (k := 0) rfl rfl (by decide) rfl (fun ls hl => ?_)
      refine lv_goto (tgt := 15) hC.x hC.b dX3_add_32 (by decide) ?_
      exact ih _ _ _ _ h _ _ _ hw (lv_sub hl [0, 1, 2] rfl) kk

set_option maxRecDepth 100000 in
set_option maxHeartbeats 4000000 in
theorem c_X3_add {Γ : k_Pm} {l : Launch} (hl0 : l.stackTraces = false)   {g : Gt} {r : Int32} {g2 : Gt} (h : f_X3_add  g = some (r, g2)) : k_CI Γ l yX3_add wsX3_add rm_X3_add [.ref (k_ad Γ 3 (0))] g r g2 := by
  intro sz
  refine Met.ofW (cc := cX3_add) (maxL := 3) (ret := (some .int)) (by decide) rfl ?_
  intro p e s m args below meth c s₁ B hml hv
  obtain ⟨rfl, rfl, hP, hKS⟩ := hv
  have hr := B.returns
  have hlocks := B.notSynchronized
  have hC : k_C Γ (k_A Γ s.heap.size) p l s m _ c cX3_add 3 wsX3_add RX3 := k_C.of ⟨B.exec, B.bytes, hml, findClass_of_methodNamed B.named, atoms_spec (ws := wsX3_add) B.pre⟩ hKS hl0
  have hw : k_St Γ (k_A Γ s.heap.size) s [] g s.heap [] := k_St.of hKS hP
  have hl := lv_entry ([.ref (k_ad Γ 3 (0))] : List Value) (n := 3) (Nat.le_of_ble_eq_true rfl)
  rw [lg_entry_eq]
  generalize (lg_sl ([.ref (k_ad Γ 3 (0))] : List Value) ++ List.replicate (3 - (lg_sl ([.ref (k_ad Γ 3 (0))] : List Value)).length) Slot.unset).toArray = ls at hl ⊢
  have hl : lv_has ls 3 [(0, .ref (k_ad Γ 3 (0)))] := hl
  change W p l e rm_X3_add _ _ _ _ _ _ _ _ _ _ _ _
  unfold f_X3_add at h
  refine lv_aload_n hC.x hC.b dX3_add_0 rfl (lv_at hl 0 rfl) ?_
  refine x_get hC hw (k := 3) (T := TX3) (by decide) (k_E3 _ _ _) in_X3_add_X3 rfl (by decide) lk_X3_add_f23 rfl rfl dX3_add_1 ?_
  refine lv_istore_n (lv' := [(1, .int (g 3 0 3)), (0, .ref (k_ad Γ 3 (0)))]) hC.x hC.b dX3_add_4 rfl hl (by decide) rfl (fun ls hl => ?_)
  refine lv_aload_n hC.x hC.b dX3_add_5 rfl (lv_at hl 1 rfl) ?_
  refine x_get hC hw (k := 0) (T := TX3) (by decide) (k_E3 _ _ _) in_X3_add_X3 rfl (by decide) lk_X3_add_f9 rfl rfl dX3_add_6 ?_
  refine lv_iload_n hC.x hC.b dX3_add_9 rfl (lv_at hl 0 rfl) ?_
  refine lv_bipush (v := (10 : Int32)) hC.x hC.b dX3_add_10 (by decide) ?_
  obtain ⟨hg1, h⟩ := gd_t h
  refine x_iast hC hw rfl (by decide) hg1 dX3_add_12 (fun H locs hw => ?_)
  refine lv_iconst (v := (0 : Int32)) hC.x hC.b dX3_add_13 (by decide) ?_
  refine lv_istore_n (lv' := [(2, .int ((0 : Int32))), (1, .int (g 3 0 3)), (0, .ref (k_ad Γ 3 (0)))]) hC.x hC.b dX3_add_14 rfl hl (by decide) rfl (fun ls hl => ?_)
  obtain ⟨w15_2, g15, hq, h⟩ := bd2_t h
  refine w_X3_add_15 hC ⟨by decide, by decide⟩  k_N _ _ _ _ hq _ _ _ hw (lv_sub hl [0, 1, 2] rfl) (fun H locs ls hw hl => ?_)
  refine lv_aload_n hC.x hC.b dX3_add_35 rfl (lv_at hl 2 rfl) ?_
  refine lv_iload_n hC.x hC.b dX3_add_36 rfl (lv_at hl 1 rfl) ?_
  refine lv_iconst (v := (1 : Int32)) hC.x hC.b dX3_add_37 (by decide) ?_
  refine lv_iadd hC.x hC.b dX3_add_38 ?_
  refine x_puti hC hw (k := 3) (T := TX3) (by decide) (k_E3 _ _ _) in_X3_add_X3 rfl (by decide) lk_X3_add_f23 rfl tyX3 tyX3_ok nmX3 rfl (by decide +kernel) (Nat.le_of_ble_eq_true rfl) (by rw [k_E3]; rfl) dX3_add_39 (fun H locs hw => ?_)
  refine lv_iload_n hC.x hC.b dX3_add_42 rfl (lv_at hl 1 rfl) ?_
  obtain ⟨rfl, rfl⟩ := sm2 h
  exact x_iret hC hw hr hlocks (by decide) (by decide) dX3_add_43
abbrev rm_X3_knows : Room := { frames := 0, cells := 0, slots := 0, locals := 0 }
theorem in_X3_knows_X3 : ∀ w ∈ wsX30, w ∈ wsX3_knows := fun _ h => List.mem_cons_of_mem _ (List.mem_append_right _ (h))
set_option maxRecDepth 20000 in
theorem lk_X3_knows_f20 : Cond.fieldLink RX3 20 "KnotArchive$Witnesses" "years" "[[I" ∈ wsX3_knows := by decide +kernel
set_option maxRecDepth 100000 in
set_option maxHeartbeats 4000000 in
theorem c_X3_knows {Γ : k_Pm} {l : Launch} (hl0 : l.stackTraces = false) {x1 : Int32} {x2 : Int32}  {g : Gt} {r : Int32} {g2 : Gt} (h : f_X3_knows x1 x2 g = some (r, g2)) : k_CI Γ l yX3_knows wsX3_knows rm_X3_knows [.ref (k_ad Γ 3 (0)), .int (x1), .int (x2)] g r g2 := by
  intro sz
  refine Met.ofW (cc := cX3_knows) (maxL := 3) (ret := (some .boolean)) (by decide) rfl ?_
  intro p e s m args below meth c s₁ B hml hv
  obtain ⟨rfl, rfl, hP, hKS⟩ := hv
  have hr := B.returns
  have hlocks := B.notSynchronized
  have hC : k_C Γ (k_A Γ s.heap.size) p l s m _ c cX3_knows 3 wsX3_knows RX3 := k_C.of ⟨B.exec, B.bytes, hml, findClass_of_methodNamed B.named, atoms_spec (ws := wsX3_knows) B.pre⟩ hKS hl0
  have hw : k_St Γ (k_A Γ s.heap.size) s [] g s.heap [] := k_St.of hKS hP
  have hl := lv_entry ([.ref (k_ad Γ 3 (0)), .int (x1), .int (x2)] : List Value) (n := 3) (Nat.le_of_ble_eq_true rfl)
  rw [lg_entry_eq]
  generalize (lg_sl ([.ref (k_ad Γ 3 (0)), .int (x1), .int (x2)] : List Value) ++ List.replicate (3 - (lg_sl ([.ref (k_ad Γ 3 (0)), .int (x1), .int (x2)] : List Value)).length) Slot.unset).toArray = ls at hl ⊢
  have hl : lv_has ls 3 [(0, .ref (k_ad Γ 3 (0))), (1, .int (x1)), (2, .int (x2))] := hl
  change W p l e rm_X3_knows _ _ _ _ _ _ _ _ _ _ _ _
  unfold f_X3_knows at h
  refine lv_aload_n hC.x hC.b dX3_knows_0 rfl (lv_at hl 0 rfl) ?_
  refine x_get hC hw (k := 2) (T := TX3) (by decide) (k_E3 _ _ _) in_X3_knows_X3 rfl (by decide) lk_X3_knows_f20 rfl rfl dX3_knows_1 ?_
  refine lv_iload_n hC.x hC.b dX3_knows_4 rfl (lv_at hl 1 rfl) ?_
  obtain ⟨hg1, h⟩ := gd_t h
  have hr1 := k_ci_lt (t := 18) (i := 0) rfl (by decide) hg1
  refine x_aald hC hw (t := 18) rfl (by decide) (by decide) hg1 dX3_knows_5 ?_
  refine lv_iload_n hC.x hC.b dX3_knows_6 rfl (lv_at hl 2 rfl) ?_
  obtain ⟨hg2, h⟩ := gd_t h
  refine x_iald hC hw rfl hr1 hg2 dX3_knows_7 ?_
  refine lv_iconst (v := (-1 : Int32)) hC.x hC.b dX3_knows_8 (by decide) ?_
  refine lv_icmp_eq (tgt := 16) hC.x hC.b dX3_knows_9 (by decide) (fun hc => ?_) (fun hc => ?_)
  · have h := it_t h hc
    refine lv_iconst (v := (0 : Int32)) hC.x hC.b dX3_knows_16 (by decide) ?_
    obtain ⟨rfl, rfl⟩ := sm2 h
    exact x_zret hC hw hr hlocks rfl (by decide) (by decide) dX3_knows_17
  · have h := it_f h hc
    refine lv_iconst (v := (1 : Int32)) hC.x hC.b dX3_knows_12 (by decide) ?_
    refine lv_goto (tgt := 17) hC.x hC.b dX3_knows_13 (by decide) ?_
    obtain ⟨rfl, rfl⟩ := sm2 h
    exact x_zret hC hw hr hlocks rfl (by decide) (by decide) dX3_knows_17
abbrev rm_X3_knowsAs : Room := { frames := 1, cells := 0, slots := 0, locals := 22 }
theorem in_X3_knowsAs_X3 : ∀ w ∈ wsX30, w ∈ wsX3_knowsAs := fun _ h => List.mem_cons_of_mem _ (List.mem_append_right _ (h))
set_option maxRecDepth 20000 in
theorem lk_X3_knowsAs_f17 : Cond.fieldLink RX3 17 "KnotArchive$Witnesses" "numbers" "[[I" ∈ wsX3_knowsAs := by decide +kernel
set_option maxRecDepth 100000 in
set_option maxHeartbeats 4000000 in
theorem c_X3_knowsAs {Γ : k_Pm} {l : Launch} (hl0 : l.stackTraces = false) {x1 : Int32} {x2 : Int32} {x3 : Int32}  {g : Gt} {r : Int32} {g2 : Gt} (h : f_X3_knowsAs x1 x2 x3 g = some (r, g2)) : k_CI Γ l yX3_knowsAs wsX3_knowsAs rm_X3_knowsAs [.ref (k_ad Γ 3 (0)), .int (x1), .int (x2), .int (x3)] g r g2 := by
  intro sz
  refine Met.ofW (cc := cX3_knowsAs) (maxL := 4) (ret := (some .boolean)) (by decide) rfl ?_
  intro p e s m args below meth c s₁ B hml hv
  obtain ⟨rfl, rfl, hP, hKS⟩ := hv
  have hr := B.returns
  have hlocks := B.notSynchronized
  have hC : k_C Γ (k_A Γ s.heap.size) p l s m _ c cX3_knowsAs 4 wsX3_knowsAs RX3 := k_C.of ⟨B.exec, B.bytes, hml, findClass_of_methodNamed B.named, atoms_spec (ws := wsX3_knowsAs) B.pre⟩ hKS hl0
  have hw : k_St Γ (k_A Γ s.heap.size) s [] g s.heap [] := k_St.of hKS hP
  have hl := lv_entry ([.ref (k_ad Γ 3 (0)), .int (x1), .int (x2), .int (x3)] : List Value) (n := 4) (Nat.le_of_ble_eq_true rfl)
  rw [lg_entry_eq]
  generalize (lg_sl ([.ref (k_ad Γ 3 (0)), .int (x1), .int (x2), .int (x3)] : List Value) ++ List.replicate (4 - (lg_sl ([.ref (k_ad Γ 3 (0)), .int (x1), .int (x2), .int (x3)] : List Value)).length) Slot.unset).toArray = ls at hl ⊢
  have hl : lv_has ls 4 [(0, .ref (k_ad Γ 3 (0))), (1, .int (x1)), (2, .int (x2)), (3, .int (x3))] := hl
  change W p l e rm_X3_knowsAs _ _ _ _ _ _ _ _ _ _ _ _
  unfold f_X3_knowsAs at h
  refine lv_aload_n hC.x hC.b dX3_knowsAs_0 rfl (lv_at hl 0 rfl) ?_
  refine lv_iload_n hC.x hC.b dX3_knowsAs_1 rfl (lv_at hl 1 rfl) ?_
  refine lv_iload_n hC.x hC.b dX3_knowsAs_2 rfl (lv_at hl 2 rfl) ?_
  obtain ⟨r3, g3, hq, h⟩ := bd2_t h
  refine x_goi hC hw (x_runV hC hw (c_X3_knows (Γ := Γ) (l := l) hC.2.2.2.2 hq) (cwV 2 hC.t gX3_knowsAs_X3_knows rfl rfl rfl (by decide +kernel) ⟨Nat.le_of_ble_eq_true rfl, Nat.le_of_ble_eq_true rfl⟩) (As := [.int (x1), .int (x2)]) (by decide) (k_E3 _ _ _) rfl rfl rfl hl.1 (Nat.le_of_ble_eq_true rfl) dX3_knowsAs_3 ⟨by decide, by decide⟩) (fun H locs hw => ?_)
  refine lv_if_eq (tgt := 25) hC.x hC.b dX3_knowsAs_6 (by decide) (fun hc => ?_) (fun hc => ?_)
  · have h := it_t h hc
    refine lv_iconst (v := (0 : Int32)) hC.x hC.b dX3_knowsAs_25 (by decide) ?_
    obtain ⟨rfl, rfl⟩ := sm2 h
    exact x_zret hC hw hr hlocks rfl (by decide) (by decide) dX3_knowsAs_26
  · have h := it_f h hc
    refine lv_aload_n hC.x hC.b dX3_knowsAs_9 rfl (lv_at hl 0 rfl) ?_
    refine x_get hC hw (k := 1) (T := TX3) (by decide) (k_E3 _ _ _) in_X3_knowsAs_X3 rfl (by decide) lk_X3_knowsAs_f17 rfl rfl dX3_knowsAs_10 ?_
    refine lv_iload_n hC.x hC.b dX3_knowsAs_13 rfl (lv_at hl 1 rfl) ?_
    obtain ⟨hg1, h⟩ := gd_t h
    have hr1 := k_ci_lt (t := 17) (i := 0) rfl (by decide) hg1
    refine x_aald hC hw (t := 17) rfl (by decide) (by decide) hg1 dX3_knowsAs_14 ?_
    refine lv_iload_n hC.x hC.b dX3_knowsAs_15 rfl (lv_at hl 2 rfl) ?_
    obtain ⟨hg2, h⟩ := gd_t h
    refine x_iald hC hw rfl hr1 hg2 dX3_knowsAs_16 ?_
    refine lv_iload_n hC.x hC.b dX3_knowsAs_17 rfl (lv_at hl 3 rfl) ?_
    refine lv_icmp_ne (tgt := 25) hC.x hC.b dX3_knowsAs_18 (by decide) (fun hc => ?_) (fun hc => ?_)
    · have h := it_f h hc
      refine lv_iconst (v := (0 : Int32)) hC.x hC.b dX3_knowsAs_25 (by decide) ?_
      obtain ⟨rfl, rfl⟩ := sm2 h
      exact x_zret hC hw hr hlocks rfl (by decide) (by decide) dX3_knowsAs_26
    · have h := it_t h hc
      refine lv_iconst (v := (1 : Int32)) hC.x hC.b dX3_knowsAs_21 (by decide) ?_
      refine lv_goto (tgt := 26) hC.x hC.b dX3_knowsAs_22 (by decide) ?_
      obtain ⟨rfl, rfl⟩ := sm2 h
      exact x_zret hC hw hr hlocks rfl (by decide) (by decide) dX3_knowsAs_26
abbrev rm_X3_memory : Room := { frames := 1, cells := 0, slots := 0, locals := 22 }
theorem in_X3_memory_X3 : ∀ w ∈ wsX30, w ∈ wsX3_memory := fun _ h => List.mem_cons_of_mem _ (List.mem_append_right _ (h))
set_option maxRecDepth 20000 in
theorem lk_X3_memory_f17 : Cond.fieldLink RX3 17 "KnotArchive$Witnesses" "numbers" "[[I" ∈ wsX3_memory := by decide +kernel
set_option maxRecDepth 20000 in
theorem lk_X3_memory_f20 : Cond.fieldLink RX3 20 "KnotArchive$Witnesses" "years" "[[I" ∈ wsX3_memory := by decide +kernel
set_option maxRecDepth 100000 in
set_option maxHeartbeats 4000000 in
theorem c_X3_memory {Γ : k_Pm} {l : Launch} (hl0 : l.stackTraces = false) {x1 : Int32} {x2 : Int32} {x3 : Int32}  {g : Gt} {r : Int32} {g2 : Gt} (h : f_X3_memory x1 x2 x3 g = some (r, g2)) : k_CI Γ l yX3_memory wsX3_memory rm_X3_memory [.ref (k_ad Γ 3 (0)), .int (x1), .int (x2), .int (x3)] g r g2 := by
  intro sz
  refine Met.ofW (cc := cX3_memory) (maxL := 4) (ret := (some .int)) (by decide) rfl ?_
  intro p e s m args below meth c s₁ B hml hv
  obtain ⟨rfl, rfl, hP, hKS⟩ := hv
  have hr := B.returns
  have hlocks := B.notSynchronized
  have hC : k_C Γ (k_A Γ s.heap.size) p l s m _ c cX3_memory 4 wsX3_memory RX3 := k_C.of ⟨B.exec, B.bytes, hml, findClass_of_methodNamed B.named, atoms_spec (ws := wsX3_memory) B.pre⟩ hKS hl0
  have hw : k_St Γ (k_A Γ s.heap.size) s [] g s.heap [] := k_St.of hKS hP
  have hl := lv_entry ([.ref (k_ad Γ 3 (0)), .int (x1), .int (x2), .int (x3)] : List Value) (n := 4) (Nat.le_of_ble_eq_true rfl)
  rw [lg_entry_eq]
  generalize (lg_sl ([.ref (k_ad Γ 3 (0)), .int (x1), .int (x2), .int (x3)] : List Value) ++ List.replicate (4 - (lg_sl ([.ref (k_ad Γ 3 (0)), .int (x1), .int (x2), .int (x3)] : List Value)).length) Slot.unset).toArray = ls at hl ⊢
  have hl : lv_has ls 4 [(0, .ref (k_ad Γ 3 (0))), (1, .int (x1)), (2, .int (x2)), (3, .int (x3))] := hl
  change W p l e rm_X3_memory _ _ _ _ _ _ _ _ _ _ _ _
  unfold f_X3_memory at h
  refine lv_iload_n hC.x hC.b dX3_memory_0 rfl (lv_at hl 3 rfl) ?_
  by_cases hs0 : x3 = 0
  · have h := it_t h hs0
    refine lv_lookup (off := 27) (tgt := 28) hC.x hC.b dX3_memory_1 (by decide) (by rw [hs0]; decide) (by decide) ?_
    refine lv_aload_n hC.x hC.b dX3_memory_28 rfl (lv_at hl 0 rfl) ?_
    refine x_get hC hw (k := 1) (T := TX3) (by decide) (k_E3 _ _ _) in_X3_memory_X3 rfl (by decide) lk_X3_memory_f17 rfl rfl dX3_memory_29 ?_
    refine lv_iload_n hC.x hC.b dX3_memory_32 rfl (lv_at hl 1 rfl) ?_
    obtain ⟨hg1, h⟩ := gd_t h
    have hr1 := k_ci_lt (t := 17) (i := 0) rfl (by decide) hg1
    refine x_aald hC hw (t := 17) rfl (by decide) (by decide) hg1 dX3_memory_33 ?_
    refine lv_iload_n hC.x hC.b dX3_memory_34 rfl (lv_at hl 2 rfl) ?_
    obtain ⟨hg2, h⟩ := gd_t h
    refine x_iald hC hw rfl hr1 hg2 dX3_memory_35 ?_
    obtain ⟨rfl, rfl⟩ := sm2 h
    exact x_iret hC hw hr hlocks (by decide) (by decide) dX3_memory_36
  have h := it_f h hs0
  by_cases hs1 : x3 = 1
  · have h := it_t h hs1
    refine lv_lookup (off := 36) (tgt := 37) hC.x hC.b dX3_memory_1 (by decide) (by rw [hs1]; decide) (by decide) ?_
    refine lv_aload_n hC.x hC.b dX3_memory_37 rfl (lv_at hl 0 rfl) ?_
    refine x_get hC hw (k := 2) (T := TX3) (by decide) (k_E3 _ _ _) in_X3_memory_X3 rfl (by decide) lk_X3_memory_f20 rfl rfl dX3_memory_38 ?_
    refine lv_iload_n hC.x hC.b dX3_memory_41 rfl (lv_at hl 1 rfl) ?_
    obtain ⟨hg3, h⟩ := gd_t h
    have hr2 := k_ci_lt (t := 18) (i := 0) rfl (by decide) hg3
    refine x_aald hC hw (t := 18) rfl (by decide) (by decide) hg3 dX3_memory_42 ?_
    refine lv_iload_n hC.x hC.b dX3_memory_43 rfl (lv_at hl 2 rfl) ?_
    obtain ⟨hg4, h⟩ := gd_t h
    refine x_iald hC hw rfl hr2 hg4 dX3_memory_44 ?_
    obtain ⟨rfl, rfl⟩ := sm2 h
    exact x_iret hC hw hr hlocks (by decide) (by decide) dX3_memory_45
  have h := it_f h hs1
  refine lv_lookup (off := 45) (tgt := 46) hC.x hC.b dX3_memory_1 (by decide) (k_look01 hs0 hs1) (by decide) ?_
  refine lv_aload_n hC.x hC.b dX3_memory_46 rfl (lv_at hl 0 rfl) ?_
  refine lv_iload_n hC.x hC.b dX3_memory_47 rfl (lv_at hl 1 rfl) ?_
  refine lv_iload_n hC.x hC.b dX3_memory_48 rfl (lv_at hl 2 rfl) ?_
  obtain ⟨r49, g49, hq, h⟩ := bd2_t h
  refine x_goi hC hw (x_runV hC hw (c_X3_knows (Γ := Γ) (l := l) hC.2.2.2.2 hq) (cwV 2 hC.t gX3_memory_X3_knows rfl rfl rfl (by decide +kernel) ⟨Nat.le_of_ble_eq_true rfl, Nat.le_of_ble_eq_true rfl⟩) (As := [.int (x1), .int (x2)]) (by decide) (k_E3 _ _ _) rfl rfl rfl hl.1 (Nat.le_of_ble_eq_true rfl) dX3_memory_49 ⟨by decide, by decide⟩) (fun H locs hw => ?_)
  refine lv_if_eq (tgt := 59) hC.x hC.b dX3_memory_52 (by decide) (fun hc => ?_) (fun hc => ?_)
  · have h := it_t h hc
    refine lv_iconst (v := (0 : Int32)) hC.x hC.b dX3_memory_59 (by decide) ?_
    obtain ⟨rfl, rfl⟩ := sm2 h
    exact x_iret hC hw hr hlocks (by decide) (by decide) dX3_memory_60
  · have h := it_f h hc
    refine lv_iconst (v := (1 : Int32)) hC.x hC.b dX3_memory_55 (by decide) ?_
    refine lv_goto (tgt := 60) hC.x hC.b dX3_memory_56 (by decide) ?_
    obtain ⟨rfl, rfl⟩ := sm2 h
    exact x_iret hC hw hr hlocks (by decide) (by decide) dX3_memory_60
abbrev rm_X3_jointTrust : Room := { frames := 2, cells := 0, slots := 0, locals := 45 }
theorem in_X3_jointTrust_X3 : ∀ w ∈ wsX30, w ∈ wsX3_jointTrust := fun _ h => List.mem_cons_of_mem _ (List.mem_append_right _ (h))
set_option maxRecDepth 20000 in
theorem lk_X3_jointTrust_f23 : Cond.fieldLink RX3 23 "KnotArchive$Witnesses" "size" "I" ∈ wsX3_jointTrust := by decide +kernel
set_option maxRecDepth 20000 in
theorem lk_X3_jointTrust_f9 : Cond.fieldLink RX3 9 "KnotArchive$Witnesses" "trusts" "[I" ∈ wsX3_jointTrust := by decide +kernel
set_option maxRecDepth 100000 in
set_option maxHeartbeats 4000000 in
theorem w_X3_jointTrust_5 {Γ : k_Pm} {A0 : Nat → Prop} {p : Program} {l : Launch} {e : Env} {s : State} {m : MethodId} {args : Array Value} {below : List Frame} {meth : Method} {c : Code} {cells slots : Nat} {Q : State → Prop} {tmp : va_W} {c1 : Int32} {c2 : Int32} (hC : k_C Γ A0 p l s m args c cX3_jointTrust 5 wsX3_jointTrust RX3) (hcs : cells ≤ rm_X3_jointTrust.cells ∧ slots ≤ rm_X3_jointTrust.slots) : ∀ (n : Nat) (v3 : Int32) (v4 : Int32) (g : Gt) (w3 : Int32) (w4 : Int32) (g2 : Gt), f_X3_jointTrust_5 c1 c2 n v3 v4 g = some (w3, w4, g2) → ∀ (H : Heap) (locs : List Loc) (ls : Array Slot), k_St Γ A0 s tmp g H locs → lv_has ls 5 [(4, .int (v4)), (3, .int (v3)), (0, .ref (k_ad Γ 3 (0))), (1, .int (c1)), (2, .int (c2))] → (∀ (H1 : Heap) (locs1 : List Loc) (ls1 : Array Slot), k_St Γ A0 s tmp g2 H1 locs1 → lv_has ls1 5 [(4, .int (w4)), (3, .int (w3)), (0, .ref (k_ad Γ 3 (0))), (1, .int (c1)), (2, .int (c2))] → W p l e rm_X3_jointTrust s m args below meth c H1 locs1 cells slots Q (F0 m 41 ls1 [])) → W p l e rm_X3_jointTrust s m args below meth c H locs cells slots Q (F0 m 5 ls []) := by
  intro n
  induction n with
  | zero => intro v3 v4 g w3 w4 g2 h; rw [f_X3_jointTrust_5] at h; cases h
  | succ n ih =>
    intro v3 v4 g w3 w4 g2 h H locs ls hw hl kk
    rw [f_X3_jointTrust_5] at h
    refine lv_iload hC.x hC.b dX3_jointTrust_5 (lv_at hl 0 rfl) ?_
    refine lv_aload_n hC.x hC.b dX3_jointTrust_7 rfl (lv_at hl 2 rfl) ?_
    refine x_get hC hw (k := 3) (T := TX3) (by decide) (k_E3 _ _ _) in_X3_jointTrust_X3 rfl (by decide) lk_X3_jointTrust_f23 rfl rfl dX3_jointTrust_8 ?_
    refine lv_icmp_ge (tgt := 41) hC.x hC.b dX3_jointTrust_11 (by decide) (fun hc => ?_) (fun hc => ?_)
    · have h := it_t h hc
      obtain ⟨rfl, rfl, rfl⟩ := sm3 h
      exact kk _ _ _ hw (lv_sub hl [0, 1, 2, 3, 4] rfl)
    · have h := it_f h hc
      refine lv_aload_n hC.x hC.b dX3_jointTrust_14 rfl (lv_at hl 2 rfl) ?_
      refine lv_iload hC.x hC.b dX3_jointTrust_15 (lv_at hl 0 rfl) ?_
      refine lv_iload_n hC.x hC.b dX3_jointTrust_17 rfl (lv_at hl 3 rfl) ?_
      refine lv_iload_n hC.x hC.b dX3_jointTrust_18 rfl (lv_at hl 4 rfl) ?_
      obtain ⟨r19, g19, hq, h⟩ := bd2_t h
      refine x_goi hC hw (x_runV hC hw (c_X3_knowsAs (Γ := Γ) (l := l) hC.2.2.2.2 hq) (cwV 3 hC.t gX3_jointTrust_X3_knowsAs rfl rfl rfl (by decide +kernel) ⟨Nat.le_of_ble_eq_true rfl, Nat.le_of_ble_eq_true rfl⟩) (As := [.int (v4), .int (c1), .int (c2)]) (by decide) (k_E3 _ _ _) rfl rfl rfl hl.1 (Nat.le_of_ble_eq_true rfl) dX3_jointTrust_19 hcs) (fun H locs hw => ?_)
      refine lv_if_eq (tgt := 35) hC.x hC.b dX3_jointTrust_22 (by decide) (fun hc => ?_) (fun hc => ?_)
      · have h := it_t h hc
        refine lv_iinc (v := v4 + (1 : Int32)) (lv' := [(4, .int (v4 + (1 : Int32))), (3, .int (v3)), (0, .ref (k_ad Γ 3 (0))), (1, .int (c1)), (2, .int (c2))]) hC.x hC.b dX3_jointTrust_35 hl (k := 0) rfl rfl (by decide) rfl (fun ls hl => ?_)
        refine lv_goto (tgt := 5) hC.x hC.b dX3_jointTrust_38 (by decide) ?_
        exact ih _ _ _ _ _ _ h _ _ _ hw (lv_sub hl [0, 1, 2, 3, 4] rfl) kk
      · have h := it_f h hc
        refine lv_iload_n hC.x hC.b dX3_jointTrust_25 rfl (lv_at hl 1 rfl) ?_
        refine lv_aload_n hC.x hC.b dX3_jointTrust_26 rfl (lv_at hl 2 rfl) ?_
        refine x_get hC hw (k := 0) (T := TX3) (by decide) (k_E3 _ _ _) in_X3_jointTrust_X3 rfl (by decide) lk_X3_jointTrust_f9 rfl rfl dX3_jointTrust_27 ?_
        refine lv_iload hC.x hC.b dX3_jointTrust_30 (lv_at hl 0 rfl) ?_
        obtain ⟨hg1, h⟩ := gd_t h
        refine x_iald hC hw rfl (by decide) hg1 dX3_jointTrust_32 ?_
        refine lv_iadd hC.x hC.b dX3_jointTrust_33 ?_
        refine lv_istore_n (lv' := [(3, .int (v3 + (g19 16 0 v4.toNatClampNeg))), (4, .int (v4)), (0, .ref (k_ad Γ 3 (0))), (1, .int (c1)), (2, .int (c2))]) hC.x hC.b dX3_jointTrust_34 rfl hl (by decide) rfl (fun ls hl => ?_)
        refine lv_iinc (v := v4 + (1 : Int32)) (lv' := [(4, .int (v4 + (1 : Int32))), (3, .int (v3 + (g19 16 0 v4.toNatClampNeg))), (0, .ref (k_ad Γ 3 (0))), (1, .int (c1)), (2, .int (c2))]) hC.x hC.b dX3_jointTrust_35 hl (k := 1) rfl rfl (by decide) rfl (fun ls hl => ?_)
        refine lv_goto (tgt := 5) hC.x hC.b dX3_jointTrust_38 (by decide) ?_
        exact ih _ _ _ _ _ _ h _ _ _ hw (lv_sub hl [0, 1, 2, 3, 4] rfl) kk

set_option maxRecDepth 100000 in
set_option maxHeartbeats 4000000 in
theorem c_X3_jointTrust {Γ : k_Pm} {l : Launch} (hl0 : l.stackTraces = false) {x1 : Int32} {x2 : Int32}  {g : Gt} {r : Int32} {g2 : Gt} (h : f_X3_jointTrust x1 x2 g = some (r, g2)) : k_CI Γ l yX3_jointTrust wsX3_jointTrust rm_X3_jointTrust [.ref (k_ad Γ 3 (0)), .int (x1), .int (x2)] g r g2 := by
  intro sz
  refine Met.ofW (cc := cX3_jointTrust) (maxL := 5) (ret := (some .int)) (by decide) rfl ?_
  intro p e s m args below meth c s₁ B hml hv
  obtain ⟨rfl, rfl, hP, hKS⟩ := hv
  have hr := B.returns
  have hlocks := B.notSynchronized
  have hC : k_C Γ (k_A Γ s.heap.size) p l s m _ c cX3_jointTrust 5 wsX3_jointTrust RX3 := k_C.of ⟨B.exec, B.bytes, hml, findClass_of_methodNamed B.named, atoms_spec (ws := wsX3_jointTrust) B.pre⟩ hKS hl0
  have hw : k_St Γ (k_A Γ s.heap.size) s [] g s.heap [] := k_St.of hKS hP
  have hl := lv_entry ([.ref (k_ad Γ 3 (0)), .int (x1), .int (x2)] : List Value) (n := 5) (Nat.le_of_ble_eq_true rfl)
  rw [lg_entry_eq]
  generalize (lg_sl ([.ref (k_ad Γ 3 (0)), .int (x1), .int (x2)] : List Value) ++ List.replicate (5 - (lg_sl ([.ref (k_ad Γ 3 (0)), .int (x1), .int (x2)] : List Value)).length) Slot.unset).toArray = ls at hl ⊢
  have hl : lv_has ls 5 [(0, .ref (k_ad Γ 3 (0))), (1, .int (x1)), (2, .int (x2))] := hl
  change W p l e rm_X3_jointTrust _ _ _ _ _ _ _ _ _ _ _ _
  unfold f_X3_jointTrust at h
  refine lv_iconst (v := (0 : Int32)) hC.x hC.b dX3_jointTrust_0 (by decide) ?_
  refine lv_istore_n (lv' := [(3, .int ((0 : Int32))), (0, .ref (k_ad Γ 3 (0))), (1, .int (x1)), (2, .int (x2))]) hC.x hC.b dX3_jointTrust_1 rfl hl (by decide) rfl (fun ls hl => ?_)
  refine lv_iconst (v := (0 : Int32)) hC.x hC.b dX3_jointTrust_2 (by decide) ?_
  refine lv_istore (lv' := [(4, .int ((0 : Int32))), (3, .int ((0 : Int32))), (0, .ref (k_ad Γ 3 (0))), (1, .int (x1)), (2, .int (x2))]) hC.x hC.b dX3_jointTrust_3 hl (by decide) rfl (fun ls hl => ?_)
  obtain ⟨w5_3, w5_4, g5, hq, h⟩ := bd3_t h
  refine w_X3_jointTrust_5 hC ⟨by decide, by decide⟩  k_N _ _ _ _ _ _ hq _ _ _ hw (lv_sub hl [0, 1, 2, 3, 4] rfl) (fun H locs ls hw hl => ?_)
  refine lv_iload_n hC.x hC.b dX3_jointTrust_41 rfl (lv_at hl 1 rfl) ?_
  obtain ⟨rfl, rfl⟩ := sm2 h
  exact x_iret hC hw hr hlocks (by decide) (by decide) dX3_jointTrust_42
abbrev rm_J6_compare_7cf53 : Room := { frames := 0, cells := 0, slots := 0, locals := 0 }
set_option maxRecDepth 100000 in
set_option maxHeartbeats 4000000 in
theorem c_J6_compare_7cf53 {Γ : k_Pm} {l : Launch} (hl0 : l.stackTraces = false) {x0 : Int32} {x1 : Int32}  {g : Gt} {r : Int32} {g2 : Gt} (h : f_J6_compare_7cf53 x0 x1 g = some (r, g2)) : k_CI Γ l yJ6_compare_7cf53 wsJ6_compare_7cf53 rm_J6_compare_7cf53 [.int (x0), .int (x1)] g r g2 := by
  intro sz
  refine Met.ofW (cc := cJ6_compare_7cf53) (maxL := 2) (ret := (some .int)) (by decide) rfl ?_
  intro p e s m args below meth c s₁ B hml hv
  obtain ⟨rfl, rfl, hP, hKS⟩ := hv
  have hr := B.returns
  have hlocks := B.notSynchronized
  have hC : k_C Γ (k_A Γ s.heap.size) p l s m _ c cJ6_compare_7cf53 2 wsJ6_compare_7cf53 RJ6 := k_C.of ⟨B.exec, B.bytes, hml, findClass_of_methodNamed B.named, atoms_spec (ws := wsJ6_compare_7cf53) B.pre⟩ hKS hl0
  have hw : k_St Γ (k_A Γ s.heap.size) s [] g s.heap [] := k_St.of hKS hP
  have hl := lv_entry ([.int (x0), .int (x1)] : List Value) (n := 2) (Nat.le_of_ble_eq_true rfl)
  rw [lg_entry_eq]
  generalize (lg_sl ([.int (x0), .int (x1)] : List Value) ++ List.replicate (2 - (lg_sl ([.int (x0), .int (x1)] : List Value)).length) Slot.unset).toArray = ls at hl ⊢
  have hl : lv_has ls 2 [(0, .int (x0)), (1, .int (x1))] := hl
  change W p l e rm_J6_compare_7cf53 _ _ _ _ _ _ _ _ _ _ _ _
  unfold f_J6_compare_7cf53 at h
  refine lv_iload_n hC.x hC.b dJ6_compare_7cf53_0 rfl (lv_at hl 0 rfl) ?_
  refine lv_iload_n hC.x hC.b dJ6_compare_7cf53_1 rfl (lv_at hl 1 rfl) ?_
  refine lv_icmp_ge (tgt := 9) hC.x hC.b dJ6_compare_7cf53_2 (by decide) (fun hc => ?_) (fun hc => ?_)
  · have h := it_t h hc
    refine lv_iload_n hC.x hC.b dJ6_compare_7cf53_9 rfl (lv_at hl 0 rfl) ?_
    refine lv_iload_n hC.x hC.b dJ6_compare_7cf53_10 rfl (lv_at hl 1 rfl) ?_
    refine lv_icmp_ne (tgt := 18) hC.x hC.b dJ6_compare_7cf53_11 (by decide) (fun hc => ?_) (fun hc => ?_)
    · have h := it_f h hc
      refine lv_iconst (v := (1 : Int32)) hC.x hC.b dJ6_compare_7cf53_18 (by decide) ?_
      obtain ⟨rfl, rfl⟩ := sm2 h
      exact x_iret hC hw hr hlocks (by decide) (by decide) dJ6_compare_7cf53_19
    · have h := it_t h hc
      refine lv_iconst (v := (0 : Int32)) hC.x hC.b dJ6_compare_7cf53_14 (by decide) ?_
      refine lv_goto (tgt := 19) hC.x hC.b dJ6_compare_7cf53_15 (by decide) ?_
      obtain ⟨rfl, rfl⟩ := sm2 h
      exact x_iret hC hw hr hlocks (by decide) (by decide) dJ6_compare_7cf53_19
  · have h := it_f h hc
    refine lv_iconst (v := (-1 : Int32)) hC.x hC.b dJ6_compare_7cf53_5 (by decide) ?_
    refine lv_goto (tgt := 19) hC.x hC.b dJ6_compare_7cf53_6 (by decide) ?_
    obtain ⟨rfl, rfl⟩ := sm2 h
    exact x_iret hC hw hr hlocks (by decide) (by decide) dJ6_compare_7cf53_19
abbrev rm_X3_latestYear : Room := { frames := 2, cells := 0, slots := 0, locals := 45 }
theorem in_X3_latestYear_X3 : ∀ w ∈ wsX30, w ∈ wsX3_latestYear := fun _ h => List.mem_cons_of_mem _ (List.mem_append_right _ (h))
set_option maxRecDepth 20000 in
theorem lk_X3_latestYear_f23 : Cond.fieldLink RX3 23 "KnotArchive$Witnesses" "size" "I" ∈ wsX3_latestYear := by decide +kernel
set_option maxRecDepth 20000 in
theorem lk_X3_latestYear_f20 : Cond.fieldLink RX3 20 "KnotArchive$Witnesses" "years" "[[I" ∈ wsX3_latestYear := by decide +kernel
set_option maxRecDepth 20000 in
theorem lk_X3_latestYear_m54 : Cond.methodLink RX3 54 Lib.Math.max.name ∈ wsX3_latestYear := by decide +kernel
set_option maxRecDepth 20000 in
theorem lk_X3_latestYear_s54 : Cond.static Lib.Math.max.name ∈ wsX3_latestYear := by decide +kernel
set_option maxRecDepth 20000 in
theorem lk_X3_latestYear_imath : Cond.initialized "java/lang/Math" ∈ wsX3_latestYear := by decide +kernel
set_option maxRecDepth 20000 in
theorem lk_X3_latestYear_e54 : Cond.code Lib.Math.max.name Lib.Math.max.code 2 (some .int) ∈ wsX3_latestYear := by decide +kernel
set_option maxRecDepth 100000 in
set_option maxHeartbeats 4000000 in
theorem w_X3_latestYear_5 {Γ : k_Pm} {A0 : Nat → Prop} {p : Program} {l : Launch} {e : Env} {s : State} {m : MethodId} {args : Array Value} {below : List Frame} {meth : Method} {c : Code} {cells slots : Nat} {Q : State → Prop} {tmp : va_W} {c1 : Int32} {c2 : Int32} (hC : k_C Γ A0 p l s m args c cX3_latestYear 5 wsX3_latestYear RX3) (hcs : cells ≤ rm_X3_latestYear.cells ∧ slots ≤ rm_X3_latestYear.slots) : ∀ (n : Nat) (v3 : Int32) (v4 : Int32) (g : Gt) (w3 : Int32) (w4 : Int32) (g2 : Gt), f_X3_latestYear_5 c1 c2 n v3 v4 g = some (w3, w4, g2) → ∀ (H : Heap) (locs : List Loc) (ls : Array Slot), k_St Γ A0 s tmp g H locs → lv_has ls 5 [(4, .int (v4)), (3, .int (v3)), (0, .ref (k_ad Γ 3 (0))), (1, .int (c1)), (2, .int (c2))] → (∀ (H1 : Heap) (locs1 : List Loc) (ls1 : Array Slot), k_St Γ A0 s tmp g2 H1 locs1 → lv_has ls1 5 [(4, .int (w4)), (3, .int (w3)), (0, .ref (k_ad Γ 3 (0))), (1, .int (c1)), (2, .int (c2))] → W p l e rm_X3_latestYear s m args below meth c H1 locs1 cells slots Q (F0 m 45 ls1 [])) → W p l e rm_X3_latestYear s m args below meth c H locs cells slots Q (F0 m 5 ls []) := by
  intro n
  induction n with
  | zero => intro v3 v4 g w3 w4 g2 h; rw [f_X3_latestYear_5] at h; cases h
  | succ n ih =>
    intro v3 v4 g w3 w4 g2 h H locs ls hw hl kk
    rw [f_X3_latestYear_5] at h
    refine lv_iload hC.x hC.b dX3_latestYear_5 (lv_at hl 0 rfl) ?_
    refine lv_aload_n hC.x hC.b dX3_latestYear_7 rfl (lv_at hl 2 rfl) ?_
    refine x_get hC hw (k := 3) (T := TX3) (by decide) (k_E3 _ _ _) in_X3_latestYear_X3 rfl (by decide) lk_X3_latestYear_f23 rfl rfl dX3_latestYear_8 ?_
    refine lv_icmp_ge (tgt := 45) hC.x hC.b dX3_latestYear_11 (by decide) (fun hc => ?_) (fun hc => ?_)
    · have h := it_t h hc
      obtain ⟨rfl, rfl, rfl⟩ := sm3 h
      exact kk _ _ _ hw (lv_sub hl [0, 1, 2, 3, 4] rfl)
    · have h := it_f h hc
      refine lv_aload_n hC.x hC.b dX3_latestYear_14 rfl (lv_at hl 2 rfl) ?_
      refine lv_iload hC.x hC.b dX3_latestYear_15 (lv_at hl 0 rfl) ?_
      refine lv_iload_n hC.x hC.b dX3_latestYear_17 rfl (lv_at hl 3 rfl) ?_
      refine lv_iload_n hC.x hC.b dX3_latestYear_18 rfl (lv_at hl 4 rfl) ?_
      obtain ⟨r19, g19, hq, h⟩ := bd2_t h
      refine x_goi hC hw (x_runV hC hw (c_X3_knowsAs (Γ := Γ) (l := l) hC.2.2.2.2 hq) (cwV 3 hC.t gX3_latestYear_X3_knowsAs rfl rfl rfl (by decide +kernel) ⟨Nat.le_of_ble_eq_true rfl, Nat.le_of_ble_eq_true rfl⟩) (As := [.int (v4), .int (c1), .int (c2)]) (by decide) (k_E3 _ _ _) rfl rfl rfl hl.1 (Nat.le_of_ble_eq_true rfl) dX3_latestYear_19 hcs) (fun H locs hw => ?_)
      refine lv_if_eq (tgt := 39) hC.x hC.b dX3_latestYear_22 (by decide) (fun hc => ?_) (fun hc => ?_)
      · have h := it_t h hc
        refine lv_iinc (v := v4 + (1 : Int32)) (lv' := [(4, .int (v4 + (1 : Int32))), (3, .int (v3)), (0, .ref (k_ad Γ 3 (0))), (1, .int (c1)), (2, .int (c2))]) hC.x hC.b dX3_latestYear_39 hl (k := 0) rfl rfl (by decide) rfl (fun ls hl => ?_)
        refine lv_goto (tgt := 5) hC.x hC.b dX3_latestYear_42 (by decide) ?_
        exact ih _ _ _ _ _ _ h _ _ _ hw (lv_sub hl [0, 1, 2, 3, 4] rfl) kk
      · have h := it_f h hc
        refine lv_iload_n hC.x hC.b dX3_latestYear_25 rfl (lv_at hl 1 rfl) ?_
        refine lv_aload_n hC.x hC.b dX3_latestYear_26 rfl (lv_at hl 2 rfl) ?_
        refine x_get hC hw (k := 2) (T := TX3) (by decide) (k_E3 _ _ _) in_X3_latestYear_X3 rfl (by decide) lk_X3_latestYear_f20 rfl rfl dX3_latestYear_27 ?_
        refine lv_iload hC.x hC.b dX3_latestYear_30 (lv_at hl 0 rfl) ?_
        obtain ⟨hg1, h⟩ := gd_t h
        have hr1 := k_ci_lt (t := 18) (i := 0) rfl (by decide) hg1
        refine x_aald hC hw (t := 18) rfl (by decide) (by decide) hg1 dX3_latestYear_32 ?_
        refine lv_iload_n hC.x hC.b dX3_latestYear_33 rfl (lv_at hl 3 rfl) ?_
        obtain ⟨hg2, h⟩ := gd_t h
        refine x_iald hC hw rfl hr1 hg2 dX3_latestYear_34 ?_
        refine va_mmax hC.x hC.b (hC.n.trans hl.1.symm) hC.o (hC.t _ lk_X3_latestYear_m54) (hC.t _ lk_X3_latestYear_s54) (hC.t _ lk_X3_latestYear_imath) (hC.t _ lk_X3_latestYear_e54) (Nat.le_of_ble_eq_true rfl) (Nat.le_of_ble_eq_true rfl) hcs.1 hcs.2 dX3_latestYear_35 ?_
        refine lv_istore_n (lv' := [(3, .int (k_max v3 (g19 23 v4.toNatClampNeg c1.toNatClampNeg))), (4, .int (v4)), (0, .ref (k_ad Γ 3 (0))), (1, .int (c1)), (2, .int (c2))]) hC.x hC.b dX3_latestYear_38 rfl hl (by decide) rfl (fun ls hl => ?_)
        refine lv_iinc (v := v4 + (1 : Int32)) (lv' := [(4, .int (v4 + (1 : Int32))), (3, .int (k_max v3 (g19 23 v4.toNatClampNeg c1.toNatClampNeg))), (0, .ref (k_ad Γ 3 (0))), (1, .int (c1)), (2, .int (c2))]) hC.x hC.b dX3_latestYear_39 hl (k := 1) rfl rfl (by decide) rfl (fun ls hl => ?_)
        refine lv_goto (tgt := 5) hC.x hC.b dX3_latestYear_42 (by decide) ?_
        exact ih _ _ _ _ _ _ h _ _ _ hw (lv_sub hl [0, 1, 2, 3, 4] rfl) kk

set_option maxRecDepth 100000 in
set_option maxHeartbeats 4000000 in
theorem c_X3_latestYear {Γ : k_Pm} {l : Launch} (hl0 : l.stackTraces = false) {x1 : Int32} {x2 : Int32}  {g : Gt} {r : Int32} {g2 : Gt} (h : f_X3_latestYear x1 x2 g = some (r, g2)) : k_CI Γ l yX3_latestYear wsX3_latestYear rm_X3_latestYear [.ref (k_ad Γ 3 (0)), .int (x1), .int (x2)] g r g2 := by
  intro sz
  refine Met.ofW (cc := cX3_latestYear) (maxL := 5) (ret := (some .int)) (by decide) rfl ?_
  intro p e s m args below meth c s₁ B hml hv
  obtain ⟨rfl, rfl, hP, hKS⟩ := hv
  have hr := B.returns
  have hlocks := B.notSynchronized
  have hC : k_C Γ (k_A Γ s.heap.size) p l s m _ c cX3_latestYear 5 wsX3_latestYear RX3 := k_C.of ⟨B.exec, B.bytes, hml, findClass_of_methodNamed B.named, atoms_spec (ws := wsX3_latestYear) B.pre⟩ hKS hl0
  have hw : k_St Γ (k_A Γ s.heap.size) s [] g s.heap [] := k_St.of hKS hP
  have hl := lv_entry ([.ref (k_ad Γ 3 (0)), .int (x1), .int (x2)] : List Value) (n := 5) (Nat.le_of_ble_eq_true rfl)
  rw [lg_entry_eq]
  generalize (lg_sl ([.ref (k_ad Γ 3 (0)), .int (x1), .int (x2)] : List Value) ++ List.replicate (5 - (lg_sl ([.ref (k_ad Γ 3 (0)), .int (x1), .int (x2)] : List Value)).length) Slot.unset).toArray = ls at hl ⊢
  have hl : lv_has ls 5 [(0, .ref (k_ad Γ 3 (0))), (1, .int (x1)), (2, .int (x2))] := hl
  change W p l e rm_X3_latestYear _ _ _ _ _ _ _ _ _ _ _ _
  unfold f_X3_latestYear at h
  refine lv_iconst (v := (-1 : Int32)) hC.x hC.b dX3_latestYear_0 (by decide) ?_
  refine lv_istore_n (lv' := [(3, .int ((-1 : Int32))), (0, .ref (k_ad Γ 3 (0))), (1, .int (x1)), (2, .int (x2))]) hC.x hC.b dX3_latestYear_1 rfl hl (by decide) rfl (fun ls hl => ?_)
  refine lv_iconst (v := (0 : Int32)) hC.x hC.b dX3_latestYear_2 (by decide) ?_
  refine lv_istore (lv' := [(4, .int ((0 : Int32))), (3, .int ((-1 : Int32))), (0, .ref (k_ad Γ 3 (0))), (1, .int (x1)), (2, .int (x2))]) hC.x hC.b dX3_latestYear_3 hl (by decide) rfl (fun ls hl => ?_)
  obtain ⟨w5_3, w5_4, g5, hq, h⟩ := bd3_t h
  refine w_X3_latestYear_5 hC ⟨by decide, by decide⟩  k_N _ _ _ _ _ _ hq _ _ _ hw (lv_sub hl [0, 1, 2, 3, 4] rfl) (fun H locs ls hw hl => ?_)
  refine lv_iload_n hC.x hC.b dX3_latestYear_45 rfl (lv_at hl 1 rfl) ?_
  obtain ⟨rfl, rfl⟩ := sm2 h
  exact x_iret hC hw hr hlocks (by decide) (by decide) dX3_latestYear_46
abbrev rm_X3_outspeaks : Room := { frames := 3, cells := 0, slots := 0, locals := 69 }
theorem in_X3_outspeaks_X3 : ∀ w ∈ wsX30, w ∈ wsX3_outspeaks := fun _ h => List.mem_cons_of_mem _ (List.mem_append_right _ (h))
set_option maxRecDepth 20000 in
theorem lk_X3_outspeaks_f17 : Cond.fieldLink RX3 17 "KnotArchive$Witnesses" "numbers" "[[I" ∈ wsX3_outspeaks := by decide +kernel
set_option maxRecDepth 100000 in
set_option maxHeartbeats 4000000 in
theorem c_X3_outspeaks {Γ : k_Pm} {l : Launch} (hl0 : l.stackTraces = false) {x1 : Int32} {x2 : Int32} {x3 : Int32}  {g : Gt} {r : Int32} {g2 : Gt} (h : f_X3_outspeaks x1 x2 x3 g = some (r, g2)) : k_CI Γ l yX3_outspeaks wsX3_outspeaks rm_X3_outspeaks [.ref (k_ad Γ 3 (0)), .int (x1), .int (x2), .int (x3)] g r g2 := by
  intro sz
  refine Met.ofW (cc := cX3_outspeaks) (maxL := 8) (ret := (some .boolean)) (by decide) rfl ?_
  intro p e s m args below meth c s₁ B hml hv
  obtain ⟨rfl, rfl, hP, hKS⟩ := hv
  have hr := B.returns
  have hlocks := B.notSynchronized
  have hC : k_C Γ (k_A Γ s.heap.size) p l s m _ c cX3_outspeaks 8 wsX3_outspeaks RX3 := k_C.of ⟨B.exec, B.bytes, hml, findClass_of_methodNamed B.named, atoms_spec (ws := wsX3_outspeaks) B.pre⟩ hKS hl0
  have hw : k_St Γ (k_A Γ s.heap.size) s [] g s.heap [] := k_St.of hKS hP
  have hl := lv_entry ([.ref (k_ad Γ 3 (0)), .int (x1), .int (x2), .int (x3)] : List Value) (n := 8) (Nat.le_of_ble_eq_true rfl)
  rw [lg_entry_eq]
  generalize (lg_sl ([.ref (k_ad Γ 3 (0)), .int (x1), .int (x2), .int (x3)] : List Value) ++ List.replicate (8 - (lg_sl ([.ref (k_ad Γ 3 (0)), .int (x1), .int (x2), .int (x3)] : List Value)).length) Slot.unset).toArray = ls at hl ⊢
  have hl : lv_has ls 8 [(0, .ref (k_ad Γ 3 (0))), (1, .int (x1)), (2, .int (x2)), (3, .int (x3))] := hl
  change W p l e rm_X3_outspeaks _ _ _ _ _ _ _ _ _ _ _ _
  unfold f_X3_outspeaks at h
  refine lv_aload_n hC.x hC.b dX3_outspeaks_0 rfl (lv_at hl 0 rfl) ?_
  refine x_get hC hw (k := 1) (T := TX3) (by decide) (k_E3 _ _ _) in_X3_outspeaks_X3 rfl (by decide) lk_X3_outspeaks_f17 rfl rfl dX3_outspeaks_1 ?_
  refine lv_iload_n hC.x hC.b dX3_outspeaks_4 rfl (lv_at hl 1 rfl) ?_
  obtain ⟨hg1, h⟩ := gd_t h
  have hr1 := k_ci_lt (t := 17) (i := 0) rfl (by decide) hg1
  refine x_aald hC hw (t := 17) rfl (by decide) (by decide) hg1 dX3_outspeaks_5 ?_
  refine lv_iload_n hC.x hC.b dX3_outspeaks_6 rfl (lv_at hl 3 rfl) ?_
  obtain ⟨hg2, h⟩ := gd_t h
  refine x_iald hC hw rfl hr1 hg2 dX3_outspeaks_7 ?_
  refine lv_istore (lv' := [(4, .int (g 22 x1.toNatClampNeg x3.toNatClampNeg)), (0, .ref (k_ad Γ 3 (0))), (1, .int (x1)), (2, .int (x2)), (3, .int (x3))]) hC.x hC.b dX3_outspeaks_8 hl (by decide) rfl (fun ls hl => ?_)
  refine lv_aload_n hC.x hC.b dX3_outspeaks_10 rfl (lv_at hl 1 rfl) ?_
  refine x_get hC hw (k := 1) (T := TX3) (by decide) (k_E3 _ _ _) in_X3_outspeaks_X3 rfl (by decide) lk_X3_outspeaks_f17 rfl rfl dX3_outspeaks_11 ?_
  refine lv_iload_n hC.x hC.b dX3_outspeaks_14 rfl (lv_at hl 3 rfl) ?_
  obtain ⟨hg3, h⟩ := gd_t h
  have hr2 := k_ci_lt (t := 17) (i := 0) rfl (by decide) hg3
  refine x_aald hC hw (t := 17) rfl (by decide) (by decide) hg3 dX3_outspeaks_15 ?_
  refine lv_iload_n hC.x hC.b dX3_outspeaks_16 rfl (lv_at hl 4 rfl) ?_
  obtain ⟨hg4, h⟩ := gd_t h
  refine x_iald hC hw rfl hr2 hg4 dX3_outspeaks_17 ?_
  refine lv_istore (lv' := [(5, .int (g 22 x2.toNatClampNeg x3.toNatClampNeg)), (4, .int (g 22 x1.toNatClampNeg x3.toNatClampNeg)), (0, .ref (k_ad Γ 3 (0))), (1, .int (x1)), (2, .int (x2)), (3, .int (x3))]) hC.x hC.b dX3_outspeaks_18 hl (by decide) rfl (fun ls hl => ?_)
  refine lv_aload_n hC.x hC.b dX3_outspeaks_20 rfl (lv_at hl 2 rfl) ?_
  refine lv_iload_n hC.x hC.b dX3_outspeaks_21 rfl (lv_at hl 5 rfl) ?_
  refine lv_iload hC.x hC.b dX3_outspeaks_22 (lv_at hl 1 rfl) ?_
  obtain ⟨r24, g24, hq, h⟩ := bd2_t h
  refine x_goi hC hw (x_runV hC hw (c_X3_jointTrust (Γ := Γ) (l := l) hC.2.2.2.2 hq) (cwV 2 hC.t gX3_outspeaks_X3_jointTrust rfl rfl rfl (by decide +kernel) ⟨Nat.le_of_ble_eq_true rfl, Nat.le_of_ble_eq_true rfl⟩) (As := [.int (x3), .int (g 22 x1.toNatClampNeg x3.toNatClampNeg)]) (by decide) (k_E3 _ _ _) rfl rfl rfl hl.1 (Nat.le_of_ble_eq_true rfl) dX3_outspeaks_24 ⟨by decide, by decide⟩) (fun H locs hw => ?_)
  refine lv_aload_n hC.x hC.b dX3_outspeaks_27 rfl (lv_at hl 2 rfl) ?_
  refine lv_iload_n hC.x hC.b dX3_outspeaks_28 rfl (lv_at hl 5 rfl) ?_
  refine lv_iload hC.x hC.b dX3_outspeaks_29 (lv_at hl 0 rfl) ?_
  obtain ⟨r31, g31, hq, h⟩ := bd2_t h
  refine x_goi hC hw (x_runV hC hw (c_X3_jointTrust (Γ := Γ) (l := l) hC.2.2.2.2 hq) (cwV 2 hC.t gX3_outspeaks_X3_jointTrust rfl rfl rfl (by decide +kernel) ⟨Nat.le_of_ble_eq_true rfl, Nat.le_of_ble_eq_true rfl⟩) (As := [.int (x3), .int (g 22 x2.toNatClampNeg x3.toNatClampNeg)]) (by decide) (k_E3 _ _ _) rfl rfl rfl hl.1 (Nat.le_of_ble_eq_true rfl) dX3_outspeaks_31 ⟨by decide, by decide⟩) (fun H locs hw => ?_)
  obtain ⟨r34, g34, hq, h⟩ := bd2_t h
  refine x_goi hC hw (x_runS hC hw (c_J6_compare_7cf53 (Γ := Γ) (l := l) hC.2.2.2.2 hq) (va_cwS 2 hC.t gX3_outspeaks_J6_compare_7cf53 rfl rfl rfl (by decide +kernel) ⟨Nat.le_of_ble_eq_true rfl, Nat.le_of_ble_eq_true rfl⟩) (As := [.int (r24), .int (r31)]) rfl hl.1 (Nat.le_of_ble_eq_true rfl) dX3_outspeaks_34 ⟨by decide, by decide⟩) (fun H locs hw => ?_)
  refine lv_istore (lv' := [(6, .int (r34)), (5, .int (g 22 x2.toNatClampNeg x3.toNatClampNeg)), (4, .int (g 22 x1.toNatClampNeg x3.toNatClampNeg)), (0, .ref (k_ad Γ 3 (0))), (1, .int (x1)), (2, .int (x2)), (3, .int (x3))]) hC.x hC.b dX3_outspeaks_37 hl (by decide) rfl (fun ls hl => ?_)
  refine lv_iload hC.x hC.b dX3_outspeaks_39 (lv_at hl 0 rfl) ?_
  refine lv_if_eq (tgt := 55) hC.x hC.b dX3_outspeaks_41 (by decide) (fun hc => ?_) (fun hc => ?_)
  · have h := it_t h hc
    refine lv_aload_n hC.x hC.b dX3_outspeaks_55 rfl (lv_at hl 3 rfl) ?_
    refine lv_iload_n hC.x hC.b dX3_outspeaks_56 rfl (lv_at hl 6 rfl) ?_
    refine lv_iload hC.x hC.b dX3_outspeaks_57 (lv_at hl 2 rfl) ?_
    obtain ⟨r59, g59, hq, h⟩ := bd2_t h
    refine x_goi hC hw (x_runV hC hw (c_X3_latestYear (Γ := Γ) (l := l) hC.2.2.2.2 hq) (cwV 2 hC.t gX3_outspeaks_X3_latestYear rfl rfl rfl (by decide +kernel) ⟨Nat.le_of_ble_eq_true rfl, Nat.le_of_ble_eq_true rfl⟩) (As := [.int (x3), .int (g 22 x1.toNatClampNeg x3.toNatClampNeg)]) (by decide) (k_E3 _ _ _) rfl rfl rfl hl.1 (Nat.le_of_ble_eq_true rfl) dX3_outspeaks_59 ⟨by decide, by decide⟩) (fun H locs hw => ?_)
    refine lv_aload_n hC.x hC.b dX3_outspeaks_62 rfl (lv_at hl 3 rfl) ?_
    refine lv_iload_n hC.x hC.b dX3_outspeaks_63 rfl (lv_at hl 6 rfl) ?_
    refine lv_iload hC.x hC.b dX3_outspeaks_64 (lv_at hl 1 rfl) ?_
    obtain ⟨r66, g66, hq, h⟩ := bd2_t h
    refine x_goi hC hw (x_runV hC hw (c_X3_latestYear (Γ := Γ) (l := l) hC.2.2.2.2 hq) (cwV 2 hC.t gX3_outspeaks_X3_latestYear rfl rfl rfl (by decide +kernel) ⟨Nat.le_of_ble_eq_true rfl, Nat.le_of_ble_eq_true rfl⟩) (As := [.int (x3), .int (g 22 x2.toNatClampNeg x3.toNatClampNeg)]) (by decide) (k_E3 _ _ _) rfl rfl rfl hl.1 (Nat.le_of_ble_eq_true rfl) dX3_outspeaks_66 ⟨by decide, by decide⟩) (fun H locs hw => ?_)
    obtain ⟨r69, g69, hq, h⟩ := bd2_t h
    refine x_goi hC hw (x_runS hC hw (c_J6_compare_7cf53 (Γ := Γ) (l := l) hC.2.2.2.2 hq) (va_cwS 2 hC.t gX3_outspeaks_J6_compare_7cf53 rfl rfl rfl (by decide +kernel) ⟨Nat.le_of_ble_eq_true rfl, Nat.le_of_ble_eq_true rfl⟩) (As := [.int (r59), .int (r66)]) rfl hl.1 (Nat.le_of_ble_eq_true rfl) dX3_outspeaks_69 ⟨by decide, by decide⟩) (fun H locs hw => ?_)
    refine lv_istore (lv' := [(7, .int (r69)), (6, .int (r34)), (5, .int (g 22 x2.toNatClampNeg x3.toNatClampNeg)), (4, .int (g 22 x1.toNatClampNeg x3.toNatClampNeg)), (0, .ref (k_ad Γ 3 (0))), (1, .int (x1)), (2, .int (x2)), (3, .int (x3))]) hC.x hC.b dX3_outspeaks_72 hl (by decide) rfl (fun ls hl => ?_)
    refine lv_iload hC.x hC.b dX3_outspeaks_74 (lv_at hl 0 rfl) ?_
    refine lv_if_eq (tgt := 90) hC.x hC.b dX3_outspeaks_76 (by decide) (fun hc => ?_) (fun hc => ?_)
    · have h := it_t h hc
      refine lv_iload hC.x hC.b dX3_outspeaks_90 (lv_at hl 3 rfl) ?_
      refine lv_iload hC.x hC.b dX3_outspeaks_92 (lv_at hl 2 rfl) ?_
      refine lv_icmp_ge (tgt := 101) hC.x hC.b dX3_outspeaks_94 (by decide) (fun hc => ?_) (fun hc => ?_)
      · have h := it_t h hc
        refine lv_iconst (v := (0 : Int32)) hC.x hC.b dX3_outspeaks_101 (by decide) ?_
        obtain ⟨rfl, rfl⟩ := sm2 h
        exact x_zret hC hw hr hlocks rfl (by decide) (by decide) dX3_outspeaks_102
      · have h := it_f h hc
        refine lv_iconst (v := (1 : Int32)) hC.x hC.b dX3_outspeaks_97 (by decide) ?_
        refine lv_goto (tgt := 102) hC.x hC.b dX3_outspeaks_98 (by decide) ?_
        obtain ⟨rfl, rfl⟩ := sm2 h
        exact x_zret hC hw hr hlocks rfl (by decide) (by decide) dX3_outspeaks_102
    · have h := it_f h hc
      refine lv_iload hC.x hC.b dX3_outspeaks_79 (lv_at hl 0 rfl) ?_
      refine lv_if_le (tgt := 88) hC.x hC.b dX3_outspeaks_81 (by decide) (fun hc => ?_) (fun hc => ?_)
      · have h := it_t h hc
        refine lv_iconst (v := (0 : Int32)) hC.x hC.b dX3_outspeaks_88 (by decide) ?_
        obtain ⟨rfl, rfl⟩ := sm2 h
        exact x_zret hC hw hr hlocks rfl (by decide) (by decide) dX3_outspeaks_89
      · have h := it_f h hc
        refine lv_iconst (v := (1 : Int32)) hC.x hC.b dX3_outspeaks_84 (by decide) ?_
        refine lv_goto (tgt := 89) hC.x hC.b dX3_outspeaks_85 (by decide) ?_
        obtain ⟨rfl, rfl⟩ := sm2 h
        exact x_zret hC hw hr hlocks rfl (by decide) (by decide) dX3_outspeaks_89
  · have h := it_f h hc
    refine lv_iload hC.x hC.b dX3_outspeaks_44 (lv_at hl 0 rfl) ?_
    refine lv_if_le (tgt := 53) hC.x hC.b dX3_outspeaks_46 (by decide) (fun hc => ?_) (fun hc => ?_)
    · have h := it_t h hc
      refine lv_iconst (v := (0 : Int32)) hC.x hC.b dX3_outspeaks_53 (by decide) ?_
      obtain ⟨rfl, rfl⟩ := sm2 h
      exact x_zret hC hw hr hlocks rfl (by decide) (by decide) dX3_outspeaks_54
    · have h := it_f h hc
      refine lv_iconst (v := (1 : Int32)) hC.x hC.b dX3_outspeaks_49 (by decide) ?_
      refine lv_goto (tgt := 54) hC.x hC.b dX3_outspeaks_50 (by decide) ?_
      obtain ⟨rfl, rfl⟩ := sm2 h
      exact x_zret hC hw hr hlocks rfl (by decide) (by decide) dX3_outspeaks_54
abbrev rm_X3_mostTrusted : Room := { frames := 4, cells := 0, slots := 0, locals := 96 }
theorem in_X3_mostTrusted_X3 : ∀ w ∈ wsX30, w ∈ wsX3_mostTrusted := fun _ h => List.mem_cons_of_mem _ (List.mem_append_right _ (h))
set_option maxRecDepth 20000 in
theorem lk_X3_mostTrusted_f23 : Cond.fieldLink RX3 23 "KnotArchive$Witnesses" "size" "I" ∈ wsX3_mostTrusted := by decide +kernel
set_option maxRecDepth 100000 in
set_option maxHeartbeats 4000000 in
theorem w_X3_mostTrusted_4 {Γ : k_Pm} {A0 : Nat → Prop} {p : Program} {l : Launch} {e : Env} {s : State} {m : MethodId} {args : Array Value} {below : List Frame} {meth : Method} {c : Code} {cells slots : Nat} {Q : State → Prop} {tmp : va_W} {c1 : Int32} (hC : k_C Γ A0 p l s m args c cX3_mostTrusted 4 wsX3_mostTrusted RX3) (hcs : cells ≤ rm_X3_mostTrusted.cells ∧ slots ≤ rm_X3_mostTrusted.slots) : ∀ (n : Nat) (v2 : Int32) (v3 : Int32) (g : Gt) (w2 : Int32) (w3 : Int32) (g2 : Gt), f_X3_mostTrusted_4 c1 n v2 v3 g = some (w2, w3, g2) → ∀ (H : Heap) (locs : List Loc) (ls : Array Slot), k_St Γ A0 s tmp g H locs → lv_has ls 4 [(3, .int (v3)), (2, .int (v2)), (0, .ref (k_ad Γ 3 (0))), (1, .int (c1))] → (∀ (H1 : Heap) (locs1 : List Loc) (ls1 : Array Slot), k_St Γ A0 s tmp g2 H1 locs1 → lv_has ls1 4 [(3, .int (w3)), (2, .int (w2)), (0, .ref (k_ad Γ 3 (0))), (1, .int (c1))] → W p l e rm_X3_mostTrusted s m args below meth c H1 locs1 cells slots Q (F0 m 44 ls1 [])) → W p l e rm_X3_mostTrusted s m args below meth c H locs cells slots Q (F0 m 4 ls []) := by
  intro n
  induction n with
  | zero => intro v2 v3 g w2 w3 g2 h; rw [f_X3_mostTrusted_4] at h; cases h
  | succ n ih =>
    intro v2 v3 g w2 w3 g2 h H locs ls hw hl kk
    rw [f_X3_mostTrusted_4] at h
    refine lv_iload_n hC.x hC.b dX3_mostTrusted_4 rfl (lv_at hl 0 rfl) ?_
    refine lv_aload_n hC.x hC.b dX3_mostTrusted_5 rfl (lv_at hl 2 rfl) ?_
    refine x_get hC hw (k := 3) (T := TX3) (by decide) (k_E3 _ _ _) in_X3_mostTrusted_X3 rfl (by decide) lk_X3_mostTrusted_f23 rfl rfl dX3_mostTrusted_6 ?_
    refine lv_icmp_ge (tgt := 44) hC.x hC.b dX3_mostTrusted_9 (by decide) (fun hc => ?_) (fun hc => ?_)
    · have h := it_t h hc
      obtain ⟨rfl, rfl, rfl⟩ := sm3 h
      exact kk _ _ _ hw (lv_sub hl [0, 1, 2, 3] rfl)
    · have h := it_f h hc
      refine lv_aload_n hC.x hC.b dX3_mostTrusted_12 rfl (lv_at hl 2 rfl) ?_
      refine lv_iload_n hC.x hC.b dX3_mostTrusted_13 rfl (lv_at hl 0 rfl) ?_
      refine lv_iload_n hC.x hC.b dX3_mostTrusted_14 rfl (lv_at hl 3 rfl) ?_
      obtain ⟨r15, g15, hq, h⟩ := bd2_t h
      refine x_goi hC hw (x_runV hC hw (c_X3_knows (Γ := Γ) (l := l) hC.2.2.2.2 hq) (cwV 2 hC.t gX3_mostTrusted_X3_knows rfl rfl rfl (by decide +kernel) ⟨Nat.le_of_ble_eq_true rfl, Nat.le_of_ble_eq_true rfl⟩) (As := [.int (v3), .int (c1)]) (by decide) (k_E3 _ _ _) rfl rfl rfl hl.1 (Nat.le_of_ble_eq_true rfl) dX3_mostTrusted_15 hcs) (fun H locs hw => ?_)
      refine lv_if_eq (tgt := 38) hC.x hC.b dX3_mostTrusted_18 (by decide) (fun hc => ?_) (fun hc => ?_)
      · have h := it_t h hc
        refine lv_iinc (v := v3 + (1 : Int32)) (lv' := [(3, .int (v3 + (1 : Int32))), (2, .int (v2)), (0, .ref (k_ad Γ 3 (0))), (1, .int (c1))]) hC.x hC.b dX3_mostTrusted_38 hl (k := 0) rfl rfl (by decide) rfl (fun ls hl => ?_)
        refine lv_goto (tgt := 4) hC.x hC.b dX3_mostTrusted_41 (by decide) ?_
        exact ih _ _ _ _ _ _ h _ _ _ hw (lv_sub hl [0, 1, 2, 3] rfl) kk
      · have h := it_f h hc
        refine lv_iload_n hC.x hC.b dX3_mostTrusted_21 rfl (lv_at hl 1 rfl) ?_
        refine lv_iconst (v := (-1 : Int32)) hC.x hC.b dX3_mostTrusted_22 (by decide) ?_
        refine lv_icmp_eq (tgt := 36) hC.x hC.b dX3_mostTrusted_23 (by decide) (fun hc => ?_) (fun hc => ?_)
        · have h := it_t h hc
          refine lv_iload_n hC.x hC.b dX3_mostTrusted_36 rfl (lv_at hl 0 rfl) ?_
          refine lv_istore_n (lv' := [(2, .int (v3)), (3, .int (v3)), (0, .ref (k_ad Γ 3 (0))), (1, .int (c1))]) hC.x hC.b dX3_mostTrusted_37 rfl hl (by decide) rfl (fun ls hl => ?_)
          refine lv_iinc (v := v3 + (1 : Int32)) (lv' := [(3, .int (v3 + (1 : Int32))), (2, .int (v3)), (0, .ref (k_ad Γ 3 (0))), (1, .int (c1))]) hC.x hC.b dX3_mostTrusted_38 hl (k := 1) rfl rfl (by decide) rfl (fun ls hl => ?_)
          refine lv_goto (tgt := 4) hC.x hC.b dX3_mostTrusted_41 (by decide) ?_
          exact ih _ _ _ _ _ _ h _ _ _ hw (lv_sub hl [0, 1, 2, 3] rfl) kk
        · have h := it_f h hc
          refine lv_aload_n hC.x hC.b dX3_mostTrusted_26 rfl (lv_at hl 2 rfl) ?_
          refine lv_iload_n hC.x hC.b dX3_mostTrusted_27 rfl (lv_at hl 0 rfl) ?_
          refine lv_iload_n hC.x hC.b dX3_mostTrusted_28 rfl (lv_at hl 1 rfl) ?_
          refine lv_iload_n hC.x hC.b dX3_mostTrusted_29 rfl (lv_at hl 3 rfl) ?_
          obtain ⟨r30, g30, hq, h⟩ := bd2_t h
          refine x_goi hC hw (x_runV hC hw (c_X3_outspeaks (Γ := Γ) (l := l) hC.2.2.2.2 hq) (cwV 3 hC.t gX3_mostTrusted_X3_outspeaks rfl rfl rfl (by decide +kernel) ⟨Nat.le_of_ble_eq_true rfl, Nat.le_of_ble_eq_true rfl⟩) (As := [.int (v3), .int (v2), .int (c1)]) (by decide) (k_E3 _ _ _) rfl rfl rfl hl.1 (Nat.le_of_ble_eq_true rfl) dX3_mostTrusted_30 hcs) (fun H locs hw => ?_)
          refine lv_if_eq (tgt := 38) hC.x hC.b dX3_mostTrusted_33 (by decide) (fun hc => ?_) (fun hc => ?_)
          · have h := it_t h hc
            refine lv_iinc (v := v3 + (1 : Int32)) (lv' := [(3, .int (v3 + (1 : Int32))), (2, .int (v2)), (0, .ref (k_ad Γ 3 (0))), (1, .int (c1))]) hC.x hC.b dX3_mostTrusted_38 hl (k := 0) rfl rfl (by decide) rfl (fun ls hl => ?_)
            refine lv_goto (tgt := 4) hC.x hC.b dX3_mostTrusted_41 (by decide) ?_
            exact ih _ _ _ _ _ _ h _ _ _ hw (lv_sub hl [0, 1, 2, 3] rfl) kk
          · have h := it_f h hc
            refine lv_iload_n hC.x hC.b dX3_mostTrusted_36 rfl (lv_at hl 0 rfl) ?_
            refine lv_istore_n (lv' := [(2, .int (v3)), (3, .int (v3)), (0, .ref (k_ad Γ 3 (0))), (1, .int (c1))]) hC.x hC.b dX3_mostTrusted_37 rfl hl (by decide) rfl (fun ls hl => ?_)
            refine lv_iinc (v := v3 + (1 : Int32)) (lv' := [(3, .int (v3 + (1 : Int32))), (2, .int (v3)), (0, .ref (k_ad Γ 3 (0))), (1, .int (c1))]) hC.x hC.b dX3_mostTrusted_38 hl (k := 1) rfl rfl (by decide) rfl (fun ls hl => ?_)
            refine lv_goto (tgt := 4) hC.x hC.b dX3_mostTrusted_41 (by decide) ?_
            exact ih _ _ _ _ _ _ h _ _ _ hw (lv_sub hl [0, 1, 2, 3] rfl) kk

set_option maxRecDepth 100000 in
set_option maxHeartbeats 4000000 in
theorem c_X3_mostTrusted {Γ : k_Pm} {l : Launch} (hl0 : l.stackTraces = false) {x1 : Int32}  {g : Gt} {r : Int32} {g2 : Gt} (h : f_X3_mostTrusted x1 g = some (r, g2)) : k_CI Γ l yX3_mostTrusted wsX3_mostTrusted rm_X3_mostTrusted [.ref (k_ad Γ 3 (0)), .int (x1)] g r g2 := by
  intro sz
  refine Met.ofW (cc := cX3_mostTrusted) (maxL := 4) (ret := (some .int)) (by decide) rfl ?_
  intro p e s m args below meth c s₁ B hml hv
  obtain ⟨rfl, rfl, hP, hKS⟩ := hv
  have hr := B.returns
  have hlocks := B.notSynchronized
  have hC : k_C Γ (k_A Γ s.heap.size) p l s m _ c cX3_mostTrusted 4 wsX3_mostTrusted RX3 := k_C.of ⟨B.exec, B.bytes, hml, findClass_of_methodNamed B.named, atoms_spec (ws := wsX3_mostTrusted) B.pre⟩ hKS hl0
  have hw : k_St Γ (k_A Γ s.heap.size) s [] g s.heap [] := k_St.of hKS hP
  have hl := lv_entry ([.ref (k_ad Γ 3 (0)), .int (x1)] : List Value) (n := 4) (Nat.le_of_ble_eq_true rfl)
  rw [lg_entry_eq]
  generalize (lg_sl ([.ref (k_ad Γ 3 (0)), .int (x1)] : List Value) ++ List.replicate (4 - (lg_sl ([.ref (k_ad Γ 3 (0)), .int (x1)] : List Value)).length) Slot.unset).toArray = ls at hl ⊢
  have hl : lv_has ls 4 [(0, .ref (k_ad Γ 3 (0))), (1, .int (x1))] := hl
  change W p l e rm_X3_mostTrusted _ _ _ _ _ _ _ _ _ _ _ _
  unfold f_X3_mostTrusted at h
  refine lv_iconst (v := (-1 : Int32)) hC.x hC.b dX3_mostTrusted_0 (by decide) ?_
  refine lv_istore_n (lv' := [(2, .int ((-1 : Int32))), (0, .ref (k_ad Γ 3 (0))), (1, .int (x1))]) hC.x hC.b dX3_mostTrusted_1 rfl hl (by decide) rfl (fun ls hl => ?_)
  refine lv_iconst (v := (0 : Int32)) hC.x hC.b dX3_mostTrusted_2 (by decide) ?_
  refine lv_istore_n (lv' := [(3, .int ((0 : Int32))), (2, .int ((-1 : Int32))), (0, .ref (k_ad Γ 3 (0))), (1, .int (x1))]) hC.x hC.b dX3_mostTrusted_3 rfl hl (by decide) rfl (fun ls hl => ?_)
  obtain ⟨w4_2, w4_3, g4, hq, h⟩ := bd3_t h
  refine w_X3_mostTrusted_4 hC ⟨by decide, by decide⟩  k_N _ _ _ _ _ _ hq _ _ _ hw (lv_sub hl [0, 1, 2, 3] rfl) (fun H locs ls hw hl => ?_)
  refine lv_iload_n hC.x hC.b dX3_mostTrusted_44 rfl (lv_at hl 1 rfl) ?_
  obtain ⟨rfl, rfl⟩ := sm2 h
  exact x_iret hC hw hr hlocks (by decide) (by decide) dX3_mostTrusted_45
abbrev rm_X3_judge : Room := { frames := 2, cells := 0, slots := 0, locals := 45 }
theorem in_X3_judge_X3 : ∀ w ∈ wsX30, w ∈ wsX3_judge := fun _ h => List.mem_cons_of_mem _ (List.mem_append_right _ (h))
set_option maxRecDepth 20000 in
theorem lk_X3_judge_f23 : Cond.fieldLink RX3 23 "KnotArchive$Witnesses" "size" "I" ∈ wsX3_judge := by decide +kernel
set_option maxRecDepth 20000 in
theorem lk_X3_judge_f9 : Cond.fieldLink RX3 9 "KnotArchive$Witnesses" "trusts" "[I" ∈ wsX3_judge := by decide +kernel
set_option maxRecDepth 20000 in
theorem lk_X3_judge_m54 : Cond.methodLink RX3 54 Lib.Math.max.name ∈ wsX3_judge := by decide +kernel
set_option maxRecDepth 20000 in
theorem lk_X3_judge_s54 : Cond.static Lib.Math.max.name ∈ wsX3_judge := by decide +kernel
set_option maxRecDepth 20000 in
theorem lk_X3_judge_imath : Cond.initialized "java/lang/Math" ∈ wsX3_judge := by decide +kernel
set_option maxRecDepth 20000 in
theorem lk_X3_judge_e54 : Cond.code Lib.Math.max.name Lib.Math.max.code 2 (some .int) ∈ wsX3_judge := by decide +kernel
set_option maxRecDepth 20000 in
theorem lk_X3_judge_m59 : Cond.methodLink RX3 59 Lib.Math.min.name ∈ wsX3_judge := by decide +kernel
set_option maxRecDepth 20000 in
theorem lk_X3_judge_s59 : Cond.static Lib.Math.min.name ∈ wsX3_judge := by decide +kernel
set_option maxRecDepth 20000 in
theorem lk_X3_judge_e59 : Cond.code Lib.Math.min.name Lib.Math.min.code 2 (some .int) ∈ wsX3_judge := by decide +kernel
set_option maxRecDepth 100000 in
set_option maxHeartbeats 4000000 in
theorem w_X3_judge_2 {Γ : k_Pm} {A0 : Nat → Prop} {p : Program} {l : Launch} {e : Env} {s : State} {m : MethodId} {args : Array Value} {below : List Frame} {meth : Method} {c : Code} {cells slots : Nat} {Q : State → Prop} {tmp : va_W} {c1 : Int32} {c2 : Int32} (hC : k_C Γ A0 p l s m args c cX3_judge 4 wsX3_judge RX3) (hcs : cells ≤ rm_X3_judge.cells ∧ slots ≤ rm_X3_judge.slots) : ∀ (n : Nat) (v3 : Int32) (g : Gt) (w3 : Int32) (g2 : Gt), f_X3_judge_2 c1 c2 n v3 g = some (w3, g2) → ∀ (H : Heap) (locs : List Loc) (ls : Array Slot), k_St Γ A0 s tmp g H locs → lv_has ls 4 [(3, .int (v3)), (0, .ref (k_ad Γ 3 (0))), (1, .int (c1)), (2, .int (c2))] → (∀ (H1 : Heap) (locs1 : List Loc) (ls1 : Array Slot), k_St Γ A0 s tmp g2 H1 locs1 → lv_has ls1 4 [(3, .int (w3)), (0, .ref (k_ad Γ 3 (0))), (1, .int (c1)), (2, .int (c2))] → W p l e rm_X3_judge s m args below meth c H1 locs1 cells slots Q (F0 m 75 ls1 [])) → W p l e rm_X3_judge s m args below meth c H locs cells slots Q (F0 m 2 ls []) := by
  intro n
  induction n with
  | zero => intro v3 g w3 g2 h; rw [f_X3_judge_2] at h; cases h
  | succ n ih =>
    intro v3 g w3 g2 h H locs ls hw hl kk
    rw [f_X3_judge_2] at h
    refine lv_iload_n hC.x hC.b dX3_judge_2 rfl (lv_at hl 0 rfl) ?_
    refine lv_aload_n hC.x hC.b dX3_judge_3 rfl (lv_at hl 1 rfl) ?_
    refine x_get hC hw (k := 3) (T := TX3) (by decide) (k_E3 _ _ _) in_X3_judge_X3 rfl (by decide) lk_X3_judge_f23 rfl rfl dX3_judge_4 ?_
    refine lv_icmp_ge (tgt := 75) hC.x hC.b dX3_judge_7 (by decide) (fun hc => ?_) (fun hc => ?_)
    · have h := it_t h hc
      obtain ⟨rfl, rfl⟩ := sm2 h
      exact kk _ _ _ hw (lv_sub hl [0, 1, 2, 3] rfl)
    · have h := it_f h hc
      refine lv_aload_n hC.x hC.b dX3_judge_10 rfl (lv_at hl 1 rfl) ?_
      refine lv_iload_n hC.x hC.b dX3_judge_11 rfl (lv_at hl 0 rfl) ?_
      refine lv_iload_n hC.x hC.b dX3_judge_12 rfl (lv_at hl 2 rfl) ?_
      refine lv_iload_n hC.x hC.b dX3_judge_13 rfl (lv_at hl 3 rfl) ?_
      obtain ⟨r14, g14, hq, h⟩ := bd2_t h
      refine x_goi hC hw (x_runV hC hw (c_X3_knowsAs (Γ := Γ) (l := l) hC.2.2.2.2 hq) (cwV 3 hC.t gX3_judge_X3_knowsAs rfl rfl rfl (by decide +kernel) ⟨Nat.le_of_ble_eq_true rfl, Nat.le_of_ble_eq_true rfl⟩) (As := [.int (v3), .int (c1), .int (c2)]) (by decide) (k_E3 _ _ _) rfl rfl rfl hl.1 (Nat.le_of_ble_eq_true rfl) dX3_judge_14 hcs) (fun H locs hw => ?_)
      refine lv_if_eq (tgt := 42) hC.x hC.b dX3_judge_17 (by decide) (fun hc => ?_) (fun hc => ?_)
      · have h := it_t h hc
        refine lv_aload_n hC.x hC.b dX3_judge_42 rfl (lv_at hl 1 rfl) ?_
        refine lv_iload_n hC.x hC.b dX3_judge_43 rfl (lv_at hl 0 rfl) ?_
        refine lv_iload_n hC.x hC.b dX3_judge_44 rfl (lv_at hl 2 rfl) ?_
        obtain ⟨r45, g45, hq, h⟩ := bd2_t h
        refine x_goi hC hw (x_runV hC hw (c_X3_knows (Γ := Γ) (l := l) hC.2.2.2.2 hq) (cwV 2 hC.t gX3_judge_X3_knows rfl rfl rfl (by decide +kernel) ⟨Nat.le_of_ble_eq_true rfl, Nat.le_of_ble_eq_true rfl⟩) (As := [.int (v3), .int (c1)]) (by decide) (k_E3 _ _ _) rfl rfl rfl hl.1 (Nat.le_of_ble_eq_true rfl) dX3_judge_45 hcs) (fun H locs hw => ?_)
        refine lv_if_eq (tgt := 69) hC.x hC.b dX3_judge_48 (by decide) (fun hc => ?_) (fun hc => ?_)
        · have h := it_t h hc
          refine lv_iinc (v := v3 + (1 : Int32)) (lv' := [(3, .int (v3 + (1 : Int32))), (0, .ref (k_ad Γ 3 (0))), (1, .int (c1)), (2, .int (c2))]) hC.x hC.b dX3_judge_69 hl (k := 0) rfl rfl (by decide) rfl (fun ls hl => ?_)
          refine lv_goto (tgt := 2) hC.x hC.b dX3_judge_72 (by decide) ?_
          exact ih _ _ _ _ h _ _ _ hw (lv_sub hl [0, 1, 2, 3] rfl) kk
        · have h := it_f h hc
          refine lv_aload_n hC.x hC.b dX3_judge_51 rfl (lv_at hl 1 rfl) ?_
          refine x_get hC hw (k := 0) (T := TX3) (by decide) (k_E3 _ _ _) in_X3_judge_X3 rfl (by decide) lk_X3_judge_f9 rfl rfl dX3_judge_52 ?_
          refine lv_iload_n hC.x hC.b dX3_judge_55 rfl (lv_at hl 0 rfl) ?_
          refine lv_aload_n hC.x hC.b dX3_judge_56 rfl (lv_at hl 1 rfl) ?_
          refine x_get hC hw (k := 0) (T := TX3) (by decide) (k_E3 _ _ _) in_X3_judge_X3 rfl (by decide) lk_X3_judge_f9 rfl rfl dX3_judge_57 ?_
          refine lv_iload_n hC.x hC.b dX3_judge_60 rfl (lv_at hl 0 rfl) ?_
          obtain ⟨hg1, h⟩ := gd_t h
          refine x_iald hC hw rfl (by decide) hg1 dX3_judge_61 ?_
          refine lv_iconst (v := (1 : Int32)) hC.x hC.b dX3_judge_62 (by decide) ?_
          refine lv_isub hC.x hC.b dX3_judge_63 ?_
          refine lv_iconst (v := (0 : Int32)) hC.x hC.b dX3_judge_64 (by decide) ?_
          refine va_mmax hC.x hC.b (hC.n.trans hl.1.symm) hC.o (hC.t _ lk_X3_judge_m54) (hC.t _ lk_X3_judge_s54) (hC.t _ lk_X3_judge_imath) (hC.t _ lk_X3_judge_e54) (Nat.le_of_ble_eq_true rfl) (Nat.le_of_ble_eq_true rfl) hcs.1 hcs.2 dX3_judge_65 ?_
          obtain ⟨hg2, h⟩ := gd_t h
          refine x_iast hC hw rfl (by decide) hg2 dX3_judge_68 (fun H locs hw => ?_)
          refine lv_iinc (v := v3 + (1 : Int32)) (lv' := [(3, .int (v3 + (1 : Int32))), (0, .ref (k_ad Γ 3 (0))), (1, .int (c1)), (2, .int (c2))]) hC.x hC.b dX3_judge_69 hl (k := 0) rfl rfl (by decide) rfl (fun ls hl => ?_)
          refine lv_goto (tgt := 2) hC.x hC.b dX3_judge_72 (by decide) ?_
          exact ih _ _ _ _ h _ _ _ hw (lv_sub hl [0, 1, 2, 3] rfl) kk
      · have h := it_f h hc
        refine lv_aload_n hC.x hC.b dX3_judge_20 rfl (lv_at hl 1 rfl) ?_
        refine x_get hC hw (k := 0) (T := TX3) (by decide) (k_E3 _ _ _) in_X3_judge_X3 rfl (by decide) lk_X3_judge_f9 rfl rfl dX3_judge_21 ?_
        refine lv_iload_n hC.x hC.b dX3_judge_24 rfl (lv_at hl 0 rfl) ?_
        refine lv_aload_n hC.x hC.b dX3_judge_25 rfl (lv_at hl 1 rfl) ?_
        refine x_get hC hw (k := 0) (T := TX3) (by decide) (k_E3 _ _ _) in_X3_judge_X3 rfl (by decide) lk_X3_judge_f9 rfl rfl dX3_judge_26 ?_
        refine lv_iload_n hC.x hC.b dX3_judge_29 rfl (lv_at hl 0 rfl) ?_
        obtain ⟨hg3, h⟩ := gd_t h
        refine x_iald hC hw rfl (by decide) hg3 dX3_judge_30 ?_
        refine lv_iconst (v := (1 : Int32)) hC.x hC.b dX3_judge_31 (by decide) ?_
        refine lv_iadd hC.x hC.b dX3_judge_32 ?_
        refine lv_bipush (v := (20 : Int32)) hC.x hC.b dX3_judge_33 (by decide) ?_
        refine va_mmin hC.x hC.b (hC.n.trans hl.1.symm) hC.o (hC.t _ lk_X3_judge_m59) (hC.t _ lk_X3_judge_s59) (hC.t _ lk_X3_judge_imath) (hC.t _ lk_X3_judge_e59) (Nat.le_of_ble_eq_true rfl) (Nat.le_of_ble_eq_true rfl) hcs.1 hcs.2 dX3_judge_35 ?_
        obtain ⟨hg4, h⟩ := gd_t h
        refine x_iast hC hw rfl (by decide) hg4 dX3_judge_38 (fun H locs hw => ?_)
        refine lv_goto (tgt := 69) hC.x hC.b dX3_judge_39 (by decide) ?_
        refine lv_iinc (v := v3 + (1 : Int32)) (lv' := [(3, .int (v3 + (1 : Int32))), (0, .ref (k_ad Γ 3 (0))), (1, .int (c1)), (2, .int (c2))]) hC.x hC.b dX3_judge_69 hl (k := 0) rfl rfl (by decide) rfl (fun ls hl => ?_)
        refine lv_goto (tgt := 2) hC.x hC.b dX3_judge_72 (by decide) ?_
        exact ih _ _ _ _ h _ _ _ hw (lv_sub hl [0, 1, 2, 3] rfl) kk

set_option maxRecDepth 100000 in
set_option maxHeartbeats 4000000 in
theorem c_X3_judge {Γ : k_Pm} {l : Launch} (hl0 : l.stackTraces = false) {x1 : Int32} {x2 : Int32}  {g : Gt} {g2 : Gt} (h : f_X3_judge x1 x2 g = some (g2)) : k_CV Γ l yX3_judge wsX3_judge rm_X3_judge [.ref (k_ad Γ 3 (0)), .int (x1), .int (x2)] g g2 := by
  intro sz
  refine Met.ofW (cc := cX3_judge) (maxL := 4) (ret := none) (by decide) rfl ?_
  intro p e s m args below meth c s₁ B hml hv
  obtain ⟨rfl, rfl, hP, hKS⟩ := hv
  have hr := B.returns
  have hlocks := B.notSynchronized
  have hC : k_C Γ (k_A Γ s.heap.size) p l s m _ c cX3_judge 4 wsX3_judge RX3 := k_C.of ⟨B.exec, B.bytes, hml, findClass_of_methodNamed B.named, atoms_spec (ws := wsX3_judge) B.pre⟩ hKS hl0
  have hw : k_St Γ (k_A Γ s.heap.size) s [] g s.heap [] := k_St.of hKS hP
  have hl := lv_entry ([.ref (k_ad Γ 3 (0)), .int (x1), .int (x2)] : List Value) (n := 4) (Nat.le_of_ble_eq_true rfl)
  rw [lg_entry_eq]
  generalize (lg_sl ([.ref (k_ad Γ 3 (0)), .int (x1), .int (x2)] : List Value) ++ List.replicate (4 - (lg_sl ([.ref (k_ad Γ 3 (0)), .int (x1), .int (x2)] : List Value)).length) Slot.unset).toArray = ls at hl ⊢
  have hl : lv_has ls 4 [(0, .ref (k_ad Γ 3 (0))), (1, .int (x1)), (2, .int (x2))] := hl
  change W p l e rm_X3_judge _ _ _ _ _ _ _ _ _ _ _ _
  unfold f_X3_judge at h
  refine lv_iconst (v := (0 : Int32)) hC.x hC.b dX3_judge_0 (by decide) ?_
  refine lv_istore_n (lv' := [(3, .int ((0 : Int32))), (0, .ref (k_ad Γ 3 (0))), (1, .int (x1)), (2, .int (x2))]) hC.x hC.b dX3_judge_1 rfl hl (by decide) rfl (fun ls hl => ?_)
  obtain ⟨w2_3, g2, hq, h⟩ := bd2_t h
  refine w_X3_judge_2 hC ⟨by decide, by decide⟩  k_N _ _ _ _ hq _ _ _ hw (lv_sub hl [0, 1, 2, 3] rfl) (fun H locs ls hw hl => ?_)
  obtain rfl := sm1 h
  exact x_vret hC hw hr hlocks (by decide) (by decide) dX3_judge_75
