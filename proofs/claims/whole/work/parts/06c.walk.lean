/-! written by wip/whole/gen.py: the walks -/
abbrev rm_X5_thrown : Room := { frames := 0, cells := 0, slots := 0, locals := 0 }
theorem in_X5_thrown_X5 : ∀ w ∈ wsX50, w ∈ wsX5_thrown := fun _ h => List.mem_cons_of_mem _ (List.mem_append_right _ (h))
set_option maxRecDepth 20000 in
theorem lk_X5_thrown_f46 : Cond.fieldLink RX5 46 "KnotArchiveModel" "thrown" "I" ∈ wsX5_thrown := by decide +kernel
set_option maxRecDepth 100000 in
set_option maxHeartbeats 4000000 in
theorem c_X5_thrown {Γ : k_Pm} {l : Launch} (hl0 : l.stackTraces = false)   {g : Gt} {r : Int32} {g2 : Gt} (h : f_X5_thrown  g = some (r, g2)) : k_CI Γ l yX5_thrown wsX5_thrown rm_X5_thrown [.ref (k_ad Γ 5 (0))] g r g2 := by
  intro sz
  refine Met.ofW (cc := cX5_thrown) (maxL := 1) (ret := (some .int)) (by decide) rfl ?_
  intro p e s m args below meth c s₁ B hml hv
  obtain ⟨rfl, rfl, hP, hKS⟩ := hv
  have hr := B.returns
  have hlocks := B.notSynchronized
  have hC : k_C Γ (k_A Γ s.heap.size) p l s m _ c cX5_thrown 1 wsX5_thrown RX5 := k_C.of ⟨B.exec, B.bytes, hml, findClass_of_methodNamed B.named, atoms_spec (ws := wsX5_thrown) B.pre⟩ hKS hl0
  have hw : k_St Γ (k_A Γ s.heap.size) s [] g s.heap [] := k_St.of hKS hP
  have hl := lv_entry ([.ref (k_ad Γ 5 (0))] : List Value) (n := 1) (Nat.le_of_ble_eq_true rfl)
  rw [lg_entry_eq]
  generalize (lg_sl ([.ref (k_ad Γ 5 (0))] : List Value) ++ List.replicate (1 - (lg_sl ([.ref (k_ad Γ 5 (0))] : List Value)).length) Slot.unset).toArray = ls at hl ⊢
  have hl : lv_has ls 1 [(0, .ref (k_ad Γ 5 (0)))] := hl
  change W p l e rm_X5_thrown _ _ _ _ _ _ _ _ _ _ _ _
  unfold f_X5_thrown at h
  refine lv_aload_n hC.x hC.b dX5_thrown_0 rfl (lv_at hl 0 rfl) ?_
  refine x_get hC hw (k := 0) (T := TX5) (by decide) (k_E5 _ _ _) in_X5_thrown_X5 rfl (by decide) lk_X5_thrown_f46 rfl rfl dX5_thrown_1 ?_
  obtain ⟨rfl, rfl⟩ := sm2 h
  exact x_iret hC hw hr hlocks (by decide) (by decide) dX5_thrown_4
abbrev rm_X5_fail : Room := { frames := 0, cells := 0, slots := 0, locals := 0 }
theorem in_X5_fail_X5 : ∀ w ∈ wsX50, w ∈ wsX5_fail := fun _ h => List.mem_cons_of_mem _ (List.mem_append_right _ (h))
set_option maxRecDepth 20000 in
theorem lk_X5_fail_f46 : Cond.fieldLink RX5 46 "KnotArchiveModel" "thrown" "I" ∈ wsX5_fail := by decide +kernel
set_option maxRecDepth 100000 in
set_option maxHeartbeats 4000000 in
theorem c_X5_fail {Γ : k_Pm} {l : Launch} (hl0 : l.stackTraces = false) {x1 : Int32}  {g : Gt} {r : Int32} {g2 : Gt} (h : f_X5_fail x1 g = some (r, g2)) : k_CI Γ l yX5_fail wsX5_fail rm_X5_fail [.ref (k_ad Γ 5 (0)), .int (x1)] g r g2 := by
  intro sz
  refine Met.ofW (cc := cX5_fail) (maxL := 2) (ret := (some .int)) (by decide) rfl ?_
  intro p e s m args below meth c s₁ B hml hv
  obtain ⟨rfl, rfl, hP, hKS⟩ := hv
  have hr := B.returns
  have hlocks := B.notSynchronized
  have hC : k_C Γ (k_A Γ s.heap.size) p l s m _ c cX5_fail 2 wsX5_fail RX5 := k_C.of ⟨B.exec, B.bytes, hml, findClass_of_methodNamed B.named, atoms_spec (ws := wsX5_fail) B.pre⟩ hKS hl0
  have hw : k_St Γ (k_A Γ s.heap.size) s [] g s.heap [] := k_St.of hKS hP
  have hl := lv_entry ([.ref (k_ad Γ 5 (0)), .int (x1)] : List Value) (n := 2) (Nat.le_of_ble_eq_true rfl)
  rw [lg_entry_eq]
  generalize (lg_sl ([.ref (k_ad Γ 5 (0)), .int (x1)] : List Value) ++ List.replicate (2 - (lg_sl ([.ref (k_ad Γ 5 (0)), .int (x1)] : List Value)).length) Slot.unset).toArray = ls at hl ⊢
  have hl : lv_has ls 2 [(0, .ref (k_ad Γ 5 (0))), (1, .int (x1))] := hl
  change W p l e rm_X5_fail _ _ _ _ _ _ _ _ _ _ _ _
  unfold f_X5_fail at h
  refine lv_aload_n hC.x hC.b dX5_fail_0 rfl (lv_at hl 0 rfl) ?_
  refine lv_iload_n hC.x hC.b dX5_fail_1 rfl (lv_at hl 1 rfl) ?_
  refine x_puti hC hw (k := 0) (T := TX5) (by decide) (k_E5 _ _ _) in_X5_fail_X5 rfl (by decide) lk_X5_fail_f46 rfl tyX5 tyX5_ok nmX5 rfl (by decide +kernel) (Nat.le_of_ble_eq_true rfl) (by rw [k_E5]; rfl) dX5_fail_2 (fun H locs hw => ?_)
  refine lv_iconst (v := (0 : Int32)) hC.x hC.b dX5_fail_5 (by decide) ?_
  obtain ⟨rfl, rfl⟩ := sm2 h
  exact x_iret hC hw hr hlocks (by decide) (by decide) dX5_fail_6
abbrev rm_X5_isIn : Room := { frames := 0, cells := 0, slots := 0, locals := 0 }
set_option maxRecDepth 100000 in
set_option maxHeartbeats 4000000 in
theorem c_X5_isIn {Γ : k_Pm} {l : Launch} (hl0 : l.stackTraces = false) {x0 : Int32} {x1 : Int32} {x2 : Int32}  {g : Gt} {r : Int32} {g2 : Gt} (h : f_X5_isIn x0 x1 x2 g = some (r, g2)) : k_CI Γ l yX5_isIn wsX5_isIn rm_X5_isIn [.int (x0), .int (x1), .int (x2)] g r g2 := by
  intro sz
  refine Met.ofW (cc := cX5_isIn) (maxL := 3) (ret := (some .boolean)) (by decide) rfl ?_
  intro p e s m args below meth c s₁ B hml hv
  obtain ⟨rfl, rfl, hP, hKS⟩ := hv
  have hr := B.returns
  have hlocks := B.notSynchronized
  have hC : k_C Γ (k_A Γ s.heap.size) p l s m _ c cX5_isIn 3 wsX5_isIn RX5 := k_C.of ⟨B.exec, B.bytes, hml, findClass_of_methodNamed B.named, atoms_spec (ws := wsX5_isIn) B.pre⟩ hKS hl0
  have hw : k_St Γ (k_A Γ s.heap.size) s [] g s.heap [] := k_St.of hKS hP
  have hl := lv_entry ([.int (x0), .int (x1), .int (x2)] : List Value) (n := 3) (Nat.le_of_ble_eq_true rfl)
  rw [lg_entry_eq]
  generalize (lg_sl ([.int (x0), .int (x1), .int (x2)] : List Value) ++ List.replicate (3 - (lg_sl ([.int (x0), .int (x1), .int (x2)] : List Value)).length) Slot.unset).toArray = ls at hl ⊢
  have hl : lv_has ls 3 [(0, .int (x0)), (1, .int (x1)), (2, .int (x2))] := hl
  change W p l e rm_X5_isIn _ _ _ _ _ _ _ _ _ _ _ _
  unfold f_X5_isIn at h
  refine lv_iload_n hC.x hC.b dX5_isIn_0 rfl (lv_at hl 0 rfl) ?_
  refine lv_iload_n hC.x hC.b dX5_isIn_1 rfl (lv_at hl 1 rfl) ?_
  refine lv_icmp_lt (tgt := 14) hC.x hC.b dX5_isIn_2 (by decide) (fun hc => ?_) (fun hc => ?_)
  · have h := it_t h hc
    refine lv_iconst (v := (0 : Int32)) hC.x hC.b dX5_isIn_14 (by decide) ?_
    obtain ⟨rfl, rfl⟩ := sm2 h
    exact x_zret hC hw hr hlocks rfl (by decide) (by decide) dX5_isIn_15
  · have h := it_f h hc
    refine lv_iload_n hC.x hC.b dX5_isIn_5 rfl (lv_at hl 0 rfl) ?_
    refine lv_iload_n hC.x hC.b dX5_isIn_6 rfl (lv_at hl 2 rfl) ?_
    refine lv_icmp_gt (tgt := 14) hC.x hC.b dX5_isIn_7 (by decide) (fun hc => ?_) (fun hc => ?_)
    · have h := it_t h hc
      refine lv_iconst (v := (0 : Int32)) hC.x hC.b dX5_isIn_14 (by decide) ?_
      obtain ⟨rfl, rfl⟩ := sm2 h
      exact x_zret hC hw hr hlocks rfl (by decide) (by decide) dX5_isIn_15
    · have h := it_f h hc
      refine lv_iconst (v := (1 : Int32)) hC.x hC.b dX5_isIn_10 (by decide) ?_
      refine lv_goto (tgt := 15) hC.x hC.b dX5_isIn_11 (by decide) ?_
      obtain ⟨rfl, rfl⟩ := sm2 h
      exact x_zret hC hw hr hlocks rfl (by decide) (by decide) dX5_isIn_15
abbrev rm_X5_isCord : Room := { frames := 1, cells := 0, slots := 0, locals := 22 }
theorem in_X5_isCord_X5 : ∀ w ∈ wsX50, w ∈ wsX5_isCord := fun _ h => List.mem_cons_of_mem _ (List.mem_append_right _ (h))
set_option maxRecDepth 20000 in
theorem lk_X5_isCord_f50 : Cond.fieldLink RX5 50 "KnotArchiveModel" "cords" "I" ∈ wsX5_isCord := by decide +kernel
set_option maxRecDepth 100000 in
set_option maxHeartbeats 4000000 in
theorem c_X5_isCord {Γ : k_Pm} {l : Launch} (hl0 : l.stackTraces = false) {x1 : Int32}  {g : Gt} {r : Int32} {g2 : Gt} (h : f_X5_isCord x1 g = some (r, g2)) : k_CI Γ l yX5_isCord wsX5_isCord rm_X5_isCord [.ref (k_ad Γ 5 (0)), .int (x1)] g r g2 := by
  intro sz
  refine Met.ofW (cc := cX5_isCord) (maxL := 2) (ret := (some .boolean)) (by decide) rfl ?_
  intro p e s m args below meth c s₁ B hml hv
  obtain ⟨rfl, rfl, hP, hKS⟩ := hv
  have hr := B.returns
  have hlocks := B.notSynchronized
  have hC : k_C Γ (k_A Γ s.heap.size) p l s m _ c cX5_isCord 2 wsX5_isCord RX5 := k_C.of ⟨B.exec, B.bytes, hml, findClass_of_methodNamed B.named, atoms_spec (ws := wsX5_isCord) B.pre⟩ hKS hl0
  have hw : k_St Γ (k_A Γ s.heap.size) s [] g s.heap [] := k_St.of hKS hP
  have hl := lv_entry ([.ref (k_ad Γ 5 (0)), .int (x1)] : List Value) (n := 2) (Nat.le_of_ble_eq_true rfl)
  rw [lg_entry_eq]
  generalize (lg_sl ([.ref (k_ad Γ 5 (0)), .int (x1)] : List Value) ++ List.replicate (2 - (lg_sl ([.ref (k_ad Γ 5 (0)), .int (x1)] : List Value)).length) Slot.unset).toArray = ls at hl ⊢
  have hl : lv_has ls 2 [(0, .ref (k_ad Γ 5 (0))), (1, .int (x1))] := hl
  change W p l e rm_X5_isCord _ _ _ _ _ _ _ _ _ _ _ _
  unfold f_X5_isCord at h
  refine lv_iload_n hC.x hC.b dX5_isCord_0 rfl (lv_at hl 1 rfl) ?_
  refine lv_iconst (v := (0 : Int32)) hC.x hC.b dX5_isCord_1 (by decide) ?_
  refine lv_aload_n hC.x hC.b dX5_isCord_2 rfl (lv_at hl 0 rfl) ?_
  refine x_get hC hw (k := 1) (T := TX5) (by decide) (k_E5 _ _ _) in_X5_isCord_X5 rfl (by decide) lk_X5_isCord_f50 rfl rfl dX5_isCord_3 ?_
  refine lv_iconst (v := (1 : Int32)) hC.x hC.b dX5_isCord_6 (by decide) ?_
  refine lv_isub hC.x hC.b dX5_isCord_7 ?_
  obtain ⟨r8, g8, hq, h⟩ := bd2_t h
  refine x_goi hC hw (x_runS hC hw (c_X5_isIn (Γ := Γ) (l := l) hC.2.2.2.2 hq) (va_cwS 3 hC.t gX5_isCord_X5_isIn rfl rfl rfl (by decide +kernel) ⟨Nat.le_of_ble_eq_true rfl, Nat.le_of_ble_eq_true rfl⟩) (As := [.int (x1), .int ((0 : Int32)), .int ((g 5 0 1) - (1 : Int32))]) rfl hl.1 (Nat.le_of_ble_eq_true rfl) dX5_isCord_8 ⟨by decide, by decide⟩) (fun H locs hw => ?_)
  obtain ⟨hg, h⟩ := gd_t h
  obtain ⟨rfl, rfl⟩ := sm2 h
  exact x_zret hC hw hr hlocks (k_isb_n hg) (by decide) (by decide) dX5_isCord_11
abbrev rm_X5_isWitness : Room := { frames := 1, cells := 0, slots := 0, locals := 22 }
theorem in_X5_isWitness_X5 : ∀ w ∈ wsX50, w ∈ wsX5_isWitness := fun _ h => List.mem_cons_of_mem _ (List.mem_append_right _ (h))
set_option maxRecDepth 20000 in
theorem lk_X5_isWitness_f57 : Cond.fieldLink RX5 57 "KnotArchiveModel" "witnesses" "I" ∈ wsX5_isWitness := by decide +kernel
set_option maxRecDepth 100000 in
set_option maxHeartbeats 4000000 in
theorem c_X5_isWitness {Γ : k_Pm} {l : Launch} (hl0 : l.stackTraces = false) {x1 : Int32}  {g : Gt} {r : Int32} {g2 : Gt} (h : f_X5_isWitness x1 g = some (r, g2)) : k_CI Γ l yX5_isWitness wsX5_isWitness rm_X5_isWitness [.ref (k_ad Γ 5 (0)), .int (x1)] g r g2 := by
  intro sz
  refine Met.ofW (cc := cX5_isWitness) (maxL := 2) (ret := (some .boolean)) (by decide) rfl ?_
  intro p e s m args below meth c s₁ B hml hv
  obtain ⟨rfl, rfl, hP, hKS⟩ := hv
  have hr := B.returns
  have hlocks := B.notSynchronized
  have hC : k_C Γ (k_A Γ s.heap.size) p l s m _ c cX5_isWitness 2 wsX5_isWitness RX5 := k_C.of ⟨B.exec, B.bytes, hml, findClass_of_methodNamed B.named, atoms_spec (ws := wsX5_isWitness) B.pre⟩ hKS hl0
  have hw : k_St Γ (k_A Γ s.heap.size) s [] g s.heap [] := k_St.of hKS hP
  have hl := lv_entry ([.ref (k_ad Γ 5 (0)), .int (x1)] : List Value) (n := 2) (Nat.le_of_ble_eq_true rfl)
  rw [lg_entry_eq]
  generalize (lg_sl ([.ref (k_ad Γ 5 (0)), .int (x1)] : List Value) ++ List.replicate (2 - (lg_sl ([.ref (k_ad Γ 5 (0)), .int (x1)] : List Value)).length) Slot.unset).toArray = ls at hl ⊢
  have hl : lv_has ls 2 [(0, .ref (k_ad Γ 5 (0))), (1, .int (x1))] := hl
  change W p l e rm_X5_isWitness _ _ _ _ _ _ _ _ _ _ _ _
  unfold f_X5_isWitness at h
  refine lv_iload_n hC.x hC.b dX5_isWitness_0 rfl (lv_at hl 1 rfl) ?_
  refine lv_iconst (v := (0 : Int32)) hC.x hC.b dX5_isWitness_1 (by decide) ?_
  refine lv_aload_n hC.x hC.b dX5_isWitness_2 rfl (lv_at hl 0 rfl) ?_
  refine x_get hC hw (k := 2) (T := TX5) (by decide) (k_E5 _ _ _) in_X5_isWitness_X5 rfl (by decide) lk_X5_isWitness_f57 rfl rfl dX5_isWitness_3 ?_
  refine lv_iconst (v := (1 : Int32)) hC.x hC.b dX5_isWitness_6 (by decide) ?_
  refine lv_isub hC.x hC.b dX5_isWitness_7 ?_
  obtain ⟨r8, g8, hq, h⟩ := bd2_t h
  refine x_goi hC hw (x_runS hC hw (c_X5_isIn (Γ := Γ) (l := l) hC.2.2.2.2 hq) (va_cwS 3 hC.t gX5_isWitness_X5_isIn rfl rfl rfl (by decide +kernel) ⟨Nat.le_of_ble_eq_true rfl, Nat.le_of_ble_eq_true rfl⟩) (As := [.int (x1), .int ((0 : Int32)), .int ((g 5 0 2) - (1 : Int32))]) rfl hl.1 (Nat.le_of_ble_eq_true rfl) dX5_isWitness_8 ⟨by decide, by decide⟩) (fun H locs hw => ?_)
  obtain ⟨hg, h⟩ := gd_t h
  obtain ⟨rfl, rfl⟩ := sm2 h
  exact x_zret hC hw hr hlocks (k_isb_n hg) (by decide) (by decide) dX5_isWitness_11
abbrev rm_X5_hangs : Room := { frames := 0, cells := 0, slots := 0, locals := 0 }
theorem in_X5_hangs_X5 : ∀ w ∈ wsX50, w ∈ wsX5_hangs := fun _ h => List.mem_cons_of_mem _ (List.mem_append_right _ (h))
set_option maxRecDepth 20000 in
theorem lk_X5_hangs_f50 : Cond.fieldLink RX5 50 "KnotArchiveModel" "cords" "I" ∈ wsX5_hangs := by decide +kernel
set_option maxRecDepth 20000 in
theorem lk_X5_hangs_f9 : Cond.fieldLink RX5 9 "KnotArchiveModel" "from" "[I" ∈ wsX5_hangs := by decide +kernel
set_option maxRecDepth 100000 in
set_option maxHeartbeats 4000000 in
theorem w_X5_hangs_4 {Γ : k_Pm} {A0 : Nat → Prop} {p : Program} {l : Launch} {e : Env} {s : State} {m : MethodId} {args : Array Value} {below : List Frame} {meth : Method} {c : Code} {cells slots : Nat} {Q : State → Prop} {tmp : va_W} {c1 : Int32} (hC : k_C Γ A0 p l s m args c cX5_hangs 4 wsX5_hangs RX5) (hcs : cells ≤ rm_X5_hangs.cells ∧ slots ≤ rm_X5_hangs.slots) : ∀ (n : Nat) (v2 : Int32) (v3 : Int32) (g : Gt) (w2 : Int32) (w3 : Int32) (g2 : Gt), f_X5_hangs_4 c1 n v2 v3 g = some (w2, w3, g2) → ∀ (H : Heap) (locs : List Loc) (ls : Array Slot), k_St Γ A0 s tmp g H locs → lv_has ls 4 [(3, .int (v3)), (2, .int (v2)), (0, .ref (k_ad Γ 5 (0))), (1, .int (c1))] → (∀ (H1 : Heap) (locs1 : List Loc) (ls1 : Array Slot), k_St Γ A0 s tmp g2 H1 locs1 → lv_has ls1 4 [(3, .int (w3)), (2, .int (w2)), (0, .ref (k_ad Γ 5 (0))), (1, .int (c1))] → W p l e rm_X5_hangs s m args below meth c H1 locs1 cells slots Q (F0 m 36 ls1 [])) → W p l e rm_X5_hangs s m args below meth c H locs cells slots Q (F0 m 4 ls []) := by
  intro n
  induction n with
  | zero => intro v2 v3 g w2 w3 g2 h; rw [f_X5_hangs_4] at h; cases h
  | succ n ih =>
    intro v2 v3 g w2 w3 g2 h H locs ls hw hl kk
    rw [f_X5_hangs_4] at h
    refine lv_iload_n hC.x hC.b dX5_hangs_4 rfl (lv_at hl 0 rfl) ?_
    refine lv_aload_n hC.x hC.b dX5_hangs_5 rfl (lv_at hl 2 rfl) ?_
    refine x_get hC hw (k := 1) (T := TX5) (by decide) (k_E5 _ _ _) in_X5_hangs_X5 rfl (by decide) lk_X5_hangs_f50 rfl rfl dX5_hangs_6 ?_
    refine lv_icmp_ge (tgt := 36) hC.x hC.b dX5_hangs_9 (by decide) (fun hc => ?_) (fun hc => ?_)
    · have h := it_t h hc
      obtain ⟨rfl, rfl, rfl⟩ := sm3 h
      exact kk _ _ _ hw (lv_sub hl [0, 1, 2, 3] rfl)
    · have h := it_f h hc
      refine lv_iload_n hC.x hC.b dX5_hangs_12 rfl (lv_at hl 1 rfl) ?_
      refine lv_aload_n hC.x hC.b dX5_hangs_13 rfl (lv_at hl 2 rfl) ?_
      refine x_get hC hw (k := 4) (T := TX5) (by decide) (k_E5 _ _ _) in_X5_hangs_X5 rfl (by decide) lk_X5_hangs_f9 rfl rfl dX5_hangs_14 ?_
      refine lv_iload_n hC.x hC.b dX5_hangs_17 rfl (lv_at hl 0 rfl) ?_
      obtain ⟨hg1, h⟩ := gd_t h
      refine x_iald hC hw rfl (by decide) hg1 dX5_hangs_18 ?_
      refine lv_iload_n hC.x hC.b dX5_hangs_19 rfl (lv_at hl 3 rfl) ?_
      refine lv_icmp_ne (tgt := 27) hC.x hC.b dX5_hangs_20 (by decide) (fun hc => ?_) (fun hc => ?_)
      · have h := it_f h hc
        refine lv_iconst (v := (0 : Int32)) hC.x hC.b dX5_hangs_27 (by decide) ?_
        refine lv_iadd hC.x hC.b dX5_hangs_28 ?_
        refine lv_istore_n (lv' := [(2, .int (v2 + (0 : Int32))), (3, .int (v3)), (0, .ref (k_ad Γ 5 (0))), (1, .int (c1))]) hC.x hC.b dX5_hangs_29 rfl hl (by decide) rfl (fun ls hl => ?_)
        refine lv_iinc (v := v3 + (1 : Int32)) (lv' := [(3, .int (v3 + (1 : Int32))), (2, .int (v2 + (0 : Int32))), (0, .ref (k_ad Γ 5 (0))), (1, .int (c1))]) hC.x hC.b dX5_hangs_30 hl (k := 1) rfl rfl (by decide) rfl (fun ls hl => ?_)
        refine lv_goto (tgt := 4) hC.x hC.b dX5_hangs_33 (by decide) ?_
        exact ih _ _ _ _ _ _ h _ _ _ hw (lv_sub hl [0, 1, 2, 3] rfl) kk
      · have h := it_t h hc
        refine lv_iconst (v := (1 : Int32)) hC.x hC.b dX5_hangs_23 (by decide) ?_
        refine lv_goto (tgt := 28) hC.x hC.b dX5_hangs_24 (by decide) ?_
        refine lv_iadd hC.x hC.b dX5_hangs_28 ?_
        refine lv_istore_n (lv' := [(2, .int (v2 + (1 : Int32))), (3, .int (v3)), (0, .ref (k_ad Γ 5 (0))), (1, .int (c1))]) hC.x hC.b dX5_hangs_29 rfl hl (by decide) rfl (fun ls hl => ?_)
        refine lv_iinc (v := v3 + (1 : Int32)) (lv' := [(3, .int (v3 + (1 : Int32))), (2, .int (v2 + (1 : Int32))), (0, .ref (k_ad Γ 5 (0))), (1, .int (c1))]) hC.x hC.b dX5_hangs_30 hl (k := 1) rfl rfl (by decide) rfl (fun ls hl => ?_)
        refine lv_goto (tgt := 4) hC.x hC.b dX5_hangs_33 (by decide) ?_
        exact ih _ _ _ _ _ _ h _ _ _ hw (lv_sub hl [0, 1, 2, 3] rfl) kk

set_option maxRecDepth 100000 in
set_option maxHeartbeats 4000000 in
theorem c_X5_hangs {Γ : k_Pm} {l : Launch} (hl0 : l.stackTraces = false) {x1 : Int32}  {g : Gt} {r : Int32} {g2 : Gt} (h : f_X5_hangs x1 g = some (r, g2)) : k_CI Γ l yX5_hangs wsX5_hangs rm_X5_hangs [.ref (k_ad Γ 5 (0)), .int (x1)] g r g2 := by
  intro sz
  refine Met.ofW (cc := cX5_hangs) (maxL := 4) (ret := (some .int)) (by decide) rfl ?_
  intro p e s m args below meth c s₁ B hml hv
  obtain ⟨rfl, rfl, hP, hKS⟩ := hv
  have hr := B.returns
  have hlocks := B.notSynchronized
  have hC : k_C Γ (k_A Γ s.heap.size) p l s m _ c cX5_hangs 4 wsX5_hangs RX5 := k_C.of ⟨B.exec, B.bytes, hml, findClass_of_methodNamed B.named, atoms_spec (ws := wsX5_hangs) B.pre⟩ hKS hl0
  have hw : k_St Γ (k_A Γ s.heap.size) s [] g s.heap [] := k_St.of hKS hP
  have hl := lv_entry ([.ref (k_ad Γ 5 (0)), .int (x1)] : List Value) (n := 4) (Nat.le_of_ble_eq_true rfl)
  rw [lg_entry_eq]
  generalize (lg_sl ([.ref (k_ad Γ 5 (0)), .int (x1)] : List Value) ++ List.replicate (4 - (lg_sl ([.ref (k_ad Γ 5 (0)), .int (x1)] : List Value)).length) Slot.unset).toArray = ls at hl ⊢
  have hl : lv_has ls 4 [(0, .ref (k_ad Γ 5 (0))), (1, .int (x1))] := hl
  change W p l e rm_X5_hangs _ _ _ _ _ _ _ _ _ _ _ _
  unfold f_X5_hangs at h
  refine lv_iconst (v := (0 : Int32)) hC.x hC.b dX5_hangs_0 (by decide) ?_
  refine lv_istore_n (lv' := [(2, .int ((0 : Int32))), (0, .ref (k_ad Γ 5 (0))), (1, .int (x1))]) hC.x hC.b dX5_hangs_1 rfl hl (by decide) rfl (fun ls hl => ?_)
  refine lv_iconst (v := (0 : Int32)) hC.x hC.b dX5_hangs_2 (by decide) ?_
  refine lv_istore_n (lv' := [(3, .int ((0 : Int32))), (2, .int ((0 : Int32))), (0, .ref (k_ad Γ 5 (0))), (1, .int (x1))]) hC.x hC.b dX5_hangs_3 rfl hl (by decide) rfl (fun ls hl => ?_)
  obtain ⟨w4_2, w4_3, g4, hq, h⟩ := bd3_t h
  refine w_X5_hangs_4 hC ⟨by decide, by decide⟩  k_N _ _ _ _ _ _ hq _ _ _ hw (lv_sub hl [0, 1, 2, 3] rfl) (fun H locs ls hw hl => ?_)
  refine lv_iload_n hC.x hC.b dX5_hangs_36 rfl (lv_at hl 1 rfl) ?_
  obtain ⟨rfl, rfl⟩ := sm2 h
  exact x_iret hC hw hr hlocks (by decide) (by decide) dX5_hangs_37
abbrev rm_X5_hang : Room := { frames := 2, cells := 0, slots := 0, locals := 43 }
theorem in_X5_hang_X5 : ∀ w ∈ wsX50, w ∈ wsX5_hang := fun _ h => List.mem_cons_of_mem _ (List.mem_append_right _ (h))
set_option maxRecDepth 20000 in
theorem lk_X5_hang_f46 : Cond.fieldLink RX5 46 "KnotArchiveModel" "thrown" "I" ∈ wsX5_hang := by decide +kernel
set_option maxRecDepth 20000 in
theorem lk_X5_hang_f50 : Cond.fieldLink RX5 50 "KnotArchiveModel" "cords" "I" ∈ wsX5_hang := by decide +kernel
set_option maxRecDepth 20000 in
theorem lk_X5_hang_f9 : Cond.fieldLink RX5 9 "KnotArchiveModel" "from" "[I" ∈ wsX5_hang := by decide +kernel
set_option maxRecDepth 20000 in
theorem lk_X5_hang_f13 : Cond.fieldLink RX5 13 "KnotArchiveModel" "strands" "[I" ∈ wsX5_hang := by decide +kernel
set_option maxRecDepth 100000 in
set_option maxHeartbeats 4000000 in
theorem c_X5_hang {Γ : k_Pm} {l : Launch} (hl0 : l.stackTraces = false) {x1 : Int32} {x2 : Int32}  {g : Gt} {r : Int32} {g2 : Gt} (h : f_X5_hang x1 x2 g = some (r, g2)) : k_CI Γ l yX5_hang wsX5_hang rm_X5_hang [.ref (k_ad Γ 5 (0)), .int (x1), .int (x2)] g r g2 := by
  intro sz
  refine Met.ofW (cc := cX5_hang) (maxL := 3) (ret := (some .int)) (by decide) rfl ?_
  intro p e s m args below meth c s₁ B hml hv
  obtain ⟨rfl, rfl, hP, hKS⟩ := hv
  have hr := B.returns
  have hlocks := B.notSynchronized
  have hC : k_C Γ (k_A Γ s.heap.size) p l s m _ c cX5_hang 3 wsX5_hang RX5 := k_C.of ⟨B.exec, B.bytes, hml, findClass_of_methodNamed B.named, atoms_spec (ws := wsX5_hang) B.pre⟩ hKS hl0
  have hw : k_St Γ (k_A Γ s.heap.size) s [] g s.heap [] := k_St.of hKS hP
  have hl := lv_entry ([.ref (k_ad Γ 5 (0)), .int (x1), .int (x2)] : List Value) (n := 3) (Nat.le_of_ble_eq_true rfl)
  rw [lg_entry_eq]
  generalize (lg_sl ([.ref (k_ad Γ 5 (0)), .int (x1), .int (x2)] : List Value) ++ List.replicate (3 - (lg_sl ([.ref (k_ad Γ 5 (0)), .int (x1), .int (x2)] : List Value)).length) Slot.unset).toArray = ls at hl ⊢
  have hl : lv_has ls 3 [(0, .ref (k_ad Γ 5 (0))), (1, .int (x1)), (2, .int (x2))] := hl
  change W p l e rm_X5_hang _ _ _ _ _ _ _ _ _ _ _ _
  unfold f_X5_hang at h
  refine lv_aload_n hC.x hC.b dX5_hang_0 rfl (lv_at hl 0 rfl) ?_
  refine lv_iconst (v := (0 : Int32)) hC.x hC.b dX5_hang_1 (by decide) ?_
  refine x_puti hC hw (k := 0) (T := TX5) (by decide) (k_E5 _ _ _) in_X5_hang_X5 rfl (by decide) lk_X5_hang_f46 rfl tyX5 tyX5_ok nmX5 rfl (by decide +kernel) (Nat.le_of_ble_eq_true rfl) (by rw [k_E5]; rfl) dX5_hang_2 (fun H locs hw => ?_)
  refine lv_iload_n hC.x hC.b dX5_hang_5 rfl (lv_at hl 1 rfl) ?_
  refine lv_iconst (v := (-1 : Int32)) hC.x hC.b dX5_hang_6 (by decide) ?_
  refine lv_icmp_eq (tgt := 24) hC.x hC.b dX5_hang_7 (by decide) (fun hc => ?_) (fun hc => ?_)
  · have h := it_t h hc
    refine lv_iload_n hC.x hC.b dX5_hang_24 rfl (lv_at hl 2 rfl) ?_
    refine lv_iconst (v := (0 : Int32)) hC.x hC.b dX5_hang_25 (by decide) ?_
    refine lv_iconst (v := (4 : Int32)) hC.x hC.b dX5_hang_26 (by decide) ?_
    obtain ⟨r27, g27, hq, h⟩ := bd2_t h
    refine x_goi hC hw (x_runS hC hw (c_X5_isIn (Γ := Γ) (l := l) hC.2.2.2.2 hq) (va_cwS 3 hC.t gX5_hang_X5_isIn rfl rfl rfl (by decide +kernel) ⟨Nat.le_of_ble_eq_true rfl, Nat.le_of_ble_eq_true rfl⟩) (As := [.int (x2), .int ((0 : Int32)), .int ((4 : Int32))]) rfl hl.1 (Nat.le_of_ble_eq_true rfl) dX5_hang_27 ⟨by decide, by decide⟩) (fun H locs hw => ?_)
    refine lv_if_ne (tgt := 39) hC.x hC.b dX5_hang_30 (by decide) (fun hc => ?_) (fun hc => ?_)
    · have h := it_f h hc
      refine lv_aload_n hC.x hC.b dX5_hang_39 rfl (lv_at hl 0 rfl) ?_
      refine x_get hC hw (k := 1) (T := TX5) (by decide) (k_E5 _ _ _) in_X5_hang_X5 rfl (by decide) lk_X5_hang_f50 rfl rfl dX5_hang_40 ?_
      refine lv_bipush (v := (16 : Int32)) hC.x hC.b dX5_hang_43 (by decide) ?_
      refine lv_icmp_eq (tgt := 63) hC.x hC.b dX5_hang_45 (by decide) (fun hc => ?_) (fun hc => ?_)
      · have h := it_t h hc
        refine lv_aload_n hC.x hC.b dX5_hang_63 rfl (lv_at hl 0 rfl) ?_
        refine lv_iconst (v := (3 : Int32)) hC.x hC.b dX5_hang_64 (by decide) ?_
        obtain ⟨r65, g65, hq, h⟩ := bd2_t h
        refine x_goi hC hw (x_runV hC hw (c_X5_fail (Γ := Γ) (l := l) hC.2.2.2.2 hq) (cwV 1 hC.t gX5_hang_X5_fail rfl rfl rfl (by decide +kernel) ⟨Nat.le_of_ble_eq_true rfl, Nat.le_of_ble_eq_true rfl⟩) (As := [.int ((3 : Int32))]) (by decide) (k_E5 _ _ _) rfl rfl rfl hl.1 (Nat.le_of_ble_eq_true rfl) dX5_hang_65 ⟨by decide, by decide⟩) (fun H locs hw => ?_)
        obtain ⟨rfl, rfl⟩ := sm2 h
        exact x_iret hC hw hr hlocks (by decide) (by decide) dX5_hang_68
      · have h := it_f h hc
        refine lv_iload_n hC.x hC.b dX5_hang_48 rfl (lv_at hl 1 rfl) ?_
        refine lv_iconst (v := (-1 : Int32)) hC.x hC.b dX5_hang_49 (by decide) ?_
        refine lv_icmp_eq (tgt := 69) hC.x hC.b dX5_hang_50 (by decide) (fun hc => ?_) (fun hc => ?_)
        · have h := it_t h hc
          refine lv_aload_n hC.x hC.b dX5_hang_69 rfl (lv_at hl 0 rfl) ?_
          refine x_get hC hw (k := 4) (T := TX5) (by decide) (k_E5 _ _ _) in_X5_hang_X5 rfl (by decide) lk_X5_hang_f9 rfl rfl dX5_hang_70 ?_
          refine lv_aload_n hC.x hC.b dX5_hang_73 rfl (lv_at hl 0 rfl) ?_
          refine x_get hC hw (k := 1) (T := TX5) (by decide) (k_E5 _ _ _) in_X5_hang_X5 rfl (by decide) lk_X5_hang_f50 rfl rfl dX5_hang_74 ?_
          refine lv_iload_n hC.x hC.b dX5_hang_77 rfl (lv_at hl 1 rfl) ?_
          obtain ⟨hg1, h⟩ := gd_t h
          refine x_iast hC hw rfl (by decide) hg1 dX5_hang_78 (fun H locs hw => ?_)
          refine lv_aload_n hC.x hC.b dX5_hang_79 rfl (lv_at hl 0 rfl) ?_
          refine x_get hC hw (k := 5) (T := TX5) (by decide) (k_E5 _ _ _) in_X5_hang_X5 rfl (by decide) lk_X5_hang_f13 rfl rfl dX5_hang_80 ?_
          refine lv_aload_n hC.x hC.b dX5_hang_83 rfl (lv_at hl 0 rfl) ?_
          refine x_get hC hw (k := 1) (T := TX5) (by decide) (k_E5 _ _ _) in_X5_hang_X5 rfl (by decide) lk_X5_hang_f50 rfl rfl dX5_hang_84 ?_
          refine lv_iload_n hC.x hC.b dX5_hang_87 rfl (lv_at hl 2 rfl) ?_
          obtain ⟨hg2, h⟩ := gd_t h
          refine x_iast hC hw rfl (by decide) hg2 dX5_hang_88 (fun H locs hw => ?_)
          refine lv_aload_n hC.x hC.b dX5_hang_89 rfl (lv_at hl 0 rfl) ?_
          refine lv_dup hC.x hC.b dX5_hang_90 rfl ?_
          refine x_get hC hw (k := 1) (T := TX5) (by decide) (k_E5 _ _ _) in_X5_hang_X5 rfl (by decide) lk_X5_hang_f50 rfl rfl dX5_hang_91 ?_
          refine lv_iconst (v := (1 : Int32)) hC.x hC.b dX5_hang_94 (by decide) ?_
          refine lv_iadd hC.x hC.b dX5_hang_95 ?_
          refine x_puti hC hw (k := 1) (T := TX5) (by decide) (k_E5 _ _ _) in_X5_hang_X5 rfl (by decide) lk_X5_hang_f50 rfl tyX5 tyX5_ok nmX5 rfl (by decide +kernel) (Nat.le_of_ble_eq_true rfl) (by rw [k_E5]; rfl) dX5_hang_96 (fun H locs hw => ?_)
          refine lv_aload_n hC.x hC.b dX5_hang_99 rfl (lv_at hl 0 rfl) ?_
          refine x_get hC hw (k := 1) (T := TX5) (by decide) (k_E5 _ _ _) in_X5_hang_X5 rfl (by decide) lk_X5_hang_f50 rfl rfl dX5_hang_100 ?_
          refine lv_iconst (v := (1 : Int32)) hC.x hC.b dX5_hang_103 (by decide) ?_
          refine lv_isub hC.x hC.b dX5_hang_104 ?_
          obtain ⟨rfl, rfl⟩ := sm2 h
          exact x_iret hC hw hr hlocks (by decide) (by decide) dX5_hang_105
        · have h := it_f h hc
          refine lv_aload_n hC.x hC.b dX5_hang_53 rfl (lv_at hl 0 rfl) ?_
          refine lv_iload_n hC.x hC.b dX5_hang_54 rfl (lv_at hl 1 rfl) ?_
          obtain ⟨r55, g55, hq, h⟩ := bd2_t h
          refine x_goi hC hw (x_runV hC hw (c_X5_hangs (Γ := Γ) (l := l) hC.2.2.2.2 hq) (cwV 1 hC.t gX5_hang_X5_hangs rfl rfl rfl (by decide +kernel) ⟨Nat.le_of_ble_eq_true rfl, Nat.le_of_ble_eq_true rfl⟩) (As := [.int (x1)]) (by decide) (k_E5 _ _ _) rfl rfl rfl hl.1 (Nat.le_of_ble_eq_true rfl) dX5_hang_55 ⟨by decide, by decide⟩) (fun H locs hw => ?_)
          refine lv_bipush (v := (6 : Int32)) hC.x hC.b dX5_hang_58 (by decide) ?_
          refine lv_icmp_ne (tgt := 69) hC.x hC.b dX5_hang_60 (by decide) (fun hc => ?_) (fun hc => ?_)
          · have h := it_f h hc
            refine lv_aload_n hC.x hC.b dX5_hang_69 rfl (lv_at hl 0 rfl) ?_
            refine x_get hC hw (k := 4) (T := TX5) (by decide) (k_E5 _ _ _) in_X5_hang_X5 rfl (by decide) lk_X5_hang_f9 rfl rfl dX5_hang_70 ?_
            refine lv_aload_n hC.x hC.b dX5_hang_73 rfl (lv_at hl 0 rfl) ?_
            refine x_get hC hw (k := 1) (T := TX5) (by decide) (k_E5 _ _ _) in_X5_hang_X5 rfl (by decide) lk_X5_hang_f50 rfl rfl dX5_hang_74 ?_
            refine lv_iload_n hC.x hC.b dX5_hang_77 rfl (lv_at hl 1 rfl) ?_
            obtain ⟨hg3, h⟩ := gd_t h
            refine x_iast hC hw rfl (by decide) hg3 dX5_hang_78 (fun H locs hw => ?_)
            refine lv_aload_n hC.x hC.b dX5_hang_79 rfl (lv_at hl 0 rfl) ?_
            refine x_get hC hw (k := 5) (T := TX5) (by decide) (k_E5 _ _ _) in_X5_hang_X5 rfl (by decide) lk_X5_hang_f13 rfl rfl dX5_hang_80 ?_
            refine lv_aload_n hC.x hC.b dX5_hang_83 rfl (lv_at hl 0 rfl) ?_
            refine x_get hC hw (k := 1) (T := TX5) (by decide) (k_E5 _ _ _) in_X5_hang_X5 rfl (by decide) lk_X5_hang_f50 rfl rfl dX5_hang_84 ?_
            refine lv_iload_n hC.x hC.b dX5_hang_87 rfl (lv_at hl 2 rfl) ?_
            obtain ⟨hg4, h⟩ := gd_t h
            refine x_iast hC hw rfl (by decide) hg4 dX5_hang_88 (fun H locs hw => ?_)
            refine lv_aload_n hC.x hC.b dX5_hang_89 rfl (lv_at hl 0 rfl) ?_
            refine lv_dup hC.x hC.b dX5_hang_90 rfl ?_
            refine x_get hC hw (k := 1) (T := TX5) (by decide) (k_E5 _ _ _) in_X5_hang_X5 rfl (by decide) lk_X5_hang_f50 rfl rfl dX5_hang_91 ?_
            refine lv_iconst (v := (1 : Int32)) hC.x hC.b dX5_hang_94 (by decide) ?_
            refine lv_iadd hC.x hC.b dX5_hang_95 ?_
            refine x_puti hC hw (k := 1) (T := TX5) (by decide) (k_E5 _ _ _) in_X5_hang_X5 rfl (by decide) lk_X5_hang_f50 rfl tyX5 tyX5_ok nmX5 rfl (by decide +kernel) (Nat.le_of_ble_eq_true rfl) (by rw [k_E5]; rfl) dX5_hang_96 (fun H locs hw => ?_)
            refine lv_aload_n hC.x hC.b dX5_hang_99 rfl (lv_at hl 0 rfl) ?_
            refine x_get hC hw (k := 1) (T := TX5) (by decide) (k_E5 _ _ _) in_X5_hang_X5 rfl (by decide) lk_X5_hang_f50 rfl rfl dX5_hang_100 ?_
            refine lv_iconst (v := (1 : Int32)) hC.x hC.b dX5_hang_103 (by decide) ?_
            refine lv_isub hC.x hC.b dX5_hang_104 ?_
            obtain ⟨rfl, rfl⟩ := sm2 h
            exact x_iret hC hw hr hlocks (by decide) (by decide) dX5_hang_105
          · have h := it_t h hc
            refine lv_aload_n hC.x hC.b dX5_hang_63 rfl (lv_at hl 0 rfl) ?_
            refine lv_iconst (v := (3 : Int32)) hC.x hC.b dX5_hang_64 (by decide) ?_
            obtain ⟨r65, g65, hq, h⟩ := bd2_t h
            refine x_goi hC hw (x_runV hC hw (c_X5_fail (Γ := Γ) (l := l) hC.2.2.2.2 hq) (cwV 1 hC.t gX5_hang_X5_fail rfl rfl rfl (by decide +kernel) ⟨Nat.le_of_ble_eq_true rfl, Nat.le_of_ble_eq_true rfl⟩) (As := [.int ((3 : Int32))]) (by decide) (k_E5 _ _ _) rfl rfl rfl hl.1 (Nat.le_of_ble_eq_true rfl) dX5_hang_65 ⟨by decide, by decide⟩) (fun H locs hw => ?_)
            obtain ⟨rfl, rfl⟩ := sm2 h
            exact x_iret hC hw hr hlocks (by decide) (by decide) dX5_hang_68
    · have h := it_t h hc
      refine lv_aload_n hC.x hC.b dX5_hang_33 rfl (lv_at hl 0 rfl) ?_
      refine lv_iconst (v := (2 : Int32)) hC.x hC.b dX5_hang_34 (by decide) ?_
      obtain ⟨r35, g35, hq, h⟩ := bd2_t h
      refine x_goi hC hw (x_runV hC hw (c_X5_fail (Γ := Γ) (l := l) hC.2.2.2.2 hq) (cwV 1 hC.t gX5_hang_X5_fail rfl rfl rfl (by decide +kernel) ⟨Nat.le_of_ble_eq_true rfl, Nat.le_of_ble_eq_true rfl⟩) (As := [.int ((2 : Int32))]) (by decide) (k_E5 _ _ _) rfl rfl rfl hl.1 (Nat.le_of_ble_eq_true rfl) dX5_hang_35 ⟨by decide, by decide⟩) (fun H locs hw => ?_)
      obtain ⟨rfl, rfl⟩ := sm2 h
      exact x_iret hC hw hr hlocks (by decide) (by decide) dX5_hang_38
  · have h := it_f h hc
    refine lv_aload_n hC.x hC.b dX5_hang_10 rfl (lv_at hl 0 rfl) ?_
    refine lv_iload_n hC.x hC.b dX5_hang_11 rfl (lv_at hl 1 rfl) ?_
    obtain ⟨r12, g12, hq, h⟩ := bd2_t h
    refine x_goi hC hw (x_runV hC hw (c_X5_isCord (Γ := Γ) (l := l) hC.2.2.2.2 hq) (cwV 1 hC.t gX5_hang_X5_isCord rfl rfl rfl (by decide +kernel) ⟨Nat.le_of_ble_eq_true rfl, Nat.le_of_ble_eq_true rfl⟩) (As := [.int (x1)]) (by decide) (k_E5 _ _ _) rfl rfl rfl hl.1 (Nat.le_of_ble_eq_true rfl) dX5_hang_12 ⟨by decide, by decide⟩) (fun H locs hw => ?_)
    refine lv_if_ne (tgt := 24) hC.x hC.b dX5_hang_15 (by decide) (fun hc => ?_) (fun hc => ?_)
    · have h := it_f h hc
      refine lv_iload_n hC.x hC.b dX5_hang_24 rfl (lv_at hl 2 rfl) ?_
      refine lv_iconst (v := (0 : Int32)) hC.x hC.b dX5_hang_25 (by decide) ?_
      refine lv_iconst (v := (4 : Int32)) hC.x hC.b dX5_hang_26 (by decide) ?_
      obtain ⟨r27, g27, hq, h⟩ := bd2_t h
      refine x_goi hC hw (x_runS hC hw (c_X5_isIn (Γ := Γ) (l := l) hC.2.2.2.2 hq) (va_cwS 3 hC.t gX5_hang_X5_isIn rfl rfl rfl (by decide +kernel) ⟨Nat.le_of_ble_eq_true rfl, Nat.le_of_ble_eq_true rfl⟩) (As := [.int (x2), .int ((0 : Int32)), .int ((4 : Int32))]) rfl hl.1 (Nat.le_of_ble_eq_true rfl) dX5_hang_27 ⟨by decide, by decide⟩) (fun H locs hw => ?_)
      refine lv_if_ne (tgt := 39) hC.x hC.b dX5_hang_30 (by decide) (fun hc => ?_) (fun hc => ?_)
      · have h := it_f h hc
        refine lv_aload_n hC.x hC.b dX5_hang_39 rfl (lv_at hl 0 rfl) ?_
        refine x_get hC hw (k := 1) (T := TX5) (by decide) (k_E5 _ _ _) in_X5_hang_X5 rfl (by decide) lk_X5_hang_f50 rfl rfl dX5_hang_40 ?_
        refine lv_bipush (v := (16 : Int32)) hC.x hC.b dX5_hang_43 (by decide) ?_
        refine lv_icmp_eq (tgt := 63) hC.x hC.b dX5_hang_45 (by decide) (fun hc => ?_) (fun hc => ?_)
        · have h := it_t h hc
          refine lv_aload_n hC.x hC.b dX5_hang_63 rfl (lv_at hl 0 rfl) ?_
          refine lv_iconst (v := (3 : Int32)) hC.x hC.b dX5_hang_64 (by decide) ?_
          obtain ⟨r65, g65, hq, h⟩ := bd2_t h
          refine x_goi hC hw (x_runV hC hw (c_X5_fail (Γ := Γ) (l := l) hC.2.2.2.2 hq) (cwV 1 hC.t gX5_hang_X5_fail rfl rfl rfl (by decide +kernel) ⟨Nat.le_of_ble_eq_true rfl, Nat.le_of_ble_eq_true rfl⟩) (As := [.int ((3 : Int32))]) (by decide) (k_E5 _ _ _) rfl rfl rfl hl.1 (Nat.le_of_ble_eq_true rfl) dX5_hang_65 ⟨by decide, by decide⟩) (fun H locs hw => ?_)
          obtain ⟨rfl, rfl⟩ := sm2 h
          exact x_iret hC hw hr hlocks (by decide) (by decide) dX5_hang_68
        · have h := it_f h hc
          refine lv_iload_n hC.x hC.b dX5_hang_48 rfl (lv_at hl 1 rfl) ?_
          refine lv_iconst (v := (-1 : Int32)) hC.x hC.b dX5_hang_49 (by decide) ?_
          refine lv_icmp_eq (tgt := 69) hC.x hC.b dX5_hang_50 (by decide) (fun hc => ?_) (fun hc => ?_)
          · have h := it_t h hc
            refine lv_aload_n hC.x hC.b dX5_hang_69 rfl (lv_at hl 0 rfl) ?_
            refine x_get hC hw (k := 4) (T := TX5) (by decide) (k_E5 _ _ _) in_X5_hang_X5 rfl (by decide) lk_X5_hang_f9 rfl rfl dX5_hang_70 ?_
            refine lv_aload_n hC.x hC.b dX5_hang_73 rfl (lv_at hl 0 rfl) ?_
            refine x_get hC hw (k := 1) (T := TX5) (by decide) (k_E5 _ _ _) in_X5_hang_X5 rfl (by decide) lk_X5_hang_f50 rfl rfl dX5_hang_74 ?_
            refine lv_iload_n hC.x hC.b dX5_hang_77 rfl (lv_at hl 1 rfl) ?_
            obtain ⟨hg5, h⟩ := gd_t h
            refine x_iast hC hw rfl (by decide) hg5 dX5_hang_78 (fun H locs hw => ?_)
            refine lv_aload_n hC.x hC.b dX5_hang_79 rfl (lv_at hl 0 rfl) ?_
            refine x_get hC hw (k := 5) (T := TX5) (by decide) (k_E5 _ _ _) in_X5_hang_X5 rfl (by decide) lk_X5_hang_f13 rfl rfl dX5_hang_80 ?_
            refine lv_aload_n hC.x hC.b dX5_hang_83 rfl (lv_at hl 0 rfl) ?_
            refine x_get hC hw (k := 1) (T := TX5) (by decide) (k_E5 _ _ _) in_X5_hang_X5 rfl (by decide) lk_X5_hang_f50 rfl rfl dX5_hang_84 ?_
            refine lv_iload_n hC.x hC.b dX5_hang_87 rfl (lv_at hl 2 rfl) ?_
            obtain ⟨hg6, h⟩ := gd_t h
            refine x_iast hC hw rfl (by decide) hg6 dX5_hang_88 (fun H locs hw => ?_)
            refine lv_aload_n hC.x hC.b dX5_hang_89 rfl (lv_at hl 0 rfl) ?_
            refine lv_dup hC.x hC.b dX5_hang_90 rfl ?_
            refine x_get hC hw (k := 1) (T := TX5) (by decide) (k_E5 _ _ _) in_X5_hang_X5 rfl (by decide) lk_X5_hang_f50 rfl rfl dX5_hang_91 ?_
            refine lv_iconst (v := (1 : Int32)) hC.x hC.b dX5_hang_94 (by decide) ?_
            refine lv_iadd hC.x hC.b dX5_hang_95 ?_
            refine x_puti hC hw (k := 1) (T := TX5) (by decide) (k_E5 _ _ _) in_X5_hang_X5 rfl (by decide) lk_X5_hang_f50 rfl tyX5 tyX5_ok nmX5 rfl (by decide +kernel) (Nat.le_of_ble_eq_true rfl) (by rw [k_E5]; rfl) dX5_hang_96 (fun H locs hw => ?_)
            refine lv_aload_n hC.x hC.b dX5_hang_99 rfl (lv_at hl 0 rfl) ?_
            refine x_get hC hw (k := 1) (T := TX5) (by decide) (k_E5 _ _ _) in_X5_hang_X5 rfl (by decide) lk_X5_hang_f50 rfl rfl dX5_hang_100 ?_
            refine lv_iconst (v := (1 : Int32)) hC.x hC.b dX5_hang_103 (by decide) ?_
            refine lv_isub hC.x hC.b dX5_hang_104 ?_
            obtain ⟨rfl, rfl⟩ := sm2 h
            exact x_iret hC hw hr hlocks (by decide) (by decide) dX5_hang_105
          · have h := it_f h hc
            refine lv_aload_n hC.x hC.b dX5_hang_53 rfl (lv_at hl 0 rfl) ?_
            refine lv_iload_n hC.x hC.b dX5_hang_54 rfl (lv_at hl 1 rfl) ?_
            obtain ⟨r55, g55, hq, h⟩ := bd2_t h
            refine x_goi hC hw (x_runV hC hw (c_X5_hangs (Γ := Γ) (l := l) hC.2.2.2.2 hq) (cwV 1 hC.t gX5_hang_X5_hangs rfl rfl rfl (by decide +kernel) ⟨Nat.le_of_ble_eq_true rfl, Nat.le_of_ble_eq_true rfl⟩) (As := [.int (x1)]) (by decide) (k_E5 _ _ _) rfl rfl rfl hl.1 (Nat.le_of_ble_eq_true rfl) dX5_hang_55 ⟨by decide, by decide⟩) (fun H locs hw => ?_)
            refine lv_bipush (v := (6 : Int32)) hC.x hC.b dX5_hang_58 (by decide) ?_
            refine lv_icmp_ne (tgt := 69) hC.x hC.b dX5_hang_60 (by decide) (fun hc => ?_) (fun hc => ?_)
            · have h := it_f h hc
              refine lv_aload_n hC.x hC.b dX5_hang_69 rfl (lv_at hl 0 rfl) ?_
              refine x_get hC hw (k := 4) (T := TX5) (by decide) (k_E5 _ _ _) in_X5_hang_X5 rfl (by decide) lk_X5_hang_f9 rfl rfl dX5_hang_70 ?_
              refine lv_aload_n hC.x hC.b dX5_hang_73 rfl (lv_at hl 0 rfl) ?_
              refine x_get hC hw (k := 1) (T := TX5) (by decide) (k_E5 _ _ _) in_X5_hang_X5 rfl (by decide) lk_X5_hang_f50 rfl rfl dX5_hang_74 ?_
              refine lv_iload_n hC.x hC.b dX5_hang_77 rfl (lv_at hl 1 rfl) ?_
              obtain ⟨hg7, h⟩ := gd_t h
              refine x_iast hC hw rfl (by decide) hg7 dX5_hang_78 (fun H locs hw => ?_)
              refine lv_aload_n hC.x hC.b dX5_hang_79 rfl (lv_at hl 0 rfl) ?_
              refine x_get hC hw (k := 5) (T := TX5) (by decide) (k_E5 _ _ _) in_X5_hang_X5 rfl (by decide) lk_X5_hang_f13 rfl rfl dX5_hang_80 ?_
              refine lv_aload_n hC.x hC.b dX5_hang_83 rfl (lv_at hl 0 rfl) ?_
              refine x_get hC hw (k := 1) (T := TX5) (by decide) (k_E5 _ _ _) in_X5_hang_X5 rfl (by decide) lk_X5_hang_f50 rfl rfl dX5_hang_84 ?_
              refine lv_iload_n hC.x hC.b dX5_hang_87 rfl (lv_at hl 2 rfl) ?_
              obtain ⟨hg8, h⟩ := gd_t h
              refine x_iast hC hw rfl (by decide) hg8 dX5_hang_88 (fun H locs hw => ?_)
              refine lv_aload_n hC.x hC.b dX5_hang_89 rfl (lv_at hl 0 rfl) ?_
              refine lv_dup hC.x hC.b dX5_hang_90 rfl ?_
              refine x_get hC hw (k := 1) (T := TX5) (by decide) (k_E5 _ _ _) in_X5_hang_X5 rfl (by decide) lk_X5_hang_f50 rfl rfl dX5_hang_91 ?_
              refine lv_iconst (v := (1 : Int32)) hC.x hC.b dX5_hang_94 (by decide) ?_
              refine lv_iadd hC.x hC.b dX5_hang_95 ?_
              refine x_puti hC hw (k := 1) (T := TX5) (by decide) (k_E5 _ _ _) in_X5_hang_X5 rfl (by decide) lk_X5_hang_f50 rfl tyX5 tyX5_ok nmX5 rfl (by decide +kernel) (Nat.le_of_ble_eq_true rfl) (by rw [k_E5]; rfl) dX5_hang_96 (fun H locs hw => ?_)
              refine lv_aload_n hC.x hC.b dX5_hang_99 rfl (lv_at hl 0 rfl) ?_
              refine x_get hC hw (k := 1) (T := TX5) (by decide) (k_E5 _ _ _) in_X5_hang_X5 rfl (by decide) lk_X5_hang_f50 rfl rfl dX5_hang_100 ?_
              refine lv_iconst (v := (1 : Int32)) hC.x hC.b dX5_hang_103 (by decide) ?_
              refine lv_isub hC.x hC.b dX5_hang_104 ?_
              obtain ⟨rfl, rfl⟩ := sm2 h
              exact x_iret hC hw hr hlocks (by decide) (by decide) dX5_hang_105
            · have h := it_t h hc
              refine lv_aload_n hC.x hC.b dX5_hang_63 rfl (lv_at hl 0 rfl) ?_
              refine lv_iconst (v := (3 : Int32)) hC.x hC.b dX5_hang_64 (by decide) ?_
              obtain ⟨r65, g65, hq, h⟩ := bd2_t h
              refine x_goi hC hw (x_runV hC hw (c_X5_fail (Γ := Γ) (l := l) hC.2.2.2.2 hq) (cwV 1 hC.t gX5_hang_X5_fail rfl rfl rfl (by decide +kernel) ⟨Nat.le_of_ble_eq_true rfl, Nat.le_of_ble_eq_true rfl⟩) (As := [.int ((3 : Int32))]) (by decide) (k_E5 _ _ _) rfl rfl rfl hl.1 (Nat.le_of_ble_eq_true rfl) dX5_hang_65 ⟨by decide, by decide⟩) (fun H locs hw => ?_)
              obtain ⟨rfl, rfl⟩ := sm2 h
              exact x_iret hC hw hr hlocks (by decide) (by decide) dX5_hang_68
      · have h := it_t h hc
        refine lv_aload_n hC.x hC.b dX5_hang_33 rfl (lv_at hl 0 rfl) ?_
        refine lv_iconst (v := (2 : Int32)) hC.x hC.b dX5_hang_34 (by decide) ?_
        obtain ⟨r35, g35, hq, h⟩ := bd2_t h
        refine x_goi hC hw (x_runV hC hw (c_X5_fail (Γ := Γ) (l := l) hC.2.2.2.2 hq) (cwV 1 hC.t gX5_hang_X5_fail rfl rfl rfl (by decide +kernel) ⟨Nat.le_of_ble_eq_true rfl, Nat.le_of_ble_eq_true rfl⟩) (As := [.int ((2 : Int32))]) (by decide) (k_E5 _ _ _) rfl rfl rfl hl.1 (Nat.le_of_ble_eq_true rfl) dX5_hang_35 ⟨by decide, by decide⟩) (fun H locs hw => ?_)
        obtain ⟨rfl, rfl⟩ := sm2 h
        exact x_iret hC hw hr hlocks (by decide) (by decide) dX5_hang_38
    · have h := it_t h hc
      refine lv_aload_n hC.x hC.b dX5_hang_18 rfl (lv_at hl 0 rfl) ?_
      refine lv_iconst (v := (1 : Int32)) hC.x hC.b dX5_hang_19 (by decide) ?_
      obtain ⟨r20, g20, hq, h⟩ := bd2_t h
      refine x_goi hC hw (x_runV hC hw (c_X5_fail (Γ := Γ) (l := l) hC.2.2.2.2 hq) (cwV 1 hC.t gX5_hang_X5_fail rfl rfl rfl (by decide +kernel) ⟨Nat.le_of_ble_eq_true rfl, Nat.le_of_ble_eq_true rfl⟩) (As := [.int ((1 : Int32))]) (by decide) (k_E5 _ _ _) rfl rfl rfl hl.1 (Nat.le_of_ble_eq_true rfl) dX5_hang_20 ⟨by decide, by decide⟩) (fun H locs hw => ?_)
      obtain ⟨rfl, rfl⟩ := sm2 h
      exact x_iret hC hw hr hlocks (by decide) (by decide) dX5_hang_23
abbrev rm_X5_digits : Room := { frames := 0, cells := 0, slots := 0, locals := 0 }
theorem in_X5_digits_X5 : ∀ w ∈ wsX50, w ∈ wsX5_digits := fun _ h => List.mem_cons_of_mem _ (List.mem_append_right _ (h))
set_option maxRecDepth 20000 in
theorem lk_X5_digits_f71 : Cond.fieldLink RX5 71 "KnotArchiveModel" "TENS" "[I" ∈ wsX5_digits := by decide +kernel
set_option maxRecDepth 20000 in
theorem lk_X5_digits_f16 : Cond.fieldLink RX5 16 "KnotArchiveModel" "knots" "[I" ∈ wsX5_digits := by decide +kernel
set_option maxRecDepth 100000 in
set_option maxHeartbeats 4000000 in
theorem w_X5_digits_4 {Γ : k_Pm} {A0 : Nat → Prop} {p : Program} {l : Launch} {e : Env} {s : State} {m : MethodId} {args : Array Value} {below : List Frame} {meth : Method} {c : Code} {cells slots : Nat} {Q : State → Prop} {tmp : va_W} {c1 : Int32} (hC : k_C Γ A0 p l s m args c cX5_digits 4 wsX5_digits RX5) (hcs : cells ≤ rm_X5_digits.cells ∧ slots ≤ rm_X5_digits.slots) : ∀ (n : Nat) (v2 : Int32) (v3 : Int32) (g : Gt) (w2 : Int32) (w3 : Int32) (g2 : Gt), f_X5_digits_4 c1 n v2 v3 g = some (w2, w3, g2) → ∀ (H : Heap) (locs : List Loc) (ls : Array Slot), k_St Γ A0 s tmp g H locs → lv_has ls 4 [(3, .int (v3)), (2, .int (v2)), (0, .ref (k_ad Γ 5 (0))), (1, .int (c1))] → (∀ (H1 : Heap) (locs1 : List Loc) (ls1 : Array Slot), k_St Γ A0 s tmp g2 H1 locs1 → lv_has ls1 4 [(3, .int (w3)), (2, .int (w2)), (0, .ref (k_ad Γ 5 (0))), (1, .int (c1))] → W p l e rm_X5_digits s m args below meth c H1 locs1 cells slots Q (F0 m 34 ls1 [])) → W p l e rm_X5_digits s m args below meth c H locs cells slots Q (F0 m 4 ls []) := by
  intro n
  induction n with
  | zero => intro v2 v3 g w2 w3 g2 h; rw [f_X5_digits_4] at h; cases h
  | succ n ih =>
    intro v2 v3 g w2 w3 g2 h H locs ls hw hl kk
    rw [f_X5_digits_4] at h
    refine lv_iload_n hC.x hC.b dX5_digits_4 rfl (lv_at hl 0 rfl) ?_
    refine lv_iconst (v := (4 : Int32)) hC.x hC.b dX5_digits_5 (by decide) ?_
    refine lv_icmp_ge (tgt := 34) hC.x hC.b dX5_digits_6 (by decide) (fun hc => ?_) (fun hc => ?_)
    · have h := it_t h hc
      obtain ⟨rfl, rfl, rfl⟩ := sm3 h
      exact kk _ _ _ hw (lv_sub hl [0, 1, 2, 3] rfl)
    · have h := it_f h hc
      refine lv_iload_n hC.x hC.b dX5_digits_9 rfl (lv_at hl 1 rfl) ?_
      refine x_tens hC hw lk_X5_digits_f71 dX5_digits_10 (fun tt hT => ?_)
      refine lv_iload_n hC.x hC.b dX5_digits_13 rfl (lv_at hl 0 rfl) ?_
      obtain ⟨hg1, h⟩ := gd_t h
      refine x_tld hC hw hT hg1 dX5_digits_14 ?_
      refine lv_aload_n hC.x hC.b dX5_digits_15 rfl (lv_at hl 2 rfl) ?_
      refine x_get hC hw (k := 6) (T := TX5) (by decide) (k_E5 _ _ _) in_X5_digits_X5 rfl (by decide) lk_X5_digits_f16 rfl rfl dX5_digits_16 ?_
      refine lv_iconst (v := (4 : Int32)) hC.x hC.b dX5_digits_19 (by decide) ?_
      refine lv_iload_n hC.x hC.b dX5_digits_20 rfl (lv_at hl 3 rfl) ?_
      refine lv_imul hC.x hC.b dX5_digits_21 ?_
      refine lv_iload_n hC.x hC.b dX5_digits_22 rfl (lv_at hl 0 rfl) ?_
      refine lv_iadd hC.x hC.b dX5_digits_23 ?_
      obtain ⟨hg2, h⟩ := gd_t h
      refine x_iald hC hw rfl (by decide) hg2 dX5_digits_24 ?_
      refine lv_imul hC.x hC.b dX5_digits_25 ?_
      refine lv_iadd hC.x hC.b dX5_digits_26 ?_
      refine lv_istore_n (lv' := [(2, .int (v2 + ((k_te v3.toNatClampNeg) * (g 32 0 ((((4 : Int32) * c1) + v3).toNatClampNeg))))), (3, .int (v3)), (0, .ref (k_ad Γ 5 (0))), (1, .int (c1))]) hC.x hC.b dX5_digits_27 rfl hl (by decide) rfl (fun ls hl => ?_)
      refine lv_iinc (v := v3 + (1 : Int32)) (lv' := [(3, .int (v3 + (1 : Int32))), (2, .int (v2 + ((k_te v3.toNatClampNeg) * (g 32 0 ((((4 : Int32) * c1) + v3).toNatClampNeg))))), (0, .ref (k_ad Γ 5 (0))), (1, .int (c1))]) hC.x hC.b dX5_digits_28 hl (k := 1) rfl rfl (by decide) rfl (fun ls hl => ?_)
      refine lv_goto (tgt := 4) hC.x hC.b dX5_digits_31 (by decide) ?_
      exact ih _ _ _ _ _ _ h _ _ _ hw (lv_sub hl [0, 1, 2, 3] rfl) kk

set_option maxRecDepth 100000 in
set_option maxHeartbeats 4000000 in
theorem c_X5_digits {Γ : k_Pm} {l : Launch} (hl0 : l.stackTraces = false) {x1 : Int32}  {g : Gt} {r : Int32} {g2 : Gt} (h : f_X5_digits x1 g = some (r, g2)) : k_CI Γ l yX5_digits wsX5_digits rm_X5_digits [.ref (k_ad Γ 5 (0)), .int (x1)] g r g2 := by
  intro sz
  refine Met.ofW (cc := cX5_digits) (maxL := 4) (ret := (some .int)) (by decide) rfl ?_
  intro p e s m args below meth c s₁ B hml hv
  obtain ⟨rfl, rfl, hP, hKS⟩ := hv
  have hr := B.returns
  have hlocks := B.notSynchronized
  have hC : k_C Γ (k_A Γ s.heap.size) p l s m _ c cX5_digits 4 wsX5_digits RX5 := k_C.of ⟨B.exec, B.bytes, hml, findClass_of_methodNamed B.named, atoms_spec (ws := wsX5_digits) B.pre⟩ hKS hl0
  have hw : k_St Γ (k_A Γ s.heap.size) s [] g s.heap [] := k_St.of hKS hP
  have hl := lv_entry ([.ref (k_ad Γ 5 (0)), .int (x1)] : List Value) (n := 4) (Nat.le_of_ble_eq_true rfl)
  rw [lg_entry_eq]
  generalize (lg_sl ([.ref (k_ad Γ 5 (0)), .int (x1)] : List Value) ++ List.replicate (4 - (lg_sl ([.ref (k_ad Γ 5 (0)), .int (x1)] : List Value)).length) Slot.unset).toArray = ls at hl ⊢
  have hl : lv_has ls 4 [(0, .ref (k_ad Γ 5 (0))), (1, .int (x1))] := hl
  change W p l e rm_X5_digits _ _ _ _ _ _ _ _ _ _ _ _
  unfold f_X5_digits at h
  refine lv_iconst (v := (0 : Int32)) hC.x hC.b dX5_digits_0 (by decide) ?_
  refine lv_istore_n (lv' := [(2, .int ((0 : Int32))), (0, .ref (k_ad Γ 5 (0))), (1, .int (x1))]) hC.x hC.b dX5_digits_1 rfl hl (by decide) rfl (fun ls hl => ?_)
  refine lv_iconst (v := (0 : Int32)) hC.x hC.b dX5_digits_2 (by decide) ?_
  refine lv_istore_n (lv' := [(3, .int ((0 : Int32))), (2, .int ((0 : Int32))), (0, .ref (k_ad Γ 5 (0))), (1, .int (x1))]) hC.x hC.b dX5_digits_3 rfl hl (by decide) rfl (fun ls hl => ?_)
  obtain ⟨w4_2, w4_3, g4, hq, h⟩ := bd3_t h
  refine w_X5_digits_4 hC ⟨by decide, by decide⟩  k_N _ _ _ _ _ _ hq _ _ _ hw (lv_sub hl [0, 1, 2, 3] rfl) (fun H locs ls hw hl => ?_)
  refine lv_iload_n hC.x hC.b dX5_digits_34 rfl (lv_at hl 1 rfl) ?_
  obtain ⟨rfl, rfl⟩ := sm2 h
  exact x_iret hC hw hr hlocks (by decide) (by decide) dX5_digits_35
abbrev rm_X5_allFrays : Room := { frames := 0, cells := 0, slots := 0, locals := 0 }
theorem in_X5_allFrays_X5 : ∀ w ∈ wsX50, w ∈ wsX5_allFrays := fun _ h => List.mem_cons_of_mem _ (List.mem_append_right _ (h))
set_option maxRecDepth 20000 in
theorem lk_X5_allFrays_f19 : Cond.fieldLink RX5 19 "KnotArchiveModel" "frays" "[I" ∈ wsX5_allFrays := by decide +kernel
set_option maxRecDepth 100000 in
set_option maxHeartbeats 4000000 in
theorem w_X5_allFrays_4 {Γ : k_Pm} {A0 : Nat → Prop} {p : Program} {l : Launch} {e : Env} {s : State} {m : MethodId} {args : Array Value} {below : List Frame} {meth : Method} {c : Code} {cells slots : Nat} {Q : State → Prop} {tmp : va_W} {c1 : Int32} (hC : k_C Γ A0 p l s m args c cX5_allFrays 4 wsX5_allFrays RX5) (hcs : cells ≤ rm_X5_allFrays.cells ∧ slots ≤ rm_X5_allFrays.slots) : ∀ (n : Nat) (v2 : Int32) (v3 : Int32) (g : Gt) (w2 : Int32) (w3 : Int32) (g2 : Gt), f_X5_allFrays_4 c1 n v2 v3 g = some (w2, w3, g2) → ∀ (H : Heap) (locs : List Loc) (ls : Array Slot), k_St Γ A0 s tmp g H locs → lv_has ls 4 [(3, .int (v3)), (2, .int (v2)), (0, .ref (k_ad Γ 5 (0))), (1, .int (c1))] → (∀ (H1 : Heap) (locs1 : List Loc) (ls1 : Array Slot), k_St Γ A0 s tmp g2 H1 locs1 → lv_has ls1 4 [(3, .int (w3)), (2, .int (w2)), (0, .ref (k_ad Γ 5 (0))), (1, .int (c1))] → W p l e rm_X5_allFrays s m args below meth c H1 locs1 cells slots Q (F0 m 28 ls1 [])) → W p l e rm_X5_allFrays s m args below meth c H locs cells slots Q (F0 m 4 ls []) := by
  intro n
  induction n with
  | zero => intro v2 v3 g w2 w3 g2 h; rw [f_X5_allFrays_4] at h; cases h
  | succ n ih =>
    intro v2 v3 g w2 w3 g2 h H locs ls hw hl kk
    rw [f_X5_allFrays_4] at h
    refine lv_iload_n hC.x hC.b dX5_allFrays_4 rfl (lv_at hl 0 rfl) ?_
    refine lv_iconst (v := (4 : Int32)) hC.x hC.b dX5_allFrays_5 (by decide) ?_
    refine lv_icmp_ge (tgt := 28) hC.x hC.b dX5_allFrays_6 (by decide) (fun hc => ?_) (fun hc => ?_)
    · have h := it_t h hc
      obtain ⟨rfl, rfl, rfl⟩ := sm3 h
      exact kk _ _ _ hw (lv_sub hl [0, 1, 2, 3] rfl)
    · have h := it_f h hc
      refine lv_iload_n hC.x hC.b dX5_allFrays_9 rfl (lv_at hl 1 rfl) ?_
      refine lv_aload_n hC.x hC.b dX5_allFrays_10 rfl (lv_at hl 2 rfl) ?_
      refine x_get hC hw (k := 7) (T := TX5) (by decide) (k_E5 _ _ _) in_X5_allFrays_X5 rfl (by decide) lk_X5_allFrays_f19 rfl rfl dX5_allFrays_11 ?_
      refine lv_iconst (v := (4 : Int32)) hC.x hC.b dX5_allFrays_14 (by decide) ?_
      refine lv_iload_n hC.x hC.b dX5_allFrays_15 rfl (lv_at hl 3 rfl) ?_
      refine lv_imul hC.x hC.b dX5_allFrays_16 ?_
      refine lv_iload_n hC.x hC.b dX5_allFrays_17 rfl (lv_at hl 0 rfl) ?_
      refine lv_iadd hC.x hC.b dX5_allFrays_18 ?_
      obtain ⟨hg1, h⟩ := gd_t h
      refine x_iald hC hw rfl (by decide) hg1 dX5_allFrays_19 ?_
      refine lv_iadd hC.x hC.b dX5_allFrays_20 ?_
      refine lv_istore_n (lv' := [(2, .int (v2 + (g 33 0 ((((4 : Int32) * c1) + v3).toNatClampNeg)))), (3, .int (v3)), (0, .ref (k_ad Γ 5 (0))), (1, .int (c1))]) hC.x hC.b dX5_allFrays_21 rfl hl (by decide) rfl (fun ls hl => ?_)
      refine lv_iinc (v := v3 + (1 : Int32)) (lv' := [(3, .int (v3 + (1 : Int32))), (2, .int (v2 + (g 33 0 ((((4 : Int32) * c1) + v3).toNatClampNeg)))), (0, .ref (k_ad Γ 5 (0))), (1, .int (c1))]) hC.x hC.b dX5_allFrays_22 hl (k := 1) rfl rfl (by decide) rfl (fun ls hl => ?_)
      refine lv_goto (tgt := 4) hC.x hC.b dX5_allFrays_25 (by decide) ?_
      exact ih _ _ _ _ _ _ h _ _ _ hw (lv_sub hl [0, 1, 2, 3] rfl) kk

set_option maxRecDepth 100000 in
set_option maxHeartbeats 4000000 in
theorem c_X5_allFrays {Γ : k_Pm} {l : Launch} (hl0 : l.stackTraces = false) {x1 : Int32}  {g : Gt} {r : Int32} {g2 : Gt} (h : f_X5_allFrays x1 g = some (r, g2)) : k_CI Γ l yX5_allFrays wsX5_allFrays rm_X5_allFrays [.ref (k_ad Γ 5 (0)), .int (x1)] g r g2 := by
  intro sz
  refine Met.ofW (cc := cX5_allFrays) (maxL := 4) (ret := (some .int)) (by decide) rfl ?_
  intro p e s m args below meth c s₁ B hml hv
  obtain ⟨rfl, rfl, hP, hKS⟩ := hv
  have hr := B.returns
  have hlocks := B.notSynchronized
  have hC : k_C Γ (k_A Γ s.heap.size) p l s m _ c cX5_allFrays 4 wsX5_allFrays RX5 := k_C.of ⟨B.exec, B.bytes, hml, findClass_of_methodNamed B.named, atoms_spec (ws := wsX5_allFrays) B.pre⟩ hKS hl0
  have hw : k_St Γ (k_A Γ s.heap.size) s [] g s.heap [] := k_St.of hKS hP
  have hl := lv_entry ([.ref (k_ad Γ 5 (0)), .int (x1)] : List Value) (n := 4) (Nat.le_of_ble_eq_true rfl)
  rw [lg_entry_eq]
  generalize (lg_sl ([.ref (k_ad Γ 5 (0)), .int (x1)] : List Value) ++ List.replicate (4 - (lg_sl ([.ref (k_ad Γ 5 (0)), .int (x1)] : List Value)).length) Slot.unset).toArray = ls at hl ⊢
  have hl : lv_has ls 4 [(0, .ref (k_ad Γ 5 (0))), (1, .int (x1))] := hl
  change W p l e rm_X5_allFrays _ _ _ _ _ _ _ _ _ _ _ _
  unfold f_X5_allFrays at h
  refine lv_iconst (v := (0 : Int32)) hC.x hC.b dX5_allFrays_0 (by decide) ?_
  refine lv_istore_n (lv' := [(2, .int ((0 : Int32))), (0, .ref (k_ad Γ 5 (0))), (1, .int (x1))]) hC.x hC.b dX5_allFrays_1 rfl hl (by decide) rfl (fun ls hl => ?_)
  refine lv_iconst (v := (0 : Int32)) hC.x hC.b dX5_allFrays_2 (by decide) ?_
  refine lv_istore_n (lv' := [(3, .int ((0 : Int32))), (2, .int ((0 : Int32))), (0, .ref (k_ad Γ 5 (0))), (1, .int (x1))]) hC.x hC.b dX5_allFrays_3 rfl hl (by decide) rfl (fun ls hl => ?_)
  obtain ⟨w4_2, w4_3, g4, hq, h⟩ := bd3_t h
  refine w_X5_allFrays_4 hC ⟨by decide, by decide⟩  k_N _ _ _ _ _ _ hq _ _ _ hw (lv_sub hl [0, 1, 2, 3] rfl) (fun H locs ls hw hl => ?_)
  refine lv_iload_n hC.x hC.b dX5_allFrays_28 rfl (lv_at hl 1 rfl) ?_
  obtain ⟨rfl, rfl⟩ := sm2 h
  exact x_iret hC hw hr hlocks (by decide) (by decide) dX5_allFrays_29
abbrev rm_X5_tie : Room := { frames := 2, cells := 0, slots := 0, locals := 43 }
theorem in_X5_tie_X5 : ∀ w ∈ wsX50, w ∈ wsX5_tie := fun _ h => List.mem_cons_of_mem _ (List.mem_append_right _ (h))
set_option maxRecDepth 20000 in
theorem lk_X5_tie_f46 : Cond.fieldLink RX5 46 "KnotArchiveModel" "thrown" "I" ∈ wsX5_tie := by decide +kernel
set_option maxRecDepth 20000 in
theorem lk_X5_tie_f16 : Cond.fieldLink RX5 16 "KnotArchiveModel" "knots" "[I" ∈ wsX5_tie := by decide +kernel
set_option maxRecDepth 20000 in
theorem lk_X5_tie_f71 : Cond.fieldLink RX5 71 "KnotArchiveModel" "TENS" "[I" ∈ wsX5_tie := by decide +kernel
set_option maxRecDepth 20000 in
theorem lk_X5_tie_f19 : Cond.fieldLink RX5 19 "KnotArchiveModel" "frays" "[I" ∈ wsX5_tie := by decide +kernel
set_option maxRecDepth 100000 in
set_option maxHeartbeats 4000000 in
theorem w_X5_tie_45 {Γ : k_Pm} {A0 : Nat → Prop} {p : Program} {l : Launch} {e : Env} {s : State} {m : MethodId} {args : Array Value} {below : List Frame} {meth : Method} {c : Code} {cells slots : Nat} {Q : State → Prop} {tmp : va_W} {c3 : Int32} {c1 : Int32} {c2 : Int32} (hC : k_C Γ A0 p l s m args c cX5_tie 5 wsX5_tie RX5) (hcs : cells ≤ rm_X5_tie.cells ∧ slots ≤ rm_X5_tie.slots) : ∀ (n : Nat) (v4 : Int32) (g : Gt) (w4 : Int32) (g2 : Gt), f_X5_tie_45 c3 c1 c2 n v4 g = some (w4, g2) → ∀ (H : Heap) (locs : List Loc) (ls : Array Slot), k_St Γ A0 s tmp g H locs → lv_has ls 5 [(4, .int (v4)), (3, .int (c3)), (0, .ref (k_ad Γ 5 (0))), (1, .int (c1)), (2, .int (c2))] → (∀ (H1 : Heap) (locs1 : List Loc) (ls1 : Array Slot), k_St Γ A0 s tmp g2 H1 locs1 → lv_has ls1 5 [(4, .int (w4)), (3, .int (c3)), (0, .ref (k_ad Γ 5 (0))), (1, .int (c1)), (2, .int (c2))] → W p l e rm_X5_tie s m args below meth c H1 locs1 cells slots Q (F0 m 91 ls1 [])) → W p l e rm_X5_tie s m args below meth c H locs cells slots Q (F0 m 45 ls []) := by
  intro n
  induction n with
  | zero => intro v4 g w4 g2 h; rw [f_X5_tie_45] at h; cases h
  | succ n ih =>
    intro v4 g w4 g2 h H locs ls hw hl kk
    rw [f_X5_tie_45] at h
    refine lv_iload hC.x hC.b dX5_tie_45 (lv_at hl 0 rfl) ?_
    refine lv_iconst (v := (4 : Int32)) hC.x hC.b dX5_tie_47 (by decide) ?_
    refine lv_icmp_ge (tgt := 91) hC.x hC.b dX5_tie_48 (by decide) (fun hc => ?_) (fun hc => ?_)
    · have h := it_t h hc
      obtain ⟨rfl, rfl⟩ := sm2 h
      exact kk _ _ _ hw (lv_sub hl [0, 1, 2, 3, 4] rfl)
    · have h := it_f h hc
      refine lv_aload_n hC.x hC.b dX5_tie_51 rfl (lv_at hl 2 rfl) ?_
      refine x_get hC hw (k := 6) (T := TX5) (by decide) (k_E5 _ _ _) in_X5_tie_X5 rfl (by decide) lk_X5_tie_f16 rfl rfl dX5_tie_52 ?_
      refine lv_iconst (v := (4 : Int32)) hC.x hC.b dX5_tie_55 (by decide) ?_
      refine lv_iload_n hC.x hC.b dX5_tie_56 rfl (lv_at hl 3 rfl) ?_
      refine lv_imul hC.x hC.b dX5_tie_57 ?_
      refine lv_iload hC.x hC.b dX5_tie_58 (lv_at hl 0 rfl) ?_
      refine lv_iadd hC.x hC.b dX5_tie_60 ?_
      refine lv_iload_n hC.x hC.b dX5_tie_61 rfl (lv_at hl 4 rfl) ?_
      refine x_tens hC hw lk_X5_tie_f71 dX5_tie_62 (fun tt hT => ?_)
      refine lv_iload hC.x hC.b dX5_tie_65 (lv_at hl 0 rfl) ?_
      obtain ⟨hg1, h⟩ := gd_t h
      refine x_tld hC hw hT hg1 dX5_tie_67 ?_
      obtain ⟨hg, h⟩ := gd_t h
      refine lv_idiv hC.x hC.b dX5_tie_68 (of_decide_eq_true hg) ?_
      refine lv_bipush (v := (10 : Int32)) hC.x hC.b dX5_tie_69 (by decide) ?_
      refine lv_irem hC.x hC.b dX5_tie_71 (by decide) ?_
      obtain ⟨hg2, h⟩ := gd_t h
      refine x_iast hC hw rfl (by decide) hg2 dX5_tie_72 (fun H locs hw => ?_)
      refine lv_aload_n hC.x hC.b dX5_tie_73 rfl (lv_at hl 2 rfl) ?_
      refine x_get hC hw (k := 7) (T := TX5) (by decide) (k_E5 _ _ _) in_X5_tie_X5 rfl (by decide) lk_X5_tie_f19 rfl rfl dX5_tie_74 ?_
      refine lv_iconst (v := (4 : Int32)) hC.x hC.b dX5_tie_77 (by decide) ?_
      refine lv_iload_n hC.x hC.b dX5_tie_78 rfl (lv_at hl 3 rfl) ?_
      refine lv_imul hC.x hC.b dX5_tie_79 ?_
      refine lv_iload hC.x hC.b dX5_tie_80 (lv_at hl 0 rfl) ?_
      refine lv_iadd hC.x hC.b dX5_tie_82 ?_
      refine lv_iconst (v := (0 : Int32)) hC.x hC.b dX5_tie_83 (by decide) ?_
      obtain ⟨hg3, h⟩ := gd_t h
      refine x_iast hC hw rfl (by decide) hg3 dX5_tie_84 (fun H locs hw => ?_)
      refine lv_iinc (v := v4 + (1 : Int32)) (lv' := [(4, .int (v4 + (1 : Int32))), (3, .int (c3)), (0, .ref (k_ad Γ 5 (0))), (1, .int (c1)), (2, .int (c2))]) hC.x hC.b dX5_tie_85 hl (k := 0) rfl rfl (by decide) rfl (fun ls hl => ?_)
      refine lv_goto (tgt := 45) hC.x hC.b dX5_tie_88 (by decide) ?_
      exact ih _ _ _ _ h _ _ _ hw (lv_sub hl [0, 1, 2, 3, 4] rfl) kk

set_option maxRecDepth 100000 in
set_option maxHeartbeats 4000000 in
theorem c_X5_tie {Γ : k_Pm} {l : Launch} (hl0 : l.stackTraces = false) {x1 : Int32} {x2 : Int32}  {g : Gt} {r : Int32} {g2 : Gt} (h : f_X5_tie x1 x2 g = some (r, g2)) : k_CI Γ l yX5_tie wsX5_tie rm_X5_tie [.ref (k_ad Γ 5 (0)), .int (x1), .int (x2)] g r g2 := by
  intro sz
  refine Met.ofW (cc := cX5_tie) (maxL := 5) (ret := (some .int)) (by decide) rfl ?_
  intro p e s m args below meth c s₁ B hml hv
  obtain ⟨rfl, rfl, hP, hKS⟩ := hv
  have hr := B.returns
  have hlocks := B.notSynchronized
  have hC : k_C Γ (k_A Γ s.heap.size) p l s m _ c cX5_tie 5 wsX5_tie RX5 := k_C.of ⟨B.exec, B.bytes, hml, findClass_of_methodNamed B.named, atoms_spec (ws := wsX5_tie) B.pre⟩ hKS hl0
  have hw : k_St Γ (k_A Γ s.heap.size) s [] g s.heap [] := k_St.of hKS hP
  have hl := lv_entry ([.ref (k_ad Γ 5 (0)), .int (x1), .int (x2)] : List Value) (n := 5) (Nat.le_of_ble_eq_true rfl)
  rw [lg_entry_eq]
  generalize (lg_sl ([.ref (k_ad Γ 5 (0)), .int (x1), .int (x2)] : List Value) ++ List.replicate (5 - (lg_sl ([.ref (k_ad Γ 5 (0)), .int (x1), .int (x2)] : List Value)).length) Slot.unset).toArray = ls at hl ⊢
  have hl : lv_has ls 5 [(0, .ref (k_ad Γ 5 (0))), (1, .int (x1)), (2, .int (x2))] := hl
  change W p l e rm_X5_tie _ _ _ _ _ _ _ _ _ _ _ _
  unfold f_X5_tie at h
  refine lv_aload_n hC.x hC.b dX5_tie_0 rfl (lv_at hl 0 rfl) ?_
  refine lv_iconst (v := (0 : Int32)) hC.x hC.b dX5_tie_1 (by decide) ?_
  refine x_puti hC hw (k := 0) (T := TX5) (by decide) (k_E5 _ _ _) in_X5_tie_X5 rfl (by decide) lk_X5_tie_f46 rfl tyX5 tyX5_ok nmX5 rfl (by decide +kernel) (Nat.le_of_ble_eq_true rfl) (by rw [k_E5]; rfl) dX5_tie_2 (fun H locs hw => ?_)
  refine lv_aload_n hC.x hC.b dX5_tie_5 rfl (lv_at hl 0 rfl) ?_
  refine lv_iload_n hC.x hC.b dX5_tie_6 rfl (lv_at hl 1 rfl) ?_
  obtain ⟨r7, g7, hq, h⟩ := bd2_t h
  refine x_goi hC hw (x_runV hC hw (c_X5_isCord (Γ := Γ) (l := l) hC.2.2.2.2 hq) (cwV 1 hC.t gX5_tie_X5_isCord rfl rfl rfl (by decide +kernel) ⟨Nat.le_of_ble_eq_true rfl, Nat.le_of_ble_eq_true rfl⟩) (As := [.int (x1)]) (by decide) (k_E5 _ _ _) rfl rfl rfl hl.1 (Nat.le_of_ble_eq_true rfl) dX5_tie_7 ⟨by decide, by decide⟩) (fun H locs hw => ?_)
  refine lv_if_ne (tgt := 19) hC.x hC.b dX5_tie_10 (by decide) (fun hc => ?_) (fun hc => ?_)
  · have h := it_f h hc
    refine lv_iload_n hC.x hC.b dX5_tie_19 rfl (lv_at hl 2 rfl) ?_
    refine lv_iconst (v := (0 : Int32)) hC.x hC.b dX5_tie_20 (by decide) ?_
    refine lv_sipush (v := (9999 : Int32)) hC.x hC.b dX5_tie_21 (by decide) ?_
    obtain ⟨r24, g24, hq, h⟩ := bd2_t h
    refine x_goi hC hw (x_runS hC hw (c_X5_isIn (Γ := Γ) (l := l) hC.2.2.2.2 hq) (va_cwS 3 hC.t gX5_tie_X5_isIn rfl rfl rfl (by decide +kernel) ⟨Nat.le_of_ble_eq_true rfl, Nat.le_of_ble_eq_true rfl⟩) (As := [.int (x2), .int ((0 : Int32)), .int ((9999 : Int32))]) rfl hl.1 (Nat.le_of_ble_eq_true rfl) dX5_tie_24 ⟨by decide, by decide⟩) (fun H locs hw => ?_)
    refine lv_if_ne (tgt := 36) hC.x hC.b dX5_tie_27 (by decide) (fun hc => ?_) (fun hc => ?_)
    · have h := it_f h hc
      refine lv_aload_n hC.x hC.b dX5_tie_36 rfl (lv_at hl 0 rfl) ?_
      refine lv_iload_n hC.x hC.b dX5_tie_37 rfl (lv_at hl 1 rfl) ?_
      obtain ⟨r38, g38, hq, h⟩ := bd2_t h
      refine x_goi hC hw (x_runV hC hw (c_X5_digits (Γ := Γ) (l := l) hC.2.2.2.2 hq) (cwV 1 hC.t gX5_tie_X5_digits rfl rfl rfl (by decide +kernel) ⟨Nat.le_of_ble_eq_true rfl, Nat.le_of_ble_eq_true rfl⟩) (As := [.int (x1)]) (by decide) (k_E5 _ _ _) rfl rfl rfl hl.1 (Nat.le_of_ble_eq_true rfl) dX5_tie_38 ⟨by decide, by decide⟩) (fun H locs hw => ?_)
      refine lv_istore_n (lv' := [(3, .int (r38)), (0, .ref (k_ad Γ 5 (0))), (1, .int (x1)), (2, .int (x2))]) hC.x hC.b dX5_tie_41 rfl hl (by decide) rfl (fun ls hl => ?_)
      refine lv_iconst (v := (0 : Int32)) hC.x hC.b dX5_tie_42 (by decide) ?_
      refine lv_istore (lv' := [(4, .int ((0 : Int32))), (3, .int (r38)), (0, .ref (k_ad Γ 5 (0))), (1, .int (x1)), (2, .int (x2))]) hC.x hC.b dX5_tie_43 hl (by decide) rfl (fun ls hl => ?_)
      obtain ⟨w45_4, g45, hq, h⟩ := bd2_t h
      refine w_X5_tie_45 hC ⟨by decide, by decide⟩  k_N _ _ _ _ hq _ _ _ hw (lv_sub hl [0, 1, 2, 3, 4] rfl) (fun H locs ls hw hl => ?_)
      refine lv_iload_n hC.x hC.b dX5_tie_91 rfl (lv_at hl 1 rfl) ?_
      obtain ⟨rfl, rfl⟩ := sm2 h
      exact x_iret hC hw hr hlocks (by decide) (by decide) dX5_tie_92
    · have h := it_t h hc
      refine lv_aload_n hC.x hC.b dX5_tie_30 rfl (lv_at hl 0 rfl) ?_
      refine lv_iconst (v := (2 : Int32)) hC.x hC.b dX5_tie_31 (by decide) ?_
      obtain ⟨r32, g32, hq, h⟩ := bd2_t h
      refine x_goi hC hw (x_runV hC hw (c_X5_fail (Γ := Γ) (l := l) hC.2.2.2.2 hq) (cwV 1 hC.t gX5_tie_X5_fail rfl rfl rfl (by decide +kernel) ⟨Nat.le_of_ble_eq_true rfl, Nat.le_of_ble_eq_true rfl⟩) (As := [.int ((2 : Int32))]) (by decide) (k_E5 _ _ _) rfl rfl rfl hl.1 (Nat.le_of_ble_eq_true rfl) dX5_tie_32 ⟨by decide, by decide⟩) (fun H locs hw => ?_)
      obtain ⟨rfl, rfl⟩ := sm2 h
      exact x_iret hC hw hr hlocks (by decide) (by decide) dX5_tie_35
  · have h := it_t h hc
    refine lv_aload_n hC.x hC.b dX5_tie_13 rfl (lv_at hl 0 rfl) ?_
    refine lv_iconst (v := (1 : Int32)) hC.x hC.b dX5_tie_14 (by decide) ?_
    obtain ⟨r15, g15, hq, h⟩ := bd2_t h
    refine x_goi hC hw (x_runV hC hw (c_X5_fail (Γ := Γ) (l := l) hC.2.2.2.2 hq) (cwV 1 hC.t gX5_tie_X5_fail rfl rfl rfl (by decide +kernel) ⟨Nat.le_of_ble_eq_true rfl, Nat.le_of_ble_eq_true rfl⟩) (As := [.int ((1 : Int32))]) (by decide) (k_E5 _ _ _) rfl rfl rfl hl.1 (Nat.le_of_ble_eq_true rfl) dX5_tie_15 ⟨by decide, by decide⟩) (fun H locs hw => ?_)
    obtain ⟨rfl, rfl⟩ := sm2 h
    exact x_iret hC hw hr hlocks (by decide) (by decide) dX5_tie_18
abbrev rm_X5_mend : Room := { frames := 2, cells := 0, slots := 0, locals := 43 }
theorem in_X5_mend_X5 : ∀ w ∈ wsX50, w ∈ wsX5_mend := fun _ h => List.mem_cons_of_mem _ (List.mem_append_right _ (h))
set_option maxRecDepth 20000 in
theorem lk_X5_mend_f46 : Cond.fieldLink RX5 46 "KnotArchiveModel" "thrown" "I" ∈ wsX5_mend := by decide +kernel
set_option maxRecDepth 20000 in
theorem lk_X5_mend_f19 : Cond.fieldLink RX5 19 "KnotArchiveModel" "frays" "[I" ∈ wsX5_mend := by decide +kernel
set_option maxRecDepth 100000 in
set_option maxHeartbeats 4000000 in
theorem w_X5_mend_27 {Γ : k_Pm} {A0 : Nat → Prop} {p : Program} {l : Launch} {e : Env} {s : State} {m : MethodId} {args : Array Value} {below : List Frame} {meth : Method} {c : Code} {cells slots : Nat} {Q : State → Prop} {tmp : va_W} {c2 : Int32} {c1 : Int32} (hC : k_C Γ A0 p l s m args c cX5_mend 4 wsX5_mend RX5) (hcs : cells ≤ rm_X5_mend.cells ∧ slots ≤ rm_X5_mend.slots) : ∀ (n : Nat) (v3 : Int32) (g : Gt) (w3 : Int32) (g2 : Gt), f_X5_mend_27 c2 c1 n v3 g = some (w3, g2) → ∀ (H : Heap) (locs : List Loc) (ls : Array Slot), k_St Γ A0 s tmp g H locs → lv_has ls 4 [(3, .int (v3)), (2, .int (c2)), (0, .ref (k_ad Γ 5 (0))), (1, .int (c1))] → (∀ (H1 : Heap) (locs1 : List Loc) (ls1 : Array Slot), k_St Γ A0 s tmp g2 H1 locs1 → lv_has ls1 4 [(3, .int (w3)), (2, .int (c2)), (0, .ref (k_ad Γ 5 (0))), (1, .int (c1))] → W p l e rm_X5_mend s m args below meth c H1 locs1 cells slots Q (F0 m 49 ls1 [])) → W p l e rm_X5_mend s m args below meth c H locs cells slots Q (F0 m 27 ls []) := by
  intro n
  induction n with
  | zero => intro v3 g w3 g2 h; rw [f_X5_mend_27] at h; cases h
  | succ n ih =>
    intro v3 g w3 g2 h H locs ls hw hl kk
    rw [f_X5_mend_27] at h
    refine lv_iload_n hC.x hC.b dX5_mend_27 rfl (lv_at hl 0 rfl) ?_
    refine lv_iconst (v := (4 : Int32)) hC.x hC.b dX5_mend_28 (by decide) ?_
    refine lv_icmp_ge (tgt := 49) hC.x hC.b dX5_mend_29 (by decide) (fun hc => ?_) (fun hc => ?_)
    · have h := it_t h hc
      obtain ⟨rfl, rfl⟩ := sm2 h
      exact kk _ _ _ hw (lv_sub hl [0, 1, 2, 3] rfl)
    · have h := it_f h hc
      refine lv_aload_n hC.x hC.b dX5_mend_32 rfl (lv_at hl 2 rfl) ?_
      refine x_get hC hw (k := 7) (T := TX5) (by decide) (k_E5 _ _ _) in_X5_mend_X5 rfl (by decide) lk_X5_mend_f19 rfl rfl dX5_mend_33 ?_
      refine lv_iconst (v := (4 : Int32)) hC.x hC.b dX5_mend_36 (by decide) ?_
      refine lv_iload_n hC.x hC.b dX5_mend_37 rfl (lv_at hl 3 rfl) ?_
      refine lv_imul hC.x hC.b dX5_mend_38 ?_
      refine lv_iload_n hC.x hC.b dX5_mend_39 rfl (lv_at hl 0 rfl) ?_
      refine lv_iadd hC.x hC.b dX5_mend_40 ?_
      refine lv_iconst (v := (0 : Int32)) hC.x hC.b dX5_mend_41 (by decide) ?_
      obtain ⟨hg1, h⟩ := gd_t h
      refine x_iast hC hw rfl (by decide) hg1 dX5_mend_42 (fun H locs hw => ?_)
      refine lv_iinc (v := v3 + (1 : Int32)) (lv' := [(3, .int (v3 + (1 : Int32))), (2, .int (c2)), (0, .ref (k_ad Γ 5 (0))), (1, .int (c1))]) hC.x hC.b dX5_mend_43 hl (k := 0) rfl rfl (by decide) rfl (fun ls hl => ?_)
      refine lv_goto (tgt := 27) hC.x hC.b dX5_mend_46 (by decide) ?_
      exact ih _ _ _ _ h _ _ _ hw (lv_sub hl [0, 1, 2, 3] rfl) kk

set_option maxRecDepth 100000 in
set_option maxHeartbeats 4000000 in
theorem c_X5_mend {Γ : k_Pm} {l : Launch} (hl0 : l.stackTraces = false) {x1 : Int32}  {g : Gt} {r : Int32} {g2 : Gt} (h : f_X5_mend x1 g = some (r, g2)) : k_CI Γ l yX5_mend wsX5_mend rm_X5_mend [.ref (k_ad Γ 5 (0)), .int (x1)] g r g2 := by
  intro sz
  refine Met.ofW (cc := cX5_mend) (maxL := 4) (ret := (some .int)) (by decide) rfl ?_
  intro p e s m args below meth c s₁ B hml hv
  obtain ⟨rfl, rfl, hP, hKS⟩ := hv
  have hr := B.returns
  have hlocks := B.notSynchronized
  have hC : k_C Γ (k_A Γ s.heap.size) p l s m _ c cX5_mend 4 wsX5_mend RX5 := k_C.of ⟨B.exec, B.bytes, hml, findClass_of_methodNamed B.named, atoms_spec (ws := wsX5_mend) B.pre⟩ hKS hl0
  have hw : k_St Γ (k_A Γ s.heap.size) s [] g s.heap [] := k_St.of hKS hP
  have hl := lv_entry ([.ref (k_ad Γ 5 (0)), .int (x1)] : List Value) (n := 4) (Nat.le_of_ble_eq_true rfl)
  rw [lg_entry_eq]
  generalize (lg_sl ([.ref (k_ad Γ 5 (0)), .int (x1)] : List Value) ++ List.replicate (4 - (lg_sl ([.ref (k_ad Γ 5 (0)), .int (x1)] : List Value)).length) Slot.unset).toArray = ls at hl ⊢
  have hl : lv_has ls 4 [(0, .ref (k_ad Γ 5 (0))), (1, .int (x1))] := hl
  change W p l e rm_X5_mend _ _ _ _ _ _ _ _ _ _ _ _
  unfold f_X5_mend at h
  refine lv_aload_n hC.x hC.b dX5_mend_0 rfl (lv_at hl 0 rfl) ?_
  refine lv_iconst (v := (0 : Int32)) hC.x hC.b dX5_mend_1 (by decide) ?_
  refine x_puti hC hw (k := 0) (T := TX5) (by decide) (k_E5 _ _ _) in_X5_mend_X5 rfl (by decide) lk_X5_mend_f46 rfl tyX5 tyX5_ok nmX5 rfl (by decide +kernel) (Nat.le_of_ble_eq_true rfl) (by rw [k_E5]; rfl) dX5_mend_2 (fun H locs hw => ?_)
  refine lv_aload_n hC.x hC.b dX5_mend_5 rfl (lv_at hl 0 rfl) ?_
  refine lv_iload_n hC.x hC.b dX5_mend_6 rfl (lv_at hl 1 rfl) ?_
  obtain ⟨r7, g7, hq, h⟩ := bd2_t h
  refine x_goi hC hw (x_runV hC hw (c_X5_isCord (Γ := Γ) (l := l) hC.2.2.2.2 hq) (cwV 1 hC.t gX5_mend_X5_isCord rfl rfl rfl (by decide +kernel) ⟨Nat.le_of_ble_eq_true rfl, Nat.le_of_ble_eq_true rfl⟩) (As := [.int (x1)]) (by decide) (k_E5 _ _ _) rfl rfl rfl hl.1 (Nat.le_of_ble_eq_true rfl) dX5_mend_7 ⟨by decide, by decide⟩) (fun H locs hw => ?_)
  refine lv_if_ne (tgt := 19) hC.x hC.b dX5_mend_10 (by decide) (fun hc => ?_) (fun hc => ?_)
  · have h := it_f h hc
    refine lv_aload_n hC.x hC.b dX5_mend_19 rfl (lv_at hl 0 rfl) ?_
    refine lv_iload_n hC.x hC.b dX5_mend_20 rfl (lv_at hl 1 rfl) ?_
    obtain ⟨r21, g21, hq, h⟩ := bd2_t h
    refine x_goi hC hw (x_runV hC hw (c_X5_allFrays (Γ := Γ) (l := l) hC.2.2.2.2 hq) (cwV 1 hC.t gX5_mend_X5_allFrays rfl rfl rfl (by decide +kernel) ⟨Nat.le_of_ble_eq_true rfl, Nat.le_of_ble_eq_true rfl⟩) (As := [.int (x1)]) (by decide) (k_E5 _ _ _) rfl rfl rfl hl.1 (Nat.le_of_ble_eq_true rfl) dX5_mend_21 ⟨by decide, by decide⟩) (fun H locs hw => ?_)
    refine lv_istore_n (lv' := [(2, .int (r21)), (0, .ref (k_ad Γ 5 (0))), (1, .int (x1))]) hC.x hC.b dX5_mend_24 rfl hl (by decide) rfl (fun ls hl => ?_)
    refine lv_iconst (v := (0 : Int32)) hC.x hC.b dX5_mend_25 (by decide) ?_
    refine lv_istore_n (lv' := [(3, .int ((0 : Int32))), (2, .int (r21)), (0, .ref (k_ad Γ 5 (0))), (1, .int (x1))]) hC.x hC.b dX5_mend_26 rfl hl (by decide) rfl (fun ls hl => ?_)
    obtain ⟨w27_3, g27, hq, h⟩ := bd2_t h
    refine w_X5_mend_27 hC ⟨by decide, by decide⟩  k_N _ _ _ _ hq _ _ _ hw (lv_sub hl [0, 1, 2, 3] rfl) (fun H locs ls hw hl => ?_)
    refine lv_iload_n hC.x hC.b dX5_mend_49 rfl (lv_at hl 1 rfl) ?_
    obtain ⟨rfl, rfl⟩ := sm2 h
    exact x_iret hC hw hr hlocks (by decide) (by decide) dX5_mend_50
  · have h := it_t h hc
    refine lv_aload_n hC.x hC.b dX5_mend_13 rfl (lv_at hl 0 rfl) ?_
    refine lv_iconst (v := (1 : Int32)) hC.x hC.b dX5_mend_14 (by decide) ?_
    obtain ⟨r15, g15, hq, h⟩ := bd2_t h
    refine x_goi hC hw (x_runV hC hw (c_X5_fail (Γ := Γ) (l := l) hC.2.2.2.2 hq) (cwV 1 hC.t gX5_mend_X5_fail rfl rfl rfl (by decide +kernel) ⟨Nat.le_of_ble_eq_true rfl, Nat.le_of_ble_eq_true rfl⟩) (As := [.int ((1 : Int32))]) (by decide) (k_E5 _ _ _) rfl rfl rfl hl.1 (Nat.le_of_ble_eq_true rfl) dX5_mend_15 ⟨by decide, by decide⟩) (fun H locs hw => ?_)
    obtain ⟨rfl, rfl⟩ := sm2 h
    exact x_iret hC hw hr hlocks (by decide) (by decide) dX5_mend_18
abbrev rm_X5_count : Room := { frames := 1, cells := 0, slots := 0, locals := 23 }
theorem in_X5_count_X5 : ∀ w ∈ wsX50, w ∈ wsX5_count := fun _ h => List.mem_cons_of_mem _ (List.mem_append_right _ (h))
set_option maxRecDepth 20000 in
theorem lk_X5_count_f9 : Cond.fieldLink RX5 9 "KnotArchiveModel" "from" "[I" ∈ wsX5_count := by decide +kernel
set_option maxRecDepth 20000 in
theorem lk_X5_count_f43 : Cond.fieldLink RX5 43 "KnotArchiveModel" "hanging" "[I" ∈ wsX5_count := by decide +kernel
set_option maxRecDepth 20000 in
theorem lk_X5_count_f13 : Cond.fieldLink RX5 13 "KnotArchiveModel" "strands" "[I" ∈ wsX5_count := by decide +kernel
set_option maxRecDepth 20000 in
theorem lk_X5_count_f37 : Cond.fieldLink RX5 37 "KnotArchiveModel" "counted" "[I" ∈ wsX5_count := by decide +kernel
set_option maxRecDepth 20000 in
theorem lk_X5_count_m92 : Cond.methodLink RX5 92 Lib.Math.max.name ∈ wsX5_count := by decide +kernel
set_option maxRecDepth 20000 in
theorem lk_X5_count_s92 : Cond.static Lib.Math.max.name ∈ wsX5_count := by decide +kernel
set_option maxRecDepth 20000 in
theorem lk_X5_count_imath : Cond.initialized "java/lang/Math" ∈ wsX5_count := by decide +kernel
set_option maxRecDepth 20000 in
theorem lk_X5_count_e92 : Cond.code Lib.Math.max.name Lib.Math.max.code 2 (some .int) ∈ wsX5_count := by decide +kernel
set_option maxRecDepth 100000 in
set_option maxHeartbeats 4000000 in
theorem c_X5_count {Γ : k_Pm} {l : Launch} (hl0 : l.stackTraces = false) {x1 : Int32} {x2 : Int32}  {g : Gt} {g2 : Gt} (h : f_X5_count x1 x2 g = some (g2)) : k_CV Γ l yX5_count wsX5_count rm_X5_count [.ref (k_ad Γ 5 (0)), .int (x1), .int (x2)] g g2 := by
  intro sz
  refine Met.ofW (cc := cX5_count) (maxL := 6) (ret := none) (by decide) rfl ?_
  intro p e s m args below meth c s₁ B hml hv
  obtain ⟨rfl, rfl, hP, hKS⟩ := hv
  have hr := B.returns
  have hlocks := B.notSynchronized
  have hC : k_C Γ (k_A Γ s.heap.size) p l s m _ c cX5_count 6 wsX5_count RX5 := k_C.of ⟨B.exec, B.bytes, hml, findClass_of_methodNamed B.named, atoms_spec (ws := wsX5_count) B.pre⟩ hKS hl0
  have hw : k_St Γ (k_A Γ s.heap.size) s [] g s.heap [] := k_St.of hKS hP
  have hl := lv_entry ([.ref (k_ad Γ 5 (0)), .int (x1), .int (x2)] : List Value) (n := 6) (Nat.le_of_ble_eq_true rfl)
  rw [lg_entry_eq]
  generalize (lg_sl ([.ref (k_ad Γ 5 (0)), .int (x1), .int (x2)] : List Value) ++ List.replicate (6 - (lg_sl ([.ref (k_ad Γ 5 (0)), .int (x1), .int (x2)] : List Value)).length) Slot.unset).toArray = ls at hl ⊢
  have hl : lv_has ls 6 [(0, .ref (k_ad Γ 5 (0))), (1, .int (x1)), (2, .int (x2))] := hl
  change W p l e rm_X5_count _ _ _ _ _ _ _ _ _ _ _ _
  unfold f_X5_count at h
  refine lv_aload_n hC.x hC.b dX5_count_0 rfl (lv_at hl 0 rfl) ?_
  refine x_get hC hw (k := 4) (T := TX5) (by decide) (k_E5 _ _ _) in_X5_count_X5 rfl (by decide) lk_X5_count_f9 rfl rfl dX5_count_1 ?_
  refine lv_iload_n hC.x hC.b dX5_count_4 rfl (lv_at hl 1 rfl) ?_
  obtain ⟨hg1, h⟩ := gd_t h
  refine x_iald hC hw rfl (by decide) hg1 dX5_count_5 ?_
  refine lv_istore_n (lv' := [(3, .int (g 30 0 x1.toNatClampNeg)), (0, .ref (k_ad Γ 5 (0))), (1, .int (x1)), (2, .int (x2))]) hC.x hC.b dX5_count_6 rfl hl (by decide) rfl (fun ls hl => ?_)
  refine lv_iload_n hC.x hC.b dX5_count_7 rfl (lv_at hl 0 rfl) ?_
  refine lv_iconst (v := (-1 : Int32)) hC.x hC.b dX5_count_8 (by decide) ?_
  refine lv_icmp_ne (tgt := 13) hC.x hC.b dX5_count_9 (by decide) (fun hc => ?_) (fun hc => ?_)
  · have h := it_f h hc
    refine lv_aload_n hC.x hC.b dX5_count_13 rfl (lv_at hl 1 rfl) ?_
    refine x_get hC hw (k := 15) (T := TX5) (by decide) (k_E5 _ _ _) in_X5_count_X5 rfl (by decide) lk_X5_count_f43 rfl rfl dX5_count_14 ?_
    refine lv_iload_n hC.x hC.b dX5_count_17 rfl (lv_at hl 0 rfl) ?_
    obtain ⟨hg2, h⟩ := gd_t h
    refine x_iald hC hw rfl (by decide) hg2 dX5_count_18 ?_
    refine lv_if_ne (tgt := 26) hC.x hC.b dX5_count_19 (by decide) (fun hc => ?_) (fun hc => ?_)
    · have h := it_f h hc
      refine lv_iconst (v := (0 : Int32)) hC.x hC.b dX5_count_26 (by decide) ?_
      refine lv_istore (lv' := [(4, .int ((0 : Int32))), (3, .int (g 30 0 x1.toNatClampNeg)), (0, .ref (k_ad Γ 5 (0))), (1, .int (x1)), (2, .int (x2))]) hC.x hC.b dX5_count_27 hl (by decide) rfl (fun ls hl => ?_)
      refine lv_aload_n hC.x hC.b dX5_count_29 rfl (lv_at hl 2 rfl) ?_
      refine x_get hC hw (k := 15) (T := TX5) (by decide) (k_E5 _ _ _) in_X5_count_X5 rfl (by decide) lk_X5_count_f43 rfl rfl dX5_count_30 ?_
      refine lv_iload_n hC.x hC.b dX5_count_33 rfl (lv_at hl 1 rfl) ?_
      refine lv_dup2_11 hC.x hC.b dX5_count_34 rfl rfl ?_
      obtain ⟨hg3, h⟩ := gd_t h
      refine x_iald hC hw rfl (by decide) hg3 dX5_count_35 ?_
      refine lv_iconst (v := (1 : Int32)) hC.x hC.b dX5_count_36 (by decide) ?_
      refine lv_iadd hC.x hC.b dX5_count_37 ?_
      obtain ⟨hg4, h⟩ := gd_t h
      refine x_iast hC hw rfl (by decide) hg4 dX5_count_38 (fun H locs hw => ?_)
      refine lv_aload_n hC.x hC.b dX5_count_39 rfl (lv_at hl 2 rfl) ?_
      refine x_get hC hw (k := 15) (T := TX5) (by decide) (k_E5 _ _ _) in_X5_count_X5 rfl (by decide) lk_X5_count_f43 rfl rfl dX5_count_40 ?_
      refine lv_iload_n hC.x hC.b dX5_count_43 rfl (lv_at hl 1 rfl) ?_
      obtain ⟨hg5, h⟩ := gd_t h
      refine x_iald hC hw rfl (by decide) hg5 dX5_count_44 ?_
      refine lv_aload_n hC.x hC.b dX5_count_45 rfl (lv_at hl 2 rfl) ?_
      refine lv_iload_n hC.x hC.b dX5_count_46 rfl (lv_at hl 1 rfl) ?_
      obtain ⟨r47, g47, hq, h⟩ := bd2_t h
      refine x_goi hC hw (x_runV hC hw (c_X5_hangs (Γ := Γ) (l := l) hC.2.2.2.2 hq) (cwV 1 hC.t gX5_count_X5_hangs rfl rfl rfl (by decide +kernel) ⟨Nat.le_of_ble_eq_true rfl, Nat.le_of_ble_eq_true rfl⟩) (As := [.int (g 30 0 x1.toNatClampNeg)]) (by decide) (k_E5 _ _ _) rfl rfl rfl hl.1 (Nat.le_of_ble_eq_true rfl) dX5_count_47 ⟨by decide, by decide⟩) (fun H locs hw => ?_)
      refine lv_icmp_ne (tgt := 57) hC.x hC.b dX5_count_50 (by decide) (fun hc => ?_) (fun hc => ?_)
      · have h := it_f h hc
        refine lv_iconst (v := (0 : Int32)) hC.x hC.b dX5_count_57 (by decide) ?_
        refine lv_istore (lv' := [(5, .int ((0 : Int32))), (4, .int ((0 : Int32))), (3, .int (g 30 0 x1.toNatClampNeg)), (0, .ref (k_ad Γ 5 (0))), (1, .int (x1)), (2, .int (x2))]) hC.x hC.b dX5_count_58 hl (by decide) rfl (fun ls hl => ?_)
        refine lv_aload_n hC.x hC.b dX5_count_60 rfl (lv_at hl 3 rfl) ?_
        refine x_get hC hw (k := 5) (T := TX5) (by decide) (k_E5 _ _ _) in_X5_count_X5 rfl (by decide) lk_X5_count_f13 rfl rfl dX5_count_61 ?_
        refine lv_iload_n hC.x hC.b dX5_count_64 rfl (lv_at hl 2 rfl) ?_
        obtain ⟨hg6, h⟩ := gd_t h
        refine x_iald hC hw rfl (by decide) hg6 dX5_count_65 ?_
        by_cases hs0 : (g47 31 0 ((g 30 0 x1.toNatClampNeg).toNatClampNeg)) = 0
        · have h := it_t h hs0
          refine lv_tableIn (off := 30) (tgt := 96) hC.x hC.b dX5_count_66 (by rw [hs0]; decide) (by rw [hs0]; decide) (by rw [hs0]; decide) (by decide) ?_
          refine lv_aload_n hC.x hC.b dX5_count_96 rfl (lv_at hl 3 rfl) ?_
          refine x_get hC hw (k := 13) (T := TX5) (by decide) (k_E5 _ _ _) in_X5_count_X5 rfl (by decide) lk_X5_count_f37 rfl rfl dX5_count_97 ?_
          refine lv_iload_n hC.x hC.b dX5_count_100 rfl (lv_at hl 2 rfl) ?_
          refine lv_dup2_11 hC.x hC.b dX5_count_101 rfl rfl ?_
          obtain ⟨hg7, h⟩ := gd_t h
          refine x_iald hC hw rfl (by decide) hg7 dX5_count_102 ?_
          refine lv_iload_n hC.x hC.b dX5_count_103 rfl (lv_at hl 5 rfl) ?_
          refine lv_iadd hC.x hC.b dX5_count_104 ?_
          obtain ⟨hg8, h⟩ := gd_t h
          refine x_iast hC hw rfl (by decide) hg8 dX5_count_105 (fun H locs hw => ?_)
          refine lv_goto (tgt := 204) hC.x hC.b dX5_count_106 (by decide) ?_
          obtain rfl := sm1 h
          exact x_vret hC hw hr hlocks (by decide) (by decide) dX5_count_204
        have h := it_f h hs0
        by_cases hs1 : (g47 31 0 ((g 30 0 x1.toNatClampNeg).toNatClampNeg)) = 1
        · have h := it_t h hs1
          refine lv_tableIn (off := 43) (tgt := 109) hC.x hC.b dX5_count_66 (by rw [hs1]; decide) (by rw [hs1]; decide) (by rw [hs1]; decide) (by decide) ?_
          refine lv_aload_n hC.x hC.b dX5_count_109 rfl (lv_at hl 3 rfl) ?_
          refine x_get hC hw (k := 13) (T := TX5) (by decide) (k_E5 _ _ _) in_X5_count_X5 rfl (by decide) lk_X5_count_f37 rfl rfl dX5_count_110 ?_
          refine lv_iload_n hC.x hC.b dX5_count_113 rfl (lv_at hl 2 rfl) ?_
          refine lv_dup2_11 hC.x hC.b dX5_count_114 rfl rfl ?_
          obtain ⟨hg9, h⟩ := gd_t h
          refine x_iald hC hw rfl (by decide) hg9 dX5_count_115 ?_
          refine lv_iload hC.x hC.b dX5_count_116 (lv_at hl 0 rfl) ?_
          refine lv_if_eq (tgt := 125) hC.x hC.b dX5_count_118 (by decide) (fun _ => ?_) (fun hc => absurd hc (by decide))
          refine lv_iload_n hC.x hC.b dX5_count_125 rfl (lv_at hl 5 rfl) ?_
          refine lv_ineg hC.x hC.b dX5_count_126 ?_
          refine lv_iadd hC.x hC.b dX5_count_127 ?_
          obtain ⟨hg10, h⟩ := gd_t h
          refine x_iast hC hw rfl (by decide) hg10 dX5_count_128 (fun H locs hw => ?_)
          refine lv_goto (tgt := 204) hC.x hC.b dX5_count_129 (by decide) ?_
          obtain rfl := sm1 h
          exact x_vret hC hw hr hlocks (by decide) (by decide) dX5_count_204
        have h := it_f h hs1
        by_cases hs2 : (g47 31 0 ((g 30 0 x1.toNatClampNeg).toNatClampNeg)) = 2
        · have h := it_t h hs2
          refine lv_tableIn (off := 66) (tgt := 132) hC.x hC.b dX5_count_66 (by rw [hs2]; decide) (by rw [hs2]; decide) (by rw [hs2]; decide) (by decide) ?_
          refine lv_aload_n hC.x hC.b dX5_count_132 rfl (lv_at hl 3 rfl) ?_
          refine x_get hC hw (k := 13) (T := TX5) (by decide) (k_E5 _ _ _) in_X5_count_X5 rfl (by decide) lk_X5_count_f37 rfl rfl dX5_count_133 ?_
          refine lv_iload_n hC.x hC.b dX5_count_136 rfl (lv_at hl 2 rfl) ?_
          refine lv_iload hC.x hC.b dX5_count_137 (lv_at hl 1 rfl) ?_
          refine lv_if_eq (tgt := 146) hC.x hC.b dX5_count_139 (by decide) (fun _ => ?_) (fun hc => absurd hc (by decide))
          refine lv_aload_n hC.x hC.b dX5_count_146 rfl (lv_at hl 3 rfl) ?_
          refine x_get hC hw (k := 13) (T := TX5) (by decide) (k_E5 _ _ _) in_X5_count_X5 rfl (by decide) lk_X5_count_f37 rfl rfl dX5_count_147 ?_
          refine lv_iload_n hC.x hC.b dX5_count_150 rfl (lv_at hl 2 rfl) ?_
          obtain ⟨hg11, h⟩ := gd_t h
          refine x_iald hC hw rfl (by decide) hg11 dX5_count_151 ?_
          refine lv_iload_n hC.x hC.b dX5_count_152 rfl (lv_at hl 5 rfl) ?_
          refine va_mmax hC.x hC.b (hC.n.trans hl.1.symm) hC.o (hC.t _ lk_X5_count_m92) (hC.t _ lk_X5_count_s92) (hC.t _ lk_X5_count_imath) (hC.t _ lk_X5_count_e92) (Nat.le_of_ble_eq_true rfl) (Nat.le_of_ble_eq_true rfl) (by decide) (by decide) dX5_count_153 ?_
          obtain ⟨hg12, h⟩ := gd_t h
          refine x_iast hC hw rfl (by decide) hg12 dX5_count_156 (fun H locs hw => ?_)
          refine lv_goto (tgt := 204) hC.x hC.b dX5_count_157 (by decide) ?_
          obtain rfl := sm1 h
          exact x_vret hC hw hr hlocks (by decide) (by decide) dX5_count_204
        have h := it_f h hs2
        by_cases hs3 : (g47 31 0 ((g 30 0 x1.toNatClampNeg).toNatClampNeg)) = 3
        · have h := it_t h hs3
          refine lv_tableIn (off := 94) (tgt := 160) hC.x hC.b dX5_count_66 (by rw [hs3]; decide) (by rw [hs3]; decide) (by rw [hs3]; decide) (by decide) ?_
          refine lv_aload_n hC.x hC.b dX5_count_160 rfl (lv_at hl 3 rfl) ?_
          refine x_get hC hw (k := 13) (T := TX5) (by decide) (k_E5 _ _ _) in_X5_count_X5 rfl (by decide) lk_X5_count_f37 rfl rfl dX5_count_161 ?_
          refine lv_iload_n hC.x hC.b dX5_count_164 rfl (lv_at hl 2 rfl) ?_
          refine lv_dup2_11 hC.x hC.b dX5_count_165 rfl rfl ?_
          obtain ⟨hg13, h⟩ := gd_t h
          refine x_iald hC hw rfl (by decide) hg13 dX5_count_166 ?_
          refine lv_iload_n hC.x hC.b dX5_count_167 rfl (lv_at hl 5 rfl) ?_
          refine lv_if_le (tgt := 175) hC.x hC.b dX5_count_168 (by decide) (fun hc => ?_) (fun hc => ?_)
          · have h := it_t h hc
            refine lv_iconst (v := (0 : Int32)) hC.x hC.b dX5_count_175 (by decide) ?_
            refine lv_iadd hC.x hC.b dX5_count_176 ?_
            obtain ⟨hg14, h⟩ := gd_t h
            refine x_iast hC hw rfl (by decide) hg14 dX5_count_177 (fun H locs hw => ?_)
            refine lv_goto (tgt := 204) hC.x hC.b dX5_count_178 (by decide) ?_
            obtain rfl := sm1 h
            exact x_vret hC hw hr hlocks (by decide) (by decide) dX5_count_204
          · have h := it_f h hc
            refine lv_iconst (v := (1 : Int32)) hC.x hC.b dX5_count_171 (by decide) ?_
            refine lv_goto (tgt := 176) hC.x hC.b dX5_count_172 (by decide) ?_
            refine lv_iadd hC.x hC.b dX5_count_176 ?_
            obtain ⟨hg15, h⟩ := gd_t h
            refine x_iast hC hw rfl (by decide) hg15 dX5_count_177 (fun H locs hw => ?_)
            refine lv_goto (tgt := 204) hC.x hC.b dX5_count_178 (by decide) ?_
            obtain rfl := sm1 h
            exact x_vret hC hw hr hlocks (by decide) (by decide) dX5_count_204
        have h := it_f h hs3
        refine lv_tableOut (tgt := 181) hC.x hC.b dX5_count_66 (k_out3 hs0 hs1 hs2 hs3) (by decide) ?_
        refine lv_aload_n hC.x hC.b dX5_count_181 rfl (lv_at hl 3 rfl) ?_
        refine x_get hC hw (k := 13) (T := TX5) (by decide) (k_E5 _ _ _) in_X5_count_X5 rfl (by decide) lk_X5_count_f37 rfl rfl dX5_count_182 ?_
        refine lv_iload_n hC.x hC.b dX5_count_185 rfl (lv_at hl 2 rfl) ?_
        refine lv_iload hC.x hC.b dX5_count_186 (lv_at hl 1 rfl) ?_
        refine lv_if_eq (tgt := 195) hC.x hC.b dX5_count_188 (by decide) (fun _ => ?_) (fun hc => absurd hc (by decide))
        refine lv_aload_n hC.x hC.b dX5_count_195 rfl (lv_at hl 3 rfl) ?_
        refine x_get hC hw (k := 13) (T := TX5) (by decide) (k_E5 _ _ _) in_X5_count_X5 rfl (by decide) lk_X5_count_f37 rfl rfl dX5_count_196 ?_
        refine lv_iload_n hC.x hC.b dX5_count_199 rfl (lv_at hl 2 rfl) ?_
        obtain ⟨hg16, h⟩ := gd_t h
        refine x_iald hC hw rfl (by decide) hg16 dX5_count_200 ?_
        refine lv_iload_n hC.x hC.b dX5_count_201 rfl (lv_at hl 5 rfl) ?_
        refine lv_imul hC.x hC.b dX5_count_202 ?_
        obtain ⟨hg17, h⟩ := gd_t h
        refine x_iast hC hw rfl (by decide) hg17 dX5_count_203 (fun H locs hw => ?_)
        obtain rfl := sm1 h
        exact x_vret hC hw hr hlocks (by decide) (by decide) dX5_count_204
      · have h := it_t h hc
        refine lv_iconst (v := (1 : Int32)) hC.x hC.b dX5_count_53 (by decide) ?_
        refine lv_goto (tgt := 58) hC.x hC.b dX5_count_54 (by decide) ?_
        refine lv_istore (lv' := [(5, .int ((1 : Int32))), (4, .int ((0 : Int32))), (3, .int (g 30 0 x1.toNatClampNeg)), (0, .ref (k_ad Γ 5 (0))), (1, .int (x1)), (2, .int (x2))]) hC.x hC.b dX5_count_58 hl (by decide) rfl (fun ls hl => ?_)
        refine lv_aload_n hC.x hC.b dX5_count_60 rfl (lv_at hl 3 rfl) ?_
        refine x_get hC hw (k := 5) (T := TX5) (by decide) (k_E5 _ _ _) in_X5_count_X5 rfl (by decide) lk_X5_count_f13 rfl rfl dX5_count_61 ?_
        refine lv_iload_n hC.x hC.b dX5_count_64 rfl (lv_at hl 2 rfl) ?_
        obtain ⟨hg18, h⟩ := gd_t h
        refine x_iald hC hw rfl (by decide) hg18 dX5_count_65 ?_
        by_cases hs0 : (g47 31 0 ((g 30 0 x1.toNatClampNeg).toNatClampNeg)) = 0
        · have h := it_t h hs0
          refine lv_tableIn (off := 30) (tgt := 96) hC.x hC.b dX5_count_66 (by rw [hs0]; decide) (by rw [hs0]; decide) (by rw [hs0]; decide) (by decide) ?_
          refine lv_aload_n hC.x hC.b dX5_count_96 rfl (lv_at hl 3 rfl) ?_
          refine x_get hC hw (k := 13) (T := TX5) (by decide) (k_E5 _ _ _) in_X5_count_X5 rfl (by decide) lk_X5_count_f37 rfl rfl dX5_count_97 ?_
          refine lv_iload_n hC.x hC.b dX5_count_100 rfl (lv_at hl 2 rfl) ?_
          refine lv_dup2_11 hC.x hC.b dX5_count_101 rfl rfl ?_
          obtain ⟨hg19, h⟩ := gd_t h
          refine x_iald hC hw rfl (by decide) hg19 dX5_count_102 ?_
          refine lv_iload_n hC.x hC.b dX5_count_103 rfl (lv_at hl 5 rfl) ?_
          refine lv_iadd hC.x hC.b dX5_count_104 ?_
          obtain ⟨hg20, h⟩ := gd_t h
          refine x_iast hC hw rfl (by decide) hg20 dX5_count_105 (fun H locs hw => ?_)
          refine lv_goto (tgt := 204) hC.x hC.b dX5_count_106 (by decide) ?_
          obtain rfl := sm1 h
          exact x_vret hC hw hr hlocks (by decide) (by decide) dX5_count_204
        have h := it_f h hs0
        by_cases hs1 : (g47 31 0 ((g 30 0 x1.toNatClampNeg).toNatClampNeg)) = 1
        · have h := it_t h hs1
          refine lv_tableIn (off := 43) (tgt := 109) hC.x hC.b dX5_count_66 (by rw [hs1]; decide) (by rw [hs1]; decide) (by rw [hs1]; decide) (by decide) ?_
          refine lv_aload_n hC.x hC.b dX5_count_109 rfl (lv_at hl 3 rfl) ?_
          refine x_get hC hw (k := 13) (T := TX5) (by decide) (k_E5 _ _ _) in_X5_count_X5 rfl (by decide) lk_X5_count_f37 rfl rfl dX5_count_110 ?_
          refine lv_iload_n hC.x hC.b dX5_count_113 rfl (lv_at hl 2 rfl) ?_
          refine lv_dup2_11 hC.x hC.b dX5_count_114 rfl rfl ?_
          obtain ⟨hg21, h⟩ := gd_t h
          refine x_iald hC hw rfl (by decide) hg21 dX5_count_115 ?_
          refine lv_iload hC.x hC.b dX5_count_116 (lv_at hl 0 rfl) ?_
          refine lv_if_eq (tgt := 125) hC.x hC.b dX5_count_118 (by decide) (fun hc => absurd hc (by decide)) (fun _ => ?_)
          refine lv_iload_n hC.x hC.b dX5_count_121 rfl (lv_at hl 5 rfl) ?_
          refine lv_goto (tgt := 127) hC.x hC.b dX5_count_122 (by decide) ?_
          refine lv_iadd hC.x hC.b dX5_count_127 ?_
          obtain ⟨hg22, h⟩ := gd_t h
          refine x_iast hC hw rfl (by decide) hg22 dX5_count_128 (fun H locs hw => ?_)
          refine lv_goto (tgt := 204) hC.x hC.b dX5_count_129 (by decide) ?_
          obtain rfl := sm1 h
          exact x_vret hC hw hr hlocks (by decide) (by decide) dX5_count_204
        have h := it_f h hs1
        by_cases hs2 : (g47 31 0 ((g 30 0 x1.toNatClampNeg).toNatClampNeg)) = 2
        · have h := it_t h hs2
          refine lv_tableIn (off := 66) (tgt := 132) hC.x hC.b dX5_count_66 (by rw [hs2]; decide) (by rw [hs2]; decide) (by rw [hs2]; decide) (by decide) ?_
          refine lv_aload_n hC.x hC.b dX5_count_132 rfl (lv_at hl 3 rfl) ?_
          refine x_get hC hw (k := 13) (T := TX5) (by decide) (k_E5 _ _ _) in_X5_count_X5 rfl (by decide) lk_X5_count_f37 rfl rfl dX5_count_133 ?_
          refine lv_iload_n hC.x hC.b dX5_count_136 rfl (lv_at hl 2 rfl) ?_
          refine lv_iload hC.x hC.b dX5_count_137 (lv_at hl 1 rfl) ?_
          refine lv_if_eq (tgt := 146) hC.x hC.b dX5_count_139 (by decide) (fun _ => ?_) (fun hc => absurd hc (by decide))
          refine lv_aload_n hC.x hC.b dX5_count_146 rfl (lv_at hl 3 rfl) ?_
          refine x_get hC hw (k := 13) (T := TX5) (by decide) (k_E5 _ _ _) in_X5_count_X5 rfl (by decide) lk_X5_count_f37 rfl rfl dX5_count_147 ?_
          refine lv_iload_n hC.x hC.b dX5_count_150 rfl (lv_at hl 2 rfl) ?_
          obtain ⟨hg23, h⟩ := gd_t h
          refine x_iald hC hw rfl (by decide) hg23 dX5_count_151 ?_
          refine lv_iload_n hC.x hC.b dX5_count_152 rfl (lv_at hl 5 rfl) ?_
          refine va_mmax hC.x hC.b (hC.n.trans hl.1.symm) hC.o (hC.t _ lk_X5_count_m92) (hC.t _ lk_X5_count_s92) (hC.t _ lk_X5_count_imath) (hC.t _ lk_X5_count_e92) (Nat.le_of_ble_eq_true rfl) (Nat.le_of_ble_eq_true rfl) (by decide) (by decide) dX5_count_153 ?_
          obtain ⟨hg24, h⟩ := gd_t h
          refine x_iast hC hw rfl (by decide) hg24 dX5_count_156 (fun H locs hw => ?_)
          refine lv_goto (tgt := 204) hC.x hC.b dX5_count_157 (by decide) ?_
          obtain rfl := sm1 h
          exact x_vret hC hw hr hlocks (by decide) (by decide) dX5_count_204
        have h := it_f h hs2
        by_cases hs3 : (g47 31 0 ((g 30 0 x1.toNatClampNeg).toNatClampNeg)) = 3
        · have h := it_t h hs3
          refine lv_tableIn (off := 94) (tgt := 160) hC.x hC.b dX5_count_66 (by rw [hs3]; decide) (by rw [hs3]; decide) (by rw [hs3]; decide) (by decide) ?_
          refine lv_aload_n hC.x hC.b dX5_count_160 rfl (lv_at hl 3 rfl) ?_
          refine x_get hC hw (k := 13) (T := TX5) (by decide) (k_E5 _ _ _) in_X5_count_X5 rfl (by decide) lk_X5_count_f37 rfl rfl dX5_count_161 ?_
          refine lv_iload_n hC.x hC.b dX5_count_164 rfl (lv_at hl 2 rfl) ?_
          refine lv_dup2_11 hC.x hC.b dX5_count_165 rfl rfl ?_
          obtain ⟨hg25, h⟩ := gd_t h
          refine x_iald hC hw rfl (by decide) hg25 dX5_count_166 ?_
          refine lv_iload_n hC.x hC.b dX5_count_167 rfl (lv_at hl 5 rfl) ?_
          refine lv_if_le (tgt := 175) hC.x hC.b dX5_count_168 (by decide) (fun hc => ?_) (fun hc => ?_)
          · have h := it_t h hc
            refine lv_iconst (v := (0 : Int32)) hC.x hC.b dX5_count_175 (by decide) ?_
            refine lv_iadd hC.x hC.b dX5_count_176 ?_
            obtain ⟨hg26, h⟩ := gd_t h
            refine x_iast hC hw rfl (by decide) hg26 dX5_count_177 (fun H locs hw => ?_)
            refine lv_goto (tgt := 204) hC.x hC.b dX5_count_178 (by decide) ?_
            obtain rfl := sm1 h
            exact x_vret hC hw hr hlocks (by decide) (by decide) dX5_count_204
          · have h := it_f h hc
            refine lv_iconst (v := (1 : Int32)) hC.x hC.b dX5_count_171 (by decide) ?_
            refine lv_goto (tgt := 176) hC.x hC.b dX5_count_172 (by decide) ?_
            refine lv_iadd hC.x hC.b dX5_count_176 ?_
            obtain ⟨hg27, h⟩ := gd_t h
            refine x_iast hC hw rfl (by decide) hg27 dX5_count_177 (fun H locs hw => ?_)
            refine lv_goto (tgt := 204) hC.x hC.b dX5_count_178 (by decide) ?_
            obtain rfl := sm1 h
            exact x_vret hC hw hr hlocks (by decide) (by decide) dX5_count_204
        have h := it_f h hs3
        refine lv_tableOut (tgt := 181) hC.x hC.b dX5_count_66 (k_out3 hs0 hs1 hs2 hs3) (by decide) ?_
        refine lv_aload_n hC.x hC.b dX5_count_181 rfl (lv_at hl 3 rfl) ?_
        refine x_get hC hw (k := 13) (T := TX5) (by decide) (k_E5 _ _ _) in_X5_count_X5 rfl (by decide) lk_X5_count_f37 rfl rfl dX5_count_182 ?_
        refine lv_iload_n hC.x hC.b dX5_count_185 rfl (lv_at hl 2 rfl) ?_
        refine lv_iload hC.x hC.b dX5_count_186 (lv_at hl 1 rfl) ?_
        refine lv_if_eq (tgt := 195) hC.x hC.b dX5_count_188 (by decide) (fun _ => ?_) (fun hc => absurd hc (by decide))
        refine lv_aload_n hC.x hC.b dX5_count_195 rfl (lv_at hl 3 rfl) ?_
        refine x_get hC hw (k := 13) (T := TX5) (by decide) (k_E5 _ _ _) in_X5_count_X5 rfl (by decide) lk_X5_count_f37 rfl rfl dX5_count_196 ?_
        refine lv_iload_n hC.x hC.b dX5_count_199 rfl (lv_at hl 2 rfl) ?_
        obtain ⟨hg28, h⟩ := gd_t h
        refine x_iald hC hw rfl (by decide) hg28 dX5_count_200 ?_
        refine lv_iload_n hC.x hC.b dX5_count_201 rfl (lv_at hl 5 rfl) ?_
        refine lv_imul hC.x hC.b dX5_count_202 ?_
        obtain ⟨hg29, h⟩ := gd_t h
        refine x_iast hC hw rfl (by decide) hg29 dX5_count_203 (fun H locs hw => ?_)
        obtain rfl := sm1 h
        exact x_vret hC hw hr hlocks (by decide) (by decide) dX5_count_204
    · have h := it_t h hc
      refine lv_iconst (v := (1 : Int32)) hC.x hC.b dX5_count_22 (by decide) ?_
      refine lv_goto (tgt := 27) hC.x hC.b dX5_count_23 (by decide) ?_
      refine lv_istore (lv' := [(4, .int ((1 : Int32))), (3, .int (g 30 0 x1.toNatClampNeg)), (0, .ref (k_ad Γ 5 (0))), (1, .int (x1)), (2, .int (x2))]) hC.x hC.b dX5_count_27 hl (by decide) rfl (fun ls hl => ?_)
      refine lv_aload_n hC.x hC.b dX5_count_29 rfl (lv_at hl 2 rfl) ?_
      refine x_get hC hw (k := 15) (T := TX5) (by decide) (k_E5 _ _ _) in_X5_count_X5 rfl (by decide) lk_X5_count_f43 rfl rfl dX5_count_30 ?_
      refine lv_iload_n hC.x hC.b dX5_count_33 rfl (lv_at hl 1 rfl) ?_
      refine lv_dup2_11 hC.x hC.b dX5_count_34 rfl rfl ?_
      obtain ⟨hg30, h⟩ := gd_t h
      refine x_iald hC hw rfl (by decide) hg30 dX5_count_35 ?_
      refine lv_iconst (v := (1 : Int32)) hC.x hC.b dX5_count_36 (by decide) ?_
      refine lv_iadd hC.x hC.b dX5_count_37 ?_
      obtain ⟨hg31, h⟩ := gd_t h
      refine x_iast hC hw rfl (by decide) hg31 dX5_count_38 (fun H locs hw => ?_)
      refine lv_aload_n hC.x hC.b dX5_count_39 rfl (lv_at hl 2 rfl) ?_
      refine x_get hC hw (k := 15) (T := TX5) (by decide) (k_E5 _ _ _) in_X5_count_X5 rfl (by decide) lk_X5_count_f43 rfl rfl dX5_count_40 ?_
      refine lv_iload_n hC.x hC.b dX5_count_43 rfl (lv_at hl 1 rfl) ?_
      obtain ⟨hg32, h⟩ := gd_t h
      refine x_iald hC hw rfl (by decide) hg32 dX5_count_44 ?_
      refine lv_aload_n hC.x hC.b dX5_count_45 rfl (lv_at hl 2 rfl) ?_
      refine lv_iload_n hC.x hC.b dX5_count_46 rfl (lv_at hl 1 rfl) ?_
      obtain ⟨r47, g47, hq, h⟩ := bd2_t h
      refine x_goi hC hw (x_runV hC hw (c_X5_hangs (Γ := Γ) (l := l) hC.2.2.2.2 hq) (cwV 1 hC.t gX5_count_X5_hangs rfl rfl rfl (by decide +kernel) ⟨Nat.le_of_ble_eq_true rfl, Nat.le_of_ble_eq_true rfl⟩) (As := [.int (g 30 0 x1.toNatClampNeg)]) (by decide) (k_E5 _ _ _) rfl rfl rfl hl.1 (Nat.le_of_ble_eq_true rfl) dX5_count_47 ⟨by decide, by decide⟩) (fun H locs hw => ?_)
      refine lv_icmp_ne (tgt := 57) hC.x hC.b dX5_count_50 (by decide) (fun hc => ?_) (fun hc => ?_)
      · have h := it_f h hc
        refine lv_iconst (v := (0 : Int32)) hC.x hC.b dX5_count_57 (by decide) ?_
        refine lv_istore (lv' := [(5, .int ((0 : Int32))), (4, .int ((1 : Int32))), (3, .int (g 30 0 x1.toNatClampNeg)), (0, .ref (k_ad Γ 5 (0))), (1, .int (x1)), (2, .int (x2))]) hC.x hC.b dX5_count_58 hl (by decide) rfl (fun ls hl => ?_)
        refine lv_aload_n hC.x hC.b dX5_count_60 rfl (lv_at hl 3 rfl) ?_
        refine x_get hC hw (k := 5) (T := TX5) (by decide) (k_E5 _ _ _) in_X5_count_X5 rfl (by decide) lk_X5_count_f13 rfl rfl dX5_count_61 ?_
        refine lv_iload_n hC.x hC.b dX5_count_64 rfl (lv_at hl 2 rfl) ?_
        obtain ⟨hg33, h⟩ := gd_t h
        refine x_iald hC hw rfl (by decide) hg33 dX5_count_65 ?_
        by_cases hs0 : (g47 31 0 ((g 30 0 x1.toNatClampNeg).toNatClampNeg)) = 0
        · have h := it_t h hs0
          refine lv_tableIn (off := 30) (tgt := 96) hC.x hC.b dX5_count_66 (by rw [hs0]; decide) (by rw [hs0]; decide) (by rw [hs0]; decide) (by decide) ?_
          refine lv_aload_n hC.x hC.b dX5_count_96 rfl (lv_at hl 3 rfl) ?_
          refine x_get hC hw (k := 13) (T := TX5) (by decide) (k_E5 _ _ _) in_X5_count_X5 rfl (by decide) lk_X5_count_f37 rfl rfl dX5_count_97 ?_
          refine lv_iload_n hC.x hC.b dX5_count_100 rfl (lv_at hl 2 rfl) ?_
          refine lv_dup2_11 hC.x hC.b dX5_count_101 rfl rfl ?_
          obtain ⟨hg34, h⟩ := gd_t h
          refine x_iald hC hw rfl (by decide) hg34 dX5_count_102 ?_
          refine lv_iload_n hC.x hC.b dX5_count_103 rfl (lv_at hl 5 rfl) ?_
          refine lv_iadd hC.x hC.b dX5_count_104 ?_
          obtain ⟨hg35, h⟩ := gd_t h
          refine x_iast hC hw rfl (by decide) hg35 dX5_count_105 (fun H locs hw => ?_)
          refine lv_goto (tgt := 204) hC.x hC.b dX5_count_106 (by decide) ?_
          obtain rfl := sm1 h
          exact x_vret hC hw hr hlocks (by decide) (by decide) dX5_count_204
        have h := it_f h hs0
        by_cases hs1 : (g47 31 0 ((g 30 0 x1.toNatClampNeg).toNatClampNeg)) = 1
        · have h := it_t h hs1
          refine lv_tableIn (off := 43) (tgt := 109) hC.x hC.b dX5_count_66 (by rw [hs1]; decide) (by rw [hs1]; decide) (by rw [hs1]; decide) (by decide) ?_
          refine lv_aload_n hC.x hC.b dX5_count_109 rfl (lv_at hl 3 rfl) ?_
          refine x_get hC hw (k := 13) (T := TX5) (by decide) (k_E5 _ _ _) in_X5_count_X5 rfl (by decide) lk_X5_count_f37 rfl rfl dX5_count_110 ?_
          refine lv_iload_n hC.x hC.b dX5_count_113 rfl (lv_at hl 2 rfl) ?_
          refine lv_dup2_11 hC.x hC.b dX5_count_114 rfl rfl ?_
          obtain ⟨hg36, h⟩ := gd_t h
          refine x_iald hC hw rfl (by decide) hg36 dX5_count_115 ?_
          refine lv_iload hC.x hC.b dX5_count_116 (lv_at hl 0 rfl) ?_
          refine lv_if_eq (tgt := 125) hC.x hC.b dX5_count_118 (by decide) (fun _ => ?_) (fun hc => absurd hc (by decide))
          refine lv_iload_n hC.x hC.b dX5_count_125 rfl (lv_at hl 5 rfl) ?_
          refine lv_ineg hC.x hC.b dX5_count_126 ?_
          refine lv_iadd hC.x hC.b dX5_count_127 ?_
          obtain ⟨hg37, h⟩ := gd_t h
          refine x_iast hC hw rfl (by decide) hg37 dX5_count_128 (fun H locs hw => ?_)
          refine lv_goto (tgt := 204) hC.x hC.b dX5_count_129 (by decide) ?_
          obtain rfl := sm1 h
          exact x_vret hC hw hr hlocks (by decide) (by decide) dX5_count_204
        have h := it_f h hs1
        by_cases hs2 : (g47 31 0 ((g 30 0 x1.toNatClampNeg).toNatClampNeg)) = 2
        · have h := it_t h hs2
          refine lv_tableIn (off := 66) (tgt := 132) hC.x hC.b dX5_count_66 (by rw [hs2]; decide) (by rw [hs2]; decide) (by rw [hs2]; decide) (by decide) ?_
          refine lv_aload_n hC.x hC.b dX5_count_132 rfl (lv_at hl 3 rfl) ?_
          refine x_get hC hw (k := 13) (T := TX5) (by decide) (k_E5 _ _ _) in_X5_count_X5 rfl (by decide) lk_X5_count_f37 rfl rfl dX5_count_133 ?_
          refine lv_iload_n hC.x hC.b dX5_count_136 rfl (lv_at hl 2 rfl) ?_
          refine lv_iload hC.x hC.b dX5_count_137 (lv_at hl 1 rfl) ?_
          refine lv_if_eq (tgt := 146) hC.x hC.b dX5_count_139 (by decide) (fun hc => absurd hc (by decide)) (fun _ => ?_)
          refine lv_iload_n hC.x hC.b dX5_count_142 rfl (lv_at hl 5 rfl) ?_
          refine lv_goto (tgt := 156) hC.x hC.b dX5_count_143 (by decide) ?_
          obtain ⟨hg38, h⟩ := gd_t h
          refine x_iast hC hw rfl (by decide) hg38 dX5_count_156 (fun H locs hw => ?_)
          refine lv_goto (tgt := 204) hC.x hC.b dX5_count_157 (by decide) ?_
          obtain rfl := sm1 h
          exact x_vret hC hw hr hlocks (by decide) (by decide) dX5_count_204
        have h := it_f h hs2
        by_cases hs3 : (g47 31 0 ((g 30 0 x1.toNatClampNeg).toNatClampNeg)) = 3
        · have h := it_t h hs3
          refine lv_tableIn (off := 94) (tgt := 160) hC.x hC.b dX5_count_66 (by rw [hs3]; decide) (by rw [hs3]; decide) (by rw [hs3]; decide) (by decide) ?_
          refine lv_aload_n hC.x hC.b dX5_count_160 rfl (lv_at hl 3 rfl) ?_
          refine x_get hC hw (k := 13) (T := TX5) (by decide) (k_E5 _ _ _) in_X5_count_X5 rfl (by decide) lk_X5_count_f37 rfl rfl dX5_count_161 ?_
          refine lv_iload_n hC.x hC.b dX5_count_164 rfl (lv_at hl 2 rfl) ?_
          refine lv_dup2_11 hC.x hC.b dX5_count_165 rfl rfl ?_
          obtain ⟨hg39, h⟩ := gd_t h
          refine x_iald hC hw rfl (by decide) hg39 dX5_count_166 ?_
          refine lv_iload_n hC.x hC.b dX5_count_167 rfl (lv_at hl 5 rfl) ?_
          refine lv_if_le (tgt := 175) hC.x hC.b dX5_count_168 (by decide) (fun hc => ?_) (fun hc => ?_)
          · have h := it_t h hc
            refine lv_iconst (v := (0 : Int32)) hC.x hC.b dX5_count_175 (by decide) ?_
            refine lv_iadd hC.x hC.b dX5_count_176 ?_
            obtain ⟨hg40, h⟩ := gd_t h
            refine x_iast hC hw rfl (by decide) hg40 dX5_count_177 (fun H locs hw => ?_)
            refine lv_goto (tgt := 204) hC.x hC.b dX5_count_178 (by decide) ?_
            obtain rfl := sm1 h
            exact x_vret hC hw hr hlocks (by decide) (by decide) dX5_count_204
          · have h := it_f h hc
            refine lv_iconst (v := (1 : Int32)) hC.x hC.b dX5_count_171 (by decide) ?_
            refine lv_goto (tgt := 176) hC.x hC.b dX5_count_172 (by decide) ?_
            refine lv_iadd hC.x hC.b dX5_count_176 ?_
            obtain ⟨hg41, h⟩ := gd_t h
            refine x_iast hC hw rfl (by decide) hg41 dX5_count_177 (fun H locs hw => ?_)
            refine lv_goto (tgt := 204) hC.x hC.b dX5_count_178 (by decide) ?_
            obtain rfl := sm1 h
            exact x_vret hC hw hr hlocks (by decide) (by decide) dX5_count_204
        have h := it_f h hs3
        refine lv_tableOut (tgt := 181) hC.x hC.b dX5_count_66 (k_out3 hs0 hs1 hs2 hs3) (by decide) ?_
        refine lv_aload_n hC.x hC.b dX5_count_181 rfl (lv_at hl 3 rfl) ?_
        refine x_get hC hw (k := 13) (T := TX5) (by decide) (k_E5 _ _ _) in_X5_count_X5 rfl (by decide) lk_X5_count_f37 rfl rfl dX5_count_182 ?_
        refine lv_iload_n hC.x hC.b dX5_count_185 rfl (lv_at hl 2 rfl) ?_
        refine lv_iload hC.x hC.b dX5_count_186 (lv_at hl 1 rfl) ?_
        refine lv_if_eq (tgt := 195) hC.x hC.b dX5_count_188 (by decide) (fun hc => absurd hc (by decide)) (fun _ => ?_)
        refine lv_iload_n hC.x hC.b dX5_count_191 rfl (lv_at hl 5 rfl) ?_
        refine lv_goto (tgt := 203) hC.x hC.b dX5_count_192 (by decide) ?_
        obtain ⟨hg42, h⟩ := gd_t h
        refine x_iast hC hw rfl (by decide) hg42 dX5_count_203 (fun H locs hw => ?_)
        obtain rfl := sm1 h
        exact x_vret hC hw hr hlocks (by decide) (by decide) dX5_count_204
      · have h := it_t h hc
        refine lv_iconst (v := (1 : Int32)) hC.x hC.b dX5_count_53 (by decide) ?_
        refine lv_goto (tgt := 58) hC.x hC.b dX5_count_54 (by decide) ?_
        refine lv_istore (lv' := [(5, .int ((1 : Int32))), (4, .int ((1 : Int32))), (3, .int (g 30 0 x1.toNatClampNeg)), (0, .ref (k_ad Γ 5 (0))), (1, .int (x1)), (2, .int (x2))]) hC.x hC.b dX5_count_58 hl (by decide) rfl (fun ls hl => ?_)
        refine lv_aload_n hC.x hC.b dX5_count_60 rfl (lv_at hl 3 rfl) ?_
        refine x_get hC hw (k := 5) (T := TX5) (by decide) (k_E5 _ _ _) in_X5_count_X5 rfl (by decide) lk_X5_count_f13 rfl rfl dX5_count_61 ?_
        refine lv_iload_n hC.x hC.b dX5_count_64 rfl (lv_at hl 2 rfl) ?_
        obtain ⟨hg43, h⟩ := gd_t h
        refine x_iald hC hw rfl (by decide) hg43 dX5_count_65 ?_
        by_cases hs0 : (g47 31 0 ((g 30 0 x1.toNatClampNeg).toNatClampNeg)) = 0
        · have h := it_t h hs0
          refine lv_tableIn (off := 30) (tgt := 96) hC.x hC.b dX5_count_66 (by rw [hs0]; decide) (by rw [hs0]; decide) (by rw [hs0]; decide) (by decide) ?_
          refine lv_aload_n hC.x hC.b dX5_count_96 rfl (lv_at hl 3 rfl) ?_
          refine x_get hC hw (k := 13) (T := TX5) (by decide) (k_E5 _ _ _) in_X5_count_X5 rfl (by decide) lk_X5_count_f37 rfl rfl dX5_count_97 ?_
          refine lv_iload_n hC.x hC.b dX5_count_100 rfl (lv_at hl 2 rfl) ?_
          refine lv_dup2_11 hC.x hC.b dX5_count_101 rfl rfl ?_
          obtain ⟨hg44, h⟩ := gd_t h
          refine x_iald hC hw rfl (by decide) hg44 dX5_count_102 ?_
          refine lv_iload_n hC.x hC.b dX5_count_103 rfl (lv_at hl 5 rfl) ?_
          refine lv_iadd hC.x hC.b dX5_count_104 ?_
          obtain ⟨hg45, h⟩ := gd_t h
          refine x_iast hC hw rfl (by decide) hg45 dX5_count_105 (fun H locs hw => ?_)
          refine lv_goto (tgt := 204) hC.x hC.b dX5_count_106 (by decide) ?_
          obtain rfl := sm1 h
          exact x_vret hC hw hr hlocks (by decide) (by decide) dX5_count_204
        have h := it_f h hs0
        by_cases hs1 : (g47 31 0 ((g 30 0 x1.toNatClampNeg).toNatClampNeg)) = 1
        · have h := it_t h hs1
          refine lv_tableIn (off := 43) (tgt := 109) hC.x hC.b dX5_count_66 (by rw [hs1]; decide) (by rw [hs1]; decide) (by rw [hs1]; decide) (by decide) ?_
          refine lv_aload_n hC.x hC.b dX5_count_109 rfl (lv_at hl 3 rfl) ?_
          refine x_get hC hw (k := 13) (T := TX5) (by decide) (k_E5 _ _ _) in_X5_count_X5 rfl (by decide) lk_X5_count_f37 rfl rfl dX5_count_110 ?_
          refine lv_iload_n hC.x hC.b dX5_count_113 rfl (lv_at hl 2 rfl) ?_
          refine lv_dup2_11 hC.x hC.b dX5_count_114 rfl rfl ?_
          obtain ⟨hg46, h⟩ := gd_t h
          refine x_iald hC hw rfl (by decide) hg46 dX5_count_115 ?_
          refine lv_iload hC.x hC.b dX5_count_116 (lv_at hl 0 rfl) ?_
          refine lv_if_eq (tgt := 125) hC.x hC.b dX5_count_118 (by decide) (fun hc => absurd hc (by decide)) (fun _ => ?_)
          refine lv_iload_n hC.x hC.b dX5_count_121 rfl (lv_at hl 5 rfl) ?_
          refine lv_goto (tgt := 127) hC.x hC.b dX5_count_122 (by decide) ?_
          refine lv_iadd hC.x hC.b dX5_count_127 ?_
          obtain ⟨hg47, h⟩ := gd_t h
          refine x_iast hC hw rfl (by decide) hg47 dX5_count_128 (fun H locs hw => ?_)
          refine lv_goto (tgt := 204) hC.x hC.b dX5_count_129 (by decide) ?_
          obtain rfl := sm1 h
          exact x_vret hC hw hr hlocks (by decide) (by decide) dX5_count_204
        have h := it_f h hs1
        by_cases hs2 : (g47 31 0 ((g 30 0 x1.toNatClampNeg).toNatClampNeg)) = 2
        · have h := it_t h hs2
          refine lv_tableIn (off := 66) (tgt := 132) hC.x hC.b dX5_count_66 (by rw [hs2]; decide) (by rw [hs2]; decide) (by rw [hs2]; decide) (by decide) ?_
          refine lv_aload_n hC.x hC.b dX5_count_132 rfl (lv_at hl 3 rfl) ?_
          refine x_get hC hw (k := 13) (T := TX5) (by decide) (k_E5 _ _ _) in_X5_count_X5 rfl (by decide) lk_X5_count_f37 rfl rfl dX5_count_133 ?_
          refine lv_iload_n hC.x hC.b dX5_count_136 rfl (lv_at hl 2 rfl) ?_
          refine lv_iload hC.x hC.b dX5_count_137 (lv_at hl 1 rfl) ?_
          refine lv_if_eq (tgt := 146) hC.x hC.b dX5_count_139 (by decide) (fun hc => absurd hc (by decide)) (fun _ => ?_)
          refine lv_iload_n hC.x hC.b dX5_count_142 rfl (lv_at hl 5 rfl) ?_
          refine lv_goto (tgt := 156) hC.x hC.b dX5_count_143 (by decide) ?_
          obtain ⟨hg48, h⟩ := gd_t h
          refine x_iast hC hw rfl (by decide) hg48 dX5_count_156 (fun H locs hw => ?_)
          refine lv_goto (tgt := 204) hC.x hC.b dX5_count_157 (by decide) ?_
          obtain rfl := sm1 h
          exact x_vret hC hw hr hlocks (by decide) (by decide) dX5_count_204
        have h := it_f h hs2
        by_cases hs3 : (g47 31 0 ((g 30 0 x1.toNatClampNeg).toNatClampNeg)) = 3
        · have h := it_t h hs3
          refine lv_tableIn (off := 94) (tgt := 160) hC.x hC.b dX5_count_66 (by rw [hs3]; decide) (by rw [hs3]; decide) (by rw [hs3]; decide) (by decide) ?_
          refine lv_aload_n hC.x hC.b dX5_count_160 rfl (lv_at hl 3 rfl) ?_
          refine x_get hC hw (k := 13) (T := TX5) (by decide) (k_E5 _ _ _) in_X5_count_X5 rfl (by decide) lk_X5_count_f37 rfl rfl dX5_count_161 ?_
          refine lv_iload_n hC.x hC.b dX5_count_164 rfl (lv_at hl 2 rfl) ?_
          refine lv_dup2_11 hC.x hC.b dX5_count_165 rfl rfl ?_
          obtain ⟨hg49, h⟩ := gd_t h
          refine x_iald hC hw rfl (by decide) hg49 dX5_count_166 ?_
          refine lv_iload_n hC.x hC.b dX5_count_167 rfl (lv_at hl 5 rfl) ?_
          refine lv_if_le (tgt := 175) hC.x hC.b dX5_count_168 (by decide) (fun hc => ?_) (fun hc => ?_)
          · have h := it_t h hc
            refine lv_iconst (v := (0 : Int32)) hC.x hC.b dX5_count_175 (by decide) ?_
            refine lv_iadd hC.x hC.b dX5_count_176 ?_
            obtain ⟨hg50, h⟩ := gd_t h
            refine x_iast hC hw rfl (by decide) hg50 dX5_count_177 (fun H locs hw => ?_)
            refine lv_goto (tgt := 204) hC.x hC.b dX5_count_178 (by decide) ?_
            obtain rfl := sm1 h
            exact x_vret hC hw hr hlocks (by decide) (by decide) dX5_count_204
          · have h := it_f h hc
            refine lv_iconst (v := (1 : Int32)) hC.x hC.b dX5_count_171 (by decide) ?_
            refine lv_goto (tgt := 176) hC.x hC.b dX5_count_172 (by decide) ?_
            refine lv_iadd hC.x hC.b dX5_count_176 ?_
            obtain ⟨hg51, h⟩ := gd_t h
            refine x_iast hC hw rfl (by decide) hg51 dX5_count_177 (fun H locs hw => ?_)
            refine lv_goto (tgt := 204) hC.x hC.b dX5_count_178 (by decide) ?_
            obtain rfl := sm1 h
            exact x_vret hC hw hr hlocks (by decide) (by decide) dX5_count_204
        have h := it_f h hs3
        refine lv_tableOut (tgt := 181) hC.x hC.b dX5_count_66 (k_out3 hs0 hs1 hs2 hs3) (by decide) ?_
        refine lv_aload_n hC.x hC.b dX5_count_181 rfl (lv_at hl 3 rfl) ?_
        refine x_get hC hw (k := 13) (T := TX5) (by decide) (k_E5 _ _ _) in_X5_count_X5 rfl (by decide) lk_X5_count_f37 rfl rfl dX5_count_182 ?_
        refine lv_iload_n hC.x hC.b dX5_count_185 rfl (lv_at hl 2 rfl) ?_
        refine lv_iload hC.x hC.b dX5_count_186 (lv_at hl 1 rfl) ?_
        refine lv_if_eq (tgt := 195) hC.x hC.b dX5_count_188 (by decide) (fun hc => absurd hc (by decide)) (fun _ => ?_)
        refine lv_iload_n hC.x hC.b dX5_count_191 rfl (lv_at hl 5 rfl) ?_
        refine lv_goto (tgt := 203) hC.x hC.b dX5_count_192 (by decide) ?_
        obtain ⟨hg52, h⟩ := gd_t h
        refine x_iast hC hw rfl (by decide) hg52 dX5_count_203 (fun H locs hw => ?_)
        obtain rfl := sm1 h
        exact x_vret hC hw hr hlocks (by decide) (by decide) dX5_count_204
  · have h := it_t h hc
    obtain rfl := sm1 h
    exact x_vret hC hw hr hlocks (by decide) (by decide) dX5_count_12
abbrev rm_X5_reckon : Room := { frames := 2, cells := 0, slots := 0, locals := 48 }
theorem in_X5_reckon_X5 : ∀ w ∈ wsX50, w ∈ wsX5_reckon := fun _ h => List.mem_cons_of_mem _ (List.mem_append_right _ (h))
set_option maxRecDepth 20000 in
theorem lk_X5_reckon_f50 : Cond.fieldLink RX5 50 "KnotArchiveModel" "cords" "I" ∈ wsX5_reckon := by decide +kernel
set_option maxRecDepth 20000 in
theorem lk_X5_reckon_f37 : Cond.fieldLink RX5 37 "KnotArchiveModel" "counted" "[I" ∈ wsX5_reckon := by decide +kernel
set_option maxRecDepth 20000 in
theorem lk_X5_reckon_f43 : Cond.fieldLink RX5 43 "KnotArchiveModel" "hanging" "[I" ∈ wsX5_reckon := by decide +kernel
set_option maxRecDepth 20000 in
theorem lk_X5_reckon_f40 : Cond.fieldLink RX5 40 "KnotArchiveModel" "says" "[I" ∈ wsX5_reckon := by decide +kernel
set_option maxRecDepth 100000 in
set_option maxHeartbeats 4000000 in
theorem w_X5_reckon_2 {Γ : k_Pm} {A0 : Nat → Prop} {p : Program} {l : Launch} {e : Env} {s : State} {m : MethodId} {args : Array Value} {below : List Frame} {meth : Method} {c : Code} {cells slots : Nat} {Q : State → Prop} {tmp : va_W} (hC : k_C Γ A0 p l s m args c cX5_reckon 2 wsX5_reckon RX5) (hcs : cells ≤ rm_X5_reckon.cells ∧ slots ≤ rm_X5_reckon.slots) : ∀ (n : Nat) (v1 : Int32) (g : Gt) (w1 : Int32) (g2 : Gt), f_X5_reckon_2 n v1 g = some (w1, g2) → ∀ (H : Heap) (locs : List Loc) (ls : Array Slot), k_St Γ A0 s tmp g H locs → lv_has ls 2 [(1, .int (v1)), (0, .ref (k_ad Γ 5 (0)))] → (∀ (H1 : Heap) (locs1 : List Loc) (ls1 : Array Slot), k_St Γ A0 s tmp g2 H1 locs1 → lv_has ls1 2 [(1, .int (w1)), (0, .ref (k_ad Γ 5 (0)))] → W p l e rm_X5_reckon s m args below meth c H1 locs1 cells slots Q (F0 m 30 ls1 [])) → W p l e rm_X5_reckon s m args below meth c H locs cells slots Q (F0 m 2 ls []) := by
  intro n
  induction n with
  | zero => intro v1 g w1 g2 h; rw [f_X5_reckon_2] at h; cases h
  | succ n ih =>
    intro v1 g w1 g2 h H locs ls hw hl kk
    rw [f_X5_reckon_2] at h
    refine lv_iload_n hC.x hC.b dX5_reckon_2 rfl (lv_at hl 0 rfl) ?_
    refine lv_aload_n hC.x hC.b dX5_reckon_3 rfl (lv_at hl 1 rfl) ?_
    refine x_get hC hw (k := 1) (T := TX5) (by decide) (k_E5 _ _ _) in_X5_reckon_X5 rfl (by decide) lk_X5_reckon_f50 rfl rfl dX5_reckon_4 ?_
    refine lv_icmp_ge (tgt := 30) hC.x hC.b dX5_reckon_7 (by decide) (fun hc => ?_) (fun hc => ?_)
    · have h := it_t h hc
      obtain ⟨rfl, rfl⟩ := sm2 h
      exact kk _ _ _ hw (lv_sub hl [0, 1] rfl)
    · have h := it_f h hc
      refine lv_aload_n hC.x hC.b dX5_reckon_10 rfl (lv_at hl 1 rfl) ?_
      refine x_get hC hw (k := 13) (T := TX5) (by decide) (k_E5 _ _ _) in_X5_reckon_X5 rfl (by decide) lk_X5_reckon_f37 rfl rfl dX5_reckon_11 ?_
      refine lv_iload_n hC.x hC.b dX5_reckon_14 rfl (lv_at hl 0 rfl) ?_
      refine lv_iconst (v := (0 : Int32)) hC.x hC.b dX5_reckon_15 (by decide) ?_
      obtain ⟨hg1, h⟩ := gd_t h
      refine x_iast hC hw rfl (by decide) hg1 dX5_reckon_16 (fun H locs hw => ?_)
      refine lv_aload_n hC.x hC.b dX5_reckon_17 rfl (lv_at hl 1 rfl) ?_
      refine x_get hC hw (k := 15) (T := TX5) (by decide) (k_E5 _ _ _) in_X5_reckon_X5 rfl (by decide) lk_X5_reckon_f43 rfl rfl dX5_reckon_18 ?_
      refine lv_iload_n hC.x hC.b dX5_reckon_21 rfl (lv_at hl 0 rfl) ?_
      refine lv_iconst (v := (0 : Int32)) hC.x hC.b dX5_reckon_22 (by decide) ?_
      obtain ⟨hg2, h⟩ := gd_t h
      refine x_iast hC hw rfl (by decide) hg2 dX5_reckon_23 (fun H locs hw => ?_)
      refine lv_iinc (v := v1 + (1 : Int32)) (lv' := [(1, .int (v1 + (1 : Int32))), (0, .ref (k_ad Γ 5 (0)))]) hC.x hC.b dX5_reckon_24 hl (k := 0) rfl rfl (by decide) rfl (fun ls hl => ?_)
      refine lv_goto (tgt := 2) hC.x hC.b dX5_reckon_27 (by decide) ?_
      exact ih _ _ _ _ h _ _ _ hw (lv_sub hl [0, 1] rfl) kk

set_option maxRecDepth 100000 in
set_option maxHeartbeats 4000000 in
theorem w_X5_reckon_37 {Γ : k_Pm} {A0 : Nat → Prop} {p : Program} {l : Launch} {e : Env} {s : State} {m : MethodId} {args : Array Value} {below : List Frame} {meth : Method} {c : Code} {cells slots : Nat} {Q : State → Prop} {tmp : va_W} (hC : k_C Γ A0 p l s m args c cX5_reckon 2 wsX5_reckon RX5) (hcs : cells ≤ rm_X5_reckon.cells ∧ slots ≤ rm_X5_reckon.slots) : ∀ (n : Nat) (v1 : Int32) (g : Gt) (w1 : Int32) (g2 : Gt), f_X5_reckon_37 n v1 g = some (w1, g2) → ∀ (H : Heap) (locs : List Loc) (ls : Array Slot), k_St Γ A0 s tmp g H locs → lv_has ls 2 [(1, .int (v1)), (0, .ref (k_ad Γ 5 (0)))] → (∀ (H1 : Heap) (locs1 : List Loc) (ls1 : Array Slot), k_St Γ A0 s tmp g2 H1 locs1 → lv_has ls1 2 [(1, .int (w1)), (0, .ref (k_ad Γ 5 (0)))] → W p l e rm_X5_reckon s m args below meth c H1 locs1 cells slots Q (F0 m 76 ls1 [])) → W p l e rm_X5_reckon s m args below meth c H locs cells slots Q (F0 m 37 ls []) := by
  intro n
  induction n with
  | zero => intro v1 g w1 g2 h; rw [f_X5_reckon_37] at h; cases h
  | succ n ih =>
    intro v1 g w1 g2 h H locs ls hw hl kk
    rw [f_X5_reckon_37] at h
    refine lv_iload_n hC.x hC.b dX5_reckon_37 rfl (lv_at hl 0 rfl) ?_
    refine lv_if_lt (tgt := 76) hC.x hC.b dX5_reckon_38 (by decide) (fun hc => ?_) (fun hc => ?_)
    · have h := it_t h hc
      obtain ⟨rfl, rfl⟩ := sm2 h
      exact kk _ _ _ hw (lv_sub hl [0, 1] rfl)
    · have h := it_f h hc
      refine lv_aload_n hC.x hC.b dX5_reckon_41 rfl (lv_at hl 1 rfl) ?_
      refine x_get hC hw (k := 14) (T := TX5) (by decide) (k_E5 _ _ _) in_X5_reckon_X5 rfl (by decide) lk_X5_reckon_f40 rfl rfl dX5_reckon_42 ?_
      refine lv_iload_n hC.x hC.b dX5_reckon_45 rfl (lv_at hl 0 rfl) ?_
      refine lv_aload_n hC.x hC.b dX5_reckon_46 rfl (lv_at hl 1 rfl) ?_
      refine lv_iload_n hC.x hC.b dX5_reckon_47 rfl (lv_at hl 0 rfl) ?_
      obtain ⟨r48, g48, hq, h⟩ := bd2_t h
      refine x_goi hC hw (x_runV hC hw (c_X5_digits (Γ := Γ) (l := l) hC.2.2.2.2 hq) (cwV 1 hC.t gX5_reckon_X5_digits rfl rfl rfl (by decide +kernel) ⟨Nat.le_of_ble_eq_true rfl, Nat.le_of_ble_eq_true rfl⟩) (As := [.int (v1)]) (by decide) (k_E5 _ _ _) rfl rfl rfl hl.1 (Nat.le_of_ble_eq_true rfl) dX5_reckon_48 hcs) (fun H locs hw => ?_)
      refine lv_aload_n hC.x hC.b dX5_reckon_51 rfl (lv_at hl 1 rfl) ?_
      refine x_get hC hw (k := 13) (T := TX5) (by decide) (k_E5 _ _ _) in_X5_reckon_X5 rfl (by decide) lk_X5_reckon_f37 rfl rfl dX5_reckon_52 ?_
      refine lv_iload_n hC.x hC.b dX5_reckon_55 rfl (lv_at hl 0 rfl) ?_
      obtain ⟨hg3, h⟩ := gd_t h
      refine x_iald hC hw rfl (by decide) hg3 dX5_reckon_56 ?_
      refine lv_iadd hC.x hC.b dX5_reckon_57 ?_
      obtain ⟨hg4, h⟩ := gd_t h
      refine x_iast hC hw rfl (by decide) hg4 dX5_reckon_58 (fun H locs hw => ?_)
      refine lv_aload_n hC.x hC.b dX5_reckon_59 rfl (lv_at hl 1 rfl) ?_
      refine lv_iload_n hC.x hC.b dX5_reckon_60 rfl (lv_at hl 0 rfl) ?_
      refine lv_aload_n hC.x hC.b dX5_reckon_61 rfl (lv_at hl 1 rfl) ?_
      refine x_get hC hw (k := 14) (T := TX5) (by decide) (k_E5 _ _ _) in_X5_reckon_X5 rfl (by decide) lk_X5_reckon_f40 rfl rfl dX5_reckon_62 ?_
      refine lv_iload_n hC.x hC.b dX5_reckon_65 rfl (lv_at hl 0 rfl) ?_
      obtain ⟨hg5, h⟩ := gd_t h
      refine x_iald hC hw rfl (by decide) hg5 dX5_reckon_66 ?_
      obtain ⟨g67, hq, h⟩ := bd1_t h
      refine x_gov hC hw (x_runV hC hw (c_X5_count (Γ := Γ) (l := l) hC.2.2.2.2 hq) (cwV 2 hC.t gX5_reckon_X5_count rfl rfl rfl (by decide +kernel) ⟨Nat.le_of_ble_eq_true rfl, Nat.le_of_ble_eq_true rfl⟩) (As := [.int (v1), .int ((k_up g48 40 0 v1.toNatClampNeg (r48 + (g48 39 0 v1.toNatClampNeg))) 40 0 v1.toNatClampNeg)]) (by decide) (k_E5 _ _ _) rfl rfl rfl hl.1 (Nat.le_of_ble_eq_true rfl) dX5_reckon_67 hcs) (fun H locs hw => ?_)
      refine lv_iinc (v := v1 + (-1 : Int32)) (lv' := [(1, .int (v1 + (-1 : Int32))), (0, .ref (k_ad Γ 5 (0)))]) hC.x hC.b dX5_reckon_70 hl (k := 0) rfl rfl (by decide) rfl (fun ls hl => ?_)
      refine lv_goto (tgt := 37) hC.x hC.b dX5_reckon_73 (by decide) ?_
      exact ih _ _ _ _ h _ _ _ hw (lv_sub hl [0, 1] rfl) kk

set_option maxRecDepth 100000 in
set_option maxHeartbeats 4000000 in
theorem c_X5_reckon {Γ : k_Pm} {l : Launch} (hl0 : l.stackTraces = false)   {g : Gt} {g2 : Gt} (h : f_X5_reckon  g = some (g2)) : k_CV Γ l yX5_reckon wsX5_reckon rm_X5_reckon [.ref (k_ad Γ 5 (0))] g g2 := by
  intro sz
  refine Met.ofW (cc := cX5_reckon) (maxL := 2) (ret := none) (by decide) rfl ?_
  intro p e s m args below meth c s₁ B hml hv
  obtain ⟨rfl, rfl, hP, hKS⟩ := hv
  have hr := B.returns
  have hlocks := B.notSynchronized
  have hC : k_C Γ (k_A Γ s.heap.size) p l s m _ c cX5_reckon 2 wsX5_reckon RX5 := k_C.of ⟨B.exec, B.bytes, hml, findClass_of_methodNamed B.named, atoms_spec (ws := wsX5_reckon) B.pre⟩ hKS hl0
  have hw : k_St Γ (k_A Γ s.heap.size) s [] g s.heap [] := k_St.of hKS hP
  have hl := lv_entry ([.ref (k_ad Γ 5 (0))] : List Value) (n := 2) (Nat.le_of_ble_eq_true rfl)
  rw [lg_entry_eq]
  generalize (lg_sl ([.ref (k_ad Γ 5 (0))] : List Value) ++ List.replicate (2 - (lg_sl ([.ref (k_ad Γ 5 (0))] : List Value)).length) Slot.unset).toArray = ls at hl ⊢
  have hl : lv_has ls 2 [(0, .ref (k_ad Γ 5 (0)))] := hl
  change W p l e rm_X5_reckon _ _ _ _ _ _ _ _ _ _ _ _
  unfold f_X5_reckon at h
  refine lv_iconst (v := (0 : Int32)) hC.x hC.b dX5_reckon_0 (by decide) ?_
  refine lv_istore_n (lv' := [(1, .int ((0 : Int32))), (0, .ref (k_ad Γ 5 (0)))]) hC.x hC.b dX5_reckon_1 rfl hl (by decide) rfl (fun ls hl => ?_)
  obtain ⟨w2_1, g2, hq, h⟩ := bd2_t h
  refine w_X5_reckon_2 hC ⟨by decide, by decide⟩  k_N _ _ _ _ hq _ _ _ hw (lv_sub hl [0, 1] rfl) (fun H locs ls hw hl => ?_)
  refine lv_aload_n hC.x hC.b dX5_reckon_30 rfl (lv_at hl 1 rfl) ?_
  refine x_get hC hw (k := 1) (T := TX5) (by decide) (k_E5 _ _ _) in_X5_reckon_X5 rfl (by decide) lk_X5_reckon_f50 rfl rfl dX5_reckon_31 ?_
  refine lv_iconst (v := (1 : Int32)) hC.x hC.b dX5_reckon_34 (by decide) ?_
  refine lv_isub hC.x hC.b dX5_reckon_35 ?_
  refine lv_istore_n (lv' := [(1, .int ((g2 5 0 1) - (1 : Int32))), (0, .ref (k_ad Γ 5 (0)))]) hC.x hC.b dX5_reckon_36 rfl hl (by decide) rfl (fun ls hl => ?_)
  obtain ⟨w37_1, g37, hq, h⟩ := bd2_t h
  refine w_X5_reckon_37 hC ⟨by decide, by decide⟩  k_N _ _ _ _ hq _ _ _ hw (lv_sub hl [0, 1] rfl) (fun H locs ls hw hl => ?_)
  obtain rfl := sm1 h
  exact x_vret hC hw hr hlocks (by decide) (by decide) dX5_reckon_76
abbrev rm_X5_cordTold : Room := { frames := 3, cells := 0, slots := 0, locals := 69 }
theorem in_X5_cordTold_X5 : ∀ w ∈ wsX50, w ∈ wsX5_cordTold := fun _ h => List.mem_cons_of_mem _ (List.mem_append_right _ (h))
set_option maxRecDepth 20000 in
theorem lk_X5_cordTold_f9 : Cond.fieldLink RX5 9 "KnotArchiveModel" "from" "[I" ∈ wsX5_cordTold := by decide +kernel
set_option maxRecDepth 20000 in
theorem lk_X5_cordTold_f13 : Cond.fieldLink RX5 13 "KnotArchiveModel" "strands" "[I" ∈ wsX5_cordTold := by decide +kernel
set_option maxRecDepth 20000 in
theorem lk_X5_cordTold_f40 : Cond.fieldLink RX5 40 "KnotArchiveModel" "says" "[I" ∈ wsX5_cordTold := by decide +kernel
set_option maxRecDepth 20000 in
theorem lk_X5_cordTold_f37 : Cond.fieldLink RX5 37 "KnotArchiveModel" "counted" "[I" ∈ wsX5_cordTold := by decide +kernel
set_option maxRecDepth 100000 in
set_option maxHeartbeats 4000000 in
theorem c_X5_cordTold {Γ : k_Pm} {l : Launch} (hl0 : l.stackTraces = false) {x1 : Int32} {x2 : Int32}  {g : Gt} {r : Int32} {g2 : Gt} (h : f_X5_cordTold x1 x2 g = some (r, g2)) : k_CI Γ l yX5_cordTold wsX5_cordTold rm_X5_cordTold [.ref (k_ad Γ 5 (0)), .int (x1), .int (x2)] g r g2 := by
  intro sz
  refine Met.ofW (cc := cX5_cordTold) (maxL := 3) (ret := (some .int)) (by decide) rfl ?_
  intro p e s m args below meth c s₁ B hml hv
  obtain ⟨rfl, rfl, hP, hKS⟩ := hv
  have hr := B.returns
  have hlocks := B.notSynchronized
  have hC : k_C Γ (k_A Γ s.heap.size) p l s m _ c cX5_cordTold 3 wsX5_cordTold RX5 := k_C.of ⟨B.exec, B.bytes, hml, findClass_of_methodNamed B.named, atoms_spec (ws := wsX5_cordTold) B.pre⟩ hKS hl0
  have hw : k_St Γ (k_A Γ s.heap.size) s [] g s.heap [] := k_St.of hKS hP
  have hl := lv_entry ([.ref (k_ad Γ 5 (0)), .int (x1), .int (x2)] : List Value) (n := 3) (Nat.le_of_ble_eq_true rfl)
  rw [lg_entry_eq]
  generalize (lg_sl ([.ref (k_ad Γ 5 (0)), .int (x1), .int (x2)] : List Value) ++ List.replicate (3 - (lg_sl ([.ref (k_ad Γ 5 (0)), .int (x1), .int (x2)] : List Value)).length) Slot.unset).toArray = ls at hl ⊢
  have hl : lv_has ls 3 [(0, .ref (k_ad Γ 5 (0))), (1, .int (x1)), (2, .int (x2))] := hl
  change W p l e rm_X5_cordTold _ _ _ _ _ _ _ _ _ _ _ _
  unfold f_X5_cordTold at h
  refine lv_aload_n hC.x hC.b dX5_cordTold_0 rfl (lv_at hl 0 rfl) ?_
  obtain ⟨g1, hq, h⟩ := bd1_t h
  refine x_gov hC hw (x_runV hC hw (c_X5_reckon (Γ := Γ) (l := l) hC.2.2.2.2 hq) (cwV 0 hC.t gX5_cordTold_X5_reckon rfl rfl rfl (by decide +kernel) ⟨Nat.le_of_ble_eq_true rfl, Nat.le_of_ble_eq_true rfl⟩) (As := []) (by decide) (k_E5 _ _ _) rfl rfl rfl hl.1 (Nat.le_of_ble_eq_true rfl) dX5_cordTold_1 ⟨by decide, by decide⟩) (fun H locs hw => ?_)
  refine lv_iload_n hC.x hC.b dX5_cordTold_4 rfl (lv_at hl 2 rfl) ?_
  by_cases hs0 : x2 = 0
  · have h := it_t h hs0
    refine lv_tableIn (off := 43) (tgt := 48) hC.x hC.b dX5_cordTold_5 (by rw [hs0]; decide) (by rw [hs0]; decide) (by rw [hs0]; decide) (by decide) ?_
    refine lv_aload_n hC.x hC.b dX5_cordTold_48 rfl (lv_at hl 0 rfl) ?_
    refine x_get hC hw (k := 4) (T := TX5) (by decide) (k_E5 _ _ _) in_X5_cordTold_X5 rfl (by decide) lk_X5_cordTold_f9 rfl rfl dX5_cordTold_49 ?_
    refine lv_iload_n hC.x hC.b dX5_cordTold_52 rfl (lv_at hl 1 rfl) ?_
    obtain ⟨hg1, h⟩ := gd_t h
    refine x_iald hC hw rfl (by decide) hg1 dX5_cordTold_53 ?_
    obtain ⟨rfl, rfl⟩ := sm2 h
    exact x_iret hC hw hr hlocks (by decide) (by decide) dX5_cordTold_54
  have h := it_f h hs0
  by_cases hs1 : x2 = 1
  · have h := it_t h hs1
    refine lv_tableIn (off := 50) (tgt := 55) hC.x hC.b dX5_cordTold_5 (by rw [hs1]; decide) (by rw [hs1]; decide) (by rw [hs1]; decide) (by decide) ?_
    refine lv_aload_n hC.x hC.b dX5_cordTold_55 rfl (lv_at hl 0 rfl) ?_
    refine x_get hC hw (k := 5) (T := TX5) (by decide) (k_E5 _ _ _) in_X5_cordTold_X5 rfl (by decide) lk_X5_cordTold_f13 rfl rfl dX5_cordTold_56 ?_
    refine lv_iload_n hC.x hC.b dX5_cordTold_59 rfl (lv_at hl 1 rfl) ?_
    obtain ⟨hg2, h⟩ := gd_t h
    refine x_iald hC hw rfl (by decide) hg2 dX5_cordTold_60 ?_
    obtain ⟨rfl, rfl⟩ := sm2 h
    exact x_iret hC hw hr hlocks (by decide) (by decide) dX5_cordTold_61
  have h := it_f h hs1
  by_cases hs2 : x2 = 2
  · have h := it_t h hs2
    refine lv_tableIn (off := 57) (tgt := 62) hC.x hC.b dX5_cordTold_5 (by rw [hs2]; decide) (by rw [hs2]; decide) (by rw [hs2]; decide) (by decide) ?_
    refine lv_aload_n hC.x hC.b dX5_cordTold_62 rfl (lv_at hl 0 rfl) ?_
    refine lv_iload_n hC.x hC.b dX5_cordTold_63 rfl (lv_at hl 1 rfl) ?_
    obtain ⟨r64, g64, hq, h⟩ := bd2_t h
    refine x_goi hC hw (x_runV hC hw (c_X5_digits (Γ := Γ) (l := l) hC.2.2.2.2 hq) (cwV 1 hC.t gX5_cordTold_X5_digits rfl rfl rfl (by decide +kernel) ⟨Nat.le_of_ble_eq_true rfl, Nat.le_of_ble_eq_true rfl⟩) (As := [.int (x1)]) (by decide) (k_E5 _ _ _) rfl rfl rfl hl.1 (Nat.le_of_ble_eq_true rfl) dX5_cordTold_64 ⟨by decide, by decide⟩) (fun H locs hw => ?_)
    obtain ⟨rfl, rfl⟩ := sm2 h
    exact x_iret hC hw hr hlocks (by decide) (by decide) dX5_cordTold_67
  have h := it_f h hs2
  by_cases hs3 : x2 = 3
  · have h := it_t h hs3
    refine lv_tableIn (off := 63) (tgt := 68) hC.x hC.b dX5_cordTold_5 (by rw [hs3]; decide) (by rw [hs3]; decide) (by rw [hs3]; decide) (by decide) ?_
    refine lv_aload_n hC.x hC.b dX5_cordTold_68 rfl (lv_at hl 0 rfl) ?_
    refine x_get hC hw (k := 14) (T := TX5) (by decide) (k_E5 _ _ _) in_X5_cordTold_X5 rfl (by decide) lk_X5_cordTold_f40 rfl rfl dX5_cordTold_69 ?_
    refine lv_iload_n hC.x hC.b dX5_cordTold_72 rfl (lv_at hl 1 rfl) ?_
    obtain ⟨hg3, h⟩ := gd_t h
    refine x_iald hC hw rfl (by decide) hg3 dX5_cordTold_73 ?_
    obtain ⟨rfl, rfl⟩ := sm2 h
    exact x_iret hC hw hr hlocks (by decide) (by decide) dX5_cordTold_74
  have h := it_f h hs3
  by_cases hs4 : x2 = 4
  · have h := it_t h hs4
    refine lv_tableIn (off := 70) (tgt := 75) hC.x hC.b dX5_cordTold_5 (by rw [hs4]; decide) (by rw [hs4]; decide) (by rw [hs4]; decide) (by decide) ?_
    refine lv_aload_n hC.x hC.b dX5_cordTold_75 rfl (lv_at hl 0 rfl) ?_
    refine x_get hC hw (k := 13) (T := TX5) (by decide) (k_E5 _ _ _) in_X5_cordTold_X5 rfl (by decide) lk_X5_cordTold_f37 rfl rfl dX5_cordTold_76 ?_
    refine lv_iload_n hC.x hC.b dX5_cordTold_79 rfl (lv_at hl 1 rfl) ?_
    obtain ⟨hg4, h⟩ := gd_t h
    refine x_iald hC hw rfl (by decide) hg4 dX5_cordTold_80 ?_
    obtain ⟨rfl, rfl⟩ := sm2 h
    exact x_iret hC hw hr hlocks (by decide) (by decide) dX5_cordTold_81
  have h := it_f h hs4
  by_cases hs5 : x2 = 5
  · have h := it_t h hs5
    refine lv_tableIn (off := 77) (tgt := 82) hC.x hC.b dX5_cordTold_5 (by rw [hs5]; decide) (by rw [hs5]; decide) (by rw [hs5]; decide) (by decide) ?_
    refine lv_aload_n hC.x hC.b dX5_cordTold_82 rfl (lv_at hl 0 rfl) ?_
    refine lv_iload_n hC.x hC.b dX5_cordTold_83 rfl (lv_at hl 1 rfl) ?_
    obtain ⟨r84, g84, hq, h⟩ := bd2_t h
    refine x_goi hC hw (x_runV hC hw (c_X5_hangs (Γ := Γ) (l := l) hC.2.2.2.2 hq) (cwV 1 hC.t gX5_cordTold_X5_hangs rfl rfl rfl (by decide +kernel) ⟨Nat.le_of_ble_eq_true rfl, Nat.le_of_ble_eq_true rfl⟩) (As := [.int (x1)]) (by decide) (k_E5 _ _ _) rfl rfl rfl hl.1 (Nat.le_of_ble_eq_true rfl) dX5_cordTold_84 ⟨by decide, by decide⟩) (fun H locs hw => ?_)
    obtain ⟨rfl, rfl⟩ := sm2 h
    exact x_iret hC hw hr hlocks (by decide) (by decide) dX5_cordTold_87
  have h := it_f h hs5
  by_cases hs6 : x2 = 6
  · have h := it_t h hs6
    refine lv_tableIn (off := 83) (tgt := 88) hC.x hC.b dX5_cordTold_5 (by rw [hs6]; decide) (by rw [hs6]; decide) (by rw [hs6]; decide) (by decide) ?_
    refine lv_aload_n hC.x hC.b dX5_cordTold_88 rfl (lv_at hl 0 rfl) ?_
    refine lv_iload_n hC.x hC.b dX5_cordTold_89 rfl (lv_at hl 1 rfl) ?_
    obtain ⟨r90, g90, hq, h⟩ := bd2_t h
    refine x_goi hC hw (x_runV hC hw (c_X5_hangs (Γ := Γ) (l := l) hC.2.2.2.2 hq) (cwV 1 hC.t gX5_cordTold_X5_hangs rfl rfl rfl (by decide +kernel) ⟨Nat.le_of_ble_eq_true rfl, Nat.le_of_ble_eq_true rfl⟩) (As := [.int (x1)]) (by decide) (k_E5 _ _ _) rfl rfl rfl hl.1 (Nat.le_of_ble_eq_true rfl) dX5_cordTold_90 ⟨by decide, by decide⟩) (fun H locs hw => ?_)
    refine lv_if_eq (tgt := 110) hC.x hC.b dX5_cordTold_93 (by decide) (fun hc => ?_) (fun hc => ?_)
    · have h := it_t h hc
      refine lv_iconst (v := (1 : Int32)) hC.x hC.b dX5_cordTold_110 (by decide) ?_
      refine lv_goto (tgt := 115) hC.x hC.b dX5_cordTold_111 (by decide) ?_
      obtain ⟨rfl, rfl⟩ := sm2 h
      exact x_iret hC hw hr hlocks (by decide) (by decide) dX5_cordTold_115
    · have h := it_f h hc
      refine lv_aload_n hC.x hC.b dX5_cordTold_96 rfl (lv_at hl 0 rfl) ?_
      refine lv_iload_n hC.x hC.b dX5_cordTold_97 rfl (lv_at hl 1 rfl) ?_
      obtain ⟨r98, g98, hq, h⟩ := bd2_t h
      refine x_goi hC hw (x_runV hC hw (c_X5_digits (Γ := Γ) (l := l) hC.2.2.2.2 hq) (cwV 1 hC.t gX5_cordTold_X5_digits rfl rfl rfl (by decide +kernel) ⟨Nat.le_of_ble_eq_true rfl, Nat.le_of_ble_eq_true rfl⟩) (As := [.int (x1)]) (by decide) (k_E5 _ _ _) rfl rfl rfl hl.1 (Nat.le_of_ble_eq_true rfl) dX5_cordTold_98 ⟨by decide, by decide⟩) (fun H locs hw => ?_)
      refine lv_aload_n hC.x hC.b dX5_cordTold_101 rfl (lv_at hl 0 rfl) ?_
      refine x_get hC hw (k := 13) (T := TX5) (by decide) (k_E5 _ _ _) in_X5_cordTold_X5 rfl (by decide) lk_X5_cordTold_f37 rfl rfl dX5_cordTold_102 ?_
      refine lv_iload_n hC.x hC.b dX5_cordTold_105 rfl (lv_at hl 1 rfl) ?_
      obtain ⟨hg5, h⟩ := gd_t h
      refine x_iald hC hw rfl (by decide) hg5 dX5_cordTold_106 ?_
      refine lv_icmp_ne (tgt := 114) hC.x hC.b dX5_cordTold_107 (by decide) (fun hc => ?_) (fun hc => ?_)
      · have h := it_f h hc
        refine lv_iconst (v := (0 : Int32)) hC.x hC.b dX5_cordTold_114 (by decide) ?_
        obtain ⟨rfl, rfl⟩ := sm2 h
        exact x_iret hC hw hr hlocks (by decide) (by decide) dX5_cordTold_115
      · have h := it_t h hc
        refine lv_iconst (v := (1 : Int32)) hC.x hC.b dX5_cordTold_110 (by decide) ?_
        refine lv_goto (tgt := 115) hC.x hC.b dX5_cordTold_111 (by decide) ?_
        obtain ⟨rfl, rfl⟩ := sm2 h
        exact x_iret hC hw hr hlocks (by decide) (by decide) dX5_cordTold_115
  have h := it_f h hs6
  refine lv_tableOut (tgt := 116) hC.x hC.b dX5_cordTold_5 (k_out6 hs0 hs1 hs2 hs3 hs4 hs5 hs6) (by decide) ?_
  refine lv_aload_n hC.x hC.b dX5_cordTold_116 rfl (lv_at hl 0 rfl) ?_
  refine lv_iload_n hC.x hC.b dX5_cordTold_117 rfl (lv_at hl 1 rfl) ?_
  obtain ⟨r118, g118, hq, h⟩ := bd2_t h
  refine x_goi hC hw (x_runV hC hw (c_X5_allFrays (Γ := Γ) (l := l) hC.2.2.2.2 hq) (cwV 1 hC.t gX5_cordTold_X5_allFrays rfl rfl rfl (by decide +kernel) ⟨Nat.le_of_ble_eq_true rfl, Nat.le_of_ble_eq_true rfl⟩) (As := [.int (x1)]) (by decide) (k_E5 _ _ _) rfl rfl rfl hl.1 (Nat.le_of_ble_eq_true rfl) dX5_cordTold_118 ⟨by decide, by decide⟩) (fun H locs hw => ?_)
  obtain ⟨rfl, rfl⟩ := sm2 h
  exact x_iret hC hw hr hlocks (by decide) (by decide) dX5_cordTold_121
abbrev rm_X5_cord : Room := { frames := 4, cells := 0, slots := 0, locals := 91 }
theorem in_X5_cord_X5 : ∀ w ∈ wsX50, w ∈ wsX5_cord := fun _ h => List.mem_cons_of_mem _ (List.mem_append_right _ (h))
set_option maxRecDepth 20000 in
theorem lk_X5_cord_f46 : Cond.fieldLink RX5 46 "KnotArchiveModel" "thrown" "I" ∈ wsX5_cord := by decide +kernel
set_option maxRecDepth 100000 in
set_option maxHeartbeats 4000000 in
theorem c_X5_cord {Γ : k_Pm} {l : Launch} (hl0 : l.stackTraces = false) {x1 : Int32} {x2 : Int32}  {g : Gt} {r : Int32} {g2 : Gt} (h : f_X5_cord x1 x2 g = some (r, g2)) : k_CI Γ l yX5_cord wsX5_cord rm_X5_cord [.ref (k_ad Γ 5 (0)), .int (x1), .int (x2)] g r g2 := by
  intro sz
  refine Met.ofW (cc := cX5_cord) (maxL := 3) (ret := (some .int)) (by decide) rfl ?_
  intro p e s m args below meth c s₁ B hml hv
  obtain ⟨rfl, rfl, hP, hKS⟩ := hv
  have hr := B.returns
  have hlocks := B.notSynchronized
  have hC : k_C Γ (k_A Γ s.heap.size) p l s m _ c cX5_cord 3 wsX5_cord RX5 := k_C.of ⟨B.exec, B.bytes, hml, findClass_of_methodNamed B.named, atoms_spec (ws := wsX5_cord) B.pre⟩ hKS hl0
  have hw : k_St Γ (k_A Γ s.heap.size) s [] g s.heap [] := k_St.of hKS hP
  have hl := lv_entry ([.ref (k_ad Γ 5 (0)), .int (x1), .int (x2)] : List Value) (n := 3) (Nat.le_of_ble_eq_true rfl)
  rw [lg_entry_eq]
  generalize (lg_sl ([.ref (k_ad Γ 5 (0)), .int (x1), .int (x2)] : List Value) ++ List.replicate (3 - (lg_sl ([.ref (k_ad Γ 5 (0)), .int (x1), .int (x2)] : List Value)).length) Slot.unset).toArray = ls at hl ⊢
  have hl : lv_has ls 3 [(0, .ref (k_ad Γ 5 (0))), (1, .int (x1)), (2, .int (x2))] := hl
  change W p l e rm_X5_cord _ _ _ _ _ _ _ _ _ _ _ _
  unfold f_X5_cord at h
  refine lv_aload_n hC.x hC.b dX5_cord_0 rfl (lv_at hl 0 rfl) ?_
  refine lv_iconst (v := (0 : Int32)) hC.x hC.b dX5_cord_1 (by decide) ?_
  refine x_puti hC hw (k := 0) (T := TX5) (by decide) (k_E5 _ _ _) in_X5_cord_X5 rfl (by decide) lk_X5_cord_f46 rfl tyX5 tyX5_ok nmX5 rfl (by decide +kernel) (Nat.le_of_ble_eq_true rfl) (by rw [k_E5]; rfl) dX5_cord_2 (fun H locs hw => ?_)
  refine lv_aload_n hC.x hC.b dX5_cord_5 rfl (lv_at hl 0 rfl) ?_
  refine lv_iload_n hC.x hC.b dX5_cord_6 rfl (lv_at hl 1 rfl) ?_
  obtain ⟨r7, g7, hq, h⟩ := bd2_t h
  refine x_goi hC hw (x_runV hC hw (c_X5_isCord (Γ := Γ) (l := l) hC.2.2.2.2 hq) (cwV 1 hC.t gX5_cord_X5_isCord rfl rfl rfl (by decide +kernel) ⟨Nat.le_of_ble_eq_true rfl, Nat.le_of_ble_eq_true rfl⟩) (As := [.int (x1)]) (by decide) (k_E5 _ _ _) rfl rfl rfl hl.1 (Nat.le_of_ble_eq_true rfl) dX5_cord_7 ⟨by decide, by decide⟩) (fun H locs hw => ?_)
  refine lv_if_eq (tgt := 32) hC.x hC.b dX5_cord_10 (by decide) (fun hc => ?_) (fun hc => ?_)
  · have h := it_t h hc
    refine lv_aload_n hC.x hC.b dX5_cord_32 rfl (lv_at hl 0 rfl) ?_
    refine lv_iconst (v := (1 : Int32)) hC.x hC.b dX5_cord_33 (by decide) ?_
    obtain ⟨r34, g34, hq, h⟩ := bd2_t h
    refine x_goi hC hw (x_runV hC hw (c_X5_fail (Γ := Γ) (l := l) hC.2.2.2.2 hq) (cwV 1 hC.t gX5_cord_X5_fail rfl rfl rfl (by decide +kernel) ⟨Nat.le_of_ble_eq_true rfl, Nat.le_of_ble_eq_true rfl⟩) (As := [.int ((1 : Int32))]) (by decide) (k_E5 _ _ _) rfl rfl rfl hl.1 (Nat.le_of_ble_eq_true rfl) dX5_cord_34 ⟨by decide, by decide⟩) (fun H locs hw => ?_)
    obtain ⟨rfl, rfl⟩ := sm2 h
    exact x_iret hC hw hr hlocks (by decide) (by decide) dX5_cord_37
  · have h := it_f h hc
    refine lv_iload_n hC.x hC.b dX5_cord_13 rfl (lv_at hl 2 rfl) ?_
    refine lv_iconst (v := (0 : Int32)) hC.x hC.b dX5_cord_14 (by decide) ?_
    refine lv_bipush (v := (7 : Int32)) hC.x hC.b dX5_cord_15 (by decide) ?_
    obtain ⟨r17, g17, hq, h⟩ := bd2_t h
    refine x_goi hC hw (x_runS hC hw (c_X5_isIn (Γ := Γ) (l := l) hC.2.2.2.2 hq) (va_cwS 3 hC.t gX5_cord_X5_isIn rfl rfl rfl (by decide +kernel) ⟨Nat.le_of_ble_eq_true rfl, Nat.le_of_ble_eq_true rfl⟩) (As := [.int (x2), .int ((0 : Int32)), .int ((7 : Int32))]) rfl hl.1 (Nat.le_of_ble_eq_true rfl) dX5_cord_17 ⟨by decide, by decide⟩) (fun H locs hw => ?_)
    refine lv_if_eq (tgt := 32) hC.x hC.b dX5_cord_20 (by decide) (fun hc => ?_) (fun hc => ?_)
    · have h := it_t h hc
      refine lv_aload_n hC.x hC.b dX5_cord_32 rfl (lv_at hl 0 rfl) ?_
      refine lv_iconst (v := (1 : Int32)) hC.x hC.b dX5_cord_33 (by decide) ?_
      obtain ⟨r34, g34, hq, h⟩ := bd2_t h
      refine x_goi hC hw (x_runV hC hw (c_X5_fail (Γ := Γ) (l := l) hC.2.2.2.2 hq) (cwV 1 hC.t gX5_cord_X5_fail rfl rfl rfl (by decide +kernel) ⟨Nat.le_of_ble_eq_true rfl, Nat.le_of_ble_eq_true rfl⟩) (As := [.int ((1 : Int32))]) (by decide) (k_E5 _ _ _) rfl rfl rfl hl.1 (Nat.le_of_ble_eq_true rfl) dX5_cord_34 ⟨by decide, by decide⟩) (fun H locs hw => ?_)
      obtain ⟨rfl, rfl⟩ := sm2 h
      exact x_iret hC hw hr hlocks (by decide) (by decide) dX5_cord_37
    · have h := it_f h hc
      refine lv_aload_n hC.x hC.b dX5_cord_23 rfl (lv_at hl 0 rfl) ?_
      refine lv_iload_n hC.x hC.b dX5_cord_24 rfl (lv_at hl 1 rfl) ?_
      refine lv_iload_n hC.x hC.b dX5_cord_25 rfl (lv_at hl 2 rfl) ?_
      obtain ⟨r26, g26, hq, h⟩ := bd2_t h
      refine x_goi hC hw (x_runV hC hw (c_X5_cordTold (Γ := Γ) (l := l) hC.2.2.2.2 hq) (cwV 2 hC.t gX5_cord_X5_cordTold rfl rfl rfl (by decide +kernel) ⟨Nat.le_of_ble_eq_true rfl, Nat.le_of_ble_eq_true rfl⟩) (As := [.int (x1), .int (x2)]) (by decide) (k_E5 _ _ _) rfl rfl rfl hl.1 (Nat.le_of_ble_eq_true rfl) dX5_cord_26 ⟨by decide, by decide⟩) (fun H locs hw => ?_)
      refine lv_goto (tgt := 37) hC.x hC.b dX5_cord_29 (by decide) ?_
      obtain ⟨rfl, rfl⟩ := sm2 h
      exact x_iret hC hw hr hlocks (by decide) (by decide) dX5_cord_37
abbrev rm_X5_place : Room := { frames := 2, cells := 0, slots := 0, locals := 43 }
theorem in_X5_place_X5 : ∀ w ∈ wsX50, w ∈ wsX5_place := fun _ h => List.mem_cons_of_mem _ (List.mem_append_right _ (h))
set_option maxRecDepth 20000 in
theorem lk_X5_place_f46 : Cond.fieldLink RX5 46 "KnotArchiveModel" "thrown" "I" ∈ wsX5_place := by decide +kernel
set_option maxRecDepth 20000 in
theorem lk_X5_place_f19 : Cond.fieldLink RX5 19 "KnotArchiveModel" "frays" "[I" ∈ wsX5_place := by decide +kernel
set_option maxRecDepth 20000 in
theorem lk_X5_place_f16 : Cond.fieldLink RX5 16 "KnotArchiveModel" "knots" "[I" ∈ wsX5_place := by decide +kernel
set_option maxRecDepth 100000 in
set_option maxHeartbeats 4000000 in
theorem c_X5_place {Γ : k_Pm} {l : Launch} (hl0 : l.stackTraces = false) {x1 : Int32} {x2 : Int32} {x3 : Int32}  {g : Gt} {r : Int32} {g2 : Gt} (h : f_X5_place x1 x2 x3 g = some (r, g2)) : k_CI Γ l yX5_place wsX5_place rm_X5_place [.ref (k_ad Γ 5 (0)), .int (x1), .int (x2), .int (x3)] g r g2 := by
  intro sz
  refine Met.ofW (cc := cX5_place) (maxL := 4) (ret := (some .int)) (by decide) rfl ?_
  intro p e s m args below meth c s₁ B hml hv
  obtain ⟨rfl, rfl, hP, hKS⟩ := hv
  have hr := B.returns
  have hlocks := B.notSynchronized
  have hC : k_C Γ (k_A Γ s.heap.size) p l s m _ c cX5_place 4 wsX5_place RX5 := k_C.of ⟨B.exec, B.bytes, hml, findClass_of_methodNamed B.named, atoms_spec (ws := wsX5_place) B.pre⟩ hKS hl0
  have hw : k_St Γ (k_A Γ s.heap.size) s [] g s.heap [] := k_St.of hKS hP
  have hl := lv_entry ([.ref (k_ad Γ 5 (0)), .int (x1), .int (x2), .int (x3)] : List Value) (n := 4) (Nat.le_of_ble_eq_true rfl)
  rw [lg_entry_eq]
  generalize (lg_sl ([.ref (k_ad Γ 5 (0)), .int (x1), .int (x2), .int (x3)] : List Value) ++ List.replicate (4 - (lg_sl ([.ref (k_ad Γ 5 (0)), .int (x1), .int (x2), .int (x3)] : List Value)).length) Slot.unset).toArray = ls at hl ⊢
  have hl : lv_has ls 4 [(0, .ref (k_ad Γ 5 (0))), (1, .int (x1)), (2, .int (x2)), (3, .int (x3))] := hl
  change W p l e rm_X5_place _ _ _ _ _ _ _ _ _ _ _ _
  unfold f_X5_place at h
  refine lv_aload_n hC.x hC.b dX5_place_0 rfl (lv_at hl 0 rfl) ?_
  refine lv_iconst (v := (0 : Int32)) hC.x hC.b dX5_place_1 (by decide) ?_
  refine x_puti hC hw (k := 0) (T := TX5) (by decide) (k_E5 _ _ _) in_X5_place_X5 rfl (by decide) lk_X5_place_f46 rfl tyX5 tyX5_ok nmX5 rfl (by decide +kernel) (Nat.le_of_ble_eq_true rfl) (by rw [k_E5]; rfl) dX5_place_2 (fun H locs hw => ?_)
  refine lv_aload_n hC.x hC.b dX5_place_5 rfl (lv_at hl 0 rfl) ?_
  refine lv_iload_n hC.x hC.b dX5_place_6 rfl (lv_at hl 1 rfl) ?_
  obtain ⟨r7, g7, hq, h⟩ := bd2_t h
  refine x_goi hC hw (x_runV hC hw (c_X5_isCord (Γ := Γ) (l := l) hC.2.2.2.2 hq) (cwV 1 hC.t gX5_place_X5_isCord rfl rfl rfl (by decide +kernel) ⟨Nat.le_of_ble_eq_true rfl, Nat.le_of_ble_eq_true rfl⟩) (As := [.int (x1)]) (by decide) (k_E5 _ _ _) rfl rfl rfl hl.1 (Nat.le_of_ble_eq_true rfl) dX5_place_7 ⟨by decide, by decide⟩) (fun H locs hw => ?_)
  refine lv_if_eq (tgt := 31) hC.x hC.b dX5_place_10 (by decide) (fun hc => ?_) (fun hc => ?_)
  · have h := it_t h hc
    refine lv_aload_n hC.x hC.b dX5_place_31 rfl (lv_at hl 0 rfl) ?_
    refine lv_iconst (v := (1 : Int32)) hC.x hC.b dX5_place_32 (by decide) ?_
    obtain ⟨r33, g33, hq, h⟩ := bd2_t h
    refine x_goi hC hw (x_runV hC hw (c_X5_fail (Γ := Γ) (l := l) hC.2.2.2.2 hq) (cwV 1 hC.t gX5_place_X5_fail rfl rfl rfl (by decide +kernel) ⟨Nat.le_of_ble_eq_true rfl, Nat.le_of_ble_eq_true rfl⟩) (As := [.int ((1 : Int32))]) (by decide) (k_E5 _ _ _) rfl rfl rfl hl.1 (Nat.le_of_ble_eq_true rfl) dX5_place_33 ⟨by decide, by decide⟩) (fun H locs hw => ?_)
    obtain ⟨rfl, rfl⟩ := sm2 h
    exact x_iret hC hw hr hlocks (by decide) (by decide) dX5_place_36
  · have h := it_f h hc
    refine lv_iload_n hC.x hC.b dX5_place_13 rfl (lv_at hl 2 rfl) ?_
    refine lv_iconst (v := (0 : Int32)) hC.x hC.b dX5_place_14 (by decide) ?_
    refine lv_iconst (v := (3 : Int32)) hC.x hC.b dX5_place_15 (by decide) ?_
    obtain ⟨r16, g16, hq, h⟩ := bd2_t h
    refine x_goi hC hw (x_runS hC hw (c_X5_isIn (Γ := Γ) (l := l) hC.2.2.2.2 hq) (va_cwS 3 hC.t gX5_place_X5_isIn rfl rfl rfl (by decide +kernel) ⟨Nat.le_of_ble_eq_true rfl, Nat.le_of_ble_eq_true rfl⟩) (As := [.int (x2), .int ((0 : Int32)), .int ((3 : Int32))]) rfl hl.1 (Nat.le_of_ble_eq_true rfl) dX5_place_16 ⟨by decide, by decide⟩) (fun H locs hw => ?_)
    refine lv_if_eq (tgt := 31) hC.x hC.b dX5_place_19 (by decide) (fun hc => ?_) (fun hc => ?_)
    · have h := it_t h hc
      refine lv_aload_n hC.x hC.b dX5_place_31 rfl (lv_at hl 0 rfl) ?_
      refine lv_iconst (v := (1 : Int32)) hC.x hC.b dX5_place_32 (by decide) ?_
      obtain ⟨r33, g33, hq, h⟩ := bd2_t h
      refine x_goi hC hw (x_runV hC hw (c_X5_fail (Γ := Γ) (l := l) hC.2.2.2.2 hq) (cwV 1 hC.t gX5_place_X5_fail rfl rfl rfl (by decide +kernel) ⟨Nat.le_of_ble_eq_true rfl, Nat.le_of_ble_eq_true rfl⟩) (As := [.int ((1 : Int32))]) (by decide) (k_E5 _ _ _) rfl rfl rfl hl.1 (Nat.le_of_ble_eq_true rfl) dX5_place_33 ⟨by decide, by decide⟩) (fun H locs hw => ?_)
      obtain ⟨rfl, rfl⟩ := sm2 h
      exact x_iret hC hw hr hlocks (by decide) (by decide) dX5_place_36
    · have h := it_f h hc
      refine lv_iload_n hC.x hC.b dX5_place_22 rfl (lv_at hl 3 rfl) ?_
      refine lv_iconst (v := (0 : Int32)) hC.x hC.b dX5_place_23 (by decide) ?_
      refine lv_iconst (v := (1 : Int32)) hC.x hC.b dX5_place_24 (by decide) ?_
      obtain ⟨r25, g25, hq, h⟩ := bd2_t h
      refine x_goi hC hw (x_runS hC hw (c_X5_isIn (Γ := Γ) (l := l) hC.2.2.2.2 hq) (va_cwS 3 hC.t gX5_place_X5_isIn rfl rfl rfl (by decide +kernel) ⟨Nat.le_of_ble_eq_true rfl, Nat.le_of_ble_eq_true rfl⟩) (As := [.int (x3), .int ((0 : Int32)), .int ((1 : Int32))]) rfl hl.1 (Nat.le_of_ble_eq_true rfl) dX5_place_25 ⟨by decide, by decide⟩) (fun H locs hw => ?_)
      refine lv_if_ne (tgt := 37) hC.x hC.b dX5_place_28 (by decide) (fun hc => ?_) (fun hc => ?_)
      · have h := it_f h hc
        refine lv_iload_n hC.x hC.b dX5_place_37 rfl (lv_at hl 3 rfl) ?_
        refine lv_if_ne (tgt := 54) hC.x hC.b dX5_place_38 (by decide) (fun hc => ?_) (fun hc => ?_)
        · have h := it_f h hc
          refine lv_aload_n hC.x hC.b dX5_place_54 rfl (lv_at hl 0 rfl) ?_
          refine x_get hC hw (k := 7) (T := TX5) (by decide) (k_E5 _ _ _) in_X5_place_X5 rfl (by decide) lk_X5_place_f19 rfl rfl dX5_place_55 ?_
          refine lv_iconst (v := (4 : Int32)) hC.x hC.b dX5_place_58 (by decide) ?_
          refine lv_iload_n hC.x hC.b dX5_place_59 rfl (lv_at hl 1 rfl) ?_
          refine lv_imul hC.x hC.b dX5_place_60 ?_
          refine lv_iload_n hC.x hC.b dX5_place_61 rfl (lv_at hl 2 rfl) ?_
          refine lv_iadd hC.x hC.b dX5_place_62 ?_
          obtain ⟨hg1, h⟩ := gd_t h
          refine x_iald hC hw rfl (by decide) hg1 dX5_place_63 ?_
          obtain ⟨rfl, rfl⟩ := sm2 h
          exact x_iret hC hw hr hlocks (by decide) (by decide) dX5_place_64
        · have h := it_t h hc
          refine lv_aload_n hC.x hC.b dX5_place_41 rfl (lv_at hl 0 rfl) ?_
          refine x_get hC hw (k := 6) (T := TX5) (by decide) (k_E5 _ _ _) in_X5_place_X5 rfl (by decide) lk_X5_place_f16 rfl rfl dX5_place_42 ?_
          refine lv_iconst (v := (4 : Int32)) hC.x hC.b dX5_place_45 (by decide) ?_
          refine lv_iload_n hC.x hC.b dX5_place_46 rfl (lv_at hl 1 rfl) ?_
          refine lv_imul hC.x hC.b dX5_place_47 ?_
          refine lv_iload_n hC.x hC.b dX5_place_48 rfl (lv_at hl 2 rfl) ?_
          refine lv_iadd hC.x hC.b dX5_place_49 ?_
          obtain ⟨hg2, h⟩ := gd_t h
          refine x_iald hC hw rfl (by decide) hg2 dX5_place_50 ?_
          refine lv_goto (tgt := 64) hC.x hC.b dX5_place_51 (by decide) ?_
          obtain ⟨rfl, rfl⟩ := sm2 h
          exact x_iret hC hw hr hlocks (by decide) (by decide) dX5_place_64
      · have h := it_t h hc
        refine lv_aload_n hC.x hC.b dX5_place_31 rfl (lv_at hl 0 rfl) ?_
        refine lv_iconst (v := (1 : Int32)) hC.x hC.b dX5_place_32 (by decide) ?_
        obtain ⟨r33, g33, hq, h⟩ := bd2_t h
        refine x_goi hC hw (x_runV hC hw (c_X5_fail (Γ := Γ) (l := l) hC.2.2.2.2 hq) (cwV 1 hC.t gX5_place_X5_fail rfl rfl rfl (by decide +kernel) ⟨Nat.le_of_ble_eq_true rfl, Nat.le_of_ble_eq_true rfl⟩) (As := [.int ((1 : Int32))]) (by decide) (k_E5 _ _ _) rfl rfl rfl hl.1 (Nat.le_of_ble_eq_true rfl) dX5_place_33 ⟨by decide, by decide⟩) (fun H locs hw => ?_)
        obtain ⟨rfl, rfl⟩ := sm2 h
        exact x_iret hC hw hr hlocks (by decide) (by decide) dX5_place_36
abbrev rm_X5_call : Room := { frames := 1, cells := 0, slots := 0, locals := 21 }
theorem in_X5_call_X5 : ∀ w ∈ wsX50, w ∈ wsX5_call := fun _ h => List.mem_cons_of_mem _ (List.mem_append_right _ (h))
set_option maxRecDepth 20000 in
theorem lk_X5_call_f46 : Cond.fieldLink RX5 46 "KnotArchiveModel" "thrown" "I" ∈ wsX5_call := by decide +kernel
set_option maxRecDepth 20000 in
theorem lk_X5_call_f57 : Cond.fieldLink RX5 57 "KnotArchiveModel" "witnesses" "I" ∈ wsX5_call := by decide +kernel
set_option maxRecDepth 20000 in
theorem lk_X5_call_f22 : Cond.fieldLink RX5 22 "KnotArchiveModel" "trust" "[I" ∈ wsX5_call := by decide +kernel
set_option maxRecDepth 100000 in
set_option maxHeartbeats 4000000 in
theorem c_X5_call {Γ : k_Pm} {l : Launch} (hl0 : l.stackTraces = false)   {g : Gt} {r : Int32} {g2 : Gt} (h : f_X5_call  g = some (r, g2)) : k_CI Γ l yX5_call wsX5_call rm_X5_call [.ref (k_ad Γ 5 (0))] g r g2 := by
  intro sz
  refine Met.ofW (cc := cX5_call) (maxL := 1) (ret := (some .int)) (by decide) rfl ?_
  intro p e s m args below meth c s₁ B hml hv
  obtain ⟨rfl, rfl, hP, hKS⟩ := hv
  have hr := B.returns
  have hlocks := B.notSynchronized
  have hC : k_C Γ (k_A Γ s.heap.size) p l s m _ c cX5_call 1 wsX5_call RX5 := k_C.of ⟨B.exec, B.bytes, hml, findClass_of_methodNamed B.named, atoms_spec (ws := wsX5_call) B.pre⟩ hKS hl0
  have hw : k_St Γ (k_A Γ s.heap.size) s [] g s.heap [] := k_St.of hKS hP
  have hl := lv_entry ([.ref (k_ad Γ 5 (0))] : List Value) (n := 1) (Nat.le_of_ble_eq_true rfl)
  rw [lg_entry_eq]
  generalize (lg_sl ([.ref (k_ad Γ 5 (0))] : List Value) ++ List.replicate (1 - (lg_sl ([.ref (k_ad Γ 5 (0))] : List Value)).length) Slot.unset).toArray = ls at hl ⊢
  have hl : lv_has ls 1 [(0, .ref (k_ad Γ 5 (0)))] := hl
  change W p l e rm_X5_call _ _ _ _ _ _ _ _ _ _ _ _
  unfold f_X5_call at h
  refine lv_aload_n hC.x hC.b dX5_call_0 rfl (lv_at hl 0 rfl) ?_
  refine lv_iconst (v := (0 : Int32)) hC.x hC.b dX5_call_1 (by decide) ?_
  refine x_puti hC hw (k := 0) (T := TX5) (by decide) (k_E5 _ _ _) in_X5_call_X5 rfl (by decide) lk_X5_call_f46 rfl tyX5 tyX5_ok nmX5 rfl (by decide +kernel) (Nat.le_of_ble_eq_true rfl) (by rw [k_E5]; rfl) dX5_call_2 (fun H locs hw => ?_)
  refine lv_aload_n hC.x hC.b dX5_call_5 rfl (lv_at hl 0 rfl) ?_
  refine x_get hC hw (k := 2) (T := TX5) (by decide) (k_E5 _ _ _) in_X5_call_X5 rfl (by decide) lk_X5_call_f57 rfl rfl dX5_call_6 ?_
  refine lv_bipush (v := (6 : Int32)) hC.x hC.b dX5_call_9 (by decide) ?_
  refine lv_icmp_ne (tgt := 20) hC.x hC.b dX5_call_11 (by decide) (fun hc => ?_) (fun hc => ?_)
  · have h := it_f h hc
    refine lv_aload_n hC.x hC.b dX5_call_20 rfl (lv_at hl 0 rfl) ?_
    refine x_get hC hw (k := 8) (T := TX5) (by decide) (k_E5 _ _ _) in_X5_call_X5 rfl (by decide) lk_X5_call_f22 rfl rfl dX5_call_21 ?_
    refine lv_aload_n hC.x hC.b dX5_call_24 rfl (lv_at hl 0 rfl) ?_
    refine x_get hC hw (k := 2) (T := TX5) (by decide) (k_E5 _ _ _) in_X5_call_X5 rfl (by decide) lk_X5_call_f57 rfl rfl dX5_call_25 ?_
    refine lv_bipush (v := (10 : Int32)) hC.x hC.b dX5_call_28 (by decide) ?_
    obtain ⟨hg1, h⟩ := gd_t h
    refine x_iast hC hw rfl (by decide) hg1 dX5_call_30 (fun H locs hw => ?_)
    refine lv_aload_n hC.x hC.b dX5_call_31 rfl (lv_at hl 0 rfl) ?_
    refine lv_dup hC.x hC.b dX5_call_32 rfl ?_
    refine x_get hC hw (k := 2) (T := TX5) (by decide) (k_E5 _ _ _) in_X5_call_X5 rfl (by decide) lk_X5_call_f57 rfl rfl dX5_call_33 ?_
    refine lv_iconst (v := (1 : Int32)) hC.x hC.b dX5_call_36 (by decide) ?_
    refine lv_iadd hC.x hC.b dX5_call_37 ?_
    refine x_puti hC hw (k := 2) (T := TX5) (by decide) (k_E5 _ _ _) in_X5_call_X5 rfl (by decide) lk_X5_call_f57 rfl tyX5 tyX5_ok nmX5 rfl (by decide +kernel) (Nat.le_of_ble_eq_true rfl) (by rw [k_E5]; rfl) dX5_call_38 (fun H locs hw => ?_)
    refine lv_aload_n hC.x hC.b dX5_call_41 rfl (lv_at hl 0 rfl) ?_
    refine x_get hC hw (k := 2) (T := TX5) (by decide) (k_E5 _ _ _) in_X5_call_X5 rfl (by decide) lk_X5_call_f57 rfl rfl dX5_call_42 ?_
    refine lv_iconst (v := (1 : Int32)) hC.x hC.b dX5_call_45 (by decide) ?_
    refine lv_isub hC.x hC.b dX5_call_46 ?_
    obtain ⟨rfl, rfl⟩ := sm2 h
    exact x_iret hC hw hr hlocks (by decide) (by decide) dX5_call_47
  · have h := it_t h hc
    refine lv_aload_n hC.x hC.b dX5_call_14 rfl (lv_at hl 0 rfl) ?_
    refine lv_iconst (v := (1 : Int32)) hC.x hC.b dX5_call_15 (by decide) ?_
    obtain ⟨r16, g16, hq, h⟩ := bd2_t h
    refine x_goi hC hw (x_runV hC hw (c_X5_fail (Γ := Γ) (l := l) hC.2.2.2.2 hq) (cwV 1 hC.t gX5_call_X5_fail rfl rfl rfl (by decide +kernel) ⟨Nat.le_of_ble_eq_true rfl, Nat.le_of_ble_eq_true rfl⟩) (As := [.int ((1 : Int32))]) (by decide) (k_E5 _ _ _) rfl rfl rfl hl.1 (Nat.le_of_ble_eq_true rfl) dX5_call_16 ⟨by decide, by decide⟩) (fun H locs hw => ?_)
    obtain ⟨rfl, rfl⟩ := sm2 h
    exact x_iret hC hw hr hlocks (by decide) (by decide) dX5_call_19
abbrev rm_X5_read : Room := { frames := 4, cells := 0, slots := 0, locals := 91 }
theorem in_X5_read_X5 : ∀ w ∈ wsX50, w ∈ wsX5_read := fun _ h => List.mem_cons_of_mem _ (List.mem_append_right _ (h))
set_option maxRecDepth 20000 in
theorem lk_X5_read_f46 : Cond.fieldLink RX5 46 "KnotArchiveModel" "thrown" "I" ∈ wsX5_read := by decide +kernel
set_option maxRecDepth 20000 in
theorem lk_X5_read_f25 : Cond.fieldLink RX5 25 "KnotArchiveModel" "read" "[I" ∈ wsX5_read := by decide +kernel
set_option maxRecDepth 20000 in
theorem lk_X5_read_f28 : Cond.fieldLink RX5 28 "KnotArchiveModel" "years" "[I" ∈ wsX5_read := by decide +kernel
set_option maxRecDepth 20000 in
theorem lk_X5_read_f34 : Cond.fieldLink RX5 34 "KnotArchiveModel" "numbers" "[I" ∈ wsX5_read := by decide +kernel
set_option maxRecDepth 100000 in
set_option maxHeartbeats 4000000 in
theorem c_X5_read {Γ : k_Pm} {l : Launch} (hl0 : l.stackTraces = false) {x1 : Int32} {x2 : Int32}  {g : Gt} {r : Int32} {g2 : Gt} (h : f_X5_read x1 x2 g = some (r, g2)) : k_CI Γ l yX5_read wsX5_read rm_X5_read [.ref (k_ad Γ 5 (0)), .int (x1), .int (x2)] g r g2 := by
  intro sz
  refine Met.ofW (cc := cX5_read) (maxL := 3) (ret := (some .int)) (by decide) rfl ?_
  intro p e s m args below meth c s₁ B hml hv
  obtain ⟨rfl, rfl, hP, hKS⟩ := hv
  have hr := B.returns
  have hlocks := B.notSynchronized
  have hC : k_C Γ (k_A Γ s.heap.size) p l s m _ c cX5_read 3 wsX5_read RX5 := k_C.of ⟨B.exec, B.bytes, hml, findClass_of_methodNamed B.named, atoms_spec (ws := wsX5_read) B.pre⟩ hKS hl0
  have hw : k_St Γ (k_A Γ s.heap.size) s [] g s.heap [] := k_St.of hKS hP
  have hl := lv_entry ([.ref (k_ad Γ 5 (0)), .int (x1), .int (x2)] : List Value) (n := 3) (Nat.le_of_ble_eq_true rfl)
  rw [lg_entry_eq]
  generalize (lg_sl ([.ref (k_ad Γ 5 (0)), .int (x1), .int (x2)] : List Value) ++ List.replicate (3 - (lg_sl ([.ref (k_ad Γ 5 (0)), .int (x1), .int (x2)] : List Value)).length) Slot.unset).toArray = ls at hl ⊢
  have hl : lv_has ls 3 [(0, .ref (k_ad Γ 5 (0))), (1, .int (x1)), (2, .int (x2))] := hl
  change W p l e rm_X5_read _ _ _ _ _ _ _ _ _ _ _ _
  unfold f_X5_read at h
  refine lv_aload_n hC.x hC.b dX5_read_0 rfl (lv_at hl 0 rfl) ?_
  refine lv_iconst (v := (0 : Int32)) hC.x hC.b dX5_read_1 (by decide) ?_
  refine x_puti hC hw (k := 0) (T := TX5) (by decide) (k_E5 _ _ _) in_X5_read_X5 rfl (by decide) lk_X5_read_f46 rfl tyX5 tyX5_ok nmX5 rfl (by decide +kernel) (Nat.le_of_ble_eq_true rfl) (by rw [k_E5]; rfl) dX5_read_2 (fun H locs hw => ?_)
  refine lv_aload_n hC.x hC.b dX5_read_5 rfl (lv_at hl 0 rfl) ?_
  refine lv_iload_n hC.x hC.b dX5_read_6 rfl (lv_at hl 1 rfl) ?_
  obtain ⟨r7, g7, hq, h⟩ := bd2_t h
  refine x_goi hC hw (x_runV hC hw (c_X5_isWitness (Γ := Γ) (l := l) hC.2.2.2.2 hq) (cwV 1 hC.t gX5_read_X5_isWitness rfl rfl rfl (by decide +kernel) ⟨Nat.le_of_ble_eq_true rfl, Nat.le_of_ble_eq_true rfl⟩) (As := [.int (x1)]) (by decide) (k_E5 _ _ _) rfl rfl rfl hl.1 (Nat.le_of_ble_eq_true rfl) dX5_read_7 ⟨by decide, by decide⟩) (fun H locs hw => ?_)
  refine lv_if_eq (tgt := 21) hC.x hC.b dX5_read_10 (by decide) (fun hc => ?_) (fun hc => ?_)
  · have h := it_t h hc
    refine lv_aload_n hC.x hC.b dX5_read_21 rfl (lv_at hl 0 rfl) ?_
    refine lv_iconst (v := (1 : Int32)) hC.x hC.b dX5_read_22 (by decide) ?_
    obtain ⟨r23, g23, hq, h⟩ := bd2_t h
    refine x_goi hC hw (x_runV hC hw (c_X5_fail (Γ := Γ) (l := l) hC.2.2.2.2 hq) (cwV 1 hC.t gX5_read_X5_fail rfl rfl rfl (by decide +kernel) ⟨Nat.le_of_ble_eq_true rfl, Nat.le_of_ble_eq_true rfl⟩) (As := [.int ((1 : Int32))]) (by decide) (k_E5 _ _ _) rfl rfl rfl hl.1 (Nat.le_of_ble_eq_true rfl) dX5_read_23 ⟨by decide, by decide⟩) (fun H locs hw => ?_)
    obtain ⟨rfl, rfl⟩ := sm2 h
    exact x_iret hC hw hr hlocks (by decide) (by decide) dX5_read_26
  · have h := it_f h hc
    refine lv_aload_n hC.x hC.b dX5_read_13 rfl (lv_at hl 0 rfl) ?_
    refine lv_iload_n hC.x hC.b dX5_read_14 rfl (lv_at hl 2 rfl) ?_
    obtain ⟨r15, g15, hq, h⟩ := bd2_t h
    refine x_goi hC hw (x_runV hC hw (c_X5_isCord (Γ := Γ) (l := l) hC.2.2.2.2 hq) (cwV 1 hC.t gX5_read_X5_isCord rfl rfl rfl (by decide +kernel) ⟨Nat.le_of_ble_eq_true rfl, Nat.le_of_ble_eq_true rfl⟩) (As := [.int (x2)]) (by decide) (k_E5 _ _ _) rfl rfl rfl hl.1 (Nat.le_of_ble_eq_true rfl) dX5_read_15 ⟨by decide, by decide⟩) (fun H locs hw => ?_)
    refine lv_if_ne (tgt := 27) hC.x hC.b dX5_read_18 (by decide) (fun hc => ?_) (fun hc => ?_)
    · have h := it_f h hc
      refine lv_aload_n hC.x hC.b dX5_read_27 rfl (lv_at hl 0 rfl) ?_
      refine x_get hC hw (k := 9) (T := TX5) (by decide) (k_E5 _ _ _) in_X5_read_X5 rfl (by decide) lk_X5_read_f25 rfl rfl dX5_read_28 ?_
      refine lv_bipush (v := (16 : Int32)) hC.x hC.b dX5_read_31 (by decide) ?_
      refine lv_iload_n hC.x hC.b dX5_read_33 rfl (lv_at hl 1 rfl) ?_
      refine lv_imul hC.x hC.b dX5_read_34 ?_
      refine lv_iload_n hC.x hC.b dX5_read_35 rfl (lv_at hl 2 rfl) ?_
      refine lv_iadd hC.x hC.b dX5_read_36 ?_
      refine lv_aload_n hC.x hC.b dX5_read_37 rfl (lv_at hl 0 rfl) ?_
      refine lv_iload_n hC.x hC.b dX5_read_38 rfl (lv_at hl 2 rfl) ?_
      refine lv_iconst (v := (3 : Int32)) hC.x hC.b dX5_read_39 (by decide) ?_
      obtain ⟨r40, g40, hq, h⟩ := bd2_t h
      refine x_goi hC hw (x_runV hC hw (c_X5_cordTold (Γ := Γ) (l := l) hC.2.2.2.2 hq) (cwV 2 hC.t gX5_read_X5_cordTold rfl rfl rfl (by decide +kernel) ⟨Nat.le_of_ble_eq_true rfl, Nat.le_of_ble_eq_true rfl⟩) (As := [.int (x2), .int ((3 : Int32))]) (by decide) (k_E5 _ _ _) rfl rfl rfl hl.1 (Nat.le_of_ble_eq_true rfl) dX5_read_40 ⟨by decide, by decide⟩) (fun H locs hw => ?_)
      obtain ⟨hg1, h⟩ := gd_t h
      refine x_iast hC hw rfl (by decide) hg1 dX5_read_43 (fun H locs hw => ?_)
      refine lv_aload_n hC.x hC.b dX5_read_44 rfl (lv_at hl 0 rfl) ?_
      refine x_get hC hw (k := 10) (T := TX5) (by decide) (k_E5 _ _ _) in_X5_read_X5 rfl (by decide) lk_X5_read_f28 rfl rfl dX5_read_45 ?_
      refine lv_bipush (v := (16 : Int32)) hC.x hC.b dX5_read_48 (by decide) ?_
      refine lv_iload_n hC.x hC.b dX5_read_50 rfl (lv_at hl 1 rfl) ?_
      refine lv_imul hC.x hC.b dX5_read_51 ?_
      refine lv_iload_n hC.x hC.b dX5_read_52 rfl (lv_at hl 2 rfl) ?_
      refine lv_iadd hC.x hC.b dX5_read_53 ?_
      refine lv_aload_n hC.x hC.b dX5_read_54 rfl (lv_at hl 0 rfl) ?_
      refine x_get hC hw (k := 12) (T := TX5) (by decide) (k_E5 _ _ _) in_X5_read_X5 rfl (by decide) lk_X5_read_f34 rfl rfl dX5_read_55 ?_
      refine lv_iconst (v := (0 : Int32)) hC.x hC.b dX5_read_58 (by decide) ?_
      refine x_iald hC hw rfl (by decide) (by decide) dX5_read_59 ?_
      obtain ⟨hg2, h⟩ := gd_t h
      refine x_iast hC hw rfl (by decide) hg2 dX5_read_60 (fun H locs hw => ?_)
      refine lv_aload_n hC.x hC.b dX5_read_61 rfl (lv_at hl 0 rfl) ?_
      refine x_get hC hw (k := 9) (T := TX5) (by decide) (k_E5 _ _ _) in_X5_read_X5 rfl (by decide) lk_X5_read_f25 rfl rfl dX5_read_62 ?_
      refine lv_bipush (v := (16 : Int32)) hC.x hC.b dX5_read_65 (by decide) ?_
      refine lv_iload_n hC.x hC.b dX5_read_67 rfl (lv_at hl 1 rfl) ?_
      refine lv_imul hC.x hC.b dX5_read_68 ?_
      refine lv_iload_n hC.x hC.b dX5_read_69 rfl (lv_at hl 2 rfl) ?_
      refine lv_iadd hC.x hC.b dX5_read_70 ?_
      obtain ⟨hg3, h⟩ := gd_t h
      refine x_iald hC hw rfl (by decide) hg3 dX5_read_71 ?_
      obtain ⟨rfl, rfl⟩ := sm2 h
      exact x_iret hC hw hr hlocks (by decide) (by decide) dX5_read_72
    · have h := it_t h hc
      refine lv_aload_n hC.x hC.b dX5_read_21 rfl (lv_at hl 0 rfl) ?_
      refine lv_iconst (v := (1 : Int32)) hC.x hC.b dX5_read_22 (by decide) ?_
      obtain ⟨r23, g23, hq, h⟩ := bd2_t h
      refine x_goi hC hw (x_runV hC hw (c_X5_fail (Γ := Γ) (l := l) hC.2.2.2.2 hq) (cwV 1 hC.t gX5_read_X5_fail rfl rfl rfl (by decide +kernel) ⟨Nat.le_of_ble_eq_true rfl, Nat.le_of_ble_eq_true rfl⟩) (As := [.int ((1 : Int32))]) (by decide) (k_E5 _ _ _) rfl rfl rfl hl.1 (Nat.le_of_ble_eq_true rfl) dX5_read_23 ⟨by decide, by decide⟩) (fun H locs hw => ?_)
      obtain ⟨rfl, rfl⟩ := sm2 h
      exact x_iret hC hw hr hlocks (by decide) (by decide) dX5_read_26
abbrev rm_X5_knows : Room := { frames := 0, cells := 0, slots := 0, locals := 0 }
theorem in_X5_knows_X5 : ∀ w ∈ wsX50, w ∈ wsX5_knows := fun _ h => List.mem_cons_of_mem _ (List.mem_append_right _ (h))
set_option maxRecDepth 20000 in
theorem lk_X5_knows_f28 : Cond.fieldLink RX5 28 "KnotArchiveModel" "years" "[I" ∈ wsX5_knows := by decide +kernel
set_option maxRecDepth 100000 in
set_option maxHeartbeats 4000000 in
theorem c_X5_knows {Γ : k_Pm} {l : Launch} (hl0 : l.stackTraces = false) {x1 : Int32} {x2 : Int32}  {g : Gt} {r : Int32} {g2 : Gt} (h : f_X5_knows x1 x2 g = some (r, g2)) : k_CI Γ l yX5_knows wsX5_knows rm_X5_knows [.ref (k_ad Γ 5 (0)), .int (x1), .int (x2)] g r g2 := by
  intro sz
  refine Met.ofW (cc := cX5_knows) (maxL := 3) (ret := (some .boolean)) (by decide) rfl ?_
  intro p e s m args below meth c s₁ B hml hv
  obtain ⟨rfl, rfl, hP, hKS⟩ := hv
  have hr := B.returns
  have hlocks := B.notSynchronized
  have hC : k_C Γ (k_A Γ s.heap.size) p l s m _ c cX5_knows 3 wsX5_knows RX5 := k_C.of ⟨B.exec, B.bytes, hml, findClass_of_methodNamed B.named, atoms_spec (ws := wsX5_knows) B.pre⟩ hKS hl0
  have hw : k_St Γ (k_A Γ s.heap.size) s [] g s.heap [] := k_St.of hKS hP
  have hl := lv_entry ([.ref (k_ad Γ 5 (0)), .int (x1), .int (x2)] : List Value) (n := 3) (Nat.le_of_ble_eq_true rfl)
  rw [lg_entry_eq]
  generalize (lg_sl ([.ref (k_ad Γ 5 (0)), .int (x1), .int (x2)] : List Value) ++ List.replicate (3 - (lg_sl ([.ref (k_ad Γ 5 (0)), .int (x1), .int (x2)] : List Value)).length) Slot.unset).toArray = ls at hl ⊢
  have hl : lv_has ls 3 [(0, .ref (k_ad Γ 5 (0))), (1, .int (x1)), (2, .int (x2))] := hl
  change W p l e rm_X5_knows _ _ _ _ _ _ _ _ _ _ _ _
  unfold f_X5_knows at h
  refine lv_aload_n hC.x hC.b dX5_knows_0 rfl (lv_at hl 0 rfl) ?_
  refine x_get hC hw (k := 10) (T := TX5) (by decide) (k_E5 _ _ _) in_X5_knows_X5 rfl (by decide) lk_X5_knows_f28 rfl rfl dX5_knows_1 ?_
  refine lv_bipush (v := (16 : Int32)) hC.x hC.b dX5_knows_4 (by decide) ?_
  refine lv_iload_n hC.x hC.b dX5_knows_6 rfl (lv_at hl 1 rfl) ?_
  refine lv_imul hC.x hC.b dX5_knows_7 ?_
  refine lv_iload_n hC.x hC.b dX5_knows_8 rfl (lv_at hl 2 rfl) ?_
  refine lv_iadd hC.x hC.b dX5_knows_9 ?_
  obtain ⟨hg1, h⟩ := gd_t h
  refine x_iald hC hw rfl (by decide) hg1 dX5_knows_10 ?_
  refine lv_iconst (v := (-1 : Int32)) hC.x hC.b dX5_knows_11 (by decide) ?_
  refine lv_icmp_eq (tgt := 19) hC.x hC.b dX5_knows_12 (by decide) (fun hc => ?_) (fun hc => ?_)
  · have h := it_t h hc
    refine lv_iconst (v := (0 : Int32)) hC.x hC.b dX5_knows_19 (by decide) ?_
    obtain ⟨rfl, rfl⟩ := sm2 h
    exact x_zret hC hw hr hlocks rfl (by decide) (by decide) dX5_knows_20
  · have h := it_f h hc
    refine lv_iconst (v := (1 : Int32)) hC.x hC.b dX5_knows_15 (by decide) ?_
    refine lv_goto (tgt := 20) hC.x hC.b dX5_knows_16 (by decide) ?_
    obtain ⟨rfl, rfl⟩ := sm2 h
    exact x_zret hC hw hr hlocks rfl (by decide) (by decide) dX5_knows_20
abbrev rm_X5_remembered : Room := { frames := 1, cells := 0, slots := 0, locals := 22 }
theorem in_X5_remembered_X5 : ∀ w ∈ wsX50, w ∈ wsX5_remembered := fun _ h => List.mem_cons_of_mem _ (List.mem_append_right _ (h))
set_option maxRecDepth 20000 in
theorem lk_X5_remembered_f28 : Cond.fieldLink RX5 28 "KnotArchiveModel" "years" "[I" ∈ wsX5_remembered := by decide +kernel
set_option maxRecDepth 20000 in
theorem lk_X5_remembered_f25 : Cond.fieldLink RX5 25 "KnotArchiveModel" "read" "[I" ∈ wsX5_remembered := by decide +kernel
set_option maxRecDepth 100000 in
set_option maxHeartbeats 4000000 in
theorem c_X5_remembered {Γ : k_Pm} {l : Launch} (hl0 : l.stackTraces = false) {x1 : Int32} {x2 : Int32} {x3 : Int32}  {g : Gt} {r : Int32} {g2 : Gt} (h : f_X5_remembered x1 x2 x3 g = some (r, g2)) : k_CI Γ l yX5_remembered wsX5_remembered rm_X5_remembered [.ref (k_ad Γ 5 (0)), .int (x1), .int (x2), .int (x3)] g r g2 := by
  intro sz
  refine Met.ofW (cc := cX5_remembered) (maxL := 4) (ret := (some .int)) (by decide) rfl ?_
  intro p e s m args below meth c s₁ B hml hv
  obtain ⟨rfl, rfl, hP, hKS⟩ := hv
  have hr := B.returns
  have hlocks := B.notSynchronized
  have hC : k_C Γ (k_A Γ s.heap.size) p l s m _ c cX5_remembered 4 wsX5_remembered RX5 := k_C.of ⟨B.exec, B.bytes, hml, findClass_of_methodNamed B.named, atoms_spec (ws := wsX5_remembered) B.pre⟩ hKS hl0
  have hw : k_St Γ (k_A Γ s.heap.size) s [] g s.heap [] := k_St.of hKS hP
  have hl := lv_entry ([.ref (k_ad Γ 5 (0)), .int (x1), .int (x2), .int (x3)] : List Value) (n := 4) (Nat.le_of_ble_eq_true rfl)
  rw [lg_entry_eq]
  generalize (lg_sl ([.ref (k_ad Γ 5 (0)), .int (x1), .int (x2), .int (x3)] : List Value) ++ List.replicate (4 - (lg_sl ([.ref (k_ad Γ 5 (0)), .int (x1), .int (x2), .int (x3)] : List Value)).length) Slot.unset).toArray = ls at hl ⊢
  have hl : lv_has ls 4 [(0, .ref (k_ad Γ 5 (0))), (1, .int (x1)), (2, .int (x2)), (3, .int (x3))] := hl
  change W p l e rm_X5_remembered _ _ _ _ _ _ _ _ _ _ _ _
  unfold f_X5_remembered at h
  refine lv_aload_n hC.x hC.b dX5_remembered_0 rfl (lv_at hl 0 rfl) ?_
  refine lv_iload_n hC.x hC.b dX5_remembered_1 rfl (lv_at hl 1 rfl) ?_
  refine lv_iload_n hC.x hC.b dX5_remembered_2 rfl (lv_at hl 2 rfl) ?_
  obtain ⟨r3, g3, hq, h⟩ := bd2_t h
  refine x_goi hC hw (x_runV hC hw (c_X5_knows (Γ := Γ) (l := l) hC.2.2.2.2 hq) (cwV 2 hC.t gX5_remembered_X5_knows rfl rfl rfl (by decide +kernel) ⟨Nat.le_of_ble_eq_true rfl, Nat.le_of_ble_eq_true rfl⟩) (As := [.int (x1), .int (x2)]) (by decide) (k_E5 _ _ _) rfl rfl rfl hl.1 (Nat.le_of_ble_eq_true rfl) dX5_remembered_3 ⟨by decide, by decide⟩) (fun H locs hw => ?_)
  refine lv_if_ne (tgt := 20) hC.x hC.b dX5_remembered_6 (by decide) (fun hc => ?_) (fun hc => ?_)
  · have h := it_f h hc
    refine lv_iload_n hC.x hC.b dX5_remembered_20 rfl (lv_at hl 3 rfl) ?_
    refine lv_if_ne (tgt := 38) hC.x hC.b dX5_remembered_21 (by decide) (fun hc => ?_) (fun hc => ?_)
    · have h := it_f h hc
      refine lv_iload_n hC.x hC.b dX5_remembered_38 rfl (lv_at hl 3 rfl) ?_
      refine lv_iconst (v := (1 : Int32)) hC.x hC.b dX5_remembered_39 (by decide) ?_
      refine lv_icmp_ne (tgt := 57) hC.x hC.b dX5_remembered_40 (by decide) (fun hc => ?_) (fun hc => ?_)
      · have h := it_f h hc
        refine lv_iconst (v := (1 : Int32)) hC.x hC.b dX5_remembered_57 (by decide) ?_
        obtain ⟨rfl, rfl⟩ := sm2 h
        exact x_iret hC hw hr hlocks (by decide) (by decide) dX5_remembered_58
      · have h := it_t h hc
        refine lv_aload_n hC.x hC.b dX5_remembered_43 rfl (lv_at hl 0 rfl) ?_
        refine x_get hC hw (k := 10) (T := TX5) (by decide) (k_E5 _ _ _) in_X5_remembered_X5 rfl (by decide) lk_X5_remembered_f28 rfl rfl dX5_remembered_44 ?_
        refine lv_bipush (v := (16 : Int32)) hC.x hC.b dX5_remembered_47 (by decide) ?_
        refine lv_iload_n hC.x hC.b dX5_remembered_49 rfl (lv_at hl 1 rfl) ?_
        refine lv_imul hC.x hC.b dX5_remembered_50 ?_
        refine lv_iload_n hC.x hC.b dX5_remembered_51 rfl (lv_at hl 2 rfl) ?_
        refine lv_iadd hC.x hC.b dX5_remembered_52 ?_
        obtain ⟨hg1, h⟩ := gd_t h
        refine x_iald hC hw rfl (by decide) hg1 dX5_remembered_53 ?_
        refine lv_goto (tgt := 58) hC.x hC.b dX5_remembered_54 (by decide) ?_
        obtain ⟨rfl, rfl⟩ := sm2 h
        exact x_iret hC hw hr hlocks (by decide) (by decide) dX5_remembered_58
    · have h := it_t h hc
      refine lv_aload_n hC.x hC.b dX5_remembered_24 rfl (lv_at hl 0 rfl) ?_
      refine x_get hC hw (k := 9) (T := TX5) (by decide) (k_E5 _ _ _) in_X5_remembered_X5 rfl (by decide) lk_X5_remembered_f25 rfl rfl dX5_remembered_25 ?_
      refine lv_bipush (v := (16 : Int32)) hC.x hC.b dX5_remembered_28 (by decide) ?_
      refine lv_iload_n hC.x hC.b dX5_remembered_30 rfl (lv_at hl 1 rfl) ?_
      refine lv_imul hC.x hC.b dX5_remembered_31 ?_
      refine lv_iload_n hC.x hC.b dX5_remembered_32 rfl (lv_at hl 2 rfl) ?_
      refine lv_iadd hC.x hC.b dX5_remembered_33 ?_
      obtain ⟨hg2, h⟩ := gd_t h
      refine x_iald hC hw rfl (by decide) hg2 dX5_remembered_34 ?_
      refine lv_goto (tgt := 58) hC.x hC.b dX5_remembered_35 (by decide) ?_
      obtain ⟨rfl, rfl⟩ := sm2 h
      exact x_iret hC hw hr hlocks (by decide) (by decide) dX5_remembered_58
  · have h := it_t h hc
    refine lv_iload_n hC.x hC.b dX5_remembered_9 rfl (lv_at hl 3 rfl) ?_
    refine lv_iconst (v := (2 : Int32)) hC.x hC.b dX5_remembered_10 (by decide) ?_
    refine lv_icmp_ne (tgt := 18) hC.x hC.b dX5_remembered_11 (by decide) (fun hc => ?_) (fun hc => ?_)
    · have h := it_f h hc
      refine lv_iconst (v := (-1 : Int32)) hC.x hC.b dX5_remembered_18 (by decide) ?_
      obtain ⟨rfl, rfl⟩ := sm2 h
      exact x_iret hC hw hr hlocks (by decide) (by decide) dX5_remembered_19
    · have h := it_t h hc
      refine lv_iconst (v := (0 : Int32)) hC.x hC.b dX5_remembered_14 (by decide) ?_
      refine lv_goto (tgt := 19) hC.x hC.b dX5_remembered_15 (by decide) ?_
      obtain ⟨rfl, rfl⟩ := sm2 h
      exact x_iret hC hw hr hlocks (by decide) (by decide) dX5_remembered_19
abbrev rm_X5_remembers : Room := { frames := 2, cells := 0, slots := 0, locals := 45 }
theorem in_X5_remembers_X5 : ∀ w ∈ wsX50, w ∈ wsX5_remembers := fun _ h => List.mem_cons_of_mem _ (List.mem_append_right _ (h))
set_option maxRecDepth 20000 in
theorem lk_X5_remembers_f46 : Cond.fieldLink RX5 46 "KnotArchiveModel" "thrown" "I" ∈ wsX5_remembers := by decide +kernel
set_option maxRecDepth 100000 in
set_option maxHeartbeats 4000000 in
theorem c_X5_remembers {Γ : k_Pm} {l : Launch} (hl0 : l.stackTraces = false) {x1 : Int32} {x2 : Int32} {x3 : Int32}  {g : Gt} {r : Int32} {g2 : Gt} (h : f_X5_remembers x1 x2 x3 g = some (r, g2)) : k_CI Γ l yX5_remembers wsX5_remembers rm_X5_remembers [.ref (k_ad Γ 5 (0)), .int (x1), .int (x2), .int (x3)] g r g2 := by
  intro sz
  refine Met.ofW (cc := cX5_remembers) (maxL := 4) (ret := (some .int)) (by decide) rfl ?_
  intro p e s m args below meth c s₁ B hml hv
  obtain ⟨rfl, rfl, hP, hKS⟩ := hv
  have hr := B.returns
  have hlocks := B.notSynchronized
  have hC : k_C Γ (k_A Γ s.heap.size) p l s m _ c cX5_remembers 4 wsX5_remembers RX5 := k_C.of ⟨B.exec, B.bytes, hml, findClass_of_methodNamed B.named, atoms_spec (ws := wsX5_remembers) B.pre⟩ hKS hl0
  have hw : k_St Γ (k_A Γ s.heap.size) s [] g s.heap [] := k_St.of hKS hP
  have hl := lv_entry ([.ref (k_ad Γ 5 (0)), .int (x1), .int (x2), .int (x3)] : List Value) (n := 4) (Nat.le_of_ble_eq_true rfl)
  rw [lg_entry_eq]
  generalize (lg_sl ([.ref (k_ad Γ 5 (0)), .int (x1), .int (x2), .int (x3)] : List Value) ++ List.replicate (4 - (lg_sl ([.ref (k_ad Γ 5 (0)), .int (x1), .int (x2), .int (x3)] : List Value)).length) Slot.unset).toArray = ls at hl ⊢
  have hl : lv_has ls 4 [(0, .ref (k_ad Γ 5 (0))), (1, .int (x1)), (2, .int (x2)), (3, .int (x3))] := hl
  change W p l e rm_X5_remembers _ _ _ _ _ _ _ _ _ _ _ _
  unfold f_X5_remembers at h
  refine lv_aload_n hC.x hC.b dX5_remembers_0 rfl (lv_at hl 0 rfl) ?_
  refine lv_iconst (v := (0 : Int32)) hC.x hC.b dX5_remembers_1 (by decide) ?_
  refine x_puti hC hw (k := 0) (T := TX5) (by decide) (k_E5 _ _ _) in_X5_remembers_X5 rfl (by decide) lk_X5_remembers_f46 rfl tyX5 tyX5_ok nmX5 rfl (by decide +kernel) (Nat.le_of_ble_eq_true rfl) (by rw [k_E5]; rfl) dX5_remembers_2 (fun H locs hw => ?_)
  refine lv_aload_n hC.x hC.b dX5_remembers_5 rfl (lv_at hl 0 rfl) ?_
  refine lv_iload_n hC.x hC.b dX5_remembers_6 rfl (lv_at hl 1 rfl) ?_
  obtain ⟨r7, g7, hq, h⟩ := bd2_t h
  refine x_goi hC hw (x_runV hC hw (c_X5_isWitness (Γ := Γ) (l := l) hC.2.2.2.2 hq) (cwV 1 hC.t gX5_remembers_X5_isWitness rfl rfl rfl (by decide +kernel) ⟨Nat.le_of_ble_eq_true rfl, Nat.le_of_ble_eq_true rfl⟩) (As := [.int (x1)]) (by decide) (k_E5 _ _ _) rfl rfl rfl hl.1 (Nat.le_of_ble_eq_true rfl) dX5_remembers_7 ⟨by decide, by decide⟩) (fun H locs hw => ?_)
  refine lv_if_eq (tgt := 40) hC.x hC.b dX5_remembers_10 (by decide) (fun hc => ?_) (fun hc => ?_)
  · have h := it_t h hc
    refine lv_aload_n hC.x hC.b dX5_remembers_40 rfl (lv_at hl 0 rfl) ?_
    refine lv_iconst (v := (1 : Int32)) hC.x hC.b dX5_remembers_41 (by decide) ?_
    obtain ⟨r42, g42, hq, h⟩ := bd2_t h
    refine x_goi hC hw (x_runV hC hw (c_X5_fail (Γ := Γ) (l := l) hC.2.2.2.2 hq) (cwV 1 hC.t gX5_remembers_X5_fail rfl rfl rfl (by decide +kernel) ⟨Nat.le_of_ble_eq_true rfl, Nat.le_of_ble_eq_true rfl⟩) (As := [.int ((1 : Int32))]) (by decide) (k_E5 _ _ _) rfl rfl rfl hl.1 (Nat.le_of_ble_eq_true rfl) dX5_remembers_42 ⟨by decide, by decide⟩) (fun H locs hw => ?_)
    obtain ⟨rfl, rfl⟩ := sm2 h
    exact x_iret hC hw hr hlocks (by decide) (by decide) dX5_remembers_45
  · have h := it_f h hc
    refine lv_aload_n hC.x hC.b dX5_remembers_13 rfl (lv_at hl 0 rfl) ?_
    refine lv_iload_n hC.x hC.b dX5_remembers_14 rfl (lv_at hl 2 rfl) ?_
    obtain ⟨r15, g15, hq, h⟩ := bd2_t h
    refine x_goi hC hw (x_runV hC hw (c_X5_isCord (Γ := Γ) (l := l) hC.2.2.2.2 hq) (cwV 1 hC.t gX5_remembers_X5_isCord rfl rfl rfl (by decide +kernel) ⟨Nat.le_of_ble_eq_true rfl, Nat.le_of_ble_eq_true rfl⟩) (As := [.int (x2)]) (by decide) (k_E5 _ _ _) rfl rfl rfl hl.1 (Nat.le_of_ble_eq_true rfl) dX5_remembers_15 ⟨by decide, by decide⟩) (fun H locs hw => ?_)
    refine lv_if_eq (tgt := 40) hC.x hC.b dX5_remembers_18 (by decide) (fun hc => ?_) (fun hc => ?_)
    · have h := it_t h hc
      refine lv_aload_n hC.x hC.b dX5_remembers_40 rfl (lv_at hl 0 rfl) ?_
      refine lv_iconst (v := (1 : Int32)) hC.x hC.b dX5_remembers_41 (by decide) ?_
      obtain ⟨r42, g42, hq, h⟩ := bd2_t h
      refine x_goi hC hw (x_runV hC hw (c_X5_fail (Γ := Γ) (l := l) hC.2.2.2.2 hq) (cwV 1 hC.t gX5_remembers_X5_fail rfl rfl rfl (by decide +kernel) ⟨Nat.le_of_ble_eq_true rfl, Nat.le_of_ble_eq_true rfl⟩) (As := [.int ((1 : Int32))]) (by decide) (k_E5 _ _ _) rfl rfl rfl hl.1 (Nat.le_of_ble_eq_true rfl) dX5_remembers_42 ⟨by decide, by decide⟩) (fun H locs hw => ?_)
      obtain ⟨rfl, rfl⟩ := sm2 h
      exact x_iret hC hw hr hlocks (by decide) (by decide) dX5_remembers_45
    · have h := it_f h hc
      refine lv_iload_n hC.x hC.b dX5_remembers_21 rfl (lv_at hl 3 rfl) ?_
      refine lv_iconst (v := (0 : Int32)) hC.x hC.b dX5_remembers_22 (by decide) ?_
      refine lv_iconst (v := (2 : Int32)) hC.x hC.b dX5_remembers_23 (by decide) ?_
      obtain ⟨r24, g24, hq, h⟩ := bd2_t h
      refine x_goi hC hw (x_runS hC hw (c_X5_isIn (Γ := Γ) (l := l) hC.2.2.2.2 hq) (va_cwS 3 hC.t gX5_remembers_X5_isIn rfl rfl rfl (by decide +kernel) ⟨Nat.le_of_ble_eq_true rfl, Nat.le_of_ble_eq_true rfl⟩) (As := [.int (x3), .int ((0 : Int32)), .int ((2 : Int32))]) rfl hl.1 (Nat.le_of_ble_eq_true rfl) dX5_remembers_24 ⟨by decide, by decide⟩) (fun H locs hw => ?_)
      refine lv_if_eq (tgt := 40) hC.x hC.b dX5_remembers_27 (by decide) (fun hc => ?_) (fun hc => ?_)
      · have h := it_t h hc
        refine lv_aload_n hC.x hC.b dX5_remembers_40 rfl (lv_at hl 0 rfl) ?_
        refine lv_iconst (v := (1 : Int32)) hC.x hC.b dX5_remembers_41 (by decide) ?_
        obtain ⟨r42, g42, hq, h⟩ := bd2_t h
        refine x_goi hC hw (x_runV hC hw (c_X5_fail (Γ := Γ) (l := l) hC.2.2.2.2 hq) (cwV 1 hC.t gX5_remembers_X5_fail rfl rfl rfl (by decide +kernel) ⟨Nat.le_of_ble_eq_true rfl, Nat.le_of_ble_eq_true rfl⟩) (As := [.int ((1 : Int32))]) (by decide) (k_E5 _ _ _) rfl rfl rfl hl.1 (Nat.le_of_ble_eq_true rfl) dX5_remembers_42 ⟨by decide, by decide⟩) (fun H locs hw => ?_)
        obtain ⟨rfl, rfl⟩ := sm2 h
        exact x_iret hC hw hr hlocks (by decide) (by decide) dX5_remembers_45
      · have h := it_f h hc
        refine lv_aload_n hC.x hC.b dX5_remembers_30 rfl (lv_at hl 0 rfl) ?_
        refine lv_iload_n hC.x hC.b dX5_remembers_31 rfl (lv_at hl 1 rfl) ?_
        refine lv_iload_n hC.x hC.b dX5_remembers_32 rfl (lv_at hl 2 rfl) ?_
        refine lv_iload_n hC.x hC.b dX5_remembers_33 rfl (lv_at hl 3 rfl) ?_
        obtain ⟨r34, g34, hq, h⟩ := bd2_t h
        refine x_goi hC hw (x_runV hC hw (c_X5_remembered (Γ := Γ) (l := l) hC.2.2.2.2 hq) (cwV 3 hC.t gX5_remembers_X5_remembered rfl rfl rfl (by decide +kernel) ⟨Nat.le_of_ble_eq_true rfl, Nat.le_of_ble_eq_true rfl⟩) (As := [.int (x1), .int (x2), .int (x3)]) (by decide) (k_E5 _ _ _) rfl rfl rfl hl.1 (Nat.le_of_ble_eq_true rfl) dX5_remembers_34 ⟨by decide, by decide⟩) (fun H locs hw => ?_)
        refine lv_goto (tgt := 45) hC.x hC.b dX5_remembers_37 (by decide) ?_
        obtain ⟨rfl, rfl⟩ := sm2 h
        exact x_iret hC hw hr hlocks (by decide) (by decide) dX5_remembers_45
abbrev rm_X5_trust : Room := { frames := 2, cells := 0, slots := 0, locals := 43 }
theorem in_X5_trust_X5 : ∀ w ∈ wsX50, w ∈ wsX5_trust := fun _ h => List.mem_cons_of_mem _ (List.mem_append_right _ (h))
set_option maxRecDepth 20000 in
theorem lk_X5_trust_f46 : Cond.fieldLink RX5 46 "KnotArchiveModel" "thrown" "I" ∈ wsX5_trust := by decide +kernel
set_option maxRecDepth 20000 in
theorem lk_X5_trust_f22 : Cond.fieldLink RX5 22 "KnotArchiveModel" "trust" "[I" ∈ wsX5_trust := by decide +kernel
set_option maxRecDepth 100000 in
set_option maxHeartbeats 4000000 in
theorem c_X5_trust {Γ : k_Pm} {l : Launch} (hl0 : l.stackTraces = false) {x1 : Int32}  {g : Gt} {r : Int32} {g2 : Gt} (h : f_X5_trust x1 g = some (r, g2)) : k_CI Γ l yX5_trust wsX5_trust rm_X5_trust [.ref (k_ad Γ 5 (0)), .int (x1)] g r g2 := by
  intro sz
  refine Met.ofW (cc := cX5_trust) (maxL := 2) (ret := (some .int)) (by decide) rfl ?_
  intro p e s m args below meth c s₁ B hml hv
  obtain ⟨rfl, rfl, hP, hKS⟩ := hv
  have hr := B.returns
  have hlocks := B.notSynchronized
  have hC : k_C Γ (k_A Γ s.heap.size) p l s m _ c cX5_trust 2 wsX5_trust RX5 := k_C.of ⟨B.exec, B.bytes, hml, findClass_of_methodNamed B.named, atoms_spec (ws := wsX5_trust) B.pre⟩ hKS hl0
  have hw : k_St Γ (k_A Γ s.heap.size) s [] g s.heap [] := k_St.of hKS hP
  have hl := lv_entry ([.ref (k_ad Γ 5 (0)), .int (x1)] : List Value) (n := 2) (Nat.le_of_ble_eq_true rfl)
  rw [lg_entry_eq]
  generalize (lg_sl ([.ref (k_ad Γ 5 (0)), .int (x1)] : List Value) ++ List.replicate (2 - (lg_sl ([.ref (k_ad Γ 5 (0)), .int (x1)] : List Value)).length) Slot.unset).toArray = ls at hl ⊢
  have hl : lv_has ls 2 [(0, .ref (k_ad Γ 5 (0))), (1, .int (x1))] := hl
  change W p l e rm_X5_trust _ _ _ _ _ _ _ _ _ _ _ _
  unfold f_X5_trust at h
  refine lv_aload_n hC.x hC.b dX5_trust_0 rfl (lv_at hl 0 rfl) ?_
  refine lv_iconst (v := (0 : Int32)) hC.x hC.b dX5_trust_1 (by decide) ?_
  refine x_puti hC hw (k := 0) (T := TX5) (by decide) (k_E5 _ _ _) in_X5_trust_X5 rfl (by decide) lk_X5_trust_f46 rfl tyX5 tyX5_ok nmX5 rfl (by decide +kernel) (Nat.le_of_ble_eq_true rfl) (by rw [k_E5]; rfl) dX5_trust_2 (fun H locs hw => ?_)
  refine lv_aload_n hC.x hC.b dX5_trust_5 rfl (lv_at hl 0 rfl) ?_
  refine lv_iload_n hC.x hC.b dX5_trust_6 rfl (lv_at hl 1 rfl) ?_
  obtain ⟨r7, g7, hq, h⟩ := bd2_t h
  refine x_goi hC hw (x_runV hC hw (c_X5_isWitness (Γ := Γ) (l := l) hC.2.2.2.2 hq) (cwV 1 hC.t gX5_trust_X5_isWitness rfl rfl rfl (by decide +kernel) ⟨Nat.le_of_ble_eq_true rfl, Nat.le_of_ble_eq_true rfl⟩) (As := [.int (x1)]) (by decide) (k_E5 _ _ _) rfl rfl rfl hl.1 (Nat.le_of_ble_eq_true rfl) dX5_trust_7 ⟨by decide, by decide⟩) (fun H locs hw => ?_)
  refine lv_if_eq (tgt := 22) hC.x hC.b dX5_trust_10 (by decide) (fun hc => ?_) (fun hc => ?_)
  · have h := it_t h hc
    refine lv_aload_n hC.x hC.b dX5_trust_22 rfl (lv_at hl 0 rfl) ?_
    refine lv_iconst (v := (1 : Int32)) hC.x hC.b dX5_trust_23 (by decide) ?_
    obtain ⟨r24, g24, hq, h⟩ := bd2_t h
    refine x_goi hC hw (x_runV hC hw (c_X5_fail (Γ := Γ) (l := l) hC.2.2.2.2 hq) (cwV 1 hC.t gX5_trust_X5_fail rfl rfl rfl (by decide +kernel) ⟨Nat.le_of_ble_eq_true rfl, Nat.le_of_ble_eq_true rfl⟩) (As := [.int ((1 : Int32))]) (by decide) (k_E5 _ _ _) rfl rfl rfl hl.1 (Nat.le_of_ble_eq_true rfl) dX5_trust_24 ⟨by decide, by decide⟩) (fun H locs hw => ?_)
    obtain ⟨rfl, rfl⟩ := sm2 h
    exact x_iret hC hw hr hlocks (by decide) (by decide) dX5_trust_27
  · have h := it_f h hc
    refine lv_aload_n hC.x hC.b dX5_trust_13 rfl (lv_at hl 0 rfl) ?_
    refine x_get hC hw (k := 8) (T := TX5) (by decide) (k_E5 _ _ _) in_X5_trust_X5 rfl (by decide) lk_X5_trust_f22 rfl rfl dX5_trust_14 ?_
    refine lv_iload_n hC.x hC.b dX5_trust_17 rfl (lv_at hl 1 rfl) ?_
    obtain ⟨hg1, h⟩ := gd_t h
    refine x_iald hC hw rfl (by decide) hg1 dX5_trust_18 ?_
    refine lv_goto (tgt := 27) hC.x hC.b dX5_trust_19 (by decide) ?_
    obtain ⟨rfl, rfl⟩ := sm2 h
    exact x_iret hC hw hr hlocks (by decide) (by decide) dX5_trust_27
abbrev rm_X5_behind : Room := { frames := 1, cells := 0, slots := 0, locals := 22 }
theorem in_X5_behind_X5 : ∀ w ∈ wsX50, w ∈ wsX5_behind := fun _ h => List.mem_cons_of_mem _ (List.mem_append_right _ (h))
set_option maxRecDepth 20000 in
theorem lk_X5_behind_f57 : Cond.fieldLink RX5 57 "KnotArchiveModel" "witnesses" "I" ∈ wsX5_behind := by decide +kernel
set_option maxRecDepth 20000 in
theorem lk_X5_behind_f25 : Cond.fieldLink RX5 25 "KnotArchiveModel" "read" "[I" ∈ wsX5_behind := by decide +kernel
set_option maxRecDepth 20000 in
theorem lk_X5_behind_f28 : Cond.fieldLink RX5 28 "KnotArchiveModel" "years" "[I" ∈ wsX5_behind := by decide +kernel
set_option maxRecDepth 20000 in
theorem lk_X5_behind_m92 : Cond.methodLink RX5 92 Lib.Math.max.name ∈ wsX5_behind := by decide +kernel
set_option maxRecDepth 20000 in
theorem lk_X5_behind_s92 : Cond.static Lib.Math.max.name ∈ wsX5_behind := by decide +kernel
set_option maxRecDepth 20000 in
theorem lk_X5_behind_imath : Cond.initialized "java/lang/Math" ∈ wsX5_behind := by decide +kernel
set_option maxRecDepth 20000 in
theorem lk_X5_behind_e92 : Cond.code Lib.Math.max.name Lib.Math.max.code 2 (some .int) ∈ wsX5_behind := by decide +kernel
set_option maxRecDepth 20000 in
theorem lk_X5_behind_f22 : Cond.fieldLink RX5 22 "KnotArchiveModel" "trust" "[I" ∈ wsX5_behind := by decide +kernel
set_option maxRecDepth 100000 in
set_option maxHeartbeats 4000000 in
theorem w_X5_behind_6 {Γ : k_Pm} {A0 : Nat → Prop} {p : Program} {l : Launch} {e : Env} {s : State} {m : MethodId} {args : Array Value} {below : List Frame} {meth : Method} {c : Code} {cells slots : Nat} {Q : State → Prop} {tmp : va_W} {c1 : Int32} {c2 : Int32} {c3 : Int32} (hC : k_C Γ A0 p l s m args c cX5_behind 6 wsX5_behind RX5) (hcs : cells ≤ rm_X5_behind.cells ∧ slots ≤ rm_X5_behind.slots) : ∀ (n : Nat) (v4 : Int32) (v5 : Int32) (g : Gt) (w4 : Int32) (w5 : Int32) (g2 : Gt), f_X5_behind_6 c1 c2 c3 n v4 v5 g = some (w4, w5, g2) → ∀ (H : Heap) (locs : List Loc) (ls : Array Slot), k_St Γ A0 s tmp g H locs → lv_has ls 6 [(5, .int (v5)), (4, .int (v4)), (0, .ref (k_ad Γ 5 (0))), (1, .int (c1)), (2, .int (c2)), (3, .int (c3))] → (∀ (H1 : Heap) (locs1 : List Loc) (ls1 : Array Slot), k_St Γ A0 s tmp g2 H1 locs1 → lv_has ls1 6 [(5, .int (w5)), (4, .int (w4)), (0, .ref (k_ad Γ 5 (0))), (1, .int (c1)), (2, .int (c2)), (3, .int (c3))] → W p l e rm_X5_behind s m args below meth c H1 locs1 cells slots Q (F0 m 86 ls1 [])) → W p l e rm_X5_behind s m args below meth c H locs cells slots Q (F0 m 6 ls []) := by
  intro n
  induction n with
  | zero => intro v4 v5 g w4 w5 g2 h; rw [f_X5_behind_6] at h; cases h
  | succ n ih =>
    intro v4 v5 g w4 w5 g2 h H locs ls hw hl kk
    rw [f_X5_behind_6] at h
    refine lv_iload hC.x hC.b dX5_behind_6 (lv_at hl 0 rfl) ?_
    refine lv_aload_n hC.x hC.b dX5_behind_8 rfl (lv_at hl 2 rfl) ?_
    refine x_get hC hw (k := 2) (T := TX5) (by decide) (k_E5 _ _ _) in_X5_behind_X5 rfl (by decide) lk_X5_behind_f57 rfl rfl dX5_behind_9 ?_
    refine lv_icmp_ge (tgt := 86) hC.x hC.b dX5_behind_12 (by decide) (fun hc => ?_) (fun hc => ?_)
    · have h := it_t h hc
      obtain ⟨rfl, rfl, rfl⟩ := sm3 h
      exact kk _ _ _ hw (lv_sub hl [0, 1, 2, 3, 4, 5] rfl)
    · have h := it_f h hc
      refine lv_aload_n hC.x hC.b dX5_behind_15 rfl (lv_at hl 2 rfl) ?_
      refine lv_iload hC.x hC.b dX5_behind_16 (lv_at hl 0 rfl) ?_
      refine lv_iload_n hC.x hC.b dX5_behind_18 rfl (lv_at hl 3 rfl) ?_
      obtain ⟨r19, g19, hq, h⟩ := bd2_t h
      refine x_goi hC hw (x_runV hC hw (c_X5_knows (Γ := Γ) (l := l) hC.2.2.2.2 hq) (cwV 2 hC.t gX5_behind_X5_knows rfl rfl rfl (by decide +kernel) ⟨Nat.le_of_ble_eq_true rfl, Nat.le_of_ble_eq_true rfl⟩) (As := [.int (v5), .int (c1)]) (by decide) (k_E5 _ _ _) rfl rfl rfl hl.1 (Nat.le_of_ble_eq_true rfl) dX5_behind_19 hcs) (fun H locs hw => ?_)
      refine lv_if_eq (tgt := 80) hC.x hC.b dX5_behind_22 (by decide) (fun hc => ?_) (fun hc => ?_)
      · have h := it_t h hc
        refine lv_iinc (v := v5 + (1 : Int32)) (lv' := [(5, .int (v5 + (1 : Int32))), (4, .int (v4)), (0, .ref (k_ad Γ 5 (0))), (1, .int (c1)), (2, .int (c2)), (3, .int (c3))]) hC.x hC.b dX5_behind_80 hl (k := 0) rfl rfl (by decide) rfl (fun ls hl => ?_)
        refine lv_goto (tgt := 6) hC.x hC.b dX5_behind_83 (by decide) ?_
        exact ih _ _ _ _ _ _ h _ _ _ hw (lv_sub hl [0, 1, 2, 3, 4, 5] rfl) kk
      · have h := it_f h hc
        refine lv_aload_n hC.x hC.b dX5_behind_25 rfl (lv_at hl 2 rfl) ?_
        refine x_get hC hw (k := 9) (T := TX5) (by decide) (k_E5 _ _ _) in_X5_behind_X5 rfl (by decide) lk_X5_behind_f25 rfl rfl dX5_behind_26 ?_
        refine lv_bipush (v := (16 : Int32)) hC.x hC.b dX5_behind_29 (by decide) ?_
        refine lv_iload hC.x hC.b dX5_behind_31 (lv_at hl 0 rfl) ?_
        refine lv_imul hC.x hC.b dX5_behind_33 ?_
        refine lv_iload_n hC.x hC.b dX5_behind_34 rfl (lv_at hl 3 rfl) ?_
        refine lv_iadd hC.x hC.b dX5_behind_35 ?_
        obtain ⟨hg1, h⟩ := gd_t h
        refine x_iald hC hw rfl (by decide) hg1 dX5_behind_36 ?_
        refine lv_iload_n hC.x hC.b dX5_behind_37 rfl (lv_at hl 4 rfl) ?_
        refine lv_icmp_eq (tgt := 44) hC.x hC.b dX5_behind_38 (by decide) (fun hc => ?_) (fun hc => ?_)
        · have h := it_t h hc
          refine lv_iload_n hC.x hC.b dX5_behind_44 rfl (lv_at hl 5 rfl) ?_
          refine lv_if_eq (tgt := 61) hC.x hC.b dX5_behind_45 (by decide) (fun hc => ?_) (fun hc => ?_)
          · have h := it_t h hc
            refine lv_iload hC.x hC.b dX5_behind_61 (lv_at hl 1 rfl) ?_
            refine lv_aload_n hC.x hC.b dX5_behind_63 rfl (lv_at hl 2 rfl) ?_
            refine x_get hC hw (k := 10) (T := TX5) (by decide) (k_E5 _ _ _) in_X5_behind_X5 rfl (by decide) lk_X5_behind_f28 rfl rfl dX5_behind_64 ?_
            refine lv_bipush (v := (16 : Int32)) hC.x hC.b dX5_behind_67 (by decide) ?_
            refine lv_iload hC.x hC.b dX5_behind_69 (lv_at hl 0 rfl) ?_
            refine lv_imul hC.x hC.b dX5_behind_71 ?_
            refine lv_iload_n hC.x hC.b dX5_behind_72 rfl (lv_at hl 3 rfl) ?_
            refine lv_iadd hC.x hC.b dX5_behind_73 ?_
            obtain ⟨hg2, h⟩ := gd_t h
            refine x_iald hC hw rfl (by decide) hg2 dX5_behind_74 ?_
            refine va_mmax hC.x hC.b (hC.n.trans hl.1.symm) hC.o (hC.t _ lk_X5_behind_m92) (hC.t _ lk_X5_behind_s92) (hC.t _ lk_X5_behind_imath) (hC.t _ lk_X5_behind_e92) (Nat.le_of_ble_eq_true rfl) (Nat.le_of_ble_eq_true rfl) hcs.1 hcs.2 dX5_behind_75 ?_
            refine lv_istore (lv' := [(4, .int (k_max v4 (g19 36 0 ((((16 : Int32) * v5) + c1).toNatClampNeg)))), (5, .int (v5)), (0, .ref (k_ad Γ 5 (0))), (1, .int (c1)), (2, .int (c2)), (3, .int (c3))]) hC.x hC.b dX5_behind_78 hl (by decide) rfl (fun ls hl => ?_)
            refine lv_iinc (v := v5 + (1 : Int32)) (lv' := [(5, .int (v5 + (1 : Int32))), (4, .int (k_max v4 (g19 36 0 ((((16 : Int32) * v5) + c1).toNatClampNeg)))), (0, .ref (k_ad Γ 5 (0))), (1, .int (c1)), (2, .int (c2)), (3, .int (c3))]) hC.x hC.b dX5_behind_80 hl (k := 1) rfl rfl (by decide) rfl (fun ls hl => ?_)
            refine lv_goto (tgt := 6) hC.x hC.b dX5_behind_83 (by decide) ?_
            exact ih _ _ _ _ _ _ h _ _ _ hw (lv_sub hl [0, 1, 2, 3, 4, 5] rfl) kk
          · have h := it_f h hc
            refine lv_iload hC.x hC.b dX5_behind_48 (lv_at hl 1 rfl) ?_
            refine lv_aload_n hC.x hC.b dX5_behind_50 rfl (lv_at hl 2 rfl) ?_
            refine x_get hC hw (k := 8) (T := TX5) (by decide) (k_E5 _ _ _) in_X5_behind_X5 rfl (by decide) lk_X5_behind_f22 rfl rfl dX5_behind_51 ?_
            refine lv_iload hC.x hC.b dX5_behind_54 (lv_at hl 0 rfl) ?_
            obtain ⟨hg3, h⟩ := gd_t h
            refine x_iald hC hw rfl (by decide) hg3 dX5_behind_56 ?_
            refine lv_iadd hC.x hC.b dX5_behind_57 ?_
            refine lv_goto (tgt := 78) hC.x hC.b dX5_behind_58 (by decide) ?_
            refine lv_istore (lv' := [(4, .int (v4 + (g19 34 0 v5.toNatClampNeg))), (5, .int (v5)), (0, .ref (k_ad Γ 5 (0))), (1, .int (c1)), (2, .int (c2)), (3, .int (c3))]) hC.x hC.b dX5_behind_78 hl (by decide) rfl (fun ls hl => ?_)
            refine lv_iinc (v := v5 + (1 : Int32)) (lv' := [(5, .int (v5 + (1 : Int32))), (4, .int (v4 + (g19 34 0 v5.toNatClampNeg))), (0, .ref (k_ad Γ 5 (0))), (1, .int (c1)), (2, .int (c2)), (3, .int (c3))]) hC.x hC.b dX5_behind_80 hl (k := 1) rfl rfl (by decide) rfl (fun ls hl => ?_)
            refine lv_goto (tgt := 6) hC.x hC.b dX5_behind_83 (by decide) ?_
            exact ih _ _ _ _ _ _ h _ _ _ hw (lv_sub hl [0, 1, 2, 3, 4, 5] rfl) kk
        · have h := it_f h hc
          refine lv_goto (tgt := 80) hC.x hC.b dX5_behind_41 (by decide) ?_
          refine lv_iinc (v := v5 + (1 : Int32)) (lv' := [(5, .int (v5 + (1 : Int32))), (4, .int (v4)), (0, .ref (k_ad Γ 5 (0))), (1, .int (c1)), (2, .int (c2)), (3, .int (c3))]) hC.x hC.b dX5_behind_80 hl (k := 0) rfl rfl (by decide) rfl (fun ls hl => ?_)
          refine lv_goto (tgt := 6) hC.x hC.b dX5_behind_83 (by decide) ?_
          exact ih _ _ _ _ _ _ h _ _ _ hw (lv_sub hl [0, 1, 2, 3, 4, 5] rfl) kk

set_option maxRecDepth 100000 in
set_option maxHeartbeats 4000000 in
theorem c_X5_behind {Γ : k_Pm} {l : Launch} (hl0 : l.stackTraces = false) {x1 : Int32} {x2 : Int32} {x3 : Int32}  {g : Gt} {r : Int32} {g2 : Gt} (h : f_X5_behind x1 x2 x3 g = some (r, g2)) : k_CI Γ l yX5_behind wsX5_behind rm_X5_behind [.ref (k_ad Γ 5 (0)), .int (x1), .int (x2), .int (x3)] g r g2 := by
  intro sz
  refine Met.ofW (cc := cX5_behind) (maxL := 6) (ret := (some .int)) (by decide) rfl ?_
  intro p e s m args below meth c s₁ B hml hv
  obtain ⟨rfl, rfl, hP, hKS⟩ := hv
  have hr := B.returns
  have hlocks := B.notSynchronized
  have hC : k_C Γ (k_A Γ s.heap.size) p l s m _ c cX5_behind 6 wsX5_behind RX5 := k_C.of ⟨B.exec, B.bytes, hml, findClass_of_methodNamed B.named, atoms_spec (ws := wsX5_behind) B.pre⟩ hKS hl0
  have hw : k_St Γ (k_A Γ s.heap.size) s [] g s.heap [] := k_St.of hKS hP
  have hl := lv_entry ([.ref (k_ad Γ 5 (0)), .int (x1), .int (x2), .int (x3)] : List Value) (n := 6) (Nat.le_of_ble_eq_true rfl)
  rw [lg_entry_eq]
  generalize (lg_sl ([.ref (k_ad Γ 5 (0)), .int (x1), .int (x2), .int (x3)] : List Value) ++ List.replicate (6 - (lg_sl ([.ref (k_ad Γ 5 (0)), .int (x1), .int (x2), .int (x3)] : List Value)).length) Slot.unset).toArray = ls at hl ⊢
  have hl : lv_has ls 6 [(0, .ref (k_ad Γ 5 (0))), (1, .int (x1)), (2, .int (x2)), (3, .int (x3))] := hl
  change W p l e rm_X5_behind _ _ _ _ _ _ _ _ _ _ _ _
  unfold f_X5_behind at h
  refine lv_iconst (v := (0 : Int32)) hC.x hC.b dX5_behind_0 (by decide) ?_
  refine lv_istore (lv' := [(4, .int ((0 : Int32))), (0, .ref (k_ad Γ 5 (0))), (1, .int (x1)), (2, .int (x2)), (3, .int (x3))]) hC.x hC.b dX5_behind_1 hl (by decide) rfl (fun ls hl => ?_)
  refine lv_iconst (v := (0 : Int32)) hC.x hC.b dX5_behind_3 (by decide) ?_
  refine lv_istore (lv' := [(5, .int ((0 : Int32))), (4, .int ((0 : Int32))), (0, .ref (k_ad Γ 5 (0))), (1, .int (x1)), (2, .int (x2)), (3, .int (x3))]) hC.x hC.b dX5_behind_4 hl (by decide) rfl (fun ls hl => ?_)
  obtain ⟨w6_4, w6_5, g6, hq, h⟩ := bd3_t h
  refine w_X5_behind_6 hC ⟨by decide, by decide⟩  k_N _ _ _ _ _ _ hq _ _ _ hw (lv_sub hl [0, 1, 2, 3, 4, 5] rfl) (fun H locs ls hw hl => ?_)
  refine lv_iload hC.x hC.b dX5_behind_86 (lv_at hl 1 rfl) ?_
  obtain ⟨rfl, rfl⟩ := sm2 h
  exact x_iret hC hw hr hlocks (by decide) (by decide) dX5_behind_88
abbrev rm_X5_isBetter : Room := { frames := 2, cells := 0, slots := 0, locals := 47 }
set_option maxRecDepth 100000 in
set_option maxHeartbeats 4000000 in
theorem c_X5_isBetter {Γ : k_Pm} {l : Launch} (hl0 : l.stackTraces = false) {x1 : Int32} {x2 : Int32} {x3 : Int32}  {g : Gt} {r : Int32} {g2 : Gt} (h : f_X5_isBetter x1 x2 x3 g = some (r, g2)) : k_CI Γ l yX5_isBetter wsX5_isBetter rm_X5_isBetter [.ref (k_ad Γ 5 (0)), .int (x1), .int (x2), .int (x3)] g r g2 := by
  intro sz
  refine Met.ofW (cc := cX5_isBetter) (maxL := 5) (ret := (some .boolean)) (by decide) rfl ?_
  intro p e s m args below meth c s₁ B hml hv
  obtain ⟨rfl, rfl, hP, hKS⟩ := hv
  have hr := B.returns
  have hlocks := B.notSynchronized
  have hC : k_C Γ (k_A Γ s.heap.size) p l s m _ c cX5_isBetter 5 wsX5_isBetter RX5 := k_C.of ⟨B.exec, B.bytes, hml, findClass_of_methodNamed B.named, atoms_spec (ws := wsX5_isBetter) B.pre⟩ hKS hl0
  have hw : k_St Γ (k_A Γ s.heap.size) s [] g s.heap [] := k_St.of hKS hP
  have hl := lv_entry ([.ref (k_ad Γ 5 (0)), .int (x1), .int (x2), .int (x3)] : List Value) (n := 5) (Nat.le_of_ble_eq_true rfl)
  rw [lg_entry_eq]
  generalize (lg_sl ([.ref (k_ad Γ 5 (0)), .int (x1), .int (x2), .int (x3)] : List Value) ++ List.replicate (5 - (lg_sl ([.ref (k_ad Γ 5 (0)), .int (x1), .int (x2), .int (x3)] : List Value)).length) Slot.unset).toArray = ls at hl ⊢
  have hl : lv_has ls 5 [(0, .ref (k_ad Γ 5 (0))), (1, .int (x1)), (2, .int (x2)), (3, .int (x3))] := hl
  change W p l e rm_X5_isBetter _ _ _ _ _ _ _ _ _ _ _ _
  unfold f_X5_isBetter at h
  refine lv_aload_n hC.x hC.b dX5_isBetter_0 rfl (lv_at hl 0 rfl) ?_
  refine lv_iload_n hC.x hC.b dX5_isBetter_1 rfl (lv_at hl 1 rfl) ?_
  refine lv_iload_n hC.x hC.b dX5_isBetter_2 rfl (lv_at hl 2 rfl) ?_
  refine lv_iconst (v := (1 : Int32)) hC.x hC.b dX5_isBetter_3 (by decide) ?_
  obtain ⟨r4, g4, hq, h⟩ := bd2_t h
  refine x_goi hC hw (x_runV hC hw (c_X5_behind (Γ := Γ) (l := l) hC.2.2.2.2 hq) (cwV 3 hC.t gX5_isBetter_X5_behind rfl rfl rfl (by decide +kernel) ⟨Nat.le_of_ble_eq_true rfl, Nat.le_of_ble_eq_true rfl⟩) (As := [.int (x1), .int (x2), .int ((1 : Int32))]) (by decide) (k_E5 _ _ _) rfl rfl rfl hl.1 (Nat.le_of_ble_eq_true rfl) dX5_isBetter_4 ⟨by decide, by decide⟩) (fun H locs hw => ?_)
  refine lv_aload_n hC.x hC.b dX5_isBetter_7 rfl (lv_at hl 0 rfl) ?_
  refine lv_iload_n hC.x hC.b dX5_isBetter_8 rfl (lv_at hl 1 rfl) ?_
  refine lv_iload_n hC.x hC.b dX5_isBetter_9 rfl (lv_at hl 3 rfl) ?_
  refine lv_iconst (v := (1 : Int32)) hC.x hC.b dX5_isBetter_10 (by decide) ?_
  obtain ⟨r11, g11, hq, h⟩ := bd2_t h
  refine x_goi hC hw (x_runV hC hw (c_X5_behind (Γ := Γ) (l := l) hC.2.2.2.2 hq) (cwV 3 hC.t gX5_isBetter_X5_behind rfl rfl rfl (by decide +kernel) ⟨Nat.le_of_ble_eq_true rfl, Nat.le_of_ble_eq_true rfl⟩) (As := [.int (x1), .int (x3), .int ((1 : Int32))]) (by decide) (k_E5 _ _ _) rfl rfl rfl hl.1 (Nat.le_of_ble_eq_true rfl) dX5_isBetter_11 ⟨by decide, by decide⟩) (fun H locs hw => ?_)
  refine lv_isub hC.x hC.b dX5_isBetter_14 ?_
  refine lv_istore (lv' := [(4, .int (r4 - r11)), (0, .ref (k_ad Γ 5 (0))), (1, .int (x1)), (2, .int (x2)), (3, .int (x3))]) hC.x hC.b dX5_isBetter_15 hl (by decide) rfl (fun ls hl => ?_)
  refine lv_iload hC.x hC.b dX5_isBetter_17 (lv_at hl 0 rfl) ?_
  refine lv_if_ne (tgt := 39) hC.x hC.b dX5_isBetter_19 (by decide) (fun hc => ?_) (fun hc => ?_)
  · have h := it_f h hc
    refine lv_iload hC.x hC.b dX5_isBetter_39 (lv_at hl 0 rfl) ?_
    refine lv_if_gt (tgt := 54) hC.x hC.b dX5_isBetter_41 (by decide) (fun hc => ?_) (fun hc => ?_)
    · have h := it_t h hc
      refine lv_iconst (v := (1 : Int32)) hC.x hC.b dX5_isBetter_54 (by decide) ?_
      refine lv_goto (tgt := 59) hC.x hC.b dX5_isBetter_55 (by decide) ?_
      obtain ⟨rfl, rfl⟩ := sm2 h
      exact x_zret hC hw hr hlocks rfl (by decide) (by decide) dX5_isBetter_59
    · have h := it_f h hc
      refine lv_iload hC.x hC.b dX5_isBetter_44 (lv_at hl 0 rfl) ?_
      refine lv_if_ne (tgt := 58) hC.x hC.b dX5_isBetter_46 (by decide) (fun hc => ?_) (fun hc => ?_)
      · have h := it_f h hc
        refine lv_iconst (v := (0 : Int32)) hC.x hC.b dX5_isBetter_58 (by decide) ?_
        obtain ⟨rfl, rfl⟩ := sm2 h
        exact x_zret hC hw hr hlocks rfl (by decide) (by decide) dX5_isBetter_59
      · have h := it_t h hc
        refine lv_iload_n hC.x hC.b dX5_isBetter_49 rfl (lv_at hl 3 rfl) ?_
        refine lv_iload_n hC.x hC.b dX5_isBetter_50 rfl (lv_at hl 4 rfl) ?_
        refine lv_icmp_ge (tgt := 58) hC.x hC.b dX5_isBetter_51 (by decide) (fun hc => ?_) (fun hc => ?_)
        · have h := it_t h hc
          refine lv_iconst (v := (0 : Int32)) hC.x hC.b dX5_isBetter_58 (by decide) ?_
          obtain ⟨rfl, rfl⟩ := sm2 h
          exact x_zret hC hw hr hlocks rfl (by decide) (by decide) dX5_isBetter_59
        · have h := it_f h hc
          refine lv_iconst (v := (1 : Int32)) hC.x hC.b dX5_isBetter_54 (by decide) ?_
          refine lv_goto (tgt := 59) hC.x hC.b dX5_isBetter_55 (by decide) ?_
          obtain ⟨rfl, rfl⟩ := sm2 h
          exact x_zret hC hw hr hlocks rfl (by decide) (by decide) dX5_isBetter_59
  · have h := it_t h hc
    refine lv_aload_n hC.x hC.b dX5_isBetter_22 rfl (lv_at hl 1 rfl) ?_
    refine lv_iload_n hC.x hC.b dX5_isBetter_23 rfl (lv_at hl 2 rfl) ?_
    refine lv_iload_n hC.x hC.b dX5_isBetter_24 rfl (lv_at hl 3 rfl) ?_
    refine lv_iconst (v := (0 : Int32)) hC.x hC.b dX5_isBetter_25 (by decide) ?_
    obtain ⟨r26, g26, hq, h⟩ := bd2_t h
    refine x_goi hC hw (x_runV hC hw (c_X5_behind (Γ := Γ) (l := l) hC.2.2.2.2 hq) (cwV 3 hC.t gX5_isBetter_X5_behind rfl rfl rfl (by decide +kernel) ⟨Nat.le_of_ble_eq_true rfl, Nat.le_of_ble_eq_true rfl⟩) (As := [.int (x1), .int (x2), .int ((0 : Int32))]) (by decide) (k_E5 _ _ _) rfl rfl rfl hl.1 (Nat.le_of_ble_eq_true rfl) dX5_isBetter_26 ⟨by decide, by decide⟩) (fun H locs hw => ?_)
    refine lv_aload_n hC.x hC.b dX5_isBetter_29 rfl (lv_at hl 1 rfl) ?_
    refine lv_iload_n hC.x hC.b dX5_isBetter_30 rfl (lv_at hl 2 rfl) ?_
    refine lv_iload_n hC.x hC.b dX5_isBetter_31 rfl (lv_at hl 4 rfl) ?_
    refine lv_iconst (v := (0 : Int32)) hC.x hC.b dX5_isBetter_32 (by decide) ?_
    obtain ⟨r33, g33, hq, h⟩ := bd2_t h
    refine x_goi hC hw (x_runV hC hw (c_X5_behind (Γ := Γ) (l := l) hC.2.2.2.2 hq) (cwV 3 hC.t gX5_isBetter_X5_behind rfl rfl rfl (by decide +kernel) ⟨Nat.le_of_ble_eq_true rfl, Nat.le_of_ble_eq_true rfl⟩) (As := [.int (x1), .int (x3), .int ((0 : Int32))]) (by decide) (k_E5 _ _ _) rfl rfl rfl hl.1 (Nat.le_of_ble_eq_true rfl) dX5_isBetter_33 ⟨by decide, by decide⟩) (fun H locs hw => ?_)
    refine lv_isub hC.x hC.b dX5_isBetter_36 ?_
    refine lv_istore (lv' := [(4, .int (r26 - r33)), (0, .ref (k_ad Γ 5 (0))), (1, .int (x1)), (2, .int (x2)), (3, .int (x3))]) hC.x hC.b dX5_isBetter_37 hl (by decide) rfl (fun ls hl => ?_)
    refine lv_iload hC.x hC.b dX5_isBetter_39 (lv_at hl 0 rfl) ?_
    refine lv_if_gt (tgt := 54) hC.x hC.b dX5_isBetter_41 (by decide) (fun hc => ?_) (fun hc => ?_)
    · have h := it_t h hc
      refine lv_iconst (v := (1 : Int32)) hC.x hC.b dX5_isBetter_54 (by decide) ?_
      refine lv_goto (tgt := 59) hC.x hC.b dX5_isBetter_55 (by decide) ?_
      obtain ⟨rfl, rfl⟩ := sm2 h
      exact x_zret hC hw hr hlocks rfl (by decide) (by decide) dX5_isBetter_59
    · have h := it_f h hc
      refine lv_iload hC.x hC.b dX5_isBetter_44 (lv_at hl 0 rfl) ?_
      refine lv_if_ne (tgt := 58) hC.x hC.b dX5_isBetter_46 (by decide) (fun hc => ?_) (fun hc => ?_)
      · have h := it_f h hc
        refine lv_iconst (v := (0 : Int32)) hC.x hC.b dX5_isBetter_58 (by decide) ?_
        obtain ⟨rfl, rfl⟩ := sm2 h
        exact x_zret hC hw hr hlocks rfl (by decide) (by decide) dX5_isBetter_59
      · have h := it_t h hc
        refine lv_iload_n hC.x hC.b dX5_isBetter_49 rfl (lv_at hl 3 rfl) ?_
        refine lv_iload_n hC.x hC.b dX5_isBetter_50 rfl (lv_at hl 4 rfl) ?_
        refine lv_icmp_ge (tgt := 58) hC.x hC.b dX5_isBetter_51 (by decide) (fun hc => ?_) (fun hc => ?_)
        · have h := it_t h hc
          refine lv_iconst (v := (0 : Int32)) hC.x hC.b dX5_isBetter_58 (by decide) ?_
          obtain ⟨rfl, rfl⟩ := sm2 h
          exact x_zret hC hw hr hlocks rfl (by decide) (by decide) dX5_isBetter_59
        · have h := it_f h hc
          refine lv_iconst (v := (1 : Int32)) hC.x hC.b dX5_isBetter_54 (by decide) ?_
          refine lv_goto (tgt := 59) hC.x hC.b dX5_isBetter_55 (by decide) ?_
          obtain ⟨rfl, rfl⟩ := sm2 h
          exact x_zret hC hw hr hlocks rfl (by decide) (by decide) dX5_isBetter_59
abbrev rm_X5_dispute : Room := { frames := 3, cells := 0, slots := 0, locals := 71 }
theorem in_X5_dispute_X5 : ∀ w ∈ wsX50, w ∈ wsX5_dispute := fun _ h => List.mem_cons_of_mem _ (List.mem_append_right _ (h))
set_option maxRecDepth 20000 in
theorem lk_X5_dispute_f46 : Cond.fieldLink RX5 46 "KnotArchiveModel" "thrown" "I" ∈ wsX5_dispute := by decide +kernel
set_option maxRecDepth 20000 in
theorem lk_X5_dispute_f57 : Cond.fieldLink RX5 57 "KnotArchiveModel" "witnesses" "I" ∈ wsX5_dispute := by decide +kernel
set_option maxRecDepth 20000 in
theorem lk_X5_dispute_f25 : Cond.fieldLink RX5 25 "KnotArchiveModel" "read" "[I" ∈ wsX5_dispute := by decide +kernel
set_option maxRecDepth 20000 in
theorem lk_X5_dispute_f22 : Cond.fieldLink RX5 22 "KnotArchiveModel" "trust" "[I" ∈ wsX5_dispute := by decide +kernel
set_option maxRecDepth 20000 in
theorem lk_X5_dispute_m92 : Cond.methodLink RX5 92 Lib.Math.max.name ∈ wsX5_dispute := by decide +kernel
set_option maxRecDepth 20000 in
theorem lk_X5_dispute_s92 : Cond.static Lib.Math.max.name ∈ wsX5_dispute := by decide +kernel
set_option maxRecDepth 20000 in
theorem lk_X5_dispute_imath : Cond.initialized "java/lang/Math" ∈ wsX5_dispute := by decide +kernel
set_option maxRecDepth 20000 in
theorem lk_X5_dispute_e92 : Cond.code Lib.Math.max.name Lib.Math.max.code 2 (some .int) ∈ wsX5_dispute := by decide +kernel
set_option maxRecDepth 20000 in
theorem lk_X5_dispute_m123 : Cond.methodLink RX5 123 Lib.Math.min.name ∈ wsX5_dispute := by decide +kernel
set_option maxRecDepth 20000 in
theorem lk_X5_dispute_s123 : Cond.static Lib.Math.min.name ∈ wsX5_dispute := by decide +kernel
set_option maxRecDepth 20000 in
theorem lk_X5_dispute_e123 : Cond.code Lib.Math.min.name Lib.Math.min.code 2 (some .int) ∈ wsX5_dispute := by decide +kernel
set_option maxRecDepth 100000 in
set_option maxHeartbeats 4000000 in
theorem w_X5_dispute_23 {Γ : k_Pm} {A0 : Nat → Prop} {p : Program} {l : Launch} {e : Env} {s : State} {m : MethodId} {args : Array Value} {below : List Frame} {meth : Method} {c : Code} {cells slots : Nat} {Q : State → Prop} {tmp : va_W} {c1 : Int32} (hC : k_C Γ A0 p l s m args c cX5_dispute 5 wsX5_dispute RX5) (hcs : cells ≤ rm_X5_dispute.cells ∧ slots ≤ rm_X5_dispute.slots) : ∀ (n : Nat) (v2 : Int32) (v3 : Int32) (g : Gt) (w2 : Int32) (w3 : Int32) (g2 : Gt), f_X5_dispute_23 c1 n v2 v3 g = some (w2, w3, g2) → ∀ (H : Heap) (locs : List Loc) (ls : Array Slot), k_St Γ A0 s tmp g H locs → lv_has ls 5 [(3, .int (v3)), (2, .int (v2)), (0, .ref (k_ad Γ 5 (0))), (1, .int (c1))] → (∀ (H1 : Heap) (locs1 : List Loc) (ls1 : Array Slot), k_St Γ A0 s tmp g2 H1 locs1 → lv_has ls1 5 [(3, .int (w3)), (2, .int (w2)), (0, .ref (k_ad Γ 5 (0))), (1, .int (c1))] → W p l e rm_X5_dispute s m args below meth c H1 locs1 cells slots Q (F0 m 83 ls1 [])) → W p l e rm_X5_dispute s m args below meth c H locs cells slots Q (F0 m 23 ls []) := by
  intro n
  induction n with
  | zero => intro v2 v3 g w2 w3 g2 h; rw [f_X5_dispute_23] at h; cases h
  | succ n ih =>
    intro v2 v3 g w2 w3 g2 h H locs ls hw hl kk
    rw [f_X5_dispute_23] at h
    refine lv_iload_n hC.x hC.b dX5_dispute_23 rfl (lv_at hl 0 rfl) ?_
    refine lv_aload_n hC.x hC.b dX5_dispute_24 rfl (lv_at hl 2 rfl) ?_
    refine x_get hC hw (k := 2) (T := TX5) (by decide) (k_E5 _ _ _) in_X5_dispute_X5 rfl (by decide) lk_X5_dispute_f57 rfl rfl dX5_dispute_25 ?_
    refine lv_icmp_ge (tgt := 83) hC.x hC.b dX5_dispute_28 (by decide) (fun hc => ?_) (fun hc => ?_)
    · have h := it_t h hc
      obtain ⟨rfl, rfl, rfl⟩ := sm3 h
      exact kk _ _ _ hw (lv_sub hl [0, 1, 2, 3] rfl)
    · have h := it_f h hc
      refine lv_aload_n hC.x hC.b dX5_dispute_31 rfl (lv_at hl 2 rfl) ?_
      refine lv_iload_n hC.x hC.b dX5_dispute_32 rfl (lv_at hl 0 rfl) ?_
      refine lv_iload_n hC.x hC.b dX5_dispute_33 rfl (lv_at hl 3 rfl) ?_
      obtain ⟨r34, g34, hq, h⟩ := bd2_t h
      refine x_goi hC hw (x_runV hC hw (c_X5_knows (Γ := Γ) (l := l) hC.2.2.2.2 hq) (cwV 2 hC.t gX5_dispute_X5_knows rfl rfl rfl (by decide +kernel) ⟨Nat.le_of_ble_eq_true rfl, Nat.le_of_ble_eq_true rfl⟩) (As := [.int (v3), .int (c1)]) (by decide) (k_E5 _ _ _) rfl rfl rfl hl.1 (Nat.le_of_ble_eq_true rfl) dX5_dispute_34 hcs) (fun H locs hw => ?_)
      refine lv_if_eq (tgt := 77) hC.x hC.b dX5_dispute_37 (by decide) (fun hc => ?_) (fun hc => ?_)
      · have h := it_t h hc
        refine lv_iinc (v := v3 + (1 : Int32)) (lv' := [(3, .int (v3 + (1 : Int32))), (2, .int (v2)), (0, .ref (k_ad Γ 5 (0))), (1, .int (c1))]) hC.x hC.b dX5_dispute_77 hl (k := 0) rfl rfl (by decide) rfl (fun ls hl => ?_)
        refine lv_goto (tgt := 23) hC.x hC.b dX5_dispute_80 (by decide) ?_
        exact ih _ _ _ _ _ _ h _ _ _ hw (lv_sub hl [0, 1, 2, 3] rfl) kk
      · have h := it_f h hc
        refine lv_iload_n hC.x hC.b dX5_dispute_40 rfl (lv_at hl 1 rfl) ?_
        refine lv_iconst (v := (-1 : Int32)) hC.x hC.b dX5_dispute_41 (by decide) ?_
        refine lv_icmp_eq (tgt := 75) hC.x hC.b dX5_dispute_42 (by decide) (fun hc => ?_) (fun hc => ?_)
        · have h := it_t h hc
          refine lv_iload_n hC.x hC.b dX5_dispute_75 rfl (lv_at hl 0 rfl) ?_
          refine lv_istore_n (lv' := [(2, .int (v3)), (3, .int (v3)), (0, .ref (k_ad Γ 5 (0))), (1, .int (c1))]) hC.x hC.b dX5_dispute_76 rfl hl (by decide) rfl (fun ls hl => ?_)
          refine lv_iinc (v := v3 + (1 : Int32)) (lv' := [(3, .int (v3 + (1 : Int32))), (2, .int (v3)), (0, .ref (k_ad Γ 5 (0))), (1, .int (c1))]) hC.x hC.b dX5_dispute_77 hl (k := 1) rfl rfl (by decide) rfl (fun ls hl => ?_)
          refine lv_goto (tgt := 23) hC.x hC.b dX5_dispute_80 (by decide) ?_
          exact ih _ _ _ _ _ _ h _ _ _ hw (lv_sub hl [0, 1, 2, 3] rfl) kk
        · have h := it_f h hc
          refine lv_aload_n hC.x hC.b dX5_dispute_45 rfl (lv_at hl 2 rfl) ?_
          refine lv_iload_n hC.x hC.b dX5_dispute_46 rfl (lv_at hl 3 rfl) ?_
          refine lv_aload_n hC.x hC.b dX5_dispute_47 rfl (lv_at hl 2 rfl) ?_
          refine x_get hC hw (k := 9) (T := TX5) (by decide) (k_E5 _ _ _) in_X5_dispute_X5 rfl (by decide) lk_X5_dispute_f25 rfl rfl dX5_dispute_48 ?_
          refine lv_bipush (v := (16 : Int32)) hC.x hC.b dX5_dispute_51 (by decide) ?_
          refine lv_iload_n hC.x hC.b dX5_dispute_53 rfl (lv_at hl 0 rfl) ?_
          refine lv_imul hC.x hC.b dX5_dispute_54 ?_
          refine lv_iload_n hC.x hC.b dX5_dispute_55 rfl (lv_at hl 3 rfl) ?_
          refine lv_iadd hC.x hC.b dX5_dispute_56 ?_
          obtain ⟨hg1, h⟩ := gd_t h
          refine x_iald hC hw rfl (by decide) hg1 dX5_dispute_57 ?_
          refine lv_aload_n hC.x hC.b dX5_dispute_58 rfl (lv_at hl 2 rfl) ?_
          refine x_get hC hw (k := 9) (T := TX5) (by decide) (k_E5 _ _ _) in_X5_dispute_X5 rfl (by decide) lk_X5_dispute_f25 rfl rfl dX5_dispute_59 ?_
          refine lv_bipush (v := (16 : Int32)) hC.x hC.b dX5_dispute_62 (by decide) ?_
          refine lv_iload_n hC.x hC.b dX5_dispute_64 rfl (lv_at hl 1 rfl) ?_
          refine lv_imul hC.x hC.b dX5_dispute_65 ?_
          refine lv_iload_n hC.x hC.b dX5_dispute_66 rfl (lv_at hl 3 rfl) ?_
          refine lv_iadd hC.x hC.b dX5_dispute_67 ?_
          obtain ⟨hg2, h⟩ := gd_t h
          refine x_iald hC hw rfl (by decide) hg2 dX5_dispute_68 ?_
          obtain ⟨r69, g69, hq, h⟩ := bd2_t h
          refine x_goi hC hw (x_runV hC hw (c_X5_isBetter (Γ := Γ) (l := l) hC.2.2.2.2 hq) (cwV 3 hC.t gX5_dispute_X5_isBetter rfl rfl rfl (by decide +kernel) ⟨Nat.le_of_ble_eq_true rfl, Nat.le_of_ble_eq_true rfl⟩) (As := [.int (c1), .int (g34 35 0 ((((16 : Int32) * v3) + c1).toNatClampNeg)), .int (g34 35 0 ((((16 : Int32) * v2) + c1).toNatClampNeg))]) (by decide) (k_E5 _ _ _) rfl rfl rfl hl.1 (Nat.le_of_ble_eq_true rfl) dX5_dispute_69 hcs) (fun H locs hw => ?_)
          refine lv_if_eq (tgt := 77) hC.x hC.b dX5_dispute_72 (by decide) (fun hc => ?_) (fun hc => ?_)
          · have h := it_t h hc
            refine lv_iinc (v := v3 + (1 : Int32)) (lv' := [(3, .int (v3 + (1 : Int32))), (2, .int (v2)), (0, .ref (k_ad Γ 5 (0))), (1, .int (c1))]) hC.x hC.b dX5_dispute_77 hl (k := 0) rfl rfl (by decide) rfl (fun ls hl => ?_)
            refine lv_goto (tgt := 23) hC.x hC.b dX5_dispute_80 (by decide) ?_
            exact ih _ _ _ _ _ _ h _ _ _ hw (lv_sub hl [0, 1, 2, 3] rfl) kk
          · have h := it_f h hc
            refine lv_iload_n hC.x hC.b dX5_dispute_75 rfl (lv_at hl 0 rfl) ?_
            refine lv_istore_n (lv' := [(2, .int (v3)), (3, .int (v3)), (0, .ref (k_ad Γ 5 (0))), (1, .int (c1))]) hC.x hC.b dX5_dispute_76 rfl hl (by decide) rfl (fun ls hl => ?_)
            refine lv_iinc (v := v3 + (1 : Int32)) (lv' := [(3, .int (v3 + (1 : Int32))), (2, .int (v3)), (0, .ref (k_ad Γ 5 (0))), (1, .int (c1))]) hC.x hC.b dX5_dispute_77 hl (k := 1) rfl rfl (by decide) rfl (fun ls hl => ?_)
            refine lv_goto (tgt := 23) hC.x hC.b dX5_dispute_80 (by decide) ?_
            exact ih _ _ _ _ _ _ h _ _ _ hw (lv_sub hl [0, 1, 2, 3] rfl) kk

set_option maxRecDepth 100000 in
set_option maxHeartbeats 4000000 in
theorem w_X5_dispute_109 {Γ : k_Pm} {A0 : Nat → Prop} {p : Program} {l : Launch} {e : Env} {s : State} {m : MethodId} {args : Array Value} {below : List Frame} {meth : Method} {c : Code} {cells slots : Nat} {Q : State → Prop} {tmp : va_W} {c3 : Int32} {c2 : Int32} {c1 : Int32} (hC : k_C Γ A0 p l s m args c cX5_dispute 5 wsX5_dispute RX5) (hcs : cells ≤ rm_X5_dispute.cells ∧ slots ≤ rm_X5_dispute.slots) : ∀ (n : Nat) (v4 : Int32) (g : Gt) (w4 : Int32) (g2 : Gt), f_X5_dispute_109 c3 c2 c1 n v4 g = some (w4, g2) → ∀ (H : Heap) (locs : List Loc) (ls : Array Slot), k_St Γ A0 s tmp g H locs → lv_has ls 5 [(4, .int (v4)), (3, .int (c3)), (2, .int (c2)), (0, .ref (k_ad Γ 5 (0))), (1, .int (c1))] → (∀ (H1 : Heap) (locs1 : List Loc) (ls1 : Array Slot), k_St Γ A0 s tmp g2 H1 locs1 → lv_has ls1 5 [(4, .int (w4)), (3, .int (c3)), (2, .int (c2)), (0, .ref (k_ad Γ 5 (0))), (1, .int (c1))] → W p l e rm_X5_dispute s m args below meth c H1 locs1 cells slots Q (F0 m 187 ls1 [])) → W p l e rm_X5_dispute s m args below meth c H locs cells slots Q (F0 m 109 ls []) := by
  intro n
  induction n with
  | zero => intro v4 g w4 g2 h; rw [f_X5_dispute_109] at h; cases h
  | succ n ih =>
    intro v4 g w4 g2 h H locs ls hw hl kk
    rw [f_X5_dispute_109] at h
    refine lv_iload hC.x hC.b dX5_dispute_109 (lv_at hl 0 rfl) ?_
    refine lv_aload_n hC.x hC.b dX5_dispute_111 rfl (lv_at hl 3 rfl) ?_
    refine x_get hC hw (k := 2) (T := TX5) (by decide) (k_E5 _ _ _) in_X5_dispute_X5 rfl (by decide) lk_X5_dispute_f57 rfl rfl dX5_dispute_112 ?_
    refine lv_icmp_ge (tgt := 187) hC.x hC.b dX5_dispute_115 (by decide) (fun hc => ?_) (fun hc => ?_)
    · have h := it_t h hc
      obtain ⟨rfl, rfl⟩ := sm2 h
      exact kk _ _ _ hw (lv_sub hl [0, 1, 2, 3, 4] rfl)
    · have h := it_f h hc
      refine lv_aload_n hC.x hC.b dX5_dispute_118 rfl (lv_at hl 3 rfl) ?_
      refine lv_iload hC.x hC.b dX5_dispute_119 (lv_at hl 0 rfl) ?_
      refine lv_iload_n hC.x hC.b dX5_dispute_121 rfl (lv_at hl 4 rfl) ?_
      obtain ⟨r122, g122, hq, h⟩ := bd2_t h
      refine x_goi hC hw (x_runV hC hw (c_X5_knows (Γ := Γ) (l := l) hC.2.2.2.2 hq) (cwV 2 hC.t gX5_dispute_X5_knows rfl rfl rfl (by decide +kernel) ⟨Nat.le_of_ble_eq_true rfl, Nat.le_of_ble_eq_true rfl⟩) (As := [.int (v4), .int (c1)]) (by decide) (k_E5 _ _ _) rfl rfl rfl hl.1 (Nat.le_of_ble_eq_true rfl) dX5_dispute_122 hcs) (fun H locs hw => ?_)
      refine lv_if_eq (tgt := 181) hC.x hC.b dX5_dispute_125 (by decide) (fun hc => ?_) (fun hc => ?_)
      · have h := it_t h hc
        refine lv_iinc (v := v4 + (1 : Int32)) (lv' := [(4, .int (v4 + (1 : Int32))), (3, .int (c3)), (2, .int (c2)), (0, .ref (k_ad Γ 5 (0))), (1, .int (c1))]) hC.x hC.b dX5_dispute_181 hl (k := 0) rfl rfl (by decide) rfl (fun ls hl => ?_)
        refine lv_goto (tgt := 109) hC.x hC.b dX5_dispute_184 (by decide) ?_
        exact ih _ _ _ _ h _ _ _ hw (lv_sub hl [0, 1, 2, 3, 4] rfl) kk
      · have h := it_f h hc
        refine lv_aload_n hC.x hC.b dX5_dispute_128 rfl (lv_at hl 3 rfl) ?_
        refine x_get hC hw (k := 8) (T := TX5) (by decide) (k_E5 _ _ _) in_X5_dispute_X5 rfl (by decide) lk_X5_dispute_f22 rfl rfl dX5_dispute_129 ?_
        refine lv_iload hC.x hC.b dX5_dispute_132 (lv_at hl 0 rfl) ?_
        refine lv_aload_n hC.x hC.b dX5_dispute_134 rfl (lv_at hl 3 rfl) ?_
        refine x_get hC hw (k := 9) (T := TX5) (by decide) (k_E5 _ _ _) in_X5_dispute_X5 rfl (by decide) lk_X5_dispute_f25 rfl rfl dX5_dispute_135 ?_
        refine lv_bipush (v := (16 : Int32)) hC.x hC.b dX5_dispute_138 (by decide) ?_
        refine lv_iload hC.x hC.b dX5_dispute_140 (lv_at hl 0 rfl) ?_
        refine lv_imul hC.x hC.b dX5_dispute_142 ?_
        refine lv_iload_n hC.x hC.b dX5_dispute_143 rfl (lv_at hl 4 rfl) ?_
        refine lv_iadd hC.x hC.b dX5_dispute_144 ?_
        obtain ⟨hg4, h⟩ := gd_t h
        refine x_iald hC hw rfl (by decide) hg4 dX5_dispute_145 ?_
        refine lv_iload_n hC.x hC.b dX5_dispute_146 rfl (lv_at hl 1 rfl) ?_
        refine lv_icmp_ne (tgt := 167) hC.x hC.b dX5_dispute_147 (by decide) (fun hc => ?_) (fun hc => ?_)
        · have h := it_f h hc
          refine lv_iconst (v := (0 : Int32)) hC.x hC.b dX5_dispute_167 (by decide) ?_
          refine lv_aload_n hC.x hC.b dX5_dispute_168 rfl (lv_at hl 3 rfl) ?_
          refine x_get hC hw (k := 8) (T := TX5) (by decide) (k_E5 _ _ _) in_X5_dispute_X5 rfl (by decide) lk_X5_dispute_f22 rfl rfl dX5_dispute_169 ?_
          refine lv_iload hC.x hC.b dX5_dispute_172 (lv_at hl 0 rfl) ?_
          obtain ⟨hg5, h⟩ := gd_t h
          refine x_iald hC hw rfl (by decide) hg5 dX5_dispute_174 ?_
          refine lv_iconst (v := (1 : Int32)) hC.x hC.b dX5_dispute_175 (by decide) ?_
          refine lv_isub hC.x hC.b dX5_dispute_176 ?_
          refine va_mmax hC.x hC.b (hC.n.trans hl.1.symm) hC.o (hC.t _ lk_X5_dispute_m92) (hC.t _ lk_X5_dispute_s92) (hC.t _ lk_X5_dispute_imath) (hC.t _ lk_X5_dispute_e92) (Nat.le_of_ble_eq_true rfl) (Nat.le_of_ble_eq_true rfl) hcs.1 hcs.2 dX5_dispute_177 ?_
          obtain ⟨hg6, h⟩ := gd_t h
          refine x_iast hC hw rfl (by decide) hg6 dX5_dispute_180 (fun H locs hw => ?_)
          refine lv_iinc (v := v4 + (1 : Int32)) (lv' := [(4, .int (v4 + (1 : Int32))), (3, .int (c3)), (2, .int (c2)), (0, .ref (k_ad Γ 5 (0))), (1, .int (c1))]) hC.x hC.b dX5_dispute_181 hl (k := 0) rfl rfl (by decide) rfl (fun ls hl => ?_)
          refine lv_goto (tgt := 109) hC.x hC.b dX5_dispute_184 (by decide) ?_
          exact ih _ _ _ _ h _ _ _ hw (lv_sub hl [0, 1, 2, 3, 4] rfl) kk
        · have h := it_t h hc
          refine lv_bipush (v := (20 : Int32)) hC.x hC.b dX5_dispute_150 (by decide) ?_
          refine lv_aload_n hC.x hC.b dX5_dispute_152 rfl (lv_at hl 3 rfl) ?_
          refine x_get hC hw (k := 8) (T := TX5) (by decide) (k_E5 _ _ _) in_X5_dispute_X5 rfl (by decide) lk_X5_dispute_f22 rfl rfl dX5_dispute_153 ?_
          refine lv_iload hC.x hC.b dX5_dispute_156 (lv_at hl 0 rfl) ?_
          obtain ⟨hg7, h⟩ := gd_t h
          refine x_iald hC hw rfl (by decide) hg7 dX5_dispute_158 ?_
          refine lv_iconst (v := (1 : Int32)) hC.x hC.b dX5_dispute_159 (by decide) ?_
          refine lv_iadd hC.x hC.b dX5_dispute_160 ?_
          refine va_mmin hC.x hC.b (hC.n.trans hl.1.symm) hC.o (hC.t _ lk_X5_dispute_m123) (hC.t _ lk_X5_dispute_s123) (hC.t _ lk_X5_dispute_imath) (hC.t _ lk_X5_dispute_e123) (Nat.le_of_ble_eq_true rfl) (Nat.le_of_ble_eq_true rfl) hcs.1 hcs.2 dX5_dispute_161 ?_
          refine lv_goto (tgt := 180) hC.x hC.b dX5_dispute_164 (by decide) ?_
          obtain ⟨hg8, h⟩ := gd_t h
          refine x_iast hC hw rfl (by decide) hg8 dX5_dispute_180 (fun H locs hw => ?_)
          refine lv_iinc (v := v4 + (1 : Int32)) (lv' := [(4, .int (v4 + (1 : Int32))), (3, .int (c3)), (2, .int (c2)), (0, .ref (k_ad Γ 5 (0))), (1, .int (c1))]) hC.x hC.b dX5_dispute_181 hl (k := 0) rfl rfl (by decide) rfl (fun ls hl => ?_)
          refine lv_goto (tgt := 109) hC.x hC.b dX5_dispute_184 (by decide) ?_
          exact ih _ _ _ _ h _ _ _ hw (lv_sub hl [0, 1, 2, 3, 4] rfl) kk

set_option maxRecDepth 100000 in
set_option maxHeartbeats 4000000 in
theorem c_X5_dispute {Γ : k_Pm} {l : Launch} (hl0 : l.stackTraces = false) {x1 : Int32}  {g : Gt} {r : Int32} {g2 : Gt} (h : f_X5_dispute x1 g = some (r, g2)) : k_CI Γ l yX5_dispute wsX5_dispute rm_X5_dispute [.ref (k_ad Γ 5 (0)), .int (x1)] g r g2 := by
  intro sz
  refine Met.ofW (cc := cX5_dispute) (maxL := 5) (ret := (some .int)) (by decide) rfl ?_
  intro p e s m args below meth c s₁ B hml hv
  obtain ⟨rfl, rfl, hP, hKS⟩ := hv
  have hr := B.returns
  have hlocks := B.notSynchronized
  have hC : k_C Γ (k_A Γ s.heap.size) p l s m _ c cX5_dispute 5 wsX5_dispute RX5 := k_C.of ⟨B.exec, B.bytes, hml, findClass_of_methodNamed B.named, atoms_spec (ws := wsX5_dispute) B.pre⟩ hKS hl0
  have hw : k_St Γ (k_A Γ s.heap.size) s [] g s.heap [] := k_St.of hKS hP
  have hl := lv_entry ([.ref (k_ad Γ 5 (0)), .int (x1)] : List Value) (n := 5) (Nat.le_of_ble_eq_true rfl)
  rw [lg_entry_eq]
  generalize (lg_sl ([.ref (k_ad Γ 5 (0)), .int (x1)] : List Value) ++ List.replicate (5 - (lg_sl ([.ref (k_ad Γ 5 (0)), .int (x1)] : List Value)).length) Slot.unset).toArray = ls at hl ⊢
  have hl : lv_has ls 5 [(0, .ref (k_ad Γ 5 (0))), (1, .int (x1))] := hl
  change W p l e rm_X5_dispute _ _ _ _ _ _ _ _ _ _ _ _
  unfold f_X5_dispute at h
  refine lv_aload_n hC.x hC.b dX5_dispute_0 rfl (lv_at hl 0 rfl) ?_
  refine lv_iconst (v := (0 : Int32)) hC.x hC.b dX5_dispute_1 (by decide) ?_
  refine x_puti hC hw (k := 0) (T := TX5) (by decide) (k_E5 _ _ _) in_X5_dispute_X5 rfl (by decide) lk_X5_dispute_f46 rfl tyX5 tyX5_ok nmX5 rfl (by decide +kernel) (Nat.le_of_ble_eq_true rfl) (by rw [k_E5]; rfl) dX5_dispute_2 (fun H locs hw => ?_)
  refine lv_aload_n hC.x hC.b dX5_dispute_5 rfl (lv_at hl 0 rfl) ?_
  refine lv_iload_n hC.x hC.b dX5_dispute_6 rfl (lv_at hl 1 rfl) ?_
  obtain ⟨r7, g7, hq, h⟩ := bd2_t h
  refine x_goi hC hw (x_runV hC hw (c_X5_isCord (Γ := Γ) (l := l) hC.2.2.2.2 hq) (cwV 1 hC.t gX5_dispute_X5_isCord rfl rfl rfl (by decide +kernel) ⟨Nat.le_of_ble_eq_true rfl, Nat.le_of_ble_eq_true rfl⟩) (As := [.int (x1)]) (by decide) (k_E5 _ _ _) rfl rfl rfl hl.1 (Nat.le_of_ble_eq_true rfl) dX5_dispute_7 ⟨by decide, by decide⟩) (fun H locs hw => ?_)
  refine lv_if_ne (tgt := 19) hC.x hC.b dX5_dispute_10 (by decide) (fun hc => ?_) (fun hc => ?_)
  · have h := it_f h hc
    refine lv_iconst (v := (-1 : Int32)) hC.x hC.b dX5_dispute_19 (by decide) ?_
    refine lv_istore_n (lv' := [(2, .int ((-1 : Int32))), (0, .ref (k_ad Γ 5 (0))), (1, .int (x1))]) hC.x hC.b dX5_dispute_20 rfl hl (by decide) rfl (fun ls hl => ?_)
    refine lv_iconst (v := (0 : Int32)) hC.x hC.b dX5_dispute_21 (by decide) ?_
    refine lv_istore_n (lv' := [(3, .int ((0 : Int32))), (2, .int ((-1 : Int32))), (0, .ref (k_ad Γ 5 (0))), (1, .int (x1))]) hC.x hC.b dX5_dispute_22 rfl hl (by decide) rfl (fun ls hl => ?_)
    obtain ⟨w23_2, w23_3, g23, hq, h⟩ := bd3_t h
    refine w_X5_dispute_23 hC ⟨by decide, by decide⟩  k_N _ _ _ _ _ _ hq _ _ _ hw (lv_sub hl [0, 1, 2, 3] rfl) (fun H locs ls hw hl => ?_)
    refine lv_iload_n hC.x hC.b dX5_dispute_83 rfl (lv_at hl 1 rfl) ?_
    refine lv_iconst (v := (-1 : Int32)) hC.x hC.b dX5_dispute_84 (by decide) ?_
    refine lv_icmp_ne (tgt := 94) hC.x hC.b dX5_dispute_85 (by decide) (fun hc => ?_) (fun hc => ?_)
    · have h := it_f h hc
      refine lv_aload_n hC.x hC.b dX5_dispute_94 rfl (lv_at hl 2 rfl) ?_
      refine x_get hC hw (k := 9) (T := TX5) (by decide) (k_E5 _ _ _) in_X5_dispute_X5 rfl (by decide) lk_X5_dispute_f25 rfl rfl dX5_dispute_95 ?_
      refine lv_bipush (v := (16 : Int32)) hC.x hC.b dX5_dispute_98 (by decide) ?_
      refine lv_iload_n hC.x hC.b dX5_dispute_100 rfl (lv_at hl 1 rfl) ?_
      refine lv_imul hC.x hC.b dX5_dispute_101 ?_
      refine lv_iload_n hC.x hC.b dX5_dispute_102 rfl (lv_at hl 3 rfl) ?_
      refine lv_iadd hC.x hC.b dX5_dispute_103 ?_
      obtain ⟨hg3, h⟩ := gd_t h
      refine x_iald hC hw rfl (by decide) hg3 dX5_dispute_104 ?_
      refine lv_istore_n (lv' := [(3, .int (g23 35 0 ((((16 : Int32) * w23_2) + x1).toNatClampNeg))), (2, .int (w23_2)), (0, .ref (k_ad Γ 5 (0))), (1, .int (x1))]) hC.x hC.b dX5_dispute_105 rfl hl (by decide) rfl (fun ls hl => ?_)
      refine lv_iconst (v := (0 : Int32)) hC.x hC.b dX5_dispute_106 (by decide) ?_
      refine lv_istore (lv' := [(4, .int ((0 : Int32))), (3, .int (g23 35 0 ((((16 : Int32) * w23_2) + x1).toNatClampNeg))), (2, .int (w23_2)), (0, .ref (k_ad Γ 5 (0))), (1, .int (x1))]) hC.x hC.b dX5_dispute_107 hl (by decide) rfl (fun ls hl => ?_)
      obtain ⟨w109_4, g109, hq, h⟩ := bd2_t h
      refine w_X5_dispute_109 hC ⟨by decide, by decide⟩  k_N _ _ _ _ hq _ _ _ hw (lv_sub hl [0, 1, 2, 3, 4] rfl) (fun H locs ls hw hl => ?_)
      refine lv_iload_n hC.x hC.b dX5_dispute_187 rfl (lv_at hl 1 rfl) ?_
      obtain ⟨rfl, rfl⟩ := sm2 h
      exact x_iret hC hw hr hlocks (by decide) (by decide) dX5_dispute_188
    · have h := it_t h hc
      refine lv_aload_n hC.x hC.b dX5_dispute_88 rfl (lv_at hl 2 rfl) ?_
      refine lv_iconst (v := (2 : Int32)) hC.x hC.b dX5_dispute_89 (by decide) ?_
      obtain ⟨r90, g90, hq, h⟩ := bd2_t h
      refine x_goi hC hw (x_runV hC hw (c_X5_fail (Γ := Γ) (l := l) hC.2.2.2.2 hq) (cwV 1 hC.t gX5_dispute_X5_fail rfl rfl rfl (by decide +kernel) ⟨Nat.le_of_ble_eq_true rfl, Nat.le_of_ble_eq_true rfl⟩) (As := [.int ((2 : Int32))]) (by decide) (k_E5 _ _ _) rfl rfl rfl hl.1 (Nat.le_of_ble_eq_true rfl) dX5_dispute_90 ⟨by decide, by decide⟩) (fun H locs hw => ?_)
      obtain ⟨rfl, rfl⟩ := sm2 h
      exact x_iret hC hw hr hlocks (by decide) (by decide) dX5_dispute_93
  · have h := it_t h hc
    refine lv_aload_n hC.x hC.b dX5_dispute_13 rfl (lv_at hl 0 rfl) ?_
    refine lv_iconst (v := (1 : Int32)) hC.x hC.b dX5_dispute_14 (by decide) ?_
    obtain ⟨r15, g15, hq, h⟩ := bd2_t h
    refine x_goi hC hw (x_runV hC hw (c_X5_fail (Γ := Γ) (l := l) hC.2.2.2.2 hq) (cwV 1 hC.t gX5_dispute_X5_fail rfl rfl rfl (by decide +kernel) ⟨Nat.le_of_ble_eq_true rfl, Nat.le_of_ble_eq_true rfl⟩) (As := [.int ((1 : Int32))]) (by decide) (k_E5 _ _ _) rfl rfl rfl hl.1 (Nat.le_of_ble_eq_true rfl) dX5_dispute_15 ⟨by decide, by decide⟩) (fun H locs hw => ?_)
    obtain ⟨rfl, rfl⟩ := sm2 h
    exact x_iret hC hw hr hlocks (by decide) (by decide) dX5_dispute_18
abbrev rm_X5_untying : Room := { frames := 1, cells := 0, slots := 0, locals := 22 }
theorem in_X5_untying_X5 : ∀ w ∈ wsX50, w ∈ wsX5_untying := fun _ h => List.mem_cons_of_mem _ (List.mem_append_right _ (h))
set_option maxRecDepth 20000 in
theorem lk_X5_untying_f46 : Cond.fieldLink RX5 46 "KnotArchiveModel" "thrown" "I" ∈ wsX5_untying := by decide +kernel
set_option maxRecDepth 20000 in
theorem lk_X5_untying_f80 : Cond.fieldLink RX5 80 "KnotArchiveModel" "untied" "I" ∈ wsX5_untying := by decide +kernel
set_option maxRecDepth 20000 in
theorem lk_X5_untying_f31 : Cond.fieldLink RX5 31 "KnotArchiveModel" "book" "[I" ∈ wsX5_untying := by decide +kernel
set_option maxRecDepth 100000 in
set_option maxHeartbeats 4000000 in
theorem c_X5_untying {Γ : k_Pm} {l : Launch} (hl0 : l.stackTraces = false) {x1 : Int32} {x2 : Int32}  {g : Gt} {r : Int32} {g2 : Gt} (h : f_X5_untying x1 x2 g = some (r, g2)) : k_CI Γ l yX5_untying wsX5_untying rm_X5_untying [.ref (k_ad Γ 5 (0)), .int (x1), .int (x2)] g r g2 := by
  intro sz
  refine Met.ofW (cc := cX5_untying) (maxL := 3) (ret := (some .int)) (by decide) rfl ?_
  intro p e s m args below meth c s₁ B hml hv
  obtain ⟨rfl, rfl, hP, hKS⟩ := hv
  have hr := B.returns
  have hlocks := B.notSynchronized
  have hC : k_C Γ (k_A Γ s.heap.size) p l s m _ c cX5_untying 3 wsX5_untying RX5 := k_C.of ⟨B.exec, B.bytes, hml, findClass_of_methodNamed B.named, atoms_spec (ws := wsX5_untying) B.pre⟩ hKS hl0
  have hw : k_St Γ (k_A Γ s.heap.size) s [] g s.heap [] := k_St.of hKS hP
  have hl := lv_entry ([.ref (k_ad Γ 5 (0)), .int (x1), .int (x2)] : List Value) (n := 3) (Nat.le_of_ble_eq_true rfl)
  rw [lg_entry_eq]
  generalize (lg_sl ([.ref (k_ad Γ 5 (0)), .int (x1), .int (x2)] : List Value) ++ List.replicate (3 - (lg_sl ([.ref (k_ad Γ 5 (0)), .int (x1), .int (x2)] : List Value)).length) Slot.unset).toArray = ls at hl ⊢
  have hl : lv_has ls 3 [(0, .ref (k_ad Γ 5 (0))), (1, .int (x1)), (2, .int (x2))] := hl
  change W p l e rm_X5_untying _ _ _ _ _ _ _ _ _ _ _ _
  unfold f_X5_untying at h
  refine lv_aload_n hC.x hC.b dX5_untying_0 rfl (lv_at hl 0 rfl) ?_
  refine lv_iconst (v := (0 : Int32)) hC.x hC.b dX5_untying_1 (by decide) ?_
  refine x_puti hC hw (k := 0) (T := TX5) (by decide) (k_E5 _ _ _) in_X5_untying_X5 rfl (by decide) lk_X5_untying_f46 rfl tyX5 tyX5_ok nmX5 rfl (by decide +kernel) (Nat.le_of_ble_eq_true rfl) (by rw [k_E5]; rfl) dX5_untying_2 (fun H locs hw => ?_)
  refine lv_iload_n hC.x hC.b dX5_untying_5 rfl (lv_at hl 1 rfl) ?_
  refine lv_iconst (v := (0 : Int32)) hC.x hC.b dX5_untying_6 (by decide) ?_
  refine lv_aload_n hC.x hC.b dX5_untying_7 rfl (lv_at hl 0 rfl) ?_
  refine x_get hC hw (k := 3) (T := TX5) (by decide) (k_E5 _ _ _) in_X5_untying_X5 rfl (by decide) lk_X5_untying_f80 rfl rfl dX5_untying_8 ?_
  refine lv_iconst (v := (1 : Int32)) hC.x hC.b dX5_untying_11 (by decide) ?_
  refine lv_isub hC.x hC.b dX5_untying_12 ?_
  obtain ⟨r13, g13, hq, h⟩ := bd2_t h
  refine x_goi hC hw (x_runS hC hw (c_X5_isIn (Γ := Γ) (l := l) hC.2.2.2.2 hq) (va_cwS 3 hC.t gX5_untying_X5_isIn rfl rfl rfl (by decide +kernel) ⟨Nat.le_of_ble_eq_true rfl, Nat.le_of_ble_eq_true rfl⟩) (As := [.int (x1), .int ((0 : Int32)), .int (((k_up g 5 0 0 (0 : Int32)) 5 0 3) - (1 : Int32))]) rfl hl.1 (Nat.le_of_ble_eq_true rfl) dX5_untying_13 ⟨by decide, by decide⟩) (fun H locs hw => ?_)
  refine lv_if_eq (tgt := 41) hC.x hC.b dX5_untying_16 (by decide) (fun hc => ?_) (fun hc => ?_)
  · have h := it_t h hc
    refine lv_aload_n hC.x hC.b dX5_untying_41 rfl (lv_at hl 0 rfl) ?_
    refine lv_iconst (v := (1 : Int32)) hC.x hC.b dX5_untying_42 (by decide) ?_
    obtain ⟨r43, g43, hq, h⟩ := bd2_t h
    refine x_goi hC hw (x_runV hC hw (c_X5_fail (Γ := Γ) (l := l) hC.2.2.2.2 hq) (cwV 1 hC.t gX5_untying_X5_fail rfl rfl rfl (by decide +kernel) ⟨Nat.le_of_ble_eq_true rfl, Nat.le_of_ble_eq_true rfl⟩) (As := [.int ((1 : Int32))]) (by decide) (k_E5 _ _ _) rfl rfl rfl hl.1 (Nat.le_of_ble_eq_true rfl) dX5_untying_43 ⟨by decide, by decide⟩) (fun H locs hw => ?_)
    obtain ⟨rfl, rfl⟩ := sm2 h
    exact x_iret hC hw hr hlocks (by decide) (by decide) dX5_untying_46
  · have h := it_f h hc
    refine lv_iload_n hC.x hC.b dX5_untying_19 rfl (lv_at hl 2 rfl) ?_
    refine lv_iconst (v := (0 : Int32)) hC.x hC.b dX5_untying_20 (by decide) ?_
    refine lv_iconst (v := (4 : Int32)) hC.x hC.b dX5_untying_21 (by decide) ?_
    obtain ⟨r22, g22, hq, h⟩ := bd2_t h
    refine x_goi hC hw (x_runS hC hw (c_X5_isIn (Γ := Γ) (l := l) hC.2.2.2.2 hq) (va_cwS 3 hC.t gX5_untying_X5_isIn rfl rfl rfl (by decide +kernel) ⟨Nat.le_of_ble_eq_true rfl, Nat.le_of_ble_eq_true rfl⟩) (As := [.int (x2), .int ((0 : Int32)), .int ((4 : Int32))]) rfl hl.1 (Nat.le_of_ble_eq_true rfl) dX5_untying_22 ⟨by decide, by decide⟩) (fun H locs hw => ?_)
    refine lv_if_eq (tgt := 41) hC.x hC.b dX5_untying_25 (by decide) (fun hc => ?_) (fun hc => ?_)
    · have h := it_t h hc
      refine lv_aload_n hC.x hC.b dX5_untying_41 rfl (lv_at hl 0 rfl) ?_
      refine lv_iconst (v := (1 : Int32)) hC.x hC.b dX5_untying_42 (by decide) ?_
      obtain ⟨r43, g43, hq, h⟩ := bd2_t h
      refine x_goi hC hw (x_runV hC hw (c_X5_fail (Γ := Γ) (l := l) hC.2.2.2.2 hq) (cwV 1 hC.t gX5_untying_X5_fail rfl rfl rfl (by decide +kernel) ⟨Nat.le_of_ble_eq_true rfl, Nat.le_of_ble_eq_true rfl⟩) (As := [.int ((1 : Int32))]) (by decide) (k_E5 _ _ _) rfl rfl rfl hl.1 (Nat.le_of_ble_eq_true rfl) dX5_untying_43 ⟨by decide, by decide⟩) (fun H locs hw => ?_)
      obtain ⟨rfl, rfl⟩ := sm2 h
      exact x_iret hC hw hr hlocks (by decide) (by decide) dX5_untying_46
    · have h := it_f h hc
      refine lv_aload_n hC.x hC.b dX5_untying_28 rfl (lv_at hl 0 rfl) ?_
      refine x_get hC hw (k := 11) (T := TX5) (by decide) (k_E5 _ _ _) in_X5_untying_X5 rfl (by decide) lk_X5_untying_f31 rfl rfl dX5_untying_29 ?_
      refine lv_iconst (v := (5 : Int32)) hC.x hC.b dX5_untying_32 (by decide) ?_
      refine lv_iload_n hC.x hC.b dX5_untying_33 rfl (lv_at hl 1 rfl) ?_
      refine lv_imul hC.x hC.b dX5_untying_34 ?_
      refine lv_iload_n hC.x hC.b dX5_untying_35 rfl (lv_at hl 2 rfl) ?_
      refine lv_iadd hC.x hC.b dX5_untying_36 ?_
      obtain ⟨hg1, h⟩ := gd_t h
      refine x_iald hC hw rfl (by decide) hg1 dX5_untying_37 ?_
      refine lv_goto (tgt := 46) hC.x hC.b dX5_untying_38 (by decide) ?_
      obtain ⟨rfl, rfl⟩ := sm2 h
      exact x_iret hC hw hr hlocks (by decide) (by decide) dX5_untying_46
abbrev rm_X5_yearOn : Room := { frames := 0, cells := 0, slots := 0, locals := 0 }
theorem in_X5_yearOn_X5 : ∀ w ∈ wsX50, w ∈ wsX5_yearOn := fun _ h => List.mem_cons_of_mem _ (List.mem_append_right _ (h))
set_option maxRecDepth 20000 in
theorem lk_X5_yearOn_f50 : Cond.fieldLink RX5 50 "KnotArchiveModel" "cords" "I" ∈ wsX5_yearOn := by decide +kernel
set_option maxRecDepth 20000 in
theorem lk_X5_yearOn_f16 : Cond.fieldLink RX5 16 "KnotArchiveModel" "knots" "[I" ∈ wsX5_yearOn := by decide +kernel
set_option maxRecDepth 20000 in
theorem lk_X5_yearOn_f13 : Cond.fieldLink RX5 13 "KnotArchiveModel" "strands" "[I" ∈ wsX5_yearOn := by decide +kernel
set_option maxRecDepth 20000 in
theorem lk_X5_yearOn_f19 : Cond.fieldLink RX5 19 "KnotArchiveModel" "frays" "[I" ∈ wsX5_yearOn := by decide +kernel
set_option maxRecDepth 20000 in
theorem lk_X5_yearOn_f34 : Cond.fieldLink RX5 34 "KnotArchiveModel" "numbers" "[I" ∈ wsX5_yearOn := by decide +kernel
set_option maxRecDepth 100000 in
set_option maxHeartbeats 4000000 in
theorem w_X5_yearOn_4 {Γ : k_Pm} {A0 : Nat → Prop} {p : Program} {l : Launch} {e : Env} {s : State} {m : MethodId} {args : Array Value} {below : List Frame} {meth : Method} {c : Code} {cells slots : Nat} {Q : State → Prop} {tmp : va_W} (hC : k_C Γ A0 p l s m args c cX5_yearOn 4 wsX5_yearOn RX5) (hcs : cells ≤ rm_X5_yearOn.cells ∧ slots ≤ rm_X5_yearOn.slots) : ∀ (n : Nat) (v1 : Int32) (v2 : Int32) (g : Gt) (w1 : Int32) (w2 : Int32) (g2 : Gt), f_X5_yearOn_4 n v1 v2 g = some (w1, w2, g2) → ∀ (H : Heap) (locs : List Loc) (ls : Array Slot), k_St Γ A0 s tmp g H locs → lv_has ls 4 [(2, .int (v2)), (1, .int (v1)), (0, .ref (k_ad Γ 5 (0)))] → (∀ (H1 : Heap) (locs1 : List Loc) (ls1 : Array Slot), k_St Γ A0 s tmp g2 H1 locs1 → lv_has ls1 4 [(2, .int (w2)), (1, .int (w1)), (0, .ref (k_ad Γ 5 (0)))] → W p l e rm_X5_yearOn s m args below meth c H1 locs1 cells slots Q (F0 m 99 ls1 [])) → W p l e rm_X5_yearOn s m args below meth c H locs cells slots Q (F0 m 4 ls []) := by
  intro n
  induction n with
  | zero => intro v1 v2 g w1 w2 g2 h; rw [f_X5_yearOn_4] at h; cases h
  | succ n ih =>
    intro v1 v2 g w1 w2 g2 h H locs ls hw hl kk
    rw [f_X5_yearOn_4] at h
    refine lv_iload_n hC.x hC.b dX5_yearOn_4 rfl (lv_at hl 0 rfl) ?_
    refine lv_iconst (v := (4 : Int32)) hC.x hC.b dX5_yearOn_5 (by decide) ?_
    refine lv_aload_n hC.x hC.b dX5_yearOn_6 rfl (lv_at hl 2 rfl) ?_
    refine x_get hC hw (k := 1) (T := TX5) (by decide) (k_E5 _ _ _) in_X5_yearOn_X5 rfl (by decide) lk_X5_yearOn_f50 rfl rfl dX5_yearOn_7 ?_
    refine lv_imul hC.x hC.b dX5_yearOn_10 ?_
    refine lv_icmp_ge (tgt := 99) hC.x hC.b dX5_yearOn_11 (by decide) (fun hc => ?_) (fun hc => ?_)
    · have h := it_t h hc
      obtain ⟨rfl, rfl, rfl⟩ := sm3 h
      exact kk _ _ _ hw (lv_sub hl [0, 1, 2] rfl)
    · have h := it_f h hc
      refine lv_aload_n hC.x hC.b dX5_yearOn_14 rfl (lv_at hl 2 rfl) ?_
      refine x_get hC hw (k := 6) (T := TX5) (by decide) (k_E5 _ _ _) in_X5_yearOn_X5 rfl (by decide) lk_X5_yearOn_f16 rfl rfl dX5_yearOn_15 ?_
      refine lv_iload_n hC.x hC.b dX5_yearOn_18 rfl (lv_at hl 0 rfl) ?_
      obtain ⟨hg1, h⟩ := gd_t h
      refine x_iald hC hw rfl (by decide) hg1 dX5_yearOn_19 ?_
      refine lv_if_ne (tgt := 26) hC.x hC.b dX5_yearOn_20 (by decide) (fun hc => ?_) (fun hc => ?_)
      · have h := it_f h hc
        refine lv_aload_n hC.x hC.b dX5_yearOn_26 rfl (lv_at hl 2 rfl) ?_
        refine x_get hC hw (k := 5) (T := TX5) (by decide) (k_E5 _ _ _) in_X5_yearOn_X5 rfl (by decide) lk_X5_yearOn_f13 rfl rfl dX5_yearOn_27 ?_
        refine lv_iload_n hC.x hC.b dX5_yearOn_30 rfl (lv_at hl 0 rfl) ?_
        refine lv_iconst (v := (4 : Int32)) hC.x hC.b dX5_yearOn_31 (by decide) ?_
        refine lv_idiv hC.x hC.b dX5_yearOn_32 (by decide) ?_
        obtain ⟨hg2, h⟩ := gd_t h
        refine x_iald hC hw rfl (by decide) hg2 dX5_yearOn_33 ?_
        refine lv_istore_n (lv' := [(3, .int (g 31 0 ((v2 / (4 : Int32)).toNatClampNeg))), (2, .int (v2)), (1, .int (v1)), (0, .ref (k_ad Γ 5 (0)))]) hC.x hC.b dX5_yearOn_34 rfl hl (by decide) rfl (fun ls hl => ?_)
        refine lv_aload_n hC.x hC.b dX5_yearOn_35 rfl (lv_at hl 3 rfl) ?_
        refine x_get hC hw (k := 7) (T := TX5) (by decide) (k_E5 _ _ _) in_X5_yearOn_X5 rfl (by decide) lk_X5_yearOn_f19 rfl rfl dX5_yearOn_36 ?_
        refine lv_iload_n hC.x hC.b dX5_yearOn_39 rfl (lv_at hl 1 rfl) ?_
        refine lv_dup2_11 hC.x hC.b dX5_yearOn_40 rfl rfl ?_
        obtain ⟨hg3, h⟩ := gd_t h
        refine x_iald hC hw rfl (by decide) hg3 dX5_yearOn_41 ?_
        refine lv_iload_n hC.x hC.b dX5_yearOn_42 rfl (lv_at hl 0 rfl) ?_
        refine lv_iconst (v := (2 : Int32)) hC.x hC.b dX5_yearOn_43 (by decide) ?_
        refine lv_icmp_eq (tgt := 52) hC.x hC.b dX5_yearOn_44 (by decide) (fun hc => ?_) (fun hc => ?_)
        · have h := it_t h hc
          refine lv_iconst (v := (2 : Int32)) hC.x hC.b dX5_yearOn_52 (by decide) ?_
          refine lv_goto (tgt := 57) hC.x hC.b dX5_yearOn_53 (by decide) ?_
          refine lv_iadd hC.x hC.b dX5_yearOn_57 ?_
          obtain ⟨hg4, h⟩ := gd_t h
          refine x_iast hC hw rfl (by decide) hg4 dX5_yearOn_58 (fun H locs hw => ?_)
          refine lv_aload_n hC.x hC.b dX5_yearOn_59 rfl (lv_at hl 3 rfl) ?_
          refine x_get hC hw (k := 7) (T := TX5) (by decide) (k_E5 _ _ _) in_X5_yearOn_X5 rfl (by decide) lk_X5_yearOn_f19 rfl rfl dX5_yearOn_60 ?_
          refine lv_iload_n hC.x hC.b dX5_yearOn_63 rfl (lv_at hl 1 rfl) ?_
          obtain ⟨hg5, h⟩ := gd_t h
          refine x_iald hC hw rfl (by decide) hg5 dX5_yearOn_64 ?_
          refine lv_bipush (v := (10 : Int32)) hC.x hC.b dX5_yearOn_65 (by decide) ?_
          refine lv_icmp_ge (tgt := 73) hC.x hC.b dX5_yearOn_67 (by decide) (fun hc => ?_) (fun hc => ?_)
          · have h := it_t h hc
            refine lv_aload_n hC.x hC.b dX5_yearOn_73 rfl (lv_at hl 3 rfl) ?_
            refine x_get hC hw (k := 7) (T := TX5) (by decide) (k_E5 _ _ _) in_X5_yearOn_X5 rfl (by decide) lk_X5_yearOn_f19 rfl rfl dX5_yearOn_74 ?_
            refine lv_iload_n hC.x hC.b dX5_yearOn_77 rfl (lv_at hl 1 rfl) ?_
            refine lv_iconst (v := (0 : Int32)) hC.x hC.b dX5_yearOn_78 (by decide) ?_
            obtain ⟨hg6, h⟩ := gd_t h
            refine x_iast hC hw rfl (by decide) hg6 dX5_yearOn_79 (fun H locs hw => ?_)
            refine lv_aload_n hC.x hC.b dX5_yearOn_80 rfl (lv_at hl 3 rfl) ?_
            refine x_get hC hw (k := 6) (T := TX5) (by decide) (k_E5 _ _ _) in_X5_yearOn_X5 rfl (by decide) lk_X5_yearOn_f16 rfl rfl dX5_yearOn_81 ?_
            refine lv_iload_n hC.x hC.b dX5_yearOn_84 rfl (lv_at hl 1 rfl) ?_
            refine lv_dup2_11 hC.x hC.b dX5_yearOn_85 rfl rfl ?_
            obtain ⟨hg7, h⟩ := gd_t h
            refine x_iald hC hw rfl (by decide) hg7 dX5_yearOn_86 ?_
            refine lv_iconst (v := (1 : Int32)) hC.x hC.b dX5_yearOn_87 (by decide) ?_
            refine lv_isub hC.x hC.b dX5_yearOn_88 ?_
            obtain ⟨hg8, h⟩ := gd_t h
            refine x_iast hC hw rfl (by decide) hg8 dX5_yearOn_89 (fun H locs hw => ?_)
            refine lv_iinc (v := v1 + (1 : Int32)) (lv' := [(1, .int (v1 + (1 : Int32))), (3, .int (g 31 0 ((v2 / (4 : Int32)).toNatClampNeg))), (2, .int (v2)), (0, .ref (k_ad Γ 5 (0)))]) hC.x hC.b dX5_yearOn_90 hl (k := 2) rfl rfl (by decide) rfl (fun ls hl => ?_)
            refine lv_iinc (v := v2 + (1 : Int32)) (lv' := [(2, .int (v2 + (1 : Int32))), (1, .int (v1 + (1 : Int32))), (3, .int (g 31 0 ((v2 / (4 : Int32)).toNatClampNeg))), (0, .ref (k_ad Γ 5 (0)))]) hC.x hC.b dX5_yearOn_93 hl (k := 2) rfl rfl (by decide) rfl (fun ls hl => ?_)
            refine lv_goto (tgt := 4) hC.x hC.b dX5_yearOn_96 (by decide) ?_
            exact ih _ _ _ _ _ _ h _ _ _ hw (lv_sub hl [0, 1, 3] rfl) kk
          · have h := it_f h hc
            refine lv_goto (tgt := 93) hC.x hC.b dX5_yearOn_70 (by decide) ?_
            refine lv_iinc (v := v2 + (1 : Int32)) (lv' := [(2, .int (v2 + (1 : Int32))), (3, .int (g 31 0 ((v2 / (4 : Int32)).toNatClampNeg))), (1, .int (v1)), (0, .ref (k_ad Γ 5 (0)))]) hC.x hC.b dX5_yearOn_93 hl (k := 1) rfl rfl (by decide) rfl (fun ls hl => ?_)
            refine lv_goto (tgt := 4) hC.x hC.b dX5_yearOn_96 (by decide) ?_
            exact ih _ _ _ _ _ _ h _ _ _ hw (lv_sub hl [0, 2, 3] rfl) kk
        · have h := it_f h hc
          refine lv_iload_n hC.x hC.b dX5_yearOn_47 rfl (lv_at hl 0 rfl) ?_
          refine lv_iconst (v := (4 : Int32)) hC.x hC.b dX5_yearOn_48 (by decide) ?_
          refine lv_icmp_ne (tgt := 56) hC.x hC.b dX5_yearOn_49 (by decide) (fun hc => ?_) (fun hc => ?_)
          · have h := it_f h hc
            refine lv_iconst (v := (1 : Int32)) hC.x hC.b dX5_yearOn_56 (by decide) ?_
            refine lv_iadd hC.x hC.b dX5_yearOn_57 ?_
            obtain ⟨hg9, h⟩ := gd_t h
            refine x_iast hC hw rfl (by decide) hg9 dX5_yearOn_58 (fun H locs hw => ?_)
            refine lv_aload_n hC.x hC.b dX5_yearOn_59 rfl (lv_at hl 3 rfl) ?_
            refine x_get hC hw (k := 7) (T := TX5) (by decide) (k_E5 _ _ _) in_X5_yearOn_X5 rfl (by decide) lk_X5_yearOn_f19 rfl rfl dX5_yearOn_60 ?_
            refine lv_iload_n hC.x hC.b dX5_yearOn_63 rfl (lv_at hl 1 rfl) ?_
            obtain ⟨hg10, h⟩ := gd_t h
            refine x_iald hC hw rfl (by decide) hg10 dX5_yearOn_64 ?_
            refine lv_bipush (v := (10 : Int32)) hC.x hC.b dX5_yearOn_65 (by decide) ?_
            refine lv_icmp_ge (tgt := 73) hC.x hC.b dX5_yearOn_67 (by decide) (fun hc => ?_) (fun hc => ?_)
            · have h := it_t h hc
              refine lv_aload_n hC.x hC.b dX5_yearOn_73 rfl (lv_at hl 3 rfl) ?_
              refine x_get hC hw (k := 7) (T := TX5) (by decide) (k_E5 _ _ _) in_X5_yearOn_X5 rfl (by decide) lk_X5_yearOn_f19 rfl rfl dX5_yearOn_74 ?_
              refine lv_iload_n hC.x hC.b dX5_yearOn_77 rfl (lv_at hl 1 rfl) ?_
              refine lv_iconst (v := (0 : Int32)) hC.x hC.b dX5_yearOn_78 (by decide) ?_
              obtain ⟨hg11, h⟩ := gd_t h
              refine x_iast hC hw rfl (by decide) hg11 dX5_yearOn_79 (fun H locs hw => ?_)
              refine lv_aload_n hC.x hC.b dX5_yearOn_80 rfl (lv_at hl 3 rfl) ?_
              refine x_get hC hw (k := 6) (T := TX5) (by decide) (k_E5 _ _ _) in_X5_yearOn_X5 rfl (by decide) lk_X5_yearOn_f16 rfl rfl dX5_yearOn_81 ?_
              refine lv_iload_n hC.x hC.b dX5_yearOn_84 rfl (lv_at hl 1 rfl) ?_
              refine lv_dup2_11 hC.x hC.b dX5_yearOn_85 rfl rfl ?_
              obtain ⟨hg12, h⟩ := gd_t h
              refine x_iald hC hw rfl (by decide) hg12 dX5_yearOn_86 ?_
              refine lv_iconst (v := (1 : Int32)) hC.x hC.b dX5_yearOn_87 (by decide) ?_
              refine lv_isub hC.x hC.b dX5_yearOn_88 ?_
              obtain ⟨hg13, h⟩ := gd_t h
              refine x_iast hC hw rfl (by decide) hg13 dX5_yearOn_89 (fun H locs hw => ?_)
              refine lv_iinc (v := v1 + (1 : Int32)) (lv' := [(1, .int (v1 + (1 : Int32))), (3, .int (g 31 0 ((v2 / (4 : Int32)).toNatClampNeg))), (2, .int (v2)), (0, .ref (k_ad Γ 5 (0)))]) hC.x hC.b dX5_yearOn_90 hl (k := 2) rfl rfl (by decide) rfl (fun ls hl => ?_)
              refine lv_iinc (v := v2 + (1 : Int32)) (lv' := [(2, .int (v2 + (1 : Int32))), (1, .int (v1 + (1 : Int32))), (3, .int (g 31 0 ((v2 / (4 : Int32)).toNatClampNeg))), (0, .ref (k_ad Γ 5 (0)))]) hC.x hC.b dX5_yearOn_93 hl (k := 2) rfl rfl (by decide) rfl (fun ls hl => ?_)
              refine lv_goto (tgt := 4) hC.x hC.b dX5_yearOn_96 (by decide) ?_
              exact ih _ _ _ _ _ _ h _ _ _ hw (lv_sub hl [0, 1, 3] rfl) kk
            · have h := it_f h hc
              refine lv_goto (tgt := 93) hC.x hC.b dX5_yearOn_70 (by decide) ?_
              refine lv_iinc (v := v2 + (1 : Int32)) (lv' := [(2, .int (v2 + (1 : Int32))), (3, .int (g 31 0 ((v2 / (4 : Int32)).toNatClampNeg))), (1, .int (v1)), (0, .ref (k_ad Γ 5 (0)))]) hC.x hC.b dX5_yearOn_93 hl (k := 1) rfl rfl (by decide) rfl (fun ls hl => ?_)
              refine lv_goto (tgt := 4) hC.x hC.b dX5_yearOn_96 (by decide) ?_
              exact ih _ _ _ _ _ _ h _ _ _ hw (lv_sub hl [0, 2, 3] rfl) kk
          · have h := it_t h hc
            refine lv_iconst (v := (2 : Int32)) hC.x hC.b dX5_yearOn_52 (by decide) ?_
            refine lv_goto (tgt := 57) hC.x hC.b dX5_yearOn_53 (by decide) ?_
            refine lv_iadd hC.x hC.b dX5_yearOn_57 ?_
            obtain ⟨hg14, h⟩ := gd_t h
            refine x_iast hC hw rfl (by decide) hg14 dX5_yearOn_58 (fun H locs hw => ?_)
            refine lv_aload_n hC.x hC.b dX5_yearOn_59 rfl (lv_at hl 3 rfl) ?_
            refine x_get hC hw (k := 7) (T := TX5) (by decide) (k_E5 _ _ _) in_X5_yearOn_X5 rfl (by decide) lk_X5_yearOn_f19 rfl rfl dX5_yearOn_60 ?_
            refine lv_iload_n hC.x hC.b dX5_yearOn_63 rfl (lv_at hl 1 rfl) ?_
            obtain ⟨hg15, h⟩ := gd_t h
            refine x_iald hC hw rfl (by decide) hg15 dX5_yearOn_64 ?_
            refine lv_bipush (v := (10 : Int32)) hC.x hC.b dX5_yearOn_65 (by decide) ?_
            refine lv_icmp_ge (tgt := 73) hC.x hC.b dX5_yearOn_67 (by decide) (fun hc => ?_) (fun hc => ?_)
            · have h := it_t h hc
              refine lv_aload_n hC.x hC.b dX5_yearOn_73 rfl (lv_at hl 3 rfl) ?_
              refine x_get hC hw (k := 7) (T := TX5) (by decide) (k_E5 _ _ _) in_X5_yearOn_X5 rfl (by decide) lk_X5_yearOn_f19 rfl rfl dX5_yearOn_74 ?_
              refine lv_iload_n hC.x hC.b dX5_yearOn_77 rfl (lv_at hl 1 rfl) ?_
              refine lv_iconst (v := (0 : Int32)) hC.x hC.b dX5_yearOn_78 (by decide) ?_
              obtain ⟨hg16, h⟩ := gd_t h
              refine x_iast hC hw rfl (by decide) hg16 dX5_yearOn_79 (fun H locs hw => ?_)
              refine lv_aload_n hC.x hC.b dX5_yearOn_80 rfl (lv_at hl 3 rfl) ?_
              refine x_get hC hw (k := 6) (T := TX5) (by decide) (k_E5 _ _ _) in_X5_yearOn_X5 rfl (by decide) lk_X5_yearOn_f16 rfl rfl dX5_yearOn_81 ?_
              refine lv_iload_n hC.x hC.b dX5_yearOn_84 rfl (lv_at hl 1 rfl) ?_
              refine lv_dup2_11 hC.x hC.b dX5_yearOn_85 rfl rfl ?_
              obtain ⟨hg17, h⟩ := gd_t h
              refine x_iald hC hw rfl (by decide) hg17 dX5_yearOn_86 ?_
              refine lv_iconst (v := (1 : Int32)) hC.x hC.b dX5_yearOn_87 (by decide) ?_
              refine lv_isub hC.x hC.b dX5_yearOn_88 ?_
              obtain ⟨hg18, h⟩ := gd_t h
              refine x_iast hC hw rfl (by decide) hg18 dX5_yearOn_89 (fun H locs hw => ?_)
              refine lv_iinc (v := v1 + (1 : Int32)) (lv' := [(1, .int (v1 + (1 : Int32))), (3, .int (g 31 0 ((v2 / (4 : Int32)).toNatClampNeg))), (2, .int (v2)), (0, .ref (k_ad Γ 5 (0)))]) hC.x hC.b dX5_yearOn_90 hl (k := 2) rfl rfl (by decide) rfl (fun ls hl => ?_)
              refine lv_iinc (v := v2 + (1 : Int32)) (lv' := [(2, .int (v2 + (1 : Int32))), (1, .int (v1 + (1 : Int32))), (3, .int (g 31 0 ((v2 / (4 : Int32)).toNatClampNeg))), (0, .ref (k_ad Γ 5 (0)))]) hC.x hC.b dX5_yearOn_93 hl (k := 2) rfl rfl (by decide) rfl (fun ls hl => ?_)
              refine lv_goto (tgt := 4) hC.x hC.b dX5_yearOn_96 (by decide) ?_
              exact ih _ _ _ _ _ _ h _ _ _ hw (lv_sub hl [0, 1, 3] rfl) kk
            · have h := it_f h hc
              refine lv_goto (tgt := 93) hC.x hC.b dX5_yearOn_70 (by decide) ?_
              refine lv_iinc (v := v2 + (1 : Int32)) (lv' := [(2, .int (v2 + (1 : Int32))), (3, .int (g 31 0 ((v2 / (4 : Int32)).toNatClampNeg))), (1, .int (v1)), (0, .ref (k_ad Γ 5 (0)))]) hC.x hC.b dX5_yearOn_93 hl (k := 1) rfl rfl (by decide) rfl (fun ls hl => ?_)
              refine lv_goto (tgt := 4) hC.x hC.b dX5_yearOn_96 (by decide) ?_
              exact ih _ _ _ _ _ _ h _ _ _ hw (lv_sub hl [0, 2, 3] rfl) kk
      · have h := it_t h hc
        refine lv_goto (tgt := 93) hC.x hC.b dX5_yearOn_23 (by decide) ?_
        refine lv_iinc (v := v2 + (1 : Int32)) (lv' := [(2, .int (v2 + (1 : Int32))), (1, .int (v1)), (0, .ref (k_ad Γ 5 (0)))]) hC.x hC.b dX5_yearOn_93 hl (k := 0) rfl rfl (by decide) rfl (fun ls hl => ?_)
        refine lv_goto (tgt := 4) hC.x hC.b dX5_yearOn_96 (by decide) ?_
        exact ih _ _ _ _ _ _ h _ _ _ hw (lv_sub hl [0, 1, 2] rfl) kk

set_option maxRecDepth 100000 in
set_option maxHeartbeats 4000000 in
theorem c_X5_yearOn {Γ : k_Pm} {l : Launch} (hl0 : l.stackTraces = false)   {g : Gt} {r : Int32} {g2 : Gt} (h : f_X5_yearOn  g = some (r, g2)) : k_CI Γ l yX5_yearOn wsX5_yearOn rm_X5_yearOn [.ref (k_ad Γ 5 (0))] g r g2 := by
  intro sz
  refine Met.ofW (cc := cX5_yearOn) (maxL := 4) (ret := (some .int)) (by decide) rfl ?_
  intro p e s m args below meth c s₁ B hml hv
  obtain ⟨rfl, rfl, hP, hKS⟩ := hv
  have hr := B.returns
  have hlocks := B.notSynchronized
  have hC : k_C Γ (k_A Γ s.heap.size) p l s m _ c cX5_yearOn 4 wsX5_yearOn RX5 := k_C.of ⟨B.exec, B.bytes, hml, findClass_of_methodNamed B.named, atoms_spec (ws := wsX5_yearOn) B.pre⟩ hKS hl0
  have hw : k_St Γ (k_A Γ s.heap.size) s [] g s.heap [] := k_St.of hKS hP
  have hl := lv_entry ([.ref (k_ad Γ 5 (0))] : List Value) (n := 4) (Nat.le_of_ble_eq_true rfl)
  rw [lg_entry_eq]
  generalize (lg_sl ([.ref (k_ad Γ 5 (0))] : List Value) ++ List.replicate (4 - (lg_sl ([.ref (k_ad Γ 5 (0))] : List Value)).length) Slot.unset).toArray = ls at hl ⊢
  have hl : lv_has ls 4 [(0, .ref (k_ad Γ 5 (0)))] := hl
  change W p l e rm_X5_yearOn _ _ _ _ _ _ _ _ _ _ _ _
  unfold f_X5_yearOn at h
  refine lv_iconst (v := (0 : Int32)) hC.x hC.b dX5_yearOn_0 (by decide) ?_
  refine lv_istore_n (lv' := [(1, .int ((0 : Int32))), (0, .ref (k_ad Γ 5 (0)))]) hC.x hC.b dX5_yearOn_1 rfl hl (by decide) rfl (fun ls hl => ?_)
  refine lv_iconst (v := (0 : Int32)) hC.x hC.b dX5_yearOn_2 (by decide) ?_
  refine lv_istore_n (lv' := [(2, .int ((0 : Int32))), (1, .int ((0 : Int32))), (0, .ref (k_ad Γ 5 (0)))]) hC.x hC.b dX5_yearOn_3 rfl hl (by decide) rfl (fun ls hl => ?_)
  obtain ⟨w4_1, w4_2, g4, hq, h⟩ := bd3_t h
  refine w_X5_yearOn_4 hC ⟨by decide, by decide⟩  k_N _ _ _ _ _ _ hq _ _ _ hw (lv_sub hl [0, 1, 2] rfl) (fun H locs ls hw hl => ?_)
  refine lv_aload_n hC.x hC.b dX5_yearOn_99 rfl (lv_at hl 2 rfl) ?_
  refine x_get hC hw (k := 12) (T := TX5) (by decide) (k_E5 _ _ _) in_X5_yearOn_X5 rfl (by decide) lk_X5_yearOn_f34 rfl rfl dX5_yearOn_100 ?_
  refine lv_iconst (v := (0 : Int32)) hC.x hC.b dX5_yearOn_103 (by decide) ?_
  refine lv_dup2_11 hC.x hC.b dX5_yearOn_104 rfl rfl ?_
  refine x_iald hC hw rfl (by decide) (by decide) dX5_yearOn_105 ?_
  refine lv_iconst (v := (1 : Int32)) hC.x hC.b dX5_yearOn_106 (by decide) ?_
  refine lv_iadd hC.x hC.b dX5_yearOn_107 ?_
  refine x_iast hC hw rfl (by decide) (by decide) dX5_yearOn_108 (fun H locs hw => ?_)
  refine lv_aload_n hC.x hC.b dX5_yearOn_109 rfl (lv_at hl 2 rfl) ?_
  refine x_get hC hw (k := 12) (T := TX5) (by decide) (k_E5 _ _ _) in_X5_yearOn_X5 rfl (by decide) lk_X5_yearOn_f34 rfl rfl dX5_yearOn_110 ?_
  refine lv_iconst (v := (1 : Int32)) hC.x hC.b dX5_yearOn_113 (by decide) ?_
  refine lv_dup2_11 hC.x hC.b dX5_yearOn_114 rfl rfl ?_
  refine x_iald hC hw rfl (by decide) (by decide) dX5_yearOn_115 ?_
  refine lv_iload_n hC.x hC.b dX5_yearOn_116 rfl (lv_at hl 1 rfl) ?_
  refine lv_iadd hC.x hC.b dX5_yearOn_117 ?_
  refine x_iast hC hw rfl (by decide) (by decide) dX5_yearOn_118 (fun H locs hw => ?_)
  refine lv_iload_n hC.x hC.b dX5_yearOn_119 rfl (lv_at hl 1 rfl) ?_
  obtain ⟨rfl, rfl⟩ := sm2 h
  exact x_iret hC hw hr hlocks (by decide) (by decide) dX5_yearOn_120
abbrev rm_X5_pass : Room := { frames := 1, cells := 0, slots := 0, locals := 23 }
theorem in_X5_pass_X5 : ∀ w ∈ wsX50, w ∈ wsX5_pass := fun _ h => List.mem_cons_of_mem _ (List.mem_append_right _ (h))
set_option maxRecDepth 20000 in
theorem lk_X5_pass_f46 : Cond.fieldLink RX5 46 "KnotArchiveModel" "thrown" "I" ∈ wsX5_pass := by decide +kernel
set_option maxRecDepth 100000 in
set_option maxHeartbeats 4000000 in
theorem w_X5_pass_25 {Γ : k_Pm} {A0 : Nat → Prop} {p : Program} {l : Launch} {e : Env} {s : State} {m : MethodId} {args : Array Value} {below : List Frame} {meth : Method} {c : Code} {cells slots : Nat} {Q : State → Prop} {tmp : va_W} {c1 : Int32} (hC : k_C Γ A0 p l s m args c cX5_pass 4 wsX5_pass RX5) (hcs : cells ≤ rm_X5_pass.cells ∧ slots ≤ rm_X5_pass.slots) : ∀ (n : Nat) (v2 : Int32) (v3 : Int32) (g : Gt) (w2 : Int32) (w3 : Int32) (g2 : Gt), f_X5_pass_25 c1 n v2 v3 g = some (w2, w3, g2) → ∀ (H : Heap) (locs : List Loc) (ls : Array Slot), k_St Γ A0 s tmp g H locs → lv_has ls 4 [(3, .int (v3)), (2, .int (v2)), (0, .ref (k_ad Γ 5 (0))), (1, .int (c1))] → (∀ (H1 : Heap) (locs1 : List Loc) (ls1 : Array Slot), k_St Γ A0 s tmp g2 H1 locs1 → lv_has ls1 4 [(3, .int (w3)), (2, .int (w2)), (0, .ref (k_ad Γ 5 (0))), (1, .int (c1))] → W p l e rm_X5_pass s m args below meth c H1 locs1 cells slots Q (F0 m 43 ls1 [])) → W p l e rm_X5_pass s m args below meth c H locs cells slots Q (F0 m 25 ls []) := by
  intro n
  induction n with
  | zero => intro v2 v3 g w2 w3 g2 h; rw [f_X5_pass_25] at h; cases h
  | succ n ih =>
    intro v2 v3 g w2 w3 g2 h H locs ls hw hl kk
    rw [f_X5_pass_25] at h
    refine lv_iload_n hC.x hC.b dX5_pass_25 rfl (lv_at hl 0 rfl) ?_
    refine lv_iload_n hC.x hC.b dX5_pass_26 rfl (lv_at hl 3 rfl) ?_
    refine lv_icmp_ge (tgt := 43) hC.x hC.b dX5_pass_27 (by decide) (fun hc => ?_) (fun hc => ?_)
    · have h := it_t h hc
      obtain ⟨rfl, rfl, rfl⟩ := sm3 h
      exact kk _ _ _ hw (lv_sub hl [0, 1, 2, 3] rfl)
    · have h := it_f h hc
      refine lv_iload_n hC.x hC.b dX5_pass_30 rfl (lv_at hl 1 rfl) ?_
      refine lv_aload_n hC.x hC.b dX5_pass_31 rfl (lv_at hl 2 rfl) ?_
      obtain ⟨r32, g32, hq, h⟩ := bd2_t h
      refine x_goi hC hw (x_runV hC hw (c_X5_yearOn (Γ := Γ) (l := l) hC.2.2.2.2 hq) (cwV 0 hC.t gX5_pass_X5_yearOn rfl rfl rfl (by decide +kernel) ⟨Nat.le_of_ble_eq_true rfl, Nat.le_of_ble_eq_true rfl⟩) (As := []) (by decide) (k_E5 _ _ _) rfl rfl rfl hl.1 (Nat.le_of_ble_eq_true rfl) dX5_pass_32 hcs) (fun H locs hw => ?_)
      refine lv_iadd hC.x hC.b dX5_pass_35 ?_
      refine lv_istore_n (lv' := [(2, .int (v2 + r32)), (3, .int (v3)), (0, .ref (k_ad Γ 5 (0))), (1, .int (c1))]) hC.x hC.b dX5_pass_36 rfl hl (by decide) rfl (fun ls hl => ?_)
      refine lv_iinc (v := v3 + (1 : Int32)) (lv' := [(3, .int (v3 + (1 : Int32))), (2, .int (v2 + r32)), (0, .ref (k_ad Γ 5 (0))), (1, .int (c1))]) hC.x hC.b dX5_pass_37 hl (k := 1) rfl rfl (by decide) rfl (fun ls hl => ?_)
      refine lv_goto (tgt := 25) hC.x hC.b dX5_pass_40 (by decide) ?_
      exact ih _ _ _ _ _ _ h _ _ _ hw (lv_sub hl [0, 1, 2, 3] rfl) kk

set_option maxRecDepth 100000 in
set_option maxHeartbeats 4000000 in
theorem c_X5_pass {Γ : k_Pm} {l : Launch} (hl0 : l.stackTraces = false) {x1 : Int32}  {g : Gt} {r : Int32} {g2 : Gt} (h : f_X5_pass x1 g = some (r, g2)) : k_CI Γ l yX5_pass wsX5_pass rm_X5_pass [.ref (k_ad Γ 5 (0)), .int (x1)] g r g2 := by
  intro sz
  refine Met.ofW (cc := cX5_pass) (maxL := 4) (ret := (some .int)) (by decide) rfl ?_
  intro p e s m args below meth c s₁ B hml hv
  obtain ⟨rfl, rfl, hP, hKS⟩ := hv
  have hr := B.returns
  have hlocks := B.notSynchronized
  have hC : k_C Γ (k_A Γ s.heap.size) p l s m _ c cX5_pass 4 wsX5_pass RX5 := k_C.of ⟨B.exec, B.bytes, hml, findClass_of_methodNamed B.named, atoms_spec (ws := wsX5_pass) B.pre⟩ hKS hl0
  have hw : k_St Γ (k_A Γ s.heap.size) s [] g s.heap [] := k_St.of hKS hP
  have hl := lv_entry ([.ref (k_ad Γ 5 (0)), .int (x1)] : List Value) (n := 4) (Nat.le_of_ble_eq_true rfl)
  rw [lg_entry_eq]
  generalize (lg_sl ([.ref (k_ad Γ 5 (0)), .int (x1)] : List Value) ++ List.replicate (4 - (lg_sl ([.ref (k_ad Γ 5 (0)), .int (x1)] : List Value)).length) Slot.unset).toArray = ls at hl ⊢
  have hl : lv_has ls 4 [(0, .ref (k_ad Γ 5 (0))), (1, .int (x1))] := hl
  change W p l e rm_X5_pass _ _ _ _ _ _ _ _ _ _ _ _
  unfold f_X5_pass at h
  refine lv_aload_n hC.x hC.b dX5_pass_0 rfl (lv_at hl 0 rfl) ?_
  refine lv_iconst (v := (0 : Int32)) hC.x hC.b dX5_pass_1 (by decide) ?_
  refine x_puti hC hw (k := 0) (T := TX5) (by decide) (k_E5 _ _ _) in_X5_pass_X5 rfl (by decide) lk_X5_pass_f46 rfl tyX5 tyX5_ok nmX5 rfl (by decide +kernel) (Nat.le_of_ble_eq_true rfl) (by rw [k_E5]; rfl) dX5_pass_2 (fun H locs hw => ?_)
  refine lv_iload_n hC.x hC.b dX5_pass_5 rfl (lv_at hl 1 rfl) ?_
  refine lv_iconst (v := (1 : Int32)) hC.x hC.b dX5_pass_6 (by decide) ?_
  refine lv_bipush (v := (50 : Int32)) hC.x hC.b dX5_pass_7 (by decide) ?_
  obtain ⟨r9, g9, hq, h⟩ := bd2_t h
  refine x_goi hC hw (x_runS hC hw (c_X5_isIn (Γ := Γ) (l := l) hC.2.2.2.2 hq) (va_cwS 3 hC.t gX5_pass_X5_isIn rfl rfl rfl (by decide +kernel) ⟨Nat.le_of_ble_eq_true rfl, Nat.le_of_ble_eq_true rfl⟩) (As := [.int (x1), .int ((1 : Int32)), .int ((50 : Int32))]) rfl hl.1 (Nat.le_of_ble_eq_true rfl) dX5_pass_9 ⟨by decide, by decide⟩) (fun H locs hw => ?_)
  refine lv_if_ne (tgt := 21) hC.x hC.b dX5_pass_12 (by decide) (fun hc => ?_) (fun hc => ?_)
  · have h := it_f h hc
    refine lv_iconst (v := (0 : Int32)) hC.x hC.b dX5_pass_21 (by decide) ?_
    refine lv_istore_n (lv' := [(2, .int ((0 : Int32))), (0, .ref (k_ad Γ 5 (0))), (1, .int (x1))]) hC.x hC.b dX5_pass_22 rfl hl (by decide) rfl (fun ls hl => ?_)
    refine lv_iconst (v := (0 : Int32)) hC.x hC.b dX5_pass_23 (by decide) ?_
    refine lv_istore_n (lv' := [(3, .int ((0 : Int32))), (2, .int ((0 : Int32))), (0, .ref (k_ad Γ 5 (0))), (1, .int (x1))]) hC.x hC.b dX5_pass_24 rfl hl (by decide) rfl (fun ls hl => ?_)
    obtain ⟨w25_2, w25_3, g25, hq, h⟩ := bd3_t h
    refine w_X5_pass_25 hC ⟨by decide, by decide⟩  k_N _ _ _ _ _ _ hq _ _ _ hw (lv_sub hl [0, 1, 2, 3] rfl) (fun H locs ls hw hl => ?_)
    refine lv_iload_n hC.x hC.b dX5_pass_43 rfl (lv_at hl 1 rfl) ?_
    obtain ⟨rfl, rfl⟩ := sm2 h
    exact x_iret hC hw hr hlocks (by decide) (by decide) dX5_pass_44
  · have h := it_t h hc
    refine lv_aload_n hC.x hC.b dX5_pass_15 rfl (lv_at hl 0 rfl) ?_
    refine lv_iconst (v := (1 : Int32)) hC.x hC.b dX5_pass_16 (by decide) ?_
    obtain ⟨r17, g17, hq, h⟩ := bd2_t h
    refine x_goi hC hw (x_runV hC hw (c_X5_fail (Γ := Γ) (l := l) hC.2.2.2.2 hq) (cwV 1 hC.t gX5_pass_X5_fail rfl rfl rfl (by decide +kernel) ⟨Nat.le_of_ble_eq_true rfl, Nat.le_of_ble_eq_true rfl⟩) (As := [.int ((1 : Int32))]) (by decide) (k_E5 _ _ _) rfl rfl rfl hl.1 (Nat.le_of_ble_eq_true rfl) dX5_pass_17 ⟨by decide, by decide⟩) (fun H locs hw => ?_)
    obtain ⟨rfl, rfl⟩ := sm2 h
    exact x_iret hC hw hr hlocks (by decide) (by decide) dX5_pass_20
abbrev rm_X5_told : Room := { frames := 4, cells := 0, slots := 0, locals := 91 }
theorem in_X5_told_X5 : ∀ w ∈ wsX50, w ∈ wsX5_told := fun _ h => List.mem_cons_of_mem _ (List.mem_append_right _ (h))
set_option maxRecDepth 20000 in
theorem lk_X5_told_f34 : Cond.fieldLink RX5 34 "KnotArchiveModel" "numbers" "[I" ∈ wsX5_told := by decide +kernel
set_option maxRecDepth 20000 in
theorem lk_X5_told_f50 : Cond.fieldLink RX5 50 "KnotArchiveModel" "cords" "I" ∈ wsX5_told := by decide +kernel
set_option maxRecDepth 20000 in
theorem lk_X5_told_f57 : Cond.fieldLink RX5 57 "KnotArchiveModel" "witnesses" "I" ∈ wsX5_told := by decide +kernel
set_option maxRecDepth 20000 in
theorem lk_X5_told_f16 : Cond.fieldLink RX5 16 "KnotArchiveModel" "knots" "[I" ∈ wsX5_told := by decide +kernel
set_option maxRecDepth 20000 in
theorem lk_X5_told_f80 : Cond.fieldLink RX5 80 "KnotArchiveModel" "untied" "I" ∈ wsX5_told := by decide +kernel
set_option maxRecDepth 20000 in
theorem lk_X5_told_f9 : Cond.fieldLink RX5 9 "KnotArchiveModel" "from" "[I" ∈ wsX5_told := by decide +kernel
set_option maxRecDepth 100000 in
set_option maxHeartbeats 4000000 in
theorem w_X5_told_63 {Γ : k_Pm} {A0 : Nat → Prop} {p : Program} {l : Launch} {e : Env} {s : State} {m : MethodId} {args : Array Value} {below : List Frame} {meth : Method} {c : Code} {cells slots : Nat} {Q : State → Prop} {tmp : va_W} {c1 : Int32} (hC : k_C Γ A0 p l s m args c cX5_told 4 wsX5_told RX5) (hcs : cells ≤ rm_X5_told.cells ∧ slots ≤ rm_X5_told.slots) : ∀ (n : Nat) (v2 : Int32) (v3 : Int32) (g : Gt) (w2 : Int32) (w3 : Int32) (g2 : Gt), f_X5_told_63 c1 n v2 v3 g = some (w2, w3, g2) → ∀ (H : Heap) (locs : List Loc) (ls : Array Slot), k_St Γ A0 s tmp g H locs → lv_has ls 4 [(3, .int (v3)), (2, .int (v2)), (0, .ref (k_ad Γ 5 (0))), (1, .int (c1))] → (∀ (H1 : Heap) (locs1 : List Loc) (ls1 : Array Slot), k_St Γ A0 s tmp g2 H1 locs1 → lv_has ls1 4 [(3, .int (w3)), (2, .int (w2)), (0, .ref (k_ad Γ 5 (0))), (1, .int (c1))] → W p l e rm_X5_told s m args below meth c H1 locs1 cells slots Q (F0 m 88 ls1 [])) → W p l e rm_X5_told s m args below meth c H locs cells slots Q (F0 m 63 ls []) := by
  intro n
  induction n with
  | zero => intro v2 v3 g w2 w3 g2 h; rw [f_X5_told_63] at h; cases h
  | succ n ih =>
    intro v2 v3 g w2 w3 g2 h H locs ls hw hl kk
    rw [f_X5_told_63] at h
    refine lv_iload_n hC.x hC.b dX5_told_63 rfl (lv_at hl 0 rfl) ?_
    refine lv_iconst (v := (4 : Int32)) hC.x hC.b dX5_told_64 (by decide) ?_
    refine lv_aload_n hC.x hC.b dX5_told_65 rfl (lv_at hl 2 rfl) ?_
    refine x_get hC hw (k := 1) (T := TX5) (by decide) (k_E5 _ _ _) in_X5_told_X5 rfl (by decide) lk_X5_told_f50 rfl rfl dX5_told_66 ?_
    refine lv_imul hC.x hC.b dX5_told_69 ?_
    refine lv_icmp_ge (tgt := 88) hC.x hC.b dX5_told_70 (by decide) (fun hc => ?_) (fun hc => ?_)
    · have h := it_t h hc
      obtain ⟨rfl, rfl, rfl⟩ := sm3 h
      exact kk _ _ _ hw (lv_sub hl [0, 1, 2, 3] rfl)
    · have h := it_f h hc
      refine lv_iload_n hC.x hC.b dX5_told_73 rfl (lv_at hl 1 rfl) ?_
      refine lv_aload_n hC.x hC.b dX5_told_74 rfl (lv_at hl 2 rfl) ?_
      refine x_get hC hw (k := 6) (T := TX5) (by decide) (k_E5 _ _ _) in_X5_told_X5 rfl (by decide) lk_X5_told_f16 rfl rfl dX5_told_75 ?_
      refine lv_iload_n hC.x hC.b dX5_told_78 rfl (lv_at hl 0 rfl) ?_
      obtain ⟨hg1, h⟩ := gd_t h
      refine x_iald hC hw rfl (by decide) hg1 dX5_told_79 ?_
      refine lv_iadd hC.x hC.b dX5_told_80 ?_
      refine lv_istore_n (lv' := [(2, .int (v2 + (g 32 0 v3.toNatClampNeg))), (3, .int (v3)), (0, .ref (k_ad Γ 5 (0))), (1, .int (c1))]) hC.x hC.b dX5_told_81 rfl hl (by decide) rfl (fun ls hl => ?_)
      refine lv_iinc (v := v3 + (1 : Int32)) (lv' := [(3, .int (v3 + (1 : Int32))), (2, .int (v2 + (g 32 0 v3.toNatClampNeg))), (0, .ref (k_ad Γ 5 (0))), (1, .int (c1))]) hC.x hC.b dX5_told_82 hl (k := 1) rfl rfl (by decide) rfl (fun ls hl => ?_)
      refine lv_goto (tgt := 63) hC.x hC.b dX5_told_85 (by decide) ?_
      exact ih _ _ _ _ _ _ h _ _ _ hw (lv_sub hl [0, 1, 2, 3] rfl) kk

set_option maxRecDepth 100000 in
set_option maxHeartbeats 4000000 in
theorem w_X5_told_97 {Γ : k_Pm} {A0 : Nat → Prop} {p : Program} {l : Launch} {e : Env} {s : State} {m : MethodId} {args : Array Value} {below : List Frame} {meth : Method} {c : Code} {cells slots : Nat} {Q : State → Prop} {tmp : va_W} {c1 : Int32} (hC : k_C Γ A0 p l s m args c cX5_told 4 wsX5_told RX5) (hcs : cells ≤ rm_X5_told.cells ∧ slots ≤ rm_X5_told.slots) : ∀ (n : Nat) (v2 : Int32) (v3 : Int32) (g : Gt) (w2 : Int32) (w3 : Int32) (g2 : Gt), f_X5_told_97 c1 n v2 v3 g = some (w2, w3, g2) → ∀ (H : Heap) (locs : List Loc) (ls : Array Slot), k_St Γ A0 s tmp g H locs → lv_has ls 4 [(3, .int (v3)), (2, .int (v2)), (0, .ref (k_ad Γ 5 (0))), (1, .int (c1))] → (∀ (H1 : Heap) (locs1 : List Loc) (ls1 : Array Slot), k_St Γ A0 s tmp g2 H1 locs1 → lv_has ls1 4 [(3, .int (w3)), (2, .int (w2)), (0, .ref (k_ad Γ 5 (0))), (1, .int (c1))] → W p l e rm_X5_told s m args below meth c H1 locs1 cells slots Q (F0 m 151 ls1 [])) → W p l e rm_X5_told s m args below meth c H locs cells slots Q (F0 m 97 ls []) := by
  intro n
  induction n with
  | zero => intro v2 v3 g w2 w3 g2 h; rw [f_X5_told_97] at h; cases h
  | succ n ih =>
    intro v2 v3 g w2 w3 g2 h H locs ls hw hl kk
    rw [f_X5_told_97] at h
    refine lv_iload_n hC.x hC.b dX5_told_97 rfl (lv_at hl 0 rfl) ?_
    refine lv_aload_n hC.x hC.b dX5_told_98 rfl (lv_at hl 2 rfl) ?_
    refine x_get hC hw (k := 1) (T := TX5) (by decide) (k_E5 _ _ _) in_X5_told_X5 rfl (by decide) lk_X5_told_f50 rfl rfl dX5_told_99 ?_
    refine lv_icmp_ge (tgt := 151) hC.x hC.b dX5_told_102 (by decide) (fun hc => ?_) (fun hc => ?_)
    · have h := it_t h hc
      obtain ⟨rfl, rfl, rfl⟩ := sm3 h
      exact kk _ _ _ hw (lv_sub hl [0, 1, 2, 3] rfl)
    · have h := it_f h hc
      refine lv_iload_n hC.x hC.b dX5_told_105 rfl (lv_at hl 1 rfl) ?_
      refine lv_iload_n hC.x hC.b dX5_told_106 rfl (lv_at hl 3 rfl) ?_
      refine lv_iconst (v := (5 : Int32)) hC.x hC.b dX5_told_107 (by decide) ?_
      refine lv_icmp_ne (tgt := 123) hC.x hC.b dX5_told_108 (by decide) (fun hc => ?_) (fun hc => ?_)
      · have h := it_f h hc
        refine lv_aload_n hC.x hC.b dX5_told_123 rfl (lv_at hl 2 rfl) ?_
        refine x_get hC hw (k := 4) (T := TX5) (by decide) (k_E5 _ _ _) in_X5_told_X5 rfl (by decide) lk_X5_told_f9 rfl rfl dX5_told_124 ?_
        refine lv_iload_n hC.x hC.b dX5_told_127 rfl (lv_at hl 0 rfl) ?_
        obtain ⟨hg2, h⟩ := gd_t h
        refine x_iald hC hw rfl (by decide) hg2 dX5_told_128 ?_
        refine lv_iconst (v := (-1 : Int32)) hC.x hC.b dX5_told_129 (by decide) ?_
        refine lv_icmp_ne (tgt := 142) hC.x hC.b dX5_told_130 (by decide) (fun hc => ?_) (fun hc => ?_)
        · have h := it_f h hc
          refine lv_iconst (v := (0 : Int32)) hC.x hC.b dX5_told_142 (by decide) ?_
          refine lv_iadd hC.x hC.b dX5_told_143 ?_
          refine lv_istore_n (lv' := [(2, .int (v2 + (0 : Int32))), (3, .int (v3)), (0, .ref (k_ad Γ 5 (0))), (1, .int (c1))]) hC.x hC.b dX5_told_144 rfl hl (by decide) rfl (fun ls hl => ?_)
          refine lv_iinc (v := v3 + (1 : Int32)) (lv' := [(3, .int (v3 + (1 : Int32))), (2, .int (v2 + (0 : Int32))), (0, .ref (k_ad Γ 5 (0))), (1, .int (c1))]) hC.x hC.b dX5_told_145 hl (k := 1) rfl rfl (by decide) rfl (fun ls hl => ?_)
          refine lv_goto (tgt := 97) hC.x hC.b dX5_told_148 (by decide) ?_
          exact ih _ _ _ _ _ _ h _ _ _ hw (lv_sub hl [0, 1, 2, 3] rfl) kk
        · have h := it_t h hc
          refine lv_aload_n hC.x hC.b dX5_told_133 rfl (lv_at hl 2 rfl) ?_
          refine lv_iload_n hC.x hC.b dX5_told_134 rfl (lv_at hl 0 rfl) ?_
          refine lv_iconst (v := (3 : Int32)) hC.x hC.b dX5_told_135 (by decide) ?_
          obtain ⟨r136, g136, hq, h⟩ := bd2_t h
          refine x_goi hC hw (x_runV hC hw (c_X5_cordTold (Γ := Γ) (l := l) hC.2.2.2.2 hq) (cwV 2 hC.t gX5_told_X5_cordTold rfl rfl rfl (by decide +kernel) ⟨Nat.le_of_ble_eq_true rfl, Nat.le_of_ble_eq_true rfl⟩) (As := [.int (v3), .int ((3 : Int32))]) (by decide) (k_E5 _ _ _) rfl rfl rfl hl.1 (Nat.le_of_ble_eq_true rfl) dX5_told_136 hcs) (fun H locs hw => ?_)
          refine lv_goto (tgt := 143) hC.x hC.b dX5_told_139 (by decide) ?_
          refine lv_iadd hC.x hC.b dX5_told_143 ?_
          refine lv_istore_n (lv' := [(2, .int (v2 + r136)), (3, .int (v3)), (0, .ref (k_ad Γ 5 (0))), (1, .int (c1))]) hC.x hC.b dX5_told_144 rfl hl (by decide) rfl (fun ls hl => ?_)
          refine lv_iinc (v := v3 + (1 : Int32)) (lv' := [(3, .int (v3 + (1 : Int32))), (2, .int (v2 + r136)), (0, .ref (k_ad Γ 5 (0))), (1, .int (c1))]) hC.x hC.b dX5_told_145 hl (k := 1) rfl rfl (by decide) rfl (fun ls hl => ?_)
          refine lv_goto (tgt := 97) hC.x hC.b dX5_told_148 (by decide) ?_
          exact ih _ _ _ _ _ _ h _ _ _ hw (lv_sub hl [0, 1, 2, 3] rfl) kk
      · have h := it_t h hc
        refine lv_iconst (v := (1 : Int32)) hC.x hC.b dX5_told_111 (by decide) ?_
        refine lv_aload_n hC.x hC.b dX5_told_112 rfl (lv_at hl 2 rfl) ?_
        refine lv_iload_n hC.x hC.b dX5_told_113 rfl (lv_at hl 0 rfl) ?_
        refine lv_bipush (v := (6 : Int32)) hC.x hC.b dX5_told_114 (by decide) ?_
        obtain ⟨r116, g116, hq, h⟩ := bd2_t h
        refine x_goi hC hw (x_runV hC hw (c_X5_cordTold (Γ := Γ) (l := l) hC.2.2.2.2 hq) (cwV 2 hC.t gX5_told_X5_cordTold rfl rfl rfl (by decide +kernel) ⟨Nat.le_of_ble_eq_true rfl, Nat.le_of_ble_eq_true rfl⟩) (As := [.int (v3), .int ((6 : Int32))]) (by decide) (k_E5 _ _ _) rfl rfl rfl hl.1 (Nat.le_of_ble_eq_true rfl) dX5_told_116 hcs) (fun H locs hw => ?_)
        refine lv_isub hC.x hC.b dX5_told_119 ?_
        refine lv_goto (tgt := 143) hC.x hC.b dX5_told_120 (by decide) ?_
        refine lv_iadd hC.x hC.b dX5_told_143 ?_
        refine lv_istore_n (lv' := [(2, .int (v2 + ((1 : Int32) - r116))), (3, .int (v3)), (0, .ref (k_ad Γ 5 (0))), (1, .int (c1))]) hC.x hC.b dX5_told_144 rfl hl (by decide) rfl (fun ls hl => ?_)
        refine lv_iinc (v := v3 + (1 : Int32)) (lv' := [(3, .int (v3 + (1 : Int32))), (2, .int (v2 + ((1 : Int32) - r116))), (0, .ref (k_ad Γ 5 (0))), (1, .int (c1))]) hC.x hC.b dX5_told_145 hl (k := 1) rfl rfl (by decide) rfl (fun ls hl => ?_)
        refine lv_goto (tgt := 97) hC.x hC.b dX5_told_148 (by decide) ?_
        exact ih _ _ _ _ _ _ h _ _ _ hw (lv_sub hl [0, 1, 2, 3] rfl) kk

set_option maxRecDepth 100000 in
set_option maxHeartbeats 4000000 in
theorem c_X5_told {Γ : k_Pm} {l : Launch} (hl0 : l.stackTraces = false) {x1 : Int32}  {g : Gt} {r : Int32} {g2 : Gt} (h : f_X5_told x1 g = some (r, g2)) : k_CI Γ l yX5_told wsX5_told rm_X5_told [.ref (k_ad Γ 5 (0)), .int (x1)] g r g2 := by
  intro sz
  refine Met.ofW (cc := cX5_told) (maxL := 4) (ret := (some .int)) (by decide) rfl ?_
  intro p e s m args below meth c s₁ B hml hv
  obtain ⟨rfl, rfl, hP, hKS⟩ := hv
  have hr := B.returns
  have hlocks := B.notSynchronized
  have hC : k_C Γ (k_A Γ s.heap.size) p l s m _ c cX5_told 4 wsX5_told RX5 := k_C.of ⟨B.exec, B.bytes, hml, findClass_of_methodNamed B.named, atoms_spec (ws := wsX5_told) B.pre⟩ hKS hl0
  have hw : k_St Γ (k_A Γ s.heap.size) s [] g s.heap [] := k_St.of hKS hP
  have hl := lv_entry ([.ref (k_ad Γ 5 (0)), .int (x1)] : List Value) (n := 4) (Nat.le_of_ble_eq_true rfl)
  rw [lg_entry_eq]
  generalize (lg_sl ([.ref (k_ad Γ 5 (0)), .int (x1)] : List Value) ++ List.replicate (4 - (lg_sl ([.ref (k_ad Γ 5 (0)), .int (x1)] : List Value)).length) Slot.unset).toArray = ls at hl ⊢
  have hl : lv_has ls 4 [(0, .ref (k_ad Γ 5 (0))), (1, .int (x1))] := hl
  change W p l e rm_X5_told _ _ _ _ _ _ _ _ _ _ _ _
  unfold f_X5_told at h
  refine lv_iconst (v := (0 : Int32)) hC.x hC.b dX5_told_0 (by decide) ?_
  refine lv_istore_n (lv' := [(2, .int ((0 : Int32))), (0, .ref (k_ad Γ 5 (0))), (1, .int (x1))]) hC.x hC.b dX5_told_1 rfl hl (by decide) rfl (fun ls hl => ?_)
  refine lv_iload_n hC.x hC.b dX5_told_2 rfl (lv_at hl 2 rfl) ?_
  by_cases hs0 : x1 = 0
  · have h := it_t h hs0
    refine lv_tableIn (off := 41) (tgt := 44) hC.x hC.b dX5_told_3 (by rw [hs0]; decide) (by rw [hs0]; decide) (by rw [hs0]; decide) (by decide) ?_
    refine lv_aload_n hC.x hC.b dX5_told_44 rfl (lv_at hl 1 rfl) ?_
    refine x_get hC hw (k := 12) (T := TX5) (by decide) (k_E5 _ _ _) in_X5_told_X5 rfl (by decide) lk_X5_told_f34 rfl rfl dX5_told_45 ?_
    refine lv_iconst (v := (0 : Int32)) hC.x hC.b dX5_told_48 (by decide) ?_
    refine x_iald hC hw rfl (by decide) (by decide) dX5_told_49 ?_
    obtain ⟨rfl, rfl⟩ := sm2 h
    exact x_iret hC hw hr hlocks (by decide) (by decide) dX5_told_50
  have h := it_f h hs0
  by_cases hs1 : x1 = 1
  · have h := it_t h hs1
    refine lv_tableIn (off := 48) (tgt := 51) hC.x hC.b dX5_told_3 (by rw [hs1]; decide) (by rw [hs1]; decide) (by rw [hs1]; decide) (by decide) ?_
    refine lv_aload_n hC.x hC.b dX5_told_51 rfl (lv_at hl 1 rfl) ?_
    refine x_get hC hw (k := 1) (T := TX5) (by decide) (k_E5 _ _ _) in_X5_told_X5 rfl (by decide) lk_X5_told_f50 rfl rfl dX5_told_52 ?_
    obtain ⟨rfl, rfl⟩ := sm2 h
    exact x_iret hC hw hr hlocks (by decide) (by decide) dX5_told_55
  have h := it_f h hs1
  by_cases hs2 : x1 = 2
  · have h := it_t h hs2
    refine lv_tableIn (off := 53) (tgt := 56) hC.x hC.b dX5_told_3 (by rw [hs2]; decide) (by rw [hs2]; decide) (by rw [hs2]; decide) (by decide) ?_
    refine lv_aload_n hC.x hC.b dX5_told_56 rfl (lv_at hl 1 rfl) ?_
    refine x_get hC hw (k := 2) (T := TX5) (by decide) (k_E5 _ _ _) in_X5_told_X5 rfl (by decide) lk_X5_told_f57 rfl rfl dX5_told_57 ?_
    obtain ⟨rfl, rfl⟩ := sm2 h
    exact x_iret hC hw hr hlocks (by decide) (by decide) dX5_told_60
  have h := it_f h hs2
  by_cases hs3 : x1 = 3
  · have h := it_t h hs3
    refine lv_tableIn (off := 58) (tgt := 61) hC.x hC.b dX5_told_3 (by rw [hs3]; decide) (by rw [hs3]; decide) (by rw [hs3]; decide) (by decide) ?_
    refine lv_iconst (v := (0 : Int32)) hC.x hC.b dX5_told_61 (by decide) ?_
    refine lv_istore_n (lv' := [(3, .int ((0 : Int32))), (2, .int ((0 : Int32))), (0, .ref (k_ad Γ 5 (0))), (1, .int (x1))]) hC.x hC.b dX5_told_62 rfl hl (by decide) rfl (fun ls hl => ?_)
    obtain ⟨w63_2, w63_3, g63, hq, h⟩ := bd3_t h
    refine w_X5_told_63 hC ⟨by decide, by decide⟩  k_N _ _ _ _ _ _ hq _ _ _ hw (lv_sub hl [0, 1, 2, 3] rfl) (fun H locs ls hw hl => ?_)
    refine lv_iload_n hC.x hC.b dX5_told_88 rfl (lv_at hl 1 rfl) ?_
    obtain ⟨rfl, rfl⟩ := sm2 h
    exact x_iret hC hw hr hlocks (by decide) (by decide) dX5_told_89
  have h := it_f h hs3
  by_cases hs4 : x1 = 4
  · have h := it_t h hs4
    refine lv_tableIn (off := 87) (tgt := 90) hC.x hC.b dX5_told_3 (by rw [hs4]; decide) (by rw [hs4]; decide) (by rw [hs4]; decide) (by decide) ?_
    refine lv_aload_n hC.x hC.b dX5_told_90 rfl (lv_at hl 1 rfl) ?_
    refine x_get hC hw (k := 3) (T := TX5) (by decide) (k_E5 _ _ _) in_X5_told_X5 rfl (by decide) lk_X5_told_f80 rfl rfl dX5_told_91 ?_
    obtain ⟨rfl, rfl⟩ := sm2 h
    exact x_iret hC hw hr hlocks (by decide) (by decide) dX5_told_94
  have h := it_f h hs4
  by_cases hs5 : x1 = 5
  · have h := it_t h hs5
    refine lv_tableIn (off := 92) (tgt := 95) hC.x hC.b dX5_told_3 (by rw [hs5]; decide) (by rw [hs5]; decide) (by rw [hs5]; decide) (by decide) ?_
    refine lv_iconst (v := (0 : Int32)) hC.x hC.b dX5_told_95 (by decide) ?_
    refine lv_istore_n (lv' := [(3, .int ((0 : Int32))), (2, .int ((0 : Int32))), (0, .ref (k_ad Γ 5 (0))), (1, .int (x1))]) hC.x hC.b dX5_told_96 rfl hl (by decide) rfl (fun ls hl => ?_)
    obtain ⟨w97_2, w97_3, g97, hq, h⟩ := bd3_t h
    refine w_X5_told_97 hC ⟨by decide, by decide⟩  k_N _ _ _ _ _ _ hq _ _ _ hw (lv_sub hl [0, 1, 2, 3] rfl) (fun H locs ls hw hl => ?_)
    refine lv_iload_n hC.x hC.b dX5_told_151 rfl (lv_at hl 1 rfl) ?_
    obtain ⟨rfl, rfl⟩ := sm2 h
    exact x_iret hC hw hr hlocks (by decide) (by decide) dX5_told_152
  have h := it_f h hs5
  by_cases hs6 : x1 = 6
  · have h := it_t h hs6
    refine lv_tableIn (off := 92) (tgt := 95) hC.x hC.b dX5_told_3 (by rw [hs6]; decide) (by rw [hs6]; decide) (by rw [hs6]; decide) (by decide) ?_
    refine lv_iconst (v := (0 : Int32)) hC.x hC.b dX5_told_95 (by decide) ?_
    refine lv_istore_n (lv' := [(3, .int ((0 : Int32))), (2, .int ((0 : Int32))), (0, .ref (k_ad Γ 5 (0))), (1, .int (x1))]) hC.x hC.b dX5_told_96 rfl hl (by decide) rfl (fun ls hl => ?_)
    obtain ⟨w97_2, w97_3, g97, hq, h⟩ := bd3_t h
    refine w_X5_told_97 hC ⟨by decide, by decide⟩  k_N _ _ _ _ _ _ hq _ _ _ hw (lv_sub hl [0, 1, 2, 3] rfl) (fun H locs ls hw hl => ?_)
    refine lv_iload_n hC.x hC.b dX5_told_151 rfl (lv_at hl 1 rfl) ?_
    obtain ⟨rfl, rfl⟩ := sm2 h
    exact x_iret hC hw hr hlocks (by decide) (by decide) dX5_told_152
  have h := it_f h hs6
  refine lv_tableOut (tgt := 153) hC.x hC.b dX5_told_3 (k_out6 hs0 hs1 hs2 hs3 hs4 hs5 hs6) (by decide) ?_
  refine lv_aload_n hC.x hC.b dX5_told_153 rfl (lv_at hl 1 rfl) ?_
  refine x_get hC hw (k := 12) (T := TX5) (by decide) (k_E5 _ _ _) in_X5_told_X5 rfl (by decide) lk_X5_told_f34 rfl rfl dX5_told_154 ?_
  refine lv_iconst (v := (1 : Int32)) hC.x hC.b dX5_told_157 (by decide) ?_
  refine x_iald hC hw rfl (by decide) (by decide) dX5_told_158 ?_
  obtain ⟨rfl, rfl⟩ := sm2 h
  exact x_iret hC hw hr hlocks (by decide) (by decide) dX5_told_159
abbrev rm_X5_count_ : Room := { frames := 5, cells := 0, slots := 0, locals := 114 }
theorem in_X5_count__X5 : ∀ w ∈ wsX50, w ∈ wsX5_count_ := fun _ h => List.mem_cons_of_mem _ (List.mem_append_right _ (h))
set_option maxRecDepth 20000 in
theorem lk_X5_count__f46 : Cond.fieldLink RX5 46 "KnotArchiveModel" "thrown" "I" ∈ wsX5_count_ := by decide +kernel
set_option maxRecDepth 100000 in
set_option maxHeartbeats 4000000 in
theorem c_X5_count_ {Γ : k_Pm} {l : Launch} (hl0 : l.stackTraces = false) {x1 : Int32}  {g : Gt} {r : Int32} {g2 : Gt} (h : f_X5_count_ x1 g = some (r, g2)) : k_CI Γ l yX5_count_ wsX5_count_ rm_X5_count_ [.ref (k_ad Γ 5 (0)), .int (x1)] g r g2 := by
  intro sz
  refine Met.ofW (cc := cX5_count_) (maxL := 2) (ret := (some .int)) (by decide) rfl ?_
  intro p e s m args below meth c s₁ B hml hv
  obtain ⟨rfl, rfl, hP, hKS⟩ := hv
  have hr := B.returns
  have hlocks := B.notSynchronized
  have hC : k_C Γ (k_A Γ s.heap.size) p l s m _ c cX5_count_ 2 wsX5_count_ RX5 := k_C.of ⟨B.exec, B.bytes, hml, findClass_of_methodNamed B.named, atoms_spec (ws := wsX5_count_) B.pre⟩ hKS hl0
  have hw : k_St Γ (k_A Γ s.heap.size) s [] g s.heap [] := k_St.of hKS hP
  have hl := lv_entry ([.ref (k_ad Γ 5 (0)), .int (x1)] : List Value) (n := 2) (Nat.le_of_ble_eq_true rfl)
  rw [lg_entry_eq]
  generalize (lg_sl ([.ref (k_ad Γ 5 (0)), .int (x1)] : List Value) ++ List.replicate (2 - (lg_sl ([.ref (k_ad Γ 5 (0)), .int (x1)] : List Value)).length) Slot.unset).toArray = ls at hl ⊢
  have hl : lv_has ls 2 [(0, .ref (k_ad Γ 5 (0))), (1, .int (x1))] := hl
  change W p l e rm_X5_count_ _ _ _ _ _ _ _ _ _ _ _ _
  unfold f_X5_count_ at h
  refine lv_aload_n hC.x hC.b dX5_count__0 rfl (lv_at hl 0 rfl) ?_
  refine lv_iconst (v := (0 : Int32)) hC.x hC.b dX5_count__1 (by decide) ?_
  refine x_puti hC hw (k := 0) (T := TX5) (by decide) (k_E5 _ _ _) in_X5_count__X5 rfl (by decide) lk_X5_count__f46 rfl tyX5 tyX5_ok nmX5 rfl (by decide +kernel) (Nat.le_of_ble_eq_true rfl) (by rw [k_E5]; rfl) dX5_count__2 (fun H locs hw => ?_)
  refine lv_iload_n hC.x hC.b dX5_count__5 rfl (lv_at hl 1 rfl) ?_
  refine lv_iconst (v := (0 : Int32)) hC.x hC.b dX5_count__6 (by decide) ?_
  refine lv_bipush (v := (7 : Int32)) hC.x hC.b dX5_count__7 (by decide) ?_
  obtain ⟨r9, g9, hq, h⟩ := bd2_t h
  refine x_goi hC hw (x_runS hC hw (c_X5_isIn (Γ := Γ) (l := l) hC.2.2.2.2 hq) (va_cwS 3 hC.t gX5_count__X5_isIn rfl rfl rfl (by decide +kernel) ⟨Nat.le_of_ble_eq_true rfl, Nat.le_of_ble_eq_true rfl⟩) (As := [.int (x1), .int ((0 : Int32)), .int ((7 : Int32))]) rfl hl.1 (Nat.le_of_ble_eq_true rfl) dX5_count__9 ⟨by decide, by decide⟩) (fun H locs hw => ?_)
  refine lv_if_eq (tgt := 23) hC.x hC.b dX5_count__12 (by decide) (fun hc => ?_) (fun hc => ?_)
  · have h := it_t h hc
    refine lv_aload_n hC.x hC.b dX5_count__23 rfl (lv_at hl 0 rfl) ?_
    refine lv_iconst (v := (1 : Int32)) hC.x hC.b dX5_count__24 (by decide) ?_
    obtain ⟨r25, g25, hq, h⟩ := bd2_t h
    refine x_goi hC hw (x_runV hC hw (c_X5_fail (Γ := Γ) (l := l) hC.2.2.2.2 hq) (cwV 1 hC.t gX5_count__X5_fail rfl rfl rfl (by decide +kernel) ⟨Nat.le_of_ble_eq_true rfl, Nat.le_of_ble_eq_true rfl⟩) (As := [.int ((1 : Int32))]) (by decide) (k_E5 _ _ _) rfl rfl rfl hl.1 (Nat.le_of_ble_eq_true rfl) dX5_count__25 ⟨by decide, by decide⟩) (fun H locs hw => ?_)
    obtain ⟨rfl, rfl⟩ := sm2 h
    exact x_iret hC hw hr hlocks (by decide) (by decide) dX5_count__28
  · have h := it_f h hc
    refine lv_aload_n hC.x hC.b dX5_count__15 rfl (lv_at hl 0 rfl) ?_
    refine lv_iload_n hC.x hC.b dX5_count__16 rfl (lv_at hl 1 rfl) ?_
    obtain ⟨r17, g17, hq, h⟩ := bd2_t h
    refine x_goi hC hw (x_runV hC hw (c_X5_told (Γ := Γ) (l := l) hC.2.2.2.2 hq) (cwV 1 hC.t gX5_count__X5_told rfl rfl rfl (by decide +kernel) ⟨Nat.le_of_ble_eq_true rfl, Nat.le_of_ble_eq_true rfl⟩) (As := [.int (x1)]) (by decide) (k_E5 _ _ _) rfl rfl rfl hl.1 (Nat.le_of_ble_eq_true rfl) dX5_count__17 ⟨by decide, by decide⟩) (fun H locs hw => ?_)
    refine lv_goto (tgt := 28) hC.x hC.b dX5_count__20 (by decide) ?_
    obtain ⟨rfl, rfl⟩ := sm2 h
    exact x_iret hC hw hr hlocks (by decide) (by decide) dX5_count__28
abbrev rm_X5_amends : Room := { frames := 4, cells := 0, slots := 0, locals := 91 }
theorem in_X5_amends_X5 : ∀ w ∈ wsX50, w ∈ wsX5_amends := fun _ h => List.mem_cons_of_mem _ (List.mem_append_right _ (h))
set_option maxRecDepth 20000 in
theorem lk_X5_amends_f46 : Cond.fieldLink RX5 46 "KnotArchiveModel" "thrown" "I" ∈ wsX5_amends := by decide +kernel
set_option maxRecDepth 20000 in
theorem lk_X5_amends_f37 : Cond.fieldLink RX5 37 "KnotArchiveModel" "counted" "[I" ∈ wsX5_amends := by decide +kernel
set_option maxRecDepth 20000 in
theorem lk_X5_amends_f71 : Cond.fieldLink RX5 71 "KnotArchiveModel" "TENS" "[I" ∈ wsX5_amends := by decide +kernel
set_option maxRecDepth 20000 in
theorem lk_X5_amends_f16 : Cond.fieldLink RX5 16 "KnotArchiveModel" "knots" "[I" ∈ wsX5_amends := by decide +kernel
set_option maxRecDepth 20000 in
theorem lk_X5_amends_m138 : Cond.methodLink RX5 138 Lib.Math.abs.name ∈ wsX5_amends := by decide +kernel
set_option maxRecDepth 20000 in
theorem lk_X5_amends_s138 : Cond.static Lib.Math.abs.name ∈ wsX5_amends := by decide +kernel
set_option maxRecDepth 20000 in
theorem lk_X5_amends_imath : Cond.initialized "java/lang/Math" ∈ wsX5_amends := by decide +kernel
set_option maxRecDepth 20000 in
theorem lk_X5_amends_e138 : Cond.code Lib.Math.abs.name Lib.Math.abs.code 1 (some .int) ∈ wsX5_amends := by decide +kernel
set_option maxRecDepth 100000 in
set_option maxHeartbeats 4000000 in
theorem w_X5_amends_57 {Γ : k_Pm} {A0 : Nat → Prop} {p : Program} {l : Launch} {e : Env} {s : State} {m : MethodId} {args : Array Value} {below : List Frame} {meth : Method} {c : Code} {cells slots : Nat} {Q : State → Prop} {tmp : va_W} {c2 : Int32} {c1 : Int32} (hC : k_C Γ A0 p l s m args c cX5_amends 5 wsX5_amends RX5) (hcs : cells ≤ rm_X5_amends.cells ∧ slots ≤ rm_X5_amends.slots) : ∀ (n : Nat) (v3 : Int32) (v4 : Int32) (g : Gt) (w3 : Int32) (w4 : Int32) (g2 : Gt), f_X5_amends_57 c2 c1 n v3 v4 g = some (w3, w4, g2) → ∀ (H : Heap) (locs : List Loc) (ls : Array Slot), k_St Γ A0 s tmp g H locs → lv_has ls 5 [(4, .int (v4)), (3, .int (v3)), (2, .int (c2)), (0, .ref (k_ad Γ 5 (0))), (1, .int (c1))] → (∀ (H1 : Heap) (locs1 : List Loc) (ls1 : Array Slot), k_St Γ A0 s tmp g2 H1 locs1 → lv_has ls1 5 [(4, .int (w4)), (3, .int (w3)), (2, .int (c2)), (0, .ref (k_ad Γ 5 (0))), (1, .int (c1))] → W p l e rm_X5_amends s m args below meth c H1 locs1 cells slots Q (F0 m 98 ls1 [])) → W p l e rm_X5_amends s m args below meth c H locs cells slots Q (F0 m 57 ls []) := by
  intro n
  induction n with
  | zero => intro v3 v4 g w3 w4 g2 h; rw [f_X5_amends_57] at h; cases h
  | succ n ih =>
    intro v3 v4 g w3 w4 g2 h H locs ls hw hl kk
    rw [f_X5_amends_57] at h
    refine lv_iload hC.x hC.b dX5_amends_57 (lv_at hl 0 rfl) ?_
    refine lv_iconst (v := (4 : Int32)) hC.x hC.b dX5_amends_59 (by decide) ?_
    refine lv_icmp_ge (tgt := 98) hC.x hC.b dX5_amends_60 (by decide) (fun hc => ?_) (fun hc => ?_)
    · have h := it_t h hc
      obtain ⟨rfl, rfl, rfl⟩ := sm3 h
      exact kk _ _ _ hw (lv_sub hl [0, 1, 2, 3, 4] rfl)
    · have h := it_f h hc
      refine lv_iload_n hC.x hC.b dX5_amends_63 rfl (lv_at hl 1 rfl) ?_
      refine lv_iload_n hC.x hC.b dX5_amends_64 rfl (lv_at hl 2 rfl) ?_
      refine x_tens hC hw lk_X5_amends_f71 dX5_amends_65 (fun tt hT => ?_)
      refine lv_iload hC.x hC.b dX5_amends_68 (lv_at hl 0 rfl) ?_
      obtain ⟨hg2, h⟩ := gd_t h
      refine x_tld hC hw hT hg2 dX5_amends_70 ?_
      obtain ⟨hg, h⟩ := gd_t h
      refine lv_idiv hC.x hC.b dX5_amends_71 (of_decide_eq_true hg) ?_
      refine lv_bipush (v := (10 : Int32)) hC.x hC.b dX5_amends_72 (by decide) ?_
      refine lv_irem hC.x hC.b dX5_amends_74 (by decide) ?_
      refine lv_aload_n hC.x hC.b dX5_amends_75 rfl (lv_at hl 3 rfl) ?_
      refine x_get hC hw (k := 6) (T := TX5) (by decide) (k_E5 _ _ _) in_X5_amends_X5 rfl (by decide) lk_X5_amends_f16 rfl rfl dX5_amends_76 ?_
      refine lv_iconst (v := (4 : Int32)) hC.x hC.b dX5_amends_79 (by decide) ?_
      refine lv_iload_n hC.x hC.b dX5_amends_80 rfl (lv_at hl 4 rfl) ?_
      refine lv_imul hC.x hC.b dX5_amends_81 ?_
      refine lv_iload hC.x hC.b dX5_amends_82 (lv_at hl 0 rfl) ?_
      refine lv_iadd hC.x hC.b dX5_amends_84 ?_
      obtain ⟨hg3, h⟩ := gd_t h
      refine x_iald hC hw rfl (by decide) hg3 dX5_amends_85 ?_
      refine lv_isub hC.x hC.b dX5_amends_86 ?_
      refine va_mabs hC.x hC.b (hC.n.trans hl.1.symm) hC.o (hC.t _ lk_X5_amends_m138) (hC.t _ lk_X5_amends_s138) (hC.t _ lk_X5_amends_imath) (hC.t _ lk_X5_amends_e138) (Nat.le_of_ble_eq_true rfl) (Nat.le_of_ble_eq_true rfl) hcs.1 hcs.2 dX5_amends_87 ?_
      refine lv_iadd hC.x hC.b dX5_amends_90 ?_
      refine lv_istore_n (lv' := [(3, .int (v3 + (k_abs (((c2 / (k_te v4.toNatClampNeg)) - (c2 / (k_te v4.toNatClampNeg)) / (10 : Int32) * (10 : Int32)) - (g 32 0 ((((4 : Int32) * c1) + v4).toNatClampNeg)))))), (4, .int (v4)), (2, .int (c2)), (0, .ref (k_ad Γ 5 (0))), (1, .int (c1))]) hC.x hC.b dX5_amends_91 rfl hl (by decide) rfl (fun ls hl => ?_)
      refine lv_iinc (v := v4 + (1 : Int32)) (lv' := [(4, .int (v4 + (1 : Int32))), (3, .int (v3 + (k_abs (((c2 / (k_te v4.toNatClampNeg)) - (c2 / (k_te v4.toNatClampNeg)) / (10 : Int32) * (10 : Int32)) - (g 32 0 ((((4 : Int32) * c1) + v4).toNatClampNeg)))))), (2, .int (c2)), (0, .ref (k_ad Γ 5 (0))), (1, .int (c1))]) hC.x hC.b dX5_amends_92 hl (k := 1) rfl rfl (by decide) rfl (fun ls hl => ?_)
      refine lv_goto (tgt := 57) hC.x hC.b dX5_amends_95 (by decide) ?_
      exact ih _ _ _ _ _ _ h _ _ _ hw (lv_sub hl [0, 1, 2, 3, 4] rfl) kk

set_option maxRecDepth 100000 in
set_option maxHeartbeats 4000000 in
theorem c_X5_amends {Γ : k_Pm} {l : Launch} (hl0 : l.stackTraces = false) {x1 : Int32}  {g : Gt} {r : Int32} {g2 : Gt} (h : f_X5_amends x1 g = some (r, g2)) : k_CI Γ l yX5_amends wsX5_amends rm_X5_amends [.ref (k_ad Γ 5 (0)), .int (x1)] g r g2 := by
  intro sz
  refine Met.ofW (cc := cX5_amends) (maxL := 5) (ret := (some .int)) (by decide) rfl ?_
  intro p e s m args below meth c s₁ B hml hv
  obtain ⟨rfl, rfl, hP, hKS⟩ := hv
  have hr := B.returns
  have hlocks := B.notSynchronized
  have hC : k_C Γ (k_A Γ s.heap.size) p l s m _ c cX5_amends 5 wsX5_amends RX5 := k_C.of ⟨B.exec, B.bytes, hml, findClass_of_methodNamed B.named, atoms_spec (ws := wsX5_amends) B.pre⟩ hKS hl0
  have hw : k_St Γ (k_A Γ s.heap.size) s [] g s.heap [] := k_St.of hKS hP
  have hl := lv_entry ([.ref (k_ad Γ 5 (0)), .int (x1)] : List Value) (n := 5) (Nat.le_of_ble_eq_true rfl)
  rw [lg_entry_eq]
  generalize (lg_sl ([.ref (k_ad Γ 5 (0)), .int (x1)] : List Value) ++ List.replicate (5 - (lg_sl ([.ref (k_ad Γ 5 (0)), .int (x1)] : List Value)).length) Slot.unset).toArray = ls at hl ⊢
  have hl : lv_has ls 5 [(0, .ref (k_ad Γ 5 (0))), (1, .int (x1))] := hl
  change W p l e rm_X5_amends _ _ _ _ _ _ _ _ _ _ _ _
  unfold f_X5_amends at h
  refine lv_aload_n hC.x hC.b dX5_amends_0 rfl (lv_at hl 0 rfl) ?_
  refine lv_iconst (v := (0 : Int32)) hC.x hC.b dX5_amends_1 (by decide) ?_
  refine x_puti hC hw (k := 0) (T := TX5) (by decide) (k_E5 _ _ _) in_X5_amends_X5 rfl (by decide) lk_X5_amends_f46 rfl tyX5 tyX5_ok nmX5 rfl (by decide +kernel) (Nat.le_of_ble_eq_true rfl) (by rw [k_E5]; rfl) dX5_amends_2 (fun H locs hw => ?_)
  refine lv_aload_n hC.x hC.b dX5_amends_5 rfl (lv_at hl 0 rfl) ?_
  refine lv_iload_n hC.x hC.b dX5_amends_6 rfl (lv_at hl 1 rfl) ?_
  obtain ⟨r7, g7, hq, h⟩ := bd2_t h
  refine x_goi hC hw (x_runV hC hw (c_X5_isCord (Γ := Γ) (l := l) hC.2.2.2.2 hq) (cwV 1 hC.t gX5_amends_X5_isCord rfl rfl rfl (by decide +kernel) ⟨Nat.le_of_ble_eq_true rfl, Nat.le_of_ble_eq_true rfl⟩) (As := [.int (x1)]) (by decide) (k_E5 _ _ _) rfl rfl rfl hl.1 (Nat.le_of_ble_eq_true rfl) dX5_amends_7 ⟨by decide, by decide⟩) (fun H locs hw => ?_)
  refine lv_if_ne (tgt := 19) hC.x hC.b dX5_amends_10 (by decide) (fun hc => ?_) (fun hc => ?_)
  · have h := it_f h hc
    refine lv_aload_n hC.x hC.b dX5_amends_19 rfl (lv_at hl 0 rfl) ?_
    refine lv_iload_n hC.x hC.b dX5_amends_20 rfl (lv_at hl 1 rfl) ?_
    refine lv_bipush (v := (6 : Int32)) hC.x hC.b dX5_amends_21 (by decide) ?_
    obtain ⟨r23, g23, hq, h⟩ := bd2_t h
    refine x_goi hC hw (x_runV hC hw (c_X5_cordTold (Γ := Γ) (l := l) hC.2.2.2.2 hq) (cwV 2 hC.t gX5_amends_X5_cordTold rfl rfl rfl (by decide +kernel) ⟨Nat.le_of_ble_eq_true rfl, Nat.le_of_ble_eq_true rfl⟩) (As := [.int (x1), .int ((6 : Int32))]) (by decide) (k_E5 _ _ _) rfl rfl rfl hl.1 (Nat.le_of_ble_eq_true rfl) dX5_amends_23 ⟨by decide, by decide⟩) (fun H locs hw => ?_)
    refine lv_iconst (v := (1 : Int32)) hC.x hC.b dX5_amends_26 (by decide) ?_
    refine lv_icmp_ne (tgt := 32) hC.x hC.b dX5_amends_27 (by decide) (fun hc => ?_) (fun hc => ?_)
    · have h := it_f h hc
      refine lv_aload_n hC.x hC.b dX5_amends_32 rfl (lv_at hl 0 rfl) ?_
      refine x_get hC hw (k := 13) (T := TX5) (by decide) (k_E5 _ _ _) in_X5_amends_X5 rfl (by decide) lk_X5_amends_f37 rfl rfl dX5_amends_33 ?_
      refine lv_iload_n hC.x hC.b dX5_amends_36 rfl (lv_at hl 1 rfl) ?_
      obtain ⟨hg1, h⟩ := gd_t h
      refine x_iald hC hw rfl (by decide) hg1 dX5_amends_37 ?_
      refine lv_istore_n (lv' := [(2, .int (g23 39 0 x1.toNatClampNeg)), (0, .ref (k_ad Γ 5 (0))), (1, .int (x1))]) hC.x hC.b dX5_amends_38 rfl hl (by decide) rfl (fun ls hl => ?_)
      refine lv_iload_n hC.x hC.b dX5_amends_39 rfl (lv_at hl 0 rfl) ?_
      refine lv_iconst (v := (0 : Int32)) hC.x hC.b dX5_amends_40 (by decide) ?_
      refine lv_sipush (v := (9999 : Int32)) hC.x hC.b dX5_amends_41 (by decide) ?_
      obtain ⟨r44, g44, hq, h⟩ := bd2_t h
      refine x_goi hC hw (x_runS hC hw (c_X5_isIn (Γ := Γ) (l := l) hC.2.2.2.2 hq) (va_cwS 3 hC.t gX5_amends_X5_isIn rfl rfl rfl (by decide +kernel) ⟨Nat.le_of_ble_eq_true rfl, Nat.le_of_ble_eq_true rfl⟩) (As := [.int (g23 39 0 x1.toNatClampNeg), .int ((0 : Int32)), .int ((9999 : Int32))]) rfl hl.1 (Nat.le_of_ble_eq_true rfl) dX5_amends_44 ⟨by decide, by decide⟩) (fun H locs hw => ?_)
      refine lv_if_ne (tgt := 52) hC.x hC.b dX5_amends_47 (by decide) (fun hc => ?_) (fun hc => ?_)
      · have h := it_f h hc
        refine lv_iconst (v := (0 : Int32)) hC.x hC.b dX5_amends_52 (by decide) ?_
        refine lv_istore_n (lv' := [(3, .int ((0 : Int32))), (2, .int (g23 39 0 x1.toNatClampNeg)), (0, .ref (k_ad Γ 5 (0))), (1, .int (x1))]) hC.x hC.b dX5_amends_53 rfl hl (by decide) rfl (fun ls hl => ?_)
        refine lv_iconst (v := (0 : Int32)) hC.x hC.b dX5_amends_54 (by decide) ?_
        refine lv_istore (lv' := [(4, .int ((0 : Int32))), (3, .int ((0 : Int32))), (2, .int (g23 39 0 x1.toNatClampNeg)), (0, .ref (k_ad Γ 5 (0))), (1, .int (x1))]) hC.x hC.b dX5_amends_55 hl (by decide) rfl (fun ls hl => ?_)
        obtain ⟨w57_3, w57_4, g57, hq, h⟩ := bd3_t h
        refine w_X5_amends_57 hC ⟨by decide, by decide⟩  k_N _ _ _ _ _ _ hq _ _ _ hw (lv_sub hl [0, 1, 2, 3, 4] rfl) (fun H locs ls hw hl => ?_)
        refine lv_iload_n hC.x hC.b dX5_amends_98 rfl (lv_at hl 1 rfl) ?_
        obtain ⟨rfl, rfl⟩ := sm2 h
        exact x_iret hC hw hr hlocks (by decide) (by decide) dX5_amends_99
      · have h := it_t h hc
        refine lv_iconst (v := (-1 : Int32)) hC.x hC.b dX5_amends_50 (by decide) ?_
        obtain ⟨rfl, rfl⟩ := sm2 h
        exact x_iret hC hw hr hlocks (by decide) (by decide) dX5_amends_51
    · have h := it_t h hc
      refine lv_iconst (v := (0 : Int32)) hC.x hC.b dX5_amends_30 (by decide) ?_
      obtain ⟨rfl, rfl⟩ := sm2 h
      exact x_iret hC hw hr hlocks (by decide) (by decide) dX5_amends_31
  · have h := it_t h hc
    refine lv_aload_n hC.x hC.b dX5_amends_13 rfl (lv_at hl 0 rfl) ?_
    refine lv_iconst (v := (1 : Int32)) hC.x hC.b dX5_amends_14 (by decide) ?_
    obtain ⟨r15, g15, hq, h⟩ := bd2_t h
    refine x_goi hC hw (x_runV hC hw (c_X5_fail (Γ := Γ) (l := l) hC.2.2.2.2 hq) (cwV 1 hC.t gX5_amends_X5_fail rfl rfl rfl (by decide +kernel) ⟨Nat.le_of_ble_eq_true rfl, Nat.le_of_ble_eq_true rfl⟩) (As := [.int ((1 : Int32))]) (by decide) (k_E5 _ _ _) rfl rfl rfl hl.1 (Nat.le_of_ble_eq_true rfl) dX5_amends_15 ⟨by decide, by decide⟩) (fun H locs hw => ?_)
    obtain ⟨rfl, rfl⟩ := sm2 h
    exact x_iret hC hw hr hlocks (by decide) (by decide) dX5_amends_18
abbrev rm_X5_weighs : Room := { frames := 4, cells := 0, slots := 0, locals := 91 }
theorem in_X5_weighs_X5 : ∀ w ∈ wsX50, w ∈ wsX5_weighs := fun _ h => List.mem_cons_of_mem _ (List.mem_append_right _ (h))
set_option maxRecDepth 20000 in
theorem lk_X5_weighs_f46 : Cond.fieldLink RX5 46 "KnotArchiveModel" "thrown" "I" ∈ wsX5_weighs := by decide +kernel
set_option maxRecDepth 20000 in
theorem lk_X5_weighs_f50 : Cond.fieldLink RX5 50 "KnotArchiveModel" "cords" "I" ∈ wsX5_weighs := by decide +kernel
set_option maxRecDepth 20000 in
theorem lk_X5_weighs_f16 : Cond.fieldLink RX5 16 "KnotArchiveModel" "knots" "[I" ∈ wsX5_weighs := by decide +kernel
set_option maxRecDepth 20000 in
theorem lk_X5_weighs_k143 : Cond.constantLong RX5 143 (2147483647) ∈ wsX5_weighs := by decide +kernel
set_option maxRecDepth 20000 in
theorem lk_X5_weighs_m145 : Cond.methodLink RX5 145 Lib.MathLoose.abs_long.x ∈ wsX5_weighs := by decide +kernel
set_option maxRecDepth 20000 in
theorem lk_X5_weighs_s145 : Cond.static Lib.MathLoose.abs_long.x ∈ wsX5_weighs := by decide +kernel
set_option maxRecDepth 20000 in
theorem lk_X5_weighs_imath : Cond.initialized "java/lang/Math" ∈ wsX5_weighs := by decide +kernel
set_option maxRecDepth 20000 in
theorem lk_X5_weighs_e145 : Cond.code Lib.MathLoose.abs_long.x Lib.MathLoose.abs_long.code 2 (some .long) ∈ wsX5_weighs := by decide +kernel
set_option maxRecDepth 20000 in
theorem lk_X5_weighs_m148 : Cond.methodLink RX5 148 Lib.MathLoose.min_long.x ∈ wsX5_weighs := by decide +kernel
set_option maxRecDepth 20000 in
theorem lk_X5_weighs_s148 : Cond.static Lib.MathLoose.min_long.x ∈ wsX5_weighs := by decide +kernel
set_option maxRecDepth 20000 in
theorem lk_X5_weighs_e148 : Cond.code Lib.MathLoose.min_long.x Lib.MathLoose.min_long.code 4 (some .long) ∈ wsX5_weighs := by decide +kernel
set_option maxRecDepth 100000 in
set_option maxHeartbeats 4000000 in
theorem w_X5_weighs_12 {Γ : k_Pm} {A0 : Nat → Prop} {p : Program} {l : Launch} {e : Env} {s : State} {m : MethodId} {args : Array Value} {below : List Frame} {meth : Method} {c : Code} {cells slots : Nat} {Q : State → Prop} {tmp : va_W} (hC : k_C Γ A0 p l s m args c cX5_weighs 10 wsX5_weighs RX5) (hcs : cells ≤ rm_X5_weighs.cells ∧ slots ≤ rm_X5_weighs.slots) : ∀ (n : Nat) (v1 : Int32) (v2 : Int64) (v4 : Int32) (g : Gt) (w1 : Int32) (w2 : Int64) (w4 : Int32) (g2 : Gt), f_X5_weighs_12 n v1 v2 v4 g = some (w1, w2, w4, g2) → ∀ (H : Heap) (locs : List Loc) (ls : Array Slot), k_St Γ A0 s tmp g H locs → lv_has ls 10 [(4, .int (v4)), (2, .long (v2)), (1, .int (v1)), (0, .ref (k_ad Γ 5 (0)))] → (∀ (H1 : Heap) (locs1 : List Loc) (ls1 : Array Slot), k_St Γ A0 s tmp g2 H1 locs1 → lv_has ls1 10 [(4, .int (w4)), (2, .long (w2)), (1, .int (w1)), (0, .ref (k_ad Γ 5 (0)))] → W p l e rm_X5_weighs s m args below meth c H1 locs1 cells slots Q (F0 m 120 ls1 [])) → W p l e rm_X5_weighs s m args below meth c H locs cells slots Q (F0 m 12 ls []) := by
  intro n
  induction n with
  | zero => intro v1 v2 v4 g w1 w2 w4 g2 h; rw [f_X5_weighs_12] at h; cases h
  | succ n ih =>
    intro v1 v2 v4 g w1 w2 w4 g2 h H locs ls hw hl kk
    rw [f_X5_weighs_12] at h
    refine lv_iload hC.x hC.b dX5_weighs_12 (lv_at hl 0 rfl) ?_
    refine lv_aload_n hC.x hC.b dX5_weighs_14 rfl (lv_at hl 3 rfl) ?_
    refine x_get hC hw (k := 1) (T := TX5) (by decide) (k_E5 _ _ _) in_X5_weighs_X5 rfl (by decide) lk_X5_weighs_f50 rfl rfl dX5_weighs_15 ?_
    refine lv_icmp_ge (tgt := 120) hC.x hC.b dX5_weighs_18 (by decide) (fun hc => ?_) (fun hc => ?_)
    · have h := it_t h hc
      obtain ⟨rfl, rfl, rfl, rfl⟩ := sm4 h
      exact kk _ _ _ hw (lv_sub hl [0, 1, 2, 3] rfl)
    · have h := it_f h hc
      refine lv_iconst (v := (4 : Int32)) hC.x hC.b dX5_weighs_21 (by decide) ?_
      refine lv_iload hC.x hC.b dX5_weighs_22 (lv_at hl 0 rfl) ?_
      refine lv_imul hC.x hC.b dX5_weighs_24 ?_
      refine lv_iconst (v := (4 : Int32)) hC.x hC.b dX5_weighs_25 (by decide) ?_
      refine lv_iadd hC.x hC.b dX5_weighs_26 ?_
      refine lv_iconst (v := (1 : Int32)) hC.x hC.b dX5_weighs_27 (by decide) ?_
      refine lv_isub hC.x hC.b dX5_weighs_28 ?_
      refine lv_istore (lv' := [(5, .int ((((4 : Int32) * v4) + (4 : Int32)) - (1 : Int32))), (4, .int (v4)), (2, .long (v2)), (1, .int (v1)), (0, .ref (k_ad Γ 5 (0)))]) hC.x hC.b dX5_weighs_29 hl (by decide) rfl (fun ls hl => ?_)
      refine lv_aload_n hC.x hC.b dX5_weighs_31 rfl (lv_at hl 4 rfl) ?_
      refine x_get hC hw (k := 6) (T := TX5) (by decide) (k_E5 _ _ _) in_X5_weighs_X5 rfl (by decide) lk_X5_weighs_f16 rfl rfl dX5_weighs_32 ?_
      refine lv_iload hC.x hC.b dX5_weighs_35 (lv_at hl 0 rfl) ?_
      obtain ⟨hg1, h⟩ := gd_t h
      refine x_iald hC hw rfl (by decide) hg1 dX5_weighs_37 ?_
      refine lv_bipush (v := (9 : Int32)) hC.x hC.b dX5_weighs_38 (by decide) ?_
      refine lv_icmp_ne (tgt := 46) hC.x hC.b dX5_weighs_40 (by decide) (fun hc => ?_) (fun hc => ?_)
      · have h := it_f h hc
        refine lv_aload_n hC.x hC.b dX5_weighs_46 rfl (lv_at hl 4 rfl) ?_
        refine lv_iconst (v := (0 : Int32)) hC.x hC.b dX5_weighs_47 (by decide) ?_
        refine lv_iconst (v := (3 : Int32)) hC.x hC.b dX5_weighs_48 (by decide) ?_
        obtain ⟨r49, g49, hq, h⟩ := bd2_t h
        refine x_goi hC hw (x_runV hC hw (c_X5_cordTold (Γ := Γ) (l := l) hC.2.2.2.2 hq) (cwV 2 hC.t gX5_weighs_X5_cordTold rfl rfl rfl (by decide +kernel) ⟨Nat.le_of_ble_eq_true rfl, Nat.le_of_ble_eq_true rfl⟩) (As := [.int ((0 : Int32)), .int ((3 : Int32))]) (by decide) (k_E5 _ _ _) rfl rfl rfl hl.1 (Nat.le_of_ble_eq_true rfl) dX5_weighs_49 hcs) (fun H locs hw => ?_)
        refine lv_i2l hC.x hC.b dX5_weighs_52 rfl ?_
        refine lv_lstore (lv' := [(6, .long (r49.toInt64)), (5, .int ((((4 : Int32) * v4) + (4 : Int32)) - (1 : Int32))), (4, .int (v4)), (2, .long (v2)), (1, .int (v1)), (0, .ref (k_ad Γ 5 (0)))]) hC.x hC.b dX5_weighs_53 hl (by decide) rfl (fun ls hl => ?_)
        refine lv_aload_n hC.x hC.b dX5_weighs_55 rfl (lv_at hl 5 rfl) ?_
        refine x_get hC hw (k := 6) (T := TX5) (by decide) (k_E5 _ _ _) in_X5_weighs_X5 rfl (by decide) lk_X5_weighs_f16 rfl rfl dX5_weighs_56 ?_
        refine lv_iload hC.x hC.b dX5_weighs_59 (lv_at hl 1 rfl) ?_
        refine lv_dup2_11 hC.x hC.b dX5_weighs_61 rfl rfl ?_
        obtain ⟨hg2, h⟩ := gd_t h
        refine x_iald hC hw rfl (by decide) hg2 dX5_weighs_62 ?_
        refine lv_iconst (v := (1 : Int32)) hC.x hC.b dX5_weighs_63 (by decide) ?_
        refine lv_iadd hC.x hC.b dX5_weighs_64 ?_
        obtain ⟨hg3, h⟩ := gd_t h
        refine x_iast hC hw rfl (by decide) hg3 dX5_weighs_65 (fun H locs hw => ?_)
        refine lv_ldc2 (v := (2147483647 : Int64)) hC.x hC.b hC.o (hC.t _ lk_X5_weighs_k143) dX5_weighs_66 ?_
        refine lv_aload_n hC.x hC.b dX5_weighs_69 rfl (lv_at hl 5 rfl) ?_
        refine lv_iconst (v := (0 : Int32)) hC.x hC.b dX5_weighs_70 (by decide) ?_
        refine lv_iconst (v := (3 : Int32)) hC.x hC.b dX5_weighs_71 (by decide) ?_
        obtain ⟨r72, g72, hq, h⟩ := bd2_t h
        refine x_goi hC hw (x_runV hC hw (c_X5_cordTold (Γ := Γ) (l := l) hC.2.2.2.2 hq) (cwV 2 hC.t gX5_weighs_X5_cordTold rfl rfl rfl (by decide +kernel) ⟨Nat.le_of_ble_eq_true rfl, Nat.le_of_ble_eq_true rfl⟩) (As := [.int ((0 : Int32)), .int ((3 : Int32))]) (by decide) (k_E5 _ _ _) rfl rfl rfl hl.1 (Nat.le_of_ble_eq_true rfl) dX5_weighs_72 hcs) (fun H locs hw => ?_)
        refine lv_i2l hC.x hC.b dX5_weighs_75 rfl ?_
        refine lv_lload hC.x hC.b dX5_weighs_76 (lv_at hl 0 rfl) ?_
        refine lv_lsub hC.x hC.b dX5_weighs_78 ?_
        refine va_mabs_long hC.x hC.b (hC.n.trans hl.1.symm) hC.o (hC.t _ lk_X5_weighs_m145) (hC.t _ lk_X5_weighs_s145) (hC.t _ lk_X5_weighs_imath) (hC.t _ lk_X5_weighs_e145) (Nat.le_of_ble_eq_true rfl) (Nat.le_of_ble_eq_true rfl) hcs.1 hcs.2 dX5_weighs_79 ?_
        refine va_mmin_long hC.x hC.b (hC.n.trans hl.1.symm) hC.o (hC.t _ lk_X5_weighs_m148) (hC.t _ lk_X5_weighs_s148) (hC.t _ lk_X5_weighs_imath) (hC.t _ lk_X5_weighs_e148) (Nat.le_of_ble_eq_true rfl) (Nat.le_of_ble_eq_true rfl) hcs.1 hcs.2 dX5_weighs_82 ?_
        refine lv_lstore (lv' := [(8, .long (k_minL (2147483647 : Int64) (k_absL (r72.toInt64 - r49.toInt64)))), (6, .long (r49.toInt64)), (5, .int ((((4 : Int32) * v4) + (4 : Int32)) - (1 : Int32))), (4, .int (v4)), (2, .long (v2)), (1, .int (v1)), (0, .ref (k_ad Γ 5 (0)))]) hC.x hC.b dX5_weighs_85 hl (by decide) rfl (fun ls hl => ?_)
        refine lv_aload_n hC.x hC.b dX5_weighs_87 rfl (lv_at hl 6 rfl) ?_
        refine x_get hC hw (k := 6) (T := TX5) (by decide) (k_E5 _ _ _) in_X5_weighs_X5 rfl (by decide) lk_X5_weighs_f16 rfl rfl dX5_weighs_88 ?_
        refine lv_iload hC.x hC.b dX5_weighs_91 (lv_at hl 2 rfl) ?_
        refine lv_dup2_11 hC.x hC.b dX5_weighs_93 rfl rfl ?_
        obtain ⟨hg4, h⟩ := gd_t h
        refine x_iald hC hw rfl (by decide) hg4 dX5_weighs_94 ?_
        refine lv_iconst (v := (1 : Int32)) hC.x hC.b dX5_weighs_95 (by decide) ?_
        refine lv_isub hC.x hC.b dX5_weighs_96 ?_
        obtain ⟨hg5, h⟩ := gd_t h
        refine x_iast hC hw rfl (by decide) hg5 dX5_weighs_97 (fun H locs hw => ?_)
        refine lv_lload hC.x hC.b dX5_weighs_98 (lv_at hl 0 rfl) ?_
        refine lv_lload_n hC.x hC.b dX5_weighs_100 rfl (lv_at hl 4 rfl) ?_
        refine W.lcmp hC.x hC.b dX5_weighs_101 ?_
        refine lv_if_gt (tgt := 108) hC.x hC.b dX5_weighs_102 (by decide) (fun hc => ?_) (fun hc => ?_)
        · have h := it_t h hc
          refine lv_iload hC.x hC.b dX5_weighs_108 (lv_at hl 3 rfl) ?_
          refine lv_istore_n (lv' := [(1, .int (v4)), (8, .long (k_minL (2147483647 : Int64) (k_absL (r72.toInt64 - r49.toInt64)))), (6, .long (r49.toInt64)), (5, .int ((((4 : Int32) * v4) + (4 : Int32)) - (1 : Int32))), (4, .int (v4)), (2, .long (v2)), (0, .ref (k_ad Γ 5 (0)))]) hC.x hC.b dX5_weighs_110 rfl hl (by decide) rfl (fun ls hl => ?_)
          refine lv_lload hC.x hC.b dX5_weighs_111 (lv_at hl 1 rfl) ?_
          refine lv_lstore_n (lv' := [(2, .long (k_minL (2147483647 : Int64) (k_absL (r72.toInt64 - r49.toInt64)))), (1, .int (v4)), (8, .long (k_minL (2147483647 : Int64) (k_absL (r72.toInt64 - r49.toInt64)))), (6, .long (r49.toInt64)), (5, .int ((((4 : Int32) * v4) + (4 : Int32)) - (1 : Int32))), (4, .int (v4)), (0, .ref (k_ad Γ 5 (0)))]) hC.x hC.b dX5_weighs_113 rfl hl (by decide) rfl (fun ls hl => ?_)
          refine lv_iinc (v := v4 + (1 : Int32)) (lv' := [(4, .int (v4 + (1 : Int32))), (2, .long (k_minL (2147483647 : Int64) (k_absL (r72.toInt64 - r49.toInt64)))), (1, .int (v4)), (8, .long (k_minL (2147483647 : Int64) (k_absL (r72.toInt64 - r49.toInt64)))), (6, .long (r49.toInt64)), (5, .int ((((4 : Int32) * v4) + (4 : Int32)) - (1 : Int32))), (0, .ref (k_ad Γ 5 (0)))]) hC.x hC.b dX5_weighs_114 hl (k := 5) rfl rfl (by decide) rfl (fun ls hl => ?_)
          refine lv_goto (tgt := 12) hC.x hC.b dX5_weighs_117 (by decide) ?_
          exact ih _ _ _ _ _ _ _ _ h _ _ _ hw (lv_sub hl [0, 1, 2, 6] rfl) kk
        · have h := it_f h hc
          refine lv_goto (tgt := 114) hC.x hC.b dX5_weighs_105 (by decide) ?_
          refine lv_iinc (v := v4 + (1 : Int32)) (lv' := [(4, .int (v4 + (1 : Int32))), (8, .long (k_minL (2147483647 : Int64) (k_absL (r72.toInt64 - r49.toInt64)))), (6, .long (r49.toInt64)), (5, .int ((((4 : Int32) * v4) + (4 : Int32)) - (1 : Int32))), (2, .long (v2)), (1, .int (v1)), (0, .ref (k_ad Γ 5 (0)))]) hC.x hC.b dX5_weighs_114 hl (k := 3) rfl rfl (by decide) rfl (fun ls hl => ?_)
          refine lv_goto (tgt := 12) hC.x hC.b dX5_weighs_117 (by decide) ?_
          exact ih _ _ _ _ _ _ _ _ h _ _ _ hw (lv_sub hl [0, 4, 5, 6] rfl) kk
      · have h := it_t h hc
        refine lv_goto (tgt := 114) hC.x hC.b dX5_weighs_43 (by decide) ?_
        refine lv_iinc (v := v4 + (1 : Int32)) (lv' := [(4, .int (v4 + (1 : Int32))), (5, .int ((((4 : Int32) * v4) + (4 : Int32)) - (1 : Int32))), (2, .long (v2)), (1, .int (v1)), (0, .ref (k_ad Γ 5 (0)))]) hC.x hC.b dX5_weighs_114 hl (k := 1) rfl rfl (by decide) rfl (fun ls hl => ?_)
        refine lv_goto (tgt := 12) hC.x hC.b dX5_weighs_117 (by decide) ?_
        exact ih _ _ _ _ _ _ _ _ h _ _ _ hw (lv_sub hl [0, 2, 3, 4] rfl) kk

set_option maxRecDepth 100000 in
set_option maxHeartbeats 4000000 in
theorem c_X5_weighs {Γ : k_Pm} {l : Launch} (hl0 : l.stackTraces = false)   {g : Gt} {r : Int32} {g2 : Gt} (h : f_X5_weighs  g = some (r, g2)) : k_CI Γ l yX5_weighs wsX5_weighs rm_X5_weighs [.ref (k_ad Γ 5 (0))] g r g2 := by
  intro sz
  refine Met.ofW (cc := cX5_weighs) (maxL := 10) (ret := (some .int)) (by decide) rfl ?_
  intro p e s m args below meth c s₁ B hml hv
  obtain ⟨rfl, rfl, hP, hKS⟩ := hv
  have hr := B.returns
  have hlocks := B.notSynchronized
  have hC : k_C Γ (k_A Γ s.heap.size) p l s m _ c cX5_weighs 10 wsX5_weighs RX5 := k_C.of ⟨B.exec, B.bytes, hml, findClass_of_methodNamed B.named, atoms_spec (ws := wsX5_weighs) B.pre⟩ hKS hl0
  have hw : k_St Γ (k_A Γ s.heap.size) s [] g s.heap [] := k_St.of hKS hP
  have hl := lv_entry ([.ref (k_ad Γ 5 (0))] : List Value) (n := 10) (Nat.le_of_ble_eq_true rfl)
  rw [lg_entry_eq]
  generalize (lg_sl ([.ref (k_ad Γ 5 (0))] : List Value) ++ List.replicate (10 - (lg_sl ([.ref (k_ad Γ 5 (0))] : List Value)).length) Slot.unset).toArray = ls at hl ⊢
  have hl : lv_has ls 10 [(0, .ref (k_ad Γ 5 (0)))] := hl
  change W p l e rm_X5_weighs _ _ _ _ _ _ _ _ _ _ _ _
  unfold f_X5_weighs at h
  refine lv_aload_n hC.x hC.b dX5_weighs_0 rfl (lv_at hl 0 rfl) ?_
  refine lv_iconst (v := (0 : Int32)) hC.x hC.b dX5_weighs_1 (by decide) ?_
  refine x_puti hC hw (k := 0) (T := TX5) (by decide) (k_E5 _ _ _) in_X5_weighs_X5 rfl (by decide) lk_X5_weighs_f46 rfl tyX5 tyX5_ok nmX5 rfl (by decide +kernel) (Nat.le_of_ble_eq_true rfl) (by rw [k_E5]; rfl) dX5_weighs_2 (fun H locs hw => ?_)
  refine lv_iconst (v := (-1 : Int32)) hC.x hC.b dX5_weighs_5 (by decide) ?_
  refine lv_istore_n (lv' := [(1, .int ((-1 : Int32))), (0, .ref (k_ad Γ 5 (0)))]) hC.x hC.b dX5_weighs_6 rfl hl (by decide) rfl (fun ls hl => ?_)
  refine lv_lconst (v := (0 : Int64)) hC.x hC.b dX5_weighs_7 (by decide) ?_
  refine lv_lstore_n (lv' := [(2, .long ((0 : Int64))), (1, .int ((-1 : Int32))), (0, .ref (k_ad Γ 5 (0)))]) hC.x hC.b dX5_weighs_8 rfl hl (by decide) rfl (fun ls hl => ?_)
  refine lv_iconst (v := (0 : Int32)) hC.x hC.b dX5_weighs_9 (by decide) ?_
  refine lv_istore (lv' := [(4, .int ((0 : Int32))), (2, .long ((0 : Int64))), (1, .int ((-1 : Int32))), (0, .ref (k_ad Γ 5 (0)))]) hC.x hC.b dX5_weighs_10 hl (by decide) rfl (fun ls hl => ?_)
  obtain ⟨w12_1, w12_2, w12_4, g12, hq, h⟩ := bd4_t h
  refine w_X5_weighs_12 hC ⟨by decide, by decide⟩  k_N _ _ _ _ _ _ _ _ hq _ _ _ hw (lv_sub hl [0, 1, 2, 3] rfl) (fun H locs ls hw hl => ?_)
  refine lv_iload_n hC.x hC.b dX5_weighs_120 rfl (lv_at hl 2 rfl) ?_
  obtain ⟨rfl, rfl⟩ := sm2 h
  exact x_iret hC hw hr hlocks (by decide) (by decide) dX5_weighs_121
-- X5_line: by hand
abbrev rm_X5_mean : Room := { frames := 0, cells := 0, slots := 0, locals := 0 }
theorem in_X5_mean_X5 : ∀ w ∈ wsX50, w ∈ wsX5_mean := fun _ h => List.mem_cons_of_mem _ (List.mem_append_right _ (h))
set_option maxRecDepth 20000 in
theorem lk_X5_mean_f46 : Cond.fieldLink RX5 46 "KnotArchiveModel" "thrown" "I" ∈ wsX5_mean := by decide +kernel
set_option maxRecDepth 20000 in
theorem lk_X5_mean_f57 : Cond.fieldLink RX5 57 "KnotArchiveModel" "witnesses" "I" ∈ wsX5_mean := by decide +kernel
set_option maxRecDepth 20000 in
theorem lk_X5_mean_f22 : Cond.fieldLink RX5 22 "KnotArchiveModel" "trust" "[I" ∈ wsX5_mean := by decide +kernel
set_option maxRecDepth 100000 in
set_option maxHeartbeats 4000000 in
theorem w_X5_mean_9 {Γ : k_Pm} {A0 : Nat → Prop} {p : Program} {l : Launch} {e : Env} {s : State} {m : MethodId} {args : Array Value} {below : List Frame} {meth : Method} {c : Code} {cells slots : Nat} {Q : State → Prop} {tmp : va_W} (hC : k_C Γ A0 p l s m args c cX5_mean 3 wsX5_mean RX5) (hcs : cells ≤ rm_X5_mean.cells ∧ slots ≤ rm_X5_mean.slots) : ∀ (n : Nat) (v1 : Int32) (v2 : Int32) (g : Gt) (w1 : Int32) (w2 : Int32) (g2 : Gt), f_X5_mean_9 n v1 v2 g = some (w1, w2, g2) → ∀ (H : Heap) (locs : List Loc) (ls : Array Slot), k_St Γ A0 s tmp g H locs → lv_has ls 3 [(2, .int (v2)), (1, .int (v1)), (0, .ref (k_ad Γ 5 (0)))] → (∀ (H1 : Heap) (locs1 : List Loc) (ls1 : Array Slot), k_St Γ A0 s tmp g2 H1 locs1 → lv_has ls1 3 [(2, .int (w2)), (1, .int (w1)), (0, .ref (k_ad Γ 5 (0)))] → W p l e rm_X5_mean s m args below meth c H1 locs1 cells slots Q (F0 m 32 ls1 [])) → W p l e rm_X5_mean s m args below meth c H locs cells slots Q (F0 m 9 ls []) := by
  intro n
  induction n with
  | zero => intro v1 v2 g w1 w2 g2 h; rw [f_X5_mean_9] at h; cases h
  | succ n ih =>
    intro v1 v2 g w1 w2 g2 h H locs ls hw hl kk
    rw [f_X5_mean_9] at h
    refine lv_iload_n hC.x hC.b dX5_mean_9 rfl (lv_at hl 0 rfl) ?_
    refine lv_aload_n hC.x hC.b dX5_mean_10 rfl (lv_at hl 2 rfl) ?_
    refine x_get hC hw (k := 2) (T := TX5) (by decide) (k_E5 _ _ _) in_X5_mean_X5 rfl (by decide) lk_X5_mean_f57 rfl rfl dX5_mean_11 ?_
    refine lv_icmp_ge (tgt := 32) hC.x hC.b dX5_mean_14 (by decide) (fun hc => ?_) (fun hc => ?_)
    · have h := it_t h hc
      obtain ⟨rfl, rfl, rfl⟩ := sm3 h
      exact kk _ _ _ hw (lv_sub hl [0, 1, 2] rfl)
    · have h := it_f h hc
      refine lv_iload_n hC.x hC.b dX5_mean_17 rfl (lv_at hl 1 rfl) ?_
      refine lv_aload_n hC.x hC.b dX5_mean_18 rfl (lv_at hl 2 rfl) ?_
      refine x_get hC hw (k := 8) (T := TX5) (by decide) (k_E5 _ _ _) in_X5_mean_X5 rfl (by decide) lk_X5_mean_f22 rfl rfl dX5_mean_19 ?_
      refine lv_iload_n hC.x hC.b dX5_mean_22 rfl (lv_at hl 0 rfl) ?_
      obtain ⟨hg1, h⟩ := gd_t h
      refine x_iald hC hw rfl (by decide) hg1 dX5_mean_23 ?_
      refine lv_iadd hC.x hC.b dX5_mean_24 ?_
      refine lv_istore_n (lv' := [(1, .int (v1 + (g 34 0 v2.toNatClampNeg))), (2, .int (v2)), (0, .ref (k_ad Γ 5 (0)))]) hC.x hC.b dX5_mean_25 rfl hl (by decide) rfl (fun ls hl => ?_)
      refine lv_iinc (v := v2 + (1 : Int32)) (lv' := [(2, .int (v2 + (1 : Int32))), (1, .int (v1 + (g 34 0 v2.toNatClampNeg))), (0, .ref (k_ad Γ 5 (0)))]) hC.x hC.b dX5_mean_26 hl (k := 1) rfl rfl (by decide) rfl (fun ls hl => ?_)
      refine lv_goto (tgt := 9) hC.x hC.b dX5_mean_29 (by decide) ?_
      exact ih _ _ _ _ _ _ h _ _ _ hw (lv_sub hl [0, 1, 2] rfl) kk

set_option maxRecDepth 100000 in
set_option maxHeartbeats 4000000 in
theorem c_X5_mean {Γ : k_Pm} {l : Launch} (hl0 : l.stackTraces = false)   {g : Gt} {r : UInt64} {g2 : Gt} (h : f_X5_mean  g = some (r, g2)) : k_CD Γ l yX5_mean wsX5_mean rm_X5_mean [.ref (k_ad Γ 5 (0))] g r g2 := by
  intro sz
  refine Met.ofW (cc := cX5_mean) (maxL := 3) (ret := (some .double)) (by decide) rfl ?_
  intro p e s m args below meth c s₁ B hml hv
  obtain ⟨rfl, rfl, hP, hKS⟩ := hv
  have hr := B.returns
  have hlocks := B.notSynchronized
  have hC : k_C Γ (k_A Γ s.heap.size) p l s m _ c cX5_mean 3 wsX5_mean RX5 := k_C.of ⟨B.exec, B.bytes, hml, findClass_of_methodNamed B.named, atoms_spec (ws := wsX5_mean) B.pre⟩ hKS hl0
  have hw : k_St Γ (k_A Γ s.heap.size) s [] g s.heap [] := k_St.of hKS hP
  have hl := lv_entry ([.ref (k_ad Γ 5 (0))] : List Value) (n := 3) (Nat.le_of_ble_eq_true rfl)
  rw [lg_entry_eq]
  generalize (lg_sl ([.ref (k_ad Γ 5 (0))] : List Value) ++ List.replicate (3 - (lg_sl ([.ref (k_ad Γ 5 (0))] : List Value)).length) Slot.unset).toArray = ls at hl ⊢
  have hl : lv_has ls 3 [(0, .ref (k_ad Γ 5 (0)))] := hl
  change W p l e rm_X5_mean _ _ _ _ _ _ _ _ _ _ _ _
  unfold f_X5_mean at h
  refine lv_aload_n hC.x hC.b dX5_mean_0 rfl (lv_at hl 0 rfl) ?_
  refine lv_iconst (v := (0 : Int32)) hC.x hC.b dX5_mean_1 (by decide) ?_
  refine x_puti hC hw (k := 0) (T := TX5) (by decide) (k_E5 _ _ _) in_X5_mean_X5 rfl (by decide) lk_X5_mean_f46 rfl tyX5 tyX5_ok nmX5 rfl (by decide +kernel) (Nat.le_of_ble_eq_true rfl) (by rw [k_E5]; rfl) dX5_mean_2 (fun H locs hw => ?_)
  refine lv_iconst (v := (0 : Int32)) hC.x hC.b dX5_mean_5 (by decide) ?_
  refine lv_istore_n (lv' := [(1, .int ((0 : Int32))), (0, .ref (k_ad Γ 5 (0)))]) hC.x hC.b dX5_mean_6 rfl hl (by decide) rfl (fun ls hl => ?_)
  refine lv_iconst (v := (0 : Int32)) hC.x hC.b dX5_mean_7 (by decide) ?_
  refine lv_istore_n (lv' := [(2, .int ((0 : Int32))), (1, .int ((0 : Int32))), (0, .ref (k_ad Γ 5 (0)))]) hC.x hC.b dX5_mean_8 rfl hl (by decide) rfl (fun ls hl => ?_)
  obtain ⟨w9_1, w9_2, g9, hq, h⟩ := bd3_t h
  refine w_X5_mean_9 hC ⟨by decide, by decide⟩  k_N _ _ _ _ _ _ hq _ _ _ hw (lv_sub hl [0, 1, 2] rfl) (fun H locs ls hw hl => ?_)
  refine lv_aload_n hC.x hC.b dX5_mean_32 rfl (lv_at hl 2 rfl) ?_
  refine x_get hC hw (k := 2) (T := TX5) (by decide) (k_E5 _ _ _) in_X5_mean_X5 rfl (by decide) lk_X5_mean_f57 rfl rfl dX5_mean_33 ?_
  refine lv_if_ne (tgt := 43) hC.x hC.b dX5_mean_36 (by decide) (fun hc => ?_) (fun hc => ?_)
  · have h := it_f h hc
    refine lv_iload_n hC.x hC.b dX5_mean_43 rfl (lv_at hl 1 rfl) ?_
    refine lv_i2d hC.x hC.b dX5_mean_44 ?_
    refine lv_aload_n hC.x hC.b dX5_mean_45 rfl (lv_at hl 2 rfl) ?_
    refine x_get hC hw (k := 2) (T := TX5) (by decide) (k_E5 _ _ _) in_X5_mean_X5 rfl (by decide) lk_X5_mean_f57 rfl rfl dX5_mean_46 ?_
    refine lv_i2d hC.x hC.b dX5_mean_49 ?_
    obtain ⟨hg, h⟩ := gd_t h
    refine lv_ddiv hC.x hC.b dX5_mean_50 (k_nn_t hg) ?_
    obtain ⟨rfl, rfl⟩ := sm2 h
    exact x_dret hC hw hr hlocks (by decide) (by decide) dX5_mean_51
  · have h := it_t h hc
    refine lv_dconst0 hC.x hC.b dX5_mean_39 ?_
    refine lv_goto (tgt := 51) hC.x hC.b dX5_mean_40 (by decide) ?_
    obtain ⟨rfl, rfl⟩ := sm2 h
    exact x_dret hC hw hr hlocks (by decide) (by decide) dX5_mean_51
abbrev rm_X5_digest : Room := { frames := 5, cells := 0, slots := 0, locals := 114 }
theorem in_X5_digest_X5 : ∀ w ∈ wsX50, w ∈ wsX5_digest := fun _ h => List.mem_cons_of_mem _ (List.mem_append_right _ (h))
set_option maxRecDepth 20000 in
theorem lk_X5_digest_f46 : Cond.fieldLink RX5 46 "KnotArchiveModel" "thrown" "I" ∈ wsX5_digest := by decide +kernel
set_option maxRecDepth 20000 in
theorem lk_X5_digest_k174 : Cond.constantLong RX5 174 (797) ∈ wsX5_digest := by decide +kernel
set_option maxRecDepth 20000 in
theorem lk_X5_digest_k176 : Cond.constantLong RX5 176 (31) ∈ wsX5_digest := by decide +kernel
set_option maxRecDepth 20000 in
theorem lk_X5_digest_f50 : Cond.fieldLink RX5 50 "KnotArchiveModel" "cords" "I" ∈ wsX5_digest := by decide +kernel
set_option maxRecDepth 20000 in
theorem lk_X5_digest_f16 : Cond.fieldLink RX5 16 "KnotArchiveModel" "knots" "[I" ∈ wsX5_digest := by decide +kernel
set_option maxRecDepth 20000 in
theorem lk_X5_digest_f19 : Cond.fieldLink RX5 19 "KnotArchiveModel" "frays" "[I" ∈ wsX5_digest := by decide +kernel
set_option maxRecDepth 20000 in
theorem lk_X5_digest_f57 : Cond.fieldLink RX5 57 "KnotArchiveModel" "witnesses" "I" ∈ wsX5_digest := by decide +kernel
set_option maxRecDepth 20000 in
theorem lk_X5_digest_f22 : Cond.fieldLink RX5 22 "KnotArchiveModel" "trust" "[I" ∈ wsX5_digest := by decide +kernel
set_option maxRecDepth 20000 in
theorem lk_X5_digest_f80 : Cond.fieldLink RX5 80 "KnotArchiveModel" "untied" "I" ∈ wsX5_digest := by decide +kernel
set_option maxRecDepth 20000 in
theorem lk_X5_digest_f31 : Cond.fieldLink RX5 31 "KnotArchiveModel" "book" "[I" ∈ wsX5_digest := by decide +kernel
set_option maxRecDepth 100000 in
set_option maxHeartbeats 4000000 in
theorem w_X5_digest_11 {Γ : k_Pm} {A0 : Nat → Prop} {p : Program} {l : Launch} {e : Env} {s : State} {m : MethodId} {args : Array Value} {below : List Frame} {meth : Method} {c : Code} {cells slots : Nat} {Q : State → Prop} {tmp : va_W} (hC : k_C Γ A0 p l s m args c cX5_digest 6 wsX5_digest RX5) (hcs : cells ≤ rm_X5_digest.cells ∧ slots ≤ rm_X5_digest.slots) : ∀ (n : Nat) (v1 : Int64) (v3 : Int32) (g : Gt) (w1 : Int64) (w3 : Int32) (g2 : Gt), f_X5_digest_11 n v1 v3 g = some (w1, w3, g2) → ∀ (H : Heap) (locs : List Loc) (ls : Array Slot), k_St Γ A0 s tmp g H locs → lv_has ls 6 [(3, .int (v3)), (1, .long (v1)), (0, .ref (k_ad Γ 5 (0)))] → (∀ (H1 : Heap) (locs1 : List Loc) (ls1 : Array Slot), k_St Γ A0 s tmp g2 H1 locs1 → lv_has ls1 6 [(3, .int (w3)), (1, .long (w1)), (0, .ref (k_ad Γ 5 (0)))] → W p l e rm_X5_digest s m args below meth c H1 locs1 cells slots Q (F0 m 36 ls1 [])) → W p l e rm_X5_digest s m args below meth c H locs cells slots Q (F0 m 11 ls []) := by
  intro n
  induction n with
  | zero => intro v1 v3 g w1 w3 g2 h; rw [f_X5_digest_11] at h; cases h
  | succ n ih =>
    intro v1 v3 g w1 w3 g2 h H locs ls hw hl kk
    rw [f_X5_digest_11] at h
    refine lv_iload_n hC.x hC.b dX5_digest_11 rfl (lv_at hl 0 rfl) ?_
    refine lv_bipush (v := (8 : Int32)) hC.x hC.b dX5_digest_12 (by decide) ?_
    refine lv_icmp_ge (tgt := 36) hC.x hC.b dX5_digest_14 (by decide) (fun hc => ?_) (fun hc => ?_)
    · have h := it_t h hc
      obtain ⟨rfl, rfl, rfl⟩ := sm3 h
      exact kk _ _ _ hw (lv_sub hl [0, 1, 2] rfl)
    · have h := it_f h hc
      refine lv_lload_n hC.x hC.b dX5_digest_17 rfl (lv_at hl 1 rfl) ?_
      refine lv_ldc2 (v := (31 : Int64)) hC.x hC.b hC.o (hC.t _ lk_X5_digest_k176) dX5_digest_18 ?_
      refine lv_lmul hC.x hC.b dX5_digest_21 ?_
      refine lv_aload_n hC.x hC.b dX5_digest_22 rfl (lv_at hl 2 rfl) ?_
      refine lv_iload_n hC.x hC.b dX5_digest_23 rfl (lv_at hl 0 rfl) ?_
      obtain ⟨r24, g24, hq, h⟩ := bd2_t h
      refine x_goi hC hw (x_runV hC hw (c_X5_told (Γ := Γ) (l := l) hC.2.2.2.2 hq) (cwV 1 hC.t gX5_digest_X5_told rfl rfl rfl (by decide +kernel) ⟨Nat.le_of_ble_eq_true rfl, Nat.le_of_ble_eq_true rfl⟩) (As := [.int (v3)]) (by decide) (k_E5 _ _ _) rfl rfl rfl hl.1 (Nat.le_of_ble_eq_true rfl) dX5_digest_24 hcs) (fun H locs hw => ?_)
      refine lv_i2l hC.x hC.b dX5_digest_27 rfl ?_
      refine lv_ladd hC.x hC.b dX5_digest_28 ?_
      refine lv_lstore_n (lv' := [(1, .long ((v1 * (31 : Int64)) + r24.toInt64)), (3, .int (v3)), (0, .ref (k_ad Γ 5 (0)))]) hC.x hC.b dX5_digest_29 rfl hl (by decide) rfl (fun ls hl => ?_)
      refine lv_iinc (v := v3 + (1 : Int32)) (lv' := [(3, .int (v3 + (1 : Int32))), (1, .long ((v1 * (31 : Int64)) + r24.toInt64)), (0, .ref (k_ad Γ 5 (0)))]) hC.x hC.b dX5_digest_30 hl (k := 1) rfl rfl (by decide) rfl (fun ls hl => ?_)
      refine lv_goto (tgt := 11) hC.x hC.b dX5_digest_33 (by decide) ?_
      exact ih _ _ _ _ _ _ h _ _ _ hw (lv_sub hl [0, 1, 2] rfl) kk

set_option maxRecDepth 100000 in
set_option maxHeartbeats 4000000 in
theorem w_X5_digest_49 {Γ : k_Pm} {A0 : Nat → Prop} {p : Program} {l : Launch} {e : Env} {s : State} {m : MethodId} {args : Array Value} {below : List Frame} {meth : Method} {c : Code} {cells slots : Nat} {Q : State → Prop} {tmp : va_W} {c3 : Int32} (hC : k_C Γ A0 p l s m args c cX5_digest 6 wsX5_digest RX5) (hcs : cells ≤ rm_X5_digest.cells ∧ slots ≤ rm_X5_digest.slots) : ∀ (n : Nat) (v1 : Int64) (v4 : Int32) (g : Gt) (w1 : Int64) (w4 : Int32) (g2 : Gt), f_X5_digest_49 c3 n v1 v4 g = some (w1, w4, g2) → ∀ (H : Heap) (locs : List Loc) (ls : Array Slot), k_St Γ A0 s tmp g H locs → lv_has ls 6 [(4, .int (v4)), (3, .int (c3)), (1, .long (v1)), (0, .ref (k_ad Γ 5 (0)))] → (∀ (H1 : Heap) (locs1 : List Loc) (ls1 : Array Slot), k_St Γ A0 s tmp g2 H1 locs1 → lv_has ls1 6 [(4, .int (w4)), (3, .int (c3)), (1, .long (w1)), (0, .ref (k_ad Γ 5 (0)))] → W p l e rm_X5_digest s m args below meth c H1 locs1 cells slots Q (F0 m 77 ls1 [])) → W p l e rm_X5_digest s m args below meth c H locs cells slots Q (F0 m 49 ls []) := by
  intro n
  induction n with
  | zero => intro v1 v4 g w1 w4 g2 h; rw [f_X5_digest_49] at h; cases h
  | succ n ih =>
    intro v1 v4 g w1 w4 g2 h H locs ls hw hl kk
    rw [f_X5_digest_49] at h
    refine lv_iload hC.x hC.b dX5_digest_49 (lv_at hl 0 rfl) ?_
    refine lv_bipush (v := (8 : Int32)) hC.x hC.b dX5_digest_51 (by decide) ?_
    refine lv_icmp_ge (tgt := 77) hC.x hC.b dX5_digest_53 (by decide) (fun hc => ?_) (fun hc => ?_)
    · have h := it_t h hc
      obtain ⟨rfl, rfl, rfl⟩ := sm3 h
      exact kk _ _ _ hw (lv_sub hl [0, 1, 2, 3] rfl)
    · have h := it_f h hc
      refine lv_lload_n hC.x hC.b dX5_digest_56 rfl (lv_at hl 2 rfl) ?_
      refine lv_ldc2 (v := (31 : Int64)) hC.x hC.b hC.o (hC.t _ lk_X5_digest_k176) dX5_digest_57 ?_
      refine lv_lmul hC.x hC.b dX5_digest_60 ?_
      refine lv_aload_n hC.x hC.b dX5_digest_61 rfl (lv_at hl 3 rfl) ?_
      refine lv_iload_n hC.x hC.b dX5_digest_62 rfl (lv_at hl 1 rfl) ?_
      refine lv_iload hC.x hC.b dX5_digest_63 (lv_at hl 0 rfl) ?_
      obtain ⟨r65, g65, hq, h⟩ := bd2_t h
      refine x_goi hC hw (x_runV hC hw (c_X5_cordTold (Γ := Γ) (l := l) hC.2.2.2.2 hq) (cwV 2 hC.t gX5_digest_X5_cordTold rfl rfl rfl (by decide +kernel) ⟨Nat.le_of_ble_eq_true rfl, Nat.le_of_ble_eq_true rfl⟩) (As := [.int (c3), .int (v4)]) (by decide) (k_E5 _ _ _) rfl rfl rfl hl.1 (Nat.le_of_ble_eq_true rfl) dX5_digest_65 hcs) (fun H locs hw => ?_)
      refine lv_i2l hC.x hC.b dX5_digest_68 rfl ?_
      refine lv_ladd hC.x hC.b dX5_digest_69 ?_
      refine lv_lstore_n (lv' := [(1, .long ((v1 * (31 : Int64)) + r65.toInt64)), (4, .int (v4)), (3, .int (c3)), (0, .ref (k_ad Γ 5 (0)))]) hC.x hC.b dX5_digest_70 rfl hl (by decide) rfl (fun ls hl => ?_)
      refine lv_iinc (v := v4 + (1 : Int32)) (lv' := [(4, .int (v4 + (1 : Int32))), (1, .long ((v1 * (31 : Int64)) + r65.toInt64)), (3, .int (c3)), (0, .ref (k_ad Γ 5 (0)))]) hC.x hC.b dX5_digest_71 hl (k := 1) rfl rfl (by decide) rfl (fun ls hl => ?_)
      refine lv_goto (tgt := 49) hC.x hC.b dX5_digest_74 (by decide) ?_
      exact ih _ _ _ _ _ _ h _ _ _ hw (lv_sub hl [0, 2, 1, 3] rfl) kk

set_option maxRecDepth 100000 in
set_option maxHeartbeats 4000000 in
theorem w_X5_digest_80 {Γ : k_Pm} {A0 : Nat → Prop} {p : Program} {l : Launch} {e : Env} {s : State} {m : MethodId} {args : Array Value} {below : List Frame} {meth : Method} {c : Code} {cells slots : Nat} {Q : State → Prop} {tmp : va_W} {c3 : Int32} (hC : k_C Γ A0 p l s m args c cX5_digest 6 wsX5_digest RX5) (hcs : cells ≤ rm_X5_digest.cells ∧ slots ≤ rm_X5_digest.slots) : ∀ (n : Nat) (v1 : Int64) (v4 : Int32) (g : Gt) (w1 : Int64) (w4 : Int32) (g2 : Gt), f_X5_digest_80 c3 n v1 v4 g = some (w1, w4, g2) → ∀ (H : Heap) (locs : List Loc) (ls : Array Slot), k_St Γ A0 s tmp g H locs → lv_has ls 6 [(4, .int (v4)), (3, .int (c3)), (1, .long (v1)), (0, .ref (k_ad Γ 5 (0)))] → (∀ (H1 : Heap) (locs1 : List Loc) (ls1 : Array Slot), k_St Γ A0 s tmp g2 H1 locs1 → lv_has ls1 6 [(4, .int (w4)), (3, .int (c3)), (1, .long (w1)), (0, .ref (k_ad Γ 5 (0)))] → W p l e rm_X5_digest s m args below meth c H1 locs1 cells slots Q (F0 m 128 ls1 [])) → W p l e rm_X5_digest s m args below meth c H locs cells slots Q (F0 m 80 ls []) := by
  intro n
  induction n with
  | zero => intro v1 v4 g w1 w4 g2 h; rw [f_X5_digest_80] at h; cases h
  | succ n ih =>
    intro v1 v4 g w1 w4 g2 h H locs ls hw hl kk
    rw [f_X5_digest_80] at h
    refine lv_iload hC.x hC.b dX5_digest_80 (lv_at hl 0 rfl) ?_
    refine lv_iconst (v := (4 : Int32)) hC.x hC.b dX5_digest_82 (by decide) ?_
    refine lv_icmp_ge (tgt := 128) hC.x hC.b dX5_digest_83 (by decide) (fun hc => ?_) (fun hc => ?_)
    · have h := it_t h hc
      obtain ⟨rfl, rfl, rfl⟩ := sm3 h
      exact kk _ _ _ hw (lv_sub hl [0, 1, 2, 3] rfl)
    · have h := it_f h hc
      refine lv_lload_n hC.x hC.b dX5_digest_86 rfl (lv_at hl 2 rfl) ?_
      refine lv_ldc2 (v := (31 : Int64)) hC.x hC.b hC.o (hC.t _ lk_X5_digest_k176) dX5_digest_87 ?_
      refine lv_lmul hC.x hC.b dX5_digest_90 ?_
      refine lv_aload_n hC.x hC.b dX5_digest_91 rfl (lv_at hl 3 rfl) ?_
      refine x_get hC hw (k := 6) (T := TX5) (by decide) (k_E5 _ _ _) in_X5_digest_X5 rfl (by decide) lk_X5_digest_f16 rfl rfl dX5_digest_92 ?_
      refine lv_iconst (v := (4 : Int32)) hC.x hC.b dX5_digest_95 (by decide) ?_
      refine lv_iload_n hC.x hC.b dX5_digest_96 rfl (lv_at hl 1 rfl) ?_
      refine lv_imul hC.x hC.b dX5_digest_97 ?_
      refine lv_iload hC.x hC.b dX5_digest_98 (lv_at hl 0 rfl) ?_
      refine lv_iadd hC.x hC.b dX5_digest_100 ?_
      obtain ⟨hg1, h⟩ := gd_t h
      refine x_iald hC hw rfl (by decide) hg1 dX5_digest_101 ?_
      refine lv_i2l hC.x hC.b dX5_digest_102 rfl ?_
      refine lv_ladd hC.x hC.b dX5_digest_103 ?_
      refine lv_ldc2 (v := (31 : Int64)) hC.x hC.b hC.o (hC.t _ lk_X5_digest_k176) dX5_digest_104 ?_
      refine lv_lmul hC.x hC.b dX5_digest_107 ?_
      refine lv_aload_n hC.x hC.b dX5_digest_108 rfl (lv_at hl 3 rfl) ?_
      refine x_get hC hw (k := 7) (T := TX5) (by decide) (k_E5 _ _ _) in_X5_digest_X5 rfl (by decide) lk_X5_digest_f19 rfl rfl dX5_digest_109 ?_
      refine lv_iconst (v := (4 : Int32)) hC.x hC.b dX5_digest_112 (by decide) ?_
      refine lv_iload_n hC.x hC.b dX5_digest_113 rfl (lv_at hl 1 rfl) ?_
      refine lv_imul hC.x hC.b dX5_digest_114 ?_
      refine lv_iload hC.x hC.b dX5_digest_115 (lv_at hl 0 rfl) ?_
      refine lv_iadd hC.x hC.b dX5_digest_117 ?_
      obtain ⟨hg2, h⟩ := gd_t h
      refine x_iald hC hw rfl (by decide) hg2 dX5_digest_118 ?_
      refine lv_i2l hC.x hC.b dX5_digest_119 rfl ?_
      refine lv_ladd hC.x hC.b dX5_digest_120 ?_
      refine lv_lstore_n (lv' := [(1, .long ((((v1 * (31 : Int64)) + ((g 32 0 ((((4 : Int32) * c3) + v4).toNatClampNeg)).toInt64)) * (31 : Int64)) + ((g 33 0 ((((4 : Int32) * c3) + v4).toNatClampNeg)).toInt64))), (4, .int (v4)), (3, .int (c3)), (0, .ref (k_ad Γ 5 (0)))]) hC.x hC.b dX5_digest_121 rfl hl (by decide) rfl (fun ls hl => ?_)
      refine lv_iinc (v := v4 + (1 : Int32)) (lv' := [(4, .int (v4 + (1 : Int32))), (1, .long ((((v1 * (31 : Int64)) + ((g 32 0 ((((4 : Int32) * c3) + v4).toNatClampNeg)).toInt64)) * (31 : Int64)) + ((g 33 0 ((((4 : Int32) * c3) + v4).toNatClampNeg)).toInt64))), (3, .int (c3)), (0, .ref (k_ad Γ 5 (0)))]) hC.x hC.b dX5_digest_122 hl (k := 1) rfl rfl (by decide) rfl (fun ls hl => ?_)
      refine lv_goto (tgt := 80) hC.x hC.b dX5_digest_125 (by decide) ?_
      exact ih _ _ _ _ _ _ h _ _ _ hw (lv_sub hl [0, 2, 1, 3] rfl) kk

set_option maxRecDepth 100000 in
set_option maxHeartbeats 4000000 in
theorem w_X5_digest_38 {Γ : k_Pm} {A0 : Nat → Prop} {p : Program} {l : Launch} {e : Env} {s : State} {m : MethodId} {args : Array Value} {below : List Frame} {meth : Method} {c : Code} {cells slots : Nat} {Q : State → Prop} {tmp : va_W} (hC : k_C Γ A0 p l s m args c cX5_digest 6 wsX5_digest RX5) (hcs : cells ≤ rm_X5_digest.cells ∧ slots ≤ rm_X5_digest.slots) : ∀ (n : Nat) (v1 : Int64) (v3 : Int32) (g : Gt) (w1 : Int64) (w3 : Int32) (g2 : Gt), f_X5_digest_38 n v1 v3 g = some (w1, w3, g2) → ∀ (H : Heap) (locs : List Loc) (ls : Array Slot), k_St Γ A0 s tmp g H locs → lv_has ls 6 [(3, .int (v3)), (1, .long (v1)), (0, .ref (k_ad Γ 5 (0)))] → (∀ (H1 : Heap) (locs1 : List Loc) (ls1 : Array Slot), k_St Γ A0 s tmp g2 H1 locs1 → lv_has ls1 6 [(3, .int (w3)), (1, .long (w1)), (0, .ref (k_ad Γ 5 (0)))] → W p l e rm_X5_digest s m args below meth c H1 locs1 cells slots Q (F0 m 134 ls1 [])) → W p l e rm_X5_digest s m args below meth c H locs cells slots Q (F0 m 38 ls []) := by
  intro n
  induction n with
  | zero => intro v1 v3 g w1 w3 g2 h; rw [f_X5_digest_38] at h; cases h
  | succ n ih =>
    intro v1 v3 g w1 w3 g2 h H locs ls hw hl kk
    rw [f_X5_digest_38] at h
    refine lv_iload_n hC.x hC.b dX5_digest_38 rfl (lv_at hl 0 rfl) ?_
    refine lv_aload_n hC.x hC.b dX5_digest_39 rfl (lv_at hl 2 rfl) ?_
    refine x_get hC hw (k := 1) (T := TX5) (by decide) (k_E5 _ _ _) in_X5_digest_X5 rfl (by decide) lk_X5_digest_f50 rfl rfl dX5_digest_40 ?_
    refine lv_icmp_ge (tgt := 134) hC.x hC.b dX5_digest_43 (by decide) (fun hc => ?_) (fun hc => ?_)
    · have h := it_t h hc
      obtain ⟨rfl, rfl, rfl⟩ := sm3 h
      exact kk _ _ _ hw (lv_sub hl [0, 1, 2] rfl)
    · have h := it_f h hc
      refine lv_iconst (v := (0 : Int32)) hC.x hC.b dX5_digest_46 (by decide) ?_
      refine lv_istore (lv' := [(4, .int ((0 : Int32))), (3, .int (v3)), (1, .long (v1)), (0, .ref (k_ad Γ 5 (0)))]) hC.x hC.b dX5_digest_47 hl (by decide) rfl (fun ls hl => ?_)
      obtain ⟨w49_1, w49_4, g49, hq, h⟩ := bd3_t h
      refine w_X5_digest_49 hC hcs  k_N _ _ _ _ _ _ hq _ _ _ hw (lv_sub hl [0, 1, 2, 3] rfl) (fun H locs ls hw hl => ?_)
      refine lv_iconst (v := (0 : Int32)) hC.x hC.b dX5_digest_77 (by decide) ?_
      refine lv_istore (lv' := [(4, .int ((0 : Int32))), (3, .int (v3)), (1, .long (w49_1)), (0, .ref (k_ad Γ 5 (0)))]) hC.x hC.b dX5_digest_78 hl (by decide) rfl (fun ls hl => ?_)
      obtain ⟨w80_1, w80_4, g80, hq, h⟩ := bd3_t h
      refine w_X5_digest_80 hC hcs  k_N _ _ _ _ _ _ hq _ _ _ hw (lv_sub hl [0, 1, 2, 3] rfl) (fun H locs ls hw hl => ?_)
      refine lv_iinc (v := v3 + (1 : Int32)) (lv' := [(3, .int (v3 + (1 : Int32))), (4, .int (w80_4)), (1, .long (w80_1)), (0, .ref (k_ad Γ 5 (0)))]) hC.x hC.b dX5_digest_128 hl (k := 1) rfl rfl (by decide) rfl (fun ls hl => ?_)
      refine lv_goto (tgt := 38) hC.x hC.b dX5_digest_131 (by decide) ?_
      exact ih _ _ _ _ _ _ h _ _ _ hw (lv_sub hl [0, 2, 3] rfl) kk

set_option maxRecDepth 100000 in
set_option maxHeartbeats 4000000 in
theorem w_X5_digest_173 {Γ : k_Pm} {A0 : Nat → Prop} {p : Program} {l : Launch} {e : Env} {s : State} {m : MethodId} {args : Array Value} {below : List Frame} {meth : Method} {c : Code} {cells slots : Nat} {Q : State → Prop} {tmp : va_W} {c4 : Int32} {c3 : Int32} (hC : k_C Γ A0 p l s m args c cX5_digest 6 wsX5_digest RX5) (hcs : cells ≤ rm_X5_digest.cells ∧ slots ≤ rm_X5_digest.slots) : ∀ (n : Nat) (v1 : Int64) (v5 : Int32) (g : Gt) (w1 : Int64) (w5 : Int32) (g2 : Gt), f_X5_digest_173 c4 c3 n v1 v5 g = some (w1, w5, g2) → ∀ (H : Heap) (locs : List Loc) (ls : Array Slot), k_St Γ A0 s tmp g H locs → lv_has ls 6 [(5, .int (v5)), (4, .int (c4)), (1, .long (v1)), (3, .int (c3)), (0, .ref (k_ad Γ 5 (0)))] → (∀ (H1 : Heap) (locs1 : List Loc) (ls1 : Array Slot), k_St Γ A0 s tmp g2 H1 locs1 → lv_has ls1 6 [(5, .int (w5)), (4, .int (c4)), (1, .long (w1)), (3, .int (c3)), (0, .ref (k_ad Γ 5 (0)))] → W p l e rm_X5_digest s m args below meth c H1 locs1 cells slots Q (F0 m 202 ls1 [])) → W p l e rm_X5_digest s m args below meth c H locs cells slots Q (F0 m 173 ls []) := by
  intro n
  induction n with
  | zero => intro v1 v5 g w1 w5 g2 h; rw [f_X5_digest_173] at h; cases h
  | succ n ih =>
    intro v1 v5 g w1 w5 g2 h H locs ls hw hl kk
    rw [f_X5_digest_173] at h
    refine lv_iload hC.x hC.b dX5_digest_173 (lv_at hl 0 rfl) ?_
    refine lv_iconst (v := (3 : Int32)) hC.x hC.b dX5_digest_175 (by decide) ?_
    refine lv_icmp_ge (tgt := 202) hC.x hC.b dX5_digest_176 (by decide) (fun hc => ?_) (fun hc => ?_)
    · have h := it_t h hc
      obtain ⟨rfl, rfl, rfl⟩ := sm3 h
      exact kk _ _ _ hw (lv_sub hl [0, 1, 2, 3, 4] rfl)
    · have h := it_f h hc
      refine lv_lload_n hC.x hC.b dX5_digest_179 rfl (lv_at hl 2 rfl) ?_
      refine lv_ldc2 (v := (31 : Int64)) hC.x hC.b hC.o (hC.t _ lk_X5_digest_k176) dX5_digest_180 ?_
      refine lv_lmul hC.x hC.b dX5_digest_183 ?_
      refine lv_aload_n hC.x hC.b dX5_digest_184 rfl (lv_at hl 4 rfl) ?_
      refine lv_iload_n hC.x hC.b dX5_digest_185 rfl (lv_at hl 3 rfl) ?_
      refine lv_iload hC.x hC.b dX5_digest_186 (lv_at hl 1 rfl) ?_
      refine lv_iload hC.x hC.b dX5_digest_188 (lv_at hl 0 rfl) ?_
      obtain ⟨r190, g190, hq, h⟩ := bd2_t h
      refine x_goi hC hw (x_runV hC hw (c_X5_remembered (Γ := Γ) (l := l) hC.2.2.2.2 hq) (cwV 3 hC.t gX5_digest_X5_remembered rfl rfl rfl (by decide +kernel) ⟨Nat.le_of_ble_eq_true rfl, Nat.le_of_ble_eq_true rfl⟩) (As := [.int (c3), .int (c4), .int (v5)]) (by decide) (k_E5 _ _ _) rfl rfl rfl hl.1 (Nat.le_of_ble_eq_true rfl) dX5_digest_190 hcs) (fun H locs hw => ?_)
      refine lv_i2l hC.x hC.b dX5_digest_193 rfl ?_
      refine lv_ladd hC.x hC.b dX5_digest_194 ?_
      refine lv_lstore_n (lv' := [(1, .long ((v1 * (31 : Int64)) + r190.toInt64)), (5, .int (v5)), (4, .int (c4)), (3, .int (c3)), (0, .ref (k_ad Γ 5 (0)))]) hC.x hC.b dX5_digest_195 rfl hl (by decide) rfl (fun ls hl => ?_)
      refine lv_iinc (v := v5 + (1 : Int32)) (lv' := [(5, .int (v5 + (1 : Int32))), (1, .long ((v1 * (31 : Int64)) + r190.toInt64)), (4, .int (c4)), (3, .int (c3)), (0, .ref (k_ad Γ 5 (0)))]) hC.x hC.b dX5_digest_196 hl (k := 1) rfl rfl (by decide) rfl (fun ls hl => ?_)
      refine lv_goto (tgt := 173) hC.x hC.b dX5_digest_199 (by decide) ?_
      exact ih _ _ _ _ _ _ h _ _ _ hw (lv_sub hl [0, 2, 1, 3, 4] rfl) kk

set_option maxRecDepth 100000 in
set_option maxHeartbeats 4000000 in
theorem w_X5_digest_161 {Γ : k_Pm} {A0 : Nat → Prop} {p : Program} {l : Launch} {e : Env} {s : State} {m : MethodId} {args : Array Value} {below : List Frame} {meth : Method} {c : Code} {cells slots : Nat} {Q : State → Prop} {tmp : va_W} {c3 : Int32} (hC : k_C Γ A0 p l s m args c cX5_digest 6 wsX5_digest RX5) (hcs : cells ≤ rm_X5_digest.cells ∧ slots ≤ rm_X5_digest.slots) : ∀ (n : Nat) (v1 : Int64) (v4 : Int32) (g : Gt) (w1 : Int64) (w4 : Int32) (g2 : Gt), f_X5_digest_161 c3 n v1 v4 g = some (w1, w4, g2) → ∀ (H : Heap) (locs : List Loc) (ls : Array Slot), k_St Γ A0 s tmp g H locs → lv_has ls 6 [(4, .int (v4)), (1, .long (v1)), (3, .int (c3)), (0, .ref (k_ad Γ 5 (0)))] → (∀ (H1 : Heap) (locs1 : List Loc) (ls1 : Array Slot), k_St Γ A0 s tmp g2 H1 locs1 → lv_has ls1 6 [(4, .int (w4)), (1, .long (w1)), (3, .int (c3)), (0, .ref (k_ad Γ 5 (0)))] → W p l e rm_X5_digest s m args below meth c H1 locs1 cells slots Q (F0 m 208 ls1 [])) → W p l e rm_X5_digest s m args below meth c H locs cells slots Q (F0 m 161 ls []) := by
  intro n
  induction n with
  | zero => intro v1 v4 g w1 w4 g2 h; rw [f_X5_digest_161] at h; cases h
  | succ n ih =>
    intro v1 v4 g w1 w4 g2 h H locs ls hw hl kk
    rw [f_X5_digest_161] at h
    refine lv_iload hC.x hC.b dX5_digest_161 (lv_at hl 0 rfl) ?_
    refine lv_aload_n hC.x hC.b dX5_digest_163 rfl (lv_at hl 3 rfl) ?_
    refine x_get hC hw (k := 1) (T := TX5) (by decide) (k_E5 _ _ _) in_X5_digest_X5 rfl (by decide) lk_X5_digest_f50 rfl rfl dX5_digest_164 ?_
    refine lv_icmp_ge (tgt := 208) hC.x hC.b dX5_digest_167 (by decide) (fun hc => ?_) (fun hc => ?_)
    · have h := it_t h hc
      obtain ⟨rfl, rfl, rfl⟩ := sm3 h
      exact kk _ _ _ hw (lv_sub hl [0, 1, 2, 3] rfl)
    · have h := it_f h hc
      refine lv_iconst (v := (0 : Int32)) hC.x hC.b dX5_digest_170 (by decide) ?_
      refine lv_istore (lv' := [(5, .int ((0 : Int32))), (4, .int (v4)), (1, .long (v1)), (3, .int (c3)), (0, .ref (k_ad Γ 5 (0)))]) hC.x hC.b dX5_digest_171 hl (by decide) rfl (fun ls hl => ?_)
      obtain ⟨w173_1, w173_5, g173, hq, h⟩ := bd3_t h
      refine w_X5_digest_173 hC hcs  k_N _ _ _ _ _ _ hq _ _ _ hw (lv_sub hl [0, 1, 2, 3, 4] rfl) (fun H locs ls hw hl => ?_)
      refine lv_iinc (v := v4 + (1 : Int32)) (lv' := [(4, .int (v4 + (1 : Int32))), (5, .int (w173_5)), (1, .long (w173_1)), (3, .int (c3)), (0, .ref (k_ad Γ 5 (0)))]) hC.x hC.b dX5_digest_202 hl (k := 1) rfl rfl (by decide) rfl (fun ls hl => ?_)
      refine lv_goto (tgt := 161) hC.x hC.b dX5_digest_205 (by decide) ?_
      exact ih _ _ _ _ _ _ h _ _ _ hw (lv_sub hl [0, 2, 3, 4] rfl) kk

set_option maxRecDepth 100000 in
set_option maxHeartbeats 4000000 in
theorem w_X5_digest_136 {Γ : k_Pm} {A0 : Nat → Prop} {p : Program} {l : Launch} {e : Env} {s : State} {m : MethodId} {args : Array Value} {below : List Frame} {meth : Method} {c : Code} {cells slots : Nat} {Q : State → Prop} {tmp : va_W} (hC : k_C Γ A0 p l s m args c cX5_digest 6 wsX5_digest RX5) (hcs : cells ≤ rm_X5_digest.cells ∧ slots ≤ rm_X5_digest.slots) : ∀ (n : Nat) (v1 : Int64) (v3 : Int32) (g : Gt) (w1 : Int64) (w3 : Int32) (g2 : Gt), f_X5_digest_136 n v1 v3 g = some (w1, w3, g2) → ∀ (H : Heap) (locs : List Loc) (ls : Array Slot), k_St Γ A0 s tmp g H locs → lv_has ls 6 [(3, .int (v3)), (1, .long (v1)), (0, .ref (k_ad Γ 5 (0)))] → (∀ (H1 : Heap) (locs1 : List Loc) (ls1 : Array Slot), k_St Γ A0 s tmp g2 H1 locs1 → lv_has ls1 6 [(3, .int (w3)), (1, .long (w1)), (0, .ref (k_ad Γ 5 (0)))] → W p l e rm_X5_digest s m args below meth c H1 locs1 cells slots Q (F0 m 214 ls1 [])) → W p l e rm_X5_digest s m args below meth c H locs cells slots Q (F0 m 136 ls []) := by
  intro n
  induction n with
  | zero => intro v1 v3 g w1 w3 g2 h; rw [f_X5_digest_136] at h; cases h
  | succ n ih =>
    intro v1 v3 g w1 w3 g2 h H locs ls hw hl kk
    rw [f_X5_digest_136] at h
    refine lv_iload_n hC.x hC.b dX5_digest_136 rfl (lv_at hl 0 rfl) ?_
    refine lv_aload_n hC.x hC.b dX5_digest_137 rfl (lv_at hl 2 rfl) ?_
    refine x_get hC hw (k := 2) (T := TX5) (by decide) (k_E5 _ _ _) in_X5_digest_X5 rfl (by decide) lk_X5_digest_f57 rfl rfl dX5_digest_138 ?_
    refine lv_icmp_ge (tgt := 214) hC.x hC.b dX5_digest_141 (by decide) (fun hc => ?_) (fun hc => ?_)
    · have h := it_t h hc
      obtain ⟨rfl, rfl, rfl⟩ := sm3 h
      exact kk _ _ _ hw (lv_sub hl [0, 1, 2] rfl)
    · have h := it_f h hc
      refine lv_lload_n hC.x hC.b dX5_digest_144 rfl (lv_at hl 1 rfl) ?_
      refine lv_ldc2 (v := (31 : Int64)) hC.x hC.b hC.o (hC.t _ lk_X5_digest_k176) dX5_digest_145 ?_
      refine lv_lmul hC.x hC.b dX5_digest_148 ?_
      refine lv_aload_n hC.x hC.b dX5_digest_149 rfl (lv_at hl 2 rfl) ?_
      refine x_get hC hw (k := 8) (T := TX5) (by decide) (k_E5 _ _ _) in_X5_digest_X5 rfl (by decide) lk_X5_digest_f22 rfl rfl dX5_digest_150 ?_
      refine lv_iload_n hC.x hC.b dX5_digest_153 rfl (lv_at hl 0 rfl) ?_
      obtain ⟨hg3, h⟩ := gd_t h
      refine x_iald hC hw rfl (by decide) hg3 dX5_digest_154 ?_
      refine lv_i2l hC.x hC.b dX5_digest_155 rfl ?_
      refine lv_ladd hC.x hC.b dX5_digest_156 ?_
      refine lv_lstore_n (lv' := [(1, .long ((v1 * (31 : Int64)) + ((g 34 0 v3.toNatClampNeg).toInt64))), (3, .int (v3)), (0, .ref (k_ad Γ 5 (0)))]) hC.x hC.b dX5_digest_157 rfl hl (by decide) rfl (fun ls hl => ?_)
      refine lv_iconst (v := (0 : Int32)) hC.x hC.b dX5_digest_158 (by decide) ?_
      refine lv_istore (lv' := [(4, .int ((0 : Int32))), (1, .long ((v1 * (31 : Int64)) + ((g 34 0 v3.toNatClampNeg).toInt64))), (3, .int (v3)), (0, .ref (k_ad Γ 5 (0)))]) hC.x hC.b dX5_digest_159 hl (by decide) rfl (fun ls hl => ?_)
      obtain ⟨w161_1, w161_4, g161, hq, h⟩ := bd3_t h
      refine w_X5_digest_161 hC hcs  k_N _ _ _ _ _ _ hq _ _ _ hw (lv_sub hl [0, 1, 2, 3] rfl) (fun H locs ls hw hl => ?_)
      refine lv_iinc (v := v3 + (1 : Int32)) (lv' := [(3, .int (v3 + (1 : Int32))), (4, .int (w161_4)), (1, .long (w161_1)), (0, .ref (k_ad Γ 5 (0)))]) hC.x hC.b dX5_digest_208 hl (k := 2) rfl rfl (by decide) rfl (fun ls hl => ?_)
      refine lv_goto (tgt := 136) hC.x hC.b dX5_digest_211 (by decide) ?_
      exact ih _ _ _ _ _ _ h _ _ _ hw (lv_sub hl [0, 2, 3] rfl) kk

set_option maxRecDepth 100000 in
set_option maxHeartbeats 4000000 in
theorem w_X5_digest_216 {Γ : k_Pm} {A0 : Nat → Prop} {p : Program} {l : Launch} {e : Env} {s : State} {m : MethodId} {args : Array Value} {below : List Frame} {meth : Method} {c : Code} {cells slots : Nat} {Q : State → Prop} {tmp : va_W} (hC : k_C Γ A0 p l s m args c cX5_digest 6 wsX5_digest RX5) (hcs : cells ≤ rm_X5_digest.cells ∧ slots ≤ rm_X5_digest.slots) : ∀ (n : Nat) (v1 : Int64) (v3 : Int32) (g : Gt) (w1 : Int64) (w3 : Int32) (g2 : Gt), f_X5_digest_216 n v1 v3 g = some (w1, w3, g2) → ∀ (H : Heap) (locs : List Loc) (ls : Array Slot), k_St Γ A0 s tmp g H locs → lv_has ls 6 [(3, .int (v3)), (1, .long (v1)), (0, .ref (k_ad Γ 5 (0)))] → (∀ (H1 : Heap) (locs1 : List Loc) (ls1 : Array Slot), k_St Γ A0 s tmp g2 H1 locs1 → lv_has ls1 6 [(3, .int (w3)), (1, .long (w1)), (0, .ref (k_ad Γ 5 (0)))] → W p l e rm_X5_digest s m args below meth c H1 locs1 cells slots Q (F0 m 246 ls1 [])) → W p l e rm_X5_digest s m args below meth c H locs cells slots Q (F0 m 216 ls []) := by
  intro n
  induction n with
  | zero => intro v1 v3 g w1 w3 g2 h; rw [f_X5_digest_216] at h; cases h
  | succ n ih =>
    intro v1 v3 g w1 w3 g2 h H locs ls hw hl kk
    rw [f_X5_digest_216] at h
    refine lv_iload_n hC.x hC.b dX5_digest_216 rfl (lv_at hl 0 rfl) ?_
    refine lv_iconst (v := (5 : Int32)) hC.x hC.b dX5_digest_217 (by decide) ?_
    refine lv_aload_n hC.x hC.b dX5_digest_218 rfl (lv_at hl 2 rfl) ?_
    refine x_get hC hw (k := 3) (T := TX5) (by decide) (k_E5 _ _ _) in_X5_digest_X5 rfl (by decide) lk_X5_digest_f80 rfl rfl dX5_digest_219 ?_
    refine lv_imul hC.x hC.b dX5_digest_222 ?_
    refine lv_icmp_ge (tgt := 246) hC.x hC.b dX5_digest_223 (by decide) (fun hc => ?_) (fun hc => ?_)
    · have h := it_t h hc
      obtain ⟨rfl, rfl, rfl⟩ := sm3 h
      exact kk _ _ _ hw (lv_sub hl [0, 1, 2] rfl)
    · have h := it_f h hc
      refine lv_lload_n hC.x hC.b dX5_digest_226 rfl (lv_at hl 1 rfl) ?_
      refine lv_ldc2 (v := (31 : Int64)) hC.x hC.b hC.o (hC.t _ lk_X5_digest_k176) dX5_digest_227 ?_
      refine lv_lmul hC.x hC.b dX5_digest_230 ?_
      refine lv_aload_n hC.x hC.b dX5_digest_231 rfl (lv_at hl 2 rfl) ?_
      refine x_get hC hw (k := 11) (T := TX5) (by decide) (k_E5 _ _ _) in_X5_digest_X5 rfl (by decide) lk_X5_digest_f31 rfl rfl dX5_digest_232 ?_
      refine lv_iload_n hC.x hC.b dX5_digest_235 rfl (lv_at hl 0 rfl) ?_
      obtain ⟨hg4, h⟩ := gd_t h
      refine x_iald hC hw rfl (by decide) hg4 dX5_digest_236 ?_
      refine lv_i2l hC.x hC.b dX5_digest_237 rfl ?_
      refine lv_ladd hC.x hC.b dX5_digest_238 ?_
      refine lv_lstore_n (lv' := [(1, .long ((v1 * (31 : Int64)) + ((g 37 0 v3.toNatClampNeg).toInt64))), (3, .int (v3)), (0, .ref (k_ad Γ 5 (0)))]) hC.x hC.b dX5_digest_239 rfl hl (by decide) rfl (fun ls hl => ?_)
      refine lv_iinc (v := v3 + (1 : Int32)) (lv' := [(3, .int (v3 + (1 : Int32))), (1, .long ((v1 * (31 : Int64)) + ((g 37 0 v3.toNatClampNeg).toInt64))), (0, .ref (k_ad Γ 5 (0)))]) hC.x hC.b dX5_digest_240 hl (k := 1) rfl rfl (by decide) rfl (fun ls hl => ?_)
      refine lv_goto (tgt := 216) hC.x hC.b dX5_digest_243 (by decide) ?_
      exact ih _ _ _ _ _ _ h _ _ _ hw (lv_sub hl [0, 1, 2] rfl) kk

set_option maxRecDepth 100000 in
set_option maxHeartbeats 4000000 in
theorem c_X5_digest {Γ : k_Pm} {l : Launch} (hl0 : l.stackTraces = false)   {g : Gt} {r : Int64} {g2 : Gt} (h : f_X5_digest  g = some (r, g2)) : k_CL Γ l yX5_digest wsX5_digest rm_X5_digest [.ref (k_ad Γ 5 (0))] g r g2 := by
  intro sz
  refine Met.ofW (cc := cX5_digest) (maxL := 6) (ret := (some .long)) (by decide) rfl ?_
  intro p e s m args below meth c s₁ B hml hv
  obtain ⟨rfl, rfl, hP, hKS⟩ := hv
  have hr := B.returns
  have hlocks := B.notSynchronized
  have hC : k_C Γ (k_A Γ s.heap.size) p l s m _ c cX5_digest 6 wsX5_digest RX5 := k_C.of ⟨B.exec, B.bytes, hml, findClass_of_methodNamed B.named, atoms_spec (ws := wsX5_digest) B.pre⟩ hKS hl0
  have hw : k_St Γ (k_A Γ s.heap.size) s [] g s.heap [] := k_St.of hKS hP
  have hl := lv_entry ([.ref (k_ad Γ 5 (0))] : List Value) (n := 6) (Nat.le_of_ble_eq_true rfl)
  rw [lg_entry_eq]
  generalize (lg_sl ([.ref (k_ad Γ 5 (0))] : List Value) ++ List.replicate (6 - (lg_sl ([.ref (k_ad Γ 5 (0))] : List Value)).length) Slot.unset).toArray = ls at hl ⊢
  have hl : lv_has ls 6 [(0, .ref (k_ad Γ 5 (0)))] := hl
  change W p l e rm_X5_digest _ _ _ _ _ _ _ _ _ _ _ _
  unfold f_X5_digest at h
  refine lv_aload_n hC.x hC.b dX5_digest_0 rfl (lv_at hl 0 rfl) ?_
  refine lv_iconst (v := (0 : Int32)) hC.x hC.b dX5_digest_1 (by decide) ?_
  refine x_puti hC hw (k := 0) (T := TX5) (by decide) (k_E5 _ _ _) in_X5_digest_X5 rfl (by decide) lk_X5_digest_f46 rfl tyX5 tyX5_ok nmX5 rfl (by decide +kernel) (Nat.le_of_ble_eq_true rfl) (by rw [k_E5]; rfl) dX5_digest_2 (fun H locs hw => ?_)
  refine lv_ldc2 (v := (797 : Int64)) hC.x hC.b hC.o (hC.t _ lk_X5_digest_k174) dX5_digest_5 ?_
  refine lv_lstore_n (lv' := [(1, .long ((797 : Int64))), (0, .ref (k_ad Γ 5 (0)))]) hC.x hC.b dX5_digest_8 rfl hl (by decide) rfl (fun ls hl => ?_)
  refine lv_iconst (v := (0 : Int32)) hC.x hC.b dX5_digest_9 (by decide) ?_
  refine lv_istore_n (lv' := [(3, .int ((0 : Int32))), (1, .long ((797 : Int64))), (0, .ref (k_ad Γ 5 (0)))]) hC.x hC.b dX5_digest_10 rfl hl (by decide) rfl (fun ls hl => ?_)
  obtain ⟨w11_1, w11_3, g11, hq, h⟩ := bd3_t h
  refine w_X5_digest_11 hC ⟨by decide, by decide⟩  k_N _ _ _ _ _ _ hq _ _ _ hw (lv_sub hl [0, 1, 2] rfl) (fun H locs ls hw hl => ?_)
  refine lv_iconst (v := (0 : Int32)) hC.x hC.b dX5_digest_36 (by decide) ?_
  refine lv_istore_n (lv' := [(3, .int ((0 : Int32))), (1, .long (w11_1)), (0, .ref (k_ad Γ 5 (0)))]) hC.x hC.b dX5_digest_37 rfl hl (by decide) rfl (fun ls hl => ?_)
  obtain ⟨w38_1, w38_3, g38, hq, h⟩ := bd3_t h
  refine w_X5_digest_38 hC ⟨by decide, by decide⟩  k_N _ _ _ _ _ _ hq _ _ _ hw (lv_sub hl [0, 1, 2] rfl) (fun H locs ls hw hl => ?_)
  refine lv_iconst (v := (0 : Int32)) hC.x hC.b dX5_digest_134 (by decide) ?_
  refine lv_istore_n (lv' := [(3, .int ((0 : Int32))), (1, .long (w38_1)), (0, .ref (k_ad Γ 5 (0)))]) hC.x hC.b dX5_digest_135 rfl hl (by decide) rfl (fun ls hl => ?_)
  obtain ⟨w136_1, w136_3, g136, hq, h⟩ := bd3_t h
  refine w_X5_digest_136 hC ⟨by decide, by decide⟩  k_N _ _ _ _ _ _ hq _ _ _ hw (lv_sub hl [0, 1, 2] rfl) (fun H locs ls hw hl => ?_)
  refine lv_iconst (v := (0 : Int32)) hC.x hC.b dX5_digest_214 (by decide) ?_
  refine lv_istore_n (lv' := [(3, .int ((0 : Int32))), (1, .long (w136_1)), (0, .ref (k_ad Γ 5 (0)))]) hC.x hC.b dX5_digest_215 rfl hl (by decide) rfl (fun ls hl => ?_)
  obtain ⟨w216_1, w216_3, g216, hq, h⟩ := bd3_t h
  refine w_X5_digest_216 hC ⟨by decide, by decide⟩  k_N _ _ _ _ _ _ hq _ _ _ hw (lv_sub hl [0, 1, 2] rfl) (fun H locs ls hw hl => ?_)
  refine lv_lload_n hC.x hC.b dX5_digest_246 rfl (lv_at hl 1 rfl) ?_
  obtain ⟨rfl, rfl⟩ := sm2 h
  exact x_lret hC hw hr hlocks (by decide) (by decide) dX5_digest_247
