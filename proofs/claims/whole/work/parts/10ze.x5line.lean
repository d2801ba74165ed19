/-! line, of the reference -/
section
variable {Γ : k_Pm} {A0 : Nat → Prop} {p : Program} {l : Launch} {e : Env} {R : Room} {s : State} {m : MethodId} {args : Array Value} {below : List Frame} {meth : Method} {c : Code} {H : Heap} {locs : List Loc} {cells slots : Nat} {Q : State → Prop}
variable {cc : ByteArray} {nL : Nat} {Ts : List Cond} {own : String} {tmp : va_W} {g : Gt} {pc : Nat} {ls : Array Slot} {rest : List Value} {cB : ClassId}
theorem jx_gos (hC : k_C Γ A0 p l s m args c cc nL Ts own) (hw : k_St Γ A0 s tmp g H locs) {w1 : Nat → Nat → va_W} {a : Array Value} {mc ms : Nat} {st0 : List Value} (hr : va_Run p l e R s m args below meth c H locs cells slots mc ms (F0 m pc ls st0) rest (j_Qs Γ.1 tmp w1 H.size a) (va_A tmp H.size))
    (kk : ∀ (t w : Nat) (H1 : Heap) (locs1 : List Loc), k_St Γ A0 s (w1 t w) g H1 locs1 → W p l e R s m args below meth c H1 locs1 (cells + mc) (slots + ms) Q (F0 m (pc + 3) ls (.ref t :: rest))) : W p l e R s m args below meth c H locs cells slots Q (F0 m pc ls st0) :=
  va_callr hr hw.2.2 (fun q _ h => jx_fr hC hw q h) (jx_fr hC hw) fun u q t H1 locs1 ht hvm hp hB hz hk hS2 => kk q u H1 locs1 (jx_to hC hw hk (ht ▸ hB.1) hB.2 hS2)
theorem jx_preT (hC : k_C Γ A0 p l s m args c cc nL Ts own) (hw : k_St Γ A0 s tmp g H locs) (hB : ArrOfT s cB .byte ∧ va_RA s cB .byte) {q0 a : Nat} {fs As : List Value} (he : tmp[q0]? = some (a, .inr (0, fs))) : PreV s H RJ0 a (j_Pre Γ.1 cB (k_b0 Γ) (.ref a :: As) tmp H.size) As :=
  ⟨j_Pre_blind, va_recv (q0 := q0) hC.2.1.1 (k_P_right hw.1) (show vwCl[0]? = some (RJ0, TJ0, 4) from rfl) he, fun U hU hW => jx_pre hC hw hB U hU hW⟩
end
def f_X5_line (x1 : Int32) (g : Gt) : Option (Int32 × Gt) := bd2 (f_X5_isCord x1 (k_up g 5 0 0 (0 : Int32))) (fun r7 g7 => (if r7 = 0 then bd2 (f_X5_fail (1 : Int32) g7) (fun r15 g15 => some (r15, g15)) else gd (j_ok x1 16) (gd (k_ib x1 16) (gd (j_ok (g7 31 0 x1.toNatClampNeg) 10000) (bd2 (f_X5_digits x1 g7) (fun r51 g51 => gd (j_ok r51 10000) (some (j_hs (j_tx x1.toNatClampNeg (g7 31 0 x1.toNatClampNeg).toNatClampNeg r51.toNatClampNeg) (j_tk x1.toNatClampNeg (g7 31 0 x1.toNatClampNeg).toNatClampNeg r51.toNatClampNeg) 0 0, g51))))))))
theorem j_hs_c {f f' : Nat → Int32} {K : Nat} (h : ∀ i, i < K → f i = f' i) : ∀ (n i : Nat) (y : Int32), i + n = K → j_hs f n i y = j_hs f' n i y
  | 0, _, _, _ => rfl
  | n + 1, i, y, hi => by
    rw [j_hs, j_hs, h i (by omega)]
    exact j_hs_c h n (i + 1) _ (by omega)
theorem j_cp_at {f : Nat → Int32} {k i : Nat} (hi : i < k) : j_cp k f i = f i := by
  unfold j_cp va_cpy
  rw [if_pos (by omega), Nat.zero_add, Nat.sub_zero]
abbrev rm_X5_line : Room := { frames := 8, cells := 4, slots := 44, locals := 220 }
set_option maxRecDepth 20000 in
theorem in_X5_line_X5 : ∀ w ∈ wsX50, w ∈ wsX5_line := fun _ h => List.mem_cons_of_mem _ (List.mem_append_left _ (List.mem_append_left _ (List.mem_append_right _ h)))
theorem in_X5_line_J4 : ∀ w ∈ wsJ40, w ∈ wsX5_line := fun _ h => List.mem_cons_of_mem _ (List.mem_append_left _ (List.mem_append_right _ h))
set_option maxRecDepth 20000 in
theorem lk_X5_line_c : Cond.classLink RX5 151 RJ4 ∈ wsX5_line ∧ Cond.instantiable RJ4 4 ∈ wsX5_line ∧ Cond.initialized RJ4 ∈ wsX5_line ∧ Cond.arrayClass .byte ∈ wsX5_line := by decide +kernel
set_option maxRecDepth 20000 in
theorem lk_X5_line_n : Cond.instanceMethod yJ4_init_da8c8 ∈ wsX5_line ∧ Cond.methodLink RX5 153 yJ4_init_da8c8 ∈ wsX5_line := by decide +kernel
set_option maxRecDepth 20000 in
theorem lk_X5_line_f46 : Cond.fieldLink RX5 46 "KnotArchiveModel" "thrown" "I" ∈ wsX5_line := by decide +kernel
set_option maxRecDepth 20000 in
theorem lk_X5_line_f13 : Cond.fieldLink RX5 13 "KnotArchiveModel" "strands" "[I" ∈ wsX5_line := by decide +kernel
set_option maxRecDepth 100000 in
set_option maxHeartbeats 4000000 in
theorem w_X5_line_66 {Γ : k_Pm} {A0 : Nat → Prop} {p : Program} {l : Launch} {e : Env} {s : State} {m : MethodId} {args : Array Value} {below : List Frame} {meth : Method} {c : Code} {cells slots : Nat} {Q : State → Prop} {g : Gt} {h v t w a0 K : Nat} {x1 : Int32} {cB : ClassId} {ml : Value} {f : Nat → Int32} (hC : k_C Γ A0 p l s m args c cX5_line 5 wsX5_line RX5) (hcs : cells ≤ rm_X5_line.cells ∧ slots ≤ rm_X5_line.slots) (hB : ArrOfT s cB .byte ∧ va_RA s cB .byte) (hK : K < 16) (hf : j_asc f K) : ∀ (n i : Nat) (y : Int32), i + n = K → ∀ (H : Heap) (locs : List Loc) (ls : Array Slot), k_St Γ A0 s (j_ss h v cB (nI K) ml f K t w) g H locs → lv_has ls 5 [(4, .int (nI i)), (3, .int y), (2, .ref t), (0, .ref a0), (1, .int x1)] → (∀ (H1 : Heap) (locs1 : List Loc) (ls1 : Array Slot), k_St Γ A0 s (j_ss h v cB (nI K) ml f K t w) g H1 locs1 → lv_has ls1 5 [(3, .int (j_hs f n i y))] → W p l e rm_X5_line s m args below meth c H1 locs1 cells slots Q (F0 m 93 ls1 [])) → W p l e rm_X5_line s m args below meth c H locs cells slots Q (F0 m 66 ls []) := by
  intro n
  induction n with
  | zero =>
    intro i y hin H locs ls hw hl kk
    have hi : i = K := by omega
    subst hi
    refine lv_iload hC.x hC.b dX5_line_66 (lv_at hl 0 rfl) ?_
    refine lv_aload_n hC.x hC.b dX5_line_68 rfl (lv_at hl 2 rfl) ?_
    refine jx_goi (w1 := j_ss h v cB (nI i) ml f i t w) hC hw (va_runV (As := []) hC.1 (c_J0_length (q0 := 2) (q1 := 3) rfl rfl (by omega) _) (cwV 0 hC.t gX5_line_J0_length_8abf5 rfl rfl rfl (by decide +kernel) ⟨Nat.le_of_ble_eq_true rfl, Nat.le_of_ble_eq_true rfl⟩) (jx_preT (q0 := 2) hC hw hB rfl) rfl rfl hl.1 rfl (lv_room (Nat.le_of_ble_eq_true rfl)) dX5_line_69 hcs) (fun H locs hw => ?_)
    refine lv_icmp_ge (tgt := 93) hC.x hC.b dX5_line_72 (by decide) (fun _ => ?_) (fun hc => absurd (Int32.le_refl _) hc)
    exact kk _ _ _ hw (lv_sub hl [1] rfl)
  | succ n ih =>
    intro i y hin H locs ls hw hl kk
    have hi : i < K := by omega
    obtain ⟨ch, hch, hfi⟩ := hf i hi
    refine lv_iload hC.x hC.b dX5_line_66 (lv_at hl 0 rfl) ?_
    refine lv_aload_n hC.x hC.b dX5_line_68 rfl (lv_at hl 2 rfl) ?_
    refine jx_goi (w1 := j_ss h v cB (nI K) ml f K t w) hC hw (va_runV (As := []) hC.1 (c_J0_length (q0 := 2) (q1 := 3) rfl rfl (by omega) _) (cwV 0 hC.t gX5_line_J0_length_8abf5 rfl rfl rfl (by decide +kernel) ⟨Nat.le_of_ble_eq_true rfl, Nat.le_of_ble_eq_true rfl⟩) (jx_preT (q0 := 2) hC hw hB rfl) rfl rfl hl.1 rfl (lv_room (Nat.le_of_ble_eq_true rfl)) dX5_line_69 hcs) (fun H locs hw => ?_)
    refine lv_icmp_ge (tgt := 93) hC.x hC.b dX5_line_72 (by decide) (fun hc => absurd hc (by rw [nI_leI (by omega) (by omega)]; omega)) (fun _ => ?_)
    refine lv_iload_n hC.x hC.b dX5_line_75 rfl (lv_at hl 1 rfl) ?_
    refine lv_bipush (v := (31 : Int32)) hC.x hC.b dX5_line_76 (by decide) ?_
    refine lv_imul hC.x hC.b dX5_line_78 ?_
    refine lv_aload_n hC.x hC.b dX5_line_79 rfl (lv_at hl 2 rfl) ?_
    refine lv_iload hC.x hC.b dX5_line_80 (lv_at hl 0 rfl) ?_
    refine jx_goi (w1 := j_ss h v cB (nI K) ml f K t w) hC hw (va_runV (As := [.int (nI i)]) hC.1 (c_J0_charAt (q0 := 2) (q1 := 3) (k := K) (f := j_cp K f) rfl rfl (by omega) hi hch (by rw [j_cp_at hi]; exact hfi) _) (cwV 1 hC.t gX5_line_J0_charAt_5068e rfl rfl rfl (by decide +kernel) ⟨Nat.le_of_ble_eq_true rfl, Nat.le_of_ble_eq_true rfl⟩) (jx_preT (q0 := 2) hC hw hB rfl) rfl rfl hl.1 rfl (lv_room (Nat.le_of_ble_eq_true rfl)) dX5_line_82 hcs) (fun H locs hw => ?_)
    refine lv_iadd hC.x hC.b dX5_line_85 ?_
    refine lv_istore_n (lv' := [(3, .int (y * 31 + nI ch)), (4, .int (nI i)), (2, .ref t), (0, .ref a0), (1, .int x1)]) hC.x hC.b dX5_line_86 rfl hl (by decide) rfl (fun ls hl => ?_)
    refine lv_iinc (v := nI i + (1 : Int32)) (lv' := [(4, .int (nI i + 1)), (3, .int (y * 31 + nI ch)), (2, .ref t), (0, .ref a0), (1, .int x1)]) hC.x hC.b dX5_line_87 hl (k := 1) rfl rfl (by decide) rfl (fun ls hl => ?_)
    refine lv_goto (tgt := 66) hC.x hC.b dX5_line_90 (by decide) ?_
    have e1 : nI i + 1 = nI (i + 1) := nI_add i 1
    rw [e1] at hl
    rw [← hfi] at hl
    exact ih (i + 1) _ (by omega) _ _ _ hw hl kk
set_option maxRecDepth 100000 in
set_option maxHeartbeats 4000000 in
theorem c_X5_line {Γ : k_Pm} {l : Launch} (hl0 : l.stackTraces = false) {x1 : Int32}  {g : Gt} {r : Int32} {g2 : Gt} (h : f_X5_line x1 g = some (r, g2)) : k_CI Γ l yX5_line wsX5_line rm_X5_line [.ref (k_ad Γ 5 (0)), .int (x1)] g r g2 := by
  intro sz
  refine Met.ofW (cc := cX5_line) (maxL := 5) (ret := (some .int)) (by decide) rfl ?_
  intro p e s m args below meth c s₁ B hml hv
  obtain ⟨rfl, rfl, hP, hKS⟩ := hv
  have hr := B.returns
  have hlocks := B.notSynchronized
  have hC : k_C Γ (k_A Γ s.heap.size) p l s m _ c cX5_line 5 wsX5_line RX5 := k_C.of ⟨B.exec, B.bytes, hml, findClass_of_methodNamed B.named, atoms_spec (ws := wsX5_line) B.pre⟩ hKS hl0
  have hw : k_St Γ (k_A Γ s.heap.size) s [] g s.heap [] := k_St.of hKS hP
  obtain ⟨cB, kB, compB, hB1, hB2, hB3⟩ := Cond.arrayClass_spec (args := #[.ref (k_ad Γ 5 (0)), .int (x1)]) (first := s) (o := none) (s := s) (idx := []) (hC.t _ lk_X5_line_c.2.2.2)
  have hB : ArrOfT s cB .byte ∧ va_RA s cB .byte := ⟨fun n z => ⟨fun k h => (by cases h), kB, hB2, compB, hB3⟩, hB1⟩
  have hl := lv_entry ([.ref (k_ad Γ 5 (0)), .int (x1)] : List Value) (n := 5) (Nat.le_of_ble_eq_true rfl)
  rw [lg_entry_eq]
  generalize (lg_sl ([.ref (k_ad Γ 5 (0)), .int (x1)] : List Value) ++ List.replicate (5 - (lg_sl ([.ref (k_ad Γ 5 (0)), .int (x1)] : List Value)).length) Slot.unset).toArray = ls at hl ⊢
  have hl : lv_has ls 5 [(0, .ref (k_ad Γ 5 (0))), (1, .int (x1))] := hl
  change W p l e rm_X5_line _ _ _ _ _ _ _ _ _ _ _ _
  unfold f_X5_line at h
  refine lv_aload_n hC.x hC.b dX5_line_0 rfl (lv_at hl 0 rfl) ?_
  refine lv_iconst (v := (0 : Int32)) hC.x hC.b dX5_line_1 (by decide) ?_
  refine x_puti hC hw (k := 0) (T := TX5) (by decide) (k_E5 _ _ _) in_X5_line_X5 rfl (by decide) lk_X5_line_f46 rfl tyX5 tyX5_ok nmX5 rfl (by decide +kernel) (Nat.le_of_ble_eq_true rfl) (by rw [k_E5]; rfl) dX5_line_2 (fun H locs hw => ?_)
  refine lv_aload_n hC.x hC.b dX5_line_5 rfl (lv_at hl 0 rfl) ?_
  refine lv_iload_n hC.x hC.b dX5_line_6 rfl (lv_at hl 1 rfl) ?_
  obtain ⟨r7, g7, hq, h⟩ := bd2_t h
  refine x_goi hC hw (x_runV hC hw (c_X5_isCord (Γ := Γ) (l := l) hC.2.2.2.2 hq) (cwV 1 hC.t gX5_line_X5_isCord rfl rfl rfl (by decide +kernel) ⟨Nat.le_of_ble_eq_true rfl, Nat.le_of_ble_eq_true rfl⟩) (As := [.int (x1)]) (by decide) (k_E5 _ _ _) rfl rfl rfl hl.1 (Nat.le_of_ble_eq_true rfl) dX5_line_7 ⟨by decide, by decide⟩) (fun H locs hw => ?_)
  refine lv_if_ne (tgt := 19) hC.x hC.b dX5_line_10 (by decide) (fun hc => ?_) (fun hc => ?_)
  · have h := it_f h hc
    obtain ⟨hg0, h⟩ := gd_t h
    obtain ⟨hg1, h⟩ := gd_t h
    obtain ⟨hg2, h⟩ := gd_t h
    obtain ⟨r51, g51, hq, h⟩ := bd2_t h
    obtain ⟨hg3, h⟩ := gd_t h
    obtain ⟨hc1, hx1⟩ := j_ok_t hg0
    obtain ⟨hs, hst⟩ := j_ok_t hg2
    obtain ⟨hu, hr51⟩ := j_ok_t hg3
    generalize hcE : x1.toNatClampNeg = cN at *
    generalize hsE : (g7 31 0 cN).toNatClampNeg = sN at *
    generalize huE : r51.toNatClampNeg = uN at *
    have hd1 := j_dc2 (show cN < 100 by omega)
    have hd2 := j_dc4 sN
    have hd3 := j_dc4 uN
    refine jx_new hC hw hB in_X5_line_J4 lk_X5_line_c.1 lk_X5_line_c.2.1 lk_X5_line_c.2.2.1 (by decide) (by decide) dX5_line_19 dX5_line_22 (fun h H1 hp => va_runI (As := []) hC.1 c_J4_init (cwI 0 hC.t gX5_line_J4_init_da8c8 rfl rfl rfl (hC.t _ lk_X5_line_c.2.2.1) (hC.t _ lk_X5_line_n.2) (hC.t _ lk_X5_line_n.1) rfl (by decide +kernel) ⟨Nat.le_of_ble_eq_true rfl, Nat.le_of_ble_eq_true rfl⟩) hp rfl rfl hl.1 rfl (lv_room (Nat.le_of_ble_eq_true rfl)) dX5_line_23 ⟨by decide, by decide⟩) (fun b v H locs hw => ?_)
    have hw : k_St Γ _ s (j_sb b v cB (nI 0) (.int 0) (fun _ => 0)) g7 H locs := hw
    refine lv_iload_n (x := nI cN) hC.x hC.b dX5_line_26 rfl (by rw [← hx1]; exact lv_at hl 1 rfl) ?_
    refine jx_gor (w1 := (j_sb b v cB (nI (0 + j_dc cN)) (.int 0) (j_gc (fun _ => 0) cN (0 + j_dc cN)))) hC hw (va_runV (As := [.int (nI cN)]) hC.1 (c_J4_append_bf812 (k := 0) (u := cN) (by omega) (by omega) _) (cwV 1 hC.t gX5_line_J4_append_bf812 rfl rfl rfl (by decide +kernel) ⟨Nat.le_of_ble_eq_true rfl, Nat.le_of_ble_eq_true rfl⟩) (jx_preV (q0 := 0) hC hw hB rfl) rfl rfl hl.1 rfl (lv_room (Nat.le_of_ble_eq_true rfl)) dX5_line_27 ⟨by decide, by decide⟩) (fun H locs hw => ?_)
    refine lv_bipush (v := nI 58) hC.x hC.b dX5_line_30 (by decide) ?_
    refine jx_gor (w1 := (j_sb b v cB (nI (0 + j_dc cN + 1)) (.int 0) (upd (j_gc (fun _ => 0) cN (0 + j_dc cN)) (0 + j_dc cN) (nI 58)))) hC hw (va_runV (As := [.int (nI 58)]) hC.1 (c_J4_append_cf468 (k := 0 + j_dc cN) (u := 58) (by omega) (by omega) _) (cwV 1 hC.t gX5_line_J4_append_cf468 rfl rfl rfl (by decide +kernel) ⟨Nat.le_of_ble_eq_true rfl, Nat.le_of_ble_eq_true rfl⟩) (jx_preV (q0 := 0) hC hw hB rfl) rfl rfl hl.1 rfl (lv_room (Nat.le_of_ble_eq_true rfl)) dX5_line_32 ⟨by decide, by decide⟩) (fun H locs hw => ?_)
    refine lv_aload_n hC.x hC.b dX5_line_35 rfl (lv_at hl 0 rfl) ?_
    refine x_get hC hw (k := 5) (T := TX5) (by decide) (k_E5 _ _ _) in_X5_line_X5 rfl (by decide) lk_X5_line_f13 rfl rfl dX5_line_36 ?_
    refine lv_iload_n hC.x hC.b dX5_line_39 rfl (lv_at hl 1 rfl) ?_
    refine x_iald hC hw rfl (by decide) hg1 dX5_line_40 ?_
    rw [hcE, hst]
    refine jx_gor (w1 := (j_sb b v cB (nI (0 + j_dc cN + 1 + j_dc sN)) (.int 0) (j_gc (upd (j_gc (fun _ => 0) cN (0 + j_dc cN)) (0 + j_dc cN) (nI 58)) sN (0 + j_dc cN + 1 + j_dc sN)))) hC hw (va_runV (As := [.int (nI sN)]) hC.1 (c_J4_append_bf812 (k := 0 + j_dc cN + 1) (u := sN) (by omega) (by omega) _) (cwV 1 hC.t gX5_line_J4_append_bf812 rfl rfl rfl (by decide +kernel) ⟨Nat.le_of_ble_eq_true rfl, Nat.le_of_ble_eq_true rfl⟩) (jx_preV (q0 := 0) hC hw hB rfl) rfl rfl hl.1 rfl (lv_room (Nat.le_of_ble_eq_true rfl)) dX5_line_41 ⟨by decide, by decide⟩) (fun H locs hw => ?_)
    refine lv_bipush (v := nI 58) hC.x hC.b dX5_line_44 (by decide) ?_
    refine jx_gor (w1 := (j_sb b v cB (nI (0 + j_dc cN + 1 + j_dc sN + 1)) (.int 0) (upd (j_gc (upd (j_gc (fun _ => 0) cN (0 + j_dc cN)) (0 + j_dc cN) (nI 58)) sN (0 + j_dc cN + 1 + j_dc sN)) (0 + j_dc cN + 1 + j_dc sN) (nI 58)))) hC hw (va_runV (As := [.int (nI 58)]) hC.1 (c_J4_append_cf468 (k := 0 + j_dc cN + 1 + j_dc sN) (u := 58) (by omega) (by omega) _) (cwV 1 hC.t gX5_line_J4_append_cf468 rfl rfl rfl (by decide +kernel) ⟨Nat.le_of_ble_eq_true rfl, Nat.le_of_ble_eq_true rfl⟩) (jx_preV (q0 := 0) hC hw hB rfl) rfl rfl hl.1 rfl (lv_room (Nat.le_of_ble_eq_true rfl)) dX5_line_46 ⟨by decide, by decide⟩) (fun H locs hw => ?_)
    refine lv_aload_n hC.x hC.b dX5_line_49 rfl (lv_at hl 0 rfl) ?_
    refine lv_iload_n hC.x hC.b dX5_line_50 rfl (lv_at hl 1 rfl) ?_
    refine x_goi hC hw (x_runV hC hw (c_X5_digits (Γ := Γ) (l := l) hC.2.2.2.2 hq) (cwV 1 hC.t gX5_line_X5_digits rfl rfl rfl (by decide +kernel) ⟨Nat.le_of_ble_eq_true rfl, Nat.le_of_ble_eq_true rfl⟩) (As := [.int (x1)]) (by decide) (k_E5 _ _ _) rfl rfl rfl hl.1 (Nat.le_of_ble_eq_true rfl) dX5_line_51 ⟨by decide, by decide⟩) (fun H locs hw => ?_)
    rw [hr51]
    refine jx_gor (w1 := (j_sb b v cB (nI (0 + j_dc cN + 1 + j_dc sN + 1 + j_dc uN)) (.int 0) (j_gc (upd (j_gc (upd (j_gc (fun _ => 0) cN (0 + j_dc cN)) (0 + j_dc cN) (nI 58)) sN (0 + j_dc cN + 1 + j_dc sN)) (0 + j_dc cN + 1 + j_dc sN) (nI 58)) uN (0 + j_dc cN + 1 + j_dc sN + 1 + j_dc uN)))) hC hw (va_runV (As := [.int (nI uN)]) hC.1 (c_J4_append_bf812 (k := 0 + j_dc cN + 1 + j_dc sN + 1) (u := uN) (by omega) (by omega) _) (cwV 1 hC.t gX5_line_J4_append_bf812 rfl rfl rfl (by decide +kernel) ⟨Nat.le_of_ble_eq_true rfl, Nat.le_of_ble_eq_true rfl⟩) (jx_preV (q0 := 0) hC hw hB rfl) rfl rfl hl.1 rfl (lv_room (Nat.le_of_ble_eq_true rfl)) dX5_line_54 ⟨by decide, by decide⟩) (fun H locs hw => ?_)
    refine jx_gos hC hw (va_runV (As := []) hC.1 (c_J4_toString (k := j_tk cN sN uN) (f := j_tx cN sN uN) (by unfold j_tk; omega) (j_tx_asc (by omega) hs hu) _) (cwV 0 hC.t gX5_line_J4_toString_0e30d rfl rfl rfl (by decide +kernel) ⟨Nat.le_of_ble_eq_true rfl, Nat.le_of_ble_eq_true rfl⟩) (jx_preV (q0 := 0) hC hw hB rfl) rfl rfl hl.1 rfl (lv_room (Nat.le_of_ble_eq_true rfl)) dX5_line_57 ⟨by decide, by decide⟩) (fun t w H locs hw => ?_)
    refine lv_astore_n (lv' := [(2, .ref t), (0, .ref (k_ad Γ 5 (0))), (1, .int (x1))]) hC.x hC.b dX5_line_60 rfl hl (by decide) rfl (fun ls hl => ?_)
    refine lv_iconst (v := (0 : Int32)) hC.x hC.b dX5_line_61 (by decide) ?_
    refine lv_istore_n (lv' := [(3, .int 0), (2, .ref t), (0, .ref (k_ad Γ 5 (0))), (1, .int (x1))]) hC.x hC.b dX5_line_62 rfl hl (by decide) rfl (fun ls hl => ?_)
    refine lv_iconst (v := (0 : Int32)) hC.x hC.b dX5_line_63 (by decide) ?_
    refine lv_istore (lv' := [(4, .int 0), (3, .int 0), (2, .ref t), (0, .ref (k_ad Γ 5 (0))), (1, .int (x1))]) hC.x hC.b dX5_line_64 hl (by decide) rfl (fun ls hl => ?_)
    refine w_X5_line_66 (K := j_tk cN sN uN) (f := j_tx cN sN uN) hC ⟨by decide, by decide⟩ hB (by unfold j_tk; omega) (j_tx_asc (by omega) hs hu) (j_tk cN sN uN) 0 0 (by omega) _ _ _ hw hl (fun H locs ls hw hl => ?_)
    refine lv_iload_n hC.x hC.b dX5_line_93 rfl (lv_at hl 0 rfl) ?_
    obtain ⟨rfl, rfl⟩ := sm2 h
    exact x_iret hC hw hr hlocks (by decide) (by decide) dX5_line_94
  · have h := it_t h hc
    refine lv_aload_n hC.x hC.b dX5_line_13 rfl (lv_at hl 0 rfl) ?_
    refine lv_iconst (v := (1 : Int32)) hC.x hC.b dX5_line_14 (by decide) ?_
    obtain ⟨r15, g15, hq, h⟩ := bd2_t h
    refine x_goi hC hw (x_runV hC hw (c_X5_fail (Γ := Γ) (l := l) hC.2.2.2.2 hq) (cwV 1 hC.t gX5_line_X5_fail rfl rfl rfl (by decide +kernel) ⟨Nat.le_of_ble_eq_true rfl, Nat.le_of_ble_eq_true rfl⟩) (As := [.int ((1 : Int32))]) (by decide) (k_E5 _ _ _) rfl rfl rfl hl.1 (Nat.le_of_ble_eq_true rfl) dX5_line_15 ⟨by decide, by decide⟩) (fun H locs hw => ?_)
    obtain ⟨rfl, rfl⟩ := sm2 h
    exact x_iret hC hw hr hlocks (by decide) (by decide) dX5_line_18
