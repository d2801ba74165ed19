/-! The law's loop, over any relation of the world that both archives keep: rows. -/
def Sim (Rel : Nat → Gt → Prop) (Y : Nat) (ok : Nat → Int32 → Prop) (fx : Option (Nat × Int32 × Gt)) (fm : Gt → Option (Int32 × Gt)) : Prop :=
  ∃ (k : Nat) (r : Int32) (g1 : Gt) (b : Int32) (g2 : Gt) (kw : Int32), fx = some (k, r, g1) ∧ fm g1 = some (b, g2) ∧ ok k kw ∧ g2 5 0 0 = kw ∧ (k = 0 → r = b) ∧ Rel (Y + 50) g2
def Sim2 {α : Type} (Rel : Nat → Gt → Prop) (Y : Nat) (fx : Option (α × Gt)) (fm : Gt → Option (α × Gt)) : Prop :=
  ∃ (r : α) (g1 : Gt) (g2 : Gt), fx = some (r, g1) ∧ fm g1 = some (r, g2) ∧ Rel (Y + 50) g2
theorem k_vi {i j L : Nat} (h : i + j < L) (hL : L < 2 ^ 31) : vp_in (nI i + nI j) L := by
  rw [nI_add]
  exact vp_in_nI h hL
theorem k_cmp0 {x y : Int64} (h : x = y) : lg_cmp x y = 0 := by
  subst h
  unfold lg_cmp
  rw [if_neg (by rw [gt_iff_lt, Int64.lt_iff_toInt_lt]; omega), if_pos rfl]
section
variable {Γ : k_Pm} {A0 : Nat → Prop} {p : Program} {l : Launch} {e : Env} {R : Room} {s : State} {m : MethodId} {args : Array Value} {below : List Frame} {meth : Method} {c : Code} {H : Heap} {locs : List Loc} {cells slots : Nat} {Q : State → Prop}
variable {cc : ByteArray} {nL : Nat} {Ts : List Cond} {own : String} {g : Gt} {pc : Nat} {ls : Array Slot} {rest : List Value} {o : Nat} {cJ : ClassId} {lo : Nat → Int64}
theorem k_hAL (hC : k_C Γ A0 p l s m args c cc nL Ts own) (hw : k_St Γ A0 s (k_Lo o cJ lo) g H locs) : ∀ q, k_AL Γ o H.size q → A0 q := fun q h => h.elim (k_hA hC hw q) (fun e => by rw [e]; exact hw.2.1.2 _ _ (k_o_get g lo))
theorem k_preL (hC : k_C Γ A0 p l s m args c cc nL Ts own) (hw : k_St Γ A0 s (k_Lo o cJ lo) g H locs) (hJ : ArrOfT s cJ .long ∧ va_RA s cJ .long) {As : List Value} : PreS s H (k_PreL Γ As g o cJ lo H.size) As :=
  ⟨k_PreL_blind, fun U hU hW => ⟨rfl, by rw [hU], by rw [hU]; exact hw.1, hw.2.1.weaken (fun k q _ h => hC.2.2.1 _ h), ⟨arrOfT_moved hW.alike hJ.1, hJ.2.moved hW.alike⟩, hC.2.1.to hW (hC.SB hw) hU⟩⟩
theorem x_runL (hC : k_C Γ A0 p l s m args c cc nL Ts own) (hw : k_St Γ A0 s (k_Lo o cJ lo) g H locs) (hJ : ArrOfT s cJ .long ∧ va_RA s cJ .long) {y : MethodName} {bytes : ByteArray} {maxL n index : Nat} {ret : Option FieldType} {hh : List (Nat × Nat × Nat × Nat)} {ws : List Cond} {rm : Room} {kw : Int32} {lo' : Nat → Int64} {g' : Gt} {As : List Value}
    (hM : k_CW Γ l y ws rm As g o cJ lo kw lo' g') (cw : vx_CSW R s args own index y bytes maxL ret hh ws rm rm.cells rm.slots n) (hn : As.length = n) (hsize : ls.size = nL) (hrest : (rest.map fun v => v.category).sum ≤ 8) (hdg : decode cc pc = .ok (.invokestatic index, 3)) (hf : cells + rm.cells ≤ R.cells ∧ slots + rm.slots ≤ R.slots) :
    va_Run p l e R s m args below meth c H locs cells slots rm.cells rm.slots (F0 m pc ls (As.reverse ++ rest)) rest (k_QL Γ kw g' o cJ lo' H.size As.toArray) (k_AL Γ o H.size) :=
  vx_runSW hC.1 (hM H.size) cw (k_preL hC hw hJ) rfl hn hsize rfl (lv_room hrest) hdg hf
theorem k_DLo {lo' : Nat → Int64} {g' : Gt} (h : va_D A0 (k_W Γ g ++ k_Lo o cJ lo)) : va_D A0 (k_W Γ g' ++ k_Lo o cJ lo') := by
  have h1 := va_D.set h (k_o_get (Γ := Γ) (o := o) (cJ := cJ) g lo) (e := .inl (cJ, 1, .inr (.inl lo')))
  rw [k_tset] at h1
  exact k_D h1
theorem x_goL (hC : k_C Γ A0 p l s m args c cc nL Ts own) (hw : k_St Γ A0 s (k_Lo o cJ lo) g H locs) {g' : Gt} {lo' : Nat → Int64} {kw : Int32} {a : Array Value} {mc ms : Nat} {st0 : List Value} (hr : va_Run p l e R s m args below meth c H locs cells slots mc ms (F0 m pc ls st0) rest (k_QL Γ kw g' o cJ lo' H.size a) (k_AL Γ o H.size))
    (kk : ∀ (H1 : Heap) (locs1 : List Loc), k_St Γ A0 s (k_Lo o cJ lo') g' H1 locs1 → W p l e R s m args below meth c H1 locs1 (cells + mc) (slots + ms) Q (F0 m (pc + 3) ls (.int kw :: rest))) : W p l e R s m args below meth c H locs cells slots Q (F0 m pc ls st0) :=
  va_calli hr hw.2.2 (fun q _ h => k_hAL hC hw q h) (k_hAL hC hw) fun r1 u t H1 locs1 ht hvm hp hB hz hk hS => by
    obtain ⟨rfl, rfl⟩ := hp
    exact kk H1 locs1 ⟨ht ▸ hB, k_DLo hw.2.1, hS⟩
theorem x_dcmp (hC : k_C Γ A0 p l s m args c cc nL Ts own) {x y : UInt64} (hdg : decode cc pc = .ok (.dcmp .l, 1))
    (k : W p l e R s m args below meth c H locs cells slots Q (F0 m (pc + 1) ls (.int (Op.cmpValue (FP.dcmp x y) CmpOp.l) :: rest))) : W p l e R s m args below meth c H locs cells slots Q (F0 m pc ls (.double y :: .double x :: rest)) := lv_dcmp hC.x hC.b hdg k
end
