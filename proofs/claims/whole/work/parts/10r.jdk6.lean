/-! Integer.getChars -/
def j_tl (f : Nat → Int32) (w p : Nat) : Nat → Int32 := if w < 10 then upd f (p - 1) (nI (48 + w % 10)) else upd (upd f (p - 1) (nI (48 + w % 10))) (p - 2) (nI (48 + w / 10))
def j_gc (f : Nat → Int32) (v p : Nat) : Nat → Int32 := if v < 100 then j_tl f v p else j_tl (upd (upd f (p - 1) (nI (48 + v % 100 % 10))) (p - 2) (nI (48 + v % 100 / 10))) (v / 100) (p - 2)
theorem j_neg (w : Nat) : -(-nI w) = nI w := by grind
section
variable {D : va_G} {cB : ClassId} {b0 : Nat} {A : Nat → Prop} {p : Program} {l : Launch} {e : Env} {R : Room} {s : State} {m : MethodId} {args : Array Value} {below : List Frame} {meth : Method} {c : Code} {H : Heap} {locs : List Loc} {cells slots : Nat} {Q : State → Prop} {h v : Nat} {n : Int32} {ml : Value}
theorem j_ones (hC : j_C D cB b0 A p s m args c cJ6_getChars_ba4f3 7 wsJ6_getChars_ba4f3 RJ6) {ws : va_W} (hS : j_St D A s ws H locs) {pc : Nat} {ls : Array Slot} {rest : List Value} (hdg : decode cJ6_getChars_ba4f3 pc = .ok (.getstatic 83, 3))
    (kk : ∀ t, va_T .byte t 100 k_do (fun q => b0 ≤ q) s s.heap → W p l e R s m args below meth c H locs cells slots Q (F0 m (pc + 3) ls (.ref t :: rest))) : W p l e R s m args below meth c H locs cells slots Q (F0 m pc ls rest) := by
  obtain ⟨t, h1, h2⟩ := hC.2.1.2.1.2.2.1
  exact va_gets hC.x hC.b h1 (hC.SB hS) hC.o (hC.t (.fieldLink RJ6 83 "java/lang/Integer" "DigitOnes" "[B") (by decide +kernel)) (fun _ h => h) hdg (kk t h2)
theorem j_tens (hC : j_C D cB b0 A p s m args c cJ6_getChars_ba4f3 7 wsJ6_getChars_ba4f3 RJ6) {ws : va_W} (hS : j_St D A s ws H locs) {pc : Nat} {ls : Array Slot} {rest : List Value} (hdg : decode cJ6_getChars_ba4f3 pc = .ok (.getstatic 87, 3))
    (kk : ∀ t, va_T .byte t 100 k_dt (fun q => b0 ≤ q) s s.heap → W p l e R s m args below meth c H locs cells slots Q (F0 m (pc + 3) ls (.ref t :: rest))) : W p l e R s m args below meth c H locs cells slots Q (F0 m pc ls rest) := by
  obtain ⟨t, h1, h2⟩ := hC.2.1.2.1.2.1
  exact va_gets hC.x hC.b h1 (hC.SB hS) hC.o (hC.t (.fieldLink RJ6 87 "java/lang/Integer" "DigitTens" "[B") (by decide +kernel)) (fun _ h => h) hdg (kk t h2)
theorem w_gc_tail (hC : j_C D cB b0 A p s m args c cJ6_getChars_ba4f3 7 wsJ6_getChars_ba4f3 RJ6) {f : Nat → Int32} {w q : Nat} {ls : Array Slot} (hw : w < 100) (hq : q ≤ 16) (hq1 : (if w < 10 then 1 else 2) ≤ q) (hS : j_St D A s (j_sb h v cB n ml f) H locs) (hl : lv_has ls 7 [(5, .int (nI q)), (2, .ref v), (0, .int (-nI w)), (6, .int 0)])
    (kk : ∀ (H1 : Heap) (locs1 : List Loc) (ls1 : Array Slot), j_St D A s (j_sb h v cB n ml (j_tl f w q)) H1 locs1 → W p l e R s m args below meth c H1 locs1 cells slots Q (F0 m 120 ls1 [.int (nI (q - if w < 10 then 1 else 2))])) : W p l e R s m args below meth c H locs cells slots Q (F0 m 72 ls []) := by
  have h1 : 1 ≤ q := by
    by_cases hc : w < 10
    · rw [if_pos hc] at hq1; exact hq1
    · rw [if_neg hc] at hq1; omega
  refine lv_aload_n hC.x hC.b dJ6_getChars_ba4f3_72 rfl (lv_at hl 1 rfl) ?_
  refine lv_iinc (k := 0) (v := nI (q - 1)) hC.x hC.b dJ6_getChars_ba4f3_73 hl rfl (by
    obtain ⟨q', rfl⟩ : ∃ q', q = q' + 1 := ⟨q - 1, by omega⟩
    exact pk_m1 q') (by decide) rfl (fun ls hl => ?_)
  refine lv_iload hC.x hC.b dJ6_getChars_ba4f3_76 (lv_at hl 0 rfl) ?_
  refine j_ones hC hS dJ6_getChars_ba4f3_78 fun t1 hT1 => ?_
  refine lv_iload_n hC.x hC.b dJ6_getChars_ba4f3_81 rfl (lv_at hl 2 rfl) ?_
  refine lv_ineg hC.x hC.b dJ6_getChars_ba4f3_82 ?_
  rw [j_neg]
  refine va_tb hC.x hC.b hT1 (hC.SB hS) (vp_in_nI (show w < 100 by omega) (by omega)) (v := .int (nI (48 + w % 10))) (by rw [nI_clamp (by omega)]; rfl) dJ6_getChars_ba4f3_83 ?_
  refine j_bast (q0 := 1) (k := q - 1) hC hS rfl (by omega) (j_b8 (by omega)) dJ6_getChars_ba4f3_84 (fun H locs hS => ?_)
  refine lv_iload_n hC.x hC.b dJ6_getChars_ba4f3_85 rfl (lv_at hl 2 rfl) ?_
  refine lv_bipush (v := -nI 9) hC.x hC.b dJ6_getChars_ba4f3_86 (by decide) ?_
  refine lv_icmp_ge (tgt := 104) hC.x hC.b dJ6_getChars_ba4f3_88 (by decide) (fun hc => ?_) (fun hc => ?_)
  · have hc' : w < 10 := by
      have := (sb_nle (a := 9) (b := w) (by omega) (by omega)).mp hc
      omega
    rw [if_pos hc'] at kk
    refine lv_iload hC.x hC.b dJ6_getChars_ba4f3_104 (lv_at hl 3 rfl) ?_
    refine lv_if_eq (tgt := 118) hC.x hC.b dJ6_getChars_ba4f3_106 (by decide) (fun _ => ?_) (fun h => absurd rfl h)
    refine lv_iload hC.x hC.b dJ6_getChars_ba4f3_118 (lv_at hl 0 rfl) ?_
    refine kk H locs ls ?_
    unfold j_tl
    rw [if_pos hc']
    exact hS
  · have hc' : ¬ w < 10 := fun hlt => hc ((sb_nle (a := 9) (b := w) (by omega) (by omega)).mpr (by omega))
    rw [if_neg hc'] at kk hq1
    refine lv_aload_n hC.x hC.b dJ6_getChars_ba4f3_91 rfl (lv_at hl 1 rfl) ?_
    refine lv_iinc (k := 0) (v := nI (q - 2)) hC.x hC.b dJ6_getChars_ba4f3_92 hl rfl (by
      obtain ⟨q', rfl⟩ : ∃ q', q = q' + 2 := ⟨q - 2, by omega⟩
      exact pk_m1 q') (by decide) rfl (fun ls hl => ?_)
    refine lv_iload hC.x hC.b dJ6_getChars_ba4f3_95 (lv_at hl 0 rfl) ?_
    refine j_tens hC hS dJ6_getChars_ba4f3_97 fun t2 hT2 => ?_
    refine lv_iload_n hC.x hC.b dJ6_getChars_ba4f3_100 rfl (lv_at hl 2 rfl) ?_
    refine lv_ineg hC.x hC.b dJ6_getChars_ba4f3_101 ?_
    rw [j_neg]
    refine va_tb hC.x hC.b hT2 (hC.SB hS) (vp_in_nI (show w < 100 by omega) (by omega)) (v := .int (nI (48 + w / 10))) (by rw [nI_clamp (by omega)]; rfl) dJ6_getChars_ba4f3_102 ?_
    refine j_bast (q0 := 1) (k := q - 2) hC hS rfl (by omega) (j_b8 (by omega)) dJ6_getChars_ba4f3_103 (fun H locs hS => ?_)
    refine lv_iload hC.x hC.b dJ6_getChars_ba4f3_104 (lv_at hl 3 rfl) ?_
    refine lv_if_eq (tgt := 118) hC.x hC.b dJ6_getChars_ba4f3_106 (by decide) (fun _ => ?_) (fun h => absurd rfl h)
    refine lv_iload hC.x hC.b dJ6_getChars_ba4f3_118 (lv_at hl 0 rfl) ?_
    refine kk H locs ls ?_
    unfold j_tl
    rw [if_neg hc']
    exact hS
end
