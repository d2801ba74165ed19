/-! the law's loop -/
section
variable {Γ : k_Pm} {p : Program} {l : Launch} {e : Env} {s : State} {m : MethodId} {below : List Frame} {meth : Method} {c : Code} {b L : Nat} {xs : Nat → Int32} {o : Nat} {cJ : ClassId}
set_option maxRecDepth 20000 in
set_option maxHeartbeats 4000000 in
theorem law_loop (hC : k_C Γ (fun q => s.heap.size ≤ q) p l s m #[.ref b] c cL_law 9 wsL_law RL) (hJ : ArrOfT s cJ .long ∧ va_RA s cJ .long) (hX : va_X b L xs s s.heap) (hbl : b < s.heap.size) (hL : L ≤ 2560) (hr : meth.sig.returnType = ret) (hlocks : meth.locks = false) : ∀ (nn i : Nat) (g : Gt) (H : Heap) (locs : List Loc) (cells slots : Nat) (ls : Array Slot) (lo : Nat → Int64) (Y : Nat), L < i + 5 * nn + 5 → i ≤ L → k_St Γ (fun q => s.heap.size ≤ q) s (k_Lo o cJ lo) g H locs → lv_has ls 9 [(4, .int (nI i)), (3, .ref o), (2, .ref (k_ad Γ 5 0)), (1, .ref (k_ad Γ 0 0)), (0, .ref b)] → cells + 1000 * nn ≤ 635908 ∧ slots + 10000 * nn ≤ 7188381 → q_Rel Y g → Y + 50 * nn < 2 ^ 30 →
    W p l e room_1 s m #[.ref b] below meth c H locs cells slots (lw_Z below #[.ref b] s) (F0 m 23 ls []) := by
  intro nn
  induction nn with
  | zero =>
    intro i g H locs cells slots ls lo Y hi hiL hw hl hcs hR hY
    refine lv_iload hC.x hC.b dL_law_23 (lv_at hl 0 rfl) ?_
    refine lv_aload_n hC.x hC.b dL_law_25 rfl (lv_at hl 4 rfl) ?_
    refine va_slen hC.x hC.b hX hbl (Nat.not_le.mpr hbl) hw.2.2 dL_law_26 ?_
    refine lv_iconst (v := (5 : Int32)) hC.x hC.b dL_law_27 (by decide) ?_
    refine lv_isub hC.x hC.b dL_law_28 ?_
    refine lv_icmp_gt (tgt := 1302) hC.x hC.b dL_law_29 (by decide) (fun _ => ?_) (fun hc => ?_)
    · refine lv_iconst (v := (1 : Int32)) hC.x hC.b dL_law_1302 (by decide) ?_
      refine va_forget (fun q hq => hw.2.2.2.2 q hq) ?_
      refine W.widen (k := 635908) (n := 7188381) (by omega) (by omega) ?_
      refine W.base ?_
      exact lw_ret (Drawn.sameBut.refl s.drawn lw_cs) hC.x hC.b hr hlocks dL_law_1303
    · exfalso
      have h1 := pk_sub_toInt (a := L) (b := 5) (by omega) (by omega)
      rw [q_ltl, nI_toInt (n := i) (by omega)] at hc
      have h2 : (Int32.ofNat L - 5).toInt = (L : Int) - 5 := h1
      omega
  | succ nn ih =>
    intro i g H locs cells slots ls lo Y hi hiL hw hl hcs hR hY
    refine lv_iload hC.x hC.b dL_law_23 (lv_at hl 0 rfl) ?_
    refine lv_aload_n hC.x hC.b dL_law_25 rfl (lv_at hl 4 rfl) ?_
    refine va_slen hC.x hC.b hX hbl (Nat.not_le.mpr hbl) hw.2.2 dL_law_26 ?_
    refine lv_iconst (v := (5 : Int32)) hC.x hC.b dL_law_27 (by decide) ?_
    refine lv_isub hC.x hC.b dL_law_28 ?_
    refine lv_icmp_gt (tgt := 1302) hC.x hC.b dL_law_29 (by decide) (fun _ => ?_) (fun hc => ?_)
    · refine lv_iconst (v := (1 : Int32)) hC.x hC.b dL_law_1302 (by decide) ?_
      refine va_forget (fun q hq => hw.2.2.2.2 q hq) ?_
      refine W.widen (k := 635908) (n := 7188381) (by omega) (by omega) ?_
      refine W.base ?_
      exact lw_ret (Drawn.sameBut.refl s.drawn lw_cs) hC.x hC.b hr hlocks dL_law_1303
    · have hi4 : i + 4 < L := by
        have h1 := pk_sub_toInt (a := L) (b := 5) (by omega) (by omega)
        rw [q_ltl, nI_toInt (n := i) (by omega)] at hc
        have h2 : (Int32.ofNat L - 5).toInt = (L : Int) - 5 := h1
        omega
      refine lv_aload_n hC.x hC.b dL_law_32 rfl (lv_at hl 4 rfl) ?_
      refine lv_iload hC.x hC.b dL_law_33 (lv_at hl 0 rfl) ?_
      refine va_sld hC.x hC.b hX hbl (Nat.not_le.mpr hbl) hw.2.2 (vp_in_nI (show i < L by omega) (by omega)) dL_law_35 ?_
      refine lv_bipush (v := (31 : Int32)) hC.x hC.b dL_law_36 (by decide) ?_
      refine lv_iand hC.x hC.b dL_law_38 ?_
      have hkk : ∀ (g2 : Gt) (lo2 : Nat → Int64) (H1 : Heap) (locs1 : List Loc) (ls1 : Array Slot) (c2 s2 : Nat), c2 ≤ cells + 1000 → s2 ≤ slots + 10000 → q_Rel (Y + 50) g2 → k_St Γ (fun q => s.heap.size ≤ q) s (k_Lo o cJ lo2) g2 H1 locs1 → lv_has ls1 9 [(4, .int (nI i)), (3, .ref o), (2, .ref (k_ad Γ 5 0)), (1, .ref (k_ad Γ 0 0)), (0, .ref b)] → W p l e room_1 s m #[.ref b] below meth c H1 locs1 c2 s2 (lw_Z below #[.ref b] s) (F0 m 1296 ls1 []) := fun g2 lo2 H1 locs1 ls1 c2 s2 h1 h2 h3 h4 h5 => by
        refine lv_iinc (k := 0) (v := nI (i + 5)) hC.x hC.b dL_law_1296 h5 rfl (by rw [show Int32.ofInt 5 = nI 5 from rfl, nI_add]) (by decide) rfl fun ls2 hl2 => ?_
        refine lv_goto (tgt := 23) hC.x hC.b dL_law_1299 (by decide) ?_
        exact ih (i + 5) g2 H1 locs1 c2 s2 ls2 lo2 (Y + 50) (by omega) (by omega) h4 hl2 (by omega) h3 (by omega)
      obtain ⟨j, hj, hjx⟩ := pk_andE (xs (nI i).toNatClampNeg) (m := 31) 5 rfl
      rw [hjx]
      have hY30 : Y < 2 ^ 30 := by omega
      have hcs1 : cells + 1000 ≤ 635908 ∧ slots + 10000 ≤ 7188381 := by omega
      rcases Nat.lt_or_ge j 20 with hj20 | hj20
      · rcases (show j = 0 ∨ j = 1 ∨ j = 2 ∨ j = 3 ∨ j = 4 ∨ j = 5 ∨ j = 6 ∨ j = 7 ∨ j = 8 ∨ j = 9 ∨ j = 10 ∨ j = 11 ∨ j = 12 ∨ j = 13 ∨ j = 14 ∨ j = 15 ∨ j = 16 ∨ j = 17 ∨ j = 18 ∨ j = 19 by omega) with rfl | rfl | rfl | rfl | rfl | rfl | rfl | rfl | rfl | rfl | rfl | rfl | rfl | rfl | rfl | rfl | rfl | rfl | rfl | rfl
        · refine lv_tableIn (off := 93) (tgt := 132) hC.x hC.b dL_law_39 (by decide) (by decide) (by decide) (by decide) ?_
          exact lc_hang hC hJ hX hbl hi4 hL hw hl hcs1 (fun x1 x2 => q_s_hang hR x1 x2) hkk
        · refine lv_tableIn (off := 161) (tgt := 200) hC.x hC.b dL_law_39 (by decide) (by decide) (by decide) (by decide) ?_
          exact lc_tie hC hJ hX hbl hi4 hL hw hl hcs1 (fun x1 x2 => q_s_tie hR x1 x2) hkk
        · refine lv_tableIn (off := 229) (tgt := 268) hC.x hC.b dL_law_39 (by decide) (by decide) (by decide) (by decide) ?_
          exact lc_untie hC hJ hX hbl hi4 hL hw hl hcs1 (fun x1 x2 x3 x4 => q_s_untie hR x1 x2 x3 x4) hkk
        · refine lv_tableIn (off := 321) (tgt := 360) hC.x hC.b dL_law_39 (by decide) (by decide) (by decide) (by decide) ?_
          exact lc_mend hC hJ hX hbl hi4 hL hw hl hcs1 (fun x1 => q_s_mend hR x1) hkk
        · refine lv_tableIn (off := 377) (tgt := 416) hC.x hC.b dL_law_39 (by decide) (by decide) (by decide) (by decide) ?_
          exact lc_cord hC hJ hX hbl hi4 hL hw hl hcs1 (fun x1 x2 => q_s_cord hR x1 x2) hkk
        · refine lv_tableIn (off := 445) (tgt := 484) hC.x hC.b dL_law_39 (by decide) (by decide) (by decide) (by decide) ?_
          exact lc_place hC hJ hX hbl hi4 hL hw hl hcs1 (fun x1 x2 x3 => q_s_place hR x1 x2 x3) hkk
        · refine lv_tableIn (off := 525) (tgt := 564) hC.x hC.b dL_law_39 (by decide) (by decide) (by decide) (by decide) ?_
          exact lc_call hC hJ hX hbl hi4 hL hw hl hcs1 (q_s_call hR) hkk
        · refine lv_tableIn (off := 569) (tgt := 608) hC.x hC.b dL_law_39 (by decide) (by decide) (by decide) (by decide) ?_
          exact lc_read hC hJ hX hbl hi4 hL hw hl hcs1 (fun x1 x2 => q_s_read hR x1 x2) hkk
        · refine lv_tableIn (off := 637) (tgt := 676) hC.x hC.b dL_law_39 (by decide) (by decide) (by decide) (by decide) ?_
          exact lc_remembers hC hJ hX hbl hi4 hL hw hl hcs1 (fun x1 x2 x3 => q_s_remembers hR (by omega) x1 x2 x3) hkk
        · refine lv_tableIn (off := 717) (tgt := 756) hC.x hC.b dL_law_39 (by decide) (by decide) (by decide) (by decide) ?_
          exact lc_trust hC hJ hX hbl hi4 hL hw hl hcs1 (fun x1 => q_s_trust hR x1) hkk
        · refine lv_tableIn (off := 773) (tgt := 812) hC.x hC.b dL_law_39 (by decide) (by decide) (by decide) (by decide) ?_
          exact lc_dispute hC hJ hX hbl hi4 hL hw hl hcs1 (fun x1 => q_s_dispute hR hY30 x1) hkk
        · refine lv_tableIn (off := 829) (tgt := 868) hC.x hC.b dL_law_39 (by decide) (by decide) (by decide) (by decide) ?_
          exact lc_untying hC hJ hX hbl hi4 hL hw hl hcs1 (fun x1 x2 => q_s_untying hR x1 x2) hkk
        · refine lv_tableIn (off := 897) (tgt := 936) hC.x hC.b dL_law_39 (by decide) (by decide) (by decide) (by decide) ?_
          exact lc_pass hC hJ hX hbl hi4 hL hw hl hcs1 (fun x1 => q_s_pass hR x1) hkk
        · refine lv_tableIn (off := 953) (tgt := 992) hC.x hC.b dL_law_39 (by decide) (by decide) (by decide) (by decide) ?_
          exact lc_count hC hJ hX hbl hi4 hL hw hl hcs1 (fun x1 => q_s_count hR x1) hkk
        · refine lv_tableIn (off := 1009) (tgt := 1048) hC.x hC.b dL_law_39 (by decide) (by decide) (by decide) (by decide) ?_
          exact lc_fades hC hJ hX hbl hi4 hL hw hl hcs1 (fun x1 x2 => q_s_fades hR x1 x2) hkk
        · refine lv_tableIn (off := 1077) (tgt := 1116) hC.x hC.b dL_law_39 (by decide) (by decide) (by decide) (by decide) ?_
          exact lc_amends hC hJ hX hbl hi4 hL hw hl hcs1 (fun x1 => q_s_amends hR x1) hkk
        · refine lv_tableIn (off := 1133) (tgt := 1172) hC.x hC.b dL_law_39 (by decide) (by decide) (by decide) (by decide) ?_
          exact lc_weighs hC hJ hX hbl hi4 hL hw hl hcs1 (q_s_weighs hR) hkk
        · refine lv_tableIn (off := 1146) (tgt := 1185) hC.x hC.b dL_law_39 (by decide) (by decide) (by decide) (by decide) ?_
          exact lc_line hC hJ hX hbl hi4 hL hw hl hcs1 (fun x1 => q_s_line hR x1) hkk
        · refine lv_tableIn (off := 1202) (tgt := 1241) hC.x hC.b dL_law_39 (by decide) (by decide) (by decide) (by decide) ?_
          exact lc_mean hC hJ hX hbl hi4 hL hw hl hcs1 (q_s_mean hR) hkk
        · refine lv_tableIn (off := 1243) (tgt := 1282) hC.x hC.b dL_law_39 (by decide) (by decide) (by decide) (by decide) ?_
          exact lc_digest hC hJ hX hbl hi4 hL hw hl hcs1 (q_s_digest hR (by omega)) hkk
      · refine lv_tableOut (tgt := 1296) hC.x hC.b dL_law_39 (by rw [nI_toInt (by omega)]; omega) (by decide) ?_
        exact hkk g lo H locs ls cells slots (by omega) (by omega) (hR.up (by omega)) hw hl
end
