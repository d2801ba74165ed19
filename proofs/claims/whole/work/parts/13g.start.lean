set_option maxRecDepth 20000 in
theorem whole_start {p : Program} {e : Env} {s : State} {m : MethodId} {below : List Frame} {meth : Method} {c : Code} (l : Launch) (hflags : l.flags = flags0) {b L : Nat} {xs : Nat → Int32} (hL : L ≤ 2560) (C0 : lw_At p s m meth c b L xs) : W p l e room_1 s m #[Value.ref b] below meth c s.heap [] 0 0 (lw_Z below #[Value.ref b] s) (entryFrame m ([Value.ref b] : List Value).toArray 9) := by
  obtain ⟨hx, hcode, hret, hml, hown, hts, hX, hbl, hlocks, hgv⟩ := C0
  have htB := lw_htsB hts
  have htl : ∀ w ∈ wsL_law, w.before #[Value.ref b] s = true := fun w h => htB w (wsL_law_in w h)
  have hl0 : l.stackTraces = false := by
    unfold Launch.stackTraces
    rw [hflags]
    decide +kernel
  -- the classes
  obtain ⟨k0, i0, hk0⟩ := u_known htB inJ0 (hts (.instantiable RJ0 4) (by decide +kernel))
  obtain ⟨k1, i1, hk1⟩ := u_known htB inJ4 (hts (.instantiable RJ4 4) (by decide +kernel))
  obtain ⟨k2, i2, hk2⟩ := u_known htB inX0 (hts (.instantiable RX0 5) (by decide +kernel))
  obtain ⟨k3, i3, hk3⟩ := u_known htB inX1 (hts (.instantiable RX1 2) (by decide +kernel))
  obtain ⟨k4, i4, hk4⟩ := u_known htB inX2 (hts (.instantiable RX2 2) (by decide +kernel))
  obtain ⟨k5, i5, hk5⟩ := u_known htB inX3 (hts (.instantiable RX3 4) (by decide +kernel))
  obtain ⟨k6, i6, hk6⟩ := u_known htB inX4 (hts (.instantiable RX4 7) (by decide +kernel))
  obtain ⟨k7, i7, hk7⟩ := u_known htB inX5 (hts (.instantiable RX5 16) (by decide +kernel))
  obtain ⟨cI, kI, compI, hI1, hI2, hI3⟩ := Cond.arrayClass_spec (args := #[Value.ref b]) (first := s) (o := none) (s := s) (idx := []) (hts (.arrayClass .int) (by decide +kernel))
  have hov : (Cond.arrayOver (.array .int)).before #[Value.ref b] s = true := hts _ (by decide +kernel)
  obtain ⟨compA, cA, kA, hA1, hA2, hA3, hA4⟩ := km_over hov
  have hAI : ArrOfT s cI .int := fun n z => ⟨fun k h => (by cases h), kI, hI2, compI, hI3⟩
  have hAA : ArrOfT s cA (.array .int) := fun n z => ⟨fun k h => (by cases h), kA, hA2, compA, hA3⟩
  have hK : va_K (fun q => [k0, k1, k2, k3, k4, k5, k6, k7].getD q k0, fun q => [i0, i1, i2, i3, i4, i5, i6, i7].getD q i0) vwCl [(cI, .int), (cA, .array .int)] s := ⟨fun q r hq => by
    match q, hq with
    | 0, hq => cases hq; exact hk0
    | 1, hq => cases hq; exact hk1
    | 2, hq => cases hq; exact hk2
    | 3, hq => cases hq; exact hk3
    | 4, hq => cases hq; exact hk4
    | 5, hq => cases hq; exact hk5
    | 6, hq => cases hq; exact hk6
    | 7, hq => cases hq; exact hk7
    | q + 8, hq => simp at hq, fun k q hk => by
    match k, hk with
    | 0, hk => cases hk; exact ⟨hAI, hI1⟩
    | 1, hk => cases hk; exact ⟨hAA, hA4⟩
    | k + 2, hk => simp at hk⟩
  generalize hDD : (fun q => [k0, k1, k2, k3, k4, k5, k6, k7].getD q k0, fun q => [i0, i1, i2, i3, i4, i5, i6, i7].getD q i0) = D at hK
  have hKK : kz_K D cI cA s := ⟨hK, hov, kz_word hts⟩
  have hCF : CallFix p m c cL_law 9 s #[Value.ref b] wsL_law RL := ⟨hx, hcode, hml, hown, htl⟩
  have hC : kz_C D cI cA (fun q => s.heap.size ≤ q) p s m #[Value.ref b] c cL_law 9 wsL_law RL := ⟨hCF, hKK, fun q h => h⟩
  have hS : kz_St D (fun q => s.heap.size ≤ q) s [] s.heap [] := ⟨fun k q hk => by simp at hk, ⟨fun i j x y hx => by simp at hx, fun k q hk => by simp at hk⟩, va_S.rf⟩
  have hl := lv_entry ([.ref b] : List Value) (n := 9) (Nat.le_of_ble_eq_true rfl)
  rw [lg_entry_eq]
  generalize (lg_sl ([.ref b] : List Value) ++ List.replicate (9 - (lg_sl ([.ref b] : List Value)).length) Slot.unset).toArray = ls at hl ⊢
  have hl : lv_has ls 9 [(0, .ref b)] := hl
  refine kz_mk (C := RX4) (T := TX4) (N := 7) (ci := 6) (fs := [.null, .null, .null, .null, .null, .int 0, .int 0]) (mc := 123) (ms := 789) (wr := kz_X4 cI cA) hC hS inlX4 tyX4 tyX4_ok (by decide +kernel) (by decide +kernel) (by decide +kernel) rfl (by decide) (by decide) (by decide) dL_law_0 dL_law_3 (fun q H1 hp => va_runI (As := []) hC.1 c_X4_init (cwI 0 hC.t gL_law_X4_init rfl rfl rfl (hC.t _ (by decide +kernel)) (hC.t _ (by decide +kernel)) (hC.t _ (by decide +kernel)) rfl (by decide +kernel) ⟨Nat.le_of_ble_eq_true rfl, Nat.le_of_ble_eq_true rfl⟩) hp rfl rfl hl.1 rfl (lv_room (Nat.le_of_ble_eq_true rfl)) dL_law_4 ⟨by decide, by decide⟩) (fun a4 u4 H locs hS => ?_)
  refine lv_astore_n (lv' := [(1, .ref a4), (0, .ref b)]) hC.x hC.b dL_law_7 rfl hl (by decide) rfl (fun ls hl => ?_)
  refine kz_mk (C := RX5) (T := TX5) (N := 16) (ci := 7) (fs := [.int 0, .int 0, .int 0, .int 0, .null, .null, .null, .null, .null, .null, .null, .null, .null, .null, .null, .null]) (mc := 12) (ms := 558) (wr := fun h0 => kz_X5 cI h0 (fun j => if j < 96 then -1 else 0)) hC hS inlX5 tyX5 tyX5_ok (by decide +kernel) (by decide +kernel) (by decide +kernel) rfl (by decide) (by decide) (by decide) dL_law_8 dL_law_11 (fun q H1 hp => va_runI (As := []) hC.1 c_X5_init (cwI 0 hC.t gL_law_X5_init rfl rfl rfl (hC.t _ (by decide +kernel)) (hC.t _ (by decide +kernel)) (hC.t _ (by decide +kernel)) rfl (by decide +kernel) ⟨Nat.le_of_ble_eq_true rfl, Nat.le_of_ble_eq_true rfl⟩) hp rfl rfl hl.1 rfl (lv_room (Nat.le_of_ble_eq_true rfl)) dL_law_12 ⟨by decide, by decide⟩) (fun a5 u5 H locs hS => ?_)
  refine lv_astore_n (lv' := [(2, .ref a5), (1, .ref a4), (0, .ref b)]) hC.x hC.b dL_law_15 rfl hl (by decide) rfl (fun ls hl => ?_)
  refine lv_iconst (v := (1 : Int32)) hC.x hC.b dL_law_16 (by decide) ?_
  refine va_newa (atype := .long) (ty := .long) (a0 := (1, .inr (.inl fun _ => 0))) hC.x hC.b (hts (.arrayClass .long) (by decide +kernel)) rfl hC.2.1.1 hS.1 hS.2.1 hS.2.2 hC.2.2 (fun cA => rfl) (by decide) (by decide) (by decide) (by decide) (by decide) dL_law_17 (fun o cJ H1 hJ0 hP hD hS1 => ?_)
  have hJ : ArrOfT s cJ .long ∧ va_RA s cJ .long := hJ0.2 2 _ rfl
  refine lv_astore_n (lv' := [(3, .ref o), (2, .ref a5), (1, .ref a4), (0, .ref b)]) hC.x hC.b dL_law_19 rfl hl (by decide) rfl (fun ls hl => ?_)
  refine lv_iconst (v := nI 0) hC.x hC.b dL_law_20 (by decide) ?_
  refine lv_istore (lv' := [(4, .int (nI 0)), (3, .ref o), (2, .ref a5), (1, .ref a4), (0, .ref b)]) hC.x hC.b dL_law_21 hl (by decide) rfl (fun ls hl => ?_)
  have hfun : (fun j => if j < 96 then (-1 : Int32) else 0) = fun j => kz_g0 36 0 j := by
    funext j
    unfold kz_g0
    by_cases hj : j < 96
    · rw [if_pos hj, if_pos ⟨rfl, hj⟩]
    · rw [if_neg hj, if_neg (fun q => hj q.2)]
  rw [hfun] at hP hD
  have hP0 : va_P D vwCl ((kz_X4 cI cA a4 u4 ++ kz_X5 cI a5 (fun j => kz_g0 36 0 j) u5) ++ k_Lo o cJ (fun _ => 0)) H1 := hP
  have hD0 : va_D (fun q => s.heap.size ≤ q) ((kz_X4 cI cA a4 u4 ++ kz_X5 cI a5 (fun j => kz_g0 36 0 j) u5) ++ k_Lo o cJ (fun _ => 0)) := hD
  obtain ⟨hPw, hDw⟩ := kz_world (B0 := s.heap.size) (k_P_left hP0) (k_D_left hD0)
  have hw : k_St (D, cI, cA, kz_ad a4 a5 u4 u5, s.heap.size) (fun q => s.heap.size ≤ q) s (k_Lo o cJ (fun _ => 0)) kz_g0 H1 locs := by
    refine ⟨va_P.app hPw (k_P_right hP0), va_D.app hDw ⟨fun i j x y hx hy _ => ?_, fun k q hk => ?_⟩ (fun i j x y hx hy hxy => ?_), hS1⟩
    · have a1 := (List.getElem?_eq_some_iff.mp hx).1
      have a2 := (List.getElem?_eq_some_iff.mp hy).1
      simp only [k_Lo, List.length_singleton] at a1 a2
      omega
    · refine hD0.2 ((kz_X4 cI cA a4 u4 ++ kz_X5 cI a5 (fun j => kz_g0 36 0 j) u5).length + k) q ?_
      rw [List.getElem?_append_right (by omega), Nat.add_sub_cancel_left]
      exact hk
    · obtain ⟨i2, e2, h2⟩ := kz_from hx
      have h3 : ((kz_X4 cI cA a4 u4 ++ kz_X5 cI a5 (fun j => kz_g0 36 0 j) u5) ++ k_Lo o cJ (fun _ => 0))[i2]? = some (x.1, e2) := by
        rw [List.getElem?_append_left (List.getElem?_eq_some_iff.mp h2).1]
        exact h2
      have h4 : ((kz_X4 cI cA a4 u4 ++ kz_X5 cI a5 (fun j => kz_g0 36 0 j) u5) ++ k_Lo o cJ (fun _ => 0))[(kz_X4 cI cA a4 u4 ++ kz_X5 cI a5 (fun j => kz_g0 36 0 j) u5).length + j]? = some y := by
        rw [List.getElem?_append_right (by omega), Nat.add_sub_cancel_left]
        exact hy
      have h5 := hD0.1 _ _ _ _ h3 h4 hxy
      have h6 := (List.getElem?_eq_some_iff.mp h2).1
      omega
  have hDz : va_D (fun q => s.heap.size ≤ q) (k_W (D, cI, cA, kz_ad a4 a5 u4 u5, s.heap.size) (fun _ _ _ => 0)) := by
    have := k_D (g' := fun _ _ _ => 0) (tmp := []) (show va_D (fun q => s.heap.size ≤ q) (k_W (D, cI, cA, kz_ad a4 a5 u4 u5, s.heap.size) kz_g0 ++ []) by rw [List.append_nil]; exact hDw)
    rw [List.append_nil] at this
    exact this
  have hKS : KS (D, cI, cA, kz_ad a4 a5 u4 u5, s.heap.size) s := ⟨hK, kz_word hts, hDz, Nat.le_refl _, kz_stat hts hgv, kz_str hts hgv, kz_nc hgv⟩
  have hCC : k_C (D, cI, cA, kz_ad a4 a5 u4 u5, s.heap.size) (fun q => s.heap.size ≤ q) p l s m #[Value.ref b] c cL_law 9 wsL_law RL := ⟨hCF, hKS, fun q h => h, fun q h => h.elim (fun ⟨t, i, h1, h2⟩ => by rw [h2]; exact hKS.adr h1) (fun h => h), hl0⟩
  exact law_loop hCC hJ hX hbl hL hret hlocks 512 0 kz_g0 H1 locs _ _ ls (fun _ => 0) 0 (by omega) (by omega) hw hl ⟨by decide, by decide⟩ q_Rel0 (by decide)
