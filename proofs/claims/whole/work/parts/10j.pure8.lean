/-! dispute -/
def q_sp (g : Gt) (c : Nat) (x : Int32) : Nat → Nat → List Nat
  | 0, _ => []
  | m + 1, k => if ¬ g 23 k c = -1 ∧ g 22 k c = x then k :: q_sp g c x m (k + 1) else q_sp g c x m (k + 1)
theorem q_sp_in {g : Gt} {c w : Nat} {x : Int32} : ∀ (m k : Nat), k ≤ w → w < k + m → ¬ g 23 w c = -1 → g 22 w c = x → w ∈ q_sp g c x m k
  | 0, k, h1, h2, h3, h4 => by omega
  | m + 1, k, h1, h2, h3, h4 => by
    rw [q_sp]
    by_cases hk : w = k
    · subst hk
      rw [if_pos ⟨h3, h4⟩]
      exact List.mem_cons_self
    · have := q_sp_in (g := g) (c := c) (x := x) m (k + 1) (by omega) (by omega) h3 h4
      by_cases h : ¬ g 23 k c = -1 ∧ g 22 k c = x
      · rw [if_pos h]; exact List.mem_cons_of_mem _ this
      · rw [if_neg h]; exact this
theorem q_sp_mem {g : Gt} {c w : Nat} {x : Int32} : ∀ (m k : Nat), w ∈ q_sp g c x m k → k ≤ w ∧ w < k + m ∧ ¬ g 23 w c = -1
  | 0, k, h => by cases h
  | m + 1, k, h => by
    rw [q_sp] at h
    by_cases hk : ¬ g 23 k c = -1 ∧ g 22 k c = x
    · rw [if_pos hk] at h
      rcases List.mem_cons.mp h with rfl | h
      · exact ⟨Nat.le_refl _, by omega, hk.1⟩
      · have := q_sp_mem m (k + 1) h
        exact ⟨by omega, by omega, this.2.2⟩
    · rw [if_neg hk] at h
      have := q_sp_mem m (k + 1) h
      exact ⟨by omega, by omega, this.2.2⟩
theorem q_sp_len {g : Gt} {c : Nat} {x : Int32} : ∀ (m k : Nat), (q_sp g c x m k).length ≤ m
  | 0, k => Nat.le_refl _
  | m + 1, k => by
    have := q_sp_len (g := g) (c := c) (x := x) m (k + 1)
    rw [q_sp]
    split
    · rw [List.length_cons]; omega
    · omega
theorem q_kn {w c : Nat} {g : Gt} (hw : w < 6) (hc : c < 16) : f_X3_knows (nI w) (nI c) g = some (if g 23 w c = -1 then 0 else 1, g) := by
  rw [f_X3_knows, q_ib hw (by omega), q_ib hc (by omega), q_gt, q_gt, q_c31 hw (by omega), q_c31 hc (by omega)]
  split <;> rfl
theorem q_ka {w c : Nat} {x : Int32} {g : Gt} (hw : w < 6) (hc : c < 16) : f_X3_knowsAs (nI w) (nI c) x g = some (if ¬ g 23 w c = -1 ∧ g 22 w c = x then 1 else 0, g) := by
  rw [f_X3_knowsAs, q_kn hw hc, q_bd2, q_ib hw (by omega), q_ib hc (by omega), q_gt, q_gt, q_c31 hw (by omega), q_c31 hc (by omega)]
  by_cases h : g 23 w c = -1
  · rw [if_pos h, if_pos rfl, if_neg (fun q => q.1 h)]
  · rw [if_neg h, if_neg (by decide)]
    by_cases h2 : g 22 w c = x
    · rw [if_pos h2, if_pos ⟨h, h2⟩]
    · rw [if_neg h2, if_neg (fun q => h2 q.2)]
theorem q_jt5 {c nw : Nat} {x : Int32} {g : Gt} (hn : g 3 0 3 = nI nw) (h6 : nw ≤ 6) (hc : c < 16) : ∀ (m k N : Nat) (v : Int32), k + m = nw → m < N → f_X3_jointTrust_5 (nI c) x N v (nI k) g = some ((q_sp g c x m k).foldl (fun a w => a + g 16 0 w) v, nI nw, g)
  | 0, k, N + 1, v, hk, hN => by
    rw [f_X3_jointTrust_5, hn, if_pos ((nI_leI (by omega) (by omega)).mpr (by omega)), show k = nw from by omega, q_sp]
    rfl
  | m + 1, k, N + 1, v, hk, hN => by
    rw [f_X3_jointTrust_5, hn, if_neg (by rw [nI_leI (by omega) (by omega)]; omega), q_ka (by omega) hc, q_bd2, q_ib (show k < 6 by omega) (by omega), q_gt, q_c31 (show k < 6 by omega) (by omega), nI_1, q_jt5 hn h6 hc m (k + 1) N _ (by omega) (by omega), q_jt5 hn h6 hc m (k + 1) N _ (by omega) (by omega), q_sp]
    by_cases h : ¬ g 23 k c = -1 ∧ g 22 k c = x
    · rw [if_pos h, if_pos h, if_neg (by decide), List.foldl_cons]
    · rw [if_neg h, if_neg h, if_pos rfl]
theorem q_ly5 {c nw : Nat} {x : Int32} {g : Gt} (hn : g 3 0 3 = nI nw) (h6 : nw ≤ 6) (hc : c < 16) : ∀ (m k N : Nat) (v : Int32), k + m = nw → m < N → f_X3_latestYear_5 (nI c) x N v (nI k) g = some ((q_sp g c x m k).foldl (fun a w => k_max a (g 23 w c)) v, nI nw, g)
  | 0, k, N + 1, v, hk, hN => by
    rw [f_X3_latestYear_5, hn, if_pos ((nI_leI (by omega) (by omega)).mpr (by omega)), show k = nw from by omega, q_sp]
    rfl
  | m + 1, k, N + 1, v, hk, hN => by
    rw [f_X3_latestYear_5, hn, if_neg (by rw [nI_leI (by omega) (by omega)]; omega), q_ka (by omega) hc, q_bd2, q_ib (show k < 6 by omega) (by omega), q_gt, q_ib hc (by omega), q_gt, q_c31 (show k < 6 by omega) (by omega), q_c31 hc (by omega), nI_1, q_ly5 hn h6 hc m (k + 1) N _ (by omega) (by omega), q_ly5 hn h6 hc m (k + 1) N _ (by omega) (by omega), q_sp]
    by_cases h : ¬ g 23 k c = -1 ∧ g 22 k c = x
    · rw [if_pos h, if_pos h, if_neg (by decide), List.foldl_cons]
    · rw [if_neg h, if_neg h, if_pos rfl]
/-- the reference's tables of witnesses hold what the class's hold in g -/
def q_W5 (nw y : Nat) (g g2 : Gt) : Prop := g2 5 0 2 = nI nw ∧ (∀ w, w < nw → g2 34 0 w = g 16 0 w) ∧ (∀ w c, w < nw → c < 16 → g2 36 0 (16 * w + c) = g 23 w c ∧ ((g 23 w c = -1 ∧ g 22 w c = -1) ∨ (∃ y', y' ≤ y ∧ g 23 w c = nI y') ∧ g2 35 0 (16 * w + c) = g 22 w c))
theorem q_W5.kn {nw y w c : Nat} {g g2 : Gt} (h : q_W5 nw y g g2) (h6 : nw ≤ 6) (hw : w < nw) (hc : c < 16) : f_X5_knows (nI w) (nI c) g2 = some (if g 23 w c = -1 then 0 else 1, g2) := by
  rw [f_X5_knows, q_m16, q_i16 (by omega) hc, q_gt, q_c16 (by omega) hc, (h.2.2 w c hw hc).1]
  split <;> rfl
theorem q_W5.rd {nw y w c : Nat} {g g2 : Gt} (h : q_W5 nw y g g2) (hw : w < nw) (hc : c < 16) (hk : ¬ g 23 w c = -1) : g2 35 0 (16 * w + c) = g 22 w c ∧ ∃ y', y' ≤ y ∧ g 23 w c = nI y' := by
  rcases (h.2.2 w c hw hc).2 with h1 | h1
  · exact absurd h1.1 hk
  · exact ⟨h1.2, h1.1⟩
theorem q_bh1 {c nw y : Nat} {x : Int32} {g g2 : Gt} (hW : q_W5 nw y g g2) (h6 : nw ≤ 6) (hc : c < 16) : ∀ (m k N : Nat) (v : Int32), k + m = nw → m < N → f_X5_behind_6 (nI c) x 1 N v (nI k) g2 = some ((q_sp g c x m k).foldl (fun a w => a + g 16 0 w) v, nI nw, g2)
  | 0, k, N + 1, v, hk, hN => by
    rw [f_X5_behind_6, hW.1, if_pos ((nI_leI (by omega) (by omega)).mpr (by omega)), show k = nw from by omega, q_sp]
    rfl
  | m + 1, k, N + 1, v, hk, hN => by
    rw [f_X5_behind_6, hW.1, if_neg (by rw [nI_leI (by omega) (by omega)]; omega), hW.kn h6 (by omega) hc, q_bd2, q_m16, q_i16 (by omega) hc, q_gt, q_gt, q_c16 (by omega) hc, q_ib (show k < 6 by omega) (by omega), q_gt, q_c31 (show k < 6 by omega) (by omega), nI_1, if_neg (show ¬ (1 : Int32) = 0 by decide), q_bh1 hW h6 hc m (k + 1) N _ (by omega) (by omega), q_bh1 hW h6 hc m (k + 1) N _ (by omega) (by omega), q_sp, hW.2.1 k (by omega)]
    by_cases h : g 23 k c = -1
    · rw [if_pos h, if_pos rfl, if_neg (fun q => q.1 h)]
    · rw [if_neg h, if_neg (by decide), (hW.rd (by omega) hc h).1]
      by_cases h2 : g 22 k c = x
      · rw [if_pos h2, if_pos ⟨h, h2⟩, List.foldl_cons]
      · rw [if_neg h2, if_neg (fun q => h2 q.2)]
theorem q_bh0 {c nw y : Nat} {x : Int32} {g g2 : Gt} (hW : q_W5 nw y g g2) (h6 : nw ≤ 6) (hc : c < 16) : ∀ (m k N : Nat) (v : Int32), k + m = nw → m < N → f_X5_behind_6 (nI c) x 0 N v (nI k) g2 = some ((q_sp g c x m k).foldl (fun a w => k_max a (g 23 w c)) v, nI nw, g2)
  | 0, k, N + 1, v, hk, hN => by
    rw [f_X5_behind_6, hW.1, if_pos ((nI_leI (by omega) (by omega)).mpr (by omega)), show k = nw from by omega, q_sp]
    rfl
  | m + 1, k, N + 1, v, hk, hN => by
    rw [f_X5_behind_6, hW.1, if_neg (by rw [nI_leI (by omega) (by omega)]; omega), hW.kn h6 (by omega) hc, q_bd2, q_m16, q_i16 (by omega) hc, q_gt, q_gt, q_c16 (by omega) hc, q_ib (show k < 6 by omega) (by omega), q_gt, nI_1, if_pos (show (0 : Int32) = 0 from rfl), (hW.2.2 k c (by omega) hc).1, q_bh0 hW h6 hc m (k + 1) N _ (by omega) (by omega), q_bh0 hW h6 hc m (k + 1) N _ (by omega) (by omega), q_sp]
    by_cases h : g 23 k c = -1
    · rw [if_pos h, if_pos rfl, if_neg (fun q => q.1 h)]
    · rw [if_neg h, if_neg (by decide), (hW.rd (by omega) hc h).1]
      by_cases h2 : g 22 k c = x
      · rw [if_pos h2, if_pos ⟨h, h2⟩, List.foldl_cons]
      · rw [if_neg h2, if_neg (fun q => h2 q.2)]
theorem q_fs {f : Nat → Int32} {T : Nat} : ∀ (L : List Nat) (S : Nat), (∀ w, w ∈ L → ∃ t, t ≤ T ∧ f w = nI t) → ∃ S', S' ≤ S + L.length * T ∧ L.foldl (fun a w => a + f w) (nI S) = nI S'
  | [], S, h => ⟨S, by omega, rfl⟩
  | w :: L, S, h => by
    obtain ⟨t, ht, e⟩ := h w List.mem_cons_self
    obtain ⟨S', h1, h2⟩ := q_fs L (S + t) (fun w hw => h w (List.mem_cons_of_mem _ hw))
    exact ⟨S', by rw [List.length_cons, Nat.succ_mul]; omega, by rw [List.foldl_cons, e, nI_add]; exact h2⟩
theorem q_mx (a b : Nat) (ha : a < 2 ^ 31) (hb : b < 2 ^ 31) : k_max (nI a) (nI b) = nI (max a b) := by
  unfold k_max
  by_cases h : a < b
  · rw [if_pos ((nI_ltI ha hb).mpr h), Nat.max_eq_right (by omega)]
  · rw [if_neg (by rw [nI_ltI ha hb]; exact h), Nat.max_eq_left (by omega)]
theorem q_fm {f : Nat → Int32} {T : Nat} (hT : T < 2 ^ 31) : ∀ (L : List Nat) (S : Nat), S ≤ T → (∀ w, w ∈ L → ∃ t, t ≤ T ∧ f w = nI t) → ∃ S', S' ≤ T ∧ L.foldl (fun a w => k_max a (f w)) (nI S) = nI S'
  | [], S, hS, h => ⟨S, hS, rfl⟩
  | w :: L, S, hS, h => by
    obtain ⟨t, ht, e⟩ := h w List.mem_cons_self
    obtain ⟨S', h1, h2⟩ := q_fm hT L (max S t) (by omega) (fun w hw => h w (List.mem_cons_of_mem _ hw))
    exact ⟨S', h1, by rw [List.foldl_cons, e, q_mx _ _ (by omega) (by omega)]; exact h2⟩
theorem q_fm1 {f : Nat → Int32} {L : List Nat} {T : Nat} (hT : T < 2 ^ 31) (h : ∀ w, w ∈ L → ∃ t, t ≤ T ∧ f w = nI t) (hL : L ≠ []) : L.foldl (fun a w => k_max a (f w)) (-1) = L.foldl (fun a w => k_max a (f w)) 0 := by
  cases L with
  | nil => exact absurd rfl hL
  | cons w L =>
    obtain ⟨t, ht, e⟩ := h w List.mem_cons_self
    have h1 : k_max (-1) (nI t) = nI t := by
      unfold k_max
      rw [if_pos]
      rw [q_ltl, nI_toInt (by omega), show (-1 : Int32).toInt = -1 from by decide]
      omega
    have h2 : k_max 0 (nI t) = nI t := by
      rw [q_0, q_mx _ _ (by omega) (by omega), Nat.max_eq_right (by omega)]
    rw [List.foldl_cons, List.foldl_cons, e, h1, h2]
theorem q_cmp {a b : Nat} {g : Gt} (ha : a < 2 ^ 30) (hb : b < 2 ^ 30) : f_J6_compare_7cf53 (nI a) (nI b) g = some (if a = b then 0 else if b < a then 1 else -1, g) := by
  unfold f_J6_compare_7cf53
  rcases Nat.lt_trichotomy a b with h | h | h
  · rw [if_neg (by rw [nI_leI (by omega) (by omega)]; omega), if_neg (by omega), if_neg (by omega)]
  · subst h
    rw [if_pos ((nI_leI (by omega) (by omega)).mpr (Nat.le_refl _)), if_pos rfl, if_pos rfl]
  · rw [if_pos ((nI_leI (by omega) (by omega)).mpr (by omega)), if_neg (by rw [nI_eq (by omega) (by omega)]; omega), if_neg (by omega), if_pos h]
theorem q_dz {a b : Nat} (ha : a < 2 ^ 30) (hb : b < 2 ^ 30) : ((nI a - nI b = 0) ↔ a = b) ∧ ((0 < nI a - nI b) ↔ b < a) := by
  have h := pk_sub_toInt ha hb
  constructor
  · rw [← Int32.toInt_inj, h, show (0 : Int32).toInt = 0 from by decide]
    omega
  · rw [q_ltl, h, show (0 : Int32).toInt = 0 from by decide]
    omega
theorem q_os {n nw nu y w b c : Nat} {g g2 : Gt} (hR : q_R n nw nu y g) (hy : y < 2 ^ 30) (hW : q_W5 nw y g g2) (hc : c < 16) (hw : w < nw) (hb : b < nw) (kw : ¬ g 23 w c = -1) (kb : ¬ g 23 b c = -1) : ∃ o, f_X3_outspeaks (nI w) (nI b) (nI c) g = some (o, g) ∧ f_X5_isBetter (nI c) (g 22 w c) (g 22 b c) g2 = some (o, g2) := by
  have hN' : k_N = 200 := rfl
  have h6 := hR.1.2.1
  have hn := hR.1.2.2.2.2.1
  have ht : ∀ x, ∃ S, S ≤ 120 ∧ (q_sp g c x nw 0).foldl (fun a w => a + g 16 0 w) 0 = nI S := fun x => by
    obtain ⟨S, h1, h2⟩ := q_fs (f := g 16 0) (T := 20) (q_sp g c x nw 0) 0 (fun w hw => (hR.2.2.2.1 w (by have := q_sp_mem nw 0 hw; omega)).1)
    have := q_sp_len (g := g) (c := c) (x := x) nw 0
    refine ⟨S, ?_, by rw [q_0]; exact h2⟩
    have : (q_sp g c x nw 0).length * 20 ≤ 6 * 20 := Nat.mul_le_mul_right _ (by omega)
    omega
  have hl : ∀ x v, v < nw → ¬ g 23 v c = -1 → g 22 v c = x → ∃ S, S ≤ y ∧ (q_sp g c x nw 0).foldl (fun a w => k_max a (g 23 w c)) 0 = nI S ∧ (q_sp g c x nw 0).foldl (fun a w => k_max a (g 23 w c)) (-1) = nI S := fun x v hv hk hx => by
    have hm : ∀ w, w ∈ q_sp g c x nw 0 → ∃ t, t ≤ y ∧ g 23 w c = nI t := fun w hw => by
      have := q_sp_mem nw 0 hw
      exact (hW.rd (by omega) hc this.2.2).2
    obtain ⟨S, h1, h2⟩ := q_fm (f := fun w => g 23 w c) (T := y) (by omega) (q_sp g c x nw 0) 0 (by omega) hm
    have hne : q_sp g c x nw 0 ≠ [] := fun e => by
      have := q_sp_in (g := g) (c := c) (x := x) nw 0 (Nat.zero_le v) (by omega) hk hx
      rw [e] at this
      cases this
    refine ⟨S, h1, by rw [q_0]; exact h2, ?_⟩
    rw [q_fm1 (f := fun w => g 23 w c) (T := y) (by omega) hm hne, q_0]
    exact h2
  obtain ⟨a1, ha1, e1⟩ := ht (g 22 w c)
  obtain ⟨a2, ha2, e2⟩ := ht (g 22 b c)
  obtain ⟨y1, hy1, l1, l1'⟩ := hl (g 22 w c) w hw kw rfl
  obtain ⟨y2, hy2, l2, l2'⟩ := hl (g 22 b c) b hb kb rfl
  have jt : ∀ x, f_X3_jointTrust (nI c) x g = some ((q_sp g c x nw 0).foldl (fun a w => a + g 16 0 w) 0, g) := fun x => by
    rw [f_X3_jointTrust, q_0, q_jt5 hn h6 hc nw 0 k_N _ (by omega) (by omega), q_bd3]
  have ly : ∀ x, f_X3_latestYear (nI c) x g = some ((q_sp g c x nw 0).foldl (fun a w => k_max a (g 23 w c)) (-1), g) := fun x => by
    rw [f_X3_latestYear, q_0, q_ly5 hn h6 hc nw 0 k_N _ (by omega) (by omega), q_bd3]
  have b1 : ∀ x, f_X5_behind (nI c) x 1 g2 = some ((q_sp g c x nw 0).foldl (fun a w => a + g 16 0 w) 0, g2) := fun x => by
    rw [f_X5_behind, q_0, q_bh1 hW h6 hc nw 0 k_N _ (by omega) (by omega), q_bd3]
  have b0 : ∀ x, f_X5_behind (nI c) x 0 g2 = some ((q_sp g c x nw 0).foldl (fun a w => k_max a (g 23 w c)) 0, g2) := fun x => by
    rw [f_X5_behind, show f_X5_behind_6 (nI c) x 0 k_N 0 0 g2 = _ from q_bh0 hW h6 hc nw 0 k_N 0 (by omega) (by omega), q_bd3]
  have d1 := q_dz (a := a1) (b := a2) (by omega) (by omega)
  have d2 := q_dz (a := y1) (b := y2) (by omega) (by omega)
  rw [f_X3_outspeaks, q_ib (show w < 6 by omega) (by omega), q_ib (show b < 6 by omega) (by omega), q_ib hc (by omega), q_gt, q_gt, q_gt, q_gt, q_c31 (show w < 6 by omega) (by omega), q_c31 (show b < 6 by omega) (by omega), q_c31 hc (by omega), jt, q_bd2, jt, q_bd2, e1, e2, q_cmp (by omega) (by omega), q_bd2, ly, q_bd2, ly, q_bd2, l1', l2', q_cmp (by omega) (by omega), q_bd2,
    f_X5_isBetter, b1, q_bd2, b1, q_bd2, e1, e2, b0, q_bd2, b0, q_bd2, l1, l2]
  simp only [d1.1, d1.2, d2.1, d2.2]
  rcases Nat.lt_trichotomy a1 a2 with h | h | h
  · refine ⟨0, ?_, ?_⟩
    · rw [if_neg (show ¬ a1 = a2 by omega), if_neg (show ¬ a2 < a1 by omega)]
      rfl
    · rw [if_neg (show ¬ a1 = a2 by omega), if_neg (show ¬ a2 < a1 by omega), if_neg (show ¬ a1 = a2 by omega)]
  · rw [if_pos h, if_pos rfl, if_pos h]
    rcases Nat.lt_trichotomy y1 y2 with h' | h' | h'
    · refine ⟨0, ?_, ?_⟩
      · rw [if_neg (show ¬ y1 = y2 by omega), if_neg (show ¬ y2 < y1 by omega)]
        rfl
      · rw [if_neg (show ¬ y2 < y1 by omega), if_neg (show ¬ y1 = y2 by omega)]
    · rw [if_pos h', if_pos rfl, if_neg (show ¬ y2 < y1 by omega), if_pos h']
      by_cases hq : g 22 b c ≤ g 22 w c
      · exact ⟨0, by rw [if_pos hq], by rw [if_pos hq]⟩
      · exact ⟨1, by rw [if_neg hq], by rw [if_neg hq]⟩
    · refine ⟨1, ?_, ?_⟩
      · rw [if_neg (show ¬ y1 = y2 by omega), if_pos h']
        rfl
      · rw [if_pos h']
  · refine ⟨1, ?_, ?_⟩
    · rw [if_neg (show ¬ a1 = a2 by omega), if_pos h]
      rfl
    · rw [if_neg (show ¬ a1 = a2 by omega), if_pos h]
theorem q_nm1' {b : Nat} (h : b < 2 ^ 31) : ¬ nI b = (-1 : Int32) := q_nm1 h
theorem q_mt {n nw nu y c : Nat} {g g2 : Gt} (hR : q_R n nw nu y g) (hy : y < 2 ^ 30) (hW : q_W5 nw y g g2) (hc : c < 16) : ∀ (m k N N' : Nat) (v : Int32), k + m = nw → m < N → m < N' → (v = -1 ∨ ∃ b, b < nw ∧ ¬ g 23 b c = -1 ∧ v = nI b) →
    ∃ r w w', f_X3_mostTrusted_4 (nI c) N v (nI k) g = some (r, w, g) ∧ f_X5_dispute_23 (nI c) N' v (nI k) g2 = some (r, w', g2) ∧ (r = -1 ∨ ∃ b, b < nw ∧ ¬ g 23 b c = -1 ∧ r = nI b)
  | 0, k, N + 1, N' + 1, v, hk, hN, hN', hv => by
    have h6 := hR.1.2.1
    have hn := hR.1.2.2.2.2.1
    refine ⟨v, nI k, nI k, ?_, ?_, hv⟩
    · rw [f_X3_mostTrusted_4, hn, if_pos ((nI_leI (by omega) (by omega)).mpr (by omega))]
    · rw [f_X5_dispute_23, hW.1, if_pos ((nI_leI (by omega) (by omega)).mpr (by omega))]
  | m + 1, k, N + 1, N' + 1, v, hk, hN, hN', hv => by
    have h6 := hR.1.2.1
    have hn := hR.1.2.2.2.2.1
    have ih := fun v hv => q_mt hR hy hW hc m (k + 1) N N' v (by omega) (by omega) (by omega) hv
    have hle : ¬ nI nw ≤ nI k := by rw [nI_leI (by omega) (by omega)]; omega
    rw [f_X3_mostTrusted_4, hn, if_neg hle, q_kn (by omega) hc, q_bd2, nI_1, f_X5_dispute_23, hW.1, if_neg hle, hW.kn h6 (by omega) hc, q_bd2, nI_1]
    by_cases hk1 : g 23 k c = -1
    · rw [if_pos hk1, if_pos rfl, if_pos rfl]
      exact ih v hv
    · rw [if_neg hk1, if_neg (show ¬ (1 : Int32) = 0 by decide), if_neg (show ¬ (1 : Int32) = 0 by decide)]
      rcases hv with hv | ⟨b, hb, kb, hv⟩
      · rw [if_pos hv, if_pos hv]
        exact ih _ (Or.inr ⟨k, by omega, hk1, rfl⟩)
      · subst hv
        rw [if_neg (q_nm1 (by omega)), if_neg (q_nm1 (by omega)), q_m16, q_m16, q_i16 (by omega) hc, q_i16 (by omega) hc, q_gt, q_gt, q_c16 (by omega) hc, q_c16 (by omega) hc, (hW.rd (by omega) hc hk1).1, (hW.rd hb hc kb).1]
        obtain ⟨o, o1, o2⟩ := q_os hR hy hW hc (show k < nw by omega) hb hk1 kb
        rw [o1, o2, q_bd2, q_bd2]
        by_cases ho : o = 0
        · rw [if_pos ho, if_pos ho]
          exact ih _ (Or.inr ⟨b, hb, kb, rfl⟩)
        · rw [if_neg ho, if_neg ho]
          exact ih _ (Or.inr ⟨k, by omega, hk1, rfl⟩)
/-- a witness's trust behind a judgement -/
def q_jd (g : Gt) (c : Nat) (x : Int32) (w : Nat) : Int32 := if ¬ g 23 w c = -1 ∧ g 22 w c = x then k_min (g 16 0 w + 1) 20 else if g 23 w c = -1 then g 16 0 w else k_max (g 16 0 w - 1) 0
theorem q_mm0 : ∀ t, t < 21 → k_min 20 (nI t + 1) = k_min (nI t + 1) 20 ∧ k_max 0 (nI t - 1) = k_max (nI t - 1) 0 ∧ (∃ k, k < 21 ∧ k_min (nI t + 1) 20 = nI k) ∧ (∃ k, k < 21 ∧ k_max (nI t - 1) 0 = nI k) := by decide +kernel
theorem q_jg {c nw : Nat} {x : Int32} {g : Gt} (hn : g 3 0 3 = nI nw) (h6 : nw ≤ 6) (hc : c < 16) : ∀ (m k N : Nat) (h : Gt), k + m = nw → m < N → (∀ t i j, ¬ t = 16 → h t i j = g t i j) → (∀ w, k ≤ w → h 16 0 w = g 16 0 w) →
    ∃ v h', f_X3_judge_2 (nI c) x N (nI k) h = some (v, h') ∧ (∀ t i j, ¬ t = 16 → h' t i j = g t i j) ∧ (∀ w, k ≤ w → w < nw → h' 16 0 w = q_jd g c x w) ∧ (∀ w, w < k → h' 16 0 w = h 16 0 w)
  | 0, k, N + 1, h, hk, hN, he, he2 => ⟨nI k, h, by rw [f_X3_judge_2, he 3 0 3 (by omega), hn, if_pos ((nI_leI (by omega) (by omega)).mpr (by omega))], he, fun w h1 h2 => by omega, fun w _ => rfl⟩
  | m + 1, k, N + 1, h, hk, hN, he, he2 => by
    have step : ∀ h1 : Gt, (∀ t i j, ¬ (t = 16 ∧ i = 0 ∧ j = k) → h1 t i j = h t i j) → h1 16 0 k = q_jd g c x k → ∃ v h', f_X3_judge_2 (nI c) x N (nI (k + 1)) h1 = some (v, h') ∧ (∀ t i j, ¬ t = 16 → h' t i j = g t i j) ∧ (∀ w, k ≤ w → w < nw → h' 16 0 w = q_jd g c x w) ∧ (∀ w, w < k → h' 16 0 w = h 16 0 w) := fun h1 a1 a2 => by
      obtain ⟨v, h', b1, b2, b3, b4⟩ := q_jg (x := x) hn h6 hc m (k + 1) N h1 (by omega) (by omega) (fun t i j ht => by rw [a1 t i j (by omega)]; exact he t i j ht) (fun w hw => by rw [a1 16 0 w (by omega)]; exact he2 w (by omega))
      refine ⟨v, h', b1, b2, fun w h1 h2 => ?_, fun w hw => ?_⟩
      · by_cases hwk : w = k
        · subst hwk
          rw [b4 w (by omega)]
          exact a2
        · exact b3 w (by omega) h2
      · rw [b4 w (by omega), a1 16 0 w (by omega)]
    rw [f_X3_judge_2, he 3 0 3 (by omega), hn, if_neg (by rw [nI_leI (by omega) (by omega)]; omega), q_ka (by omega) hc, q_bd2, q_kn (by omega) hc, q_bd2, nI_1, q_ib (show k < 6 by omega) (by omega), q_gt, q_gt, q_gt, q_gt, q_c31 (show k < 6 by omega) (by omega), he 23 k c (by omega), he 22 k c (by omega), he2 k (Nat.le_refl _)]
    by_cases h1 : ¬ g 23 k c = -1 ∧ g 22 k c = x
    · rw [if_pos h1, if_neg (by decide)]
      refine step _ (fun t i j hh => by rw [k_up_at, if_neg hh]) ?_
      rw [k_up_at, if_pos ⟨rfl, rfl, rfl⟩, q_jd, if_pos h1]
    · rw [if_neg h1, if_pos rfl]
      by_cases h2 : g 23 k c = -1
      · rw [if_pos h2, if_pos rfl]
        refine step h (fun t i j hh => rfl) ?_
        rw [he2 k (Nat.le_refl _), q_jd, if_neg h1, if_pos h2]
      · rw [if_neg h2, if_neg (by decide)]
        refine step _ (fun t i j hh => by rw [k_up_at, if_neg hh]) ?_
        rw [k_up_at, if_pos ⟨rfl, rfl, rfl⟩, q_jd, if_neg h1, if_neg h2]
theorem q_jm {c nw y : Nat} {x z : Int32} {g g2 : Gt} (hW : q_W5 nw y g g2) (hT : ∀ w, w < nw → ∃ k, k ≤ 20 ∧ g 16 0 w = nI k) (h6 : nw ≤ 6) (hc : c < 16) : ∀ (m k N : Nat) (h : Gt), k + m = nw → m < N → (∀ t i j, ¬ t = 34 → h t i j = g2 t i j) → (∀ w, k ≤ w → h 34 0 w = g2 34 0 w) →
    ∃ v h', f_X5_dispute_109 x z (nI c) N (nI k) h = some (v, h') ∧ (∀ t i j, ¬ t = 34 → h' t i j = g2 t i j) ∧ (∀ w, k ≤ w → w < nw → h' 34 0 w = q_jd g c x w) ∧ (∀ w, w < k → h' 34 0 w = h 34 0 w)
  | 0, k, N + 1, h, hk, hN, he, he2 => ⟨nI k, h, by rw [f_X5_dispute_109, he 5 0 2 (by omega), hW.1, if_pos ((nI_leI (by omega) (by omega)).mpr (by omega))], he, fun w h1 h2 => by omega, fun w _ => rfl⟩
  | m + 1, k, N + 1, h, hk, hN, he, he2 => by
    have step : ∀ h1 : Gt, (∀ t i j, ¬ (t = 34 ∧ i = 0 ∧ j = k) → h1 t i j = h t i j) → h1 34 0 k = q_jd g c x k → ∃ v h', f_X5_dispute_109 x z (nI c) N (nI (k + 1)) h1 = some (v, h') ∧ (∀ t i j, ¬ t = 34 → h' t i j = g2 t i j) ∧ (∀ w, k ≤ w → w < nw → h' 34 0 w = q_jd g c x w) ∧ (∀ w, w < k → h' 34 0 w = h 34 0 w) := fun h1 a1 a2 => by
      obtain ⟨v, h', b1, b2, b3, b4⟩ := q_jm (x := x) (z := z) hW hT h6 hc m (k + 1) N h1 (by omega) (by omega) (fun t i j ht => by rw [a1 t i j (by omega)]; exact he t i j ht) (fun w hw => by rw [a1 34 0 w (by omega)]; exact he2 w (by omega))
      refine ⟨v, h', b1, b2, fun w h1 h2 => ?_, fun w hw => ?_⟩
      · by_cases hwk : w = k
        · subst hwk
          rw [b4 w (by omega)]
          exact a2
        · exact b3 w (by omega) h2
      · rw [b4 w (by omega), a1 34 0 w (by omega)]
    have hWh : q_W5 nw y g h ∨ True := Or.inr trivial
    have hkn : f_X5_knows (nI k) (nI c) h = some (if g 23 k c = -1 then 0 else 1, h) := by
      rw [f_X5_knows, q_m16, q_i16 (by omega) hc, q_gt, q_c16 (by omega) hc, he 36 0 _ (by omega), (hW.2.2 k c (by omega) hc).1]
      split <;> rfl
    obtain ⟨t, ht, et⟩ := hT k (by omega)
    have hmm := q_mm0 t (by omega)
    rw [f_X5_dispute_109, he 5 0 2 (by omega), hW.1, if_neg (by rw [nI_leI (by omega) (by omega)]; omega), hkn, q_bd2, nI_1, q_m16, q_i16 (by omega) hc, q_gt, q_c16 (by omega) hc, q_ib (show k < 6 by omega) (by omega), q_gt, q_gt, q_gt, q_gt, q_c31 (show k < 6 by omega) (by omega), he 35 0 _ (by omega), he2 k (Nat.le_refl _), hW.2.1 k (by omega)]
    by_cases h2 : g 23 k c = -1
    · rw [if_pos h2, if_pos rfl]
      refine step h (fun t i j hh => rfl) ?_
      rw [he2 k (Nat.le_refl _), hW.2.1 k (by omega), q_jd, if_neg (fun q => q.1 h2), if_pos h2]
    · rw [if_neg h2, if_neg (by decide), (hW.rd (by omega) hc h2).1]
      by_cases h1 : g 22 k c = x
      · rw [if_pos h1]
        refine step _ (fun t i j hh => by rw [k_up_at, if_neg hh]) ?_
        rw [k_up_at, if_pos ⟨rfl, rfl, rfl⟩, q_jd, if_pos ⟨h2, h1⟩, et, hmm.1]
      · rw [if_neg h1]
        refine step _ (fun t i j hh => by rw [k_up_at, if_neg hh]) ?_
        rw [k_up_at, if_pos ⟨rfl, rfl, rfl⟩, q_jd, if_neg (fun q => h1 q.2), if_neg h2, et, hmm.2.1]
theorem q_s_dispute {Y : Nat} {g : Gt} (h : q_Rel Y g) (hY : Y < 2 ^ 30) (x1 : Int32) : Sim q_Rel Y (fun k kw => (k = 0 ∧ kw = 0) ∨ (k = 1 ∧ kw = 1) ∨ (k = 3 ∧ kw = 2)) (f_X4_dispute x1 g) (f_X5_dispute x1) := by
  have h' := h
  have hN' : k_N = 200 := rfl
  obtain ⟨n, nw, nu, y, hy, hR⟩ := h
  have hR0 := hR.of (q_E.th g 0)
  have hn := hR.1.2.2.2.1
  have hm := hR0.1.2.2.2.2.2.2.2.1
  have h16 := hR.1.1
  have h6 := hR.1.2.1
  have hnw := hR.1.2.2.2.2.1
  have hy30 : y < 2 ^ 30 := by omega
  rcases q_in x1 n (by omega) with ⟨c, hc, rfl⟩ | hb
  · have hc16 : c < 16 := by omega
    have hW : q_W5 nw y g (k_up g 5 0 0 0) := ⟨hR0.1.2.2.2.2.2.2.2.2.1, fun w hw => by rw [k_up_at, if_neg (by omega)]; exact (hR.2.2.2.1 w hw).2, fun w c hw hc => by rw [k_up_at, if_neg (by omega), k_up_at, if_neg (by omega)]; exact hR.2.2.2.2.1.1 w c hw hc⟩
    obtain ⟨r, w1, w2, m1, m2, m3⟩ := q_mt hR hy30 hW hc16 nw 0 k_N k_N (-1) (by omega) (by omega) (by omega) (Or.inl rfl)
    rw [← q_0] at m1 m2
    by_cases hr : r = -1
    · subst hr
      refine q_bad (k := 3) (kw := 2) h' (by decide) (r := 0) (b := 0) ?_ ?_ (by simp)
      · simp [f_X4_dispute, q_cc1 hn h16 hc, q_bd2, f_X3_mostTrusted, m1, q_bd3]
      · simp [f_X5_dispute, q_ic1 hm h16 hc, q_bd2, m2, q_bd3, q_fail]
    · rcases m3 with m3 | ⟨b, hb, kb, rfl⟩
      · exact absurd m3 hr
      · obtain ⟨v, g1, j1, j2, j3, j4⟩ := q_jg (x := g 22 b c) hnw h6 hc16 nw 0 k_N g (by omega) (by omega) (fun _ _ _ _ => rfl) (fun _ _ => rfl)
        have hW1 : q_W5 nw y g (k_up g1 5 0 0 0) → True := fun _ => trivial
        have hg : ∀ t i j, ¬ t = 16 → ¬ t = 5 → k_up g1 5 0 0 0 t i j = g t i j := fun t i j a b => by
          rw [k_up_at, if_neg (by omega)]
          exact j2 t i j a
        have h51 : k_up g1 5 0 0 0 5 0 1 = nI n := by rw [k_up_at, if_neg (by omega), j2 5 0 1 (by omega)]; exact hR.1.2.2.2.2.2.2.2.1
        have h52 : k_up g1 5 0 0 0 5 0 2 = nI nw := by rw [k_up_at, if_neg (by omega), j2 5 0 2 (by omega)]; exact hR.1.2.2.2.2.2.2.2.2.1
        have hW2 : q_W5 nw y g (k_up g1 5 0 0 0) := ⟨h52, fun w hw => by rw [hg 34 0 w (by omega) (by omega)]; exact (hR.2.2.2.1 w hw).2, fun w c hw hc => by rw [hg 36 0 _ (by omega) (by omega), hg 35 0 _ (by omega) (by omega)]; exact hR.2.2.2.2.1.1 w c hw hc⟩
        obtain ⟨r', w3, w4, n1, n2, n3⟩ := q_mt hR hy30 hW2 hc16 nw 0 k_N k_N (-1) (by omega) (by omega) (by omega) (Or.inl rfl)
        rw [← q_0] at n1 n2
        have hrr : r' = nI b := by
          have := m1.symm.trans n1
          exact (congrArg (fun q => q.1) (Option.some.inj this)).symm
        subst hrr
        obtain ⟨v2, g2, p1, p2, p3, p4⟩ := q_jm (x := g 22 b c) (z := nI b) hW2 (fun w hw => (hR.2.2.2.1 w hw).1) h6 hc16 nw 0 k_N (k_up g1 5 0 0 0) (by omega) (by omega) (fun _ _ _ _ => rfl) (fun _ _ => rfl)
        have e35 : k_up g1 5 0 0 0 35 0 (16 * b + c) = g 22 b c := (hW2.rd hb hc16 kb).1
        have hne : ¬ nI b = -1 := q_nm1 (by omega)
        have eg2 : ∀ t i j, ¬ t = 16 → ¬ t = 34 → ¬ (t = 5 ∧ j = 0) → g2 t i j = g t i j := fun t i j a b d => by
          rw [p2 t i j b, k_up_at, if_neg (by omega), j2 t i j a]
        refine ⟨0, g 22 b c, g1, g 22 b c, g2, 0, ?_, ?_, Or.inl ⟨rfl, rfl⟩, ?_, fun _ => rfl, n, nw, nu, y, by omega, ?_⟩
        · simp [f_X4_dispute, q_cc1 hn h16 hc, q_bd2, f_X3_mostTrusted, m1, q_bd3, hne, q_ib hc16, q_ib (show b < 6 by omega), q_gt, q_c31 hc16, q_c31 (show b < 6 by omega), f_X3_judge]
          rw [q_0, j1, q_bd2, q_bd1]
        · rw [f_X5_dispute, q_ic1 h51 h16 hc, q_bd2, if_neg (by decide), n2, q_bd3, if_neg hne, q_m16, q_i16 (by omega) hc16, q_gt, q_c16 (by omega) hc16, e35, show (f_X5_dispute_109 (g 22 b c) (nI b) (nI c) k_N 0 (k_up g1 5 0 0 0)) = _ from p1, q_bd2]
        · rw [p2 5 0 0 (by omega), k_up_at, if_pos ⟨rfl, rfl, rfl⟩]
        · obtain ⟨h1, h2, h3, h4, h5, h6', h7⟩ := hR
          refine ⟨h1.of fun t i j ht => eg2 t i j (by omega) (by omega) (by omega), h2.of fun t i j ht => eg2 t i j (by omega) (by omega) (by omega), h3.of fun t i j ht => eg2 t i j (by omega) (by omega) (by omega), fun w hw => ?_, h5.of fun t i j ht => eg2 t i j (by omega) (by omega) (by omega), h6'.of fun t i j ht => eg2 t i j (by omega) (by omega) (by omega), h7.of fun t i j ht => eg2 t i j (by omega) (by omega) (by omega)⟩
          have e16 : g2 16 0 w = q_jd g c (g 22 b c) w := by
            rw [p2 16 0 w (by omega), k_up_at, if_neg (by omega), j3 w (Nat.zero_le _) hw]
          rw [e16, p3 w (Nat.zero_le _) hw]
          refine ⟨?_, rfl⟩
          obtain ⟨t, ht, et⟩ := (h4 w hw).1
          have hmm := q_mm0 t (by omega)
          unfold q_jd
          rw [et]
          by_cases z1 : ¬ g 23 w c = -1 ∧ g 22 w c = g 22 b c
          · rw [if_pos z1]
            obtain ⟨k, hk, e⟩ := hmm.2.2.1
            exact ⟨k, by omega, e⟩
          · rw [if_neg z1]
            by_cases z2 : g 23 w c = -1
            · rw [if_pos z2]
              exact ⟨t, ht, rfl⟩
            · rw [if_neg z2]
              obtain ⟨k, hk, e⟩ := hmm.2.2.2
              exact ⟨k, by omega, e⟩
  · refine q_bad (k := 1) (kw := 1) h' (by decide) (r := 0) (b := 0) ?_ ?_ (by simp)
    · simp [f_X4_dispute, q_cc0 hn hb, q_bd2]
    · simp [f_X5_dispute, q_ic0 hm h16 hb, q_bd2, q_fail]
