/-! pure rows: the programs as plain functions of the tables -/
theorem q_gd {α : Type} {b : Bool} {x : Option α} (h : b = true) : gd b x = x := by rw [gd, if_pos h]
theorem q_gt {α : Type} {x : Option α} : gd true x = x := rfl
theorem q_bd1 {α β : Type} {a : α} {f : α → Option β} : bd1 (some a) f = f a := rfl
theorem q_bd2 {α1 α2 β : Type} {a : α1} {b : α2} {f : α1 → α2 → Option β} : bd2 (some (a, b)) f = f a b := rfl
theorem q_bd3 {α1 α2 α3 β : Type} {a : α1} {b : α2} {c : α3} {f : α1 → α2 → α3 → Option β} : bd3 (some (a, b, c)) f = f a b c := rfl
theorem q_bd4 {α1 α2 α3 α4 β : Type} {a : α1} {b : α2} {c : α3} {d : α4} {f : α1 → α2 → α3 → α4 → Option β} : bd4 (some (a, b, c, d)) f = f a b c d := rfl
theorem q_ib {k L : Nat} (h : k < L) (hL : L ≤ 200) : k_ib (nI k) L = true := by
  unfold k_ib
  rw [nI_toInt (by omega), Bool.and_eq_true, decide_eq_true_eq, decide_eq_true_eq]
  omega
theorem q_m4 (c p : Nat) : (4 : Int32) * nI c + nI p = nI (4 * c + p) := by rw [show (4 : Int32) = nI 4 from rfl, pk_mul, nI_add]
theorem q_m5 (c p : Nat) : (5 : Int32) * nI c + nI p = nI (5 * c + p) := by rw [show (5 : Int32) = nI 5 from rfl, pk_mul, nI_add]
theorem q_m16 (c p : Nat) : (16 : Int32) * nI c + nI p = nI (16 * c + p) := by rw [show (16 : Int32) = nI 16 from rfl, pk_mul, nI_add]
theorem q_0 : (0 : Int32) = nI 0 := rfl
theorem q_1 : (1 : Int32) = nI 1 := rfl
theorem q_2 : (2 : Int32) = nI 2 := rfl
theorem q_3 : (3 : Int32) = nI 3 := rfl
theorem q_4 : (4 : Int32) = nI 4 := rfl
theorem q_N : k_N = 195 + 1 + 1 + 1 + 1 + 1 := rfl
def q_dg (f : Nat → Int32) : Int32 := (((0 * 10 + f 0) * 10 + f 1) * 10 + f 2) * 10 + f 3
def q_af (f : Nat → Int32) : Int32 := 0 + f 0 + f 1 + f 2 + f 3
theorem q_l0 : k_ib 0 4 = true := by decide
theorem q_l1 : k_ib 1 4 = true := by decide
theorem q_l2 : k_ib 2 4 = true := by decide
theorem q_l3 : k_ib 3 4 = true := by decide
theorem q_c31 {c L : Nat} (h : c < L) (hL : L ≤ 200) : (nI c).toNatClampNeg = c := nI_clamp (by omega)
theorem q_c4 {c p : Nat} (hc : c < 16) (hp : p < 4) : (nI (4 * c + p)).toNatClampNeg = 4 * c + p := nI_clamp (by omega)
theorem q_i4 {c p : Nat} (hc : c < 16) (hp : p < 4) : k_ib (nI (4 * c + p)) 64 = true := q_ib (by omega) (by omega)
theorem q_X1dg {i c : Nat} {g : Gt} (h : c < 16) : f_X1_digits i (nI c) g = some (q_dg (g 20 (16 * i + c)), g) := by
  rw [f_X1_digits, q_N]
  simp [f_X1_digits_4, q_ib h, q_c31 h, q_l0, q_l1, q_l2, q_l3, q_gt, bd3, q_dg]
theorem q_X1af {i c : Nat} {g : Gt} (h : c < 16) : f_X1_allFrays i (nI c) g = some (q_af (g 21 (16 * i + c)), g) := by
  rw [f_X1_allFrays, q_N]
  simp [f_X1_allFrays_4, q_ib h, q_c31 h, q_l0, q_l1, q_l2, q_l3, q_gt, bd3, q_af]
theorem q_p0 (c : Nat) : (4 : Int32) * nI c = nI (4 * c + 0) := by rw [← q_m4 c 0, ← q_0, Int32.add_zero]
theorem q_p1 (c : Nat) : (4 : Int32) * nI c + 1 = nI (4 * c + 1) := q_m4 c 1
theorem q_p2 (c : Nat) : (4 : Int32) * nI c + 2 = nI (4 * c + 2) := q_m4 c 2
theorem q_p3 (c : Nat) : (4 : Int32) * nI c + 3 = nI (4 * c + 3) := q_m4 c 3
theorem q_X5dg {c : Nat} {g : Gt} (h : c < 16) : f_X5_digits (nI c) g = some (q_dg (fun p => g 32 0 (4 * c + p)), g) := by
  rw [f_X5_digits, q_N]
  simp [f_X5_digits_4, q_p1, q_p2, q_p3]
  simp only [q_p0]
  simp only [q_i4 h (show 0 < 4 by omega), q_i4 h (show 1 < 4 by omega), q_i4 h (show 2 < 4 by omega), q_i4 h (show 3 < 4 by omega), q_c4 h (show 0 < 4 by omega), q_c4 h (show 1 < 4 by omega), q_c4 h (show 2 < 4 by omega), q_c4 h (show 3 < 4 by omega), q_l0, q_l1, q_l2, q_l3, q_gt, q_bd3, q_dg, k_te]
  simp
  grind
theorem q_X5af {c : Nat} {g : Gt} (h : c < 16) : f_X5_allFrays (nI c) g = some (q_af (fun p => g 33 0 (4 * c + p)), g) := by
  rw [f_X5_allFrays, q_N]
  simp [f_X5_allFrays_4, q_p1, q_p2, q_p3]
  simp only [q_p0]
  simp only [q_i4 h (show 0 < 4 by omega), q_i4 h (show 1 < 4 by omega), q_i4 h (show 2 < 4 by omega), q_i4 h (show 3 < 4 by omega), q_c4 h (show 0 < 4 by omega), q_c4 h (show 1 < 4 by omega), q_c4 h (show 2 < 4 by omega), q_c4 h (show 3 < 4 by omega), q_gt, q_bd3, q_af]
  simp
/-- the cords from k on, m of them, that hang from t -/
def q_kl (fr : Nat → Int32) (t : Int32) : Nat → Nat → List Nat
  | 0, _ => []
  | m + 1, k => if fr k = t then k :: q_kl fr t m (k + 1) else q_kl fr t m (k + 1)
theorem q_kl_mem {fr : Nat → Int32} {t : Int32} {j : Nat} : ∀ (m k : Nat), j ∈ q_kl fr t m k → k ≤ j ∧ j < k + m ∧ fr j = t
  | 0, k, h => by cases h
  | m + 1, k, h => by
    rw [q_kl] at h
    by_cases hk : fr k = t
    · rw [if_pos hk] at h
      rcases List.mem_cons.mp h with rfl | h
      · exact ⟨Nat.le_refl _, by omega, hk⟩
      · have := q_kl_mem m (k + 1) h
        exact ⟨by omega, by omega, this.2.2⟩
    · rw [if_neg hk] at h
      have := q_kl_mem m (k + 1) h
      exact ⟨by omega, by omega, this.2.2⟩
theorem q_kl_len {fr : Nat → Int32} {t : Int32} : ∀ (m k : Nat), (q_kl fr t m k).length ≤ m
  | 0, k => Nat.le_refl _
  | m + 1, k => by
    have := q_kl_len (fr := fr) (t := t) m (k + 1)
    rw [q_kl]
    by_cases hk : fr k = t
    · rw [if_pos hk, List.length_cons]; omega
    · rw [if_neg hk]; omega
theorem q_kl_app {fr : Nat → Int32} {t : Int32} (b : Nat) : ∀ (a k : Nat), q_kl fr t (a + b) k = q_kl fr t a k ++ q_kl fr t b (k + a)
  | 0, k => by simp [q_kl]
  | a + 1, k => by
    rw [show a + 1 + b = (a + b) + 1 from by omega, q_kl, q_kl, q_kl_app b a (k + 1), show k + 1 + a = k + (a + 1) from by omega]
    by_cases hk : fr k = t
    · rw [if_pos hk, if_pos hk, List.cons_append]
    · rw [if_neg hk, if_neg hk]
theorem q_kl_nil {fr : Nat → Int32} {t : Int32} (m k : Nat) (h : ∀ j, k ≤ j → j < k + m → fr j ≠ t) : q_kl fr t m k = [] := by
  cases hq : q_kl fr t m k with
  | nil => rfl
  | cons a l =>
    have := q_kl_mem (fr := fr) (t := t) (j := a) m k (by rw [hq]; exact List.mem_cons_self)
    exact absurd this.2.2 (h a this.1 this.2.1)
theorem q_kl_congr {fr fr' : Nat → Int32} {t : Int32} : ∀ (m k : Nat), (∀ j, k ≤ j → j < k + m → fr j = fr' j) → q_kl fr t m k = q_kl fr' t m k
  | 0, k, h => rfl
  | m + 1, k, h => by
    rw [q_kl, q_kl, h k (Nat.le_refl _) (by omega), q_kl_congr m (k + 1) (fun j h1 h2 => h j (by omega) (by omega))]
/-- where no cord hangs from itself or a later one -/
def q_up (fr : Nat → Int32) (n : Nat) : Prop := ∀ c, c < n → fr c = -1 ∨ ∃ b, b < c ∧ fr c = nI b
theorem q_up_ne {fr : Nat → Int32} {n t j : Nat} (h : q_up fr n) (hn : n ≤ 16) (hj : j < n) (ht : j ≤ t) (ht2 : t < 16) : fr j ≠ nI t := by
  intro e
  rcases h j hj with h1 | ⟨b, h1, h2⟩
  · rw [e] at h1
    have h3 : (nI t).toInt = (-1 : Int32).toInt := by rw [h1]
    rw [nI_toInt (by omega)] at h3
    have h4 : (-1 : Int32).toInt = -1 := by decide
    omega
  · rw [e] at h2
    have := (nI_eq (by omega) (by omega)).mp h2
    omega
theorem q_kl_all {fr : Nat → Int32} {n t : Nat} (h : q_up fr n) (hn : n ≤ 16) (ht : t < n) : q_kl fr (nI t) n 0 = q_kl fr (nI t) (n - (t + 1)) (t + 1) := by
  have := q_kl_app (fr := fr) (t := nI t) (n - (t + 1)) (t + 1) 0
  rw [show t + 1 + (n - (t + 1)) = n from by omega] at this
  rw [this, q_kl_nil (t + 1) 0 (fun j _ h2 => q_up_ne h hn (by omega) (by omega) (by omega)), List.nil_append, Nat.zero_add]
theorem q_hf {c : Int32} {n : Nat} {g : Gt} (hn : g 1 0 4 = nI n) (h16 : n ≤ 16) : ∀ (m k N : Nat) (v : Int32), k + m = n → m < N → f_X0_hangingFrom_6 c N v (nI k) g = some (v + nI (q_kl (g 10 0) c m k).length, nI n, g)
  | 0, k, N + 1, v, hk, hN => by
    rw [f_X0_hangingFrom_6, hn, if_pos ((nI_leI (by omega) (by omega)).mpr (by omega)), show k = n from by omega]
    simp [q_kl, ← q_0]
  | m + 1, k, N + 1, v, hk, hN => by
    rw [f_X0_hangingFrom_6, hn, if_neg (by rw [nI_leI (by omega) (by omega)]; omega), q_ib (by omega) (by omega), q_gt, q_c31 (L := 16) (by omega) (by omega), nI_1, q_hf hn h16 m (k + 1) N _ (by omega) (by omega), q_hf hn h16 m (k + 1) N _ (by omega) (by omega), q_kl]
    by_cases h : g 10 0 k = c
    · rw [if_pos h, if_pos h, List.length_cons, ← nI_1]
      congr 2
      grind
    · rw [if_neg h, if_neg h]
theorem q_X0hf {c n : Nat} {g : Gt} (hn : g 1 0 4 = nI n) (h16 : n ≤ 16) (hc : c < n) : f_X0_hangingFrom (nI c) g = some (nI (q_kl (g 10 0) (nI c) (n - (c + 1)) (c + 1)).length, g) := by
  rw [f_X0_hangingFrom, nI_1, q_hf hn h16 (n - (c + 1)) (c + 1) k_N _ (by omega) (by rw [show k_N = 200 from rfl]; omega), q_bd3]
  simp
theorem q_hs {c : Int32} {n : Nat} {g : Gt} (hn : g 5 0 1 = nI n) (h16 : n ≤ 16) : ∀ (m k N : Nat) (v : Int32), k + m = n → m < N → f_X5_hangs_4 c N v (nI k) g = some (v + nI (q_kl (g 30 0) c m k).length, nI n, g)
  | 0, k, N + 1, v, hk, hN => by
    rw [f_X5_hangs_4, hn, if_pos ((nI_leI (by omega) (by omega)).mpr (by omega)), show k = n from by omega]
    simp [q_kl, ← q_0]
  | m + 1, k, N + 1, v, hk, hN => by
    rw [f_X5_hangs_4, hn, if_neg (by rw [nI_leI (by omega) (by omega)]; omega), q_ib (by omega) (by omega), q_gt, q_c31 (L := 16) (by omega) (by omega), nI_1, q_hs hn h16 m (k + 1) N _ (by omega) (by omega), q_hs hn h16 m (k + 1) N _ (by omega) (by omega), q_kl]
    by_cases h : g 30 0 k = c
    · rw [if_pos h, if_pos h, List.length_cons, ← nI_1]
      congr 2
      grind
    · rw [if_neg h, if_neg h]
      simp
theorem q_X5hs {c : Int32} {n : Nat} {g : Gt} (hn : g 5 0 1 = nI n) (h16 : n ≤ 16) : f_X5_hangs c g = some (nI (q_kl (g 30 0) c n 0).length, g) := by
  rw [f_X5_hangs, q_0, q_hs hn h16 n 0 k_N _ (by omega) (by rw [show k_N = 200 from rfl]; omega), q_bd3, ← q_0]
  simp
def q_om (x : Int32) : Int32 := if x ≤ 0 then 0 else 1
def q_jn (s a x : Int32) : Int32 := if s = 0 then a + x else if s = 1 then a - x else if s = 2 then k_max a x else if s = 3 then a + q_om x else a * x
def q_bg (s x : Int32) : Int32 := if s = 3 then q_om x else x
def q_cm (s : Int32) : List Int32 → Int32
  | [] => 0
  | x :: xs => xs.foldl (q_jn s) (q_bg s x)
theorem q_oneIf {x : Int32} {g : Gt} : f_X0_oneIfMore x g = some (q_om x, g) := by
  unfold f_X0_oneIfMore q_om
  split <;> rfl
theorem q_begun {s x : Int32} {g : Gt} : f_X0_begun s x g = some (q_bg s x, g) := by
  unfold f_X0_begun q_bg
  rw [q_oneIf, q_bd2]
  split <;> rfl
theorem q_joined {s a x : Int32} {g : Gt} : f_X0_joined s a x g = some (q_jn s a x, g) := by
  unfold f_X0_joined q_jn
  rw [q_oneIf, q_bd2]
  by_cases h0 : s = 0
  · rw [if_pos h0, if_pos h0]
  · rw [if_neg h0, if_neg h0]
    by_cases h1 : s = 1
    · rw [if_pos h1, if_pos h1]
    · rw [if_neg h1, if_neg h1]
      by_cases h2 : s = 2
      · rw [if_pos h2, if_pos h2]
      · rw [if_neg h2, if_neg h2]
        by_cases h3 : s = 3
        · rw [if_pos h3, if_pos h3]
        · rw [if_neg h3, if_neg h3]
theorem q_ch0 {s c : Int32} {n : Nat} {g : Gt} (hn : g 1 0 4 = nI n) (h16 : n ≤ 16) : ∀ (m k N : Nat) (v : Int32), k + m = n → m < N → f_X0_countHanging_17 s c N v 0 (nI k) g = some (((q_kl (g 10 0) c m k).map (g 12 0)).foldl (q_jn s) v, 0, nI n, g)
  | 0, k, N + 1, v, hk, hN => by
    rw [f_X0_countHanging_17, hn, if_pos ((nI_leI (by omega) (by omega)).mpr (by omega)), show k = n from by omega]
    simp [q_kl]
  | m + 1, k, N + 1, v, hk, hN => by
    rw [f_X0_countHanging_17, hn, if_neg (by rw [nI_leI (by omega) (by omega)]; omega), q_ib (by omega) (by omega), q_gt, q_c31 (L := 16) (by omega) (by omega), nI_1, if_pos rfl, q_joined, q_gt, q_bd2, q_ch0 hn h16 m (k + 1) N _ (by omega) (by omega), q_ch0 hn h16 m (k + 1) N _ (by omega) (by omega), q_kl]
    by_cases h : g 10 0 k = c
    · rw [if_pos h, if_pos h, List.map_cons, List.foldl_cons]
    · rw [if_neg h, if_neg h]
theorem q_ch1 {s c : Int32} {n : Nat} {g : Gt} (hn : g 1 0 4 = nI n) (h16 : n ≤ 16) : ∀ (m k N : Nat), k + m = n → m < N → ∃ f, f_X0_countHanging_17 s c N 0 1 (nI k) g = some (q_cm s ((q_kl (g 10 0) c m k).map (g 12 0)), f, nI n, g)
  | 0, k, N + 1, hk, hN => ⟨1, by
    rw [f_X0_countHanging_17, hn, if_pos ((nI_leI (by omega) (by omega)).mpr (by omega)), show k = n from by omega]
    simp [q_kl, q_cm]⟩
  | m + 1, k, N + 1, hk, hN => by
    rw [f_X0_countHanging_17, hn, if_neg (by rw [nI_leI (by omega) (by omega)]; omega), q_ib (by omega) (by omega), q_gt, q_c31 (L := 16) (by omega) (by omega), nI_1, if_neg (show ¬ (1 : Int32) = 0 by decide), q_begun, q_gt, q_bd2, q_ch0 hn h16 m (k + 1) N _ (by omega) (by omega), q_kl]
    obtain ⟨f, hf⟩ := q_ch1 (s := s) (c := c) hn h16 m (k + 1) N (by omega) (by omega)
    by_cases h : g 10 0 k = c
    · refine ⟨0, ?_⟩
      rw [if_pos h, if_pos h, List.map_cons, q_cm]
    · refine ⟨f, ?_⟩
      rw [if_neg h, if_neg h]
      exact hf
theorem q_X0ch {c n : Nat} {g : Gt} (hn : g 1 0 4 = nI n) (h16 : n ≤ 16) (hc : c < n) : f_X0_countHanging (nI c) g = some (q_cm (g 11 0 c) ((q_kl (g 10 0) (nI c) (n - (c + 1)) (c + 1)).map (g 12 0)), g) := by
  obtain ⟨f, hf⟩ := q_ch1 (s := g 11 0 c) (c := nI c) hn h16 (n - (c + 1)) (c + 1) k_N (by omega) (by rw [show k_N = 200 from rfl]; omega)
  rw [f_X0_countHanging, q_ib (by omega) (by omega), q_gt, q_c31 (L := 16) (by omega) (by omega), nI_1, hf, q_bd4]
/-- what a cord counts and says, by its own hanging cords -/
def q_TL (n : Nat) (fr st d sy kt : Nat → Int32) (c : Nat) : Prop := kt c = q_cm (st c) ((q_kl fr (nI c) (n - (c + 1)) (c + 1)).map sy) ∧ sy c = d c + kt c
theorem q_TL_uniq {n : Nat} {fr st d sy kt fr' st' d' sy' kt' : Nat → Int32} (hf : ∀ c, c < n → fr c = fr' c) (hs : ∀ c, c < n → st c = st' c) (hd : ∀ c, c < n → d c = d' c) (h : ∀ c, c < n → q_TL n fr st d sy kt c) (h' : ∀ c, c < n → q_TL n fr' st' d' sy' kt' c) : ∀ (m c : Nat), n ≤ c + m → c < n → sy c = sy' c ∧ kt c = kt' c
  | 0, c, h1, h2 => by omega
  | m + 1, c, h1, h2 => by
    have hk : kt c = kt' c := by
      rw [(h c h2).1, (h' c h2).1, hs c h2, q_kl_congr (n - (c + 1)) (c + 1) (fun j h3 h4 => hf j (by omega))]
      congr 1
      refine List.map_congr_left fun j hj => ?_
      have hm := q_kl_mem (n - (c + 1)) (c + 1) hj
      exact (q_TL_uniq hf hs hd h h' m j (by omega) (by omega)).1
    exact ⟨by rw [(h c h2).2, (h' c h2).2, hd c h2, hk], hk⟩
theorem q_map_congr {fr : Nat → Int32} {t : Int32} {f g : Nat → Int32} {m k : Nat} (h : ∀ j, k ≤ j → j < k + m → f j = g j) : (q_kl fr t m k).map f = (q_kl fr t m k).map g := List.map_congr_left fun j hj => h j (q_kl_mem m k hj).1 (q_kl_mem m k hj).2.1
theorem q_m1 (m : Nat) : nI (m + 1) - 1 = nI m := nI_pred m
theorem q_a1 (x : Int32) : x + (-1 : Int32) = x - 1 := by grind
theorem q_neg1 : nI 0 - 1 < (0 : Int32) := by decide
theorem q_tell {i n : Nat} {fr st d : Nat → Int32} (h16 : n ≤ 16) (hi : i ≤ 1) : ∀ (m N : Nat) (g : Gt), m ≤ n → m < N → g 1 0 4 = nI n → g 10 0 = fr → g 11 0 = st → (∀ c, c < 16 → q_dg (g 20 (16 * i + c)) = d c) → (∀ c, m ≤ c → c < n → q_TL n fr st d (g 12 0) (g 13 0) c) →
    ∃ (w : Int32) (g' : Gt), f_X0_tell_7 i N (nI m - 1) g = some (w, g') ∧ (∀ t j, ¬ t = 12 → ¬ t = 13 → g' t j = g t j) ∧ (∀ c, c < n → q_TL n fr st d (g' 12 0) (g' 13 0) c)
  | 0, N + 1, g, hm, hN, hn, hf, hs, hd, hT => ⟨_, g, by rw [f_X0_tell_7, if_pos q_neg1], fun _ _ _ _ => rfl, fun c h => hT c (Nat.zero_le _) h⟩
  | m + 1, N + 1, g, hm, hN, hn, hf, hs, hd, hT => by
    rw [f_X0_tell_7, q_m1, if_neg (nI_pos (by omega)), q_X0ch hn h16 (by omega), q_bd2, q_ib (by omega) (by omega), q_gt, q_c31 (L := 16) (by omega) (by omega), q_X1dg (by omega), q_bd2, q_gt, q_gt, q_a1]
    have e20 : k_up g 13 0 m (q_cm (g 11 0 m) ((q_kl (g 10 0) (nI m) (n - (m + 1)) (m + 1)).map (g 12 0))) 20 (16 * i + m) = g 20 (16 * i + m) := by
      funext j
      rw [k_up_at, if_neg (by omega)]
    rw [e20, hd m (by omega), hf, hs]
    generalize hX : q_cm (st m) ((q_kl fr (nI m) (n - (m + 1)) (m + 1)).map (g 12 0)) = X
    have e13 : k_up g 13 0 m X 13 0 m = X := by rw [k_up_at, if_pos ⟨rfl, rfl, rfl⟩]
    rw [e13]
    have hoff : ∀ t j, ¬ t = 12 → ¬ t = 13 → k_up (k_up g 13 0 m X) 12 0 m (d m + X) t j = g t j := fun t j h1 h2 => by
      funext q
      rw [k_up_at, if_neg (by omega), k_up_at, if_neg (by omega)]
    have h12 : ∀ c, k_up (k_up g 13 0 m X) 12 0 m (d m + X) 12 0 c = if c = m then d m + X else g 12 0 c := fun c => by
      rw [k_up_at, k_up_at]
      by_cases hc : c = m
      · rw [if_pos ⟨rfl, rfl, hc⟩, if_pos hc]
      · rw [if_neg (by omega), if_neg (by omega), if_neg hc]
    have h13 : ∀ c, k_up (k_up g 13 0 m X) 12 0 m (d m + X) 13 0 c = if c = m then X else g 13 0 c := fun c => by
      rw [k_up_at, if_neg (by omega), k_up_at]
      by_cases hc : c = m
      · rw [if_pos ⟨rfl, rfl, hc⟩, if_pos hc]
      · rw [if_neg (by omega), if_neg hc]
    obtain ⟨w, g', e1, e2, e3⟩ := q_tell (i := i) (n := n) (fr := fr) (st := st) (d := d) h16 hi m N (k_up (k_up g 13 0 m X) 12 0 m (d m + X)) (by omega) (by omega) (by rw [hoff 1 0 (by omega) (by omega)]; exact hn) (by rw [hoff 10 0 (by omega) (by omega)]; exact hf) (by rw [hoff 11 0 (by omega) (by omega)]; exact hs) (fun c hc => by rw [hoff 20 _ (by omega) (by omega)]; exact hd c hc) (fun c h1 h2 => by
      have hmap : (q_kl fr (nI c) (n - (c + 1)) (c + 1)).map (k_up (k_up g 13 0 m X) 12 0 m (d m + X) 12 0) = (q_kl fr (nI c) (n - (c + 1)) (c + 1)).map (g 12 0) := q_map_congr fun j hj _ => by rw [h12, if_neg (by omega)]
      unfold q_TL
      rw [hmap, h12, h13]
      by_cases hc : c = m
      · subst hc
        rw [if_pos rfl, if_pos rfl]
        exact ⟨hX.symm, rfl⟩
      · rw [if_neg hc, if_neg hc]
        exact hT c (by omega) h2)
    exact ⟨w, g', e1, fun t j h1 h2 => (e2 t j h1 h2).trans (hoff t j h1 h2), e3⟩
theorem q_X0tell {i n : Nat} {g : Gt} (hn : g 1 0 4 = nI n) (h16 : n ≤ 16) (hi : i ≤ 1) : ∃ g', f_X0_tell i g = some g' ∧ (∀ t j, ¬ t = 12 → ¬ t = 13 → g' t j = g t j) ∧ (∀ c, c < n → q_TL n (g 10 0) (g 11 0) (fun c => q_dg (g 20 (16 * i + c))) (g' 12 0) (g' 13 0) c) := by
  obtain ⟨w, g', e1, e2, e3⟩ := q_tell (i := i) (n := n) (fr := g 10 0) (st := g 11 0) (d := fun c => q_dg (g 20 (16 * i + c))) h16 hi n k_N g (Nat.le_refl _) (by rw [show k_N = 200 from rfl]; omega) hn rfl rfl (fun c _ => rfl) (fun c h1 h2 => by omega)
  exact ⟨g', by rw [f_X0_tell, hn, e1, q_bd2], e2, e3⟩
/-- what the reference has counted of the cords behind: full when no further one hangs ahead -/
def q_pt (s : Int32) (full : Bool) : List Int32 → Int32
  | [] => 0
  | x :: xs => if s = 0 then q_pt s false xs + x else if s = 1 then q_pt s false xs + (if full = true then x else - x) else if s = 2 then (if xs = [] then x else k_max (q_pt s false xs) x) else if s = 3 then q_pt s false xs + q_om x else (if xs = [] then x else q_pt s false xs * x)
theorem q_max_c (a b : Int32) : k_max a b = k_max b a := by
  unfold k_max
  split <;> split <;> first | rfl | skip
  · rename_i h1 h2
    rw [Int32.lt_iff_toInt_lt] at *
    omega
  · rename_i h1 h2
    rw [Int32.lt_iff_toInt_lt] at *
    exact Int32.toInt_inj.mp (by omega)
theorem q_max_a (a b c : Int32) : k_max (k_max a b) c = k_max a (k_max b c) := by
  unfold k_max
  by_cases h1 : a < b <;> by_cases h2 : b < c <;> by_cases h3 : a < c <;> simp only [h1, h2, h3, if_true, if_false] <;> (try rfl) <;> (rw [Int32.lt_iff_toInt_lt] at *; omega)
theorem q_pt0 (s : Int32) (h0 : s = 0) : ∀ (xs : List Int32) (a : Int32), xs.foldl (q_jn s) a = q_pt s false xs + a
  | [], a => by simp [q_pt]
  | y :: xs, a => by
    rw [List.foldl_cons, q_pt0 s h0 xs, q_pt, if_pos h0, q_jn, if_pos h0]
    grind
theorem q_pt1 (s : Int32) (h0 : s = 1) : ∀ (xs : List Int32) (a : Int32), xs.foldl (q_jn s) a = q_pt s false xs + a
  | [], a => by simp [q_pt]
  | y :: xs, a => by
    rw [List.foldl_cons, q_pt1 s h0 xs, q_pt, if_neg (show ¬ s = 0 by subst h0; decide), if_pos h0, q_jn, if_neg (show ¬ s = 0 by subst h0; decide), if_pos h0, if_neg (by decide)]
    grind
theorem q_pt2 (s : Int32) (h0 : s = 2) : ∀ (xs : List Int32) (a : Int32), xs.foldl (q_jn s) a = if xs = [] then a else k_max (q_pt s false xs) a
  | [], a => by simp
  | y :: xs, a => by
    rw [List.foldl_cons, q_pt2 s h0 xs, q_pt, if_neg (show ¬ s = 0 by subst h0; decide), if_neg (show ¬ s = 1 by subst h0; decide), if_pos h0, q_jn, if_neg (show ¬ s = 0 by subst h0; decide), if_neg (show ¬ s = 1 by subst h0; decide), if_pos h0, if_neg (show ¬ (y :: xs = []) by simp)]
    by_cases hx : xs = []
    · rw [if_pos hx, if_pos hx, q_max_c]
    · rw [if_neg hx, if_neg hx, q_max_c a y, q_max_a]
theorem q_pt3 (s : Int32) (h0 : s = 3) : ∀ (xs : List Int32) (a : Int32), xs.foldl (q_jn s) a = q_pt s false xs + a
  | [], a => by simp [q_pt]
  | y :: xs, a => by
    rw [List.foldl_cons, q_pt3 s h0 xs, q_pt, if_neg (show ¬ s = 0 by subst h0; decide), if_neg (show ¬ s = 1 by subst h0; decide), if_neg (show ¬ s = 2 by subst h0; decide), if_pos h0, q_jn, if_neg (show ¬ s = 0 by subst h0; decide), if_neg (show ¬ s = 1 by subst h0; decide), if_neg (show ¬ s = 2 by subst h0; decide), if_pos h0]
    grind
theorem q_pt4 (s : Int32) (h0 : ¬ s = 0) (h1 : ¬ s = 1) (h2 : ¬ s = 2) (h3 : ¬ s = 3) : ∀ (xs : List Int32) (a : Int32), xs.foldl (q_jn s) a = if xs = [] then a else q_pt s false xs * a
  | [], a => by simp
  | y :: xs, a => by
    rw [List.foldl_cons, q_pt4 s h0 h1 h2 h3 xs, q_pt, if_neg h0, if_neg h1, if_neg h2, if_neg h3, q_jn, if_neg h0, if_neg h1, if_neg h2, if_neg h3, if_neg (show ¬ (y :: xs = []) by simp)]
    by_cases hx : xs = []
    · rw [if_pos hx, if_pos hx]
      grind
    · rw [if_neg hx, if_neg hx]
      grind
theorem q_cm_pt (s : Int32) (L : List Int32) : q_cm s L = q_pt s true L := by
  cases L with
  | nil => rfl
  | cons x xs =>
    rw [q_cm, q_pt]
    by_cases h0 : s = 0
    · rw [q_pt0 s h0, if_pos h0, q_bg, if_neg (show ¬ s = 3 by subst h0; decide)]
    · rw [if_neg h0]
      by_cases h1 : s = 1
      · rw [q_pt1 s h1, if_pos h1, q_bg, if_neg (show ¬ s = 3 by subst h1; decide), if_pos rfl]
      · rw [if_neg h1]
        by_cases h2 : s = 2
        · rw [q_pt2 s h2, if_pos h2, q_bg, if_neg (show ¬ s = 3 by subst h2; decide)]
        · rw [if_neg h2]
          by_cases h3 : s = 3
          · rw [q_pt3 s h3, if_pos h3, q_bg, if_pos h3]
          · rw [if_neg h3, q_pt4 s h0 h1 h2 h3, q_bg, if_neg h3]
/-- what the reference's count makes of one cord -/
def q_cn (s k h x : Int32) (full : Bool) : Int32 := if s = 0 then k + x else if s = 1 then k + (if full = true then x else - x) else if s = 2 then (if h = 0 then x else k_max k x) else if s = 3 then k + q_om x else (if h = 0 then x else k * x)
theorem q_X5cn0 {c : Nat} {x : Int32} {g : Gt} (hc : c < 16) (hf : g 30 0 c = -1) : f_X5_count (nI c) x g = some g := by
  rw [f_X5_count, q_ib hc (by omega), q_gt, q_c31 hc (by omega), if_pos hf]
theorem q_X5cn {c u n : Nat} {x : Int32} {g : Gt} (hc : c < 16) (hu : u < 16) (hn : g 5 0 1 = nI n) (h16 : n ≤ 16) (hf : g 30 0 c = nI u) : f_X5_count (nI c) x g = some (k_up (k_up g 41 0 u (g 41 0 u + 1)) 39 0 u (q_cn (g 31 0 u) (g 39 0 u) (g 41 0 u) x (decide (g 41 0 u + 1 = nI (q_kl (g 30 0) (nI u) n 0).length)))) := by
  have hne : ¬ nI u = -1 := fun e => by
    have h3 : (nI u).toInt = (-1 : Int32).toInt := by rw [e]
    rw [nI_toInt (by omega)] at h3
    have h4 : (-1 : Int32).toInt = -1 := by decide
    omega
  have hh : ∀ v, f_X5_hangs (nI u) (k_up g 41 0 u v) = some (nI (q_kl (g 30 0) (nI u) n 0).length, k_up g 41 0 u v) := fun v => by
    have e1 : k_up g 41 0 u v 5 0 1 = nI n := by rw [k_up_at, if_neg (by omega)]; exact hn
    have e2 : k_up g 41 0 u v 30 0 = g 30 0 := by funext j; rw [k_up_at, if_neg (by omega)]
    rw [q_X5hs e1 h16, e2]
  have e41 : ∀ v, k_up g 41 0 u v 41 0 u = v := fun v => by rw [k_up_at, if_pos ⟨rfl, rfl, rfl⟩]
  have e31 : ∀ v, k_up g 41 0 u v 31 0 u = g 31 0 u := fun v => by rw [k_up_at, if_neg (by omega)]
  have e39 : ∀ v, k_up g 41 0 u v 39 0 u = g 39 0 u := fun v => by rw [k_up_at, if_neg (by omega)]
  rw [f_X5_count, q_ib hc (by omega), q_gt, q_c31 hc (by omega), hf, if_neg hne]
  simp only [q_ib hu (show 16 ≤ 200 by omega), q_gt, q_c31 hu (show 16 ≤ 200 by omega), hh, q_bd2, e41, e31, e39]
  by_cases h41 : g 41 0 u = 0
  · rw [if_pos h41]
    by_cases hfull : g 41 0 u + 1 = nI (q_kl (g 30 0) (nI u) n 0).length
    · rw [if_pos hfull, decide_eq_true hfull]
      unfold q_cn q_om
      simp only [h41]
      split <;> (try rfl)
      split <;> (try rfl)
      split <;> (try rfl)
      split <;> (try rfl)
      split <;> rfl
    · rw [if_neg hfull, decide_eq_false hfull]
      unfold q_cn q_om
      simp only [h41]
      split <;> (try rfl)
      split <;> (try rfl)
      split <;> (try rfl)
      split <;> (try rfl)
      split <;> rfl
  · rw [if_neg h41]
    by_cases hfull : g 41 0 u + 1 = nI (q_kl (g 30 0) (nI u) n 0).length
    · rw [if_pos hfull, decide_eq_true hfull]
      unfold q_cn q_om
      simp only [h41]
      split <;> (try rfl)
      split <;> (try rfl)
      split <;> (try rfl)
      split <;> (try rfl)
      split <;> rfl
    · rw [if_neg hfull, decide_eq_false hfull]
      unfold q_cn q_om
      simp only [h41]
      split <;> (try rfl)
      split <;> (try rfl)
      split <;> (try rfl)
      split <;> (try rfl)
      split <;> rfl
theorem q_rz {n : Nat} (h16 : n ≤ 16) : ∀ (m k N : Nat) (g : Gt), k + m = n → m < N → g 5 0 1 = nI n →
    ∃ (w : Int32) (g' : Gt), f_X5_reckon_2 N (nI k) g = some (w, g') ∧ (∀ t j, ¬ t = 39 → ¬ t = 41 → g' t j = g t j) ∧ (∀ c, k ≤ c → c < n → g' 39 0 c = 0 ∧ g' 41 0 c = 0) ∧ (∀ c, c < k → g' 39 0 c = g 39 0 c ∧ g' 41 0 c = g 41 0 c)
  | 0, k, N + 1, g, hk, hN, hn => ⟨_, g, by rw [f_X5_reckon_2, hn, if_pos ((nI_leI (by omega) (by omega)).mpr (by omega))], fun _ _ _ _ => rfl, fun c h1 h2 => by omega, fun c h => ⟨rfl, rfl⟩⟩
  | m + 1, k, N + 1, g, hk, hN, hn => by
    rw [f_X5_reckon_2, hn, if_neg (by rw [nI_leI (by omega) (by omega)]; omega), q_ib (by omega) (by omega), q_gt, q_gt, q_c31 (L := 16) (by omega) (by omega), nI_1]
    have hoff : ∀ t j, ¬ t = 39 → ¬ t = 41 → k_up (k_up g 39 0 k 0) 41 0 k 0 t j = g t j := fun t j h1 h2 => by
      funext q
      rw [k_up_at, if_neg (by omega), k_up_at, if_neg (by omega)]
    obtain ⟨w, g', e1, e2, e3, e4⟩ := q_rz h16 m (k + 1) N (k_up (k_up g 39 0 k 0) 41 0 k 0) (by omega) (by omega) (by rw [hoff 5 0 (by omega) (by omega)]; exact hn)
    refine ⟨w, g', e1, fun t j h1 h2 => (e2 t j h1 h2).trans (hoff t j h1 h2), fun c h1 h2 => ?_, fun c h => ?_⟩
    · by_cases hc : c = k
      · subst hc
        have := e4 c (by omega)
        rw [this.1, this.2]
        simp [k_up_at]
      · exact e3 c (by omega) h2
    · have := e4 c (by omega)
      rw [this.1, this.2]
      simp [k_up_at, show ¬ c = k by omega]
/-- the reference has worked through the cords from m on -/
def q_RI (n : Nat) (fr st d : Nat → Int32) (m : Nat) (g : Gt) : Prop := (∀ u, u < n → g 41 0 u = nI (q_kl fr (nI u) (n - m) m).length ∧ g 39 0 u = q_pt (st u) (decide ((q_kl fr (nI u) (n - m) m).length = (q_kl fr (nI u) n 0).length)) ((q_kl fr (nI u) (n - m) m).map (g 40 0))) ∧ (∀ c, m ≤ c → c < n → g 40 0 c = d c + g 39 0 c)
theorem q_pt_f {s : Int32} {b : Bool} {L : List Int32} {T : Nat} (h : b = decide (L.length = T)) (hT : L.length < T) : q_pt s b L = q_pt s false L := by
  rw [h, decide_eq_false (by omega)]
theorem q_rk1 {n m : Nat} {fr st d : Nat → Int32} {g : Gt} (h16 : n ≤ 16) (hup : q_up fr n) (hm : m < n) (hn : g 5 0 1 = nI n) (hf : g 30 0 = fr) (hs : g 31 0 = st) (hI : q_RI n fr st d (m + 1) g) :
    ∃ g', f_X5_count (nI m) (d m + g 39 0 m) (k_up g 40 0 m (d m + g 39 0 m)) = some g' ∧ (∀ t j, ¬ t = 39 → ¬ t = 40 → ¬ t = 41 → g' t j = g t j) ∧ q_RI n fr st d m g' := by
  generalize hX : d m + g 39 0 m = X
  have hkl : ∀ u, q_kl fr (nI u) (n - m) m = if fr m = nI u then m :: q_kl fr (nI u) (n - (m + 1)) (m + 1) else q_kl fr (nI u) (n - (m + 1)) (m + 1) := fun u => by
    rw [show n - m = (n - (m + 1)) + 1 from by omega, q_kl]
  have hmap : ∀ u (f : Nat → Int32), (∀ j, m < j → f j = g 40 0 j) → (q_kl fr (nI u) (n - (m + 1)) (m + 1)).map f = (q_kl fr (nI u) (n - (m + 1)) (m + 1)).map (g 40 0) := fun u f hf => q_map_congr fun j h1 _ => hf j (by omega)
  have h40 : ∀ j, k_up g 40 0 m X 40 0 j = if j = m then X else g 40 0 j := fun j => by
    rw [k_up_at]
    by_cases h : j = m
    · rw [if_pos ⟨rfl, rfl, h⟩, if_pos h]
    · rw [if_neg (by omega), if_neg h]
  have hoff : ∀ t j, ¬ t = 40 → k_up g 40 0 m X t j = g t j := fun t j h1 => by
    funext q
    rw [k_up_at, if_neg (by omega)]
  have hle : ∀ u, u < n → (q_kl fr (nI u) (n - m) m).length ≤ (q_kl fr (nI u) n 0).length := fun u hu => by
    have := q_kl_app (fr := fr) (t := nI u) (n - m) m 0
    rw [show m + (n - m) = n from by omega, Nat.zero_add] at this
    rw [this, List.length_append]
    omega
  rcases hup m hm with hb | ⟨b, hb, hfb⟩
  · refine ⟨k_up g 40 0 m X, q_X5cn0 (by omega) (by rw [hoff 30 0 (by omega), hf]; exact hb), fun t j h1 h2 h3 => hoff t j h2, fun u hu => ?_, fun c h1 h2 => ?_⟩
    · have hne : ¬ fr m = nI u := fun e => by
        rw [hb] at e
        have h3 : (nI u).toInt = (-1 : Int32).toInt := by rw [e]
        rw [nI_toInt (by omega)] at h3
        have h4 : (-1 : Int32).toInt = -1 := by decide
        omega
      have := hI.1 u hu
      rw [hkl u, if_neg hne, hoff 41 0 (by omega), hoff 39 0 (by omega), hmap u _ (fun j hj => by rw [h40, if_neg (by omega)])]
      exact this
    · rw [h40, hoff 39 0 (by omega)]
      by_cases hc : c = m
      · subst hc
        rw [if_pos rfl, hX]
      · rw [if_neg hc]
        exact hI.2 c (by omega) h2
  · have hb16 : b < 16 := by omega
    refine ⟨_, q_X5cn (n := n) (u := b) (by omega) hb16 (by rw [hoff 5 0 (by omega)]; exact hn) h16 (by rw [hoff 30 0 (by omega), hf]; exact hfb), fun t j h1 h2 h3 => ?_, fun u hu => ?_, fun c h1 h2 => ?_⟩
    · funext q
      rw [k_up_at, if_neg (by omega), k_up_at, if_neg (by omega), hoff t j h2]
    · have h40' : ∀ (v w : Int32) j, k_up (k_up (k_up g 40 0 m X) 41 0 b v) 39 0 b w 40 0 j = if j = m then X else g 40 0 j := fun v w j => by
        rw [k_up_at, if_neg (by omega), k_up_at, if_neg (by omega), h40]
      have hI1 := hI.1 u hu
      by_cases hub : u = b
      · subst hub
        have hlen := hle u hu
        rw [hkl u, if_pos hfb, List.length_cons] at hlen
        rw [hkl u, if_pos hfb, List.length_cons, List.map_cons, h40', if_pos rfl, hmap u _ (fun j hj => by rw [h40', if_neg (by omega)])]
        rw [hoff 41 0 (by omega), hoff 39 0 (by omega), hoff 31 0 (by omega), hoff 30 0 (by omega), hs, hf]
        rw [k_up_at, if_neg (by omega), k_up_at, if_pos ⟨rfl, rfl, rfl⟩, k_up_at, if_pos ⟨rfl, rfl, rfl⟩, hI1.1, hI1.2, nI_1]
        refine ⟨rfl, ?_⟩
        generalize hL : q_kl fr (nI u) (n - (m + 1)) (m + 1) = L at *
        generalize hTl : (q_kl fr (nI u) n 0).length = T at *
        have hT16 : T ≤ 16 := by rw [← hTl]; exact Nat.le_trans (q_kl_len n 0) h16
        rw [decide_eq_false (show ¬ L.length = T by omega), q_pt, q_cn]
        have hL0 : (nI L.length = 0) ↔ L.map (g 40 0) = [] := by
          rw [q_0, nI_eq (by omega) (by omega), List.map_eq_nil_iff, List.length_eq_zero_iff]
        have hfull : (nI (L.length + 1) = nI T) ↔ L.length + 1 = T := nI_eq (by omega) (by omega)
        simp only [hL0, hfull, decide_eq_true_eq]
      · have hne : ¬ fr m = nI u := fun e => by
          rw [hfb] at e
          exact hub ((nI_eq (by omega) (by omega)).mp e).symm
        rw [hkl u, if_neg hne, hmap u _ (fun j hj => by rw [h40', if_neg (by omega)])]
        have h1' : ∀ (v w : Int32), k_up (k_up (k_up g 40 0 m X) 41 0 b v) 39 0 b w 41 0 u = g 41 0 u := fun v w => by
          rw [k_up_at, if_neg (by omega), k_up_at, if_neg (by omega), hoff 41 0 (by omega)]
        have h2' : ∀ (v w : Int32), k_up (k_up (k_up g 40 0 m X) 41 0 b v) 39 0 b w 39 0 u = g 39 0 u := fun v w => by
          rw [k_up_at, if_neg (by omega), k_up_at, if_neg (by omega), hoff 39 0 (by omega)]
        rw [h1', h2']
        exact hI1
    · have h2' : ∀ (v w : Int32), k_up (k_up (k_up g 40 0 m X) 41 0 b v) 39 0 b w 39 0 c = g 39 0 c := fun v w => by
        rw [k_up_at, if_neg (by omega), k_up_at, if_neg (by omega), hoff 39 0 (by omega)]
      have h3' : ∀ (v w : Int32), k_up (k_up (k_up g 40 0 m X) 41 0 b v) 39 0 b w 40 0 c = if c = m then X else g 40 0 c := fun v w => by
        rw [k_up_at, if_neg (by omega), k_up_at, if_neg (by omega), h40]
      rw [h2', h3']
      by_cases hc : c = m
      · subst hc
        rw [if_pos rfl, hX]
      · rw [if_neg hc]
        exact hI.2 c (by omega) h2
theorem q_rk {n : Nat} {fr st d : Nat → Int32} (h16 : n ≤ 16) (hup : q_up fr n) : ∀ (m N : Nat) (g : Gt), m ≤ n → m < N → g 5 0 1 = nI n → g 30 0 = fr → g 31 0 = st → (∀ c, c < 16 → q_dg (fun p => g 32 0 (4 * c + p)) = d c) → q_RI n fr st d m g →
    ∃ (w : Int32) (g' : Gt), f_X5_reckon_37 N (nI m - 1) g = some (w, g') ∧ (∀ t j, ¬ t = 39 → ¬ t = 40 → ¬ t = 41 → g' t j = g t j) ∧ q_RI n fr st d 0 g'
  | 0, N + 1, g, hm, hN, hn, hf, hs, hd, hI => ⟨_, g, by rw [f_X5_reckon_37, if_pos q_neg1], fun _ _ _ _ _ => rfl, hI⟩
  | m + 1, N + 1, g, hm, hN, hn, hf, hs, hd, hI => by
    obtain ⟨g1, e1, e2, e3⟩ := q_rk1 h16 hup (show m < n by omega) hn hf hs hI
    have e40 : ∀ v, k_up g 40 0 m v 40 0 m = v := fun v => by rw [k_up_at, if_pos ⟨rfl, rfl, rfl⟩]
    rw [f_X5_reckon_37, q_m1, if_neg (nI_pos (by omega)), q_X5dg (by omega), q_bd2, q_ib (by omega) (by omega), q_gt, q_gt, q_gt, q_c31 (L := 16) (by omega) (by omega), hd m (by omega), e40, e1, q_bd1, q_a1]
    obtain ⟨w, g', f1, f2, f3⟩ := q_rk h16 hup m N g1 (by omega) (by omega) (by rw [e2 5 0 (by omega) (by omega) (by omega)]; exact hn) (by rw [e2 30 0 (by omega) (by omega) (by omega)]; exact hf) (by rw [e2 31 0 (by omega) (by omega) (by omega)]; exact hs) (fun c hc => by rw [e2 32 0 (by omega) (by omega) (by omega)]; exact hd c hc) e3
    exact ⟨w, g', f1, fun t j h1 h2 h3 => (f2 t j h1 h2 h3).trans (e2 t j h1 h2 h3), f3⟩
theorem q_X5rk {n : Nat} {g : Gt} (hn : g 5 0 1 = nI n) (h16 : n ≤ 16) (hup : q_up (g 30 0) n) : ∃ g', f_X5_reckon g = some g' ∧ (∀ t j, ¬ t = 39 → ¬ t = 40 → ¬ t = 41 → g' t j = g t j) ∧ (∀ c, c < n → q_TL n (g 30 0) (g 31 0) (fun c => q_dg (fun p => g 32 0 (4 * c + p))) (g' 40 0) (g' 39 0) c) := by
  obtain ⟨w, g1, e1, e2, e3, e4⟩ := q_rz h16 n 0 k_N g (by omega) (by rw [show k_N = 200 from rfl]; omega) hn
  have hI : q_RI n (g 30 0) (g 31 0) (fun c => q_dg (fun p => g 32 0 (4 * c + p))) n g1 := ⟨fun u hu => by
    have := e3 u (by omega) hu
    rw [this.1, this.2, Nat.sub_self]
    exact ⟨rfl, rfl⟩, fun c h1 h2 => by omega⟩
  have h51 : g1 5 0 1 = nI n := by rw [e2 5 0 (by omega) (by omega)]; exact hn
  obtain ⟨w', g', f1, f2, f3⟩ := q_rk h16 hup n k_N g1 (Nat.le_refl _) (by rw [show k_N = 200 from rfl]; omega) h51 (e2 30 0 (by omega) (by omega)) (e2 31 0 (by omega) (by omega)) (fun c hc => by rw [e2 32 0 (by omega) (by omega)]) hI
  refine ⟨g', by rw [f_X5_reckon, q_0, e1, q_bd2, h51, f1, q_bd2], fun t j h1 h2 h3 => (f2 t j h1 h2 h3).trans (e2 t j h1 h3), fun c hc => ⟨?_, f3.2 c (Nat.zero_le _) hc⟩⟩
  have := (f3.1 c hc).2
  rw [this, q_cm_pt, Nat.sub_zero, decide_eq_true rfl, q_kl_all hup h16 hc]
