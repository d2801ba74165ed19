/-! What the machine's tables and the statics say: facts of a state that every contract stands on (KS), and one row an instruction over the world. -/
def k_ws : List Cond := [.fieldLinkNest "KnotArchive" 236 "KnotArchive$Cords" "froms" "[I" "KnotArchive",
  .fieldLinkNest "KnotArchive$Knots" 41 "KnotArchive$Cords" "strands" "[I" "KnotArchive",
  .fieldLinkNest "KnotArchive" 202 "KnotArchive$Cords" "strands" "[I" "KnotArchive",
  .fieldLinkNest "KnotArchive" 131 "KnotArchive$Cords" "says" "[I" "KnotArchive",
  .fieldLinkNest "KnotArchive" 182 "KnotArchive$Cords" "counted" "[I" "KnotArchive",
  .fieldLinkNest "KnotArchive" 58 "KnotArchive$Cords" "size" "I" "KnotArchive",
  .fieldLinkNest "KnotArchive$Knots" 35 "KnotArchive$Cords" "size" "I" "KnotArchive",
  .fieldLinkNest "KnotArchive" 93 "KnotArchive$Knots" "tied" "[[I" "KnotArchive",
  .fieldLinkNest "KnotArchive" 122 "KnotArchive$Knots" "frays" "[[I" "KnotArchive",
  .fieldLinkNest "KnotArchive" 143 "KnotArchive$Witnesses" "trusts" "[I" "KnotArchive",
  .fieldLinkNest "KnotArchive" 151 "KnotArchive$Witnesses" "numbers" "[[I" "KnotArchive",
  .fieldLinkNest "KnotArchive" 125 "KnotArchive$Witnesses" "size" "I" "KnotArchive",
  .fieldLinkNest "KnotArchive" 162 "KnotArchive$Untyings" "rows" "[[I" "KnotArchive",
  .fieldLinkNest "KnotArchive" 99 "KnotArchive$Untyings" "size" "I" "KnotArchive",
  .methodLinkNest "KnotArchive" 9 ⟨"KnotArchive$Cords", "<init>", "()V"⟩ "KnotArchive",
  .methodLinkNest "KnotArchive" 18 ⟨"KnotArchive$Knots", "<init>", "()V"⟩ "KnotArchive",
  .methodLinkNest "KnotArchive" 28 ⟨"KnotArchive$Witnesses", "<init>", "()V"⟩ "KnotArchive",
  .methodLinkNest "KnotArchive" 35 ⟨"KnotArchive$Untyings", "<init>", "()V"⟩ "KnotArchive",
  .methodLinkNest "KnotArchive" 115 ⟨"KnotArchive$Cords", "tell", "(LKnotArchive$Knots;)V"⟩ "KnotArchive",
  .methodLinkNest "KnotArchive$Cords" 32 ⟨"KnotArchive$Knots", "digits", "(I)I"⟩ "KnotArchive",
  .methodLinkNest "KnotArchive" 175 ⟨"KnotArchive$Knots", "copyFrom", "(LKnotArchive$Knots;)V"⟩ "KnotArchive",
  .methodLinkNest "KnotArchive" 66 ⟨"KnotArchive$Cords", "hangingFrom", "(I)I"⟩ "KnotArchive",
  .methodLinkNest "KnotArchive" 78 ⟨"KnotArchive$Knots", "digits", "(I)I"⟩ "KnotArchive",
  .methodLinkNest "KnotArchive" 106 ⟨"KnotArchive$Knots", "allFrays", "(I)I"⟩ "KnotArchive",
  .methodLinkNest "KnotArchive" 139 ⟨"KnotArchive$Witnesses", "memory", "(III)I"⟩ "KnotArchive",
  .methodLinkNest "KnotArchive" 72 ⟨"KnotArchive$Cords", "add", "(II)I"⟩ "KnotArchive",
  .methodLinkNest "KnotArchive" 81 ⟨"KnotArchive$Knots", "tieAll", "(II)V"⟩ "KnotArchive",
  .methodLinkNest "KnotArchive" 102 ⟨"KnotArchive$Untyings", "write", "(IIIII)V"⟩ "KnotArchive",
  .methodLinkNest "KnotArchive" 109 ⟨"KnotArchive$Knots", "clearFrays", "(I)V"⟩ "KnotArchive",
  .methodLinkNest "KnotArchive" 128 ⟨"KnotArchive$Witnesses", "add", "()I"⟩ "KnotArchive",
  .methodLinkNest "KnotArchive" 135 ⟨"KnotArchive$Witnesses", "keep", "(IIII)V"⟩ "KnotArchive",
  .methodLinkNest "KnotArchive" 146 ⟨"KnotArchive$Witnesses", "mostTrusted", "(I)I"⟩ "KnotArchive",
  .methodLinkNest "KnotArchive" 154 ⟨"KnotArchive$Witnesses", "judge", "(II)V"⟩ "KnotArchive",
  .methodLinkNest "KnotArchive" 168 ⟨"KnotArchive$Knots", "fray", "(LKnotArchive$Cords;I)I"⟩ "KnotArchive",
  .methodLinkNest "KnotArchive" 185 ⟨"KnotArchive$Knots", "differences", "(II)I"⟩ "KnotArchive",
  .declares ⟨"java/lang/Exception", "<init>", "()V"⟩,
  .declares ⟨"java/lang/Exception", "<init>", "(Ljava/lang/String;)V"⟩,
  .declares ⟨"java/lang/RuntimeException", "<init>", "()V"⟩,
  .declares ⟨"java/lang/RuntimeException", "<init>", "(Ljava/lang/String;)V"⟩,
  .declares ⟨"java/lang/Throwable", "<init>", "()V"⟩,
  .declares ⟨"java/lang/Throwable", "<init>", "(Ljava/lang/String;)V"⟩,
  .castable "java/lang/IndexOutOfBoundsException" "java/lang/IndexOutOfBoundsException",
  .castable "java/lang/IllegalArgumentException" "java/lang/IllegalArgumentException",
  .castable "java/lang/IllegalStateException" "java/lang/IllegalStateException",
  .castable "[I" "java/lang/Cloneable"]
def k_strs : List (Nat × String) := [(226, "no such cord"), (53, "no such strand"), (63, "there are 16 cords"), (70, "6 cords hang from this one"), (76, "no number of four digits"), (228, "no such witness"), (230, "no such place"), (91, "knots are untied 1 to 9 at once"), (97, "there are not so many knots"), (100, "30 untyings are written down"), (232, "nothing is told by this number"), (126, "there are 6 witnesses"), (149, "no witness remembers the cord"), (159, "no such untying"), (234, "years are 1 to 50")]
def k_nc : List (String × String) := [("java/lang/IndexOutOfBoundsException", "java/lang/IllegalArgumentException"), ("java/lang/IndexOutOfBoundsException", "java/lang/IllegalStateException"), ("java/lang/IllegalArgumentException", "java/lang/IndexOutOfBoundsException"), ("java/lang/IllegalArgumentException", "java/lang/IllegalStateException"), ("java/lang/IllegalStateException", "java/lang/IndexOutOfBoundsException"), ("java/lang/IllegalStateException", "java/lang/IllegalArgumentException")]
def k_okw : Cond → Bool
  | .fieldLinkNest .. => true
  | .methodLinkNest .. => true
  | .declares _ => true
  | .castable .. => true
  | _ => false
theorem k_ws_ok : ∀ w ∈ k_ws, k_okw w = true := by decide +kernel
theorem k_okw_tab {w : Cond} (h : k_okw w = true) : w.onTables = true := by
  cases w <;> first | rfl | (simp [k_okw] at h)
theorem k_okw_warm {w : Cond} (h : k_okw w = true) {s U : State} (hW : s.WarmedH U.vm) (hZ : va_Nw w s) : va_Nw w U := by
  cases w <;> first | exact va_Nw.warmF hW hZ | exact va_Nw.warmM hW hZ | exact va_Nw.warmD hW hZ | exact va_Nw.warmC hW hZ | (simp [k_okw] at h)
def k_tens (j : Nat) : Value := .int ([1000, 100, 10, 1].getD j 0)
def k_dt (j : Nat) : Value := .int (nI (48 + j / 10))
def k_do (j : Nat) : Value := .int (nI (48 + j % 10))
abbrev k_B (Γ : k_Pm) : Nat → Prop := fun q => k_b0 Γ ≤ q
/-- the statics that nobody writes -/
def k_stat (A : Nat → Prop) (U : State) (H : Heap) : Prop :=
  (∃ t, va_Z RX5 "TENS" "[I" (.ref t) A U H ∧ va_T .int t 4 k_tens A U H) ∧
  (∃ t, va_Z RJ6 "DigitTens" "[B" (.ref t) A U H ∧ va_T .byte t 100 k_dt A U H) ∧
  (∃ t, va_Z RJ6 "DigitOnes" "[B" (.ref t) A U H ∧ va_T .byte t 100 k_do A U H) ∧
  va_Z RJ0 "COMPACT_STRINGS" "Z" (.int 1) A U H ∧
  va_Zq RJ3 "SIOOBE_FORMATTER" "Ljava/util/function/BiFunction;" A U H ∧
  vx_Zq Bundle.tN "UNASSIGNED_STACK" Bundle.steD A U H ∧ vx_Zq Bundle.tN "SUPPRESSED_SENTINEL" Bundle.listD A U H
theorem k_stat.to {A : Nat → Prop} {u U : State} {H H1 : Heap} (hvm : u.vm.Alike U.vm) (hq : ∀ a : Nat, a < H.size → ¬ A a → H1[a]? = H[a]?) (h : k_stat A u H) : k_stat A U H1 := by
  obtain ⟨⟨t1, a1, b1⟩, ⟨t2, a2, b2⟩, ⟨t3, a3, b3⟩, h4, h5, h6, h7⟩ := h
  exact ⟨⟨t1, (a1.moved hvm).kept hq, (b1.moved hvm).kept hq⟩, ⟨t2, (a2.moved hvm).kept hq, (b2.moved hvm).kept hq⟩, ⟨t3, (a3.moved hvm).kept hq, (b3.moved hvm).kept hq⟩, (h4.moved hvm).kept hq, (h5.moved hvm).kept hq, (h6.moved hvm).kept hq, (h7.moved hvm).kept hq⟩
def KS (Γ : k_Pm) (U : State) : Prop :=
  va_K Γ.1 vwCl [(Γ.2.1, .int), (Γ.2.2.1, .array .int)] U ∧ (∀ w ∈ k_ws, va_Nw w U) ∧ va_D (k_B Γ) (k_W Γ (fun _ _ _ => 0)) ∧ k_b0 Γ ≤ U.heap.size ∧
  k_stat (k_B Γ) U U.heap ∧ (∀ q ∈ k_strs, ∃ a, vk_R RX4 q.1 q.2 a U) ∧ (∀ q ∈ k_nc, va_Nc q.1 q.2 U)
theorem KS.to {Γ : k_Pm} {s U : State} {H : Heap} {locs : List Loc} (h : KS Γ s) (hW : s.WarmedH U.vm) (hS : va_S (k_B Γ) s.heap H locs) (hU : U.heap = H) : KS Γ U := by
  obtain ⟨h1, h2, h3, h4, h5, h6, h7⟩ := h
  subst hU
  refine ⟨va_K.moved hW.alike h1, fun w hw => k_okw_warm (k_ws_ok w hw) hW (h2 w hw), h3, Nat.le_trans h4 hS.1, k_stat.to hW.alike hS.2.1 h5, fun q hq => ?_, fun q hq => va_Nc.moved hW.alike (h7 q hq)⟩
  obtain ⟨a, ha⟩ := h6 q hq
  exact ⟨a, vk_R.warm hW ha⟩
theorem KS.calling {Γ : k_Pm} {U : State} (g : JFrame) (mk : MethodId) (a : Array Value) (h : KS Γ U) : KS Γ (U.calling g mk a) :=
  h.to (U := U.calling g mk a) (H := U.heap) (locs := []) (State.WarmedH.refl U) va_S.rf rfl
theorem KS.adr {Γ : k_Pm} {U : State} (h : KS Γ U) {t i : Nat} (hi : i < k_cnt t) : k_b0 Γ ≤ k_ad Γ t i := by
  have h1 := k_get Γ (fun _ _ _ => 0) [] hi
  rw [List.append_nil] at h1
  exact h.2.2.1.2 _ _ h1
theorem KS.A_B {Γ : k_Pm} {U : State} (h : KS Γ U) {sz : Nat} (hsz : k_b0 Γ ≤ sz) : ∀ q, k_A Γ sz q → k_B Γ q := by
  rintro q (⟨t, i, h1, rfl⟩ | h1)
  · exact h.adr h1
  · exact Nat.le_trans hsz h1
theorem k_A_mono {Γ : k_Pm} {a b : Nat} (h : a ≤ b) : ∀ q, k_A Γ b q → k_A Γ a q := by
  rintro q (h1 | h1)
  · exact Or.inl h1
  · exact Or.inr (Nat.le_trans h h1)
theorem k_S_weak {A B : Nat → Prop} {H0 H : Heap} {locs : List Loc} (h : va_S A H0 H locs) (hAB : ∀ q, A q → B q) : va_S B H0 H locs := ⟨h.1, fun q h1 h2 => h.2.1 q h1 (fun z => h2 (hAB q z)), fun z hz => hAB _ (h.2.2 z hz)⟩
/-- an index within n -/
def k_ib (j : Int32) (n : Nat) : Bool := decide (0 ≤ j.toInt) && decide (j.toInt < (n : Int))
theorem k_ib_in {j : Int32} {n : Nat} (h : k_ib j n = true) : vp_in j n := by
  unfold k_ib at h
  simp only [Bool.and_eq_true, decide_eq_true_eq] at h
  exact vp_in_iff.mpr h
theorem k_ib_lt {j : Int32} {n : Nat} (h : k_ib j n = true) : j.toNatClampNeg < n := Nat.not_le.mp fun q => k_ib_in h (Or.inr q)
theorem k_ci_lt {t i : Nat} {j : Int32} (hA : k_isA t = true) (hi : i < k_cnt t) (h : k_ib j (k_len t) = true) : k_ci t i j.toNatClampNeg < k_cnt (k_ch t) := by
  have hj := k_ib_lt h
  have ht : t = 14 ∨ t = 15 ∨ t = 17 ∨ t = 18 ∨ t = 19 := by
    unfold k_isA at hA
    simp only [Bool.or_eq_true, beq_iff_eq] at hA
    omega
  rcases ht with rfl | rfl | rfl | rfl | rfl
  · have h1 : i < 2 := hi
    have h2 : j.toNatClampNeg < 16 := hj
    show 16 * i + j.toNatClampNeg < 32
    omega
  · have h1 : i < 2 := hi
    have h2 : j.toNatClampNeg < 16 := hj
    show 16 * i + j.toNatClampNeg < 32
    omega
  · exact hj
  · exact hj
  · exact hj
/-! guards and binds of the written-out programs -/
def gd {α : Type} (b : Bool) (x : Option α) : Option α := if b = true then x else none
theorem gd_t {α : Type} {b : Bool} {x : Option α} {y : α} (h : gd b x = some y) : b = true ∧ x = some y := by
  unfold gd at h
  by_cases hb : b = true
  · rw [if_pos hb] at h
    exact ⟨hb, h⟩
  · rw [if_neg hb] at h
    cases h
def bd1 {α β : Type} (x : Option α) (f : α → Option β) : Option β := x.bind f
def bd2 {α1 α2 β : Type} (x : Option (α1 × α2)) (f : α1 → α2 → Option β) : Option β := x.bind (fun q => f q.1 q.2)
def bd3 {α1 α2 α3 β : Type} (x : Option (α1 × α2 × α3)) (f : α1 → α2 → α3 → Option β) : Option β := x.bind (fun q => f q.1 q.2.1 q.2.2)
def bd4 {α1 α2 α3 α4 β : Type} (x : Option (α1 × α2 × α3 × α4)) (f : α1 → α2 → α3 → α4 → Option β) : Option β := x.bind (fun q => f q.1 q.2.1 q.2.2.1 q.2.2.2)
def bd5 {α1 α2 α3 α4 α5 β : Type} (x : Option (α1 × α2 × α3 × α4 × α5)) (f : α1 → α2 → α3 → α4 → α5 → Option β) : Option β := x.bind (fun q => f q.1 q.2.1 q.2.2.1 q.2.2.2.1 q.2.2.2.2)
theorem bd1_t {α β : Type} {x : Option α} {f : α → Option β} {y : β} (h : bd1 x f = some y) : ∃ a, x = some a ∧ f a = some y := by
  cases x with
  | none => cases h
  | some q => exact ⟨q, rfl, h⟩
theorem bd2_t {α1 α2 β : Type} {x : Option (α1 × α2)} {f : α1 → α2 → Option β} {y : β} (h : bd2 x f = some y) : ∃ a b, x = some (a, b) ∧ f a b = some y := by
  cases x with
  | none => cases h
  | some q => exact ⟨q.1, q.2, rfl, h⟩
theorem bd3_t {α1 α2 α3 β : Type} {x : Option (α1 × α2 × α3)} {f : α1 → α2 → α3 → Option β} {y : β} (h : bd3 x f = some y) : ∃ a b c, x = some (a, b, c) ∧ f a b c = some y := by
  cases x with
  | none => cases h
  | some q => exact ⟨q.1, q.2.1, q.2.2, rfl, h⟩
theorem bd4_t {α1 α2 α3 α4 β : Type} {x : Option (α1 × α2 × α3 × α4)} {f : α1 → α2 → α3 → α4 → Option β} {y : β} (h : bd4 x f = some y) : ∃ a b c d, x = some (a, b, c, d) ∧ f a b c d = some y := by
  cases x with
  | none => cases h
  | some q => exact ⟨q.1, q.2.1, q.2.2.1, q.2.2.2, rfl, h⟩
theorem bd5_t {α1 α2 α3 α4 α5 β : Type} {x : Option (α1 × α2 × α3 × α4 × α5)} {f : α1 → α2 → α3 → α4 → α5 → Option β} {y : β} (h : bd5 x f = some y) : ∃ a b c d e, x = some (a, b, c, d, e) ∧ f a b c d e = some y := by
  cases x with
  | none => cases h
  | some q => exact ⟨q.1, q.2.1, q.2.2.1, q.2.2.2.1, q.2.2.2.2, rfl, h⟩
theorem it_t {α : Type} {c : Prop} {d : Decidable c} {x y z : α} (h : @ite α c d x y = z) (hc : c) : x = z := by rw [if_pos hc] at h; exact h
theorem it_f {α : Type} {c : Prop} {d : Decidable c} {x y z : α} (h : @ite α c d x y = z) (hc : ¬ c) : y = z := by rw [if_neg hc] at h; exact h
theorem sm1 {α : Type} {a b : α} (h : some a = some b) : a = b := Option.some.inj h
theorem sm2 {α β : Type} {a a' : α} {b b' : β} (h : some (a, b) = some (a', b')) : a = a' ∧ b = b' := by
  have h1 := Option.some.inj h
  exact ⟨congrArg Prod.fst h1, congrArg Prod.snd h1⟩
theorem sm3 {α β γ : Type} {a a' : α} {b b' : β} {c c' : γ} (h : some (a, b, c) = some (a', b', c')) : a = a' ∧ b = b' ∧ c = c' := by
  have h1 := Option.some.inj h
  exact ⟨congrArg Prod.fst h1, congrArg (fun q => q.2.1) h1, congrArg (fun q => q.2.2) h1⟩
theorem sm4 {α β γ δ : Type} {a a' : α} {b b' : β} {c c' : γ} {d d' : δ} (h : some (a, b, c, d) = some (a', b', c', d')) : a = a' ∧ b = b' ∧ c = c' ∧ d = d' := by
  have h1 := Option.some.inj h
  exact ⟨congrArg Prod.fst h1, congrArg (fun q => q.2.1) h1, congrArg (fun q => q.2.2.1) h1, congrArg (fun q => q.2.2.2) h1⟩
theorem sm5 {α β γ δ ε : Type} {a a' : α} {b b' : β} {c c' : γ} {d d' : δ} {e e' : ε} (h : some (a, b, c, d, e) = some (a', b', c', d', e')) : a = a' ∧ b = b' ∧ c = c' ∧ d = d' ∧ e = e' := by
  have h1 := Option.some.inj h
  exact ⟨congrArg Prod.fst h1, congrArg (fun q => q.2.1) h1, congrArg (fun q => q.2.2.1) h1, congrArg (fun q => q.2.2.2.1) h1, congrArg (fun q => q.2.2.2.2) h1⟩
def k_N : Nat := 200
def k_max (x y : Int32) : Int32 := if x < y then y else x
def k_min (x y : Int32) : Int32 := if y < x then y else x
def k_abs (x : Int32) : Int32 := if 0 ≤ x then x else 0 - x
def k_minL (x y : Int64) : Int64 := if y < x then y else x
def k_absL (x : Int64) : Int64 := if 0 < x then x else -x
def k_ex (k : Nat) : String := if k = 1 then "java/lang/IndexOutOfBoundsException" else if k = 2 then "java/lang/IllegalArgumentException" else "java/lang/IllegalStateException"
/-! contracts -/
def k_Pre (Γ : k_Pm) (As : List Value) (g : Gt) (sz : Nat) : Array Value → State → Prop := va_Pc As (fun U => U.heap.size = sz ∧ va_P Γ.1 vwCl (k_W Γ g) U.heap ∧ KS Γ U)
theorem k_Pre_blind {Γ : k_Pm} {As : List Value} {g : Gt} {sz : Nat} : FrameBlind (k_Pre Γ As g sz) := fun a U g mk q => ⟨q.1, q.2.1, q.2.2.1, q.2.2.2.calling g mk a⟩
abbrev k_at (Γ : k_Pm) : Gt → State → Prop := fun g1 t => va_P Γ.1 vwCl (k_W Γ g1) t.heap
def k_Qi (Γ : k_Pm) (r : Int32) (g' : Gt) (sz : Nat) : Array Value → State → Outcome → State → Prop := va_Qi (fun r1 g1 => r1 = r ∧ g1 = g') (k_at Γ) (k_A Γ sz)
def k_Ql (Γ : k_Pm) (r : Int64) (g' : Gt) (sz : Nat) : Array Value → State → Outcome → State → Prop := va_Ql (fun r1 g1 => r1 = r ∧ g1 = g') (k_at Γ) (k_A Γ sz)
def k_Qd (Γ : k_Pm) (r : UInt64) (g' : Gt) (sz : Nat) : Array Value → State → Outcome → State → Prop := va_Qd (fun r1 g1 => r1 = r ∧ g1 = g') (k_at Γ) (k_A Γ sz)
def k_Qv (Γ : k_Pm) (g' : Gt) (sz : Nat) : Array Value → State → Outcome → State → Prop := va_Qv (fun g1 => g1 = g') (k_at Γ) (k_A Γ sz)
def k_Qxi (Γ : k_Pm) (k : Nat) (r : Int32) (g' : Gt) (sz : Nat) : Array Value → State → Outcome → State → Prop := va_Qi (fun r1 g1 => k = 0 ∧ r1 = r ∧ g1 = g') (k_at Γ) (k_A Γ sz)
def k_Qxv (Γ : k_Pm) (k : Nat) (g' : Gt) (sz : Nat) : Array Value → State → Outcome → State → Prop := va_Qv (fun g1 => k = 0 ∧ g1 = g') (k_at Γ) (k_A Γ sz)
def k_X (Γ : k_Pm) (k : Nat) (g' : Gt) (sz : Nat) : String → State → State → Prop := vx_X (fun g1 : Gt => k ≠ 0 ∧ g1 = g') (fun E g1 t => E = k_ex k ∧ k_at Γ g1 t) (k_A Γ sz)
def k_CI (Γ : k_Pm) (l : Launch) (y : MethodName) (ws : List Cond) (rm : Room) (As : List Value) (g : Gt) (r : Int32) (g' : Gt) : Prop := ∀ sz, Met l y ws rm (k_Pre Γ As g sz) (k_Qi Γ r g' sz) rm.cells rm.slots (k_A Γ sz)
def k_CL (Γ : k_Pm) (l : Launch) (y : MethodName) (ws : List Cond) (rm : Room) (As : List Value) (g : Gt) (r : Int64) (g' : Gt) : Prop := ∀ sz, Met l y ws rm (k_Pre Γ As g sz) (k_Ql Γ r g' sz) rm.cells rm.slots (k_A Γ sz)
def k_CD (Γ : k_Pm) (l : Launch) (y : MethodName) (ws : List Cond) (rm : Room) (As : List Value) (g : Gt) (r : UInt64) (g' : Gt) : Prop := ∀ sz, Met l y ws rm (k_Pre Γ As g sz) (k_Qd Γ r g' sz) rm.cells rm.slots (k_A Γ sz)
def k_CV (Γ : k_Pm) (l : Launch) (y : MethodName) (ws : List Cond) (rm : Room) (As : List Value) (g : Gt) (g' : Gt) : Prop := ∀ sz, Met l y ws rm (k_Pre Γ As g sz) (k_Qv Γ g' sz) rm.cells rm.slots (k_A Γ sz)
def k_CXI (Γ : k_Pm) (l : Launch) (y : MethodName) (ws : List Cond) (rm : Room) (As : List Value) (g : Gt) (k : Nat) (r : Int32) (g' : Gt) : Prop := ∀ sz, vx_Met l y ws rm (k_Pre Γ As g sz) (k_Qxi Γ k r g' sz) (k_X Γ k g' sz) rm.cells rm.slots (k_A Γ sz)
def k_CXV (Γ : k_Pm) (l : Launch) (y : MethodName) (ws : List Cond) (rm : Room) (As : List Value) (g : Gt) (k : Nat) (g' : Gt) : Prop := ∀ sz, vx_Met l y ws rm (k_Pre Γ As g sz) (k_Qxv Γ k g' sz) (k_X Γ k g' sz) rm.cells rm.slots (k_A Γ sz)
/-- the world, and what was written -/
def k_St (Γ : k_Pm) (A0 : Nat → Prop) (s : State) (tmp : va_W) (g : Gt) (H : Heap) (locs : List Loc) : Prop := va_P Γ.1 vwCl (k_W Γ g ++ tmp) H ∧ va_D A0 (k_W Γ g ++ tmp) ∧ va_S A0 s.heap H locs
/-- where a walk stands: the machine, the words, the facts of its start -/
def k_C (Γ : k_Pm) (A0 : Nat → Prop) (p : Program) (l : Launch) (s : State) (m : MethodId) (args : Array Value) (c : Code) (cc : ByteArray) (nL : Nat) (Ts : List Cond) (own : String) : Prop :=
  CallFix p m c cc nL s args Ts own ∧ KS Γ s ∧ (∀ q, A0 q → k_B Γ q) ∧ (∀ q, k_A Γ s.heap.size q → A0 q) ∧ l.stackTraces = false
section
variable {Γ : k_Pm} {A0 : Nat → Prop} {p : Program} {l : Launch} {e : Env} {R : Room} {s : State} {m : MethodId} {args : Array Value} {below : List Frame} {meth : Method} {c : Code} {H : Heap} {locs : List Loc} {cells slots : Nat} {Q : State → Prop}
variable {cc : ByteArray} {nL : Nat} {Ts : List Cond} {own : String} {tmp : va_W} {g : Gt} {pc : Nat} {ls : Array Slot} {rest : List Value}
theorem k_C.x (h : k_C Γ A0 p l s m args c cc nL Ts own) : p.tables.exec = Jvm.exec := h.1.1
theorem k_C.b (h : k_C Γ A0 p l s m args c cc nL Ts own) : c.code = cc := h.1.2.1
theorem k_C.n (h : k_C Γ A0 p l s m args c cc nL Ts own) : c.maxLocals = nL := h.1.2.2.1
theorem k_C.o (h : k_C Γ A0 p l s m args c cc nL Ts own) : s.vm.findClass own = some m.cls := h.1.2.2.2.1
theorem k_C.t (h : k_C Γ A0 p l s m args c cc nL Ts own) : ∀ w ∈ Ts, w.before args s = true := h.1.2.2.2.2
theorem k_C.w (h : k_C Γ A0 p l s m args c cc nL Ts own) {w : Cond} (hw : w ∈ k_ws) : va_Nw w s := h.2.1.2.1 w hw
theorem k_C.SB (h : k_C Γ A0 p l s m args c cc nL Ts own) (hw : k_St Γ A0 s tmp g H locs) : va_S (k_B Γ) s.heap H locs := k_S_weak hw.2.2 h.2.2.1
/-- a method's own start -/
theorem k_C.of (h : CallFix p m c cc nL s args Ts own) (hK : KS Γ s) (hl : l.stackTraces = false) : k_C Γ (k_A Γ s.heap.size) p l s m args c cc nL Ts own := ⟨h, hK, hK.A_B hK.2.2.2.1, fun _ h => h, hl⟩
theorem k_St.of (hK : KS Γ s) (hP : va_P Γ.1 vwCl (k_W Γ g) s.heap) : k_St Γ (k_A Γ s.heap.size) s [] g s.heap [] := ⟨k_P_nil hP, by rw [List.append_nil]; exact k_DA hK.2.2.1, va_S.rf⟩
theorem x_iald (hC : k_C Γ A0 p l s m args c cc nL Ts own) (hw : k_St Γ A0 s tmp g H locs) {t i : Nat} (hI : k_isI t = true) (hi : i < k_cnt t) {j : Int32} (hj : k_ib j (k_len t) = true) (hdg : decode cc pc = .ok (.iaload, 1))
    (kk : W p l e R s m args below meth c H locs cells slots Q (F0 m (pc + 1) ls (.int (g t i j.toNatClampNeg) :: rest))) : W p l e R s m args below meth c H locs cells slots Q (F0 m pc ls (.int j :: .ref (k_ad Γ t i) :: rest)) :=
  va_iald hC.x hC.b hC.2.1.1 hw.1 (k_off t + i) 0 (k_getI Γ g tmp hi hI) rfl (k_ib_in hj) hdg kk
theorem k_E_I {f : Nat → Int32} {t i : Nat} (hI : k_isI t = true) : k_E Γ f t i = .inl (Γ.2.1, k_len t, .inl f) := by
  have h2 : k_isA t = false ∧ 10 ≤ t := by
    unfold k_isI at hI
    simp only [Bool.and_eq_true, decide_eq_true_eq, Bool.not_eq_true'] at hI
    exact ⟨hI.2, hI.1⟩
  unfold k_E
  rw [if_neg (by omega), if_neg (by omega), if_neg (by omega), if_neg (by omega), if_neg (by omega), if_neg (by omega), if_neg (by rw [h2.1]; decide)]
theorem x_iast (hC : k_C Γ A0 p l s m args c cc nL Ts own) (hw : k_St Γ A0 s tmp g H locs) {t i : Nat} (hI : k_isI t = true) (hi : i < k_cnt t) {j x : Int32} (hj : k_ib j (k_len t) = true) (hdg : decode cc pc = .ok (.iastore, 1))
    (kk : ∀ (H1 : Heap) (locs1 : List Loc), k_St Γ A0 s tmp (k_up g t i j.toNatClampNeg x) H1 locs1 → W p l e R s m args below meth c H1 locs1 cells slots Q (F0 m (pc + 1) ls rest)) : W p l e R s m args below meth c H locs cells slots Q (F0 m pc ls (.int x :: .int j :: .ref (k_ad Γ t i) :: rest)) :=
  va_iast hC.x hC.b hC.2.1.1 hw.1 hw.2.1 hw.2.2 (k_off t + i) 0 (k_getI Γ g tmp hi hI) rfl (k_ib_in hj) hdg fun H1 locs1 h1 h2 h3 => by
    have e := k_set Γ g tmp hi (f := upd (g t i) j.toNatClampNeg x) (k_E_I (Γ := Γ) (i := i) hI).symm
    rw [e] at h1 h2
    exact kk H1 locs1 ⟨h1, h2, h3⟩
theorem x_aald (hC : k_C Γ A0 p l s m args c cc nL Ts own) (hw : k_St Γ A0 s tmp g H locs) {t i : Nat} (hA : k_isA t = true) (ht : 10 ≤ t) (hi : i < k_cnt t) {j : Int32} (hj : k_ib j (k_len t) = true) (hdg : decode cc pc = .ok (.aaload, 1))
    (kk : W p l e R s m args below meth c H locs cells slots Q (F0 m (pc + 1) ls (.ref (k_ad Γ (k_ch t) (k_ci t i j.toNatClampNeg)) :: rest))) : W p l e R s m args below meth c H locs cells slots Q (F0 m pc ls (.int j :: .ref (k_ad Γ t i) :: rest)) := by
  have hlt := k_ib_lt hj
  have hin := k_ib_in hj
  exact W.aald (v := .ref (k_ad Γ (k_ch t) (k_ci t i j.toNatClampNeg))) (ty := .array .int) hC.x hC.b (hw.1 _ _ (k_getA Γ g tmp hi hA ht)) ((hC.2.1.1.2 1 _ rfl).1 (k_len t) (fun j => va_rf (some (k_ad Γ (k_ch t) (k_ci t i j))))) rfl (fun q => by cases q) (by show ¬ (j < 0 ∨ (arrV _ _ _).slots.size ≤ _); rw [arrV_size]; exact hin) (by show (arrV _ _ _).slots[_]? = _; rw [arrV_read _ _ hlt]; rfl) rfl rfl hdg kk
theorem x_get (hC : k_C Γ A0 p l s m args c cc nL Ts own) (hw : k_St Γ A0 s tmp g H locs) {t i ci k N index : Nat} {fs : List Value} {C : String} {T : u_T} {v : Value} (hi : i < k_cnt t) (hE : k_E Γ (g t i) t i = .inr (ci, fs)) (hin : ∀ w ∈ u_ws C T N, w ∈ Ts) (hc : vwCl[ci]? = some (C, T, N)) (hk : k < N)
    (hlink : Cond.fieldLink own index C (T k).2.1 (T k).2.2.1 ∈ Ts) (hdecl : (T k).1 = C) (hv : fs[k]? = some v) (hdg : decode cc pc = .ok (.getfield index, 3))
    (kk : W p l e R s m args below meth c H locs cells slots Q (F0 m (pc + 3) ls (v :: rest))) : W p l e R s m args below meth c H locs cells slots Q (F0 m pc ls (.ref (k_ad Γ t i) :: rest)) :=
  va_get hC.x hC.b hC.t hin hC.o hC.2.1.1 hw.1 (k_off t + i) (by rw [k_get Γ g tmp hi, hE]) hc k hk (hC.t _ hlink) (by rw [hdecl]; exact fun _ h => h) hv hdg kk
theorem x_getN (hC : k_C Γ A0 p l s m args c cc nL Ts own) (hw : k_St Γ A0 s tmp g H locs) {t i ci k N index : Nat} {fs : List Value} {C host : String} {T : u_T} {v : Value} (hi : i < k_cnt t) (hE : k_E Γ (g t i) t i = .inr (ci, fs)) (hin : ∀ w ∈ u_ws C T N, w ∈ Ts) (hc : vwCl[ci]? = some (C, T, N)) (hk : k < N)
    (hlink : Cond.fieldLinkNest own index C (T k).2.1 (T k).2.2.1 host ∈ k_ws) (hdecl : (T k).1 = C) (hv : fs[k]? = some v) (hdg : decode cc pc = .ok (.getfield index, 3))
    (kk : W p l e R s m args below meth c H locs cells slots Q (F0 m (pc + 3) ls (v :: rest))) : W p l e R s m args below meth c H locs cells slots Q (F0 m pc ls (.ref (k_ad Γ t i) :: rest)) :=
  va_getN hC.x hC.b hC.t hin hC.o hC.2.1.1 hw.1 (k_off t + i) (by rw [k_get Γ g tmp hi, hE]) hc k hk (va_Nw.use rfl (hC.w hlink)) (by rw [hdecl]; exact fun _ h => h) hv hdg kk
theorem x_puti (hC : k_C Γ A0 p l s m args c cc nL Ts own) (hw : k_St Γ A0 s tmp g H locs) {t i ci k N index : Nat} {fs : List Value} {C : String} {T : u_T} {x : Int32} (hi : i < k_cnt t) (hE : k_E Γ (g t i) t i = .inr (ci, fs)) (hin : ∀ w ∈ u_ws C T N, w ∈ Ts) (hc : vwCl[ci]? = some (C, T, N)) (hk : k < N)
    (hlink : Cond.fieldLink own index C (T k).2.1 (T k).2.2.1 ∈ Ts) (hdecl : (T k).1 = C) (ty0 : Nat → FieldType) (hty : ∀ k, k < N → parseFieldDescriptor (T k).2.2.1 = some (ty0 k)) (hnm : ∀ a, a < N → ∀ b, b < N → a ≠ b → (T a).2.1 ≠ (T b).2.1) (hfin : (T k).2.2.2 = false) (hd : parseFieldDescriptor (T k).2.2.1 = some .int) (hl : k < fs.length)
    (hE2 : k_E Γ (upd (g t i) k x) t i = .inr (ci, fs.set k (.int x))) (hdg : decode cc pc = .ok (.putfield index, 3))
    (kk : ∀ (H1 : Heap) (locs1 : List Loc), k_St Γ A0 s tmp (k_up g t i k x) H1 locs1 → W p l e R s m args below meth c H1 locs1 cells slots Q (F0 m (pc + 3) ls rest)) : W p l e R s m args below meth c H locs cells slots Q (F0 m pc ls (.int x :: .ref (k_ad Γ t i) :: rest)) :=
  va_put hC.x hC.b hC.t hin ty0 hty hnm hC.o hC.2.1.1 hw.1 hw.2.1 hw.2.2 (k_off t + i) (by rw [k_get Γ g tmp hi, hE]) hc k hk (hC.t _ hlink) (by rw [hdecl]; exact fun _ h => h) hfin hd rfl rfl hl hdg fun H1 locs1 h1 h2 h3 => by
    have e := k_set Γ g tmp hi (f := upd (g t i) k x) hE2.symm
    rw [e] at h1 h2
    exact kk H1 locs1 ⟨h1, h2, h3⟩
theorem x_alen (hC : k_C Γ A0 p l s m args c cc nL Ts own) (hw : k_St Γ A0 s tmp g H locs) {t i : Nat} (hI : k_isI t = true) (hi : i < k_cnt t) {v : Int32} (hv : Int32.ofNat (k_len t) = v) (hdg : decode cc pc = .ok (.arraylength, 1))
    (kk : W p l e R s m args below meth c H locs cells slots Q (F0 m (pc + 1) ls (.int v :: rest))) : W p l e R s m args below meth c H locs cells slots Q (F0 m pc ls (.ref (k_ad Γ t i) :: rest)) :=
  va_alen hC.x hC.b hC.2.1.1 hw.1 (k_off t + i) 0 (k_getI Γ g tmp hi hI) rfl hv hdg kk
/-- TENS -/
theorem x_tens (hC : k_C Γ A0 p l s m args c cc nL Ts own) (hw : k_St Γ A0 s tmp g H locs) {index : Nat} (hlink : Cond.fieldLink own index RX5 "TENS" "[I" ∈ Ts) (hdg : decode cc pc = .ok (.getstatic index, 3))
    (kk : ∀ t, va_T .int t 4 k_tens (k_B Γ) s s.heap → W p l e R s m args below meth c H locs cells slots Q (F0 m (pc + 3) ls (.ref t :: rest))) : W p l e R s m args below meth c H locs cells slots Q (F0 m pc ls rest) := by
  obtain ⟨t, h1, h2⟩ := hC.2.1.2.2.2.2.1.1
  exact va_gets hC.x hC.b h1 (hC.SB hw) hC.o (hC.t _ hlink) (fun _ h => h) hdg (kk t h2)
def k_te (n : Nat) : Int32 := [1000, 100, 10, 1].getD n 0
theorem x_tld (hC : k_C Γ A0 p l s m args c cc nL Ts own) (hw : k_St Γ A0 s tmp g H locs) {t : Nat} (hT : va_T .int t 4 k_tens (k_B Γ) s s.heap) {j : Int32} (hj : k_ib j 4 = true) (hdg : decode cc pc = .ok (.iaload, 1))
    (kk : W p l e R s m args below meth c H locs cells slots Q (F0 m (pc + 1) ls (.int (k_te j.toNatClampNeg) :: rest))) : W p l e R s m args below meth c H locs cells slots Q (F0 m pc ls (.int j :: .ref t :: rest)) :=
  va_ti hC.x hC.b hT (hC.SB hw) (k_ib_in hj) (v := .int (k_te j.toNatClampNeg)) rfl hdg kk
/-! calls -/
theorem k_hA (hC : k_C Γ A0 p l s m args c cc nL Ts own) (hw : k_St Γ A0 s tmp g H locs) : ∀ q, k_A Γ H.size q → A0 q := fun q h => hC.2.2.2.1 q (k_A_mono hw.2.2.1 q h)
theorem k_recv (hC : k_C Γ A0 p l s m args c cc nL Ts own) (hw : k_St Γ A0 s tmp g H locs) {t i ci : Nat} {fs : List Value} {q : vw_C} (hi : i < k_cnt t) (hE : k_E Γ (g t i) t i = .inr (ci, fs)) (hc : vwCl[ci]? = some q) : ∃ cell : Cell, H[k_ad Γ t i]? = some cell ∧ cell.vm.isStatics = false ∧ s.vm.findClass q.1 = some cell.cls :=
  va_recv hC.2.1.1 hw.1 hc (q0 := k_off t + i) (by rw [k_get Γ g tmp hi, hE])
theorem k_preV (hC : k_C Γ A0 p l s m args c cc nL Ts own) (hw : k_St Γ A0 s tmp g H locs) {t i ci : Nat} {fs As : List Value} {q : vw_C} (hi : i < k_cnt t) (hE : k_E Γ (g t i) t i = .inr (ci, fs)) (hc : vwCl[ci]? = some q) : PreV s H q.1 (k_ad Γ t i) (k_Pre Γ (.ref (k_ad Γ t i) :: As) g H.size) As :=
  ⟨k_Pre_blind, k_recv hC hw hi hE hc, fun U hU hW => ⟨rfl, by rw [hU], by rw [hU]; exact k_P_left hw.1, hC.2.1.to hW (hC.SB hw) hU⟩⟩
theorem k_preS (hC : k_C Γ A0 p l s m args c cc nL Ts own) (hw : k_St Γ A0 s tmp g H locs) {As : List Value} : PreS s H (k_Pre Γ As g H.size) As :=
  ⟨k_Pre_blind, fun U hU hW => ⟨rfl, by rw [hU], by rw [hU]; exact k_P_left hw.1, hC.2.1.to hW (hC.SB hw) hU⟩⟩
theorem x_goi (hC : k_C Γ A0 p l s m args c cc nL Ts own) (hw : k_St Γ A0 s tmp g H locs) {g' : Gt} {r : Int32} {a : Array Value} {mc ms : Nat} {st0 : List Value} (hr : va_Run p l e R s m args below meth c H locs cells slots mc ms (F0 m pc ls st0) rest (k_Qi Γ r g' H.size a) (k_A Γ H.size))
    (kk : ∀ (H1 : Heap) (locs1 : List Loc), k_St Γ A0 s tmp g' H1 locs1 → W p l e R s m args below meth c H1 locs1 (cells + mc) (slots + ms) Q (F0 m (pc + 3) ls (.int r :: rest))) : W p l e R s m args below meth c H locs cells slots Q (F0 m pc ls st0) :=
  va_calli hr hw.2.2 (fun q _ h => k_hA hC hw q h) (k_hA hC hw) fun r1 u t H1 locs1 ht hvm hp hB hz hk hS => by
    obtain ⟨rfl, rfl⟩ := hp
    exact kk H1 locs1 ⟨k_join hw.1 hw.2.1 hk (ht ▸ hB), k_D hw.2.1, hS⟩
theorem x_gol (hC : k_C Γ A0 p l s m args c cc nL Ts own) (hw : k_St Γ A0 s tmp g H locs) {g' : Gt} {r : Int64} {a : Array Value} {mc ms : Nat} {st0 : List Value} (hr : va_Run p l e R s m args below meth c H locs cells slots mc ms (F0 m pc ls st0) rest (k_Ql Γ r g' H.size a) (k_A Γ H.size))
    (kk : ∀ (H1 : Heap) (locs1 : List Loc), k_St Γ A0 s tmp g' H1 locs1 → W p l e R s m args below meth c H1 locs1 (cells + mc) (slots + ms) Q (F0 m (pc + 3) ls (.long r :: rest))) : W p l e R s m args below meth c H locs cells slots Q (F0 m pc ls st0) :=
  va_calll hr hw.2.2 (fun q _ h => k_hA hC hw q h) (k_hA hC hw) fun r1 u t H1 locs1 ht hvm hp hB hz hk hS => by
    obtain ⟨rfl, rfl⟩ := hp
    exact kk H1 locs1 ⟨k_join hw.1 hw.2.1 hk (ht ▸ hB), k_D hw.2.1, hS⟩
theorem x_god (hC : k_C Γ A0 p l s m args c cc nL Ts own) (hw : k_St Γ A0 s tmp g H locs) {g' : Gt} {r : UInt64} {a : Array Value} {mc ms : Nat} {st0 : List Value} (hr : va_Run p l e R s m args below meth c H locs cells slots mc ms (F0 m pc ls st0) rest (k_Qd Γ r g' H.size a) (k_A Γ H.size))
    (kk : ∀ (H1 : Heap) (locs1 : List Loc), k_St Γ A0 s tmp g' H1 locs1 → W p l e R s m args below meth c H1 locs1 (cells + mc) (slots + ms) Q (F0 m (pc + 3) ls (.double r :: rest))) : W p l e R s m args below meth c H locs cells slots Q (F0 m pc ls st0) :=
  va_calld hr hw.2.2 (fun q _ h => k_hA hC hw q h) (k_hA hC hw) fun r1 u t H1 locs1 ht hvm hp hB hz hk hS => by
    obtain ⟨rfl, rfl⟩ := hp
    exact kk H1 locs1 ⟨k_join hw.1 hw.2.1 hk (ht ▸ hB), k_D hw.2.1, hS⟩
theorem x_gov (hC : k_C Γ A0 p l s m args c cc nL Ts own) (hw : k_St Γ A0 s tmp g H locs) {g' : Gt} {a : Array Value} {mc ms : Nat} {st0 : List Value} (hr : va_Run p l e R s m args below meth c H locs cells slots mc ms (F0 m pc ls st0) rest (k_Qv Γ g' H.size a) (k_A Γ H.size))
    (kk : ∀ (H1 : Heap) (locs1 : List Loc), k_St Γ A0 s tmp g' H1 locs1 → W p l e R s m args below meth c H1 locs1 (cells + mc) (slots + ms) Q (F0 m (pc + 3) ls (rest))) : W p l e R s m args below meth c H locs cells slots Q (F0 m pc ls st0) :=
  va_callv hr hw.2.2 (fun q _ h => k_hA hC hw q h) (k_hA hC hw) fun u t H1 locs1 ht hvm hp hB hz hk hS => by
    obtain rfl := hp
    exact kk H1 locs1 ⟨k_join hw.1 hw.2.1 hk (ht ▸ hB), k_D hw.2.1, hS⟩
theorem x_goxi (hC : k_C Γ A0 p l s m args c cc nL Ts own) (hw : k_St Γ A0 s tmp g H locs) {g' : Gt} {k : Nat} {r : Int32} {a : Array Value} {mc ms : Nat} {st0 : List Value} (hr : vx_Run p l e R s m args below meth c H locs cells slots mc ms (F0 m pc ls st0) rest (k_Qxi Γ k r g' H.size a) (k_X Γ k g' H.size) (k_A Γ H.size))
    (kx : ∀ (E : String) (ce : Cell) (q9 : Addr) (H1 : Heap) (locs1 : List Loc), k ≠ 0 → E = k_ex k → k_St Γ A0 s tmp g' H1 locs1 → H1[q9]? = some ce → ce.vm = .none → s.vm.findClass E = some ce.cls → vx_W p l e R s m args below meth c H1 locs1 (cells + mc) (slots + ms) Q (F0 m pc ls rest) q9)
    (kk : k = 0 → ∀ (H1 : Heap) (locs1 : List Loc), k_St Γ A0 s tmp g' H1 locs1 → W p l e R s m args below meth c H1 locs1 (cells + mc) (slots + ms) Q (F0 m (pc + 3) ls (.int r :: rest))) : W p l e R s m args below meth c H locs cells slots Q (F0 m pc ls st0) :=
  vx_calli hr hw.2.2 (fun q _ h => k_hA hC hw q h) (k_hA hC hw) (fun q _ h => k_hA hC hw q h)
    (fun E ce q9 u t H1 locs1 ht hvm hp hB hz hk hS h1 h2 h3 => by
      obtain ⟨hk0, rfl⟩ := hp
      exact kx E ce q9 H1 locs1 hk0 hB.1 ⟨k_join hw.1 hw.2.1 hk (ht ▸ hB.2), k_D hw.2.1, hS⟩ h1 h2 h3)
    fun r1 u t H1 locs1 ht hvm hp hB hz hk hS => by
      obtain ⟨hk0, rfl, rfl⟩ := hp
      exact kk hk0 H1 locs1 ⟨k_join hw.1 hw.2.1 hk (ht ▸ hB), k_D hw.2.1, hS⟩
theorem x_goxv (hC : k_C Γ A0 p l s m args c cc nL Ts own) (hw : k_St Γ A0 s tmp g H locs) {g' : Gt} {k : Nat} {a : Array Value} {mc ms : Nat} {st0 : List Value} (hr : vx_Run p l e R s m args below meth c H locs cells slots mc ms (F0 m pc ls st0) rest (k_Qxv Γ k g' H.size a) (k_X Γ k g' H.size) (k_A Γ H.size))
    (kx : ∀ (E : String) (ce : Cell) (q9 : Addr) (H1 : Heap) (locs1 : List Loc), k ≠ 0 → E = k_ex k → k_St Γ A0 s tmp g' H1 locs1 → H1[q9]? = some ce → ce.vm = .none → s.vm.findClass E = some ce.cls → vx_W p l e R s m args below meth c H1 locs1 (cells + mc) (slots + ms) Q (F0 m pc ls rest) q9)
    (kk : k = 0 → ∀ (H1 : Heap) (locs1 : List Loc), k_St Γ A0 s tmp g' H1 locs1 → W p l e R s m args below meth c H1 locs1 (cells + mc) (slots + ms) Q (F0 m (pc + 3) ls (rest))) : W p l e R s m args below meth c H locs cells slots Q (F0 m pc ls st0) :=
  vx_callv hr hw.2.2 (fun q _ h => k_hA hC hw q h) (k_hA hC hw) (fun q _ h => k_hA hC hw q h)
    (fun E ce q9 u t H1 locs1 ht hvm hp hB hz hk hS h1 h2 h3 => by
      obtain ⟨hk0, rfl⟩ := hp
      exact kx E ce q9 H1 locs1 hk0 hB.1 ⟨k_join hw.1 hw.2.1 hk (ht ▸ hB.2), k_D hw.2.1, hS⟩ h1 h2 h3)
    fun u t H1 locs1 ht hvm hp hB hz hk hS => by
      obtain ⟨hk0, rfl⟩ := hp
      exact kk hk0 H1 locs1 ⟨k_join hw.1 hw.2.1 hk (ht ▸ hB), k_D hw.2.1, hS⟩
/-! ends -/
theorem k_F (hw : k_St Γ (k_A Γ s.heap.size) s tmp g H locs) {t : State} (ht : t.heap = H) : va_F (k_A Γ s.heap.size) s t := hw.2.2.F ht
theorem x_iret (hC : k_C Γ (k_A Γ s.heap.size) p l s m args c cc nL Ts own) (hw : k_St Γ (k_A Γ s.heap.size) s tmp g H locs) (hr : meth.sig.returnType = some .int) (hlocks : meth.locks = false) {r : Int32} {mc ms : Nat} (hc : cells ≤ mc) (hs : slots ≤ ms) (hdg : decode cc pc = .ok (.ireturn, 1)) : W p l e R s m args below meth c H locs cells slots (MQ below (k_Qi Γ r g s.heap.size) args s mc ms (k_A Γ s.heap.size)) (F0 m pc ls [.int r]) :=
  W.widen hc hs (W.iret hC.x hC.b hr (fun t ht _ => ⟨⟨r, g, rfl, ⟨rfl, rfl⟩, by show va_P _ _ _ t.heap; rw [ht]; exact k_P_left hw.1⟩, k_F hw ht⟩) hw.2.2.2.2 hdg hlocks)
theorem x_zret (hC : k_C Γ (k_A Γ s.heap.size) p l s m args c cc nL Ts own) (hw : k_St Γ (k_A Γ s.heap.size) s tmp g H locs) (hr : meth.sig.returnType = some .boolean) (hlocks : meth.locks = false) {r : Int32} (hn : narrow .boolean (.int r) = .int r) {mc ms : Nat} (hc : cells ≤ mc) (hs : slots ≤ ms) (hdg : decode cc pc = .ok (.ireturn, 1)) : W p l e R s m args below meth c H locs cells slots (MQ below (k_Qi Γ r g s.heap.size) args s mc ms (k_A Γ s.heap.size)) (F0 m pc ls [.int r]) :=
  W.widen hc hs (W.zret hC.x hC.b hr hn (fun t ht _ => ⟨⟨r, g, rfl, ⟨rfl, rfl⟩, by show va_P _ _ _ t.heap; rw [ht]; exact k_P_left hw.1⟩, k_F hw ht⟩) hw.2.2.2.2 hdg hlocks)
theorem x_lret (hC : k_C Γ (k_A Γ s.heap.size) p l s m args c cc nL Ts own) (hw : k_St Γ (k_A Γ s.heap.size) s tmp g H locs) (hr : meth.sig.returnType = some .long) (hlocks : meth.locks = false) {r : Int64} {mc ms : Nat} (hc : cells ≤ mc) (hs : slots ≤ ms) (hdg : decode cc pc = .ok (.lreturn, 1)) : W p l e R s m args below meth c H locs cells slots (MQ below (k_Ql Γ r g s.heap.size) args s mc ms (k_A Γ s.heap.size)) (F0 m pc ls [.long r]) :=
  W.widen hc hs (W.lret hC.x hC.b hr (fun t ht _ => ⟨⟨r, g, rfl, ⟨rfl, rfl⟩, by show va_P _ _ _ t.heap; rw [ht]; exact k_P_left hw.1⟩, k_F hw ht⟩) hw.2.2.2.2 hdg hlocks)
theorem x_dret (hC : k_C Γ (k_A Γ s.heap.size) p l s m args c cc nL Ts own) (hw : k_St Γ (k_A Γ s.heap.size) s tmp g H locs) (hr : meth.sig.returnType = some .double) (hlocks : meth.locks = false) {r : UInt64} {mc ms : Nat} (hc : cells ≤ mc) (hs : slots ≤ ms) (hdg : decode cc pc = .ok (.dreturn, 1)) : W p l e R s m args below meth c H locs cells slots (MQ below (k_Qd Γ r g s.heap.size) args s mc ms (k_A Γ s.heap.size)) (F0 m pc ls [.double r]) :=
  W.widen hc hs (W.dret hC.x hC.b hr (fun t ht _ => ⟨⟨r, g, rfl, ⟨rfl, rfl⟩, by show va_P _ _ _ t.heap; rw [ht]; exact k_P_left hw.1⟩, k_F hw ht⟩) hw.2.2.2.2 hdg hlocks)
theorem x_vret (hC : k_C Γ (k_A Γ s.heap.size) p l s m args c cc nL Ts own) (hw : k_St Γ (k_A Γ s.heap.size) s tmp g H locs) (hr : meth.sig.returnType = none) (hlocks : meth.locks = false) {mc ms : Nat} (hc : cells ≤ mc) (hs : slots ≤ ms) (hdg : decode cc pc = .ok (.return_, 1)) : W p l e R s m args below meth c H locs cells slots (MQ below (k_Qv Γ g s.heap.size) args s mc ms (k_A Γ s.heap.size)) (F0 m pc ls []) :=
  W.widen hc hs (W.vret hC.x hC.b hr (fun t ht _ => ⟨⟨g, rfl, rfl, by show va_P _ _ _ t.heap; rw [ht]; exact k_P_left hw.1⟩, k_F hw ht⟩) hw.2.2.2.2 hdg hlocks)
theorem x_xiret (hC : k_C Γ (k_A Γ s.heap.size) p l s m args c cc nL Ts own) (hw : k_St Γ (k_A Γ s.heap.size) s tmp g H locs) (hr : meth.sig.returnType = some .int) (hlocks : meth.locks = false) {r : Int32} {XC : String → State → State → Prop} {mc ms : Nat} (hc : cells ≤ mc) (hs : slots ≤ ms) (hdg : decode cc pc = .ok (.ireturn, 1)) : W p l e R s m args below meth c H locs cells slots (vx_MQ below (k_Qxi Γ 0 r g s.heap.size) XC args s mc ms (k_A Γ s.heap.size)) (F0 m pc ls [.int r]) :=
  vx_ret (W.widen hc hs (W.iret hC.x hC.b hr (fun t ht _ => ⟨⟨r, g, rfl, ⟨rfl, rfl, rfl⟩, by show va_P _ _ _ t.heap; rw [ht]; exact k_P_left hw.1⟩, k_F hw ht⟩) hw.2.2.2.2 hdg hlocks))
theorem x_xvret (hC : k_C Γ (k_A Γ s.heap.size) p l s m args c cc nL Ts own) (hw : k_St Γ (k_A Γ s.heap.size) s tmp g H locs) (hr : meth.sig.returnType = none) (hlocks : meth.locks = false) {XC : String → State → State → Prop} {mc ms : Nat} (hc : cells ≤ mc) (hs : slots ≤ ms) (hdg : decode cc pc = .ok (.return_, 1)) : W p l e R s m args below meth c H locs cells slots (vx_MQ below (k_Qxv Γ 0 g s.heap.size) XC args s mc ms (k_A Γ s.heap.size)) (F0 m pc ls []) :=
  vx_ret (W.widen hc hs (W.vret hC.x hC.b hr (fun t ht _ => ⟨⟨g, rfl, ⟨rfl, rfl⟩, by show va_P _ _ _ t.heap; rw [ht]; exact k_P_left hw.1⟩, k_F hw ht⟩) hw.2.2.2.2 hdg hlocks))
/-- what a callee threw goes on to the caller -/
theorem x_out (hw : k_St Γ (k_A Γ s.heap.size) s tmp g H locs) (hout : ∀ x ∈ c.exceptionTable.toList, False) (hlocks : meth.locks = false) {E : String} {ce : Cell} {q : Addr} {k : Nat} {Qc : Array Value → State → Outcome → State → Prop} (hk : k ≠ 0) (hE : E = k_ex k) (hcell : H[q]? = some ce) (hv : ce.vm = .none) (hcl : s.vm.findClass E = some ce.cls) {mc ms : Nat} (hc : cells ≤ mc) (hs : slots ≤ ms) :
    vx_W p l e R s m args below meth c H locs cells slots (vx_MQ below Qc (k_X Γ k g s.heap.size) args s mc ms (k_A Γ s.heap.size)) (F0 m pc ls rest) q :=
  vx_out (fun x hx => (hout x hx).elim) hlocks hcell hv hcl (fun t ht _ => ⟨g, ⟨hk, rfl⟩, ⟨hE, by show va_P _ _ _ t.heap; rw [ht]; exact k_P_left hw.1⟩, k_F hw ht⟩) hw.2.2.2.2 hc hs
abbrev k_nms : List String := ["java/lang/RuntimeException", "java/lang/Exception"]
/-- 'throw new E("text")' -/
theorem x_throw (hC : k_C Γ (k_A Γ s.heap.size) p l s m args c cc nL Ts RX4) (hw : k_St Γ (k_A Γ s.heap.size) s tmp g H locs) (hout : ∀ x ∈ c.exceptionTable.toList, False) (hlocks : meth.locks = false) (hsize : ls.size = nL) {cls text : String} {ik is ic k : Nat} {Qc : Array Value → State → Outcome → State → Prop}
    (hcls : Bundle.fit cls = true) (hk : Cond.classLink RX4 ik cls ∈ Ts) (hini : Cond.initialized cls ∈ Ts) (hstr : (is, text) ∈ k_strs) (hg : ∀ w ∈ (vx_atS RX4 ic cls k_nms).filter goodWord, w ∈ Ts) (hb : ∀ w ∈ (vx_atS RX4 ic cls k_nms).filter (fun w => !goodWord w), w ∈ k_ws) (hot : ∀ w ∈ Cond.classLink RX4 ik cls :: Cond.initialized cls :: vx_atS RX4 ic cls k_nms, vx_ot w = true) (hex : cls = k_ex k) (hk0 : k ≠ 0)
    (d0 : decode cc pc = .ok (.new ik, 3)) (d3 : decode cc (pc + 3) = .ok (.dup, 1)) (d4 : decode cc (pc + 4) = .ok (.ldc is, 2)) (d6 : decode cc (pc + 6) = .ok (.invokespecial ic, 3)) (d9 : decode cc (pc + 9) = .ok (.athrow, 1))
    (hRf : 5 < R.frames) (hRl : (rest.map fun v => v.category).sum + 82 ≤ R.locals) {mc ms : Nat} (hc : cells + 1 ≤ mc) (hs : slots + 6 ≤ ms) (hRc : mc ≤ R.cells) (hRs : ms ≤ R.slots) :
    W p l e R s m args below meth c H locs cells slots (vx_MQ below Qc (k_X Γ k g s.heap.size) args s mc ms (k_A Γ s.heap.size)) (F0 m pc ls rest) := by
  obtain ⟨sa, hsa⟩ := hC.2.1.2.2.2.2.2.1 _ hstr
  obtain ⟨-, -, -, -, -, hU, hN⟩ := hC.2.1.2.2.2.2.1
  have hat : ∀ w ∈ vx_atS RX4 ic cls k_nms, w.before args s = true := vx_hat (B := k_ws) (fun w h => hC.t w (hg w h)) hb (fun w h => va_Nw.use (k_okw_tab (k_ws_ok w h)) (hC.w h))
  refine vx_throwS hC.x hC.b hC.2.2.2.2 hC.o hcls (names := k_nms) (by decide) (hC.t _ hk) (hC.t _ hini) hsa hat hot hU hN (hC.SB hw) (hsize.trans hC.n.symm) d0 d3 d4 d6 d9 (fun x hx => (hout x hx).elim) hRf hRl (Nat.le_trans hc hRc) (Nat.le_trans hs hRs) hlocks (fun t hvm hz ho => ⟨g, ⟨hk0, rfl⟩, ⟨hex, ?_⟩, Nat.le_trans hw.2.2.1 hz, fun q h1 h2 => ?_⟩) hw.2.2.2.2 hc hs
  · exact (k_P_left hw.1).kept fun k q hq => ho q.1 (k_P_left hw.1 k q hq).lt
  · rw [ho q (Nat.lt_of_lt_of_le h1 hw.2.2.1)]
    exact hw.2.2.2.1 q h1 h2
/-! the calls themselves -/
theorem x_runV (hC : k_C Γ A0 p l s m args c cc nL Ts own) (hw : k_St Γ A0 s tmp g H locs) {y : MethodName} {bytes : ByteArray} {maxL n index t i ci : Nat} {ret : Option FieldType} {ws : List Cond} {rm : Room} {Qc : Nat → Array Value → State → Outcome → State → Prop} {As fs : List Value} {q : vw_C} {C : String}
    (hM : ∀ sz, Met l y ws rm (k_Pre Γ (.ref (k_ad Γ t i) :: As) g sz) (Qc sz) rm.cells rm.slots (k_A Γ sz)) (cw : CallW R s args own C index y bytes maxL ret ws rm rm.cells rm.slots n) (hi : i < k_cnt t) (hE : k_E Γ (g t i) t i = .inr (ci, fs)) (hc : vwCl[ci]? = some q) (hq : q.1 = C) (hn : As.length = n) (hsize : ls.size = nL) (hrest : (rest.map fun v => v.category).sum ≤ 8) (hdg : decode cc pc = .ok (.invokevirtual index, 3)) (hf : cells + rm.cells ≤ R.cells ∧ slots + rm.slots ≤ R.slots) :
    va_Run p l e R s m args below meth c H locs cells slots rm.cells rm.slots (F0 m pc ls (As.reverse ++ .ref (k_ad Γ t i) :: rest)) rest (Qc H.size (Value.ref (k_ad Γ t i) :: As).toArray) (k_A Γ H.size) := by
  subst hq
  exact va_runV hC.1 (hM H.size) cw (k_preV hC hw hi hE hc) rfl hn hsize rfl (lv_room hrest) hdg hf
theorem x_runS (hC : k_C Γ A0 p l s m args c cc nL Ts own) (hw : k_St Γ A0 s tmp g H locs) {y : MethodName} {bytes : ByteArray} {maxL n index : Nat} {ret : Option FieldType} {ws : List Cond} {rm : Room} {Qc : Nat → Array Value → State → Outcome → State → Prop} {As : List Value}
    (hM : ∀ sz, Met l y ws rm (k_Pre Γ As g sz) (Qc sz) rm.cells rm.slots (k_A Γ sz)) (cw : CallB R s args own index y bytes maxL ret ws rm rm.cells rm.slots n ∧ (Cond.static y).before args s = true) (hn : As.length = n) (hsize : ls.size = nL) (hrest : (rest.map fun v => v.category).sum ≤ 8) (hdg : decode cc pc = .ok (.invokestatic index, 3)) (hf : cells + rm.cells ≤ R.cells ∧ slots + rm.slots ≤ R.slots) :
    va_Run p l e R s m args below meth c H locs cells slots rm.cells rm.slots (F0 m pc ls (As.reverse ++ rest)) rest (Qc H.size As.toArray) (k_A Γ H.size) :=
  va_runS hC.1 (hM H.size) cw (k_preS hC hw) rfl hn hsize rfl (lv_room hrest) hdg hf
theorem x_runN (hC : k_C Γ A0 p l s m args c cc nL Ts own) (hw : k_St Γ A0 s tmp g H locs) {y : MethodName} {bytes : ByteArray} {maxL n index t i ci : Nat} {ret : Option FieldType} {ws : List Cond} {rm : Room} {Qc : Nat → Array Value → State → Outcome → State → Prop} {As fs : List Value} {q : vw_C} {C host : String}
    (hM : ∀ sz, Met l y ws rm (k_Pre Γ (.ref (k_ad Γ t i) :: As) g sz) (Qc sz) rm.cells rm.slots (k_A Γ sz)) (cw : va_CN R s args own index y host bytes maxL ret ws rm rm.cells rm.slots n ∧ (Cond.instanceMethod y).before args s = true ∧ (Cond.selects C y y).before args s = true) (hi : i < k_cnt t) (hE : k_E Γ (g t i) t i = .inr (ci, fs)) (hc : vwCl[ci]? = some q) (hq : q.1 = C) (hn : As.length = n) (hsize : ls.size = nL) (hrest : (rest.map fun v => v.category).sum ≤ 8) (hdg : decode cc pc = .ok (.invokevirtual index, 3)) (hf : cells + rm.cells ≤ R.cells ∧ slots + rm.slots ≤ R.slots) :
    va_Run p l e R s m args below meth c H locs cells slots rm.cells rm.slots (F0 m pc ls (As.reverse ++ .ref (k_ad Γ t i) :: rest)) rest (Qc H.size (Value.ref (k_ad Γ t i) :: As).toArray) (k_A Γ H.size) := by
  subst hq
  exact va_runVN hC.1 (hM H.size) cw (k_preV hC hw hi hE hc) rfl hn hsize rfl (lv_room hrest) hdg hf
theorem x_runxV (hC : k_C Γ A0 p l s m args c cc nL Ts own) (hw : k_St Γ A0 s tmp g H locs) {y : MethodName} {bytes : ByteArray} {maxL n index t i ci : Nat} {ret : Option FieldType} {ws : List Cond} {rm : Room} {Qc : Nat → Array Value → State → Outcome → State → Prop} {XC : Nat → String → State → State → Prop} {As fs : List Value} {q : vw_C} {C : String}
    (hM : ∀ sz, vx_Met l y ws rm (k_Pre Γ (.ref (k_ad Γ t i) :: As) g sz) (Qc sz) (XC sz) rm.cells rm.slots (k_A Γ sz)) (cw : CallW R s args own C index y bytes maxL ret ws rm rm.cells rm.slots n) (hi : i < k_cnt t) (hE : k_E Γ (g t i) t i = .inr (ci, fs)) (hc : vwCl[ci]? = some q) (hq : q.1 = C) (hn : As.length = n) (hsize : ls.size = nL) (hrest : (rest.map fun v => v.category).sum ≤ 8) (hdg : decode cc pc = .ok (.invokevirtual index, 3)) (hf : cells + rm.cells ≤ R.cells ∧ slots + rm.slots ≤ R.slots) :
    vx_Run p l e R s m args below meth c H locs cells slots rm.cells rm.slots (F0 m pc ls (As.reverse ++ .ref (k_ad Γ t i) :: rest)) rest (Qc H.size (Value.ref (k_ad Γ t i) :: As).toArray) (XC H.size) (k_A Γ H.size) := by
  subst hq
  exact vx_runV hC.1 (hM H.size) cw (k_preV hC hw hi hE hc) rfl hn hsize rfl (lv_room hrest) hdg hf
theorem x_runxS (hC : k_C Γ A0 p l s m args c cc nL Ts own) (hw : k_St Γ A0 s tmp g H locs) {y : MethodName} {bytes : ByteArray} {maxL n index : Nat} {ret : Option FieldType} {ws : List Cond} {rm : Room} {Qc : Nat → Array Value → State → Outcome → State → Prop} {XC : Nat → String → State → State → Prop} {As : List Value}
    (hM : ∀ sz, vx_Met l y ws rm (k_Pre Γ As g sz) (Qc sz) (XC sz) rm.cells rm.slots (k_A Γ sz)) (cw : CallB R s args own index y bytes maxL ret ws rm rm.cells rm.slots n ∧ (Cond.static y).before args s = true) (hn : As.length = n) (hsize : ls.size = nL) (hrest : (rest.map fun v => v.category).sum ≤ 8) (hdg : decode cc pc = .ok (.invokestatic index, 3)) (hf : cells + rm.cells ≤ R.cells ∧ slots + rm.slots ≤ R.slots) :
    vx_Run p l e R s m args below meth c H locs cells slots rm.cells rm.slots (F0 m pc ls (As.reverse ++ rest)) rest (Qc H.size As.toArray) (XC H.size) (k_A Γ H.size) :=
  vx_runS hC.1 (hM H.size) cw (k_preS hC hw) rfl hn hsize rfl (lv_room hrest) hdg hf
/-- System.arraycopy between two rows of the world, by written numbers -/
theorem x_copy (hC : k_C Γ A0 p l s m args c cc nL Ts own) (hw : k_St Γ A0 s tmp g H locs) (hsz : ls.size = nL) {index : Nat} (w1 : Cond.methodLink own index arraycopyName ∈ Ts) (w2 : Cond.native arraycopyName ∈ Ts) (w3 : Cond.static arraycopyName ∈ Ts) (w4 : Cond.initialized "java/lang/System" ∈ Ts) {t0 i0 t1 i1 : Nat} (hI0 : k_isI t0 = true) (hI1 : k_isI t1 = true) (h0 : i0 < k_cnt t0) (h1 : i1 < k_cnt t1)
    {sp dp n : Int32} (a1 : ¬ sp < 0) (a2 : ¬ dp < 0) (a3 : ¬ n < 0) (a4 : sp.toNatClampNeg + n.toNatClampNeg ≤ k_len t0) (a5 : dp.toNatClampNeg + n.toNatClampNeg ≤ k_len t1) (hframes : 1 ≤ R.frames) (hlocals : (rest.map fun v => v.category).sum + (nativeFrameWords "java/lang/System" "arraycopy" 5 + 11) ≤ R.locals) (hdg : decode cc pc = .ok (.invokestatic index, 3))
    (kk : ∀ (H1 : Heap) (locs1 : List Loc), k_St Γ A0 s tmp (k_row g t1 i1 (va_cpy (g t0 i0) (g t1 i1) sp.toNatClampNeg dp.toNatClampNeg n.toNatClampNeg)) H1 locs1 → W p l e R s m args below meth c H1 locs1 cells slots Q (F0 m (pc + 3) ls rest)) : W p l e R s m args below meth c H locs cells slots Q (F0 m pc ls (.int n :: .int dp :: .ref (k_ad Γ t1 i1) :: .int sp :: .ref (k_ad Γ t0 i0) :: rest)) :=
  va_copyi hC.x hC.b (hC.n.trans hsz.symm) hC.o (hC.t _ w1) (hC.t _ w2) (hC.t _ w3) (hC.t _ w4) hC.2.1.1 hw.1 hw.2.1 hw.2.2 (k_off t0 + i0) (k_off t1 + i1) 0 0 (k_getI Γ g tmp h0 hI0) (k_getI Γ g tmp h1 hI1) rfl rfl rfl a1 a2 a3 a4 a5 (fun i _ => rfl) hframes hlocals hdg fun H1 locs1 b1 b2 b3 => by
    have e := k_set Γ g tmp h1 (f := va_cpy (g t0 i0) (g t1 i1) sp.toNatClampNeg dp.toNatClampNeg n.toNatClampNeg) (k_E_I (Γ := Γ) (i := i1) hI1).symm
    rw [e] at b1 b2
    exact kk H1 locs1 ⟨b1, b2, b3⟩
end
theorem k_E0 (Γ : k_Pm) (f : Nat → Int32) (i : Nat) : k_E Γ f 0 i = .inr (6, [.ref (k_ad Γ 1 0), .ref (k_ad Γ 2 0), .ref (k_ad Γ 2 1), .ref (k_ad Γ 3 0), .ref (k_ad Γ 4 0), .int (f 5), .int (f 6)]) := rfl
theorem k_E1 (Γ : k_Pm) (f : Nat → Int32) (i : Nat) : k_E Γ f 1 i = .inr (2, [.ref (k_ad Γ 10 0), .ref (k_ad Γ 11 0), .ref (k_ad Γ 12 0), .ref (k_ad Γ 13 0), .int (f 4)]) := rfl
theorem k_E2 (Γ : k_Pm) (f : Nat → Int32) (i : Nat) : k_E Γ f 2 i = .inr (3, [.ref (k_ad Γ 14 i), .ref (k_ad Γ 15 i)]) := rfl
theorem k_E3 (Γ : k_Pm) (f : Nat → Int32) (i : Nat) : k_E Γ f 3 i = .inr (5, [.ref (k_ad Γ 16 0), .ref (k_ad Γ 17 0), .ref (k_ad Γ 18 0), .int (f 3)]) := rfl
theorem k_E4 (Γ : k_Pm) (f : Nat → Int32) (i : Nat) : k_E Γ f 4 i = .inr (4, [.ref (k_ad Γ 19 0), .int (f 1)]) := rfl
theorem k_E5 (Γ : k_Pm) (f : Nat → Int32) (i : Nat) : k_E Γ f 5 i = .inr (7, [.int (f 0), .int (f 1), .int (f 2), .int (f 3), .ref (k_ad Γ 30 0), .ref (k_ad Γ 31 0), .ref (k_ad Γ 32 0), .ref (k_ad Γ 33 0), .ref (k_ad Γ 34 0), .ref (k_ad Γ 35 0), .ref (k_ad Γ 36 0), .ref (k_ad Γ 37 0), .ref (k_ad Γ 38 0), .ref (k_ad Γ 39 0), .ref (k_ad Γ 40 0), .ref (k_ad Γ 41 0)]) := rfl
theorem k_ne {x k : Int32} (h : ¬ x = k) : x.toInt ≠ k.toInt := fun q => h (Int32.toInt_inj.mp q)
theorem k_out3 {x : Int32} (h0 : ¬ x = 0) (h1 : ¬ x = 1) (h2 : ¬ x = 2) (h3 : ¬ x = 3) : x.toInt < 0 ∨ 3 < x.toInt := by
  have a0 := k_ne h0; have a1 := k_ne h1; have a2 := k_ne h2; have a3 := k_ne h3
  rw [show (0 : Int32).toInt = 0 from by decide] at a0
  rw [show (1 : Int32).toInt = 1 from by decide] at a1
  rw [show (2 : Int32).toInt = 2 from by decide] at a2
  rw [show (3 : Int32).toInt = 3 from by decide] at a3
  omega
theorem k_out6 {x : Int32} (h0 : ¬ x = 0) (h1 : ¬ x = 1) (h2 : ¬ x = 2) (h3 : ¬ x = 3) (h4 : ¬ x = 4) (h5 : ¬ x = 5) (h6 : ¬ x = 6) : x.toInt < 0 ∨ 6 < x.toInt := by
  have a := k_out3 h0 h1 h2 h3
  have a4 := k_ne h4; have a5 := k_ne h5; have a6 := k_ne h6
  rw [show (4 : Int32).toInt = 4 from by decide] at a4
  rw [show (5 : Int32).toInt = 5 from by decide] at a5
  rw [show (6 : Int32).toInt = 6 from by decide] at a6
  omega
theorem k_look01 {x : Int32} {a b d : Int} (h0 : ¬ x = 0) (h1 : ¬ x = 1) : Op.lookupswitch.offset (#[(0, a), (1, b)] : Array (Int × Int)).toList d x.toInt = d := by
  have a0 := k_ne h0; have a1 := k_ne h1
  rw [show (0 : Int32).toInt = 0 from by decide] at a0
  rw [show (1 : Int32).toInt = 1 from by decide] at a1
  show (if (0 : Int) = x.toInt then a else if (1 : Int) = x.toInt then b else d) = d
  rw [if_neg (fun q => a0 q.symm), if_neg (fun q => a1 q.symm)]
def k_isb (x : Int32) : Bool := decide (x = 0) || decide (x = 1)
theorem k_isb_n {x : Int32} (h : k_isb x = true) : narrow .boolean (.int x) = .int x := by
  unfold k_isb at h
  simp only [Bool.or_eq_true, decide_eq_true_eq] at h
  rcases h with rfl | rfl <;> rfl
def k_nn (r : UInt64) : Bool := decide (r &&& 0x7fffffffffffffff ≤ 0x7ff0000000000000)
theorem k_nn_t {r : UInt64} (h : k_nn r = true) : vf_n64 r := by
  have h1 : r &&& 0x7fffffffffffffff ≤ 0x7ff0000000000000 := by
    unfold k_nn at h
    exact of_decide_eq_true h
  exact h1
