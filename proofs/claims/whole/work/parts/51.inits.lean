abbrev fs0 : List Value := [.null, .int 0, .int 0]
theorem dv0 : ∀ j, j < 3 → defaultValue (tyX0 j) = vp_V fs0 j := fun j hj => by
  rcases (show j = 0 ∨ j = 1 ∨ j = 2 by omega) with rfl | rfl | rfl <;> rfl
theorem mi_X0 : mokI MX0_init := ⟨tg 85 (by decide +kernel) rfl, tg 4 (by decide +kernel) rfl, tg 86 (by decide +kernel) rfl, ⟨by decide, by decide, by decide +kernel⟩, by decide, rfl, rfl⟩
abbrev fs1 : List Value := [.null, .null, .null]
theorem dv1 : ∀ j, j < 3 → defaultValue (tyX1 j) = vp_V fs1 j := fun j hj => by
  rcases (show j = 0 ∨ j = 1 ∨ j = 2 by omega) with rfl | rfl | rfl <;> rfl
theorem mi_X1 : mokI MX1_init := ⟨tg 137 (by decide +kernel) rfl, tg 7 (by decide +kernel) rfl, tg 138 (by decide +kernel) rfl, ⟨by decide, by decide, by decide +kernel⟩, by decide, rfl, rfl⟩
abbrev fs2 : List Value := [.null, .null, .int 0]
theorem dv2 : ∀ j, j < 3 → defaultValue (tyX2 j) = vp_V fs2 j := fun j hj => by
  rcases (show j = 0 ∨ j = 1 ∨ j = 2 by omega) with rfl | rfl | rfl <;> rfl
theorem mi_X2 : mokI MX2_init := ⟨tg 153 (by decide +kernel) rfl, tg 8 (by decide +kernel) rfl, tg 154 (by decide +kernel) rfl, ⟨by decide, by decide, by decide +kernel⟩, by decide, rfl, rfl⟩
abbrev fs3 : List Value := [.null, .null, .int 0]
theorem dv3 : ∀ j, j < 3 → defaultValue (tyX3 j) = vp_V fs3 j := fun j hj => by
  rcases (show j = 0 ∨ j = 1 ∨ j = 2 by omega) with rfl | rfl | rfl <;> rfl
theorem mi_X3 : mokI MX3_init := ⟨tg 120 (by decide +kernel) rfl, tg 6 (by decide +kernel) rfl, tg 121 (by decide +kernel) rfl, ⟨by decide, by decide, by decide +kernel⟩, by decide, rfl, rfl⟩
abbrev fs4 : List Value := [.null, .int 0]
theorem dv4 : ∀ j, j < 2 → defaultValue (tyX4 j) = vp_V fs4 j := fun j hj => by
  rcases (show j = 0 ∨ j = 1 by omega) with rfl | rfl <;> rfl
theorem mi_X4 : mokI MX4_init := ⟨tg 105 (by decide +kernel) rfl, tg 5 (by decide +kernel) rfl, tg 106 (by decide +kernel) rfl, ⟨by decide, by decide, by decide +kernel⟩, by decide, rfl, rfl⟩
abbrev fs5 : List Value := [.int 0, .int 0, .int 0, .int 0, .int 0, .null, .null, .null]
theorem dv5 : ∀ j, j < 8 → defaultValue (tyX5 j) = vp_V fs5 j := fun j hj => by
  rcases (show j = 0 ∨ j = 1 ∨ j = 2 ∨ j = 3 ∨ j = 4 ∨ j = 5 ∨ j = 6 ∨ j = 7 by omega) with rfl | rfl | rfl | rfl | rfl | rfl | rfl | rfl <;> rfl
theorem mi_X5 : mokI MX5_init := ⟨tg 40 (by decide +kernel) rfl, tg 3 (by decide +kernel) rfl, tg 41 (by decide +kernel) rfl, ⟨by decide, by decide, by decide +kernel⟩, by decide, rfl, rfl⟩
abbrev fs6 : List Value := [.null, .int 0]
theorem dv6 : ∀ j, j < 2 → defaultValue (tyX6 j) = vp_V fs6 j := fun j hj => by
  rcases (show j = 0 ∨ j = 1 by omega) with rfl | rfl <;> rfl
theorem mi_X6 : mokI MX6_init := ⟨tg 25 (by decide +kernel) rfl, tg 2 (by decide +kernel) rfl, tg 26 (by decide +kernel) rfl, ⟨by decide, by decide, by decide +kernel⟩, by decide, rfl, rfl⟩
abbrev fs7 : List Value := [.null, .null, .null, .null, .null, .null, .null, .null, .null, .long 0]
theorem dv7 : ∀ j, j < 10 → defaultValue (tyX7 j) = vp_V fs7 j := fun j hj => by
  rcases (show j = 0 ∨ j = 1 ∨ j = 2 ∨ j = 3 ∨ j = 4 ∨ j = 5 ∨ j = 6 ∨ j = 7 ∨ j = 8 ∨ j = 9 by omega) with rfl | rfl | rfl | rfl | rfl | rfl | rfl | rfl | rfl | rfl <;> rfl
theorem mi_X7 : mokI MX7_init := ⟨tg 17 (by decide +kernel) rfl, tg 1 (by decide +kernel) rfl, tg 18 (by decide +kernel) rfl, ⟨by decide, by decide, by decide +kernel⟩, by decide, rfl, rfl⟩
abbrev fs8 : List Value := [.null, .int 0, .int 0, .int 0, .int 0, .null, .null, .null, .int 0, .int 0, .null, .null, .null, .null, .int 0, .long 0, .null, .null, .null, .int 0, .int 0, .int 0, .null, .int 0, .int 0]
theorem dv8 : ∀ j, j < 25 → defaultValue (tyX8 j) = vp_V fs8 j := fun j hj => by
  rcases (show j = 0 ∨ j = 1 ∨ j = 2 ∨ j = 3 ∨ j = 4 ∨ j = 5 ∨ j = 6 ∨ j = 7 ∨ j = 8 ∨ j = 9 ∨ j = 10 ∨ j = 11 ∨ j = 12 ∨ j = 13 ∨ j = 14 ∨ j = 15 ∨ j = 16 ∨ j = 17 ∨ j = 18 ∨ j = 19 ∨ j = 20 ∨ j = 21 ∨ j = 22 ∨ j = 23 ∨ j = 24 by omega) with rfl | rfl | rfl | rfl | rfl | rfl | rfl | rfl | rfl | rfl | rfl | rfl | rfl | rfl | rfl | rfl | rfl | rfl | rfl | rfl | rfl | rfl | rfl | rfl | rfl <;> rfl
theorem mi_X8 : mokI MX8_init := ⟨tg 609 (by decide +kernel) rfl, tg 9 (by decide +kernel) rfl, tg 610 (by decide +kernel) rfl, ⟨by decide, by decide, by decide +kernel⟩, by decide, rfl, rfl⟩
/-- a new row of ints; a new state -/
abbrev rw0 (X : Cx) (a n : Nat) : Nat × va_E := (a, .inl (X.2.2.1 0, n, .inl (fun _ => 0)))
abbrev rz0 (X : Cx) (a n : Nat) : Nat × va_E := (a, .inl (X.2.2.1 1, n, .inl (fun _ => 0)))
def st4 (X : Cx) (a a5 a6 a7 : Nat) : va_W := [(a, .inr (5, [.int 1, .int 1, .int 0, .int 1, .int 0, .ref a5, .ref a6, .ref a7])), rw0 X a5 20, rw0 X a6 20, rw0 X a7 16]
def tx2 (X : Cx) (a b : Nat) : va_W := [(a, .inr (6, [.ref b, .int 0])), rw0 X b 70]
def se3 (X : Cx) (a b c : Nat) : va_W := [(a, .inr (3, [.ref b, .ref c, .int 0])), rw0 X b 6, rw0 X c 6]
def gu4 (X : Cx) (a b c d : Nat) : va_W := [(a, .inr (1, [.ref b, .ref c, .ref d])), rw0 X b 12, rw0 X c 12, rw0 X d 12]
def ou6 (X : Cx) (a g b c d f : Nat) : va_W := (a, .inr (2, [.ref g, .ref f, .int 0])) :: (gu4 X g b c d ++ [rw0 X f 16])
def stS (X : Cx) (f g5 g6 g7 : Nat → Nat) : Nat → va_W
  | 0 => []
  | k + 1 => stS X f g5 g6 g7 k ++ st4 X (f k) (g5 k) (g6 k) (g7 k)
def rfA (f : Nat → Nat) (k : Nat) : Nat → Option Nat := fun i => if i < k then some (f i) else none
def acS (X : Cx) (a b : Nat) (f g5 g6 g7 : Nat → Nat) (k n : Nat) : va_W := (a, .inr (0, [.ref b, .int 0, .int 0])) :: (b, .inl (X.2.2.1 2, n, .inr (.inr (.inr (.inr (rfA f k)))))) :: stS X f g5 g6 g7 k
def slS (X : Cx) (a b : Nat) (f g5 g6 g7 : Nat → Nat) (k n : Nat) : va_W := (a, .inr (4, [.ref b, .int 0])) :: (b, .inl (X.2.2.1 2, n, .inr (.inr (.inr (.inr (rfA f k)))))) :: stS X f g5 g6 g7 k
theorem stS_cg {X : Cx} {f g5 g6 g7 f' g5' g6' g7' : Nat → Nat} : ∀ k, (∀ i, i < k → f' i = f i ∧ g5' i = g5 i ∧ g6' i = g6 i ∧ g7' i = g7 i) → stS X f' g5' g6' g7' k = stS X f g5 g6 g7 k
  | 0, _ => rfl
  | k + 1, h => by
    simp only [stS]
    rw [stS_cg k (fun i hi => h i (by omega)), (h k (by omega)).1, (h k (by omega)).2.1, (h k (by omega)).2.2.1, (h k (by omega)).2.2.2]
theorem stS_up {X : Cx} {f g5 g6 g7 : Nat → Nat} {k a a5 a6 a7 : Nat} : stS X (fnU f k a) (fnU g5 k a5) (fnU g6 k a6) (fnU g7 k a7) (k + 1) = stS X f g5 g6 g7 k ++ st4 X a a5 a6 a7 := by
  simp only [stS]
  rw [stS_cg (f := f) (g5 := g5) (g6 := g6) (g7 := g7) k (fun i hi => by
    unfold fnU
    rw [if_neg (by omega), if_neg (by omega), if_neg (by omega), if_neg (by omega)]
    exact ⟨rfl, rfl, rfl, rfl⟩)]
  simp only [fnU, if_true]
theorem rfA_up {f : Nat → Nat} {k a : Nat} : va_up (rfA f k) k (some a) = rfA (fnU f k a) (k + 1) := by
  funext i
  unfold va_up rfA fnU
  by_cases h : i = k
  · rw [if_pos h, if_pos (by omega), if_pos h]
  · rw [if_neg h]
    by_cases h2 : i < k
    · rw [if_pos h2, if_pos (by omega), if_neg h]
    · rw [if_neg h2, if_neg (by omega)]
theorem rfA_0 {f : Nat → Nat} : rfA f 0 = fun _ => none := by
  funext i
  exact if_neg (Nat.not_lt_zero i)
def acF (X : Cx) (a b : Nat) (f g5 g6 g7 : Nat → Nat) (n : Nat) : va_W := (a, .inr (0, [.ref b, .int 0, .int 0])) :: (b, .inl (X.2.2.1 2, n, .inr (.inr (.inr (.inr (fun i => some (f i))))))) :: stS X f g5 g6 g7 n
def slF (X : Cx) (a b : Nat) (f g5 g6 g7 : Nat → Nat) (n : Nat) : va_W := (a, .inr (4, [.ref b, .int 0])) :: (b, .inl (X.2.2.1 2, n, .inr (.inr (.inr (.inr (fun i => some (f i))))))) :: stS X f g5 g6 g7 n
theorem K_same {X : Cx} {d mc ms : Nat} {M : Mth} {A : Nat → Prop} {G : va_W → Prop} {pc : Nat} {loc : List (Nat × Value)} {stk : List Value} {ws ws' : va_W} {cu su : Nat} (h : ∀ H, va_P X.2.1 vwCl ws H → va_P X.2.1 vwCl ws' H) (h2 : va_D A ws → va_D A ws') (k : Kq X d mc ms M A G pc loc stk ws' cu su) : Kq X d mc ms M A G pc loc stk ws cu su := by
  intro p e s m args below meth c H locs ls B hA hP hD hS hl
  exact k p e s m args below meth c H locs ls B hA (h H hP) (h2 hD) hS hl
theorem rf_cell (c : ClassId) (n : Nat) (f : Nat → Nat) : vp_cell c (n, .inr (.inr (.inr (.inr (rfA f n))))) = vp_cell c (n, .inr (.inr (.inr (.inr (fun i => some (f i)))))) := by
  rw [vp_cell_q, vp_cell_q]
  unfold arrV
  congr 1
  congr 1
  funext j
  have : rfA f n j.val = some (f j.val) := if_pos j.isLt
  show va_rf (rfA f n j.val) = va_rf (some (f j.val))
  rw [this]
theorem fin_P {X : Cx} {x : Nat × va_E} {b n : Nat} {f : Nat → Nat} {rs : va_W} (H : Heap) (h : va_P X.2.1 vwCl (x :: (b, .inl (X.2.2.1 2, n, .inr (.inr (.inr (.inr (rfA f n)))))) :: rs) H) : va_P X.2.1 vwCl (x :: (b, .inl (X.2.2.1 2, n, .inr (.inr (.inr (.inr (fun i => some (f i))))))) :: rs) H := by
  intro k q hk
  match k, hk with
  | 0, hk => exact h 0 q hk
  | 1, hk =>
    cases hk
    have h1 := h 1 _ rfl
    show H[b]? = some (vp_cell _ _)
    have h2 : H[b]? = some (vp_cell (X.2.2.1 2) (n, .inr (.inr (.inr (.inr (rfA f n)))))) := h1
    rw [h2, rf_cell]
  | k + 2, hk => exact h (k + 2) q hk
theorem fin_D {A : Nat → Prop} {x : Nat × va_E} {b : Nat} {e1 e2 : va_E} {rs : va_W} (h : va_D A (x :: (b, e1) :: rs)) : va_D A (x :: (b, e2) :: rs) := by
  have key : ∀ (k : Nat) (q : Nat × va_E), (x :: (b, e2) :: rs)[k]? = some q → ∃ q', (x :: (b, e1) :: rs)[k]? = some q' ∧ q'.1 = q.1 := by
    intro k q hk
    match k, hk with
    | 0, hk => exact ⟨q, hk, rfl⟩
    | 1, hk => cases hk; exact ⟨_, rfl, rfl⟩
    | k + 2, hk => exact ⟨q, hk, rfl⟩
  refine ⟨fun i j p q hi hj e => ?_, fun k q hk => ?_⟩
  · obtain ⟨p', h1, h2⟩ := key i p hi
    obtain ⟨q', h3, h4⟩ := key j q hj
    exact h.1 i j p' q' h1 h3 (by rw [h2, h4]; exact e)
  · obtain ⟨q', h1, h2⟩ := key k q hk
    rw [← h2]
    exact h.2 k q' h1
section CT
variable {X : Cx}

theorem i_X5 : Ci X 1 3 56 MX5_init 5 fs5 (fun h0 ws => ∃ a b c, ws = st4 X h0 a b c) := by
  refine Ci.of (by decide) rfl rfl (Nat.le_of_ble_eq_true rfl) ?_
  intro h0 A
  refine K_al0 (q := 1) dX5_init_0 rfl rfl ?_
  refine K_super (q := 4) dX5_init_1 (tg 42 (by decide +kernel) rfl) (Nat.le_of_ble_eq_true rfl) rfl ?_
  refine K_al0 (q := 5) dX5_init_4 rfl rfl ?_
  refine K_iconst (v := nI 1) (q := 6) dX5_init_5 (by decide) rfl ?_
  refine K_putI (q := 9) dX5_init_6 fl_X5_9 (Nat.le_of_ble_eq_true rfl) rfl ?_
  refine K_al0 (q := 10) dX5_init_9 rfl rfl ?_
  refine K_iconst (v := nI 1) (q := 11) dX5_init_10 (by decide) rfl ?_
  refine K_putI (q := 14) dX5_init_11 fl_X5_15 (Nat.le_of_ble_eq_true rfl) rfl ?_
  refine K_al0 (q := 15) dX5_init_14 rfl rfl ?_
  refine K_iconst (v := nI 1) (q := 16) dX5_init_15 (by decide) rfl ?_
  refine K_putI (q := 19) dX5_init_16 fl_X5_18 (Nat.le_of_ble_eq_true rfl) rfl ?_
  refine K_al0 (q := 20) dX5_init_19 rfl rfl ?_
  refine K_bipush (v := nI 20) (q := 22) dX5_init_20 (by decide) rfl ?_
  refine K_newI (N := 20) (q := 24) dX5_init_22 (by decide) (by decide) (by decide) (Nat.le_of_ble_eq_true rfl) (Nat.le_of_ble_eq_true rfl) rfl (fun q0 => ?_)
  refine K_putF (kk := 5) (q := 27) (t := (.array .int)) dX5_init_24 ⟨TX5, 8, tyX5, cls5, by decide, rfl, rfl, rfl, tg 54 (by decide +kernel) rfl⟩ rfl rfl (Nat.le_of_ble_eq_true rfl) rfl ?_
  refine K_al0 (q := 28) dX5_init_27 rfl rfl ?_
  refine K_bipush (v := nI 20) (q := 30) dX5_init_28 (by decide) rfl ?_
  refine K_newI (N := 20) (q := 32) dX5_init_30 (by decide) (by decide) (by decide) (Nat.le_of_ble_eq_true rfl) (Nat.le_of_ble_eq_true rfl) rfl (fun q1 => ?_)
  refine K_putF (kk := 6) (q := 35) (t := (.array .int)) dX5_init_32 ⟨TX5, 8, tyX5, cls5, by decide, rfl, rfl, rfl, tg 58 (by decide +kernel) rfl⟩ rfl rfl (Nat.le_of_ble_eq_true rfl) rfl ?_
  refine K_al0 (q := 36) dX5_init_35 rfl rfl ?_
  refine K_bipush (v := nI 16) (q := 38) dX5_init_36 (by decide) rfl ?_
  refine K_newI (N := 16) (q := 40) dX5_init_38 (by decide) (by decide) (by decide) (Nat.le_of_ble_eq_true rfl) (Nat.le_of_ble_eq_true rfl) rfl (fun q2 => ?_)
  refine K_putF (kk := 7) (q := 43) (t := (.array .int)) dX5_init_40 ⟨TX5, 8, tyX5, cls5, by decide, rfl, rfl, rfl, tg 62 (by decide +kernel) rfl⟩ rfl rfl (Nat.le_of_ble_eq_true rfl) rfl ?_
  exact K_ret dX5_init_43 rfl rfl rfl ⟨q0, q1, q2, rfl⟩
theorem i_X6 : Ci X 1 1 70 MX6_init 6 fs6 (fun h0 ws => ∃ a, ws = tx2 X h0 a) := by
  refine Ci.of (by decide) rfl rfl (Nat.le_of_ble_eq_true rfl) ?_
  intro h0 A
  refine K_al0 (q := 1) dX6_init_0 rfl rfl ?_
  refine K_super (q := 4) dX6_init_1 (tg 27 (by decide +kernel) rfl) (Nat.le_of_ble_eq_true rfl) rfl ?_
  refine K_al0 (q := 5) dX6_init_4 rfl rfl ?_
  refine K_bipush (v := nI 70) (q := 7) dX6_init_5 (by decide) rfl ?_
  refine K_newI (N := 70) (q := 9) dX6_init_7 (by decide) (by decide) (by decide) (Nat.le_of_ble_eq_true rfl) (Nat.le_of_ble_eq_true rfl) rfl (fun q0 => ?_)
  refine K_putF (kk := 0) (q := 12) (t := (.array .int)) dX6_init_9 ⟨TX6, 2, tyX6, cls6, by decide, rfl, rfl, rfl, tg 28 (by decide +kernel) rfl⟩ rfl rfl (Nat.le_of_ble_eq_true rfl) rfl ?_
  exact K_ret dX6_init_12 rfl rfl rfl ⟨q0, rfl⟩
theorem i_X3 : Ci X 1 2 12 MX3_init 3 fs3 (fun h0 ws => ∃ a b, ws = se3 X h0 a b) := by
  refine Ci.of (by decide) rfl rfl (Nat.le_of_ble_eq_true rfl) ?_
  intro h0 A
  refine K_al0 (q := 1) dX3_init_0 rfl rfl ?_
  refine K_super (q := 4) dX3_init_1 (tg 122 (by decide +kernel) rfl) (Nat.le_of_ble_eq_true rfl) rfl ?_
  refine K_al0 (q := 5) dX3_init_4 rfl rfl ?_
  refine K_bipush (v := nI 6) (q := 7) dX3_init_5 (by decide) rfl ?_
  refine K_newI (N := 6) (q := 9) dX3_init_7 (by decide) (by decide) (by decide) (Nat.le_of_ble_eq_true rfl) (Nat.le_of_ble_eq_true rfl) rfl (fun q0 => ?_)
  refine K_putF (kk := 0) (q := 12) (t := (.array .int)) dX3_init_9 ⟨TX3, 3, tyX3, cls3, by decide, rfl, rfl, rfl, tg 123 (by decide +kernel) rfl⟩ rfl rfl (Nat.le_of_ble_eq_true rfl) rfl ?_
  refine K_al0 (q := 13) dX3_init_12 rfl rfl ?_
  refine K_bipush (v := nI 6) (q := 15) dX3_init_13 (by decide) rfl ?_
  refine K_newI (N := 6) (q := 17) dX3_init_15 (by decide) (by decide) (by decide) (Nat.le_of_ble_eq_true rfl) (Nat.le_of_ble_eq_true rfl) rfl (fun q1 => ?_)
  refine K_putF (kk := 1) (q := 20) (t := (.array .int)) dX3_init_17 ⟨TX3, 3, tyX3, cls3, by decide, rfl, rfl, rfl, tg 124 (by decide +kernel) rfl⟩ rfl rfl (Nat.le_of_ble_eq_true rfl) rfl ?_
  exact K_ret dX3_init_20 rfl rfl rfl ⟨q0, q1, rfl⟩
theorem i_X1 : Ci X 1 3 36 MX1_init 1 fs1 (fun h0 ws => ∃ a b c, ws = gu4 X h0 a b c) := by
  refine Ci.of (by decide) rfl rfl (Nat.le_of_ble_eq_true rfl) ?_
  intro h0 A
  refine K_al0 (q := 1) dX1_init_0 rfl rfl ?_
  refine K_super (q := 4) dX1_init_1 (tg 139 (by decide +kernel) rfl) (Nat.le_of_ble_eq_true rfl) rfl ?_
  refine K_al0 (q := 5) dX1_init_4 rfl rfl ?_
  refine K_bipush (v := nI 12) (q := 7) dX1_init_5 (by decide) rfl ?_
  refine K_newI (N := 12) (q := 9) dX1_init_7 (by decide) (by decide) (by decide) (Nat.le_of_ble_eq_true rfl) (Nat.le_of_ble_eq_true rfl) rfl (fun q0 => ?_)
  refine K_putF (kk := 0) (q := 12) (t := (.array .int)) dX1_init_9 ⟨TX1, 3, tyX1, cls1, by decide, rfl, rfl, rfl, tg 140 (by decide +kernel) rfl⟩ rfl rfl (Nat.le_of_ble_eq_true rfl) rfl ?_
  refine K_al0 (q := 13) dX1_init_12 rfl rfl ?_
  refine K_bipush (v := nI 12) (q := 15) dX1_init_13 (by decide) rfl ?_
  refine K_newI (N := 12) (q := 17) dX1_init_15 (by decide) (by decide) (by decide) (Nat.le_of_ble_eq_true rfl) (Nat.le_of_ble_eq_true rfl) rfl (fun q1 => ?_)
  refine K_putF (kk := 1) (q := 20) (t := (.array .int)) dX1_init_17 ⟨TX1, 3, tyX1, cls1, by decide, rfl, rfl, rfl, tg 141 (by decide +kernel) rfl⟩ rfl rfl (Nat.le_of_ble_eq_true rfl) rfl ?_
  refine K_al0 (q := 21) dX1_init_20 rfl rfl ?_
  refine K_bipush (v := nI 12) (q := 23) dX1_init_21 (by decide) rfl ?_
  refine K_newI (N := 12) (q := 25) dX1_init_23 (by decide) (by decide) (by decide) (Nat.le_of_ble_eq_true rfl) (Nat.le_of_ble_eq_true rfl) rfl (fun q2 => ?_)
  refine K_putF (kk := 2) (q := 28) (t := (.array .int)) dX1_init_25 ⟨TX1, 3, tyX1, cls1, by decide, rfl, rfl, rfl, tg 142 (by decide +kernel) rfl⟩ rfl rfl (Nat.le_of_ble_eq_true rfl) rfl ?_
  exact K_ret dX1_init_28 rfl rfl rfl ⟨q0, q1, q2, rfl⟩
theorem i_X2 : Ci X 2 5 55 MX2_init 2 fs2 (fun h0 ws => ∃ g a b c f, ws = ou6 X h0 g a b c f) := by
  refine Ci.of (by decide) rfl rfl (Nat.le_of_ble_eq_true rfl) ?_
  intro h0 A
  refine K_al0 (q := 1) dX2_init_0 rfl rfl ?_
  refine K_super (q := 4) dX2_init_1 (tg 155 (by decide +kernel) rfl) (Nat.le_of_ble_eq_true rfl) rfl ?_
  refine K_al0 (q := 5) dX2_init_4 rfl rfl ?_
  refine K_new (C := RX1) (fs := fs1) (q := 8) dX2_init_5 (tg 156 (by decide +kernel) rfl) cls1 (tg 135 (by decide +kernel) rfl) (tg 7 (by decide +kernel) rfl) dv1 (Nat.le_of_ble_eq_true rfl) (Nat.le_of_ble_eq_true rfl) rfl (fun q0 => ?_)
  refine K_dup (q := 9) dX2_init_8 rfl ?_
  refine K_call (M' := MX1_init) (q := 12) dX2_init_9 ml_X2_11 mi_X1 (Nat.le_of_ble_eq_true rfl) (Nat.le_of_ble_eq_true rfl) (Nat.le_of_ble_eq_true rfl) (Nat.le_of_ble_eq_true rfl) rfl i_X1 ?_
  rintro _ ⟨v91, v92, v93, rfl⟩
  refine K_putF (kk := 0) (q := 15) (t := (.object "TwoHalves$Guesses")) dX2_init_12 ⟨TX2, 3, tyX2, cls2, by decide, rfl, rfl, rfl, tg 158 (by decide +kernel) rfl⟩ rfl rfl (Nat.le_of_ble_eq_true rfl) rfl ?_
  refine K_al0 (q := 16) dX2_init_15 rfl rfl ?_
  refine K_bipush (v := nI 16) (q := 18) dX2_init_16 (by decide) rfl ?_
  refine K_newI (N := 16) (q := 20) dX2_init_18 (by decide) (by decide) (by decide) (Nat.le_of_ble_eq_true rfl) (Nat.le_of_ble_eq_true rfl) rfl (fun q1 => ?_)
  refine K_putF (kk := 1) (q := 23) (t := (.array .int)) dX2_init_20 ⟨TX2, 3, tyX2, cls2, by decide, rfl, rfl, rfl, tg 159 (by decide +kernel) rfl⟩ rfl rfl (Nat.le_of_ble_eq_true rfl) rfl ?_
  exact K_ret dX2_init_23 rfl rfl rfl ⟨q0, _, _, _, q1, rfl⟩
theorem l_X0 {h0 b : Nat} {A : Nat → Prop} : ∀ (j k : Nat) (f g5 g6 g7 : Nat → Nat), 14 ≤ k + j → k ≤ 14 → Kq X 2 57 910 MX0_init A (fun ws => ∃ b f g5 g6 g7, ws = acF X h0 b f g5 g6 g7 14) 15 [(1, .int (nI k)), (0, .ref h0)] [] (acS X h0 b f g5 g6 g7 k 14) (1 + 4 * k) (14 + 64 * k) := by
  intro j
  induction j with
  | zero =>
    intro k f g5 g6 g7 h1 h2
    obtain rfl : k = 14 := by omega
    refine K_il1 (q := 16) dX0_init_15 rfl rfl ?_
    refine K_bipush (v := nI 14) (q := 18) dX0_init_16 (by decide) rfl ?_
    refine K_icge (tgt := 40) (q := 21) dX0_init_18 (by decide) rfl (fun c1 => ?_) (fun c1 => ?_)
    · exact K_same (ws' := acF X h0 b f g5 g6 g7 14) (fun H h => fin_P H h) fin_D (K_ret dX0_init_40 rfl rfl rfl ⟨b, f, g5, g6, g7, rfl⟩)
    · exact absurd (by decide) c1
  | succ j ih =>
    intro k f g5 g6 g7 h1 h2
    refine K_il1 (q := 16) dX0_init_15 rfl rfl ?_
    refine K_bipush (v := nI 14) (q := 18) dX0_init_16 (by decide) rfl ?_
    refine K_icge (tgt := 40) (q := 21) dX0_init_18 (by decide) rfl (fun c1 => ?_) (fun c1 => ?_)
    · have hk : k = 14 := by
        have := (nI_leI (a := 14) (b := k) (by decide) (by omega)).mp c1
        omega
      subst hk
      exact K_same (ws' := acF X h0 b f g5 g6 g7 14) (fun H h => fin_P H h) fin_D (K_ret dX0_init_40 rfl rfl rfl ⟨b, f, g5, g6, g7, rfl⟩)
    · have hk : k < 14 := by
        rcases Nat.lt_or_ge k 14 with h | h
        · exact h
        · exact absurd (nI_le h (by omega)) c1
      refine K_al1 (q := 22) dX0_init_21 rfl rfl ?_
      refine K_getR (h0 := h0) (ci := 0) (fs := [.ref b, .int 0, .int 0]) (kk := 0) (v := .ref b) (rs := (b, .inl (X.2.2.1 2, 14, .inr (.inr (.inr (.inr (rfA f k)))))) :: stS X f g5 g6 g7 k) (q := 25) dX0_init_22 ⟨TX0, 3, tyX0, cls0, by decide, rfl, tg 91 (by decide +kernel) rfl⟩ rfl rfl ?_
      refine K_il1 (q := 26) dX0_init_25 rfl rfl ?_
      refine K_new (C := RX5) (fs := fs5) (q := 29) dX0_init_26 (tg 88 (by decide +kernel) rfl) cls5 (tg 38 (by decide +kernel) rfl) (tg 3 (by decide +kernel) rfl) dv5 (by omega) (by omega) rfl (fun q0 => ?_)
      refine K_dup (q := 30) dX0_init_29 rfl ?_
      refine K_call (M' := MX5_init) (q := 33) dX0_init_30 ml_X0_17 mi_X5 (Nat.le_of_ble_eq_true rfl) (Nat.le_of_ble_eq_true rfl) (by omega) (by omega) rfl i_X5 ?_
      rintro _ ⟨a5, a6, a7, rfl⟩
      refine K_aast (vs := [.int 1, .int 1, .int 0, .int 1, .int 0, .ref a5, .ref a6, .ref a7]) (j := 1) (qk := 2 + (stS X f g5 g6 g7 k).length) (v := q0) (q := 34) dX0_init_33 rfl ?_ (vp_in_nI hk (by decide)) rfl ?_
      · show ((((h0, .inr (0, [.ref b, .int 0, .int 0])) :: (b, .inl (X.2.2.1 2, 14, .inr (.inr (.inr (.inr (rfA f k)))))) :: stS X f g5 g6 g7 k : va_W) ++ st4 X q0 a5 a6 a7))[2 + (stS X f g5 g6 g7 k).length]? = some (q0, .inr (5, [.int 1, .int 1, .int 0, .int 1, .int 0, .ref a5, .ref a6, .ref a7]))
        rw [List.getElem?_append_right (by simp only [List.length_cons]; omega), show 2 + (stS X f g5 g6 g7 k).length - ((h0, .inr (0, [.ref b, .int 0, .int 0])) :: (b, .inl (X.2.2.1 2, 14, .inr (.inr (.inr (.inr (rfA f k)))))) :: stS X f g5 g6 g7 k : va_W).length = 0 by simp only [List.length_cons]; omega]
        rfl
      refine K_iinc1 (j := 0) (v := nI (k + 1)) (loc' := [(1, .int (nI (k + 1))), (0, .ref h0)]) (q := 37) dX0_init_34 rfl (nI_1 k) (by decide) rfl rfl ?_
      refine K_goto (q := 15) dX0_init_37 (by decide) ?_
      have e := ih (k + 1) (fnU f k q0) (fnU g5 k a5) (fnU g6 k a6) (fnU g7 k a7) (by omega) (by omega)
      unfold acS at e
      rw [stS_up, ← rfA_up] at e
      have hcl : (nI k).toNatClampNeg = k := nI_clamp (by omega)
      rw [show 1 + 4 * (k + 1) = 1 + 4 * k + 1 + 3 by omega, show 14 + 64 * (k + 1) = 14 + 64 * k + 8 + 56 by omega] at e
      rw [hcl]
      exact e
theorem i_X0 : Ci X 2 57 910 MX0_init 0 fs0 (fun h0 ws => ∃ b f g5 g6 g7, ws = acF X h0 b f g5 g6 g7 14) := by
  refine Ci.of (by decide) rfl rfl (Nat.le_of_ble_eq_true rfl) ?_
  intro h0 A
  refine K_al0 (q := 1) dX0_init_0 rfl rfl ?_
  refine K_super (q := 4) dX0_init_1 (tg 87 (by decide +kernel) rfl) (Nat.le_of_ble_eq_true rfl) rfl ?_
  refine K_al0 (q := 5) dX0_init_4 rfl rfl ?_
  refine K_bipush (v := nI 14) (q := 7) dX0_init_5 (by decide) rfl ?_
  refine K_newR (N := 14) (q := 10) dX0_init_7 (tg 88 (by decide +kernel) rfl) (by decide) (by decide) (by decide) (Nat.le_of_ble_eq_true rfl) (Nat.le_of_ble_eq_true rfl) rfl (fun b => ?_)
  refine K_putF (kk := 0) (q := 13) (t := (.array (.object "TwoHalves$State"))) dX0_init_10 ⟨TX0, 3, tyX0, cls0, by decide, rfl, rfl, rfl, tg 91 (by decide +kernel) rfl⟩ rfl rfl (Nat.le_of_ble_eq_true rfl) rfl ?_
  refine K_iconst (v := nI 0) (q := 14) dX0_init_13 (by decide) rfl ?_
  refine K_ist1 (loc' := [(1, .int (nI 0)), (0, .ref h0)]) (q := 15) dX0_init_14 (by decide) rfl rfl ?_
  have e := l_X0 (X := X) (h0 := h0) (b := b) (A := A) 14 0 (fun _ => 0) (fun _ => 0) (fun _ => 0) (fun _ => 0) (by omega) (by omega)
  unfold acS at e
  rw [rfA_0] at e
  exact e
theorem l_X4 {h0 b : Nat} {A : Nat → Prop} : ∀ (j k : Nat) (f g5 g6 g7 : Nat → Nat), 2 ≤ k + j → k ≤ 2 → Kq X 2 9 130 MX4_init A (fun ws => ∃ b f g5 g6 g7, ws = slF X h0 b f g5 g6 g7 2) 14 [(1, .int (nI k)), (0, .ref h0)] [] (slS X h0 b f g5 g6 g7 k 2) (1 + 4 * k) (2 + 64 * k) := by
  intro j
  induction j with
  | zero =>
    intro k f g5 g6 g7 h1 h2
    obtain rfl : k = 2 := by omega
    refine K_il1 (q := 15) dX4_init_14 rfl rfl ?_
    refine K_iconst (v := nI 2) (q := 16) dX4_init_15 (by decide) rfl ?_
    refine K_icge (tgt := 38) (q := 19) dX4_init_16 (by decide) rfl (fun c1 => ?_) (fun c1 => ?_)
    · exact K_same (ws' := slF X h0 b f g5 g6 g7 2) (fun H h => fin_P H h) fin_D (K_ret dX4_init_38 rfl rfl rfl ⟨b, f, g5, g6, g7, rfl⟩)
    · exact absurd (by decide) c1
  | succ j ih =>
    intro k f g5 g6 g7 h1 h2
    refine K_il1 (q := 15) dX4_init_14 rfl rfl ?_
    refine K_iconst (v := nI 2) (q := 16) dX4_init_15 (by decide) rfl ?_
    refine K_icge (tgt := 38) (q := 19) dX4_init_16 (by decide) rfl (fun c1 => ?_) (fun c1 => ?_)
    · have hk : k = 2 := by
        have := (nI_leI (a := 2) (b := k) (by decide) (by omega)).mp c1
        omega
      subst hk
      exact K_same (ws' := slF X h0 b f g5 g6 g7 2) (fun H h => fin_P H h) fin_D (K_ret dX4_init_38 rfl rfl rfl ⟨b, f, g5, g6, g7, rfl⟩)
    · have hk : k < 2 := by
        rcases Nat.lt_or_ge k 2 with h | h
        · exact h
        · exact absurd (nI_le h (by omega)) c1
      refine K_al1 (q := 20) dX4_init_19 rfl rfl ?_
      refine K_getR (h0 := h0) (ci := 4) (fs := [.ref b, .int 0]) (kk := 0) (v := .ref b) (rs := (b, .inl (X.2.2.1 2, 2, .inr (.inr (.inr (.inr (rfA f k)))))) :: stS X f g5 g6 g7 k) (q := 23) dX4_init_20 ⟨TX4, 2, tyX4, cls4, by decide, rfl, tg 110 (by decide +kernel) rfl⟩ rfl rfl ?_
      refine K_il1 (q := 24) dX4_init_23 rfl rfl ?_
      refine K_new (C := RX5) (fs := fs5) (q := 27) dX4_init_24 (tg 108 (by decide +kernel) rfl) cls5 (tg 38 (by decide +kernel) rfl) (tg 3 (by decide +kernel) rfl) dv5 (by omega) (by omega) rfl (fun q0 => ?_)
      refine K_dup (q := 28) dX4_init_27 rfl ?_
      refine K_call (M' := MX5_init) (q := 31) dX4_init_28 ml_X4_17 mi_X5 (Nat.le_of_ble_eq_true rfl) (Nat.le_of_ble_eq_true rfl) (by omega) (by omega) rfl i_X5 ?_
      rintro _ ⟨a5, a6, a7, rfl⟩
      refine K_aast (vs := [.int 1, .int 1, .int 0, .int 1, .int 0, .ref a5, .ref a6, .ref a7]) (j := 1) (qk := 2 + (stS X f g5 g6 g7 k).length) (v := q0) (q := 32) dX4_init_31 rfl ?_ (vp_in_nI hk (by decide)) rfl ?_
      · show ((((h0, .inr (4, [.ref b, .int 0])) :: (b, .inl (X.2.2.1 2, 2, .inr (.inr (.inr (.inr (rfA f k)))))) :: stS X f g5 g6 g7 k : va_W) ++ st4 X q0 a5 a6 a7))[2 + (stS X f g5 g6 g7 k).length]? = some (q0, .inr (5, [.int 1, .int 1, .int 0, .int 1, .int 0, .ref a5, .ref a6, .ref a7]))
        rw [List.getElem?_append_right (by simp only [List.length_cons]; omega), show 2 + (stS X f g5 g6 g7 k).length - ((h0, .inr (4, [.ref b, .int 0])) :: (b, .inl (X.2.2.1 2, 2, .inr (.inr (.inr (.inr (rfA f k)))))) :: stS X f g5 g6 g7 k : va_W).length = 0 by simp only [List.length_cons]; omega]
        rfl
      refine K_iinc1 (j := 0) (v := nI (k + 1)) (loc' := [(1, .int (nI (k + 1))), (0, .ref h0)]) (q := 35) dX4_init_32 rfl (nI_1 k) (by decide) rfl rfl ?_
      refine K_goto (q := 14) dX4_init_35 (by decide) ?_
      have e := ih (k + 1) (fnU f k q0) (fnU g5 k a5) (fnU g6 k a6) (fnU g7 k a7) (by omega) (by omega)
      unfold slS at e
      rw [stS_up, ← rfA_up] at e
      have hcl : (nI k).toNatClampNeg = k := nI_clamp (by omega)
      rw [show 1 + 4 * (k + 1) = 1 + 4 * k + 1 + 3 by omega, show 2 + 64 * (k + 1) = 2 + 64 * k + 8 + 56 by omega] at e
      rw [hcl]
      exact e
theorem i_X4 : Ci X 2 9 130 MX4_init 4 fs4 (fun h0 ws => ∃ b f g5 g6 g7, ws = slF X h0 b f g5 g6 g7 2) := by
  refine Ci.of (by decide) rfl rfl (Nat.le_of_ble_eq_true rfl) ?_
  intro h0 A
  refine K_al0 (q := 1) dX4_init_0 rfl rfl ?_
  refine K_super (q := 4) dX4_init_1 (tg 107 (by decide +kernel) rfl) (Nat.le_of_ble_eq_true rfl) rfl ?_
  refine K_al0 (q := 5) dX4_init_4 rfl rfl ?_
  refine K_iconst (v := nI 2) (q := 6) dX4_init_5 (by decide) rfl ?_
  refine K_newR (N := 2) (q := 9) dX4_init_6 (tg 108 (by decide +kernel) rfl) (by decide) (by decide) (by decide) (Nat.le_of_ble_eq_true rfl) (Nat.le_of_ble_eq_true rfl) rfl (fun b => ?_)
  refine K_putF (kk := 0) (q := 12) (t := (.array (.object "TwoHalves$State"))) dX4_init_9 ⟨TX4, 2, tyX4, cls4, by decide, rfl, rfl, rfl, tg 110 (by decide +kernel) rfl⟩ rfl rfl (Nat.le_of_ble_eq_true rfl) rfl ?_
  refine K_iconst (v := nI 0) (q := 13) dX4_init_12 (by decide) rfl ?_
  refine K_ist1 (loc' := [(1, .int (nI 0)), (0, .ref h0)]) (q := 14) dX4_init_13 (by decide) rfl rfl ?_
  have e := l_X4 (X := X) (h0 := h0) (b := b) (A := A) 2 0 (fun _ => 0) (fun _ => 0) (fun _ => 0) (fun _ => 0) (by omega) (by omega)
  unfold slS at e
  rw [rfA_0] at e
  exact e
/-- the whole class, made -/
def raw7 (X : Cx) (α : List Nat → Nat) : va_W := (α [], .inr (7, [.ref (α [0]), .ref (α [1]), .ref (α [2]), .ref (α [3]), .ref (α [4]), .ref (α [5]), .ref (α [6]), .ref (α [7]), .ref (α [8]), .long 0])) :: (((((((((tx2 X (α [0]) (α [0, 0])) ++ st4 X (α [1]) (α [5, 1]) (α [6, 1]) (α [7, 1])) ++ st4 X (α [2]) (α [5, 2]) (α [6, 2]) (α [7, 2])) ++ acF X (α [3]) (α [0, 3]) (fun i => α [i, 0, 3]) (fun i => α [5, i, 0, 3]) (fun i => α [6, i, 0, 3]) (fun i => α [7, i, 0, 3]) 14) ++ slF X (α [4]) (α [0, 4]) (fun i => α [i, 0, 4]) (fun i => α [5, i, 0, 4]) (fun i => α [6, i, 0, 4]) (fun i => α [7, i, 0, 4]) 2) ++ se3 X (α [5]) (α [0, 5]) (α [1, 5])) ++ gu4 X (α [6]) (α [0, 6]) (α [1, 6]) (α [2, 6])) ++ ou6 X (α [7]) (α [0, 7]) (α [0, 0, 7]) (α [1, 0, 7]) (α [2, 0, 7]) (α [1, 7])) ++ [rw0 X (α [8]) 16])
def mkA (f g5 g6 g7 F G5 G6 G7 : Nat → Nat) (c : List Nat → Nat) (p : List Nat) : Nat :=
  if p.drop 1 = [0, 3] then f (p.headD 0) else if p.drop 2 = [0, 3] then (if p.headD 0 = 5 then g5 (p.getD 1 0) else if p.headD 0 = 6 then g6 (p.getD 1 0) else g7 (p.getD 1 0))
  else if p.drop 1 = [0, 4] then F (p.headD 0) else if p.drop 2 = [0, 4] then (if p.headD 0 = 5 then G5 (p.getD 1 0) else if p.headD 0 = 6 then G6 (p.getD 1 0) else G7 (p.getD 1 0)) else c p
def lkp (l : List (List Nat × Nat)) (p : List Nat) : Nat := match l with
  | [] => 0
  | e :: l => if e.1 = p then e.2 else lkp l p
theorem i_X7 : Ci X 3 92 1373 MX7_init 7 fs7 (fun h0 ws => ∃ α, α [] = h0 ∧ ws = raw7 X α) := by
  refine Ci.of (by decide) rfl rfl (Nat.le_of_ble_eq_true rfl) ?_
  intro h0 A
  refine K_al0 (q := 1) dX7_init_0 rfl rfl ?_
  refine K_super (q := 4) dX7_init_1 (tg 19 (by decide +kernel) rfl) (Nat.le_of_ble_eq_true rfl) rfl ?_
  refine K_al0 (q := 5) dX7_init_4 rfl rfl ?_
  refine K_new (C := RX6) (fs := fs6) (q := 8) dX7_init_5 (tg 22 (by decide +kernel) rfl) cls6 (tg 23 (by decide +kernel) rfl) (tg 2 (by decide +kernel) rfl) dv6 (Nat.le_of_ble_eq_true rfl) (Nat.le_of_ble_eq_true rfl) rfl (fun q0 => ?_)
  refine K_dup (q := 9) dX7_init_8 rfl ?_
  refine K_call (M' := MX6_init) (q := 12) dX7_init_9 ml_X7_11 mi_X6 (Nat.le_of_ble_eq_true rfl) (Nat.le_of_ble_eq_true rfl) (Nat.le_of_ble_eq_true rfl) (Nat.le_of_ble_eq_true rfl) rfl i_X6 ?_
  rintro _ ⟨v91, rfl⟩
  refine K_putF (kk := 0) (q := 15) (t := (.object "TwoHalves$Text")) dX7_init_12 ⟨TX7, 10, tyX7, cls7, by decide, rfl, rfl, rfl, tg 171 (by decide +kernel) rfl⟩ rfl rfl (Nat.le_of_ble_eq_true rfl) rfl ?_
  refine K_al0 (q := 16) dX7_init_15 rfl rfl ?_
  refine K_new (C := RX5) (fs := fs5) (q := 19) dX7_init_16 (tg 37 (by decide +kernel) rfl) cls5 (tg 38 (by decide +kernel) rfl) (tg 3 (by decide +kernel) rfl) dv5 (Nat.le_of_ble_eq_true rfl) (Nat.le_of_ble_eq_true rfl) rfl (fun q1 => ?_)
  refine K_dup (q := 20) dX7_init_19 rfl ?_
  refine K_call (M' := MX5_init) (q := 23) dX7_init_20 ml_X7_18 mi_X5 (Nat.le_of_ble_eq_true rfl) (Nat.le_of_ble_eq_true rfl) (Nat.le_of_ble_eq_true rfl) (Nat.le_of_ble_eq_true rfl) rfl i_X5 ?_
  rintro _ ⟨v205, v206, v207, rfl⟩
  refine K_putF (kk := 1) (q := 26) (t := (.object "TwoHalves$State")) dX7_init_23 ⟨TX7, 10, tyX7, cls7, by decide, rfl, rfl, rfl, tg 172 (by decide +kernel) rfl⟩ rfl rfl (Nat.le_of_ble_eq_true rfl) rfl ?_
  refine K_al0 (q := 27) dX7_init_26 rfl rfl ?_
  refine K_new (C := RX5) (fs := fs5) (q := 30) dX7_init_27 (tg 37 (by decide +kernel) rfl) cls5 (tg 38 (by decide +kernel) rfl) (tg 3 (by decide +kernel) rfl) dv5 (Nat.le_of_ble_eq_true rfl) (Nat.le_of_ble_eq_true rfl) rfl (fun q2 => ?_)
  refine K_dup (q := 31) dX7_init_30 rfl ?_
  refine K_call (M' := MX5_init) (q := 34) dX7_init_31 ml_X7_18 mi_X5 (Nat.le_of_ble_eq_true rfl) (Nat.le_of_ble_eq_true rfl) (Nat.le_of_ble_eq_true rfl) (Nat.le_of_ble_eq_true rfl) rfl i_X5 ?_
  rintro _ ⟨v315, v316, v317, rfl⟩
  refine K_putF (kk := 2) (q := 37) (t := (.object "TwoHalves$State")) dX7_init_34 ⟨TX7, 10, tyX7, cls7, by decide, rfl, rfl, rfl, tg 173 (by decide +kernel) rfl⟩ rfl rfl (Nat.le_of_ble_eq_true rfl) rfl ?_
  refine K_al0 (q := 38) dX7_init_37 rfl rfl ?_
  refine K_new (C := RX0) (fs := fs0) (q := 41) dX7_init_38 (tg 82 (by decide +kernel) rfl) cls0 (tg 83 (by decide +kernel) rfl) (tg 4 (by decide +kernel) rfl) dv0 (Nat.le_of_ble_eq_true rfl) (Nat.le_of_ble_eq_true rfl) rfl (fun q3 => ?_)
  refine K_dup (q := 42) dX7_init_41 rfl ?_
  refine K_call (M' := MX0_init) (q := 45) dX7_init_42 ml_X7_28 mi_X0 (Nat.le_of_ble_eq_true rfl) (Nat.le_of_ble_eq_true rfl) (Nat.le_of_ble_eq_true rfl) (Nat.le_of_ble_eq_true rfl) rfl i_X0 ?_
  rintro _ ⟨v42b, v42f, v42g, v42h, v42i, rfl⟩
  refine K_putF (kk := 3) (q := 48) (t := (.object "TwoHalves$Acts")) dX7_init_45 ⟨TX7, 10, tyX7, cls7, by decide, rfl, rfl, rfl, tg 174 (by decide +kernel) rfl⟩ rfl rfl (Nat.le_of_ble_eq_true rfl) rfl ?_
  refine K_al0 (q := 49) dX7_init_48 rfl rfl ?_
  refine K_new (C := RX4) (fs := fs4) (q := 52) dX7_init_49 (tg 102 (by decide +kernel) rfl) cls4 (tg 103 (by decide +kernel) rfl) (tg 5 (by decide +kernel) rfl) dv4 (Nat.le_of_ble_eq_true rfl) (Nat.le_of_ble_eq_true rfl) rfl (fun q4 => ?_)
  refine K_dup (q := 53) dX7_init_52 rfl ?_
  refine K_call (M' := MX4_init) (q := 56) dX7_init_53 ml_X7_35 mi_X4 (Nat.le_of_ble_eq_true rfl) (Nat.le_of_ble_eq_true rfl) (Nat.le_of_ble_eq_true rfl) (Nat.le_of_ble_eq_true rfl) rfl i_X4 ?_
  rintro _ ⟨v53b, v53f, v53g, v53h, v53i, rfl⟩
  refine K_putF (kk := 4) (q := 59) (t := (.object "TwoHalves$Slots")) dX7_init_56 ⟨TX7, 10, tyX7, cls7, by decide, rfl, rfl, rfl, tg 175 (by decide +kernel) rfl⟩ rfl rfl (Nat.le_of_ble_eq_true rfl) rfl ?_
  refine K_al0 (q := 60) dX7_init_59 rfl rfl ?_
  refine K_new (C := RX3) (fs := fs3) (q := 63) dX7_init_60 (tg 117 (by decide +kernel) rfl) cls3 (tg 118 (by decide +kernel) rfl) (tg 6 (by decide +kernel) rfl) dv3 (Nat.le_of_ble_eq_true rfl) (Nat.le_of_ble_eq_true rfl) rfl (fun q5 => ?_)
  refine K_dup (q := 64) dX7_init_63 rfl ?_
  refine K_call (M' := MX3_init) (q := 67) dX7_init_64 ml_X7_42 mi_X3 (Nat.le_of_ble_eq_true rfl) (Nat.le_of_ble_eq_true rfl) (Nat.le_of_ble_eq_true rfl) (Nat.le_of_ble_eq_true rfl) rfl i_X3 ?_
  rintro _ ⟨v641, v642, rfl⟩
  refine K_putF (kk := 5) (q := 70) (t := (.object "TwoHalves$Seen")) dX7_init_67 ⟨TX7, 10, tyX7, cls7, by decide, rfl, rfl, rfl, tg 176 (by decide +kernel) rfl⟩ rfl rfl (Nat.le_of_ble_eq_true rfl) rfl ?_
  refine K_al0 (q := 71) dX7_init_70 rfl rfl ?_
  refine K_new (C := RX1) (fs := fs1) (q := 74) dX7_init_71 (tg 134 (by decide +kernel) rfl) cls1 (tg 135 (by decide +kernel) rfl) (tg 7 (by decide +kernel) rfl) dv1 (Nat.le_of_ble_eq_true rfl) (Nat.le_of_ble_eq_true rfl) rfl (fun q6 => ?_)
  refine K_dup (q := 75) dX7_init_74 rfl ?_
  refine K_call (M' := MX1_init) (q := 78) dX7_init_75 ml_X7_49 mi_X1 (Nat.le_of_ble_eq_true rfl) (Nat.le_of_ble_eq_true rfl) (Nat.le_of_ble_eq_true rfl) (Nat.le_of_ble_eq_true rfl) rfl i_X1 ?_
  rintro _ ⟨v751, v752, v753, rfl⟩
  refine K_putF (kk := 6) (q := 81) (t := (.object "TwoHalves$Guesses")) dX7_init_78 ⟨TX7, 10, tyX7, cls7, by decide, rfl, rfl, rfl, tg 177 (by decide +kernel) rfl⟩ rfl rfl (Nat.le_of_ble_eq_true rfl) rfl ?_
  refine K_al0 (q := 82) dX7_init_81 rfl rfl ?_
  refine K_new (C := RX2) (fs := fs2) (q := 85) dX7_init_82 (tg 150 (by decide +kernel) rfl) cls2 (tg 151 (by decide +kernel) rfl) (tg 8 (by decide +kernel) rfl) dv2 (Nat.le_of_ble_eq_true rfl) (Nat.le_of_ble_eq_true rfl) rfl (fun q7 => ?_)
  refine K_dup (q := 86) dX7_init_85 rfl ?_
  refine K_call (M' := MX2_init) (q := 89) dX7_init_86 ml_X7_56 mi_X2 (Nat.le_of_ble_eq_true rfl) (Nat.le_of_ble_eq_true rfl) (Nat.le_of_ble_eq_true rfl) (Nat.le_of_ble_eq_true rfl) rfl i_X2 ?_
  rintro _ ⟨v860, v861, v862, v863, v864, rfl⟩
  refine K_putF (kk := 7) (q := 92) (t := (.object "TwoHalves$Outcome")) dX7_init_89 ⟨TX7, 10, tyX7, cls7, by decide, rfl, rfl, rfl, tg 178 (by decide +kernel) rfl⟩ rfl rfl (Nat.le_of_ble_eq_true rfl) rfl ?_
  refine K_al0 (q := 93) dX7_init_92 rfl rfl ?_
  refine K_bipush (v := nI 16) (q := 95) dX7_init_93 (by decide) rfl ?_
  refine K_newI (N := 16) (q := 97) dX7_init_95 (by decide) (by decide) (by decide) (Nat.le_of_ble_eq_true rfl) (Nat.le_of_ble_eq_true rfl) rfl (fun q8 => ?_)
  refine K_putF (kk := 8) (q := 100) (t := (.array .int)) dX7_init_97 ⟨TX7, 10, tyX7, cls7, by decide, rfl, rfl, rfl, tg 179 (by decide +kernel) rfl⟩ rfl rfl (Nat.le_of_ble_eq_true rfl) rfl ?_
  exact K_ret dX7_init_100 rfl rfl rfl ⟨mkA v42f v42g v42h v42i v53f v53g v53h v53i (lkp [([], h0), ([0], q0), ([0, 0], v91), ([1], q1), ([5, 1], v205), ([6, 1], v206), ([7, 1], v207), ([2], q2), ([5, 2], v315), ([6, 2], v316), ([7, 2], v317), ([3], q3), ([0, 3], v42b), ([4], q4), ([0, 4], v53b), ([5], q5), ([0, 5], v641), ([1, 5], v642), ([6], q6), ([0, 6], v751), ([1, 6], v752), ([2, 6], v753), ([7], q7), ([0, 7], v860), ([0, 0, 7], v861), ([1, 0, 7], v862), ([2, 0, 7], v863), ([1, 7], v864), ([8], q8)]), rfl, rfl⟩
def raw8 (X : Cx) (α : List Nat → Nat) : va_W := [(α [], .inr (8, [.ref (α [0]), .int 0, .int 1, .int 1, .int 0, .ref (α [5]), .ref (α [6]), .ref (α [7]), .int 0, .int 0, .ref (α [10]), .ref (α [11]), .ref (α [12]), .ref (α [13]), .int 0, .long 0, .ref (α [16]), .ref (α [17]), .ref (α [18]), .int 0, .int 0, .int 0, .ref (α [22]), .int 0, .int 0])), rw0 X (α [0]) 70, (α [5], .inl (X.2.2.1 0, 38, .inl (upd (fun _ => 0) 36 1))), rw0 X (α [6]) 38, rw0 X (α [7]) 532, rw0 X (α [10]) 76, rz0 X (α [11]) 2, rw0 X (α [12]) 6, rw0 X (α [13]) 6, rw0 X (α [16]) 16, rz0 X (α [17]) 4, rw0 X (α [18]) 16, rw0 X (α [22]) 20]
theorem i_X8 : Ci X 1 12 824 MX8_init 8 fs8 (fun h0 ws => ∃ α, α [] = h0 ∧ ws = raw8 X α) := by
  refine Ci.of (by decide) rfl rfl (Nat.le_of_ble_eq_true rfl) ?_
  intro h0 A
  refine K_al0 (q := 1) dX8_init_0 rfl rfl ?_
  refine K_super (q := 4) dX8_init_1 (tg 611 (by decide +kernel) rfl) (Nat.le_of_ble_eq_true rfl) rfl ?_
  refine K_al0 (q := 5) dX8_init_4 rfl rfl ?_
  refine K_bipush (v := nI 70) (q := 7) dX8_init_5 (by decide) rfl ?_
  refine K_newI (N := 70) (q := 9) dX8_init_7 (by decide) (by decide) (by decide) (Nat.le_of_ble_eq_true rfl) (Nat.le_of_ble_eq_true rfl) rfl (fun q0 => ?_)
  refine K_putF (kk := 0) (q := 12) (t := (.array .int)) dX8_init_9 ⟨TX8, 25, tyX8, cls8, by decide, rfl, rfl, rfl, tg 612 (by decide +kernel) rfl⟩ rfl rfl (Nat.le_of_ble_eq_true rfl) rfl ?_
  refine K_al0 (q := 13) dX8_init_12 rfl rfl ?_
  refine K_bipush (v := nI 38) (q := 15) dX8_init_13 (by decide) rfl ?_
  refine K_newI (N := 38) (q := 17) dX8_init_15 (by decide) (by decide) (by decide) (Nat.le_of_ble_eq_true rfl) (Nat.le_of_ble_eq_true rfl) rfl (fun q1 => ?_)
  refine K_putF (kk := 5) (q := 20) (t := (.array .int)) dX8_init_17 ⟨TX8, 25, tyX8, cls8, by decide, rfl, rfl, rfl, tg 617 (by decide +kernel) rfl⟩ rfl rfl (Nat.le_of_ble_eq_true rfl) rfl ?_
  refine K_al0 (q := 21) dX8_init_20 rfl rfl ?_
  refine K_bipush (v := nI 38) (q := 23) dX8_init_21 (by decide) rfl ?_
  refine K_newI (N := 38) (q := 25) dX8_init_23 (by decide) (by decide) (by decide) (Nat.le_of_ble_eq_true rfl) (Nat.le_of_ble_eq_true rfl) rfl (fun q2 => ?_)
  refine K_putF (kk := 6) (q := 28) (t := (.array .int)) dX8_init_25 ⟨TX8, 25, tyX8, cls8, by decide, rfl, rfl, rfl, tg 618 (by decide +kernel) rfl⟩ rfl rfl (Nat.le_of_ble_eq_true rfl) rfl ?_
  refine K_al0 (q := 29) dX8_init_28 rfl rfl ?_
  refine K_sipush (v := nI 532) (q := 32) dX8_init_29 (by decide) rfl ?_
  refine K_newI (N := 532) (q := 34) dX8_init_32 (by decide) (by decide) (by decide) (Nat.le_of_ble_eq_true rfl) (Nat.le_of_ble_eq_true rfl) rfl (fun q3 => ?_)
  refine K_putF (kk := 7) (q := 37) (t := (.array .int)) dX8_init_34 ⟨TX8, 25, tyX8, cls8, by decide, rfl, rfl, rfl, tg 619 (by decide +kernel) rfl⟩ rfl rfl (Nat.le_of_ble_eq_true rfl) rfl ?_
  refine K_al0 (q := 38) dX8_init_37 rfl rfl ?_
  refine K_bipush (v := nI 76) (q := 40) dX8_init_38 (by decide) rfl ?_
  refine K_newI (N := 76) (q := 42) dX8_init_40 (by decide) (by decide) (by decide) (Nat.le_of_ble_eq_true rfl) (Nat.le_of_ble_eq_true rfl) rfl (fun q4 => ?_)
  refine K_putF (kk := 10) (q := 45) (t := (.array .int)) dX8_init_42 ⟨TX8, 25, tyX8, cls8, by decide, rfl, rfl, rfl, tg 622 (by decide +kernel) rfl⟩ rfl rfl (Nat.le_of_ble_eq_true rfl) rfl ?_
  refine K_al0 (q := 46) dX8_init_45 rfl rfl ?_
  refine K_iconst (v := nI 2) (q := 47) dX8_init_46 (by decide) rfl ?_
  refine K_newZ (N := 2) (q := 49) dX8_init_47 (by decide) (by decide) (by decide) (Nat.le_of_ble_eq_true rfl) (Nat.le_of_ble_eq_true rfl) rfl (fun q5 => ?_)
  refine K_putF (kk := 11) (q := 52) (t := (.array .boolean)) dX8_init_49 ⟨TX8, 25, tyX8, cls8, by decide, rfl, rfl, rfl, tg 623 (by decide +kernel) rfl⟩ rfl rfl (Nat.le_of_ble_eq_true rfl) rfl ?_
  refine K_al0 (q := 53) dX8_init_52 rfl rfl ?_
  refine K_bipush (v := nI 6) (q := 55) dX8_init_53 (by decide) rfl ?_
  refine K_newI (N := 6) (q := 57) dX8_init_55 (by decide) (by decide) (by decide) (Nat.le_of_ble_eq_true rfl) (Nat.le_of_ble_eq_true rfl) rfl (fun q6 => ?_)
  refine K_putF (kk := 12) (q := 60) (t := (.array .int)) dX8_init_57 ⟨TX8, 25, tyX8, cls8, by decide, rfl, rfl, rfl, tg 624 (by decide +kernel) rfl⟩ rfl rfl (Nat.le_of_ble_eq_true rfl) rfl ?_
  refine K_al0 (q := 61) dX8_init_60 rfl rfl ?_
  refine K_bipush (v := nI 6) (q := 63) dX8_init_61 (by decide) rfl ?_
  refine K_newI (N := 6) (q := 65) dX8_init_63 (by decide) (by decide) (by decide) (Nat.le_of_ble_eq_true rfl) (Nat.le_of_ble_eq_true rfl) rfl (fun q7 => ?_)
  refine K_putF (kk := 13) (q := 68) (t := (.array .int)) dX8_init_65 ⟨TX8, 25, tyX8, cls8, by decide, rfl, rfl, rfl, tg 625 (by decide +kernel) rfl⟩ rfl rfl (Nat.le_of_ble_eq_true rfl) rfl ?_
  refine K_al0 (q := 69) dX8_init_68 rfl rfl ?_
  refine K_bipush (v := nI 16) (q := 71) dX8_init_69 (by decide) rfl ?_
  refine K_newI (N := 16) (q := 73) dX8_init_71 (by decide) (by decide) (by decide) (Nat.le_of_ble_eq_true rfl) (Nat.le_of_ble_eq_true rfl) rfl (fun q8 => ?_)
  refine K_putF (kk := 16) (q := 76) (t := (.array .int)) dX8_init_73 ⟨TX8, 25, tyX8, cls8, by decide, rfl, rfl, rfl, tg 628 (by decide +kernel) rfl⟩ rfl rfl (Nat.le_of_ble_eq_true rfl) rfl ?_
  refine K_al0 (q := 77) dX8_init_76 rfl rfl ?_
  refine K_iconst (v := nI 4) (q := 78) dX8_init_77 (by decide) rfl ?_
  refine K_newZ (N := 4) (q := 80) dX8_init_78 (by decide) (by decide) (by decide) (Nat.le_of_ble_eq_true rfl) (Nat.le_of_ble_eq_true rfl) rfl (fun q9 => ?_)
  refine K_putF (kk := 17) (q := 83) (t := (.array .boolean)) dX8_init_80 ⟨TX8, 25, tyX8, cls8, by decide, rfl, rfl, rfl, tg 629 (by decide +kernel) rfl⟩ rfl rfl (Nat.le_of_ble_eq_true rfl) rfl ?_
  refine K_al0 (q := 84) dX8_init_83 rfl rfl ?_
  refine K_bipush (v := nI 16) (q := 86) dX8_init_84 (by decide) rfl ?_
  refine K_newI (N := 16) (q := 88) dX8_init_86 (by decide) (by decide) (by decide) (Nat.le_of_ble_eq_true rfl) (Nat.le_of_ble_eq_true rfl) rfl (fun q10 => ?_)
  refine K_putF (kk := 18) (q := 91) (t := (.array .int)) dX8_init_88 ⟨TX8, 25, tyX8, cls8, by decide, rfl, rfl, rfl, tg 630 (by decide +kernel) rfl⟩ rfl rfl (Nat.le_of_ble_eq_true rfl) rfl ?_
  refine K_al0 (q := 92) dX8_init_91 rfl rfl ?_
  refine K_bipush (v := nI 20) (q := 94) dX8_init_92 (by decide) rfl ?_
  refine K_newI (N := 20) (q := 96) dX8_init_94 (by decide) (by decide) (by decide) (Nat.le_of_ble_eq_true rfl) (Nat.le_of_ble_eq_true rfl) rfl (fun q11 => ?_)
  refine K_putF (kk := 22) (q := 99) (t := (.array .int)) dX8_init_96 ⟨TX8, 25, tyX8, cls8, by decide, rfl, rfl, rfl, tg 634 (by decide +kernel) rfl⟩ rfl rfl (Nat.le_of_ble_eq_true rfl) rfl ?_
  refine K_al0 (q := 100) dX8_init_99 rfl rfl ?_
  refine K_iconst (v := nI 1) (q := 101) dX8_init_100 (by decide) rfl ?_
  refine K_putI (q := 104) dX8_init_101 fl_X8_47 (Nat.le_of_ble_eq_true rfl) rfl ?_
  refine K_al0 (q := 105) dX8_init_104 rfl rfl ?_
  refine K_iconst (v := nI 1) (q := 106) dX8_init_105 (by decide) rfl ?_
  refine K_putI (q := 109) dX8_init_106 fl_X8_51 (Nat.le_of_ble_eq_true rfl) rfl ?_
  refine K_al0 (q := 110) dX8_init_109 rfl rfl ?_
  refine K_getR (kk := 5) (v := .ref q1) (q := 113) dX8_init_110 ⟨TX8, 25, tyX8, cls8, by decide, rfl, tg 617 (by decide +kernel) rfl⟩ rfl rfl ?_
  refine K_bipush (v := nI 36) (q := 115) dX8_init_113 (by decide) rfl ?_
  refine K_iconst (v := nI 1) (q := 116) dX8_init_115 (by decide) rfl ?_
  refine K_iast (j := 2) (n := 38) (f := fun _ => 0) (q := 117) dX8_init_116 rfl (vp_in_nI (by decide) (by decide)) rfl ?_
  exact K_ret dX8_init_117 rfl rfl rfl ⟨lkp [([], h0), ([0], q0), ([5], q1), ([6], q2), ([7], q3), ([10], q4), ([11], q5), ([12], q6), ([13], q7), ([16], q8), ([17], q9), ([18], q10), ([22], q11)], rfl, rfl⟩
end CT