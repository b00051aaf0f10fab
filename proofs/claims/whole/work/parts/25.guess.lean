/-! guesses -/
def cH (f : Nat → Nat) (i n : Nat) : Nat := ct (fun s => f s == i) n
def sH (f : Nat → Nat) (i n : Nat) : Nat := sm (fun s => if f s == i then s else 0) n
def nrN (c s : Nat) : Nat := (2 * s + c - 1) / (2 * c)
def nrI (c s : Nat) : Int32 := if c = 0 then -9 else nI (nrN c s)
def gN (f : Nat → Nat) (i n : Nat) : Nat := nrN (cH f i n) (sH f i n)
def gI (f : Nat → Nat) (i n : Nat) : Int32 := nrI (cH f i n) (sH f i n)
def sd (f : Nat → Nat) (n : Nat) : Nat := sm (fun s => sq s (gN f (f s) n)) n
theorem sH_le (f : Nat → Nat) (i : Nat) (m : Nat) : ∀ n, n ≤ m + 1 → sH f i n ≤ m * cH f i n
  | 0, _ => by simp [sH, cH, sm, ct]
  | n + 1, h => by
    have h1 := sH_le f i m n (by omega)
    simp only [sH, cH, sm, ct] at h1 ⊢
    by_cases hf : (f n == i) = true
    · rw [if_pos hf, if_pos hf, Nat.mul_add]
      omega
    · rw [if_neg hf, if_neg hf]
      omega
theorem cH_pos {f : Nat → Nat} {i : Nat} : ∀ {n k : Nat}, k < n → f k = i → 0 < cH f i n
  | 0, k, h, _ => absurd h (Nat.not_lt_zero k)
  | n + 1, k, h, e => by
    simp only [cH, ct]
    rcases Nat.lt_or_ge k n with h2 | h2
    · have := cH_pos h2 e
      simp only [cH] at this
      omega
    · obtain rfl : k = n := by omega
      rw [if_pos (by simpa using e)]
      omega
theorem cH_le (f : Nat → Nat) (i n : Nat) : cH f i n ≤ n := ct_le _ n
theorem sH_bd (f : Nat → Nat) (i n : Nat) (h : n ≤ 20) : sH f i n ≤ 380 := by
  have h1 := sH_le f i 19 n (by omega)
  have h2 := cH_le f i n
  have h3 : 19 * cH f i n ≤ 19 * 20 := Nat.mul_le_mul_left 19 (by omega)
  omega
theorem nrN_le {c s m : Nat} (hc : 0 < c) (h : s ≤ m * c) : nrN c s ≤ m := by
  unfold nrN
  apply Nat.le_of_lt_succ
  rw [Nat.div_lt_iff_lt_mul (by omega)]
  have : m.succ * (2 * c) = 2 * (m * c) + 2 * c := by
    rw [Nat.succ_mul, Nat.mul_left_comm]
  omega
theorem gN_le {f : Nat → Nat} {i n : Nat} (h : 0 < cH f i n) : gN f i n ≤ n - 1 := nrN_le h (sH_le f i (n - 1) n (by omega))
theorem gI_eq {f : Nat → Nat} {i n : Nat} (h : 0 < cH f i n) : gI f i n = nI (gN f i n) := if_neg (by omega)
/-- of all twelve rows and columns: how many, and their sum, among the first k shades -/
def cc (S : Pic) (k j : Nat) : Nat := if j < 6 then cH (pro S) j k else cH (pco S) (j - 6) k
def ss (S : Pic) (k j : Nat) : Nat := if j < 6 then sH (pro S) j k else sH (pco S) (j - 6) k
abbrev FG (g : List Nat) : List (List Nat) := [0 :: g, 1 :: g, 2 :: g]
/-- what the guesses' cells hold of a state -/
def GuA (w : Wd) (g : List Nat) (S : Pic) : Prop := (∀ i, i < 6 → w.1 (2 :: g) i = gI (pro S) i (pN S)) ∧ ∀ i, i < 6 → w.1 (2 :: g) (6 + i) = gI (pco S) i (pN S)
/-- the row of a shade, or its column -/
def hf (S : Pic) (h : Nat) : Nat → Nat := if h = 0 then pro S else pco S
theorem cH_s (f : Nat → Nat) (i n : Nat) : cH f i (n + 1) = cH f i n + (if f n = i then 1 else 0) := by
  simp only [cH, ct]
  by_cases h : f n = i
  · rw [if_pos h, if_pos (by simpa using h)]
  · rw [if_neg h, if_neg (by simpa using h)]
theorem sH_s (f : Nat → Nat) (i n : Nat) : sH f i (n + 1) = sH f i n + (if f n = i then n else 0) := by
  simp only [sH, sm]
  by_cases h : f n = i
  · rw [if_pos h, if_pos (by simpa using h)]
  · rw [if_neg h, if_neg (by simpa using h)]
theorem cc_s {S : Pic} {k j : Nat} (hr : pro S k < 6) (hj : j < 12) : cc S (k + 1) j = cc S k j + (if j = pro S k then 1 else 0) + (if j = 6 + pco S k then 1 else 0) := by
  unfold cc
  by_cases h : j < 6
  · rw [if_pos h, if_pos h, cH_s, if_neg (show ¬ j = 6 + pco S k by omega)]
    by_cases h2 : pro S k = j
    · rw [if_pos h2, if_pos h2.symm]
    · rw [if_neg h2, if_neg (fun h3 => h2 h3.symm)]
  · rw [if_neg h, if_neg h, cH_s, if_neg (show ¬ j = pro S k by omega)]
    by_cases h2 : pco S k = j - 6
    · rw [if_pos h2, if_pos (show j = 6 + pco S k by omega)]
    · rw [if_neg h2, if_neg (show ¬ j = 6 + pco S k by omega)]
theorem ss_s {S : Pic} {k j : Nat} (hr : pro S k < 6) (hj : j < 12) : ss S (k + 1) j = ss S k j + (if j = pro S k then k else 0) + (if j = 6 + pco S k then k else 0) := by
  unfold ss
  by_cases h : j < 6
  · rw [if_pos h, if_pos h, sH_s, if_neg (show ¬ j = 6 + pco S k by omega)]
    by_cases h2 : pro S k = j
    · rw [if_pos h2, if_pos h2.symm]
      omega
    · rw [if_neg h2, if_neg (fun h3 => h2 h3.symm)]
  · rw [if_neg h, if_neg h, sH_s, if_neg (show ¬ j = pro S k by omega)]
    by_cases h2 : pco S k = j - 6
    · rw [if_pos h2, if_pos (show j = 6 + pco S k by omega)]
      omega
    · rw [if_neg h2, if_neg (show ¬ j = 6 + pco S k by omega)]
section GU
variable {X : Cx} {d : Nat} {p g : List Nat} {w : Wd}
theorem c_square {x : Int32} : Ct X 0 d MX7_square [vI x] w (qI fun y w' => y = x * x ∧ w' = w) := by
  refine Ct.of (by decide) rfl (Nat.le_of_ble_eq_true rfl) ?_
  show Wq _ _ _ _ 0 [(0, _)] [] _ _
  refine R_iload_n (i := 0) (q := 1) dX7_square_0 rfl rfl rfl ?_
  refine R_iload_n (i := 0) (q := 2) dX7_square_1 rfl rfl rfl ?_
  refine R_imul (q := 3) dX7_square_2 rfl ?_
  refine R_ri dX7_square_3 rfl ?_
  exact ⟨rfl, rfl⟩
theorem c_of {h j : Nat} (hh : h < 2) (hj : j < 6) : Ct X 0 d MX1_of [vR 1 0 g, vI (nI h), vI (nI j)] w (qI fun y w' => y = w.1 (2 :: g) (h * 6 + j) ∧ w' = w) := by
  refine Ct.of (by decide) rfl (Nat.le_of_ble_eq_true rfl) ?_
  show Wq _ _ _ _ 0 [(0, _), (1, _), (2, _)] [] _ _
  refine R_aload_n (i := 0) (q := 1) dX1_of_0 rfl rfl rfl ?_
  refine R_getR (q := 4) dX1_of_1 fl_X1_18 rfl (by decide) rfl ?_
  refine R_iload_n (i := 1) (q := 5) dX1_of_4 rfl rfl rfl ?_
  refine R_bipush (v := nI 6) (q := 7) dX1_of_5 (by decide) rfl ?_
  first | refine R_imulN (q := 8) dX1_of_7 rfl ?_ | refine R_imul (q := 8) dX1_of_7 rfl ?_
  refine R_iload_n (i := 2) (q := 9) dX1_of_8 rfl rfl rfl ?_
  first | refine R_iaddN (q := 10) dX1_of_9 rfl ?_ | refine R_iadd (q := 10) dX1_of_9 rfl ?_
  refine R_iald (q := 11) dX1_of_10 (rfl) (by omega) (by decide) rfl ?_
  refine R_ri dX1_of_11 rfl ?_
  exact ⟨rfl, rfl⟩
theorem c_nearest {a b : Nat} (ha : a ≤ 20) (hb : b ≤ 380) : Ct X 0 d MX1_nearest [vI (nI a), vI (nI b)] w (qI fun y w' => y = nrI a b ∧ w' = w) := by
  refine Ct.of (by decide) rfl (Nat.le_of_ble_eq_true rfl) ?_
  show Wq _ _ _ _ 0 [(0, _), (1, _)] [] _ _
  refine R_iload_n (i := 0) (q := 1) dX1_nearest_0 rfl rfl rfl ?_
  refine R_if_neN (by omega) (tgt := 9) (q := 4) dX1_nearest_1 (by decide) rfl (fun c1 => ?_) (fun c1 => ?_)
  · refine R_iconst (v := nI 2) (q := 10) dX1_nearest_9 (by decide) rfl ?_
    refine R_iload_n (i := 1) (q := 11) dX1_nearest_10 rfl rfl rfl ?_
    first | refine R_imulN (q := 12) dX1_nearest_11 rfl ?_ | refine R_imul (q := 12) dX1_nearest_11 rfl ?_
    refine R_iload_n (i := 0) (q := 13) dX1_nearest_12 rfl rfl rfl ?_
    first | refine R_iaddN (q := 14) dX1_nearest_13 rfl ?_ | refine R_iadd (q := 14) dX1_nearest_13 rfl ?_
    refine R_iconst (v := nI 1) (q := 15) dX1_nearest_14 (by decide) rfl ?_
    refine R_isubN (by omega) (q := 16) dX1_nearest_15 rfl ?_
    refine R_iconst (v := nI 2) (q := 17) dX1_nearest_16 (by decide) rfl ?_
    refine R_iload_n (i := 0) (q := 18) dX1_nearest_17 rfl rfl rfl ?_
    first | refine R_imulN (q := 19) dX1_nearest_18 rfl ?_ | refine R_imul (q := 19) dX1_nearest_18 rfl ?_
    refine R_idivN (by omega) (by omega) (by omega) (q := 20) dX1_nearest_19 rfl ?_
    refine R_ri dX1_nearest_20 rfl ?_
    exact ⟨(if_neg c1).symm, rfl⟩
  · refine R_bipush (v := (-9)) (q := 6) dX1_nearest_4 (by decide) rfl ?_
    refine R_goto (q := 20) dX1_nearest_6 (by decide) ?_
    refine R_ri dX1_nearest_20 rfl ?_
    exact ⟨(if_pos c1).symm, rfl⟩
theorem c_count {i s : Nat} (hi : i < 12) : Ct X 0 d MX1_count [vR 1 0 g, vI (nI i), vI (nI s)] w (qV fun w' => (∀ j, w'.1 (0 :: g) j = w.1 (0 :: g) j + (if j = i then 1 else 0)) ∧ (∀ j, w'.1 (1 :: g) j = w.1 (1 :: g) j + (if j = i then nI s else 0)) ∧ Fr [0 :: g, 1 :: g] w w') := by
  refine Ct.of (by decide) rfl (Nat.le_of_ble_eq_true rfl) ?_
  show Wq _ _ _ _ 0 [(0, _), (1, _), (2, _)] [] _ _
  refine R_aload_n (i := 0) (q := 1) dX1_count_0 rfl rfl rfl ?_
  refine R_getR (q := 4) dX1_count_1 fl_X1_9 rfl (by decide) rfl ?_
  refine R_iload_n (i := 1) (q := 5) dX1_count_4 rfl rfl rfl ?_
  refine R_dup2 (q := 6) dX1_count_5 rfl rfl rfl ?_
  refine R_iald (q := 7) dX1_count_6 (rfl) (by omega) (by decide) rfl ?_
  refine R_iconst (v := nI 1) (q := 8) dX1_count_7 (by decide) rfl ?_
  first | refine R_iaddN (q := 9) dX1_count_8 rfl ?_ | refine R_iadd (q := 9) dX1_count_8 rfl ?_
  refine R_iast (q := 10) dX1_count_9 (rfl) (by omega) (by decide) rfl ?_
  refine R_aload_n (i := 0) (q := 11) dX1_count_10 rfl rfl rfl ?_
  refine R_getR (q := 14) dX1_count_11 fl_X1_15 rfl (by decide) rfl ?_
  refine R_iload_n (i := 1) (q := 15) dX1_count_14 rfl rfl rfl ?_
  refine R_dup2 (q := 16) dX1_count_15 rfl rfl rfl ?_
  refine R_iald (q := 17) dX1_count_16 (rfl) (by omega) (by decide) rfl ?_
  refine R_iload_n (i := 2) (q := 18) dX1_count_17 rfl rfl rfl ?_
  first | refine R_iaddN (q := 19) dX1_count_18 rfl ?_ | refine R_iadd (q := 19) dX1_count_18 rfl ?_
  refine R_iast (q := 20) dX1_count_19 (rfl) (by omega) (by decide) rfl ?_
  refine R_rv dX1_count_20 rfl ?_
  refine ⟨?_, ?_, (Fr.i (by simp)).tr (Fr.i (by simp))⟩
  · intro j
    by_cases h : j = i
    · subst h
      simp [uI, uA, upd]
      rfl
    · simp [uI, uA, upd, h]
  · intro j
    by_cases h : j = i
    · subst h
      simp [uI, uA, upd]
    · simp [uI, uA, upd, h]
theorem c_numberIn {S : Pic} {h k : Nat} (hS : StA w p S) (hN : pN S ≤ 20) (hh : h < 2) (hk : k < pN S) : Ct X 0 d MX5_numberIn [vR 5 0 p, vI (nI h), vI (nI k)] w (qI fun y w' => y = nI (hf S h k) ∧ w' = w) := by
  obtain ⟨hR, hC, hn, hsh, hlo, hr5, hc6, hdt⟩ := id hS
  refine Ct.of (by decide) rfl (Nat.le_of_ble_eq_true rfl) ?_
  show Wq _ _ _ _ 0 [(0, _), (1, _), (2, _)] [] _ _
  refine R_iload_n (i := 1) (q := 1) dX5_numberIn_0 rfl rfl rfl ?_
  refine R_if_neN (by omega) (tgt := 13) (q := 4) dX5_numberIn_1 (by decide) rfl (fun c1 => ?_) (fun c1 => ?_)
  · obtain rfl : h = 1 := by omega
    refine R_aload_n (i := 0) (q := 14) dX5_numberIn_13 rfl rfl rfl ?_
    refine R_getR (q := 17) dX5_numberIn_14 fl_X5_25 rfl (by decide) rfl ?_
    refine R_iload_n (i := 2) (q := 18) dX5_numberIn_17 rfl rfl rfl ?_
    refine R_iald' (q := 19) dX5_numberIn_18 (rfl) (by omega) (by decide) (hc6 k hk) rfl ?_
    refine R_ri dX5_numberIn_19 rfl ?_
    exact ⟨rfl, rfl⟩
  · subst c1
    refine R_aload_n (i := 0) (q := 5) dX5_numberIn_4 rfl rfl rfl ?_
    refine R_getR (q := 8) dX5_numberIn_5 fl_X5_21 rfl (by decide) rfl ?_
    refine R_iload_n (i := 2) (q := 9) dX5_numberIn_8 rfl rfl rfl ?_
    refine R_iald' (q := 10) dX5_numberIn_9 (rfl) (by omega) (by decide) (hr5 k hk) rfl ?_
    refine R_goto (q := 19) dX5_numberIn_10 (by decide) ?_
    refine R_ri dX5_numberIn_19 rfl ?_
    exact ⟨rfl, rfl⟩
theorem l_side {S : Pic} {h : Nat} (hS : StA w p S) (hN : pN S ≤ 20) (hro : ∀ s, s < pN S → pro S s < 6 ∧ pco S s < 6) (hG : GuA w g S) (hh : h < 2) : ∀ (j k : Nat), pN S ≤ k + j → k ≤ pN S → Wq X 0 (d + 1) MX1_side 5 [(4, vI (nI k)), (3, vI (nI (sm (fun s => sq s (gN (hf S h) (hf S h s) (pN S))) k))), (0, vR 1 0 g), (1, vR 5 0 p), (2, vI (nI h))] [] w (qI fun y w' => y = nI (sd (hf S h) (pN S)) ∧ w' = w) := by
  intro j
  induction j with
  | zero =>
    intro k h1 h2
    refine R_iload (q := 7) dX1_side_5 rfl rfl ?_
    refine R_aload_n (i := 1) (q := 8) dX1_side_7 rfl rfl rfl ?_
    refine R_getI' (q := 11) dX1_side_8 fl_X1_27 rfl (hS.2.2.1) rfl ?_
    refine R_icmp_geN (by omega) (by omega) (tgt := 41) (q := 14) dX1_side_11 (by decide) rfl (fun c1 => ?_) (fun c1 => ?_)
    · obtain rfl : k = pN S := by omega
      refine R_iload_n (i := 3) (q := 42) dX1_side_41 rfl rfl rfl ?_
      refine R_ri dX1_side_42 rfl ?_
      exact ⟨rfl, rfl⟩
    · omega
  | succ j ih =>
    intro k h1 h2
    refine R_iload (q := 7) dX1_side_5 rfl rfl ?_
    refine R_aload_n (i := 1) (q := 8) dX1_side_7 rfl rfl rfl ?_
    refine R_getI' (q := 11) dX1_side_8 fl_X1_27 rfl (hS.2.2.1) rfl ?_
    refine R_icmp_geN (by omega) (by omega) (tgt := 41) (q := 14) dX1_side_11 (by decide) rfl (fun c1 => ?_) (fun c1 => ?_)
    · obtain rfl : k = pN S := by omega
      refine R_iload_n (i := 3) (q := 42) dX1_side_41 rfl rfl rfl ?_
      refine R_ri dX1_side_42 rfl ?_
      exact ⟨rfl, rfl⟩
    · have hb := hro k c1
      have hfl : hf S h k < 6 := by
        rcases (show h = 0 ∨ h = 1 by omega) with rfl | rfl
        · exact hb.1
        · exact hb.2
      have hg : w.1 (2 :: g) (h * 6 + hf S h k) = nI (gN (hf S h) (hf S h k) (pN S)) := by
        rcases (show h = 0 ∨ h = 1 by omega) with rfl | rfl
        · show w.1 (2 :: g) (0 * 6 + pro S k) = nI (gN (pro S) (pro S k) (pN S))
          rw [Nat.zero_mul, Nat.zero_add]
          exact (hG.1 _ hb.1).trans (gI_eq (cH_pos c1 rfl))
        · show w.1 (2 :: g) (1 * 6 + pco S k) = nI (gN (pco S) (pco S k) (pN S))
          rw [Nat.one_mul]
          exact (hG.2 _ hb.2).trans (gI_eq (cH_pos c1 rfl))
      refine R_iload_n (i := 3) (q := 15) dX1_side_14 rfl rfl rfl ?_
      refine R_iload (q := 17) dX1_side_15 rfl rfl ?_
      refine R_aload_n (i := 0) (q := 18) dX1_side_17 rfl rfl rfl ?_
      refine R_iload_n (i := 2) (q := 19) dX1_side_18 rfl rfl rfl ?_
      refine R_aload_n (i := 1) (q := 20) dX1_side_19 rfl rfl rfl ?_
      refine R_iload_n (i := 2) (q := 21) dX1_side_20 rfl rfl rfl ?_
      refine R_iload (q := 23) dX1_side_21 rfl rfl ?_
      refine R_cV2i (M' := MX5_numberIn) (q := 26) dX1_side_23 ml_X1_47 mk_X5_numberIn (Nat.le_of_ble_eq_true rfl) rfl (c_numberIn hS hN hh c1) ?_
      rintro _ w ⟨rfl, rfl⟩
      refine R_cV2i (M' := MX1_of) (q := 29) dX1_side_26 ml_X1_50 mk_X1_of (Nat.le_of_ble_eq_true rfl) rfl (c_of hh hfl) ?_
      rintro _ w ⟨rfl, rfl⟩
      rw [hg]
      refine R_isub (q := 30) dX1_side_29 rfl ?_
      refine R_cS1i (M' := MX7_square) (q := 33) dX1_side_30 ml_X1_53 mk_X7_square (Nat.le_of_ble_eq_true rfl) rfl (c_square) ?_
      rintro _ w ⟨rfl, rfl⟩
      rw [sq_nI]
      first | refine R_iaddN (q := 34) dX1_side_33 rfl ?_ | refine R_iadd (q := 34) dX1_side_33 rfl ?_
      refine R_istore_n (i := 3) (q := 35) (loc' := [(3, _), (4, _), (0, _), (1, _), (2, _)]) dX1_side_34 rfl (by decide) (by rfl) rfl ?_
      first | refine R_iincN (q := 38) (loc' := [(4, _), (3, _), (0, _), (1, _), (2, _)]) dX1_side_35 (by rfl) (by decide) (by rfl) rfl ?_ | refine R_iinc (q := 38) (loc' := [(4, _), (3, _), (0, _), (1, _), (2, _)]) dX1_side_35 (by rfl) (by rfl) (by decide) (by rfl) rfl ?_
      refine R_goto (q := 5) dX1_side_38 (by decide) ?_
      exact ih (k + 1) (by omega) (by omega)
theorem c_side {S : Pic} {h : Nat} (hS : StA w p S) (hN : pN S ≤ 20) (hro : ∀ s, s < pN S → pro S s < 6 ∧ pco S s < 6) (hG : GuA w g S) (hh : h < 2) : Ct X 0 (d + 1) MX1_side [vR 1 0 g, vR 5 0 p, vI (nI h)] w (qI fun y w' => y = nI (sd (hf S h) (pN S)) ∧ w' = w) := by
  refine Ct.of (by decide) rfl (Nat.le_of_ble_eq_true rfl) ?_
  show Wq _ _ _ _ 0 [(0, _), (1, _), (2, _)] [] _ _
  refine R_iconst (v := nI 0) (q := 1) dX1_side_0 (by decide) rfl ?_
  refine R_istore_n (i := 3) (q := 2) (loc' := [(3, _), (0, _), (1, _), (2, _)]) dX1_side_1 rfl (by decide) (by rfl) rfl ?_
  refine R_iconst (v := nI 0) (q := 3) dX1_side_2 (by decide) rfl ?_
  refine R_istore (q := 5) (loc' := [(4, _), (3, _), (0, _), (1, _), (2, _)]) dX1_side_3 (by decide) (by rfl) rfl ?_
  exact l_side hS hN hro hG hh (pN S) 0 (by omega) (by omega)
theorem l_take1 {S : Pic} {w0 : Wd} (hS : StA w0 p S) (hN : pN S ≤ 20) (hro : ∀ s, s < pN S → pro S s < 6 ∧ pco S s < 6) (h0 : p ∉ FG g) (h5 : 5 :: p ∉ FG g) (h6 : 6 :: p ∉ FG g) (Q : Option AV → Wd → Prop) (kk : ∀ w, (∀ j, j < 12 → w.1 (0 :: g) j = nI (cc S (pN S) j) ∧ w.1 (1 :: g) j = nI (ss S (pN S) j)) → Fr (FG g) w0 w → Wq X 0 (d + 2) MX1_take 57 [(2, vI (nI (pN S))), (0, vR 1 0 g), (1, vR 5 0 p)] [] w Q) : ∀ (j k : Nat) (w : Wd), pN S ≤ k + j → k ≤ pN S → (∀ j, j < 12 → w.1 (0 :: g) j = nI (cc S k j) ∧ w.1 (1 :: g) j = nI (ss S k j)) → Fr (FG g) w0 w → Wq X 0 (d + 2) MX1_take 18 [(2, vI (nI k)), (0, vR 1 0 g), (1, vR 5 0 p)] [] w Q := by
  obtain ⟨hR, hC, hn, hsh, hlo, hr5, hc6, hdt⟩ := id hS
  intro j
  induction j with
  | zero =>
    intro k w h1 h2 hA hF
    have hn9 : w.1 p 2 = nI (pN S) := by rw [hF.2 p h0]; exact hn
    refine R_iload_n (i := 2) (q := 19) dX1_take_18 rfl rfl rfl ?_
    refine R_aload_n (i := 1) (q := 20) dX1_take_19 rfl rfl rfl ?_
    refine R_getI' (q := 23) dX1_take_20 fl_X1_27 rfl (hn9) rfl ?_
    refine R_icmp_geN (by omega) (by omega) (tgt := 57) (q := 26) dX1_take_23 (by decide) rfl (fun c1 => ?_) (fun c1 => ?_)
    · obtain rfl : k = pN S := by omega
      exact kk w hA hF
    · omega
  | succ j ih =>
    intro k w h1 h2 hA hF
    have hn9 : w.1 p 2 = nI (pN S) := by rw [hF.2 p h0]; exact hn
    refine R_iload_n (i := 2) (q := 19) dX1_take_18 rfl rfl rfl ?_
    refine R_aload_n (i := 1) (q := 20) dX1_take_19 rfl rfl rfl ?_
    refine R_getI' (q := 23) dX1_take_20 fl_X1_27 rfl (hn9) rfl ?_
    refine R_icmp_geN (by omega) (by omega) (tgt := 57) (q := 26) dX1_take_23 (by decide) rfl (fun c1 => ?_) (fun c1 => ?_)
    · obtain rfl : k = pN S := by omega
      exact kk w hA hF
    · have hb := hro k c1
      have e5 : w.1 (5 :: p) k = nI (pro S k) := by rw [hF.2 _ h5]; exact hr5 k c1
      refine R_aload_n (i := 0) (q := 27) dX1_take_26 rfl rfl rfl ?_
      refine R_aload_n (i := 1) (q := 28) dX1_take_27 rfl rfl rfl ?_
      refine R_getR (q := 31) dX1_take_28 fl_X1_33 rfl (by decide) rfl ?_
      refine R_iload_n (i := 2) (q := 32) dX1_take_31 rfl rfl rfl ?_
      refine R_iald' (q := 33) dX1_take_32 (rfl) (by omega) (by decide) (e5) rfl ?_
      refine R_iload_n (i := 2) (q := 34) dX1_take_33 rfl rfl rfl ?_
      refine R_cV2v (M' := MX1_count) (q := 37) dX1_take_34 ml_X1_36 mk_X1_count (Nat.le_of_ble_eq_true rfl) rfl (c_count (by omega)) ?_
      rintro w1 ⟨ha1, hb1, hF1⟩
      have hF1 := hF1.up (G := FG g) (by simp)
      have hF2 := hF.tr hF1
      have e6 : w1.1 (6 :: p) k = nI (pco S k) := by rw [hF2.2 _ h6]; exact hc6 k c1
      refine R_aload_n (i := 0) (q := 38) dX1_take_37 rfl rfl rfl ?_
      refine R_bipush (v := nI 6) (q := 40) dX1_take_38 (by decide) rfl ?_
      refine R_aload_n (i := 1) (q := 41) dX1_take_40 rfl rfl rfl ?_
      refine R_getR (q := 44) dX1_take_41 fl_X1_40 rfl (by decide) rfl ?_
      refine R_iload_n (i := 2) (q := 45) dX1_take_44 rfl rfl rfl ?_
      refine R_iald' (q := 46) dX1_take_45 (rfl) (by omega) (by decide) (e6) rfl ?_
      first | refine R_iaddN (q := 47) dX1_take_46 rfl ?_ | refine R_iadd (q := 47) dX1_take_46 rfl ?_
      refine R_iload_n (i := 2) (q := 48) dX1_take_47 rfl rfl rfl ?_
      refine R_cV2v (M' := MX1_count) (q := 51) dX1_take_48 ml_X1_36 mk_X1_count (Nat.le_of_ble_eq_true rfl) rfl (c_count (by omega)) ?_
      rintro w2 ⟨ha2, hb2, hF3⟩
      have hF3 := hF3.up (G := FG g) (by simp)
      first | refine R_iincN (q := 54) (loc' := [(2, _), (0, _), (1, _)]) dX1_take_51 (by rfl) (by decide) (by rfl) rfl ?_ | refine R_iinc (q := 54) (loc' := [(2, _), (0, _), (1, _)]) dX1_take_51 (by rfl) (by rfl) (by decide) (by rfl) rfl ?_
      refine R_goto (q := 18) dX1_take_54 (by decide) ?_
      refine ih (k + 1) w2 (by omega) (by omega) ?_ (hF2.tr hF3)
      intro j hj
      refine ⟨?_, ?_⟩
      · rw [ha2 j, ha1 j, (hA j hj).1, cc_s hb.1 hj, ← nI_add, ← nI_add]
        congr 1
        · congr 1
          split <;> rfl
        · split <;> rfl
      · rw [hb2 j, hb1 j, (hA j hj).2, ss_s hb.1 hj, ← nI_add, ← nI_add]
        congr 1
        · congr 1
          split <;> rfl
        · split <;> rfl
theorem l_take2 {S : Pic} {w0 : Wd} (hN : pN S ≤ 20) (Q : Option AV → Wd → Prop) (kk : ∀ w, (∀ j, j < 12 → w.1 (2 :: g) j = nrI (cc S (pN S) j) (ss S (pN S) j)) → Fr (FG g) w0 w → Wq X 0 (d + 2) MX1_take 92 [(2, vI (nI 12)), (0, vR 1 0 g), (1, vR 5 0 p)] [] w Q) : ∀ (j k : Nat) (w : Wd), 12 ≤ k + j → k ≤ 12 → (∀ j, j < 12 → w.1 (0 :: g) j = nI (cc S (pN S) j) ∧ w.1 (1 :: g) j = nI (ss S (pN S) j)) → (∀ j, j < k → w.1 (2 :: g) j = nrI (cc S (pN S) j) (ss S (pN S) j)) → Fr (FG g) w0 w → Wq X 0 (d + 2) MX1_take 59 [(2, vI (nI k)), (0, vR 1 0 g), (1, vR 5 0 p)] [] w Q := by
  intro j
  induction j with
  | zero =>
    intro k w h1 h2 hA hB hF
    refine R_iload_n (i := 2) (q := 60) dX1_take_59 rfl rfl rfl ?_
    refine R_bipush (v := nI 12) (q := 62) dX1_take_60 (by decide) rfl ?_
    refine R_icmp_geN (by omega) (by omega) (tgt := 92) (q := 65) dX1_take_62 (by decide) rfl (fun c1 => ?_) (fun c1 => ?_)
    · obtain rfl : k = 12 := by omega
      exact kk w hB hF
    · omega
  | succ j ih =>
    intro k w h1 h2 hA hB hF
    refine R_iload_n (i := 2) (q := 60) dX1_take_59 rfl rfl rfl ?_
    refine R_bipush (v := nI 12) (q := 62) dX1_take_60 (by decide) rfl ?_
    refine R_icmp_geN (by omega) (by omega) (tgt := 92) (q := 65) dX1_take_62 (by decide) rfl (fun c1 => ?_) (fun c1 => ?_)
    · obtain rfl : k = 12 := by omega
      exact kk w hB hF
    · have hcc : cc S (pN S) k ≤ 20 := by
        unfold cc
        split
        · have := cH_le (pro S) k (pN S); omega
        · have := cH_le (pco S) (k - 6) (pN S); omega
      have hss : ss S (pN S) k ≤ 380 := by
        unfold ss
        split
        · exact sH_bd _ _ _ hN
        · exact sH_bd _ _ _ hN
      refine R_aload_n (i := 0) (q := 66) dX1_take_65 rfl rfl rfl ?_
      refine R_getR (q := 69) dX1_take_66 fl_X1_18 rfl (by decide) rfl ?_
      refine R_iload_n (i := 2) (q := 70) dX1_take_69 rfl rfl rfl ?_
      refine R_aload_n (i := 0) (q := 71) dX1_take_70 rfl rfl rfl ?_
      refine R_getR (q := 74) dX1_take_71 fl_X1_9 rfl (by decide) rfl ?_
      refine R_iload_n (i := 2) (q := 75) dX1_take_74 rfl rfl rfl ?_
      refine R_iald' (q := 76) dX1_take_75 (rfl) (by omega) (by decide) ((hA k c1).1) rfl ?_
      refine R_aload_n (i := 0) (q := 77) dX1_take_76 rfl rfl rfl ?_
      refine R_getR (q := 80) dX1_take_77 fl_X1_15 rfl (by decide) rfl ?_
      refine R_iload_n (i := 2) (q := 81) dX1_take_80 rfl rfl rfl ?_
      refine R_iald' (q := 82) dX1_take_81 (rfl) (by omega) (by decide) ((hA k c1).2) rfl ?_
      refine R_cS2i (M' := MX1_nearest) (q := 85) dX1_take_82 ml_X1_43 mk_X1_nearest (Nat.le_of_ble_eq_true rfl) rfl (c_nearest hcc hss) ?_
      rintro _ w ⟨rfl, rfl⟩
      refine R_iast (q := 86) dX1_take_85 (rfl) (by omega) (by decide) rfl ?_
      first | refine R_iincN (q := 89) (loc' := [(2, _), (0, _), (1, _)]) dX1_take_86 (by rfl) (by decide) (by rfl) rfl ?_ | refine R_iinc (q := 89) (loc' := [(2, _), (0, _), (1, _)]) dX1_take_86 (by rfl) (by rfl) (by decide) (by rfl) rfl ?_
      refine R_goto (q := 59) dX1_take_89 (by decide) ?_
      refine ih (k + 1) _ (by omega) (by omega) ?_ ?_ (hF.tr (Fr.i (by simp)))
      · intro j hj
        exact ⟨(uI_nep (by simp)).trans (hA j hj).1, (uI_nep (by simp)).trans (hA j hj).2⟩
      · intro j hj
        by_cases h : j = k
        · subst h
          exact uI_same _ _ _ _
        · exact (uI_ne h).trans (hB j (by omega))
theorem c_take {S : Pic} (hS : StA w p S) (hN : pN S ≤ 20) (hro : ∀ s, s < pN S → pro S s < 6 ∧ pco S s < 6) (h0 : p ∉ FG g) (h5 : 5 :: p ∉ FG g) (h6 : 6 :: p ∉ FG g) : Ct X 0 (d + 2) MX1_take [vR 1 0 g, vR 5 0 p] w (qV fun w' => GuA w' g S ∧ Fr (FG g) w w') := by
  refine Ct.of (by decide) rfl (Nat.le_of_ble_eq_true rfl) ?_
  show Wq _ _ _ _ 0 [(0, _), (1, _)] [] _ _
  refine R_aload_n (i := 0) (q := 1) dX1_take_0 rfl rfl rfl ?_
  refine R_getR (q := 4) dX1_take_1 fl_X1_9 rfl (by decide) rfl ?_
  refine R_iconst (v := nI 0) (q := 5) dX1_take_4 (by decide) rfl ?_
  refine R_cS2v (M' := MJ7_fill_53178) (q := 8) dX1_take_5 ml_X1_21 mk_J7_fill_53178 (Nat.le_of_ble_eq_true rfl) rfl (c_fill (by decide)) ?_
  rintro _ rfl
  refine R_aload_n (i := 0) (q := 9) dX1_take_8 rfl rfl rfl ?_
  refine R_getR (q := 12) dX1_take_9 fl_X1_15 rfl (by decide) rfl ?_
  refine R_iconst (v := nI 0) (q := 13) dX1_take_12 (by decide) rfl ?_
  refine R_cS2v (M' := MJ7_fill_53178) (q := 16) dX1_take_13 ml_X1_21 mk_J7_fill_53178 (Nat.le_of_ble_eq_true rfl) rfl (c_fill (by decide)) ?_
  rintro _ rfl
  refine R_iconst (v := nI 0) (q := 17) dX1_take_16 (by decide) rfl ?_
  refine R_istore_n (i := 2) (q := 18) (loc' := [(2, _), (0, _), (1, _)]) dX1_take_17 rfl (by decide) (by rfl) rfl ?_
  refine l_take1 hS hN hro h0 h5 h6 _ ?_ (pN S) 0 _ (by omega) (by omega) ?_ ((Fr.a (by simp)).tr (Fr.a (by simp)))
  · intro w1 hA1 hF1
    refine R_iconst (v := nI 0) (q := 58) dX1_take_57 (by decide) rfl ?_
    refine R_istore_n (i := 2) (q := 59) (loc' := [(2, _), (0, _), (1, _)]) dX1_take_58 rfl (by decide) (by rfl) rfl ?_
    refine l_take2 (p := p) hN _ ?_ 12 0 w1 (by omega) (by omega) hA1 (fun j hj => absurd hj (Nat.not_lt_zero j)) hF1
    intro w2 hB2 hF2
    have hg1 : ∀ i, i < 6 → w2.1 (2 :: g) i = gI (pro S) i (pN S) := by
      intro i hi
      rw [hB2 i (by omega)]
      unfold cc ss gI
      rw [if_pos hi, if_pos hi]
    have hg2 : ∀ i, i < 6 → w2.1 (2 :: g) (6 + i) = gI (pco S) i (pN S) := by
      intro i hi
      rw [hB2 (6 + i) (by omega)]
      unfold cc ss gI
      rw [if_neg (by omega), if_neg (by omega), Nat.add_sub_cancel_left]
    refine R_rv dX1_take_92 rfl ?_
    exact ⟨⟨hg1, hg2⟩, hF2⟩
  · intro j hj
    refine ⟨?_, ?_⟩
    · have e : cc S 0 j = 0 := by
        unfold cc
        split <;> rfl
      rw [e, uA_ne (by simp), uA_same, if_pos hj]
    · have e : ss S 0 j = 0 := by
        unfold ss
        split <;> rfl
      rw [e, uA_same, if_pos hj]
end GU
