/-! the reference: its rows -/
def CelA (v : Wd) (q : List Nat) (S : Pic) : Prop := ∀ s, s < pN S → v.1 q s = nI (6 * pro S s + pco S s)
/-- a row of 38 numbers from a place on -/
def RowB (v : Wd) (q : List Nat) (o : Nat) (S : Pic) : Prop := (∀ s, s < pN S → v.1 q (o + s) = nI (6 * pro S s + pco S s)) ∧ (∀ k, k < 16 → v.1 q (o + (20 + k)) = nI (pdt S k)) ∧ v.1 q (o + 36) = nI (pH S) ∧ v.1 q (o + 37) = nI (pL S)
def RowA (v : Wd) (q : List Nat) (S : Pic) : Prop := CelA v q S ∧ (∀ k, k < 16 → v.1 q (20 + k) = nI (pdt S k)) ∧ v.1 q 36 = nI (pH S) ∧ v.1 q 37 = nI (pL S)
def DimA (v : Wd) (S : Pic) : Prop := v.1 [] 2 = nI (pR S) ∧ v.1 [] 3 = nI (pC S) ∧ v.1 [] 4 = nI (pN S)
/-- what the reference needs of a row -/
def OKr (T : Pic) : Prop := OKo T ∧ pH T < 4 ∧ pL T < 16 ∧ ∀ k, k < 16 → pdt T k < pN T ∨ pN T = 0
theorem OKS.r {S : Pic} (h : OKS S) : OKr S := ⟨h.o, h.2.2.2.1, h.2.2.2.2.1, fun k hk => (h.2.2.2.2.2.2.2 k hk).imp id (fun h => h.2)⟩
def ssq (f : Nat → Nat) (i g : Nat) : Nat → Nat := sm (fun s => if f s = i then sq s g else 0)
def goB (f : Nat → Nat) (i n : Nat) : Nat → Int32 × Nat
  | 0 => (-9, 0)
  | g + 1 => if 0 < cH f i n ∧ ((goB f i n g).1 = -9 ∨ ssq f i g n < (goB f i n g).2) then (nI g, ssq f i g n) else goB f i n g
theorem sq_succ (s g : Nat) : sq s (g + 1) + 2 * s = sq s g + (2 * g + 1) := by
  unfold sq dst
  rcases Nat.lt_or_ge g s with h | h
  · obtain ⟨t, rfl⟩ : ∃ t, s = g + 1 + t := ⟨s - (g + 1), by omega⟩
    have e2 : (if g + 1 + t ≤ g then g - (g + 1 + t) else g + 1 + t - g) = t + 1 := by
      rw [if_neg (by omega)]
      omega
    have e1 : (if g + 1 + t ≤ g + 1 then g + 1 - (g + 1 + t) else g + 1 + t - (g + 1)) = t := by
      split <;> omega
    simp only [e1, e2, Nat.add_mul, Nat.mul_add, Nat.mul_one, Nat.one_mul]
    omega
  · obtain ⟨t, rfl⟩ : ∃ t, g = s + t := ⟨g - s, by omega⟩
    have e1 : (if s ≤ s + t + 1 then s + t + 1 - s else s - (s + t + 1)) = t + 1 := by
      rw [if_pos (by omega)]
      omega
    have e2 : (if s ≤ s + t then s + t - s else s - (s + t)) = t := by
      rw [if_pos (by omega)]
      omega
    simp only [e1, e2, Nat.add_mul, Nat.mul_add, Nat.mul_one, Nat.one_mul]
    omega
theorem ssq_succ (f : Nat → Nat) (i g : Nat) : ∀ n, ssq f i (g + 1) n + 2 * sH f i n = ssq f i g n + cH f i n * (2 * g + 1)
  | 0 => by simp [ssq, sm, sH, cH, ct]
  | n + 1 => by
    have ih := ssq_succ f i g n
    have h1 := sq_succ n g
    rw [sH_s, cH_s]
    simp only [ssq, sm] at ih ⊢
    by_cases h : f n = i
    · rw [if_pos h, if_pos h, if_pos h, if_pos h, Nat.add_mul]
      omega
    · rw [if_neg h, if_neg h, if_neg h, if_neg h, Nat.add_zero, Nat.add_zero]
      omega
theorem gN_lt {f : Nat → Nat} {i n g : Nat} (hc : 0 < cH f i n) : g < gN f i n ↔ cH f i n * (2 * g + 1) < 2 * sH f i n := by
  unfold gN nrN
  rw [← Nat.succ_le_iff, Nat.le_div_iff_mul_le (by omega)]
  have e : g.succ * (2 * cH f i n) = cH f i n * (2 * g + 1) + cH f i n := by
    rw [Nat.succ_mul, Nat.mul_add, Nat.mul_one, Nat.mul_comm g, Nat.mul_comm 2 (cH f i n), Nat.mul_assoc, Nat.mul_comm 2]
    omega
  omega
theorem ssq_dn {f : Nat → Nat} {i n g : Nat} (hc : 0 < cH f i n) (h : g < gN f i n) : ssq f i (g + 1) n < ssq f i g n := by
  have h1 := ssq_succ f i g n
  have h2 := (gN_lt hc).mp h
  omega
theorem ssq_up {f : Nat → Nat} {i n : Nat} (hc : 0 < cH f i n) : ∀ k, ssq f i (gN f i n) n ≤ ssq f i (gN f i n + k) n
  | 0 => Nat.le_refl _
  | k + 1 => by
    have h0 := ssq_up hc k
    have h1 := ssq_succ f i (gN f i n + k) n
    have h2 : ¬ cH f i n * (2 * (gN f i n + k) + 1) < 2 * sH f i n := fun h => by
      have := (gN_lt hc).mpr h
      omega
    rw [← Nat.add_assoc]
    omega
theorem goB_eq {f : Nat → Nat} {i n : Nat} (hc : 0 < cH f i n) : ∀ m, m < 2 ^ 31 → goB f i n (m + 1) = (if m ≤ gN f i n then (nI m, ssq f i m n) else (nI (gN f i n), ssq f i (gN f i n) n))
  | 0, _ => by
    simp only [goB]
    rw [if_pos ⟨hc, Or.inl trivial⟩, if_pos (Nat.zero_le _)]
  | m + 1, hm => by
    have ih := goB_eq hc m (by omega)
    have h9 : ∀ k, k < 2 ^ 31 → ¬ nI k = -9 := fun k hk e => by
      have := nI_pos hk
      rw [e] at this
      exact this (by decide)
    have e : goB f i n (m + 1 + 1) = if 0 < cH f i n ∧ ((goB f i n (m + 1)).1 = -9 ∨ ssq f i (m + 1) n < (goB f i n (m + 1)).2) then (nI (m + 1), ssq f i (m + 1) n) else goB f i n (m + 1) := rfl
    rw [e, ih]
    rcases Nat.lt_or_ge m (gN f i n) with h | h
    · rw [if_pos (Nat.le_of_lt h), if_pos ⟨hc, Or.inr (ssq_dn hc h)⟩, if_pos (show m + 1 ≤ gN f i n from h)]
    · rw [if_neg (show ¬ m + 1 ≤ gN f i n by omega)]
      have e2 : (if m ≤ gN f i n then (nI m, ssq f i m n) else (nI (gN f i n), ssq f i (gN f i n) n)) = (nI (gN f i n), ssq f i (gN f i n) n) := by
        by_cases h2 : m ≤ gN f i n
        · have : m = gN f i n := by omega
          rw [if_pos h2, this]
        · rw [if_neg h2]
      rw [e2, if_neg]
      rintro ⟨_, h3 | h3⟩
      · exact h9 _ (by omega) h3
      · have h4 := ssq_up hc (m + 1 - gN f i n)
        rw [show gN f i n + (m + 1 - gN f i n) = m + 1 by omega] at h4
        have h3 : ssq f i (m + 1) n < ssq f i (gN f i n) n := h3
        omega
theorem goB_gI {f : Nat → Nat} {i n : Nat} (hn : n < 2 ^ 31) : (goB f i n n).1 = gI f i n := by
  by_cases hc : 0 < cH f i n
  · have h0 := cH_le f i n
    have hg := gN_le hc
    obtain ⟨m, rfl⟩ : ∃ m, n = m + 1 := ⟨n - 1, by omega⟩
    rw [goB_eq hc m (by omega), gI_eq hc]
    by_cases h : m ≤ gN f i (m + 1)
    · rw [if_pos h]
      have : m = gN f i (m + 1) := by omega
      rw [← this]
    · rw [if_neg h]
  · have hz : ∀ m, goB f i n m = (-9, 0) := by
      intro m
      induction m with
      | zero => rfl
      | succ m ih =>
        simp only [goB]
        rw [if_neg (fun h => hc h.1)]
        exact ih
    rw [hz]
    exact (if_pos (by omega)).symm
theorem ssq_bd {f : Nat → Nat} {i g n : Nat} (hn : n ≤ 20) (hg : g ≤ 20) : ∀ k, k ≤ n → ssq f i g k ≤ k * 400
  | 0, _ => by simp [ssq, sm]
  | k + 1, h => by
    have h1 := ssq_bd (f := f) (i := i) hn hg k (by omega)
    have h2 : (if f k = i then sq k g else 0) ≤ 400 := by
      by_cases hh : f k = i
      · rw [if_pos hh]
        exact sq_bd (m := 20) (by omega) hg
      · rw [if_neg hh]
        exact Nat.zero_le _
    rw [Nat.succ_mul]
    exact Nat.add_le_add h1 h2
theorem goB_bd {f : Nat → Nat} {i n : Nat} (hn : n ≤ 20) : ∀ m, m ≤ n → (goB f i n m).2 ≤ 8000
  | 0, _ => Nat.zero_le _
  | m + 1, h => by
    have h1 := goB_bd (f := f) (i := i) hn m (by omega)
    have h2 := ssq_bd (f := f) (i := i) (g := m) hn (by omega) n (Nat.le_refl n)
    have h3 : n * 400 ≤ 20 * 400 := Nat.mul_le_mul_right _ hn
    simp only [goB]
    split
    · show ssq f i m n ≤ 8000
      omega
    · exact h1
theorem goB_m9 {f : Nat → Nat} {i n : Nat} (x : Int32) : x = -9 ↔ x = (-9 : Int32) := Iff.rfl
section MB
variable {X : Cx} {d : Nat} {w : Wd}
theorem c_in {a b c : Int64} : Ct X 1 d MX8_in [vL a, vL b, vL c] w (qI fun z w' => z = bI (b ≤ a ∧ a ≤ c) ∧ w' = w) := by
  have g1 : lg_cmp a b < 0 ↔ ¬ b ≤ a := by
    rw [lg_cmp_lt, Int64.lt_iff_toInt_lt, Int64.le_iff_toInt_le]
    omega
  have g2 : 0 < lg_cmp a c ↔ ¬ a ≤ c := by
    rw [lg_cmp_gt, Int64.lt_iff_toInt_lt, Int64.le_iff_toInt_le]
    omega
  refine Ct.of (by decide) rfl (Nat.le_of_ble_eq_true rfl) ?_
  show Wq _ _ _ _ 0 [(0, _), (2, _), (4, _)] [] _ _
  refine R_lload_n (i := 0) (q := 1) dX8_in_0 rfl rfl rfl ?_
  refine R_lload_n (i := 2) (q := 2) dX8_in_1 rfl rfl rfl ?_
  refine R_lcmp (q := 3) dX8_in_2 rfl ?_
  refine R_if_lt (tgt := 17) (q := 6) dX8_in_3 (by decide) rfl (fun c1 => ?_) (fun c1 => ?_)
  · refine R_iconst (v := nI 0) (q := 18) dX8_in_17 (by decide) rfl ?_
    refine R_rz dX8_in_18 rfl (by decide) ?_
    exact ⟨(bI_f (fun h => g1.mp c1 h.1)).symm, rfl⟩
  · refine R_lload_n (i := 0) (q := 7) dX8_in_6 rfl rfl rfl ?_
    refine R_lload (q := 9) dX8_in_7 rfl rfl ?_
    refine R_lcmp (q := 10) dX8_in_9 rfl ?_
    refine R_if_gt (tgt := 17) (q := 13) dX8_in_10 (by decide) rfl (fun c2 => ?_) (fun c2 => ?_)
    · refine R_iconst (v := nI 0) (q := 18) dX8_in_17 (by decide) rfl ?_
      refine R_rz dX8_in_18 rfl (by decide) ?_
      exact ⟨(bI_f (fun h => g2.mp c2 h.2)).symm, rfl⟩
    · refine R_iconst (v := nI 1) (q := 14) dX8_in_13 (by decide) rfl ?_
      refine R_goto (q := 18) dX8_in_14 (by decide) ?_
      refine R_rz dX8_in_18 rfl (by decide) ?_
      exact ⟨(bI_t ⟨Classical.byContradiction (fun h => c1 (g1.mpr h)), Classical.byContradiction (fun h => c2 (g2.mpr h))⟩).symm, rfl⟩
theorem bI_iff {a b : Prop} [Decidable a] [Decidable b] (h : a ↔ b) : bI a = bI b := by
  unfold bI
  by_cases ha : a
  · rw [if_pos ha, if_pos (h.mp ha)]
  · rw [if_neg ha, if_neg (fun hb => ha (h.mpr hb))]
theorem in64 {x : Int32} {m : Int64} {n : Nat} (hn : n < 2 ^ 31) (hm : m.toInt = (n : Int) - 1) : ((0 : Int64) ≤ x.toInt64 ∧ x.toInt64 ≤ m) ↔ inN x n := by
  unfold inN
  rw [Int64.le_iff_toInt_le, Int64.le_iff_toInt_le, Int32.lt_iff_toInt_lt, Int32.le_iff_toInt_le, hm, nI_toInt hn, Int32.toInt_toInt64, show (0 : Int64).toInt = 0 from rfl, show (0 : Int32).toInt = 0 from rfl]
  omega
theorem pred64 {n : Nat} (hn : n < 2 ^ 30) : ((nI n - nI 1).toInt64).toInt = (n : Int) - 1 := by
  rw [Int32.toInt_toInt64, pk_sub_toInt hn (by decide)]
  rfl
theorem c_isFour {x : Int32} : Ct X 1 (d + 1) MX8_isFour [vI x] w (qI fun z w' => z = bI (inN x 4) ∧ w' = w) := by
  refine Ct.of (by decide) rfl (Nat.le_of_ble_eq_true rfl) ?_
  show Wq _ _ _ _ 0 [(0, _)] [] _ _
  refine R_iload_n (i := 0) (q := 1) dX8_isFour_0 rfl rfl rfl ?_
  refine R_i2l (q := 2) dX8_isFour_1 rfl ?_
  refine R_lconst (v := 0) (q := 3) dX8_isFour_2 (by decide) rfl ?_
  refine R_ldc2 (q := 6) dX8_isFour_3 kc_X8_61 rfl ?_
  refine R_cS3i (M' := MX8_in) (q := 9) dX8_isFour_6 ml_X8_57 mk_X8_in (Nat.le_of_ble_eq_true rfl) rfl (c_in) ?_
  rintro _ w ⟨rfl, rfl⟩
  refine R_rz dX8_isFour_9 rfl (bI_b _) ?_
  exact ⟨bI_iff (in64 (by decide) rfl), rfl⟩
theorem c_isShade {x : Int32} {n : Nat} (hn : w.1 [] 4 = nI n) (hN : n ≤ 20) : Ct X 1 (d + 1) MX8_isShade [vR 8 0 [], vI x] w (qI fun z w' => z = bI (inN x n) ∧ w' = w) := by
  refine Ct.of (by decide) rfl (Nat.le_of_ble_eq_true rfl) ?_
  show Wq _ _ _ _ 0 [(0, _), (1, _)] [] _ _
  refine R_iload_n (i := 1) (q := 1) dX8_isShade_0 rfl rfl rfl ?_
  refine R_i2l (q := 2) dX8_isShade_1 rfl ?_
  refine R_lconst (v := 0) (q := 3) dX8_isShade_2 (by decide) rfl ?_
  refine R_aload_n (i := 0) (q := 4) dX8_isShade_3 rfl rfl rfl ?_
  refine R_getI' (q := 7) dX8_isShade_4 fl_X8_54 rfl (hn) rfl ?_
  refine R_iconst (v := nI 1) (q := 8) dX8_isShade_7 (by decide) rfl ?_
  refine R_isub (q := 9) dX8_isShade_8 rfl ?_
  refine R_i2l (q := 10) dX8_isShade_9 rfl ?_
  refine R_cS3i (M' := MX8_in) (q := 13) dX8_isShade_10 ml_X8_57 mk_X8_in (Nat.le_of_ble_eq_true rfl) rfl (c_in) ?_
  rintro _ w ⟨rfl, rfl⟩
  refine R_rz dX8_isShade_13 rfl (bI_b _) ?_
  exact ⟨bI_iff (in64 (by omega) (pred64 (by omega))), rfl⟩
theorem c_has {m k : Nat} (hm : m < 16) (hk : k < 4) : Ct X 1 d MX8_has [vI (nI m), vI (nI k)] w (qI fun z w' => z = bI (bitN m k = 1) ∧ w' = w) := by
  have := bitN_lt m k
  refine Ct.of (by decide) rfl (Nat.le_of_ble_eq_true rfl) ?_
  show Wq _ _ _ _ 0 [(0, _), (1, _)] [] _ _
  refine R_iload_n (i := 0) (q := 1) dX8_has_0 rfl rfl rfl ?_
  refine R_iload_n (i := 1) (q := 2) dX8_has_1 rfl rfl rfl ?_
  refine R_ishr (q := 3) dX8_has_2 rfl ?_
  refine R_iconst (v := nI 1) (q := 4) dX8_has_3 (by decide) rfl ?_
  refine R_iand (q := 5) dX8_has_4 rfl ?_
  rw [shr_fin m hm k hk]
  refine R_iconst (v := nI 1) (q := 6) dX8_has_5 (by decide) rfl ?_
  refine R_icmp_neN (by omega) (by omega) (tgt := 13) (q := 9) dX8_has_6 (by decide) rfl (fun c1 => ?_) (fun c1 => ?_)
  · refine R_iconst (v := nI 0) (q := 14) dX8_has_13 (by decide) rfl ?_
    refine R_rz dX8_has_14 rfl (by decide) ?_
    exact ⟨(bI_f c1).symm, rfl⟩
  · refine R_iconst (v := nI 1) (q := 10) dX8_has_9 (by decide) rfl ?_
    refine R_goto (q := 14) dX8_has_10 (by decide) ?_
    refine R_rz dX8_has_14 rfl (by decide) ?_
    exact ⟨(bI_t c1).symm, rfl⟩
theorem l_mcopy {p q : List Nat} (hpq : p ≠ q) : ∀ (f i : Nat), 38 ≤ i + f → i ≤ 38 → Wq X 1 d MX8_copy 2 [(2, vI (nI i)), (0, vR 9 38 p), (1, vR 9 38 q)] [] (uA w q (fun j => if j < i then w.1 p j else w.1 q j)) (qV fun w' => w' = uA w q (fun j => if j < 38 then w.1 p j else w.1 q j)) := by
  intro f
  induction f with
  | zero =>
    intro i h1 h2
    refine R_iload_n (i := 2) (q := 3) dX8_copy_2 rfl rfl rfl ?_
    refine R_bipush (v := nI 38) (q := 5) dX8_copy_3 (by decide) rfl ?_
    refine R_icmp_geN (by omega) (by omega) (tgt := 20) (q := 8) dX8_copy_5 (by decide) rfl (fun c1 => ?_) (fun c1 => ?_)
    · refine R_rv dX8_copy_20 rfl ?_
      have : i = 38 := by omega
      rw [this]
    · omega
  | succ f ih =>
    intro i h1 h2
    refine R_iload_n (i := 2) (q := 3) dX8_copy_2 rfl rfl rfl ?_
    refine R_bipush (v := nI 38) (q := 5) dX8_copy_3 (by decide) rfl ?_
    refine R_icmp_geN (by omega) (by omega) (tgt := 20) (q := 8) dX8_copy_5 (by decide) rfl (fun c1 => ?_) (fun c1 => ?_)
    · refine R_rv dX8_copy_20 rfl ?_
      have : i = 38 := by omega
      rw [this]
    · refine R_aload_n (i := 1) (q := 9) dX8_copy_8 rfl rfl rfl ?_
      refine R_iload_n (i := 2) (q := 10) dX8_copy_9 rfl rfl rfl ?_
      refine R_aload_n (i := 0) (q := 11) dX8_copy_10 rfl rfl rfl ?_
      refine R_iload_n (i := 2) (q := 12) dX8_copy_11 rfl rfl rfl ?_
      refine R_iald' (q := 13) dX8_copy_12 rfl c1 (by decide) (congrFun (uA_ne hpq) i) rfl ?_
      refine R_iast (q := 14) dX8_copy_13 (rfl) (by omega) (by decide) rfl ?_
      first | refine R_iincN (q := 17) (loc' := [(2, _), (0, _), (1, _)]) dX8_copy_14 (by rfl) (by decide) (by rfl) rfl ?_ | refine R_iinc (q := 17) (loc' := [(2, _), (0, _), (1, _)]) dX8_copy_14 (by rfl) (by rfl) (by decide) (by rfl) rfl ?_
      refine R_goto (q := 2) dX8_copy_17 (by decide) ?_
      have e : uI (uA w q (fun j => if j < i then w.1 p j else w.1 q j)) q i (w.1 p i) = uA w q (fun j => if j < i + 1 then w.1 p j else w.1 q j) := by
        unfold uI uA
        dsimp only
        congr 1
        funext z
        by_cases hz : z = q
        · simp only [if_pos hz, if_true]
          funext j
          simp only [upd]
          by_cases hj : j = i
          · rw [if_pos hj, if_pos (by omega), hj]
          · rw [if_neg hj]
            by_cases h3 : j < i
            · rw [if_pos h3, if_pos (by omega)]
            · rw [if_neg h3, if_neg (by omega)]
        · simp only [if_neg hz]
      rw [e]
      exact ih (i + 1) (by omega) (by omega)
theorem c_mcopy {p q : List Nat} {S : Pic} (hpq : p ≠ q) (hN : pN S ≤ 20) (hS : RowA w p S) : Ct X 1 d MX8_copy [vR 9 38 p, vR 9 38 q] w (qV fun w' => RowA w' q S ∧ Fr [q] w w') := by
  refine Ct.of (by decide) rfl (Nat.le_of_ble_eq_true rfl) ?_
  show Wq _ _ _ _ 0 [(0, _), (1, _)] [] _ _
  refine R_iconst (v := nI 0) (q := 1) dX8_copy_0 (by decide) rfl ?_
  refine R_istore_n (i := 2) (q := 2) (loc' := [(2, _), (0, _), (1, _)]) dX8_copy_1 rfl (by decide) (by rfl) rfl ?_
  have h := l_mcopy (X := X) (d := d) (w := w) hpq 38 0 (by omega) (by omega)
  rw [uA_id w q _ (fun k => if_neg (by omega))] at h
  refine Wq_monoV h ?_
  rintro w' rfl
  refine ⟨⟨?_, ?_, ?_, ?_⟩, Fr.a (by simp)⟩
  · intro s hs
    rw [uA_same, if_pos (by omega)]
    exact hS.1 s hs
  · intro k hk
    rw [uA_same, if_pos (by omega)]
    exact hS.2.1 k hk
  · rw [uA_same, if_pos (by omega)]
    exact hS.2.2.1
  · rw [uA_same, if_pos (by omega)]
    exact hS.2.2.2
theorem c_lineOf {c h : Nat} (hc : c < 2 ^ 31) (hh : h < 2) : Ct X 1 d MX8_lineOf [vI (nI c), vI (nI h)] w (qI fun z w' => z = nI (if h = 0 then c / 6 else c % 6) ∧ w' = w) := by
  refine Ct.of (by decide) rfl (Nat.le_of_ble_eq_true rfl) ?_
  show Wq _ _ _ _ 0 [(0, _), (1, _)] [] _ _
  refine R_iload_n (i := 1) (q := 1) dX8_lineOf_0 rfl rfl rfl ?_
  refine R_if_neN (by omega) (tgt := 11) (q := 4) dX8_lineOf_1 (by decide) rfl (fun c1 => ?_) (fun c1 => ?_)
  · rw [if_neg c1]
    refine R_iload_n (i := 0) (q := 12) dX8_lineOf_11 rfl rfl rfl ?_
    refine R_bipush (v := nI 6) (q := 14) dX8_lineOf_12 (by decide) rfl ?_
    refine R_iremN (by omega) (by omega) (by omega) (q := 15) dX8_lineOf_14 rfl ?_
    refine R_ri dX8_lineOf_15 rfl ?_
    exact ⟨rfl, rfl⟩
  · rw [if_pos c1]
    refine R_iload_n (i := 0) (q := 5) dX8_lineOf_4 rfl rfl rfl ?_
    refine R_bipush (v := nI 6) (q := 7) dX8_lineOf_5 (by decide) rfl ?_
    refine R_idivN (by omega) (by omega) (by omega) (q := 8) dX8_lineOf_7 rfl ?_
    refine R_goto (q := 15) dX8_lineOf_8 (by decide) ?_
    refine R_ri dX8_lineOf_15 rfl ?_
    exact ⟨rfl, rfl⟩
theorem line_hf {S : Pic} {s h : Nat} (hc : pco S s < 6) : (if h = 0 then (6 * pro S s + pco S s) / 6 else (6 * pro S s + pco S s) % 6) = hf S h s := by
  unfold hf
  split
  · omega
  · omega
theorem l_g2 {q : List Nat} {S : Pic} {h i g : Nat} {best least : AV} (hn : w.1 [] 4 = nI (pN S)) (hN : pN S ≤ 20) (hro : ∀ s, s < pN S → pro S s < 6 ∧ pco S s < 6) (hC : CelA w q S) (hh : h < 2) (hi : i < 6) (hg : g < 20) (Q : Option AV → Wd → Prop) (kk : Wq X 1 (d + 1) MX8_guessOf 74 [(9, vI (nI (pN S))), (8, vI (nI (cH (hf S h) i (pN S)))), (7, vI (nI (ssq (hf S h) i g (pN S)))), (6, vI (nI g)), (5, least), (4, best), (0, vR 8 0 []), (1, vR 9 38 q), (2, vI (nI h)), (3, vI (nI i))] [] w Q) : ∀ (f k : Nat), pN S ≤ k + f → k ≤ pN S → Wq X 1 (d + 1) MX8_guessOf 28 [(9, vI (nI k)), (8, vI (nI (cH (hf S h) i k))), (7, vI (nI (ssq (hf S h) i g k))), (6, vI (nI g)), (5, least), (4, best), (0, vR 8 0 []), (1, vR 9 38 q), (2, vI (nI h)), (3, vI (nI i))] [] w Q := by
  intro f
  induction f with
  | zero =>
    intro k h1 h2
    refine R_iload (q := 30) dX8_guessOf_28 rfl rfl ?_
    refine R_aload_n (i := 0) (q := 31) dX8_guessOf_30 rfl rfl rfl ?_
    refine R_getI' (q := 34) dX8_guessOf_31 fl_X8_54 rfl (hn) rfl ?_
    refine R_icmp_geN (by omega) (by omega) (tgt := 74) (q := 37) dX8_guessOf_34 (by decide) rfl (fun c1 => ?_) (fun c1 => ?_)
    · obtain rfl : k = pN S := by omega
      exact kk
    · omega
  | succ f ih =>
    intro k h1 h2
    refine R_iload (q := 30) dX8_guessOf_28 rfl rfl ?_
    refine R_aload_n (i := 0) (q := 31) dX8_guessOf_30 rfl rfl rfl ?_
    refine R_getI' (q := 34) dX8_guessOf_31 fl_X8_54 rfl (hn) rfl ?_
    refine R_icmp_geN (by omega) (by omega) (tgt := 74) (q := 37) dX8_guessOf_34 (by decide) rfl (fun c1 => ?_) (fun c1 => ?_)
    · obtain rfl : k = pN S := by omega
      exact kk
    · have hb := hro k c1
      have hfl : hf S h k < 6 := by
        unfold hf
        split
        · exact hb.1
        · exact hb.2
      have e := ih (k + 1) (by omega) (by omega)
      have es : ssq (hf S h) i g (k + 1) = ssq (hf S h) i g k + (if hf S h k = i then sq k g else 0) := rfl
      rw [cH_s, es] at e
      refine R_aload_n (i := 1) (q := 38) dX8_guessOf_37 rfl rfl rfl ?_
      refine R_iload (q := 40) dX8_guessOf_38 rfl rfl ?_
      refine R_iald' (q := 41) dX8_guessOf_40 (rfl) (by omega) (by decide) (hC k c1) rfl ?_
      refine R_iload_n (i := 2) (q := 42) dX8_guessOf_41 rfl rfl rfl ?_
      refine R_cS2i (M' := MX8_lineOf) (q := 45) dX8_guessOf_42 ml_X8_102 mk_X8_lineOf (Nat.le_of_ble_eq_true rfl) rfl (c_lineOf (by omega) hh) ?_
      rintro _ w ⟨rfl, rfl⟩
      rw [line_hf hb.2]
      refine R_iload_n (i := 3) (q := 46) dX8_guessOf_45 rfl rfl rfl ?_
      refine R_icmp_neN (by omega) (by omega) (tgt := 68) (q := 49) dX8_guessOf_46 (by decide) rfl (fun c2 => ?_) (fun c2 => ?_)
      · rw [if_neg c2, if_neg c2, Nat.add_zero, Nat.add_zero] at e
        first | refine R_iincN (q := 71) (loc' := [(9, _), (8, _), (7, _), (6, _), (5, _), (4, _), (0, _), (1, _), (2, _), (3, _)]) dX8_guessOf_68 (by rfl) (by decide) (by rfl) rfl ?_ | refine R_iinc (q := 71) (loc' := [(9, _), (8, _), (7, _), (6, _), (5, _), (4, _), (0, _), (1, _), (2, _), (3, _)]) dX8_guessOf_68 (by rfl) (by rfl) (by decide) (by rfl) rfl ?_
        refine R_goto (q := 28) dX8_guessOf_71 (by decide) ?_
        exact e
      · rw [if_pos c2, if_pos c2] at e
        refine R_iload (q := 51) dX8_guessOf_49 rfl rfl ?_
        refine R_iload (q := 53) dX8_guessOf_51 rfl rfl ?_
        refine R_iload (q := 55) dX8_guessOf_53 rfl rfl ?_
        refine R_isub (q := 56) dX8_guessOf_55 rfl ?_
        refine R_iload (q := 58) dX8_guessOf_56 rfl rfl ?_
        refine R_iload (q := 60) dX8_guessOf_58 rfl rfl ?_
        refine R_isub (q := 61) dX8_guessOf_60 rfl ?_
        refine R_imul (q := 62) dX8_guessOf_61 rfl ?_
        rw [sq_nI]
        first | refine R_iaddN (q := 63) dX8_guessOf_62 rfl ?_ | refine R_iadd (q := 63) dX8_guessOf_62 rfl ?_
        refine R_istore (q := 65) (loc' := [(7, _), (9, _), (8, _), (6, _), (5, _), (4, _), (0, _), (1, _), (2, _), (3, _)]) dX8_guessOf_63 (by decide) (by rfl) rfl ?_
        first | refine R_iincN (q := 68) (loc' := [(8, _), (7, _), (9, _), (6, _), (5, _), (4, _), (0, _), (1, _), (2, _), (3, _)]) dX8_guessOf_65 (by rfl) (by decide) (by rfl) rfl ?_ | refine R_iinc (q := 68) (loc' := [(8, _), (7, _), (9, _), (6, _), (5, _), (4, _), (0, _), (1, _), (2, _), (3, _)]) dX8_guessOf_65 (by rfl) (by rfl) (by decide) (by rfl) rfl ?_
        first | refine R_iincN (q := 71) (loc' := [(9, _), (8, _), (7, _), (6, _), (5, _), (4, _), (0, _), (1, _), (2, _), (3, _)]) dX8_guessOf_68 (by rfl) (by decide) (by rfl) rfl ?_ | refine R_iinc (q := 71) (loc' := [(9, _), (8, _), (7, _), (6, _), (5, _), (4, _), (0, _), (1, _), (2, _), (3, _)]) dX8_guessOf_68 (by rfl) (by rfl) (by decide) (by rfl) rfl ?_
        refine R_goto (q := 28) dX8_guessOf_71 (by decide) ?_
        refine R_loc [0, 1, 2, 3, 4, 5, 6, 7, 8, 9] (loc' := [(9, _), (8, _), (7, _), (6, _), (5, _), (4, _), (0, _), (1, _), (2, _), (3, _)]) (by rfl) ?_
        exact e
theorem l_g1 {q : List Nat} {S : Pic} {h i : Nat} (hn : w.1 [] 4 = nI (pN S)) (hN : pN S ≤ 20) (hro : ∀ s, s < pN S → pro S s < 6 ∧ pco S s < 6) (hC : CelA w q S) (hh : h < 2) (hi : i < 6) : ∀ (f g : Nat), pN S ≤ g + f → g ≤ pN S → Wq X 1 (d + 1) MX8_guessOf 10 [(6, vI (nI g)), (5, vI (nI (goB (hf S h) i (pN S) g).2)), (4, vI (goB (hf S h) i (pN S) g).1), (0, vR 8 0 []), (1, vR 9 38 q), (2, vI (nI h)), (3, vI (nI i))] [] w (qI fun z w' => z = gI (hf S h) i (pN S) ∧ w' = w) := by
  intro f
  induction f with
  | zero =>
    intro g h1 h2
    refine R_iload (q := 12) dX8_guessOf_10 rfl rfl ?_
    refine R_aload_n (i := 0) (q := 13) dX8_guessOf_12 rfl rfl rfl ?_
    refine R_getI' (q := 16) dX8_guessOf_13 fl_X8_54 rfl (hn) rfl ?_
    refine R_icmp_geN (by omega) (by omega) (tgt := 107) (q := 19) dX8_guessOf_16 (by decide) rfl (fun c1 => ?_) (fun c1 => ?_)
    · obtain rfl : g = pN S := by omega
      refine R_iload (q := 109) dX8_guessOf_107 rfl rfl ?_
      refine R_ri dX8_guessOf_109 rfl ?_
      exact ⟨goB_gI (by omega), rfl⟩
    · omega
  | succ f ih =>
    intro g h1 h2
    refine R_iload (q := 12) dX8_guessOf_10 rfl rfl ?_
    refine R_aload_n (i := 0) (q := 13) dX8_guessOf_12 rfl rfl rfl ?_
    refine R_getI' (q := 16) dX8_guessOf_13 fl_X8_54 rfl (hn) rfl ?_
    refine R_icmp_geN (by omega) (by omega) (tgt := 107) (q := 19) dX8_guessOf_16 (by decide) rfl (fun c1 => ?_) (fun c1 => ?_)
    · obtain rfl : g = pN S := by omega
      refine R_iload (q := 109) dX8_guessOf_107 rfl rfl ?_
      refine R_ri dX8_guessOf_109 rfl ?_
      exact ⟨goB_gI (by omega), rfl⟩
    · have e := ih (g + 1) (by omega) (by omega)
      simp only [goB] at e
      refine R_iconst (v := nI 0) (q := 20) dX8_guessOf_19 (by decide) rfl ?_
      refine R_istore (q := 22) (loc' := [(7, _), (6, _), (5, _), (4, _), (0, _), (1, _), (2, _), (3, _)]) dX8_guessOf_20 (by decide) (by rfl) rfl ?_
      refine R_iconst (v := nI 0) (q := 23) dX8_guessOf_22 (by decide) rfl ?_
      refine R_istore (q := 25) (loc' := [(8, _), (7, _), (6, _), (5, _), (4, _), (0, _), (1, _), (2, _), (3, _)]) dX8_guessOf_23 (by decide) (by rfl) rfl ?_
      refine R_iconst (v := nI 0) (q := 26) dX8_guessOf_25 (by decide) rfl ?_
      refine R_istore (q := 28) (loc' := [(9, _), (8, _), (7, _), (6, _), (5, _), (4, _), (0, _), (1, _), (2, _), (3, _)]) dX8_guessOf_26 (by decide) (by rfl) rfl ?_
      refine l_g2 (S := S) (h := h) (i := i) (g := g) hn hN hro hC hh hi (by omega) _ ?_ (pN S) 0 (by omega) (by omega)
      have hcl := cH_le (hf S h) i (pN S)
      have hb1 := goB_bd (f := hf S h) (i := i) hN g (by omega)
      have hb2 := ssq_bd (f := hf S h) (i := i) (g := g) hN (by omega) (pN S) (Nat.le_refl _)
      have hb3 : pN S * 400 ≤ 20 * 400 := Nat.mul_le_mul_right _ hN
      refine R_iload (q := 76) dX8_guessOf_74 rfl rfl ?_
      refine R_if_le (tgt := 101) (q := 79) dX8_guessOf_76 (by decide) rfl (fun c2 => ?_) (fun c2 => ?_)
      · rw [if_neg] at e
        · first | refine R_iincN (q := 104) (loc' := [(6, _), (9, _), (8, _), (7, _), (5, _), (4, _), (0, _), (1, _), (2, _), (3, _)]) dX8_guessOf_101 (by rfl) (by decide) (by rfl) rfl ?_ | refine R_iinc (q := 104) (loc' := [(6, _), (9, _), (8, _), (7, _), (5, _), (4, _), (0, _), (1, _), (2, _), (3, _)]) dX8_guessOf_101 (by rfl) (by rfl) (by decide) (by rfl) rfl ?_
          refine R_goto (q := 10) dX8_guessOf_104 (by decide) ?_
          refine R_loc [0, 4, 5, 6, 7, 8, 9] (loc' := [(6, _), (5, _), (4, _), (0, _), (1, _), (2, _), (3, _)]) (by rfl) ?_
          exact e
        · rintro ⟨h3, -⟩
          exact nI_nle h3 (by omega) c2
      · have hc : 0 < cH (hf S h) i (pN S) := by
          rcases Nat.eq_zero_or_pos (cH (hf S h) i (pN S)) with h3 | h3
          · exact absurd (by rw [h3]; decide) c2
          · exact h3
        refine R_iload (q := 81) dX8_guessOf_79 rfl rfl ?_
        refine R_bipush (v := (-9)) (q := 83) dX8_guessOf_81 (by decide) rfl ?_
        refine R_icmp_eq (tgt := 93) (q := 86) dX8_guessOf_83 (by decide) rfl (fun c3 => ?_) (fun c3 => ?_)
        · rw [if_pos ⟨hc, Or.inl c3⟩] at e
          refine R_iload (q := 95) dX8_guessOf_93 rfl rfl ?_
          refine R_istore (q := 97) (loc' := [(4, _), (9, _), (8, _), (7, _), (6, _), (5, _), (0, _), (1, _), (2, _), (3, _)]) dX8_guessOf_95 (by decide) (by rfl) rfl ?_
          refine R_iload (q := 99) dX8_guessOf_97 rfl rfl ?_
          refine R_istore (q := 101) (loc' := [(5, _), (4, _), (9, _), (8, _), (7, _), (6, _), (0, _), (1, _), (2, _), (3, _)]) dX8_guessOf_99 (by decide) (by rfl) rfl ?_
          first | refine R_iincN (q := 104) (loc' := [(6, _), (5, _), (4, _), (9, _), (8, _), (7, _), (0, _), (1, _), (2, _), (3, _)]) dX8_guessOf_101 (by rfl) (by decide) (by rfl) rfl ?_ | refine R_iinc (q := 104) (loc' := [(6, _), (5, _), (4, _), (9, _), (8, _), (7, _), (0, _), (1, _), (2, _), (3, _)]) dX8_guessOf_101 (by rfl) (by rfl) (by decide) (by rfl) rfl ?_
          refine R_goto (q := 10) dX8_guessOf_104 (by decide) ?_
          refine R_loc [0, 1, 2, 6, 7, 8, 9] (loc' := [(6, _), (5, _), (4, _), (0, _), (1, _), (2, _), (3, _)]) (by rfl) ?_
          exact e
        · refine R_iload (q := 88) dX8_guessOf_86 rfl rfl ?_
          refine R_iload (q := 90) dX8_guessOf_88 rfl rfl ?_
          refine R_icmp_geN (by omega) (by omega) (tgt := 101) (q := 93) dX8_guessOf_90 (by decide) rfl (fun c4 => ?_) (fun c4 => ?_)
          · rw [if_neg (fun h3 => h3.2.elim c3 (fun h4 => by omega))] at e
            first | refine R_iincN (q := 104) (loc' := [(6, _), (9, _), (8, _), (7, _), (5, _), (4, _), (0, _), (1, _), (2, _), (3, _)]) dX8_guessOf_101 (by rfl) (by decide) (by rfl) rfl ?_ | refine R_iinc (q := 104) (loc' := [(6, _), (9, _), (8, _), (7, _), (5, _), (4, _), (0, _), (1, _), (2, _), (3, _)]) dX8_guessOf_101 (by rfl) (by rfl) (by decide) (by rfl) rfl ?_
            refine R_goto (q := 10) dX8_guessOf_104 (by decide) ?_
            refine R_loc [0, 4, 5, 6, 7, 8, 9] (loc' := [(6, _), (5, _), (4, _), (0, _), (1, _), (2, _), (3, _)]) (by rfl) ?_
            exact e
          · rw [if_pos ⟨hc, Or.inr c4⟩] at e
            refine R_iload (q := 95) dX8_guessOf_93 rfl rfl ?_
            refine R_istore (q := 97) (loc' := [(4, _), (9, _), (8, _), (7, _), (6, _), (5, _), (0, _), (1, _), (2, _), (3, _)]) dX8_guessOf_95 (by decide) (by rfl) rfl ?_
            refine R_iload (q := 99) dX8_guessOf_97 rfl rfl ?_
            refine R_istore (q := 101) (loc' := [(5, _), (4, _), (9, _), (8, _), (7, _), (6, _), (0, _), (1, _), (2, _), (3, _)]) dX8_guessOf_99 (by decide) (by rfl) rfl ?_
            first | refine R_iincN (q := 104) (loc' := [(6, _), (5, _), (4, _), (9, _), (8, _), (7, _), (0, _), (1, _), (2, _), (3, _)]) dX8_guessOf_101 (by rfl) (by decide) (by rfl) rfl ?_ | refine R_iinc (q := 104) (loc' := [(6, _), (5, _), (4, _), (9, _), (8, _), (7, _), (0, _), (1, _), (2, _), (3, _)]) dX8_guessOf_101 (by rfl) (by rfl) (by decide) (by rfl) rfl ?_
            refine R_goto (q := 10) dX8_guessOf_104 (by decide) ?_
            refine R_loc [0, 1, 2, 6, 7, 8, 9] (loc' := [(6, _), (5, _), (4, _), (0, _), (1, _), (2, _), (3, _)]) (by rfl) ?_
            exact e
theorem c_guessOf {q : List Nat} {S : Pic} {h i : Nat} (hn : w.1 [] 4 = nI (pN S)) (hO : OKo S) (hC : CelA w q S) (hh : h < 2) (hi : i < 6) : Ct X 1 (d + 1) MX8_guessOf [vR 8 0 [], vR 9 38 q, vI (nI h), vI (nI i)] w (qI fun z w' => z = gI (hf S h) i (pN S) ∧ w' = w) := by
  refine Ct.of (by decide) rfl (Nat.le_of_ble_eq_true rfl) ?_
  show Wq _ _ _ _ 0 [(0, _), (1, _), (2, _), (3, _)] [] _ _
  refine R_bipush (v := (-9)) (q := 2) dX8_guessOf_0 (by decide) rfl ?_
  refine R_istore (q := 4) (loc' := [(4, _), (0, _), (1, _), (2, _), (3, _)]) dX8_guessOf_2 (by decide) (by rfl) rfl ?_
  refine R_iconst (v := nI 0) (q := 5) dX8_guessOf_4 (by decide) rfl ?_
  refine R_istore (q := 7) (loc' := [(5, _), (4, _), (0, _), (1, _), (2, _), (3, _)]) dX8_guessOf_5 (by decide) (by rfl) rfl ?_
  refine R_iconst (v := nI 0) (q := 8) dX8_guessOf_7 (by decide) rfl ?_
  refine R_istore (q := 10) (loc' := [(6, _), (5, _), (4, _), (0, _), (1, _), (2, _), (3, _)]) dX8_guessOf_8 (by decide) (by rfl) rfl ?_
  exact l_g1 hn hO.1 hO.2.1 hC hh hi (pN S) 0 (by omega) (by omega)
/-! sides -/
def isd (f : Nat → Nat) (n k : Nat) : Nat → Nat := sm (fun s => if f s = k then sq s (gN f k n) else 0)
def osd (f : Nat → Nat) (n : Nat) : Nat → Nat
  | 0 => 0
  | k + 1 => osd f n k + isd f n k n
theorem sm_add (f g : Nat → Nat) : ∀ n, sm f n + sm g n = sm (fun k => f k + g k) n
  | 0 => rfl
  | n + 1 => by
    have := sm_add f g n
    simp only [sm] at this ⊢
    omega
theorem osd_eq (f : Nat → Nat) (n : Nat) : ∀ k, osd f n k = sm (fun s => if f s < k then sq s (gN f (f s) n) else 0) n
  | 0 => by
    have h : ∀ m, sm (fun s => if f s < 0 then sq s (gN f (f s) n) else 0) m = 0 := by
      intro m
      induction m with
      | zero => rfl
      | succ m ih =>
        simp only [sm]
        rw [ih, if_neg (Nat.not_lt_zero _)]
    exact (h n).symm
  | k + 1 => by
    simp only [osd]
    rw [osd_eq f n k]
    unfold isd
    rw [sm_add]
    apply sm_cg
    intro s _
    by_cases h : f s < k
    · rw [if_pos h, if_neg (by omega), if_pos (by omega)]
      rfl
    · rw [if_neg h]
      by_cases h2 : f s = k
      · rw [if_pos h2, if_pos (by omega), h2, Nat.zero_add]
      · rw [if_neg h2, if_neg (by omega)]
theorem osd_sd {f : Nat → Nat} {n : Nat} (h : ∀ s, s < n → f s < 6) : osd f n 6 = sd f n := by
  rw [osd_eq]
  exact sm_cg (fun s hs => if_pos (h s hs))
theorem l_s2 {q : List Nat} {S : Pic} {h k0 T : Nat} (hn : w.1 [] 4 = nI (pN S)) (hO : OKo S) (hC : CelA w q S) (hh : h < 2) (hk0 : k0 < 6) (Q : Option AV → Wd → Prop) (kk : Wq X 1 (d + 2) MX8_sideOf 71 [(6, vI (nI (pN S))), (5, vI (gI (hf S h) k0 (pN S))), (4, vI (nI k0)), (3, vI (nI (T + isd (hf S h) (pN S) k0 (pN S)))), (0, vR 8 0 []), (1, vR 9 38 q), (2, vI (nI h))] [] w Q) : ∀ (f k : Nat), pN S ≤ k + f → k ≤ pN S → Wq X 1 (d + 2) MX8_sideOf 25 [(6, vI (nI k)), (5, vI (gI (hf S h) k0 (pN S))), (4, vI (nI k0)), (3, vI (nI (T + isd (hf S h) (pN S) k0 k))), (0, vR 8 0 []), (1, vR 9 38 q), (2, vI (nI h))] [] w Q := by
  have hN := hO.1
  intro f
  induction f with
  | zero =>
    intro k h1 h2
    refine R_iload (q := 27) dX8_sideOf_25 rfl rfl ?_
    refine R_aload_n (i := 0) (q := 28) dX8_sideOf_27 rfl rfl rfl ?_
    refine R_getI' (q := 31) dX8_sideOf_28 fl_X8_54 rfl (hn) rfl ?_
    refine R_icmp_geN (by omega) (by omega) (tgt := 71) (q := 34) dX8_sideOf_31 (by decide) rfl (fun c1 => ?_) (fun c1 => ?_)
    · obtain rfl : k = pN S := by omega
      exact kk
    · omega
  | succ f ih =>
    intro k h1 h2
    refine R_iload (q := 27) dX8_sideOf_25 rfl rfl ?_
    refine R_aload_n (i := 0) (q := 28) dX8_sideOf_27 rfl rfl rfl ?_
    refine R_getI' (q := 31) dX8_sideOf_28 fl_X8_54 rfl (hn) rfl ?_
    refine R_icmp_geN (by omega) (by omega) (tgt := 71) (q := 34) dX8_sideOf_31 (by decide) rfl (fun c1 => ?_) (fun c1 => ?_)
    · obtain rfl : k = pN S := by omega
      exact kk
    · have hb := hO.2.1 k c1
      have hfl : hf S h k < 6 := by
        unfold hf
        split
        · exact hb.1
        · exact hb.2
      have e := ih (k + 1) (by omega) (by omega)
      have es : isd (hf S h) (pN S) k0 (k + 1) = isd (hf S h) (pN S) k0 k + (if hf S h k = k0 then sq k (gN (hf S h) k0 (pN S)) else 0) := rfl
      rw [es] at e
      refine R_iload_n (i := 3) (q := 35) dX8_sideOf_34 rfl rfl rfl ?_
      refine R_aload_n (i := 1) (q := 36) dX8_sideOf_35 rfl rfl rfl ?_
      refine R_iload (q := 38) dX8_sideOf_36 rfl rfl ?_
      refine R_iald' (q := 39) dX8_sideOf_38 (rfl) (by omega) (by decide) (hC k c1) rfl ?_
      refine R_iload_n (i := 2) (q := 40) dX8_sideOf_39 rfl rfl rfl ?_
      refine R_cS2i (M' := MX8_lineOf) (q := 43) dX8_sideOf_40 ml_X8_102 mk_X8_lineOf (Nat.le_of_ble_eq_true rfl) rfl (c_lineOf (by omega) hh) ?_
      rintro _ w ⟨rfl, rfl⟩
      rw [line_hf hb.2]
      refine R_iload (q := 45) dX8_sideOf_43 rfl rfl ?_
      refine R_icmp_neN (by omega) (by omega) (tgt := 62) (q := 48) dX8_sideOf_45 (by decide) rfl (fun c2 => ?_) (fun c2 => ?_)
      · rw [if_neg c2, Nat.add_zero] at e
        refine R_iconst (v := nI 0) (q := 63) dX8_sideOf_62 (by decide) rfl ?_
        first | refine R_iaddN (q := 64) dX8_sideOf_63 rfl ?_ | refine R_iadd (q := 64) dX8_sideOf_63 rfl ?_
        refine R_istore_n (i := 3) (q := 65) (loc' := [(3, _), (6, _), (5, _), (4, _), (0, _), (1, _), (2, _)]) dX8_sideOf_64 rfl (by decide) (by rfl) rfl ?_
        first | refine R_iincN (q := 68) (loc' := [(6, _), (3, _), (5, _), (4, _), (0, _), (1, _), (2, _)]) dX8_sideOf_65 (by rfl) (by decide) (by rfl) rfl ?_ | refine R_iinc (q := 68) (loc' := [(6, _), (3, _), (5, _), (4, _), (0, _), (1, _), (2, _)]) dX8_sideOf_65 (by rfl) (by rfl) (by decide) (by rfl) rfl ?_
        refine R_goto (q := 25) dX8_sideOf_68 (by decide) ?_
        refine R_loc [0, 2, 3, 1, 4, 5, 6] (loc' := [(6, _), (5, _), (4, _), (3, _), (0, _), (1, _), (2, _)]) (by rfl) ?_
        exact e
      · rw [if_pos c2, ← Nat.add_assoc] at e
        have eg := gI_eq (cH_pos (f := hf S h) c1 c2)
        rw [eg] at e ⊢
        refine R_iload (q := 50) dX8_sideOf_48 rfl rfl ?_
        refine R_iload (q := 52) dX8_sideOf_50 rfl rfl ?_
        refine R_isub (q := 53) dX8_sideOf_52 rfl ?_
        refine R_iload (q := 55) dX8_sideOf_53 rfl rfl ?_
        refine R_iload (q := 57) dX8_sideOf_55 rfl rfl ?_
        refine R_isub (q := 58) dX8_sideOf_57 rfl ?_
        refine R_imul (q := 59) dX8_sideOf_58 rfl ?_
        rw [sq_nI]
        refine R_goto (q := 63) dX8_sideOf_59 (by decide) ?_
        first | refine R_iaddN (q := 64) dX8_sideOf_63 rfl ?_ | refine R_iadd (q := 64) dX8_sideOf_63 rfl ?_
        refine R_istore_n (i := 3) (q := 65) (loc' := [(3, _), (6, _), (5, _), (4, _), (0, _), (1, _), (2, _)]) dX8_sideOf_64 rfl (by decide) (by rfl) rfl ?_
        first | refine R_iincN (q := 68) (loc' := [(6, _), (3, _), (5, _), (4, _), (0, _), (1, _), (2, _)]) dX8_sideOf_65 (by rfl) (by decide) (by rfl) rfl ?_ | refine R_iinc (q := 68) (loc' := [(6, _), (3, _), (5, _), (4, _), (0, _), (1, _), (2, _)]) dX8_sideOf_65 (by rfl) (by rfl) (by decide) (by rfl) rfl ?_
        refine R_goto (q := 25) dX8_sideOf_68 (by decide) ?_
        refine R_loc [0, 2, 3, 1, 4, 5, 6] (loc' := [(6, _), (5, _), (4, _), (3, _), (0, _), (1, _), (2, _)]) (by rfl) ?_
        exact e
theorem l_s1 {q : List Nat} {S : Pic} {h : Nat} (hn : w.1 [] 4 = nI (pN S)) (hO : OKo S) (hC : CelA w q S) (hh : h < 2) : ∀ (f k : Nat), 6 ≤ k + f → k ≤ 6 → Wq X 1 (d + 2) MX8_sideOf 5 [(4, vI (nI k)), (3, vI (nI (osd (hf S h) (pN S) k))), (0, vR 8 0 []), (1, vR 9 38 q), (2, vI (nI h))] [] w (qI fun z w' => z = nI (sd (hf S h) (pN S)) ∧ w' = w) := by
  intro f
  induction f with
  | zero =>
    intro k h1 h2
    refine R_iload (q := 7) dX8_sideOf_5 rfl rfl ?_
    refine R_bipush (v := nI 6) (q := 9) dX8_sideOf_7 (by decide) rfl ?_
    refine R_icmp_geN (by omega) (by omega) (tgt := 77) (q := 12) dX8_sideOf_9 (by decide) rfl (fun c1 => ?_) (fun c1 => ?_)
    · obtain rfl : k = 6 := by omega
      refine R_iload_n (i := 3) (q := 78) dX8_sideOf_77 rfl rfl rfl ?_
      refine R_ri dX8_sideOf_78 rfl ?_
      refine ⟨?_, rfl⟩
      rw [osd_sd]
      intro s hs
      have hb := hO.2.1 s hs
      unfold hf
      split
      · exact hb.1
      · exact hb.2
    · omega
  | succ f ih =>
    intro k h1 h2
    refine R_iload (q := 7) dX8_sideOf_5 rfl rfl ?_
    refine R_bipush (v := nI 6) (q := 9) dX8_sideOf_7 (by decide) rfl ?_
    refine R_icmp_geN (by omega) (by omega) (tgt := 77) (q := 12) dX8_sideOf_9 (by decide) rfl (fun c1 => ?_) (fun c1 => ?_)
    · obtain rfl : k = 6 := by omega
      refine R_iload_n (i := 3) (q := 78) dX8_sideOf_77 rfl rfl rfl ?_
      refine R_ri dX8_sideOf_78 rfl ?_
      refine ⟨?_, rfl⟩
      rw [osd_sd]
      intro s hs
      have hb := hO.2.1 s hs
      unfold hf
      split
      · exact hb.1
      · exact hb.2
    · refine R_aload_n (i := 0) (q := 13) dX8_sideOf_12 rfl rfl rfl ?_
      refine R_aload_n (i := 1) (q := 14) dX8_sideOf_13 rfl rfl rfl ?_
      refine R_iload_n (i := 2) (q := 15) dX8_sideOf_14 rfl rfl rfl ?_
      refine R_iload (q := 17) dX8_sideOf_15 rfl rfl ?_
      refine R_cV3i (M' := MX8_guessOf) (q := 20) dX8_sideOf_17 ml_X8_106 mk_X8_guessOf (Nat.le_of_ble_eq_true rfl) rfl (c_guessOf hn hO hC hh c1) ?_
      rintro _ w ⟨rfl, rfl⟩
      refine R_istore (q := 22) (loc' := [(5, _), (4, _), (3, _), (0, _), (1, _), (2, _)]) dX8_sideOf_20 (by decide) (by rfl) rfl ?_
      refine R_iconst (v := nI 0) (q := 23) dX8_sideOf_22 (by decide) rfl ?_
      refine R_istore (q := 25) (loc' := [(6, _), (5, _), (4, _), (3, _), (0, _), (1, _), (2, _)]) dX8_sideOf_23 (by decide) (by rfl) rfl ?_
      refine l_s2 (S := S) (h := h) (k0 := k) (T := osd (hf S h) (pN S) k) hn hO hC hh c1 _ ?_ (pN S) 0 (by omega) (by omega)
      first | refine R_iincN (q := 74) (loc' := [(4, _), (6, _), (5, _), (3, _), (0, _), (1, _), (2, _)]) dX8_sideOf_71 (by rfl) (by decide) (by rfl) rfl ?_ | refine R_iinc (q := 74) (loc' := [(4, _), (6, _), (5, _), (3, _), (0, _), (1, _), (2, _)]) dX8_sideOf_71 (by rfl) (by rfl) (by decide) (by rfl) rfl ?_
      refine R_goto (q := 5) dX8_sideOf_74 (by decide) ?_
      refine R_loc [0, 3, 4, 5, 6] (loc' := [(4, _), (3, _), (0, _), (1, _), (2, _)]) (by rfl) ?_
      exact ih (k + 1) (by omega) (by omega)
theorem c_msideOf {q : List Nat} {S : Pic} {h : Nat} (hn : w.1 [] 4 = nI (pN S)) (hO : OKo S) (hC : CelA w q S) (hh : h < 2) : Ct X 1 (d + 2) MX8_sideOf [vR 8 0 [], vR 9 38 q, vI (nI h)] w (qI fun z w' => z = nI (sd (hf S h) (pN S)) ∧ w' = w) := by
  refine Ct.of (by decide) rfl (Nat.le_of_ble_eq_true rfl) ?_
  show Wq _ _ _ _ 0 [(0, _), (1, _), (2, _)] [] _ _
  refine R_iconst (v := nI 0) (q := 1) dX8_sideOf_0 (by decide) rfl ?_
  refine R_istore_n (i := 3) (q := 2) (loc' := [(3, _), (0, _), (1, _), (2, _)]) dX8_sideOf_1 rfl (by decide) (by rfl) rfl ?_
  refine R_iconst (v := nI 0) (q := 3) dX8_sideOf_2 (by decide) rfl ?_
  refine R_istore (q := 5) (loc' := [(4, _), (3, _), (0, _), (1, _), (2, _)]) dX8_sideOf_3 (by decide) (by rfl) rfl ?_
  exact l_s1 hn hO hC hh 6 0 (by omega) (by omega)
theorem c_sides {q : List Nat} {S : Pic} (hn : w.1 [] 4 = nI (pN S)) (hO : OKo S) (hC : CelA w q S) : Ct X 1 (d + 3) MX8_sides [vR 8 0 [], vR 9 38 q] w (qI fun z w' => z = nI (sdB S) ∧ w' = w) := by
  refine Ct.of (by decide) rfl (Nat.le_of_ble_eq_true rfl) ?_
  show Wq _ _ _ _ 0 [(0, _), (1, _)] [] _ _
  refine R_aload_n (i := 0) (q := 1) dX8_sides_0 rfl rfl rfl ?_
  refine R_aload_n (i := 1) (q := 2) dX8_sides_1 rfl rfl rfl ?_
  refine R_iconst (v := nI 0) (q := 3) dX8_sides_2 (by decide) rfl ?_
  refine R_cV2i (M' := MX8_sideOf) (q := 6) dX8_sides_3 ml_X8_110 mk_X8_sideOf (Nat.le_of_ble_eq_true rfl) rfl (c_msideOf (h := 0) hn hO hC (by decide)) ?_
  rintro _ w ⟨rfl, rfl⟩
  refine R_aload_n (i := 0) (q := 7) dX8_sides_6 rfl rfl rfl ?_
  refine R_aload_n (i := 1) (q := 8) dX8_sides_7 rfl rfl rfl ?_
  refine R_iconst (v := nI 1) (q := 9) dX8_sides_8 (by decide) rfl ?_
  refine R_cV2i (M' := MX8_sideOf) (q := 12) dX8_sides_9 ml_X8_110 mk_X8_sideOf (Nat.le_of_ble_eq_true rfl) rfl (c_msideOf (h := 1) hn hO hC (by decide)) ?_
  rintro _ w ⟨rfl, rfl⟩
  first | refine R_iaddN (q := 13) dX8_sides_12 rfl ?_ | refine R_iadd (q := 13) dX8_sides_12 rfl ?_
  refine R_ri dX8_sides_13 rfl ?_
  exact ⟨rfl, rfl⟩
end MB
