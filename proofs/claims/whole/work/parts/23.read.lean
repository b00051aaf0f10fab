/-! reading a text: what is read (rows, columns, shades, their rows, their columns, the row that is being told) -/
abbrev RS : Type := Nat × Nat × Nat × (Nat → Nat) × (Nat → Nat) × Nat
def rs0 : RS := (1, 1, 0, (fun _ => 0), (fun _ => 0), 0)
/-- the picture of what is read -/
def rsP (st : RS) : Pic := (st.1, st.2.1, st.2.2.1, 1, 0, st.2.2.2.1, st.2.2.2.2.1, fun _ => 0)
abbrev fgI (x : Int32) : Int32 := x - nI 48
def fgN (x : Int32) : Nat := (x - nI 48).toNatClampNeg
abbrev rsRoom (st : RS) : Prop := st.2.2.1 < 20 ∧ st.2.2.1 < st.1 * st.2.1
/-- one letter at a place: none, if it is a fault -/
def rst (st : RS) (k : Nat) (x : Int32) : Option RS :=
  if k = 0 then (if x = nI 77 then some st else none)
  else if k = 1 then (if inN (fgI x) 7 ∧ 1 ≤ fgN x then some (fgN x, st.2.1, st.2.2.1, st.2.2.2.1, st.2.2.2.2.1, st.2.2.2.2.2) else none)
  else if k = 2 then (if inN (fgI x) 7 ∧ 1 ≤ fgN x then some (st.1, fgN x, st.2.2.1, st.2.2.2.1, st.2.2.2.2.1, st.2.2.2.2.2) else none)
  else if k % 3 = 0 then (if x = nI 105 ∧ rsRoom st then some st else none)
  else if k % 3 = 1 then (if inN (fgI x) st.1 ∧ ct (fun s => st.2.2.2.1 s == fgN x) st.2.2.1 < st.2.1 then some (st.1, st.2.1, st.2.2.1, st.2.2.2.1, st.2.2.2.2.1, fgN x) else none)
  else (if inN (fgI x) st.2.1 ∧ ∀ s, s < st.2.2.1 → ¬ (st.2.2.2.1 s = st.2.2.2.2.2 ∧ st.2.2.2.2.1 s = fgN x) then some (st.1, st.2.1, st.2.2.1 + 1, fnU st.2.2.2.1 st.2.2.1 st.2.2.2.2.2, fnU st.2.2.2.2.1 st.2.2.1 (fgN x), st.2.2.2.2.2) else none)
/-- the first k letters read -/
def rdL (tx : Nat → Int32) : Nat → Option RS
  | 0 => some rs0
  | k + 1 => match rdL tx k with
    | none => none
    | some st => rst st k (tx k)
/-- what holds after k letters -/
def RI (st : RS) (k : Nat) : Prop := (1 ≤ st.1 ∧ st.1 ≤ 6) ∧ (1 ≤ st.2.1 ∧ st.2.1 ≤ 6) ∧ st.2.2.1 ≤ 20 ∧ (∀ s, s < st.2.2.1 → st.2.2.2.1 s < st.1 ∧ st.2.2.2.2.1 s < st.2.1) ∧ (∀ s t, s < t → t < st.2.2.1 → ¬ (st.2.2.2.1 s = st.2.2.2.1 t ∧ st.2.2.2.2.1 s = st.2.2.2.2.1 t)) ∧ (k ≤ 3 → st.2.2.1 = 0) ∧ (3 ≤ k → k % 3 ≠ 0 → rsRoom st) ∧ (3 ≤ k → k % 3 = 2 → st.2.2.2.2.2 < st.1)
theorem fgN_eq {x : Int32} {n : Nat} (hn : n < 2 ^ 31) (h : inN (fgI x) n) : fgN x < n ∧ fgI x = nI (fgN x) := by
  obtain ⟨j, hj, e⟩ := inN_ex hn h
  have : fgN x = j := by
    unfold fgN
    rw [show x - nI 48 = nI j from e, nI_clamp (by omega)]
  rw [this]
  exact ⟨hj, e⟩
theorem RI_0 : RI rs0 0 := by
  refine ⟨⟨by decide, by decide⟩, ⟨by decide, by decide⟩, by decide, ?_, ?_, fun _ => rfl, fun h => absurd h (by decide), fun h => absurd h (by decide)⟩
  · intro s hs
    exact absurd hs (Nat.not_lt_zero s)
  · intro s t _ ht
    exact absurd ht (Nat.not_lt_zero t)
theorem RI_step {st st' : RS} {k : Nat} {x : Int32} (h : RI st k) (e : rst st k x = some st') : RI st' (k + 1) := by
  obtain ⟨h1, h2, h3, h4, h5, h6, h7, h8⟩ := h
  unfold rst at e
  by_cases k0 : k = 0
  · rw [if_pos k0] at e
    split at e
    · cases e
      exact ⟨h1, h2, h3, h4, h5, fun _ => h6 (by omega), fun h => absurd h (by omega), fun h => absurd h (by omega)⟩
    · cases e
  rw [if_neg k0] at e
  by_cases k1 : k = 1
  · rw [if_pos k1] at e
    split at e
    · rename_i g
      cases e
      have g2 := fgN_eq (by decide) g.1
      have n0 := h6 (by omega)
      refine ⟨⟨g.2, by show fgN x ≤ 6; omega⟩, h2, h3, ?_, h5, fun _ => n0, fun h => absurd h (by omega), fun h => absurd h (by omega)⟩
      intro s hs
      exact absurd (show s < st.2.2.1 from hs) (by omega)
    · cases e
  rw [if_neg k1] at e
  by_cases k2 : k = 2
  · rw [if_pos k2] at e
    split at e
    · rename_i g
      cases e
      have g2 := fgN_eq (by decide) g.1
      have n0 := h6 (by omega)
      refine ⟨h1, ⟨g.2, by show fgN x ≤ 6; omega⟩, h3, ?_, h5, fun _ => n0, fun _ h => absurd (show (k + 1) % 3 = 0 by omega) h, fun _ h => absurd h (by omega)⟩
      intro s hs
      exact absurd (show s < st.2.2.1 from hs) (by omega)
    · cases e
  rw [if_neg k2] at e
  by_cases m0 : k % 3 = 0
  · rw [if_pos m0] at e
    split at e
    · rename_i g
      cases e
      exact ⟨h1, h2, h3, h4, h5, fun h => absurd h (by omega), fun _ _ => g.2, fun _ h => absurd h (by omega)⟩
    · cases e
  rw [if_neg m0] at e
  by_cases m1 : k % 3 = 1
  · rw [if_pos m1] at e
    split at e
    · rename_i g
      cases e
      have g2 := fgN_eq (by omega) g.1
      exact ⟨h1, h2, h3, h4, h5, fun h => absurd h (by omega), fun _ _ => h7 (by omega) m0, fun _ _ => g2.1⟩
    · cases e
  rw [if_neg m1] at e
  split at e
  · rename_i g
    cases e
    have g2 := fgN_eq (by omega) g.1
    have hr := h7 (by omega) m0
    have hc := h8 (by omega) (by omega)
    refine ⟨h1, h2, ?_, ?_, ?_, fun h => absurd h (by omega), fun _ h => absurd (show (k + 1) % 3 = 0 by omega) h, fun _ h => absurd h (by omega)⟩
    · show st.2.2.1 + 1 ≤ 20
      omega
    · intro s hs
      have hs : s < st.2.2.1 + 1 := hs
      show fnU st.2.2.2.1 st.2.2.1 st.2.2.2.2.2 s < st.1 ∧ fnU st.2.2.2.2.1 st.2.2.1 (fgN x) s < st.2.1
      unfold fnU
      by_cases hh : s = st.2.2.1
      · rw [if_pos hh, if_pos hh]
        exact ⟨hc, g2.1⟩
      · rw [if_neg hh, if_neg hh]
        exact h4 s (by omega)
    · intro s t hst ht
      have ht : t < st.2.2.1 + 1 := ht
      show ¬ (fnU st.2.2.2.1 st.2.2.1 st.2.2.2.2.2 s = fnU st.2.2.2.1 st.2.2.1 st.2.2.2.2.2 t ∧ fnU st.2.2.2.2.1 st.2.2.1 (fgN x) s = fnU st.2.2.2.2.1 st.2.2.1 (fgN x) t)
      unfold fnU
      rw [if_neg (show ¬ s = st.2.2.1 by omega), if_neg (show ¬ s = st.2.2.1 by omega)]
      by_cases hh : t = st.2.2.1
      · rw [if_pos hh, if_pos hh]
        exact g.2 s (by omega)
      · rw [if_neg hh, if_neg hh]
        exact h5 s t hst (by omega)
  · cases e
theorem RI_rd {tx : Nat → Int32} : ∀ {k : Nat} {st : RS}, rdL tx k = some st → RI st k
  | 0, st, h => by cases h; exact RI_0
  | k + 1, st, h => by
    simp only [rdL] at h
    cases hq : rdL tx k with
    | none => rw [hq] at h; cases h
    | some s0 =>
      rw [hq] at h
      exact RI_step (RI_rd hq) h
/-- FAULT: what a reading answers; at its end the picture -/
def RdQ (tx : Nat → Int32) (len : Nat) (x : Int32) (P : Pic → Prop) : Prop := (∃ k, k < len ∧ (∃ st, rdL tx k = some st) ∧ rdL tx (k + 1) = none ∧ x = nI k) ∨ ∃ st, rdL tx len = some st ∧ ((0 < len ∧ len % 3 = 0 ∧ x = -9 ∧ P (rsP st)) ∨ (¬ (0 < len ∧ len % 3 = 0) ∧ x = nI len))
section ST
variable {X : Cx} {d : Nat} {p : List Nat} {w : Wd}
theorem fig_1 {y : Int32} : (¬ y < nI 1 ∧ y ≤ nI 6) ↔ ∃ j, 1 ≤ j ∧ j ≤ 6 ∧ y = nI j := by
  constructor
  · rintro ⟨h1, h2⟩
    have h0 : ¬ y < 0 := fun h => h1 (by rw [Int32.lt_iff_toInt_lt] at h ⊢; rw [show (nI 1).toInt = 1 from rfl]; rw [show (0 : Int32).toInt = 0 from rfl] at h; omega)
    obtain ⟨j, hj, rfl⟩ := nI_of h0
    refine ⟨j, ?_, (nI_leI hj (by decide)).mp h2, rfl⟩
    have := fun h => h1 ((nI_ltI hj (by decide)).mpr h)
    exact Nat.not_lt.mp this
  · rintro ⟨j, h1, h2, rfl⟩
    exact ⟨nI_nlt h1 (by omega), nI_le h2 (by decide)⟩
theorem c_tellRows {y : Int32} : Ct X 0 d MX5_tellRows [vR 5 0 p, vI y] w (qI fun z w' => (z = 1 ∧ ∃ j, 1 ≤ j ∧ j ≤ 6 ∧ y = nI j ∧ w' = uI w p 0 (nI j)) ∨ (z = 0 ∧ w' = w ∧ ¬ ∃ j, 1 ≤ j ∧ j ≤ 6 ∧ y = nI j)) := by
  refine Ct.of (by decide) rfl (Nat.le_of_ble_eq_true rfl) ?_
  show Wq _ _ _ _ 0 [(0, _), (1, _)] [] _ _
  refine R_iload_n (i := 1) (q := 1) dX5_tellRows_0 rfl rfl rfl ?_
  refine R_iconst (v := nI 1) (q := 2) dX5_tellRows_1 (by decide) rfl ?_
  refine R_icmp_lt (tgt := 11) (q := 5) dX5_tellRows_2 (by decide) rfl (fun c1 => ?_) (fun c1 => ?_)
  · refine R_iconst (v := nI 0) (q := 12) dX5_tellRows_11 (by decide) rfl ?_
    refine R_rz dX5_tellRows_12 rfl (by decide) ?_
    exact Or.inr ⟨rfl, rfl, fun h => (fig_1.mpr h).1 c1⟩
  · refine R_iload_n (i := 1) (q := 6) dX5_tellRows_5 rfl rfl rfl ?_
    refine R_bipush (v := nI 6) (q := 8) dX5_tellRows_6 (by decide) rfl ?_
    refine R_icmp_le (tgt := 13) (q := 11) dX5_tellRows_8 (by decide) rfl (fun c2 => ?_) (fun c2 => ?_)
    · obtain ⟨j, h1, h2, rfl⟩ := fig_1.mp ⟨c1, c2⟩
      refine R_aload_n (i := 0) (q := 14) dX5_tellRows_13 rfl rfl rfl ?_
      refine R_iload_n (i := 1) (q := 15) dX5_tellRows_14 rfl rfl rfl ?_
      refine R_putI (q := 18) dX5_tellRows_15 fl_X5_9 rfl rfl ?_
      refine R_iconst (v := nI 1) (q := 19) dX5_tellRows_18 (by decide) rfl ?_
      refine R_rz dX5_tellRows_19 rfl (by decide) ?_
      exact Or.inl ⟨rfl, j, h1, h2, rfl, rfl⟩
    · refine R_iconst (v := nI 0) (q := 12) dX5_tellRows_11 (by decide) rfl ?_
      refine R_rz dX5_tellRows_12 rfl (by decide) ?_
      exact Or.inr ⟨rfl, rfl, fun h => c2 (fig_1.mpr h).2⟩
theorem c_tellColumns {y : Int32} : Ct X 0 d MX5_tellColumns [vR 5 0 p, vI y] w (qI fun z w' => (z = 1 ∧ ∃ j, 1 ≤ j ∧ j ≤ 6 ∧ y = nI j ∧ w' = uI w p 1 (nI j)) ∨ (z = 0 ∧ w' = w ∧ ¬ ∃ j, 1 ≤ j ∧ j ≤ 6 ∧ y = nI j)) := by
  refine Ct.of (by decide) rfl (Nat.le_of_ble_eq_true rfl) ?_
  show Wq _ _ _ _ 0 [(0, _), (1, _)] [] _ _
  refine R_iload_n (i := 1) (q := 1) dX5_tellColumns_0 rfl rfl rfl ?_
  refine R_iconst (v := nI 1) (q := 2) dX5_tellColumns_1 (by decide) rfl ?_
  refine R_icmp_lt (tgt := 11) (q := 5) dX5_tellColumns_2 (by decide) rfl (fun c1 => ?_) (fun c1 => ?_)
  · refine R_iconst (v := nI 0) (q := 12) dX5_tellColumns_11 (by decide) rfl ?_
    refine R_rz dX5_tellColumns_12 rfl (by decide) ?_
    exact Or.inr ⟨rfl, rfl, fun h => (fig_1.mpr h).1 c1⟩
  · refine R_iload_n (i := 1) (q := 6) dX5_tellColumns_5 rfl rfl rfl ?_
    refine R_bipush (v := nI 6) (q := 8) dX5_tellColumns_6 (by decide) rfl ?_
    refine R_icmp_le (tgt := 13) (q := 11) dX5_tellColumns_8 (by decide) rfl (fun c2 => ?_) (fun c2 => ?_)
    · obtain ⟨j, h1, h2, rfl⟩ := fig_1.mp ⟨c1, c2⟩
      refine R_aload_n (i := 0) (q := 14) dX5_tellColumns_13 rfl rfl rfl ?_
      refine R_iload_n (i := 1) (q := 15) dX5_tellColumns_14 rfl rfl rfl ?_
      refine R_putI (q := 18) dX5_tellColumns_15 fl_X5_15 rfl rfl ?_
      refine R_iconst (v := nI 1) (q := 19) dX5_tellColumns_18 (by decide) rfl ?_
      refine R_rz dX5_tellColumns_19 rfl (by decide) ?_
      exact Or.inl ⟨rfl, j, h1, h2, rfl, rfl⟩
    · refine R_iconst (v := nI 0) (q := 12) dX5_tellColumns_11 (by decide) rfl ?_
      refine R_rz dX5_tellColumns_12 rfl (by decide) ?_
      exact Or.inr ⟨rfl, rfl, fun h => c2 (fig_1.mpr h).2⟩
theorem c_hasRoom {a b n : Nat} (ha : w.1 p 0 = nI a) (hb : w.1 p 1 = nI b) (hn : w.1 p 2 = nI n) (ha6 : a ≤ 6) (hb6 : b ≤ 6) (hn20 : n ≤ 20) : Ct X 0 d MX5_hasRoom [vR 5 0 p] w (qI fun z w' => z = bI (n < 20 ∧ n < a * b) ∧ w' = w) := by
  have hab : a * b ≤ 6 * 6 := Nat.mul_le_mul ha6 hb6
  refine Ct.of (by decide) rfl (Nat.le_of_ble_eq_true rfl) ?_
  show Wq _ _ _ _ 0 [(0, _)] [] _ _
  refine R_aload_n (i := 0) (q := 1) dX5_hasRoom_0 rfl rfl rfl ?_
  refine R_getI' (q := 4) dX5_hasRoom_1 fl_X5_31 rfl (hn) rfl ?_
  refine R_bipush (v := nI 20) (q := 6) dX5_hasRoom_4 (by decide) rfl ?_
  refine R_icmp_geN (by omega) (by omega) (tgt := 29) (q := 9) dX5_hasRoom_6 (by decide) rfl (fun c1 => ?_) (fun c1 => ?_)
  · refine R_iconst (v := nI 0) (q := 30) dX5_hasRoom_29 (by decide) rfl ?_
    refine R_rz dX5_hasRoom_30 rfl (by decide) ?_
    exact ⟨(bI_f (fun h => by omega)).symm, rfl⟩
  · refine R_aload_n (i := 0) (q := 10) dX5_hasRoom_9 rfl rfl rfl ?_
    refine R_getI' (q := 13) dX5_hasRoom_10 fl_X5_31 rfl (hn) rfl ?_
    refine R_aload_n (i := 0) (q := 14) dX5_hasRoom_13 rfl rfl rfl ?_
    refine R_getI' (q := 17) dX5_hasRoom_14 fl_X5_9 rfl (ha) rfl ?_
    refine R_aload_n (i := 0) (q := 18) dX5_hasRoom_17 rfl rfl rfl ?_
    refine R_getI' (q := 21) dX5_hasRoom_18 fl_X5_15 rfl (hb) rfl ?_
    first | refine R_imulN (q := 22) dX5_hasRoom_21 rfl ?_ | refine R_imul (q := 22) dX5_hasRoom_21 rfl ?_
    refine R_icmp_geN (by omega) (by omega) (tgt := 29) (q := 25) dX5_hasRoom_22 (by decide) rfl (fun c2 => ?_) (fun c2 => ?_)
    · refine R_iconst (v := nI 0) (q := 30) dX5_hasRoom_29 (by decide) rfl ?_
      refine R_rz dX5_hasRoom_30 rfl (by decide) ?_
      exact ⟨(bI_f (fun h => by omega)).symm, rfl⟩
    · refine R_iconst (v := nI 1) (q := 26) dX5_hasRoom_25 (by decide) rfl ?_
      refine R_goto (q := 30) dX5_hasRoom_26 (by decide) ?_
      refine R_rz dX5_hasRoom_30 rfl (by decide) ?_
      exact ⟨(bI_t ⟨c1, c2⟩).symm, rfl⟩
theorem c_tellRow {S : Pic} {y : Int32} (hS : StA w p S) (hR6 : pR S ≤ 6) (hC6 : pC S ≤ 6) (hN : pN S ≤ 20) (hro : ∀ s, s < pN S → pro S s < pR S) : Ct X 0 (d + 1) MX5_tellRow [vR 5 0 p, vI y] w (qI fun z w' => (z = 1 ∧ ∃ j, j < pR S ∧ y = nI j ∧ (pN S < 20 ∧ pN S < pR S * pC S) ∧ ct (fun s => pro S s == j) (pN S) < pC S ∧ w' = uI w (5 :: p) (pN S) (nI j)) ∨ (z = 0 ∧ w' = w ∧ ¬ ∃ j, j < pR S ∧ y = nI j ∧ (pN S < 20 ∧ pN S < pR S * pC S) ∧ ct (fun s => pro S s == j) (pN S) < pC S)) := by
  obtain ⟨hR, hC, hn, hsh, hlo, hr5, hco, hdt⟩ := id hS
  refine Ct.of (by decide) rfl (Nat.le_of_ble_eq_true rfl) ?_
  show Wq _ _ _ _ 0 [(0, _), (1, _)] [] _ _
  refine R_iload_n (i := 1) (q := 1) dX5_tellRow_0 rfl rfl rfl ?_
  refine R_if_lt (tgt := 31) (q := 4) dX5_tellRow_1 (by decide) rfl (fun c1 => ?_) (fun c1 => ?_)
  · refine R_iconst (v := nI 0) (q := 32) dX5_tellRow_31 (by decide) rfl ?_
    refine R_rz dX5_tellRow_32 rfl (by decide) ?_
    exact Or.inr ⟨rfl, rfl, fun ⟨j, h1, h2, h3⟩ => nI_pos (by omega) (h2 ▸ c1)⟩
  · refine R_iload_n (i := 1) (q := 5) dX5_tellRow_4 rfl rfl rfl ?_
    refine R_aload_n (i := 0) (q := 6) dX5_tellRow_5 rfl rfl rfl ?_
    refine R_getI' (q := 9) dX5_tellRow_6 fl_X5_9 rfl (hR) rfl ?_
    refine R_icmp_ge (tgt := 31) (q := 12) dX5_tellRow_9 (by decide) rfl (fun c2 => ?_) (fun c2 => ?_)
    · refine R_iconst (v := nI 0) (q := 32) dX5_tellRow_31 (by decide) rfl ?_
      refine R_rz dX5_tellRow_32 rfl (by decide) ?_
      exact Or.inr ⟨rfl, rfl, fun ⟨j, h1, h2, h3⟩ => nI_ge h1 (by omega) (h2 ▸ c2)⟩
    · obtain ⟨j, hj, rfl⟩ := inN_ex (n := pR S) (by omega) ⟨c1, c2⟩
      refine R_aload_n (i := 0) (q := 13) dX5_tellRow_12 rfl rfl rfl ?_
      refine R_cV0i (M' := MX5_hasRoom) (q := 16) dX5_tellRow_13 ml_X5_49 mk_X5_hasRoom (Nat.le_of_ble_eq_true rfl) rfl (c_hasRoom hR hC hn hR6 hC6 hN) ?_
      rintro _ w ⟨rfl, rfl⟩
      refine R_if_eqB (tgt := 31) (q := 19) dX5_tellRow_16 (by decide) rfl (fun c3 => ?_) (fun c3 => ?_)
      · refine R_iconst (v := nI 0) (q := 32) dX5_tellRow_31 (by decide) rfl ?_
        refine R_rz dX5_tellRow_32 rfl (by decide) ?_
        exact Or.inr ⟨rfl, rfl, fun ⟨j, h1, h2, h3, h4⟩ => c3 h3⟩
      · refine R_aload_n (i := 0) (q := 20) dX5_tellRow_19 rfl rfl rfl ?_
        refine R_iload_n (i := 1) (q := 21) dX5_tellRow_20 rfl rfl rfl ?_
        refine R_cV1i (M' := MX5_shadesInRow) (q := 24) dX5_tellRow_21 ml_X5_53 mk_X5_shadesInRow (Nat.le_of_ble_eq_true rfl) rfl (c_shadesInRow hS hN (by omega) (fun s hs => by have := hro s hs; omega)) ?_
        rintro _ w ⟨rfl, rfl⟩
        refine R_aload_n (i := 0) (q := 25) dX5_tellRow_24 rfl rfl rfl ?_
        refine R_getI' (q := 28) dX5_tellRow_25 fl_X5_15 rfl (hC) rfl ?_
        have hcl := ct_le (fun s => pro S s == j) (pN S)
        refine R_icmp_ltN (by omega) (by omega) (tgt := 33) (q := 31) dX5_tellRow_28 (by decide) rfl (fun c4 => ?_) (fun c4 => ?_)
        · refine R_aload_n (i := 0) (q := 34) dX5_tellRow_33 rfl rfl rfl ?_
          refine R_getR (q := 37) dX5_tellRow_34 fl_X5_21 rfl (by decide) rfl ?_
          refine R_aload_n (i := 0) (q := 38) dX5_tellRow_37 rfl rfl rfl ?_
          refine R_getI' (q := 41) dX5_tellRow_38 fl_X5_31 rfl (hn) rfl ?_
          refine R_iload_n (i := 1) (q := 42) dX5_tellRow_41 rfl rfl rfl ?_
          refine R_iast (q := 43) dX5_tellRow_42 (rfl) (by omega) (by decide) rfl ?_
          refine R_iconst (v := nI 1) (q := 44) dX5_tellRow_43 (by decide) rfl ?_
          refine R_rz dX5_tellRow_44 rfl (by decide) ?_
          exact Or.inl ⟨rfl, j, hj, rfl, c3, c4, rfl⟩
        · refine R_iconst (v := nI 0) (q := 32) dX5_tellRow_31 (by decide) rfl ?_
          refine R_rz dX5_tellRow_32 rfl (by decide) ?_
          refine Or.inr ⟨rfl, rfl, ?_⟩
          rintro ⟨i, h1, h2, h3, h4⟩
          obtain rfl : j = i := (nI_eq (by omega) (by omega)).mp h2
          omega
theorem c_tellColumn {S : Pic} {y : Int32} {cr : Nat} (hS : StA w p S) (hcr : w.1 (5 :: p) (pN S) = nI cr) (hcr6 : cr < 6) (hR6 : pR S ≤ 6) (hC6 : pC S ≤ 6) (hN : pN S ≤ 20) (hro : ∀ s, s < pN S → pro S s < pR S ∧ pco S s < pC S) : Ct X 0 (d + 1) MX5_tellColumn [vR 5 0 p, vI y] w (qI fun z w' => (z = 1 ∧ ∃ j, j < pC S ∧ y = nI j ∧ (pN S < 20 ∧ pN S < pR S * pC S) ∧ (∀ s, s < pN S → ¬ (pro S s = cr ∧ pco S s = j)) ∧ w' = uI (uI w (6 :: p) (pN S) (nI j)) p 2 (nI (pN S + 1))) ∨ (z = 0 ∧ w' = w ∧ ¬ ∃ j, j < pC S ∧ y = nI j ∧ (pN S < 20 ∧ pN S < pR S * pC S) ∧ ∀ s, s < pN S → ¬ (pro S s = cr ∧ pco S s = j))) := by
  obtain ⟨hR, hC, hn, hsh, hlo, hr5, hco, hdt⟩ := id hS
  refine Ct.of (by decide) rfl (Nat.le_of_ble_eq_true rfl) ?_
  show Wq _ _ _ _ 0 [(0, _), (1, _)] [] _ _
  refine R_iload_n (i := 1) (q := 1) dX5_tellColumn_0 rfl rfl rfl ?_
  refine R_if_lt (tgt := 38) (q := 4) dX5_tellColumn_1 (by decide) rfl (fun c1 => ?_) (fun c1 => ?_)
  · refine R_iconst (v := nI 0) (q := 39) dX5_tellColumn_38 (by decide) rfl ?_
    refine R_rz dX5_tellColumn_39 rfl (by decide) ?_
    exact Or.inr ⟨rfl, rfl, fun ⟨j, h1, h2, h3⟩ => nI_pos (by omega) (h2 ▸ c1)⟩
  · refine R_iload_n (i := 1) (q := 5) dX5_tellColumn_4 rfl rfl rfl ?_
    refine R_aload_n (i := 0) (q := 6) dX5_tellColumn_5 rfl rfl rfl ?_
    refine R_getI' (q := 9) dX5_tellColumn_6 fl_X5_15 rfl (hC) rfl ?_
    refine R_icmp_ge (tgt := 38) (q := 12) dX5_tellColumn_9 (by decide) rfl (fun c2 => ?_) (fun c2 => ?_)
    · refine R_iconst (v := nI 0) (q := 39) dX5_tellColumn_38 (by decide) rfl ?_
      refine R_rz dX5_tellColumn_39 rfl (by decide) ?_
      exact Or.inr ⟨rfl, rfl, fun ⟨j, h1, h2, h3⟩ => nI_ge h1 (by omega) (h2 ▸ c2)⟩
    · obtain ⟨j, hj, rfl⟩ := inN_ex (n := pC S) (by omega) ⟨c1, c2⟩
      refine R_aload_n (i := 0) (q := 13) dX5_tellColumn_12 rfl rfl rfl ?_
      refine R_cV0i (M' := MX5_hasRoom) (q := 16) dX5_tellColumn_13 ml_X5_49 mk_X5_hasRoom (Nat.le_of_ble_eq_true rfl) rfl (c_hasRoom hR hC hn hR6 hC6 hN) ?_
      rintro _ w ⟨rfl, rfl⟩
      refine R_if_eqB (tgt := 38) (q := 19) dX5_tellColumn_16 (by decide) rfl (fun c3 => ?_) (fun c3 => ?_)
      · refine R_iconst (v := nI 0) (q := 39) dX5_tellColumn_38 (by decide) rfl ?_
        refine R_rz dX5_tellColumn_39 rfl (by decide) ?_
        exact Or.inr ⟨rfl, rfl, fun ⟨j, h1, h2, h3, h4⟩ => c3 h3⟩
      · refine R_aload_n (i := 0) (q := 20) dX5_tellColumn_19 rfl rfl rfl ?_
        refine R_aload_n (i := 0) (q := 21) dX5_tellColumn_20 rfl rfl rfl ?_
        refine R_getR (q := 24) dX5_tellColumn_21 fl_X5_21 rfl (by decide) rfl ?_
        refine R_aload_n (i := 0) (q := 25) dX5_tellColumn_24 rfl rfl rfl ?_
        refine R_getI' (q := 28) dX5_tellColumn_25 fl_X5_31 rfl (hn) rfl ?_
        refine R_iald' (q := 29) dX5_tellColumn_28 (rfl) (by omega) (by decide) (hcr) rfl ?_
        refine R_iload_n (i := 1) (q := 30) dX5_tellColumn_29 rfl rfl rfl ?_
        refine R_cV2i (M' := MX5_shadeIn) (q := 33) dX5_tellColumn_30 ml_X5_57 mk_X5_shadeIn (Nat.le_of_ble_eq_true rfl) rfl (c_shadeIn hS hN (by omega) (by omega) (fun s hs => by have := hro s hs; omega)) ?_
        rintro x w ⟨hx, rfl⟩
        refine R_bipush (v := (-9)) (q := 35) dX5_tellColumn_33 (by decide) rfl ?_
        refine R_icmp_eq (tgt := 40) (q := 38) dX5_tellColumn_35 (by decide) rfl (fun c4 => ?_) (fun c4 => ?_)
        · have hfree : ∀ s, s < pN S → ¬ (pro S s = cr ∧ pco S s = j) := by
            rcases hx with ⟨s, hs, _, _, rfl⟩ | ⟨h, _⟩
            · exact absurd c4 (fun h => by have := nI_pos (n := s) (by omega); rw [h] at this; exact this (by decide))
            · exact h
          refine R_aload_n (i := 0) (q := 41) dX5_tellColumn_40 rfl rfl rfl ?_
          refine R_getR (q := 44) dX5_tellColumn_41 fl_X5_25 rfl (by decide) rfl ?_
          refine R_aload_n (i := 0) (q := 45) dX5_tellColumn_44 rfl rfl rfl ?_
          refine R_getI' (q := 48) dX5_tellColumn_45 fl_X5_31 rfl (hn) rfl ?_
          refine R_iload_n (i := 1) (q := 49) dX5_tellColumn_48 rfl rfl rfl ?_
          refine R_iast (q := 50) dX5_tellColumn_49 (rfl) (by omega) (by decide) rfl ?_
          refine R_aload_n (i := 0) (q := 51) dX5_tellColumn_50 rfl rfl rfl ?_
          refine R_dup (q := 52) dX5_tellColumn_51 rfl rfl ?_
          refine R_getI' (q := 55) dX5_tellColumn_52 fl_X5_31 rfl ((uI_nep cns2).trans hn) rfl ?_
          refine R_iconst (v := nI 1) (q := 56) dX5_tellColumn_55 (by decide) rfl ?_
          first | refine R_iaddN (q := 57) dX5_tellColumn_56 rfl ?_ | refine R_iadd (q := 57) dX5_tellColumn_56 rfl ?_
          refine R_putI (q := 60) dX5_tellColumn_57 fl_X5_31 rfl rfl ?_
          refine R_iconst (v := nI 1) (q := 61) dX5_tellColumn_60 (by decide) rfl ?_
          refine R_rz dX5_tellColumn_61 rfl (by decide) ?_
          exact Or.inl ⟨rfl, j, hj, rfl, c3, hfree, rfl⟩
        · refine R_iconst (v := nI 0) (q := 39) dX5_tellColumn_38 (by decide) rfl ?_
          refine R_rz dX5_tellColumn_39 rfl (by decide) ?_
          refine Or.inr ⟨rfl, rfl, ?_⟩
          rintro ⟨i, h1, h2, h3, h4⟩
          obtain rfl : j = i := (nI_eq (by omega) (by omega)).mp h2
          rcases hx with ⟨s, hs, h5, h6, rfl⟩ | ⟨_, h⟩
          · exact h4 s hs ⟨h5, h6⟩
          · exact c4 h
end ST
