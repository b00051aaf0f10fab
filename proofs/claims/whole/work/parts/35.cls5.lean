/-! doings that are judged -/
def jd (T : Pic) (c a v : Nat) : Option Pic :=
  if c = 1 then (if a = 0 ∧ v < 4 then some (loP T v) else none)
  else if c = 2 then (if a = 0 ∧ v < 4 then some (shP T v) else none)
  else if c = 3 then (if (a < 4 ∧ v < 4) ∧ outN T (pH T) (pL T) (a * 4 + v) = pdt T (a * 4 + v) then some T else none)
  else if c = 4 then (if a = 0 ∧ v < 4 ∧ blk (pH T) (pL T) v = true then some T else none)
  else if c = 5 then (if a < pN T ∧ v < pN T ∧ a ≠ v then some (swP T a v) else none)
  else if c = 6 then (if msN T (pH T) (pL T) ≤ 10 * a + v then some T else none)
  else none
def OKj (T : Pic) : Prop := OKo T ∧ pH T < 4 ∧ pL T < 16
theorem OKS.j {S : Pic} (h : OKS S) : OKj S := ⟨h.o, h.2.2.2.1, h.2.2.2.2.1⟩
theorem OKj.step {T T' : Pic} {c a v : Nat} (h : OKj T) (e : jd T c a v = some T') : OKj T' := by
  unfold jd at e
  repeat' split at e
  all_goals first
    | (cases e; done)
    | (rename_i g; cases e; exact ⟨h.1, h.2.1, (xor_fin _ h.2.2 _ g.2).2⟩)
    | (rename_i g; cases e; exact ⟨h.1, g.2, h.2.2⟩)
    | (cases e; exact h)
    | (rename_i g; cases e; exact ⟨h.1.sw g.1 g.2.1, h.2.1, h.2.2⟩)
/-- the k-th doing of n, out of r -/
def dg (r n k : Nat) : Nat := r / 1000 ^ (n - 1 - k) % 1000
def jdG (r n : Nat) : Nat → Nat → Pic → Int32
  | 0, _, _ => -9
  | f + 1, k, T => match jd T (dg r n k / 100) (dg r n k / 10 % 10) (dg r n k % 10) with
    | none => nI k
    | some T' => jdG r n f (k + 1) T'
def rN (x : Int64) : Nat := x.toInt.toNat
def opJudge (A : Ab) (n : Int32) (row : Int64) : Int32 := if (inN n 5 ∧ ¬ n = 0) ∧ ¬ row < 0 ∧ row < dEl (cl n) then jdG (rN row) (cl n) (cl n) 0 (aP A) else -2
/-! drawing by the seed -/
def dz (z : Int64) : Nat → Int64
  | 0 => z
  | i + 1 => dz z i * 6364136223846793005 + 1442695040888963407
def dT (S : Pic) (z : Int64) : Nat → Pic
  | 0 => S
  | i + 1 => if pN S = 0 then dT S z i else dtP (dT S z i) (dvN (dz z (i + 1)) / 4 % 4 * 4 + dvN (dz z (i + 1)) % 4) (dvN (dz z (i + 1)) / 16 % pN S)
def dSum (S : Pic) (z : Int64) : Nat → Nat
  | 0 => 0
  | i + 1 => dSum S z i + msN (dT S z (i + 1)) (pH S) (pL S)
def opDrawn (A : Ab) (m : Int32) : Int32 × Ab := if inN m 21 ∧ ¬ m = 0 then (nI (dSum (aP A) (aZ A) (cl m)), (aN A, aX A, aP A, aA A, aK A, aM A, aL A, aV A, dz (aZ A) (cl m))) else (-2, A)
theorem dT_ok {S : Pic} {z : Int64} (h : OKo S) : ∀ i, OKo (dT S z i) ∧ pN (dT S z i) = pN S ∧ pH (dT S z i) = pH S ∧ pL (dT S z i) = pL S
  | 0 => ⟨h, rfl, rfl, rfl⟩
  | i + 1 => by
    have ih := dT_ok (z := z) h i
    simp only [dT]
    by_cases hn : pN S = 0
    · rw [if_pos hn]
      exact ih
    · rw [if_neg hn]
      refine ⟨⟨ih.1.1, ih.1.2.1, ?_⟩, ih.2.1, ih.2.2.1, ih.2.2.2⟩
      intro k hk
      show fnU (pdt (dT S z i)) _ _ k < 20
      unfold fnU
      split
      · have := Nat.mod_lt (dvN (dz z (i + 1)) / 16) (show 0 < pN S by omega)
        have := h.1
        omega
      · exact ih.1.2.2 k hk
section JU
variable {X : Cx} {d : Nat} {w : Wd} {A : Ab}
theorem c_triedPack {T : Pic} {v : Nat} (hT : StA w [2] T) (hl : pL T < 16) (hv : v < 2 ^ 31) : Ct X 0 (d + 1) MX7_triedPack [vR 7 0 [], vI (nI v)] w (qI fun z w' => ((v < 4 ∧ z = 1 ∧ StA w' [2] (loP T v)) ∨ (¬ v < 4 ∧ z = 0)) ∧ Fr FSc w w') := by
  refine Ct.of (by decide) rfl (Nat.le_of_ble_eq_true rfl) ?_
  show Wq _ _ _ _ 0 [(0, _), (1, _)] [] _ _
  refine R_iload_n (i := 1) (q := 1) dX7_triedPack_0 rfl rfl rfl ?_
  refine R_cS1i (M' := MX7_isPack) (q := 4) dX7_triedPack_1 ml_X7_189 mk_X7_isPack (Nat.le_of_ble_eq_true rfl) rfl (c_isPack) ?_
  rintro _ w ⟨rfl, rfl⟩
  refine R_if_neB (tgt := 9) (q := 7) dX7_triedPack_4 (by decide) rfl (fun c1 => ?_) (fun c1 => ?_)
  · have hv4 := (inN_nI hv (by decide)).mp c1
    refine R_aload_n (i := 0) (q := 10) dX7_triedPack_9 rfl rfl rfl ?_
    refine R_getR (q := 13) dX7_triedPack_10 fl_X7_23 rfl (by decide) rfl ?_
    refine R_iload_n (i := 1) (q := 14) dX7_triedPack_13 rfl rfl rfl ?_
    refine R_cV1v (M' := MX5_loseOrFind) (q := 17) dX7_triedPack_14 ml_X7_192 mk_X5_loseOrFind (Nat.le_of_ble_eq_true rfl) rfl (c_loseOrFind hT hl hv4) ?_
    rintro w1 ⟨hS1, hF1⟩
    refine R_iconst (v := nI 1) (q := 18) dX7_triedPack_17 (by decide) rfl ?_
    refine R_rz dX7_triedPack_18 rfl (by decide) ?_
    exact ⟨Or.inl ⟨hv4, rfl, hS1⟩, hF1.up (by decide)⟩
  · refine R_iconst (v := nI 0) (q := 8) dX7_triedPack_7 (by decide) rfl ?_
    refine R_rz dX7_triedPack_8 rfl (by decide) ?_
    exact ⟨Or.inr ⟨fun h => c1 ((inN_nI hv (by decide)).mpr h), rfl⟩, Fr.rf⟩
theorem c_triedShift {T : Pic} {v : Nat} (hT : StA w [2] T) (hv : v < 2 ^ 31) : Ct X 0 (d + 1) MX7_triedShift [vR 7 0 [], vI (nI v)] w (qI fun z w' => ((v < 4 ∧ z = 1 ∧ StA w' [2] (shP T v)) ∨ (¬ v < 4 ∧ z = 0)) ∧ Fr FSc w w') := by
  refine Ct.of (by decide) rfl (Nat.le_of_ble_eq_true rfl) ?_
  show Wq _ _ _ _ 0 [(0, _), (1, _)] [] _ _
  refine R_iload_n (i := 1) (q := 1) dX7_triedShift_0 rfl rfl rfl ?_
  refine R_cS1i (M' := MX7_isShift) (q := 4) dX7_triedShift_1 ml_X7_186 mk_X7_isShift (Nat.le_of_ble_eq_true rfl) rfl (c_isShift) ?_
  rintro _ w ⟨rfl, rfl⟩
  refine R_if_neB (tgt := 9) (q := 7) dX7_triedShift_4 (by decide) rfl (fun c1 => ?_) (fun c1 => ?_)
  · have hv4 := (inN_nI hv (by decide)).mp c1
    refine R_aload_n (i := 0) (q := 10) dX7_triedShift_9 rfl rfl rfl ?_
    refine R_getR (q := 13) dX7_triedShift_10 fl_X7_23 rfl (by decide) rfl ?_
    refine R_iload_n (i := 1) (q := 14) dX7_triedShift_13 rfl rfl rfl ?_
    refine R_putI (q := 17) dX7_triedShift_14 fl_X7_94 rfl rfl ?_
    refine R_iconst (v := nI 1) (q := 18) dX7_triedShift_17 (by decide) rfl ?_
    refine R_rz dX7_triedShift_18 rfl (by decide) ?_
    exact ⟨Or.inl ⟨hv4, rfl, StA_sh hT⟩, Fr.i (by decide)⟩
  · refine R_iconst (v := nI 0) (q := 8) dX7_triedShift_7 (by decide) rfl ?_
    refine R_rz dX7_triedShift_8 rfl (by decide) ?_
    exact ⟨Or.inr ⟨fun h => c1 ((inN_nI hv (by decide)).mpr h), rfl⟩, Fr.rf⟩
theorem c_comesOutRight {T : Pic} {k : Nat} (hT : StA w [2] T) (hj : OKj T) (hk : k < 16) : Ct X 0 (d + 4) MX7_comesOutRight [vR 7 0 [], vI (nI k)] w (qI fun z w' => z = bI (outN T (pH T) (pL T) k = pdt T k) ∧ StA w' [2] T ∧ Fr FSc w w') := by
  refine Ct.of (by decide) rfl (Nat.le_of_ble_eq_true rfl) ?_
  show Wq _ _ _ _ 0 [(0, _), (1, _)] [] _ _
  refine R_aload_n (i := 0) (q := 1) dX7_comesOutRight_0 rfl rfl rfl ?_
  refine R_getR (q := 4) dX7_comesOutRight_1 fl_X7_57 rfl (by decide) rfl ?_
  refine R_aload_n (i := 0) (q := 5) dX7_comesOutRight_4 rfl rfl rfl ?_
  refine R_getR (q := 8) dX7_comesOutRight_5 fl_X7_23 rfl (by decide) rfl ?_
  refine R_aload_n (i := 0) (q := 9) dX7_comesOutRight_8 rfl rfl rfl ?_
  refine R_getR (q := 12) dX7_comesOutRight_9 fl_X7_23 rfl (by decide) rfl ?_
  refine R_getI' (q := 15) dX7_comesOutRight_12 fl_X7_94 rfl (hT.2.2.2.1) rfl ?_
  refine R_aload_n (i := 0) (q := 16) dX7_comesOutRight_15 rfl rfl rfl ?_
  refine R_getR (q := 19) dX7_comesOutRight_16 fl_X7_23 rfl (by decide) rfl ?_
  refine R_getI' (q := 22) dX7_comesOutRight_19 fl_X7_97 rfl (hT.2.2.2.2.1) rfl ?_
  refine R_cV3v (M' := MX2_send) (q := 25) dX7_comesOutRight_22 ml_X7_160 mk_X2_send (Nat.le_of_ble_eq_true rfl) rfl (c_send hT hj.1 (Or.inr rfl) hj.2.1 hj.2.2) ?_
  rintro w1 ⟨hO, hF⟩
  have hT1 := hT.fr hF (by decide) (by decide) (by decide) (by decide)
  have b1 := outN_le (S := T) (sh := pH T) (lo := pL T) (k := k)
  have b2 := hj.1.2.2 k hk
  have b3 := hj.1.1
  refine R_aload_n (i := 0) (q := 26) dX7_comesOutRight_25 rfl rfl rfl ?_
  refine R_getR (q := 29) dX7_comesOutRight_26 fl_X7_57 rfl (by decide) rfl ?_
  refine R_getR (q := 32) dX7_comesOutRight_29 fl_X7_164 rfl (by decide) rfl ?_
  refine R_iload_n (i := 1) (q := 33) dX7_comesOutRight_32 rfl rfl rfl ?_
  refine R_iald' (q := 34) dX7_comesOutRight_33 (rfl) (by omega) (by decide) (hO.2 k hk) rfl ?_
  refine R_aload_n (i := 0) (q := 35) dX7_comesOutRight_34 rfl rfl rfl ?_
  refine R_getR (q := 38) dX7_comesOutRight_35 fl_X7_23 rfl (by decide) rfl ?_
  refine R_getR (q := 41) dX7_comesOutRight_38 fl_X7_157 rfl (by decide) rfl ?_
  refine R_iload_n (i := 1) (q := 42) dX7_comesOutRight_41 rfl rfl rfl ?_
  refine R_iald' (q := 43) dX7_comesOutRight_42 (rfl) (by omega) (by decide) (hT1.2.2.2.2.2.2.2 k hk) rfl ?_
  refine R_icmp_neN (by omega) (by omega) (tgt := 50) (q := 46) dX7_comesOutRight_43 (by decide) rfl (fun c1 => ?_) (fun c1 => ?_)
  · refine R_iconst (v := nI 0) (q := 51) dX7_comesOutRight_50 (by decide) rfl ?_
    refine R_rz dX7_comesOutRight_51 rfl (by decide) ?_
    exact ⟨(bI_f c1).symm, hT1, hF.up (by decide)⟩
  · refine R_iconst (v := nI 1) (q := 47) dX7_comesOutRight_46 (by decide) rfl ?_
    refine R_goto (q := 51) dX7_comesOutRight_47 (by decide) ?_
    refine R_rz dX7_comesOutRight_51 rfl (by decide) ?_
    exact ⟨(bI_t c1).symm, hT1, hF.up (by decide)⟩
theorem c_comesOutBlank {T : Pic} {k : Nat} (hT : StA w [2] T) (hj : OKj T) (hk : k < 2 ^ 31) : Ct X 0 (d + 4) MX7_comesOutBlank [vR 7 0 [], vI (nI k)] w (qI fun z w' => z = bI (k < 4 ∧ blk (pH T) (pL T) k = true) ∧ StA w' [2] T ∧ Fr FSc w w') := by
  refine Ct.of (by decide) rfl (Nat.le_of_ble_eq_true rfl) ?_
  show Wq _ _ _ _ 0 [(0, _), (1, _)] [] _ _
  refine R_iload_n (i := 1) (q := 1) dX7_comesOutBlank_0 rfl rfl rfl ?_
  refine R_if_lt (tgt := 9) (q := 4) dX7_comesOutBlank_1 (by decide) rfl (fun c1 => ?_) (fun c1 => ?_)
  · exact absurd c1 (nI_pos hk)
  · refine R_iload_n (i := 1) (q := 5) dX7_comesOutBlank_4 rfl rfl rfl ?_
    refine R_iconst (v := nI 4) (q := 6) dX7_comesOutBlank_5 (by decide) rfl ?_
    refine R_icmp_ltN (by omega) (by omega) (tgt := 11) (q := 9) dX7_comesOutBlank_6 (by decide) rfl (fun c2 => ?_) (fun c2 => ?_)
    · refine R_aload_n (i := 0) (q := 12) dX7_comesOutBlank_11 rfl rfl rfl ?_
      refine R_getR (q := 15) dX7_comesOutBlank_12 fl_X7_57 rfl (by decide) rfl ?_
      refine R_aload_n (i := 0) (q := 16) dX7_comesOutBlank_15 rfl rfl rfl ?_
      refine R_getR (q := 19) dX7_comesOutBlank_16 fl_X7_23 rfl (by decide) rfl ?_
      refine R_aload_n (i := 0) (q := 20) dX7_comesOutBlank_19 rfl rfl rfl ?_
      refine R_getR (q := 23) dX7_comesOutBlank_20 fl_X7_23 rfl (by decide) rfl ?_
      refine R_getI' (q := 26) dX7_comesOutBlank_23 fl_X7_94 rfl (hT.2.2.2.1) rfl ?_
      refine R_aload_n (i := 0) (q := 27) dX7_comesOutBlank_26 rfl rfl rfl ?_
      refine R_getR (q := 30) dX7_comesOutBlank_27 fl_X7_23 rfl (by decide) rfl ?_
      refine R_getI' (q := 33) dX7_comesOutBlank_30 fl_X7_97 rfl (hT.2.2.2.2.1) rfl ?_
      refine R_cV3v (M' := MX2_send) (q := 36) dX7_comesOutBlank_33 ml_X7_160 mk_X2_send (Nat.le_of_ble_eq_true rfl) rfl (c_send hT hj.1 (Or.inr rfl) hj.2.1 hj.2.2) ?_
      rintro w1 ⟨hO, hF⟩
      have hT1 := hT.fr hF (by decide) (by decide) (by decide) (by decide)
      refine R_aload_n (i := 0) (q := 37) dX7_comesOutBlank_36 rfl rfl rfl ?_
      refine R_getR (q := 40) dX7_comesOutBlank_37 fl_X7_57 rfl (by decide) rfl ?_
      refine R_getI' (q := 43) dX7_comesOutBlank_40 fl_X7_257 rfl (hO.1) rfl ?_
      refine R_iload_n (i := 1) (q := 44) dX7_comesOutBlank_43 rfl rfl rfl ?_
      refine R_ishr (q := 45) dX7_comesOutBlank_44 rfl ?_
      refine R_iconst (v := nI 1) (q := 46) dX7_comesOutBlank_45 (by decide) rfl ?_
      refine R_iand (q := 47) dX7_comesOutBlank_46 rfl ?_
      rw [shr_fin _ (bmN_lt _ 4) k c2, bit_bm _ k c2]
      refine R_iconst (v := nI 1) (q := 48) dX7_comesOutBlank_47 (by decide) rfl ?_
      have hb : (if blk (pH T) (pL T) k = true then 1 else 0) < 2 := by split <;> decide
      refine R_icmp_neN (by omega) (by omega) (tgt := 55) (q := 51) dX7_comesOutBlank_48 (by decide) rfl (fun c3 => ?_) (fun c3 => ?_)
      · refine R_iconst (v := nI 0) (q := 56) dX7_comesOutBlank_55 (by decide) rfl ?_
        refine R_rz dX7_comesOutBlank_56 rfl (by decide) ?_
        exact ⟨(bI_f (fun h => c3 (if_pos h.2))).symm, hT1, hF.up (by decide)⟩
      · refine R_iconst (v := nI 1) (q := 52) dX7_comesOutBlank_51 (by decide) rfl ?_
        refine R_goto (q := 56) dX7_comesOutBlank_52 (by decide) ?_
        refine R_rz dX7_comesOutBlank_56 rfl (by decide) ?_
        refine ⟨(bI_t ⟨c2, ?_⟩).symm, hT1, hF.up (by decide)⟩
        exact Classical.byContradiction (fun h => by rw [if_neg h] at c3; exact absurd c3 (by decide))
    · refine R_iconst (v := nI 0) (q := 10) dX7_comesOutBlank_9 (by decide) rfl ?_
      refine R_rz dX7_comesOutBlank_10 rfl (by decide) ?_
      exact ⟨(bI_f (fun h => by omega)).symm, hT, Fr.rf⟩
theorem c_triedChange {T : Pic} {a v : Nat} (hT : StA w [2] T) (hN : pN T ≤ 20) (ha : a < 2 ^ 31) (hv : v < 2 ^ 31) : Ct X 0 (d + 3) MX7_triedChange [vR 7 0 [], vI (nI a), vI (nI v)] w (qI fun z w' => (((a < pN T ∧ v < pN T ∧ a ≠ v) ∧ z = 1 ∧ StA w' [2] (swP T a v)) ∨ (¬ (a < pN T ∧ v < pN T ∧ a ≠ v) ∧ z = 0)) ∧ Fr FSc w w') := by
  refine Ct.of (by decide) rfl (Nat.le_of_ble_eq_true rfl) ?_
  show Wq _ _ _ _ 0 [(0, _), (1, _), (2, _)] [] _ _
  refine R_aload_n (i := 0) (q := 1) dX7_triedChange_0 rfl rfl rfl ?_
  refine R_getR (q := 4) dX7_triedChange_1 fl_X7_23 rfl (by decide) rfl ?_
  refine R_iload_n (i := 1) (q := 5) dX7_triedChange_4 rfl rfl rfl ?_
  refine R_cV1i (M' := MX5_hasShade) (q := 8) dX7_triedChange_5 ml_X7_125 mk_X5_hasShade (Nat.le_of_ble_eq_true rfl) rfl (c_hasShade hT.2.2.1) ?_
  rintro _ w ⟨rfl, rfl⟩
  refine R_if_eqB (tgt := 27) (q := 11) dX7_triedChange_8 (by decide) rfl (fun c1 => ?_) (fun c1 => ?_)
  · refine R_iconst (v := nI 0) (q := 28) dX7_triedChange_27 (by decide) rfl ?_
    refine R_rz dX7_triedChange_28 rfl (by decide) ?_
    exact ⟨Or.inr ⟨fun h => c1 ((inN_nI ha (by omega)).mpr h.1), rfl⟩, Fr.rf⟩
  · have ha2 := (inN_nI ha (by omega)).mp c1
    refine R_aload_n (i := 0) (q := 12) dX7_triedChange_11 rfl rfl rfl ?_
    refine R_getR (q := 15) dX7_triedChange_12 fl_X7_23 rfl (by decide) rfl ?_
    refine R_iload_n (i := 2) (q := 16) dX7_triedChange_15 rfl rfl rfl ?_
    refine R_cV1i (M' := MX5_hasShade) (q := 19) dX7_triedChange_16 ml_X7_125 mk_X5_hasShade (Nat.le_of_ble_eq_true rfl) rfl (c_hasShade hT.2.2.1) ?_
    rintro _ w ⟨rfl, rfl⟩
    refine R_if_eqB (tgt := 27) (q := 22) dX7_triedChange_19 (by decide) rfl (fun c2 => ?_) (fun c2 => ?_)
    · refine R_iconst (v := nI 0) (q := 28) dX7_triedChange_27 (by decide) rfl ?_
      refine R_rz dX7_triedChange_28 rfl (by decide) ?_
      exact ⟨Or.inr ⟨fun h => c2 ((inN_nI hv (by omega)).mpr h.2.1), rfl⟩, Fr.rf⟩
    · have hv2 := (inN_nI hv (by omega)).mp c2
      refine R_iload_n (i := 1) (q := 23) dX7_triedChange_22 rfl rfl rfl ?_
      refine R_iload_n (i := 2) (q := 24) dX7_triedChange_23 rfl rfl rfl ?_
      refine R_icmp_neN (by omega) (by omega) (tgt := 29) (q := 27) dX7_triedChange_24 (by decide) rfl (fun c3 => ?_) (fun c3 => ?_)
      · refine R_aload_n (i := 0) (q := 30) dX7_triedChange_29 rfl rfl rfl ?_
        refine R_getR (q := 33) dX7_triedChange_30 fl_X7_23 rfl (by decide) rfl ?_
        refine R_iload_n (i := 1) (q := 34) dX7_triedChange_33 rfl rfl rfl ?_
        refine R_iload_n (i := 2) (q := 35) dX7_triedChange_34 rfl rfl rfl ?_
        refine R_cV2v (M' := MX5_swap) (q := 38) dX7_triedChange_35 ml_X7_168 mk_X5_swap (Nat.le_of_ble_eq_true rfl) rfl (c_swap hT hN ha2 hv2) ?_
        rintro w1 ⟨hS1, hF1⟩
        refine R_iconst (v := nI 1) (q := 39) dX7_triedChange_38 (by decide) rfl ?_
        refine R_rz dX7_triedChange_39 rfl (by decide) ?_
        exact ⟨Or.inl ⟨⟨ha2, hv2, c3⟩, rfl, hS1⟩, hF1.up (by decide)⟩
      · refine R_iconst (v := nI 0) (q := 28) dX7_triedChange_27 (by decide) rfl ?_
        refine R_rz dX7_triedChange_28 rfl (by decide) ?_
        exact ⟨Or.inr ⟨fun h => h.2.2 c3, rfl⟩, Fr.rf⟩
theorem c_goesWell {T : Pic} {c a v : Nat} (hT : StA w [2] T) (hj : OKj T) (hc : c < 10) (ha : a < 10) (hv : v < 10) : Ct X 0 (d + 5) MX7_goesWell [vR 7 0 [], vI (nI c), vI (nI a), vI (nI v)] w (qI fun z w' => ((z = 1 ∧ ∃ T', jd T c a v = some T' ∧ StA w' [2] T') ∨ (z = 0 ∧ jd T c a v = none)) ∧ Fr FSc w w') := by
  refine Ct.of (by decide) rfl (Nat.le_of_ble_eq_true rfl) ?_
  show Wq _ _ _ _ 0 [(0, _), (1, _), (2, _), (3, _)] [] _ _
  refine R_iload_n (i := 1) (q := 1) dX7_goesWell_0 rfl rfl rfl ?_
  by_cases hin : 1 ≤ c ∧ c ≤ 6
  · rcases (show c = 1 ∨ c = 2 ∨ c = 3 ∨ c = 4 ∨ c = 5 ∨ c = 6 by omega) with rfl | rfl | rfl | rfl | rfl | rfl
    · have e : jd T 1 a v = if a = 0 ∧ v < 4 then some (loP T v) else none := by
        unfold jd
        rw [if_pos rfl]
      rw [e]
      refine R_tableIn (q := 40) dX7_goesWell_1 (by decide) (by decide) (by rfl) (by decide) ?_
      refine R_iload_n (i := 2) (q := 41) dX7_goesWell_40 rfl rfl rfl ?_
      refine R_if_neN (by omega) (tgt := 56) (q := 44) dX7_goesWell_41 (by decide) rfl (fun c1 => ?_) (fun c1 => ?_)
      · refine R_iconst (v := nI 0) (q := 57) dX7_goesWell_56 (by decide) rfl ?_
        refine R_rz dX7_goesWell_57 rfl (by decide) ?_
        exact ⟨Or.inr ⟨rfl, if_neg (fun h => c1 h.1)⟩, Fr.rf⟩
      · refine R_aload_n (i := 0) (q := 45) dX7_goesWell_44 rfl rfl rfl ?_
        refine R_iload_n (i := 3) (q := 46) dX7_goesWell_45 rfl rfl rfl ?_
        refine R_cV1i (M' := MX7_triedPack) (q := 49) dX7_goesWell_46 ml_X7_272 mk_X7_triedPack (Nat.le_of_ble_eq_true rfl) rfl (c_triedPack hT hj.2.2 (by omega)) ?_
        rintro z w1 ⟨hz, hF⟩
        rcases hz with ⟨h4, rfl, hS1⟩ | ⟨h4, rfl⟩
        · refine R_if_eq (tgt := 56) (q := 52) dX7_goesWell_49 (by decide) rfl (fun c2 => ?_) (fun c2 => ?_)
          · exact absurd c2 (by decide)
          · refine R_iconst (v := nI 1) (q := 53) dX7_goesWell_52 (by decide) rfl ?_
            refine R_goto (q := 57) dX7_goesWell_53 (by decide) ?_
            refine R_rz dX7_goesWell_57 rfl (by decide) ?_
            exact ⟨Or.inl ⟨rfl, _, if_pos ⟨c1, h4⟩, hS1⟩, hF⟩
        · refine R_if_eq (tgt := 56) (q := 52) dX7_goesWell_49 (by decide) rfl (fun c2 => ?_) (fun c2 => ?_)
          · refine R_iconst (v := nI 0) (q := 57) dX7_goesWell_56 (by decide) rfl ?_
            refine R_rz dX7_goesWell_57 rfl (by decide) ?_
            exact ⟨Or.inr ⟨rfl, if_neg (fun h => h4 h.2)⟩, hF⟩
          · exact absurd rfl c2
    · have e : jd T 2 a v = if a = 0 ∧ v < 4 then some (shP T v) else none := by
        unfold jd
        rw [if_neg (by decide), if_pos rfl]
      rw [e]
      refine R_tableIn (q := 58) dX7_goesWell_1 (by decide) (by decide) (by rfl) (by decide) ?_
      refine R_iload_n (i := 2) (q := 59) dX7_goesWell_58 rfl rfl rfl ?_
      refine R_if_neN (by omega) (tgt := 74) (q := 62) dX7_goesWell_59 (by decide) rfl (fun c1 => ?_) (fun c1 => ?_)
      · refine R_iconst (v := nI 0) (q := 75) dX7_goesWell_74 (by decide) rfl ?_
        refine R_rz dX7_goesWell_75 rfl (by decide) ?_
        exact ⟨Or.inr ⟨rfl, if_neg (fun h => c1 h.1)⟩, Fr.rf⟩
      · refine R_aload_n (i := 0) (q := 63) dX7_goesWell_62 rfl rfl rfl ?_
        refine R_iload_n (i := 3) (q := 64) dX7_goesWell_63 rfl rfl rfl ?_
        refine R_cV1i (M' := MX7_triedShift) (q := 67) dX7_goesWell_64 ml_X7_275 mk_X7_triedShift (Nat.le_of_ble_eq_true rfl) rfl (c_triedShift hT (by omega)) ?_
        rintro z w1 ⟨hz, hF⟩
        rcases hz with ⟨h4, rfl, hS1⟩ | ⟨h4, rfl⟩
        · refine R_if_eq (tgt := 74) (q := 70) dX7_goesWell_67 (by decide) rfl (fun c2 => ?_) (fun c2 => ?_)
          · exact absurd c2 (by decide)
          · refine R_iconst (v := nI 1) (q := 71) dX7_goesWell_70 (by decide) rfl ?_
            refine R_goto (q := 75) dX7_goesWell_71 (by decide) ?_
            refine R_rz dX7_goesWell_75 rfl (by decide) ?_
            exact ⟨Or.inl ⟨rfl, _, if_pos ⟨c1, h4⟩, hS1⟩, hF⟩
        · refine R_if_eq (tgt := 74) (q := 70) dX7_goesWell_67 (by decide) rfl (fun c2 => ?_) (fun c2 => ?_)
          · refine R_iconst (v := nI 0) (q := 75) dX7_goesWell_74 (by decide) rfl ?_
            refine R_rz dX7_goesWell_75 rfl (by decide) ?_
            exact ⟨Or.inr ⟨rfl, if_neg (fun h => h4 h.2)⟩, hF⟩
          · exact absurd rfl c2
    · have e : jd T 3 a v = if (a < 4 ∧ v < 4) ∧ outN T (pH T) (pL T) (a * 4 + v) = pdt T (a * 4 + v) then some T else none := by
        unfold jd
        rw [if_neg (by decide), if_neg (by decide), if_pos rfl]
      rw [e]
      refine R_tableIn (q := 76) dX7_goesWell_1 (by decide) (by decide) (by rfl) (by decide) ?_
      refine R_iload_n (i := 2) (q := 77) dX7_goesWell_76 rfl rfl rfl ?_
      refine R_iload_n (i := 3) (q := 78) dX7_goesWell_77 rfl rfl rfl ?_
      refine R_cS2i (M' := MX7_isDot) (q := 81) dX7_goesWell_78 ml_X7_154 mk_X7_isDot (Nat.le_of_ble_eq_true rfl) rfl (c_isDot) ?_
      rintro _ w ⟨rfl, rfl⟩
      refine R_if_eqB (tgt := 100) (q := 84) dX7_goesWell_81 (by decide) rfl (fun c1 => ?_) (fun c1 => ?_)
      · refine R_iconst (v := nI 0) (q := 101) dX7_goesWell_100 (by decide) rfl ?_
        refine R_rz dX7_goesWell_101 rfl (by decide) ?_
        exact ⟨Or.inr ⟨rfl, if_neg (fun h => c1 ⟨(inN_nI (by omega) (by decide)).mpr h.1.1, (inN_nI (by omega) (by decide)).mpr h.1.2⟩)⟩, Fr.rf⟩
      · have ha4 := (inN_nI (by omega) (by decide)).mp c1.1
        have hv4 := (inN_nI (by omega) (by decide)).mp c1.2
        refine R_aload_n (i := 0) (q := 85) dX7_goesWell_84 rfl rfl rfl ?_
        refine R_iload_n (i := 2) (q := 86) dX7_goesWell_85 rfl rfl rfl ?_
        refine R_iconst (v := nI 4) (q := 87) dX7_goesWell_86 (by decide) rfl ?_
        first | refine R_imulN (q := 88) dX7_goesWell_87 rfl ?_ | refine R_imul (q := 88) dX7_goesWell_87 rfl ?_
        refine R_iload_n (i := 3) (q := 89) dX7_goesWell_88 rfl rfl rfl ?_
        first | refine R_iaddN (q := 90) dX7_goesWell_89 rfl ?_ | refine R_iadd (q := 90) dX7_goesWell_89 rfl ?_
        refine R_cV1i (M' := MX7_comesOutRight) (q := 93) dX7_goesWell_90 ml_X7_278 mk_X7_comesOutRight (Nat.le_of_ble_eq_true rfl) rfl (c_comesOutRight hT hj (by omega)) ?_
        rintro _ w1 ⟨rfl, hT1, hF⟩
        refine R_if_eqB (tgt := 100) (q := 96) dX7_goesWell_93 (by decide) rfl (fun c2 => ?_) (fun c2 => ?_)
        · refine R_iconst (v := nI 0) (q := 101) dX7_goesWell_100 (by decide) rfl ?_
          refine R_rz dX7_goesWell_101 rfl (by decide) ?_
          exact ⟨Or.inr ⟨rfl, if_neg (fun h => c2 h.2)⟩, hF⟩
        · refine R_iconst (v := nI 1) (q := 97) dX7_goesWell_96 (by decide) rfl ?_
          refine R_goto (q := 101) dX7_goesWell_97 (by decide) ?_
          refine R_rz dX7_goesWell_101 rfl (by decide) ?_
          exact ⟨Or.inl ⟨rfl, _, if_pos ⟨⟨ha4, hv4⟩, c2⟩, hT1⟩, hF⟩
    · have e : jd T 4 a v = if a = 0 ∧ v < 4 ∧ blk (pH T) (pL T) v = true then some T else none := by
        unfold jd
        rw [if_neg (by decide), if_neg (by decide), if_neg (by decide), if_pos rfl]
      rw [e]
      refine R_tableIn (q := 102) dX7_goesWell_1 (by decide) (by decide) (by rfl) (by decide) ?_
      refine R_iload_n (i := 2) (q := 103) dX7_goesWell_102 rfl rfl rfl ?_
      refine R_if_neN (by omega) (tgt := 118) (q := 106) dX7_goesWell_103 (by decide) rfl (fun c1 => ?_) (fun c1 => ?_)
      · refine R_iconst (v := nI 0) (q := 119) dX7_goesWell_118 (by decide) rfl ?_
        refine R_rz dX7_goesWell_119 rfl (by decide) ?_
        exact ⟨Or.inr ⟨rfl, if_neg (fun h => c1 h.1)⟩, Fr.rf⟩
      · refine R_aload_n (i := 0) (q := 107) dX7_goesWell_106 rfl rfl rfl ?_
        refine R_iload_n (i := 3) (q := 108) dX7_goesWell_107 rfl rfl rfl ?_
        refine R_cV1i (M' := MX7_comesOutBlank) (q := 111) dX7_goesWell_108 ml_X7_281 mk_X7_comesOutBlank (Nat.le_of_ble_eq_true rfl) rfl (c_comesOutBlank hT hj (by omega)) ?_
        rintro _ w1 ⟨rfl, hT1, hF⟩
        refine R_if_eqB (tgt := 118) (q := 114) dX7_goesWell_111 (by decide) rfl (fun c2 => ?_) (fun c2 => ?_)
        · refine R_iconst (v := nI 0) (q := 119) dX7_goesWell_118 (by decide) rfl ?_
          refine R_rz dX7_goesWell_119 rfl (by decide) ?_
          exact ⟨Or.inr ⟨rfl, if_neg (fun h => c2 h.2)⟩, hF⟩
        · refine R_iconst (v := nI 1) (q := 115) dX7_goesWell_114 (by decide) rfl ?_
          refine R_goto (q := 119) dX7_goesWell_115 (by decide) ?_
          refine R_rz dX7_goesWell_119 rfl (by decide) ?_
          exact ⟨Or.inl ⟨rfl, _, if_pos ⟨c1, c2⟩, hT1⟩, hF⟩
    · have e : jd T 5 a v = if a < pN T ∧ v < pN T ∧ a ≠ v then some (swP T a v) else none := by
        unfold jd
        rw [if_neg (by decide), if_neg (by decide), if_neg (by decide), if_neg (by decide), if_pos rfl]
      rw [e]
      refine R_tableIn (q := 120) dX7_goesWell_1 (by decide) (by decide) (by rfl) (by decide) ?_
      refine R_aload_n (i := 0) (q := 121) dX7_goesWell_120 rfl rfl rfl ?_
      refine R_iload_n (i := 2) (q := 122) dX7_goesWell_121 rfl rfl rfl ?_
      refine R_iload_n (i := 3) (q := 123) dX7_goesWell_122 rfl rfl rfl ?_
      refine R_cV2i (M' := MX7_triedChange) (q := 126) dX7_goesWell_123 ml_X7_284 mk_X7_triedChange (Nat.le_of_ble_eq_true rfl) rfl (c_triedChange hT hj.1.1 (by omega) (by omega)) ?_
      rintro z w1 ⟨hz, hF⟩
      rcases hz with ⟨h4, rfl, hS1⟩ | ⟨h4, rfl⟩
      · refine R_rz dX7_goesWell_126 rfl (by decide) ?_
        exact ⟨Or.inl ⟨rfl, _, if_pos h4, hS1⟩, hF⟩
      · refine R_rz dX7_goesWell_126 rfl (by decide) ?_
        exact ⟨Or.inr ⟨rfl, if_neg h4⟩, hF⟩
    · have e : jd T 6 a v = if msN T (pH T) (pL T) ≤ 10 * a + v then some T else none := by
        unfold jd
        rw [if_neg (by decide), if_neg (by decide), if_neg (by decide), if_neg (by decide), if_neg (by decide), if_pos rfl]
      rw [e]
      refine R_tableIn (q := 127) dX7_goesWell_1 (by decide) (by decide) (by rfl) (by decide) ?_
      refine R_aload_n (i := 0) (q := 128) dX7_goesWell_127 rfl rfl rfl ?_
      refine R_getR (q := 131) dX7_goesWell_128 fl_X7_57 rfl (by decide) rfl ?_
      refine R_aload_n (i := 0) (q := 132) dX7_goesWell_131 rfl rfl rfl ?_
      refine R_getR (q := 135) dX7_goesWell_132 fl_X7_23 rfl (by decide) rfl ?_
      refine R_aload_n (i := 0) (q := 136) dX7_goesWell_135 rfl rfl rfl ?_
      refine R_getR (q := 139) dX7_goesWell_136 fl_X7_23 rfl (by decide) rfl ?_
      refine R_getI' (q := 142) dX7_goesWell_139 fl_X7_94 rfl (hT.2.2.2.1) rfl ?_
      refine R_aload_n (i := 0) (q := 143) dX7_goesWell_142 rfl rfl rfl ?_
      refine R_getR (q := 146) dX7_goesWell_143 fl_X7_23 rfl (by decide) rfl ?_
      refine R_getI' (q := 149) dX7_goesWell_146 fl_X7_97 rfl (hT.2.2.2.2.1) rfl ?_
      refine R_cV3i (M' := MX2_missBy) (q := 152) dX7_goesWell_149 ml_X7_104 mk_X2_missBy (Nat.le_of_ble_eq_true rfl) rfl (c_missBy hT hj.1 (Or.inr rfl) hj.2.1 hj.2.2) ?_
      rintro _ w1 ⟨rfl, hF⟩
      have hT1 := hT.fr hF (by decide) (by decide) (by decide) (by decide)
      have hb := msN_bd (sh := pH T) (lo := pL T) hj.1
      refine R_bipush (v := nI 10) (q := 154) dX7_goesWell_152 (by decide) rfl ?_
      refine R_iload_n (i := 2) (q := 155) dX7_goesWell_154 rfl rfl rfl ?_
      first | refine R_imulN (q := 156) dX7_goesWell_155 rfl ?_ | refine R_imul (q := 156) dX7_goesWell_155 rfl ?_
      refine R_iload_n (i := 3) (q := 157) dX7_goesWell_156 rfl rfl rfl ?_
      first | refine R_iaddN (q := 158) dX7_goesWell_157 rfl ?_ | refine R_iadd (q := 158) dX7_goesWell_157 rfl ?_
      refine R_icmp_gtN (by omega) (by omega) (tgt := 165) (q := 161) dX7_goesWell_158 (by decide) rfl (fun c1 => ?_) (fun c1 => ?_)
      · refine R_iconst (v := nI 0) (q := 166) dX7_goesWell_165 (by decide) rfl ?_
        refine R_rz dX7_goesWell_166 rfl (by decide) ?_
        exact ⟨Or.inr ⟨rfl, if_neg (by omega)⟩, hF.up (by decide)⟩
      · refine R_iconst (v := nI 1) (q := 162) dX7_goesWell_161 (by decide) rfl ?_
        refine R_goto (q := 166) dX7_goesWell_162 (by decide) ?_
        refine R_rz dX7_goesWell_166 rfl (by decide) ?_
        exact ⟨Or.inl ⟨rfl, _, if_pos c1, hT1⟩, hF.up (by decide)⟩
  · have e : jd T c a v = none := by
      unfold jd
      rw [if_neg (by omega), if_neg (by omega), if_neg (by omega), if_neg (by omega), if_neg (by omega), if_neg (by omega)]
    rw [e]
    refine R_tableOut (q := 167) dX7_goesWell_1 (by rw [nI_toInt (by omega)]; omega) (by decide) ?_
    refine R_iconst (v := nI 0) (q := 168) dX7_goesWell_167 (by decide) rfl ?_
    refine R_rz dX7_goesWell_168 rfl (by decide) ?_
    exact ⟨Or.inr ⟨rfl, rfl⟩, Fr.rf⟩
theorem dEl_p : ∀ k, k < 5 → dEl k = lN (1000 ^ k) := by decide
theorem l_judge {w0 : Wd} {r n : Nat} (hn : 1 ≤ n ∧ n ≤ 4) (hr : r < 1000 ^ n) : ∀ (f k : Nat) (w : Wd) (T : Pic), k + f = n → StA w [2] T → OKj T → Fr FSc w0 w → Wq X 0 (d + 6) MX7_judge 43 [(4, vI (nI k)), (0, vR 7 0 []), (1, vI (nI n)), (2, vL (lN r))] [] w (qI fun z w' => z = jdG r n f k T ∧ Fr FSc w0 w') := by
  have hr63 : r < 2 ^ 63 := by
    have : 1000 ^ n ≤ 1000 ^ 4 := Nat.pow_le_pow_right (by decide) hn.2
    omega
  intro f
  induction f with
  | zero =>
    intro k w T h1 hT hj hF
    refine R_iload (q := 45) dX7_judge_43 rfl rfl ?_
    refine R_iload_n (i := 1) (q := 46) dX7_judge_45 rfl rfl rfl ?_
    refine R_icmp_geN (by omega) (by omega) (tgt := 102) (q := 49) dX7_judge_46 (by decide) rfl (fun c1 => ?_) (fun c1 => ?_)
    · refine R_bipush (v := (-9)) (q := 104) dX7_judge_102 (by decide) rfl ?_
      refine R_ri dX7_judge_104 rfl ?_
      exact ⟨rfl, hF⟩
    · omega
  | succ f ih =>
    intro k w T h1 hT hj hF
    refine R_iload (q := 45) dX7_judge_43 rfl rfl ?_
    refine R_iload_n (i := 1) (q := 46) dX7_judge_45 rfl rfl rfl ?_
    refine R_icmp_geN (by omega) (by omega) (tgt := 102) (q := 49) dX7_judge_46 (by decide) rfl (fun c1 => ?_) (fun c1 => ?_)
    · omega
    · have hp : 1000 ^ (n - 1 - k) < 2 ^ 63 := by
        have : 1000 ^ (n - 1 - k) ≤ 1000 ^ 4 := Nat.pow_le_pow_right (by decide) (by omega)
        omega
      have hp0 : 0 < 1000 ^ (n - 1 - k) := Nat.pow_pos (by decide)
      have hdg : dg r n k < 1000 := Nat.mod_lt _ (by decide)
      refine R_lload_n (i := 2) (q := 50) dX7_judge_49 rfl rfl rfl ?_
      refine R_gets13 (q := 53) dX7_judge_50 lk_X7_199 rfl ?_
      refine R_iload_n (i := 1) (q := 54) dX7_judge_53 rfl rfl rfl ?_
      refine R_iconst (v := nI 1) (q := 55) dX7_judge_54 (by decide) rfl ?_
      refine R_isubN (by omega) (q := 56) dX7_judge_55 rfl ?_
      refine R_iload (q := 58) dX7_judge_56 rfl rfl ?_
      refine R_isubN (by omega) (q := 59) dX7_judge_58 rfl ?_
      refine R_lald13 (q := 60) dX7_judge_59 rfl (by omega) rfl ?_
      rw [dEl_p _ (by omega)]
      refine R_ldiv (q := 61) dX7_judge_60 (by rw [show (0 : Int64) = lN 0 from rfl, pk_lEQ hp (by decide)]; omega) rfl ?_
      rw [pk_lDiv hr63 hp0 hp]
      refine R_ldc2 (q := 64) dX7_judge_61 kc_X7_203 rfl ?_
      rw [show (1000 : Int64) = lN 1000 from rfl]
      refine R_lrem (q := 65) dX7_judge_64 (by decide) rfl ?_
      have hdv : r / 1000 ^ (n - 1 - k) < 2 ^ 63 := Nat.lt_of_le_of_lt (Nat.div_le_self _ _) hr63
      rw [pk_lRem hdv (by decide) (by decide)]
      refine R_l2i (q := 66) dX7_judge_65 rfl ?_
      rw [lN_i]
      rw [show nI (r / 1000 ^ (n - 1 - k) % 1000) = nI (dg r n k) from rfl]
      refine R_istore (q := 68) (loc' := [(5, _), (4, _), (0, _), (1, _), (2, _)]) dX7_judge_66 (by decide) (by rfl) rfl ?_
      refine R_aload_n (i := 0) (q := 69) dX7_judge_68 rfl rfl rfl ?_
      refine R_iload (q := 71) dX7_judge_69 rfl rfl ?_
      refine R_bipush (v := nI 100) (q := 73) dX7_judge_71 (by decide) rfl ?_
      refine R_idivN (by omega) (by omega) (by omega) (q := 74) dX7_judge_73 rfl ?_
      refine R_iload (q := 76) dX7_judge_74 rfl rfl ?_
      refine R_bipush (v := nI 10) (q := 78) dX7_judge_76 (by decide) rfl ?_
      refine R_idivN (by omega) (by omega) (by omega) (q := 79) dX7_judge_78 rfl ?_
      refine R_bipush (v := nI 10) (q := 81) dX7_judge_79 (by decide) rfl ?_
      refine R_iremN (by omega) (by omega) (by omega) (q := 82) dX7_judge_81 rfl ?_
      refine R_iload (q := 84) dX7_judge_82 rfl rfl ?_
      refine R_bipush (v := nI 10) (q := 86) dX7_judge_84 (by decide) rfl ?_
      refine R_iremN (by omega) (by omega) (by omega) (q := 87) dX7_judge_86 rfl ?_
      have hd1 : dg r n k / 100 < 10 := by omega
      have hd2 : dg r n k / 10 % 10 < 10 := Nat.mod_lt _ (by decide)
      have hd3 : dg r n k % 10 < 10 := Nat.mod_lt _ (by decide)
      refine R_cV3i (M' := MX7_goesWell) (q := 90) dX7_judge_87 ml_X7_205 mk_X7_goesWell (Nat.le_of_ble_eq_true rfl) rfl (c_goesWell hT hj hd1 hd2 hd3) ?_
      rintro z w1 ⟨hz, hF1⟩
      simp only [jdG]
      rcases hz with ⟨rfl, T', e, hT'⟩ | ⟨rfl, e⟩
      · rw [e]
        refine R_if_ne (tgt := 96) (q := 93) dX7_judge_90 (by decide) rfl (fun c2 => ?_) (fun c2 => ?_)
        · first | refine R_iincN (q := 99) (loc' := [(4, _), (5, _), (0, _), (1, _), (2, _)]) dX7_judge_96 (by rfl) (by decide) (by rfl) rfl ?_ | refine R_iinc (q := 99) (loc' := [(4, _), (5, _), (0, _), (1, _), (2, _)]) dX7_judge_96 (by rfl) (by rfl) (by decide) (by rfl) rfl ?_
          refine R_goto (q := 43) dX7_judge_99 (by decide) ?_
          refine R_loc [0, 2, 3, 4] (loc' := [(4, _), (0, _), (1, _), (2, _)]) (by rfl) ?_
          exact ih (k + 1) w1 T' (by omega) hT' (hj.step e) (hF.tr hF1)
        · exact absurd c2 (by decide)
      · rw [e]
        refine R_if_ne (tgt := 96) (q := 93) dX7_judge_90 (by decide) rfl (fun c2 => ?_) (fun c2 => ?_)
        · exact absurd rfl c2
        · refine R_iload (q := 95) dX7_judge_93 rfl rfl ?_
          refine R_ri dX7_judge_95 rfl ?_
          exact ⟨rfl, hF.tr hF1⟩
theorem lcmp_0 {x y : Int64} : lg_cmp x y < 0 ↔ x < y := lg_cmp_lt x y
theorem c_judge {n : Int32} {row : Int64} (hR : ClsR w A) (hA : AOK A) : Ct X 0 (d + 6) MX7_judge [vR 7 0 [], vI n, vL row] w (qI fun z w' => z = opJudge A n row ∧ ClsR w' A) := by
  unfold opJudge
  have n5 : n < nI 1 ∨ nI 4 < n ↔ ¬ (inN n 5 ∧ ¬ n = 0) := by
    have e : n = 0 ↔ n.toInt = 0 := by
      rw [← Int32.toInt_inj]
      rfl
    rw [e]
    unfold inN
    rw [Int32.lt_iff_toInt_lt, Int32.lt_iff_toInt_lt, Int32.lt_iff_toInt_lt, Int32.le_iff_toInt_le, show (nI 1).toInt = 1 from rfl, show (nI 4).toInt = 4 from rfl, show (nI 5).toInt = 5 from rfl, show (0 : Int32).toInt = 0 from rfl]
    omega
  refine Ct.of (by decide) rfl (Nat.le_of_ble_eq_true rfl) ?_
  show Wq _ _ _ _ 0 [(0, _), (1, _), (2, _)] [] _ _
  refine R_iload_n (i := 1) (q := 1) dX7_judge_0 rfl rfl rfl ?_
  refine R_iconst (v := nI 1) (q := 2) dX7_judge_1 (by decide) rfl ?_
  refine R_icmp_lt (tgt := 26) (q := 5) dX7_judge_2 (by decide) rfl (fun c1 => ?_) (fun c1 => ?_)
  · rw [if_neg (fun h => n5.mp (Or.inl c1) h.1)]
    refine R_bipush (v := (-2)) (q := 28) dX7_judge_26 (by decide) rfl ?_
    refine R_ri dX7_judge_28 rfl ?_
    exact ⟨rfl, hR⟩
  · refine R_iload_n (i := 1) (q := 6) dX7_judge_5 rfl rfl rfl ?_
    refine R_iconst (v := nI 4) (q := 7) dX7_judge_6 (by decide) rfl ?_
    refine R_icmp_gt (tgt := 26) (q := 10) dX7_judge_7 (by decide) rfl (fun c2 => ?_) (fun c2 => ?_)
    · rw [if_neg (fun h => n5.mp (Or.inr c2) h.1)]
      refine R_bipush (v := (-2)) (q := 28) dX7_judge_26 (by decide) rfl ?_
      refine R_ri dX7_judge_28 rfl ?_
      exact ⟨rfl, hR⟩
    · have hn := Classical.byContradiction (fun h => (n5.mpr h).elim c1 c2)
      obtain ⟨m, hm, rfl⟩ := inN_ex (by decide) hn.1
      have hm0 : m ≠ 0 := fun h => hn.2 (by rw [h]; rfl)
      rw [cl_nI (by omega)]
      refine R_lload_n (i := 2) (q := 11) dX7_judge_10 rfl rfl rfl ?_
      refine R_lconst (v := 0) (q := 12) dX7_judge_11 (by decide) rfl ?_
      refine R_lcmp (q := 13) dX7_judge_12 rfl ?_
      refine R_if_lt (tgt := 26) (q := 16) dX7_judge_13 (by decide) rfl (fun c3 => ?_) (fun c3 => ?_)
      · rw [if_neg (fun h => h.2.1 (lcmp_0.mp c3))]
        refine R_bipush (v := (-2)) (q := 28) dX7_judge_26 (by decide) rfl ?_
        refine R_ri dX7_judge_28 rfl ?_
        exact ⟨rfl, hR⟩
      · have hr0 : ¬ row < 0 := fun h => c3 (lcmp_0.mpr h)
        refine R_lload_n (i := 2) (q := 17) dX7_judge_16 rfl rfl rfl ?_
        refine R_gets13 (q := 20) dX7_judge_17 lk_X7_199 rfl ?_
        refine R_iload_n (i := 1) (q := 21) dX7_judge_20 rfl rfl rfl ?_
        refine R_lald13 (q := 22) dX7_judge_21 (rfl) (by omega) rfl ?_
        refine R_lcmp (q := 23) dX7_judge_22 rfl ?_
        refine R_if_lt (tgt := 29) (q := 26) dX7_judge_23 (by decide) rfl (fun c4 => ?_) (fun c4 => ?_)
        · have hlt := lcmp_0.mp c4
          rw [if_pos ⟨hn, hr0, hlt⟩]
          obtain ⟨r, hr, rfl⟩ := pk_lOf hr0
          rw [dEl_p m hm] at hlt
          have hp : 1000 ^ m < 2 ^ 63 := by
            have : 1000 ^ m ≤ 1000 ^ 4 := Nat.pow_le_pow_right (by decide) (by omega)
            omega
          have hlt2 := (pk_lLT hr hp).mp hlt
          rw [show rN (lN r) = r by unfold rN; rw [pk_lT hr]; rfl]
          refine R_aload_n (i := 0) (q := 30) dX7_judge_29 rfl rfl rfl ?_
          refine R_getR (q := 33) dX7_judge_30 fl_X7_23 rfl (by decide) rfl ?_
          refine R_aload_n (i := 0) (q := 34) dX7_judge_33 rfl rfl rfl ?_
          refine R_getR (q := 37) dX7_judge_34 fl_X7_19 rfl (by decide) rfl ?_
          refine R_cV1v (M' := MX5_copy) (q := 40) dX7_judge_37 ml_X7_77 mk_X5_copy (Nat.le_of_ble_eq_true rfl) rfl (c_copy (p := [2]) hR.2.1 hA.2.1.o.1 (by decide) (by simp)) ?_
          rintro w1 ⟨hS1, hF1⟩
          refine R_iconst (v := nI 0) (q := 41) dX7_judge_40 (by decide) rfl ?_
          refine R_istore (q := 43) (loc' := [(4, _), (0, _), (1, _), (2, _)]) dX7_judge_41 (by decide) (by rfl) rfl ?_
          refine R_loc [0, 1, 2, 3] (loc' := [(4, _), (0, _), (1, _), (2, _)]) (by rfl) ?_
          refine Wq_mono (l_judge (w0 := w) ⟨by omega, by omega⟩ hlt2 m 0 w1 (aP A) (by omega) hS1 hA.2.1.j (hF1.up (by decide))) ?_
          rintro z w2 ⟨h1, h2⟩
          exact ⟨h1, hR.sc h2⟩
        · rw [if_neg (fun h => c4 (lcmp_0.mpr h.2.2))]
          refine R_bipush (v := (-2)) (q := 28) dX7_judge_26 (by decide) rfl ?_
          refine R_ri dX7_judge_28 rfl ?_
          exact ⟨rfl, hR⟩
abbrev FSd : List (List Nat) := FSc
/-- nothing has changed but cells that hold nothing that lasts, and the seed -/
def Fz (F : List (List Nat)) (w w' : Wd) : Prop := ∀ q, q ∉ F → w'.1 q = w.1 q
theorem ClsR.zz {w' : Wd} {v : Int64} (h : ClsR w A) (hf : Fz FSc w w') (hz : w'.2 [] = v) : ClsR w' (aN A, aX A, aP A, aA A, aK A, aM A, aL A, aV A, v) := by
  have h1 : Fr FSc w (w'.1, w.2) := ⟨rfl, hf⟩
  have h2 := h.sc h1
  exact ⟨h2.1, h2.2.1, h2.2.2.1, h2.2.2.2.1, h2.2.2.2.2.1, hz⟩
theorem l_drawn {w0 : Wd} {m : Nat} (hm : m ≤ 20) (hR : ClsR w0 A) (hA : AOK A) : ∀ (f i : Nat) (w : Wd), m ≤ i + f → i ≤ m → StA w [2] (dT (aP A) (aZ A) i) → w.2 [] = dz (aZ A) i → Fz FSc w0 w → Wq X 0 (d + 5) MX7_drawn 29 [(3, vI (nI i)), (2, vI (nI (dSum (aP A) (aZ A) i))), (0, vR 7 0 []), (1, vI (nI m))] [] w (qI fun z w' => z = nI (dSum (aP A) (aZ A) m) ∧ w'.2 [] = dz (aZ A) m ∧ Fz FSc w0 w') := by
  intro f
  induction f with
  | zero =>
    intro i w h1 h2 hT hz hF
    refine R_iload_n (i := 3) (q := 30) dX7_drawn_29 rfl rfl rfl ?_
    refine R_iload_n (i := 1) (q := 31) dX7_drawn_30 rfl rfl rfl ?_
    refine R_icmp_geN (by omega) (by omega) (tgt := 99) (q := 34) dX7_drawn_31 (by decide) rfl (fun c1 => ?_) (fun c1 => ?_)
    · obtain rfl : i = m := by omega
      refine R_iload_n (i := 2) (q := 100) dX7_drawn_99 rfl rfl rfl ?_
      refine R_ri dX7_drawn_100 rfl ?_
      exact ⟨rfl, hz, hF⟩
    · omega
  | succ f ih =>
    intro i w h1 h2 hT hz hF
    refine R_iload_n (i := 3) (q := 30) dX7_drawn_29 rfl rfl rfl ?_
    refine R_iload_n (i := 1) (q := 31) dX7_drawn_30 rfl rfl rfl ?_
    refine R_icmp_geN (by omega) (by omega) (tgt := 99) (q := 34) dX7_drawn_31 (by decide) rfl (fun c1 => ?_) (fun c1 => ?_)
    · obtain rfl : i = m := by omega
      refine R_iload_n (i := 2) (q := 100) dX7_drawn_99 rfl rfl rfl ?_
      refine R_ri dX7_drawn_100 rfl ?_
      exact ⟨rfl, hz, hF⟩
    · have hok := dT_ok (z := aZ A) hA.2.1.o i
      have hok1 := dT_ok (z := aZ A) hA.2.1.o (i + 1)
      obtain ⟨hOK1, hOK2, hOK3, hOK4, hOK5, -⟩ := id hA.2.1
      refine R_aload_n (i := 0) (q := 35) dX7_drawn_34 rfl rfl rfl ?_
      refine R_aload_n (i := 0) (q := 36) dX7_drawn_35 rfl rfl rfl ?_
      refine R_getL (q := 39) dX7_drawn_36 fl_X7_236 rfl rfl ?_
      refine R_ldc2 (q := 42) dX7_drawn_39 kc_X7_240 rfl ?_
      refine R_lmul (q := 43) dX7_drawn_42 rfl ?_
      refine R_ldc2 (q := 46) dX7_drawn_43 kc_X7_242 rfl ?_
      refine R_ladd (q := 47) dX7_drawn_46 rfl ?_
      refine R_putL (q := 50) dX7_drawn_47 fl_X7_236 rfl one7 rfl ?_
      refine R_aload_n (i := 0) (q := 51) dX7_drawn_50 rfl rfl rfl ?_
      refine R_getR (q := 54) dX7_drawn_51 fl_X7_23 rfl (by decide) rfl ?_
      refine R_aload_n (i := 0) (q := 55) dX7_drawn_54 rfl rfl rfl ?_
      refine R_getL (q := 58) dX7_drawn_55 fl_X7_236 rfl rfl ?_
      rw [uL_same, hz, show dz (aZ A) i * 6364136223846793005 + 1442695040888963407 = dz (aZ A) (i + 1) from rfl]
      refine R_bipush (v := nI 33) (q := 60) dX7_drawn_58 (by decide) rfl ?_
      refine R_lushr (q := 61) dX7_drawn_60 rfl ?_
      refine R_l2i (q := 62) dX7_drawn_61 rfl ?_
      rw [sh33]
      refine R_cV1v (M' := MX5_paintBy) (q := 65) dX7_drawn_62 ml_X7_244 mk_X5_paintBy (Nat.le_of_ble_eq_true rfl) rfl (c_paintBy (S := dT (aP A) (aZ A) i) (w := uL w [] (dz (aZ A) (i + 1))) hT hok.1.1 (dvN_lt _)) ?_
      rintro w1 ⟨hS1, hF1⟩
      have hS2 : StA w1 [2] (dT (aP A) (aZ A) (i + 1)) := by
        simp only [dT]
        rw [hok.2.1] at hS1
        exact hS1
      refine R_iload_n (i := 2) (q := 66) dX7_drawn_65 rfl rfl rfl ?_
      refine R_aload_n (i := 0) (q := 67) dX7_drawn_66 rfl rfl rfl ?_
      refine R_getR (q := 70) dX7_drawn_67 fl_X7_57 rfl (by decide) rfl ?_
      refine R_aload_n (i := 0) (q := 71) dX7_drawn_70 rfl rfl rfl ?_
      refine R_getR (q := 74) dX7_drawn_71 fl_X7_23 rfl (by decide) rfl ?_
      refine R_aload_n (i := 0) (q := 75) dX7_drawn_74 rfl rfl rfl ?_
      refine R_getR (q := 78) dX7_drawn_75 fl_X7_23 rfl (by decide) rfl ?_
      refine R_getI' (q := 81) dX7_drawn_78 fl_X7_94 rfl (hS2.2.2.2.1) rfl ?_
      refine R_aload_n (i := 0) (q := 82) dX7_drawn_81 rfl rfl rfl ?_
      refine R_getR (q := 85) dX7_drawn_82 fl_X7_23 rfl (by decide) rfl ?_
      refine R_getI' (q := 88) dX7_drawn_85 fl_X7_97 rfl (hS2.2.2.2.2.1) rfl ?_
      rw [hok1.2.2.1, hok1.2.2.2]
      refine R_cV3i (M' := MX2_missBy) (q := 91) dX7_drawn_88 ml_X7_104 mk_X2_missBy (Nat.le_of_ble_eq_true rfl) rfl (c_missBy hS2 hok1.1 (Or.inr rfl) hOK4 hOK5) ?_
      rintro _ w2 ⟨rfl, hF2⟩
      first | refine R_iaddN (q := 92) dX7_drawn_91 rfl ?_ | refine R_iadd (q := 92) dX7_drawn_91 rfl ?_
      refine R_istore_n (i := 2) (q := 93) (loc' := [(2, _), (3, _), (0, _), (1, _)]) dX7_drawn_92 rfl (by decide) (by rfl) rfl ?_
      first | refine R_iincN (q := 96) (loc' := [(3, _), (2, _), (0, _), (1, _)]) dX7_drawn_93 (by rfl) (by decide) (by rfl) rfl ?_ | refine R_iinc (q := 96) (loc' := [(3, _), (2, _), (0, _), (1, _)]) dX7_drawn_93 (by rfl) (by rfl) (by decide) (by rfl) rfl ?_
      refine R_goto (q := 29) dX7_drawn_96 (by decide) ?_
      refine R_loc [0, 1, 2, 3] (loc' := [(3, _), (2, _), (0, _), (1, _)]) (by rfl) ?_
      refine ih (i + 1) w2 (by omega) (by omega) (hS2.fr hF2 (by decide) (by decide) (by decide) (by decide)) ?_ ?_
      · rw [hF2.1, hF1.1]
        exact uL_same _ _ _
      · intro q hq
        rw [hF2.2 q (fun h => hq ((show ∀ q, q ∈ FO → q ∈ FSc by decide) q h)), hF1.2 q (fun h => hq ((show ∀ q, q ∈ [[7, 2]] → q ∈ FSc by decide) q h))]
        exact hF q hq
theorem c_drawn {m : Int32} (hR : ClsR w A) (hA : AOK A) : Ct X 0 (d + 6) MX7_drawn [vR 7 0 [], vI m] w (qI fun z w' => z = (opDrawn A m).1 ∧ ClsR w' (opDrawn A m).2) := by
  unfold opDrawn
  have n5 : (¬ m < nI 1 ∧ m ≤ nI 20) ↔ (inN m 21 ∧ ¬ m = 0) := by
    have e : m = 0 ↔ m.toInt = 0 := by
      rw [← Int32.toInt_inj]
      rfl
    rw [e]
    unfold inN
    rw [Int32.lt_iff_toInt_lt, Int32.lt_iff_toInt_lt, Int32.le_iff_toInt_le, Int32.le_iff_toInt_le, show (nI 1).toInt = 1 from rfl, show (nI 20).toInt = 20 from rfl, show (nI 21).toInt = 21 from rfl, show (0 : Int32).toInt = 0 from rfl]
    omega
  refine Ct.of (by decide) rfl (Nat.le_of_ble_eq_true rfl) ?_
  show Wq _ _ _ _ 0 [(0, _), (1, _)] [] _ _
  refine R_iload_n (i := 1) (q := 1) dX7_drawn_0 rfl rfl rfl ?_
  refine R_iconst (v := nI 1) (q := 2) dX7_drawn_1 (by decide) rfl ?_
  refine R_icmp_lt (tgt := 11) (q := 5) dX7_drawn_2 (by decide) rfl (fun c1 => ?_) (fun c1 => ?_)
  · rw [if_neg (fun h => (n5.mpr h).1 c1)]
    refine R_bipush (v := (-2)) (q := 13) dX7_drawn_11 (by decide) rfl ?_
    refine R_ri dX7_drawn_13 rfl ?_
    exact ⟨rfl, hR⟩
  · refine R_iload_n (i := 1) (q := 6) dX7_drawn_5 rfl rfl rfl ?_
    refine R_bipush (v := nI 20) (q := 8) dX7_drawn_6 (by decide) rfl ?_
    refine R_icmp_le (tgt := 14) (q := 11) dX7_drawn_8 (by decide) rfl (fun c2 => ?_) (fun c2 => ?_)
    · have hn := n5.mp ⟨c1, c2⟩
      rw [if_pos hn]
      obtain ⟨k, hk, rfl⟩ := inN_ex (by decide) hn.1
      rw [cl_nI (by omega)]
      refine R_aload_n (i := 0) (q := 15) dX7_drawn_14 rfl rfl rfl ?_
      refine R_getR (q := 18) dX7_drawn_15 fl_X7_23 rfl (by decide) rfl ?_
      refine R_aload_n (i := 0) (q := 19) dX7_drawn_18 rfl rfl rfl ?_
      refine R_getR (q := 22) dX7_drawn_19 fl_X7_19 rfl (by decide) rfl ?_
      refine R_cV1v (M' := MX5_copy) (q := 25) dX7_drawn_22 ml_X7_77 mk_X5_copy (Nat.le_of_ble_eq_true rfl) rfl (c_copy (p := [2]) hR.2.1 hA.2.1.o.1 (by decide) (by simp)) ?_
      rintro w1 ⟨hS1, hF1⟩
      refine R_iconst (v := nI 0) (q := 26) dX7_drawn_25 (by decide) rfl ?_
      refine R_istore_n (i := 2) (q := 27) (loc' := [(2, _), (0, _), (1, _)]) dX7_drawn_26 rfl (by decide) (by rfl) rfl ?_
      refine R_iconst (v := nI 0) (q := 28) dX7_drawn_27 (by decide) rfl ?_
      refine R_istore_n (i := 3) (q := 29) (loc' := [(3, _), (2, _), (0, _), (1, _)]) dX7_drawn_28 rfl (by decide) (by rfl) rfl ?_
      refine Wq_mono (l_drawn (w0 := w) (by omega) hR hA k 0 w1 (by omega) (by omega) hS1 ?_ ?_) ?_
      · rw [hF1.1]
        exact hR.2.2.2.2.2
      · exact (hF1.up (by decide)).2
      · rintro z w2 ⟨h1, h2, h3⟩
        exact ⟨h1, hR.zz h3 h2⟩
    · rw [if_neg (fun h => c2 (n5.mpr h).2)]
      refine R_bipush (v := (-2)) (q := 13) dX7_drawn_11 (by decide) rfl ?_
      refine R_ri dX7_drawn_13 rfl ?_
      exact ⟨rfl, hR⟩
end JU
